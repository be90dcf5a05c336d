/-- where everything lies, from the class's address mm on -/
def xLay (mm : Nat) (Sh : jS) (M : jM) : Prop := ((Sh mm).1 = 10 ∧ M.2.2 mm 0 = some (mm + 13) ∧ M.2.2 mm 1 = some (mm + 50) ∧ M.2.2 mm 2 = some (mm + 93) ∧ M.2.2 mm 3 = some (mm + 428) ∧ M.2.2 mm 4 = some (mm + 431)) ∧ wLay (mm + 13) (mm + 14) (mm + 12) (mm + 7) (mm + 1) (mm + 4) Sh M ∧ wLay (mm + 50) (mm + 57) (mm + 56) (mm + 51) (mm + 1) (mm + 4) Sh M ∧ jLay (mm + 1) Sh M ∧ mLay (mm + 4) Sh M ∧ lLay (mm + 7) Sh M ∧ lLay (mm + 51) Sh M ∧ aLay (mm + 93) Sh M ∧ (∀ i, i < 9 → wLay (aW (mm + 93) i) (aW (mm + 93) i + 1) (mm + 12) (mm + 7) (mm + 1) (mm + 4) Sh M) ∧ cLay (mm + 428) Sh M ∧ sLay (mm + 431) Sh M ∧ rLay (mm + 440) Sh M
/-- one text, on both sides -/
def tR (B lw : Nat) (Sh : jS) (M : jM) (N : Nat → Int64) (cs : Nat → Int32) (t : Nat) : Prop := (M.2.2 (lw + 1) t = none ∧ N (302 + t) = 0) ∨ ∃ ca tx, M.2.2 (lw + 1) t = some ca ∧ B ≤ ca ∧ cdOk Sh M ca tx ∧ (∀ sa, M.2.2 ca 0 = some sa → B ≤ sa) ∧ N (302 + t) = 1 ∧ tOk cs (168 * t) tx
/-- a world of the class and a row of the reference -/
def wR (w q pr lw B : Nat) (Sh : jS) (M : jM) (N : Nat → Int64) (cs : Nat → Int32) (d pe pa la : Nat) (LT : Nat → sT) : Prop := nQ True d pe pa la (vK w q pr lw M) N ∧ nOk N d pe pa la ∧ nB N d pe ∧ nS N pa ∧ lRep B lw la LT Sh M ∧ (∀ l, l < la → tOk cs (168 * (5 + l)) (LT l)) ∧ (∀ l, la ≤ l → l < 12 → M.2.2 (lw + 2) l = none) ∧ ∀ t, t < 5 → tR B lw Sh M N cs t
def sE (c r : Int32) : Prop := (c = 0 ↔ r = 0) ∧ (c = nI 1 ↔ r = nI 1)
/-- one sheet, on both sides -/
def shR (mm : Nat) (M : jM) (s : Nat) : Prop := ∃ m, m ≤ 20 ∧ M.1 (mm + 431 + 1 + 2 * s) 1 = M.1 (mm + 447) s ∧ (M.1 (mm + 447) s = 0 ∨ M.1 (mm + 447) s = nI 8 ∨ M.1 (mm + 447) s = nI 16 ∨ M.1 (mm + 447) s = nI 32) ∧ M.1 (mm + 431 + 1 + 2 * s) 2 = nI m ∧ M.1 (mm + 448) s = nI m ∧ ∀ k, k < m → sE (M.1 (mm + 431 + 1 + 2 * s + 1) k) (M.1 (mm + 449) (20 * s + k))
def iR (mm : Nat) (Sh : jS) (M : jM) : Prop := (M.1 mm 5 = 0 ∧ M.1 (mm + 440) 5 = 0) ∨ (M.1 mm 5 = nI 1 ∧ M.1 (mm + 440) 5 = nI 1 ∧ ∃ d pe pa la LT, wR (mm + 50) (mm + 57) (mm + 56) (mm + 51) (mm + 455) Sh M (M.2.1 (mm + 443)) (M.1 (mm + 445)) d pe pa la LT)
def REL (mm f sz : Nat) (Sh : jS) (M : jM) (d pe pa la : Nat) (LT : Nat → sT) : Prop := xLay mm Sh M ∧ (mm + 455 ≤ sz ∧ ∀ b, sz ≤ b → ¬ (Sh b).1 < 20) ∧ wR (mm + 13) (mm + 14) (mm + 12) (mm + 7) (mm + 455) Sh M (M.2.1 (mm + 441)) (M.1 (mm + 444)) d pe pa la LT ∧ iR mm Sh M ∧ (∃ T n, cTp (mm + 428) M T n ∧ rTp (mm + 440) M T n) ∧ (∀ s, s < 4 → shR mm M s) ∧ M.2.1 mm 6 = lN f ∧ M.1 (mm + 440) 6 = nI f
/-- the class's cells that a call may leave otherwise -/
def cS (mm b : Nat) : Prop := aS (mm + 93) (mm + 12) (mm + 1) (mm + 4) b ∨ wS0 (mm + 13) (mm + 14) (mm + 12) b
def cT (mm b : Nat) : Prop := cS mm b ∨ b = mm ∨ rSc (mm + 440) b ∨ b = mm + 440
theorem cT_lt {mm b : Nat} (h : cT mm b) : b < mm + 455 := by unfold cT cS aS wS0 rSc at h; omega
theorem xLay.e {mm : Nat} {Sh : jS} {M M2 : jM} (h : xLay mm Sh M) (e : M2.2.2 = M.2.2) : xLay mm Sh M2 := by
  unfold xLay wLay jLay mLay lLay aLay cLay sLay shLay rLay at h ⊢
  rw [e]
  exact h
theorem tR.mv {B lw : Nat} {Sh : jS} {M M2 : jM} {N N2 : Nat → Int64} {cs cs2 : Nat → Int32} {t : Nat} {S : Nat → Prop} (h : tR B lw Sh M N cs t) (e : mEq S M M2) (hS : ∀ b, S b → b < B) (hN : N2 (302 + t) = N (302 + t)) (hc : cs2 = cs) : tR B lw Sh M2 N2 cs2 t := by
  subst hc
  unfold tR at h ⊢
  rw [e.2.2, hN]
  rcases h with h | ⟨ca, tx, h1, h2, h3, h4, h5, h6⟩
  · exact Or.inl h
  · exact Or.inr ⟨ca, tx, h1, h2, h3.mv e hS h2 h4, h4, h5, h6⟩
theorem wR.mv {w q pr lw B : Nat} {Sh : jS} {M M2 : jM} {N N2 : Nat → Int64} {cs cs2 : Nat → Int32} {d pe pa la d2 pe2 pa2 : Nat} {LT : Nat → sT} {S : Nat → Prop} (h : wR w q pr lw B Sh M N cs d pe pa la LT) (e : mEq S M M2) (hS : ∀ b, S b → b < B) (hc : cs2 = cs) (hq : nQ True d2 pe2 pa2 la (vK w q pr lw M2) N2) (hO : nOk N2 d2 pe2 pa2 la) (hB : nB N2 d2 pe2) (hs : nS N2 pa2) (hT : ∀ t, t < 5 → N2 (302 + t) = N (302 + t)) : wR w q pr lw B Sh M2 N2 cs2 d2 pe2 pa2 la LT := by
  obtain ⟨-, -, -, -, h1, h2, h3, h4⟩ := h
  exact ⟨hq, hO, hB, hs, h1.mv e hS, by rw [hc]; exact h2, fun l hl hl2 => by rw [e.2.2]; exact h3 l hl hl2, fun t ht => (h4 t ht).mv e hS (hT t ht) hc⟩
theorem wR.same {w q pr lw B : Nat} {Sh : jS} {M M2 : jM} {N N2 : Nat → Int64} {cs cs2 : Nat → Int32} {d pe pa la : Nat} {LT : Nat → sT} {S : Nat → Prop} (h : wR w q pr lw B Sh M N cs d pe pa la LT) (e : mEq S M M2) (hS : ∀ b, S b → b < B) (hc : cs2 = cs) (hN : N2 = N) (hv : vK w q pr lw M2 = vK w q pr lw M) : wR w q pr lw B Sh M2 N2 cs2 d pe pa la LT := by
  subst hN
  exact h.mv e hS hc (by rw [hv]; exact h.1) h.2.1 h.2.2.1 h.2.2.2.1 (fun _ _ => rfl)
theorem xB_eq {S : Nat → Prop} {mm : Nat} {M M1 : jM} {b : Bool} (h : mEq S (xB mm M b) M1) : mEq (fun a => S a ∨ a = mm) M M1 := by
  have h0 : mEq (fun a => a = mm) M (xB mm M b) := by
    unfold xB
    split
    · exact mEq.rf.L rfl
    · exact mEq.rf
  exact (h0.mono (fun _ h => Or.inr h)).tr (h.mono (fun _ h => Or.inl h))
theorem rB_eq {S : Nat → Prop} {o : Nat} {M M1 : jM} {b : Bool} (h : mEq S (rB o M b) M1) : mEq (fun a => S a ∨ a = o) M M1 := by
  have h0 : mEq (fun a => a = o) M (rB o M b) := by
    unfold rB rBad
    split
    · exact mEq.rf.I rfl
    · exact mEq.rf
  exact (h0.mono (fun _ h => Or.inr h)).tr (h.mono (fun _ h => Or.inl h))
theorem iR.mv {mm : Nat} {Sh : jS} {M M2 : jM} {S : Nat → Prop} (h : iR mm Sh M) (e : mEq S M M2) (hS : ∀ b, S b → b < mm + 455) (h1 : M2.1 mm 5 = M.1 mm 5) (h2 : M2.1 (mm + 440) 5 = M.1 (mm + 440) 5) (hK : ∀ b, (50 + mm ≤ b ∧ b < mm + 93) → ¬ S b) (h3 : ¬ S (mm + 443)) (h4 : ¬ S (mm + 445)) : iR mm Sh M2 := by
  rcases h with ⟨a, b⟩ | ⟨a, b, d, pe, pa, la, LT, hw⟩
  · exact Or.inl ⟨h1.trans a, h2.trans b⟩
  · exact Or.inr ⟨h1.trans a, h2.trans b, d, pe, pa, la, LT, hw.same e hS (e.1 _ h4) (e.2.1 _ h3) (vK_mEq e (fun b hb => hK b (by unfold wS0 at hb; omega)))⟩
theorem shR.mv {mm s : Nat} {M M2 : jM} (hs : s < 4) (h : shR mm M s) (e : ∀ b, (mm + 432 ≤ b ∧ b < mm + 440) ∨ (mm + 447 ≤ b ∧ b < mm + 450) → M2.1 b = M.1 b) : shR mm M2 s := by
  unfold shR at h ⊢
  rw [e (mm + 431 + 1 + 2 * s) (by omega), e (mm + 431 + 1 + 2 * s + 1) (by omega), e (mm + 447) (by omega), e (mm + 448) (by omega), e (mm + 449) (by omega)]
  exact h
theorem REL.world {mm f sz : Nat} {Sh : jS} {M M1 M2 : jM} {d pe pa la d2 pe2 pa2 : Nat} {LT : Nat → sT} {b : Bool} {N2 : Nat → Int64} (h : REL mm f sz Sh M d pe pa la LT) (e1 : mEq (cS mm) (xB mm M b) M1) (e2 : mEq (rSc (mm + 440)) (rB (mm + 440) M1 b) M2) (e3 : M2.2.1 (mm + 441) = N2) (hq : nQ True d2 pe2 pa2 la (vK (mm + 13) (mm + 14) (mm + 12) (mm + 7) M1) N2) (hO : nOk N2 d2 pe2 pa2 la) (hB : nB N2 d2 pe2) (hS : nS N2 pa2) (hT : ∀ t, t < 5 → N2 (302 + t) = M.2.1 (mm + 441) (302 + t)) : REL mm (if b then f + 1 else f) sz Sh M2 d2 pe2 pa2 la LT := by
  obtain ⟨hL, hz, hw, hi, ⟨T, n, ht1, ht2⟩, hs, hf1, hf2⟩ := h
  have a1 := xB_eq e1
  have a2 := rB_eq e2
  have eT : mEq (cT mm) M M2 := (a1.mono (fun x hx => hx.elim (fun h => Or.inl h) (fun h => Or.inr (Or.inl h)))).tr (a2.mono (fun x hx => hx.elim (fun h => Or.inr (Or.inr (Or.inl h))) (fun h => Or.inr (Or.inr (Or.inr h)))))
  have hlt : ∀ x, cT mm x → x < mm + 455 := fun x hx => cT_lt hx
  have nc : ∀ x, ¬ cT mm x → M2.1 x = M.1 x ∧ M2.2.1 x = M.2.1 x := fun x hx => ⟨eT.1 x hx, eT.2.1 x hx⟩
  have NS : ∀ x, (50 + mm ≤ x ∧ x < mm + 93) ∨ (mm + 428 ≤ x ∧ x < mm + 440) ∨ (mm + 443 ≤ x ∧ x < mm + 451) → ¬ cT mm x := fun x hx hc => by unfold cT cS aS wS0 rSc at hc; omega
  have vv : vK (mm + 13) (mm + 14) (mm + 12) (mm + 7) M2 = vK (mm + 13) (mm + 14) (mm + 12) (mm + 7) M1 := vK_mEq a2 (fun x hx hc => by unfold wS0 at hx; unfold rSc at hc; omega)
  have m1 : M1.1 mm = M.1 mm := by
    have := e1.1 mm (fun hc => by unfold cS aS wS0 at hc; omega)
    rw [this]; unfold xB; split <;> rfl
  have m2 : M2.1 mm = M1.1 mm := a2.1 mm (fun hc => by unfold rSc at hc; omega)
  have l1 : M1.2.1 mm 6 = if b then M.2.1 mm 6 + 1 else M.2.1 mm 6 := by
    rw [e1.2.1 mm (fun hc => by unfold cS aS wS0 at hc; omega)]
    unfold xB
    cases b
    · rfl
    · exact upLs
  have l2 : M2.2.1 mm = M1.2.1 mm := a2.2.1 mm (fun hc => by unfold rSc at hc; omega)
  have o1 : M1.1 (mm + 440) = M.1 (mm + 440) := a1.1 _ (fun hc => by unfold cS aS wS0 at hc; omega)
  have o2 : ∀ j, M2.1 (mm + 440) j = if b = true ∧ j = 6 then M.1 (mm + 440) 6 + 1 else M.1 (mm + 440) j := fun j => by
    rw [e2.1 (mm + 440) (fun hc => by unfold rSc at hc; omega)]
    unfold rB rBad
    cases b
    · simp only [Bool.false_eq_true, false_and, if_false]; rw [o1]
    · simp only [if_true, true_and]
      by_cases c : j = 6
      · subst c; rw [if_pos rfl, upIs, o1]
      · rw [if_neg c, upI (by omega), o1]
  refine ⟨hL.e eT.2.2, hz, ?_, ?_, ⟨T, n, ?_, ?_⟩, fun s hs4 => (hs s hs4).mv hs4 (fun x hx => (nc x (NS x (by omega))).1), ?_, ?_⟩
  · rw [e3, (nc (mm + 444) (NS _ (by omega))).1]
    exact hw.mv eT hlt rfl (by rw [vv]; exact hq) hO hB hS hT
  · exact hi.mv eT hlt (congrFun (m2.trans m1) 5) (by rw [o2 5, if_neg (by omega)]) (fun x hx => NS x (by omega)) (NS _ (by omega)) (NS _ (by omega))
  · unfold cTp at ht1 ⊢
    rw [(nc (mm + 428) (NS _ (by omega))).1, (nc (mm + 428 + 1) (NS _ (by omega))).1]
    exact ht1
  · unfold rTp at ht2 ⊢
    rw [o2 8, if_neg (by omega), (nc (mm + 440 + 6) (NS _ (by omega))).1]
    exact ht2
  · rw [l2, l1, hf1]
    cases b
    · rfl
    · exact lN_1 f
  · rw [o2 6, hf2]
    cases b
    · rfl
    · exact nI_1 f
