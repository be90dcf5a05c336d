theorem wLay.g {w q pr lw jg mk : Nat} {Sh Sh2 : jS} {M M2 : jM} (h : wLay w q pr lw jg mk Sh M) (hS : ∀ b, b = w ∨ (q ≤ b ∧ b < q + 36) ∨ b = pr ∨ b = lw ∨ b = jg ∨ b = mk → Sh2 b = Sh b) (hR : ∀ b, b = w ∨ b = q ∨ b = q + 1 → M2.2.2 b = M.2.2 b) : wLay w q pr lw jg mk Sh2 M2 := by
  obtain ⟨⟨a1, a2, a3, a4, a5, a6, a7, a8, a9⟩, ⟨b1, b2, b3, b4, b5, b6, b7, b8⟩, hD⟩ := h
  refine ⟨⟨?_, ?_, ?_, ?_, ?_, ?_, ?_, fun i hi => ?_, fun j hj => ?_⟩, ⟨?_, ?_, ?_, ?_, ?_, ?_, fun i hi => ?_, fun j hj => ?_⟩, hD⟩
  · rw [hS w (by omega)]; exact a1
  · rw [hS q (by omega)]; exact a2
  · rw [hS (q + 1) (by omega)]; exact a3
  · rw [hS pr (by omega)]; exact a4
  · rw [hS lw (by omega)]; exact a5
  · rw [hS jg (by omega)]; exact a6
  · rw [hS mk (by omega)]; exact a7
  · rw [hS (q + 2 + i) (by omega)]; exact a8 i hi
  · rw [hS (q + 12 + j) (by omega)]; exact a9 j hj
  · rw [hR w (by omega)]; exact b1
  · rw [hR w (by omega)]; exact b2
  · rw [hR w (by omega)]; exact b3
  · rw [hR w (by omega)]; exact b4
  · rw [hR w (by omega)]; exact b5
  · rw [hR w (by omega)]; exact b6
  · rw [hR q (by omega)]; exact b7 i hi
  · rw [hR (q + 1) (by omega)]; exact b8 j hj
theorem lLay.g {lw : Nat} {Sh Sh2 : jS} {M M2 : jM} (h : lLay lw Sh M) (hS : ∀ b, lw ≤ b → b < lw + 5 → Sh2 b = Sh b) (hR : M2.2.2 lw = M.2.2 lw) : lLay lw Sh2 M2 := by
  unfold lLay at h ⊢
  rw [hS lw (by omega) (by omega), hS (lw + 1) (by omega) (by omega), hS (lw + 2) (by omega) (by omega), hS (lw + 3) (by omega) (by omega), hS (lw + 4) (by omega) (by omega), hR]
  exact h
theorem xLay.g {mm : Nat} {Sh Sh2 : jS} {M M2 : jM} (h : xLay mm Sh M) (hS : ∀ b, mm ≤ b → b < mm + 455 → Sh2 b = Sh b) (hR : ∀ b, mm ≤ b → b < mm + 455 → b ≠ mm + 8 → b ≠ mm + 9 → b ≠ mm + 52 → b ≠ mm + 53 → M2.2.2 b = M.2.2 b) : xLay mm Sh2 M2 := by
  obtain ⟨h1, h2, h3, h4, h5, h6, h7, h8, h9, h10, h11, h12⟩ := h
  refine ⟨?_, h2.g (fun b hb => hS b (by omega) (by omega)) (fun b hb => hR b (by omega) (by omega) (by omega) (by omega) (by omega) (by omega)), h3.g (fun b hb => hS b (by omega) (by omega)) (fun b hb => hR b (by omega) (by omega) (by omega) (by omega) (by omega) (by omega)), ?_, ?_, h6.g (fun b hb hc => hS b (by omega) (by omega)) (hR _ (by omega) (by omega) (by omega) (by omega) (by omega) (by omega)), h7.g (fun b hb hc => hS b (by omega) (by omega)) (hR _ (by omega) (by omega) (by omega) (by omega) (by omega) (by omega)), ?_, fun i hi => (h9 i hi).g (fun b hb => hS b (by unfold aW at hb; omega) (by unfold aW at hb; omega)) (fun b hb => hR b (by unfold aW at hb; omega) (by unfold aW at hb; omega) (by unfold aW at hb; omega) (by unfold aW at hb; omega) (by unfold aW at hb; omega) (by unfold aW at hb; omega)), ?_, ?_, ?_⟩
  · rw [hS mm (by omega) (by omega), hR mm (by omega) (by omega) (by omega) (by omega) (by omega) (by omega)]; exact h1
  · unfold jLay at h4 ⊢
    rw [hS (mm + 1) (by omega) (by omega), hS (mm + 1 + 1) (by omega) (by omega), hS (mm + 1 + 2) (by omega) (by omega), hR (mm + 1) (by omega) (by omega) (by omega) (by omega) (by omega) (by omega)]; exact h4
  · unfold mLay at h5 ⊢
    rw [hS (mm + 4) (by omega) (by omega), hS (mm + 4 + 1) (by omega) (by omega), hS (mm + 4 + 2) (by omega) (by omega), hR (mm + 4) (by omega) (by omega) (by omega) (by omega) (by omega) (by omega)]; exact h5
  · unfold aLay at h8 ⊢
    rw [hS (mm + 93) (by omega) (by omega), hS (mm + 93 + 1) (by omega) (by omega), hR (mm + 93) (by omega) (by omega) (by omega) (by omega) (by omega) (by omega), hR (mm + 93 + 1) (by omega) (by omega) (by omega) (by omega) (by omega) (by omega)]; exact h8
  · unfold cLay at h10 ⊢
    rw [hS (mm + 428) (by omega) (by omega), hS (mm + 428 + 1) (by omega) (by omega), hS (mm + 428 + 2) (by omega) (by omega), hR (mm + 428) (by omega) (by omega) (by omega) (by omega) (by omega) (by omega)]; exact h10
  · refine ⟨by rw [hS (mm + 431) (by omega) (by omega)]; exact h11.1, fun s hs => ?_⟩
    have := h11.2 s hs
    unfold shLay at this ⊢
    rw [hS (mm + 431 + 1 + 2 * s) (by omega) (by omega), hS (mm + 431 + 1 + 2 * s + 1) (by omega) (by omega), hR (mm + 431) (by omega) (by omega) (by omega) (by omega) (by omega) (by omega), hR (mm + 431 + 1 + 2 * s) (by omega) (by omega) (by omega) (by omega) (by omega) (by omega)]
    exact this
  · unfold rLay at h12 ⊢
    rw [hS (mm + 440) (by omega) (by omega), hS (mm + 440 + 1) (by omega) (by omega), hS (mm + 440 + 2) (by omega) (by omega), hS (mm + 440 + 3) (by omega) (by omega), hS (mm + 440 + 4) (by omega) (by omega), hS (mm + 440 + 5) (by omega) (by omega), hS (mm + 440 + 6) (by omega) (by omega), hS (mm + 440 + 7) (by omega) (by omega), hS (mm + 440 + 8) (by omega) (by omega), hS (mm + 440 + 9) (by omega) (by omega), hS (mm + 440 + 10) (by omega) (by omega), hS (mm + 440 + 11) (by omega) (by omega), hS (mm + 440 + 12) (by omega) (by omega), hS (mm + 440 + 13) (by omega) (by omega), hS (mm + 440 + 14) (by omega) (by omega), hR (mm + 440) (by omega) (by omega) (by omega) (by omega) (by omega) (by omega)]
    exact h12
/-- what stands from B on below sz is as it was -/
def hi_ (B sz : Nat) (Sh Sh2 : jS) (M M2 : jM) : Prop := ∀ b, B ≤ b → b < sz → Sh2 b = Sh b ∧ M2.1 b = M.1 b ∧ M2.2.2 b = M.2.2 b
theorem cdOk.g {B sz ca : Nat} {Sh Sh2 : jS} {M M2 : jM} {t : sT} (h : cdOk Sh M ca t) (hB : B ≤ ca) (hs : ∀ sa, M.2.2 ca 0 = some sa → B ≤ sa) (hh : hi_ B sz Sh Sh2 M M2) (hz : ∀ b, sz ≤ b → ¬ (Sh b).1 < 20) : cdOk Sh2 M2 ca t ∧ ∀ sa, M2.2.2 ca 0 = some sa → B ≤ sa := by
  obtain ⟨h1, sa, h2, h3, h4, h5, h6, h7⟩ := h
  have c1 : ca < sz := by
    rcases Nat.lt_or_ge ca sz with e | e
    · exact e
    · exact absurd (by rw [h1]; decide) (hz ca e)
  have c2 : sa < sz := by
    rcases Nat.lt_or_ge sa sz with e | e
    · exact e
    · exact absurd (by rw [h3]; exact (by decide : (13 : Nat) < 20)) (hz sa e)
  have g1 := hh ca hB c1
  have g2 := hh sa (hs sa h2) c2
  refine ⟨⟨by rw [g1.1]; exact h1, sa, by rw [g1.2.2]; exact h2, by rw [g2.1]; exact h3, by rw [g1.2.1]; exact h4, by rw [g1.2.1]; exact h5, by rw [g2.2.1]; exact h6, h7⟩, fun z hz2 => ?_⟩
  rw [g1.2.2] at hz2
  exact hs z hz2
theorem tOk.g {cs cs2 : Nat → Int32} {b b2 : Nat} {t : sT} (h : tOk cs b t) (e : ∀ j, j < 168 → cs2 (b2 + j) = cs (b + j)) : tOk cs2 b2 t := by
  obtain ⟨h1, h2, h3, h4, h5⟩ := h
  refine ⟨h1, h2, h3, fun i x hx => ?_, h5⟩
  have hl := (List.getElem?_eq_some_iff.mp hx).1
  simp only [List.length_append, List.length_cons, List.length_nil] at hl
  rw [e i (by omega)]
  exact h4 i x hx
theorem tR.g {B sz lw lw2 : Nat} {Sh Sh2 : jS} {M M2 : jM} {N N2 : Nat → Int64} {cs cs2 : Nat → Int32} {t : Nat} (h : tR B lw Sh M N cs t) (hh : hi_ B sz Sh Sh2 M M2) (hz : ∀ b, sz ≤ b → ¬ (Sh b).1 < 20) (hr : M2.2.2 (lw2 + 1) t = M.2.2 (lw + 1) t) (hN : N2 (302 + t) = N (302 + t)) (hc : ∀ j, j < 168 → cs2 (168 * t + j) = cs (168 * t + j)) : tR B lw2 Sh2 M2 N2 cs2 t := by
  unfold tR at h ⊢
  rw [hr, hN]
  rcases h with h | ⟨ca, tx, h1, h2, h3, h4, h5, h6⟩
  · exact Or.inl h
  · have g := h3.g h2 h4 hh hz
    exact Or.inr ⟨ca, tx, h1, h2, g.1, g.2, h5, h6.g hc⟩
/-- a world as another: the same numbers, codes and texts -/
theorem wR.g {w q pr lw w2 q2 pr2 lw2 B sz : Nat} {Sh Sh2 : jS} {M M2 : jM} {N N2 : Nat → Int64} {cs cs2 : Nat → Int32} {d pe pa la : Nat} {LT : Nat → sT} (h : wR w q pr lw B Sh M N cs d pe pa la LT) (hq : nQ True d pe pa la (vK w2 q2 pr2 lw2 M2) (vK w q pr lw M)) (hN : ∀ k, k < 611 → N2 k = N k) (hc : ∀ j, j < 2856 → cs2 j = cs j) (hh : hi_ B sz Sh Sh2 M M2) (hz : ∀ b, sz ≤ b → ¬ (Sh b).1 < 20) (hr1 : ∀ t, t < 5 → M2.2.2 (lw2 + 1) t = M.2.2 (lw + 1) t) (hr2 : ∀ l, l < 12 → M2.2.2 (lw2 + 2) l = M.2.2 (lw + 2) l) : wR w2 q2 pr2 lw2 B Sh2 M2 N2 cs2 d pe pa la LT := by
  obtain ⟨h1, h2, h3, h4, h5, h6, h7, h8⟩ := h
  have hd3 := h2.1.2
  have hpe := h2.2.1.2
  have hpa := h2.2.2.1.2
  have hla := h2.2.2.2.1.2
  have qN : nQ True d pe pa la N2 N := fun k hk => hN k (by unfold nIn at hk; omega)
  refine ⟨(hq.tr h1).tr qN.sy, h2.q qN, h3.q qN, h4.q qN, fun l hl => ?_, fun l hl => (h6 l hl).g (fun j hj => hc _ (by omega)), fun l hl hl2 => (hr2 l hl2).trans (h7 l hl hl2), fun t ht => (h8 t ht).g hh hz (hr1 t ht) (hN _ (by omega)) (fun j hj => hc _ (by omega))⟩
  obtain ⟨ca, c1, c2, c3, c4⟩ := h5 l hl
  have g := c3.g c2 c4 hh hz
  exact ⟨ca, (hr2 l (by omega)).trans c1, c2, g.1, g.2⟩
theorem REL_5 {mm f sz : Nat} {Sh : jS} {M : jM} {d pe pa la : Nat} {LT : Nat → sT} (h : REL mm f sz Sh M d pe pa la LT) : M.1 (mm + 13) 6 = nI pe ∧ M.1 (mm + 13) 7 = nI pa := by
  have hO := REL_nOk h
  exact ⟨i32_of (v := vK (mm + 13) (mm + 14) (mm + 12) (mm + 7) M 4) (by rw [vK_4]) hO.2.1.1, i32_of (v := vK (mm + 13) (mm + 14) (mm + 12) (mm + 7) M 5) (by rw [vK_5]) hO.2.2.1.1⟩
theorem wR_cls {w q pr lw B : Nat} {Sh : jS} {M : jM} {N : Nat → Int64} {cs : Nat → Int32} {d pe pa la : Nat} {LT : Nat → sT} (h : wR w q pr lw B Sh M N cs d pe pa la LT) : (∀ t, t < 5 → ∀ ca, M.2.2 (lw + 1) t = some ca → (Sh ca).1 = 1) ∧ ∀ l, l < 12 → ∀ ca, M.2.2 (lw + 2) l = some ca → (Sh ca).1 = 1 := by
  obtain ⟨-, -, -, -, h5, -, h7, h8⟩ := h
  constructor
  · intro t ht ca hc
    rcases h8 t ht with g | ⟨ca2, tx, g1, g2, g3, -⟩
    · rw [g.1] at hc; cases hc
    · rw [g1] at hc; cases hc; exact g3.1
  · intro l hl ca hc
    rcases Nat.lt_or_ge l la with e | e
    · obtain ⟨ca2, c1, c2, c3, -⟩ := h5 l e
      rw [c1] at hc; cases hc; exact c3.1
    · rw [h7 l e hl] at hc; cases hc
theorem pr_image {G : jG} {mm f sz : Nat} {Sh : jS} {M : jM} {d pe pa la : Nat} {LT : Nat → sT} (h : REL mm f sz Sh M d pe pa la LT) : jPair (mm + 440) G sz Sh M yX10_image cX10_image 1 4 0 0 [.ref mm] yX11_image cX11_image 2 1 [.ref (mm + 440)] (RQ mm f sz) := by
  have hs := h.1.1.1
  have hz := h.2.1
  have hW := h.1.2.1
  have hW1 := h.1.2.2.1
  have hL := h.1.2.2.2.2.2.1
  have hL1 := h.1.2.2.2.2.2.2.1
  have hw := h.2.2.1
  have hO := hw.2.1
  have hp := REL_5 h
  have hcl := wR_cls hw
  refine ⟨_, ctX10_image hs h.1.1.2.1 h.1.1.2.2.1 hW hW1 hL hL1 (by unfold wTwo; omega) (fun b hb hc => by unfold wS0 at hb hc; omega) (d := d) (la := la) hp.1 hO.2.1.2 hp.2 hO.2.2.1.2 hO.1.2 hO.2.2.2.1.2 hcl.1 hcl.2 (by unfold lT; omega), fun r1 z S M1 hp1 => by obtain ⟨-, rfl, e, -⟩ := hp1; exact ⟨⟨_, e⟩, h.1.2.2.2.2.2.2.2.2.2.2.2.1.1⟩, fun r1 z S M1 hp1 => ?_⟩
  obtain ⟨rfl, rfl, rfl, Mx, ⟨-, x1, x2, x3, x4⟩, rfl⟩ := hp1
  have kk : ∀ a, ¬ (wS0 (mm + 50) (mm + 57) (mm + 56) a ∨ lS (mm + 51) a) → a ≠ mm → (jsI Mx mm 5 (nI 1)).1 a = M.1 a ∧ (jsI Mx mm 5 (nI 1)).2.1 a = M.2.1 a := fun a ha hb => ⟨(jup_ne hb).trans (x2.1 a ha), x2.2.1 a ha⟩
  have kr : ∀ a, ¬ lT (mm + 51) a → (jsI Mx mm 5 (nI 1)).2.2 a = M.2.2 a := fun a ha => x2.2.2 a ha
  have vx : vK (mm + 50) (mm + 57) (mm + 56) (mm + 51) (jsI Mx mm 5 (nI 1)) = vK (mm + 50) (mm + 57) (mm + 56) (mm + 51) Mx := by
    refine vK_mEq (S := fun b => b = mm) (mEq.rf.I rfl) (fun b hb hc => by unfold wS0 at hb; omega)
  have l1 : ∀ j, (jsI Mx mm 5 (nI 1)).1 mm j = if j = 5 then nI 1 else M.1 mm j := fun j => by
    by_cases c : j = 5
    · subst c; rw [if_pos rfl, upIs]
    · rw [if_neg c, upI (by omega), x2.1 mm (by unfold wS0 lS; omega)]
  have l2 : (jsI Mx mm 5 (nI 1)).2.1 mm = M.2.1 mm := x2.2.1 mm (by unfold wS0 lS; omega)
  rw [← vx] at x1
  have x3' : ∀ t, t < 5 → (jsI Mx mm 5 (nI 1)).2.2 (mm + 51 + 1) t = M.2.2 (mm + 7 + 1) t := x3
  have x4' : ∀ l, l < 12 → (jsI Mx mm 5 (nI 1)).2.2 (mm + 51 + 2) l = M.2.2 (mm + 7 + 2) l := x4
  generalize jsI Mx mm 5 (nI 1) = M1 at kk kr x1 x3' x4' l1 l2
  have ka : ∀ a, mm + 428 ≤ a → M1.1 a = M.1 a ∧ M1.2.1 a = M.2.1 a := fun a ha => kk a (by unfold wS0 lS; omega) (by omega)
  have hrL : rLay (mm + 440) S M1 := by
    have := h.1.2.2.2.2.2.2.2.2.2.2.2
    unfold rLay at this ⊢
    rw [kr (mm + 440) (by unfold lT; omega)]
    exact this
  have ew : jw M1 (mm + 440 + 1) (M.2.1 (mm + 441)) = M1 := jw_id (ka (mm + 441) (by omega)).2
  have hj := ctX11_image (G := G) (sz := z) (N := M.2.1 (mm + 441)) hrL
  rw [ew] at hj
  refine ⟨_, hj, fun r2 z2 S2 M2 hp2 => ?_⟩
  obtain ⟨rfl, rfl, rfl, My, I, rfl, y1, y2, y3, y4, y5⟩ := hp2
  refine ⟨rfl, rfl, (M.1 (mm + 13) 8).toInt64, rfl, ?_, by omega, f, d, pe, pa, la, LT, by omega, ?_⟩
  · rw [← hw.1.at (k := 0) (by unfold nIn; omega), vK_0]
  have m0 : (jw (jw My (mm + 440 + 3) I) (mm + 440 + 1) (M.2.1 (mm + 441))).2.1 (mm + 441) = M.2.1 (mm + 441) := jw_at _ _ _
  have m3 : (jw (jw My (mm + 440 + 3) I) (mm + 440 + 1) (M.2.1 (mm + 441))).2.1 (mm + 443) = I := (jw_ne _ _ (by omega)).trans (jw_at _ _ _)
  have mo : ∀ a, a ≠ mm + 441 → a ≠ mm + 443 → a ≠ mm + 440 → a ≠ mm + 445 → (jw (jw My (mm + 440 + 3) I) (mm + 440 + 1) (M.2.1 (mm + 441))).2.1 a = M1.2.1 a := fun a h1 h2 h3 h4 => ((jw_ne _ _ (by omega)).trans (jw_ne _ _ (by omega))).trans (y1.2.1 a (by omega))
  have mi : ∀ a, a ≠ mm + 440 → a ≠ mm + 445 → (jw (jw My (mm + 440 + 3) I) (mm + 440 + 1) (M.2.1 (mm + 441))).1 a = M1.1 a := fun a h1 h2 => y1.1 a (by omega)
  have mr : (jw (jw My (mm + 440 + 3) I) (mm + 440 + 1) (M.2.1 (mm + 441))).2.2 = M1.2.2 := y1.2.2
  have m5 : ∀ j, j < 2856 → (jw (jw My (mm + 440 + 3) I) (mm + 440 + 1) (M.2.1 (mm + 441))).1 (mm + 445) j = M.1 (mm + 444) j := fun j hj => (y3 j hj).trans (congrFun (ka (mm + 440 + 4) (by omega)).1 j)
  have m40 : ∀ j, (jw (jw My (mm + 440 + 3) I) (mm + 440 + 1) (M.2.1 (mm + 441))).1 (mm + 440) j = if j = 5 then nI 1 else M.1 (mm + 440) j := fun j => by
    by_cases c : j = 5
    · subst c; rw [if_pos rfl]; exact y4
    · rw [if_neg c]; exact (y5 j c).trans (congrFun (ka (mm + 440) (by omega)).1 j)
  generalize jw (jw My (mm + 440 + 3) I) (mm + 440 + 1) (M.2.1 (mm + 441)) = M2 at m0 m3 mo mi mr m5 m40
  have hh : hi_ (mm + 455) z2 S2 S2 M M2 := fun b hb _ => ⟨rfl, by rw [mi b (by omega) (by omega), (ka b (by omega)).1], by rw [mr, kr b (by unfold lT; omega)]⟩
  have e12 : mEq (fun b => b = mm + 440 ∨ b = mm + 445 ∨ b = mm + 441 ∨ b = mm + 443) M1 M2 := ⟨fun b hb => mi b (by omega) (by omega), fun b hb => mo b (by omega) (by omega) (by omega) (by omega), mr⟩
  have v0 : vK (mm + 13) (mm + 14) (mm + 12) (mm + 7) M2 = vK (mm + 13) (mm + 14) (mm + 12) (mm + 7) M := by
    rw [vK_mEq e12 (fun b hb => by unfold wS0 at hb; omega)]
    funext k
    refine vK_same (fun _ => ⟨fun _ => ?_, fun _ => ?_, fun _ => ?_, fun _ => ?_, fun _ => ?_, fun _ => ?_, fun _ => ?_⟩) (fun i f hi hf ek => ⟨fun _ => ?_, fun _ => ?_⟩) (fun j f hj hf ek => ⟨fun _ => ?_, fun _ => ?_⟩) (fun l hl => ⟨fun _ => ?_, fun _ => ?_⟩) (fun d ek => ?_)
    all_goals first | rw [(kk _ (by unfold wS0 lS; omega) (by omega)).1] | rw [(kk _ (by unfold wS0 lS; omega) (by omega)).2]
  have v1 : vK (mm + 50) (mm + 57) (mm + 56) (mm + 51) M2 = vK (mm + 50) (mm + 57) (mm + 56) (mm + 51) M1 := vK_mEq e12 (fun b hb => by unfold wS0 at hb; omega)
  refine ⟨h.1.g (fun _ _ _ => rfl) (fun b h1 h2 h3 h4 h5 h6 => by rw [mr]; exact kr b (by unfold lT; omega)), hz, ?_, ?_, ?_, fun s hs4 => (h.2.2.2.2.2.1 s hs4).mv hs4 (fun b hb => by rw [mi b (by omega) (by omega), (ka b (by omega)).1]), ?_, ?_⟩
  · rw [m0, mi (mm + 444) (by omega) (by omega), (ka (mm + 444) (by omega)).1]
    refine hw.g (by rw [v0]; exact nQ.rf) (fun _ _ => rfl) (fun _ _ => rfl) hh hz.2 (fun t ht => by rw [mr, kr _ (by unfold lT; omega)]) (fun l hl => by rw [mr, kr _ (by unfold lT; omega)])
  · right
    refine ⟨?_, by rw [m40, if_pos rfl], d, pe, pa, la, LT, ?_⟩
    · rw [mi mm (by omega) (by omega), l1, if_pos rfl]
    · rw [m3]
      refine hw.g (by rw [v1]; exact x1) y2 m5 hh hz.2 (fun t ht => by rw [mr]; exact x3' t ht) (fun l hl => by rw [mr]; exact x4' l hl)
  · obtain ⟨T, tp, ht1, ht2⟩ := h.2.2.2.2.1
    refine ⟨T, tp, ?_, ?_⟩
    · unfold cTp at ht1 ⊢
      rw [mi (mm + 428) (by omega) (by omega), (ka (mm + 428) (by omega)).1, mi (mm + 428 + 1) (by omega) (by omega), (ka (mm + 428 + 1) (by omega)).1]
      exact ht1
    · unfold rTp at ht2 ⊢
      rw [m40, if_neg (by omega), mi (mm + 440 + 6) (by omega) (by omega), (ka (mm + 440 + 6) (by omega)).1]
      exact ht2
  · rw [mo mm (by omega) (by omega) (by omega) (by omega), l2]; exact h.2.2.2.2.2.2.1
  · rw [m40, if_neg (by omega)]; exact h.2.2.2.2.2.2.2
