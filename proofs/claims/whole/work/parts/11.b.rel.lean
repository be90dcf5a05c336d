/-- the class's call and the reference's, one behind the other: both answer alike, and what is left is related -/
def jPair (oo : Nat) (G : jG) (sz : Nat) (Sh : jS) (M : jM) (y1 : MethodName) (c1 : ByteArray) (n1 f1 k1 s1 : Nat) (a1 : List Value) (y2 : MethodName) (c2 : ByteArray) (n2 f2 : Nat) (a2 : List Value) (Q : Nat → jS → jM → Prop) : Prop := ∃ post1, jC G y1 c1 n1 (some .long) (jrm f1 k1 s1) sz Sh M a1 post1 ∧ (∀ r1 z S M1, post1 r1 z S M1 → (∃ v : Int64, r1 = some (.long v)) ∧ (S oo).1 = 11) ∧ ∀ r1 z S M1, post1 r1 z S M1 → ∃ post2, jC G y2 c2 n2 (some .long) (jrm f2 0 0) z S M1 a2 post2 ∧ ∀ r2 z2 S2 M2, post2 r2 z2 S2 M2 → z2 = z ∧ S2 = S ∧ ∃ v : Int64, r1 = some (.long v) ∧ r2 = some (.long v) ∧ Q z S M2
def RQ (mm f sz : Nat) (z : Nat) (S : jS) (M2 : jM) : Prop := z ≤ sz + 2 ∧ ∃ f2 d pe pa la LT, f2 ≤ f + 1 ∧ REL mm f2 z S M2 d pe pa la LT
/-- two answers that go together -/
def lk (d1 pe1 pa1 la : Nat) (N0 : Nat → Int64) (s1 s2 : sA) : Prop := s1.1 = s2.1 ∧ s1.2.1 = s2.2.1 ∧ ∃ d2 pe2 pa2, (d2 ≤ d1 ∧ pe2 ≤ pe1 ∧ pa2 ≤ pa1) ∧ nQ True d2 pe2 pa2 la s1.2.2 s2.2.2 ∧ nOk s2.2.2 d2 pe2 pa2 la ∧ nB s2.2.2 d2 pe2 ∧ nS s2.2.2 pa2 ∧ ∀ t, t < 5 → s2.2.2 (302 + t) = N0 (302 + t)
abbrev xD0 (mm d pe pa la : Nat) (M : jM) (s : sA) (r : Option Value) (M1 : jM) : Prop := xD (cS mm) mm (mm + 13) (mm + 14) (mm + 12) (mm + 7) d pe pa la M s r M1
theorem mkPair {G : jG} {mm f sz : Nat} {Sh : jS} {M : jM} {d pe pa la d1 pe1 pa1 : Nat} {LT : Nat → sT} (h : REL mm f sz Sh M d pe pa la LT) {y1 : MethodName} {c1 : ByteArray} {n1 f1 : Nat} {a1 : List Value} {y2 : MethodName} {c2 : ByteArray} {n2 f2 : Nat} {a2 : List Value} {C1 C2 : sA → Prop} {post1} (hc : jC G y1 c1 n1 (some .long) (jrm f1 0 0) sz Sh M a1 post1) (hc2 : ∀ r z S M1, post1 r z S M1 → z = sz ∧ S = Sh ∧ ∃ s1, C1 s1 ∧ xD0 mm d1 pe1 pa1 la M s1 r M1)
    (hr : ∀ M1, rLay (mm + 440) Sh M1 → (∀ a, mm + 440 ≤ a → a < mm + 455 → M1.1 a = M.1 a) → ∃ post2, jC G y2 c2 n2 (some .long) (jrm f2 0 0) sz Sh (jw M1 (mm + 440 + 1) (M.2.1 (mm + 441))) a2 post2 ∧ ∀ r z S M2, post2 r z S M2 → z = sz ∧ S = Sh ∧ ∃ s2, C2 s2 ∧ rU (mm + 440) M1 s2 r M2)
    (hl : ∀ s1 s2, C1 s1 → C2 s2 → lk d1 pe1 pa1 la (M.2.1 (mm + 441)) s1 s2) : jPair (mm + 440) G sz Sh M y1 c1 n1 f1 0 0 a1 y2 c2 n2 f2 a2 (RQ mm f sz) := by
  refine ⟨post1, hc, fun r1 z S M1 hp1 => by obtain ⟨-, rfl, s1, -, e, -⟩ := hc2 _ _ _ _ hp1; exact ⟨⟨_, e⟩, h.1.2.2.2.2.2.2.2.2.2.2.2.1.1⟩, fun r1 z S M1 hp1 => ?_⟩
  obtain ⟨rfl, rfl, s1, hC1, hr1, hq1, he1⟩ := hc2 _ _ _ _ hp1
  have a1 := xB_eq he1
  have k1 : ∀ a, mm + 440 ≤ a → a < mm + 455 → M1.1 a = M.1 a ∧ M1.2.1 a = M.2.1 a := fun a ha hb => ⟨a1.1 a (fun hc => by unfold cS aS wS0 at hc; omega), a1.2.1 a (fun hc => by unfold cS aS wS0 at hc; omega)⟩
  have hrL : rLay (mm + 440) S M1 := by
    have := h.1.2.2.2.2.2.2.2.2.2.2.2
    unfold rLay at this ⊢
    rw [a1.2.2]; exact this
  obtain ⟨post2, hj2, hp2⟩ := hr M1 hrL (fun a ha hb => (k1 a ha hb).1)
  have ew : jw M1 (mm + 440 + 1) (M.2.1 (mm + 441)) = M1 := by
    have e0 := (k1 (mm + 441) (by omega) (by omega)).2
    rw [← e0]; exact jw_self M1 (mm + 441)
  rw [ew] at hj2
  refine ⟨post2, hj2, fun r2 z2 S2 M2 hp => ?_⟩
  obtain ⟨rfl, rfl, s2, hC2, hr2, he2, hn2⟩ := hp2 _ _ _ _ hp
  obtain ⟨l1, l2, d2, pe2, pa2, ⟨b1, b2, b3⟩, l3, l4, l5, l6, l7⟩ := hl s1 s2 hC1 hC2
  refine ⟨rfl, rfl, s1.1, hr1, by rw [l1]; exact hr2, by omega, _, d2, pe2, pa2, la, LT, ?_, h.world (b := s1.2.1) he1 (by rw [l2]; exact he2) hn2 ((hq1.less b1 b2 b3 (Nat.le_refl _)).tr l3) l4 l5 l6 l7⟩
  cases s1.2.1
  · exact Nat.le_succ f
  · exact Nat.le_refl _
/-- a jR end with a finding or not, as mkPair wants it -/
theorem xp_D {mm sz d1 pe1 pa1 la : Nat} {Sh : jS} {M : jM} {K : Nat → Int64} (hM : vK (mm + 13) (mm + 14) (mm + 12) (mm + 7) M = K) {s : sA} (hs : s.2.2 = K) : ∀ r z S M1, jR (some (.long s.1)) sz Sh (xB mm M s.2.1) r z S M1 → z = sz ∧ S = Sh ∧ ∃ s1, s1 = s ∧ xD0 mm d1 pe1 pa1 la M s1 r M1 := by
  rintro r z S M1 ⟨rfl, rfl, rfl, rfl⟩
  refine ⟨rfl, rfl, s, rfl, rfl, ?_, mEq.rf⟩
  rw [hs, ← hM]
  have e : vK (mm + 13) (mm + 14) (mm + 12) (mm + 7) (xB mm M s.2.1) = vK (mm + 13) (mm + 14) (mm + 12) (mm + 7) M := by
    unfold xB
    split
    · exact vK_mm (by unfold wS0; omega)
    · rfl
  rw [e]
  exact nQ.rf
theorem xW_D {mm sz d1 pe1 pa1 la : Nat} {Sh : jS} {M : jM} {K : Nat → Int64} (hM : vK (mm + 13) (mm + 14) (mm + 12) (mm + 7) M = K) {s : sA} {S0 : Nat → Prop} (hS : ∀ b, S0 b → cS mm b) (hs : s.2.1 = true → s.2.2 = K) : ∀ r z S M1, jT sz Sh (xW S0 mm (mm + 13) (mm + 14) (mm + 12) (mm + 7) M s) r z S M1 → z = sz ∧ S = Sh ∧ ∃ s1, s1 = s ∧ xD0 mm d1 pe1 pa1 la M s1 r M1 := by
  rintro r z S M1 ⟨rfl, rfl, hx⟩
  refine ⟨rfl, rfl, s, rfl, ?_⟩
  unfold xW at hx
  by_cases c : s.2.1 = true
  · rw [if_pos c] at hx
    obtain ⟨rfl, rfl⟩ := hx
    refine ⟨rfl, ?_, ?_⟩
    · rw [hs c, vK_mm (by unfold wS0; omega), hM]
      exact nQ.rf
    · unfold xB; rw [if_pos c]; exact mEq.rf
  · rw [if_neg c] at hx
    obtain ⟨rfl, h1, h2⟩ := hx
    refine ⟨rfl, by rw [h1]; exact nQ.rf, ?_⟩
    unfold xB; rw [if_neg c]; exact h2.mono hS
theorem xU_D {mm sz d1 pe1 pa1 la : Nat} {Sh : jS} {M : jM} {s : sA} {S0 : Nat → Prop} (hS : ∀ b, S0 b → cS mm b) : ∀ r z S M1, jT sz Sh (xU S0 mm (mm + 13) (mm + 14) (mm + 12) (mm + 7) M s) r z S M1 → z = sz ∧ S = Sh ∧ ∃ s1, s1 = s ∧ xD0 mm d1 pe1 pa1 la M s1 r M1 := by
  rintro r z S M1 ⟨rfl, rfl, rfl, h1, h2⟩
  exact ⟨rfl, rfl, s, rfl, rfl, by rw [h1]; exact nQ.rf, h2.mono hS⟩
theorem xD_D {mm sz d1 pe1 pa1 la : Nat} {Sh : jS} {M : jM} {s : sA} {S0 : Nat → Prop} (hS : ∀ b, S0 b → cS mm b) : ∀ r z S M1, jT sz Sh (xD S0 mm (mm + 13) (mm + 14) (mm + 12) (mm + 7) d1 pe1 pa1 la M s) r z S M1 → z = sz ∧ S = Sh ∧ ∃ s1, s1 = s ∧ xD0 mm d1 pe1 pa1 la M s1 r M1 := by
  rintro r z S M1 ⟨rfl, rfl, rfl, h1, h2⟩
  exact ⟨rfl, rfl, s, rfl, rfl, h1, h2.mono hS⟩
/-- the reference's ends -/
theorem pub_U {o sz : Nat} {Sh : jS} {M : jM} {s : sA} : ∀ r z S M2, jPub o sz Sh M s r z S M2 → z = sz ∧ S = Sh ∧ ∃ s2, s2 = s ∧ rU o M s2 r M2 := by
  rintro r z S M2 ⟨rfl, rfl, rfl, rfl⟩
  exact ⟨rfl, rfl, s, rfl, rfl, mEq.rf.w (Or.inl rfl), jw_at _ _ _⟩
theorem rU_U {o sz : Nat} {Sh : jS} {M : jM} {s : sA} : ∀ r z S M2, jT sz Sh (rU o M s) r z S M2 → z = sz ∧ S = Sh ∧ ∃ s2, s2 = s ∧ rU o M s2 r M2 := by
  rintro r z S M2 ⟨rfl, rfl, h⟩
  exact ⟨rfl, rfl, s, rfl, h⟩
theorem sub_w0 {mm : Nat} : ∀ b, wS0 (mm + 13) (mm + 14) (mm + 12) b → cS mm b := fun _ h => Or.inr h
theorem sub_wJ {mm : Nat} : ∀ b, wSJ (mm + 13) (mm + 14) (mm + 12) (mm + 1) b → cS mm b := fun b h => by unfold wSJ wS0 at h; unfold cS aS wS0; omega
theorem sub_wX {mm : Nat} : ∀ b, wSX (mm + 13) (mm + 14) (mm + 12) (mm + 1) (mm + 4) b → cS mm b := fun b h => by unfold wSX wSJ mS wS0 at h; unfold cS aS wS0; omega
theorem sub_aS {mm : Nat} : ∀ b, aS (mm + 93) (mm + 12) (mm + 1) (mm + 4) b → cS mm b := fun _ h => Or.inl h
/-- what REL gives the contracts -/
theorem REL_wCx {mm f sz : Nat} {Sh : jS} {M : jM} {d pe pa la : Nat} {LT : Nat → sT} (h : REL mm f sz Sh M d pe pa la LT) : wCx (mm + 13) (mm + 14) (mm + 12) (mm + 7) (mm + 1) (mm + 4) (mm + 455) la LT Sh M := ⟨h.1.2.1, h.1.2.2.2.1, h.1.2.2.2.2.2.1, h.2.2.1.2.2.2.2.1, by unfold wS0; omega, by omega⟩
theorem REL_mAp {mm : Nat} : mAp (mm + 13) (mm + 14) (mm + 12) (mm + 7) (mm + 4) := by unfold mAp wS0; omega
theorem REL_aCx {mm f sz : Nat} {Sh : jS} {M : jM} {d pe pa la : Nat} {LT : Nat → sT} (h : REL mm f sz Sh M d pe pa la LT) : aCx (mm + 93) (mm + 13) (mm + 14) (mm + 12) (mm + 7) (mm + 1) (mm + 4) (mm + 455) la LT Sh M := by
  refine ⟨h.1.2.2.2.2.2.2.2.1, fun i hi => ⟨h.1.2.2.2.2.2.2.2.2.1 i hi, h.1.2.2.2.1, h.1.2.2.2.2.2.1, h.2.2.1.2.2.2.2.1, by unfold wS0 aW; omega, by unfold aW; omega⟩, fun i hi => by unfold mAp wS0 aW; omega, fun i hi => by unfold wTwo aW; omega, h.1.2.2.2.2.1, (REL_wCx h), fun b hb hc => by unfold aS at hc; omega, by omega⟩
theorem REL_nOk {mm f sz : Nat} {Sh : jS} {M : jM} {d pe pa la : Nat} {LT : Nat → sT} (h : REL mm f sz Sh M d pe pa la LT) : nOk (vK (mm + 13) (mm + 14) (mm + 12) (mm + 7) M) d pe pa la := h.2.2.1.2.1.q h.2.2.1.1
theorem REL_nB {mm f sz : Nat} {Sh : jS} {M : jM} {d pe pa la : Nat} {LT : Nat → sT} (h : REL mm f sz Sh M d pe pa la LT) : nB (vK (mm + 13) (mm + 14) (mm + 12) (mm + 7) M) d pe := h.2.2.1.2.2.1.q h.2.2.1.1
theorem REL_nS {mm f sz : Nat} {Sh : jS} {M : jM} {d pe pa la : Nat} {LT : Nat → sT} (h : REL mm f sz Sh M d pe pa la LT) : nS (vK (mm + 13) (mm + 14) (mm + 12) (mm + 7) M) pa := h.2.2.1.2.2.2.1.q h.2.2.1.1
/-- a call that changes nothing -/
theorem lkR {d pe pa la : Nat} {K N : Nat → Int64} (hq : nQ True d pe pa la K N) (hO : nOk N d pe pa la) (hB : nB N d pe) (hS : nS N pa) {s1 s2 : sA} (e : s1 = (s2.1, s2.2.1, K)) (h : s2.2.2 = N) : lk d pe pa la N s1 s2 := by
  subst e
  refine ⟨rfl, rfl, d, pe, pa, ⟨Nat.le_refl _, Nat.le_refl _, Nat.le_refl _⟩, ?_, ?_, ?_, ?_, ?_⟩ <;> rw [h]
  · exact hq
  · exact hO
  · exact hB
  · exact hS
  · exact fun _ _ => rfl
