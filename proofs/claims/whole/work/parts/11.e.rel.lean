section LKD
variable {K N : Nat → Int64} {d pe pa la : Nat} {LT : Nat → sT}
def pV (m l b : Int64) (f : Nat) : Int64 := if f = 0 then m else if f = 1 then l else if f = 2 then b else if f = 3 then 5 else if f = 4 then 1000 else 0
theorem nPerson_u (h4 : N 4 = lN pe) (hpe : pe < 10) (m l b : Int64) : nPerson N m l b = va_up (va_up (va_up (va_up (va_up (va_up (nZ N (10 + 10 * pe) 10) (10 + 10 * pe + 0) m) (10 + 10 * pe + 1) l) (10 + 10 * pe + 2) b) (10 + 10 * pe + 3) 5) (10 + 10 * pe + 4) 1000) 4 (lN (pe + 1)) := by
  unfold nPerson
  dsimp only
  rw [show (N 4).toNatClampNeg = pe from by rw [h4]; exact nv_lN (by omega)]
  rw [va_up_ne _ _ (show (4 : Nat) ≠ 10 + 10 * pe + 4 by omega), va_up_ne _ _ (show (4 : Nat) ≠ 10 + 10 * pe + 3 by omega), va_up_ne _ _ (show (4 : Nat) ≠ 10 + 10 * pe + 2 by omega), va_up_ne _ _ (show (4 : Nat) ≠ 10 + 10 * pe + 1 by omega), va_up_ne _ _ (show (4 : Nat) ≠ 10 + 10 * pe + 0 by omega)]
  have e : nZ N (10 + 10 * pe) 10 4 = lN pe := by
    simp only [nZ]
    rw [if_neg (by omega)]; exact h4
  rw [e, lN_1]
theorem nPerson_ne (h4 : N 4 = lN pe) (hpe : pe < 10) {m l b : Int64} {k : Nat} (h : k ≠ 4) (h2 : k < 10 + 10 * pe ∨ 20 + 10 * pe ≤ k) : nPerson N m l b k = N k := by
  rw [nPerson_u h4 hpe, va_up_ne _ _ h, va_up_ne _ _ (by omega), va_up_ne _ _ (by omega), va_up_ne _ _ (by omega), va_up_ne _ _ (by omega), va_up_ne _ _ (by omega)]
  simp only [nZ]
  rw [if_neg (by omega)]
theorem nPerson_4 (h4 : N 4 = lN pe) (hpe : pe < 10) {m l b : Int64} : nPerson N m l b 4 = lN (pe + 1) := by rw [nPerson_u h4 hpe, va_up_self]
theorem nPerson_at (h4 : N 4 = lN pe) (hpe : pe < 10) {m l b : Int64} {f : Nat} (hf : f < 10) : nPerson N m l b (10 + 10 * pe + f) = pV m l b f := by
  rw [nPerson_u h4 hpe, va_up_ne _ _ (by omega)]
  rcases (show f = 0 ∨ f = 1 ∨ f = 2 ∨ f = 3 ∨ f = 4 ∨ f = 5 ∨ f = 6 ∨ f = 7 ∨ f = 8 ∨ f = 9 by omega) with e | e | e | e | e | e | e | e | e | e <;> subst e <;> simp [va_up, nZ, pV]
theorem lk_person (hq : nQ True d pe pa la K N) (hO : nOk N d pe pa la) (hB : nB N d pe) (hS : nS N pa) {m : Int64} {l b : Int32} : lk d (pe + 1) pa la N (sPerson K m l b) (sPerson N m l b) := by
  unfold sPerson
  by_cases c : ((0 : Int64) ≤ m ∧ m ≤ 1000000000000000) ∧ okW l 9999 ∧ okW b 99
  · rw [if_pos c, if_pos c, hq.at (k := 4) (by unfold nIn; omega)]
    by_cases c2 : N 4 = 10
    · rw [if_pos c2, if_pos c2]; exact lkM (lkB hq hO hB hS) (Nat.le_refl _) (by omega) (Nat.le_refl _)
    · rw [if_neg c2, if_neg c2]
      have h4 := hO.2.1.1
      have h4K : K 4 = lN pe := (hq.at (k := 4) (by unfold nIn; omega)).trans h4
      have hpe : pe < 10 := by
        rcases Nat.lt_or_ge pe 10 with e | e
        · exact e
        · exact absurd (by rw [h4, show pe = 10 by have := hO.2.1.2; omega]; rfl) c2
      obtain ⟨⟨a1, a2⟩, -, ⟨c1, c2'⟩, ⟨e1, e2⟩, f1, g1⟩ := hO
      have ne : ∀ k, k ≠ 4 → (k < 10 + 10 * pe ∨ 20 + 10 * pe ≤ k) → nPerson N m l.toInt64 b.toInt64 k = N k := fun k h1 h2 => nPerson_ne h4 hpe h1 h2
      refine ⟨rfl, rfl, d, pe + 1, pa, ⟨Nat.le_refl _, Nat.le_refl _, Nat.le_refl _⟩, ?_, ?_, ?_, ?_, ?_⟩
      · intro k hk
        show nPerson K m l.toInt64 b.toInt64 k = nPerson N m l.toInt64 b.toInt64 k
        by_cases k4 : k = 4
        · subst k4; rw [nPerson_4 h4K hpe, nPerson_4 h4 hpe]
        · by_cases kr : k < 10 + 10 * pe ∨ 20 + 10 * pe ≤ k
          · rw [nPerson_ne h4K hpe k4 kr, nPerson_ne h4 hpe k4 kr]
            exact hq k (hk.imp (fun x => by unfold nIn at x ⊢; omega) id)
          · obtain ⟨f, rfl⟩ : ∃ f, k = 10 + 10 * pe + f := ⟨k - (10 + 10 * pe), by omega⟩
            rw [nPerson_at h4K hpe (by omega), nPerson_at h4 hpe (by omega)]
      · refine ⟨⟨(ne 0 (by omega) (by omega)).trans a1, a2⟩, ⟨nPerson_4 h4 hpe, by omega⟩, ⟨(ne 5 (by omega) (by omega)).trans c1, c2'⟩, ⟨(ne 6 (by omega) (by omega)).trans e1, e2⟩, fun j hj => ?_, fun k hk => by dsimp only; rw [ne (310 + k) (by omega) (by omega)]; exact g1 k hk⟩
        have := f1 j hj
        unfold pOk at this ⊢
        dsimp only
        rw [ne (110 + 7 * j + 0) (by omega) (by omega), ne (110 + 7 * j + 1) (by omega) (by omega), ne (110 + 7 * j + 2) (by omega) (by omega), ne (110 + 7 * j + 4) (by omega) (by omega), ne (110 + 7 * j + 5) (by omega) (by omega)]
        exact ⟨this.1, this.2.1.imp id (fun h => ⟨h.1, h.2.1, by omega⟩), ⟨this.2.2.1.1, by omega⟩, this.2.2.2⟩
      · intro i f hi hf
        show isN (nPerson N m l.toInt64 b.toInt64 (10 + 10 * i + f)) (fB d f)
        by_cases ei : i = pe
        · subst ei
          rw [nPerson_at h4 hpe (by omega)]
          rcases (show f = 0 ∨ f = 1 ∨ f = 2 ∨ f = 3 ∨ f = 4 ∨ f = 5 by omega) with e | e | e | e | e | e <;> subst e
          · exact isN_ofR c.1
          · exact isN_w (n := 9999) (by omega) c.2.1
          · exact isN_w (n := 99) (by omega) c.2.2
          · exact isN.mk (n := 5) (b := 10) (by omega) (by omega)
          · exact isN.mk (n := 1000) (b := 1000) (by omega) (by omega)
          · exact isN.mk (n := 0) (b := d) (by omega) (by omega)
        · rw [ne _ (by omega) (by omega)]
          exact hB i f (by omega) hf
      · intro j hj
        show isN (nPerson N m l.toInt64 b.toInt64 (110 + 7 * j + 3)) _
        rw [ne _ (by omega) (by omega)]
        exact hS j hj
      · intro t ht
        exact ne _ (by omega) (by omega)
  · rw [if_neg c, if_neg c]; exact lkM (lkB hq hO hB hS) (Nat.le_refl _) (by omega) (Nat.le_refl _)
def qV (kd b t sm s du : Int64) (f : Nat) : Int64 := if f = 0 then kd else if f = 1 then b else if f = 2 then t else if f = 3 then sm else if f = 4 then s else if f = 5 then du else 0
theorem nPaperW_u (h5 : N 5 = lN pa) (hpa : pa < 24) (kd b t sm du : Int64) : nPaperW N kd b t sm du = va_up (va_up (va_up (va_up (va_up (va_up (va_up (va_up N (110 + 7 * pa + 0) kd) (110 + 7 * pa + 1) b) (110 + 7 * pa + 2) t) (110 + 7 * pa + 3) sm) (110 + 7 * pa + 4) (N 0)) (110 + 7 * pa + 5) du) (110 + 7 * pa + 6) 0) 5 (lN (pa + 1)) := by
  unfold nPaperW
  dsimp only
  rw [show (N 5).toNatClampNeg = pa from by rw [h5]; exact nv_lN (by omega)]
  rw [va_up_ne _ _ (show (5 : Nat) ≠ 110 + 7 * pa + 6 by omega), va_up_ne _ _ (show (5 : Nat) ≠ 110 + 7 * pa + 5 by omega), va_up_ne _ _ (show (5 : Nat) ≠ 110 + 7 * pa + 4 by omega), va_up_ne _ _ (show (5 : Nat) ≠ 110 + 7 * pa + 3 by omega), va_up_ne _ _ (show (5 : Nat) ≠ 110 + 7 * pa + 2 by omega), va_up_ne _ _ (show (5 : Nat) ≠ 110 + 7 * pa + 1 by omega), va_up_ne _ _ (show (5 : Nat) ≠ 110 + 7 * pa + 0 by omega)]
  rw [va_up_ne _ _ (show (0 : Nat) ≠ 110 + 7 * pa + 3 by omega), va_up_ne _ _ (show (0 : Nat) ≠ 110 + 7 * pa + 2 by omega), va_up_ne _ _ (show (0 : Nat) ≠ 110 + 7 * pa + 1 by omega), va_up_ne _ _ (show (0 : Nat) ≠ 110 + 7 * pa + 0 by omega), h5, lN_1]
theorem nPaperW_ne (h5 : N 5 = lN pa) (hpa : pa < 24) {kd b t sm du : Int64} {k : Nat} (h : k ≠ 5) (h2 : k < 110 + 7 * pa ∨ 117 + 7 * pa ≤ k) : nPaperW N kd b t sm du k = N k := by
  rw [nPaperW_u h5 hpa, va_up_ne _ _ h]
  repeat rw [va_up_ne _ _ (by omega)]
theorem nPaperW_5 (h5 : N 5 = lN pa) (hpa : pa < 24) {kd b t sm du : Int64} : nPaperW N kd b t sm du 5 = lN (pa + 1) := by rw [nPaperW_u h5 hpa, va_up_self]
theorem nPaperW_at (h5 : N 5 = lN pa) (hpa : pa < 24) {kd b t sm du : Int64} {f : Nat} (hf : f < 7) : nPaperW N kd b t sm du (110 + 7 * pa + f) = qV kd b t sm (N 0) du f := by
  rw [nPaperW_u h5 hpa, va_up_ne _ _ (by omega)]
  rcases (show f = 0 ∨ f = 1 ∨ f = 2 ∨ f = 3 ∨ f = 4 ∨ f = 5 ∨ f = 6 by omega) with e | e | e | e | e | e | e <;> subst e <;> simp [va_up, qV]
theorem gPaper_c (hq : nQ True d pe pa la K N) {kd who du : Int32} {sm : Int64} : gPaper K kd who sm du ↔ gPaper N kd who sm du := by
  unfold gPaper
  rw [okP_c hq, okP_c hq, hq.at (k := 0) (by unfold nIn; omega)]
theorem okP_n (hO : nOk N d pe pa la) {x : Int32} (h : okP N x) : isN x.toInt64 9 ∧ nv x.toInt64 < pe := by
  obtain ⟨i, hi, rfl⟩ := (okP_x hO.2.1.1 hO.2.1.2).mp h
  have := hO.2.1.2
  rw [nI_l (by omega)]
  exact ⟨isN.mk (by omega) (by omega), by rw [nv_lN (by omega)]; exact hi⟩
theorem lk_paper (hq : nQ True d pe pa la K N) (hO : nOk N d pe pa la) (hB : nB N d pe) (hS : nS N pa) {kd who du : Int32} {sm : Int64} : lk d pe (pa + 1) la N (sPaper K kd who sm du) (sPaper N kd who sm du) := by
  unfold sPaper
  by_cases c : gPaper N kd who sm du
  · rw [ifC_t ((gPaper_c hq).mpr c), ifC_t c]
    by_cases cc : ¬ kd = nI 4 ∧ who / nI 100 = who - who / nI 100 * nI 100
    · rw [if_pos cc, if_pos cc]; exact lkM (lkB hq hO hB hS) (Nat.le_refl _) (Nat.le_refl _) (by omega)
    · rw [if_neg cc, if_neg cc, hq.at (k := 5) (by unfold nIn; omega)]
      by_cases c2 : N 5 = 24
      · rw [if_pos c2, if_pos c2]; exact lkM (lkB hq hO hB hS) (Nat.le_refl _) (Nat.le_refl _) (by omega)
      · rw [if_neg c2, if_neg c2]
        have h5 := hO.2.2.1.1
        have h5K : K 5 = lN pa := (hq.at (k := 5) (by unfold nIn; omega)).trans h5
        have hpa : pa < 24 := by
          rcases Nat.lt_or_ge pa 24 with e | e
          · exact e
          · exact absurd (by rw [h5, show pa = 24 by have := hO.2.2.1.2; omega]; rfl) c2
        have hOO := hO
        obtain ⟨⟨a1, a2⟩, ⟨b1, b2⟩, -, ⟨e1, e2⟩, f1, g1⟩ := hO
        generalize eby : (if kd = nI 4 then (-1 : Int64) else (who / nI 100).toInt64) = by_
        have ne : ∀ k, k ≠ 5 → (k < 110 + 7 * pa ∨ 117 + 7 * pa ≤ k) → nPaperW N kd.toInt64 by_ (who - who / nI 100 * nI 100).toInt64 sm du.toInt64 k = N k := fun k h1 h2 => nPaperW_ne h5 hpa h1 h2
        have at_ : ∀ f, f < 7 → nPaperW N kd.toInt64 by_ (who - who / nI 100 * nI 100).toInt64 sm du.toInt64 (110 + 7 * pa + f) = qV kd.toInt64 by_ (who - who / nI 100 * nI 100).toInt64 sm (N 0) du.toInt64 f := fun f hf => nPaperW_at h5 hpa hf
        obtain ⟨g0, g2, g3, g4, g5, g6, g7⟩ := c
        have k5 := isN_w (n := 5) (by omega) g0
        refine ⟨rfl, rfl, d, pe, pa + 1, ⟨Nat.le_refl _, Nat.le_refl _, Nat.le_refl _⟩, ?_, ?_, ?_, ?_, ?_⟩
        · intro k hk
          show nPaperW K kd.toInt64 by_ (who - who / nI 100 * nI 100).toInt64 sm du.toInt64 k = nPaperW N kd.toInt64 by_ (who - who / nI 100 * nI 100).toInt64 sm du.toInt64 k
          by_cases k5 : k = 5
          · subst k5; rw [nPaperW_5 h5K hpa, nPaperW_5 h5 hpa]
          · by_cases kr : k < 110 + 7 * pa ∨ 117 + 7 * pa ≤ k
            · rw [nPaperW_ne h5K hpa k5 kr, nPaperW_ne h5 hpa k5 kr]
              exact hq k (hk.imp (fun x => by unfold nIn at x ⊢; omega) id)
            · obtain ⟨f, rfl⟩ : ∃ f, k = 110 + 7 * pa + f := ⟨k - (110 + 7 * pa), by omega⟩
              rw [nPaperW_at h5K hpa (by omega), nPaperW_at h5 hpa (by omega), hq.at (k := 0) (by unfold nIn; omega)]
        · refine ⟨⟨(ne 0 (by omega) (by omega)).trans a1, a2⟩, ⟨(ne 4 (by omega) (by omega)).trans b1, b2⟩, ⟨nPaperW_5 h5 hpa, by omega⟩, ⟨(ne 6 (by omega) (by omega)).trans e1, e2⟩, fun j hj => ?_, fun k hk => by dsimp only; rw [ne (310 + k) (by omega) (by omega)]; exact g1 k hk⟩
          unfold pOk
          dsimp only
          by_cases ej : j = pa
          · subst ej
            rw [at_ 0 (by omega), at_ 1 (by omega), at_ 2 (by omega), at_ 4 (by omega), at_ 5 (by omega)]
            refine ⟨k5, ?_, okP_n hOO g3, ⟨⟨?_, ?_⟩, ?_⟩, ?_⟩
            · show (nv kd.toInt64 = 4 ∧ by_ = -1) ∨ (nv kd.toInt64 ≠ 4 ∧ isN by_ 9 ∧ nv by_ < pe)
              by_cases ck : kd = nI 4
              · left
                refine ⟨by rw [ck]; rfl, by rw [← eby, if_pos ck]⟩
              · right
                refine ⟨fun e => ck ?_, ?_⟩
                · obtain ⟨i, hi, rfl⟩ := jix2 (n := 5) (by omega) g0.1 g0.2
                  rw [nI_l (by omega), nv_lN (by omega)] at e
                  rw [e]
                · rw [← eby, if_neg ck]
                  exact okP_n hOO (g5 ck)
            · show N 0 = lN (nv (N 0))
              rw [a1, nv_lN (by omega)]
            · show nv (N 0) ≤ 300
              rw [a1, nv_lN (by omega)]; omega
            · show nv (N 0) ≤ d
              rw [a1, nv_lN (by omega)]; omega
            · show isN du.toInt64 300
              rw [a1] at g7
              have := isN_w (v := du) (n := 300) (by omega) ⟨Int64.le_trans ((pk_lLE (a := 0) (by omega) (by omega)).mpr (by omega)) g7.1, g7.2⟩
              exact this
          · have := f1 j (by omega)
            unfold pOk at this
            rw [ne (110 + 7 * j + 0) (by omega) (by omega), ne (110 + 7 * j + 1) (by omega) (by omega), ne (110 + 7 * j + 2) (by omega) (by omega), ne (110 + 7 * j + 4) (by omega) (by omega), ne (110 + 7 * j + 5) (by omega) (by omega)]
            exact this
        · intro i f hi hf
          show isN (nPaperW N kd.toInt64 by_ (who - who / nI 100 * nI 100).toInt64 sm du.toInt64 (10 + 10 * i + f)) (fB d f)
          rw [ne _ (by omega) (by omega)]
          exact hB i f hi hf
        · intro j hj
          show isN (nPaperW N kd.toInt64 by_ (who - who / nI 100 * nI 100).toInt64 sm du.toInt64 (110 + 7 * j + 3)) _
          by_cases ej : j = pa
          · subst ej
            rw [at_ 3 (by omega)]
            exact isN_ofR ⟨Int64.le_trans (by decide) g6.1, g6.2⟩
          · rw [ne _ (by omega) (by omega)]
            exact hS j (by omega)
        · intro t ht
          exact ne _ (by omega) (by omega)
  · rw [ifC_f (fun h => c ((gPaper_c hq).mp h)), ifC_f c]; exact lkM (lkB hq hO hB hS) (Nat.le_refl _) (Nat.le_refl _) (by omega)
theorem isN_div {x : Int64} {b m : Nat} (h : isN x b) (hb : b < 2 ^ 63) (h0 : 0 < m) (hm : m < 2 ^ 63) : isN (x / lN m) b := by
  have := h.2
  have := Nat.div_le_self (nv x) m
  rw [h.1, pk_lDiv (by omega) h0 hm]
  exact isN.mk (by omega) hb
theorem nCut1_c (hq : nQ True d pe pa la K N) {b : Int64} {a : Nat} (ha : K a = N a) : nQ True d pe pa la (nCut1 K b a) (nCut1 N b a) := by
  unfold nCut1
  rw [ha, z2 (Or.inr (Or.inr rfl)) hq]
  exact (hq.up 3 _).up a _
theorem nCutP_c (hq : nQ True d pe pa la K N) {b : Int64} : ∀ k, k ≤ pe → nQ True d pe pa la (nCutP K b k) (nCutP N b k)
  | 0, _ => by rw [nCutP, nCutP]; exact nCut1_c hq (z2 (Or.inl rfl) hq)
  | k + 1, hk => by
    have g := nCutP_c hq (b := b) k (by omega)
    rw [nCutP, nCutP]
    exact nCut1_c g (g.at (by unfold nIn; omega))
theorem nCutQ_c (hq : nQ True d pe pa la K N) {b : Int64} : ∀ k, k ≤ pa → nQ True d pe pa la (nCutQ K b k) (nCutQ N b k)
  | 0, _ => hq
  | k + 1, hk => by
    have g := nCutQ_c hq (b := b) k (by omega)
    rw [nCutQ, nCutQ, g.at (k := 110 + 7 * k + 6) (by unfold nIn; omega), g.at (k := 110 + 7 * k + 3) (by unfold nIn; omega)]
    split
    · exact g.up _ _
    · exact g
theorem nCutD_c (hq : nQ True d pe pa la K N) {b : Int64} : ∀ k, k ≤ d + 1 → nQ True d pe pa la (nCutD K b k) (nCutD N b k)
  | 0, _ => hq
  | k + 1, hk => by
    have g := nCutD_c hq (b := b) k (by omega)
    rw [nCutD, nCutD, g.at (k := 310 + k) (by unfold nIn; omega)]
    exact g.up _ _
theorem nCutP_b (hB : nB N d pe) (hpe : pe ≤ 10) {m : Nat} (h0 : 0 < m) (hm : m < 2 ^ 63) : ∀ k, k ≤ pe → nB (nCutP N (lN m) k) d pe
  | 0, _ => by rw [nCutP]; unfold nCut1; exact (hB.out hpe (by omega)).out hpe (by omega)
  | k + 1, hk => by
    have g := nCutP_b hB hpe h0 hm k (by omega)
    rw [nCutP]
    unfold nCut1
    refine (g.out hpe (by omega)).upF (by omega) (fun _ => ?_)
    exact isN_div (b := 1000000000000000) (g.mk (by omega)) (by omega) h0 hm
theorem nCutQ_s (hS : nS N pa) {m : Nat} (h0 : 0 < m) (hm : m < 2 ^ 63) : ∀ k, k ≤ pa → nS (nCutQ N (lN m) k) pa
  | 0, _ => hS
  | k + 1, hk => by
    have g := nCutQ_s hS h0 hm k (by omega)
    rw [nCutQ]
    split
    · intro j hj
      by_cases e : j = k
      · subst e; rw [va_up_self]; exact isN_div (g j hj) (by omega) h0 hm
      · rw [va_up_ne _ _ (by omega)]; exact g j hj
    · exact g
theorem nCutD_ok {m : Nat} (h0 : 0 < m) (hm : m < 2 ^ 63) : ∀ k, (∀ i, i < k → prOk (N (310 + i))) → ∀ i, i < k → prOk (nCutD N (lN m) k (310 + i))
  | 0, _, i, hi => absurd hi (by omega)
  | k + 1, hp, i, hi => by
    rw [nCutD]
    by_cases e : i = k
    · subst e
      rw [va_up_self, nCutD_low _ _ _ _ (by omega)]
      have hpi := hp i (by omega)
      have hN : isN (N (310 + i)) 1000000000000000 := isN_ofR ⟨Int64.le_trans (by decide) hpi.1, hpi.2⟩
      have hD := isN_div hN (by omega) h0 hm
      unfold lmx
      split
      · exact ⟨Int64.le_refl 1, by decide⟩
      · rename_i c
        exact ⟨Int64.not_lt.mp c, hD.le (by omega)⟩
    · rw [va_up_ne _ _ (by omega)]
      exact nCutD_ok h0 hm k (fun j hj => hp j (by omega)) i (by omega)
theorem lk_swap (hq : nQ True d pe pa la K N) (hO : nOk N d pe pa la) (hB : nB N d pe) (hS : nS N pa) {k : Int32} : lk d pe pa la N (sSwap K d pe pa k) (sSwap N d pe pa k) := by
  unfold sSwap
  by_cases c : okR k 1 9
  · rw [if_pos c, if_pos c]
    obtain ⟨kk, h1, h9, rfl⟩ := jix3 (lo := 1) (hi := 9) (by omega) c.1 c.2 (by omega)
    rw [nI_clamp (by omega)]
    have hp := p10 kk h9
    have eP := nPow_N kk h9
    have g : nQ True d pe pa la (nCut K kk d pe pa) (nCut N kk d pe pa) := by
      unfold nCut
      exact nCutD_c (nCutQ_c (nCutP_c hq pe (Nat.le_refl _)) pa (Nat.le_refl _)) (d + 1) (Nat.le_refl _)
    have hpe := hO.2.1.2
    have hd3 := hO.1.2
    have low : ∀ z, (z = 0 ∨ (4 ≤ z ∧ z < 10) ∨ 110 ≤ z) → (∀ i, i < pa → ¬ z = 110 + 7 * i + 3) → z < 310 → nCut N kk d pe pa z = N z := fun z h1 h2 h3 => by
      unfold nCut
      rw [nCutD_low _ _ _ _ (by omega), nCutQ_low _ _ _ _ h2, nCutP_low _ _ _ _ (by omega)]
    obtain ⟨⟨a1, a2⟩, ⟨b1, b2⟩, ⟨c1, c2⟩, ⟨e1, e2⟩, f1, g1⟩ := hO
    refine ⟨g.at (by unfold nIn; omega), rfl, d, pe, pa, ⟨Nat.le_refl _, Nat.le_refl _, Nat.le_refl _⟩, g, ?_, ?_, ?_, ?_⟩
    · refine ⟨⟨(low 0 (by omega) (by omega) (by omega)).trans a1, a2⟩, ⟨(low 4 (by omega) (by omega) (by omega)).trans b1, b2⟩, ⟨(low 5 (by omega) (by omega) (by omega)).trans c1, c2⟩, ⟨(low 6 (by omega) (by omega) (by omega)).trans e1, e2⟩, fun j hj => ?_, fun i hi => ?_⟩
      · have := f1 j hj
        unfold pOk at this ⊢
        dsimp only
        rw [low (110 + 7 * j + 0) (by omega) (by omega) (by omega), low (110 + 7 * j + 1) (by omega) (by omega) (by omega), low (110 + 7 * j + 2) (by omega) (by omega) (by omega), low (110 + 7 * j + 4) (by omega) (by omega) (by omega), low (110 + 7 * j + 5) (by omega) (by omega) (by omega)]
        exact this
      · show prOk (nCut N kk d pe pa (310 + i))
        unfold nCut
        rw [eP]
        exact nCutD_ok (by omega) (by omega) (d + 1) (fun i hi => by rw [nCutQ_low _ _ _ _ (fun z hz => by omega), nCutP_low _ _ _ _ (by omega)]; exact g1 i (by omega)) i (by omega)
    · intro i f hi hf
      show isN (nCut N kk d pe pa (10 + 10 * i + f)) _
      unfold nCut
      rw [nCutD_low _ _ _ _ (by omega), nCutQ_low _ _ _ _ (fun z hz => by omega), eP]
      exact nCutP_b hB hpe (by omega) (by omega) pe (Nat.le_refl _) i f hi hf
    · intro j hj
      show isN (nCut N kk d pe pa (110 + 7 * j + 3)) _
      unfold nCut
      rw [nCutD_low _ _ _ _ (by omega), eP]
      refine nCutQ_s (N := nCutP N (lN (10 ^ kk)) pe) (fun i hi => ?_) (by omega) (by omega) pa (Nat.le_refl _) j hj
      rw [nCutP_low _ _ _ _ (by omega)]
      exact hS i hi
    · intro t ht
      exact low _ (by omega) (by omega) (by omega)
  · rw [if_neg c, if_neg c]; exact lkB hq hO hB hS
end LKD
