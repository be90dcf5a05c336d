theorem pr_person {G : jG} {mm f sz : Nat} {Sh : jS} {M : jM} {d pe pa la : Nat} {LT : Nat → sT} (h : REL mm f sz Sh M d pe pa la LT) {m : Int64} {l b : Int32} : jPair (mm + 440) G sz Sh M yX10_person cX10_person 5 3 0 0 [.ref mm, .long m, .int l, .int b] yX11_person cX11_person 7 2 [.ref (mm + 440), .long m, .int l, .int b] (RQ mm f sz) := by
  have hs := h.1.1.1
  have hb0 := h.1.1.2.1
  have hb2 := h.1.1.2.2.2.1
  have hW := h.1.2.1
  have hC := REL_wCx h
  have hAC := REL_aCx h
  obtain ⟨K, hM⟩ : ∃ K, vK (mm + 13) (mm + 14) (mm + 12) (mm + 7) M = K := ⟨_, rfl⟩
  have hOK : nOk K d pe pa la := by rw [← hM]; exact REL_nOk h
  have hBK : nB K d pe := by rw [← hM]; exact REL_nB h
  have hSK : nS K pa := by rw [← hM]; exact REL_nS h
  have hq : nQ True d pe pa la K (M.2.1 (mm + 441)) := by rw [← hM]; exact h.2.2.1.1
  have hO := h.2.2.1.2.1
  have hB := h.2.2.1.2.2.1
  have hS := h.2.2.1.2.2.2.1
  have hLO : ∀ M1 : jM, (∀ a, mm + 440 ≤ a → a < mm + 455 → M1.1 a = M.1 a) → lOk (mm + 440) M1 la LT := fun M1 h1 l hl => by
    rw [h1 (mm + 440 + 4) (by omega) (by omega)]
    exact h.2.2.1.2.2.2.2.2.1 l hl
  exact mkPair (d1 := d) (pe1 := pe + 1) (pa1 := pa) (C1 := fun q_ => q_ = sPerson K m l b) (C2 := fun q_ => q_ = sPerson (M.2.1 (mm + 441)) m l b) h (ctX10_person hs hb0 hW hM hOK.2.1.1 hOK.2.1.2) (xW_D hM sub_w0 (by unfold sPerson; (repeat' split) <;> simp)) (fun M1 hR h1 => ⟨_, ctX11_person hR hO.2.1.1 hO.2.1.2, pub_U⟩) (by rintro _ _ rfl rfl; exact lk_person hq hO hB hS)
theorem pr_habit {G : jG} {mm f sz : Nat} {Sh : jS} {M : jM} {d pe pa la : Nat} {LT : Nat → sT} (h : REL mm f sz Sh M d pe pa la LT) {p x v : Int32} : jPair (mm + 440) G sz Sh M yX10_habit cX10_habit 4 2 0 0 [.ref mm, .int p, .int x, .int v] yX11_habit cX11_habit 7 3 [.ref (mm + 440), .int p, .int x, .int v] (RQ mm f sz) := by
  have hs := h.1.1.1
  have hb0 := h.1.1.2.1
  have hb2 := h.1.1.2.2.2.1
  have hW := h.1.2.1
  have hC := REL_wCx h
  have hAC := REL_aCx h
  obtain ⟨K, hM⟩ : ∃ K, vK (mm + 13) (mm + 14) (mm + 12) (mm + 7) M = K := ⟨_, rfl⟩
  have hOK : nOk K d pe pa la := by rw [← hM]; exact REL_nOk h
  have hBK : nB K d pe := by rw [← hM]; exact REL_nB h
  have hSK : nS K pa := by rw [← hM]; exact REL_nS h
  have hq : nQ True d pe pa la K (M.2.1 (mm + 441)) := by rw [← hM]; exact h.2.2.1.1
  have hO := h.2.2.1.2.1
  have hB := h.2.2.1.2.2.1
  have hS := h.2.2.1.2.2.2.1
  have hLO : ∀ M1 : jM, (∀ a, mm + 440 ≤ a → a < mm + 455 → M1.1 a = M.1 a) → lOk (mm + 440) M1 la LT := fun M1 h1 l hl => by
    rw [h1 (mm + 440 + 4) (by omega) (by omega)]
    exact h.2.2.1.2.2.2.2.2.1 l hl
  exact mkPair (d1 := d) (pe1 := pe) (pa1 := pa) (C1 := fun q_ => q_ = sHabit K p x v) (C2 := fun q_ => q_ = sHabit (M.2.1 (mm + 441)) p x v) h (ctX10_habit hs hb0 hW hM hOK.2.1.1 hOK.2.1.2) (xW_D hM sub_w0 (by unfold sHabit; (repeat' split) <;> simp)) (fun M1 hR h1 => ⟨_, ctX11_habit hR hO.2.1.1 hO.2.1.2, pub_U⟩) (by rintro _ _ rfl rfl; exact lk_habit hq hO hB hS)
theorem pr_personIs {G : jG} {mm f sz : Nat} {Sh : jS} {M : jM} {d pe pa la : Nat} {LT : Nat → sT} (h : REL mm f sz Sh M d pe pa la LT) {p x : Int32} : jPair (mm + 440) G sz Sh M yX10_personIs cX10_personIs 3 2 0 0 [.ref mm, .int p, .int x] yX11_personIs cX11_personIs 3 3 [.ref (mm + 440), .int p, .int x] (RQ mm f sz) := by
  have hs := h.1.1.1
  have hb0 := h.1.1.2.1
  have hb2 := h.1.1.2.2.2.1
  have hW := h.1.2.1
  have hC := REL_wCx h
  have hAC := REL_aCx h
  obtain ⟨K, hM⟩ : ∃ K, vK (mm + 13) (mm + 14) (mm + 12) (mm + 7) M = K := ⟨_, rfl⟩
  have hOK : nOk K d pe pa la := by rw [← hM]; exact REL_nOk h
  have hBK : nB K d pe := by rw [← hM]; exact REL_nB h
  have hSK : nS K pa := by rw [← hM]; exact REL_nS h
  have hq : nQ True d pe pa la K (M.2.1 (mm + 441)) := by rw [← hM]; exact h.2.2.1.1
  have hO := h.2.2.1.2.1
  have hB := h.2.2.1.2.2.1
  have hS := h.2.2.1.2.2.2.1
  have hLO : ∀ M1 : jM, (∀ a, mm + 440 ≤ a → a < mm + 455 → M1.1 a = M.1 a) → lOk (mm + 440) M1 la LT := fun M1 h1 l hl => by
    rw [h1 (mm + 440 + 4) (by omega) (by omega)]
    exact h.2.2.1.2.2.2.2.2.1 l hl
  exact mkPair (d1 := d) (pe1 := pe) (pa1 := pa) (C1 := fun q_ => q_ = sPersonIs K p x) (C2 := fun q_ => q_ = sPersonIs (M.2.1 (mm + 441)) p x) h (ctX10_personIs hs hb0 hW hM hOK.2.1.1 hOK.2.1.2) (xp_D hM (by unfold sPersonIs; (repeat' split) <;> rfl)) (fun M1 hR h1 => ⟨_, ctX11_personIs hR hO.2.1.1 hO.2.1.2, fun r z S M2 hx => by
    obtain ⟨rfl, rfl, rfl, rfl⟩ := hx
    refine ⟨rfl, rfl, _, rfl, ?_⟩
    unfold sPersonIs
    by_cases c : okP (M.2.1 (mm + 441)) p ∧ okW x 7
    · rw [if_pos c]
      refine ⟨if_pos c, ?_, ?_⟩
      · rw [if_pos (show ((0 ≤ p.toInt64 ∧ p.toInt64 ≤ M.2.1 (mm + 441) 4 - 1) ∧ (0 ≤ x.toInt64 ∧ x.toInt64 ≤ 7)) from c)]
        exact mEq.rf.w (Or.inl rfl)
      · rw [if_pos (show ((0 ≤ p.toInt64 ∧ p.toInt64 ≤ M.2.1 (mm + 441) 4 - 1) ∧ (0 ≤ x.toInt64 ∧ x.toInt64 ≤ 7)) from c)]
        exact jw_at _ _ _
    · rw [if_neg c]
      refine ⟨if_neg c, ?_, ?_⟩
      · rw [if_neg (show ¬ ((0 ≤ p.toInt64 ∧ p.toInt64 ≤ M.2.1 (mm + 441) 4 - 1) ∧ (0 ≤ x.toInt64 ∧ x.toInt64 ≤ 7)) from c)]
        exact mEq.rf.w (Or.inl rfl)
      · rw [if_neg (show ¬ ((0 ≤ p.toInt64 ∧ p.toInt64 ≤ M.2.1 (mm + 441) 4 - 1) ∧ (0 ≤ x.toInt64 ∧ x.toInt64 ≤ 7)) from c)]
        exact jw_at _ _ _⟩) (by rintro _ _ rfl rfl; exact lkR hq hO hB hS (cg_personIs hq hO).1 (cg_personIs hq hO).2)
theorem pr_gain {G : jG} {mm f sz : Nat} {Sh : jS} {M : jM} {d pe pa la : Nat} {LT : Nat → sT} (h : REL mm f sz Sh M d pe pa la LT) {p l : Int32} : jPair (mm + 440) G sz Sh M yX10_gain cX10_gain 3 2 0 0 [.ref mm, .int p, .int l] yX11_gain cX11_gain 3 3 [.ref (mm + 440), .int p, .int l] (RQ mm f sz) := by
  have hs := h.1.1.1
  have hb0 := h.1.1.2.1
  have hb2 := h.1.1.2.2.2.1
  have hW := h.1.2.1
  have hC := REL_wCx h
  have hAC := REL_aCx h
  obtain ⟨K, hM⟩ : ∃ K, vK (mm + 13) (mm + 14) (mm + 12) (mm + 7) M = K := ⟨_, rfl⟩
  have hOK : nOk K d pe pa la := by rw [← hM]; exact REL_nOk h
  have hBK : nB K d pe := by rw [← hM]; exact REL_nB h
  have hSK : nS K pa := by rw [← hM]; exact REL_nS h
  have hq : nQ True d pe pa la K (M.2.1 (mm + 441)) := by rw [← hM]; exact h.2.2.1.1
  have hO := h.2.2.1.2.1
  have hB := h.2.2.1.2.2.1
  have hS := h.2.2.1.2.2.2.1
  have hLO : ∀ M1 : jM, (∀ a, mm + 440 ≤ a → a < mm + 455 → M1.1 a = M.1 a) → lOk (mm + 440) M1 la LT := fun M1 h1 l hl => by
    rw [h1 (mm + 440 + 4) (by omega) (by omega)]
    exact h.2.2.1.2.2.2.2.2.1 l hl
  exact mkPair (d1 := d) (pe1 := pe) (pa1 := pa) (C1 := fun q_ => q_ = sGain K p l) (C2 := fun q_ => q_ = sGain (M.2.1 (mm + 441)) p l) h (ctX10_gain hs hb0 hW hM hOK.2.1.1 hOK.2.1.2) (xp_D hM (by unfold sGain; (repeat' split) <;> rfl)) (fun M1 hR h1 => ⟨_, ctX11_gain hR hO.2.1.1 hO.2.1.2, pub_U⟩) (by rintro _ _ rfl rfl; exact lkR hq hO hB hS (cg_gain hq hO).1 (cg_gain hq hO).2)
theorem pr_paper {G : jG} {mm f sz : Nat} {Sh : jS} {M : jM} {d pe pa la : Nat} {LT : Nat → sT} (h : REL mm f sz Sh M d pe pa la LT) {kd who du : Int32} {sm : Int64} : jPair (mm + 440) G sz Sh M yX10_paper cX10_paper 8 2 0 0 [.ref mm, .int kd, .int who, .long sm, .int du] yX11_paper cX11_paper 8 3 [.ref (mm + 440), .int kd, .int who, .long sm, .int du] (RQ mm f sz) := by
  have hs := h.1.1.1
  have hb0 := h.1.1.2.1
  have hb2 := h.1.1.2.2.2.1
  have hW := h.1.2.1
  have hC := REL_wCx h
  have hAC := REL_aCx h
  obtain ⟨K, hM⟩ : ∃ K, vK (mm + 13) (mm + 14) (mm + 12) (mm + 7) M = K := ⟨_, rfl⟩
  have hOK : nOk K d pe pa la := by rw [← hM]; exact REL_nOk h
  have hBK : nB K d pe := by rw [← hM]; exact REL_nB h
  have hSK : nS K pa := by rw [← hM]; exact REL_nS h
  have hq : nQ True d pe pa la K (M.2.1 (mm + 441)) := by rw [← hM]; exact h.2.2.1.1
  have hO := h.2.2.1.2.1
  have hB := h.2.2.1.2.2.1
  have hS := h.2.2.1.2.2.2.1
  have hLO : ∀ M1 : jM, (∀ a, mm + 440 ≤ a → a < mm + 455 → M1.1 a = M.1 a) → lOk (mm + 440) M1 la LT := fun M1 h1 l hl => by
    rw [h1 (mm + 440 + 4) (by omega) (by omega)]
    exact h.2.2.1.2.2.2.2.2.1 l hl
  exact mkPair (d1 := d) (pe1 := pe) (pa1 := pa + 1) (C1 := fun q_ => q_ = sPaper K kd who sm du) (C2 := fun q_ => q_ = sPaper (M.2.1 (mm + 441)) kd who sm du) h (ctX10_paper hs hb0 hW hM hOK.2.1.1 hOK.2.1.2 hOK.2.2.1.1 hOK.2.2.1.2 hOK.1.1 hOK.1.2) (xW_D hM sub_w0 (by unfold sPaper ifC; (repeat' split) <;> simp)) (fun M1 hR h1 => ⟨_, ctX11_paper hR hO.2.1.1 hO.2.1.2 hO.2.2.1.1 hO.2.2.1.2 hO.1.1 hO.1.2, pub_U⟩) (by rintro _ _ rfl rfl; exact lk_paper hq hO hB hS)
theorem pr_as {G : jG} {mm f sz : Nat} {Sh : jS} {M : jM} {d pe pa la : Nat} {LT : Nat → sT} (h : REL mm f sz Sh M d pe pa la LT) {p x : Int32} : jPair (mm + 440) G sz Sh M yX10_as cX10_as 3 2 0 0 [.ref mm, .int p, .int x] yX11_as cX11_as 5 3 [.ref (mm + 440), .int p, .int x] (RQ mm f sz) := by
  have hs := h.1.1.1
  have hb0 := h.1.1.2.1
  have hb2 := h.1.1.2.2.2.1
  have hW := h.1.2.1
  have hC := REL_wCx h
  have hAC := REL_aCx h
  obtain ⟨K, hM⟩ : ∃ K, vK (mm + 13) (mm + 14) (mm + 12) (mm + 7) M = K := ⟨_, rfl⟩
  have hOK : nOk K d pe pa la := by rw [← hM]; exact REL_nOk h
  have hBK : nB K d pe := by rw [← hM]; exact REL_nB h
  have hSK : nS K pa := by rw [← hM]; exact REL_nS h
  have hq : nQ True d pe pa la K (M.2.1 (mm + 441)) := by rw [← hM]; exact h.2.2.1.1
  have hO := h.2.2.1.2.1
  have hB := h.2.2.1.2.2.1
  have hS := h.2.2.1.2.2.2.1
  have hLO : ∀ M1 : jM, (∀ a, mm + 440 ≤ a → a < mm + 455 → M1.1 a = M.1 a) → lOk (mm + 440) M1 la LT := fun M1 h1 l hl => by
    rw [h1 (mm + 440 + 4) (by omega) (by omega)]
    exact h.2.2.1.2.2.2.2.2.1 l hl
  exact mkPair (d1 := d) (pe1 := pe) (pa1 := pa) (C1 := fun q_ => q_ = sAs K p x) (C2 := fun q_ => q_ = sAs (M.2.1 (mm + 441)) p x) h (ctX10_as hs hb0 hW hM hOK.2.2.1.1 hOK.2.2.1.2 (fun j hj => ⟨_, (hOK.2.2.2.2.1 j hj).1⟩)) (xp_D hM (by unfold sAs; (repeat' split) <;> rfl)) (fun M1 hR h1 => ⟨_, ctX11_as hR hO.2.2.1.1 hO.2.2.1.2, pub_U⟩) (by rintro _ _ rfl rfl; exact lkR hq hO hB hS (cg_as hq hO).1 (cg_as hq hO).2)
theorem pr_paperIs {G : jG} {mm f sz : Nat} {Sh : jS} {M : jM} {d pe pa la : Nat} {LT : Nat → sT} (h : REL mm f sz Sh M d pe pa la LT) {p x : Int32} : jPair (mm + 440) G sz Sh M yX10_paperIs cX10_paperIs 3 2 0 0 [.ref mm, .int p, .int x] yX11_paperIs cX11_paperIs 3 3 [.ref (mm + 440), .int p, .int x] (RQ mm f sz) := by
  have hs := h.1.1.1
  have hb0 := h.1.1.2.1
  have hb2 := h.1.1.2.2.2.1
  have hW := h.1.2.1
  have hC := REL_wCx h
  have hAC := REL_aCx h
  obtain ⟨K, hM⟩ : ∃ K, vK (mm + 13) (mm + 14) (mm + 12) (mm + 7) M = K := ⟨_, rfl⟩
  have hOK : nOk K d pe pa la := by rw [← hM]; exact REL_nOk h
  have hBK : nB K d pe := by rw [← hM]; exact REL_nB h
  have hSK : nS K pa := by rw [← hM]; exact REL_nS h
  have hq : nQ True d pe pa la K (M.2.1 (mm + 441)) := by rw [← hM]; exact h.2.2.1.1
  have hO := h.2.2.1.2.1
  have hB := h.2.2.1.2.2.1
  have hS := h.2.2.1.2.2.2.1
  have hLO : ∀ M1 : jM, (∀ a, mm + 440 ≤ a → a < mm + 455 → M1.1 a = M.1 a) → lOk (mm + 440) M1 la LT := fun M1 h1 l hl => by
    rw [h1 (mm + 440 + 4) (by omega) (by omega)]
    exact h.2.2.1.2.2.2.2.2.1 l hl
  exact mkPair (d1 := d) (pe1 := pe) (pa1 := pa) (C1 := fun q_ => q_ = sPaperIs K p x) (C2 := fun q_ => q_ = sPaperIs (M.2.1 (mm + 441)) p x) h (ctX10_paperIs hs hb0 hW hM hOK.2.2.1.1 hOK.2.2.1.2) (xp_D hM (by unfold sPaperIs; (repeat' split) <;> rfl)) (fun M1 hR h1 => ⟨_, ctX11_paperIs hR hO.2.2.1.1 hO.2.2.1.2, pub_U⟩) (by rintro _ _ rfl rfl; exact lkR hq hO hB hS (cg_paperIs hq hO).1 (cg_paperIs hq hO).2)
theorem pr_owed {G : jG} {mm f sz : Nat} {Sh : jS} {M : jM} {d pe pa la : Nat} {LT : Nat → sT} (h : REL mm f sz Sh M d pe pa la LT) {p c : Int32} : jPair (mm + 440) G sz Sh M yX10_owed cX10_owed 3 5 0 0 [.ref mm, .int p, .int c] yX11_owed cX11_owed 3 5 [.ref (mm + 440), .int p, .int c] (RQ mm f sz) := by
  have hs := h.1.1.1
  have hb0 := h.1.1.2.1
  have hb2 := h.1.1.2.2.2.1
  have hW := h.1.2.1
  have hC := REL_wCx h
  have hAC := REL_aCx h
  obtain ⟨K, hM⟩ : ∃ K, vK (mm + 13) (mm + 14) (mm + 12) (mm + 7) M = K := ⟨_, rfl⟩
  have hOK : nOk K d pe pa la := by rw [← hM]; exact REL_nOk h
  have hBK : nB K d pe := by rw [← hM]; exact REL_nB h
  have hSK : nS K pa := by rw [← hM]; exact REL_nS h
  have hq : nQ True d pe pa la K (M.2.1 (mm + 441)) := by rw [← hM]; exact h.2.2.1.1
  have hO := h.2.2.1.2.1
  have hB := h.2.2.1.2.2.1
  have hS := h.2.2.1.2.2.2.1
  have hLO : ∀ M1 : jM, (∀ a, mm + 440 ≤ a → a < mm + 455 → M1.1 a = M.1 a) → lOk (mm + 440) M1 la LT := fun M1 h1 l hl => by
    rw [h1 (mm + 440 + 4) (by omega) (by omega)]
    exact h.2.2.1.2.2.2.2.2.1 l hl
  exact mkPair (d1 := d) (pe1 := pe) (pa1 := pa) (C1 := fun q_ => q_ = sOwed LT K d la p c) (C2 := fun q_ => q_ = sOwed LT (M.2.1 (mm + 441)) d la p c) h (ctX10_owed hs hb0 hC hM hOK (by unfold wSJ wS0; omega)) (xU_D sub_wJ) (fun M1 hR h1 => ⟨_, ctX11_owed hR hO (hLO M1 h1), rU_U⟩) (by rintro _ _ rfl rfl; exact lkR hq hO hB hS (cg_owed hq hO).1 (cg_owed hq hO).2)
theorem pr_pay {G : jG} {mm f sz : Nat} {Sh : jS} {M : jM} {d pe pa la : Nat} {LT : Nat → sT} (h : REL mm f sz Sh M d pe pa la LT) {p : Int32} : jPair (mm + 440) G sz Sh M yX10_pay cX10_pay 5 5 0 0 [.ref mm, .int p] yX11_pay cX11_pay 4 5 [.ref (mm + 440), .int p] (RQ mm f sz) := by
  have hs := h.1.1.1
  have hb0 := h.1.1.2.1
  have hb2 := h.1.1.2.2.2.1
  have hW := h.1.2.1
  have hC := REL_wCx h
  have hAC := REL_aCx h
  obtain ⟨K, hM⟩ : ∃ K, vK (mm + 13) (mm + 14) (mm + 12) (mm + 7) M = K := ⟨_, rfl⟩
  have hOK : nOk K d pe pa la := by rw [← hM]; exact REL_nOk h
  have hBK : nB K d pe := by rw [← hM]; exact REL_nB h
  have hSK : nS K pa := by rw [← hM]; exact REL_nS h
  have hq : nQ True d pe pa la K (M.2.1 (mm + 441)) := by rw [← hM]; exact h.2.2.1.1
  have hO := h.2.2.1.2.1
  have hB := h.2.2.1.2.2.1
  have hS := h.2.2.1.2.2.2.1
  have hLO : ∀ M1 : jM, (∀ a, mm + 440 ≤ a → a < mm + 455 → M1.1 a = M.1 a) → lOk (mm + 440) M1 la LT := fun M1 h1 l hl => by
    rw [h1 (mm + 440 + 4) (by omega) (by omega)]
    exact h.2.2.1.2.2.2.2.2.1 l hl
  exact mkPair (d1 := d) (pe1 := pe) (pa1 := pa) (C1 := fun q_ => q_ = sPay LT K d la p) (C2 := fun q_ => q_ = sPay LT (M.2.1 (mm + 441)) d la p) h (ctX10_pay hs hb0 hC hM hOK (by unfold wSJ wS0; omega)) (xU_D sub_wJ) (fun M1 hR h1 => ⟨_, ctX11_pay hR hO (hLO M1 h1), rU_U⟩) (by rintro _ _ rfl rfl; exact lk_pay hq hO hB hS)
theorem pr_tear {G : jG} {mm f sz : Nat} {Sh : jS} {M : jM} {d pe pa la : Nat} {LT : Nat → sT} (h : REL mm f sz Sh M d pe pa la LT) {p : Int32} : jPair (mm + 440) G sz Sh M yX10_tear cX10_tear 3 2 0 0 [.ref mm, .int p] yX11_tear cX11_tear 2 3 [.ref (mm + 440), .int p] (RQ mm f sz) := by
  have hs := h.1.1.1
  have hb0 := h.1.1.2.1
  have hb2 := h.1.1.2.2.2.1
  have hW := h.1.2.1
  have hC := REL_wCx h
  have hAC := REL_aCx h
  obtain ⟨K, hM⟩ : ∃ K, vK (mm + 13) (mm + 14) (mm + 12) (mm + 7) M = K := ⟨_, rfl⟩
  have hOK : nOk K d pe pa la := by rw [← hM]; exact REL_nOk h
  have hBK : nB K d pe := by rw [← hM]; exact REL_nB h
  have hSK : nS K pa := by rw [← hM]; exact REL_nS h
  have hq : nQ True d pe pa la K (M.2.1 (mm + 441)) := by rw [← hM]; exact h.2.2.1.1
  have hO := h.2.2.1.2.1
  have hB := h.2.2.1.2.2.1
  have hS := h.2.2.1.2.2.2.1
  have hLO : ∀ M1 : jM, (∀ a, mm + 440 ≤ a → a < mm + 455 → M1.1 a = M.1 a) → lOk (mm + 440) M1 la LT := fun M1 h1 l hl => by
    rw [h1 (mm + 440 + 4) (by omega) (by omega)]
    exact h.2.2.1.2.2.2.2.2.1 l hl
  exact mkPair (d1 := d) (pe1 := pe) (pa1 := pa) (C1 := fun q_ => q_ = sTear K p) (C2 := fun q_ => q_ = sTear (M.2.1 (mm + 441)) p) h (ctX10_tear hs hb0 hW hM hOK.2.2.1.1 hOK.2.2.1.2) (xW_D hM sub_w0 (by unfold sTear; (repeat' split) <;> simp)) (fun M1 hR h1 => ⟨_, ctX11_tear hR hO.2.2.1.1 hO.2.2.1.2, pub_U⟩) (by rintro _ _ rfl rfl; exact lk_tear hq hO hB hS)
theorem pr_thin {G : jG} {mm f sz : Nat} {Sh : jS} {M : jM} {d pe pa la : Nat} {LT : Nat → sT} (h : REL mm f sz Sh M d pe pa la LT) : jPair (mm + 440) G sz Sh M yX10_thin cX10_thin 4 3 0 0 [.ref mm] yX11_thin cX11_thin 7 3 [.ref (mm + 440)] (RQ mm f sz) := by
  have hs := h.1.1.1
  have hb0 := h.1.1.2.1
  have hb2 := h.1.1.2.2.2.1
  have hW := h.1.2.1
  have hC := REL_wCx h
  have hAC := REL_aCx h
  obtain ⟨K, hM⟩ : ∃ K, vK (mm + 13) (mm + 14) (mm + 12) (mm + 7) M = K := ⟨_, rfl⟩
  have hOK : nOk K d pe pa la := by rw [← hM]; exact REL_nOk h
  have hBK : nB K d pe := by rw [← hM]; exact REL_nB h
  have hSK : nS K pa := by rw [← hM]; exact REL_nS h
  have hq : nQ True d pe pa la K (M.2.1 (mm + 441)) := by rw [← hM]; exact h.2.2.1.1
  have hO := h.2.2.1.2.1
  have hB := h.2.2.1.2.2.1
  have hS := h.2.2.1.2.2.2.1
  have hLO : ∀ M1 : jM, (∀ a, mm + 440 ≤ a → a < mm + 455 → M1.1 a = M.1 a) → lOk (mm + 440) M1 la LT := fun M1 h1 l hl => by
    rw [h1 (mm + 440 + 4) (by omega) (by omega)]
    exact h.2.2.1.2.2.2.2.2.1 l hl
  exact mkPair (d1 := d) (pe1 := pe) (pa1 := pa) (C1 := fun q_ => q_ = (nThin K pa pe, false, K)) (C2 := fun q_ => q_ = (nThin (M.2.1 (mm + 441)) pa pe, false, (M.2.1 (mm + 441)))) h (ctX10_thin hs hb0 hW hM hOK.2.1.1 hOK.2.1.2 hOK.2.2.1.1 hOK.2.2.1.2) (xp_D hM rfl) (fun M1 hR h1 => ⟨_, ctX11_thin hR hO.2.1.1 hO.2.1.2 hO.2.2.1.1 hO.2.2.1.2, pub_U⟩) (by rintro _ _ rfl rfl; exact lkR hq hO hB hS (cg_thin hq).1 (cg_thin hq).2)
theorem pr_law {G : jG} {mm f sz : Nat} {Sh : jS} {M : jM} {d pe pa la : Nat} {LT : Nat → sT} (h : REL mm f sz Sh M d pe pa la LT) {c e : Int32} : jPair (mm + 440) G sz Sh M yX10_law cX10_law 4 3 0 0 [.ref mm, .int c, .int e] yX11_law cX11_law 4 2 [.ref (mm + 440), .int c, .int e] (RQ mm f sz) := by
  have hs := h.1.1.1
  have hb0 := h.1.1.2.1
  have hb2 := h.1.1.2.2.2.1
  have hW := h.1.2.1
  have hC := REL_wCx h
  have hAC := REL_aCx h
  obtain ⟨K, hM⟩ : ∃ K, vK (mm + 13) (mm + 14) (mm + 12) (mm + 7) M = K := ⟨_, rfl⟩
  have hOK : nOk K d pe pa la := by rw [← hM]; exact REL_nOk h
  have hBK : nB K d pe := by rw [← hM]; exact REL_nB h
  have hSK : nS K pa := by rw [← hM]; exact REL_nS h
  have hq : nQ True d pe pa la K (M.2.1 (mm + 441)) := by rw [← hM]; exact h.2.2.1.1
  have hO := h.2.2.1.2.1
  have hB := h.2.2.1.2.2.1
  have hS := h.2.2.1.2.2.2.1
  have hLO : ∀ M1 : jM, (∀ a, mm + 440 ≤ a → a < mm + 455 → M1.1 a = M.1 a) → lOk (mm + 440) M1 la LT := fun M1 h1 l hl => by
    rw [h1 (mm + 440 + 4) (by omega) (by omega)]
    exact h.2.2.1.2.2.2.2.2.1 l hl
  exact mkPair (d1 := d) (pe1 := pe) (pa1 := pa) (C1 := fun q_ => q_ = sLaw K la c e) (C2 := fun q_ => q_ = sLaw (M.2.1 (mm + 441)) la c e) h (ctX10_law hs hb0 hW hM hOK.2.2.2.1.1 hOK.2.2.2.1.2 h.1.2.2.2.2.2.1) (xp_D hM (by unfold sLaw; (repeat' split) <;> rfl)) (fun M1 hR h1 => ⟨_, ctX11_law hR hO.2.2.2.1.1 hO.2.2.2.1.2, pub_U⟩) (by rintro _ _ rfl rfl; exact lkR hq hO hB hS (cg_law hq).1 (cg_law hq).2)
theorem pr_unlike {G : jG} {mm f sz : Nat} {Sh : jS} {M : jM} {d pe pa la : Nat} {LT : Nat → sT} (h : REL mm f sz Sh M d pe pa la LT) : jPair (mm + 440) G sz Sh M yX10_unlike cX10_unlike 3 5 0 0 [.ref mm] yX11_unlike cX11_unlike 2 5 [.ref (mm + 440)] (RQ mm f sz) := by
  have hs := h.1.1.1
  have hb0 := h.1.1.2.1
  have hb2 := h.1.1.2.2.2.1
  have hW := h.1.2.1
  have hC := REL_wCx h
  have hAC := REL_aCx h
  obtain ⟨K, hM⟩ : ∃ K, vK (mm + 13) (mm + 14) (mm + 12) (mm + 7) M = K := ⟨_, rfl⟩
  have hOK : nOk K d pe pa la := by rw [← hM]; exact REL_nOk h
  have hBK : nB K d pe := by rw [← hM]; exact REL_nB h
  have hSK : nS K pa := by rw [← hM]; exact REL_nS h
  have hq : nQ True d pe pa la K (M.2.1 (mm + 441)) := by rw [← hM]; exact h.2.2.1.1
  have hO := h.2.2.1.2.1
  have hB := h.2.2.1.2.2.1
  have hS := h.2.2.1.2.2.2.1
  have hLO : ∀ M1 : jM, (∀ a, mm + 440 ≤ a → a < mm + 455 → M1.1 a = M.1 a) → lOk (mm + 440) M1 la LT := fun M1 h1 l hl => by
    rw [h1 (mm + 440 + 4) (by omega) (by omega)]
    exact h.2.2.1.2.2.2.2.2.1 l hl
  exact mkPair (d1 := d) (pe1 := pe) (pa1 := pa) (C1 := fun q_ => q_ = sUnlike LT K d la pa) (C2 := fun q_ => q_ = sUnlike LT (M.2.1 (mm + 441)) d la pa) h (ctX10_unlike hs hb0 hC hM hOK (by unfold wSJ wS0; omega)) (xU_D sub_wJ) (fun M1 hR h1 => ⟨_, ctX11_unlike hR hO (hLO M1 h1), rU_U⟩) (by rintro _ _ rfl rfl; exact lkR hq hO hB hS (cg_unlike hq hO).1 (cg_unlike hq hO).2)
theorem pr_days {G : jG} {mm f sz : Nat} {Sh : jS} {M : jM} {d pe pa la : Nat} {LT : Nat → sT} (h : REL mm f sz Sh M d pe pa la LT) {n : Int32} : jPair (mm + 440) G sz Sh M yX10_days cX10_days 3 6 0 0 [.ref mm, .int n] yX11_days cX11_days 3 7 [.ref (mm + 440), .int n] (RQ mm f sz) := by
  have hs := h.1.1.1
  have hb0 := h.1.1.2.1
  have hb2 := h.1.1.2.2.2.1
  have hW := h.1.2.1
  have hC := REL_wCx h
  have hAC := REL_aCx h
  obtain ⟨K, hM⟩ : ∃ K, vK (mm + 13) (mm + 14) (mm + 12) (mm + 7) M = K := ⟨_, rfl⟩
  have hOK : nOk K d pe pa la := by rw [← hM]; exact REL_nOk h
  have hBK : nB K d pe := by rw [← hM]; exact REL_nB h
  have hSK : nS K pa := by rw [← hM]; exact REL_nS h
  have hq : nQ True d pe pa la K (M.2.1 (mm + 441)) := by rw [← hM]; exact h.2.2.1.1
  have hO := h.2.2.1.2.1
  have hB := h.2.2.1.2.2.1
  have hS := h.2.2.1.2.2.2.1
  have hLO : ∀ M1 : jM, (∀ a, mm + 440 ≤ a → a < mm + 455 → M1.1 a = M.1 a) → lOk (mm + 440) M1 la LT := fun M1 h1 l hl => by
    rw [h1 (mm + 440 + 4) (by omega) (by omega)]
    exact h.2.2.1.2.2.2.2.2.1 l hl
  exact mkPair (d1 := d + n.toNatClampNeg) (pe1 := pe) (pa1 := pa) (C1 := fun q_ => q_ = sDays LT K d pe pa la n) (C2 := fun q_ => q_ = sDays LT (M.2.1 (mm + 441)) d pe pa la n) h (ctX10_days hs hb0 hC h.1.2.2.2.2.1 REL_mAp hM hOK hBK hSK (by unfold wSX wSJ mS wS0; omega)) (xD_D sub_wX) (fun M1 hR h1 => ⟨_, ctX11_days hR hO (hLO M1 h1) hB hS, rU_U⟩) (by rintro _ _ rfl rfl; exact lk_days hq hO hB hS)
theorem pr_price {G : jG} {mm f sz : Nat} {Sh : jS} {M : jM} {d pe pa la : Nat} {LT : Nat → sT} (h : REL mm f sz Sh M d pe pa la LT) {x : Int32} : jPair (mm + 440) G sz Sh M yX10_price cX10_price 2 2 0 0 [.ref mm, .int x] yX11_price cX11_price 2 3 [.ref (mm + 440), .int x] (RQ mm f sz) := by
  have hs := h.1.1.1
  have hb0 := h.1.1.2.1
  have hb2 := h.1.1.2.2.2.1
  have hW := h.1.2.1
  have hC := REL_wCx h
  have hAC := REL_aCx h
  obtain ⟨K, hM⟩ : ∃ K, vK (mm + 13) (mm + 14) (mm + 12) (mm + 7) M = K := ⟨_, rfl⟩
  have hOK : nOk K d pe pa la := by rw [← hM]; exact REL_nOk h
  have hBK : nB K d pe := by rw [← hM]; exact REL_nB h
  have hSK : nS K pa := by rw [← hM]; exact REL_nS h
  have hq : nQ True d pe pa la K (M.2.1 (mm + 441)) := by rw [← hM]; exact h.2.2.1.1
  have hO := h.2.2.1.2.1
  have hB := h.2.2.1.2.2.1
  have hS := h.2.2.1.2.2.2.1
  have hLO : ∀ M1 : jM, (∀ a, mm + 440 ≤ a → a < mm + 455 → M1.1 a = M.1 a) → lOk (mm + 440) M1 la LT := fun M1 h1 l hl => by
    rw [h1 (mm + 440 + 4) (by omega) (by omega)]
    exact h.2.2.1.2.2.2.2.2.1 l hl
  exact mkPair (d1 := d) (pe1 := pe) (pa1 := pa) (C1 := fun q_ => q_ = sPrice K x) (C2 := fun q_ => q_ = sPrice (M.2.1 (mm + 441)) x) h (ctX10_price hs hb0 hW hM hOK.1.1 hOK.1.2 (fun k hk => (hOK.2.2.2.2.2 k hk).1)) (xp_D hM (by unfold sPrice; (repeat' split) <;> rfl)) (fun M1 hR h1 => ⟨_, ctX11_price hR hO.1.1 hO.1.2, pub_U⟩) (by rintro _ _ rfl rfl; exact lkR hq hO hB hS (cg_price hq hO).1 (cg_price hq hO).2)
theorem pr_index {G : jG} {mm f sz : Nat} {Sh : jS} {M : jM} {d pe pa la : Nat} {LT : Nat → sT} (h : REL mm f sz Sh M d pe pa la LT) {x z : Int32} : jPair (mm + 440) G sz Sh M yX10_index cX10_index 3 2 0 0 [.ref mm, .int x, .int z] yX11_index cX11_index 3 3 [.ref (mm + 440), .int x, .int z] (RQ mm f sz) := by
  have hs := h.1.1.1
  have hb0 := h.1.1.2.1
  have hb2 := h.1.1.2.2.2.1
  have hW := h.1.2.1
  have hC := REL_wCx h
  have hAC := REL_aCx h
  obtain ⟨K, hM⟩ : ∃ K, vK (mm + 13) (mm + 14) (mm + 12) (mm + 7) M = K := ⟨_, rfl⟩
  have hOK : nOk K d pe pa la := by rw [← hM]; exact REL_nOk h
  have hBK : nB K d pe := by rw [← hM]; exact REL_nB h
  have hSK : nS K pa := by rw [← hM]; exact REL_nS h
  have hq : nQ True d pe pa la K (M.2.1 (mm + 441)) := by rw [← hM]; exact h.2.2.1.1
  have hO := h.2.2.1.2.1
  have hB := h.2.2.1.2.2.1
  have hS := h.2.2.1.2.2.2.1
  have hLO : ∀ M1 : jM, (∀ a, mm + 440 ≤ a → a < mm + 455 → M1.1 a = M.1 a) → lOk (mm + 440) M1 la LT := fun M1 h1 l hl => by
    rw [h1 (mm + 440 + 4) (by omega) (by omega)]
    exact h.2.2.1.2.2.2.2.2.1 l hl
  exact mkPair (d1 := d) (pe1 := pe) (pa1 := pa) (C1 := fun q_ => q_ = sIndex K x z) (C2 := fun q_ => q_ = sIndex (M.2.1 (mm + 441)) x z) h (ctX10_index hs hb0 hW hM hOK.1.1 hOK.1.2 (fun k hk => (hOK.2.2.2.2.2 k hk).1)) (xp_D hM (by unfold sIndex; (repeat' split) <;> rfl)) (fun M1 hR h1 => ⟨_, ctX11_index hR hO.1.1 hO.1.2 (fun k hk e => absurd (hO.2.2.2.2.2 k hk).1 (by rw [e]; decide)), pub_U⟩) (by rintro _ _ rfl rfl; exact lkR hq hO hB hS (cg_index hq hO).1 (cg_index hq hO).2)
theorem pr_press {G : jG} {mm f sz : Nat} {Sh : jS} {M : jM} {d pe pa la : Nat} {LT : Nat → sT} (h : REL mm f sz Sh M d pe pa la LT) {v : Int64} : jPair (mm + 440) G sz Sh M yX10_press cX10_press 3 2 0 0 [.ref mm, .long v] yX11_press cX11_press 3 2 [.ref (mm + 440), .long v] (RQ mm f sz) := by
  have hs := h.1.1.1
  have hb0 := h.1.1.2.1
  have hb2 := h.1.1.2.2.2.1
  have hW := h.1.2.1
  have hC := REL_wCx h
  have hAC := REL_aCx h
  obtain ⟨K, hM⟩ : ∃ K, vK (mm + 13) (mm + 14) (mm + 12) (mm + 7) M = K := ⟨_, rfl⟩
  have hOK : nOk K d pe pa la := by rw [← hM]; exact REL_nOk h
  have hBK : nB K d pe := by rw [← hM]; exact REL_nB h
  have hSK : nS K pa := by rw [← hM]; exact REL_nS h
  have hq : nQ True d pe pa la K (M.2.1 (mm + 441)) := by rw [← hM]; exact h.2.2.1.1
  have hO := h.2.2.1.2.1
  have hB := h.2.2.1.2.2.1
  have hS := h.2.2.1.2.2.2.1
  have hLO : ∀ M1 : jM, (∀ a, mm + 440 ≤ a → a < mm + 455 → M1.1 a = M.1 a) → lOk (mm + 440) M1 la LT := fun M1 h1 l hl => by
    rw [h1 (mm + 440 + 4) (by omega) (by omega)]
    exact h.2.2.1.2.2.2.2.2.1 l hl
  exact mkPair (d1 := d) (pe1 := pe) (pa1 := pa) (C1 := fun q_ => q_ = sPress K v) (C2 := fun q_ => q_ = sPress (M.2.1 (mm + 441)) v) h (ctX10_press hs hb0 hW hM) (xW_D hM sub_w0 (by unfold sPress; (repeat' split) <;> simp)) (fun M1 hR h1 => ⟨_, ctX11_press hR, pub_U⟩) (by rintro _ _ rfl rfl; exact lk_press hq hO hB hS)
theorem pr_give {G : jG} {mm f sz : Nat} {Sh : jS} {M : jM} {d pe pa la : Nat} {LT : Nat → sT} (h : REL mm f sz Sh M d pe pa la LT) {p : Int32} {v : Int64} : jPair (mm + 440) G sz Sh M yX10_give cX10_give 4 2 0 0 [.ref mm, .int p, .long v] yX11_give cX11_give 4 3 [.ref (mm + 440), .int p, .long v] (RQ mm f sz) := by
  have hs := h.1.1.1
  have hb0 := h.1.1.2.1
  have hb2 := h.1.1.2.2.2.1
  have hW := h.1.2.1
  have hC := REL_wCx h
  have hAC := REL_aCx h
  obtain ⟨K, hM⟩ : ∃ K, vK (mm + 13) (mm + 14) (mm + 12) (mm + 7) M = K := ⟨_, rfl⟩
  have hOK : nOk K d pe pa la := by rw [← hM]; exact REL_nOk h
  have hBK : nB K d pe := by rw [← hM]; exact REL_nB h
  have hSK : nS K pa := by rw [← hM]; exact REL_nS h
  have hq : nQ True d pe pa la K (M.2.1 (mm + 441)) := by rw [← hM]; exact h.2.2.1.1
  have hO := h.2.2.1.2.1
  have hB := h.2.2.1.2.2.1
  have hS := h.2.2.1.2.2.2.1
  have hLO : ∀ M1 : jM, (∀ a, mm + 440 ≤ a → a < mm + 455 → M1.1 a = M.1 a) → lOk (mm + 440) M1 la LT := fun M1 h1 l hl => by
    rw [h1 (mm + 440 + 4) (by omega) (by omega)]
    exact h.2.2.1.2.2.2.2.2.1 l hl
  exact mkPair (d1 := d) (pe1 := pe) (pa1 := pa) (C1 := fun q_ => q_ = sGive K p v) (C2 := fun q_ => q_ = sGive (M.2.1 (mm + 441)) p v) h (ctX10_give hs hb0 hW hM hOK.2.1.1 hOK.2.1.2) (xW_D hM sub_w0 (by unfold sGive; (repeat' split) <;> simp)) (fun M1 hR h1 => ⟨_, ctX11_give hR hO.2.1.1 hO.2.1.2, pub_U⟩) (by rintro _ _ rfl rfl; exact lk_give hq hO hB hS)
theorem pr_tax {G : jG} {mm f sz : Nat} {Sh : jS} {M : jM} {d pe pa la : Nat} {LT : Nat → sT} (h : REL mm f sz Sh M d pe pa la LT) : jPair (mm + 440) G sz Sh M yX10_tax cX10_tax 1 3 0 0 [.ref mm] yX11_tax cX11_tax 1 3 [.ref (mm + 440)] (RQ mm f sz) := by
  have hs := h.1.1.1
  have hb0 := h.1.1.2.1
  have hb2 := h.1.1.2.2.2.1
  have hW := h.1.2.1
  have hC := REL_wCx h
  have hAC := REL_aCx h
  obtain ⟨K, hM⟩ : ∃ K, vK (mm + 13) (mm + 14) (mm + 12) (mm + 7) M = K := ⟨_, rfl⟩
  have hOK : nOk K d pe pa la := by rw [← hM]; exact REL_nOk h
  have hBK : nB K d pe := by rw [← hM]; exact REL_nB h
  have hSK : nS K pa := by rw [← hM]; exact REL_nS h
  have hq : nQ True d pe pa la K (M.2.1 (mm + 441)) := by rw [← hM]; exact h.2.2.1.1
  have hO := h.2.2.1.2.1
  have hB := h.2.2.1.2.2.1
  have hS := h.2.2.1.2.2.2.1
  have hLO : ∀ M1 : jM, (∀ a, mm + 440 ≤ a → a < mm + 455 → M1.1 a = M.1 a) → lOk (mm + 440) M1 la LT := fun M1 h1 l hl => by
    rw [h1 (mm + 440 + 4) (by omega) (by omega)]
    exact h.2.2.1.2.2.2.2.2.1 l hl
  exact mkPair (d1 := d) (pe1 := pe) (pa1 := pa) (C1 := fun q_ => q_ = ((nTx K pe).1, false, nTaxed K pe)) (C2 := fun q_ => q_ = ((nTx (M.2.1 (mm + 441)) pe).1, false, nTaxed (M.2.1 (mm + 441)) pe)) h (ctX10_tax hs hb0 hW hM hOK.2.1.1 hOK.2.1.2) (xW_D hM sub_w0 (by simp)) (fun M1 hR h1 => ⟨_, ctX11_tax hR hO.2.1.1 hO.2.1.2, pub_U⟩) (by rintro _ _ rfl rfl; exact lk_tax hq hO hB hS)
theorem pr_swap {G : jG} {mm f sz : Nat} {Sh : jS} {M : jM} {d pe pa la : Nat} {LT : Nat → sT} (h : REL mm f sz Sh M d pe pa la LT) {k : Int32} : jPair (mm + 440) G sz Sh M yX10_swap cX10_swap 2 3 0 0 [.ref mm, .int k] yX11_swap cX11_swap 5 3 [.ref (mm + 440), .int k] (RQ mm f sz) := by
  have hs := h.1.1.1
  have hb0 := h.1.1.2.1
  have hb2 := h.1.1.2.2.2.1
  have hW := h.1.2.1
  have hC := REL_wCx h
  have hAC := REL_aCx h
  obtain ⟨K, hM⟩ : ∃ K, vK (mm + 13) (mm + 14) (mm + 12) (mm + 7) M = K := ⟨_, rfl⟩
  have hOK : nOk K d pe pa la := by rw [← hM]; exact REL_nOk h
  have hBK : nB K d pe := by rw [← hM]; exact REL_nB h
  have hSK : nS K pa := by rw [← hM]; exact REL_nS h
  have hq : nQ True d pe pa la K (M.2.1 (mm + 441)) := by rw [← hM]; exact h.2.2.1.1
  have hO := h.2.2.1.2.1
  have hB := h.2.2.1.2.2.1
  have hS := h.2.2.1.2.2.2.1
  have hLO : ∀ M1 : jM, (∀ a, mm + 440 ≤ a → a < mm + 455 → M1.1 a = M.1 a) → lOk (mm + 440) M1 la LT := fun M1 h1 l hl => by
    rw [h1 (mm + 440 + 4) (by omega) (by omega)]
    exact h.2.2.1.2.2.2.2.2.1 l hl
  exact mkPair (d1 := d) (pe1 := pe) (pa1 := pa) (C1 := fun q_ => q_ = sSwap K d pe pa k) (C2 := fun q_ => q_ = sSwap (M.2.1 (mm + 441)) d pe pa k) h (ctX10_swap hs hb0 hW hM hOK.2.1.1 hOK.2.1.2 hOK.2.2.1.1 hOK.2.2.1.2 hOK.1.1 hOK.1.2) (xW_D hM sub_w0 (by unfold sSwap; (repeat' split) <;> simp)) (fun M1 hR h1 => ⟨_, ctX11_swap hR hO.2.1.1 hO.2.1.2 hO.2.2.1.1 hO.2.2.1.2 hO.1.1 hO.1.2, pub_U⟩) (by rintro _ _ rfl rfl; exact lk_swap hq hO hB hS)
theorem pr_need {G : jG} {mm f sz : Nat} {Sh : jS} {M : jM} {d pe pa la : Nat} {LT : Nat → sT} (h : REL mm f sz Sh M d pe pa la LT) {n : Int32} : jPair (mm + 440) G sz Sh M yX10_need cX10_need 2 7 0 0 [.ref mm, .int n] yX11_need_ cX11_need_ 5 7 [.ref (mm + 440), .int n] (RQ mm f sz) := by
  have hs := h.1.1.1
  have hb0 := h.1.1.2.1
  have hb2 := h.1.1.2.2.2.1
  have hW := h.1.2.1
  have hC := REL_wCx h
  have hAC := REL_aCx h
  obtain ⟨K, hM⟩ : ∃ K, vK (mm + 13) (mm + 14) (mm + 12) (mm + 7) M = K := ⟨_, rfl⟩
  have hOK : nOk K d pe pa la := by rw [← hM]; exact REL_nOk h
  have hBK : nB K d pe := by rw [← hM]; exact REL_nB h
  have hSK : nS K pa := by rw [← hM]; exact REL_nS h
  have hq : nQ True d pe pa la K (M.2.1 (mm + 441)) := by rw [← hM]; exact h.2.2.1.1
  have hO := h.2.2.1.2.1
  have hB := h.2.2.1.2.2.1
  have hS := h.2.2.1.2.2.2.1
  have hLO : ∀ M1 : jM, (∀ a, mm + 440 ≤ a → a < mm + 455 → M1.1 a = M.1 a) → lOk (mm + 440) M1 la LT := fun M1 h1 l hl => by
    rw [h1 (mm + 440 + 4) (by omega) (by omega)]
    exact h.2.2.1.2.2.2.2.2.1 l hl
  exact mkPair (d1 := d) (pe1 := pe) (pa1 := pa) (C1 := fun q_ => q_ = sNeed LT K d pe pa la n) (C2 := fun q_ => q_ = sNeed LT (M.2.1 (mm + 441)) d pe pa la n) h (ctX10_need hs hb0 hb2 hAC hM hOK hBK hSK (by unfold wS0; omega) (by unfold aS; omega)) (xD_D sub_aS) (fun M1 hR h1 => ⟨_, ctX11_need_ hR hO (hLO M1 h1) hB hS, rU_U⟩) (by rintro _ _ rfl rfl; exact lkR hq hO hB hS (cg_need hq hO hB hS).1 (cg_need hq hO hB hS).2)
theorem pr_melts {G : jG} {mm f sz : Nat} {Sh : jS} {M : jM} {d pe pa la : Nat} {LT : Nat → sT} (h : REL mm f sz Sh M d pe pa la LT) {n : Int32} : jPair (mm + 440) G sz Sh M yX10_melts cX10_melts 3 7 0 0 [.ref mm, .int n] yX11_melts cX11_melts 5 7 [.ref (mm + 440), .int n] (RQ mm f sz) := by
  have hs := h.1.1.1
  have hb0 := h.1.1.2.1
  have hb2 := h.1.1.2.2.2.1
  have hW := h.1.2.1
  have hC := REL_wCx h
  have hAC := REL_aCx h
  obtain ⟨K, hM⟩ : ∃ K, vK (mm + 13) (mm + 14) (mm + 12) (mm + 7) M = K := ⟨_, rfl⟩
  have hOK : nOk K d pe pa la := by rw [← hM]; exact REL_nOk h
  have hBK : nB K d pe := by rw [← hM]; exact REL_nB h
  have hSK : nS K pa := by rw [← hM]; exact REL_nS h
  have hq : nQ True d pe pa la K (M.2.1 (mm + 441)) := by rw [← hM]; exact h.2.2.1.1
  have hO := h.2.2.1.2.1
  have hB := h.2.2.1.2.2.1
  have hS := h.2.2.1.2.2.2.1
  have hLO : ∀ M1 : jM, (∀ a, mm + 440 ≤ a → a < mm + 455 → M1.1 a = M.1 a) → lOk (mm + 440) M1 la LT := fun M1 h1 l hl => by
    rw [h1 (mm + 440 + 4) (by omega) (by omega)]
    exact h.2.2.1.2.2.2.2.2.1 l hl
  exact mkPair (d1 := d) (pe1 := pe) (pa1 := pa) (C1 := fun q_ => q_ = sMelts LT K d pe pa la n) (C2 := fun q_ => q_ = sMelts LT (M.2.1 (mm + 441)) d pe pa la n) h (ctX10_melts hs hb0 hb2 hAC hM hOK hBK hSK (by unfold wS0; omega) (by unfold aS; omega)) (xD_D sub_aS) (fun M1 hR h1 => ⟨_, ctX11_melts hR hO (hLO M1 h1) hB hS, rU_U⟩) (by rintro _ _ rfl rfl; exact lkR hq hO hB hS (cg_melts hq hO hB hS).1 (cg_melts hq hO hB hS).2)
theorem pr_beside {G : jG} {mm f sz : Nat} {Sh : jS} {M : jM} {d pe pa la : Nat} {LT : Nat → sT} (h : REL mm f sz Sh M d pe pa la LT) {p n : Int32} {v : Int64} : jPair (mm + 440) G sz Sh M yX10_beside cX10_beside 5 7 0 0 [.ref mm, .int p, .long v, .int n] yX11_beside cX11_beside 10 7 [.ref (mm + 440), .int p, .long v, .int n] (RQ mm f sz) := by
  have hs := h.1.1.1
  have hb0 := h.1.1.2.1
  have hb2 := h.1.1.2.2.2.1
  have hW := h.1.2.1
  have hC := REL_wCx h
  have hAC := REL_aCx h
  obtain ⟨K, hM⟩ : ∃ K, vK (mm + 13) (mm + 14) (mm + 12) (mm + 7) M = K := ⟨_, rfl⟩
  have hOK : nOk K d pe pa la := by rw [← hM]; exact REL_nOk h
  have hBK : nB K d pe := by rw [← hM]; exact REL_nB h
  have hSK : nS K pa := by rw [← hM]; exact REL_nS h
  have hq : nQ True d pe pa la K (M.2.1 (mm + 441)) := by rw [← hM]; exact h.2.2.1.1
  have hO := h.2.2.1.2.1
  have hB := h.2.2.1.2.2.1
  have hS := h.2.2.1.2.2.2.1
  have hLO : ∀ M1 : jM, (∀ a, mm + 440 ≤ a → a < mm + 455 → M1.1 a = M.1 a) → lOk (mm + 440) M1 la LT := fun M1 h1 l hl => by
    rw [h1 (mm + 440 + 4) (by omega) (by omega)]
    exact h.2.2.1.2.2.2.2.2.1 l hl
  exact mkPair (d1 := d) (pe1 := pe) (pa1 := pa) (C1 := fun q_ => q_ = sBeside LT K d pe pa la p v n) (C2 := fun q_ => q_ = sBeside LT (M.2.1 (mm + 441)) d pe pa la p v n) h (ctX10_beside hs hb0 hb2 hAC hM hOK hBK hSK (by unfold wS0; omega) (by unfold aS; omega)) (xD_D sub_aS) (fun M1 hR h1 => ⟨_, ctX11_beside hR hO (hLO M1 h1) hB hS, rU_U⟩) (by rintro _ _ rfl rfl; exact lkR hq hO hB hS (cg_beside hq hO hB hS).1 (cg_beside hq hO hB hS).2)
theorem pr_choices {G : jG} {mm f sz : Nat} {Sh : jS} {M : jM} {d pe pa la : Nat} {LT : Nat → sT} (h : REL mm f sz Sh M d pe pa la LT) {n x : Int32} : jPair (mm + 440) G sz Sh M yX10_choices cX10_choices 3 44 0 0 [.ref mm, .int n, .int x] yX11_choices cX11_choices 19 7 [.ref (mm + 440), .int n, .int x] (RQ mm f sz) := by
  have hs := h.1.1.1
  have hb0 := h.1.1.2.1
  have hb2 := h.1.1.2.2.2.1
  have hW := h.1.2.1
  have hC := REL_wCx h
  have hAC := REL_aCx h
  obtain ⟨K, hM⟩ : ∃ K, vK (mm + 13) (mm + 14) (mm + 12) (mm + 7) M = K := ⟨_, rfl⟩
  have hOK : nOk K d pe pa la := by rw [← hM]; exact REL_nOk h
  have hBK : nB K d pe := by rw [← hM]; exact REL_nB h
  have hSK : nS K pa := by rw [← hM]; exact REL_nS h
  have hq : nQ True d pe pa la K (M.2.1 (mm + 441)) := by rw [← hM]; exact h.2.2.1.1
  have hO := h.2.2.1.2.1
  have hB := h.2.2.1.2.2.1
  have hS := h.2.2.1.2.2.2.1
  have hLO : ∀ M1 : jM, (∀ a, mm + 440 ≤ a → a < mm + 455 → M1.1 a = M.1 a) → lOk (mm + 440) M1 la LT := fun M1 h1 l hl => by
    rw [h1 (mm + 440 + 4) (by omega) (by omega)]
    exact h.2.2.1.2.2.2.2.2.1 l hl
  exact mkPair (d1 := d) (pe1 := pe) (pa1 := pa) (C1 := fun s => cRel LT K d pe pa la n x s) (C2 := fun s => cRel LT (M.2.1 (mm + 441)) d pe pa la n x s) h (ctX10_choices hs hb0 hb2 hAC hM hOK hBK hSK (by unfold wS0; omega) (by unfold aS; omega) (fun b hb => by omega) (by omega)) (fun r z S M1 hx => by obtain ⟨rfl, rfl, s, hs1, hx⟩ := hx; exact ⟨rfl, rfl, s, hs1, hx.1, hx.2.1, hx.2.2.mono sub_aS⟩) (fun M1 hR h1 => ⟨_, ctX11_choices hR hO (hLO M1 h1) hB hS, fun r z S M2 hx => by obtain ⟨rfl, rfl, s, hs1, hx⟩ := hx; exact ⟨rfl, rfl, s, hs1, hx⟩⟩) (fun s1 s2 h1 h2 => lkR hq hO hB hS (cg_choices hq hO hB hS h1 h2).1 (cg_choices hq hO hB hS h1 h2).2)
theorem pr_count {G : jG} {mm f sz : Nat} {Sh : jS} {M : jM} {d pe pa la : Nat} {LT : Nat → sT} (h : REL mm f sz Sh M d pe pa la LT) (hf : f < 2 ^ 31) {x : Int32} : jPair (mm + 440) G sz Sh M yX10_count cX10_count 2 4 0 0 [.ref mm, .int x] yX11_count cX11_count 5 3 [.ref (mm + 440), .int x] (RQ mm f sz) := by
  have hs := h.1.1.1
  have hb0 := h.1.1.2.1
  have hb2 := h.1.1.2.2.2.1
  have hW := h.1.2.1
  have hC := REL_wCx h
  have hAC := REL_aCx h
  obtain ⟨K, hM⟩ : ∃ K, vK (mm + 13) (mm + 14) (mm + 12) (mm + 7) M = K := ⟨_, rfl⟩
  have hOK : nOk K d pe pa la := by rw [← hM]; exact REL_nOk h
  have hBK : nB K d pe := by rw [← hM]; exact REL_nB h
  have hSK : nS K pa := by rw [← hM]; exact REL_nS h
  have hq : nQ True d pe pa la K (M.2.1 (mm + 441)) := by rw [← hM]; exact h.2.2.1.1
  have hO := h.2.2.1.2.1
  have hB := h.2.2.1.2.2.1
  have hS := h.2.2.1.2.2.2.1
  have hLO : ∀ M1 : jM, (∀ a, mm + 440 ≤ a → a < mm + 455 → M1.1 a = M.1 a) → lOk (mm + 440) M1 la LT := fun M1 h1 l hl => by
    rw [h1 (mm + 440 + 4) (by omega) (by omega)]
    exact h.2.2.1.2.2.2.2.2.1 l hl
  exact mkPair (d1 := d) (pe1 := pe) (pa1 := pa) (C1 := fun q_ => q_ = sCount K pe pa (lN f) x) (C2 := fun q_ => q_ = sCount (M.2.1 (mm + 441)) pe pa (lN f) x) h (ctX10_count hs hb0 hW hM hOK.2.1.1 hOK.2.1.2 hOK.2.2.1.1 hOK.2.2.1.2 hOK.1.1 hOK.1.2) (by rw [h.2.2.2.2.2.2.1]; exact xp_D hM (by unfold sCount; split <;> rfl)) (fun M1 hR h1 => ⟨_, ctX11_count hR hO.2.1.1 hO.2.1.2 hO.2.2.1.1 hO.2.2.1.2, by rw [h1 (mm + 440) (by omega) (by omega), h.2.2.2.2.2.2.2, nI_l hf]; exact pub_U⟩) (by rintro _ _ rfl rfl; exact lkR hq hO hB hS (cg_count hq).1 (cg_count hq).2)
theorem pr_proves {G : jG} {mm f sz : Nat} {Sh : jS} {M : jM} {d pe pa la : Nat} {LT : Nat → sT} (h : REL mm f sz Sh M d pe pa la LT) {v s : Int32} : jPair (mm + 440) G sz Sh M yX10_proves cX10_proves 5 7 0 0 [.ref mm, .int v, .int s] yX11_proves cX11_proves 9 7 [.ref (mm + 440), .int v, .int s] (RQ mm f sz) := by
  have hs := h.1.1.1
  have hb0 := h.1.1.2.1
  have hb2 := h.1.1.2.2.2.1
  have hW := h.1.2.1
  have hC := REL_wCx h
  have hAC := REL_aCx h
  obtain ⟨K, hM⟩ : ∃ K, vK (mm + 13) (mm + 14) (mm + 12) (mm + 7) M = K := ⟨_, rfl⟩
  have hOK : nOk K d pe pa la := by rw [← hM]; exact REL_nOk h
  have hBK : nB K d pe := by rw [← hM]; exact REL_nB h
  have hSK : nS K pa := by rw [← hM]; exact REL_nS h
  have hq : nQ True d pe pa la K (M.2.1 (mm + 441)) := by rw [← hM]; exact h.2.2.1.1
  have hO := h.2.2.1.2.1
  have hB := h.2.2.1.2.2.1
  have hS := h.2.2.1.2.2.2.1
  have hLO : ∀ M1 : jM, (∀ a, mm + 440 ≤ a → a < mm + 455 → M1.1 a = M.1 a) → lOk (mm + 440) M1 la LT := fun M1 h1 l hl => by
    rw [h1 (mm + 440 + 4) (by omega) (by omega)]
    exact h.2.2.1.2.2.2.2.2.1 l hl
  have hb4 := h.1.1.2.2.2.2.2
  have hL := h.1.2.2.2.2.2.2.2.2.2.2.1
  obtain ⟨wd, n, g, g2, hn20, hc1, hc2, hgf⟩ : ∃ (wd : Int32) (n : Nat) (g g2 : Nat → Int32), n ≤ 20 ∧ (okW s 3 → M.1 (mm + 431 + 1 + 2 * s.toNatClampNeg) 1 = wd ∧ M.1 (mm + 431 + 1 + 2 * s.toNatClampNeg) 2 = nI n ∧ M.1 (mm + 431 + 1 + 2 * s.toNatClampNeg + 1) = g) ∧ (okW s 3 → M.1 (mm + 447) s.toNatClampNeg = wd ∧ M.1 (mm + 448) s.toNatClampNeg = nI n ∧ ∀ k, k < n → M.1 (mm + 449) (20 * s.toNatClampNeg + k) = g2 k) ∧ ∀ i, i < n → sE (g i) (g2 i) := by
    by_cases c : okW s 3
    · obtain ⟨x, hx, rfl⟩ := jix2 (n := 3) (by omega) c.1 c.2
      rw [nI_clamp (by omega)]
      obtain ⟨m, hm, q1, q2, q3, q4, q5⟩ := h.2.2.2.2.2.1 x (by omega)
      exact ⟨_, m, _, fun k => M.1 (mm + 449) (20 * x + k), hm, fun _ => ⟨q1, q3, rfl⟩, fun _ => ⟨rfl, q4, fun _ _ => rfl⟩, q5⟩
    · exact ⟨0, 0, fun _ => 0, fun _ => 0, by omega, fun e => absurd e c, fun e => absurd e c, fun i hi => absurd hi (by omega)⟩
  have hM1 : ∀ M1 : jM, (∀ a, mm + 440 ≤ a → a < mm + 455 → M1.1 a = M.1 a) → M1.1 (mm + 440 + 7) = M.1 (mm + 447) ∧ M1.1 (mm + 440 + 8) = M.1 (mm + 448) ∧ M1.1 (mm + 440 + 9) = M.1 (mm + 449) := fun M1 h1 => ⟨h1 _ (by omega) (by omega), h1 _ (by omega) (by omega), h1 _ (by omega) (by omega)⟩
  exact mkPair (d1 := d) (pe1 := pe) (pa1 := pa) (C1 := fun q_ => q_ = sProves LT K d pe pa la wd n g v s) (C2 := fun q_ => q_ = sProves LT (M.2.1 (mm + 441)) d pe pa la wd n g2 v s) h (ctX10_proves hs hb0 hb2 hAC hM hOK hBK hSK (by unfold wS0; omega) (by unfold aS; omega) hb4 hL (fun s hs => by unfold aS; omega) hn20 hc1) (xD_D sub_aS) (fun M1 hR h1 => ⟨_, ctX11_proves hR hO (hLO M1 h1) hB hS (fun c => by rw [(hM1 M1 h1).1]; exact (hc2 c).1) (fun c => by rw [(hM1 M1 h1).2.1]; exact (hc2 c).2.1) hn20 (fun c k hk => by rw [(hM1 M1 h1).2.2]; exact (hc2 c).2.2 k hk), rU_U⟩) (by rintro _ _ rfl rfl; exact lkR hq hO hB hS (cg_proves hq hO hB hS hgf).1 (cg_proves hq hO hB hS hgf).2)
