theorem pI_cl2 {T : Nat → Nat} {n : Nat} {P : List Nat} {q : pS} {s : Nat} (hT : ∀ i, T i < 256) (hI : pI n P q) : pI n P (pExp T n (1, s) q) ∧ pI n P (pOr T n (lvE T n 4).1 (lvE T n 4).2 (pExp T n (1, s) q)) ∧ pI n P (pCl T n s q) := by
  have h := pI_cl (s := s) (k := 3000000) hT hI
  exact ⟨h.1, h.2.1, h.2.2.1⟩
set_option maxRecDepth 100000 in
set_option maxHeartbeats 4000000 in
theorem ctX7_readClause {G : jG} {sz : Nat} {Sh : jS} {M : jM} {rd : Nat} {S : Nat → Prop} {T : Nat → Nat} {n : Nat} {M0 : jM} {P : List Nat} {q : pS} (hSo : S rd) (hSc : S (rd + 2)) (hI : pI n P q) (hS : cSt S rd Sh T n M0 P M q) {s : Nat} (hs : s < 13) {v : Int32} (hv : v = cTok (1, s)) : jC G yX7_readClause cX7_readClause 2 (Option.none : Option FieldType) (jrm 58 0 0) sz Sh M [.ref rd, .int v] (jT sz Sh (fun r M1 => r = none ∧ cSt S rd Sh T n M0 P M1 (pCl T n s q))) := by
  refine jC_start (by decide +kernel) (Nat.le_of_ble_eq_true rfl) (fun X C E hN0 => ?_)
  have hs7 := (cSt_lay hS).1.1
  have hn160 : n ≤ 160 := (cSt_lay hS).2.2.1
  have hT := (cSt_lay hS).2.2.2.1
  have hS0 := hS
  obtain ⟨K, a, b, c, d, e, hQ, hB, hG⟩ := hS0
  refine j_aload_n (q := 1) C dX7_readClause_0 rfl rfl rfl ?_
  refine j_iload_n (q := 2) C dX7_readClause_1 rfl rfl rfl ?_
  refine jVT jc7 (q := 5) C dX7_readClause_2 rfl hs7 mX7_expect kw_538 kw_539 kw_9 (ctX7_expect hSo hSc hI hS (t := (1, s)) (tF_w s hs) (show ¬ (1 : Nat) = 4 by decide) hv) rfl rfl (by decide) (Nat.le_of_ble_eq_true rfl) (by decide) (fun r_2 M_2 h_2 => ?_)
  obtain ⟨rfl, hS1⟩ := h_2
  obtain ⟨h1, h2, h3⟩ := pI_cl2 (s := s) hT hI
  refine j_aload_n (q := 6) C dX7_readClause_5 rfl rfl rfl ?_
  refine j_iconst (v := nI 0) (q := 7) C dX7_readClause_6 rfl (by decide) ?_
  refine jVT jc7 (q := 10) C dX7_readClause_7 rfl hs7 mX7_readOr kw_544 kw_545 kw_11 (ctX7_readOr_4 hSo hSc h1 hS1) rfl rfl (by decide) (Nat.le_of_ble_eq_true rfl) (by decide) (fun r_7 M_7 h_7 => ?_)
  obtain ⟨rfl, hS2⟩ := h_7
  refine j_aload_n (q := 11) C dX7_readClause_10 rfl rfl rfl ?_
  refine j_bipush (v := (-16)) (q := 13) C dX7_readClause_11 rfl (by decide) ?_
  refine jVT jc7 (q := 16) C dX7_readClause_13 rfl hs7 mX7_expect kw_538 kw_539 kw_9 (ctX7_expect hSo hSc h2 hS2 (t := (3, 2)) (by decide) (by decide) (by decide)) rfl rfl (by decide) (Nat.le_of_ble_eq_true rfl) (by decide) (fun r_13 M_13 h_13 => ?_)
  obtain ⟨rfl, hS3⟩ := h_13
  exact j_vret C E dX7_readClause_16 rfl rfl (⟨rfl, rfl, rfl, hS3⟩)

set_option maxRecDepth 100000 in
set_option maxHeartbeats 4000000 in
theorem ctJ7_copyOf_59c91 {G : jG} {sz : Nat} {Sh : jS} {M : jM} {a k : Nat} (hs : Sh a = (13, 160)) (ha : a < sz) (hk : k < 160) : jC G yJ7_copyOf_59c91 cJ7_copyOf_59c91 3 (Option.some (FieldType.array FieldType.int)) (jrm 2 1 160) sz Sh M [.ref a, .int (nI k)] (fun r sz2 Sh2 M2 => r = some (.ref sz) ∧ sz2 = sz + 1 ∧ Sh2 = va_up Sh sz (13, k) ∧ (∀ j, j < k → M2.1 sz j = M.1 a j) ∧ (∀ b, b ≠ sz → M2.1 b = M.1 b) ∧ (∀ b, b ≠ sz → M2.2.1 b = M.2.1 b) ∧ ∀ b, b ≠ sz → M2.2.2 b = M.2.2 b) := by
  refine jC_start (by decide +kernel) (Nat.le_of_ble_eq_true rfl) (fun X C E hN0 => ?_)
  refine j_iload_n (q := 1) C dJ7_copyOf_59c91_0 rfl rfl rfl ?_
  refine j_aload_n (q := 2) C dJ7_copyOf_59c91_1 rfl rfl rfl ?_
  refine j_alen (q := 3) C dJ7_copyOf_59c91_2 rfl hs (by decide) (t0 := 1) rfl ?_
  refine j_icmp_ne (q := 6) (tgt := 14) C dJ7_copyOf_59c91_3 rfl (by decide) (fun c_3 => ?_) (fun c_3 => absurd c_3 (fun h => absurd ((nI_eq (by omega) (by omega)).mp h) (by omega)))
  refine j_iload_n (q := 15) C dJ7_copyOf_59c91_14 rfl rfl rfl ?_
  refine j_newa (q := 17) (K := 13) (t0 := 0) C dJ7_copyOf_59c91_15 rfl rfl kw_115 (Or.inr (Or.inl ⟨rfl, rfl⟩)) (by omega) (by decide) (show 0 + k ≤ 160 by omega) ?_
  refine j_astore_n (lv' := [(2, _), (0, _), (1, _)]) (q := 18) C dJ7_copyOf_59c91_17 rfl rfl (by decide) rfl ?_
  refine j_aload_n (q := 19) C dJ7_copyOf_59c91_18 rfl rfl rfl ?_
  refine j_iconst (v := nI 0) (q := 20) C dJ7_copyOf_59c91_19 rfl (by decide) ?_
  refine j_aload_n (q := 21) C dJ7_copyOf_59c91_20 rfl rfl rfl ?_
  refine j_iconst (v := nI 0) (q := 22) C dJ7_copyOf_59c91_21 rfl (by decide) ?_
  refine j_aload_n (q := 23) C dJ7_copyOf_59c91_22 rfl rfl rfl ?_
  refine j_alen (q := 24) C dJ7_copyOf_59c91_23 rfl (show va_up Sh sz (13, k) a = (13, 160) by rw [va_up_ne _ _ (by omega)]; exact hs) (by decide) (t0 := 1) rfl ?_
  refine j_iload_n (q := 25) C dJ7_copyOf_59c91_24 rfl rfl rfl ?_
  refine j_imin (q := 28) C dJ7_copyOf_59c91_25 rfl kw_574 (by decide) (Nat.le_of_ble_eq_true rfl) (show 0 + 1 ≤ 1 ∧ 0 + k ≤ 160 by omega) ?_
  refine j_top (v' := .int (nI k)) (congrArg Value.int (by rw [imn_N (by omega) (by omega)]; congr 1; omega)) ?_
  refine j_copyI (q := 31) C dJ7_copyOf_59c91_28 rfl kw_577 (show va_up Sh sz (13, k) a = (13, 160) by rw [va_up_ne _ _ (by omega)]; exact hs) (va_up_self _ _ _) (by omega) (by omega) (by omega) (by decide) (by decide) ?_
  refine j_aload_n (q := 32) C dJ7_copyOf_59c91_31 rfl rfl rfl ?_
  refine j_widen (c1 := 1) (s1 := 160) (by decide) (by omega) ?_
  exact j_aret C E dJ7_copyOf_59c91_32 (by first | exact Or.inl ⟨_, rfl⟩ | exact Or.inr ⟨_, rfl⟩) (by first | exact Or.inl rfl | exact Or.inr ⟨_, rfl⟩) rfl rfl (by
      refine ⟨rfl, rfl, rfl, fun j hj => ?_, fun b hb => ?_, fun b hb => ?_, fun b hb => ?_⟩
      · rw [jwI_at]
        unfold va_cpy
        rw [if_pos (by omega), show 0 + (j - 0) = j by omega]
        simp [jz, jrow, show a ≠ sz by omega]
      · rw [jwI_ne _ _ hb]; simp [jz, jrow, hb]
      · simp [jwI, jz, jrow, hb]
      · simp [jwI, jz, jrow, hb])

set_option maxRecDepth 100000 in
set_option maxHeartbeats 4000000 in
theorem ctX1_init {G : jG} {sz : Nat} {Sh : jS} {M : jM} {ca sa : Nat} {x z : Int32} (hs : (Sh ca).1 = 1) (hsa : (Sh sa).1 = 13) : jC G yX1_init cX1_init 4 (Option.none : Option FieldType) (jrm 2 0 0) sz Sh M [.ref ca, .ref sa, .int x, .int z] (jR none sz Sh (jsI (jsI (jsP M ca 0 (some sa)) ca 1 x) ca 2 z)) := by
  refine jC_start (by decide +kernel) (Nat.le_of_ble_eq_true rfl) (fun X C E hN0 => ?_)
  refine j_aload_n (q := 1) C dX1_init_0 rfl rfl rfl ?_
  refine j_objInit (q := 4) C dX1_init_1 rfl kw_582 (Nat.le_of_ble_eq_true rfl) (by decide) ?_
  refine j_aload_n (q := 5) C dX1_init_4 rfl rfl rfl ?_
  refine j_aload_n (q := 6) C dX1_init_5 rfl rfl rfl ?_
  refine jp_Code_steps (q := 9) C dX1_init_6 rfl hs kw_583 rfl rfl ?_
  refine j_aload_n (q := 10) C dX1_init_9 rfl rfl rfl ?_
  refine j_iload_n (q := 11) C dX1_init_10 rfl rfl rfl ?_
  refine jp_Code_rentAt (q := 14) C dX1_init_11 rfl hs kw_584 rfl rfl ?_
  refine j_aload_n (q := 15) C dX1_init_14 rfl rfl rfl ?_
  refine j_iload_n (q := 16) C dX1_init_15 rfl rfl rfl ?_
  refine jp_Code_wageAt (q := 19) C dX1_init_16 rfl hs kw_585 rfl rfl ?_
  exact j_vret C E dX1_init_19 rfl rfl (jR_i)

