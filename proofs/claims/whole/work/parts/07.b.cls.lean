set_option maxRecDepth 100000 in
set_option maxHeartbeats 4000000 in
theorem ctX5_isUnder {G : jG} {sz : Nat} {Sh : jS} {M : jM} {a kd : Nat} (ha : (Sh a).1 = 5) (hk : M.1 a 0 = nI kd) (hk5 : kd ≤ 5) {x : Int32} : jC G yX5_isUnder cX5_isUnder 4 (Option.some FieldType.boolean) (jrm 1 0 0) sz Sh M [.ref a, .int x] (jR (some (.int (jb (x = nI 0 ∨ x = nI kd ∨ (x = nI 1 ∧ 2 ≤ kd ∧ kd ≤ 4))))) sz Sh M) := by
  refine jC_start (by decide +kernel) (Nat.le_of_ble_eq_true rfl) (fun X C E hN0 => ?_)
  refine j_aload_n (q := 1) C dX5_isUnder_0 rfl rfl rfl ?_
  refine jg_Paper_kind (q := 4) C dX5_isUnder_1 rfl ha kw_171 ?_
  refine j_istore_n (lv' := [(2, _), (0, _), (1, _)]) (q := 5) C dX5_isUnder_4 rfl rfl (by decide) rfl ?_
  refine j_iconst (v := nI 0) (q := 6) C dX5_isUnder_5 rfl (by decide) ?_
  refine j_istore_n (lv' := [(3, _), (2, _), (0, _), (1, _)]) (q := 7) C dX5_isUnder_6 rfl rfl (by decide) rfl ?_
  have ex : ∀ k, k ≤ 6 → ¬ (x = nI 0 ∨ x = nI kd ∨ (x = nI 1 ∧ 2 ≤ kd ∧ kd ≤ 4)) → jJ G X 0 0 sz Sh M 7 [(3, .int (nI (k))), (2, .int (-1)), (1, .int x), (0, .ref a)] [] := by
    intro k hk hP
    refine j_iload_n (q := 8) C dX5_isUnder_7 rfl rfl rfl ?_
    refine j_bipush (v := nI 6) (q := 10) C dX5_isUnder_8 rfl (by decide) ?_
    refine j_icmp_ge (q := 13) (tgt := 44) C dX5_isUnder_10 rfl (by decide) (fun c_10 => ?_) (fun c_10 => ?_)
    · refine j_iconst (v := nI 0) (q := 45) C dX5_isUnder_44 rfl (by decide) ?_
      exact j_zret C E dX5_isUnder_45 (by first | rfl | exact jb_nar) rfl rfl (jR_e (by rw [jb_f hP]) rfl)
    · refine j_iload_n (q := 14) C dX5_isUnder_13 rfl rfl rfl ?_
      refine j_if_lt (q := 17) (tgt := 44) C dX5_isUnder_14 rfl (by decide) (fun c_14 => ?_) (fun c_14 => absurd (by decide) c_14)
      refine j_iconst (v := nI 0) (q := 45) C dX5_isUnder_44 rfl (by decide) ?_
      exact j_zret C E dX5_isUnder_45 (by first | rfl | exact jb_nar) rfl rfl (jR_e (by rw [jb_f hP]) rfl)
  have nI_nle6 : ∀ {k : Nat}, k < 6 → ¬ nI 6 ≤ nI k := fun h c => by have := (nI_leI (by omega) (by omega)).mp c; omega
  have u0 : ∀ k, k < 6 → (x = nI 0 → (x = nI 0 ∨ x = nI kd ∨ (x = nI 1 ∧ 2 ≤ kd ∧ kd ≤ 4))) → (¬ x = nI 0 → ¬ (x = nI 0 ∨ x = nI kd ∨ (x = nI 1 ∧ 2 ≤ kd ∧ kd ≤ 4))) → jJ G X 0 0 sz Sh M 7 [(3, .int (nI (k))), (2, .int (nI 0)), (1, .int x), (0, .ref a)] [] := by
    intro k hk h1 h2
    refine j_iload_n (q := 8) C dX5_isUnder_7 rfl rfl rfl ?_
    refine j_bipush (v := nI 6) (q := 10) C dX5_isUnder_8 rfl (by decide) ?_
    refine j_icmp_ge (q := 13) (tgt := 44) C dX5_isUnder_10 rfl (by decide) (fun c_10 => absurd c_10 (nI_nle6 (by omega))) (fun c_10 => ?_)
    refine j_iload_n (q := 14) C dX5_isUnder_13 rfl rfl rfl ?_
    refine j_if_lt (q := 17) (tgt := 44) C dX5_isUnder_14 rfl (by decide) (fun c_14 => absurd c_14 (by decide)) (fun c_14 => ?_)
    refine j_iload_n (q := 18) C dX5_isUnder_17 rfl rfl rfl ?_
    refine j_und rfl C dX5_isUnder_18 rfl ?_
    refine j_undlen C dX5_isUnder_21 rfl ?_
    refine j_icmp_ge (q := 25) (tgt := 44) C dX5_isUnder_22 rfl (by decide) (fun c_22 => absurd c_22 (by decide)) (fun c_22 => ?_)
    refine j_iload_n (q := 26) C dX5_isUnder_25 rfl rfl rfl ?_
    refine j_iload_n (q := 27) C dX5_isUnder_26 rfl rfl rfl ?_
    refine j_icmp_ne (q := 30) (tgt := 32) C dX5_isUnder_27 rfl (by decide) (fun c_27 => ?_) (fun c_27 => ?_)
    · refine j_und rfl C dX5_isUnder_32 rfl ?_
      refine j_iload_n (q := 36) C dX5_isUnder_35 rfl rfl rfl ?_
      refine j_undld (by decide) C dX5_isUnder_36 rfl ?_
      rw [show jUnd 0 = -1 from rfl]
      refine j_istore_n (lv' := [(2, _), (3, _), (1, _), (0, _)]) (q := 38) C dX5_isUnder_37 rfl rfl (by decide) rfl ?_
      first | refine j_iincN (lv' := [(3, _), (2, _), (1, _), (0, _)]) (q := 41) C dX5_isUnder_38 rfl rfl (by decide) rfl ?_ | refine j_iinc (lv' := [(3, _), (2, _), (1, _), (0, _)]) (q := 41) C dX5_isUnder_38 rfl rfl rfl (by decide) rfl ?_
      refine j_goto (tgt := 7) C dX5_isUnder_41 (by decide) ?_
      refine j_fewer (lv' := [(3, .int (nI (k + 1))), (2, .int (-1)), (1, .int x), (0, .ref a)]) (by simp [jUnd]) ?_
      exact ex (k + 1) (by omega) (h2 (fun e => c_27 e.symm))
    · refine j_iconst (v := nI 1) (q := 31) C dX5_isUnder_30 rfl (by decide) ?_
      exact j_zret C E dX5_isUnder_31 (by first | rfl | exact jb_nar) rfl rfl (jR_e (by rw [jb_t (h1 (by first | exact c_27.symm | exact Or.inl c_27.symm))]) rfl)
  have u1 : ∀ k, k < 5 → (x = nI 1 ∨ x = nI 0 → (x = nI 0 ∨ x = nI kd ∨ (x = nI 1 ∧ 2 ≤ kd ∧ kd ≤ 4))) → (¬ (x = nI 1 ∨ x = nI 0) → ¬ (x = nI 0 ∨ x = nI kd ∨ (x = nI 1 ∧ 2 ≤ kd ∧ kd ≤ 4))) → jJ G X 0 0 sz Sh M 7 [(3, .int (nI (k))), (2, .int (nI 1)), (1, .int x), (0, .ref a)] [] := by
    intro k hk h1 h2
    refine j_iload_n (q := 8) C dX5_isUnder_7 rfl rfl rfl ?_
    refine j_bipush (v := nI 6) (q := 10) C dX5_isUnder_8 rfl (by decide) ?_
    refine j_icmp_ge (q := 13) (tgt := 44) C dX5_isUnder_10 rfl (by decide) (fun c_10 => absurd c_10 (nI_nle6 (by omega))) (fun c_10 => ?_)
    refine j_iload_n (q := 14) C dX5_isUnder_13 rfl rfl rfl ?_
    refine j_if_lt (q := 17) (tgt := 44) C dX5_isUnder_14 rfl (by decide) (fun c_14 => absurd c_14 (by decide)) (fun c_14 => ?_)
    refine j_iload_n (q := 18) C dX5_isUnder_17 rfl rfl rfl ?_
    refine j_und rfl C dX5_isUnder_18 rfl ?_
    refine j_undlen C dX5_isUnder_21 rfl ?_
    refine j_icmp_ge (q := 25) (tgt := 44) C dX5_isUnder_22 rfl (by decide) (fun c_22 => absurd c_22 (by decide)) (fun c_22 => ?_)
    refine j_iload_n (q := 26) C dX5_isUnder_25 rfl rfl rfl ?_
    refine j_iload_n (q := 27) C dX5_isUnder_26 rfl rfl rfl ?_
    refine j_icmp_ne (q := 30) (tgt := 32) C dX5_isUnder_27 rfl (by decide) (fun c_27 => ?_) (fun c_27 => ?_)
    · refine j_und rfl C dX5_isUnder_32 rfl ?_
      refine j_iload_n (q := 36) C dX5_isUnder_35 rfl rfl rfl ?_
      refine j_undld (by decide) C dX5_isUnder_36 rfl ?_
      rw [show jUnd 1 = nI 0 from rfl]
      refine j_istore_n (lv' := [(2, _), (3, _), (1, _), (0, _)]) (q := 38) C dX5_isUnder_37 rfl rfl (by decide) rfl ?_
      first | refine j_iincN (lv' := [(3, _), (2, _), (1, _), (0, _)]) (q := 41) C dX5_isUnder_38 rfl rfl (by decide) rfl ?_ | refine j_iinc (lv' := [(3, _), (2, _), (1, _), (0, _)]) (q := 41) C dX5_isUnder_38 rfl rfl rfl (by decide) rfl ?_
      refine j_goto (tgt := 7) C dX5_isUnder_41 (by decide) ?_
      refine j_fewer (lv' := [(3, .int (nI (k + 1))), (2, .int (nI 0)), (1, .int x), (0, .ref a)]) (by simp [jUnd]) ?_
      exact u0 (k + 1) (by omega) (fun h => h1 (Or.inr h)) (fun h => h2 (fun e => e.elim (fun z => c_27 z.symm) h))
    · refine j_iconst (v := nI 1) (q := 31) C dX5_isUnder_30 rfl (by decide) ?_
      exact j_zret C E dX5_isUnder_31 (by first | rfl | exact jb_nar) rfl rfl (jR_e (by rw [jb_t (h1 (by first | exact c_27.symm | exact Or.inl c_27.symm))]) rfl)
  have u2 : ∀ k, k < 4 → (x = nI 2 ∨ x = nI 1 ∨ x = nI 0 → (x = nI 0 ∨ x = nI kd ∨ (x = nI 1 ∧ 2 ≤ kd ∧ kd ≤ 4))) → (¬ (x = nI 2 ∨ x = nI 1 ∨ x = nI 0) → ¬ (x = nI 0 ∨ x = nI kd ∨ (x = nI 1 ∧ 2 ≤ kd ∧ kd ≤ 4))) → jJ G X 0 0 sz Sh M 7 [(3, .int (nI (k))), (2, .int (nI 2)), (1, .int x), (0, .ref a)] [] := by
    intro k hk h1 h2
    refine j_iload_n (q := 8) C dX5_isUnder_7 rfl rfl rfl ?_
    refine j_bipush (v := nI 6) (q := 10) C dX5_isUnder_8 rfl (by decide) ?_
    refine j_icmp_ge (q := 13) (tgt := 44) C dX5_isUnder_10 rfl (by decide) (fun c_10 => absurd c_10 (nI_nle6 (by omega))) (fun c_10 => ?_)
    refine j_iload_n (q := 14) C dX5_isUnder_13 rfl rfl rfl ?_
    refine j_if_lt (q := 17) (tgt := 44) C dX5_isUnder_14 rfl (by decide) (fun c_14 => absurd c_14 (by decide)) (fun c_14 => ?_)
    refine j_iload_n (q := 18) C dX5_isUnder_17 rfl rfl rfl ?_
    refine j_und rfl C dX5_isUnder_18 rfl ?_
    refine j_undlen C dX5_isUnder_21 rfl ?_
    refine j_icmp_ge (q := 25) (tgt := 44) C dX5_isUnder_22 rfl (by decide) (fun c_22 => absurd c_22 (by decide)) (fun c_22 => ?_)
    refine j_iload_n (q := 26) C dX5_isUnder_25 rfl rfl rfl ?_
    refine j_iload_n (q := 27) C dX5_isUnder_26 rfl rfl rfl ?_
    refine j_icmp_ne (q := 30) (tgt := 32) C dX5_isUnder_27 rfl (by decide) (fun c_27 => ?_) (fun c_27 => ?_)
    · refine j_und rfl C dX5_isUnder_32 rfl ?_
      refine j_iload_n (q := 36) C dX5_isUnder_35 rfl rfl rfl ?_
      refine j_undld (by decide) C dX5_isUnder_36 rfl ?_
      rw [show jUnd 2 = nI 1 from rfl]
      refine j_istore_n (lv' := [(2, _), (3, _), (1, _), (0, _)]) (q := 38) C dX5_isUnder_37 rfl rfl (by decide) rfl ?_
      first | refine j_iincN (lv' := [(3, _), (2, _), (1, _), (0, _)]) (q := 41) C dX5_isUnder_38 rfl rfl (by decide) rfl ?_ | refine j_iinc (lv' := [(3, _), (2, _), (1, _), (0, _)]) (q := 41) C dX5_isUnder_38 rfl rfl rfl (by decide) rfl ?_
      refine j_goto (tgt := 7) C dX5_isUnder_41 (by decide) ?_
      refine j_fewer (lv' := [(3, .int (nI (k + 1))), (2, .int (nI 1)), (1, .int x), (0, .ref a)]) (by simp [jUnd]) ?_
      exact u1 (k + 1) (by omega) (fun h => h1 (Or.inr h)) (fun h => h2 (fun e => e.elim (fun z => c_27 z.symm) h))
    · refine j_iconst (v := nI 1) (q := 31) C dX5_isUnder_30 rfl (by decide) ?_
      exact j_zret C E dX5_isUnder_31 (by first | rfl | exact jb_nar) rfl rfl (jR_e (by rw [jb_t (h1 (by first | exact c_27.symm | exact Or.inl c_27.symm))]) rfl)
  have u3 : ∀ k, k < 4 → (x = nI 3 ∨ x = nI 1 ∨ x = nI 0 → (x = nI 0 ∨ x = nI kd ∨ (x = nI 1 ∧ 2 ≤ kd ∧ kd ≤ 4))) → (¬ (x = nI 3 ∨ x = nI 1 ∨ x = nI 0) → ¬ (x = nI 0 ∨ x = nI kd ∨ (x = nI 1 ∧ 2 ≤ kd ∧ kd ≤ 4))) → jJ G X 0 0 sz Sh M 7 [(3, .int (nI (k))), (2, .int (nI 3)), (1, .int x), (0, .ref a)] [] := by
    intro k hk h1 h2
    refine j_iload_n (q := 8) C dX5_isUnder_7 rfl rfl rfl ?_
    refine j_bipush (v := nI 6) (q := 10) C dX5_isUnder_8 rfl (by decide) ?_
    refine j_icmp_ge (q := 13) (tgt := 44) C dX5_isUnder_10 rfl (by decide) (fun c_10 => absurd c_10 (nI_nle6 (by omega))) (fun c_10 => ?_)
    refine j_iload_n (q := 14) C dX5_isUnder_13 rfl rfl rfl ?_
    refine j_if_lt (q := 17) (tgt := 44) C dX5_isUnder_14 rfl (by decide) (fun c_14 => absurd c_14 (by decide)) (fun c_14 => ?_)
    refine j_iload_n (q := 18) C dX5_isUnder_17 rfl rfl rfl ?_
    refine j_und rfl C dX5_isUnder_18 rfl ?_
    refine j_undlen C dX5_isUnder_21 rfl ?_
    refine j_icmp_ge (q := 25) (tgt := 44) C dX5_isUnder_22 rfl (by decide) (fun c_22 => absurd c_22 (by decide)) (fun c_22 => ?_)
    refine j_iload_n (q := 26) C dX5_isUnder_25 rfl rfl rfl ?_
    refine j_iload_n (q := 27) C dX5_isUnder_26 rfl rfl rfl ?_
    refine j_icmp_ne (q := 30) (tgt := 32) C dX5_isUnder_27 rfl (by decide) (fun c_27 => ?_) (fun c_27 => ?_)
    · refine j_und rfl C dX5_isUnder_32 rfl ?_
      refine j_iload_n (q := 36) C dX5_isUnder_35 rfl rfl rfl ?_
      refine j_undld (by decide) C dX5_isUnder_36 rfl ?_
      rw [show jUnd 3 = nI 1 from rfl]
      refine j_istore_n (lv' := [(2, _), (3, _), (1, _), (0, _)]) (q := 38) C dX5_isUnder_37 rfl rfl (by decide) rfl ?_
      first | refine j_iincN (lv' := [(3, _), (2, _), (1, _), (0, _)]) (q := 41) C dX5_isUnder_38 rfl rfl (by decide) rfl ?_ | refine j_iinc (lv' := [(3, _), (2, _), (1, _), (0, _)]) (q := 41) C dX5_isUnder_38 rfl rfl rfl (by decide) rfl ?_
      refine j_goto (tgt := 7) C dX5_isUnder_41 (by decide) ?_
      refine j_fewer (lv' := [(3, .int (nI (k + 1))), (2, .int (nI 1)), (1, .int x), (0, .ref a)]) (by simp [jUnd]) ?_
      exact u1 (k + 1) (by omega) (fun h => h1 (Or.inr h)) (fun h => h2 (fun e => e.elim (fun z => c_27 z.symm) h))
    · refine j_iconst (v := nI 1) (q := 31) C dX5_isUnder_30 rfl (by decide) ?_
      exact j_zret C E dX5_isUnder_31 (by first | rfl | exact jb_nar) rfl rfl (jR_e (by rw [jb_t (h1 (by first | exact c_27.symm | exact Or.inl c_27.symm))]) rfl)
  have u4 : ∀ k, k < 4 → (x = nI 4 ∨ x = nI 1 ∨ x = nI 0 → (x = nI 0 ∨ x = nI kd ∨ (x = nI 1 ∧ 2 ≤ kd ∧ kd ≤ 4))) → (¬ (x = nI 4 ∨ x = nI 1 ∨ x = nI 0) → ¬ (x = nI 0 ∨ x = nI kd ∨ (x = nI 1 ∧ 2 ≤ kd ∧ kd ≤ 4))) → jJ G X 0 0 sz Sh M 7 [(3, .int (nI (k))), (2, .int (nI 4)), (1, .int x), (0, .ref a)] [] := by
    intro k hk h1 h2
    refine j_iload_n (q := 8) C dX5_isUnder_7 rfl rfl rfl ?_
    refine j_bipush (v := nI 6) (q := 10) C dX5_isUnder_8 rfl (by decide) ?_
    refine j_icmp_ge (q := 13) (tgt := 44) C dX5_isUnder_10 rfl (by decide) (fun c_10 => absurd c_10 (nI_nle6 (by omega))) (fun c_10 => ?_)
    refine j_iload_n (q := 14) C dX5_isUnder_13 rfl rfl rfl ?_
    refine j_if_lt (q := 17) (tgt := 44) C dX5_isUnder_14 rfl (by decide) (fun c_14 => absurd c_14 (by decide)) (fun c_14 => ?_)
    refine j_iload_n (q := 18) C dX5_isUnder_17 rfl rfl rfl ?_
    refine j_und rfl C dX5_isUnder_18 rfl ?_
    refine j_undlen C dX5_isUnder_21 rfl ?_
    refine j_icmp_ge (q := 25) (tgt := 44) C dX5_isUnder_22 rfl (by decide) (fun c_22 => absurd c_22 (by decide)) (fun c_22 => ?_)
    refine j_iload_n (q := 26) C dX5_isUnder_25 rfl rfl rfl ?_
    refine j_iload_n (q := 27) C dX5_isUnder_26 rfl rfl rfl ?_
    refine j_icmp_ne (q := 30) (tgt := 32) C dX5_isUnder_27 rfl (by decide) (fun c_27 => ?_) (fun c_27 => ?_)
    · refine j_und rfl C dX5_isUnder_32 rfl ?_
      refine j_iload_n (q := 36) C dX5_isUnder_35 rfl rfl rfl ?_
      refine j_undld (by decide) C dX5_isUnder_36 rfl ?_
      rw [show jUnd 4 = nI 1 from rfl]
      refine j_istore_n (lv' := [(2, _), (3, _), (1, _), (0, _)]) (q := 38) C dX5_isUnder_37 rfl rfl (by decide) rfl ?_
      first | refine j_iincN (lv' := [(3, _), (2, _), (1, _), (0, _)]) (q := 41) C dX5_isUnder_38 rfl rfl (by decide) rfl ?_ | refine j_iinc (lv' := [(3, _), (2, _), (1, _), (0, _)]) (q := 41) C dX5_isUnder_38 rfl rfl rfl (by decide) rfl ?_
      refine j_goto (tgt := 7) C dX5_isUnder_41 (by decide) ?_
      refine j_fewer (lv' := [(3, .int (nI (k + 1))), (2, .int (nI 1)), (1, .int x), (0, .ref a)]) (by simp [jUnd]) ?_
      exact u1 (k + 1) (by omega) (fun h => h1 (Or.inr h)) (fun h => h2 (fun e => e.elim (fun z => c_27 z.symm) h))
    · refine j_iconst (v := nI 1) (q := 31) C dX5_isUnder_30 rfl (by decide) ?_
      exact j_zret C E dX5_isUnder_31 (by first | rfl | exact jb_nar) rfl rfl (jR_e (by rw [jb_t (h1 (by first | exact c_27.symm | exact Or.inl c_27.symm))]) rfl)
  have u5 : ∀ k, k < 5 → (x = nI 5 ∨ x = nI 0 → (x = nI 0 ∨ x = nI kd ∨ (x = nI 1 ∧ 2 ≤ kd ∧ kd ≤ 4))) → (¬ (x = nI 5 ∨ x = nI 0) → ¬ (x = nI 0 ∨ x = nI kd ∨ (x = nI 1 ∧ 2 ≤ kd ∧ kd ≤ 4))) → jJ G X 0 0 sz Sh M 7 [(3, .int (nI (k))), (2, .int (nI 5)), (1, .int x), (0, .ref a)] [] := by
    intro k hk h1 h2
    refine j_iload_n (q := 8) C dX5_isUnder_7 rfl rfl rfl ?_
    refine j_bipush (v := nI 6) (q := 10) C dX5_isUnder_8 rfl (by decide) ?_
    refine j_icmp_ge (q := 13) (tgt := 44) C dX5_isUnder_10 rfl (by decide) (fun c_10 => absurd c_10 (nI_nle6 (by omega))) (fun c_10 => ?_)
    refine j_iload_n (q := 14) C dX5_isUnder_13 rfl rfl rfl ?_
    refine j_if_lt (q := 17) (tgt := 44) C dX5_isUnder_14 rfl (by decide) (fun c_14 => absurd c_14 (by decide)) (fun c_14 => ?_)
    refine j_iload_n (q := 18) C dX5_isUnder_17 rfl rfl rfl ?_
    refine j_und rfl C dX5_isUnder_18 rfl ?_
    refine j_undlen C dX5_isUnder_21 rfl ?_
    refine j_icmp_ge (q := 25) (tgt := 44) C dX5_isUnder_22 rfl (by decide) (fun c_22 => absurd c_22 (by decide)) (fun c_22 => ?_)
    refine j_iload_n (q := 26) C dX5_isUnder_25 rfl rfl rfl ?_
    refine j_iload_n (q := 27) C dX5_isUnder_26 rfl rfl rfl ?_
    refine j_icmp_ne (q := 30) (tgt := 32) C dX5_isUnder_27 rfl (by decide) (fun c_27 => ?_) (fun c_27 => ?_)
    · refine j_und rfl C dX5_isUnder_32 rfl ?_
      refine j_iload_n (q := 36) C dX5_isUnder_35 rfl rfl rfl ?_
      refine j_undld (by decide) C dX5_isUnder_36 rfl ?_
      rw [show jUnd 5 = nI 0 from rfl]
      refine j_istore_n (lv' := [(2, _), (3, _), (1, _), (0, _)]) (q := 38) C dX5_isUnder_37 rfl rfl (by decide) rfl ?_
      first | refine j_iincN (lv' := [(3, _), (2, _), (1, _), (0, _)]) (q := 41) C dX5_isUnder_38 rfl rfl (by decide) rfl ?_ | refine j_iinc (lv' := [(3, _), (2, _), (1, _), (0, _)]) (q := 41) C dX5_isUnder_38 rfl rfl rfl (by decide) rfl ?_
      refine j_goto (tgt := 7) C dX5_isUnder_41 (by decide) ?_
      refine j_fewer (lv' := [(3, .int (nI (k + 1))), (2, .int (nI 0)), (1, .int x), (0, .ref a)]) (by simp [jUnd]) ?_
      exact u0 (k + 1) (by omega) (fun h => h1 (Or.inr h)) (fun h => h2 (fun e => e.elim (fun z => c_27 z.symm) h))
    · refine j_iconst (v := nI 1) (q := 31) C dX5_isUnder_30 rfl (by decide) ?_
      exact j_zret C E dX5_isUnder_31 (by first | rfl | exact jb_nar) rfl rfl (jR_e (by rw [jb_t (h1 (by first | exact c_27.symm | exact Or.inl c_27.symm))]) rfl)
  rcases (show kd = 0 ∨ kd = 1 ∨ kd = 2 ∨ kd = 3 ∨ kd = 4 ∨ kd = 5 by omega) with e | e | e | e | e | e <;> subst e
  · exact j_fewer (lv' := [(3, .int (nI (0))), (2, .int (nI 0)), (1, .int x), (0, .ref a)]) (by simp [hk]) (u0 0 (by omega) (fun h => by first | (rcases h with h | h | h <;> simp [h]; done) | (rcases h with h | h <;> simp [h]; done) | (simp [h]; done)) (fun h c => h (by first | (rcases c with c | c | c <;> simp_all; done) | (rcases c with c | c | c <;> first | (simp_all; done) | (exact absurd c.2.1 (by decide)) | (exact absurd c.2.2 (by decide))))))
  · exact j_fewer (lv' := [(3, .int (nI (0))), (2, .int (nI 1)), (1, .int x), (0, .ref a)]) (by simp [hk]) (u1 0 (by omega) (fun h => by first | (rcases h with h | h | h <;> simp [h]; done) | (rcases h with h | h <;> simp [h]; done) | (simp [h]; done)) (fun h c => h (by first | (rcases c with c | c | c <;> simp_all; done) | (rcases c with c | c | c <;> first | (simp_all; done) | (exact absurd c.2.1 (by decide)) | (exact absurd c.2.2 (by decide))))))
  · exact j_fewer (lv' := [(3, .int (nI (0))), (2, .int (nI 2)), (1, .int x), (0, .ref a)]) (by simp [hk]) (u2 0 (by omega) (fun h => by first | (rcases h with h | h | h <;> simp [h]; done) | (rcases h with h | h <;> simp [h]; done) | (simp [h]; done)) (fun h c => h (by first | (rcases c with c | c | c <;> simp_all; done) | (rcases c with c | c | c <;> first | (simp_all; done) | (exact absurd c.2.1 (by decide)) | (exact absurd c.2.2 (by decide))))))
  · exact j_fewer (lv' := [(3, .int (nI (0))), (2, .int (nI 3)), (1, .int x), (0, .ref a)]) (by simp [hk]) (u3 0 (by omega) (fun h => by first | (rcases h with h | h | h <;> simp [h]; done) | (rcases h with h | h <;> simp [h]; done) | (simp [h]; done)) (fun h c => h (by first | (rcases c with c | c | c <;> simp_all; done) | (rcases c with c | c | c <;> first | (simp_all; done) | (exact absurd c.2.1 (by decide)) | (exact absurd c.2.2 (by decide))))))
  · exact j_fewer (lv' := [(3, .int (nI (0))), (2, .int (nI 4)), (1, .int x), (0, .ref a)]) (by simp [hk]) (u4 0 (by omega) (fun h => by first | (rcases h with h | h | h <;> simp [h]; done) | (rcases h with h | h <;> simp [h]; done) | (simp [h]; done)) (fun h c => h (by first | (rcases c with c | c | c <;> simp_all; done) | (rcases c with c | c | c <;> first | (simp_all; done) | (exact absurd c.2.1 (by decide)) | (exact absurd c.2.2 (by decide))))))
  · exact j_fewer (lv' := [(3, .int (nI (0))), (2, .int (nI 5)), (1, .int x), (0, .ref a)]) (by simp [hk]) (u5 0 (by omega) (fun h => by first | (rcases h with h | h | h <;> simp [h]; done) | (rcases h with h | h <;> simp [h]; done) | (simp [h]; done)) (fun h c => h (by first | (rcases c with c | c | c <;> simp_all; done) | (rcases c with c | c | c <;> first | (simp_all; done) | (exact absurd c.2.1 (by decide)) | (exact absurd c.2.2 (by decide))))))
  

def nOpen (N : Nat → Int64) : Nat → Int64
  | 0 => 0
  | k + 1 => nOpen N k + (if N (110 + 7 * k + 6) = 0 then 1 else 0)
def nNotes (N : Nat → Int64) (h : Nat) : Nat → Int64
  | 0 => 0
  | k + 1 => nNotes N h k + (if N (110 + 7 * k + 0) = 5 ∧ N (110 + 7 * k + 6) = 0 ∧ N (110 + 7 * k + 1) = lN h then N (110 + 7 * k + 3) else 0)
theorem kqO {w q pr lw : Nat} {M : jM} {K : Nat → Int64} (hM : vK w q pr lw M = K) {j : Nat} (hj : j < 24) : M.1 (q + 12 + j) 6 = 0 ↔ K (110 + 7 * j + 6) = 0 := by
  rw [← hM, vK_qI hj (by omega)]; exact (i64_eq _ 0).symm
def sCnt (N : Nat → Int64) (pe pa w : Nat) : Int64 := if w = 0 then N 4 else if w = 1 then N 5 else if w = 2 then nOpen N pa else if w = 3 then N 0 else if w = 4 then N 1 else if w = 5 then nSum N 0 pe else if w = 6 then N 2 else if w = 7 then N 3 else nSum N 1 pe
set_option maxRecDepth 100000 in
set_option maxHeartbeats 4000000 in
theorem ctX9_openPapers {G : jG} {sz : Nat} {Sh : jS} {M : jM} {w q pr lw jg mk : Nat} {K : Nat → Int64} (hW : wLay w q pr lw jg mk Sh M) (hM : vK w q pr lw M = K) {pa : Nat} (h5 : K 5 = lN pa) (hpa : pa ≤ 24) : jC G yX9_openPapers cX9_openPapers 4 (Option.some FieldType.long) (jrm 2 0 0) sz Sh M [.ref w] (jR (some (.long (nOpen K pa))) sz Sh M) := by
  refine jC_start (by decide +kernel) (Nat.le_of_ble_eq_true rfl) (fun X C E hN0 => ?_)
  refine j_lconst (v := 0) (q := 1) C dX9_openPapers_0 rfl (by decide) ?_
  refine j_lstore_n (lv' := [(1, _), (0, _)]) (q := 2) C dX9_openPapers_1 rfl rfl (by decide) rfl ?_
  refine j_iconst (v := nI 0) (q := 3) C dX9_openPapers_2 rfl (by decide) ?_
  refine j_istore_n (lv' := [(3, _), (1, _), (0, _)]) (q := 4) C dX9_openPapers_3 rfl rfl (by decide) rfl ?_
  have loop4 : ∀ (n k : Nat), k + n = pa → jJ G X 0 0 sz Sh M 4 [(3, .int (nI k)), (1, .long (nOpen K k)), (0, .ref w)] [] := by
    intro n
    induction n with
    | zero =>
      intro k  hk
      refine j_iload_n (q := 5) C dX9_openPapers_4 rfl rfl rfl ?_
      refine j_aload_n (q := 6) C dX9_openPapers_5 rfl rfl rfl ?_
      refine wg_World_written hW hM (q' := 9) C dX9_openPapers_6 rfl kw_207 ?_
      refine j_top (v' := .int (nI pa)) (congrArg Value.int (k32 h5)) ?_
      refine j_icmp_ge (q := 12) (tgt := 34) C dX9_openPapers_9 rfl (by decide) (fun c_9 => ?_) (fun c_9 => absurd (nI_le (by omega) (by omega)) c_9)
      obtain rfl : pa = k := by omega
      refine j_lload_n (q := 35) C dX9_openPapers_34 rfl rfl rfl ?_
      exact j_lret C E dX9_openPapers_35 rfl rfl (jR_i)
    | succ n ih =>
      intro k  hk
      refine j_iload_n (q := 5) C dX9_openPapers_4 rfl rfl rfl ?_
      refine j_aload_n (q := 6) C dX9_openPapers_5 rfl rfl rfl ?_
      refine wg_World_written hW hM (q' := 9) C dX9_openPapers_6 rfl kw_207 ?_
      refine j_top (v' := .int (nI pa)) (congrArg Value.int (k32 h5)) ?_
      refine j_icmp_ge (q := 12) (tgt := 34) C dX9_openPapers_9 rfl (by decide) (fun c_9 => absurd c_9 (fun h => absurd ((nI_leI (by omega) (by omega)).mp h) (by omega))) (fun c_9 => ?_)
      refine j_aload_n (q := 13) C dX9_openPapers_12 rfl rfl rfl ?_
      refine jg_World_papers (q := 16) C dX9_openPapers_13 rfl hW.1.1 kw_195 hW.2.1.2.1 ?_
      refine j_iload_n (q := 17) C dX9_openPapers_16 rfl rfl rfl ?_
      refine wa_pap hW (by omega) (q' := 18) C dX9_openPapers_17 rfl ?_
      refine jV1 jc5 (q := 21) C dX9_openPapers_18 rfl (hW.1.2.2.2.2.2.2.2.2 _ (by omega)) mX5_isOpen kw_452 kw_366 kw_367 (ctX5_isOpen (hW.1.2.2.2.2.2.2.2.2 k (by omega))) rfl rfl (by decide) (Nat.le_of_ble_eq_true rfl) (by decide) ?_
      refine j_if_eq (q := 24) (tgt := 28) C dX9_openPapers_21 rfl (by decide) (fun c_21 => ?_) (fun c_21 => ?_)
      · first | refine j_iincN (lv' := [(3, _), (1, _), (0, _)]) (q := 31) C dX9_openPapers_28 rfl rfl (by decide) rfl ?_ | refine j_iinc (lv' := [(3, _), (1, _), (0, _)]) (q := 31) C dX9_openPapers_28 rfl rfl rfl (by decide) rfl ?_
        refine j_goto (tgt := 4) C dX9_openPapers_31 (by decide) ?_
        exact j_fewer (lv' := [(3, .int (nI (k + 1))), (1, .long (nOpen K (k + 1))), (0, .ref w)]) (by simp [nOpen, if_neg (fun h => jb_0.mp c_21 ((kqO hM (by omega)).mpr h))]) (ih (k + 1) (by omega))
      · refine j_lload_n (q := 25) C dX9_openPapers_24 rfl rfl rfl ?_
        refine j_lconst (v := 1) (q := 26) C dX9_openPapers_25 rfl (by decide) ?_
        refine j_ladd (q := 27) C dX9_openPapers_26 rfl ?_
        refine j_lstore_n (lv' := [(1, _), (3, _), (0, _)]) (q := 28) C dX9_openPapers_27 rfl rfl (by decide) rfl ?_
        first | refine j_iincN (lv' := [(3, _), (1, _), (0, _)]) (q := 31) C dX9_openPapers_28 rfl rfl (by decide) rfl ?_ | refine j_iinc (lv' := [(3, _), (1, _), (0, _)]) (q := 31) C dX9_openPapers_28 rfl rfl rfl (by decide) rfl ?_
        refine j_goto (tgt := 4) C dX9_openPapers_31 (by decide) ?_
        exact j_fewer (lv' := [(3, .int (nI (k + 1))), (1, .long (nOpen K (k + 1))), (0, .ref w)]) (by simp [nOpen, if_pos ((kqO hM (by omega)).mp (jb_n.mp c_21))]) (ih (k + 1) (by omega))
  exact j_fewer (lv' := [(3, .int (nI 0)), (1, .long (nOpen K 0)), (0, .ref w)]) (by simp [nOpen]) (loop4 pa 0 (by omega))

set_option maxRecDepth 100000 in
set_option maxHeartbeats 4000000 in
theorem ctX9_tally_0 {G : jG} {sz : Nat} {Sh : jS} {M : jM} {w q pr lw jg mk : Nat} {K : Nat → Int64} (hW : wLay w q pr lw jg mk Sh M) (hM : vK w q pr lw M = K) {pe : Nat} (h4 : K 4 = lN pe) (hpe : pe ≤ 10) {pa : Nat} (h5 : K 5 = lN pa) (hpa : pa ≤ 24) {d : Nat} (hd : K 0 = lN d) (hd3 : d ≤ 300) : jC G yX9_tally cX9_tally 2 (Option.some FieldType.long) (jrm 3 0 0) sz Sh M [.ref w, .int (nI 0)] (jR (some (.long (sCnt K pe pa 0))) sz Sh M) := by
  refine jC_start (by decide +kernel) (Nat.le_of_ble_eq_true rfl) (fun X C E hN0 => ?_)
  refine j_iload_n (q := 1) C dX9_tally_0 rfl rfl rfl ?_
  refine j_swIn (tgt := 48) C dX9_tally_1 (by decide) (by decide) rfl (by decide) ?_
  refine j_aload_n (q := 49) C dX9_tally_48 rfl rfl rfl ?_
  refine wg_World_people hW hM (q' := 52) C dX9_tally_49 rfl kw_204 ?_
  refine j_top (v' := .int (nI pe)) (congrArg Value.int (k32 h4)) ?_
  first | refine j_i2lN (q := 53) C dX9_tally_52 rfl (by omega) ?_ | refine j_i2l (q := 53) C dX9_tally_52 rfl rfl ?_
  exact j_lret C E dX9_tally_53 rfl rfl (jR_e (by show _ = some (Value.long (K 4)); rw [h4]) rfl)

set_option maxRecDepth 100000 in
set_option maxHeartbeats 4000000 in
theorem ctX9_tally_1 {G : jG} {sz : Nat} {Sh : jS} {M : jM} {w q pr lw jg mk : Nat} {K : Nat → Int64} (hW : wLay w q pr lw jg mk Sh M) (hM : vK w q pr lw M = K) {pe : Nat} (h4 : K 4 = lN pe) (hpe : pe ≤ 10) {pa : Nat} (h5 : K 5 = lN pa) (hpa : pa ≤ 24) {d : Nat} (hd : K 0 = lN d) (hd3 : d ≤ 300) : jC G yX9_tally cX9_tally 2 (Option.some FieldType.long) (jrm 3 0 0) sz Sh M [.ref w, .int (nI 1)] (jR (some (.long (sCnt K pe pa 1))) sz Sh M) := by
  refine jC_start (by decide +kernel) (Nat.le_of_ble_eq_true rfl) (fun X C E hN0 => ?_)
  refine j_iload_n (q := 1) C dX9_tally_0 rfl rfl rfl ?_
  refine j_swIn (tgt := 54) C dX9_tally_1 (by decide) (by decide) rfl (by decide) ?_
  refine j_aload_n (q := 55) C dX9_tally_54 rfl rfl rfl ?_
  refine wg_World_written hW hM (q' := 58) C dX9_tally_55 rfl kw_207 ?_
  refine j_top (v' := .int (nI pa)) (congrArg Value.int (k32 h5)) ?_
  first | refine j_i2lN (q := 59) C dX9_tally_58 rfl (by omega) ?_ | refine j_i2l (q := 59) C dX9_tally_58 rfl rfl ?_
  exact j_lret C E dX9_tally_59 rfl rfl (jR_e (by show _ = some (Value.long (K 5)); rw [h5]) rfl)

set_option maxRecDepth 100000 in
set_option maxHeartbeats 4000000 in
theorem ctX9_tally_2 {G : jG} {sz : Nat} {Sh : jS} {M : jM} {w q pr lw jg mk : Nat} {K : Nat → Int64} (hW : wLay w q pr lw jg mk Sh M) (hM : vK w q pr lw M = K) {pe : Nat} (h4 : K 4 = lN pe) (hpe : pe ≤ 10) {pa : Nat} (h5 : K 5 = lN pa) (hpa : pa ≤ 24) {d : Nat} (hd : K 0 = lN d) (hd3 : d ≤ 300) : jC G yX9_tally cX9_tally 2 (Option.some FieldType.long) (jrm 3 0 0) sz Sh M [.ref w, .int (nI 2)] (jR (some (.long (sCnt K pe pa 2))) sz Sh M) := by
  refine jC_start (by decide +kernel) (Nat.le_of_ble_eq_true rfl) (fun X C E hN0 => ?_)
  refine j_iload_n (q := 1) C dX9_tally_0 rfl rfl rfl ?_
  refine j_swIn (tgt := 60) C dX9_tally_1 (by decide) (by decide) rfl (by decide) ?_
  refine j_aload_n (q := 61) C dX9_tally_60 rfl rfl rfl ?_
  refine jV1 jc9 (q := 64) C dX9_tally_61 rfl hW.1.1 mX9_openPapers kw_854 kw_855 kw_25 (ctX9_openPapers hW hM h5 hpa) rfl rfl (by decide) (Nat.le_of_ble_eq_true rfl) (by decide) ?_
  exact j_lret C E dX9_tally_64 rfl rfl (jR_i)

set_option maxRecDepth 100000 in
set_option maxHeartbeats 4000000 in
theorem ctX9_tally_3 {G : jG} {sz : Nat} {Sh : jS} {M : jM} {w q pr lw jg mk : Nat} {K : Nat → Int64} (hW : wLay w q pr lw jg mk Sh M) (hM : vK w q pr lw M = K) {pe : Nat} (h4 : K 4 = lN pe) (hpe : pe ≤ 10) {pa : Nat} (h5 : K 5 = lN pa) (hpa : pa ≤ 24) {d : Nat} (hd : K 0 = lN d) (hd3 : d ≤ 300) : jC G yX9_tally cX9_tally 2 (Option.some FieldType.long) (jrm 3 0 0) sz Sh M [.ref w, .int (nI 3)] (jR (some (.long (sCnt K pe pa 3))) sz Sh M) := by
  refine jC_start (by decide +kernel) (Nat.le_of_ble_eq_true rfl) (fun X C E hN0 => ?_)
  refine j_iload_n (q := 1) C dX9_tally_0 rfl rfl rfl ?_
  refine j_swIn (tgt := 65) C dX9_tally_1 (by decide) (by decide) rfl (by decide) ?_
  refine j_aload_n (q := 66) C dX9_tally_65 rfl rfl rfl ?_
  refine wg_World_day hW hM (q' := 69) C dX9_tally_66 rfl kw_209 ?_
  refine j_top (v' := .int (nI d)) (congrArg Value.int (k32 hd)) ?_
  first | refine j_i2lN (q := 70) C dX9_tally_69 rfl (by omega) ?_ | refine j_i2l (q := 70) C dX9_tally_69 rfl rfl ?_
  exact j_lret C E dX9_tally_70 rfl rfl (jR_e (by show _ = some (Value.long (K 0)); rw [hd]) rfl)

set_option maxRecDepth 100000 in
set_option maxHeartbeats 4000000 in
theorem ctX9_tally_4 {G : jG} {sz : Nat} {Sh : jS} {M : jM} {w q pr lw jg mk : Nat} {K : Nat → Int64} (hW : wLay w q pr lw jg mk Sh M) (hM : vK w q pr lw M = K) {pe : Nat} (h4 : K 4 = lN pe) (hpe : pe ≤ 10) {pa : Nat} (h5 : K 5 = lN pa) (hpa : pa ≤ 24) {d : Nat} (hd : K 0 = lN d) (hd3 : d ≤ 300) : jC G yX9_tally cX9_tally 2 (Option.some FieldType.long) (jrm 3 0 0) sz Sh M [.ref w, .int (nI 4)] (jR (some (.long (sCnt K pe pa 4))) sz Sh M) := by
  refine jC_start (by decide +kernel) (Nat.le_of_ble_eq_true rfl) (fun X C E hN0 => ?_)
  refine j_iload_n (q := 1) C dX9_tally_0 rfl rfl rfl ?_
  refine j_swIn (tgt := 71) C dX9_tally_1 (by decide) (by decide) rfl (by decide) ?_
  refine j_aload_n (q := 72) C dX9_tally_71 rfl rfl rfl ?_
  refine wg_World_state hW hM (q' := 75) C dX9_tally_72 rfl kw_214 ?_
  exact j_lret C E dX9_tally_75 rfl rfl (jR_i)

set_option maxRecDepth 100000 in
set_option maxHeartbeats 4000000 in
theorem ctX9_tally_5 {G : jG} {sz : Nat} {Sh : jS} {M : jM} {w q pr lw jg mk : Nat} {K : Nat → Int64} (hW : wLay w q pr lw jg mk Sh M) (hM : vK w q pr lw M = K) {pe : Nat} (h4 : K 4 = lN pe) (hpe : pe ≤ 10) {pa : Nat} (h5 : K 5 = lN pa) (hpa : pa ≤ 24) {d : Nat} (hd : K 0 = lN d) (hd3 : d ≤ 300) : jC G yX9_tally cX9_tally 2 (Option.some FieldType.long) (jrm 3 0 0) sz Sh M [.ref w, .int (nI 5)] (jR (some (.long (sCnt K pe pa 5))) sz Sh M) := by
  refine jC_start (by decide +kernel) (Nat.le_of_ble_eq_true rfl) (fun X C E hN0 => ?_)
  refine j_iload_n (q := 1) C dX9_tally_0 rfl rfl rfl ?_
  refine j_swIn (tgt := 76) C dX9_tally_1 (by decide) (by decide) rfl (by decide) ?_
  refine j_aload_n (q := 77) C dX9_tally_76 rfl rfl rfl ?_
  refine jV1 jc9 (q := 80) C dX9_tally_77 rfl hW.1.1 mX9_marksOfAll kw_857 kw_858 kw_26 (ctX9_marksOfAll hW hM h4 hpe) rfl rfl (by decide) (Nat.le_of_ble_eq_true rfl) (by decide) ?_
  exact j_lret C E dX9_tally_80 rfl rfl (jR_i)

set_option maxRecDepth 100000 in
set_option maxHeartbeats 4000000 in
theorem ctX9_tally_6 {G : jG} {sz : Nat} {Sh : jS} {M : jM} {w q pr lw jg mk : Nat} {K : Nat → Int64} (hW : wLay w q pr lw jg mk Sh M) (hM : vK w q pr lw M = K) {pe : Nat} (h4 : K 4 = lN pe) (hpe : pe ≤ 10) {pa : Nat} (h5 : K 5 = lN pa) (hpa : pa ≤ 24) {d : Nat} (hd : K 0 = lN d) (hd3 : d ≤ 300) : jC G yX9_tally cX9_tally 2 (Option.some FieldType.long) (jrm 3 0 0) sz Sh M [.ref w, .int (nI 6)] (jR (some (.long (sCnt K pe pa 6))) sz Sh M) := by
  refine jC_start (by decide +kernel) (Nat.le_of_ble_eq_true rfl) (fun X C E hN0 => ?_)
  refine j_iload_n (q := 1) C dX9_tally_0 rfl rfl rfl ?_
  refine j_swIn (tgt := 81) C dX9_tally_1 (by decide) (by decide) rfl (by decide) ?_
  refine j_aload_n (q := 82) C dX9_tally_81 rfl rfl rfl ?_
  refine wg_World_printed hW hM (q' := 85) C dX9_tally_82 rfl kw_217 ?_
  exact j_lret C E dX9_tally_85 rfl rfl (jR_i)

set_option maxRecDepth 100000 in
set_option maxHeartbeats 4000000 in
theorem ctX9_tally_7 {G : jG} {sz : Nat} {Sh : jS} {M : jM} {w q pr lw jg mk : Nat} {K : Nat → Int64} (hW : wLay w q pr lw jg mk Sh M) (hM : vK w q pr lw M = K) {pe : Nat} (h4 : K 4 = lN pe) (hpe : pe ≤ 10) {pa : Nat} (h5 : K 5 = lN pa) (hpa : pa ≤ 24) {d : Nat} (hd : K 0 = lN d) (hd3 : d ≤ 300) : jC G yX9_tally cX9_tally 2 (Option.some FieldType.long) (jrm 3 0 0) sz Sh M [.ref w, .int (nI 7)] (jR (some (.long (sCnt K pe pa 7))) sz Sh M) := by
  refine jC_start (by decide +kernel) (Nat.le_of_ble_eq_true rfl) (fun X C E hN0 => ?_)
  refine j_iload_n (q := 1) C dX9_tally_0 rfl rfl rfl ?_
  refine j_swIn (tgt := 86) C dX9_tally_1 (by decide) (by decide) rfl (by decide) ?_
  refine j_aload_n (q := 87) C dX9_tally_86 rfl rfl rfl ?_
  refine wg_World_burnt hW hM (q' := 90) C dX9_tally_87 rfl kw_219 ?_
  exact j_lret C E dX9_tally_90 rfl rfl (jR_i)

set_option maxRecDepth 100000 in
set_option maxHeartbeats 4000000 in
theorem ctX9_tally_8 {G : jG} {sz : Nat} {Sh : jS} {M : jM} {w q pr lw jg mk : Nat} {K : Nat → Int64} (hW : wLay w q pr lw jg mk Sh M) (hM : vK w q pr lw M = K) {pe : Nat} (h4 : K 4 = lN pe) (hpe : pe ≤ 10) {pa : Nat} (h5 : K 5 = lN pa) (hpa : pa ≤ 24) {d : Nat} (hd : K 0 = lN d) (hd3 : d ≤ 300) : jC G yX9_tally cX9_tally 2 (Option.some FieldType.long) (jrm 3 0 0) sz Sh M [.ref w, .int (nI 8)] (jR (some (.long (sCnt K pe pa 8))) sz Sh M) := by
  refine jC_start (by decide +kernel) (Nat.le_of_ble_eq_true rfl) (fun X C E hN0 => ?_)
  refine j_iload_n (q := 1) C dX9_tally_0 rfl rfl rfl ?_
  refine j_swOut (tgt := 91) C dX9_tally_1 (Or.inr (by decide)) (by decide) ?_
  refine j_aload_n (q := 92) C dX9_tally_91 rfl rfl rfl ?_
  refine jV1 jc9 (q := 95) C dX9_tally_92 rfl hW.1.1 mX9_loavesOfAll kw_860 kw_861 kw_27 (ctX9_loavesOfAll hW hM h4 hpe) rfl rfl (by decide) (Nat.le_of_ble_eq_true rfl) (by decide) ?_
  exact j_lret C E dX9_tally_95 rfl rfl (jR_i)

theorem ctX9_tally {G : jG} {sz : Nat} {Sh : jS} {M : jM} {w q pr lw jg mk : Nat} {K : Nat → Int64} (hW : wLay w q pr lw jg mk Sh M) (hM : vK w q pr lw M = K) {pe : Nat} (h4 : K 4 = lN pe) (hpe : pe ≤ 10) {pa : Nat} (h5 : K 5 = lN pa) (hpa : pa ≤ 24) {d : Nat} (hd : K 0 = lN d) (hd3 : d ≤ 300) {v : Nat} (hv : v ≤ 8) : jC G yX9_tally cX9_tally 2 (Option.some FieldType.long) (jrm 3 0 0) sz Sh M [.ref w, .int (nI v)] (jR (some (.long (sCnt K pe pa v))) sz Sh M) := by
  rcases (show v = 0 ∨ v = 1 ∨ v = 2 ∨ v = 3 ∨ v = 4 ∨ v = 5 ∨ v = 6 ∨ v = 7 ∨ v = 8 by omega) with e | e | e | e | e | e | e | e | e <;> subst e
  · exact ctX9_tally_0 hW hM h4 hpe h5 hpa hd hd3
  · exact ctX9_tally_1 hW hM h4 hpe h5 hpa hd hd3
  · exact ctX9_tally_2 hW hM h4 hpe h5 hpa hd hd3
  · exact ctX9_tally_3 hW hM h4 hpe h5 hpa hd hd3
  · exact ctX9_tally_4 hW hM h4 hpe h5 hpa hd hd3
  · exact ctX9_tally_5 hW hM h4 hpe h5 hpa hd hd3
  · exact ctX9_tally_6 hW hM h4 hpe h5 hpa hd hd3
  · exact ctX9_tally_7 hW hM h4 hpe h5 hpa hd hd3
  · exact ctX9_tally_8 hW hM h4 hpe h5 hpa hd hd3
set_option maxRecDepth 100000 in
set_option maxHeartbeats 4000000 in
theorem ctX9_isThin {G : jG} {sz : Nat} {Sh : jS} {M : jM} {w q pr lw jg mk : Nat} {K : Nat → Int64} (hW : wLay w q pr lw jg mk Sh M) (hM : vK w q pr lw M = K) {pa : Nat} (h5 : K 5 = lN pa) (hpa : pa ≤ 24) {h : Nat} (hh : h < 10) : jC G yX9_isThin cX9_isThin 6 (Option.some FieldType.boolean) (jrm 2 0 0) sz Sh M [.ref w, .int (nI h)] (jR (some (.int (jb (K (10 + 10 * h + 0) < nNotes K h pa)))) sz Sh M) := by
  refine jC_start (by decide +kernel) (Nat.le_of_ble_eq_true rfl) (fun X C E hN0 => ?_)
  refine j_lconst (v := 0) (q := 1) C dX9_isThin_0 rfl (by decide) ?_
  refine j_lstore_n (lv' := [(2, _), (0, _), (1, _)]) (q := 2) C dX9_isThin_1 rfl rfl (by decide) rfl ?_
  refine j_iconst (v := nI 0) (q := 3) C dX9_isThin_2 rfl (by decide) ?_
  refine j_istore (lv' := [(4, _), (2, _), (0, _), (1, _)]) (q := 5) C dX9_isThin_3 rfl (by decide) rfl ?_
  have loop5 : ∀ (n k : Nat), k + n = pa → jJ G X 0 0 sz Sh M 5 [(4, .int (nI k)), (2, .long (nNotes K h k)), (0, .ref w), (1, .int (nI h))] [] := by
    intro n
    induction n with
    | zero =>
      intro k  hk
      refine j_iload (q := 7) C dX9_isThin_5 rfl rfl ?_
      refine j_aload_n (q := 8) C dX9_isThin_7 rfl rfl rfl ?_
      refine wg_World_written hW hM (q' := 11) C dX9_isThin_8 rfl kw_207 ?_
      refine j_top (v' := .int (nI pa)) (congrArg Value.int (k32 h5)) ?_
      refine j_icmp_ge (q := 14) (tgt := 63) C dX9_isThin_11 rfl (by decide) (fun c_11 => ?_) (fun c_11 => absurd (nI_le (by omega) (by omega)) c_11)
      obtain rfl : pa = k := by omega
      refine j_lload_n (q := 64) C dX9_isThin_63 rfl rfl rfl ?_
      refine j_aload_n (q := 65) C dX9_isThin_64 rfl rfl rfl ?_
      refine jg_World_persons (q := 68) C dX9_isThin_65 rfl hW.1.1 kw_191 hW.2.1.1 ?_
      refine j_iload_n (q := 69) C dX9_isThin_68 rfl rfl rfl ?_
      refine wa_pers hW (by omega) (q' := 70) C dX9_isThin_69 rfl ?_
      refine wg_Person_marks (by omega) hW hM (q' := 73) C dX9_isThin_70 rfl kw_144 ?_
      refine j_lcmp_le (q1 := 74) (q := 77) (tgt := 81) C dX9_isThin_73 dX9_isThin_74 rfl rfl (by decide) (fun c_74 => ?_) (fun c_74 => ?_)
      · refine j_iconst (v := nI 0) (q := 82) C dX9_isThin_81 rfl (by decide) ?_
        exact j_zret C E dX9_isThin_82 (by first | rfl | exact jb_nar) rfl rfl (jR_e (by rw [jb_f (Int64.not_lt.mpr c_74)]) rfl)
      · refine j_iconst (v := nI 1) (q := 78) C dX9_isThin_77 rfl (by decide) ?_
        refine j_goto (tgt := 82) C dX9_isThin_78 (by decide) ?_
        exact j_zret C E dX9_isThin_82 (by first | rfl | exact jb_nar) rfl rfl (jR_e (by rw [jb_t (Int64.not_le.mp c_74)]) rfl)
    | succ n ih =>
      intro k  hk
      refine j_iload (q := 7) C dX9_isThin_5 rfl rfl ?_
      refine j_aload_n (q := 8) C dX9_isThin_7 rfl rfl rfl ?_
      refine wg_World_written hW hM (q' := 11) C dX9_isThin_8 rfl kw_207 ?_
      refine j_top (v' := .int (nI pa)) (congrArg Value.int (k32 h5)) ?_
      refine j_icmp_ge (q := 14) (tgt := 63) C dX9_isThin_11 rfl (by decide) (fun c_11 => absurd c_11 (fun h => absurd ((nI_leI (by omega) (by omega)).mp h) (by omega))) (fun c_11 => ?_)
      refine j_aload_n (q := 15) C dX9_isThin_14 rfl rfl rfl ?_
      refine jg_World_papers (q := 18) C dX9_isThin_15 rfl hW.1.1 kw_195 hW.2.1.2.1 ?_
      refine j_iload (q := 20) C dX9_isThin_18 rfl rfl ?_
      refine wa_pap hW (by omega) (q' := 21) C dX9_isThin_20 rfl ?_
      refine j_astore (lv' := [(5, _), (4, _), (2, _), (0, _), (1, _)]) (q := 23) C dX9_isThin_21 rfl (by decide) rfl ?_
      refine j_aload (q := 25) C dX9_isThin_23 rfl rfl ?_
      refine wg_Paper_kind (by omega) hW hM (q' := 28) C dX9_isThin_25 rfl kw_172 ?_
      refine j_iconst (v := nI 5) (q := 29) C dX9_isThin_28 rfl (by decide) ?_
      refine j_icmp_ne (q := 32) (tgt := 57) C dX9_isThin_29 rfl (by decide) (fun c_29 => ?_) (fun c_29 => ?_)
      · first | refine j_iincN (lv' := [(4, _), (5, _), (2, _), (0, _), (1, _)]) (q := 60) C dX9_isThin_57 rfl rfl (by decide) rfl ?_ | refine j_iinc (lv' := [(4, _), (5, _), (2, _), (0, _), (1, _)]) (q := 60) C dX9_isThin_57 rfl rfl rfl (by decide) rfl ?_
        refine j_goto (tgt := 5) C dX9_isThin_60 (by decide) ?_
        have eN : nNotes K h (k + 1) = nNotes K h k + 0 := by rw [nNotes, if_neg (fun z => c_29 ((show (K (110 + 7 * k + 0)).toInt32 = nI 5 ↔ K (110 + 7 * k + 0) = 5 from by rw [← hM, vK_qI (by omega) (by omega), i32_rt, ← i64_eq]; exact Iff.rfl).mpr z.1))]
        exact j_fewer (lv' := [(4, .int (nI (k + 1))), (2, .long (nNotes K h (k + 1))), (0, .ref w), (1, .int (nI h))]) (by simp [eN]) (ih (k + 1) (by omega))
      · refine j_aload (q := 34) C dX9_isThin_32 rfl rfl ?_
        refine jV1 jc5 (q := 37) C dX9_isThin_34 rfl (hW.1.2.2.2.2.2.2.2.2 _ (by omega)) mX5_isOpen kw_452 kw_366 kw_367 (ctX5_isOpen (hW.1.2.2.2.2.2.2.2.2 k (by omega))) rfl rfl (by decide) (Nat.le_of_ble_eq_true rfl) (by decide) ?_
        refine j_if_eq (q := 40) (tgt := 57) C dX9_isThin_37 rfl (by decide) (fun c_37 => ?_) (fun c_37 => ?_)
        · first | refine j_iincN (lv' := [(4, _), (5, _), (2, _), (0, _), (1, _)]) (q := 60) C dX9_isThin_57 rfl rfl (by decide) rfl ?_ | refine j_iinc (lv' := [(4, _), (5, _), (2, _), (0, _), (1, _)]) (q := 60) C dX9_isThin_57 rfl rfl rfl (by decide) rfl ?_
          refine j_goto (tgt := 5) C dX9_isThin_60 (by decide) ?_
          have eN : nNotes K h (k + 1) = nNotes K h k + 0 := by rw [nNotes, if_neg (fun z => jb_0.mp c_37 ((kqO hM (by omega)).mpr z.2.1))]
          exact j_fewer (lv' := [(4, .int (nI (k + 1))), (2, .long (nNotes K h (k + 1))), (0, .ref w), (1, .int (nI h))]) (by simp [eN]) (ih (k + 1) (by omega))
        · refine j_aload (q := 42) C dX9_isThin_40 rfl rfl ?_
          refine wg_Paper_by (by omega) hW hM (q' := 45) C dX9_isThin_42 rfl kw_175 ?_
          refine j_iload_n (q := 46) C dX9_isThin_45 rfl rfl rfl ?_
          refine j_icmp_ne (q := 49) (tgt := 57) C dX9_isThin_46 rfl (by decide) (fun c_46 => ?_) (fun c_46 => ?_)
          · first | refine j_iincN (lv' := [(4, _), (5, _), (2, _), (0, _), (1, _)]) (q := 60) C dX9_isThin_57 rfl rfl (by decide) rfl ?_ | refine j_iinc (lv' := [(4, _), (5, _), (2, _), (0, _), (1, _)]) (q := 60) C dX9_isThin_57 rfl rfl rfl (by decide) rfl ?_
            refine j_goto (tgt := 5) C dX9_isThin_60 (by decide) ?_
            have eN : nNotes K h (k + 1) = nNotes K h k + 0 := by rw [nNotes, if_neg (fun z => c_46 ((show (K (110 + 7 * k + 1)).toInt32 = nI h ↔ K (110 + 7 * k + 1) = lN h from by rw [← hM, vK_qI (by omega) (by omega), i32_rt, ← i64_eq, nI_l (by omega)]).mpr z.2.2))]
            exact j_fewer (lv' := [(4, .int (nI (k + 1))), (2, .long (nNotes K h (k + 1))), (0, .ref w), (1, .int (nI h))]) (by simp [eN]) (ih (k + 1) (by omega))
          · refine j_lload_n (q := 50) C dX9_isThin_49 rfl rfl rfl ?_
            refine j_aload (q := 52) C dX9_isThin_50 rfl rfl ?_
            refine wg_Paper_sum (by omega) hW hM (q' := 55) C dX9_isThin_52 rfl kw_181 ?_
            refine j_ladd (q := 56) C dX9_isThin_55 rfl ?_
            refine j_lstore_n (lv' := [(2, _), (5, _), (4, _), (0, _), (1, _)]) (q := 57) C dX9_isThin_56 rfl rfl (by decide) rfl ?_
            first | refine j_iincN (lv' := [(4, _), (2, _), (5, _), (0, _), (1, _)]) (q := 60) C dX9_isThin_57 rfl rfl (by decide) rfl ?_ | refine j_iinc (lv' := [(4, _), (2, _), (5, _), (0, _), (1, _)]) (q := 60) C dX9_isThin_57 rfl rfl rfl (by decide) rfl ?_
            refine j_goto (tgt := 5) C dX9_isThin_60 (by decide) ?_
            have eN : nNotes K h (k + 1) = nNotes K h k + K (110 + 7 * k + 3) := by rw [nNotes, if_pos ⟨(show (K (110 + 7 * k + 0)).toInt32 = nI 5 ↔ K (110 + 7 * k + 0) = 5 from by rw [← hM, vK_qI (by omega) (by omega), i32_rt, ← i64_eq]; exact Iff.rfl).mp c_29, (kqO hM (by omega)).mp (jb_n.mp c_37), (show (K (110 + 7 * k + 1)).toInt32 = nI h ↔ K (110 + 7 * k + 1) = lN h from by rw [← hM, vK_qI (by omega) (by omega), i32_rt, ← i64_eq, nI_l (by omega)]).mp c_46⟩]
            exact j_fewer (lv' := [(4, .int (nI (k + 1))), (2, .long (nNotes K h (k + 1))), (0, .ref w), (1, .int (nI h))]) (by simp [eN]) (ih (k + 1) (by omega))
  exact j_fewer (lv' := [(4, .int (nI 0)), (2, .long (nNotes K h 0)), (0, .ref w), (1, .int (nI h))]) (by simp [nNotes]) (loop5 pa 0 (by omega))

