/-- the least known of a number -/
def nLaw (N : Nat → Int64) (c d : Int64) : Nat → Int32
  | 0 => -1
  | k + 1 => if N (278 + 2 * k) = c ∧ N (278 + 2 * k + 1) ≤ d then nI k else nLaw N c d k
def nDone (w : Nat) (a b : Int64) : Int64 := match w with
  | 0 => if ¬ a = 0 ∨ ¬ b = 0 then 1 else 0
  | 1 => if ¬ a = 0 ∧ ¬ b = 0 then 1 else 0
  | 2 => if a < b then 1 else 0
  | 3 => if a = b then 1 else 0
  | 4 => a + b
  | 5 => a - b
  | 6 => a * b
  | _ => if b = 0 then 0 else a / b
set_option maxRecDepth 100000 in
set_option maxHeartbeats 4000000 in
theorem ctX11_lawOn {G : jG} {sz : Nat} {Sh : jS} {M : jM} {o : Nat} {N : Nat → Int64} (hR : rLay o Sh M) {la : Nat} (h6 : N 6 = lN la) (hla : la ≤ 12) {c e : Int32} : jC G yX11_lawOn cX11_lawOn 5 (Option.some FieldType.int) (jrm 1 0 0) sz Sh (jw M (o + 1) N) [.ref o, .int c, .int e] (jR (some (.int (nLaw N c.toInt64 e.toInt64 la))) sz Sh (jw M (o + 1) N)) := by
  refine jC_start (by decide +kernel) (Nat.le_of_ble_eq_true rfl) (fun X C E hN0 => ?_)
  refine j_iconst (v := (-1)) (q := 1) C dX11_lawOn_0 rfl (by decide) ?_
  refine j_istore_n (lv' := [(3, _), (0, _), (1, _), (2, _)]) (q := 2) C dX11_lawOn_1 rfl rfl (by decide) rfl ?_
  refine j_iconst (v := nI 0) (q := 3) C dX11_lawOn_2 rfl (by decide) ?_
  refine j_istore (lv' := [(4, _), (3, _), (0, _), (1, _), (2, _)]) (q := 5) C dX11_lawOn_3 rfl (by decide) rfl ?_
  have loop5 : ∀ (n k : Nat) (F : Int32), F = nLaw N c.toInt64 e.toInt64 k → k + n = la → jJ G X 0 0 sz Sh (jw M (o + 1) N) 5 [(4, .int (nI k)), (3, .int F), (0, .ref o), (1, .int c), (2, .int e)] [] := by
    intro n
    induction n with
    | zero =>
      intro k F eF hk
      refine j_iload (q := 7) C dX11_lawOn_5 rfl rfl ?_
      first | refine j_i2lN (q := 8) C dX11_lawOn_7 rfl (by omega) ?_ | refine j_i2l (q := 8) C dX11_lawOn_7 rfl rfl ?_
      refine j_aload_n (q := 9) C dX11_lawOn_8 rfl rfl rfl ?_
      refine jg_Model_now (q := 12) C dX11_lawOn_9 rfl hR.1.1 kw_869 hR.2.1 ?_
      refine j_bipush (v := nI 6) (q := 14) C dX11_lawOn_12 rfl (by decide) ?_
      refine j_laldW (q := 15) C dX11_lawOn_14 rfl hR.1.2.1 (by omega) (by decide) ?_
      rw [h6]
      refine j_lcmp_ge (q1 := 16) (q := 19) (tgt := 72) C dX11_lawOn_15 dX11_lawOn_16 rfl rfl (by decide) (fun c_16 => ?_) (fun c_16 => absurd ((lN_le (by omega) (by omega)).mpr (by omega)) c_16)
      obtain rfl : k = la := by omega
      refine j_iload_n (q := 73) C dX11_lawOn_72 rfl rfl rfl ?_
      exact j_iret C E dX11_lawOn_73 rfl rfl (jR_e (by rw [eF]) rfl)
    | succ n ih =>
      intro k F eF hk
      refine j_iload (q := 7) C dX11_lawOn_5 rfl rfl ?_
      first | refine j_i2lN (q := 8) C dX11_lawOn_7 rfl (by omega) ?_ | refine j_i2l (q := 8) C dX11_lawOn_7 rfl rfl ?_
      refine j_aload_n (q := 9) C dX11_lawOn_8 rfl rfl rfl ?_
      refine jg_Model_now (q := 12) C dX11_lawOn_9 rfl hR.1.1 kw_869 hR.2.1 ?_
      refine j_bipush (v := nI 6) (q := 14) C dX11_lawOn_12 rfl (by decide) ?_
      refine j_laldW (q := 15) C dX11_lawOn_14 rfl hR.1.2.1 (by omega) (by decide) ?_
      rw [h6]
      refine j_lcmp_ge (q1 := 16) (q := 19) (tgt := 72) C dX11_lawOn_15 dX11_lawOn_16 rfl rfl (by decide) (fun c_16 => absurd c_16 (fun h => absurd ((lN_le (by omega) (by omega)).mp h) (by omega))) (fun c_16 => ?_)
      refine j_aload_n (q := 20) C dX11_lawOn_19 rfl rfl rfl ?_
      refine jg_Model_now (q := 23) C dX11_lawOn_20 rfl hR.1.1 kw_869 hR.2.1 ?_
      refine j_sipush (v := nI 278) (q := 26) C dX11_lawOn_23 rfl (by decide) ?_
      refine j_iconst (v := nI 2) (q := 27) C dX11_lawOn_26 rfl (by decide) ?_
      refine j_iload (q := 29) C dX11_lawOn_27 rfl rfl ?_
      first | refine j_imulN (q := 30) C dX11_lawOn_29 rfl ?_ | refine j_imul (q := 30) C dX11_lawOn_29 rfl ?_
      first | refine j_iaddN (q := 31) C dX11_lawOn_30 rfl ?_ | refine j_iadd (q := 31) C dX11_lawOn_30 rfl ?_
      refine j_laldW (q := 32) C dX11_lawOn_31 rfl hR.1.2.1 (by omega) (by decide) ?_
      refine j_iload_n (q := 33) C dX11_lawOn_32 rfl rfl rfl ?_
      first | refine j_i2lN (q := 34) C dX11_lawOn_33 rfl (by omega) ?_ | refine j_i2l (q := 34) C dX11_lawOn_33 rfl rfl ?_
      refine j_lcmp_ne (q1 := 35) (q := 38) (tgt := 64) C dX11_lawOn_34 dX11_lawOn_35 rfl rfl (by decide) (fun c_35 => ?_) (fun c_35 => ?_)
      · refine j_iload_n (q := 65) C dX11_lawOn_64 rfl rfl rfl ?_
        refine j_istore_n (lv' := [(3, _), (4, _), (0, _), (1, _), (2, _)]) (q := 66) C dX11_lawOn_65 rfl rfl (by decide) rfl ?_
        first | refine j_iincN (lv' := [(4, _), (3, _), (0, _), (1, _), (2, _)]) (q := 69) C dX11_lawOn_66 rfl rfl (by decide) rfl ?_ | refine j_iinc (lv' := [(4, _), (3, _), (0, _), (1, _), (2, _)]) (q := 69) C dX11_lawOn_66 rfl rfl rfl (by decide) rfl ?_
        refine j_goto (tgt := 5) C dX11_lawOn_69 (by decide) ?_
        exact j_fewer (lv' := [(4, .int (nI (k + 1))), (3, .int F), (0, .ref o), (1, .int c), (2, .int e)]) (by simp) (ih (k + 1) _ (by rw [nLaw, if_neg (fun h => c_35 h.1)]; exact eF) (by omega))
      · refine j_aload_n (q := 39) C dX11_lawOn_38 rfl rfl rfl ?_
        refine jg_Model_now (q := 42) C dX11_lawOn_39 rfl hR.1.1 kw_869 hR.2.1 ?_
        refine j_sipush (v := nI 278) (q := 45) C dX11_lawOn_42 rfl (by decide) ?_
        refine j_iconst (v := nI 2) (q := 46) C dX11_lawOn_45 rfl (by decide) ?_
        refine j_iload (q := 48) C dX11_lawOn_46 rfl rfl ?_
        first | refine j_imulN (q := 49) C dX11_lawOn_48 rfl ?_ | refine j_imul (q := 49) C dX11_lawOn_48 rfl ?_
        first | refine j_iaddN (q := 50) C dX11_lawOn_49 rfl ?_ | refine j_iadd (q := 50) C dX11_lawOn_49 rfl ?_
        refine j_iconst (v := nI 1) (q := 51) C dX11_lawOn_50 rfl (by decide) ?_
        first | refine j_iaddN (q := 52) C dX11_lawOn_51 rfl ?_ | refine j_iadd (q := 52) C dX11_lawOn_51 rfl ?_
        refine j_laldW (q := 53) C dX11_lawOn_52 rfl hR.1.2.1 (by omega) (by decide) ?_
        refine j_iload_n (q := 54) C dX11_lawOn_53 rfl rfl rfl ?_
        first | refine j_i2lN (q := 55) C dX11_lawOn_54 rfl (by omega) ?_ | refine j_i2l (q := 55) C dX11_lawOn_54 rfl rfl ?_
        refine j_lcmp_gt (q1 := 56) (q := 59) (tgt := 64) C dX11_lawOn_55 dX11_lawOn_56 rfl rfl (by decide) (fun c_56 => ?_) (fun c_56 => ?_)
        · refine j_iload_n (q := 65) C dX11_lawOn_64 rfl rfl rfl ?_
          refine j_istore_n (lv' := [(3, _), (4, _), (0, _), (1, _), (2, _)]) (q := 66) C dX11_lawOn_65 rfl rfl (by decide) rfl ?_
          first | refine j_iincN (lv' := [(4, _), (3, _), (0, _), (1, _), (2, _)]) (q := 69) C dX11_lawOn_66 rfl rfl (by decide) rfl ?_ | refine j_iinc (lv' := [(4, _), (3, _), (0, _), (1, _), (2, _)]) (q := 69) C dX11_lawOn_66 rfl rfl rfl (by decide) rfl ?_
          refine j_goto (tgt := 5) C dX11_lawOn_69 (by decide) ?_
          exact j_fewer (lv' := [(4, .int (nI (k + 1))), (3, .int F), (0, .ref o), (1, .int c), (2, .int e)]) (by simp) (ih (k + 1) _ (by rw [nLaw, if_neg (fun h => absurd c_56 (Int64.not_lt.mpr h.2))]; exact eF) (by omega))
        · refine j_iload (q := 61) C dX11_lawOn_59 rfl rfl ?_
          refine j_goto (tgt := 65) C dX11_lawOn_61 (by decide) ?_
          refine j_istore_n (lv' := [(3, _), (4, _), (0, _), (1, _), (2, _)]) (q := 66) C dX11_lawOn_65 rfl rfl (by decide) rfl ?_
          first | refine j_iincN (lv' := [(4, _), (3, _), (0, _), (1, _), (2, _)]) (q := 69) C dX11_lawOn_66 rfl rfl (by decide) rfl ?_ | refine j_iinc (lv' := [(4, _), (3, _), (0, _), (1, _), (2, _)]) (q := 69) C dX11_lawOn_66 rfl rfl rfl (by decide) rfl ?_
          refine j_goto (tgt := 5) C dX11_lawOn_69 (by decide) ?_
          exact j_fewer (lv' := [(4, .int (nI (k + 1))), (3, .int (nI k)), (0, .ref o), (1, .int c), (2, .int e)]) (by simp) (ih (k + 1) _ (by rw [nLaw, if_pos ⟨c_35, Int64.not_lt.mp c_56⟩]) (by omega))
  exact loop5 la 0 _ rfl (by omega)

set_option maxRecDepth 100000 in
set_option maxHeartbeats 4000000 in
theorem ctX11_done_0 {G : jG} {sz : Nat} {Sh : jS} {M : jM} {a b : Int64} : jC G yX11_done cX11_done 5 (Option.some FieldType.long) (jrm 1 0 0) sz Sh M [.int (nI 0), .long a, .long b] (jR (some (.long (nDone 0 a b))) sz Sh M) := by
  refine jC_start (by decide +kernel) (Nat.le_of_ble_eq_true rfl) (fun X C E hN0 => ?_)
  refine j_iload_n (q := 1) C dX11_done_0 rfl rfl rfl ?_
  refine j_swIn (tgt := 44) C dX11_done_1 (by decide) (by decide) rfl (by decide) ?_
  refine j_lload_n (q := 45) C dX11_done_44 rfl rfl rfl ?_
  refine j_lconst (v := 0) (q := 46) C dX11_done_45 rfl (by decide) ?_
  refine j_lcmp_ne (q1 := 47) (q := 50) (tgt := 56) C dX11_done_46 dX11_done_47 rfl rfl (by decide) (fun c_47 => ?_) (fun c_47 => ?_)
  · refine j_lconst (v := 1) (q := 57) C dX11_done_56 rfl (by decide) ?_
    refine j_goto (tgt := 61) C dX11_done_57 (by decide) ?_
    exact j_lret C E dX11_done_61 rfl rfl (jR_e (by rw [nDone, if_pos (Or.inl c_47)]) rfl)
  · refine j_lload_n (q := 51) C dX11_done_50 rfl rfl rfl ?_
    refine j_lconst (v := 0) (q := 52) C dX11_done_51 rfl (by decide) ?_
    refine j_lcmp_eq (q1 := 53) (q := 56) (tgt := 60) C dX11_done_52 dX11_done_53 rfl rfl (by decide) (fun c_53 => ?_) (fun c_53 => ?_)
    · refine j_lconst (v := 0) (q := 61) C dX11_done_60 rfl (by decide) ?_
      exact j_lret C E dX11_done_61 rfl rfl (jR_e (by rw [nDone, if_neg (fun h => h.elim (fun h => h c_47) (fun h => h c_53))]) rfl)
    · refine j_lconst (v := 1) (q := 57) C dX11_done_56 rfl (by decide) ?_
      refine j_goto (tgt := 61) C dX11_done_57 (by decide) ?_
      exact j_lret C E dX11_done_61 rfl rfl (jR_e (by rw [nDone, if_pos (Or.inr c_53)]) rfl)

set_option maxRecDepth 100000 in
set_option maxHeartbeats 4000000 in
theorem ctX11_done_1 {G : jG} {sz : Nat} {Sh : jS} {M : jM} {a b : Int64} : jC G yX11_done cX11_done 5 (Option.some FieldType.long) (jrm 1 0 0) sz Sh M [.int (nI 1), .long a, .long b] (jR (some (.long (nDone 1 a b))) sz Sh M) := by
  refine jC_start (by decide +kernel) (Nat.le_of_ble_eq_true rfl) (fun X C E hN0 => ?_)
  refine j_iload_n (q := 1) C dX11_done_0 rfl rfl rfl ?_
  refine j_swIn (tgt := 62) C dX11_done_1 (by decide) (by decide) rfl (by decide) ?_
  refine j_lload_n (q := 63) C dX11_done_62 rfl rfl rfl ?_
  refine j_lconst (v := 0) (q := 64) C dX11_done_63 rfl (by decide) ?_
  refine j_lcmp_eq (q1 := 65) (q := 68) (tgt := 78) C dX11_done_64 dX11_done_65 rfl rfl (by decide) (fun c_65 => ?_) (fun c_65 => ?_)
  · refine j_lconst (v := 0) (q := 79) C dX11_done_78 rfl (by decide) ?_
    exact j_lret C E dX11_done_79 rfl rfl (jR_e (by rw [nDone, if_neg (fun h => h.1 c_65)]) rfl)
  · refine j_lload_n (q := 69) C dX11_done_68 rfl rfl rfl ?_
    refine j_lconst (v := 0) (q := 70) C dX11_done_69 rfl (by decide) ?_
    refine j_lcmp_eq (q1 := 71) (q := 74) (tgt := 78) C dX11_done_70 dX11_done_71 rfl rfl (by decide) (fun c_71 => ?_) (fun c_71 => ?_)
    · refine j_lconst (v := 0) (q := 79) C dX11_done_78 rfl (by decide) ?_
      exact j_lret C E dX11_done_79 rfl rfl (jR_e (by rw [nDone, if_neg (fun h => h.2 c_71)]) rfl)
    · refine j_lconst (v := 1) (q := 75) C dX11_done_74 rfl (by decide) ?_
      refine j_goto (tgt := 79) C dX11_done_75 (by decide) ?_
      exact j_lret C E dX11_done_79 rfl rfl (jR_e (by rw [nDone, if_pos ⟨c_65, c_71⟩]) rfl)

set_option maxRecDepth 100000 in
set_option maxHeartbeats 4000000 in
theorem ctX11_done_2 {G : jG} {sz : Nat} {Sh : jS} {M : jM} {a b : Int64} : jC G yX11_done cX11_done 5 (Option.some FieldType.long) (jrm 1 0 0) sz Sh M [.int (nI 2), .long a, .long b] (jR (some (.long (nDone 2 a b))) sz Sh M) := by
  refine jC_start (by decide +kernel) (Nat.le_of_ble_eq_true rfl) (fun X C E hN0 => ?_)
  refine j_iload_n (q := 1) C dX11_done_0 rfl rfl rfl ?_
  refine j_swIn (tgt := 80) C dX11_done_1 (by decide) (by decide) rfl (by decide) ?_
  refine j_lload_n (q := 81) C dX11_done_80 rfl rfl rfl ?_
  refine j_lload_n (q := 82) C dX11_done_81 rfl rfl rfl ?_
  refine j_lcmp_ge (q1 := 83) (q := 86) (tgt := 90) C dX11_done_82 dX11_done_83 rfl rfl (by decide) (fun c_83 => ?_) (fun c_83 => ?_)
  · refine j_lconst (v := 0) (q := 91) C dX11_done_90 rfl (by decide) ?_
    exact j_lret C E dX11_done_91 rfl rfl (jR_e (by rw [nDone, if_neg (Int64.not_lt.mpr c_83)]) rfl)
  · refine j_lconst (v := 1) (q := 87) C dX11_done_86 rfl (by decide) ?_
    refine j_goto (tgt := 91) C dX11_done_87 (by decide) ?_
    exact j_lret C E dX11_done_91 rfl rfl (jR_e (by rw [nDone, if_pos (Int64.not_le.mp c_83)]) rfl)

set_option maxRecDepth 100000 in
set_option maxHeartbeats 4000000 in
theorem ctX11_done_3 {G : jG} {sz : Nat} {Sh : jS} {M : jM} {a b : Int64} : jC G yX11_done cX11_done 5 (Option.some FieldType.long) (jrm 1 0 0) sz Sh M [.int (nI 3), .long a, .long b] (jR (some (.long (nDone 3 a b))) sz Sh M) := by
  refine jC_start (by decide +kernel) (Nat.le_of_ble_eq_true rfl) (fun X C E hN0 => ?_)
  refine j_iload_n (q := 1) C dX11_done_0 rfl rfl rfl ?_
  refine j_swIn (tgt := 92) C dX11_done_1 (by decide) (by decide) rfl (by decide) ?_
  refine j_lload_n (q := 93) C dX11_done_92 rfl rfl rfl ?_
  refine j_lload_n (q := 94) C dX11_done_93 rfl rfl rfl ?_
  refine j_lcmp_ne (q1 := 95) (q := 98) (tgt := 102) C dX11_done_94 dX11_done_95 rfl rfl (by decide) (fun c_95 => ?_) (fun c_95 => ?_)
  · refine j_lconst (v := 0) (q := 103) C dX11_done_102 rfl (by decide) ?_
    exact j_lret C E dX11_done_103 rfl rfl (jR_e (by rw [nDone, if_neg c_95]) rfl)
  · refine j_lconst (v := 1) (q := 99) C dX11_done_98 rfl (by decide) ?_
    refine j_goto (tgt := 103) C dX11_done_99 (by decide) ?_
    exact j_lret C E dX11_done_103 rfl rfl (jR_e (by rw [nDone, if_pos c_95]) rfl)

set_option maxRecDepth 100000 in
set_option maxHeartbeats 4000000 in
theorem ctX11_done_4 {G : jG} {sz : Nat} {Sh : jS} {M : jM} {a b : Int64} : jC G yX11_done cX11_done 5 (Option.some FieldType.long) (jrm 1 0 0) sz Sh M [.int (nI 4), .long a, .long b] (jR (some (.long (nDone 4 a b))) sz Sh M) := by
  refine jC_start (by decide +kernel) (Nat.le_of_ble_eq_true rfl) (fun X C E hN0 => ?_)
  refine j_iload_n (q := 1) C dX11_done_0 rfl rfl rfl ?_
  refine j_swIn (tgt := 104) C dX11_done_1 (by decide) (by decide) rfl (by decide) ?_
  refine j_lload_n (q := 105) C dX11_done_104 rfl rfl rfl ?_
  refine j_lload_n (q := 106) C dX11_done_105 rfl rfl rfl ?_
  refine j_ladd (q := 107) C dX11_done_106 rfl ?_
  exact j_lret C E dX11_done_107 rfl rfl (jR_i)

set_option maxRecDepth 100000 in
set_option maxHeartbeats 4000000 in
theorem ctX11_done_5 {G : jG} {sz : Nat} {Sh : jS} {M : jM} {a b : Int64} : jC G yX11_done cX11_done 5 (Option.some FieldType.long) (jrm 1 0 0) sz Sh M [.int (nI 5), .long a, .long b] (jR (some (.long (nDone 5 a b))) sz Sh M) := by
  refine jC_start (by decide +kernel) (Nat.le_of_ble_eq_true rfl) (fun X C E hN0 => ?_)
  refine j_iload_n (q := 1) C dX11_done_0 rfl rfl rfl ?_
  refine j_swIn (tgt := 108) C dX11_done_1 (by decide) (by decide) rfl (by decide) ?_
  refine j_lload_n (q := 109) C dX11_done_108 rfl rfl rfl ?_
  refine j_lload_n (q := 110) C dX11_done_109 rfl rfl rfl ?_
  refine j_lsub (q := 111) C dX11_done_110 rfl ?_
  exact j_lret C E dX11_done_111 rfl rfl (jR_i)

set_option maxRecDepth 100000 in
set_option maxHeartbeats 4000000 in
theorem ctX11_done_6 {G : jG} {sz : Nat} {Sh : jS} {M : jM} {a b : Int64} : jC G yX11_done cX11_done 5 (Option.some FieldType.long) (jrm 1 0 0) sz Sh M [.int (nI 6), .long a, .long b] (jR (some (.long (nDone 6 a b))) sz Sh M) := by
  refine jC_start (by decide +kernel) (Nat.le_of_ble_eq_true rfl) (fun X C E hN0 => ?_)
  refine j_iload_n (q := 1) C dX11_done_0 rfl rfl rfl ?_
  refine j_swIn (tgt := 112) C dX11_done_1 (by decide) (by decide) rfl (by decide) ?_
  refine j_lload_n (q := 113) C dX11_done_112 rfl rfl rfl ?_
  refine j_lload_n (q := 114) C dX11_done_113 rfl rfl rfl ?_
  refine j_lmul (q := 115) C dX11_done_114 rfl ?_
  exact j_lret C E dX11_done_115 rfl rfl (jR_i)

set_option maxRecDepth 100000 in
set_option maxHeartbeats 4000000 in
theorem ctX11_done_7 {G : jG} {sz : Nat} {Sh : jS} {M : jM} {a b : Int64} : jC G yX11_done cX11_done 5 (Option.some FieldType.long) (jrm 1 0 0) sz Sh M [.int (nI 7), .long a, .long b] (jR (some (.long (nDone 7 a b))) sz Sh M) := by
  refine jC_start (by decide +kernel) (Nat.le_of_ble_eq_true rfl) (fun X C E hN0 => ?_)
  refine j_iload_n (q := 1) C dX11_done_0 rfl rfl rfl ?_
  refine j_swOut (tgt := 116) C dX11_done_1 (by decide) (by decide) ?_
  refine j_lload_n (q := 117) C dX11_done_116 rfl rfl rfl ?_
  refine j_lconst (v := 0) (q := 118) C dX11_done_117 rfl (by decide) ?_
  refine j_lcmp_ne (q1 := 119) (q := 122) (tgt := 126) C dX11_done_118 dX11_done_119 rfl rfl (by decide) (fun c_119 => ?_) (fun c_119 => ?_)
  · refine j_lload_n (q := 127) C dX11_done_126 rfl rfl rfl ?_
    refine j_lload_n (q := 128) C dX11_done_127 rfl rfl rfl ?_
    refine j_ldiv (q := 129) C dX11_done_128 rfl c_119 ?_
    exact j_lret C E dX11_done_129 rfl rfl (jR_e (show _ = some (Value.long (if b = 0 then 0 else a / b)) by rw [if_neg c_119]) rfl)
  · refine j_lconst (v := 0) (q := 123) C dX11_done_122 rfl (by decide) ?_
    refine j_goto (tgt := 129) C dX11_done_123 (by decide) ?_
    exact j_lret C E dX11_done_129 rfl rfl (jR_e (show _ = some (Value.long (if b = 0 then 0 else a / b)) by rw [if_pos c_119]) rfl)

theorem ctX11_done {G : jG} {sz : Nat} {Sh : jS} {M : jM} {w : Nat} {a b : Int64} (hw : w ≤ 7) : jC G yX11_done cX11_done 5 (Option.some FieldType.long) (jrm 1 0 0) sz Sh M [.int (nI w), .long a, .long b] (jR (some (.long (nDone w a b))) sz Sh M) := by
  rcases (show w = 0 ∨ w = 1 ∨ w = 2 ∨ w = 3 ∨ w = 4 ∨ w = 5 ∨ w = 6 ∨ w = 7 by omega) with rfl | rfl | rfl | rfl | rfl | rfl | rfl | rfl
  · exact ctX11_done_0
  · exact ctX11_done_1
  · exact ctX11_done_2
  · exact ctX11_done_3
  · exact ctX11_done_4
  · exact ctX11_done_5
  · exact ctX11_done_6
  · exact ctX11_done_7
/-- 'now' as settles() and pays() leave it -/
def nPays (N : Nat → Int64) (j b t : Nat) (v : Int64) : Nat → Int64 := nGets (va_up N (10 + 10 * b + 0) (N (10 + 10 * b + 0) - v)) (10 + 10 * t + 0) v
def nSett (N : Nat → Int64) (d j s b t : Nat) (v : Int64) : Nat → Int64 := let N1 := va_up N (110 + 7 * j + 6) 1
  if N (110 + 7 * j + 0) = 1 ∨ N (110 + 7 * j + 0) = 2 then
    let g := N1 (110 + 7 * j + 3) / N1 (310 + s) - v / N1 (310 + d)
    let N2 := va_up N1 (10 + 10 * b + 8) (N1 (10 + 10 * b + 8) + g)
    va_up N2 (10 + 10 * t + 9) (N2 (10 + 10 * t + 9) + g)
  else N1
set_option maxRecDepth 100000 in
set_option maxHeartbeats 4000000 in
theorem ctX11_pays {G : jG} {sz : Nat} {Sh : jS} {M : jM} {o : Nat} {N : Nat → Int64} (hR : rLay o Sh M) {j b t : Nat} (hj : j < 24) (hb : N (110 + 7 * j + 1) = lN b) (hb1 : b < 10) (ht : N (110 + 7 * j + 2) = lN t) (ht1 : t < 10) {v : Int64} : jC G yX11_pays cX11_pays 4 (Option.none : Option FieldType) (jrm 2 0 0) sz Sh (jw M (o + 1) N) [.ref o, .int (nI j), .long v] (jR none sz Sh (jw M (o + 1) (nPays N j b t v))) := by
  refine jC_start (by decide +kernel) (Nat.le_of_ble_eq_true rfl) (fun X C E hN0 => ?_)
  refine j_aload_n (q := 1) C dX11_pays_0 rfl rfl rfl ?_
  refine jg_Model_now (q := 4) C dX11_pays_1 rfl hR.1.1 kw_869 hR.2.1 ?_
  refine j_aload_n (q := 5) C dX11_pays_4 rfl rfl rfl ?_
  refine jg_Model_now (q := 8) C dX11_pays_5 rfl hR.1.1 kw_869 hR.2.1 ?_
  refine j_iload_n (q := 9) C dX11_pays_8 rfl rfl rfl ?_
  refine j_iconst (v := nI 1) (q := 10) C dX11_pays_9 rfl (by decide) ?_
  refine jS1 (q := 13) C dX11_pays_10 rfl mX11_ofPaper kw_937 kw_938 (ctX11_ofPaper) rfl rfl (by decide) (Nat.le_of_ble_eq_true rfl) (by decide) ?_
  refine j_laldW (q := 14) C dX11_pays_13 rfl hR.1.2.1 (by omega) (by decide) ?_
  rw [hb]
  first | refine j_l2iN (q := 15) C dX11_pays_14 rfl ?_ | refine j_l2i (q := 15) C dX11_pays_14 rfl rfl ?_
  refine j_iconst (v := nI 0) (q := 16) C dX11_pays_15 rfl (by decide) ?_
  refine jS1 (q := 19) C dX11_pays_16 rfl mX11_of kw_908 kw_909 (ctX11_of) rfl rfl (by decide) (Nat.le_of_ble_eq_true rfl) (by decide) ?_
  refine j_dup2_11 (q := 20) C dX11_pays_19 rfl rfl rfl ?_
  refine j_laldW (q := 21) C dX11_pays_20 rfl hR.1.2.1 (by omega) (by decide) ?_
  refine j_lload_n (q := 22) C dX11_pays_21 rfl rfl rfl ?_
  refine j_lsub (q := 23) C dX11_pays_22 rfl ?_
  refine j_lastW (q := 24) C dX11_pays_23 rfl hR.1.2.1 (by omega) (by decide) ?_
  refine j_aload_n (q := 25) C dX11_pays_24 rfl rfl rfl ?_
  refine j_aload_n (q := 26) C dX11_pays_25 rfl rfl rfl ?_
  refine jg_Model_now (q := 29) C dX11_pays_26 rfl hR.1.1 kw_869 hR.2.1 ?_
  refine j_iload_n (q := 30) C dX11_pays_29 rfl rfl rfl ?_
  refine j_iconst (v := nI 2) (q := 31) C dX11_pays_30 rfl (by decide) ?_
  refine jS1 (q := 34) C dX11_pays_31 rfl mX11_ofPaper kw_937 kw_938 (ctX11_ofPaper) rfl rfl (by decide) (Nat.le_of_ble_eq_true rfl) (by decide) ?_
  refine j_laldW (q := 35) C dX11_pays_34 rfl hR.1.2.1 (by omega) (by decide) ?_
  rw [va_up_ne _ _ (by omega), ht]
  first | refine j_l2iN (q := 36) C dX11_pays_35 rfl ?_ | refine j_l2i (q := 36) C dX11_pays_35 rfl rfl ?_
  refine j_iconst (v := nI 0) (q := 37) C dX11_pays_36 rfl (by decide) ?_
  refine jS1 (q := 40) C dX11_pays_37 rfl mX11_of kw_908 kw_909 (ctX11_of) rfl rfl (by decide) (Nat.le_of_ble_eq_true rfl) (by decide) ?_
  refine j_lload_n (q := 41) C dX11_pays_40 rfl rfl rfl ?_
  refine jV0 jc11 (q := 44) C dX11_pays_41 rfl hR.1.1 mX11_gets kw_1000 kw_1001 kw_39 (ctX11_gets hR (by omega)) rfl rfl (by decide) (Nat.le_of_ble_eq_true rfl) (by decide) ?_
  exact j_vret C E dX11_pays_44 rfl rfl (jR_i)

set_option maxRecDepth 100000 in
set_option maxHeartbeats 4000000 in
theorem ctX11_settles {G : jG} {sz : Nat} {Sh : jS} {M : jM} {o : Nat} {N : Nat → Int64} (hR : rLay o Sh M) {d : Nat} (hd : N 0 = lN d) (hd3 : d ≤ 300) {j b t : Nat} (hj : j < 24) (hb : N (110 + 7 * j + 1) = lN b) (hb1 : b < 10) (ht : N (110 + 7 * j + 2) = lN t) (ht1 : t < 10) {s : Nat} (hs : N (110 + 7 * j + 4) = lN s) (hs1 : s ≤ 300) (hps : ¬ N (310 + s) = 0) (hpd : ¬ N (310 + d) = 0) {v : Int64} : jC G yX11_settles cX11_settles 8 (Option.none : Option FieldType) (jrm 2 0 0) sz Sh (jw M (o + 1) N) [.ref o, .int (nI j), .long v] (jR none sz Sh (jw M (o + 1) (nSett N d j s b t v))) := by
  refine jC_start (by decide +kernel) (Nat.le_of_ble_eq_true rfl) (fun X C E hN0 => ?_)
  refine j_aload_n (q := 1) C dX11_settles_0 rfl rfl rfl ?_
  refine jg_Model_now (q := 4) C dX11_settles_1 rfl hR.1.1 kw_869 hR.2.1 ?_
  refine j_iload_n (q := 5) C dX11_settles_4 rfl rfl rfl ?_
  refine j_iconst (v := nI 0) (q := 6) C dX11_settles_5 rfl (by decide) ?_
  refine jS1 (q := 9) C dX11_settles_6 rfl mX11_ofPaper kw_937 kw_938 (ctX11_ofPaper) rfl rfl (by decide) (Nat.le_of_ble_eq_true rfl) (by decide) ?_
  refine j_laldW (q := 10) C dX11_settles_9 rfl hR.1.2.1 (by omega) (by decide) ?_
  refine j_lstore (lv' := [(4, _), (0, _), (1, _), (2, _)]) (q := 12) C dX11_settles_10 rfl (by decide) rfl ?_
  refine j_aload_n (q := 13) C dX11_settles_12 rfl rfl rfl ?_
  refine jg_Model_now (q := 16) C dX11_settles_13 rfl hR.1.1 kw_869 hR.2.1 ?_
  refine j_iload_n (q := 17) C dX11_settles_16 rfl rfl rfl ?_
  refine j_bipush (v := nI 6) (q := 19) C dX11_settles_17 rfl (by decide) ?_
  refine jS1 (q := 22) C dX11_settles_19 rfl mX11_ofPaper kw_937 kw_938 (ctX11_ofPaper) rfl rfl (by decide) (Nat.le_of_ble_eq_true rfl) (by decide) ?_
  refine j_lconst (v := 1) (q := 23) C dX11_settles_22 rfl (by decide) ?_
  refine j_lastW (q := 24) C dX11_settles_23 rfl hR.1.2.1 (by omega) (by decide) ?_
  refine j_lload (q := 26) C dX11_settles_24 rfl rfl ?_
  refine j_lconst (v := 1) (q := 27) C dX11_settles_26 rfl (by decide) ?_
  refine j_lcmp_eq (q1 := 28) (q := 31) (tgt := 40) C dX11_settles_27 dX11_settles_28 rfl rfl (by decide) (fun c_28 => ?_) (fun c_28 => ?_)
  · refine j_aload_n (q := 41) C dX11_settles_40 rfl rfl rfl ?_
    refine jg_Model_now (q := 44) C dX11_settles_41 rfl hR.1.1 kw_869 hR.2.1 ?_
    refine j_iload_n (q := 45) C dX11_settles_44 rfl rfl rfl ?_
    refine j_iconst (v := nI 3) (q := 46) C dX11_settles_45 rfl (by decide) ?_
    refine jS1 (q := 49) C dX11_settles_46 rfl mX11_ofPaper kw_937 kw_938 (ctX11_ofPaper) rfl rfl (by decide) (Nat.le_of_ble_eq_true rfl) (by decide) ?_
    refine j_laldW (q := 50) C dX11_settles_49 rfl hR.1.2.1 (by omega) (by decide) ?_
    refine j_aload_n (q := 51) C dX11_settles_50 rfl rfl rfl ?_
    refine j_aload_n (q := 52) C dX11_settles_51 rfl rfl rfl ?_
    refine jg_Model_now (q := 55) C dX11_settles_52 rfl hR.1.1 kw_869 hR.2.1 ?_
    refine j_iload_n (q := 56) C dX11_settles_55 rfl rfl rfl ?_
    refine j_iconst (v := nI 4) (q := 57) C dX11_settles_56 rfl (by decide) ?_
    refine jS1 (q := 60) C dX11_settles_57 rfl mX11_ofPaper kw_937 kw_938 (ctX11_ofPaper) rfl rfl (by decide) (Nat.le_of_ble_eq_true rfl) (by decide) ?_
    refine j_laldW (q := 61) C dX11_settles_60 rfl hR.1.2.1 (by omega) (by decide) ?_
    refine j_top (v' := .long (lN s)) (by rw [va_up_ne _ _ (by omega), hs]) ?_
    first | refine j_l2iN (q := 62) C dX11_settles_61 rfl ?_ | refine j_l2i (q := 62) C dX11_settles_61 rfl rfl ?_
    refine jV1 jc11 (q := 65) C dX11_settles_62 rfl hR.1.1 mX11_priceOf kw_968 kw_969 kw_34 (ctX11_priceOf hR (by omega)) rfl rfl (by decide) (Nat.le_of_ble_eq_true rfl) (by decide) ?_
    refine j_ldiv (q := 66) C dX11_settles_65 rfl (by rw [va_up_ne _ _ (by omega)]; exact hps) ?_
    refine j_lload_n (q := 67) C dX11_settles_66 rfl rfl rfl ?_
    refine j_aload_n (q := 68) C dX11_settles_67 rfl rfl rfl ?_
    refine j_aload_n (q := 69) C dX11_settles_68 rfl rfl rfl ?_
    refine jV1 jc11 (q := 72) C dX11_settles_69 rfl hR.1.1 mX11_today kw_965 kw_966 kw_33 (ctX11_today hR (by rw [va_up_ne _ _ (by omega)]; exact hd)) rfl rfl (by decide) (Nat.le_of_ble_eq_true rfl) (by decide) ?_
    refine jV1 jc11 (q := 75) C dX11_settles_72 rfl hR.1.1 mX11_priceOf kw_968 kw_969 kw_34 (ctX11_priceOf hR (by omega)) rfl rfl (by decide) (Nat.le_of_ble_eq_true rfl) (by decide) ?_
    refine j_ldiv (q := 76) C dX11_settles_75 rfl (by rw [va_up_ne _ _ (by omega)]; exact hpd) ?_
    refine j_lsub (q := 77) C dX11_settles_76 rfl ?_
    refine j_lstore (lv' := [(6, _), (4, _), (0, _), (1, _), (2, _)]) (q := 79) C dX11_settles_77 rfl (by decide) rfl ?_
    refine j_aload_n (q := 80) C dX11_settles_79 rfl rfl rfl ?_
    refine jg_Model_now (q := 83) C dX11_settles_80 rfl hR.1.1 kw_869 hR.2.1 ?_
    refine j_aload_n (q := 84) C dX11_settles_83 rfl rfl rfl ?_
    refine jg_Model_now (q := 87) C dX11_settles_84 rfl hR.1.1 kw_869 hR.2.1 ?_
    refine j_iload_n (q := 88) C dX11_settles_87 rfl rfl rfl ?_
    refine j_iconst (v := nI 1) (q := 89) C dX11_settles_88 rfl (by decide) ?_
    refine jS1 (q := 92) C dX11_settles_89 rfl mX11_ofPaper kw_937 kw_938 (ctX11_ofPaper) rfl rfl (by decide) (Nat.le_of_ble_eq_true rfl) (by decide) ?_
    refine j_laldW (q := 93) C dX11_settles_92 rfl hR.1.2.1 (by omega) (by decide) ?_
    refine j_top (v' := .long (lN b)) (by rw [va_up_ne _ _ (by omega), hb]) ?_
    first | refine j_l2iN (q := 94) C dX11_settles_93 rfl ?_ | refine j_l2i (q := 94) C dX11_settles_93 rfl rfl ?_
    refine j_bipush (v := nI 8) (q := 96) C dX11_settles_94 rfl (by decide) ?_
    refine jS1 (q := 99) C dX11_settles_96 rfl mX11_of kw_908 kw_909 (ctX11_of) rfl rfl (by decide) (Nat.le_of_ble_eq_true rfl) (by decide) ?_
    refine j_dup2_11 (q := 100) C dX11_settles_99 rfl rfl rfl ?_
    refine j_laldW (q := 101) C dX11_settles_100 rfl hR.1.2.1 (by omega) (by decide) ?_
    refine j_lload (q := 103) C dX11_settles_101 rfl rfl ?_
    refine j_ladd (q := 104) C dX11_settles_103 rfl ?_
    refine j_lastW (q := 105) C dX11_settles_104 rfl hR.1.2.1 (by omega) (by decide) ?_
    refine j_aload_n (q := 106) C dX11_settles_105 rfl rfl rfl ?_
    refine jg_Model_now (q := 109) C dX11_settles_106 rfl hR.1.1 kw_869 hR.2.1 ?_
    refine j_aload_n (q := 110) C dX11_settles_109 rfl rfl rfl ?_
    refine jg_Model_now (q := 113) C dX11_settles_110 rfl hR.1.1 kw_869 hR.2.1 ?_
    refine j_iload_n (q := 114) C dX11_settles_113 rfl rfl rfl ?_
    refine j_iconst (v := nI 2) (q := 115) C dX11_settles_114 rfl (by decide) ?_
    refine jS1 (q := 118) C dX11_settles_115 rfl mX11_ofPaper kw_937 kw_938 (ctX11_ofPaper) rfl rfl (by decide) (Nat.le_of_ble_eq_true rfl) (by decide) ?_
    refine j_laldW (q := 119) C dX11_settles_118 rfl hR.1.2.1 (by omega) (by decide) ?_
    refine j_top (v' := .long (lN t)) (by rw [va_up_ne _ _ (by omega), va_up_ne _ _ (by omega), ht]) ?_
    first | refine j_l2iN (q := 120) C dX11_settles_119 rfl ?_ | refine j_l2i (q := 120) C dX11_settles_119 rfl rfl ?_
    refine j_bipush (v := nI 9) (q := 122) C dX11_settles_120 rfl (by decide) ?_
    refine jS1 (q := 125) C dX11_settles_122 rfl mX11_of kw_908 kw_909 (ctX11_of) rfl rfl (by decide) (Nat.le_of_ble_eq_true rfl) (by decide) ?_
    refine j_dup2_11 (q := 126) C dX11_settles_125 rfl rfl rfl ?_
    refine j_laldW (q := 127) C dX11_settles_126 rfl hR.1.2.1 (by omega) (by decide) ?_
    refine j_lload (q := 129) C dX11_settles_127 rfl rfl ?_
    refine j_ladd (q := 130) C dX11_settles_129 rfl ?_
    refine j_lastW (q := 131) C dX11_settles_130 rfl hR.1.2.1 (by omega) (by decide) ?_
    exact j_vret C E dX11_settles_131 rfl rfl (jR_e rfl (congrArg (jw M (o + 1)) (if_pos (Or.inl c_28)).symm))
  · refine j_lload (q := 33) C dX11_settles_31 rfl rfl ?_
    refine j_ldc2 (q := 36) C dX11_settles_33 rfl kw_920 ?_
    refine j_lcmp_ne (q1 := 37) (q := 40) (tgt := 131) C dX11_settles_36 dX11_settles_37 rfl rfl (by decide) (fun c_37 => ?_) (fun c_37 => ?_)
    · exact j_vret C E dX11_settles_131 rfl rfl (jR_e rfl (congrArg (jw M (o + 1)) (if_neg (fun h => h.elim c_28 c_37)).symm))
    · refine j_aload_n (q := 41) C dX11_settles_40 rfl rfl rfl ?_
      refine jg_Model_now (q := 44) C dX11_settles_41 rfl hR.1.1 kw_869 hR.2.1 ?_
      refine j_iload_n (q := 45) C dX11_settles_44 rfl rfl rfl ?_
      refine j_iconst (v := nI 3) (q := 46) C dX11_settles_45 rfl (by decide) ?_
      refine jS1 (q := 49) C dX11_settles_46 rfl mX11_ofPaper kw_937 kw_938 (ctX11_ofPaper) rfl rfl (by decide) (Nat.le_of_ble_eq_true rfl) (by decide) ?_
      refine j_laldW (q := 50) C dX11_settles_49 rfl hR.1.2.1 (by omega) (by decide) ?_
      refine j_aload_n (q := 51) C dX11_settles_50 rfl rfl rfl ?_
      refine j_aload_n (q := 52) C dX11_settles_51 rfl rfl rfl ?_
      refine jg_Model_now (q := 55) C dX11_settles_52 rfl hR.1.1 kw_869 hR.2.1 ?_
      refine j_iload_n (q := 56) C dX11_settles_55 rfl rfl rfl ?_
      refine j_iconst (v := nI 4) (q := 57) C dX11_settles_56 rfl (by decide) ?_
      refine jS1 (q := 60) C dX11_settles_57 rfl mX11_ofPaper kw_937 kw_938 (ctX11_ofPaper) rfl rfl (by decide) (Nat.le_of_ble_eq_true rfl) (by decide) ?_
      refine j_laldW (q := 61) C dX11_settles_60 rfl hR.1.2.1 (by omega) (by decide) ?_
      refine j_top (v' := .long (lN s)) (by rw [va_up_ne _ _ (by omega), hs]) ?_
      first | refine j_l2iN (q := 62) C dX11_settles_61 rfl ?_ | refine j_l2i (q := 62) C dX11_settles_61 rfl rfl ?_
      refine jV1 jc11 (q := 65) C dX11_settles_62 rfl hR.1.1 mX11_priceOf kw_968 kw_969 kw_34 (ctX11_priceOf hR (by omega)) rfl rfl (by decide) (Nat.le_of_ble_eq_true rfl) (by decide) ?_
      refine j_ldiv (q := 66) C dX11_settles_65 rfl (by rw [va_up_ne _ _ (by omega)]; exact hps) ?_
      refine j_lload_n (q := 67) C dX11_settles_66 rfl rfl rfl ?_
      refine j_aload_n (q := 68) C dX11_settles_67 rfl rfl rfl ?_
      refine j_aload_n (q := 69) C dX11_settles_68 rfl rfl rfl ?_
      refine jV1 jc11 (q := 72) C dX11_settles_69 rfl hR.1.1 mX11_today kw_965 kw_966 kw_33 (ctX11_today hR (by rw [va_up_ne _ _ (by omega)]; exact hd)) rfl rfl (by decide) (Nat.le_of_ble_eq_true rfl) (by decide) ?_
      refine jV1 jc11 (q := 75) C dX11_settles_72 rfl hR.1.1 mX11_priceOf kw_968 kw_969 kw_34 (ctX11_priceOf hR (by omega)) rfl rfl (by decide) (Nat.le_of_ble_eq_true rfl) (by decide) ?_
      refine j_ldiv (q := 76) C dX11_settles_75 rfl (by rw [va_up_ne _ _ (by omega)]; exact hpd) ?_
      refine j_lsub (q := 77) C dX11_settles_76 rfl ?_
      refine j_lstore (lv' := [(6, _), (4, _), (0, _), (1, _), (2, _)]) (q := 79) C dX11_settles_77 rfl (by decide) rfl ?_
      refine j_aload_n (q := 80) C dX11_settles_79 rfl rfl rfl ?_
      refine jg_Model_now (q := 83) C dX11_settles_80 rfl hR.1.1 kw_869 hR.2.1 ?_
      refine j_aload_n (q := 84) C dX11_settles_83 rfl rfl rfl ?_
      refine jg_Model_now (q := 87) C dX11_settles_84 rfl hR.1.1 kw_869 hR.2.1 ?_
      refine j_iload_n (q := 88) C dX11_settles_87 rfl rfl rfl ?_
      refine j_iconst (v := nI 1) (q := 89) C dX11_settles_88 rfl (by decide) ?_
      refine jS1 (q := 92) C dX11_settles_89 rfl mX11_ofPaper kw_937 kw_938 (ctX11_ofPaper) rfl rfl (by decide) (Nat.le_of_ble_eq_true rfl) (by decide) ?_
      refine j_laldW (q := 93) C dX11_settles_92 rfl hR.1.2.1 (by omega) (by decide) ?_
      refine j_top (v' := .long (lN b)) (by rw [va_up_ne _ _ (by omega), hb]) ?_
      first | refine j_l2iN (q := 94) C dX11_settles_93 rfl ?_ | refine j_l2i (q := 94) C dX11_settles_93 rfl rfl ?_
      refine j_bipush (v := nI 8) (q := 96) C dX11_settles_94 rfl (by decide) ?_
      refine jS1 (q := 99) C dX11_settles_96 rfl mX11_of kw_908 kw_909 (ctX11_of) rfl rfl (by decide) (Nat.le_of_ble_eq_true rfl) (by decide) ?_
      refine j_dup2_11 (q := 100) C dX11_settles_99 rfl rfl rfl ?_
      refine j_laldW (q := 101) C dX11_settles_100 rfl hR.1.2.1 (by omega) (by decide) ?_
      refine j_lload (q := 103) C dX11_settles_101 rfl rfl ?_
      refine j_ladd (q := 104) C dX11_settles_103 rfl ?_
      refine j_lastW (q := 105) C dX11_settles_104 rfl hR.1.2.1 (by omega) (by decide) ?_
      refine j_aload_n (q := 106) C dX11_settles_105 rfl rfl rfl ?_
      refine jg_Model_now (q := 109) C dX11_settles_106 rfl hR.1.1 kw_869 hR.2.1 ?_
      refine j_aload_n (q := 110) C dX11_settles_109 rfl rfl rfl ?_
      refine jg_Model_now (q := 113) C dX11_settles_110 rfl hR.1.1 kw_869 hR.2.1 ?_
      refine j_iload_n (q := 114) C dX11_settles_113 rfl rfl rfl ?_
      refine j_iconst (v := nI 2) (q := 115) C dX11_settles_114 rfl (by decide) ?_
      refine jS1 (q := 118) C dX11_settles_115 rfl mX11_ofPaper kw_937 kw_938 (ctX11_ofPaper) rfl rfl (by decide) (Nat.le_of_ble_eq_true rfl) (by decide) ?_
      refine j_laldW (q := 119) C dX11_settles_118 rfl hR.1.2.1 (by omega) (by decide) ?_
      refine j_top (v' := .long (lN t)) (by rw [va_up_ne _ _ (by omega), va_up_ne _ _ (by omega), ht]) ?_
      first | refine j_l2iN (q := 120) C dX11_settles_119 rfl ?_ | refine j_l2i (q := 120) C dX11_settles_119 rfl rfl ?_
      refine j_bipush (v := nI 9) (q := 122) C dX11_settles_120 rfl (by decide) ?_
      refine jS1 (q := 125) C dX11_settles_122 rfl mX11_of kw_908 kw_909 (ctX11_of) rfl rfl (by decide) (Nat.le_of_ble_eq_true rfl) (by decide) ?_
      refine j_dup2_11 (q := 126) C dX11_settles_125 rfl rfl rfl ?_
      refine j_laldW (q := 127) C dX11_settles_126 rfl hR.1.2.1 (by omega) (by decide) ?_
      refine j_lload (q := 129) C dX11_settles_127 rfl rfl ?_
      refine j_ladd (q := 130) C dX11_settles_129 rfl ?_
      refine j_lastW (q := 131) C dX11_settles_130 rfl hR.1.2.1 (by omega) (by decide) ?_
      exact j_vret C E dX11_settles_131 rfl rfl (jR_e rfl (congrArg (jw M (o + 1)) (if_pos (Or.inr c_37)).symm))

