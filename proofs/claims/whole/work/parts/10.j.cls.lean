set_option maxRecDepth 100000 in
set_option maxHeartbeats 4000000 in
theorem ctX10_within {G : jG} {sz : Nat} {Sh : jS} {M : jM} {v lo hi : Int64} : jC G yX10_within cX10_within 6 (Option.some FieldType.boolean) (jrm 1 0 0) sz Sh M [.long v, .long lo, .long hi] (jR (some (.int (jb (lo ≤ v ∧ v ≤ hi)))) sz Sh M) := by
  refine jC_start (by decide +kernel) (Nat.le_of_ble_eq_true rfl) (fun X C E hN0 => ?_)
  refine j_lload_n (q := 1) C dX10_within_0 rfl rfl rfl ?_
  refine j_lload_n (q := 2) C dX10_within_1 rfl rfl rfl ?_
  refine j_lcmp_lt (q1 := 3) (q := 6) (tgt := 17) C dX10_within_2 dX10_within_3 rfl rfl (by decide) (fun c_3 => ?_) (fun c_3 => ?_)
  · refine j_iconst (v := nI 0) (q := 18) C dX10_within_17 rfl (by decide) ?_
    exact j_zret C E dX10_within_18 (by first | rfl | exact jb_nar) rfl rfl (jR_e (congrArg (fun z => some (Value.int z)) (jb_f (fun h => absurd h.1 (Int64.not_le.mpr c_3))).symm) rfl)
  · refine j_lload_n (q := 7) C dX10_within_6 rfl rfl rfl ?_
    refine j_lload (q := 9) C dX10_within_7 rfl rfl ?_
    refine j_lcmp_gt (q1 := 10) (q := 13) (tgt := 17) C dX10_within_9 dX10_within_10 rfl rfl (by decide) (fun c_10 => ?_) (fun c_10 => ?_)
    · refine j_iconst (v := nI 0) (q := 18) C dX10_within_17 rfl (by decide) ?_
      exact j_zret C E dX10_within_18 (by first | rfl | exact jb_nar) rfl rfl (jR_e (congrArg (fun z => some (Value.int z)) (jb_f (fun h => absurd h.2 (Int64.not_le.mpr c_10))).symm) rfl)
    · refine j_iconst (v := nI 1) (q := 14) C dX10_within_13 rfl (by decide) ?_
      refine j_goto (tgt := 18) C dX10_within_14 (by decide) ?_
      exact j_zret C E dX10_within_18 (by first | rfl | exact jb_nar) rfl rfl (jR_e (congrArg (fun z => some (Value.int z)) (jb_t ⟨Int64.not_lt.mp c_3, Int64.not_lt.mp c_10⟩).symm) rfl)

set_option maxRecDepth 100000 in
set_option maxHeartbeats 4000000 in
theorem ctX10_isCourt {G : jG} {sz : Nat} {Sh : jS} {M : jM} {v : Int32} : jC G yX10_isCourt cX10_isCourt 1 (Option.some FieldType.boolean) (jrm 2 0 0) sz Sh M [.int v] (jR (some (.int (jb (okW v 1)))) sz Sh M) := by
  refine jC_start (by decide +kernel) (Nat.le_of_ble_eq_true rfl) (fun X C E hN0 => ?_)
  refine j_iload_n (q := 1) C dX10_isCourt_0 rfl rfl rfl ?_
  first | refine j_i2lN (q := 2) C dX10_isCourt_1 rfl (by omega) ?_ | refine j_i2l (q := 2) C dX10_isCourt_1 rfl rfl ?_
  refine j_lconst (v := 0) (q := 3) C dX10_isCourt_2 rfl (by decide) ?_
  refine j_lconst (v := 1) (q := 4) C dX10_isCourt_3 rfl (by decide) ?_
  refine jS1 (q := 7) C dX10_isCourt_4 rfl mX10_within kw_278 kw_279 ctX10_within rfl rfl (by decide) (Nat.le_of_ble_eq_true rfl) (by decide) ?_
  exact j_zret C E dX10_isCourt_7 (by first | rfl | exact jb_nar) rfl rfl (jR_i)

set_option maxRecDepth 100000 in
set_option maxHeartbeats 4000000 in
theorem ctX10_isSheet {G : jG} {sz : Nat} {Sh : jS} {M : jM} {v : Int32} : jC G yX10_isSheet cX10_isSheet 1 (Option.some FieldType.boolean) (jrm 2 0 0) sz Sh M [.int v] (jR (some (.int (jb (okW v 3)))) sz Sh M) := by
  refine jC_start (by decide +kernel) (Nat.le_of_ble_eq_true rfl) (fun X C E hN0 => ?_)
  refine j_iload_n (q := 1) C dX10_isSheet_0 rfl rfl rfl ?_
  first | refine j_i2lN (q := 2) C dX10_isSheet_1 rfl (by omega) ?_ | refine j_i2l (q := 2) C dX10_isSheet_1 rfl rfl ?_
  refine j_lconst (v := 0) (q := 3) C dX10_isSheet_2 rfl (by decide) ?_
  refine j_ldc2 (q := 6) C dX10_isSheet_3 rfl kw_777 ?_
  refine jS1 (q := 9) C dX10_isSheet_6 rfl mX10_within kw_278 kw_279 ctX10_within rfl rfl (by decide) (Nat.le_of_ble_eq_true rfl) (by decide) ?_
  exact j_zret C E dX10_isSheet_9 (by first | rfl | exact jb_nar) rfl rfl (jR_i)

set_option maxRecDepth 100000 in
set_option maxHeartbeats 4000000 in
theorem ctX10_mostOfHabit {G : jG} {sz : Nat} {Sh : jS} {M : jM} {v : Int32} : jC G yX10_mostOfHabit cX10_mostOfHabit 1 (Option.some FieldType.int) (jrm 1 0 0) sz Sh M [.int v] (jR (some (.int (if v = 0 then nI 10 else if v = nI 1 then nI 1000 else nI 99))) sz Sh M) := by
  refine jC_start (by decide +kernel) (Nat.le_of_ble_eq_true rfl) (fun X C E hN0 => ?_)
  refine j_iload_n (q := 1) C dX10_mostOfHabit_0 rfl rfl rfl ?_
  refine j_if_ne (q := 4) (tgt := 7) C dX10_mostOfHabit_1 rfl (by decide) (fun c_1 => ?_) (fun c_1 => ?_)
  · refine j_iload_n (q := 8) C dX10_mostOfHabit_7 rfl rfl rfl ?_
    refine j_iconst (v := nI 1) (q := 9) C dX10_mostOfHabit_8 rfl (by decide) ?_
    refine j_icmp_ne (q := 12) (tgt := 18) C dX10_mostOfHabit_9 rfl (by decide) (fun c_9 => ?_) (fun c_9 => ?_)
    · refine j_bipush (v := nI 99) (q := 20) C dX10_mostOfHabit_18 rfl (by decide) ?_
      exact j_iret C E dX10_mostOfHabit_20 rfl rfl (jR_e (congrArg (fun z => some (Value.int z)) (by rw [if_neg c_1, if_neg c_9])) rfl)
    · refine j_sipush (v := nI 1000) (q := 15) C dX10_mostOfHabit_12 rfl (by decide) ?_
      refine j_goto (tgt := 20) C dX10_mostOfHabit_15 (by decide) ?_
      exact j_iret C E dX10_mostOfHabit_20 rfl rfl (jR_e (congrArg (fun z => some (Value.int z)) (by rw [if_neg c_1, if_pos c_9])) rfl)
  · refine j_bipush (v := nI 10) (q := 6) C dX10_mostOfHabit_4 rfl (by decide) ?_
    exact j_iret C E dX10_mostOfHabit_6 rfl rfl (jR_e (congrArg (fun z => some (Value.int z)) (if_pos c_1).symm) rfl)

set_option maxRecDepth 100000 in
set_option maxHeartbeats 4000000 in
theorem ctX10_found {G : jG} {sz : Nat} {Sh : jS} {M : jM} {mm : Nat} (hs : (Sh mm).1 = 10) {v : Int64} : jC G yX10_found cX10_found 3 (Option.some FieldType.long) (jrm 1 0 0) sz Sh M [.ref mm, .long v] (jR (some (.long v)) sz Sh (jsL M mm 6 (M.2.1 mm 6 + 1))) := by
  refine jC_start (by decide +kernel) (Nat.le_of_ble_eq_true rfl) (fun X C E hN0 => ?_)
  refine j_aload_n (q := 1) C dX10_found_0 rfl rfl rfl ?_
  refine j_dup (q := 2) C dX10_found_1 rfl rfl ?_
  refine jg_MM_findings (q := 5) C dX10_found_2 rfl hs kw_272 ?_
  refine j_lconst (v := 1) (q := 6) C dX10_found_5 rfl (by decide) ?_
  refine j_ladd (q := 7) C dX10_found_6 rfl ?_
  refine jp_MM_findings (q := 10) C dX10_found_7 rfl hs kw_272 ?_
  refine j_lload_n (q := 11) C dX10_found_10 rfl rfl rfl ?_
  exact j_lret C E dX10_found_11 rfl rfl (jR_i)

set_option maxRecDepth 100000 in
set_option maxHeartbeats 4000000 in
theorem ctX6_tell {G : jG} {sz : Nat} {Sh : jS} {M : jM} {a k : Nat} (hs : (Sh a).1 = 6) (hk : k < 8) : jC G yX6_tell cX6_tell 2 (Option.some FieldType.long) (jrm 1 0 0) sz Sh M [.ref a, .int (nI k)] (jR (some (.long (if 1 ≤ k ∧ k ≤ 5 then (M.1 a k).toInt64 else M.2.1 a k))) sz Sh M) := by
  refine jC_start (by decide +kernel) (Nat.le_of_ble_eq_true rfl) (fun X C E hN0 => ?_)
  refine j_iload_n (q := 1) C dX6_tell_0 rfl rfl rfl ?_
  rcases (show k = 0 ∨ k = 1 ∨ k = 2 ∨ k = 3 ∨ k = 4 ∨ k = 5 ∨ k = 6 ∨ k = 7 by omega) with rfl | rfl | rfl | rfl | rfl | rfl | rfl | rfl
  · refine j_swIn (tgt := 44) C dX6_tell_1 (by decide) (by decide) rfl (by decide) ?_
    refine j_aload_n (q := 45) C dX6_tell_44 rfl rfl rfl ?_
    refine jg_Person_marks (q := 48) C dX6_tell_45 rfl hs kw_142 ?_
    exact j_lret C E dX6_tell_48 rfl rfl (jR_e rfl rfl)
  · refine j_swIn (tgt := 49) C dX6_tell_1 (by decide) (by decide) rfl (by decide) ?_
    refine j_aload_n (q := 50) C dX6_tell_49 rfl rfl rfl ?_
    refine jg_Person_loaves (q := 53) C dX6_tell_50 rfl hs kw_146 ?_
    first | refine j_i2lN (q := 54) C dX6_tell_53 rfl (by omega) ?_ | refine j_i2l (q := 54) C dX6_tell_53 rfl rfl ?_
    exact j_lret C E dX6_tell_54 rfl rfl (jR_e rfl rfl)
  · refine j_swIn (tgt := 55) C dX6_tell_1 (by decide) (by decide) rfl (by decide) ?_
    refine j_aload_n (q := 56) C dX6_tell_55 rfl rfl rfl ?_
    refine jg_Person_bakes (q := 59) C dX6_tell_56 rfl hs kw_149 ?_
    first | refine j_i2lN (q := 60) C dX6_tell_59 rfl (by omega) ?_ | refine j_i2l (q := 60) C dX6_tell_59 rfl rfl ?_
    exact j_lret C E dX6_tell_60 rfl rfl (jR_e rfl rfl)
  · refine j_swIn (tgt := 61) C dX6_tell_1 (by decide) (by decide) rfl (by decide) ?_
    refine j_aload_n (q := 62) C dX6_tell_61 rfl rfl rfl ?_
    refine jg_Person_spend (q := 65) C dX6_tell_62 rfl hs kw_150 ?_
    first | refine j_i2lN (q := 66) C dX6_tell_65 rfl (by omega) ?_ | refine j_i2l (q := 66) C dX6_tell_65 rfl rfl ?_
    exact j_lret C E dX6_tell_66 rfl rfl (jR_e rfl rfl)
  · refine j_swIn (tgt := 67) C dX6_tell_1 (by decide) (by decide) rfl (by decide) ?_
    refine j_aload_n (q := 68) C dX6_tell_67 rfl rfl rfl ?_
    refine jg_Person_keep (q := 71) C dX6_tell_68 rfl hs kw_152 ?_
    first | refine j_i2lN (q := 72) C dX6_tell_71 rfl (by omega) ?_ | refine j_i2l (q := 72) C dX6_tell_71 rfl rfl ?_
    exact j_lret C E dX6_tell_72 rfl rfl (jR_e rfl rfl)
  · refine j_swIn (tgt := 73) C dX6_tell_1 (by decide) (by decide) rfl (by decide) ?_
    refine j_aload_n (q := 74) C dX6_tell_73 rfl rfl rfl ?_
    refine jg_Person_hungered (q := 77) C dX6_tell_74 rfl hs kw_154 ?_
    first | refine j_i2lN (q := 78) C dX6_tell_77 rfl (by omega) ?_ | refine j_i2l (q := 78) C dX6_tell_77 rfl rfl ?_
    exact j_lret C E dX6_tell_78 rfl rfl (jR_e rfl rfl)
  · refine j_swIn (tgt := 79) C dX6_tell_1 (by decide) (by decide) rfl (by decide) ?_
    refine j_aload_n (q := 80) C dX6_tell_79 rfl rfl rfl ?_
    refine jg_Person_sold (q := 83) C dX6_tell_80 rfl hs kw_156 ?_
    exact j_lret C E dX6_tell_83 rfl rfl (jR_e rfl rfl)
  · refine j_swOut (tgt := 84) C dX6_tell_1 (by decide) (by decide) ?_
    refine j_aload_n (q := 85) C dX6_tell_84 rfl rfl rfl ?_
    refine jg_Person_bought (q := 88) C dX6_tell_85 rfl hs kw_158 ?_
    exact j_lret C E dX6_tell_88 rfl rfl (jR_e rfl rfl)

set_option maxRecDepth 100000 in
set_option maxHeartbeats 4000000 in
theorem ctX5_tell {G : jG} {sz : Nat} {Sh : jS} {M : jM} {a k : Nat} (hs : (Sh a).1 = 5) (hk : k < 7) : jC G yX5_tell cX5_tell 2 (Option.some FieldType.long) (jrm 1 0 0) sz Sh M [.ref a, .int (nI k)] (jR (some (.long (if k = 3 then M.2.1 a k else (M.1 a k).toInt64))) sz Sh M) := by
  refine jC_start (by decide +kernel) (Nat.le_of_ble_eq_true rfl) (fun X C E hN0 => ?_)
  refine j_iload_n (q := 1) C dX5_tell_0 rfl rfl rfl ?_
  rcases (show k = 0 ∨ k = 1 ∨ k = 2 ∨ k = 3 ∨ k = 4 ∨ k = 5 ∨ k = 6 by omega) with rfl | rfl | rfl | rfl | rfl | rfl | rfl
  · refine j_swIn (tgt := 40) C dX5_tell_1 (by decide) (by decide) rfl (by decide) ?_
    refine j_aload_n (q := 41) C dX5_tell_40 rfl rfl rfl ?_
    refine jg_Paper_kind (q := 44) C dX5_tell_41 rfl hs kw_171 ?_
    first | refine j_i2lN (q := 45) C dX5_tell_44 rfl (by omega) ?_ | refine j_i2l (q := 45) C dX5_tell_44 rfl rfl ?_
    exact j_lret C E dX5_tell_45 rfl rfl (jR_e rfl rfl)
  · refine j_swIn (tgt := 46) C dX5_tell_1 (by decide) (by decide) rfl (by decide) ?_
    refine j_aload_n (q := 47) C dX5_tell_46 rfl rfl rfl ?_
    refine jg_Paper_by (q := 50) C dX5_tell_47 rfl hs kw_174 ?_
    first | refine j_i2lN (q := 51) C dX5_tell_50 rfl (by omega) ?_ | refine j_i2l (q := 51) C dX5_tell_50 rfl rfl ?_
    exact j_lret C E dX5_tell_51 rfl rfl (jR_e rfl rfl)
  · refine j_swIn (tgt := 52) C dX5_tell_1 (by decide) (by decide) rfl (by decide) ?_
    refine j_aload_n (q := 53) C dX5_tell_52 rfl rfl rfl ?_
    refine jg_Paper_to (q := 56) C dX5_tell_53 rfl hs kw_177 ?_
    first | refine j_i2lN (q := 57) C dX5_tell_56 rfl (by omega) ?_ | refine j_i2l (q := 57) C dX5_tell_56 rfl rfl ?_
    exact j_lret C E dX5_tell_57 rfl rfl (jR_e rfl rfl)
  · refine j_swIn (tgt := 58) C dX5_tell_1 (by decide) (by decide) rfl (by decide) ?_
    refine j_aload_n (q := 59) C dX5_tell_58 rfl rfl rfl ?_
    refine jg_Paper_sum (q := 62) C dX5_tell_59 rfl hs kw_180 ?_
    exact j_lret C E dX5_tell_62 rfl rfl (jR_e rfl rfl)
  · refine j_swIn (tgt := 63) C dX5_tell_1 (by decide) (by decide) rfl (by decide) ?_
    refine j_aload_n (q := 64) C dX5_tell_63 rfl rfl rfl ?_
    refine jg_Paper_since (q := 67) C dX5_tell_64 rfl hs kw_183 ?_
    first | refine j_i2lN (q := 68) C dX5_tell_67 rfl (by omega) ?_ | refine j_i2l (q := 68) C dX5_tell_67 rfl rfl ?_
    exact j_lret C E dX5_tell_68 rfl rfl (jR_e rfl rfl)
  · refine j_swIn (tgt := 69) C dX5_tell_1 (by decide) (by decide) rfl (by decide) ?_
    refine j_aload_n (q := 70) C dX5_tell_69 rfl rfl rfl ?_
    refine jg_Paper_due (q := 73) C dX5_tell_70 rfl hs kw_186 ?_
    first | refine j_i2lN (q := 74) C dX5_tell_73 rfl (by omega) ?_ | refine j_i2l (q := 74) C dX5_tell_73 rfl rfl ?_
    exact j_lret C E dX5_tell_74 rfl rfl (jR_e rfl rfl)
  · refine j_swOut (tgt := 75) C dX5_tell_1 (by decide) (by decide) ?_
    refine j_aload_n (q := 76) C dX5_tell_75 rfl rfl rfl ?_
    refine jg_Paper_state (q := 79) C dX5_tell_76 rfl hs kw_188 ?_
    first | refine j_i2lN (q := 80) C dX5_tell_79 rfl (by omega) ?_ | refine j_i2l (q := 80) C dX5_tell_79 rfl rfl ?_
    exact j_lret C E dX5_tell_80 rfl rfl (jR_e rfl rfl)

def hbF (k : Nat) : Nat := if k = 0 then 3 else if k = 1 then 4 else 2
set_option maxRecDepth 100000 in
set_option maxHeartbeats 4000000 in
theorem ctX6_changeHabit {G : jG} {sz : Nat} {Sh : jS} {M : jM} {a k : Nat} (hs : (Sh a).1 = 6) (hk : k < 3) {v : Int32} : jC G yX6_changeHabit cX6_changeHabit 4 (Option.some FieldType.int) (jrm 1 0 0) sz Sh M [.ref a, .int (nI k), .int v] (jR (some (.int (M.1 a (hbF k)))) sz Sh (jsI M a (hbF k) v)) := by
  refine jC_start (by decide +kernel) (Nat.le_of_ble_eq_true rfl) (fun X C E hN0 => ?_)
  refine j_iload_n (q := 1) C dX6_changeHabit_0 rfl rfl rfl ?_
  rcases (show k = 0 ∨ k = 1 ∨ k = 2 by omega) with rfl | rfl | rfl
  · refine j_if_ne (q := 4) (tgt := 17) C dX6_changeHabit_1 rfl (by decide) (fun c_1 => absurd rfl c_1) (fun c_1 => ?_)
    refine j_aload_n (q := 5) C dX6_changeHabit_4 rfl rfl rfl ?_
    refine jg_Person_spend (q := 8) C dX6_changeHabit_5 rfl hs kw_150 ?_
    refine j_istore_n (lv' := [(3, _), (0, _), (1, _), (2, _)]) (q := 9) C dX6_changeHabit_8 rfl rfl (by decide) rfl ?_
    refine j_aload_n (q := 10) C dX6_changeHabit_9 rfl rfl rfl ?_
    refine j_iload_n (q := 11) C dX6_changeHabit_10 rfl rfl rfl ?_
    refine jp_Person_spend (q := 14) C dX6_changeHabit_11 rfl hs kw_150 ?_
    refine j_goto (tgt := 45) C dX6_changeHabit_14 (by decide) ?_
    refine j_iload_n (q := 46) C dX6_changeHabit_45 rfl rfl rfl ?_
    exact j_iret C E dX6_changeHabit_46 rfl rfl (jR_e rfl rfl)
  · refine j_if_ne (q := 4) (tgt := 17) C dX6_changeHabit_1 rfl (by decide) (fun c_1 => ?_) (fun c_1 => absurd c_1 (by decide))
    refine j_iload_n (q := 18) C dX6_changeHabit_17 rfl rfl rfl ?_
    refine j_iconst (v := nI 1) (q := 19) C dX6_changeHabit_18 rfl (by decide) ?_
    refine j_icmp_ne (q := 22) (tgt := 35) C dX6_changeHabit_19 rfl (by decide) (fun c_19 => absurd rfl c_19) (fun c_19 => ?_)
    refine j_aload_n (q := 23) C dX6_changeHabit_22 rfl rfl rfl ?_
    refine jg_Person_keep (q := 26) C dX6_changeHabit_23 rfl hs kw_152 ?_
    refine j_istore_n (lv' := [(3, _), (0, _), (1, _), (2, _)]) (q := 27) C dX6_changeHabit_26 rfl rfl (by decide) rfl ?_
    refine j_aload_n (q := 28) C dX6_changeHabit_27 rfl rfl rfl ?_
    refine j_iload_n (q := 29) C dX6_changeHabit_28 rfl rfl rfl ?_
    refine jp_Person_keep (q := 32) C dX6_changeHabit_29 rfl hs kw_152 ?_
    refine j_goto (tgt := 45) C dX6_changeHabit_32 (by decide) ?_
    refine j_iload_n (q := 46) C dX6_changeHabit_45 rfl rfl rfl ?_
    exact j_iret C E dX6_changeHabit_46 rfl rfl (jR_e rfl rfl)
  · refine j_if_ne (q := 4) (tgt := 17) C dX6_changeHabit_1 rfl (by decide) (fun c_1 => ?_) (fun c_1 => absurd c_1 (by decide))
    refine j_iload_n (q := 18) C dX6_changeHabit_17 rfl rfl rfl ?_
    refine j_iconst (v := nI 1) (q := 19) C dX6_changeHabit_18 rfl (by decide) ?_
    refine j_icmp_ne (q := 22) (tgt := 35) C dX6_changeHabit_19 rfl (by decide) (fun c_19 => ?_) (fun c_19 => absurd c_19 (by decide))
    refine j_aload_n (q := 36) C dX6_changeHabit_35 rfl rfl rfl ?_
    refine jg_Person_bakes (q := 39) C dX6_changeHabit_36 rfl hs kw_149 ?_
    refine j_istore_n (lv' := [(3, _), (0, _), (1, _), (2, _)]) (q := 40) C dX6_changeHabit_39 rfl rfl (by decide) rfl ?_
    refine j_aload_n (q := 41) C dX6_changeHabit_40 rfl rfl rfl ?_
    refine j_iload_n (q := 42) C dX6_changeHabit_41 rfl rfl rfl ?_
    refine jp_Person_bakes (q := 45) C dX6_changeHabit_42 rfl hs kw_149 ?_
    refine j_iload_n (q := 46) C dX6_changeHabit_45 rfl rfl rfl ?_
    exact j_iret C E dX6_changeHabit_46 rfl rfl (jR_e rfl rfl)

def fNB (g : Nat → Int32) : Nat → Nat → Nat
  | 0, k => k
  | f + 1, k => if g k = 0 ∨ g k = nI 1 then fNB g f (k + 1) else k
set_option maxRecDepth 100000 in
set_option maxHeartbeats 4000000 in
theorem ctX8_firstNoBit {G : jG} {sz : Nat} {Sh : jS} {M : jM} {a : Nat} (hL : shLay a Sh M) {m : Nat} (hm : M.1 a 2 = nI m) (hm20 : m ≤ 20) : jC G yX8_firstNoBit cX8_firstNoBit 2 (Option.some FieldType.int) (jrm 1 0 0) sz Sh M [.ref a] (jR (some (.int (nI (fNB (M.1 (a + 1)) m 0)))) sz Sh M) := by
  refine jC_start (by decide +kernel) (Nat.le_of_ble_eq_true rfl) (fun X C E hN0 => ?_)
  refine j_iconst (v := nI 0) (q := 1) C dX8_firstNoBit_0 rfl (by decide) ?_
  refine j_istore_n (lv' := [(1, _), (0, _)]) (q := 2) C dX8_firstNoBit_1 rfl rfl (by decide) rfl ?_
  have loop2 : ∀ (z k : Nat), fNB (M.1 (a + 1)) m 0 = fNB (M.1 (a + 1)) z k → k + z = m → jJ G X 0 0 sz Sh M 2 [(1, .int (nI k)), (0, .ref a)] [] := by
    intro z
    induction z with
    | zero =>
      intro k hf hk
      refine j_iload_n (q := 3) C dX8_firstNoBit_2 rfl rfl rfl ?_
      refine j_aload_n (q := 4) C dX8_firstNoBit_3 rfl rfl rfl ?_
      refine jg_Sheet_size (q := 7) C dX8_firstNoBit_4 rfl hL.1 kw_263 ?_
      rw [hm]
      refine j_icmp_ge (q := 10) (tgt := 37) C dX8_firstNoBit_7 rfl (by decide) (fun c_7 => ?_) (fun c_7 => absurd (nI_le (by omega) (by omega)) c_7)
      refine j_aload_n (q := 38) C dX8_firstNoBit_37 rfl rfl rfl ?_
      refine jg_Sheet_size (q := 41) C dX8_firstNoBit_38 rfl hL.1 kw_263 ?_
      exact j_iret C E dX8_firstNoBit_41 rfl rfl (jR_e (by rw [hm, hf]; rw [show m = k by omega]; rfl) rfl)
    | succ z ih =>
      intro k hf hk
      refine j_iload_n (q := 3) C dX8_firstNoBit_2 rfl rfl rfl ?_
      refine j_aload_n (q := 4) C dX8_firstNoBit_3 rfl rfl rfl ?_
      refine jg_Sheet_size (q := 7) C dX8_firstNoBit_4 rfl hL.1 kw_263 ?_
      rw [hm]
      refine j_icmp_ge (q := 10) (tgt := 37) C dX8_firstNoBit_7 rfl (by decide) (fun c_7 => absurd c_7 (fun h => absurd ((nI_leI (by omega) (by omega)).mp h) (by omega))) (fun c_7 => ?_)
      refine j_aload_n (q := 11) C dX8_firstNoBit_10 rfl rfl rfl ?_
      refine jg_Sheet_numbers (q := 14) C dX8_firstNoBit_11 rfl hL.1 kw_258 hL.2.2 ?_
      refine j_iload_n (q := 15) C dX8_firstNoBit_14 rfl rfl rfl ?_
      refine j_iald (q := 16) C dX8_firstNoBit_15 rfl hL.2.1 (show k < 20 by omega) (by decide) ?_
      refine j_if_eq (q := 19) (tgt := 31) C dX8_firstNoBit_16 rfl (by decide) (fun c_16 => ?_) (fun c_16 => ?_)
      · first | refine j_iincN (lv' := [(1, _), (0, _)]) (q := 34) C dX8_firstNoBit_31 rfl rfl (by decide) rfl ?_ | refine j_iinc (lv' := [(1, _), (0, _)]) (q := 34) C dX8_firstNoBit_31 rfl rfl rfl (by decide) rfl ?_
        refine j_goto (tgt := 2) C dX8_firstNoBit_34 (by decide) ?_
        exact j_fewer (lv' := [(1, .int (nI (k + 1))), (0, .ref a)]) (by simp) (ih (k + 1) (by rw [hf, fNB, if_pos (Or.inl c_16)]) (by omega))
      · refine j_aload_n (q := 20) C dX8_firstNoBit_19 rfl rfl rfl ?_
        refine jg_Sheet_numbers (q := 23) C dX8_firstNoBit_20 rfl hL.1 kw_258 hL.2.2 ?_
        refine j_iload_n (q := 24) C dX8_firstNoBit_23 rfl rfl rfl ?_
        refine j_iald (q := 25) C dX8_firstNoBit_24 rfl hL.2.1 (show k < 20 by omega) (by decide) ?_
        refine j_iconst (v := nI 1) (q := 26) C dX8_firstNoBit_25 rfl (by decide) ?_
        refine j_icmp_eq (q := 29) (tgt := 31) C dX8_firstNoBit_26 rfl (by decide) (fun c_26 => ?_) (fun c_26 => ?_)
        · first | refine j_iincN (lv' := [(1, _), (0, _)]) (q := 34) C dX8_firstNoBit_31 rfl rfl (by decide) rfl ?_ | refine j_iinc (lv' := [(1, _), (0, _)]) (q := 34) C dX8_firstNoBit_31 rfl rfl rfl (by decide) rfl ?_
          refine j_goto (tgt := 2) C dX8_firstNoBit_34 (by decide) ?_
          exact j_fewer (lv' := [(1, .int (nI (k + 1))), (0, .ref a)]) (by simp) (ih (k + 1) (by rw [hf, fNB, if_pos (Or.inr c_26)]) (by omega))
        · refine j_iload_n (q := 30) C dX8_firstNoBit_29 rfl rfl rfl ?_
          exact j_iret C E dX8_firstNoBit_30 rfl rfl (jR_e (by rw [hf, fNB, if_neg (fun h => h.elim c_16 c_26)]) rfl)
  exact j_fewer (lv' := [(1, .int (nI 0)), (0, .ref a)]) (by simp) (loop2 m 0 rfl (by omega))

