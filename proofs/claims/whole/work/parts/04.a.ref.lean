/-- where the reference lies, from its address o on -/
def rLay (o : Nat) (Sh : jS) (M : jM) : Prop := ((Sh o).1 = 11 ∧ Sh (o + 1) = (14, 611) ∧ Sh (o + 2) = (14, 611) ∧ Sh (o + 3) = (14, 611) ∧ Sh (o + 4) = (13, 2856) ∧ Sh (o + 5) = (13, 2856) ∧ Sh (o + 6) = (13, 160) ∧ Sh (o + 7) = (13, 4) ∧ Sh (o + 8) = (13, 4) ∧ Sh (o + 9) = (13, 80) ∧ Sh (o + 10) = (13, 168) ∧ Sh (o + 11) = (14, 168) ∧ Sh (o + 12) = (14, 10) ∧ Sh (o + 13) = (14, 10) ∧ Sh (o + 14) = (13, 20)) ∧ M.2.2 o 0 = some (o + 1) ∧ M.2.2 o 1 = some (o + 2) ∧ M.2.2 o 2 = some (o + 3) ∧ M.2.2 o 3 = some (o + 4) ∧ M.2.2 o 4 = some (o + 5) ∧ M.2.2 o 7 = some (o + 6) ∧ M.2.2 o 9 = some (o + 7) ∧ M.2.2 o 10 = some (o + 8) ∧ M.2.2 o 11 = some (o + 9) ∧ M.2.2 o 18 = some (o + 10) ∧ M.2.2 o 20 = some (o + 11) ∧ M.2.2 o 21 = some (o + 12) ∧ M.2.2 o 22 = some (o + 13) ∧ M.2.2 o 23 = some (o + 14)
/-- one finding more -/
def rBad (o : Nat) (M : jM) : jM := jsI M o 6 (M.1 o 6 + 1)
def nGets (N : Nat → Int64) (k : Nat) (v : Int64) : Nat → Int64 := if va_up N k (N k + v) k ≤ 1000000000000000 then va_up N k (N k + v) else va_up (va_up (va_up N k (N k + v)) 3 (va_up N k (N k + v) 3 + (va_up N k (N k + v) k - 1000000000000000))) k 1000000000000000
theorem rLay_bad {o : Nat} {Sh : jS} {M : jM} (h : rLay o Sh M) : rLay o Sh (rBad o M) := h
theorem rLay_w {o a : Nat} {Sh : jS} {M : jM} {g : Nat → Int64} (h : rLay o Sh M) : rLay o Sh (jw M a g) := h
set_option maxRecDepth 100000 in
set_option maxHeartbeats 4000000 in
theorem ctX11_within {G : jG} {sz : Nat} {Sh : jS} {M : jM} {v lo hi : Int64} : jC G yX11_within cX11_within 6 (Option.some FieldType.boolean) (jrm 1 0 0) sz Sh M [.long v, .long lo, .long hi] (jR (some (.int (jb (lo ≤ v ∧ v ≤ hi)))) sz Sh M) := by
  refine jC_start (by decide +kernel) (Nat.le_of_ble_eq_true rfl) (fun X C E hN0 => ?_)
  refine j_lload_n (q := 1) C dX11_within_0 rfl rfl rfl ?_
  refine j_lload_n (q := 2) C dX11_within_1 rfl rfl rfl ?_
  refine j_lcmp_lt (q1 := 3) (q := 6) (tgt := 17) C dX11_within_2 dX11_within_3 rfl rfl (by decide) (fun c_3 => ?_) (fun c_3 => ?_)
  · refine j_iconst (v := nI 0) (q := 18) C dX11_within_17 rfl (by decide) ?_
    exact j_zret C E dX11_within_18 (by first | rfl | exact jb_nar) rfl rfl (jR_e (by first | exact jw_t c_3 c_10 | exact jw_f1 c_3 | exact jw_f2 c_10) rfl)
  · refine j_lload_n (q := 7) C dX11_within_6 rfl rfl rfl ?_
    refine j_lload (q := 9) C dX11_within_7 rfl rfl ?_
    refine j_lcmp_gt (q1 := 10) (q := 13) (tgt := 17) C dX11_within_9 dX11_within_10 rfl rfl (by decide) (fun c_10 => ?_) (fun c_10 => ?_)
    · refine j_iconst (v := nI 0) (q := 18) C dX11_within_17 rfl (by decide) ?_
      exact j_zret C E dX11_within_18 (by first | rfl | exact jb_nar) rfl rfl (jR_e (by first | exact jw_t c_3 c_10 | exact jw_f1 c_3 | exact jw_f2 c_10) rfl)
    · refine j_iconst (v := nI 1) (q := 14) C dX11_within_13 rfl (by decide) ?_
      refine j_goto (tgt := 18) C dX11_within_14 (by decide) ?_
      exact j_zret C E dX11_within_18 (by first | rfl | exact jb_nar) rfl rfl (jR_e (by first | exact jw_t c_3 c_10 | exact jw_f1 c_3 | exact jw_f2 c_10) rfl)

set_option maxRecDepth 100000 in
set_option maxHeartbeats 4000000 in
theorem ctX11_of {G : jG} {sz : Nat} {Sh : jS} {M : jM} {i f : Nat} : jC G yX11_of cX11_of 2 (Option.some FieldType.int) (jrm 1 0 0) sz Sh M [.int (nI i), .int (nI f)] (jR (some (.int (nI (10 + 10 * i + f)))) sz Sh M) := by
  refine jC_start (by decide +kernel) (Nat.le_of_ble_eq_true rfl) (fun X C E hN0 => ?_)
  refine j_bipush (v := nI 10) (q := 2) C dX11_of_0 rfl (by decide) ?_
  refine j_bipush (v := nI 10) (q := 4) C dX11_of_2 rfl (by decide) ?_
  refine j_iload_n (q := 5) C dX11_of_4 rfl rfl rfl ?_
  first | refine j_imulN (q := 6) C dX11_of_5 rfl ?_ | refine j_imul (q := 6) C dX11_of_5 rfl ?_
  first | refine j_iaddN (q := 7) C dX11_of_6 rfl ?_ | refine j_iadd (q := 7) C dX11_of_6 rfl ?_
  refine j_iload_n (q := 8) C dX11_of_7 rfl rfl rfl ?_
  first | refine j_iaddN (q := 9) C dX11_of_8 rfl ?_ | refine j_iadd (q := 9) C dX11_of_8 rfl ?_
  exact j_iret C E dX11_of_9 rfl rfl (jR_i)

set_option maxRecDepth 100000 in
set_option maxHeartbeats 4000000 in
theorem ctX11_ofPaper {G : jG} {sz : Nat} {Sh : jS} {M : jM} {i f : Nat} : jC G yX11_ofPaper cX11_ofPaper 2 (Option.some FieldType.int) (jrm 1 0 0) sz Sh M [.int (nI i), .int (nI f)] (jR (some (.int (nI (110 + 7 * i + f)))) sz Sh M) := by
  refine jC_start (by decide +kernel) (Nat.le_of_ble_eq_true rfl) (fun X C E hN0 => ?_)
  refine j_bipush (v := nI 110) (q := 2) C dX11_ofPaper_0 rfl (by decide) ?_
  refine j_bipush (v := nI 7) (q := 4) C dX11_ofPaper_2 rfl (by decide) ?_
  refine j_iload_n (q := 5) C dX11_ofPaper_4 rfl rfl rfl ?_
  first | refine j_imulN (q := 6) C dX11_ofPaper_5 rfl ?_ | refine j_imul (q := 6) C dX11_ofPaper_5 rfl ?_
  first | refine j_iaddN (q := 7) C dX11_ofPaper_6 rfl ?_ | refine j_iadd (q := 7) C dX11_ofPaper_6 rfl ?_
  refine j_iload_n (q := 8) C dX11_ofPaper_7 rfl rfl rfl ?_
  first | refine j_iaddN (q := 9) C dX11_ofPaper_8 rfl ?_ | refine j_iadd (q := 9) C dX11_ofPaper_8 rfl ?_
  exact j_iret C E dX11_ofPaper_9 rfl rfl (jR_i)

set_option maxRecDepth 100000 in
set_option maxHeartbeats 4000000 in
theorem ctX11_today {G : jG} {sz : Nat} {Sh : jS} {M : jM} {o : Nat} {N : Nat → Int64} (hR : rLay o Sh M) {d : Nat} (hd : N 0 = lN d) : jC G yX11_today cX11_today 1 (Option.some FieldType.int) (jrm 1 0 0) sz Sh (jw M (o + 1) N) [.ref o] (jR (some (.int (nI d))) sz Sh (jw M (o + 1) N)) := by
  refine jC_start (by decide +kernel) (Nat.le_of_ble_eq_true rfl) (fun X C E hN0 => ?_)
  refine j_aload_n (q := 1) C dX11_today_0 rfl rfl rfl ?_
  refine jg_Model_now (q := 4) C dX11_today_1 rfl hR.1.1 kw_869 hR.2.1 ?_
  refine j_iconst (v := nI 0) (q := 5) C dX11_today_4 rfl (by decide) ?_
  refine j_laldW (q := 6) C dX11_today_5 rfl hR.1.2.1 (by omega) (by decide) ?_
  rw [hd]
  first | refine j_l2iN (q := 7) C dX11_today_6 rfl ?_ | refine j_l2i (q := 7) C dX11_today_6 rfl rfl ?_
  exact j_iret C E dX11_today_7 rfl rfl (jR_i)

set_option maxRecDepth 100000 in
set_option maxHeartbeats 4000000 in
theorem ctX11_priceOf {G : jG} {sz : Nat} {Sh : jS} {M : jM} {o : Nat} {N : Nat → Int64} (hR : rLay o Sh M) {d : Nat} (hd : d < 301) : jC G yX11_priceOf cX11_priceOf 2 (Option.some FieldType.long) (jrm 1 0 0) sz Sh (jw M (o + 1) N) [.ref o, .int (nI d)] (jR (some (.long (N (310 + d)))) sz Sh (jw M (o + 1) N)) := by
  refine jC_start (by decide +kernel) (Nat.le_of_ble_eq_true rfl) (fun X C E hN0 => ?_)
  refine j_aload_n (q := 1) C dX11_priceOf_0 rfl rfl rfl ?_
  refine jg_Model_now (q := 4) C dX11_priceOf_1 rfl hR.1.1 kw_869 hR.2.1 ?_
  refine j_sipush (v := nI 310) (q := 7) C dX11_priceOf_4 rfl (by decide) ?_
  refine j_iload_n (q := 8) C dX11_priceOf_7 rfl rfl rfl ?_
  first | refine j_iaddN (q := 9) C dX11_priceOf_8 rfl ?_ | refine j_iadd (q := 9) C dX11_priceOf_8 rfl ?_
  refine j_laldW (q := 10) C dX11_priceOf_9 rfl hR.1.2.1 (by omega) (by decide) ?_
  exact j_lret C E dX11_priceOf_10 rfl rfl (jR_i)

set_option maxRecDepth 100000 in
set_option maxHeartbeats 4000000 in
theorem ctX11_finding {G : jG} {sz : Nat} {Sh : jS} {M : jM} {o : Nat} {N : Nat → Int64} (hR : rLay o Sh M) {w : Int32} : jC G yX11_finding cX11_finding 2 (Option.some FieldType.int) (jrm 1 0 0) sz Sh (jw M (o + 1) N) [.ref o, .int w] (jR (some (.int w)) sz Sh (jw (rBad o M) (o + 1) N)) := by
  refine jC_start (by decide +kernel) (Nat.le_of_ble_eq_true rfl) (fun X C E hN0 => ?_)
  refine j_aload_n (q := 1) C dX11_finding_0 rfl rfl rfl ?_
  refine j_dup (q := 2) C dX11_finding_1 rfl rfl ?_
  refine jg_Model_findings (q := 5) C dX11_finding_2 rfl hR.1.1 kw_875 ?_
  refine j_iconst (v := nI 1) (q := 6) C dX11_finding_5 rfl (by decide) ?_
  first | refine j_iaddN (q := 7) C dX11_finding_6 rfl ?_ | refine j_iadd (q := 7) C dX11_finding_6 rfl ?_
  refine jp_Model_findings (q := 10) C dX11_finding_7 rfl hR.1.1 kw_875 ?_
  refine j_iload_n (q := 11) C dX11_finding_10 rfl rfl rfl ?_
  exact j_iret C E dX11_finding_11 rfl rfl (jR_i)

set_option maxRecDepth 100000 in
set_option maxHeartbeats 4000000 in
theorem ctX11_isPerson {G : jG} {sz : Nat} {Sh : jS} {M : jM} {o : Nat} {N : Nat → Int64} (hR : rLay o Sh M) {v : Int64} : jC G yX11_isPerson cX11_isPerson 3 (Option.some FieldType.boolean) (jrm 2 0 0) sz Sh (jw M (o + 1) N) [.ref o, .long v] (jR (some (.int (jb (0 ≤ v ∧ v ≤ N 4 - 1)))) sz Sh (jw M (o + 1) N)) := by
  refine jC_start (by decide +kernel) (Nat.le_of_ble_eq_true rfl) (fun X C E hN0 => ?_)
  refine j_lload_n (q := 1) C dX11_isPerson_0 rfl rfl rfl ?_
  refine j_lconst (v := 0) (q := 2) C dX11_isPerson_1 rfl (by decide) ?_
  refine j_aload_n (q := 3) C dX11_isPerson_2 rfl rfl rfl ?_
  refine jg_Model_now (q := 6) C dX11_isPerson_3 rfl hR.1.1 kw_869 hR.2.1 ?_
  refine j_iconst (v := nI 4) (q := 7) C dX11_isPerson_6 rfl (by decide) ?_
  refine j_laldW (q := 8) C dX11_isPerson_7 rfl hR.1.2.1 (by omega) (by decide) ?_
  refine j_lconst (v := 1) (q := 9) C dX11_isPerson_8 rfl (by decide) ?_
  refine j_lsub (q := 10) C dX11_isPerson_9 rfl ?_
  refine jS1 (q := 13) C dX11_isPerson_10 rfl mX11_within kw_898 kw_899 (ctX11_within) rfl rfl (by decide) (Nat.le_of_ble_eq_true rfl) (by decide) ?_
  exact j_zret C E dX11_isPerson_13 (by first | rfl | exact jb_nar) rfl rfl (jR_i)

set_option maxRecDepth 100000 in
set_option maxHeartbeats 4000000 in
theorem ctX11_isPaper {G : jG} {sz : Nat} {Sh : jS} {M : jM} {o : Nat} {N : Nat → Int64} (hR : rLay o Sh M) {v : Int32} : jC G yX11_isPaper cX11_isPaper 2 (Option.some FieldType.boolean) (jrm 2 0 0) sz Sh (jw M (o + 1) N) [.ref o, .int v] (jR (some (.int (jb (0 ≤ v.toInt64 ∧ v.toInt64 ≤ N 5 - 1)))) sz Sh (jw M (o + 1) N)) := by
  refine jC_start (by decide +kernel) (Nat.le_of_ble_eq_true rfl) (fun X C E hN0 => ?_)
  refine j_iload_n (q := 1) C dX11_isPaper_0 rfl rfl rfl ?_
  first | refine j_i2lN (q := 2) C dX11_isPaper_1 rfl (by omega) ?_ | refine j_i2l (q := 2) C dX11_isPaper_1 rfl rfl ?_
  refine j_lconst (v := 0) (q := 3) C dX11_isPaper_2 rfl (by decide) ?_
  refine j_aload_n (q := 4) C dX11_isPaper_3 rfl rfl rfl ?_
  refine jg_Model_now (q := 7) C dX11_isPaper_4 rfl hR.1.1 kw_869 hR.2.1 ?_
  refine j_iconst (v := nI 5) (q := 8) C dX11_isPaper_7 rfl (by decide) ?_
  refine j_laldW (q := 9) C dX11_isPaper_8 rfl hR.1.2.1 (by omega) (by decide) ?_
  refine j_lconst (v := 1) (q := 10) C dX11_isPaper_9 rfl (by decide) ?_
  refine j_lsub (q := 11) C dX11_isPaper_10 rfl ?_
  refine jS1 (q := 14) C dX11_isPaper_11 rfl mX11_within kw_898 kw_899 (ctX11_within) rfl rfl (by decide) (Nat.le_of_ble_eq_true rfl) (by decide) ?_
  exact j_zret C E dX11_isPaper_14 (by first | rfl | exact jb_nar) rfl rfl (jR_i)

set_option maxRecDepth 100000 in
set_option maxHeartbeats 4000000 in
theorem ctX11_gets {G : jG} {sz : Nat} {Sh : jS} {M : jM} {o : Nat} {N : Nat → Int64} (hR : rLay o Sh M) {k : Nat} {v : Int64} (hk : k < 611) : jC G yX11_gets cX11_gets 4 (Option.none : Option FieldType) (jrm 1 0 0) sz Sh (jw M (o + 1) N) [.ref o, .int (nI k), .long v] (jR none sz Sh (jw M (o + 1) (nGets N k v))) := by
  refine jC_start (by decide +kernel) (Nat.le_of_ble_eq_true rfl) (fun X C E hN0 => ?_)
  refine j_aload_n (q := 1) C dX11_gets_0 rfl rfl rfl ?_
  refine jg_Model_now (q := 4) C dX11_gets_1 rfl hR.1.1 kw_869 hR.2.1 ?_
  refine j_iload_n (q := 5) C dX11_gets_4 rfl rfl rfl ?_
  refine j_dup2_11 (q := 6) C dX11_gets_5 rfl rfl rfl ?_
  refine j_laldW (q := 7) C dX11_gets_6 rfl hR.1.2.1 (by omega) (by decide) ?_
  refine j_lload_n (q := 8) C dX11_gets_7 rfl rfl rfl ?_
  refine j_ladd (q := 9) C dX11_gets_8 rfl ?_
  refine j_lastW (q := 10) C dX11_gets_9 rfl hR.1.2.1 (by omega) (by decide) ?_
  refine j_aload_n (q := 11) C dX11_gets_10 rfl rfl rfl ?_
  refine jg_Model_now (q := 14) C dX11_gets_11 rfl hR.1.1 kw_869 hR.2.1 ?_
  refine j_iload_n (q := 15) C dX11_gets_14 rfl rfl rfl ?_
  refine j_laldW (q := 16) C dX11_gets_15 rfl hR.1.2.1 (by omega) (by decide) ?_
  refine j_ldc2 (q := 19) C dX11_gets_16 rfl kw_897 ?_
  refine j_lcmp_le (q1 := 20) (q := 23) (tgt := 51) C dX11_gets_19 dX11_gets_20 rfl rfl (by decide) (fun c_20 => ?_) (fun c_20 => ?_)
  · exact j_vret C E dX11_gets_51 rfl rfl (jR_e rfl (by first | exact congrArg (jw M (o + 1)) (if_pos c_20).symm | exact congrArg (jw M (o + 1)) (if_neg c_20).symm))
  · refine j_aload_n (q := 24) C dX11_gets_23 rfl rfl rfl ?_
    refine jg_Model_now (q := 27) C dX11_gets_24 rfl hR.1.1 kw_869 hR.2.1 ?_
    refine j_iconst (v := nI 3) (q := 28) C dX11_gets_27 rfl (by decide) ?_
    refine j_dup2_11 (q := 29) C dX11_gets_28 rfl rfl rfl ?_
    refine j_laldW (q := 30) C dX11_gets_29 rfl hR.1.2.1 (by omega) (by decide) ?_
    refine j_aload_n (q := 31) C dX11_gets_30 rfl rfl rfl ?_
    refine jg_Model_now (q := 34) C dX11_gets_31 rfl hR.1.1 kw_869 hR.2.1 ?_
    refine j_iload_n (q := 35) C dX11_gets_34 rfl rfl rfl ?_
    refine j_laldW (q := 36) C dX11_gets_35 rfl hR.1.2.1 (by omega) (by decide) ?_
    refine j_ldc2 (q := 39) C dX11_gets_36 rfl kw_897 ?_
    refine j_lsub (q := 40) C dX11_gets_39 rfl ?_
    refine j_ladd (q := 41) C dX11_gets_40 rfl ?_
    refine j_lastW (q := 42) C dX11_gets_41 rfl hR.1.2.1 (by omega) (by decide) ?_
    refine j_aload_n (q := 43) C dX11_gets_42 rfl rfl rfl ?_
    refine jg_Model_now (q := 46) C dX11_gets_43 rfl hR.1.1 kw_869 hR.2.1 ?_
    refine j_iload_n (q := 47) C dX11_gets_46 rfl rfl rfl ?_
    refine j_ldc2 (q := 50) C dX11_gets_47 rfl kw_897 ?_
    refine j_lastW (q := 51) C dX11_gets_50 rfl hR.1.2.1 (by omega) (by decide) ?_
    exact j_vret C E dX11_gets_51 rfl rfl (jR_e rfl (by first | exact congrArg (jw M (o + 1)) (if_pos c_20).symm | exact congrArg (jw M (o + 1)) (if_neg c_20).symm))

set_option maxRecDepth 100000 in
set_option maxHeartbeats 4000000 in
theorem ctX11_isOpen {G : jG} {sz : Nat} {Sh : jS} {M : jM} {o : Nat} {N : Nat → Int64} (hR : rLay o Sh M) {j : Nat} (hj : j < 24) : jC G yX11_isOpen cX11_isOpen 2 (Option.some FieldType.boolean) (jrm 2 0 0) sz Sh (jw M (o + 1) N) [.ref o, .int (nI j)] (jR (some (.int (jb (N (110 + 7 * j + 6) = 0)))) sz Sh (jw M (o + 1) N)) := by
  refine jC_start (by decide +kernel) (Nat.le_of_ble_eq_true rfl) (fun X C E hN0 => ?_)
  refine j_aload_n (q := 1) C dX11_isOpen_0 rfl rfl rfl ?_
  refine jg_Model_now (q := 4) C dX11_isOpen_1 rfl hR.1.1 kw_869 hR.2.1 ?_
  refine j_iload_n (q := 5) C dX11_isOpen_4 rfl rfl rfl ?_
  refine j_bipush (v := nI 6) (q := 7) C dX11_isOpen_5 rfl (by decide) ?_
  refine jS1 (q := 10) C dX11_isOpen_7 rfl mX11_ofPaper kw_937 kw_938 (ctX11_ofPaper) rfl rfl (by decide) (Nat.le_of_ble_eq_true rfl) (by decide) ?_
  refine j_laldW (q := 11) C dX11_isOpen_10 rfl hR.1.2.1 (by omega) (by decide) ?_
  refine j_lconst (v := 0) (q := 12) C dX11_isOpen_11 rfl (by decide) ?_
  refine j_lcmp_ne (q1 := 13) (q := 16) (tgt := 20) C dX11_isOpen_12 dX11_isOpen_13 rfl rfl (by decide) (fun c_13 => ?_) (fun c_13 => ?_)
  · refine j_iconst (v := nI 0) (q := 21) C dX11_isOpen_20 rfl (by decide) ?_
    exact j_zret C E dX11_isOpen_21 (by first | rfl | exact jb_nar) rfl rfl (jR_e (by first | exact congrArg (fun z => some (Value.int z)) (jb_t c_13).symm | exact congrArg (fun z => some (Value.int z)) (jb_f c_13).symm) rfl)
  · refine j_iconst (v := nI 1) (q := 17) C dX11_isOpen_16 rfl (by decide) ?_
    refine j_goto (tgt := 21) C dX11_isOpen_17 (by decide) ?_
    exact j_zret C E dX11_isOpen_21 (by first | rfl | exact jb_nar) rfl rfl (jR_e (by first | exact congrArg (fun z => some (Value.int z)) (jb_t c_13).symm | exact congrArg (fun z => some (Value.int z)) (jb_f c_13).symm) rfl)

def sOkPersonIs (N : Nat → Int64) (p w : Int32) : Prop := (0 ≤ p.toInt64 ∧ p.toInt64 ≤ N 4 - 1) ∧ (0 ≤ w.toInt64 ∧ w.toInt64 ≤ 7)
def sOkP (N : Nat → Int64) (p : Int32) : Prop := 0 ≤ p.toInt64 ∧ p.toInt64 ≤ N 4 - 1
set_option maxRecDepth 100000 in
set_option maxHeartbeats 4000000 in
theorem ctX11_personIs {G : jG} {sz : Nat} {Sh : jS} {M : jM} {o : Nat} {N : Nat → Int64} (hR : rLay o Sh M) {pe : Nat} (h4 : N 4 = lN pe) (hpe : pe ≤ 10) {p w : Int32} : jC G yX11_personIs cX11_personIs 3 (Option.some FieldType.long) (jrm 3 0 0) sz Sh (jw M (o + 1) N) [.ref o, .int p, .int w] (jR (if ((0 ≤ p.toInt64 ∧ p.toInt64 ≤ N 4 - 1) ∧ (0 ≤ w.toInt64 ∧ w.toInt64 ≤ 7)) then some (.long (N (10 + 10 * p.toNatClampNeg + w.toNatClampNeg))) else some (.long (-100001))) sz Sh (if ((0 ≤ p.toInt64 ∧ p.toInt64 ≤ N 4 - 1) ∧ (0 ≤ w.toInt64 ∧ w.toInt64 ≤ 7)) then (jw M (o + 1) N) else (jw (rBad o M) (o + 1) N))) := by
  refine jC_start (by decide +kernel) (Nat.le_of_ble_eq_true rfl) (fun X C E hN0 => ?_)
  refine j_aload_n (q := 1) C dX11_personIs_0 rfl rfl rfl ?_
  refine j_iload_n (q := 2) C dX11_personIs_1 rfl rfl rfl ?_
  first | refine j_i2lN (q := 3) C dX11_personIs_2 rfl (by omega) ?_ | refine j_i2l (q := 3) C dX11_personIs_2 rfl rfl ?_
  refine jV1 jc11 (q := 6) C dX11_personIs_3 rfl hR.1.1 mX11_isPerson kw_917 kw_918 kw_29 (ctX11_isPerson hR) rfl rfl (by decide) (Nat.le_of_ble_eq_true rfl) (by decide) ?_
  refine j_if_eq (q := 9) (tgt := 21) C dX11_personIs_6 rfl (by decide) (fun c_6 => ?_) (fun c_6 => ?_)
  · refine j_aload_n (q := 22) C dX11_personIs_21 rfl rfl rfl ?_
    refine j_ldc (q := 24) C dX11_personIs_22 rfl kw_903 ?_
    refine jV1 jc11 (q := 27) C dX11_personIs_24 rfl hR.1.1 mX11_finding kw_904 kw_905 kw_28 (ctX11_finding hR) rfl rfl (by decide) (Nat.le_of_ble_eq_true rfl) (by decide) ?_
    first | refine j_i2lN (q := 28) C dX11_personIs_27 rfl (by omega) ?_ | refine j_i2l (q := 28) C dX11_personIs_27 rfl rfl ?_
    refine j_goto (tgt := 41) C dX11_personIs_28 (by decide) ?_
    exact j_lret C E dX11_personIs_41 rfl rfl ((by first | exact jR_f (fun h => absurd h.1 (jb_0.mp c_6)) rfl rfl | exact jR_f (fun h => absurd h.2 (jb_0.mp c_18)) rfl rfl | exact jR_t ⟨jb_n.mp c_6, jb_n.mp c_18⟩ (by rw [nI_clamp (by omega), nI_clamp (by omega)]) rfl))
  · refine j_iload_n (q := 10) C dX11_personIs_9 rfl rfl rfl ?_
    first | refine j_i2lN (q := 11) C dX11_personIs_10 rfl (by omega) ?_ | refine j_i2l (q := 11) C dX11_personIs_10 rfl rfl ?_
    refine j_lconst (v := 0) (q := 12) C dX11_personIs_11 rfl (by decide) ?_
    refine j_ldc2 (q := 15) C dX11_personIs_12 rfl kw_926 ?_
    refine jS1 (q := 18) C dX11_personIs_15 rfl mX11_within kw_898 kw_899 (ctX11_within) rfl rfl (by decide) (Nat.le_of_ble_eq_true rfl) (by decide) ?_
    refine j_if_ne (q := 21) (tgt := 31) C dX11_personIs_18 rfl (by decide) (fun c_18 => ?_) (fun c_18 => ?_)
    · have e1 := jb_n.mp c_6
      rw [h4] at e1
      obtain ⟨i, hi, rfl⟩ := jix (by omega) e1.1 e1.2
      have e2 := jb_n.mp c_18
      obtain ⟨w, hw, rfl⟩ := jix2 (n := 7) (by omega) e2.1 e2.2
      refine j_aload_n (q := 32) C dX11_personIs_31 rfl rfl rfl ?_
      refine jg_Model_now (q := 35) C dX11_personIs_32 rfl hR.1.1 kw_869 hR.2.1 ?_
      refine j_iload_n (q := 36) C dX11_personIs_35 rfl rfl rfl ?_
      refine j_iload_n (q := 37) C dX11_personIs_36 rfl rfl rfl ?_
      refine jS1 (q := 40) C dX11_personIs_37 rfl mX11_of kw_908 kw_909 (ctX11_of) rfl rfl (by decide) (Nat.le_of_ble_eq_true rfl) (by decide) ?_
      refine j_laldW (q := 41) C dX11_personIs_40 rfl hR.1.2.1 (by omega) (by decide) ?_
      exact j_lret C E dX11_personIs_41 rfl rfl ((by first | exact jR_f (fun h => absurd h.1 (jb_0.mp c_6)) rfl rfl | exact jR_f (fun h => absurd h.2 (jb_0.mp c_18)) rfl rfl | exact jR_t ⟨jb_n.mp c_6, jb_n.mp c_18⟩ (by rw [nI_clamp (by omega), nI_clamp (by omega)]) rfl))
    · refine j_aload_n (q := 22) C dX11_personIs_21 rfl rfl rfl ?_
      refine j_ldc (q := 24) C dX11_personIs_22 rfl kw_903 ?_
      refine jV1 jc11 (q := 27) C dX11_personIs_24 rfl hR.1.1 mX11_finding kw_904 kw_905 kw_28 (ctX11_finding hR) rfl rfl (by decide) (Nat.le_of_ble_eq_true rfl) (by decide) ?_
      first | refine j_i2lN (q := 28) C dX11_personIs_27 rfl (by omega) ?_ | refine j_i2l (q := 28) C dX11_personIs_27 rfl rfl ?_
      refine j_goto (tgt := 41) C dX11_personIs_28 (by decide) ?_
      exact j_lret C E dX11_personIs_41 rfl rfl ((by first | exact jR_f (fun h => absurd h.1 (jb_0.mp c_6)) rfl rfl | exact jR_f (fun h => absurd h.2 (jb_0.mp c_18)) rfl rfl | exact jR_t ⟨jb_n.mp c_6, jb_n.mp c_18⟩ (by rw [nI_clamp (by omega), nI_clamp (by omega)]) rfl))

