/-- where the reference lies, from its address o on -/
def rLay (o : Nat) (Sh : jS) (M : jM) : Prop := ((Sh o).1 = 11 ∧ Sh (o + 1) = (14, 611) ∧ Sh (o + 2) = (14, 611) ∧ Sh (o + 3) = (14, 611) ∧ Sh (o + 4) = (13, 2856) ∧ Sh (o + 5) = (13, 2856) ∧ Sh (o + 6) = (13, 160) ∧ Sh (o + 7) = (13, 4) ∧ Sh (o + 8) = (13, 4) ∧ Sh (o + 9) = (13, 80) ∧ Sh (o + 10) = (13, 168) ∧ Sh (o + 11) = (14, 168) ∧ Sh (o + 12) = (14, 10) ∧ Sh (o + 13) = (14, 10) ∧ Sh (o + 14) = (13, 20)) ∧ M.2.2 o 0 = some (o + 1) ∧ M.2.2 o 1 = some (o + 2) ∧ M.2.2 o 2 = some (o + 3) ∧ M.2.2 o 3 = some (o + 4) ∧ M.2.2 o 4 = some (o + 5) ∧ M.2.2 o 7 = some (o + 6) ∧ M.2.2 o 9 = some (o + 7) ∧ M.2.2 o 10 = some (o + 8) ∧ M.2.2 o 11 = some (o + 9) ∧ M.2.2 o 18 = some (o + 10) ∧ M.2.2 o 20 = some (o + 11) ∧ M.2.2 o 21 = some (o + 12) ∧ M.2.2 o 22 = some (o + 13) ∧ M.2.2 o 23 = some (o + 14)
set_option maxRecDepth 100000 in
set_option maxHeartbeats 4000000 in
theorem ctX11_within {G : jG} {sz : Nat} {Sh : jS} {M : jM} {v lo hi : Int64} : jC G yX11_within cX11_within 6 (Option.some FieldType.boolean) (jrm 1 0 0) sz Sh M [.long v, .long lo, .long hi] (jR (some (.int (jb (lo ≤ v ∧ v ≤ hi)))) sz Sh M) := by
  refine jC_start (by decide +kernel) (Nat.le_of_ble_eq_true rfl) (fun X C E hN0 => ?_)
  refine j_lload_n (q := 1) C dX11_within_0 rfl rfl rfl ?_
  refine j_lload_n (q := 2) C dX11_within_1 rfl rfl rfl ?_
  refine j_lcmp_lt (q1 := 3) (q := 6) (tgt := 17) C dX11_within_2 dX11_within_3 rfl rfl (by decide) (fun c_3 => ?_) (fun c_3 => ?_)
  · refine j_iconst (v := nI 0) (q := 18) C dX11_within_17 rfl (by decide) ?_
    exact j_zret C E dX11_within_18 (by first | rfl | exact jb_nar) rfl rfl (jR_e (by first | exact jw_t c_3 c_10 | exact jw_f1 c_3 | exact jw_f2 c_10) rfl)
  · refine j_lload_n (q := 7) C dX11_within_6 rfl rfl rfl ?_
    refine j_lload (q := 9) C dX11_within_7 rfl rfl ?_
    refine j_lcmp_gt (q1 := 10) (q := 13) (tgt := 17) C dX11_within_9 dX11_within_10 rfl rfl (by decide) (fun c_10 => ?_) (fun c_10 => ?_)
    · refine j_iconst (v := nI 0) (q := 18) C dX11_within_17 rfl (by decide) ?_
      exact j_zret C E dX11_within_18 (by first | rfl | exact jb_nar) rfl rfl (jR_e (by first | exact jw_t c_3 c_10 | exact jw_f1 c_3 | exact jw_f2 c_10) rfl)
    · refine j_iconst (v := nI 1) (q := 14) C dX11_within_13 rfl (by decide) ?_
      refine j_goto (tgt := 18) C dX11_within_14 (by decide) ?_
      exact j_zret C E dX11_within_18 (by first | rfl | exact jb_nar) rfl rfl (jR_e (by first | exact jw_t c_3 c_10 | exact jw_f1 c_3 | exact jw_f2 c_10) rfl)

set_option maxRecDepth 100000 in
set_option maxHeartbeats 4000000 in
theorem ctX11_of {G : jG} {sz : Nat} {Sh : jS} {M : jM} {i f : Nat} : jC G yX11_of cX11_of 2 (Option.some FieldType.int) (jrm 1 0 0) sz Sh M [.int (nI i), .int (nI f)] (jR (some (.int (nI (10 + 10 * i + f)))) sz Sh M) := by
  refine jC_start (by decide +kernel) (Nat.le_of_ble_eq_true rfl) (fun X C E hN0 => ?_)
  refine j_bipush (v := nI 10) (q := 2) C dX11_of_0 rfl (by decide) ?_
  refine j_bipush (v := nI 10) (q := 4) C dX11_of_2 rfl (by decide) ?_
  refine j_iload_n (q := 5) C dX11_of_4 rfl rfl rfl ?_
  first | refine j_imulN (q := 6) C dX11_of_5 rfl ?_ | refine j_imul (q := 6) C dX11_of_5 rfl ?_
  first | refine j_iaddN (q := 7) C dX11_of_6 rfl ?_ | refine j_iadd (q := 7) C dX11_of_6 rfl ?_
  refine j_iload_n (q := 8) C dX11_of_7 rfl rfl rfl ?_
  first | refine j_iaddN (q := 9) C dX11_of_8 rfl ?_ | refine j_iadd (q := 9) C dX11_of_8 rfl ?_
  exact j_iret C E dX11_of_9 rfl rfl (jR_i)

set_option maxRecDepth 100000 in
set_option maxHeartbeats 4000000 in
theorem ctX11_ofPaper {G : jG} {sz : Nat} {Sh : jS} {M : jM} {i f : Nat} : jC G yX11_ofPaper cX11_ofPaper 2 (Option.some FieldType.int) (jrm 1 0 0) sz Sh M [.int (nI i), .int (nI f)] (jR (some (.int (nI (110 + 7 * i + f)))) sz Sh M) := by
  refine jC_start (by decide +kernel) (Nat.le_of_ble_eq_true rfl) (fun X C E hN0 => ?_)
  refine j_bipush (v := nI 110) (q := 2) C dX11_ofPaper_0 rfl (by decide) ?_
  refine j_bipush (v := nI 7) (q := 4) C dX11_ofPaper_2 rfl (by decide) ?_
  refine j_iload_n (q := 5) C dX11_ofPaper_4 rfl rfl rfl ?_
  first | refine j_imulN (q := 6) C dX11_ofPaper_5 rfl ?_ | refine j_imul (q := 6) C dX11_ofPaper_5 rfl ?_
  first | refine j_iaddN (q := 7) C dX11_ofPaper_6 rfl ?_ | refine j_iadd (q := 7) C dX11_ofPaper_6 rfl ?_
  refine j_iload_n (q := 8) C dX11_ofPaper_7 rfl rfl rfl ?_
  first | refine j_iaddN (q := 9) C dX11_ofPaper_8 rfl ?_ | refine j_iadd (q := 9) C dX11_ofPaper_8 rfl ?_
  exact j_iret C E dX11_ofPaper_9 rfl rfl (jR_i)

set_option maxRecDepth 100000 in
set_option maxHeartbeats 4000000 in
theorem ctX11_today {G : jG} {sz : Nat} {Sh : jS} {M : jM} {o d : Nat} (hR : rLay o Sh M) (hd : M.2.1 (o + 1) 0 = lN d) : jC G yX11_today cX11_today 1 (Option.some FieldType.int) (jrm 1 0 0) sz Sh M [.ref o] (jR (some (.int (nI d))) sz Sh M) := by
  refine jC_start (by decide +kernel) (Nat.le_of_ble_eq_true rfl) (fun X C E hN0 => ?_)
  refine j_aload_n (q := 1) C dX11_today_0 rfl rfl rfl ?_
  refine jg_Model_now (q := 4) C dX11_today_1 rfl hR.1.1 kw_869 hR.2.1 ?_
  refine j_iconst (v := nI 0) (q := 5) C dX11_today_4 rfl (by decide) ?_
  refine j_lald (q := 6) C dX11_today_5 rfl hR.1.2.1 (by omega) (by decide) ?_
  rw [hd]
  first | refine j_l2iN (q := 7) C dX11_today_6 rfl ?_ | refine j_l2i (q := 7) C dX11_today_6 rfl rfl ?_
  exact j_iret C E dX11_today_7 rfl rfl (jR_i)

set_option maxRecDepth 100000 in
set_option maxHeartbeats 4000000 in
theorem ctX11_priceOf {G : jG} {sz : Nat} {Sh : jS} {M : jM} {o d : Nat} (hR : rLay o Sh M) (hd : d < 301) : jC G yX11_priceOf cX11_priceOf 2 (Option.some FieldType.long) (jrm 1 0 0) sz Sh M [.ref o, .int (nI d)] (jR (some (.long (M.2.1 (o + 1) (310 + d)))) sz Sh M) := by
  refine jC_start (by decide +kernel) (Nat.le_of_ble_eq_true rfl) (fun X C E hN0 => ?_)
  refine j_aload_n (q := 1) C dX11_priceOf_0 rfl rfl rfl ?_
  refine jg_Model_now (q := 4) C dX11_priceOf_1 rfl hR.1.1 kw_869 hR.2.1 ?_
  refine j_sipush (v := nI 310) (q := 7) C dX11_priceOf_4 rfl (by decide) ?_
  refine j_iload_n (q := 8) C dX11_priceOf_7 rfl rfl rfl ?_
  first | refine j_iaddN (q := 9) C dX11_priceOf_8 rfl ?_ | refine j_iadd (q := 9) C dX11_priceOf_8 rfl ?_
  refine j_lald (q := 10) C dX11_priceOf_9 rfl hR.1.2.1 (by omega) (by decide) ?_
  exact j_lret C E dX11_priceOf_10 rfl rfl (jR_i)

set_option maxRecDepth 100000 in
set_option maxHeartbeats 4000000 in
theorem ctX11_finding {G : jG} {sz : Nat} {Sh : jS} {M : jM} {o : Nat} {w : Int32} (hR : rLay o Sh M) : jC G yX11_finding cX11_finding 2 (Option.some FieldType.int) (jrm 1 0 0) sz Sh M [.ref o, .int w] (jR (some (.int w)) sz Sh (jsI M o 6 (M.1 o 6 + 1))) := by
  refine jC_start (by decide +kernel) (Nat.le_of_ble_eq_true rfl) (fun X C E hN0 => ?_)
  refine j_aload_n (q := 1) C dX11_finding_0 rfl rfl rfl ?_
  refine j_dup (q := 2) C dX11_finding_1 rfl rfl ?_
  refine jg_Model_findings (q := 5) C dX11_finding_2 rfl hR.1.1 kw_875 ?_
  refine j_iconst (v := nI 1) (q := 6) C dX11_finding_5 rfl (by decide) ?_
  first | refine j_iaddN (q := 7) C dX11_finding_6 rfl ?_ | refine j_iadd (q := 7) C dX11_finding_6 rfl ?_
  refine jp_Model_findings (q := 10) C dX11_finding_7 rfl hR.1.1 kw_875 ?_
  refine j_iload_n (q := 11) C dX11_finding_10 rfl rfl rfl ?_
  exact j_iret C E dX11_finding_11 rfl rfl (jR_i)

set_option maxRecDepth 100000 in
set_option maxHeartbeats 4000000 in
theorem ctX11_isPerson {G : jG} {sz : Nat} {Sh : jS} {M : jM} {o : Nat} {v : Int64} (hR : rLay o Sh M) : jC G yX11_isPerson cX11_isPerson 3 (Option.some FieldType.boolean) (jrm 2 0 0) sz Sh M [.ref o, .long v] (jR (some (.int (jb (0 ≤ v ∧ v ≤ M.2.1 (o + 1) 4 - 1)))) sz Sh M) := by
  refine jC_start (by decide +kernel) (Nat.le_of_ble_eq_true rfl) (fun X C E hN0 => ?_)
  refine j_lload_n (q := 1) C dX11_isPerson_0 rfl rfl rfl ?_
  refine j_lconst (v := 0) (q := 2) C dX11_isPerson_1 rfl (by decide) ?_
  refine j_aload_n (q := 3) C dX11_isPerson_2 rfl rfl rfl ?_
  refine jg_Model_now (q := 6) C dX11_isPerson_3 rfl hR.1.1 kw_869 hR.2.1 ?_
  refine j_iconst (v := nI 4) (q := 7) C dX11_isPerson_6 rfl (by decide) ?_
  refine j_lald (q := 8) C dX11_isPerson_7 rfl hR.1.2.1 (by omega) (by decide) ?_
  refine j_lconst (v := 1) (q := 9) C dX11_isPerson_8 rfl (by decide) ?_
  refine j_lsub (q := 10) C dX11_isPerson_9 rfl ?_
  refine jS1 (q := 13) C dX11_isPerson_10 rfl mX11_within kw_898 kw_899 ctX11_within rfl rfl (by decide) (Nat.le_of_ble_eq_true rfl) (by decide) ?_
  exact j_zret C E dX11_isPerson_13 (by first | rfl | exact jb_nar) rfl rfl (jR_i)

