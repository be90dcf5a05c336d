set_option maxRecDepth 100000 in
set_option maxHeartbeats 4000000 in
theorem ctX11_need_ {G : jG} {sz : Nat} {Sh : jS} {M : jM} {o : Nat} {N : Nat → Int64} (hR : rLay o Sh M) {d pe pa la : Nat} (hO : nOk N d pe pa la) {LT : Nat → sT} (hL : lOk o M la LT) (hB : nB N d pe) (hS : nS N pa) {n : Int32} : jC G yX11_need_ cX11_need_ 5 (Option.some FieldType.long) (jrm 7 0 0) sz Sh (jw M (o + 1) N) [.ref o, .int n] (jT sz Sh (rU o M (sNeed LT N d pe pa la n))) := by
  refine jC_start (by decide +kernel) (Nat.le_of_ble_eq_true rfl) (fun X C E hN0 => ?_)
  refine j_aload_n (q := 1) C dX11_need__0 rfl rfl rfl ?_
  refine j_iload_n (q := 2) C dX11_need__1 rfl rfl rfl ?_
  refine j_bipush (v := nI 30) (q := 4) C dX11_need__2 rfl (by decide) ?_
  refine jV1 jc11 (q := 7) C dX11_need__4 rfl hR.1.1 mX11_notAhead kw_1207 kw_1208 kw_65 (ctX11_notAhead (mo := 30) hR hO.1.1 hO.1.2 (by omega) (by omega)) rfl rfl (by decide) (Nat.le_of_ble_eq_true rfl) (by decide) ?_
  refine j_istore_n (lv' := [(2, _), (0, _), (1, _)]) (q := 8) C dX11_need__7 rfl rfl (by decide) rfl ?_
  refine j_iload_n (q := 9) C dX11_need__8 rfl rfl rfl ?_
  refine j_if_eq (q := 12) (tgt := 15) C dX11_need__9 rfl (by decide) (fun c_9 => ?_) (fun c_9 => ?_)
  · obtain ⟨hf, x, hx1, hx2, rfl, hdx, eX⟩ := nA_0 c_9 (by omega)
    rw [hf, show rB o M false = M from rfl]
    have hnf : ¬ (nA d (nI x) 30).2 = true := by rw [hf]; decide
    refine j_aload_n (q := 16) C dX11_need__15 rfl rfl rfl ?_
    refine jV0 jc11 (q := 19) C dX11_need__16 rfl hR.1.1 mX11_putAside kw_1210 kw_1211 kw_66 (ctX11_putAside hR) rfl rfl (by decide) (Nat.le_of_ble_eq_true rfl) (by decide) ?_
    refine j_iconst (v := nI 0) (q := 20) C dX11_need__19 rfl (by decide) ?_
    refine j_istore_n (lv' := [(3, _), (2, _), (0, _), (1, _)]) (q := 21) C dX11_need__20 rfl rfl (by decide) rfl ?_
    have loop21 : ∀ (m k : Nat) (P A B : Nat → Int64), k + m = x → jJ G X 0 0 sz Sh (jw (rS o (rA o M N) P A B) (o + 1) (nPl LT d pe pa la bF N k)) 21 [(3, .int (nI k)), (0, .ref o), (1, .int (nI x))] [] := by
      intro m
      induction m with
      | zero =>
        intro k P A B hk
        have hOk := nPl_ok (LT := LT) (b := bF) hO hB hS k (by omega)
        refine j_iload_n (q := 22) C dX11_need__21 rfl rfl rfl ?_
        refine j_iload_n (q := 23) C dX11_need__22 rfl rfl rfl ?_
        refine j_icmp_ge (q := 26) (tgt := 36) C dX11_need__23 rfl (by decide) (fun c_23 => ?_) (fun c_23 => absurd (nI_le (by omega) (by omega)) c_23)
        obtain rfl : x = k := by omega
        refine j_aload_n (q := 37) C dX11_need__36 rfl rfl rfl ?_
        refine jg_Model_now (q := 40) C dX11_need__37 rfl hR.1.1 kw_869 hR.2.1 ?_
        refine j_iconst (v := nI 2) (q := 41) C dX11_need__40 rfl (by decide) ?_
        refine j_laldW (q := 42) C dX11_need__41 rfl hR.1.2.1 (by omega) (by decide) ?_
        refine j_aload_n (q := 43) C dX11_need__42 rfl rfl rfl ?_
        refine jg_Model_aside (q := 46) C dX11_need__43 rfl hR.1.1 kw_870 hR.2.2.1 ?_
        refine j_iconst (v := nI 2) (q := 47) C dX11_need__46 rfl (by decide) ?_
        refine j_laldO (show o + 2 ≠ o + 1 by omega) (q := 48) C dX11_need__47 rfl hR.1.2.2.1 (by omega) (by decide) ?_
        rw [rA_at 2 (by omega)]
        refine j_lsub (q := 49) C dX11_need__48 rfl ?_
        refine j_lstore_n (lv' := [(3, _), (0, _), (1, _)]) (q := 50) C dX11_need__49 rfl rfl (by decide) rfl ?_
        refine j_aload_n (q := 51) C dX11_need__50 rfl rfl rfl ?_
        refine jV0 jc11 (q := 54) C dX11_need__51 rfl hR.1.1 mX11_comesBack kw_1213 kw_1214 kw_67 (ctX11_comesBack (M := rS o (rA o M N) P A B) (Ns := N) hR rA_at) rfl rfl (by decide) (Nat.le_of_ble_eq_true rfl) (by decide) ?_
        refine j_lload_n (q := 55) C dX11_need__54 rfl rfl rfl ?_
        exact j_lret C E dX11_need__55 rfl rfl (rU_o (by unfold sNeed; rw [if_neg hnf, eX]) rA_E)
      | succ m ih =>
        intro k P A B hk
        have hOk := nPl_ok (LT := LT) (b := bF) hO hB hS k (by omega)
        refine j_iload_n (q := 22) C dX11_need__21 rfl rfl rfl ?_
        refine j_iload_n (q := 23) C dX11_need__22 rfl rfl rfl ?_
        refine j_icmp_ge (q := 26) (tgt := 36) C dX11_need__23 rfl (by decide) (fun c_23 => absurd c_23 (fun h => absurd ((nI_leI (by omega) (by omega)).mp h) (by omega))) (fun c_23 => ?_)
        refine j_aload_n (q := 27) C dX11_need__26 rfl rfl rfl ?_
        refine jVT jc11 (q := 30) C dX11_need__27 rfl hR.1.1 mX11_goesBy kw_1147 kw_1148 kw_55 (ctX11_goesBy (M := rA o M N) (P := P) (A := A) (B := B) hR hOk.1 (by omega) hL) rfl rfl (by decide) (Nat.le_of_ble_eq_true rfl) (by decide) (fun r_27 M_27 h_27 => ?_)
        obtain ⟨P2, A2, B2, rfl, rfl⟩ := h_27
        first | refine j_iincN (lv' := [(3, _), (0, _), (1, _)]) (q := 33) C dX11_need__30 rfl rfl (by decide) rfl ?_ | refine j_iinc (lv' := [(3, _), (0, _), (1, _)]) (q := 33) C dX11_need__30 rfl rfl rfl (by decide) rfl ?_
        refine j_goto (tgt := 21) C dX11_need__33 (by decide) ?_
        exact j_fewer (lv' := [(3, .int (nI (k + 1))), (0, .ref o), (1, .int (nI x))]) (by simp) (ih (k + 1) P2 A2 B2 (by omega))
    rw [show rA o M N = rS o (rA o M N) ((rA o M N).2.1 (o + 11)) ((rA o M N).2.1 (o + 12)) ((rA o M N).2.1 (o + 13)) from (rS_self o (rA o M N)).symm]
    exact j_fewer (lv' := [(3, .int (nI 0)), (0, .ref o), (1, .int (nI x))]) (by simp) (loop21 x 0 _ _ _ (by omega))
  · refine j_iload_n (q := 13) C dX11_need__12 rfl rfl rfl ?_
    first | refine j_i2lN (q := 14) C dX11_need__13 rfl (by omega) ?_ | refine j_i2l (q := 14) C dX11_need__13 rfl rfl ?_
    exact j_lret C E dX11_need__14 rfl rfl (rU_b (by unfold sNeed; rw [if_pos (nA_1 c_9)]) (by rw [nA_1 c_9]; exact mEq.rf))

set_option maxRecDepth 100000 in
set_option maxHeartbeats 4000000 in
theorem ctX11_melts {G : jG} {sz : Nat} {Sh : jS} {M : jM} {o : Nat} {N : Nat → Int64} (hR : rLay o Sh M) {d pe pa la : Nat} (hO : nOk N d pe pa la) {LT : Nat → sT} (hL : lOk o M la LT) (hB : nB N d pe) (hS : nS N pa) {n : Int32} : jC G yX11_melts cX11_melts 5 (Option.some FieldType.long) (jrm 7 0 0) sz Sh (jw M (o + 1) N) [.ref o, .int n] (jT sz Sh (rU o M (sMelts LT N d pe pa la n))) := by
  refine jC_start (by decide +kernel) (Nat.le_of_ble_eq_true rfl) (fun X C E hN0 => ?_)
  refine j_aload_n (q := 1) C dX11_melts_0 rfl rfl rfl ?_
  refine j_iload_n (q := 2) C dX11_melts_1 rfl rfl rfl ?_
  refine j_bipush (v := nI 30) (q := 4) C dX11_melts_2 rfl (by decide) ?_
  refine jV1 jc11 (q := 7) C dX11_melts_4 rfl hR.1.1 mX11_notAhead kw_1207 kw_1208 kw_65 (ctX11_notAhead (mo := 30) hR hO.1.1 hO.1.2 (by omega) (by omega)) rfl rfl (by decide) (Nat.le_of_ble_eq_true rfl) (by decide) ?_
  refine j_istore_n (lv' := [(2, _), (0, _), (1, _)]) (q := 8) C dX11_melts_7 rfl rfl (by decide) rfl ?_
  refine j_iload_n (q := 9) C dX11_melts_8 rfl rfl rfl ?_
  refine j_if_eq (q := 12) (tgt := 15) C dX11_melts_9 rfl (by decide) (fun c_9 => ?_) (fun c_9 => ?_)
  · obtain ⟨hf, x, hx1, hx2, rfl, hdx, eX⟩ := nA_0 c_9 (by omega)
    rw [hf, show rB o M false = M from rfl]
    have hnf : ¬ (nA d (nI x) 30).2 = true := by rw [hf]; decide
    refine j_aload_n (q := 16) C dX11_melts_15 rfl rfl rfl ?_
    refine jV0 jc11 (q := 19) C dX11_melts_16 rfl hR.1.1 mX11_putAside kw_1210 kw_1211 kw_66 (ctX11_putAside hR) rfl rfl (by decide) (Nat.le_of_ble_eq_true rfl) (by decide) ?_
    refine j_iconst (v := nI 0) (q := 20) C dX11_melts_19 rfl (by decide) ?_
    refine j_istore_n (lv' := [(3, _), (2, _), (0, _), (1, _)]) (q := 21) C dX11_melts_20 rfl rfl (by decide) rfl ?_
    refine j_iconst (v := nI 1) (q := 22) C dX11_melts_21 rfl (by decide) ?_
    refine j_istore (lv' := [(4, _), (3, _), (2, _), (0, _), (1, _)]) (q := 24) C dX11_melts_22 rfl (by decide) rfl ?_
    have j77 : ∀ (f : Nat) (P A B Nx : Nat → Int64), f = nMel LT d pe pa la N 0 x → f ≤ 30 → jJ G X 0 0 sz Sh (jw (rS o (rA o M N) P A B) (o + 1) Nx) 77 [(3, .int (nI f)), (0, .ref o)] [] := by
      intro f P A B Nx hf30 hle
      refine j_aload_n (q := 78) C dX11_melts_77 rfl rfl rfl ?_
      refine jV0 jc11 (q := 81) C dX11_melts_78 rfl hR.1.1 mX11_comesBack kw_1213 kw_1214 kw_67 (ctX11_comesBack (M := rS o (rA o M N) P A B) (Ns := N) hR rA_at) rfl rfl (by decide) (Nat.le_of_ble_eq_true rfl) (by decide) ?_
      refine j_iload_n (q := 82) C dX11_melts_81 rfl rfl rfl ?_
      refine j_if_ne (q := 85) (tgt := 95) C dX11_melts_82 rfl (by decide) (fun c_82 => ?_) (fun c_82 => ?_)
      · refine j_iload_n (q := 96) C dX11_melts_95 rfl rfl rfl ?_
        first | refine j_i2lN (q := 97) C dX11_melts_96 rfl (by omega) ?_ | refine j_i2l (q := 97) C dX11_melts_96 rfl rfl ?_
        exact j_lret C E dX11_melts_97 rfl rfl (rU_o (by unfold sMelts; rw [if_neg hnf, eX, if_neg (by rw [← hf30]; intro h; exact c_82 (by rw [h]; rfl)), ← hf30]) rA_E)
      · refine j_aload_n (q := 86) C dX11_melts_85 rfl rfl rfl ?_
        refine j_ldc (q := 88) C dX11_melts_86 rfl kw_990 ?_
        refine jV1 jc11 (q := 91) C dX11_melts_88 rfl hR.1.1 mX11_finding kw_904 kw_905 kw_28 (ctX11_finding (M := rS o (rA o M N) P A B) hR) rfl rfl (by decide) (Nat.le_of_ble_eq_true rfl) (by decide) ?_
        first | refine j_i2lN (q := 92) C dX11_melts_91 rfl (by omega) ?_ | refine j_i2l (q := 92) C dX11_melts_91 rfl rfl ?_
        refine j_goto (tgt := 97) C dX11_melts_92 (by decide) ?_
        exact j_lret C E dX11_melts_97 rfl rfl (rU_b (by unfold sMelts; rw [if_neg hnf, eX, if_pos (by rw [← hf30]; exact (nI_eq (b := 0) (by omega) (by omega)).mp c_82)]; rfl) rA_E)
    have loop24 : ∀ (m k : Nat) (P A B : Nat → Int64), nMel LT d pe pa la N 0 x = nMel LT d pe pa la N k m → k + m = x → jJ G X 0 0 sz Sh (jw (rS o (rA o M N) P A B) (o + 1) (nPl LT d pe pa la bF N k)) 24 [(4, .int (nI (k + 1))), (3, .int (nI (0))), (0, .ref o), (1, .int (nI x))] [] := by
      intro m
      induction m with
      | zero =>
        intro k P A B hmel hk
        have hOk := nPl_ok (LT := LT) (b := bF) hO hB hS k (by omega)
        refine j_iload (q := 26) C dX11_melts_24 rfl rfl ?_
        refine j_iload_n (q := 27) C dX11_melts_26 rfl rfl rfl ?_
        refine j_icmp_gt (q := 30) (tgt := 77) C dX11_melts_27 rfl (by decide) (fun c_27 => ?_) (fun c_27 => absurd (nI_lt (by omega) (by omega)) c_27)
        obtain rfl : x = k := by omega
        exact j_fewer (lv' := [(3, .int (nI 0)), (0, .ref o)]) (by simp) (j77 0 P A B _ (by rw [hmel]; rfl) (by omega))
      | succ m ih =>
        intro k P A B hmel hk
        have hOk := nPl_ok (LT := LT) (b := bF) hO hB hS k (by omega)
        refine j_iload (q := 26) C dX11_melts_24 rfl rfl ?_
        refine j_iload_n (q := 27) C dX11_melts_26 rfl rfl rfl ?_
        refine j_icmp_gt (q := 30) (tgt := 77) C dX11_melts_27 rfl (by decide) (fun c_27 => absurd c_27 (nI_nlt (by omega) (by omega))) (fun c_27 => ?_)
        refine j_iload_n (q := 31) C dX11_melts_30 rfl rfl rfl ?_
        refine j_if_ne (q := 34) (tgt := 77) C dX11_melts_31 rfl (by decide) (fun c_31 => absurd (by decide : nI 0 = 0) c_31) (fun c_31 => ?_)
        refine j_aload_n (q := 35) C dX11_melts_34 rfl rfl rfl ?_
        refine jVT jc11 (q := 38) C dX11_melts_35 rfl hR.1.1 mX11_goesBy kw_1147 kw_1148 kw_55 (ctX11_goesBy (M := rA o M N) (P := P) (A := A) (B := B) hR hOk.1 (by omega) hL) rfl rfl (by decide) (Nat.le_of_ble_eq_true rfl) (by decide) (fun r_35 M_35 h_35 => ?_)
        obtain ⟨P2, A2, B2, rfl, rfl⟩ := h_35
        have hO1 := nPl_ok (LT := LT) (b := bF) hO hB hS (k + 1) (by omega)
        refine j_aload_n (q := 39) C dX11_melts_38 rfl rfl rfl ?_
        refine j_aload_n (q := 40) C dX11_melts_39 rfl rfl rfl ?_
        refine jV1 jc11 (q := 43) C dX11_melts_40 rfl hR.1.1 mX11_today kw_965 kw_966 kw_33 (ctX11_today (M := rS o (rA o M N) P2 A2 B2) hR hO1.1.1.1) rfl rfl (by decide) (Nat.le_of_ble_eq_true rfl) (by decide) ?_
        refine jV1 jc11 (q := 46) C dX11_melts_43 rfl hR.1.1 mX11_priceOf kw_968 kw_969 kw_34 (ctX11_priceOf (M := rS o (rA o M N) P2 A2 B2) hR (by omega)) rfl rfl (by decide) (Nat.le_of_ble_eq_true rfl) (by decide) ?_
        refine j_ldc2 (q := 49) C dX11_melts_46 rfl kw_920 ?_
        refine j_aload_n (q := 50) C dX11_melts_49 rfl rfl rfl ?_
        refine j_aload_n (q := 51) C dX11_melts_50 rfl rfl rfl ?_
        refine jV1 jc11 (q := 54) C dX11_melts_51 rfl hR.1.1 mX11_today kw_965 kw_966 kw_33 (ctX11_today (M := rS o (rA o M N) P2 A2 B2) hR hO1.1.1.1) rfl rfl (by decide) (Nat.le_of_ble_eq_true rfl) (by decide) ?_
        refine j_iconst (v := nI 1) (q := 55) C dX11_melts_54 rfl (by decide) ?_
        refine j_isub (q := 56) C dX11_melts_55 rfl ?_
        refine j_top (v' := .int (nI (d + k))) (congrArg Value.int (by rw [show d + (k + 1) = (d + k) + 1 from rfl]; exact pk_sub (show 1 ≤ d + k + 1 by omega))) ?_
        refine jV1 jc11 (q := 59) C dX11_melts_56 rfl hR.1.1 mX11_priceOf kw_968 kw_969 kw_34 (ctX11_priceOf (d := d + k) (M := rS o (rA o M N) P2 A2 B2) hR (by omega)) rfl rfl (by decide) (Nat.le_of_ble_eq_true rfl) (by decide) ?_
        refine j_lmul (q := 60) C dX11_melts_59 rfl ?_
        refine j_lcmp_lt (q1 := 61) (q := 64) (tgt := 69) C dX11_melts_60 dX11_melts_61 rfl rfl (by decide) (fun c_61 => ?_) (fun c_61 => ?_)
        · refine j_iconst (v := nI 0) (q := 70) C dX11_melts_69 rfl (by decide) ?_
          refine j_istore_n (lv' := [(3, _), (4, _), (0, _), (1, _)]) (q := 71) C dX11_melts_70 rfl rfl (by decide) rfl ?_
          first | refine j_iincN (lv' := [(4, _), (3, _), (0, _), (1, _)]) (q := 74) C dX11_melts_71 rfl rfl (by decide) rfl ?_ | refine j_iinc (lv' := [(4, _), (3, _), (0, _), (1, _)]) (q := 74) C dX11_melts_71 rfl rfl rfl (by decide) rfl ?_
          refine j_goto (tgt := 24) C dX11_melts_74 (by decide) ?_
          exact j_fewer (lv' := [(4, .int (nI (k + 1 + 1))), (3, .int (nI (0))), (0, .ref o), (1, .int (nI x))]) (by simp) (ih (k + 1) P2 A2 B2 (hmel.trans (by rw [nMel, if_neg (show ¬ 2 * nPl LT d pe pa la bF N (k + 1) (310 + (d + k)) ≤ nPl LT d pe pa la bF N (k + 1) (310 + (d + k + 1)) from fun h => absurd c_61 (Int64.not_lt.mpr h))])) (by omega))
        · refine j_iload (q := 66) C dX11_melts_64 rfl rfl ?_
          refine j_goto (tgt := 70) C dX11_melts_66 (by decide) ?_
          refine j_istore_n (lv' := [(3, _), (4, _), (0, _), (1, _)]) (q := 71) C dX11_melts_70 rfl rfl (by decide) rfl ?_
          first | refine j_iincN (lv' := [(4, _), (3, _), (0, _), (1, _)]) (q := 74) C dX11_melts_71 rfl rfl (by decide) rfl ?_ | refine j_iinc (lv' := [(4, _), (3, _), (0, _), (1, _)]) (q := 74) C dX11_melts_71 rfl rfl rfl (by decide) rfl ?_
          refine j_goto (tgt := 24) C dX11_melts_74 (by decide) ?_
          refine j_fewer (lv' := [(4, .int (nI (k + 1 + 1))), (3, .int (nI (k + 1))), (0, .ref o), (1, .int (nI x))]) (by simp) ?_
          refine j_iload (q := 26) C dX11_melts_24 rfl rfl ?_
          refine j_iload_n (q := 27) C dX11_melts_26 rfl rfl rfl ?_
          refine j_icmp_gt (q := 30) (tgt := 77) C dX11_melts_27 rfl (by decide) (fun c_27 => ?_) (fun c_27 => ?_)
          · exact j_fewer (lv' := [(3, .int (nI (k + 1))), (0, .ref o)]) (by simp) (j77 (k + 1) P2 A2 B2 _ (hmel.trans (by rw [nMel, if_pos (show 2 * nPl LT d pe pa la bF N (k + 1) (310 + (d + k)) ≤ nPl LT d pe pa la bF N (k + 1) (310 + (d + k + 1)) from Int64.not_lt.mp c_61)])).symm (by omega))
          · refine j_iload_n (q := 31) C dX11_melts_30 rfl rfl rfl ?_
            refine j_if_ne (q := 34) (tgt := 77) C dX11_melts_31 rfl (by decide) (fun c_31 => ?_) (fun c_31 => absurd c_31 (fun h => by have := (nI_eq (b := 0) (by omega) (by omega)).mp h; omega))
            exact j_fewer (lv' := [(3, .int (nI (k + 1))), (0, .ref o)]) (by simp) (j77 (k + 1) P2 A2 B2 _ (hmel.trans (by rw [nMel, if_pos (show 2 * nPl LT d pe pa la bF N (k + 1) (310 + (d + k)) ≤ nPl LT d pe pa la bF N (k + 1) (310 + (d + k + 1)) from Int64.not_lt.mp c_61)])).symm (by omega))
    rw [show rA o M N = rS o (rA o M N) ((rA o M N).2.1 (o + 11)) ((rA o M N).2.1 (o + 12)) ((rA o M N).2.1 (o + 13)) from (rS_self o (rA o M N)).symm]
    exact j_fewer (lv' := [(4, .int (nI (0 + 1))), (3, .int (nI (0))), (0, .ref o), (1, .int (nI x))]) (by simp) (loop24 x 0 _ _ _ rfl (by omega))
  · refine j_iload_n (q := 13) C dX11_melts_12 rfl rfl rfl ?_
    first | refine j_i2lN (q := 14) C dX11_melts_13 rfl (by omega) ?_ | refine j_i2l (q := 14) C dX11_melts_13 rfl rfl ?_
    exact j_lret C E dX11_melts_14 rfl rfl (rU_b (by unfold sMelts; rw [if_pos (nA_1 c_9)]) (by rw [nA_1 c_9]; exact mEq.rf))

theorem isN_ofR {v : Int64} (h : (0 : Int64) ≤ v ∧ v ≤ 1000000000000000) : isN v 1000000000000000 := by
  obtain ⟨k, hk, rfl⟩ := pk_lOf (Int64.not_lt.mpr h.1)
  have h2 := h.2
  rw [M15, pk_lLE hk (by omega)] at h2
  exact isN.mk h2 (by omega)
set_option maxRecDepth 100000 in
set_option maxHeartbeats 4000000 in
theorem ctX11_beside {G : jG} {sz : Nat} {Sh : jS} {M : jM} {o : Nat} {N : Nat → Int64} (hR : rLay o Sh M) {d pe pa la : Nat} (hO : nOk N d pe pa la) {LT : Nat → sT} (hL : lOk o M la LT) (hB : nB N d pe) (hS : nS N pa) {p n : Int32} {v : Int64} : jC G yX11_beside cX11_beside 10 (Option.some FieldType.long) (jrm 7 0 0) sz Sh (jw M (o + 1) N) [.ref o, .int p, .long v, .int n] (jT sz Sh (rU o M (sBeside LT N d pe pa la p v n))) := by
  refine jC_start (by decide +kernel) (Nat.le_of_ble_eq_true rfl) (fun X C E hN0 => ?_)
  have h4 := hO.2.1.1
  have hpe := hO.2.1.2
  refine j_aload_n (q := 1) C dX11_beside_0 rfl rfl rfl ?_
  refine j_iload_n (q := 2) C dX11_beside_1 rfl rfl rfl ?_
  first | refine j_i2lN (q := 3) C dX11_beside_2 rfl (by omega) ?_ | refine j_i2l (q := 3) C dX11_beside_2 rfl rfl ?_
  refine jV1 jc11 (q := 6) C dX11_beside_3 rfl hR.1.1 mX11_isPerson kw_917 kw_918 kw_29 (ctX11_isPerson hR) rfl rfl (by decide) (Nat.le_of_ble_eq_true rfl) (by decide) ?_
  refine j_if_eq (q := 9) (tgt := 20) C dX11_beside_6 rfl (by decide) (fun c_6 => ?_) (fun c_6 => ?_)
  · refine j_aload_n (q := 21) C dX11_beside_20 rfl rfl rfl ?_
    refine j_ldc (q := 23) C dX11_beside_21 rfl kw_903 ?_
    refine jV1 jc11 (q := 26) C dX11_beside_23 rfl hR.1.1 mX11_finding kw_904 kw_905 kw_28 (ctX11_finding hR) rfl rfl (by decide) (Nat.le_of_ble_eq_true rfl) (by decide) ?_
    first | refine j_i2lN (q := 27) C dX11_beside_26 rfl (by omega) ?_ | refine j_i2l (q := 27) C dX11_beside_26 rfl rfl ?_
    exact j_lret C E dX11_beside_27 rfl rfl (rU_b (if_neg (fun h => jb_0.mp c_6 h.1)) mEq.rf)
  · refine j_lload_n (q := 10) C dX11_beside_9 rfl rfl rfl ?_
    refine j_lconst (v := 0) (q := 11) C dX11_beside_10 rfl (by decide) ?_
    refine j_ldc2 (q := 14) C dX11_beside_11 rfl kw_897 ?_
    refine jS1 (q := 17) C dX11_beside_14 rfl mX11_within kw_898 kw_899 (ctX11_within) rfl rfl (by decide) (Nat.le_of_ble_eq_true rfl) (by decide) ?_
    refine j_if_ne (q := 20) (tgt := 28) C dX11_beside_17 rfl (by decide) (fun c_17 => ?_) (fun c_17 => ?_)
    · have hpp := jb_n.mp c_6
      have e_p := jb_n.mp c_6
      rw [h4] at e_p
      obtain ⟨i, hi, rfl⟩ := jix (by omega) e_p.1 e_p.2
      have eI : (nI i).toNatClampNeg = i := nI_clamp (by omega)
      refine j_aload_n (q := 29) C dX11_beside_28 rfl rfl rfl ?_
      refine j_iload (q := 31) C dX11_beside_29 rfl rfl ?_
      refine j_bipush (v := nI 30) (q := 33) C dX11_beside_31 rfl (by decide) ?_
      refine jV1 jc11 (q := 36) C dX11_beside_33 rfl hR.1.1 mX11_notAhead kw_1207 kw_1208 kw_65 (ctX11_notAhead (mo := 30) hR hO.1.1 hO.1.2 (by omega) (by omega)) rfl rfl (by decide) (Nat.le_of_ble_eq_true rfl) (by decide) ?_
      refine j_istore (lv' := [(5, _), (0, _), (1, _), (2, _), (4, _)]) (q := 38) C dX11_beside_36 rfl (by decide) rfl ?_
      refine j_iload (q := 40) C dX11_beside_38 rfl rfl ?_
      refine j_if_eq (q := 43) (tgt := 47) C dX11_beside_40 rfl (by decide) (fun c_40 => ?_) (fun c_40 => ?_)
      · obtain ⟨hf, x, hx1, hx2, rfl, hdx, eX⟩ := nA_0 c_40 (by omega)
        rw [hf, show rB o M false = M from rfl]
        have hnf : ¬ (nA d (nI x) 30).2 = true := by rw [hf]; decide
        refine j_aload_n (q := 48) C dX11_beside_47 rfl rfl rfl ?_
        refine jV0 jc11 (q := 51) C dX11_beside_48 rfl hR.1.1 mX11_putAside kw_1210 kw_1211 kw_66 (ctX11_putAside hR) rfl rfl (by decide) (Nat.le_of_ble_eq_true rfl) (by decide) ?_
        refine j_iconst (v := nI 0) (q := 52) C dX11_beside_51 rfl (by decide) ?_
        refine j_istore (lv' := [(6, _), (5, _), (0, _), (1, _), (2, _), (4, _)]) (q := 54) C dX11_beside_52 rfl (by decide) rfl ?_
        have j108 : ∀ W0, W0 = nPl LT d pe pa la bF N x (310 + (d + x)) → nOk (nGift N i v) d pe pa la → nB (nGift N i v) d pe → nS (nGift N i v) pa → ∀ P A B, jJ G X 0 0 sz Sh (jw (rS o (rA o M N) P A B) (o + 1) (nGift N i v)) 108 [(8, .int (nI 0)), (6, .long W0), (4, .int (nI x)), (0, .ref o)] [] := by
          intro W0 hW0 hOg hBg hSg P A B
          have loop108 : ∀ (m k : Nat) (P A B : Nat → Int64), k + m = x → jJ G X 0 0 sz Sh (jw (rS o (rA o M N) P A B) (o + 1) (nPl LT d pe pa la bF (nGift N i v) k)) 108 [(8, .int (nI k)), (6, .long W0), (4, .int (nI x)), (0, .ref o)] [] := by
            intro m
            induction m with
            | zero =>
              intro k P A B hk
              have hOk := nPl_ok (LT := LT) (b := bF) hOg hBg hSg k (by omega)
              refine j_iload (q := 110) C dX11_beside_108 rfl rfl ?_
              refine j_iload (q := 112) C dX11_beside_110 rfl rfl ?_
              refine j_icmp_ge (q := 115) (tgt := 125) C dX11_beside_112 rfl (by decide) (fun c_112 => ?_) (fun c_112 => absurd (nI_le (by omega) (by omega)) c_112)
              obtain rfl : x = k := by omega
              refine j_aload_n (q := 126) C dX11_beside_125 rfl rfl rfl ?_
              refine j_aload_n (q := 127) C dX11_beside_126 rfl rfl rfl ?_
              refine jV1 jc11 (q := 130) C dX11_beside_127 rfl hR.1.1 mX11_today kw_965 kw_966 kw_33 (ctX11_today (M := rS o (rA o M N) P A B) hR hOk.1.1.1) rfl rfl (by decide) (Nat.le_of_ble_eq_true rfl) (by decide) ?_
              refine jV1 jc11 (q := 133) C dX11_beside_130 rfl hR.1.1 mX11_priceOf kw_968 kw_969 kw_34 (ctX11_priceOf (M := rS o (rA o M N) P A B) hR (by omega)) rfl rfl (by decide) (Nat.le_of_ble_eq_true rfl) (by decide) ?_
              refine j_lstore (lv' := [(8, _), (6, _), (4, _), (0, _)]) (q := 135) C dX11_beside_133 rfl (by decide) rfl ?_
              refine j_aload_n (q := 136) C dX11_beside_135 rfl rfl rfl ?_
              refine jV0 jc11 (q := 139) C dX11_beside_136 rfl hR.1.1 mX11_comesBack kw_1213 kw_1214 kw_67 (ctX11_comesBack (M := rS o (rA o M N) P A B) (Ns := N) hR rA_at) rfl rfl (by decide) (Nat.le_of_ble_eq_true rfl) (by decide) ?_
              refine j_lload (q := 141) C dX11_beside_139 rfl rfl ?_
              refine j_lload (q := 143) C dX11_beside_141 rfl rfl ?_
              refine j_lsub (q := 144) C dX11_beside_143 rfl ?_
              exact j_lret C E dX11_beside_144 rfl rfl (rU_o (by unfold sBeside; rw [if_pos ⟨hpp, jb_n.mp c_17⟩, if_neg hnf, eX, eI, hW0]) rA_E)
            | succ m ih =>
              intro k P A B hk
              have hOk := nPl_ok (LT := LT) (b := bF) hOg hBg hSg k (by omega)
              refine j_iload (q := 110) C dX11_beside_108 rfl rfl ?_
              refine j_iload (q := 112) C dX11_beside_110 rfl rfl ?_
              refine j_icmp_ge (q := 115) (tgt := 125) C dX11_beside_112 rfl (by decide) (fun c_112 => absurd c_112 (fun h => absurd ((nI_leI (by omega) (by omega)).mp h) (by omega))) (fun c_112 => ?_)
              refine j_aload_n (q := 116) C dX11_beside_115 rfl rfl rfl ?_
              refine jVT jc11 (q := 119) C dX11_beside_116 rfl hR.1.1 mX11_goesBy kw_1147 kw_1148 kw_55 (ctX11_goesBy (M := rA o M N) (P := P) (A := A) (B := B) hR hOk.1 (by omega) hL) rfl rfl (by decide) (Nat.le_of_ble_eq_true rfl) (by decide) (fun r_116 M_116 h_116 => ?_)
              obtain ⟨P2, A2, B2, rfl, rfl⟩ := h_116
              first | refine j_iincN (lv' := [(8, _), (6, _), (4, _), (0, _)]) (q := 122) C dX11_beside_119 rfl rfl (by decide) rfl ?_ | refine j_iinc (lv' := [(8, _), (6, _), (4, _), (0, _)]) (q := 122) C dX11_beside_119 rfl rfl rfl (by decide) rfl ?_
              refine j_goto (tgt := 108) C dX11_beside_122 (by decide) ?_
              exact j_fewer (lv' := [(8, .int (nI (k + 1))), (6, .long W0), (4, .int (nI x)), (0, .ref o)]) (by simp) (ih (k + 1) P2 A2 B2 (by omega))
          exact loop108 x 0 P A B (by omega)
        have loop54 : ∀ (m k : Nat) (P A B : Nat → Int64), k + m = x → jJ G X 0 0 sz Sh (jw (rS o (rA o M N) P A B) (o + 1) (nPl LT d pe pa la bF N k)) 54 [(6, .int (nI k)), (4, .int (nI x)), (2, .long v), (1, .int (nI i)), (0, .ref o)] [] := by
          intro m
          induction m with
          | zero =>
            intro k P A B hk
            have hOk := nPl_ok (LT := LT) (b := bF) hO hB hS k (by omega)
            refine j_iload (q := 56) C dX11_beside_54 rfl rfl ?_
            refine j_iload (q := 58) C dX11_beside_56 rfl rfl ?_
            refine j_icmp_ge (q := 61) (tgt := 71) C dX11_beside_58 rfl (by decide) (fun c_58 => ?_) (fun c_58 => absurd (nI_le (by omega) (by omega)) c_58)
            obtain rfl : x = k := by omega
            obtain ⟨W0, hW0⟩ : ∃ z, z = nPl LT d pe pa la bF N x (310 + (d + x)) := ⟨_, rfl⟩
            refine j_aload_n (q := 72) C dX11_beside_71 rfl rfl rfl ?_
            refine j_aload_n (q := 73) C dX11_beside_72 rfl rfl rfl ?_
            refine jV1 jc11 (q := 76) C dX11_beside_73 rfl hR.1.1 mX11_today kw_965 kw_966 kw_33 (ctX11_today (M := rS o (rA o M N) P A B) hR hOk.1.1.1) rfl rfl (by decide) (Nat.le_of_ble_eq_true rfl) (by decide) ?_
            refine jV1 jc11 (q := 79) C dX11_beside_76 rfl hR.1.1 mX11_priceOf kw_968 kw_969 kw_34 (ctX11_priceOf (M := rS o (rA o M N) P A B) hR (by omega)) rfl rfl (by decide) (Nat.le_of_ble_eq_true rfl) (by decide) ?_
            rw [← hW0]
            refine j_lstore (lv' := [(6, _), (4, _), (2, _), (1, _), (0, _)]) (q := 81) C dX11_beside_79 rfl (by decide) rfl ?_
            refine j_aload_n (q := 82) C dX11_beside_81 rfl rfl rfl ?_
            refine jV0 jc11 (q := 85) C dX11_beside_82 rfl hR.1.1 mX11_comesBack kw_1213 kw_1214 kw_67 (ctX11_comesBack (M := rS o (rA o M N) P A B) (Ns := N) hR rA_at) rfl rfl (by decide) (Nat.le_of_ble_eq_true rfl) (by decide) ?_
            refine j_aload_n (q := 86) C dX11_beside_85 rfl rfl rfl ?_
            refine jg_Model_now (q := 89) C dX11_beside_86 rfl hR.1.1 kw_869 hR.2.1 ?_
            refine j_iconst (v := nI 2) (q := 90) C dX11_beside_89 rfl (by decide) ?_
            refine j_dup2_11 (q := 91) C dX11_beside_90 rfl rfl rfl ?_
            refine j_laldW (q := 92) C dX11_beside_91 rfl hR.1.2.1 (by omega) (by decide) ?_
            refine j_lload_n (q := 93) C dX11_beside_92 rfl rfl rfl ?_
            refine j_ladd (q := 94) C dX11_beside_93 rfl ?_
            refine j_lastW (q := 95) C dX11_beside_94 rfl hR.1.2.1 (by omega) (by decide) ?_
            refine j_aload_n (q := 96) C dX11_beside_95 rfl rfl rfl ?_
            refine j_iload_n (q := 97) C dX11_beside_96 rfl rfl rfl ?_
            refine j_iconst (v := nI 0) (q := 98) C dX11_beside_97 rfl (by decide) ?_
            refine jS1 (q := 101) C dX11_beside_98 rfl mX11_of kw_908 kw_909 ctX11_of rfl rfl (by decide) (Nat.le_of_ble_eq_true rfl) (by decide) ?_
            refine j_lload_n (q := 102) C dX11_beside_101 rfl rfl rfl ?_
            refine jV0 jc11 (q := 105) C dX11_beside_102 rfl hR.1.1 mX11_gets kw_1000 kw_1001 kw_39 (ctX11_gets (M := rS o (rA o M N) P A B) hR (by omega)) rfl rfl (by decide) (Nat.le_of_ble_eq_true rfl) (by decide) ?_
            refine j_iconst (v := nI 0) (q := 106) C dX11_beside_105 rfl (by decide) ?_
            refine j_istore (lv' := [(8, _), (6, _), (4, _), (2, _), (1, _), (0, _)]) (q := 108) C dX11_beside_106 rfl (by decide) rfl ?_
            have hOg : nOk (nGift N i v) d pe pa la := hO.eq ((nEq.rf.up _ nSt2).gets _ (nStP (by omega) (by omega)))
            have hBg : nB (nGift N i v) d pe := (hB.out hpe (by omega)).gets hi (isN_ofR (jb_n.mp c_17))
            have hSg : nS (nGift N i v) pa := hS.eq ((nEq.rf.up _ nSt2).gets _ (nStP (by omega) (by omega)))
            have h0 := j108 W0 hW0 hOg hBg hSg P A B
            exact j_fewer (lv' := [(8, .int (nI 0)), (6, .long W0), (4, .int (nI x)), (0, .ref o)]) (by simp) h0
          | succ m ih =>
            intro k P A B hk
            have hOk := nPl_ok (LT := LT) (b := bF) hO hB hS k (by omega)
            refine j_iload (q := 56) C dX11_beside_54 rfl rfl ?_
            refine j_iload (q := 58) C dX11_beside_56 rfl rfl ?_
            refine j_icmp_ge (q := 61) (tgt := 71) C dX11_beside_58 rfl (by decide) (fun c_58 => absurd c_58 (fun h => absurd ((nI_leI (by omega) (by omega)).mp h) (by omega))) (fun c_58 => ?_)
            refine j_aload_n (q := 62) C dX11_beside_61 rfl rfl rfl ?_
            refine jVT jc11 (q := 65) C dX11_beside_62 rfl hR.1.1 mX11_goesBy kw_1147 kw_1148 kw_55 (ctX11_goesBy (M := rA o M N) (P := P) (A := A) (B := B) hR hOk.1 (by omega) hL) rfl rfl (by decide) (Nat.le_of_ble_eq_true rfl) (by decide) (fun r_62 M_62 h_62 => ?_)
            obtain ⟨P2, A2, B2, rfl, rfl⟩ := h_62
            first | refine j_iincN (lv' := [(6, _), (4, _), (2, _), (1, _), (0, _)]) (q := 68) C dX11_beside_65 rfl rfl (by decide) rfl ?_ | refine j_iinc (lv' := [(6, _), (4, _), (2, _), (1, _), (0, _)]) (q := 68) C dX11_beside_65 rfl rfl rfl (by decide) rfl ?_
            refine j_goto (tgt := 54) C dX11_beside_68 (by decide) ?_
            exact j_fewer (lv' := [(6, .int (nI (k + 1))), (4, .int (nI x)), (2, .long v), (1, .int (nI i)), (0, .ref o)]) (by simp) (ih (k + 1) P2 A2 B2 (by omega))
        rw [show rA o M N = rS o (rA o M N) ((rA o M N).2.1 (o + 11)) ((rA o M N).2.1 (o + 12)) ((rA o M N).2.1 (o + 13)) from (rS_self o (rA o M N)).symm]
        exact j_fewer (lv' := [(6, .int (nI 0)), (4, .int (nI x)), (2, .long v), (1, .int (nI i)), (0, .ref o)]) (by simp) (loop54 x 0 _ _ _ (by omega))
      · refine j_iload (q := 45) C dX11_beside_43 rfl rfl ?_
        first | refine j_i2lN (q := 46) C dX11_beside_45 rfl (by omega) ?_ | refine j_i2l (q := 46) C dX11_beside_45 rfl rfl ?_
        exact j_lret C E dX11_beside_46 rfl rfl (rU_b (by unfold sBeside; rw [if_pos ⟨hpp, jb_n.mp c_17⟩, if_pos (nA_1 c_40)]) (by rw [nA_1 c_40]; exact mEq.rf))
    · refine j_aload_n (q := 21) C dX11_beside_20 rfl rfl rfl ?_
      refine j_ldc (q := 23) C dX11_beside_21 rfl kw_903 ?_
      refine jV1 jc11 (q := 26) C dX11_beside_23 rfl hR.1.1 mX11_finding kw_904 kw_905 kw_28 (ctX11_finding hR) rfl rfl (by decide) (Nat.le_of_ble_eq_true rfl) (by decide) ?_
      first | refine j_i2lN (q := 27) C dX11_beside_26 rfl (by omega) ?_ | refine j_i2l (q := 27) C dX11_beside_26 rfl rfl ?_
      exact j_lret C E dX11_beside_27 rfl rfl (rU_b (if_neg (fun h => jb_0.mp c_17 h.2)) mEq.rf)

set_option maxRecDepth 100000 in
set_option maxHeartbeats 4000000 in
theorem ctX11_isSheet {G : jG} {sz : Nat} {Sh : jS} {M : jM} {s : Int32} : jC G yX11_isSheet cX11_isSheet 1 (Option.some FieldType.boolean) (jrm 2 0 0) sz Sh M [.int s] (jR (some (.int (jb (okW s 3)))) sz Sh M) := by
  refine jC_start (by decide +kernel) (Nat.le_of_ble_eq_true rfl) (fun X C E hN0 => ?_)
  refine j_iload_n (q := 1) C dX11_isSheet_0 rfl rfl rfl ?_
  first | refine j_i2lN (q := 2) C dX11_isSheet_1 rfl (by omega) ?_ | refine j_i2l (q := 2) C dX11_isSheet_1 rfl rfl ?_
  refine j_lconst (v := 0) (q := 3) C dX11_isSheet_2 rfl (by decide) ?_
  refine j_ldc2 (q := 6) C dX11_isSheet_3 rfl kw_995 ?_
  refine jS1 (q := 9) C dX11_isSheet_6 rfl mX11_within kw_898 kw_899 (ctX11_within) rfl rfl (by decide) (Nat.le_of_ble_eq_true rfl) (by decide) ?_
  exact j_zret C E dX11_isSheet_9 (by first | rfl | exact jb_nar) rfl rfl (jR_i)

set_option maxRecDepth 100000 in
set_option maxHeartbeats 4000000 in
theorem ctX11_proves {G : jG} {sz : Nat} {Sh : jS} {M : jM} {o : Nat} {N : Nat → Int64} (hR : rLay o Sh M) {d pe pa la : Nat} (hO : nOk N d pe pa la) {LT : Nat → sT} (hL : lOk o M la LT) (hB : nB N d pe) (hS : nS N pa) {wd : Int32} {n : Nat} {f : Nat → Int32} {v s : Int32} (hwd : okW s 3 → M.1 (o + 7) s.toNatClampNeg = wd) (hn : okW s 3 → M.1 (o + 8) s.toNatClampNeg = nI n) (hn20 : n ≤ 20) (hf : okW s 3 → ∀ k, k < n → M.1 (o + 9) (20 * s.toNatClampNeg + k) = f k) : jC G yX11_proves cX11_proves 9 (Option.some FieldType.long) (jrm 7 0 0) sz Sh (jw M (o + 1) N) [.ref o, .int v, .int s] (jT sz Sh (rU o M (sProves LT N d pe pa la wd n f v s))) := by
  refine jC_start (by decide +kernel) (Nat.le_of_ble_eq_true rfl) (fun X C E hN0 => ?_)
  have hpe := hO.2.1.2
  have hd3 := hO.1.2
  refine j_iload_n (q := 1) C dX11_proves_0 rfl rfl rfl ?_
  first | refine j_i2lN (q := 2) C dX11_proves_1 rfl (by omega) ?_ | refine j_i2l (q := 2) C dX11_proves_1 rfl rfl ?_
  refine j_lconst (v := 0) (q := 3) C dX11_proves_2 rfl (by decide) ?_
  refine j_ldc2 (q := 6) C dX11_proves_3 rfl kw_901 ?_
  refine jS1 (q := 9) C dX11_proves_6 rfl mX11_within kw_898 kw_899 (ctX11_within) rfl rfl (by decide) (Nat.le_of_ble_eq_true rfl) (by decide) ?_
  refine j_if_eq (q := 12) (tgt := 19) C dX11_proves_9 rfl (by decide) (fun c_9 => ?_) (fun c_9 => ?_)
  · refine j_aload_n (q := 20) C dX11_proves_19 rfl rfl rfl ?_
    refine j_ldc (q := 22) C dX11_proves_20 rfl kw_903 ?_
    refine jV1 jc11 (q := 25) C dX11_proves_22 rfl hR.1.1 mX11_finding kw_904 kw_905 kw_28 (ctX11_finding hR) rfl rfl (by decide) (Nat.le_of_ble_eq_true rfl) (by decide) ?_
    first | refine j_i2lN (q := 26) C dX11_proves_25 rfl (by omega) ?_ | refine j_i2l (q := 26) C dX11_proves_25 rfl rfl ?_
    exact j_lret C E dX11_proves_26 rfl rfl (rU_b (if_neg (fun h => jb_0.mp c_9 h.1)) mEq.rf)
  · refine j_iload_n (q := 13) C dX11_proves_12 rfl rfl rfl ?_
    refine jS1 (q := 16) C dX11_proves_13 rfl mX11_isSheet kw_1231 kw_1232 ctX11_isSheet rfl rfl (by decide) (Nat.le_of_ble_eq_true rfl) (by decide) ?_
    refine j_if_ne (q := 19) (tgt := 27) C dX11_proves_16 rfl (by decide) (fun c_16 => ?_) (fun c_16 => ?_)
    · have hss : okW s 3 := jb_n.mp c_16
      obtain ⟨t, ht, rfl⟩ := jix2 (by omega) hss.1 hss.2
      have eT : (nI t).toNatClampNeg = t := nI_clamp (by omega)
      have hwd := hwd hss
      have hn := hn hss
      have hf := hf hss
      rw [eT] at hwd hn hf
      refine j_aload_n (q := 28) C dX11_proves_27 rfl rfl rfl ?_
      refine jg_Model_widths (q := 31) C dX11_proves_28 rfl hR.1.1 kw_878 hR.2.2.2.2.2.2.2.1 ?_
      refine j_iload_n (q := 32) C dX11_proves_31 rfl rfl rfl ?_
      refine j_iald (q := 33) C dX11_proves_32 rfl hR.1.2.2.2.2.2.2.2.1 (show t < 4 by omega) (by decide) ?_
      rw [show (jw M (o + 1) N).1 (o + 7) t = wd from hwd]
      refine j_if_ne (q := 36) (tgt := 45) C dX11_proves_33 rfl (by decide) (fun c_33 => ?_) (fun c_33 => ?_)
      · refine j_aload_n (q := 46) C dX11_proves_45 rfl rfl rfl ?_
        refine jg_Model_sizes (q := 49) C dX11_proves_46 rfl hR.1.1 kw_879 hR.2.2.2.2.2.2.2.2.1 ?_
        refine j_iload_n (q := 50) C dX11_proves_49 rfl rfl rfl ?_
        refine j_iald (q := 51) C dX11_proves_50 rfl hR.1.2.2.2.2.2.2.2.2.1 (show t < 4 by omega) (by decide) ?_
        rw [show (jw M (o + 1) N).1 (o + 8) t = nI n from hn]
        refine j_istore_n (lv' := [(3, _), (0, _), (1, _), (2, _)]) (q := 52) C dX11_proves_51 rfl rfl (by decide) rfl ?_
        refine j_aload_n (q := 53) C dX11_proves_52 rfl rfl rfl ?_
        refine jg_Model_now (q := 56) C dX11_proves_53 rfl hR.1.1 kw_869 hR.2.1 ?_
        refine j_iconst (v := nI 0) (q := 57) C dX11_proves_56 rfl (by decide) ?_
        refine j_laldW (q := 58) C dX11_proves_57 rfl hR.1.2.1 (by omega) (by decide) ?_
        refine j_iload_n (q := 59) C dX11_proves_58 rfl rfl rfl ?_
        first | refine j_i2lN (q := 60) C dX11_proves_59 rfl (by omega) ?_ | refine j_i2l (q := 60) C dX11_proves_59 rfl rfl ?_
        refine j_ladd (q := 61) C dX11_proves_60 rfl ?_
        rw [hO.1.1, lN_add]
        refine j_ldc2 (q := 64) C dX11_proves_61 rfl kw_935 ?_
        refine j_lcmp_le (q1 := 65) (q := 68) (tgt := 76) C dX11_proves_64 dX11_proves_65 rfl rfl (by decide) (fun c_65 => ?_) (fun c_65 => ?_)
        · refine j_iconst (v := nI 0) (q := 77) C dX11_proves_76 rfl (by decide) ?_
          refine j_istore (lv' := [(4, _), (3, _), (0, _), (1, _), (2, _)]) (q := 79) C dX11_proves_77 rfl (by decide) rfl ?_
          have hwz := c_33
          have hdn : d + n ≤ 300 := (pk_lLE (b := 300) (by omega) (by omega)).mp c_65
          have loop79 : ∀ (m k : Nat), nNb f 0 n = nNb f k m → k + m = n → jJ G X 0 0 sz Sh (jw M (o + 1) N) 79 [(4, .int (nI k)), (3, .int (nI n)), (2, .int (nI t)), (1, .int v), (0, .ref o)] [] := by
            intro m
            induction m with
            | zero =>
              intro k hnm hk
              refine j_iload (q := 81) C dX11_proves_79 rfl rfl ?_
              refine j_iload_n (q := 82) C dX11_proves_81 rfl rfl rfl ?_
              refine j_icmp_ge (q := 85) (tgt := 116) C dX11_proves_82 rfl (by decide) (fun c_82 => ?_) (fun c_82 => absurd (nI_le (by omega) (by omega)) c_82)
              obtain rfl : n = k := by omega
              have hnb : nNb f 0 n = n := hnm
              refine j_aload_n (q := 117) C dX11_proves_116 rfl rfl rfl ?_
              refine jV0 jc11 (q := 120) C dX11_proves_117 rfl hR.1.1 mX11_putAside kw_1210 kw_1211 kw_66 (ctX11_putAside hR) rfl rfl (by decide) (Nat.le_of_ble_eq_true rfl) (by decide) ?_
              refine j_aload_n (q := 121) C dX11_proves_120 rfl rfl rfl ?_
              refine jV1 jc11 (q := 124) C dX11_proves_121 rfl hR.1.1 mX11_hungers kw_1224 kw_1225 kw_68 (ctX11_hungers (M := rA o M N) hR hO.2.1.1 hpe) rfl rfl (by decide) (Nat.le_of_ble_eq_true rfl) (by decide) ?_
              refine j_lstore (lv' := [(4, _), (3, _), (2, _), (1, _), (0, _)]) (q := 126) C dX11_proves_124 rfl (by decide) rfl ?_
              refine j_iconst (v := nI 0) (q := 127) C dX11_proves_126 rfl (by decide) ?_
              refine j_istore (lv' := [(6, _), (4, _), (3, _), (2, _), (1, _), (0, _)]) (q := 129) C dX11_proves_127 rfl (by decide) rfl ?_
              have loop129 : ∀ (m k : Nat) (P A B : Nat → Int64), k + m = n → jJ G X 0 0 sz Sh (jw (rS o (rA o M N) P A B) (o + 1) (nPl LT d pe pa la (bS f) N k)) 129 [(6, .int (nI k)), (4, .long (nSum N 5 pe)), (3, .int (nI n)), (2, .int (nI t)), (1, .int v), (0, .ref o)] [] := by
                intro m
                induction m with
                | zero =>
                  intro k P A B hk
                  have hOk := nPl_ok (LT := LT) (b := (bS f)) hO hB hS k (by omega)
                  refine j_iload (q := 131) C dX11_proves_129 rfl rfl ?_
                  refine j_iload_n (q := 132) C dX11_proves_131 rfl rfl rfl ?_
                  refine j_icmp_ge (q := 135) (tgt := 171) C dX11_proves_132 rfl (by decide) (fun c_132 => ?_) (fun c_132 => absurd (nI_le (by omega) (by omega)) c_132)
                  obtain rfl : n = k := by omega
                  refine j_aload_n (q := 172) C dX11_proves_171 rfl rfl rfl ?_
                  refine jV1 jc11 (q := 175) C dX11_proves_172 rfl hR.1.1 mX11_hungers kw_1224 kw_1225 kw_68 (ctX11_hungers (M := rS o (rA o M N) P A B) hR hOk.1.2.1.1 hpe) rfl rfl (by decide) (Nat.le_of_ble_eq_true rfl) (by decide) ?_
                  refine j_lload (q := 177) C dX11_proves_175 rfl rfl ?_
                  refine j_lsub (q := 178) C dX11_proves_177 rfl ?_
                  refine j_lstore (lv' := [(6, _), (4, _), (3, _), (2, _), (1, _), (0, _)]) (q := 180) C dX11_proves_178 rfl (by decide) rfl ?_
                  refine j_aload_n (q := 181) C dX11_proves_180 rfl rfl rfl ?_
                  refine jV0 jc11 (q := 184) C dX11_proves_181 rfl hR.1.1 mX11_comesBack kw_1213 kw_1214 kw_67 (ctX11_comesBack (M := rS o (rA o M N) P A B) (Ns := N) hR rA_at) rfl rfl (by decide) (Nat.le_of_ble_eq_true rfl) (by decide) ?_
                  refine j_lload (q := 186) C dX11_proves_184 rfl rfl ?_
                  refine j_iload_n (q := 187) C dX11_proves_186 rfl rfl rfl ?_
                  first | refine j_i2lN (q := 188) C dX11_proves_187 rfl (by omega) ?_ | refine j_i2l (q := 188) C dX11_proves_187 rfl rfl ?_
                  refine j_lcmp_gt (q1 := 189) (q := 192) (tgt := 198) C dX11_proves_188 dX11_proves_189 rfl rfl (by decide) (fun c_189 => ?_) (fun c_189 => ?_)
                  · refine j_iload_n (q := 199) C dX11_proves_198 rfl rfl rfl ?_
                    first | refine j_i2lN (q := 200) C dX11_proves_199 rfl (by omega) ?_ | refine j_i2l (q := 200) C dX11_proves_199 rfl rfl ?_
                    exact j_lret C E dX11_proves_200 rfl rfl (rU_o (by unfold sProves; rw [if_pos ⟨jb_n.mp c_9, hss⟩, if_neg hwz, if_neg (by omega), if_neg (by omega), if_neg (fun h => absurd c_189 (Int64.not_lt.mpr h))]) rA_E)
                  · refine j_ldc2 (q := 195) C dX11_proves_192 rfl kw_940 ?_
                    refine j_goto (tgt := 200) C dX11_proves_195 (by decide) ?_
                    exact j_lret C E dX11_proves_200 rfl rfl (rU_o (by unfold sProves; rw [if_pos ⟨jb_n.mp c_9, hss⟩, if_neg hwz, if_neg (by omega), if_neg (by omega), if_pos (Int64.not_lt.mp c_189)]) rA_E)
                | succ m ih =>
                  intro k P A B hk
                  have hOk := nPl_ok (LT := LT) (b := (bS f)) hO hB hS k (by omega)
                  refine j_iload (q := 131) C dX11_proves_129 rfl rfl ?_
                  refine j_iload_n (q := 132) C dX11_proves_131 rfl rfl rfl ?_
                  refine j_icmp_ge (q := 135) (tgt := 171) C dX11_proves_132 rfl (by decide) (fun c_132 => absurd c_132 (fun h => absurd ((nI_leI (by omega) (by omega)).mp h) (by omega))) (fun c_132 => ?_)
                  refine j_aload_n (q := 136) C dX11_proves_135 rfl rfl rfl ?_
                  refine jg_Model_sheets (q := 139) C dX11_proves_136 rfl hR.1.1 kw_880 hR.2.2.2.2.2.2.2.2.2.1 ?_
                  refine j_bipush (v := nI 20) (q := 141) C dX11_proves_139 rfl (by decide) ?_
                  refine j_iload_n (q := 142) C dX11_proves_141 rfl rfl rfl ?_
                  first | refine j_imulN (q := 143) C dX11_proves_142 rfl ?_ | refine j_imul (q := 143) C dX11_proves_142 rfl ?_
                  refine j_iload (q := 145) C dX11_proves_143 rfl rfl ?_
                  first | refine j_iaddN (q := 146) C dX11_proves_145 rfl ?_ | refine j_iadd (q := 146) C dX11_proves_145 rfl ?_
                  refine j_iald (q := 147) C dX11_proves_146 rfl hR.1.2.2.2.2.2.2.2.2.2.1 (show 20 * t + k < 80 by omega) (by decide) ?_
                  refine j_iconst (v := nI 1) (q := 148) C dX11_proves_147 rfl (by decide) ?_
                  refine j_icmp_ne (q := 151) (tgt := 158) C dX11_proves_148 rfl (by decide) (fun c_148 => ?_) (fun c_148 => ?_)
                  · refine j_lconst (v := 0) (q := 159) C dX11_proves_158 rfl (by decide) ?_
                    refine j_lstore (lv' := [(7, _), (6, _), (4, _), (3, _), (2, _), (1, _), (0, _)]) (q := 161) C dX11_proves_159 rfl (by decide) rfl ?_
                    refine j_aload_n (q := 162) C dX11_proves_161 rfl rfl rfl ?_
                    refine jVT jc11 (q := 165) C dX11_proves_162 rfl hR.1.1 mX11_goesBy kw_1147 kw_1148 kw_55 (by first | exact ctX11_goesBy (M := rA o M N) (P := P) (A := A) (B := B) hR hTx.1 (by omega) hL | exact ctX11_goesBy (M := rA o M N) (P := P) (A := A) (B := B) hR hOk.1 (by omega) hL) rfl rfl (by decide) (Nat.le_of_ble_eq_true rfl) (by decide) (fun r_162 M_162 h_162 => ?_)
                    obtain ⟨P2, A2, B2, rfl, rfl⟩ := h_162
                    first | refine j_iincN (lv' := [(6, _), (7, _), (4, _), (3, _), (2, _), (1, _), (0, _)]) (q := 168) C dX11_proves_165 rfl rfl (by decide) rfl ?_ | refine j_iinc (lv' := [(6, _), (7, _), (4, _), (3, _), (2, _), (1, _), (0, _)]) (q := 168) C dX11_proves_165 rfl rfl rfl (by decide) rfl ?_
                    refine j_goto (tgt := 129) C dX11_proves_168 (by decide) ?_
                    refine j_fewer (lv' := [(6, .int (nI (k + 1))), (4, .long (nSum N 5 pe)), (3, .int (nI n)), (2, .int (nI t)), (1, .int v), (0, .ref o)]) (by simp) ?_
                    have h0 := ih (k + 1) P2 A2 B2 (by omega)
                    rw [nPl_f (fun h => c_148 ((hf k (by omega)).trans (of_decide_eq_true h)))] at h0
                    exact h0
                  · refine j_aload_n (q := 152) C dX11_proves_151 rfl rfl rfl ?_
                    have hTx := tx_ok hOk.1 hOk.2.1 hOk.2.2
                    refine jV1 jc11 (q := 155) C dX11_proves_152 rfl hR.1.1 mX11_taxes kw_1192 kw_1193 kw_63 (ctX11_taxes (M := rS o (rA o M N) P A B) hR hOk.1.2.1.1 hpe) rfl rfl (by decide) (Nat.le_of_ble_eq_true rfl) (by decide) ?_
                    refine j_goto (tgt := 159) C dX11_proves_155 (by decide) ?_
                    refine j_lstore (lv' := [(7, _), (6, _), (4, _), (3, _), (2, _), (1, _), (0, _)]) (q := 161) C dX11_proves_159 rfl (by decide) rfl ?_
                    refine j_aload_n (q := 162) C dX11_proves_161 rfl rfl rfl ?_
                    refine jVT jc11 (q := 165) C dX11_proves_162 rfl hR.1.1 mX11_goesBy kw_1147 kw_1148 kw_55 (by first | exact ctX11_goesBy (M := rA o M N) (P := P) (A := A) (B := B) hR hTx.1 (by omega) hL | exact ctX11_goesBy (M := rA o M N) (P := P) (A := A) (B := B) hR hOk.1 (by omega) hL) rfl rfl (by decide) (Nat.le_of_ble_eq_true rfl) (by decide) (fun r_162 M_162 h_162 => ?_)
                    obtain ⟨P2, A2, B2, rfl, rfl⟩ := h_162
                    first | refine j_iincN (lv' := [(6, _), (7, _), (4, _), (3, _), (2, _), (1, _), (0, _)]) (q := 168) C dX11_proves_165 rfl rfl (by decide) rfl ?_ | refine j_iinc (lv' := [(6, _), (7, _), (4, _), (3, _), (2, _), (1, _), (0, _)]) (q := 168) C dX11_proves_165 rfl rfl rfl (by decide) rfl ?_
                    refine j_goto (tgt := 129) C dX11_proves_168 (by decide) ?_
                    refine j_fewer (lv' := [(6, .int (nI (k + 1))), (4, .long (nSum N 5 pe)), (3, .int (nI n)), (2, .int (nI t)), (1, .int v), (0, .ref o)]) (by simp) ?_
                    have h0 := ih (k + 1) P2 A2 B2 (by omega)
                    rw [nPl_t (show bS f k = true from decide_eq_true ((hf k (by omega)).symm.trans c_148))] at h0
                    exact h0
              rw [show rA o M N = rS o (rA o M N) ((rA o M N).2.1 (o + 11)) ((rA o M N).2.1 (o + 12)) ((rA o M N).2.1 (o + 13)) from (rS_self o (rA o M N)).symm]
              exact j_fewer (lv' := [(6, .int (nI 0)), (4, .long (nSum N 5 pe)), (3, .int (nI n)), (2, .int (nI t)), (1, .int v), (0, .ref o)]) (by simp) (loop129 n 0 _ _ _ (by omega))
            | succ m ih =>
              intro k hnm hk
              refine j_iload (q := 81) C dX11_proves_79 rfl rfl ?_
              refine j_iload_n (q := 82) C dX11_proves_81 rfl rfl rfl ?_
              refine j_icmp_ge (q := 85) (tgt := 116) C dX11_proves_82 rfl (by decide) (fun c_82 => absurd c_82 (fun h => absurd ((nI_leI (by omega) (by omega)).mp h) (by omega))) (fun c_82 => ?_)
              refine j_aload_n (q := 86) C dX11_proves_85 rfl rfl rfl ?_
              refine jg_Model_sheets (q := 89) C dX11_proves_86 rfl hR.1.1 kw_880 hR.2.2.2.2.2.2.2.2.2.1 ?_
              refine j_bipush (v := nI 20) (q := 91) C dX11_proves_89 rfl (by decide) ?_
              refine j_iload_n (q := 92) C dX11_proves_91 rfl rfl rfl ?_
              first | refine j_imulN (q := 93) C dX11_proves_92 rfl ?_ | refine j_imul (q := 93) C dX11_proves_92 rfl ?_
              refine j_iload (q := 95) C dX11_proves_93 rfl rfl ?_
              first | refine j_iaddN (q := 96) C dX11_proves_95 rfl ?_ | refine j_iadd (q := 96) C dX11_proves_95 rfl ?_
              refine j_iald (q := 97) C dX11_proves_96 rfl hR.1.2.2.2.2.2.2.2.2.2.1 (show 20 * t + k < 80 by omega) (by decide) ?_
              rw [show (jw M (o + 1) N).1 (o + 9) (20 * t + k) = f k from hf k (by omega)]
              first | refine j_i2lN (q := 98) C dX11_proves_97 rfl (by omega) ?_ | refine j_i2l (q := 98) C dX11_proves_97 rfl rfl ?_
              refine j_lconst (v := 0) (q := 99) C dX11_proves_98 rfl (by decide) ?_
              refine j_lconst (v := 1) (q := 100) C dX11_proves_99 rfl (by decide) ?_
              refine jS1 (q := 103) C dX11_proves_100 rfl mX11_within kw_898 kw_899 (ctX11_within) rfl rfl (by decide) (Nat.le_of_ble_eq_true rfl) (by decide) ?_
              refine j_if_ne (q := 106) (tgt := 110) C dX11_proves_103 rfl (by decide) (fun c_103 => ?_) (fun c_103 => ?_)
              · first | refine j_iincN (lv' := [(4, _), (3, _), (2, _), (1, _), (0, _)]) (q := 113) C dX11_proves_110 rfl rfl (by decide) rfl ?_ | refine j_iinc (lv' := [(4, _), (3, _), (2, _), (1, _), (0, _)]) (q := 113) C dX11_proves_110 rfl rfl rfl (by decide) rfl ?_
                refine j_goto (tgt := 79) C dX11_proves_113 (by decide) ?_
                exact j_fewer (lv' := [(4, .int (nI (k + 1))), (3, .int (nI n)), (2, .int (nI t)), (1, .int v), (0, .ref o)]) (by simp) (ih (k + 1) (hnm.trans (by rw [nNb, if_pos (jb_n.mp c_103)])) (by omega))
              · refine j_iload (q := 108) C dX11_proves_106 rfl rfl ?_
                first | refine j_i2lN (q := 109) C dX11_proves_108 rfl (by omega) ?_ | refine j_i2l (q := 109) C dX11_proves_108 rfl rfl ?_
                exact j_lret C E dX11_proves_109 rfl rfl (rU_o (by unfold sProves; rw [if_pos ⟨jb_n.mp c_9, hss⟩, if_neg hwz, if_neg (by omega), show nNb f 0 n = k from hnm.trans (by rw [nNb, if_neg (jb_0.mp c_103)]), if_pos (by omega)]) mEq.rf)
          exact j_fewer (lv' := [(4, .int (nI 0)), (3, .int (nI n)), (2, .int (nI t)), (1, .int v), (0, .ref o)]) (by simp) (loop79 n 0 rfl (by omega))
        · refine j_aload_n (q := 69) C dX11_proves_68 rfl rfl rfl ?_
          refine j_ldc (q := 71) C dX11_proves_69 rfl kw_907 ?_
          refine jV1 jc11 (q := 74) C dX11_proves_71 rfl hR.1.1 mX11_finding kw_904 kw_905 kw_28 (ctX11_finding hR) rfl rfl (by decide) (Nat.le_of_ble_eq_true rfl) (by decide) ?_
          first | refine j_i2lN (q := 75) C dX11_proves_74 rfl (by omega) ?_ | refine j_i2l (q := 75) C dX11_proves_74 rfl rfl ?_
          exact j_lret C E dX11_proves_75 rfl rfl (rU_b (by unfold sProves; rw [if_pos ⟨jb_n.mp c_9, hss⟩, if_neg c_33, if_pos (by have h : ¬ d + n ≤ 300 := fun h => c_65 ((pk_lLE (b := 300) (by omega) (by omega)).mpr h); omega)]; rfl) mEq.rf)
      · refine j_aload_n (q := 37) C dX11_proves_36 rfl rfl rfl ?_
        refine j_ldc_w (q := 40) C dX11_proves_37 rfl kw_1234 ?_
        refine jV1 jc11 (q := 43) C dX11_proves_40 rfl hR.1.1 mX11_finding kw_904 kw_905 kw_28 (ctX11_finding hR) rfl rfl (by decide) (Nat.le_of_ble_eq_true rfl) (by decide) ?_
        first | refine j_i2lN (q := 44) C dX11_proves_43 rfl (by omega) ?_ | refine j_i2l (q := 44) C dX11_proves_43 rfl rfl ?_
        exact j_lret C E dX11_proves_44 rfl rfl (rU_b (by unfold sProves; rw [if_pos ⟨jb_n.mp c_9, hss⟩, if_pos c_33]; rfl) mEq.rf)
    · refine j_aload_n (q := 20) C dX11_proves_19 rfl rfl rfl ?_
      refine j_ldc (q := 22) C dX11_proves_20 rfl kw_903 ?_
      refine jV1 jc11 (q := 25) C dX11_proves_22 rfl hR.1.1 mX11_finding kw_904 kw_905 kw_28 (ctX11_finding hR) rfl rfl (by decide) (Nat.le_of_ble_eq_true rfl) (by decide) ?_
      first | refine j_i2lN (q := 26) C dX11_proves_25 rfl (by omega) ?_ | refine j_i2l (q := 26) C dX11_proves_25 rfl rfl ?_
      exact j_lret C E dX11_proves_26 rfl rfl (rU_b (if_neg (fun h => jb_0.mp c_16 h.2)) mEq.rf)

