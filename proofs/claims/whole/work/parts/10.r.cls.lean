set_option maxRecDepth 100000 in
set_option maxHeartbeats 4000000 in
theorem ctX10_gain {G : jG} {sz : Nat} {Sh : jS} {M : jM} {mm w q pr lw jg mk : Nat} (hs : (Sh mm).1 = 10) (hb0 : M.2.2 mm 0 = some w) {K : Nat → Int64} (hW : wLay w q pr lw jg mk Sh M) (hM : vK w q pr lw M = K) {pe : Nat} (h4 : K 4 = lN pe) (hpe : pe ≤ 10) {p l : Int32} : jC G yX10_gain cX10_gain 3 (Option.some FieldType.long) (jrm 2 0 0) sz Sh M [.ref mm, .int p, .int l] (jR (some (.long (sGain K p l).1)) sz Sh (xB mm M (sGain K p l).2.1)) := by
  refine jC_start (by decide +kernel) (Nat.le_of_ble_eq_true rfl) (fun X C E hN0 => ?_)
  refine j_aload_n (q := 1) C dX10_gain_0 rfl rfl rfl ?_
  refine jg_MM_now (q := 4) C dX10_gain_1 rfl hs kw_266 hb0 ?_
  refine j_iload_n (q := 5) C dX10_gain_4 rfl rfl rfl ?_
  refine jV1 jc9 (q := 8) C dX10_gain_5 rfl hW.1.1 mX9_hasPerson kw_300 kw_301 kw_302 (ctX9_hasPerson hW hM h4) rfl rfl (by decide) (Nat.le_of_ble_eq_true rfl) (by decide) ?_
  refine j_if_ne (q := 11) (tgt := 19) C dX10_gain_8 rfl (by decide) (fun c_8 => ?_) (fun c_8 => ?_)
  · obtain ⟨i, hi, rfl⟩ := (hasP_x hpe).mp (jb_n.mp c_8)
    have ei : (nI i).toNatClampNeg = i := nI_clamp (by omega)
    have hok : okP K (nI i) := (okP_x h4 hpe).mpr ⟨i, hi, rfl⟩
    refine j_iload_n (q := 20) C dX10_gain_19 rfl rfl rfl ?_
    refine j_if_eq (q := 23) (tgt := 38) C dX10_gain_20 rfl (by decide) (fun c_20 => ?_) (fun c_20 => ?_)
    · refine j_aload_n (q := 39) C dX10_gain_38 rfl rfl rfl ?_
      refine jg_MM_now (q := 42) C dX10_gain_39 rfl hs kw_266 hb0 ?_
      refine jg_World_persons (q := 45) C dX10_gain_42 rfl hW.1.1 kw_193 hW.2.1.1 ?_
      refine j_iload_n (q := 46) C dX10_gain_45 rfl rfl rfl ?_
      refine wa_pers hW (by omega) (q' := 47) C dX10_gain_46 rfl ?_
      refine wg_Person_gained (by omega) hW hM (q' := 50) C dX10_gain_47 rfl kw_161 ?_
      exact j_lret C E dX10_gain_50 rfl rfl (xp_o (by unfold sGain; rw [if_pos hok, ei, if_pos c_20]))
    · refine j_aload_n (q := 24) C dX10_gain_23 rfl rfl rfl ?_
      refine jg_MM_now (q := 27) C dX10_gain_24 rfl hs kw_266 hb0 ?_
      refine jg_World_persons (q := 30) C dX10_gain_27 rfl hW.1.1 kw_193 hW.2.1.1 ?_
      refine j_iload_n (q := 31) C dX10_gain_30 rfl rfl rfl ?_
      refine wa_pers hW (by omega) (q' := 32) C dX10_gain_31 rfl ?_
      refine wg_Person_lost (by omega) hW hM (q' := 35) C dX10_gain_32 rfl kw_164 ?_
      refine j_goto (tgt := 50) C dX10_gain_35 (by decide) ?_
      exact j_lret C E dX10_gain_50 rfl rfl (xp_o (by unfold sGain; rw [if_pos hok, ei, if_neg c_20]))
  · refine j_aload_n (q := 12) C dX10_gain_11 rfl rfl rfl ?_
    refine j_ldc2 (q := 15) C dX10_gain_12 rfl kw_283 ?_
    refine jV1 jc10 (q := 18) C dX10_gain_15 rfl hs mX10_found kw_284 kw_285 kw_0 (ctX10_found hs) rfl rfl (by decide) (Nat.le_of_ble_eq_true rfl) (by decide) ?_
    exact j_lret C E dX10_gain_18 rfl rfl (xp_b (if_neg (fun h => jb_0.mp c_8 ((hasP_x hpe).mpr ((okP_x h4 hpe).mp h)))))

