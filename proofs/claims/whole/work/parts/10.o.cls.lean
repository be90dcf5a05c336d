set_option maxRecDepth 100000 in
set_option maxHeartbeats 4000000 in
theorem ctX10_index {G : jG} {sz : Nat} {Sh : jS} {M : jM} {mm w q pr lw jg mk : Nat} (hs : (Sh mm).1 = 10) (hb0 : M.2.2 mm 0 = some w) {K : Nat → Int64} (hW : wLay w q pr lw jg mk Sh M) (hM : vK w q pr lw M = K) {d : Nat} (hd : K 0 = lN d) (hd3 : d ≤ 300) (hpr : ∀ k, k ≤ d → 1 ≤ K (310 + k)) {x z : Int32} : jC G yX10_index cX10_index 3 (Option.some FieldType.long) (jrm 2 0 0) sz Sh M [.ref mm, .int x, .int z] (jR (some (.long (sIndex K x z).1)) sz Sh (xB mm M (sIndex K x z).2.1)) := by
  refine jC_start (by decide +kernel) (Nat.le_of_ble_eq_true rfl) (fun X C E hN0 => ?_)
  refine j_iload_n (q := 1) C dX10_index_0 rfl rfl rfl ?_
  first | refine j_i2lN (q := 2) C dX10_index_1 rfl (by omega) ?_ | refine j_i2l (q := 2) C dX10_index_1 rfl rfl ?_
  refine j_lconst (v := 0) (q := 3) C dX10_index_2 rfl (by decide) ?_
  refine j_aload_n (q := 4) C dX10_index_3 rfl rfl rfl ?_
  refine jg_MM_now (q := 7) C dX10_index_4 rfl hs kw_266 hb0 ?_
  refine wg_World_day hW hM (q' := 10) C dX10_index_7 rfl kw_213 ?_
  rw [hd]
  refine j_top (v' := .int (nI d)) (congrArg Value.int (lN_i d)) ?_
  first | refine j_i2lN (q := 11) C dX10_index_10 rfl (by omega) ?_ | refine j_i2l (q := 11) C dX10_index_10 rfl rfl ?_
  refine jS1 (q := 14) C dX10_index_11 rfl mX10_within kw_278 kw_279 ctX10_within rfl rfl (by decide) (Nat.le_of_ble_eq_true rfl) (by decide) ?_
  refine j_if_eq (q := 17) (tgt := 34) C dX10_index_14 rfl (by decide) (fun c_14 => ?_) (fun c_14 => ?_)
  · refine j_aload_n (q := 35) C dX10_index_34 rfl rfl rfl ?_
    refine j_ldc2 (q := 38) C dX10_index_35 rfl kw_283 ?_
    refine jV1 jc10 (q := 41) C dX10_index_38 rfl hs mX10_found kw_284 kw_285 kw_0 (ctX10_found hs) rfl rfl (by decide) (Nat.le_of_ble_eq_true rfl) (by decide) ?_
    exact j_lret C E dX10_index_41 rfl rfl (xp_b (if_neg (fun h => jb_0.mp c_14 ⟨h.1.1, by rw [← hd]; exact h.1.2⟩)))
  · refine j_iload_n (q := 18) C dX10_index_17 rfl rfl rfl ?_
    first | refine j_i2lN (q := 19) C dX10_index_18 rfl (by omega) ?_ | refine j_i2l (q := 19) C dX10_index_18 rfl rfl ?_
    refine j_lconst (v := 0) (q := 20) C dX10_index_19 rfl (by decide) ?_
    refine j_aload_n (q := 21) C dX10_index_20 rfl rfl rfl ?_
    refine jg_MM_now (q := 24) C dX10_index_21 rfl hs kw_266 hb0 ?_
    refine wg_World_day hW hM (q' := 27) C dX10_index_24 rfl kw_213 ?_
    rw [hd]
    refine j_top (v' := .int (nI d)) (congrArg Value.int (lN_i d)) ?_
    first | refine j_i2lN (q := 28) C dX10_index_27 rfl (by omega) ?_ | refine j_i2l (q := 28) C dX10_index_27 rfl rfl ?_
    refine jS1 (q := 31) C dX10_index_28 rfl mX10_within kw_278 kw_279 ctX10_within rfl rfl (by decide) (Nat.le_of_ble_eq_true rfl) (by decide) ?_
    refine j_if_ne (q := 34) (tgt := 42) C dX10_index_31 rfl (by decide) (fun c_31 => ?_) (fun c_31 => ?_)
    · have hx := jb_n.mp c_14
      have hz := jb_n.mp c_31
      obtain ⟨x, hx1, rfl⟩ := jix2 (n := d) (by omega) hx.1 hx.2
      obtain ⟨z, hz1, rfl⟩ := jix2 (n := d) (by omega) hz.1 hz.2
      have hp1 := hpr z hz1
      refine j_ldc2 (q := 45) C dX10_index_42 rfl kw_277 ?_
      refine j_aload_n (q := 46) C dX10_index_45 rfl rfl rfl ?_
      refine jg_MM_now (q := 49) C dX10_index_46 rfl hs kw_266 hb0 ?_
      refine j_iload_n (q := 50) C dX10_index_49 rfl rfl rfl ?_
      refine jV1 jc9 (q := 53) C dX10_index_50 rfl hW.1.1 mX9_priceOn kw_668 kw_378 kw_379 (ctX9_priceOn hW hM (k := x) (by omega) (hpr x hx1)) rfl rfl (by decide) (Nat.le_of_ble_eq_true rfl) (by decide) ?_
      refine j_ldc2 (q := 56) C dX10_index_53 rfl kw_677 ?_
      refine j_lmul (q := 57) C dX10_index_56 rfl ?_
      refine j_aload_n (q := 58) C dX10_index_57 rfl rfl rfl ?_
      refine jg_MM_now (q := 61) C dX10_index_58 rfl hs kw_266 hb0 ?_
      refine j_iload_n (q := 62) C dX10_index_61 rfl rfl rfl ?_
      refine jV1 jc9 (q := 65) C dX10_index_62 rfl hW.1.1 mX9_priceOn kw_668 kw_378 kw_379 (ctX9_priceOn hW hM (k := z) (by omega) hp1) rfl rfl (by decide) (Nat.le_of_ble_eq_true rfl) (by decide) ?_
      refine j_ldiv (q := 66) C dX10_index_65 rfl (fun h => absurd hp1 (by rw [h]; decide)) ?_
      refine j_lmin (q := 69) C dX10_index_66 rfl kw_678 (by decide) (Nat.le_of_ble_eq_true rfl) (by decide) ?_
      exact j_lret C E dX10_index_69 rfl rfl (xp_o (by unfold sIndex; rw [if_pos ⟨⟨hx.1, by rw [hd]; exact hx.2⟩, ⟨hz.1, by rw [hd]; exact hz.2⟩⟩, nI_clamp (by omega), nI_clamp (by omega), Int64.mul_comm]))
    · refine j_aload_n (q := 35) C dX10_index_34 rfl rfl rfl ?_
      refine j_ldc2 (q := 38) C dX10_index_35 rfl kw_283 ?_
      refine jV1 jc10 (q := 41) C dX10_index_38 rfl hs mX10_found kw_284 kw_285 kw_0 (ctX10_found hs) rfl rfl (by decide) (Nat.le_of_ble_eq_true rfl) (by decide) ?_
      exact j_lret C E dX10_index_41 rfl rfl (xp_b (if_neg (fun h => jb_0.mp c_31 ⟨h.2.1, by rw [← hd]; exact h.2.2⟩)))

