theorem okQ_x {K : Nat → Int64} {pa : Nat} {p : Int32} (h5 : K 5 = lN pa) (hpa : pa ≤ 24) : okQ K p ↔ ∃ i, i < pa ∧ p = nI i := by
  constructor
  · rintro ⟨h1, h2⟩
    rw [h5] at h2
    rcases Nat.eq_zero_or_pos pa with e | e
    · subst e
      exact absurd (Int64.le_trans h1 h2) (by decide)
    · rw [show lN pa - 1 = lN (pa - 1) from lN_sub (b := 1) (by omega)] at h2
      obtain ⟨i, hi, rfl⟩ := jix2 (n := pa - 1) (by omega) h1 h2
      exact ⟨i, by omega, rfl⟩
  · rintro ⟨i, hi, rfl⟩
    show (0 : Int64) ≤ (nI i).toInt64 ∧ (nI i).toInt64 ≤ K 5 - 1
    rw [h5, show lN pa - 1 = lN (pa - 1) from lN_sub (b := 1) (by omega), nI_l (by omega)]
    exact ⟨(pk_lLE (a := 0) (by omega) (by omega)).mpr (by omega), (pk_lLE (by omega) (by omega)).mpr (by omega)⟩
theorem hasQ_x {pa : Nat} {p : Int32} (hpa : pa ≤ 24) : (¬ p < 0 ∧ p < nI pa) ↔ ∃ i, i < pa ∧ p = nI i := by
  constructor
  · rintro ⟨h1, h2⟩
    obtain ⟨i, hi, rfl⟩ := nI_of h1
    exact ⟨i, (nI_ltI hi (by omega)).mp h2, rfl⟩
  · rintro ⟨i, hi, rfl⟩
    exact ⟨nI_nneg (by omega), nI_lt hi (by omega)⟩
def sPersonIs (N : Nat → Int64) (p x : Int32) : sA := if okP N p ∧ okW x 7 then (N (10 + 10 * p.toNatClampNeg + x.toNatClampNeg), false, N) else (-100001, true, N)
theorem tl_p {w q pr lw : Nat} {M : jM} {K : Nat → Int64} (hM : vK w q pr lw M = K) {i f : Nat} (hi : i < 10) (hf : f < 10) : (if 1 ≤ f ∧ f ≤ 5 then (M.1 (q + 2 + i) f).toInt64 else M.2.1 (q + 2 + i) f) = K (10 + 10 * i + f) := by
  rw [← hM]
  by_cases c : 1 ≤ f ∧ f ≤ 5
  · rw [if_pos c, vK_pI hi c]
  · rw [if_neg c, vK_pL hi (by omega)]
theorem tl_q {w q pr lw : Nat} {M : jM} {K : Nat → Int64} (hM : vK w q pr lw M = K) {j f : Nat} (hj : j < 24) (hf : f < 7) : (if f = 3 then M.2.1 (q + 12 + j) f else (M.1 (q + 12 + j) f).toInt64) = K (110 + 7 * j + f) := by
  rw [← hM]
  by_cases c : f = 3
  · subst c; rw [if_pos rfl, vK_qL hj]
  · rw [if_neg c, vK_qI hj (by omega)]
theorem as_x {kd : Nat} {x : Int32} {y : Int64} (hy : y = lN kd) (hk5 : kd ≤ 5) (hx : okW x 5) : (x = nI 0 ∨ x = nI kd ∨ (x = nI 1 ∧ 2 ≤ kd ∧ kd ≤ 4)) ↔ (x = 0 ∨ y = x.toInt64 ∨ (x = nI 1 ∧ (2 : Int64) ≤ y ∧ y ≤ 4)) := by
  subst hy
  obtain ⟨v, hv, rfl⟩ := jix2 (n := 5) (by omega) hx.1 hx.2
  rw [nI_l (by omega), show (0 : Int32) = nI 0 from rfl, nI_eq (by omega) (by omega), nI_eq (by omega) (by omega), nI_eq (by omega) (by omega), pk_lEQ (by omega) (by omega), show (2 : Int64) = lN 2 from rfl, show (4 : Int64) = lN 4 from rfl, pk_lLE (by omega) (by omega), pk_lLE (by omega) (by omega)]
  omega
set_option maxRecDepth 100000 in
set_option maxHeartbeats 4000000 in
theorem ctX10_personIs {G : jG} {sz : Nat} {Sh : jS} {M : jM} {mm w q pr lw jg mk : Nat} (hs : (Sh mm).1 = 10) (hb0 : M.2.2 mm 0 = some w) {K : Nat → Int64} (hW : wLay w q pr lw jg mk Sh M) (hM : vK w q pr lw M = K) {pe : Nat} (h4 : K 4 = lN pe) (hpe : pe ≤ 10) {p x : Int32} : jC G yX10_personIs cX10_personIs 3 (Option.some FieldType.long) (jrm 2 0 0) sz Sh M [.ref mm, .int p, .int x] (jR (some (.long (sPersonIs K p x).1)) sz Sh (xB mm M (sPersonIs K p x).2.1)) := by
  refine jC_start (by decide +kernel) (Nat.le_of_ble_eq_true rfl) (fun X C E hN0 => ?_)
  refine j_aload_n (q := 1) C dX10_personIs_0 rfl rfl rfl ?_
  refine jg_MM_now (q := 4) C dX10_personIs_1 rfl hs kw_266 hb0 ?_
  refine j_iload_n (q := 5) C dX10_personIs_4 rfl rfl rfl ?_
  refine jV1 jc9 (q := 8) C dX10_personIs_5 rfl hW.1.1 mX9_hasPerson kw_300 kw_301 kw_302 (ctX9_hasPerson hW hM h4) rfl rfl (by decide) (Nat.le_of_ble_eq_true rfl) (by decide) ?_
  refine j_if_eq (q := 11) (tgt := 23) C dX10_personIs_8 rfl (by decide) (fun c_8 => ?_) (fun c_8 => ?_)
  · refine j_aload_n (q := 24) C dX10_personIs_23 rfl rfl rfl ?_
    refine j_ldc2 (q := 27) C dX10_personIs_24 rfl kw_283 ?_
    refine jV1 jc10 (q := 30) C dX10_personIs_27 rfl hs mX10_found kw_284 kw_285 kw_0 (ctX10_found hs) rfl rfl (by decide) (Nat.le_of_ble_eq_true rfl) (by decide) ?_
    exact j_lret C E dX10_personIs_30 rfl rfl (xp_b (if_neg (fun h => jb_0.mp c_8 ((hasP_x hpe).mpr ((okP_x h4 hpe).mp (h.1))))))
  · obtain ⟨i, hi0, rfl⟩ := (hasP_x hpe).mp (jb_n.mp c_8)
    have hi : i < 10 := by omega
    have ei : (nI i).toNatClampNeg = i := nI_clamp (by omega)
    have hok : okP K (nI i) := (okP_x h4 hpe).mpr ⟨i, hi0, rfl⟩
    refine j_iload_n (q := 12) C dX10_personIs_11 rfl rfl rfl ?_
    first | refine j_i2lN (q := 13) C dX10_personIs_12 rfl (by omega) ?_ | refine j_i2l (q := 13) C dX10_personIs_12 rfl rfl ?_
    refine j_lconst (v := 0) (q := 14) C dX10_personIs_13 rfl (by decide) ?_
    refine j_ldc2 (q := 17) C dX10_personIs_14 rfl kw_316 ?_
    refine jS1 (q := 20) C dX10_personIs_17 rfl mX10_within kw_278 kw_279 ctX10_within rfl rfl (by decide) (Nat.le_of_ble_eq_true rfl) (by decide) ?_
    refine j_if_ne (q := 23) (tgt := 31) C dX10_personIs_20 rfl (by decide) (fun c_20 => ?_) (fun c_20 => ?_)
    · have hx := jb_n.mp c_20
      obtain ⟨v, hv, rfl⟩ := jix2 (n := 7) (by omega) hx.1 hx.2
      have ev : (nI v).toNatClampNeg = v := nI_clamp (by omega)
      refine j_aload_n (q := 32) C dX10_personIs_31 rfl rfl rfl ?_
      refine jg_MM_now (q := 35) C dX10_personIs_32 rfl hs kw_266 hb0 ?_
      refine jg_World_persons (q := 38) C dX10_personIs_35 rfl hW.1.1 kw_193 hW.2.1.1 ?_
      refine j_iload_n (q := 39) C dX10_personIs_38 rfl rfl rfl ?_
      refine wa_pers hW (by omega) (q' := 40) C dX10_personIs_39 rfl ?_
      refine j_iload_n (q := 41) C dX10_personIs_40 rfl rfl rfl ?_
      refine jV1 jc6 (q := 44) C dX10_personIs_41 rfl (hW.1.2.2.2.2.2.2.2.1 _ (by omega)) mX6_tell kw_317 kw_318 kw_319 (ctX6_tell (k := v) (hW.1.2.2.2.2.2.2.2.1 i (by omega)) (by omega)) rfl rfl (by decide) (Nat.le_of_ble_eq_true rfl) (by decide) ?_
      rw [tl_p hM hi (by omega)]
      exact j_lret C E dX10_personIs_44 rfl rfl (xp_o (by unfold sPersonIs; rw [if_pos ⟨hok, hx⟩, ei, ev]))
    · refine j_aload_n (q := 24) C dX10_personIs_23 rfl rfl rfl ?_
      refine j_ldc2 (q := 27) C dX10_personIs_24 rfl kw_283 ?_
      refine jV1 jc10 (q := 30) C dX10_personIs_27 rfl hs mX10_found kw_284 kw_285 kw_0 (ctX10_found hs) rfl rfl (by decide) (Nat.le_of_ble_eq_true rfl) (by decide) ?_
      exact j_lret C E dX10_personIs_30 rfl rfl (xp_b (if_neg (fun h => jb_0.mp c_20 h.2)))

set_option maxRecDepth 100000 in
set_option maxHeartbeats 4000000 in
theorem ctX10_paperIs {G : jG} {sz : Nat} {Sh : jS} {M : jM} {mm w q pr lw jg mk : Nat} (hs : (Sh mm).1 = 10) (hb0 : M.2.2 mm 0 = some w) {K : Nat → Int64} (hW : wLay w q pr lw jg mk Sh M) (hM : vK w q pr lw M = K) {pa : Nat} (h5 : K 5 = lN pa) (hpa : pa ≤ 24) {p x : Int32} : jC G yX10_paperIs cX10_paperIs 3 (Option.some FieldType.long) (jrm 2 0 0) sz Sh M [.ref mm, .int p, .int x] (jR (some (.long (sPaperIs K p x).1)) sz Sh (xB mm M (sPaperIs K p x).2.1)) := by
  refine jC_start (by decide +kernel) (Nat.le_of_ble_eq_true rfl) (fun X C E hN0 => ?_)
  refine j_aload_n (q := 1) C dX10_paperIs_0 rfl rfl rfl ?_
  refine jg_MM_now (q := 4) C dX10_paperIs_1 rfl hs kw_266 hb0 ?_
  refine j_iload_n (q := 5) C dX10_paperIs_4 rfl rfl rfl ?_
  refine jV1 jc9 (q := 8) C dX10_paperIs_5 rfl hW.1.1 mX9_hasPaper kw_340 kw_341 kw_342 (ctX9_hasPaper hW hM h5) rfl rfl (by decide) (Nat.le_of_ble_eq_true rfl) (by decide) ?_
  refine j_if_eq (q := 11) (tgt := 23) C dX10_paperIs_8 rfl (by decide) (fun c_8 => ?_) (fun c_8 => ?_)
  · refine j_aload_n (q := 24) C dX10_paperIs_23 rfl rfl rfl ?_
    refine j_ldc2 (q := 27) C dX10_paperIs_24 rfl kw_283 ?_
    refine jV1 jc10 (q := 30) C dX10_paperIs_27 rfl hs mX10_found kw_284 kw_285 kw_0 (ctX10_found hs) rfl rfl (by decide) (Nat.le_of_ble_eq_true rfl) (by decide) ?_
    exact j_lret C E dX10_paperIs_30 rfl rfl (xp_b (if_neg (fun h => jb_0.mp c_8 ((hasQ_x hpa).mpr ((okQ_x h5 hpa).mp (h.1))))))
  · obtain ⟨j, hj0, rfl⟩ := (hasQ_x hpa).mp (jb_n.mp c_8)
    have hj : j < 24 := by omega
    have ej : (nI j).toNatClampNeg = j := nI_clamp (by omega)
    have hok : okQ K (nI j) := (okQ_x h5 hpa).mpr ⟨j, hj0, rfl⟩
    refine j_iload_n (q := 12) C dX10_paperIs_11 rfl rfl rfl ?_
    first | refine j_i2lN (q := 13) C dX10_paperIs_12 rfl (by omega) ?_ | refine j_i2l (q := 13) C dX10_paperIs_12 rfl rfl ?_
    refine j_lconst (v := 0) (q := 14) C dX10_paperIs_13 rfl (by decide) ?_
    refine j_ldc2 (q := 17) C dX10_paperIs_14 rfl kw_353 ?_
    refine jS1 (q := 20) C dX10_paperIs_17 rfl mX10_within kw_278 kw_279 ctX10_within rfl rfl (by decide) (Nat.le_of_ble_eq_true rfl) (by decide) ?_
    refine j_if_ne (q := 23) (tgt := 31) C dX10_paperIs_20 rfl (by decide) (fun c_20 => ?_) (fun c_20 => ?_)
    · have hx := jb_n.mp c_20
      obtain ⟨v, hv, rfl⟩ := jix2 (n := 6) (by omega) hx.1 hx.2
      have ev : (nI v).toNatClampNeg = v := nI_clamp (by omega)
      refine j_aload_n (q := 32) C dX10_paperIs_31 rfl rfl rfl ?_
      refine jg_MM_now (q := 35) C dX10_paperIs_32 rfl hs kw_266 hb0 ?_
      refine jg_World_papers (q := 38) C dX10_paperIs_35 rfl hW.1.1 kw_196 hW.2.1.2.1 ?_
      refine j_iload_n (q := 39) C dX10_paperIs_38 rfl rfl rfl ?_
      refine wa_pap hW (by omega) (q' := 40) C dX10_paperIs_39 rfl ?_
      refine j_iload_n (q := 41) C dX10_paperIs_40 rfl rfl rfl ?_
      refine jV1 jc5 (q := 44) C dX10_paperIs_41 rfl (hW.1.2.2.2.2.2.2.2.2 _ (by omega)) mX5_tell kw_354 kw_355 kw_356 (ctX5_tell (k := v) (hW.1.2.2.2.2.2.2.2.2 j (by omega)) (by omega)) rfl rfl (by decide) (Nat.le_of_ble_eq_true rfl) (by decide) ?_
      rw [tl_q hM hj (by omega)]
      exact j_lret C E dX10_paperIs_44 rfl rfl (xp_o (by unfold sPaperIs; rw [if_pos ⟨hok, hx⟩, ej, ev]))
    · refine j_aload_n (q := 24) C dX10_paperIs_23 rfl rfl rfl ?_
      refine j_ldc2 (q := 27) C dX10_paperIs_24 rfl kw_283 ?_
      refine jV1 jc10 (q := 30) C dX10_paperIs_27 rfl hs mX10_found kw_284 kw_285 kw_0 (ctX10_found hs) rfl rfl (by decide) (Nat.le_of_ble_eq_true rfl) (by decide) ?_
      exact j_lret C E dX10_paperIs_30 rfl rfl (xp_b (if_neg (fun h => jb_0.mp c_20 h.2)))

set_option maxRecDepth 100000 in
set_option maxHeartbeats 4000000 in
theorem ctX10_as {G : jG} {sz : Nat} {Sh : jS} {M : jM} {mm w q pr lw jg mk : Nat} (hs : (Sh mm).1 = 10) (hb0 : M.2.2 mm 0 = some w) {K : Nat → Int64} (hW : wLay w q pr lw jg mk Sh M) (hM : vK w q pr lw M = K) {pa : Nat} (h5 : K 5 = lN pa) (hpa : pa ≤ 24) (hkd : ∀ j, j < pa → ∃ kd, K (110 + 7 * j + 0) = lN kd ∧ kd ≤ 5) {p x : Int32} : jC G yX10_as cX10_as 3 (Option.some FieldType.long) (jrm 2 0 0) sz Sh M [.ref mm, .int p, .int x] (jR (some (.long (sAs K p x).1)) sz Sh (xB mm M (sAs K p x).2.1)) := by
  refine jC_start (by decide +kernel) (Nat.le_of_ble_eq_true rfl) (fun X C E hN0 => ?_)
  refine j_aload_n (q := 1) C dX10_as_0 rfl rfl rfl ?_
  refine jg_MM_now (q := 4) C dX10_as_1 rfl hs kw_266 hb0 ?_
  refine j_iload_n (q := 5) C dX10_as_4 rfl rfl rfl ?_
  refine jV1 jc9 (q := 8) C dX10_as_5 rfl hW.1.1 mX9_hasPaper kw_340 kw_341 kw_342 (ctX9_hasPaper hW hM h5) rfl rfl (by decide) (Nat.le_of_ble_eq_true rfl) (by decide) ?_
  refine j_if_eq (q := 11) (tgt := 23) C dX10_as_8 rfl (by decide) (fun c_8 => ?_) (fun c_8 => ?_)
  · refine j_aload_n (q := 24) C dX10_as_23 rfl rfl rfl ?_
    refine j_ldc2 (q := 27) C dX10_as_24 rfl kw_283 ?_
    refine jV1 jc10 (q := 30) C dX10_as_27 rfl hs mX10_found kw_284 kw_285 kw_0 (ctX10_found hs) rfl rfl (by decide) (Nat.le_of_ble_eq_true rfl) (by decide) ?_
    exact j_lret C E dX10_as_30 rfl rfl (xp_b (if_neg (fun h => jb_0.mp c_8 ((hasQ_x hpa).mpr ((okQ_x h5 hpa).mp (h.1))))))
  · obtain ⟨j, hj0, rfl⟩ := (hasQ_x hpa).mp (jb_n.mp c_8)
    have hj : j < 24 := by omega
    have ej : (nI j).toNatClampNeg = j := nI_clamp (by omega)
    have hok : okQ K (nI j) := (okQ_x h5 hpa).mpr ⟨j, hj0, rfl⟩
    refine j_iload_n (q := 12) C dX10_as_11 rfl rfl rfl ?_
    first | refine j_i2lN (q := 13) C dX10_as_12 rfl (by omega) ?_ | refine j_i2l (q := 13) C dX10_as_12 rfl rfl ?_
    refine j_lconst (v := 0) (q := 14) C dX10_as_13 rfl (by decide) ?_
    refine j_ldc2 (q := 17) C dX10_as_14 rfl kw_329 ?_
    refine jS1 (q := 20) C dX10_as_17 rfl mX10_within kw_278 kw_279 ctX10_within rfl rfl (by decide) (Nat.le_of_ble_eq_true rfl) (by decide) ?_
    refine j_if_ne (q := 23) (tgt := 31) C dX10_as_20 rfl (by decide) (fun c_20 => ?_) (fun c_20 => ?_)
    · have hx := jb_n.mp c_20
      obtain ⟨kd, hk, hk5⟩ := hkd j hj0
      have hkM := (kqE hM hj (f := 0) (by omega) (by omega)).mpr hk
      refine j_aload_n (q := 32) C dX10_as_31 rfl rfl rfl ?_
      refine jg_MM_now (q := 35) C dX10_as_32 rfl hs kw_266 hb0 ?_
      refine jg_World_papers (q := 38) C dX10_as_35 rfl hW.1.1 kw_196 hW.2.1.2.1 ?_
      refine j_iload_n (q := 39) C dX10_as_38 rfl rfl rfl ?_
      refine wa_pap hW (by omega) (q' := 40) C dX10_as_39 rfl ?_
      refine j_iload_n (q := 41) C dX10_as_40 rfl rfl rfl ?_
      refine jV1 jc5 (q := 44) C dX10_as_41 rfl (hW.1.2.2.2.2.2.2.2.2 _ (by omega)) mX5_isUnder kw_344 kw_345 kw_346 (ctX5_isUnder (hW.1.2.2.2.2.2.2.2.2 j (by omega)) hkM hk5) rfl rfl (by decide) (Nat.le_of_ble_eq_true rfl) (by decide) ?_
      refine j_if_ne (q := 47) (tgt := 55) C dX10_as_44 rfl (by decide) (fun c_44 => ?_) (fun c_44 => ?_)
      · refine j_iload_n (q := 56) C dX10_as_55 rfl rfl rfl ?_
        first | refine j_i2lN (q := 57) C dX10_as_56 rfl (by omega) ?_ | refine j_i2l (q := 57) C dX10_as_56 rfl rfl ?_
        exact j_lret C E dX10_as_57 rfl rfl (xp_o (by unfold sAs; rw [if_pos ⟨hok, hx⟩, ej, if_pos ((as_x (y := K (110 + 7 * j)) hk hk5 hx).mp (jb_n.mp c_44)), nI_l (by omega)]))
      · refine j_aload_n (q := 48) C dX10_as_47 rfl rfl rfl ?_
        refine j_ldc2 (q := 51) C dX10_as_48 rfl kw_348 ?_
        refine jV1 jc10 (q := 54) C dX10_as_51 rfl hs mX10_found kw_284 kw_285 kw_0 (ctX10_found hs) rfl rfl (by decide) (Nat.le_of_ble_eq_true rfl) (by decide) ?_
        exact j_lret C E dX10_as_54 rfl rfl (xp_b (by unfold sAs; rw [if_pos ⟨hok, hx⟩, ej, if_neg (fun h => jb_0.mp c_44 ((as_x (y := K (110 + 7 * j)) hk hk5 hx).mpr h))]))
    · refine j_aload_n (q := 24) C dX10_as_23 rfl rfl rfl ?_
      refine j_ldc2 (q := 27) C dX10_as_24 rfl kw_283 ?_
      refine jV1 jc10 (q := 30) C dX10_as_27 rfl hs mX10_found kw_284 kw_285 kw_0 (ctX10_found hs) rfl rfl (by decide) (Nat.le_of_ble_eq_true rfl) (by decide) ?_
      exact j_lret C E dX10_as_30 rfl rfl (xp_b (if_neg (fun h => jb_0.mp c_20 h.2)))

set_option maxRecDepth 100000 in
set_option maxHeartbeats 4000000 in
theorem ctX10_count {G : jG} {sz : Nat} {Sh : jS} {M : jM} {mm w q pr lw jg mk : Nat} (hs : (Sh mm).1 = 10) (hb0 : M.2.2 mm 0 = some w) {K : Nat → Int64} (hW : wLay w q pr lw jg mk Sh M) (hM : vK w q pr lw M = K) {pe : Nat} (h4 : K 4 = lN pe) (hpe : pe ≤ 10) {pa : Nat} (h5 : K 5 = lN pa) (hpa : pa ≤ 24) {d : Nat} (hd : K 0 = lN d) (hd3 : d ≤ 300) {x : Int32} : jC G yX10_count cX10_count 2 (Option.some FieldType.long) (jrm 4 0 0) sz Sh M [.ref mm, .int x] (jR (some (.long (sCount K pe pa (M.2.1 mm 6) x).1)) sz Sh (xB mm M (sCount K pe pa (M.2.1 mm 6) x).2.1)) := by
  refine jC_start (by decide +kernel) (Nat.le_of_ble_eq_true rfl) (fun X C E hN0 => ?_)
  refine j_iload_n (q := 1) C dX10_count_0 rfl rfl rfl ?_
  first | refine j_i2lN (q := 2) C dX10_count_1 rfl (by omega) ?_ | refine j_i2l (q := 2) C dX10_count_1 rfl rfl ?_
  refine j_lconst (v := 0) (q := 3) C dX10_count_2 rfl (by decide) ?_
  refine j_ldc2 (q := 6) C dX10_count_3 rfl kw_706 ?_
  refine jS1 (q := 9) C dX10_count_6 rfl mX10_within kw_278 kw_279 ctX10_within rfl rfl (by decide) (Nat.le_of_ble_eq_true rfl) (by decide) ?_
  refine j_if_ne (q := 12) (tgt := 20) C dX10_count_9 rfl (by decide) (fun c_9 => ?_) (fun c_9 => ?_)
  · have hx := jb_n.mp c_9
    obtain ⟨v, hv, rfl⟩ := jix2 (n := 9) (by omega) hx.1 hx.2
    have ev : (nI v).toNatClampNeg = v := nI_clamp (by omega)
    refine j_iload_n (q := 21) C dX10_count_20 rfl rfl rfl ?_
    refine j_bipush (v := nI 9) (q := 23) C dX10_count_21 rfl (by decide) ?_
    refine j_icmp_ne (q := 26) (tgt := 33) C dX10_count_23 rfl (by decide) (fun c_23 => ?_) (fun c_23 => ?_)
    · have hv9 : v ≤ 8 := by
        rcases Nat.lt_or_ge v 9 with e | e
        · omega
        · exact absurd (show nI v = nI 9 by rw [show v = 9 by omega]) c_23
      refine j_aload_n (q := 34) C dX10_count_33 rfl rfl rfl ?_
      refine jg_MM_now (q := 37) C dX10_count_34 rfl hs kw_266 hb0 ?_
      refine j_iload_n (q := 38) C dX10_count_37 rfl rfl rfl ?_
      refine jV1 jc9 (q := 41) C dX10_count_38 rfl hW.1.1 mX9_tally kw_850 kw_851 kw_852 (ctX9_tally hW hM h4 hpe h5 hpa hd hd3 hv9) rfl rfl (by decide) (Nat.le_of_ble_eq_true rfl) (by decide) ?_
      exact j_lret C E dX10_count_41 rfl rfl (xp_o (by unfold sCount; rw [if_pos (show okW (nI v) 9 from hx), if_neg c_23, ev]))
    · refine j_aload_n (q := 27) C dX10_count_26 rfl rfl rfl ?_
      refine jg_MM_findings (q := 30) C dX10_count_27 rfl hs kw_272 ?_
      refine j_goto (tgt := 41) C dX10_count_30 (by decide) ?_
      exact j_lret C E dX10_count_41 rfl rfl (xp_o (by unfold sCount; rw [if_pos (show okW (nI v) 9 from hx), if_pos c_23]))
  · refine j_aload_n (q := 13) C dX10_count_12 rfl rfl rfl ?_
    refine j_ldc2 (q := 16) C dX10_count_13 rfl kw_283 ?_
    refine jV1 jc10 (q := 19) C dX10_count_16 rfl hs mX10_found kw_284 kw_285 kw_0 (ctX10_found hs) rfl rfl (by decide) (Nat.le_of_ble_eq_true rfl) (by decide) ?_
    exact j_lret C E dX10_count_19 rfl rfl (xp_b (if_neg (fun h => jb_0.mp c_9 h)))

set_option maxRecDepth 100000 in
set_option maxHeartbeats 4000000 in
theorem ctX10_law {G : jG} {sz : Nat} {Sh : jS} {M : jM} {mm w q pr lw jg mk : Nat} (hs : (Sh mm).1 = 10) (hb0 : M.2.2 mm 0 = some w) {K : Nat → Int64} (hW : wLay w q pr lw jg mk Sh M) (hM : vK w q pr lw M = K) {la : Nat} (h6 : K 6 = lN la) (hla : la ≤ 12) (hL : lLay lw Sh M) {c e : Int32} : jC G yX10_law cX10_law 4 (Option.some FieldType.long) (jrm 3 0 0) sz Sh M [.ref mm, .int c, .int e] (jR (some (.long (sLaw K la c e).1)) sz Sh (xB mm M (sLaw K la c e).2.1)) := by
  refine jC_start (by decide +kernel) (Nat.le_of_ble_eq_true rfl) (fun X C E hN0 => ?_)
  refine j_iload_n (q := 1) C dX10_law_0 rfl rfl rfl ?_
  refine jS1 (q := 4) C dX10_law_1 rfl mX10_isCourt kw_362 kw_363 ctX10_isCourt rfl rfl (by decide) (Nat.le_of_ble_eq_true rfl) (by decide) ?_
  refine j_if_eq (q := 7) (tgt := 19) C dX10_law_4 rfl (by decide) (fun c_4 => ?_) (fun c_4 => ?_)
  · refine j_aload_n (q := 20) C dX10_law_19 rfl rfl rfl ?_
    refine j_ldc2 (q := 23) C dX10_law_20 rfl kw_283 ?_
    refine jV1 jc10 (q := 26) C dX10_law_23 rfl hs mX10_found kw_284 kw_285 kw_0 (ctX10_found hs) rfl rfl (by decide) (Nat.le_of_ble_eq_true rfl) (by decide) ?_
    exact j_lret C E dX10_law_26 rfl rfl (xp_b (if_neg (fun h => jb_0.mp c_4 h.1)))
  · refine j_iload_n (q := 8) C dX10_law_7 rfl rfl rfl ?_
    first | refine j_i2lN (q := 9) C dX10_law_8 rfl (by omega) ?_ | refine j_i2l (q := 9) C dX10_law_8 rfl rfl ?_
    refine j_lconst (v := 0) (q := 10) C dX10_law_9 rfl (by decide) ?_
    refine j_ldc2 (q := 13) C dX10_law_10 rfl kw_330 ?_
    refine jS1 (q := 16) C dX10_law_13 rfl mX10_within kw_278 kw_279 ctX10_within rfl rfl (by decide) (Nat.le_of_ble_eq_true rfl) (by decide) ?_
    refine j_if_ne (q := 19) (tgt := 27) C dX10_law_16 rfl (by decide) (fun c_16 => ?_) (fun c_16 => ?_)
    · have hx := jb_n.mp c_4
      have hz := jb_n.mp c_16
      refine j_aload_n (q := 28) C dX10_law_27 rfl rfl rfl ?_
      refine jg_MM_now (q := 31) C dX10_law_28 rfl hs kw_266 hb0 ?_
      refine jg_World_laws (q := 34) C dX10_law_31 rfl hW.1.1 kw_199 hW.2.1.2.2.1 ?_
      refine j_iload_n (q := 35) C dX10_law_34 rfl rfl rfl ?_
      refine j_iload_n (q := 36) C dX10_law_35 rfl rfl rfl ?_
      refine jV1 jc3 (q := 39) C dX10_law_36 rfl hL.1 mX3_latest kw_599 kw_386 kw_387 (ctX3_latest hM hL h6 hla) rfl rfl (by decide) (Nat.le_of_ble_eq_true rfl) (by decide) ?_
      refine j_istore_n (lv' := [(3, _), (0, _), (1, _), (2, _)]) (q := 40) C dX10_law_39 rfl rfl (by decide) rfl ?_
      refine j_iload_n (q := 41) C dX10_law_40 rfl rfl rfl ?_
      refine j_if_ge (q := 44) (tgt := 52) C dX10_law_41 rfl (by decide) (fun c_41 => ?_) (fun c_41 => ?_)
      · refine j_iload_n (q := 53) C dX10_law_52 rfl rfl rfl ?_
        first | refine j_i2lN (q := 54) C dX10_law_53 rfl (by omega) ?_ | refine j_i2l (q := 54) C dX10_law_53 rfl rfl ?_
        exact j_lret C E dX10_law_54 rfl rfl (xp_o (by unfold sLaw; rw [if_pos ⟨hx, hz⟩, if_neg (Int32.not_lt.mpr c_41)]))
      · refine j_aload_n (q := 45) C dX10_law_44 rfl rfl rfl ?_
        refine j_ldc2 (q := 48) C dX10_law_45 rfl kw_369 ?_
        refine jV1 jc10 (q := 51) C dX10_law_48 rfl hs mX10_found kw_284 kw_285 kw_0 (ctX10_found hs) rfl rfl (by decide) (Nat.le_of_ble_eq_true rfl) (by decide) ?_
        exact j_lret C E dX10_law_51 rfl rfl (xp_b (by unfold sLaw; rw [if_pos ⟨hx, hz⟩, if_pos (Int32.not_le.mp c_41)]))
    · refine j_aload_n (q := 20) C dX10_law_19 rfl rfl rfl ?_
      refine j_ldc2 (q := 23) C dX10_law_20 rfl kw_283 ?_
      refine jV1 jc10 (q := 26) C dX10_law_23 rfl hs mX10_found kw_284 kw_285 kw_0 (ctX10_found hs) rfl rfl (by decide) (Nat.le_of_ble_eq_true rfl) (by decide) ?_
      exact j_lret C E dX10_law_26 rfl rfl (xp_b (if_neg (fun h => jb_0.mp c_16 h.2)))

set_option maxRecDepth 100000 in
set_option maxHeartbeats 4000000 in
theorem ctX10_tax {G : jG} {sz : Nat} {Sh : jS} {M : jM} {mm w q pr lw jg mk : Nat} (hs : (Sh mm).1 = 10) (hb0 : M.2.2 mm 0 = some w) {K : Nat → Int64} (hW : wLay w q pr lw jg mk Sh M) (hM : vK w q pr lw M = K) {pe : Nat} (h4 : K 4 = lN pe) (hpe : pe ≤ 10) : jC G yX10_tax cX10_tax 1 (Option.some FieldType.long) (jrm 3 0 0) sz Sh M [.ref mm] (jT sz Sh (xW (wS0 w q pr) mm w q pr lw M (((nTx K pe).1, false, nTaxed K pe)))) := by
  refine jC_start (by decide +kernel) (Nat.le_of_ble_eq_true rfl) (fun X C E hN0 => ?_)
  have hE : mEq (wS0 w q pr) M M := mEq.rf
  have hSS : ∀ b, wS0 w q pr b → wS0 w q pr b := fun _ h => h
  refine j_aload_n (q := 1) C dX10_tax_0 rfl rfl rfl ?_
  refine jg_MM_now (q := 4) C dX10_tax_1 rfl hs kw_266 ((congrFun (congrFun hE.2.2 mm) 0).trans hb0) ?_
  refine jVT jc9 (q := 7) C dX10_tax_4 rfl hW.1.1 mX9_collectTax kw_696 kw_697 kw_698 (ctX9_collectTax hW hM h4 hpe) rfl rfl (by decide) (Nat.le_of_ble_eq_true rfl) (by decide) (fun r_4 M_4 h_4 => ?_)
  obtain ⟨rfl, hM, hE2⟩ := h_4
  replace hE := hE.tr hE2
  replace hW := hW.mv hE2
  exact j_lret C E dX10_tax_7 rfl rfl (xW_o rfl hM hE)

set_option maxRecDepth 100000 in
set_option maxHeartbeats 4000000 in
theorem ctX10_tear {G : jG} {sz : Nat} {Sh : jS} {M : jM} {mm w q pr lw jg mk : Nat} (hs : (Sh mm).1 = 10) (hb0 : M.2.2 mm 0 = some w) {K : Nat → Int64} (hW : wLay w q pr lw jg mk Sh M) (hM : vK w q pr lw M = K) {pa : Nat} (h5 : K 5 = lN pa) (hpa : pa ≤ 24) {p : Int32} : jC G yX10_tear cX10_tear 3 (Option.some FieldType.long) (jrm 2 0 0) sz Sh M [.ref mm, .int p] (jT sz Sh (xW (wS0 w q pr) mm w q pr lw M (sTear K p))) := by
  refine jC_start (by decide +kernel) (Nat.le_of_ble_eq_true rfl) (fun X C E hN0 => ?_)
  have hE : mEq (wS0 w q pr) M M := mEq.rf
  have hSS : ∀ b, wS0 w q pr b → wS0 w q pr b := fun _ h => h
  refine j_aload_n (q := 1) C dX10_tear_0 rfl rfl rfl ?_
  refine jg_MM_now (q := 4) C dX10_tear_1 rfl hs kw_266 ((congrFun (congrFun hE.2.2 mm) 0).trans hb0) ?_
  refine j_iload_n (q := 5) C dX10_tear_4 rfl rfl rfl ?_
  refine jV1 jc9 (q := 8) C dX10_tear_5 rfl hW.1.1 mX9_hasPaper kw_340 kw_341 kw_342 (ctX9_hasPaper hW hM h5) rfl rfl (by decide) (Nat.le_of_ble_eq_true rfl) (by decide) ?_
  refine j_if_ne (q := 11) (tgt := 19) C dX10_tear_8 rfl (by decide) (fun c_8 => ?_) (fun c_8 => ?_)
  · obtain ⟨j, hj0, rfl⟩ := (hasQ_x hpa).mp (jb_n.mp c_8)
    have hj : j < 24 := by omega
    have ej : (nI j).toNatClampNeg = j := nI_clamp (by omega)
    have hok : okQ K (nI j) := (okQ_x h5 hpa).mpr ⟨j, hj0, rfl⟩
    refine j_aload_n (q := 20) C dX10_tear_19 rfl rfl rfl ?_
    refine jg_MM_now (q := 23) C dX10_tear_20 rfl hs kw_266 ((congrFun (congrFun hE.2.2 mm) 0).trans hb0) ?_
    refine jg_World_papers (q := 26) C dX10_tear_23 rfl hW.1.1 kw_196 hW.2.1.2.1 ?_
    refine j_iload_n (q := 27) C dX10_tear_26 rfl rfl rfl ?_
    refine wa_pap hW (by omega) (q' := 28) C dX10_tear_27 rfl ?_
    refine j_astore_n (lv' := [(2, _), (0, _), (1, _)]) (q := 29) C dX10_tear_28 rfl rfl (by decide) rfl ?_
    refine j_aload_n (q := 30) C dX10_tear_29 rfl rfl rfl ?_
    refine jV1 jc5 (q := 33) C dX10_tear_30 rfl (hW.1.2.2.2.2.2.2.2.2 _ (by omega)) mX5_isOpen kw_365 kw_366 kw_367 (ctX5_isOpen (hW.1.2.2.2.2.2.2.2.2 j (by omega))) rfl rfl (by decide) (Nat.le_of_ble_eq_true rfl) (by decide) ?_
    refine j_if_ne (q := 36) (tgt := 44) C dX10_tear_33 rfl (by decide) (fun c_33 => ?_) (fun c_33 => ?_)
    · have hop := (kqO hM hj).mp (jb_n.mp c_33)
      refine j_aload_n (q := 45) C dX10_tear_44 rfl rfl rfl ?_
      refine j_iconst (v := nI 2) (q := 46) C dX10_tear_45 rfl (by decide) ?_
      refine wp_Paper_state (by omega) hW hM hE hSS (q' := 49) C dX10_tear_46 rfl kw_190 (fun M hM hE hW => ?_)
      refine j_aload_n (q := 50) C dX10_tear_49 rfl rfl rfl ?_
      refine wg_Paper_sum (by omega) hW hM (q' := 53) C dX10_tear_50 rfl kw_182 ?_
      exact j_lret C E dX10_tear_53 rfl rfl (xW_o (by unfold sTear; rw [if_pos hok, ej, if_pos hop, va_up_ne _ _ (by omega)]; rfl) hM hE)
    · refine j_aload_n (q := 37) C dX10_tear_36 rfl rfl rfl ?_
      refine j_ldc2 (q := 40) C dX10_tear_37 rfl kw_369 ?_
      refine jV1 jc10 (q := 43) C dX10_tear_40 rfl hs mX10_found kw_284 kw_285 kw_0 (ctX10_found hs) rfl rfl (by decide) (Nat.le_of_ble_eq_true rfl) (by decide) ?_
      exact j_lret C E dX10_tear_43 rfl rfl (xW_b (by unfold sTear; rw [if_pos hok, ej, if_neg (fun h => jb_0.mp c_33 ((kqO hM hj).mpr h))]))
  · refine j_aload_n (q := 12) C dX10_tear_11 rfl rfl rfl ?_
    refine j_ldc2 (q := 15) C dX10_tear_12 rfl kw_283 ?_
    refine jV1 jc10 (q := 18) C dX10_tear_15 rfl hs mX10_found kw_284 kw_285 kw_0 (ctX10_found hs) rfl rfl (by decide) (Nat.le_of_ble_eq_true rfl) (by decide) ?_
    exact j_lret C E dX10_tear_18 rfl rfl (xW_b (if_neg (fun h => jb_0.mp c_8 ((hasQ_x hpa).mpr ((okQ_x h5 hpa).mp (h))))))

set_option maxRecDepth 100000 in
set_option maxHeartbeats 4000000 in
theorem ctX10_give {G : jG} {sz : Nat} {Sh : jS} {M : jM} {mm w q pr lw jg mk : Nat} (hs : (Sh mm).1 = 10) (hb0 : M.2.2 mm 0 = some w) {K : Nat → Int64} (hW : wLay w q pr lw jg mk Sh M) (hM : vK w q pr lw M = K) {pe : Nat} (h4 : K 4 = lN pe) (hpe : pe ≤ 10) {p : Int32} {v : Int64} : jC G yX10_give cX10_give 4 (Option.some FieldType.long) (jrm 2 0 0) sz Sh M [.ref mm, .int p, .long v] (jT sz Sh (xW (wS0 w q pr) mm w q pr lw M (sGive K p v))) := by
  refine jC_start (by decide +kernel) (Nat.le_of_ble_eq_true rfl) (fun X C E hN0 => ?_)
  have hE : mEq (wS0 w q pr) M M := mEq.rf
  have hSS : ∀ b, wS0 w q pr b → wS0 w q pr b := fun _ h => h
  refine j_aload_n (q := 1) C dX10_give_0 rfl rfl rfl ?_
  refine jg_MM_now (q := 4) C dX10_give_1 rfl hs kw_266 ((congrFun (congrFun hE.2.2 mm) 0).trans hb0) ?_
  refine j_iload_n (q := 5) C dX10_give_4 rfl rfl rfl ?_
  refine jV1 jc9 (q := 8) C dX10_give_5 rfl hW.1.1 mX9_hasPerson kw_300 kw_301 kw_302 (ctX9_hasPerson hW hM h4) rfl rfl (by decide) (Nat.le_of_ble_eq_true rfl) (by decide) ?_
  refine j_if_eq (q := 11) (tgt := 22) C dX10_give_8 rfl (by decide) (fun c_8 => ?_) (fun c_8 => ?_)
  · refine j_aload_n (q := 23) C dX10_give_22 rfl rfl rfl ?_
    refine j_ldc2 (q := 26) C dX10_give_23 rfl kw_283 ?_
    refine jV1 jc10 (q := 29) C dX10_give_26 rfl hs mX10_found kw_284 kw_285 kw_0 (ctX10_found hs) rfl rfl (by decide) (Nat.le_of_ble_eq_true rfl) (by decide) ?_
    exact j_lret C E dX10_give_29 rfl rfl (xW_b (if_neg (fun h => jb_0.mp c_8 ((hasP_x hpe).mpr ((okP_x h4 hpe).mp (h.1))))))
  · obtain ⟨i, hi0, rfl⟩ := (hasP_x hpe).mp (jb_n.mp c_8)
    have hi : i < 10 := by omega
    have ei : (nI i).toNatClampNeg = i := nI_clamp (by omega)
    have hok : okP K (nI i) := (okP_x h4 hpe).mpr ⟨i, hi0, rfl⟩
    refine j_lload_n (q := 12) C dX10_give_11 rfl rfl rfl ?_
    refine j_lconst (v := 1) (q := 13) C dX10_give_12 rfl (by decide) ?_
    refine j_ldc2 (q := 16) C dX10_give_13 rfl kw_277 ?_
    refine jS1 (q := 19) C dX10_give_16 rfl mX10_within kw_278 kw_279 ctX10_within rfl rfl (by decide) (Nat.le_of_ble_eq_true rfl) (by decide) ?_
    refine j_if_ne (q := 22) (tgt := 30) C dX10_give_19 rfl (by decide) (fun c_19 => ?_) (fun c_19 => ?_)
    · have hx := jb_n.mp c_19
      refine j_aload_n (q := 31) C dX10_give_30 rfl rfl rfl ?_
      refine jg_MM_now (q := 34) C dX10_give_31 rfl hs kw_266 ((congrFun (congrFun hE.2.2 mm) 0).trans hb0) ?_
      refine wg_World_state hW hM (q' := 37) C dX10_give_34 rfl kw_215 ?_
      refine j_lload_n (q := 38) C dX10_give_37 rfl rfl rfl ?_
      refine j_lcmp_ge (q1 := 39) (q := 42) (tgt := 50) C dX10_give_38 dX10_give_39 rfl rfl (by decide) (fun c_39 => ?_) (fun c_39 => ?_)
      · refine j_aload_n (q := 51) C dX10_give_50 rfl rfl rfl ?_
        refine jg_MM_now (q := 54) C dX10_give_51 rfl hs kw_266 ((congrFun (congrFun hE.2.2 mm) 0).trans hb0) ?_
        refine j_dup (q := 55) C dX10_give_54 rfl rfl ?_
        refine wg_World_state hW hM (q' := 58) C dX10_give_55 rfl kw_215 ?_
        refine j_lload_n (q := 59) C dX10_give_58 rfl rfl rfl ?_
        refine j_lsub (q := 60) C dX10_give_59 rfl ?_
        refine wp_World_state hW hM hE hSS (q' := 63) C dX10_give_60 rfl kw_215 (fun M hM hE hW => ?_)
        refine j_aload_n (q := 64) C dX10_give_63 rfl rfl rfl ?_
        refine jg_MM_now (q := 67) C dX10_give_64 rfl hs kw_266 ((congrFun (congrFun hE.2.2 mm) 0).trans hb0) ?_
        refine j_aload_n (q := 68) C dX10_give_67 rfl rfl rfl ?_
        refine jg_MM_now (q := 71) C dX10_give_68 rfl hs kw_266 ((congrFun (congrFun hE.2.2 mm) 0).trans hb0) ?_
        refine jg_World_persons (q := 74) C dX10_give_71 rfl hW.1.1 kw_193 hW.2.1.1 ?_
        refine j_iload_n (q := 75) C dX10_give_74 rfl rfl rfl ?_
        refine wa_pers hW (by omega) (q' := 76) C dX10_give_75 rfl ?_
        refine j_lload_n (q := 77) C dX10_give_76 rfl rfl rfl ?_
        refine jVT jc9 (q := 80) C dX10_give_77 rfl hW.1.1 mX9_credit kw_691 kw_427 kw_428 (ctX9_credit hW hM (i := i) (by omega)) rfl rfl (by decide) (Nat.le_of_ble_eq_true rfl) (by decide) (fun r_77 M_77 h_77 => ?_)
        obtain ⟨rfl, hM, hE2⟩ := h_77
        replace hE := hE.tr hE2
        replace hW := hW.mv hE2
        refine j_aload_n (q := 81) C dX10_give_80 rfl rfl rfl ?_
        refine jg_MM_now (q := 84) C dX10_give_81 rfl hs kw_266 ((congrFun (congrFun hE.2.2 mm) 0).trans hb0) ?_
        refine jg_World_persons (q := 87) C dX10_give_84 rfl hW.1.1 kw_193 hW.2.1.1 ?_
        refine j_iload_n (q := 88) C dX10_give_87 rfl rfl rfl ?_
        refine wa_pers hW (by omega) (q' := 89) C dX10_give_88 rfl ?_
        refine wg_Person_marks (by omega) hW hM (q' := 92) C dX10_give_89 rfl kw_145 ?_
        exact j_lret C E dX10_give_92 rfl rfl (xW_o (by unfold sGive; rw [if_pos ⟨hok, hx⟩, if_pos c_39, ei]; rfl) hM hE)
      · refine j_aload_n (q := 43) C dX10_give_42 rfl rfl rfl ?_
        refine j_ldc2 (q := 46) C dX10_give_43 rfl kw_420 ?_
        refine jV1 jc10 (q := 49) C dX10_give_46 rfl hs mX10_found kw_284 kw_285 kw_0 (ctX10_found hs) rfl rfl (by decide) (Nat.le_of_ble_eq_true rfl) (by decide) ?_
        exact j_lret C E dX10_give_49 rfl rfl (xW_b (by unfold sGive; rw [if_pos ⟨hok, hx⟩, if_neg c_39]))
    · refine j_aload_n (q := 23) C dX10_give_22 rfl rfl rfl ?_
      refine j_ldc2 (q := 26) C dX10_give_23 rfl kw_283 ?_
      refine jV1 jc10 (q := 29) C dX10_give_26 rfl hs mX10_found kw_284 kw_285 kw_0 (ctX10_found hs) rfl rfl (by decide) (Nat.le_of_ble_eq_true rfl) (by decide) ?_
      exact j_lret C E dX10_give_29 rfl rfl (xW_b (if_neg (fun h => jb_0.mp c_19 h.2)))

