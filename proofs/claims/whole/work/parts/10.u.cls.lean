set_option maxRecDepth 100000 in
set_option maxHeartbeats 4000000 in
theorem ctX10_thin {G : jG} {sz : Nat} {Sh : jS} {M : jM} {mm w q pr lw jg mk : Nat} (hs : (Sh mm).1 = 10) (hb0 : M.2.2 mm 0 = some w) {K : Nat → Int64} (hW : wLay w q pr lw jg mk Sh M) (hM : vK w q pr lw M = K) {pe : Nat} (h4 : K 4 = lN pe) (hpe : pe ≤ 10) {pa : Nat} (h5 : K 5 = lN pa) (hpa : pa ≤ 24) : jC G yX10_thin cX10_thin 4 (Option.some FieldType.long) (jrm 3 0 0) sz Sh M [.ref mm] (jR (some (.long (((nThin K pa pe, false, K) : sA)).1)) sz Sh (xB mm M (((nThin K pa pe, false, K) : sA)).2.1)) := by
  refine jC_start (by decide +kernel) (Nat.le_of_ble_eq_true rfl) (fun X C E hN0 => ?_)
  refine j_lconst (v := 0) (q := 1) C dX10_thin_0 rfl (by decide) ?_
  refine j_lstore_n (lv' := [(1, _), (0, _)]) (q := 2) C dX10_thin_1 rfl rfl (by decide) rfl ?_
  refine j_iconst (v := nI 0) (q := 3) C dX10_thin_2 rfl (by decide) ?_
  refine j_istore_n (lv' := [(3, _), (1, _), (0, _)]) (q := 4) C dX10_thin_3 rfl rfl (by decide) rfl ?_
  have loop4 : ∀ (n k : Nat), k + n = pe → jJ G X 0 0 sz Sh M 4 [(3, .int (nI k)), (1, .long (nThin K pa k)), (0, .ref mm)] [] := by
    intro n
    induction n with
    | zero =>
      intro k  hk
      refine j_iload_n (q := 5) C dX10_thin_4 rfl rfl rfl ?_
      refine j_aload_n (q := 6) C dX10_thin_5 rfl rfl rfl ?_
      refine jg_MM_now (q := 9) C dX10_thin_6 rfl hs kw_266 hb0 ?_
      refine wg_World_people hW hM (q' := 12) C dX10_thin_9 rfl kw_206 ?_
      refine j_top (v' := .int (nI pe)) (congrArg Value.int (k32 h4)) ?_
      refine j_icmp_ge (q := 15) (tgt := 38) C dX10_thin_12 rfl (by decide) (fun c_12 => ?_) (fun c_12 => absurd (nI_le (by omega) (by omega)) c_12)
      obtain rfl : pe = k := by omega
      refine j_lload_n (q := 39) C dX10_thin_38 rfl rfl rfl ?_
      exact j_lret C E dX10_thin_39 rfl rfl (xp_o rfl)
    | succ n ih =>
      intro k  hk
      refine j_iload_n (q := 5) C dX10_thin_4 rfl rfl rfl ?_
      refine j_aload_n (q := 6) C dX10_thin_5 rfl rfl rfl ?_
      refine jg_MM_now (q := 9) C dX10_thin_6 rfl hs kw_266 hb0 ?_
      refine wg_World_people hW hM (q' := 12) C dX10_thin_9 rfl kw_206 ?_
      refine j_top (v' := .int (nI pe)) (congrArg Value.int (k32 h4)) ?_
      refine j_icmp_ge (q := 15) (tgt := 38) C dX10_thin_12 rfl (by decide) (fun c_12 => absurd c_12 (fun h => absurd ((nI_leI (by omega) (by omega)).mp h) (by omega))) (fun c_12 => ?_)
      refine j_aload_n (q := 16) C dX10_thin_15 rfl rfl rfl ?_
      refine jg_MM_now (q := 19) C dX10_thin_16 rfl hs kw_266 hb0 ?_
      refine j_iload_n (q := 20) C dX10_thin_19 rfl rfl rfl ?_
      refine jV1 jc9 (q := 23) C dX10_thin_20 rfl hW.1.1 mX9_isThin kw_448 kw_449 kw_450 (ctX9_isThin hW hM h5 hpa (show k < 10 by omega)) rfl rfl (by decide) (Nat.le_of_ble_eq_true rfl) (by decide) ?_
      refine j_if_eq (q := 26) (tgt := 32) C dX10_thin_23 rfl (by decide) (fun c_23 => ?_) (fun c_23 => ?_)
      · first | refine j_iincN (lv' := [(3, _), (1, _), (0, _)]) (q := 35) C dX10_thin_32 rfl rfl (by decide) rfl ?_ | refine j_iinc (lv' := [(3, _), (1, _), (0, _)]) (q := 35) C dX10_thin_32 rfl rfl rfl (by decide) rfl ?_
        refine j_goto (tgt := 4) C dX10_thin_35 (by decide) ?_
        have eT : nThin K pa (k + 1) = nThin K pa k := by rw [nThin, if_neg (fun h => jb_0.mp c_23 h)]
        exact j_fewer (lv' := [(3, .int (nI (k + 1))), (1, .long (nThin K pa (k + 1))), (0, .ref mm)]) (by simp [eT]) (ih (k + 1) (by omega))
      · refine j_lload_n (q := 27) C dX10_thin_26 rfl rfl rfl ?_
        refine j_lconst (v := 1) (q := 28) C dX10_thin_27 rfl (by decide) ?_
        refine j_iload_n (q := 29) C dX10_thin_28 rfl rfl rfl ?_
        refine j_lshl (q := 30) C dX10_thin_29 rfl rfl ?_
        refine j_lor (q := 31) C dX10_thin_30 rfl ?_
        refine j_lstore_n (lv' := [(1, _), (3, _), (0, _)]) (q := 32) C dX10_thin_31 rfl rfl (by decide) rfl ?_
        first | refine j_iincN (lv' := [(3, _), (1, _), (0, _)]) (q := 35) C dX10_thin_32 rfl rfl (by decide) rfl ?_ | refine j_iinc (lv' := [(3, _), (1, _), (0, _)]) (q := 35) C dX10_thin_32 rfl rfl rfl (by decide) rfl ?_
        refine j_goto (tgt := 4) C dX10_thin_35 (by decide) ?_
        have eT : nThin K pa (k + 1) = nThin K pa k ||| 1 <<< ((nI k).toInt64 &&& 63) := by rw [nThin, if_pos (jb_n.mp c_23), lshl1 (show k < 10 by omega)]
        exact j_fewer (lv' := [(3, .int (nI (k + 1))), (1, .long (nThin K pa (k + 1))), (0, .ref mm)]) (by simp [eT]) (ih (k + 1) (by omega))
  exact j_fewer (lv' := [(3, .int (nI 0)), (1, .long (nThin K pa 0)), (0, .ref mm)]) (by simp [nThin]) (loop4 pe 0 (by omega))

theorem mh_x (x : Int32) : (if x = 0 then nI 10 else if x = nI 1 then nI 1000 else nI 99).toInt64 = lN (if x = 0 then 10 else if x = nI 1 then 1000 else 99) := by
  split
  · rfl
  · split <;> rfl
theorem hbF_x {v : Nat} (hv : v ≤ 2) : (if nI v = 0 then 3 else if nI v = nI 1 then 4 else 2) = hbF v := by
  rcases (show v = 0 ∨ v = 1 ∨ v = 2 by omega) with rfl | rfl | rfl <;> rfl
set_option maxRecDepth 100000 in
set_option maxHeartbeats 4000000 in
theorem ctX10_habit {G : jG} {sz : Nat} {Sh : jS} {M : jM} {mm w q pr lw jg mk : Nat} (hs : (Sh mm).1 = 10) (hb0 : M.2.2 mm 0 = some w) {K : Nat → Int64} (hW : wLay w q pr lw jg mk Sh M) (hM : vK w q pr lw M = K) {pe : Nat} (h4 : K 4 = lN pe) (hpe : pe ≤ 10) {p x v : Int32} : jC G yX10_habit cX10_habit 4 (Option.some FieldType.long) (jrm 2 0 0) sz Sh M [.ref mm, .int p, .int x, .int v] (jT sz Sh (xW (wS0 w q pr) mm w q pr lw M (sHabit K p x v))) := by
  refine jC_start (by decide +kernel) (Nat.le_of_ble_eq_true rfl) (fun X C E hN0 => ?_)
  have hE : mEq (wS0 w q pr) M M := mEq.rf
  have hSS : ∀ b, wS0 w q pr b → wS0 w q pr b := fun _ h => h
  refine j_aload_n (q := 1) C dX10_habit_0 rfl rfl rfl ?_
  refine jg_MM_now (q := 4) C dX10_habit_1 rfl hs kw_266 ((congrFun (congrFun hE.2.2 mm) 0).trans hb0) ?_
  refine j_iload_n (q := 5) C dX10_habit_4 rfl rfl rfl ?_
  refine jV1 jc9 (q := 8) C dX10_habit_5 rfl hW.1.1 mX9_hasPerson kw_300 kw_301 kw_302 (ctX9_hasPerson hW hM h4) rfl rfl (by decide) (Nat.le_of_ble_eq_true rfl) (by decide) ?_
  refine j_if_eq (q := 11) (tgt := 37) C dX10_habit_8 rfl (by decide) (fun c_8 => ?_) (fun c_8 => ?_)
  · refine j_aload_n (q := 38) C dX10_habit_37 rfl rfl rfl ?_
    refine j_ldc2 (q := 41) C dX10_habit_38 rfl kw_283 ?_
    refine jV1 jc10 (q := 44) C dX10_habit_41 rfl hs mX10_found kw_284 kw_285 kw_0 (ctX10_found hs) rfl rfl (by decide) (Nat.le_of_ble_eq_true rfl) (by decide) ?_
    exact j_lret C E dX10_habit_44 rfl rfl (xW_b (if_neg (fun h => jb_0.mp c_8 ((hasP_x hpe).mpr ((okP_x h4 hpe).mp (h.1))))))
  · obtain ⟨i, hi0, rfl⟩ := (hasP_x hpe).mp (jb_n.mp c_8)
    have hi : i < 10 := by omega
    have ei : (nI i).toNatClampNeg = i := nI_clamp (by omega)
    have hok : okP K (nI i) := (okP_x h4 hpe).mpr ⟨i, hi0, rfl⟩
    refine j_iload_n (q := 12) C dX10_habit_11 rfl rfl rfl ?_
    first | refine j_i2lN (q := 13) C dX10_habit_12 rfl (by omega) ?_ | refine j_i2l (q := 13) C dX10_habit_12 rfl rfl ?_
    refine j_lconst (v := 0) (q := 14) C dX10_habit_13 rfl (by decide) ?_
    refine j_ldc2 (q := 17) C dX10_habit_14 rfl kw_304 ?_
    refine jS1 (q := 20) C dX10_habit_17 rfl mX10_within kw_278 kw_279 ctX10_within rfl rfl (by decide) (Nat.le_of_ble_eq_true rfl) (by decide) ?_
    refine j_if_eq (q := 23) (tgt := 37) C dX10_habit_20 rfl (by decide) (fun c_20 => ?_) (fun c_20 => ?_)
    · refine j_aload_n (q := 38) C dX10_habit_37 rfl rfl rfl ?_
      refine j_ldc2 (q := 41) C dX10_habit_38 rfl kw_283 ?_
      refine jV1 jc10 (q := 44) C dX10_habit_41 rfl hs mX10_found kw_284 kw_285 kw_0 (ctX10_found hs) rfl rfl (by decide) (Nat.le_of_ble_eq_true rfl) (by decide) ?_
      exact j_lret C E dX10_habit_44 rfl rfl (xW_b (if_neg (fun h => jb_0.mp c_20 h.2.1)))
    · refine j_iload_n (q := 24) C dX10_habit_23 rfl rfl rfl ?_
      first | refine j_i2lN (q := 25) C dX10_habit_24 rfl (by omega) ?_ | refine j_i2l (q := 25) C dX10_habit_24 rfl rfl ?_
      refine j_lconst (v := 0) (q := 26) C dX10_habit_25 rfl (by decide) ?_
      refine j_iload_n (q := 27) C dX10_habit_26 rfl rfl rfl ?_
      refine jS1 (q := 30) C dX10_habit_27 rfl mX10_mostOfHabit kw_305 kw_306 ctX10_mostOfHabit rfl rfl (by decide) (Nat.le_of_ble_eq_true rfl) (by decide) ?_
      first | refine j_i2lN (q := 31) C dX10_habit_30 rfl (by omega) ?_ | refine j_i2l (q := 31) C dX10_habit_30 rfl rfl ?_
      rw [mh_x]
      refine jS1 (q := 34) C dX10_habit_31 rfl mX10_within kw_278 kw_279 ctX10_within rfl rfl (by decide) (Nat.le_of_ble_eq_true rfl) (by decide) ?_
      refine j_if_ne (q := 37) (tgt := 45) C dX10_habit_34 rfl (by decide) (fun c_34 => ?_) (fun c_34 => ?_)
      · have hx := jb_n.mp c_20
        have hy := jb_n.mp c_34
        obtain ⟨z, hz, rfl⟩ := jix2 (n := 2) (by omega) hx.1 hx.2
        have hf5 : 1 ≤ hbF z ∧ hbF z ≤ 5 := by unfold hbF; split; omega; split <;> omega
        refine j_aload_n (q := 46) C dX10_habit_45 rfl rfl rfl ?_
        refine jg_MM_now (q := 49) C dX10_habit_46 rfl hs kw_266 ((congrFun (congrFun hE.2.2 mm) 0).trans hb0) ?_
        refine jg_World_persons (q := 52) C dX10_habit_49 rfl hW.1.1 kw_193 hW.2.1.1 ?_
        refine j_iload_n (q := 53) C dX10_habit_52 rfl rfl rfl ?_
        refine wa_pers hW (by omega) (q' := 54) C dX10_habit_53 rfl ?_
        refine j_iload_n (q := 55) C dX10_habit_54 rfl rfl rfl ?_
        refine j_iload_n (q := 56) C dX10_habit_55 rfl rfl rfl ?_
        refine jV1 jc6 (q := 59) C dX10_habit_56 rfl (hW.1.2.2.2.2.2.2.2.1 _ (by omega)) mX6_changeHabit kw_308 kw_309 kw_310 (ctX6_changeHabit (k := z) (hW.1.2.2.2.2.2.2.2.1 i (by omega)) (by omega)) rfl rfl (by decide) (Nat.le_of_ble_eq_true rfl) (by decide) ?_
        first | refine j_i2lN (q := 60) C dX10_habit_59 rfl (by omega) ?_ | refine j_i2l (q := 60) C dX10_habit_59 rfl rfl ?_
        exact j_lret C E dX10_habit_60 rfl rfl (xW_o (N := va_up K (10 + 10 * i + hbF z) v.toInt64) (by unfold sHabit; rw [if_pos ⟨hok, hx, hy⟩, ei, hbF_x hz, show (M.1 (q + 2 + i) (hbF z)).toInt64 = K (10 + 10 * i + hbF z) from by rw [← hM, vK_pI hi hf5]]) (by rw [vU_pI hW.2.2 hi hf5, hM]) (mEq.rf.I (Or.inr (Or.inl (by omega)))))
      · refine j_aload_n (q := 38) C dX10_habit_37 rfl rfl rfl ?_
        refine j_ldc2 (q := 41) C dX10_habit_38 rfl kw_283 ?_
        refine jV1 jc10 (q := 44) C dX10_habit_41 rfl hs mX10_found kw_284 kw_285 kw_0 (ctX10_found hs) rfl rfl (by decide) (Nat.le_of_ble_eq_true rfl) (by decide) ?_
        exact j_lret C E dX10_habit_44 rfl rfl (xW_b (if_neg (fun h => jb_0.mp c_34 h.2.2)))

set_option maxRecDepth 100000 in
set_option maxHeartbeats 4000000 in
theorem ctX10_person {G : jG} {sz : Nat} {Sh : jS} {M : jM} {mm w q pr lw jg mk : Nat} (hs : (Sh mm).1 = 10) (hb0 : M.2.2 mm 0 = some w) {K : Nat → Int64} (hW : wLay w q pr lw jg mk Sh M) (hM : vK w q pr lw M = K) {pe : Nat} (h4 : K 4 = lN pe) (hpe : pe ≤ 10) {m : Int64} {l b : Int32} : jC G yX10_person cX10_person 5 (Option.some FieldType.long) (jrm 3 0 0) sz Sh M [.ref mm, .long m, .int l, .int b] (jT sz Sh (xW (wS0 w q pr) mm w q pr lw M (sPerson K m l b))) := by
  refine jC_start (by decide +kernel) (Nat.le_of_ble_eq_true rfl) (fun X C E hN0 => ?_)
  have hE : mEq (wS0 w q pr) M M := mEq.rf
  have hSS : ∀ b, wS0 w q pr b → wS0 w q pr b := fun _ h => h
  refine j_lload_n (q := 1) C dX10_person_0 rfl rfl rfl ?_
  refine j_lconst (v := 0) (q := 2) C dX10_person_1 rfl (by decide) ?_
  refine j_ldc2 (q := 5) C dX10_person_2 rfl kw_277 ?_
  refine jS1 (q := 8) C dX10_person_5 rfl mX10_within kw_278 kw_279 ctX10_within rfl rfl (by decide) (Nat.le_of_ble_eq_true rfl) (by decide) ?_
  refine j_if_eq (q := 11) (tgt := 36) C dX10_person_8 rfl (by decide) (fun c_8 => ?_) (fun c_8 => ?_)
  · refine j_aload_n (q := 37) C dX10_person_36 rfl rfl rfl ?_
    refine j_ldc2 (q := 40) C dX10_person_37 rfl kw_283 ?_
    refine jV1 jc10 (q := 43) C dX10_person_40 rfl hs mX10_found kw_284 kw_285 kw_0 (ctX10_found hs) rfl rfl (by decide) (Nat.le_of_ble_eq_true rfl) (by decide) ?_
    exact j_lret C E dX10_person_43 rfl rfl (xW_b (if_neg (fun h => jb_0.mp c_8 h.1)))
  · refine j_iload_n (q := 12) C dX10_person_11 rfl rfl rfl ?_
    first | refine j_i2lN (q := 13) C dX10_person_12 rfl (by omega) ?_ | refine j_i2l (q := 13) C dX10_person_12 rfl rfl ?_
    refine j_lconst (v := 0) (q := 14) C dX10_person_13 rfl (by decide) ?_
    refine j_ldc2 (q := 17) C dX10_person_14 rfl kw_281 ?_
    refine jS1 (q := 20) C dX10_person_17 rfl mX10_within kw_278 kw_279 ctX10_within rfl rfl (by decide) (Nat.le_of_ble_eq_true rfl) (by decide) ?_
    refine j_if_eq (q := 23) (tgt := 36) C dX10_person_20 rfl (by decide) (fun c_20 => ?_) (fun c_20 => ?_)
    · refine j_aload_n (q := 37) C dX10_person_36 rfl rfl rfl ?_
      refine j_ldc2 (q := 40) C dX10_person_37 rfl kw_283 ?_
      refine jV1 jc10 (q := 43) C dX10_person_40 rfl hs mX10_found kw_284 kw_285 kw_0 (ctX10_found hs) rfl rfl (by decide) (Nat.le_of_ble_eq_true rfl) (by decide) ?_
      exact j_lret C E dX10_person_43 rfl rfl (xW_b (if_neg (fun h => jb_0.mp c_20 h.2.1)))
    · refine j_iload (q := 25) C dX10_person_23 rfl rfl ?_
      first | refine j_i2lN (q := 26) C dX10_person_25 rfl (by omega) ?_ | refine j_i2l (q := 26) C dX10_person_25 rfl rfl ?_
      refine j_lconst (v := 0) (q := 27) C dX10_person_26 rfl (by decide) ?_
      refine j_ldc2 (q := 30) C dX10_person_27 rfl kw_282 ?_
      refine jS1 (q := 33) C dX10_person_30 rfl mX10_within kw_278 kw_279 ctX10_within rfl rfl (by decide) (Nat.le_of_ble_eq_true rfl) (by decide) ?_
      refine j_if_ne (q := 36) (tgt := 44) C dX10_person_33 rfl (by decide) (fun c_33 => ?_) (fun c_33 => ?_)
      · have hx := jb_n.mp c_8
        have hy := jb_n.mp c_20
        have hz := jb_n.mp c_33
        refine j_aload_n (q := 45) C dX10_person_44 rfl rfl rfl ?_
        refine jg_MM_now (q := 48) C dX10_person_45 rfl hs kw_266 ((congrFun (congrFun hE.2.2 mm) 0).trans hb0) ?_
        refine wg_World_people hW hM (q' := 51) C dX10_person_48 rfl kw_206 ?_
        refine j_top (v' := .int (nI pe)) (congrArg Value.int (k32 h4)) ?_
        refine j_bipush (v := nI 10) (q := 53) C dX10_person_51 rfl (by decide) ?_
        refine j_icmp_lt (q := 56) (tgt := 64) C dX10_person_53 rfl (by decide) (fun c_53 => ?_) (fun c_53 => ?_)
        · have hpe1 : pe < 10 := (nI_ltI (by omega) (by omega)).mp c_53
          have hne : ¬ K 4 = 10 := by rw [h4, show (10 : Int64) = lN 10 from rfl, pk_lEQ (by omega) (by omega)]; omega
          refine j_aload_n (q := 65) C dX10_person_64 rfl rfl rfl ?_
          refine jg_MM_now (q := 68) C dX10_person_65 rfl hs kw_266 ((congrFun (congrFun hE.2.2 mm) 0).trans hb0) ?_
          refine j_lload_n (q := 69) C dX10_person_68 rfl rfl rfl ?_
          refine j_iload_n (q := 70) C dX10_person_69 rfl rfl rfl ?_
          refine j_iload (q := 72) C dX10_person_70 rfl rfl ?_
          refine jVT jc9 (q := 75) C dX10_person_72 rfl hW.1.1 mX9_addPerson kw_288 kw_289 kw_290 (ctX9_addPerson hW hM h4 hpe1) rfl rfl (by decide) (Nat.le_of_ble_eq_true rfl) (by decide) (fun r_72 M_72 h_72 => ?_)
          obtain ⟨rfl, hM, hE2⟩ := h_72
          replace hE := hE.tr hE2
          replace hW := hW.mv hE2
          first | refine j_i2lN (q := 76) C dX10_person_75 rfl (by omega) ?_ | refine j_i2l (q := 76) C dX10_person_75 rfl rfl ?_
          exact j_lret C E dX10_person_76 rfl rfl (xW_o (by unfold sPerson; rw [if_pos ⟨hx, hy, hz⟩, if_neg hne, h4]) hM hE)
        · refine j_aload_n (q := 57) C dX10_person_56 rfl rfl rfl ?_
          refine j_ldc2 (q := 60) C dX10_person_57 rfl kw_287 ?_
          refine jV1 jc10 (q := 63) C dX10_person_60 rfl hs mX10_found kw_284 kw_285 kw_0 (ctX10_found hs) rfl rfl (by decide) (Nat.le_of_ble_eq_true rfl) (by decide) ?_
          exact j_lret C E dX10_person_63 rfl rfl (xW_b (by unfold sPerson; rw [if_pos ⟨hx, hy, hz⟩, if_pos (by rw [h4, show pe = 10 by rcases Nat.lt_or_ge pe 10 with e | e; exact absurd (nI_lt e (by omega)) c_53; omega]; rfl)]))
      · refine j_aload_n (q := 37) C dX10_person_36 rfl rfl rfl ?_
        refine j_ldc2 (q := 40) C dX10_person_37 rfl kw_283 ?_
        refine jV1 jc10 (q := 43) C dX10_person_40 rfl hs mX10_found kw_284 kw_285 kw_0 (ctX10_found hs) rfl rfl (by decide) (Nat.le_of_ble_eq_true rfl) (by decide) ?_
        exact j_lret C E dX10_person_43 rfl rfl (xW_b (if_neg (fun h => jb_0.mp c_33 h.2.2)))

theorem ge_x {x : Int32} (h : ¬ x < 0) : (x < nI 100 ↔ x / nI 100 = 0) := by
  obtain ⟨n, hn, rfl⟩ := nI_of h
  rw [pk_div hn (by omega) (by omega), show (0 : Int32) = nI 0 from rfl, nI_eq (by omega) (by omega), nI_ltI hn (by omega)]
  omega
set_option maxRecDepth 100000 in
set_option maxHeartbeats 4000000 in
theorem ctX10_paper {G : jG} {sz : Nat} {Sh : jS} {M : jM} {mm w q pr lw jg mk : Nat} (hs : (Sh mm).1 = 10) (hb0 : M.2.2 mm 0 = some w) {K : Nat → Int64} (hW : wLay w q pr lw jg mk Sh M) (hM : vK w q pr lw M = K) {pe : Nat} (h4 : K 4 = lN pe) (hpe : pe ≤ 10) {pa : Nat} (h5 : K 5 = lN pa) (hpa : pa ≤ 24) {d : Nat} (hd : K 0 = lN d) (hd3 : d ≤ 300) {kd who du : Int32} {sm : Int64} : jC G yX10_paper cX10_paper 8 (Option.some FieldType.long) (jrm 2 0 0) sz Sh M [.ref mm, .int kd, .int who, .long sm, .int du] (jT sz Sh (xW (wS0 w q pr) mm w q pr lw M (sPaper K kd who sm du))) := by
  refine jC_start (by decide +kernel) (Nat.le_of_ble_eq_true rfl) (fun X C E hN0 => ?_)
  have hE : mEq (wS0 w q pr) M M := mEq.rf
  have hSS : ∀ b, wS0 w q pr b → wS0 w q pr b := fun _ h => h
  refine j_iload_n (q := 1) C dX10_paper_0 rfl rfl rfl ?_
  first | refine j_i2lN (q := 2) C dX10_paper_1 rfl (by omega) ?_ | refine j_i2l (q := 2) C dX10_paper_1 rfl rfl ?_
  refine j_lconst (v := 0) (q := 3) C dX10_paper_2 rfl (by decide) ?_
  refine j_ldc2 (q := 6) C dX10_paper_3 rfl kw_329 ?_
  refine jS1 (q := 9) C dX10_paper_6 rfl mX10_within kw_278 kw_279 ctX10_within rfl rfl (by decide) (Nat.le_of_ble_eq_true rfl) (by decide) ?_
  refine j_if_eq (q := 12) (tgt := 61) C dX10_paper_9 rfl (by decide) (fun c_9 => ?_) (fun c_9 => ?_)
  · refine j_aload_n (q := 62) C dX10_paper_61 rfl rfl rfl ?_
    refine j_ldc2 (q := 65) C dX10_paper_62 rfl kw_283 ?_
    refine jV1 jc10 (q := 68) C dX10_paper_65 rfl hs mX10_found kw_284 kw_285 kw_0 (ctX10_found hs) rfl rfl (by decide) (Nat.le_of_ble_eq_true rfl) (by decide) ?_
    exact j_lret C E dX10_paper_68 rfl rfl (xW_b (by unfold sPaper; rw [ifC_f (fun h => jb_0.mp c_9 h.1)]))
  · refine j_iload_n (q := 13) C dX10_paper_12 rfl rfl rfl ?_
    refine j_if_lt (q := 16) (tgt := 61) C dX10_paper_13 rfl (by decide) (fun c_13 => ?_) (fun c_13 => ?_)
    · refine j_aload_n (q := 62) C dX10_paper_61 rfl rfl rfl ?_
      refine j_ldc2 (q := 65) C dX10_paper_62 rfl kw_283 ?_
      refine jV1 jc10 (q := 68) C dX10_paper_65 rfl hs mX10_found kw_284 kw_285 kw_0 (ctX10_found hs) rfl rfl (by decide) (Nat.le_of_ble_eq_true rfl) (by decide) ?_
      exact j_lret C E dX10_paper_68 rfl rfl (xW_b (by unfold sPaper; rw [ifC_f (fun h => h.2.1 c_13)]))
    · refine j_aload_n (q := 17) C dX10_paper_16 rfl rfl rfl ?_
      refine jg_MM_now (q := 20) C dX10_paper_17 rfl hs kw_266 ((congrFun (congrFun hE.2.2 mm) 0).trans hb0) ?_
      refine j_iload_n (q := 21) C dX10_paper_20 rfl rfl rfl ?_
      refine j_bipush (v := nI 100) (q := 23) C dX10_paper_21 rfl (by decide) ?_
      refine j_irem (q := 24) C dX10_paper_23 rfl (by decide) ?_
      refine jV1 jc9 (q := 27) C dX10_paper_24 rfl hW.1.1 mX9_hasPerson kw_300 kw_301 kw_302 (ctX9_hasPerson hW hM h4) rfl rfl (by decide) (Nat.le_of_ble_eq_true rfl) (by decide) ?_
      refine j_if_eq (q := 30) (tgt := 61) C dX10_paper_27 rfl (by decide) (fun c_27 => ?_) (fun c_27 => ?_)
      · refine j_aload_n (q := 62) C dX10_paper_61 rfl rfl rfl ?_
        refine j_ldc2 (q := 65) C dX10_paper_62 rfl kw_283 ?_
        refine jV1 jc10 (q := 68) C dX10_paper_65 rfl hs mX10_found kw_284 kw_285 kw_0 (ctX10_found hs) rfl rfl (by decide) (Nat.le_of_ble_eq_true rfl) (by decide) ?_
        exact j_lret C E dX10_paper_68 rfl rfl (xW_b (by unfold sPaper; rw [ifC_f (fun h => jb_0.mp c_27 ((hasP_x hpe).mpr ((okP_x h4 hpe).mp h.2.2.1)))]))
      · refine j_lload_n (q := 31) C dX10_paper_30 rfl rfl rfl ?_
        refine j_lconst (v := 1) (q := 32) C dX10_paper_31 rfl (by decide) ?_
        refine j_ldc2 (q := 35) C dX10_paper_32 rfl kw_277 ?_
        refine jS1 (q := 38) C dX10_paper_35 rfl mX10_within kw_278 kw_279 ctX10_within rfl rfl (by decide) (Nat.le_of_ble_eq_true rfl) (by decide) ?_
        refine j_if_eq (q := 41) (tgt := 61) C dX10_paper_38 rfl (by decide) (fun c_38 => ?_) (fun c_38 => ?_)
        · refine j_aload_n (q := 62) C dX10_paper_61 rfl rfl rfl ?_
          refine j_ldc2 (q := 65) C dX10_paper_62 rfl kw_283 ?_
          refine jV1 jc10 (q := 68) C dX10_paper_65 rfl hs mX10_found kw_284 kw_285 kw_0 (ctX10_found hs) rfl rfl (by decide) (Nat.le_of_ble_eq_true rfl) (by decide) ?_
          exact j_lret C E dX10_paper_68 rfl rfl (xW_b (by unfold sPaper; rw [ifC_f (fun h => jb_0.mp c_38 h.2.2.2.2.2.1)]))
        · refine j_iload (q := 43) C dX10_paper_41 rfl rfl ?_
          first | refine j_i2lN (q := 44) C dX10_paper_43 rfl (by omega) ?_ | refine j_i2l (q := 44) C dX10_paper_43 rfl rfl ?_
          refine j_aload_n (q := 45) C dX10_paper_44 rfl rfl rfl ?_
          refine jg_MM_now (q := 48) C dX10_paper_45 rfl hs kw_266 ((congrFun (congrFun hE.2.2 mm) 0).trans hb0) ?_
          refine wg_World_day hW hM (q' := 51) C dX10_paper_48 rfl kw_213 ?_
          rw [hd]
          refine j_top (v' := .int (nI d)) (congrArg Value.int (lN_i d)) ?_
          first | refine j_i2lN (q := 52) C dX10_paper_51 rfl (by omega) ?_ | refine j_i2l (q := 52) C dX10_paper_51 rfl rfl ?_
          refine j_ldc2 (q := 55) C dX10_paper_52 rfl kw_330 ?_
          refine jS1 (q := 58) C dX10_paper_55 rfl mX10_within kw_278 kw_279 ctX10_within rfl rfl (by decide) (Nat.le_of_ble_eq_true rfl) (by decide) ?_
          refine j_if_ne (q := 61) (tgt := 69) C dX10_paper_58 rfl (by decide) (fun c_58 => ?_) (fun c_58 => ?_)
          · have h1 := jb_n.mp c_9
            have h3 := jb_n.mp c_27
            have h6 := jb_n.mp c_38
            have h7 := jb_n.mp c_58
            have o3 : okP K (who - who / nI 100 * nI 100) := (okP_x h4 hpe).mpr ((hasP_x hpe).mp h3)
            refine j_iload_n (q := 70) C dX10_paper_69 rfl rfl rfl ?_
            refine j_bipush (v := nI 100) (q := 72) C dX10_paper_70 rfl (by decide) ?_
            refine j_idiv (q := 73) C dX10_paper_72 rfl (by decide) ?_
            refine j_istore (lv' := [(6, _), (0, _), (1, _), (2, _), (3, _), (5, _)]) (q := 75) C dX10_paper_73 rfl (by decide) rfl ?_
            refine j_iload_n (q := 76) C dX10_paper_75 rfl rfl rfl ?_
            refine j_bipush (v := nI 100) (q := 78) C dX10_paper_76 rfl (by decide) ?_
            refine j_irem (q := 79) C dX10_paper_78 rfl (by decide) ?_
            refine j_istore (lv' := [(7, _), (6, _), (0, _), (1, _), (2, _), (3, _), (5, _)]) (q := 81) C dX10_paper_79 rfl (by decide) rfl ?_
            refine j_iload_n (q := 82) C dX10_paper_81 rfl rfl rfl ?_
            refine j_iconst (v := nI 4) (q := 83) C dX10_paper_82 rfl (by decide) ?_
            refine j_icmp_ne (q := 86) (tgt := 94) C dX10_paper_83 rfl (by decide) (fun c_83 => ?_) (fun c_83 => ?_)
            · refine j_aload_n (q := 95) C dX10_paper_94 rfl rfl rfl ?_
              refine jg_MM_now (q := 98) C dX10_paper_95 rfl hs kw_266 ((congrFun (congrFun hE.2.2 mm) 0).trans hb0) ?_
              refine j_iload (q := 100) C dX10_paper_98 rfl rfl ?_
              refine jV1 jc9 (q := 103) C dX10_paper_100 rfl hW.1.1 mX9_hasPerson kw_300 kw_301 kw_302 (ctX9_hasPerson hW hM h4) rfl rfl (by decide) (Nat.le_of_ble_eq_true rfl) (by decide) ?_
              refine j_if_ne (q := 106) (tgt := 114) C dX10_paper_103 rfl (by decide) (fun c_103 => ?_) (fun c_103 => ?_)
              · refine j_iload_n (q := 115) C dX10_paper_114 rfl rfl rfl ?_
                refine j_iconst (v := nI 4) (q := 116) C dX10_paper_115 rfl (by decide) ?_
                refine j_icmp_eq (q := 119) (tgt := 134) C dX10_paper_116 rfl (by decide) (fun c_116 => ?_) (fun c_116 => ?_)
                · refine j_aload_n (q := 135) C dX10_paper_134 rfl rfl rfl ?_
                  refine jg_MM_now (q := 138) C dX10_paper_135 rfl hs kw_266 ((congrFun (congrFun hE.2.2 mm) 0).trans hb0) ?_
                  refine wg_World_written hW hM (q' := 141) C dX10_paper_138 rfl kw_208 ?_
                  refine j_top (v' := .int (nI pa)) (congrArg Value.int (k32 h5)) ?_
                  refine j_bipush (v := nI 24) (q := 143) C dX10_paper_141 rfl (by decide) ?_
                  refine j_icmp_lt (q := 146) (tgt := 154) C dX10_paper_143 rfl (by decide) (fun c_143 => ?_) (fun c_143 => ?_)
                  · have hpa1 : pa < 24 := (nI_ltI (by omega) (by omega)).mp c_143
                    have hne : ¬ K 5 = 24 := by rw [h5, show (24 : Int64) = lN 24 from rfl, pk_lEQ (by omega) (by omega)]; omega
                    refine j_aload_n (q := 155) C dX10_paper_154 rfl rfl rfl ?_
                    refine jg_MM_now (q := 158) C dX10_paper_155 rfl hs kw_266 ((congrFun (congrFun hE.2.2 mm) 0).trans hb0) ?_
                    refine j_iload_n (q := 159) C dX10_paper_158 rfl rfl rfl ?_
                    refine j_iload_n (q := 160) C dX10_paper_159 rfl rfl rfl ?_
                    refine j_iconst (v := nI 4) (q := 161) C dX10_paper_160 rfl (by decide) ?_
                    refine j_icmp_ne (q := 164) (tgt := 168) C dX10_paper_161 rfl (by decide) (fun c_161 => absurd c_116 c_161) (fun c_161 => ?_)
                    refine j_iconst (v := (-1)) (q := 165) C dX10_paper_164 rfl (by decide) ?_
                    refine j_goto (tgt := 170) C dX10_paper_165 (by decide) ?_
                    refine j_iload (q := 172) C dX10_paper_170 rfl rfl ?_
                    refine j_lload_n (q := 173) C dX10_paper_172 rfl rfl rfl ?_
                    refine j_iload (q := 175) C dX10_paper_173 rfl rfl ?_
                    refine jVT jc9 (q := 178) C dX10_paper_175 rfl hW.1.1 mX9_addPaper kw_332 kw_333 kw_334 (ctX9_addPaper hW hM h5 hpa1 hd hd3) rfl rfl (by decide) (Nat.le_of_ble_eq_true rfl) (by decide) (fun r_175 M_175 h_175 => ?_)
                    obtain ⟨rfl, hM, hE2⟩ := h_175
                    replace hE := hE.tr hE2
                    replace hW := hW.mv hE2
                    first | refine j_i2lN (q := 179) C dX10_paper_178 rfl (by omega) ?_ | refine j_i2l (q := 179) C dX10_paper_178 rfl rfl ?_
                    exact j_lret C E dX10_paper_179 rfl rfl (xW_o (by unfold sPaper; rw [ifC_t ⟨h1, c_13, o3, fun h => absurd h c_83, fun _ => (okP_x h4 hpe).mpr ((hasP_x hpe).mp (jb_n.mp c_103)), h6, by rw [hd]; exact h7.1, h7.2⟩, if_neg (fun h => h.1 c_116), if_neg hne, h5, if_pos c_161]; try rfl) hM hE)
                  · refine j_aload_n (q := 147) C dX10_paper_146 rfl rfl rfl ?_
                    refine j_ldc2 (q := 150) C dX10_paper_147 rfl kw_287 ?_
                    refine jV1 jc10 (q := 153) C dX10_paper_150 rfl hs mX10_found kw_284 kw_285 kw_0 (ctX10_found hs) rfl rfl (by decide) (Nat.le_of_ble_eq_true rfl) (by decide) ?_
                    exact j_lret C E dX10_paper_153 rfl rfl (xW_b (by unfold sPaper; rw [ifC_t ⟨h1, c_13, o3, fun h => absurd h c_83, fun _ => (okP_x h4 hpe).mpr ((hasP_x hpe).mp (jb_n.mp c_103)), h6, by rw [hd]; exact h7.1, h7.2⟩, if_neg (fun h => h.1 c_116), if_pos (by rw [h5, show pa = 24 by rcases Nat.lt_or_ge pa 24 with e | e; exact absurd (nI_lt e (by omega)) c_143; omega]; rfl)]))
                · refine j_iload (q := 121) C dX10_paper_119 rfl rfl ?_
                  refine j_iload (q := 123) C dX10_paper_121 rfl rfl ?_
                  refine j_icmp_ne (q := 126) (tgt := 134) C dX10_paper_123 rfl (by decide) (fun c_123 => ?_) (fun c_123 => ?_)
                  · refine j_aload_n (q := 135) C dX10_paper_134 rfl rfl rfl ?_
                    refine jg_MM_now (q := 138) C dX10_paper_135 rfl hs kw_266 ((congrFun (congrFun hE.2.2 mm) 0).trans hb0) ?_
                    refine wg_World_written hW hM (q' := 141) C dX10_paper_138 rfl kw_208 ?_
                    refine j_top (v' := .int (nI pa)) (congrArg Value.int (k32 h5)) ?_
                    refine j_bipush (v := nI 24) (q := 143) C dX10_paper_141 rfl (by decide) ?_
                    refine j_icmp_lt (q := 146) (tgt := 154) C dX10_paper_143 rfl (by decide) (fun c_143 => ?_) (fun c_143 => ?_)
                    · have hpa1 : pa < 24 := (nI_ltI (by omega) (by omega)).mp c_143
                      have hne : ¬ K 5 = 24 := by rw [h5, show (24 : Int64) = lN 24 from rfl, pk_lEQ (by omega) (by omega)]; omega
                      refine j_aload_n (q := 155) C dX10_paper_154 rfl rfl rfl ?_
                      refine jg_MM_now (q := 158) C dX10_paper_155 rfl hs kw_266 ((congrFun (congrFun hE.2.2 mm) 0).trans hb0) ?_
                      refine j_iload_n (q := 159) C dX10_paper_158 rfl rfl rfl ?_
                      refine j_iload_n (q := 160) C dX10_paper_159 rfl rfl rfl ?_
                      refine j_iconst (v := nI 4) (q := 161) C dX10_paper_160 rfl (by decide) ?_
                      refine j_icmp_ne (q := 164) (tgt := 168) C dX10_paper_161 rfl (by decide) (fun c_161 => ?_) (fun c_161 => absurd c_161 c_116)
                      refine j_iload (q := 170) C dX10_paper_168 rfl rfl ?_
                      refine j_iload (q := 172) C dX10_paper_170 rfl rfl ?_
                      refine j_lload_n (q := 173) C dX10_paper_172 rfl rfl rfl ?_
                      refine j_iload (q := 175) C dX10_paper_173 rfl rfl ?_
                      refine jVT jc9 (q := 178) C dX10_paper_175 rfl hW.1.1 mX9_addPaper kw_332 kw_333 kw_334 (ctX9_addPaper hW hM h5 hpa1 hd hd3) rfl rfl (by decide) (Nat.le_of_ble_eq_true rfl) (by decide) (fun r_175 M_175 h_175 => ?_)
                      obtain ⟨rfl, hM, hE2⟩ := h_175
                      replace hE := hE.tr hE2
                      replace hW := hW.mv hE2
                      first | refine j_i2lN (q := 179) C dX10_paper_178 rfl (by omega) ?_ | refine j_i2l (q := 179) C dX10_paper_178 rfl rfl ?_
                      exact j_lret C E dX10_paper_179 rfl rfl (xW_o (by unfold sPaper; rw [ifC_t ⟨h1, c_13, o3, fun h => absurd h c_83, fun _ => (okP_x h4 hpe).mpr ((hasP_x hpe).mp (jb_n.mp c_103)), h6, by rw [hd]; exact h7.1, h7.2⟩, if_neg (fun h => c_123 h.2), if_neg hne, h5, if_neg c_161]; try rfl) hM hE)
                    · refine j_aload_n (q := 147) C dX10_paper_146 rfl rfl rfl ?_
                      refine j_ldc2 (q := 150) C dX10_paper_147 rfl kw_287 ?_
                      refine jV1 jc10 (q := 153) C dX10_paper_150 rfl hs mX10_found kw_284 kw_285 kw_0 (ctX10_found hs) rfl rfl (by decide) (Nat.le_of_ble_eq_true rfl) (by decide) ?_
                      exact j_lret C E dX10_paper_153 rfl rfl (xW_b (by unfold sPaper; rw [ifC_t ⟨h1, c_13, o3, fun h => absurd h c_83, fun _ => (okP_x h4 hpe).mpr ((hasP_x hpe).mp (jb_n.mp c_103)), h6, by rw [hd]; exact h7.1, h7.2⟩, if_neg (fun h => c_123 h.2), if_pos (by rw [h5, show pa = 24 by rcases Nat.lt_or_ge pa 24 with e | e; exact absurd (nI_lt e (by omega)) c_143; omega]; rfl)]))
                  · refine j_aload_n (q := 127) C dX10_paper_126 rfl rfl rfl ?_
                    refine j_ldc2 (q := 130) C dX10_paper_127 rfl kw_331 ?_
                    refine jV1 jc10 (q := 133) C dX10_paper_130 rfl hs mX10_found kw_284 kw_285 kw_0 (ctX10_found hs) rfl rfl (by decide) (Nat.le_of_ble_eq_true rfl) (by decide) ?_
                    exact j_lret C E dX10_paper_133 rfl rfl (xW_b (by unfold sPaper; rw [ifC_t ⟨h1, c_13, o3, fun h => absurd h c_83, fun _ => (okP_x h4 hpe).mpr ((hasP_x hpe).mp (jb_n.mp c_103)), h6, by rw [hd]; exact h7.1, h7.2⟩, if_pos ⟨c_116, c_123⟩]))
              · refine j_aload_n (q := 107) C dX10_paper_106 rfl rfl rfl ?_
                refine j_ldc2 (q := 110) C dX10_paper_107 rfl kw_283 ?_
                refine jV1 jc10 (q := 113) C dX10_paper_110 rfl hs mX10_found kw_284 kw_285 kw_0 (ctX10_found hs) rfl rfl (by decide) (Nat.le_of_ble_eq_true rfl) (by decide) ?_
                exact j_lret C E dX10_paper_113 rfl rfl (xW_b (by unfold sPaper; rw [ifC_f (fun h => jb_0.mp c_103 ((hasP_x hpe).mpr ((okP_x h4 hpe).mp (h.2.2.2.2.1 c_83))))]))
            · refine j_iload (q := 88) C dX10_paper_86 rfl rfl ?_
              refine j_if_eq (q := 91) (tgt := 114) C dX10_paper_88 rfl (by decide) (fun c_88 => ?_) (fun c_88 => ?_)
              · refine j_iload_n (q := 115) C dX10_paper_114 rfl rfl rfl ?_
                refine j_iconst (v := nI 4) (q := 116) C dX10_paper_115 rfl (by decide) ?_
                refine j_icmp_eq (q := 119) (tgt := 134) C dX10_paper_116 rfl (by decide) (fun c_116 => ?_) (fun c_116 => ?_)
                · refine j_aload_n (q := 135) C dX10_paper_134 rfl rfl rfl ?_
                  refine jg_MM_now (q := 138) C dX10_paper_135 rfl hs kw_266 ((congrFun (congrFun hE.2.2 mm) 0).trans hb0) ?_
                  refine wg_World_written hW hM (q' := 141) C dX10_paper_138 rfl kw_208 ?_
                  refine j_top (v' := .int (nI pa)) (congrArg Value.int (k32 h5)) ?_
                  refine j_bipush (v := nI 24) (q := 143) C dX10_paper_141 rfl (by decide) ?_
                  refine j_icmp_lt (q := 146) (tgt := 154) C dX10_paper_143 rfl (by decide) (fun c_143 => ?_) (fun c_143 => ?_)
                  · have hpa1 : pa < 24 := (nI_ltI (by omega) (by omega)).mp c_143
                    have hne : ¬ K 5 = 24 := by rw [h5, show (24 : Int64) = lN 24 from rfl, pk_lEQ (by omega) (by omega)]; omega
                    refine j_aload_n (q := 155) C dX10_paper_154 rfl rfl rfl ?_
                    refine jg_MM_now (q := 158) C dX10_paper_155 rfl hs kw_266 ((congrFun (congrFun hE.2.2 mm) 0).trans hb0) ?_
                    refine j_iload_n (q := 159) C dX10_paper_158 rfl rfl rfl ?_
                    refine j_iload_n (q := 160) C dX10_paper_159 rfl rfl rfl ?_
                    refine j_iconst (v := nI 4) (q := 161) C dX10_paper_160 rfl (by decide) ?_
                    refine j_icmp_ne (q := 164) (tgt := 168) C dX10_paper_161 rfl (by decide) (fun c_161 => absurd c_116 c_161) (fun c_161 => ?_)
                    refine j_iconst (v := (-1)) (q := 165) C dX10_paper_164 rfl (by decide) ?_
                    refine j_goto (tgt := 170) C dX10_paper_165 (by decide) ?_
                    refine j_iload (q := 172) C dX10_paper_170 rfl rfl ?_
                    refine j_lload_n (q := 173) C dX10_paper_172 rfl rfl rfl ?_
                    refine j_iload (q := 175) C dX10_paper_173 rfl rfl ?_
                    refine jVT jc9 (q := 178) C dX10_paper_175 rfl hW.1.1 mX9_addPaper kw_332 kw_333 kw_334 (ctX9_addPaper hW hM h5 hpa1 hd hd3) rfl rfl (by decide) (Nat.le_of_ble_eq_true rfl) (by decide) (fun r_175 M_175 h_175 => ?_)
                    obtain ⟨rfl, hM, hE2⟩ := h_175
                    replace hE := hE.tr hE2
                    replace hW := hW.mv hE2
                    first | refine j_i2lN (q := 179) C dX10_paper_178 rfl (by omega) ?_ | refine j_i2l (q := 179) C dX10_paper_178 rfl rfl ?_
                    exact j_lret C E dX10_paper_179 rfl rfl (xW_o (by unfold sPaper; rw [ifC_t ⟨h1, c_13, o3, fun _ => (ge_x c_13).mpr c_88, fun h => absurd c_83 h, h6, by rw [hd]; exact h7.1, h7.2⟩, if_neg (fun h => h.1 c_116), if_neg hne, h5, if_pos c_161]; try rfl) hM hE)
                  · refine j_aload_n (q := 147) C dX10_paper_146 rfl rfl rfl ?_
                    refine j_ldc2 (q := 150) C dX10_paper_147 rfl kw_287 ?_
                    refine jV1 jc10 (q := 153) C dX10_paper_150 rfl hs mX10_found kw_284 kw_285 kw_0 (ctX10_found hs) rfl rfl (by decide) (Nat.le_of_ble_eq_true rfl) (by decide) ?_
                    exact j_lret C E dX10_paper_153 rfl rfl (xW_b (by unfold sPaper; rw [ifC_t ⟨h1, c_13, o3, fun _ => (ge_x c_13).mpr c_88, fun h => absurd c_83 h, h6, by rw [hd]; exact h7.1, h7.2⟩, if_neg (fun h => h.1 c_116), if_pos (by rw [h5, show pa = 24 by rcases Nat.lt_or_ge pa 24 with e | e; exact absurd (nI_lt e (by omega)) c_143; omega]; rfl)]))
                · refine j_iload (q := 121) C dX10_paper_119 rfl rfl ?_
                  refine j_iload (q := 123) C dX10_paper_121 rfl rfl ?_
                  refine j_icmp_ne (q := 126) (tgt := 134) C dX10_paper_123 rfl (by decide) (fun c_123 => ?_) (fun c_123 => ?_)
                  · refine j_aload_n (q := 135) C dX10_paper_134 rfl rfl rfl ?_
                    refine jg_MM_now (q := 138) C dX10_paper_135 rfl hs kw_266 ((congrFun (congrFun hE.2.2 mm) 0).trans hb0) ?_
                    refine wg_World_written hW hM (q' := 141) C dX10_paper_138 rfl kw_208 ?_
                    refine j_top (v' := .int (nI pa)) (congrArg Value.int (k32 h5)) ?_
                    refine j_bipush (v := nI 24) (q := 143) C dX10_paper_141 rfl (by decide) ?_
                    refine j_icmp_lt (q := 146) (tgt := 154) C dX10_paper_143 rfl (by decide) (fun c_143 => ?_) (fun c_143 => ?_)
                    · have hpa1 : pa < 24 := (nI_ltI (by omega) (by omega)).mp c_143
                      have hne : ¬ K 5 = 24 := by rw [h5, show (24 : Int64) = lN 24 from rfl, pk_lEQ (by omega) (by omega)]; omega
                      refine j_aload_n (q := 155) C dX10_paper_154 rfl rfl rfl ?_
                      refine jg_MM_now (q := 158) C dX10_paper_155 rfl hs kw_266 ((congrFun (congrFun hE.2.2 mm) 0).trans hb0) ?_
                      refine j_iload_n (q := 159) C dX10_paper_158 rfl rfl rfl ?_
                      refine j_iload_n (q := 160) C dX10_paper_159 rfl rfl rfl ?_
                      refine j_iconst (v := nI 4) (q := 161) C dX10_paper_160 rfl (by decide) ?_
                      refine j_icmp_ne (q := 164) (tgt := 168) C dX10_paper_161 rfl (by decide) (fun c_161 => ?_) (fun c_161 => absurd c_161 c_116)
                      refine j_iload (q := 170) C dX10_paper_168 rfl rfl ?_
                      refine j_iload (q := 172) C dX10_paper_170 rfl rfl ?_
                      refine j_lload_n (q := 173) C dX10_paper_172 rfl rfl rfl ?_
                      refine j_iload (q := 175) C dX10_paper_173 rfl rfl ?_
                      refine jVT jc9 (q := 178) C dX10_paper_175 rfl hW.1.1 mX9_addPaper kw_332 kw_333 kw_334 (ctX9_addPaper hW hM h5 hpa1 hd hd3) rfl rfl (by decide) (Nat.le_of_ble_eq_true rfl) (by decide) (fun r_175 M_175 h_175 => ?_)
                      obtain ⟨rfl, hM, hE2⟩ := h_175
                      replace hE := hE.tr hE2
                      replace hW := hW.mv hE2
                      first | refine j_i2lN (q := 179) C dX10_paper_178 rfl (by omega) ?_ | refine j_i2l (q := 179) C dX10_paper_178 rfl rfl ?_
                      exact j_lret C E dX10_paper_179 rfl rfl (xW_o (by unfold sPaper; rw [ifC_t ⟨h1, c_13, o3, fun _ => (ge_x c_13).mpr c_88, fun h => absurd c_83 h, h6, by rw [hd]; exact h7.1, h7.2⟩, if_neg (fun h => c_123 h.2), if_neg hne, h5, if_neg c_161]; try rfl) hM hE)
                    · refine j_aload_n (q := 147) C dX10_paper_146 rfl rfl rfl ?_
                      refine j_ldc2 (q := 150) C dX10_paper_147 rfl kw_287 ?_
                      refine jV1 jc10 (q := 153) C dX10_paper_150 rfl hs mX10_found kw_284 kw_285 kw_0 (ctX10_found hs) rfl rfl (by decide) (Nat.le_of_ble_eq_true rfl) (by decide) ?_
                      exact j_lret C E dX10_paper_153 rfl rfl (xW_b (by unfold sPaper; rw [ifC_t ⟨h1, c_13, o3, fun _ => (ge_x c_13).mpr c_88, fun h => absurd c_83 h, h6, by rw [hd]; exact h7.1, h7.2⟩, if_neg (fun h => c_123 h.2), if_pos (by rw [h5, show pa = 24 by rcases Nat.lt_or_ge pa 24 with e | e; exact absurd (nI_lt e (by omega)) c_143; omega]; rfl)]))
                  · refine j_aload_n (q := 127) C dX10_paper_126 rfl rfl rfl ?_
                    refine j_ldc2 (q := 130) C dX10_paper_127 rfl kw_331 ?_
                    refine jV1 jc10 (q := 133) C dX10_paper_130 rfl hs mX10_found kw_284 kw_285 kw_0 (ctX10_found hs) rfl rfl (by decide) (Nat.le_of_ble_eq_true rfl) (by decide) ?_
                    exact j_lret C E dX10_paper_133 rfl rfl (xW_b (by unfold sPaper; rw [ifC_t ⟨h1, c_13, o3, fun _ => (ge_x c_13).mpr c_88, fun h => absurd c_83 h, h6, by rw [hd]; exact h7.1, h7.2⟩, if_pos ⟨c_116, c_123⟩]))
              · refine j_goto (tgt := 106) C dX10_paper_91 (by decide) ?_
                refine j_aload_n (q := 107) C dX10_paper_106 rfl rfl rfl ?_
                refine j_ldc2 (q := 110) C dX10_paper_107 rfl kw_283 ?_
                refine jV1 jc10 (q := 113) C dX10_paper_110 rfl hs mX10_found kw_284 kw_285 kw_0 (ctX10_found hs) rfl rfl (by decide) (Nat.le_of_ble_eq_true rfl) (by decide) ?_
                exact j_lret C E dX10_paper_113 rfl rfl (xW_b (by unfold sPaper; rw [ifC_f (fun h => c_88 ((ge_x c_13).mp (h.2.2.2.1 c_83)))]))
          · refine j_aload_n (q := 62) C dX10_paper_61 rfl rfl rfl ?_
            refine j_ldc2 (q := 65) C dX10_paper_62 rfl kw_283 ?_
            refine jV1 jc10 (q := 68) C dX10_paper_65 rfl hs mX10_found kw_284 kw_285 kw_0 (ctX10_found hs) rfl rfl (by decide) (Nat.le_of_ble_eq_true rfl) (by decide) ?_
            exact j_lret C E dX10_paper_68 rfl rfl (xW_b (by unfold sPaper; rw [ifC_f (fun h => jb_0.mp c_58 ⟨by rw [← hd]; exact h.2.2.2.2.2.2.1, h.2.2.2.2.2.2.2⟩)]))

theorem nCutD_pr {N : Nat → Int64} {b : Int64} : ∀ k i, i < k → (1 : Int64) ≤ nCutD N b k (310 + i)
  | 0, i, h => absurd h (by omega)
  | k + 1, i, h => by
    rw [nCutD]
    by_cases e : i = k
    · subst e; rw [va_up_self]; unfold lmx; split
      · exact Int64.le_refl 1
      · rename_i c; exact Int64.not_lt.mp c
    · rw [va_up_ne _ _ (by omega)]; exact nCutD_pr k i (by omega)
set_option maxRecDepth 100000 in
set_option maxHeartbeats 4000000 in
theorem ctX10_swap {G : jG} {sz : Nat} {Sh : jS} {M : jM} {mm w q pr lw jg mk : Nat} (hs : (Sh mm).1 = 10) (hb0 : M.2.2 mm 0 = some w) {K : Nat → Int64} (hW : wLay w q pr lw jg mk Sh M) (hM : vK w q pr lw M = K) {pe : Nat} (h4 : K 4 = lN pe) (hpe : pe ≤ 10) {pa : Nat} (h5 : K 5 = lN pa) (hpa : pa ≤ 24) {d : Nat} (hd : K 0 = lN d) (hd3 : d ≤ 300) {k : Int32} : jC G yX10_swap cX10_swap 2 (Option.some FieldType.long) (jrm 3 0 0) sz Sh M [.ref mm, .int k] (jT sz Sh (xW (wS0 w q pr) mm w q pr lw M (sSwap K d pe pa k))) := by
  refine jC_start (by decide +kernel) (Nat.le_of_ble_eq_true rfl) (fun X C E hN0 => ?_)
  have hE : mEq (wS0 w q pr) M M := mEq.rf
  have hSS : ∀ b, wS0 w q pr b → wS0 w q pr b := fun _ h => h
  refine j_iload_n (q := 1) C dX10_swap_0 rfl rfl rfl ?_
  first | refine j_i2lN (q := 2) C dX10_swap_1 rfl (by omega) ?_ | refine j_i2l (q := 2) C dX10_swap_1 rfl rfl ?_
  refine j_lconst (v := 1) (q := 3) C dX10_swap_2 rfl (by decide) ?_
  refine j_ldc2 (q := 6) C dX10_swap_3 rfl kw_706 ?_
  refine jS1 (q := 9) C dX10_swap_6 rfl mX10_within kw_278 kw_279 ctX10_within rfl rfl (by decide) (Nat.le_of_ble_eq_true rfl) (by decide) ?_
  refine j_if_ne (q := 12) (tgt := 20) C dX10_swap_9 rfl (by decide) (fun c_9 => ?_) (fun c_9 => ?_)
  · have hx := jb_n.mp c_9
    obtain ⟨kk, hk9, rfl⟩ := jix2 (n := 9) (by omega) (Int64.le_trans (by decide) hx.1) hx.2
    have ek : (nI kk).toNatClampNeg = kk := nI_clamp (by omega)
    refine j_aload_n (q := 21) C dX10_swap_20 rfl rfl rfl ?_
    refine jg_MM_now (q := 24) C dX10_swap_21 rfl hs kw_266 ((congrFun (congrFun hE.2.2 mm) 0).trans hb0) ?_
    refine j_iload_n (q := 25) C dX10_swap_24 rfl rfl rfl ?_
    refine jVT jc9 (q := 28) C dX10_swap_25 rfl hW.1.1 mX9_cutNoughts kw_707 kw_708 kw_709 (ctX9_cutNoughts hW hM h4 hpe h5 hpa hd hd3 hk9) rfl rfl (by decide) (Nat.le_of_ble_eq_true rfl) (by decide) (fun r_25 M_25 h_25 => ?_)
    obtain ⟨rfl, hM, hE2⟩ := h_25
    replace hE := hE.tr hE2
    replace hW := hW.mv hE2
    have hd2 : nCut K kk d pe pa 0 = lN d := by unfold nCut; rw [nCutD_low _ _ _ _ (by omega), nCutQ_low _ _ _ _ (fun i hi => by omega), nCutP_low _ _ _ _ (by omega)]; exact hd
    refine j_aload_n (q := 29) C dX10_swap_28 rfl rfl rfl ?_
    refine jg_MM_now (q := 32) C dX10_swap_29 rfl hs kw_266 ((congrFun (congrFun hE.2.2 mm) 0).trans hb0) ?_
    refine j_aload_n (q := 33) C dX10_swap_32 rfl rfl rfl ?_
    refine jg_MM_now (q := 36) C dX10_swap_33 rfl hs kw_266 ((congrFun (congrFun hE.2.2 mm) 0).trans hb0) ?_
    refine wg_World_day hW hM (q' := 39) C dX10_swap_36 rfl kw_213 ?_
    rw [hd2]
    refine j_top (v' := .int (nI d)) (congrArg Value.int (lN_i d)) ?_
    refine jV1 jc9 (q := 42) C dX10_swap_39 rfl hW.1.1 mX9_priceOn kw_668 kw_378 kw_379 (ctX9_priceOn hW hM (k := d) (by omega) (nCutD_pr _ _ (by omega))) rfl rfl (by decide) (Nat.le_of_ble_eq_true rfl) (by decide) ?_
    exact j_lret C E dX10_swap_42 rfl rfl (xW_o (by unfold sSwap; rw [if_pos (show okR (nI kk) 1 9 from hx), ek]) hM hE)
  · refine j_aload_n (q := 13) C dX10_swap_12 rfl rfl rfl ?_
    refine j_ldc2 (q := 16) C dX10_swap_13 rfl kw_283 ?_
    refine jV1 jc10 (q := 19) C dX10_swap_16 rfl hs mX10_found kw_284 kw_285 kw_0 (ctX10_found hs) rfl rfl (by decide) (Nat.le_of_ble_eq_true rfl) (by decide) ?_
    exact j_lret C E dX10_swap_19 rfl rfl (xW_b (by unfold sSwap; rw [if_neg (show ¬ okR k 1 9 from fun h => jb_0.mp c_9 h)]))

