/-- a public method's end where the view is known only as far as it is shown -/
def xD (S : Nat → Prop) (mm w q pr lw d pe pa la : Nat) (M : jM) (s : sA) : Option Value → jM → Prop := fun r M2 => r = some (.long s.1) ∧ nQ True d pe pa la (vK w q pr lw M2) s.2.2 ∧ mEq S (xB mm M s.2.1) M2
theorem xD_o {S : Nat → Prop} {mm w q pr lw d pe pa la sz : Nat} {Sh : jS} {M M2 : jM} {s : sA} {v : Int64} {N : Nat → Int64} (h : s = (v, false, N)) (h1 : nQ True d pe pa la (vK w q pr lw M2) N) (h2 : mEq S M M2) : jT sz Sh (xD S mm w q pr lw d pe pa la M s) (some (.long v)) sz Sh M2 := by subst h; exact ⟨rfl, rfl, rfl, h1, h2⟩
theorem xD_b {S : Nat → Prop} {mm w q pr lw d pe pa la sz : Nat} {Sh : jS} {M M2 : jM} {s : sA} {v : Int64} {N : Nat → Int64} (h : s = (v, true, N)) (h1 : nQ True d pe pa la (vK w q pr lw M2) N) (h2 : mEq S M M2) (hmw : ¬ wS0 w q pr mm) (hmm : ¬ S mm) : jT sz Sh (xD S mm w q pr lw d pe pa la M s) (some (.long v)) sz Sh (jsL M2 mm 6 (M2.2.1 mm 6 + 1)) := by subst h; exact ⟨rfl, rfl, rfl, by rw [vK_mm hmw]; exact h1, h2.mm hmm⟩
theorem nb1 : (-100001 : Int32).toInt64 = -100001 := by decide
theorem nb5 : (-100005 : Int32).toInt64 = -100005 := by decide
theorem okR_x {m lo hi : Nat} (h1 : lo ≤ m) (h2 : m ≤ hi) (hh : hi < 2 ^ 31) : okR (nI m) lo hi := by
  show lN lo ≤ (nI m).toInt64 ∧ (nI m).toInt64 ≤ lN hi
  rw [nI_l (by omega), pk_lLE (by omega) (by omega), pk_lLE (by omega) (by omega)]
  exact ⟨h1, h2⟩
theorem sA_b {d mo : Nat} {n : Int32} {N : Nat → Int64} {e : sA} (h : ¬ okR n 1 mo) : (if (nA d n mo).2 = true then ((nA d n mo).1.toInt64, true, N) else e) = (-100001, true, N) := by
  have e1 : nA d n mo = (-100001, true) := if_neg h
  rw [e1, if_pos rfl, nb1]
theorem sA_f {d mo m : Nat} {N : Nat → Int64} {e : sA} (h1 : 1 ≤ m) (h2 : m ≤ mo) (hmo : mo ≤ 30) (h3 : 300 < d + m) : (if (nA d (nI m) mo).2 = true then ((nA d (nI m) mo).1.toInt64, true, N) else e) = (-100005, true, N) := by
  have e1 : nA d (nI m) mo = (-100005, true) := by
    unfold nA
    rw [if_pos (okR_x h1 h2 (by omega)), nI_clamp (by omega), if_pos h3]
  rw [e1, if_pos rfl, nb5]
theorem sA_o {d mo m : Nat} {N : Nat → Int64} {e : sA} (h1 : 1 ≤ m) (h2 : m ≤ mo) (hmo : mo ≤ 30) (h3 : d + m ≤ 300) : (if (nA d (nI m) mo).2 = true then ((nA d (nI m) mo).1.toInt64, true, N) else e) = e := by
  have e1 : nA d (nI m) mo = (0, false) := by
    unfold nA
    rw [if_pos (okR_x h1 h2 (by omega)), nI_clamp (by omega), if_neg (by omega)]
  rw [e1, if_neg (by decide)]
theorem nMel_le {LT : Nat → sT} {d pe pa la : Nat} {N : Nat → Int64} : ∀ m k, nMel LT d pe pa la N k m ≤ k + m
  | 0, k => Nat.zero_le _
  | m + 1, k => by
    rw [nMel]
    split
    · omega
    · have := nMel_le (LT := LT) (d := d) (pe := pe) (pa := pa) (la := la) (N := N) m (k + 1)
      omega
set_option maxRecDepth 100000 in
set_option maxHeartbeats 4000000 in
theorem ctX10_days {G : jG} {sz : Nat} {Sh : jS} {M : jM} {mm w q pr lw jg mk B la : Nat} {LT : Nat → sT} {K : Nat → Int64} (hs : (Sh mm).1 = 10) (hb0 : M.2.2 mm 0 = some w) (hC : wCx w q pr lw jg mk B la LT Sh M) (hL : mLay mk Sh M) (hAp : mAp w q pr lw mk) (hM : vK w q pr lw M = K) {d pe pa : Nat} (hO : nOk K d pe pa la) (hB : nB K d pe) (hS : nS K pa) (hmm : ¬ wSX w q pr jg mk mm) {n : Int32} : jC G yX10_days cX10_days 3 (Option.some FieldType.long) (jrm 6 0 0) sz Sh M [.ref mm, .int n] (jT sz Sh (xD (wSX w q pr jg mk) mm w q pr lw (d + n.toNatClampNeg) pe pa la M (sDays LT K d pe pa la n))) := by
  refine jC_start (by decide +kernel) (Nat.le_of_ble_eq_true rfl) (fun X C E hN0 => ?_)
  have hW := hC.1
  have hd3 := hO.1.2
  have hE : mEq (wSX w q pr jg mk) M M := mEq.rf
  refine j_iload_n (q := 1) C dX10_days_0 rfl rfl rfl ?_
  first | refine j_i2lN (q := 2) C dX10_days_1 rfl (by omega) ?_ | refine j_i2l (q := 2) C dX10_days_1 rfl rfl ?_
  refine j_lconst (v := 1) (q := 3) C dX10_days_2 rfl (by decide) ?_
  refine j_ldc2 (q := 6) C dX10_days_3 rfl kw_608 ?_
  refine jS1 (q := 9) C dX10_days_6 rfl mX10_within kw_278 kw_279 ctX10_within rfl rfl (by decide) (Nat.le_of_ble_eq_true rfl) (by decide) ?_
  refine j_if_ne (q := 12) (tgt := 20) C dX10_days_9 rfl (by decide) (fun c_9 => ?_) (fun c_9 => ?_)
  · have hx := jb_n.mp c_9
    obtain ⟨m, hm1, hm2, rfl⟩ := jix3 (lo := 1) (hi := 30) (by omega) hx.1 hx.2 (by omega)
    have em : (nI m).toNatClampNeg = m := nI_clamp (by omega)
    refine j_aload_n (q := 21) C dX10_days_20 rfl rfl rfl ?_
    refine jg_MM_now (q := 24) C dX10_days_21 rfl hs kw_266 ((congrFun (congrFun hE.2.2 mm) 0).trans hb0) ?_
    refine wg_World_day hW hM (q' := 27) C dX10_days_24 rfl kw_213 ?_
    refine j_top (v' := .int (nI d)) (congrArg Value.int (k32 hO.1.1)) ?_
    refine j_iload_n (q := 28) C dX10_days_27 rfl rfl rfl ?_
    first | refine j_iaddN (q := 29) C dX10_days_28 rfl ?_ | refine j_iadd (q := 29) C dX10_days_28 rfl ?_
    refine j_sipush (v := nI 300) (q := 32) C dX10_days_29 rfl (by decide) ?_
    refine j_icmp_le (q := 35) (tgt := 43) C dX10_days_32 rfl (by decide) (fun c_32 => ?_) (fun c_32 => ?_)
    · have hn : d + m ≤ 300 := (nI_leI (by omega) (by omega)).mp c_32
      refine j_iconst (v := nI 0) (q := 44) C dX10_days_43 rfl (by decide) ?_
      refine j_istore_n (lv' := [(2, _), (0, _), (1, _)]) (q := 45) C dX10_days_44 rfl rfl (by decide) rfl ?_
      have loop45 : ∀ (z k : Nat) (Mk : jM), nQ True (d + k) pe pa la (vK w q pr lw Mk) (nPl LT d pe pa la bF K k) → mEq (wSX w q pr jg mk) M Mk → k + z = m → jJ G X 0 0 sz Sh Mk 45 [(2, .int (nI k)), (0, .ref mm), (1, .int (nI m))] [] := by
        intro z
        induction z with
        | zero =>
          intro k Mk hq hE hk
          have hOk := nPl_ok (LT := LT) (b := bF) hO hB hS k (by omega)
          have hCk := hC.mv hE (fun b hb => wSX_lt (b := b) ⟨hC.2.2.2.2.2.1, hC.2.2.2.2.2.2.1, hC.2.2.2.2.2.2.2.1, hC.2.2.2.2.2.2.2.2.1, hC.2.2.2.2.2.2.2.2.2⟩ hb)
          have hW := hCk.1
          have hLk := hL.mv hE
          have hM : vK w q pr lw Mk = vK w q pr lw Mk := rfl
          have hOM := hOk.1.q hq
          refine j_iload_n (q := 46) C dX10_days_45 rfl rfl rfl ?_
          refine j_iload_n (q := 47) C dX10_days_46 rfl rfl rfl ?_
          refine j_icmp_ge (q := 50) (tgt := 63) C dX10_days_47 rfl (by decide) (fun c_47 => ?_) (fun c_47 => absurd (nI_le (by omega) (by omega)) c_47)
          obtain rfl : m = k := by omega
          have p1 := hq.at (k := 310 + (d + m)) (by unfold nIn; omega)
          refine j_aload_n (q := 64) C dX10_days_63 rfl rfl rfl ?_
          refine jg_MM_now (q := 67) C dX10_days_64 rfl hs kw_266 ((congrFun (congrFun hE.2.2 mm) 0).trans hb0) ?_
          refine j_aload_n (q := 68) C dX10_days_67 rfl rfl rfl ?_
          refine jg_MM_now (q := 71) C dX10_days_68 rfl hs kw_266 ((congrFun (congrFun hE.2.2 mm) 0).trans hb0) ?_
          refine wg_World_day hW hM (q' := 74) C dX10_days_71 rfl kw_213 ?_
          refine j_top (v' := .int (nI (d + m))) (congrArg Value.int (k32 hOM.1.1)) ?_
          refine jV1 jc9 (q := 77) C dX10_days_74 rfl hW.1.1 mX9_priceOn kw_668 kw_378 kw_379 (ctX9_priceOn hW hM (k := d + m) (by omega) (hOM.2.2.2.2.2 _ (by omega)).1) rfl rfl (by decide) (Nat.le_of_ble_eq_true rfl) (by decide) ?_
          rw [p1]
          exact j_lret C E dX10_days_77 rfl rfl (xD_o (by unfold sDays; rw [sA_o hm1 hm2 (by omega) hn, em]) (by rw [em]; exact hq) hE)
        | succ z ih =>
          intro k Mk hq hE hk
          have hOk := nPl_ok (LT := LT) (b := bF) hO hB hS k (by omega)
          have hCk := hC.mv hE (fun b hb => wSX_lt (b := b) ⟨hC.2.2.2.2.2.1, hC.2.2.2.2.2.2.1, hC.2.2.2.2.2.2.2.1, hC.2.2.2.2.2.2.2.2.1, hC.2.2.2.2.2.2.2.2.2⟩ hb)
          have hW := hCk.1
          have hLk := hL.mv hE
          have hM : vK w q pr lw Mk = vK w q pr lw Mk := rfl
          have hOM := hOk.1.q hq
          refine j_iload_n (q := 46) C dX10_days_45 rfl rfl rfl ?_
          refine j_iload_n (q := 47) C dX10_days_46 rfl rfl rfl ?_
          refine j_icmp_ge (q := 50) (tgt := 63) C dX10_days_47 rfl (by decide) (fun c_47 => absurd c_47 (fun h => absurd ((nI_leI (by omega) (by omega)).mp h) (by omega))) (fun c_47 => ?_)
          refine j_aload_n (q := 51) C dX10_days_50 rfl rfl rfl ?_
          refine jg_MM_now (q := 54) C dX10_days_51 rfl hs kw_266 ((congrFun (congrFun hE.2.2 mm) 0).trans hb0) ?_
          refine jVT jc9 (q := 57) C dX10_days_54 rfl hW.1.1 mX9_goDay kw_609 kw_610 kw_611 (ctX9_goDay hCk hM hOM hLk hAp (hOk.2.1.q hq) (hOk.2.2.q hq) (by omega)) rfl rfl (by decide) (Nat.le_of_ble_eq_true rfl) (by decide) (fun r_54 M_54 h_54 => ?_)
          obtain ⟨rfl, hq2, hE2⟩ := h_54
          have hq3 := hq2.tr (nDay_c hq hOk.1)
          have hE3 := hE.tr hE2
          first | refine j_iincN (lv' := [(2, _), (0, _), (1, _)]) (q := 60) C dX10_days_57 rfl rfl (by decide) rfl ?_ | refine j_iinc (lv' := [(2, _), (0, _), (1, _)]) (q := 60) C dX10_days_57 rfl rfl rfl (by decide) rfl ?_
          refine j_goto (tgt := 45) C dX10_days_60 (by decide) ?_
          exact j_fewer (lv' := [(2, .int (nI (k + 1))), (0, .ref mm), (1, .int (nI m))]) (by simp) (ih (k + 1) M_54 hq3 hE3 (by omega))
      exact j_fewer (lv' := [(2, .int (nI 0)), (0, .ref mm), (1, .int (nI m))]) (by simp) (loop45 m 0 M (by rw [hM]; exact nQ.rf) hE (by omega))
    · refine j_aload_n (q := 36) C dX10_days_35 rfl rfl rfl ?_
      refine j_ldc2 (q := 39) C dX10_days_36 rfl kw_287 ?_
      refine jV1 jc10 (q := 42) C dX10_days_39 rfl hs mX10_found kw_284 kw_285 kw_0 (ctX10_found hs) rfl rfl (by decide) (Nat.le_of_ble_eq_true rfl) (by decide) ?_
      exact j_lret C E dX10_days_42 rfl rfl (xD_b (by unfold sDays; exact sA_f hm1 hm2 (by omega) (by rcases Nat.lt_or_ge 300 (d + m) with e | e; exact e; exact absurd (nI_le e (by omega)) c_32)) (by rw [hM]; exact nQ.rf) hE (fun e => hmm (sub0X _ e)) hmm)
  · refine j_aload_n (q := 13) C dX10_days_12 rfl rfl rfl ?_
    refine j_ldc2 (q := 16) C dX10_days_13 rfl kw_283 ?_
    refine jV1 jc10 (q := 19) C dX10_days_16 rfl hs mX10_found kw_284 kw_285 kw_0 (ctX10_found hs) rfl rfl (by decide) (Nat.le_of_ble_eq_true rfl) (by decide) ?_
    exact j_lret C E dX10_days_19 rfl rfl (xD_b (by unfold sDays; exact sA_b (fun h => jb_0.mp c_9 h)) (by rw [hM]; exact nQ.rf) hE (fun e => hmm (sub0X _ e)) hmm)

set_option maxRecDepth 100000 in
set_option maxHeartbeats 4000000 in
theorem ctX10_need {G : jG} {sz : Nat} {Sh : jS} {M : jM} {mm ah w q pr lw jg mk B la : Nat} {LT : Nat → sT} {K : Nat → Int64} (hs : (Sh mm).1 = 10) (hb0 : M.2.2 mm 0 = some w) (hb2 : M.2.2 mm 2 = some ah) (hA : aCx ah w q pr lw jg mk B la LT Sh M) (hM : vK w q pr lw M = K) {d pe pa : Nat} (hO : nOk K d pe pa la) (hB : nB K d pe) (hS : nS K pa) (hmw : ¬ wS0 w q pr mm) (hmm : ¬ aS ah pr jg mk mm) {n : Int32} : jC G yX10_need cX10_need 2 (Option.some FieldType.long) (jrm 7 0 0) sz Sh M [.ref mm, .int n] (jT sz Sh (xD (aS ah pr jg mk) mm w q pr lw d pe pa la M (sNeed LT K d pe pa la n))) := by
  refine jC_start (by decide +kernel) (Nat.le_of_ble_eq_true rfl) (fun X C E hN0 => ?_)
  have hC := hA.2.2.2.2.2.1
  have hW := hC.1
  have hE : mEq (aS ah pr jg mk) M M := mEq.rf
  have h4 := hO.2.1.1
  have hpe := hO.2.1.2
  have hpa := hO.2.2.1.2
  have hla := hO.2.2.2.1.2
  have hd3 := hO.1.2
  have hq0 : nQ True d pe pa la (vK w q pr lw M) K := by rw [hM]; exact nQ.rf
  refine j_iload_n (q := 1) C dX10_need_0 rfl rfl rfl ?_
  first | refine j_i2lN (q := 2) C dX10_need_1 rfl (by omega) ?_ | refine j_i2l (q := 2) C dX10_need_1 rfl rfl ?_
  refine j_lconst (v := 1) (q := 3) C dX10_need_2 rfl (by decide) ?_
  refine j_ldc2 (q := 6) C dX10_need_3 rfl kw_608 ?_
  refine jS1 (q := 9) C dX10_need_6 rfl mX10_within kw_278 kw_279 ctX10_within rfl rfl (by decide) (Nat.le_of_ble_eq_true rfl) (by decide) ?_
  refine j_if_ne (q := 12) (tgt := 20) C dX10_need_9 rfl (by decide) (fun c_9 => ?_) (fun c_9 => ?_)
  · have hx := jb_n.mp c_9
    obtain ⟨m, hm1, hm2, rfl⟩ := jix3 (lo := 1) (hi := 30) (by omega) hx.1 hx.2 (by omega)
    have em : (nI m).toNatClampNeg = m := nI_clamp (by omega)
    refine j_aload_n (q := 21) C dX10_need_20 rfl rfl rfl ?_
    refine jg_MM_now (q := 24) C dX10_need_21 rfl hs kw_266 ((congrFun (congrFun hE.2.2 mm) 0).trans hb0) ?_
    refine wg_World_day hW hM (q' := 27) C dX10_need_24 rfl kw_213 ?_
    refine j_top (v' := .int (nI d)) (congrArg Value.int (k32 hO.1.1)) ?_
    refine j_iload_n (q := 28) C dX10_need_27 rfl rfl rfl ?_
    first | refine j_iaddN (q := 29) C dX10_need_28 rfl ?_ | refine j_iadd (q := 29) C dX10_need_28 rfl ?_
    refine j_sipush (v := nI 300) (q := 32) C dX10_need_29 rfl (by decide) ?_
    refine j_icmp_le (q := 35) (tgt := 43) C dX10_need_32 rfl (by decide) (fun c_32 => ?_) (fun c_32 => ?_)
    · have hn : d + m ≤ 300 := (nI_leI (by omega) (by omega)).mp c_32
      refine j_aload_n (q := 44) C dX10_need_43 rfl rfl rfl ?_
      refine jg_MM_lookout (q := 47) C dX10_need_44 rfl hs kw_268 ((congrFun (congrFun hE.2.2 mm) 2).trans hb2) ?_
      refine j_aload_n (q := 48) C dX10_need_47 rfl rfl rfl ?_
      refine jg_MM_now (q := 51) C dX10_need_48 rfl hs kw_266 ((congrFun (congrFun hE.2.2 mm) 0).trans hb0) ?_
      refine j_iload_n (q := 52) C dX10_need_51 rfl rfl rfl ?_
      refine jVT jc0 (q := 55) C dX10_need_52 rfl hA.1.1 mX0_printedIn kw_715 kw_716 kw_717 (ctX0_printedIn hA hM hO hB hS hn) rfl rfl (by decide) (Nat.le_of_ble_eq_true rfl) (by decide) (fun r_52 M_52 h_52 => ?_)
      obtain ⟨rfl, hE2_52, hPn⟩ := h_52
      have hqn := hA.nowQ (pe := pe) (pa := pa) hE2_52 hPn hpe hpa hla
      rw [hM] at hqn
      clear hE
      have hE := hE2_52
      exact j_lret C E dX10_need_55 rfl rfl (xD_o (by unfold sNeed; rw [sA_o hm1 hm2 (by omega) hn, em]) hqn hE)
    · refine j_aload_n (q := 36) C dX10_need_35 rfl rfl rfl ?_
      refine j_ldc2 (q := 39) C dX10_need_36 rfl kw_287 ?_
      refine jV1 jc10 (q := 42) C dX10_need_39 rfl hs mX10_found kw_284 kw_285 kw_0 (ctX10_found hs) rfl rfl (by decide) (Nat.le_of_ble_eq_true rfl) (by decide) ?_
      exact j_lret C E dX10_need_42 rfl rfl (xD_b (by unfold sNeed; exact sA_f hm1 hm2 (by omega) (by rcases Nat.lt_or_ge 300 (d + m) with e | e; exact e; exact absurd (nI_le e (by omega)) c_32)) hq0 hE hmw hmm)
  · refine j_aload_n (q := 13) C dX10_need_12 rfl rfl rfl ?_
    refine j_ldc2 (q := 16) C dX10_need_13 rfl kw_283 ?_
    refine jV1 jc10 (q := 19) C dX10_need_16 rfl hs mX10_found kw_284 kw_285 kw_0 (ctX10_found hs) rfl rfl (by decide) (Nat.le_of_ble_eq_true rfl) (by decide) ?_
    exact j_lret C E dX10_need_19 rfl rfl (xD_b (by unfold sNeed; exact sA_b (fun h => jb_0.mp c_9 h)) hq0 hE hmw hmm)

set_option maxRecDepth 100000 in
set_option maxHeartbeats 4000000 in
theorem ctX10_melts {G : jG} {sz : Nat} {Sh : jS} {M : jM} {mm ah w q pr lw jg mk B la : Nat} {LT : Nat → sT} {K : Nat → Int64} (hs : (Sh mm).1 = 10) (hb0 : M.2.2 mm 0 = some w) (hb2 : M.2.2 mm 2 = some ah) (hA : aCx ah w q pr lw jg mk B la LT Sh M) (hM : vK w q pr lw M = K) {d pe pa : Nat} (hO : nOk K d pe pa la) (hB : nB K d pe) (hS : nS K pa) (hmw : ¬ wS0 w q pr mm) (hmm : ¬ aS ah pr jg mk mm) {n : Int32} : jC G yX10_melts cX10_melts 3 (Option.some FieldType.long) (jrm 7 0 0) sz Sh M [.ref mm, .int n] (jT sz Sh (xD (aS ah pr jg mk) mm w q pr lw d pe pa la M (sMelts LT K d pe pa la n))) := by
  refine jC_start (by decide +kernel) (Nat.le_of_ble_eq_true rfl) (fun X C E hN0 => ?_)
  have hC := hA.2.2.2.2.2.1
  have hW := hC.1
  have hE : mEq (aS ah pr jg mk) M M := mEq.rf
  have h4 := hO.2.1.1
  have hpe := hO.2.1.2
  have hpa := hO.2.2.1.2
  have hla := hO.2.2.2.1.2
  have hd3 := hO.1.2
  have hq0 : nQ True d pe pa la (vK w q pr lw M) K := by rw [hM]; exact nQ.rf
  refine j_iload_n (q := 1) C dX10_melts_0 rfl rfl rfl ?_
  first | refine j_i2lN (q := 2) C dX10_melts_1 rfl (by omega) ?_ | refine j_i2l (q := 2) C dX10_melts_1 rfl rfl ?_
  refine j_lconst (v := 1) (q := 3) C dX10_melts_2 rfl (by decide) ?_
  refine j_ldc2 (q := 6) C dX10_melts_3 rfl kw_608 ?_
  refine jS1 (q := 9) C dX10_melts_6 rfl mX10_within kw_278 kw_279 ctX10_within rfl rfl (by decide) (Nat.le_of_ble_eq_true rfl) (by decide) ?_
  refine j_if_ne (q := 12) (tgt := 20) C dX10_melts_9 rfl (by decide) (fun c_9 => ?_) (fun c_9 => ?_)
  · have hx := jb_n.mp c_9
    obtain ⟨m, hm1, hm2, rfl⟩ := jix3 (lo := 1) (hi := 30) (by omega) hx.1 hx.2 (by omega)
    have em : (nI m).toNatClampNeg = m := nI_clamp (by omega)
    refine j_aload_n (q := 21) C dX10_melts_20 rfl rfl rfl ?_
    refine jg_MM_now (q := 24) C dX10_melts_21 rfl hs kw_266 ((congrFun (congrFun hE.2.2 mm) 0).trans hb0) ?_
    refine wg_World_day hW hM (q' := 27) C dX10_melts_24 rfl kw_213 ?_
    refine j_top (v' := .int (nI d)) (congrArg Value.int (k32 hO.1.1)) ?_
    refine j_iload_n (q := 28) C dX10_melts_27 rfl rfl rfl ?_
    first | refine j_iaddN (q := 29) C dX10_melts_28 rfl ?_ | refine j_iadd (q := 29) C dX10_melts_28 rfl ?_
    refine j_sipush (v := nI 300) (q := 32) C dX10_melts_29 rfl (by decide) ?_
    refine j_icmp_le (q := 35) (tgt := 43) C dX10_melts_32 rfl (by decide) (fun c_32 => ?_) (fun c_32 => ?_)
    · have hn : d + m ≤ 300 := (nI_leI (by omega) (by omega)).mp c_32
      refine j_aload_n (q := 44) C dX10_melts_43 rfl rfl rfl ?_
      refine jg_MM_lookout (q := 47) C dX10_melts_44 rfl hs kw_268 ((congrFun (congrFun hE.2.2 mm) 2).trans hb2) ?_
      refine j_aload_n (q := 48) C dX10_melts_47 rfl rfl rfl ?_
      refine jg_MM_now (q := 51) C dX10_melts_48 rfl hs kw_266 ((congrFun (congrFun hE.2.2 mm) 0).trans hb0) ?_
      refine j_iload_n (q := 52) C dX10_melts_51 rfl rfl rfl ?_
      refine jVT jc0 (q := 55) C dX10_melts_52 rfl hA.1.1 mX0_daysToMelting kw_736 kw_737 kw_738 (ctX0_daysToMelting hA hM hO hB hS hn) rfl rfl (by decide) (Nat.le_of_ble_eq_true rfl) (by decide) (fun r_52 M_52 h_52 => ?_)
      obtain ⟨rfl, hE2_52, hPn⟩ := h_52
      have hqn := hA.nowQ (pe := pe) (pa := pa) hE2_52 hPn hpe hpa hla
      rw [hM] at hqn
      clear hE
      have hE := hE2_52
      have hml := nMel_le (LT := LT) (d := d) (pe := pe) (pa := pa) (la := la) (N := K) m 0
      refine j_istore_n (lv' := [(2, _), (0, _), (1, _)]) (q := 56) C dX10_melts_55 rfl rfl (by decide) rfl ?_
      refine j_iload_n (q := 57) C dX10_melts_56 rfl rfl rfl ?_
      refine j_if_ge (q := 60) (tgt := 68) C dX10_melts_57 rfl (by decide) (fun c_57 => ?_) (fun c_57 => ?_)
      · have hz : ¬ nMel LT d pe pa la K 0 m = 0 := fun e => by rw [if_pos e] at c_57; exact absurd c_57 (by decide)
        rw [if_neg hz]
        refine j_iload_n (q := 69) C dX10_melts_68 rfl rfl rfl ?_
        first | refine j_i2lN (q := 70) C dX10_melts_69 rfl (by omega) ?_ | refine j_i2l (q := 70) C dX10_melts_69 rfl rfl ?_
        exact j_lret C E dX10_melts_70 rfl rfl (xD_o (by unfold sMelts; rw [sA_o hm1 hm2 (by omega) hn, em, if_neg hz]) hqn hE)
      · have hz : nMel LT d pe pa la K 0 m = 0 := by
          rcases Nat.eq_zero_or_pos (nMel LT d pe pa la K 0 m) with e | e
          · exact e
          · exact absurd (by rw [if_neg (by omega)]; exact nI_pos' (by have := nMel_le (LT := LT) (d := d) (pe := pe) (pa := pa) (la := la) (N := K) m 0; omega)) c_57
        refine j_aload_n (q := 61) C dX10_melts_60 rfl rfl rfl ?_
        refine j_ldc2 (q := 64) C dX10_melts_61 rfl kw_369 ?_
        refine jV1 jc10 (q := 67) C dX10_melts_64 rfl hs mX10_found kw_284 kw_285 kw_0 (ctX10_found hs) rfl rfl (by decide) (Nat.le_of_ble_eq_true rfl) (by decide) ?_
        exact j_lret C E dX10_melts_67 rfl rfl (xD_b (by unfold sMelts; rw [sA_o hm1 hm2 (by omega) hn, em, if_pos hz]) hqn hE hmw hmm)
    · refine j_aload_n (q := 36) C dX10_melts_35 rfl rfl rfl ?_
      refine j_ldc2 (q := 39) C dX10_melts_36 rfl kw_287 ?_
      refine jV1 jc10 (q := 42) C dX10_melts_39 rfl hs mX10_found kw_284 kw_285 kw_0 (ctX10_found hs) rfl rfl (by decide) (Nat.le_of_ble_eq_true rfl) (by decide) ?_
      exact j_lret C E dX10_melts_42 rfl rfl (xD_b (by unfold sMelts; exact sA_f hm1 hm2 (by omega) (by rcases Nat.lt_or_ge 300 (d + m) with e | e; exact e; exact absurd (nI_le e (by omega)) c_32)) hq0 hE hmw hmm)
  · refine j_aload_n (q := 13) C dX10_melts_12 rfl rfl rfl ?_
    refine j_ldc2 (q := 16) C dX10_melts_13 rfl kw_283 ?_
    refine jV1 jc10 (q := 19) C dX10_melts_16 rfl hs mX10_found kw_284 kw_285 kw_0 (ctX10_found hs) rfl rfl (by decide) (Nat.le_of_ble_eq_true rfl) (by decide) ?_
    exact j_lret C E dX10_melts_19 rfl rfl (xD_b (by unfold sMelts; exact sA_b (fun h => jb_0.mp c_9 h)) hq0 hE hmw hmm)

set_option maxRecDepth 100000 in
set_option maxHeartbeats 4000000 in
theorem ctX10_beside {G : jG} {sz : Nat} {Sh : jS} {M : jM} {mm ah w q pr lw jg mk B la : Nat} {LT : Nat → sT} {K : Nat → Int64} (hs : (Sh mm).1 = 10) (hb0 : M.2.2 mm 0 = some w) (hb2 : M.2.2 mm 2 = some ah) (hA : aCx ah w q pr lw jg mk B la LT Sh M) (hM : vK w q pr lw M = K) {d pe pa : Nat} (hO : nOk K d pe pa la) (hB : nB K d pe) (hS : nS K pa) (hmw : ¬ wS0 w q pr mm) (hmm : ¬ aS ah pr jg mk mm) {p n : Int32} {v : Int64} : jC G yX10_beside cX10_beside 5 (Option.some FieldType.long) (jrm 7 0 0) sz Sh M [.ref mm, .int p, .long v, .int n] (jT sz Sh (xD (aS ah pr jg mk) mm w q pr lw d pe pa la M (sBeside LT K d pe pa la p v n))) := by
  refine jC_start (by decide +kernel) (Nat.le_of_ble_eq_true rfl) (fun X C E hN0 => ?_)
  have hC := hA.2.2.2.2.2.1
  have hW := hC.1
  have hE : mEq (aS ah pr jg mk) M M := mEq.rf
  have h4 := hO.2.1.1
  have hpe := hO.2.1.2
  have hpa := hO.2.2.1.2
  have hla := hO.2.2.2.1.2
  have hd3 := hO.1.2
  have hq0 : nQ True d pe pa la (vK w q pr lw M) K := by rw [hM]; exact nQ.rf
  refine j_aload_n (q := 1) C dX10_beside_0 rfl rfl rfl ?_
  refine jg_MM_now (q := 4) C dX10_beside_1 rfl hs kw_266 ((congrFun (congrFun hE.2.2 mm) 0).trans hb0) ?_
  refine j_iload_n (q := 5) C dX10_beside_4 rfl rfl rfl ?_
  refine jV1 jc9 (q := 8) C dX10_beside_5 rfl hW.1.1 mX9_hasPerson kw_300 kw_301 kw_302 (ctX9_hasPerson hW hM h4) rfl rfl (by decide) (Nat.le_of_ble_eq_true rfl) (by decide) ?_
  refine j_if_eq (q := 11) (tgt := 35) C dX10_beside_8 rfl (by decide) (fun c_8 => ?_) (fun c_8 => ?_)
  · refine j_aload_n (q := 36) C dX10_beside_35 rfl rfl rfl ?_
    refine j_ldc2 (q := 39) C dX10_beside_36 rfl kw_283 ?_
    refine jV1 jc10 (q := 42) C dX10_beside_39 rfl hs mX10_found kw_284 kw_285 kw_0 (ctX10_found hs) rfl rfl (by decide) (Nat.le_of_ble_eq_true rfl) (by decide) ?_
    exact j_lret C E dX10_beside_42 rfl rfl (xD_b (by unfold sBeside; rw [if_neg (fun h => jb_0.mp c_8 ((hasP_x hpe).mpr ((okP_x h4 hpe).mp h.1)))]) hq0 hE hmw hmm)
  · obtain ⟨i, hi0, rfl⟩ := (hasP_x hpe).mp (jb_n.mp c_8)
    have hi : i < 10 := by omega
    have ei : (nI i).toNatClampNeg = i := nI_clamp (by omega)
    have hok : okP K (nI i) := (okP_x h4 hpe).mpr ⟨i, hi0, rfl⟩
    refine j_lload_n (q := 12) C dX10_beside_11 rfl rfl rfl ?_
    refine j_lconst (v := 0) (q := 13) C dX10_beside_12 rfl (by decide) ?_
    refine j_ldc2 (q := 16) C dX10_beside_13 rfl kw_277 ?_
    refine jS1 (q := 19) C dX10_beside_16 rfl mX10_within kw_278 kw_279 ctX10_within rfl rfl (by decide) (Nat.le_of_ble_eq_true rfl) (by decide) ?_
    refine j_if_eq (q := 22) (tgt := 35) C dX10_beside_19 rfl (by decide) (fun c_19 => ?_) (fun c_19 => ?_)
    · refine j_aload_n (q := 36) C dX10_beside_35 rfl rfl rfl ?_
      refine j_ldc2 (q := 39) C dX10_beside_36 rfl kw_283 ?_
      refine jV1 jc10 (q := 42) C dX10_beside_39 rfl hs mX10_found kw_284 kw_285 kw_0 (ctX10_found hs) rfl rfl (by decide) (Nat.le_of_ble_eq_true rfl) (by decide) ?_
      exact j_lret C E dX10_beside_42 rfl rfl (xD_b (by unfold sBeside; rw [if_neg (fun h => jb_0.mp c_19 h.2)]) hq0 hE hmw hmm)
    · refine j_iload (q := 24) C dX10_beside_22 rfl rfl ?_
      first | refine j_i2lN (q := 25) C dX10_beside_24 rfl (by omega) ?_ | refine j_i2l (q := 25) C dX10_beside_24 rfl rfl ?_
      refine j_lconst (v := 1) (q := 26) C dX10_beside_25 rfl (by decide) ?_
      refine j_ldc2 (q := 29) C dX10_beside_26 rfl kw_608 ?_
      refine jS1 (q := 32) C dX10_beside_29 rfl mX10_within kw_278 kw_279 ctX10_within rfl rfl (by decide) (Nat.le_of_ble_eq_true rfl) (by decide) ?_
      refine j_if_ne (q := 35) (tgt := 43) C dX10_beside_32 rfl (by decide) (fun c_32 => ?_) (fun c_32 => ?_)
      · have hy := jb_n.mp c_19
        have hx := jb_n.mp c_32
        obtain ⟨m, hm1, hm2, rfl⟩ := jix3 (lo := 1) (hi := 30) (by omega) hx.1 hx.2 (by omega)
        have em : (nI m).toNatClampNeg = m := nI_clamp (by omega)
        refine j_aload_n (q := 44) C dX10_beside_43 rfl rfl rfl ?_
        refine jg_MM_now (q := 47) C dX10_beside_44 rfl hs kw_266 ((congrFun (congrFun hE.2.2 mm) 0).trans hb0) ?_
        refine wg_World_day hW hM (q' := 50) C dX10_beside_47 rfl kw_213 ?_
        refine j_top (v' := .int (nI d)) (congrArg Value.int (k32 hO.1.1)) ?_
        refine j_iload (q := 52) C dX10_beside_50 rfl rfl ?_
        first | refine j_iaddN (q := 53) C dX10_beside_52 rfl ?_ | refine j_iadd (q := 53) C dX10_beside_52 rfl ?_
        refine j_sipush (v := nI 300) (q := 56) C dX10_beside_53 rfl (by decide) ?_
        refine j_icmp_le (q := 59) (tgt := 67) C dX10_beside_56 rfl (by decide) (fun c_56 => ?_) (fun c_56 => ?_)
        · have hn : d + m ≤ 300 := (nI_leI (by omega) (by omega)).mp c_56
          refine j_aload_n (q := 68) C dX10_beside_67 rfl rfl rfl ?_
          refine jg_MM_lookout (q := 71) C dX10_beside_68 rfl hs kw_268 ((congrFun (congrFun hE.2.2 mm) 2).trans hb2) ?_
          refine j_aload_n (q := 72) C dX10_beside_71 rfl rfl rfl ?_
          refine jg_MM_now (q := 75) C dX10_beside_72 rfl hs kw_266 ((congrFun (congrFun hE.2.2 mm) 0).trans hb0) ?_
          refine j_iload_n (q := 76) C dX10_beside_75 rfl rfl rfl ?_
          refine j_lload_n (q := 77) C dX10_beside_76 rfl rfl rfl ?_
          refine j_iload (q := 79) C dX10_beside_77 rfl rfl ?_
          refine jVT jc0 (q := 82) C dX10_beside_79 rfl hA.1.1 mX0_priceWith kw_795 kw_796 kw_797 (ctX0_priceWith (n := m) (i := i) (v := v) hA hM hO hB hS hn hi0 (isN_ofR hy)) rfl rfl (by decide) (Nat.le_of_ble_eq_true rfl) (by decide) (fun r_79 M_79 h_79 => ?_)
          obtain ⟨rfl, hE2_79, hPn⟩ := h_79
          have hqn := hA.nowQ (pe := pe) (pa := pa) hE2_79 hPn hpe hpa hla
          rw [hM] at hqn
          clear hE
          have hE := hE2_79
          have hA2 := hA.mv hE
          have hO2 := hO.q hqn
          have hB2 := hB.q hqn
          have hS2 := hS.q hqn
          refine j_aload_n (q := 83) C dX10_beside_82 rfl rfl rfl ?_
          refine jg_MM_lookout (q := 86) C dX10_beside_83 rfl hs kw_268 ((congrFun (congrFun hE.2.2 mm) 2).trans hb2) ?_
          refine j_aload_n (q := 87) C dX10_beside_86 rfl rfl rfl ?_
          refine jg_MM_now (q := 90) C dX10_beside_87 rfl hs kw_266 ((congrFun (congrFun hE.2.2 mm) 0).trans hb0) ?_
          refine j_iload_n (q := 91) C dX10_beside_90 rfl rfl rfl ?_
          refine j_lconst (v := 0) (q := 92) C dX10_beside_91 rfl (by decide) ?_
          refine j_iload (q := 94) C dX10_beside_92 rfl rfl ?_
          refine jVT jc0 (q := 97) C dX10_beside_94 rfl hA.1.1 mX0_priceWith kw_795 kw_796 kw_797 (ctX0_priceWith (n := m) (i := i) (v := 0) hA2 rfl hO2 hB2 hS2 hn hi0 ⟨rfl, by decide⟩) rfl rfl (by decide) (Nat.le_of_ble_eq_true rfl) (by decide) (fun r_94 M_94 h_94 => ?_)
          obtain ⟨rfl, hE2_94, hPn2⟩ := h_94
          have hqm := (hA2.nowQ (pe := pe) (pa := pa) hE2_94 hPn2 hpe hpa hla).tr hqn
          clear hE
          have hE := hE2_79.tr hE2_94
          have bK := hB2 i 0 hi0 (by omega)
          have bK2 : nv (vK w q pr lw M_79 (10 + 10 * i + 0)) ≤ 1000000000000000 := bK.2
          have g0 : nGets (vK w q pr lw M_79) (10 + 10 * i + 0) 0 = vK w q pr lw M_79 := nGets_0 (by rw [bK.1, show (1000000000000000 : Int64) = lN 1000000000000000 from rfl, pk_lLE (by omega) (by omega)]; exact bK2)
          have e1 := (nPl_c (b := bF) (LT := LT) hqn hO hB hS m hn).at (k := 310 + (d + m)) (by unfold nIn; omega)
          have hG : nQ False d pe pa la (nGets K (10 + 10 * i + 0) v) (nGift K i v) := by
            unfold nGift
            refine nQ.gets' ?_ (va_up_ne _ _ (by omega)).symm (by omega) v
            intro j hj
            rw [va_up_ne _ _ (fun e => hj.elim (fun h => by unfold nIn at h; omega) (fun h => h.1))]
          have bv := isN_ofR hy
          have hO3 : nOk (nGift K i v) d pe pa la := hO.eq ((nEq.rf.up _ nSt2).gets _ (nStP (by omega) (by omega)))
          have hB3 : nB (nGift K i v) d pe := (hB.out hpe (by omega)).gets hi0 bv
          have hS3 : nS (nGift K i v) pa := hS.eq ((nEq.rf.up _ nSt2).gets _ (nStP (by omega) (by omega)))
          have e2 := (nPl_c (b := bF) (LT := LT) hG hO3 hB3 hS3 m hn).at (k := 310 + (d + m)) (by unfold nIn; omega)
          rw [g0, e1, e2]
          refine j_lsub (q := 98) C dX10_beside_97 rfl ?_
          exact j_lret C E dX10_beside_98 rfl rfl (xD_o (by unfold sBeside; rw [if_pos ⟨hok, hy⟩, sA_o hm1 hm2 (by omega) hn, em, ei]) hqm hE)
        · refine j_aload_n (q := 60) C dX10_beside_59 rfl rfl rfl ?_
          refine j_ldc2 (q := 63) C dX10_beside_60 rfl kw_287 ?_
          refine jV1 jc10 (q := 66) C dX10_beside_63 rfl hs mX10_found kw_284 kw_285 kw_0 (ctX10_found hs) rfl rfl (by decide) (Nat.le_of_ble_eq_true rfl) (by decide) ?_
          exact j_lret C E dX10_beside_66 rfl rfl (xD_b (by unfold sBeside; rw [if_pos ⟨hok, hy⟩]; exact sA_f hm1 hm2 (by omega) (by rcases Nat.lt_or_ge 300 (d + m) with e | e; exact e; exact absurd (nI_le e (by omega)) c_56)) hq0 hE hmw hmm)
      · refine j_aload_n (q := 36) C dX10_beside_35 rfl rfl rfl ?_
        refine j_ldc2 (q := 39) C dX10_beside_36 rfl kw_283 ?_
        refine jV1 jc10 (q := 42) C dX10_beside_39 rfl hs mX10_found kw_284 kw_285 kw_0 (ctX10_found hs) rfl rfl (by decide) (Nat.le_of_ble_eq_true rfl) (by decide) ?_
        exact j_lret C E dX10_beside_42 rfl rfl (xD_b (by unfold sBeside; rw [if_pos ⟨hok, jb_n.mp c_19⟩]; exact sA_b (fun h => jb_0.mp c_32 h)) hq0 hE hmw hmm)

theorem xC_o {S : Nat → Prop} {mm w q pr lw d pe pa la sz m bb : Nat} {x : Int32} {LT : Nat → sT} {K : Nat → Int64} {Sh : jS} {M M2 : jM} {v : Int64} (hO : nOk K d pe pa la) (hm1 : 1 ≤ m) (hm2 : m ≤ 8) (hn : d + m ≤ 300) (hz : okW x 2) (hb : isB (hK LT d pe pa la m K) (pK LT d pe pa la m K) (fun z => z < 2 ^ m) bb) (hv : v = if x = 0 then lN bb else if x = nI 1 then hK LT d pe pa la m K bb else pK LT d pe pa la m K bb) (h1 : nQ True d pe pa la (vK w q pr lw M2) K) (h2 : mEq S M M2) : jT sz Sh (fun r M2 => ∃ s, cRel LT K d pe pa la (nI m) x s ∧ xD S mm w q pr lw d pe pa la M s r M2) (some (.long v)) sz Sh M2 := by
  refine ⟨rfl, rfl, (v, false, K), ?_, rfl, h1, h2⟩
  unfold cRel
  have e1 : nA d (nI m) 8 = (0, false) := by
    unfold nA
    rw [if_pos (okR_x hm1 hm2 (by omega)), nI_clamp (by omega), if_neg (by omega)]
  rw [if_pos hz, e1, if_neg (by decide), nI_clamp (by omega)]
  exact ⟨bb, hb, by rw [hv]⟩
theorem cRel_b {LT : Nat → sT} {K : Nat → Int64} {d pe pa la : Nat} {n x : Int32} (h : ¬ okR n 1 8) : cRel LT K d pe pa la n x (-100001, true, K) := by
  unfold cRel
  have e1 : nA d n 8 = (-100001, true) := if_neg h
  rw [e1]
  split
  · rw [if_pos rfl, nb1]
  · rfl
theorem cRel_c {LT : Nat → sT} {K : Nat → Int64} {d pe pa la : Nat} {n x : Int32} (h : ¬ okW x 2) : cRel LT K d pe pa la n x (-100001, true, K) := by
  unfold cRel
  rw [if_neg h]
theorem cRel_f {LT : Nat → sT} {K : Nat → Int64} {d pe pa la m : Nat} {x : Int32} (hz : okW x 2) (hm1 : 1 ≤ m) (hm2 : m ≤ 8) (h3 : 300 < d + m) : cRel LT K d pe pa la (nI m) x (-100005, true, K) := by
  unfold cRel
  have e1 : nA d (nI m) 8 = (-100005, true) := by
    unfold nA
    rw [if_pos (okR_x hm1 hm2 (by omega)), nI_clamp (by omega), if_pos h3]
  rw [if_pos hz, e1, if_pos rfl, nb5]
theorem xC_b {S : Nat → Prop} {mm w q pr lw d pe pa la sz : Nat} {n x : Int32} {LT : Nat → sT} {K : Nat → Int64} {Sh : jS} {M M2 : jM} {v : Int64} (h : cRel LT K d pe pa la n x (v, true, K)) (h1 : nQ True d pe pa la (vK w q pr lw M2) K) (h2 : mEq S M M2) (hmw : ¬ wS0 w q pr mm) (hmm : ¬ S mm) : jT sz Sh (fun r M2 => ∃ s, cRel LT K d pe pa la n x s ∧ xD S mm w q pr lw d pe pa la M s r M2) (some (.long v)) sz Sh (jsL M2 mm 6 (M2.2.1 mm 6 + 1)) := ⟨rfl, rfl, (v, true, K), h, rfl, by rw [vK_mm hmw]; exact h1, h2.mm hmm⟩
set_option maxRecDepth 100000 in
set_option maxHeartbeats 4000000 in
theorem ctX10_choices {G : jG} {sz : Nat} {Sh : jS} {M : jM} {mm ah w q pr lw jg mk B la : Nat} {LT : Nat → sT} {K : Nat → Int64} (hs : (Sh mm).1 = 10) (hb0 : M.2.2 mm 0 = some w) (hb2 : M.2.2 mm 2 = some ah) (hA : aCx ah w q pr lw jg mk B la LT Sh M) (hM : vK w q pr lw M = K) {d pe pa : Nat} (hO : nOk K d pe pa la) (hB : nB K d pe) (hS : nS K pa) (hmw : ¬ wS0 w q pr mm) (hmm : ¬ aS ah pr jg mk mm) (hahN : ∀ b, (lw ≤ b ∧ b ≤ lw + 4) → b ≠ ah) (hpa0 : pr ≠ ah ∧ jg + 1 ≠ ah ∧ jg + 2 ≠ ah ∧ mk + 1 ≠ ah ∧ mk + 2 ≠ ah) {n x : Int32} : jC G yX10_choices cX10_choices 3 (Option.some FieldType.long) (jrm 44 0 0) sz Sh M [.ref mm, .int n, .int x] (jT sz Sh (fun r M2 => ∃ s, cRel LT K d pe pa la n x s ∧ xD (aS ah pr jg mk) mm w q pr lw d pe pa la M s r M2)) := by
  refine jC_start (by decide +kernel) (Nat.le_of_ble_eq_true rfl) (fun X C E hN0 => ?_)
  have hC := hA.2.2.2.2.2.1
  have hW := hC.1
  have hE : mEq (aS ah pr jg mk) M M := mEq.rf
  have h4 := hO.2.1.1
  have hpe := hO.2.1.2
  have hpa := hO.2.2.1.2
  have hla := hO.2.2.2.1.2
  have hd3 := hO.1.2
  have hq0 : nQ True d pe pa la (vK w q pr lw M) K := by rw [hM]; exact nQ.rf
  refine j_iload_n (q := 1) C dX10_choices_0 rfl rfl rfl ?_
  first | refine j_i2lN (q := 2) C dX10_choices_1 rfl (by omega) ?_ | refine j_i2l (q := 2) C dX10_choices_1 rfl rfl ?_
  refine j_lconst (v := 1) (q := 3) C dX10_choices_2 rfl (by decide) ?_
  refine j_ldc2 (q := 6) C dX10_choices_3 rfl kw_457 ?_
  refine jS1 (q := 9) C dX10_choices_6 rfl mX10_within kw_278 kw_279 ctX10_within rfl rfl (by decide) (Nat.le_of_ble_eq_true rfl) (by decide) ?_
  refine j_if_eq (q := 12) (tgt := 24) C dX10_choices_9 rfl (by decide) (fun c_9 => ?_) (fun c_9 => ?_)
  · refine j_aload_n (q := 25) C dX10_choices_24 rfl rfl rfl ?_
    refine j_ldc2 (q := 28) C dX10_choices_25 rfl kw_283 ?_
    refine jV1 jc10 (q := 31) C dX10_choices_28 rfl hs mX10_found kw_284 kw_285 kw_0 (ctX10_found hs) rfl rfl (by decide) (Nat.le_of_ble_eq_true rfl) (by decide) ?_
    exact j_lret C E dX10_choices_31 rfl rfl (xC_b (cRel_b (fun h => jb_0.mp c_9 h)) hq0 hE hmw hmm)
  · refine j_iload_n (q := 13) C dX10_choices_12 rfl rfl rfl ?_
    first | refine j_i2lN (q := 14) C dX10_choices_13 rfl (by omega) ?_ | refine j_i2l (q := 14) C dX10_choices_13 rfl rfl ?_
    refine j_lconst (v := 0) (q := 15) C dX10_choices_14 rfl (by decide) ?_
    refine j_ldc2 (q := 18) C dX10_choices_15 rfl kw_304 ?_
    refine jS1 (q := 21) C dX10_choices_18 rfl mX10_within kw_278 kw_279 ctX10_within rfl rfl (by decide) (Nat.le_of_ble_eq_true rfl) (by decide) ?_
    refine j_if_ne (q := 24) (tgt := 32) C dX10_choices_21 rfl (by decide) (fun c_21 => ?_) (fun c_21 => ?_)
    · have hx := jb_n.mp c_9
      have hz := jb_n.mp c_21
      obtain ⟨m, hm1, hm2, rfl⟩ := jix3 (lo := 1) (hi := 8) (by omega) hx.1 hx.2 (by omega)
      obtain ⟨x, hx2, rfl⟩ := jix2 (n := 2) (by omega) hz.1 hz.2
      have em : (nI m).toNatClampNeg = m := nI_clamp (by omega)
      refine j_aload_n (q := 33) C dX10_choices_32 rfl rfl rfl ?_
      refine jg_MM_now (q := 36) C dX10_choices_33 rfl hs kw_266 ((congrFun (congrFun hE.2.2 mm) 0).trans hb0) ?_
      refine wg_World_day hW hM (q' := 39) C dX10_choices_36 rfl kw_213 ?_
      refine j_top (v' := .int (nI d)) (congrArg Value.int (k32 hO.1.1)) ?_
      refine j_iload_n (q := 40) C dX10_choices_39 rfl rfl rfl ?_
      first | refine j_iaddN (q := 41) C dX10_choices_40 rfl ?_ | refine j_iadd (q := 41) C dX10_choices_40 rfl ?_
      refine j_sipush (v := nI 300) (q := 44) C dX10_choices_41 rfl (by decide) ?_
      refine j_icmp_le (q := 47) (tgt := 55) C dX10_choices_44 rfl (by decide) (fun c_44 => ?_) (fun c_44 => ?_)
      · have hn : d + m ≤ 300 := (nI_leI (by omega) (by omega)).mp c_44
        refine j_aload_n (q := 56) C dX10_choices_55 rfl rfl rfl ?_
        refine jg_MM_lookout (q := 59) C dX10_choices_56 rfl hs kw_268 ((congrFun (congrFun hE.2.2 mm) 2).trans hb2) ?_
        refine j_aload_n (q := 60) C dX10_choices_59 rfl rfl rfl ?_
        refine jg_MM_now (q := 63) C dX10_choices_60 rfl hs kw_266 ((congrFun (congrFun hE.2.2 mm) 0).trans hb0) ?_
        refine jVT jc0 (q := 66) C dX10_choices_63 rfl hA.1.1 mX0_beginSearch kw_746 kw_747 kw_748 (ctX0_beginSearch hA hM hO hB hS hahN hpa0.1) rfl rfl (by decide) (Nat.le_of_ble_eq_true rfl) (by decide) (fun r_63 M_63 h_63 => ?_)
        obtain ⟨rfl, hE2_63, hqw, hbH, hbN, hPn⟩ := h_63
        have hqn := hA.nowQ (pe := pe) (pa := pa) hE2_63 hPn hpe hpa hla
        rw [hM] at hqn
        clear hE
        have hE := hE2_63
        have hA2 := hA.mv hE
        have hbR : bRel ah (hK LT d pe pa la m K) (pK LT d pe pa la m K) (fun _ => False) M_63 := ⟨fun _ h => h.elim, Or.inl ⟨hbN, fun _ h => h⟩⟩
        have cS := ctX0_search (G := G) (sz := sz) (Sh := Sh) hO hB hS hm2 hn hpa0 m 0 0 (fun _ => False) M_63 hA2 (by omega) (by decide) hqw hbH hbR
        refine j_aload_n (q := 67) C dX10_choices_66 rfl rfl rfl ?_
        refine jg_MM_lookout (q := 70) C dX10_choices_67 rfl hs kw_268 ((congrFun (congrFun hE.2.2 mm) 2).trans hb2) ?_
        refine j_iconst (v := nI 0) (q := 71) C dX10_choices_70 rfl (by decide) ?_
        refine j_iload_n (q := 72) C dX10_choices_71 rfl rfl rfl ?_
        refine j_iconst (v := nI 0) (q := 73) C dX10_choices_72 rfl (by decide) ?_
        refine j_callVN (q := 76) jc0 C dX10_choices_73 rfl hA.1.1 mX0_search (List.mem_of_getElem? (i := 7) rfl) kw_754 kw_22 cS (As := [.int (nI 0), .int (nI m), .int (nI 0)]) (rest := []) rfl rfl ⟨by show 32 + m + 1 ≤ 44; omega, by show 8 + (5 + 11) + 40 * (32 + m) ≤ 40 * 44; omega⟩ (Nat.le_of_ble_eq_true rfl) ⟨Nat.le_refl 0, Nat.le_refl 0⟩ (fun r sz2 Sh2 M2 h73 => ?_)
        obtain ⟨rfl, rfl, rfl, hE3, hb3, -, hPn3⟩ := h73
        have hE4 := hE.tr (hE3.mono (fun b hb => by unfold aSd at hb; unfold aS; unfold aW at hb; omega))
        have hPn4 : ∀ k, k ≤ d → M2.2.1 pr k = M.2.1 pr k := fun k hk => (hPn3 k (by omega)).trans (hPn k hk)
        have hqm := hA.nowQ (pe := pe) (pa := pa) hE4 hPn4 hpe hpa hla
        rw [hM] at hqm
        clear hE
        have hE := hE4
        obtain ⟨bb, hbb, e2, e3, -, e5⟩ := hb3.2.resolve_left (fun h => h.2 0 (Or.inr ⟨Nat.two_pow_pos m, rfl⟩))
        have hbI : isB (hK LT d pe pa la m K) (pK LT d pe pa la m K) (fun z => z < 2 ^ m) bb := hbb.congr (fun z => ⟨fun h => h.elim (fun h => h.elim) (fun h => h.1), fun h => Or.inr ⟨h, Nat.mod_one z⟩⟩)
        have hb256 : bb < 256 := hb3.1 bb hbb.1
        refine j_iload_n (q := 77) C dX10_choices_76 rfl rfl rfl ?_
        refine j_if_ne (q := 80) (tgt := 89) C dX10_choices_77 rfl (by decide) (fun c_77 => ?_) (fun c_77 => ?_)
        · refine j_iload_n (q := 90) C dX10_choices_89 rfl rfl rfl ?_
          refine j_iconst (v := nI 1) (q := 91) C dX10_choices_90 rfl (by decide) ?_
          refine j_icmp_ne (q := 94) (tgt := 104) C dX10_choices_91 rfl (by decide) (fun c_91 => ?_) (fun c_91 => ?_)
          · refine j_aload_n (q := 105) C dX10_choices_104 rfl rfl rfl ?_
            refine jg_MM_lookout (q := 108) C dX10_choices_105 rfl hs kw_268 ((congrFun (congrFun hE.2.2 mm) 2).trans hb2) ?_
            refine jg_Ahead_bestPrice (q := 111) C dX10_choices_108 rfl hA.1.1 kw_233 ?_
            rw [e3]
            exact j_lret C E dX10_choices_111 rfl rfl (xC_o hO hm1 hm2 hn hz hbI (by rw [if_neg (fun e => c_77 e), if_neg c_91]) hqm hE)
          · refine j_aload_n (q := 95) C dX10_choices_94 rfl rfl rfl ?_
            refine jg_MM_lookout (q := 98) C dX10_choices_95 rfl hs kw_268 ((congrFun (congrFun hE.2.2 mm) 2).trans hb2) ?_
            refine jg_Ahead_bestHunger (q := 101) C dX10_choices_98 rfl hA.1.1 kw_231 ?_
            rw [e2]
            refine j_goto (tgt := 111) C dX10_choices_101 (by decide) ?_
            skip
            exact j_lret C E dX10_choices_111 rfl rfl (xC_o hO hm1 hm2 hn hz hbI (by rw [if_neg (fun e => c_77 e), if_pos c_91]) hqm hE)
        · refine j_aload_n (q := 81) C dX10_choices_80 rfl rfl rfl ?_
          refine jg_MM_lookout (q := 84) C dX10_choices_81 rfl hs kw_268 ((congrFun (congrFun hE.2.2 mm) 2).trans hb2) ?_
          refine jg_Ahead_bestNumber (q := 87) C dX10_choices_84 rfl hA.1.1 kw_236 ?_
          rw [e5]
          first | refine j_i2lN (q := 88) C dX10_choices_87 rfl (by omega) ?_ | refine j_i2l (q := 88) C dX10_choices_87 rfl rfl ?_
          exact j_lret C E dX10_choices_88 rfl rfl (xC_o hO hm1 hm2 hn hz hbI (by rw [if_pos c_77]) hqm hE)
      · refine j_aload_n (q := 48) C dX10_choices_47 rfl rfl rfl ?_
        refine j_ldc2 (q := 51) C dX10_choices_48 rfl kw_287 ?_
        refine jV1 jc10 (q := 54) C dX10_choices_51 rfl hs mX10_found kw_284 kw_285 kw_0 (ctX10_found hs) rfl rfl (by decide) (Nat.le_of_ble_eq_true rfl) (by decide) ?_
        exact j_lret C E dX10_choices_54 rfl rfl (xC_b (cRel_f hz hm1 hm2 (by rcases Nat.lt_or_ge 300 (d + m) with e | e; exact e; exact absurd (nI_le e (by omega)) c_44)) hq0 hE hmw hmm)
    · refine j_aload_n (q := 25) C dX10_choices_24 rfl rfl rfl ?_
      refine j_ldc2 (q := 28) C dX10_choices_25 rfl kw_283 ?_
      refine jV1 jc10 (q := 31) C dX10_choices_28 rfl hs mX10_found kw_284 kw_285 kw_0 (ctX10_found hs) rfl rfl (by decide) (Nat.le_of_ble_eq_true rfl) (by decide) ?_
      exact j_lret C E dX10_choices_31 rfl rfl (xC_b (cRel_c (fun h => jb_0.mp c_21 h)) hq0 hE hmw hmm)

