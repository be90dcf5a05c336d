/-- a public method's end: the answer, the view, a finding more, the rest but scratch -/
def xU (S : Nat → Prop) (mm w q pr lw : Nat) (M : jM) (s : sA) : Option Value → jM → Prop := fun r M2 => r = some (.long s.1) ∧ vK w q pr lw M2 = s.2.2 ∧ mEq S (xB mm M s.2.1) M2
theorem vK_mm {w q pr lw mm : Nat} {M : jM} {x : Int64} (h : ¬ wS0 w q pr mm) : vK w q pr lw (jsL M mm 6 x) = vK w q pr lw M := by
  unfold wS0 at h
  funext k
  exact vK_same (fun _ => ⟨fun _ => rfl, fun _ => rfl, fun _ => rfl, fun _ => rfl, fun _ => upL (by omega), fun _ => upL (by omega), fun _ => upL (by omega)⟩) (fun i f hi hf ek => ⟨fun _ => rfl, fun _ => upL (by omega)⟩) (fun j f hj hf ek => ⟨fun _ => rfl, fun _ => upL (by omega)⟩) (fun l hl => ⟨fun _ => rfl, fun _ => rfl⟩) (fun d ek => upL (by omega))
theorem xU_o {S : Nat → Prop} {mm w q pr lw sz : Nat} {Sh : jS} {M M2 : jM} {s : sA} {v : Int64} {N : Nat → Int64} (h : s = (v, false, N)) (h1 : vK w q pr lw M2 = N) (h2 : mEq S M M2) : jT sz Sh (xU S mm w q pr lw M s) (some (.long v)) sz Sh M2 := by subst h; exact ⟨rfl, rfl, rfl, h1, h2⟩
theorem mEq.mm {S : Nat → Prop} {M M2 : jM} {mm : Nat} (h : mEq S M M2) (hS : ¬ S mm) : mEq S (jsL M mm 6 (M.2.1 mm 6 + 1)) (jsL M2 mm 6 (M2.2.1 mm 6 + 1)) := by
  refine ⟨h.1, fun b hb => ?_, h.2.2⟩
  show jup M2.2.1 mm 6 _ b = jup M.2.1 mm 6 _ b
  funext j
  unfold jup
  rw [h.2.1 b hb, h.2.1 mm hS]
theorem xU_b {S : Nat → Prop} {mm w q pr lw sz : Nat} {Sh : jS} {M M2 : jM} {s : sA} {v : Int64} {N : Nat → Int64} (h : s = (v, true, N)) (h1 : vK w q pr lw M2 = N) (h2 : mEq S M M2) (hS : ∀ b, wS0 w q pr b → S b) (hmm : ¬ S mm) : jT sz Sh (xU S mm w q pr lw M s) (some (.long v)) sz Sh (jsL M2 mm 6 (M2.2.1 mm 6 + 1)) := by subst h; exact ⟨rfl, rfl, rfl, (vK_mm (fun e => hmm (hS _ e))).trans h1, h2.mm hmm⟩
theorem isN_e {x : Int64} {b n : Nat} (h : isN x b) (hb : b < 2 ^ 31) (hn : n < 2 ^ 31) : nI (nv x) = nI n ↔ x = lN n := by
  have := h.2
  rw [nI_eq (by omega) hn]
  constructor
  · intro e; rw [h.1, e]
  · intro e; rw [e]; exact nv_lN (by omega)
set_option maxRecDepth 100000 in
set_option maxHeartbeats 4000000 in
theorem ctX10_ruling {G : jG} {sz : Nat} {Sh : jS} {M : jM} {mm w q pr lw jg mk B la : Nat} {LT : Nat → sT} {K : Nat → Int64} (hs : (Sh mm).1 = 10) (hb0 : M.2.2 mm 0 = some w) (hC : wCx w q pr lw jg mk B la LT Sh M) (hM : vK w q pr lw M = K) {d pe pa : Nat} (hO : nOk K d pe pa la) {j : Nat} (hj : j < pa) {c : Int32} : jC G yX10_ruling cX10_ruling 3 (Option.some FieldType.long) (jrm 4 0 0) sz Sh M [.ref mm, .ref (q + 12 + j), .int c] (jT sz Sh (rJ jg M (some (.long (nOwed LT K d la j c.toInt64))))) := by
  refine jC_start (by decide +kernel) (Nat.le_of_ble_eq_true rfl) (fun X C E hN0 => ?_)
  refine j_aload_n (q := 1) C dX10_ruling_0 rfl rfl rfl ?_
  refine jg_MM_now (q := 4) C dX10_ruling_1 rfl hs kw_266 hb0 ?_
  refine jg_World_judge (q := 7) C dX10_ruling_4 rfl hC.1.1.1 kw_202 hC.1.2.1.2.2.2.2.1 ?_
  refine j_aload_n (q := 8) C dX10_ruling_7 rfl rfl rfl ?_
  refine jg_MM_now (q := 11) C dX10_ruling_8 rfl hs kw_266 hb0 ?_
  refine j_aload_n (q := 12) C dX10_ruling_11 rfl rfl rfl ?_
  refine j_iload_n (q := 13) C dX10_ruling_12 rfl rfl rfl ?_
  refine jVT jc2 (q := 16) C dX10_ruling_13 rfl hC.2.1.1 mX2_rule kw_373 kw_374 kw_375 (ctX2_rule hC.1 hM hC.2.1 hC.2.2.2.2.1.1 hO.1.1 hO.1.2 (fun z hz => (hO.2.2.2.2.2 z hz).1) (by have := hO.2.2.1.2; omega) (hO.2.2.2.2.1 j hj).2.2.2.1.1.1 (hO.2.2.2.2.1 j hj).2.2.2.1.2 (hO.2.2.2.2.1 j hj).1.1 (hO.2.2.2.2.1 j hj).1.2 hC.2.2.1 hO.2.2.2.1.1 hO.2.2.2.1.2 hC.2.2.2.1 hC.2.2.2.2.2.2.2.2.1) rfl rfl (by decide) (Nat.le_of_ble_eq_true rfl) (by decide) (fun r_13 M_13 h_13 => ?_)
  obtain ⟨rfl, hx⟩ := h_13
  exact j_lret C E dX10_ruling_16 rfl rfl (⟨rfl, rfl, rfl, hx⟩)

set_option maxRecDepth 100000 in
set_option maxHeartbeats 4000000 in
theorem ctX10_owed {G : jG} {sz : Nat} {Sh : jS} {M : jM} {mm w q pr lw jg mk B la : Nat} {LT : Nat → sT} {K : Nat → Int64} (hs : (Sh mm).1 = 10) (hb0 : M.2.2 mm 0 = some w) (hC : wCx w q pr lw jg mk B la LT Sh M) (hM : vK w q pr lw M = K) {d pe pa : Nat} (hO : nOk K d pe pa la) (hmm : ¬ wSJ w q pr jg mm) {p c : Int32} : jC G yX10_owed cX10_owed 3 (Option.some FieldType.long) (jrm 5 0 0) sz Sh M [.ref mm, .int p, .int c] (jT sz Sh (xU (wSJ w q pr jg) mm w q pr lw M (sOwed LT K d la p c))) := by
  refine jC_start (by decide +kernel) (Nat.le_of_ble_eq_true rfl) (fun X C E hN0 => ?_)
  have hW := hC.1
  have hE : mEq (wSJ w q pr jg) M M := mEq.rf
  have hSS : ∀ b, wS0 w q pr b → wSJ w q pr jg b := subJ
  have h4 := hO.2.1.1
  have hpe := hO.2.1.2
  have h5 := hO.2.2.1.1
  have hpa := hO.2.2.1.2
  refine j_aload_n (q := 1) C dX10_owed_0 rfl rfl rfl ?_
  refine jg_MM_now (q := 4) C dX10_owed_1 rfl hs kw_266 ((congrFun (congrFun hE.2.2 mm) 0).trans hb0) ?_
  refine j_iload_n (q := 5) C dX10_owed_4 rfl rfl rfl ?_
  refine jV1 jc9 (q := 8) C dX10_owed_5 rfl hW.1.1 mX9_hasPaper kw_340 kw_341 kw_342 (ctX9_hasPaper hW hM h5) rfl rfl (by decide) (Nat.le_of_ble_eq_true rfl) (by decide) ?_
  refine j_if_eq (q := 11) (tgt := 18) C dX10_owed_8 rfl (by decide) (fun c_8 => ?_) (fun c_8 => ?_)
  · refine j_aload_n (q := 19) C dX10_owed_18 rfl rfl rfl ?_
    refine j_ldc2 (q := 22) C dX10_owed_19 rfl kw_283 ?_
    refine jV1 jc10 (q := 25) C dX10_owed_22 rfl hs mX10_found kw_284 kw_285 kw_0 (ctX10_found hs) rfl rfl (by decide) (Nat.le_of_ble_eq_true rfl) (by decide) ?_
    exact j_lret C E dX10_owed_25 rfl rfl (xU_b (if_neg (fun h => jb_0.mp c_8 ((hasQ_x hpa).mpr ((okQ_x h5 hpa).mp (h.1))))) hM hE hSS hmm)
  · obtain ⟨j, hj0, rfl⟩ := (hasQ_x hpa).mp (jb_n.mp c_8)
    have hj : j < 24 := by omega
    have ej : (nI j).toNatClampNeg = j := nI_clamp (by omega)
    have hok : okQ K (nI j) := (okQ_x h5 hpa).mpr ⟨j, hj0, rfl⟩
    refine j_iload_n (q := 12) C dX10_owed_11 rfl rfl rfl ?_
    refine jS1 (q := 15) C dX10_owed_12 rfl mX10_isCourt kw_362 kw_363 ctX10_isCourt rfl rfl (by decide) (Nat.le_of_ble_eq_true rfl) (by decide) ?_
    refine j_if_ne (q := 18) (tgt := 26) C dX10_owed_15 rfl (by decide) (fun c_15 => ?_) (fun c_15 => ?_)
    · have hx := jb_n.mp c_15
      refine j_aload_n (q := 27) C dX10_owed_26 rfl rfl rfl ?_
      refine jg_MM_now (q := 30) C dX10_owed_27 rfl hs kw_266 ((congrFun (congrFun hE.2.2 mm) 0).trans hb0) ?_
      refine jg_World_papers (q := 33) C dX10_owed_30 rfl hW.1.1 kw_196 hW.2.1.2.1 ?_
      refine j_iload_n (q := 34) C dX10_owed_33 rfl rfl rfl ?_
      refine wa_pap hW (by omega) (q' := 35) C dX10_owed_34 rfl ?_
      refine jV1 jc5 (q := 38) C dX10_owed_35 rfl (hW.1.2.2.2.2.2.2.2.2 _ (by omega)) mX5_isOpen kw_365 kw_366 kw_367 (ctX5_isOpen (hW.1.2.2.2.2.2.2.2.2 j (by omega))) rfl rfl (by decide) (Nat.le_of_ble_eq_true rfl) (by decide) ?_
      refine j_if_ne (q := 41) (tgt := 49) C dX10_owed_38 rfl (by decide) (fun c_38 => ?_) (fun c_38 => ?_)
      · have hop := (kqO hM hj).mp (jb_n.mp c_38)
        refine j_aload_n (q := 50) C dX10_owed_49 rfl rfl rfl ?_
        refine j_aload_n (q := 51) C dX10_owed_50 rfl rfl rfl ?_
        refine jg_MM_now (q := 54) C dX10_owed_51 rfl hs kw_266 ((congrFun (congrFun hE.2.2 mm) 0).trans hb0) ?_
        refine jg_World_papers (q := 57) C dX10_owed_54 rfl hW.1.1 kw_196 hW.2.1.2.1 ?_
        refine j_iload_n (q := 58) C dX10_owed_57 rfl rfl rfl ?_
        refine wa_pap hW (by omega) (q' := 59) C dX10_owed_58 rfl ?_
        refine j_iload_n (q := 60) C dX10_owed_59 rfl rfl rfl ?_
        refine jVT jc10 (q := 63) C dX10_owed_60 rfl hs mX10_ruling kw_370 kw_371 kw_1 (ctX10_ruling hs (by first | exact hbM | exact hb0) hC hM hO (j := j) hj0) rfl rfl (by decide) (Nat.le_of_ble_eq_true rfl) (by decide) (fun r_60 M_60 h_60 => ?_)
        obtain ⟨rfl, A_60, P_60, eM_60⟩ := h_60
        have hE2_60 : mEq (wSJ w q pr jg) M M_60 := by rw [eM_60]; exact (mEq.rf.w (Or.inr (Or.inl rfl))).w (Or.inr (Or.inr rfl))
        have hM_60 : vK w q pr lw M_60 = K := by rw [eM_60, vK_w hC.2.2.2.2.1.2, vK_w hC.2.2.2.2.1.1]; exact hM
        clear hM
        replace hE := hE.tr hE2_60
        replace hW := hW.mv hE2_60
        have hM := hM_60
        have hbM : M_60.2.2 mm 0 = some w := (congrFun (congrFun hE.2.2 mm) 0).trans hb0
        have hC_60 := hC.mv hE (fun b hb => wSJ_lt (b := b) ⟨hC.2.2.2.2.2.1, hC.2.2.2.2.2.2.1, hC.2.2.2.2.2.2.2.1, hC.2.2.2.2.2.2.2.2.1⟩ hb)
        exact j_lret C E dX10_owed_63 rfl rfl (xU_o (by unfold sOwed; rw [if_pos ⟨hok, hx⟩, ej, if_pos hop]) hM hE)
      · refine j_aload_n (q := 42) C dX10_owed_41 rfl rfl rfl ?_
        refine j_ldc2 (q := 45) C dX10_owed_42 rfl kw_369 ?_
        refine jV1 jc10 (q := 48) C dX10_owed_45 rfl hs mX10_found kw_284 kw_285 kw_0 (ctX10_found hs) rfl rfl (by decide) (Nat.le_of_ble_eq_true rfl) (by decide) ?_
        exact j_lret C E dX10_owed_48 rfl rfl (xU_b (by unfold sOwed; rw [if_pos ⟨hok, hx⟩, ej, if_neg (fun h => jb_0.mp c_38 ((kqO hM hj).mpr h))]) hM hE hSS hmm)
    · refine j_aload_n (q := 19) C dX10_owed_18 rfl rfl rfl ?_
      refine j_ldc2 (q := 22) C dX10_owed_19 rfl kw_283 ?_
      refine jV1 jc10 (q := 25) C dX10_owed_22 rfl hs mX10_found kw_284 kw_285 kw_0 (ctX10_found hs) rfl rfl (by decide) (Nat.le_of_ble_eq_true rfl) (by decide) ?_
      exact j_lret C E dX10_owed_25 rfl rfl (xU_b (if_neg (fun h => jb_0.mp c_15 h.2)) hM hE hSS hmm)

set_option maxRecDepth 100000 in
set_option maxHeartbeats 4000000 in
theorem ctX10_pay {G : jG} {sz : Nat} {Sh : jS} {M : jM} {mm w q pr lw jg mk B la : Nat} {LT : Nat → sT} {K : Nat → Int64} (hs : (Sh mm).1 = 10) (hb0 : M.2.2 mm 0 = some w) (hC : wCx w q pr lw jg mk B la LT Sh M) (hM : vK w q pr lw M = K) {d pe pa : Nat} (hO : nOk K d pe pa la) (hmm : ¬ wSJ w q pr jg mm) {p : Int32} : jC G yX10_pay cX10_pay 5 (Option.some FieldType.long) (jrm 5 0 0) sz Sh M [.ref mm, .int p] (jT sz Sh (xU (wSJ w q pr jg) mm w q pr lw M (sPay LT K d la p))) := by
  refine jC_start (by decide +kernel) (Nat.le_of_ble_eq_true rfl) (fun X C E hN0 => ?_)
  have hW := hC.1
  have hE : mEq (wSJ w q pr jg) M M := mEq.rf
  have hSS : ∀ b, wS0 w q pr b → wSJ w q pr jg b := subJ
  have h4 := hO.2.1.1
  have hpe := hO.2.1.2
  have h5 := hO.2.2.1.1
  have hpa := hO.2.2.1.2
  refine j_aload_n (q := 1) C dX10_pay_0 rfl rfl rfl ?_
  refine jg_MM_now (q := 4) C dX10_pay_1 rfl hs kw_266 ((congrFun (congrFun hE.2.2 mm) 0).trans hb0) ?_
  refine j_iload_n (q := 5) C dX10_pay_4 rfl rfl rfl ?_
  refine jV1 jc9 (q := 8) C dX10_pay_5 rfl hW.1.1 mX9_hasPaper kw_340 kw_341 kw_342 (ctX9_hasPaper hW hM h5) rfl rfl (by decide) (Nat.le_of_ble_eq_true rfl) (by decide) ?_
  refine j_if_ne (q := 11) (tgt := 19) C dX10_pay_8 rfl (by decide) (fun c_8 => ?_) (fun c_8 => ?_)
  · obtain ⟨j, hj0, rfl⟩ := (hasQ_x hpa).mp (jb_n.mp c_8)
    have hj : j < 24 := by omega
    have ej : (nI j).toNatClampNeg = j := nI_clamp (by omega)
    have hok : okQ K (nI j) := (okQ_x h5 hpa).mpr ⟨j, hj0, rfl⟩
    refine j_aload_n (q := 20) C dX10_pay_19 rfl rfl rfl ?_
    refine jg_MM_now (q := 23) C dX10_pay_20 rfl hs kw_266 ((congrFun (congrFun hE.2.2 mm) 0).trans hb0) ?_
    refine jg_World_papers (q := 26) C dX10_pay_23 rfl hW.1.1 kw_196 hW.2.1.2.1 ?_
    refine j_iload_n (q := 27) C dX10_pay_26 rfl rfl rfl ?_
    refine wa_pap hW (by omega) (q' := 28) C dX10_pay_27 rfl ?_
    refine j_astore_n (lv' := [(2, _), (0, _), (1, _)]) (q := 29) C dX10_pay_28 rfl rfl (by decide) rfl ?_
    refine j_aload_n (q := 30) C dX10_pay_29 rfl rfl rfl ?_
    refine jV1 jc5 (q := 33) C dX10_pay_30 rfl (hW.1.2.2.2.2.2.2.2.2 _ (by omega)) mX5_isOpen kw_365 kw_366 kw_367 (ctX5_isOpen (hW.1.2.2.2.2.2.2.2.2 j (by omega))) rfl rfl (by decide) (Nat.le_of_ble_eq_true rfl) (by decide) ?_
    refine j_if_ne (q := 36) (tgt := 44) C dX10_pay_33 rfl (by decide) (fun c_33 => ?_) (fun c_33 => ?_)
    · have hop := (kqO hM hj).mp (jb_n.mp c_33)
      have hpk := hO.2.2.2.2.1 j hj0
      have e3 : nI (nv (K (110 + 7 * j + 0))) = nI 3 ↔ K (110 + 7 * j + 0) = 3 := isN_e (n := 3) hpk.1 (by omega) (by omega)
      have e4 : nI (nv (K (110 + 7 * j + 0))) = nI 4 ↔ K (110 + 7 * j + 0) = 4 := isN_e (n := 4) hpk.1 (by omega) (by omega)
      have ht9 := hpk.2.2.1.1.2
      refine j_aload_n (q := 45) C dX10_pay_44 rfl rfl rfl ?_
      refine wg_Paper_kind (by omega) hW hM (q' := 48) C dX10_pay_45 rfl kw_173 ?_
      refine j_top (v' := .int (nI (nv (K (110 + 7 * j + 0))))) (congrArg Value.int (k32 hpk.1.1)) ?_
      refine j_iconst (v := nI 3) (q := 49) C dX10_pay_48 rfl (by decide) ?_
      refine j_icmp_eq (q := 52) (tgt := 74) C dX10_pay_49 rfl (by decide) (fun c_49 => ?_) (fun c_49 => ?_)
      · refine j_aload_n (q := 75) C dX10_pay_74 rfl rfl rfl ?_
        refine j_ldc2 (q := 78) C dX10_pay_75 rfl kw_348 ?_
        refine jV1 jc10 (q := 81) C dX10_pay_78 rfl hs mX10_found kw_284 kw_285 kw_0 (ctX10_found hs) rfl rfl (by decide) (Nat.le_of_ble_eq_true rfl) (by decide) ?_
        exact j_lret C E dX10_pay_81 rfl rfl (xU_b (by unfold sPay; rw [if_pos hok, ej, if_pos hop, if_pos (Or.inl (e3.mp c_49))]) hM hE hSS hmm)
      · refine j_aload_n (q := 53) C dX10_pay_52 rfl rfl rfl ?_
        refine wg_Paper_kind (by omega) hW hM (q' := 56) C dX10_pay_53 rfl kw_173 ?_
        refine j_top (v' := .int (nI (nv (K (110 + 7 * j + 0))))) (congrArg Value.int (k32 hpk.1.1)) ?_
        refine j_iconst (v := nI 4) (q := 57) C dX10_pay_56 rfl (by decide) ?_
        refine j_icmp_eq (q := 60) (tgt := 74) C dX10_pay_57 rfl (by decide) (fun c_57 => ?_) (fun c_57 => ?_)
        · refine j_aload_n (q := 75) C dX10_pay_74 rfl rfl rfl ?_
          refine j_ldc2 (q := 78) C dX10_pay_75 rfl kw_348 ?_
          refine jV1 jc10 (q := 81) C dX10_pay_78 rfl hs mX10_found kw_284 kw_285 kw_0 (ctX10_found hs) rfl rfl (by decide) (Nat.le_of_ble_eq_true rfl) (by decide) ?_
          exact j_lret C E dX10_pay_81 rfl rfl (xU_b (by unfold sPay; rw [if_pos hok, ej, if_pos hop, if_pos (Or.inr (e4.mp c_57))]) hM hE hSS hmm)
        · have hby : isN (K (110 + 7 * j + 1)) 9 ∧ nv (K (110 + 7 * j + 1)) < pe := by
            rcases hpk.2.1 with h | h
            · exact absurd (by rw [h.1]) c_57
            · exact h.2
          have hb9 := hby.1.2
          refine j_aload_n (q := 61) C dX10_pay_60 rfl rfl rfl ?_
          refine jg_MM_now (q := 64) C dX10_pay_61 rfl hs kw_266 ((congrFun (congrFun hE.2.2 mm) 0).trans hb0) ?_
          refine j_aload_n (q := 65) C dX10_pay_64 rfl rfl rfl ?_
          refine wg_Paper_by (by omega) hW hM (q' := 68) C dX10_pay_65 rfl kw_176 ?_
          refine j_top (v' := .int (nI (nv (K (110 + 7 * j + 1))))) (congrArg Value.int (k32 hby.1.1)) ?_
          refine jV1 jc9 (q := 71) C dX10_pay_68 rfl hW.1.1 mX9_hasPerson kw_300 kw_301 kw_302 (ctX9_hasPerson hW hM h4) rfl rfl (by decide) (Nat.le_of_ble_eq_true rfl) (by decide) ?_
          refine j_if_ne (q := 74) (tgt := 82) C dX10_pay_71 rfl (by decide) (fun c_71 => ?_) (fun c_71 => absurd c_71 (jbP_t hby.2 (by omega)))
          refine j_aload_n (q := 83) C dX10_pay_82 rfl rfl rfl ?_
          refine j_aload_n (q := 84) C dX10_pay_83 rfl rfl rfl ?_
          refine j_iconst (v := nI 0) (q := 85) C dX10_pay_84 rfl (by decide) ?_
          
          refine jVT jc10 (q := 88) C dX10_pay_85 rfl hs mX10_ruling kw_370 kw_371 kw_1 (ctX10_ruling hs (by first | exact hbM | exact hb0) hC hM hO (j := j) hj0) rfl rfl (by decide) (Nat.le_of_ble_eq_true rfl) (by decide) (fun r_85 M_85 h_85 => ?_)
          obtain ⟨rfl, A_85, P_85, eM_85⟩ := h_85
          have hE2_85 : mEq (wSJ w q pr jg) M M_85 := by rw [eM_85]; exact (mEq.rf.w (Or.inr (Or.inl rfl))).w (Or.inr (Or.inr rfl))
          have hM_85 : vK w q pr lw M_85 = K := by rw [eM_85, vK_w hC.2.2.2.2.1.2, vK_w hC.2.2.2.2.1.1]; exact hM
          clear hM
          replace hE := hE.tr hE2_85
          replace hW := hW.mv hE2_85
          have hM := hM_85
          have hbM : M_85.2.2 mm 0 = some w := (congrFun (congrFun hE.2.2 mm) 0).trans hb0
          have hC_85 := hC.mv hE (fun b hb => wSJ_lt (b := b) ⟨hC.2.2.2.2.2.1, hC.2.2.2.2.2.2.1, hC.2.2.2.2.2.2.2.1, hC.2.2.2.2.2.2.2.2.1⟩ hb)
          rw [i0]
          refine j_lstore_n (lv' := [(3, _), (2, _), (0, _), (1, _)]) (q := 89) C dX10_pay_88 rfl rfl (by decide) rfl ?_
          refine j_aload_n (q := 90) C dX10_pay_89 rfl rfl rfl ?_
          refine jg_MM_now (q := 93) C dX10_pay_90 rfl hs kw_266 ((congrFun (congrFun hE.2.2 mm) 0).trans hb0) ?_
          refine jg_World_persons (q := 96) C dX10_pay_93 rfl hW.1.1 kw_193 hW.2.1.1 ?_
          refine j_aload_n (q := 97) C dX10_pay_96 rfl rfl rfl ?_
          refine wg_Paper_by (by omega) hW hM (q' := 100) C dX10_pay_97 rfl kw_176 ?_
          refine j_top (v' := .int (nI (nv (K (110 + 7 * j + 1))))) (congrArg Value.int (k32 hby.1.1)) ?_
          refine wa_pers hW (by omega) (q' := 101) C dX10_pay_100 rfl ?_
          refine wg_Person_marks (by omega) hW hM (q' := 104) C dX10_pay_101 rfl kw_145 ?_
          refine j_lload_n (q := 105) C dX10_pay_104 rfl rfl rfl ?_
          refine j_lcmp_ge (q1 := 106) (q := 109) (tgt := 117) C dX10_pay_105 dX10_pay_106 rfl rfl (by decide) (fun c_106 => ?_) (fun c_106 => ?_)
          · refine j_aload_n (q := 118) C dX10_pay_117 rfl rfl rfl ?_
            refine jg_MM_now (q := 121) C dX10_pay_118 rfl hs kw_266 ((congrFun (congrFun hE.2.2 mm) 0).trans hb0) ?_
            refine j_aload_n (q := 122) C dX10_pay_121 rfl rfl rfl ?_
            refine j_lload_n (q := 123) C dX10_pay_122 rfl rfl rfl ?_
            refine jVT jc9 (q := 126) C dX10_pay_123 rfl hW.1.1 mX9_handOver kw_421 kw_422 kw_423 (ctX9_handOver hW hM hj hpe h4 hby.1.1 hby.2 hpk.2.2.1.1.1 hpk.2.2.1.2) rfl rfl (by decide) (Nat.le_of_ble_eq_true rfl) (by decide) (fun r_123 M_123 h_123 => ?_)
            obtain ⟨rfl, hM2_123, hE2_123⟩ := h_123
            clear hM
            have hM := hM2_123
            replace hE := hE.tr (hE2_123.mono hSS)
            replace hW := hW.mv hE2_123
            have hEQ := nPays_eq (N := K) (j := j) (b := nv (K (110 + 7 * j + 1))) (t := nv (K (110 + 7 * j + 2))) (v := nOwed LT K d la j 0) (by omega) (by omega)
            refine j_aload_n (q := 127) C dX10_pay_126 rfl rfl rfl ?_
            refine jg_MM_now (q := 130) C dX10_pay_127 rfl hs kw_266 ((congrFun (congrFun hE.2.2 mm) 0).trans hb0) ?_
            refine j_aload_n (q := 131) C dX10_pay_130 rfl rfl rfl ?_
            refine j_lload_n (q := 132) C dX10_pay_131 rfl rfl rfl ?_
            refine jVT jc9 (q := 135) C dX10_pay_132 rfl hW.1.1 mX9_closePaid kw_431 kw_432 kw_433 (ctX9_closePaid hW hM hj hpe ((hEQ _ (by unfold nSt; omega)).trans h4) ((hEQ _ (nStQ (by omega))).trans hby.1.1) hby.2 ((hEQ _ (nStQ (by omega))).trans hpk.2.2.1.1.1) hpk.2.2.1.2 ((hEQ _ (by unfold nSt; omega)).trans hO.1.1) hO.1.2 ((hEQ _ (nStQ (by omega))).trans hpk.2.2.2.1.1.1) hpk.2.2.2.1.1.2 ((hEQ (310 + nv (K (110 + 7 * j + 4))) (by unfold nSt; omega)).symm ▸ (hO.2.2.2.2.2 _ hpk.2.2.2.1.2).1) ((hEQ (310 + d) (by unfold nSt; omega)).symm ▸ (hO.2.2.2.2.2 d (Nat.le_refl d)).1) ((hEQ _ (nStQ (by omega))).trans hpk.1.1) hpk.1.2) rfl rfl (by decide) (Nat.le_of_ble_eq_true rfl) (by decide) (fun r_132 M_132 h_132 => ?_)
            obtain ⟨rfl, hM2_132, hE2_132⟩ := h_132
            clear hM
            have hM := hM2_132
            replace hE := hE.tr (hE2_132.mono hSS)
            replace hW := hW.mv hE2_132
            refine j_lload_n (q := 136) C dX10_pay_135 rfl rfl rfl ?_
            exact j_lret C E dX10_pay_136 rfl rfl (xU_o (by unfold sPay; rw [if_pos hok, ej, if_pos hop, if_neg (fun h => h.elim (fun h => c_49 (e3.mpr h)) (fun h => c_57 (e4.mpr h))), if_neg (Int64.not_lt.mpr c_106)]; rfl) hM hE)
          · refine j_aload_n (q := 110) C dX10_pay_109 rfl rfl rfl ?_
            refine j_ldc2 (q := 113) C dX10_pay_110 rfl kw_420 ?_
            refine jV1 jc10 (q := 116) C dX10_pay_113 rfl hs mX10_found kw_284 kw_285 kw_0 (ctX10_found hs) rfl rfl (by decide) (Nat.le_of_ble_eq_true rfl) (by decide) ?_
            exact j_lret C E dX10_pay_116 rfl rfl (xU_b (by unfold sPay; rw [if_pos hok, ej, if_pos hop, if_neg (fun h => h.elim (fun h => c_49 (e3.mpr h)) (fun h => c_57 (e4.mpr h))), if_pos (Int64.not_le.mp c_106)]) hM hE hSS hmm)
    · refine j_aload_n (q := 37) C dX10_pay_36 rfl rfl rfl ?_
      refine j_ldc2 (q := 40) C dX10_pay_37 rfl kw_369 ?_
      refine jV1 jc10 (q := 43) C dX10_pay_40 rfl hs mX10_found kw_284 kw_285 kw_0 (ctX10_found hs) rfl rfl (by decide) (Nat.le_of_ble_eq_true rfl) (by decide) ?_
      exact j_lret C E dX10_pay_43 rfl rfl (xU_b (by unfold sPay; rw [if_pos hok, ej, if_neg (fun h => jb_0.mp c_33 ((kqO hM hj).mpr h))]) hM hE hSS hmm)
  · refine j_aload_n (q := 12) C dX10_pay_11 rfl rfl rfl ?_
    refine j_ldc2 (q := 15) C dX10_pay_12 rfl kw_283 ?_
    refine jV1 jc10 (q := 18) C dX10_pay_15 rfl hs mX10_found kw_284 kw_285 kw_0 (ctX10_found hs) rfl rfl (by decide) (Nat.le_of_ble_eq_true rfl) (by decide) ?_
    exact j_lret C E dX10_pay_18 rfl rfl (xU_b (if_neg (fun h => jb_0.mp c_8 ((hasQ_x hpa).mpr ((okQ_x h5 hpa).mp (h))))) hM hE hSS hmm)

theorem i1 : (nI 1).toInt64 = 1 := by decide
set_option maxRecDepth 100000 in
set_option maxHeartbeats 4000000 in
theorem ctX10_unlike {G : jG} {sz : Nat} {Sh : jS} {M : jM} {mm w q pr lw jg mk B la : Nat} {LT : Nat → sT} {K : Nat → Int64} (hs : (Sh mm).1 = 10) (hb0 : M.2.2 mm 0 = some w) (hC : wCx w q pr lw jg mk B la LT Sh M) (hM : vK w q pr lw M = K) {d pe pa : Nat} (hO : nOk K d pe pa la) (hmm : ¬ wSJ w q pr jg mm) : jC G yX10_unlike cX10_unlike 3 (Option.some FieldType.long) (jrm 5 0 0) sz Sh M [.ref mm] (jT sz Sh (xU (wSJ w q pr jg) mm w q pr lw M (sUnlike LT K d la pa))) := by
  refine jC_start (by decide +kernel) (Nat.le_of_ble_eq_true rfl) (fun X C E hN0 => ?_)
  have hW := hC.1
  have hE : mEq (wSJ w q pr jg) M M := mEq.rf
  have hSS : ∀ b, wS0 w q pr b → wSJ w q pr jg b := subJ
  have h4 := hO.2.1.1
  have hpe := hO.2.1.2
  have h5 := hO.2.2.1.1
  have hpa := hO.2.2.1.2
  refine j_iconst (v := nI 0) (q := 1) C dX10_unlike_0 rfl (by decide) ?_
  refine j_istore_n (lv' := [(1, _), (0, _)]) (q := 2) C dX10_unlike_1 rfl rfl (by decide) rfl ?_
  have loop2 : ∀ (m k : Nat) (Mk : jM), nUnl LT K d la 0 pa = nUnl LT K d la k m → vK w q pr lw Mk = K → mEq (wSJ w q pr jg) M Mk → k + m = pa → jJ G X 0 0 sz Sh Mk 2 [(1, .int (nI k)), (0, .ref mm)] [] := by
    intro m
    induction m with
    | zero =>
      intro k Mk hU hMk hE hk
      have hM : vK w q pr lw Mk = K := hMk
      have hW := hC.1.mv hE
      have hCk := hC.mv hE (fun b hb => wSJ_lt (b := b) ⟨hC.2.2.2.2.2.1, hC.2.2.2.2.2.2.1, hC.2.2.2.2.2.2.2.1, hC.2.2.2.2.2.2.2.2.1⟩ hb)
      have hbM : Mk.2.2 mm 0 = some w := (congrFun (congrFun hE.2.2 mm) 0).trans hb0
      refine j_iload_n (q := 3) C dX10_unlike_2 rfl rfl rfl ?_
      refine j_aload_n (q := 4) C dX10_unlike_3 rfl rfl rfl ?_
      refine jg_MM_now (q := 7) C dX10_unlike_4 rfl hs kw_266 ((congrFun (congrFun hE.2.2 mm) 0).trans hb0) ?_
      refine wg_World_written hW hM (q' := 10) C dX10_unlike_7 rfl kw_208 ?_
      refine j_top (v' := .int (nI pa)) (congrArg Value.int (k32 h5)) ?_
      refine j_icmp_ge (q := 13) (tgt := 55) C dX10_unlike_10 rfl (by decide) (fun c_10 => ?_) (fun c_10 => absurd (nI_le (by omega) (by omega)) c_10)
      obtain rfl : pa = k := by omega
      refine j_aload_n (q := 56) C dX10_unlike_55 rfl rfl rfl ?_
      refine j_ldc2 (q := 59) C dX10_unlike_56 rfl kw_369 ?_
      refine jV1 jc10 (q := 62) C dX10_unlike_59 rfl hs mX10_found kw_284 kw_285 kw_0 (ctX10_found hs) rfl rfl (by decide) (Nat.le_of_ble_eq_true rfl) (by decide) ?_
      exact j_lret C E dX10_unlike_62 rfl rfl (xU_b (by unfold sUnlike; rw [if_pos (show nUnl LT K d la 0 pa = pa from hU.trans rfl)]) hM hE hSS hmm)
    | succ m ih =>
      intro k Mk hU hMk hE hk
      have hM : vK w q pr lw Mk = K := hMk
      have hW := hC.1.mv hE
      have hCk := hC.mv hE (fun b hb => wSJ_lt (b := b) ⟨hC.2.2.2.2.2.1, hC.2.2.2.2.2.2.1, hC.2.2.2.2.2.2.2.1, hC.2.2.2.2.2.2.2.2.1⟩ hb)
      have hbM : Mk.2.2 mm 0 = some w := (congrFun (congrFun hE.2.2 mm) 0).trans hb0
      refine j_iload_n (q := 3) C dX10_unlike_2 rfl rfl rfl ?_
      refine j_aload_n (q := 4) C dX10_unlike_3 rfl rfl rfl ?_
      refine jg_MM_now (q := 7) C dX10_unlike_4 rfl hs kw_266 ((congrFun (congrFun hE.2.2 mm) 0).trans hb0) ?_
      refine wg_World_written hW hM (q' := 10) C dX10_unlike_7 rfl kw_208 ?_
      refine j_top (v' := .int (nI pa)) (congrArg Value.int (k32 h5)) ?_
      refine j_icmp_ge (q := 13) (tgt := 55) C dX10_unlike_10 rfl (by decide) (fun c_10 => absurd c_10 (fun h => absurd ((nI_leI (by omega) (by omega)).mp h) (by omega))) (fun c_10 => ?_)
      refine j_aload_n (q := 14) C dX10_unlike_13 rfl rfl rfl ?_
      refine jg_MM_now (q := 17) C dX10_unlike_14 rfl hs kw_266 ((congrFun (congrFun hE.2.2 mm) 0).trans hb0) ?_
      refine jg_World_papers (q := 20) C dX10_unlike_17 rfl hW.1.1 kw_196 hW.2.1.2.1 ?_
      refine j_iload_n (q := 21) C dX10_unlike_20 rfl rfl rfl ?_
      refine wa_pap hW (by omega) (q' := 22) C dX10_unlike_21 rfl ?_
      refine j_astore_n (lv' := [(2, _), (1, _), (0, _)]) (q := 23) C dX10_unlike_22 rfl rfl (by decide) rfl ?_
      refine j_aload_n (q := 24) C dX10_unlike_23 rfl rfl rfl ?_
      refine jV1 jc5 (q := 27) C dX10_unlike_24 rfl (hW.1.2.2.2.2.2.2.2.2 _ (by omega)) mX5_isOpen kw_365 kw_366 kw_367 (ctX5_isOpen (hW.1.2.2.2.2.2.2.2.2 k (by omega))) rfl rfl (by decide) (Nat.le_of_ble_eq_true rfl) (by decide) ?_
      refine j_if_eq (q := 30) (tgt := 49) C dX10_unlike_27 rfl (by decide) (fun c_27 => ?_) (fun c_27 => ?_)
      · first | refine j_iincN (lv' := [(1, _), (2, _), (0, _)]) (q := 52) C dX10_unlike_49 rfl rfl (by decide) rfl ?_ | refine j_iinc (lv' := [(1, _), (2, _), (0, _)]) (q := 52) C dX10_unlike_49 rfl rfl rfl (by decide) rfl ?_
        refine j_goto (tgt := 2) C dX10_unlike_52 (by decide) ?_
        exact j_fewer (lv' := [(1, .int (nI (k + 1))), (0, .ref mm)]) (by simp) (ih (k + 1) _ (hU.trans (by rw [nUnl, if_neg (fun h => jb_0.mp c_27 ((kqO hM (by omega)).mpr h.1))])) hM hE (by omega))
      · have hop := (kqO hM (show k < 24 by omega)).mp (jb_n.mp c_27)
        refine j_aload_n (q := 31) C dX10_unlike_30 rfl rfl rfl ?_
        refine j_aload_n (q := 32) C dX10_unlike_31 rfl rfl rfl ?_
        refine j_iconst (v := nI 0) (q := 33) C dX10_unlike_32 rfl (by decide) ?_
        refine jVT jc10 (q := 36) C dX10_unlike_33 rfl hs mX10_ruling kw_370 kw_371 kw_1 (ctX10_ruling hs (by first | exact hbM | exact hb0) hCk hM hO (j := k) (by omega)) rfl rfl (by decide) (Nat.le_of_ble_eq_true rfl) (by decide) (fun r_33 M_33 h_33 => ?_)
        obtain ⟨rfl, A_33, P_33, eM_33⟩ := h_33
        have hE2_33 : mEq (wSJ w q pr jg) Mk M_33 := by rw [eM_33]; exact (mEq.rf.w (Or.inr (Or.inl rfl))).w (Or.inr (Or.inr rfl))
        have hM_33 : vK w q pr lw M_33 = K := by rw [eM_33, vK_w hC.2.2.2.2.1.2, vK_w hC.2.2.2.2.1.1]; exact hM
        clear hM
        replace hE := hE.tr hE2_33
        replace hW := hW.mv hE2_33
        have hM := hM_33
        have hbM : M_33.2.2 mm 0 = some w := (congrFun (congrFun hE.2.2 mm) 0).trans hb0
        have hC_33 := hC.mv hE (fun b hb => wSJ_lt (b := b) ⟨hC.2.2.2.2.2.1, hC.2.2.2.2.2.2.1, hC.2.2.2.2.2.2.2.1, hC.2.2.2.2.2.2.2.2.1⟩ hb)
        rw [i0]
        refine j_aload_n (q := 37) C dX10_unlike_36 rfl rfl rfl ?_
        refine j_aload_n (q := 38) C dX10_unlike_37 rfl rfl rfl ?_
        refine j_iconst (v := nI 1) (q := 39) C dX10_unlike_38 rfl (by decide) ?_
        refine jVT jc10 (q := 42) C dX10_unlike_39 rfl hs mX10_ruling kw_370 kw_371 kw_1 (ctX10_ruling hs (by first | exact hbM | exact hb0) hC_33 hM hO (j := k) (by omega)) rfl rfl (by decide) (Nat.le_of_ble_eq_true rfl) (by decide) (fun r_39 M_39 h_39 => ?_)
        obtain ⟨rfl, A_39, P_39, eM_39⟩ := h_39
        have hE2_39 : mEq (wSJ w q pr jg) M_33 M_39 := by rw [eM_39]; exact (mEq.rf.w (Or.inr (Or.inl rfl))).w (Or.inr (Or.inr rfl))
        have hM_39 : vK w q pr lw M_39 = K := by rw [eM_39, vK_w hC.2.2.2.2.1.2, vK_w hC.2.2.2.2.1.1]; exact hM
        clear hM
        replace hE := hE.tr hE2_39
        replace hW := hW.mv hE2_39
        have hM := hM_39
        have hbM : M_39.2.2 mm 0 = some w := (congrFun (congrFun hE.2.2 mm) 0).trans hb0
        have hC_39 := hC.mv hE (fun b hb => wSJ_lt (b := b) ⟨hC.2.2.2.2.2.1, hC.2.2.2.2.2.2.1, hC.2.2.2.2.2.2.2.1, hC.2.2.2.2.2.2.2.2.1⟩ hb)
        rw [i1]
        refine j_lcmp_eq (q1 := 43) (q := 46) (tgt := 49) C dX10_unlike_42 dX10_unlike_43 rfl rfl (by decide) (fun c_43 => ?_) (fun c_43 => ?_)
        · first | refine j_iincN (lv' := [(1, _), (2, _), (0, _)]) (q := 52) C dX10_unlike_49 rfl rfl (by decide) rfl ?_ | refine j_iinc (lv' := [(1, _), (2, _), (0, _)]) (q := 52) C dX10_unlike_49 rfl rfl rfl (by decide) rfl ?_
          refine j_goto (tgt := 2) C dX10_unlike_52 (by decide) ?_
          exact j_fewer (lv' := [(1, .int (nI (k + 1))), (0, .ref mm)]) (by simp) (ih (k + 1) _ (hU.trans (by rw [nUnl, if_neg (fun h => h.2 c_43)])) hM hE (by omega))
        · refine j_iload_n (q := 47) C dX10_unlike_46 rfl rfl rfl ?_
          first | refine j_i2lN (q := 48) C dX10_unlike_47 rfl (by omega) ?_ | refine j_i2l (q := 48) C dX10_unlike_47 rfl rfl ?_
          exact j_lret C E dX10_unlike_48 rfl rfl (xU_o (by unfold sUnlike; rw [show nUnl LT K d la 0 pa = k from hU.trans (by rw [nUnl, if_pos ⟨hop, c_43⟩]), if_neg (by omega)]) hM hE)
  exact j_fewer (lv' := [(1, .int (nI 0)), (0, .ref mm)]) (by simp) (loop2 pa 0 M rfl hM mEq.rf (by omega))

