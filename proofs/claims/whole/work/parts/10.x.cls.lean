section JNUL
variable {G : jG} {X : jX} {y : MethodName} {cc : ByteArray} {nL cells slots sz pc q : Nat} {R : Room} {Sh : jS} {M : jM} {lv lv' : List (Nat × Value)} {st : List Value}
theorem j_astore_nN {j : Fin 4} {i : Nat} (C : jOk G X y cc nL R) (hd : decode cc pc = .ok (.astore_n j, 1)) (hn : pc + 1 = q) (hi : (j : Nat) = i) (hL : i < nL) (he : (i, Value.null) :: lv.filter (fun q => !(q.1 == i) && !(q.1 + 1 == i && q.2.category == 2)) = lv') (k : jJ G X cells slots sz Sh M q lv' st) : jJ G X cells slots sz Sh M pc lv (.null :: st) := by
  subst hn
  intro H locs ls hP hz hS hl
  exact lv_astore_nN C.1 C.2.1 hd hi hl (by rw [C.2.2.2.2.2.2.2.2.2.1]; exact hL) he (fun ls' hl' => k H locs ls' hP hz hS hl')
theorem j_aload_nN {j : Fin 4} {i : Nat} (C : jOk G X y cc nL R) (hd : decode cc pc = .ok (.aload_n j, 1)) (hn : pc + 1 = q) (hi : (j : Nat) = i) (hg : lv.lookup i = some .null) (k : jJ G X cells slots sz Sh M q lv (.null :: st)) : jJ G X cells slots sz Sh M pc lv st := by
  subst hn
  intro H locs ls hP hz hS hl
  exact lv_aload_nN C.1 C.2.1 hd hi (jlv hl hg) (k H locs ls hP hz hS hl)
end JNUL
set_option maxRecDepth 100000 in
set_option maxHeartbeats 4000000 in
theorem ctX10_feed {G : jG} {sz : Nat} {Sh : jS} {M : jM} {mm rd : Nat} (hs : (Sh mm).1 = 10) (hb3 : M.2.2 mm 3 = some rd) (hR : cLay rd Sh M) {tp : Nat} (htp : M.1 rd 2 = nI tp) (htp2 : tp ≤ 160) {n : Int32} {b : Int64} : jC G yX10_feed cX10_feed 4 (Option.some FieldType.long) (jrm 2 0 0) sz Sh M [.ref mm, .int n, .long b] (jT sz Sh (xX mm M (eFeed tp n) (fun r M2 => r = some (.long (nI (tp + n.toNatClampNeg)).toInt64) ∧ mEq (fun b => b = rd ∨ b = rd + 1) M M2 ∧ M2.1 rd 2 = nI (tp + n.toNatClampNeg) ∧ (∀ j, j ≠ 2 → M2.1 rd j = M.1 rd j) ∧ ∀ j, M2.1 (rd + 1) j = if tp ≤ j ∧ j < tp + n.toNatClampNeg then bKc b (j - tp) else M.1 (rd + 1) j))) := by
  refine jC_start (by decide +kernel) (Nat.le_of_ble_eq_true rfl) (fun X C E hN0 => ?_)
  have hE : M.2.2 = M.2.2 := rfl
  refine j_iload_n (q := 1) C dX10_feed_0 rfl rfl rfl ?_
  first | refine j_i2lN (q := 2) C dX10_feed_1 rfl (by omega) ?_ | refine j_i2l (q := 2) C dX10_feed_1 rfl rfl ?_
  refine j_lconst (v := 1) (q := 3) C dX10_feed_2 rfl (by decide) ?_
  refine j_ldc2 (q := 6) C dX10_feed_3 rfl kw_457 ?_
  refine jS1 (q := 9) C dX10_feed_6 rfl mX10_within kw_278 kw_279 ctX10_within rfl rfl (by decide) (Nat.le_of_ble_eq_true rfl) (by decide) ?_
  refine j_if_ne (q := 12) (tgt := 20) C dX10_feed_9 rfl (by decide) (fun c_9 => ?_) (fun c_9 => ?_)
  · have hx := jb_n.mp c_9
    obtain ⟨m, hm1, hm2, rfl⟩ := jix3 (lo := 1) (hi := 8) (by omega) hx.1 hx.2 (by omega)
    have em : (nI m).toNatClampNeg = m := nI_clamp (by omega)
    refine j_aload_n (q := 21) C dX10_feed_20 rfl rfl rfl ?_
    refine jg_MM_reader (q := 24) C dX10_feed_21 rfl hs kw_269 ((congrFun (congrFun hE mm) 3).trans hb3) ?_
    refine jg_Reader_length (q := 27) C dX10_feed_24 rfl hR.1 kw_245 ?_
    rw [htp]
    refine j_iload_n (q := 28) C dX10_feed_27 rfl rfl rfl ?_
    first | refine j_iaddN (q := 29) C dX10_feed_28 rfl ?_ | refine j_iadd (q := 29) C dX10_feed_28 rfl ?_
    refine j_sipush (v := nI 160) (q := 32) C dX10_feed_29 rfl (by decide) ?_
    refine j_icmp_le (q := 35) (tgt := 43) C dX10_feed_32 rfl (by decide) (fun c_32 => ?_) (fun c_32 => ?_)
    · have hfit : tp + m ≤ 160 := (nI_leI (by omega) (by omega)).mp c_32
      refine j_aload_n (q := 44) C dX10_feed_43 rfl rfl rfl ?_
      refine jg_MM_reader (q := 47) C dX10_feed_44 rfl hs kw_269 ((congrFun (congrFun hE mm) 3).trans hb3) ?_
      refine j_iload_n (q := 48) C dX10_feed_47 rfl rfl rfl ?_
      refine j_lload_n (q := 49) C dX10_feed_48 rfl rfl rfl ?_
      refine jVT jc7 (q := 52) C dX10_feed_49 rfl hR.1 mX7_append kw_458 kw_459 kw_460 (ctX7_append hR htp hfit) rfl rfl (by decide) (Nat.le_of_ble_eq_true rfl) (by decide) (fun r_49 M_49 h_49 => ?_)
      obtain ⟨rfl, h2, h3, h4, h5⟩ := h_49
      have hE2 := h2.2.2
      clear hE
      have hE := hE2
      refine j_aload_n (q := 53) C dX10_feed_52 rfl rfl rfl ?_
      refine jg_MM_reader (q := 56) C dX10_feed_53 rfl hs kw_269 ((congrFun (congrFun hE mm) 3).trans hb3) ?_
      refine jg_Reader_length (q := 59) C dX10_feed_56 rfl hR.1 kw_245 ?_
      rw [h3]
      first | refine j_i2lN (q := 60) C dX10_feed_59 rfl (by omega) ?_ | refine j_i2l (q := 60) C dX10_feed_59 rfl rfl ?_
      exact j_lret C E dX10_feed_60 rfl rfl (xX_o (by unfold eFeed; rw [if_pos (show (lN 1 ≤ (nI m).toInt64 ∧ (nI m).toInt64 ≤ lN 8) from hx), em, if_neg (by omega)]) ⟨by rw [em, nI_l (by omega)], h2, by rw [em]; exact h3, h4, by rw [em]; exact h5⟩)
    · refine j_aload_n (q := 36) C dX10_feed_35 rfl rfl rfl ?_
      refine j_ldc2 (q := 39) C dX10_feed_36 rfl kw_287 ?_
      refine jV1 jc10 (q := 42) C dX10_feed_39 rfl hs mX10_found kw_284 kw_285 kw_0 (ctX10_found hs) rfl rfl (by decide) (Nat.le_of_ble_eq_true rfl) (by decide) ?_
      exact j_lret C E dX10_feed_42 rfl rfl (xX_b (by unfold eFeed; rw [if_pos (show (lN 1 ≤ (nI m).toInt64 ∧ (nI m).toInt64 ≤ lN 8) from hx), em, if_pos (by rcases Nat.lt_or_ge 160 (tp + m) with e | e; exact e; exact absurd (nI_le e (by omega)) c_32)]) (by decide))
  · refine j_aload_n (q := 13) C dX10_feed_12 rfl rfl rfl ?_
    refine j_ldc2 (q := 16) C dX10_feed_13 rfl kw_283 ?_
    refine jV1 jc10 (q := 19) C dX10_feed_16 rfl hs mX10_found kw_284 kw_285 kw_0 (ctX10_found hs) rfl rfl (by decide) (Nat.le_of_ble_eq_true rfl) (by decide) ?_
    exact j_lret C E dX10_feed_19 rfl rfl (xX_b (by unfold eFeed; rw [if_neg (show ¬ (lN 1 ≤ n.toInt64 ∧ n.toInt64 ≤ lN 8) from fun h => jb_0.mp c_9 h)]) (by decide))

set_option maxRecDepth 100000 in
set_option maxHeartbeats 4000000 in
theorem ctX10_image {G : jG} {sz : Nat} {Sh : jS} {M : jM} {mm w q pr lw jg mk w1 q1 pr1 lw1 jg1 mk1 : Nat} (hs : (Sh mm).1 = 10) (hb0 : M.2.2 mm 0 = some w) (hb1 : M.2.2 mm 1 = some w1) (hW : wLay w q pr lw jg mk Sh M) (hW1 : wLay w1 q1 pr1 lw1 jg1 mk1 Sh M) (hL : lLay lw Sh M) (hL1 : lLay lw1 Sh M) (hT : wTwo w1 q1 w q) (hX : ∀ b, (wS0 w1 q1 pr1 b ∨ (lw1 ≤ b ∧ b ≤ lw1 + 4)) → ¬ (wS0 w q pr b ∨ (lw ≤ b ∧ b ≤ lw + 4))) {pe pa d la : Nat} (hpe6 : M.1 w 6 = nI pe) (hpe : pe ≤ 10) (hpa7 : M.1 w 7 = nI pa) (hpa : pa ≤ 24) (hd3 : d ≤ 300) (hla : la ≤ 12) (hT5 : ∀ t, t < 5 → ∀ ca, M.2.2 (lw + 1) t = some ca → (Sh ca).1 = 1) (hC12 : ∀ l, l < 12 → ∀ ca, M.2.2 (lw + 2) l = some ca → (Sh ca).1 = 1) (hmm : ¬ lT lw1 mm ∧ mm ≠ w) : jC G yX10_image cX10_image 1 (Option.some FieldType.long) (jrm 4 0 0) sz Sh M [.ref mm] (jT sz Sh (fun r M2 => r = some (.long (M.1 w 8).toInt64) ∧ ∃ Mx, wAll w1 q1 pr1 lw1 w q pr lw d pe pa la M none Mx ∧ M2 = jsI Mx mm 5 (nI 1))) := by
  refine jC_start (by decide +kernel) (Nat.le_of_ble_eq_true rfl) (fun X C E hN0 => ?_)
  refine j_aload_n (q := 1) C dX10_image_0 rfl rfl rfl ?_
  refine jg_MM_kept (q := 4) C dX10_image_1 rfl hs kw_267 hb1 ?_
  refine j_aload_n (q := 5) C dX10_image_4 rfl rfl rfl ?_
  refine jg_MM_now (q := 8) C dX10_image_5 rfl hs kw_266 hb0 ?_
  refine jVT jc9 (q := 11) C dX10_image_8 rfl hW1.1.1 mX9_takeAll kw_832 kw_833 kw_834 (ctX9_takeAll (d := d) (la := la) hW1 hW hT hpe6 hpe hpa7 hpa hL1 hL hX hT5 hC12 hd3 hla) rfl rfl (by decide) (Nat.le_of_ble_eq_true rfl) (by decide) (fun r_8 M_8 h_8 => ?_)
  have hX0 := h_8
  obtain ⟨rfl, hwq, hE3, hc5, hc12⟩ := h_8
  have hb0' : M_8.2.2 mm 0 = some w := (congrFun (hE3.2.2 mm hmm.1) 0).trans hb0
  have hwd : M_8.1 w 8 = M.1 w 8 := congrFun (hE3.1 w (fun h => h.elim (fun h => hX w (Or.inl h) (Or.inl (Or.inl rfl))) (fun h => hX w (Or.inr (by unfold lS at h; omega)) (Or.inl (Or.inl rfl))))) 8
  refine j_aload_n (q := 12) C dX10_image_11 rfl rfl rfl ?_
  refine j_iconst (v := nI 1) (q := 13) C dX10_image_12 rfl (by decide) ?_
  refine jp_MM_hasImage (q := 16) C dX10_image_13 rfl hs kw_271 (by first | exact Or.inl rfl | exact Or.inr rfl) ?_
  refine j_aload_n (q := 17) C dX10_image_16 rfl rfl rfl ?_
  refine jg_MM_now (q := 20) C dX10_image_17 rfl hs kw_266 hb0' ?_
  refine jg_World_day (q := 23) C dX10_image_20 rfl hW.1.1 kw_213 ?_
  rw [show (jsI M_8 mm 5 (nI 1)).1 w 8 = M.1 w 8 from (upI (fun h => hmm.2 h.1.symm)).trans hwd]
  first | refine j_i2lN (q := 24) C dX10_image_23 rfl (by omega) ?_ | refine j_i2l (q := 24) C dX10_image_23 rfl rfl ?_
  exact j_lret C E dX10_image_24 rfl rfl (⟨rfl, rfl, rfl, M_8, hX0, rfl⟩)

set_option maxRecDepth 100000 in
set_option maxHeartbeats 4000000 in
theorem ctX10_restore {G : jG} {sz : Nat} {Sh : jS} {M : jM} {mm w q pr lw jg mk w1 q1 pr1 lw1 jg1 mk1 : Nat} (hs : (Sh mm).1 = 10) (hb0 : M.2.2 mm 0 = some w) (hb1 : M.2.2 mm 1 = some w1) (hW : wLay w q pr lw jg mk Sh M) (hW1 : wLay w1 q1 pr1 lw1 jg1 mk1 Sh M) (hL : lLay lw Sh M) (hL1 : lLay lw1 Sh M) (hT : wTwo w q w1 q1) (hX : ∀ b, (wS0 w q pr b ∨ (lw ≤ b ∧ b ≤ lw + 4)) → ¬ (wS0 w1 q1 pr1 b ∨ (lw1 ≤ b ∧ b ≤ lw1 + 4))) {pe pa d la : Nat} (hI : ¬ M.1 mm 5 = 0 → M.1 w1 6 = nI pe ∧ pe ≤ 10 ∧ M.1 w1 7 = nI pa ∧ pa ≤ 24 ∧ d ≤ 300 ∧ la ≤ 12 ∧ (∀ t, t < 5 → ∀ ca, M.2.2 (lw1 + 1) t = some ca → (Sh ca).1 = 1) ∧ (∀ l, l < 12 → ∀ ca, M.2.2 (lw1 + 2) l = some ca → (Sh ca).1 = 1)) (hmm : ¬ lT lw mm) : jC G yX10_restore cX10_restore 1 (Option.some FieldType.long) (jrm 4 0 0) sz Sh M [.ref mm] (jT sz Sh (fun r M2 => if M.1 mm 5 = 0 then r = some (.long (-100006)) ∧ M2 = jsL M mm 6 (M.2.1 mm 6 + 1) else r = some (.long (M2.1 w 8).toInt64) ∧ wAll w q pr lw w1 q1 pr1 lw1 d pe pa la M none M2)) := by
  refine jC_start (by decide +kernel) (Nat.le_of_ble_eq_true rfl) (fun X C E hN0 => ?_)
  refine j_aload_n (q := 1) C dX10_restore_0 rfl rfl rfl ?_
  refine jg_MM_hasImage (q := 4) C dX10_restore_1 rfl hs kw_271 ?_
  refine j_if_ne (q := 7) (tgt := 15) C dX10_restore_4 rfl (by decide) (fun c_4 => ?_) (fun c_4 => ?_)
  · obtain ⟨hpe6, hpe, hpa7, hpa, hd3, hla, hT5, hC12⟩ := hI c_4
    refine j_aload_n (q := 16) C dX10_restore_15 rfl rfl rfl ?_
    refine jg_MM_now (q := 19) C dX10_restore_16 rfl hs kw_266 hb0 ?_
    refine j_aload_n (q := 20) C dX10_restore_19 rfl rfl rfl ?_
    refine jg_MM_kept (q := 23) C dX10_restore_20 rfl hs kw_267 hb1 ?_
    refine jVT jc9 (q := 26) C dX10_restore_23 rfl hW.1.1 mX9_takeAll kw_832 kw_833 kw_834 (ctX9_takeAll (d := d) (la := la) hW hW1 hT hpe6 hpe hpa7 hpa hL hL1 hX hT5 hC12 hd3 hla) rfl rfl (by decide) (Nat.le_of_ble_eq_true rfl) (by decide) (fun r_23 M_23 h_23 => ?_)
    have hX0 := h_23
    obtain ⟨rfl, hwq, hE3, hc5, hc12⟩ := h_23
    have hb0' : M_23.2.2 mm 0 = some w := (congrFun (hE3.2.2 mm hmm) 0).trans hb0
    refine j_aload_n (q := 27) C dX10_restore_26 rfl rfl rfl ?_
    refine jg_MM_now (q := 30) C dX10_restore_27 rfl hs kw_266 hb0' ?_
    refine jg_World_day (q := 33) C dX10_restore_30 rfl hW.1.1 kw_213 ?_
    first | refine j_i2lN (q := 34) C dX10_restore_33 rfl (by omega) ?_ | refine j_i2l (q := 34) C dX10_restore_33 rfl rfl ?_
    exact j_lret C E dX10_restore_34 rfl rfl (⟨rfl, rfl, by dsimp only; rw [if_neg c_4]; exact ⟨rfl, hX0⟩⟩)
  · refine j_aload_n (q := 8) C dX10_restore_7 rfl rfl rfl ?_
    refine j_ldc2 (q := 11) C dX10_restore_8 rfl kw_369 ?_
    refine jV1 jc10 (q := 14) C dX10_restore_11 rfl hs mX10_found kw_284 kw_285 kw_0 (ctX10_found hs) rfl rfl (by decide) (Nat.le_of_ble_eq_true rfl) (by decide) ?_
    exact j_lret C E dX10_restore_14 rfl rfl (⟨rfl, rfl, by dsimp only; rw [if_pos c_4]; exact ⟨rfl, rfl⟩⟩)

def eFc (tx : Option Nat) (la : Nat) (t c e : Int32) : Int64 := if okW t 4 ∧ okW c 1 ∧ okW e 300 then (if tx = none then -100006 else if la = 12 then -100005 else 0) else -100001
set_option maxRecDepth 100000 in
set_option maxHeartbeats 4000000 in
theorem ctX10_force {G : jG} {sz : Nat} {Sh : jS} {M : jM} {mm w q pr lw jg mk : Nat} (hs : (Sh mm).1 = 10) (hb0 : M.2.2 mm 0 = some w) (hW : wLay w q pr lw jg mk Sh M) (hL : lLay lw Sh M) {la : Nat} (hla : M.1 lw 4 = nI la) (hl12 : la ≤ 12) {t c e : Int32} {tx : Option Nat} (htx : okW t 4 → M.2.2 (lw + 1) t.toNatClampNeg = tx) (hca : ∀ ca, tx = some ca → (Sh ca).1 = 1) : jC G yX10_force cX10_force 4 (Option.some FieldType.long) (jrm 3 0 0) sz Sh M [.ref mm, .int t, .int c, .int e] (jT sz Sh (xX mm M (eFc tx la t c e) (fun r M2 => ∃ ca, tx = some ca ∧ r = some (.long (lN la)) ∧ M2 = jsI (jsI (jsI (jsP M (lw + 2) la (some ca)) (lw + 3) la c) (lw + 4) la e) lw 4 (nI (la + 1))))) := by
  refine jC_start (by decide +kernel) (Nat.le_of_ble_eq_true rfl) (fun X C E hN0 => ?_)
  refine j_iload_n (q := 1) C dX10_force_0 rfl rfl rfl ?_
  first | refine j_i2lN (q := 2) C dX10_force_1 rfl (by omega) ?_ | refine j_i2l (q := 2) C dX10_force_1 rfl rfl ?_
  refine j_lconst (v := 0) (q := 3) C dX10_force_2 rfl (by decide) ?_
  refine j_ldc2 (q := 6) C dX10_force_3 rfl kw_466 ?_
  refine jS1 (q := 9) C dX10_force_6 rfl mX10_within kw_278 kw_279 ctX10_within rfl rfl (by decide) (Nat.le_of_ble_eq_true rfl) (by decide) ?_
  refine j_if_eq (q := 12) (tgt := 31) C dX10_force_9 rfl (by decide) (fun c_9 => ?_) (fun c_9 => ?_)
  · refine j_aload_n (q := 32) C dX10_force_31 rfl rfl rfl ?_
    refine j_ldc2 (q := 35) C dX10_force_32 rfl kw_283 ?_
    refine jV1 jc10 (q := 38) C dX10_force_35 rfl hs mX10_found kw_284 kw_285 kw_0 (ctX10_found hs) rfl rfl (by decide) (Nat.le_of_ble_eq_true rfl) (by decide) ?_
    exact j_lret C E dX10_force_38 rfl rfl (xX_b (by unfold eFc; rw [if_neg (fun h => jb_0.mp c_9 h.1)]) (by decide))
  · refine j_iload_n (q := 13) C dX10_force_12 rfl rfl rfl ?_
    refine jS1 (q := 16) C dX10_force_13 rfl mX10_isCourt kw_362 kw_363 ctX10_isCourt rfl rfl (by decide) (Nat.le_of_ble_eq_true rfl) (by decide) ?_
    refine j_if_eq (q := 19) (tgt := 31) C dX10_force_16 rfl (by decide) (fun c_16 => ?_) (fun c_16 => ?_)
    · refine j_aload_n (q := 32) C dX10_force_31 rfl rfl rfl ?_
      refine j_ldc2 (q := 35) C dX10_force_32 rfl kw_283 ?_
      refine jV1 jc10 (q := 38) C dX10_force_35 rfl hs mX10_found kw_284 kw_285 kw_0 (ctX10_found hs) rfl rfl (by decide) (Nat.le_of_ble_eq_true rfl) (by decide) ?_
      exact j_lret C E dX10_force_38 rfl rfl (xX_b (by unfold eFc; rw [if_neg (fun h => jb_0.mp c_16 h.2.1)]) (by decide))
    · refine j_iload_n (q := 20) C dX10_force_19 rfl rfl rfl ?_
      first | refine j_i2lN (q := 21) C dX10_force_20 rfl (by omega) ?_ | refine j_i2l (q := 21) C dX10_force_20 rfl rfl ?_
      refine j_lconst (v := 0) (q := 22) C dX10_force_21 rfl (by decide) ?_
      refine j_ldc2 (q := 25) C dX10_force_22 rfl kw_330 ?_
      refine jS1 (q := 28) C dX10_force_25 rfl mX10_within kw_278 kw_279 ctX10_within rfl rfl (by decide) (Nat.le_of_ble_eq_true rfl) (by decide) ?_
      refine j_if_ne (q := 31) (tgt := 39) C dX10_force_28 rfl (by decide) (fun c_28 => ?_) (fun c_28 => ?_)
      · have h1 := jb_n.mp c_9
        have h2 := jb_n.mp c_16
        have h3 := jb_n.mp c_28
        obtain ⟨x, hx4, rfl⟩ := jix2 (n := 4) (by omega) h1.1 h1.2
        have ex : (nI x).toNatClampNeg = x := nI_clamp (by omega)
        have hx5 := htx h1
        rw [ex] at hx5
        rcases tx with _ | ca
        · refine j_aload_n (q := 40) C dX10_force_39 rfl rfl rfl ?_
          refine jg_MM_now (q := 43) C dX10_force_40 rfl hs kw_266 hb0 ?_
          refine jg_World_laws (q := 46) C dX10_force_43 rfl hW.1.1 kw_199 hW.2.1.2.2.1 ?_
          refine jg_Laws_texts (q := 49) C dX10_force_46 rfl hL.1 kw_123 hL.2.2.2.2.2.1 ?_
          refine j_iload_n (q := 50) C dX10_force_49 rfl rfl rfl ?_
          refine j_aaldQ (q := 51) C dX10_force_50 rfl hL.2.1 (show x < 5 by omega) (by decide) ?_
          rw [hx5]
          refine j_ifnonnullN (q := 54) C dX10_force_51 rfl ?_
          refine j_aload_n (q := 55) C dX10_force_54 rfl rfl rfl ?_
          refine j_ldc2 (q := 58) C dX10_force_55 rfl kw_369 ?_
          refine jV1 jc10 (q := 61) C dX10_force_58 rfl hs mX10_found kw_284 kw_285 kw_0 (ctX10_found hs) rfl rfl (by decide) (Nat.le_of_ble_eq_true rfl) (by decide) ?_
          exact j_lret C E dX10_force_61 rfl rfl (xX_b (by unfold eFc; rw [if_pos ⟨h1, h2, h3⟩, if_pos rfl]) (by decide))
        · refine j_aload_n (q := 40) C dX10_force_39 rfl rfl rfl ?_
          refine jg_MM_now (q := 43) C dX10_force_40 rfl hs kw_266 hb0 ?_
          refine jg_World_laws (q := 46) C dX10_force_43 rfl hW.1.1 kw_199 hW.2.1.2.2.1 ?_
          refine jg_Laws_texts (q := 49) C dX10_force_46 rfl hL.1 kw_123 hL.2.2.2.2.2.1 ?_
          refine j_iload_n (q := 50) C dX10_force_49 rfl rfl rfl ?_
          refine j_aaldQ (q := 51) C dX10_force_50 rfl hL.2.1 (show x < 5 by omega) (by decide) ?_
          rw [hx5]
          refine j_ifnonnull (tgt := 62) C dX10_force_51 (by decide) ?_
          refine j_aload_n (q := 63) C dX10_force_62 rfl rfl rfl ?_
          refine jg_MM_now (q := 66) C dX10_force_63 rfl hs kw_266 hb0 ?_
          refine jg_World_laws (q := 69) C dX10_force_66 rfl hW.1.1 kw_199 hW.2.1.2.2.1 ?_
          refine jg_Laws_made (q := 72) C dX10_force_69 rfl hL.1 kw_129 ?_
          rw [hla]
          refine j_bipush (v := nI 12) (q := 74) C dX10_force_72 rfl (by decide) ?_
          refine j_icmp_lt (q := 77) (tgt := 85) C dX10_force_74 rfl (by decide) (fun c_74 => ?_) (fun c_74 => ?_)
          · have hl1 : la < 12 := (nI_ltI (by omega) (by omega)).mp c_74
            refine j_aload_n (q := 86) C dX10_force_85 rfl rfl rfl ?_
            refine jg_MM_now (q := 89) C dX10_force_86 rfl hs kw_266 hb0 ?_
            refine jg_World_laws (q := 92) C dX10_force_89 rfl hW.1.1 kw_199 hW.2.1.2.2.1 ?_
            refine j_aload_n (q := 93) C dX10_force_92 rfl rfl rfl ?_
            refine jg_MM_now (q := 96) C dX10_force_93 rfl hs kw_266 hb0 ?_
            refine jg_World_laws (q := 99) C dX10_force_96 rfl hW.1.1 kw_199 hW.2.1.2.2.1 ?_
            refine jg_Laws_texts (q := 102) C dX10_force_99 rfl hL.1 kw_123 hL.2.2.2.2.2.1 ?_
            refine j_iload_n (q := 103) C dX10_force_102 rfl rfl rfl ?_
            refine j_aaldQ (q := 104) C dX10_force_103 rfl hL.2.1 (show x < 5 by omega) (by decide) ?_
            rw [hx5]
            refine j_iload_n (q := 105) C dX10_force_104 rfl rfl rfl ?_
            refine j_iload_n (q := 106) C dX10_force_105 rfl rfl rfl ?_
            refine jV1 jc3 (q := 109) C dX10_force_106 rfl hL.1 mX3_enact kw_591 kw_592 kw_593 (ctX3_enact hL hla hl1 (hca ca rfl)) rfl rfl (by decide) (Nat.le_of_ble_eq_true rfl) (by decide) ?_
            first | refine j_i2lN (q := 110) C dX10_force_109 rfl (by omega) ?_ | refine j_i2l (q := 110) C dX10_force_109 rfl rfl ?_
            exact j_lret C E dX10_force_110 rfl rfl (xX_o (by unfold eFc; rw [if_pos ⟨h1, h2, h3⟩, if_neg (by simp), if_neg (by omega)]) ⟨ca, rfl, rfl, rfl⟩)
          · refine j_aload_n (q := 78) C dX10_force_77 rfl rfl rfl ?_
            refine j_ldc2 (q := 81) C dX10_force_78 rfl kw_287 ?_
            refine jV1 jc10 (q := 84) C dX10_force_81 rfl hs mX10_found kw_284 kw_285 kw_0 (ctX10_found hs) rfl rfl (by decide) (Nat.le_of_ble_eq_true rfl) (by decide) ?_
            exact j_lret C E dX10_force_84 rfl rfl (xX_b (by unfold eFc; rw [if_pos ⟨h1, h2, h3⟩, if_neg (by simp), if_pos (by rcases Nat.lt_or_ge la 12 with e | e; exact absurd (nI_lt e (by omega)) c_74; omega)]) (by decide))
      · refine j_aload_n (q := 32) C dX10_force_31 rfl rfl rfl ?_
        refine j_ldc2 (q := 35) C dX10_force_32 rfl kw_283 ?_
        refine jV1 jc10 (q := 38) C dX10_force_35 rfl hs mX10_found kw_284 kw_285 kw_0 (ctX10_found hs) rfl rfl (by decide) (Nat.le_of_ble_eq_true rfl) (by decide) ?_
        exact j_lret C E dX10_force_38 rfl rfl (xX_b (by unfold eFc; rw [if_neg (fun h => jb_0.mp c_28 h.2.2)]) (by decide))

def xTx (mm lw rd sz : Nat) (Sh : jS) (M : jM) (T : Nat → Nat) (n : Nat) (t : Int32) : Option Value → Nat → jS → jM → Prop := fun r sz2 Sh2 M2 => if okW t 4 then ∃ r1 M1, rdP rd sz Sh M T n r1 sz2 Sh2 M1 ∧ (((cEnd T n).1 = false ∧ r = some (.long (-1)) ∧ M2 = jsP (jsI M1 rd 2 (nI 0)) (lw + 1) t.toNatClampNeg (some sz)) ∨ ((cEnd T n).1 = true ∧ r = some (.long (nI (fr T n (cEnd T n).2.1)).toInt64) ∧ M2 = jsI M1 rd 2 (nI 0))) else r = some (.long (-100001)) ∧ sz2 = sz ∧ Sh2 = Sh ∧ M2 = jsL M mm 6 (M.2.1 mm 6 + 1)
set_option maxRecDepth 100000 in
set_option maxHeartbeats 4000000 in
theorem ctX10_text {G : jG} {sz : Nat} {Sh : jS} {M : jM} {mm w q pr lw jg mk rd : Nat} (hs : (Sh mm).1 = 10) (hb0 : M.2.2 mm 0 = some w) (hb3 : M.2.2 mm 3 = some rd) (hW : wLay w q pr lw jg mk Sh M) (hL : lLay lw Sh M) {T : Nat → Nat} {n : Nat} (hR : cLay rd Sh M) (hTp : cTp rd M T n) (hrs : rd + 2 < sz) (hlt : w < sz ∧ lw + 4 < sz ∧ mm < sz) {t : Int32} : jC G yX10_text cX10_text 3 (Option.some FieldType.long) (jrm 60 2 163) sz Sh M [.ref mm, .int t] (xTx mm lw rd sz Sh M T n t) := by
  refine jC_start (by decide +kernel) (Nat.le_of_ble_eq_true rfl) (fun X C E hN0 => ?_)
  refine j_iload_n (q := 1) C dX10_text_0 rfl rfl rfl ?_
  first | refine j_i2lN (q := 2) C dX10_text_1 rfl (by omega) ?_ | refine j_i2l (q := 2) C dX10_text_1 rfl rfl ?_
  refine j_lconst (v := 0) (q := 3) C dX10_text_2 rfl (by decide) ?_
  refine j_ldc2 (q := 6) C dX10_text_3 rfl kw_466 ?_
  refine jS1 (q := 9) C dX10_text_6 rfl mX10_within kw_278 kw_279 ctX10_within rfl rfl (by decide) (Nat.le_of_ble_eq_true rfl) (by decide) ?_
  refine j_if_ne (q := 12) (tgt := 20) C dX10_text_9 rfl (by decide) (fun c_9 => ?_) (fun c_9 => ?_)
  · have h1 := jb_n.mp c_9
    obtain ⟨x, hx4, rfl⟩ := jix2 (n := 4) (by omega) h1.1 h1.2
    have ex : (nI x).toNatClampNeg = x := nI_clamp (by omega)
    refine j_aload_n (q := 21) C dX10_text_20 rfl rfl rfl ?_
    refine jg_MM_reader (q := 24) C dX10_text_21 rfl hs kw_269 hb3 ?_
    refine j_callV (q := 27) jc7 C dX10_text_24 rfl hR.1 mX7_readTape kw_467 kw_468 kw_469 (ctX7_readTape hR hTp hrs) (As := []) (rest := []) rfl rfl ⟨by decide, by decide⟩ (Nat.le_of_ble_eq_true rfl) (by decide) (fun r1 sz2 Sh2 M1 h24 => ?_)
    have h0 := h24
    obtain ⟨e1, e2, e3, e4, hcase⟩ := h24
    have rb : M1.2.2 mm 3 = some rd := by rw [e4 mm hlt.2.2]; exact hb3
    have nb : M1.2.2 mm 0 = some w := by rw [e4 mm hlt.2.2]; exact hb0
    have wb : M1.2.2 w 2 = some lw := by rw [e4 w hlt.1]; exact hW.2.1.2.2.1
    have lb : M1.2.2 lw 0 = some (lw + 1) := by rw [e4 lw (by omega)]; exact hL.2.2.2.2.2.1
    rcases hcase with ⟨hf0, rfl, rfl, rfl, c1, c2, c3, c4⟩ | ⟨hf1, rfl, rfl, rfl, c5⟩
    · refine j_astore_n (lv' := [(2, _), (0, _), (1, _)]) (q := 28) C dX10_text_27 rfl rfl (by decide) rfl ?_
      refine j_aload_n (q := 29) C dX10_text_28 rfl rfl rfl ?_
      refine jg_MM_reader (q := 32) C dX10_text_29 rfl (by rw [((show va_up (va_up Sh sz (1, 0)) (sz + 1) (13, (cEnd T n).2.2.length) (mm) = Sh (mm) by rw [va_up_ne _ _ (by omega), va_up_ne _ _ (by omega)]))]; exact hs) kw_269 rb ?_
      refine j_iconst (v := nI 0) (q := 33) C dX10_text_32 rfl (by decide) ?_
      refine jp_Reader_length (q := 36) C dX10_text_33 rfl (by rw [((show va_up (va_up Sh sz (1, 0)) (sz + 1) (13, (cEnd T n).2.2.length) (rd) = Sh (rd) by rw [va_up_ne _ _ (by omega), va_up_ne _ _ (by omega)]))]; exact hR.1) kw_245 ?_
      refine j_aload_n (q := 37) C dX10_text_36 rfl rfl rfl ?_
      refine j_ifnonnull (tgt := 49) C dX10_text_37 (by decide) ?_
      refine j_aload_n (q := 50) C dX10_text_49 rfl rfl rfl ?_
      refine jg_MM_now (q := 53) C dX10_text_50 rfl (by rw [((show va_up (va_up Sh sz (1, 0)) (sz + 1) (13, (cEnd T n).2.2.length) (mm) = Sh (mm) by rw [va_up_ne _ _ (by omega), va_up_ne _ _ (by omega)]))]; exact hs) kw_266 nb ?_
      refine jg_World_laws (q := 56) C dX10_text_53 rfl (by rw [((show va_up (va_up Sh sz (1, 0)) (sz + 1) (13, (cEnd T n).2.2.length) (w) = Sh (w) by rw [va_up_ne _ _ (by omega), va_up_ne _ _ (by omega)]))]; exact hW.1.1) kw_199 wb ?_
      refine jg_Laws_texts (q := 59) C dX10_text_56 rfl (by rw [((show va_up (va_up Sh sz (1, 0)) (sz + 1) (13, (cEnd T n).2.2.length) (lw) = Sh (lw) by rw [va_up_ne _ _ (by omega), va_up_ne _ _ (by omega)]))]; exact hL.1) kw_123 lb ?_
      refine j_iload_n (q := 60) C dX10_text_59 rfl rfl rfl ?_
      refine j_aload_n (q := 61) C dX10_text_60 rfl rfl rfl ?_
      refine j_aast (K := 15) (n := 5) (ci := 1) (t0 := 3) jc1 C dX10_text_61 rfl (by rw [((show va_up (va_up Sh sz (1, 0)) (sz + 1) (13, (cEnd T n).2.2.length) (lw + 1) = Sh (lw + 1) by rw [va_up_ne _ _ (by omega), va_up_ne _ _ (by omega)]))]; exact hL.2.1) (by decide) rfl (show x < 5 by omega) (by decide) (congrArg Prod.fst ((va_up_ne _ _ (by omega)).trans (va_up_self _ _ _))) ?_
      refine j_ldc2 (q := 65) C dX10_text_62 rfl kw_586 ?_
      exact j_lret C E dX10_text_65 rfl rfl ((by unfold xTx; rw [if_pos (show okW (nI x) 4 from h1)]; exact ⟨_, M1, h0, Or.inl ⟨hf0, rfl, by rw [ex]⟩⟩))
    · refine j_astore_nN (lv' := [(2, _), (0, _), (1, _)]) (q := 28) C dX10_text_27 rfl rfl (by decide) rfl ?_
      refine j_aload_n (q := 29) C dX10_text_28 rfl rfl rfl ?_
      refine jg_MM_reader (q := 32) C dX10_text_29 rfl hs kw_269 rb ?_
      refine j_iconst (v := nI 0) (q := 33) C dX10_text_32 rfl (by decide) ?_
      refine jp_Reader_length (q := 36) C dX10_text_33 rfl hR.1 kw_245 ?_
      refine j_aload_nN (q := 37) C dX10_text_36 rfl rfl rfl ?_
      refine j_ifnonnullN (q := 40) C dX10_text_37 rfl ?_
      refine j_aload_n (q := 41) C dX10_text_40 rfl rfl rfl ?_
      refine jg_MM_reader (q := 44) C dX10_text_41 rfl hs kw_269 rb ?_
      refine jg_Reader_fault (q := 47) C dX10_text_44 rfl hR.1 kw_251 ?_
      rw [show (jsI M1 rd 2 (nI 0)).1 rd 7 = nI (fr T n (cEnd T n).2.1) from (upI (by omega)).trans c5]
      first | refine j_i2lN (q := 48) C dX10_text_47 rfl (by omega) ?_ | refine j_i2l (q := 48) C dX10_text_47 rfl rfl ?_
      exact j_lret C E dX10_text_48 rfl rfl ((by unfold xTx; rw [if_pos (show okW (nI x) 4 from h1)]; exact ⟨_, M1, h0, Or.inr ⟨hf1, rfl, rfl⟩⟩))
  · refine j_aload_n (q := 13) C dX10_text_12 rfl rfl rfl ?_
    refine j_ldc2 (q := 16) C dX10_text_13 rfl kw_283 ?_
    refine jV1 jc10 (q := 19) C dX10_text_16 rfl hs mX10_found kw_284 kw_285 kw_0 (ctX10_found hs) rfl rfl (by decide) (Nat.le_of_ble_eq_true rfl) (by decide) ?_
    refine j_widen (c1 := 2) (s1 := 163) (by decide) (by decide) ?_
    exact j_lret C E dX10_text_19 rfl rfl ((by unfold xTx; rw [if_neg (show ¬ okW t 4 from fun h => jb_0.mp c_9 h)]; exact ⟨rfl, rfl, rfl, rfl⟩))

