def xW (S : Nat → Prop) (mm w q pr lw : Nat) (M : jM) (s : sA) : Option Value → jM → Prop := fun r M2 => if s.2.1 = true then r = some (.long s.1) ∧ M2 = jsL M mm 6 (M.2.1 mm 6 + 1) else wT S w q pr lw M s.2.2 (some (.long s.1)) r M2
theorem xW_b {S : Nat → Prop} {mm w q pr lw sz : Nat} {Sh : jS} {M : jM} {s : sA} {v : Int64} {N : Nat → Int64} (h : s = (v, true, N)) : jT sz Sh (xW S mm w q pr lw M s) (some (.long v)) sz Sh (jsL M mm 6 (M.2.1 mm 6 + 1)) := by subst h; exact ⟨rfl, rfl, rfl, rfl⟩
theorem xW_o {S : Nat → Prop} {mm w q pr lw sz : Nat} {Sh : jS} {M M2 : jM} {s : sA} {v : Int64} {N : Nat → Int64} (h : s = (v, false, N)) (h1 : vK w q pr lw M2 = N) (h2 : mEq S M M2) : jT sz Sh (xW S mm w q pr lw M s) (some (.long v)) sz Sh M2 := by subst h; exact ⟨rfl, rfl, rfl, h1, h2⟩
set_option maxRecDepth 100000 in
set_option maxHeartbeats 4000000 in
theorem ctX10_press {G : jG} {sz : Nat} {Sh : jS} {M : jM} {mm w q pr lw jg mk : Nat} (hs : (Sh mm).1 = 10) (hb0 : M.2.2 mm 0 = some w) {K : Nat → Int64} (hW : wLay w q pr lw jg mk Sh M) (hM : vK w q pr lw M = K) {v : Int64} : jC G yX10_press cX10_press 3 (Option.some FieldType.long) (jrm 2 0 0) sz Sh M [.ref mm, .long v] (jT sz Sh (xW (wS0 w q pr) mm w q pr lw M (sPress K v))) := by
  refine jC_start (by decide +kernel) (Nat.le_of_ble_eq_true rfl) (fun X C E hN0 => ?_)
  have hE : mEq (wS0 w q pr) M M := mEq.rf
  have hSS : ∀ b, wS0 w q pr b → wS0 w q pr b := fun _ h => h
  refine j_lload_n (q := 1) C dX10_press_0 rfl rfl rfl ?_
  refine j_lconst (v := 0) (q := 2) C dX10_press_1 rfl (by decide) ?_
  refine j_ldc2 (q := 5) C dX10_press_2 rfl kw_277 ?_
  refine jS1 (q := 8) C dX10_press_5 rfl mX10_within kw_278 kw_279 ctX10_within rfl rfl (by decide) (Nat.le_of_ble_eq_true rfl) (by decide) ?_
  refine j_if_ne (q := 11) (tgt := 19) C dX10_press_8 rfl (by decide) (fun c_8 => ?_) (fun c_8 => ?_)
  · refine j_aload_n (q := 20) C dX10_press_19 rfl rfl rfl ?_
    refine jg_MM_now (q := 23) C dX10_press_20 rfl hs kw_266 ((congrFun (congrFun hE.2.2 mm) 0).trans hb0) ?_
    refine j_dup (q := 24) C dX10_press_23 rfl rfl ?_
    refine wg_World_printed hW hM (q' := 27) C dX10_press_24 rfl kw_218 ?_
    refine j_lload_n (q := 28) C dX10_press_27 rfl rfl rfl ?_
    refine j_ladd (q := 29) C dX10_press_28 rfl ?_
    refine wp_World_printed hW hM hE hSS (q' := 32) C dX10_press_29 rfl kw_218 (fun M hM hE hW => ?_)
    refine j_aload_n (q := 33) C dX10_press_32 rfl rfl rfl ?_
    refine jg_MM_now (q := 36) C dX10_press_33 rfl hs kw_266 ((congrFun (congrFun hE.2.2 mm) 0).trans hb0) ?_
    refine j_lload_n (q := 37) C dX10_press_36 rfl rfl rfl ?_
    refine jVT jc9 (q := 40) C dX10_press_37 rfl hW.1.1 mX9_creditState kw_683 kw_684 kw_685 (ctX9_creditState hW hM) rfl rfl (by decide) (Nat.le_of_ble_eq_true rfl) (by decide) (fun r_37 M_37 h_37 => ?_)
    obtain ⟨rfl, hM, hE2⟩ := h_37
    replace hE := hE.tr hE2
    replace hW := hW.mv hE2
    refine j_aload_n (q := 41) C dX10_press_40 rfl rfl rfl ?_
    refine jg_MM_now (q := 44) C dX10_press_41 rfl hs kw_266 ((congrFun (congrFun hE.2.2 mm) 0).trans hb0) ?_
    refine wg_World_state hW hM (q' := 47) C dX10_press_44 rfl kw_215 ?_
    exact j_lret C E dX10_press_47 rfl rfl (xW_o (if_pos (jb_n.mp c_8)) hM hE)
  · refine j_aload_n (q := 12) C dX10_press_11 rfl rfl rfl ?_
    refine j_ldc2 (q := 15) C dX10_press_12 rfl kw_283 ?_
    refine jV1 jc10 (q := 18) C dX10_press_15 rfl hs mX10_found kw_284 kw_285 kw_0 (ctX10_found hs) rfl rfl (by decide) (Nat.le_of_ble_eq_true rfl) (by decide) ?_
    exact j_lret C E dX10_press_18 rfl rfl (xW_b (if_neg (jb_0.mp c_8)))

