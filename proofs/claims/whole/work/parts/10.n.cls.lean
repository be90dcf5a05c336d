/-- one finding more, in the class -/
def xB (mm : Nat) (M : jM) (b : Bool) : jM := if b then jsL M mm 6 (M.2.1 mm 6 + 1) else M
theorem xp_o {mm sz : Nat} {Sh : jS} {M : jM} {s : sA} {v : Int64} {N : Nat → Int64} (h : s = (v, false, N)) : jR (some (.long s.1)) sz Sh (xB mm M s.2.1) (some (.long v)) sz Sh M := by subst h; exact ⟨rfl, rfl, rfl, rfl⟩
theorem xp_b {mm sz : Nat} {Sh : jS} {M : jM} {s : sA} {v : Int64} {N : Nat → Int64} (h : s = (v, true, N)) : jR (some (.long s.1)) sz Sh (xB mm M s.2.1) (some (.long v)) sz Sh (jsL M mm 6 (M.2.1 mm 6 + 1)) := by subst h; exact ⟨rfl, rfl, rfl, rfl⟩
set_option maxRecDepth 100000 in
set_option maxHeartbeats 4000000 in
theorem ctX10_price {G : jG} {sz : Nat} {Sh : jS} {M : jM} {mm w q pr lw jg mk : Nat} (hs : (Sh mm).1 = 10) (hb0 : M.2.2 mm 0 = some w) {K : Nat → Int64} (hW : wLay w q pr lw jg mk Sh M) (hM : vK w q pr lw M = K) {d : Nat} (hd : K 0 = lN d) (hd3 : d ≤ 300) (hpr : ∀ k, k ≤ d → 1 ≤ K (310 + k)) {x : Int32} : jC G yX10_price cX10_price 2 (Option.some FieldType.long) (jrm 2 0 0) sz Sh M [.ref mm, .int x] (jR (some (.long (sPrice K x).1)) sz Sh (xB mm M (sPrice K x).2.1)) := by
  refine jC_start (by decide +kernel) (Nat.le_of_ble_eq_true rfl) (fun X C E hN0 => ?_)
  refine j_iload_n (q := 1) C dX10_price_0 rfl rfl rfl ?_
  first | refine j_i2lN (q := 2) C dX10_price_1 rfl (by omega) ?_ | refine j_i2l (q := 2) C dX10_price_1 rfl rfl ?_
  refine j_lconst (v := 0) (q := 3) C dX10_price_2 rfl (by decide) ?_
  refine j_aload_n (q := 4) C dX10_price_3 rfl rfl rfl ?_
  refine jg_MM_now (q := 7) C dX10_price_4 rfl hs kw_266 hb0 ?_
  refine wg_World_day hW hM (q' := 10) C dX10_price_7 rfl kw_213 ?_
  rw [hd]
  refine j_top (v' := .int (nI d)) (congrArg Value.int (by first | exact lN_i (by omega) | (rw [← nI_l (by omega), i32_rt]))) ?_
  first | refine j_i2lN (q := 11) C dX10_price_10 rfl (by omega) ?_ | refine j_i2l (q := 11) C dX10_price_10 rfl rfl ?_
  refine jS1 (q := 14) C dX10_price_11 rfl mX10_within kw_278 kw_279 ctX10_within rfl rfl (by decide) (Nat.le_of_ble_eq_true rfl) (by decide) ?_
  refine j_if_ne (q := 17) (tgt := 25) C dX10_price_14 rfl (by decide) (fun c_14 => ?_) (fun c_14 => ?_)
  · have hx := jb_n.mp c_14
    obtain ⟨x, hx1, rfl⟩ := jix2 (n := d) (by omega) hx.1 hx.2
    refine j_aload_n (q := 26) C dX10_price_25 rfl rfl rfl ?_
    refine jg_MM_now (q := 29) C dX10_price_26 rfl hs kw_266 hb0 ?_
    refine j_iload_n (q := 30) C dX10_price_29 rfl rfl rfl ?_
    refine jV1 jc9 (q := 33) C dX10_price_30 rfl hW.1.1 mX9_priceOn kw_668 kw_378 kw_379 (ctX9_priceOn hW hM (k := x) (by omega) (hpr x hx1)) rfl rfl (by decide) (Nat.le_of_ble_eq_true rfl) (by decide) ?_
    exact j_lret C E dX10_price_33 rfl rfl (xp_o (by unfold sPrice; rw [if_pos ⟨hx.1, by rw [hd]; exact hx.2⟩, nI_clamp (by omega)]))
  · refine j_aload_n (q := 18) C dX10_price_17 rfl rfl rfl ?_
    refine j_ldc2 (q := 21) C dX10_price_18 rfl kw_283 ?_
    refine jV1 jc10 (q := 24) C dX10_price_21 rfl hs mX10_found kw_284 kw_285 kw_0 (ctX10_found hs) rfl rfl (by decide) (Nat.le_of_ble_eq_true rfl) (by decide) ?_
    exact j_lret C E dX10_price_24 rfl rfl (xp_b (if_neg (fun h => jb_0.mp c_14 ⟨h.1, by rw [← hd]; exact h.2⟩)))

