theorem va_comm {f : Nat → Int64} {a b : Nat} {x z : Int64} (h : a ≠ b) : va_up (va_up f a x) b z = va_up (va_up f b z) a x := by
  funext j
  by_cases ha : j = a
  · subst ha; rw [va_up_ne _ _ h, va_up_self, va_up_self]
  · by_cases hb : j = b
    · subst hb; rw [va_up_self, va_up_ne _ _ ha, va_up_self]
    · rw [va_up_ne _ _ hb, va_up_ne _ _ ha, va_up_ne _ _ ha, va_up_ne _ _ hb]
theorem nGets_up {N : Nat → Int64} {a k : Nat} {x v : Int64} (h : a ≠ k) (h3 : a ≠ 3) : nGets (va_up N a x) k v = va_up (nGets N k v) a x := by
  have h' : k ≠ a := fun e => h e.symm
  have h3' : 3 ≠ a := fun e => h3 e.symm
  unfold nGets
  rw [va_up_ne N x h', va_comm (f := N) h]
  by_cases c : va_up N k (N k + v) k ≤ 1000000000000000
  · rw [if_pos (by rw [va_up_ne _ _ h']; exact c), if_pos c]
  · rw [if_neg (by rw [va_up_ne _ _ h']; exact c), if_neg c, va_up_ne _ _ h', va_up_ne _ _ h3', va_comm h3, va_comm h]
theorem lN_sb {a m : Nat} (h : m ≤ a) : lN (a - m) = lN a - lN m := by
  have : lN a = lN (a - m) + lN m := by rw [lN_add, Nat.sub_add_cancel h]
  rw [this, Int64.add_sub_cancel]
theorem nI_sb {a m : Nat} (h : m ≤ a) : nI a - nI m = nI (a - m) := by
  have : nI a = nI (a - m) + nI m := by rw [nI_add, Nat.sub_add_cancel h]
  rw [this, Int32.add_sub_cancel]
theorem nBuyN_cls {K : Nat → Int64} {h s : Nat} {p n : Int64} (hs : s < 10) (hh : h < 10) (hne : s ≠ h) : nBuyN h p s n K = (let K3 := nGets (va_up (va_up K (10 + 10 * s + 1) (K (10 + 10 * s + 1) - n)) (10 + 10 * s + 6) (K (10 + 10 * s + 6) + n)) (10 + 10 * s + 0) (n * p)
    va_up (va_up (va_up K3 (10 + 10 * h + 1) (K (10 + 10 * h + 1) + n)) (10 + 10 * h + 7) (K (10 + 10 * h + 7) + n)) (10 + 10 * h + 0) (K (10 + 10 * h + 0) - n * p)) := by
  unfold nBuyN
  simp only []
  rw [nGets_up (by omega) (by omega), nGets_up (by omega) (by omega), nGets_up (by omega) (by omega)]
  rw [va_up_ne _ _ (show 10 + 10 * s + 6 ≠ 10 + 10 * s + 1 by omega), va_up_ne _ _ (show 10 + 10 * h + 1 ≠ 10 + 10 * s + 6 by omega), va_up_ne _ _ (show 10 + 10 * h + 1 ≠ 10 + 10 * s + 1 by omega), va_up_ne _ _ (show 10 + 10 * h + 7 ≠ 10 + 10 * h + 1 by omega), va_up_ne _ _ (show 10 + 10 * h + 7 ≠ 10 + 10 * s + 6 by omega), va_up_ne _ _ (show 10 + 10 * h + 7 ≠ 10 + 10 * s + 1 by omega), va_up_ne _ _ (show 10 + 10 * h + 0 ≠ 10 + 10 * h + 7 by omega), va_up_ne _ _ (show 10 + 10 * h + 0 ≠ 10 + 10 * h + 1 by omega), va_up_ne _ _ (show 10 + 10 * h + 0 ≠ 10 + 10 * s + 6 by omega), va_up_ne _ _ (show 10 + 10 * h + 0 ≠ 10 + 10 * s + 1 by omega)]
set_option maxRecDepth 100000 in
set_option maxHeartbeats 4000000 in
theorem ctX9_trade {G : jG} {sz : Nat} {Sh : jS} {M : jM} {w q pr lw jg mk : Nat} {K : Nat → Int64} (hW : wLay w q pr lw jg mk Sh M) (hM : vK w q pr lw M = K) {h s m a b : Nat} (hh : h < 10) (hs : s < 10) (hne : s ≠ h) (ha : K (10 + 10 * s + 1) = lN a) (hma : m ≤ a) (ha9 : a < 100000) (hb : K (10 + 10 * h + 1) = lN b) (hb9 : b + m < 100000) {p : Int64} : jC G yX9_trade cX9_trade 6 (Option.none : Option FieldType) (jrm 2 0 0) sz Sh M [.ref w, .ref (q + 2 + h), .ref (q + 2 + s), .int (nI m), .long p] (jT sz Sh (wT (wS0 w q pr) w q pr lw M (nBuyN h p s (lN m) K) (none))) := by
  refine jC_start (by decide +kernel) (Nat.le_of_ble_eq_true rfl) (fun X C E hN0 => ?_)
  have hE : mEq (wS0 w q pr) M M := mEq.rf
  have hSS : ∀ b, wS0 w q pr b → wS0 w q pr b := fun _ h => h
  refine j_aload_n (q := 1) C dX9_trade_0 rfl rfl rfl ?_
  refine j_dup (q := 2) C dX9_trade_1 rfl rfl ?_
  refine wg_Person_loaves (by omega) hW hM (q' := 5) C dX9_trade_2 rfl kw_148 ?_
  refine j_iload_n (q := 6) C dX9_trade_5 rfl rfl rfl ?_
  refine j_isub (q := 7) C dX9_trade_6 rfl ?_
  refine j_top (v' := .int (nI (a - m))) (congrArg Value.int (by rw [k32 ha, nI_sb hma])) ?_
  refine wp_Person_loaves (by omega) hW hM hE hSS (q' := 10) C dX9_trade_7 rfl kw_148 (fun M hM hE hW => ?_)
  refine j_aload_n (q := 11) C dX9_trade_10 rfl rfl rfl ?_
  refine j_dup (q := 12) C dX9_trade_11 rfl rfl ?_
  refine wg_Person_sold (by omega) hW hM (q' := 15) C dX9_trade_12 rfl kw_157 ?_
  refine j_iload_n (q := 16) C dX9_trade_15 rfl rfl rfl ?_
  first | refine j_i2lN (q := 17) C dX9_trade_16 rfl (by omega) ?_ | refine j_i2l (q := 17) C dX9_trade_16 rfl rfl ?_
  refine j_ladd (q := 18) C dX9_trade_17 rfl ?_
  refine wp_Person_sold (by omega) hW hM hE hSS (q' := 21) C dX9_trade_18 rfl kw_157 (fun M hM hE hW => ?_)
  refine j_aload_n (q := 22) C dX9_trade_21 rfl rfl rfl ?_
  refine j_aload_n (q := 23) C dX9_trade_22 rfl rfl rfl ?_
  refine j_iload_n (q := 24) C dX9_trade_23 rfl rfl rfl ?_
  first | refine j_i2lN (q := 25) C dX9_trade_24 rfl (by omega) ?_ | refine j_i2l (q := 25) C dX9_trade_24 rfl rfl ?_
  refine j_lload (q := 27) C dX9_trade_25 rfl rfl ?_
  refine j_lmul (q := 28) C dX9_trade_27 rfl ?_
  refine jVT jc9 (q := 31) C dX9_trade_28 rfl hW.1.1 mX9_credit kw_426 kw_427 kw_428 (ctX9_credit hW hM hs) rfl rfl (by decide) (Nat.le_of_ble_eq_true rfl) (by decide) (fun r_28 M_28 h_28 => ?_)
  obtain ⟨rfl, hM2, hE2⟩ := h_28
  clear hM
  have hM := hM2
  replace hE := hE.tr (hE2.mono hSS)
  replace hW := hW.mv hE2
  refine j_aload_n (q := 32) C dX9_trade_31 rfl rfl rfl ?_
  refine j_dup (q := 33) C dX9_trade_32 rfl rfl ?_
  refine wg_Person_loaves (by omega) hW hM (q' := 36) C dX9_trade_33 rfl kw_148 ?_
  refine j_iload_n (q := 37) C dX9_trade_36 rfl rfl rfl ?_
  first | refine j_iaddN (q := 38) C dX9_trade_37 rfl ?_ | refine j_iadd (q := 38) C dX9_trade_37 rfl ?_
  refine j_top (v' := .int (nI (b + m))) (congrArg Value.int (by rw [k32 ((nGets_ne (by omega) (by omega)).trans ((va_up_ne _ _ (by omega)).trans ((va_up_ne _ _ (by omega)).trans hb))), nI_add])) ?_
  refine wp_Person_loaves (by omega) hW hM hE hSS (q' := 41) C dX9_trade_38 rfl kw_148 (fun M hM hE hW => ?_)
  refine j_aload_n (q := 42) C dX9_trade_41 rfl rfl rfl ?_
  refine j_dup (q := 43) C dX9_trade_42 rfl rfl ?_
  refine wg_Person_bought (by omega) hW hM (q' := 46) C dX9_trade_43 rfl kw_159 ?_
  refine j_iload_n (q := 47) C dX9_trade_46 rfl rfl rfl ?_
  first | refine j_i2lN (q := 48) C dX9_trade_47 rfl (by omega) ?_ | refine j_i2l (q := 48) C dX9_trade_47 rfl rfl ?_
  refine j_ladd (q := 49) C dX9_trade_48 rfl ?_
  refine wp_Person_bought (by omega) hW hM hE hSS (q' := 52) C dX9_trade_49 rfl kw_159 (fun M hM hE hW => ?_)
  refine j_aload_n (q := 53) C dX9_trade_52 rfl rfl rfl ?_
  refine j_dup (q := 54) C dX9_trade_53 rfl rfl ?_
  refine wg_Person_marks (by omega) hW hM (q' := 57) C dX9_trade_54 rfl kw_144 ?_
  refine j_iload_n (q := 58) C dX9_trade_57 rfl rfl rfl ?_
  first | refine j_i2lN (q := 59) C dX9_trade_58 rfl (by omega) ?_ | refine j_i2l (q := 59) C dX9_trade_58 rfl rfl ?_
  refine j_lload (q := 61) C dX9_trade_59 rfl rfl ?_
  refine j_lmul (q := 62) C dX9_trade_61 rfl ?_
  refine j_lsub (q := 63) C dX9_trade_62 rfl ?_
  refine wp_Person_marks (by omega) hW hM hE hSS (q' := 66) C dX9_trade_63 rfl kw_144 (fun M hM hE hW => ?_)
  exact j_vret C E dX9_trade_66 rfl rfl (wT_i rfl (by rw [hM, nBuyN_cls hs hh hne]; simp only [nI_l (show m < 2 ^ 31 by omega), nI_l (show a - m < 2 ^ 31 by omega), nI_l (show b + m < 2 ^ 31 by omega)]; rw [ha, hb, lN_sb hma, lN_add]; rw [va_up_ne _ _ (show 10 + 10 * s + 6 ≠ 10 + 10 * s + 1 by omega), va_up_ne _ _ (show 10 + 10 * h + 7 ≠ 10 + 10 * h + 1 by omega), va_up_ne _ _ (show 10 + 10 * h + 0 ≠ 10 + 10 * h + 7 by omega), va_up_ne _ _ (show 10 + 10 * h + 0 ≠ 10 + 10 * h + 1 by omega), nGets_ne (show 10 + 10 * h + 7 ≠ 10 + 10 * s + 0 by omega) (by omega), nGets_ne (show 10 + 10 * h + 0 ≠ 10 + 10 * s + 0 by omega) (by omega), va_up_ne _ _ (show 10 + 10 * h + 7 ≠ 10 + 10 * s + 6 by omega), va_up_ne _ _ (show 10 + 10 * h + 7 ≠ 10 + 10 * s + 1 by omega), va_up_ne _ _ (show 10 + 10 * h + 0 ≠ 10 + 10 * s + 6 by omega), va_up_ne _ _ (show 10 + 10 * h + 0 ≠ 10 + 10 * s + 1 by omega)]) hE)

set_option maxRecDepth 100000 in
set_option maxHeartbeats 4000000 in
theorem ctX9_keepsBack {G : jG} {sz : Nat} {Sh : jS} {M : jM} {w q pr lw jg mk : Nat} {K : Nat → Int64} (hW : wLay w q pr lw jg mk Sh M) (hM : vK w q pr lw M = K) {d i kp : Nat} (hi : i < 10) (hd : K 0 = lN d) (hd3 : d ≤ 300) (hpr : ∀ k, k ≤ d → 1 ≤ K (310 + k)) (hk : K (10 + 10 * i + 4) = lN kp) (hk1 : kp ≤ 1000) : jC G yX9_keepsBack cX9_keepsBack 2 (Option.some FieldType.boolean) (jrm 2 0 0) sz Sh M [.ref w, .ref (q + 2 + i)] (jR (some (.int (jbC (nKeeps K d i)))) sz Sh M) := by
  refine jC_start (by decide +kernel) (Nat.le_of_ble_eq_true rfl) (fun X C E hN0 => ?_)
  refine j_aload_n (q := 1) C dX9_keepsBack_0 rfl rfl rfl ?_
  refine wg_World_day hW hM (q' := 4) C dX9_keepsBack_1 rfl kw_209 ?_
  refine j_top (v' := .int (nI d)) (congrArg Value.int (k32 hd)) ?_
  refine j_if_le (q := 7) (tgt := 46) C dX9_keepsBack_4 rfl (by decide) (fun c_4 => ?_) (fun c_4 => ?_)
  · refine j_iconst (v := nI 0) (q := 47) C dX9_keepsBack_46 rfl (by decide) ?_
    exact j_zret C E dX9_keepsBack_47 (by first | rfl | exact jb_nar) rfl rfl (jR_e (congrArg (fun z => some (Value.int z)) (jbC_f (fun h => absurd ((nI_leI (b := 0) (by omega) (by omega)).mp c_4) (by have := h.1; omega))).symm) rfl)
  · have hd0 : 0 < d := by
      rcases Nat.eq_zero_or_pos d with e | e
      · exact absurd (by rw [e]; decide) c_4
      · exact e
    have eK : lN (100 + kp) = 100 + K (10 + 10 * i + 4) := by rw [hk, ← lN_add]; rfl
    refine j_ldc2 (q := 10) C dX9_keepsBack_7 rfl kw_632 ?_
    refine j_aload_n (q := 11) C dX9_keepsBack_10 rfl rfl rfl ?_
    refine j_aload_n (q := 12) C dX9_keepsBack_11 rfl rfl rfl ?_
    refine wg_World_day hW hM (q' := 15) C dX9_keepsBack_12 rfl kw_209 ?_
    refine j_top (v' := .int (nI d)) (congrArg Value.int (k32 hd)) ?_
    refine jV1 jc9 (q := 18) C dX9_keepsBack_15 rfl hW.1.1 mX9_priceOn kw_439 kw_378 kw_379 (ctX9_priceOn hW hM (k := d) (by omega) (hpr d (by omega))) rfl rfl (by decide) (Nat.le_of_ble_eq_true rfl) (by decide) ?_
    refine j_lmul (q := 19) C dX9_keepsBack_18 rfl ?_
    refine j_bipush (v := nI 100) (q := 21) C dX9_keepsBack_19 rfl (by decide) ?_
    refine j_aload_n (q := 22) C dX9_keepsBack_21 rfl rfl rfl ?_
    refine wg_Person_keep (by omega) hW hM (q' := 25) C dX9_keepsBack_22 rfl kw_153 ?_
    first | refine j_iaddN (q := 26) C dX9_keepsBack_25 rfl ?_ | refine j_iadd (q := 26) C dX9_keepsBack_25 rfl ?_
    refine j_top (v' := .int (nI (100 + kp))) (congrArg Value.int (by rw [k32 hk, ← nI_add])) ?_
    first | refine j_i2lN (q := 27) C dX9_keepsBack_26 rfl (by omega) ?_ | refine j_i2l (q := 27) C dX9_keepsBack_26 rfl rfl ?_
    refine j_aload_n (q := 28) C dX9_keepsBack_27 rfl rfl rfl ?_
    refine j_aload_n (q := 29) C dX9_keepsBack_28 rfl rfl rfl ?_
    refine wg_World_day hW hM (q' := 32) C dX9_keepsBack_29 rfl kw_209 ?_
    refine j_iconst (v := nI 1) (q := 33) C dX9_keepsBack_32 rfl (by decide) ?_
    refine j_isub (q := 34) C dX9_keepsBack_33 rfl ?_
    refine j_top (v' := .int (nI (d - 1))) (congrArg Value.int (by rw [k32 hd]; exact nI_sb (m := 1) hd0)) ?_
    refine jV1 jc9 (q := 37) C dX9_keepsBack_34 rfl hW.1.1 mX9_priceOn kw_439 kw_378 kw_379 (ctX9_priceOn hW hM (k := d - 1) (by omega) (hpr (d - 1) (by omega))) rfl rfl (by decide) (Nat.le_of_ble_eq_true rfl) (by decide) ?_
    refine j_lmul (q := 38) C dX9_keepsBack_37 rfl ?_
    refine j_lcmp_lt (q1 := 39) (q := 42) (tgt := 46) C dX9_keepsBack_38 dX9_keepsBack_39 rfl rfl (by decide) (fun c_39 => ?_) (fun c_39 => ?_)
    · refine j_iconst (v := nI 0) (q := 47) C dX9_keepsBack_46 rfl (by decide) ?_
      exact j_zret C E dX9_keepsBack_47 (by first | rfl | exact jb_nar) rfl rfl (jR_e (congrArg (fun z => some (Value.int z)) (jbC_f (fun h => absurd h.2 (Int64.not_le.mpr (by rw [← eK]; exact c_39)))).symm) rfl)
    · refine j_iconst (v := nI 1) (q := 43) C dX9_keepsBack_42 rfl (by decide) ?_
      refine j_goto (tgt := 47) C dX9_keepsBack_43 (by decide) ?_
      exact j_zret C E dX9_keepsBack_47 (by first | rfl | exact jb_nar) rfl rfl (jR_e (congrArg (fun z => some (Value.int z)) (jbC_t ⟨hd0, by rw [← eK]; exact Int64.not_lt.mp c_39⟩).symm) rfl)

