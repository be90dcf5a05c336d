set_option maxRecDepth 100000 in
set_option maxHeartbeats 4000000 in
theorem ctX2_init {G : jG} {sz : Nat} {Sh : jS} {M : jM} {a : Nat} (hs : (Sh a).1 = 2) (ha : a < sz) : jC G yX2_init cX2_init 1 (Option.none : Option FieldType) (jrm 2 2 47) sz Sh M [.ref a] (fun r sz2 Sh2 M2 => r = none ∧ sz2 = sz + 2 ∧ Sh2 = va_up (va_up Sh sz (14, 7)) (sz + 1) (14, 40) ∧ M2 = jsP (jz (jsP (jz M sz) a 0 (some sz)) (sz + 1)) a 1 (some (sz + 1))) := by
  refine jC_start (by decide +kernel) (Nat.le_of_ble_eq_true rfl) (fun X C E hN0 => ?_)
  refine j_aload_n (q := 1) C dX2_init_0 rfl rfl rfl ?_
  refine j_objInit (q := 4) C dX2_init_1 rfl kw_104 (Nat.le_of_ble_eq_true rfl) (by decide) ?_
  refine j_aload_n (q := 5) C dX2_init_4 rfl rfl rfl ?_
  refine j_bipush (v := nI 7) (q := 7) C dX2_init_5 rfl (by decide) ?_
  refine j_newa (q := 9) (K := 14) (t0 := 0) C dX2_init_7 rfl rfl kw_107 (by decide) (by decide) (by decide) (by decide) ?_
  refine jp_Judge_names (q := 12) C dX2_init_9 rfl (show (va_up Sh sz (14, 7) a).1 = 2 by rw [va_up_ne _ _ (show a ≠ sz by omega)]; exact hs) kw_105 rfl rfl ?_
  refine j_aload_n (q := 13) C dX2_init_12 rfl rfl rfl ?_
  refine j_bipush (v := nI 40) (q := 15) C dX2_init_13 rfl (by decide) ?_
  refine j_newa (q := 17) (K := 14) (t0 := 0) C dX2_init_15 rfl rfl kw_107 (by decide) (by decide) (by decide) (by decide) ?_
  refine jp_Judge_waiting (q := 20) C dX2_init_17 rfl (show (va_up (va_up Sh sz (14, 7)) (sz + 1) (14, 40) a).1 = 2 by rw [va_up_ne _ _ (show a ≠ sz + 1 by omega), va_up_ne _ _ (show a ≠ sz by omega)]; exact hs) kw_106 rfl rfl ?_
  exact j_vret C E dX2_init_20 rfl rfl (⟨rfl, rfl, rfl, rfl⟩)

set_option maxRecDepth 100000 in
set_option maxHeartbeats 4000000 in
theorem ctX4_init {G : jG} {sz : Nat} {Sh : jS} {M : jM} {a : Nat} (hs : (Sh a).1 = 4) (ha : a < sz) : jC G yX4_init cX4_init 1 (Option.none : Option FieldType) (jrm 2 2 20) sz Sh M [.ref a] (fun r sz2 Sh2 M2 => r = none ∧ sz2 = sz + 2 ∧ Sh2 = va_up (va_up Sh sz (14, 10)) (sz + 1) (13, 10) ∧ M2 = jsP (jz (jsP (jz M sz) a 0 (some sz)) (sz + 1)) a 1 (some (sz + 1))) := by
  refine jC_start (by decide +kernel) (Nat.le_of_ble_eq_true rfl) (fun X C E hN0 => ?_)
  refine j_aload_n (q := 1) C dX4_init_0 rfl rfl rfl ?_
  refine j_objInit (q := 4) C dX4_init_1 rfl kw_112 (Nat.le_of_ble_eq_true rfl) (by decide) ?_
  refine j_aload_n (q := 5) C dX4_init_4 rfl rfl rfl ?_
  refine j_bipush (v := nI 10) (q := 7) C dX4_init_5 rfl (by decide) ?_
  refine j_newa (q := 9) (K := 14) (t0 := 0) C dX4_init_7 rfl rfl kw_107 (by decide) (by decide) (by decide) (by decide) ?_
  refine jp_Market_asks (q := 12) C dX4_init_9 rfl (show (va_up Sh sz (14, 10) a).1 = 4 by rw [va_up_ne _ _ (show a ≠ sz by omega)]; exact hs) kw_113 rfl rfl ?_
  refine j_aload_n (q := 13) C dX4_init_12 rfl rfl rfl ?_
  refine j_bipush (v := nI 10) (q := 15) C dX4_init_13 rfl (by decide) ?_
  refine j_newa (q := 17) (K := 13) (t0 := 0) C dX4_init_15 rfl rfl kw_115 (by decide) (by decide) (by decide) (by decide) ?_
  refine jp_Market_offers (q := 20) C dX4_init_17 rfl (show (va_up (va_up Sh sz (14, 10)) (sz + 1) (13, 10) a).1 = 4 by rw [va_up_ne _ _ (show a ≠ sz + 1 by omega), va_up_ne _ _ (show a ≠ sz by omega)]; exact hs) kw_114 rfl rfl ?_
  exact j_vret C E dX4_init_20 rfl rfl (⟨rfl, rfl, rfl, rfl⟩)

set_option maxRecDepth 100000 in
set_option maxHeartbeats 4000000 in
theorem ctX5_init {G : jG} {sz : Nat} {Sh : jS} {M : jM} {a : Nat} : jC G yX5_init cX5_init 1 (Option.none : Option FieldType) (jrm 2 0 0) sz Sh M [.ref a] (jR none sz Sh M) := by
  refine jC_start (by decide +kernel) (Nat.le_of_ble_eq_true rfl) (fun X C E hN0 => ?_)
  refine j_aload_n (q := 1) C dX5_init_0 rfl rfl rfl ?_
  refine j_objInit (q := 4) C dX5_init_1 rfl kw_169 (Nat.le_of_ble_eq_true rfl) (by decide) ?_
  exact j_vret C E dX5_init_4 rfl rfl (jR_i)

set_option maxRecDepth 100000 in
set_option maxHeartbeats 4000000 in
theorem ctX6_init {G : jG} {sz : Nat} {Sh : jS} {M : jM} {a : Nat} : jC G yX6_init cX6_init 1 (Option.none : Option FieldType) (jrm 2 0 0) sz Sh M [.ref a] (jR none sz Sh M) := by
  refine jC_start (by decide +kernel) (Nat.le_of_ble_eq_true rfl) (fun X C E hN0 => ?_)
  refine j_aload_n (q := 1) C dX6_init_0 rfl rfl rfl ?_
  refine j_objInit (q := 4) C dX6_init_1 rfl kw_141 (Nat.le_of_ble_eq_true rfl) (by decide) ?_
  exact j_vret C E dX6_init_4 rfl rfl (jR_i)

