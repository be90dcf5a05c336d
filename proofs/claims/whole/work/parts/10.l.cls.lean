set_option maxRecDepth 100000 in
set_option maxHeartbeats 4000000 in
theorem ctX8_init {G : jG} {sz : Nat} {Sh : jS} {M : jM} {a : Nat} (hs : (Sh a).1 = 8) (ha : a < sz) : jC G yX8_init cX8_init 1 (Option.none : Option FieldType) (jrm 2 1 20) sz Sh M [.ref a] (fun r sz2 Sh2 M2 => r = none ∧ sz2 = sz + 1 ∧ Sh2 = va_up Sh sz (13, 20) ∧ M2 = jsP (jz M sz) a 0 (some sz)) := by
  refine jC_start (by decide +kernel) (Nat.le_of_ble_eq_true rfl) (fun X C E hN0 => ?_)
  refine j_aload_n (q := 1) C dX8_init_0 rfl rfl rfl ?_
  refine j_objInit (q := 4) C dX8_init_1 rfl kw_257 (Nat.le_of_ble_eq_true rfl) (by decide) ?_
  refine j_aload_n (q := 5) C dX8_init_4 rfl rfl rfl ?_
  refine j_bipush (v := nI 20) (q := 7) C dX8_init_5 rfl (by decide) ?_
  refine j_newa (q := 9) (K := 13) (t0 := 0) C dX8_init_7 rfl rfl kw_115 (by decide) (by decide) (by decide) (by decide) ?_
  refine jp_Sheet_numbers (q := 12) C dX8_init_9 rfl (show (va_up Sh sz (13, 20) a).1 = 8 by rw [va_up_ne _ _ (show a ≠ sz by omega)]; exact hs) kw_258 rfl rfl ?_
  exact j_vret C E dX8_init_12 rfl rfl (⟨rfl, rfl, rfl, rfl⟩)

set_option maxRecDepth 100000 in
set_option maxHeartbeats 4000000 in
theorem ctX7_init {G : jG} {sz : Nat} {Sh : jS} {M : jM} {a : Nat} (hs : (Sh a).1 = 7) (ha : a < sz) : jC G yX7_init cX7_init 1 (Option.none : Option FieldType) (jrm 2 2 320) sz Sh M [.ref a] (fun r sz2 Sh2 M2 => r = none ∧ sz2 = sz + 2 ∧ Sh2 = va_up (va_up Sh sz (12, 160)) (sz + 1) (13, 160) ∧ M2 = jsP (jz (jsP (jz M sz) a 0 (some sz)) (sz + 1)) a 1 (some (sz + 1))) := by
  refine jC_start (by decide +kernel) (Nat.le_of_ble_eq_true rfl) (fun X C E hN0 => ?_)
  refine j_aload_n (q := 1) C dX7_init_0 rfl rfl rfl ?_
  refine j_objInit (q := 4) C dX7_init_1 rfl kw_241 (Nat.le_of_ble_eq_true rfl) (by decide) ?_
  refine j_aload_n (q := 5) C dX7_init_4 rfl rfl rfl ?_
  refine j_sipush (v := nI 160) (q := 8) C dX7_init_5 rfl (by decide) ?_
  refine j_newa (q := 10) (K := 12) (t0 := 0) C dX7_init_8 rfl rfl kw_252 (by decide) (by decide) (by decide) (by decide) ?_
  refine jp_Reader_tape (q := 13) C dX7_init_10 rfl (show (va_up Sh sz (12, 160) a).1 = 7 by rw [va_up_ne _ _ (show a ≠ sz by omega)]; exact hs) kw_242 rfl rfl ?_
  refine j_aload_n (q := 14) C dX7_init_13 rfl rfl rfl ?_
  refine j_sipush (v := nI 160) (q := 17) C dX7_init_14 rfl (by decide) ?_
  refine j_newa (q := 19) (K := 13) (t0 := 0) C dX7_init_17 rfl rfl kw_115 (by decide) (by decide) (by decide) (by decide) ?_
  refine jp_Reader_steps (q := 22) C dX7_init_19 rfl (show (va_up (va_up Sh sz (12, 160)) (sz + 1) (13, 160) a).1 = 7 by rw [va_up_ne _ _ (show a ≠ sz + 1 by omega), va_up_ne _ _ (show a ≠ sz by omega)]; exact hs) kw_243 rfl rfl ?_
  exact j_vret C E dX7_init_22 rfl rfl (⟨rfl, rfl, rfl, rfl⟩)

