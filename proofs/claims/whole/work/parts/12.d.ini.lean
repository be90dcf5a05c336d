/-- an object's cell: its shape, its references, its numbers 0 -/
def obc (s : Nat) (p : Nat × Nat) (R : (Nat → Option Nat) → Prop) (S : jS) (M : jM) : Prop := S s = p ∧ R (M.2.2 s) ∧ M.1 s = (fun _ => 0) ∧ M.2.1 s = (fun _ => 0)
section OB
variable {s n a lo k : Nat} {p : Nat × Nat} {R : (Nat → Option Nat) → Prop} {S S1 : jS} {M M1 : jM} {v : Option Nat}
theorem obc.al (h : obc s p R S M) (e : alA lo n a S S1 M M1) (h1 : ¬ (lo ≤ s ∧ s < lo + n)) (h2 : s ≠ a) : obc s p R S1 M1 := by
  obtain ⟨a1, a2, a3, a4⟩ := e s h1
  obtain ⟨b1, b2, b3, b4⟩ := h
  exact ⟨a1.trans b1, by rw [a4 h2]; exact b2, a2.trans b3, a3.trans b4⟩
theorem obc.put (h : obc s p R S M) (h1 : s ≠ a) : obc s p R S (jsP M a k v) := ⟨h.1, by rw [show (jsP M a k v).2.2 s = M.2.2 s from jup_ne h1]; exact h.2.1, h.2.2⟩
theorem obc.skip {p2 : Nat × Nat} (h : obc s p R S M) (h1 : s ≠ a) : obc s p R (va_up S a p2) (jz M a) := by
  obtain ⟨b1, b2, b3, b4⟩ := h
  exact ⟨(va_up_ne _ _ h1).trans b1, by rw [show (jz M a).2.2 s = M.2.2 s by simp [jz, jrow, h1]]; exact b2, by simp [jz, jrow, h1, b3], by simp [jz, jrow, h1, b4]⟩
theorem ob (h : alA (s + 1) n s (va_up S s p) S1 (jz M s) M1) : alA s (n + 1) s S S1 M M1 := fun b hb => by
  obtain ⟨b1, b2, b3, b4⟩ := h b (by omega)
  have hne : ¬ b = s := by omega
  exact ⟨b1.trans (va_up_ne _ _ hne), by rw [b2]; simp [jz, jrow, hne], by rw [b3]; simp [jz, jrow, hne], fun e => by rw [b4 e]; simp [jz, jrow, hne]⟩
theorem ob_c (h : alA (s + 1) n s (va_up S s p) S1 (jz M s) M1) (hR : R (M1.2.2 s)) : obc s p R S1 M1 := by
  obtain ⟨b1, b2, b3, -⟩ := h s (by omega)
  exact ⟨by rw [b1, va_up_self], hR, by rw [b2]; simp [jz, jrow], by rw [b3]; simp [jz, jrow]⟩
theorem ob_0 : obc s p (fun _ => True) (va_up S s p) (jz M s) := ⟨va_up_self _ _ _, trivial, by simp [jz, jrow], by simp [jz, jrow]⟩
theorem obc.to {R2 : (Nat → Option Nat) → Prop} (h : obc s p R S M) (e : alA lo n s S S1 M M1) (h1 : ¬ (lo ≤ s ∧ s < lo + n)) (hR : R2 (M1.2.2 s)) : obc s p R2 S1 M1 := by
  obtain ⟨a1, a2, a3, -⟩ := e s h1
  exact ⟨a1.trans h.1, hR, a2.trans h.2.2.1, a3.trans h.2.2.2⟩
theorem two {p1 p2 : Nat × Nat} (ha : a < lo) : alA lo 2 a S (va_up (va_up S lo p1) (lo + 1) p2) M (jsP (jz (jsP (jz M lo) a 0 (some lo)) (lo + 1)) a 1 (some (lo + 1))) ∧ rg lo 2 (fun k => if k = 0 then p1 else p2) (fun _ _ => none) (va_up (va_up S lo p1) (lo + 1) p2) (jsP (jz (jsP (jz M lo) a 0 (some lo)) (lo + 1)) a 1 (some (lo + 1))) ∧ (jsP (jz (jsP (jz M lo) a 0 (some lo)) (lo + 1)) a 1 (some (lo + 1))).2.2 a 0 = some lo ∧ (jsP (jz (jsP (jz M lo) a 0 (some lo)) (lo + 1)) a 1 (some (lo + 1))).2.2 a 1 = some (lo + 1) := ⟨alA_put (alA_new (alA_put (alA_new (n := 0) alA_rf))), rg_put (rg_new (rg_put (rg_new (n := 0) rg_0 rfl rfl) (by omega)) rfl rfl) (by omega), by rw [jsP_o (by omega), jz_o (by omega), jsP_at], jsP_at⟩
def PS (lo : Nat) (k z : Nat) : Option Nat := if k % 2 = 0 ∧ z = 0 then some (lo + k + 1) else none
def FS (k : Nat) : Nat × Nat := if k % 2 = 0 then (8, 0) else (13, 20)
theorem rg_sh {i : Nat} (h : rg lo (2 * i) FS (PS lo) S M) : rg lo (2 * (i + 1)) FS (PS lo) (va_up (va_up S (lo + 2 * i) (8, 0)) (lo + 2 * i + 1) (13, 20)) (jsP (jz (jz M (lo + 2 * i)) (lo + 2 * i + 1)) (lo + 2 * i) 0 (some (lo + 2 * i + 1))) := fun z hz => by
  rcases Nat.lt_or_ge z (2 * i) with e | e
  · obtain ⟨a1, a2, a3, a4⟩ := h z e
    have n1 : ¬ lo + z = lo + 2 * i := by omega
    have n2 : ¬ lo + z = lo + 2 * i + 1 := by omega
    refine ⟨by rw [va_up_ne _ _ n2, va_up_ne _ _ n1]; exact a1, ?_, ?_, ?_⟩
    · rw [show (jsP (jz (jz M (lo + 2 * i)) (lo + 2 * i + 1)) (lo + 2 * i) 0 (some (lo + 2 * i + 1))).2.2 (lo + z) = (jz (jz M (lo + 2 * i)) (lo + 2 * i + 1)).2.2 (lo + z) from jup_ne n1, jz_o n2, jz_o n1]
      exact a2
    · simp [jsP, jz, jrow, n1, n2, a3]
    · simp [jsP, jz, jrow, n1, n2, a4]
  · rcases (show z = 2 * i ∨ z = 2 * i + 1 by omega) with rfl | rfl
    · refine ⟨by rw [va_up_ne _ _ (by omega), va_up_self]; unfold FS; rw [if_pos (by omega)], ?_, ?_, ?_⟩
      · funext j
        unfold PS
        by_cases cj : j = 0
        · subst cj; rw [jsP_at, if_pos ⟨by omega, rfl⟩]
        · rw [jsP_o (by omega), if_neg (by omega)]
          simp [jz, jrow]
      · simp [jsP, jz, jrow]
      · simp [jsP, jz, jrow]
    · rw [← Nat.add_assoc]
      refine ⟨by rw [va_up_self]; unfold FS; rw [if_neg (by omega)], ?_, ?_, ?_⟩
      · funext j
        unfold PS
        rw [jsP_o (by omega), if_neg (by omega)]
        simp [jz, jrow]
      · simp [jsP, jz, jrow]
      · simp [jsP, jz, jrow]
theorem alA_sh {i : Nat} (h : alA lo (2 * i) a S S1 M M1) : alA lo (2 * (i + 1)) a S (va_up (va_up S1 (lo + 2 * i) (8, 0)) (lo + 2 * i + 1) (13, 20)) M (jsP (jz (jz M1 (lo + 2 * i)) (lo + 2 * i + 1)) (lo + 2 * i) 0 (some (lo + 2 * i + 1))) := alA_in (r := 2 * i) (n := 2 * i + 1 + 1) (alA_new (alA_new h)) (by omega)
end OB
/-- what the class's constructor leaves: every run of cells -/
def XI (mm : Nat) (S : jS) (M : jM) : Prop := (S mm).1 = 10 ∧ (M.2.2 mm 0 = some (mm + 13) ∧ M.2.2 mm 1 = some (mm + 50) ∧ M.2.2 mm 2 = some (mm + 93) ∧ M.2.2 mm 3 = some (mm + 428) ∧ M.2.2 mm 4 = some (mm + 431)) ∧ obc (mm + 1) (2, 0) (fun f => f 0 = some (mm + 2) ∧ f 1 = some (mm + 3)) S M ∧ rg (mm + 2) 2 (fun k => if k = 0 then (14, 7) else (14, 40)) (fun _ _ => none) S M ∧ obc (mm + 4) (4, 0) (fun f => f 0 = some (mm + 5) ∧ f 1 = some (mm + 6)) S M ∧ rg (mm + 5) 2 (fun k => if k = 0 then (14, 10) else (13, 10)) (fun _ _ => none) S M ∧ obc (mm + 7) (3, 0) (fun f => f 0 = some (mm + 8) ∧ f 1 = some (mm + 9) ∧ f 2 = some (mm + 10) ∧ f 3 = some (mm + 11)) S M ∧ rg (mm + 8) 4 (fun k => if k = 0 then (15, 5) else if k = 1 then (15, 12) else (13, 12)) (fun _ _ => none) S M ∧ rg (mm + 12) 1 (fun _ => (14, 301)) (fun _ _ => none) S M ∧ obc (mm + 13) (9, 0) (fun f => ∀ j, j < 6 → f j = RA (mm + 14) (mm + 7) (mm + 12) (mm + 1) (mm + 4) j) S M ∧ rg (mm + 14) 36 FW (PW (mm + 14) 10 24) S M ∧ obc (mm + 51) (3, 0) (fun f => f 0 = some (mm + 52) ∧ f 1 = some (mm + 53) ∧ f 2 = some (mm + 54) ∧ f 3 = some (mm + 55)) S M ∧ rg (mm + 52) 4 (fun k => if k = 0 then (15, 5) else if k = 1 then (15, 12) else (13, 12)) (fun _ _ => none) S M ∧ rg (mm + 56) 1 (fun _ => (14, 301)) (fun _ _ => none) S M ∧ obc (mm + 50) (9, 0) (fun f => ∀ j, j < 6 → f j = RA (mm + 57) (mm + 51) (mm + 56) (mm + 1) (mm + 4) j) S M ∧ rg (mm + 57) 36 FW (PW (mm + 57) 10 24) S M ∧ obc (mm + 93) (0, 0) (fun f => f 0 = some (mm + 94)) S M ∧ rg (mm + 94) 334 FH (PH (mm + 94) (mm + 7) (mm + 12) (mm + 1) (mm + 4) 9) S M ∧ obc (mm + 428) (7, 0) (fun f => f 0 = some (mm + 429) ∧ f 1 = some (mm + 430)) S M ∧ rg (mm + 429) 2 (fun k => if k = 0 then (12, 160) else (13, 160)) (fun _ _ => none) S M ∧ obc (mm + 431) (18, 4) (fun f => ∀ j, j < 4 → f j = some (mm + 432 + 2 * j)) S M ∧ rg (mm + 432) 8 FS (PS (mm + 432)) S M
set_option maxRecDepth 100000 in
set_option maxHeartbeats 4000000 in
theorem ctX10_init {G : jG} {Sh : jS} {M : jM} {mm : Nat} (hsm : (Sh mm).1 = 10) : jC G yX10_init cX10_init 6 (Option.none : Option FieldType) (jrm 8 439 4658) (mm + 1) Sh M [.ref mm] (fun r sz2 Sh2 M2 => r = none ∧ sz2 = mm + 440 ∧ (∀ b, ¬ (mm ≤ b ∧ b < mm + 440) → Sh2 b = Sh b) ∧ ∃ Mk, M2 = jsL (jsL (jsI Mk mm 5 (nI 0)) mm 6 0) (mm + 12) 0 1 ∧ XI mm Sh2 Mk) := by
  refine jC_start (by decide +kernel) (Nat.le_of_ble_eq_true rfl) (fun X C E hN0 => ?_)
  have hout : ∀ b, ¬ (mm ≤ b ∧ b < mm + 440) → Sh b = Sh b := fun _ _ => rfl
  refine j_aload_n (q := 1) C dX10_init_0 rfl rfl rfl ?_
  refine j_objInit (q := 4) C dX10_init_1 rfl kw_97 (Nat.le_of_ble_eq_true rfl) (by decide) ?_
  refine j_new jc2 (q := 7) C dX10_init_4 rfl kw_100 kw_101 kw_72 (fun j hj => by rcases (show j = 0 ∨ j = 1 by omega) with rfl | rfl <;> rfl) (by decide) (by decide) ?_
  change jJ G X _ _ (mm + 2) _ _ _ _ _
  refine j_dup (q := 8) C dX10_init_7 rfl rfl ?_
  refine j_callI (q := 11) C dX10_init_8 rfl mX2_init (Or.inr (List.mem_of_getElem? (i := 0) rfl)) kw_102 rfl (ctX2_init (a := mm + 1) (by rw [va_up_self]) (by omega)) (As := []) (rest := [.ref (mm + 1)]) rfl rfl ⟨by decide, by decide⟩ (Nat.le_of_ble_eq_true rfl) (by decide) (fun r z S1 M1 hx => ?_)
  obtain ⟨rfl, ez, eS1, eM1⟩ := hx
  obtain rfl : z = mm + 4 := ez
  obtain ⟨q, g_j, x0, x1⟩ := two (S := va_up (Sh) (mm + 1) (2, 0)) (M := jz (M) (mm + 1)) (a := mm + 1) (lo := mm + 2) (p1 := (14, 7)) (p2 := (14, 40)) (by omega)
  replace q : alA (mm + 2) 2 (mm + 1) (va_up (Sh) (mm + 1) (2, 0)) S1 (jz (M) (mm + 1)) M1 := by rw [eS1, eM1]; exact q
  replace g_j : rg (mm + 2) 2 (fun k => if k = 0 then (14, 7) else (14, 40)) (fun _ _ => none) S1 M1 := by rw [eS1, eM1]; exact g_j
  replace x0 : M1.2.2 (mm + 1) 0 = some (mm + 2) := by rw [eM1]; exact x0
  replace x1 : M1.2.2 (mm + 1) 1 = some (mm + 3) := by rw [eM1]; exact x1
  clear eS1 eM1
  have qo := ob (s := mm + 1) q
  replace hsm := (congrArg Prod.fst (qo mm (by omega)).1).trans hsm
  replace hout := fun b hb => (qo b (by omega)).1.trans (hout b hb)
  have o_j : obc (mm + 1) (2, 0) (fun f => f 0 = some (mm + 2) ∧ f 1 = some (mm + 3)) S1 M1 := ob_c q ⟨x0, x1⟩
  clear q qo x0 x1
  refine j_astore_n (lv' := [(1, _), (0, _)]) (q := 12) C dX10_init_11 rfl rfl (by decide) rfl ?_
  refine j_new jc4 (q := 15) C dX10_init_12 rfl kw_108 kw_109 kw_73 (fun j hj => by rcases (show j = 0 ∨ j = 1 by omega) with rfl | rfl <;> rfl) (by decide) (by decide) ?_
  change jJ G X _ _ (mm + 5) _ _ _ _ _
  refine j_dup (q := 16) C dX10_init_15 rfl rfl ?_
  refine j_callI (q := 19) C dX10_init_16 rfl mX4_init (Or.inr (List.mem_of_getElem? (i := 1) rfl)) kw_110 rfl (ctX4_init (a := mm + 4) (by rw [va_up_self]) (by omega)) (As := []) (rest := [.ref (mm + 4)]) rfl rfl ⟨by decide, by decide⟩ (Nat.le_of_ble_eq_true rfl) (by decide) (fun r z S2 M2 hx => ?_)
  obtain ⟨rfl, ez, eS1, eM1⟩ := hx
  obtain rfl : z = mm + 7 := ez
  obtain ⟨q, g_m, x0, x1⟩ := two (S := va_up (S1) (mm + 4) (4, 0)) (M := jz (M1) (mm + 4)) (a := mm + 4) (lo := mm + 5) (p1 := (14, 10)) (p2 := (13, 10)) (by omega)
  replace q : alA (mm + 5) 2 (mm + 4) (va_up (S1) (mm + 4) (4, 0)) S2 (jz (M1) (mm + 4)) M2 := by rw [eS1, eM1]; exact q
  replace g_m : rg (mm + 5) 2 (fun k => if k = 0 then (14, 10) else (13, 10)) (fun _ _ => none) S2 M2 := by rw [eS1, eM1]; exact g_m
  replace x0 : M2.2.2 (mm + 4) 0 = some (mm + 5) := by rw [eM1]; exact x0
  replace x1 : M2.2.2 (mm + 4) 1 = some (mm + 6) := by rw [eM1]; exact x1
  clear eS1 eM1
  have qo := ob (s := mm + 4) q
  replace hsm := (congrArg Prod.fst (qo mm (by omega)).1).trans hsm
  replace hout := fun b hb => (qo b (by omega)).1.trans (hout b hb)
  replace o_j := o_j.al qo (by omega) (by omega)
  replace g_j := g_j.al qo (fun k hk => ⟨by omega, by omega⟩)
  have o_m : obc (mm + 4) (4, 0) (fun f => f 0 = some (mm + 5) ∧ f 1 = some (mm + 6)) S2 M2 := ob_c q ⟨x0, x1⟩
  clear q qo x0 x1
  refine j_astore_n (lv' := [(2, _), (1, _), (0, _)]) (q := 20) C dX10_init_19 rfl rfl (by decide) rfl ?_
  refine j_new jc3 (q := 23) C dX10_init_20 rfl kw_116 kw_117 kw_74 (fun j hj => by rcases (show j = 0 ∨ j = 1 ∨ j = 2 ∨ j = 3 ∨ j = 4 by omega) with rfl | rfl | rfl | rfl | rfl <;> rfl) (by decide) (by decide) ?_
  change jJ G X _ _ (mm + 8) _ _ _ _ _
  refine j_dup (q := 24) C dX10_init_23 rfl rfl ?_
  refine j_callI (q := 27) C dX10_init_24 rfl mX3_init (Or.inr (List.mem_of_getElem? (i := 2) rfl)) kw_118 rfl (ctX3_init (a := mm + 7) (by rw [va_up_self]) (by omega)) (As := []) (rest := [.ref (mm + 7)]) rfl rfl ⟨by decide, by decide⟩ (Nat.le_of_ble_eq_true rfl) (by decide) (fun r z S3 M3 hx => ?_)
  obtain ⟨rfl, ez, q, g_l, x0, x1, x2, x3⟩ := hx
  obtain rfl : z = mm + 12 := ez
  replace q : alA (mm + 8) 4 (mm + 7) (va_up (S2) (mm + 7) (3, 0)) S3 (jz (M2) (mm + 7)) M3 := q
  have qo := ob (s := mm + 7) q
  replace hsm := (congrArg Prod.fst (qo mm (by omega)).1).trans hsm
  replace hout := fun b hb => (qo b (by omega)).1.trans (hout b hb)
  replace o_j := o_j.al qo (by omega) (by omega)
  replace g_j := g_j.al qo (fun k hk => ⟨by omega, by omega⟩)
  replace o_m := o_m.al qo (by omega) (by omega)
  replace g_m := g_m.al qo (fun k hk => ⟨by omega, by omega⟩)
  have o_l : obc (mm + 7) (3, 0) (fun f => f 0 = some (mm + 8) ∧ f 1 = some (mm + 9) ∧ f 2 = some (mm + 10) ∧ f 3 = some (mm + 11)) S3 M3 := ob_c q ⟨x0, x1, x2, x3⟩
  clear q qo x0 x1 x2 x3
  refine j_astore_n (lv' := [(3, _), (2, _), (1, _), (0, _)]) (q := 28) C dX10_init_27 rfl rfl (by decide) rfl ?_
  refine j_sipush (v := nI 301) (q := 31) C dX10_init_28 rfl (by decide) ?_
  refine j_newa (n := 301) (q := 33) (K := 14) (t0 := 0) C dX10_init_31 rfl rfl kw_107 (by decide) (by decide) (by decide) (by decide) ?_
  change jJ G X _ _ (mm + 13) _ _ _ _ _
  have g_p : rg (mm + 12) 1 (fun _ => (14, 301)) (fun _ _ => none) (va_up (S3) (mm + 12) (14, 301)) (jz (M3) (mm + 12)) := rg_new (n := 0) rg_0 rfl rfl
  replace hsm := (congrArg Prod.fst (va_up_ne (S3) ((14, 301)) (show mm ≠ mm + 12 by omega))).trans hsm
  replace hout : ∀ b, ¬ (mm ≤ b ∧ b < mm + 440) → va_up (S3) (mm + 12) (14, 301) b = Sh b := fun b hb => (va_up_ne _ _ (by omega)).trans (hout b hb)
  replace o_j := o_j.skip (a := mm + 12) (p2 := (14, 301)) (by omega)
  replace g_j := rg_skip (s := mm + 12) (p := (14, 301)) g_j (by omega)
  replace o_m := o_m.skip (a := mm + 12) (p2 := (14, 301)) (by omega)
  replace g_m := rg_skip (s := mm + 12) (p := (14, 301)) g_m (by omega)
  replace o_l := o_l.skip (a := mm + 12) (p2 := (14, 301)) (by omega)
  replace g_l := rg_skip (s := mm + 12) (p := (14, 301)) g_l (by omega)
  refine j_astore (lv' := [(4, _), (3, _), (2, _), (1, _), (0, _)]) (q := 35) C dX10_init_33 rfl (by decide) rfl ?_
  refine j_aload_n (q := 36) C dX10_init_35 rfl rfl rfl ?_
  refine j_new jc9 (q := 39) C dX10_init_36 rfl kw_130 kw_131 kw_75 (fun j hj => by rcases (show j = 0 ∨ j = 1 ∨ j = 2 ∨ j = 3 ∨ j = 4 ∨ j = 5 ∨ j = 6 ∨ j = 7 ∨ j = 8 ∨ j = 9 ∨ j = 10 ∨ j = 11 by omega) with rfl | rfl | rfl | rfl | rfl | rfl | rfl | rfl | rfl | rfl | rfl | rfl <;> rfl) (by decide) (by decide) ?_
  change jJ G X _ _ (mm + 14) _ _ _ _ _
  refine j_dup (q := 40) C dX10_init_39 rfl rfl ?_
  refine j_aload_n (q := 41) C dX10_init_40 rfl rfl rfl ?_
  refine j_aload (q := 43) C dX10_init_41 rfl rfl ?_
  refine j_aload_n (q := 44) C dX10_init_43 rfl rfl rfl ?_
  refine j_aload_n (q := 45) C dX10_init_44 rfl rfl rfl ?_
  refine j_callI (q := 48) C dX10_init_45 rfl mX9_init (Or.inl kw_132) kw_133 rfl (ctX9_init (a := mm + 13) (by rw [va_up_self]) (by omega)) (As := [.ref (mm + 7), .ref (mm + 12), .ref (mm + 1), .ref (mm + 4)]) (rest := [.ref (mm + 13), .ref mm]) rfl rfl ⟨by decide, by decide⟩ (Nat.le_of_ble_eq_true rfl) (by decide) (fun r z S4 M4 hx => ?_)
  obtain ⟨rfl, ez, q, g_w, x0⟩ := hx
  obtain rfl : z = mm + 50 := ez
  replace q : alA (mm + 14) 36 (mm + 13) (va_up (va_up (S3) (mm + 12) (14, 301)) (mm + 13) (9, 0)) S4 (jz (jz (M3) (mm + 12)) (mm + 13)) M4 := q
  have qo := ob (s := mm + 13) q
  replace hsm := (congrArg Prod.fst (qo mm (by omega)).1).trans hsm
  replace hout := fun b hb => (qo b (by omega)).1.trans (hout b hb)
  replace o_j := o_j.al qo (by omega) (by omega)
  replace g_j := g_j.al qo (fun k hk => ⟨by omega, by omega⟩)
  replace o_m := o_m.al qo (by omega) (by omega)
  replace g_m := g_m.al qo (fun k hk => ⟨by omega, by omega⟩)
  replace o_l := o_l.al qo (by omega) (by omega)
  replace g_l := g_l.al qo (fun k hk => ⟨by omega, by omega⟩)
  replace g_p := g_p.al qo (fun k hk => ⟨by omega, by omega⟩)
  have o_w : obc (mm + 13) (9, 0) (fun f => ∀ j, j < 6 → f j = RA (mm + 14) (mm + 7) (mm + 12) (mm + 1) (mm + 4) j) S4 M4 := ob_c q (fun j hj => by rw [x0, if_pos hj])
  clear q qo x0
  refine jp_MM_now (q := 51) C dX10_init_48 rfl hsm kw_266 rfl rfl ?_
  replace o_j := o_j.put (a := mm) (k := 0) (v := some (mm + 13)) (by omega)
  replace g_j := rg_put (a := mm) (k := 0) (v := some (mm + 13)) g_j (by omega)
  replace o_m := o_m.put (a := mm) (k := 0) (v := some (mm + 13)) (by omega)
  replace g_m := rg_put (a := mm) (k := 0) (v := some (mm + 13)) g_m (by omega)
  replace o_l := o_l.put (a := mm) (k := 0) (v := some (mm + 13)) (by omega)
  replace g_l := rg_put (a := mm) (k := 0) (v := some (mm + 13)) g_l (by omega)
  replace g_p := rg_put (a := mm) (k := 0) (v := some (mm + 13)) g_p (by omega)
  replace o_w := o_w.put (a := mm) (k := 0) (v := some (mm + 13)) (by omega)
  replace g_w := rg_put (a := mm) (k := 0) (v := some (mm + 13)) g_w (by omega)
  have hm0 : (jsP (M4) mm 0 (some (mm + 13))).2.2 mm 0 = some (mm + 13) := jsP_at
  refine j_aload_n (q := 52) C dX10_init_51 rfl rfl rfl ?_
  refine j_new jc9 (q := 55) C dX10_init_52 rfl kw_130 kw_131 kw_75 (fun j hj => by rcases (show j = 0 ∨ j = 1 ∨ j = 2 ∨ j = 3 ∨ j = 4 ∨ j = 5 ∨ j = 6 ∨ j = 7 ∨ j = 8 ∨ j = 9 ∨ j = 10 ∨ j = 11 by omega) with rfl | rfl | rfl | rfl | rfl | rfl | rfl | rfl | rfl | rfl | rfl | rfl <;> rfl) (by decide) (by decide) ?_
  change jJ G X _ _ (mm + 51) _ _ _ _ _
  have o_k : obc (mm + 50) (9, 0) (fun _ => True) (va_up (S4) (mm + 50) (9, 0)) (jz (jsP (M4) mm 0 (some (mm + 13))) (mm + 50)) := ob_0
  replace hsm := (congrArg Prod.fst (va_up_ne (S4) ((9, 0)) (show mm ≠ mm + 50 by omega))).trans hsm
  replace hm0 : (jz (jsP (M4) mm 0 (some (mm + 13))) (mm + 50)).2.2 mm 0 = _ := (congrFun (jz_o (show mm ≠ mm + 50 by omega)) 0).trans hm0
  replace hout : ∀ b, ¬ (mm ≤ b ∧ b < mm + 440) → va_up (S4) (mm + 50) (9, 0) b = Sh b := fun b hb => (va_up_ne _ _ (by omega)).trans (hout b hb)
  replace o_j := o_j.skip (a := mm + 50) (p2 := (9, 0)) (by omega)
  replace g_j := rg_skip (s := mm + 50) (p := (9, 0)) g_j (by omega)
  replace o_m := o_m.skip (a := mm + 50) (p2 := (9, 0)) (by omega)
  replace g_m := rg_skip (s := mm + 50) (p := (9, 0)) g_m (by omega)
  replace o_l := o_l.skip (a := mm + 50) (p2 := (9, 0)) (by omega)
  replace g_l := rg_skip (s := mm + 50) (p := (9, 0)) g_l (by omega)
  replace g_p := rg_skip (s := mm + 50) (p := (9, 0)) g_p (by omega)
  replace o_w := o_w.skip (a := mm + 50) (p2 := (9, 0)) (by omega)
  replace g_w := rg_skip (s := mm + 50) (p := (9, 0)) g_w (by omega)
  refine j_dup (q := 56) C dX10_init_55 rfl rfl ?_
  refine j_new jc3 (q := 59) C dX10_init_56 rfl kw_116 kw_117 kw_74 (fun j hj => by rcases (show j = 0 ∨ j = 1 ∨ j = 2 ∨ j = 3 ∨ j = 4 by omega) with rfl | rfl | rfl | rfl | rfl <;> rfl) (by decide) (by decide) ?_
  change jJ G X _ _ (mm + 52) _ _ _ _ _
  refine j_dup (q := 60) C dX10_init_59 rfl rfl ?_
  refine j_callI (q := 63) C dX10_init_60 rfl mX3_init (Or.inr (List.mem_of_getElem? (i := 2) rfl)) kw_118 rfl (ctX3_init (a := mm + 51) (by rw [va_up_self]) (by omega)) (As := []) (rest := [.ref (mm + 51), .ref (mm + 50), .ref (mm + 50), .ref mm]) rfl rfl ⟨by decide, by decide⟩ (Nat.le_of_ble_eq_true rfl) (by decide) (fun r z S5 M5 hx => ?_)
  obtain ⟨rfl, ez, q, g_l1, x0, x1, x2, x3⟩ := hx
  obtain rfl : z = mm + 56 := ez
  replace q : alA (mm + 52) 4 (mm + 51) (va_up (va_up (S4) (mm + 50) (9, 0)) (mm + 51) (3, 0)) S5 (jz (jz (jsP (M4) mm 0 (some (mm + 13))) (mm + 50)) (mm + 51)) M5 := q
  have qo := ob (s := mm + 51) q
  replace hsm := (congrArg Prod.fst (qo mm (by omega)).1).trans hsm
  replace hm0 := (congrFun ((qo mm (by omega)).2.2.2 (by omega)) 0).trans hm0
  replace hout := fun b hb => (qo b (by omega)).1.trans (hout b hb)
  replace o_j := o_j.al qo (by omega) (by omega)
  replace g_j := g_j.al qo (fun k hk => ⟨by omega, by omega⟩)
  replace o_m := o_m.al qo (by omega) (by omega)
  replace g_m := g_m.al qo (fun k hk => ⟨by omega, by omega⟩)
  replace o_l := o_l.al qo (by omega) (by omega)
  replace g_l := g_l.al qo (fun k hk => ⟨by omega, by omega⟩)
  replace g_p := g_p.al qo (fun k hk => ⟨by omega, by omega⟩)
  replace o_w := o_w.al qo (by omega) (by omega)
  replace g_w := g_w.al qo (fun k hk => ⟨by omega, by omega⟩)
  replace o_k := o_k.al qo (by omega) (by omega)
  have o_l1 : obc (mm + 51) (3, 0) (fun f => f 0 = some (mm + 52) ∧ f 1 = some (mm + 53) ∧ f 2 = some (mm + 54) ∧ f 3 = some (mm + 55)) S5 M5 := ob_c q ⟨x0, x1, x2, x3⟩
  clear q qo x0 x1 x2 x3
  refine j_sipush (v := nI 301) (q := 66) C dX10_init_63 rfl (by decide) ?_
  refine j_newa (n := 301) (q := 68) (K := 14) (t0 := 0) C dX10_init_66 rfl rfl kw_107 (by decide) (by decide) (by decide) (by decide) ?_
  change jJ G X _ _ (mm + 57) _ _ _ _ _
  have g_p1 : rg (mm + 56) 1 (fun _ => (14, 301)) (fun _ _ => none) (va_up (S5) (mm + 56) (14, 301)) (jz (M5) (mm + 56)) := rg_new (n := 0) rg_0 rfl rfl
  replace hsm := (congrArg Prod.fst (va_up_ne (S5) ((14, 301)) (show mm ≠ mm + 56 by omega))).trans hsm
  replace hm0 : (jz (M5) (mm + 56)).2.2 mm 0 = _ := (congrFun (jz_o (show mm ≠ mm + 56 by omega)) 0).trans hm0
  replace hout : ∀ b, ¬ (mm ≤ b ∧ b < mm + 440) → va_up (S5) (mm + 56) (14, 301) b = Sh b := fun b hb => (va_up_ne _ _ (by omega)).trans (hout b hb)
  replace o_j := o_j.skip (a := mm + 56) (p2 := (14, 301)) (by omega)
  replace g_j := rg_skip (s := mm + 56) (p := (14, 301)) g_j (by omega)
  replace o_m := o_m.skip (a := mm + 56) (p2 := (14, 301)) (by omega)
  replace g_m := rg_skip (s := mm + 56) (p := (14, 301)) g_m (by omega)
  replace o_l := o_l.skip (a := mm + 56) (p2 := (14, 301)) (by omega)
  replace g_l := rg_skip (s := mm + 56) (p := (14, 301)) g_l (by omega)
  replace g_p := rg_skip (s := mm + 56) (p := (14, 301)) g_p (by omega)
  replace o_w := o_w.skip (a := mm + 56) (p2 := (14, 301)) (by omega)
  replace g_w := rg_skip (s := mm + 56) (p := (14, 301)) g_w (by omega)
  replace o_k := o_k.skip (a := mm + 56) (p2 := (14, 301)) (by omega)
  replace o_l1 := o_l1.skip (a := mm + 56) (p2 := (14, 301)) (by omega)
  replace g_l1 := rg_skip (s := mm + 56) (p := (14, 301)) g_l1 (by omega)
  refine j_aload_n (q := 69) C dX10_init_68 rfl rfl rfl ?_
  refine j_aload_n (q := 70) C dX10_init_69 rfl rfl rfl ?_
  refine j_callI (q := 73) C dX10_init_70 rfl mX9_init (Or.inl kw_132) kw_133 rfl (ctX9_init (a := mm + 50) (congrArg Prod.fst o_k.1) (by omega)) (As := [.ref (mm + 51), .ref (mm + 56), .ref (mm + 1), .ref (mm + 4)]) (rest := [.ref (mm + 50), .ref mm]) rfl rfl ⟨by decide, by decide⟩ (Nat.le_of_ble_eq_true rfl) (by decide) (fun r z S6 M6 hx => ?_)
  obtain ⟨rfl, ez, q, g_w1, x0⟩ := hx
  obtain rfl : z = mm + 93 := ez
  replace q : alA (mm + 57) 36 (mm + 50) (va_up (S5) (mm + 56) (14, 301)) S6 (jz (M5) (mm + 56)) M6 := q
  replace hsm := (congrArg Prod.fst (q mm (by omega)).1).trans hsm
  replace hm0 := (congrFun ((q mm (by omega)).2.2.2 (by omega)) 0).trans hm0
  replace hout := fun b hb => (q b (by omega)).1.trans (hout b hb)
  replace o_j := o_j.al q (by omega) (by omega)
  replace g_j := g_j.al q (fun k hk => ⟨by omega, by omega⟩)
  replace o_m := o_m.al q (by omega) (by omega)
  replace g_m := g_m.al q (fun k hk => ⟨by omega, by omega⟩)
  replace o_l := o_l.al q (by omega) (by omega)
  replace g_l := g_l.al q (fun k hk => ⟨by omega, by omega⟩)
  replace g_p := g_p.al q (fun k hk => ⟨by omega, by omega⟩)
  replace o_w := o_w.al q (by omega) (by omega)
  replace g_w := g_w.al q (fun k hk => ⟨by omega, by omega⟩)
  replace o_l1 := o_l1.al q (by omega) (by omega)
  replace g_l1 := g_l1.al q (fun k hk => ⟨by omega, by omega⟩)
  replace g_p1 := g_p1.al q (fun k hk => ⟨by omega, by omega⟩)
  have o_w1 : obc (mm + 50) (9, 0) (fun f => ∀ j, j < 6 → f j = RA (mm + 57) (mm + 51) (mm + 56) (mm + 1) (mm + 4) j) S6 M6 := o_k.to q (by omega) (fun j hj => by rw [x0, if_pos hj])
  clear q x0 o_k
  refine jp_MM_kept (q := 76) C dX10_init_73 rfl hsm kw_267 rfl rfl ?_
  replace hm0 : (jsP (M6) mm 1 (some (mm + 50))).2.2 mm 0 = _ := (jsP_o (by omega)).trans hm0
  replace o_j := o_j.put (a := mm) (k := 1) (v := some (mm + 50)) (by omega)
  replace g_j := rg_put (a := mm) (k := 1) (v := some (mm + 50)) g_j (by omega)
  replace o_m := o_m.put (a := mm) (k := 1) (v := some (mm + 50)) (by omega)
  replace g_m := rg_put (a := mm) (k := 1) (v := some (mm + 50)) g_m (by omega)
  replace o_l := o_l.put (a := mm) (k := 1) (v := some (mm + 50)) (by omega)
  replace g_l := rg_put (a := mm) (k := 1) (v := some (mm + 50)) g_l (by omega)
  replace g_p := rg_put (a := mm) (k := 1) (v := some (mm + 50)) g_p (by omega)
  replace o_w := o_w.put (a := mm) (k := 1) (v := some (mm + 50)) (by omega)
  replace g_w := rg_put (a := mm) (k := 1) (v := some (mm + 50)) g_w (by omega)
  replace o_l1 := o_l1.put (a := mm) (k := 1) (v := some (mm + 50)) (by omega)
  replace g_l1 := rg_put (a := mm) (k := 1) (v := some (mm + 50)) g_l1 (by omega)
  replace g_p1 := rg_put (a := mm) (k := 1) (v := some (mm + 50)) g_p1 (by omega)
  replace o_w1 := o_w1.put (a := mm) (k := 1) (v := some (mm + 50)) (by omega)
  replace g_w1 := rg_put (a := mm) (k := 1) (v := some (mm + 50)) g_w1 (by omega)
  have hm1 : (jsP (M6) mm 1 (some (mm + 50))).2.2 mm 1 = some (mm + 50) := jsP_at
  refine j_aload_n (q := 77) C dX10_init_76 rfl rfl rfl ?_
  refine j_new jc0 (q := 80) C dX10_init_77 rfl kw_220 kw_221 kw_78 (fun j hj => by rcases (show j = 0 ∨ j = 1 ∨ j = 2 ∨ j = 3 ∨ j = 4 ∨ j = 5 by omega) with rfl | rfl | rfl | rfl | rfl | rfl <;> rfl) (by decide) (by decide) ?_
  change jJ G X _ _ (mm + 94) _ _ _ _ _
  refine j_dup (q := 81) C dX10_init_80 rfl rfl ?_
  refine j_aload_n (q := 82) C dX10_init_81 rfl rfl rfl ?_
  refine j_aload (q := 84) C dX10_init_82 rfl rfl ?_
  refine j_aload_n (q := 85) C dX10_init_84 rfl rfl rfl ?_
  refine j_aload_n (q := 86) C dX10_init_85 rfl rfl rfl ?_
  refine j_callI (q := 89) C dX10_init_86 rfl mX0_init (Or.inl kw_222) kw_223 rfl (ctX0_init (a := mm + 93) (by rw [va_up_self]) (by omega)) (As := [.ref (mm + 7), .ref (mm + 12), .ref (mm + 1), .ref (mm + 4)]) (rest := [.ref (mm + 93), .ref mm]) rfl rfl ⟨by decide, by decide⟩ (Nat.le_of_ble_eq_true rfl) (by decide) (fun r z S7 M7 hx => ?_)
  obtain ⟨rfl, ez, q, g_h, x0, -⟩ := hx
  obtain rfl : z = mm + 428 := ez
  replace q : alA (mm + 94) 334 (mm + 93) (va_up (S6) (mm + 93) (0, 0)) S7 (jz (jsP (M6) mm 1 (some (mm + 50))) (mm + 93)) M7 := q
  have qo := ob (s := mm + 93) q
  replace hsm := (congrArg Prod.fst (qo mm (by omega)).1).trans hsm
  replace hm0 := (congrFun ((qo mm (by omega)).2.2.2 (by omega)) 0).trans hm0
  replace hm1 := (congrFun ((qo mm (by omega)).2.2.2 (by omega)) 1).trans hm1
  replace hout := fun b hb => (qo b (by omega)).1.trans (hout b hb)
  replace o_j := o_j.al qo (by omega) (by omega)
  replace g_j := g_j.al qo (fun k hk => ⟨by omega, by omega⟩)
  replace o_m := o_m.al qo (by omega) (by omega)
  replace g_m := g_m.al qo (fun k hk => ⟨by omega, by omega⟩)
  replace o_l := o_l.al qo (by omega) (by omega)
  replace g_l := g_l.al qo (fun k hk => ⟨by omega, by omega⟩)
  replace g_p := g_p.al qo (fun k hk => ⟨by omega, by omega⟩)
  replace o_w := o_w.al qo (by omega) (by omega)
  replace g_w := g_w.al qo (fun k hk => ⟨by omega, by omega⟩)
  replace o_l1 := o_l1.al qo (by omega) (by omega)
  replace g_l1 := g_l1.al qo (fun k hk => ⟨by omega, by omega⟩)
  replace g_p1 := g_p1.al qo (fun k hk => ⟨by omega, by omega⟩)
  replace o_w1 := o_w1.al qo (by omega) (by omega)
  replace g_w1 := g_w1.al qo (fun k hk => ⟨by omega, by omega⟩)
  have o_h : obc (mm + 93) (0, 0) (fun f => f 0 = some (mm + 94)) S7 M7 := ob_c q x0
  clear q qo x0
  refine jp_MM_lookout (q := 92) C dX10_init_89 rfl hsm kw_268 rfl rfl ?_
  replace hm0 : (jsP (M7) mm 2 (some (mm + 93))).2.2 mm 0 = _ := (jsP_o (by omega)).trans hm0
  replace hm1 : (jsP (M7) mm 2 (some (mm + 93))).2.2 mm 1 = _ := (jsP_o (by omega)).trans hm1
  replace o_j := o_j.put (a := mm) (k := 2) (v := some (mm + 93)) (by omega)
  replace g_j := rg_put (a := mm) (k := 2) (v := some (mm + 93)) g_j (by omega)
  replace o_m := o_m.put (a := mm) (k := 2) (v := some (mm + 93)) (by omega)
  replace g_m := rg_put (a := mm) (k := 2) (v := some (mm + 93)) g_m (by omega)
  replace o_l := o_l.put (a := mm) (k := 2) (v := some (mm + 93)) (by omega)
  replace g_l := rg_put (a := mm) (k := 2) (v := some (mm + 93)) g_l (by omega)
  replace g_p := rg_put (a := mm) (k := 2) (v := some (mm + 93)) g_p (by omega)
  replace o_w := o_w.put (a := mm) (k := 2) (v := some (mm + 93)) (by omega)
  replace g_w := rg_put (a := mm) (k := 2) (v := some (mm + 93)) g_w (by omega)
  replace o_l1 := o_l1.put (a := mm) (k := 2) (v := some (mm + 93)) (by omega)
  replace g_l1 := rg_put (a := mm) (k := 2) (v := some (mm + 93)) g_l1 (by omega)
  replace g_p1 := rg_put (a := mm) (k := 2) (v := some (mm + 93)) g_p1 (by omega)
  replace o_w1 := o_w1.put (a := mm) (k := 2) (v := some (mm + 93)) (by omega)
  replace g_w1 := rg_put (a := mm) (k := 2) (v := some (mm + 93)) g_w1 (by omega)
  replace o_h := o_h.put (a := mm) (k := 2) (v := some (mm + 93)) (by omega)
  replace g_h := rg_put (a := mm) (k := 2) (v := some (mm + 93)) g_h (by omega)
  have hm2 : (jsP (M7) mm 2 (some (mm + 93))).2.2 mm 2 = some (mm + 93) := jsP_at
  refine j_aload_n (q := 93) C dX10_init_92 rfl rfl rfl ?_
  refine j_new jc7 (q := 96) C dX10_init_93 rfl kw_237 kw_238 kw_79 (fun j hj => by rcases (show j = 0 ∨ j = 1 ∨ j = 2 ∨ j = 3 ∨ j = 4 ∨ j = 5 ∨ j = 6 ∨ j = 7 by omega) with rfl | rfl | rfl | rfl | rfl | rfl | rfl | rfl <;> rfl) (by decide) (by decide) ?_
  change jJ G X _ _ (mm + 429) _ _ _ _ _
  refine j_dup (q := 97) C dX10_init_96 rfl rfl ?_
  refine j_callI (q := 100) C dX10_init_97 rfl mX7_init (Or.inr (List.mem_of_getElem? (i := 5) rfl)) kw_239 rfl (ctX7_init (a := mm + 428) (by rw [va_up_self]) (by omega)) (As := []) (rest := [.ref (mm + 428), .ref mm]) rfl rfl ⟨by decide, by decide⟩ (Nat.le_of_ble_eq_true rfl) (by decide) (fun r z S8 M8 hx => ?_)
  obtain ⟨rfl, ez, eS1, eM1⟩ := hx
  obtain rfl : z = mm + 431 := ez
  obtain ⟨q, g_r, x0, x1⟩ := two (S := va_up (S7) (mm + 428) (7, 0)) (M := jz (jsP (M7) mm 2 (some (mm + 93))) (mm + 428)) (a := mm + 428) (lo := mm + 429) (p1 := (12, 160)) (p2 := (13, 160)) (by omega)
  replace q : alA (mm + 429) 2 (mm + 428) (va_up (S7) (mm + 428) (7, 0)) S8 (jz (jsP (M7) mm 2 (some (mm + 93))) (mm + 428)) M8 := by rw [eS1, eM1]; exact q
  replace g_r : rg (mm + 429) 2 (fun k => if k = 0 then (12, 160) else (13, 160)) (fun _ _ => none) S8 M8 := by rw [eS1, eM1]; exact g_r
  replace x0 : M8.2.2 (mm + 428) 0 = some (mm + 429) := by rw [eM1]; exact x0
  replace x1 : M8.2.2 (mm + 428) 1 = some (mm + 430) := by rw [eM1]; exact x1
  clear eS1 eM1
  have qo := ob (s := mm + 428) q
  replace hsm := (congrArg Prod.fst (qo mm (by omega)).1).trans hsm
  replace hm0 := (congrFun ((qo mm (by omega)).2.2.2 (by omega)) 0).trans hm0
  replace hm1 := (congrFun ((qo mm (by omega)).2.2.2 (by omega)) 1).trans hm1
  replace hm2 := (congrFun ((qo mm (by omega)).2.2.2 (by omega)) 2).trans hm2
  replace hout := fun b hb => (qo b (by omega)).1.trans (hout b hb)
  replace o_j := o_j.al qo (by omega) (by omega)
  replace g_j := g_j.al qo (fun k hk => ⟨by omega, by omega⟩)
  replace o_m := o_m.al qo (by omega) (by omega)
  replace g_m := g_m.al qo (fun k hk => ⟨by omega, by omega⟩)
  replace o_l := o_l.al qo (by omega) (by omega)
  replace g_l := g_l.al qo (fun k hk => ⟨by omega, by omega⟩)
  replace g_p := g_p.al qo (fun k hk => ⟨by omega, by omega⟩)
  replace o_w := o_w.al qo (by omega) (by omega)
  replace g_w := g_w.al qo (fun k hk => ⟨by omega, by omega⟩)
  replace o_l1 := o_l1.al qo (by omega) (by omega)
  replace g_l1 := g_l1.al qo (fun k hk => ⟨by omega, by omega⟩)
  replace g_p1 := g_p1.al qo (fun k hk => ⟨by omega, by omega⟩)
  replace o_w1 := o_w1.al qo (by omega) (by omega)
  replace g_w1 := g_w1.al qo (fun k hk => ⟨by omega, by omega⟩)
  replace o_h := o_h.al qo (by omega) (by omega)
  replace g_h := g_h.al qo (fun k hk => ⟨by omega, by omega⟩)
  have o_r : obc (mm + 428) (7, 0) (fun f => f 0 = some (mm + 429) ∧ f 1 = some (mm + 430)) S8 M8 := ob_c q ⟨x0, x1⟩
  clear q qo x0 x1
  refine jp_MM_reader (q := 103) C dX10_init_100 rfl hsm kw_269 rfl rfl ?_
  replace hm0 : (jsP (M8) mm 3 (some (mm + 428))).2.2 mm 0 = _ := (jsP_o (by omega)).trans hm0
  replace hm1 : (jsP (M8) mm 3 (some (mm + 428))).2.2 mm 1 = _ := (jsP_o (by omega)).trans hm1
  replace hm2 : (jsP (M8) mm 3 (some (mm + 428))).2.2 mm 2 = _ := (jsP_o (by omega)).trans hm2
  replace o_j := o_j.put (a := mm) (k := 3) (v := some (mm + 428)) (by omega)
  replace g_j := rg_put (a := mm) (k := 3) (v := some (mm + 428)) g_j (by omega)
  replace o_m := o_m.put (a := mm) (k := 3) (v := some (mm + 428)) (by omega)
  replace g_m := rg_put (a := mm) (k := 3) (v := some (mm + 428)) g_m (by omega)
  replace o_l := o_l.put (a := mm) (k := 3) (v := some (mm + 428)) (by omega)
  replace g_l := rg_put (a := mm) (k := 3) (v := some (mm + 428)) g_l (by omega)
  replace g_p := rg_put (a := mm) (k := 3) (v := some (mm + 428)) g_p (by omega)
  replace o_w := o_w.put (a := mm) (k := 3) (v := some (mm + 428)) (by omega)
  replace g_w := rg_put (a := mm) (k := 3) (v := some (mm + 428)) g_w (by omega)
  replace o_l1 := o_l1.put (a := mm) (k := 3) (v := some (mm + 428)) (by omega)
  replace g_l1 := rg_put (a := mm) (k := 3) (v := some (mm + 428)) g_l1 (by omega)
  replace g_p1 := rg_put (a := mm) (k := 3) (v := some (mm + 428)) g_p1 (by omega)
  replace o_w1 := o_w1.put (a := mm) (k := 3) (v := some (mm + 428)) (by omega)
  replace g_w1 := rg_put (a := mm) (k := 3) (v := some (mm + 428)) g_w1 (by omega)
  replace o_h := o_h.put (a := mm) (k := 3) (v := some (mm + 428)) (by omega)
  replace g_h := rg_put (a := mm) (k := 3) (v := some (mm + 428)) g_h (by omega)
  replace o_r := o_r.put (a := mm) (k := 3) (v := some (mm + 428)) (by omega)
  replace g_r := rg_put (a := mm) (k := 3) (v := some (mm + 428)) g_r (by omega)
  have hm3 : (jsP (M8) mm 3 (some (mm + 428))).2.2 mm 3 = some (mm + 428) := jsP_at
  refine j_aload_n (q := 104) C dX10_init_103 rfl rfl rfl ?_
  refine j_iconst (v := nI 4) (q := 105) C dX10_init_104 rfl (by decide) ?_
  refine j_anew (K := 18) (t0 := 6) (n := 4) (q := 108) C dX10_init_105 rfl kw_253 C.2.2.2.2.2.2.2.2.1.2.2.2.2.2.2.2.2.2.2.2.1 (by decide) rfl (by decide) (by decide) (by decide) ?_
  change jJ G X _ _ (mm + 432) _ _ _ _ _
  have o_s : obc (mm + 431) (18, 4) (fun _ => True) (va_up (S8) (mm + 431) (18, 4)) (jz (jsP (M8) mm 3 (some (mm + 428))) (mm + 431)) := ob_0
  replace hsm := (congrArg Prod.fst (va_up_ne (S8) ((18, 4)) (show mm ≠ mm + 431 by omega))).trans hsm
  replace hm0 : (jz (jsP (M8) mm 3 (some (mm + 428))) (mm + 431)).2.2 mm 0 = _ := (congrFun (jz_o (show mm ≠ mm + 431 by omega)) 0).trans hm0
  replace hm1 : (jz (jsP (M8) mm 3 (some (mm + 428))) (mm + 431)).2.2 mm 1 = _ := (congrFun (jz_o (show mm ≠ mm + 431 by omega)) 1).trans hm1
  replace hm2 : (jz (jsP (M8) mm 3 (some (mm + 428))) (mm + 431)).2.2 mm 2 = _ := (congrFun (jz_o (show mm ≠ mm + 431 by omega)) 2).trans hm2
  replace hm3 : (jz (jsP (M8) mm 3 (some (mm + 428))) (mm + 431)).2.2 mm 3 = _ := (congrFun (jz_o (show mm ≠ mm + 431 by omega)) 3).trans hm3
  replace hout : ∀ b, ¬ (mm ≤ b ∧ b < mm + 440) → va_up (S8) (mm + 431) (18, 4) b = Sh b := fun b hb => (va_up_ne _ _ (by omega)).trans (hout b hb)
  replace o_j := o_j.skip (a := mm + 431) (p2 := (18, 4)) (by omega)
  replace g_j := rg_skip (s := mm + 431) (p := (18, 4)) g_j (by omega)
  replace o_m := o_m.skip (a := mm + 431) (p2 := (18, 4)) (by omega)
  replace g_m := rg_skip (s := mm + 431) (p := (18, 4)) g_m (by omega)
  replace o_l := o_l.skip (a := mm + 431) (p2 := (18, 4)) (by omega)
  replace g_l := rg_skip (s := mm + 431) (p := (18, 4)) g_l (by omega)
  replace g_p := rg_skip (s := mm + 431) (p := (18, 4)) g_p (by omega)
  replace o_w := o_w.skip (a := mm + 431) (p2 := (18, 4)) (by omega)
  replace g_w := rg_skip (s := mm + 431) (p := (18, 4)) g_w (by omega)
  replace o_l1 := o_l1.skip (a := mm + 431) (p2 := (18, 4)) (by omega)
  replace g_l1 := rg_skip (s := mm + 431) (p := (18, 4)) g_l1 (by omega)
  replace g_p1 := rg_skip (s := mm + 431) (p := (18, 4)) g_p1 (by omega)
  replace o_w1 := o_w1.skip (a := mm + 431) (p2 := (18, 4)) (by omega)
  replace g_w1 := rg_skip (s := mm + 431) (p := (18, 4)) g_w1 (by omega)
  replace o_h := o_h.skip (a := mm + 431) (p2 := (18, 4)) (by omega)
  replace g_h := rg_skip (s := mm + 431) (p := (18, 4)) g_h (by omega)
  replace o_r := o_r.skip (a := mm + 431) (p2 := (18, 4)) (by omega)
  replace g_r := rg_skip (s := mm + 431) (p := (18, 4)) g_r (by omega)
  refine jp_MM_sheets (q := 111) C dX10_init_108 rfl hsm kw_270 rfl rfl ?_
  replace hm0 : (jsP (jz (jsP (M8) mm 3 (some (mm + 428))) (mm + 431)) mm 4 (some (mm + 431))).2.2 mm 0 = _ := (jsP_o (by omega)).trans hm0
  replace hm1 : (jsP (jz (jsP (M8) mm 3 (some (mm + 428))) (mm + 431)) mm 4 (some (mm + 431))).2.2 mm 1 = _ := (jsP_o (by omega)).trans hm1
  replace hm2 : (jsP (jz (jsP (M8) mm 3 (some (mm + 428))) (mm + 431)) mm 4 (some (mm + 431))).2.2 mm 2 = _ := (jsP_o (by omega)).trans hm2
  replace hm3 : (jsP (jz (jsP (M8) mm 3 (some (mm + 428))) (mm + 431)) mm 4 (some (mm + 431))).2.2 mm 3 = _ := (jsP_o (by omega)).trans hm3
  replace o_j := o_j.put (a := mm) (k := 4) (v := some (mm + 431)) (by omega)
  replace g_j := rg_put (a := mm) (k := 4) (v := some (mm + 431)) g_j (by omega)
  replace o_m := o_m.put (a := mm) (k := 4) (v := some (mm + 431)) (by omega)
  replace g_m := rg_put (a := mm) (k := 4) (v := some (mm + 431)) g_m (by omega)
  replace o_l := o_l.put (a := mm) (k := 4) (v := some (mm + 431)) (by omega)
  replace g_l := rg_put (a := mm) (k := 4) (v := some (mm + 431)) g_l (by omega)
  replace g_p := rg_put (a := mm) (k := 4) (v := some (mm + 431)) g_p (by omega)
  replace o_w := o_w.put (a := mm) (k := 4) (v := some (mm + 431)) (by omega)
  replace g_w := rg_put (a := mm) (k := 4) (v := some (mm + 431)) g_w (by omega)
  replace o_l1 := o_l1.put (a := mm) (k := 4) (v := some (mm + 431)) (by omega)
  replace g_l1 := rg_put (a := mm) (k := 4) (v := some (mm + 431)) g_l1 (by omega)
  replace g_p1 := rg_put (a := mm) (k := 4) (v := some (mm + 431)) g_p1 (by omega)
  replace o_w1 := o_w1.put (a := mm) (k := 4) (v := some (mm + 431)) (by omega)
  replace g_w1 := rg_put (a := mm) (k := 4) (v := some (mm + 431)) g_w1 (by omega)
  replace o_h := o_h.put (a := mm) (k := 4) (v := some (mm + 431)) (by omega)
  replace g_h := rg_put (a := mm) (k := 4) (v := some (mm + 431)) g_h (by omega)
  replace o_r := o_r.put (a := mm) (k := 4) (v := some (mm + 431)) (by omega)
  replace g_r := rg_put (a := mm) (k := 4) (v := some (mm + 431)) g_r (by omega)
  replace o_s := o_s.put (a := mm) (k := 4) (v := some (mm + 431)) (by omega)
  have hm4 : (jsP (jz (jsP (M8) mm 3 (some (mm + 428))) (mm + 431)) mm 4 (some (mm + 431))).2.2 mm 4 = some (mm + 431) := jsP_at
  refine j_iconst (v := nI 0) (q := 112) C dX10_init_111 rfl (by decide) ?_
  refine j_istore (lv' := [(5, _), (4, _), (3, _), (2, _), (1, _), (0, _)]) (q := 114) C dX10_init_112 rfl (by decide) rfl ?_
  generalize va_up (S8) (mm + 431) (18, 4) = Sx at *
  generalize jsP (jz (jsP (M8) mm 3 (some (mm + 428))) (mm + 431)) mm 4 (some (mm + 431)) = Mx at *
  have loop114 : ∀ (n k : Nat) (S : jS) (Mk : jM), alA (mm + 432) (2 * k) (mm + 431) Sx S Mx Mk → rg (mm + 432) (2 * k) FS (PS (mm + 432)) S Mk → (∀ j, j < k → Mk.2.2 (mm + 431) j = some (mm + 432 + 2 * j)) → k + n = 4 → jJ G X (431 + 2 * k) (4566 + 23 * k) (mm + 432 + 2 * k) S Mk 114 [(5, .int (nI k)), (0, .ref mm), (4, .ref (mm + 12))] [] := by
    intro n
    induction n with
    | zero =>
      intro k S Mk hA hg hR hk
      refine j_iload (q := 116) C dX10_init_114 rfl rfl ?_
      refine j_iconst (v := nI 4) (q := 117) C dX10_init_116 rfl (by decide) ?_
      refine j_icmp_ge (q := 120) (tgt := 140) C dX10_init_117 rfl (by decide) (fun c_117 => ?_) (fun c_117 => absurd (nI_le (by omega) (by omega)) c_117)
      obtain rfl : k = 4 := by omega
      have F_o_j := o_j.al hA (by omega) (by omega)
      have F_g_j := g_j.al hA (fun k hk => ⟨by omega, by omega⟩)
      have F_o_m := o_m.al hA (by omega) (by omega)
      have F_g_m := g_m.al hA (fun k hk => ⟨by omega, by omega⟩)
      have F_o_l := o_l.al hA (by omega) (by omega)
      have F_g_l := g_l.al hA (fun k hk => ⟨by omega, by omega⟩)
      have F_g_p := g_p.al hA (fun k hk => ⟨by omega, by omega⟩)
      have F_o_w := o_w.al hA (by omega) (by omega)
      have F_g_w := g_w.al hA (fun k hk => ⟨by omega, by omega⟩)
      have F_o_l1 := o_l1.al hA (by omega) (by omega)
      have F_g_l1 := g_l1.al hA (fun k hk => ⟨by omega, by omega⟩)
      have F_g_p1 := g_p1.al hA (fun k hk => ⟨by omega, by omega⟩)
      have F_o_w1 := o_w1.al hA (by omega) (by omega)
      have F_g_w1 := g_w1.al hA (fun k hk => ⟨by omega, by omega⟩)
      have F_o_h := o_h.al hA (by omega) (by omega)
      have F_g_h := g_h.al hA (fun k hk => ⟨by omega, by omega⟩)
      have F_o_r := o_r.al hA (by omega) (by omega)
      have F_g_r := g_r.al hA (fun k hk => ⟨by omega, by omega⟩)
      have F_s : obc (mm + 431) (18, 4) (fun f => ∀ j, j < 4 → f j = some (mm + 432 + 2 * j)) S Mk := o_s.to hA (by omega) hR
      have F_m0 := (congrFun ((hA mm (by omega)).2.2.2 (by omega)) 0).trans hm0
      have F_m1 := (congrFun ((hA mm (by omega)).2.2.2 (by omega)) 1).trans hm1
      have F_m2 := (congrFun ((hA mm (by omega)).2.2.2 (by omega)) 2).trans hm2
      have F_m3 := (congrFun ((hA mm (by omega)).2.2.2 (by omega)) 3).trans hm3
      have F_m4 := (congrFun ((hA mm (by omega)).2.2.2 (by omega)) 4).trans hm4
      have F_sm := (congrArg Prod.fst (hA mm (by omega)).1).trans hsm
      have F_out : ∀ b, ¬ (mm ≤ b ∧ b < mm + 440) → S b = Sh b := fun b hb => (hA b (by omega)).1.trans (hout b hb)
      refine j_aload_n (q := 141) C dX10_init_140 rfl rfl rfl ?_
      refine j_iconst (v := nI 0) (q := 142) C dX10_init_141 rfl (by decide) ?_
      refine jp_MM_hasImage (q := 145) C dX10_init_142 rfl ((congrArg Prod.fst (hA mm (by omega)).1).trans hsm) kw_271 (by first | exact Or.inl rfl | exact Or.inr rfl) ?_
      refine j_aload_n (q := 146) C dX10_init_145 rfl rfl rfl ?_
      refine j_lconst (v := 0) (q := 147) C dX10_init_146 rfl (by decide) ?_
      refine jp_MM_findings (q := 150) C dX10_init_147 rfl ((congrArg Prod.fst (hA mm (by omega)).1).trans hsm) kw_272 ?_
      refine j_aload (q := 152) C dX10_init_150 rfl rfl ?_
      refine j_iconst (v := nI 0) (q := 153) C dX10_init_152 rfl (by decide) ?_
      refine j_lconst (v := 1) (q := 154) C dX10_init_153 rfl (by decide) ?_
      refine j_last (k := 0) (n := 301) (q := 155) C dX10_init_154 rfl ((F_g_p 0 (by omega)).1) (by decide) (by decide) ?_
      exact j_vret C E dX10_init_155 rfl rfl (⟨rfl, rfl, F_out, Mk, rfl, F_sm, ⟨F_m0, F_m1, F_m2, F_m3, F_m4⟩, F_o_j, F_g_j, F_o_m, F_g_m, F_o_l, F_g_l, F_g_p, F_o_w, F_g_w, F_o_l1, F_g_l1, F_g_p1, F_o_w1, F_g_w1, F_o_h, F_g_h, F_o_r, F_g_r, F_s, hg⟩)
    | succ n ih =>
      intro k S Mk hA hg hR hk
      refine j_iload (q := 116) C dX10_init_114 rfl rfl ?_
      refine j_iconst (v := nI 4) (q := 117) C dX10_init_116 rfl (by decide) ?_
      refine j_icmp_ge (q := 120) (tgt := 140) C dX10_init_117 rfl (by decide) (fun c_117 => absurd c_117 (fun h => absurd ((nI_leI (by omega) (by omega)).mp h) (by omega))) (fun c_117 => ?_)
      refine j_aload_n (q := 121) C dX10_init_120 rfl rfl rfl ?_
      refine jg_MM_sheets (q := 124) C dX10_init_121 rfl ((congrArg Prod.fst (hA mm (by omega)).1).trans hsm) kw_270 ((congrFun ((hA mm (by omega)).2.2.2 (by omega)) 4).trans hm4) ?_
      refine j_iload (q := 126) C dX10_init_124 rfl rfl ?_
      refine j_new jc8 (q := 129) C dX10_init_126 rfl kw_253 kw_254 kw_80 (fun j hj => by rcases (show j = 0 ∨ j = 1 ∨ j = 2 by omega) with rfl | rfl | rfl <;> rfl) (by show 431 + 2 * k + 1 ≤ 439; omega) (by show 4566 + 23 * k + 3 ≤ 4658; omega) ?_
      refine j_dup (q := 130) C dX10_init_129 rfl rfl ?_
      refine j_callI (q := 133) C dX10_init_130 rfl mX8_init (Or.inr (List.mem_of_getElem? (i := 6) rfl)) kw_255 rfl (ctX8_init (a := mm + 432 + 2 * k) (by rw [va_up_self]) (by omega)) (As := []) (rest := [.ref (mm + 432 + 2 * k), .int (nI k), .ref (mm + 431)]) rfl rfl ⟨by decide, by decide⟩ (Nat.le_of_ble_eq_true rfl) ⟨by show 431 + 2 * k + 1 + 1 ≤ 439; omega, by show 4566 + 23 * k + 3 + 20 ≤ 4658; omega⟩ (fun r z S1 M1 hx => ?_)
      obtain ⟨rfl, rfl, rfl, rfl⟩ := hx
      have hAN := alA_sh hA
      have hgN := rg_sh hg
      have hRN : ∀ j, j < k → (jsP (jz (jz Mk (mm + 432 + 2 * k)) (mm + 432 + 2 * k + 1)) (mm + 432 + 2 * k) 0 (some (mm + 432 + 2 * k + 1))).2.2 (mm + 431) j = some (mm + 432 + 2 * j) := fun j hj => by rw [jsP_o (by omega), jz_o (by omega), jz_o (by omega)]; exact hR j hj
      have e0 := (hAN (mm + 431) (by omega)).1.trans o_s.1
      have e1 := (hgN (2 * k) (by omega)).1
      refine j_aast (K := 18) (n := 4) (ci := 8) (t0 := 6) jc8 C dX10_init_133 rfl e0 (by decide) rfl (show k < 4 by omega) (by decide) (by rw [e1]; unfold FS; rw [if_pos (by omega)]) ?_
      first | refine j_iincN (lv' := [(5, _), (0, _), (4, _)]) (q := 137) C dX10_init_134 rfl rfl (by decide) rfl ?_ | refine j_iinc (lv' := [(5, _), (0, _), (4, _)]) (q := 137) C dX10_init_134 rfl rfl rfl (by decide) rfl ?_
      refine j_goto (tgt := 114) C dX10_init_137 (by decide) ?_
      have hRS : ∀ j, j < k + 1 → (jsP (jsP (jz (jz Mk (mm + 432 + 2 * k)) (mm + 432 + 2 * k + 1)) (mm + 432 + 2 * k) 0 (some (mm + 432 + 2 * k + 1))) (mm + 431) k (some (mm + 432 + 2 * k))).2.2 (mm + 431) j = some (mm + 432 + 2 * j) := fun j hj => by
        by_cases cj : j = k
        · subst cj; exact jsP_at
        · rw [jsP_o (by omega)]; exact hRN j (by omega)
      exact j_fewer (lv' := [(5, .int (nI (k + 1))), (0, .ref mm), (4, .ref (mm + 12))]) (by simp) (ih (k + 1) _ _ (alA_put hAN) (rg_put hgN (by omega)) hRS (by omega))
  exact j_fewer (lv' := [(5, .int (nI 0)), (0, .ref mm), (4, .ref (mm + 12))]) (by simp) (loop114 4 0 Sx Mx alA_rf rg_0 (fun j hj => absurd hj (by omega)) (by omega))

