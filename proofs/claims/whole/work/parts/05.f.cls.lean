theorem i64_eq (x z : Int32) : x.toInt64 = z.toInt64 ↔ x = z := ⟨fun h => by rw [← i32_rt x, h, i32_rt], fun h => by rw [h]⟩
theorem i64_le (x z : Int32) : x.toInt64 ≤ z.toInt64 ↔ x ≤ z := by rw [Int64.le_iff_toInt_le, Int32.le_iff_toInt_le, i32_l, i32_l]
theorem vK_c {w q pr lw : Nat} {M : jM} {l : Nat} (hl : l < 12) : vK w q pr lw M (278 + 2 * l) = (M.1 (lw + 3) l).toInt64 := by
  unfold vK
  rw [if_neg (by omega), if_neg (by omega), if_neg (by omega), if_pos (by omega), if_pos (by omega), show (278 + 2 * l - 278) / 2 = l by omega]
theorem vK_f {w q pr lw : Nat} {M : jM} {l : Nat} (hl : l < 12) : vK w q pr lw M (278 + 2 * l + 1) = (M.1 (lw + 4) l).toInt64 := by
  unfold vK
  rw [if_neg (by omega), if_neg (by omega), if_neg (by omega), if_pos (by omega), if_neg (by omega), show (278 + 2 * l + 1 - 278) / 2 = l by omega]
theorem vK_w {w q pr lw a : Nat} {M : jM} {g : Nat → Int64} (h : ¬ wS0 w q pr a) : vK w q pr lw (jw M a g) = vK w q pr lw M := by
  unfold wS0 at h
  funext k
  exact vK_same (fun _ => ⟨fun _ => rfl, fun _ => rfl, fun _ => rfl, fun _ => rfl, fun _ => congrFun (jw_ne _ _ (by omega)) _, fun _ => congrFun (jw_ne _ _ (by omega)) _, fun _ => congrFun (jw_ne _ _ (by omega)) _⟩) (fun i f hi hf ek => ⟨fun _ => rfl, fun _ => congrFun (jw_ne _ _ (by omega)) _⟩) (fun j f hj hf ek => ⟨fun _ => rfl, fun _ => congrFun (jw_ne _ _ (by omega)) _⟩) (fun l hl => ⟨fun _ => rfl, fun _ => rfl⟩) (fun d ek => congrFun (jw_ne _ _ (by omega)) _)
theorem mEq.w {S : Nat → Prop} {A B : jM} {a : Nat} {g : Nat → Int64} (h : mEq S A B) (ha : S a) : mEq S A (jw B a g) := ⟨h.1, fun b hb => (jw_ne _ _ (fun e => hb (by rw [e]; exact ha))).trans (h.2.1 b hb), h.2.2⟩
def lLay (lw : Nat) (Sh : jS) (M : jM) : Prop := (Sh lw).1 = 3 ∧ Sh (lw + 1) = (15, 5) ∧ Sh (lw + 2) = (15, 12) ∧ Sh (lw + 3) = (13, 12) ∧ Sh (lw + 4) = (13, 12) ∧ M.2.2 lw 0 = some (lw + 1) ∧ M.2.2 lw 1 = some (lw + 2) ∧ M.2.2 lw 2 = some (lw + 3) ∧ M.2.2 lw 3 = some (lw + 4)
def jLay (jg : Nat) (Sh : jS) (M : jM) : Prop := (Sh jg).1 = 2 ∧ Sh (jg + 1) = (14, 7) ∧ Sh (jg + 2) = (14, 40) ∧ M.2.2 jg 0 = some (jg + 1) ∧ M.2.2 jg 1 = some (jg + 2)
/-- the laws' codes, from address B on -/
def lRep (B lw la : Nat) (LT : Nat → sT) (Sh : jS) (M : jM) : Prop := ∀ l, l < la → ∃ ca, M.2.2 (lw + 2) l = some ca ∧ B ≤ ca ∧ cdOk Sh M ca (LT l) ∧ ∀ sa, M.2.2 ca 0 = some sa → B ≤ sa
theorem cdOk.mv {Sh : jS} {M M' : jM} {ca B : Nat} {t : sT} {S : Nat → Prop} (h : cdOk Sh M ca t) (e : mEq S M M') (hS : ∀ b, S b → b < B) (hc : B ≤ ca) (hs : ∀ sa, M.2.2 ca 0 = some sa → B ≤ sa) : cdOk Sh M' ca t := by
  obtain ⟨h1, sa, h2, h3, h4, h5, h6, h7⟩ := h
  have hb := hs sa h2
  refine ⟨h1, sa, by rw [e.2.2]; exact h2, h3, ?_, ?_, ?_, h7⟩
  · rw [e.1 ca (fun z => by have := hS _ z; omega)]; exact h4
  · rw [e.1 ca (fun z => by have := hS _ z; omega)]; exact h5
  · rw [e.1 sa (fun z => by have := hS _ z; omega)]; exact h6
theorem lRep.mv {B lw la : Nat} {LT : Nat → sT} {Sh : jS} {M M' : jM} {S : Nat → Prop} (h : lRep B lw la LT Sh M) (e : mEq S M M') (hS : ∀ b, S b → b < B) : lRep B lw la LT Sh M' := fun l hl => by
  obtain ⟨ca, h1, h2, h3, h4⟩ := h l hl
  exact ⟨ca, by rw [e.2.2]; exact h1, h2, h3.mv e hS h2 h4, by rw [e.2.2]; exact h4⟩
set_option maxRecDepth 100000 in
set_option maxHeartbeats 400000 in
theorem ctX3_latest {G : jG} {sz : Nat} {Sh : jS} {M : jM} {w q pr lw : Nat} {K : Nat → Int64} (hM : vK w q pr lw M = K) (hL : lLay lw Sh M) {la : Nat} (h6 : K 6 = lN la) (hla : la ≤ 12) {c e : Int32} : jC G yX3_latest cX3_latest 4 (Option.some FieldType.int) (jrm 1 0 0) sz Sh M [.ref lw, .int c, .int e] (jR (some (.int (nLaw K c.toInt64 e.toInt64 la))) sz Sh M) := by
  refine jC_start (by decide +kernel) (Nat.le_of_ble_eq_true rfl) (fun X C E hN0 => ?_)
  refine j_aload_n (q := 1) C dX3_latest_0 rfl rfl rfl ?_
  refine jg_Laws_made (q := 4) C dX3_latest_1 rfl hL.1 kw_128 ?_
  refine j_top (v' := .int (nI la)) (by rw [← k32 h6, ← hM, vK_6, i32_rt]) ?_
  refine j_iconst (v := nI 1) (q := 5) C dX3_latest_4 rfl (by decide) ?_
  refine j_isub (q := 6) C dX3_latest_5 rfl ?_
  refine j_istore_n (lv' := [(3, _), (0, _), (1, _), (2, _)]) (q := 7) C dX3_latest_6 rfl rfl (by decide) rfl ?_
  have lp : ∀ k, k ≤ la → nLaw K c.toInt64 e.toInt64 la = nLaw K c.toInt64 e.toInt64 k → jJ G X 0 0 sz Sh M 7 [(3, .int (nI k + -1)), (0, .ref lw), (1, .int c), (2, .int e)] [] := by
    intro k
    induction k with
    | zero =>
      intro hk hv
      refine j_iload_n (q := 8) C dX3_latest_7 rfl rfl rfl ?_
      refine j_if_lt (q := 11) (tgt := 39) C dX3_latest_8 rfl (by decide) (fun c_8 => ?_) (fun c_8 => absurd (by decide : nI 0 + -1 < 0) c_8)
      refine j_iconst (v := (-1)) (q := 40) C dX3_latest_39 rfl (by decide) ?_
      exact j_iret C E dX3_latest_40 rfl rfl (jR_e (by rw [hv, nLaw]) rfl)
    | succ k ih =>
      intro hk hv
      refine j_fewer (lv' := [(3, .int (nI k)), (0, .ref lw), (1, .int c), (2, .int e)]) (by simp [pk_m1]) ?_
      refine j_iload_n (q := 8) C dX3_latest_7 rfl rfl rfl ?_
      refine j_if_lt (q := 11) (tgt := 39) C dX3_latest_8 rfl (by decide) (fun c_8 => absurd c_8 (nI_pos (by omega))) (fun c_8 => ?_)
      refine j_aload_n (q := 12) C dX3_latest_11 rfl rfl rfl ?_
      refine jg_Laws_courts (q := 15) C dX3_latest_12 rfl hL.1 kw_126 hL.2.2.2.2.2.2.2.1 ?_
      refine j_iload_n (q := 16) C dX3_latest_15 rfl rfl rfl ?_
      refine j_iald (q := 17) C dX3_latest_16 rfl hL.2.2.2.1 (by omega) (by decide) ?_
      refine j_iload_n (q := 18) C dX3_latest_17 rfl rfl rfl ?_
      refine j_icmp_ne (q := 21) (tgt := 33) C dX3_latest_18 rfl (by decide) (fun c_18 => ?_) (fun c_18 => ?_)
      · refine j_iinc (lv' := [(3, _), (0, _), (1, _), (2, _)]) (q := 36) C dX3_latest_33 rfl rfl rfl (by decide) rfl ?_
        refine j_goto (tgt := 7) C dX3_latest_36 (by decide) ?_
        refine j_fewer (lv' := [(3, .int (nI k + -1)), (0, .ref lw), (1, .int c), (2, .int e)]) (by simp) ?_
        exact ih (by omega) (hv.trans (by rw [nLaw, if_neg (fun h => c_18 (((by rw [← hM, vK_c (by omega), i64_eq]) : K (278 + 2 * k) = c.toInt64 ↔ M.1 (lw + 3) k = c).mp h.1))]))
      · refine j_aload_n (q := 22) C dX3_latest_21 rfl rfl rfl ?_
        refine jg_Laws_from (q := 25) C dX3_latest_22 rfl hL.1 kw_127 hL.2.2.2.2.2.2.2.2 ?_
        refine j_iload_n (q := 26) C dX3_latest_25 rfl rfl rfl ?_
        refine j_iald (q := 27) C dX3_latest_26 rfl hL.2.2.2.2.1 (by omega) (by decide) ?_
        refine j_iload_n (q := 28) C dX3_latest_27 rfl rfl rfl ?_
        refine j_icmp_gt (q := 31) (tgt := 33) C dX3_latest_28 rfl (by decide) (fun c_28 => ?_) (fun c_28 => ?_)
        · refine j_iinc (lv' := [(3, _), (0, _), (1, _), (2, _)]) (q := 36) C dX3_latest_33 rfl rfl rfl (by decide) rfl ?_
          refine j_goto (tgt := 7) C dX3_latest_36 (by decide) ?_
          refine j_fewer (lv' := [(3, .int (nI k + -1)), (0, .ref lw), (1, .int c), (2, .int e)]) (by simp) ?_
          exact ih (by omega) (hv.trans (by rw [nLaw, if_neg (fun h => absurd c_28 (Int32.not_lt.mpr (((by rw [← hM, vK_f (by omega), i64_le]) : K (278 + 2 * k + 1) ≤ e.toInt64 ↔ M.1 (lw + 4) k ≤ e).mp h.2)))]))
        · refine j_iload_n (q := 32) C dX3_latest_31 rfl rfl rfl ?_
          exact j_iret C E dX3_latest_32 rfl rfl (jR_e (by rw [hv, nLaw, if_pos ⟨((by rw [← hM, vK_c (by omega), i64_eq]) : K (278 + 2 * k) = c.toInt64 ↔ M.1 (lw + 3) k = c).mpr c_18, ((by rw [← hM, vK_f (by omega), i64_le]) : K (278 + 2 * k + 1) ≤ e.toInt64 ↔ M.1 (lw + 4) k ≤ e).mpr (Int32.not_lt.mp c_28)⟩]) rfl)
  refine j_fewer (lv' := [(3, .int (nI la + -1)), (0, .ref lw), (1, .int c), (2, .int e)]) (by simp [show nI la - 1 = nI la + -1 from Int32.sub_eq_add_neg _ _, show nI la - nI 1 = nI la + -1 from Int32.sub_eq_add_neg _ _]) ?_
  exact lp la (Nat.le_refl la) rfl

set_option maxRecDepth 100000 in
set_option maxHeartbeats 400000 in
theorem ctX2_goldIn {G : jG} {sz : Nat} {Sh : jS} {M : jM} {a b : Int64} (hb : ¬ b = 0) : jC G yX2_goldIn cX2_goldIn 4 (Option.some FieldType.long) (jrm 1 0 0) sz Sh M [.long a, .long b] (jR (some (.long (if a ≤ 1000000000000000 / b then a * b else 1000000000000000))) sz Sh M) := by
  refine jC_start (by decide +kernel) (Nat.le_of_ble_eq_true rfl) (fun X C E hN0 => ?_)
  refine j_lload_n (q := 1) C dX2_goldIn_0 rfl rfl rfl ?_
  refine j_ldc2 (q := 4) C dX2_goldIn_1 rfl kw_384 ?_
  refine j_lload_n (q := 5) C dX2_goldIn_4 rfl rfl rfl ?_
  refine j_ldiv (q := 6) C dX2_goldIn_5 rfl hb ?_
  refine j_lcmp_le (q1 := 7) (q := 10) (tgt := 16) C dX2_goldIn_6 dX2_goldIn_7 rfl rfl (by decide) (fun c_7 => ?_) (fun c_7 => ?_)
  · refine j_lload_n (q := 17) C dX2_goldIn_16 rfl rfl rfl ?_
    refine j_lload_n (q := 18) C dX2_goldIn_17 rfl rfl rfl ?_
    refine j_lmul (q := 19) C dX2_goldIn_18 rfl ?_
    exact j_lret C E dX2_goldIn_19 rfl rfl (jR_e (by rw [if_pos c_7]) rfl)
  · refine j_ldc2 (q := 13) C dX2_goldIn_10 rfl kw_384 ?_
    refine j_goto (tgt := 19) C dX2_goldIn_13 (by decide) ?_
    exact j_lret C E dX2_goldIn_19 rfl rfl (jR_e (by rw [if_neg c_7]) rfl)

set_option maxRecDepth 100000 in
set_option maxHeartbeats 400000 in
theorem ctX2_fillNames {G : jG} {sz : Nat} {Sh : jS} {M : jM} {w q pr lw jg mk : Nat} {K : Nat → Int64} (hW : wLay w q pr lw jg mk Sh M) (hM : vK w q pr lw M = K) (hJ : jLay jg Sh M) (hjg : ¬ wS0 w q pr (jg + 1)) {d : Nat} (hd : K 0 = lN d) (hd3 : d ≤ 300) (hpr : ∀ k, k ≤ d → 1 ≤ K (310 + k)) {j s kd : Nat} (hj : j < 24) (hs : K (110 + 7 * j + 4) = lN s) (hs1 : s ≤ d) (hk : K (110 + 7 * j + 0) = lN kd) (hk5 : kd ≤ 5) : jC G yX2_fillNames cX2_fillNames 4 (Option.none : Option FieldType) (jrm 2 0 0) sz Sh M [.ref jg, .ref w, .ref (q + 12 + j)] (jT sz Sh (fun r M2 => ∃ A, r = none ∧ M2 = jw M (jg + 1) A ∧ nmOk A (nName K d j s))) := by
  refine jC_start (by decide +kernel) (Nat.le_of_ble_eq_true rfl) (fun X C E hN0 => ?_)
  have hMA : ∀ A, vK w q pr lw (jw M (jg + 1) A) = K := fun A => (vK_w hjg).trans hM
  have hWA : ∀ A, wLay w q pr lw jg mk Sh (jw M (jg + 1) A) := fun A => hW
  rw [show M = jw M (jg + 1) (M.2.1 (jg + 1)) from (jw_self M (jg + 1)).symm]
  refine j_aload_n (q := 1) C dX2_fillNames_0 rfl rfl rfl ?_
  refine wg_World_day (hWA _) (hMA _) (q' := 4) C dX2_fillNames_1 rfl kw_210 ?_
  refine j_top (v' := .int (nI d)) (congrArg Value.int (k32 hd)) ?_
  refine j_istore_n (lv' := [(3, _), (0, _), (1, _), (2, _)]) (q := 5) C dX2_fillNames_4 rfl rfl (by decide) rfl ?_
  refine j_aload_n (q := 6) C dX2_fillNames_5 rfl rfl rfl ?_
  refine jg_Judge_names (q := 9) C dX2_fillNames_6 rfl hJ.1 kw_105 hJ.2.2.2.1 ?_
  refine j_iconst (v := nI 0) (q := 10) C dX2_fillNames_9 rfl (by decide) ?_
  refine j_aload_n (q := 11) C dX2_fillNames_10 rfl rfl rfl ?_
  refine wg_Paper_sum (by omega) (hWA _) (hMA _) (q' := 14) C dX2_fillNames_11 rfl kw_179 ?_
  refine j_lastW (q := 15) C dX2_fillNames_14 rfl hJ.2.1 (by omega) (by decide) ?_
  refine j_aload_n (q := 16) C dX2_fillNames_15 rfl rfl rfl ?_
  refine jg_Judge_names (q := 19) C dX2_fillNames_16 rfl hJ.1 kw_105 hJ.2.2.2.1 ?_
  refine j_iconst (v := nI 1) (q := 20) C dX2_fillNames_19 rfl (by decide) ?_
  refine j_iload_n (q := 21) C dX2_fillNames_20 rfl rfl rfl ?_
  refine j_aload_n (q := 22) C dX2_fillNames_21 rfl rfl rfl ?_
  refine wg_Paper_since (by omega) (hWA _) (hMA _) (q' := 25) C dX2_fillNames_22 rfl kw_184 ?_
  refine j_top (v' := .int (nI s)) (congrArg Value.int (k32 hs)) ?_
  refine j_isub (q := 26) C dX2_fillNames_25 rfl ?_
  refine j_top (v' := .int (nI (d - s))) (by rw [pk_sub hs1]) ?_
  first | refine j_i2lN (q := 27) C dX2_fillNames_26 rfl (by omega) ?_ | refine j_i2l (q := 27) C dX2_fillNames_26 rfl rfl ?_
  refine j_lastW (q := 28) C dX2_fillNames_27 rfl hJ.2.1 (by omega) (by decide) ?_
  refine j_aload_n (q := 29) C dX2_fillNames_28 rfl rfl rfl ?_
  refine jg_Judge_names (q := 32) C dX2_fillNames_29 rfl hJ.1 kw_105 hJ.2.2.2.1 ?_
  refine j_iconst (v := nI 2) (q := 33) C dX2_fillNames_32 rfl (by decide) ?_
  refine j_aload_n (q := 34) C dX2_fillNames_33 rfl rfl rfl ?_
  refine j_iload_n (q := 35) C dX2_fillNames_34 rfl rfl rfl ?_
  refine jV1 jc9 (q := 38) C dX2_fillNames_35 rfl hW.1.1 mX9_priceOn kw_377 kw_378 kw_379 (ctX9_priceOn (hWA _) (hMA _) (k := d) (by omega) (hpr _ (by omega))) rfl rfl (by decide) (Nat.le_of_ble_eq_true rfl) (by decide) ?_
  refine j_lastW (q := 39) C dX2_fillNames_38 rfl hJ.2.1 (by omega) (by decide) ?_
  refine j_aload_n (q := 40) C dX2_fillNames_39 rfl rfl rfl ?_
  refine jg_Judge_names (q := 43) C dX2_fillNames_40 rfl hJ.1 kw_105 hJ.2.2.2.1 ?_
  refine j_iconst (v := nI 3) (q := 44) C dX2_fillNames_43 rfl (by decide) ?_
  refine j_aload_n (q := 45) C dX2_fillNames_44 rfl rfl rfl ?_
  refine j_aload_n (q := 46) C dX2_fillNames_45 rfl rfl rfl ?_
  refine wg_Paper_since (by omega) (hWA _) (hMA _) (q' := 49) C dX2_fillNames_46 rfl kw_184 ?_
  refine j_top (v' := .int (nI s)) (congrArg Value.int (k32 hs)) ?_
  refine jV1 jc9 (q := 52) C dX2_fillNames_49 rfl hW.1.1 mX9_priceOn kw_377 kw_378 kw_379 (ctX9_priceOn (hWA _) (hMA _) (k := s) (by omega) (hpr _ (by omega))) rfl rfl (by decide) (Nat.le_of_ble_eq_true rfl) (by decide) ?_
  refine j_lastW (q := 53) C dX2_fillNames_52 rfl hJ.2.1 (by omega) (by decide) ?_
  refine j_aload_n (q := 54) C dX2_fillNames_53 rfl rfl rfl ?_
  refine jg_Judge_names (q := 57) C dX2_fillNames_54 rfl hJ.1 kw_105 hJ.2.2.2.1 ?_
  refine j_iconst (v := nI 4) (q := 58) C dX2_fillNames_57 rfl (by decide) ?_
  refine j_aload_n (q := 59) C dX2_fillNames_58 rfl rfl rfl ?_
  refine j_iconst (v := nI 0) (q := 60) C dX2_fillNames_59 rfl (by decide) ?_
  refine j_iload_n (q := 61) C dX2_fillNames_60 rfl rfl rfl ?_
  refine j_iconst (v := nI 3) (q := 62) C dX2_fillNames_61 rfl (by decide) ?_
  refine j_isub (q := 63) C dX2_fillNames_62 rfl ?_
  refine j_imax (q := 66) C dX2_fillNames_63 rfl kw_392 (by decide) (Nat.le_of_ble_eq_true rfl) (by decide) ?_
  refine j_top (v' := .int (nI (d - 3))) (by rw [imx0 (by omega)]) ?_
  refine jV1 jc9 (q := 69) C dX2_fillNames_66 rfl hW.1.1 mX9_priceOn kw_377 kw_378 kw_379 (ctX9_priceOn (hWA _) (hMA _) (k := d - 3) (by omega) (hpr _ (by omega))) rfl rfl (by decide) (Nat.le_of_ble_eq_true rfl) (by decide) ?_
  refine j_lastW (q := 70) C dX2_fillNames_69 rfl hJ.2.1 (by omega) (by decide) ?_
  refine j_aload_n (q := 71) C dX2_fillNames_70 rfl rfl rfl ?_
  refine jg_Judge_names (q := 74) C dX2_fillNames_71 rfl hJ.1 kw_105 hJ.2.2.2.1 ?_
  refine j_iconst (v := nI 5) (q := 75) C dX2_fillNames_74 rfl (by decide) ?_
  refine j_aload_n (q := 76) C dX2_fillNames_75 rfl rfl rfl ?_
  refine j_iload_n (q := 77) C dX2_fillNames_76 rfl rfl rfl ?_
  refine j_iload_n (q := 78) C dX2_fillNames_77 rfl rfl rfl ?_
  refine j_bipush (v := nI 7) (q := 80) C dX2_fillNames_78 rfl (by decide) ?_
  refine j_irem (q := 81) C dX2_fillNames_80 rfl (by decide) ?_
  refine j_top (v' := .int (nI (d % 7))) (by rw [pk_rem (by omega) (by omega) (by omega)]) ?_
  refine j_isub (q := 82) C dX2_fillNames_81 rfl ?_
  refine j_top (v' := .int (nI (d - d % 7))) (by rw [pk_sub (Nat.mod_le d 7)]) ?_
  refine jV1 jc9 (q := 85) C dX2_fillNames_82 rfl hW.1.1 mX9_priceOn kw_377 kw_378 kw_379 (ctX9_priceOn (hWA _) (hMA _) (k := d - d % 7) (by omega) (hpr _ (by omega))) rfl rfl (by decide) (Nat.le_of_ble_eq_true rfl) (by decide) ?_
  refine j_lastW (q := 86) C dX2_fillNames_85 rfl hJ.2.1 (by omega) (by decide) ?_
  refine j_aload_n (q := 87) C dX2_fillNames_86 rfl rfl rfl ?_
  refine jg_Judge_names (q := 90) C dX2_fillNames_87 rfl hJ.1 kw_105 hJ.2.2.2.1 ?_
  refine j_bipush (v := nI 6) (q := 92) C dX2_fillNames_90 rfl (by decide) ?_
  refine j_aload_n (q := 93) C dX2_fillNames_92 rfl rfl rfl ?_
  refine wg_Paper_kind (by omega) (hWA _) (hMA _) (q' := 96) C dX2_fillNames_93 rfl kw_170 ?_
  refine j_top (v' := .int (nI kd)) (congrArg Value.int (k32 hk)) ?_
  first | refine j_i2lN (q := 97) C dX2_fillNames_96 rfl (by omega) ?_ | refine j_i2l (q := 97) C dX2_fillNames_96 rfl rfl ?_
  refine j_lastW (q := 98) C dX2_fillNames_97 rfl hJ.2.1 (by omega) (by decide) ?_
  exact j_vret C E dX2_fillNames_98 rfl rfl (⟨rfl, rfl, _, rfl, rfl, by refine ⟨?_, ?_, ?_, ?_, ?_, ?_, ?_⟩ <;> first | (simp [va_up, nName, hs, lN_sub hs1]; done) | (simp [va_up, nName]; exact hk.symm)⟩)

/-- a ruling's end: the judge's rows may be others -/
def rJ (jg : Nat) (M : jM) (v : Option Value) : Option Value → jM → Prop := fun r M2 => r = v ∧ ∃ A P, M2 = jw (jw M (jg + 1) A) (jg + 2) P
theorem rJ_i {jg : Nat} {M : jM} {r v : Option Value} {sz : Nat} {Sh : jS} (h : r = v) : jT sz Sh (rJ jg M v) r sz Sh M := ⟨rfl, rfl, h, M.2.1 (jg + 1), M.2.1 (jg + 2), by rw [jw_self, jw_self]⟩
theorem rJ_p {jg : Nat} {M : jM} {A P : Nat → Int64} {r v : Option Value} {sz : Nat} {Sh : jS} (h : r = v) : jT sz Sh (rJ jg M v) r sz Sh (jw (jw M (jg + 1) A) (jg + 2) P) := ⟨rfl, rfl, h, A, P, rfl⟩
set_option maxRecDepth 100000 in
set_option maxHeartbeats 400000 in
theorem ctX2_rule {G : jG} {sz : Nat} {Sh : jS} {M : jM} {w q pr lw jg mk : Nat} {K : Nat → Int64} (hW : wLay w q pr lw jg mk Sh M) (hM : vK w q pr lw M = K) (hJ : jLay jg Sh M) (hjg : ¬ wS0 w q pr (jg + 1)) {d : Nat} (hd : K 0 = lN d) (hd3 : d ≤ 300) (hpr : ∀ k, k ≤ d → 1 ≤ K (310 + k)) {j s kd : Nat} (hj : j < 24) (hs : K (110 + 7 * j + 4) = lN s) (hs1 : s ≤ d) (hk : K (110 + 7 * j + 0) = lN kd) (hk5 : kd ≤ 5) (hL : lLay lw Sh M) {la B : Nat} (h6 : K 6 = lN la) (hla : la ≤ 12) {LT : Nat → sT} (hLR : lRep B lw la LT Sh M) (hBj : jg + 2 < B) {c : Int32} : jC G yX2_rule cX2_rule 7 (Option.some FieldType.long) (jrm 3 0 0) sz Sh M [.ref jg, .ref w, .ref (q + 12 + j), .int c] (jT sz Sh (rJ jg M (some (.long (nOwedK LT K d la j kd s c.toInt64))))) := by
  refine jC_start (by decide +kernel) (Nat.le_of_ble_eq_true rfl) (fun X C E hN0 => ?_)
  refine j_aload_n (q := 1) C dX2_rule_0 rfl rfl rfl ?_
  refine wg_Paper_kind (by omega) hW hM (q' := 4) C dX2_rule_1 rfl kw_170 ?_
  refine j_top (v' := .int (nI kd)) (congrArg Value.int (k32 hk)) ?_
  refine j_if_eq (q := 7) (tgt := 15) C dX2_rule_4 rfl (by decide) (fun c_4 => ?_) (fun c_4 => ?_)
  · refine j_aload_n (q := 16) C dX2_rule_15 rfl rfl rfl ?_
    refine wg_Paper_sum (by omega) hW hM (q' := 19) C dX2_rule_16 rfl kw_179 ?_
    exact j_lret C E dX2_rule_19 rfl rfl (rJ_i (by rw [nOwedK, if_pos (Or.inl ((nI_eq (b := 0) (by omega) (by omega)).mp c_4))]))
  · refine j_aload_n (q := 8) C dX2_rule_7 rfl rfl rfl ?_
    refine wg_Paper_kind (by omega) hW hM (q' := 11) C dX2_rule_8 rfl kw_170 ?_
    refine j_top (v' := .int (nI kd)) (congrArg Value.int (k32 hk)) ?_
    refine j_iconst (v := nI 5) (q := 12) C dX2_rule_11 rfl (by decide) ?_
    refine j_icmp_ne (q := 15) (tgt := 20) C dX2_rule_12 rfl (by decide) (fun c_12 => ?_) (fun c_12 => ?_)
    · have n05 : ¬ (kd = 0 ∨ kd = 5) := fun h => h.elim (fun h => c_4 (by rw [h]; decide)) (fun h => c_12 (by rw [h]))
      refine j_aload_n (q := 21) C dX2_rule_20 rfl rfl rfl ?_
      refine wg_Paper_kind (by omega) hW hM (q' := 24) C dX2_rule_21 rfl kw_170 ?_
      refine j_top (v' := .int (nI kd)) (congrArg Value.int (k32 hk)) ?_
      refine j_iconst (v := nI 2) (q := 25) C dX2_rule_24 rfl (by decide) ?_
      refine j_icmp_ne (q := 28) (tgt := 44) C dX2_rule_25 rfl (by decide) (fun c_25 => ?_) (fun c_25 => ?_)
      · have n2 : ¬ kd = 2 := fun h => c_25 (by rw [h])
        refine j_aload_n (q := 45) C dX2_rule_44 rfl rfl rfl ?_
        refine jg_World_laws (q := 48) C dX2_rule_45 rfl hW.1.1 kw_198 hW.2.1.2.2.1 ?_
        refine j_iload_n (q := 49) C dX2_rule_48 rfl rfl rfl ?_
        refine j_aload_n (q := 50) C dX2_rule_49 rfl rfl rfl ?_
        refine wg_World_day hW hM (q' := 53) C dX2_rule_50 rfl kw_210 ?_
        refine j_top (v' := .int (nI d)) (congrArg Value.int (k32 hd)) ?_
        refine jV1 jc3 (q := 56) C dX2_rule_53 rfl hL.1 mX3_latest kw_385 kw_386 kw_387 (ctX3_latest hM hL h6 hla) rfl rfl (by decide) (Nat.le_of_ble_eq_true rfl) (by decide) ?_
        rw [nI_l (by omega : d < 2 ^ 31)]
        refine j_istore (lv' := [(4, _), (0, _), (1, _), (2, _), (3, _)]) (q := 58) C dX2_rule_56 rfl (by decide) rfl ?_
        refine j_iload (q := 60) C dX2_rule_58 rfl rfl ?_
        refine j_if_lt (q := 63) (tgt := 76) C dX2_rule_60 rfl (by decide) (fun c_60 => ?_) (fun c_60 => ?_)
        · refine j_aload_n (q := 77) C dX2_rule_76 rfl rfl rfl ?_
          refine wg_Paper_sum (by omega) hW hM (q' := 80) C dX2_rule_77 rfl kw_179 ?_
          exact j_lret C E dX2_rule_80 rfl rfl (rJ_i (by rw [nOwedK, if_neg n05, if_neg n2, if_neg (fun h => absurd c_60 (Int32.not_lt.mpr h))]))
        · obtain ⟨l, hl, el⟩ := nLaw_ge hla (Int32.not_lt.mp c_60)
          rw [el]
          obtain ⟨ca, hca1, hBc, hcd, hBs⟩ := hLR l hl
          refine j_aload_n (q := 64) C dX2_rule_63 rfl rfl rfl ?_
          refine jg_World_laws (q := 67) C dX2_rule_64 rfl hW.1.1 kw_198 hW.2.1.2.2.1 ?_
          refine jg_Laws_codes (q := 70) C dX2_rule_67 rfl hL.1 kw_125 hL.2.2.2.2.2.2.1 ?_
          refine j_iload (q := 72) C dX2_rule_70 rfl rfl ?_
          refine j_aald (q := 73) C dX2_rule_72 rfl hL.2.2.1 (by decide) (by omega) (by decide) hca1 ?_
          refine j_ifnonnull (tgt := 81) C dX2_rule_73 (by decide) ?_
          have hMA : ∀ A, vK w q pr lw (jw M (jg + 1) A) = K := fun A => (vK_w hjg).trans hM
          have hk134 : kd = 1 ∨ kd = 3 ∨ kd = 4 := by omega
          refine j_aload_n (q := 82) C dX2_rule_81 rfl rfl rfl ?_
          refine j_aload_n (q := 83) C dX2_rule_82 rfl rfl rfl ?_
          refine j_aload_n (q := 84) C dX2_rule_83 rfl rfl rfl ?_
          refine jVT jc2 (q := 87) C dX2_rule_84 rfl hJ.1 mX2_fillNames kw_389 kw_390 kw_2 (ctX2_fillNames hW hM hJ hjg hd hd3 hpr hj hs hs1 hk hk5) rfl rfl (by decide) (Nat.le_of_ble_eq_true rfl) (by decide) (fun r_84 M_84 h_84 => ?_)
          obtain ⟨A, rfl, rfl, hnm⟩ := h_84
          replace hM := hMA A
          refine j_aload_n (q := 88) C dX2_rule_87 rfl rfl rfl ?_
          refine jg_World_laws (q := 91) C dX2_rule_88 rfl hW.1.1 kw_198 hW.2.1.2.2.1 ?_
          refine jg_Laws_codes (q := 94) C dX2_rule_91 rfl hL.1 kw_125 hL.2.2.2.2.2.2.1 ?_
          refine j_iload (q := 96) C dX2_rule_94 rfl rfl ?_
          refine j_aald (q := 97) C dX2_rule_96 rfl hL.2.2.1 (by decide) (by omega) (by decide) hca1 ?_
          refine j_aload_n (q := 98) C dX2_rule_97 rfl rfl rfl ?_
          
          refine wg_Paper_kind (by omega) hW hM (q' := 101) C dX2_rule_98 rfl kw_170 ?_
          refine j_top (v' := .int (nI kd)) (congrArg Value.int (k32 hk)) ?_
          refine j_aload_n (q := 102) C dX2_rule_101 rfl rfl rfl ?_
          refine jg_Judge_names (q := 105) C dX2_rule_102 rfl hJ.1 kw_105 hJ.2.2.2.1 ?_
          refine j_aload_n (q := 106) C dX2_rule_105 rfl rfl rfl ?_
          refine jg_Judge_waiting (q := 109) C dX2_rule_106 rfl hJ.1 kw_106 hJ.2.2.2.2 ?_
          refine jVT jc1 (q := 112) C dX2_rule_109 rfl hcd.1 mX1_run kw_395 kw_396 kw_397 (ctX1_run (M := jw M (jg + 1) A) (t := LT l) (hcd.mv (mEq.rf.w (S := fun b => b = jg + 1) rfl) (B := B) (fun b h => by omega) hBc hBs) hk134 (by rw [jw_at]; exact hnm) hJ.2.1 hJ.2.2.1 (by omega)) rfl rfl (by decide) (Nat.le_of_ble_eq_true rfl) (by decide) (fun r_109 M_109 h_109 => ?_)
          obtain ⟨P, rfl, rfl⟩ := h_109
          refine j_lstore (lv' := [(5, _), (4, _), (0, _), (1, _), (2, _), (3, _)]) (q := 114) C dX2_rule_112 rfl (by decide) rfl ?_
          refine j_lconst (v := 0) (q := 115) C dX2_rule_114 rfl (by decide) ?_
          refine j_ldc2 (q := 118) C dX2_rule_115 rfl kw_384 ?_
          refine j_lload (q := 120) C dX2_rule_118 rfl rfl ?_
          refine j_lmin (q := 123) C dX2_rule_120 rfl kw_410 (by decide) (Nat.le_of_ble_eq_true rfl) (by decide) ?_
          refine j_lmax (q := 126) C dX2_rule_123 rfl kw_413 (by decide) (Nat.le_of_ble_eq_true rfl) (by decide) ?_
          exact j_lret C E dX2_rule_126 rfl rfl (rJ_p (by rw [nOwedK, if_neg n05, if_neg n2, if_pos (Int32.not_lt.mp c_60), el, nI_clamp (by omega)]))
      · refine j_aload_n (q := 29) C dX2_rule_28 rfl rfl rfl ?_
        refine wg_Paper_sum (by omega) hW hM (q' := 32) C dX2_rule_29 rfl kw_179 ?_
        refine j_aload_n (q := 33) C dX2_rule_32 rfl rfl rfl ?_
        refine j_aload_n (q := 34) C dX2_rule_33 rfl rfl rfl ?_
        refine wg_World_day hW hM (q' := 37) C dX2_rule_34 rfl kw_210 ?_
        refine j_top (v' := .int (nI d)) (congrArg Value.int (k32 hd)) ?_
        refine jV1 jc9 (q := 40) C dX2_rule_37 rfl hW.1.1 mX9_priceOn kw_377 kw_378 kw_379 (ctX9_priceOn hW hM (k := d) (by omega) (hpr _ (by omega))) rfl rfl (by decide) (Nat.le_of_ble_eq_true rfl) (by decide) ?_
        refine jS1 (q := 43) C dX2_rule_40 rfl mX2_goldIn kw_381 kw_382 (ctX2_goldIn (fun e => absurd (hpr d (Nat.le_refl d)) (by rw [e]; decide))) rfl rfl (by decide) (Nat.le_of_ble_eq_true rfl) (by decide) ?_
        exact j_lret C E dX2_rule_43 rfl rfl (rJ_i (by rw [nOwedK, if_neg n05, if_pos ((nI_eq (by omega) (by omega)).mp c_25)]))
    · refine j_aload_n (q := 16) C dX2_rule_15 rfl rfl rfl ?_
      refine wg_Paper_sum (by omega) hW hM (q' := 19) C dX2_rule_16 rfl kw_179 ?_
      exact j_lret C E dX2_rule_19 rfl rfl (rJ_i (by rw [nOwedK, if_pos (Or.inr ((nI_eq (by omega) (by omega)).mp c_12))]))

