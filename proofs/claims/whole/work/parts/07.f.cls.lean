/-- a world that was taken over shows what the other one shows -/
theorem wMv.q {w q pr lw w0 q0 pe pa d la : Nat} {M M2 : jM} {r : Option Value} (h : wMv w0 q0 w q pe pa M r M2) (hD : wDis w0 q0 pr lw) (hpe : pe ≤ 10) (hpa : pa ≤ 24) : nQ True d pe pa la (vK w0 q0 pr lw M2) (vK w q pr lw M) := fun k hk => by
  by_cases c : k < 6 ∨ (10 ≤ k ∧ k < 10 + 10 * pe) ∨ (110 ≤ k ∧ k < 110 + 7 * pa)
  · exact h.K hpe hpa c
  · have c2 : k = 6 ∨ 278 ≤ k := by
      rcases hk with hk | ⟨-, hk⟩
      · unfold nIn at hk; omega
      · omega
    rw [h.own hD c2]
    exact vK_share c2
abbrev aW (ah i : Nat) : Nat := ah + 2 + 37 * i
def aS (ah pr jg mk b : Nat) : Prop := (ah ≤ b ∧ b < ah + 335) ∨ b = pr ∨ b = jg + 1 ∨ b = jg + 2 ∨ b = mk + 1 ∨ b = mk + 2
def aLay (ah : Nat) (Sh : jS) (M : jM) : Prop := (Sh ah).1 = 0 ∧ M.2.2 ah 0 = some (ah + 1) ∧ Sh (ah + 1) = (19, 9) ∧ ∀ i, i < 9 → M.2.2 (ah + 1) i = some (aW ah i)
/-- what is asked ahead, beside the world of the day -/
def aCx (ah w q pr lw jg mk B la : Nat) (LT : Nat → sT) (Sh : jS) (M : jM) : Prop := aLay ah Sh M ∧ (∀ i, i < 9 → wCx (aW ah i) (aW ah i + 1) pr lw jg mk B la LT Sh M) ∧ (∀ i, i < 9 → mAp (aW ah i) (aW ah i + 1) pr lw mk) ∧ (∀ i, i < 9 → wTwo (aW ah i) (aW ah i + 1) w q) ∧ mLay mk Sh M ∧ wCx w q pr lw jg mk B la LT Sh M ∧ (∀ b, (b = w ∨ (q + 2 ≤ b ∧ b < q + 36) ∨ (lw ≤ b ∧ b ≤ lw + 4)) → ¬ aS ah pr jg mk b) ∧ ah + 335 ≤ B
theorem aS_lt {ah w q pr lw jg mk B la : Nat} {LT : Nat → sT} {Sh : jS} {M : jM} (h : aCx ah w q pr lw jg mk B la LT Sh M) {b : Nat} (hb : aS ah pr jg mk b) : b < B := by
  have h1 := h.2.2.2.2.2.1.2.2.2.2.2
  have h2 := h.2.2.2.2.2.2.2
  unfold aS at hb
  omega
theorem aCx.mv {ah w q pr lw jg mk B la : Nat} {LT : Nat → sT} {Sh : jS} {M M' : jM} (h : aCx ah w q pr lw jg mk B la LT Sh M) (e : mEq (aS ah pr jg mk) M M') : aCx ah w q pr lw jg mk B la LT Sh M' := by
  have hlt := fun b hb => aS_lt h (b := b) hb
  obtain ⟨h1, h2, h3, h4, h5, h6, h7⟩ := h
  refine ⟨?_, fun i hi => (h2 i hi).mv e hlt, h3, h4, h5.mv e, h6.mv e hlt, h7⟩
  unfold aLay at h1 ⊢
  rw [e.2.2]
  exact h1
theorem subA {ah pr jg mk i : Nat} (hi : i < 9) : ∀ b, wSX (aW ah i) (aW ah i + 1) pr jg mk b → aS ah pr jg mk b := fun b h => by
  unfold wSX wSJ wS0 mS aW at h
  unfold aS
  omega
theorem subA1 {ah pr jg mk i : Nat} (hi : i < 9) : ∀ b, wS1 (aW ah i) (aW ah i + 1) b → aS ah pr jg mk b := fun b h => by
  unfold wS1 aW at h
  unfold aS
  omega
theorem subA0 {ah pr jg mk i : Nat} (hi : i < 9) : ∀ b, wS0 (aW ah i) (aW ah i + 1) pr b → aS ah pr jg mk b := fun b h => by
  unfold wS0 aW at h
  unfold aS
  omega
/-- the world of the day is as it was, but prices -/
theorem aCx.now {ah w q pr lw jg mk B la : Nat} {LT : Nat → sT} {Sh : jS} {M M' : jM} (h : aCx ah w q pr lw jg mk B la LT Sh M) (e : mEq (aS ah pr jg mk) M M') {k : Nat} (hk : k < 310) : vK w q pr lw M' k = vK w q pr lw M k := by
  have h7 := h.2.2.2.2.2.2.1
  exact vK_same (fun _ => ⟨fun _ => congrFun (e.1 _ (h7 _ (by omega))) _, fun _ => congrFun (e.1 _ (h7 _ (by omega))) _, fun _ => congrFun (e.1 _ (h7 _ (by omega))) _, fun _ => congrFun (e.1 _ (h7 _ (by omega))) _, fun _ => congrFun (e.2.1 _ (h7 _ (by omega))) _, fun _ => congrFun (e.2.1 _ (h7 _ (by omega))) _, fun _ => congrFun (e.2.1 _ (h7 _ (by omega))) _⟩) (fun i f hi hf ek => ⟨fun _ => congrFun (e.1 _ (h7 _ (by omega))) _, fun _ => congrFun (e.2.1 _ (h7 _ (by omega))) _⟩) (fun j f hj hf ek => ⟨fun _ => congrFun (e.1 _ (h7 _ (by omega))) _, fun _ => congrFun (e.2.1 _ (h7 _ (by omega))) _⟩) (fun l hl => ⟨fun _ => congrFun (e.1 _ (h7 _ (by omega))) _, fun _ => congrFun (e.1 _ (h7 _ (by omega))) _⟩) (fun d ek => by omega)
theorem aCx.nowQ {ah w q pr lw jg mk B la d pe pa : Nat} {LT : Nat → sT} {Sh : jS} {M M' : jM} (h : aCx ah w q pr lw jg mk B la LT Sh M) (e : mEq (aS ah pr jg mk) M M') (hp : ∀ k, k ≤ d → M'.2.1 pr k = M.2.1 pr k) (hpe : pe ≤ 10) (hpa : pa ≤ 24) (hla : la ≤ 12) : nQ True d pe pa la (vK w q pr lw M') (vK w q pr lw M) := fun k hk => by
  by_cases c : k < 310
  · exact h.now e c
  · obtain ⟨x, rfl⟩ : ∃ x, k = 310 + x := ⟨k - 310, by omega⟩
    rw [vK_p, vK_p]
    refine hp x ?_
    rcases hk with hk | ⟨-, hk⟩
    · unfold nIn at hk; omega
    · omega
/-- the end of what is asked ahead -/
def aT (ah pr jg mk d : Nat) (M : jM) (v : Option Value) : Option Value → jM → Prop := fun r M2 => r = v ∧ mEq (aS ah pr jg mk) M M2 ∧ ∀ k, k ≤ d → M2.2.1 pr k = M.2.1 pr k
abbrev bF : Nat → Bool := fun _ => false
theorem nPl_F {LT : Nat → sT} {d pe pa la k : Nat} {N : Nat → Int64} : nPl LT d pe pa la bF N (k + 1) = nDay LT (d + k) pe pa la (nPl LT d pe pa la bF N k) := rfl
theorem nPl_t {LT : Nat → sT} {d pe pa la k : Nat} {b : Nat → Bool} {N : Nat → Int64} (h : b k = true) : nPl LT d pe pa la b N (k + 1) = nDay LT (d + k) pe pa la (nTaxed (nPl LT d pe pa la b N k) pe) := by rw [nPl, if_pos h]
theorem nPl_f {LT : Nat → sT} {d pe pa la k : Nat} {b : Nat → Bool} {N : Nat → Int64} (h : ¬ b k = true) : nPl LT d pe pa la b N (k + 1) = nDay LT (d + k) pe pa la (nPl LT d pe pa la b N k) := by rw [nPl, if_neg h]
theorem prEnd {w0 q0 pr lw d k pe pa la : Nat} {LT : Nat → sT} {b : Nat → Bool} {M M2 : jM} {K : Nat → Int64} (hq : nQ True (d + k) pe pa la (vK w0 q0 pr lw M2) (nPl LT d pe pa la b K k)) (hO : nOk K d pe pa la) (hB : nB K d pe) (hS : nS K pa) (hk : d + k ≤ 300) (hK : ∀ x, x ≤ d → K (310 + x) = M.2.1 pr x) : ∀ x, x ≤ d → M2.2.1 pr x = M.2.1 pr x := fun x hx => by
  have h := hq.at (k := 310 + x) (by unfold nIn; omega)
  rw [vK_p, nPl_pr hO hB hS hx k hk, hK x hx] at h
  exact h
noncomputable def nMel (LT : Nat → sT) (d pe pa la : Nat) (N : Nat → Int64) : Nat → Nat → Nat
  | _, 0 => 0
  | k, m + 1 => if 2 * nPl LT d pe pa la bF N (k + 1) (310 + (d + k)) ≤ nPl LT d pe pa la bF N (k + 1) (310 + (d + k + 1)) then k + 1 else nMel LT d pe pa la N (k + 1) m
set_option maxRecDepth 100000 in
set_option maxHeartbeats 4000000 in
theorem ctX0_printedIn {G : jG} {sz : Nat} {Sh : jS} {M : jM} {ah w q pr lw jg mk B la : Nat} {LT : Nat → sT} {K : Nat → Int64} (hA : aCx ah w q pr lw jg mk B la LT Sh M) (hM : vK w q pr lw M = K) {d pe pa : Nat} (hO : nOk K d pe pa la) (hB : nB K d pe) (hS : nS K pa) {n : Nat} (hn : d + n ≤ 300) : jC G yX0_printedIn cX0_printedIn 5 (Option.some FieldType.long) (jrm 6 0 0) sz Sh M [.ref ah, .ref w, .int (nI n)] (jT sz Sh (aT ah pr jg mk d M (some (.long (nPl LT d pe pa la bF K n 2 - K 2))))) := by
  refine jC_start (by decide +kernel) (Nat.le_of_ble_eq_true rfl) (fun X C E hN0 => ?_)
  have hpe : pe ≤ 10 := hO.2.1.2
  have hpa : pa ≤ 24 := hO.2.2.1.2
  have hC := hA.2.2.2.2.2.1
  have hW := hC.1
  have hWa := (hA.2.1 0 (by omega)).1
  have hpe6 : M.1 w 6 = nI pe := i32_of (v := K 4) (by rw [← hM, vK_4]) hO.2.1.1
  have hpa7 : M.1 w 7 = nI pa := i32_of (v := K 5) (by rw [← hM, vK_5]) hO.2.2.1.1
  have hKp : ∀ x, x ≤ d → K (310 + x) = M.2.1 pr x := fun x _ => by rw [← hM, vK_p]
  refine j_aload_n (q := 1) C dX0_printedIn_0 rfl rfl rfl ?_
  refine jg_Ahead_worlds (q := 4) C dX0_printedIn_1 rfl hA.1.1 kw_228 hA.1.2.1 ?_
  refine j_iconst (v := nI 0) (q := 5) C dX0_printedIn_4 rfl (by decide) ?_
  refine j_aald (q := 6) C dX0_printedIn_5 rfl hA.1.2.2.1 (by decide) (by omega) (by decide) (hA.1.2.2.2 0 (by omega)) ?_
  refine j_astore_n (lv' := [(3, _), (0, _), (1, _), (2, _)]) (q := 7) C dX0_printedIn_6 rfl rfl (by decide) rfl ?_
  refine j_aload_n (q := 8) C dX0_printedIn_7 rfl rfl rfl ?_
  refine j_aload_n (q := 9) C dX0_printedIn_8 rfl rfl rfl ?_
  refine jVT jc9 (q := 12) C dX0_printedIn_9 rfl hWa.1.1 mX9_takeMoving kw_719 kw_720 kw_721 (ctX9_takeMoving hWa hW (hA.2.2.2.1 0 (by omega)) hpe6 hpe hpa7 hpa) rfl rfl (by decide) (Nat.le_of_ble_eq_true rfl) (by decide) (fun r_9 M_9 h_9 => ?_)
  have hq0 := h_9.q (pr := pr) (lw := lw) (d := d) (la := la) hWa.2.2 hpe hpa
  have hE0 := h_9.2.1.mono (subA1 (ah := ah) (pr := pr) (jg := jg) (mk := mk) (i := 0) (by omega))
  obtain ⟨rfl, -⟩ := h_9
  rw [hM] at hq0
  refine j_iconst (v := nI 0) (q := 13) C dX0_printedIn_12 rfl (by decide) ?_
  refine j_istore (lv' := [(4, _), (3, _), (0, _), (1, _), (2, _)]) (q := 15) C dX0_printedIn_13 rfl (by decide) rfl ?_
  have loop15 : ∀ (m k : Nat) (Mk : jM), nQ True (d + k) pe pa la (vK (aW ah 0) (aW ah 0 + 1) pr lw Mk) (nPl LT d pe pa la bF K k) → mEq (aS ah pr jg mk) M Mk → k + m = n → jJ G X 0 0 sz Sh Mk 15 [(4, .int (nI k)), (3, .ref (aW ah 0)), (0, .ref ah), (1, .ref w), (2, .int (nI n))] [] := by
    intro m
    induction m with
    | zero =>
      intro k Mk hq hE hk
      have hOk := nPl_ok (LT := LT) (b := bF) hO hB hS k (by omega)
      have hAk := hA.mv hE
      have hWk := (hAk.2.1 0 (by omega)).1
      have hSSx := subA (ah := ah) (pr := pr) (jg := jg) (mk := mk) (i := 0) (by omega)
      refine j_iload (q := 17) C dX0_printedIn_15 rfl rfl ?_
      refine j_iload_n (q := 18) C dX0_printedIn_17 rfl rfl rfl ?_
      refine j_icmp_ge (q := 21) (tgt := 31) C dX0_printedIn_18 rfl (by decide) (fun c_18 => ?_) (fun c_18 => absurd (nI_le (by omega) (by omega)) c_18)
      obtain rfl : n = k := by omega
      refine j_aload_n (q := 32) C dX0_printedIn_31 rfl rfl rfl ?_
      refine jg_World_printed (q := 35) C dX0_printedIn_32 rfl hWk.1.1 kw_216 ?_
      rw [show Mk.2.1 (aW ah 0) 10 = nPl LT d pe pa la bF K n 2 from hq 2 (Or.inr ⟨trivial, by omega, by omega⟩)]
      refine j_aload_n (q := 36) C dX0_printedIn_35 rfl rfl rfl ?_
      refine jg_World_printed (q := 39) C dX0_printedIn_36 rfl hW.1.1 kw_216 ?_
      rw [show Mk.2.1 w 10 = K 2 from by have h := hA.now hE (k := 2) (by omega); rw [hM] at h; exact h]
      refine j_lsub (q := 40) C dX0_printedIn_39 rfl ?_
      exact j_lret C E dX0_printedIn_40 rfl rfl (⟨rfl, rfl, rfl, hE, prEnd hq hO hB hS (by omega) hKp⟩)
    | succ m ih =>
      intro k Mk hq hE hk
      have hOk := nPl_ok (LT := LT) (b := bF) hO hB hS k (by omega)
      have hAk := hA.mv hE
      have hWk := (hAk.2.1 0 (by omega)).1
      have hSSx := subA (ah := ah) (pr := pr) (jg := jg) (mk := mk) (i := 0) (by omega)
      refine j_iload (q := 17) C dX0_printedIn_15 rfl rfl ?_
      refine j_iload_n (q := 18) C dX0_printedIn_17 rfl rfl rfl ?_
      refine j_icmp_ge (q := 21) (tgt := 31) C dX0_printedIn_18 rfl (by decide) (fun c_18 => absurd c_18 (fun h => absurd ((nI_leI (by omega) (by omega)).mp h) (by omega))) (fun c_18 => ?_)
      refine j_aload_n (q := 22) C dX0_printedIn_21 rfl rfl rfl ?_
      refine jVT jc9 (q := 25) C dX0_printedIn_22 rfl hWk.1.1 mX9_goDay kw_731 kw_610 kw_611 (ctX9_goDay (hAk.2.1 0 (by omega)) rfl (hOk.1.q hq) hAk.2.2.2.2.1 (hAk.2.2.1 0 (by omega)) (hOk.2.1.q hq) (hOk.2.2.q hq) (by omega)) rfl rfl (by decide) (Nat.le_of_ble_eq_true rfl) (by decide) (fun r_22 M_22 h_22 => ?_)
      obtain ⟨rfl, hq2, hE2⟩ := h_22
      have hq3 := hq2.tr (nDay_c hq hOk.1)
      have hE3 := hE.tr (hE2.mono hSSx)
      first | refine j_iincN (lv' := [(4, _), (3, _), (0, _), (1, _), (2, _)]) (q := 28) C dX0_printedIn_25 rfl rfl (by decide) rfl ?_ | refine j_iinc (lv' := [(4, _), (3, _), (0, _), (1, _), (2, _)]) (q := 28) C dX0_printedIn_25 rfl rfl rfl (by decide) rfl ?_
      refine j_goto (tgt := 15) C dX0_printedIn_28 (by decide) ?_
      exact j_fewer (lv' := [(4, .int (nI (k + 1))), (3, .ref (aW ah 0)), (0, .ref ah), (1, .ref w), (2, .int (nI n))]) (by simp) (ih (k + 1) M_22 hq3 hE3 (by omega))
  exact j_fewer (lv' := [(4, .int (nI 0)), (3, .ref (aW ah 0)), (0, .ref ah), (1, .ref w), (2, .int (nI n))]) (by simp) (loop15 n 0 M_9 hq0 hE0 (by omega))

set_option maxRecDepth 100000 in
set_option maxHeartbeats 4000000 in
theorem ctX0_daysToMelting {G : jG} {sz : Nat} {Sh : jS} {M : jM} {ah w q pr lw jg mk B la : Nat} {LT : Nat → sT} {K : Nat → Int64} (hA : aCx ah w q pr lw jg mk B la LT Sh M) (hM : vK w q pr lw M = K) {d pe pa : Nat} (hO : nOk K d pe pa la) (hB : nB K d pe) (hS : nS K pa) {n : Nat} (hn : d + n ≤ 300) : jC G yX0_daysToMelting cX0_daysToMelting 5 (Option.some FieldType.int) (jrm 6 0 0) sz Sh M [.ref ah, .ref w, .int (nI n)] (jT sz Sh (aT ah pr jg mk d M (some (.int (if nMel LT d pe pa la K 0 n = 0 then -1 else nI (nMel LT d pe pa la K 0 n)))))) := by
  refine jC_start (by decide +kernel) (Nat.le_of_ble_eq_true rfl) (fun X C E hN0 => ?_)
  have hpe : pe ≤ 10 := hO.2.1.2
  have hpa : pa ≤ 24 := hO.2.2.1.2
  have hC := hA.2.2.2.2.2.1
  have hW := hC.1
  have hWa := (hA.2.1 0 (by omega)).1
  have hpe6 : M.1 w 6 = nI pe := i32_of (v := K 4) (by rw [← hM, vK_4]) hO.2.1.1
  have hpa7 : M.1 w 7 = nI pa := i32_of (v := K 5) (by rw [← hM, vK_5]) hO.2.2.1.1
  have hKp : ∀ x, x ≤ d → K (310 + x) = M.2.1 pr x := fun x _ => by rw [← hM, vK_p]
  refine j_aload_n (q := 1) C dX0_daysToMelting_0 rfl rfl rfl ?_
  refine jg_Ahead_worlds (q := 4) C dX0_daysToMelting_1 rfl hA.1.1 kw_228 hA.1.2.1 ?_
  refine j_iconst (v := nI 0) (q := 5) C dX0_daysToMelting_4 rfl (by decide) ?_
  refine j_aald (q := 6) C dX0_daysToMelting_5 rfl hA.1.2.2.1 (by decide) (by omega) (by decide) (hA.1.2.2.2 0 (by omega)) ?_
  refine j_astore_n (lv' := [(3, _), (0, _), (1, _), (2, _)]) (q := 7) C dX0_daysToMelting_6 rfl rfl (by decide) rfl ?_
  refine j_aload_n (q := 8) C dX0_daysToMelting_7 rfl rfl rfl ?_
  refine j_aload_n (q := 9) C dX0_daysToMelting_8 rfl rfl rfl ?_
  refine jVT jc9 (q := 12) C dX0_daysToMelting_9 rfl hWa.1.1 mX9_takeMoving kw_719 kw_720 kw_721 (ctX9_takeMoving hWa hW (hA.2.2.2.1 0 (by omega)) hpe6 hpe hpa7 hpa) rfl rfl (by decide) (Nat.le_of_ble_eq_true rfl) (by decide) (fun r_9 M_9 h_9 => ?_)
  have hq0 := h_9.q (pr := pr) (lw := lw) (d := d) (la := la) hWa.2.2 hpe hpa
  have hE0 := h_9.2.1.mono (subA1 (ah := ah) (pr := pr) (jg := jg) (mk := mk) (i := 0) (by omega))
  obtain ⟨rfl, -⟩ := h_9
  rw [hM] at hq0
  refine j_iconst (v := nI 1) (q := 13) C dX0_daysToMelting_12 rfl (by decide) ?_
  refine j_istore (lv' := [(4, _), (3, _), (0, _), (1, _), (2, _)]) (q := 15) C dX0_daysToMelting_13 rfl (by decide) rfl ?_
  have loop15 : ∀ (m k : Nat) (Mk : jM), nMel LT d pe pa la K 0 n = nMel LT d pe pa la K k m → nQ True (d + k) pe pa la (vK (aW ah 0) (aW ah 0 + 1) pr lw Mk) (nPl LT d pe pa la bF K k) → mEq (aS ah pr jg mk) M Mk → k + m = n → jJ G X 0 0 sz Sh Mk 15 [(4, .int (nI (k + 1))), (3, .ref (aW ah 0)), (0, .ref ah), (1, .ref w), (2, .int (nI n))] [] := by
    intro m
    induction m with
    | zero =>
      intro k Mk hmel hq hE hk
      have hOk := nPl_ok (LT := LT) (b := bF) hO hB hS k (by omega)
      have hAk := hA.mv hE
      have hWk := (hAk.2.1 0 (by omega)).1
      have hSSx := subA (ah := ah) (pr := pr) (jg := jg) (mk := mk) (i := 0) (by omega)
      refine j_iload (q := 17) C dX0_daysToMelting_15 rfl rfl ?_
      refine j_iload_n (q := 18) C dX0_daysToMelting_17 rfl rfl rfl ?_
      refine j_icmp_gt (q := 21) (tgt := 60) C dX0_daysToMelting_18 rfl (by decide) (fun c_18 => ?_) (fun c_18 => absurd (nI_lt (by omega) (by omega)) c_18)
      obtain rfl : n = k := by omega
      refine j_iconst (v := (-1)) (q := 61) C dX0_daysToMelting_60 rfl (by decide) ?_
      exact j_iret C E dX0_daysToMelting_61 rfl rfl (⟨rfl, rfl, by rw [hmel]; rfl, hE, prEnd hq hO hB hS (by omega) hKp⟩)
    | succ m ih =>
      intro k Mk hmel hq hE hk
      have hOk := nPl_ok (LT := LT) (b := bF) hO hB hS k (by omega)
      have hAk := hA.mv hE
      have hWk := (hAk.2.1 0 (by omega)).1
      have hSSx := subA (ah := ah) (pr := pr) (jg := jg) (mk := mk) (i := 0) (by omega)
      refine j_iload (q := 17) C dX0_daysToMelting_15 rfl rfl ?_
      refine j_iload_n (q := 18) C dX0_daysToMelting_17 rfl rfl rfl ?_
      refine j_icmp_gt (q := 21) (tgt := 60) C dX0_daysToMelting_18 rfl (by decide) (fun c_18 => absurd c_18 (nI_nlt (by omega) (by omega))) (fun c_18 => ?_)
      refine j_aload_n (q := 22) C dX0_daysToMelting_21 rfl rfl rfl ?_
      refine jVT jc9 (q := 25) C dX0_daysToMelting_22 rfl hWk.1.1 mX9_goDay kw_731 kw_610 kw_611 (ctX9_goDay (hAk.2.1 0 (by omega)) rfl (hOk.1.q hq) hAk.2.2.2.2.1 (hAk.2.2.1 0 (by omega)) (hOk.2.1.q hq) (hOk.2.2.q hq) (by omega)) rfl rfl (by decide) (Nat.le_of_ble_eq_true rfl) (by decide) (fun r_22 M_22 h_22 => ?_)
      obtain ⟨rfl, hq2, hE2⟩ := h_22
      have hq3 := hq2.tr (nDay_c hq hOk.1)
      have hE3 := hE.tr (hE2.mono hSSx)
      have hO1 := nPl_ok (LT := LT) (b := bF) hO hB hS (k + 1) (by omega)
      have hq4 : nQ True (d + (k + 1)) pe pa la (vK (aW ah 0) (aW ah 0 + 1) pr lw M_22) (nPl LT d pe pa la bF K (k + 1)) := hq3
      have hOM := hO1.1.q hq4
      have hA4 := hA.mv hE3
      have hW4 := (hA4.2.1 0 (by omega)).1
      have ed : M_22.1 (aW ah 0) 8 = nI (d + k + 1) := i32_of (v := vK (aW ah 0) (aW ah 0 + 1) pr lw M_22 0) (by rw [vK_0]) hOM.1.1
      have p1 := hq4.at (k := 310 + (d + k + 1)) (by unfold nIn; omega)
      have p2 := hq4.at (k := 310 + (d + k)) (by unfold nIn; omega)
      refine j_aload_n (q := 26) C dX0_daysToMelting_25 rfl rfl rfl ?_
      refine j_aload_n (q := 27) C dX0_daysToMelting_26 rfl rfl rfl ?_
      refine jg_World_day (q := 30) C dX0_daysToMelting_27 rfl hW4.1.1 kw_212 ?_
      rw [ed]
      refine jV1 jc9 (q := 33) C dX0_daysToMelting_30 rfl hW4.1.1 mX9_priceOn kw_740 kw_378 kw_379 (ctX9_priceOn hW4 rfl (k := d + k + 1) (by omega) (hOM.2.2.2.2.2 _ (by omega)).1) rfl rfl (by decide) (Nat.le_of_ble_eq_true rfl) (by decide) ?_
      rw [p1]
      refine j_ldc2 (q := 36) C dX0_daysToMelting_33 rfl kw_741 ?_
      refine j_aload_n (q := 37) C dX0_daysToMelting_36 rfl rfl rfl ?_
      refine j_aload_n (q := 38) C dX0_daysToMelting_37 rfl rfl rfl ?_
      refine jg_World_day (q := 41) C dX0_daysToMelting_38 rfl hW4.1.1 kw_212 ?_
      rw [ed]
      refine j_iconst (v := nI 1) (q := 42) C dX0_daysToMelting_41 rfl (by decide) ?_
      refine j_isub (q := 43) C dX0_daysToMelting_42 rfl ?_
      refine j_top (v' := .int (nI (d + k))) (congrArg Value.int (by rw [show d + k + 1 = (d + k) + 1 from rfl]; exact pk_sub (show 1 ≤ d + k + 1 by omega))) ?_
      refine jV1 jc9 (q := 46) C dX0_daysToMelting_43 rfl hW4.1.1 mX9_priceOn kw_740 kw_378 kw_379 (ctX9_priceOn hW4 rfl (k := d + k) (by omega) (hOM.2.2.2.2.2 _ (by omega)).1) rfl rfl (by decide) (Nat.le_of_ble_eq_true rfl) (by decide) ?_
      rw [p2]
      refine j_lmul (q := 47) C dX0_daysToMelting_46 rfl ?_
      refine j_lcmp_lt (q1 := 48) (q := 51) (tgt := 54) C dX0_daysToMelting_47 dX0_daysToMelting_48 rfl rfl (by decide) (fun c_48 => ?_) (fun c_48 => ?_)
      · first | refine j_iincN (lv' := [(4, _), (3, _), (0, _), (1, _), (2, _)]) (q := 57) C dX0_daysToMelting_54 rfl rfl (by decide) rfl ?_ | refine j_iinc (lv' := [(4, _), (3, _), (0, _), (1, _), (2, _)]) (q := 57) C dX0_daysToMelting_54 rfl rfl rfl (by decide) rfl ?_
        refine j_goto (tgt := 15) C dX0_daysToMelting_57 (by decide) ?_
        exact j_fewer (lv' := [(4, .int (nI (k + 1 + 1))), (3, .ref (aW ah 0)), (0, .ref ah), (1, .ref w), (2, .int (nI n))]) (by simp) (ih (k + 1) M_22 (hmel.trans (by rw [nMel, if_neg (fun h => absurd c_48 (Int64.not_lt.mpr h))])) hq3 hE3 (by omega))
      · refine j_iload (q := 53) C dX0_daysToMelting_51 rfl rfl ?_
        exact j_iret C E dX0_daysToMelting_53 rfl rfl (⟨rfl, rfl, by rw [hmel, nMel, if_pos (Int64.not_lt.mp c_48), if_neg (by omega)], hE3, prEnd hq4 hO hB hS (by omega) hKp⟩)
  exact j_fewer (lv' := [(4, .int (nI (0 + 1))), (3, .ref (aW ah 0)), (0, .ref ah), (1, .ref w), (2, .int (nI n))]) (by simp) (loop15 n 0 M_9 rfl hq0 hE0 (by omega))

set_option maxRecDepth 100000 in
set_option maxHeartbeats 4000000 in
theorem ctX0_priceWith {G : jG} {sz : Nat} {Sh : jS} {M : jM} {ah w q pr lw jg mk B la : Nat} {LT : Nat → sT} {K : Nat → Int64} (hA : aCx ah w q pr lw jg mk B la LT Sh M) (hM : vK w q pr lw M = K) {d pe pa : Nat} (hO : nOk K d pe pa la) (hB : nB K d pe) (hS : nS K pa) {n : Nat} (hn : d + n ≤ 300) {i : Nat} (hi : i < pe) {v : Int64} (hv : isN v 1000000000000000) : jC G yX0_priceWith cX0_priceWith 8 (Option.some FieldType.long) (jrm 6 0 0) sz Sh M [.ref ah, .ref w, .int (nI i), .long v, .int (nI n)] (jT sz Sh (aT ah pr jg mk d M (some (.long (nPl LT d pe pa la bF (nGets K (10 + 10 * i + 0) v) n (310 + (d + n))))))) := by
  refine jC_start (by decide +kernel) (Nat.le_of_ble_eq_true rfl) (fun X C E hN0 => ?_)
  have hpe : pe ≤ 10 := hO.2.1.2
  have hpa : pa ≤ 24 := hO.2.2.1.2
  have hC := hA.2.2.2.2.2.1
  have hW := hC.1
  have hWa := (hA.2.1 0 (by omega)).1
  have hpe6 : M.1 w 6 = nI pe := i32_of (v := K 4) (by rw [← hM, vK_4]) hO.2.1.1
  have hpa7 : M.1 w 7 = nI pa := i32_of (v := K 5) (by rw [← hM, vK_5]) hO.2.2.1.1
  have hKp : ∀ x, x ≤ d → K (310 + x) = M.2.1 pr x := fun x _ => by rw [← hM, vK_p]
  refine j_aload_n (q := 1) C dX0_priceWith_0 rfl rfl rfl ?_
  refine jg_Ahead_worlds (q := 4) C dX0_priceWith_1 rfl hA.1.1 kw_228 hA.1.2.1 ?_
  refine j_iconst (v := nI 0) (q := 5) C dX0_priceWith_4 rfl (by decide) ?_
  refine j_aald (q := 6) C dX0_priceWith_5 rfl hA.1.2.2.1 (by decide) (by omega) (by decide) (hA.1.2.2.2 0 (by omega)) ?_
  refine j_astore (lv' := [(6, _), (0, _), (1, _), (2, _), (3, _), (5, _)]) (q := 8) C dX0_priceWith_6 rfl (by decide) rfl ?_
  refine j_aload (q := 10) C dX0_priceWith_8 rfl rfl ?_
  refine j_aload_n (q := 11) C dX0_priceWith_10 rfl rfl rfl ?_
  refine jVT jc9 (q := 14) C dX0_priceWith_11 rfl hWa.1.1 mX9_takeMoving kw_719 kw_720 kw_721 (ctX9_takeMoving hWa hW (hA.2.2.2.1 0 (by omega)) hpe6 hpe hpa7 hpa) rfl rfl (by decide) (Nat.le_of_ble_eq_true rfl) (by decide) (fun r_11 M_11 h_11 => ?_)
  have hq0 := h_11.q (pr := pr) (lw := lw) (d := d) (la := la) hWa.2.2 hpe hpa
  have hE0 := h_11.2.1.mono (subA1 (ah := ah) (pr := pr) (jg := jg) (mk := mk) (i := 0) (by omega))
  obtain ⟨rfl, -⟩ := h_11
  rw [hM] at hq0
  have hWa1 := hWa.mv hE0
  refine j_aload (q := 16) C dX0_priceWith_14 rfl rfl ?_
  refine j_aload (q := 18) C dX0_priceWith_16 rfl rfl ?_
  refine jg_World_persons (q := 21) C dX0_priceWith_18 rfl hWa1.1.1 kw_194 hWa1.2.1.1 ?_
  refine j_iload_n (q := 22) C dX0_priceWith_21 rfl rfl rfl ?_
  refine j_aald (q := 23) C dX0_priceWith_22 rfl hWa1.1.2.1 (by decide) (show i < 10 by omega) (by decide) (hWa1.2.1.2.2.2.2.2.2.1 i (by omega)) ?_
  refine j_lload_n (q := 24) C dX0_priceWith_23 rfl rfl rfl ?_
  refine jVT jc9 (q := 27) C dX0_priceWith_24 rfl hWa1.1.1 mX9_credit kw_799 kw_427 kw_428 (ctX9_credit (i := i) hWa1 rfl (by omega)) rfl rfl (by decide) (Nat.le_of_ble_eq_true rfl) (by decide) (fun r_24 M_24 h_24 => ?_)
  obtain ⟨rfl, hM24, hE24⟩ := h_24
  have hq24 : nQ True d pe pa la (vK (aW ah 0) (aW ah 0 + 1) pr lw M_24) (nGets K (10 + 10 * i + 0) v) := by
    rw [hM24]
    exact hq0.gets (by unfold nIn; omega) v
  have hE25 := hE0.tr (hE24.mono (subA0 (ah := ah) (pr := pr) (jg := jg) (mk := mk) (i := 0) (by omega)))
  have hOg : nOk (nGets K (10 + 10 * i + 0) v) d pe pa la := hO.eq (nEq.rf.gets v (nStP (by omega) (by omega)))
  have hBg : nB (nGets K (10 + 10 * i + 0) v) d pe := hB.gets hi hv
  have hSg : nS (nGets K (10 + 10 * i + 0) v) pa := hS.eq (nEq.rf.gets v (nStP (by omega) (by omega)))
  have hKg : ∀ x, x ≤ d → (nGets K (10 + 10 * i + 0) v) (310 + x) = M.2.1 pr x := fun x hx => by rw [nGets_ne (by omega) (by omega)]; exact hKp x hx
  refine j_iconst (v := nI 0) (q := 28) C dX0_priceWith_27 rfl (by decide) ?_
  refine j_istore (lv' := [(7, _), (6, _), (0, _), (1, _), (2, _), (3, _), (5, _)]) (q := 30) C dX0_priceWith_28 rfl (by decide) rfl ?_
  have loop30 : ∀ (m k : Nat) (Mk : jM), nQ True (d + k) pe pa la (vK (aW ah 0) (aW ah 0 + 1) pr lw Mk) (nPl LT d pe pa la bF (nGets K (10 + 10 * i + 0) v) k) → mEq (aS ah pr jg mk) M Mk → k + m = n → jJ G X 0 0 sz Sh Mk 30 [(7, .int (nI k)), (6, .ref (aW ah 0)), (0, .ref ah), (1, .ref w), (5, .int (nI n))] [] := by
    intro m
    induction m with
    | zero =>
      intro k Mk hq hE hk
      have hOk := nPl_ok (LT := LT) (b := bF) hOg hBg hSg k (by omega)
      have hAk := hA.mv hE
      have hWk := (hAk.2.1 0 (by omega)).1
      have hSSx := subA (ah := ah) (pr := pr) (jg := jg) (mk := mk) (i := 0) (by omega)
      refine j_iload (q := 32) C dX0_priceWith_30 rfl rfl ?_
      refine j_iload (q := 34) C dX0_priceWith_32 rfl rfl ?_
      refine j_icmp_ge (q := 37) (tgt := 48) C dX0_priceWith_34 rfl (by decide) (fun c_34 => ?_) (fun c_34 => absurd (nI_le (by omega) (by omega)) c_34)
      obtain rfl : n = k := by omega
      have hOM := hOk.1.q hq
      have ed : Mk.1 (aW ah 0) 8 = nI (d + n) := i32_of (v := vK (aW ah 0) (aW ah 0 + 1) pr lw Mk 0) (by rw [vK_0]) hOM.1.1
      have p1 := hq.at (k := 310 + (d + n)) (by unfold nIn; omega)
      refine j_aload (q := 50) C dX0_priceWith_48 rfl rfl ?_
      refine j_aload (q := 52) C dX0_priceWith_50 rfl rfl ?_
      refine jg_World_day (q := 55) C dX0_priceWith_52 rfl hWk.1.1 kw_212 ?_
      rw [ed]
      refine jV1 jc9 (q := 58) C dX0_priceWith_55 rfl hWk.1.1 mX9_priceOn kw_740 kw_378 kw_379 (ctX9_priceOn hWk rfl (k := d + n) (by omega) (hOM.2.2.2.2.2 _ (by omega)).1) rfl rfl (by decide) (Nat.le_of_ble_eq_true rfl) (by decide) ?_
      rw [p1]
      exact j_lret C E dX0_priceWith_58 rfl rfl (⟨rfl, rfl, rfl, hE, prEnd hq hOg hBg hSg (by omega) hKg⟩)
    | succ m ih =>
      intro k Mk hq hE hk
      have hOk := nPl_ok (LT := LT) (b := bF) hOg hBg hSg k (by omega)
      have hAk := hA.mv hE
      have hWk := (hAk.2.1 0 (by omega)).1
      have hSSx := subA (ah := ah) (pr := pr) (jg := jg) (mk := mk) (i := 0) (by omega)
      refine j_iload (q := 32) C dX0_priceWith_30 rfl rfl ?_
      refine j_iload (q := 34) C dX0_priceWith_32 rfl rfl ?_
      refine j_icmp_ge (q := 37) (tgt := 48) C dX0_priceWith_34 rfl (by decide) (fun c_34 => absurd c_34 (fun h => absurd ((nI_leI (by omega) (by omega)).mp h) (by omega))) (fun c_34 => ?_)
      refine j_aload (q := 39) C dX0_priceWith_37 rfl rfl ?_
      refine jVT jc9 (q := 42) C dX0_priceWith_39 rfl hWk.1.1 mX9_goDay kw_731 kw_610 kw_611 (ctX9_goDay (hAk.2.1 0 (by omega)) rfl (hOk.1.q hq) hAk.2.2.2.2.1 (hAk.2.2.1 0 (by omega)) (hOk.2.1.q hq) (hOk.2.2.q hq) (by omega)) rfl rfl (by decide) (Nat.le_of_ble_eq_true rfl) (by decide) (fun r_39 M_39 h_39 => ?_)
      obtain ⟨rfl, hq2, hE2⟩ := h_39
      have hq3 := hq2.tr (nDay_c hq hOk.1)
      have hE3 := hE.tr (hE2.mono hSSx)
      first | refine j_iincN (lv' := [(7, _), (6, _), (0, _), (1, _), (5, _)]) (q := 45) C dX0_priceWith_42 rfl rfl (by decide) rfl ?_ | refine j_iinc (lv' := [(7, _), (6, _), (0, _), (1, _), (5, _)]) (q := 45) C dX0_priceWith_42 rfl rfl rfl (by decide) rfl ?_
      refine j_goto (tgt := 30) C dX0_priceWith_45 (by decide) ?_
      exact j_fewer (lv' := [(7, .int (nI (k + 1))), (6, .ref (aW ah 0)), (0, .ref ah), (1, .ref w), (5, .int (nI n))]) (by simp) (ih (k + 1) M_39 hq3 hE3 (by omega))
  exact j_fewer (lv' := [(7, .int (nI 0)), (6, .ref (aW ah 0)), (0, .ref ah), (1, .ref w), (5, .int (nI n))]) (by simp) (loop30 n 0 M_24 hq24 hE25 (by omega))

set_option maxRecDepth 100000 in
set_option maxHeartbeats 4000000 in
theorem ctX0_hungerBy {G : jG} {sz : Nat} {Sh : jS} {M : jM} {ah w q pr lw jg mk B la : Nat} {LT : Nat → sT} {K : Nat → Int64} (hA : aCx ah w q pr lw jg mk B la LT Sh M) (hM : vK w q pr lw M = K) {d pe pa : Nat} (hO : nOk K d pe pa la) (hB : nB K d pe) (hS : nS K pa) {sh n : Nat} (hs8 : (Sh sh).1 = 8) (hs0 : M.2.2 sh 0 = some (sh + 1)) (hs13 : Sh (sh + 1) = (13, 20)) (hsz : M.1 sh 2 = nI n) (hn20 : n ≤ 20) (hn : d + n ≤ 300) (hsA : ¬ aS ah pr jg mk sh ∧ ¬ aS ah pr jg mk (sh + 1)) {b : Nat → Bool} (hb : ∀ i, i < n → (M.1 (sh + 1) i = nI 1 ↔ b i = true)) : jC G yX0_hungerBy cX0_hungerBy 5 (Option.some FieldType.long) (jrm 6 0 0) sz Sh M [.ref ah, .ref w, .ref sh] (jT sz Sh (aT ah pr jg mk d M (some (.long (nSum (nPl LT d pe pa la b K n) 5 pe - nSum K 5 pe))))) := by
  refine jC_start (by decide +kernel) (Nat.le_of_ble_eq_true rfl) (fun X C E hN0 => ?_)
  have hpe : pe ≤ 10 := hO.2.1.2
  have hpa : pa ≤ 24 := hO.2.2.1.2
  have hC := hA.2.2.2.2.2.1
  have hW := hC.1
  have hWa := (hA.2.1 0 (by omega)).1
  have hpe6 : M.1 w 6 = nI pe := i32_of (v := K 4) (by rw [← hM, vK_4]) hO.2.1.1
  have hpa7 : M.1 w 7 = nI pa := i32_of (v := K 5) (by rw [← hM, vK_5]) hO.2.2.1.1
  have hKp : ∀ x, x ≤ d → K (310 + x) = M.2.1 pr x := fun x _ => by rw [← hM, vK_p]
  refine j_aload_n (q := 1) C dX0_hungerBy_0 rfl rfl rfl ?_
  refine jg_Ahead_worlds (q := 4) C dX0_hungerBy_1 rfl hA.1.1 kw_228 hA.1.2.1 ?_
  refine j_iconst (v := nI 0) (q := 5) C dX0_hungerBy_4 rfl (by decide) ?_
  refine j_aald (q := 6) C dX0_hungerBy_5 rfl hA.1.2.2.1 (by decide) (by omega) (by decide) (hA.1.2.2.2 0 (by omega)) ?_
  refine j_astore_n (lv' := [(3, _), (0, _), (1, _), (2, _)]) (q := 7) C dX0_hungerBy_6 rfl rfl (by decide) rfl ?_
  refine j_aload_n (q := 8) C dX0_hungerBy_7 rfl rfl rfl ?_
  refine j_aload_n (q := 9) C dX0_hungerBy_8 rfl rfl rfl ?_
  refine jVT jc9 (q := 12) C dX0_hungerBy_9 rfl hWa.1.1 mX9_takeMoving kw_719 kw_720 kw_721 (ctX9_takeMoving hWa hW (hA.2.2.2.1 0 (by omega)) hpe6 hpe hpa7 hpa) rfl rfl (by decide) (Nat.le_of_ble_eq_true rfl) (by decide) (fun r_9 M_9 h_9 => ?_)
  have hq0 := h_9.q (pr := pr) (lw := lw) (d := d) (la := la) hWa.2.2 hpe hpa
  have hE0 := h_9.2.1.mono (subA1 (ah := ah) (pr := pr) (jg := jg) (mk := mk) (i := 0) (by omega))
  obtain ⟨rfl, -⟩ := h_9
  rw [hM] at hq0
  refine j_iconst (v := nI 0) (q := 13) C dX0_hungerBy_12 rfl (by decide) ?_
  refine j_istore (lv' := [(4, _), (3, _), (0, _), (1, _), (2, _)]) (q := 15) C dX0_hungerBy_13 rfl (by decide) rfl ?_
  have loop15 : ∀ (m k : Nat) (Mk : jM), nQ True (d + k) pe pa la (vK (aW ah 0) (aW ah 0 + 1) pr lw Mk) (nPl LT d pe pa la b K k) → mEq (aS ah pr jg mk) M Mk → k + m = n → jJ G X 0 0 sz Sh Mk 15 [(4, .int (nI k)), (3, .ref (aW ah 0)), (0, .ref ah), (1, .ref w), (2, .ref sh)] [] := by
    intro m
    induction m with
    | zero =>
      intro k Mk hq hE hk
      have hOk := nPl_ok (LT := LT) (b := b) hO hB hS k (by omega)
      have hAk := hA.mv hE
      have hWk := (hAk.2.1 0 (by omega)).1
      have hSSx := subA (ah := ah) (pr := pr) (jg := jg) (mk := mk) (i := 0) (by omega)
      have hszk : Mk.1 sh 2 = nI n := (congrFun (hE.1 _ hsA.1) 2).trans hsz
      have hs0k : Mk.2.2 sh 0 = some (sh + 1) := by rw [hE.2.2]; exact hs0
      refine j_iload (q := 17) C dX0_hungerBy_15 rfl rfl ?_
      refine j_aload_n (q := 18) C dX0_hungerBy_17 rfl rfl rfl ?_
      refine jg_Sheet_size (q := 21) C dX0_hungerBy_18 rfl hs8 kw_264 ?_
      rw [hszk]
      refine j_icmp_ge (q := 24) (tgt := 50) C dX0_hungerBy_21 rfl (by decide) (fun c_21 => ?_) (fun c_21 => absurd (nI_le (by omega) (by omega)) c_21)
      obtain rfl : n = k := by omega
      have hOM := hOk.1.q hq
      have eh0 := nSum_c hq (f := 5) (by omega) pe (Nat.le_refl _)
      have hCn := (hAk.2.2.2.2.2.1).1
      have hPn := prEnd hq hO hB hS (by omega) hKp
      have hqn := hA.nowQ (pe := pe) (pa := pa) hE hPn hpe hpa hO.2.2.2.1.2
      rw [hM] at hqn
      have hOn := hO.q hqn
      have eh1 := nSum_c hqn (f := 5) (by omega) pe (Nat.le_refl _)
      refine j_aload_n (q := 51) C dX0_hungerBy_50 rfl rfl rfl ?_
      refine jV1 jc9 (q := 54) C dX0_hungerBy_51 rfl hWk.1.1 mX9_hungerOfAll kw_750 kw_751 kw_752 (ctX9_hungerOfAll hWk rfl hOM.2.1.1 hpe) rfl rfl (by decide) (Nat.le_of_ble_eq_true rfl) (by decide) ?_
      rw [eh0]
      refine j_aload_n (q := 55) C dX0_hungerBy_54 rfl rfl rfl ?_
      refine jV1 jc9 (q := 58) C dX0_hungerBy_55 rfl hCn.1.1 mX9_hungerOfAll kw_750 kw_751 kw_752 (ctX9_hungerOfAll hCn rfl hOn.2.1.1 hpe) rfl rfl (by decide) (Nat.le_of_ble_eq_true rfl) (by decide) ?_
      rw [eh1]
      refine j_lsub (q := 59) C dX0_hungerBy_58 rfl ?_
      exact j_lret C E dX0_hungerBy_59 rfl rfl (⟨rfl, rfl, rfl, hE, hPn⟩)
    | succ m ih =>
      intro k Mk hq hE hk
      have hOk := nPl_ok (LT := LT) (b := b) hO hB hS k (by omega)
      have hAk := hA.mv hE
      have hWk := (hAk.2.1 0 (by omega)).1
      have hSSx := subA (ah := ah) (pr := pr) (jg := jg) (mk := mk) (i := 0) (by omega)
      have hszk : Mk.1 sh 2 = nI n := (congrFun (hE.1 _ hsA.1) 2).trans hsz
      have hs0k : Mk.2.2 sh 0 = some (sh + 1) := by rw [hE.2.2]; exact hs0
      refine j_iload (q := 17) C dX0_hungerBy_15 rfl rfl ?_
      refine j_aload_n (q := 18) C dX0_hungerBy_17 rfl rfl rfl ?_
      refine jg_Sheet_size (q := 21) C dX0_hungerBy_18 rfl hs8 kw_264 ?_
      rw [hszk]
      refine j_icmp_ge (q := 24) (tgt := 50) C dX0_hungerBy_21 rfl (by decide) (fun c_21 => absurd c_21 (fun h => absurd ((nI_leI (by omega) (by omega)).mp h) (by omega))) (fun c_21 => ?_)
      have hE0k : Mk.1 (sh + 1) k = M.1 (sh + 1) k := congrFun (hE.1 _ hsA.2) k
      refine j_aload_n (q := 25) C dX0_hungerBy_24 rfl rfl rfl ?_
      refine jg_Sheet_numbers (q := 28) C dX0_hungerBy_25 rfl hs8 kw_259 hs0k ?_
      refine j_iload (q := 30) C dX0_hungerBy_28 rfl rfl ?_
      refine j_iald (q := 31) C dX0_hungerBy_30 rfl hs13 (by omega) (by decide) ?_
      refine j_iconst (v := nI 1) (q := 32) C dX0_hungerBy_31 rfl (by decide) ?_
      refine j_icmp_ne (q := 35) (tgt := 40) C dX0_hungerBy_32 rfl (by decide) (fun c_32 => ?_) (fun c_32 => ?_)
      · refine j_aload_n (q := 41) C dX0_hungerBy_40 rfl rfl rfl ?_
        refine jVT jc9 (q := 44) C dX0_hungerBy_41 rfl hWk.1.1 mX9_goDay kw_731 kw_610 kw_611 (ctX9_goDay (hAk.2.1 0 (by omega)) rfl (by first | exact hTx.1.q hq | exact hOk.1.q hq) hAk.2.2.2.2.1 (hAk.2.2.1 0 (by omega)) (by first | exact hTx.2.1.q hq | exact hOk.2.1.q hq) (by first | exact hTx.2.2.q hq | exact hOk.2.2.q hq) (by omega)) rfl rfl (by decide) (Nat.le_of_ble_eq_true rfl) (by decide) (fun r_41 M_41 h_41 => ?_)
        obtain ⟨rfl, hq2, hE2⟩ := h_41
        have hE3 := hE.tr (hE2.mono hSSx)
        first | refine j_iincN (lv' := [(4, _), (3, _), (0, _), (1, _), (2, _)]) (q := 47) C dX0_hungerBy_44 rfl rfl (by decide) rfl ?_ | refine j_iinc (lv' := [(4, _), (3, _), (0, _), (1, _), (2, _)]) (q := 47) C dX0_hungerBy_44 rfl rfl rfl (by decide) rfl ?_
        refine j_goto (tgt := 15) C dX0_hungerBy_47 (by decide) ?_
        exact j_fewer (lv' := [(4, .int (nI (k + 1))), (3, .ref (aW ah 0)), (0, .ref ah), (1, .ref w), (2, .ref sh)]) (by simp) (ih (k + 1) M_41 (by rw [nPl_f (fun h => c_32 (by rw [hE0k]; exact (hb k (by omega)).mpr h))]; exact hq2.tr (nDay_c hq hOk.1)) hE3 (by omega))
      · refine j_aload_n (q := 36) C dX0_hungerBy_35 rfl rfl rfl ?_
        refine jVT jc9 (q := 39) C dX0_hungerBy_36 rfl hWk.1.1 mX9_collectTax kw_769 kw_697 kw_698 (ctX9_collectTax hWk rfl (hOk.1.q hq).2.1.1 hpe) rfl rfl (by decide) (Nat.le_of_ble_eq_true rfl) (by decide) (fun r_36 M_36 h_36 => ?_)
        obtain ⟨rfl, hM36, hE36⟩ := h_36
        have hqT : nQ True (d + k) pe pa la (vK (aW ah 0) (aW ah 0 + 1) pr lw M_36) (nTaxed (nPl LT d pe pa la b K k) pe) := by
          rw [hM36]
          exact nTaxed_c hq
        have hTx := tx_ok hOk.1 hOk.2.1 hOk.2.2
        have hbk : b k = true := (hb k (by omega)).mp (by rw [← hE.1 _ hsA.2]; exact c_32)
        replace hE := hE.tr (hE36.mono (subA0 (ah := ah) (pr := pr) (jg := jg) (mk := mk) (i := 0) (by omega)))
        replace hAk := hA.mv hE
        replace hWk := (hAk.2.1 0 (by omega)).1
        clear hq
        have hq := hqT
        refine j_pop2 (q := 40) C dX0_hungerBy_39 rfl rfl ?_
        refine j_aload_n (q := 41) C dX0_hungerBy_40 rfl rfl rfl ?_
        refine jVT jc9 (q := 44) C dX0_hungerBy_41 rfl hWk.1.1 mX9_goDay kw_731 kw_610 kw_611 (ctX9_goDay (hAk.2.1 0 (by omega)) rfl (by first | exact hTx.1.q hq | exact hOk.1.q hq) hAk.2.2.2.2.1 (hAk.2.2.1 0 (by omega)) (by first | exact hTx.2.1.q hq | exact hOk.2.1.q hq) (by first | exact hTx.2.2.q hq | exact hOk.2.2.q hq) (by omega)) rfl rfl (by decide) (Nat.le_of_ble_eq_true rfl) (by decide) (fun r_41 M_41 h_41 => ?_)
        obtain ⟨rfl, hq2, hE2⟩ := h_41
        have hE3 := hE.tr (hE2.mono hSSx)
        first | refine j_iincN (lv' := [(4, _), (3, _), (0, _), (1, _), (2, _)]) (q := 47) C dX0_hungerBy_44 rfl rfl (by decide) rfl ?_ | refine j_iinc (lv' := [(4, _), (3, _), (0, _), (1, _), (2, _)]) (q := 47) C dX0_hungerBy_44 rfl rfl rfl (by decide) rfl ?_
        refine j_goto (tgt := 15) C dX0_hungerBy_47 (by decide) ?_
        exact j_fewer (lv' := [(4, .int (nI (k + 1))), (3, .ref (aW ah 0)), (0, .ref ah), (1, .ref w), (2, .ref sh)]) (by simp) (ih (k + 1) M_41 (by rw [nPl_t hbk]; exact hq2.tr (nDay_c hq hTx.1)) hE3 (by omega))
  exact j_fewer (lv' := [(4, .int (nI 0)), (3, .ref (aW ah 0)), (0, .ref ah), (1, .ref w), (2, .ref sh)]) (by simp) (loop15 n 0 M_9 hq0 hE0 (by omega))

