/-- what a search may change from a depth on -/
def aSd (ah pr jg mk D b : Nat) : Prop := b = ah ∨ (aW ah (D + 1) ≤ b ∧ b < ah + 335) ∨ b = pr ∨ b = jg + 1 ∨ b = jg + 2 ∨ b = mk + 1 ∨ b = mk + 2
theorem aSd_A {ah pr jg mk D : Nat} : ∀ b, aSd ah pr jg mk D b → aS ah pr jg mk b := fun b h => by
  unfold aSd aW at h
  unfold aS
  omega
theorem aSd_s {ah pr jg mk D : Nat} : ∀ b, aSd ah pr jg mk (D + 1) b → aSd ah pr jg mk D b := fun b h => by
  unfold aSd aW at h ⊢
  omega
theorem aSd_X {ah pr jg mk D : Nat} (hD : D < 8) : ∀ b, wSX (aW ah (D + 1)) (aW ah (D + 1) + 1) pr jg mk b → aSd ah pr jg mk D b := fun b h => by
  unfold wSX wSJ wS0 mS aW at h
  unfold aSd aW
  omega
theorem aSd_0 {ah pr jg mk D : Nat} (hD : D < 8) : ∀ b, wS0 (aW ah (D + 1)) (aW ah (D + 1) + 1) pr b → aSd ah pr jg mk D b := fun b h => by
  unfold wS0 aW at h
  unfold aSd aW
  omega
theorem aSd_1 {ah pr jg mk D : Nat} (hD : D < 8) : ∀ b, wS1 (aW ah (D + 1)) (aW ah (D + 1) + 1) b → aSd ah pr jg mk D b := fun b h => by
  unfold wS1 aW at h
  unfold aSd aW
  omega
/-- a world at a depth, over a search below it -/
theorem aCx.dep {ah w q pr lw jg mk B la D d pe pa : Nat} {LT : Nat → sT} {Sh : jS} {M M' : jM} (h : aCx ah w q pr lw jg mk B la LT Sh M) (hD : D < 9) (e : mEq (aSd ah pr jg mk D) M M') (hp : ∀ k, k ≤ d → M'.2.1 pr k = M.2.1 pr k) (hpe : pe ≤ 10) (hpa : pa ≤ 24) (hla : la ≤ 12) : nQ True d pe pa la (vK (aW ah D) (aW ah D + 1) pr lw M') (vK (aW ah D) (aW ah D + 1) pr lw M) := fun k hk => by
  have hC := h.2.1 D hD
  have hDis := hC.1.2.2
  have h7 := h.2.2.2.2.2.2.1
  have h8 := h.2.2.1 D hD
  have h5 := hC.2.2.2.2.1
  unfold wDis at hDis
  unfold mAp at h8
  by_cases c : k < 310
  · have key : ∀ b, (b = aW ah D ∨ (aW ah D + 1 + 2 ≤ b ∧ b < aW ah D + 1 + 36)) → ¬ aSd ah pr jg mk D b := fun b hb hs => by
      have g1 := h8.1
      have g2 := h8.2.1
      have g3 := h5.1
      have g4 := h5.2
      unfold aSd at hs
      unfold wS0 at g1 g2 g3 g4
      unfold aW at *
      omega
    have keyL : ∀ b, (lw ≤ b ∧ b ≤ lw + 4) → ¬ aSd ah pr jg mk D b := fun b hb hs => h7 b (Or.inr (Or.inr hb)) (aSd_A b hs)
    exact vK_same (fun _ => ⟨fun _ => congrFun (e.1 _ (key _ (by omega))) _, fun _ => congrFun (e.1 _ (key _ (by omega))) _, fun _ => congrFun (e.1 _ (key _ (by omega))) _, fun _ => congrFun (e.1 _ (keyL _ (by omega))) _, fun _ => congrFun (e.2.1 _ (key _ (by omega))) _, fun _ => congrFun (e.2.1 _ (key _ (by omega))) _, fun _ => congrFun (e.2.1 _ (key _ (by omega))) _⟩) (fun i f hi hf ek => ⟨fun _ => congrFun (e.1 _ (key _ (by omega))) _, fun _ => congrFun (e.2.1 _ (key _ (by omega))) _⟩) (fun j f hj hf ek => ⟨fun _ => congrFun (e.1 _ (key _ (by omega))) _, fun _ => congrFun (e.2.1 _ (key _ (by omega))) _⟩) (fun l hl => ⟨fun _ => congrFun (e.1 _ (keyL _ (by omega))) _, fun _ => congrFun (e.1 _ (keyL _ (by omega))) _⟩) (fun d ek => by omega)
  · obtain ⟨x, rfl⟩ : ∃ x, k = 310 + x := ⟨k - 310, by omega⟩
    rw [vK_p, vK_p]
    refine hp x ?_
    rcases hk with hk | ⟨-, hk⟩
    · unfold nIn at hk; omega
    · omega
theorem prKeep {w0 q0 w1 q1 pr lw d e pe pa la : Nat} {M M2 : jM} {K K2 : Nat → Int64} (hq : nQ True d pe pa la (vK w0 q0 pr lw M) K) (hq2 : nQ True e pe pa la (vK w1 q1 pr lw M2) K2) (hde : d ≤ e) (hK : ∀ x, x ≤ d → K2 (310 + x) = K (310 + x)) : ∀ x, x ≤ d → M2.2.1 pr x = M.2.1 pr x := fun x hx => by
  have h1 := hq.at (k := 310 + x) (by unfold nIn; omega)
  have h2 := hq2.at (k := 310 + x) (by unfold nIn; omega)
  rw [vK_p] at h1 h2
  rw [h2, hK x hx, h1]
/-- the ends of a search -/
def sEnd (ah pr jg mk D dd : Nat) (H P : Nat → Int64) (V : Nat → Prop) (M : jM) : Option Value → jM → Prop := fun r M2 => r = none ∧ mEq (aSd ah pr jg mk D) M M2 ∧ bRel ah H P V M2 ∧ M2.2.1 ah 1 = M.2.1 ah 1 ∧ ∀ k, k ≤ dd → M2.2.1 pr k = M.2.1 pr k
def sV (n D s : Nat) (V : Nat → Prop) : Nat → Prop := fun z => V z ∨ (z < 2 ^ n ∧ z % 2 ^ D = s)
theorem sV_n {n s : Nat} {V : Nat → Prop} (h : s < 2 ^ n) (z : Nat) : (V z ∨ z = s) ↔ sV n n s V z := by
  unfold sV
  constructor
  · rintro (h1 | rfl)
    · exact Or.inl h1
    · exact Or.inr ⟨h, Nat.mod_eq_of_lt h⟩
  · rintro (h1 | ⟨h1, h2⟩)
    · exact Or.inl h1
    · rw [Nat.mod_eq_of_lt h1] at h2
      exact Or.inr h2
theorem sV_s {n D s : Nat} {V : Nat → Prop} (h : s < 2 ^ D) (z : Nat) : sV n (D + 1) (s + 2 ^ D) (sV n (D + 1) s V) z ↔ sV n D s V z := by
  have e : z % 2 ^ (D + 1) = z % 2 ^ D + 2 ^ D * (z / 2 ^ D % 2) := by rw [Nat.pow_succ, Nat.mod_mul]
  have l := Nat.mod_lt z (Nat.two_pow_pos D)
  unfold sV
  rw [e]
  rcases Nat.mod_two_eq_zero_or_one (z / 2 ^ D) with c | c
  · rw [c]
    constructor
    · rintro ((h1 | ⟨h1, h2⟩) | ⟨h1, h2⟩)
      · exact Or.inl h1
      · exact Or.inr ⟨h1, by omega⟩
      · omega
    · rintro (h1 | ⟨h1, h2⟩)
      · exact Or.inl (Or.inl h1)
      · exact Or.inl (Or.inr ⟨h1, by omega⟩)
  · rw [c]
    constructor
    · rintro ((h1 | ⟨h1, h2⟩) | ⟨h1, h2⟩)
      · exact Or.inl h1
      · omega
      · exact Or.inr ⟨h1, by omega⟩
    · rintro (h1 | ⟨h1, h2⟩)
      · exact Or.inl (Or.inl h1)
      · exact Or.inr ⟨h1, by omega⟩
set_option maxRecDepth 100000 in
set_option maxHeartbeats 4000000 in
theorem ctX0_beginSearch {G : jG} {sz : Nat} {Sh : jS} {M : jM} {ah w q pr lw jg mk B la : Nat} {LT : Nat → sT} {K : Nat → Int64} (hA : aCx ah w q pr lw jg mk B la LT Sh M) (hM : vK w q pr lw M = K) {d pe pa : Nat} (hO : nOk K d pe pa la) (hB : nB K d pe) (hS : nS K pa) (hahN : ∀ b, (lw ≤ b ∧ b ≤ lw + 4) → b ≠ ah) (hahP : pr ≠ ah) : jC G yX0_beginSearch cX0_beginSearch 2 (Option.none : Option FieldType) (jrm 3 0 0) sz Sh M [.ref ah, .ref w] (jT sz Sh (fun r M2 => r = none ∧ mEq (aS ah pr jg mk) M M2 ∧ nQ True d pe pa la (vK (aW ah 0) (aW ah 0 + 1) pr lw M2) K ∧ M2.2.1 ah 1 = nSum K 5 pe ∧ M2.1 ah 5 = -1 ∧ ∀ k, k ≤ d → M2.2.1 pr k = M.2.1 pr k)) := by
  refine jC_start (by decide +kernel) (Nat.le_of_ble_eq_true rfl) (fun X C E hN0 => ?_)
  have hpe : pe ≤ 10 := hO.2.1.2
  have hpa : pa ≤ 24 := hO.2.2.1.2
  have hC := hA.2.2.2.2.2.1
  have hW := hC.1
  have hWa := (hA.2.1 0 (by omega)).1
  have hpe6 : M.1 w 6 = nI pe := i32_of (v := K 4) (by rw [← hM, vK_4]) hO.2.1.1
  have hpa7 : M.1 w 7 = nI pa := i32_of (v := K 5) (by rw [← hM, vK_5]) hO.2.2.1.1
  refine j_aload_n (q := 1) C dX0_beginSearch_0 rfl rfl rfl ?_
  refine jg_Ahead_worlds (q := 4) C dX0_beginSearch_1 rfl hA.1.1 kw_228 hA.1.2.1 ?_
  refine j_iconst (v := nI 0) (q := 5) C dX0_beginSearch_4 rfl (by decide) ?_
  refine j_aald (q := 6) C dX0_beginSearch_5 rfl hA.1.2.2.1 (by decide) (by omega) (by decide) (hA.1.2.2.2 0 (by omega)) ?_
  refine j_aload_n (q := 7) C dX0_beginSearch_6 rfl rfl rfl ?_
  refine jVT jc9 (q := 10) C dX0_beginSearch_7 rfl hWa.1.1 mX9_takeMoving kw_719 kw_720 kw_721 (ctX9_takeMoving hWa hW (hA.2.2.2.1 0 (by omega)) hpe6 hpe hpa7 hpa) rfl rfl (by decide) (Nat.le_of_ble_eq_true rfl) (by decide) (fun r_7 M_7 h_7 => ?_)
  have hq0 := h_7.q (pr := pr) (lw := lw) (d := d) (la := la) hWa.2.2 hpe hpa
  have hE0 := h_7.2.1.mono (subA1 (ah := ah) (pr := pr) (jg := jg) (mk := mk) (i := 0) (by omega))
  have hEs := h_7.2.1
  obtain ⟨rfl, -⟩ := h_7
  rw [hM] at hq0
  have hA7 := hA.mv hE0
  have hW7 := (hA7.2.2.2.2.2.1).1
  have hq7 := hA.nowQ (d := d) (pe := pe) (pa := pa) hE0 (fun k _ => congrFun (hEs.2.1 _ (by have := hA.2.2.2.2.2.2.1 w (Or.inl rfl); have h1 := hWa.2.2; unfold wDis at h1; unfold wS1; omega)) k) hpe hpa hO.2.2.2.1.2
  rw [hM] at hq7
  have hO7 := hO.q hq7
  have e5 := nSum_c hq7 (f := 5) (by omega) pe (Nat.le_refl _)
  refine j_aload_n (q := 11) C dX0_beginSearch_10 rfl rfl rfl ?_
  refine j_aload_n (q := 12) C dX0_beginSearch_11 rfl rfl rfl ?_
  refine jV1 jc9 (q := 15) C dX0_beginSearch_12 rfl hW7.1.1 mX9_hungerOfAll kw_750 kw_751 kw_752 (ctX9_hungerOfAll hW7 rfl hO7.2.1.1 hpe) rfl rfl (by decide) (Nat.le_of_ble_eq_true rfl) (by decide) ?_
  rw [e5]
  refine jp_Ahead_hungerBefore (q := 18) C dX0_beginSearch_15 rfl hA.1.1 kw_229 ?_
  refine j_aload_n (q := 19) C dX0_beginSearch_18 rfl rfl rfl ?_
  refine j_iconst (v := (-1)) (q := 20) C dX0_beginSearch_19 rfl (by decide) ?_
  refine jp_Ahead_bestNumber (q := 23) C dX0_beginSearch_20 rfl hA.1.1 kw_235 ?_
  exact j_vret C E dX0_beginSearch_23 rfl rfl (by
        have h1 : (aW ah 0) ≠ ah := by unfold aW; omega
        have hE9 : mEq (aS ah pr jg mk) M_7 (jsI (jsL M_7 ah 1 (nSum K 5 pe)) ah 5 (-1)) := ((mEq.rf (S := aS ah pr jg mk)).L (by unfold aS; omega)).I (by unfold aS; omega)
        refine ⟨rfl, rfl, rfl, hE0.tr hE9, ?_, ?_, ?_, ?_⟩
        · intro k hk
          have hd := hWa.2.2
          rw [← hq0 k hk]
          refine vK_same (fun _ => ⟨fun _ => ?_, fun _ => ?_, fun _ => ?_, fun _ => ?_, fun _ => ?_, fun _ => ?_, fun _ => ?_⟩) (fun i f hi hf ek => ⟨fun _ => ?_, fun _ => ?_⟩) (fun j f hj hf ek => ⟨fun _ => ?_, fun _ => ?_⟩) (fun l hl => ⟨fun _ => ?_, fun _ => ?_⟩) (fun d ek => ?_)
          all_goals first | exact upI (fun e => by unfold aW at e; omega) | exact upL (fun e => by unfold aW at e; omega) | exact upI (fun e => absurd e.1 (hahN _ (by omega))) | exact upL (fun e => absurd e.1 hahP)
        · simp [jsI, jsL, jup]
        · simp [jsI, jsL, jup]
        · intro k hk
          show (jsL M_7 ah 1 (nSum K 5 pe)).2.1 pr k = _
          rw [upL (fun e => hahP e.1)]
          exact congrFun (hEs.2.1 _ (by have h1 := hWa.2.2; unfold wDis at h1; unfold wS1; omega)) k)

theorem shl1 {D : Nat} (h : D < 8) : nI 1 <<< (nI D &&& 31) = nI (2 ^ D) := by
  rcases (show D = 0 ∨ D = 1 ∨ D = 2 ∨ D = 3 ∨ D = 4 ∨ D = 5 ∨ D = 6 ∨ D = 7 by omega) with e | e | e | e | e | e | e | e <;> subst e <;> decide
theorem or1 {D s : Nat} (h : D < 8) (hs : s < 2 ^ D) : nI s ||| nI (2 ^ D) = nI (s + 2 ^ D) := by
  have h0 : ∀ D, D < 8 → ∀ s, s < 128 → s < 2 ^ D → nI s ||| nI (2 ^ D) = nI (s + 2 ^ D) := by decide +kernel
  exact h0 D h s (Nat.lt_of_lt_of_le hs (Nat.pow_le_pow_right (n := 2) (by omega) (show D ≤ 7 by omega))) hs
set_option maxRecDepth 100000 in
set_option maxHeartbeats 4000000 in
theorem ctX0_search {G : jG} {sz : Nat} {Sh : jS} {ah w q pr lw jg mk B la : Nat} {LT : Nat → sT} {K : Nat → Int64} {d pe pa n : Nat} (hO : nOk K d pe pa la) (hB : nB K d pe) (hS : nS K pa) (hn8 : n ≤ 8) (hn : d + n ≤ 300) (hpa0 : pr ≠ ah ∧ jg + 1 ≠ ah ∧ jg + 2 ≠ ah ∧ mk + 1 ≠ ah ∧ mk + 2 ≠ ah) : ∀ (m D s : Nat) (V : Nat → Prop) (M : jM), aCx ah w q pr lw jg mk B la LT Sh M → D + m = n → s < 2 ^ D → nQ True (d + D) pe pa la (vK (aW ah D) (aW ah D + 1) pr lw M) (nPl LT d pe pa la (bt s) K D) → M.2.1 ah 1 = nSum K 5 pe → bRel ah (hK LT d pe pa la n K) (pK LT d pe pa la n K) V M →  jC G yX0_search cX0_search 5 (Option.none : Option FieldType) (jrm (32 + m) 0 0) sz Sh M [.ref ah, .int (nI D), .int (nI n), .int (nI s)] (jT sz Sh (sEnd ah pr jg mk D (d + D) (hK LT d pe pa la n K) (pK LT d pe pa la n K) (sV n D s V) M)) := by
  intro m
  induction m with
  | zero =>
    intro D s V M hA hDn hs hq h1 hbr
    obtain rfl : D = n := by omega
    have h2D : 2 ^ D ≤ 2 ^ 8 := Nat.pow_le_pow_right (by omega) hn8
    have hs256 : s < 256 := by omega
    have hpe : pe ≤ 10 := hO.2.1.2
    have hOk := nPl_ok (LT := LT) (b := bt s) hO hB hS D hn
    refine jC_start (by decide +kernel) (Nat.le_of_ble_eq_true rfl) (fun X C E hN0 => ?_)
    refine j_iload_n (q := 1) C dX0_search_0 rfl rfl rfl ?_
    refine j_iload_n (q := 2) C dX0_search_1 rfl rfl rfl ?_
    refine j_icmp_ge (q := 5) (tgt := 11) C dX0_search_2 rfl (by decide) (fun c_2 => ?_) (fun c_2 => absurd (nI_le (by omega) (by omega)) c_2)
    refine j_aload_n (q := 12) C dX0_search_11 rfl rfl rfl ?_
    refine j_aload_n (q := 13) C dX0_search_12 rfl rfl rfl ?_
    refine jg_Ahead_worlds (q := 16) C dX0_search_13 rfl hA.1.1 kw_228 hA.1.2.1 ?_
    refine j_iload_n (q := 17) C dX0_search_16 rfl rfl rfl ?_
    refine j_aald (q := 18) C dX0_search_17 rfl hA.1.2.2.1 (by decide) (show D < 9 by omega) (by decide) (hA.1.2.2.2 (D) (by omega)) ?_
    refine j_iload_n (q := 19) C dX0_search_18 rfl rfl rfl ?_
    refine jVT jc0 (q := 22) C dX0_search_19 rfl hA.1.1 mX0_weigh kw_756 kw_757 kw_23 (ctX0_weigh hA.1.1 (hA.2.1 D (by omega)).1 hq hOk.1 hbr hs256 (by rw [h1]; rfl) rfl) rfl rfl (by show 2 + 1 ≤ 32 + 0 ∧ 40 * (2 + 1) ≤ 40 * (32 + 0) ∧ _; exact ⟨by omega, by omega, by decide⟩) (Nat.le_of_ble_eq_true rfl) ⟨Nat.zero_le _, Nat.zero_le _⟩ (fun r_19 M_19 h_19 => ?_)
    obtain ⟨rfl, hE9, hb9, h19⟩ := h_19
    exact j_vret C E dX0_search_22 rfl rfl (⟨rfl, rfl, rfl, hE9.mono (fun b hb => Or.inl hb), hb9.congr (fun z => sV_n hs z), h19, fun k _ => congrFun (hE9.2.1 pr hpa0.1) k⟩)
  | succ m ih =>
    intro D s V M hA hDn hs hq h1 hbr
    have h2D : 2 ^ D ≤ 2 ^ 7 := Nat.pow_le_pow_right (by omega) (by omega)
    have h2E : 2 ^ (D + 1) = 2 ^ D + 2 ^ D := by rw [Nat.pow_succ]; omega
    have hpe : pe ≤ 10 := hO.2.1.2
    have hpa : pa ≤ 24 := hO.2.2.1.2
    have hOk := nPl_ok (LT := LT) (b := bt s) hO hB hS D (by omega)
    have hOq := hOk.1.q hq
    have hpe6 : M.1 (aW ah D) 6 = nI pe := i32_of (v := vK (aW ah D) (aW ah D + 1) pr lw M 4) (by rw [vK_4]) hOq.2.1.1
    have hpa7 : M.1 (aW ah D) 7 = nI pa := i32_of (v := vK (aW ah D) (aW ah D + 1) pr lw M 5) (by rw [vK_5]) hOq.2.2.1.1
    refine jC_start (by decide +kernel) (Nat.le_of_ble_eq_true rfl) (fun X C E hN0 => ?_)
    refine j_iload_n (q := 1) C dX0_search_0 rfl rfl rfl ?_
    refine j_iload_n (q := 2) C dX0_search_1 rfl rfl rfl ?_
    refine j_icmp_ge (q := 5) (tgt := 11) C dX0_search_2 rfl (by decide) (fun c_2 => absurd c_2 (fun h => absurd ((nI_leI (by omega) (by omega)).mp h) (by omega))) (fun c_2 => ?_)
    refine j_iload_n (q := 6) C dX0_search_5 rfl rfl rfl ?_
    refine j_bipush (v := nI 8) (q := 8) C dX0_search_6 rfl (by decide) ?_
    refine j_icmp_lt (q := 11) (tgt := 23) C dX0_search_8 rfl (by decide) (fun c_8 => ?_) (fun c_8 => absurd (nI_lt (by omega) (by omega)) c_8)
    refine j_aload_n (q := 24) C dX0_search_23 rfl rfl rfl ?_
    refine jg_Ahead_worlds (q := 27) C dX0_search_24 rfl hA.1.1 kw_228 hA.1.2.1 ?_
    refine j_iload_n (q := 28) C dX0_search_27 rfl rfl rfl ?_
    refine j_iconst (v := nI 1) (q := 29) C dX0_search_28 rfl (by decide) ?_
    first | refine j_iaddN (q := 30) C dX0_search_29 rfl ?_ | refine j_iadd (q := 30) C dX0_search_29 rfl ?_
    refine j_aald (q := 31) C dX0_search_30 rfl hA.1.2.2.1 (by decide) (show D + 1 < 9 by omega) (by decide) (hA.1.2.2.2 (D + 1) (by omega)) ?_
    refine j_astore (lv' := [(4, _), (0, _), (1, _), (2, _), (3, _)]) (q := 33) C dX0_search_31 rfl (by decide) rfl ?_
    refine j_aload (q := 35) C dX0_search_33 rfl rfl ?_
    refine j_aload_n (q := 36) C dX0_search_35 rfl rfl rfl ?_
    refine jg_Ahead_worlds (q := 39) C dX0_search_36 rfl hA.1.1 kw_228 hA.1.2.1 ?_
    refine j_iload_n (q := 40) C dX0_search_39 rfl rfl rfl ?_
    refine j_aald (q := 41) C dX0_search_40 rfl hA.1.2.2.1 (by decide) (show D < 9 by omega) (by decide) (hA.1.2.2.2 (D) (by omega)) ?_
    refine jVT jc9 (q := 44) C dX0_search_41 rfl (hA.2.1 (D + 1) (by omega)).1.1.1 mX9_takeMoving kw_719 kw_720 kw_721 (ctX9_takeMoving (hA.2.1 (D + 1) (by omega)).1 (hA.2.1 D (by omega)).1 (by unfold wTwo aW; omega) hpe6 hpe hpa7 hpa) rfl rfl (by show 2 + 1 ≤ 32 + (m + 1) ∧ 40 * (2 + 1) ≤ 40 * (32 + (m + 1)) ∧ _; exact ⟨by omega, by omega, by decide⟩) (Nat.le_of_ble_eq_true rfl) ⟨Nat.zero_le _, Nat.zero_le _⟩ (fun r_41 M_41 h_41 => ?_)
    have hq41 := h_41.q (pr := pr) (lw := lw) (d := d + D) (la := la) (hA.2.1 (D + 1) (by omega)).1.2.2 hpe hpa
    have hE41 := h_41.2.1.mono (aSd_1 (ah := ah) (pr := pr) (jg := jg) (mk := mk) (by omega : D < 8))
    have hEq41 := h_41.2.1
    obtain ⟨rfl, -⟩ := h_41
    replace hq41 := hq41.tr hq
    have hA41 := hA.mv (hE41.mono aSd_A)
    
    refine j_aload (q := 46) C dX0_search_44 rfl rfl ?_
    refine jVT jc9 (q := 49) C dX0_search_46 rfl (hA41.2.1 (D + 1) (by omega)).1.1.1 mX9_goDay kw_731 kw_610 kw_611 (ctX9_goDay (hA41.2.1 (D + 1) (by omega)) rfl (hOk.1.q hq41) hA41.2.2.2.2.1 (hA41.2.2.1 (D + 1) (by omega)) (hOk.2.1.q hq41) (hOk.2.2.q hq41) (by omega)) rfl rfl (by show 5 + 1 ≤ 32 + (m + 1) ∧ 40 * (5 + 1) ≤ 40 * (32 + (m + 1)) ∧ _; exact ⟨by omega, by omega, by decide⟩) (Nat.le_of_ble_eq_true rfl) ⟨Nat.zero_le _, Nat.zero_le _⟩ (fun r_46 M_46 h_46 => ?_)
    obtain ⟨rfl, hq46, hE46⟩ := h_46
    replace hq46 := hq46.tr (nDay_c hq41 hOk.1)
    have hE46a := hE41.tr (hE46.mono (aSd_X (by omega)))
    have hA46 := hA.mv (hE46a.mono aSd_A)
    have eb0 : nPl LT d pe pa la (bt s) K (D + 1) = nDay LT (d + D) pe pa la (nPl LT d pe pa la (bt s) K D) := nPl_f (bt_low hs)
    have hah46 : M_46.1 ah = M.1 ah ∧ M_46.2.1 ah = M.2.1 ah := by
      have hz : ¬ wS1 (aW ah (D + 1)) (aW ah (D + 1) + 1) ah := by unfold wS1 aW; omega
      have hz2 : ¬ wSX (aW ah (D + 1)) (aW ah (D + 1) + 1) pr jg mk ah := by unfold wSX wSJ wS0 mS aW; omega
      exact ⟨(hE46.1 _ hz2).trans (hEq41.1 _ hz), (hE46.2.1 _ hz2).trans (hEq41.2.1 _ hz)⟩
    refine j_aload_n (q := 50) C dX0_search_49 rfl rfl rfl ?_
    refine j_iload_n (q := 51) C dX0_search_50 rfl rfl rfl ?_
    refine j_iconst (v := nI 1) (q := 52) C dX0_search_51 rfl (by decide) ?_
    first | refine j_iaddN (q := 53) C dX0_search_52 rfl ?_ | refine j_iadd (q := 53) C dX0_search_52 rfl ?_
    refine j_iload_n (q := 54) C dX0_search_53 rfl rfl rfl ?_
    refine j_iload_n (q := 55) C dX0_search_54 rfl rfl rfl ?_
    refine jVT jc0 (q := 58) C dX0_search_55 rfl hA46.1.1 mX0_search kw_768 kw_754 kw_22 (ih (D + 1) s V M_46 hA46 (by omega) (by omega) (by rw [eb0]; exact hq46) ((congrFun hah46.2 1).trans h1) (hbr.mv hah46.1 hah46.2)) rfl rfl (by show (32 + m) + 1 ≤ 32 + (m + 1) ∧ 40 * ((32 + m) + 1) ≤ 40 * (32 + (m + 1)) ∧ _; exact ⟨by omega, by omega, by decide⟩) (Nat.le_of_ble_eq_true rfl) ⟨Nat.zero_le _, Nat.zero_le _⟩ (fun r_55 M_55 h_55 => ?_)
    obtain ⟨rfl, hE55, hb55, h55, hp55⟩ := h_55
    have hE55a := hE46a.tr (hE55.mono aSd_s)
    have hA55 := hA.mv (hE55a.mono aSd_A)
    have hp46 := prKeep hq hq46 (Nat.le_succ _) (fun x hx => nDay_pr hOk.1 hx)
    have hpD : ∀ x, x ≤ d + D → M_55.2.1 pr x = M.2.1 pr x := fun x hx => (hp55 x (by omega)).trans (hp46 x hx)
    have hqD := (hA.dep (d := d + D) (pe := pe) (pa := pa) (by omega) hE55a hpD hpe hpa hO.2.2.2.1.2).tr hq
    have hpe6b : M_55.1 (aW ah D) 6 = nI pe := i32_of (v := vK (aW ah D) (aW ah D + 1) pr lw M_55 4) (by rw [vK_4]) (hOk.1.q hqD).2.1.1
    have hpa7b : M_55.1 (aW ah D) 7 = nI pa := i32_of (v := vK (aW ah D) (aW ah D + 1) pr lw M_55 5) (by rw [vK_5]) (hOk.1.q hqD).2.2.1.1
    refine j_aload (q := 60) C dX0_search_58 rfl rfl ?_
    refine j_aload_n (q := 61) C dX0_search_60 rfl rfl rfl ?_
    refine jg_Ahead_worlds (q := 64) C dX0_search_61 rfl hA55.1.1 kw_228 hA55.1.2.1 ?_
    refine j_iload_n (q := 65) C dX0_search_64 rfl rfl rfl ?_
    refine j_aald (q := 66) C dX0_search_65 rfl hA55.1.2.2.1 (by decide) (show D < 9 by omega) (by decide) (hA55.1.2.2.2 (D) (by omega)) ?_
    refine jVT jc9 (q := 69) C dX0_search_66 rfl (hA55.2.1 (D + 1) (by omega)).1.1.1 mX9_takeMoving kw_719 kw_720 kw_721 (ctX9_takeMoving (hA55.2.1 (D + 1) (by omega)).1 (hA55.2.1 D (by omega)).1 (by unfold wTwo aW; omega) hpe6b hpe hpa7b hpa) rfl rfl (by show 2 + 1 ≤ 32 + (m + 1) ∧ 40 * (2 + 1) ≤ 40 * (32 + (m + 1)) ∧ _; exact ⟨by omega, by omega, by decide⟩) (Nat.le_of_ble_eq_true rfl) ⟨Nat.zero_le _, Nat.zero_le _⟩ (fun r_66 M_66 h_66 => ?_)
    have hq66 := h_66.q (pr := pr) (lw := lw) (d := d + D) (la := la) (hA55.2.1 (D + 1) (by omega)).1.2.2 hpe hpa
    have hEq66 := h_66.2.1
    have hE66 := hE55a.tr (hEq66.mono (aSd_1 (ah := ah) (pr := pr) (jg := jg) (mk := mk) (by omega : D < 8)))
    obtain ⟨rfl, -⟩ := h_66
    replace hq66 := hq66.tr hqD
    have hA66 := hA.mv (hE66.mono aSd_A)
    refine j_aload (q := 71) C dX0_search_69 rfl rfl ?_
    refine jVT jc9 (q := 74) C dX0_search_71 rfl (hA66.2.1 (D + 1) (by omega)).1.1.1 mX9_collectTax kw_769 kw_697 kw_698 (ctX9_collectTax (hA66.2.1 (D + 1) (by omega)).1 rfl (hOk.1.q hq66).2.1.1 hpe) rfl rfl (by show 2 + 1 ≤ 32 + (m + 1) ∧ 40 * (2 + 1) ≤ 40 * (32 + (m + 1)) ∧ _; exact ⟨by omega, by omega, by decide⟩) (Nat.le_of_ble_eq_true rfl) ⟨Nat.zero_le _, Nat.zero_le _⟩ (fun r_71 M_71 h_71 => ?_)
    obtain ⟨rfl, hM71, hE71⟩ := h_71
    have hq71 : nQ True (d + D) pe pa la (vK (aW ah (D + 1)) (aW ah (D + 1) + 1) pr lw M_71) (nTaxed (nPl LT d pe pa la (bt s) K D) pe) := by
      rw [hM71]
      exact nTaxed_c hq66
    have hE71a := hE66.tr (hE71.mono (aSd_0 (by omega)))
    have hA71 := hA.mv (hE71a.mono aSd_A)
    have hTx := tx_ok hOk.1 hOk.2.1 hOk.2.2
    refine j_pop2 (q := 75) C dX0_search_74 rfl rfl ?_
    refine j_aload (q := 77) C dX0_search_75 rfl rfl ?_
    refine jVT jc9 (q := 80) C dX0_search_77 rfl (hA71.2.1 (D + 1) (by omega)).1.1.1 mX9_goDay kw_731 kw_610 kw_611 (ctX9_goDay (hA71.2.1 (D + 1) (by omega)) rfl (hTx.1.q hq71) hA71.2.2.2.2.1 (hA71.2.2.1 (D + 1) (by omega)) (hTx.2.1.q hq71) (hTx.2.2.q hq71) (by omega)) rfl rfl (by show 5 + 1 ≤ 32 + (m + 1) ∧ 40 * (5 + 1) ≤ 40 * (32 + (m + 1)) ∧ _; exact ⟨by omega, by omega, by decide⟩) (Nat.le_of_ble_eq_true rfl) ⟨Nat.zero_le _, Nat.zero_le _⟩ (fun r_77 M_77 h_77 => ?_)
    obtain ⟨rfl, hq77, hE77⟩ := h_77
    replace hq77 := hq77.tr (nDay_c hq71 hTx.1)
    have hE77a := hE71a.tr (hE77.mono (aSd_X (by omega)))
    have hA77 := hA.mv (hE77a.mono aSd_A)
    have eb1 : nPl LT d pe pa la (bt (s + 2 ^ D)) K (D + 1) = nDay LT (d + D) pe pa la (nTaxed (nPl LT d pe pa la (bt s) K D) pe) := by
      rw [nPl_t (bt_top hs), nPl_bits (b := bt (s + 2 ^ D)) (c := bt s) D (fun i hi => bt_same hi)]
    have hp77 := prKeep hq hq77 (Nat.le_succ _) (fun x hx => (nDay_pr hTx.1 hx).trans (nTaxed_eq hpe _ (by unfold nSt; omega)))
    have hah77 : M_77.1 ah = M_55.1 ah ∧ M_77.2.1 ah = M_55.2.1 ah := by
      have hz : ¬ wS1 (aW ah (D + 1)) (aW ah (D + 1) + 1) ah := by unfold wS1 aW; omega
      have hz0 : ¬ wS0 (aW ah (D + 1)) (aW ah (D + 1) + 1) pr ah := by unfold wS0 aW; omega
      have hz2 : ¬ wSX (aW ah (D + 1)) (aW ah (D + 1) + 1) pr jg mk ah := by unfold wSX wSJ wS0 mS aW; omega
      exact ⟨(hE77.1 _ hz2).trans ((hE71.1 _ hz0).trans (hEq66.1 _ hz)), (hE77.2.1 _ hz2).trans ((hE71.2.1 _ hz0).trans (hEq66.2.1 _ hz))⟩
    refine j_aload_n (q := 81) C dX0_search_80 rfl rfl rfl ?_
    refine j_iload_n (q := 82) C dX0_search_81 rfl rfl rfl ?_
    refine j_iconst (v := nI 1) (q := 83) C dX0_search_82 rfl (by decide) ?_
    first | refine j_iaddN (q := 84) C dX0_search_83 rfl ?_ | refine j_iadd (q := 84) C dX0_search_83 rfl ?_
    refine j_iload_n (q := 85) C dX0_search_84 rfl rfl rfl ?_
    refine j_iload_n (q := 86) C dX0_search_85 rfl rfl rfl ?_
    refine j_iconst (v := nI 1) (q := 87) C dX0_search_86 rfl (by decide) ?_
    refine j_iload_n (q := 88) C dX0_search_87 rfl rfl rfl ?_
    refine j_ishl (q := 89) C dX0_search_88 rfl ?_
    refine j_top (v' := .int (nI (2 ^ D))) (congrArg Value.int (shl1 (by omega))) ?_
    refine j_ior (q := 90) C dX0_search_89 rfl ?_
    refine j_top (v' := .int (nI (s + 2 ^ D))) (congrArg Value.int (or1 (by omega) hs)) ?_
    refine jVT jc0 (q := 93) C dX0_search_90 rfl hA77.1.1 mX0_search kw_768 kw_754 kw_22 (ih (D + 1) (s + 2 ^ D) (sV n (D + 1) s V) M_77 hA77 (by omega) (by omega) (by rw [eb1]; exact hq77) ((congrFun hah77.2 1).trans (h55.trans ((congrFun hah46.2 1).trans h1))) (hb55.mv hah77.1 hah77.2)) rfl rfl (by show (32 + m) + 1 ≤ 32 + (m + 1) ∧ 40 * ((32 + m) + 1) ≤ 40 * (32 + (m + 1)) ∧ _; exact ⟨by omega, by omega, by decide⟩) (Nat.le_of_ble_eq_true rfl) ⟨Nat.zero_le _, Nat.zero_le _⟩ (fun r_90 M_90 h_90 => ?_)
    obtain ⟨rfl, hE90, hb90, h90, hp90⟩ := h_90
    exact j_vret C E dX0_search_93 rfl rfl (⟨rfl, rfl, rfl, hE77a.tr (hE90.mono aSd_s), hb90.congr (fun z => sV_s hs z), h90.trans ((congrFun hah77.2 1).trans (h55.trans (congrFun hah46.2 1))), fun k hk => (hp90 k (by omega)).trans (hp77 k hk)⟩)
