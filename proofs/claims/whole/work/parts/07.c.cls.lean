theorem cBegin_eq (M : jM) (a : Nat) (m : Int64) (l b : Int32) : cBegin M a m l b = jsL (jsL (jsL (jsL (jsI (jsI (jsI (jsI (jsI (jsL M a 0 m) a 1 l) a 2 b) a 3 (nI 5)) a 4 (nI 1000)) a 5 (nI 0)) a 6 0) a 7 0) a 8 0) a 9 0 := by
  unfold cBegin jsL jsI
  simp only [Prod.mk.injEq, and_true]
  constructor
  · funext c j
    simp only [jup]
    by_cases h : c = a
    · simp only [h, true_and, if_true]
    · simp [h]
  · funext c j
    simp only [jup]
    by_cases h : c = a
    · simp only [h, true_and, if_true]
    · simp [h]
theorem vU_begin {w q pr lw : Nat} {M : jM} (hD : wDis w q pr lw) {i : Nat} (hi : i < 10) {m : Int64} {l b : Int32} : vK w q pr lw (cBegin M (q + 2 + i) m l b) = va_up (va_up (va_up (va_up (va_up (nZ (vK w q pr lw M) (10 + 10 * i) 10) (10 + 10 * i + 0) m) (10 + 10 * i + 1) l.toInt64) (10 + 10 * i + 2) b.toInt64) (10 + 10 * i + 3) 5) (10 + 10 * i + 4) 1000 := by
  rw [cBegin_eq, vU_pL hD hi (by omega), vU_pL hD hi (by omega), vU_pL hD hi (by omega), vU_pL hD hi (by omega), vU_pI hD hi (by omega), vU_pI hD hi (by omega), vU_pI hD hi (by omega), vU_pI hD hi (by omega), vU_pI hD hi (by omega), vU_pL hD hi (by omega)]
  rw [show (nI 5).toInt64 = 5 from rfl, show (nI 1000).toInt64 = 1000 from rfl, show (nI 0).toInt64 = 0 from rfl]
  generalize vK w q pr lw M = K
  funext j
  by_cases hj : 10 + 10 * i ≤ j ∧ j < 10 + 10 * i + 10
  · obtain ⟨f, rfl⟩ : ∃ f, j = 10 + 10 * i + f := ⟨j - (10 + 10 * i), by omega⟩
    have hf : f < 10 := by omega
    rcases (show f = 0 ∨ f = 1 ∨ f = 2 ∨ f = 3 ∨ f = 4 ∨ f = 5 ∨ f = 6 ∨ f = 7 ∨ f = 8 ∨ f = 9 by omega) with e | e | e | e | e | e | e | e | e | e <;> subst e <;> simp [va_up, nZ]
  · simp only [va_up, nZ]
    repeat rw [if_neg (by omega)]
def nPaperW (N : Nat → Int64) (kd b t sm du : Int64) : Nat → Int64 := let q := 110 + 7 * (N 5).toNatClampNeg
  let N3 := va_up (va_up (va_up (va_up N (q + 0) kd) (q + 1) b) (q + 2) t) (q + 3) sm
  let N6 := va_up (va_up (va_up N3 (q + 4) (N3 0)) (q + 5) du) (q + 6) 0
  va_up N6 5 (N6 5 + 1)
set_option maxRecDepth 100000 in
set_option maxHeartbeats 4000000 in
theorem ctX9_addPerson {G : jG} {sz : Nat} {Sh : jS} {M : jM} {w q pr lw jg mk : Nat} {K : Nat → Int64} (hW : wLay w q pr lw jg mk Sh M) (hM : vK w q pr lw M = K) {pe : Nat} (h4 : K 4 = lN pe) (hpe : pe < 10) {m : Int64} {l b : Int32} : jC G yX9_addPerson cX9_addPerson 5 (Option.some FieldType.int) (jrm 2 0 0) sz Sh M [.ref w, .long m, .int l, .int b] (jT sz Sh (wT (wS0 w q pr) w q pr lw M (nPerson K m l.toInt64 b.toInt64) (some (.int (nI pe))))) := by
  refine jC_start (by decide +kernel) (Nat.le_of_ble_eq_true rfl) (fun X C E hN0 => ?_)
  have hE : mEq (wS0 w q pr) M M := mEq.rf
  have hSS : ∀ b, wS0 w q pr b → wS0 w q pr b := fun _ h => h
  refine j_aload_n (q := 1) C dX9_addPerson_0 rfl rfl rfl ?_
  refine wg_World_people hW hM (q' := 4) C dX9_addPerson_1 rfl kw_204 ?_
  refine j_top (v' := .int (nI pe)) (congrArg Value.int (k32 h4)) ?_
  refine j_bipush (v := nI 10) (q := 6) C dX9_addPerson_4 rfl (by decide) ?_
  refine j_icmp_lt (q := 9) (tgt := 11) C dX9_addPerson_6 rfl (by decide) (fun c_6 => ?_) (fun c_6 => absurd (nI_lt (by omega) (by omega)) c_6)
  refine j_aload_n (q := 12) C dX9_addPerson_11 rfl rfl rfl ?_
  refine jg_World_persons (q := 15) C dX9_addPerson_12 rfl hW.1.1 kw_191 hW.2.1.1 ?_
  refine j_aload_n (q := 16) C dX9_addPerson_15 rfl rfl rfl ?_
  refine wg_World_people hW hM (q' := 19) C dX9_addPerson_16 rfl kw_204 ?_
  refine j_top (v' := .int (nI pe)) (congrArg Value.int (k32 h4)) ?_
  refine wa_pers hW (by omega) (q' := 20) C dX9_addPerson_19 rfl ?_
  refine j_lload_n (q := 21) C dX9_addPerson_20 rfl rfl rfl ?_
  refine j_iload_n (q := 22) C dX9_addPerson_21 rfl rfl rfl ?_
  refine j_iload (q := 24) C dX9_addPerson_22 rfl rfl ?_
  refine jV0 jc6 (q := 27) C dX9_addPerson_24 rfl (hW.1.2.2.2.2.2.2.2.1 _ (by omega)) mX6_begin kw_292 kw_293 kw_294 (ctX6_begin (hW.1.2.2.2.2.2.2.2.1 _ (by omega))) rfl rfl (by decide) (Nat.le_of_ble_eq_true rfl) (by decide) ?_
  generalize eM1 : cBegin M (q + 2 + pe) m l b = M1
  have hE0 : mEq (wS0 w q pr) M M1 := by
    rw [← eM1, cBegin_eq]
    have hs : wS0 w q pr (q + 2 + pe) := by unfold wS0; omega
    exact ((((((((((mEq.rf.L hs).I hs).I hs).I hs).I hs).I hs).L hs).L hs).L hs).L hs)
  have hM1 := vU_begin (m := m) (l := l) (b := b) hW.2.2 (show pe < 10 by omega) (M := M) (lw := lw)
  rw [eM1, hM] at hM1
  have hK4 : va_up (va_up (va_up (va_up (va_up (nZ K (10 + 10 * pe) 10) (10 + 10 * pe + 0) m) (10 + 10 * pe + 1) l.toInt64) (10 + 10 * pe + 2) b.toInt64) (10 + 10 * pe + 3) 5) (10 + 10 * pe + 4) 1000 4 = lN pe := by
    rw [va_up_ne _ _ (by omega), va_up_ne _ _ (by omega), va_up_ne _ _ (by omega), va_up_ne _ _ (by omega), va_up_ne _ _ (by omega)]
    simp only [nZ]
    rw [if_neg (by omega)]; exact h4
  generalize hN1 : va_up (va_up (va_up (va_up (va_up (nZ K (10 + 10 * pe) 10) (10 + 10 * pe + 0) m) (10 + 10 * pe + 1) l.toInt64) (10 + 10 * pe + 2) b.toInt64) (10 + 10 * pe + 3) 5) (10 + 10 * pe + 4) 1000 = N1 at hM1 hK4
  clear hM hE
  have hM := hM1
  have hE := hE0
  replace hW := hW.mv hE0
  refine j_aload_n (q := 28) C dX9_addPerson_27 rfl rfl rfl ?_
  refine j_dup (q := 29) C dX9_addPerson_28 rfl rfl ?_
  refine wg_World_people hW hM (q' := 32) C dX9_addPerson_29 rfl kw_204 ?_
  refine j_top (v' := .int (nI pe)) (congrArg Value.int (k32 hK4)) ?_
  refine j_iconst (v := nI 1) (q := 33) C dX9_addPerson_32 rfl (by decide) ?_
  first | refine j_iaddN (q := 34) C dX9_addPerson_33 rfl ?_ | refine j_iadd (q := 34) C dX9_addPerson_33 rfl ?_
  refine wp_World_people hW hM hE hSS (q' := 37) C dX9_addPerson_34 rfl kw_204 (fun M hM hE hW => ?_)
  refine j_aload_n (q := 38) C dX9_addPerson_37 rfl rfl rfl ?_
  refine wg_World_people hW hM (q' := 41) C dX9_addPerson_38 rfl kw_204 ?_
  refine j_top (v' := .int (nI (pe + 1))) (congrArg Value.int (by rw [va_up_self]; exact i32_rt _)) ?_
  refine j_iconst (v := nI 1) (q := 42) C dX9_addPerson_41 rfl (by decide) ?_
  refine j_isub (q := 43) C dX9_addPerson_42 rfl ?_
  exact j_iret C E dX9_addPerson_43 rfl rfl (wT_i (congrArg (fun z => some (Value.int z)) (pk_sub (show 1 ≤ pe + 1 by omega))) (by rw [hM]; unfold nPerson; dsimp only; rw [show (K 4).toNatClampNeg = pe from by rw [h4]; exact nv_lN (by omega), hN1, hK4, lN_1, nI_l (by omega)]) hE)

set_option maxRecDepth 100000 in
set_option maxHeartbeats 4000000 in
theorem ctX9_addPaper {G : jG} {sz : Nat} {Sh : jS} {M : jM} {w q pr lw jg mk : Nat} {K : Nat → Int64} (hW : wLay w q pr lw jg mk Sh M) (hM : vK w q pr lw M = K) {pa d : Nat} (h5 : K 5 = lN pa) (hpa : pa < 24) (hd : K 0 = lN d) (hd3 : d ≤ 300) {kd b t du : Int32} {sm : Int64} : jC G yX9_addPaper cX9_addPaper 8 (Option.some FieldType.int) (jrm 1 0 0) sz Sh M [.ref w, .int kd, .int b, .int t, .long sm, .int du] (jT sz Sh (wT (wS0 w q pr) w q pr lw M (nPaperW K kd.toInt64 b.toInt64 t.toInt64 sm du.toInt64) (some (.int (nI pa))))) := by
  refine jC_start (by decide +kernel) (Nat.le_of_ble_eq_true rfl) (fun X C E hN0 => ?_)
  have hE : mEq (wS0 w q pr) M M := mEq.rf
  have hSS : ∀ b, wS0 w q pr b → wS0 w q pr b := fun _ h => h
  refine j_aload_n (q := 1) C dX9_addPaper_0 rfl rfl rfl ?_
  refine wg_World_written hW hM (q' := 4) C dX9_addPaper_1 rfl kw_207 ?_
  refine j_top (v' := .int (nI pa)) (congrArg Value.int (k32 h5)) ?_
  refine j_bipush (v := nI 24) (q := 6) C dX9_addPaper_4 rfl (by decide) ?_
  refine j_icmp_lt (q := 9) (tgt := 11) C dX9_addPaper_6 rfl (by decide) (fun c_6 => ?_) (fun c_6 => absurd (nI_lt (by omega) (by omega)) c_6)
  refine j_aload_n (q := 12) C dX9_addPaper_11 rfl rfl rfl ?_
  refine jg_World_papers (q := 15) C dX9_addPaper_12 rfl hW.1.1 kw_195 hW.2.1.2.1 ?_
  refine j_aload_n (q := 16) C dX9_addPaper_15 rfl rfl rfl ?_
  refine wg_World_written hW hM (q' := 19) C dX9_addPaper_16 rfl kw_207 ?_
  refine j_top (v' := .int (nI pa)) (congrArg Value.int (k32 h5)) ?_
  refine wa_pap hW (by omega) (q' := 20) C dX9_addPaper_19 rfl ?_
  refine j_astore (lv' := [(7, _), (0, _), (1, _), (2, _), (3, _), (4, _), (6, _)]) (q := 22) C dX9_addPaper_20 rfl (by decide) rfl ?_
  refine j_aload (q := 24) C dX9_addPaper_22 rfl rfl ?_
  refine j_iload_n (q := 25) C dX9_addPaper_24 rfl rfl rfl ?_
  refine wp_Paper_kind (by omega) hW hM hE hSS (q' := 28) C dX9_addPaper_25 rfl kw_172 (fun M hM hE hW => ?_)
  refine j_aload (q := 30) C dX9_addPaper_28 rfl rfl ?_
  refine j_iload_n (q := 31) C dX9_addPaper_30 rfl rfl rfl ?_
  refine wp_Paper_by (by omega) hW hM hE hSS (q' := 34) C dX9_addPaper_31 rfl kw_175 (fun M hM hE hW => ?_)
  refine j_aload (q := 36) C dX9_addPaper_34 rfl rfl ?_
  refine j_iload_n (q := 37) C dX9_addPaper_36 rfl rfl rfl ?_
  refine wp_Paper_to (by omega) hW hM hE hSS (q' := 40) C dX9_addPaper_37 rfl kw_178 (fun M hM hE hW => ?_)
  refine j_aload (q := 42) C dX9_addPaper_40 rfl rfl ?_
  refine j_lload (q := 44) C dX9_addPaper_42 rfl rfl ?_
  refine wp_Paper_sum (by omega) hW hM hE hSS (q' := 47) C dX9_addPaper_44 rfl kw_181 (fun M hM hE hW => ?_)
  refine j_aload (q := 49) C dX9_addPaper_47 rfl rfl ?_
  refine j_aload_n (q := 50) C dX9_addPaper_49 rfl rfl rfl ?_
  refine wg_World_day hW hM (q' := 53) C dX9_addPaper_50 rfl kw_209 ?_
  refine j_top (v' := .int (nI d)) (congrArg Value.int (k32 (by rw [va_up_ne _ _ (by omega), va_up_ne _ _ (by omega), va_up_ne _ _ (by omega), va_up_ne _ _ (by omega)]; exact hd))) ?_
  refine wp_Paper_since (by omega) hW hM hE hSS (q' := 56) C dX9_addPaper_53 rfl kw_185 (fun M hM hE hW => ?_)
  refine j_aload (q := 58) C dX9_addPaper_56 rfl rfl ?_
  refine j_iload (q := 60) C dX9_addPaper_58 rfl rfl ?_
  refine wp_Paper_due (by omega) hW hM hE hSS (q' := 63) C dX9_addPaper_60 rfl kw_187 (fun M hM hE hW => ?_)
  refine j_aload (q := 65) C dX9_addPaper_63 rfl rfl ?_
  refine j_iconst (v := nI 0) (q := 66) C dX9_addPaper_65 rfl (by decide) ?_
  refine wp_Paper_state (by omega) hW hM hE hSS (q' := 69) C dX9_addPaper_66 rfl kw_189 (fun M hM hE hW => ?_)
  have h5b : ∀ a b c d e f g : Int64, va_up (va_up (va_up (va_up (va_up (va_up (va_up K (110 + 7 * pa + 0) a) (110 + 7 * pa + 1) b) (110 + 7 * pa + 2) c) (110 + 7 * pa + 3) d) (110 + 7 * pa + 4) e) (110 + 7 * pa + 5) f) (110 + 7 * pa + 6) g 5 = lN pa := fun a b c d e f g => by
    rw [va_up_ne _ _ (by omega), va_up_ne _ _ (by omega), va_up_ne _ _ (by omega), va_up_ne _ _ (by omega), va_up_ne _ _ (by omega), va_up_ne _ _ (by omega), va_up_ne _ _ (by omega)]; exact h5
  refine j_aload_n (q := 70) C dX9_addPaper_69 rfl rfl rfl ?_
  refine j_dup (q := 71) C dX9_addPaper_70 rfl rfl ?_
  refine wg_World_written hW hM (q' := 74) C dX9_addPaper_71 rfl kw_207 ?_
  refine j_top (v' := .int (nI pa)) (congrArg Value.int (k32 (h5b _ _ _ _ _ _ _))) ?_
  refine j_iconst (v := nI 1) (q := 75) C dX9_addPaper_74 rfl (by decide) ?_
  first | refine j_iaddN (q := 76) C dX9_addPaper_75 rfl ?_ | refine j_iadd (q := 76) C dX9_addPaper_75 rfl ?_
  refine wp_World_written hW hM hE hSS (q' := 79) C dX9_addPaper_76 rfl kw_207 (fun M hM hE hW => ?_)
  refine j_aload_n (q := 80) C dX9_addPaper_79 rfl rfl rfl ?_
  refine wg_World_written hW hM (q' := 83) C dX9_addPaper_80 rfl kw_207 ?_
  refine j_iconst (v := nI 1) (q := 84) C dX9_addPaper_83 rfl (by decide) ?_
  refine j_isub (q := 85) C dX9_addPaper_84 rfl ?_
  exact j_iret C E dX9_addPaper_85 rfl rfl (wT_i (congrArg (fun z => some (Value.int z)) (by rw [va_up_self, show (nI (pa + 1)).toInt64.toInt32 = nI (pa + 1) from i32_rt _]; exact pk_sub (show 1 ≤ pa + 1 by omega))) (by rw [hM]; unfold nPaperW; dsimp only; rw [show (K 5).toNatClampNeg = pa from by rw [h5]; exact nv_lN (by omega), h5b, lN_1, nI_l (show pa + 1 < 2 ^ 31 by omega), show (nI 0).toInt64 = 0 from rfl, nI_l (show d < 2 ^ 31 by omega), va_up_ne _ _ (show (0 : Nat) ≠ 110 + 7 * pa + 3 by omega), va_up_ne _ _ (show (0 : Nat) ≠ 110 + 7 * pa + 2 by omega), va_up_ne _ _ (show (0 : Nat) ≠ 110 + 7 * pa + 1 by omega), va_up_ne _ _ (show (0 : Nat) ≠ 110 + 7 * pa + 0 by omega), hd]) hE)

def nPow : Nat → Int64
  | 0 => 1
  | k + 1 => nPow k * 10
theorem nPow_N : ∀ k, k ≤ 9 → nPow k = lN (10 ^ k)
  | 0, _ => rfl
  | k + 1, h => by rw [nPow, nPow_N k (by omega), show (10 : Int64) = lN 10 from rfl, lN_mul, Nat.pow_succ]
theorem p10 : ∀ k, k ≤ 9 → 1 ≤ 10 ^ k ∧ 10 ^ k ≤ 1000000000
  | 0, _ => by decide
  | 1, _ => by decide
  | 2, _ => by decide
  | 3, _ => by decide
  | 4, _ => by decide
  | 5, _ => by decide
  | 6, _ => by decide
  | 7, _ => by decide
  | 8, _ => by decide
  | 9, _ => by decide
theorem nPow_nz {k : Nat} (h : k ≤ 9) : ¬ nPow k = 0 := by
  have h2 := p10 k h
  rw [nPow_N k h, show (0 : Int64) = lN 0 from rfl, pk_lEQ (by omega) (by omega)]
  omega
def nCut1 (N : Nat → Int64) (by_ : Int64) (a : Nat) : Nat → Int64 := va_up (va_up N 3 (N 3 + (N a - N a / by_))) a (N a / by_)
def nCutP (N : Nat → Int64) (by_ : Int64) : Nat → (Nat → Int64)
  | 0 => nCut1 N by_ 1
  | k + 1 => nCut1 (nCutP N by_ k) by_ (10 + 10 * k + 0)
def nCutQ (N : Nat → Int64) (by_ : Int64) : Nat → (Nat → Int64)
  | 0 => N
  | k + 1 => if nCutQ N by_ k (110 + 7 * k + 6) = 0 then va_up (nCutQ N by_ k) (110 + 7 * k + 3) (nCutQ N by_ k (110 + 7 * k + 3) / by_) else nCutQ N by_ k
def nCutD (N : Nat → Int64) (by_ : Int64) : Nat → (Nat → Int64)
  | 0 => N
  | k + 1 => va_up (nCutD N by_ k) (310 + k) (lmx 1 (nCutD N by_ k (310 + k) / by_))
def nCut (N : Nat → Int64) (k d pe pa : Nat) : Nat → Int64 := nCutD (nCutQ (nCutP N (nPow k) pe) (nPow k) pa) (nPow k) (d + 1)
theorem nCutP_low (N : Nat → Int64) (b : Int64) : ∀ k j, (j = 0 ∨ (4 ≤ j ∧ j < 10) ∨ 10 + 10 * k ≤ j) → nCutP N b k j = N j
  | 0, j, h => by
    rw [nCutP]; unfold nCut1
    rw [va_up_ne _ _ (by omega), va_up_ne _ _ (by omega)]
  | k + 1, j, h => by
    rw [nCutP]; unfold nCut1
    rw [va_up_ne _ _ (by omega), va_up_ne _ _ (by omega), nCutP_low N b k j (by omega)]
theorem nCutQ_low (N : Nat → Int64) (b : Int64) : ∀ k j, (∀ i, i < k → ¬ j = 110 + 7 * i + 3) → nCutQ N b k j = N j
  | 0, j, h => rfl
  | k + 1, j, h => by
    rw [nCutQ]
    split
    · rw [va_up_ne _ _ (h k (by omega)), nCutQ_low N b k j (fun i hi => h i (by omega))]
    · exact nCutQ_low N b k j (fun i hi => h i (by omega))
theorem nCutD_low (N : Nat → Int64) (b : Int64) : ∀ k j, (j < 310 ∨ 310 + k ≤ j) → nCutD N b k j = N j
  | 0, j, h => rfl
  | k + 1, j, h => by rw [nCutD, va_up_ne _ _ (by omega), nCutD_low N b k j (by omega)]
set_option maxRecDepth 100000 in
set_option maxHeartbeats 4000000 in
theorem ctX9_cutNoughts {G : jG} {sz : Nat} {Sh : jS} {M : jM} {w q pr lw jg mk : Nat} {K : Nat → Int64} (hW : wLay w q pr lw jg mk Sh M) (hM : vK w q pr lw M = K) {pe pa d kk : Nat} (h4 : K 4 = lN pe) (hpe : pe ≤ 10) (h5 : K 5 = lN pa) (hpa : pa ≤ 24) (hd : K 0 = lN d) (hd3 : d ≤ 300) (hk9 : kk ≤ 9) : jC G yX9_cutNoughts cX9_cutNoughts 5 (Option.none : Option FieldType) (jrm 2 0 0) sz Sh M [.ref w, .int (nI kk)] (jT sz Sh (wT (wS0 w q pr) w q pr lw M (nCut K kk d pe pa) (none))) := by
  refine jC_start (by decide +kernel) (Nat.le_of_ble_eq_true rfl) (fun X C E hN0 => ?_)
  refine j_lconst (v := 1) (q := 1) C dX9_cutNoughts_0 rfl (by decide) ?_
  refine j_lstore_n (lv' := [(2, _), (0, _), (1, _)]) (q := 2) C dX9_cutNoughts_1 rfl rfl (by decide) rfl ?_
  refine j_iconst (v := nI 0) (q := 3) C dX9_cutNoughts_2 rfl (by decide) ?_
  refine j_istore (lv' := [(4, _), (2, _), (0, _), (1, _)]) (q := 5) C dX9_cutNoughts_3 rfl (by decide) rfl ?_
  have hSS : ∀ b, wS0 w q pr b → wS0 w q pr b := fun _ h => h
  have hW0 := hW
  have hMM := hM
  clear hW hM
  have j169 : ∀ M1 N2, vK w q pr lw M1 = N2 → N2 0 = lN d → nCutD N2 (nPow kk) (d + 1) = nCut K kk d pe pa → mEq (wS0 w q pr) M M1 → jJ G X 0 0 sz Sh M1 169 [(4, .int (nI 0)), (2, .long (nPow kk)), (0, .ref w), (1, .int (nI kk))] [] := by
    intro M1 N2 hM1 hN20 hFin hE1
    have loop169 : ∀ (n k : Nat) (Mk : jM), vK w q pr lw Mk = nCutD N2 (nPow kk) k → mEq (wS0 w q pr) M Mk → k + n = d + 1 → jJ G X 0 0 sz Sh Mk 169 [(4, .int (nI k)), (2, .long (nPow kk)), (0, .ref w), (1, .int (nI kk))] [] := by
      intro n
      induction n with
      | zero =>
        intro k Mk hMk hE hk
        have hM : vK w q pr lw Mk = nCutD N2 (nPow kk) k := hMk
        have hW := hW0.mv hE
        have hd0 : nCutD N2 (nPow kk) k 0 = lN d := by rw [nCutD_low _ _ _ _ (by omega)]; exact hN20
        refine j_iload (q := 171) C dX9_cutNoughts_169 rfl rfl ?_
        refine j_aload_n (q := 172) C dX9_cutNoughts_171 rfl rfl rfl ?_
        refine wg_World_day hW hM (q' := 175) C dX9_cutNoughts_172 rfl kw_209 ?_
        refine j_top (v' := .int (nI d)) (congrArg Value.int (k32 hd0)) ?_
        refine j_icmp_gt (q := 178) (tgt := 204) C dX9_cutNoughts_175 rfl (by decide) (fun c_175 => ?_) (fun c_175 => absurd (nI_lt (by omega) (by omega)) c_175)
        obtain rfl : d + 1 = k := by omega
        exact j_vret C E dX9_cutNoughts_204 rfl rfl (wT_i rfl (hM.trans hFin) hE)
      | succ n ih =>
        intro k Mk hMk hE hk
        have hM : vK w q pr lw Mk = nCutD N2 (nPow kk) k := hMk
        have hW := hW0.mv hE
        have hd0 : nCutD N2 (nPow kk) k 0 = lN d := by rw [nCutD_low _ _ _ _ (by omega)]; exact hN20
        refine j_iload (q := 171) C dX9_cutNoughts_169 rfl rfl ?_
        refine j_aload_n (q := 172) C dX9_cutNoughts_171 rfl rfl rfl ?_
        refine wg_World_day hW hM (q' := 175) C dX9_cutNoughts_172 rfl kw_209 ?_
        refine j_top (v' := .int (nI d)) (congrArg Value.int (k32 hd0)) ?_
        refine j_icmp_gt (q := 178) (tgt := 204) C dX9_cutNoughts_175 rfl (by decide) (fun c_175 => absurd c_175 (nI_nlt (by omega) (by omega))) (fun c_175 => ?_)
        refine j_aload_n (q := 179) C dX9_cutNoughts_178 rfl rfl rfl ?_
        refine jg_World_prices (q := 182) C dX9_cutNoughts_179 rfl hW.1.1 kw_200 hW.2.1.2.2.2.1 ?_
        refine j_iload (q := 184) C dX9_cutNoughts_182 rfl rfl ?_
        refine j_lconst (v := 1) (q := 185) C dX9_cutNoughts_184 rfl (by decide) ?_
        refine j_aload_n (q := 186) C dX9_cutNoughts_185 rfl rfl rfl ?_
        refine jg_World_prices (q := 189) C dX9_cutNoughts_186 rfl hW.1.1 kw_200 hW.2.1.2.2.2.1 ?_
        refine j_iload (q := 191) C dX9_cutNoughts_189 rfl rfl ?_
        refine wa_pr hW hM (by omega) (q' := 192) C dX9_cutNoughts_191 rfl ?_
        refine j_lload_n (q := 193) C dX9_cutNoughts_192 rfl rfl rfl ?_
        refine j_ldiv (q := 194) C dX9_cutNoughts_193 rfl (nPow_nz hk9) ?_
        refine j_lmax (q := 197) C dX9_cutNoughts_194 rfl kw_622 (by decide) (Nat.le_of_ble_eq_true rfl) (by decide) ?_
        refine ws_pr hW hM hE hSS (by omega) (q' := 198) C dX9_cutNoughts_197 rfl (fun M hM hE hW => ?_)
        first | refine j_iincN (lv' := [(4, _), (2, _), (0, _), (1, _)]) (q := 201) C dX9_cutNoughts_198 rfl rfl (by decide) rfl ?_ | refine j_iinc (lv' := [(4, _), (2, _), (0, _), (1, _)]) (q := 201) C dX9_cutNoughts_198 rfl rfl rfl (by decide) rfl ?_
        refine j_goto (tgt := 169) C dX9_cutNoughts_201 (by decide) ?_
        exact j_fewer (lv' := [(4, .int (nI (k + 1))), (2, .long (nPow kk)), (0, .ref w), (1, .int (nI kk))]) (by simp) (ih (k + 1) M (by rw [hM, nCutD]) hE (by omega))
    exact loop169 (d + 1) 0 M1 hM1 hE1 (by omega)
  have j122 : ∀ M1 N1, vK w q pr lw M1 = N1 → N1 0 = lN d → N1 5 = lN pa → nCutD (nCutQ N1 (nPow kk) pa) (nPow kk) (d + 1) = nCut K kk d pe pa → mEq (wS0 w q pr) M M1 → jJ G X 0 0 sz Sh M1 122 [(4, .int (nI 0)), (2, .long (nPow kk)), (0, .ref w), (1, .int (nI kk))] [] := by
    intro M1 N1 hM1 hN10 hN15 hFin hE1
    have loop122 : ∀ (n k : Nat) (Mk : jM), vK w q pr lw Mk = nCutQ N1 (nPow kk) k → mEq (wS0 w q pr) M Mk → k + n = pa → jJ G X 0 0 sz Sh Mk 122 [(4, .int (nI k)), (2, .long (nPow kk)), (0, .ref w), (1, .int (nI kk))] [] := by
      intro n
      induction n with
      | zero =>
        intro k Mk hMk hE hk
        have hM : vK w q pr lw Mk = nCutQ N1 (nPow kk) k := hMk
        have hW := hW0.mv hE
        have h5k : nCutQ N1 (nPow kk) k 5 = lN pa := by rw [nCutQ_low _ _ _ _ (fun i hi => by omega)]; exact hN15
        refine j_iload (q := 124) C dX9_cutNoughts_122 rfl rfl ?_
        refine j_aload_n (q := 125) C dX9_cutNoughts_124 rfl rfl rfl ?_
        refine wg_World_written hW hM (q' := 128) C dX9_cutNoughts_125 rfl kw_207 ?_
        refine j_top (v' := .int (nI pa)) (congrArg Value.int (k32 h5k)) ?_
        refine j_icmp_ge (q := 131) (tgt := 166) C dX9_cutNoughts_128 rfl (by decide) (fun c_128 => ?_) (fun c_128 => absurd (nI_le (by omega) (by omega)) c_128)
        obtain rfl : pa = k := by omega
        refine j_iconst (v := nI 0) (q := 167) C dX9_cutNoughts_166 rfl (by decide) ?_
        refine j_istore (lv' := [(4, _), (2, _), (0, _), (1, _)]) (q := 169) C dX9_cutNoughts_167 rfl (by decide) rfl ?_
        exact j_fewer (lv' := [(4, .int (nI 0)), (2, .long (nPow kk)), (0, .ref w), (1, .int (nI kk))]) (by simp) (j169 Mk _ hM (by rw [nCutQ_low _ _ _ _ (fun i hi => by omega)]; exact hN10) hFin hE)
      | succ n ih =>
        intro k Mk hMk hE hk
        have hM : vK w q pr lw Mk = nCutQ N1 (nPow kk) k := hMk
        have hW := hW0.mv hE
        have h5k : nCutQ N1 (nPow kk) k 5 = lN pa := by rw [nCutQ_low _ _ _ _ (fun i hi => by omega)]; exact hN15
        refine j_iload (q := 124) C dX9_cutNoughts_122 rfl rfl ?_
        refine j_aload_n (q := 125) C dX9_cutNoughts_124 rfl rfl rfl ?_
        refine wg_World_written hW hM (q' := 128) C dX9_cutNoughts_125 rfl kw_207 ?_
        refine j_top (v' := .int (nI pa)) (congrArg Value.int (k32 h5k)) ?_
        refine j_icmp_ge (q := 131) (tgt := 166) C dX9_cutNoughts_128 rfl (by decide) (fun c_128 => absurd c_128 (fun h => absurd ((nI_leI (by omega) (by omega)).mp h) (by omega))) (fun c_128 => ?_)
        refine j_aload_n (q := 132) C dX9_cutNoughts_131 rfl rfl rfl ?_
        refine jg_World_papers (q := 135) C dX9_cutNoughts_132 rfl hW.1.1 kw_195 hW.2.1.2.1 ?_
        refine j_iload (q := 137) C dX9_cutNoughts_135 rfl rfl ?_
        refine wa_pap hW (by omega) (q' := 138) C dX9_cutNoughts_137 rfl ?_
        refine jV1 jc5 (q := 141) C dX9_cutNoughts_138 rfl (hW.1.2.2.2.2.2.2.2.2 _ (by omega)) mX5_isOpen kw_452 kw_366 kw_367 (ctX5_isOpen (hW.1.2.2.2.2.2.2.2.2 k (by omega))) rfl rfl (by decide) (Nat.le_of_ble_eq_true rfl) (by decide) ?_
        refine j_if_eq (q := 144) (tgt := 160) C dX9_cutNoughts_141 rfl (by decide) (fun c_141 => ?_) (fun c_141 => ?_)
        · first | refine j_iincN (lv' := [(4, _), (2, _), (0, _), (1, _)]) (q := 163) C dX9_cutNoughts_160 rfl rfl (by decide) rfl ?_ | refine j_iinc (lv' := [(4, _), (2, _), (0, _), (1, _)]) (q := 163) C dX9_cutNoughts_160 rfl rfl rfl (by decide) rfl ?_
          refine j_goto (tgt := 122) C dX9_cutNoughts_163 (by decide) ?_
          exact j_fewer (lv' := [(4, .int (nI (k + 1))), (2, .long (nPow kk)), (0, .ref w), (1, .int (nI kk))]) (by simp) (ih (k + 1) _ (by rw [hM, nCutQ, if_neg (fun h => jb_0.mp c_141 ((kqO hM (by omega)).mpr h))]) hE (by omega))
        · have hM0 := hM
          refine j_aload_n (q := 145) C dX9_cutNoughts_144 rfl rfl rfl ?_
          refine jg_World_papers (q := 148) C dX9_cutNoughts_145 rfl hW.1.1 kw_195 hW.2.1.2.1 ?_
          refine j_iload (q := 150) C dX9_cutNoughts_148 rfl rfl ?_
          refine wa_pap hW (by omega) (q' := 151) C dX9_cutNoughts_150 rfl ?_
          refine j_dup (q := 152) C dX9_cutNoughts_151 rfl rfl ?_
          refine wg_Paper_sum (by omega) hW hM (q' := 155) C dX9_cutNoughts_152 rfl kw_181 ?_
          refine j_lload_n (q := 156) C dX9_cutNoughts_155 rfl rfl rfl ?_
          refine j_ldiv (q := 157) C dX9_cutNoughts_156 rfl (nPow_nz hk9) ?_
          refine wp_Paper_sum (by omega) hW hM hE hSS (q' := 160) C dX9_cutNoughts_157 rfl kw_181 (fun M hM hE hW => ?_)
          first | refine j_iincN (lv' := [(4, _), (2, _), (0, _), (1, _)]) (q := 163) C dX9_cutNoughts_160 rfl rfl (by decide) rfl ?_ | refine j_iinc (lv' := [(4, _), (2, _), (0, _), (1, _)]) (q := 163) C dX9_cutNoughts_160 rfl rfl rfl (by decide) rfl ?_
          refine j_goto (tgt := 122) C dX9_cutNoughts_163 (by decide) ?_
          exact j_fewer (lv' := [(4, .int (nI (k + 1))), (2, .long (nPow kk)), (0, .ref w), (1, .int (nI kk))]) (by simp) (ih (k + 1) _ (by rw [hM, nCutQ, if_pos ((kqO hM0 (by omega)).mp (jb_n.mp c_141))]) hE (by omega))
    exact loop122 pa 0 M1 hM1 hE1 (by omega)
  have j56 : ∀ M1, vK w q pr lw M1 = nCutP K (nPow kk) 0 → mEq (wS0 w q pr) M M1 → jJ G X 0 0 sz Sh M1 56 [(4, .int (nI 0)), (2, .long (nPow kk)), (0, .ref w), (1, .int (nI kk))] [] := by
    intro M1 hM1 hE1
    have loop56 : ∀ (n k : Nat) (Mk : jM), vK w q pr lw Mk = nCutP K (nPow kk) k → mEq (wS0 w q pr) M Mk → k + n = pe → jJ G X 0 0 sz Sh Mk 56 [(4, .int (nI k)), (2, .long (nPow kk)), (0, .ref w), (1, .int (nI kk))] [] := by
      intro n
      induction n with
      | zero =>
        intro k Mk hMk hE hk
        have hM : vK w q pr lw Mk = nCutP K (nPow kk) k := hMk
        have hW := hW0.mv hE
        have h4k : nCutP K (nPow kk) k 4 = lN pe := by rw [nCutP_low _ _ _ _ (by omega)]; exact h4
        refine j_iload (q := 58) C dX9_cutNoughts_56 rfl rfl ?_
        refine j_aload_n (q := 59) C dX9_cutNoughts_58 rfl rfl rfl ?_
        refine wg_World_people hW hM (q' := 62) C dX9_cutNoughts_59 rfl kw_204 ?_
        refine j_top (v' := .int (nI pe)) (congrArg Value.int (k32 h4k)) ?_
        refine j_icmp_ge (q := 65) (tgt := 119) C dX9_cutNoughts_62 rfl (by decide) (fun c_62 => ?_) (fun c_62 => absurd (nI_le (by omega) (by omega)) c_62)
        obtain rfl : pe = k := by omega
        refine j_iconst (v := nI 0) (q := 120) C dX9_cutNoughts_119 rfl (by decide) ?_
        refine j_istore (lv' := [(4, _), (2, _), (0, _), (1, _)]) (q := 122) C dX9_cutNoughts_120 rfl (by decide) rfl ?_
        exact j_fewer (lv' := [(4, .int (nI 0)), (2, .long (nPow kk)), (0, .ref w), (1, .int (nI kk))]) (by simp) (j122 Mk _ hM (by rw [nCutP_low _ _ _ _ (by omega)]; exact hd) (by rw [nCutP_low _ _ _ _ (by omega)]; exact h5) rfl hE)
      | succ n ih =>
        intro k Mk hMk hE hk
        have hM : vK w q pr lw Mk = nCutP K (nPow kk) k := hMk
        have hW := hW0.mv hE
        have h4k : nCutP K (nPow kk) k 4 = lN pe := by rw [nCutP_low _ _ _ _ (by omega)]; exact h4
        refine j_iload (q := 58) C dX9_cutNoughts_56 rfl rfl ?_
        refine j_aload_n (q := 59) C dX9_cutNoughts_58 rfl rfl rfl ?_
        refine wg_World_people hW hM (q' := 62) C dX9_cutNoughts_59 rfl kw_204 ?_
        refine j_top (v' := .int (nI pe)) (congrArg Value.int (k32 h4k)) ?_
        refine j_icmp_ge (q := 65) (tgt := 119) C dX9_cutNoughts_62 rfl (by decide) (fun c_62 => absurd c_62 (fun h => absurd ((nI_leI (by omega) (by omega)).mp h) (by omega))) (fun c_62 => ?_)
        refine j_aload_n (q := 66) C dX9_cutNoughts_65 rfl rfl rfl ?_
        refine j_dup (q := 67) C dX9_cutNoughts_66 rfl rfl ?_
        refine wg_World_burnt hW hM (q' := 70) C dX9_cutNoughts_67 rfl kw_219 ?_
        refine j_aload_n (q := 71) C dX9_cutNoughts_70 rfl rfl rfl ?_
        refine jg_World_persons (q := 74) C dX9_cutNoughts_71 rfl hW.1.1 kw_191 hW.2.1.1 ?_
        refine j_iload (q := 76) C dX9_cutNoughts_74 rfl rfl ?_
        refine wa_pers hW (by omega) (q' := 77) C dX9_cutNoughts_76 rfl ?_
        refine wg_Person_marks (by omega) hW hM (q' := 80) C dX9_cutNoughts_77 rfl kw_144 ?_
        refine j_aload_n (q := 81) C dX9_cutNoughts_80 rfl rfl rfl ?_
        refine jg_World_persons (q := 84) C dX9_cutNoughts_81 rfl hW.1.1 kw_191 hW.2.1.1 ?_
        refine j_iload (q := 86) C dX9_cutNoughts_84 rfl rfl ?_
        refine wa_pers hW (by omega) (q' := 87) C dX9_cutNoughts_86 rfl ?_
        refine wg_Person_marks (by omega) hW hM (q' := 90) C dX9_cutNoughts_87 rfl kw_144 ?_
        refine j_lload_n (q := 91) C dX9_cutNoughts_90 rfl rfl rfl ?_
        refine j_ldiv (q := 92) C dX9_cutNoughts_91 rfl (nPow_nz hk9) ?_
        refine j_lsub (q := 93) C dX9_cutNoughts_92 rfl ?_
        refine j_ladd (q := 94) C dX9_cutNoughts_93 rfl ?_
        refine wp_World_burnt hW hM hE hSS (q' := 97) C dX9_cutNoughts_94 rfl kw_219 (fun M hM hE hW => ?_)
        refine j_aload_n (q := 98) C dX9_cutNoughts_97 rfl rfl rfl ?_
        refine jg_World_persons (q := 101) C dX9_cutNoughts_98 rfl hW.1.1 kw_191 hW.2.1.1 ?_
        refine j_iload (q := 103) C dX9_cutNoughts_101 rfl rfl ?_
        refine wa_pers hW (by omega) (q' := 104) C dX9_cutNoughts_103 rfl ?_
        refine j_dup (q := 105) C dX9_cutNoughts_104 rfl rfl ?_
        refine wg_Person_marks (by omega) hW hM (q' := 108) C dX9_cutNoughts_105 rfl kw_144 ?_
        refine j_lload_n (q := 109) C dX9_cutNoughts_108 rfl rfl rfl ?_
        refine j_ldiv (q := 110) C dX9_cutNoughts_109 rfl (nPow_nz hk9) ?_
        refine wp_Person_marks (by omega) hW hM hE hSS (q' := 113) C dX9_cutNoughts_110 rfl kw_144 (fun M hM hE hW => ?_)
        first | refine j_iincN (lv' := [(4, _), (2, _), (0, _), (1, _)]) (q := 116) C dX9_cutNoughts_113 rfl rfl (by decide) rfl ?_ | refine j_iinc (lv' := [(4, _), (2, _), (0, _), (1, _)]) (q := 116) C dX9_cutNoughts_113 rfl rfl rfl (by decide) rfl ?_
        refine j_goto (tgt := 56) C dX9_cutNoughts_116 (by decide) ?_
        exact j_fewer (lv' := [(4, .int (nI (k + 1))), (2, .long (nPow kk)), (0, .ref w), (1, .int (nI kk))]) (by simp) (ih (k + 1) _ (by rw [hM, nCutP]; unfold nCut1; rw [va_up_ne _ _ (show 10 + 10 * k + 0 ≠ 3 by omega)]) hE (by omega))
    exact loop56 pe 0 M1 hM1 hE1 (by omega)
  have loop5 : ∀ (n k : Nat), k + n = kk → jJ G X 0 0 sz Sh M 5 [(4, .int (nI k)), (2, .long (nPow k)), (0, .ref w), (1, .int (nI kk))] [] := by
    intro n
    induction n with
    | zero =>
      intro k  hk
      refine j_iload (q := 7) C dX9_cutNoughts_5 rfl rfl ?_
      refine j_iload_n (q := 8) C dX9_cutNoughts_7 rfl rfl rfl ?_
      refine j_icmp_ge (q := 11) (tgt := 23) C dX9_cutNoughts_8 rfl (by decide) (fun c_8 => ?_) (fun c_8 => absurd (nI_le (by omega) (by omega)) c_8)
      obtain rfl : kk = k := by omega
      have hW := hW0
      have hM := hMM
      have hE : mEq (wS0 w q pr) M M := mEq.rf
      refine j_aload_n (q := 24) C dX9_cutNoughts_23 rfl rfl rfl ?_
      refine j_dup (q := 25) C dX9_cutNoughts_24 rfl rfl ?_
      refine wg_World_burnt hW hM (q' := 28) C dX9_cutNoughts_25 rfl kw_219 ?_
      refine j_aload_n (q := 29) C dX9_cutNoughts_28 rfl rfl rfl ?_
      refine wg_World_state hW hM (q' := 32) C dX9_cutNoughts_29 rfl kw_214 ?_
      refine j_aload_n (q := 33) C dX9_cutNoughts_32 rfl rfl rfl ?_
      refine wg_World_state hW hM (q' := 36) C dX9_cutNoughts_33 rfl kw_214 ?_
      refine j_lload_n (q := 37) C dX9_cutNoughts_36 rfl rfl rfl ?_
      refine j_ldiv (q := 38) C dX9_cutNoughts_37 rfl (nPow_nz hk9) ?_
      refine j_lsub (q := 39) C dX9_cutNoughts_38 rfl ?_
      refine j_ladd (q := 40) C dX9_cutNoughts_39 rfl ?_
      refine wp_World_burnt hW hM hE hSS (q' := 43) C dX9_cutNoughts_40 rfl kw_219 (fun M hM hE hW => ?_)
      refine j_aload_n (q := 44) C dX9_cutNoughts_43 rfl rfl rfl ?_
      refine j_dup (q := 45) C dX9_cutNoughts_44 rfl rfl ?_
      refine wg_World_state hW hM (q' := 48) C dX9_cutNoughts_45 rfl kw_214 ?_
      refine j_lload_n (q := 49) C dX9_cutNoughts_48 rfl rfl rfl ?_
      refine j_ldiv (q := 50) C dX9_cutNoughts_49 rfl (nPow_nz hk9) ?_
      refine wp_World_state hW hM hE hSS (q' := 53) C dX9_cutNoughts_50 rfl kw_214 (fun M hM hE hW => ?_)
      refine j_iconst (v := nI 0) (q := 54) C dX9_cutNoughts_53 rfl (by decide) ?_
      refine j_istore (lv' := [(4, _), (2, _), (0, _), (1, _)]) (q := 56) C dX9_cutNoughts_54 rfl (by decide) rfl ?_
      exact j_fewer (lv' := [(4, .int (nI 0)), (2, .long (nPow kk)), (0, .ref w), (1, .int (nI kk))]) (by simp) (j56 M (by rw [hM, nCutP]; unfold nCut1; rw [va_up_ne _ _ (show (1 : Nat) ≠ 3 by omega)]) hE)
    | succ n ih =>
      intro k  hk
      refine j_iload (q := 7) C dX9_cutNoughts_5 rfl rfl ?_
      refine j_iload_n (q := 8) C dX9_cutNoughts_7 rfl rfl rfl ?_
      refine j_icmp_ge (q := 11) (tgt := 23) C dX9_cutNoughts_8 rfl (by decide) (fun c_8 => absurd c_8 (fun h => absurd ((nI_leI (by omega) (by omega)).mp h) (by omega))) (fun c_8 => ?_)
      refine j_lload_n (q := 12) C dX9_cutNoughts_11 rfl rfl rfl ?_
      refine j_ldc2 (q := 15) C dX9_cutNoughts_12 rfl kw_700 ?_
      refine j_lmul (q := 16) C dX9_cutNoughts_15 rfl ?_
      refine j_lstore_n (lv' := [(2, _), (4, _), (0, _), (1, _)]) (q := 17) C dX9_cutNoughts_16 rfl rfl (by decide) rfl ?_
      first | refine j_iincN (lv' := [(4, _), (2, _), (0, _), (1, _)]) (q := 20) C dX9_cutNoughts_17 rfl rfl (by decide) rfl ?_ | refine j_iinc (lv' := [(4, _), (2, _), (0, _), (1, _)]) (q := 20) C dX9_cutNoughts_17 rfl rfl rfl (by decide) rfl ?_
      refine j_goto (tgt := 5) C dX9_cutNoughts_20 (by decide) ?_
      exact j_fewer (lv' := [(4, .int (nI (k + 1))), (2, .long (nPow (k + 1))), (0, .ref w), (1, .int (nI kk))]) (by simp [show nPow (k + 1) = nPow k * 10 from rfl]) (ih (k + 1) (by omega))
  exact j_fewer (lv' := [(4, .int (nI 0)), (2, .long (nPow 0)), (0, .ref w), (1, .int (nI kk))]) (by simp [nPow]) (loop5 kk 0 (by omega))

