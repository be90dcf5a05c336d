def nOwes (N : Nat → Int64) (d j : Nat) : Prop := ((N (110 + 7 * j + 0) = 1 ∨ N (110 + 7 * j + 0) = 2) ∧ N (110 + 7 * j + 5) ≤ lN d) ∨ (N (110 + 7 * j + 0) = 3 ∧ d % 10 = 0)
theorem nOwes_dec (N : Nat → Int64) (d j : Nat) : Nonempty (Decidable (nOwes N d j)) := ⟨Classical.propDecidable _⟩
noncomputable def jbC (p : Prop) : Int32 := @jb p (Classical.propDecidable p)
theorem jbC_t {p : Prop} (h : p) : jbC p = nI 1 := @jb_t p (Classical.propDecidable p) h
theorem jbC_f {p : Prop} (h : ¬ p) : jbC p = nI 0 := @jb_f p (Classical.propDecidable p) h
theorem jbC_0 {p : Prop} : jbC p = 0 ↔ ¬ p := @jb_0 p (Classical.propDecidable p)
theorem jbC_n {p : Prop} : ¬ jbC p = 0 ↔ p := @jb_n p (Classical.propDecidable p)
noncomputable def ifC {α : Type} (p : Prop) (a b : α) : α := @ite α p (Classical.propDecidable p) a b
theorem ifC_t {α : Type} {p : Prop} {a b : α} (h : p) : ifC p a b = a := @if_pos p (Classical.propDecidable p) h α a b
theorem ifC_f {α : Type} {p : Prop} {a b : α} (h : ¬ p) : ifC p a b = b := @if_neg p (Classical.propDecidable p) h α a b
def nPaid (LT : Nat → sT) (d la : Nat) (N : Nat → Int64) (j : Nat) : Int64 := lmn (nOwed LT N d la j 0) (N (10 + 10 * nv (N (110 + 7 * j + 1)) + 0))
def nPay1 (LT : Nat → sT) (d la : Nat) (N : Nat → Int64) (j : Nat) : Nat → Int64 :=
  let N2 := nPays N j (nv (N (110 + 7 * j + 1))) (nv (N (110 + 7 * j + 2))) (nPaid LT d la N j)
  if ¬ N (110 + 7 * j + 0) = 3 ∧ nPaid LT d la N j = nOwed LT N d la j 0 then nSett N2 d j (nv (N (110 + 7 * j + 4))) (nv (N (110 + 7 * j + 1))) (nv (N (110 + 7 * j + 2))) (nPaid LT d la N j) else N2
noncomputable def nDebtA (LT : Nat → sT) (d la : Nat) (N : Nat → Int64) (j : Nat) : Nat → Int64 := ifC (N (110 + 7 * j + 6) = 0 ∧ nOwes N d j) (nPay1 LT d la N j) N
noncomputable def nDebt1 (LT : Nat → sT) (d la : Nat) (N : Nat → Int64) (j : Nat) : Nat → Int64 := if nDebtA LT d la N j (110 + 7 * j + 6) = 0 ∧ (N (110 + 7 * j + 0) = 3 ∨ N (110 + 7 * j + 0) = 4) ∧ N (110 + 7 * j + 5) = lN d then va_up (nDebtA LT d la N j) (110 + 7 * j + 6) 1 else nDebtA LT d la N j
noncomputable def nDebts (LT : Nat → sT) (d la : Nat) (N : Nat → Int64) : Nat → (Nat → Int64)
  | 0 => N
  | k + 1 => nDebt1 LT d la (nDebts LT d la N k) k
theorem nPays_eq {N : Nat → Int64} {j b t : Nat} {v : Int64} (hb : b < 10) (ht : t < 10) : nEq N (nPays N j b t v) := (nEq.rf.up _ (nStP hb (by omega))).gets _ (nStP ht (by omega))
theorem nSett_eq {N : Nat → Int64} {d j s b t : Nat} {v : Int64} (hj : j < 24) (hb : b < 10) (ht : t < 10) : nEq N (nSett N d j s b t v) := by
  unfold nSett
  by_cases c : N (110 + 7 * j + 0) = 1 ∨ N (110 + 7 * j + 0) = 2
  · simp only [if_pos c]
    exact ((nEq.rf.up _ (nStH hj)).up _ (nStP hb (by omega))).up _ (nStP ht (by omega))
  · simp only [if_neg c]
    exact nEq.rf.up _ (nStH hj)
theorem lN_lit {n : Nat} {x : Int64} (h : x = lN n) (hn : n < 2 ^ 63) : nv x = n := by rw [h]; exact nv_lN hn
theorem nOwes_by {N : Nat → Int64} {d pe pa la j : Nat} (hO : nOk N d pe pa la) (hj : j < pa) (h : nOwes N d j) : isN (N (110 + 7 * j + 1)) 9 ∧ nv (N (110 + 7 * j + 1)) < pe := by
  have hp := (hO.2.2.2.2.1 j hj).2.1
  rcases hp with ⟨h1, -⟩ | ⟨-, h2⟩
  · exfalso
    have h4 : N (110 + 7 * j + 0) = 4 := by rw [(hO.2.2.2.2.1 j hj).1.1, h1]; rfl
    rcases h with ⟨h | h, -⟩ | ⟨h, -⟩ <;> rw [h4] at h <;> exact absurd h (by decide)
  · exact h2
theorem nDebtA_eq {LT : Nat → sT} {d pe pa la : Nat} {N : Nat → Int64} (hO : nOk N d pe pa la) {j : Nat} (hj : j < pa) : nEq N (nDebtA LT d la N j) := by
  unfold nDebtA
  by_cases c : N (110 + 7 * j + 6) = 0 ∧ nOwes N d j
  · rw [ifC_t c]
    have hb := nOwes_by hO hj c.2
    have ht := (hO.2.2.2.2.1 j hj).2.2.1
    have h24 := hO.2.2.1.2
    have h10 := hO.2.1.2
    unfold nPay1
    by_cases c2 : ¬ N (110 + 7 * j + 0) = 3 ∧ nPaid LT d la N j = nOwed LT N d la j 0
    · simp only [if_pos c2]
      exact (nPays_eq (by omega) (by omega)).tr (nSett_eq (by omega) (by omega) (by omega))
    · simp only [if_neg c2]
      exact nPays_eq (by omega) (by omega)
  · rw [ifC_f c]; exact nEq.rf
theorem nDebt1_eq {LT : Nat → sT} {d pe pa la : Nat} {N : Nat → Int64} (hO : nOk N d pe pa la) {j : Nat} (hj : j < pa) : nEq N (nDebt1 LT d la N j) := by
  have h24 := hO.2.2.1.2
  unfold nDebt1
  by_cases c : nDebtA LT d la N j (110 + 7 * j + 6) = 0 ∧ (N (110 + 7 * j + 0) = 3 ∨ N (110 + 7 * j + 0) = 4) ∧ N (110 + 7 * j + 5) = lN d
  · rw [if_pos c]; exact (nDebtA_eq hO hj).up _ (nStH (by omega))
  · rw [if_neg c]; exact nDebtA_eq hO hj
theorem nDebts_eq {LT : Nat → sT} {d pe pa la : Nat} {N : Nat → Int64} (hO : nOk N d pe pa la) : ∀ k, k ≤ pa → nEq N (nDebts LT d la N k)
  | 0, _ => nEq.rf
  | k + 1, h => (nDebts_eq hO k (by omega)).tr (nDebt1_eq (hO.eq (nDebts_eq hO k (by omega))) (by omega))
set_option maxRecDepth 100000 in
set_option maxHeartbeats 4000000 in
theorem ctX11_payDebts {G : jG} {sz : Nat} {Sh : jS} {M : jM} {o : Nat} {N : Nat → Int64} (hR : rLay o Sh M) {d pe pa la : Nat} (hO : nOk N d pe pa la) {LT : Nat → sT} (hL : lOk o M la LT) : jC G yX11_payDebts cX11_payDebts 12 (Option.none : Option FieldType) (jrm 5 0 0) sz Sh (jw M (o + 1) N) [.ref o] (jT sz Sh (rT o M (nDebts LT d la N pa) none)) := by
  refine jC_start (by decide +kernel) (Nat.le_of_ble_eq_true rfl) (fun X C E hN0 => ?_)
  rw [show jw M (o + 1) N = jw (jw M (o + 11) (M.2.1 (o + 11))) (o + 1) N by rw [jw_self]]
  refine j_aload_n (q := 1) C dX11_payDebts_0 rfl rfl rfl ?_
  refine jV1 jc11 (q := 4) C dX11_payDebts_1 rfl hR.1.1 mX11_today kw_965 kw_966 kw_33 (ctX11_today (M := jw M (o + 11) _) hR hO.1.1) rfl rfl (by decide) (Nat.le_of_ble_eq_true rfl) (by decide) ?_
  refine j_istore_n (lv' := [(1, _), (0, _)]) (q := 5) C dX11_payDebts_4 rfl rfl (by decide) rfl ?_
  refine j_iconst (v := nI 0) (q := 6) C dX11_payDebts_5 rfl (by decide) ?_
  refine j_istore_n (lv' := [(2, _), (1, _), (0, _)]) (q := 7) C dX11_payDebts_6 rfl rfl (by decide) rfl ?_
  have loop7 : ∀ (n k : Nat) (P Nk : Nat → Int64), Nk = nDebts LT d la N k → k + n = pa → jJ G X 0 0 sz Sh (jw (jw M (o + 11) P) (o + 1) Nk) 7 [(2, .int (nI k)), (1, .int (nI d)), (0, .ref o)] [] := by
    intro n
    induction n with
    | zero =>
      intro k P Nk eN hk
      have hOk := hO.eq (eN ▸ nDebts_eq (LT := LT) hO k (by omega))
      have hk5 : Nk 5 = lN pa := hOk.2.2.1.1
      have hpa : pa ≤ 24 := hOk.2.2.1.2
      have hpe : pe ≤ 10 := hOk.2.1.2
      have hd3 : d ≤ 300 := hOk.1.2
      have hRp : rLay o Sh (jw M (o + 11) P) := hR
      refine j_iload_n (q := 8) C dX11_payDebts_7 rfl rfl rfl ?_
      first | refine j_i2lN (q := 9) C dX11_payDebts_8 rfl (by omega) ?_ | refine j_i2l (q := 9) C dX11_payDebts_8 rfl rfl ?_
      refine j_aload_n (q := 10) C dX11_payDebts_9 rfl rfl rfl ?_
      refine jg_Model_now (q := 13) C dX11_payDebts_10 rfl hR.1.1 kw_869 hR.2.1 ?_
      refine j_iconst (v := nI 5) (q := 14) C dX11_payDebts_13 rfl (by decide) ?_
      refine j_laldW (q := 15) C dX11_payDebts_14 rfl hR.1.2.1 (by omega) (by decide) ?_
      rw [hk5]
      refine j_lcmp_ge (q1 := 16) (q := 19) (tgt := 214) C dX11_payDebts_15 dX11_payDebts_16 rfl rfl (by decide) (fun c_16 => ?_) (fun c_16 => absurd ((lN_le (by omega) (by omega)).mpr (by omega)) c_16)
      obtain rfl : k = pa := by omega
      exact j_vret C E dX11_payDebts_214 rfl rfl ((by rw [eN]; exact rT_p rfl))
    | succ n ih =>
      intro k P Nk eN hk
      have hOk := hO.eq (eN ▸ nDebts_eq (LT := LT) hO k (by omega))
      have hk5 : Nk 5 = lN pa := hOk.2.2.1.1
      have hpa : pa ≤ 24 := hOk.2.2.1.2
      have hpe : pe ≤ 10 := hOk.2.1.2
      have hd3 : d ≤ 300 := hOk.1.2
      have hRp : rLay o Sh (jw M (o + 11) P) := hR
      refine j_iload_n (q := 8) C dX11_payDebts_7 rfl rfl rfl ?_
      first | refine j_i2lN (q := 9) C dX11_payDebts_8 rfl (by omega) ?_ | refine j_i2l (q := 9) C dX11_payDebts_8 rfl rfl ?_
      refine j_aload_n (q := 10) C dX11_payDebts_9 rfl rfl rfl ?_
      refine jg_Model_now (q := 13) C dX11_payDebts_10 rfl hR.1.1 kw_869 hR.2.1 ?_
      refine j_iconst (v := nI 5) (q := 14) C dX11_payDebts_13 rfl (by decide) ?_
      refine j_laldW (q := 15) C dX11_payDebts_14 rfl hR.1.2.1 (by omega) (by decide) ?_
      rw [hk5]
      refine j_lcmp_ge (q1 := 16) (q := 19) (tgt := 214) C dX11_payDebts_15 dX11_payDebts_16 rfl rfl (by decide) (fun c_16 => absurd c_16 (fun h => absurd ((lN_le (by omega) (by omega)).mp h) (by omega))) (fun c_16 => ?_)
      refine j_aload_n (q := 20) C dX11_payDebts_19 rfl rfl rfl ?_
      refine jg_Model_now (q := 23) C dX11_payDebts_20 rfl hR.1.1 kw_869 hR.2.1 ?_
      refine j_iload_n (q := 24) C dX11_payDebts_23 rfl rfl rfl ?_
      refine j_iconst (v := nI 0) (q := 25) C dX11_payDebts_24 rfl (by decide) ?_
      refine jS1 (q := 28) C dX11_payDebts_25 rfl mX11_ofPaper kw_937 kw_938 (ctX11_ofPaper) rfl rfl (by decide) (Nat.le_of_ble_eq_true rfl) (by decide) ?_
      refine j_laldW (q := 29) C dX11_payDebts_28 rfl hR.1.2.1 (by omega) (by decide) ?_
      refine j_lstore_n (lv' := [(3, _), (2, _), (1, _), (0, _)]) (q := 30) C dX11_payDebts_29 rfl rfl (by decide) rfl ?_
      refine j_aload_n (q := 31) C dX11_payDebts_30 rfl rfl rfl ?_
      refine jg_Model_now (q := 34) C dX11_payDebts_31 rfl hR.1.1 kw_869 hR.2.1 ?_
      refine j_iload_n (q := 35) C dX11_payDebts_34 rfl rfl rfl ?_
      refine j_iconst (v := nI 5) (q := 36) C dX11_payDebts_35 rfl (by decide) ?_
      refine jS1 (q := 39) C dX11_payDebts_36 rfl mX11_ofPaper kw_937 kw_938 (ctX11_ofPaper) rfl rfl (by decide) (Nat.le_of_ble_eq_true rfl) (by decide) ?_
      refine j_laldW (q := 40) C dX11_payDebts_39 rfl hR.1.2.1 (by omega) (by decide) ?_
      refine j_lstore (lv' := [(5, _), (3, _), (2, _), (1, _), (0, _)]) (q := 42) C dX11_payDebts_40 rfl (by decide) rfl ?_
      have j164 : ∀ (P1 N1 : Nat → Int64), N1 = nDebtA LT d la Nk k → jJ G X 0 0 sz Sh (jw (jw M (o + 11) P1) (o + 1) N1) 164 [(5, .long (Nk (110 + 7 * k + 5))), (3, .long (Nk (110 + 7 * k + 0))), (2, .int (nI k)), (1, .int (nI d)), (0, .ref o)] [] := by
        intro P1 N1 e1
        refine j_aload_n (q := 165) C dX11_payDebts_164 rfl rfl rfl ?_
        refine j_iload_n (q := 166) C dX11_payDebts_165 rfl rfl rfl ?_
        refine jV1 jc11 (q := 169) C dX11_payDebts_166 rfl hR.1.1 mX11_isOpen kw_959 kw_960 kw_31 (ctX11_isOpen (M := jw M (o + 11) P1) hR (by omega)) rfl rfl (by decide) (Nat.le_of_ble_eq_true rfl) (by decide) ?_
        refine j_if_eq (q := 172) (tgt := 208) C dX11_payDebts_169 rfl (by decide) (fun c_169 => ?_) (fun c_169 => ?_)
        · first | refine j_iincN (lv' := [(2, _), (5, _), (3, _), (1, _), (0, _)]) (q := 211) C dX11_payDebts_208 rfl rfl (by decide) rfl ?_ | refine j_iinc (lv' := [(2, _), (5, _), (3, _), (1, _), (0, _)]) (q := 211) C dX11_payDebts_208 rfl rfl rfl (by decide) rfl ?_
          refine j_goto (tgt := 7) C dX11_payDebts_211 (by decide) ?_
          exact j_fewer (lv' := [(2, .int (nI (k + 1))), (1, .int (nI d)), (0, .ref o)]) (by simp) (ih (k + 1) _ _ (by rw [nDebts, ← eN, nDebt1, ← e1, if_neg (fun h => jb_0.mp c_169 h.1)]) (by omega))
        · refine j_lload_n (q := 173) C dX11_payDebts_172 rfl rfl rfl ?_
          refine j_ldc2 (q := 176) C dX11_payDebts_173 rfl kw_995 ?_
          refine j_lcmp_eq (q1 := 177) (q := 180) (tgt := 188) C dX11_payDebts_176 dX11_payDebts_177 rfl rfl (by decide) (fun c_177 => ?_) (fun c_177 => ?_)
          · refine j_lload (q := 190) C dX11_payDebts_188 rfl rfl ?_
            refine j_iload_n (q := 191) C dX11_payDebts_190 rfl rfl rfl ?_
            first | refine j_i2lN (q := 192) C dX11_payDebts_191 rfl (by omega) ?_ | refine j_i2l (q := 192) C dX11_payDebts_191 rfl rfl ?_
            refine j_lcmp_ne (q1 := 193) (q := 196) (tgt := 208) C dX11_payDebts_192 dX11_payDebts_193 rfl rfl (by decide) (fun c_193 => ?_) (fun c_193 => ?_)
            · first | refine j_iincN (lv' := [(2, _), (5, _), (3, _), (1, _), (0, _)]) (q := 211) C dX11_payDebts_208 rfl rfl (by decide) rfl ?_ | refine j_iinc (lv' := [(2, _), (5, _), (3, _), (1, _), (0, _)]) (q := 211) C dX11_payDebts_208 rfl rfl rfl (by decide) rfl ?_
              refine j_goto (tgt := 7) C dX11_payDebts_211 (by decide) ?_
              exact j_fewer (lv' := [(2, .int (nI (k + 1))), (1, .int (nI d)), (0, .ref o)]) (by simp) (ih (k + 1) _ _ (by rw [nDebts, ← eN, nDebt1, ← e1, if_neg (fun h => c_193 h.2.2)]) (by omega))
            · refine j_aload_n (q := 197) C dX11_payDebts_196 rfl rfl rfl ?_
              refine jg_Model_now (q := 200) C dX11_payDebts_197 rfl hR.1.1 kw_869 hR.2.1 ?_
              refine j_iload_n (q := 201) C dX11_payDebts_200 rfl rfl rfl ?_
              refine j_bipush (v := nI 6) (q := 203) C dX11_payDebts_201 rfl (by decide) ?_
              refine jS1 (q := 206) C dX11_payDebts_203 rfl mX11_ofPaper kw_937 kw_938 (ctX11_ofPaper) rfl rfl (by decide) (Nat.le_of_ble_eq_true rfl) (by decide) ?_
              refine j_lconst (v := 1) (q := 207) C dX11_payDebts_206 rfl (by decide) ?_
              refine j_lastW (q := 208) C dX11_payDebts_207 rfl hR.1.2.1 (by omega) (by decide) ?_
              first | refine j_iincN (lv' := [(2, _), (5, _), (3, _), (1, _), (0, _)]) (q := 211) C dX11_payDebts_208 rfl rfl (by decide) rfl ?_ | refine j_iinc (lv' := [(2, _), (5, _), (3, _), (1, _), (0, _)]) (q := 211) C dX11_payDebts_208 rfl rfl rfl (by decide) rfl ?_
              refine j_goto (tgt := 7) C dX11_payDebts_211 (by decide) ?_
              exact j_fewer (lv' := [(2, .int (nI (k + 1))), (1, .int (nI d)), (0, .ref o)]) (by simp) (ih (k + 1) _ _ (by rw [nDebts, ← eN, nDebt1, ← e1, if_pos ⟨jb_n.mp c_169, Or.inl c_177, c_193⟩]) (by omega))
          · refine j_lload_n (q := 181) C dX11_payDebts_180 rfl rfl rfl ?_
            refine j_ldc2 (q := 184) C dX11_payDebts_181 rfl kw_948 ?_
            refine j_lcmp_ne (q1 := 185) (q := 188) (tgt := 208) C dX11_payDebts_184 dX11_payDebts_185 rfl rfl (by decide) (fun c_185 => ?_) (fun c_185 => ?_)
            · first | refine j_iincN (lv' := [(2, _), (5, _), (3, _), (1, _), (0, _)]) (q := 211) C dX11_payDebts_208 rfl rfl (by decide) rfl ?_ | refine j_iinc (lv' := [(2, _), (5, _), (3, _), (1, _), (0, _)]) (q := 211) C dX11_payDebts_208 rfl rfl rfl (by decide) rfl ?_
              refine j_goto (tgt := 7) C dX11_payDebts_211 (by decide) ?_
              exact j_fewer (lv' := [(2, .int (nI (k + 1))), (1, .int (nI d)), (0, .ref o)]) (by simp) (ih (k + 1) _ _ (by rw [nDebts, ← eN, nDebt1, ← e1, if_neg (fun h => h.2.1.elim c_177 c_185)]) (by omega))
            · refine j_lload (q := 190) C dX11_payDebts_188 rfl rfl ?_
              refine j_iload_n (q := 191) C dX11_payDebts_190 rfl rfl rfl ?_
              first | refine j_i2lN (q := 192) C dX11_payDebts_191 rfl (by omega) ?_ | refine j_i2l (q := 192) C dX11_payDebts_191 rfl rfl ?_
              refine j_lcmp_ne (q1 := 193) (q := 196) (tgt := 208) C dX11_payDebts_192 dX11_payDebts_193 rfl rfl (by decide) (fun c_193 => ?_) (fun c_193 => ?_)
              · first | refine j_iincN (lv' := [(2, _), (5, _), (3, _), (1, _), (0, _)]) (q := 211) C dX11_payDebts_208 rfl rfl (by decide) rfl ?_ | refine j_iinc (lv' := [(2, _), (5, _), (3, _), (1, _), (0, _)]) (q := 211) C dX11_payDebts_208 rfl rfl rfl (by decide) rfl ?_
                refine j_goto (tgt := 7) C dX11_payDebts_211 (by decide) ?_
                exact j_fewer (lv' := [(2, .int (nI (k + 1))), (1, .int (nI d)), (0, .ref o)]) (by simp) (ih (k + 1) _ _ (by rw [nDebts, ← eN, nDebt1, ← e1, if_neg (fun h => c_193 h.2.2)]) (by omega))
              · refine j_aload_n (q := 197) C dX11_payDebts_196 rfl rfl rfl ?_
                refine jg_Model_now (q := 200) C dX11_payDebts_197 rfl hR.1.1 kw_869 hR.2.1 ?_
                refine j_iload_n (q := 201) C dX11_payDebts_200 rfl rfl rfl ?_
                refine j_bipush (v := nI 6) (q := 203) C dX11_payDebts_201 rfl (by decide) ?_
                refine jS1 (q := 206) C dX11_payDebts_203 rfl mX11_ofPaper kw_937 kw_938 (ctX11_ofPaper) rfl rfl (by decide) (Nat.le_of_ble_eq_true rfl) (by decide) ?_
                refine j_lconst (v := 1) (q := 207) C dX11_payDebts_206 rfl (by decide) ?_
                refine j_lastW (q := 208) C dX11_payDebts_207 rfl hR.1.2.1 (by omega) (by decide) ?_
                first | refine j_iincN (lv' := [(2, _), (5, _), (3, _), (1, _), (0, _)]) (q := 211) C dX11_payDebts_208 rfl rfl (by decide) rfl ?_ | refine j_iinc (lv' := [(2, _), (5, _), (3, _), (1, _), (0, _)]) (q := 211) C dX11_payDebts_208 rfl rfl rfl (by decide) rfl ?_
                refine j_goto (tgt := 7) C dX11_payDebts_211 (by decide) ?_
                exact j_fewer (lv' := [(2, .int (nI (k + 1))), (1, .int (nI d)), (0, .ref o)]) (by simp) (ih (k + 1) _ _ (by rw [nDebts, ← eN, nDebt1, ← e1, if_pos ⟨jb_n.mp c_169, Or.inr c_185, c_193⟩]) (by omega))
      have j84 : jJ G X 0 0 sz Sh (jw (jw M (o + 11) P) (o + 1) Nk) 84 [(5, .long (Nk (110 + 7 * k + 5))), (3, .long (Nk (110 + 7 * k + 0))), (2, .int (nI k)), (1, .int (nI d)), (0, .ref o)] [.int (jbC (nOwes Nk d k))] := by
        refine j_istore (lv' := [(7, _), (5, _), (3, _), (2, _), (1, _), (0, _)]) (q := 86) C dX11_payDebts_84 rfl (by decide) rfl ?_
        refine j_aload_n (q := 87) C dX11_payDebts_86 rfl rfl rfl ?_
        refine j_iload_n (q := 88) C dX11_payDebts_87 rfl rfl rfl ?_
        refine jV1 jc11 (q := 91) C dX11_payDebts_88 rfl hR.1.1 mX11_isOpen kw_959 kw_960 kw_31 (ctX11_isOpen hRp (by omega)) rfl rfl (by decide) (Nat.le_of_ble_eq_true rfl) (by decide) ?_
        refine j_if_eq (q := 94) (tgt := 164) C dX11_payDebts_91 rfl (by decide) (fun c_91 => ?_) (fun c_91 => ?_)
        · exact j_fewer (lv' := [(5, .long (Nk (110 + 7 * k + 5))), (3, .long (Nk (110 + 7 * k + 0))), (2, .int (nI k)), (1, .int (nI d)), (0, .ref o)]) (by simp) (j164 _ _ (by rw [nDebtA, ifC_f (fun h => jb_0.mp c_91 h.1)]))
        · refine j_iload (q := 96) C dX11_payDebts_94 rfl rfl ?_
          refine j_if_eq (q := 99) (tgt := 164) C dX11_payDebts_96 rfl (by decide) (fun c_96 => ?_) (fun c_96 => ?_)
          · exact j_fewer (lv' := [(5, .long (Nk (110 + 7 * k + 5))), (3, .long (Nk (110 + 7 * k + 0))), (2, .int (nI k)), (1, .int (nI d)), (0, .ref o)]) (by simp) (j164 _ _ (by rw [nDebtA, ifC_f (fun h => jbC_0.mp c_96 h.2)]))
          · refine j_aload_n (q := 100) C dX11_payDebts_99 rfl rfl rfl ?_
            refine j_iload_n (q := 101) C dX11_payDebts_100 rfl rfl rfl ?_
            refine j_iconst (v := nI 0) (q := 102) C dX11_payDebts_101 rfl (by decide) ?_
            refine jVT jc11 (q := 105) C dX11_payDebts_102 rfl hR.1.1 mX11_owedOf kw_962 kw_963 kw_32 (ctX11_owedN (LT := LT) hRp hOk hL (by omega)) rfl rfl (by decide) (Nat.le_of_ble_eq_true rfl) (by decide) (fun r_102 M_102 h_102 => ?_)
            obtain ⟨P2, rfl, rfl⟩ := h_102
            rw [jw_jw]
            have hRp2 : rLay o Sh (jw M (o + 11) P2) := hR
            have hby := (nOwes_by hOk (by omega) (jbC_n.mp c_96))
            have hto := (hOk.2.2.2.2.1 k (by omega)).2.2.1
            refine j_lstore (lv' := [(8, _), (7, _), (5, _), (3, _), (2, _), (1, _), (0, _)]) (q := 107) C dX11_payDebts_105 rfl (by decide) rfl ?_
            refine j_lload (q := 109) C dX11_payDebts_107 rfl rfl ?_
            refine j_aload_n (q := 110) C dX11_payDebts_109 rfl rfl rfl ?_
            refine jg_Model_now (q := 113) C dX11_payDebts_110 rfl hR.1.1 kw_869 hR.2.1 ?_
            refine j_aload_n (q := 114) C dX11_payDebts_113 rfl rfl rfl ?_
            refine jg_Model_now (q := 117) C dX11_payDebts_114 rfl hR.1.1 kw_869 hR.2.1 ?_
            refine j_iload_n (q := 118) C dX11_payDebts_117 rfl rfl rfl ?_
            refine j_iconst (v := nI 1) (q := 119) C dX11_payDebts_118 rfl (by decide) ?_
            refine jS1 (q := 122) C dX11_payDebts_119 rfl mX11_ofPaper kw_937 kw_938 (ctX11_ofPaper) rfl rfl (by decide) (Nat.le_of_ble_eq_true rfl) (by decide) ?_
            refine j_laldW (q := 123) C dX11_payDebts_122 rfl hR.1.2.1 (by omega) (by decide) ?_
            rw [hby.1.1]
            first | refine j_l2iN (q := 124) C dX11_payDebts_123 rfl ?_ | refine j_l2i (q := 124) C dX11_payDebts_123 rfl rfl ?_
            refine j_iconst (v := nI 0) (q := 125) C dX11_payDebts_124 rfl (by decide) ?_
            refine jS1 (q := 128) C dX11_payDebts_125 rfl mX11_of kw_908 kw_909 (ctX11_of) rfl rfl (by decide) (Nat.le_of_ble_eq_true rfl) (by decide) ?_
            refine j_laldW (q := 129) C dX11_payDebts_128 rfl hR.1.2.1 (by omega) (by decide) ?_
            refine j_lmin (q := 132) C dX11_payDebts_129 rfl kw_988 (by decide) (Nat.le_of_ble_eq_true rfl) (by decide) ?_
            refine j_lstore (lv' := [(10, _), (8, _), (7, _), (5, _), (3, _), (2, _), (1, _), (0, _)]) (q := 134) C dX11_payDebts_132 rfl (by decide) rfl ?_
            refine j_aload_n (q := 135) C dX11_payDebts_134 rfl rfl rfl ?_
            refine j_iload_n (q := 136) C dX11_payDebts_135 rfl rfl rfl ?_
            refine j_lload (q := 138) C dX11_payDebts_136 rfl rfl ?_
            refine jV0 jc11 (q := 141) C dX11_payDebts_138 rfl hR.1.1 mX11_pays kw_997 kw_998 kw_38 (ctX11_pays hRp2 (b := nv (Nk (110 + 7 * k + 1))) (t := nv (Nk (110 + 7 * k + 2))) (by omega) hby.1.1 (by have := hby.2; omega) hto.1.1 (by have := hto.2; omega)) rfl rfl (by decide) (Nat.le_of_ble_eq_true rfl) (by decide) ?_
            refine j_lload_n (q := 142) C dX11_payDebts_141 rfl rfl rfl ?_
            refine j_ldc2 (q := 145) C dX11_payDebts_142 rfl kw_995 ?_
            refine j_lcmp_eq (q1 := 146) (q := 149) (tgt := 164) C dX11_payDebts_145 dX11_payDebts_146 rfl rfl (by decide) (fun c_146 => ?_) (fun c_146 => ?_)
            · exact j_fewer (lv' := [(5, .long (Nk (110 + 7 * k + 5))), (3, .long (Nk (110 + 7 * k + 0))), (2, .int (nI k)), (1, .int (nI d)), (0, .ref o)]) (by simp) (j164 _ _ (by rw [nDebtA, ifC_t ⟨jb_n.mp c_91, jbC_n.mp c_96⟩, nPay1, if_neg (fun h => h.1 c_146)]; rfl))
            · refine j_lload (q := 151) C dX11_payDebts_149 rfl rfl ?_
              refine j_lload (q := 153) C dX11_payDebts_151 rfl rfl ?_
              refine j_lcmp_ne (q1 := 154) (q := 157) (tgt := 164) C dX11_payDebts_153 dX11_payDebts_154 rfl rfl (by decide) (fun c_154 => ?_) (fun c_154 => ?_)
              · exact j_fewer (lv' := [(5, .long (Nk (110 + 7 * k + 5))), (3, .long (Nk (110 + 7 * k + 0))), (2, .int (nI k)), (1, .int (nI d)), (0, .ref o)]) (by simp) (j164 _ _ (by rw [nDebtA, ifC_t ⟨jb_n.mp c_91, jbC_n.mp c_96⟩, nPay1, if_neg (fun h => c_154 h.2)]; rfl))
              · refine j_aload_n (q := 158) C dX11_payDebts_157 rfl rfl rfl ?_
                refine j_iload_n (q := 159) C dX11_payDebts_158 rfl rfl rfl ?_
                refine j_lload (q := 161) C dX11_payDebts_159 rfl rfl ?_
                refine jV0 jc11 (q := 164) C dX11_payDebts_161 rfl hR.1.1 mX11_settles kw_1003 kw_1004 kw_40 (ctX11_settles hRp2 (b := nv (Nk (110 + 7 * k + 1))) (t := nv (Nk (110 + 7 * k + 2))) (s := nv (Nk (110 + 7 * k + 4))) (hOk.eq (nPays_eq (by have := hby.2; omega) (by have := hto.2; omega))).1.1 hd3 (by omega) (((nPays_eq (by have := hby.2; omega) (by have := hto.2; omega)) _ (nStQ (by omega))).trans hby.1.1) (by have := hby.2; omega) (((nPays_eq (by have := hby.2; omega) (by have := hto.2; omega)) _ (nStQ (by omega))).trans hto.1.1) (by have := hto.2; omega) (((nPays_eq (by have := hby.2; omega) (by have := hto.2; omega)) _ (nStQ (by omega))).trans (hOk.2.2.2.2.1 k (by omega)).2.2.2.1.1.1) (hOk.2.2.2.2.1 k (by omega)).2.2.2.1.1.2 ((hOk.eq (nPays_eq (by have := hby.2; omega) (by have := hto.2; omega))).2.2.2.2.2 _ (hOk.2.2.2.2.1 k (by omega)).2.2.2.1.2).nz ((hOk.eq (nPays_eq (by have := hby.2; omega) (by have := hto.2; omega))).2.2.2.2.2 d (Nat.le_refl d)).nz) rfl rfl (by decide) (Nat.le_of_ble_eq_true rfl) (by decide) ?_
                exact j_fewer (lv' := [(5, .long (Nk (110 + 7 * k + 5))), (3, .long (Nk (110 + 7 * k + 0))), (2, .int (nI k)), (1, .int (nI d)), (0, .ref o)]) (by simp) (j164 _ _ (by rw [nDebtA, ifC_t ⟨jb_n.mp c_91, jbC_n.mp c_96⟩, nPay1, if_pos ⟨c_146, c_154⟩]; rfl))
      refine j_lload_n (q := 43) C dX11_payDebts_42 rfl rfl rfl ?_
      refine j_lconst (v := 1) (q := 44) C dX11_payDebts_43 rfl (by decide) ?_
      refine j_lcmp_eq (q1 := 45) (q := 48) (tgt := 56) C dX11_payDebts_44 dX11_payDebts_45 rfl rfl (by decide) (fun c_45 => ?_) (fun c_45 => ?_)
      · refine j_lload (q := 58) C dX11_payDebts_56 rfl rfl ?_
        refine j_iload_n (q := 59) C dX11_payDebts_58 rfl rfl rfl ?_
        first | refine j_i2lN (q := 60) C dX11_payDebts_59 rfl (by omega) ?_ | refine j_i2l (q := 60) C dX11_payDebts_59 rfl rfl ?_
        refine j_lcmp_le (q1 := 61) (q := 64) (tgt := 79) C dX11_payDebts_60 dX11_payDebts_61 rfl rfl (by decide) (fun c_61 => ?_) (fun c_61 => ?_)
        · refine j_iconst (v := nI 1) (q := 80) C dX11_payDebts_79 rfl (by decide) ?_
          refine j_goto (tgt := 84) C dX11_payDebts_80 (by decide) ?_
          exact j_top (congrArg Value.int (jbC_t (p := nOwes Nk d k) (Or.inl ⟨Or.inl c_45, c_61⟩)).symm) j84
        · refine j_lload_n (q := 65) C dX11_payDebts_64 rfl rfl rfl ?_
          refine j_ldc2 (q := 68) C dX11_payDebts_65 rfl kw_995 ?_
          refine j_lcmp_ne (q1 := 69) (q := 72) (tgt := 83) C dX11_payDebts_68 dX11_payDebts_69 rfl rfl (by decide) (fun c_69 => ?_) (fun c_69 => ?_)
          · refine j_iconst (v := nI 0) (q := 84) C dX11_payDebts_83 rfl (by decide) ?_
            exact j_top (congrArg Value.int (jbC_f (p := nOwes Nk d k) (fun h => h.elim (fun h => c_61 h.2) (fun h => c_69 h.1))).symm) j84
          · refine j_iload_n (q := 73) C dX11_payDebts_72 rfl rfl rfl ?_
            refine j_bipush (v := nI 10) (q := 75) C dX11_payDebts_73 rfl (by decide) ?_
            refine j_irem (q := 76) C dX11_payDebts_75 rfl (by decide) ?_
            refine j_if_ne (q := 79) (tgt := 83) C dX11_payDebts_76 rfl (by decide) (fun c_76 => ?_) (fun c_76 => ?_)
            · refine j_iconst (v := nI 0) (q := 84) C dX11_payDebts_83 rfl (by decide) ?_
              exact j_top (congrArg Value.int (jbC_f (p := nOwes Nk d k) (fun h => h.elim (fun h => c_61 h.2) (fun h => c_76 (by rw [pk_rem (by omega) (by omega) (by omega), h.2]; decide)))).symm) j84
            · refine j_iconst (v := nI 1) (q := 80) C dX11_payDebts_79 rfl (by decide) ?_
              refine j_goto (tgt := 84) C dX11_payDebts_80 (by decide) ?_
              exact j_top (congrArg Value.int (jbC_t (p := nOwes Nk d k) (Or.inr ⟨c_69, (by rw [pk_rem (by omega) (by omega) (by omega)] at c_76; exact (nI_eq (b := 0) (by omega) (by omega)).mp c_76)⟩)).symm) j84
      · refine j_lload_n (q := 49) C dX11_payDebts_48 rfl rfl rfl ?_
        refine j_ldc2 (q := 52) C dX11_payDebts_49 rfl kw_920 ?_
        refine j_lcmp_ne (q1 := 53) (q := 56) (tgt := 64) C dX11_payDebts_52 dX11_payDebts_53 rfl rfl (by decide) (fun c_53 => ?_) (fun c_53 => ?_)
        · refine j_lload_n (q := 65) C dX11_payDebts_64 rfl rfl rfl ?_
          refine j_ldc2 (q := 68) C dX11_payDebts_65 rfl kw_995 ?_
          refine j_lcmp_ne (q1 := 69) (q := 72) (tgt := 83) C dX11_payDebts_68 dX11_payDebts_69 rfl rfl (by decide) (fun c_69 => ?_) (fun c_69 => ?_)
          · refine j_iconst (v := nI 0) (q := 84) C dX11_payDebts_83 rfl (by decide) ?_
            exact j_top (congrArg Value.int (jbC_f (p := nOwes Nk d k) (fun h => h.elim (fun h => h.1.elim c_45 c_53) (fun h => c_69 h.1))).symm) j84
          · refine j_iload_n (q := 73) C dX11_payDebts_72 rfl rfl rfl ?_
            refine j_bipush (v := nI 10) (q := 75) C dX11_payDebts_73 rfl (by decide) ?_
            refine j_irem (q := 76) C dX11_payDebts_75 rfl (by decide) ?_
            refine j_if_ne (q := 79) (tgt := 83) C dX11_payDebts_76 rfl (by decide) (fun c_76 => ?_) (fun c_76 => ?_)
            · refine j_iconst (v := nI 0) (q := 84) C dX11_payDebts_83 rfl (by decide) ?_
              exact j_top (congrArg Value.int (jbC_f (p := nOwes Nk d k) (fun h => h.elim (fun h => h.1.elim c_45 c_53) (fun h => c_76 (by rw [pk_rem (by omega) (by omega) (by omega), h.2]; decide)))).symm) j84
            · refine j_iconst (v := nI 1) (q := 80) C dX11_payDebts_79 rfl (by decide) ?_
              refine j_goto (tgt := 84) C dX11_payDebts_80 (by decide) ?_
              exact j_top (congrArg Value.int (jbC_t (p := nOwes Nk d k) (Or.inr ⟨c_69, (by rw [pk_rem (by omega) (by omega) (by omega)] at c_76; exact (nI_eq (b := 0) (by omega) (by omega)).mp c_76)⟩)).symm) j84
        · refine j_lload (q := 58) C dX11_payDebts_56 rfl rfl ?_
          refine j_iload_n (q := 59) C dX11_payDebts_58 rfl rfl rfl ?_
          first | refine j_i2lN (q := 60) C dX11_payDebts_59 rfl (by omega) ?_ | refine j_i2l (q := 60) C dX11_payDebts_59 rfl rfl ?_
          refine j_lcmp_le (q1 := 61) (q := 64) (tgt := 79) C dX11_payDebts_60 dX11_payDebts_61 rfl rfl (by decide) (fun c_61 => ?_) (fun c_61 => ?_)
          · refine j_iconst (v := nI 1) (q := 80) C dX11_payDebts_79 rfl (by decide) ?_
            refine j_goto (tgt := 84) C dX11_payDebts_80 (by decide) ?_
            exact j_top (congrArg Value.int (jbC_t (p := nOwes Nk d k) (Or.inl ⟨Or.inr c_53, c_61⟩)).symm) j84
          · refine j_lload_n (q := 65) C dX11_payDebts_64 rfl rfl rfl ?_
            refine j_ldc2 (q := 68) C dX11_payDebts_65 rfl kw_995 ?_
            refine j_lcmp_ne (q1 := 69) (q := 72) (tgt := 83) C dX11_payDebts_68 dX11_payDebts_69 rfl rfl (by decide) (fun c_69 => ?_) (fun c_69 => ?_)
            · refine j_iconst (v := nI 0) (q := 84) C dX11_payDebts_83 rfl (by decide) ?_
              exact j_top (congrArg Value.int (jbC_f (p := nOwes Nk d k) (fun h => h.elim (fun h => c_61 h.2) (fun h => c_69 h.1))).symm) j84
            · refine j_iload_n (q := 73) C dX11_payDebts_72 rfl rfl rfl ?_
              refine j_bipush (v := nI 10) (q := 75) C dX11_payDebts_73 rfl (by decide) ?_
              refine j_irem (q := 76) C dX11_payDebts_75 rfl (by decide) ?_
              refine j_if_ne (q := 79) (tgt := 83) C dX11_payDebts_76 rfl (by decide) (fun c_76 => ?_) (fun c_76 => ?_)
              · refine j_iconst (v := nI 0) (q := 84) C dX11_payDebts_83 rfl (by decide) ?_
                exact j_top (congrArg Value.int (jbC_f (p := nOwes Nk d k) (fun h => h.elim (fun h => c_61 h.2) (fun h => c_76 (by rw [pk_rem (by omega) (by omega) (by omega), h.2]; decide)))).symm) j84
              · refine j_iconst (v := nI 1) (q := 80) C dX11_payDebts_79 rfl (by decide) ?_
                refine j_goto (tgt := 84) C dX11_payDebts_80 (by decide) ?_
                exact j_top (congrArg Value.int (jbC_t (p := nOwes Nk d k) (Or.inr ⟨c_69, (by rw [pk_rem (by omega) (by omega) (by omega)] at c_76; exact (nI_eq (b := 0) (by omega) (by omega)).mp c_76)⟩)).symm) j84
  exact loop7 pa 0 (M.2.1 (o + 11)) N rfl (by omega)

