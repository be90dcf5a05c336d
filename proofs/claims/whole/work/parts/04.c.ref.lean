def nTx (N : Nat → Int64) : Nat → Int64 × (Nat → Int64)
  | 0 => (0, N)
  | k + 1 => ((nTx N k).1 + (nTx N k).2 (10 + 10 * k + 0) / 10, va_up (nTx N k).2 (10 + 10 * k + 0) ((nTx N k).2 (10 + 10 * k + 0) - (nTx N k).2 (10 + 10 * k + 0) / 10))
theorem nTx_low (N : Nat → Int64) (k : Nat) {j : Nat} (h : j < 10) : (nTx N k).2 j = N j := by
  induction k with
  | zero => rfl
  | succ k ih => rw [nTx]; show va_up _ _ _ j = _; rw [va_up_ne _ _ (by omega), ih]
def nTaxed (N : Nat → Int64) (pe : Nat) : Nat → Int64 := nGets (nTx N pe).2 1 (nTx N pe).1
def nSum (N : Nat → Int64) (f : Nat) : Nat → Int64
  | 0 => 0
  | k + 1 => nSum N f k + N (10 + 10 * k + f)
def sPress (N : Nat → Int64) (v : Int64) : sA := if (0 : Int64) ≤ v ∧ v ≤ 1000000000000000 then (nGets (va_up N 2 (N 2 + v)) 1 v 1, false, nGets (va_up N 2 (N 2 + v)) 1 v) else (-100001, true, N)
def nGive (N : Nat → Int64) (p : Nat) (v : Int64) : Nat → Int64 := nGets (va_up N 1 (N 1 - v)) (10 + 10 * p + 0) v
def sGive (N : Nat → Int64) (p : Int32) (v : Int64) : sA := if okP N p ∧ ((1 : Int64) ≤ v ∧ v ≤ 1000000000000000) then (if v ≤ N 1 then (nGive N p.toNatClampNeg v (10 + 10 * p.toNatClampNeg + 0), false, nGive N p.toNatClampNeg v) else (-100008, true, N)) else (-100001, true, N)
abbrev okD (N : Nat → Int64) (x : Int32) : Prop := (0 : Int64) ≤ x.toInt64 ∧ x.toInt64 ≤ N 0
def sPrice (N : Nat → Int64) (x : Int32) : sA := if okD N x then (N (310 + x.toNatClampNeg), false, N) else (-100001, true, N)
def sIndex (N : Nat → Int64) (x z : Int32) : sA := if okD N x ∧ okD N z then (lmn 1000000000000000 (100 * N (310 + x.toNatClampNeg) / N (310 + z.toNatClampNeg)), false, N) else (-100001, true, N)
def sTear (N : Nat → Int64) (q : Int32) : sA := if okQ N q then (if N (110 + 7 * q.toNatClampNeg + 6) = 0 then (N (110 + 7 * q.toNatClampNeg + 3), false, va_up N (110 + 7 * q.toNatClampNeg + 6) 2) else (-100006, true, N)) else (-100001, true, N)
def nCp (A N : Nat → Int64) (n : Nat) : Nat → Int64 := fun j => if j < n then A j else N j
theorem nCp_s (A N : Nat → Int64) (n : Nat) : va_up (nCp A N n) n (A n) = nCp A N (n + 1) := by
  funext j
  simp only [nCp, va_up]
  by_cases h : j = n
  · rw [if_pos h, if_pos (by omega), h]
  · rw [if_neg h]
    by_cases h2 : j < n
    · rw [if_pos h2, if_pos (by omega)]
    · rw [if_neg h2, if_neg (by omega)]
theorem nCp_0 (A N : Nat → Int64) : nCp A N 0 = N := by funext j; simp [nCp]
set_option maxRecDepth 100000 in
set_option maxHeartbeats 4000000 in
theorem ctX11_isDay {G : jG} {sz : Nat} {Sh : jS} {M : jM} {o : Nat} {N : Nat → Int64} (hR : rLay o Sh M) {x : Int32} : jC G yX11_isDay cX11_isDay 2 (Option.some FieldType.boolean) (jrm 2 0 0) sz Sh (jw M (o + 1) N) [.ref o, .int x] (jR (some (.int (jb (okD N x)))) sz Sh (jw M (o + 1) N)) := by
  refine jC_start (by decide +kernel) (Nat.le_of_ble_eq_true rfl) (fun X C E hN0 => ?_)
  refine j_iload_n (q := 1) C dX11_isDay_0 rfl rfl rfl ?_
  first | refine j_i2lN (q := 2) C dX11_isDay_1 rfl (by omega) ?_ | refine j_i2l (q := 2) C dX11_isDay_1 rfl rfl ?_
  refine j_lconst (v := 0) (q := 3) C dX11_isDay_2 rfl (by decide) ?_
  refine j_aload_n (q := 4) C dX11_isDay_3 rfl rfl rfl ?_
  refine jg_Model_now (q := 7) C dX11_isDay_4 rfl hR.1.1 kw_869 hR.2.1 ?_
  refine j_iconst (v := nI 0) (q := 8) C dX11_isDay_7 rfl (by decide) ?_
  refine j_laldW (q := 9) C dX11_isDay_8 rfl hR.1.2.1 (by omega) (by decide) ?_
  refine jS1 (q := 12) C dX11_isDay_9 rfl mX11_within kw_898 kw_899 (ctX11_within) rfl rfl (by decide) (Nat.le_of_ble_eq_true rfl) (by decide) ?_
  exact j_zret C E dX11_isDay_12 (by first | rfl | exact jb_nar) rfl rfl (jR_i)

set_option maxRecDepth 100000 in
set_option maxHeartbeats 4000000 in
theorem ctX11_taxes {G : jG} {sz : Nat} {Sh : jS} {M : jM} {o : Nat} {N : Nat → Int64} (hR : rLay o Sh M) {pe : Nat} (h4 : N 4 = lN pe) (hpe : pe ≤ 10) : jC G yX11_taxes cX11_taxes 6 (Option.some FieldType.long) (jrm 2 0 0) sz Sh (jw M (o + 1) N) [.ref o] (jR (some (.long (nTx N pe).1)) sz Sh (jw M (o + 1) (nTaxed N pe))) := by
  refine jC_start (by decide +kernel) (Nat.le_of_ble_eq_true rfl) (fun X C E hN0 => ?_)
  refine j_lconst (v := 0) (q := 1) C dX11_taxes_0 rfl (by decide) ?_
  refine j_lstore_n (lv' := [(1, _), (0, _)]) (q := 2) C dX11_taxes_1 rfl rfl (by decide) rfl ?_
  refine j_iconst (v := nI 0) (q := 3) C dX11_taxes_2 rfl (by decide) ?_
  refine j_istore_n (lv' := [(3, _), (1, _), (0, _)]) (q := 4) C dX11_taxes_3 rfl rfl (by decide) rfl ?_
  have loop4 : ∀ (n k : Nat) (A : Int64) (Nk : Nat → Int64), A = (nTx N k).1 → Nk = (nTx N k).2 → k + n = pe → jJ G X 0 0 sz Sh (jw M (o + 1) Nk) 4 [(3, .int (nI k)), (1, .long A), (0, .ref o)] [] := by
    intro n
    induction n with
    | zero =>
      intro k A Nk eA eN hk
      have hk4 : Nk 4 = lN pe := by rw [eN, nTx_low N k (by omega)]; exact h4
      refine j_iload_n (q := 5) C dX11_taxes_4 rfl rfl rfl ?_
      first | refine j_i2lN (q := 6) C dX11_taxes_5 rfl (by omega) ?_ | refine j_i2l (q := 6) C dX11_taxes_5 rfl rfl ?_
      refine j_aload_n (q := 7) C dX11_taxes_6 rfl rfl rfl ?_
      refine jg_Model_now (q := 10) C dX11_taxes_7 rfl hR.1.1 kw_869 hR.2.1 ?_
      refine j_iconst (v := nI 4) (q := 11) C dX11_taxes_10 rfl (by decide) ?_
      refine j_laldW (q := 12) C dX11_taxes_11 rfl hR.1.2.1 (by omega) (by decide) ?_
      rw [hk4]
      refine j_lcmp_ge (q1 := 13) (q := 16) (tgt := 58) C dX11_taxes_12 dX11_taxes_13 rfl rfl (by decide) (fun c_13 => ?_) (fun c_13 => absurd ((lN_le (by omega) (by omega)).mpr (by omega)) c_13)
      obtain rfl : k = pe := by omega
      refine j_aload_n (q := 59) C dX11_taxes_58 rfl rfl rfl ?_
      refine j_iconst (v := nI 1) (q := 60) C dX11_taxes_59 rfl (by decide) ?_
      refine j_lload_n (q := 61) C dX11_taxes_60 rfl rfl rfl ?_
      refine jV0 jc11 (q := 64) C dX11_taxes_61 rfl hR.1.1 mX11_gets kw_1000 kw_1001 kw_39 (ctX11_gets hR (by omega)) rfl rfl (by decide) (Nat.le_of_ble_eq_true rfl) (by decide) ?_
      refine j_lload_n (q := 65) C dX11_taxes_64 rfl rfl rfl ?_
      exact j_lret C E dX11_taxes_65 rfl rfl (jR_e (by rw [eA]) (by rw [eN, eA]; rfl))
    | succ n ih =>
      intro k A Nk eA eN hk
      have hk4 : Nk 4 = lN pe := by rw [eN, nTx_low N k (by omega)]; exact h4
      refine j_iload_n (q := 5) C dX11_taxes_4 rfl rfl rfl ?_
      first | refine j_i2lN (q := 6) C dX11_taxes_5 rfl (by omega) ?_ | refine j_i2l (q := 6) C dX11_taxes_5 rfl rfl ?_
      refine j_aload_n (q := 7) C dX11_taxes_6 rfl rfl rfl ?_
      refine jg_Model_now (q := 10) C dX11_taxes_7 rfl hR.1.1 kw_869 hR.2.1 ?_
      refine j_iconst (v := nI 4) (q := 11) C dX11_taxes_10 rfl (by decide) ?_
      refine j_laldW (q := 12) C dX11_taxes_11 rfl hR.1.2.1 (by omega) (by decide) ?_
      rw [hk4]
      refine j_lcmp_ge (q1 := 13) (q := 16) (tgt := 58) C dX11_taxes_12 dX11_taxes_13 rfl rfl (by decide) (fun c_13 => absurd c_13 (fun h => absurd ((lN_le (by omega) (by omega)).mp h) (by omega))) (fun c_13 => ?_)
      refine j_aload_n (q := 17) C dX11_taxes_16 rfl rfl rfl ?_
      refine jg_Model_now (q := 20) C dX11_taxes_17 rfl hR.1.1 kw_869 hR.2.1 ?_
      refine j_iload_n (q := 21) C dX11_taxes_20 rfl rfl rfl ?_
      refine j_iconst (v := nI 0) (q := 22) C dX11_taxes_21 rfl (by decide) ?_
      refine jS1 (q := 25) C dX11_taxes_22 rfl mX11_of kw_908 kw_909 (ctX11_of) rfl rfl (by decide) (Nat.le_of_ble_eq_true rfl) (by decide) ?_
      refine j_laldW (q := 26) C dX11_taxes_25 rfl hR.1.2.1 (by omega) (by decide) ?_
      refine j_ldc2 (q := 29) C dX11_taxes_26 rfl kw_921 ?_
      refine j_ldiv (q := 30) C dX11_taxes_29 rfl (by decide) ?_
      refine j_lstore (lv' := [(4, _), (3, _), (1, _), (0, _)]) (q := 32) C dX11_taxes_30 rfl (by decide) rfl ?_
      refine j_aload_n (q := 33) C dX11_taxes_32 rfl rfl rfl ?_
      refine jg_Model_now (q := 36) C dX11_taxes_33 rfl hR.1.1 kw_869 hR.2.1 ?_
      refine j_iload_n (q := 37) C dX11_taxes_36 rfl rfl rfl ?_
      refine j_iconst (v := nI 0) (q := 38) C dX11_taxes_37 rfl (by decide) ?_
      refine jS1 (q := 41) C dX11_taxes_38 rfl mX11_of kw_908 kw_909 (ctX11_of) rfl rfl (by decide) (Nat.le_of_ble_eq_true rfl) (by decide) ?_
      refine j_dup2_11 (q := 42) C dX11_taxes_41 rfl rfl rfl ?_
      refine j_laldW (q := 43) C dX11_taxes_42 rfl hR.1.2.1 (by omega) (by decide) ?_
      refine j_lload (q := 45) C dX11_taxes_43 rfl rfl ?_
      refine j_lsub (q := 46) C dX11_taxes_45 rfl ?_
      refine j_lastW (q := 47) C dX11_taxes_46 rfl hR.1.2.1 (by omega) (by decide) ?_
      refine j_lload_n (q := 48) C dX11_taxes_47 rfl rfl rfl ?_
      refine j_lload (q := 50) C dX11_taxes_48 rfl rfl ?_
      refine j_ladd (q := 51) C dX11_taxes_50 rfl ?_
      refine j_lstore_n (lv' := [(1, _), (4, _), (3, _), (0, _)]) (q := 52) C dX11_taxes_51 rfl rfl (by decide) rfl ?_
      first | refine j_iincN (lv' := [(3, _), (1, _), (4, _), (0, _)]) (q := 55) C dX11_taxes_52 rfl rfl (by decide) rfl ?_ | refine j_iinc (lv' := [(3, _), (1, _), (4, _), (0, _)]) (q := 55) C dX11_taxes_52 rfl rfl rfl (by decide) rfl ?_
      refine j_goto (tgt := 4) C dX11_taxes_55 (by decide) ?_
      exact j_fewer (lv' := [(3, .int (nI (k + 1))), (1, .long (A + Nk (10 + 10 * k + 0) / 10)), (0, .ref o)]) (by simp) (ih (k + 1) _ _ (by rw [eA, eN, nTx]) (by rw [eN, nTx]) (by omega))
  exact loop4 pe 0 0 N rfl rfl (by omega)

set_option maxRecDepth 100000 in
set_option maxHeartbeats 4000000 in
theorem ctX11_tax {G : jG} {sz : Nat} {Sh : jS} {M : jM} {o : Nat} {N : Nat → Int64} (hR : rLay o Sh M) {pe : Nat} (h4 : N 4 = lN pe) (hpe : pe ≤ 10) : jC G yX11_tax cX11_tax 1 (Option.some FieldType.long) (jrm 3 0 0) sz Sh (jw M (o + 1) N) [.ref o] (jPub o sz Sh M (((nTx N pe).1, false, nTaxed N pe))) := by
  refine jC_start (by decide +kernel) (Nat.le_of_ble_eq_true rfl) (fun X C E hN0 => ?_)
  refine j_aload_n (q := 1) C dX11_tax_0 rfl rfl rfl ?_
  refine jV1 jc11 (q := 4) C dX11_tax_1 rfl hR.1.1 mX11_taxes kw_1192 kw_1193 kw_63 (ctX11_taxes hR h4 hpe) rfl rfl (by decide) (Nat.le_of_ble_eq_true rfl) (by decide) ?_
  exact j_lret C E dX11_tax_4 rfl rfl (jPub_o rfl)

set_option maxRecDepth 100000 in
set_option maxHeartbeats 4000000 in
theorem ctX11_hungers {G : jG} {sz : Nat} {Sh : jS} {M : jM} {o : Nat} {N : Nat → Int64} (hR : rLay o Sh M) {pe : Nat} (h4 : N 4 = lN pe) (hpe : pe ≤ 10) : jC G yX11_hungers cX11_hungers 4 (Option.some FieldType.long) (jrm 2 0 0) sz Sh (jw M (o + 1) N) [.ref o] (jR (some (.long (nSum N 5 pe))) sz Sh (jw M (o + 1) N)) := by
  refine jC_start (by decide +kernel) (Nat.le_of_ble_eq_true rfl) (fun X C E hN0 => ?_)
  refine j_lconst (v := 0) (q := 1) C dX11_hungers_0 rfl (by decide) ?_
  refine j_lstore_n (lv' := [(1, _), (0, _)]) (q := 2) C dX11_hungers_1 rfl rfl (by decide) rfl ?_
  refine j_iconst (v := nI 0) (q := 3) C dX11_hungers_2 rfl (by decide) ?_
  refine j_istore_n (lv' := [(3, _), (1, _), (0, _)]) (q := 4) C dX11_hungers_3 rfl rfl (by decide) rfl ?_
  have loop4 : ∀ (n k : Nat) (A : Int64), A = nSum N 5 k → k + n = pe → jJ G X 0 0 sz Sh (jw M (o + 1) N) 4 [(3, .int (nI k)), (1, .long A), (0, .ref o)] [] := by
    intro n
    induction n with
    | zero =>
      intro k A eA hk
      refine j_iload_n (q := 5) C dX11_hungers_4 rfl rfl rfl ?_
      first | refine j_i2lN (q := 6) C dX11_hungers_5 rfl (by omega) ?_ | refine j_i2l (q := 6) C dX11_hungers_5 rfl rfl ?_
      refine j_aload_n (q := 7) C dX11_hungers_6 rfl rfl rfl ?_
      refine jg_Model_now (q := 10) C dX11_hungers_7 rfl hR.1.1 kw_869 hR.2.1 ?_
      refine j_iconst (v := nI 4) (q := 11) C dX11_hungers_10 rfl (by decide) ?_
      refine j_laldW (q := 12) C dX11_hungers_11 rfl hR.1.2.1 (by omega) (by decide) ?_
      rw [h4]
      refine j_lcmp_ge (q1 := 13) (q := 16) (tgt := 35) C dX11_hungers_12 dX11_hungers_13 rfl rfl (by decide) (fun c_13 => ?_) (fun c_13 => absurd ((lN_le (by omega) (by omega)).mpr (by omega)) c_13)
      obtain rfl : k = pe := by omega
      refine j_lload_n (q := 36) C dX11_hungers_35 rfl rfl rfl ?_
      exact j_lret C E dX11_hungers_36 rfl rfl (jR_e (by rw [eA]) rfl)
    | succ n ih =>
      intro k A eA hk
      refine j_iload_n (q := 5) C dX11_hungers_4 rfl rfl rfl ?_
      first | refine j_i2lN (q := 6) C dX11_hungers_5 rfl (by omega) ?_ | refine j_i2l (q := 6) C dX11_hungers_5 rfl rfl ?_
      refine j_aload_n (q := 7) C dX11_hungers_6 rfl rfl rfl ?_
      refine jg_Model_now (q := 10) C dX11_hungers_7 rfl hR.1.1 kw_869 hR.2.1 ?_
      refine j_iconst (v := nI 4) (q := 11) C dX11_hungers_10 rfl (by decide) ?_
      refine j_laldW (q := 12) C dX11_hungers_11 rfl hR.1.2.1 (by omega) (by decide) ?_
      rw [h4]
      refine j_lcmp_ge (q1 := 13) (q := 16) (tgt := 35) C dX11_hungers_12 dX11_hungers_13 rfl rfl (by decide) (fun c_13 => absurd c_13 (fun h => absurd ((lN_le (by omega) (by omega)).mp h) (by omega))) (fun c_13 => ?_)
      refine j_lload_n (q := 17) C dX11_hungers_16 rfl rfl rfl ?_
      refine j_aload_n (q := 18) C dX11_hungers_17 rfl rfl rfl ?_
      refine jg_Model_now (q := 21) C dX11_hungers_18 rfl hR.1.1 kw_869 hR.2.1 ?_
      refine j_iload_n (q := 22) C dX11_hungers_21 rfl rfl rfl ?_
      refine j_iconst (v := nI 5) (q := 23) C dX11_hungers_22 rfl (by decide) ?_
      refine jS1 (q := 26) C dX11_hungers_23 rfl mX11_of kw_908 kw_909 (ctX11_of) rfl rfl (by decide) (Nat.le_of_ble_eq_true rfl) (by decide) ?_
      refine j_laldW (q := 27) C dX11_hungers_26 rfl hR.1.2.1 (by omega) (by decide) ?_
      refine j_ladd (q := 28) C dX11_hungers_27 rfl ?_
      refine j_lstore_n (lv' := [(1, _), (3, _), (0, _)]) (q := 29) C dX11_hungers_28 rfl rfl (by decide) rfl ?_
      first | refine j_iincN (lv' := [(3, _), (1, _), (0, _)]) (q := 32) C dX11_hungers_29 rfl rfl (by decide) rfl ?_ | refine j_iinc (lv' := [(3, _), (1, _), (0, _)]) (q := 32) C dX11_hungers_29 rfl rfl rfl (by decide) rfl ?_
      refine j_goto (tgt := 4) C dX11_hungers_32 (by decide) ?_
      exact j_fewer (lv' := [(3, .int (nI (k + 1))), (1, .long (A + N (10 + 10 * k + 5))), (0, .ref o)]) (by simp) (ih (k + 1) _ (by rw [eA, nSum]) (by omega))
  exact loop4 pe 0 0 rfl (by omega)

set_option maxRecDepth 100000 in
set_option maxHeartbeats 4000000 in
theorem ctX11_allOf {G : jG} {sz : Nat} {Sh : jS} {M : jM} {o : Nat} {N : Nat → Int64} (hR : rLay o Sh M) {pe : Nat} (h4 : N 4 = lN pe) (hpe : pe ≤ 10) {f : Nat} (hf : f < 10) : jC G yX11_allOf cX11_allOf 5 (Option.some FieldType.long) (jrm 2 0 0) sz Sh (jw M (o + 1) N) [.ref o, .int (nI f)] (jR (some (.long (nSum N f pe))) sz Sh (jw M (o + 1) N)) := by
  refine jC_start (by decide +kernel) (Nat.le_of_ble_eq_true rfl) (fun X C E hN0 => ?_)
  refine j_lconst (v := 0) (q := 1) C dX11_allOf_0 rfl (by decide) ?_
  refine j_lstore_n (lv' := [(2, _), (0, _), (1, _)]) (q := 2) C dX11_allOf_1 rfl rfl (by decide) rfl ?_
  refine j_iconst (v := nI 0) (q := 3) C dX11_allOf_2 rfl (by decide) ?_
  refine j_istore (lv' := [(4, _), (2, _), (0, _), (1, _)]) (q := 5) C dX11_allOf_3 rfl (by decide) rfl ?_
  have loop5 : ∀ (n k : Nat) (A : Int64), A = nSum N f k → k + n = pe → jJ G X 0 0 sz Sh (jw M (o + 1) N) 5 [(4, .int (nI k)), (2, .long A), (0, .ref o), (1, .int (nI f))] [] := by
    intro n
    induction n with
    | zero =>
      intro k A eA hk
      refine j_iload (q := 7) C dX11_allOf_5 rfl rfl ?_
      first | refine j_i2lN (q := 8) C dX11_allOf_7 rfl (by omega) ?_ | refine j_i2l (q := 8) C dX11_allOf_7 rfl rfl ?_
      refine j_aload_n (q := 9) C dX11_allOf_8 rfl rfl rfl ?_
      refine jg_Model_now (q := 12) C dX11_allOf_9 rfl hR.1.1 kw_869 hR.2.1 ?_
      refine j_iconst (v := nI 4) (q := 13) C dX11_allOf_12 rfl (by decide) ?_
      refine j_laldW (q := 14) C dX11_allOf_13 rfl hR.1.2.1 (by omega) (by decide) ?_
      rw [h4]
      refine j_lcmp_ge (q1 := 15) (q := 18) (tgt := 38) C dX11_allOf_14 dX11_allOf_15 rfl rfl (by decide) (fun c_15 => ?_) (fun c_15 => absurd ((lN_le (by omega) (by omega)).mpr (by omega)) c_15)
      obtain rfl : k = pe := by omega
      refine j_lload_n (q := 39) C dX11_allOf_38 rfl rfl rfl ?_
      exact j_lret C E dX11_allOf_39 rfl rfl (jR_e (by rw [eA]) rfl)
    | succ n ih =>
      intro k A eA hk
      refine j_iload (q := 7) C dX11_allOf_5 rfl rfl ?_
      first | refine j_i2lN (q := 8) C dX11_allOf_7 rfl (by omega) ?_ | refine j_i2l (q := 8) C dX11_allOf_7 rfl rfl ?_
      refine j_aload_n (q := 9) C dX11_allOf_8 rfl rfl rfl ?_
      refine jg_Model_now (q := 12) C dX11_allOf_9 rfl hR.1.1 kw_869 hR.2.1 ?_
      refine j_iconst (v := nI 4) (q := 13) C dX11_allOf_12 rfl (by decide) ?_
      refine j_laldW (q := 14) C dX11_allOf_13 rfl hR.1.2.1 (by omega) (by decide) ?_
      rw [h4]
      refine j_lcmp_ge (q1 := 15) (q := 18) (tgt := 38) C dX11_allOf_14 dX11_allOf_15 rfl rfl (by decide) (fun c_15 => absurd c_15 (fun h => absurd ((lN_le (by omega) (by omega)).mp h) (by omega))) (fun c_15 => ?_)
      refine j_lload_n (q := 19) C dX11_allOf_18 rfl rfl rfl ?_
      refine j_aload_n (q := 20) C dX11_allOf_19 rfl rfl rfl ?_
      refine jg_Model_now (q := 23) C dX11_allOf_20 rfl hR.1.1 kw_869 hR.2.1 ?_
      refine j_iload (q := 25) C dX11_allOf_23 rfl rfl ?_
      refine j_iload_n (q := 26) C dX11_allOf_25 rfl rfl rfl ?_
      refine jS1 (q := 29) C dX11_allOf_26 rfl mX11_of kw_908 kw_909 (ctX11_of) rfl rfl (by decide) (Nat.le_of_ble_eq_true rfl) (by decide) ?_
      refine j_laldW (q := 30) C dX11_allOf_29 rfl hR.1.2.1 (by omega) (by decide) ?_
      refine j_ladd (q := 31) C dX11_allOf_30 rfl ?_
      refine j_lstore_n (lv' := [(2, _), (4, _), (0, _), (1, _)]) (q := 32) C dX11_allOf_31 rfl rfl (by decide) rfl ?_
      first | refine j_iincN (lv' := [(4, _), (2, _), (0, _), (1, _)]) (q := 35) C dX11_allOf_32 rfl rfl (by decide) rfl ?_ | refine j_iinc (lv' := [(4, _), (2, _), (0, _), (1, _)]) (q := 35) C dX11_allOf_32 rfl rfl rfl (by decide) rfl ?_
      refine j_goto (tgt := 5) C dX11_allOf_35 (by decide) ?_
      exact j_fewer (lv' := [(4, .int (nI (k + 1))), (2, .long (A + N (10 + 10 * k + f))), (0, .ref o), (1, .int (nI f))]) (by simp) (ih (k + 1) _ (by rw [eA, nSum]) (by omega))
  exact loop5 pe 0 0 rfl (by omega)

set_option maxRecDepth 100000 in
set_option maxHeartbeats 4000000 in
theorem ctX11_press {G : jG} {sz : Nat} {Sh : jS} {M : jM} {o : Nat} {N : Nat → Int64} (hR : rLay o Sh M) {v : Int64} : jC G yX11_press cX11_press 3 (Option.some FieldType.long) (jrm 2 0 0) sz Sh (jw M (o + 1) N) [.ref o, .long v] (jPub o sz Sh M (sPress N v)) := by
  refine jC_start (by decide +kernel) (Nat.le_of_ble_eq_true rfl) (fun X C E hN0 => ?_)
  refine j_lload_n (q := 1) C dX11_press_0 rfl rfl rfl ?_
  refine j_lconst (v := 0) (q := 2) C dX11_press_1 rfl (by decide) ?_
  refine j_ldc2 (q := 5) C dX11_press_2 rfl kw_897 ?_
  refine jS1 (q := 8) C dX11_press_5 rfl mX11_within kw_898 kw_899 (ctX11_within) rfl rfl (by decide) (Nat.le_of_ble_eq_true rfl) (by decide) ?_
  refine j_if_ne (q := 11) (tgt := 19) C dX11_press_8 rfl (by decide) (fun c_8 => ?_) (fun c_8 => ?_)
  · refine j_aload_n (q := 20) C dX11_press_19 rfl rfl rfl ?_
    refine jg_Model_now (q := 23) C dX11_press_20 rfl hR.1.1 kw_869 hR.2.1 ?_
    refine j_iconst (v := nI 2) (q := 24) C dX11_press_23 rfl (by decide) ?_
    refine j_dup2_11 (q := 25) C dX11_press_24 rfl rfl rfl ?_
    refine j_laldW (q := 26) C dX11_press_25 rfl hR.1.2.1 (by omega) (by decide) ?_
    refine j_lload_n (q := 27) C dX11_press_26 rfl rfl rfl ?_
    refine j_ladd (q := 28) C dX11_press_27 rfl ?_
    refine j_lastW (q := 29) C dX11_press_28 rfl hR.1.2.1 (by omega) (by decide) ?_
    refine j_aload_n (q := 30) C dX11_press_29 rfl rfl rfl ?_
    refine j_iconst (v := nI 1) (q := 31) C dX11_press_30 rfl (by decide) ?_
    refine j_lload_n (q := 32) C dX11_press_31 rfl rfl rfl ?_
    refine jV0 jc11 (q := 35) C dX11_press_32 rfl hR.1.1 mX11_gets kw_1000 kw_1001 kw_39 (ctX11_gets hR (by omega)) rfl rfl (by decide) (Nat.le_of_ble_eq_true rfl) (by decide) ?_
    refine j_aload_n (q := 36) C dX11_press_35 rfl rfl rfl ?_
    refine jg_Model_now (q := 39) C dX11_press_36 rfl hR.1.1 kw_869 hR.2.1 ?_
    refine j_iconst (v := nI 1) (q := 40) C dX11_press_39 rfl (by decide) ?_
    refine j_laldW (q := 41) C dX11_press_40 rfl hR.1.2.1 (by omega) (by decide) ?_
    exact j_lret C E dX11_press_41 rfl rfl (jPub_o (if_pos (jb_n.mp c_8)))
  · refine j_aload_n (q := 12) C dX11_press_11 rfl rfl rfl ?_
    refine j_ldc (q := 14) C dX11_press_12 rfl kw_903 ?_
    refine jV1 jc11 (q := 17) C dX11_press_14 rfl hR.1.1 mX11_finding kw_904 kw_905 kw_28 (ctX11_finding hR) rfl rfl (by decide) (Nat.le_of_ble_eq_true rfl) (by decide) ?_
    first | refine j_i2lN (q := 18) C dX11_press_17 rfl (by omega) ?_ | refine j_i2l (q := 18) C dX11_press_17 rfl rfl ?_
    exact j_lret C E dX11_press_18 rfl rfl (jPub_b (if_neg (jb_0.mp c_8)))

set_option maxRecDepth 100000 in
set_option maxHeartbeats 4000000 in
theorem ctX11_give {G : jG} {sz : Nat} {Sh : jS} {M : jM} {o : Nat} {N : Nat → Int64} (hR : rLay o Sh M) {pe : Nat} (h4 : N 4 = lN pe) (hpe : pe ≤ 10) {p : Int32} {v : Int64} : jC G yX11_give cX11_give 4 (Option.some FieldType.long) (jrm 3 0 0) sz Sh (jw M (o + 1) N) [.ref o, .int p, .long v] (jPub o sz Sh M (sGive N p v)) := by
  refine jC_start (by decide +kernel) (Nat.le_of_ble_eq_true rfl) (fun X C E hN0 => ?_)
  refine j_aload_n (q := 1) C dX11_give_0 rfl rfl rfl ?_
  refine j_iload_n (q := 2) C dX11_give_1 rfl rfl rfl ?_
  first | refine j_i2lN (q := 3) C dX11_give_2 rfl (by omega) ?_ | refine j_i2l (q := 3) C dX11_give_2 rfl rfl ?_
  refine jV1 jc11 (q := 6) C dX11_give_3 rfl hR.1.1 mX11_isPerson kw_917 kw_918 kw_29 (ctX11_isPerson hR) rfl rfl (by decide) (Nat.le_of_ble_eq_true rfl) (by decide) ?_
  refine j_if_eq (q := 9) (tgt := 20) C dX11_give_6 rfl (by decide) (fun c_6 => ?_) (fun c_6 => ?_)
  · refine j_aload_n (q := 21) C dX11_give_20 rfl rfl rfl ?_
    refine j_ldc (q := 23) C dX11_give_21 rfl kw_903 ?_
    refine jV1 jc11 (q := 26) C dX11_give_23 rfl hR.1.1 mX11_finding kw_904 kw_905 kw_28 (ctX11_finding hR) rfl rfl (by decide) (Nat.le_of_ble_eq_true rfl) (by decide) ?_
    first | refine j_i2lN (q := 27) C dX11_give_26 rfl (by omega) ?_ | refine j_i2l (q := 27) C dX11_give_26 rfl rfl ?_
    exact j_lret C E dX11_give_27 rfl rfl (jPub_b (if_neg (fun h => jb_0.mp c_6 h.1)))
  · refine j_lload_n (q := 10) C dX11_give_9 rfl rfl rfl ?_
    refine j_lconst (v := 1) (q := 11) C dX11_give_10 rfl (by decide) ?_
    refine j_ldc2 (q := 14) C dX11_give_11 rfl kw_897 ?_
    refine jS1 (q := 17) C dX11_give_14 rfl mX11_within kw_898 kw_899 (ctX11_within) rfl rfl (by decide) (Nat.le_of_ble_eq_true rfl) (by decide) ?_
    refine j_if_ne (q := 20) (tgt := 28) C dX11_give_17 rfl (by decide) (fun c_17 => ?_) (fun c_17 => ?_)
    · have e1 := jb_n.mp c_6
      rw [h4] at e1
      obtain ⟨i, hi, rfl⟩ := jix (by omega) e1.1 e1.2
      have eI : (nI i).toNatClampNeg = i := nI_clamp (by omega)
      refine j_aload_n (q := 29) C dX11_give_28 rfl rfl rfl ?_
      refine jg_Model_now (q := 32) C dX11_give_29 rfl hR.1.1 kw_869 hR.2.1 ?_
      refine j_iconst (v := nI 1) (q := 33) C dX11_give_32 rfl (by decide) ?_
      refine j_laldW (q := 34) C dX11_give_33 rfl hR.1.2.1 (by omega) (by decide) ?_
      refine j_lload_n (q := 35) C dX11_give_34 rfl rfl rfl ?_
      refine j_lcmp_ge (q1 := 36) (q := 39) (tgt := 47) C dX11_give_35 dX11_give_36 rfl rfl (by decide) (fun c_36 => ?_) (fun c_36 => ?_)
      · refine j_aload_n (q := 48) C dX11_give_47 rfl rfl rfl ?_
        refine jg_Model_now (q := 51) C dX11_give_48 rfl hR.1.1 kw_869 hR.2.1 ?_
        refine j_iconst (v := nI 1) (q := 52) C dX11_give_51 rfl (by decide) ?_
        refine j_dup2_11 (q := 53) C dX11_give_52 rfl rfl rfl ?_
        refine j_laldW (q := 54) C dX11_give_53 rfl hR.1.2.1 (by omega) (by decide) ?_
        refine j_lload_n (q := 55) C dX11_give_54 rfl rfl rfl ?_
        refine j_lsub (q := 56) C dX11_give_55 rfl ?_
        refine j_lastW (q := 57) C dX11_give_56 rfl hR.1.2.1 (by omega) (by decide) ?_
        refine j_aload_n (q := 58) C dX11_give_57 rfl rfl rfl ?_
        refine j_iload_n (q := 59) C dX11_give_58 rfl rfl rfl ?_
        refine j_iconst (v := nI 0) (q := 60) C dX11_give_59 rfl (by decide) ?_
        refine jS1 (q := 63) C dX11_give_60 rfl mX11_of kw_908 kw_909 (ctX11_of) rfl rfl (by decide) (Nat.le_of_ble_eq_true rfl) (by decide) ?_
        refine j_lload_n (q := 64) C dX11_give_63 rfl rfl rfl ?_
        refine jV0 jc11 (q := 67) C dX11_give_64 rfl hR.1.1 mX11_gets kw_1000 kw_1001 kw_39 (ctX11_gets hR (by omega)) rfl rfl (by decide) (Nat.le_of_ble_eq_true rfl) (by decide) ?_
        refine j_aload_n (q := 68) C dX11_give_67 rfl rfl rfl ?_
        refine jg_Model_now (q := 71) C dX11_give_68 rfl hR.1.1 kw_869 hR.2.1 ?_
        refine j_iload_n (q := 72) C dX11_give_71 rfl rfl rfl ?_
        refine j_iconst (v := nI 0) (q := 73) C dX11_give_72 rfl (by decide) ?_
        refine jS1 (q := 76) C dX11_give_73 rfl mX11_of kw_908 kw_909 (ctX11_of) rfl rfl (by decide) (Nat.le_of_ble_eq_true rfl) (by decide) ?_
        refine j_laldW (q := 77) C dX11_give_76 rfl hR.1.2.1 (by omega) (by decide) ?_
        exact j_lret C E dX11_give_77 rfl rfl (jPub_o (by rw [sGive, if_pos ⟨jb_n.mp c_6, jb_n.mp c_17⟩, eI, if_pos c_36]; rfl))
      · refine j_aload_n (q := 40) C dX11_give_39 rfl rfl rfl ?_
        refine j_ldc (q := 42) C dX11_give_40 rfl kw_996 ?_
        refine jV1 jc11 (q := 45) C dX11_give_42 rfl hR.1.1 mX11_finding kw_904 kw_905 kw_28 (ctX11_finding hR) rfl rfl (by decide) (Nat.le_of_ble_eq_true rfl) (by decide) ?_
        first | refine j_i2lN (q := 46) C dX11_give_45 rfl (by omega) ?_ | refine j_i2l (q := 46) C dX11_give_45 rfl rfl ?_
        exact j_lret C E dX11_give_46 rfl rfl (jPub_b (by rw [sGive, if_pos ⟨jb_n.mp c_6, jb_n.mp c_17⟩, if_neg c_36]; rfl))
    · refine j_aload_n (q := 21) C dX11_give_20 rfl rfl rfl ?_
      refine j_ldc (q := 23) C dX11_give_21 rfl kw_903 ?_
      refine jV1 jc11 (q := 26) C dX11_give_23 rfl hR.1.1 mX11_finding kw_904 kw_905 kw_28 (ctX11_finding hR) rfl rfl (by decide) (Nat.le_of_ble_eq_true rfl) (by decide) ?_
      first | refine j_i2lN (q := 27) C dX11_give_26 rfl (by omega) ?_ | refine j_i2l (q := 27) C dX11_give_26 rfl rfl ?_
      exact j_lret C E dX11_give_27 rfl rfl (jPub_b (if_neg (fun h => jb_0.mp c_17 h.2)))

set_option maxRecDepth 100000 in
set_option maxHeartbeats 4000000 in
theorem ctX11_price {G : jG} {sz : Nat} {Sh : jS} {M : jM} {o : Nat} {N : Nat → Int64} (hR : rLay o Sh M) {d : Nat} (hd : N 0 = lN d) (hd3 : d ≤ 300) {x : Int32} : jC G yX11_price cX11_price 2 (Option.some FieldType.long) (jrm 3 0 0) sz Sh (jw M (o + 1) N) [.ref o, .int x] (jPub o sz Sh M (sPrice N x)) := by
  refine jC_start (by decide +kernel) (Nat.le_of_ble_eq_true rfl) (fun X C E hN0 => ?_)
  refine j_aload_n (q := 1) C dX11_price_0 rfl rfl rfl ?_
  refine j_iload_n (q := 2) C dX11_price_1 rfl rfl rfl ?_
  refine jV1 jc11 (q := 5) C dX11_price_2 rfl hR.1.1 mX11_isDay kw_1173 kw_1174 kw_62 (ctX11_isDay hR) rfl rfl (by decide) (Nat.le_of_ble_eq_true rfl) (by decide) ?_
  refine j_if_eq (q := 8) (tgt := 16) C dX11_price_5 rfl (by decide) (fun c_5 => ?_) (fun c_5 => ?_)
  · refine j_aload_n (q := 17) C dX11_price_16 rfl rfl rfl ?_
    refine j_ldc (q := 19) C dX11_price_17 rfl kw_903 ?_
    refine jV1 jc11 (q := 22) C dX11_price_19 rfl hR.1.1 mX11_finding kw_904 kw_905 kw_28 (ctX11_finding hR) rfl rfl (by decide) (Nat.le_of_ble_eq_true rfl) (by decide) ?_
    first | refine j_i2lN (q := 23) C dX11_price_22 rfl (by omega) ?_ | refine j_i2l (q := 23) C dX11_price_22 rfl rfl ?_
    exact j_lret C E dX11_price_23 rfl rfl (jPub_b (if_neg (jb_0.mp c_5)))
  · have e1 := jb_n.mp c_5
    rw [okD, hd] at e1
    obtain ⟨i, hi, rfl⟩ := jix2 (by omega) e1.1 e1.2
    have eI : (nI i).toNatClampNeg = i := nI_clamp (by omega)
    refine j_aload_n (q := 9) C dX11_price_8 rfl rfl rfl ?_
    refine j_iload_n (q := 10) C dX11_price_9 rfl rfl rfl ?_
    refine jV1 jc11 (q := 13) C dX11_price_10 rfl hR.1.1 mX11_priceOf kw_968 kw_969 kw_34 (ctX11_priceOf hR (by omega)) rfl rfl (by decide) (Nat.le_of_ble_eq_true rfl) (by decide) ?_
    refine j_goto (tgt := 23) C dX11_price_13 (by decide) ?_
    exact j_lret C E dX11_price_23 rfl rfl (jPub_o (by rw [sPrice, if_pos (jb_n.mp c_5), eI]))

set_option maxRecDepth 100000 in
set_option maxHeartbeats 4000000 in
theorem ctX11_index {G : jG} {sz : Nat} {Sh : jS} {M : jM} {o : Nat} {N : Nat → Int64} (hR : rLay o Sh M) {d : Nat} (hd : N 0 = lN d) (hd3 : d ≤ 300) (hpr : ∀ k, k ≤ d → ¬ N (310 + k) = 0) {x z : Int32} : jC G yX11_index cX11_index 3 (Option.some FieldType.long) (jrm 3 0 0) sz Sh (jw M (o + 1) N) [.ref o, .int x, .int z] (jPub o sz Sh M (sIndex N x z)) := by
  refine jC_start (by decide +kernel) (Nat.le_of_ble_eq_true rfl) (fun X C E hN0 => ?_)
  refine j_aload_n (q := 1) C dX11_index_0 rfl rfl rfl ?_
  refine j_iload_n (q := 2) C dX11_index_1 rfl rfl rfl ?_
  refine jV1 jc11 (q := 5) C dX11_index_2 rfl hR.1.1 mX11_isDay kw_1173 kw_1174 kw_62 (ctX11_isDay hR) rfl rfl (by decide) (Nat.le_of_ble_eq_true rfl) (by decide) ?_
  refine j_if_eq (q := 8) (tgt := 40) C dX11_index_5 rfl (by decide) (fun c_5 => ?_) (fun c_5 => ?_)
  · refine j_aload_n (q := 41) C dX11_index_40 rfl rfl rfl ?_
    refine j_ldc (q := 43) C dX11_index_41 rfl kw_903 ?_
    refine jV1 jc11 (q := 46) C dX11_index_43 rfl hR.1.1 mX11_finding kw_904 kw_905 kw_28 (ctX11_finding hR) rfl rfl (by decide) (Nat.le_of_ble_eq_true rfl) (by decide) ?_
    first | refine j_i2lN (q := 47) C dX11_index_46 rfl (by omega) ?_ | refine j_i2l (q := 47) C dX11_index_46 rfl rfl ?_
    exact j_lret C E dX11_index_47 rfl rfl (jPub_b (if_neg (fun h => jb_0.mp c_5 h.1)))
  · refine j_aload_n (q := 9) C dX11_index_8 rfl rfl rfl ?_
    refine j_iload_n (q := 10) C dX11_index_9 rfl rfl rfl ?_
    refine jV1 jc11 (q := 13) C dX11_index_10 rfl hR.1.1 mX11_isDay kw_1173 kw_1174 kw_62 (ctX11_isDay hR) rfl rfl (by decide) (Nat.le_of_ble_eq_true rfl) (by decide) ?_
    refine j_if_eq (q := 16) (tgt := 40) C dX11_index_13 rfl (by decide) (fun c_13 => ?_) (fun c_13 => ?_)
    · refine j_aload_n (q := 41) C dX11_index_40 rfl rfl rfl ?_
      refine j_ldc (q := 43) C dX11_index_41 rfl kw_903 ?_
      refine jV1 jc11 (q := 46) C dX11_index_43 rfl hR.1.1 mX11_finding kw_904 kw_905 kw_28 (ctX11_finding hR) rfl rfl (by decide) (Nat.le_of_ble_eq_true rfl) (by decide) ?_
      first | refine j_i2lN (q := 47) C dX11_index_46 rfl (by omega) ?_ | refine j_i2l (q := 47) C dX11_index_46 rfl rfl ?_
      exact j_lret C E dX11_index_47 rfl rfl (jPub_b (if_neg (fun h => jb_0.mp c_13 h.2)))
    · have e1 := jb_n.mp c_5
      rw [okD, hd] at e1
      obtain ⟨i, hi, rfl⟩ := jix2 (by omega) e1.1 e1.2
      have eI : (nI i).toNatClampNeg = i := nI_clamp (by omega)
      have e2 := jb_n.mp c_13
      rw [okD, hd] at e2
      obtain ⟨j, hj, rfl⟩ := jix2 (by omega) e2.1 e2.2
      have eJ : (nI j).toNatClampNeg = j := nI_clamp (by omega)
      refine j_ldc2 (q := 19) C dX11_index_16 rfl kw_897 ?_
      refine j_ldc2 (q := 22) C dX11_index_19 rfl kw_1156 ?_
      refine j_aload_n (q := 23) C dX11_index_22 rfl rfl rfl ?_
      refine j_iload_n (q := 24) C dX11_index_23 rfl rfl rfl ?_
      refine jV1 jc11 (q := 27) C dX11_index_24 rfl hR.1.1 mX11_priceOf kw_968 kw_969 kw_34 (ctX11_priceOf hR (by omega)) rfl rfl (by decide) (Nat.le_of_ble_eq_true rfl) (by decide) ?_
      refine j_lmul (q := 28) C dX11_index_27 rfl ?_
      refine j_aload_n (q := 29) C dX11_index_28 rfl rfl rfl ?_
      refine j_iload_n (q := 30) C dX11_index_29 rfl rfl rfl ?_
      refine jV1 jc11 (q := 33) C dX11_index_30 rfl hR.1.1 mX11_priceOf kw_968 kw_969 kw_34 (ctX11_priceOf hR (by omega)) rfl rfl (by decide) (Nat.le_of_ble_eq_true rfl) (by decide) ?_
      refine j_ldiv (q := 34) C dX11_index_33 rfl (hpr j (by omega)) ?_
      refine j_lmin (q := 37) C dX11_index_34 rfl kw_988 (by decide) (Nat.le_of_ble_eq_true rfl) (by decide) ?_
      refine j_goto (tgt := 47) C dX11_index_37 (by decide) ?_
      exact j_lret C E dX11_index_47 rfl rfl (jPub_o (by rw [sIndex, if_pos ⟨jb_n.mp c_5, jb_n.mp c_13⟩, eI, eJ]))

set_option maxRecDepth 100000 in
set_option maxHeartbeats 4000000 in
theorem ctX11_tear {G : jG} {sz : Nat} {Sh : jS} {M : jM} {o : Nat} {N : Nat → Int64} (hR : rLay o Sh M) {pa : Nat} (h5 : N 5 = lN pa) (hpa : pa ≤ 24) {q : Int32} : jC G yX11_tear cX11_tear 2 (Option.some FieldType.long) (jrm 3 0 0) sz Sh (jw M (o + 1) N) [.ref o, .int q] (jPub o sz Sh M (sTear N q)) := by
  refine jC_start (by decide +kernel) (Nat.le_of_ble_eq_true rfl) (fun X C E hN0 => ?_)
  refine j_aload_n (q := 1) C dX11_tear_0 rfl rfl rfl ?_
  refine j_iload_n (q := 2) C dX11_tear_1 rfl rfl rfl ?_
  refine jV1 jc11 (q := 5) C dX11_tear_2 rfl hR.1.1 mX11_isPaper kw_945 kw_946 kw_30 (ctX11_isPaper hR) rfl rfl (by decide) (Nat.le_of_ble_eq_true rfl) (by decide) ?_
  refine j_if_ne (q := 8) (tgt := 16) C dX11_tear_5 rfl (by decide) (fun c_5 => ?_) (fun c_5 => ?_)
  · have e1 := jb_n.mp c_5
    rw [h5] at e1
    obtain ⟨i, hi, rfl⟩ := jix (by omega) e1.1 e1.2
    have eI : (nI i).toNatClampNeg = i := nI_clamp (by omega)
    refine j_aload_n (q := 17) C dX11_tear_16 rfl rfl rfl ?_
    refine j_iload_n (q := 18) C dX11_tear_17 rfl rfl rfl ?_
    refine jV1 jc11 (q := 21) C dX11_tear_18 rfl hR.1.1 mX11_isOpen kw_959 kw_960 kw_31 (ctX11_isOpen hR (by omega)) rfl rfl (by decide) (Nat.le_of_ble_eq_true rfl) (by decide) ?_
    refine j_if_ne (q := 24) (tgt := 32) C dX11_tear_21 rfl (by decide) (fun c_21 => ?_) (fun c_21 => ?_)
    · refine j_aload_n (q := 33) C dX11_tear_32 rfl rfl rfl ?_
      refine jg_Model_now (q := 36) C dX11_tear_33 rfl hR.1.1 kw_869 hR.2.1 ?_
      refine j_iload_n (q := 37) C dX11_tear_36 rfl rfl rfl ?_
      refine j_bipush (v := nI 6) (q := 39) C dX11_tear_37 rfl (by decide) ?_
      refine jS1 (q := 42) C dX11_tear_39 rfl mX11_ofPaper kw_937 kw_938 (ctX11_ofPaper) rfl rfl (by decide) (Nat.le_of_ble_eq_true rfl) (by decide) ?_
      refine j_ldc2 (q := 45) C dX11_tear_42 rfl kw_920 ?_
      refine j_lastW (q := 46) C dX11_tear_45 rfl hR.1.2.1 (by omega) (by decide) ?_
      refine j_aload_n (q := 47) C dX11_tear_46 rfl rfl rfl ?_
      refine jg_Model_now (q := 50) C dX11_tear_47 rfl hR.1.1 kw_869 hR.2.1 ?_
      refine j_iload_n (q := 51) C dX11_tear_50 rfl rfl rfl ?_
      refine j_iconst (v := nI 3) (q := 52) C dX11_tear_51 rfl (by decide) ?_
      refine jS1 (q := 55) C dX11_tear_52 rfl mX11_ofPaper kw_937 kw_938 (ctX11_ofPaper) rfl rfl (by decide) (Nat.le_of_ble_eq_true rfl) (by decide) ?_
      refine j_laldW (q := 56) C dX11_tear_55 rfl hR.1.2.1 (by omega) (by decide) ?_
      exact j_lret C E dX11_tear_56 rfl rfl (jPub_o (by rw [sTear, if_pos (jb_n.mp c_5), eI, if_pos (jb_n.mp c_21), va_up_ne _ _ (by omega)]))
    · refine j_aload_n (q := 25) C dX11_tear_24 rfl rfl rfl ?_
      refine j_ldc (q := 27) C dX11_tear_25 rfl kw_990 ?_
      refine jV1 jc11 (q := 30) C dX11_tear_27 rfl hR.1.1 mX11_finding kw_904 kw_905 kw_28 (ctX11_finding hR) rfl rfl (by decide) (Nat.le_of_ble_eq_true rfl) (by decide) ?_
      first | refine j_i2lN (q := 31) C dX11_tear_30 rfl (by omega) ?_ | refine j_i2l (q := 31) C dX11_tear_30 rfl rfl ?_
      exact j_lret C E dX11_tear_31 rfl rfl (jPub_b (by rw [sTear, if_pos (jb_n.mp c_5), eI, if_neg (jb_0.mp c_21)]; rfl))
  · refine j_aload_n (q := 9) C dX11_tear_8 rfl rfl rfl ?_
    refine j_ldc (q := 11) C dX11_tear_9 rfl kw_903 ?_
    refine jV1 jc11 (q := 14) C dX11_tear_11 rfl hR.1.1 mX11_finding kw_904 kw_905 kw_28 (ctX11_finding hR) rfl rfl (by decide) (Nat.le_of_ble_eq_true rfl) (by decide) ?_
    first | refine j_i2lN (q := 15) C dX11_tear_14 rfl (by omega) ?_ | refine j_i2l (q := 15) C dX11_tear_14 rfl rfl ?_
    exact j_lret C E dX11_tear_15 rfl rfl (jPub_b (if_neg (jb_0.mp c_5)))

