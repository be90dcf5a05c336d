theorem kpI {w q pr lw : Nat} {M : jM} {K : Nat → Int64} (hM : vK w q pr lw M = K) {i f : Nat} (hi : i < 10) (hf : 1 ≤ f ∧ f ≤ 5) : (K (10 + 10 * i + f)).toInt32.toInt64 = K (10 + 10 * i + f) := by rw [← hM, vK_pI hi hf, i32_rt]
theorem kqI {w q pr lw : Nat} {M : jM} {K : Nat → Int64} (hM : vK w q pr lw M = K) {j f : Nat} (hj : j < 24) (hf : f ≤ 6 ∧ f ≠ 3) : (K (110 + 7 * j + f)).toInt32.toInt64 = K (110 + 7 * j + f) := by rw [← hM, vK_qI hj hf, i32_rt]
set_option maxRecDepth 100000 in
set_option maxHeartbeats 400000 in
theorem ctX9_hungerOfAll {G : jG} {sz : Nat} {Sh : jS} {M : jM} {w q pr lw jg mk : Nat} {K : Nat → Int64} (hW : wLay w q pr lw jg mk Sh M) (hM : vK w q pr lw M = K) {pe : Nat} (h4 : K 4 = lN pe) (hpe : pe ≤ 10) : jC G yX9_hungerOfAll cX9_hungerOfAll 4 (Option.some FieldType.long) (jrm 1 0 0) sz Sh M [.ref w] (jR (some (.long (nSum K 5 pe))) sz Sh M) := by
  refine jC_start (by decide +kernel) (Nat.le_of_ble_eq_true rfl) (fun X C E hN0 => ?_)
  refine j_lconst (v := 0) (q := 1) C dX9_hungerOfAll_0 rfl (by decide) ?_
  refine j_lstore_n (lv' := [(1, _), (0, _)]) (q := 2) C dX9_hungerOfAll_1 rfl rfl (by decide) rfl ?_
  refine j_iconst (v := nI 0) (q := 3) C dX9_hungerOfAll_2 rfl (by decide) ?_
  refine j_istore_n (lv' := [(3, _), (1, _), (0, _)]) (q := 4) C dX9_hungerOfAll_3 rfl rfl (by decide) rfl ?_
  have loop4 : ∀ (n k : Nat) (A : Int64), A = nSum K 5 k → k + n = pe → jJ G X 0 0 sz Sh M 4 [(3, .int (nI k)), (1, .long A), (0, .ref w)] [] := by
    intro n
    induction n with
    | zero =>
      intro k A eA hk
      refine j_iload_n (q := 5) C dX9_hungerOfAll_4 rfl rfl rfl ?_
      refine j_aload_n (q := 6) C dX9_hungerOfAll_5 rfl rfl rfl ?_
      refine wg_World_people hW hM (q' := 9) C dX9_hungerOfAll_6 rfl kw_204 ?_
      refine j_top (v' := .int (nI pe)) (congrArg Value.int (k32 h4)) ?_
      refine j_icmp_ge (q := 12) (tgt := 31) C dX9_hungerOfAll_9 rfl (by decide) (fun c_9 => ?_) (fun c_9 => absurd (nI_le (by omega) (by omega)) c_9)
      obtain rfl : pe = k := by omega
      refine j_lload_n (q := 32) C dX9_hungerOfAll_31 rfl rfl rfl ?_
      exact j_lret C E dX9_hungerOfAll_32 rfl rfl (jR_e (by rw [eA]) rfl)
    | succ n ih =>
      intro k A eA hk
      refine j_iload_n (q := 5) C dX9_hungerOfAll_4 rfl rfl rfl ?_
      refine j_aload_n (q := 6) C dX9_hungerOfAll_5 rfl rfl rfl ?_
      refine wg_World_people hW hM (q' := 9) C dX9_hungerOfAll_6 rfl kw_204 ?_
      refine j_top (v' := .int (nI pe)) (congrArg Value.int (k32 h4)) ?_
      refine j_icmp_ge (q := 12) (tgt := 31) C dX9_hungerOfAll_9 rfl (by decide) (fun c_9 => absurd c_9 (fun h => absurd ((nI_leI (by omega) (by omega)).mp h) (by omega))) (fun c_9 => ?_)
      refine j_lload_n (q := 13) C dX9_hungerOfAll_12 rfl rfl rfl ?_
      refine j_aload_n (q := 14) C dX9_hungerOfAll_13 rfl rfl rfl ?_
      refine jg_World_persons (q := 17) C dX9_hungerOfAll_14 rfl hW.1.1 kw_191 hW.2.1.1 ?_
      refine j_iload_n (q := 18) C dX9_hungerOfAll_17 rfl rfl rfl ?_
      refine wa_pers hW (by omega) (q' := 19) C dX9_hungerOfAll_18 rfl ?_
      refine wg_Person_hungered (by omega) hW hM (q' := 22) C dX9_hungerOfAll_19 rfl kw_155 ?_
      first | refine j_i2lN (q := 23) C dX9_hungerOfAll_22 rfl (by omega) ?_ | refine j_i2l (q := 23) C dX9_hungerOfAll_22 rfl rfl ?_
      refine j_ladd (q := 24) C dX9_hungerOfAll_23 rfl ?_
      refine j_lstore_n (lv' := [(1, _), (3, _), (0, _)]) (q := 25) C dX9_hungerOfAll_24 rfl rfl (by decide) rfl ?_
      first | refine j_iincN (lv' := [(3, _), (1, _), (0, _)]) (q := 28) C dX9_hungerOfAll_25 rfl rfl (by decide) rfl ?_ | refine j_iinc (lv' := [(3, _), (1, _), (0, _)]) (q := 28) C dX9_hungerOfAll_25 rfl rfl rfl (by decide) rfl ?_
      refine j_goto (tgt := 4) C dX9_hungerOfAll_28 (by decide) ?_
      exact j_fewer (lv' := [(3, .int (nI (k + 1))), (1, .long (A + (K (10 + 10 * k + 5)).toInt32.toInt64)), (0, .ref w)]) (by simp) (ih (k + 1) _ (by rw [eA, nSum, kpI hM (by omega) (by omega)]) (by omega))
  exact loop4 pe 0 0 rfl (by omega)

set_option maxRecDepth 100000 in
set_option maxHeartbeats 400000 in
theorem ctX9_marksOfAll {G : jG} {sz : Nat} {Sh : jS} {M : jM} {w q pr lw jg mk : Nat} {K : Nat → Int64} (hW : wLay w q pr lw jg mk Sh M) (hM : vK w q pr lw M = K) {pe : Nat} (h4 : K 4 = lN pe) (hpe : pe ≤ 10) : jC G yX9_marksOfAll cX9_marksOfAll 4 (Option.some FieldType.long) (jrm 1 0 0) sz Sh M [.ref w] (jR (some (.long (nSum K 0 pe))) sz Sh M) := by
  refine jC_start (by decide +kernel) (Nat.le_of_ble_eq_true rfl) (fun X C E hN0 => ?_)
  refine j_lconst (v := 0) (q := 1) C dX9_marksOfAll_0 rfl (by decide) ?_
  refine j_lstore_n (lv' := [(1, _), (0, _)]) (q := 2) C dX9_marksOfAll_1 rfl rfl (by decide) rfl ?_
  refine j_iconst (v := nI 0) (q := 3) C dX9_marksOfAll_2 rfl (by decide) ?_
  refine j_istore_n (lv' := [(3, _), (1, _), (0, _)]) (q := 4) C dX9_marksOfAll_3 rfl rfl (by decide) rfl ?_
  have loop4 : ∀ (n k : Nat) (A : Int64), A = nSum K 0 k → k + n = pe → jJ G X 0 0 sz Sh M 4 [(3, .int (nI k)), (1, .long A), (0, .ref w)] [] := by
    intro n
    induction n with
    | zero =>
      intro k A eA hk
      refine j_iload_n (q := 5) C dX9_marksOfAll_4 rfl rfl rfl ?_
      refine j_aload_n (q := 6) C dX9_marksOfAll_5 rfl rfl rfl ?_
      refine wg_World_people hW hM (q' := 9) C dX9_marksOfAll_6 rfl kw_204 ?_
      refine j_top (v' := .int (nI pe)) (congrArg Value.int (k32 h4)) ?_
      refine j_icmp_ge (q := 12) (tgt := 30) C dX9_marksOfAll_9 rfl (by decide) (fun c_9 => ?_) (fun c_9 => absurd (nI_le (by omega) (by omega)) c_9)
      obtain rfl : pe = k := by omega
      refine j_lload_n (q := 31) C dX9_marksOfAll_30 rfl rfl rfl ?_
      exact j_lret C E dX9_marksOfAll_31 rfl rfl (jR_e (by rw [eA]) rfl)
    | succ n ih =>
      intro k A eA hk
      refine j_iload_n (q := 5) C dX9_marksOfAll_4 rfl rfl rfl ?_
      refine j_aload_n (q := 6) C dX9_marksOfAll_5 rfl rfl rfl ?_
      refine wg_World_people hW hM (q' := 9) C dX9_marksOfAll_6 rfl kw_204 ?_
      refine j_top (v' := .int (nI pe)) (congrArg Value.int (k32 h4)) ?_
      refine j_icmp_ge (q := 12) (tgt := 30) C dX9_marksOfAll_9 rfl (by decide) (fun c_9 => absurd c_9 (fun h => absurd ((nI_leI (by omega) (by omega)).mp h) (by omega))) (fun c_9 => ?_)
      refine j_lload_n (q := 13) C dX9_marksOfAll_12 rfl rfl rfl ?_
      refine j_aload_n (q := 14) C dX9_marksOfAll_13 rfl rfl rfl ?_
      refine jg_World_persons (q := 17) C dX9_marksOfAll_14 rfl hW.1.1 kw_191 hW.2.1.1 ?_
      refine j_iload_n (q := 18) C dX9_marksOfAll_17 rfl rfl rfl ?_
      refine wa_pers hW (by omega) (q' := 19) C dX9_marksOfAll_18 rfl ?_
      refine wg_Person_marks (by omega) hW hM (q' := 22) C dX9_marksOfAll_19 rfl kw_144 ?_
      refine j_ladd (q := 23) C dX9_marksOfAll_22 rfl ?_
      refine j_lstore_n (lv' := [(1, _), (3, _), (0, _)]) (q := 24) C dX9_marksOfAll_23 rfl rfl (by decide) rfl ?_
      first | refine j_iincN (lv' := [(3, _), (1, _), (0, _)]) (q := 27) C dX9_marksOfAll_24 rfl rfl (by decide) rfl ?_ | refine j_iinc (lv' := [(3, _), (1, _), (0, _)]) (q := 27) C dX9_marksOfAll_24 rfl rfl rfl (by decide) rfl ?_
      refine j_goto (tgt := 4) C dX9_marksOfAll_27 (by decide) ?_
      exact j_fewer (lv' := [(3, .int (nI (k + 1))), (1, .long (A + K (10 + 10 * k + 0))), (0, .ref w)]) (by simp) (ih (k + 1) _ (by rw [eA, nSum]) (by omega))
  exact loop4 pe 0 0 rfl (by omega)

set_option maxRecDepth 100000 in
set_option maxHeartbeats 400000 in
theorem ctX9_loavesOfAll {G : jG} {sz : Nat} {Sh : jS} {M : jM} {w q pr lw jg mk : Nat} {K : Nat → Int64} (hW : wLay w q pr lw jg mk Sh M) (hM : vK w q pr lw M = K) {pe : Nat} (h4 : K 4 = lN pe) (hpe : pe ≤ 10) : jC G yX9_loavesOfAll cX9_loavesOfAll 4 (Option.some FieldType.long) (jrm 1 0 0) sz Sh M [.ref w] (jR (some (.long (nSum K 1 pe))) sz Sh M) := by
  refine jC_start (by decide +kernel) (Nat.le_of_ble_eq_true rfl) (fun X C E hN0 => ?_)
  refine j_lconst (v := 0) (q := 1) C dX9_loavesOfAll_0 rfl (by decide) ?_
  refine j_lstore_n (lv' := [(1, _), (0, _)]) (q := 2) C dX9_loavesOfAll_1 rfl rfl (by decide) rfl ?_
  refine j_iconst (v := nI 0) (q := 3) C dX9_loavesOfAll_2 rfl (by decide) ?_
  refine j_istore_n (lv' := [(3, _), (1, _), (0, _)]) (q := 4) C dX9_loavesOfAll_3 rfl rfl (by decide) rfl ?_
  have loop4 : ∀ (n k : Nat) (A : Int64), A = nSum K 1 k → k + n = pe → jJ G X 0 0 sz Sh M 4 [(3, .int (nI k)), (1, .long A), (0, .ref w)] [] := by
    intro n
    induction n with
    | zero =>
      intro k A eA hk
      refine j_iload_n (q := 5) C dX9_loavesOfAll_4 rfl rfl rfl ?_
      refine j_aload_n (q := 6) C dX9_loavesOfAll_5 rfl rfl rfl ?_
      refine wg_World_people hW hM (q' := 9) C dX9_loavesOfAll_6 rfl kw_204 ?_
      refine j_top (v' := .int (nI pe)) (congrArg Value.int (k32 h4)) ?_
      refine j_icmp_ge (q := 12) (tgt := 31) C dX9_loavesOfAll_9 rfl (by decide) (fun c_9 => ?_) (fun c_9 => absurd (nI_le (by omega) (by omega)) c_9)
      obtain rfl : pe = k := by omega
      refine j_lload_n (q := 32) C dX9_loavesOfAll_31 rfl rfl rfl ?_
      exact j_lret C E dX9_loavesOfAll_32 rfl rfl (jR_e (by rw [eA]) rfl)
    | succ n ih =>
      intro k A eA hk
      refine j_iload_n (q := 5) C dX9_loavesOfAll_4 rfl rfl rfl ?_
      refine j_aload_n (q := 6) C dX9_loavesOfAll_5 rfl rfl rfl ?_
      refine wg_World_people hW hM (q' := 9) C dX9_loavesOfAll_6 rfl kw_204 ?_
      refine j_top (v' := .int (nI pe)) (congrArg Value.int (k32 h4)) ?_
      refine j_icmp_ge (q := 12) (tgt := 31) C dX9_loavesOfAll_9 rfl (by decide) (fun c_9 => absurd c_9 (fun h => absurd ((nI_leI (by omega) (by omega)).mp h) (by omega))) (fun c_9 => ?_)
      refine j_lload_n (q := 13) C dX9_loavesOfAll_12 rfl rfl rfl ?_
      refine j_aload_n (q := 14) C dX9_loavesOfAll_13 rfl rfl rfl ?_
      refine jg_World_persons (q := 17) C dX9_loavesOfAll_14 rfl hW.1.1 kw_191 hW.2.1.1 ?_
      refine j_iload_n (q := 18) C dX9_loavesOfAll_17 rfl rfl rfl ?_
      refine wa_pers hW (by omega) (q' := 19) C dX9_loavesOfAll_18 rfl ?_
      refine wg_Person_loaves (by omega) hW hM (q' := 22) C dX9_loavesOfAll_19 rfl kw_148 ?_
      first | refine j_i2lN (q := 23) C dX9_loavesOfAll_22 rfl (by omega) ?_ | refine j_i2l (q := 23) C dX9_loavesOfAll_22 rfl rfl ?_
      refine j_ladd (q := 24) C dX9_loavesOfAll_23 rfl ?_
      refine j_lstore_n (lv' := [(1, _), (3, _), (0, _)]) (q := 25) C dX9_loavesOfAll_24 rfl rfl (by decide) rfl ?_
      first | refine j_iincN (lv' := [(3, _), (1, _), (0, _)]) (q := 28) C dX9_loavesOfAll_25 rfl rfl (by decide) rfl ?_ | refine j_iinc (lv' := [(3, _), (1, _), (0, _)]) (q := 28) C dX9_loavesOfAll_25 rfl rfl rfl (by decide) rfl ?_
      refine j_goto (tgt := 4) C dX9_loavesOfAll_28 (by decide) ?_
      exact j_fewer (lv' := [(3, .int (nI (k + 1))), (1, .long (A + (K (10 + 10 * k + 1)).toInt32.toInt64)), (0, .ref w)]) (by simp) (ih (k + 1) _ (by rw [eA, nSum, kpI hM (by omega) (by omega)]) (by omega))
  exact loop4 pe 0 0 rfl (by omega)

set_option maxRecDepth 100000 in
set_option maxHeartbeats 400000 in
theorem ctX9_collectTax {G : jG} {sz : Nat} {Sh : jS} {M : jM} {w q pr lw jg mk : Nat} {K : Nat → Int64} (hW : wLay w q pr lw jg mk Sh M) (hM : vK w q pr lw M = K) {pe : Nat} (h4 : K 4 = lN pe) (hpe : pe ≤ 10) : jC G yX9_collectTax cX9_collectTax 6 (Option.some FieldType.long) (jrm 2 0 0) sz Sh M [.ref w] (jT sz Sh (wT (wS0 w q pr) w q pr lw M (nTaxed K pe) (some (.long (nTx K pe).1)))) := by
  refine jC_start (by decide +kernel) (Nat.le_of_ble_eq_true rfl) (fun X C E hN0 => ?_)
  have hSS : ∀ b, wS0 w q pr b → wS0 w q pr b := fun _ h => h
  refine j_lconst (v := 0) (q := 1) C dX9_collectTax_0 rfl (by decide) ?_
  refine j_lstore_n (lv' := [(1, _), (0, _)]) (q := 2) C dX9_collectTax_1 rfl rfl (by decide) rfl ?_
  refine j_iconst (v := nI 0) (q := 3) C dX9_collectTax_2 rfl (by decide) ?_
  refine j_istore_n (lv' := [(3, _), (1, _), (0, _)]) (q := 4) C dX9_collectTax_3 rfl rfl (by decide) rfl ?_
  have hW0 := hW
  clear hW
  have loop4 : ∀ (n k : Nat) (A : Int64) (Mk : jM), A = (nTx K k).1 → vK w q pr lw Mk = (nTx K k).2 → mEq (wS0 w q pr) M Mk → k + n = pe → jJ G X 0 0 sz Sh Mk 4 [(3, .int (nI k)), (1, .long A), (0, .ref w)] [] := by
    intro n
    induction n with
    | zero =>
      intro k A Mk eA eK hE hk
      have hM : vK w q pr lw Mk = (nTx K k).2 := eK
      have hW := hW0.mv hE
      have h4k : (nTx K k).2 4 = lN pe := by rw [nTx_low K k (by omega)]; exact h4
      refine j_iload_n (q := 5) C dX9_collectTax_4 rfl rfl rfl ?_
      refine j_aload_n (q := 6) C dX9_collectTax_5 rfl rfl rfl ?_
      refine wg_World_people hW hM (q' := 9) C dX9_collectTax_6 rfl kw_204 ?_
      refine j_top (v' := .int (nI pe)) (congrArg Value.int (k32 h4k)) ?_
      refine j_icmp_ge (q := 12) (tgt := 54) C dX9_collectTax_9 rfl (by decide) (fun c_9 => ?_) (fun c_9 => absurd (nI_le (by omega) (by omega)) c_9)
      obtain rfl : pe = k := by omega
      refine j_aload_n (q := 55) C dX9_collectTax_54 rfl rfl rfl ?_
      refine j_lload_n (q := 56) C dX9_collectTax_55 rfl rfl rfl ?_
      refine jVT jc9 (q := 59) C dX9_collectTax_56 rfl hW.1.1 mX9_creditState kw_701 kw_684 kw_685 (ctX9_creditState hW hM) rfl rfl (by decide) (Nat.le_of_ble_eq_true rfl) (by decide) (fun r_56 M_56 h_56 => ?_)
      obtain ⟨rfl, hM3, hE3⟩ := h_56
      replace hE := hE.tr hE3
      refine j_lload_n (q := 60) C dX9_collectTax_59 rfl rfl rfl ?_
      exact j_lret C E dX9_collectTax_60 rfl rfl (wT_i (by rw [eA]) (by rw [hM3, eA]; rfl) hE)
    | succ n ih =>
      intro k A Mk eA eK hE hk
      have hM : vK w q pr lw Mk = (nTx K k).2 := eK
      have hW := hW0.mv hE
      have h4k : (nTx K k).2 4 = lN pe := by rw [nTx_low K k (by omega)]; exact h4
      refine j_iload_n (q := 5) C dX9_collectTax_4 rfl rfl rfl ?_
      refine j_aload_n (q := 6) C dX9_collectTax_5 rfl rfl rfl ?_
      refine wg_World_people hW hM (q' := 9) C dX9_collectTax_6 rfl kw_204 ?_
      refine j_top (v' := .int (nI pe)) (congrArg Value.int (k32 h4k)) ?_
      refine j_icmp_ge (q := 12) (tgt := 54) C dX9_collectTax_9 rfl (by decide) (fun c_9 => absurd c_9 (fun h => absurd ((nI_leI (by omega) (by omega)).mp h) (by omega))) (fun c_9 => ?_)
      refine j_aload_n (q := 13) C dX9_collectTax_12 rfl rfl rfl ?_
      refine jg_World_persons (q := 16) C dX9_collectTax_13 rfl hW.1.1 kw_191 hW.2.1.1 ?_
      refine j_iload_n (q := 17) C dX9_collectTax_16 rfl rfl rfl ?_
      refine wa_pers hW (by omega) (q' := 18) C dX9_collectTax_17 rfl ?_
      refine wg_Person_marks (by omega) hW hM (q' := 21) C dX9_collectTax_18 rfl kw_144 ?_
      refine j_ldc2 (q := 24) C dX9_collectTax_21 rfl kw_700 ?_
      refine j_ldiv (q := 25) C dX9_collectTax_24 rfl (by decide) ?_
      refine j_lstore (lv' := [(4, _), (3, _), (1, _), (0, _)]) (q := 27) C dX9_collectTax_25 rfl (by decide) rfl ?_
      refine j_aload_n (q := 28) C dX9_collectTax_27 rfl rfl rfl ?_
      refine jg_World_persons (q := 31) C dX9_collectTax_28 rfl hW.1.1 kw_191 hW.2.1.1 ?_
      refine j_iload_n (q := 32) C dX9_collectTax_31 rfl rfl rfl ?_
      refine wa_pers hW (by omega) (q' := 33) C dX9_collectTax_32 rfl ?_
      refine j_dup (q := 34) C dX9_collectTax_33 rfl rfl ?_
      refine wg_Person_marks (by omega) hW hM (q' := 37) C dX9_collectTax_34 rfl kw_144 ?_
      refine j_lload (q := 39) C dX9_collectTax_37 rfl rfl ?_
      refine j_lsub (q := 40) C dX9_collectTax_39 rfl ?_
      refine wp_Person_marks (by omega) hW hM hE hSS (q' := 43) C dX9_collectTax_40 rfl kw_144 (fun M hM hE hW => ?_)
      refine j_lload_n (q := 44) C dX9_collectTax_43 rfl rfl rfl ?_
      refine j_lload (q := 46) C dX9_collectTax_44 rfl rfl ?_
      refine j_ladd (q := 47) C dX9_collectTax_46 rfl ?_
      refine j_lstore_n (lv' := [(1, _), (4, _), (3, _), (0, _)]) (q := 48) C dX9_collectTax_47 rfl rfl (by decide) rfl ?_
      first | refine j_iincN (lv' := [(3, _), (1, _), (4, _), (0, _)]) (q := 51) C dX9_collectTax_48 rfl rfl (by decide) rfl ?_ | refine j_iinc (lv' := [(3, _), (1, _), (4, _), (0, _)]) (q := 51) C dX9_collectTax_48 rfl rfl rfl (by decide) rfl ?_
      refine j_goto (tgt := 4) C dX9_collectTax_51 (by decide) ?_
      exact j_fewer (lv' := [(3, .int (nI (k + 1))), (1, .long (A + (nTx K k).2 (10 + 10 * k + 0) / 10)), (0, .ref w)]) (by simp) (ih (k + 1) _ _ (by rw [eA, nTx]) (by rw [hM, nTx]) hE (by omega))
  exact loop4 pe 0 0 M rfl hM mEq.rf (by omega)

