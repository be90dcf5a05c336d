theorem kqE {w q pr lw : Nat} {M : jM} {K : Nat → Int64} (hM : vK w q pr lw M = K) {j f n : Nat} (hj : j < 24) (hf : f ≤ 6 ∧ f ≠ 3) (hn : n < 2 ^ 31) : M.1 (q + 12 + j) f = nI n ↔ K (110 + 7 * j + f) = lN n := by
  rw [← hM, vK_qI hj hf, ← nI_l hn, i64_eq]
theorem kqLe {w q pr lw : Nat} {M : jM} {K : Nat → Int64} (hM : vK w q pr lw M = K) {j f n : Nat} (hj : j < 24) (hf : f ≤ 6 ∧ f ≠ 3) (hn : n < 2 ^ 31) : M.1 (q + 12 + j) f ≤ nI n ↔ K (110 + 7 * j + f) ≤ lN n := by
  rw [← hM, vK_qI hj hf, ← nI_l hn, Int64.le_iff_toInt_le, Int32.le_iff_toInt_le, i32_l, i32_l]
def nPayC (K : Nat → Int64) (d j s b t : Nat) (n : Int64) : Nat → Int64 := if (K (110 + 7 * j + 0) = 1 ∨ K (110 + 7 * j + 0) = 2) ∧ lmn n (K (10 + 10 * b + 0)) = n then nSett (nPays K j b t (lmn n (K (10 + 10 * b + 0)))) d j s b t (lmn n (K (10 + 10 * b + 0))) else nPays K j b t (lmn n (K (10 + 10 * b + 0)))
theorem nPayC_eq {LT : Nat → sT} {d la j : Nat} {N : Nat → Int64} (h : nOwes N d j) : nPayC N d j (nv (N (110 + 7 * j + 4))) (nv (N (110 + 7 * j + 1))) (nv (N (110 + 7 * j + 2))) (nOwed LT N d la j 0) = nPay1 LT d la N j := by
  have e : (N (110 + 7 * j + 0) = 1 ∨ N (110 + 7 * j + 0) = 2) ↔ ¬ N (110 + 7 * j + 0) = 3 := by
    rcases h with ⟨h, -⟩ | ⟨h, -⟩
    · refine ⟨fun _ => ?_, fun _ => h⟩
      rcases h with h | h <;> rw [h] <;> decide
    · rw [h]; decide
  unfold nPayC nPay1 nPaid
  simp only [e]
theorem nOwes_iff {w q pr lw : Nat} {M : jM} {K : Nat → Int64} (hM : vK w q pr lw M = K) {j d : Nat} (hj : j < 24) (hd : d < 2 ^ 31) : ((M.1 (q + 12 + j) 0 = nI 3 ∧ d % 10 = 0) ∨ (¬ M.1 (q + 12 + j) 0 = nI 3 ∧ (M.1 (q + 12 + j) 0 = nI 1 ∨ M.1 (q + 12 + j) 0 = nI 2) ∧ M.1 (q + 12 + j) 5 ≤ nI d)) ↔ nOwes K d j := by
  rw [kqE hM hj (by omega) (by omega), kqE hM hj (by omega) (by omega), kqE hM hj (by omega) (by omega), kqLe hM hj (by omega) hd]
  unfold nOwes
  constructor
  · rintro (h | ⟨-, h⟩)
    · exact Or.inr h
    · exact Or.inl h
  · rintro (h | h)
    · refine Or.inr ⟨fun e => ?_, h⟩
      rcases h.1 with h | h <;> rw [h] at e <;> exact absurd e (by decide)
    · exact Or.inl h
set_option maxRecDepth 100000 in
set_option maxHeartbeats 400000 in
theorem ctX9_payAsFarAsItGoes {G : jG} {sz : Nat} {Sh : jS} {M : jM} {w q pr lw jg mk : Nat} {K : Nat → Int64} (hW : wLay w q pr lw jg mk Sh M) (hM : vK w q pr lw M = K) {j b t pe : Nat} (hj : j < 24) (hpe : pe ≤ 10) (h4 : K 4 = lN pe) (hb : K (110 + 7 * j + 1) = lN b) (hb1 : b < pe) (ht : K (110 + 7 * j + 2) = lN t) (ht1 : t < pe) {s d : Nat} (hd : K 0 = lN d) (hd3 : d ≤ 300) (hs : K (110 + 7 * j + 4) = lN s) (hs3 : s ≤ 300) (hps : 1 ≤ K (310 + s)) (hpd : 1 ≤ K (310 + d)) {kd : Nat} (hk : K (110 + 7 * j + 0) = lN kd) (hk5 : kd ≤ 5) {n : Int64} : jC G yX9_payAsFarAsItGoes cX9_payAsFarAsItGoes 6 (Option.none : Option FieldType) (jrm 3 0 0) sz Sh M [.ref w, .ref (q + 12 + j), .long n] (jT sz Sh (wT (wS0 w q pr) w q pr lw M (nPayC K d j s b t n) (none))) := by
  refine jC_start (by decide +kernel) (Nat.le_of_ble_eq_true rfl) (fun X C E hN0 => ?_)
  have hE : mEq (wS0 w q pr) M M := mEq.rf
  have hSS : ∀ b, wS0 w q pr b → wS0 w q pr b := fun _ h => h
  refine j_lload_n (q := 1) C dX9_payAsFarAsItGoes_0 rfl rfl rfl ?_
  refine j_aload_n (q := 2) C dX9_payAsFarAsItGoes_1 rfl rfl rfl ?_
  refine jg_World_persons (q := 5) C dX9_payAsFarAsItGoes_2 rfl hW.1.1 kw_191 hW.2.1.1 ?_
  refine j_aload_n (q := 6) C dX9_payAsFarAsItGoes_5 rfl rfl rfl ?_
  refine wg_Paper_by (by omega) hW hM (q' := 9) C dX9_payAsFarAsItGoes_6 rfl kw_175 ?_
  refine j_top (v' := .int (nI b)) (congrArg Value.int (k32 hb)) ?_
  refine wa_pers hW (by omega) (q' := 10) C dX9_payAsFarAsItGoes_9 rfl ?_
  refine wg_Person_marks (by omega) hW hM (q' := 13) C dX9_payAsFarAsItGoes_10 rfl kw_144 ?_
  refine j_lmin (q := 16) C dX9_payAsFarAsItGoes_13 rfl kw_661 (by decide) (Nat.le_of_ble_eq_true rfl) (by decide) ?_
  refine j_lstore (lv' := [(4, _), (0, _), (1, _), (2, _)]) (q := 18) C dX9_payAsFarAsItGoes_16 rfl (by decide) rfl ?_
  refine j_aload_n (q := 19) C dX9_payAsFarAsItGoes_18 rfl rfl rfl ?_
  refine j_aload_n (q := 20) C dX9_payAsFarAsItGoes_19 rfl rfl rfl ?_
  refine j_lload (q := 22) C dX9_payAsFarAsItGoes_20 rfl rfl ?_
  refine jVT jc9 (q := 25) C dX9_payAsFarAsItGoes_22 rfl hW.1.1 mX9_handOver kw_662 kw_422 kw_423 (ctX9_handOver hW hM hj hpe h4 hb hb1 ht ht1) rfl rfl (by decide) (Nat.le_of_ble_eq_true rfl) (by decide) (fun r_22 M_22 h_22 => ?_)
  obtain ⟨rfl, hM2, hE2⟩ := h_22
  clear hM
  have hM := hM2
  replace hE := hE.tr (hE2.mono hSS)
  replace hW := hW.mv hE2
  have hEQ := nPays_eq (N := K) (j := j) (b := b) (t := t) (v := lmn n (K (10 + 10 * b + 0))) (by omega) (by omega)
  have i12 : (M_22.1 (q + 12 + j) 0 = nI 1 ∨ M_22.1 (q + 12 + j) 0 = nI 2) ↔ (K (110 + 7 * j + 0) = 1 ∨ K (110 + 7 * j + 0) = 2) := by
    rw [kqE hM hj (by omega) (by omega), kqE hM hj (by omega) (by omega), hEQ _ (nStQ (by omega))]
    exact Iff.rfl
  refine j_aload_n (q := 26) C dX9_payAsFarAsItGoes_25 rfl rfl rfl ?_
  refine jV1 jc5 (q := 29) C dX9_payAsFarAsItGoes_26 rfl (hW.1.2.2.2.2.2.2.2.2 _ (by omega)) mX5_isPaidAtOnce kw_435 kw_436 kw_437 (ctX5_isPaidAtOnce (hW.1.2.2.2.2.2.2.2.2 j hj)) rfl rfl (by decide) (Nat.le_of_ble_eq_true rfl) (by decide) ?_
  refine j_if_eq (q := 32) (tgt := 46) C dX9_payAsFarAsItGoes_29 rfl (by decide) (fun c_29 => ?_) (fun c_29 => ?_)
  · exact j_vret C E dX9_payAsFarAsItGoes_46 rfl rfl (wT_i rfl (hM.trans (if_neg (fun h => jb_0.mp c_29 (i12.mpr h.1))).symm) hE)
  · refine j_lload (q := 34) C dX9_payAsFarAsItGoes_32 rfl rfl ?_
    refine j_lload_n (q := 35) C dX9_payAsFarAsItGoes_34 rfl rfl rfl ?_
    refine j_lcmp_ne (q1 := 36) (q := 39) (tgt := 46) C dX9_payAsFarAsItGoes_35 dX9_payAsFarAsItGoes_36 rfl rfl (by decide) (fun c_36 => ?_) (fun c_36 => ?_)
    · exact j_vret C E dX9_payAsFarAsItGoes_46 rfl rfl (wT_i rfl (hM.trans (if_neg (fun h => c_36 h.2)).symm) hE)
    · refine j_aload_n (q := 40) C dX9_payAsFarAsItGoes_39 rfl rfl rfl ?_
      refine j_aload_n (q := 41) C dX9_payAsFarAsItGoes_40 rfl rfl rfl ?_
      refine j_lload (q := 43) C dX9_payAsFarAsItGoes_41 rfl rfl ?_
      refine jVT jc9 (q := 46) C dX9_payAsFarAsItGoes_43 rfl hW.1.1 mX9_closePaid kw_663 kw_432 kw_433 (ctX9_closePaid hW hM hj hpe ((hEQ _ (by unfold nSt; omega)).trans h4) ((hEQ _ (nStQ (by omega))).trans hb) hb1 ((hEQ _ (nStQ (by omega))).trans ht) ht1 ((hEQ _ (by unfold nSt; omega)).trans hd) hd3 ((hEQ _ (nStQ (by omega))).trans hs) hs3 ((hEQ (310 + s) (by unfold nSt; omega)).symm ▸ hps) ((hEQ (310 + d) (by unfold nSt; omega)).symm ▸ hpd) ((hEQ _ (nStQ (by omega))).trans hk) hk5) rfl rfl (by decide) (Nat.le_of_ble_eq_true rfl) (by decide) (fun r_43 M_43 h_43 => ?_)
      obtain ⟨rfl, hM2, hE2⟩ := h_43
      clear hM
      have hM := hM2
      replace hE := hE.tr (hE2.mono hSS)
      replace hW := hW.mv hE2
      exact j_vret C E dX9_payAsFarAsItGoes_46 rfl rfl (wT_i rfl (hM.trans (if_pos ⟨i12.mp (jb_n.mp c_29), c_36⟩).symm) hE)

set_option maxRecDepth 100000 in
set_option maxHeartbeats 400000 in
theorem ctX9_payDebts {G : jG} {sz : Nat} {Sh : jS} {M : jM} {w q pr lw jg mk B la : Nat} {LT : Nat → sT} {K : Nat → Int64} (hC : wCx w q pr lw jg mk B la LT Sh M) (hM : vK w q pr lw M = K) {d pe pa : Nat} (hO : nOk K d pe pa la) : jC G yX9_payDebts cX9_payDebts 3 (Option.none : Option FieldType) (jrm 4 0 0) sz Sh M [.ref w] (jT sz Sh (wT (wSJ w q pr jg) w q pr lw M (nDebts LT d la K pa) (none))) := by
  refine jC_start (by decide +kernel) (Nat.le_of_ble_eq_true rfl) (fun X C E hN0 => ?_)
  refine j_iconst (v := nI 0) (q := 1) C dX9_payDebts_0 rfl (by decide) ?_
  refine j_istore_n (lv' := [(1, _), (0, _)]) (q := 2) C dX9_payDebts_1 rfl rfl (by decide) rfl ?_
  have loop2 : ∀ (n k : Nat) (Mk : jM), vK w q pr lw Mk = nDebts LT d la K k → mEq (wSJ w q pr jg) M Mk → k + n = pa → jJ G X 0 0 sz Sh Mk 2 [(1, .int (nI k)), (0, .ref w)] [] := by
    intro n
    induction n with
    | zero =>
      intro k Mk hMk hE hk
      have eK : vK w q pr lw Mk = nDebts LT d la K k := hMk
      obtain ⟨Kk, hKk⟩ : ∃ z, z = nDebts LT d la K k := ⟨_, rfl⟩
      have hM : vK w q pr lw Mk = Kk := eK.trans hKk.symm
      have hOk : nOk Kk d pe pa la := hO.eq (hKk ▸ nDebts_eq hO k (by omega))
      have hlt := fun b hb => wSJ_lt (b := b) ⟨hC.2.2.2.2.2.1, hC.2.2.2.2.2.2.1, hC.2.2.2.2.2.2.2.1, hC.2.2.2.2.2.2.2.2.1⟩ hb
      have hCk := hC.mv hE hlt
      have hW := hCk.1
      have hpa : pa ≤ 24 := hO.2.2.1.2
      have hpe : pe ≤ 10 := hO.2.1.2
      have hd3 : d ≤ 300 := hO.1.2
      have hSS : ∀ b, wS0 w q pr b → wSJ w q pr jg b := subJ
      refine j_iload_n (q := 3) C dX9_payDebts_2 rfl rfl rfl ?_
      refine j_aload_n (q := 4) C dX9_payDebts_3 rfl rfl rfl ?_
      refine wg_World_written hW hM (q' := 7) C dX9_payDebts_4 rfl kw_207 ?_
      refine j_top (v' := .int (nI pa)) (congrArg Value.int (k32 hOk.2.2.1.1)) ?_
      refine j_icmp_ge (q := 10) (tgt := 90) C dX9_payDebts_7 rfl (by decide) (fun c_7 => ?_) (fun c_7 => absurd (nI_le (by omega) (by omega)) c_7)
      obtain rfl : pa = k := by omega
      exact j_vret C E dX9_payDebts_90 rfl rfl (wT_i rfl eK hE)
    | succ n ih =>
      intro k Mk hMk hE hk
      have eK : vK w q pr lw Mk = nDebts LT d la K k := hMk
      obtain ⟨Kk, hKk⟩ : ∃ z, z = nDebts LT d la K k := ⟨_, rfl⟩
      have hM : vK w q pr lw Mk = Kk := eK.trans hKk.symm
      have hOk : nOk Kk d pe pa la := hO.eq (hKk ▸ nDebts_eq hO k (by omega))
      have hlt := fun b hb => wSJ_lt (b := b) ⟨hC.2.2.2.2.2.1, hC.2.2.2.2.2.2.1, hC.2.2.2.2.2.2.2.1, hC.2.2.2.2.2.2.2.2.1⟩ hb
      have hCk := hC.mv hE hlt
      have hW := hCk.1
      have hpa : pa ≤ 24 := hO.2.2.1.2
      have hpe : pe ≤ 10 := hO.2.1.2
      have hd3 : d ≤ 300 := hO.1.2
      have hSS : ∀ b, wS0 w q pr b → wSJ w q pr jg b := subJ
      refine j_iload_n (q := 3) C dX9_payDebts_2 rfl rfl rfl ?_
      refine j_aload_n (q := 4) C dX9_payDebts_3 rfl rfl rfl ?_
      refine wg_World_written hW hM (q' := 7) C dX9_payDebts_4 rfl kw_207 ?_
      refine j_top (v' := .int (nI pa)) (congrArg Value.int (k32 hOk.2.2.1.1)) ?_
      refine j_icmp_ge (q := 10) (tgt := 90) C dX9_payDebts_7 rfl (by decide) (fun c_7 => absurd c_7 (fun h => absurd ((nI_leI (by omega) (by omega)).mp h) (by omega))) (fun c_7 => ?_)
      refine j_aload_n (q := 11) C dX9_payDebts_10 rfl rfl rfl ?_
      refine jg_World_papers (q := 14) C dX9_payDebts_11 rfl hW.1.1 kw_195 hW.2.1.2.1 ?_
      refine j_iload_n (q := 15) C dX9_payDebts_14 rfl rfl rfl ?_
      refine wa_pap hW (by omega) (q' := 16) C dX9_payDebts_15 rfl ?_
      refine j_astore_n (lv' := [(2, _), (1, _), (0, _)]) (q := 17) C dX9_payDebts_16 rfl rfl (by decide) rfl ?_
      have j61 : ∀ M1, vK w q pr lw M1 = nDebtA LT d la Kk k → mEq (wSJ w q pr jg) M M1 → jJ G X 0 0 sz Sh M1 61 [(2, .ref (q + 12 + k)), (1, .int (nI k)), (0, .ref w)] [] := by
        intro M1 hM hE
        have hW := (hC.mv hE hlt).1
        have hEQ := nDebtA_eq (LT := LT) hOk (j := k) (by omega)
        have hO1 := hOk.eq hEQ
        have eOp : M1.1 (q + 12 + k) 6 = 0 ↔ nDebtA LT d la Kk k (110 + 7 * k + 6) = 0 := by
          rw [← hM, vK_qI (by omega) (by omega)]; exact (i64_eq _ 0).symm
        have eEn : ((M1.1 (q + 12 + k) 0 = nI 3 ∨ M1.1 (q + 12 + k) 0 = nI 4) ∧ M1.1 (q + 12 + k) 5 = nI d) ↔ ((Kk (110 + 7 * k + 0) = 3 ∨ Kk (110 + 7 * k + 0) = 4) ∧ Kk (110 + 7 * k + 5) = lN d) := by
          rw [kqE hM (by omega) (by omega) (by omega), kqE hM (by omega) (by omega) (by omega), kqE hM (by omega) (by omega) (by omega), hEQ _ (nStQ (by omega)), hEQ _ (nStQ (by omega))]
          exact Iff.rfl
        refine j_aload_n (q := 62) C dX9_payDebts_61 rfl rfl rfl ?_
        refine jV1 jc5 (q := 65) C dX9_payDebts_62 rfl (hW.1.2.2.2.2.2.2.2.2 _ (by omega)) mX5_isOpen kw_452 kw_366 kw_367 (ctX5_isOpen (hW.1.2.2.2.2.2.2.2.2 k (by omega))) rfl rfl (by decide) (Nat.le_of_ble_eq_true rfl) (by decide) ?_
        refine j_if_eq (q := 68) (tgt := 84) C dX9_payDebts_65 rfl (by decide) (fun c_65 => ?_) (fun c_65 => ?_)
        · first | refine j_iincN (lv' := [(1, _), (2, _), (0, _)]) (q := 87) C dX9_payDebts_84 rfl rfl (by decide) rfl ?_ | refine j_iinc (lv' := [(1, _), (2, _), (0, _)]) (q := 87) C dX9_payDebts_84 rfl rfl rfl (by decide) rfl ?_
          refine j_goto (tgt := 2) C dX9_payDebts_87 (by decide) ?_
          exact j_fewer (lv' := [(1, .int (nI (k + 1))), (0, .ref w)]) (by simp) (ih (k + 1) _ (by rw [hM, nDebts, ← hKk, nDebt1, if_neg (fun h => jb_0.mp c_65 (eOp.mpr h.1))]) hE (by omega))
        · refine j_aload_n (q := 69) C dX9_payDebts_68 rfl rfl rfl ?_
          refine j_aload_n (q := 70) C dX9_payDebts_69 rfl rfl rfl ?_
          refine wg_World_day hW hM (q' := 73) C dX9_payDebts_70 rfl kw_209 ?_
          refine j_top (v' := .int (nI d)) (congrArg Value.int (k32 hO1.1.1)) ?_
          refine jV1 jc5 (q := 76) C dX9_payDebts_73 rfl (hW.1.2.2.2.2.2.2.2.2 _ (by omega)) mX5_endsOn kw_664 kw_665 kw_666 (ctX5_endsOn (hW.1.2.2.2.2.2.2.2.2 k (by omega))) rfl rfl (by decide) (Nat.le_of_ble_eq_true rfl) (by decide) ?_
          refine j_if_eq (q := 79) (tgt := 84) C dX9_payDebts_76 rfl (by decide) (fun c_76 => ?_) (fun c_76 => ?_)
          · first | refine j_iincN (lv' := [(1, _), (2, _), (0, _)]) (q := 87) C dX9_payDebts_84 rfl rfl (by decide) rfl ?_ | refine j_iinc (lv' := [(1, _), (2, _), (0, _)]) (q := 87) C dX9_payDebts_84 rfl rfl rfl (by decide) rfl ?_
            refine j_goto (tgt := 2) C dX9_payDebts_87 (by decide) ?_
            exact j_fewer (lv' := [(1, .int (nI (k + 1))), (0, .ref w)]) (by simp) (ih (k + 1) _ (by rw [hM, nDebts, ← hKk, nDebt1, if_neg (fun h => jb_0.mp c_76 (eEn.mpr h.2))]) hE (by omega))
          · refine j_aload_n (q := 80) C dX9_payDebts_79 rfl rfl rfl ?_
            refine j_iconst (v := nI 1) (q := 81) C dX9_payDebts_80 rfl (by decide) ?_
            refine wp_Paper_state (by omega) hW hM hE hSS (q' := 84) C dX9_payDebts_81 rfl kw_189 (fun M hM hE hW => ?_)
            first | refine j_iincN (lv' := [(1, _), (2, _), (0, _)]) (q := 87) C dX9_payDebts_84 rfl rfl (by decide) rfl ?_ | refine j_iinc (lv' := [(1, _), (2, _), (0, _)]) (q := 87) C dX9_payDebts_84 rfl rfl rfl (by decide) rfl ?_
            refine j_goto (tgt := 2) C dX9_payDebts_87 (by decide) ?_
            exact j_fewer (lv' := [(1, .int (nI (k + 1))), (0, .ref w)]) (by simp) (ih (k + 1) _ (by rw [hM, nDebts, ← hKk, nDebt1, if_pos ⟨eOp.mp (jb_n.mp c_65), eEn.mp (jb_n.mp c_76)⟩]; rfl) hE (by omega))
      refine j_aload_n (q := 18) C dX9_payDebts_17 rfl rfl rfl ?_
      have eOp : Mk.1 (q + 12 + k) 6 = 0 ↔ Kk (110 + 7 * k + 6) = 0 := by rw [← hM, vK_qI (by omega) (by omega)]; exact (i64_eq _ 0).symm
      refine jV1 jc5 (q := 21) C dX9_payDebts_18 rfl (hW.1.2.2.2.2.2.2.2.2 _ (by omega)) mX5_isOpen kw_452 kw_366 kw_367 (ctX5_isOpen (hW.1.2.2.2.2.2.2.2.2 k (by omega))) rfl rfl (by decide) (Nat.le_of_ble_eq_true rfl) (by decide) ?_
      refine j_if_eq (q := 24) (tgt := 61) C dX9_payDebts_21 rfl (by decide) (fun c_21 => ?_) (fun c_21 => ?_)
      · exact j61 _ (by rw [hM, nDebtA, ifC_f (fun h => jb_0.mp c_21 (eOp.mpr h.1))]) hE
      · refine j_aload_n (q := 25) C dX9_payDebts_24 rfl rfl rfl ?_
        refine j_aload_n (q := 26) C dX9_payDebts_25 rfl rfl rfl ?_
        refine wg_World_day hW hM (q' := 29) C dX9_payDebts_26 rfl kw_209 ?_
        refine j_top (v' := .int (nI d)) (congrArg Value.int (k32 hOk.1.1)) ?_
        refine jV1 jc5 (q := 32) C dX9_payDebts_29 rfl (hW.1.2.2.2.2.2.2.2.2 _ (by omega)) mX5_isPayDay kw_653 kw_654 kw_655 (ctX5_isPayDay (hW.1.2.2.2.2.2.2.2.2 k (by omega)) (by omega)) rfl rfl (by decide) (Nat.le_of_ble_eq_true rfl) (by decide) ?_
        refine j_if_eq (q := 35) (tgt := 61) C dX9_payDebts_32 rfl (by decide) (fun c_32 => ?_) (fun c_32 => ?_)
        · exact j61 _ (by rw [hM, nDebtA, ifC_f (fun h => jb_0.mp c_32 ((nOwes_iff hM (by omega) (by omega)).mpr h.2))]) hE
        · have hOw := (nOwes_iff hM (by omega) (by omega)).mp (jb_n.mp c_32)
          refine j_aload_n (q := 36) C dX9_payDebts_35 rfl rfl rfl ?_
          refine j_aload_n (q := 37) C dX9_payDebts_36 rfl rfl rfl ?_
          refine wg_Paper_by (by omega) hW hM (q' := 40) C dX9_payDebts_37 rfl kw_175 ?_
          refine j_top (v' := .int (nI (nv (Kk (110 + 7 * k + 1))))) (congrArg Value.int (k32 (nOwes_by hOk (by omega) hOw).1.1)) ?_
          refine jV1 jc9 (q := 43) C dX9_payDebts_40 rfl hW.1.1 mX9_hasPerson kw_425 kw_301 kw_302 (ctX9_hasPerson hW hM hOk.2.1.1) rfl rfl (by decide) (Nat.le_of_ble_eq_true rfl) (by decide) ?_
          refine j_if_eq (q := 46) (tgt := 61) C dX9_payDebts_43 rfl (by decide) (fun c_43 => absurd c_43 (jbP_t (nOwes_by hOk (by omega) hOw).2 (by omega))) (fun c_43 => ?_)
          refine j_aload_n (q := 47) C dX9_payDebts_46 rfl rfl rfl ?_
          refine j_aload_n (q := 48) C dX9_payDebts_47 rfl rfl rfl ?_
          refine j_aload_n (q := 49) C dX9_payDebts_48 rfl rfl rfl ?_
          refine jg_World_judge (q := 52) C dX9_payDebts_49 rfl hW.1.1 kw_201 hW.2.1.2.2.2.2.1 ?_
          refine j_aload_n (q := 53) C dX9_payDebts_52 rfl rfl rfl ?_
          refine j_aload_n (q := 54) C dX9_payDebts_53 rfl rfl rfl ?_
          refine j_iconst (v := nI 0) (q := 55) C dX9_payDebts_54 rfl (by decide) ?_
          refine jVT jc2 (q := 58) C dX9_payDebts_55 rfl hCk.2.1.1 mX2_rule kw_621 kw_374 kw_375 (ctX2_rule hW hM hCk.2.1 hCk.2.2.2.2.1.1 hOk.1.1 hOk.1.2 (fun z hz => (hOk.2.2.2.2.2 z hz).1) (by omega) (hOk.2.2.2.2.1 k (by omega)).2.2.2.1.1.1 (hOk.2.2.2.2.1 k (by omega)).2.2.2.1.2 (hOk.2.2.2.2.1 k (by omega)).1.1 (hOk.2.2.2.2.1 k (by omega)).1.2 hCk.2.2.1 hOk.2.2.2.1.1 hOk.2.2.2.1.2 hCk.2.2.2.1 hCk.2.2.2.2.2.2.2.2.1) rfl rfl (by decide) (Nat.le_of_ble_eq_true rfl) (by decide) (fun r_55 M_55 h_55 => ?_)
          obtain ⟨rfl, A_55, P_55, eM⟩ := h_55
          have hE2 : mEq (wSJ w q pr jg) Mk M_55 := by rw [eM]; exact (mEq.rf.w (Or.inr (Or.inl rfl))).w (Or.inr (Or.inr rfl))
          have hM2 : vK w q pr lw M_55 = Kk := by rw [eM, vK_w hCk.2.2.2.2.1.2, vK_w hCk.2.2.2.2.1.1]; exact hM
          clear hM
          replace hE := hE.tr hE2
          replace hW := hW.mv hE2
          have hM := hM2
          rw [i0]
          refine jVT jc9 (q := 61) C dX9_payDebts_58 rfl hW.1.1 mX9_payAsFarAsItGoes kw_658 kw_659 kw_21 (ctX9_payAsFarAsItGoes hW hM (by omega) hpe hOk.2.1.1 (nOwes_by hOk (by omega) hOw).1.1 (nOwes_by hOk (by omega) hOw).2 (hOk.2.2.2.2.1 k (by omega)).2.2.1.1.1 (hOk.2.2.2.2.1 k (by omega)).2.2.1.2 hOk.1.1 hd3 (hOk.2.2.2.2.1 k (by omega)).2.2.2.1.1.1 (hOk.2.2.2.2.1 k (by omega)).2.2.2.1.1.2 (hOk.2.2.2.2.2 _ (hOk.2.2.2.2.1 k (by omega)).2.2.2.1.2).1 (hOk.2.2.2.2.2 d (Nat.le_refl d)).1 (hOk.2.2.2.2.1 k (by omega)).1.1 (hOk.2.2.2.2.1 k (by omega)).1.2) rfl rfl (by decide) (Nat.le_of_ble_eq_true rfl) (by decide) (fun r_58 M_58 h_58 => ?_)
          obtain ⟨rfl, hM2, hE2⟩ := h_58
          clear hM
          have hM := hM2
          replace hE := hE.tr (hE2.mono hSS)
          replace hW := hW.mv hE2
          exact j61 _ (by rw [hM, nDebtA, ifC_t ⟨eOp.mp (jb_n.mp c_21), hOw⟩, ← nPayC_eq hOw]; rfl) hE
  exact loop2 pa 0 M hM mEq.rf (by omega)

