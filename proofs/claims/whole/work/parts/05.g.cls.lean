/-- a world with its judge and its laws -/
def wSJ (w q pr jg b : Nat) : Prop := wS0 w q pr b ∨ b = jg + 1 ∨ b = jg + 2
def wCx (w q pr lw jg mk B la : Nat) (LT : Nat → sT) (Sh : jS) (M : jM) : Prop := wLay w q pr lw jg mk Sh M ∧ jLay jg Sh M ∧ lLay lw Sh M ∧ lRep B lw la LT Sh M ∧ (¬ wS0 w q pr (jg + 1) ∧ ¬ wS0 w q pr (jg + 2)) ∧ (w < B ∧ q + 36 ≤ B ∧ pr < B ∧ jg + 2 < B ∧ mk + 2 < B)
theorem wSJ_lt {w q pr jg B b : Nat} (h : w < B ∧ q + 36 ≤ B ∧ pr < B ∧ jg + 2 < B) (hb : wSJ w q pr jg b) : b < B := by
  unfold wSJ wS0 at hb
  omega
theorem wCx.mv {w q pr lw jg mk B la : Nat} {LT : Nat → sT} {Sh : jS} {M M' : jM} {S : Nat → Prop} (h : wCx w q pr lw jg mk B la LT Sh M) (e : mEq S M M') (hS : ∀ b, S b → b < B) : wCx w q pr lw jg mk B la LT Sh M' := by
  obtain ⟨h1, h2, h3, h4, h5, h6⟩ := h
  refine ⟨h1.mv e, ?_, ?_, h4.mv e hS, h5, h6⟩
  · unfold jLay at h2 ⊢; rw [e.2.2]; exact h2
  · unfold lLay at h3 ⊢; rw [e.2.2]; exact h3
theorem subJ {w q pr jg : Nat} : ∀ b, wS0 w q pr b → wSJ w q pr jg b := fun _ h => Or.inl h
theorem i0 : (nI 0).toInt64 = 0 := by decide
theorem subsub (a d l : Int64) : a - (d - l) = a + (l - d) := by rw [Int64.sub_eq_add_neg, Int64.neg_sub]
set_option maxRecDepth 100000 in
set_option maxHeartbeats 400000 in
theorem ctX9_payWages {G : jG} {sz : Nat} {Sh : jS} {M : jM} {w q pr lw jg mk B la : Nat} {LT : Nat → sT} {K : Nat → Int64} (hC : wCx w q pr lw jg mk B la LT Sh M) (hM : vK w q pr lw M = K) {d pe pa : Nat} (hO : nOk K d pe pa la) : jC G yX9_payWages cX9_payWages 7 (Option.none : Option FieldType) (jrm 4 0 0) sz Sh M [.ref w] (jT sz Sh (wT (wSJ w q pr jg) w q pr lw M (nWages LT d la K pa) (none))) := by
  refine jC_start (by decide +kernel) (Nat.le_of_ble_eq_true rfl) (fun X C E hN0 => ?_)
  refine j_iconst (v := nI 0) (q := 1) C dX9_payWages_0 rfl (by decide) ?_
  refine j_istore_n (lv' := [(1, _), (0, _)]) (q := 2) C dX9_payWages_1 rfl rfl (by decide) rfl ?_
  have loop2 : ∀ (n k : Nat) (Mk : jM), vK w q pr lw Mk = nWages LT d la K k → mEq (wSJ w q pr jg) M Mk → k + n = pa → jJ G X 0 0 sz Sh Mk 2 [(1, .int (nI k)), (0, .ref w)] [] := by
    intro n
    induction n with
    | zero =>
      intro k Mk hMk hE hk
      have eK : vK w q pr lw Mk = nWages LT d la K k := hMk
      obtain ⟨Kk, hKk⟩ : ∃ z, z = nWages LT d la K k := ⟨_, rfl⟩
      have hM : vK w q pr lw Mk = Kk := eK.trans hKk.symm
      have hOk : nOk Kk d pe pa la := hO.eq (hKk ▸ nWages_eq hO k (by omega))
      have hCk := hC.mv hE (fun b hb => wSJ_lt ⟨hC.2.2.2.2.2.1, hC.2.2.2.2.2.2.1, hC.2.2.2.2.2.2.2.1, hC.2.2.2.2.2.2.2.2.1⟩ hb)
      have hW := hCk.1
      have hpa : pa ≤ 24 := hO.2.2.1.2
      have hpe : pe ≤ 10 := hO.2.1.2
      have hSS : ∀ b, wS0 w q pr b → wSJ w q pr jg b := subJ
      refine j_iload_n (q := 3) C dX9_payWages_2 rfl rfl rfl ?_
      refine j_aload_n (q := 4) C dX9_payWages_3 rfl rfl rfl ?_
      refine wg_World_written hW hM (q' := 7) C dX9_payWages_4 rfl kw_207 ?_
      refine j_top (v' := .int (nI pa)) (congrArg Value.int (k32 hOk.2.2.1.1)) ?_
      refine j_icmp_ge (q := 10) (tgt := 110) C dX9_payWages_7 rfl (by decide) (fun c_7 => ?_) (fun c_7 => absurd (nI_le (by omega) (by omega)) c_7)
      obtain rfl : pa = k := by omega
      exact j_vret C E dX9_payWages_110 rfl rfl (wT_i rfl eK hE)
    | succ n ih =>
      intro k Mk hMk hE hk
      have eK : vK w q pr lw Mk = nWages LT d la K k := hMk
      obtain ⟨Kk, hKk⟩ : ∃ z, z = nWages LT d la K k := ⟨_, rfl⟩
      have hM : vK w q pr lw Mk = Kk := eK.trans hKk.symm
      have hOk : nOk Kk d pe pa la := hO.eq (hKk ▸ nWages_eq hO k (by omega))
      have hCk := hC.mv hE (fun b hb => wSJ_lt ⟨hC.2.2.2.2.2.1, hC.2.2.2.2.2.2.1, hC.2.2.2.2.2.2.2.1, hC.2.2.2.2.2.2.2.2.1⟩ hb)
      have hW := hCk.1
      have hpa : pa ≤ 24 := hO.2.2.1.2
      have hpe : pe ≤ 10 := hO.2.1.2
      have hSS : ∀ b, wS0 w q pr b → wSJ w q pr jg b := subJ
      refine j_iload_n (q := 3) C dX9_payWages_2 rfl rfl rfl ?_
      refine j_aload_n (q := 4) C dX9_payWages_3 rfl rfl rfl ?_
      refine wg_World_written hW hM (q' := 7) C dX9_payWages_4 rfl kw_207 ?_
      refine j_top (v' := .int (nI pa)) (congrArg Value.int (k32 hOk.2.2.1.1)) ?_
      refine j_icmp_ge (q := 10) (tgt := 110) C dX9_payWages_7 rfl (by decide) (fun c_7 => absurd c_7 (fun h => absurd ((nI_leI (by omega) (by omega)).mp h) (by omega))) (fun c_7 => ?_)
      refine j_aload_n (q := 11) C dX9_payWages_10 rfl rfl rfl ?_
      refine jg_World_papers (q := 14) C dX9_payWages_11 rfl hW.1.1 kw_195 hW.2.1.2.1 ?_
      refine j_iload_n (q := 15) C dX9_payWages_14 rfl rfl rfl ?_
      refine wa_pap hW (by omega) (q' := 16) C dX9_payWages_15 rfl ?_
      refine j_astore_n (lv' := [(2, _), (1, _), (0, _)]) (q := 17) C dX9_payWages_16 rfl rfl (by decide) rfl ?_
      refine j_aload_n (q := 18) C dX9_payWages_17 rfl rfl rfl ?_
      refine wg_Paper_kind (by omega) hW hM (q' := 21) C dX9_payWages_18 rfl kw_172 ?_
      refine j_top (v' := .int (nI (nv (Kk (110 + 7 * k + 0))))) (congrArg Value.int (k32 (hOk.2.2.2.2.1 k (by omega)).1.1)) ?_
      refine j_iconst (v := nI 4) (q := 22) C dX9_payWages_21 rfl (by decide) ?_
      refine j_icmp_ne (q := 25) (tgt := 104) C dX9_payWages_22 rfl (by decide) (fun c_22 => ?_) (fun c_22 => ?_)
      · 
        first | refine j_iincN (lv' := [(1, _), (2, _), (0, _)]) (q := 107) C dX9_payWages_104 rfl rfl (by decide) rfl ?_ | refine j_iinc (lv' := [(1, _), (2, _), (0, _)]) (q := 107) C dX9_payWages_104 rfl rfl rfl (by decide) rfl ?_
        refine j_goto (tgt := 2) C dX9_payWages_107 (by decide) ?_
        have hMf := hM
        exact j_fewer (lv' := [(1, .int (nI (k + 1))), (0, .ref w)]) (by simp) (ih (k + 1) _ (by rw [hMf, nWages, ← hKk, nWage, if_neg (fun h => c_22 (by rw [← k32 (hOk.2.2.2.2.1 k (by omega)).1.1, h.2]; decide))]) hE (by omega))
      · have eOp : Mk.1 (q + 12 + k) 6 = 0 ↔ Kk (110 + 7 * k + 6) = 0 := by rw [← hM, vK_qI (by omega) (by omega)]; exact (i64_eq _ 0).symm
        refine j_aload_n (q := 26) C dX9_payWages_25 rfl rfl rfl ?_
        refine jV1 jc5 (q := 29) C dX9_payWages_26 rfl (hW.1.2.2.2.2.2.2.2.2 _ (by omega)) mX5_isOpen kw_452 kw_366 kw_367 (ctX5_isOpen (hW.1.2.2.2.2.2.2.2.2 k (by omega))) rfl rfl (by decide) (Nat.le_of_ble_eq_true rfl) (by decide) ?_
        refine j_if_eq (q := 32) (tgt := 104) C dX9_payWages_29 rfl (by decide) (fun c_29 => ?_) (fun c_29 => ?_)
        · 
          first | refine j_iincN (lv' := [(1, _), (2, _), (0, _)]) (q := 107) C dX9_payWages_104 rfl rfl (by decide) rfl ?_ | refine j_iinc (lv' := [(1, _), (2, _), (0, _)]) (q := 107) C dX9_payWages_104 rfl rfl rfl (by decide) rfl ?_
          refine j_goto (tgt := 2) C dX9_payWages_107 (by decide) ?_
          have hMf := hM
          exact j_fewer (lv' := [(1, .int (nI (k + 1))), (0, .ref w)]) (by simp) (ih (k + 1) _ (by rw [hMf, nWages, ← hKk, nWage, if_neg (fun h => jb_0.mp c_29 (eOp.mpr h.1))]) hE (by omega))
        · refine j_aload_n (q := 33) C dX9_payWages_32 rfl rfl rfl ?_
          refine j_aload_n (q := 34) C dX9_payWages_33 rfl rfl rfl ?_
          refine wg_Paper_to (by omega) hW hM (q' := 37) C dX9_payWages_34 rfl kw_178 ?_
          refine j_top (v' := .int (nI (nv (Kk (110 + 7 * k + 2))))) (congrArg Value.int (k32 (hOk.2.2.2.2.1 k (by omega)).2.2.1.1.1)) ?_
          refine jV1 jc9 (q := 40) C dX9_payWages_37 rfl hW.1.1 mX9_hasPerson kw_425 kw_301 kw_302 (ctX9_hasPerson hW hM hOk.2.1.1) rfl rfl (by decide) (Nat.le_of_ble_eq_true rfl) (by decide) ?_
          refine j_if_eq (q := 43) (tgt := 104) C dX9_payWages_40 rfl (by decide) (fun c_40 => absurd c_40 (jbP_t (hOk.2.2.2.2.1 k (by omega)).2.2.1.2 (by omega))) (fun c_40 => ?_)
          refine j_aload_n (q := 44) C dX9_payWages_43 rfl rfl rfl ?_
          refine jg_World_judge (q := 47) C dX9_payWages_44 rfl hW.1.1 kw_201 hW.2.1.2.2.2.2.1 ?_
          refine j_aload_n (q := 48) C dX9_payWages_47 rfl rfl rfl ?_
          refine j_aload_n (q := 49) C dX9_payWages_48 rfl rfl rfl ?_
          refine j_iconst (v := nI 0) (q := 50) C dX9_payWages_49 rfl (by decide) ?_
          refine jVT jc2 (q := 53) C dX9_payWages_50 rfl hCk.2.1.1 mX2_rule kw_621 kw_374 kw_375 (ctX2_rule hW hM hCk.2.1 hCk.2.2.2.2.1.1 hOk.1.1 hOk.1.2 (fun z hz => (hOk.2.2.2.2.2 z hz).1) (by omega) (hOk.2.2.2.2.1 k (by omega)).2.2.2.1.1.1 (hOk.2.2.2.2.1 k (by omega)).2.2.2.1.2 (hOk.2.2.2.2.1 k (by omega)).1.1 (hOk.2.2.2.2.1 k (by omega)).1.2 hCk.2.2.1 hOk.2.2.2.1.1 hOk.2.2.2.1.2 hCk.2.2.2.1 hCk.2.2.2.2.2.2.2.2.1) rfl rfl (by decide) (Nat.le_of_ble_eq_true rfl) (by decide) (fun r_50 M_50 h_50 => ?_)
          obtain ⟨rfl, A_50, P_50, eM⟩ := h_50
          have hE2 : mEq (wSJ w q pr jg) Mk M_50 := by rw [eM]; exact (mEq.rf.w (Or.inr (Or.inl rfl))).w (Or.inr (Or.inr rfl))
          have hM2 : vK w q pr lw M_50 = Kk := by rw [eM, vK_w hCk.2.2.2.2.1.2, vK_w hCk.2.2.2.2.1.1]; exact hM
          clear hM
          replace hE := hE.tr hE2
          replace hW := hW.mv hE2
          have hM := hM2
          rw [i0]
          refine j_lstore_n (lv' := [(3, _), (2, _), (1, _), (0, _)]) (q := 54) C dX9_payWages_53 rfl rfl (by decide) rfl ?_
          refine j_lconst (v := 0) (q := 55) C dX9_payWages_54 rfl (by decide) ?_
          refine j_lload_n (q := 56) C dX9_payWages_55 rfl rfl rfl ?_
          refine j_aload_n (q := 57) C dX9_payWages_56 rfl rfl rfl ?_
          refine wg_World_state hW hM (q' := 60) C dX9_payWages_57 rfl kw_214 ?_
          refine j_lsub (q := 61) C dX9_payWages_60 rfl ?_
          refine j_lmax (q := 64) C dX9_payWages_61 rfl kw_622 (by decide) (Nat.le_of_ble_eq_true rfl) (by decide) ?_
          refine j_lstore (lv' := [(5, _), (3, _), (2, _), (1, _), (0, _)]) (q := 66) C dX9_payWages_64 rfl (by decide) rfl ?_
          refine j_aload_n (q := 67) C dX9_payWages_66 rfl rfl rfl ?_
          refine j_dup (q := 68) C dX9_payWages_67 rfl rfl ?_
          refine wg_World_printed hW hM (q' := 71) C dX9_payWages_68 rfl kw_217 ?_
          refine j_lload (q := 73) C dX9_payWages_71 rfl rfl ?_
          refine j_ladd (q := 74) C dX9_payWages_73 rfl ?_
          refine wp_World_printed hW hM hE hSS (q' := 77) C dX9_payWages_74 rfl kw_217 (fun M hM hE hW => ?_)
          refine j_aload_n (q := 78) C dX9_payWages_77 rfl rfl rfl ?_
          refine j_dup (q := 79) C dX9_payWages_78 rfl rfl ?_
          refine wg_World_state hW hM (q' := 82) C dX9_payWages_79 rfl kw_214 ?_
          refine j_lload_n (q := 83) C dX9_payWages_82 rfl rfl rfl ?_
          refine j_lload (q := 85) C dX9_payWages_83 rfl rfl ?_
          refine j_lsub (q := 86) C dX9_payWages_85 rfl ?_
          refine j_lsub (q := 87) C dX9_payWages_86 rfl ?_
          refine wp_World_state hW hM hE hSS (q' := 90) C dX9_payWages_87 rfl kw_214 (fun M hM hE hW => ?_)
          refine j_aload_n (q := 91) C dX9_payWages_90 rfl rfl rfl ?_
          refine j_aload_n (q := 92) C dX9_payWages_91 rfl rfl rfl ?_
          refine jg_World_persons (q := 95) C dX9_payWages_92 rfl hW.1.1 kw_191 hW.2.1.1 ?_
          refine j_aload_n (q := 96) C dX9_payWages_95 rfl rfl rfl ?_
          refine wg_Paper_to (by omega) hW hM (q' := 99) C dX9_payWages_96 rfl kw_178 ?_
          refine j_top (v' := .int (nI (nv (Kk (110 + 7 * k + 2))))) (congrArg Value.int (k32 ((va_up_ne _ _ (by omega)).trans ((va_up_ne _ _ (by omega)).trans (hOk.2.2.2.2.1 k (by omega)).2.2.1.1.1)))) ?_
          refine wa_pers hW (by have := (hOk.2.2.2.2.1 k (by omega)).2.2.1.2; omega) (q' := 100) C dX9_payWages_99 rfl ?_
          refine j_lload_n (q := 101) C dX9_payWages_100 rfl rfl rfl ?_
          refine jVT jc9 (q := 104) C dX9_payWages_101 rfl hW.1.1 mX9_credit kw_426 kw_427 kw_428 (ctX9_credit hW hM (by have := (hOk.2.2.2.2.1 k (by omega)).2.2.1.2; omega)) rfl rfl (by decide) (Nat.le_of_ble_eq_true rfl) (by decide) (fun r_101 M_101 h_101 => ?_)
          obtain ⟨rfl, hM3, hE3⟩ := h_101
          clear hM
          have hM := hM3
          replace hE := hE.tr (hE3.mono hSS)
          replace hW := hW.mv hE3
          
          first | refine j_iincN (lv' := [(1, _), (5, _), (3, _), (2, _), (0, _)]) (q := 107) C dX9_payWages_104 rfl rfl (by decide) rfl ?_ | refine j_iinc (lv' := [(1, _), (5, _), (3, _), (2, _), (0, _)]) (q := 107) C dX9_payWages_104 rfl rfl rfl (by decide) rfl ?_
          refine j_goto (tgt := 2) C dX9_payWages_107 (by decide) ?_
          have hMf := hM
          exact j_fewer (lv' := [(1, .int (nI (k + 1))), (0, .ref w)]) (by simp) (ih (k + 1) _ (by rw [hMf, nWages, ← hKk, nWage, if_pos ⟨eOp.mp (jb_n.mp c_29), (show Kk (110 + 7 * k + 0) = 4 from by rw [(hOk.2.2.2.2.1 k (by omega)).1.1, (nI_eq (by have := (hOk.2.2.2.2.1 k (by omega)).1.2; omega) (by omega)).mp c_22]; rfl)⟩]; show nGets _ _ _ = nGets _ _ _; rw [subsub]; rfl) hE (by omega))
  exact loop2 pa 0 M hM mEq.rf (by omega)

