abbrev nv (x : Int64) : Nat := x.toNatClampNeg
theorem nv_lN {n : Nat} (h : n < 2 ^ 63) : nv (lN n) = n := by rw [show nv (lN n) = (lN n).toInt.toNat from rfl, lN_toI h]; rfl
abbrev sT : Type := List Nat × List Nat × List Nat
def tOk (c : Nat → Int32) (b : Nat) (t : sT) : Prop := wfT t.1 0 ∧ wfT t.2.1 0 ∧ wfT t.2.2 0 ∧ cAt c b (t.1 ++ 3000000 :: (t.2.1 ++ 3000000 :: (t.2.2 ++ 3000000 :: []))) ∧ t.1.length + t.2.1.length + t.2.2.length + 3 ≤ 168
def tCl (t : sT) (kd : Nat) : List Nat := if kd = 1 then t.1 else if kd = 3 then t.2.1 else t.2.2
theorem tCl_1 {t : sT} {kd : Nat} (h : kd = 1) : tCl t kd = t.1 := if_pos h
theorem tCl_3 {t : sT} {kd : Nat} (h : kd = 3) : tCl t kd = t.2.1 := by rw [tCl, if_neg (by omega), if_pos h]
theorem tCl_4 {t : sT} {kd : Nat} (h : ¬ kd = 1) (h3 : ¬ kd = 3) : tCl t kd = t.2.2 := by rw [tCl, if_neg h, if_neg h3]
def nOwedK (LT : Nat → sT) (N : Nat → Int64) (d la j kd s : Nat) (c : Int64) : Int64 := if kd = 0 ∨ kd = 5 then N (110 + 7 * j + 3) else if kd = 2 then (if N (110 + 7 * j + 3) ≤ 1000000000000000 / N (310 + d) then N (110 + 7 * j + 3) * N (310 + d) else 1000000000000000) else if 0 ≤ nLaw N c (lN d) la then lmx 0 (lmn 1000000000000000 (eVal (nName N d j s) (tCl (LT (nLaw N c (lN d) la).toNatClampNeg) kd))) else N (110 + 7 * j + 3)
theorem nLaw_ge {N : Nat → Int64} {c d : Int64} {la : Nat} (h : la ≤ 12) (h0 : 0 ≤ nLaw N c d la) : ∃ l, l < la ∧ nLaw N c d la = nI l := by
  induction la with
  | zero => exact absurd h0 (by rw [nLaw]; decide)
  | succ k ih =>
    rw [nLaw] at h0 ⊢
    by_cases hc : N (278 + 2 * k) = c ∧ N (278 + 2 * k + 1) ≤ d
    · rw [if_pos hc]; exact ⟨k, by omega, rfl⟩
    · rw [if_neg hc] at h0 ⊢
      obtain ⟨l, h1, h2⟩ := ih (by omega) h0
      exact ⟨l, by omega, h2⟩
/-- an end at which the pile may be another -/
def rT (o : Nat) (M : jM) (N : Nat → Int64) (v : Option Value) : Option Value → jM → Prop := fun r M2 => ∃ P, r = v ∧ M2 = jw (jw M (o + 11) P) (o + 1) N
theorem rT_i {o : Nat} {M : jM} {N : Nat → Int64} {r v : Option Value} {sz : Nat} {Sh : jS} (h : r = v) : jT sz Sh (rT o M N v) r sz Sh (jw M (o + 1) N) := ⟨rfl, rfl, M.2.1 (o + 11), h, by rw [jw_self]⟩
theorem rT_p {o : Nat} {M : jM} {N : Nat → Int64} {r v : Option Value} {P : Nat → Int64} {sz : Nat} {Sh : jS} (h : r = v) : jT sz Sh (rT o M N v) r sz Sh (jw (jw M (o + 11) P) (o + 1) N) := ⟨rfl, rfl, P, h, rfl⟩
set_option maxRecDepth 100000 in
set_option maxHeartbeats 4000000 in
theorem ctX11_owedOf {G : jG} {sz : Nat} {Sh : jS} {M : jM} {o : Nat} {N : Nat → Int64} (hR : rLay o Sh M) {d : Nat} (hd : N 0 = lN d) (hd3 : d ≤ 300) {la : Nat} (h6 : N 6 = lN la) (hla : la ≤ 12) {LT : Nat → sT} (hL : ∀ l, l < la → tOk (M.1 (o + 4)) (168 * (5 + l)) (LT l)) {j kd s : Nat} (hj : j < 24) (hk : N (110 + 7 * j + 0) = lN kd) (hk5 : kd ≤ 5) (hs : N (110 + 7 * j + 4) = lN s) (hs1 : s ≤ 300) (hp0 : ¬ N (310 + d) = 0) {c : Int32} : jC G yX11_owedOf cX11_owedOf 9 (Option.some FieldType.long) (jrm 4 0 0) sz Sh (jw M (o + 1) N) [.ref o, .int (nI j), .int c] (jT sz Sh (rT o M N (some (.long (nOwedK LT N d la j kd s c.toInt64))))) := by
  refine jC_start (by decide +kernel) (Nat.le_of_ble_eq_true rfl) (fun X C E hN0 => ?_)
  refine j_aload_n (q := 1) C dX11_owedOf_0 rfl rfl rfl ?_
  refine jg_Model_now (q := 4) C dX11_owedOf_1 rfl hR.1.1 kw_869 hR.2.1 ?_
  refine j_iload_n (q := 5) C dX11_owedOf_4 rfl rfl rfl ?_
  refine j_iconst (v := nI 0) (q := 6) C dX11_owedOf_5 rfl (by decide) ?_
  refine jS1 (q := 9) C dX11_owedOf_6 rfl mX11_ofPaper kw_937 kw_938 (ctX11_ofPaper) rfl rfl (by decide) (Nat.le_of_ble_eq_true rfl) (by decide) ?_
  refine j_laldW (q := 10) C dX11_owedOf_9 rfl hR.1.2.1 (by omega) (by decide) ?_
  rw [hk]
  first | refine j_l2iN (q := 11) C dX11_owedOf_10 rfl ?_ | refine j_l2i (q := 11) C dX11_owedOf_10 rfl rfl ?_
  refine j_istore_n (lv' := [(3, _), (0, _), (1, _), (2, _)]) (q := 12) C dX11_owedOf_11 rfl rfl (by decide) rfl ?_
  refine j_aload_n (q := 13) C dX11_owedOf_12 rfl rfl rfl ?_
  refine jg_Model_now (q := 16) C dX11_owedOf_13 rfl hR.1.1 kw_869 hR.2.1 ?_
  refine j_iload_n (q := 17) C dX11_owedOf_16 rfl rfl rfl ?_
  refine j_iconst (v := nI 3) (q := 18) C dX11_owedOf_17 rfl (by decide) ?_
  refine jS1 (q := 21) C dX11_owedOf_18 rfl mX11_ofPaper kw_937 kw_938 (ctX11_ofPaper) rfl rfl (by decide) (Nat.le_of_ble_eq_true rfl) (by decide) ?_
  refine j_laldW (q := 22) C dX11_owedOf_21 rfl hR.1.2.1 (by omega) (by decide) ?_
  refine j_lstore (lv' := [(4, _), (3, _), (0, _), (1, _), (2, _)]) (q := 24) C dX11_owedOf_22 rfl (by decide) rfl ?_
  refine j_iload_n (q := 25) C dX11_owedOf_24 rfl rfl rfl ?_
  refine j_if_eq (q := 28) (tgt := 33) C dX11_owedOf_25 rfl (by decide) (fun c_25 => ?_) (fun c_25 => ?_)
  · refine j_lload (q := 35) C dX11_owedOf_33 rfl rfl ?_
    exact j_lret C E dX11_owedOf_35 rfl rfl (rT_i (by rw [nOwedK, if_pos (Or.inl ((nI_eq (b := 0) (by omega) (by omega)).mp c_25))]))
  · refine j_iload_n (q := 29) C dX11_owedOf_28 rfl rfl rfl ?_
    refine j_iconst (v := nI 5) (q := 30) C dX11_owedOf_29 rfl (by decide) ?_
    refine j_icmp_ne (q := 33) (tgt := 36) C dX11_owedOf_30 rfl (by decide) (fun c_30 => ?_) (fun c_30 => ?_)
    · have n05 : ¬ (kd = 0 ∨ kd = 5) := fun h => h.elim (fun h => c_25 (by rw [h]; decide)) (fun h => c_30 (by rw [h]))
      refine j_iload_n (q := 37) C dX11_owedOf_36 rfl rfl rfl ?_
      refine j_iconst (v := nI 2) (q := 38) C dX11_owedOf_37 rfl (by decide) ?_
      refine j_icmp_ne (q := 41) (tgt := 75) C dX11_owedOf_38 rfl (by decide) (fun c_38 => ?_) (fun c_38 => ?_)
      · have n2 : ¬ kd = 2 := fun h => c_38 (by rw [h])
        refine j_aload_n (q := 76) C dX11_owedOf_75 rfl rfl rfl ?_
        refine j_iload_n (q := 77) C dX11_owedOf_76 rfl rfl rfl ?_
        refine j_aload_n (q := 78) C dX11_owedOf_77 rfl rfl rfl ?_
        refine jV1 jc11 (q := 81) C dX11_owedOf_78 rfl hR.1.1 mX11_today kw_965 kw_966 kw_33 (ctX11_today hR hd) rfl rfl (by decide) (Nat.le_of_ble_eq_true rfl) (by decide) ?_
        refine jV1 jc11 (q := 84) C dX11_owedOf_81 rfl hR.1.1 mX11_lawOn kw_971 kw_972 kw_35 (ctX11_lawOn hR h6 hla) rfl rfl (by decide) (Nat.le_of_ble_eq_true rfl) (by decide) ?_
        refine j_istore (lv' := [(6, _), (4, _), (3, _), (0, _), (1, _), (2, _)]) (q := 86) C dX11_owedOf_84 rfl (by decide) rfl ?_
        rw [nI_l (by omega : d < 2 ^ 31)]
        refine j_iload (q := 88) C dX11_owedOf_86 rfl rfl ?_
        refine j_if_ge (q := 91) (tgt := 94) C dX11_owedOf_88 rfl (by decide) (fun c_88 => ?_) (fun c_88 => ?_)
        · obtain ⟨l, hl, el⟩ := nLaw_ge hla c_88
          rw [el]
          refine j_aload_n (q := 95) C dX11_owedOf_94 rfl rfl rfl ?_
          refine j_sipush (v := nI 168) (q := 98) C dX11_owedOf_95 rfl (by decide) ?_
          refine j_iconst (v := nI 5) (q := 99) C dX11_owedOf_98 rfl (by decide) ?_
          refine j_iload (q := 101) C dX11_owedOf_99 rfl rfl ?_
          first | refine j_iaddN (q := 102) C dX11_owedOf_101 rfl ?_ | refine j_iadd (q := 102) C dX11_owedOf_101 rfl ?_
          first | refine j_imulN (q := 103) C dX11_owedOf_102 rfl ?_ | refine j_imul (q := 103) C dX11_owedOf_102 rfl ?_
          refine j_iload_n (q := 104) C dX11_owedOf_103 rfl rfl rfl ?_
          refine j_iconst (v := nI 1) (q := 105) C dX11_owedOf_104 rfl (by decide) ?_
          refine j_icmp_ne (q := 108) (tgt := 112) C dX11_owedOf_105 rfl (by decide) (fun c_105 => ?_) (fun c_105 => ?_)
          · refine j_iload_n (q := 113) C dX11_owedOf_112 rfl rfl rfl ?_
            refine j_iconst (v := nI 3) (q := 114) C dX11_owedOf_113 rfl (by decide) ?_
            refine j_icmp_ne (q := 117) (tgt := 121) C dX11_owedOf_114 rfl (by decide) (fun c_114 => ?_) (fun c_114 => ?_)
            · refine j_iconst (v := nI 2) (q := 122) C dX11_owedOf_121 rfl (by decide) ?_
              
              refine j_iload_n (q := 123) C dX11_owedOf_122 rfl rfl rfl ?_
              refine jVT jc11 (q := 126) C dX11_owedOf_123 rfl hR.1.1 mX11_worked kw_974 kw_975 kw_36 (ctX11_worked (b := 168 * (5 + l)) (c1 := 2) hR hd hd3 hj hs hs1 (by omega) (hL l hl).1 (hL l hl).2.1 (hL l hl).2.2.1 (hL l hl).2.2.2.1 (by have := (hL l hl).2.2.2.2; omega) (V := eVal (nName N d j s) (tCl (LT l) kd)) (show (eRun _ (LT l).2.2 _).1 0 = _ from (eVal_of _ (hL l hl).2.2.1).trans (congrArg (eVal _) (tCl_4 (fun h => c_105 (by rw [h])) (fun h => c_114 (by rw [h]))).symm))) rfl rfl (by decide) (Nat.le_of_ble_eq_true rfl) (by decide) (fun r_123 M_123 h_123 => ?_)
              obtain ⟨P, rfl, rfl⟩ := h_123
              refine j_lstore (lv' := [(7, _), (6, _), (4, _), (3, _), (0, _), (1, _), (2, _)]) (q := 128) C dX11_owedOf_126 rfl (by decide) rfl ?_
              refine j_lconst (v := 0) (q := 129) C dX11_owedOf_128 rfl (by decide) ?_
              refine j_ldc2 (q := 132) C dX11_owedOf_129 rfl kw_897 ?_
              refine j_lload (q := 134) C dX11_owedOf_132 rfl rfl ?_
              refine j_lmin (q := 137) C dX11_owedOf_134 rfl kw_988 (by decide) (Nat.le_of_ble_eq_true rfl) (by decide) ?_
              refine j_lmax (q := 140) C dX11_owedOf_137 rfl kw_989 (by decide) (Nat.le_of_ble_eq_true rfl) (by decide) ?_
              exact j_lret C E dX11_owedOf_140 rfl rfl (rT_p (by rw [nOwedK, if_neg n05, if_neg n2, if_pos c_88, el, nI_clamp (by omega)]))
            · refine j_iconst (v := nI 1) (q := 118) C dX11_owedOf_117 rfl (by decide) ?_
              refine j_goto (tgt := 122) C dX11_owedOf_118 (by decide) ?_
              
              refine j_iload_n (q := 123) C dX11_owedOf_122 rfl rfl rfl ?_
              refine jVT jc11 (q := 126) C dX11_owedOf_123 rfl hR.1.1 mX11_worked kw_974 kw_975 kw_36 (ctX11_worked (b := 168 * (5 + l)) (c1 := 1) hR hd hd3 hj hs hs1 (by omega) (hL l hl).1 (hL l hl).2.1 (hL l hl).2.2.1 (hL l hl).2.2.2.1 (by have := (hL l hl).2.2.2.2; omega) (V := eVal (nName N d j s) (tCl (LT l) kd)) (show (eRun _ (LT l).2.1 _).1 0 = _ from (eVal_of _ (hL l hl).2.1).trans (congrArg (eVal _) (tCl_3 ((nI_eq (by omega) (by omega)).mp c_114)).symm))) rfl rfl (by decide) (Nat.le_of_ble_eq_true rfl) (by decide) (fun r_123 M_123 h_123 => ?_)
              obtain ⟨P, rfl, rfl⟩ := h_123
              refine j_lstore (lv' := [(7, _), (6, _), (4, _), (3, _), (0, _), (1, _), (2, _)]) (q := 128) C dX11_owedOf_126 rfl (by decide) rfl ?_
              refine j_lconst (v := 0) (q := 129) C dX11_owedOf_128 rfl (by decide) ?_
              refine j_ldc2 (q := 132) C dX11_owedOf_129 rfl kw_897 ?_
              refine j_lload (q := 134) C dX11_owedOf_132 rfl rfl ?_
              refine j_lmin (q := 137) C dX11_owedOf_134 rfl kw_988 (by decide) (Nat.le_of_ble_eq_true rfl) (by decide) ?_
              refine j_lmax (q := 140) C dX11_owedOf_137 rfl kw_989 (by decide) (Nat.le_of_ble_eq_true rfl) (by decide) ?_
              exact j_lret C E dX11_owedOf_140 rfl rfl (rT_p (by rw [nOwedK, if_neg n05, if_neg n2, if_pos c_88, el, nI_clamp (by omega)]))
          · refine j_iconst (v := nI 0) (q := 109) C dX11_owedOf_108 rfl (by decide) ?_
            refine j_goto (tgt := 122) C dX11_owedOf_109 (by decide) ?_
            
            refine j_iload_n (q := 123) C dX11_owedOf_122 rfl rfl rfl ?_
            refine jVT jc11 (q := 126) C dX11_owedOf_123 rfl hR.1.1 mX11_worked kw_974 kw_975 kw_36 (ctX11_worked (b := 168 * (5 + l)) (c1 := 0) hR hd hd3 hj hs hs1 (by omega) (hL l hl).1 (hL l hl).2.1 (hL l hl).2.2.1 (hL l hl).2.2.2.1 (by have := (hL l hl).2.2.2.2; omega) (V := eVal (nName N d j s) (tCl (LT l) kd)) (show (eRun _ (LT l).1 _).1 0 = _ from (eVal_of _ (hL l hl).1).trans (congrArg (eVal _) (tCl_1 ((nI_eq (by omega) (by omega)).mp c_105)).symm))) rfl rfl (by decide) (Nat.le_of_ble_eq_true rfl) (by decide) (fun r_123 M_123 h_123 => ?_)
            obtain ⟨P, rfl, rfl⟩ := h_123
            refine j_lstore (lv' := [(7, _), (6, _), (4, _), (3, _), (0, _), (1, _), (2, _)]) (q := 128) C dX11_owedOf_126 rfl (by decide) rfl ?_
            refine j_lconst (v := 0) (q := 129) C dX11_owedOf_128 rfl (by decide) ?_
            refine j_ldc2 (q := 132) C dX11_owedOf_129 rfl kw_897 ?_
            refine j_lload (q := 134) C dX11_owedOf_132 rfl rfl ?_
            refine j_lmin (q := 137) C dX11_owedOf_134 rfl kw_988 (by decide) (Nat.le_of_ble_eq_true rfl) (by decide) ?_
            refine j_lmax (q := 140) C dX11_owedOf_137 rfl kw_989 (by decide) (Nat.le_of_ble_eq_true rfl) (by decide) ?_
            exact j_lret C E dX11_owedOf_140 rfl rfl (rT_p (by rw [nOwedK, if_neg n05, if_neg n2, if_pos c_88, el, nI_clamp (by omega)]))
        · refine j_lload (q := 93) C dX11_owedOf_91 rfl rfl ?_
          exact j_lret C E dX11_owedOf_93 rfl rfl (rT_i (by rw [nOwedK, if_neg n05, if_neg n2, if_neg c_88]))
      · refine j_aload_n (q := 42) C dX11_owedOf_41 rfl rfl rfl ?_
        refine j_aload_n (q := 43) C dX11_owedOf_42 rfl rfl rfl ?_
        refine jV1 jc11 (q := 46) C dX11_owedOf_43 rfl hR.1.1 mX11_today kw_965 kw_966 kw_33 (ctX11_today hR hd) rfl rfl (by decide) (Nat.le_of_ble_eq_true rfl) (by decide) ?_
        refine jV1 jc11 (q := 49) C dX11_owedOf_46 rfl hR.1.1 mX11_priceOf kw_968 kw_969 kw_34 (ctX11_priceOf hR (by omega)) rfl rfl (by decide) (Nat.le_of_ble_eq_true rfl) (by decide) ?_
        refine j_lstore (lv' := [(6, _), (4, _), (3, _), (0, _), (1, _), (2, _)]) (q := 51) C dX11_owedOf_49 rfl (by decide) rfl ?_
        refine j_lload (q := 53) C dX11_owedOf_51 rfl rfl ?_
        refine j_ldc2 (q := 56) C dX11_owedOf_53 rfl kw_897 ?_
        refine j_lload (q := 58) C dX11_owedOf_56 rfl rfl ?_
        refine j_ldiv (q := 59) C dX11_owedOf_58 rfl hp0 ?_
        refine j_lcmp_le (q1 := 60) (q := 63) (tgt := 69) C dX11_owedOf_59 dX11_owedOf_60 rfl rfl (by decide) (fun c_60 => ?_) (fun c_60 => ?_)
        · refine j_lload (q := 71) C dX11_owedOf_69 rfl rfl ?_
          refine j_lload (q := 73) C dX11_owedOf_71 rfl rfl ?_
          refine j_lmul (q := 74) C dX11_owedOf_73 rfl ?_
          exact j_lret C E dX11_owedOf_74 rfl rfl (rT_i (by rw [nOwedK, if_neg n05, if_pos ((nI_eq (by omega) (by omega)).mp c_38), if_pos c_60]))
        · refine j_ldc2 (q := 66) C dX11_owedOf_63 rfl kw_897 ?_
          refine j_goto (tgt := 74) C dX11_owedOf_66 (by decide) ?_
          exact j_lret C E dX11_owedOf_74 rfl rfl (rT_i (by rw [nOwedK, if_neg n05, if_pos ((nI_eq (by omega) (by omega)).mp c_38), if_neg c_60]))
    · refine j_lload (q := 35) C dX11_owedOf_33 rfl rfl ?_
      exact j_lret C E dX11_owedOf_35 rfl rfl (rT_i (by rw [nOwedK, if_pos (Or.inr ((nI_eq (by omega) (by omega)).mp c_30))]))

