theorem tk_dig {T : Nat → Nat} {n x : Nat} (h : (tk T n x).1 = 2) : ∀ i, i < tt T n x - fr T n x → isDg (T (fr T n x + i)) = true := by
  intro i hi
  unfold tk at h
  by_cases c0 : fr T n x = n
  · rw [if_pos c0] at h; exact absurd h (by decide)
  rw [if_neg c0] at h
  by_cases c1 : isLt (T (fr T n x)) = true
  · rw [if_pos c1] at h
    split at h <;> exact absurd h (by simp)
  rw [if_neg c1] at h
  by_cases c2 : isDg (T (fr T n x)) = true
  · have e : tt T n x = rn isDg T (n - fr T n x) (fr T n x) := by unfold tt; rw [if_neg c0, if_neg c1, if_pos c2]
    exact rn_all isDg T (n - fr T n x) (fr T n x) _ (by omega) (by rw [← e]; omega)
  · rw [if_neg c2] at h
    split at h <;> exact absurd h (by simp)
set_option maxRecDepth 100000 in
set_option maxHeartbeats 4000000 in
theorem ctX11_value_0 {G : jG} {sz : Nat} {Sh : jS} {M : jM} {o : Nat} {S : Nat → Prop} {T : Nat → Nat} {n : Nat} {M0 : jM} {P : List Nat} {q : pS} (hSo : S o) (hSc : S (o + 10)) (hI : pI n P q) (hS : rSt S o Sh T n M0 4 P M q) : jC G yX11_value cX11_value 3 (Option.none : Option FieldType) (jrm 12 0 0) sz Sh M [.ref o] (jT sz Sh (fun r M1 => r = none ∧ rSt S o Sh T n M0 4 P M1 (pVal T n (lvE T n 0).1 q))) := by
  refine jC_start (by decide +kernel) (Nat.le_of_ble_eq_true rfl) (fun X C E hN0 => ?_)
  have hs11 := (rSt_lay hS).1.1.1
  have hn160 : n ≤ 160 := (rSt_lay hS).2.2.1
  have hT := (rSt_lay hS).2.2.2.1
  have hS0 := hS
  obtain ⟨K, b, c, d, g, hQ, hG⟩ := hS0
  refine j_aload_n (q := 1) C dX11_value_0 rfl rfl rfl ?_
  refine j_bipush (v := nI 40) (q := 3) C dX11_value_1 rfl (by decide) ?_
  refine jV1 jc11 (q := 6) C dX11_value_3 rfl hs11 mX11_isSign kw_1120 kw_1121 kw_54 (ctX11_isSign hS hI.1 (s := 0) (by decide) rfl) rfl rfl (by decide) (Nat.le_of_ble_eq_true rfl) (by decide) ?_
  refine j_if_eq (q := 9) (tgt := 66) C dX11_value_6 rfl (by decide) (fun c_6 => ?_) (fun c_6 => ?_)
  · refine j_aload_n (q := 67) C dX11_value_66 rfl rfl rfl ?_
    refine qg_isFault hQ (q' := 70) C dX11_value_67 rfl kw_885 ?_
    refine j_if_eq (q := 73) (tgt := 74) C dX11_value_70 rfl (by decide) (fun c_70 => ?_) (fun c_70 => ?_)
    · have hq : q.1 = false := bf (jb_0.mp c_70)
      have hns : ¬ tk T n q.2.1 = (3, 0) := fun h => jb_0.mp c_6 ⟨hq, h⟩
      have hqb : ¬ q.1 = true := by rw [hq]; decide
      have hts := tk_sort (T := T) (n := n) (x := q.2.1)
      obtain ⟨rfl, rfl, hd, rfl, hK⟩ := hG hq
      refine j_aload_n (q := 75) C dX11_value_74 rfl rfl rfl ?_
      refine qg_sort hQ (q' := 78) C dX11_value_75 rfl kw_883 ?_
      refine j_iconst (v := nI 2) (q := 79) C dX11_value_78 rfl (by decide) ?_
      refine j_icmp_ne (q := 82) (tgt := 126) C dX11_value_79 rfl (by decide) (fun c_79 => ?_) (fun c_79 => ?_)
      · refine j_aload_n (q := 127) C dX11_value_126 rfl rfl rfl ?_
        refine qg_sort hQ (q' := 130) C dX11_value_127 rfl kw_883 ?_
        refine j_iconst (v := nI 1) (q := 131) C dX11_value_130 rfl (by decide) ?_
        refine j_icmp_ne (q := 134) (tgt := 157) C dX11_value_131 rfl (by decide) (fun c_131 => ?_) (fun c_131 => ?_)
        · refine j_aload_n (q := 158) C dX11_value_157 rfl rfl rfl ?_
          refine j_iconst (v := nI 1) (q := 159) C dX11_value_158 rfl (by decide) ?_
          refine qp_isFault hSo hQ (by first | exact Or.inl rfl | exact Or.inr rfl) (q' := 162) C dX11_value_159 rfl kw_885 (fun M hQ => ?_)
          refine j_aload_n (q := 163) C dX11_value_162 rfl rfl rfl ?_
          refine j_iconst (v := nI 1) (q := 164) C dX11_value_163 rfl (by decide) ?_
          refine jVT jc11 (q := 167) C dX11_value_164 rfl hs11 mX11_need kw_1096 kw_1097 kw_46 (ctX11_need hSo (rSt_bad (P := P) (q := pBad q) rfl hQ) hI.1 (p := True) (jb_t trivial).symm) rfl rfl (by decide) (Nat.le_of_ble_eq_true rfl) (by decide) (fun r_164 M_164 h_164 => ?_)
          obtain ⟨rfl, hS7⟩ := h_164
          rw [if_pos (show (pBad q).1 = true from rfl)] at hS7
          exact j_vret C E dX11_value_167 rfl rfl (⟨rfl, rfl, rfl, by rw [show pVal T n (lvE T n 0).1 q = pBad q by unfold pVal; rw [if_neg hqb, if_neg hns, if_neg (fun h => c_79 (by rw [h])), if_neg (fun h => c_131 (by rw [h.1]))]]; exact hS7⟩)
        · have h1 : (tk T n q.2.1).1 = 1 := (nI_eq (by omega) (by omega)).mp c_131
          obtain rfl := hd h1
          have hw1 := wps_lt _ (hts.2.1 h1)
          have hw7 := wps7 _ (hts.2.1 h1)
          refine j_aload_n (q := 135) C dX11_value_134 rfl rfl rfl ?_
          refine qg_which hQ (q' := 138) C dX11_value_135 rfl kw_884 ?_
          refine j_bipush (v := nI 30) (q := 140) C dX11_value_138 rfl (by decide) ?_
          refine j_icmp_gt (q := 143) (tgt := 157) C dX11_value_140 rfl (by decide) (fun c_140 => ?_) (fun c_140 => ?_)
          · refine j_aload_n (q := 158) C dX11_value_157 rfl rfl rfl ?_
            refine j_iconst (v := nI 1) (q := 159) C dX11_value_158 rfl (by decide) ?_
            refine qp_isFault hSo hQ (by first | exact Or.inl rfl | exact Or.inr rfl) (q' := 162) C dX11_value_159 rfl kw_885 (fun M hQ => ?_)
            refine j_aload_n (q := 163) C dX11_value_162 rfl rfl rfl ?_
            refine j_iconst (v := nI 1) (q := 164) C dX11_value_163 rfl (by decide) ?_
            refine jVT jc11 (q := 167) C dX11_value_164 rfl hs11 mX11_need kw_1096 kw_1097 kw_46 (ctX11_need hSo (rSt_bad (P := P) (q := pBad q) rfl hQ) hI.1 (p := True) (jb_t trivial).symm) rfl rfl (by decide) (Nat.le_of_ble_eq_true rfl) (by decide) (fun r_164 M_164 h_164 => ?_)
            obtain ⟨rfl, hS7⟩ := h_164
            rw [if_pos (show (pBad q).1 = true from rfl)] at hS7
            exact j_vret C E dX11_value_167 rfl rfl (⟨rfl, rfl, rfl, by rw [show pVal T n (lvE T n 0).1 q = pBad q by unfold pVal; rw [if_neg hqb, if_neg hns, if_neg (fun h => c_79 (by rw [h])), if_neg (fun h => absurd ((nI_ltI (by omega) (by omega)).mp c_140) (by have := hw7.mpr h.2; omega))]]; exact hS7⟩)
          · refine j_aload_n (q := 144) C dX11_value_143 rfl rfl rfl ?_
            refine j_ldc (q := 146) C dX11_value_144 rfl kw_979 ?_
            refine j_aload_n (q := 147) C dX11_value_146 rfl rfl rfl ?_
            refine qg_which hQ (q' := 150) C dX11_value_147 rfl kw_884 ?_
            first | refine j_iaddN (q := 151) C dX11_value_150 rfl ?_ | refine j_iadd (q := 151) C dX11_value_150 rfl ?_
            refine j_top (v' := .int (nI (1000000 + wps.getD (tk T n q.2.1).2 0))) (by rfl) ?_
            refine jVT jc11 (q := 154) C dX11_value_151 rfl hs11 mX11_codes kw_1108 kw_1109 kw_50 (ctX11_codes hSo hSc hS (pI_l hn160 hI) (k := 1000000 + wps.getD (tk T n q.2.1).2 0)) rfl rfl (by decide) (Nat.le_of_ble_eq_true rfl) (by decide) (fun r_151 M_151 h_151 => ?_)
            obtain ⟨rfl, hS6⟩ := h_151
            refine j_goto (tgt := 162) C dX11_value_154 (by decide) ?_
            refine j_aload_n (q := 163) C dX11_value_162 rfl rfl rfl ?_
            refine j_iconst (v := nI 1) (q := 164) C dX11_value_163 rfl (by decide) ?_
            refine jVT jc11 (q := 167) C dX11_value_164 rfl hs11 mX11_need kw_1096 kw_1097 kw_46 (ctX11_need hSo hS6 (by rw [pEm_f hq]; exact hI.1) (p := True) (jb_t trivial).symm) rfl rfl (by decide) (Nat.le_of_ble_eq_true rfl) (by decide) (fun r_164 M_164 h_164 => ?_)
            obtain ⟨rfl, hS7⟩ := h_164
            rw [if_neg (by rw [pEm_f hq]; exact Bool.false_ne_true), if_pos trivial] at hS7
            exact j_vret C E dX11_value_167 rfl rfl (⟨rfl, rfl, rfl, by rw [show pVal T n (lvE T n 0).1 q = pNx T n (pEm (1000000 + wps.getD (tk T n q.2.1).2 0) q) by unfold pVal; rw [if_neg hqb, if_neg hns, if_neg (fun h => c_79 (by rw [h])), if_pos ⟨h1, hw7.mp (Nat.le_of_not_lt (fun h => c_140 (nI_lt (by omega) (by omega))))⟩]]; exact hS7⟩)
      · have h2 : (tk T n q.2.1).1 = 2 := (nI_eq (by omega) (by omega)).mp c_79
        refine j_iconst (v := nI 0) (q := 83) C dX11_value_82 rfl (by decide) ?_
        refine j_istore_n (lv' := [(1, _), (0, _)]) (q := 84) C dX11_value_83 rfl rfl (by decide) rfl ?_
        refine j_aload_n (q := 85) C dX11_value_84 rfl rfl rfl ?_
        refine qg_from hQ (q' := 88) C dX11_value_85 rfl kw_881 ?_
        refine j_istore_n (lv' := [(2, _), (1, _), (0, _)]) (q := 89) C dX11_value_88 rfl rfl (by decide) rfl ?_
        have hx1 := tt_le (T := T) hI.1
        have hdg : ∀ i, i < tt T n q.2.1 - fr T n q.2.1 → isDg (T (fr T n q.2.1 + i)) = true := tk_dig h2
        have j118 : jJ G X 0 0 sz Sh M 118 [(1, .int (nI (nm T (fr T n q.2.1) (tt T n q.2.1 - fr T n q.2.1)))), (0, .ref o)] [] := by
          refine j_aload_n (q := 119) C dX11_value_118 rfl rfl rfl ?_
          refine j_iload_n (q := 120) C dX11_value_119 rfl rfl rfl ?_
          refine jVT jc11 (q := 123) C dX11_value_120 rfl hs11 mX11_codes kw_1108 kw_1109 kw_50 (ctX11_codes hSo hSc hS (pI_l hn160 hI) (k := nm T (fr T n q.2.1) (tt T n q.2.1 - fr T n q.2.1))) rfl rfl (by decide) (Nat.le_of_ble_eq_true rfl) (by decide) (fun r_120 M_120 h_120 => ?_)
          obtain ⟨rfl, hS6⟩ := h_120
          refine j_goto (tgt := 162) C dX11_value_123 (by decide) ?_
          refine j_aload_n (q := 163) C dX11_value_162 rfl rfl rfl ?_
          refine j_iconst (v := nI 1) (q := 164) C dX11_value_163 rfl (by decide) ?_
          refine jVT jc11 (q := 167) C dX11_value_164 rfl hs11 mX11_need kw_1096 kw_1097 kw_46 (ctX11_need hSo hS6 (by rw [pEm_f hq]; exact hI.1) (p := True) (jb_t trivial).symm) rfl rfl (by decide) (Nat.le_of_ble_eq_true rfl) (by decide) (fun r_164 M_164 h_164 => ?_)
          obtain ⟨rfl, hS7⟩ := h_164
          rw [if_neg (by rw [pEm_f hq]; exact Bool.false_ne_true), if_pos trivial] at hS7
          exact j_vret C E dX11_value_167 rfl rfl (⟨rfl, rfl, rfl, by rw [show pVal T n (lvE T n 0).1 q = pNx T n (pEm (nm T (fr T n q.2.1) (tt T n q.2.1 - fr T n q.2.1)) q) by unfold pVal; rw [if_neg hqb, if_neg hns, if_pos h2, (tk_num hT h2).2.1]]; exact hS7⟩)
        have loop89 : ∀ (z k : Nat), k + z = tt T n q.2.1 - fr T n q.2.1 → jJ G X 0 0 sz Sh M 89 [(2, .int (nI (fr T n q.2.1 + k))), (1, .int (nI (nm T (fr T n q.2.1) k))), (0, .ref o)] [] := by
          intro z
          induction z with
          | zero =>
            intro k hk
            refine j_iload_n (q := 90) C dX11_value_89 rfl rfl rfl ?_
            refine j_aload_n (q := 91) C dX11_value_90 rfl rfl rfl ?_
            refine qg_to hQ (q' := 94) C dX11_value_91 rfl kw_882 ?_
            refine j_icmp_ge (q := 97) (tgt := 118) C dX11_value_94 rfl (by decide) (fun c_94 => ?_) (fun c_94 => absurd (nI_le (by omega) (by omega)) c_94)
            obtain rfl : tt T n q.2.1 - fr T n q.2.1 = k := by omega
            exact j_fewer (lv' := [(1, .int (nI (nm T (fr T n q.2.1) (tt T n q.2.1 - fr T n q.2.1)))), (0, .ref o)]) (by simp) j118
          | succ z ih =>
            intro k hk
            have hdk := of_decide_eq_true (hdg k (by omega))
            refine j_iload_n (q := 90) C dX11_value_89 rfl rfl rfl ?_
            refine j_aload_n (q := 91) C dX11_value_90 rfl rfl rfl ?_
            refine qg_to hQ (q' := 94) C dX11_value_91 rfl kw_882 ?_
            refine j_icmp_ge (q := 97) (tgt := 118) C dX11_value_94 rfl (by decide) (fun c_94 => absurd c_94 (fun h => absurd ((nI_leI (by omega) (by omega)).mp h) (by omega))) (fun c_94 => ?_)
            refine j_bipush (v := nI 10) (q := 99) C dX11_value_97 rfl (by decide) ?_
            refine j_iload_n (q := 100) C dX11_value_99 rfl rfl rfl ?_
            first | refine j_imulN (q := 101) C dX11_value_100 rfl ?_ | refine j_imul (q := 101) C dX11_value_100 rfl ?_
            refine j_aload_n (q := 102) C dX11_value_101 rfl rfl rfl ?_
            refine jg_Model_tape (q := 105) C dX11_value_102 rfl hs11 kw_876 hQ.2.2.1.2.2.2.2.2.2.1 ?_
            refine j_iload_n (q := 106) C dX11_value_105 rfl rfl rfl ?_
            refine j_iald (q := 107) C dX11_value_106 rfl hQ.2.2.1.1.2.2.2.2.2.2.1 (show fr T n q.2.1 + k < 160 by omega) (by decide) ?_
            rw [hQ.2.2.2.1.2.2.2 (fr T n q.2.1 + k) (by omega)]
            first | refine j_iaddN (q := 108) C dX11_value_107 rfl ?_ | refine j_iadd (q := 108) C dX11_value_107 rfl ?_
            refine j_bipush (v := nI 48) (q := 110) C dX11_value_108 rfl (by decide) ?_
            refine j_isub (q := 111) C dX11_value_110 rfl ?_
            refine j_top (v' := .int (nI (nm T (fr T n q.2.1) (k + 1)))) (congrArg Value.int (by rw [pk_sub (by omega), nm]; congr 1; omega)) ?_
            refine j_istore_n (lv' := [(1, _), (2, _), (0, _)]) (q := 112) C dX11_value_111 rfl rfl (by decide) rfl ?_
            first | refine j_iincN (lv' := [(2, _), (1, _), (0, _)]) (q := 115) C dX11_value_112 rfl rfl (by decide) rfl ?_ | refine j_iinc (lv' := [(2, _), (1, _), (0, _)]) (q := 115) C dX11_value_112 rfl rfl rfl (by decide) rfl ?_
            refine j_goto (tgt := 89) C dX11_value_115 (by decide) ?_
            exact j_fewer (lv' := [(2, .int (nI (fr T n q.2.1 + (k + 1)))), (1, .int (nI (nm T (fr T n q.2.1) (k + 1)))), (0, .ref o)]) (by simp [Nat.add_assoc]) (ih (k + 1) (by omega))
        exact j_fewer (lv' := [(2, .int (nI (fr T n q.2.1 + 0))), (1, .int (nI (nm T (fr T n q.2.1) 0))), (0, .ref o)]) (by simp [nm]) (loop89 (tt T n q.2.1 - fr T n q.2.1) 0 (by omega))
    · exact j_vret C E dX11_value_73 rfl rfl (⟨rfl, rfl, rfl, by rw [show pVal T n (lvE T n 0).1 q = q by unfold pVal; rw [if_pos (jb_n.mp c_70)]]; exact hS⟩)
  · have hk := jb_n.mp c_6
    have hq := hk.1
    obtain ⟨rfl, rfl, hd, rfl, hK⟩ := hG hq
    refine j_aload_n (q := 10) C dX11_value_9 rfl rfl rfl ?_
    refine j_aload_n (q := 11) C dX11_value_10 rfl rfl rfl ?_
    refine qg_deep hQ (q' := 14) C dX11_value_11 rfl kw_886 ?_
    refine j_iconst (v := nI 4) (q := 15) C dX11_value_14 rfl (by decide) ?_
    refine j_icmp_ne (q := 18) (tgt := 22) C dX11_value_15 rfl (by decide) (fun c_15 => absurd rfl c_15) (fun c_15 => ?_)
    refine j_iconst (v := nI 1) (q := 19) C dX11_value_18 rfl (by decide) ?_
    refine j_goto (tgt := 23) C dX11_value_19 (by decide) ?_
    refine qp_isFault hSo hQ (by first | exact Or.inl rfl | exact Or.inr rfl) (q' := 26) C dX11_value_23 rfl kw_885 (fun M hQ => ?_)
    refine j_aload_n (q := 27) C dX11_value_26 rfl rfl rfl ?_
    refine j_dup (q := 28) C dX11_value_27 rfl rfl ?_
    refine qg_deep hQ (q' := 31) C dX11_value_28 rfl kw_886 ?_
    refine j_iconst (v := nI 1) (q := 32) C dX11_value_31 rfl (by decide) ?_
    first | refine j_iaddN (q := 33) C dX11_value_32 rfl ?_ | refine j_iadd (q := 33) C dX11_value_32 rfl ?_
    refine qp_deep hSo hQ (q' := 36) C dX11_value_33 rfl kw_886 (fun M hQ => ?_)
    have hS1 : rSt S o Sh T n M0 5 P M (pBad q) := rSt_bad (q := pBad q) rfl hQ
    refine j_aload_n (q := 37) C dX11_value_36 rfl rfl rfl ?_
    refine j_iconst (v := nI 1) (q := 38) C dX11_value_37 rfl (by decide) ?_
    refine jVT jc11 (q := 41) C dX11_value_38 rfl hs11 mX11_need kw_1096 kw_1097 kw_46 (ctX11_need hSo hS1 hI.1 (p := True) (jb_t trivial).symm) rfl rfl (by decide) (Nat.le_of_ble_eq_true rfl) (by decide) (fun r_38 M_38 h_38 => ?_)
    obtain ⟨rfl, hS2⟩ := h_38
    rw [if_pos (show (pBad q).1 = true from rfl)] at hS2
    obtain ⟨q3, e3⟩ : ∃ z, z = pBad q := ⟨_, rfl⟩
    have hI3 : pI n P q3 := by rw [e3]; exact ⟨hI.1, fun h => by cases h⟩
    have hb3 : q3.1 = true := by rw [e3]; rfl
    rw [← e3] at hS2
    obtain ⟨K3, b3, c3, d3, g3, hQ, hG3⟩ := hS2
    refine j_aload_n (q := 42) C dX11_value_41 rfl rfl rfl ?_
    refine jV0 jc11 (q := 45) C dX11_value_42 rfl hs11 mX11_either kw_1099 kw_1100 kw_47 (cbX11_either hQ.2.2.1 (hQ.2.2.2.2.2.2.2.2.1.trans (jb_t hb3))) rfl rfl (by decide) (Nat.le_of_ble_eq_true rfl) (by decide) ?_
    refine j_aload_n (q := 46) C dX11_value_45 rfl rfl rfl ?_
    refine j_dup (q := 47) C dX11_value_46 rfl rfl ?_
    refine qg_deep hQ (q' := 50) C dX11_value_47 rfl kw_886 ?_
    refine j_iconst (v := nI 1) (q := 51) C dX11_value_50 rfl (by decide) ?_
    refine j_isub (q := 52) C dX11_value_51 rfl ?_
    refine j_top (v' := .int (nI 4)) (by rfl) ?_
    refine qp_deep hSo hQ (q' := 55) C dX11_value_52 rfl kw_886 (fun M hQ => ?_)
    have hS4 : rSt S o Sh T n M0 4 P M q3 := ⟨K3, b3, c3, d3, g3, hQ, hG3⟩
    refine j_aload_n (q := 56) C dX11_value_55 rfl rfl rfl ?_
    refine j_aload_n (q := 57) C dX11_value_56 rfl rfl rfl ?_
    refine j_bipush (v := nI 41) (q := 59) C dX11_value_57 rfl (by decide) ?_
    refine jV1 jc11 (q := 62) C dX11_value_59 rfl hs11 mX11_isSign kw_1120 kw_1121 kw_54 (ctX11_isSign hS4 hI3.1 (s := 1) (by decide) rfl) rfl rfl (by decide) (Nat.le_of_ble_eq_true rfl) (by decide) ?_
    refine jVT jc11 (q := 65) C dX11_value_62 rfl hs11 mX11_need kw_1096 kw_1097 kw_46 (ctX11_need hSo hS4 hI3.1 (p := q3.1 = false ∧ tk T n q3.2.1 = (3, 1)) rfl) rfl rfl (by decide) (Nat.le_of_ble_eq_true rfl) (by decide) (fun r_62 M_62 h_62 => ?_)
    obtain ⟨rfl, hS5⟩ := h_62
    rw [need_exp] at hS5
    exact j_vret C E dX11_value_65 rfl rfl (⟨rfl, rfl, rfl, by rw [show pVal T n (lvE T n 0).1 q = pExp T n (3, 1) q3 by unfold pVal pExp; rw [if_neg (by rw [hq]; decide), if_pos hk.2, if_pos hb3, e3]; rfl]; exact hS5⟩)

set_option maxRecDepth 100000 in
set_option maxHeartbeats 4000000 in
theorem ctX11_oneOf_0 {G : jG} {sz : Nat} {Sh : jS} {M : jM} {o : Nat} {S : Nat → Prop} {T : Nat → Nat} {n : Nat} {M0 : jM} {P : List Nat} {q : pS} (hSo : S o) (hSc : S (o + 10)) (hI : pI n P q) (hS : rSt S o Sh T n M0 4 P M q) : jC G yX11_oneOf cX11_oneOf 2 (Option.none : Option FieldType) (jrm 13 0 0) sz Sh M [.ref o] (jT sz Sh (fun r M1 => r = none ∧ rSt S o Sh T n M0 4 P M1 (pOne T n (lvE T n 0).1 q))) := by
  refine jC_start (by decide +kernel) (Nat.le_of_ble_eq_true rfl) (fun X C E hN0 => ?_)
  have hs11 := (rSt_lay hS).1.1.1
  have hn160 : n ≤ 160 := (rSt_lay hS).2.2.1
  have hT := (rSt_lay hS).2.2.2.1
  obtain ⟨Q, eQ⟩ : ∃ z, z = pOne T n (lvE T n 0).1 q := ⟨_, rfl⟩
  rw [← eQ] at E
  have loop4 : ∀ (f : Nat) (q : pS) (M : jM), pI n P q → (q.1 = false → n + 1 ≤ q.2.1 + f) → pLp T n oMul (pVal T n (lvE T n 0).1) f q = Q → rSt S o Sh T n M0 4 P M q → jJ G X 0 0 sz Sh M 4 [(0, .ref o)] [] := by
    intro f
    induction f with
    | zero =>
      intro q M hI hf hQe hS
      have hqb : q.1 = true := by
        cases h : q.1 with
        | true => rfl
        | false => have := hf h; have := hI.1; omega
      refine j_aload_n (q := 5) C dX11_oneOf_4 rfl rfl rfl ?_
      refine j_bipush (v := nI 42) (q := 7) C dX11_oneOf_5 rfl (by decide) ?_
      refine jV1 jc11 (q := 10) C dX11_oneOf_7 rfl hs11 mX11_isSign kw_1120 kw_1121 kw_54 (ctX11_isSign hS hI.1 (s := 5) (by decide) rfl) rfl rfl (by decide) (Nat.le_of_ble_eq_true rfl) (by decide) ?_
      refine j_if_ne (q := 13) (tgt := 22) C dX11_oneOf_10 rfl (by decide) (fun c_10 => absurd (jb_0.mpr (fun h => by rw [hqb] at h; cases h.1)) c_10) (fun c_10 => ?_)
      refine j_aload_n (q := 14) C dX11_oneOf_13 rfl rfl rfl ?_
      refine j_bipush (v := nI 47) (q := 16) C dX11_oneOf_14 rfl (by decide) ?_
      refine jV1 jc11 (q := 19) C dX11_oneOf_16 rfl hs11 mX11_isSign kw_1120 kw_1121 kw_54 (ctX11_isSign hS hI.1 (s := 6) (by decide) rfl) rfl rfl (by decide) (Nat.le_of_ble_eq_true rfl) (by decide) ?_
      refine j_if_eq (q := 22) (tgt := 55) C dX11_oneOf_19 rfl (by decide) (fun c_19 => ?_) (fun c_19 => absurd (jb_0.mpr (fun h => by rw [hqb] at h; cases h.1)) c_19)
      exact j_vret C E dX11_oneOf_55 rfl rfl (⟨rfl, rfl, rfl, by rw [← hQe]; exact hS⟩)
    | succ f ih =>
      intro q M hI hf hQe hS
      refine j_aload_n (q := 5) C dX11_oneOf_4 rfl rfl rfl ?_
      refine j_bipush (v := nI 42) (q := 7) C dX11_oneOf_5 rfl (by decide) ?_
      refine jV1 jc11 (q := 10) C dX11_oneOf_7 rfl hs11 mX11_isSign kw_1120 kw_1121 kw_54 (ctX11_isSign hS hI.1 (s := 5) (by decide) rfl) rfl rfl (by decide) (Nat.le_of_ble_eq_true rfl) (by decide) ?_
      refine j_if_ne (q := 13) (tgt := 22) C dX11_oneOf_10 rfl (by decide) (fun c_10 => ?_) (fun c_10 => ?_)
      · have hk := jb_n.mp c_10
        have hq := hk.1
        have ho : oMul (tk T n q.2.1) = some 2000006 := by rw [hk.2]; rfl
        obtain ⟨a1, a2, a3, a4⟩ := pI_step (c := 2000006) (pVal_G (k := 1) hT (lvE_G hT 0).1 (by omega)) hq (by rw [hk.2]; decide) hI
        have hS0 := hS
        obtain ⟨K, b, c, d, g, hQ, hG⟩ := hS0
        obtain ⟨rfl, rfl, hd, rfl, hK⟩ := hG hq
        refine j_aload_n (q := 23) C dX11_oneOf_22 rfl rfl rfl ?_
        refine j_bipush (v := nI 42) (q := 25) C dX11_oneOf_23 rfl (by decide) ?_
        refine jV1 jc11 (q := 28) C dX11_oneOf_25 rfl hs11 mX11_isSign kw_1120 kw_1121 kw_54 (ctX11_isSign hS hI.1 (s := 5) (by decide) rfl) rfl rfl (by decide) (Nat.le_of_ble_eq_true rfl) (by decide) ?_
        refine j_if_eq (q := 31) (tgt := 36) C dX11_oneOf_28 rfl (by decide) (fun c_28 => absurd c_28 c_10) (fun c_28 => ?_)
        refine j_ldc (q := 33) C dX11_oneOf_31 rfl kw_1123 ?_
        refine j_goto (tgt := 38) C dX11_oneOf_33 (by decide) ?_
        refine j_istore_n (lv' := [(1, _), (0, _)]) (q := 39) C dX11_oneOf_38 rfl rfl (by decide) rfl ?_
        refine j_aload_n (q := 40) C dX11_oneOf_39 rfl rfl rfl ?_
        refine jVT jc11 (q := 43) C dX11_oneOf_40 rfl hs11 mX11_next kw_1024 kw_1025 kw_41 (ctX11_next hSo (x := tt T n q.2.1) (tt_n (T := T) hI.1).1 hQ) rfl rfl (by decide) (Nat.le_of_ble_eq_true rfl) (by decide) (fun r_40 M_40 h_40 => ?_)
        obtain ⟨rfl, hN⟩ := h_40
        have hS1 := rSt_nx hq hN hK
        refine j_aload_n (q := 44) C dX11_oneOf_43 rfl rfl rfl ?_
        refine jVT jc11 (q := 47) C dX11_oneOf_44 rfl hs11 mX11_value kw_1117 kw_1118 kw_53 (ctX11_value_0 hSo hSc a1 hS1) rfl rfl (by decide) (Nat.le_of_ble_eq_true rfl) (by decide) (fun r_44 M_44 h_44 => ?_)
        obtain ⟨rfl, hS2⟩ := h_44
        refine j_aload_n (q := 48) C dX11_oneOf_47 rfl rfl rfl ?_
        refine j_iload_n (q := 49) C dX11_oneOf_48 rfl rfl rfl ?_
        refine j_top (v' := .int (nI 2000006)) (by rfl) ?_
        refine jVT jc11 (q := 52) C dX11_oneOf_49 rfl hs11 mX11_codes kw_1108 kw_1109 kw_50 (ctX11_codes hSo hSc hS2 (pI_l hn160 a2) (k := 2000006)) rfl rfl (by decide) (Nat.le_of_ble_eq_true rfl) (by decide) (fun r_49 M_49 h_49 => ?_)
        obtain ⟨rfl, hS3⟩ := h_49
        refine j_goto (tgt := 4) C dX11_oneOf_52 (by decide) ?_
        exact j_fewer (lv' := [(0, .ref o)]) (by simp) (ih _ M_49 a3 (fun _ => by have := hf hq; omega) (by rw [← hQe, pLp, if_neg (by rw [hq]; decide), ho]) hS3)
      · refine j_aload_n (q := 14) C dX11_oneOf_13 rfl rfl rfl ?_
        refine j_bipush (v := nI 47) (q := 16) C dX11_oneOf_14 rfl (by decide) ?_
        refine jV1 jc11 (q := 19) C dX11_oneOf_16 rfl hs11 mX11_isSign kw_1120 kw_1121 kw_54 (ctX11_isSign hS hI.1 (s := 6) (by decide) rfl) rfl rfl (by decide) (Nat.le_of_ble_eq_true rfl) (by decide) ?_
        refine j_if_eq (q := 22) (tgt := 55) C dX11_oneOf_19 rfl (by decide) (fun c_19 => ?_) (fun c_19 => ?_)
        · exact j_vret C E dX11_oneOf_55 rfl rfl (⟨rfl, rfl, rfl, by
                have e : pLp T n oMul (pVal T n (lvE T n 0).1) (f + 1) q = q := by
                  by_cases hb : q.1 = true
                  · exact pLp_bad hb _
                  · have ho : oMul (tk T n q.2.1) = none := by unfold oMul; rw [if_neg (fun h => jb_0.mp c_10 ⟨bf hb, h⟩), if_neg (fun h => jb_0.mp c_19 ⟨bf hb, h⟩)]
                    rw [pLp, if_neg hb, ho]
                rw [← hQe, e]; exact hS⟩)
        · have hk := jb_n.mp c_19
          have hq := hk.1
          have ho : oMul (tk T n q.2.1) = some 2000007 := by rw [hk.2]; rfl
          obtain ⟨a1, a2, a3, a4⟩ := pI_step (c := 2000007) (pVal_G (k := 1) hT (lvE_G hT 0).1 (by omega)) hq (by rw [hk.2]; decide) hI
          have hS0 := hS
          obtain ⟨K, b, c, d, g, hQ, hG⟩ := hS0
          obtain ⟨rfl, rfl, hd, rfl, hK⟩ := hG hq
          refine j_aload_n (q := 23) C dX11_oneOf_22 rfl rfl rfl ?_
          refine j_bipush (v := nI 42) (q := 25) C dX11_oneOf_23 rfl (by decide) ?_
          refine jV1 jc11 (q := 28) C dX11_oneOf_25 rfl hs11 mX11_isSign kw_1120 kw_1121 kw_54 (ctX11_isSign hS hI.1 (s := 5) (by decide) rfl) rfl rfl (by decide) (Nat.le_of_ble_eq_true rfl) (by decide) ?_
          refine j_if_eq (q := 31) (tgt := 36) C dX11_oneOf_28 rfl (by decide) (fun c_28 => ?_) (fun c_28 => absurd c_10 c_28)
          refine j_ldc (q := 38) C dX11_oneOf_36 rfl kw_1124 ?_
          refine j_istore_n (lv' := [(1, _), (0, _)]) (q := 39) C dX11_oneOf_38 rfl rfl (by decide) rfl ?_
          refine j_aload_n (q := 40) C dX11_oneOf_39 rfl rfl rfl ?_
          refine jVT jc11 (q := 43) C dX11_oneOf_40 rfl hs11 mX11_next kw_1024 kw_1025 kw_41 (ctX11_next hSo (x := tt T n q.2.1) (tt_n (T := T) hI.1).1 hQ) rfl rfl (by decide) (Nat.le_of_ble_eq_true rfl) (by decide) (fun r_40 M_40 h_40 => ?_)
          obtain ⟨rfl, hN⟩ := h_40
          have hS1 := rSt_nx hq hN hK
          refine j_aload_n (q := 44) C dX11_oneOf_43 rfl rfl rfl ?_
          refine jVT jc11 (q := 47) C dX11_oneOf_44 rfl hs11 mX11_value kw_1117 kw_1118 kw_53 (ctX11_value_0 hSo hSc a1 hS1) rfl rfl (by decide) (Nat.le_of_ble_eq_true rfl) (by decide) (fun r_44 M_44 h_44 => ?_)
          obtain ⟨rfl, hS2⟩ := h_44
          refine j_aload_n (q := 48) C dX11_oneOf_47 rfl rfl rfl ?_
          refine j_iload_n (q := 49) C dX11_oneOf_48 rfl rfl rfl ?_
          refine j_top (v' := .int (nI 2000007)) (by rfl) ?_
          refine jVT jc11 (q := 52) C dX11_oneOf_49 rfl hs11 mX11_codes kw_1108 kw_1109 kw_50 (ctX11_codes hSo hSc hS2 (pI_l hn160 a2) (k := 2000007)) rfl rfl (by decide) (Nat.le_of_ble_eq_true rfl) (by decide) (fun r_49 M_49 h_49 => ?_)
          obtain ⟨rfl, hS3⟩ := h_49
          refine j_goto (tgt := 4) C dX11_oneOf_52 (by decide) ?_
          exact j_fewer (lv' := [(0, .ref o)]) (by simp) (ih _ M_49 a3 (fun _ => by have := hf hq; omega) (by rw [← hQe, pLp, if_neg (by rw [hq]; decide), ho]) hS3)
  refine j_aload_n (q := 1) C dX11_oneOf_0 rfl rfl rfl ?_
  refine jVT jc11 (q := 4) C dX11_oneOf_1 rfl hs11 mX11_value kw_1117 kw_1118 kw_53 (ctX11_value_0 hSo hSc hI hS) rfl rfl (by decide) (Nat.le_of_ble_eq_true rfl) (by decide) (fun r_1 M_1 h_1 => ?_)
  obtain ⟨rfl, hS1⟩ := h_1
  exact loop4 160 _ M_1 (pI_sub (pVal_G (k := 1) hT (lvE_G hT 0).1 (by omega)) hI) (fun hf => by have := (((pVal_G (k := 1) hT (lvE_G hT 0).1 (by omega)) q hI.1).2.2.2 hf).2.1; omega) (by rw [eQ]; unfold pOne; rfl) hS1

set_option maxRecDepth 100000 in
set_option maxHeartbeats 4000000 in
theorem ctX11_sumOf_0 {G : jG} {sz : Nat} {Sh : jS} {M : jM} {o : Nat} {S : Nat → Prop} {T : Nat → Nat} {n : Nat} {M0 : jM} {P : List Nat} {q : pS} (hSo : S o) (hSc : S (o + 10)) (hI : pI n P q) (hS : rSt S o Sh T n M0 4 P M q) : jC G yX11_sumOf cX11_sumOf 2 (Option.none : Option FieldType) (jrm 14 0 0) sz Sh M [.ref o] (jT sz Sh (fun r M1 => r = none ∧ rSt S o Sh T n M0 4 P M1 (pSum T n (lvE T n 0).1 q))) := by
  refine jC_start (by decide +kernel) (Nat.le_of_ble_eq_true rfl) (fun X C E hN0 => ?_)
  have hs11 := (rSt_lay hS).1.1.1
  have hn160 : n ≤ 160 := (rSt_lay hS).2.2.1
  have hT := (rSt_lay hS).2.2.2.1
  obtain ⟨Q, eQ⟩ : ∃ z, z = pSum T n (lvE T n 0).1 q := ⟨_, rfl⟩
  rw [← eQ] at E
  have loop4 : ∀ (f : Nat) (q : pS) (M : jM), pI n P q → (q.1 = false → n + 1 ≤ q.2.1 + f) → pLp T n oAdd (pOne T n (lvE T n 0).1) f q = Q → rSt S o Sh T n M0 4 P M q → jJ G X 0 0 sz Sh M 4 [(0, .ref o)] [] := by
    intro f
    induction f with
    | zero =>
      intro q M hI hf hQe hS
      have hqb : q.1 = true := by
        cases h : q.1 with
        | true => rfl
        | false => have := hf h; have := hI.1; omega
      refine j_aload_n (q := 5) C dX11_sumOf_4 rfl rfl rfl ?_
      refine j_bipush (v := nI 43) (q := 7) C dX11_sumOf_5 rfl (by decide) ?_
      refine jV1 jc11 (q := 10) C dX11_sumOf_7 rfl hs11 mX11_isSign kw_1120 kw_1121 kw_54 (ctX11_isSign hS hI.1 (s := 3) (by decide) rfl) rfl rfl (by decide) (Nat.le_of_ble_eq_true rfl) (by decide) ?_
      refine j_if_ne (q := 13) (tgt := 22) C dX11_sumOf_10 rfl (by decide) (fun c_10 => absurd (jb_0.mpr (fun h => by rw [hqb] at h; cases h.1)) c_10) (fun c_10 => ?_)
      refine j_aload_n (q := 14) C dX11_sumOf_13 rfl rfl rfl ?_
      refine j_bipush (v := nI 45) (q := 16) C dX11_sumOf_14 rfl (by decide) ?_
      refine jV1 jc11 (q := 19) C dX11_sumOf_16 rfl hs11 mX11_isSign kw_1120 kw_1121 kw_54 (ctX11_isSign hS hI.1 (s := 4) (by decide) rfl) rfl rfl (by decide) (Nat.le_of_ble_eq_true rfl) (by decide) ?_
      refine j_if_eq (q := 22) (tgt := 55) C dX11_sumOf_19 rfl (by decide) (fun c_19 => ?_) (fun c_19 => absurd (jb_0.mpr (fun h => by rw [hqb] at h; cases h.1)) c_19)
      exact j_vret C E dX11_sumOf_55 rfl rfl (⟨rfl, rfl, rfl, by rw [← hQe]; exact hS⟩)
    | succ f ih =>
      intro q M hI hf hQe hS
      refine j_aload_n (q := 5) C dX11_sumOf_4 rfl rfl rfl ?_
      refine j_bipush (v := nI 43) (q := 7) C dX11_sumOf_5 rfl (by decide) ?_
      refine jV1 jc11 (q := 10) C dX11_sumOf_7 rfl hs11 mX11_isSign kw_1120 kw_1121 kw_54 (ctX11_isSign hS hI.1 (s := 3) (by decide) rfl) rfl rfl (by decide) (Nat.le_of_ble_eq_true rfl) (by decide) ?_
      refine j_if_ne (q := 13) (tgt := 22) C dX11_sumOf_10 rfl (by decide) (fun c_10 => ?_) (fun c_10 => ?_)
      · have hk := jb_n.mp c_10
        have hq := hk.1
        have ho : oAdd (tk T n q.2.1) = some 2000004 := by rw [hk.2]; rfl
        obtain ⟨a1, a2, a3, a4⟩ := pI_step (c := 2000004) (pOne_G (k := 1) hT (lvE_G hT 0).1 (by omega)) hq (by rw [hk.2]; decide) hI
        have hS0 := hS
        obtain ⟨K, b, c, d, g, hQ, hG⟩ := hS0
        obtain ⟨rfl, rfl, hd, rfl, hK⟩ := hG hq
        refine j_aload_n (q := 23) C dX11_sumOf_22 rfl rfl rfl ?_
        refine j_bipush (v := nI 43) (q := 25) C dX11_sumOf_23 rfl (by decide) ?_
        refine jV1 jc11 (q := 28) C dX11_sumOf_25 rfl hs11 mX11_isSign kw_1120 kw_1121 kw_54 (ctX11_isSign hS hI.1 (s := 3) (by decide) rfl) rfl rfl (by decide) (Nat.le_of_ble_eq_true rfl) (by decide) ?_
        refine j_if_eq (q := 31) (tgt := 36) C dX11_sumOf_28 rfl (by decide) (fun c_28 => absurd c_28 c_10) (fun c_28 => ?_)
        refine j_ldc (q := 33) C dX11_sumOf_31 rfl kw_1125 ?_
        refine j_goto (tgt := 38) C dX11_sumOf_33 (by decide) ?_
        refine j_istore_n (lv' := [(1, _), (0, _)]) (q := 39) C dX11_sumOf_38 rfl rfl (by decide) rfl ?_
        refine j_aload_n (q := 40) C dX11_sumOf_39 rfl rfl rfl ?_
        refine jVT jc11 (q := 43) C dX11_sumOf_40 rfl hs11 mX11_next kw_1024 kw_1025 kw_41 (ctX11_next hSo (x := tt T n q.2.1) (tt_n (T := T) hI.1).1 hQ) rfl rfl (by decide) (Nat.le_of_ble_eq_true rfl) (by decide) (fun r_40 M_40 h_40 => ?_)
        obtain ⟨rfl, hN⟩ := h_40
        have hS1 := rSt_nx hq hN hK
        refine j_aload_n (q := 44) C dX11_sumOf_43 rfl rfl rfl ?_
        refine jVT jc11 (q := 47) C dX11_sumOf_44 rfl hs11 mX11_oneOf kw_1114 kw_1115 kw_52 (ctX11_oneOf_0 hSo hSc a1 hS1) rfl rfl (by decide) (Nat.le_of_ble_eq_true rfl) (by decide) (fun r_44 M_44 h_44 => ?_)
        obtain ⟨rfl, hS2⟩ := h_44
        refine j_aload_n (q := 48) C dX11_sumOf_47 rfl rfl rfl ?_
        refine j_iload_n (q := 49) C dX11_sumOf_48 rfl rfl rfl ?_
        refine j_top (v' := .int (nI 2000004)) (by rfl) ?_
        refine jVT jc11 (q := 52) C dX11_sumOf_49 rfl hs11 mX11_codes kw_1108 kw_1109 kw_50 (ctX11_codes hSo hSc hS2 (pI_l hn160 a2) (k := 2000004)) rfl rfl (by decide) (Nat.le_of_ble_eq_true rfl) (by decide) (fun r_49 M_49 h_49 => ?_)
        obtain ⟨rfl, hS3⟩ := h_49
        refine j_goto (tgt := 4) C dX11_sumOf_52 (by decide) ?_
        exact j_fewer (lv' := [(0, .ref o)]) (by simp) (ih _ M_49 a3 (fun _ => by have := hf hq; omega) (by rw [← hQe, pLp, if_neg (by rw [hq]; decide), ho]) hS3)
      · refine j_aload_n (q := 14) C dX11_sumOf_13 rfl rfl rfl ?_
        refine j_bipush (v := nI 45) (q := 16) C dX11_sumOf_14 rfl (by decide) ?_
        refine jV1 jc11 (q := 19) C dX11_sumOf_16 rfl hs11 mX11_isSign kw_1120 kw_1121 kw_54 (ctX11_isSign hS hI.1 (s := 4) (by decide) rfl) rfl rfl (by decide) (Nat.le_of_ble_eq_true rfl) (by decide) ?_
        refine j_if_eq (q := 22) (tgt := 55) C dX11_sumOf_19 rfl (by decide) (fun c_19 => ?_) (fun c_19 => ?_)
        · exact j_vret C E dX11_sumOf_55 rfl rfl (⟨rfl, rfl, rfl, by
                have e : pLp T n oAdd (pOne T n (lvE T n 0).1) (f + 1) q = q := by
                  by_cases hb : q.1 = true
                  · exact pLp_bad hb _
                  · have ho : oAdd (tk T n q.2.1) = none := by unfold oAdd; rw [if_neg (fun h => jb_0.mp c_10 ⟨bf hb, h⟩), if_neg (fun h => jb_0.mp c_19 ⟨bf hb, h⟩)]
                    rw [pLp, if_neg hb, ho]
                rw [← hQe, e]; exact hS⟩)
        · have hk := jb_n.mp c_19
          have hq := hk.1
          have ho : oAdd (tk T n q.2.1) = some 2000005 := by rw [hk.2]; rfl
          obtain ⟨a1, a2, a3, a4⟩ := pI_step (c := 2000005) (pOne_G (k := 1) hT (lvE_G hT 0).1 (by omega)) hq (by rw [hk.2]; decide) hI
          have hS0 := hS
          obtain ⟨K, b, c, d, g, hQ, hG⟩ := hS0
          obtain ⟨rfl, rfl, hd, rfl, hK⟩ := hG hq
          refine j_aload_n (q := 23) C dX11_sumOf_22 rfl rfl rfl ?_
          refine j_bipush (v := nI 43) (q := 25) C dX11_sumOf_23 rfl (by decide) ?_
          refine jV1 jc11 (q := 28) C dX11_sumOf_25 rfl hs11 mX11_isSign kw_1120 kw_1121 kw_54 (ctX11_isSign hS hI.1 (s := 3) (by decide) rfl) rfl rfl (by decide) (Nat.le_of_ble_eq_true rfl) (by decide) ?_
          refine j_if_eq (q := 31) (tgt := 36) C dX11_sumOf_28 rfl (by decide) (fun c_28 => ?_) (fun c_28 => absurd c_10 c_28)
          refine j_ldc (q := 38) C dX11_sumOf_36 rfl kw_1126 ?_
          refine j_istore_n (lv' := [(1, _), (0, _)]) (q := 39) C dX11_sumOf_38 rfl rfl (by decide) rfl ?_
          refine j_aload_n (q := 40) C dX11_sumOf_39 rfl rfl rfl ?_
          refine jVT jc11 (q := 43) C dX11_sumOf_40 rfl hs11 mX11_next kw_1024 kw_1025 kw_41 (ctX11_next hSo (x := tt T n q.2.1) (tt_n (T := T) hI.1).1 hQ) rfl rfl (by decide) (Nat.le_of_ble_eq_true rfl) (by decide) (fun r_40 M_40 h_40 => ?_)
          obtain ⟨rfl, hN⟩ := h_40
          have hS1 := rSt_nx hq hN hK
          refine j_aload_n (q := 44) C dX11_sumOf_43 rfl rfl rfl ?_
          refine jVT jc11 (q := 47) C dX11_sumOf_44 rfl hs11 mX11_oneOf kw_1114 kw_1115 kw_52 (ctX11_oneOf_0 hSo hSc a1 hS1) rfl rfl (by decide) (Nat.le_of_ble_eq_true rfl) (by decide) (fun r_44 M_44 h_44 => ?_)
          obtain ⟨rfl, hS2⟩ := h_44
          refine j_aload_n (q := 48) C dX11_sumOf_47 rfl rfl rfl ?_
          refine j_iload_n (q := 49) C dX11_sumOf_48 rfl rfl rfl ?_
          refine j_top (v' := .int (nI 2000005)) (by rfl) ?_
          refine jVT jc11 (q := 52) C dX11_sumOf_49 rfl hs11 mX11_codes kw_1108 kw_1109 kw_50 (ctX11_codes hSo hSc hS2 (pI_l hn160 a2) (k := 2000005)) rfl rfl (by decide) (Nat.le_of_ble_eq_true rfl) (by decide) (fun r_49 M_49 h_49 => ?_)
          obtain ⟨rfl, hS3⟩ := h_49
          refine j_goto (tgt := 4) C dX11_sumOf_52 (by decide) ?_
          exact j_fewer (lv' := [(0, .ref o)]) (by simp) (ih _ M_49 a3 (fun _ => by have := hf hq; omega) (by rw [← hQe, pLp, if_neg (by rw [hq]; decide), ho]) hS3)
  refine j_aload_n (q := 1) C dX11_sumOf_0 rfl rfl rfl ?_
  refine jVT jc11 (q := 4) C dX11_sumOf_1 rfl hs11 mX11_oneOf kw_1114 kw_1115 kw_52 (ctX11_oneOf_0 hSo hSc hI hS) rfl rfl (by decide) (Nat.le_of_ble_eq_true rfl) (by decide) (fun r_1 M_1 h_1 => ?_)
  obtain ⟨rfl, hS1⟩ := h_1
  exact loop4 160 _ M_1 (pI_sub (pOne_G (k := 1) hT (lvE_G hT 0).1 (by omega)) hI) (fun hf => by have := (((pOne_G (k := 1) hT (lvE_G hT 0).1 (by omega)) q hI.1).2.2.2 hf).2.1; omega) (by rw [eQ]; unfold pSum; rfl) hS1

set_option maxRecDepth 100000 in
set_option maxHeartbeats 4000000 in
theorem ctX11_notOf_0 {G : jG} {sz : Nat} {Sh : jS} {M : jM} {o : Nat} {S : Nat → Prop} {T : Nat → Nat} {n : Nat} {M0 : jM} {P : List Nat} {q : pS} (hSo : S o) (hSc : S (o + 10)) (hI : pI n P q) (hS : rSt S o Sh T n M0 4 P M q) : jC G yX11_notOf cX11_notOf 2 (Option.none : Option FieldType) (jrm 15 0 0) sz Sh M [.ref o] (jT sz Sh (fun r M1 => r = none ∧ rSt S o Sh T n M0 4 P M1 (pNot T n (lvE T n 0).1 (lvE T n 0).2 q))) := by
  refine jC_start (by decide +kernel) (Nat.le_of_ble_eq_true rfl) (fun X C E hN0 => ?_)
  have hs11 := (rSt_lay hS).1.1.1
  have hn160 : n ≤ 160 := (rSt_lay hS).2.2.1
  have hT := (rSt_lay hS).2.2.2.1
  have hS0 := hS
  obtain ⟨K, b, c, d, g, hQ, hG⟩ := hS0
  refine j_aload_n (q := 1) C dX11_notOf_0 rfl rfl rfl ?_
  refine j_bipush (v := nI 57) (q := 3) C dX11_notOf_1 rfl (by decide) ?_
  refine jV1 jc11 (q := 6) C dX11_notOf_3 rfl hs11 mX11_isWord kw_1093 kw_1094 kw_45 (ctX11_isWord hS (s := 12) (by decide) rfl) rfl rfl (by decide) (Nat.le_of_ble_eq_true rfl) (by decide) ?_
  refine j_if_eq (q := 9) (tgt := 62) C dX11_notOf_6 rfl (by decide) (fun c_6 => ?_) (fun c_6 => ?_)
  · refine j_aload_n (q := 63) C dX11_notOf_62 rfl rfl rfl ?_
    refine jVT jc11 (q := 66) C dX11_notOf_63 rfl hs11 mX11_sumOf kw_1111 kw_1112 kw_51 (ctX11_sumOf_0 hSo hSc hI hS) rfl rfl (by decide) (Nat.le_of_ble_eq_true rfl) (by decide) (fun r_63 M_63 h_63 => ?_)
    obtain ⟨rfl, hS3⟩ := h_63
    have hI3 := pI_sub (pSum_G (k := 1) hT (lvE_G hT 0).1 (by omega)) hI
    have eN : pNot T n (lvE T n 0).1 (lvE T n 0).2 q = pCmp T n (lvE T n 0).1 (pSum T n (lvE T n 0).1 q) := by
      unfold pNot
      by_cases hb : q.1 = true
      · rw [if_pos hb, ((pSum_G (k := 1) hT (lvE_G hT 0).1 (by omega)) q hI.1).1 hb]; unfold pCmp; rw [if_pos hb]
      · rw [if_neg hb, if_neg (fun h => jb_0.mp c_6 ⟨bf hb, h⟩)]
    obtain ⟨q3, e3⟩ : ∃ z, z = pSum T n (lvE T n 0).1 q := ⟨_, rfl⟩
    rw [← e3] at hS3 hI3 eN
    refine j_aload_n (q := 67) C dX11_notOf_66 rfl rfl rfl ?_
    refine j_bipush (v := nI 60) (q := 69) C dX11_notOf_67 rfl (by decide) ?_
    refine jV1 jc11 (q := 72) C dX11_notOf_69 rfl hs11 mX11_isSign kw_1120 kw_1121 kw_54 (ctX11_isSign hS3 hI3.1 (s := 7) (by decide) rfl) rfl rfl (by decide) (Nat.le_of_ble_eq_true rfl) (by decide) ?_
    refine j_if_ne (q := 75) (tgt := 84) C dX11_notOf_72 rfl (by decide) (fun c_72 => ?_) (fun c_72 => ?_)
    · have hk := jb_n.mp c_72
      have hq3 := hk.1
      have ho : oCmp (tk T n q3.2.1) = some 2000002 := by rw [hk.2]; rfl
      obtain ⟨a1, a2, a3, a4⟩ := pI_step (c := 2000002) (pSum_G (k := 1) hT (lvE_G hT 0).1 (by omega)) hq3 (by rw [hk.2]; decide) hI3
      have hS0 := hS3
      obtain ⟨K, b, c, d, g, hQ, hG⟩ := hS0
      obtain ⟨rfl, rfl, hd, rfl, hK⟩ := hG hq3
      refine j_aload_n (q := 85) C dX11_notOf_84 rfl rfl rfl ?_
      refine j_bipush (v := nI 60) (q := 87) C dX11_notOf_85 rfl (by decide) ?_
      refine jV1 jc11 (q := 90) C dX11_notOf_87 rfl hs11 mX11_isSign kw_1120 kw_1121 kw_54 (ctX11_isSign hS3 hI3.1 (s := 7) (by decide) rfl) rfl rfl (by decide) (Nat.le_of_ble_eq_true rfl) (by decide) ?_
      refine j_if_eq (q := 93) (tgt := 98) C dX11_notOf_90 rfl (by decide) (fun c_90 => absurd c_90 c_72) (fun c_90 => ?_)
      refine j_ldc (q := 95) C dX11_notOf_93 rfl kw_1127 ?_
      refine j_goto (tgt := 100) C dX11_notOf_95 (by decide) ?_
      refine j_istore_n (lv' := [(1, _), (0, _)]) (q := 101) C dX11_notOf_100 rfl rfl (by decide) rfl ?_
      refine j_aload_n (q := 102) C dX11_notOf_101 rfl rfl rfl ?_
      refine jVT jc11 (q := 105) C dX11_notOf_102 rfl hs11 mX11_next kw_1024 kw_1025 kw_41 (ctX11_next hSo (x := tt T n q3.2.1) (tt_n (T := T) hI3.1).1 hQ) rfl rfl (by decide) (Nat.le_of_ble_eq_true rfl) (by decide) (fun r_102 M_102 h_102 => ?_)
      obtain ⟨rfl, hN⟩ := h_102
      have hS4 := rSt_nx hq3 hN hK
      refine j_aload_n (q := 106) C dX11_notOf_105 rfl rfl rfl ?_
      refine jVT jc11 (q := 109) C dX11_notOf_106 rfl hs11 mX11_sumOf kw_1111 kw_1112 kw_51 (ctX11_sumOf_0 hSo hSc a1 hS4) rfl rfl (by decide) (Nat.le_of_ble_eq_true rfl) (by decide) (fun r_106 M_106 h_106 => ?_)
      obtain ⟨rfl, hS5⟩ := h_106
      refine j_aload_n (q := 110) C dX11_notOf_109 rfl rfl rfl ?_
      refine j_iload_n (q := 111) C dX11_notOf_110 rfl rfl rfl ?_
      refine j_top (v' := .int (nI 2000002)) (by rfl) ?_
      refine jVT jc11 (q := 114) C dX11_notOf_111 rfl hs11 mX11_codes kw_1108 kw_1109 kw_50 (ctX11_codes hSo hSc hS5 (pI_l hn160 a2) (k := 2000002)) rfl rfl (by decide) (Nat.le_of_ble_eq_true rfl) (by decide) (fun r_111 M_111 h_111 => ?_)
      obtain ⟨rfl, hS6⟩ := h_111
      exact j_vret C E dX11_notOf_114 rfl rfl (⟨rfl, rfl, rfl, by rw [eN]; unfold pCmp; rw [if_neg (by rw [hq3]; decide), ho]; exact hS6⟩)
    · refine j_aload_n (q := 76) C dX11_notOf_75 rfl rfl rfl ?_
      refine j_bipush (v := nI 61) (q := 78) C dX11_notOf_76 rfl (by decide) ?_
      refine jV1 jc11 (q := 81) C dX11_notOf_78 rfl hs11 mX11_isSign kw_1120 kw_1121 kw_54 (ctX11_isSign hS3 hI3.1 (s := 8) (by decide) rfl) rfl rfl (by decide) (Nat.le_of_ble_eq_true rfl) (by decide) ?_
      refine j_if_eq (q := 84) (tgt := 114) C dX11_notOf_81 rfl (by decide) (fun c_81 => ?_) (fun c_81 => ?_)
      · exact j_vret C E dX11_notOf_114 rfl rfl (⟨rfl, rfl, rfl, by
            rw [eN]; unfold pCmp
            by_cases hb : q3.1 = true
            · rw [if_pos hb]; exact hS3
            · have ho : oCmp (tk T n q3.2.1) = none := by unfold oCmp; rw [if_neg (fun h => jb_0.mp c_72 ⟨bf hb, h⟩), if_neg (fun h => jb_0.mp c_81 ⟨bf hb, h⟩)]
              rw [if_neg hb, ho]; exact hS3⟩)
      · have hk := jb_n.mp c_81
        have hq3 := hk.1
        have ho : oCmp (tk T n q3.2.1) = some 2000003 := by rw [hk.2]; rfl
        obtain ⟨a1, a2, a3, a4⟩ := pI_step (c := 2000003) (pSum_G (k := 1) hT (lvE_G hT 0).1 (by omega)) hq3 (by rw [hk.2]; decide) hI3
        have hS0 := hS3
        obtain ⟨K, b, c, d, g, hQ, hG⟩ := hS0
        obtain ⟨rfl, rfl, hd, rfl, hK⟩ := hG hq3
        refine j_aload_n (q := 85) C dX11_notOf_84 rfl rfl rfl ?_
        refine j_bipush (v := nI 60) (q := 87) C dX11_notOf_85 rfl (by decide) ?_
        refine jV1 jc11 (q := 90) C dX11_notOf_87 rfl hs11 mX11_isSign kw_1120 kw_1121 kw_54 (ctX11_isSign hS3 hI3.1 (s := 7) (by decide) rfl) rfl rfl (by decide) (Nat.le_of_ble_eq_true rfl) (by decide) ?_
        refine j_if_eq (q := 93) (tgt := 98) C dX11_notOf_90 rfl (by decide) (fun c_90 => ?_) (fun c_90 => absurd c_72 c_90)
        refine j_ldc (q := 100) C dX11_notOf_98 rfl kw_1128 ?_
        refine j_istore_n (lv' := [(1, _), (0, _)]) (q := 101) C dX11_notOf_100 rfl rfl (by decide) rfl ?_
        refine j_aload_n (q := 102) C dX11_notOf_101 rfl rfl rfl ?_
        refine jVT jc11 (q := 105) C dX11_notOf_102 rfl hs11 mX11_next kw_1024 kw_1025 kw_41 (ctX11_next hSo (x := tt T n q3.2.1) (tt_n (T := T) hI3.1).1 hQ) rfl rfl (by decide) (Nat.le_of_ble_eq_true rfl) (by decide) (fun r_102 M_102 h_102 => ?_)
        obtain ⟨rfl, hN⟩ := h_102
        have hS4 := rSt_nx hq3 hN hK
        refine j_aload_n (q := 106) C dX11_notOf_105 rfl rfl rfl ?_
        refine jVT jc11 (q := 109) C dX11_notOf_106 rfl hs11 mX11_sumOf kw_1111 kw_1112 kw_51 (ctX11_sumOf_0 hSo hSc a1 hS4) rfl rfl (by decide) (Nat.le_of_ble_eq_true rfl) (by decide) (fun r_106 M_106 h_106 => ?_)
        obtain ⟨rfl, hS5⟩ := h_106
        refine j_aload_n (q := 110) C dX11_notOf_109 rfl rfl rfl ?_
        refine j_iload_n (q := 111) C dX11_notOf_110 rfl rfl rfl ?_
        refine j_top (v' := .int (nI 2000003)) (by rfl) ?_
        refine jVT jc11 (q := 114) C dX11_notOf_111 rfl hs11 mX11_codes kw_1108 kw_1109 kw_50 (ctX11_codes hSo hSc hS5 (pI_l hn160 a2) (k := 2000003)) rfl rfl (by decide) (Nat.le_of_ble_eq_true rfl) (by decide) (fun r_111 M_111 h_111 => ?_)
        obtain ⟨rfl, hS6⟩ := h_111
        exact j_vret C E dX11_notOf_114 rfl rfl (⟨rfl, rfl, rfl, by rw [eN]; unfold pCmp; rw [if_neg (by rw [hq3]; decide), ho]; exact hS6⟩)
  · have hk := jb_n.mp c_6
    have hq := hk.1
    obtain ⟨rfl, rfl, hd, rfl, hK⟩ := hG hq
    refine j_aload_n (q := 10) C dX11_notOf_9 rfl rfl rfl ?_
    refine j_aload_n (q := 11) C dX11_notOf_10 rfl rfl rfl ?_
    refine qg_deep hQ (q' := 14) C dX11_notOf_11 rfl kw_886 ?_
    refine j_iconst (v := nI 4) (q := 15) C dX11_notOf_14 rfl (by decide) ?_
    refine j_icmp_ne (q := 18) (tgt := 22) C dX11_notOf_15 rfl (by decide) (fun c_15 => absurd rfl c_15) (fun c_15 => ?_)
    refine j_iconst (v := nI 1) (q := 19) C dX11_notOf_18 rfl (by decide) ?_
    refine j_goto (tgt := 23) C dX11_notOf_19 (by decide) ?_
    refine qp_isFault hSo hQ (by first | exact Or.inl rfl | exact Or.inr rfl) (q' := 26) C dX11_notOf_23 rfl kw_885 (fun M hQ => ?_)
    refine j_aload_n (q := 27) C dX11_notOf_26 rfl rfl rfl ?_
    refine j_dup (q := 28) C dX11_notOf_27 rfl rfl ?_
    refine qg_deep hQ (q' := 31) C dX11_notOf_28 rfl kw_886 ?_
    refine j_iconst (v := nI 1) (q := 32) C dX11_notOf_31 rfl (by decide) ?_
    first | refine j_iaddN (q := 33) C dX11_notOf_32 rfl ?_ | refine j_iadd (q := 33) C dX11_notOf_32 rfl ?_
    refine qp_deep hSo hQ (q' := 36) C dX11_notOf_33 rfl kw_886 (fun M hQ => ?_)
    have hS1 : rSt S o Sh T n M0 5 P M (pBad q) := rSt_bad (q := pBad q) rfl hQ
    refine j_aload_n (q := 37) C dX11_notOf_36 rfl rfl rfl ?_
    refine j_iconst (v := nI 1) (q := 38) C dX11_notOf_37 rfl (by decide) ?_
    refine jVT jc11 (q := 41) C dX11_notOf_38 rfl hs11 mX11_need kw_1096 kw_1097 kw_46 (ctX11_need hSo hS1 hI.1 (p := True) (jb_t trivial).symm) rfl rfl (by decide) (Nat.le_of_ble_eq_true rfl) (by decide) (fun r_38 M_38 h_38 => ?_)
    obtain ⟨rfl, hS2⟩ := h_38
    rw [if_pos (show (pBad q).1 = true from rfl)] at hS2
    obtain ⟨q3, e3⟩ : ∃ z, z = pBad q := ⟨_, rfl⟩
    have hI3 : pI n P q3 := by rw [e3]; exact ⟨hI.1, fun h => by cases h⟩
    have hb3 : q3.1 = true := by rw [e3]; rfl
    rw [← e3] at hS2
    obtain ⟨K3, b3, c3, d3, g3, hQ, hG3⟩ := hS2
    refine j_aload_n (q := 42) C dX11_notOf_41 rfl rfl rfl ?_
    refine jV0 jc11 (q := 45) C dX11_notOf_42 rfl hs11 mX11_notOf kw_1105 kw_1106 kw_49 (cbX11_notOf hQ.2.2.1 (hQ.2.2.2.2.2.2.2.2.1.trans (jb_t hb3))) rfl rfl (by decide) (Nat.le_of_ble_eq_true rfl) (by decide) ?_
    refine j_aload_n (q := 46) C dX11_notOf_45 rfl rfl rfl ?_
    refine j_dup (q := 47) C dX11_notOf_46 rfl rfl ?_
    refine qg_deep hQ (q' := 50) C dX11_notOf_47 rfl kw_886 ?_
    refine j_iconst (v := nI 1) (q := 51) C dX11_notOf_50 rfl (by decide) ?_
    refine j_isub (q := 52) C dX11_notOf_51 rfl ?_
    refine j_top (v' := .int (nI 4)) (by rfl) ?_
    refine qp_deep hSo hQ (q' := 55) C dX11_notOf_52 rfl kw_886 (fun M hQ => ?_)
    have hS4 : rSt S o Sh T n M0 4 P M q3 := ⟨K3, b3, c3, d3, g3, hQ, hG3⟩
    refine j_aload_n (q := 56) C dX11_notOf_55 rfl rfl rfl ?_
    refine j_ldc (q := 58) C dX11_notOf_56 rfl kw_984 ?_
    refine j_top (v' := .int (nI 2000008)) (by rfl) ?_
    refine jVT jc11 (q := 61) C dX11_notOf_58 rfl hs11 mX11_codes kw_1108 kw_1109 kw_50 (ctX11_codes hSo hSc hS4 (pI_l hn160 hI3) (k := 2000008)) rfl rfl (by decide) (Nat.le_of_ble_eq_true rfl) (by decide) (fun r_58 M_58 h_58 => ?_)
    obtain ⟨rfl, hS5⟩ := h_58
    exact j_vret C E dX11_notOf_61 rfl rfl (⟨rfl, rfl, rfl, by rw [show pNot T n (lvE T n 0).1 (lvE T n 0).2 q = pEm 2000008 q3 by rw [pEm_t hb3]; unfold pNot; rw [if_neg (by rw [hq]; decide), if_pos hk.2, e3]; rfl]; exact hS5⟩)

set_option maxRecDepth 100000 in
set_option maxHeartbeats 4000000 in
theorem ctX11_both_0 {G : jG} {sz : Nat} {Sh : jS} {M : jM} {o : Nat} {S : Nat → Prop} {T : Nat → Nat} {n : Nat} {M0 : jM} {P : List Nat} {q : pS} (hSo : S o) (hSc : S (o + 10)) (hI : pI n P q) (hS : rSt S o Sh T n M0 4 P M q) : jC G yX11_both cX11_both 1 (Option.none : Option FieldType) (jrm 16 0 0) sz Sh M [.ref o] (jT sz Sh (fun r M1 => r = none ∧ rSt S o Sh T n M0 4 P M1 (pAnd T n (lvE T n 0).1 (lvE T n 0).2 q))) := by
  refine jC_start (by decide +kernel) (Nat.le_of_ble_eq_true rfl) (fun X C E hN0 => ?_)
  have hs11 := (rSt_lay hS).1.1.1
  have hn160 : n ≤ 160 := (rSt_lay hS).2.2.1
  have hT := (rSt_lay hS).2.2.2.1
  obtain ⟨Q, eQ⟩ : ∃ z, z = pAnd T n (lvE T n 0).1 (lvE T n 0).2 q := ⟨_, rfl⟩
  rw [← eQ] at E
  have loop4 : ∀ (f : Nat) (q : pS) (M : jM), pI n P q → (q.1 = false → n + 1 ≤ q.2.1 + f) → pLp T n oAnd (pNot T n (lvE T n 0).1 (lvE T n 0).2) f q = Q → rSt S o Sh T n M0 4 P M q → jJ G X 0 0 sz Sh M 4 [(0, .ref o)] [] := by
    intro f
    induction f with
    | zero =>
      intro q M hI hf hQe hS
      have hqb : q.1 = true := by
        cases h : q.1 with
        | true => rfl
        | false => have := hf h; have := hI.1; omega
      refine j_aload_n (q := 5) C dX11_both_4 rfl rfl rfl ?_
      refine j_bipush (v := nI 50) (q := 7) C dX11_both_5 rfl (by decide) ?_
      refine jV1 jc11 (q := 10) C dX11_both_7 rfl hs11 mX11_isWord kw_1093 kw_1094 kw_45 (ctX11_isWord hS (s := 10) (by decide) rfl) rfl rfl (by decide) (Nat.le_of_ble_eq_true rfl) (by decide) ?_
      refine j_if_eq (q := 13) (tgt := 30) C dX11_both_10 rfl (by decide) (fun c_10 => ?_) (fun c_10 => absurd (jb_0.mpr (fun h => by rw [hqb] at h; cases h.1)) c_10)
      exact j_vret C E dX11_both_30 rfl rfl (⟨rfl, rfl, rfl, by rw [← hQe]; exact hS⟩)
    | succ f ih =>
      intro q M hI hf hQe hS
      refine j_aload_n (q := 5) C dX11_both_4 rfl rfl rfl ?_
      refine j_bipush (v := nI 50) (q := 7) C dX11_both_5 rfl (by decide) ?_
      refine jV1 jc11 (q := 10) C dX11_both_7 rfl hs11 mX11_isWord kw_1093 kw_1094 kw_45 (ctX11_isWord hS (s := 10) (by decide) rfl) rfl rfl (by decide) (Nat.le_of_ble_eq_true rfl) (by decide) ?_
      refine j_if_eq (q := 13) (tgt := 30) C dX11_both_10 rfl (by decide) (fun c_10 => ?_) (fun c_10 => ?_)
      · exact j_vret C E dX11_both_30 rfl rfl (⟨rfl, rfl, rfl, by
              have e : pLp T n oAnd (pNot T n (lvE T n 0).1 (lvE T n 0).2) (f + 1) q = q := by
                by_cases hb : q.1 = true
                · exact pLp_bad hb _
                · have ho : oAnd (tk T n q.2.1) = none := by unfold oAnd; rw [if_neg (fun h => jb_0.mp c_10 ⟨bf hb, h⟩)]
                  rw [pLp, if_neg hb, ho]
              rw [← hQe, e]; exact hS⟩)
      · have hk := jb_n.mp c_10
        have hq := hk.1
        have ho : oAnd (tk T n q.2.1) = some 2000001 := by rw [hk.2]; rfl
        obtain ⟨a1, a2, a3, a4⟩ := pI_step (c := 2000001) (pNot_G (k := 1) hT (lvE_G hT 0).1 (lvE_G hT 0).2 (by omega)) hq (by rw [hk.2]; decide) hI
        have hS0 := hS
        obtain ⟨K, b, c, d, g, hQ, hG⟩ := hS0
        obtain ⟨rfl, rfl, hd, rfl, hK⟩ := hG hq
        refine j_aload_n (q := 14) C dX11_both_13 rfl rfl rfl ?_
        refine jVT jc11 (q := 17) C dX11_both_14 rfl hs11 mX11_next kw_1024 kw_1025 kw_41 (ctX11_next hSo (x := tt T n q.2.1) (tt_n (T := T) hI.1).1 hQ) rfl rfl (by decide) (Nat.le_of_ble_eq_true rfl) (by decide) (fun r_14 M_14 h_14 => ?_)
        obtain ⟨rfl, hN⟩ := h_14
        have hS1 := rSt_nx hq hN hK
        refine j_aload_n (q := 18) C dX11_both_17 rfl rfl rfl ?_
        refine jVT jc11 (q := 21) C dX11_both_18 rfl hs11 mX11_notOf kw_1105 kw_1106 kw_49 (ctX11_notOf_0 hSo hSc a1 hS1) rfl rfl (by decide) (Nat.le_of_ble_eq_true rfl) (by decide) (fun r_18 M_18 h_18 => ?_)
        obtain ⟨rfl, hS2⟩ := h_18
        refine j_aload_n (q := 22) C dX11_both_21 rfl rfl rfl ?_
        refine j_ldc (q := 24) C dX11_both_22 rfl kw_1129 ?_
        refine j_top (v' := .int (nI 2000001)) (by rfl) ?_
        refine jVT jc11 (q := 27) C dX11_both_24 rfl hs11 mX11_codes kw_1108 kw_1109 kw_50 (ctX11_codes hSo hSc hS2 (pI_l hn160 a2) (k := 2000001)) rfl rfl (by decide) (Nat.le_of_ble_eq_true rfl) (by decide) (fun r_24 M_24 h_24 => ?_)
        obtain ⟨rfl, hS3⟩ := h_24
        refine j_goto (tgt := 4) C dX11_both_27 (by decide) ?_
        exact ih _ M_24 a3 (fun _ => by have := hf hq; omega) (by rw [← hQe, pLp, if_neg (by rw [hq]; decide), ho]) hS3
  refine j_aload_n (q := 1) C dX11_both_0 rfl rfl rfl ?_
  refine jVT jc11 (q := 4) C dX11_both_1 rfl hs11 mX11_notOf kw_1105 kw_1106 kw_49 (ctX11_notOf_0 hSo hSc hI hS) rfl rfl (by decide) (Nat.le_of_ble_eq_true rfl) (by decide) (fun r_1 M_1 h_1 => ?_)
  obtain ⟨rfl, hS1⟩ := h_1
  exact loop4 160 _ M_1 (pI_sub (pNot_G (k := 1) hT (lvE_G hT 0).1 (lvE_G hT 0).2 (by omega)) hI) (fun hf => by have := (((pNot_G (k := 1) hT (lvE_G hT 0).1 (lvE_G hT 0).2 (by omega)) q hI.1).2.2.2 hf).2.1; omega) (by rw [eQ]; unfold pAnd; rfl) hS1

set_option maxRecDepth 100000 in
set_option maxHeartbeats 4000000 in
theorem ctX11_either_0 {G : jG} {sz : Nat} {Sh : jS} {M : jM} {o : Nat} {S : Nat → Prop} {T : Nat → Nat} {n : Nat} {M0 : jM} {P : List Nat} {q : pS} (hSo : S o) (hSc : S (o + 10)) (hI : pI n P q) (hS : rSt S o Sh T n M0 4 P M q) : jC G yX11_either cX11_either 1 (Option.none : Option FieldType) (jrm 17 0 0) sz Sh M [.ref o] (jT sz Sh (fun r M1 => r = none ∧ rSt S o Sh T n M0 4 P M1 (pOr T n (lvE T n 0).1 (lvE T n 0).2 q))) := by
  refine jC_start (by decide +kernel) (Nat.le_of_ble_eq_true rfl) (fun X C E hN0 => ?_)
  have hs11 := (rSt_lay hS).1.1.1
  have hn160 : n ≤ 160 := (rSt_lay hS).2.2.1
  have hT := (rSt_lay hS).2.2.2.1
  obtain ⟨Q, eQ⟩ : ∃ z, z = pOr T n (lvE T n 0).1 (lvE T n 0).2 q := ⟨_, rfl⟩
  rw [← eQ] at E
  have loop4 : ∀ (f : Nat) (q : pS) (M : jM), pI n P q → (q.1 = false → n + 1 ≤ q.2.1 + f) → pLp T n oOr (pAnd T n (lvE T n 0).1 (lvE T n 0).2) f q = Q → rSt S o Sh T n M0 4 P M q → jJ G X 0 0 sz Sh M 4 [(0, .ref o)] [] := by
    intro f
    induction f with
    | zero =>
      intro q M hI hf hQe hS
      have hqb : q.1 = true := by
        cases h : q.1 with
        | true => rfl
        | false => have := hf h; have := hI.1; omega
      refine j_aload_n (q := 5) C dX11_either_4 rfl rfl rfl ?_
      refine j_bipush (v := nI 54) (q := 7) C dX11_either_5 rfl (by decide) ?_
      refine jV1 jc11 (q := 10) C dX11_either_7 rfl hs11 mX11_isWord kw_1093 kw_1094 kw_45 (ctX11_isWord hS (s := 11) (by decide) rfl) rfl rfl (by decide) (Nat.le_of_ble_eq_true rfl) (by decide) ?_
      refine j_if_eq (q := 13) (tgt := 30) C dX11_either_10 rfl (by decide) (fun c_10 => ?_) (fun c_10 => absurd (jb_0.mpr (fun h => by rw [hqb] at h; cases h.1)) c_10)
      exact j_vret C E dX11_either_30 rfl rfl (⟨rfl, rfl, rfl, by rw [← hQe]; exact hS⟩)
    | succ f ih =>
      intro q M hI hf hQe hS
      refine j_aload_n (q := 5) C dX11_either_4 rfl rfl rfl ?_
      refine j_bipush (v := nI 54) (q := 7) C dX11_either_5 rfl (by decide) ?_
      refine jV1 jc11 (q := 10) C dX11_either_7 rfl hs11 mX11_isWord kw_1093 kw_1094 kw_45 (ctX11_isWord hS (s := 11) (by decide) rfl) rfl rfl (by decide) (Nat.le_of_ble_eq_true rfl) (by decide) ?_
      refine j_if_eq (q := 13) (tgt := 30) C dX11_either_10 rfl (by decide) (fun c_10 => ?_) (fun c_10 => ?_)
      · exact j_vret C E dX11_either_30 rfl rfl (⟨rfl, rfl, rfl, by
              have e : pLp T n oOr (pAnd T n (lvE T n 0).1 (lvE T n 0).2) (f + 1) q = q := by
                by_cases hb : q.1 = true
                · exact pLp_bad hb _
                · have ho : oOr (tk T n q.2.1) = none := by unfold oOr; rw [if_neg (fun h => jb_0.mp c_10 ⟨bf hb, h⟩)]
                  rw [pLp, if_neg hb, ho]
              rw [← hQe, e]; exact hS⟩)
      · have hk := jb_n.mp c_10
        have hq := hk.1
        have ho : oOr (tk T n q.2.1) = some 2000000 := by rw [hk.2]; rfl
        obtain ⟨a1, a2, a3, a4⟩ := pI_step (c := 2000000) (pAnd_G (k := 1) hT (lvE_G hT 0).1 (lvE_G hT 0).2 (by omega)) hq (by rw [hk.2]; decide) hI
        have hS0 := hS
        obtain ⟨K, b, c, d, g, hQ, hG⟩ := hS0
        obtain ⟨rfl, rfl, hd, rfl, hK⟩ := hG hq
        refine j_aload_n (q := 14) C dX11_either_13 rfl rfl rfl ?_
        refine jVT jc11 (q := 17) C dX11_either_14 rfl hs11 mX11_next kw_1024 kw_1025 kw_41 (ctX11_next hSo (x := tt T n q.2.1) (tt_n (T := T) hI.1).1 hQ) rfl rfl (by decide) (Nat.le_of_ble_eq_true rfl) (by decide) (fun r_14 M_14 h_14 => ?_)
        obtain ⟨rfl, hN⟩ := h_14
        have hS1 := rSt_nx hq hN hK
        refine j_aload_n (q := 18) C dX11_either_17 rfl rfl rfl ?_
        refine jVT jc11 (q := 21) C dX11_either_18 rfl hs11 mX11_both kw_1102 kw_1103 kw_48 (ctX11_both_0 hSo hSc a1 hS1) rfl rfl (by decide) (Nat.le_of_ble_eq_true rfl) (by decide) (fun r_18 M_18 h_18 => ?_)
        obtain ⟨rfl, hS2⟩ := h_18
        refine j_aload_n (q := 22) C dX11_either_21 rfl rfl rfl ?_
        refine j_ldc (q := 24) C dX11_either_22 rfl kw_978 ?_
        refine j_top (v' := .int (nI 2000000)) (by rfl) ?_
        refine jVT jc11 (q := 27) C dX11_either_24 rfl hs11 mX11_codes kw_1108 kw_1109 kw_50 (ctX11_codes hSo hSc hS2 (pI_l hn160 a2) (k := 2000000)) rfl rfl (by decide) (Nat.le_of_ble_eq_true rfl) (by decide) (fun r_24 M_24 h_24 => ?_)
        obtain ⟨rfl, hS3⟩ := h_24
        refine j_goto (tgt := 4) C dX11_either_27 (by decide) ?_
        exact ih _ M_24 a3 (fun _ => by have := hf hq; omega) (by rw [← hQe, pLp, if_neg (by rw [hq]; decide), ho]) hS3
  refine j_aload_n (q := 1) C dX11_either_0 rfl rfl rfl ?_
  refine jVT jc11 (q := 4) C dX11_either_1 rfl hs11 mX11_both kw_1102 kw_1103 kw_48 (ctX11_both_0 hSo hSc hI hS) rfl rfl (by decide) (Nat.le_of_ble_eq_true rfl) (by decide) (fun r_1 M_1 h_1 => ?_)
  obtain ⟨rfl, hS1⟩ := h_1
  exact loop4 160 _ M_1 (pI_sub (pAnd_G (k := 1) hT (lvE_G hT 0).1 (lvE_G hT 0).2 (by omega)) hI) (fun hf => by have := (((pAnd_G (k := 1) hT (lvE_G hT 0).1 (lvE_G hT 0).2 (by omega)) q hI.1).2.2.2 hf).2.1; omega) (by rw [eQ]; unfold pOr; rfl) hS1

set_option maxRecDepth 100000 in
set_option maxHeartbeats 4000000 in
theorem ctX11_value_1 {G : jG} {sz : Nat} {Sh : jS} {M : jM} {o : Nat} {S : Nat → Prop} {T : Nat → Nat} {n : Nat} {M0 : jM} {P : List Nat} {q : pS} (hSo : S o) (hSc : S (o + 10)) (hI : pI n P q) (hS : rSt S o Sh T n M0 3 P M q) : jC G yX11_value cX11_value 3 (Option.none : Option FieldType) (jrm 20 0 0) sz Sh M [.ref o] (jT sz Sh (fun r M1 => r = none ∧ rSt S o Sh T n M0 3 P M1 (pVal T n (lvE T n 1).1 q))) := by
  refine jC_start (by decide +kernel) (Nat.le_of_ble_eq_true rfl) (fun X C E hN0 => ?_)
  have hs11 := (rSt_lay hS).1.1.1
  have hn160 : n ≤ 160 := (rSt_lay hS).2.2.1
  have hT := (rSt_lay hS).2.2.2.1
  have hS0 := hS
  obtain ⟨K, b, c, d, g, hQ, hG⟩ := hS0
  refine j_aload_n (q := 1) C dX11_value_0 rfl rfl rfl ?_
  refine j_bipush (v := nI 40) (q := 3) C dX11_value_1 rfl (by decide) ?_
  refine jV1 jc11 (q := 6) C dX11_value_3 rfl hs11 mX11_isSign kw_1120 kw_1121 kw_54 (ctX11_isSign hS hI.1 (s := 0) (by decide) rfl) rfl rfl (by decide) (Nat.le_of_ble_eq_true rfl) (by decide) ?_
  refine j_if_eq (q := 9) (tgt := 66) C dX11_value_6 rfl (by decide) (fun c_6 => ?_) (fun c_6 => ?_)
  · refine j_aload_n (q := 67) C dX11_value_66 rfl rfl rfl ?_
    refine qg_isFault hQ (q' := 70) C dX11_value_67 rfl kw_885 ?_
    refine j_if_eq (q := 73) (tgt := 74) C dX11_value_70 rfl (by decide) (fun c_70 => ?_) (fun c_70 => ?_)
    · have hq : q.1 = false := bf (jb_0.mp c_70)
      have hns : ¬ tk T n q.2.1 = (3, 0) := fun h => jb_0.mp c_6 ⟨hq, h⟩
      have hqb : ¬ q.1 = true := by rw [hq]; decide
      have hts := tk_sort (T := T) (n := n) (x := q.2.1)
      obtain ⟨rfl, rfl, hd, rfl, hK⟩ := hG hq
      refine j_aload_n (q := 75) C dX11_value_74 rfl rfl rfl ?_
      refine qg_sort hQ (q' := 78) C dX11_value_75 rfl kw_883 ?_
      refine j_iconst (v := nI 2) (q := 79) C dX11_value_78 rfl (by decide) ?_
      refine j_icmp_ne (q := 82) (tgt := 126) C dX11_value_79 rfl (by decide) (fun c_79 => ?_) (fun c_79 => ?_)
      · refine j_aload_n (q := 127) C dX11_value_126 rfl rfl rfl ?_
        refine qg_sort hQ (q' := 130) C dX11_value_127 rfl kw_883 ?_
        refine j_iconst (v := nI 1) (q := 131) C dX11_value_130 rfl (by decide) ?_
        refine j_icmp_ne (q := 134) (tgt := 157) C dX11_value_131 rfl (by decide) (fun c_131 => ?_) (fun c_131 => ?_)
        · refine j_aload_n (q := 158) C dX11_value_157 rfl rfl rfl ?_
          refine j_iconst (v := nI 1) (q := 159) C dX11_value_158 rfl (by decide) ?_
          refine qp_isFault hSo hQ (by first | exact Or.inl rfl | exact Or.inr rfl) (q' := 162) C dX11_value_159 rfl kw_885 (fun M hQ => ?_)
          refine j_aload_n (q := 163) C dX11_value_162 rfl rfl rfl ?_
          refine j_iconst (v := nI 1) (q := 164) C dX11_value_163 rfl (by decide) ?_
          refine jVT jc11 (q := 167) C dX11_value_164 rfl hs11 mX11_need kw_1096 kw_1097 kw_46 (ctX11_need hSo (rSt_bad (P := P) (q := pBad q) rfl hQ) hI.1 (p := True) (jb_t trivial).symm) rfl rfl (by decide) (Nat.le_of_ble_eq_true rfl) (by decide) (fun r_164 M_164 h_164 => ?_)
          obtain ⟨rfl, hS7⟩ := h_164
          rw [if_pos (show (pBad q).1 = true from rfl)] at hS7
          exact j_vret C E dX11_value_167 rfl rfl (⟨rfl, rfl, rfl, by rw [show pVal T n (lvE T n 1).1 q = pBad q by unfold pVal; rw [if_neg hqb, if_neg hns, if_neg (fun h => c_79 (by rw [h])), if_neg (fun h => c_131 (by rw [h.1]))]]; exact hS7⟩)
        · have h1 : (tk T n q.2.1).1 = 1 := (nI_eq (by omega) (by omega)).mp c_131
          obtain rfl := hd h1
          have hw1 := wps_lt _ (hts.2.1 h1)
          have hw7 := wps7 _ (hts.2.1 h1)
          refine j_aload_n (q := 135) C dX11_value_134 rfl rfl rfl ?_
          refine qg_which hQ (q' := 138) C dX11_value_135 rfl kw_884 ?_
          refine j_bipush (v := nI 30) (q := 140) C dX11_value_138 rfl (by decide) ?_
          refine j_icmp_gt (q := 143) (tgt := 157) C dX11_value_140 rfl (by decide) (fun c_140 => ?_) (fun c_140 => ?_)
          · refine j_aload_n (q := 158) C dX11_value_157 rfl rfl rfl ?_
            refine j_iconst (v := nI 1) (q := 159) C dX11_value_158 rfl (by decide) ?_
            refine qp_isFault hSo hQ (by first | exact Or.inl rfl | exact Or.inr rfl) (q' := 162) C dX11_value_159 rfl kw_885 (fun M hQ => ?_)
            refine j_aload_n (q := 163) C dX11_value_162 rfl rfl rfl ?_
            refine j_iconst (v := nI 1) (q := 164) C dX11_value_163 rfl (by decide) ?_
            refine jVT jc11 (q := 167) C dX11_value_164 rfl hs11 mX11_need kw_1096 kw_1097 kw_46 (ctX11_need hSo (rSt_bad (P := P) (q := pBad q) rfl hQ) hI.1 (p := True) (jb_t trivial).symm) rfl rfl (by decide) (Nat.le_of_ble_eq_true rfl) (by decide) (fun r_164 M_164 h_164 => ?_)
            obtain ⟨rfl, hS7⟩ := h_164
            rw [if_pos (show (pBad q).1 = true from rfl)] at hS7
            exact j_vret C E dX11_value_167 rfl rfl (⟨rfl, rfl, rfl, by rw [show pVal T n (lvE T n 1).1 q = pBad q by unfold pVal; rw [if_neg hqb, if_neg hns, if_neg (fun h => c_79 (by rw [h])), if_neg (fun h => absurd ((nI_ltI (by omega) (by omega)).mp c_140) (by have := hw7.mpr h.2; omega))]]; exact hS7⟩)
          · refine j_aload_n (q := 144) C dX11_value_143 rfl rfl rfl ?_
            refine j_ldc (q := 146) C dX11_value_144 rfl kw_979 ?_
            refine j_aload_n (q := 147) C dX11_value_146 rfl rfl rfl ?_
            refine qg_which hQ (q' := 150) C dX11_value_147 rfl kw_884 ?_
            first | refine j_iaddN (q := 151) C dX11_value_150 rfl ?_ | refine j_iadd (q := 151) C dX11_value_150 rfl ?_
            refine j_top (v' := .int (nI (1000000 + wps.getD (tk T n q.2.1).2 0))) (by rfl) ?_
            refine jVT jc11 (q := 154) C dX11_value_151 rfl hs11 mX11_codes kw_1108 kw_1109 kw_50 (ctX11_codes hSo hSc hS (pI_l hn160 hI) (k := 1000000 + wps.getD (tk T n q.2.1).2 0)) rfl rfl (by decide) (Nat.le_of_ble_eq_true rfl) (by decide) (fun r_151 M_151 h_151 => ?_)
            obtain ⟨rfl, hS6⟩ := h_151
            refine j_goto (tgt := 162) C dX11_value_154 (by decide) ?_
            refine j_aload_n (q := 163) C dX11_value_162 rfl rfl rfl ?_
            refine j_iconst (v := nI 1) (q := 164) C dX11_value_163 rfl (by decide) ?_
            refine jVT jc11 (q := 167) C dX11_value_164 rfl hs11 mX11_need kw_1096 kw_1097 kw_46 (ctX11_need hSo hS6 (by rw [pEm_f hq]; exact hI.1) (p := True) (jb_t trivial).symm) rfl rfl (by decide) (Nat.le_of_ble_eq_true rfl) (by decide) (fun r_164 M_164 h_164 => ?_)
            obtain ⟨rfl, hS7⟩ := h_164
            rw [if_neg (by rw [pEm_f hq]; exact Bool.false_ne_true), if_pos trivial] at hS7
            exact j_vret C E dX11_value_167 rfl rfl (⟨rfl, rfl, rfl, by rw [show pVal T n (lvE T n 1).1 q = pNx T n (pEm (1000000 + wps.getD (tk T n q.2.1).2 0) q) by unfold pVal; rw [if_neg hqb, if_neg hns, if_neg (fun h => c_79 (by rw [h])), if_pos ⟨h1, hw7.mp (Nat.le_of_not_lt (fun h => c_140 (nI_lt (by omega) (by omega))))⟩]]; exact hS7⟩)
      · have h2 : (tk T n q.2.1).1 = 2 := (nI_eq (by omega) (by omega)).mp c_79
        refine j_iconst (v := nI 0) (q := 83) C dX11_value_82 rfl (by decide) ?_
        refine j_istore_n (lv' := [(1, _), (0, _)]) (q := 84) C dX11_value_83 rfl rfl (by decide) rfl ?_
        refine j_aload_n (q := 85) C dX11_value_84 rfl rfl rfl ?_
        refine qg_from hQ (q' := 88) C dX11_value_85 rfl kw_881 ?_
        refine j_istore_n (lv' := [(2, _), (1, _), (0, _)]) (q := 89) C dX11_value_88 rfl rfl (by decide) rfl ?_
        have hx1 := tt_le (T := T) hI.1
        have hdg : ∀ i, i < tt T n q.2.1 - fr T n q.2.1 → isDg (T (fr T n q.2.1 + i)) = true := tk_dig h2
        have j118 : jJ G X 0 0 sz Sh M 118 [(1, .int (nI (nm T (fr T n q.2.1) (tt T n q.2.1 - fr T n q.2.1)))), (0, .ref o)] [] := by
          refine j_aload_n (q := 119) C dX11_value_118 rfl rfl rfl ?_
          refine j_iload_n (q := 120) C dX11_value_119 rfl rfl rfl ?_
          refine jVT jc11 (q := 123) C dX11_value_120 rfl hs11 mX11_codes kw_1108 kw_1109 kw_50 (ctX11_codes hSo hSc hS (pI_l hn160 hI) (k := nm T (fr T n q.2.1) (tt T n q.2.1 - fr T n q.2.1))) rfl rfl (by decide) (Nat.le_of_ble_eq_true rfl) (by decide) (fun r_120 M_120 h_120 => ?_)
          obtain ⟨rfl, hS6⟩ := h_120
          refine j_goto (tgt := 162) C dX11_value_123 (by decide) ?_
          refine j_aload_n (q := 163) C dX11_value_162 rfl rfl rfl ?_
          refine j_iconst (v := nI 1) (q := 164) C dX11_value_163 rfl (by decide) ?_
          refine jVT jc11 (q := 167) C dX11_value_164 rfl hs11 mX11_need kw_1096 kw_1097 kw_46 (ctX11_need hSo hS6 (by rw [pEm_f hq]; exact hI.1) (p := True) (jb_t trivial).symm) rfl rfl (by decide) (Nat.le_of_ble_eq_true rfl) (by decide) (fun r_164 M_164 h_164 => ?_)
          obtain ⟨rfl, hS7⟩ := h_164
          rw [if_neg (by rw [pEm_f hq]; exact Bool.false_ne_true), if_pos trivial] at hS7
          exact j_vret C E dX11_value_167 rfl rfl (⟨rfl, rfl, rfl, by rw [show pVal T n (lvE T n 1).1 q = pNx T n (pEm (nm T (fr T n q.2.1) (tt T n q.2.1 - fr T n q.2.1)) q) by unfold pVal; rw [if_neg hqb, if_neg hns, if_pos h2, (tk_num hT h2).2.1]]; exact hS7⟩)
        have loop89 : ∀ (z k : Nat), k + z = tt T n q.2.1 - fr T n q.2.1 → jJ G X 0 0 sz Sh M 89 [(2, .int (nI (fr T n q.2.1 + k))), (1, .int (nI (nm T (fr T n q.2.1) k))), (0, .ref o)] [] := by
          intro z
          induction z with
          | zero =>
            intro k hk
            refine j_iload_n (q := 90) C dX11_value_89 rfl rfl rfl ?_
            refine j_aload_n (q := 91) C dX11_value_90 rfl rfl rfl ?_
            refine qg_to hQ (q' := 94) C dX11_value_91 rfl kw_882 ?_
            refine j_icmp_ge (q := 97) (tgt := 118) C dX11_value_94 rfl (by decide) (fun c_94 => ?_) (fun c_94 => absurd (nI_le (by omega) (by omega)) c_94)
            obtain rfl : tt T n q.2.1 - fr T n q.2.1 = k := by omega
            exact j_fewer (lv' := [(1, .int (nI (nm T (fr T n q.2.1) (tt T n q.2.1 - fr T n q.2.1)))), (0, .ref o)]) (by simp) j118
          | succ z ih =>
            intro k hk
            have hdk := of_decide_eq_true (hdg k (by omega))
            refine j_iload_n (q := 90) C dX11_value_89 rfl rfl rfl ?_
            refine j_aload_n (q := 91) C dX11_value_90 rfl rfl rfl ?_
            refine qg_to hQ (q' := 94) C dX11_value_91 rfl kw_882 ?_
            refine j_icmp_ge (q := 97) (tgt := 118) C dX11_value_94 rfl (by decide) (fun c_94 => absurd c_94 (fun h => absurd ((nI_leI (by omega) (by omega)).mp h) (by omega))) (fun c_94 => ?_)
            refine j_bipush (v := nI 10) (q := 99) C dX11_value_97 rfl (by decide) ?_
            refine j_iload_n (q := 100) C dX11_value_99 rfl rfl rfl ?_
            first | refine j_imulN (q := 101) C dX11_value_100 rfl ?_ | refine j_imul (q := 101) C dX11_value_100 rfl ?_
            refine j_aload_n (q := 102) C dX11_value_101 rfl rfl rfl ?_
            refine jg_Model_tape (q := 105) C dX11_value_102 rfl hs11 kw_876 hQ.2.2.1.2.2.2.2.2.2.1 ?_
            refine j_iload_n (q := 106) C dX11_value_105 rfl rfl rfl ?_
            refine j_iald (q := 107) C dX11_value_106 rfl hQ.2.2.1.1.2.2.2.2.2.2.1 (show fr T n q.2.1 + k < 160 by omega) (by decide) ?_
            rw [hQ.2.2.2.1.2.2.2 (fr T n q.2.1 + k) (by omega)]
            first | refine j_iaddN (q := 108) C dX11_value_107 rfl ?_ | refine j_iadd (q := 108) C dX11_value_107 rfl ?_
            refine j_bipush (v := nI 48) (q := 110) C dX11_value_108 rfl (by decide) ?_
            refine j_isub (q := 111) C dX11_value_110 rfl ?_
            refine j_top (v' := .int (nI (nm T (fr T n q.2.1) (k + 1)))) (congrArg Value.int (by rw [pk_sub (by omega), nm]; congr 1; omega)) ?_
            refine j_istore_n (lv' := [(1, _), (2, _), (0, _)]) (q := 112) C dX11_value_111 rfl rfl (by decide) rfl ?_
            first | refine j_iincN (lv' := [(2, _), (1, _), (0, _)]) (q := 115) C dX11_value_112 rfl rfl (by decide) rfl ?_ | refine j_iinc (lv' := [(2, _), (1, _), (0, _)]) (q := 115) C dX11_value_112 rfl rfl rfl (by decide) rfl ?_
            refine j_goto (tgt := 89) C dX11_value_115 (by decide) ?_
            exact j_fewer (lv' := [(2, .int (nI (fr T n q.2.1 + (k + 1)))), (1, .int (nI (nm T (fr T n q.2.1) (k + 1)))), (0, .ref o)]) (by simp [Nat.add_assoc]) (ih (k + 1) (by omega))
        exact j_fewer (lv' := [(2, .int (nI (fr T n q.2.1 + 0))), (1, .int (nI (nm T (fr T n q.2.1) 0))), (0, .ref o)]) (by simp [nm]) (loop89 (tt T n q.2.1 - fr T n q.2.1) 0 (by omega))
    · exact j_vret C E dX11_value_73 rfl rfl (⟨rfl, rfl, rfl, by rw [show pVal T n (lvE T n 1).1 q = q by unfold pVal; rw [if_pos (jb_n.mp c_70)]]; exact hS⟩)
  · have hk := jb_n.mp c_6
    have hq := hk.1
    obtain ⟨rfl, rfl, hd, rfl, hK⟩ := hG hq
    refine j_aload_n (q := 10) C dX11_value_9 rfl rfl rfl ?_
    refine j_aload_n (q := 11) C dX11_value_10 rfl rfl rfl ?_
    refine qg_deep hQ (q' := 14) C dX11_value_11 rfl kw_886 ?_
    refine j_iconst (v := nI 4) (q := 15) C dX11_value_14 rfl (by decide) ?_
    refine j_icmp_ne (q := 18) (tgt := 22) C dX11_value_15 rfl (by decide) (fun c_15 => ?_) (fun c_15 => absurd c_15 (by decide))
    refine j_iconst (v := nI 0) (q := 23) C dX11_value_22 rfl (by decide) ?_
    refine qp_isFault hSo hQ (by first | exact Or.inl rfl | exact Or.inr rfl) (q' := 26) C dX11_value_23 rfl kw_885 (fun M hQ => ?_)
    refine j_aload_n (q := 27) C dX11_value_26 rfl rfl rfl ?_
    refine j_dup (q := 28) C dX11_value_27 rfl rfl ?_
    refine qg_deep hQ (q' := 31) C dX11_value_28 rfl kw_886 ?_
    refine j_iconst (v := nI 1) (q := 32) C dX11_value_31 rfl (by decide) ?_
    first | refine j_iaddN (q := 33) C dX11_value_32 rfl ?_ | refine j_iadd (q := 33) C dX11_value_32 rfl ?_
    refine qp_deep hSo hQ (q' := 36) C dX11_value_33 rfl kw_886 (fun M hQ => ?_)
    have hS1 : rSt S o Sh T n M0 4 P M q := ⟨K, _, _, _, _, by rw [jb_f (by rw [hq]; decide)]; exact hQ, fun _ => ⟨rfl, rfl, hd, rfl, hK⟩⟩
    refine j_aload_n (q := 37) C dX11_value_36 rfl rfl rfl ?_
    refine j_iconst (v := nI 1) (q := 38) C dX11_value_37 rfl (by decide) ?_
    refine jVT jc11 (q := 41) C dX11_value_38 rfl hs11 mX11_need kw_1096 kw_1097 kw_46 (ctX11_need hSo hS1 hI.1 (p := True) (jb_t trivial).symm) rfl rfl (by decide) (Nat.le_of_ble_eq_true rfl) (by decide) (fun r_38 M_38 h_38 => ?_)
    obtain ⟨rfl, hS2⟩ := h_38
    rw [if_neg (by rw [hq]; decide), if_pos trivial] at hS2
    have hI2 := (pI_nx (T := T) hq (by rw [hk.2]; decide) hI).1
    refine j_aload_n (q := 42) C dX11_value_41 rfl rfl rfl ?_
    refine jVT jc11 (q := 45) C dX11_value_42 rfl hs11 mX11_either kw_1099 kw_1100 kw_47 (ctX11_either_0 hSo hSc hI2 hS2) rfl rfl (by decide) (Nat.le_of_ble_eq_true rfl) (by decide) (fun r_42 M_42 h_42 => ?_)
    obtain ⟨rfl, hS3⟩ := h_42
    have hI3 := pI_sub (pOr_G (k := 1) hT (lvE_G hT 0).1 (lvE_G hT 0).2 (by omega)) hI2
    obtain ⟨q3, e3⟩ : ∃ z, z = (pOr T n (lvE T n 0).1 (lvE T n 0).2 (pNx T n q)) := ⟨_, rfl⟩
    rw [← e3] at hS3 hI3
    obtain ⟨K3, b3, c3, d3, g3, hQ, hG3⟩ := hS3
    refine j_aload_n (q := 46) C dX11_value_45 rfl rfl rfl ?_
    refine j_dup (q := 47) C dX11_value_46 rfl rfl ?_
    refine qg_deep hQ (q' := 50) C dX11_value_47 rfl kw_886 ?_
    refine j_iconst (v := nI 1) (q := 51) C dX11_value_50 rfl (by decide) ?_
    refine j_isub (q := 52) C dX11_value_51 rfl ?_
    refine j_top (v' := .int (nI 3)) (by rfl) ?_
    refine qp_deep hSo hQ (q' := 55) C dX11_value_52 rfl kw_886 (fun M hQ => ?_)
    have hS4 : rSt S o Sh T n M0 3 P M q3 := ⟨K3, b3, c3, d3, g3, hQ, hG3⟩
    refine j_aload_n (q := 56) C dX11_value_55 rfl rfl rfl ?_
    refine j_aload_n (q := 57) C dX11_value_56 rfl rfl rfl ?_
    refine j_bipush (v := nI 41) (q := 59) C dX11_value_57 rfl (by decide) ?_
    refine jV1 jc11 (q := 62) C dX11_value_59 rfl hs11 mX11_isSign kw_1120 kw_1121 kw_54 (ctX11_isSign hS4 hI3.1 (s := 1) (by decide) rfl) rfl rfl (by decide) (Nat.le_of_ble_eq_true rfl) (by decide) ?_
    refine jVT jc11 (q := 65) C dX11_value_62 rfl hs11 mX11_need kw_1096 kw_1097 kw_46 (ctX11_need hSo hS4 hI3.1 (p := q3.1 = false ∧ tk T n q3.2.1 = (3, 1)) rfl) rfl rfl (by decide) (Nat.le_of_ble_eq_true rfl) (by decide) (fun r_62 M_62 h_62 => ?_)
    obtain ⟨rfl, hS5⟩ := h_62
    rw [need_exp] at hS5
    exact j_vret C E dX11_value_65 rfl rfl (⟨rfl, rfl, rfl, by rw [show pVal T n (lvE T n 1).1 q = pExp T n (3, 1) q3 by unfold pVal; rw [if_neg (by rw [hq]; decide), if_pos hk.2, e3]; rfl]; exact hS5⟩)

set_option maxRecDepth 100000 in
set_option maxHeartbeats 4000000 in
theorem ctX11_oneOf_1 {G : jG} {sz : Nat} {Sh : jS} {M : jM} {o : Nat} {S : Nat → Prop} {T : Nat → Nat} {n : Nat} {M0 : jM} {P : List Nat} {q : pS} (hSo : S o) (hSc : S (o + 10)) (hI : pI n P q) (hS : rSt S o Sh T n M0 3 P M q) : jC G yX11_oneOf cX11_oneOf 2 (Option.none : Option FieldType) (jrm 21 0 0) sz Sh M [.ref o] (jT sz Sh (fun r M1 => r = none ∧ rSt S o Sh T n M0 3 P M1 (pOne T n (lvE T n 1).1 q))) := by
  refine jC_start (by decide +kernel) (Nat.le_of_ble_eq_true rfl) (fun X C E hN0 => ?_)
  have hs11 := (rSt_lay hS).1.1.1
  have hn160 : n ≤ 160 := (rSt_lay hS).2.2.1
  have hT := (rSt_lay hS).2.2.2.1
  obtain ⟨Q, eQ⟩ : ∃ z, z = pOne T n (lvE T n 1).1 q := ⟨_, rfl⟩
  rw [← eQ] at E
  have loop4 : ∀ (f : Nat) (q : pS) (M : jM), pI n P q → (q.1 = false → n + 1 ≤ q.2.1 + f) → pLp T n oMul (pVal T n (lvE T n 1).1) f q = Q → rSt S o Sh T n M0 3 P M q → jJ G X 0 0 sz Sh M 4 [(0, .ref o)] [] := by
    intro f
    induction f with
    | zero =>
      intro q M hI hf hQe hS
      have hqb : q.1 = true := by
        cases h : q.1 with
        | true => rfl
        | false => have := hf h; have := hI.1; omega
      refine j_aload_n (q := 5) C dX11_oneOf_4 rfl rfl rfl ?_
      refine j_bipush (v := nI 42) (q := 7) C dX11_oneOf_5 rfl (by decide) ?_
      refine jV1 jc11 (q := 10) C dX11_oneOf_7 rfl hs11 mX11_isSign kw_1120 kw_1121 kw_54 (ctX11_isSign hS hI.1 (s := 5) (by decide) rfl) rfl rfl (by decide) (Nat.le_of_ble_eq_true rfl) (by decide) ?_
      refine j_if_ne (q := 13) (tgt := 22) C dX11_oneOf_10 rfl (by decide) (fun c_10 => absurd (jb_0.mpr (fun h => by rw [hqb] at h; cases h.1)) c_10) (fun c_10 => ?_)
      refine j_aload_n (q := 14) C dX11_oneOf_13 rfl rfl rfl ?_
      refine j_bipush (v := nI 47) (q := 16) C dX11_oneOf_14 rfl (by decide) ?_
      refine jV1 jc11 (q := 19) C dX11_oneOf_16 rfl hs11 mX11_isSign kw_1120 kw_1121 kw_54 (ctX11_isSign hS hI.1 (s := 6) (by decide) rfl) rfl rfl (by decide) (Nat.le_of_ble_eq_true rfl) (by decide) ?_
      refine j_if_eq (q := 22) (tgt := 55) C dX11_oneOf_19 rfl (by decide) (fun c_19 => ?_) (fun c_19 => absurd (jb_0.mpr (fun h => by rw [hqb] at h; cases h.1)) c_19)
      exact j_vret C E dX11_oneOf_55 rfl rfl (⟨rfl, rfl, rfl, by rw [← hQe]; exact hS⟩)
    | succ f ih =>
      intro q M hI hf hQe hS
      refine j_aload_n (q := 5) C dX11_oneOf_4 rfl rfl rfl ?_
      refine j_bipush (v := nI 42) (q := 7) C dX11_oneOf_5 rfl (by decide) ?_
      refine jV1 jc11 (q := 10) C dX11_oneOf_7 rfl hs11 mX11_isSign kw_1120 kw_1121 kw_54 (ctX11_isSign hS hI.1 (s := 5) (by decide) rfl) rfl rfl (by decide) (Nat.le_of_ble_eq_true rfl) (by decide) ?_
      refine j_if_ne (q := 13) (tgt := 22) C dX11_oneOf_10 rfl (by decide) (fun c_10 => ?_) (fun c_10 => ?_)
      · have hk := jb_n.mp c_10
        have hq := hk.1
        have ho : oMul (tk T n q.2.1) = some 2000006 := by rw [hk.2]; rfl
        obtain ⟨a1, a2, a3, a4⟩ := pI_step (c := 2000006) (pVal_G (k := 6) hT (lvE_G hT 1).1 (by omega)) hq (by rw [hk.2]; decide) hI
        have hS0 := hS
        obtain ⟨K, b, c, d, g, hQ, hG⟩ := hS0
        obtain ⟨rfl, rfl, hd, rfl, hK⟩ := hG hq
        refine j_aload_n (q := 23) C dX11_oneOf_22 rfl rfl rfl ?_
        refine j_bipush (v := nI 42) (q := 25) C dX11_oneOf_23 rfl (by decide) ?_
        refine jV1 jc11 (q := 28) C dX11_oneOf_25 rfl hs11 mX11_isSign kw_1120 kw_1121 kw_54 (ctX11_isSign hS hI.1 (s := 5) (by decide) rfl) rfl rfl (by decide) (Nat.le_of_ble_eq_true rfl) (by decide) ?_
        refine j_if_eq (q := 31) (tgt := 36) C dX11_oneOf_28 rfl (by decide) (fun c_28 => absurd c_28 c_10) (fun c_28 => ?_)
        refine j_ldc (q := 33) C dX11_oneOf_31 rfl kw_1123 ?_
        refine j_goto (tgt := 38) C dX11_oneOf_33 (by decide) ?_
        refine j_istore_n (lv' := [(1, _), (0, _)]) (q := 39) C dX11_oneOf_38 rfl rfl (by decide) rfl ?_
        refine j_aload_n (q := 40) C dX11_oneOf_39 rfl rfl rfl ?_
        refine jVT jc11 (q := 43) C dX11_oneOf_40 rfl hs11 mX11_next kw_1024 kw_1025 kw_41 (ctX11_next hSo (x := tt T n q.2.1) (tt_n (T := T) hI.1).1 hQ) rfl rfl (by decide) (Nat.le_of_ble_eq_true rfl) (by decide) (fun r_40 M_40 h_40 => ?_)
        obtain ⟨rfl, hN⟩ := h_40
        have hS1 := rSt_nx hq hN hK
        refine j_aload_n (q := 44) C dX11_oneOf_43 rfl rfl rfl ?_
        refine jVT jc11 (q := 47) C dX11_oneOf_44 rfl hs11 mX11_value kw_1117 kw_1118 kw_53 (ctX11_value_1 hSo hSc a1 hS1) rfl rfl (by decide) (Nat.le_of_ble_eq_true rfl) (by decide) (fun r_44 M_44 h_44 => ?_)
        obtain ⟨rfl, hS2⟩ := h_44
        refine j_aload_n (q := 48) C dX11_oneOf_47 rfl rfl rfl ?_
        refine j_iload_n (q := 49) C dX11_oneOf_48 rfl rfl rfl ?_
        refine j_top (v' := .int (nI 2000006)) (by rfl) ?_
        refine jVT jc11 (q := 52) C dX11_oneOf_49 rfl hs11 mX11_codes kw_1108 kw_1109 kw_50 (ctX11_codes hSo hSc hS2 (pI_l hn160 a2) (k := 2000006)) rfl rfl (by decide) (Nat.le_of_ble_eq_true rfl) (by decide) (fun r_49 M_49 h_49 => ?_)
        obtain ⟨rfl, hS3⟩ := h_49
        refine j_goto (tgt := 4) C dX11_oneOf_52 (by decide) ?_
        exact j_fewer (lv' := [(0, .ref o)]) (by simp) (ih _ M_49 a3 (fun _ => by have := hf hq; omega) (by rw [← hQe, pLp, if_neg (by rw [hq]; decide), ho]) hS3)
      · refine j_aload_n (q := 14) C dX11_oneOf_13 rfl rfl rfl ?_
        refine j_bipush (v := nI 47) (q := 16) C dX11_oneOf_14 rfl (by decide) ?_
        refine jV1 jc11 (q := 19) C dX11_oneOf_16 rfl hs11 mX11_isSign kw_1120 kw_1121 kw_54 (ctX11_isSign hS hI.1 (s := 6) (by decide) rfl) rfl rfl (by decide) (Nat.le_of_ble_eq_true rfl) (by decide) ?_
        refine j_if_eq (q := 22) (tgt := 55) C dX11_oneOf_19 rfl (by decide) (fun c_19 => ?_) (fun c_19 => ?_)
        · exact j_vret C E dX11_oneOf_55 rfl rfl (⟨rfl, rfl, rfl, by
                have e : pLp T n oMul (pVal T n (lvE T n 1).1) (f + 1) q = q := by
                  by_cases hb : q.1 = true
                  · exact pLp_bad hb _
                  · have ho : oMul (tk T n q.2.1) = none := by unfold oMul; rw [if_neg (fun h => jb_0.mp c_10 ⟨bf hb, h⟩), if_neg (fun h => jb_0.mp c_19 ⟨bf hb, h⟩)]
                    rw [pLp, if_neg hb, ho]
                rw [← hQe, e]; exact hS⟩)
        · have hk := jb_n.mp c_19
          have hq := hk.1
          have ho : oMul (tk T n q.2.1) = some 2000007 := by rw [hk.2]; rfl
          obtain ⟨a1, a2, a3, a4⟩ := pI_step (c := 2000007) (pVal_G (k := 6) hT (lvE_G hT 1).1 (by omega)) hq (by rw [hk.2]; decide) hI
          have hS0 := hS
          obtain ⟨K, b, c, d, g, hQ, hG⟩ := hS0
          obtain ⟨rfl, rfl, hd, rfl, hK⟩ := hG hq
          refine j_aload_n (q := 23) C dX11_oneOf_22 rfl rfl rfl ?_
          refine j_bipush (v := nI 42) (q := 25) C dX11_oneOf_23 rfl (by decide) ?_
          refine jV1 jc11 (q := 28) C dX11_oneOf_25 rfl hs11 mX11_isSign kw_1120 kw_1121 kw_54 (ctX11_isSign hS hI.1 (s := 5) (by decide) rfl) rfl rfl (by decide) (Nat.le_of_ble_eq_true rfl) (by decide) ?_
          refine j_if_eq (q := 31) (tgt := 36) C dX11_oneOf_28 rfl (by decide) (fun c_28 => ?_) (fun c_28 => absurd c_10 c_28)
          refine j_ldc (q := 38) C dX11_oneOf_36 rfl kw_1124 ?_
          refine j_istore_n (lv' := [(1, _), (0, _)]) (q := 39) C dX11_oneOf_38 rfl rfl (by decide) rfl ?_
          refine j_aload_n (q := 40) C dX11_oneOf_39 rfl rfl rfl ?_
          refine jVT jc11 (q := 43) C dX11_oneOf_40 rfl hs11 mX11_next kw_1024 kw_1025 kw_41 (ctX11_next hSo (x := tt T n q.2.1) (tt_n (T := T) hI.1).1 hQ) rfl rfl (by decide) (Nat.le_of_ble_eq_true rfl) (by decide) (fun r_40 M_40 h_40 => ?_)
          obtain ⟨rfl, hN⟩ := h_40
          have hS1 := rSt_nx hq hN hK
          refine j_aload_n (q := 44) C dX11_oneOf_43 rfl rfl rfl ?_
          refine jVT jc11 (q := 47) C dX11_oneOf_44 rfl hs11 mX11_value kw_1117 kw_1118 kw_53 (ctX11_value_1 hSo hSc a1 hS1) rfl rfl (by decide) (Nat.le_of_ble_eq_true rfl) (by decide) (fun r_44 M_44 h_44 => ?_)
          obtain ⟨rfl, hS2⟩ := h_44
          refine j_aload_n (q := 48) C dX11_oneOf_47 rfl rfl rfl ?_
          refine j_iload_n (q := 49) C dX11_oneOf_48 rfl rfl rfl ?_
          refine j_top (v' := .int (nI 2000007)) (by rfl) ?_
          refine jVT jc11 (q := 52) C dX11_oneOf_49 rfl hs11 mX11_codes kw_1108 kw_1109 kw_50 (ctX11_codes hSo hSc hS2 (pI_l hn160 a2) (k := 2000007)) rfl rfl (by decide) (Nat.le_of_ble_eq_true rfl) (by decide) (fun r_49 M_49 h_49 => ?_)
          obtain ⟨rfl, hS3⟩ := h_49
          refine j_goto (tgt := 4) C dX11_oneOf_52 (by decide) ?_
          exact j_fewer (lv' := [(0, .ref o)]) (by simp) (ih _ M_49 a3 (fun _ => by have := hf hq; omega) (by rw [← hQe, pLp, if_neg (by rw [hq]; decide), ho]) hS3)
  refine j_aload_n (q := 1) C dX11_oneOf_0 rfl rfl rfl ?_
  refine jVT jc11 (q := 4) C dX11_oneOf_1 rfl hs11 mX11_value kw_1117 kw_1118 kw_53 (ctX11_value_1 hSo hSc hI hS) rfl rfl (by decide) (Nat.le_of_ble_eq_true rfl) (by decide) (fun r_1 M_1 h_1 => ?_)
  obtain ⟨rfl, hS1⟩ := h_1
  exact loop4 160 _ M_1 (pI_sub (pVal_G (k := 6) hT (lvE_G hT 1).1 (by omega)) hI) (fun hf => by have := (((pVal_G (k := 6) hT (lvE_G hT 1).1 (by omega)) q hI.1).2.2.2 hf).2.1; omega) (by rw [eQ]; unfold pOne; rfl) hS1

set_option maxRecDepth 100000 in
set_option maxHeartbeats 4000000 in
theorem ctX11_sumOf_1 {G : jG} {sz : Nat} {Sh : jS} {M : jM} {o : Nat} {S : Nat → Prop} {T : Nat → Nat} {n : Nat} {M0 : jM} {P : List Nat} {q : pS} (hSo : S o) (hSc : S (o + 10)) (hI : pI n P q) (hS : rSt S o Sh T n M0 3 P M q) : jC G yX11_sumOf cX11_sumOf 2 (Option.none : Option FieldType) (jrm 22 0 0) sz Sh M [.ref o] (jT sz Sh (fun r M1 => r = none ∧ rSt S o Sh T n M0 3 P M1 (pSum T n (lvE T n 1).1 q))) := by
  refine jC_start (by decide +kernel) (Nat.le_of_ble_eq_true rfl) (fun X C E hN0 => ?_)
  have hs11 := (rSt_lay hS).1.1.1
  have hn160 : n ≤ 160 := (rSt_lay hS).2.2.1
  have hT := (rSt_lay hS).2.2.2.1
  obtain ⟨Q, eQ⟩ : ∃ z, z = pSum T n (lvE T n 1).1 q := ⟨_, rfl⟩
  rw [← eQ] at E
  have loop4 : ∀ (f : Nat) (q : pS) (M : jM), pI n P q → (q.1 = false → n + 1 ≤ q.2.1 + f) → pLp T n oAdd (pOne T n (lvE T n 1).1) f q = Q → rSt S o Sh T n M0 3 P M q → jJ G X 0 0 sz Sh M 4 [(0, .ref o)] [] := by
    intro f
    induction f with
    | zero =>
      intro q M hI hf hQe hS
      have hqb : q.1 = true := by
        cases h : q.1 with
        | true => rfl
        | false => have := hf h; have := hI.1; omega
      refine j_aload_n (q := 5) C dX11_sumOf_4 rfl rfl rfl ?_
      refine j_bipush (v := nI 43) (q := 7) C dX11_sumOf_5 rfl (by decide) ?_
      refine jV1 jc11 (q := 10) C dX11_sumOf_7 rfl hs11 mX11_isSign kw_1120 kw_1121 kw_54 (ctX11_isSign hS hI.1 (s := 3) (by decide) rfl) rfl rfl (by decide) (Nat.le_of_ble_eq_true rfl) (by decide) ?_
      refine j_if_ne (q := 13) (tgt := 22) C dX11_sumOf_10 rfl (by decide) (fun c_10 => absurd (jb_0.mpr (fun h => by rw [hqb] at h; cases h.1)) c_10) (fun c_10 => ?_)
      refine j_aload_n (q := 14) C dX11_sumOf_13 rfl rfl rfl ?_
      refine j_bipush (v := nI 45) (q := 16) C dX11_sumOf_14 rfl (by decide) ?_
      refine jV1 jc11 (q := 19) C dX11_sumOf_16 rfl hs11 mX11_isSign kw_1120 kw_1121 kw_54 (ctX11_isSign hS hI.1 (s := 4) (by decide) rfl) rfl rfl (by decide) (Nat.le_of_ble_eq_true rfl) (by decide) ?_
      refine j_if_eq (q := 22) (tgt := 55) C dX11_sumOf_19 rfl (by decide) (fun c_19 => ?_) (fun c_19 => absurd (jb_0.mpr (fun h => by rw [hqb] at h; cases h.1)) c_19)
      exact j_vret C E dX11_sumOf_55 rfl rfl (⟨rfl, rfl, rfl, by rw [← hQe]; exact hS⟩)
    | succ f ih =>
      intro q M hI hf hQe hS
      refine j_aload_n (q := 5) C dX11_sumOf_4 rfl rfl rfl ?_
      refine j_bipush (v := nI 43) (q := 7) C dX11_sumOf_5 rfl (by decide) ?_
      refine jV1 jc11 (q := 10) C dX11_sumOf_7 rfl hs11 mX11_isSign kw_1120 kw_1121 kw_54 (ctX11_isSign hS hI.1 (s := 3) (by decide) rfl) rfl rfl (by decide) (Nat.le_of_ble_eq_true rfl) (by decide) ?_
      refine j_if_ne (q := 13) (tgt := 22) C dX11_sumOf_10 rfl (by decide) (fun c_10 => ?_) (fun c_10 => ?_)
      · have hk := jb_n.mp c_10
        have hq := hk.1
        have ho : oAdd (tk T n q.2.1) = some 2000004 := by rw [hk.2]; rfl
        obtain ⟨a1, a2, a3, a4⟩ := pI_step (c := 2000004) (pOne_G (k := 6) hT (lvE_G hT 1).1 (by omega)) hq (by rw [hk.2]; decide) hI
        have hS0 := hS
        obtain ⟨K, b, c, d, g, hQ, hG⟩ := hS0
        obtain ⟨rfl, rfl, hd, rfl, hK⟩ := hG hq
        refine j_aload_n (q := 23) C dX11_sumOf_22 rfl rfl rfl ?_
        refine j_bipush (v := nI 43) (q := 25) C dX11_sumOf_23 rfl (by decide) ?_
        refine jV1 jc11 (q := 28) C dX11_sumOf_25 rfl hs11 mX11_isSign kw_1120 kw_1121 kw_54 (ctX11_isSign hS hI.1 (s := 3) (by decide) rfl) rfl rfl (by decide) (Nat.le_of_ble_eq_true rfl) (by decide) ?_
        refine j_if_eq (q := 31) (tgt := 36) C dX11_sumOf_28 rfl (by decide) (fun c_28 => absurd c_28 c_10) (fun c_28 => ?_)
        refine j_ldc (q := 33) C dX11_sumOf_31 rfl kw_1125 ?_
        refine j_goto (tgt := 38) C dX11_sumOf_33 (by decide) ?_
        refine j_istore_n (lv' := [(1, _), (0, _)]) (q := 39) C dX11_sumOf_38 rfl rfl (by decide) rfl ?_
        refine j_aload_n (q := 40) C dX11_sumOf_39 rfl rfl rfl ?_
        refine jVT jc11 (q := 43) C dX11_sumOf_40 rfl hs11 mX11_next kw_1024 kw_1025 kw_41 (ctX11_next hSo (x := tt T n q.2.1) (tt_n (T := T) hI.1).1 hQ) rfl rfl (by decide) (Nat.le_of_ble_eq_true rfl) (by decide) (fun r_40 M_40 h_40 => ?_)
        obtain ⟨rfl, hN⟩ := h_40
        have hS1 := rSt_nx hq hN hK
        refine j_aload_n (q := 44) C dX11_sumOf_43 rfl rfl rfl ?_
        refine jVT jc11 (q := 47) C dX11_sumOf_44 rfl hs11 mX11_oneOf kw_1114 kw_1115 kw_52 (ctX11_oneOf_1 hSo hSc a1 hS1) rfl rfl (by decide) (Nat.le_of_ble_eq_true rfl) (by decide) (fun r_44 M_44 h_44 => ?_)
        obtain ⟨rfl, hS2⟩ := h_44
        refine j_aload_n (q := 48) C dX11_sumOf_47 rfl rfl rfl ?_
        refine j_iload_n (q := 49) C dX11_sumOf_48 rfl rfl rfl ?_
        refine j_top (v' := .int (nI 2000004)) (by rfl) ?_
        refine jVT jc11 (q := 52) C dX11_sumOf_49 rfl hs11 mX11_codes kw_1108 kw_1109 kw_50 (ctX11_codes hSo hSc hS2 (pI_l hn160 a2) (k := 2000004)) rfl rfl (by decide) (Nat.le_of_ble_eq_true rfl) (by decide) (fun r_49 M_49 h_49 => ?_)
        obtain ⟨rfl, hS3⟩ := h_49
        refine j_goto (tgt := 4) C dX11_sumOf_52 (by decide) ?_
        exact j_fewer (lv' := [(0, .ref o)]) (by simp) (ih _ M_49 a3 (fun _ => by have := hf hq; omega) (by rw [← hQe, pLp, if_neg (by rw [hq]; decide), ho]) hS3)
      · refine j_aload_n (q := 14) C dX11_sumOf_13 rfl rfl rfl ?_
        refine j_bipush (v := nI 45) (q := 16) C dX11_sumOf_14 rfl (by decide) ?_
        refine jV1 jc11 (q := 19) C dX11_sumOf_16 rfl hs11 mX11_isSign kw_1120 kw_1121 kw_54 (ctX11_isSign hS hI.1 (s := 4) (by decide) rfl) rfl rfl (by decide) (Nat.le_of_ble_eq_true rfl) (by decide) ?_
        refine j_if_eq (q := 22) (tgt := 55) C dX11_sumOf_19 rfl (by decide) (fun c_19 => ?_) (fun c_19 => ?_)
        · exact j_vret C E dX11_sumOf_55 rfl rfl (⟨rfl, rfl, rfl, by
                have e : pLp T n oAdd (pOne T n (lvE T n 1).1) (f + 1) q = q := by
                  by_cases hb : q.1 = true
                  · exact pLp_bad hb _
                  · have ho : oAdd (tk T n q.2.1) = none := by unfold oAdd; rw [if_neg (fun h => jb_0.mp c_10 ⟨bf hb, h⟩), if_neg (fun h => jb_0.mp c_19 ⟨bf hb, h⟩)]
                    rw [pLp, if_neg hb, ho]
                rw [← hQe, e]; exact hS⟩)
        · have hk := jb_n.mp c_19
          have hq := hk.1
          have ho : oAdd (tk T n q.2.1) = some 2000005 := by rw [hk.2]; rfl
          obtain ⟨a1, a2, a3, a4⟩ := pI_step (c := 2000005) (pOne_G (k := 6) hT (lvE_G hT 1).1 (by omega)) hq (by rw [hk.2]; decide) hI
          have hS0 := hS
          obtain ⟨K, b, c, d, g, hQ, hG⟩ := hS0
          obtain ⟨rfl, rfl, hd, rfl, hK⟩ := hG hq
          refine j_aload_n (q := 23) C dX11_sumOf_22 rfl rfl rfl ?_
          refine j_bipush (v := nI 43) (q := 25) C dX11_sumOf_23 rfl (by decide) ?_
          refine jV1 jc11 (q := 28) C dX11_sumOf_25 rfl hs11 mX11_isSign kw_1120 kw_1121 kw_54 (ctX11_isSign hS hI.1 (s := 3) (by decide) rfl) rfl rfl (by decide) (Nat.le_of_ble_eq_true rfl) (by decide) ?_
          refine j_if_eq (q := 31) (tgt := 36) C dX11_sumOf_28 rfl (by decide) (fun c_28 => ?_) (fun c_28 => absurd c_10 c_28)
          refine j_ldc (q := 38) C dX11_sumOf_36 rfl kw_1126 ?_
          refine j_istore_n (lv' := [(1, _), (0, _)]) (q := 39) C dX11_sumOf_38 rfl rfl (by decide) rfl ?_
          refine j_aload_n (q := 40) C dX11_sumOf_39 rfl rfl rfl ?_
          refine jVT jc11 (q := 43) C dX11_sumOf_40 rfl hs11 mX11_next kw_1024 kw_1025 kw_41 (ctX11_next hSo (x := tt T n q.2.1) (tt_n (T := T) hI.1).1 hQ) rfl rfl (by decide) (Nat.le_of_ble_eq_true rfl) (by decide) (fun r_40 M_40 h_40 => ?_)
          obtain ⟨rfl, hN⟩ := h_40
          have hS1 := rSt_nx hq hN hK
          refine j_aload_n (q := 44) C dX11_sumOf_43 rfl rfl rfl ?_
          refine jVT jc11 (q := 47) C dX11_sumOf_44 rfl hs11 mX11_oneOf kw_1114 kw_1115 kw_52 (ctX11_oneOf_1 hSo hSc a1 hS1) rfl rfl (by decide) (Nat.le_of_ble_eq_true rfl) (by decide) (fun r_44 M_44 h_44 => ?_)
          obtain ⟨rfl, hS2⟩ := h_44
          refine j_aload_n (q := 48) C dX11_sumOf_47 rfl rfl rfl ?_
          refine j_iload_n (q := 49) C dX11_sumOf_48 rfl rfl rfl ?_
          refine j_top (v' := .int (nI 2000005)) (by rfl) ?_
          refine jVT jc11 (q := 52) C dX11_sumOf_49 rfl hs11 mX11_codes kw_1108 kw_1109 kw_50 (ctX11_codes hSo hSc hS2 (pI_l hn160 a2) (k := 2000005)) rfl rfl (by decide) (Nat.le_of_ble_eq_true rfl) (by decide) (fun r_49 M_49 h_49 => ?_)
          obtain ⟨rfl, hS3⟩ := h_49
          refine j_goto (tgt := 4) C dX11_sumOf_52 (by decide) ?_
          exact j_fewer (lv' := [(0, .ref o)]) (by simp) (ih _ M_49 a3 (fun _ => by have := hf hq; omega) (by rw [← hQe, pLp, if_neg (by rw [hq]; decide), ho]) hS3)
  refine j_aload_n (q := 1) C dX11_sumOf_0 rfl rfl rfl ?_
  refine jVT jc11 (q := 4) C dX11_sumOf_1 rfl hs11 mX11_oneOf kw_1114 kw_1115 kw_52 (ctX11_oneOf_1 hSo hSc hI hS) rfl rfl (by decide) (Nat.le_of_ble_eq_true rfl) (by decide) (fun r_1 M_1 h_1 => ?_)
  obtain ⟨rfl, hS1⟩ := h_1
  exact loop4 160 _ M_1 (pI_sub (pOne_G (k := 6) hT (lvE_G hT 1).1 (by omega)) hI) (fun hf => by have := (((pOne_G (k := 6) hT (lvE_G hT 1).1 (by omega)) q hI.1).2.2.2 hf).2.1; omega) (by rw [eQ]; unfold pSum; rfl) hS1

set_option maxRecDepth 100000 in
set_option maxHeartbeats 4000000 in
theorem ctX11_notOf_1 {G : jG} {sz : Nat} {Sh : jS} {M : jM} {o : Nat} {S : Nat → Prop} {T : Nat → Nat} {n : Nat} {M0 : jM} {P : List Nat} {q : pS} (hSo : S o) (hSc : S (o + 10)) (hI : pI n P q) (hS : rSt S o Sh T n M0 3 P M q) : jC G yX11_notOf cX11_notOf 2 (Option.none : Option FieldType) (jrm 23 0 0) sz Sh M [.ref o] (jT sz Sh (fun r M1 => r = none ∧ rSt S o Sh T n M0 3 P M1 (pNot T n (lvE T n 1).1 (lvE T n 1).2 q))) := by
  refine jC_start (by decide +kernel) (Nat.le_of_ble_eq_true rfl) (fun X C E hN0 => ?_)
  have hs11 := (rSt_lay hS).1.1.1
  have hn160 : n ≤ 160 := (rSt_lay hS).2.2.1
  have hT := (rSt_lay hS).2.2.2.1
  have hS0 := hS
  obtain ⟨K, b, c, d, g, hQ, hG⟩ := hS0
  refine j_aload_n (q := 1) C dX11_notOf_0 rfl rfl rfl ?_
  refine j_bipush (v := nI 57) (q := 3) C dX11_notOf_1 rfl (by decide) ?_
  refine jV1 jc11 (q := 6) C dX11_notOf_3 rfl hs11 mX11_isWord kw_1093 kw_1094 kw_45 (ctX11_isWord hS (s := 12) (by decide) rfl) rfl rfl (by decide) (Nat.le_of_ble_eq_true rfl) (by decide) ?_
  refine j_if_eq (q := 9) (tgt := 62) C dX11_notOf_6 rfl (by decide) (fun c_6 => ?_) (fun c_6 => ?_)
  · refine j_aload_n (q := 63) C dX11_notOf_62 rfl rfl rfl ?_
    refine jVT jc11 (q := 66) C dX11_notOf_63 rfl hs11 mX11_sumOf kw_1111 kw_1112 kw_51 (ctX11_sumOf_1 hSo hSc hI hS) rfl rfl (by decide) (Nat.le_of_ble_eq_true rfl) (by decide) (fun r_63 M_63 h_63 => ?_)
    obtain ⟨rfl, hS3⟩ := h_63
    have hI3 := pI_sub (pSum_G (k := 6) hT (lvE_G hT 1).1 (by omega)) hI
    have eN : pNot T n (lvE T n 1).1 (lvE T n 1).2 q = pCmp T n (lvE T n 1).1 (pSum T n (lvE T n 1).1 q) := by
      unfold pNot
      by_cases hb : q.1 = true
      · rw [if_pos hb, ((pSum_G (k := 6) hT (lvE_G hT 1).1 (by omega)) q hI.1).1 hb]; unfold pCmp; rw [if_pos hb]
      · rw [if_neg hb, if_neg (fun h => jb_0.mp c_6 ⟨bf hb, h⟩)]
    obtain ⟨q3, e3⟩ : ∃ z, z = pSum T n (lvE T n 1).1 q := ⟨_, rfl⟩
    rw [← e3] at hS3 hI3 eN
    refine j_aload_n (q := 67) C dX11_notOf_66 rfl rfl rfl ?_
    refine j_bipush (v := nI 60) (q := 69) C dX11_notOf_67 rfl (by decide) ?_
    refine jV1 jc11 (q := 72) C dX11_notOf_69 rfl hs11 mX11_isSign kw_1120 kw_1121 kw_54 (ctX11_isSign hS3 hI3.1 (s := 7) (by decide) rfl) rfl rfl (by decide) (Nat.le_of_ble_eq_true rfl) (by decide) ?_
    refine j_if_ne (q := 75) (tgt := 84) C dX11_notOf_72 rfl (by decide) (fun c_72 => ?_) (fun c_72 => ?_)
    · have hk := jb_n.mp c_72
      have hq3 := hk.1
      have ho : oCmp (tk T n q3.2.1) = some 2000002 := by rw [hk.2]; rfl
      obtain ⟨a1, a2, a3, a4⟩ := pI_step (c := 2000002) (pSum_G (k := 6) hT (lvE_G hT 1).1 (by omega)) hq3 (by rw [hk.2]; decide) hI3
      have hS0 := hS3
      obtain ⟨K, b, c, d, g, hQ, hG⟩ := hS0
      obtain ⟨rfl, rfl, hd, rfl, hK⟩ := hG hq3
      refine j_aload_n (q := 85) C dX11_notOf_84 rfl rfl rfl ?_
      refine j_bipush (v := nI 60) (q := 87) C dX11_notOf_85 rfl (by decide) ?_
      refine jV1 jc11 (q := 90) C dX11_notOf_87 rfl hs11 mX11_isSign kw_1120 kw_1121 kw_54 (ctX11_isSign hS3 hI3.1 (s := 7) (by decide) rfl) rfl rfl (by decide) (Nat.le_of_ble_eq_true rfl) (by decide) ?_
      refine j_if_eq (q := 93) (tgt := 98) C dX11_notOf_90 rfl (by decide) (fun c_90 => absurd c_90 c_72) (fun c_90 => ?_)
      refine j_ldc (q := 95) C dX11_notOf_93 rfl kw_1127 ?_
      refine j_goto (tgt := 100) C dX11_notOf_95 (by decide) ?_
      refine j_istore_n (lv' := [(1, _), (0, _)]) (q := 101) C dX11_notOf_100 rfl rfl (by decide) rfl ?_
      refine j_aload_n (q := 102) C dX11_notOf_101 rfl rfl rfl ?_
      refine jVT jc11 (q := 105) C dX11_notOf_102 rfl hs11 mX11_next kw_1024 kw_1025 kw_41 (ctX11_next hSo (x := tt T n q3.2.1) (tt_n (T := T) hI3.1).1 hQ) rfl rfl (by decide) (Nat.le_of_ble_eq_true rfl) (by decide) (fun r_102 M_102 h_102 => ?_)
      obtain ⟨rfl, hN⟩ := h_102
      have hS4 := rSt_nx hq3 hN hK
      refine j_aload_n (q := 106) C dX11_notOf_105 rfl rfl rfl ?_
      refine jVT jc11 (q := 109) C dX11_notOf_106 rfl hs11 mX11_sumOf kw_1111 kw_1112 kw_51 (ctX11_sumOf_1 hSo hSc a1 hS4) rfl rfl (by decide) (Nat.le_of_ble_eq_true rfl) (by decide) (fun r_106 M_106 h_106 => ?_)
      obtain ⟨rfl, hS5⟩ := h_106
      refine j_aload_n (q := 110) C dX11_notOf_109 rfl rfl rfl ?_
      refine j_iload_n (q := 111) C dX11_notOf_110 rfl rfl rfl ?_
      refine j_top (v' := .int (nI 2000002)) (by rfl) ?_
      refine jVT jc11 (q := 114) C dX11_notOf_111 rfl hs11 mX11_codes kw_1108 kw_1109 kw_50 (ctX11_codes hSo hSc hS5 (pI_l hn160 a2) (k := 2000002)) rfl rfl (by decide) (Nat.le_of_ble_eq_true rfl) (by decide) (fun r_111 M_111 h_111 => ?_)
      obtain ⟨rfl, hS6⟩ := h_111
      exact j_vret C E dX11_notOf_114 rfl rfl (⟨rfl, rfl, rfl, by rw [eN]; unfold pCmp; rw [if_neg (by rw [hq3]; decide), ho]; exact hS6⟩)
    · refine j_aload_n (q := 76) C dX11_notOf_75 rfl rfl rfl ?_
      refine j_bipush (v := nI 61) (q := 78) C dX11_notOf_76 rfl (by decide) ?_
      refine jV1 jc11 (q := 81) C dX11_notOf_78 rfl hs11 mX11_isSign kw_1120 kw_1121 kw_54 (ctX11_isSign hS3 hI3.1 (s := 8) (by decide) rfl) rfl rfl (by decide) (Nat.le_of_ble_eq_true rfl) (by decide) ?_
      refine j_if_eq (q := 84) (tgt := 114) C dX11_notOf_81 rfl (by decide) (fun c_81 => ?_) (fun c_81 => ?_)
      · exact j_vret C E dX11_notOf_114 rfl rfl (⟨rfl, rfl, rfl, by
            rw [eN]; unfold pCmp
            by_cases hb : q3.1 = true
            · rw [if_pos hb]; exact hS3
            · have ho : oCmp (tk T n q3.2.1) = none := by unfold oCmp; rw [if_neg (fun h => jb_0.mp c_72 ⟨bf hb, h⟩), if_neg (fun h => jb_0.mp c_81 ⟨bf hb, h⟩)]
              rw [if_neg hb, ho]; exact hS3⟩)
      · have hk := jb_n.mp c_81
        have hq3 := hk.1
        have ho : oCmp (tk T n q3.2.1) = some 2000003 := by rw [hk.2]; rfl
        obtain ⟨a1, a2, a3, a4⟩ := pI_step (c := 2000003) (pSum_G (k := 6) hT (lvE_G hT 1).1 (by omega)) hq3 (by rw [hk.2]; decide) hI3
        have hS0 := hS3
        obtain ⟨K, b, c, d, g, hQ, hG⟩ := hS0
        obtain ⟨rfl, rfl, hd, rfl, hK⟩ := hG hq3
        refine j_aload_n (q := 85) C dX11_notOf_84 rfl rfl rfl ?_
        refine j_bipush (v := nI 60) (q := 87) C dX11_notOf_85 rfl (by decide) ?_
        refine jV1 jc11 (q := 90) C dX11_notOf_87 rfl hs11 mX11_isSign kw_1120 kw_1121 kw_54 (ctX11_isSign hS3 hI3.1 (s := 7) (by decide) rfl) rfl rfl (by decide) (Nat.le_of_ble_eq_true rfl) (by decide) ?_
        refine j_if_eq (q := 93) (tgt := 98) C dX11_notOf_90 rfl (by decide) (fun c_90 => ?_) (fun c_90 => absurd c_72 c_90)
        refine j_ldc (q := 100) C dX11_notOf_98 rfl kw_1128 ?_
        refine j_istore_n (lv' := [(1, _), (0, _)]) (q := 101) C dX11_notOf_100 rfl rfl (by decide) rfl ?_
        refine j_aload_n (q := 102) C dX11_notOf_101 rfl rfl rfl ?_
        refine jVT jc11 (q := 105) C dX11_notOf_102 rfl hs11 mX11_next kw_1024 kw_1025 kw_41 (ctX11_next hSo (x := tt T n q3.2.1) (tt_n (T := T) hI3.1).1 hQ) rfl rfl (by decide) (Nat.le_of_ble_eq_true rfl) (by decide) (fun r_102 M_102 h_102 => ?_)
        obtain ⟨rfl, hN⟩ := h_102
        have hS4 := rSt_nx hq3 hN hK
        refine j_aload_n (q := 106) C dX11_notOf_105 rfl rfl rfl ?_
        refine jVT jc11 (q := 109) C dX11_notOf_106 rfl hs11 mX11_sumOf kw_1111 kw_1112 kw_51 (ctX11_sumOf_1 hSo hSc a1 hS4) rfl rfl (by decide) (Nat.le_of_ble_eq_true rfl) (by decide) (fun r_106 M_106 h_106 => ?_)
        obtain ⟨rfl, hS5⟩ := h_106
        refine j_aload_n (q := 110) C dX11_notOf_109 rfl rfl rfl ?_
        refine j_iload_n (q := 111) C dX11_notOf_110 rfl rfl rfl ?_
        refine j_top (v' := .int (nI 2000003)) (by rfl) ?_
        refine jVT jc11 (q := 114) C dX11_notOf_111 rfl hs11 mX11_codes kw_1108 kw_1109 kw_50 (ctX11_codes hSo hSc hS5 (pI_l hn160 a2) (k := 2000003)) rfl rfl (by decide) (Nat.le_of_ble_eq_true rfl) (by decide) (fun r_111 M_111 h_111 => ?_)
        obtain ⟨rfl, hS6⟩ := h_111
        exact j_vret C E dX11_notOf_114 rfl rfl (⟨rfl, rfl, rfl, by rw [eN]; unfold pCmp; rw [if_neg (by rw [hq3]; decide), ho]; exact hS6⟩)
  · have hk := jb_n.mp c_6
    have hq := hk.1
    obtain ⟨rfl, rfl, hd, rfl, hK⟩ := hG hq
    refine j_aload_n (q := 10) C dX11_notOf_9 rfl rfl rfl ?_
    refine j_aload_n (q := 11) C dX11_notOf_10 rfl rfl rfl ?_
    refine qg_deep hQ (q' := 14) C dX11_notOf_11 rfl kw_886 ?_
    refine j_iconst (v := nI 4) (q := 15) C dX11_notOf_14 rfl (by decide) ?_
    refine j_icmp_ne (q := 18) (tgt := 22) C dX11_notOf_15 rfl (by decide) (fun c_15 => ?_) (fun c_15 => absurd c_15 (by decide))
    refine j_iconst (v := nI 0) (q := 23) C dX11_notOf_22 rfl (by decide) ?_
    refine qp_isFault hSo hQ (by first | exact Or.inl rfl | exact Or.inr rfl) (q' := 26) C dX11_notOf_23 rfl kw_885 (fun M hQ => ?_)
    refine j_aload_n (q := 27) C dX11_notOf_26 rfl rfl rfl ?_
    refine j_dup (q := 28) C dX11_notOf_27 rfl rfl ?_
    refine qg_deep hQ (q' := 31) C dX11_notOf_28 rfl kw_886 ?_
    refine j_iconst (v := nI 1) (q := 32) C dX11_notOf_31 rfl (by decide) ?_
    first | refine j_iaddN (q := 33) C dX11_notOf_32 rfl ?_ | refine j_iadd (q := 33) C dX11_notOf_32 rfl ?_
    refine qp_deep hSo hQ (q' := 36) C dX11_notOf_33 rfl kw_886 (fun M hQ => ?_)
    have hS1 : rSt S o Sh T n M0 4 P M q := ⟨K, _, _, _, _, by rw [jb_f (by rw [hq]; decide)]; exact hQ, fun _ => ⟨rfl, rfl, hd, rfl, hK⟩⟩
    refine j_aload_n (q := 37) C dX11_notOf_36 rfl rfl rfl ?_
    refine j_iconst (v := nI 1) (q := 38) C dX11_notOf_37 rfl (by decide) ?_
    refine jVT jc11 (q := 41) C dX11_notOf_38 rfl hs11 mX11_need kw_1096 kw_1097 kw_46 (ctX11_need hSo hS1 hI.1 (p := True) (jb_t trivial).symm) rfl rfl (by decide) (Nat.le_of_ble_eq_true rfl) (by decide) (fun r_38 M_38 h_38 => ?_)
    obtain ⟨rfl, hS2⟩ := h_38
    rw [if_neg (by rw [hq]; decide), if_pos trivial] at hS2
    have hI2 := (pI_nx (T := T) hq (by rw [hk.2]; decide) hI).1
    refine j_aload_n (q := 42) C dX11_notOf_41 rfl rfl rfl ?_
    refine jVT jc11 (q := 45) C dX11_notOf_42 rfl hs11 mX11_notOf kw_1105 kw_1106 kw_49 (ctX11_notOf_0 hSo hSc hI2 hS2) rfl rfl (by decide) (Nat.le_of_ble_eq_true rfl) (by decide) (fun r_42 M_42 h_42 => ?_)
    obtain ⟨rfl, hS3⟩ := h_42
    have hI3 := pI_sub (pNot_G (k := 1) hT (lvE_G hT 0).1 (lvE_G hT 0).2 (by omega)) hI2
    obtain ⟨q3, e3⟩ : ∃ z, z = (pNot T n (lvE T n 0).1 (lvE T n 0).2 (pNx T n q)) := ⟨_, rfl⟩
    rw [← e3] at hS3 hI3
    obtain ⟨K3, b3, c3, d3, g3, hQ, hG3⟩ := hS3
    refine j_aload_n (q := 46) C dX11_notOf_45 rfl rfl rfl ?_
    refine j_dup (q := 47) C dX11_notOf_46 rfl rfl ?_
    refine qg_deep hQ (q' := 50) C dX11_notOf_47 rfl kw_886 ?_
    refine j_iconst (v := nI 1) (q := 51) C dX11_notOf_50 rfl (by decide) ?_
    refine j_isub (q := 52) C dX11_notOf_51 rfl ?_
    refine j_top (v' := .int (nI 3)) (by rfl) ?_
    refine qp_deep hSo hQ (q' := 55) C dX11_notOf_52 rfl kw_886 (fun M hQ => ?_)
    have hS4 : rSt S o Sh T n M0 3 P M q3 := ⟨K3, b3, c3, d3, g3, hQ, hG3⟩
    refine j_aload_n (q := 56) C dX11_notOf_55 rfl rfl rfl ?_
    refine j_ldc (q := 58) C dX11_notOf_56 rfl kw_984 ?_
    refine j_top (v' := .int (nI 2000008)) (by rfl) ?_
    refine jVT jc11 (q := 61) C dX11_notOf_58 rfl hs11 mX11_codes kw_1108 kw_1109 kw_50 (ctX11_codes hSo hSc hS4 (pI_l hn160 hI3) (k := 2000008)) rfl rfl (by decide) (Nat.le_of_ble_eq_true rfl) (by decide) (fun r_58 M_58 h_58 => ?_)
    obtain ⟨rfl, hS5⟩ := h_58
    exact j_vret C E dX11_notOf_61 rfl rfl (⟨rfl, rfl, rfl, by rw [show pNot T n (lvE T n 1).1 (lvE T n 1).2 q = pEm 2000008 q3 by unfold pNot; rw [if_neg (by rw [hq]; decide), if_pos hk.2, e3]; rfl]; exact hS5⟩)

set_option maxRecDepth 100000 in
set_option maxHeartbeats 4000000 in
theorem ctX11_both_1 {G : jG} {sz : Nat} {Sh : jS} {M : jM} {o : Nat} {S : Nat → Prop} {T : Nat → Nat} {n : Nat} {M0 : jM} {P : List Nat} {q : pS} (hSo : S o) (hSc : S (o + 10)) (hI : pI n P q) (hS : rSt S o Sh T n M0 3 P M q) : jC G yX11_both cX11_both 1 (Option.none : Option FieldType) (jrm 24 0 0) sz Sh M [.ref o] (jT sz Sh (fun r M1 => r = none ∧ rSt S o Sh T n M0 3 P M1 (pAnd T n (lvE T n 1).1 (lvE T n 1).2 q))) := by
  refine jC_start (by decide +kernel) (Nat.le_of_ble_eq_true rfl) (fun X C E hN0 => ?_)
  have hs11 := (rSt_lay hS).1.1.1
  have hn160 : n ≤ 160 := (rSt_lay hS).2.2.1
  have hT := (rSt_lay hS).2.2.2.1
  obtain ⟨Q, eQ⟩ : ∃ z, z = pAnd T n (lvE T n 1).1 (lvE T n 1).2 q := ⟨_, rfl⟩
  rw [← eQ] at E
  have loop4 : ∀ (f : Nat) (q : pS) (M : jM), pI n P q → (q.1 = false → n + 1 ≤ q.2.1 + f) → pLp T n oAnd (pNot T n (lvE T n 1).1 (lvE T n 1).2) f q = Q → rSt S o Sh T n M0 3 P M q → jJ G X 0 0 sz Sh M 4 [(0, .ref o)] [] := by
    intro f
    induction f with
    | zero =>
      intro q M hI hf hQe hS
      have hqb : q.1 = true := by
        cases h : q.1 with
        | true => rfl
        | false => have := hf h; have := hI.1; omega
      refine j_aload_n (q := 5) C dX11_both_4 rfl rfl rfl ?_
      refine j_bipush (v := nI 50) (q := 7) C dX11_both_5 rfl (by decide) ?_
      refine jV1 jc11 (q := 10) C dX11_both_7 rfl hs11 mX11_isWord kw_1093 kw_1094 kw_45 (ctX11_isWord hS (s := 10) (by decide) rfl) rfl rfl (by decide) (Nat.le_of_ble_eq_true rfl) (by decide) ?_
      refine j_if_eq (q := 13) (tgt := 30) C dX11_both_10 rfl (by decide) (fun c_10 => ?_) (fun c_10 => absurd (jb_0.mpr (fun h => by rw [hqb] at h; cases h.1)) c_10)
      exact j_vret C E dX11_both_30 rfl rfl (⟨rfl, rfl, rfl, by rw [← hQe]; exact hS⟩)
    | succ f ih =>
      intro q M hI hf hQe hS
      refine j_aload_n (q := 5) C dX11_both_4 rfl rfl rfl ?_
      refine j_bipush (v := nI 50) (q := 7) C dX11_both_5 rfl (by decide) ?_
      refine jV1 jc11 (q := 10) C dX11_both_7 rfl hs11 mX11_isWord kw_1093 kw_1094 kw_45 (ctX11_isWord hS (s := 10) (by decide) rfl) rfl rfl (by decide) (Nat.le_of_ble_eq_true rfl) (by decide) ?_
      refine j_if_eq (q := 13) (tgt := 30) C dX11_both_10 rfl (by decide) (fun c_10 => ?_) (fun c_10 => ?_)
      · exact j_vret C E dX11_both_30 rfl rfl (⟨rfl, rfl, rfl, by
              have e : pLp T n oAnd (pNot T n (lvE T n 1).1 (lvE T n 1).2) (f + 1) q = q := by
                by_cases hb : q.1 = true
                · exact pLp_bad hb _
                · have ho : oAnd (tk T n q.2.1) = none := by unfold oAnd; rw [if_neg (fun h => jb_0.mp c_10 ⟨bf hb, h⟩)]
                  rw [pLp, if_neg hb, ho]
              rw [← hQe, e]; exact hS⟩)
      · have hk := jb_n.mp c_10
        have hq := hk.1
        have ho : oAnd (tk T n q.2.1) = some 2000001 := by rw [hk.2]; rfl
        obtain ⟨a1, a2, a3, a4⟩ := pI_step (c := 2000001) (pNot_G (k := 6) hT (lvE_G hT 1).1 (lvE_G hT 1).2 (by omega)) hq (by rw [hk.2]; decide) hI
        have hS0 := hS
        obtain ⟨K, b, c, d, g, hQ, hG⟩ := hS0
        obtain ⟨rfl, rfl, hd, rfl, hK⟩ := hG hq
        refine j_aload_n (q := 14) C dX11_both_13 rfl rfl rfl ?_
        refine jVT jc11 (q := 17) C dX11_both_14 rfl hs11 mX11_next kw_1024 kw_1025 kw_41 (ctX11_next hSo (x := tt T n q.2.1) (tt_n (T := T) hI.1).1 hQ) rfl rfl (by decide) (Nat.le_of_ble_eq_true rfl) (by decide) (fun r_14 M_14 h_14 => ?_)
        obtain ⟨rfl, hN⟩ := h_14
        have hS1 := rSt_nx hq hN hK
        refine j_aload_n (q := 18) C dX11_both_17 rfl rfl rfl ?_
        refine jVT jc11 (q := 21) C dX11_both_18 rfl hs11 mX11_notOf kw_1105 kw_1106 kw_49 (ctX11_notOf_1 hSo hSc a1 hS1) rfl rfl (by decide) (Nat.le_of_ble_eq_true rfl) (by decide) (fun r_18 M_18 h_18 => ?_)
        obtain ⟨rfl, hS2⟩ := h_18
        refine j_aload_n (q := 22) C dX11_both_21 rfl rfl rfl ?_
        refine j_ldc (q := 24) C dX11_both_22 rfl kw_1129 ?_
        refine j_top (v' := .int (nI 2000001)) (by rfl) ?_
        refine jVT jc11 (q := 27) C dX11_both_24 rfl hs11 mX11_codes kw_1108 kw_1109 kw_50 (ctX11_codes hSo hSc hS2 (pI_l hn160 a2) (k := 2000001)) rfl rfl (by decide) (Nat.le_of_ble_eq_true rfl) (by decide) (fun r_24 M_24 h_24 => ?_)
        obtain ⟨rfl, hS3⟩ := h_24
        refine j_goto (tgt := 4) C dX11_both_27 (by decide) ?_
        exact ih _ M_24 a3 (fun _ => by have := hf hq; omega) (by rw [← hQe, pLp, if_neg (by rw [hq]; decide), ho]) hS3
  refine j_aload_n (q := 1) C dX11_both_0 rfl rfl rfl ?_
  refine jVT jc11 (q := 4) C dX11_both_1 rfl hs11 mX11_notOf kw_1105 kw_1106 kw_49 (ctX11_notOf_1 hSo hSc hI hS) rfl rfl (by decide) (Nat.le_of_ble_eq_true rfl) (by decide) (fun r_1 M_1 h_1 => ?_)
  obtain ⟨rfl, hS1⟩ := h_1
  exact loop4 160 _ M_1 (pI_sub (pNot_G (k := 6) hT (lvE_G hT 1).1 (lvE_G hT 1).2 (by omega)) hI) (fun hf => by have := (((pNot_G (k := 6) hT (lvE_G hT 1).1 (lvE_G hT 1).2 (by omega)) q hI.1).2.2.2 hf).2.1; omega) (by rw [eQ]; unfold pAnd; rfl) hS1

set_option maxRecDepth 100000 in
set_option maxHeartbeats 4000000 in
theorem ctX11_either_1 {G : jG} {sz : Nat} {Sh : jS} {M : jM} {o : Nat} {S : Nat → Prop} {T : Nat → Nat} {n : Nat} {M0 : jM} {P : List Nat} {q : pS} (hSo : S o) (hSc : S (o + 10)) (hI : pI n P q) (hS : rSt S o Sh T n M0 3 P M q) : jC G yX11_either cX11_either 1 (Option.none : Option FieldType) (jrm 25 0 0) sz Sh M [.ref o] (jT sz Sh (fun r M1 => r = none ∧ rSt S o Sh T n M0 3 P M1 (pOr T n (lvE T n 1).1 (lvE T n 1).2 q))) := by
  refine jC_start (by decide +kernel) (Nat.le_of_ble_eq_true rfl) (fun X C E hN0 => ?_)
  have hs11 := (rSt_lay hS).1.1.1
  have hn160 : n ≤ 160 := (rSt_lay hS).2.2.1
  have hT := (rSt_lay hS).2.2.2.1
  obtain ⟨Q, eQ⟩ : ∃ z, z = pOr T n (lvE T n 1).1 (lvE T n 1).2 q := ⟨_, rfl⟩
  rw [← eQ] at E
  have loop4 : ∀ (f : Nat) (q : pS) (M : jM), pI n P q → (q.1 = false → n + 1 ≤ q.2.1 + f) → pLp T n oOr (pAnd T n (lvE T n 1).1 (lvE T n 1).2) f q = Q → rSt S o Sh T n M0 3 P M q → jJ G X 0 0 sz Sh M 4 [(0, .ref o)] [] := by
    intro f
    induction f with
    | zero =>
      intro q M hI hf hQe hS
      have hqb : q.1 = true := by
        cases h : q.1 with
        | true => rfl
        | false => have := hf h; have := hI.1; omega
      refine j_aload_n (q := 5) C dX11_either_4 rfl rfl rfl ?_
      refine j_bipush (v := nI 54) (q := 7) C dX11_either_5 rfl (by decide) ?_
      refine jV1 jc11 (q := 10) C dX11_either_7 rfl hs11 mX11_isWord kw_1093 kw_1094 kw_45 (ctX11_isWord hS (s := 11) (by decide) rfl) rfl rfl (by decide) (Nat.le_of_ble_eq_true rfl) (by decide) ?_
      refine j_if_eq (q := 13) (tgt := 30) C dX11_either_10 rfl (by decide) (fun c_10 => ?_) (fun c_10 => absurd (jb_0.mpr (fun h => by rw [hqb] at h; cases h.1)) c_10)
      exact j_vret C E dX11_either_30 rfl rfl (⟨rfl, rfl, rfl, by rw [← hQe]; exact hS⟩)
    | succ f ih =>
      intro q M hI hf hQe hS
      refine j_aload_n (q := 5) C dX11_either_4 rfl rfl rfl ?_
      refine j_bipush (v := nI 54) (q := 7) C dX11_either_5 rfl (by decide) ?_
      refine jV1 jc11 (q := 10) C dX11_either_7 rfl hs11 mX11_isWord kw_1093 kw_1094 kw_45 (ctX11_isWord hS (s := 11) (by decide) rfl) rfl rfl (by decide) (Nat.le_of_ble_eq_true rfl) (by decide) ?_
      refine j_if_eq (q := 13) (tgt := 30) C dX11_either_10 rfl (by decide) (fun c_10 => ?_) (fun c_10 => ?_)
      · exact j_vret C E dX11_either_30 rfl rfl (⟨rfl, rfl, rfl, by
              have e : pLp T n oOr (pAnd T n (lvE T n 1).1 (lvE T n 1).2) (f + 1) q = q := by
                by_cases hb : q.1 = true
                · exact pLp_bad hb _
                · have ho : oOr (tk T n q.2.1) = none := by unfold oOr; rw [if_neg (fun h => jb_0.mp c_10 ⟨bf hb, h⟩)]
                  rw [pLp, if_neg hb, ho]
              rw [← hQe, e]; exact hS⟩)
      · have hk := jb_n.mp c_10
        have hq := hk.1
        have ho : oOr (tk T n q.2.1) = some 2000000 := by rw [hk.2]; rfl
        obtain ⟨a1, a2, a3, a4⟩ := pI_step (c := 2000000) (pAnd_G (k := 6) hT (lvE_G hT 1).1 (lvE_G hT 1).2 (by omega)) hq (by rw [hk.2]; decide) hI
        have hS0 := hS
        obtain ⟨K, b, c, d, g, hQ, hG⟩ := hS0
        obtain ⟨rfl, rfl, hd, rfl, hK⟩ := hG hq
        refine j_aload_n (q := 14) C dX11_either_13 rfl rfl rfl ?_
        refine jVT jc11 (q := 17) C dX11_either_14 rfl hs11 mX11_next kw_1024 kw_1025 kw_41 (ctX11_next hSo (x := tt T n q.2.1) (tt_n (T := T) hI.1).1 hQ) rfl rfl (by decide) (Nat.le_of_ble_eq_true rfl) (by decide) (fun r_14 M_14 h_14 => ?_)
        obtain ⟨rfl, hN⟩ := h_14
        have hS1 := rSt_nx hq hN hK
        refine j_aload_n (q := 18) C dX11_either_17 rfl rfl rfl ?_
        refine jVT jc11 (q := 21) C dX11_either_18 rfl hs11 mX11_both kw_1102 kw_1103 kw_48 (ctX11_both_1 hSo hSc a1 hS1) rfl rfl (by decide) (Nat.le_of_ble_eq_true rfl) (by decide) (fun r_18 M_18 h_18 => ?_)
        obtain ⟨rfl, hS2⟩ := h_18
        refine j_aload_n (q := 22) C dX11_either_21 rfl rfl rfl ?_
        refine j_ldc (q := 24) C dX11_either_22 rfl kw_978 ?_
        refine j_top (v' := .int (nI 2000000)) (by rfl) ?_
        refine jVT jc11 (q := 27) C dX11_either_24 rfl hs11 mX11_codes kw_1108 kw_1109 kw_50 (ctX11_codes hSo hSc hS2 (pI_l hn160 a2) (k := 2000000)) rfl rfl (by decide) (Nat.le_of_ble_eq_true rfl) (by decide) (fun r_24 M_24 h_24 => ?_)
        obtain ⟨rfl, hS3⟩ := h_24
        refine j_goto (tgt := 4) C dX11_either_27 (by decide) ?_
        exact ih _ M_24 a3 (fun _ => by have := hf hq; omega) (by rw [← hQe, pLp, if_neg (by rw [hq]; decide), ho]) hS3
  refine j_aload_n (q := 1) C dX11_either_0 rfl rfl rfl ?_
  refine jVT jc11 (q := 4) C dX11_either_1 rfl hs11 mX11_both kw_1102 kw_1103 kw_48 (ctX11_both_1 hSo hSc hI hS) rfl rfl (by decide) (Nat.le_of_ble_eq_true rfl) (by decide) (fun r_1 M_1 h_1 => ?_)
  obtain ⟨rfl, hS1⟩ := h_1
  exact loop4 160 _ M_1 (pI_sub (pAnd_G (k := 6) hT (lvE_G hT 1).1 (lvE_G hT 1).2 (by omega)) hI) (fun hf => by have := (((pAnd_G (k := 6) hT (lvE_G hT 1).1 (lvE_G hT 1).2 (by omega)) q hI.1).2.2.2 hf).2.1; omega) (by rw [eQ]; unfold pOr; rfl) hS1

set_option maxRecDepth 100000 in
set_option maxHeartbeats 4000000 in
theorem ctX11_value_2 {G : jG} {sz : Nat} {Sh : jS} {M : jM} {o : Nat} {S : Nat → Prop} {T : Nat → Nat} {n : Nat} {M0 : jM} {P : List Nat} {q : pS} (hSo : S o) (hSc : S (o + 10)) (hI : pI n P q) (hS : rSt S o Sh T n M0 2 P M q) : jC G yX11_value cX11_value 3 (Option.none : Option FieldType) (jrm 28 0 0) sz Sh M [.ref o] (jT sz Sh (fun r M1 => r = none ∧ rSt S o Sh T n M0 2 P M1 (pVal T n (lvE T n 2).1 q))) := by
  refine jC_start (by decide +kernel) (Nat.le_of_ble_eq_true rfl) (fun X C E hN0 => ?_)
  have hs11 := (rSt_lay hS).1.1.1
  have hn160 : n ≤ 160 := (rSt_lay hS).2.2.1
  have hT := (rSt_lay hS).2.2.2.1
  have hS0 := hS
  obtain ⟨K, b, c, d, g, hQ, hG⟩ := hS0
  refine j_aload_n (q := 1) C dX11_value_0 rfl rfl rfl ?_
  refine j_bipush (v := nI 40) (q := 3) C dX11_value_1 rfl (by decide) ?_
  refine jV1 jc11 (q := 6) C dX11_value_3 rfl hs11 mX11_isSign kw_1120 kw_1121 kw_54 (ctX11_isSign hS hI.1 (s := 0) (by decide) rfl) rfl rfl (by decide) (Nat.le_of_ble_eq_true rfl) (by decide) ?_
  refine j_if_eq (q := 9) (tgt := 66) C dX11_value_6 rfl (by decide) (fun c_6 => ?_) (fun c_6 => ?_)
  · refine j_aload_n (q := 67) C dX11_value_66 rfl rfl rfl ?_
    refine qg_isFault hQ (q' := 70) C dX11_value_67 rfl kw_885 ?_
    refine j_if_eq (q := 73) (tgt := 74) C dX11_value_70 rfl (by decide) (fun c_70 => ?_) (fun c_70 => ?_)
    · have hq : q.1 = false := bf (jb_0.mp c_70)
      have hns : ¬ tk T n q.2.1 = (3, 0) := fun h => jb_0.mp c_6 ⟨hq, h⟩
      have hqb : ¬ q.1 = true := by rw [hq]; decide
      have hts := tk_sort (T := T) (n := n) (x := q.2.1)
      obtain ⟨rfl, rfl, hd, rfl, hK⟩ := hG hq
      refine j_aload_n (q := 75) C dX11_value_74 rfl rfl rfl ?_
      refine qg_sort hQ (q' := 78) C dX11_value_75 rfl kw_883 ?_
      refine j_iconst (v := nI 2) (q := 79) C dX11_value_78 rfl (by decide) ?_
      refine j_icmp_ne (q := 82) (tgt := 126) C dX11_value_79 rfl (by decide) (fun c_79 => ?_) (fun c_79 => ?_)
      · refine j_aload_n (q := 127) C dX11_value_126 rfl rfl rfl ?_
        refine qg_sort hQ (q' := 130) C dX11_value_127 rfl kw_883 ?_
        refine j_iconst (v := nI 1) (q := 131) C dX11_value_130 rfl (by decide) ?_
        refine j_icmp_ne (q := 134) (tgt := 157) C dX11_value_131 rfl (by decide) (fun c_131 => ?_) (fun c_131 => ?_)
        · refine j_aload_n (q := 158) C dX11_value_157 rfl rfl rfl ?_
          refine j_iconst (v := nI 1) (q := 159) C dX11_value_158 rfl (by decide) ?_
          refine qp_isFault hSo hQ (by first | exact Or.inl rfl | exact Or.inr rfl) (q' := 162) C dX11_value_159 rfl kw_885 (fun M hQ => ?_)
          refine j_aload_n (q := 163) C dX11_value_162 rfl rfl rfl ?_
          refine j_iconst (v := nI 1) (q := 164) C dX11_value_163 rfl (by decide) ?_
          refine jVT jc11 (q := 167) C dX11_value_164 rfl hs11 mX11_need kw_1096 kw_1097 kw_46 (ctX11_need hSo (rSt_bad (P := P) (q := pBad q) rfl hQ) hI.1 (p := True) (jb_t trivial).symm) rfl rfl (by decide) (Nat.le_of_ble_eq_true rfl) (by decide) (fun r_164 M_164 h_164 => ?_)
          obtain ⟨rfl, hS7⟩ := h_164
          rw [if_pos (show (pBad q).1 = true from rfl)] at hS7
          exact j_vret C E dX11_value_167 rfl rfl (⟨rfl, rfl, rfl, by rw [show pVal T n (lvE T n 2).1 q = pBad q by unfold pVal; rw [if_neg hqb, if_neg hns, if_neg (fun h => c_79 (by rw [h])), if_neg (fun h => c_131 (by rw [h.1]))]]; exact hS7⟩)
        · have h1 : (tk T n q.2.1).1 = 1 := (nI_eq (by omega) (by omega)).mp c_131
          obtain rfl := hd h1
          have hw1 := wps_lt _ (hts.2.1 h1)
          have hw7 := wps7 _ (hts.2.1 h1)
          refine j_aload_n (q := 135) C dX11_value_134 rfl rfl rfl ?_
          refine qg_which hQ (q' := 138) C dX11_value_135 rfl kw_884 ?_
          refine j_bipush (v := nI 30) (q := 140) C dX11_value_138 rfl (by decide) ?_
          refine j_icmp_gt (q := 143) (tgt := 157) C dX11_value_140 rfl (by decide) (fun c_140 => ?_) (fun c_140 => ?_)
          · refine j_aload_n (q := 158) C dX11_value_157 rfl rfl rfl ?_
            refine j_iconst (v := nI 1) (q := 159) C dX11_value_158 rfl (by decide) ?_
            refine qp_isFault hSo hQ (by first | exact Or.inl rfl | exact Or.inr rfl) (q' := 162) C dX11_value_159 rfl kw_885 (fun M hQ => ?_)
            refine j_aload_n (q := 163) C dX11_value_162 rfl rfl rfl ?_
            refine j_iconst (v := nI 1) (q := 164) C dX11_value_163 rfl (by decide) ?_
            refine jVT jc11 (q := 167) C dX11_value_164 rfl hs11 mX11_need kw_1096 kw_1097 kw_46 (ctX11_need hSo (rSt_bad (P := P) (q := pBad q) rfl hQ) hI.1 (p := True) (jb_t trivial).symm) rfl rfl (by decide) (Nat.le_of_ble_eq_true rfl) (by decide) (fun r_164 M_164 h_164 => ?_)
            obtain ⟨rfl, hS7⟩ := h_164
            rw [if_pos (show (pBad q).1 = true from rfl)] at hS7
            exact j_vret C E dX11_value_167 rfl rfl (⟨rfl, rfl, rfl, by rw [show pVal T n (lvE T n 2).1 q = pBad q by unfold pVal; rw [if_neg hqb, if_neg hns, if_neg (fun h => c_79 (by rw [h])), if_neg (fun h => absurd ((nI_ltI (by omega) (by omega)).mp c_140) (by have := hw7.mpr h.2; omega))]]; exact hS7⟩)
          · refine j_aload_n (q := 144) C dX11_value_143 rfl rfl rfl ?_
            refine j_ldc (q := 146) C dX11_value_144 rfl kw_979 ?_
            refine j_aload_n (q := 147) C dX11_value_146 rfl rfl rfl ?_
            refine qg_which hQ (q' := 150) C dX11_value_147 rfl kw_884 ?_
            first | refine j_iaddN (q := 151) C dX11_value_150 rfl ?_ | refine j_iadd (q := 151) C dX11_value_150 rfl ?_
            refine j_top (v' := .int (nI (1000000 + wps.getD (tk T n q.2.1).2 0))) (by rfl) ?_
            refine jVT jc11 (q := 154) C dX11_value_151 rfl hs11 mX11_codes kw_1108 kw_1109 kw_50 (ctX11_codes hSo hSc hS (pI_l hn160 hI) (k := 1000000 + wps.getD (tk T n q.2.1).2 0)) rfl rfl (by decide) (Nat.le_of_ble_eq_true rfl) (by decide) (fun r_151 M_151 h_151 => ?_)
            obtain ⟨rfl, hS6⟩ := h_151
            refine j_goto (tgt := 162) C dX11_value_154 (by decide) ?_
            refine j_aload_n (q := 163) C dX11_value_162 rfl rfl rfl ?_
            refine j_iconst (v := nI 1) (q := 164) C dX11_value_163 rfl (by decide) ?_
            refine jVT jc11 (q := 167) C dX11_value_164 rfl hs11 mX11_need kw_1096 kw_1097 kw_46 (ctX11_need hSo hS6 (by rw [pEm_f hq]; exact hI.1) (p := True) (jb_t trivial).symm) rfl rfl (by decide) (Nat.le_of_ble_eq_true rfl) (by decide) (fun r_164 M_164 h_164 => ?_)
            obtain ⟨rfl, hS7⟩ := h_164
            rw [if_neg (by rw [pEm_f hq]; exact Bool.false_ne_true), if_pos trivial] at hS7
            exact j_vret C E dX11_value_167 rfl rfl (⟨rfl, rfl, rfl, by rw [show pVal T n (lvE T n 2).1 q = pNx T n (pEm (1000000 + wps.getD (tk T n q.2.1).2 0) q) by unfold pVal; rw [if_neg hqb, if_neg hns, if_neg (fun h => c_79 (by rw [h])), if_pos ⟨h1, hw7.mp (Nat.le_of_not_lt (fun h => c_140 (nI_lt (by omega) (by omega))))⟩]]; exact hS7⟩)
      · have h2 : (tk T n q.2.1).1 = 2 := (nI_eq (by omega) (by omega)).mp c_79
        refine j_iconst (v := nI 0) (q := 83) C dX11_value_82 rfl (by decide) ?_
        refine j_istore_n (lv' := [(1, _), (0, _)]) (q := 84) C dX11_value_83 rfl rfl (by decide) rfl ?_
        refine j_aload_n (q := 85) C dX11_value_84 rfl rfl rfl ?_
        refine qg_from hQ (q' := 88) C dX11_value_85 rfl kw_881 ?_
        refine j_istore_n (lv' := [(2, _), (1, _), (0, _)]) (q := 89) C dX11_value_88 rfl rfl (by decide) rfl ?_
        have hx1 := tt_le (T := T) hI.1
        have hdg : ∀ i, i < tt T n q.2.1 - fr T n q.2.1 → isDg (T (fr T n q.2.1 + i)) = true := tk_dig h2
        have j118 : jJ G X 0 0 sz Sh M 118 [(1, .int (nI (nm T (fr T n q.2.1) (tt T n q.2.1 - fr T n q.2.1)))), (0, .ref o)] [] := by
          refine j_aload_n (q := 119) C dX11_value_118 rfl rfl rfl ?_
          refine j_iload_n (q := 120) C dX11_value_119 rfl rfl rfl ?_
          refine jVT jc11 (q := 123) C dX11_value_120 rfl hs11 mX11_codes kw_1108 kw_1109 kw_50 (ctX11_codes hSo hSc hS (pI_l hn160 hI) (k := nm T (fr T n q.2.1) (tt T n q.2.1 - fr T n q.2.1))) rfl rfl (by decide) (Nat.le_of_ble_eq_true rfl) (by decide) (fun r_120 M_120 h_120 => ?_)
          obtain ⟨rfl, hS6⟩ := h_120
          refine j_goto (tgt := 162) C dX11_value_123 (by decide) ?_
          refine j_aload_n (q := 163) C dX11_value_162 rfl rfl rfl ?_
          refine j_iconst (v := nI 1) (q := 164) C dX11_value_163 rfl (by decide) ?_
          refine jVT jc11 (q := 167) C dX11_value_164 rfl hs11 mX11_need kw_1096 kw_1097 kw_46 (ctX11_need hSo hS6 (by rw [pEm_f hq]; exact hI.1) (p := True) (jb_t trivial).symm) rfl rfl (by decide) (Nat.le_of_ble_eq_true rfl) (by decide) (fun r_164 M_164 h_164 => ?_)
          obtain ⟨rfl, hS7⟩ := h_164
          rw [if_neg (by rw [pEm_f hq]; exact Bool.false_ne_true), if_pos trivial] at hS7
          exact j_vret C E dX11_value_167 rfl rfl (⟨rfl, rfl, rfl, by rw [show pVal T n (lvE T n 2).1 q = pNx T n (pEm (nm T (fr T n q.2.1) (tt T n q.2.1 - fr T n q.2.1)) q) by unfold pVal; rw [if_neg hqb, if_neg hns, if_pos h2, (tk_num hT h2).2.1]]; exact hS7⟩)
        have loop89 : ∀ (z k : Nat), k + z = tt T n q.2.1 - fr T n q.2.1 → jJ G X 0 0 sz Sh M 89 [(2, .int (nI (fr T n q.2.1 + k))), (1, .int (nI (nm T (fr T n q.2.1) k))), (0, .ref o)] [] := by
          intro z
          induction z with
          | zero =>
            intro k hk
            refine j_iload_n (q := 90) C dX11_value_89 rfl rfl rfl ?_
            refine j_aload_n (q := 91) C dX11_value_90 rfl rfl rfl ?_
            refine qg_to hQ (q' := 94) C dX11_value_91 rfl kw_882 ?_
            refine j_icmp_ge (q := 97) (tgt := 118) C dX11_value_94 rfl (by decide) (fun c_94 => ?_) (fun c_94 => absurd (nI_le (by omega) (by omega)) c_94)
            obtain rfl : tt T n q.2.1 - fr T n q.2.1 = k := by omega
            exact j_fewer (lv' := [(1, .int (nI (nm T (fr T n q.2.1) (tt T n q.2.1 - fr T n q.2.1)))), (0, .ref o)]) (by simp) j118
          | succ z ih =>
            intro k hk
            have hdk := of_decide_eq_true (hdg k (by omega))
            refine j_iload_n (q := 90) C dX11_value_89 rfl rfl rfl ?_
            refine j_aload_n (q := 91) C dX11_value_90 rfl rfl rfl ?_
            refine qg_to hQ (q' := 94) C dX11_value_91 rfl kw_882 ?_
            refine j_icmp_ge (q := 97) (tgt := 118) C dX11_value_94 rfl (by decide) (fun c_94 => absurd c_94 (fun h => absurd ((nI_leI (by omega) (by omega)).mp h) (by omega))) (fun c_94 => ?_)
            refine j_bipush (v := nI 10) (q := 99) C dX11_value_97 rfl (by decide) ?_
            refine j_iload_n (q := 100) C dX11_value_99 rfl rfl rfl ?_
            first | refine j_imulN (q := 101) C dX11_value_100 rfl ?_ | refine j_imul (q := 101) C dX11_value_100 rfl ?_
            refine j_aload_n (q := 102) C dX11_value_101 rfl rfl rfl ?_
            refine jg_Model_tape (q := 105) C dX11_value_102 rfl hs11 kw_876 hQ.2.2.1.2.2.2.2.2.2.1 ?_
            refine j_iload_n (q := 106) C dX11_value_105 rfl rfl rfl ?_
            refine j_iald (q := 107) C dX11_value_106 rfl hQ.2.2.1.1.2.2.2.2.2.2.1 (show fr T n q.2.1 + k < 160 by omega) (by decide) ?_
            rw [hQ.2.2.2.1.2.2.2 (fr T n q.2.1 + k) (by omega)]
            first | refine j_iaddN (q := 108) C dX11_value_107 rfl ?_ | refine j_iadd (q := 108) C dX11_value_107 rfl ?_
            refine j_bipush (v := nI 48) (q := 110) C dX11_value_108 rfl (by decide) ?_
            refine j_isub (q := 111) C dX11_value_110 rfl ?_
            refine j_top (v' := .int (nI (nm T (fr T n q.2.1) (k + 1)))) (congrArg Value.int (by rw [pk_sub (by omega), nm]; congr 1; omega)) ?_
            refine j_istore_n (lv' := [(1, _), (2, _), (0, _)]) (q := 112) C dX11_value_111 rfl rfl (by decide) rfl ?_
            first | refine j_iincN (lv' := [(2, _), (1, _), (0, _)]) (q := 115) C dX11_value_112 rfl rfl (by decide) rfl ?_ | refine j_iinc (lv' := [(2, _), (1, _), (0, _)]) (q := 115) C dX11_value_112 rfl rfl rfl (by decide) rfl ?_
            refine j_goto (tgt := 89) C dX11_value_115 (by decide) ?_
            exact j_fewer (lv' := [(2, .int (nI (fr T n q.2.1 + (k + 1)))), (1, .int (nI (nm T (fr T n q.2.1) (k + 1)))), (0, .ref o)]) (by simp [Nat.add_assoc]) (ih (k + 1) (by omega))
        exact j_fewer (lv' := [(2, .int (nI (fr T n q.2.1 + 0))), (1, .int (nI (nm T (fr T n q.2.1) 0))), (0, .ref o)]) (by simp [nm]) (loop89 (tt T n q.2.1 - fr T n q.2.1) 0 (by omega))
    · exact j_vret C E dX11_value_73 rfl rfl (⟨rfl, rfl, rfl, by rw [show pVal T n (lvE T n 2).1 q = q by unfold pVal; rw [if_pos (jb_n.mp c_70)]]; exact hS⟩)
  · have hk := jb_n.mp c_6
    have hq := hk.1
    obtain ⟨rfl, rfl, hd, rfl, hK⟩ := hG hq
    refine j_aload_n (q := 10) C dX11_value_9 rfl rfl rfl ?_
    refine j_aload_n (q := 11) C dX11_value_10 rfl rfl rfl ?_
    refine qg_deep hQ (q' := 14) C dX11_value_11 rfl kw_886 ?_
    refine j_iconst (v := nI 4) (q := 15) C dX11_value_14 rfl (by decide) ?_
    refine j_icmp_ne (q := 18) (tgt := 22) C dX11_value_15 rfl (by decide) (fun c_15 => ?_) (fun c_15 => absurd c_15 (by decide))
    refine j_iconst (v := nI 0) (q := 23) C dX11_value_22 rfl (by decide) ?_
    refine qp_isFault hSo hQ (by first | exact Or.inl rfl | exact Or.inr rfl) (q' := 26) C dX11_value_23 rfl kw_885 (fun M hQ => ?_)
    refine j_aload_n (q := 27) C dX11_value_26 rfl rfl rfl ?_
    refine j_dup (q := 28) C dX11_value_27 rfl rfl ?_
    refine qg_deep hQ (q' := 31) C dX11_value_28 rfl kw_886 ?_
    refine j_iconst (v := nI 1) (q := 32) C dX11_value_31 rfl (by decide) ?_
    first | refine j_iaddN (q := 33) C dX11_value_32 rfl ?_ | refine j_iadd (q := 33) C dX11_value_32 rfl ?_
    refine qp_deep hSo hQ (q' := 36) C dX11_value_33 rfl kw_886 (fun M hQ => ?_)
    have hS1 : rSt S o Sh T n M0 3 P M q := ⟨K, _, _, _, _, by rw [jb_f (by rw [hq]; decide)]; exact hQ, fun _ => ⟨rfl, rfl, hd, rfl, hK⟩⟩
    refine j_aload_n (q := 37) C dX11_value_36 rfl rfl rfl ?_
    refine j_iconst (v := nI 1) (q := 38) C dX11_value_37 rfl (by decide) ?_
    refine jVT jc11 (q := 41) C dX11_value_38 rfl hs11 mX11_need kw_1096 kw_1097 kw_46 (ctX11_need hSo hS1 hI.1 (p := True) (jb_t trivial).symm) rfl rfl (by decide) (Nat.le_of_ble_eq_true rfl) (by decide) (fun r_38 M_38 h_38 => ?_)
    obtain ⟨rfl, hS2⟩ := h_38
    rw [if_neg (by rw [hq]; decide), if_pos trivial] at hS2
    have hI2 := (pI_nx (T := T) hq (by rw [hk.2]; decide) hI).1
    refine j_aload_n (q := 42) C dX11_value_41 rfl rfl rfl ?_
    refine jVT jc11 (q := 45) C dX11_value_42 rfl hs11 mX11_either kw_1099 kw_1100 kw_47 (ctX11_either_1 hSo hSc hI2 hS2) rfl rfl (by decide) (Nat.le_of_ble_eq_true rfl) (by decide) (fun r_42 M_42 h_42 => ?_)
    obtain ⟨rfl, hS3⟩ := h_42
    have hI3 := pI_sub (pOr_G (k := 6) hT (lvE_G hT 1).1 (lvE_G hT 1).2 (by omega)) hI2
    obtain ⟨q3, e3⟩ : ∃ z, z = (pOr T n (lvE T n 1).1 (lvE T n 1).2 (pNx T n q)) := ⟨_, rfl⟩
    rw [← e3] at hS3 hI3
    obtain ⟨K3, b3, c3, d3, g3, hQ, hG3⟩ := hS3
    refine j_aload_n (q := 46) C dX11_value_45 rfl rfl rfl ?_
    refine j_dup (q := 47) C dX11_value_46 rfl rfl ?_
    refine qg_deep hQ (q' := 50) C dX11_value_47 rfl kw_886 ?_
    refine j_iconst (v := nI 1) (q := 51) C dX11_value_50 rfl (by decide) ?_
    refine j_isub (q := 52) C dX11_value_51 rfl ?_
    refine j_top (v' := .int (nI 2)) (by rfl) ?_
    refine qp_deep hSo hQ (q' := 55) C dX11_value_52 rfl kw_886 (fun M hQ => ?_)
    have hS4 : rSt S o Sh T n M0 2 P M q3 := ⟨K3, b3, c3, d3, g3, hQ, hG3⟩
    refine j_aload_n (q := 56) C dX11_value_55 rfl rfl rfl ?_
    refine j_aload_n (q := 57) C dX11_value_56 rfl rfl rfl ?_
    refine j_bipush (v := nI 41) (q := 59) C dX11_value_57 rfl (by decide) ?_
    refine jV1 jc11 (q := 62) C dX11_value_59 rfl hs11 mX11_isSign kw_1120 kw_1121 kw_54 (ctX11_isSign hS4 hI3.1 (s := 1) (by decide) rfl) rfl rfl (by decide) (Nat.le_of_ble_eq_true rfl) (by decide) ?_
    refine jVT jc11 (q := 65) C dX11_value_62 rfl hs11 mX11_need kw_1096 kw_1097 kw_46 (ctX11_need hSo hS4 hI3.1 (p := q3.1 = false ∧ tk T n q3.2.1 = (3, 1)) rfl) rfl rfl (by decide) (Nat.le_of_ble_eq_true rfl) (by decide) (fun r_62 M_62 h_62 => ?_)
    obtain ⟨rfl, hS5⟩ := h_62
    rw [need_exp] at hS5
    exact j_vret C E dX11_value_65 rfl rfl (⟨rfl, rfl, rfl, by rw [show pVal T n (lvE T n 2).1 q = pExp T n (3, 1) q3 by unfold pVal; rw [if_neg (by rw [hq]; decide), if_pos hk.2, e3]; rfl]; exact hS5⟩)

set_option maxRecDepth 100000 in
set_option maxHeartbeats 4000000 in
theorem ctX11_oneOf_2 {G : jG} {sz : Nat} {Sh : jS} {M : jM} {o : Nat} {S : Nat → Prop} {T : Nat → Nat} {n : Nat} {M0 : jM} {P : List Nat} {q : pS} (hSo : S o) (hSc : S (o + 10)) (hI : pI n P q) (hS : rSt S o Sh T n M0 2 P M q) : jC G yX11_oneOf cX11_oneOf 2 (Option.none : Option FieldType) (jrm 29 0 0) sz Sh M [.ref o] (jT sz Sh (fun r M1 => r = none ∧ rSt S o Sh T n M0 2 P M1 (pOne T n (lvE T n 2).1 q))) := by
  refine jC_start (by decide +kernel) (Nat.le_of_ble_eq_true rfl) (fun X C E hN0 => ?_)
  have hs11 := (rSt_lay hS).1.1.1
  have hn160 : n ≤ 160 := (rSt_lay hS).2.2.1
  have hT := (rSt_lay hS).2.2.2.1
  obtain ⟨Q, eQ⟩ : ∃ z, z = pOne T n (lvE T n 2).1 q := ⟨_, rfl⟩
  rw [← eQ] at E
  have loop4 : ∀ (f : Nat) (q : pS) (M : jM), pI n P q → (q.1 = false → n + 1 ≤ q.2.1 + f) → pLp T n oMul (pVal T n (lvE T n 2).1) f q = Q → rSt S o Sh T n M0 2 P M q → jJ G X 0 0 sz Sh M 4 [(0, .ref o)] [] := by
    intro f
    induction f with
    | zero =>
      intro q M hI hf hQe hS
      have hqb : q.1 = true := by
        cases h : q.1 with
        | true => rfl
        | false => have := hf h; have := hI.1; omega
      refine j_aload_n (q := 5) C dX11_oneOf_4 rfl rfl rfl ?_
      refine j_bipush (v := nI 42) (q := 7) C dX11_oneOf_5 rfl (by decide) ?_
      refine jV1 jc11 (q := 10) C dX11_oneOf_7 rfl hs11 mX11_isSign kw_1120 kw_1121 kw_54 (ctX11_isSign hS hI.1 (s := 5) (by decide) rfl) rfl rfl (by decide) (Nat.le_of_ble_eq_true rfl) (by decide) ?_
      refine j_if_ne (q := 13) (tgt := 22) C dX11_oneOf_10 rfl (by decide) (fun c_10 => absurd (jb_0.mpr (fun h => by rw [hqb] at h; cases h.1)) c_10) (fun c_10 => ?_)
      refine j_aload_n (q := 14) C dX11_oneOf_13 rfl rfl rfl ?_
      refine j_bipush (v := nI 47) (q := 16) C dX11_oneOf_14 rfl (by decide) ?_
      refine jV1 jc11 (q := 19) C dX11_oneOf_16 rfl hs11 mX11_isSign kw_1120 kw_1121 kw_54 (ctX11_isSign hS hI.1 (s := 6) (by decide) rfl) rfl rfl (by decide) (Nat.le_of_ble_eq_true rfl) (by decide) ?_
      refine j_if_eq (q := 22) (tgt := 55) C dX11_oneOf_19 rfl (by decide) (fun c_19 => ?_) (fun c_19 => absurd (jb_0.mpr (fun h => by rw [hqb] at h; cases h.1)) c_19)
      exact j_vret C E dX11_oneOf_55 rfl rfl (⟨rfl, rfl, rfl, by rw [← hQe]; exact hS⟩)
    | succ f ih =>
      intro q M hI hf hQe hS
      refine j_aload_n (q := 5) C dX11_oneOf_4 rfl rfl rfl ?_
      refine j_bipush (v := nI 42) (q := 7) C dX11_oneOf_5 rfl (by decide) ?_
      refine jV1 jc11 (q := 10) C dX11_oneOf_7 rfl hs11 mX11_isSign kw_1120 kw_1121 kw_54 (ctX11_isSign hS hI.1 (s := 5) (by decide) rfl) rfl rfl (by decide) (Nat.le_of_ble_eq_true rfl) (by decide) ?_
      refine j_if_ne (q := 13) (tgt := 22) C dX11_oneOf_10 rfl (by decide) (fun c_10 => ?_) (fun c_10 => ?_)
      · have hk := jb_n.mp c_10
        have hq := hk.1
        have ho : oMul (tk T n q.2.1) = some 2000006 := by rw [hk.2]; rfl
        obtain ⟨a1, a2, a3, a4⟩ := pI_step (c := 2000006) (pVal_G (k := 11) hT (lvE_G hT 2).1 (by omega)) hq (by rw [hk.2]; decide) hI
        have hS0 := hS
        obtain ⟨K, b, c, d, g, hQ, hG⟩ := hS0
        obtain ⟨rfl, rfl, hd, rfl, hK⟩ := hG hq
        refine j_aload_n (q := 23) C dX11_oneOf_22 rfl rfl rfl ?_
        refine j_bipush (v := nI 42) (q := 25) C dX11_oneOf_23 rfl (by decide) ?_
        refine jV1 jc11 (q := 28) C dX11_oneOf_25 rfl hs11 mX11_isSign kw_1120 kw_1121 kw_54 (ctX11_isSign hS hI.1 (s := 5) (by decide) rfl) rfl rfl (by decide) (Nat.le_of_ble_eq_true rfl) (by decide) ?_
        refine j_if_eq (q := 31) (tgt := 36) C dX11_oneOf_28 rfl (by decide) (fun c_28 => absurd c_28 c_10) (fun c_28 => ?_)
        refine j_ldc (q := 33) C dX11_oneOf_31 rfl kw_1123 ?_
        refine j_goto (tgt := 38) C dX11_oneOf_33 (by decide) ?_
        refine j_istore_n (lv' := [(1, _), (0, _)]) (q := 39) C dX11_oneOf_38 rfl rfl (by decide) rfl ?_
        refine j_aload_n (q := 40) C dX11_oneOf_39 rfl rfl rfl ?_
        refine jVT jc11 (q := 43) C dX11_oneOf_40 rfl hs11 mX11_next kw_1024 kw_1025 kw_41 (ctX11_next hSo (x := tt T n q.2.1) (tt_n (T := T) hI.1).1 hQ) rfl rfl (by decide) (Nat.le_of_ble_eq_true rfl) (by decide) (fun r_40 M_40 h_40 => ?_)
        obtain ⟨rfl, hN⟩ := h_40
        have hS1 := rSt_nx hq hN hK
        refine j_aload_n (q := 44) C dX11_oneOf_43 rfl rfl rfl ?_
        refine jVT jc11 (q := 47) C dX11_oneOf_44 rfl hs11 mX11_value kw_1117 kw_1118 kw_53 (ctX11_value_2 hSo hSc a1 hS1) rfl rfl (by decide) (Nat.le_of_ble_eq_true rfl) (by decide) (fun r_44 M_44 h_44 => ?_)
        obtain ⟨rfl, hS2⟩ := h_44
        refine j_aload_n (q := 48) C dX11_oneOf_47 rfl rfl rfl ?_
        refine j_iload_n (q := 49) C dX11_oneOf_48 rfl rfl rfl ?_
        refine j_top (v' := .int (nI 2000006)) (by rfl) ?_
        refine jVT jc11 (q := 52) C dX11_oneOf_49 rfl hs11 mX11_codes kw_1108 kw_1109 kw_50 (ctX11_codes hSo hSc hS2 (pI_l hn160 a2) (k := 2000006)) rfl rfl (by decide) (Nat.le_of_ble_eq_true rfl) (by decide) (fun r_49 M_49 h_49 => ?_)
        obtain ⟨rfl, hS3⟩ := h_49
        refine j_goto (tgt := 4) C dX11_oneOf_52 (by decide) ?_
        exact j_fewer (lv' := [(0, .ref o)]) (by simp) (ih _ M_49 a3 (fun _ => by have := hf hq; omega) (by rw [← hQe, pLp, if_neg (by rw [hq]; decide), ho]) hS3)
      · refine j_aload_n (q := 14) C dX11_oneOf_13 rfl rfl rfl ?_
        refine j_bipush (v := nI 47) (q := 16) C dX11_oneOf_14 rfl (by decide) ?_
        refine jV1 jc11 (q := 19) C dX11_oneOf_16 rfl hs11 mX11_isSign kw_1120 kw_1121 kw_54 (ctX11_isSign hS hI.1 (s := 6) (by decide) rfl) rfl rfl (by decide) (Nat.le_of_ble_eq_true rfl) (by decide) ?_
        refine j_if_eq (q := 22) (tgt := 55) C dX11_oneOf_19 rfl (by decide) (fun c_19 => ?_) (fun c_19 => ?_)
        · exact j_vret C E dX11_oneOf_55 rfl rfl (⟨rfl, rfl, rfl, by
                have e : pLp T n oMul (pVal T n (lvE T n 2).1) (f + 1) q = q := by
                  by_cases hb : q.1 = true
                  · exact pLp_bad hb _
                  · have ho : oMul (tk T n q.2.1) = none := by unfold oMul; rw [if_neg (fun h => jb_0.mp c_10 ⟨bf hb, h⟩), if_neg (fun h => jb_0.mp c_19 ⟨bf hb, h⟩)]
                    rw [pLp, if_neg hb, ho]
                rw [← hQe, e]; exact hS⟩)
        · have hk := jb_n.mp c_19
          have hq := hk.1
          have ho : oMul (tk T n q.2.1) = some 2000007 := by rw [hk.2]; rfl
          obtain ⟨a1, a2, a3, a4⟩ := pI_step (c := 2000007) (pVal_G (k := 11) hT (lvE_G hT 2).1 (by omega)) hq (by rw [hk.2]; decide) hI
          have hS0 := hS
          obtain ⟨K, b, c, d, g, hQ, hG⟩ := hS0
          obtain ⟨rfl, rfl, hd, rfl, hK⟩ := hG hq
          refine j_aload_n (q := 23) C dX11_oneOf_22 rfl rfl rfl ?_
          refine j_bipush (v := nI 42) (q := 25) C dX11_oneOf_23 rfl (by decide) ?_
          refine jV1 jc11 (q := 28) C dX11_oneOf_25 rfl hs11 mX11_isSign kw_1120 kw_1121 kw_54 (ctX11_isSign hS hI.1 (s := 5) (by decide) rfl) rfl rfl (by decide) (Nat.le_of_ble_eq_true rfl) (by decide) ?_
          refine j_if_eq (q := 31) (tgt := 36) C dX11_oneOf_28 rfl (by decide) (fun c_28 => ?_) (fun c_28 => absurd c_10 c_28)
          refine j_ldc (q := 38) C dX11_oneOf_36 rfl kw_1124 ?_
          refine j_istore_n (lv' := [(1, _), (0, _)]) (q := 39) C dX11_oneOf_38 rfl rfl (by decide) rfl ?_
          refine j_aload_n (q := 40) C dX11_oneOf_39 rfl rfl rfl ?_
          refine jVT jc11 (q := 43) C dX11_oneOf_40 rfl hs11 mX11_next kw_1024 kw_1025 kw_41 (ctX11_next hSo (x := tt T n q.2.1) (tt_n (T := T) hI.1).1 hQ) rfl rfl (by decide) (Nat.le_of_ble_eq_true rfl) (by decide) (fun r_40 M_40 h_40 => ?_)
          obtain ⟨rfl, hN⟩ := h_40
          have hS1 := rSt_nx hq hN hK
          refine j_aload_n (q := 44) C dX11_oneOf_43 rfl rfl rfl ?_
          refine jVT jc11 (q := 47) C dX11_oneOf_44 rfl hs11 mX11_value kw_1117 kw_1118 kw_53 (ctX11_value_2 hSo hSc a1 hS1) rfl rfl (by decide) (Nat.le_of_ble_eq_true rfl) (by decide) (fun r_44 M_44 h_44 => ?_)
          obtain ⟨rfl, hS2⟩ := h_44
          refine j_aload_n (q := 48) C dX11_oneOf_47 rfl rfl rfl ?_
          refine j_iload_n (q := 49) C dX11_oneOf_48 rfl rfl rfl ?_
          refine j_top (v' := .int (nI 2000007)) (by rfl) ?_
          refine jVT jc11 (q := 52) C dX11_oneOf_49 rfl hs11 mX11_codes kw_1108 kw_1109 kw_50 (ctX11_codes hSo hSc hS2 (pI_l hn160 a2) (k := 2000007)) rfl rfl (by decide) (Nat.le_of_ble_eq_true rfl) (by decide) (fun r_49 M_49 h_49 => ?_)
          obtain ⟨rfl, hS3⟩ := h_49
          refine j_goto (tgt := 4) C dX11_oneOf_52 (by decide) ?_
          exact j_fewer (lv' := [(0, .ref o)]) (by simp) (ih _ M_49 a3 (fun _ => by have := hf hq; omega) (by rw [← hQe, pLp, if_neg (by rw [hq]; decide), ho]) hS3)
  refine j_aload_n (q := 1) C dX11_oneOf_0 rfl rfl rfl ?_
  refine jVT jc11 (q := 4) C dX11_oneOf_1 rfl hs11 mX11_value kw_1117 kw_1118 kw_53 (ctX11_value_2 hSo hSc hI hS) rfl rfl (by decide) (Nat.le_of_ble_eq_true rfl) (by decide) (fun r_1 M_1 h_1 => ?_)
  obtain ⟨rfl, hS1⟩ := h_1
  exact loop4 160 _ M_1 (pI_sub (pVal_G (k := 11) hT (lvE_G hT 2).1 (by omega)) hI) (fun hf => by have := (((pVal_G (k := 11) hT (lvE_G hT 2).1 (by omega)) q hI.1).2.2.2 hf).2.1; omega) (by rw [eQ]; unfold pOne; rfl) hS1

set_option maxRecDepth 100000 in
set_option maxHeartbeats 4000000 in
theorem ctX11_sumOf_2 {G : jG} {sz : Nat} {Sh : jS} {M : jM} {o : Nat} {S : Nat → Prop} {T : Nat → Nat} {n : Nat} {M0 : jM} {P : List Nat} {q : pS} (hSo : S o) (hSc : S (o + 10)) (hI : pI n P q) (hS : rSt S o Sh T n M0 2 P M q) : jC G yX11_sumOf cX11_sumOf 2 (Option.none : Option FieldType) (jrm 30 0 0) sz Sh M [.ref o] (jT sz Sh (fun r M1 => r = none ∧ rSt S o Sh T n M0 2 P M1 (pSum T n (lvE T n 2).1 q))) := by
  refine jC_start (by decide +kernel) (Nat.le_of_ble_eq_true rfl) (fun X C E hN0 => ?_)
  have hs11 := (rSt_lay hS).1.1.1
  have hn160 : n ≤ 160 := (rSt_lay hS).2.2.1
  have hT := (rSt_lay hS).2.2.2.1
  obtain ⟨Q, eQ⟩ : ∃ z, z = pSum T n (lvE T n 2).1 q := ⟨_, rfl⟩
  rw [← eQ] at E
  have loop4 : ∀ (f : Nat) (q : pS) (M : jM), pI n P q → (q.1 = false → n + 1 ≤ q.2.1 + f) → pLp T n oAdd (pOne T n (lvE T n 2).1) f q = Q → rSt S o Sh T n M0 2 P M q → jJ G X 0 0 sz Sh M 4 [(0, .ref o)] [] := by
    intro f
    induction f with
    | zero =>
      intro q M hI hf hQe hS
      have hqb : q.1 = true := by
        cases h : q.1 with
        | true => rfl
        | false => have := hf h; have := hI.1; omega
      refine j_aload_n (q := 5) C dX11_sumOf_4 rfl rfl rfl ?_
      refine j_bipush (v := nI 43) (q := 7) C dX11_sumOf_5 rfl (by decide) ?_
      refine jV1 jc11 (q := 10) C dX11_sumOf_7 rfl hs11 mX11_isSign kw_1120 kw_1121 kw_54 (ctX11_isSign hS hI.1 (s := 3) (by decide) rfl) rfl rfl (by decide) (Nat.le_of_ble_eq_true rfl) (by decide) ?_
      refine j_if_ne (q := 13) (tgt := 22) C dX11_sumOf_10 rfl (by decide) (fun c_10 => absurd (jb_0.mpr (fun h => by rw [hqb] at h; cases h.1)) c_10) (fun c_10 => ?_)
      refine j_aload_n (q := 14) C dX11_sumOf_13 rfl rfl rfl ?_
      refine j_bipush (v := nI 45) (q := 16) C dX11_sumOf_14 rfl (by decide) ?_
      refine jV1 jc11 (q := 19) C dX11_sumOf_16 rfl hs11 mX11_isSign kw_1120 kw_1121 kw_54 (ctX11_isSign hS hI.1 (s := 4) (by decide) rfl) rfl rfl (by decide) (Nat.le_of_ble_eq_true rfl) (by decide) ?_
      refine j_if_eq (q := 22) (tgt := 55) C dX11_sumOf_19 rfl (by decide) (fun c_19 => ?_) (fun c_19 => absurd (jb_0.mpr (fun h => by rw [hqb] at h; cases h.1)) c_19)
      exact j_vret C E dX11_sumOf_55 rfl rfl (⟨rfl, rfl, rfl, by rw [← hQe]; exact hS⟩)
    | succ f ih =>
      intro q M hI hf hQe hS
      refine j_aload_n (q := 5) C dX11_sumOf_4 rfl rfl rfl ?_
      refine j_bipush (v := nI 43) (q := 7) C dX11_sumOf_5 rfl (by decide) ?_
      refine jV1 jc11 (q := 10) C dX11_sumOf_7 rfl hs11 mX11_isSign kw_1120 kw_1121 kw_54 (ctX11_isSign hS hI.1 (s := 3) (by decide) rfl) rfl rfl (by decide) (Nat.le_of_ble_eq_true rfl) (by decide) ?_
      refine j_if_ne (q := 13) (tgt := 22) C dX11_sumOf_10 rfl (by decide) (fun c_10 => ?_) (fun c_10 => ?_)
      · have hk := jb_n.mp c_10
        have hq := hk.1
        have ho : oAdd (tk T n q.2.1) = some 2000004 := by rw [hk.2]; rfl
        obtain ⟨a1, a2, a3, a4⟩ := pI_step (c := 2000004) (pOne_G (k := 11) hT (lvE_G hT 2).1 (by omega)) hq (by rw [hk.2]; decide) hI
        have hS0 := hS
        obtain ⟨K, b, c, d, g, hQ, hG⟩ := hS0
        obtain ⟨rfl, rfl, hd, rfl, hK⟩ := hG hq
        refine j_aload_n (q := 23) C dX11_sumOf_22 rfl rfl rfl ?_
        refine j_bipush (v := nI 43) (q := 25) C dX11_sumOf_23 rfl (by decide) ?_
        refine jV1 jc11 (q := 28) C dX11_sumOf_25 rfl hs11 mX11_isSign kw_1120 kw_1121 kw_54 (ctX11_isSign hS hI.1 (s := 3) (by decide) rfl) rfl rfl (by decide) (Nat.le_of_ble_eq_true rfl) (by decide) ?_
        refine j_if_eq (q := 31) (tgt := 36) C dX11_sumOf_28 rfl (by decide) (fun c_28 => absurd c_28 c_10) (fun c_28 => ?_)
        refine j_ldc (q := 33) C dX11_sumOf_31 rfl kw_1125 ?_
        refine j_goto (tgt := 38) C dX11_sumOf_33 (by decide) ?_
        refine j_istore_n (lv' := [(1, _), (0, _)]) (q := 39) C dX11_sumOf_38 rfl rfl (by decide) rfl ?_
        refine j_aload_n (q := 40) C dX11_sumOf_39 rfl rfl rfl ?_
        refine jVT jc11 (q := 43) C dX11_sumOf_40 rfl hs11 mX11_next kw_1024 kw_1025 kw_41 (ctX11_next hSo (x := tt T n q.2.1) (tt_n (T := T) hI.1).1 hQ) rfl rfl (by decide) (Nat.le_of_ble_eq_true rfl) (by decide) (fun r_40 M_40 h_40 => ?_)
        obtain ⟨rfl, hN⟩ := h_40
        have hS1 := rSt_nx hq hN hK
        refine j_aload_n (q := 44) C dX11_sumOf_43 rfl rfl rfl ?_
        refine jVT jc11 (q := 47) C dX11_sumOf_44 rfl hs11 mX11_oneOf kw_1114 kw_1115 kw_52 (ctX11_oneOf_2 hSo hSc a1 hS1) rfl rfl (by decide) (Nat.le_of_ble_eq_true rfl) (by decide) (fun r_44 M_44 h_44 => ?_)
        obtain ⟨rfl, hS2⟩ := h_44
        refine j_aload_n (q := 48) C dX11_sumOf_47 rfl rfl rfl ?_
        refine j_iload_n (q := 49) C dX11_sumOf_48 rfl rfl rfl ?_
        refine j_top (v' := .int (nI 2000004)) (by rfl) ?_
        refine jVT jc11 (q := 52) C dX11_sumOf_49 rfl hs11 mX11_codes kw_1108 kw_1109 kw_50 (ctX11_codes hSo hSc hS2 (pI_l hn160 a2) (k := 2000004)) rfl rfl (by decide) (Nat.le_of_ble_eq_true rfl) (by decide) (fun r_49 M_49 h_49 => ?_)
        obtain ⟨rfl, hS3⟩ := h_49
        refine j_goto (tgt := 4) C dX11_sumOf_52 (by decide) ?_
        exact j_fewer (lv' := [(0, .ref o)]) (by simp) (ih _ M_49 a3 (fun _ => by have := hf hq; omega) (by rw [← hQe, pLp, if_neg (by rw [hq]; decide), ho]) hS3)
      · refine j_aload_n (q := 14) C dX11_sumOf_13 rfl rfl rfl ?_
        refine j_bipush (v := nI 45) (q := 16) C dX11_sumOf_14 rfl (by decide) ?_
        refine jV1 jc11 (q := 19) C dX11_sumOf_16 rfl hs11 mX11_isSign kw_1120 kw_1121 kw_54 (ctX11_isSign hS hI.1 (s := 4) (by decide) rfl) rfl rfl (by decide) (Nat.le_of_ble_eq_true rfl) (by decide) ?_
        refine j_if_eq (q := 22) (tgt := 55) C dX11_sumOf_19 rfl (by decide) (fun c_19 => ?_) (fun c_19 => ?_)
        · exact j_vret C E dX11_sumOf_55 rfl rfl (⟨rfl, rfl, rfl, by
                have e : pLp T n oAdd (pOne T n (lvE T n 2).1) (f + 1) q = q := by
                  by_cases hb : q.1 = true
                  · exact pLp_bad hb _
                  · have ho : oAdd (tk T n q.2.1) = none := by unfold oAdd; rw [if_neg (fun h => jb_0.mp c_10 ⟨bf hb, h⟩), if_neg (fun h => jb_0.mp c_19 ⟨bf hb, h⟩)]
                    rw [pLp, if_neg hb, ho]
                rw [← hQe, e]; exact hS⟩)
        · have hk := jb_n.mp c_19
          have hq := hk.1
          have ho : oAdd (tk T n q.2.1) = some 2000005 := by rw [hk.2]; rfl
          obtain ⟨a1, a2, a3, a4⟩ := pI_step (c := 2000005) (pOne_G (k := 11) hT (lvE_G hT 2).1 (by omega)) hq (by rw [hk.2]; decide) hI
          have hS0 := hS
          obtain ⟨K, b, c, d, g, hQ, hG⟩ := hS0
          obtain ⟨rfl, rfl, hd, rfl, hK⟩ := hG hq
          refine j_aload_n (q := 23) C dX11_sumOf_22 rfl rfl rfl ?_
          refine j_bipush (v := nI 43) (q := 25) C dX11_sumOf_23 rfl (by decide) ?_
          refine jV1 jc11 (q := 28) C dX11_sumOf_25 rfl hs11 mX11_isSign kw_1120 kw_1121 kw_54 (ctX11_isSign hS hI.1 (s := 3) (by decide) rfl) rfl rfl (by decide) (Nat.le_of_ble_eq_true rfl) (by decide) ?_
          refine j_if_eq (q := 31) (tgt := 36) C dX11_sumOf_28 rfl (by decide) (fun c_28 => ?_) (fun c_28 => absurd c_10 c_28)
          refine j_ldc (q := 38) C dX11_sumOf_36 rfl kw_1126 ?_
          refine j_istore_n (lv' := [(1, _), (0, _)]) (q := 39) C dX11_sumOf_38 rfl rfl (by decide) rfl ?_
          refine j_aload_n (q := 40) C dX11_sumOf_39 rfl rfl rfl ?_
          refine jVT jc11 (q := 43) C dX11_sumOf_40 rfl hs11 mX11_next kw_1024 kw_1025 kw_41 (ctX11_next hSo (x := tt T n q.2.1) (tt_n (T := T) hI.1).1 hQ) rfl rfl (by decide) (Nat.le_of_ble_eq_true rfl) (by decide) (fun r_40 M_40 h_40 => ?_)
          obtain ⟨rfl, hN⟩ := h_40
          have hS1 := rSt_nx hq hN hK
          refine j_aload_n (q := 44) C dX11_sumOf_43 rfl rfl rfl ?_
          refine jVT jc11 (q := 47) C dX11_sumOf_44 rfl hs11 mX11_oneOf kw_1114 kw_1115 kw_52 (ctX11_oneOf_2 hSo hSc a1 hS1) rfl rfl (by decide) (Nat.le_of_ble_eq_true rfl) (by decide) (fun r_44 M_44 h_44 => ?_)
          obtain ⟨rfl, hS2⟩ := h_44
          refine j_aload_n (q := 48) C dX11_sumOf_47 rfl rfl rfl ?_
          refine j_iload_n (q := 49) C dX11_sumOf_48 rfl rfl rfl ?_
          refine j_top (v' := .int (nI 2000005)) (by rfl) ?_
          refine jVT jc11 (q := 52) C dX11_sumOf_49 rfl hs11 mX11_codes kw_1108 kw_1109 kw_50 (ctX11_codes hSo hSc hS2 (pI_l hn160 a2) (k := 2000005)) rfl rfl (by decide) (Nat.le_of_ble_eq_true rfl) (by decide) (fun r_49 M_49 h_49 => ?_)
          obtain ⟨rfl, hS3⟩ := h_49
          refine j_goto (tgt := 4) C dX11_sumOf_52 (by decide) ?_
          exact j_fewer (lv' := [(0, .ref o)]) (by simp) (ih _ M_49 a3 (fun _ => by have := hf hq; omega) (by rw [← hQe, pLp, if_neg (by rw [hq]; decide), ho]) hS3)
  refine j_aload_n (q := 1) C dX11_sumOf_0 rfl rfl rfl ?_
  refine jVT jc11 (q := 4) C dX11_sumOf_1 rfl hs11 mX11_oneOf kw_1114 kw_1115 kw_52 (ctX11_oneOf_2 hSo hSc hI hS) rfl rfl (by decide) (Nat.le_of_ble_eq_true rfl) (by decide) (fun r_1 M_1 h_1 => ?_)
  obtain ⟨rfl, hS1⟩ := h_1
  exact loop4 160 _ M_1 (pI_sub (pOne_G (k := 11) hT (lvE_G hT 2).1 (by omega)) hI) (fun hf => by have := (((pOne_G (k := 11) hT (lvE_G hT 2).1 (by omega)) q hI.1).2.2.2 hf).2.1; omega) (by rw [eQ]; unfold pSum; rfl) hS1

set_option maxRecDepth 100000 in
set_option maxHeartbeats 4000000 in
theorem ctX11_notOf_2 {G : jG} {sz : Nat} {Sh : jS} {M : jM} {o : Nat} {S : Nat → Prop} {T : Nat → Nat} {n : Nat} {M0 : jM} {P : List Nat} {q : pS} (hSo : S o) (hSc : S (o + 10)) (hI : pI n P q) (hS : rSt S o Sh T n M0 2 P M q) : jC G yX11_notOf cX11_notOf 2 (Option.none : Option FieldType) (jrm 31 0 0) sz Sh M [.ref o] (jT sz Sh (fun r M1 => r = none ∧ rSt S o Sh T n M0 2 P M1 (pNot T n (lvE T n 2).1 (lvE T n 2).2 q))) := by
  refine jC_start (by decide +kernel) (Nat.le_of_ble_eq_true rfl) (fun X C E hN0 => ?_)
  have hs11 := (rSt_lay hS).1.1.1
  have hn160 : n ≤ 160 := (rSt_lay hS).2.2.1
  have hT := (rSt_lay hS).2.2.2.1
  have hS0 := hS
  obtain ⟨K, b, c, d, g, hQ, hG⟩ := hS0
  refine j_aload_n (q := 1) C dX11_notOf_0 rfl rfl rfl ?_
  refine j_bipush (v := nI 57) (q := 3) C dX11_notOf_1 rfl (by decide) ?_
  refine jV1 jc11 (q := 6) C dX11_notOf_3 rfl hs11 mX11_isWord kw_1093 kw_1094 kw_45 (ctX11_isWord hS (s := 12) (by decide) rfl) rfl rfl (by decide) (Nat.le_of_ble_eq_true rfl) (by decide) ?_
  refine j_if_eq (q := 9) (tgt := 62) C dX11_notOf_6 rfl (by decide) (fun c_6 => ?_) (fun c_6 => ?_)
  · refine j_aload_n (q := 63) C dX11_notOf_62 rfl rfl rfl ?_
    refine jVT jc11 (q := 66) C dX11_notOf_63 rfl hs11 mX11_sumOf kw_1111 kw_1112 kw_51 (ctX11_sumOf_2 hSo hSc hI hS) rfl rfl (by decide) (Nat.le_of_ble_eq_true rfl) (by decide) (fun r_63 M_63 h_63 => ?_)
    obtain ⟨rfl, hS3⟩ := h_63
    have hI3 := pI_sub (pSum_G (k := 11) hT (lvE_G hT 2).1 (by omega)) hI
    have eN : pNot T n (lvE T n 2).1 (lvE T n 2).2 q = pCmp T n (lvE T n 2).1 (pSum T n (lvE T n 2).1 q) := by
      unfold pNot
      by_cases hb : q.1 = true
      · rw [if_pos hb, ((pSum_G (k := 11) hT (lvE_G hT 2).1 (by omega)) q hI.1).1 hb]; unfold pCmp; rw [if_pos hb]
      · rw [if_neg hb, if_neg (fun h => jb_0.mp c_6 ⟨bf hb, h⟩)]
    obtain ⟨q3, e3⟩ : ∃ z, z = pSum T n (lvE T n 2).1 q := ⟨_, rfl⟩
    rw [← e3] at hS3 hI3 eN
    refine j_aload_n (q := 67) C dX11_notOf_66 rfl rfl rfl ?_
    refine j_bipush (v := nI 60) (q := 69) C dX11_notOf_67 rfl (by decide) ?_
    refine jV1 jc11 (q := 72) C dX11_notOf_69 rfl hs11 mX11_isSign kw_1120 kw_1121 kw_54 (ctX11_isSign hS3 hI3.1 (s := 7) (by decide) rfl) rfl rfl (by decide) (Nat.le_of_ble_eq_true rfl) (by decide) ?_
    refine j_if_ne (q := 75) (tgt := 84) C dX11_notOf_72 rfl (by decide) (fun c_72 => ?_) (fun c_72 => ?_)
    · have hk := jb_n.mp c_72
      have hq3 := hk.1
      have ho : oCmp (tk T n q3.2.1) = some 2000002 := by rw [hk.2]; rfl
      obtain ⟨a1, a2, a3, a4⟩ := pI_step (c := 2000002) (pSum_G (k := 11) hT (lvE_G hT 2).1 (by omega)) hq3 (by rw [hk.2]; decide) hI3
      have hS0 := hS3
      obtain ⟨K, b, c, d, g, hQ, hG⟩ := hS0
      obtain ⟨rfl, rfl, hd, rfl, hK⟩ := hG hq3
      refine j_aload_n (q := 85) C dX11_notOf_84 rfl rfl rfl ?_
      refine j_bipush (v := nI 60) (q := 87) C dX11_notOf_85 rfl (by decide) ?_
      refine jV1 jc11 (q := 90) C dX11_notOf_87 rfl hs11 mX11_isSign kw_1120 kw_1121 kw_54 (ctX11_isSign hS3 hI3.1 (s := 7) (by decide) rfl) rfl rfl (by decide) (Nat.le_of_ble_eq_true rfl) (by decide) ?_
      refine j_if_eq (q := 93) (tgt := 98) C dX11_notOf_90 rfl (by decide) (fun c_90 => absurd c_90 c_72) (fun c_90 => ?_)
      refine j_ldc (q := 95) C dX11_notOf_93 rfl kw_1127 ?_
      refine j_goto (tgt := 100) C dX11_notOf_95 (by decide) ?_
      refine j_istore_n (lv' := [(1, _), (0, _)]) (q := 101) C dX11_notOf_100 rfl rfl (by decide) rfl ?_
      refine j_aload_n (q := 102) C dX11_notOf_101 rfl rfl rfl ?_
      refine jVT jc11 (q := 105) C dX11_notOf_102 rfl hs11 mX11_next kw_1024 kw_1025 kw_41 (ctX11_next hSo (x := tt T n q3.2.1) (tt_n (T := T) hI3.1).1 hQ) rfl rfl (by decide) (Nat.le_of_ble_eq_true rfl) (by decide) (fun r_102 M_102 h_102 => ?_)
      obtain ⟨rfl, hN⟩ := h_102
      have hS4 := rSt_nx hq3 hN hK
      refine j_aload_n (q := 106) C dX11_notOf_105 rfl rfl rfl ?_
      refine jVT jc11 (q := 109) C dX11_notOf_106 rfl hs11 mX11_sumOf kw_1111 kw_1112 kw_51 (ctX11_sumOf_2 hSo hSc a1 hS4) rfl rfl (by decide) (Nat.le_of_ble_eq_true rfl) (by decide) (fun r_106 M_106 h_106 => ?_)
      obtain ⟨rfl, hS5⟩ := h_106
      refine j_aload_n (q := 110) C dX11_notOf_109 rfl rfl rfl ?_
      refine j_iload_n (q := 111) C dX11_notOf_110 rfl rfl rfl ?_
      refine j_top (v' := .int (nI 2000002)) (by rfl) ?_
      refine jVT jc11 (q := 114) C dX11_notOf_111 rfl hs11 mX11_codes kw_1108 kw_1109 kw_50 (ctX11_codes hSo hSc hS5 (pI_l hn160 a2) (k := 2000002)) rfl rfl (by decide) (Nat.le_of_ble_eq_true rfl) (by decide) (fun r_111 M_111 h_111 => ?_)
      obtain ⟨rfl, hS6⟩ := h_111
      exact j_vret C E dX11_notOf_114 rfl rfl (⟨rfl, rfl, rfl, by rw [eN]; unfold pCmp; rw [if_neg (by rw [hq3]; decide), ho]; exact hS6⟩)
    · refine j_aload_n (q := 76) C dX11_notOf_75 rfl rfl rfl ?_
      refine j_bipush (v := nI 61) (q := 78) C dX11_notOf_76 rfl (by decide) ?_
      refine jV1 jc11 (q := 81) C dX11_notOf_78 rfl hs11 mX11_isSign kw_1120 kw_1121 kw_54 (ctX11_isSign hS3 hI3.1 (s := 8) (by decide) rfl) rfl rfl (by decide) (Nat.le_of_ble_eq_true rfl) (by decide) ?_
      refine j_if_eq (q := 84) (tgt := 114) C dX11_notOf_81 rfl (by decide) (fun c_81 => ?_) (fun c_81 => ?_)
      · exact j_vret C E dX11_notOf_114 rfl rfl (⟨rfl, rfl, rfl, by
            rw [eN]; unfold pCmp
            by_cases hb : q3.1 = true
            · rw [if_pos hb]; exact hS3
            · have ho : oCmp (tk T n q3.2.1) = none := by unfold oCmp; rw [if_neg (fun h => jb_0.mp c_72 ⟨bf hb, h⟩), if_neg (fun h => jb_0.mp c_81 ⟨bf hb, h⟩)]
              rw [if_neg hb, ho]; exact hS3⟩)
      · have hk := jb_n.mp c_81
        have hq3 := hk.1
        have ho : oCmp (tk T n q3.2.1) = some 2000003 := by rw [hk.2]; rfl
        obtain ⟨a1, a2, a3, a4⟩ := pI_step (c := 2000003) (pSum_G (k := 11) hT (lvE_G hT 2).1 (by omega)) hq3 (by rw [hk.2]; decide) hI3
        have hS0 := hS3
        obtain ⟨K, b, c, d, g, hQ, hG⟩ := hS0
        obtain ⟨rfl, rfl, hd, rfl, hK⟩ := hG hq3
        refine j_aload_n (q := 85) C dX11_notOf_84 rfl rfl rfl ?_
        refine j_bipush (v := nI 60) (q := 87) C dX11_notOf_85 rfl (by decide) ?_
        refine jV1 jc11 (q := 90) C dX11_notOf_87 rfl hs11 mX11_isSign kw_1120 kw_1121 kw_54 (ctX11_isSign hS3 hI3.1 (s := 7) (by decide) rfl) rfl rfl (by decide) (Nat.le_of_ble_eq_true rfl) (by decide) ?_
        refine j_if_eq (q := 93) (tgt := 98) C dX11_notOf_90 rfl (by decide) (fun c_90 => ?_) (fun c_90 => absurd c_72 c_90)
        refine j_ldc (q := 100) C dX11_notOf_98 rfl kw_1128 ?_
        refine j_istore_n (lv' := [(1, _), (0, _)]) (q := 101) C dX11_notOf_100 rfl rfl (by decide) rfl ?_
        refine j_aload_n (q := 102) C dX11_notOf_101 rfl rfl rfl ?_
        refine jVT jc11 (q := 105) C dX11_notOf_102 rfl hs11 mX11_next kw_1024 kw_1025 kw_41 (ctX11_next hSo (x := tt T n q3.2.1) (tt_n (T := T) hI3.1).1 hQ) rfl rfl (by decide) (Nat.le_of_ble_eq_true rfl) (by decide) (fun r_102 M_102 h_102 => ?_)
        obtain ⟨rfl, hN⟩ := h_102
        have hS4 := rSt_nx hq3 hN hK
        refine j_aload_n (q := 106) C dX11_notOf_105 rfl rfl rfl ?_
        refine jVT jc11 (q := 109) C dX11_notOf_106 rfl hs11 mX11_sumOf kw_1111 kw_1112 kw_51 (ctX11_sumOf_2 hSo hSc a1 hS4) rfl rfl (by decide) (Nat.le_of_ble_eq_true rfl) (by decide) (fun r_106 M_106 h_106 => ?_)
        obtain ⟨rfl, hS5⟩ := h_106
        refine j_aload_n (q := 110) C dX11_notOf_109 rfl rfl rfl ?_
        refine j_iload_n (q := 111) C dX11_notOf_110 rfl rfl rfl ?_
        refine j_top (v' := .int (nI 2000003)) (by rfl) ?_
        refine jVT jc11 (q := 114) C dX11_notOf_111 rfl hs11 mX11_codes kw_1108 kw_1109 kw_50 (ctX11_codes hSo hSc hS5 (pI_l hn160 a2) (k := 2000003)) rfl rfl (by decide) (Nat.le_of_ble_eq_true rfl) (by decide) (fun r_111 M_111 h_111 => ?_)
        obtain ⟨rfl, hS6⟩ := h_111
        exact j_vret C E dX11_notOf_114 rfl rfl (⟨rfl, rfl, rfl, by rw [eN]; unfold pCmp; rw [if_neg (by rw [hq3]; decide), ho]; exact hS6⟩)
  · have hk := jb_n.mp c_6
    have hq := hk.1
    obtain ⟨rfl, rfl, hd, rfl, hK⟩ := hG hq
    refine j_aload_n (q := 10) C dX11_notOf_9 rfl rfl rfl ?_
    refine j_aload_n (q := 11) C dX11_notOf_10 rfl rfl rfl ?_
    refine qg_deep hQ (q' := 14) C dX11_notOf_11 rfl kw_886 ?_
    refine j_iconst (v := nI 4) (q := 15) C dX11_notOf_14 rfl (by decide) ?_
    refine j_icmp_ne (q := 18) (tgt := 22) C dX11_notOf_15 rfl (by decide) (fun c_15 => ?_) (fun c_15 => absurd c_15 (by decide))
    refine j_iconst (v := nI 0) (q := 23) C dX11_notOf_22 rfl (by decide) ?_
    refine qp_isFault hSo hQ (by first | exact Or.inl rfl | exact Or.inr rfl) (q' := 26) C dX11_notOf_23 rfl kw_885 (fun M hQ => ?_)
    refine j_aload_n (q := 27) C dX11_notOf_26 rfl rfl rfl ?_
    refine j_dup (q := 28) C dX11_notOf_27 rfl rfl ?_
    refine qg_deep hQ (q' := 31) C dX11_notOf_28 rfl kw_886 ?_
    refine j_iconst (v := nI 1) (q := 32) C dX11_notOf_31 rfl (by decide) ?_
    first | refine j_iaddN (q := 33) C dX11_notOf_32 rfl ?_ | refine j_iadd (q := 33) C dX11_notOf_32 rfl ?_
    refine qp_deep hSo hQ (q' := 36) C dX11_notOf_33 rfl kw_886 (fun M hQ => ?_)
    have hS1 : rSt S o Sh T n M0 3 P M q := ⟨K, _, _, _, _, by rw [jb_f (by rw [hq]; decide)]; exact hQ, fun _ => ⟨rfl, rfl, hd, rfl, hK⟩⟩
    refine j_aload_n (q := 37) C dX11_notOf_36 rfl rfl rfl ?_
    refine j_iconst (v := nI 1) (q := 38) C dX11_notOf_37 rfl (by decide) ?_
    refine jVT jc11 (q := 41) C dX11_notOf_38 rfl hs11 mX11_need kw_1096 kw_1097 kw_46 (ctX11_need hSo hS1 hI.1 (p := True) (jb_t trivial).symm) rfl rfl (by decide) (Nat.le_of_ble_eq_true rfl) (by decide) (fun r_38 M_38 h_38 => ?_)
    obtain ⟨rfl, hS2⟩ := h_38
    rw [if_neg (by rw [hq]; decide), if_pos trivial] at hS2
    have hI2 := (pI_nx (T := T) hq (by rw [hk.2]; decide) hI).1
    refine j_aload_n (q := 42) C dX11_notOf_41 rfl rfl rfl ?_
    refine jVT jc11 (q := 45) C dX11_notOf_42 rfl hs11 mX11_notOf kw_1105 kw_1106 kw_49 (ctX11_notOf_1 hSo hSc hI2 hS2) rfl rfl (by decide) (Nat.le_of_ble_eq_true rfl) (by decide) (fun r_42 M_42 h_42 => ?_)
    obtain ⟨rfl, hS3⟩ := h_42
    have hI3 := pI_sub (pNot_G (k := 6) hT (lvE_G hT 1).1 (lvE_G hT 1).2 (by omega)) hI2
    obtain ⟨q3, e3⟩ : ∃ z, z = (pNot T n (lvE T n 1).1 (lvE T n 1).2 (pNx T n q)) := ⟨_, rfl⟩
    rw [← e3] at hS3 hI3
    obtain ⟨K3, b3, c3, d3, g3, hQ, hG3⟩ := hS3
    refine j_aload_n (q := 46) C dX11_notOf_45 rfl rfl rfl ?_
    refine j_dup (q := 47) C dX11_notOf_46 rfl rfl ?_
    refine qg_deep hQ (q' := 50) C dX11_notOf_47 rfl kw_886 ?_
    refine j_iconst (v := nI 1) (q := 51) C dX11_notOf_50 rfl (by decide) ?_
    refine j_isub (q := 52) C dX11_notOf_51 rfl ?_
    refine j_top (v' := .int (nI 2)) (by rfl) ?_
    refine qp_deep hSo hQ (q' := 55) C dX11_notOf_52 rfl kw_886 (fun M hQ => ?_)
    have hS4 : rSt S o Sh T n M0 2 P M q3 := ⟨K3, b3, c3, d3, g3, hQ, hG3⟩
    refine j_aload_n (q := 56) C dX11_notOf_55 rfl rfl rfl ?_
    refine j_ldc (q := 58) C dX11_notOf_56 rfl kw_984 ?_
    refine j_top (v' := .int (nI 2000008)) (by rfl) ?_
    refine jVT jc11 (q := 61) C dX11_notOf_58 rfl hs11 mX11_codes kw_1108 kw_1109 kw_50 (ctX11_codes hSo hSc hS4 (pI_l hn160 hI3) (k := 2000008)) rfl rfl (by decide) (Nat.le_of_ble_eq_true rfl) (by decide) (fun r_58 M_58 h_58 => ?_)
    obtain ⟨rfl, hS5⟩ := h_58
    exact j_vret C E dX11_notOf_61 rfl rfl (⟨rfl, rfl, rfl, by rw [show pNot T n (lvE T n 2).1 (lvE T n 2).2 q = pEm 2000008 q3 by unfold pNot; rw [if_neg (by rw [hq]; decide), if_pos hk.2, e3]; rfl]; exact hS5⟩)

set_option maxRecDepth 100000 in
set_option maxHeartbeats 4000000 in
theorem ctX11_both_2 {G : jG} {sz : Nat} {Sh : jS} {M : jM} {o : Nat} {S : Nat → Prop} {T : Nat → Nat} {n : Nat} {M0 : jM} {P : List Nat} {q : pS} (hSo : S o) (hSc : S (o + 10)) (hI : pI n P q) (hS : rSt S o Sh T n M0 2 P M q) : jC G yX11_both cX11_both 1 (Option.none : Option FieldType) (jrm 32 0 0) sz Sh M [.ref o] (jT sz Sh (fun r M1 => r = none ∧ rSt S o Sh T n M0 2 P M1 (pAnd T n (lvE T n 2).1 (lvE T n 2).2 q))) := by
  refine jC_start (by decide +kernel) (Nat.le_of_ble_eq_true rfl) (fun X C E hN0 => ?_)
  have hs11 := (rSt_lay hS).1.1.1
  have hn160 : n ≤ 160 := (rSt_lay hS).2.2.1
  have hT := (rSt_lay hS).2.2.2.1
  obtain ⟨Q, eQ⟩ : ∃ z, z = pAnd T n (lvE T n 2).1 (lvE T n 2).2 q := ⟨_, rfl⟩
  rw [← eQ] at E
  have loop4 : ∀ (f : Nat) (q : pS) (M : jM), pI n P q → (q.1 = false → n + 1 ≤ q.2.1 + f) → pLp T n oAnd (pNot T n (lvE T n 2).1 (lvE T n 2).2) f q = Q → rSt S o Sh T n M0 2 P M q → jJ G X 0 0 sz Sh M 4 [(0, .ref o)] [] := by
    intro f
    induction f with
    | zero =>
      intro q M hI hf hQe hS
      have hqb : q.1 = true := by
        cases h : q.1 with
        | true => rfl
        | false => have := hf h; have := hI.1; omega
      refine j_aload_n (q := 5) C dX11_both_4 rfl rfl rfl ?_
      refine j_bipush (v := nI 50) (q := 7) C dX11_both_5 rfl (by decide) ?_
      refine jV1 jc11 (q := 10) C dX11_both_7 rfl hs11 mX11_isWord kw_1093 kw_1094 kw_45 (ctX11_isWord hS (s := 10) (by decide) rfl) rfl rfl (by decide) (Nat.le_of_ble_eq_true rfl) (by decide) ?_
      refine j_if_eq (q := 13) (tgt := 30) C dX11_both_10 rfl (by decide) (fun c_10 => ?_) (fun c_10 => absurd (jb_0.mpr (fun h => by rw [hqb] at h; cases h.1)) c_10)
      exact j_vret C E dX11_both_30 rfl rfl (⟨rfl, rfl, rfl, by rw [← hQe]; exact hS⟩)
    | succ f ih =>
      intro q M hI hf hQe hS
      refine j_aload_n (q := 5) C dX11_both_4 rfl rfl rfl ?_
      refine j_bipush (v := nI 50) (q := 7) C dX11_both_5 rfl (by decide) ?_
      refine jV1 jc11 (q := 10) C dX11_both_7 rfl hs11 mX11_isWord kw_1093 kw_1094 kw_45 (ctX11_isWord hS (s := 10) (by decide) rfl) rfl rfl (by decide) (Nat.le_of_ble_eq_true rfl) (by decide) ?_
      refine j_if_eq (q := 13) (tgt := 30) C dX11_both_10 rfl (by decide) (fun c_10 => ?_) (fun c_10 => ?_)
      · exact j_vret C E dX11_both_30 rfl rfl (⟨rfl, rfl, rfl, by
              have e : pLp T n oAnd (pNot T n (lvE T n 2).1 (lvE T n 2).2) (f + 1) q = q := by
                by_cases hb : q.1 = true
                · exact pLp_bad hb _
                · have ho : oAnd (tk T n q.2.1) = none := by unfold oAnd; rw [if_neg (fun h => jb_0.mp c_10 ⟨bf hb, h⟩)]
                  rw [pLp, if_neg hb, ho]
              rw [← hQe, e]; exact hS⟩)
      · have hk := jb_n.mp c_10
        have hq := hk.1
        have ho : oAnd (tk T n q.2.1) = some 2000001 := by rw [hk.2]; rfl
        obtain ⟨a1, a2, a3, a4⟩ := pI_step (c := 2000001) (pNot_G (k := 11) hT (lvE_G hT 2).1 (lvE_G hT 2).2 (by omega)) hq (by rw [hk.2]; decide) hI
        have hS0 := hS
        obtain ⟨K, b, c, d, g, hQ, hG⟩ := hS0
        obtain ⟨rfl, rfl, hd, rfl, hK⟩ := hG hq
        refine j_aload_n (q := 14) C dX11_both_13 rfl rfl rfl ?_
        refine jVT jc11 (q := 17) C dX11_both_14 rfl hs11 mX11_next kw_1024 kw_1025 kw_41 (ctX11_next hSo (x := tt T n q.2.1) (tt_n (T := T) hI.1).1 hQ) rfl rfl (by decide) (Nat.le_of_ble_eq_true rfl) (by decide) (fun r_14 M_14 h_14 => ?_)
        obtain ⟨rfl, hN⟩ := h_14
        have hS1 := rSt_nx hq hN hK
        refine j_aload_n (q := 18) C dX11_both_17 rfl rfl rfl ?_
        refine jVT jc11 (q := 21) C dX11_both_18 rfl hs11 mX11_notOf kw_1105 kw_1106 kw_49 (ctX11_notOf_2 hSo hSc a1 hS1) rfl rfl (by decide) (Nat.le_of_ble_eq_true rfl) (by decide) (fun r_18 M_18 h_18 => ?_)
        obtain ⟨rfl, hS2⟩ := h_18
        refine j_aload_n (q := 22) C dX11_both_21 rfl rfl rfl ?_
        refine j_ldc (q := 24) C dX11_both_22 rfl kw_1129 ?_
        refine j_top (v' := .int (nI 2000001)) (by rfl) ?_
        refine jVT jc11 (q := 27) C dX11_both_24 rfl hs11 mX11_codes kw_1108 kw_1109 kw_50 (ctX11_codes hSo hSc hS2 (pI_l hn160 a2) (k := 2000001)) rfl rfl (by decide) (Nat.le_of_ble_eq_true rfl) (by decide) (fun r_24 M_24 h_24 => ?_)
        obtain ⟨rfl, hS3⟩ := h_24
        refine j_goto (tgt := 4) C dX11_both_27 (by decide) ?_
        exact ih _ M_24 a3 (fun _ => by have := hf hq; omega) (by rw [← hQe, pLp, if_neg (by rw [hq]; decide), ho]) hS3
  refine j_aload_n (q := 1) C dX11_both_0 rfl rfl rfl ?_
  refine jVT jc11 (q := 4) C dX11_both_1 rfl hs11 mX11_notOf kw_1105 kw_1106 kw_49 (ctX11_notOf_2 hSo hSc hI hS) rfl rfl (by decide) (Nat.le_of_ble_eq_true rfl) (by decide) (fun r_1 M_1 h_1 => ?_)
  obtain ⟨rfl, hS1⟩ := h_1
  exact loop4 160 _ M_1 (pI_sub (pNot_G (k := 11) hT (lvE_G hT 2).1 (lvE_G hT 2).2 (by omega)) hI) (fun hf => by have := (((pNot_G (k := 11) hT (lvE_G hT 2).1 (lvE_G hT 2).2 (by omega)) q hI.1).2.2.2 hf).2.1; omega) (by rw [eQ]; unfold pAnd; rfl) hS1

set_option maxRecDepth 100000 in
set_option maxHeartbeats 4000000 in
theorem ctX11_either_2 {G : jG} {sz : Nat} {Sh : jS} {M : jM} {o : Nat} {S : Nat → Prop} {T : Nat → Nat} {n : Nat} {M0 : jM} {P : List Nat} {q : pS} (hSo : S o) (hSc : S (o + 10)) (hI : pI n P q) (hS : rSt S o Sh T n M0 2 P M q) : jC G yX11_either cX11_either 1 (Option.none : Option FieldType) (jrm 33 0 0) sz Sh M [.ref o] (jT sz Sh (fun r M1 => r = none ∧ rSt S o Sh T n M0 2 P M1 (pOr T n (lvE T n 2).1 (lvE T n 2).2 q))) := by
  refine jC_start (by decide +kernel) (Nat.le_of_ble_eq_true rfl) (fun X C E hN0 => ?_)
  have hs11 := (rSt_lay hS).1.1.1
  have hn160 : n ≤ 160 := (rSt_lay hS).2.2.1
  have hT := (rSt_lay hS).2.2.2.1
  obtain ⟨Q, eQ⟩ : ∃ z, z = pOr T n (lvE T n 2).1 (lvE T n 2).2 q := ⟨_, rfl⟩
  rw [← eQ] at E
  have loop4 : ∀ (f : Nat) (q : pS) (M : jM), pI n P q → (q.1 = false → n + 1 ≤ q.2.1 + f) → pLp T n oOr (pAnd T n (lvE T n 2).1 (lvE T n 2).2) f q = Q → rSt S o Sh T n M0 2 P M q → jJ G X 0 0 sz Sh M 4 [(0, .ref o)] [] := by
    intro f
    induction f with
    | zero =>
      intro q M hI hf hQe hS
      have hqb : q.1 = true := by
        cases h : q.1 with
        | true => rfl
        | false => have := hf h; have := hI.1; omega
      refine j_aload_n (q := 5) C dX11_either_4 rfl rfl rfl ?_
      refine j_bipush (v := nI 54) (q := 7) C dX11_either_5 rfl (by decide) ?_
      refine jV1 jc11 (q := 10) C dX11_either_7 rfl hs11 mX11_isWord kw_1093 kw_1094 kw_45 (ctX11_isWord hS (s := 11) (by decide) rfl) rfl rfl (by decide) (Nat.le_of_ble_eq_true rfl) (by decide) ?_
      refine j_if_eq (q := 13) (tgt := 30) C dX11_either_10 rfl (by decide) (fun c_10 => ?_) (fun c_10 => absurd (jb_0.mpr (fun h => by rw [hqb] at h; cases h.1)) c_10)
      exact j_vret C E dX11_either_30 rfl rfl (⟨rfl, rfl, rfl, by rw [← hQe]; exact hS⟩)
    | succ f ih =>
      intro q M hI hf hQe hS
      refine j_aload_n (q := 5) C dX11_either_4 rfl rfl rfl ?_
      refine j_bipush (v := nI 54) (q := 7) C dX11_either_5 rfl (by decide) ?_
      refine jV1 jc11 (q := 10) C dX11_either_7 rfl hs11 mX11_isWord kw_1093 kw_1094 kw_45 (ctX11_isWord hS (s := 11) (by decide) rfl) rfl rfl (by decide) (Nat.le_of_ble_eq_true rfl) (by decide) ?_
      refine j_if_eq (q := 13) (tgt := 30) C dX11_either_10 rfl (by decide) (fun c_10 => ?_) (fun c_10 => ?_)
      · exact j_vret C E dX11_either_30 rfl rfl (⟨rfl, rfl, rfl, by
              have e : pLp T n oOr (pAnd T n (lvE T n 2).1 (lvE T n 2).2) (f + 1) q = q := by
                by_cases hb : q.1 = true
                · exact pLp_bad hb _
                · have ho : oOr (tk T n q.2.1) = none := by unfold oOr; rw [if_neg (fun h => jb_0.mp c_10 ⟨bf hb, h⟩)]
                  rw [pLp, if_neg hb, ho]
              rw [← hQe, e]; exact hS⟩)
      · have hk := jb_n.mp c_10
        have hq := hk.1
        have ho : oOr (tk T n q.2.1) = some 2000000 := by rw [hk.2]; rfl
        obtain ⟨a1, a2, a3, a4⟩ := pI_step (c := 2000000) (pAnd_G (k := 11) hT (lvE_G hT 2).1 (lvE_G hT 2).2 (by omega)) hq (by rw [hk.2]; decide) hI
        have hS0 := hS
        obtain ⟨K, b, c, d, g, hQ, hG⟩ := hS0
        obtain ⟨rfl, rfl, hd, rfl, hK⟩ := hG hq
        refine j_aload_n (q := 14) C dX11_either_13 rfl rfl rfl ?_
        refine jVT jc11 (q := 17) C dX11_either_14 rfl hs11 mX11_next kw_1024 kw_1025 kw_41 (ctX11_next hSo (x := tt T n q.2.1) (tt_n (T := T) hI.1).1 hQ) rfl rfl (by decide) (Nat.le_of_ble_eq_true rfl) (by decide) (fun r_14 M_14 h_14 => ?_)
        obtain ⟨rfl, hN⟩ := h_14
        have hS1 := rSt_nx hq hN hK
        refine j_aload_n (q := 18) C dX11_either_17 rfl rfl rfl ?_
        refine jVT jc11 (q := 21) C dX11_either_18 rfl hs11 mX11_both kw_1102 kw_1103 kw_48 (ctX11_both_2 hSo hSc a1 hS1) rfl rfl (by decide) (Nat.le_of_ble_eq_true rfl) (by decide) (fun r_18 M_18 h_18 => ?_)
        obtain ⟨rfl, hS2⟩ := h_18
        refine j_aload_n (q := 22) C dX11_either_21 rfl rfl rfl ?_
        refine j_ldc (q := 24) C dX11_either_22 rfl kw_978 ?_
        refine j_top (v' := .int (nI 2000000)) (by rfl) ?_
        refine jVT jc11 (q := 27) C dX11_either_24 rfl hs11 mX11_codes kw_1108 kw_1109 kw_50 (ctX11_codes hSo hSc hS2 (pI_l hn160 a2) (k := 2000000)) rfl rfl (by decide) (Nat.le_of_ble_eq_true rfl) (by decide) (fun r_24 M_24 h_24 => ?_)
        obtain ⟨rfl, hS3⟩ := h_24
        refine j_goto (tgt := 4) C dX11_either_27 (by decide) ?_
        exact ih _ M_24 a3 (fun _ => by have := hf hq; omega) (by rw [← hQe, pLp, if_neg (by rw [hq]; decide), ho]) hS3
  refine j_aload_n (q := 1) C dX11_either_0 rfl rfl rfl ?_
  refine jVT jc11 (q := 4) C dX11_either_1 rfl hs11 mX11_both kw_1102 kw_1103 kw_48 (ctX11_both_2 hSo hSc hI hS) rfl rfl (by decide) (Nat.le_of_ble_eq_true rfl) (by decide) (fun r_1 M_1 h_1 => ?_)
  obtain ⟨rfl, hS1⟩ := h_1
  exact loop4 160 _ M_1 (pI_sub (pAnd_G (k := 11) hT (lvE_G hT 2).1 (lvE_G hT 2).2 (by omega)) hI) (fun hf => by have := (((pAnd_G (k := 11) hT (lvE_G hT 2).1 (lvE_G hT 2).2 (by omega)) q hI.1).2.2.2 hf).2.1; omega) (by rw [eQ]; unfold pOr; rfl) hS1

set_option maxRecDepth 100000 in
set_option maxHeartbeats 4000000 in
theorem ctX11_value_3 {G : jG} {sz : Nat} {Sh : jS} {M : jM} {o : Nat} {S : Nat → Prop} {T : Nat → Nat} {n : Nat} {M0 : jM} {P : List Nat} {q : pS} (hSo : S o) (hSc : S (o + 10)) (hI : pI n P q) (hS : rSt S o Sh T n M0 1 P M q) : jC G yX11_value cX11_value 3 (Option.none : Option FieldType) (jrm 36 0 0) sz Sh M [.ref o] (jT sz Sh (fun r M1 => r = none ∧ rSt S o Sh T n M0 1 P M1 (pVal T n (lvE T n 3).1 q))) := by
  refine jC_start (by decide +kernel) (Nat.le_of_ble_eq_true rfl) (fun X C E hN0 => ?_)
  have hs11 := (rSt_lay hS).1.1.1
  have hn160 : n ≤ 160 := (rSt_lay hS).2.2.1
  have hT := (rSt_lay hS).2.2.2.1
  have hS0 := hS
  obtain ⟨K, b, c, d, g, hQ, hG⟩ := hS0
  refine j_aload_n (q := 1) C dX11_value_0 rfl rfl rfl ?_
  refine j_bipush (v := nI 40) (q := 3) C dX11_value_1 rfl (by decide) ?_
  refine jV1 jc11 (q := 6) C dX11_value_3 rfl hs11 mX11_isSign kw_1120 kw_1121 kw_54 (ctX11_isSign hS hI.1 (s := 0) (by decide) rfl) rfl rfl (by decide) (Nat.le_of_ble_eq_true rfl) (by decide) ?_
  refine j_if_eq (q := 9) (tgt := 66) C dX11_value_6 rfl (by decide) (fun c_6 => ?_) (fun c_6 => ?_)
  · refine j_aload_n (q := 67) C dX11_value_66 rfl rfl rfl ?_
    refine qg_isFault hQ (q' := 70) C dX11_value_67 rfl kw_885 ?_
    refine j_if_eq (q := 73) (tgt := 74) C dX11_value_70 rfl (by decide) (fun c_70 => ?_) (fun c_70 => ?_)
    · have hq : q.1 = false := bf (jb_0.mp c_70)
      have hns : ¬ tk T n q.2.1 = (3, 0) := fun h => jb_0.mp c_6 ⟨hq, h⟩
      have hqb : ¬ q.1 = true := by rw [hq]; decide
      have hts := tk_sort (T := T) (n := n) (x := q.2.1)
      obtain ⟨rfl, rfl, hd, rfl, hK⟩ := hG hq
      refine j_aload_n (q := 75) C dX11_value_74 rfl rfl rfl ?_
      refine qg_sort hQ (q' := 78) C dX11_value_75 rfl kw_883 ?_
      refine j_iconst (v := nI 2) (q := 79) C dX11_value_78 rfl (by decide) ?_
      refine j_icmp_ne (q := 82) (tgt := 126) C dX11_value_79 rfl (by decide) (fun c_79 => ?_) (fun c_79 => ?_)
      · refine j_aload_n (q := 127) C dX11_value_126 rfl rfl rfl ?_
        refine qg_sort hQ (q' := 130) C dX11_value_127 rfl kw_883 ?_
        refine j_iconst (v := nI 1) (q := 131) C dX11_value_130 rfl (by decide) ?_
        refine j_icmp_ne (q := 134) (tgt := 157) C dX11_value_131 rfl (by decide) (fun c_131 => ?_) (fun c_131 => ?_)
        · refine j_aload_n (q := 158) C dX11_value_157 rfl rfl rfl ?_
          refine j_iconst (v := nI 1) (q := 159) C dX11_value_158 rfl (by decide) ?_
          refine qp_isFault hSo hQ (by first | exact Or.inl rfl | exact Or.inr rfl) (q' := 162) C dX11_value_159 rfl kw_885 (fun M hQ => ?_)
          refine j_aload_n (q := 163) C dX11_value_162 rfl rfl rfl ?_
          refine j_iconst (v := nI 1) (q := 164) C dX11_value_163 rfl (by decide) ?_
          refine jVT jc11 (q := 167) C dX11_value_164 rfl hs11 mX11_need kw_1096 kw_1097 kw_46 (ctX11_need hSo (rSt_bad (P := P) (q := pBad q) rfl hQ) hI.1 (p := True) (jb_t trivial).symm) rfl rfl (by decide) (Nat.le_of_ble_eq_true rfl) (by decide) (fun r_164 M_164 h_164 => ?_)
          obtain ⟨rfl, hS7⟩ := h_164
          rw [if_pos (show (pBad q).1 = true from rfl)] at hS7
          exact j_vret C E dX11_value_167 rfl rfl (⟨rfl, rfl, rfl, by rw [show pVal T n (lvE T n 3).1 q = pBad q by unfold pVal; rw [if_neg hqb, if_neg hns, if_neg (fun h => c_79 (by rw [h])), if_neg (fun h => c_131 (by rw [h.1]))]]; exact hS7⟩)
        · have h1 : (tk T n q.2.1).1 = 1 := (nI_eq (by omega) (by omega)).mp c_131
          obtain rfl := hd h1
          have hw1 := wps_lt _ (hts.2.1 h1)
          have hw7 := wps7 _ (hts.2.1 h1)
          refine j_aload_n (q := 135) C dX11_value_134 rfl rfl rfl ?_
          refine qg_which hQ (q' := 138) C dX11_value_135 rfl kw_884 ?_
          refine j_bipush (v := nI 30) (q := 140) C dX11_value_138 rfl (by decide) ?_
          refine j_icmp_gt (q := 143) (tgt := 157) C dX11_value_140 rfl (by decide) (fun c_140 => ?_) (fun c_140 => ?_)
          · refine j_aload_n (q := 158) C dX11_value_157 rfl rfl rfl ?_
            refine j_iconst (v := nI 1) (q := 159) C dX11_value_158 rfl (by decide) ?_
            refine qp_isFault hSo hQ (by first | exact Or.inl rfl | exact Or.inr rfl) (q' := 162) C dX11_value_159 rfl kw_885 (fun M hQ => ?_)
            refine j_aload_n (q := 163) C dX11_value_162 rfl rfl rfl ?_
            refine j_iconst (v := nI 1) (q := 164) C dX11_value_163 rfl (by decide) ?_
            refine jVT jc11 (q := 167) C dX11_value_164 rfl hs11 mX11_need kw_1096 kw_1097 kw_46 (ctX11_need hSo (rSt_bad (P := P) (q := pBad q) rfl hQ) hI.1 (p := True) (jb_t trivial).symm) rfl rfl (by decide) (Nat.le_of_ble_eq_true rfl) (by decide) (fun r_164 M_164 h_164 => ?_)
            obtain ⟨rfl, hS7⟩ := h_164
            rw [if_pos (show (pBad q).1 = true from rfl)] at hS7
            exact j_vret C E dX11_value_167 rfl rfl (⟨rfl, rfl, rfl, by rw [show pVal T n (lvE T n 3).1 q = pBad q by unfold pVal; rw [if_neg hqb, if_neg hns, if_neg (fun h => c_79 (by rw [h])), if_neg (fun h => absurd ((nI_ltI (by omega) (by omega)).mp c_140) (by have := hw7.mpr h.2; omega))]]; exact hS7⟩)
          · refine j_aload_n (q := 144) C dX11_value_143 rfl rfl rfl ?_
            refine j_ldc (q := 146) C dX11_value_144 rfl kw_979 ?_
            refine j_aload_n (q := 147) C dX11_value_146 rfl rfl rfl ?_
            refine qg_which hQ (q' := 150) C dX11_value_147 rfl kw_884 ?_
            first | refine j_iaddN (q := 151) C dX11_value_150 rfl ?_ | refine j_iadd (q := 151) C dX11_value_150 rfl ?_
            refine j_top (v' := .int (nI (1000000 + wps.getD (tk T n q.2.1).2 0))) (by rfl) ?_
            refine jVT jc11 (q := 154) C dX11_value_151 rfl hs11 mX11_codes kw_1108 kw_1109 kw_50 (ctX11_codes hSo hSc hS (pI_l hn160 hI) (k := 1000000 + wps.getD (tk T n q.2.1).2 0)) rfl rfl (by decide) (Nat.le_of_ble_eq_true rfl) (by decide) (fun r_151 M_151 h_151 => ?_)
            obtain ⟨rfl, hS6⟩ := h_151
            refine j_goto (tgt := 162) C dX11_value_154 (by decide) ?_
            refine j_aload_n (q := 163) C dX11_value_162 rfl rfl rfl ?_
            refine j_iconst (v := nI 1) (q := 164) C dX11_value_163 rfl (by decide) ?_
            refine jVT jc11 (q := 167) C dX11_value_164 rfl hs11 mX11_need kw_1096 kw_1097 kw_46 (ctX11_need hSo hS6 (by rw [pEm_f hq]; exact hI.1) (p := True) (jb_t trivial).symm) rfl rfl (by decide) (Nat.le_of_ble_eq_true rfl) (by decide) (fun r_164 M_164 h_164 => ?_)
            obtain ⟨rfl, hS7⟩ := h_164
            rw [if_neg (by rw [pEm_f hq]; exact Bool.false_ne_true), if_pos trivial] at hS7
            exact j_vret C E dX11_value_167 rfl rfl (⟨rfl, rfl, rfl, by rw [show pVal T n (lvE T n 3).1 q = pNx T n (pEm (1000000 + wps.getD (tk T n q.2.1).2 0) q) by unfold pVal; rw [if_neg hqb, if_neg hns, if_neg (fun h => c_79 (by rw [h])), if_pos ⟨h1, hw7.mp (Nat.le_of_not_lt (fun h => c_140 (nI_lt (by omega) (by omega))))⟩]]; exact hS7⟩)
      · have h2 : (tk T n q.2.1).1 = 2 := (nI_eq (by omega) (by omega)).mp c_79
        refine j_iconst (v := nI 0) (q := 83) C dX11_value_82 rfl (by decide) ?_
        refine j_istore_n (lv' := [(1, _), (0, _)]) (q := 84) C dX11_value_83 rfl rfl (by decide) rfl ?_
        refine j_aload_n (q := 85) C dX11_value_84 rfl rfl rfl ?_
        refine qg_from hQ (q' := 88) C dX11_value_85 rfl kw_881 ?_
        refine j_istore_n (lv' := [(2, _), (1, _), (0, _)]) (q := 89) C dX11_value_88 rfl rfl (by decide) rfl ?_
        have hx1 := tt_le (T := T) hI.1
        have hdg : ∀ i, i < tt T n q.2.1 - fr T n q.2.1 → isDg (T (fr T n q.2.1 + i)) = true := tk_dig h2
        have j118 : jJ G X 0 0 sz Sh M 118 [(1, .int (nI (nm T (fr T n q.2.1) (tt T n q.2.1 - fr T n q.2.1)))), (0, .ref o)] [] := by
          refine j_aload_n (q := 119) C dX11_value_118 rfl rfl rfl ?_
          refine j_iload_n (q := 120) C dX11_value_119 rfl rfl rfl ?_
          refine jVT jc11 (q := 123) C dX11_value_120 rfl hs11 mX11_codes kw_1108 kw_1109 kw_50 (ctX11_codes hSo hSc hS (pI_l hn160 hI) (k := nm T (fr T n q.2.1) (tt T n q.2.1 - fr T n q.2.1))) rfl rfl (by decide) (Nat.le_of_ble_eq_true rfl) (by decide) (fun r_120 M_120 h_120 => ?_)
          obtain ⟨rfl, hS6⟩ := h_120
          refine j_goto (tgt := 162) C dX11_value_123 (by decide) ?_
          refine j_aload_n (q := 163) C dX11_value_162 rfl rfl rfl ?_
          refine j_iconst (v := nI 1) (q := 164) C dX11_value_163 rfl (by decide) ?_
          refine jVT jc11 (q := 167) C dX11_value_164 rfl hs11 mX11_need kw_1096 kw_1097 kw_46 (ctX11_need hSo hS6 (by rw [pEm_f hq]; exact hI.1) (p := True) (jb_t trivial).symm) rfl rfl (by decide) (Nat.le_of_ble_eq_true rfl) (by decide) (fun r_164 M_164 h_164 => ?_)
          obtain ⟨rfl, hS7⟩ := h_164
          rw [if_neg (by rw [pEm_f hq]; exact Bool.false_ne_true), if_pos trivial] at hS7
          exact j_vret C E dX11_value_167 rfl rfl (⟨rfl, rfl, rfl, by rw [show pVal T n (lvE T n 3).1 q = pNx T n (pEm (nm T (fr T n q.2.1) (tt T n q.2.1 - fr T n q.2.1)) q) by unfold pVal; rw [if_neg hqb, if_neg hns, if_pos h2, (tk_num hT h2).2.1]]; exact hS7⟩)
        have loop89 : ∀ (z k : Nat), k + z = tt T n q.2.1 - fr T n q.2.1 → jJ G X 0 0 sz Sh M 89 [(2, .int (nI (fr T n q.2.1 + k))), (1, .int (nI (nm T (fr T n q.2.1) k))), (0, .ref o)] [] := by
          intro z
          induction z with
          | zero =>
            intro k hk
            refine j_iload_n (q := 90) C dX11_value_89 rfl rfl rfl ?_
            refine j_aload_n (q := 91) C dX11_value_90 rfl rfl rfl ?_
            refine qg_to hQ (q' := 94) C dX11_value_91 rfl kw_882 ?_
            refine j_icmp_ge (q := 97) (tgt := 118) C dX11_value_94 rfl (by decide) (fun c_94 => ?_) (fun c_94 => absurd (nI_le (by omega) (by omega)) c_94)
            obtain rfl : tt T n q.2.1 - fr T n q.2.1 = k := by omega
            exact j_fewer (lv' := [(1, .int (nI (nm T (fr T n q.2.1) (tt T n q.2.1 - fr T n q.2.1)))), (0, .ref o)]) (by simp) j118
          | succ z ih =>
            intro k hk
            have hdk := of_decide_eq_true (hdg k (by omega))
            refine j_iload_n (q := 90) C dX11_value_89 rfl rfl rfl ?_
            refine j_aload_n (q := 91) C dX11_value_90 rfl rfl rfl ?_
            refine qg_to hQ (q' := 94) C dX11_value_91 rfl kw_882 ?_
            refine j_icmp_ge (q := 97) (tgt := 118) C dX11_value_94 rfl (by decide) (fun c_94 => absurd c_94 (fun h => absurd ((nI_leI (by omega) (by omega)).mp h) (by omega))) (fun c_94 => ?_)
            refine j_bipush (v := nI 10) (q := 99) C dX11_value_97 rfl (by decide) ?_
            refine j_iload_n (q := 100) C dX11_value_99 rfl rfl rfl ?_
            first | refine j_imulN (q := 101) C dX11_value_100 rfl ?_ | refine j_imul (q := 101) C dX11_value_100 rfl ?_
            refine j_aload_n (q := 102) C dX11_value_101 rfl rfl rfl ?_
            refine jg_Model_tape (q := 105) C dX11_value_102 rfl hs11 kw_876 hQ.2.2.1.2.2.2.2.2.2.1 ?_
            refine j_iload_n (q := 106) C dX11_value_105 rfl rfl rfl ?_
            refine j_iald (q := 107) C dX11_value_106 rfl hQ.2.2.1.1.2.2.2.2.2.2.1 (show fr T n q.2.1 + k < 160 by omega) (by decide) ?_
            rw [hQ.2.2.2.1.2.2.2 (fr T n q.2.1 + k) (by omega)]
            first | refine j_iaddN (q := 108) C dX11_value_107 rfl ?_ | refine j_iadd (q := 108) C dX11_value_107 rfl ?_
            refine j_bipush (v := nI 48) (q := 110) C dX11_value_108 rfl (by decide) ?_
            refine j_isub (q := 111) C dX11_value_110 rfl ?_
            refine j_top (v' := .int (nI (nm T (fr T n q.2.1) (k + 1)))) (congrArg Value.int (by rw [pk_sub (by omega), nm]; congr 1; omega)) ?_
            refine j_istore_n (lv' := [(1, _), (2, _), (0, _)]) (q := 112) C dX11_value_111 rfl rfl (by decide) rfl ?_
            first | refine j_iincN (lv' := [(2, _), (1, _), (0, _)]) (q := 115) C dX11_value_112 rfl rfl (by decide) rfl ?_ | refine j_iinc (lv' := [(2, _), (1, _), (0, _)]) (q := 115) C dX11_value_112 rfl rfl rfl (by decide) rfl ?_
            refine j_goto (tgt := 89) C dX11_value_115 (by decide) ?_
            exact j_fewer (lv' := [(2, .int (nI (fr T n q.2.1 + (k + 1)))), (1, .int (nI (nm T (fr T n q.2.1) (k + 1)))), (0, .ref o)]) (by simp [Nat.add_assoc]) (ih (k + 1) (by omega))
        exact j_fewer (lv' := [(2, .int (nI (fr T n q.2.1 + 0))), (1, .int (nI (nm T (fr T n q.2.1) 0))), (0, .ref o)]) (by simp [nm]) (loop89 (tt T n q.2.1 - fr T n q.2.1) 0 (by omega))
    · exact j_vret C E dX11_value_73 rfl rfl (⟨rfl, rfl, rfl, by rw [show pVal T n (lvE T n 3).1 q = q by unfold pVal; rw [if_pos (jb_n.mp c_70)]]; exact hS⟩)
  · have hk := jb_n.mp c_6
    have hq := hk.1
    obtain ⟨rfl, rfl, hd, rfl, hK⟩ := hG hq
    refine j_aload_n (q := 10) C dX11_value_9 rfl rfl rfl ?_
    refine j_aload_n (q := 11) C dX11_value_10 rfl rfl rfl ?_
    refine qg_deep hQ (q' := 14) C dX11_value_11 rfl kw_886 ?_
    refine j_iconst (v := nI 4) (q := 15) C dX11_value_14 rfl (by decide) ?_
    refine j_icmp_ne (q := 18) (tgt := 22) C dX11_value_15 rfl (by decide) (fun c_15 => ?_) (fun c_15 => absurd c_15 (by decide))
    refine j_iconst (v := nI 0) (q := 23) C dX11_value_22 rfl (by decide) ?_
    refine qp_isFault hSo hQ (by first | exact Or.inl rfl | exact Or.inr rfl) (q' := 26) C dX11_value_23 rfl kw_885 (fun M hQ => ?_)
    refine j_aload_n (q := 27) C dX11_value_26 rfl rfl rfl ?_
    refine j_dup (q := 28) C dX11_value_27 rfl rfl ?_
    refine qg_deep hQ (q' := 31) C dX11_value_28 rfl kw_886 ?_
    refine j_iconst (v := nI 1) (q := 32) C dX11_value_31 rfl (by decide) ?_
    first | refine j_iaddN (q := 33) C dX11_value_32 rfl ?_ | refine j_iadd (q := 33) C dX11_value_32 rfl ?_
    refine qp_deep hSo hQ (q' := 36) C dX11_value_33 rfl kw_886 (fun M hQ => ?_)
    have hS1 : rSt S o Sh T n M0 2 P M q := ⟨K, _, _, _, _, by rw [jb_f (by rw [hq]; decide)]; exact hQ, fun _ => ⟨rfl, rfl, hd, rfl, hK⟩⟩
    refine j_aload_n (q := 37) C dX11_value_36 rfl rfl rfl ?_
    refine j_iconst (v := nI 1) (q := 38) C dX11_value_37 rfl (by decide) ?_
    refine jVT jc11 (q := 41) C dX11_value_38 rfl hs11 mX11_need kw_1096 kw_1097 kw_46 (ctX11_need hSo hS1 hI.1 (p := True) (jb_t trivial).symm) rfl rfl (by decide) (Nat.le_of_ble_eq_true rfl) (by decide) (fun r_38 M_38 h_38 => ?_)
    obtain ⟨rfl, hS2⟩ := h_38
    rw [if_neg (by rw [hq]; decide), if_pos trivial] at hS2
    have hI2 := (pI_nx (T := T) hq (by rw [hk.2]; decide) hI).1
    refine j_aload_n (q := 42) C dX11_value_41 rfl rfl rfl ?_
    refine jVT jc11 (q := 45) C dX11_value_42 rfl hs11 mX11_either kw_1099 kw_1100 kw_47 (ctX11_either_2 hSo hSc hI2 hS2) rfl rfl (by decide) (Nat.le_of_ble_eq_true rfl) (by decide) (fun r_42 M_42 h_42 => ?_)
    obtain ⟨rfl, hS3⟩ := h_42
    have hI3 := pI_sub (pOr_G (k := 11) hT (lvE_G hT 2).1 (lvE_G hT 2).2 (by omega)) hI2
    obtain ⟨q3, e3⟩ : ∃ z, z = (pOr T n (lvE T n 2).1 (lvE T n 2).2 (pNx T n q)) := ⟨_, rfl⟩
    rw [← e3] at hS3 hI3
    obtain ⟨K3, b3, c3, d3, g3, hQ, hG3⟩ := hS3
    refine j_aload_n (q := 46) C dX11_value_45 rfl rfl rfl ?_
    refine j_dup (q := 47) C dX11_value_46 rfl rfl ?_
    refine qg_deep hQ (q' := 50) C dX11_value_47 rfl kw_886 ?_
    refine j_iconst (v := nI 1) (q := 51) C dX11_value_50 rfl (by decide) ?_
    refine j_isub (q := 52) C dX11_value_51 rfl ?_
    refine j_top (v' := .int (nI 1)) (by rfl) ?_
    refine qp_deep hSo hQ (q' := 55) C dX11_value_52 rfl kw_886 (fun M hQ => ?_)
    have hS4 : rSt S o Sh T n M0 1 P M q3 := ⟨K3, b3, c3, d3, g3, hQ, hG3⟩
    refine j_aload_n (q := 56) C dX11_value_55 rfl rfl rfl ?_
    refine j_aload_n (q := 57) C dX11_value_56 rfl rfl rfl ?_
    refine j_bipush (v := nI 41) (q := 59) C dX11_value_57 rfl (by decide) ?_
    refine jV1 jc11 (q := 62) C dX11_value_59 rfl hs11 mX11_isSign kw_1120 kw_1121 kw_54 (ctX11_isSign hS4 hI3.1 (s := 1) (by decide) rfl) rfl rfl (by decide) (Nat.le_of_ble_eq_true rfl) (by decide) ?_
    refine jVT jc11 (q := 65) C dX11_value_62 rfl hs11 mX11_need kw_1096 kw_1097 kw_46 (ctX11_need hSo hS4 hI3.1 (p := q3.1 = false ∧ tk T n q3.2.1 = (3, 1)) rfl) rfl rfl (by decide) (Nat.le_of_ble_eq_true rfl) (by decide) (fun r_62 M_62 h_62 => ?_)
    obtain ⟨rfl, hS5⟩ := h_62
    rw [need_exp] at hS5
    exact j_vret C E dX11_value_65 rfl rfl (⟨rfl, rfl, rfl, by rw [show pVal T n (lvE T n 3).1 q = pExp T n (3, 1) q3 by unfold pVal; rw [if_neg (by rw [hq]; decide), if_pos hk.2, e3]; rfl]; exact hS5⟩)

set_option maxRecDepth 100000 in
set_option maxHeartbeats 4000000 in
theorem ctX11_oneOf_3 {G : jG} {sz : Nat} {Sh : jS} {M : jM} {o : Nat} {S : Nat → Prop} {T : Nat → Nat} {n : Nat} {M0 : jM} {P : List Nat} {q : pS} (hSo : S o) (hSc : S (o + 10)) (hI : pI n P q) (hS : rSt S o Sh T n M0 1 P M q) : jC G yX11_oneOf cX11_oneOf 2 (Option.none : Option FieldType) (jrm 37 0 0) sz Sh M [.ref o] (jT sz Sh (fun r M1 => r = none ∧ rSt S o Sh T n M0 1 P M1 (pOne T n (lvE T n 3).1 q))) := by
  refine jC_start (by decide +kernel) (Nat.le_of_ble_eq_true rfl) (fun X C E hN0 => ?_)
  have hs11 := (rSt_lay hS).1.1.1
  have hn160 : n ≤ 160 := (rSt_lay hS).2.2.1
  have hT := (rSt_lay hS).2.2.2.1
  obtain ⟨Q, eQ⟩ : ∃ z, z = pOne T n (lvE T n 3).1 q := ⟨_, rfl⟩
  rw [← eQ] at E
  have loop4 : ∀ (f : Nat) (q : pS) (M : jM), pI n P q → (q.1 = false → n + 1 ≤ q.2.1 + f) → pLp T n oMul (pVal T n (lvE T n 3).1) f q = Q → rSt S o Sh T n M0 1 P M q → jJ G X 0 0 sz Sh M 4 [(0, .ref o)] [] := by
    intro f
    induction f with
    | zero =>
      intro q M hI hf hQe hS
      have hqb : q.1 = true := by
        cases h : q.1 with
        | true => rfl
        | false => have := hf h; have := hI.1; omega
      refine j_aload_n (q := 5) C dX11_oneOf_4 rfl rfl rfl ?_
      refine j_bipush (v := nI 42) (q := 7) C dX11_oneOf_5 rfl (by decide) ?_
      refine jV1 jc11 (q := 10) C dX11_oneOf_7 rfl hs11 mX11_isSign kw_1120 kw_1121 kw_54 (ctX11_isSign hS hI.1 (s := 5) (by decide) rfl) rfl rfl (by decide) (Nat.le_of_ble_eq_true rfl) (by decide) ?_
      refine j_if_ne (q := 13) (tgt := 22) C dX11_oneOf_10 rfl (by decide) (fun c_10 => absurd (jb_0.mpr (fun h => by rw [hqb] at h; cases h.1)) c_10) (fun c_10 => ?_)
      refine j_aload_n (q := 14) C dX11_oneOf_13 rfl rfl rfl ?_
      refine j_bipush (v := nI 47) (q := 16) C dX11_oneOf_14 rfl (by decide) ?_
      refine jV1 jc11 (q := 19) C dX11_oneOf_16 rfl hs11 mX11_isSign kw_1120 kw_1121 kw_54 (ctX11_isSign hS hI.1 (s := 6) (by decide) rfl) rfl rfl (by decide) (Nat.le_of_ble_eq_true rfl) (by decide) ?_
      refine j_if_eq (q := 22) (tgt := 55) C dX11_oneOf_19 rfl (by decide) (fun c_19 => ?_) (fun c_19 => absurd (jb_0.mpr (fun h => by rw [hqb] at h; cases h.1)) c_19)
      exact j_vret C E dX11_oneOf_55 rfl rfl (⟨rfl, rfl, rfl, by rw [← hQe]; exact hS⟩)
    | succ f ih =>
      intro q M hI hf hQe hS
      refine j_aload_n (q := 5) C dX11_oneOf_4 rfl rfl rfl ?_
      refine j_bipush (v := nI 42) (q := 7) C dX11_oneOf_5 rfl (by decide) ?_
      refine jV1 jc11 (q := 10) C dX11_oneOf_7 rfl hs11 mX11_isSign kw_1120 kw_1121 kw_54 (ctX11_isSign hS hI.1 (s := 5) (by decide) rfl) rfl rfl (by decide) (Nat.le_of_ble_eq_true rfl) (by decide) ?_
      refine j_if_ne (q := 13) (tgt := 22) C dX11_oneOf_10 rfl (by decide) (fun c_10 => ?_) (fun c_10 => ?_)
      · have hk := jb_n.mp c_10
        have hq := hk.1
        have ho : oMul (tk T n q.2.1) = some 2000006 := by rw [hk.2]; rfl
        obtain ⟨a1, a2, a3, a4⟩ := pI_step (c := 2000006) (pVal_G (k := 16) hT (lvE_G hT 3).1 (by omega)) hq (by rw [hk.2]; decide) hI
        have hS0 := hS
        obtain ⟨K, b, c, d, g, hQ, hG⟩ := hS0
        obtain ⟨rfl, rfl, hd, rfl, hK⟩ := hG hq
        refine j_aload_n (q := 23) C dX11_oneOf_22 rfl rfl rfl ?_
        refine j_bipush (v := nI 42) (q := 25) C dX11_oneOf_23 rfl (by decide) ?_
        refine jV1 jc11 (q := 28) C dX11_oneOf_25 rfl hs11 mX11_isSign kw_1120 kw_1121 kw_54 (ctX11_isSign hS hI.1 (s := 5) (by decide) rfl) rfl rfl (by decide) (Nat.le_of_ble_eq_true rfl) (by decide) ?_
        refine j_if_eq (q := 31) (tgt := 36) C dX11_oneOf_28 rfl (by decide) (fun c_28 => absurd c_28 c_10) (fun c_28 => ?_)
        refine j_ldc (q := 33) C dX11_oneOf_31 rfl kw_1123 ?_
        refine j_goto (tgt := 38) C dX11_oneOf_33 (by decide) ?_
        refine j_istore_n (lv' := [(1, _), (0, _)]) (q := 39) C dX11_oneOf_38 rfl rfl (by decide) rfl ?_
        refine j_aload_n (q := 40) C dX11_oneOf_39 rfl rfl rfl ?_
        refine jVT jc11 (q := 43) C dX11_oneOf_40 rfl hs11 mX11_next kw_1024 kw_1025 kw_41 (ctX11_next hSo (x := tt T n q.2.1) (tt_n (T := T) hI.1).1 hQ) rfl rfl (by decide) (Nat.le_of_ble_eq_true rfl) (by decide) (fun r_40 M_40 h_40 => ?_)
        obtain ⟨rfl, hN⟩ := h_40
        have hS1 := rSt_nx hq hN hK
        refine j_aload_n (q := 44) C dX11_oneOf_43 rfl rfl rfl ?_
        refine jVT jc11 (q := 47) C dX11_oneOf_44 rfl hs11 mX11_value kw_1117 kw_1118 kw_53 (ctX11_value_3 hSo hSc a1 hS1) rfl rfl (by decide) (Nat.le_of_ble_eq_true rfl) (by decide) (fun r_44 M_44 h_44 => ?_)
        obtain ⟨rfl, hS2⟩ := h_44
        refine j_aload_n (q := 48) C dX11_oneOf_47 rfl rfl rfl ?_
        refine j_iload_n (q := 49) C dX11_oneOf_48 rfl rfl rfl ?_
        refine j_top (v' := .int (nI 2000006)) (by rfl) ?_
        refine jVT jc11 (q := 52) C dX11_oneOf_49 rfl hs11 mX11_codes kw_1108 kw_1109 kw_50 (ctX11_codes hSo hSc hS2 (pI_l hn160 a2) (k := 2000006)) rfl rfl (by decide) (Nat.le_of_ble_eq_true rfl) (by decide) (fun r_49 M_49 h_49 => ?_)
        obtain ⟨rfl, hS3⟩ := h_49
        refine j_goto (tgt := 4) C dX11_oneOf_52 (by decide) ?_
        exact j_fewer (lv' := [(0, .ref o)]) (by simp) (ih _ M_49 a3 (fun _ => by have := hf hq; omega) (by rw [← hQe, pLp, if_neg (by rw [hq]; decide), ho]) hS3)
      · refine j_aload_n (q := 14) C dX11_oneOf_13 rfl rfl rfl ?_
        refine j_bipush (v := nI 47) (q := 16) C dX11_oneOf_14 rfl (by decide) ?_
        refine jV1 jc11 (q := 19) C dX11_oneOf_16 rfl hs11 mX11_isSign kw_1120 kw_1121 kw_54 (ctX11_isSign hS hI.1 (s := 6) (by decide) rfl) rfl rfl (by decide) (Nat.le_of_ble_eq_true rfl) (by decide) ?_
        refine j_if_eq (q := 22) (tgt := 55) C dX11_oneOf_19 rfl (by decide) (fun c_19 => ?_) (fun c_19 => ?_)
        · exact j_vret C E dX11_oneOf_55 rfl rfl (⟨rfl, rfl, rfl, by
                have e : pLp T n oMul (pVal T n (lvE T n 3).1) (f + 1) q = q := by
                  by_cases hb : q.1 = true
                  · exact pLp_bad hb _
                  · have ho : oMul (tk T n q.2.1) = none := by unfold oMul; rw [if_neg (fun h => jb_0.mp c_10 ⟨bf hb, h⟩), if_neg (fun h => jb_0.mp c_19 ⟨bf hb, h⟩)]
                    rw [pLp, if_neg hb, ho]
                rw [← hQe, e]; exact hS⟩)
        · have hk := jb_n.mp c_19
          have hq := hk.1
          have ho : oMul (tk T n q.2.1) = some 2000007 := by rw [hk.2]; rfl
          obtain ⟨a1, a2, a3, a4⟩ := pI_step (c := 2000007) (pVal_G (k := 16) hT (lvE_G hT 3).1 (by omega)) hq (by rw [hk.2]; decide) hI
          have hS0 := hS
          obtain ⟨K, b, c, d, g, hQ, hG⟩ := hS0
          obtain ⟨rfl, rfl, hd, rfl, hK⟩ := hG hq
          refine j_aload_n (q := 23) C dX11_oneOf_22 rfl rfl rfl ?_
          refine j_bipush (v := nI 42) (q := 25) C dX11_oneOf_23 rfl (by decide) ?_
          refine jV1 jc11 (q := 28) C dX11_oneOf_25 rfl hs11 mX11_isSign kw_1120 kw_1121 kw_54 (ctX11_isSign hS hI.1 (s := 5) (by decide) rfl) rfl rfl (by decide) (Nat.le_of_ble_eq_true rfl) (by decide) ?_
          refine j_if_eq (q := 31) (tgt := 36) C dX11_oneOf_28 rfl (by decide) (fun c_28 => ?_) (fun c_28 => absurd c_10 c_28)
          refine j_ldc (q := 38) C dX11_oneOf_36 rfl kw_1124 ?_
          refine j_istore_n (lv' := [(1, _), (0, _)]) (q := 39) C dX11_oneOf_38 rfl rfl (by decide) rfl ?_
          refine j_aload_n (q := 40) C dX11_oneOf_39 rfl rfl rfl ?_
          refine jVT jc11 (q := 43) C dX11_oneOf_40 rfl hs11 mX11_next kw_1024 kw_1025 kw_41 (ctX11_next hSo (x := tt T n q.2.1) (tt_n (T := T) hI.1).1 hQ) rfl rfl (by decide) (Nat.le_of_ble_eq_true rfl) (by decide) (fun r_40 M_40 h_40 => ?_)
          obtain ⟨rfl, hN⟩ := h_40
          have hS1 := rSt_nx hq hN hK
          refine j_aload_n (q := 44) C dX11_oneOf_43 rfl rfl rfl ?_
          refine jVT jc11 (q := 47) C dX11_oneOf_44 rfl hs11 mX11_value kw_1117 kw_1118 kw_53 (ctX11_value_3 hSo hSc a1 hS1) rfl rfl (by decide) (Nat.le_of_ble_eq_true rfl) (by decide) (fun r_44 M_44 h_44 => ?_)
          obtain ⟨rfl, hS2⟩ := h_44
          refine j_aload_n (q := 48) C dX11_oneOf_47 rfl rfl rfl ?_
          refine j_iload_n (q := 49) C dX11_oneOf_48 rfl rfl rfl ?_
          refine j_top (v' := .int (nI 2000007)) (by rfl) ?_
          refine jVT jc11 (q := 52) C dX11_oneOf_49 rfl hs11 mX11_codes kw_1108 kw_1109 kw_50 (ctX11_codes hSo hSc hS2 (pI_l hn160 a2) (k := 2000007)) rfl rfl (by decide) (Nat.le_of_ble_eq_true rfl) (by decide) (fun r_49 M_49 h_49 => ?_)
          obtain ⟨rfl, hS3⟩ := h_49
          refine j_goto (tgt := 4) C dX11_oneOf_52 (by decide) ?_
          exact j_fewer (lv' := [(0, .ref o)]) (by simp) (ih _ M_49 a3 (fun _ => by have := hf hq; omega) (by rw [← hQe, pLp, if_neg (by rw [hq]; decide), ho]) hS3)
  refine j_aload_n (q := 1) C dX11_oneOf_0 rfl rfl rfl ?_
  refine jVT jc11 (q := 4) C dX11_oneOf_1 rfl hs11 mX11_value kw_1117 kw_1118 kw_53 (ctX11_value_3 hSo hSc hI hS) rfl rfl (by decide) (Nat.le_of_ble_eq_true rfl) (by decide) (fun r_1 M_1 h_1 => ?_)
  obtain ⟨rfl, hS1⟩ := h_1
  exact loop4 160 _ M_1 (pI_sub (pVal_G (k := 16) hT (lvE_G hT 3).1 (by omega)) hI) (fun hf => by have := (((pVal_G (k := 16) hT (lvE_G hT 3).1 (by omega)) q hI.1).2.2.2 hf).2.1; omega) (by rw [eQ]; unfold pOne; rfl) hS1

set_option maxRecDepth 100000 in
set_option maxHeartbeats 4000000 in
theorem ctX11_sumOf_3 {G : jG} {sz : Nat} {Sh : jS} {M : jM} {o : Nat} {S : Nat → Prop} {T : Nat → Nat} {n : Nat} {M0 : jM} {P : List Nat} {q : pS} (hSo : S o) (hSc : S (o + 10)) (hI : pI n P q) (hS : rSt S o Sh T n M0 1 P M q) : jC G yX11_sumOf cX11_sumOf 2 (Option.none : Option FieldType) (jrm 38 0 0) sz Sh M [.ref o] (jT sz Sh (fun r M1 => r = none ∧ rSt S o Sh T n M0 1 P M1 (pSum T n (lvE T n 3).1 q))) := by
  refine jC_start (by decide +kernel) (Nat.le_of_ble_eq_true rfl) (fun X C E hN0 => ?_)
  have hs11 := (rSt_lay hS).1.1.1
  have hn160 : n ≤ 160 := (rSt_lay hS).2.2.1
  have hT := (rSt_lay hS).2.2.2.1
  obtain ⟨Q, eQ⟩ : ∃ z, z = pSum T n (lvE T n 3).1 q := ⟨_, rfl⟩
  rw [← eQ] at E
  have loop4 : ∀ (f : Nat) (q : pS) (M : jM), pI n P q → (q.1 = false → n + 1 ≤ q.2.1 + f) → pLp T n oAdd (pOne T n (lvE T n 3).1) f q = Q → rSt S o Sh T n M0 1 P M q → jJ G X 0 0 sz Sh M 4 [(0, .ref o)] [] := by
    intro f
    induction f with
    | zero =>
      intro q M hI hf hQe hS
      have hqb : q.1 = true := by
        cases h : q.1 with
        | true => rfl
        | false => have := hf h; have := hI.1; omega
      refine j_aload_n (q := 5) C dX11_sumOf_4 rfl rfl rfl ?_
      refine j_bipush (v := nI 43) (q := 7) C dX11_sumOf_5 rfl (by decide) ?_
      refine jV1 jc11 (q := 10) C dX11_sumOf_7 rfl hs11 mX11_isSign kw_1120 kw_1121 kw_54 (ctX11_isSign hS hI.1 (s := 3) (by decide) rfl) rfl rfl (by decide) (Nat.le_of_ble_eq_true rfl) (by decide) ?_
      refine j_if_ne (q := 13) (tgt := 22) C dX11_sumOf_10 rfl (by decide) (fun c_10 => absurd (jb_0.mpr (fun h => by rw [hqb] at h; cases h.1)) c_10) (fun c_10 => ?_)
      refine j_aload_n (q := 14) C dX11_sumOf_13 rfl rfl rfl ?_
      refine j_bipush (v := nI 45) (q := 16) C dX11_sumOf_14 rfl (by decide) ?_
      refine jV1 jc11 (q := 19) C dX11_sumOf_16 rfl hs11 mX11_isSign kw_1120 kw_1121 kw_54 (ctX11_isSign hS hI.1 (s := 4) (by decide) rfl) rfl rfl (by decide) (Nat.le_of_ble_eq_true rfl) (by decide) ?_
      refine j_if_eq (q := 22) (tgt := 55) C dX11_sumOf_19 rfl (by decide) (fun c_19 => ?_) (fun c_19 => absurd (jb_0.mpr (fun h => by rw [hqb] at h; cases h.1)) c_19)
      exact j_vret C E dX11_sumOf_55 rfl rfl (⟨rfl, rfl, rfl, by rw [← hQe]; exact hS⟩)
    | succ f ih =>
      intro q M hI hf hQe hS
      refine j_aload_n (q := 5) C dX11_sumOf_4 rfl rfl rfl ?_
      refine j_bipush (v := nI 43) (q := 7) C dX11_sumOf_5 rfl (by decide) ?_
      refine jV1 jc11 (q := 10) C dX11_sumOf_7 rfl hs11 mX11_isSign kw_1120 kw_1121 kw_54 (ctX11_isSign hS hI.1 (s := 3) (by decide) rfl) rfl rfl (by decide) (Nat.le_of_ble_eq_true rfl) (by decide) ?_
      refine j_if_ne (q := 13) (tgt := 22) C dX11_sumOf_10 rfl (by decide) (fun c_10 => ?_) (fun c_10 => ?_)
      · have hk := jb_n.mp c_10
        have hq := hk.1
        have ho : oAdd (tk T n q.2.1) = some 2000004 := by rw [hk.2]; rfl
        obtain ⟨a1, a2, a3, a4⟩ := pI_step (c := 2000004) (pOne_G (k := 16) hT (lvE_G hT 3).1 (by omega)) hq (by rw [hk.2]; decide) hI
        have hS0 := hS
        obtain ⟨K, b, c, d, g, hQ, hG⟩ := hS0
        obtain ⟨rfl, rfl, hd, rfl, hK⟩ := hG hq
        refine j_aload_n (q := 23) C dX11_sumOf_22 rfl rfl rfl ?_
        refine j_bipush (v := nI 43) (q := 25) C dX11_sumOf_23 rfl (by decide) ?_
        refine jV1 jc11 (q := 28) C dX11_sumOf_25 rfl hs11 mX11_isSign kw_1120 kw_1121 kw_54 (ctX11_isSign hS hI.1 (s := 3) (by decide) rfl) rfl rfl (by decide) (Nat.le_of_ble_eq_true rfl) (by decide) ?_
        refine j_if_eq (q := 31) (tgt := 36) C dX11_sumOf_28 rfl (by decide) (fun c_28 => absurd c_28 c_10) (fun c_28 => ?_)
        refine j_ldc (q := 33) C dX11_sumOf_31 rfl kw_1125 ?_
        refine j_goto (tgt := 38) C dX11_sumOf_33 (by decide) ?_
        refine j_istore_n (lv' := [(1, _), (0, _)]) (q := 39) C dX11_sumOf_38 rfl rfl (by decide) rfl ?_
        refine j_aload_n (q := 40) C dX11_sumOf_39 rfl rfl rfl ?_
        refine jVT jc11 (q := 43) C dX11_sumOf_40 rfl hs11 mX11_next kw_1024 kw_1025 kw_41 (ctX11_next hSo (x := tt T n q.2.1) (tt_n (T := T) hI.1).1 hQ) rfl rfl (by decide) (Nat.le_of_ble_eq_true rfl) (by decide) (fun r_40 M_40 h_40 => ?_)
        obtain ⟨rfl, hN⟩ := h_40
        have hS1 := rSt_nx hq hN hK
        refine j_aload_n (q := 44) C dX11_sumOf_43 rfl rfl rfl ?_
        refine jVT jc11 (q := 47) C dX11_sumOf_44 rfl hs11 mX11_oneOf kw_1114 kw_1115 kw_52 (ctX11_oneOf_3 hSo hSc a1 hS1) rfl rfl (by decide) (Nat.le_of_ble_eq_true rfl) (by decide) (fun r_44 M_44 h_44 => ?_)
        obtain ⟨rfl, hS2⟩ := h_44
        refine j_aload_n (q := 48) C dX11_sumOf_47 rfl rfl rfl ?_
        refine j_iload_n (q := 49) C dX11_sumOf_48 rfl rfl rfl ?_
        refine j_top (v' := .int (nI 2000004)) (by rfl) ?_
        refine jVT jc11 (q := 52) C dX11_sumOf_49 rfl hs11 mX11_codes kw_1108 kw_1109 kw_50 (ctX11_codes hSo hSc hS2 (pI_l hn160 a2) (k := 2000004)) rfl rfl (by decide) (Nat.le_of_ble_eq_true rfl) (by decide) (fun r_49 M_49 h_49 => ?_)
        obtain ⟨rfl, hS3⟩ := h_49
        refine j_goto (tgt := 4) C dX11_sumOf_52 (by decide) ?_
        exact j_fewer (lv' := [(0, .ref o)]) (by simp) (ih _ M_49 a3 (fun _ => by have := hf hq; omega) (by rw [← hQe, pLp, if_neg (by rw [hq]; decide), ho]) hS3)
      · refine j_aload_n (q := 14) C dX11_sumOf_13 rfl rfl rfl ?_
        refine j_bipush (v := nI 45) (q := 16) C dX11_sumOf_14 rfl (by decide) ?_
        refine jV1 jc11 (q := 19) C dX11_sumOf_16 rfl hs11 mX11_isSign kw_1120 kw_1121 kw_54 (ctX11_isSign hS hI.1 (s := 4) (by decide) rfl) rfl rfl (by decide) (Nat.le_of_ble_eq_true rfl) (by decide) ?_
        refine j_if_eq (q := 22) (tgt := 55) C dX11_sumOf_19 rfl (by decide) (fun c_19 => ?_) (fun c_19 => ?_)
        · exact j_vret C E dX11_sumOf_55 rfl rfl (⟨rfl, rfl, rfl, by
                have e : pLp T n oAdd (pOne T n (lvE T n 3).1) (f + 1) q = q := by
                  by_cases hb : q.1 = true
                  · exact pLp_bad hb _
                  · have ho : oAdd (tk T n q.2.1) = none := by unfold oAdd; rw [if_neg (fun h => jb_0.mp c_10 ⟨bf hb, h⟩), if_neg (fun h => jb_0.mp c_19 ⟨bf hb, h⟩)]
                    rw [pLp, if_neg hb, ho]
                rw [← hQe, e]; exact hS⟩)
        · have hk := jb_n.mp c_19
          have hq := hk.1
          have ho : oAdd (tk T n q.2.1) = some 2000005 := by rw [hk.2]; rfl
          obtain ⟨a1, a2, a3, a4⟩ := pI_step (c := 2000005) (pOne_G (k := 16) hT (lvE_G hT 3).1 (by omega)) hq (by rw [hk.2]; decide) hI
          have hS0 := hS
          obtain ⟨K, b, c, d, g, hQ, hG⟩ := hS0
          obtain ⟨rfl, rfl, hd, rfl, hK⟩ := hG hq
          refine j_aload_n (q := 23) C dX11_sumOf_22 rfl rfl rfl ?_
          refine j_bipush (v := nI 43) (q := 25) C dX11_sumOf_23 rfl (by decide) ?_
          refine jV1 jc11 (q := 28) C dX11_sumOf_25 rfl hs11 mX11_isSign kw_1120 kw_1121 kw_54 (ctX11_isSign hS hI.1 (s := 3) (by decide) rfl) rfl rfl (by decide) (Nat.le_of_ble_eq_true rfl) (by decide) ?_
          refine j_if_eq (q := 31) (tgt := 36) C dX11_sumOf_28 rfl (by decide) (fun c_28 => ?_) (fun c_28 => absurd c_10 c_28)
          refine j_ldc (q := 38) C dX11_sumOf_36 rfl kw_1126 ?_
          refine j_istore_n (lv' := [(1, _), (0, _)]) (q := 39) C dX11_sumOf_38 rfl rfl (by decide) rfl ?_
          refine j_aload_n (q := 40) C dX11_sumOf_39 rfl rfl rfl ?_
          refine jVT jc11 (q := 43) C dX11_sumOf_40 rfl hs11 mX11_next kw_1024 kw_1025 kw_41 (ctX11_next hSo (x := tt T n q.2.1) (tt_n (T := T) hI.1).1 hQ) rfl rfl (by decide) (Nat.le_of_ble_eq_true rfl) (by decide) (fun r_40 M_40 h_40 => ?_)
          obtain ⟨rfl, hN⟩ := h_40
          have hS1 := rSt_nx hq hN hK
          refine j_aload_n (q := 44) C dX11_sumOf_43 rfl rfl rfl ?_
          refine jVT jc11 (q := 47) C dX11_sumOf_44 rfl hs11 mX11_oneOf kw_1114 kw_1115 kw_52 (ctX11_oneOf_3 hSo hSc a1 hS1) rfl rfl (by decide) (Nat.le_of_ble_eq_true rfl) (by decide) (fun r_44 M_44 h_44 => ?_)
          obtain ⟨rfl, hS2⟩ := h_44
          refine j_aload_n (q := 48) C dX11_sumOf_47 rfl rfl rfl ?_
          refine j_iload_n (q := 49) C dX11_sumOf_48 rfl rfl rfl ?_
          refine j_top (v' := .int (nI 2000005)) (by rfl) ?_
          refine jVT jc11 (q := 52) C dX11_sumOf_49 rfl hs11 mX11_codes kw_1108 kw_1109 kw_50 (ctX11_codes hSo hSc hS2 (pI_l hn160 a2) (k := 2000005)) rfl rfl (by decide) (Nat.le_of_ble_eq_true rfl) (by decide) (fun r_49 M_49 h_49 => ?_)
          obtain ⟨rfl, hS3⟩ := h_49
          refine j_goto (tgt := 4) C dX11_sumOf_52 (by decide) ?_
          exact j_fewer (lv' := [(0, .ref o)]) (by simp) (ih _ M_49 a3 (fun _ => by have := hf hq; omega) (by rw [← hQe, pLp, if_neg (by rw [hq]; decide), ho]) hS3)
  refine j_aload_n (q := 1) C dX11_sumOf_0 rfl rfl rfl ?_
  refine jVT jc11 (q := 4) C dX11_sumOf_1 rfl hs11 mX11_oneOf kw_1114 kw_1115 kw_52 (ctX11_oneOf_3 hSo hSc hI hS) rfl rfl (by decide) (Nat.le_of_ble_eq_true rfl) (by decide) (fun r_1 M_1 h_1 => ?_)
  obtain ⟨rfl, hS1⟩ := h_1
  exact loop4 160 _ M_1 (pI_sub (pOne_G (k := 16) hT (lvE_G hT 3).1 (by omega)) hI) (fun hf => by have := (((pOne_G (k := 16) hT (lvE_G hT 3).1 (by omega)) q hI.1).2.2.2 hf).2.1; omega) (by rw [eQ]; unfold pSum; rfl) hS1

set_option maxRecDepth 100000 in
set_option maxHeartbeats 4000000 in
theorem ctX11_notOf_3 {G : jG} {sz : Nat} {Sh : jS} {M : jM} {o : Nat} {S : Nat → Prop} {T : Nat → Nat} {n : Nat} {M0 : jM} {P : List Nat} {q : pS} (hSo : S o) (hSc : S (o + 10)) (hI : pI n P q) (hS : rSt S o Sh T n M0 1 P M q) : jC G yX11_notOf cX11_notOf 2 (Option.none : Option FieldType) (jrm 39 0 0) sz Sh M [.ref o] (jT sz Sh (fun r M1 => r = none ∧ rSt S o Sh T n M0 1 P M1 (pNot T n (lvE T n 3).1 (lvE T n 3).2 q))) := by
  refine jC_start (by decide +kernel) (Nat.le_of_ble_eq_true rfl) (fun X C E hN0 => ?_)
  have hs11 := (rSt_lay hS).1.1.1
  have hn160 : n ≤ 160 := (rSt_lay hS).2.2.1
  have hT := (rSt_lay hS).2.2.2.1
  have hS0 := hS
  obtain ⟨K, b, c, d, g, hQ, hG⟩ := hS0
  refine j_aload_n (q := 1) C dX11_notOf_0 rfl rfl rfl ?_
  refine j_bipush (v := nI 57) (q := 3) C dX11_notOf_1 rfl (by decide) ?_
  refine jV1 jc11 (q := 6) C dX11_notOf_3 rfl hs11 mX11_isWord kw_1093 kw_1094 kw_45 (ctX11_isWord hS (s := 12) (by decide) rfl) rfl rfl (by decide) (Nat.le_of_ble_eq_true rfl) (by decide) ?_
  refine j_if_eq (q := 9) (tgt := 62) C dX11_notOf_6 rfl (by decide) (fun c_6 => ?_) (fun c_6 => ?_)
  · refine j_aload_n (q := 63) C dX11_notOf_62 rfl rfl rfl ?_
    refine jVT jc11 (q := 66) C dX11_notOf_63 rfl hs11 mX11_sumOf kw_1111 kw_1112 kw_51 (ctX11_sumOf_3 hSo hSc hI hS) rfl rfl (by decide) (Nat.le_of_ble_eq_true rfl) (by decide) (fun r_63 M_63 h_63 => ?_)
    obtain ⟨rfl, hS3⟩ := h_63
    have hI3 := pI_sub (pSum_G (k := 16) hT (lvE_G hT 3).1 (by omega)) hI
    have eN : pNot T n (lvE T n 3).1 (lvE T n 3).2 q = pCmp T n (lvE T n 3).1 (pSum T n (lvE T n 3).1 q) := by
      unfold pNot
      by_cases hb : q.1 = true
      · rw [if_pos hb, ((pSum_G (k := 16) hT (lvE_G hT 3).1 (by omega)) q hI.1).1 hb]; unfold pCmp; rw [if_pos hb]
      · rw [if_neg hb, if_neg (fun h => jb_0.mp c_6 ⟨bf hb, h⟩)]
    obtain ⟨q3, e3⟩ : ∃ z, z = pSum T n (lvE T n 3).1 q := ⟨_, rfl⟩
    rw [← e3] at hS3 hI3 eN
    refine j_aload_n (q := 67) C dX11_notOf_66 rfl rfl rfl ?_
    refine j_bipush (v := nI 60) (q := 69) C dX11_notOf_67 rfl (by decide) ?_
    refine jV1 jc11 (q := 72) C dX11_notOf_69 rfl hs11 mX11_isSign kw_1120 kw_1121 kw_54 (ctX11_isSign hS3 hI3.1 (s := 7) (by decide) rfl) rfl rfl (by decide) (Nat.le_of_ble_eq_true rfl) (by decide) ?_
    refine j_if_ne (q := 75) (tgt := 84) C dX11_notOf_72 rfl (by decide) (fun c_72 => ?_) (fun c_72 => ?_)
    · have hk := jb_n.mp c_72
      have hq3 := hk.1
      have ho : oCmp (tk T n q3.2.1) = some 2000002 := by rw [hk.2]; rfl
      obtain ⟨a1, a2, a3, a4⟩ := pI_step (c := 2000002) (pSum_G (k := 16) hT (lvE_G hT 3).1 (by omega)) hq3 (by rw [hk.2]; decide) hI3
      have hS0 := hS3
      obtain ⟨K, b, c, d, g, hQ, hG⟩ := hS0
      obtain ⟨rfl, rfl, hd, rfl, hK⟩ := hG hq3
      refine j_aload_n (q := 85) C dX11_notOf_84 rfl rfl rfl ?_
      refine j_bipush (v := nI 60) (q := 87) C dX11_notOf_85 rfl (by decide) ?_
      refine jV1 jc11 (q := 90) C dX11_notOf_87 rfl hs11 mX11_isSign kw_1120 kw_1121 kw_54 (ctX11_isSign hS3 hI3.1 (s := 7) (by decide) rfl) rfl rfl (by decide) (Nat.le_of_ble_eq_true rfl) (by decide) ?_
      refine j_if_eq (q := 93) (tgt := 98) C dX11_notOf_90 rfl (by decide) (fun c_90 => absurd c_90 c_72) (fun c_90 => ?_)
      refine j_ldc (q := 95) C dX11_notOf_93 rfl kw_1127 ?_
      refine j_goto (tgt := 100) C dX11_notOf_95 (by decide) ?_
      refine j_istore_n (lv' := [(1, _), (0, _)]) (q := 101) C dX11_notOf_100 rfl rfl (by decide) rfl ?_
      refine j_aload_n (q := 102) C dX11_notOf_101 rfl rfl rfl ?_
      refine jVT jc11 (q := 105) C dX11_notOf_102 rfl hs11 mX11_next kw_1024 kw_1025 kw_41 (ctX11_next hSo (x := tt T n q3.2.1) (tt_n (T := T) hI3.1).1 hQ) rfl rfl (by decide) (Nat.le_of_ble_eq_true rfl) (by decide) (fun r_102 M_102 h_102 => ?_)
      obtain ⟨rfl, hN⟩ := h_102
      have hS4 := rSt_nx hq3 hN hK
      refine j_aload_n (q := 106) C dX11_notOf_105 rfl rfl rfl ?_
      refine jVT jc11 (q := 109) C dX11_notOf_106 rfl hs11 mX11_sumOf kw_1111 kw_1112 kw_51 (ctX11_sumOf_3 hSo hSc a1 hS4) rfl rfl (by decide) (Nat.le_of_ble_eq_true rfl) (by decide) (fun r_106 M_106 h_106 => ?_)
      obtain ⟨rfl, hS5⟩ := h_106
      refine j_aload_n (q := 110) C dX11_notOf_109 rfl rfl rfl ?_
      refine j_iload_n (q := 111) C dX11_notOf_110 rfl rfl rfl ?_
      refine j_top (v' := .int (nI 2000002)) (by rfl) ?_
      refine jVT jc11 (q := 114) C dX11_notOf_111 rfl hs11 mX11_codes kw_1108 kw_1109 kw_50 (ctX11_codes hSo hSc hS5 (pI_l hn160 a2) (k := 2000002)) rfl rfl (by decide) (Nat.le_of_ble_eq_true rfl) (by decide) (fun r_111 M_111 h_111 => ?_)
      obtain ⟨rfl, hS6⟩ := h_111
      exact j_vret C E dX11_notOf_114 rfl rfl (⟨rfl, rfl, rfl, by rw [eN]; unfold pCmp; rw [if_neg (by rw [hq3]; decide), ho]; exact hS6⟩)
    · refine j_aload_n (q := 76) C dX11_notOf_75 rfl rfl rfl ?_
      refine j_bipush (v := nI 61) (q := 78) C dX11_notOf_76 rfl (by decide) ?_
      refine jV1 jc11 (q := 81) C dX11_notOf_78 rfl hs11 mX11_isSign kw_1120 kw_1121 kw_54 (ctX11_isSign hS3 hI3.1 (s := 8) (by decide) rfl) rfl rfl (by decide) (Nat.le_of_ble_eq_true rfl) (by decide) ?_
      refine j_if_eq (q := 84) (tgt := 114) C dX11_notOf_81 rfl (by decide) (fun c_81 => ?_) (fun c_81 => ?_)
      · exact j_vret C E dX11_notOf_114 rfl rfl (⟨rfl, rfl, rfl, by
            rw [eN]; unfold pCmp
            by_cases hb : q3.1 = true
            · rw [if_pos hb]; exact hS3
            · have ho : oCmp (tk T n q3.2.1) = none := by unfold oCmp; rw [if_neg (fun h => jb_0.mp c_72 ⟨bf hb, h⟩), if_neg (fun h => jb_0.mp c_81 ⟨bf hb, h⟩)]
              rw [if_neg hb, ho]; exact hS3⟩)
      · have hk := jb_n.mp c_81
        have hq3 := hk.1
        have ho : oCmp (tk T n q3.2.1) = some 2000003 := by rw [hk.2]; rfl
        obtain ⟨a1, a2, a3, a4⟩ := pI_step (c := 2000003) (pSum_G (k := 16) hT (lvE_G hT 3).1 (by omega)) hq3 (by rw [hk.2]; decide) hI3
        have hS0 := hS3
        obtain ⟨K, b, c, d, g, hQ, hG⟩ := hS0
        obtain ⟨rfl, rfl, hd, rfl, hK⟩ := hG hq3
        refine j_aload_n (q := 85) C dX11_notOf_84 rfl rfl rfl ?_
        refine j_bipush (v := nI 60) (q := 87) C dX11_notOf_85 rfl (by decide) ?_
        refine jV1 jc11 (q := 90) C dX11_notOf_87 rfl hs11 mX11_isSign kw_1120 kw_1121 kw_54 (ctX11_isSign hS3 hI3.1 (s := 7) (by decide) rfl) rfl rfl (by decide) (Nat.le_of_ble_eq_true rfl) (by decide) ?_
        refine j_if_eq (q := 93) (tgt := 98) C dX11_notOf_90 rfl (by decide) (fun c_90 => ?_) (fun c_90 => absurd c_72 c_90)
        refine j_ldc (q := 100) C dX11_notOf_98 rfl kw_1128 ?_
        refine j_istore_n (lv' := [(1, _), (0, _)]) (q := 101) C dX11_notOf_100 rfl rfl (by decide) rfl ?_
        refine j_aload_n (q := 102) C dX11_notOf_101 rfl rfl rfl ?_
        refine jVT jc11 (q := 105) C dX11_notOf_102 rfl hs11 mX11_next kw_1024 kw_1025 kw_41 (ctX11_next hSo (x := tt T n q3.2.1) (tt_n (T := T) hI3.1).1 hQ) rfl rfl (by decide) (Nat.le_of_ble_eq_true rfl) (by decide) (fun r_102 M_102 h_102 => ?_)
        obtain ⟨rfl, hN⟩ := h_102
        have hS4 := rSt_nx hq3 hN hK
        refine j_aload_n (q := 106) C dX11_notOf_105 rfl rfl rfl ?_
        refine jVT jc11 (q := 109) C dX11_notOf_106 rfl hs11 mX11_sumOf kw_1111 kw_1112 kw_51 (ctX11_sumOf_3 hSo hSc a1 hS4) rfl rfl (by decide) (Nat.le_of_ble_eq_true rfl) (by decide) (fun r_106 M_106 h_106 => ?_)
        obtain ⟨rfl, hS5⟩ := h_106
        refine j_aload_n (q := 110) C dX11_notOf_109 rfl rfl rfl ?_
        refine j_iload_n (q := 111) C dX11_notOf_110 rfl rfl rfl ?_
        refine j_top (v' := .int (nI 2000003)) (by rfl) ?_
        refine jVT jc11 (q := 114) C dX11_notOf_111 rfl hs11 mX11_codes kw_1108 kw_1109 kw_50 (ctX11_codes hSo hSc hS5 (pI_l hn160 a2) (k := 2000003)) rfl rfl (by decide) (Nat.le_of_ble_eq_true rfl) (by decide) (fun r_111 M_111 h_111 => ?_)
        obtain ⟨rfl, hS6⟩ := h_111
        exact j_vret C E dX11_notOf_114 rfl rfl (⟨rfl, rfl, rfl, by rw [eN]; unfold pCmp; rw [if_neg (by rw [hq3]; decide), ho]; exact hS6⟩)
  · have hk := jb_n.mp c_6
    have hq := hk.1
    obtain ⟨rfl, rfl, hd, rfl, hK⟩ := hG hq
    refine j_aload_n (q := 10) C dX11_notOf_9 rfl rfl rfl ?_
    refine j_aload_n (q := 11) C dX11_notOf_10 rfl rfl rfl ?_
    refine qg_deep hQ (q' := 14) C dX11_notOf_11 rfl kw_886 ?_
    refine j_iconst (v := nI 4) (q := 15) C dX11_notOf_14 rfl (by decide) ?_
    refine j_icmp_ne (q := 18) (tgt := 22) C dX11_notOf_15 rfl (by decide) (fun c_15 => ?_) (fun c_15 => absurd c_15 (by decide))
    refine j_iconst (v := nI 0) (q := 23) C dX11_notOf_22 rfl (by decide) ?_
    refine qp_isFault hSo hQ (by first | exact Or.inl rfl | exact Or.inr rfl) (q' := 26) C dX11_notOf_23 rfl kw_885 (fun M hQ => ?_)
    refine j_aload_n (q := 27) C dX11_notOf_26 rfl rfl rfl ?_
    refine j_dup (q := 28) C dX11_notOf_27 rfl rfl ?_
    refine qg_deep hQ (q' := 31) C dX11_notOf_28 rfl kw_886 ?_
    refine j_iconst (v := nI 1) (q := 32) C dX11_notOf_31 rfl (by decide) ?_
    first | refine j_iaddN (q := 33) C dX11_notOf_32 rfl ?_ | refine j_iadd (q := 33) C dX11_notOf_32 rfl ?_
    refine qp_deep hSo hQ (q' := 36) C dX11_notOf_33 rfl kw_886 (fun M hQ => ?_)
    have hS1 : rSt S o Sh T n M0 2 P M q := ⟨K, _, _, _, _, by rw [jb_f (by rw [hq]; decide)]; exact hQ, fun _ => ⟨rfl, rfl, hd, rfl, hK⟩⟩
    refine j_aload_n (q := 37) C dX11_notOf_36 rfl rfl rfl ?_
    refine j_iconst (v := nI 1) (q := 38) C dX11_notOf_37 rfl (by decide) ?_
    refine jVT jc11 (q := 41) C dX11_notOf_38 rfl hs11 mX11_need kw_1096 kw_1097 kw_46 (ctX11_need hSo hS1 hI.1 (p := True) (jb_t trivial).symm) rfl rfl (by decide) (Nat.le_of_ble_eq_true rfl) (by decide) (fun r_38 M_38 h_38 => ?_)
    obtain ⟨rfl, hS2⟩ := h_38
    rw [if_neg (by rw [hq]; decide), if_pos trivial] at hS2
    have hI2 := (pI_nx (T := T) hq (by rw [hk.2]; decide) hI).1
    refine j_aload_n (q := 42) C dX11_notOf_41 rfl rfl rfl ?_
    refine jVT jc11 (q := 45) C dX11_notOf_42 rfl hs11 mX11_notOf kw_1105 kw_1106 kw_49 (ctX11_notOf_2 hSo hSc hI2 hS2) rfl rfl (by decide) (Nat.le_of_ble_eq_true rfl) (by decide) (fun r_42 M_42 h_42 => ?_)
    obtain ⟨rfl, hS3⟩ := h_42
    have hI3 := pI_sub (pNot_G (k := 11) hT (lvE_G hT 2).1 (lvE_G hT 2).2 (by omega)) hI2
    obtain ⟨q3, e3⟩ : ∃ z, z = (pNot T n (lvE T n 2).1 (lvE T n 2).2 (pNx T n q)) := ⟨_, rfl⟩
    rw [← e3] at hS3 hI3
    obtain ⟨K3, b3, c3, d3, g3, hQ, hG3⟩ := hS3
    refine j_aload_n (q := 46) C dX11_notOf_45 rfl rfl rfl ?_
    refine j_dup (q := 47) C dX11_notOf_46 rfl rfl ?_
    refine qg_deep hQ (q' := 50) C dX11_notOf_47 rfl kw_886 ?_
    refine j_iconst (v := nI 1) (q := 51) C dX11_notOf_50 rfl (by decide) ?_
    refine j_isub (q := 52) C dX11_notOf_51 rfl ?_
    refine j_top (v' := .int (nI 1)) (by rfl) ?_
    refine qp_deep hSo hQ (q' := 55) C dX11_notOf_52 rfl kw_886 (fun M hQ => ?_)
    have hS4 : rSt S o Sh T n M0 1 P M q3 := ⟨K3, b3, c3, d3, g3, hQ, hG3⟩
    refine j_aload_n (q := 56) C dX11_notOf_55 rfl rfl rfl ?_
    refine j_ldc (q := 58) C dX11_notOf_56 rfl kw_984 ?_
    refine j_top (v' := .int (nI 2000008)) (by rfl) ?_
    refine jVT jc11 (q := 61) C dX11_notOf_58 rfl hs11 mX11_codes kw_1108 kw_1109 kw_50 (ctX11_codes hSo hSc hS4 (pI_l hn160 hI3) (k := 2000008)) rfl rfl (by decide) (Nat.le_of_ble_eq_true rfl) (by decide) (fun r_58 M_58 h_58 => ?_)
    obtain ⟨rfl, hS5⟩ := h_58
    exact j_vret C E dX11_notOf_61 rfl rfl (⟨rfl, rfl, rfl, by rw [show pNot T n (lvE T n 3).1 (lvE T n 3).2 q = pEm 2000008 q3 by unfold pNot; rw [if_neg (by rw [hq]; decide), if_pos hk.2, e3]; rfl]; exact hS5⟩)

set_option maxRecDepth 100000 in
set_option maxHeartbeats 4000000 in
theorem ctX11_both_3 {G : jG} {sz : Nat} {Sh : jS} {M : jM} {o : Nat} {S : Nat → Prop} {T : Nat → Nat} {n : Nat} {M0 : jM} {P : List Nat} {q : pS} (hSo : S o) (hSc : S (o + 10)) (hI : pI n P q) (hS : rSt S o Sh T n M0 1 P M q) : jC G yX11_both cX11_both 1 (Option.none : Option FieldType) (jrm 40 0 0) sz Sh M [.ref o] (jT sz Sh (fun r M1 => r = none ∧ rSt S o Sh T n M0 1 P M1 (pAnd T n (lvE T n 3).1 (lvE T n 3).2 q))) := by
  refine jC_start (by decide +kernel) (Nat.le_of_ble_eq_true rfl) (fun X C E hN0 => ?_)
  have hs11 := (rSt_lay hS).1.1.1
  have hn160 : n ≤ 160 := (rSt_lay hS).2.2.1
  have hT := (rSt_lay hS).2.2.2.1
  obtain ⟨Q, eQ⟩ : ∃ z, z = pAnd T n (lvE T n 3).1 (lvE T n 3).2 q := ⟨_, rfl⟩
  rw [← eQ] at E
  have loop4 : ∀ (f : Nat) (q : pS) (M : jM), pI n P q → (q.1 = false → n + 1 ≤ q.2.1 + f) → pLp T n oAnd (pNot T n (lvE T n 3).1 (lvE T n 3).2) f q = Q → rSt S o Sh T n M0 1 P M q → jJ G X 0 0 sz Sh M 4 [(0, .ref o)] [] := by
    intro f
    induction f with
    | zero =>
      intro q M hI hf hQe hS
      have hqb : q.1 = true := by
        cases h : q.1 with
        | true => rfl
        | false => have := hf h; have := hI.1; omega
      refine j_aload_n (q := 5) C dX11_both_4 rfl rfl rfl ?_
      refine j_bipush (v := nI 50) (q := 7) C dX11_both_5 rfl (by decide) ?_
      refine jV1 jc11 (q := 10) C dX11_both_7 rfl hs11 mX11_isWord kw_1093 kw_1094 kw_45 (ctX11_isWord hS (s := 10) (by decide) rfl) rfl rfl (by decide) (Nat.le_of_ble_eq_true rfl) (by decide) ?_
      refine j_if_eq (q := 13) (tgt := 30) C dX11_both_10 rfl (by decide) (fun c_10 => ?_) (fun c_10 => absurd (jb_0.mpr (fun h => by rw [hqb] at h; cases h.1)) c_10)
      exact j_vret C E dX11_both_30 rfl rfl (⟨rfl, rfl, rfl, by rw [← hQe]; exact hS⟩)
    | succ f ih =>
      intro q M hI hf hQe hS
      refine j_aload_n (q := 5) C dX11_both_4 rfl rfl rfl ?_
      refine j_bipush (v := nI 50) (q := 7) C dX11_both_5 rfl (by decide) ?_
      refine jV1 jc11 (q := 10) C dX11_both_7 rfl hs11 mX11_isWord kw_1093 kw_1094 kw_45 (ctX11_isWord hS (s := 10) (by decide) rfl) rfl rfl (by decide) (Nat.le_of_ble_eq_true rfl) (by decide) ?_
      refine j_if_eq (q := 13) (tgt := 30) C dX11_both_10 rfl (by decide) (fun c_10 => ?_) (fun c_10 => ?_)
      · exact j_vret C E dX11_both_30 rfl rfl (⟨rfl, rfl, rfl, by
              have e : pLp T n oAnd (pNot T n (lvE T n 3).1 (lvE T n 3).2) (f + 1) q = q := by
                by_cases hb : q.1 = true
                · exact pLp_bad hb _
                · have ho : oAnd (tk T n q.2.1) = none := by unfold oAnd; rw [if_neg (fun h => jb_0.mp c_10 ⟨bf hb, h⟩)]
                  rw [pLp, if_neg hb, ho]
              rw [← hQe, e]; exact hS⟩)
      · have hk := jb_n.mp c_10
        have hq := hk.1
        have ho : oAnd (tk T n q.2.1) = some 2000001 := by rw [hk.2]; rfl
        obtain ⟨a1, a2, a3, a4⟩ := pI_step (c := 2000001) (pNot_G (k := 16) hT (lvE_G hT 3).1 (lvE_G hT 3).2 (by omega)) hq (by rw [hk.2]; decide) hI
        have hS0 := hS
        obtain ⟨K, b, c, d, g, hQ, hG⟩ := hS0
        obtain ⟨rfl, rfl, hd, rfl, hK⟩ := hG hq
        refine j_aload_n (q := 14) C dX11_both_13 rfl rfl rfl ?_
        refine jVT jc11 (q := 17) C dX11_both_14 rfl hs11 mX11_next kw_1024 kw_1025 kw_41 (ctX11_next hSo (x := tt T n q.2.1) (tt_n (T := T) hI.1).1 hQ) rfl rfl (by decide) (Nat.le_of_ble_eq_true rfl) (by decide) (fun r_14 M_14 h_14 => ?_)
        obtain ⟨rfl, hN⟩ := h_14
        have hS1 := rSt_nx hq hN hK
        refine j_aload_n (q := 18) C dX11_both_17 rfl rfl rfl ?_
        refine jVT jc11 (q := 21) C dX11_both_18 rfl hs11 mX11_notOf kw_1105 kw_1106 kw_49 (ctX11_notOf_3 hSo hSc a1 hS1) rfl rfl (by decide) (Nat.le_of_ble_eq_true rfl) (by decide) (fun r_18 M_18 h_18 => ?_)
        obtain ⟨rfl, hS2⟩ := h_18
        refine j_aload_n (q := 22) C dX11_both_21 rfl rfl rfl ?_
        refine j_ldc (q := 24) C dX11_both_22 rfl kw_1129 ?_
        refine j_top (v' := .int (nI 2000001)) (by rfl) ?_
        refine jVT jc11 (q := 27) C dX11_both_24 rfl hs11 mX11_codes kw_1108 kw_1109 kw_50 (ctX11_codes hSo hSc hS2 (pI_l hn160 a2) (k := 2000001)) rfl rfl (by decide) (Nat.le_of_ble_eq_true rfl) (by decide) (fun r_24 M_24 h_24 => ?_)
        obtain ⟨rfl, hS3⟩ := h_24
        refine j_goto (tgt := 4) C dX11_both_27 (by decide) ?_
        exact ih _ M_24 a3 (fun _ => by have := hf hq; omega) (by rw [← hQe, pLp, if_neg (by rw [hq]; decide), ho]) hS3
  refine j_aload_n (q := 1) C dX11_both_0 rfl rfl rfl ?_
  refine jVT jc11 (q := 4) C dX11_both_1 rfl hs11 mX11_notOf kw_1105 kw_1106 kw_49 (ctX11_notOf_3 hSo hSc hI hS) rfl rfl (by decide) (Nat.le_of_ble_eq_true rfl) (by decide) (fun r_1 M_1 h_1 => ?_)
  obtain ⟨rfl, hS1⟩ := h_1
  exact loop4 160 _ M_1 (pI_sub (pNot_G (k := 16) hT (lvE_G hT 3).1 (lvE_G hT 3).2 (by omega)) hI) (fun hf => by have := (((pNot_G (k := 16) hT (lvE_G hT 3).1 (lvE_G hT 3).2 (by omega)) q hI.1).2.2.2 hf).2.1; omega) (by rw [eQ]; unfold pAnd; rfl) hS1

set_option maxRecDepth 100000 in
set_option maxHeartbeats 4000000 in
theorem ctX11_either_3 {G : jG} {sz : Nat} {Sh : jS} {M : jM} {o : Nat} {S : Nat → Prop} {T : Nat → Nat} {n : Nat} {M0 : jM} {P : List Nat} {q : pS} (hSo : S o) (hSc : S (o + 10)) (hI : pI n P q) (hS : rSt S o Sh T n M0 1 P M q) : jC G yX11_either cX11_either 1 (Option.none : Option FieldType) (jrm 41 0 0) sz Sh M [.ref o] (jT sz Sh (fun r M1 => r = none ∧ rSt S o Sh T n M0 1 P M1 (pOr T n (lvE T n 3).1 (lvE T n 3).2 q))) := by
  refine jC_start (by decide +kernel) (Nat.le_of_ble_eq_true rfl) (fun X C E hN0 => ?_)
  have hs11 := (rSt_lay hS).1.1.1
  have hn160 : n ≤ 160 := (rSt_lay hS).2.2.1
  have hT := (rSt_lay hS).2.2.2.1
  obtain ⟨Q, eQ⟩ : ∃ z, z = pOr T n (lvE T n 3).1 (lvE T n 3).2 q := ⟨_, rfl⟩
  rw [← eQ] at E
  have loop4 : ∀ (f : Nat) (q : pS) (M : jM), pI n P q → (q.1 = false → n + 1 ≤ q.2.1 + f) → pLp T n oOr (pAnd T n (lvE T n 3).1 (lvE T n 3).2) f q = Q → rSt S o Sh T n M0 1 P M q → jJ G X 0 0 sz Sh M 4 [(0, .ref o)] [] := by
    intro f
    induction f with
    | zero =>
      intro q M hI hf hQe hS
      have hqb : q.1 = true := by
        cases h : q.1 with
        | true => rfl
        | false => have := hf h; have := hI.1; omega
      refine j_aload_n (q := 5) C dX11_either_4 rfl rfl rfl ?_
      refine j_bipush (v := nI 54) (q := 7) C dX11_either_5 rfl (by decide) ?_
      refine jV1 jc11 (q := 10) C dX11_either_7 rfl hs11 mX11_isWord kw_1093 kw_1094 kw_45 (ctX11_isWord hS (s := 11) (by decide) rfl) rfl rfl (by decide) (Nat.le_of_ble_eq_true rfl) (by decide) ?_
      refine j_if_eq (q := 13) (tgt := 30) C dX11_either_10 rfl (by decide) (fun c_10 => ?_) (fun c_10 => absurd (jb_0.mpr (fun h => by rw [hqb] at h; cases h.1)) c_10)
      exact j_vret C E dX11_either_30 rfl rfl (⟨rfl, rfl, rfl, by rw [← hQe]; exact hS⟩)
    | succ f ih =>
      intro q M hI hf hQe hS
      refine j_aload_n (q := 5) C dX11_either_4 rfl rfl rfl ?_
      refine j_bipush (v := nI 54) (q := 7) C dX11_either_5 rfl (by decide) ?_
      refine jV1 jc11 (q := 10) C dX11_either_7 rfl hs11 mX11_isWord kw_1093 kw_1094 kw_45 (ctX11_isWord hS (s := 11) (by decide) rfl) rfl rfl (by decide) (Nat.le_of_ble_eq_true rfl) (by decide) ?_
      refine j_if_eq (q := 13) (tgt := 30) C dX11_either_10 rfl (by decide) (fun c_10 => ?_) (fun c_10 => ?_)
      · exact j_vret C E dX11_either_30 rfl rfl (⟨rfl, rfl, rfl, by
              have e : pLp T n oOr (pAnd T n (lvE T n 3).1 (lvE T n 3).2) (f + 1) q = q := by
                by_cases hb : q.1 = true
                · exact pLp_bad hb _
                · have ho : oOr (tk T n q.2.1) = none := by unfold oOr; rw [if_neg (fun h => jb_0.mp c_10 ⟨bf hb, h⟩)]
                  rw [pLp, if_neg hb, ho]
              rw [← hQe, e]; exact hS⟩)
      · have hk := jb_n.mp c_10
        have hq := hk.1
        have ho : oOr (tk T n q.2.1) = some 2000000 := by rw [hk.2]; rfl
        obtain ⟨a1, a2, a3, a4⟩ := pI_step (c := 2000000) (pAnd_G (k := 16) hT (lvE_G hT 3).1 (lvE_G hT 3).2 (by omega)) hq (by rw [hk.2]; decide) hI
        have hS0 := hS
        obtain ⟨K, b, c, d, g, hQ, hG⟩ := hS0
        obtain ⟨rfl, rfl, hd, rfl, hK⟩ := hG hq
        refine j_aload_n (q := 14) C dX11_either_13 rfl rfl rfl ?_
        refine jVT jc11 (q := 17) C dX11_either_14 rfl hs11 mX11_next kw_1024 kw_1025 kw_41 (ctX11_next hSo (x := tt T n q.2.1) (tt_n (T := T) hI.1).1 hQ) rfl rfl (by decide) (Nat.le_of_ble_eq_true rfl) (by decide) (fun r_14 M_14 h_14 => ?_)
        obtain ⟨rfl, hN⟩ := h_14
        have hS1 := rSt_nx hq hN hK
        refine j_aload_n (q := 18) C dX11_either_17 rfl rfl rfl ?_
        refine jVT jc11 (q := 21) C dX11_either_18 rfl hs11 mX11_both kw_1102 kw_1103 kw_48 (ctX11_both_3 hSo hSc a1 hS1) rfl rfl (by decide) (Nat.le_of_ble_eq_true rfl) (by decide) (fun r_18 M_18 h_18 => ?_)
        obtain ⟨rfl, hS2⟩ := h_18
        refine j_aload_n (q := 22) C dX11_either_21 rfl rfl rfl ?_
        refine j_ldc (q := 24) C dX11_either_22 rfl kw_978 ?_
        refine j_top (v' := .int (nI 2000000)) (by rfl) ?_
        refine jVT jc11 (q := 27) C dX11_either_24 rfl hs11 mX11_codes kw_1108 kw_1109 kw_50 (ctX11_codes hSo hSc hS2 (pI_l hn160 a2) (k := 2000000)) rfl rfl (by decide) (Nat.le_of_ble_eq_true rfl) (by decide) (fun r_24 M_24 h_24 => ?_)
        obtain ⟨rfl, hS3⟩ := h_24
        refine j_goto (tgt := 4) C dX11_either_27 (by decide) ?_
        exact ih _ M_24 a3 (fun _ => by have := hf hq; omega) (by rw [← hQe, pLp, if_neg (by rw [hq]; decide), ho]) hS3
  refine j_aload_n (q := 1) C dX11_either_0 rfl rfl rfl ?_
  refine jVT jc11 (q := 4) C dX11_either_1 rfl hs11 mX11_both kw_1102 kw_1103 kw_48 (ctX11_both_3 hSo hSc hI hS) rfl rfl (by decide) (Nat.le_of_ble_eq_true rfl) (by decide) (fun r_1 M_1 h_1 => ?_)
  obtain ⟨rfl, hS1⟩ := h_1
  exact loop4 160 _ M_1 (pI_sub (pAnd_G (k := 16) hT (lvE_G hT 3).1 (lvE_G hT 3).2 (by omega)) hI) (fun hf => by have := (((pAnd_G (k := 16) hT (lvE_G hT 3).1 (lvE_G hT 3).2 (by omega)) q hI.1).2.2.2 hf).2.1; omega) (by rw [eQ]; unfold pOr; rfl) hS1

set_option maxRecDepth 100000 in
set_option maxHeartbeats 4000000 in
theorem ctX11_value_4 {G : jG} {sz : Nat} {Sh : jS} {M : jM} {o : Nat} {S : Nat → Prop} {T : Nat → Nat} {n : Nat} {M0 : jM} {P : List Nat} {q : pS} (hSo : S o) (hSc : S (o + 10)) (hI : pI n P q) (hS : rSt S o Sh T n M0 0 P M q) : jC G yX11_value cX11_value 3 (Option.none : Option FieldType) (jrm 44 0 0) sz Sh M [.ref o] (jT sz Sh (fun r M1 => r = none ∧ rSt S o Sh T n M0 0 P M1 (pVal T n (lvE T n 4).1 q))) := by
  refine jC_start (by decide +kernel) (Nat.le_of_ble_eq_true rfl) (fun X C E hN0 => ?_)
  have hs11 := (rSt_lay hS).1.1.1
  have hn160 : n ≤ 160 := (rSt_lay hS).2.2.1
  have hT := (rSt_lay hS).2.2.2.1
  have hS0 := hS
  obtain ⟨K, b, c, d, g, hQ, hG⟩ := hS0
  refine j_aload_n (q := 1) C dX11_value_0 rfl rfl rfl ?_
  refine j_bipush (v := nI 40) (q := 3) C dX11_value_1 rfl (by decide) ?_
  refine jV1 jc11 (q := 6) C dX11_value_3 rfl hs11 mX11_isSign kw_1120 kw_1121 kw_54 (ctX11_isSign hS hI.1 (s := 0) (by decide) rfl) rfl rfl (by decide) (Nat.le_of_ble_eq_true rfl) (by decide) ?_
  refine j_if_eq (q := 9) (tgt := 66) C dX11_value_6 rfl (by decide) (fun c_6 => ?_) (fun c_6 => ?_)
  · refine j_aload_n (q := 67) C dX11_value_66 rfl rfl rfl ?_
    refine qg_isFault hQ (q' := 70) C dX11_value_67 rfl kw_885 ?_
    refine j_if_eq (q := 73) (tgt := 74) C dX11_value_70 rfl (by decide) (fun c_70 => ?_) (fun c_70 => ?_)
    · have hq : q.1 = false := bf (jb_0.mp c_70)
      have hns : ¬ tk T n q.2.1 = (3, 0) := fun h => jb_0.mp c_6 ⟨hq, h⟩
      have hqb : ¬ q.1 = true := by rw [hq]; decide
      have hts := tk_sort (T := T) (n := n) (x := q.2.1)
      obtain ⟨rfl, rfl, hd, rfl, hK⟩ := hG hq
      refine j_aload_n (q := 75) C dX11_value_74 rfl rfl rfl ?_
      refine qg_sort hQ (q' := 78) C dX11_value_75 rfl kw_883 ?_
      refine j_iconst (v := nI 2) (q := 79) C dX11_value_78 rfl (by decide) ?_
      refine j_icmp_ne (q := 82) (tgt := 126) C dX11_value_79 rfl (by decide) (fun c_79 => ?_) (fun c_79 => ?_)
      · refine j_aload_n (q := 127) C dX11_value_126 rfl rfl rfl ?_
        refine qg_sort hQ (q' := 130) C dX11_value_127 rfl kw_883 ?_
        refine j_iconst (v := nI 1) (q := 131) C dX11_value_130 rfl (by decide) ?_
        refine j_icmp_ne (q := 134) (tgt := 157) C dX11_value_131 rfl (by decide) (fun c_131 => ?_) (fun c_131 => ?_)
        · refine j_aload_n (q := 158) C dX11_value_157 rfl rfl rfl ?_
          refine j_iconst (v := nI 1) (q := 159) C dX11_value_158 rfl (by decide) ?_
          refine qp_isFault hSo hQ (by first | exact Or.inl rfl | exact Or.inr rfl) (q' := 162) C dX11_value_159 rfl kw_885 (fun M hQ => ?_)
          refine j_aload_n (q := 163) C dX11_value_162 rfl rfl rfl ?_
          refine j_iconst (v := nI 1) (q := 164) C dX11_value_163 rfl (by decide) ?_
          refine jVT jc11 (q := 167) C dX11_value_164 rfl hs11 mX11_need kw_1096 kw_1097 kw_46 (ctX11_need hSo (rSt_bad (P := P) (q := pBad q) rfl hQ) hI.1 (p := True) (jb_t trivial).symm) rfl rfl (by decide) (Nat.le_of_ble_eq_true rfl) (by decide) (fun r_164 M_164 h_164 => ?_)
          obtain ⟨rfl, hS7⟩ := h_164
          rw [if_pos (show (pBad q).1 = true from rfl)] at hS7
          exact j_vret C E dX11_value_167 rfl rfl (⟨rfl, rfl, rfl, by rw [show pVal T n (lvE T n 4).1 q = pBad q by unfold pVal; rw [if_neg hqb, if_neg hns, if_neg (fun h => c_79 (by rw [h])), if_neg (fun h => c_131 (by rw [h.1]))]]; exact hS7⟩)
        · have h1 : (tk T n q.2.1).1 = 1 := (nI_eq (by omega) (by omega)).mp c_131
          obtain rfl := hd h1
          have hw1 := wps_lt _ (hts.2.1 h1)
          have hw7 := wps7 _ (hts.2.1 h1)
          refine j_aload_n (q := 135) C dX11_value_134 rfl rfl rfl ?_
          refine qg_which hQ (q' := 138) C dX11_value_135 rfl kw_884 ?_
          refine j_bipush (v := nI 30) (q := 140) C dX11_value_138 rfl (by decide) ?_
          refine j_icmp_gt (q := 143) (tgt := 157) C dX11_value_140 rfl (by decide) (fun c_140 => ?_) (fun c_140 => ?_)
          · refine j_aload_n (q := 158) C dX11_value_157 rfl rfl rfl ?_
            refine j_iconst (v := nI 1) (q := 159) C dX11_value_158 rfl (by decide) ?_
            refine qp_isFault hSo hQ (by first | exact Or.inl rfl | exact Or.inr rfl) (q' := 162) C dX11_value_159 rfl kw_885 (fun M hQ => ?_)
            refine j_aload_n (q := 163) C dX11_value_162 rfl rfl rfl ?_
            refine j_iconst (v := nI 1) (q := 164) C dX11_value_163 rfl (by decide) ?_
            refine jVT jc11 (q := 167) C dX11_value_164 rfl hs11 mX11_need kw_1096 kw_1097 kw_46 (ctX11_need hSo (rSt_bad (P := P) (q := pBad q) rfl hQ) hI.1 (p := True) (jb_t trivial).symm) rfl rfl (by decide) (Nat.le_of_ble_eq_true rfl) (by decide) (fun r_164 M_164 h_164 => ?_)
            obtain ⟨rfl, hS7⟩ := h_164
            rw [if_pos (show (pBad q).1 = true from rfl)] at hS7
            exact j_vret C E dX11_value_167 rfl rfl (⟨rfl, rfl, rfl, by rw [show pVal T n (lvE T n 4).1 q = pBad q by unfold pVal; rw [if_neg hqb, if_neg hns, if_neg (fun h => c_79 (by rw [h])), if_neg (fun h => absurd ((nI_ltI (by omega) (by omega)).mp c_140) (by have := hw7.mpr h.2; omega))]]; exact hS7⟩)
          · refine j_aload_n (q := 144) C dX11_value_143 rfl rfl rfl ?_
            refine j_ldc (q := 146) C dX11_value_144 rfl kw_979 ?_
            refine j_aload_n (q := 147) C dX11_value_146 rfl rfl rfl ?_
            refine qg_which hQ (q' := 150) C dX11_value_147 rfl kw_884 ?_
            first | refine j_iaddN (q := 151) C dX11_value_150 rfl ?_ | refine j_iadd (q := 151) C dX11_value_150 rfl ?_
            refine j_top (v' := .int (nI (1000000 + wps.getD (tk T n q.2.1).2 0))) (by rfl) ?_
            refine jVT jc11 (q := 154) C dX11_value_151 rfl hs11 mX11_codes kw_1108 kw_1109 kw_50 (ctX11_codes hSo hSc hS (pI_l hn160 hI) (k := 1000000 + wps.getD (tk T n q.2.1).2 0)) rfl rfl (by decide) (Nat.le_of_ble_eq_true rfl) (by decide) (fun r_151 M_151 h_151 => ?_)
            obtain ⟨rfl, hS6⟩ := h_151
            refine j_goto (tgt := 162) C dX11_value_154 (by decide) ?_
            refine j_aload_n (q := 163) C dX11_value_162 rfl rfl rfl ?_
            refine j_iconst (v := nI 1) (q := 164) C dX11_value_163 rfl (by decide) ?_
            refine jVT jc11 (q := 167) C dX11_value_164 rfl hs11 mX11_need kw_1096 kw_1097 kw_46 (ctX11_need hSo hS6 (by rw [pEm_f hq]; exact hI.1) (p := True) (jb_t trivial).symm) rfl rfl (by decide) (Nat.le_of_ble_eq_true rfl) (by decide) (fun r_164 M_164 h_164 => ?_)
            obtain ⟨rfl, hS7⟩ := h_164
            rw [if_neg (by rw [pEm_f hq]; exact Bool.false_ne_true), if_pos trivial] at hS7
            exact j_vret C E dX11_value_167 rfl rfl (⟨rfl, rfl, rfl, by rw [show pVal T n (lvE T n 4).1 q = pNx T n (pEm (1000000 + wps.getD (tk T n q.2.1).2 0) q) by unfold pVal; rw [if_neg hqb, if_neg hns, if_neg (fun h => c_79 (by rw [h])), if_pos ⟨h1, hw7.mp (Nat.le_of_not_lt (fun h => c_140 (nI_lt (by omega) (by omega))))⟩]]; exact hS7⟩)
      · have h2 : (tk T n q.2.1).1 = 2 := (nI_eq (by omega) (by omega)).mp c_79
        refine j_iconst (v := nI 0) (q := 83) C dX11_value_82 rfl (by decide) ?_
        refine j_istore_n (lv' := [(1, _), (0, _)]) (q := 84) C dX11_value_83 rfl rfl (by decide) rfl ?_
        refine j_aload_n (q := 85) C dX11_value_84 rfl rfl rfl ?_
        refine qg_from hQ (q' := 88) C dX11_value_85 rfl kw_881 ?_
        refine j_istore_n (lv' := [(2, _), (1, _), (0, _)]) (q := 89) C dX11_value_88 rfl rfl (by decide) rfl ?_
        have hx1 := tt_le (T := T) hI.1
        have hdg : ∀ i, i < tt T n q.2.1 - fr T n q.2.1 → isDg (T (fr T n q.2.1 + i)) = true := tk_dig h2
        have j118 : jJ G X 0 0 sz Sh M 118 [(1, .int (nI (nm T (fr T n q.2.1) (tt T n q.2.1 - fr T n q.2.1)))), (0, .ref o)] [] := by
          refine j_aload_n (q := 119) C dX11_value_118 rfl rfl rfl ?_
          refine j_iload_n (q := 120) C dX11_value_119 rfl rfl rfl ?_
          refine jVT jc11 (q := 123) C dX11_value_120 rfl hs11 mX11_codes kw_1108 kw_1109 kw_50 (ctX11_codes hSo hSc hS (pI_l hn160 hI) (k := nm T (fr T n q.2.1) (tt T n q.2.1 - fr T n q.2.1))) rfl rfl (by decide) (Nat.le_of_ble_eq_true rfl) (by decide) (fun r_120 M_120 h_120 => ?_)
          obtain ⟨rfl, hS6⟩ := h_120
          refine j_goto (tgt := 162) C dX11_value_123 (by decide) ?_
          refine j_aload_n (q := 163) C dX11_value_162 rfl rfl rfl ?_
          refine j_iconst (v := nI 1) (q := 164) C dX11_value_163 rfl (by decide) ?_
          refine jVT jc11 (q := 167) C dX11_value_164 rfl hs11 mX11_need kw_1096 kw_1097 kw_46 (ctX11_need hSo hS6 (by rw [pEm_f hq]; exact hI.1) (p := True) (jb_t trivial).symm) rfl rfl (by decide) (Nat.le_of_ble_eq_true rfl) (by decide) (fun r_164 M_164 h_164 => ?_)
          obtain ⟨rfl, hS7⟩ := h_164
          rw [if_neg (by rw [pEm_f hq]; exact Bool.false_ne_true), if_pos trivial] at hS7
          exact j_vret C E dX11_value_167 rfl rfl (⟨rfl, rfl, rfl, by rw [show pVal T n (lvE T n 4).1 q = pNx T n (pEm (nm T (fr T n q.2.1) (tt T n q.2.1 - fr T n q.2.1)) q) by unfold pVal; rw [if_neg hqb, if_neg hns, if_pos h2, (tk_num hT h2).2.1]]; exact hS7⟩)
        have loop89 : ∀ (z k : Nat), k + z = tt T n q.2.1 - fr T n q.2.1 → jJ G X 0 0 sz Sh M 89 [(2, .int (nI (fr T n q.2.1 + k))), (1, .int (nI (nm T (fr T n q.2.1) k))), (0, .ref o)] [] := by
          intro z
          induction z with
          | zero =>
            intro k hk
            refine j_iload_n (q := 90) C dX11_value_89 rfl rfl rfl ?_
            refine j_aload_n (q := 91) C dX11_value_90 rfl rfl rfl ?_
            refine qg_to hQ (q' := 94) C dX11_value_91 rfl kw_882 ?_
            refine j_icmp_ge (q := 97) (tgt := 118) C dX11_value_94 rfl (by decide) (fun c_94 => ?_) (fun c_94 => absurd (nI_le (by omega) (by omega)) c_94)
            obtain rfl : tt T n q.2.1 - fr T n q.2.1 = k := by omega
            exact j_fewer (lv' := [(1, .int (nI (nm T (fr T n q.2.1) (tt T n q.2.1 - fr T n q.2.1)))), (0, .ref o)]) (by simp) j118
          | succ z ih =>
            intro k hk
            have hdk := of_decide_eq_true (hdg k (by omega))
            refine j_iload_n (q := 90) C dX11_value_89 rfl rfl rfl ?_
            refine j_aload_n (q := 91) C dX11_value_90 rfl rfl rfl ?_
            refine qg_to hQ (q' := 94) C dX11_value_91 rfl kw_882 ?_
            refine j_icmp_ge (q := 97) (tgt := 118) C dX11_value_94 rfl (by decide) (fun c_94 => absurd c_94 (fun h => absurd ((nI_leI (by omega) (by omega)).mp h) (by omega))) (fun c_94 => ?_)
            refine j_bipush (v := nI 10) (q := 99) C dX11_value_97 rfl (by decide) ?_
            refine j_iload_n (q := 100) C dX11_value_99 rfl rfl rfl ?_
            first | refine j_imulN (q := 101) C dX11_value_100 rfl ?_ | refine j_imul (q := 101) C dX11_value_100 rfl ?_
            refine j_aload_n (q := 102) C dX11_value_101 rfl rfl rfl ?_
            refine jg_Model_tape (q := 105) C dX11_value_102 rfl hs11 kw_876 hQ.2.2.1.2.2.2.2.2.2.1 ?_
            refine j_iload_n (q := 106) C dX11_value_105 rfl rfl rfl ?_
            refine j_iald (q := 107) C dX11_value_106 rfl hQ.2.2.1.1.2.2.2.2.2.2.1 (show fr T n q.2.1 + k < 160 by omega) (by decide) ?_
            rw [hQ.2.2.2.1.2.2.2 (fr T n q.2.1 + k) (by omega)]
            first | refine j_iaddN (q := 108) C dX11_value_107 rfl ?_ | refine j_iadd (q := 108) C dX11_value_107 rfl ?_
            refine j_bipush (v := nI 48) (q := 110) C dX11_value_108 rfl (by decide) ?_
            refine j_isub (q := 111) C dX11_value_110 rfl ?_
            refine j_top (v' := .int (nI (nm T (fr T n q.2.1) (k + 1)))) (congrArg Value.int (by rw [pk_sub (by omega), nm]; congr 1; omega)) ?_
            refine j_istore_n (lv' := [(1, _), (2, _), (0, _)]) (q := 112) C dX11_value_111 rfl rfl (by decide) rfl ?_
            first | refine j_iincN (lv' := [(2, _), (1, _), (0, _)]) (q := 115) C dX11_value_112 rfl rfl (by decide) rfl ?_ | refine j_iinc (lv' := [(2, _), (1, _), (0, _)]) (q := 115) C dX11_value_112 rfl rfl rfl (by decide) rfl ?_
            refine j_goto (tgt := 89) C dX11_value_115 (by decide) ?_
            exact j_fewer (lv' := [(2, .int (nI (fr T n q.2.1 + (k + 1)))), (1, .int (nI (nm T (fr T n q.2.1) (k + 1)))), (0, .ref o)]) (by simp [Nat.add_assoc]) (ih (k + 1) (by omega))
        exact j_fewer (lv' := [(2, .int (nI (fr T n q.2.1 + 0))), (1, .int (nI (nm T (fr T n q.2.1) 0))), (0, .ref o)]) (by simp [nm]) (loop89 (tt T n q.2.1 - fr T n q.2.1) 0 (by omega))
    · exact j_vret C E dX11_value_73 rfl rfl (⟨rfl, rfl, rfl, by rw [show pVal T n (lvE T n 4).1 q = q by unfold pVal; rw [if_pos (jb_n.mp c_70)]]; exact hS⟩)
  · have hk := jb_n.mp c_6
    have hq := hk.1
    obtain ⟨rfl, rfl, hd, rfl, hK⟩ := hG hq
    refine j_aload_n (q := 10) C dX11_value_9 rfl rfl rfl ?_
    refine j_aload_n (q := 11) C dX11_value_10 rfl rfl rfl ?_
    refine qg_deep hQ (q' := 14) C dX11_value_11 rfl kw_886 ?_
    refine j_iconst (v := nI 4) (q := 15) C dX11_value_14 rfl (by decide) ?_
    refine j_icmp_ne (q := 18) (tgt := 22) C dX11_value_15 rfl (by decide) (fun c_15 => ?_) (fun c_15 => absurd c_15 (by decide))
    refine j_iconst (v := nI 0) (q := 23) C dX11_value_22 rfl (by decide) ?_
    refine qp_isFault hSo hQ (by first | exact Or.inl rfl | exact Or.inr rfl) (q' := 26) C dX11_value_23 rfl kw_885 (fun M hQ => ?_)
    refine j_aload_n (q := 27) C dX11_value_26 rfl rfl rfl ?_
    refine j_dup (q := 28) C dX11_value_27 rfl rfl ?_
    refine qg_deep hQ (q' := 31) C dX11_value_28 rfl kw_886 ?_
    refine j_iconst (v := nI 1) (q := 32) C dX11_value_31 rfl (by decide) ?_
    first | refine j_iaddN (q := 33) C dX11_value_32 rfl ?_ | refine j_iadd (q := 33) C dX11_value_32 rfl ?_
    refine qp_deep hSo hQ (q' := 36) C dX11_value_33 rfl kw_886 (fun M hQ => ?_)
    have hS1 : rSt S o Sh T n M0 1 P M q := ⟨K, _, _, _, _, by rw [jb_f (by rw [hq]; decide)]; exact hQ, fun _ => ⟨rfl, rfl, hd, rfl, hK⟩⟩
    refine j_aload_n (q := 37) C dX11_value_36 rfl rfl rfl ?_
    refine j_iconst (v := nI 1) (q := 38) C dX11_value_37 rfl (by decide) ?_
    refine jVT jc11 (q := 41) C dX11_value_38 rfl hs11 mX11_need kw_1096 kw_1097 kw_46 (ctX11_need hSo hS1 hI.1 (p := True) (jb_t trivial).symm) rfl rfl (by decide) (Nat.le_of_ble_eq_true rfl) (by decide) (fun r_38 M_38 h_38 => ?_)
    obtain ⟨rfl, hS2⟩ := h_38
    rw [if_neg (by rw [hq]; decide), if_pos trivial] at hS2
    have hI2 := (pI_nx (T := T) hq (by rw [hk.2]; decide) hI).1
    refine j_aload_n (q := 42) C dX11_value_41 rfl rfl rfl ?_
    refine jVT jc11 (q := 45) C dX11_value_42 rfl hs11 mX11_either kw_1099 kw_1100 kw_47 (ctX11_either_3 hSo hSc hI2 hS2) rfl rfl (by decide) (Nat.le_of_ble_eq_true rfl) (by decide) (fun r_42 M_42 h_42 => ?_)
    obtain ⟨rfl, hS3⟩ := h_42
    have hI3 := pI_sub (pOr_G (k := 16) hT (lvE_G hT 3).1 (lvE_G hT 3).2 (by omega)) hI2
    obtain ⟨q3, e3⟩ : ∃ z, z = (pOr T n (lvE T n 3).1 (lvE T n 3).2 (pNx T n q)) := ⟨_, rfl⟩
    rw [← e3] at hS3 hI3
    obtain ⟨K3, b3, c3, d3, g3, hQ, hG3⟩ := hS3
    refine j_aload_n (q := 46) C dX11_value_45 rfl rfl rfl ?_
    refine j_dup (q := 47) C dX11_value_46 rfl rfl ?_
    refine qg_deep hQ (q' := 50) C dX11_value_47 rfl kw_886 ?_
    refine j_iconst (v := nI 1) (q := 51) C dX11_value_50 rfl (by decide) ?_
    refine j_isub (q := 52) C dX11_value_51 rfl ?_
    refine j_top (v' := .int (nI 0)) (by rfl) ?_
    refine qp_deep hSo hQ (q' := 55) C dX11_value_52 rfl kw_886 (fun M hQ => ?_)
    have hS4 : rSt S o Sh T n M0 0 P M q3 := ⟨K3, b3, c3, d3, g3, hQ, hG3⟩
    refine j_aload_n (q := 56) C dX11_value_55 rfl rfl rfl ?_
    refine j_aload_n (q := 57) C dX11_value_56 rfl rfl rfl ?_
    refine j_bipush (v := nI 41) (q := 59) C dX11_value_57 rfl (by decide) ?_
    refine jV1 jc11 (q := 62) C dX11_value_59 rfl hs11 mX11_isSign kw_1120 kw_1121 kw_54 (ctX11_isSign hS4 hI3.1 (s := 1) (by decide) rfl) rfl rfl (by decide) (Nat.le_of_ble_eq_true rfl) (by decide) ?_
    refine jVT jc11 (q := 65) C dX11_value_62 rfl hs11 mX11_need kw_1096 kw_1097 kw_46 (ctX11_need hSo hS4 hI3.1 (p := q3.1 = false ∧ tk T n q3.2.1 = (3, 1)) rfl) rfl rfl (by decide) (Nat.le_of_ble_eq_true rfl) (by decide) (fun r_62 M_62 h_62 => ?_)
    obtain ⟨rfl, hS5⟩ := h_62
    rw [need_exp] at hS5
    exact j_vret C E dX11_value_65 rfl rfl (⟨rfl, rfl, rfl, by rw [show pVal T n (lvE T n 4).1 q = pExp T n (3, 1) q3 by unfold pVal; rw [if_neg (by rw [hq]; decide), if_pos hk.2, e3]; rfl]; exact hS5⟩)

set_option maxRecDepth 100000 in
set_option maxHeartbeats 4000000 in
theorem ctX11_oneOf_4 {G : jG} {sz : Nat} {Sh : jS} {M : jM} {o : Nat} {S : Nat → Prop} {T : Nat → Nat} {n : Nat} {M0 : jM} {P : List Nat} {q : pS} (hSo : S o) (hSc : S (o + 10)) (hI : pI n P q) (hS : rSt S o Sh T n M0 0 P M q) : jC G yX11_oneOf cX11_oneOf 2 (Option.none : Option FieldType) (jrm 45 0 0) sz Sh M [.ref o] (jT sz Sh (fun r M1 => r = none ∧ rSt S o Sh T n M0 0 P M1 (pOne T n (lvE T n 4).1 q))) := by
  refine jC_start (by decide +kernel) (Nat.le_of_ble_eq_true rfl) (fun X C E hN0 => ?_)
  have hs11 := (rSt_lay hS).1.1.1
  have hn160 : n ≤ 160 := (rSt_lay hS).2.2.1
  have hT := (rSt_lay hS).2.2.2.1
  obtain ⟨Q, eQ⟩ : ∃ z, z = pOne T n (lvE T n 4).1 q := ⟨_, rfl⟩
  rw [← eQ] at E
  have loop4 : ∀ (f : Nat) (q : pS) (M : jM), pI n P q → (q.1 = false → n + 1 ≤ q.2.1 + f) → pLp T n oMul (pVal T n (lvE T n 4).1) f q = Q → rSt S o Sh T n M0 0 P M q → jJ G X 0 0 sz Sh M 4 [(0, .ref o)] [] := by
    intro f
    induction f with
    | zero =>
      intro q M hI hf hQe hS
      have hqb : q.1 = true := by
        cases h : q.1 with
        | true => rfl
        | false => have := hf h; have := hI.1; omega
      refine j_aload_n (q := 5) C dX11_oneOf_4 rfl rfl rfl ?_
      refine j_bipush (v := nI 42) (q := 7) C dX11_oneOf_5 rfl (by decide) ?_
      refine jV1 jc11 (q := 10) C dX11_oneOf_7 rfl hs11 mX11_isSign kw_1120 kw_1121 kw_54 (ctX11_isSign hS hI.1 (s := 5) (by decide) rfl) rfl rfl (by decide) (Nat.le_of_ble_eq_true rfl) (by decide) ?_
      refine j_if_ne (q := 13) (tgt := 22) C dX11_oneOf_10 rfl (by decide) (fun c_10 => absurd (jb_0.mpr (fun h => by rw [hqb] at h; cases h.1)) c_10) (fun c_10 => ?_)
      refine j_aload_n (q := 14) C dX11_oneOf_13 rfl rfl rfl ?_
      refine j_bipush (v := nI 47) (q := 16) C dX11_oneOf_14 rfl (by decide) ?_
      refine jV1 jc11 (q := 19) C dX11_oneOf_16 rfl hs11 mX11_isSign kw_1120 kw_1121 kw_54 (ctX11_isSign hS hI.1 (s := 6) (by decide) rfl) rfl rfl (by decide) (Nat.le_of_ble_eq_true rfl) (by decide) ?_
      refine j_if_eq (q := 22) (tgt := 55) C dX11_oneOf_19 rfl (by decide) (fun c_19 => ?_) (fun c_19 => absurd (jb_0.mpr (fun h => by rw [hqb] at h; cases h.1)) c_19)
      exact j_vret C E dX11_oneOf_55 rfl rfl (⟨rfl, rfl, rfl, by rw [← hQe]; exact hS⟩)
    | succ f ih =>
      intro q M hI hf hQe hS
      refine j_aload_n (q := 5) C dX11_oneOf_4 rfl rfl rfl ?_
      refine j_bipush (v := nI 42) (q := 7) C dX11_oneOf_5 rfl (by decide) ?_
      refine jV1 jc11 (q := 10) C dX11_oneOf_7 rfl hs11 mX11_isSign kw_1120 kw_1121 kw_54 (ctX11_isSign hS hI.1 (s := 5) (by decide) rfl) rfl rfl (by decide) (Nat.le_of_ble_eq_true rfl) (by decide) ?_
      refine j_if_ne (q := 13) (tgt := 22) C dX11_oneOf_10 rfl (by decide) (fun c_10 => ?_) (fun c_10 => ?_)
      · have hk := jb_n.mp c_10
        have hq := hk.1
        have ho : oMul (tk T n q.2.1) = some 2000006 := by rw [hk.2]; rfl
        obtain ⟨a1, a2, a3, a4⟩ := pI_step (c := 2000006) (pVal_G (k := 21) hT (lvE_G hT 4).1 (by omega)) hq (by rw [hk.2]; decide) hI
        have hS0 := hS
        obtain ⟨K, b, c, d, g, hQ, hG⟩ := hS0
        obtain ⟨rfl, rfl, hd, rfl, hK⟩ := hG hq
        refine j_aload_n (q := 23) C dX11_oneOf_22 rfl rfl rfl ?_
        refine j_bipush (v := nI 42) (q := 25) C dX11_oneOf_23 rfl (by decide) ?_
        refine jV1 jc11 (q := 28) C dX11_oneOf_25 rfl hs11 mX11_isSign kw_1120 kw_1121 kw_54 (ctX11_isSign hS hI.1 (s := 5) (by decide) rfl) rfl rfl (by decide) (Nat.le_of_ble_eq_true rfl) (by decide) ?_
        refine j_if_eq (q := 31) (tgt := 36) C dX11_oneOf_28 rfl (by decide) (fun c_28 => absurd c_28 c_10) (fun c_28 => ?_)
        refine j_ldc (q := 33) C dX11_oneOf_31 rfl kw_1123 ?_
        refine j_goto (tgt := 38) C dX11_oneOf_33 (by decide) ?_
        refine j_istore_n (lv' := [(1, _), (0, _)]) (q := 39) C dX11_oneOf_38 rfl rfl (by decide) rfl ?_
        refine j_aload_n (q := 40) C dX11_oneOf_39 rfl rfl rfl ?_
        refine jVT jc11 (q := 43) C dX11_oneOf_40 rfl hs11 mX11_next kw_1024 kw_1025 kw_41 (ctX11_next hSo (x := tt T n q.2.1) (tt_n (T := T) hI.1).1 hQ) rfl rfl (by decide) (Nat.le_of_ble_eq_true rfl) (by decide) (fun r_40 M_40 h_40 => ?_)
        obtain ⟨rfl, hN⟩ := h_40
        have hS1 := rSt_nx hq hN hK
        refine j_aload_n (q := 44) C dX11_oneOf_43 rfl rfl rfl ?_
        refine jVT jc11 (q := 47) C dX11_oneOf_44 rfl hs11 mX11_value kw_1117 kw_1118 kw_53 (ctX11_value_4 hSo hSc a1 hS1) rfl rfl (by decide) (Nat.le_of_ble_eq_true rfl) (by decide) (fun r_44 M_44 h_44 => ?_)
        obtain ⟨rfl, hS2⟩ := h_44
        refine j_aload_n (q := 48) C dX11_oneOf_47 rfl rfl rfl ?_
        refine j_iload_n (q := 49) C dX11_oneOf_48 rfl rfl rfl ?_
        refine j_top (v' := .int (nI 2000006)) (by rfl) ?_
        refine jVT jc11 (q := 52) C dX11_oneOf_49 rfl hs11 mX11_codes kw_1108 kw_1109 kw_50 (ctX11_codes hSo hSc hS2 (pI_l hn160 a2) (k := 2000006)) rfl rfl (by decide) (Nat.le_of_ble_eq_true rfl) (by decide) (fun r_49 M_49 h_49 => ?_)
        obtain ⟨rfl, hS3⟩ := h_49
        refine j_goto (tgt := 4) C dX11_oneOf_52 (by decide) ?_
        exact j_fewer (lv' := [(0, .ref o)]) (by simp) (ih _ M_49 a3 (fun _ => by have := hf hq; omega) (by rw [← hQe, pLp, if_neg (by rw [hq]; decide), ho]) hS3)
      · refine j_aload_n (q := 14) C dX11_oneOf_13 rfl rfl rfl ?_
        refine j_bipush (v := nI 47) (q := 16) C dX11_oneOf_14 rfl (by decide) ?_
        refine jV1 jc11 (q := 19) C dX11_oneOf_16 rfl hs11 mX11_isSign kw_1120 kw_1121 kw_54 (ctX11_isSign hS hI.1 (s := 6) (by decide) rfl) rfl rfl (by decide) (Nat.le_of_ble_eq_true rfl) (by decide) ?_
        refine j_if_eq (q := 22) (tgt := 55) C dX11_oneOf_19 rfl (by decide) (fun c_19 => ?_) (fun c_19 => ?_)
        · exact j_vret C E dX11_oneOf_55 rfl rfl (⟨rfl, rfl, rfl, by
                have e : pLp T n oMul (pVal T n (lvE T n 4).1) (f + 1) q = q := by
                  by_cases hb : q.1 = true
                  · exact pLp_bad hb _
                  · have ho : oMul (tk T n q.2.1) = none := by unfold oMul; rw [if_neg (fun h => jb_0.mp c_10 ⟨bf hb, h⟩), if_neg (fun h => jb_0.mp c_19 ⟨bf hb, h⟩)]
                    rw [pLp, if_neg hb, ho]
                rw [← hQe, e]; exact hS⟩)
        · have hk := jb_n.mp c_19
          have hq := hk.1
          have ho : oMul (tk T n q.2.1) = some 2000007 := by rw [hk.2]; rfl
          obtain ⟨a1, a2, a3, a4⟩ := pI_step (c := 2000007) (pVal_G (k := 21) hT (lvE_G hT 4).1 (by omega)) hq (by rw [hk.2]; decide) hI
          have hS0 := hS
          obtain ⟨K, b, c, d, g, hQ, hG⟩ := hS0
          obtain ⟨rfl, rfl, hd, rfl, hK⟩ := hG hq
          refine j_aload_n (q := 23) C dX11_oneOf_22 rfl rfl rfl ?_
          refine j_bipush (v := nI 42) (q := 25) C dX11_oneOf_23 rfl (by decide) ?_
          refine jV1 jc11 (q := 28) C dX11_oneOf_25 rfl hs11 mX11_isSign kw_1120 kw_1121 kw_54 (ctX11_isSign hS hI.1 (s := 5) (by decide) rfl) rfl rfl (by decide) (Nat.le_of_ble_eq_true rfl) (by decide) ?_
          refine j_if_eq (q := 31) (tgt := 36) C dX11_oneOf_28 rfl (by decide) (fun c_28 => ?_) (fun c_28 => absurd c_10 c_28)
          refine j_ldc (q := 38) C dX11_oneOf_36 rfl kw_1124 ?_
          refine j_istore_n (lv' := [(1, _), (0, _)]) (q := 39) C dX11_oneOf_38 rfl rfl (by decide) rfl ?_
          refine j_aload_n (q := 40) C dX11_oneOf_39 rfl rfl rfl ?_
          refine jVT jc11 (q := 43) C dX11_oneOf_40 rfl hs11 mX11_next kw_1024 kw_1025 kw_41 (ctX11_next hSo (x := tt T n q.2.1) (tt_n (T := T) hI.1).1 hQ) rfl rfl (by decide) (Nat.le_of_ble_eq_true rfl) (by decide) (fun r_40 M_40 h_40 => ?_)
          obtain ⟨rfl, hN⟩ := h_40
          have hS1 := rSt_nx hq hN hK
          refine j_aload_n (q := 44) C dX11_oneOf_43 rfl rfl rfl ?_
          refine jVT jc11 (q := 47) C dX11_oneOf_44 rfl hs11 mX11_value kw_1117 kw_1118 kw_53 (ctX11_value_4 hSo hSc a1 hS1) rfl rfl (by decide) (Nat.le_of_ble_eq_true rfl) (by decide) (fun r_44 M_44 h_44 => ?_)
          obtain ⟨rfl, hS2⟩ := h_44
          refine j_aload_n (q := 48) C dX11_oneOf_47 rfl rfl rfl ?_
          refine j_iload_n (q := 49) C dX11_oneOf_48 rfl rfl rfl ?_
          refine j_top (v' := .int (nI 2000007)) (by rfl) ?_
          refine jVT jc11 (q := 52) C dX11_oneOf_49 rfl hs11 mX11_codes kw_1108 kw_1109 kw_50 (ctX11_codes hSo hSc hS2 (pI_l hn160 a2) (k := 2000007)) rfl rfl (by decide) (Nat.le_of_ble_eq_true rfl) (by decide) (fun r_49 M_49 h_49 => ?_)
          obtain ⟨rfl, hS3⟩ := h_49
          refine j_goto (tgt := 4) C dX11_oneOf_52 (by decide) ?_
          exact j_fewer (lv' := [(0, .ref o)]) (by simp) (ih _ M_49 a3 (fun _ => by have := hf hq; omega) (by rw [← hQe, pLp, if_neg (by rw [hq]; decide), ho]) hS3)
  refine j_aload_n (q := 1) C dX11_oneOf_0 rfl rfl rfl ?_
  refine jVT jc11 (q := 4) C dX11_oneOf_1 rfl hs11 mX11_value kw_1117 kw_1118 kw_53 (ctX11_value_4 hSo hSc hI hS) rfl rfl (by decide) (Nat.le_of_ble_eq_true rfl) (by decide) (fun r_1 M_1 h_1 => ?_)
  obtain ⟨rfl, hS1⟩ := h_1
  exact loop4 160 _ M_1 (pI_sub (pVal_G (k := 21) hT (lvE_G hT 4).1 (by omega)) hI) (fun hf => by have := (((pVal_G (k := 21) hT (lvE_G hT 4).1 (by omega)) q hI.1).2.2.2 hf).2.1; omega) (by rw [eQ]; unfold pOne; rfl) hS1

set_option maxRecDepth 100000 in
set_option maxHeartbeats 4000000 in
theorem ctX11_sumOf_4 {G : jG} {sz : Nat} {Sh : jS} {M : jM} {o : Nat} {S : Nat → Prop} {T : Nat → Nat} {n : Nat} {M0 : jM} {P : List Nat} {q : pS} (hSo : S o) (hSc : S (o + 10)) (hI : pI n P q) (hS : rSt S o Sh T n M0 0 P M q) : jC G yX11_sumOf cX11_sumOf 2 (Option.none : Option FieldType) (jrm 46 0 0) sz Sh M [.ref o] (jT sz Sh (fun r M1 => r = none ∧ rSt S o Sh T n M0 0 P M1 (pSum T n (lvE T n 4).1 q))) := by
  refine jC_start (by decide +kernel) (Nat.le_of_ble_eq_true rfl) (fun X C E hN0 => ?_)
  have hs11 := (rSt_lay hS).1.1.1
  have hn160 : n ≤ 160 := (rSt_lay hS).2.2.1
  have hT := (rSt_lay hS).2.2.2.1
  obtain ⟨Q, eQ⟩ : ∃ z, z = pSum T n (lvE T n 4).1 q := ⟨_, rfl⟩
  rw [← eQ] at E
  have loop4 : ∀ (f : Nat) (q : pS) (M : jM), pI n P q → (q.1 = false → n + 1 ≤ q.2.1 + f) → pLp T n oAdd (pOne T n (lvE T n 4).1) f q = Q → rSt S o Sh T n M0 0 P M q → jJ G X 0 0 sz Sh M 4 [(0, .ref o)] [] := by
    intro f
    induction f with
    | zero =>
      intro q M hI hf hQe hS
      have hqb : q.1 = true := by
        cases h : q.1 with
        | true => rfl
        | false => have := hf h; have := hI.1; omega
      refine j_aload_n (q := 5) C dX11_sumOf_4 rfl rfl rfl ?_
      refine j_bipush (v := nI 43) (q := 7) C dX11_sumOf_5 rfl (by decide) ?_
      refine jV1 jc11 (q := 10) C dX11_sumOf_7 rfl hs11 mX11_isSign kw_1120 kw_1121 kw_54 (ctX11_isSign hS hI.1 (s := 3) (by decide) rfl) rfl rfl (by decide) (Nat.le_of_ble_eq_true rfl) (by decide) ?_
      refine j_if_ne (q := 13) (tgt := 22) C dX11_sumOf_10 rfl (by decide) (fun c_10 => absurd (jb_0.mpr (fun h => by rw [hqb] at h; cases h.1)) c_10) (fun c_10 => ?_)
      refine j_aload_n (q := 14) C dX11_sumOf_13 rfl rfl rfl ?_
      refine j_bipush (v := nI 45) (q := 16) C dX11_sumOf_14 rfl (by decide) ?_
      refine jV1 jc11 (q := 19) C dX11_sumOf_16 rfl hs11 mX11_isSign kw_1120 kw_1121 kw_54 (ctX11_isSign hS hI.1 (s := 4) (by decide) rfl) rfl rfl (by decide) (Nat.le_of_ble_eq_true rfl) (by decide) ?_
      refine j_if_eq (q := 22) (tgt := 55) C dX11_sumOf_19 rfl (by decide) (fun c_19 => ?_) (fun c_19 => absurd (jb_0.mpr (fun h => by rw [hqb] at h; cases h.1)) c_19)
      exact j_vret C E dX11_sumOf_55 rfl rfl (⟨rfl, rfl, rfl, by rw [← hQe]; exact hS⟩)
    | succ f ih =>
      intro q M hI hf hQe hS
      refine j_aload_n (q := 5) C dX11_sumOf_4 rfl rfl rfl ?_
      refine j_bipush (v := nI 43) (q := 7) C dX11_sumOf_5 rfl (by decide) ?_
      refine jV1 jc11 (q := 10) C dX11_sumOf_7 rfl hs11 mX11_isSign kw_1120 kw_1121 kw_54 (ctX11_isSign hS hI.1 (s := 3) (by decide) rfl) rfl rfl (by decide) (Nat.le_of_ble_eq_true rfl) (by decide) ?_
      refine j_if_ne (q := 13) (tgt := 22) C dX11_sumOf_10 rfl (by decide) (fun c_10 => ?_) (fun c_10 => ?_)
      · have hk := jb_n.mp c_10
        have hq := hk.1
        have ho : oAdd (tk T n q.2.1) = some 2000004 := by rw [hk.2]; rfl
        obtain ⟨a1, a2, a3, a4⟩ := pI_step (c := 2000004) (pOne_G (k := 21) hT (lvE_G hT 4).1 (by omega)) hq (by rw [hk.2]; decide) hI
        have hS0 := hS
        obtain ⟨K, b, c, d, g, hQ, hG⟩ := hS0
        obtain ⟨rfl, rfl, hd, rfl, hK⟩ := hG hq
        refine j_aload_n (q := 23) C dX11_sumOf_22 rfl rfl rfl ?_
        refine j_bipush (v := nI 43) (q := 25) C dX11_sumOf_23 rfl (by decide) ?_
        refine jV1 jc11 (q := 28) C dX11_sumOf_25 rfl hs11 mX11_isSign kw_1120 kw_1121 kw_54 (ctX11_isSign hS hI.1 (s := 3) (by decide) rfl) rfl rfl (by decide) (Nat.le_of_ble_eq_true rfl) (by decide) ?_
        refine j_if_eq (q := 31) (tgt := 36) C dX11_sumOf_28 rfl (by decide) (fun c_28 => absurd c_28 c_10) (fun c_28 => ?_)
        refine j_ldc (q := 33) C dX11_sumOf_31 rfl kw_1125 ?_
        refine j_goto (tgt := 38) C dX11_sumOf_33 (by decide) ?_
        refine j_istore_n (lv' := [(1, _), (0, _)]) (q := 39) C dX11_sumOf_38 rfl rfl (by decide) rfl ?_
        refine j_aload_n (q := 40) C dX11_sumOf_39 rfl rfl rfl ?_
        refine jVT jc11 (q := 43) C dX11_sumOf_40 rfl hs11 mX11_next kw_1024 kw_1025 kw_41 (ctX11_next hSo (x := tt T n q.2.1) (tt_n (T := T) hI.1).1 hQ) rfl rfl (by decide) (Nat.le_of_ble_eq_true rfl) (by decide) (fun r_40 M_40 h_40 => ?_)
        obtain ⟨rfl, hN⟩ := h_40
        have hS1 := rSt_nx hq hN hK
        refine j_aload_n (q := 44) C dX11_sumOf_43 rfl rfl rfl ?_
        refine jVT jc11 (q := 47) C dX11_sumOf_44 rfl hs11 mX11_oneOf kw_1114 kw_1115 kw_52 (ctX11_oneOf_4 hSo hSc a1 hS1) rfl rfl (by decide) (Nat.le_of_ble_eq_true rfl) (by decide) (fun r_44 M_44 h_44 => ?_)
        obtain ⟨rfl, hS2⟩ := h_44
        refine j_aload_n (q := 48) C dX11_sumOf_47 rfl rfl rfl ?_
        refine j_iload_n (q := 49) C dX11_sumOf_48 rfl rfl rfl ?_
        refine j_top (v' := .int (nI 2000004)) (by rfl) ?_
        refine jVT jc11 (q := 52) C dX11_sumOf_49 rfl hs11 mX11_codes kw_1108 kw_1109 kw_50 (ctX11_codes hSo hSc hS2 (pI_l hn160 a2) (k := 2000004)) rfl rfl (by decide) (Nat.le_of_ble_eq_true rfl) (by decide) (fun r_49 M_49 h_49 => ?_)
        obtain ⟨rfl, hS3⟩ := h_49
        refine j_goto (tgt := 4) C dX11_sumOf_52 (by decide) ?_
        exact j_fewer (lv' := [(0, .ref o)]) (by simp) (ih _ M_49 a3 (fun _ => by have := hf hq; omega) (by rw [← hQe, pLp, if_neg (by rw [hq]; decide), ho]) hS3)
      · refine j_aload_n (q := 14) C dX11_sumOf_13 rfl rfl rfl ?_
        refine j_bipush (v := nI 45) (q := 16) C dX11_sumOf_14 rfl (by decide) ?_
        refine jV1 jc11 (q := 19) C dX11_sumOf_16 rfl hs11 mX11_isSign kw_1120 kw_1121 kw_54 (ctX11_isSign hS hI.1 (s := 4) (by decide) rfl) rfl rfl (by decide) (Nat.le_of_ble_eq_true rfl) (by decide) ?_
        refine j_if_eq (q := 22) (tgt := 55) C dX11_sumOf_19 rfl (by decide) (fun c_19 => ?_) (fun c_19 => ?_)
        · exact j_vret C E dX11_sumOf_55 rfl rfl (⟨rfl, rfl, rfl, by
                have e : pLp T n oAdd (pOne T n (lvE T n 4).1) (f + 1) q = q := by
                  by_cases hb : q.1 = true
                  · exact pLp_bad hb _
                  · have ho : oAdd (tk T n q.2.1) = none := by unfold oAdd; rw [if_neg (fun h => jb_0.mp c_10 ⟨bf hb, h⟩), if_neg (fun h => jb_0.mp c_19 ⟨bf hb, h⟩)]
                    rw [pLp, if_neg hb, ho]
                rw [← hQe, e]; exact hS⟩)
        · have hk := jb_n.mp c_19
          have hq := hk.1
          have ho : oAdd (tk T n q.2.1) = some 2000005 := by rw [hk.2]; rfl
          obtain ⟨a1, a2, a3, a4⟩ := pI_step (c := 2000005) (pOne_G (k := 21) hT (lvE_G hT 4).1 (by omega)) hq (by rw [hk.2]; decide) hI
          have hS0 := hS
          obtain ⟨K, b, c, d, g, hQ, hG⟩ := hS0
          obtain ⟨rfl, rfl, hd, rfl, hK⟩ := hG hq
          refine j_aload_n (q := 23) C dX11_sumOf_22 rfl rfl rfl ?_
          refine j_bipush (v := nI 43) (q := 25) C dX11_sumOf_23 rfl (by decide) ?_
          refine jV1 jc11 (q := 28) C dX11_sumOf_25 rfl hs11 mX11_isSign kw_1120 kw_1121 kw_54 (ctX11_isSign hS hI.1 (s := 3) (by decide) rfl) rfl rfl (by decide) (Nat.le_of_ble_eq_true rfl) (by decide) ?_
          refine j_if_eq (q := 31) (tgt := 36) C dX11_sumOf_28 rfl (by decide) (fun c_28 => ?_) (fun c_28 => absurd c_10 c_28)
          refine j_ldc (q := 38) C dX11_sumOf_36 rfl kw_1126 ?_
          refine j_istore_n (lv' := [(1, _), (0, _)]) (q := 39) C dX11_sumOf_38 rfl rfl (by decide) rfl ?_
          refine j_aload_n (q := 40) C dX11_sumOf_39 rfl rfl rfl ?_
          refine jVT jc11 (q := 43) C dX11_sumOf_40 rfl hs11 mX11_next kw_1024 kw_1025 kw_41 (ctX11_next hSo (x := tt T n q.2.1) (tt_n (T := T) hI.1).1 hQ) rfl rfl (by decide) (Nat.le_of_ble_eq_true rfl) (by decide) (fun r_40 M_40 h_40 => ?_)
          obtain ⟨rfl, hN⟩ := h_40
          have hS1 := rSt_nx hq hN hK
          refine j_aload_n (q := 44) C dX11_sumOf_43 rfl rfl rfl ?_
          refine jVT jc11 (q := 47) C dX11_sumOf_44 rfl hs11 mX11_oneOf kw_1114 kw_1115 kw_52 (ctX11_oneOf_4 hSo hSc a1 hS1) rfl rfl (by decide) (Nat.le_of_ble_eq_true rfl) (by decide) (fun r_44 M_44 h_44 => ?_)
          obtain ⟨rfl, hS2⟩ := h_44
          refine j_aload_n (q := 48) C dX11_sumOf_47 rfl rfl rfl ?_
          refine j_iload_n (q := 49) C dX11_sumOf_48 rfl rfl rfl ?_
          refine j_top (v' := .int (nI 2000005)) (by rfl) ?_
          refine jVT jc11 (q := 52) C dX11_sumOf_49 rfl hs11 mX11_codes kw_1108 kw_1109 kw_50 (ctX11_codes hSo hSc hS2 (pI_l hn160 a2) (k := 2000005)) rfl rfl (by decide) (Nat.le_of_ble_eq_true rfl) (by decide) (fun r_49 M_49 h_49 => ?_)
          obtain ⟨rfl, hS3⟩ := h_49
          refine j_goto (tgt := 4) C dX11_sumOf_52 (by decide) ?_
          exact j_fewer (lv' := [(0, .ref o)]) (by simp) (ih _ M_49 a3 (fun _ => by have := hf hq; omega) (by rw [← hQe, pLp, if_neg (by rw [hq]; decide), ho]) hS3)
  refine j_aload_n (q := 1) C dX11_sumOf_0 rfl rfl rfl ?_
  refine jVT jc11 (q := 4) C dX11_sumOf_1 rfl hs11 mX11_oneOf kw_1114 kw_1115 kw_52 (ctX11_oneOf_4 hSo hSc hI hS) rfl rfl (by decide) (Nat.le_of_ble_eq_true rfl) (by decide) (fun r_1 M_1 h_1 => ?_)
  obtain ⟨rfl, hS1⟩ := h_1
  exact loop4 160 _ M_1 (pI_sub (pOne_G (k := 21) hT (lvE_G hT 4).1 (by omega)) hI) (fun hf => by have := (((pOne_G (k := 21) hT (lvE_G hT 4).1 (by omega)) q hI.1).2.2.2 hf).2.1; omega) (by rw [eQ]; unfold pSum; rfl) hS1

set_option maxRecDepth 100000 in
set_option maxHeartbeats 4000000 in
theorem ctX11_notOf_4 {G : jG} {sz : Nat} {Sh : jS} {M : jM} {o : Nat} {S : Nat → Prop} {T : Nat → Nat} {n : Nat} {M0 : jM} {P : List Nat} {q : pS} (hSo : S o) (hSc : S (o + 10)) (hI : pI n P q) (hS : rSt S o Sh T n M0 0 P M q) : jC G yX11_notOf cX11_notOf 2 (Option.none : Option FieldType) (jrm 47 0 0) sz Sh M [.ref o] (jT sz Sh (fun r M1 => r = none ∧ rSt S o Sh T n M0 0 P M1 (pNot T n (lvE T n 4).1 (lvE T n 4).2 q))) := by
  refine jC_start (by decide +kernel) (Nat.le_of_ble_eq_true rfl) (fun X C E hN0 => ?_)
  have hs11 := (rSt_lay hS).1.1.1
  have hn160 : n ≤ 160 := (rSt_lay hS).2.2.1
  have hT := (rSt_lay hS).2.2.2.1
  have hS0 := hS
  obtain ⟨K, b, c, d, g, hQ, hG⟩ := hS0
  refine j_aload_n (q := 1) C dX11_notOf_0 rfl rfl rfl ?_
  refine j_bipush (v := nI 57) (q := 3) C dX11_notOf_1 rfl (by decide) ?_
  refine jV1 jc11 (q := 6) C dX11_notOf_3 rfl hs11 mX11_isWord kw_1093 kw_1094 kw_45 (ctX11_isWord hS (s := 12) (by decide) rfl) rfl rfl (by decide) (Nat.le_of_ble_eq_true rfl) (by decide) ?_
  refine j_if_eq (q := 9) (tgt := 62) C dX11_notOf_6 rfl (by decide) (fun c_6 => ?_) (fun c_6 => ?_)
  · refine j_aload_n (q := 63) C dX11_notOf_62 rfl rfl rfl ?_
    refine jVT jc11 (q := 66) C dX11_notOf_63 rfl hs11 mX11_sumOf kw_1111 kw_1112 kw_51 (ctX11_sumOf_4 hSo hSc hI hS) rfl rfl (by decide) (Nat.le_of_ble_eq_true rfl) (by decide) (fun r_63 M_63 h_63 => ?_)
    obtain ⟨rfl, hS3⟩ := h_63
    have hI3 := pI_sub (pSum_G (k := 21) hT (lvE_G hT 4).1 (by omega)) hI
    have eN : pNot T n (lvE T n 4).1 (lvE T n 4).2 q = pCmp T n (lvE T n 4).1 (pSum T n (lvE T n 4).1 q) := by
      unfold pNot
      by_cases hb : q.1 = true
      · rw [if_pos hb, ((pSum_G (k := 21) hT (lvE_G hT 4).1 (by omega)) q hI.1).1 hb]; unfold pCmp; rw [if_pos hb]
      · rw [if_neg hb, if_neg (fun h => jb_0.mp c_6 ⟨bf hb, h⟩)]
    obtain ⟨q3, e3⟩ : ∃ z, z = pSum T n (lvE T n 4).1 q := ⟨_, rfl⟩
    rw [← e3] at hS3 hI3 eN
    refine j_aload_n (q := 67) C dX11_notOf_66 rfl rfl rfl ?_
    refine j_bipush (v := nI 60) (q := 69) C dX11_notOf_67 rfl (by decide) ?_
    refine jV1 jc11 (q := 72) C dX11_notOf_69 rfl hs11 mX11_isSign kw_1120 kw_1121 kw_54 (ctX11_isSign hS3 hI3.1 (s := 7) (by decide) rfl) rfl rfl (by decide) (Nat.le_of_ble_eq_true rfl) (by decide) ?_
    refine j_if_ne (q := 75) (tgt := 84) C dX11_notOf_72 rfl (by decide) (fun c_72 => ?_) (fun c_72 => ?_)
    · have hk := jb_n.mp c_72
      have hq3 := hk.1
      have ho : oCmp (tk T n q3.2.1) = some 2000002 := by rw [hk.2]; rfl
      obtain ⟨a1, a2, a3, a4⟩ := pI_step (c := 2000002) (pSum_G (k := 21) hT (lvE_G hT 4).1 (by omega)) hq3 (by rw [hk.2]; decide) hI3
      have hS0 := hS3
      obtain ⟨K, b, c, d, g, hQ, hG⟩ := hS0
      obtain ⟨rfl, rfl, hd, rfl, hK⟩ := hG hq3
      refine j_aload_n (q := 85) C dX11_notOf_84 rfl rfl rfl ?_
      refine j_bipush (v := nI 60) (q := 87) C dX11_notOf_85 rfl (by decide) ?_
      refine jV1 jc11 (q := 90) C dX11_notOf_87 rfl hs11 mX11_isSign kw_1120 kw_1121 kw_54 (ctX11_isSign hS3 hI3.1 (s := 7) (by decide) rfl) rfl rfl (by decide) (Nat.le_of_ble_eq_true rfl) (by decide) ?_
      refine j_if_eq (q := 93) (tgt := 98) C dX11_notOf_90 rfl (by decide) (fun c_90 => absurd c_90 c_72) (fun c_90 => ?_)
      refine j_ldc (q := 95) C dX11_notOf_93 rfl kw_1127 ?_
      refine j_goto (tgt := 100) C dX11_notOf_95 (by decide) ?_
      refine j_istore_n (lv' := [(1, _), (0, _)]) (q := 101) C dX11_notOf_100 rfl rfl (by decide) rfl ?_
      refine j_aload_n (q := 102) C dX11_notOf_101 rfl rfl rfl ?_
      refine jVT jc11 (q := 105) C dX11_notOf_102 rfl hs11 mX11_next kw_1024 kw_1025 kw_41 (ctX11_next hSo (x := tt T n q3.2.1) (tt_n (T := T) hI3.1).1 hQ) rfl rfl (by decide) (Nat.le_of_ble_eq_true rfl) (by decide) (fun r_102 M_102 h_102 => ?_)
      obtain ⟨rfl, hN⟩ := h_102
      have hS4 := rSt_nx hq3 hN hK
      refine j_aload_n (q := 106) C dX11_notOf_105 rfl rfl rfl ?_
      refine jVT jc11 (q := 109) C dX11_notOf_106 rfl hs11 mX11_sumOf kw_1111 kw_1112 kw_51 (ctX11_sumOf_4 hSo hSc a1 hS4) rfl rfl (by decide) (Nat.le_of_ble_eq_true rfl) (by decide) (fun r_106 M_106 h_106 => ?_)
      obtain ⟨rfl, hS5⟩ := h_106
      refine j_aload_n (q := 110) C dX11_notOf_109 rfl rfl rfl ?_
      refine j_iload_n (q := 111) C dX11_notOf_110 rfl rfl rfl ?_
      refine j_top (v' := .int (nI 2000002)) (by rfl) ?_
      refine jVT jc11 (q := 114) C dX11_notOf_111 rfl hs11 mX11_codes kw_1108 kw_1109 kw_50 (ctX11_codes hSo hSc hS5 (pI_l hn160 a2) (k := 2000002)) rfl rfl (by decide) (Nat.le_of_ble_eq_true rfl) (by decide) (fun r_111 M_111 h_111 => ?_)
      obtain ⟨rfl, hS6⟩ := h_111
      exact j_vret C E dX11_notOf_114 rfl rfl (⟨rfl, rfl, rfl, by rw [eN]; unfold pCmp; rw [if_neg (by rw [hq3]; decide), ho]; exact hS6⟩)
    · refine j_aload_n (q := 76) C dX11_notOf_75 rfl rfl rfl ?_
      refine j_bipush (v := nI 61) (q := 78) C dX11_notOf_76 rfl (by decide) ?_
      refine jV1 jc11 (q := 81) C dX11_notOf_78 rfl hs11 mX11_isSign kw_1120 kw_1121 kw_54 (ctX11_isSign hS3 hI3.1 (s := 8) (by decide) rfl) rfl rfl (by decide) (Nat.le_of_ble_eq_true rfl) (by decide) ?_
      refine j_if_eq (q := 84) (tgt := 114) C dX11_notOf_81 rfl (by decide) (fun c_81 => ?_) (fun c_81 => ?_)
      · exact j_vret C E dX11_notOf_114 rfl rfl (⟨rfl, rfl, rfl, by
            rw [eN]; unfold pCmp
            by_cases hb : q3.1 = true
            · rw [if_pos hb]; exact hS3
            · have ho : oCmp (tk T n q3.2.1) = none := by unfold oCmp; rw [if_neg (fun h => jb_0.mp c_72 ⟨bf hb, h⟩), if_neg (fun h => jb_0.mp c_81 ⟨bf hb, h⟩)]
              rw [if_neg hb, ho]; exact hS3⟩)
      · have hk := jb_n.mp c_81
        have hq3 := hk.1
        have ho : oCmp (tk T n q3.2.1) = some 2000003 := by rw [hk.2]; rfl
        obtain ⟨a1, a2, a3, a4⟩ := pI_step (c := 2000003) (pSum_G (k := 21) hT (lvE_G hT 4).1 (by omega)) hq3 (by rw [hk.2]; decide) hI3
        have hS0 := hS3
        obtain ⟨K, b, c, d, g, hQ, hG⟩ := hS0
        obtain ⟨rfl, rfl, hd, rfl, hK⟩ := hG hq3
        refine j_aload_n (q := 85) C dX11_notOf_84 rfl rfl rfl ?_
        refine j_bipush (v := nI 60) (q := 87) C dX11_notOf_85 rfl (by decide) ?_
        refine jV1 jc11 (q := 90) C dX11_notOf_87 rfl hs11 mX11_isSign kw_1120 kw_1121 kw_54 (ctX11_isSign hS3 hI3.1 (s := 7) (by decide) rfl) rfl rfl (by decide) (Nat.le_of_ble_eq_true rfl) (by decide) ?_
        refine j_if_eq (q := 93) (tgt := 98) C dX11_notOf_90 rfl (by decide) (fun c_90 => ?_) (fun c_90 => absurd c_72 c_90)
        refine j_ldc (q := 100) C dX11_notOf_98 rfl kw_1128 ?_
        refine j_istore_n (lv' := [(1, _), (0, _)]) (q := 101) C dX11_notOf_100 rfl rfl (by decide) rfl ?_
        refine j_aload_n (q := 102) C dX11_notOf_101 rfl rfl rfl ?_
        refine jVT jc11 (q := 105) C dX11_notOf_102 rfl hs11 mX11_next kw_1024 kw_1025 kw_41 (ctX11_next hSo (x := tt T n q3.2.1) (tt_n (T := T) hI3.1).1 hQ) rfl rfl (by decide) (Nat.le_of_ble_eq_true rfl) (by decide) (fun r_102 M_102 h_102 => ?_)
        obtain ⟨rfl, hN⟩ := h_102
        have hS4 := rSt_nx hq3 hN hK
        refine j_aload_n (q := 106) C dX11_notOf_105 rfl rfl rfl ?_
        refine jVT jc11 (q := 109) C dX11_notOf_106 rfl hs11 mX11_sumOf kw_1111 kw_1112 kw_51 (ctX11_sumOf_4 hSo hSc a1 hS4) rfl rfl (by decide) (Nat.le_of_ble_eq_true rfl) (by decide) (fun r_106 M_106 h_106 => ?_)
        obtain ⟨rfl, hS5⟩ := h_106
        refine j_aload_n (q := 110) C dX11_notOf_109 rfl rfl rfl ?_
        refine j_iload_n (q := 111) C dX11_notOf_110 rfl rfl rfl ?_
        refine j_top (v' := .int (nI 2000003)) (by rfl) ?_
        refine jVT jc11 (q := 114) C dX11_notOf_111 rfl hs11 mX11_codes kw_1108 kw_1109 kw_50 (ctX11_codes hSo hSc hS5 (pI_l hn160 a2) (k := 2000003)) rfl rfl (by decide) (Nat.le_of_ble_eq_true rfl) (by decide) (fun r_111 M_111 h_111 => ?_)
        obtain ⟨rfl, hS6⟩ := h_111
        exact j_vret C E dX11_notOf_114 rfl rfl (⟨rfl, rfl, rfl, by rw [eN]; unfold pCmp; rw [if_neg (by rw [hq3]; decide), ho]; exact hS6⟩)
  · have hk := jb_n.mp c_6
    have hq := hk.1
    obtain ⟨rfl, rfl, hd, rfl, hK⟩ := hG hq
    refine j_aload_n (q := 10) C dX11_notOf_9 rfl rfl rfl ?_
    refine j_aload_n (q := 11) C dX11_notOf_10 rfl rfl rfl ?_
    refine qg_deep hQ (q' := 14) C dX11_notOf_11 rfl kw_886 ?_
    refine j_iconst (v := nI 4) (q := 15) C dX11_notOf_14 rfl (by decide) ?_
    refine j_icmp_ne (q := 18) (tgt := 22) C dX11_notOf_15 rfl (by decide) (fun c_15 => ?_) (fun c_15 => absurd c_15 (by decide))
    refine j_iconst (v := nI 0) (q := 23) C dX11_notOf_22 rfl (by decide) ?_
    refine qp_isFault hSo hQ (by first | exact Or.inl rfl | exact Or.inr rfl) (q' := 26) C dX11_notOf_23 rfl kw_885 (fun M hQ => ?_)
    refine j_aload_n (q := 27) C dX11_notOf_26 rfl rfl rfl ?_
    refine j_dup (q := 28) C dX11_notOf_27 rfl rfl ?_
    refine qg_deep hQ (q' := 31) C dX11_notOf_28 rfl kw_886 ?_
    refine j_iconst (v := nI 1) (q := 32) C dX11_notOf_31 rfl (by decide) ?_
    first | refine j_iaddN (q := 33) C dX11_notOf_32 rfl ?_ | refine j_iadd (q := 33) C dX11_notOf_32 rfl ?_
    refine qp_deep hSo hQ (q' := 36) C dX11_notOf_33 rfl kw_886 (fun M hQ => ?_)
    have hS1 : rSt S o Sh T n M0 1 P M q := ⟨K, _, _, _, _, by rw [jb_f (by rw [hq]; decide)]; exact hQ, fun _ => ⟨rfl, rfl, hd, rfl, hK⟩⟩
    refine j_aload_n (q := 37) C dX11_notOf_36 rfl rfl rfl ?_
    refine j_iconst (v := nI 1) (q := 38) C dX11_notOf_37 rfl (by decide) ?_
    refine jVT jc11 (q := 41) C dX11_notOf_38 rfl hs11 mX11_need kw_1096 kw_1097 kw_46 (ctX11_need hSo hS1 hI.1 (p := True) (jb_t trivial).symm) rfl rfl (by decide) (Nat.le_of_ble_eq_true rfl) (by decide) (fun r_38 M_38 h_38 => ?_)
    obtain ⟨rfl, hS2⟩ := h_38
    rw [if_neg (by rw [hq]; decide), if_pos trivial] at hS2
    have hI2 := (pI_nx (T := T) hq (by rw [hk.2]; decide) hI).1
    refine j_aload_n (q := 42) C dX11_notOf_41 rfl rfl rfl ?_
    refine jVT jc11 (q := 45) C dX11_notOf_42 rfl hs11 mX11_notOf kw_1105 kw_1106 kw_49 (ctX11_notOf_3 hSo hSc hI2 hS2) rfl rfl (by decide) (Nat.le_of_ble_eq_true rfl) (by decide) (fun r_42 M_42 h_42 => ?_)
    obtain ⟨rfl, hS3⟩ := h_42
    have hI3 := pI_sub (pNot_G (k := 16) hT (lvE_G hT 3).1 (lvE_G hT 3).2 (by omega)) hI2
    obtain ⟨q3, e3⟩ : ∃ z, z = (pNot T n (lvE T n 3).1 (lvE T n 3).2 (pNx T n q)) := ⟨_, rfl⟩
    rw [← e3] at hS3 hI3
    obtain ⟨K3, b3, c3, d3, g3, hQ, hG3⟩ := hS3
    refine j_aload_n (q := 46) C dX11_notOf_45 rfl rfl rfl ?_
    refine j_dup (q := 47) C dX11_notOf_46 rfl rfl ?_
    refine qg_deep hQ (q' := 50) C dX11_notOf_47 rfl kw_886 ?_
    refine j_iconst (v := nI 1) (q := 51) C dX11_notOf_50 rfl (by decide) ?_
    refine j_isub (q := 52) C dX11_notOf_51 rfl ?_
    refine j_top (v' := .int (nI 0)) (by rfl) ?_
    refine qp_deep hSo hQ (q' := 55) C dX11_notOf_52 rfl kw_886 (fun M hQ => ?_)
    have hS4 : rSt S o Sh T n M0 0 P M q3 := ⟨K3, b3, c3, d3, g3, hQ, hG3⟩
    refine j_aload_n (q := 56) C dX11_notOf_55 rfl rfl rfl ?_
    refine j_ldc (q := 58) C dX11_notOf_56 rfl kw_984 ?_
    refine j_top (v' := .int (nI 2000008)) (by rfl) ?_
    refine jVT jc11 (q := 61) C dX11_notOf_58 rfl hs11 mX11_codes kw_1108 kw_1109 kw_50 (ctX11_codes hSo hSc hS4 (pI_l hn160 hI3) (k := 2000008)) rfl rfl (by decide) (Nat.le_of_ble_eq_true rfl) (by decide) (fun r_58 M_58 h_58 => ?_)
    obtain ⟨rfl, hS5⟩ := h_58
    exact j_vret C E dX11_notOf_61 rfl rfl (⟨rfl, rfl, rfl, by rw [show pNot T n (lvE T n 4).1 (lvE T n 4).2 q = pEm 2000008 q3 by unfold pNot; rw [if_neg (by rw [hq]; decide), if_pos hk.2, e3]; rfl]; exact hS5⟩)

set_option maxRecDepth 100000 in
set_option maxHeartbeats 4000000 in
theorem ctX11_both_4 {G : jG} {sz : Nat} {Sh : jS} {M : jM} {o : Nat} {S : Nat → Prop} {T : Nat → Nat} {n : Nat} {M0 : jM} {P : List Nat} {q : pS} (hSo : S o) (hSc : S (o + 10)) (hI : pI n P q) (hS : rSt S o Sh T n M0 0 P M q) : jC G yX11_both cX11_both 1 (Option.none : Option FieldType) (jrm 48 0 0) sz Sh M [.ref o] (jT sz Sh (fun r M1 => r = none ∧ rSt S o Sh T n M0 0 P M1 (pAnd T n (lvE T n 4).1 (lvE T n 4).2 q))) := by
  refine jC_start (by decide +kernel) (Nat.le_of_ble_eq_true rfl) (fun X C E hN0 => ?_)
  have hs11 := (rSt_lay hS).1.1.1
  have hn160 : n ≤ 160 := (rSt_lay hS).2.2.1
  have hT := (rSt_lay hS).2.2.2.1
  obtain ⟨Q, eQ⟩ : ∃ z, z = pAnd T n (lvE T n 4).1 (lvE T n 4).2 q := ⟨_, rfl⟩
  rw [← eQ] at E
  have loop4 : ∀ (f : Nat) (q : pS) (M : jM), pI n P q → (q.1 = false → n + 1 ≤ q.2.1 + f) → pLp T n oAnd (pNot T n (lvE T n 4).1 (lvE T n 4).2) f q = Q → rSt S o Sh T n M0 0 P M q → jJ G X 0 0 sz Sh M 4 [(0, .ref o)] [] := by
    intro f
    induction f with
    | zero =>
      intro q M hI hf hQe hS
      have hqb : q.1 = true := by
        cases h : q.1 with
        | true => rfl
        | false => have := hf h; have := hI.1; omega
      refine j_aload_n (q := 5) C dX11_both_4 rfl rfl rfl ?_
      refine j_bipush (v := nI 50) (q := 7) C dX11_both_5 rfl (by decide) ?_
      refine jV1 jc11 (q := 10) C dX11_both_7 rfl hs11 mX11_isWord kw_1093 kw_1094 kw_45 (ctX11_isWord hS (s := 10) (by decide) rfl) rfl rfl (by decide) (Nat.le_of_ble_eq_true rfl) (by decide) ?_
      refine j_if_eq (q := 13) (tgt := 30) C dX11_both_10 rfl (by decide) (fun c_10 => ?_) (fun c_10 => absurd (jb_0.mpr (fun h => by rw [hqb] at h; cases h.1)) c_10)
      exact j_vret C E dX11_both_30 rfl rfl (⟨rfl, rfl, rfl, by rw [← hQe]; exact hS⟩)
    | succ f ih =>
      intro q M hI hf hQe hS
      refine j_aload_n (q := 5) C dX11_both_4 rfl rfl rfl ?_
      refine j_bipush (v := nI 50) (q := 7) C dX11_both_5 rfl (by decide) ?_
      refine jV1 jc11 (q := 10) C dX11_both_7 rfl hs11 mX11_isWord kw_1093 kw_1094 kw_45 (ctX11_isWord hS (s := 10) (by decide) rfl) rfl rfl (by decide) (Nat.le_of_ble_eq_true rfl) (by decide) ?_
      refine j_if_eq (q := 13) (tgt := 30) C dX11_both_10 rfl (by decide) (fun c_10 => ?_) (fun c_10 => ?_)
      · exact j_vret C E dX11_both_30 rfl rfl (⟨rfl, rfl, rfl, by
              have e : pLp T n oAnd (pNot T n (lvE T n 4).1 (lvE T n 4).2) (f + 1) q = q := by
                by_cases hb : q.1 = true
                · exact pLp_bad hb _
                · have ho : oAnd (tk T n q.2.1) = none := by unfold oAnd; rw [if_neg (fun h => jb_0.mp c_10 ⟨bf hb, h⟩)]
                  rw [pLp, if_neg hb, ho]
              rw [← hQe, e]; exact hS⟩)
      · have hk := jb_n.mp c_10
        have hq := hk.1
        have ho : oAnd (tk T n q.2.1) = some 2000001 := by rw [hk.2]; rfl
        obtain ⟨a1, a2, a3, a4⟩ := pI_step (c := 2000001) (pNot_G (k := 21) hT (lvE_G hT 4).1 (lvE_G hT 4).2 (by omega)) hq (by rw [hk.2]; decide) hI
        have hS0 := hS
        obtain ⟨K, b, c, d, g, hQ, hG⟩ := hS0
        obtain ⟨rfl, rfl, hd, rfl, hK⟩ := hG hq
        refine j_aload_n (q := 14) C dX11_both_13 rfl rfl rfl ?_
        refine jVT jc11 (q := 17) C dX11_both_14 rfl hs11 mX11_next kw_1024 kw_1025 kw_41 (ctX11_next hSo (x := tt T n q.2.1) (tt_n (T := T) hI.1).1 hQ) rfl rfl (by decide) (Nat.le_of_ble_eq_true rfl) (by decide) (fun r_14 M_14 h_14 => ?_)
        obtain ⟨rfl, hN⟩ := h_14
        have hS1 := rSt_nx hq hN hK
        refine j_aload_n (q := 18) C dX11_both_17 rfl rfl rfl ?_
        refine jVT jc11 (q := 21) C dX11_both_18 rfl hs11 mX11_notOf kw_1105 kw_1106 kw_49 (ctX11_notOf_4 hSo hSc a1 hS1) rfl rfl (by decide) (Nat.le_of_ble_eq_true rfl) (by decide) (fun r_18 M_18 h_18 => ?_)
        obtain ⟨rfl, hS2⟩ := h_18
        refine j_aload_n (q := 22) C dX11_both_21 rfl rfl rfl ?_
        refine j_ldc (q := 24) C dX11_both_22 rfl kw_1129 ?_
        refine j_top (v' := .int (nI 2000001)) (by rfl) ?_
        refine jVT jc11 (q := 27) C dX11_both_24 rfl hs11 mX11_codes kw_1108 kw_1109 kw_50 (ctX11_codes hSo hSc hS2 (pI_l hn160 a2) (k := 2000001)) rfl rfl (by decide) (Nat.le_of_ble_eq_true rfl) (by decide) (fun r_24 M_24 h_24 => ?_)
        obtain ⟨rfl, hS3⟩ := h_24
        refine j_goto (tgt := 4) C dX11_both_27 (by decide) ?_
        exact ih _ M_24 a3 (fun _ => by have := hf hq; omega) (by rw [← hQe, pLp, if_neg (by rw [hq]; decide), ho]) hS3
  refine j_aload_n (q := 1) C dX11_both_0 rfl rfl rfl ?_
  refine jVT jc11 (q := 4) C dX11_both_1 rfl hs11 mX11_notOf kw_1105 kw_1106 kw_49 (ctX11_notOf_4 hSo hSc hI hS) rfl rfl (by decide) (Nat.le_of_ble_eq_true rfl) (by decide) (fun r_1 M_1 h_1 => ?_)
  obtain ⟨rfl, hS1⟩ := h_1
  exact loop4 160 _ M_1 (pI_sub (pNot_G (k := 21) hT (lvE_G hT 4).1 (lvE_G hT 4).2 (by omega)) hI) (fun hf => by have := (((pNot_G (k := 21) hT (lvE_G hT 4).1 (lvE_G hT 4).2 (by omega)) q hI.1).2.2.2 hf).2.1; omega) (by rw [eQ]; unfold pAnd; rfl) hS1

set_option maxRecDepth 100000 in
set_option maxHeartbeats 4000000 in
theorem ctX11_either_4 {G : jG} {sz : Nat} {Sh : jS} {M : jM} {o : Nat} {S : Nat → Prop} {T : Nat → Nat} {n : Nat} {M0 : jM} {P : List Nat} {q : pS} (hSo : S o) (hSc : S (o + 10)) (hI : pI n P q) (hS : rSt S o Sh T n M0 0 P M q) : jC G yX11_either cX11_either 1 (Option.none : Option FieldType) (jrm 49 0 0) sz Sh M [.ref o] (jT sz Sh (fun r M1 => r = none ∧ rSt S o Sh T n M0 0 P M1 (pOr T n (lvE T n 4).1 (lvE T n 4).2 q))) := by
  refine jC_start (by decide +kernel) (Nat.le_of_ble_eq_true rfl) (fun X C E hN0 => ?_)
  have hs11 := (rSt_lay hS).1.1.1
  have hn160 : n ≤ 160 := (rSt_lay hS).2.2.1
  have hT := (rSt_lay hS).2.2.2.1
  obtain ⟨Q, eQ⟩ : ∃ z, z = pOr T n (lvE T n 4).1 (lvE T n 4).2 q := ⟨_, rfl⟩
  rw [← eQ] at E
  have loop4 : ∀ (f : Nat) (q : pS) (M : jM), pI n P q → (q.1 = false → n + 1 ≤ q.2.1 + f) → pLp T n oOr (pAnd T n (lvE T n 4).1 (lvE T n 4).2) f q = Q → rSt S o Sh T n M0 0 P M q → jJ G X 0 0 sz Sh M 4 [(0, .ref o)] [] := by
    intro f
    induction f with
    | zero =>
      intro q M hI hf hQe hS
      have hqb : q.1 = true := by
        cases h : q.1 with
        | true => rfl
        | false => have := hf h; have := hI.1; omega
      refine j_aload_n (q := 5) C dX11_either_4 rfl rfl rfl ?_
      refine j_bipush (v := nI 54) (q := 7) C dX11_either_5 rfl (by decide) ?_
      refine jV1 jc11 (q := 10) C dX11_either_7 rfl hs11 mX11_isWord kw_1093 kw_1094 kw_45 (ctX11_isWord hS (s := 11) (by decide) rfl) rfl rfl (by decide) (Nat.le_of_ble_eq_true rfl) (by decide) ?_
      refine j_if_eq (q := 13) (tgt := 30) C dX11_either_10 rfl (by decide) (fun c_10 => ?_) (fun c_10 => absurd (jb_0.mpr (fun h => by rw [hqb] at h; cases h.1)) c_10)
      exact j_vret C E dX11_either_30 rfl rfl (⟨rfl, rfl, rfl, by rw [← hQe]; exact hS⟩)
    | succ f ih =>
      intro q M hI hf hQe hS
      refine j_aload_n (q := 5) C dX11_either_4 rfl rfl rfl ?_
      refine j_bipush (v := nI 54) (q := 7) C dX11_either_5 rfl (by decide) ?_
      refine jV1 jc11 (q := 10) C dX11_either_7 rfl hs11 mX11_isWord kw_1093 kw_1094 kw_45 (ctX11_isWord hS (s := 11) (by decide) rfl) rfl rfl (by decide) (Nat.le_of_ble_eq_true rfl) (by decide) ?_
      refine j_if_eq (q := 13) (tgt := 30) C dX11_either_10 rfl (by decide) (fun c_10 => ?_) (fun c_10 => ?_)
      · exact j_vret C E dX11_either_30 rfl rfl (⟨rfl, rfl, rfl, by
              have e : pLp T n oOr (pAnd T n (lvE T n 4).1 (lvE T n 4).2) (f + 1) q = q := by
                by_cases hb : q.1 = true
                · exact pLp_bad hb _
                · have ho : oOr (tk T n q.2.1) = none := by unfold oOr; rw [if_neg (fun h => jb_0.mp c_10 ⟨bf hb, h⟩)]
                  rw [pLp, if_neg hb, ho]
              rw [← hQe, e]; exact hS⟩)
      · have hk := jb_n.mp c_10
        have hq := hk.1
        have ho : oOr (tk T n q.2.1) = some 2000000 := by rw [hk.2]; rfl
        obtain ⟨a1, a2, a3, a4⟩ := pI_step (c := 2000000) (pAnd_G (k := 21) hT (lvE_G hT 4).1 (lvE_G hT 4).2 (by omega)) hq (by rw [hk.2]; decide) hI
        have hS0 := hS
        obtain ⟨K, b, c, d, g, hQ, hG⟩ := hS0
        obtain ⟨rfl, rfl, hd, rfl, hK⟩ := hG hq
        refine j_aload_n (q := 14) C dX11_either_13 rfl rfl rfl ?_
        refine jVT jc11 (q := 17) C dX11_either_14 rfl hs11 mX11_next kw_1024 kw_1025 kw_41 (ctX11_next hSo (x := tt T n q.2.1) (tt_n (T := T) hI.1).1 hQ) rfl rfl (by decide) (Nat.le_of_ble_eq_true rfl) (by decide) (fun r_14 M_14 h_14 => ?_)
        obtain ⟨rfl, hN⟩ := h_14
        have hS1 := rSt_nx hq hN hK
        refine j_aload_n (q := 18) C dX11_either_17 rfl rfl rfl ?_
        refine jVT jc11 (q := 21) C dX11_either_18 rfl hs11 mX11_both kw_1102 kw_1103 kw_48 (ctX11_both_4 hSo hSc a1 hS1) rfl rfl (by decide) (Nat.le_of_ble_eq_true rfl) (by decide) (fun r_18 M_18 h_18 => ?_)
        obtain ⟨rfl, hS2⟩ := h_18
        refine j_aload_n (q := 22) C dX11_either_21 rfl rfl rfl ?_
        refine j_ldc (q := 24) C dX11_either_22 rfl kw_978 ?_
        refine j_top (v' := .int (nI 2000000)) (by rfl) ?_
        refine jVT jc11 (q := 27) C dX11_either_24 rfl hs11 mX11_codes kw_1108 kw_1109 kw_50 (ctX11_codes hSo hSc hS2 (pI_l hn160 a2) (k := 2000000)) rfl rfl (by decide) (Nat.le_of_ble_eq_true rfl) (by decide) (fun r_24 M_24 h_24 => ?_)
        obtain ⟨rfl, hS3⟩ := h_24
        refine j_goto (tgt := 4) C dX11_either_27 (by decide) ?_
        exact ih _ M_24 a3 (fun _ => by have := hf hq; omega) (by rw [← hQe, pLp, if_neg (by rw [hq]; decide), ho]) hS3
  refine j_aload_n (q := 1) C dX11_either_0 rfl rfl rfl ?_
  refine jVT jc11 (q := 4) C dX11_either_1 rfl hs11 mX11_both kw_1102 kw_1103 kw_48 (ctX11_both_4 hSo hSc hI hS) rfl rfl (by decide) (Nat.le_of_ble_eq_true rfl) (by decide) (fun r_1 M_1 h_1 => ?_)
  obtain ⟨rfl, hS1⟩ := h_1
  exact loop4 160 _ M_1 (pI_sub (pAnd_G (k := 21) hT (lvE_G hT 4).1 (lvE_G hT 4).2 (by omega)) hI) (fun hf => by have := (((pAnd_G (k := 21) hT (lvE_G hT 4).1 (lvE_G hT 4).2 (by omega)) q hI.1).2.2.2 hf).2.1; omega) (by rw [eQ]; unfold pOr; rfl) hS1

