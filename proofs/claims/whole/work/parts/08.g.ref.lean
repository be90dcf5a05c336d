set_option maxRecDepth 100000 in
set_option maxHeartbeats 4000000 in
theorem ctX11_copy {G : jG} {sz : Nat} {Sh : jS} {M : jM} {o : Nat} {N : Nat → Int64} (hR : rLay o Sh M) {s f t u n w1 w2 z1 z2 : Int32} (hw1 : okW s 3 → okW t 3 → M.1 (o + 7) s.toNatClampNeg = w1 ∧ M.1 (o + 8) s.toNatClampNeg = z1 ∧ ∃ m, m ≤ 20 ∧ z1 = nI m) (hw2 : okW s 3 → okW t 3 → M.1 (o + 7) t.toNatClampNeg = w2 ∧ M.1 (o + 8) t.toNatClampNeg = z2 ∧ ∃ m, m ≤ 20 ∧ z2 = nI m) : jC G yX11_copy cX11_copy 7 (Option.some FieldType.long) (jrm 3 0 0) sz Sh (jw M (o + 1) N) [.ref o, .int s, .int f, .int t, .int u, .int n] (jT sz Sh (eX o M N (eCopy w1 w2 z1 z2 s f t u n) (fun r M2 => r = some (.long n.toInt64) ∧ ∃ Mx, M2 = jw Mx (o + 1) N ∧ mEq (fun b => b = o + 9 ∨ b = o + 14) M Mx ∧ ∀ j, Mx.1 (o + 9) j = if 20 * t.toNatClampNeg + u.toNatClampNeg ≤ j ∧ j < 20 * t.toNatClampNeg + u.toNatClampNeg + n.toNatClampNeg then M.1 (o + 9) (20 * s.toNatClampNeg + f.toNatClampNeg + (j - (20 * t.toNatClampNeg + u.toNatClampNeg))) else M.1 (o + 9) j))) := by
  refine jC_start (by decide +kernel) (Nat.le_of_ble_eq_true rfl) (fun X C E hN0 => ?_)
  refine j_iload_n (q := 1) C dX11_copy_0 rfl rfl rfl ?_
  refine jS1 (q := 4) C dX11_copy_1 rfl mX11_isSheet kw_1231 kw_1232 ctX11_isSheet rfl rfl (by decide) (Nat.le_of_ble_eq_true rfl) (by decide) ?_
  refine j_if_eq (q := 7) (tgt := 14) C dX11_copy_4 rfl (by decide) (fun c_4 => ?_) (fun c_4 => ?_)
  · refine j_aload_n (q := 15) C dX11_copy_14 rfl rfl rfl ?_
    refine j_ldc (q := 17) C dX11_copy_15 rfl kw_903 ?_
    refine jV1 jc11 (q := 20) C dX11_copy_17 rfl hR.1.1 mX11_finding kw_904 kw_905 kw_28 (ctX11_finding hR) rfl rfl (by decide) (Nat.le_of_ble_eq_true rfl) (by decide) ?_
    first | refine j_i2lN (q := 21) C dX11_copy_20 rfl (by omega) ?_ | refine j_i2l (q := 21) C dX11_copy_20 rfl rfl ?_
    exact j_lret C E dX11_copy_21 rfl rfl (eX_b (if_neg (fun h => jb_0.mp c_4 h.1)) (by decide))
  · refine j_iload_n (q := 8) C dX11_copy_7 rfl rfl rfl ?_
    refine jS1 (q := 11) C dX11_copy_8 rfl mX11_isSheet kw_1231 kw_1232 ctX11_isSheet rfl rfl (by decide) (Nat.le_of_ble_eq_true rfl) (by decide) ?_
    refine j_if_ne (q := 14) (tgt := 22) C dX11_copy_11 rfl (by decide) (fun c_11 => ?_) (fun c_11 => ?_)
    · have hs3 : okW s 3 := jb_n.mp c_4
      obtain ⟨s1, hs1, rfl⟩ := jix2 (by omega) hs3.1 hs3.2
      have es : (nI s1).toNatClampNeg = s1 := nI_clamp (by omega)
      have ht3 : okW t 3 := jb_n.mp c_11
      obtain ⟨t1, ht1, rfl⟩ := jix2 (by omega) ht3.1 ht3.2
      have et : (nI t1).toNatClampNeg = t1 := nI_clamp (by omega)
      obtain ⟨a1, a2, m1, hm1, rfl⟩ := hw1 hs3 ht3
      obtain ⟨b1, b2, m2, hm2, rfl⟩ := hw2 hs3 ht3
      rw [es] at a1 a2
      rw [et] at b1 b2
      have em1 : (nI m1).toInt64 = lN m1 := nI_l (by omega)
      have em2 : (nI m2).toInt64 = lN m2 := nI_l (by omega)
      refine j_aload_n (q := 23) C dX11_copy_22 rfl rfl rfl ?_
      refine jg_Model_widths (q := 26) C dX11_copy_23 rfl hR.1.1 kw_878 hR.2.2.2.2.2.2.2.1 ?_
      refine j_iload_n (q := 27) C dX11_copy_26 rfl rfl rfl ?_
      refine j_iald (q := 28) C dX11_copy_27 rfl hR.1.2.2.2.2.2.2.2.1 (show s1 < 4 by omega) (by decide) ?_
      rw [show (jw M (o + 1) N).1 (o + 7) s1 = w1 from a1]
      refine j_if_eq (q := 31) (tgt := 40) C dX11_copy_28 rfl (by decide) (fun c_28 => ?_) (fun c_28 => ?_)
      · refine j_aload_n (q := 41) C dX11_copy_40 rfl rfl rfl ?_
        refine j_ldc_w (q := 44) C dX11_copy_41 rfl kw_1234 ?_
        refine jV1 jc11 (q := 47) C dX11_copy_44 rfl hR.1.1 mX11_finding kw_904 kw_905 kw_28 (ctX11_finding hR) rfl rfl (by decide) (Nat.le_of_ble_eq_true rfl) (by decide) ?_
        first | refine j_i2lN (q := 48) C dX11_copy_47 rfl (by omega) ?_ | refine j_i2l (q := 48) C dX11_copy_47 rfl rfl ?_
        exact j_lret C E dX11_copy_48 rfl rfl (eX_b (by unfold eCopy; rw [if_pos ⟨hs3, ht3⟩, if_pos (Or.inl c_28)]; rfl) (by decide))
      · refine j_aload_n (q := 32) C dX11_copy_31 rfl rfl rfl ?_
        refine jg_Model_widths (q := 35) C dX11_copy_32 rfl hR.1.1 kw_878 hR.2.2.2.2.2.2.2.1 ?_
        refine j_iload_n (q := 36) C dX11_copy_35 rfl rfl rfl ?_
        refine j_iald (q := 37) C dX11_copy_36 rfl hR.1.2.2.2.2.2.2.2.1 (show t1 < 4 by omega) (by decide) ?_
        rw [show (jw M (o + 1) N).1 (o + 7) t1 = w2 from b1]
        refine j_if_ne (q := 40) (tgt := 49) C dX11_copy_37 rfl (by decide) (fun c_37 => ?_) (fun c_37 => ?_)
        · refine j_aload_n (q := 50) C dX11_copy_49 rfl rfl rfl ?_
          refine jg_Model_widths (q := 53) C dX11_copy_50 rfl hR.1.1 kw_878 hR.2.2.2.2.2.2.2.1 ?_
          refine j_iload_n (q := 54) C dX11_copy_53 rfl rfl rfl ?_
          refine j_iald (q := 55) C dX11_copy_54 rfl hR.1.2.2.2.2.2.2.2.1 (show s1 < 4 by omega) (by decide) ?_
          rw [show (jw M (o + 1) N).1 (o + 7) s1 = w1 from a1]
          refine j_aload_n (q := 56) C dX11_copy_55 rfl rfl rfl ?_
          refine jg_Model_widths (q := 59) C dX11_copy_56 rfl hR.1.1 kw_878 hR.2.2.2.2.2.2.2.1 ?_
          refine j_iload_n (q := 60) C dX11_copy_59 rfl rfl rfl ?_
          refine j_iald (q := 61) C dX11_copy_60 rfl hR.1.2.2.2.2.2.2.2.1 (show t1 < 4 by omega) (by decide) ?_
          rw [show (jw M (o + 1) N).1 (o + 7) t1 = w2 from b1]
          refine j_icmp_eq (q := 64) (tgt := 72) C dX11_copy_61 rfl (by decide) (fun c_61 => ?_) (fun c_61 => ?_)
          · refine j_iload_n (q := 73) C dX11_copy_72 rfl rfl rfl ?_
            refine j_if_lt (q := 76) (tgt := 121) C dX11_copy_73 rfl (by decide) (fun c_73 => ?_) (fun c_73 => ?_)
            · refine j_aload_n (q := 122) C dX11_copy_121 rfl rfl rfl ?_
              refine j_ldc (q := 124) C dX11_copy_122 rfl kw_903 ?_
              refine jV1 jc11 (q := 127) C dX11_copy_124 rfl hR.1.1 mX11_finding kw_904 kw_905 kw_28 (ctX11_finding hR) rfl rfl (by decide) (Nat.le_of_ble_eq_true rfl) (by decide) ?_
              first | refine j_i2lN (q := 128) C dX11_copy_127 rfl (by omega) ?_ | refine j_i2l (q := 128) C dX11_copy_127 rfl rfl ?_
              exact j_lret C E dX11_copy_128 rfl rfl (eX_b (by unfold eCopy; rw [if_pos ⟨hs3, ht3⟩, if_neg (fun h => h.elim c_28 c_37), if_pos c_61, if_neg (fun h => h.1 c_73)]; rfl) (by decide))
            · refine j_iload (q := 78) C dX11_copy_76 rfl rfl ?_
              refine j_if_lt (q := 81) (tgt := 121) C dX11_copy_78 rfl (by decide) (fun c_78 => ?_) (fun c_78 => ?_)
              · refine j_aload_n (q := 122) C dX11_copy_121 rfl rfl rfl ?_
                refine j_ldc (q := 124) C dX11_copy_122 rfl kw_903 ?_
                refine jV1 jc11 (q := 127) C dX11_copy_124 rfl hR.1.1 mX11_finding kw_904 kw_905 kw_28 (ctX11_finding hR) rfl rfl (by decide) (Nat.le_of_ble_eq_true rfl) (by decide) ?_
                first | refine j_i2lN (q := 128) C dX11_copy_127 rfl (by omega) ?_ | refine j_i2l (q := 128) C dX11_copy_127 rfl rfl ?_
                exact j_lret C E dX11_copy_128 rfl rfl (eX_b (by unfold eCopy; rw [if_pos ⟨hs3, ht3⟩, if_neg (fun h => h.elim c_28 c_37), if_pos c_61, if_neg (fun h => h.2.1 c_78)]; rfl) (by decide))
              · refine j_iload (q := 83) C dX11_copy_81 rfl rfl ?_
                refine j_if_lt (q := 86) (tgt := 121) C dX11_copy_83 rfl (by decide) (fun c_83 => ?_) (fun c_83 => ?_)
                · refine j_aload_n (q := 122) C dX11_copy_121 rfl rfl rfl ?_
                  refine j_ldc (q := 124) C dX11_copy_122 rfl kw_903 ?_
                  refine jV1 jc11 (q := 127) C dX11_copy_124 rfl hR.1.1 mX11_finding kw_904 kw_905 kw_28 (ctX11_finding hR) rfl rfl (by decide) (Nat.le_of_ble_eq_true rfl) (by decide) ?_
                  first | refine j_i2lN (q := 128) C dX11_copy_127 rfl (by omega) ?_ | refine j_i2l (q := 128) C dX11_copy_127 rfl rfl ?_
                  exact j_lret C E dX11_copy_128 rfl rfl (eX_b (by unfold eCopy; rw [if_pos ⟨hs3, ht3⟩, if_neg (fun h => h.elim c_28 c_37), if_pos c_61, if_neg (fun h => h.2.2.1 c_83)]; rfl) (by decide))
                · refine j_iload_n (q := 87) C dX11_copy_86 rfl rfl rfl ?_
                  first | refine j_i2lN (q := 88) C dX11_copy_87 rfl (by omega) ?_ | refine j_i2l (q := 88) C dX11_copy_87 rfl rfl ?_
                  refine j_iload (q := 90) C dX11_copy_88 rfl rfl ?_
                  first | refine j_i2lN (q := 91) C dX11_copy_90 rfl (by omega) ?_ | refine j_i2l (q := 91) C dX11_copy_90 rfl rfl ?_
                  refine j_ladd (q := 92) C dX11_copy_91 rfl ?_
                  refine j_aload_n (q := 93) C dX11_copy_92 rfl rfl rfl ?_
                  refine jg_Model_sizes (q := 96) C dX11_copy_93 rfl hR.1.1 kw_879 hR.2.2.2.2.2.2.2.2.1 ?_
                  refine j_iload_n (q := 97) C dX11_copy_96 rfl rfl rfl ?_
                  refine j_iald (q := 98) C dX11_copy_97 rfl hR.1.2.2.2.2.2.2.2.2.1 (show s1 < 4 by omega) (by decide) ?_
                  rw [show (jw M (o + 1) N).1 (o + 8) s1 = nI m1 from a2]
                  first | refine j_i2lN (q := 99) C dX11_copy_98 rfl (by omega) ?_ | refine j_i2l (q := 99) C dX11_copy_98 rfl rfl ?_
                  refine j_lcmp_gt (q1 := 100) (q := 103) (tgt := 121) C dX11_copy_99 dX11_copy_100 rfl rfl (by decide) (fun c_100 => ?_) (fun c_100 => ?_)
                  · refine j_aload_n (q := 122) C dX11_copy_121 rfl rfl rfl ?_
                    refine j_ldc (q := 124) C dX11_copy_122 rfl kw_903 ?_
                    refine jV1 jc11 (q := 127) C dX11_copy_124 rfl hR.1.1 mX11_finding kw_904 kw_905 kw_28 (ctX11_finding hR) rfl rfl (by decide) (Nat.le_of_ble_eq_true rfl) (by decide) ?_
                    first | refine j_i2lN (q := 128) C dX11_copy_127 rfl (by omega) ?_ | refine j_i2l (q := 128) C dX11_copy_127 rfl rfl ?_
                    exact j_lret C E dX11_copy_128 rfl rfl (eX_b (by unfold eCopy; rw [if_pos ⟨hs3, ht3⟩, if_neg (fun h => h.elim c_28 c_37), if_pos c_61, if_neg (fun h => absurd (em1 ▸ h.2.2.2.1) (Int64.not_le.mpr c_100))]; rfl) (by decide))
                  · refine j_iload (q := 105) C dX11_copy_103 rfl rfl ?_
                    first | refine j_i2lN (q := 106) C dX11_copy_105 rfl (by omega) ?_ | refine j_i2l (q := 106) C dX11_copy_105 rfl rfl ?_
                    refine j_iload (q := 108) C dX11_copy_106 rfl rfl ?_
                    first | refine j_i2lN (q := 109) C dX11_copy_108 rfl (by omega) ?_ | refine j_i2l (q := 109) C dX11_copy_108 rfl rfl ?_
                    refine j_ladd (q := 110) C dX11_copy_109 rfl ?_
                    refine j_aload_n (q := 111) C dX11_copy_110 rfl rfl rfl ?_
                    refine jg_Model_sizes (q := 114) C dX11_copy_111 rfl hR.1.1 kw_879 hR.2.2.2.2.2.2.2.2.1 ?_
                    refine j_iload_n (q := 115) C dX11_copy_114 rfl rfl rfl ?_
                    refine j_iald (q := 116) C dX11_copy_115 rfl hR.1.2.2.2.2.2.2.2.2.1 (show t1 < 4 by omega) (by decide) ?_
                    rw [show (jw M (o + 1) N).1 (o + 8) t1 = nI m2 from b2]
                    first | refine j_i2lN (q := 117) C dX11_copy_116 rfl (by omega) ?_ | refine j_i2l (q := 117) C dX11_copy_116 rfl rfl ?_
                    refine j_lcmp_le (q1 := 118) (q := 121) (tgt := 129) C dX11_copy_117 dX11_copy_118 rfl rfl (by decide) (fun c_118 => ?_) (fun c_118 => ?_)
                    · obtain ⟨f, hf31, rfl⟩ := nI_of c_73
                      obtain ⟨u, hu31, rfl⟩ := nI_of c_78
                      obtain ⟨n, hn31, rfl⟩ := nI_of c_83
                      have hfn : f + n ≤ m1 := by
                        have h := Int64.not_lt.mp c_100
                        rw [nI_l hf31, nI_l hn31, lN_add, pk_lLE (by omega) (by omega)] at h
                        exact h
                      have hun : u + n ≤ m2 := by
                        have h := c_118
                        rw [nI_l hu31, nI_l hn31, lN_add, pk_lLE (by omega) (by omega)] at h
                        exact h
                      have hes : eCopy w1 w2 (nI m1) (nI m2) (nI s1) (nI f) (nI t1) (nI u) (nI n) = 0 := by
                        unfold eCopy; rw [if_pos ⟨hs3, ht3⟩, if_neg (fun h => h.elim c_28 c_37), if_pos c_61, if_pos ⟨c_73, c_78, c_83, Int64.not_lt.mp (by rw [em1]; exact c_100), by rw [em2]; exact c_118⟩]
                      have hR0 := hR
                      refine j_iconst (v := nI 0) (q := 130) C dX11_copy_129 rfl (by decide) ?_
                      refine j_istore (lv' := [(6, _), (0, _), (1, _), (2, _), (3, _), (4, _), (5, _)]) (q := 132) C dX11_copy_130 rfl (by decide) rfl ?_
                      have eF : (nI f).toNatClampNeg = f := nI_clamp hf31
                      have eU : (nI u).toNatClampNeg = u := nI_clamp hu31
                      have eN : (nI n).toNatClampNeg = n := nI_clamp hn31
                      have j169 : ∀ M0, mEq (fun b => b = o + 9 ∨ b = o + 14) M M0 → (∀ j, j < n → M0.1 (o + 14) j = M.1 (o + 9) (20 * s1 + f + j)) → M0.1 (o + 9) = M.1 (o + 9) → jJ G X 0 0 sz Sh (jw M0 (o + 1) N) 169 [(6, .int (nI 0)), (5, .int (nI n)), (4, .int (nI u)), (3, .int (nI t1)), (2, .int (nI f)), (1, .int (nI s1)), (0, .ref o)] [] := by
                        intro M0 hE0 h14 h9
                        have loop169 : ∀ (y k : Nat) (Mk : jM), mEq (fun b => b = o + 9 ∨ b = o + 14) M Mk → (∀ j, j < n → Mk.1 (o + 14) j = M.1 (o + 9) (20 * s1 + f + j)) → (∀ j, Mk.1 (o + 9) j = if 20 * t1 + u ≤ j ∧ j < 20 * t1 + u + k then M.1 (o + 9) (20 * s1 + f + (j - (20 * t1 + u))) else M.1 (o + 9) j) → k + y = n → jJ G X 0 0 sz Sh (jw Mk (o + 1) N) 169 [(6, .int (nI k)), (5, .int (nI n)), (4, .int (nI u)), (3, .int (nI t1)), (2, .int (nI f)), (1, .int (nI s1)), (0, .ref o)] [] := by
                          intro y
                          induction y with
                          | zero =>
                            intro k Mk hE h14 h9 hk
                            have hR : rLay o Sh Mk := by unfold rLay at hR0 ⊢; rw [hE.2.2]; exact hR0
                            refine j_iload (q := 171) C dX11_copy_169 rfl rfl ?_
                            refine j_iload (q := 173) C dX11_copy_171 rfl rfl ?_
                            refine j_icmp_ge (q := 176) (tgt := 204) C dX11_copy_173 rfl (by decide) (fun c_173 => ?_) (fun c_173 => absurd (nI_le (by omega) (by omega)) c_173)
                            obtain rfl : n = k := by omega
                            refine j_iload (q := 206) C dX11_copy_204 rfl rfl ?_
                            first | refine j_i2lN (q := 207) C dX11_copy_206 rfl (by omega) ?_ | refine j_i2l (q := 207) C dX11_copy_206 rfl rfl ?_
                            exact j_lret C E dX11_copy_207 rfl rfl (eX_o hes ⟨by rw [nI_l hn31], Mk, rfl, hE, by rw [es, et, eF, eU, eN]; exact h9⟩)
                          | succ y ih =>
                            intro k Mk hE h14 h9 hk
                            have hR : rLay o Sh Mk := by unfold rLay at hR0 ⊢; rw [hE.2.2]; exact hR0
                            refine j_iload (q := 171) C dX11_copy_169 rfl rfl ?_
                            refine j_iload (q := 173) C dX11_copy_171 rfl rfl ?_
                            refine j_icmp_ge (q := 176) (tgt := 204) C dX11_copy_173 rfl (by decide) (fun c_173 => absurd c_173 (fun h => absurd ((nI_leI (by omega) (by omega)).mp h) (by omega))) (fun c_173 => ?_)
                            refine j_aload_n (q := 177) C dX11_copy_176 rfl rfl rfl ?_
                            refine jg_Model_sheets (q := 180) C dX11_copy_177 rfl hR.1.1 kw_880 hR.2.2.2.2.2.2.2.2.2.1 ?_
                            refine j_bipush (v := nI 20) (q := 182) C dX11_copy_180 rfl (by decide) ?_
                            refine j_iload_n (q := 183) C dX11_copy_182 rfl rfl rfl ?_
                            first | refine j_imulN (q := 184) C dX11_copy_183 rfl ?_ | refine j_imul (q := 184) C dX11_copy_183 rfl ?_
                            refine j_iload (q := 186) C dX11_copy_184 rfl rfl ?_
                            first | refine j_iaddN (q := 187) C dX11_copy_186 rfl ?_ | refine j_iadd (q := 187) C dX11_copy_186 rfl ?_
                            refine j_iload (q := 189) C dX11_copy_187 rfl rfl ?_
                            first | refine j_iaddN (q := 190) C dX11_copy_189 rfl ?_ | refine j_iadd (q := 190) C dX11_copy_189 rfl ?_
                            refine j_aload_n (q := 191) C dX11_copy_190 rfl rfl rfl ?_
                            refine jg_Model_between (q := 194) C dX11_copy_191 rfl hR.1.1 kw_892 hR.2.2.2.2.2.2.2.2.2.2.2.2.2.2 ?_
                            refine j_iload (q := 196) C dX11_copy_194 rfl rfl ?_
                            refine j_iald (q := 197) C dX11_copy_196 rfl hR.1.2.2.2.2.2.2.2.2.2.2.2.2.2.2 (show k < 20 by omega) (by decide) ?_
                            rw [show (jw Mk (o + 1) N).1 (o + 14) k = M.1 (o + 9) (20 * s1 + f + k) from h14 k (by omega)]
                            refine j_iast (q := 198) C dX11_copy_197 rfl hR.1.2.2.2.2.2.2.2.2.2.1 (show 20 * t1 + u + k < 80 by omega) (by decide) ?_
                            first | refine j_iincN (lv' := [(6, _), (5, _), (4, _), (3, _), (2, _), (1, _), (0, _)]) (q := 201) C dX11_copy_198 rfl rfl (by decide) rfl ?_ | refine j_iinc (lv' := [(6, _), (5, _), (4, _), (3, _), (2, _), (1, _), (0, _)]) (q := 201) C dX11_copy_198 rfl rfl rfl (by decide) rfl ?_
                            refine j_goto (tgt := 169) C dX11_copy_201 (by decide) ?_
                            exact j_fewer (lv' := [(6, .int (nI (k + 1))), (5, .int (nI n)), (4, .int (nI u)), (3, .int (nI t1)), (2, .int (nI f)), (1, .int (nI s1)), (0, .ref o)]) (by simp) (ih (k + 1) (jsI Mk (o + 9) (20 * t1 + u + k) (M.1 (o + 9) (20 * s1 + f + k))) (hE.I (Or.inl rfl)) (fun j hj => by rw [upI (by omega)]; exact h14 j hj) (fun j => by
                              by_cases cj : j = 20 * t1 + u + k
                              · subst cj; rw [upIs, if_pos (by omega), show 20 * t1 + u + k - (20 * t1 + u) = k by omega]
                              · rw [upI (fun e => cj e.2), h9 j]
                                by_cases c1 : 20 * t1 + u ≤ j ∧ j < 20 * t1 + u + k
                                · rw [if_pos c1, if_pos (by omega)]
                                · rw [if_neg c1, if_neg (by omega)]) (by omega))
                        exact loop169 n 0 M0 hE0 h14 (fun j => by rw [if_neg (by omega), h9]) (by omega)
                      have loop132 : ∀ (y k : Nat) (Mk : jM), mEq (fun b => b = o + 9 ∨ b = o + 14) M Mk → (∀ j, j < k → Mk.1 (o + 14) j = M.1 (o + 9) (20 * s1 + f + j)) → Mk.1 (o + 9) = M.1 (o + 9) → k + y = n → jJ G X 0 0 sz Sh (jw Mk (o + 1) N) 132 [(6, .int (nI k)), (5, .int (nI n)), (4, .int (nI u)), (3, .int (nI t1)), (2, .int (nI f)), (1, .int (nI s1)), (0, .ref o)] [] := by
                        intro y
                        induction y with
                        | zero =>
                          intro k Mk hE h14 h9 hk
                          have hR : rLay o Sh Mk := by unfold rLay at hR0 ⊢; rw [hE.2.2]; exact hR0
                          refine j_iload (q := 134) C dX11_copy_132 rfl rfl ?_
                          refine j_iload (q := 136) C dX11_copy_134 rfl rfl ?_
                          refine j_icmp_ge (q := 139) (tgt := 166) C dX11_copy_136 rfl (by decide) (fun c_136 => ?_) (fun c_136 => absurd (nI_le (by omega) (by omega)) c_136)
                          obtain rfl : n = k := by omega
                          refine j_iconst (v := nI 0) (q := 167) C dX11_copy_166 rfl (by decide) ?_
                          refine j_istore (lv' := [(6, _), (5, _), (4, _), (3, _), (2, _), (1, _), (0, _)]) (q := 169) C dX11_copy_167 rfl (by decide) rfl ?_
                          exact j_fewer (lv' := [(6, .int (nI 0)), (5, .int (nI n)), (4, .int (nI u)), (3, .int (nI t1)), (2, .int (nI f)), (1, .int (nI s1)), (0, .ref o)]) (by simp) (j169 Mk hE h14 h9)
                        | succ y ih =>
                          intro k Mk hE h14 h9 hk
                          have hR : rLay o Sh Mk := by unfold rLay at hR0 ⊢; rw [hE.2.2]; exact hR0
                          refine j_iload (q := 134) C dX11_copy_132 rfl rfl ?_
                          refine j_iload (q := 136) C dX11_copy_134 rfl rfl ?_
                          refine j_icmp_ge (q := 139) (tgt := 166) C dX11_copy_136 rfl (by decide) (fun c_136 => absurd c_136 (fun h => absurd ((nI_leI (by omega) (by omega)).mp h) (by omega))) (fun c_136 => ?_)
                          refine j_aload_n (q := 140) C dX11_copy_139 rfl rfl rfl ?_
                          refine jg_Model_between (q := 143) C dX11_copy_140 rfl hR.1.1 kw_892 hR.2.2.2.2.2.2.2.2.2.2.2.2.2.2 ?_
                          refine j_iload (q := 145) C dX11_copy_143 rfl rfl ?_
                          refine j_aload_n (q := 146) C dX11_copy_145 rfl rfl rfl ?_
                          refine jg_Model_sheets (q := 149) C dX11_copy_146 rfl hR.1.1 kw_880 hR.2.2.2.2.2.2.2.2.2.1 ?_
                          refine j_bipush (v := nI 20) (q := 151) C dX11_copy_149 rfl (by decide) ?_
                          refine j_iload_n (q := 152) C dX11_copy_151 rfl rfl rfl ?_
                          first | refine j_imulN (q := 153) C dX11_copy_152 rfl ?_ | refine j_imul (q := 153) C dX11_copy_152 rfl ?_
                          refine j_iload_n (q := 154) C dX11_copy_153 rfl rfl rfl ?_
                          first | refine j_iaddN (q := 155) C dX11_copy_154 rfl ?_ | refine j_iadd (q := 155) C dX11_copy_154 rfl ?_
                          refine j_iload (q := 157) C dX11_copy_155 rfl rfl ?_
                          first | refine j_iaddN (q := 158) C dX11_copy_157 rfl ?_ | refine j_iadd (q := 158) C dX11_copy_157 rfl ?_
                          refine j_iald (q := 159) C dX11_copy_158 rfl hR.1.2.2.2.2.2.2.2.2.2.1 (show 20 * s1 + f + k < 80 by omega) (by decide) ?_
                          refine j_iast (q := 160) C dX11_copy_159 rfl hR.1.2.2.2.2.2.2.2.2.2.2.2.2.2.2 (show k < 20 by omega) (by decide) ?_
                          first | refine j_iincN (lv' := [(6, _), (5, _), (4, _), (3, _), (2, _), (1, _), (0, _)]) (q := 163) C dX11_copy_160 rfl rfl (by decide) rfl ?_ | refine j_iinc (lv' := [(6, _), (5, _), (4, _), (3, _), (2, _), (1, _), (0, _)]) (q := 163) C dX11_copy_160 rfl rfl rfl (by decide) rfl ?_
                          refine j_goto (tgt := 132) C dX11_copy_163 (by decide) ?_
                          exact j_fewer (lv' := [(6, .int (nI (k + 1))), (5, .int (nI n)), (4, .int (nI u)), (3, .int (nI t1)), (2, .int (nI f)), (1, .int (nI s1)), (0, .ref o)]) (by simp) (ih (k + 1) (jsI Mk (o + 14) k (Mk.1 (o + 9) (20 * s1 + f + k))) (hE.I (Or.inr rfl)) (fun j hj => by
                            by_cases cj : j = k
                            · subst cj; rw [upIs, h9]
                            · rw [upI (fun e => cj e.2)]; exact h14 j (by omega)) (by rw [← h9]; exact jup_ne (by omega)) (by omega))
                      exact j_fewer (lv' := [(6, .int (nI 0)), (5, .int (nI n)), (4, .int (nI u)), (3, .int (nI t1)), (2, .int (nI f)), (1, .int (nI s1)), (0, .ref o)]) (by simp) (loop132 n 0 M mEq.rf (fun j hj => absurd hj (by omega)) rfl (by omega))
                    · refine j_aload_n (q := 122) C dX11_copy_121 rfl rfl rfl ?_
                      refine j_ldc (q := 124) C dX11_copy_122 rfl kw_903 ?_
                      refine jV1 jc11 (q := 127) C dX11_copy_124 rfl hR.1.1 mX11_finding kw_904 kw_905 kw_28 (ctX11_finding hR) rfl rfl (by decide) (Nat.le_of_ble_eq_true rfl) (by decide) ?_
                      first | refine j_i2lN (q := 128) C dX11_copy_127 rfl (by omega) ?_ | refine j_i2l (q := 128) C dX11_copy_127 rfl rfl ?_
                      exact j_lret C E dX11_copy_128 rfl rfl (eX_b (by unfold eCopy; rw [if_pos ⟨hs3, ht3⟩, if_neg (fun h => h.elim c_28 c_37), if_pos c_61, if_neg (fun h => c_118 (em2 ▸ h.2.2.2.2))]; rfl) (by decide))
          · refine j_aload_n (q := 65) C dX11_copy_64 rfl rfl rfl ?_
            refine j_ldc (q := 67) C dX11_copy_65 rfl kw_949 ?_
            refine jV1 jc11 (q := 70) C dX11_copy_67 rfl hR.1.1 mX11_finding kw_904 kw_905 kw_28 (ctX11_finding hR) rfl rfl (by decide) (Nat.le_of_ble_eq_true rfl) (by decide) ?_
            first | refine j_i2lN (q := 71) C dX11_copy_70 rfl (by omega) ?_ | refine j_i2l (q := 71) C dX11_copy_70 rfl rfl ?_
            exact j_lret C E dX11_copy_71 rfl rfl (eX_b (by unfold eCopy; rw [if_pos ⟨hs3, ht3⟩, if_neg (fun h => h.elim c_28 c_37), if_neg c_61]; rfl) (by decide))
        · refine j_aload_n (q := 41) C dX11_copy_40 rfl rfl rfl ?_
          refine j_ldc_w (q := 44) C dX11_copy_41 rfl kw_1234 ?_
          refine jV1 jc11 (q := 47) C dX11_copy_44 rfl hR.1.1 mX11_finding kw_904 kw_905 kw_28 (ctX11_finding hR) rfl rfl (by decide) (Nat.le_of_ble_eq_true rfl) (by decide) ?_
          first | refine j_i2lN (q := 48) C dX11_copy_47 rfl (by omega) ?_ | refine j_i2l (q := 48) C dX11_copy_47 rfl rfl ?_
          exact j_lret C E dX11_copy_48 rfl rfl (eX_b (by unfold eCopy; rw [if_pos ⟨hs3, ht3⟩, if_pos (Or.inr c_37)]; rfl) (by decide))
    · refine j_aload_n (q := 15) C dX11_copy_14 rfl rfl rfl ?_
      refine j_ldc (q := 17) C dX11_copy_15 rfl kw_903 ?_
      refine jV1 jc11 (q := 20) C dX11_copy_17 rfl hR.1.1 mX11_finding kw_904 kw_905 kw_28 (ctX11_finding hR) rfl rfl (by decide) (Nat.le_of_ble_eq_true rfl) (by decide) ?_
      first | refine j_i2lN (q := 21) C dX11_copy_20 rfl (by omega) ?_ | refine j_i2l (q := 21) C dX11_copy_20 rfl rfl ?_
      exact j_lret C E dX11_copy_21 rfl rfl (eX_b (if_neg (fun h => jb_0.mp c_11 h.2)) (by decide))

def eFeed (tp : Nat) (n : Int32) : Int64 := if (lN 1 ≤ n.toInt64 ∧ n.toInt64 ≤ lN 8) then (if 160 < tp + n.toNatClampNeg then -100005 else 0) else -100001
/-- the k-th byte of a number -/
def byK (b : Int64) (k : Nat) : Int32 := ((b >>> ((nI (8 * k)).toInt64 &&& 63)) &&& 255).toInt32
set_option maxRecDepth 100000 in
set_option maxHeartbeats 4000000 in
theorem ctX11_feed {G : jG} {sz : Nat} {Sh : jS} {M : jM} {o : Nat} {N : Nat → Int64} (hR : rLay o Sh M) {tp : Nat} (htp : M.1 o 8 = nI tp) (htp2 : tp ≤ 160) {n : Int32} {b : Int64} : jC G yX11_feed cX11_feed 5 (Option.some FieldType.long) (jrm 2 0 0) sz Sh (jw M (o + 1) N) [.ref o, .int n, .long b] (jT sz Sh (eX o M N (eFeed tp n) (fun r M2 => r = some (.long (nI (tp + n.toNatClampNeg)).toInt64) ∧ ∃ Mx, M2 = jw Mx (o + 1) N ∧ mEq (fun b => b = o ∨ b = o + 6) M Mx ∧ Mx.1 o 8 = nI (tp + n.toNatClampNeg) ∧ (∀ j, j ≠ 8 → Mx.1 o j = M.1 o j) ∧ ∀ j, Mx.1 (o + 6) j = if tp ≤ j ∧ j < tp + n.toNatClampNeg then byK b (j - tp) else M.1 (o + 6) j))) := by
  refine jC_start (by decide +kernel) (Nat.le_of_ble_eq_true rfl) (fun X C E hN0 => ?_)
  refine j_iload_n (q := 1) C dX11_feed_0 rfl rfl rfl ?_
  first | refine j_i2lN (q := 2) C dX11_feed_1 rfl (by omega) ?_ | refine j_i2l (q := 2) C dX11_feed_1 rfl rfl ?_
  refine j_lconst (v := 1) (q := 3) C dX11_feed_2 rfl (by decide) ?_
  refine j_ldc2 (q := 6) C dX11_feed_3 rfl kw_1018 ?_
  refine jS1 (q := 9) C dX11_feed_6 rfl mX11_within kw_898 kw_899 (ctX11_within) rfl rfl (by decide) (Nat.le_of_ble_eq_true rfl) (by decide) ?_
  refine j_if_ne (q := 12) (tgt := 20) C dX11_feed_9 rfl (by decide) (fun c_9 => ?_) (fun c_9 => ?_)
  · have e_n : (lN 1 ≤ n.toInt64 ∧ n.toInt64 ≤ lN 8) := jb_n.mp c_9
    obtain ⟨x, hx1, hx2, rfl⟩ := jix3 (by omega) e_n.1 e_n.2 (by omega)
    have eX : (nI x).toNatClampNeg = x := nI_clamp (by omega)
    refine j_aload_n (q := 21) C dX11_feed_20 rfl rfl rfl ?_
    refine jg_Model_taped (q := 24) C dX11_feed_21 rfl hR.1.1 kw_877 ?_
    rw [show (jw M (o + 1) N).1 o 8 = nI tp from htp]
    refine j_iload_n (q := 25) C dX11_feed_24 rfl rfl rfl ?_
    first | refine j_iaddN (q := 26) C dX11_feed_25 rfl ?_ | refine j_iadd (q := 26) C dX11_feed_25 rfl ?_
    refine j_sipush (v := nI 160) (q := 29) C dX11_feed_26 rfl (by decide) ?_
    refine j_icmp_le (q := 32) (tgt := 40) C dX11_feed_29 rfl (by decide) (fun c_29 => ?_) (fun c_29 => ?_)
    · refine j_iconst (v := nI 0) (q := 41) C dX11_feed_40 rfl (by decide) ?_
      refine j_istore (lv' := [(4, _), (0, _), (1, _), (2, _)]) (q := 43) C dX11_feed_41 rfl (by decide) rfl ?_
      have htx : tp + x ≤ 160 := (nI_leI (by omega) (by omega)).mp c_29
      have hes : eFeed tp (nI x) = 0 := by unfold eFeed; rw [if_pos e_n, eX, if_neg (by omega)]
      have hR0 := hR
      have loop43 : ∀ (y k : Nat) (Mk : jM), mEq (fun b => b = o ∨ b = o + 6) M Mk → Mk.1 o 8 = nI (tp + k) → (∀ j, j ≠ 8 → Mk.1 o j = M.1 o j) → (∀ j, Mk.1 (o + 6) j = if tp ≤ j ∧ j < tp + k then byK b (j - tp) else M.1 (o + 6) j) → k + y = x → jJ G X 0 0 sz Sh (jw Mk (o + 1) N) 43 [(4, .int (nI k)), (0, .ref o), (1, .int (nI x)), (2, .long b)] [] := by
        intro y
        induction y with
        | zero =>
          intro k Mk hE h8 hO h6 hk
          have hR : rLay o Sh Mk := by unfold rLay at hR0 ⊢; rw [hE.2.2]; exact hR0
          refine j_iload (q := 45) C dX11_feed_43 rfl rfl ?_
          refine j_iload_n (q := 46) C dX11_feed_45 rfl rfl rfl ?_
          refine j_icmp_ge (q := 49) (tgt := 86) C dX11_feed_46 rfl (by decide) (fun c_46 => ?_) (fun c_46 => absurd (nI_le (by omega) (by omega)) c_46)
          obtain rfl : x = k := by omega
          refine j_aload_n (q := 87) C dX11_feed_86 rfl rfl rfl ?_
          refine jg_Model_taped (q := 90) C dX11_feed_87 rfl hR.1.1 kw_877 ?_
          rw [show (jw Mk (o + 1) N).1 o 8 = nI (tp + x) from h8]
          first | refine j_i2lN (q := 91) C dX11_feed_90 rfl (by omega) ?_ | refine j_i2l (q := 91) C dX11_feed_90 rfl rfl ?_
          exact j_lret C E dX11_feed_91 rfl rfl (eX_o hes ⟨by rw [eX, nI_l (by omega)], Mk, rfl, hE, by rw [eX]; exact ⟨h8, hO, h6⟩⟩)
        | succ y ih =>
          intro k Mk hE h8 hO h6 hk
          have hR : rLay o Sh Mk := by unfold rLay at hR0 ⊢; rw [hE.2.2]; exact hR0
          refine j_iload (q := 45) C dX11_feed_43 rfl rfl ?_
          refine j_iload_n (q := 46) C dX11_feed_45 rfl rfl rfl ?_
          refine j_icmp_ge (q := 49) (tgt := 86) C dX11_feed_46 rfl (by decide) (fun c_46 => absurd c_46 (fun h => absurd ((nI_leI (by omega) (by omega)).mp h) (by omega))) (fun c_46 => ?_)
          refine j_aload_n (q := 50) C dX11_feed_49 rfl rfl rfl ?_
          refine jg_Model_tape (q := 53) C dX11_feed_50 rfl hR.1.1 kw_876 hR.2.2.2.2.2.2.1 ?_
          refine j_aload_n (q := 54) C dX11_feed_53 rfl rfl rfl ?_
          refine jg_Model_taped (q := 57) C dX11_feed_54 rfl hR.1.1 kw_877 ?_
          rw [show (jw Mk (o + 1) N).1 o 8 = nI (tp + k) from h8]
          refine j_lload_n (q := 58) C dX11_feed_57 rfl rfl rfl ?_
          refine j_bipush (v := nI 8) (q := 60) C dX11_feed_58 rfl (by decide) ?_
          refine j_iload (q := 62) C dX11_feed_60 rfl rfl ?_
          first | refine j_imulN (q := 63) C dX11_feed_62 rfl ?_ | refine j_imul (q := 63) C dX11_feed_62 rfl ?_
          refine j_lshr (q := 64) C dX11_feed_63 rfl rfl ?_
          refine j_ldc2 (q := 67) C dX11_feed_64 rfl kw_1019 ?_
          refine j_land (q := 68) C dX11_feed_67 rfl ?_
          first | refine j_l2iN (q := 69) C dX11_feed_68 rfl ?_ | refine j_l2i (q := 69) C dX11_feed_68 rfl rfl ?_
          refine j_top (v' := .int (byK b k)) rfl ?_
          refine j_iast (q := 70) C dX11_feed_69 rfl hR.1.2.2.2.2.2.2.1 (show tp + k < 160 by omega) (by decide) ?_
          refine j_aload_n (q := 71) C dX11_feed_70 rfl rfl rfl ?_
          refine j_dup (q := 72) C dX11_feed_71 rfl rfl ?_
          refine jg_Model_taped (q := 75) C dX11_feed_72 rfl hR.1.1 kw_877 ?_
          rw [show (jsI (jw Mk (o + 1) N) (o + 6) (tp + k) (byK b k)).1 o 8 = nI (tp + k) from (congrFun (jup_ne (by omega)) 8).trans h8]
          refine j_iconst (v := nI 1) (q := 76) C dX11_feed_75 rfl (by decide) ?_
          first | refine j_iaddN (q := 77) C dX11_feed_76 rfl ?_ | refine j_iadd (q := 77) C dX11_feed_76 rfl ?_
          refine jp_Model_taped (q := 80) C dX11_feed_77 rfl hR.1.1 kw_877 ?_
          first | refine j_iincN (lv' := [(4, _), (0, _), (1, _), (2, _)]) (q := 83) C dX11_feed_80 rfl rfl (by decide) rfl ?_ | refine j_iinc (lv' := [(4, _), (0, _), (1, _), (2, _)]) (q := 83) C dX11_feed_80 rfl rfl rfl (by decide) rfl ?_
          refine j_goto (tgt := 43) C dX11_feed_83 (by decide) ?_
          exact j_fewer (lv' := [(4, .int (nI (k + 1))), (0, .ref o), (1, .int (nI x)), (2, .long b)]) (by simp) (ih (k + 1) (jsI (jsI Mk (o + 6) (tp + k) (byK b k)) o 8 (nI (tp + k + 1))) ((hE.I (Or.inr rfl)).I (Or.inl rfl)) upIs (fun j hj => by rw [upI (fun e => hj e.2), upI (by omega)]; exact hO j hj) (fun j => by
            rw [upI (by omega)]
            by_cases cj : j = tp + k
            · subst cj; rw [upIs, if_pos (by omega), show tp + k - tp = k by omega]
            · rw [upI (fun e => cj e.2), h6 j]
              by_cases c1 : tp ≤ j ∧ j < tp + k
              · rw [if_pos c1, if_pos (by omega)]
              · rw [if_neg c1, if_neg (by omega)]) (by omega))
      exact j_fewer (lv' := [(4, .int (nI 0)), (0, .ref o), (1, .int (nI x)), (2, .long b)]) (by simp) (loop43 x 0 M mEq.rf htp (fun _ _ => rfl) (fun j => by rw [if_neg (by omega)]) (by omega))
    · refine j_aload_n (q := 33) C dX11_feed_32 rfl rfl rfl ?_
      refine j_ldc (q := 35) C dX11_feed_33 rfl kw_907 ?_
      refine jV1 jc11 (q := 38) C dX11_feed_35 rfl hR.1.1 mX11_finding kw_904 kw_905 kw_28 (ctX11_finding hR) rfl rfl (by decide) (Nat.le_of_ble_eq_true rfl) (by decide) ?_
      first | refine j_i2lN (q := 39) C dX11_feed_38 rfl (by omega) ?_ | refine j_i2l (q := 39) C dX11_feed_38 rfl rfl ?_
      exact j_lret C E dX11_feed_39 rfl rfl (eX_b (by unfold eFeed; rw [if_pos e_n, eX, if_pos (by have h : ¬ tp + x ≤ 160 := fun h => c_29 (nI_le (by omega) (by omega)); omega)]; rfl) (by decide))
  · refine j_aload_n (q := 13) C dX11_feed_12 rfl rfl rfl ?_
    refine j_ldc (q := 15) C dX11_feed_13 rfl kw_903 ?_
    refine jV1 jc11 (q := 18) C dX11_feed_15 rfl hR.1.1 mX11_finding kw_904 kw_905 kw_28 (ctX11_finding hR) rfl rfl (by decide) (Nat.le_of_ble_eq_true rfl) (by decide) ?_
    first | refine j_i2lN (q := 19) C dX11_feed_18 rfl (by omega) ?_ | refine j_i2l (q := 19) C dX11_feed_18 rfl rfl ?_
    exact j_lret C E dX11_feed_19 rfl rfl (eX_b (if_neg (jb_0.mp c_9)) (by decide))

