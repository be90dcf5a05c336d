set_option maxRecDepth 100000 in
set_option maxHeartbeats 4000000 in
theorem ctX11_choices {G : jG} {sz : Nat} {Sh : jS} {M : jM} {o : Nat} {N : Nat → Int64} (hR : rLay o Sh M) {d pe pa la : Nat} (hO : nOk N d pe pa la) {LT : Nat → sT} (hL : lOk o M la LT) (hB : nB N d pe) (hS : nS N pa) {n w : Int32} : jC G yX11_choices cX11_choices 19 (Option.some FieldType.long) (jrm 7 0 0) sz Sh (jw M (o + 1) N) [.ref o, .int n, .int w] (jT sz Sh (fun r M2 => ∃ s, cRel LT N d pe pa la n w s ∧ rU o M s r M2)) := by
  refine jC_start (by decide +kernel) (Nat.le_of_ble_eq_true rfl) (fun X C E hN0 => ?_)
  have hpe := hO.2.1.2
  refine j_iload_n (q := 1) C dX11_choices_0 rfl rfl rfl ?_
  first | refine j_i2lN (q := 2) C dX11_choices_1 rfl (by omega) ?_ | refine j_i2l (q := 2) C dX11_choices_1 rfl rfl ?_
  refine j_lconst (v := 0) (q := 3) C dX11_choices_2 rfl (by decide) ?_
  refine j_ldc2 (q := 6) C dX11_choices_3 rfl kw_920 ?_
  refine jS1 (q := 9) C dX11_choices_6 rfl mX11_within kw_898 kw_899 (ctX11_within) rfl rfl (by decide) (Nat.le_of_ble_eq_true rfl) (by decide) ?_
  refine j_if_ne (q := 12) (tgt := 21) C dX11_choices_9 rfl (by decide) (fun c_9 => ?_) (fun c_9 => ?_)
  · refine j_aload_n (q := 22) C dX11_choices_21 rfl rfl rfl ?_
    refine j_iload_n (q := 23) C dX11_choices_22 rfl rfl rfl ?_
    refine j_bipush (v := nI 8) (q := 25) C dX11_choices_23 rfl (by decide) ?_
    refine jV1 jc11 (q := 28) C dX11_choices_25 rfl hR.1.1 mX11_notAhead kw_1207 kw_1208 kw_65 (ctX11_notAhead (mo := 8) hR hO.1.1 hO.1.2 (by omega) (by omega)) rfl rfl (by decide) (Nat.le_of_ble_eq_true rfl) (by decide) ?_
    refine j_istore_n (lv' := [(3, _), (0, _), (1, _), (2, _)]) (q := 29) C dX11_choices_28 rfl rfl (by decide) rfl ?_
    refine j_iload_n (q := 30) C dX11_choices_29 rfl rfl rfl ?_
    refine j_if_eq (q := 33) (tgt := 36) C dX11_choices_30 rfl (by decide) (fun c_30 => ?_) (fun c_30 => ?_)
    · have hww : okW w 2 := jb_n.mp c_9
      obtain ⟨hf, x, hx1, hx2, rfl, hdx, eX⟩ := nA_0 c_30 (by omega)
      rw [hf, show rB o M false = M from rfl]
      have hnf : ¬ (nA d (nI x) 8).2 = true := by rw [hf]; decide
      have h2x : 2 ^ x ≤ 2 ^ 8 := Nat.pow_le_pow_right (by omega) hx2
      refine j_aload_n (q := 37) C dX11_choices_36 rfl rfl rfl ?_
      refine jV0 jc11 (q := 40) C dX11_choices_37 rfl hR.1.1 mX11_putAside kw_1210 kw_1211 kw_66 (ctX11_putAside hR) rfl rfl (by decide) (Nat.le_of_ble_eq_true rfl) (by decide) ?_
      refine j_aload_n (q := 41) C dX11_choices_40 rfl rfl rfl ?_
      refine jV1 jc11 (q := 44) C dX11_choices_41 rfl hR.1.1 mX11_hungers kw_1224 kw_1225 kw_68 (ctX11_hungers (M := rA o M N) hR hO.2.1.1 hpe) rfl rfl (by decide) (Nat.le_of_ble_eq_true rfl) (by decide) ?_
      refine j_lstore (lv' := [(4, _), (3, _), (0, _), (1, _), (2, _)]) (q := 46) C dX11_choices_44 rfl (by decide) rfl ?_
      refine j_ldc2 (q := 49) C dX11_choices_46 rfl kw_940 ?_
      refine j_lstore (lv' := [(6, _), (4, _), (3, _), (0, _), (1, _), (2, _)]) (q := 51) C dX11_choices_49 rfl (by decide) rfl ?_
      refine j_lconst (v := 0) (q := 52) C dX11_choices_51 rfl (by decide) ?_
      refine j_lstore (lv' := [(8, _), (6, _), (4, _), (3, _), (0, _), (1, _), (2, _)]) (q := 54) C dX11_choices_52 rfl (by decide) rfl ?_
      refine j_iconst (v := nI 0) (q := 55) C dX11_choices_54 rfl (by decide) ?_
      refine j_istore (lv' := [(10, _), (8, _), (6, _), (4, _), (3, _), (0, _), (1, _), (2, _)]) (q := 57) C dX11_choices_55 rfl (by decide) rfl ?_
      refine j_iconst (v := nI 0) (q := 58) C dX11_choices_57 rfl (by decide) ?_
      refine j_istore (lv' := [(11, _), (10, _), (8, _), (6, _), (4, _), (3, _), (0, _), (1, _), (2, _)]) (q := 60) C dX11_choices_58 rfl (by decide) rfl ?_
      refine j_iconst (v := nI 0) (q := 61) C dX11_choices_60 rfl (by decide) ?_
      refine j_istore (lv' := [(12, _), (11, _), (10, _), (8, _), (6, _), (4, _), (3, _), (0, _), (1, _), (2, _)]) (q := 63) C dX11_choices_61 rfl (by decide) rfl ?_
      have loop63 : ∀ (n c : Nat) (h0 p0 : Int64) (t0 b0 : Nat) (P A B : Nat → Int64), bSo (hK LT d pe pa la x N) (pK LT d pe pa la x N) c h0 p0 t0 b0 → t0 ≤ 8 → c + n = 2 ^ x → jJ G X 0 0 sz Sh (jw (rS o (rA o M N) P A B) (o + 1) N) 63 [(12, .int (nI c)), (11, .int (nI b0)), (10, .int (nI t0)), (8, .long p0), (6, .long h0), (4, .long (nSum N 5 pe)), (0, .ref o), (1, .int (nI x)), (2, .int w)] [] := by
        intro n
        induction n with
        | zero =>
          intro c h0 p0 t0 b0 P A B hbo ht0 hcn
          refine j_iload (q := 65) C dX11_choices_63 rfl rfl ?_
          refine j_iconst (v := nI 1) (q := 66) C dX11_choices_65 rfl (by decide) ?_
          refine j_iload_n (q := 67) C dX11_choices_66 rfl rfl rfl ?_
          refine j_ishl (q := 68) C dX11_choices_67 rfl ?_
          rw [shl1' x (by omega)]
          refine j_icmp_ge (q := 71) (tgt := 216) C dX11_choices_68 rfl (by decide) (fun c_68 => ?_) (fun c_68 => absurd (nI_le (by omega) (by omega)) c_68)
          obtain rfl : c = 2 ^ x := by omega
          have hbb : isB (hK LT d pe pa la x N) (pK LT d pe pa la x N) (fun z => z < 2 ^ x) b0 ∧ h0 = (hK LT d pe pa la x N) b0 ∧ p0 = (pK LT d pe pa la x N) b0 ∧ b0 < 2 ^ x := by
            rcases hbo with ⟨h, -⟩ | ⟨h1, h2, h3, h4, -⟩
            · have := Nat.two_pow_pos x; omega
            · exact ⟨h2, h3, h4, h1⟩
          obtain ⟨hb1, hb2, hb3, hb4⟩ := hbb
          refine j_iload_n (q := 217) C dX11_choices_216 rfl rfl rfl ?_
          refine j_if_ne (q := 220) (tgt := 226) C dX11_choices_217 rfl (by decide) (fun c_217 => ?_) (fun c_217 => ?_)
          · refine j_iload_n (q := 227) C dX11_choices_226 rfl rfl rfl ?_
            refine j_iconst (v := nI 1) (q := 228) C dX11_choices_227 rfl (by decide) ?_
            refine j_icmp_ne (q := 231) (tgt := 236) C dX11_choices_228 rfl (by decide) (fun c_228 => ?_) (fun c_228 => ?_)
            · refine j_lload (q := 238) C dX11_choices_236 rfl rfl ?_
              exact j_lret C E dX11_choices_238 rfl rfl (⟨rfl, rfl, (pK LT d pe pa la x N b0, false, N), by unfold cRel; rw [if_pos hww, if_neg hnf, eX]; exact ⟨b0, hb1, by rw [if_neg c_217, if_neg c_228]⟩, by rw [hb3], rA_E.w (Or.inl rfl), jw_at _ _ _⟩)
            · refine j_lload (q := 233) C dX11_choices_231 rfl rfl ?_
              refine j_goto (tgt := 238) C dX11_choices_233 (by decide) ?_
              exact j_lret C E dX11_choices_238 rfl rfl (⟨rfl, rfl, (hK LT d pe pa la x N b0, false, N), by unfold cRel; rw [if_pos hww, if_neg hnf, eX]; exact ⟨b0, hb1, by rw [if_neg c_217, if_pos c_228]⟩, by rw [hb2], rA_E.w (Or.inl rfl), jw_at _ _ _⟩)
          · refine j_iload (q := 222) C dX11_choices_220 rfl rfl ?_
            first | refine j_i2lN (q := 223) C dX11_choices_222 rfl (by omega) ?_ | refine j_i2l (q := 223) C dX11_choices_222 rfl rfl ?_
            refine j_goto (tgt := 238) C dX11_choices_223 (by decide) ?_
            exact j_lret C E dX11_choices_238 rfl rfl (⟨rfl, rfl, (lN b0, false, N), by unfold cRel; rw [if_pos hww, if_neg hnf, eX]; exact ⟨b0, hb1, by rw [if_pos c_217]⟩, rfl, rA_E.w (Or.inl rfl), jw_at _ _ _⟩)
        | succ n ih =>
          intro c h0 p0 t0 b0 P A B hbo ht0 hcn
          refine j_iload (q := 65) C dX11_choices_63 rfl rfl ?_
          refine j_iconst (v := nI 1) (q := 66) C dX11_choices_65 rfl (by decide) ?_
          refine j_iload_n (q := 67) C dX11_choices_66 rfl rfl rfl ?_
          refine j_ishl (q := 68) C dX11_choices_67 rfl ?_
          rw [shl1' x (by omega)]
          refine j_icmp_ge (q := 71) (tgt := 216) C dX11_choices_68 rfl (by decide) (fun c_68 => absurd c_68 (fun h => absurd ((nI_leI (by omega) (by omega)).mp h) (by omega))) (fun c_68 => ?_)
          refine j_iconst (v := nI 0) (q := 72) C dX11_choices_71 rfl (by decide) ?_
          refine j_istore (lv' := [(13, _), (12, _), (11, _), (10, _), (8, _), (6, _), (4, _), (0, _), (1, _), (2, _)]) (q := 74) C dX11_choices_72 rfl (by decide) rfl ?_
          refine j_iconst (v := nI 0) (q := 75) C dX11_choices_74 rfl (by decide) ?_
          refine j_istore (lv' := [(14, _), (13, _), (12, _), (11, _), (10, _), (8, _), (6, _), (4, _), (0, _), (1, _), (2, _)]) (q := 77) C dX11_choices_75 rfl (by decide) rfl ?_
          have hcx : c < 2 ^ x := by omega
          have loop77 : ∀ (m k : Nat) (P A B : Nat → Int64), k + m = x → jJ G X 0 0 sz Sh (jw (rS o (rA o M N) P A B) (o + 1) (nPl LT d pe pa la (bt c) N k)) 77 [(14, .int (nI k)), (13, .int (nI (pcK c k))), (12, .int (nI c)), (11, .int (nI b0)), (10, .int (nI t0)), (8, .long p0), (6, .long h0), (4, .long (nSum N 5 pe)), (0, .ref o), (1, .int (nI x)), (2, .int w)] [] := by
            intro m
            induction m with
            | zero =>
              intro k P A B hk
              have hOk := nPl_ok (LT := LT) (b := (bt c)) hO hB hS k (by omega)
              refine j_iload (q := 79) C dX11_choices_77 rfl rfl ?_
              refine j_iload_n (q := 80) C dX11_choices_79 rfl rfl rfl ?_
              refine j_icmp_ge (q := 83) (tgt := 113) C dX11_choices_80 rfl (by decide) (fun c_80 => ?_) (fun c_80 => absurd (nI_le (by omega) (by omega)) c_80)
              obtain rfl : x = k := by omega
              rw [show pcK c x = popc c from pcK_ok x (by omega) c (by omega) hcx]
              have j176 : ∀ v : Int32, (¬ v = 0 → lsR (hK LT d pe pa la x N) (pK LT d pe pa la x N) c h0 p0 t0) → (v = 0 → ¬ lsR (hK LT d pe pa la x N) (pK LT d pe pa la x N) c h0 p0 t0) → jJ G X 0 0 sz Sh (jw (rS o (rA o M N) P A B) (o + 1) (nPl LT d pe pa la (bt c) N x)) 176 [(16, .long ((pK LT d pe pa la x N) c)), (14, .long ((hK LT d pe pa la x N) c)), (13, .int (nI (popc c))), (12, .int (nI c)), (11, .int (nI b0)), (10, .int (nI t0)), (8, .long p0), (6, .long h0), (4, .long (nSum N 5 pe)), (0, .ref o), (1, .int (nI x)), (2, .int w)] [.int v] := by
                intro v hv1 hv0
                have hc0' : h0 < 0 → c = 0 := fun h => by
                  rcases hbo with ⟨h1, -⟩ | ⟨h1, h2, h3, -⟩
                  · exact h1
                  · rw [h3] at h
                    exact absurd h (Int64.not_lt.mpr (hK_ge hO hB hS hdx b0))
                refine j_istore (lv' := [(18, _), (16, _), (14, _), (13, _), (12, _), (11, _), (10, _), (8, _), (6, _), (4, _), (0, _), (1, _), (2, _)]) (q := 178) C dX11_choices_176 rfl (by decide) rfl ?_
                refine j_lload (q := 180) C dX11_choices_178 rfl rfl ?_
                refine j_lconst (v := 0) (q := 181) C dX11_choices_180 rfl (by decide) ?_
                refine j_lcmp_lt (q1 := 182) (q := 185) (tgt := 190) C dX11_choices_181 dX11_choices_182 rfl rfl (by decide) (fun c_182 => ?_) (fun c_182 => ?_)
                · 
                  refine j_lload (q := 192) C dX11_choices_190 rfl rfl ?_
                  refine j_lstore (lv' := [(6, _), (18, _), (16, _), (14, _), (13, _), (12, _), (11, _), (10, _), (8, _), (4, _), (0, _), (1, _), (2, _)]) (q := 194) C dX11_choices_192 rfl (by decide) rfl ?_
                  refine j_lload (q := 196) C dX11_choices_194 rfl rfl ?_
                  refine j_lstore (lv' := [(8, _), (6, _), (18, _), (16, _), (14, _), (13, _), (12, _), (11, _), (10, _), (4, _), (0, _), (1, _), (2, _)]) (q := 198) C dX11_choices_196 rfl (by decide) rfl ?_
                  refine j_iload (q := 200) C dX11_choices_198 rfl rfl ?_
                  refine j_istore (lv' := [(10, _), (8, _), (6, _), (18, _), (16, _), (14, _), (13, _), (12, _), (11, _), (4, _), (0, _), (1, _), (2, _)]) (q := 202) C dX11_choices_200 rfl (by decide) rfl ?_
                  refine j_iload (q := 204) C dX11_choices_202 rfl rfl ?_
                  refine j_istore (lv' := [(11, _), (10, _), (8, _), (6, _), (18, _), (16, _), (14, _), (13, _), (12, _), (4, _), (0, _), (1, _), (2, _)]) (q := 206) C dX11_choices_204 rfl (by decide) rfl ?_
                  refine j_aload_n (q := 207) C dX11_choices_206 rfl rfl rfl ?_
                  refine jV0 jc11 (q := 210) C dX11_choices_207 rfl hR.1.1 mX11_comesBack kw_1213 kw_1214 kw_67 (ctX11_comesBack (M := rS o (rA o M N) P A B) (Ns := N) hR rA_at) rfl rfl (by decide) (Nat.le_of_ble_eq_true rfl) (by decide) ?_
                  first | refine j_iincN (lv' := [(12, _), (11, _), (10, _), (8, _), (6, _), (18, _), (16, _), (14, _), (13, _), (4, _), (0, _), (1, _), (2, _)]) (q := 213) C dX11_choices_210 rfl rfl (by decide) rfl ?_ | refine j_iinc (lv' := [(12, _), (11, _), (10, _), (8, _), (6, _), (18, _), (16, _), (14, _), (13, _), (4, _), (0, _), (1, _), (2, _)]) (q := 213) C dX11_choices_210 rfl rfl rfl (by decide) rfl ?_
                  refine j_goto (tgt := 63) C dX11_choices_213 (by decide) ?_
                  exact j_fewer (lv' := [(12, .int (nI (c + 1))), (11, .int (nI c)), (10, .int (nI (popc c))), (8, .long ((pK LT d pe pa la x N) c)), (6, .long ((hK LT d pe pa la x N) c)), (4, .long (nSum N 5 pe)), (0, .ref o), (1, .int (nI x)), (2, .int w)]) (by simp) (ih (c + 1) ((hK LT d pe pa la x N) c) ((pK LT d pe pa la x N) c) (popc c) c P A B (hbo.new (Or.inl (hc0' c_182))) (by have := popc_8 c; omega) (by omega))
                · have hc1 : ¬ c = 0 := fun e => by
                    rcases hbo with ⟨-, h⟩ | ⟨h1, -⟩
                    · rw [h] at c_182; exact absurd (by decide) c_182
                    · omega
                  refine j_iload (q := 187) C dX11_choices_185 rfl rfl ?_
                  refine j_if_eq (q := 190) (tgt := 206) C dX11_choices_187 rfl (by decide) (fun c_187 => ?_) (fun c_187 => ?_)
                  · refine j_aload_n (q := 207) C dX11_choices_206 rfl rfl rfl ?_
                    refine jV0 jc11 (q := 210) C dX11_choices_207 rfl hR.1.1 mX11_comesBack kw_1213 kw_1214 kw_67 (ctX11_comesBack (M := rS o (rA o M N) P A B) (Ns := N) hR rA_at) rfl rfl (by decide) (Nat.le_of_ble_eq_true rfl) (by decide) ?_
                    first | refine j_iincN (lv' := [(12, _), (18, _), (16, _), (14, _), (13, _), (11, _), (10, _), (8, _), (6, _), (4, _), (0, _), (1, _), (2, _)]) (q := 213) C dX11_choices_210 rfl rfl (by decide) rfl ?_ | refine j_iinc (lv' := [(12, _), (18, _), (16, _), (14, _), (13, _), (11, _), (10, _), (8, _), (6, _), (4, _), (0, _), (1, _), (2, _)]) (q := 213) C dX11_choices_210 rfl rfl rfl (by decide) rfl ?_
                    refine j_goto (tgt := 63) C dX11_choices_213 (by decide) ?_
                    exact j_fewer (lv' := [(12, .int (nI (c + 1))), (11, .int (nI b0)), (10, .int (nI t0)), (8, .long p0), (6, .long h0), (4, .long (nSum N 5 pe)), (0, .ref o), (1, .int (nI x)), (2, .int w)]) (by simp) (ih (c + 1) h0 p0 t0 b0 P A B (hbo.old hc1 (hv0 c_187)) ht0 (by omega))
                  · 
                    refine j_lload (q := 192) C dX11_choices_190 rfl rfl ?_
                    refine j_lstore (lv' := [(6, _), (18, _), (16, _), (14, _), (13, _), (12, _), (11, _), (10, _), (8, _), (4, _), (0, _), (1, _), (2, _)]) (q := 194) C dX11_choices_192 rfl (by decide) rfl ?_
                    refine j_lload (q := 196) C dX11_choices_194 rfl rfl ?_
                    refine j_lstore (lv' := [(8, _), (6, _), (18, _), (16, _), (14, _), (13, _), (12, _), (11, _), (10, _), (4, _), (0, _), (1, _), (2, _)]) (q := 198) C dX11_choices_196 rfl (by decide) rfl ?_
                    refine j_iload (q := 200) C dX11_choices_198 rfl rfl ?_
                    refine j_istore (lv' := [(10, _), (8, _), (6, _), (18, _), (16, _), (14, _), (13, _), (12, _), (11, _), (4, _), (0, _), (1, _), (2, _)]) (q := 202) C dX11_choices_200 rfl (by decide) rfl ?_
                    refine j_iload (q := 204) C dX11_choices_202 rfl rfl ?_
                    refine j_istore (lv' := [(11, _), (10, _), (8, _), (6, _), (18, _), (16, _), (14, _), (13, _), (12, _), (4, _), (0, _), (1, _), (2, _)]) (q := 206) C dX11_choices_204 rfl (by decide) rfl ?_
                    refine j_aload_n (q := 207) C dX11_choices_206 rfl rfl rfl ?_
                    refine jV0 jc11 (q := 210) C dX11_choices_207 rfl hR.1.1 mX11_comesBack kw_1213 kw_1214 kw_67 (ctX11_comesBack (M := rS o (rA o M N) P A B) (Ns := N) hR rA_at) rfl rfl (by decide) (Nat.le_of_ble_eq_true rfl) (by decide) ?_
                    first | refine j_iincN (lv' := [(12, _), (11, _), (10, _), (8, _), (6, _), (18, _), (16, _), (14, _), (13, _), (4, _), (0, _), (1, _), (2, _)]) (q := 213) C dX11_choices_210 rfl rfl (by decide) rfl ?_ | refine j_iinc (lv' := [(12, _), (11, _), (10, _), (8, _), (6, _), (18, _), (16, _), (14, _), (13, _), (4, _), (0, _), (1, _), (2, _)]) (q := 213) C dX11_choices_210 rfl rfl rfl (by decide) rfl ?_
                    refine j_goto (tgt := 63) C dX11_choices_213 (by decide) ?_
                    exact j_fewer (lv' := [(12, .int (nI (c + 1))), (11, .int (nI c)), (10, .int (nI (popc c))), (8, .long ((pK LT d pe pa la x N) c)), (6, .long ((hK LT d pe pa la x N) c)), (4, .long (nSum N 5 pe)), (0, .ref o), (1, .int (nI x)), (2, .int w)]) (by simp) (ih (c + 1) ((hK LT d pe pa la x N) c) ((pK LT d pe pa la x N) c) (popc c) c P A B (hbo.new (Or.inr (hv1 c_187))) (by have := popc_8 c; omega) (by omega))
              refine j_aload_n (q := 114) C dX11_choices_113 rfl rfl rfl ?_
              refine jV1 jc11 (q := 117) C dX11_choices_114 rfl hR.1.1 mX11_hungers kw_1224 kw_1225 kw_68 (ctX11_hungers (M := rS o (rA o M N) P A B) hR hOk.1.2.1.1 hpe) rfl rfl (by decide) (Nat.le_of_ble_eq_true rfl) (by decide) ?_
              refine j_lload (q := 119) C dX11_choices_117 rfl rfl ?_
              refine j_lsub (q := 120) C dX11_choices_119 rfl ?_
              rw [show nSum (nPl LT d pe pa la (bt c) N x) 5 pe - nSum N 5 pe = (hK LT d pe pa la x N) c from rfl]
              refine j_lstore (lv' := [(14, _), (13, _), (12, _), (11, _), (10, _), (8, _), (6, _), (4, _), (0, _), (1, _), (2, _)]) (q := 122) C dX11_choices_120 rfl (by decide) rfl ?_
              refine j_aload_n (q := 123) C dX11_choices_122 rfl rfl rfl ?_
              refine j_aload_n (q := 124) C dX11_choices_123 rfl rfl rfl ?_
              refine jV1 jc11 (q := 127) C dX11_choices_124 rfl hR.1.1 mX11_today kw_965 kw_966 kw_33 (ctX11_today (M := rS o (rA o M N) P A B) hR hOk.1.1.1) rfl rfl (by decide) (Nat.le_of_ble_eq_true rfl) (by decide) ?_
              refine jV1 jc11 (q := 130) C dX11_choices_127 rfl hR.1.1 mX11_priceOf kw_968 kw_969 kw_34 (ctX11_priceOf (M := rS o (rA o M N) P A B) hR (by omega)) rfl rfl (by decide) (Nat.le_of_ble_eq_true rfl) (by decide) ?_
              rw [show nPl LT d pe pa la (bt c) N x (310 + (d + x)) = (pK LT d pe pa la x N) c from rfl]
              refine j_lstore (lv' := [(16, _), (14, _), (13, _), (12, _), (11, _), (10, _), (8, _), (6, _), (4, _), (0, _), (1, _), (2, _)]) (q := 132) C dX11_choices_130 rfl (by decide) rfl ?_
              refine j_lload (q := 134) C dX11_choices_132 rfl rfl ?_
              refine j_lload (q := 136) C dX11_choices_134 rfl rfl ?_
              refine j_lcmp_lt (q1 := 137) (q := 140) (tgt := 171) C dX11_choices_136 dX11_choices_137 rfl rfl (by decide) (fun c_137 => ?_) (fun c_137 => ?_)
              · refine j_iconst (v := nI 1) (q := 172) C dX11_choices_171 rfl (by decide) ?_
                refine j_goto (tgt := 176) C dX11_choices_172 (by decide) ?_
                have hp8 := popc_8 c
                exact j_fewer (lv' := [(16, .long ((pK LT d pe pa la x N) c)), (14, .long ((hK LT d pe pa la x N) c)), (13, .int (nI (popc c))), (12, .int (nI c)), (11, .int (nI b0)), (10, .int (nI t0)), (8, .long p0), (6, .long h0), (4, .long (nSum N 5 pe)), (0, .ref o), (1, .int (nI x)), (2, .int w)]) (by simp) (j176 (nI 1) (fun _ => Or.inl c_137) (fun h => absurd h (by decide)))
              · refine j_lload (q := 142) C dX11_choices_140 rfl rfl ?_
                refine j_lload (q := 144) C dX11_choices_142 rfl rfl ?_
                refine j_lcmp_ne (q1 := 145) (q := 148) (tgt := 175) C dX11_choices_144 dX11_choices_145 rfl rfl (by decide) (fun c_145 => ?_) (fun c_145 => ?_)
                · refine j_iconst (v := nI 0) (q := 176) C dX11_choices_175 rfl (by decide) ?_
                  have hp8 := popc_8 c
                  exact j_fewer (lv' := [(16, .long ((pK LT d pe pa la x N) c)), (14, .long ((hK LT d pe pa la x N) c)), (13, .int (nI (popc c))), (12, .int (nI c)), (11, .int (nI b0)), (10, .int (nI t0)), (8, .long p0), (6, .long h0), (4, .long (nSum N 5 pe)), (0, .ref o), (1, .int (nI x)), (2, .int w)]) (by simp) (j176 (nI 0) (fun h => absurd rfl h) (fun _ => fun h => h.elim (fun z => c_137 z) (fun z => c_145 z.1)))
                · refine j_lload (q := 150) C dX11_choices_148 rfl rfl ?_
                  refine j_lload (q := 152) C dX11_choices_150 rfl rfl ?_
                  refine j_lcmp_lt (q1 := 153) (q := 156) (tgt := 171) C dX11_choices_152 dX11_choices_153 rfl rfl (by decide) (fun c_153 => ?_) (fun c_153 => ?_)
                  · refine j_iconst (v := nI 1) (q := 172) C dX11_choices_171 rfl (by decide) ?_
                    refine j_goto (tgt := 176) C dX11_choices_172 (by decide) ?_
                    have hp8 := popc_8 c
                    exact j_fewer (lv' := [(16, .long ((pK LT d pe pa la x N) c)), (14, .long ((hK LT d pe pa la x N) c)), (13, .int (nI (popc c))), (12, .int (nI c)), (11, .int (nI b0)), (10, .int (nI t0)), (8, .long p0), (6, .long h0), (4, .long (nSum N 5 pe)), (0, .ref o), (1, .int (nI x)), (2, .int w)]) (by simp) (j176 (nI 1) (fun _ => Or.inr ⟨c_145, Or.inl c_153⟩) (fun h => absurd h (by decide)))
                  · refine j_lload (q := 158) C dX11_choices_156 rfl rfl ?_
                    refine j_lload (q := 160) C dX11_choices_158 rfl rfl ?_
                    refine j_lcmp_ne (q1 := 161) (q := 164) (tgt := 175) C dX11_choices_160 dX11_choices_161 rfl rfl (by decide) (fun c_161 => ?_) (fun c_161 => ?_)
                    · refine j_iconst (v := nI 0) (q := 176) C dX11_choices_175 rfl (by decide) ?_
                      have hp8 := popc_8 c
                      exact j_fewer (lv' := [(16, .long ((pK LT d pe pa la x N) c)), (14, .long ((hK LT d pe pa la x N) c)), (13, .int (nI (popc c))), (12, .int (nI c)), (11, .int (nI b0)), (10, .int (nI t0)), (8, .long p0), (6, .long h0), (4, .long (nSum N 5 pe)), (0, .ref o), (1, .int (nI x)), (2, .int w)]) (by simp) (j176 (nI 0) (fun h => absurd rfl h) (fun _ => fun h => h.elim (fun z => c_137 z) (fun z => z.2.elim (fun y => c_153 y) (fun y => c_161 y.1))))
                    · refine j_iload (q := 166) C dX11_choices_164 rfl rfl ?_
                      refine j_iload (q := 168) C dX11_choices_166 rfl rfl ?_
                      refine j_icmp_ge (q := 171) (tgt := 175) C dX11_choices_168 rfl (by decide) (fun c_168 => ?_) (fun c_168 => ?_)
                      · refine j_iconst (v := nI 0) (q := 176) C dX11_choices_175 rfl (by decide) ?_
                        have hp8 := popc_8 c
                        exact j_fewer (lv' := [(16, .long ((pK LT d pe pa la x N) c)), (14, .long ((hK LT d pe pa la x N) c)), (13, .int (nI (popc c))), (12, .int (nI c)), (11, .int (nI b0)), (10, .int (nI t0)), (8, .long p0), (6, .long h0), (4, .long (nSum N 5 pe)), (0, .ref o), (1, .int (nI x)), (2, .int w)]) (by simp) (j176 (nI 0) (fun h => absurd rfl h) (fun _ => fun h => h.elim (fun z => c_137 z) (fun z => z.2.elim (fun y => c_153 y) (fun y => absurd ((nI_leI (by omega) (by omega)).mp c_168) (by have := y.2; omega)))))
                      · refine j_iconst (v := nI 1) (q := 172) C dX11_choices_171 rfl (by decide) ?_
                        refine j_goto (tgt := 176) C dX11_choices_172 (by decide) ?_
                        have hp8 := popc_8 c
                        exact j_fewer (lv' := [(16, .long ((pK LT d pe pa la x N) c)), (14, .long ((hK LT d pe pa la x N) c)), (13, .int (nI (popc c))), (12, .int (nI c)), (11, .int (nI b0)), (10, .int (nI t0)), (8, .long p0), (6, .long h0), (4, .long (nSum N 5 pe)), (0, .ref o), (1, .int (nI x)), (2, .int w)]) (by simp) (j176 (nI 1) (fun _ => Or.inr ⟨c_145, Or.inr ⟨c_161, by have h : ¬ t0 ≤ popc c := fun h => c_168 ((nI_leI (by omega) (by omega)).mpr h); omega⟩⟩) (fun h => absurd h (by decide)))
            | succ m ih2 =>
              intro k P A B hk
              have hOk := nPl_ok (LT := LT) (b := (bt c)) hO hB hS k (by omega)
              refine j_iload (q := 79) C dX11_choices_77 rfl rfl ?_
              refine j_iload_n (q := 80) C dX11_choices_79 rfl rfl rfl ?_
              refine j_icmp_ge (q := 83) (tgt := 113) C dX11_choices_80 rfl (by decide) (fun c_80 => absurd c_80 (fun h => absurd ((nI_leI (by omega) (by omega)).mp h) (by omega))) (fun c_80 => ?_)
              refine j_iload (q := 85) C dX11_choices_83 rfl rfl ?_
              refine j_iload (q := 87) C dX11_choices_85 rfl rfl ?_
              refine j_ishr (q := 88) C dX11_choices_87 rfl ?_
              refine j_iconst (v := nI 1) (q := 89) C dX11_choices_88 rfl (by decide) ?_
              refine j_iand (q := 90) C dX11_choices_89 rfl ?_
              rw [bitAt k (by omega) c (by omega)]
              refine j_iconst (v := nI 1) (q := 91) C dX11_choices_90 rfl (by decide) ?_
              refine j_icmp_ne (q := 94) (tgt := 103) C dX11_choices_91 rfl (by decide) (fun c_91 => ?_) (fun c_91 => ?_)
              · refine j_aload_n (q := 104) C dX11_choices_103 rfl rfl rfl ?_
                refine jVT jc11 (q := 107) C dX11_choices_104 rfl hR.1.1 mX11_goesBy kw_1147 kw_1148 kw_55 (by first | exact ctX11_goesBy (M := rA o M N) (P := P) (A := A) (B := B) hR hTx.1 (by omega) hL | exact ctX11_goesBy (M := rA o M N) (P := P) (A := A) (B := B) hR hOk.1 (by omega) hL) rfl rfl (by decide) (Nat.le_of_ble_eq_true rfl) (by decide) (fun r_104 M_104 h_104 => ?_)
                obtain ⟨P2, A2, B2, rfl, rfl⟩ := h_104
                first | refine j_iincN (lv' := [(14, _), (13, _), (12, _), (11, _), (10, _), (8, _), (6, _), (4, _), (0, _), (1, _), (2, _)]) (q := 110) C dX11_choices_107 rfl rfl (by decide) rfl ?_ | refine j_iinc (lv' := [(14, _), (13, _), (12, _), (11, _), (10, _), (8, _), (6, _), (4, _), (0, _), (1, _), (2, _)]) (q := 110) C dX11_choices_107 rfl rfl rfl (by decide) rfl ?_
                refine j_goto (tgt := 77) C dX11_choices_110 (by decide) ?_
                have hbk : ¬ bt c k = true := fun h => c_91 (if_pos h)
                have h0' := ih2 (k + 1) P2 A2 B2 (by omega)
                rw [nPl_f hbk, pcK, if_neg hbk, Nat.add_zero] at h0'
                exact j_fewer (lv' := [(14, .int (nI (k + 1))), (13, .int (nI (pcK c k))), (12, .int (nI c)), (11, .int (nI b0)), (10, .int (nI t0)), (8, .long p0), (6, .long h0), (4, .long (nSum N 5 pe)), (0, .ref o), (1, .int (nI x)), (2, .int w)]) (by simp) h0'
              · have hTx := tx_ok hOk.1 hOk.2.1 hOk.2.2
                have hbk : bt c k = true := by
                  rcases Bool.eq_false_or_eq_true (bt c k) with h | h
                  · exact h
                  · rw [if_neg (by rw [h]; decide)] at c_91; exact absurd c_91 (by decide)
                refine j_aload_n (q := 95) C dX11_choices_94 rfl rfl rfl ?_
                refine jV1 jc11 (q := 98) C dX11_choices_95 rfl hR.1.1 mX11_taxes kw_1192 kw_1193 kw_63 (ctX11_taxes (M := rS o (rA o M N) P A B) hR hOk.1.2.1.1 hpe) rfl rfl (by decide) (Nat.le_of_ble_eq_true rfl) (by decide) ?_
                refine j_lstore (lv' := [(15, _), (14, _), (13, _), (12, _), (11, _), (10, _), (8, _), (6, _), (4, _), (0, _), (1, _), (2, _)]) (q := 100) C dX11_choices_98 rfl (by decide) rfl ?_
                first | refine j_iincN (lv' := [(13, _), (15, _), (14, _), (12, _), (11, _), (10, _), (8, _), (6, _), (4, _), (0, _), (1, _), (2, _)]) (q := 103) C dX11_choices_100 rfl rfl (by decide) rfl ?_ | refine j_iinc (lv' := [(13, _), (15, _), (14, _), (12, _), (11, _), (10, _), (8, _), (6, _), (4, _), (0, _), (1, _), (2, _)]) (q := 103) C dX11_choices_100 rfl rfl rfl (by decide) rfl ?_
                refine j_aload_n (q := 104) C dX11_choices_103 rfl rfl rfl ?_
                refine jVT jc11 (q := 107) C dX11_choices_104 rfl hR.1.1 mX11_goesBy kw_1147 kw_1148 kw_55 (by first | exact ctX11_goesBy (M := rA o M N) (P := P) (A := A) (B := B) hR hTx.1 (by omega) hL | exact ctX11_goesBy (M := rA o M N) (P := P) (A := A) (B := B) hR hOk.1 (by omega) hL) rfl rfl (by decide) (Nat.le_of_ble_eq_true rfl) (by decide) (fun r_104 M_104 h_104 => ?_)
                obtain ⟨P2, A2, B2, rfl, rfl⟩ := h_104
                first | refine j_iincN (lv' := [(14, _), (13, _), (15, _), (12, _), (11, _), (10, _), (8, _), (6, _), (4, _), (0, _), (1, _), (2, _)]) (q := 110) C dX11_choices_107 rfl rfl (by decide) rfl ?_ | refine j_iinc (lv' := [(14, _), (13, _), (15, _), (12, _), (11, _), (10, _), (8, _), (6, _), (4, _), (0, _), (1, _), (2, _)]) (q := 110) C dX11_choices_107 rfl rfl rfl (by decide) rfl ?_
                refine j_goto (tgt := 77) C dX11_choices_110 (by decide) ?_
                have h0' := ih2 (k + 1) P2 A2 B2 (by omega)
                rw [nPl_t hbk, pcK, if_pos hbk] at h0'
                exact j_fewer (lv' := [(14, .int (nI (k + 1))), (13, .int (nI (pcK c k + 1))), (12, .int (nI c)), (11, .int (nI b0)), (10, .int (nI t0)), (8, .long p0), (6, .long h0), (4, .long (nSum N 5 pe)), (0, .ref o), (1, .int (nI x)), (2, .int w)]) (by simp) h0'
          exact j_fewer (lv' := [(14, .int (nI 0)), (13, .int (nI (pcK c 0))), (12, .int (nI c)), (11, .int (nI b0)), (10, .int (nI t0)), (8, .long p0), (6, .long h0), (4, .long (nSum N 5 pe)), (0, .ref o), (1, .int (nI x)), (2, .int w)]) (by simp [pcK]) (loop77 x 0 P A B (by omega))
      rw [show rA o M N = rS o (rA o M N) ((rA o M N).2.1 (o + 11)) ((rA o M N).2.1 (o + 12)) ((rA o M N).2.1 (o + 13)) from (rS_self o (rA o M N)).symm]
      exact j_fewer (lv' := [(12, .int (nI 0)), (11, .int (nI 0)), (10, .int (nI 0)), (8, .long 0), (6, .long (-1)), (4, .long (nSum N 5 pe)), (0, .ref o), (1, .int (nI x)), (2, .int w)]) (by simp) (loop63 (2 ^ x) 0 (-1) 0 0 0 _ _ _ (Or.inl ⟨rfl, rfl⟩) (by omega) (by omega))
    · refine j_iload_n (q := 34) C dX11_choices_33 rfl rfl rfl ?_
      first | refine j_i2lN (q := 35) C dX11_choices_34 rfl (by omega) ?_ | refine j_i2l (q := 35) C dX11_choices_34 rfl rfl ?_
      exact j_lret C E dX11_choices_35 rfl rfl (⟨rfl, rfl, ((nA d n 8).1.toInt64, true, N), by unfold cRel; rw [if_pos (show okW w 2 from jb_n.mp c_9), if_pos (nA_1 c_30)], rfl, by rw [nA_1 c_30]; exact mEq.rf.w (Or.inl rfl), jw_at _ _ _⟩)
  · refine j_aload_n (q := 13) C dX11_choices_12 rfl rfl rfl ?_
    refine j_ldc (q := 15) C dX11_choices_13 rfl kw_903 ?_
    refine jV1 jc11 (q := 18) C dX11_choices_15 rfl hR.1.1 mX11_finding kw_904 kw_905 kw_28 (ctX11_finding hR) rfl rfl (by decide) (Nat.le_of_ble_eq_true rfl) (by decide) ?_
    refine j_goto (tgt := 28) C dX11_choices_18 (by decide) ?_
    refine j_istore_n (lv' := [(3, _), (0, _), (1, _), (2, _)]) (q := 29) C dX11_choices_28 rfl rfl (by decide) rfl ?_
    refine j_iload_n (q := 30) C dX11_choices_29 rfl rfl rfl ?_
    refine j_if_eq (q := 33) (tgt := 36) C dX11_choices_30 rfl (by decide) (fun c_30 => absurd c_30 (by decide)) (fun c_30 => ?_)
    refine j_iload_n (q := 34) C dX11_choices_33 rfl rfl rfl ?_
    first | refine j_i2lN (q := 35) C dX11_choices_34 rfl (by omega) ?_ | refine j_i2l (q := 35) C dX11_choices_34 rfl rfl ?_
    exact j_lret C E dX11_choices_35 rfl rfl (⟨rfl, rfl, (-100001, true, N), by unfold cRel; rw [if_neg (show ¬ okW w 2 from jb_0.mp c_9)], rfl, mEq.rf.w (Or.inl rfl), jw_at _ _ _⟩)

set_option maxRecDepth 100000 in
set_option maxHeartbeats 4000000 in
theorem ctX11_cutBy {G : jG} {sz : Nat} {Sh : jS} {M : jM} {o : Nat} {N : Nat → Int64} (hR : rLay o Sh M) {a : Nat} {b : Int64} (ha : a < 611) (hb0 : ¬ b = 0) : jC G yX11_cutBy cX11_cutBy 6 (Option.some FieldType.long) (jrm 1 0 0) sz Sh (jw M (o + 1) N) [.ref o, .int (nI a), .long b] (jR (some (.long (N a - N a / b))) sz Sh (jw M (o + 1) (va_up N a (N a / b)))) := by
  refine jC_start (by decide +kernel) (Nat.le_of_ble_eq_true rfl) (fun X C E hN0 => ?_)
  refine j_aload_n (q := 1) C dX11_cutBy_0 rfl rfl rfl ?_
  refine jg_Model_now (q := 4) C dX11_cutBy_1 rfl hR.1.1 kw_869 hR.2.1 ?_
  refine j_iload_n (q := 5) C dX11_cutBy_4 rfl rfl rfl ?_
  refine j_laldW (q := 6) C dX11_cutBy_5 rfl hR.1.2.1 (by omega) (by decide) ?_
  refine j_lstore (lv' := [(4, _), (0, _), (1, _), (2, _)]) (q := 8) C dX11_cutBy_6 rfl (by decide) rfl ?_
  refine j_aload_n (q := 9) C dX11_cutBy_8 rfl rfl rfl ?_
  refine jg_Model_now (q := 12) C dX11_cutBy_9 rfl hR.1.1 kw_869 hR.2.1 ?_
  refine j_iload_n (q := 13) C dX11_cutBy_12 rfl rfl rfl ?_
  refine j_lload (q := 15) C dX11_cutBy_13 rfl rfl ?_
  refine j_lload_n (q := 16) C dX11_cutBy_15 rfl rfl rfl ?_
  refine j_ldiv (q := 17) C dX11_cutBy_16 rfl hb0 ?_
  refine j_lastW (q := 18) C dX11_cutBy_17 rfl hR.1.2.1 (by omega) (by decide) ?_
  refine j_lload (q := 20) C dX11_cutBy_18 rfl rfl ?_
  refine j_aload_n (q := 21) C dX11_cutBy_20 rfl rfl rfl ?_
  refine jg_Model_now (q := 24) C dX11_cutBy_21 rfl hR.1.1 kw_869 hR.2.1 ?_
  refine j_iload_n (q := 25) C dX11_cutBy_24 rfl rfl rfl ?_
  refine j_laldW (q := 26) C dX11_cutBy_25 rfl hR.1.2.1 (by omega) (by decide) ?_
  refine j_lsub (q := 27) C dX11_cutBy_26 rfl ?_
  exact j_lret C E dX11_cutBy_27 rfl rfl (jR_e (by rw [va_up_self]) rfl)

noncomputable def sSwap (N : Nat → Int64) (d pe pa : Nat) (k : Int32) : sA := if okR k 1 9 then (nCut N k.toNatClampNeg d pe pa (310 + d), false, nCut N k.toNatClampNeg d pe pa) else (-100001, true, N)
theorem nCut1_r {N : Nat → Int64} {b : Int64} {a : Nat} (h : a ≠ 3) : va_up (va_up N a (N a / b)) 3 (N 3 + (N a - N a / b)) = nCut1 N b a := by
  unfold nCut1
  rw [va_comm h]
def sCount (N : Nat → Int64) (pe pa : Nat) (f : Int64) (w : Int32) : sA := if okW w 9 then ((if w = nI 9 then f else sCnt N pe pa w.toNatClampNeg), false, N) else (-100001, true, N)
set_option maxRecDepth 100000 in
set_option maxHeartbeats 4000000 in
theorem ctX11_swap {G : jG} {sz : Nat} {Sh : jS} {M : jM} {o : Nat} {N : Nat → Int64} (hR : rLay o Sh M) {pe : Nat} (h4 : N 4 = lN pe) (hpe : pe ≤ 10) {pa : Nat} (h5 : N 5 = lN pa) (hpa : pa ≤ 24) {d : Nat} (hd : N 0 = lN d) (hd3 : d ≤ 300) {k : Int32} : jC G yX11_swap cX11_swap 5 (Option.some FieldType.long) (jrm 3 0 0) sz Sh (jw M (o + 1) N) [.ref o, .int k] (jPub o sz Sh M (sSwap N d pe pa k)) := by
  refine jC_start (by decide +kernel) (Nat.le_of_ble_eq_true rfl) (fun X C E hN0 => ?_)
  refine j_iload_n (q := 1) C dX11_swap_0 rfl rfl rfl ?_
  first | refine j_i2lN (q := 2) C dX11_swap_1 rfl (by omega) ?_ | refine j_i2l (q := 2) C dX11_swap_1 rfl rfl ?_
  refine j_lconst (v := 1) (q := 3) C dX11_swap_2 rfl (by decide) ?_
  refine j_ldc2 (q := 6) C dX11_swap_3 rfl kw_1199 ?_
  refine jS1 (q := 9) C dX11_swap_6 rfl mX11_within kw_898 kw_899 (ctX11_within) rfl rfl (by decide) (Nat.le_of_ble_eq_true rfl) (by decide) ?_
  refine j_if_ne (q := 12) (tgt := 20) C dX11_swap_9 rfl (by decide) (fun c_9 => ?_) (fun c_9 => ?_)
  · have e_n : okR k 1 9 := jb_n.mp c_9
    obtain ⟨x, hx1, hx2, rfl⟩ := jix3 (by omega) e_n.1 e_n.2 (by omega)
    have eX : (nI x).toNatClampNeg = x := nI_clamp (by omega)
    refine j_lconst (v := 1) (q := 21) C dX11_swap_20 rfl (by decide) ?_
    refine j_lstore_n (lv' := [(2, _), (0, _), (1, _)]) (q := 22) C dX11_swap_21 rfl rfl (by decide) rfl ?_
    refine j_iconst (v := nI 0) (q := 23) C dX11_swap_22 rfl (by decide) ?_
    refine j_istore (lv' := [(4, _), (2, _), (0, _), (1, _)]) (q := 25) C dX11_swap_23 rfl (by decide) rfl ?_
    have hk9 : x ≤ 9 := hx2
    have j149 : ∀ N2 : Nat → Int64, N2 0 = lN d → nCutD N2 (nPow x) (d + 1) = nCut N x d pe pa → jJ G X 0 0 sz Sh (jw M (o + 1) N2) 149 [(4, .int (nI 0)), (2, .long (nPow x)), (0, .ref o), (1, .int (nI x))] [] := by
      intro N2 hN20 hFin
      have loop149 : ∀ (n k : Nat), k + n = d + 1 → jJ G X 0 0 sz Sh (jw M (o + 1) (nCutD N2 (nPow x) k)) 149 [(4, .int (nI k)), (2, .long (nPow x)), (0, .ref o), (1, .int (nI x))] [] := by
        intro n
        induction n with
        | zero =>
          intro k  hk
          have hd0 : nCutD N2 (nPow x) k 0 = lN d := by rw [nCutD_low _ _ _ _ (by omega)]; exact hN20
          refine j_iload (q := 151) C dX11_swap_149 rfl rfl ?_
          refine j_aload_n (q := 152) C dX11_swap_151 rfl rfl rfl ?_
          refine jV1 jc11 (q := 155) C dX11_swap_152 rfl hR.1.1 mX11_today kw_965 kw_966 kw_33 (ctX11_today hR hd0) rfl rfl (by decide) (Nat.le_of_ble_eq_true rfl) (by decide) ?_
          refine j_icmp_gt (q := 158) (tgt := 192) C dX11_swap_155 rfl (by decide) (fun c_155 => ?_) (fun c_155 => absurd (nI_lt (by omega) (by omega)) c_155)
          obtain rfl : d + 1 = k := by omega
          refine j_aload_n (q := 193) C dX11_swap_192 rfl rfl rfl ?_
          refine j_aload_n (q := 194) C dX11_swap_193 rfl rfl rfl ?_
          refine jV1 jc11 (q := 197) C dX11_swap_194 rfl hR.1.1 mX11_today kw_965 kw_966 kw_33 (ctX11_today hR hd0) rfl rfl (by decide) (Nat.le_of_ble_eq_true rfl) (by decide) ?_
          refine jV1 jc11 (q := 200) C dX11_swap_197 rfl hR.1.1 mX11_priceOf kw_968 kw_969 kw_34 (ctX11_priceOf hR (by omega)) rfl rfl (by decide) (Nat.le_of_ble_eq_true rfl) (by decide) ?_
          exact j_lret C E dX11_swap_200 rfl rfl (jPub_o (by unfold sSwap; rw [if_pos e_n, eX, hFin]))
        | succ n ih =>
          intro k  hk
          have hd0 : nCutD N2 (nPow x) k 0 = lN d := by rw [nCutD_low _ _ _ _ (by omega)]; exact hN20
          refine j_iload (q := 151) C dX11_swap_149 rfl rfl ?_
          refine j_aload_n (q := 152) C dX11_swap_151 rfl rfl rfl ?_
          refine jV1 jc11 (q := 155) C dX11_swap_152 rfl hR.1.1 mX11_today kw_965 kw_966 kw_33 (ctX11_today hR hd0) rfl rfl (by decide) (Nat.le_of_ble_eq_true rfl) (by decide) ?_
          refine j_icmp_gt (q := 158) (tgt := 192) C dX11_swap_155 rfl (by decide) (fun c_155 => absurd c_155 (nI_nlt (by omega) (by omega))) (fun c_155 => ?_)
          refine j_aload_n (q := 159) C dX11_swap_158 rfl rfl rfl ?_
          refine jg_Model_now (q := 162) C dX11_swap_159 rfl hR.1.1 kw_869 hR.2.1 ?_
          refine j_sipush (v := nI 310) (q := 165) C dX11_swap_162 rfl (by decide) ?_
          refine j_iload (q := 167) C dX11_swap_165 rfl rfl ?_
          first | refine j_iaddN (q := 168) C dX11_swap_167 rfl ?_ | refine j_iadd (q := 168) C dX11_swap_167 rfl ?_
          refine j_lconst (v := 1) (q := 169) C dX11_swap_168 rfl (by decide) ?_
          refine j_aload_n (q := 170) C dX11_swap_169 rfl rfl rfl ?_
          refine jg_Model_now (q := 173) C dX11_swap_170 rfl hR.1.1 kw_869 hR.2.1 ?_
          refine j_sipush (v := nI 310) (q := 176) C dX11_swap_173 rfl (by decide) ?_
          refine j_iload (q := 178) C dX11_swap_176 rfl rfl ?_
          first | refine j_iaddN (q := 179) C dX11_swap_178 rfl ?_ | refine j_iadd (q := 179) C dX11_swap_178 rfl ?_
          refine j_laldW (q := 180) C dX11_swap_179 rfl hR.1.2.1 (by omega) (by decide) ?_
          refine j_lload_n (q := 181) C dX11_swap_180 rfl rfl rfl ?_
          refine j_ldiv (q := 182) C dX11_swap_181 rfl (nPow_nz hk9) ?_
          refine j_lmax (q := 185) C dX11_swap_182 rfl kw_989 (by decide) (Nat.le_of_ble_eq_true rfl) (by decide) ?_
          refine j_lastW (q := 186) C dX11_swap_185 rfl hR.1.2.1 (by omega) (by decide) ?_
          first | refine j_iincN (lv' := [(4, _), (2, _), (0, _), (1, _)]) (q := 189) C dX11_swap_186 rfl rfl (by decide) rfl ?_ | refine j_iinc (lv' := [(4, _), (2, _), (0, _), (1, _)]) (q := 189) C dX11_swap_186 rfl rfl rfl (by decide) rfl ?_
          refine j_goto (tgt := 149) C dX11_swap_189 (by decide) ?_
          exact j_fewer (lv' := [(4, .int (nI (k + 1))), (2, .long (nPow x)), (0, .ref o), (1, .int (nI x))]) (by simp) (ih (k + 1) (by omega))
      exact loop149 (d + 1) 0 (by omega)
    have j103 : ∀ N1 : Nat → Int64, N1 0 = lN d → N1 5 = lN pa → nCutD (nCutQ N1 (nPow x) pa) (nPow x) (d + 1) = nCut N x d pe pa → jJ G X 0 0 sz Sh (jw M (o + 1) N1) 103 [(4, .int (nI 0)), (2, .long (nPow x)), (0, .ref o), (1, .int (nI x))] [] := by
      intro N1 hN10 hN15 hFin
      have loop103 : ∀ (n k : Nat), k + n = pa → jJ G X 0 0 sz Sh (jw M (o + 1) (nCutQ N1 (nPow x) k)) 103 [(4, .int (nI k)), (2, .long (nPow x)), (0, .ref o), (1, .int (nI x))] [] := by
        intro n
        induction n with
        | zero =>
          intro k  hk
          have h5k : nCutQ N1 (nPow x) k 5 = lN pa := by rw [nCutQ_low _ _ _ _ (fun i hi => by omega)]; exact hN15
          refine j_iload (q := 105) C dX11_swap_103 rfl rfl ?_
          first | refine j_i2lN (q := 106) C dX11_swap_105 rfl (by omega) ?_ | refine j_i2l (q := 106) C dX11_swap_105 rfl rfl ?_
          refine j_aload_n (q := 107) C dX11_swap_106 rfl rfl rfl ?_
          refine jg_Model_now (q := 110) C dX11_swap_107 rfl hR.1.1 kw_869 hR.2.1 ?_
          refine j_iconst (v := nI 5) (q := 111) C dX11_swap_110 rfl (by decide) ?_
          refine j_laldW (q := 112) C dX11_swap_111 rfl hR.1.2.1 (by omega) (by decide) ?_
          rw [h5k]
          refine j_lcmp_ge (q1 := 113) (q := 116) (tgt := 146) C dX11_swap_112 dX11_swap_113 rfl rfl (by decide) (fun c_113 => ?_) (fun c_113 => absurd ((lN_le (by omega) (by omega)).mpr (by omega)) c_113)
          obtain rfl : pa = k := by omega
          refine j_iconst (v := nI 0) (q := 147) C dX11_swap_146 rfl (by decide) ?_
          refine j_istore (lv' := [(4, _), (2, _), (0, _), (1, _)]) (q := 149) C dX11_swap_147 rfl (by decide) rfl ?_
          exact j_fewer (lv' := [(4, .int (nI 0)), (2, .long (nPow x)), (0, .ref o), (1, .int (nI x))]) (by simp) (j149 _ (by rw [nCutQ_low _ _ _ _ (fun i hi => by omega)]; exact hN10) hFin)
        | succ n ih =>
          intro k  hk
          have h5k : nCutQ N1 (nPow x) k 5 = lN pa := by rw [nCutQ_low _ _ _ _ (fun i hi => by omega)]; exact hN15
          refine j_iload (q := 105) C dX11_swap_103 rfl rfl ?_
          first | refine j_i2lN (q := 106) C dX11_swap_105 rfl (by omega) ?_ | refine j_i2l (q := 106) C dX11_swap_105 rfl rfl ?_
          refine j_aload_n (q := 107) C dX11_swap_106 rfl rfl rfl ?_
          refine jg_Model_now (q := 110) C dX11_swap_107 rfl hR.1.1 kw_869 hR.2.1 ?_
          refine j_iconst (v := nI 5) (q := 111) C dX11_swap_110 rfl (by decide) ?_
          refine j_laldW (q := 112) C dX11_swap_111 rfl hR.1.2.1 (by omega) (by decide) ?_
          rw [h5k]
          refine j_lcmp_ge (q1 := 113) (q := 116) (tgt := 146) C dX11_swap_112 dX11_swap_113 rfl rfl (by decide) (fun c_113 => absurd c_113 (fun h => absurd ((lN_le (by omega) (by omega)).mp h) (by omega))) (fun c_113 => ?_)
          refine j_aload_n (q := 117) C dX11_swap_116 rfl rfl rfl ?_
          refine j_iload (q := 119) C dX11_swap_117 rfl rfl ?_
          refine jV1 jc11 (q := 122) C dX11_swap_119 rfl hR.1.1 mX11_isOpen kw_959 kw_960 kw_31 (ctX11_isOpen hR (by omega)) rfl rfl (by decide) (Nat.le_of_ble_eq_true rfl) (by decide) ?_
          refine j_if_eq (q := 125) (tgt := 140) C dX11_swap_122 rfl (by decide) (fun c_122 => ?_) (fun c_122 => ?_)
          · first | refine j_iincN (lv' := [(4, _), (2, _), (0, _), (1, _)]) (q := 143) C dX11_swap_140 rfl rfl (by decide) rfl ?_ | refine j_iinc (lv' := [(4, _), (2, _), (0, _), (1, _)]) (q := 143) C dX11_swap_140 rfl rfl rfl (by decide) rfl ?_
            refine j_goto (tgt := 103) C dX11_swap_143 (by decide) ?_
            have h0 := ih (k + 1) (by omega)
            rw [nCutQ, if_neg (fun h => jb_0.mp c_122 h)] at h0
            exact j_fewer (lv' := [(4, .int (nI (k + 1))), (2, .long (nPow x)), (0, .ref o), (1, .int (nI x))]) (by simp) h0
          · refine j_aload_n (q := 126) C dX11_swap_125 rfl rfl rfl ?_
            refine jg_Model_now (q := 129) C dX11_swap_126 rfl hR.1.1 kw_869 hR.2.1 ?_
            refine j_iload (q := 131) C dX11_swap_129 rfl rfl ?_
            refine j_iconst (v := nI 3) (q := 132) C dX11_swap_131 rfl (by decide) ?_
            refine jS1 (q := 135) C dX11_swap_132 rfl mX11_ofPaper kw_937 kw_938 ctX11_ofPaper rfl rfl (by decide) (Nat.le_of_ble_eq_true rfl) (by decide) ?_
            refine j_dup2_11 (q := 136) C dX11_swap_135 rfl rfl rfl ?_
            refine j_laldW (q := 137) C dX11_swap_136 rfl hR.1.2.1 (by omega) (by decide) ?_
            refine j_lload_n (q := 138) C dX11_swap_137 rfl rfl rfl ?_
            refine j_ldiv (q := 139) C dX11_swap_138 rfl (nPow_nz hk9) ?_
            refine j_lastW (q := 140) C dX11_swap_139 rfl hR.1.2.1 (by omega) (by decide) ?_
            first | refine j_iincN (lv' := [(4, _), (2, _), (0, _), (1, _)]) (q := 143) C dX11_swap_140 rfl rfl (by decide) rfl ?_ | refine j_iinc (lv' := [(4, _), (2, _), (0, _), (1, _)]) (q := 143) C dX11_swap_140 rfl rfl rfl (by decide) rfl ?_
            refine j_goto (tgt := 103) C dX11_swap_143 (by decide) ?_
            have h0 := ih (k + 1) (by omega)
            rw [nCutQ, if_pos (jb_n.mp c_122)] at h0
            exact j_fewer (lv' := [(4, .int (nI (k + 1))), (2, .long (nPow x)), (0, .ref o), (1, .int (nI x))]) (by simp) h0
      exact loop103 pa 0 (by omega)
    have loop25 : ∀ (m k : Nat), k + m = x → jJ G X 0 0 sz Sh (jw M (o + 1) N) 25 [(4, .int (nI k)), (2, .long (nPow k)), (0, .ref o), (1, .int (nI x))] [] := by
      intro m
      induction m with
      | zero =>
        intro k  hk
        refine j_iload (q := 27) C dX11_swap_25 rfl rfl ?_
        refine j_iload_n (q := 28) C dX11_swap_27 rfl rfl rfl ?_
        refine j_icmp_ge (q := 31) (tgt := 43) C dX11_swap_28 rfl (by decide) (fun c_28 => ?_) (fun c_28 => absurd (nI_le (by omega) (by omega)) c_28)
        obtain rfl : x = k := by omega
        refine j_aload_n (q := 44) C dX11_swap_43 rfl rfl rfl ?_
        refine jg_Model_now (q := 47) C dX11_swap_44 rfl hR.1.1 kw_869 hR.2.1 ?_
        refine j_iconst (v := nI 3) (q := 48) C dX11_swap_47 rfl (by decide) ?_
        refine j_dup2_11 (q := 49) C dX11_swap_48 rfl rfl rfl ?_
        refine j_laldW (q := 50) C dX11_swap_49 rfl hR.1.2.1 (by omega) (by decide) ?_
        refine j_aload_n (q := 51) C dX11_swap_50 rfl rfl rfl ?_
        refine j_iconst (v := nI 1) (q := 52) C dX11_swap_51 rfl (by decide) ?_
        refine j_lload_n (q := 53) C dX11_swap_52 rfl rfl rfl ?_
        refine jV1 jc11 (q := 56) C dX11_swap_53 rfl hR.1.1 mX11_cutBy kw_1200 kw_1201 kw_64 (ctX11_cutBy hR (by omega) (nPow_nz hk9)) rfl rfl (by decide) (Nat.le_of_ble_eq_true rfl) (by decide) ?_
        refine j_ladd (q := 57) C dX11_swap_56 rfl ?_
        refine j_lastW (q := 58) C dX11_swap_57 rfl hR.1.2.1 (by omega) (by decide) ?_
        refine j_iconst (v := nI 0) (q := 59) C dX11_swap_58 rfl (by decide) ?_
        refine j_istore (lv' := [(4, _), (2, _), (0, _), (1, _)]) (q := 61) C dX11_swap_59 rfl (by decide) rfl ?_
        have loop61 : ∀ (nq k : Nat), k + nq = pe → jJ G X 0 0 sz Sh (jw M (o + 1) (nCutP N (nPow x) k)) 61 [(4, .int (nI k)), (2, .long (nPow x)), (0, .ref o), (1, .int (nI x))] [] := by
          intro nq
          induction nq with
          | zero =>
            intro k  hk
            have h4k : nCutP N (nPow x) k 4 = lN pe := by rw [nCutP_low _ _ _ _ (by omega)]; exact h4
            refine j_iload (q := 63) C dX11_swap_61 rfl rfl ?_
            first | refine j_i2lN (q := 64) C dX11_swap_63 rfl (by omega) ?_ | refine j_i2l (q := 64) C dX11_swap_63 rfl rfl ?_
            refine j_aload_n (q := 65) C dX11_swap_64 rfl rfl rfl ?_
            refine jg_Model_now (q := 68) C dX11_swap_65 rfl hR.1.1 kw_869 hR.2.1 ?_
            refine j_iconst (v := nI 4) (q := 69) C dX11_swap_68 rfl (by decide) ?_
            refine j_laldW (q := 70) C dX11_swap_69 rfl hR.1.2.1 (by omega) (by decide) ?_
            rw [h4k]
            refine j_lcmp_ge (q1 := 71) (q := 74) (tgt := 100) C dX11_swap_70 dX11_swap_71 rfl rfl (by decide) (fun c_71 => ?_) (fun c_71 => absurd ((lN_le (by omega) (by omega)).mpr (by omega)) c_71)
            obtain rfl : pe = k := by omega
            refine j_iconst (v := nI 0) (q := 101) C dX11_swap_100 rfl (by decide) ?_
            refine j_istore (lv' := [(4, _), (2, _), (0, _), (1, _)]) (q := 103) C dX11_swap_101 rfl (by decide) rfl ?_
            exact j_fewer (lv' := [(4, .int (nI 0)), (2, .long (nPow x)), (0, .ref o), (1, .int (nI x))]) (by simp) (j103 _ (by rw [nCutP_low _ _ _ _ (by omega)]; exact hd) (by rw [nCutP_low _ _ _ _ (by omega)]; exact h5) rfl)
          | succ nq ih =>
            intro k  hk
            have h4k : nCutP N (nPow x) k 4 = lN pe := by rw [nCutP_low _ _ _ _ (by omega)]; exact h4
            refine j_iload (q := 63) C dX11_swap_61 rfl rfl ?_
            first | refine j_i2lN (q := 64) C dX11_swap_63 rfl (by omega) ?_ | refine j_i2l (q := 64) C dX11_swap_63 rfl rfl ?_
            refine j_aload_n (q := 65) C dX11_swap_64 rfl rfl rfl ?_
            refine jg_Model_now (q := 68) C dX11_swap_65 rfl hR.1.1 kw_869 hR.2.1 ?_
            refine j_iconst (v := nI 4) (q := 69) C dX11_swap_68 rfl (by decide) ?_
            refine j_laldW (q := 70) C dX11_swap_69 rfl hR.1.2.1 (by omega) (by decide) ?_
            rw [h4k]
            refine j_lcmp_ge (q1 := 71) (q := 74) (tgt := 100) C dX11_swap_70 dX11_swap_71 rfl rfl (by decide) (fun c_71 => absurd c_71 (fun h => absurd ((lN_le (by omega) (by omega)).mp h) (by omega))) (fun c_71 => ?_)
            refine j_aload_n (q := 75) C dX11_swap_74 rfl rfl rfl ?_
            refine jg_Model_now (q := 78) C dX11_swap_75 rfl hR.1.1 kw_869 hR.2.1 ?_
            refine j_iconst (v := nI 3) (q := 79) C dX11_swap_78 rfl (by decide) ?_
            refine j_dup2_11 (q := 80) C dX11_swap_79 rfl rfl rfl ?_
            refine j_laldW (q := 81) C dX11_swap_80 rfl hR.1.2.1 (by omega) (by decide) ?_
            refine j_aload_n (q := 82) C dX11_swap_81 rfl rfl rfl ?_
            refine j_iload (q := 84) C dX11_swap_82 rfl rfl ?_
            refine j_iconst (v := nI 0) (q := 85) C dX11_swap_84 rfl (by decide) ?_
            refine jS1 (q := 88) C dX11_swap_85 rfl mX11_of kw_908 kw_909 ctX11_of rfl rfl (by decide) (Nat.le_of_ble_eq_true rfl) (by decide) ?_
            refine j_lload_n (q := 89) C dX11_swap_88 rfl rfl rfl ?_
            refine jV1 jc11 (q := 92) C dX11_swap_89 rfl hR.1.1 mX11_cutBy kw_1200 kw_1201 kw_64 (ctX11_cutBy hR (by omega) (nPow_nz hk9)) rfl rfl (by decide) (Nat.le_of_ble_eq_true rfl) (by decide) ?_
            refine j_ladd (q := 93) C dX11_swap_92 rfl ?_
            refine j_lastW (q := 94) C dX11_swap_93 rfl hR.1.2.1 (by omega) (by decide) ?_
            first | refine j_iincN (lv' := [(4, _), (2, _), (0, _), (1, _)]) (q := 97) C dX11_swap_94 rfl rfl (by decide) rfl ?_ | refine j_iinc (lv' := [(4, _), (2, _), (0, _), (1, _)]) (q := 97) C dX11_swap_94 rfl rfl rfl (by decide) rfl ?_
            refine j_goto (tgt := 61) C dX11_swap_97 (by decide) ?_
            have h0 := ih (k + 1) (by omega)
            rw [nCutP] at h0
            rw [nCut1_r (by omega)]
            exact j_fewer (lv' := [(4, .int (nI (k + 1))), (2, .long (nPow x)), (0, .ref o), (1, .int (nI x))]) (by simp) h0
        rw [nCut1_r (by omega)]
        exact j_fewer (lv' := [(4, .int (nI 0)), (2, .long (nPow x)), (0, .ref o), (1, .int (nI x))]) (by simp) (loop61 pe 0 (by omega))
      | succ m ih =>
        intro k  hk
        refine j_iload (q := 27) C dX11_swap_25 rfl rfl ?_
        refine j_iload_n (q := 28) C dX11_swap_27 rfl rfl rfl ?_
        refine j_icmp_ge (q := 31) (tgt := 43) C dX11_swap_28 rfl (by decide) (fun c_28 => absurd c_28 (fun h => absurd ((nI_leI (by omega) (by omega)).mp h) (by omega))) (fun c_28 => ?_)
        refine j_lload_n (q := 32) C dX11_swap_31 rfl rfl rfl ?_
        refine j_ldc2 (q := 35) C dX11_swap_32 rfl kw_921 ?_
        refine j_lmul (q := 36) C dX11_swap_35 rfl ?_
        refine j_lstore_n (lv' := [(2, _), (4, _), (0, _), (1, _)]) (q := 37) C dX11_swap_36 rfl rfl (by decide) rfl ?_
        first | refine j_iincN (lv' := [(4, _), (2, _), (0, _), (1, _)]) (q := 40) C dX11_swap_37 rfl rfl (by decide) rfl ?_ | refine j_iinc (lv' := [(4, _), (2, _), (0, _), (1, _)]) (q := 40) C dX11_swap_37 rfl rfl rfl (by decide) rfl ?_
        refine j_goto (tgt := 25) C dX11_swap_40 (by decide) ?_
        exact j_fewer (lv' := [(4, .int (nI (k + 1))), (2, .long (nPow (k + 1))), (0, .ref o), (1, .int (nI x))]) (by simp [show nPow (k + 1) = nPow k * 10 from rfl]) (ih (k + 1) (by omega))
    exact j_fewer (lv' := [(4, .int (nI 0)), (2, .long (nPow 0)), (0, .ref o), (1, .int (nI x))]) (by simp [nPow]) (loop25 x 0 (by omega))
  · refine j_aload_n (q := 13) C dX11_swap_12 rfl rfl rfl ?_
    refine j_ldc (q := 15) C dX11_swap_13 rfl kw_903 ?_
    refine jV1 jc11 (q := 18) C dX11_swap_15 rfl hR.1.1 mX11_finding kw_904 kw_905 kw_28 (ctX11_finding hR) rfl rfl (by decide) (Nat.le_of_ble_eq_true rfl) (by decide) ?_
    first | refine j_i2lN (q := 19) C dX11_swap_18 rfl (by omega) ?_ | refine j_i2l (q := 19) C dX11_swap_18 rfl rfl ?_
    exact j_lret C E dX11_swap_19 rfl rfl (jPub_b (if_neg (jb_0.mp c_9)))

set_option maxRecDepth 100000 in
set_option maxHeartbeats 4000000 in
theorem ctX11_count {G : jG} {sz : Nat} {Sh : jS} {M : jM} {o : Nat} {N : Nat → Int64} (hR : rLay o Sh M) {pe : Nat} (h4 : N 4 = lN pe) (hpe : pe ≤ 10) {pa : Nat} (h5 : N 5 = lN pa) (hpa : pa ≤ 24) {w : Int32} : jC G yX11_count cX11_count 5 (Option.some FieldType.long) (jrm 3 0 0) sz Sh (jw M (o + 1) N) [.ref o, .int w] (jPub o sz Sh M (sCount N pe pa (M.1 o 6).toInt64 w)) := by
  refine jC_start (by decide +kernel) (Nat.le_of_ble_eq_true rfl) (fun X C E hN0 => ?_)
  refine j_lconst (v := 0) (q := 1) C dX11_count_0 rfl (by decide) ?_
  refine j_lstore_n (lv' := [(2, _), (0, _), (1, _)]) (q := 2) C dX11_count_1 rfl rfl (by decide) rfl ?_
  refine j_iconst (v := nI 0) (q := 3) C dX11_count_2 rfl (by decide) ?_
  refine j_istore (lv' := [(4, _), (2, _), (0, _), (1, _)]) (q := 5) C dX11_count_3 rfl (by decide) rfl ?_
  have loop5 : ∀ (n k : Nat), k + n = pa → jJ G X 0 0 sz Sh (jw M (o + 1) N) 5 [(4, .int (nI k)), (2, .long (nOpen N k)), (0, .ref o), (1, .int w)] [] := by
    intro n
    induction n with
    | zero =>
      intro k  hk
      refine j_iload (q := 7) C dX11_count_5 rfl rfl ?_
      first | refine j_i2lN (q := 8) C dX11_count_7 rfl (by omega) ?_ | refine j_i2l (q := 8) C dX11_count_7 rfl rfl ?_
      refine j_aload_n (q := 9) C dX11_count_8 rfl rfl rfl ?_
      refine jg_Model_now (q := 12) C dX11_count_9 rfl hR.1.1 kw_869 hR.2.1 ?_
      refine j_iconst (v := nI 5) (q := 13) C dX11_count_12 rfl (by decide) ?_
      refine j_laldW (q := 14) C dX11_count_13 rfl hR.1.2.1 (by omega) (by decide) ?_
      rw [h5]
      refine j_lcmp_ge (q1 := 15) (q := 18) (tgt := 41) C dX11_count_14 dX11_count_15 rfl rfl (by decide) (fun c_15 => ?_) (fun c_15 => absurd ((lN_le (by omega) (by omega)).mpr (by omega)) c_15)
      obtain rfl : pa = k := by omega
      by_cases hw9 : okW w 9
      · obtain ⟨v, hv9, rfl⟩ := jix2 (by omega) hw9.1 hw9.2
        rcases (show v = 0 ∨ v = 1 ∨ v = 2 ∨ v = 3 ∨ v = 4 ∨ v = 5 ∨ v = 6 ∨ v = 7 ∨ v = 8 ∨ v = 9 by omega) with e | e | e | e | e | e | e | e | e | e <;> subst e
        · refine j_iload_n (q := 42) C dX11_count_41 rfl rfl rfl ?_
          refine j_swIn (tgt := 96) C dX11_count_42 (by decide) (by decide) rfl (by decide) ?_
          refine j_aload_n (q := 97) C dX11_count_96 rfl rfl rfl ?_
          refine jg_Model_now (q := 100) C dX11_count_97 rfl hR.1.1 kw_869 hR.2.1 ?_
          refine j_iconst (v := nI 4) (q := 101) C dX11_count_100 rfl (by decide) ?_
          refine j_laldW (q := 102) C dX11_count_101 rfl hR.1.2.1 (by omega) (by decide) ?_
          exact j_lret C E dX11_count_102 rfl rfl (jPub_o (by unfold sCount; rw [if_pos (show okW (nI 0) 9 from ⟨by decide, by decide⟩), if_neg (by decide)]; rfl))
        · refine j_iload_n (q := 42) C dX11_count_41 rfl rfl rfl ?_
          refine j_swIn (tgt := 103) C dX11_count_42 (by decide) (by decide) rfl (by decide) ?_
          refine j_aload_n (q := 104) C dX11_count_103 rfl rfl rfl ?_
          refine jg_Model_now (q := 107) C dX11_count_104 rfl hR.1.1 kw_869 hR.2.1 ?_
          refine j_iconst (v := nI 5) (q := 108) C dX11_count_107 rfl (by decide) ?_
          refine j_laldW (q := 109) C dX11_count_108 rfl hR.1.2.1 (by omega) (by decide) ?_
          exact j_lret C E dX11_count_109 rfl rfl (jPub_o (by unfold sCount; rw [if_pos (show okW (nI 1) 9 from ⟨by decide, by decide⟩), if_neg (by decide)]; rfl))
        · refine j_iload_n (q := 42) C dX11_count_41 rfl rfl rfl ?_
          refine j_swIn (tgt := 110) C dX11_count_42 (by decide) (by decide) rfl (by decide) ?_
          refine j_lload_n (q := 111) C dX11_count_110 rfl rfl rfl ?_
          exact j_lret C E dX11_count_111 rfl rfl (jPub_o (by unfold sCount; rw [if_pos (show okW (nI 2) 9 from ⟨by decide, by decide⟩), if_neg (by decide)]; rfl))
        · refine j_iload_n (q := 42) C dX11_count_41 rfl rfl rfl ?_
          refine j_swIn (tgt := 112) C dX11_count_42 (by decide) (by decide) rfl (by decide) ?_
          refine j_aload_n (q := 113) C dX11_count_112 rfl rfl rfl ?_
          refine jg_Model_now (q := 116) C dX11_count_113 rfl hR.1.1 kw_869 hR.2.1 ?_
          refine j_iconst (v := nI 0) (q := 117) C dX11_count_116 rfl (by decide) ?_
          refine j_laldW (q := 118) C dX11_count_117 rfl hR.1.2.1 (by omega) (by decide) ?_
          exact j_lret C E dX11_count_118 rfl rfl (jPub_o (by unfold sCount; rw [if_pos (show okW (nI 3) 9 from ⟨by decide, by decide⟩), if_neg (by decide)]; rfl))
        · refine j_iload_n (q := 42) C dX11_count_41 rfl rfl rfl ?_
          refine j_swIn (tgt := 119) C dX11_count_42 (by decide) (by decide) rfl (by decide) ?_
          refine j_aload_n (q := 120) C dX11_count_119 rfl rfl rfl ?_
          refine jg_Model_now (q := 123) C dX11_count_120 rfl hR.1.1 kw_869 hR.2.1 ?_
          refine j_iconst (v := nI 1) (q := 124) C dX11_count_123 rfl (by decide) ?_
          refine j_laldW (q := 125) C dX11_count_124 rfl hR.1.2.1 (by omega) (by decide) ?_
          exact j_lret C E dX11_count_125 rfl rfl (jPub_o (by unfold sCount; rw [if_pos (show okW (nI 4) 9 from ⟨by decide, by decide⟩), if_neg (by decide)]; rfl))
        · refine j_iload_n (q := 42) C dX11_count_41 rfl rfl rfl ?_
          refine j_swIn (tgt := 126) C dX11_count_42 (by decide) (by decide) rfl (by decide) ?_
          refine j_aload_n (q := 127) C dX11_count_126 rfl rfl rfl ?_
          refine j_iconst (v := nI 0) (q := 128) C dX11_count_127 rfl (by decide) ?_
          refine jV1 jc11 (q := 131) C dX11_count_128 rfl hR.1.1 mX11_allOf kw_1263 kw_1264 kw_69 (ctX11_allOf hR h4 hpe (by omega)) rfl rfl (by decide) (Nat.le_of_ble_eq_true rfl) (by decide) ?_
          exact j_lret C E dX11_count_131 rfl rfl (jPub_o (by unfold sCount; rw [if_pos (show okW (nI 5) 9 from ⟨by decide, by decide⟩), if_neg (by decide)]; rfl))
        · refine j_iload_n (q := 42) C dX11_count_41 rfl rfl rfl ?_
          refine j_swIn (tgt := 132) C dX11_count_42 (by decide) (by decide) rfl (by decide) ?_
          refine j_aload_n (q := 133) C dX11_count_132 rfl rfl rfl ?_
          refine jg_Model_now (q := 136) C dX11_count_133 rfl hR.1.1 kw_869 hR.2.1 ?_
          refine j_iconst (v := nI 2) (q := 137) C dX11_count_136 rfl (by decide) ?_
          refine j_laldW (q := 138) C dX11_count_137 rfl hR.1.2.1 (by omega) (by decide) ?_
          exact j_lret C E dX11_count_138 rfl rfl (jPub_o (by unfold sCount; rw [if_pos (show okW (nI 6) 9 from ⟨by decide, by decide⟩), if_neg (by decide)]; rfl))
        · refine j_iload_n (q := 42) C dX11_count_41 rfl rfl rfl ?_
          refine j_swIn (tgt := 139) C dX11_count_42 (by decide) (by decide) rfl (by decide) ?_
          refine j_aload_n (q := 140) C dX11_count_139 rfl rfl rfl ?_
          refine jg_Model_now (q := 143) C dX11_count_140 rfl hR.1.1 kw_869 hR.2.1 ?_
          refine j_iconst (v := nI 3) (q := 144) C dX11_count_143 rfl (by decide) ?_
          refine j_laldW (q := 145) C dX11_count_144 rfl hR.1.2.1 (by omega) (by decide) ?_
          exact j_lret C E dX11_count_145 rfl rfl (jPub_o (by unfold sCount; rw [if_pos (show okW (nI 7) 9 from ⟨by decide, by decide⟩), if_neg (by decide)]; rfl))
        · refine j_iload_n (q := 42) C dX11_count_41 rfl rfl rfl ?_
          refine j_swIn (tgt := 146) C dX11_count_42 (by decide) (by decide) rfl (by decide) ?_
          refine j_aload_n (q := 147) C dX11_count_146 rfl rfl rfl ?_
          refine j_iconst (v := nI 1) (q := 148) C dX11_count_147 rfl (by decide) ?_
          refine jV1 jc11 (q := 151) C dX11_count_148 rfl hR.1.1 mX11_allOf kw_1263 kw_1264 kw_69 (ctX11_allOf hR h4 hpe (by omega)) rfl rfl (by decide) (Nat.le_of_ble_eq_true rfl) (by decide) ?_
          exact j_lret C E dX11_count_151 rfl rfl (jPub_o (by unfold sCount; rw [if_pos (show okW (nI 8) 9 from ⟨by decide, by decide⟩), if_neg (by decide)]; rfl))
        · refine j_iload_n (q := 42) C dX11_count_41 rfl rfl rfl ?_
          refine j_swIn (tgt := 152) C dX11_count_42 (by decide) (by decide) rfl (by decide) ?_
          refine j_aload_n (q := 153) C dX11_count_152 rfl rfl rfl ?_
          refine jg_Model_findings (q := 156) C dX11_count_153 rfl hR.1.1 kw_875 ?_
          first | refine j_i2lN (q := 157) C dX11_count_156 rfl (by omega) ?_ | refine j_i2l (q := 157) C dX11_count_156 rfl rfl ?_
          exact j_lret C E dX11_count_157 rfl rfl (jPub_o (by unfold sCount; rw [if_pos (show okW (nI 9) 9 from ⟨by decide, by decide⟩), if_pos rfl]; rfl))
      · have hnw := hw9
        have hout : w.toInt < 0 ∨ 9 < w.toInt := by
          by_cases h1 : w.toInt < 0
          · exact Or.inl h1
          · by_cases h2 : 9 < w.toInt
            · exact Or.inr h2
            · exfalso
              apply hw9
              constructor
              · rw [Int64.le_iff_toInt_le, i32_l]
                show (0 : Int) ≤ _
                omega
              · rw [Int64.le_iff_toInt_le, i32_l]
                show _ ≤ (9 : Int)
                omega
        refine j_iload_n (q := 42) C dX11_count_41 rfl rfl rfl ?_
        refine j_swOut (tgt := 158) C dX11_count_42 hout (by decide) ?_
        refine j_aload_n (q := 159) C dX11_count_158 rfl rfl rfl ?_
        refine j_ldc (q := 161) C dX11_count_159 rfl kw_903 ?_
        refine jV1 jc11 (q := 164) C dX11_count_161 rfl hR.1.1 mX11_finding kw_904 kw_905 kw_28 (ctX11_finding hR) rfl rfl (by decide) (Nat.le_of_ble_eq_true rfl) (by decide) ?_
        first | refine j_i2lN (q := 165) C dX11_count_164 rfl (by omega) ?_ | refine j_i2l (q := 165) C dX11_count_164 rfl rfl ?_
        exact j_lret C E dX11_count_165 rfl rfl (jPub_b (if_neg hnw))
    | succ n ih =>
      intro k  hk
      refine j_iload (q := 7) C dX11_count_5 rfl rfl ?_
      first | refine j_i2lN (q := 8) C dX11_count_7 rfl (by omega) ?_ | refine j_i2l (q := 8) C dX11_count_7 rfl rfl ?_
      refine j_aload_n (q := 9) C dX11_count_8 rfl rfl rfl ?_
      refine jg_Model_now (q := 12) C dX11_count_9 rfl hR.1.1 kw_869 hR.2.1 ?_
      refine j_iconst (v := nI 5) (q := 13) C dX11_count_12 rfl (by decide) ?_
      refine j_laldW (q := 14) C dX11_count_13 rfl hR.1.2.1 (by omega) (by decide) ?_
      rw [h5]
      refine j_lcmp_ge (q1 := 15) (q := 18) (tgt := 41) C dX11_count_14 dX11_count_15 rfl rfl (by decide) (fun c_15 => absurd c_15 (fun h => absurd ((lN_le (by omega) (by omega)).mp h) (by omega))) (fun c_15 => ?_)
      refine j_lload_n (q := 19) C dX11_count_18 rfl rfl rfl ?_
      refine j_aload_n (q := 20) C dX11_count_19 rfl rfl rfl ?_
      refine j_iload (q := 22) C dX11_count_20 rfl rfl ?_
      refine jV1 jc11 (q := 25) C dX11_count_22 rfl hR.1.1 mX11_isOpen kw_959 kw_960 kw_31 (ctX11_isOpen hR (by omega)) rfl rfl (by decide) (Nat.le_of_ble_eq_true rfl) (by decide) ?_
      refine j_if_eq (q := 28) (tgt := 32) C dX11_count_25 rfl (by decide) (fun c_25 => ?_) (fun c_25 => ?_)
      · refine j_lconst (v := 0) (q := 33) C dX11_count_32 rfl (by decide) ?_
        refine j_ladd (q := 34) C dX11_count_33 rfl ?_
        refine j_lstore_n (lv' := [(2, _), (4, _), (0, _), (1, _)]) (q := 35) C dX11_count_34 rfl rfl (by decide) rfl ?_
        first | refine j_iincN (lv' := [(4, _), (2, _), (0, _), (1, _)]) (q := 38) C dX11_count_35 rfl rfl (by decide) rfl ?_ | refine j_iinc (lv' := [(4, _), (2, _), (0, _), (1, _)]) (q := 38) C dX11_count_35 rfl rfl rfl (by decide) rfl ?_
        refine j_goto (tgt := 5) C dX11_count_38 (by decide) ?_
        exact j_fewer (lv' := [(4, .int (nI (k + 1))), (2, .long (nOpen N (k + 1))), (0, .ref o), (1, .int w)]) (by simp [nOpen, if_neg (jb_0.mp c_25)]) (ih (k + 1) (by omega))
      · refine j_lconst (v := 1) (q := 29) C dX11_count_28 rfl (by decide) ?_
        refine j_goto (tgt := 33) C dX11_count_29 (by decide) ?_
        refine j_ladd (q := 34) C dX11_count_33 rfl ?_
        refine j_lstore_n (lv' := [(2, _), (4, _), (0, _), (1, _)]) (q := 35) C dX11_count_34 rfl rfl (by decide) rfl ?_
        first | refine j_iincN (lv' := [(4, _), (2, _), (0, _), (1, _)]) (q := 38) C dX11_count_35 rfl rfl (by decide) rfl ?_ | refine j_iinc (lv' := [(4, _), (2, _), (0, _), (1, _)]) (q := 38) C dX11_count_35 rfl rfl rfl (by decide) rfl ?_
        refine j_goto (tgt := 5) C dX11_count_38 (by decide) ?_
        exact j_fewer (lv' := [(4, .int (nI (k + 1))), (2, .long (nOpen N (k + 1))), (0, .ref o), (1, .int w)]) (by simp [nOpen, if_pos (jb_n.mp c_25)]) (ih (k + 1) (by omega))
  exact j_fewer (lv' := [(4, .int (nI 0)), (2, .long (nOpen N 0)), (0, .ref o), (1, .int w)]) (by simp [nOpen]) (loop5 pa 0 (by omega))

