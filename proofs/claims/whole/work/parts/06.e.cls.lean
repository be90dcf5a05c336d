set_option maxRecDepth 100000 in
set_option maxHeartbeats 4000000 in
theorem ctX4_hold {G : jG} {sz : Nat} {Sh : jS} {M : jM} {w q pr lw jg mk : Nat} {K : Nat → Int64} (hW : wLay w q pr lw jg mk Sh M) (hM : vK w q pr lw M = K) (hL : mLay mk Sh M) (hAp : mAp w q pr lw mk) {d pe pa la : Nat} (hO : nOk K d pe pa la) (hB : nB K d pe) : jC G yX4_hold cX4_hold 9 (Option.some FieldType.long) (jrm 4 0 0) sz Sh M [.ref mk, .ref w] (jT sz Sh (wT (wSM w q pr mk) w q pr lw M (nBuys (nAsk K) (nPrice K (nAsk K) (nOff K d) d pe) pe (nOff K d, K) pe).2 (some (.long (nPrice K (nAsk K) (nOff K d) d pe))))) := by
  refine jC_start (by decide +kernel) (Nat.le_of_ble_eq_true rfl) (fun X C E hN0 => ?_)
  have hd : K 0 = lN d := hO.1.1
  have hd3 : d ≤ 300 := hO.1.2
  have h4 : K 4 = lN pe := hO.2.1.1
  have hpe : pe ≤ 10 := hO.2.1.2
  have hprO : ∀ k, k ≤ d → prOk (K (310 + k)) := hO.2.2.2.2.2
  have hpr : ∀ k, k ≤ d → 1 ≤ K (310 + k) := fun k hk => (hprO k hk).1
  refine j_lconst (v := 0) (q := 1) C dX4_hold_0 rfl (by decide) ?_
  refine j_lstore_n (lv' := [(2, _), (0, _), (1, _)]) (q := 2) C dX4_hold_1 rfl rfl (by decide) rfl ?_
  refine j_lconst (v := 0) (q := 3) C dX4_hold_2 rfl (by decide) ?_
  refine j_lstore (lv' := [(4, _), (2, _), (0, _), (1, _)]) (q := 5) C dX4_hold_3 rfl (by decide) rfl ?_
  refine j_iconst (v := nI 0) (q := 6) C dX4_hold_5 rfl (by decide) ?_
  refine j_istore (lv' := [(6, _), (4, _), (2, _), (0, _), (1, _)]) (q := 8) C dX4_hold_6 rfl (by decide) rfl ?_
  have hM0 := hM
  have hW0 := hW
  have hL0 := hL
  clear hM hW hL
  have j109 : ∀ Mk, aRow mk Mk (nAsk K) pe → oRow mk Mk (nOff K d) pe → mEq (mS mk) M Mk → jJ G X 0 0 sz Sh Mk 109 [(4, .long (nSm (nOff K d) pe)), (2, .long (nSm (nAsk K) pe)), (1, .ref w), (0, .ref mk)] [] := by
    intro Mk hA hO' hE
    have hM : vK w q pr lw Mk = K := (hAp.K hE).trans hM0
    have hW := hW0.mv hE
    have hL := hL0.mv hE
    have hsN := nSm_N (B := nOff K d) (c := 9999) (by omega) pe hpe (fun i hi => (nOff_N hB hi).mono (hB.lv hi).2)
    have hsA := nSm_N (B := nAsk K) (c := 1000000000000000) (by omega) pe hpe (fun i hi => (nAsk_N hB hi).mono (hB.mk hi).2)
    refine j_lload (q := 111) C dX4_hold_109 rfl rfl ?_
    refine j_lconst (v := 0) (q := 112) C dX4_hold_111 rfl (by decide) ?_
    refine j_lcmp_gt (q1 := 113) (q := 116) (tgt := 125) C dX4_hold_112 dX4_hold_113 rfl rfl (by decide) (fun c_113 => ?_) (fun c_113 => ?_)
    · refine j_lconst (v := 1) (q := 126) C dX4_hold_125 rfl (by decide) ?_
      refine j_ldc2 (q := 129) C dX4_hold_126 rfl kw_635 ?_
      refine j_lload_n (q := 130) C dX4_hold_129 rfl rfl rfl ?_
      refine j_lload (q := 132) C dX4_hold_130 rfl rfl ?_
      refine j_ldiv (q := 133) C dX4_hold_132 rfl (fun e => by rw [e] at c_113; exact absurd c_113 (by decide)) ?_
      refine j_lmin (q := 136) C dX4_hold_133 rfl kw_636 (by decide) (Nat.le_of_ble_eq_true rfl) (by decide) ?_
      refine j_lmax (q := 139) C dX4_hold_136 rfl kw_637 (by decide) (Nat.le_of_ble_eq_true rfl) (by decide) ?_
      have hnz : ¬ nSm (nOff K d) pe = 0 := fun e => by rw [e] at c_113; exact absurd c_113 (by decide)
      obtain ⟨p, ep, hp1, hp2⟩ := prOk_N (nPrice_ok (N := K) (A := nAsk K) (B := nOff K d) (d := d) (pe := pe) (hprO d (Nat.le_refl _)))
      have ePr : nPrice K (nAsk K) (nOff K d) d pe = lN p := ep
      refine j_top (v' := .long (lN p)) (congrArg Value.long (by rw [← ep]; unfold nPrice; rw [if_neg hnz])) ?_
      refine j_lstore (lv' := [(6, _), (4, _), (2, _), (1, _), (0, _)]) (q := 141) C dX4_hold_139 rfl (by decide) rfl ?_
      refine j_iconst (v := nI 0) (q := 142) C dX4_hold_141 rfl (by decide) ?_
      refine j_istore (lv' := [(8, _), (6, _), (4, _), (2, _), (1, _), (0, _)]) (q := 144) C dX4_hold_142 rfl (by decide) rfl ?_
      have hA0 := hA
      have hO0 := hO'
      have hE0 := hE
      have hMm := hM
      clear hE hM hW hL
      have loop144 : ∀ (n k : Nat) (Mk : jM), vK w q pr lw Mk = (nBuys (nAsk K) (lN p) pe (nOff K d, K) k).2 → oRow mk Mk (nBuys (nAsk K) (lN p) pe (nOff K d, K) k).1 pe → aRow mk Mk (nAsk K) pe → mEq (wSM w q pr mk) M Mk → k + n = pe → jJ G X 0 0 sz Sh Mk 144 [(8, .int (nI k)), (6, .long (lN p)), (1, .ref w), (0, .ref mk)] [] := by
        intro n
        induction n with
        | zero =>
          intro k Mk hMk hOk hAk hE hk
          obtain ⟨Bk, Kk, hQk⟩ : ∃ b c, nBuys (nAsk K) (lN p) pe (nOff K d, K) k = (b, c) := ⟨_, _, rfl⟩
          have hIk := (iQ.first hB).run hpe hp1 hp2 k (by omega)
          rw [hQk] at hMk hOk hIk
          dsimp only at hMk hOk
          have hM : vK w q pr lw Mk = Kk := hMk
          have hW := hW0.mv hE
          have hL := hL0.mv hE
          have h4k : Kk 4 = lN pe := by
            have e := nBuys_eq (A := nAsk K) (q := (nOff K d, K)) (pr := lN p) hpe k (by omega) 4 (by unfold nSt; omega)
            rw [hQk] at e
            exact e.trans h4
          refine j_iload (q := 146) C dX4_hold_144 rfl rfl ?_
          refine j_aload_n (q := 147) C dX4_hold_146 rfl rfl rfl ?_
          refine wg_World_people hW hM (q' := 150) C dX4_hold_147 rfl kw_205 ?_
          refine j_top (v' := .int (nI pe)) (congrArg Value.int (k32 h4k)) ?_
          refine j_icmp_ge (q := 153) (tgt := 168) C dX4_hold_150 rfl (by decide) (fun c_150 => ?_) (fun c_150 => absurd (nI_le (by omega) (by omega)) c_150)
          obtain rfl : pe = k := by omega
          refine j_lload (q := 170) C dX4_hold_168 rfl rfl ?_
          exact j_lret C E dX4_hold_170 rfl rfl (⟨rfl, rfl, by rw [ePr], by rw [ePr]; rw [hQk]; exact hM, hE⟩)
        | succ n ih =>
          intro k Mk hMk hOk hAk hE hk
          obtain ⟨Bk, Kk, hQk⟩ : ∃ b c, nBuys (nAsk K) (lN p) pe (nOff K d, K) k = (b, c) := ⟨_, _, rfl⟩
          have hIk := (iQ.first hB).run hpe hp1 hp2 k (by omega)
          rw [hQk] at hMk hOk hIk
          dsimp only at hMk hOk
          have hM : vK w q pr lw Mk = Kk := hMk
          have hW := hW0.mv hE
          have hL := hL0.mv hE
          have h4k : Kk 4 = lN pe := by
            have e := nBuys_eq (A := nAsk K) (q := (nOff K d, K)) (pr := lN p) hpe k (by omega) 4 (by unfold nSt; omega)
            rw [hQk] at e
            exact e.trans h4
          refine j_iload (q := 146) C dX4_hold_144 rfl rfl ?_
          refine j_aload_n (q := 147) C dX4_hold_146 rfl rfl rfl ?_
          refine wg_World_people hW hM (q' := 150) C dX4_hold_147 rfl kw_205 ?_
          refine j_top (v' := .int (nI pe)) (congrArg Value.int (k32 h4k)) ?_
          refine j_icmp_ge (q := 153) (tgt := 168) C dX4_hold_150 rfl (by decide) (fun c_150 => absurd c_150 (fun h => absurd ((nI_leI (by omega) (by omega)).mp h) (by omega))) (fun c_150 => ?_)
          refine j_aload_n (q := 154) C dX4_hold_153 rfl rfl rfl ?_
          refine j_aload_n (q := 155) C dX4_hold_154 rfl rfl rfl ?_
          refine j_iload (q := 157) C dX4_hold_155 rfl rfl ?_
          refine j_lload (q := 159) C dX4_hold_157 rfl rfl ?_
          refine jVT jc4 (q := 162) C dX4_hold_159 rfl hL.1 mX4_buyFor kw_638 kw_639 kw_19 (ctX4_buyFor hW hM hL hAp h4k hpe (by omega) hp1 hp2 hIk (hAk k (by omega)) hOk) rfl rfl (by decide) (Nat.le_of_ble_eq_true rfl) (by decide) (fun r_159 M_159 h_159 => ?_)
          obtain ⟨rfl, hM2, hO2, hAr, hE2⟩ := h_159
          have eN : nBuys (nAsk K) (lN p) pe (nOff K d, K) (k + 1) = nBuysL (nAsk K) (lN p) pe k (Bk, Kk) := by rw [nBuys, hQk]
          first | refine j_iincN (lv' := [(8, _), (6, _), (1, _), (0, _)]) (q := 165) C dX4_hold_162 rfl rfl (by decide) rfl ?_ | refine j_iinc (lv' := [(8, _), (6, _), (1, _), (0, _)]) (q := 165) C dX4_hold_162 rfl rfl rfl (by decide) rfl ?_
          refine j_goto (tgt := 144) C dX4_hold_165 (by decide) ?_
          exact j_fewer (lv' := [(8, .int (nI (k + 1))), (6, .long (lN p)), (1, .ref w), (0, .ref mk)]) (by simp) (ih (k + 1) M_159 (by rw [eN]; exact hM2) (by rw [eN]; exact hO2) (fun s hs => by rw [hAr]; exact hAk s hs) (hE.tr hE2) (by omega))
      exact j_fewer (lv' := [(8, .int (nI 0)), (6, .long (lN p)), (1, .ref w), (0, .ref mk)]) (by simp) (loop144 pe 0 Mk hMm hO0 hA0 (hE0.mono subMM) (by omega))
    · refine j_aload_n (q := 117) C dX4_hold_116 rfl rfl rfl ?_
      refine j_aload_n (q := 118) C dX4_hold_117 rfl rfl rfl ?_
      refine wg_World_day hW hM (q' := 121) C dX4_hold_118 rfl kw_211 ?_
      refine j_top (v' := .int (nI d)) (congrArg Value.int (k32 hd)) ?_
      refine jV1 jc9 (q := 124) C dX4_hold_121 rfl hW.1.1 mX9_priceOn kw_634 kw_378 kw_379 (ctX9_priceOn hW hM (k := d) (by omega) (hpr d (by omega))) rfl rfl (by decide) (Nat.le_of_ble_eq_true rfl) (by decide) ?_
      have hz : nSm (nOff K d) pe = 0 := by
        rw [hsN.1] at c_113 ⊢
        have := (pk_lLE (b := 0) (by have := hsN.2; omega) (by omega)).mp (Int64.not_lt.mp c_113)
        rw [show nv (nSm (nOff K d) pe) = 0 by omega]; rfl
      have ePr : nPrice K (nAsk K) (nOff K d) d pe = K (310 + d) := by unfold nPrice; rw [if_pos hz]
      obtain ⟨p0, ep0, hp1, hp2⟩ := prOk_N (hprO d (Nat.le_refl _))
      have eBn := nBuys_none (A := nAsk K) (B := nOff K d) (p := p0) hB hpe (fun s _ hs => nAsk_N hB hs) (nSm_0 (c := 9999) (by omega) pe hpe (fun i hi => (nOff_N hB hi).mono (hB.lv hi).2) hz) hp1 hp2 pe (Nat.le_refl _)
      exact j_lret C E dX4_hold_124 rfl rfl (⟨rfl, rfl, by rw [ePr], by rw [ePr, ep0, eBn]; exact hM, hE.mono subMM⟩)
  have loop8 : ∀ (n k : Nat) (Mk : jM), aRow mk Mk (nAsk K) k → oRow mk Mk (nOff K d) k → mEq (mS mk) M Mk → k + n = pe → jJ G X 0 0 sz Sh Mk 8 [(6, .int (nI k)), (4, .long (nSm (nOff K d) k)), (2, .long (nSm (nAsk K) k)), (1, .ref w), (0, .ref mk)] [] := by
    intro n
    induction n with
    | zero =>
      intro k Mk hA hO' hE hk
      have hM : vK w q pr lw Mk = K := (hAp.K hE).trans hM0
      have hW := hW0.mv hE
      have hL := hL0.mv hE
      refine j_iload (q := 10) C dX4_hold_8 rfl rfl ?_
      refine j_aload_n (q := 11) C dX4_hold_10 rfl rfl rfl ?_
      refine wg_World_people hW hM (q' := 14) C dX4_hold_11 rfl kw_205 ?_
      refine j_top (v' := .int (nI pe)) (congrArg Value.int (k32 h4)) ?_
      refine j_icmp_ge (q := 17) (tgt := 109) C dX4_hold_14 rfl (by decide) (fun c_14 => ?_) (fun c_14 => absurd (nI_le (by omega) (by omega)) c_14)
      obtain rfl : pe = k := by omega
      exact j_fewer (lv' := [(4, .long (nSm (nOff K d) pe)), (2, .long (nSm (nAsk K) pe)), (1, .ref w), (0, .ref mk)]) (by simp) (j109 Mk hA hO' hE)
    | succ n ih =>
      intro k Mk hA hO' hE hk
      have hM : vK w q pr lw Mk = K := (hAp.K hE).trans hM0
      have hW := hW0.mv hE
      have hL := hL0.mv hE
      refine j_iload (q := 10) C dX4_hold_8 rfl rfl ?_
      refine j_aload_n (q := 11) C dX4_hold_10 rfl rfl rfl ?_
      refine wg_World_people hW hM (q' := 14) C dX4_hold_11 rfl kw_205 ?_
      refine j_top (v' := .int (nI pe)) (congrArg Value.int (k32 h4)) ?_
      refine j_icmp_ge (q := 17) (tgt := 109) C dX4_hold_14 rfl (by decide) (fun c_14 => absurd c_14 (fun h => absurd ((nI_leI (by omega) (by omega)).mp h) (by omega))) (fun c_14 => ?_)
      refine j_aload_n (q := 18) C dX4_hold_17 rfl rfl rfl ?_
      refine jg_World_persons (q := 21) C dX4_hold_18 rfl hW.1.1 kw_192 hW.2.1.1 ?_
      refine j_iload (q := 23) C dX4_hold_21 rfl rfl ?_
      refine wa_pers hW (by omega) (q' := 24) C dX4_hold_23 rfl ?_
      refine j_astore (lv' := [(7, _), (6, _), (4, _), (2, _), (1, _), (0, _)]) (q := 26) C dX4_hold_24 rfl (by decide) rfl ?_
      refine j_aload_n (q := 27) C dX4_hold_26 rfl rfl rfl ?_
      refine jg_Market_asks (q := 30) C dX4_hold_27 rfl hL.1 kw_113 hL.2.2.2.1 ?_
      refine j_iload (q := 32) C dX4_hold_30 rfl rfl ?_
      refine j_aload (q := 34) C dX4_hold_32 rfl rfl ?_
      refine wg_Person_marks (by omega) hW hM (q' := 37) C dX4_hold_34 rfl kw_143 ?_
      refine j_aload (q := 39) C dX4_hold_37 rfl rfl ?_
      refine wg_Person_spend (by omega) hW hM (q' := 42) C dX4_hold_39 rfl kw_151 ?_
      
      first | refine j_i2lN (q := 43) C dX4_hold_42 rfl (by omega) ?_ | refine j_i2l (q := 43) C dX4_hold_42 rfl rfl ?_
      
      refine j_lmul (q := 44) C dX4_hold_43 rfl ?_
      refine j_ldc2 (q := 47) C dX4_hold_44 rfl kw_627 ?_
      refine j_ldiv (q := 48) C dX4_hold_47 rfl (by decide) ?_
      refine j_top (v' := .long (nAsk K k)) (congrArg Value.long (by unfold nAsk; rw [kpI hM (by omega) (by omega)])) ?_
      refine j_last (q := 49) C dX4_hold_48 rfl hL.2.1 (by omega) (by decide) ?_
      generalize eM1 : jsL Mk (mk + 1) k _ = M1
      have hE1 : mEq (mS mk) M M1 := by rw [← eM1]; exact hE.L (Or.inl rfl)
      have hA1 : aRow mk M1 (nAsk K) (k + 1) := fun s hs => by
        rw [← eM1]
        by_cases cs : s = k
        · subst cs; rw [upLs]
        · rw [upL (fun e => cs e.2)]; exact hA s (by omega)
      have hO1 : oRow mk M1 (nOff K d) k := fun s hs => by rw [← eM1]; exact hO' s hs
      clear hM hW hL
      have hM : vK w q pr lw M1 = K := (hAp.K hE1).trans hM0
      have hW := hW0.mv hE1
      have hL := hL0.mv hE1
      refine j_aload_n (q := 50) C dX4_hold_49 rfl rfl rfl ?_
      refine jg_Market_offers (q := 53) C dX4_hold_50 rfl hL.1 kw_114 hL.2.2.2.2 ?_
      refine j_iload (q := 55) C dX4_hold_53 rfl rfl ?_
      refine j_aload_n (q := 56) C dX4_hold_55 rfl rfl rfl ?_
      refine j_aload (q := 58) C dX4_hold_56 rfl rfl ?_
      refine jV1 jc9 (q := 61) C dX4_hold_58 rfl hW.1.1 mX9_keepsBack kw_628 kw_629 kw_630 (ctX9_keepsBack hW hM (i := k) (by omega) hd hd3 hpr (hB.kp (by omega)).1 (hB.kp (by omega)).2) rfl rfl (by decide) (Nat.le_of_ble_eq_true rfl) (by decide) ?_
      refine j_if_eq (q := 64) (tgt := 68) C dX4_hold_61 rfl (by decide) (fun c_61 => ?_) (fun c_61 => ?_)
      · refine j_iconst (v := nI 0) (q := 69) C dX4_hold_68 rfl (by decide) ?_
        refine j_aload (q := 71) C dX4_hold_69 rfl rfl ?_
        refine wg_Person_loaves (by omega) hW hM (q' := 74) C dX4_hold_71 rfl kw_147 ?_
        refine j_iconst (v := nI 1) (q := 75) C dX4_hold_74 rfl (by decide) ?_
        refine j_isub (q := 76) C dX4_hold_75 rfl ?_
        refine j_imax (q := 79) C dX4_hold_76 rfl kw_633 (by decide) (Nat.le_of_ble_eq_true rfl) (by decide) ?_
        refine j_top (v' := .int (nOff K d k).toInt32) (congrArg Value.int ?_) ?_
        · have hl := hB.lv (i := k) (by omega)
          have hl2 := hl.2
          first
          | (rw [nOff_t (jbC_n.mp c_61)]; rfl)
          | (rw [nOff_f (jbC_0.mp c_61), hl.1]
             by_cases z0 : nv (K (10 + 10 * k + 1)) = 0
             · rw [z0]; decide
             · rw [k32 rfl, show nI 1 = nI 1 from rfl, pk_sub (show 1 ≤ nv (K (10 + 10 * k + 1)) by omega), show (1 : Int64) = lN 1 from rfl, lN_sub (by omega), show (0 : Int64) = lN 0 from rfl, lmx_N (by omega) (by omega), lN_i]
               unfold imx
               by_cases z1 : 0 < nv (K (10 + 10 * k + 1)) - 1
               · rw [if_pos ((nI_ltI (by omega) (by omega)).mpr z1), Nat.max_eq_right (by omega)]
               · rw [if_neg (fun c => z1 ((nI_ltI (by omega) (by omega)).mp c)), Nat.max_eq_left (by omega)])
        refine j_iast (q := 80) C dX4_hold_79 rfl hL.2.2.1 (by omega) (by decide) ?_
        generalize eM2 : jsI M1 (mk + 2) k _ = M2
        have hE2 : mEq (mS mk) M M2 := by rw [← eM2]; exact hE1.I (Or.inr rfl)
        have hA2 : aRow mk M2 (nAsk K) (k + 1) := fun s hs => by rw [← eM2]; exact hA1 s hs
        have eOk : (nOff K d k).toInt32.toInt64 = nOff K d k := by
          have h1 := nOff_N hB (i := k) (by omega)
          have h2 := h1.2
          have h3 := (hB.lv (i := k) (by omega)).2
          rw [h1.1, lN_i, nI_l (by omega)]
        have hO2 : oRow mk M2 (nOff K d) (k + 1) := fun s hs => by
          rw [← eM2]
          by_cases cs : s = k
          · subst cs; rw [upIs]; exact eOk
          · rw [upI (fun e => cs e.2)]; exact hO1 s (by omega)
        clear hM hW hL
        have hM : vK w q pr lw M2 = K := (hAp.K hE2).trans hM0
        have hW := hW0.mv hE2
        have hL := hL0.mv hE2
        refine j_lload_n (q := 81) C dX4_hold_80 rfl rfl rfl ?_
        refine j_aload_n (q := 82) C dX4_hold_81 rfl rfl rfl ?_
        refine jg_Market_asks (q := 85) C dX4_hold_82 rfl hL.1 kw_113 hL.2.2.2.1 ?_
        refine j_iload (q := 87) C dX4_hold_85 rfl rfl ?_
        refine j_lald (q := 88) C dX4_hold_87 rfl hL.2.1 (by omega) (by decide) ?_
        rw [hA2 k (by omega)]
        refine j_ladd (q := 89) C dX4_hold_88 rfl ?_
        refine j_lstore_n (lv' := [(2, _), (7, _), (6, _), (4, _), (1, _), (0, _)]) (q := 90) C dX4_hold_89 rfl rfl (by decide) rfl ?_
        refine j_lload (q := 92) C dX4_hold_90 rfl rfl ?_
        refine j_aload_n (q := 93) C dX4_hold_92 rfl rfl rfl ?_
        refine jg_Market_offers (q := 96) C dX4_hold_93 rfl hL.1 kw_114 hL.2.2.2.2 ?_
        refine j_iload (q := 98) C dX4_hold_96 rfl rfl ?_
        refine j_iald (q := 99) C dX4_hold_98 rfl hL.2.2.1 (by omega) (by decide) ?_
        first | refine j_i2lN (q := 100) C dX4_hold_99 rfl (by omega) ?_ | refine j_i2l (q := 100) C dX4_hold_99 rfl rfl ?_
        rw [hO2 k (by omega)]
        refine j_ladd (q := 101) C dX4_hold_100 rfl ?_
        refine j_lstore (lv' := [(4, _), (2, _), (7, _), (6, _), (1, _), (0, _)]) (q := 103) C dX4_hold_101 rfl (by decide) rfl ?_
        first | refine j_iincN (lv' := [(6, _), (4, _), (2, _), (7, _), (1, _), (0, _)]) (q := 106) C dX4_hold_103 rfl rfl (by decide) rfl ?_ | refine j_iinc (lv' := [(6, _), (4, _), (2, _), (7, _), (1, _), (0, _)]) (q := 106) C dX4_hold_103 rfl rfl rfl (by decide) rfl ?_
        refine j_goto (tgt := 8) C dX4_hold_106 (by decide) ?_
        refine j_fewer (lv' := [(6, .int (nI (k + 1))), (4, .long (nSm (nOff K d) k + nOff K d k)), (2, .long (nSm (nAsk K) k + nAsk K k)), (1, .ref w), (0, .ref mk)]) (by simp) (ih (k + 1) M2 hA2 hO2 hE2 (by omega))
      · refine j_iconst (v := nI 0) (q := 65) C dX4_hold_64 rfl (by decide) ?_
        refine j_goto (tgt := 79) C dX4_hold_65 (by decide) ?_
        refine j_top (v' := .int (nOff K d k).toInt32) (congrArg Value.int ?_) ?_
        · have hl := hB.lv (i := k) (by omega)
          have hl2 := hl.2
          first
          | (rw [nOff_t (jbC_n.mp c_61)]; rfl)
          | (rw [nOff_f (jbC_0.mp c_61), hl.1]
             by_cases z0 : nv (K (10 + 10 * k + 1)) = 0
             · rw [z0]; decide
             · rw [k32 rfl, show nI 1 = nI 1 from rfl, pk_sub (show 1 ≤ nv (K (10 + 10 * k + 1)) by omega), show (1 : Int64) = lN 1 from rfl, lN_sub (by omega), show (0 : Int64) = lN 0 from rfl, lmx_N (by omega) (by omega), lN_i]
               unfold imx
               by_cases z1 : 0 < nv (K (10 + 10 * k + 1)) - 1
               · rw [if_pos ((nI_ltI (by omega) (by omega)).mpr z1), Nat.max_eq_right (by omega)]
               · rw [if_neg (fun c => z1 ((nI_ltI (by omega) (by omega)).mp c)), Nat.max_eq_left (by omega)])
        refine j_iast (q := 80) C dX4_hold_79 rfl hL.2.2.1 (by omega) (by decide) ?_
        generalize eM2 : jsI M1 (mk + 2) k _ = M2
        have hE2 : mEq (mS mk) M M2 := by rw [← eM2]; exact hE1.I (Or.inr rfl)
        have hA2 : aRow mk M2 (nAsk K) (k + 1) := fun s hs => by rw [← eM2]; exact hA1 s hs
        have eOk : (nOff K d k).toInt32.toInt64 = nOff K d k := by
          have h1 := nOff_N hB (i := k) (by omega)
          have h2 := h1.2
          have h3 := (hB.lv (i := k) (by omega)).2
          rw [h1.1, lN_i, nI_l (by omega)]
        have hO2 : oRow mk M2 (nOff K d) (k + 1) := fun s hs => by
          rw [← eM2]
          by_cases cs : s = k
          · subst cs; rw [upIs]; exact eOk
          · rw [upI (fun e => cs e.2)]; exact hO1 s (by omega)
        clear hM hW hL
        have hM : vK w q pr lw M2 = K := (hAp.K hE2).trans hM0
        have hW := hW0.mv hE2
        have hL := hL0.mv hE2
        refine j_lload_n (q := 81) C dX4_hold_80 rfl rfl rfl ?_
        refine j_aload_n (q := 82) C dX4_hold_81 rfl rfl rfl ?_
        refine jg_Market_asks (q := 85) C dX4_hold_82 rfl hL.1 kw_113 hL.2.2.2.1 ?_
        refine j_iload (q := 87) C dX4_hold_85 rfl rfl ?_
        refine j_lald (q := 88) C dX4_hold_87 rfl hL.2.1 (by omega) (by decide) ?_
        rw [hA2 k (by omega)]
        refine j_ladd (q := 89) C dX4_hold_88 rfl ?_
        refine j_lstore_n (lv' := [(2, _), (7, _), (6, _), (4, _), (1, _), (0, _)]) (q := 90) C dX4_hold_89 rfl rfl (by decide) rfl ?_
        refine j_lload (q := 92) C dX4_hold_90 rfl rfl ?_
        refine j_aload_n (q := 93) C dX4_hold_92 rfl rfl rfl ?_
        refine jg_Market_offers (q := 96) C dX4_hold_93 rfl hL.1 kw_114 hL.2.2.2.2 ?_
        refine j_iload (q := 98) C dX4_hold_96 rfl rfl ?_
        refine j_iald (q := 99) C dX4_hold_98 rfl hL.2.2.1 (by omega) (by decide) ?_
        first | refine j_i2lN (q := 100) C dX4_hold_99 rfl (by omega) ?_ | refine j_i2l (q := 100) C dX4_hold_99 rfl rfl ?_
        rw [hO2 k (by omega)]
        refine j_ladd (q := 101) C dX4_hold_100 rfl ?_
        refine j_lstore (lv' := [(4, _), (2, _), (7, _), (6, _), (1, _), (0, _)]) (q := 103) C dX4_hold_101 rfl (by decide) rfl ?_
        first | refine j_iincN (lv' := [(6, _), (4, _), (2, _), (7, _), (1, _), (0, _)]) (q := 106) C dX4_hold_103 rfl rfl (by decide) rfl ?_ | refine j_iinc (lv' := [(6, _), (4, _), (2, _), (7, _), (1, _), (0, _)]) (q := 106) C dX4_hold_103 rfl rfl rfl (by decide) rfl ?_
        refine j_goto (tgt := 8) C dX4_hold_106 (by decide) ?_
        refine j_fewer (lv' := [(6, .int (nI (k + 1))), (4, .long (nSm (nOff K d) k + nOff K d k)), (2, .long (nSm (nAsk K) k + nAsk K k)), (1, .ref w), (0, .ref mk)]) (by simp) (ih (k + 1) M2 hA2 hO2 hE2 (by omega))
  exact j_fewer (lv' := [(6, .int (nI 0)), (4, .long (nSm (nOff K d) 0)), (2, .long (nSm (nAsk K) 0)), (1, .ref w), (0, .ref mk)]) (by simp [nSm]) (loop8 pe 0 M (fun s hs => absurd hs (by omega)) (fun s hs => absurd hs (by omega)) mEq.rf (by omega))

