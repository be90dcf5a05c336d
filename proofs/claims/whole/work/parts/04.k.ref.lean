/-- what buyers do hangs on the offers of persons alone -/
theorem nBuy_cong {h pe : Nat} {pr : Int64} {L : Int64} {B B' N : Nat → Int64} (hb : ∀ s, s < pe → B s = B' s) : ∀ k, k ≤ pe → (nBuy h pr (L, B, N) k).1 = (nBuy h pr (L, B', N) k).1 ∧ (∀ s, s < pe → (nBuy h pr (L, B, N) k).2.1 s = (nBuy h pr (L, B', N) k).2.1 s) ∧ (nBuy h pr (L, B, N) k).2.2 = (nBuy h pr (L, B', N) k).2.2
  | 0, _ => ⟨rfl, hb, rfl⟩
  | k + 1, hk => by
    obtain ⟨h1, h2, h3⟩ := nBuy_cong (h := h) (pr := pr) (L := L) (N := N) hb k (by omega)
    have hk2 := h2 k (by omega)
    refine ⟨?_, fun s hs => ?_, ?_⟩
    · simp only [nBuy, nBuy1, h1, hk2]
    · simp only [nBuy, nBuy1, h1, hk2, va_up]
      by_cases e : s = k
      · rw [if_pos e, if_pos e]
      · rw [if_neg e, if_neg e]; exact h2 s hs
    · simp only [nBuy, nBuy1, h1, hk2, h3]
theorem nBuys_cong {A A' B B' N : Nat → Int64} {pr : Int64} {pe : Nat} (ha : ∀ s, s < pe → A s = A' s) (hb : ∀ s, s < pe → B s = B' s) : ∀ k, k ≤ pe → (∀ s, s < pe → (nBuys A pr pe (B, N) k).1 s = (nBuys A' pr pe (B', N) k).1 s) ∧ (nBuys A pr pe (B, N) k).2 = (nBuys A' pr pe (B', N) k).2
  | 0, _ => ⟨hb, rfl⟩
  | k + 1, hk => by
    obtain ⟨h1, h2⟩ := nBuys_cong (pr := pr) (N := N) ha hb k (by omega)
    simp only [nBuys, nBuysL]
    rw [ha k (by omega), h2]
    have := nBuy_cong (h := k) (pr := pr) (L := lmn (A' k / pr) (9999 - (nBuys A' pr pe (B', N) k).2 (10 + 10 * k + 1))) (N := (nBuys A' pr pe (B', N) k).2) h1 pe (Nat.le_refl _)
    exact ⟨this.2.1, this.2.2⟩
noncomputable def nDay (LT : Nat → sT) (d pe pa la : Nat) (N : Nat → Int64) : Nat → Int64 :=
  let N2 := nWages LT d la (nBakes N pe) pa
  let pr := nPrice N2 (nAsk N2) (nOff N2 d) d pe
  let N5 := nDebts LT d la (nEats (nBuys (nAsk N2) pr pe (nOff N2 d, N2) pe).2 pe) pa
  let N6 := va_up N5 (310 + d + 1) pr
  va_up N6 0 (N6 0 + 1)
theorem nPrice_cp {N A B A0 B0 : Nat → Int64} {d pe : Nat} : nPrice N (nCp A A0 pe) (nCp B B0 pe) d pe = nPrice N A B d pe := by
  unfold nPrice
  rw [nSm_cp pe (Nat.le_refl _), nSm_cp pe (Nat.le_refl _)]
theorem lmn_le (x z : Int64) : lmn x z ≤ x := by
  unfold lmn
  by_cases h : z < x
  · rw [if_pos h]; exact Int64.le_of_lt h
  · rw [if_neg h]; exact Int64.le_refl x
theorem lmx_ge (x z : Int64) : x ≤ lmx x z := by
  unfold lmx
  by_cases h : z < x
  · rw [if_pos h]; exact Int64.le_refl x
  · rw [if_neg h]; exact Int64.not_lt.mp h
theorem lmx_le {x z m : Int64} (h1 : x ≤ m) (h2 : z ≤ m) : lmx x z ≤ m := by
  unfold lmx
  by_cases h : z < x
  · rw [if_pos h]; exact h1
  · rw [if_neg h]; exact h2
theorem nPrice_ok {N A B : Nat → Int64} {d pe : Nat} (h : prOk (N (310 + d))) : prOk (nPrice N A B d pe) := by
  unfold nPrice
  by_cases c : nSm B pe = 0
  · rw [if_pos c]; exact h
  · rw [if_neg c]; exact ⟨lmx_ge _ _, lmx_le (by decide) (lmn_le _ _)⟩
/-- an end at which the scratch rows may be others -/
def rT3 (o : Nat) (M : jM) (N : Nat → Int64) (v : Option Value) : Option Value → jM → Prop := fun r M2 => ∃ P A B, r = v ∧ M2 = jw (rS o M P A B) (o + 1) N
set_option maxRecDepth 100000 in
set_option maxHeartbeats 400000 in
theorem ctX11_goesBy {G : jG} {sz : Nat} {Sh : jS} {M : jM} {o : Nat} {N : Nat → Int64} (hR : rLay o Sh M) {d pe pa la : Nat} (hO : nOk N d pe pa la) (hd300 : d < 300) {LT : Nat → sT} (hL : lOk o M la LT) {P A B : Nat → Int64} : jC G yX11_goesBy cX11_goesBy 4 (Option.none : Option FieldType) (jrm 6 0 0) sz Sh (jw (rS o M P A B) (o + 1) N) [.ref o] (jT sz Sh (rT3 o M (nDay LT d pe pa la N) none)) := by
  refine jC_start (by decide +kernel) (Nat.le_of_ble_eq_true rfl) (fun X C E hN0 => ?_)
  have hpe : pe ≤ 10 := hO.2.1.2
  have hd3 : d ≤ 300 := hO.1.2
  refine j_iconst (v := nI 0) (q := 1) C dX11_goesBy_0 rfl (by decide) ?_
  refine j_istore_n (lv' := [(1, _), (0, _)]) (q := 2) C dX11_goesBy_1 rfl rfl (by decide) rfl ?_
  have j57 : nOk (nBakes N pe) d pe pa la → jJ G X 0 0 sz Sh (jw (rS o M P A B) (o + 1) (nBakes N pe)) 57 [(1, .int (nI pe)), (0, .ref o)] [] := by
    intro hO1
    refine j_aload_n (q := 58) C dX11_goesBy_57 rfl rfl rfl ?_
    refine jVT jc11 (q := 61) C dX11_goesBy_58 rfl hR.1.1 mX11_payWages kw_1150 kw_1151 kw_56 (ctX11_payWages (M := rS o M P A B) (LT := LT) hR hO1 hL) rfl rfl (by decide) (Nat.le_of_ble_eq_true rfl) (by decide) (fun r_58 M_58 h_58 => ?_)
    obtain ⟨P2, rfl, rfl⟩ := h_58
    rw [rS_p]
    have hO2 : nOk (nWages LT d la (nBakes N pe) pa) d pe pa la := hO1.eq (nWages_eq hO1 pa (Nat.le_refl _))
    obtain ⟨N2, eN2⟩ : ∃ z, z = nWages LT d la (nBakes N pe) pa := ⟨_, rfl⟩
    rw [← eN2] at hO2 ⊢
    refine j_aload_n (q := 62) C dX11_goesBy_61 rfl rfl rfl ?_
    refine jV0 jc11 (q := 65) C dX11_goesBy_62 rfl hR.1.1 mX11_askAndOffer kw_1153 kw_1154 kw_57 (ctX11_askAndOffer (M := jw M (o + 11) P2) hR hO2) rfl rfl (by decide) (Nat.le_of_ble_eq_true rfl) (by decide) ?_
    obtain ⟨A2, eA2⟩ : ∃ z, z = nCp (nAsk N2) A pe := ⟨_, rfl⟩
    obtain ⟨B2, eB2⟩ : ∃ z, z = nCp (nOff N2 d) B pe := ⟨_, rfl⟩
    rw [← eA2, ← eB2]
    refine j_aload_n (q := 66) C dX11_goesBy_65 rfl rfl rfl ?_
    refine jV1 jc11 (q := 69) C dX11_goesBy_66 rfl hR.1.1 mX11_priceMade kw_1157 kw_1158 kw_58 (ctX11_priceMade (M := jw M (o + 11) P2) hR hO2) rfl rfl (by decide) (Nat.le_of_ble_eq_true rfl) (by decide) ?_
    obtain ⟨pr, epr⟩ : ∃ z, z = nPrice N2 (nAsk N2) (nOff N2 d) d pe := ⟨_, rfl⟩
    rw [show nPrice N2 A2 B2 d pe = pr by rw [epr, eA2, eB2, nPrice_cp]]
    refine j_lstore_n (lv' := [(1, _), (0, _)]) (q := 70) C dX11_goesBy_69 rfl rfl (by decide) rfl ?_
    refine j_iconst (v := nI 0) (q := 71) C dX11_goesBy_70 rfl (by decide) ?_
    refine j_istore_n (lv' := [(3, _), (1, _), (0, _)]) (q := 72) C dX11_goesBy_71 rfl rfl (by decide) rfl ?_
    refine j_fewer (lv' := [(3, .int (nI 0)), (1, .long pr), (0, .ref o)]) (by simp) ?_
    have hpr : ¬ pr = 0 := by rw [epr]; exact (nPrice_ok (hO2.2.2.2.2.2 d (Nat.le_refl d))).nz
    have loop72 : ∀ (n k : Nat) (Bk Nk : Nat → Int64), (Bk, Nk) = nBuys A2 pr pe (B2, N2) k → k + n = pe → jJ G X 0 0 sz Sh (jw (jw (jw (jw M (o + 11) P2) (o + 13) Bk) (o + 12) A2) (o + 1) Nk) 72 [(3, .int (nI k)), (1, .long pr), (0, .ref o)] [] := by
      intro n
      induction n with
      | zero =>
        intro k Bk Nk eq hk
        have eNk : Nk = (nBuys A2 pr pe (B2, N2) k).2 := congrArg Prod.snd eq
        have hOk : nOk Nk d pe pa la := hO2.eq (eNk ▸ nBuys_eq (q := (B2, N2)) hpe k (by omega))
        have h4k : Nk 4 = lN pe := hOk.2.1.1
        refine j_iload_n (q := 73) C dX11_goesBy_72 rfl rfl rfl ?_
        first | refine j_i2lN (q := 74) C dX11_goesBy_73 rfl (by omega) ?_ | refine j_i2l (q := 74) C dX11_goesBy_73 rfl rfl ?_
        refine j_aload_n (q := 75) C dX11_goesBy_74 rfl rfl rfl ?_
        refine jg_Model_now (q := 78) C dX11_goesBy_75 rfl hR.1.1 kw_869 hR.2.1 ?_
        refine j_iconst (v := nI 4) (q := 79) C dX11_goesBy_78 rfl (by decide) ?_
        refine j_laldW (q := 80) C dX11_goesBy_79 rfl hR.1.2.1 (by omega) (by decide) ?_
        rw [h4k]
        refine j_lcmp_ge (q1 := 81) (q := 84) (tgt := 96) C dX11_goesBy_80 dX11_goesBy_81 rfl rfl (by decide) (fun c_81 => ?_) (fun c_81 => absurd ((lN_le (by omega) (by omega)).mpr (by omega)) c_81)
        obtain rfl : pe = k := by omega
        have hOe : nOk (nEats Nk pe) d pe pa la := hOk.eq (nEats_eq pe (by omega))
        have hOd : nOk (nDebts LT d la (nEats Nk pe) pa) d pe pa la := hOe.eq (nDebts_eq hOe pa (Nat.le_refl _))
        have e5 : Nk = (nBuys (nAsk N2) pr pe (nOff N2 d, N2) pe).2 := by rw [eNk, eA2, eB2]; exact (nBuys_cong (fun s hs => by simp only [nCp]; rw [if_pos hs]) (fun s hs => by simp only [nCp]; rw [if_pos hs]) pe (Nat.le_refl _)).2
        refine j_aload_n (q := 97) C dX11_goesBy_96 rfl rfl rfl ?_
        refine jV0 jc11 (q := 100) C dX11_goesBy_97 rfl hR.1.1 mX11_eat kw_1163 kw_1164 kw_60 (ctX11_eat (M := jw (jw (jw M (o + 11) P2) (o + 13) Bk) (o + 12) A2) hR hOk) rfl rfl (by decide) (Nat.le_of_ble_eq_true rfl) (by decide) ?_
        refine j_aload_n (q := 101) C dX11_goesBy_100 rfl rfl rfl ?_
        refine jVT jc11 (q := 104) C dX11_goesBy_101 rfl hR.1.1 mX11_payDebts kw_1166 kw_1167 kw_61 (ctX11_payDebts (M := jw (jw (jw M (o + 11) P2) (o + 13) Bk) (o + 12) A2) (LT := LT) hR hOe hL) rfl rfl (by decide) (Nat.le_of_ble_eq_true rfl) (by decide) (fun r_101 M_101 h_101 => ?_)
        obtain ⟨P3, rfl, rfl⟩ := h_101
        rw [show jw (jw (jw (jw M (o + 11) P2) (o + 13) Bk) (o + 12) A2) (o + 11) P3 = rS o M P3 A2 Bk from rS_p o M P2 A2 Bk P3]
        refine j_aload_n (q := 105) C dX11_goesBy_104 rfl rfl rfl ?_
        refine jg_Model_now (q := 108) C dX11_goesBy_105 rfl hR.1.1 kw_869 hR.2.1 ?_
        refine j_sipush (v := nI 310) (q := 111) C dX11_goesBy_108 rfl (by decide) ?_
        refine j_aload_n (q := 112) C dX11_goesBy_111 rfl rfl rfl ?_
        refine jV1 jc11 (q := 115) C dX11_goesBy_112 rfl hR.1.1 mX11_today kw_965 kw_966 kw_33 (ctX11_today (M := rS o M P3 A2 Bk) hR hOd.1.1) rfl rfl (by decide) (Nat.le_of_ble_eq_true rfl) (by decide) ?_
        first | refine j_iaddN (q := 116) C dX11_goesBy_115 rfl ?_ | refine j_iadd (q := 116) C dX11_goesBy_115 rfl ?_
        refine j_iconst (v := nI 1) (q := 117) C dX11_goesBy_116 rfl (by decide) ?_
        first | refine j_iaddN (q := 118) C dX11_goesBy_117 rfl ?_ | refine j_iadd (q := 118) C dX11_goesBy_117 rfl ?_
        refine j_lload_n (q := 119) C dX11_goesBy_118 rfl rfl rfl ?_
        refine j_lastW (q := 120) C dX11_goesBy_119 rfl hR.1.2.1 (by omega) (by decide) ?_
        refine j_aload_n (q := 121) C dX11_goesBy_120 rfl rfl rfl ?_
        refine jg_Model_now (q := 124) C dX11_goesBy_121 rfl hR.1.1 kw_869 hR.2.1 ?_
        refine j_iconst (v := nI 0) (q := 125) C dX11_goesBy_124 rfl (by decide) ?_
        refine j_dup2_11 (q := 126) C dX11_goesBy_125 rfl rfl rfl ?_
        refine j_laldW (q := 127) C dX11_goesBy_126 rfl hR.1.2.1 (by omega) (by decide) ?_
        refine j_lconst (v := 1) (q := 128) C dX11_goesBy_127 rfl (by decide) ?_
        refine j_ladd (q := 129) C dX11_goesBy_128 rfl ?_
        refine j_lastW (q := 130) C dX11_goesBy_129 rfl hR.1.2.1 (by omega) (by decide) ?_
        exact j_vret C E dX11_goesBy_130 rfl rfl (⟨rfl, rfl, _, _, _, rfl, congrArg (jw (rS o M P3 A2 Bk) (o + 1)) (by simp only [nDay]; rw [← eN2, ← epr, ← e5])⟩)
      | succ n ih =>
        intro k Bk Nk eq hk
        have eNk : Nk = (nBuys A2 pr pe (B2, N2) k).2 := congrArg Prod.snd eq
        have hOk : nOk Nk d pe pa la := hO2.eq (eNk ▸ nBuys_eq (q := (B2, N2)) hpe k (by omega))
        have h4k : Nk 4 = lN pe := hOk.2.1.1
        refine j_iload_n (q := 73) C dX11_goesBy_72 rfl rfl rfl ?_
        first | refine j_i2lN (q := 74) C dX11_goesBy_73 rfl (by omega) ?_ | refine j_i2l (q := 74) C dX11_goesBy_73 rfl rfl ?_
        refine j_aload_n (q := 75) C dX11_goesBy_74 rfl rfl rfl ?_
        refine jg_Model_now (q := 78) C dX11_goesBy_75 rfl hR.1.1 kw_869 hR.2.1 ?_
        refine j_iconst (v := nI 4) (q := 79) C dX11_goesBy_78 rfl (by decide) ?_
        refine j_laldW (q := 80) C dX11_goesBy_79 rfl hR.1.2.1 (by omega) (by decide) ?_
        rw [h4k]
        refine j_lcmp_ge (q1 := 81) (q := 84) (tgt := 96) C dX11_goesBy_80 dX11_goesBy_81 rfl rfl (by decide) (fun c_81 => absurd c_81 (fun h => absurd ((lN_le (by omega) (by omega)).mp h) (by omega))) (fun c_81 => ?_)
        refine j_aload_n (q := 85) C dX11_goesBy_84 rfl rfl rfl ?_
        refine j_iload_n (q := 86) C dX11_goesBy_85 rfl rfl rfl ?_
        refine j_lload_n (q := 87) C dX11_goesBy_86 rfl rfl rfl ?_
        refine jV0 jc11 (q := 90) C dX11_goesBy_87 rfl hR.1.1 mX11_buys kw_1160 kw_1161 kw_59 (ctX11_buys (M := jw M (o + 11) P2) (A := A2) hR hOk (by omega) hpr) rfl rfl (by decide) (Nat.le_of_ble_eq_true rfl) (by decide) ?_
        first | refine j_iincN (lv' := [(3, _), (1, _), (0, _)]) (q := 93) C dX11_goesBy_90 rfl rfl (by decide) rfl ?_ | refine j_iinc (lv' := [(3, _), (1, _), (0, _)]) (q := 93) C dX11_goesBy_90 rfl rfl rfl (by decide) rfl ?_
        refine j_goto (tgt := 72) C dX11_goesBy_93 (by decide) ?_
        exact j_fewer (lv' := [(3, .int (nI (k + 1))), (1, .long pr), (0, .ref o)]) (by simp) (ih (k + 1) _ _ (by rw [nBuys, ← eq]) (by omega))
    exact loop72 pe 0 _ _ rfl (by omega)
  have loop2 : ∀ (n k : Nat) (Nk : Nat → Int64), Nk = nBakes N k → k + n = pe → jJ G X 0 0 sz Sh (jw (rS o M P A B) (o + 1) Nk) 2 [(1, .int (nI k)), (0, .ref o)] [] := by
    intro n
    induction n with
    | zero =>
      intro k Nk eN hk
      have h4k : Nk 4 = lN pe := (hO.eq (eN ▸ nBakes_eq k (by omega))).2.1.1
      refine j_iload_n (q := 3) C dX11_goesBy_2 rfl rfl rfl ?_
      first | refine j_i2lN (q := 4) C dX11_goesBy_3 rfl (by omega) ?_ | refine j_i2l (q := 4) C dX11_goesBy_3 rfl rfl ?_
      refine j_aload_n (q := 5) C dX11_goesBy_4 rfl rfl rfl ?_
      refine jg_Model_now (q := 8) C dX11_goesBy_5 rfl hR.1.1 kw_869 hR.2.1 ?_
      refine j_iconst (v := nI 4) (q := 9) C dX11_goesBy_8 rfl (by decide) ?_
      refine j_laldW (q := 10) C dX11_goesBy_9 rfl hR.1.2.1 (by omega) (by decide) ?_
      rw [h4k]
      refine j_lcmp_ge (q1 := 11) (q := 14) (tgt := 57) C dX11_goesBy_10 dX11_goesBy_11 rfl rfl (by decide) (fun c_11 => ?_) (fun c_11 => absurd ((lN_le (by omega) (by omega)).mpr (by omega)) c_11)
      obtain rfl : pe = k := by omega
      have hO1 : nOk Nk d pe pa la := hO.eq (eN ▸ nBakes_eq pe (by omega))
      subst eN
      exact j57 hO1
    | succ n ih =>
      intro k Nk eN hk
      have h4k : Nk 4 = lN pe := (hO.eq (eN ▸ nBakes_eq k (by omega))).2.1.1
      refine j_iload_n (q := 3) C dX11_goesBy_2 rfl rfl rfl ?_
      first | refine j_i2lN (q := 4) C dX11_goesBy_3 rfl (by omega) ?_ | refine j_i2l (q := 4) C dX11_goesBy_3 rfl rfl ?_
      refine j_aload_n (q := 5) C dX11_goesBy_4 rfl rfl rfl ?_
      refine jg_Model_now (q := 8) C dX11_goesBy_5 rfl hR.1.1 kw_869 hR.2.1 ?_
      refine j_iconst (v := nI 4) (q := 9) C dX11_goesBy_8 rfl (by decide) ?_
      refine j_laldW (q := 10) C dX11_goesBy_9 rfl hR.1.2.1 (by omega) (by decide) ?_
      rw [h4k]
      refine j_lcmp_ge (q1 := 11) (q := 14) (tgt := 57) C dX11_goesBy_10 dX11_goesBy_11 rfl rfl (by decide) (fun c_11 => absurd c_11 (fun h => absurd ((lN_le (by omega) (by omega)).mp h) (by omega))) (fun c_11 => ?_)
      refine j_aload_n (q := 15) C dX11_goesBy_14 rfl rfl rfl ?_
      refine jg_Model_now (q := 18) C dX11_goesBy_15 rfl hR.1.1 kw_869 hR.2.1 ?_
      refine j_iload_n (q := 19) C dX11_goesBy_18 rfl rfl rfl ?_
      refine j_iconst (v := nI 1) (q := 20) C dX11_goesBy_19 rfl (by decide) ?_
      refine jS1 (q := 23) C dX11_goesBy_20 rfl mX11_of kw_908 kw_909 (ctX11_of) rfl rfl (by decide) (Nat.le_of_ble_eq_true rfl) (by decide) ?_
      refine j_ldc2 (q := 26) C dX11_goesBy_23 rfl kw_901 ?_
      refine j_aload_n (q := 27) C dX11_goesBy_26 rfl rfl rfl ?_
      refine jg_Model_now (q := 30) C dX11_goesBy_27 rfl hR.1.1 kw_869 hR.2.1 ?_
      refine j_iload_n (q := 31) C dX11_goesBy_30 rfl rfl rfl ?_
      refine j_iconst (v := nI 1) (q := 32) C dX11_goesBy_31 rfl (by decide) ?_
      refine jS1 (q := 35) C dX11_goesBy_32 rfl mX11_of kw_908 kw_909 (ctX11_of) rfl rfl (by decide) (Nat.le_of_ble_eq_true rfl) (by decide) ?_
      refine j_laldW (q := 36) C dX11_goesBy_35 rfl hR.1.2.1 (by omega) (by decide) ?_
      refine j_aload_n (q := 37) C dX11_goesBy_36 rfl rfl rfl ?_
      refine jg_Model_now (q := 40) C dX11_goesBy_37 rfl hR.1.1 kw_869 hR.2.1 ?_
      refine j_iload_n (q := 41) C dX11_goesBy_40 rfl rfl rfl ?_
      refine j_iconst (v := nI 2) (q := 42) C dX11_goesBy_41 rfl (by decide) ?_
      refine jS1 (q := 45) C dX11_goesBy_42 rfl mX11_of kw_908 kw_909 (ctX11_of) rfl rfl (by decide) (Nat.le_of_ble_eq_true rfl) (by decide) ?_
      refine j_laldW (q := 46) C dX11_goesBy_45 rfl hR.1.2.1 (by omega) (by decide) ?_
      refine j_ladd (q := 47) C dX11_goesBy_46 rfl ?_
      refine j_lmin (q := 50) C dX11_goesBy_47 rfl kw_988 (by decide) (Nat.le_of_ble_eq_true rfl) (by decide) ?_
      refine j_lastW (q := 51) C dX11_goesBy_50 rfl hR.1.2.1 (by omega) (by decide) ?_
      first | refine j_iincN (lv' := [(1, _), (0, _)]) (q := 54) C dX11_goesBy_51 rfl rfl (by decide) rfl ?_ | refine j_iinc (lv' := [(1, _), (0, _)]) (q := 54) C dX11_goesBy_51 rfl rfl rfl (by decide) rfl ?_
      refine j_goto (tgt := 2) C dX11_goesBy_54 (by decide) ?_
      exact j_fewer (lv' := [(1, .int (nI (k + 1))), (0, .ref o)]) (by simp) (ih (k + 1) _ (by rw [nBakes, ← eN]) (by omega))
  exact loop2 pe 0 N rfl (by omega)

