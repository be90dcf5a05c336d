theorem nQ.one {z : Prop} {d pe pa la : Nat} {N : Nat → Int64} {k : Nat} (hk : ¬ (nIn d pe pa la k ∨ (z ∧ 1 ≤ k ∧ k ≤ 3))) (x : Int64) : nQ z d pe pa la (va_up N k x) N := by
  have h := nQ.out (nQ.rf (z := z) (d := d) (pe := pe) (pa := pa) (la := la) (N := N)) hk x (N k)
  rw [va_id] at h
  exact h
/-- the class lays the price ahead of eating -/
theorem nDay_cls {LT : Nat → sT} {d pe pa la : Nat} {N N3 : Nat → Int64} {pr : Int64} (hO : nOk N d pe pa la) (hpr : pr = nPrice (nWages LT d la (nBakes N pe) pa) (nAsk (nWages LT d la (nBakes N pe) pa)) (nOff (nWages LT d la (nBakes N pe) pa) d) d pe) (h3 : N3 = (nBuys (nAsk (nWages LT d la (nBakes N pe) pa)) pr pe (nOff (nWages LT d la (nBakes N pe) pa) d, nWages LT d la (nBakes N pe) pa) pe).2) : nOk N3 d pe pa la ∧ nOk (va_up N3 (310 + d + 1) pr) d pe pa la ∧ nQ True (d + 1) pe pa la (va_up (nDebts LT d la (nEats (va_up N3 (310 + d + 1) pr) pe) pa) 0 (lN (d + 1))) (nDay LT d pe pa la N) := by
  have hpe := hO.2.1.2
  have hO1 : nOk (nBakes N pe) d pe pa la := hO.eq (nBakes_eq pe hpe)
  have hO2 := hO1.eq (nWages_eq (LT := LT) hO1 pa (Nat.le_refl _))
  have hO3 : nOk N3 d pe pa la := by
    rw [h3]
    exact hO2.eq (nBuys_eq (A := nAsk (nWages LT d la (nBakes N pe) pa)) (pr := pr) (q := (nOff (nWages LT d la (nBakes N pe) pa) d, nWages LT d la (nBakes N pe) pa)) hpe pe (Nat.le_refl _))
  have hq0 : nQ True d pe pa la (va_up N3 (310 + d + 1) pr) N3 := nQ.one (fun h => by
    have := hO.2.2.2.1.2
    have := hO.2.2.1.2
    unfold nIn at h
    omega) pr
  have hOx := hO3.q hq0
  refine ⟨hO3, hOx, ?_⟩
  have hq1 := nEats_c hq0 pe (Nat.le_refl _)
  have hO4 := hO3.eq (nEats_eq pe hpe)
  have hq2 := nDebts_c (LT := LT) hq1 hO4 pa (Nat.le_refl _)
  have hOe := hOx.eq (nEats_eq pe hpe)
  have hst : nSt (310 + d + 1) := by unfold nSt; omega
  have hval : nDebts LT d la (nEats (va_up N3 (310 + d + 1) pr) pe) pa (310 + d + 1) = pr := by
    rw [nDebts_eq hOe pa (Nat.le_refl _) _ hst, nEats_eq pe hpe _ hst, va_up_self]
  have h6 := hq2.day pr
  rw [show va_up (nDebts LT d la (nEats (va_up N3 (310 + d + 1) pr) pe) pa) (310 + d + 1) pr = nDebts LT d la (nEats (va_up N3 (310 + d + 1) pr) pe) pa by
    have := va_id (nDebts LT d la (nEats (va_up N3 (310 + d + 1) pr) pe) pa) (310 + d + 1)
    rw [hval] at this
    exact this] at h6
  have h0 : nDebts LT d la (nEats (va_up N3 (310 + d + 1) pr) pe) pa 0 = lN d := by
    rw [nDebts_eq hOe pa (Nat.le_refl _) 0 (Or.inl rfl), nEats_eq pe hpe 0 (Or.inl rfl), va_up_ne _ _ (by omega)]
    exact hO3.1.1
  have h7 := h6.upC (k := 0) (Or.inl rfl) (fun x => x + 1)
  rw [h0, lN_1] at h7
  have e : nDay LT d pe pa la N = (va_up (va_up (nDebts LT d la (nEats N3 pe) pa) (310 + d + 1) pr) 0 (va_up (nDebts LT d la (nEats N3 pe) pa) (310 + d + 1) pr 0 + 1)) := by
    unfold nDay
    rw [h3, hpr]
  rw [e]
  exact h7
def wSX (w q pr jg mk b : Nat) : Prop := wSJ w q pr jg b ∨ mS mk b
theorem sub0X {w q pr jg mk : Nat} : ∀ b, wS0 w q pr b → wSX w q pr jg mk b := fun _ h => Or.inl (Or.inl h)
theorem subJX {w q pr jg mk : Nat} : ∀ b, wSJ w q pr jg b → wSX w q pr jg mk b := fun _ h => Or.inl h
theorem subMX {w q pr jg mk : Nat} : ∀ b, wSM w q pr mk b → wSX w q pr jg mk b := fun _ h => h.elim (fun h => Or.inl (Or.inl h)) Or.inr
theorem wSX_lt {w q pr jg mk B b : Nat} (h : w < B ∧ q + 36 ≤ B ∧ pr < B ∧ jg + 2 < B ∧ mk + 2 < B) (hb : wSX w q pr jg mk b) : b < B := by
  unfold wSX wSJ wS0 mS at hb
  omega
/-- a day's end -/
def wD (w q pr lw jg mk d pe pa la : Nat) (M : jM) (N : Nat → Int64) : Option Value → jM → Prop := fun r M2 => r = none ∧ nQ True d pe pa la (vK w q pr lw M2) N ∧ mEq (wSX w q pr jg mk) M M2
set_option maxRecDepth 100000 in
set_option maxHeartbeats 4000000 in
theorem ctX9_goDay {G : jG} {sz : Nat} {Sh : jS} {M : jM} {w q pr lw jg mk B la : Nat} {LT : Nat → sT} {K : Nat → Int64} (hC : wCx w q pr lw jg mk B la LT Sh M) (hM : vK w q pr lw M = K) {d pe pa : Nat} (hO : nOk K d pe pa la) (hL : mLay mk Sh M) (hAp : mAp w q pr lw mk) (hB : nB K d pe) (hS : nS K pa) (hd300 : d < 300) : jC G yX9_goDay cX9_goDay 2 (Option.none : Option FieldType) (jrm 5 0 0) sz Sh M [.ref w] (jT sz Sh (wD w q pr lw jg mk (d + 1) pe pa la M (nDay LT d pe pa la K))) := by
  refine jC_start (by decide +kernel) (Nat.le_of_ble_eq_true rfl) (fun X C E hN0 => ?_)
  have hW := hC.1
  have hlt := fun b hb => wSX_lt (b := b) ⟨hC.2.2.2.2.2.1, hC.2.2.2.2.2.2.1, hC.2.2.2.2.2.2.2.1, hC.2.2.2.2.2.2.2.2.1, hC.2.2.2.2.2.2.2.2.2⟩ hb
  have hSS : ∀ b, wS0 w q pr b → wSX w q pr jg mk b := sub0X
  have hpe : pe ≤ 10 := hO.2.1.2
  have hpa : pa ≤ 24 := hO.2.2.1.2
  have hW0 := hC.1
  refine j_aload_n (q := 1) C dX9_goDay_0 rfl rfl rfl ?_
  refine wg_World_day hW hM (q' := 4) C dX9_goDay_1 rfl kw_209 ?_
  refine j_top (v' := .int (nI d)) (congrArg Value.int (k32 hO.1.1)) ?_
  refine j_sipush (v := nI 300) (q := 7) C dX9_goDay_4 rfl (by decide) ?_
  refine j_icmp_lt (q := 10) (tgt := 11) C dX9_goDay_7 rfl (by decide) (fun c_7 => ?_) (fun c_7 => absurd (nI_lt (by omega) (by omega)) c_7)
  refine j_iconst (v := nI 0) (q := 12) C dX9_goDay_11 rfl (by decide) ?_
  refine j_istore_n (lv' := [(1, _), (0, _)]) (q := 13) C dX9_goDay_12 rfl rfl (by decide) rfl ?_
  have j61 : ∀ M1 Kx, vK w q pr lw M1 = Kx → nB Kx d pe → nOk Kx d pe pa la → nQ True (d + 1) pe pa la (va_up (nDebts LT d la (nEats Kx pe) pa) 0 (nI (d + 1)).toInt64) (nDay LT d pe pa la K) → mEq (wSX w q pr jg mk) M M1 → jJ G X 0 0 sz Sh M1 61 [(1, .int (nI 0)), (0, .ref w)] [] := by
    intro M1 Kx hM1 hB3x hOx hFin hE1
    have loop61 : ∀ (n k : Nat) (Mk : jM), vK w q pr lw Mk = nEats Kx k → mEq (wSX w q pr jg mk) M Mk → k + n = pe → jJ G X 0 0 sz Sh Mk 61 [(1, .int (nI k)), (0, .ref w)] [] := by
      intro n
      induction n with
      | zero =>
        intro k Mk hMk hE hk
        have hEk := nEats_b hB3x (by omega) k (by omega)
        have hW := hW0.mv hE
        have hM : vK w q pr lw Mk = nEats Kx k := hMk
        have hOe : nOk (nEats Kx k) d pe pa la := hOx.eq (nEats_eq k (by omega))
        have hCk := hC.mv hE hlt
        refine j_iload_n (q := 62) C dX9_goDay_61 rfl rfl rfl ?_
        refine j_aload_n (q := 63) C dX9_goDay_62 rfl rfl rfl ?_
        refine wg_World_people hW hM (q' := 66) C dX9_goDay_63 rfl kw_204 ?_
        refine j_top (v' := .int (nI pe)) (congrArg Value.int (k32 hOe.2.1.1)) ?_
        refine j_icmp_ge (q := 69) (tgt := 84) C dX9_goDay_66 rfl (by decide) (fun c_66 => ?_) (fun c_66 => absurd (nI_le (by omega) (by omega)) c_66)
        obtain rfl : pe = k := by omega
        refine j_aload_n (q := 85) C dX9_goDay_84 rfl rfl rfl ?_
        refine jVT jc9 (q := 88) C dX9_goDay_85 rfl hW.1.1 mX9_payDebts kw_650 kw_651 kw_20 (ctX9_payDebts hCk hM hOe) rfl rfl (by decide) (Nat.le_of_ble_eq_true rfl) (by decide) (fun r_85 M_85 h_85 => ?_)
        obtain ⟨rfl, hM2, hE2⟩ := h_85
        clear hM hW
        have hM := hM2
        replace hE := hE.tr (hE2.mono subJX)
        have hW := hW0.mv hE
        refine j_aload_n (q := 89) C dX9_goDay_88 rfl rfl rfl ?_
        refine j_dup (q := 90) C dX9_goDay_89 rfl rfl ?_
        refine wg_World_day hW hM (q' := 93) C dX9_goDay_90 rfl kw_209 ?_
        refine j_top (v' := .int (nI d)) (congrArg Value.int (k32 ((nDebts_eq hOe pa (Nat.le_refl _) 0 (Or.inl rfl)).trans hOe.1.1))) ?_
        refine j_iconst (v := nI 1) (q := 94) C dX9_goDay_93 rfl (by decide) ?_
        first | refine j_iaddN (q := 95) C dX9_goDay_94 rfl ?_ | refine j_iadd (q := 95) C dX9_goDay_94 rfl ?_
        refine wp_World_day hW hM hE hSS (q' := 98) C dX9_goDay_95 rfl kw_209 (fun M hM hE hW => ?_)
        exact j_vret C E dX9_goDay_98 rfl rfl (⟨rfl, rfl, rfl, by rw [hM]; exact hFin, hE⟩)
      | succ n ih =>
        intro k Mk hMk hE hk
        have hEk := nEats_b hB3x (by omega) k (by omega)
        have hW := hW0.mv hE
        have hM : vK w q pr lw Mk = nEats Kx k := hMk
        have hOe : nOk (nEats Kx k) d pe pa la := hOx.eq (nEats_eq k (by omega))
        have hCk := hC.mv hE hlt
        refine j_iload_n (q := 62) C dX9_goDay_61 rfl rfl rfl ?_
        refine j_aload_n (q := 63) C dX9_goDay_62 rfl rfl rfl ?_
        refine wg_World_people hW hM (q' := 66) C dX9_goDay_63 rfl kw_204 ?_
        refine j_top (v' := .int (nI pe)) (congrArg Value.int (k32 hOe.2.1.1)) ?_
        refine j_icmp_ge (q := 69) (tgt := 84) C dX9_goDay_66 rfl (by decide) (fun c_66 => absurd c_66 (fun h => absurd ((nI_leI (by omega) (by omega)).mp h) (by omega))) (fun c_66 => ?_)
        refine j_aload_n (q := 70) C dX9_goDay_69 rfl rfl rfl ?_
        refine jg_World_persons (q := 73) C dX9_goDay_70 rfl hW.1.1 kw_191 hW.2.1.1 ?_
        refine j_iload_n (q := 74) C dX9_goDay_73 rfl rfl rfl ?_
        refine wa_pers hW (by omega) (q' := 75) C dX9_goDay_74 rfl ?_
        have l1 := hEk k 1 (by omega) (by omega)
        have l5 := hEk k 5 (by omega) (by omega)
        rw [if_neg (by omega)] at l1 l5
        have l1' : isN (nEats Kx k (10 + 10 * k + 1)) 9999 := l1
        have l5' : isN (nEats Kx k (10 + 10 * k + 5)) d := l5
        have e1 : Mk.1 (q + 2 + k) 1 = nI (nv (nEats Kx k (10 + 10 * k + 1))) := i32_of (by rw [← vK_pI (w := w) (pr := pr) (lw := lw) (by omega) (by omega), hM]) l1'.1
        have e5 : Mk.1 (q + 2 + k) 5 = nI (nv (nEats Kx k (10 + 10 * k + 5))) := i32_of (by rw [← vK_pI (w := w) (pr := pr) (lw := lw) (by omega) (by omega), hM]) l5'.1
        have hl1 := l1'.2
        have hl5 := l5'.2
        have eM : vK w q pr lw (cEat Mk (q + 2 + k)) = nEats Kx (k + 1) ∧ mEq (wSX w q pr jg mk) M (cEat Mk (q + 2 + k)) := by
          unfold cEat
          rw [nEats]
          unfold nEat1
          by_cases c : nv (nEats Kx k (10 + 10 * k + 1)) = 0
          · rw [if_pos (by rw [e1, c]; decide), if_pos (by rw [l1'.1, c]; decide)]
            refine ⟨?_, hE.I (hSS _ (by unfold wS0; omega))⟩
            rw [vU_pI hW.2.2 (by omega) (by omega), hM, e5, nI_add, nI_l (by omega), l5'.1, lN_1, nv_lN (by omega)]
          · rw [if_neg (by rw [e1]; intro h; have := (nI_leI (b := 0) (by omega) (by omega)).mp h; omega), if_neg (by rw [l1'.1]; intro h; have := (pk_lLE (b := 0) (by omega) (by omega)).mp h; omega)]
            refine ⟨?_, hE.I (hSS _ (by unfold wS0; omega))⟩
            rw [vU_pI hW.2.2 (by omega) (by omega), hM, e1, pk_sub (by omega), nI_l (by omega), l1'.1, show (-1 : Int64) = - lN 1 from rfl, ← Int64.sub_eq_add_neg, lN_sub (by omega), nv_lN (by omega)]
        refine jV0 jc6 (q := 78) C dX9_goDay_75 rfl (hW.1.2.2.2.2.2.2.2.1 k (by omega)) mX6_eatLoaf kw_646 kw_647 kw_648 (ctX6_eatLoaf (hW.1.2.2.2.2.2.2.2.1 k (by omega))) rfl rfl (by decide) (Nat.le_of_ble_eq_true rfl) (by decide) ?_
        first | refine j_iincN (lv' := [(1, _), (0, _)]) (q := 81) C dX9_goDay_78 rfl rfl (by decide) rfl ?_ | refine j_iinc (lv' := [(1, _), (0, _)]) (q := 81) C dX9_goDay_78 rfl rfl rfl (by decide) rfl ?_
        refine j_goto (tgt := 61) C dX9_goDay_81 (by decide) ?_
        exact j_fewer (lv' := [(1, .int (nI (k + 1))), (0, .ref w)]) (by simp) (ih (k + 1) _ eM.1 eM.2 (by omega))
    exact loop61 pe 0 M1 hM1 hE1 (by omega)
  have loop13 : ∀ (n k : Nat) (Mk : jM), vK w q pr lw Mk = nBakes K k → mEq (wSX w q pr jg mk) M Mk → k + n = pe → jJ G X 0 0 sz Sh Mk 13 [(1, .int (nI k)), (0, .ref w)] [] := by
    intro n
    induction n with
    | zero =>
      intro k Mk hMk hE hk
      have hB1 := nBakes_b hB k (by omega)
      have hW := hW0.mv hE
      have hM : vK w q pr lw Mk = nBakes K k := hMk
      have hOb : nOk (nBakes K k) d pe pa la := hO.eq (nBakes_eq k (by omega))
      have hCk := hC.mv hE hlt
      refine j_iload_n (q := 14) C dX9_goDay_13 rfl rfl rfl ?_
      refine j_aload_n (q := 15) C dX9_goDay_14 rfl rfl rfl ?_
      refine wg_World_people hW hM (q' := 18) C dX9_goDay_15 rfl kw_204 ?_
      refine j_top (v' := .int (nI pe)) (congrArg Value.int (k32 hOb.2.1.1)) ?_
      refine j_icmp_ge (q := 21) (tgt := 36) C dX9_goDay_18 rfl (by decide) (fun c_18 => ?_) (fun c_18 => absurd (nI_le (by omega) (by omega)) c_18)
      obtain rfl : pe = k := by omega
      refine j_aload_n (q := 37) C dX9_goDay_36 rfl rfl rfl ?_
      refine jVT jc9 (q := 40) C dX9_goDay_37 rfl hW.1.1 mX9_payWages kw_618 kw_619 kw_18 (ctX9_payWages hCk hM hOb) rfl rfl (by decide) (Nat.le_of_ble_eq_true rfl) (by decide) (fun r_37 M_37 h_37 => ?_)
      obtain ⟨rfl, hM2, hE2⟩ := h_37
      clear hM hW
      have hM := hM2
      replace hE := hE.tr (hE2.mono subJX)
      have hW := hW0.mv hE
      have hLk := hL.mv hE
      have hO2 := hOb.eq (nWages_eq (LT := LT) hOb pa (Nat.le_refl _))
      have hB2 := nWages_b (LT := LT) hB1 hOb (hS.eq (nBakes_eq pe hpe)) pa (Nat.le_refl _)
      refine j_aload_n (q := 41) C dX9_goDay_40 rfl rfl rfl ?_
      refine jg_World_prices (q := 44) C dX9_goDay_41 rfl hW.1.1 kw_200 hW.2.1.2.2.2.1 ?_
      refine j_aload_n (q := 45) C dX9_goDay_44 rfl rfl rfl ?_
      refine wg_World_day hW hM (q' := 48) C dX9_goDay_45 rfl kw_209 ?_
      refine j_top (v' := .int (nI d)) (congrArg Value.int (k32 hO2.1.1)) ?_
      refine j_iconst (v := nI 1) (q := 49) C dX9_goDay_48 rfl (by decide) ?_
      first | refine j_iaddN (q := 50) C dX9_goDay_49 rfl ?_ | refine j_iadd (q := 50) C dX9_goDay_49 rfl ?_
      refine j_aload_n (q := 51) C dX9_goDay_50 rfl rfl rfl ?_
      refine jg_World_market (q := 54) C dX9_goDay_51 rfl hW.1.1 kw_203 hW.2.1.2.2.2.2.2.1 ?_
      refine j_aload_n (q := 55) C dX9_goDay_54 rfl rfl rfl ?_
      refine jVT jc4 (q := 58) C dX9_goDay_55 rfl hW.1.2.2.2.2.2.2.1 mX4_hold kw_623 kw_624 kw_625 (ctX4_hold hW hM hLk hAp hO2 hB2) rfl rfl (by decide) (Nat.le_of_ble_eq_true rfl) (by decide) (fun r_55 M_55 h_55 => ?_)
      obtain ⟨rfl, hM3, hE3⟩ := h_55
      clear hM hW
      replace hE := hE.tr (hE3.mono subMX)
      have hW := hW0.mv hE
      obtain ⟨pr0, hpr0⟩ : ∃ z, z = nPrice (nWages LT d la (nBakes K pe) pa) (nAsk (nWages LT d la (nBakes K pe) pa)) (nOff (nWages LT d la (nBakes K pe) pa) d) d pe := ⟨_, rfl⟩
      obtain ⟨N3, hN3⟩ : ∃ z, z = (nBuys (nAsk (nWages LT d la (nBakes K pe) pa)) pr0 pe (nOff (nWages LT d la (nBakes K pe) pa) d, nWages LT d la (nBakes K pe) pa) pe).2 := ⟨_, rfl⟩
      rw [← hpr0] at hM3 ⊢
      rw [← hN3] at hM3
      have hM := hM3
      have hFin := nDay_cls hO hpr0 hN3
      have hB3 : nB N3 d pe := by
        have hpo : prOk pr0 := by rw [hpr0]; exact nPrice_ok (hO2.2.2.2.2.2 d (Nat.le_refl _))
        obtain ⟨p, ep, hp1, hp2⟩ := prOk_N hpo
        rw [hN3, ep]
        exact ((iQ.first hB2).run hpe hp1 hp2 pe (Nat.le_refl _)).1
      refine ws_pr (k := d + 1) hW hM hE hSS (by omega) (q' := 59) C dX9_goDay_58 rfl (fun M hM hE hW => ?_)
      refine j_iconst (v := nI 0) (q := 60) C dX9_goDay_59 rfl (by decide) ?_
      refine j_istore_n (lv' := [(1, _), (0, _)]) (q := 61) C dX9_goDay_60 rfl rfl (by decide) rfl ?_
      exact j_fewer (lv' := [(1, .int (nI 0)), (0, .ref w)]) (by simp) (j61 M _ hM (hB3.out hpe (by omega)) hFin.2.1 (by rw [nI_l (by omega)]; exact hFin.2.2) hE)
    | succ n ih =>
      intro k Mk hMk hE hk
      have hB1 := nBakes_b hB k (by omega)
      have hW := hW0.mv hE
      have hM : vK w q pr lw Mk = nBakes K k := hMk
      have hOb : nOk (nBakes K k) d pe pa la := hO.eq (nBakes_eq k (by omega))
      have hCk := hC.mv hE hlt
      refine j_iload_n (q := 14) C dX9_goDay_13 rfl rfl rfl ?_
      refine j_aload_n (q := 15) C dX9_goDay_14 rfl rfl rfl ?_
      refine wg_World_people hW hM (q' := 18) C dX9_goDay_15 rfl kw_204 ?_
      refine j_top (v' := .int (nI pe)) (congrArg Value.int (k32 hOb.2.1.1)) ?_
      refine j_icmp_ge (q := 21) (tgt := 36) C dX9_goDay_18 rfl (by decide) (fun c_18 => absurd c_18 (fun h => absurd ((nI_leI (by omega) (by omega)).mp h) (by omega))) (fun c_18 => ?_)
      refine j_aload_n (q := 22) C dX9_goDay_21 rfl rfl rfl ?_
      refine jg_World_persons (q := 25) C dX9_goDay_22 rfl hW.1.1 kw_191 hW.2.1.1 ?_
      refine j_iload_n (q := 26) C dX9_goDay_25 rfl rfl rfl ?_
      refine wa_pers hW (by omega) (q' := 27) C dX9_goDay_26 rfl ?_
      have l1 := hB1.lv (i := k) (by omega)
      have l2 := hB1.bk (i := k) (by omega)
      have e1 : Mk.1 (q + 2 + k) 1 = nI (nv (nBakes K k (10 + 10 * k + 1))) := i32_of (by rw [← vK_pI (w := w) (pr := pr) (lw := lw) (by omega) (by omega), hM]) l1.1
      have e2 : Mk.1 (q + 2 + k) 2 = nI (nv (nBakes K k (10 + 10 * k + 2))) := i32_of (by rw [← vK_pI (w := w) (pr := pr) (lw := lw) (by omega) (by omega), hM]) l2.1
      have hl1 := l1.2
      have hl2 := l2.2
      refine jV0 jc6 (q := 30) C dX9_goDay_27 rfl (hW.1.2.2.2.2.2.2.2.1 k (by omega)) mX6_bakeLoaves kw_613 kw_614 kw_615 (ctX6_bakeLoaves (hW.1.2.2.2.2.2.2.2.1 k (by omega))) rfl rfl (by decide) (Nat.le_of_ble_eq_true rfl) (by decide) ?_
      first | refine j_iincN (lv' := [(1, _), (0, _)]) (q := 33) C dX9_goDay_30 rfl rfl (by decide) rfl ?_ | refine j_iinc (lv' := [(1, _), (0, _)]) (q := 33) C dX9_goDay_30 rfl rfl rfl (by decide) rfl ?_
      refine j_goto (tgt := 13) C dX9_goDay_33 (by decide) ?_
      refine j_fewer (lv' := [(1, .int (nI (k + 1))), (0, .ref w)]) (by simp) (ih (k + 1) _ ?_ (hE.I (hSS _ (by unfold wS0; omega))) (by omega))
      rw [vU_pI hW.2.2 (by omega) (by omega), hM, nBakes, e1, e2, nI_add, show (9999 : Int64) = lN 9999 from rfl, imn_N (by omega) (by omega), nI_l (by omega), l1.1, l2.1, lN_add, lmn_N (by omega) (by omega), nv_lN (by omega), nv_lN (by omega)]
  exact loop13 pe 0 M hM mEq.rf (by omega)

