theorem vK_share {w q w2 q2 pr lw : Nat} {M : jM} {k : Nat} (hk : k = 6 ∨ 278 ≤ k) : vK w q pr lw M k = vK w2 q2 pr lw M k := by
  rcases hk with rfl | hk
  · rw [vK_6, vK_6]
  · unfold vK
    simp only [if_neg (show ¬ k < 10 by omega), if_neg (show ¬ k < 110 by omega), if_neg (show ¬ k < 278 by omega)]
/-- a world taken over, with laws and prices -/
theorem takeAll_K {w q pr lw w2 q2 pr2 lw2 pe pa d la : Nat} {M M2 M3 : jM} {r r2 : Option Value} (h : wMv w q w2 q2 pe pa M r M2) (g : lMv lw lw2 M2 r2 M3) (hD : wDis w q pr lw) (hX : ∀ b, (wS0 w q pr b ∨ (lw ≤ b ∧ b ≤ lw + 4)) → ¬ (wS0 w2 q2 pr2 b ∨ (lw2 ≤ b ∧ b ≤ lw2 + 4))) (hpe : pe ≤ 10) (hpa : pa ≤ 24) (hla : la ≤ 12) (hd : d ≤ 300) : nQ True d pe pa la (vK w q pr lw (jw M3 pr (va_cpy (M3.2.1 pr2) (M3.2.1 pr) 0 0 301))) (vK w2 q2 pr2 lw2 M) ∧ mE3 (fun b => wS0 w q pr b ∨ lS lw b) (lT lw) M (jw M3 pr (va_cpy (M3.2.1 pr2) (M3.2.1 pr) 0 0 301)) := by
  obtain ⟨-, g1, g2, g3, g4, g5⟩ := g
  have h1 := h.2.1
  have hX2 : ∀ b, (wS0 w2 q2 pr2 b ∨ (lw2 ≤ b ∧ b ≤ lw2 + 4)) → ¬ wS1 w q b := fun b hb hc => hX b (Or.inl (by unfold wS0; unfold wS1 at hc; omega)) hb
  refine ⟨fun k hk => ?_, ?_⟩
  · have hk' : (k < 6 ∨ (10 ≤ k ∧ k < 10 + 10 * pe) ∨ (110 ≤ k ∧ k < 110 + 7 * pa)) ∨ k = 6 ∨ (278 ≤ k ∧ k < 278 + 2 * la) ∨ (310 ≤ k ∧ k ≤ 310 + d) := by
      rcases hk with hk | ⟨-, hk⟩
      · unfold nIn at hk; omega
      · omega
    rcases hk' with hk' | rfl | hk' | hk'
    · rw [← h.K (pr := pr) (lw := lw) (pr2 := pr2) (lw2 := lw2) hpe hpa hk']
      unfold wDis at hD
      refine vK_same (fun h => ⟨fun z => congrFun (g1.1 _ (by unfold lS; omega)) _, fun z => congrFun (g1.1 _ (by unfold lS; omega)) _, fun z => congrFun (g1.1 _ (by unfold lS; omega)) _, fun z => by omega, fun z => ?_, fun z => ?_, fun z => ?_⟩) (fun i f hi hf ek => ⟨fun _ => congrFun (g1.1 _ (by unfold lS; omega)) _, fun _ => ?_⟩) (fun j f hj hf ek => ⟨fun _ => congrFun (g1.1 _ (by unfold lS; omega)) _, fun _ => ?_⟩) (fun l hl => by omega) (fun d ek => by omega)
      · rw [jw_ne _ _ (by omega), g5]
      · rw [jw_ne _ _ (by omega), g5]
      · rw [jw_ne _ _ (by omega), g5]
      · rw [jw_ne _ _ (by omega), g5]
      · rw [jw_ne _ _ (by omega), g5]
    · rw [vK_6, vK_6]
      show (M3.1 lw 4).toInt64 = _
      rw [g4, h1.1 lw2 (hX2 _ (by omega))]
    · obtain ⟨l, hl, e⟩ : ∃ l, l < 12 ∧ (k = 278 + 2 * l ∨ k = 278 + 2 * l + 1) := ⟨(k - 278) / 2, by omega, by omega⟩
      rcases e with rfl | rfl
      · rw [vK_c hl, vK_c hl]
        show (M3.1 (lw + 3) l).toInt64 = _
        rw [(g3 l hl).2.1, h1.1 (lw2 + 3) (hX2 _ (by omega))]
      · rw [vK_f hl, vK_f hl]
        show (M3.1 (lw + 4) l).toInt64 = _
        rw [(g3 l hl).2.2, h1.1 (lw2 + 4) (hX2 _ (by omega))]
    · obtain ⟨e, rfl⟩ : ∃ e, k = 310 + e := ⟨k - 310, by omega⟩
      rw [vK_p, vK_p, jw_at, pk_cpy_in (by omega) (by omega), g5, h1.2.1 pr2 (hX2 _ (by unfold wS0; omega))]
      rw [show 0 + (e - 0) = e by omega]
  · refine ⟨fun b hb => ?_, fun b hb => ?_, fun b hb => ?_⟩
    · show M3.1 b = _
      rw [g1.1 b (fun z => hb (Or.inr z)), h1.1 b (fun z => hb (Or.inl (by unfold wS0; unfold wS1 at z; omega)))]
    · rw [jw_ne _ _ (fun z => hb (Or.inl (by unfold wS0; omega))), g5, h1.2.1 b (fun z => hb (Or.inl (by unfold wS0; unfold wS1 at z; omega)))]
    · show M3.2.2 b = _
      rw [g1.2.2 b hb, h1.2.2]
def wAll (w q pr lw w2 q2 pr2 lw2 d pe pa la : Nat) (M : jM) : Option Value → jM → Prop := fun r M2 => r = none ∧ nQ True d pe pa la (vK w q pr lw M2) (vK w2 q2 pr2 lw2 M) ∧ mE3 (fun b => wS0 w q pr b ∨ lS lw b) (lT lw) M M2 ∧ (∀ t, t < 5 → M2.2.2 (lw + 1) t = M.2.2 (lw2 + 1) t) ∧ ∀ l, l < 12 → M2.2.2 (lw + 2) l = M.2.2 (lw2 + 2) l
set_option maxRecDepth 100000 in
set_option maxHeartbeats 4000000 in
theorem ctX9_takeAll {G : jG} {sz : Nat} {Sh : jS} {M : jM} {w q pr lw jg mk w2 q2 pr2 lw2 jg2 mk2 : Nat} (hW : wLay w q pr lw jg mk Sh M) (hW2 : wLay w2 q2 pr2 lw2 jg2 mk2 Sh M) (hT : wTwo w q w2 q2) {pe pa : Nat} (hpe6 : M.1 w2 6 = nI pe) (hpe : pe ≤ 10) (hpa7 : M.1 w2 7 = nI pa) (hpa : pa ≤ 24) (hL : lLay lw Sh M) (hL2 : lLay lw2 Sh M) (hX : ∀ b, (wS0 w q pr b ∨ (lw ≤ b ∧ b ≤ lw + 4)) → ¬ (wS0 w2 q2 pr2 b ∨ (lw2 ≤ b ∧ b ≤ lw2 + 4))) (hT5 : ∀ t, t < 5 → ∀ ca, M.2.2 (lw2 + 1) t = some ca → (Sh ca).1 = 1) (hC12 : ∀ l, l < 12 → ∀ ca, M.2.2 (lw2 + 2) l = some ca → (Sh ca).1 = 1) {d la : Nat} (hd3 : d ≤ 300) (hla : la ≤ 12) : jC G yX9_takeAll cX9_takeAll 2 (Option.none : Option FieldType) (jrm 3 0 0) sz Sh M [.ref w, .ref w2] (jT sz Sh (wAll w q pr lw w2 q2 pr2 lw2 d pe pa la M)) := by
  refine jC_start (by decide +kernel) (Nat.le_of_ble_eq_true rfl) (fun X C E hN0 => ?_)
  refine j_aload_n (q := 1) C dX9_takeAll_0 rfl rfl rfl ?_
  refine j_aload_n (q := 2) C dX9_takeAll_1 rfl rfl rfl ?_
  refine jVT jc9 (q := 5) C dX9_takeAll_2 rfl hW.1.1 mX9_takeMoving kw_836 kw_720 kw_721 (ctX9_takeMoving hW hW2 hT hpe6 hpe hpa7 hpa) rfl rfl (by decide) (Nat.le_of_ble_eq_true rfl) (by decide) (fun r_2 M_2 h_2 => ?_)
  have hm2 := h_2
  obtain ⟨rfl, hE1, -⟩ := h_2
  have hW1 := hW.mv hE1
  have hW21 := hW2.mv hE1
  have eR2 := hE1.2.2
  have hL1 : lLay lw Sh M_2 := by unfold lLay at hL ⊢; rw [eR2]; exact hL
  have hL21 : lLay lw2 Sh M_2 := by unfold lLay at hL2 ⊢; rw [eR2]; exact hL2
  have hlap : lw + 4 < lw2 ∨ lw2 + 4 < lw := by
    have := hX lw (Or.inr (by omega))
    have := hX (lw + 4) (Or.inr (by omega))
    have := hX (lw + 1) (Or.inr (by omega))
    have := hX (lw + 2) (Or.inr (by omega))
    have := hX (lw + 3) (Or.inr (by omega))
    omega
  refine j_aload_n (q := 6) C dX9_takeAll_5 rfl rfl rfl ?_
  refine jg_World_laws (q := 9) C dX9_takeAll_6 rfl hW1.1.1 kw_197 hW1.2.1.2.2.1 ?_
  refine j_aload_n (q := 10) C dX9_takeAll_9 rfl rfl rfl ?_
  refine jg_World_laws (q := 13) C dX9_takeAll_10 rfl hW21.1.1 kw_197 hW21.2.1.2.2.1 ?_
  refine jVT jc3 (q := 16) C dX9_takeAll_13 rfl hL1.1 mX3_take kw_837 kw_838 kw_839 (ctX3_take hL1 hL21 hlap (by rw [eR2]; exact hT5) (by rw [eR2]; exact hC12)) rfl rfl (by decide) (Nat.le_of_ble_eq_true rfl) (by decide) (fun r_13 M_13 h_13 => ?_)
  have hm13 := h_13
  obtain ⟨rfl, hE13, hx5, hx12, -⟩ := h_13
  have hwl : ¬ lT lw w ∧ ¬ lT lw w2 := by
    have hDw := hW.2.2
    unfold wDis at hDw
    refine ⟨fun h => by unfold lT at h; omega, fun h => hX w2 (Or.inr (by unfold lT at h; omega)) (Or.inl (by unfold wS0; omega))⟩
  refine j_aload_n (q := 17) C dX9_takeAll_16 rfl rfl rfl ?_
  refine jg_World_prices (q := 20) C dX9_takeAll_17 rfl hW2.1.1 kw_200 ((congrFun (hE13.2.2 _ hwl.2) _).trans hW21.2.1.2.2.2.1) ?_
  refine j_iconst (v := nI 0) (q := 21) C dX9_takeAll_20 rfl (by decide) ?_
  refine j_aload_n (q := 22) C dX9_takeAll_21 rfl rfl rfl ?_
  refine jg_World_prices (q := 25) C dX9_takeAll_22 rfl hW.1.1 kw_200 ((congrFun (hE13.2.2 _ hwl.1) _).trans hW1.2.1.2.2.2.1) ?_
  refine j_iconst (v := nI 0) (q := 26) C dX9_takeAll_25 rfl (by decide) ?_
  refine j_sipush (v := nI 301) (q := 29) C dX9_takeAll_26 rfl (by decide) ?_
  refine j_copyL (q := 32) C dX9_takeAll_29 rfl kw_841 hW2.1.2.2.2.1 hW.1.2.2.2.1 (by omega) (by omega) (by decide) (by decide) (by decide) ?_
  exact j_vret C E dX9_takeAll_32 rfl rfl ((by
      have hK := takeAll_K (d := d) (la := la) hm2 hm13 hW.2.2 hX hpe hpa hla hd3
      exact ⟨rfl, rfl, rfl, hK.1, hK.2, (fun t ht => (hx5 t ht).trans (by rw [eR2])), (fun l hl => (hx12 l hl).1.trans (by rw [eR2]))⟩))

/-- days gone through by a plan: a tax ahead of the days that b names -/
noncomputable def nPl (LT : Nat → sT) (d pe pa la : Nat) (b : Nat → Bool) (N : Nat → Int64) : Nat → (Nat → Int64)
  | 0 => N
  | k + 1 => nDay LT (d + k) pe pa la (if b k then nTaxed (nPl LT d pe pa la b N k) pe else nPl LT d pe pa la b N k)
theorem nTaxed_eq {N : Nat → Int64} {pe : Nat} (hpe : pe ≤ 10) : nEq N (nTaxed N pe) := by
  have h : ∀ k, k ≤ 10 → nEq N (nTx N k).2 := by
    intro k
    induction k with
    | zero => exact fun _ => nEq.rf
    | succ k ih => exact fun hk => (ih (by omega)).up _ (nStP (by omega) (by omega))
  exact (h pe hpe).gets _ nSt1
section NPL
variable {LT : Nat → sT} {N K : Nat → Int64} {d pe pa la : Nat} {b : Nat → Bool} {z : Prop}
theorem tx_ok (hO : nOk N d pe pa la) (hB : nB N d pe) (hS : nS N pa) : nOk (nTaxed N pe) d pe pa la ∧ nB (nTaxed N pe) d pe ∧ nS (nTaxed N pe) pa := ⟨hO.eq (nTaxed_eq hO.2.1.2), nTaxed_b hB, hS.eq (nTaxed_eq hO.2.1.2)⟩
theorem nPl_ok (hO : nOk N d pe pa la) (hB : nB N d pe) (hS : nS N pa) : ∀ k, d + k ≤ 300 → nOk (nPl LT d pe pa la b N k) (d + k) pe pa la ∧ nB (nPl LT d pe pa la b N k) (d + k) pe ∧ nS (nPl LT d pe pa la b N k) pa
  | 0, _ => ⟨hO, hB, hS⟩
  | k + 1, h => by
    obtain ⟨h1, h2, h3⟩ := nPl_ok hO hB hS k (by omega)
    rw [nPl]
    split
    · obtain ⟨g1, g2, g3⟩ := tx_ok h1 h2 h3
      exact nDay_ok g1 (by omega) g2 g3
    · exact nDay_ok h1 (by omega) h2 h3
theorem nPl_c (h : nQ z d pe pa la K N) (hO : nOk N d pe pa la) (hB : nB N d pe) (hS : nS N pa) : ∀ k, d + k ≤ 300 → nQ z (d + k) pe pa la (nPl LT d pe pa la b K k) (nPl LT d pe pa la b N k)
  | 0, _ => h
  | k + 1, hk => by
    have g := nPl_c h hO hB hS k (by omega)
    obtain ⟨h1, h2, h3⟩ := nPl_ok (LT := LT) (b := b) hO hB hS k (by omega)
    rw [nPl, nPl]
    split
    · exact nDay_c (nTaxed_c g) (tx_ok h1 h2 h3).1
    · exact nDay_c g h1
end NPL
/-- prices of days gone by stay -/
theorem nDay_pr {LT : Nat → sT} {N : Nat → Int64} {d pe pa la k : Nat} (hO : nOk N d pe pa la) (hk : k ≤ d) : nDay LT d pe pa la N (310 + k) = N (310 + k) := by
  have hpe := hO.2.1.2
  have hst : nSt (310 + k) := by unfold nSt; omega
  have e1 := nBakes_eq (N := N) pe hpe
  have hO1 : nOk (nBakes N pe) d pe pa la := hO.eq e1
  have e2 := nWages_eq (LT := LT) hO1 pa (Nat.le_refl _)
  have hO2 := hO1.eq e2
  unfold nDay
  try simp only []
  rw [va_up_ne _ _ (by omega), va_up_ne _ _ (by omega)]
  generalize hN2 : nWages LT d la (nBakes N pe) pa = N2 at *
  generalize nPrice N2 (nAsk N2) (nOff N2 d) d pe = pr at *
  have e3 := nBuys_eq (A := nAsk N2) (pr := pr) (q := (nOff N2 d, N2)) hpe pe (Nat.le_refl _)
  have hO3 := hO2.eq e3
  have e4 := nEats_eq (N := (nBuys (nAsk N2) pr pe (nOff N2 d, N2) pe).2) pe hpe
  rw [nDebts_eq (hO3.eq e4) pa (Nat.le_refl _) _ hst, e4 _ hst, e3 _ hst]
  exact (e2 _ hst).trans (e1 _ hst)
theorem nPl_pr {LT : Nat → sT} {N : Nat → Int64} {d pe pa la k : Nat} {b : Nat → Bool} (hO : nOk N d pe pa la) (hB : nB N d pe) (hS : nS N pa) (hk : k ≤ d) : ∀ n, d + n ≤ 300 → nPl LT d pe pa la b N n (310 + k) = N (310 + k)
  | 0, _ => rfl
  | n + 1, hn => by
    obtain ⟨h1, h2, h3⟩ := nPl_ok (LT := LT) (b := b) hO hB hS n (by omega)
    rw [nPl]
    split
    · rw [nDay_pr (tx_ok h1 h2 h3).1 (by omega), nTaxed_eq hO.2.1.2 _ (by unfold nSt; omega)]
      exact nPl_pr hO hB hS hk n (by omega)
    · rw [nDay_pr h1 (by omega)]
      exact nPl_pr hO hB hS hk n (by omega)
