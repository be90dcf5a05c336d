section LKC
variable {K N : Nat → Int64} {d pe pa la : Nat} {LT : Nat → sT}
theorem lkM {d1 pe1 pa1 : Nat} {s1 s2 : sA} (h : lk d pe pa la N s1 s2) (h1 : d ≤ d1) (h2 : pe ≤ pe1) (h3 : pa ≤ pa1) : lk d1 pe1 pa1 la N s1 s2 := by
  obtain ⟨a, b, d2, pe2, pa2, ⟨c1, c2, c3⟩, g⟩ := h
  exact ⟨a, b, d2, pe2, pa2, ⟨by omega, by omega, by omega⟩, g⟩
theorem lkB (hq : nQ True d pe pa la K N) (hO : nOk N d pe pa la) (hB : nB N d pe) (hS : nS N pa) {v : Int64} {b : Bool} : lk d pe pa la N (v, b, K) (v, b, N) := lkR hq hO hB hS rfl rfl
theorem lkE (hO : nOk N d pe pa la) (hS : nS N pa) {K2 N2 : Nat → Int64} {v w : Int64} (e1 : v = w) (hq : nQ True d pe pa la K2 N2) (eE : nEq N N2) (hB : nB N2 d pe) : lk d pe pa la N (v, false, K2) (w, false, N2) := ⟨e1, rfl, d, pe, pa, ⟨Nat.le_refl _, Nat.le_refl _, Nat.le_refl _⟩, hq, hO.eq eE, hB, hS.eq eE, fun t ht => eE _ (by unfold nSt; omega)⟩
theorem z2 {k : Nat} (h : k = 1 ∨ k = 2 ∨ k = 3) (hq : nQ True d pe pa la K N) : K k = N k := hq k (Or.inr ⟨trivial, by omega, by omega⟩)
theorem lk_press (hq : nQ True d pe pa la K N) (hO : nOk N d pe pa la) (hB : nB N d pe) (hS : nS N pa) {v : Int64} : lk d pe pa la N (sPress K v) (sPress N v) := by
  unfold sPress
  by_cases c : (0 : Int64) ≤ v ∧ v ≤ 1000000000000000
  · rw [if_pos c, if_pos c]
    have h1 : nQ True d pe pa la (nGets (va_up K 2 (K 2 + v)) 1 v) (nGets (va_up N 2 (N 2 + v)) 1 v) := by
      refine nQ.gets1 ?_ v
      rw [z2 (Or.inr (Or.inl rfl)) hq]
      exact hq.up 2 _
    exact lkE hO hS (z2 (Or.inl rfl) h1) h1 ((nEq.rf.up _ nSt2).gets _ nSt1) (hB.out hO.2.1.2 (by omega)).get1
  · rw [if_neg c, if_neg c]; exact lkB hq hO hB hS
theorem lk_give (hq : nQ True d pe pa la K N) (hO : nOk N d pe pa la) (hB : nB N d pe) (hS : nS N pa) {p : Int32} {v : Int64} : lk d pe pa la N (sGive K p v) (sGive N p v) := by
  unfold sGive
  by_cases c : okP N p ∧ ((1 : Int64) ≤ v ∧ v ≤ 1000000000000000)
  · rw [if_pos (⟨(okP_c hq).mpr c.1, c.2⟩ : okP K p ∧ ((1 : Int64) ≤ v ∧ v ≤ 1000000000000000)), if_pos c]
    obtain ⟨i, hi, rfl⟩ := (okP_x hO.2.1.1 hO.2.1.2).mp c.1
    have hpe := hO.2.1.2
    rw [nI_clamp (by omega), z2 (Or.inl rfl) hq]
    by_cases c2 : v ≤ N 1
    · rw [if_pos c2, if_pos c2]
      have h1 : nQ True d pe pa la (nGive K i v) (nGive N i v) := by
        unfold nGive
        refine nQ.gets ?_ (by unfold nIn; omega) v
        rw [z2 (Or.inl rfl) hq]
        exact hq.up 1 _
      exact lkE hO hS (h1.at (by unfold nIn; omega)) h1 ((nEq.rf.up _ nSt1).gets _ (nStP (by omega) (by omega))) ((hB.out hpe (by omega)).gets hi (isN_ofR ⟨Int64.le_trans (by decide) c.2.1, c.2.2⟩))
    · rw [if_neg c2, if_neg c2]; exact lkB hq hO hB hS
  · rw [if_neg (fun h => c ⟨(okP_c hq).mp h.1, h.2⟩), if_neg c]; exact lkB hq hO hB hS
theorem lk_tax (hq : nQ True d pe pa la K N) (hO : nOk N d pe pa la) (hB : nB N d pe) (hS : nS N pa) : lk d pe pa la N ((nTx K pe).1, false, nTaxed K pe) ((nTx N pe).1, false, nTaxed N pe) := lkE hO hS (nTx_c hq pe (Nat.le_refl _)).1 (nTaxed_c hq) (nTaxed_eq hO.2.1.2) (nTaxed_b hB)
theorem lk_tear (hq : nQ True d pe pa la K N) (hO : nOk N d pe pa la) (hB : nB N d pe) (hS : nS N pa) {p : Int32} : lk d pe pa la N (sTear K p) (sTear N p) := by
  unfold sTear
  by_cases c : okQ N p
  · rw [if_pos ((okQ_c hq).mpr c), if_pos c]
    obtain ⟨i, hi, rfl⟩ := (okQ_x hO.2.2.1.1 hO.2.2.1.2).mp c
    have hpa := hO.2.2.1.2
    rw [nI_clamp (by omega), hq.at (k := 110 + 7 * i + 6) (by unfold nIn; omega)]
    by_cases c2 : N (110 + 7 * i + 6) = 0
    · rw [if_pos c2, if_pos c2]
      exact lkE hO hS (hq.at (by unfold nIn; omega)) (hq.up _ _) (nEq.rf.up _ (nStH (by omega))) (hB.out hO.2.1.2 (by omega))
    · rw [if_neg c2, if_neg c2]; exact lkB hq hO hB hS
  · rw [if_neg (fun h => c ((okQ_c hq).mp h)), if_neg c]; exact lkB hq hO hB hS
theorem isN_w {v : Int32} {n : Nat} (hn : n < 2 ^ 31) (h : okW v n) : isN v.toInt64 n := by
  obtain ⟨i, hi, rfl⟩ := jix2 (n := n) hn h.1 h.2
  rw [nI_l (by omega)]
  exact isN.mk hi (by omega)
theorem lk_habit (hq : nQ True d pe pa la K N) (hO : nOk N d pe pa la) (hB : nB N d pe) (hS : nS N pa) {p x v : Int32} : lk d pe pa la N (sHabit K p x v) (sHabit N p x v) := by
  unfold sHabit
  by_cases c : okP N p ∧ okW x 2 ∧ okW v (if x = 0 then 10 else if x = nI 1 then 1000 else 99)
  · rw [if_pos (⟨(okP_c hq).mpr c.1, c.2⟩ : okP K p ∧ okW x 2 ∧ okW v (if x = 0 then 10 else if x = nI 1 then 1000 else 99)), if_pos c]
    obtain ⟨i, hi, rfl⟩ := (okP_x hO.2.1.1 hO.2.1.2).mp c.1
    have hpe := hO.2.1.2
    have cv := c.2.2
    obtain ⟨z, hz, rfl⟩ := jix2 (n := 2) (by omega) c.2.1.1 c.2.1.2
    rw [nI_clamp (by omega), hbF_x hz]
    have hf5 : 1 ≤ hbF z ∧ hbF z ≤ 5 := by unfold hbF; split; omega; split <;> omega
    refine lkE hO hS (hq.at (by unfold nIn; omega)) (hq.up _ _) (nEq.rf.up _ (nStP (by omega) (by omega))) (hB.upF (by omega) (fun _ => ?_))
    rcases (show z = 0 ∨ z = 1 ∨ z = 2 by omega) with rfl | rfl | rfl
    · exact isN_w (n := 10) (by omega) cv
    · exact isN_w (n := 1000) (by omega) cv
    · exact isN_w (n := 99) (by omega) cv
  · rw [if_neg (fun h => c ⟨(okP_c hq).mp h.1, h.2⟩), if_neg c]; exact lkB hq hO hB hS
theorem lk_pay (hq : nQ True d pe pa la K N) (hO : nOk N d pe pa la) (hB : nB N d pe) (hS : nS N pa) {p : Int32} : lk d pe pa la N (sPay LT K d la p) (sPay LT N d la p) := by
  unfold sPay
  by_cases c : okQ N p
  · rw [if_pos ((okQ_c hq).mpr c), if_pos c]
    obtain ⟨i, hi, rfl⟩ := (okQ_x hO.2.2.1.1 hO.2.2.1.2).mp c
    have hpa := hO.2.2.1.2
    have hpe := hO.2.1.2
    have hpk := hO.2.2.2.2.1 i hi
    rw [nI_clamp (by omega), hq.at (k := 110 + 7 * i + 6) (by unfold nIn; omega), hq.at (k := 110 + 7 * i + 0) (by unfold nIn; omega), hq.at (k := 110 + 7 * i + 1) (by unfold nIn; omega), nOwed_c hq hO hi]
    by_cases c2 : N (110 + 7 * i + 6) = 0
    · rw [if_pos c2, if_pos c2]
      by_cases c3 : N (110 + 7 * i + 0) = 3 ∨ N (110 + 7 * i + 0) = 4
      · rw [if_pos c3, if_pos c3]; exact lkB hq hO hB hS
      · rw [if_neg c3, if_neg c3]
        have hby : isN (N (110 + 7 * i + 1)) 9 ∧ nv (N (110 + 7 * i + 1)) < pe := by
          rcases hpk.2.1 with h | h
          · exact absurd (Or.inr (by rw [hpk.1.1, h.1]; rfl)) c3
          · exact h.2
        have hb2 := hby.2
        have ht2 := hpk.2.2.1.2
        rw [hq.at (k := 10 + 10 * nv (N (110 + 7 * i + 1)) + 0) (by unfold nIn; omega)]
        by_cases c4 : N (10 + 10 * nv (N (110 + 7 * i + 1)) + 0) < nOwed LT N d la i 0
        · rw [if_pos c4, if_pos c4]; exact lkB hq hO hB hS
        · rw [if_neg c4, if_neg c4]
          have e0 : nPaidUp LT K d la i = nSett (nPays K i (nv (N (110 + 7 * i + 1))) (nv (N (110 + 7 * i + 2))) (nOwed LT N d la i 0)) d i (nv (N (110 + 7 * i + 4))) (nv (N (110 + 7 * i + 1))) (nv (N (110 + 7 * i + 2))) (nOwed LT N d la i 0) := by
            unfold nPaidUp
            rw [hq.at (k := 110 + 7 * i + 1) (by unfold nIn; omega), hq.at (k := 110 + 7 * i + 2) (by unfold nIn; omega), hq.at (k := 110 + 7 * i + 4) (by unfold nIn; omega), nOwed_c hq hO hi]
          have hw := nOwed_b (LT := LT) (c := 0) hO hS hi
          have hm := hB.mk hb2
          have hle : nv (nOwed LT N d la i 0) ≤ nv (N (10 + 10 * nv (N (110 + 7 * i + 1)) + 0)) := by
            have := Int64.not_lt.mp c4
            rw [hw.1, hm.1, pk_lLE (by have := hw.2; omega) (by have := hm.2; omega)] at this
            exact this
          refine lkE hO hS rfl ?_ ?_ ?_
          · rw [e0]
            exact nSett_c (nPays_c hq hb2 ht2) hi hpk.2.2.2.1.2 hb2 ht2
          · exact (nPays_eq (by omega) (by omega)).tr (nSett_eq (by omega) (by omega) (by omega))
          · exact nSett_b (nPays_b hB hb2 ht2 ⟨hw.1, hle⟩) hpe
    · rw [if_neg c2, if_neg c2]; exact lkB hq hO hB hS
  · rw [if_neg (fun h => c ((okQ_c hq).mp h)), if_neg c]; exact lkB hq hO hB hS
theorem nDay_told (hO : nOk N d pe pa la) {k : Nat} (h1 : 278 ≤ k) (h2 : k < 310) : nDay LT d pe pa la N k = N k := by
  have hpe := hO.2.1.2
  have hst : nSt k := by unfold nSt; omega
  have e1 := nBakes_eq (N := N) pe hpe
  have hO1 : nOk (nBakes N pe) d pe pa la := hO.eq e1
  have e2 := nWages_eq (LT := LT) hO1 pa (Nat.le_refl _)
  have hO2 := hO1.eq e2
  unfold nDay
  try simp only []
  rw [va_up_ne _ _ (by omega), va_up_ne _ _ (by omega)]
  generalize hN2 : nWages LT d la (nBakes N pe) pa = N2 at *
  generalize nPrice N2 (nAsk N2) (nOff N2 d) d pe = pr at *
  have e3 := nBuys_eq (A := nAsk N2) (pr := pr) (q := (nOff N2 d, N2)) hpe pe (Nat.le_refl _)
  have hO3 := hO2.eq e3
  have e4 := nEats_eq (N := (nBuys (nAsk N2) pr pe (nOff N2 d, N2) pe).2) pe hpe
  rw [nDebts_eq (hO3.eq e4) pa (Nat.le_refl _) _ hst, e4 _ hst, e3 _ hst]
  exact (e2 _ hst).trans (e1 _ hst)
theorem nPl_told (hO : nOk N d pe pa la) (hB : nB N d pe) (hS : nS N pa) {k : Nat} (h1 : 278 ≤ k) (h2 : k < 310) : ∀ n, d + n ≤ 300 → nPl LT d pe pa la bF N n k = N k
  | 0, _ => rfl
  | n + 1, hn => by
    rw [nPl_f (show ¬ false = true by decide), nDay_told (nPl_ok hO hB hS n (by omega)).1 h1 h2, nPl_told hO hB hS h1 h2 n (by omega)]
theorem lk_days (hq : nQ True d pe pa la K N) (hO : nOk N d pe pa la) (hB : nB N d pe) (hS : nS N pa) {n : Int32} : lk (d + n.toNatClampNeg) pe pa la N (sDays LT K d pe pa la n) (sDays LT N d pe pa la n) := by
  unfold sDays
  by_cases c : (nA d n 30).2 = true
  · rw [if_pos c, if_pos c]
    exact lkM (lkB hq hO hB hS) (by omega) (Nat.le_refl _) (Nat.le_refl _)
  · have hn := nA_c (by omega) hO.1.2 c
    rw [if_neg c, if_neg c]
    have h1 := nPl_c (LT := LT) (b := bF) hq hO hB hS n.toNatClampNeg (by omega)
    obtain ⟨g1, g2, g3⟩ := nPl_ok (LT := LT) (b := bF) hO hB hS n.toNatClampNeg (by omega)
    exact ⟨h1.at (by unfold nIn; omega), rfl, _, pe, pa, ⟨Nat.le_refl _, Nat.le_refl _, Nat.le_refl _⟩, h1, g1, g2, g3, fun t ht => nPl_told hO hB hS (by omega) (by omega) _ (by omega)⟩
end LKC
