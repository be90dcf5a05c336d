/-! hunger never falls -/
def kp5 (N N' : Nat → Int64) : Prop := ∀ i, i < 10 → N' (10 + 10 * i + 5) = N (10 + 10 * i + 5)
section KP5
variable {A B C N : Nat → Int64}
theorem kp5.rf : kp5 A A := fun _ _ => rfl
theorem kp5.tr (h : kp5 A B) (g : kp5 B C) : kp5 A C := fun i hi => (g i hi).trans (h i hi)
theorem kp5.up (h : kp5 A B) {k : Nat} (v : Int64) (hk : k < 10 ∨ 110 ≤ k ∨ (k - 10) % 10 ≠ 5) : kp5 A (va_up B k v) := fun i hi => by
  rw [va_up_ne _ _ (by omega)]; exact h i hi
theorem kp5.gets (h : kp5 A B) {k : Nat} (v : Int64) (hk : k < 10 ∨ (k - 10) % 10 ≠ 5) : kp5 A (nGets B k v) := fun i hi => by
  rw [nGets_ne (by omega) (by omega)]; exact h i hi
theorem nBakes_k : ∀ k, kp5 N (nBakes N k)
  | 0 => kp5.rf
  | k + 1 => (nBakes_k k).up _ (by omega)
theorem nWage_k {LT : Nat → sT} {d la j : Nat} : kp5 N (nWage LT d la N j) := by
  unfold nWage
  split
  · exact ((kp5.rf.up _ (by omega)).up _ (by omega)).gets _ (by omega)
  · exact kp5.rf
theorem nWages_k {LT : Nat → sT} {d la : Nat} : ∀ k, kp5 N (nWages LT d la N k)
  | 0 => kp5.rf
  | k + 1 => (nWages_k k).tr nWage_k
theorem nBuyN_k {h s : Nat} {p n : Int64} : kp5 N (nBuyN h p s n N) := (((((kp5.rf.up _ (by omega)).up _ (by omega)).up _ (by omega)).up _ (by omega)).up _ (by omega)).gets _ (by omega)
theorem nBuy_k {h : Nat} {p : Int64} {q : sB} : ∀ k, kp5 q.2.2 (nBuy h p q k).2.2
  | 0 => kp5.rf
  | k + 1 => (nBuy_k k).tr nBuyN_k
theorem nBuys_k {A : Nat → Int64} {p : Int64} {pe : Nat} {q : (Nat → Int64) × (Nat → Int64)} : ∀ k, kp5 q.2 (nBuys A p pe q k).2
  | 0 => kp5.rf
  | k + 1 => (nBuys_k k).tr (nBuy_k (q := (_, (nBuys A p pe q k).1, (nBuys A p pe q k).2)) pe)
theorem nSett_k {d j s b t : Nat} {v : Int64} : kp5 N (nSett N d j s b t v) := by
  unfold nSett
  simp only []
  split
  · exact ((kp5.rf.up _ (by omega)).up _ (by omega)).up _ (by omega)
  · exact kp5.rf.up _ (by omega)
theorem nPays_k {j b t : Nat} {v : Int64} : kp5 N (nPays N j b t v) := (kp5.rf.up _ (by omega)).gets _ (by omega)
theorem nDebt1_k {LT : Nat → sT} {d la j : Nat} : kp5 N (nDebt1 LT d la N j) := by
  have hA : kp5 N (nDebtA LT d la N j) := by
    unfold nDebtA
    rcases Classical.em (N (110 + 7 * j + 6) = 0 ∧ nOwes N d j) with c | c
    · rw [ifC_t c]
      unfold nPay1
      simp only []
      split
      · exact nPays_k.tr nSett_k
      · exact nPays_k
    · rw [ifC_f c]; exact kp5.rf
  unfold nDebt1
  split
  · exact hA.up _ (by omega)
  · exact hA
theorem nDebts_k {LT : Nat → sT} {d la : Nat} : ∀ k, kp5 N (nDebts LT d la N k)
  | 0 => kp5.rf
  | k + 1 => (nDebts_k k).tr nDebt1_k
theorem nTx_k : ∀ k, kp5 N (nTx N k).2
  | 0 => kp5.rf
  | k + 1 => (nTx_k k).up _ (by omega)
theorem nTaxed_k {pe : Nat} : kp5 N (nTaxed N pe) := (nTx_k pe).gets _ (by omega)
theorem nEat1_o {k i : Nat} (h : i ≠ k) : nEat1 N k (10 + 10 * i + 5) = N (10 + 10 * i + 5) := by
  unfold nEat1
  split <;> rw [va_up_ne _ _ (by omega)]
end KP5
def hgLe (N N' : Nat → Int64) (pe : Nat) : Prop := ∀ i, i < pe → nv (N (10 + 10 * i + 5)) ≤ nv (N' (10 + 10 * i + 5))
theorem nEats_h {N : Nat → Int64} {d pe : Nat} (h : nB N d pe) (hd : d < 2 ^ 31) : ∀ k, k ≤ pe → hgLe N (nEats N k) pe
  | 0, _, i, _ => Nat.le_refl _
  | k + 1, hk, i, hi => by
    have g := nEats_h h hd k (by omega) i hi
    rw [nEats]
    by_cases c : i = k
    · subst c
      refine Nat.le_trans g ?_
      unfold nEat1
      split
      · rw [va_up_self]
        have b := nEats_b h hd i (by omega) i 5 hi (by omega)
        rw [if_neg (by omega)] at b
        have b' : isN (nEats N i (10 + 10 * i + 5)) d := b
        have := b'.2
        rw [b'.1, lN_1, nv_lN (by omega), nv_lN (by omega)]
        omega
      · rw [va_up_ne _ _ (by omega)]
        exact Nat.le_refl _
    · rw [nEat1_o c]; exact g
theorem kp5.le {N N' : Nat → Int64} {pe : Nat} (h : kp5 N N') (hpe : pe ≤ 10) : hgLe N N' pe := fun i hi => by rw [h i (by omega)]; exact Nat.le_refl _
theorem hgLe.tr {A B C : Nat → Int64} {pe : Nat} (h : hgLe A B pe) (g : hgLe B C pe) : hgLe A C pe := fun i hi => Nat.le_trans (h i hi) (g i hi)
theorem nDay_h {LT : Nat → sT} {N : Nat → Int64} {d pe pa la : Nat} (hO : nOk N d pe pa la) (hB : nB N d pe) (hS : nS N pa) : hgLe N (nDay LT d pe pa la N) pe := by
  have hpe := hO.2.1.2
  have hd := hO.1.2
  have e1 := nBakes_eq (N := N) pe hpe
  have hO1 : nOk (nBakes N pe) d pe pa la := hO.eq e1
  have hB1 := nBakes_b hB pe (Nat.le_refl _)
  have e2 := nWages_eq (LT := LT) hO1 pa (Nat.le_refl _)
  have hO2 := hO1.eq e2
  have hB2 := nWages_b (LT := LT) hB1 hO1 (hS.eq e1) pa (Nat.le_refl _)
  have k2 : kp5 N (nWages LT d la (nBakes N pe) pa) := (nBakes_k pe).tr (nWages_k pa)
  unfold nDay
  simp only []
  generalize nWages LT d la (nBakes N pe) pa = N2 at *
  have hpr : prOk (nPrice N2 (nAsk N2) (nOff N2 d) d pe) := nPrice_ok (hO2.2.2.2.2.2 d (Nat.le_refl _))
  generalize nPrice N2 (nAsk N2) (nOff N2 d) d pe = pr at *
  have hB3 : nB (nBuys (nAsk N2) pr pe (nOff N2 d, N2) pe).2 d pe := by
    obtain ⟨p, rfl, hp1, hp2⟩ := prOk_N hpr
    exact ((iQ.first hB2).run hpe hp1 hp2 pe (Nat.le_refl _)).1
  have k3 : kp5 N (nBuys (nAsk N2) pr pe (nOff N2 d, N2) pe).2 := k2.tr (nBuys_k (q := (nOff N2 d, N2)) pe)
  refine (k3.le hpe).tr ((nEats_h hB3 (by omega) pe (Nat.le_refl _)).tr ?_)
  exact (((nDebts_k pa).up _ (by omega)).up _ (by omega)).le hpe
theorem nPl_h {LT : Nat → sT} {N : Nat → Int64} {d pe pa la : Nat} {b : Nat → Bool} (hO : nOk N d pe pa la) (hB : nB N d pe) (hS : nS N pa) : ∀ k, d + k ≤ 300 → hgLe N (nPl LT d pe pa la b N k) pe
  | 0, _ => fun _ _ => Nat.le_refl _
  | k + 1, hk => by
    obtain ⟨h1, h2, h3⟩ := nPl_ok (LT := LT) (b := b) hO hB hS k (by omega)
    refine (nPl_h (LT := LT) (b := b) hO hB hS k (by omega)).tr ?_
    rw [nPl]
    split
    · obtain ⟨g1, g2, g3⟩ := tx_ok h1 h2 h3
      exact (nTaxed_k.le hO.2.1.2).tr (nDay_h g1 g2 g3)
    · exact nDay_h h1 h2 h3
def sN (N : Nat → Int64) : Nat → Nat
  | 0 => 0
  | k + 1 => sN N k + nv (N (10 + 10 * k + 5))
theorem sN_b {N : Nat → Int64} {d pe : Nat} (h : nB N d pe) (hd : d ≤ 300) : ∀ k, k ≤ pe → sN N k ≤ k * 300 ∧ nSum N 5 k = lN (sN N k)
  | 0, _ => ⟨Nat.zero_le _, rfl⟩
  | k + 1, hk => by
    obtain ⟨h1, h2⟩ := sN_b h hd k (by omega)
    have b := h.hg (i := k) (by omega)
    have := b.2
    rw [sN, nSum, h2]
    refine ⟨by omega, ?_⟩
    rw [← lN_add, ← b.1]
theorem sN_le {N N' : Nat → Int64} {pe : Nat} (h : hgLe N N' pe) : ∀ k, k ≤ pe → sN N k ≤ sN N' k
  | 0, _ => Nat.le_refl _
  | k + 1, hk => Nat.add_le_add (sN_le h k (by omega)) (h k (by omega))
theorem hK_ge {LT : Nat → sT} {N : Nat → Int64} {d pe pa la n : Nat} (hO : nOk N d pe pa la) (hB : nB N d pe) (hS : nS N pa) (hn : d + n ≤ 300) (s : Nat) : (0 : Int64) ≤ hK LT d pe pa la n N s := by
  have h1 := nPl_ok (LT := LT) (b := bt s) hO hB hS n hn
  have a := sN_b h1.2.1 hn pe (Nat.le_refl _)
  have b := sN_b hB hO.1.2 pe (Nat.le_refl _)
  have c := sN_le (nPl_h (LT := LT) (b := bt s) hO hB hS n hn) pe (Nat.le_refl _)
  have hpe := hO.2.1.2
  unfold hK
  rw [a.2, b.2, lN_sub c, show (0 : Int64) = lN 0 from rfl, pk_lLE (by omega) (by omega)]
  exact Nat.zero_le _
def pcK (s : Nat) : Nat → Nat
  | 0 => 0
  | k + 1 => pcK s k + (if bt s k = true then 1 else 0)
theorem pcK_ok : ∀ x, x < 9 → ∀ s, s < 256 → s < 2 ^ x → pcK s x = popc s := by decide +kernel
theorem pcK_le (s : Nat) : ∀ k, pcK s k ≤ k
  | 0 => Nat.le_refl _
  | k + 1 => by
    have := pcK_le s k
    rw [pcK]
    split <;> omega
theorem bitAt : ∀ k, k < 8 → ∀ s, s < 256 → (nI s >>> (nI k &&& 31)) &&& nI 1 = if bt s k = true then nI 1 else nI 0 := by decide +kernel
theorem shl1' : ∀ x, x < 9 → nI 1 <<< (nI x &&& 31) = nI (2 ^ x) := by decide +kernel
/-- what choices may answer -/
def cRel (LT : Nat → sT) (N : Nat → Int64) (d pe pa la : Nat) (n w : Int32) (s : sA) : Prop := if okW w 2 then (if (nA d n 8).2 = true then s = ((nA d n 8).1.toInt64, true, N) else ∃ b, isB (hK LT d pe pa la n.toNatClampNeg N) (pK LT d pe pa la n.toNatClampNeg N) (fun z => z < 2 ^ n.toNatClampNeg) b ∧ s = (if w = 0 then lN b else if w = nI 1 then hK LT d pe pa la n.toNatClampNeg N b else pK LT d pe pa la n.toNatClampNeg N b, false, N)) else s = (-100001, true, N)
def lsR (H P : Nat → Int64) (s : Nat) (h0 p0 : Int64) (t0 : Nat) : Prop := H s < h0 ∨ (H s = h0 ∧ (P s < p0 ∨ (P s = p0 ∧ popc s < t0)))
theorem lsR_k {H P : Nat → Int64} {s b : Nat} (hb : b < s) : lsR H P s (H b) (P b) (popc b) ↔ kLt H P s b := by
  unfold lsR kLt
  constructor
  · rintro (h | ⟨h1, h | ⟨h2, h3⟩⟩)
    · exact Or.inl h
    · exact Or.inr ⟨h1, Or.inl h⟩
    · exact Or.inr ⟨h1, Or.inr ⟨h2, Or.inl h3⟩⟩
  · rintro (h | ⟨h1, h | ⟨h2, h3 | ⟨-, h4⟩⟩⟩)
    · exact Or.inl h
    · exact Or.inr ⟨h1, Or.inl h⟩
    · exact Or.inr ⟨h1, Or.inr ⟨h2, h3⟩⟩
    · omega
/-- the best so far, as the reference keeps it -/
def bSo (H P : Nat → Int64) (c : Nat) (h0 p0 : Int64) (t0 b0 : Nat) : Prop := (c = 0 ∧ h0 = -1) ∨ (b0 < c ∧ isB H P (fun z => z < c) b0 ∧ h0 = H b0 ∧ p0 = P b0 ∧ t0 = popc b0)
theorem bSo.new {H P : Nat → Int64} {c : Nat} {h0 p0 : Int64} {t0 b0 : Nat} (h : bSo H P c h0 p0 t0 b0) (hl : c = 0 ∨ lsR H P c h0 p0 t0) : bSo H P (c + 1) (H c) (P c) (popc c) c := by
  refine Or.inr ⟨Nat.lt_succ_self c, ?_, rfl, rfl, rfl⟩
  rcases h with ⟨rfl, -⟩ | ⟨h1, h2, h3, h4, h5⟩
  · exact (isB.first (V := fun z => z < 0) (fun s hs => absurd hs (by omega))).congr (fun s => by omega)
  · have hk : kLt H P c b0 := by
      rcases hl with hl | hl
      · omega
      · rw [h3, h4, h5] at hl
        exact (lsR_k h1).mp hl
    exact (h2.better hk).congr (fun s => by omega)
theorem bSo.old {H P : Nat → Int64} {c : Nat} {h0 p0 : Int64} {t0 b0 : Nat} (h : bSo H P c h0 p0 t0 b0) (hc : ¬ c = 0) (hl : ¬ lsR H P c h0 p0 t0) : bSo H P (c + 1) h0 p0 t0 b0 := by
  rcases h with ⟨h1, -⟩ | ⟨h1, h2, h3, h4, h5⟩
  · exact absurd h1 hc
  · refine Or.inr ⟨by omega, ?_, h3, h4, h5⟩
    rw [h3, h4, h5] at hl
    exact (h2.same (fun hk => hl ((lsR_k h1).mpr hk))).congr (fun s => by omega)
