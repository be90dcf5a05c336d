/-! the numbers' bounds -/
theorem M15 : (1000000000000000 : Int64) = lN 1000000000000000 := rfl
theorem isN.mk {n b : Nat} (h : n ≤ b) (hb : b < 2 ^ 63) : isN (lN n) b := by
  unfold isN
  rw [nv_lN (by omega)]
  exact ⟨rfl, h⟩
theorem isN.mono {x : Int64} {a b : Nat} (h : isN x a) (hb : a ≤ b) : isN x b := ⟨h.1, Nat.le_trans h.2 hb⟩
theorem lmn_N {a b : Nat} (ha : a < 2 ^ 63) (hb : b < 2 ^ 63) : lmn (lN a) (lN b) = lN (min a b) := by
  unfold lmn
  by_cases h : b < a
  · rw [if_pos ((pk_lLT hb ha).mpr h), Nat.min_eq_right (by omega)]
  · rw [if_neg (fun c => h ((pk_lLT hb ha).mp c)), Nat.min_eq_left (by omega)]
theorem lmx_N {a b : Nat} (ha : a < 2 ^ 63) (hb : b < 2 ^ 63) : lmx (lN a) (lN b) = lN (max a b) := by
  unfold lmx
  by_cases h : b < a
  · rw [if_pos ((pk_lLT hb ha).mpr h), Nat.max_eq_left (by omega)]
  · rw [if_neg (fun c => h ((pk_lLT hb ha).mp c)), Nat.max_eq_right (by omega)]
theorem isN_cl (v : Int64) : isN (lmx 0 (lmn 1000000000000000 v)) 1000000000000000 := by
  by_cases h : v < 0
  · have e : lmx 0 (lmn 1000000000000000 v) = lN 0 := by
      unfold lmx lmn
      rw [if_pos (Int64.lt_trans h (by decide)), if_pos h]
      rfl
    rw [e]; exact isN.mk (by omega) (by omega)
  · obtain ⟨k, hk, rfl⟩ := pk_lOf h
    rw [M15, lmn_N (by omega) hk, show (0 : Int64) = lN 0 from rfl, lmx_N (by omega) (by omega)]
    exact isN.mk (by omega) (by omega)
theorem nGets_N {N : Nat → Int64} {k a n : Nat} (h : N k = lN a) (ha : a ≤ 1000000000000000) (hn : n ≤ 1000000000000000) (h3 : k ≠ 3) : nGets N k (lN n) k = lN (min (a + n) 1000000000000000) := by
  unfold nGets
  rw [va_up_self, h, lN_add, M15]
  by_cases c : a + n ≤ 1000000000000000
  · rw [if_pos ((pk_lLE (by omega) (by omega)).mpr c), va_up_self, Nat.min_eq_left c]
  · rw [if_neg (fun x => c ((pk_lLE (by omega) (by omega)).mp x)), va_up_self, Nat.min_eq_right (by omega)]
theorem nGets_0 {N : Nat → Int64} {k : Nat} (h : N k ≤ 1000000000000000) : nGets N k 0 = N := by
  unfold nGets
  rw [va_up_self, Int64.add_zero, if_pos h]
  funext j
  by_cases e : j = k
  · subst e; rw [va_up_self]
  · rw [va_up_ne _ _ e]
theorem isN.le {x : Int64} {b : Nat} (h : isN x b) (hb : b < 2 ^ 63) : x ≤ lN b := by
  rw [h.1, pk_lLE (by have := h.2; omega) hb]; exact h.2
theorem isN.ge {x : Int64} {b : Nat} (h : isN x b) (hb : b < 2 ^ 63) : (0 : Int64) ≤ x := by
  rw [h.1, show (0 : Int64) = lN 0 from rfl, pk_lLE (by omega) (by have := h.2; omega)]; exact Nat.zero_le _
def fB (d f : Nat) : Nat := if f = 0 then 1000000000000000 else if f = 1 then 9999 else if f = 2 then 99 else if f = 3 then 10 else if f = 4 then 1000 else d
def nB (N : Nat → Int64) (d pe : Nat) : Prop := ∀ i f, i < pe → f < 6 → isN (N (10 + 10 * i + f)) (fB d f)
def nS (N : Nat → Int64) (pa : Nat) : Prop := ∀ j, j < pa → isN (N (110 + 7 * j + 3)) 1000000000000000
theorem nS.eq {N N' : Nat → Int64} {pa : Nat} (h : nS N pa) (e : nEq N N') : nS N' pa := fun j hj => by
  rw [e _ (nStQ (by omega))]; exact h j hj
theorem nS.q {K N : Nat → Int64} {z : Prop} {d pe pa la : Nat} (h : nS N pa) (e : nQ z d pe pa la K N) : nS K pa := fun j hj => by
  rw [e.at (by unfold nIn; omega)]; exact h j hj
section NB
variable {N : Nat → Int64} {d db pe pa la : Nat}
theorem nB.q {K : Nat → Int64} {z : Prop} (h : nB N d pe) (e : nQ z d pe pa la K N) : nB K d pe := fun i f hi hf => by
  rw [e.at (by unfold nIn; omega)]; exact h i f hi hf
theorem nB.mk (h : nB N d pe) {i : Nat} (hi : i < pe) : isN (N (10 + 10 * i + 0)) 1000000000000000 := h i 0 hi (by omega)
theorem nB.lv (h : nB N d pe) {i : Nat} (hi : i < pe) : isN (N (10 + 10 * i + 1)) 9999 := h i 1 hi (by omega)
theorem nB.bk (h : nB N d pe) {i : Nat} (hi : i < pe) : isN (N (10 + 10 * i + 2)) 99 := h i 2 hi (by omega)
theorem nB.sp (h : nB N d pe) {i : Nat} (hi : i < pe) : isN (N (10 + 10 * i + 3)) 10 := h i 3 hi (by omega)
theorem nB.kp (h : nB N d pe) {i : Nat} (hi : i < pe) : isN (N (10 + 10 * i + 4)) 1000 := h i 4 hi (by omega)
theorem nB.hg (h : nB N d pe) {i : Nat} (hi : i < pe) : isN (N (10 + 10 * i + 5)) d := h i 5 hi (by omega)
theorem nB.upF (h : nB N d pe) {s f : Nat} {v : Int64} (hf : f < 10) (hv : f < 6 → isN v (fB d f)) : nB (va_up N (10 + 10 * s + f) v) d pe := fun i g hi hg => by
  by_cases e : 10 + 10 * i + g = 10 + 10 * s + f
  · obtain ⟨rfl, rfl⟩ : i = s ∧ g = f := by omega
    rw [va_up_self]; exact hv hg
  · rw [va_up_ne _ _ e]; exact h i g hi hg
theorem nB.out (h : nB N d pe) (hpe : pe ≤ 10) {k : Nat} {v : Int64} (hk : k < 10 ∨ 110 ≤ k) : nB (va_up N k v) d pe := fun i g hi hg => by
  rw [va_up_ne _ _ (by omega)]; exact h i g hi hg
theorem nB.get1 (h : nB N d pe) {v : Int64} : nB (nGets N 1 v) d pe := fun i g hi hg => by
  rw [nGets_ne (by omega) (by omega)]; exact h i g hi hg
theorem nB.gets (h : nB N d pe) {t : Nat} (ht : t < pe) {v : Int64} (hv : isN v 1000000000000000) : nB (nGets N (10 + 10 * t + 0) v) d pe := fun i g hi hg => by
  by_cases e : 10 + 10 * i + g = 10 + 10 * t + 0
  · obtain ⟨rfl, rfl⟩ : i = t ∧ g = 0 := by omega
    rw [hv.1, nGets_N (h.mk hi).1 (h.mk hi).2 hv.2 (by omega)]
    show isN _ 1000000000000000
    exact isN.mk (Nat.min_le_right _ _) (by decide)
  · rw [nGets_ne e (by omega)]; exact h i g hi hg
theorem nB.mono {d' : Nat} (h : nB N d pe) (hd : d ≤ d') : nB N d' pe := fun i f hi hf => (h i f hi hf).mono (by
  unfold fB
  split
  · exact Nat.le_refl _
  split
  · exact Nat.le_refl _
  split
  · exact Nat.le_refl _
  split
  · exact Nat.le_refl _
  split
  · exact Nat.le_refl _
  exact hd)
theorem nBakes_b (h : nB N d pe) : ∀ k, k ≤ pe → nB (nBakes N k) d pe
  | 0, _ => h
  | k + 1, hk => by
    have g := nBakes_b h k (by omega)
    rw [nBakes]
    refine g.upF (by omega) (fun _ => ?_)
    show isN _ 9999
    have h1 := g.lv (i := k) (by omega)
    have h2 := g.bk (i := k) (by omega)
    have := h1.2
    have := h2.2
    rw [h1.1, h2.1, lN_add, show (9999 : Int64) = lN 9999 from rfl, lmn_N (by omega) (by omega)]
    exact isN.mk (Nat.min_le_left _ _) (by omega)
theorem prOk_N {x : Int64} (h : prOk x) : ∃ p, x = lN p ∧ 1 ≤ p ∧ p ≤ 1000000000000000 := by
  obtain ⟨k, hk, rfl⟩ := pk_lOf (x := x) (fun c => absurd (Int64.lt_of_lt_of_le c (Int64.le_trans (by decide) h.1)) (Int64.lt_irrefl))
  have h1 := h.1
  have h2 := h.2
  rw [show (1 : Int64) = lN 1 from rfl, pk_lLE (by omega) hk] at h1
  rw [M15, pk_lLE hk (by omega)] at h2
  exact ⟨k, rfl, h1, h2⟩
theorem nOwed_b (hO : nOk N d pe pa la) (hS : nS N pa) {LT : Nat → sT} {j : Nat} {c : Int64} (hj : j < pa) : isN (nOwed LT N d la j c) 1000000000000000 := by
  unfold nOwed nOwedK
  have hs := hS j hj
  split
  · exact hs
  split
  · obtain ⟨p, ep, hp1, hp2⟩ := prOk_N (hO.2.2.2.2.2 d (Nat.le_refl _))
    have h2 := hs.2
    rw [hs.1, ep, M15, pk_lDiv (by omega) (by omega) (by omega)]
    split
    · rename_i hle0
      have hle := (pk_lLE (by omega) (by have := Nat.div_le_self 1000000000000000 p; omega)).mp hle0
      rw [lN_mul]
      refine isN.mk ?_ (by omega)
      exact Nat.le_trans (Nat.mul_le_mul_right p hle) (Nat.div_mul_le_self _ _)
    · exact isN.mk (Nat.le_refl _) (by omega)
  split
  · exact isN_cl _
  · exact hs
theorem nWage_b (h : nB N db pe) (hO : nOk N d pe pa la) (hS : nS N pa) {LT : Nat → sT} {j : Nat} (hj : j < pa) : nB (nWage LT d la N j) db pe := by
  unfold nWage
  split
  · exact ((h.out hO.2.1.2 (by omega)).out hO.2.1.2 (by omega)).gets (hO.2.2.2.2.1 j hj).2.2.1.2 (nOwed_b hO hS hj)
  · exact h
theorem nWages_b (h : nB N db pe) (hO : nOk N d pe pa la) (hS : nS N pa) {LT : Nat → sT} : ∀ k, k ≤ pa → nB (nWages LT d la N k) db pe
  | 0, _ => h
  | k + 1, hk => nWage_b (nWages_b h hO hS k (by omega)) (hO.eq (nWages_eq hO k (by omega))) (hS.eq (nWages_eq hO k (by omega))) (by omega)
theorem nPays_b (h : nB N d pe) {j b t : Nat} {v : Int64} (hb : b < pe) (ht : t < pe) (hv : isN v (nv (N (10 + 10 * b + 0)))) : nB (nPays N j b t v) d pe := by
  unfold nPays
  have h1 := h.mk hb
  have h2 := hv.2
  refine (h.upF (s := b) (f := 0) (by omega) (fun _ => ?_)).gets ht (hv.mono h1.2)
  show isN _ 1000000000000000
  rw [hv.1, h1.1, lN_sub h2]
  exact isN.mk (by have := h1.2; omega) (by omega)
theorem nSett_b (h : nB N db pe) (hpe : pe ≤ 10) {j s b t : Nat} {v : Int64} : nB (nSett N d j s b t v) db pe := by
  unfold nSett
  simp only []
  split
  · exact ((h.out hpe (by omega)).upF (f := 8) (by omega) (fun e => by omega)).upF (f := 9) (by omega) (fun e => by omega)
  · exact h.out hpe (by omega)
theorem nPaid_b (h : nB N db pe) (hO : nOk N d pe pa la) (hS : nS N pa) {LT : Nat → sT} {j : Nat} (hj : j < pa) (ho : nOwes N d j) : isN (nPaid LT d la N j) (nv (N (10 + 10 * nv (N (110 + 7 * j + 1)) + 0))) := by
  unfold nPaid
  have h1 := nOwed_b (LT := LT) (c := 0) hO hS hj
  have h2 := h.mk (nOwes_by hO hj ho).2
  have := h1.2
  have := h2.2
  rw [h1.1, h2.1, lmn_N (by omega) (by omega), nv_lN (by omega)]
  exact isN.mk (Nat.min_le_right _ _) (by omega)
theorem nDebt1_b (h : nB N db pe) (hO : nOk N d pe pa la) (hS : nS N pa) {LT : Nat → sT} {j : Nat} (hj : j < pa) : nB (nDebt1 LT d la N j) db pe := by
  have hA : nB (nDebtA LT d la N j) db pe := by
    unfold nDebtA
    rcases Classical.em (N (110 + 7 * j + 6) = 0 ∧ nOwes N d j) with c | c
    · rw [ifC_t c]
      unfold nPay1
      simp only []
      have hp := nPays_b (j := j) h (nOwes_by hO hj c.2).2 (hO.2.2.2.2.1 j hj).2.2.1.2 (nPaid_b (LT := LT) h hO hS hj c.2)
      split
      · exact nSett_b hp hO.2.1.2
      · exact hp
    · rw [ifC_f c]; exact h
  unfold nDebt1
  split
  · exact hA.out hO.2.1.2 (by omega)
  · exact hA
theorem nDebts_b (h : nB N db pe) (hO : nOk N d pe pa la) (hS : nS N pa) {LT : Nat → sT} : ∀ k, k ≤ pa → nB (nDebts LT d la N k) db pe
  | 0, _ => h
  | k + 1, hk => nDebt1_b (nDebts_b h hO hS k (by omega)) (hO.eq (nDebts_eq hO k (by omega))) (hS.eq (nDebts_eq hO k (by omega))) (by omega)
theorem nTx_b (h : nB N d pe) : ∀ k, k ≤ pe → nB (nTx N k).2 d pe
  | 0, _ => h
  | k + 1, hk => by
    have g := nTx_b h k (by omega)
    rw [nTx]
    refine g.upF (f := 0) (by omega) (fun _ => ?_)
    show isN _ 1000000000000000
    have h1 := g.mk (i := k) (by omega)
    have := h1.2
    have := Nat.div_le_self (nv ((nTx N k).2 (10 + 10 * k + 0))) 10
    rw [h1.1, show (10 : Int64) = lN 10 from rfl, pk_lDiv (by omega) (by omega) (by omega), lN_sub this]
    exact isN.mk (by omega) (by omega)
theorem nTaxed_b (h : nB N d pe) : nB (nTaxed N pe) d pe := (nTx_b h pe (Nat.le_refl _)).get1
theorem nEats_b (h : nB N d pe) (hd : d < 2 ^ 31) : ∀ k, k ≤ pe → ∀ i f, i < pe → f < 6 → isN (nEats N k (10 + 10 * i + f)) (if f = 5 ∧ i < k then d + 1 else fB d f)
  | 0, _, i, f, hi, hf => by rw [if_neg (by omega)]; exact h i f hi hf
  | k + 1, hk, i, f, hi, hf => by
    have g := nEats_b h hd k (by omega)
    rw [nEats]
    unfold nEat1
    by_cases ck : i = k
    · subst ck
      by_cases c : nEats N i (10 + 10 * i + 1) ≤ 0
      · rw [if_pos c]
        by_cases c5 : f = 5
        · subst c5
          rw [va_up_self, if_pos ⟨rfl, by omega⟩]
          have g5 := g i 5 hi (by omega)
          rw [if_neg (by omega)] at g5
          have : nv (nEats N i (10 + 10 * i + 5)) ≤ d := g5.2
          rw [g5.1, lN_1]
          exact isN.mk (by omega) (by omega)
        · rw [va_up_ne _ _ (by omega), if_neg (by omega)]
          have g5 := g i f hi hf
          rw [if_neg (by omega)] at g5
          exact g5
      · rw [if_neg c]
        have g5 := g i f hi hf
        rw [if_neg (by omega)] at g5
        by_cases c1 : f = 1
        · subst c1
          rw [va_up_self, if_neg (by omega)]
          have e1 : isN (nEats N i (10 + 10 * i + 1)) 9999 := g5
          have := e1.2
          have hz : ¬ nv (nEats N i (10 + 10 * i + 1)) = 0 := fun e0 => c (by rw [e1.1, e0]; decide)
          show isN _ 9999
          rw [e1.1, show (-1 : Int64) = - lN 1 from rfl, ← Int64.sub_eq_add_neg, lN_sub (by omega)]
          exact isN.mk (by omega) (by omega)
        · rw [va_up_ne _ _ (by omega)]
          by_cases c5 : f = 5
          · rw [if_pos ⟨c5, by omega⟩]
            subst c5
            exact g5.mono (Nat.le_succ d)
          · rw [if_neg (by omega)]; exact g5
    · have g5 := g i f hi hf
      have e : (if f = 5 ∧ i < k + 1 then d + 1 else fB d f) = if f = 5 ∧ i < k then d + 1 else fB d f := by
        by_cases c : f = 5 ∧ i < k
        · rw [if_pos c, if_pos ⟨c.1, by omega⟩]
        · rw [if_neg c, if_neg (by omega)]
      rw [e]
      split
      · rw [va_up_ne _ _ (by omega)]; exact g5
      · rw [va_up_ne _ _ (by omega)]; exact g5
end NB
