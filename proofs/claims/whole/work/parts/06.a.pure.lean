/-! what hangs on the shown numbers alone -/
/-- the numbers that are shown: counts, persons, papers, laws, prices up to the day -/
def nIn (d pe pa la k : Nat) : Prop := k = 0 ∨ (4 ≤ k ∧ k ≤ 6) ∨ (10 ≤ k ∧ k < 10 + 10 * pe) ∨ (110 ≤ k ∧ k < 110 + 7 * pa) ∨ (278 ≤ k ∧ k < 278 + 2 * la) ∨ (310 ≤ k ∧ k ≤ 310 + d)
def nQ (z : Prop) (d pe pa la : Nat) (K N : Nat → Int64) : Prop := ∀ k, nIn d pe pa la k ∨ (z ∧ 1 ≤ k ∧ k ≤ 3) → K k = N k
section NQ
variable {z : Prop} {d pe pa la : Nat} {K N : Nat → Int64}
theorem nQ.rf : nQ z d pe pa la N N := fun _ _ => rfl
theorem nQ.tr {A B C : Nat → Int64} (h : nQ z d pe pa la A B) (g : nQ z d pe pa la B C) : nQ z d pe pa la A C := fun k hk => (h k hk).trans (g k hk)
theorem nQ.sy {A B : Nat → Int64} (h : nQ z d pe pa la A B) : nQ z d pe pa la B A := fun k hk => (h k hk).symm
theorem nQ.at (h : nQ z d pe pa la K N) {k : Nat} (hk : nIn d pe pa la k) : K k = N k := h k (Or.inl hk)
theorem nQ.up (h : nQ z d pe pa la K N) (k : Nat) (v : Int64) : nQ z d pe pa la (va_up K k v) (va_up N k v) := fun j hj => by
  by_cases e : j = k
  · subst e; rw [va_up_self, va_up_self]
  · rw [va_up_ne _ _ e, va_up_ne _ _ e]; exact h j hj
theorem nQ.upC (h : nQ z d pe pa la K N) {k : Nat} (hk : nIn d pe pa la k) (f : Int64 → Int64) : nQ z d pe pa la (va_up K k (f (K k))) (va_up N k (f (N k))) := by
  rw [h.at hk]; exact h.up k _
theorem nQ.out (h : nQ z d pe pa la K N) {k : Nat} (hk : ¬ (nIn d pe pa la k ∨ (z ∧ 1 ≤ k ∧ k ≤ 3))) (x y : Int64) : nQ z d pe pa la (va_up K k x) (va_up N k y) := fun j hj => by
  have e : j ≠ k := fun e => hk (e ▸ hj)
  rw [va_up_ne _ _ e, va_up_ne _ _ e]; exact h j hj
theorem nQ.upZ (h : nQ z d pe pa la K N) {k : Nat} (h1 : 1 ≤ k ∧ k ≤ 3) {x y : Int64} (he : z → x = y) : nQ z d pe pa la (va_up K k x) (va_up N k y) := by
  rcases Classical.em z with hz | hz
  · rw [he hz]; exact h.up k _
  · exact h.out (fun e => e.elim (fun e => by unfold nIn at e; omega) (fun e => hz e.1)) _ _
theorem nQ.gets' (h : nQ z d pe pa la K N) {k : Nat} (e : K k = N k) (h3 : k ≠ 3) (v : Int64) : nQ z d pe pa la (nGets K k v) (nGets N k v) := by
  unfold nGets
  rw [va_up_self, va_up_self, e]
  by_cases c : N k + v ≤ 1000000000000000
  · rw [if_pos c, if_pos c]; exact h.up k _
  · rw [if_neg c, if_neg c]
    refine ((h.up k (N k + v)).upZ ⟨by omega, by omega⟩ (fun hz => ?_)).up k _
    rw [(h.up k (N k + v)) 3 (Or.inr ⟨hz, by omega, by omega⟩)]
theorem nQ.gets (h : nQ z d pe pa la K N) {k : Nat} (hk : nIn d pe pa la k) (v : Int64) : nQ z d pe pa la (nGets K k v) (nGets N k v) := h.gets' (h.at hk) (by unfold nIn at hk; omega) v
theorem nQ.gets1 (h : nQ z d pe pa la K N) (v : Int64) : nQ z d pe pa la (nGets K 1 v) (nGets N 1 v) := by
  rcases Classical.em z with hz | hz
  · exact h.gets' (h 1 (Or.inr ⟨hz, by omega, by omega⟩)) (by omega) v
  · intro j hj
    have h1 : j ≠ 1 := fun e => hj.elim (fun x => by unfold nIn at x; omega) (fun x => hz x.1)
    have h3 : j ≠ 3 := fun e => hj.elim (fun x => by unfold nIn at x; omega) (fun x => hz x.1)
    rw [nGets_ne h1 h3, nGets_ne h1 h3]; exact h j hj
theorem nQ.weak (h : nQ z d pe pa la K N) : nQ False d pe pa la K N := fun k hk => h k (hk.elim Or.inl (fun x => x.1.elim))
theorem nQ.less (h : nQ z d pe pa la K N) {d' pe' pa' la' : Nat} (h1 : d' ≤ d) (h2 : pe' ≤ pe) (h3 : pa' ≤ pa) (h4 : la' ≤ la) : nQ z d' pe' pa' la' K N := fun k hk => h k (hk.elim (fun x => Or.inl (by unfold nIn at x ⊢; omega)) Or.inr)
theorem nQ.day (h : nQ z d pe pa la K N) (x : Int64) : nQ z (d + 1) pe pa la (va_up K (310 + d + 1) x) (va_up N (310 + d + 1) x) := fun j hj => by
  by_cases e : j = 310 + d + 1
  · subst e; rw [va_up_self, va_up_self]
  · rw [va_up_ne _ _ e, va_up_ne _ _ e]
    exact h j (hj.elim (fun x => Or.inl (by unfold nIn at x ⊢; omega)) Or.inr)
theorem nOk.q (hO : nOk N d pe pa la) (h : nQ z d pe pa la K N) : nOk K d pe pa la := by
  obtain ⟨⟨a1, a2⟩, ⟨b1, b2⟩, ⟨c1, c2⟩, ⟨e1, e2⟩, f1, g1⟩ := hO
  refine ⟨⟨by rw [h.at (by unfold nIn; omega)]; exact a1, a2⟩, ⟨by rw [h.at (by unfold nIn; omega)]; exact b1, b2⟩, ⟨by rw [h.at (by unfold nIn; omega)]; exact c1, c2⟩, ⟨by rw [h.at (by unfold nIn; omega)]; exact e1, e2⟩, fun j hj => ?_, fun k hk => by rw [h.at (by unfold nIn; omega)]; exact g1 k hk⟩
  have := f1 j hj
  unfold pOk at this ⊢
  rw [h.at (show nIn d pe pa la (110 + 7 * j + 0) by unfold nIn; omega), h.at (show nIn d pe pa la (110 + 7 * j + 1) by unfold nIn; omega), h.at (show nIn d pe pa la (110 + 7 * j + 2) by unfold nIn; omega), h.at (show nIn d pe pa la (110 + 7 * j + 4) by unfold nIn; omega), h.at (show nIn d pe pa la (110 + 7 * j + 5) by unfold nIn; omega)]
  exact this
theorem nLaw_c (h : nQ z d pe pa la K N) (c e : Int64) : ∀ n, n ≤ la → nLaw K c e n = nLaw N c e n
  | 0, _ => rfl
  | n + 1, hn => by rw [nLaw, nLaw, h.at (by unfold nIn; omega), h.at (by unfold nIn; omega), nLaw_c h c e n (by omega)]
theorem nName_c (h : nQ z d pe pa la K N) {j s : Nat} (hj : j < pa) (hs : s ≤ d) : nName K d j s = nName N d j s := by
  funext p
  unfold nName
  have := Nat.mod_le d 7
  split <;> first | exact h.at (by unfold nIn; omega) | rw [h.at (by unfold nIn; omega)]
theorem nOwedK_c (h : nQ z d pe pa la K N) {LT : Nat → sT} {j kd s : Nat} {c : Int64} (hj : j < pa) (hs : s ≤ d) : nOwedK LT K d la j kd s c = nOwedK LT N d la j kd s c := by
  unfold nOwedK
  rw [h.at (show nIn d pe pa la (110 + 7 * j + 3) by unfold nIn; omega), h.at (show nIn d pe pa la (310 + d) by unfold nIn; omega), nLaw_c h c (lN d) la (Nat.le_refl _), nName_c h hj hs]
theorem nOwed_c (h : nQ z d pe pa la K N) (hO : nOk N d pe pa la) {LT : Nat → sT} {j : Nat} {c : Int64} (hj : j < pa) : nOwed LT K d la j c = nOwed LT N d la j c := by
  unfold nOwed
  rw [h.at (show nIn d pe pa la (110 + 7 * j + 0) by unfold nIn; omega), h.at (show nIn d pe pa la (110 + 7 * j + 4) by unfold nIn; omega)]
  exact nOwedK_c h hj (hO.2.2.2.2.1 j hj).2.2.2.1.2
theorem nWage_c (h : nQ z d pe pa la K N) (hO : nOk N d pe pa la) {LT : Nat → sT} {j : Nat} (hj : j < pa) : nQ z d pe pa la (nWage LT d la K j) (nWage LT d la N j) := by
  unfold nWage
  rw [h.at (show nIn d pe pa la (110 + 7 * j + 6) by unfold nIn; omega), h.at (show nIn d pe pa la (110 + 7 * j + 0) by unfold nIn; omega), nOwed_c h hO hj, h.at (show nIn d pe pa la (110 + 7 * j + 2) by unfold nIn; omega)]
  by_cases c : N (110 + 7 * j + 6) = 0 ∧ N (110 + 7 * j + 0) = 4
  · rw [if_pos c, if_pos c]
    have ht := (hO.2.2.2.2.1 j hj).2.2.1.2
    refine nQ.gets ?_ (by unfold nIn; omega) _
    refine nQ.upZ (h.upZ ⟨by omega, by omega⟩ (fun hz => ?_)) ⟨by omega, by omega⟩ (fun hz => ?_)
    · rw [h 1 (Or.inr ⟨hz, by omega, by omega⟩), h 2 (Or.inr ⟨hz, by omega, by omega⟩)]
    · rw [va_up_ne _ _ (by omega), va_up_ne _ _ (by omega), h 1 (Or.inr ⟨hz, by omega, by omega⟩)]
  · rw [if_neg c, if_neg c]; exact h
theorem nWages_c (h : nQ z d pe pa la K N) (hO : nOk N d pe pa la) {LT : Nat → sT} : ∀ k, k ≤ pa → nQ z d pe pa la (nWages LT d la K k) (nWages LT d la N k)
  | 0, _ => h
  | k + 1, hk => nWage_c (nWages_c h hO k (by omega)) (hO.eq (nWages_eq hO k (by omega))) (by omega)
theorem nBakes_c (h : nQ z d pe pa la K N) : ∀ k, k ≤ pe → nQ z d pe pa la (nBakes K k) (nBakes N k)
  | 0, _ => h
  | k + 1, hk => by
    have g := nBakes_c h k (by omega)
    rw [nBakes, nBakes, g.at (show nIn d pe pa la (10 + 10 * k + 1) by unfold nIn; omega), g.at (show nIn d pe pa la (10 + 10 * k + 2) by unfold nIn; omega)]
    exact g.up _ _
theorem nEat1_c (h : nQ z d pe pa la K N) {k : Nat} (hk : k < pe) : nQ z d pe pa la (nEat1 K k) (nEat1 N k) := by
  unfold nEat1
  rw [h.at (show nIn d pe pa la (10 + 10 * k + 1) by unfold nIn; omega), h.at (show nIn d pe pa la (10 + 10 * k + 5) by unfold nIn; omega)]
  by_cases c : N (10 + 10 * k + 1) ≤ 0
  · rw [if_pos c, if_pos c]; exact h.up _ _
  · rw [if_neg c, if_neg c]; exact h.up _ _
theorem nEats_c (h : nQ z d pe pa la K N) : ∀ k, k ≤ pe → nQ z d pe pa la (nEats K k) (nEats N k)
  | 0, _ => h
  | k + 1, hk => nEat1_c (nEats_c h k (by omega)) (by omega)
theorem nAsk_c (h : nQ z d pe pa la K N) {k : Nat} (hk : k < pe) : nAsk K k = nAsk N k := by
  unfold nAsk
  rw [h.at (show nIn d pe pa la (10 + 10 * k + 0) by unfold nIn; omega), h.at (show nIn d pe pa la (10 + 10 * k + 3) by unfold nIn; omega)]
theorem nKeeps_c (h : nQ z d pe pa la K N) {k : Nat} (hk : k < pe) : nKeeps K d k = nKeeps N d k := by
  unfold nKeeps
  rw [h.at (show nIn d pe pa la (10 + 10 * k + 4) by unfold nIn; omega), h.at (show nIn d pe pa la (310 + d) by unfold nIn; omega), h.at (show nIn d pe pa la (310 + (d - 1)) by unfold nIn; omega)]
theorem nOff_c (h : nQ z d pe pa la K N) {k : Nat} (hk : k < pe) : nOff K d k = nOff N d k := by
  have e := nKeeps_c h hk
  by_cases c : nKeeps N d k
  · rw [nOff_t c, nOff_t (e ▸ c)]
  · rw [nOff_f c, nOff_f (fun x => c (e ▸ x)), h.at (show nIn d pe pa la (10 + 10 * k + 1) by unfold nIn; omega)]
theorem nSm_c {A B : Nat → Int64} : ∀ k, (∀ i, i < k → A i = B i) → nSm A k = nSm B k
  | 0, _ => rfl
  | k + 1, h => by rw [nSm, nSm, nSm_c k (fun i hi => h i (by omega)), h k (by omega)]
theorem nPrice_c (h : nQ z d pe pa la K N) {A A' B B' : Nat → Int64} (hA : ∀ i, i < pe → A i = A' i) (hB : ∀ i, i < pe → B i = B' i) : nPrice K A B d pe = nPrice N A' B' d pe := by
  unfold nPrice
  rw [nSm_c pe hA, nSm_c pe hB, h.at (show nIn d pe pa la (310 + d) by unfold nIn; omega)]
theorem nBuyN_c (h : nQ z d pe pa la K N) {b s : Nat} {pr n : Int64} (hb : b < pe) (hs : s < pe) : nQ z d pe pa la (nBuyN b pr s n K) (nBuyN b pr s n N) :=
  (((((h.upC (k := 10 + 10 * s + 1) (by unfold nIn; omega) (fun x => x - n)).upC (k := 10 + 10 * s + 6) (by unfold nIn; omega) (fun x => x + n)).upC (k := 10 + 10 * b + 1) (by unfold nIn; omega) (fun x => x + n)).upC (k := 10 + 10 * b + 7) (by unfold nIn; omega) (fun x => x + n)).upC (k := 10 + 10 * b + 0) (by unfold nIn; omega) (fun x => x - n * pr)).gets (by unfold nIn; omega) (n * pr)
theorem nBuy_c (h : nQ z d pe pa la K N) {b : Nat} {pr : Int64} {L : Int64} {B : Nat → Int64} (hb : b < pe) : ∀ k, k ≤ pe → (nBuy b pr (L, B, K) k).1 = (nBuy b pr (L, B, N) k).1 ∧ (nBuy b pr (L, B, K) k).2.1 = (nBuy b pr (L, B, N) k).2.1 ∧ nQ z d pe pa la (nBuy b pr (L, B, K) k).2.2 (nBuy b pr (L, B, N) k).2.2
  | 0, _ => ⟨rfl, rfl, h⟩
  | k + 1, hk => by
    obtain ⟨h1, h2, h3⟩ := nBuy_c h (pr := pr) (L := L) (B := B) hb k (by omega)
    rw [nBuy, nBuy]
    unfold nBuy1
    rw [h1, h2]
    exact ⟨rfl, rfl, nBuyN_c h3 hb (by omega)⟩
theorem nBuys_c (h : nQ z d pe pa la K N) {A B : Nat → Int64} {pr : Int64} : ∀ k, k ≤ pe → (nBuys A pr pe (B, K) k).1 = (nBuys A pr pe (B, N) k).1 ∧ nQ z d pe pa la (nBuys A pr pe (B, K) k).2 (nBuys A pr pe (B, N) k).2
  | 0, _ => ⟨rfl, h⟩
  | k + 1, hk => by
    obtain ⟨h1, h2⟩ := nBuys_c h (A := A) (B := B) (pr := pr) k (by omega)
    rw [nBuys, nBuys]
    unfold nBuysL
    rw [h1, h2.at (show nIn d pe pa la (10 + 10 * k + 1) by unfold nIn; omega)]
    obtain ⟨-, g2, g3⟩ := nBuy_c h2 (pr := pr) (L := lmn (A k / pr) (9999 - (nBuys A pr pe (B, N) k).2 (10 + 10 * k + 1))) (B := (nBuys A pr pe (B, N) k).1) (b := k) (by omega) pe (Nat.le_refl _)
    exact ⟨g2, g3⟩
theorem nOwes_c (h : nQ z d pe pa la K N) {j : Nat} (hj : j < pa) : nOwes K d j = nOwes N d j := by
  unfold nOwes
  rw [h.at (show nIn d pe pa la (110 + 7 * j + 0) by unfold nIn; omega), h.at (show nIn d pe pa la (110 + 7 * j + 5) by unfold nIn; omega)]
theorem nPays_c (h : nQ z d pe pa la K N) {j b t : Nat} {v : Int64} (hb : b < pe) (ht : t < pe) : nQ z d pe pa la (nPays K j b t v) (nPays N j b t v) :=
  (h.upC (k := 10 + 10 * b + 0) (by unfold nIn; omega) (fun x => x - v)).gets (by unfold nIn; omega) v
theorem nSett_c (h : nQ z d pe pa la K N) {j s b t : Nat} {v : Int64} (hj : j < pa) (hs : s ≤ d) (hb : b < pe) (ht : t < pe) : nQ z d pe pa la (nSett K d j s b t v) (nSett N d j s b t v) := by
  have h1 := h.up (110 + 7 * j + 6) 1
  unfold nSett
  simp only []
  rw [h.at (show nIn d pe pa la (110 + 7 * j + 0) by unfold nIn; omega), h1.at (show nIn d pe pa la (110 + 7 * j + 3) by unfold nIn; omega), h1.at (show nIn d pe pa la (310 + s) by unfold nIn; omega), h1.at (show nIn d pe pa la (310 + d) by unfold nIn; omega)]
  by_cases c : N (110 + 7 * j + 0) = 1 ∨ N (110 + 7 * j + 0) = 2
  · rw [if_pos c, if_pos c]
    exact (h1.upC (k := 10 + 10 * b + 8) (by unfold nIn; omega) (fun x => x + _)).upC (k := 10 + 10 * t + 9) (by unfold nIn; omega) (fun x => x + _)
  · rw [if_neg c, if_neg c]; exact h1
theorem nPay1_c (h : nQ z d pe pa la K N) (hO : nOk N d pe pa la) {LT : Nat → sT} {j : Nat} (hj : j < pa) (ho : nOwes N d j) : nQ z d pe pa la (nPay1 LT d la K j) (nPay1 LT d la N j) := by
  have hb := (nOwes_by hO hj ho).2
  have ht := (hO.2.2.2.2.1 j hj).2.2.1.2
  have hs := (hO.2.2.2.2.1 j hj).2.2.2.1.2
  have ep : nPaid LT d la K j = nPaid LT d la N j := by
    unfold nPaid
    rw [nOwed_c h hO hj, h.at (show nIn d pe pa la (110 + 7 * j + 1) by unfold nIn; omega), h.at (by unfold nIn; omega)]
  unfold nPay1
  simp only []
  rw [ep, nOwed_c h hO hj, h.at (show nIn d pe pa la (110 + 7 * j + 0) by unfold nIn; omega), h.at (show nIn d pe pa la (110 + 7 * j + 1) by unfold nIn; omega), h.at (show nIn d pe pa la (110 + 7 * j + 2) by unfold nIn; omega), h.at (show nIn d pe pa la (110 + 7 * j + 4) by unfold nIn; omega)]
  by_cases c : ¬ N (110 + 7 * j + 0) = 3 ∧ nPaid LT d la N j = nOwed LT N d la j 0
  · rw [if_pos c, if_pos c]; exact nSett_c (nPays_c h hb ht) hj hs hb ht
  · rw [if_neg c, if_neg c]; exact nPays_c h hb ht
theorem nDebtA_c (h : nQ z d pe pa la K N) (hO : nOk N d pe pa la) {LT : Nat → sT} {j : Nat} (hj : j < pa) : nQ z d pe pa la (nDebtA LT d la K j) (nDebtA LT d la N j) := by
  unfold nDebtA
  have e6 := h.at (show nIn d pe pa la (110 + 7 * j + 6) by unfold nIn; omega)
  have eo := nOwes_c h hj
  rcases Classical.em (N (110 + 7 * j + 6) = 0 ∧ nOwes N d j) with c | c
  · rw [ifC_t c, ifC_t ⟨e6.trans c.1, eo ▸ c.2⟩]; exact nPay1_c h hO hj c.2
  · rw [ifC_f c, ifC_f (fun x => c ⟨e6.symm.trans x.1, eo ▸ x.2⟩)]; exact h
theorem nDebt1_c (h : nQ z d pe pa la K N) (hO : nOk N d pe pa la) {LT : Nat → sT} {j : Nat} (hj : j < pa) : nQ z d pe pa la (nDebt1 LT d la K j) (nDebt1 LT d la N j) := by
  have hA := nDebtA_c (LT := LT) h hO hj
  unfold nDebt1
  rw [hA.at (show nIn d pe pa la (110 + 7 * j + 6) by unfold nIn; omega), h.at (show nIn d pe pa la (110 + 7 * j + 0) by unfold nIn; omega), h.at (show nIn d pe pa la (110 + 7 * j + 5) by unfold nIn; omega)]
  by_cases c : nDebtA LT d la N j (110 + 7 * j + 6) = 0 ∧ (N (110 + 7 * j + 0) = 3 ∨ N (110 + 7 * j + 0) = 4) ∧ N (110 + 7 * j + 5) = lN d
  · rw [if_pos c, if_pos c]; exact hA.up _ _
  · rw [if_neg c, if_neg c]; exact hA
theorem nDebts_c (h : nQ z d pe pa la K N) (hO : nOk N d pe pa la) {LT : Nat → sT} : ∀ k, k ≤ pa → nQ z d pe pa la (nDebts LT d la K k) (nDebts LT d la N k)
  | 0, _ => h
  | k + 1, hk => nDebt1_c (nDebts_c h hO k (by omega)) (hO.eq (nDebts_eq hO k (by omega))) (by omega)
theorem nTx_c (h : nQ z d pe pa la K N) : ∀ k, k ≤ pe → (nTx K k).1 = (nTx N k).1 ∧ nQ z d pe pa la (nTx K k).2 (nTx N k).2
  | 0, _ => ⟨rfl, h⟩
  | k + 1, hk => by
    obtain ⟨h1, h2⟩ := nTx_c h k (by omega)
    rw [nTx, nTx]
    refine ⟨?_, ?_⟩
    · show _ + _ = _ + _
      rw [h1, h2.at (by unfold nIn; omega)]
    · exact h2.upC (k := 10 + 10 * k + 0) (by unfold nIn; omega) (fun x => x - x / 10)
theorem nTaxed_c (h : nQ z d pe pa la K N) : nQ z d pe pa la (nTaxed K pe) (nTaxed N pe) := by
  obtain ⟨h1, h2⟩ := nTx_c h pe (Nat.le_refl _)
  unfold nTaxed
  rw [h1]
  exact h2.gets1 _
theorem nSum_c (h : nQ z d pe pa la K N) {f : Nat} (hf : f < 10) : ∀ k, k ≤ pe → nSum K f k = nSum N f k
  | 0, _ => rfl
  | k + 1, hk => by rw [nSum, nSum, nSum_c h hf k (by omega), h.at (by unfold nIn; omega)]
/-- a day hangs on the shown numbers alone -/
theorem nDay_c (h : nQ z d pe pa la K N) (hO : nOk N d pe pa la) {LT : Nat → sT} : nQ z (d + 1) pe pa la (nDay LT d pe pa la K) (nDay LT d pe pa la N) := by
  have hO1 : nOk (nBakes N pe) d pe pa la := hO.eq (nBakes_eq pe hO.2.1.2)
  have h2 := nWages_c (LT := LT) (nBakes_c h pe (Nat.le_refl _)) hO1 pa (Nat.le_refl _)
  have hO2 : nOk (nWages LT d la (nBakes N pe) pa) d pe pa la := hO1.eq (nWages_eq hO1 pa (Nat.le_refl _))
  unfold nDay
  simp only []
  rw [nPrice_c h2 (fun i hi => nAsk_c h2 hi) (fun i hi => nOff_c h2 hi)]
  generalize nPrice _ _ _ d pe = pr
  have e := nBuys_cong (pr := pr) (N := nWages LT d la (nBakes K pe) pa) (pe := pe) (A := nAsk (nWages LT d la (nBakes K pe) pa)) (A' := nAsk (nWages LT d la (nBakes N pe) pa)) (B := nOff (nWages LT d la (nBakes K pe) pa) d) (B' := nOff (nWages LT d la (nBakes N pe) pa) d) (fun s hs => nAsk_c h2 hs) (fun s hs => nOff_c h2 hs) pe (Nat.le_refl _)
  rw [e.2]
  have h3 := (nBuys_c h2 (A := nAsk (nWages LT d la (nBakes N pe) pa)) (B := nOff (nWages LT d la (nBakes N pe) pa) d) (pr := pr) pe (Nat.le_refl _)).2
  have hO3 := hO2.eq (nBuys_eq (A := nAsk (nWages LT d la (nBakes N pe) pa)) (pr := pr) (q := (nOff (nWages LT d la (nBakes N pe) pa) d, nWages LT d la (nBakes N pe) pa)) hO.2.1.2 pe (Nat.le_refl _))
  have h4 := nEats_c h3 pe (Nat.le_refl _)
  have hO4 := hO3.eq (nEats_eq pe hO.2.1.2)
  have h5 := nDebts_c (LT := LT) h4 hO4 pa (Nat.le_refl _)
  have h6 := h5.day pr
  exact h6.upC (k := 0) (Or.inl rfl) (fun x => x + 1)
end NQ
