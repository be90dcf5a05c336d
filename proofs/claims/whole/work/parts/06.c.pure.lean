/-! the market's numbers -/
section NM
variable {N : Nat → Int64} {d pe pa la : Nat}
def iB (B N : Nat → Int64) (pe : Nat) : Prop := ∀ s, s < pe → isN (B s) (nv (N (10 + 10 * s + 1)))
def iA (A N : Nat → Int64) (h pe : Nat) : Prop := ∀ s, h ≤ s → s < pe → isN (A s) (nv (N (10 + 10 * s + 0)))
def iL (w p h : Nat) (N : Nat → Int64) : Prop := w + nv (N (10 + 10 * h + 1)) ≤ 9999 ∧ w * p ≤ nv (N (10 + 10 * h + 0))
theorem va_id (f : Nat → Int64) (k : Nat) : va_up f k (f k) = f := by
  funext j
  by_cases e : j = k
  · subst e; rw [va_up_self]
  · rw [va_up_ne _ _ e]
theorem nBuyN_0 {h s : Nat} {p : Int64} (hm : N (10 + 10 * s + 0) ≤ 1000000000000000) (hs : s < 10) (hh : h < 10) : nBuyN h p s 0 N = N := by
  unfold nBuyN
  simp only [Int64.sub_zero, Int64.add_zero, Int64.zero_mul, va_id]
  exact nGets_0 hm
theorem nBuyN_at {h s n ls lh ms mh p : Nat} (hs : s < 10) (hh : h < 10) (hne : s ≠ h) (e1 : N (10 + 10 * s + 1) = lN ls) (e2 : N (10 + 10 * h + 1) = lN lh) (e3 : N (10 + 10 * s + 0) = lN ms) (e4 : N (10 + 10 * h + 0) = lN mh) (h1 : n ≤ ls) (h3 : ms ≤ 1000000000000000) (h4 : n * p ≤ mh) (h5 : mh ≤ 1000000000000000) : ∀ i f, f < 6 → nBuyN h (lN p) s (lN n) N (10 + 10 * i + f) = if i = s ∧ f = 1 then lN (ls - n) else if i = s ∧ f = 0 then lN (min (ms + n * p) 1000000000000000) else if i = h ∧ f = 1 then lN (lh + n) else if i = h ∧ f = 0 then lN (mh - n * p) else N (10 + 10 * i + f) := by
  intro i f hf
  rw [nBuyN_cls hs hh hne]
  simp only []
  rw [e1, e2, e4, lN_mul, lN_sub h1, lN_add, lN_sub h4]
  by_cases c1 : i = s ∧ f = 1
  · obtain ⟨rfl, rfl⟩ := c1
    rw [if_pos ⟨rfl, rfl⟩, va_up_ne _ _ (by omega), va_up_ne _ _ (by omega), va_up_ne _ _ (by omega), nGets_ne (by omega) (by omega), va_up_ne _ _ (by omega), va_up_self]
  rw [if_neg c1]
  by_cases c2 : i = s ∧ f = 0
  · obtain ⟨rfl, rfl⟩ := c2
    rw [if_pos ⟨rfl, rfl⟩, va_up_ne _ _ (by omega), va_up_ne _ _ (by omega), va_up_ne _ _ (by omega)]
    exact nGets_N (by rw [va_up_ne _ _ (by omega), va_up_ne _ _ (by omega)]; exact e3) h3 (by omega) (by omega)
  rw [if_neg c2]
  by_cases c3 : i = h ∧ f = 1
  · obtain ⟨rfl, rfl⟩ := c3
    rw [if_pos ⟨rfl, rfl⟩, va_up_ne _ _ (by omega), va_up_ne _ _ (by omega), va_up_self]
  rw [if_neg c3]
  by_cases c4 : i = h ∧ f = 0
  · obtain ⟨rfl, rfl⟩ := c4
    rw [if_pos ⟨rfl, rfl⟩, va_up_self]
  rw [if_neg c4, va_up_ne _ _ (by omega), va_up_ne _ _ (by omega), va_up_ne _ _ (by omega), nGets_ne (by omega) (by omega), va_up_ne _ _ (by omega), va_up_ne _ _ (by omega)]
/-- one offer, taken -/
theorem nBuyN_I {A B : Nat → Int64} {h s n w p : Nat} (hB : nB N d pe) (hpe : pe ≤ 10) (hb : iB B N pe) (ha : iA A N (h + 1) pe) (hl : iL w p h N) (hs : s < pe) (hh : h < pe) (hne : s ≠ h) (hn : n ≤ w) (hn2 : n ≤ nv (B s)) :
    nB (nBuyN h (lN p) s (lN n) N) d pe ∧ iB (va_up B s (B s - lN n)) (nBuyN h (lN p) s (lN n) N) pe ∧ iA A (nBuyN h (lN p) s (lN n) N) (h + 1) pe ∧ iL (w - n) p h (nBuyN h (lN p) s (lN n) N) := by
  have m1 := hB.lv hs
  have m2 := hB.lv hh
  have m3 := hB.mk hs
  have m4 := hB.mk hh
  have b1 := (hb s hs).2
  have np : n * p ≤ w * p := Nat.mul_le_mul_right p hn
  have g1 := m1.2
  have g2 := m2.2
  have g3 := m3.2
  have g4 := m4.2
  obtain ⟨l1, l2⟩ := hl
  have AT := nBuyN_at (N := N) (n := n) (p := p) (s := s) (h := h) (by omega) (by omega) hne m1.1 m2.1 m3.1 m4.1 (by omega) m3.2 (by omega) m4.2
  have a1 : nBuyN h (lN p) s (lN n) N (10 + 10 * s + 1) = lN (nv (N (10 + 10 * s + 1)) - n) := by rw [AT s 1 (by omega), if_pos ⟨rfl, rfl⟩]
  have a2 : nBuyN h (lN p) s (lN n) N (10 + 10 * s + 0) = lN (min (nv (N (10 + 10 * s + 0)) + n * p) 1000000000000000) := by rw [AT s 0 (by omega), if_neg (by omega), if_pos ⟨rfl, rfl⟩]
  have a3 : nBuyN h (lN p) s (lN n) N (10 + 10 * h + 1) = lN (nv (N (10 + 10 * h + 1)) + n) := by rw [AT h 1 (by omega), if_neg (by omega), if_neg (by omega), if_pos ⟨rfl, rfl⟩]
  have a4 : nBuyN h (lN p) s (lN n) N (10 + 10 * h + 0) = lN (nv (N (10 + 10 * h + 0)) - n * p) := by rw [AT h 0 (by omega), if_neg (by omega), if_neg (by omega), if_neg (by omega), if_pos ⟨rfl, rfl⟩]
  have a5 : ∀ i f, f < 6 → ¬ (i = s ∧ f ≤ 1) → ¬ (i = h ∧ f ≤ 1) → nBuyN h (lN p) s (lN n) N (10 + 10 * i + f) = N (10 + 10 * i + f) := fun i f hf c1 c2 => by
    rw [AT i f hf, if_neg (by omega), if_neg (by omega), if_neg (by omega), if_neg (by omega)]
  generalize hN' : nBuyN h (lN p) s (lN n) N = N' at *
  refine ⟨fun i f hi hf => ?_, fun i hi => ?_, fun i hi1 hi2 => ?_, ?_, ?_⟩
  · by_cases c1 : i = s ∧ f ≤ 1
    · obtain ⟨rfl, c1⟩ := c1
      rcases (show f = 0 ∨ f = 1 by omega) with rfl | rfl
      · rw [a2]; show isN _ 1000000000000000; exact isN.mk (Nat.min_le_right _ _) (by decide)
      · rw [a1]; show isN _ 9999; exact isN.mk (by omega) (by decide)
    · by_cases c2 : i = h ∧ f ≤ 1
      · obtain ⟨rfl, c2⟩ := c2
        rcases (show f = 0 ∨ f = 1 by omega) with rfl | rfl
        · rw [a4]; show isN _ 1000000000000000; exact isN.mk (by omega) (by decide)
        · rw [a3]; show isN _ 9999; exact isN.mk (by omega) (by decide)
      · rw [a5 i f hf c1 c2]; exact hB i f hi hf
  · have bi := hb i hi
    by_cases c1 : i = s
    · subst c1
      rw [va_up_self, bi.1, lN_sub hn2, a1, nv_lN (by omega)]
      exact isN.mk (by omega) (by omega)
    · rw [va_up_ne _ _ c1]
      by_cases c2 : i = h
      · subst c2
        rw [a3, nv_lN (by omega)]
        exact bi.mono (by omega)
      · rw [a5 i 1 (by omega) (by omega) (by omega)]; exact bi
  · have ai := ha i hi1 hi2
    by_cases c1 : i = s
    · subst c1
      rw [a2, nv_lN (by omega)]
      exact ai.mono (by omega)
    · rw [a5 i 0 (by omega) (by omega) (by omega)]; exact ai
  · rw [a3, nv_lN (by omega)]; omega
  · rw [a4, nv_lN (by omega), Nat.sub_mul]; omega
theorem nB.le (hB : nB N d pe) {i : Nat} (hi : i < pe) : N (10 + 10 * i + 0) ≤ 1000000000000000 := (hB.mk hi).le (by omega)
/-- nothing wanted: nothing is bought -/
theorem nBuy1_w0 {B : Nat → Int64} {h s : Nat} {p : Int64} (hB : nB N d pe) (hpe : pe ≤ 10) (hb : iB B N pe) (hs : s < pe) (hh : h < pe) : nBuy1 h p s (0, B, N) = (0, B, N) := by
  have e : (if s = h then 0 else lmn 0 (B s)) = (0 : Int64) := by
    split
    · rfl
    · have b1 := hb s hs
      have := b1.2
      have := (hB.lv hs).2
      rw [b1.1, show (0 : Int64) = lN 0 from rfl, lmn_N (by omega) (by omega), Nat.zero_min]
  unfold nBuy1
  simp only []
  rw [e, nBuyN_0 (hB.le hs) (by omega) (by omega), Int64.sub_zero, Int64.sub_zero, va_id]
theorem nBuy1_own {B : Nat → Int64} {L : Int64} {h : Nat} {p : Int64} (hB : nB N d pe) (hpe : pe ≤ 10) (hh : h < pe) : nBuy1 h p h (L, B, N) = (L, B, N) := by
  unfold nBuy1
  simp only []
  rw [if_pos trivial, nBuyN_0 (hB.le hh) (by omega) (by omega), Int64.sub_zero, Int64.sub_zero, va_id]
/-- what the buyer's run keeps up -/
def iM (A : Nat → Int64) (d pe p h : Nat) (q : sB) : Prop := nB q.2.2 d pe ∧ iB q.2.1 q.2.2 pe ∧ iA A q.2.2 (h + 1) pe ∧ ∃ w, q.1 = lN w ∧ iL w p h q.2.2
theorem iM.step {A : Nat → Int64} {h s p : Nat} {q : sB} (hI : iM A d pe p h q) (hpe : pe ≤ 10) (hs : s < pe) (hh : h < pe) : iM A d pe p h (nBuy1 h (lN p) s q) := by
  obtain ⟨L, B, N⟩ := q
  obtain ⟨hB, hb, ha, w, hw, hl⟩ := hI
  dsimp only at hB hb ha hw hl
  by_cases c : s = h
  · subst c
    rw [nBuy1_own hB hpe hs]
    exact ⟨hB, hb, ha, w, hw, hl⟩
  · have b1 := hb s hs
    have g1 := b1.2
    have g2 := (hB.lv hs).2
    have g3 := hl.1
    have en : (if s = h then 0 else lmn L (B s)) = lN (min w (nv (B s))) := by
      rw [if_neg c, hw, b1.1, lmn_N (by omega) (by omega), nv_lN (by omega)]
    unfold nBuy1
    dsimp only
    rw [en]
    obtain ⟨r1, r2, r3, r4⟩ := nBuyN_I hB hpe hb ha hl hs hh c (n := min w (nv (B s))) (Nat.min_le_left _ _) (Nat.min_le_right _ _)
    exact ⟨r1, r2, r3, w - min w (nv (B s)), by rw [hw, lN_sub (Nat.min_le_left _ _)], r4⟩
theorem iM.run {A : Nat → Int64} {h p : Nat} {q : sB} (hI : iM A d pe p h q) (hpe : pe ≤ 10) (hh : h < pe) : ∀ k, k ≤ pe → iM A d pe p h (nBuy h (lN p) q k)
  | 0, _ => hI
  | k + 1, hk => (iM.run hI hpe hh k (by omega)).step hpe (by omega) hh
theorem nBuy_stop {A : Nat → Int64} {h p : Nat} {q : sB} (hI : iM A d pe p h q) (hpe : pe ≤ 10) (hh : h < pe) (k : Nat) (h0 : (nBuy h (lN p) q k).1 = 0) : ∀ n, k + n ≤ pe → nBuy h (lN p) q (k + n) = nBuy h (lN p) q k
  | 0, _ => rfl
  | n + 1, hn => by
    have e := nBuy_stop hI hpe hh k h0 n (by omega)
    obtain ⟨hB, hb, -⟩ := hI.run hpe hh k (by omega)
    rw [show k + (n + 1) = (k + n) + 1 from rfl, nBuy, e]
    rw [show nBuy h (lN p) q k = (0, (nBuy h (lN p) q k).2.1, (nBuy h (lN p) q k).2.2) from by rw [← h0]]
    exact nBuy1_w0 hB hpe hb (by omega) hh
/-- a buyer begins -/
theorem iM.start {A B : Nat → Int64} {h p : Nat} (hB : nB N d pe) (hb : iB B N pe) (ha : iA A N h pe) (hh : h < pe) (hp : 1 ≤ p) (hp2 : p ≤ 1000000000000000) : iM A d pe p h (lmn (A h / lN p) (9999 - N (10 + 10 * h + 1)), B, N) := by
  have a1 := ha h (Nat.le_refl _) hh
  have l1 := hB.lv hh
  have m1 := hB.mk hh
  have g1 := a1.2
  have g2 := l1.2
  have g3 := m1.2
  have dv := Nat.div_le_self (nv (A h)) p
  have dm := Nat.div_mul_le_self (nv (A h)) p
  refine ⟨hB, hb, fun s h1 h2 => ha s (by omega) h2, min (nv (A h) / p) (9999 - nv (N (10 + 10 * h + 1))), ?_, ?_, ?_⟩
  · show lmn (A h / lN p) (9999 - N (10 + 10 * h + 1)) = _
    rw [a1.1, l1.1, pk_lDiv (by omega) (by omega) (by omega), show (9999 : Int64) = lN 9999 from rfl, lN_sub g2, lmn_N (by omega) (by omega), nv_lN (by omega), nv_lN (by omega)]
  · show min _ _ + nv (N (10 + 10 * h + 1)) ≤ 9999
    omega
  · show min _ _ * p ≤ nv (N (10 + 10 * h + 0))
    have : min (nv (A h) / p) (9999 - nv (N (10 + 10 * h + 1))) * p ≤ nv (A h) / p * p := Nat.mul_le_mul_right p (Nat.min_le_left _ _)
    omega
theorem iA.up {A N' : Nat → Int64} {h : Nat} (ha : iA A N' (h + 1) pe) : iA A N' (h + 1) pe := ha
def iQ (A : Nat → Int64) (d pe h : Nat) (q : (Nat → Int64) × (Nat → Int64)) : Prop := nB q.2 d pe ∧ iB q.1 q.2 pe ∧ iA A q.2 h pe
theorem iQ.step {A : Nat → Int64} {h p : Nat} {q : (Nat → Int64) × (Nat → Int64)} (hI : iQ A d pe h q) (hpe : pe ≤ 10) (hh : h < pe) (hp : 1 ≤ p) (hp2 : p ≤ 1000000000000000) : iQ A d pe (h + 1) (nBuysL A (lN p) pe h q) := by
  obtain ⟨B, N⟩ := q
  obtain ⟨hB, hb, ha⟩ := hI
  obtain ⟨r1, r2, r3, -⟩ := (iM.start hB hb ha hh hp hp2).run hpe hh pe (Nat.le_refl _)
  exact ⟨r1, r2, r3⟩
theorem iQ.run {A : Nat → Int64} {p : Nat} {q : (Nat → Int64) × (Nat → Int64)} (hI : iQ A d pe 0 q) (hpe : pe ≤ 10) (hp : 1 ≤ p) (hp2 : p ≤ 1000000000000000) : ∀ k, k ≤ pe → iQ A d pe k (nBuys A (lN p) pe q k)
  | 0, _ => hI
  | k + 1, hk => (iQ.run hI hpe hp hp2 k (by omega)).step hpe (by omega) hp hp2
/-- what is asked and offered at first -/
theorem nAsk_N (hB : nB N d pe) {i : Nat} (hi : i < pe) : isN (nAsk N i) (nv (N (10 + 10 * i + 0))) := by
  have m := hB.mk hi
  have s := hB.sp hi
  have g1 := m.2
  have g2 := s.2
  have g3 : nv (N (10 + 10 * i + 0)) * nv (N (10 + 10 * i + 3)) ≤ nv (N (10 + 10 * i + 0)) * 10 := Nat.mul_le_mul_left _ g2
  unfold nAsk
  rw [m.1, s.1, lN_mul, show (10 : Int64) = lN 10 from rfl, pk_lDiv (by omega) (by omega) (by omega), nv_lN (by omega)]
  refine isN.mk ?_ (by omega)
  rw [Nat.div_le_iff_le_mul_add_pred (by omega)]
  omega
theorem nOff_N (hB : nB N d pe) {i : Nat} (hi : i < pe) : isN (nOff N d i) (nv (N (10 + 10 * i + 1))) := by
  have l := hB.lv hi
  have g := l.2
  rcases nKeeps_em N d i with c | c
  · rw [nOff_t c]; exact isN.mk (Nat.zero_le _) (by omega)
  · rw [nOff_f c]
    by_cases z : nv (N (10 + 10 * i + 1)) = 0
    · rw [l.1, z]
      exact ⟨by decide, by decide⟩
    · rw [l.1, show (1 : Int64) = lN 1 from rfl, lN_sub (by omega), show (0 : Int64) = lN 0 from rfl, lmx_N (by omega) (by omega), nv_lN (by omega)]
      exact isN.mk (by omega) (by omega)
theorem iQ.first (hB : nB N d pe) : iQ (nAsk N) d pe 0 (nOff N d, N) := ⟨hB, fun _ hs => nOff_N hB hs, fun _ _ hs => nAsk_N hB hs⟩
/-- nothing offered: nothing is bought -/
theorem nBuy_none {B : Nat → Int64} {L p : Int64} {h : Nat} (hB : nB N d pe) (hpe : pe ≤ 10) (hL : (0 : Int64) ≤ L) (hb : ∀ s, s < pe → B s = 0) (hh : h < pe) : ∀ k, k ≤ pe → nBuy h p (L, B, N) k = (L, B, N)
  | 0, _ => rfl
  | k + 1, hk => by
    rw [nBuy, nBuy_none hB hpe hL hb hh k (by omega)]
    have e : (if k = h then 0 else lmn L (B k)) = (0 : Int64) := by
      split
      · rfl
      · rw [hb k (by omega)]
        unfold lmn
        split
        · rfl
        · rename_i hle; exact Int64.le_antisymm (Int64.not_lt.mp hle) hL
    unfold nBuy1
    dsimp only
    rw [e, nBuyN_0 (hB.le (by omega)) (by omega) (by omega), Int64.sub_zero, Int64.sub_zero, va_id]
theorem nBuys_none {A B : Nat → Int64} {p : Nat} (hB : nB N d pe) (hpe : pe ≤ 10) (ha : iA A N 0 pe) (hb : ∀ s, s < pe → B s = 0) (hp : 1 ≤ p) (hp2 : p ≤ 1000000000000000) : ∀ k, k ≤ pe → nBuys A (lN p) pe (B, N) k = (B, N)
  | 0, _ => rfl
  | k + 1, hk => by
    rw [nBuys, nBuys_none hB hpe ha hb hp hp2 k (by omega)]
    unfold nBuysL
    dsimp only
    have hib : iB B N pe := fun s hs => by rw [hb s hs]; exact ⟨by decide, Nat.zero_le _⟩
    have ⟨_, _, _, w, hw, hl⟩ := iM.start (h := k) (p := p) hB hib (fun s h1 h2 => ha s (by omega) h2) (by omega) hp hp2
    have := hl.1
    rw [nBuy_none hB hpe (by rw [show lmn (A k / lN p) (9999 - N (10 + 10 * k + 1)) = lN w from hw, show (0 : Int64) = lN 0 from rfl, pk_lLE (by omega) (by omega)]; exact Nat.zero_le _) hb (by omega) pe (Nat.le_refl _)]
theorem nSm_N {B : Nat → Int64} {c : Nat} (hc : c ≤ 1000000000000000) : ∀ k, k ≤ 10 → (∀ i, i < k → isN (B i) c) → isN (nSm B k) (k * c)
  | 0, _, _ => isN.mk (Nat.zero_le _) (by omega)
  | k + 1, hk, h => by
    have g := nSm_N hc k (by omega) (fun i hi => h i (by omega))
    have b := h k (by omega)
    have g1 := g.2
    have b1 := b.2
    have k1 : k * c ≤ 9 * c := Nat.mul_le_mul_right c (by omega)
    rw [nSm, g.1, b.1, lN_add, Nat.add_mul, Nat.one_mul]
    exact isN.mk (by omega) (by omega)
theorem nSm_0 {B : Nat → Int64} {c : Nat} (hc : c ≤ 1000000000000000) : ∀ k, k ≤ 10 → (∀ i, i < k → isN (B i) c) → nSm B k = 0 → ∀ i, i < k → B i = 0
  | 0, _, _, _ => fun i hi => absurd hi (by omega)
  | k + 1, hk, h, e => by
    have g := nSm_N hc k (by omega) (fun i hi => h i (by omega))
    have b := h k (by omega)
    have g1 := g.2
    have b1 := b.2
    have k1 : k * c ≤ 9 * c := Nat.mul_le_mul_right c (by omega)
    rw [nSm, g.1, b.1, lN_add, show (0 : Int64) = lN 0 from rfl, pk_lEQ (by omega) (by omega)] at e
    have e0 : nSm B k = 0 := by rw [g.1, show nv (nSm B k) = 0 by omega]; rfl
    intro i hi
    by_cases c2 : i = k
    · subst c2; rw [b.1, show nv (B i) = 0 by omega]; rfl
    · exact nSm_0 hc k (by omega) (fun i hi => h i (by omega)) e0 i (by omega)
end NM
/-- a day keeps the bounds -/
theorem nDay_ok {LT : Nat → sT} {N : Nat → Int64} {d pe pa la : Nat} (hO : nOk N d pe pa la) (hd : d < 300) (hB : nB N d pe) (hS : nS N pa) : nOk (nDay LT d pe pa la N) (d + 1) pe pa la ∧ nB (nDay LT d pe pa la N) (d + 1) pe ∧ nS (nDay LT d pe pa la N) pa := by
  have hpe := hO.2.1.2
  have e1 := nBakes_eq (N := N) pe hpe
  have hO1 : nOk (nBakes N pe) d pe pa la := hO.eq e1
  have hB1 := nBakes_b hB pe (Nat.le_refl _)
  have hS1 := hS.eq e1
  have e2 := nWages_eq (LT := LT) hO1 pa (Nat.le_refl _)
  have hO2 := hO1.eq e2
  have hB2 := nWages_b (LT := LT) hB1 hO1 hS1 pa (Nat.le_refl _)
  have hS2 := hS1.eq e2
  unfold nDay
  simp only []
  generalize hN2 : nWages LT d la (nBakes N pe) pa = N2 at *
  have hpr : prOk (nPrice N2 (nAsk N2) (nOff N2 d) d pe) := nPrice_ok (hO2.2.2.2.2.2 d (Nat.le_refl _))
  generalize nPrice N2 (nAsk N2) (nOff N2 d) d pe = pr at *
  have e3 := nBuys_eq (A := nAsk N2) (pr := pr) (q := (nOff N2 d, N2)) hpe pe (Nat.le_refl _)
  have hO3 := hO2.eq e3
  have hS3 := hS2.eq e3
  have hB3 : nB (nBuys (nAsk N2) pr pe (nOff N2 d, N2) pe).2 d pe := by
    obtain ⟨p, rfl, hp1, hp2⟩ := prOk_N hpr
    exact ((iQ.first hB2).run hpe hp1 hp2 pe (Nat.le_refl _)).1
  generalize (nBuys (nAsk N2) pr pe (nOff N2 d, N2) pe).2 = N3 at *
  have e4 := nEats_eq (N := N3) pe hpe
  have hO4 := hO3.eq e4
  have hS4 := hS3.eq e4
  have hB4 : nB (nEats N3 pe) (d + 1) pe := fun i f hi hf => by
    have g := nEats_b hB3 (by omega) pe (Nat.le_refl _) i f hi hf
    by_cases c : f = 5
    · subst c; rw [if_pos ⟨rfl, hi⟩] at g; exact g
    · rw [if_neg (by omega)] at g
      refine g.mono ?_
      unfold fB
      split
      · exact Nat.le_refl _
      split
      · exact Nat.le_refl _
      split
      · exact Nat.le_refl _
      split
      · exact Nat.le_refl _
      split
      · exact Nat.le_refl _
      exact Nat.le_succ d
  have e5 := nDebts_eq (LT := LT) hO4 pa (Nat.le_refl _)
  have hO5 := hO4.eq e5
  have hS5 := hS4.eq e5
  have hB5 : nB (nDebts LT d la (nEats N3 pe) pa) (d + 1) pe := nDebts_b hB4 hO4 hS4 pa (Nat.le_refl _)
  generalize nDebts LT d la (nEats N3 pe) pa = N5 at *
  obtain ⟨⟨a1, a2⟩, ⟨b1, b2⟩, ⟨c1, c2⟩, ⟨f1, f2⟩, p1, g1⟩ := hO5
  refine ⟨⟨⟨?_, by omega⟩, ⟨?_, b2⟩, ⟨?_, c2⟩, ⟨?_, f2⟩, fun j hj => ?_, fun k hk => ?_⟩, ?_, fun j hj => ?_⟩
  · rw [va_up_self, va_up_ne _ _ (by omega), a1, lN_1]
  · rw [va_up_ne _ _ (by omega), va_up_ne _ _ (by omega)]; exact b1
  · rw [va_up_ne _ _ (by omega), va_up_ne _ _ (by omega)]; exact c1
  · rw [va_up_ne _ _ (by omega), va_up_ne _ _ (by omega)]; exact f1
  · have := p1 j hj
    unfold pOk at this ⊢
    simp only [va_up_ne _ _ (show 110 + 7 * j + 0 ≠ 0 by omega), va_up_ne _ _ (show 110 + 7 * j + 1 ≠ 0 by omega), va_up_ne _ _ (show 110 + 7 * j + 2 ≠ 0 by omega), va_up_ne _ _ (show 110 + 7 * j + 4 ≠ 0 by omega), va_up_ne _ _ (show 110 + 7 * j + 5 ≠ 0 by omega), va_up_ne _ _ (show 110 + 7 * j + 0 ≠ 310 + d + 1 by omega), va_up_ne _ _ (show 110 + 7 * j + 1 ≠ 310 + d + 1 by omega), va_up_ne _ _ (show 110 + 7 * j + 2 ≠ 310 + d + 1 by omega), va_up_ne _ _ (show 110 + 7 * j + 4 ≠ 310 + d + 1 by omega), va_up_ne _ _ (show 110 + 7 * j + 5 ≠ 310 + d + 1 by omega)]
    obtain ⟨t1, t2, t3, ⟨t4, t5⟩, t6⟩ := this
    exact ⟨t1, t2, t3, ⟨t4, by omega⟩, t6⟩
  · rw [va_up_ne _ _ (by omega)]
    by_cases c : k = d + 1
    · subst c; rw [show 310 + (d + 1) = 310 + d + 1 from rfl, va_up_self]; exact hpr
    · rw [va_up_ne _ _ (by omega)]; exact g1 k (by omega)
  · exact (hB5.out hpe (by omega)).out hpe (by omega)
  · rw [va_up_ne _ _ (by omega), va_up_ne _ _ (by omega)]; exact hS5 j hj
