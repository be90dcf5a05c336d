section CG
variable {K N : Nat → Int64} {d pe pa la : Nat} {LT : Nat → sT}
theorem okP_c (hq : nQ True d pe pa la K N) {p : Int32} : okP K p ↔ okP N p := by
  show ((0 : Int64) ≤ p.toInt64 ∧ p.toInt64 ≤ K 4 - 1) ↔ ((0 : Int64) ≤ p.toInt64 ∧ p.toInt64 ≤ N 4 - 1)
  rw [hq.at (k := 4) (by unfold nIn; omega)]
theorem okQ_c (hq : nQ True d pe pa la K N) {p : Int32} : okQ K p ↔ okQ N p := by
  show ((0 : Int64) ≤ p.toInt64 ∧ p.toInt64 ≤ K 5 - 1) ↔ ((0 : Int64) ≤ p.toInt64 ∧ p.toInt64 ≤ N 5 - 1)
  rw [hq.at (k := 5) (by unfold nIn; omega)]
theorem okD_c (hq : nQ True d pe pa la K N) {p : Int32} : okD K p ↔ okD N p := by
  show ((0 : Int64) ≤ p.toInt64 ∧ p.toInt64 ≤ K 0) ↔ ((0 : Int64) ≤ p.toInt64 ∧ p.toInt64 ≤ N 0)
  rw [hq.at (k := 0) (by unfold nIn; omega)]
/-- an answer of K as that of N -/
def cg (K N : Nat → Int64) (s1 s2 : sA) : Prop := s1 = (s2.1, s2.2.1, K) ∧ s2.2.2 = N
theorem cg_i {K N : Nat → Int64} {v : Int64} {b : Bool} : cg K N (v, b, K) (v, b, N) := ⟨rfl, rfl⟩
theorem cg_personIs (hq : nQ True d pe pa la K N) (hO : nOk N d pe pa la) {p x : Int32} : cg K N (sPersonIs K p x) (sPersonIs N p x) := by
  unfold sPersonIs
  by_cases c : okP N p ∧ okW x 7
  · rw [if_pos (⟨(okP_c hq).mpr c.1, c.2⟩ : okP K p ∧ okW x 7), if_pos c]
    obtain ⟨i, hi, rfl⟩ := (okP_x hO.2.1.1 hO.2.1.2).mp c.1
    obtain ⟨v, hv, rfl⟩ := jix2 (n := 7) (by omega) c.2.1 c.2.2
    have := hO.2.1.2
    rw [nI_clamp (by omega), nI_clamp (by omega), hq.at (by unfold nIn; omega)]
    exact cg_i
  · rw [if_neg (fun h => c ⟨(okP_c hq).mp h.1, h.2⟩), if_neg c]
    exact cg_i
theorem cg_gain (hq : nQ True d pe pa la K N) (hO : nOk N d pe pa la) {p l : Int32} : cg K N (sGain K p l) (sGain N p l) := by
  unfold sGain
  by_cases c : okP N p
  · rw [if_pos ((okP_c hq).mpr c), if_pos c]
    obtain ⟨i, hi, rfl⟩ := (okP_x hO.2.1.1 hO.2.1.2).mp c
    have := hO.2.1.2
    rw [nI_clamp (by omega), hq.at (by unfold nIn; split <;> omega)]
    exact cg_i
  · rw [if_neg (fun h => c ((okP_c hq).mp h)), if_neg c]
    exact cg_i
theorem cg_paperIs (hq : nQ True d pe pa la K N) (hO : nOk N d pe pa la) {p x : Int32} : cg K N (sPaperIs K p x) (sPaperIs N p x) := by
  unfold sPaperIs
  by_cases c : okQ N p ∧ okW x 6
  · rw [if_pos (⟨(okQ_c hq).mpr c.1, c.2⟩ : okQ K p ∧ okW x 6), if_pos c]
    obtain ⟨i, hi, rfl⟩ := (okQ_x hO.2.2.1.1 hO.2.2.1.2).mp c.1
    obtain ⟨v, hv, rfl⟩ := jix2 (n := 6) (by omega) c.2.1 c.2.2
    have := hO.2.2.1.2
    rw [nI_clamp (by omega), nI_clamp (by omega), hq.at (by unfold nIn; omega)]
    exact cg_i
  · rw [if_neg (fun h => c ⟨(okQ_c hq).mp h.1, h.2⟩), if_neg c]
    exact cg_i
theorem cg_as (hq : nQ True d pe pa la K N) (hO : nOk N d pe pa la) {p x : Int32} : cg K N (sAs K p x) (sAs N p x) := by
  unfold sAs
  by_cases c : okQ N p ∧ okW x 5
  · rw [if_pos (⟨(okQ_c hq).mpr c.1, c.2⟩ : okQ K p ∧ okW x 5), if_pos c]
    obtain ⟨i, hi, rfl⟩ := (okQ_x hO.2.2.1.1 hO.2.2.1.2).mp c.1
    have := hO.2.2.1.2
    rw [nI_clamp (by omega), hq.at (k := 110 + 7 * i) (by unfold nIn; omega)]
    split
    · exact cg_i
    · exact cg_i
  · rw [if_neg (fun h => c ⟨(okQ_c hq).mp h.1, h.2⟩), if_neg c]
    exact cg_i
theorem cg_owed (hq : nQ True d pe pa la K N) (hO : nOk N d pe pa la) {p x : Int32} : cg K N (sOwed LT K d la p x) (sOwed LT N d la p x) := by
  unfold sOwed
  by_cases c : okQ N p ∧ okW x 1
  · rw [if_pos (⟨(okQ_c hq).mpr c.1, c.2⟩ : okQ K p ∧ okW x 1), if_pos c]
    obtain ⟨i, hi, rfl⟩ := (okQ_x hO.2.2.1.1 hO.2.2.1.2).mp c.1
    have := hO.2.2.1.2
    rw [nI_clamp (by omega), hq.at (k := 110 + 7 * i + 6) (by unfold nIn; omega), nOwed_c hq hO hi]
    split
    · exact cg_i
    · exact cg_i
  · rw [if_neg (fun h => c ⟨(okQ_c hq).mp h.1, h.2⟩), if_neg c]
    exact cg_i
theorem nNotes_c (hq : nQ True d pe pa la K N) {i : Nat} : ∀ k, k ≤ pa → nNotes K i k = nNotes N i k
  | 0, _ => rfl
  | k + 1, hk => by rw [nNotes, nNotes, nNotes_c hq k (by omega), hq.at (k := 110 + 7 * k + 0) (by unfold nIn; omega), hq.at (k := 110 + 7 * k + 6) (by unfold nIn; omega), hq.at (k := 110 + 7 * k + 1) (by unfold nIn; omega), hq.at (k := 110 + 7 * k + 3) (by unfold nIn; omega)]
theorem nThin_c (hq : nQ True d pe pa la K N) : ∀ k, k ≤ pe → nThin K pa k = nThin N pa k
  | 0, _ => rfl
  | k + 1, hk => by rw [nThin, nThin, nThin_c hq k (by omega), nNotes_c hq pa (Nat.le_refl _), hq.at (k := 10 + 10 * k + 0) (by unfold nIn; omega)]
theorem nOpen_c (hq : nQ True d pe pa la K N) : ∀ k, k ≤ pa → nOpen K k = nOpen N k
  | 0, _ => rfl
  | k + 1, hk => by rw [nOpen, nOpen, nOpen_c hq k (by omega), hq.at (k := 110 + 7 * k + 6) (by unfold nIn; omega)]
theorem cg_thin (hq : nQ True d pe pa la K N) : cg K N (nThin K pa pe, false, K) (nThin N pa pe, false, N) := by
  rw [nThin_c hq pe (Nat.le_refl _)]; exact cg_i
theorem cg_law (hq : nQ True d pe pa la K N) {c e : Int32} : cg K N (sLaw K la c e) (sLaw N la c e) := by
  unfold sLaw
  rw [nLaw_c hq _ _ la (Nat.le_refl _)]
  split
  · split <;> exact cg_i
  · exact cg_i
theorem nUnl_c (hq : nQ True d pe pa la K N) (hO : nOk N d pe pa la) : ∀ m k, k + m = pa → nUnl LT K d la k m = nUnl LT N d la k m
  | 0, k, _ => rfl
  | m + 1, k, hk => by rw [nUnl, nUnl, nUnl_c hq hO m (k + 1) (by omega), nOwed_c hq hO (by omega), nOwed_c hq hO (by omega), hq.at (k := 110 + 7 * k + 6) (by unfold nIn; omega)]
theorem cg_unlike (hq : nQ True d pe pa la K N) (hO : nOk N d pe pa la) : cg K N (sUnlike LT K d la pa) (sUnlike LT N d la pa) := by
  unfold sUnlike
  rw [nUnl_c hq hO pa 0 (by omega)]
  split <;> exact cg_i
theorem cg_price (hq : nQ True d pe pa la K N) (hO : nOk N d pe pa la) {x : Int32} : cg K N (sPrice K x) (sPrice N x) := by
  unfold sPrice
  by_cases c : okD N x
  · rw [if_pos ((okD_c hq).mpr c), if_pos c]
    have h3 := hO.1.2
    have c2 := c
    unfold okD at c2
    rw [hO.1.1] at c2
    obtain ⟨i, hi, rfl⟩ := jix2 (n := d) (by omega) c2.1 c2.2
    rw [nI_clamp (by omega), hq.at (by unfold nIn; omega)]
    exact cg_i
  · rw [if_neg (fun h => c ((okD_c hq).mp h)), if_neg c]
    exact cg_i
theorem cg_index (hq : nQ True d pe pa la K N) (hO : nOk N d pe pa la) {x z : Int32} : cg K N (sIndex K x z) (sIndex N x z) := by
  unfold sIndex
  by_cases c : okD N x ∧ okD N z
  · rw [if_pos (⟨(okD_c hq).mpr c.1, (okD_c hq).mpr c.2⟩ : okD K x ∧ okD K z), if_pos c]
    have h3 := hO.1.2
    have c2 := c
    unfold okD at c2
    rw [hO.1.1] at c2
    obtain ⟨i, hi, rfl⟩ := jix2 (n := d) (by omega) c2.1.1 c2.1.2
    obtain ⟨j, hj, rfl⟩ := jix2 (n := d) (by omega) c2.2.1 c2.2.2
    rw [nI_clamp (by omega), nI_clamp (by omega), hq.at (k := 310 + i) (by unfold nIn; omega), hq.at (k := 310 + j) (by unfold nIn; omega)]
    exact cg_i
  · rw [if_neg (fun h => c ⟨(okD_c hq).mp h.1, (okD_c hq).mp h.2⟩), if_neg c]
    exact cg_i
theorem cg_count (hq : nQ True d pe pa la K N) {f : Int64} {x : Int32} : cg K N (sCount K pe pa f x) (sCount N pe pa f x) := by
  have e : sCnt K pe pa x.toNatClampNeg = sCnt N pe pa x.toNatClampNeg := by
    unfold sCnt
    rw [hq.at (k := 4) (by unfold nIn; omega), hq.at (k := 5) (by unfold nIn; omega), nOpen_c hq pa (Nat.le_refl _), hq.at (k := 0) (by unfold nIn; omega), hq 1 (Or.inr ⟨trivial, by omega, by omega⟩), nSum_c hq (f := 0) (by omega) pe (Nat.le_refl _), hq 2 (Or.inr ⟨trivial, by omega, by omega⟩), hq 3 (Or.inr ⟨trivial, by omega, by omega⟩), nSum_c hq (f := 1) (by omega) pe (Nat.le_refl _)]
  unfold sCount
  rw [e]
  split <;> exact cg_i
/-- n days ahead: what is asked of N, in its range -/
theorem nA_c {n : Int32} {mo : Nat} (hmo : mo ≤ 30) (hd3 : d ≤ 300) (h : ¬ (nA d n mo).2 = true) : d + n.toNatClampNeg ≤ 300 ∧ n.toNatClampNeg ≤ mo := by
  unfold nA at h
  by_cases c : okR n 1 mo
  · obtain ⟨m, hm1, hm2, rfl⟩ := jix3 (lo := 1) (hi := mo) (by omega) c.1 c.2 (by
      rcases Nat.lt_or_ge mo 1 with e | e
      · exfalso
        obtain rfl : mo = 0 := by omega
        have := Int64.le_trans c.1 c.2
        exact absurd this (by decide)
      · exact e)
    rw [if_pos c, nI_clamp (by omega)] at h
    rw [nI_clamp (by omega)]
    by_cases c2 : 300 < d + m
    · rw [if_pos c2] at h; exact absurd rfl h
    · omega
  · rw [if_neg c] at h; exact absurd rfl h
theorem cg_need (hq : nQ True d pe pa la K N) (hO : nOk N d pe pa la) (hB : nB N d pe) (hS : nS N pa) {n : Int32} : cg K N (sNeed LT K d pe pa la n) (sNeed LT N d pe pa la n) := by
  unfold sNeed
  by_cases c : (nA d n 30).2 = true
  · rw [if_pos c, if_pos c]; exact cg_i
  · have hn := nA_c (by omega) hO.1.2 c
    rw [if_neg c, if_neg c, nPl_c (LT := LT) (b := bF) hq hO hB hS n.toNatClampNeg (by omega) 2 (Or.inr ⟨trivial, by omega, by omega⟩), hq 2 (Or.inr ⟨trivial, by omega, by omega⟩)]
    exact cg_i
theorem nMel_c (hq : nQ True d pe pa la K N) (hO : nOk N d pe pa la) (hB : nB N d pe) (hS : nS N pa) : ∀ m k, d + (k + m) ≤ 300 → nMel LT d pe pa la K k m = nMel LT d pe pa la N k m
  | 0, k, _ => rfl
  | m + 1, k, hk => by
    have e := nPl_c (LT := LT) (b := bF) hq hO hB hS (k + 1) (by omega)
    rw [nMel, nMel, nMel_c hq hO hB hS m (k + 1) (by omega), e.at (k := 310 + (d + k)) (by unfold nIn; omega), e.at (k := 310 + (d + k + 1)) (by unfold nIn; omega)]
theorem cg_melts (hq : nQ True d pe pa la K N) (hO : nOk N d pe pa la) (hB : nB N d pe) (hS : nS N pa) {n : Int32} : cg K N (sMelts LT K d pe pa la n) (sMelts LT N d pe pa la n) := by
  unfold sMelts
  by_cases c : (nA d n 30).2 = true
  · rw [if_pos c, if_pos c]; exact cg_i
  · have hn := nA_c (by omega) hO.1.2 c
    rw [if_neg c, if_neg c, nMel_c hq hO hB hS n.toNatClampNeg 0 (by omega)]
    split <;> exact cg_i
theorem cg_beside (hq : nQ True d pe pa la K N) (hO : nOk N d pe pa la) (hB : nB N d pe) (hS : nS N pa) {p n : Int32} {v : Int64} : cg K N (sBeside LT K d pe pa la p v n) (sBeside LT N d pe pa la p v n) := by
  unfold sBeside
  by_cases c : okP N p ∧ ((0 : Int64) ≤ v ∧ v ≤ 1000000000000000)
  · rw [if_pos (⟨(okP_c hq).mpr c.1, c.2⟩ : okP K p ∧ ((0 : Int64) ≤ v ∧ v ≤ 1000000000000000)), if_pos c]
    by_cases c2 : (nA d n 30).2 = true
    · rw [if_pos c2, if_pos c2]; exact cg_i
    · have hn := nA_c (by omega) hO.1.2 c2
      obtain ⟨i, hi, rfl⟩ := (okP_x hO.2.1.1 hO.2.1.2).mp c.1
      have hpe := hO.2.1.2
      have hpa := hO.2.2.1.2
      rw [nI_clamp (by omega)]
      have hG : nQ True d pe pa la (nGift K i v) (nGift N i v) := by
        unfold nGift
        refine nQ.gets ?_ (by unfold nIn; omega) v
        rw [hq 2 (Or.inr ⟨trivial, by omega, by omega⟩)]
        exact hq.up 2 _
      have hO3 : nOk (nGift N i v) d pe pa la := hO.eq ((nEq.rf.up _ nSt2).gets _ (nStP (by omega) (by omega)))
      have hB3 : nB (nGift N i v) d pe := (hB.out hpe (by omega)).gets hi (isN_ofR c.2)
      have hS3 : nS (nGift N i v) pa := hS.eq ((nEq.rf.up _ nSt2).gets _ (nStP (by omega) (by omega)))
      rw [if_neg c2, if_neg c2, (nPl_c (LT := LT) (b := bF) hG hO3 hB3 hS3 n.toNatClampNeg (by omega)).at (by unfold nIn; omega), (nPl_c (LT := LT) (b := bF) hq hO hB hS n.toNatClampNeg (by omega)).at (by unfold nIn; omega)]
      exact cg_i
  · rw [if_neg (fun h => c ⟨(okP_c hq).mp h.1, h.2⟩), if_neg c]
    exact cg_i
theorem nNb_c {g f : Nat → Int32} : ∀ m k, (∀ i, k ≤ i → i < k + m → sE (g i) (f i)) → nNb g k m = nNb f k m
  | 0, k, _ => rfl
  | m + 1, k, h => by
    have e : ((0 : Int64) ≤ (g k).toInt64 ∧ (g k).toInt64 ≤ 1) ↔ ((0 : Int64) ≤ (f k).toInt64 ∧ (f k).toInt64 ≤ 1) := by
      rw [← bit_x, ← bit_x, (h k (by omega) (by omega)).1, (h k (by omega) (by omega)).2]
    rw [nNb, nNb, nNb_c m (k + 1) (fun i h1 h2 => h i (by omega) (by omega))]
    by_cases c : ((0 : Int64) ≤ (g k).toInt64 ∧ (g k).toInt64 ≤ 1)
    · rw [if_pos c, if_pos (e.mp c)]
    · rw [if_neg c, if_neg (fun z => c (e.mpr z))]
theorem nPl_bc {b b2 : Nat → Bool} : ∀ k, (∀ i, i < k → b i = b2 i) → nPl LT d pe pa la b N k = nPl LT d pe pa la b2 N k
  | 0, _ => rfl
  | k + 1, h => by rw [nPl, nPl, nPl_bc k (fun i hi => h i (by omega)), h k (by omega)]
theorem cg_proves (hq : nQ True d pe pa la K N) (hO : nOk N d pe pa la) (hB : nB N d pe) (hS : nS N pa) {wd v s : Int32} {n : Nat} {g f : Nat → Int32} (hgf : ∀ i, i < n → sE (g i) (f i)) : cg K N (sProves LT K d pe pa la wd n g v s) (sProves LT N d pe pa la wd n f v s) := by
  unfold sProves
  rw [nNb_c n 0 (fun i _ h => hgf i (by omega)), nPl_bc (b := bS g) (b2 := bS f) n (fun i hi => by unfold bS; rw [decide_eq_decide]; exact (hgf i hi).2)]
  by_cases c : okW v 9999 ∧ okW s 3
  · rw [if_pos c, if_pos c]
    by_cases c1 : wd = 0
    · rw [if_pos c1, if_pos c1]; exact cg_i
    · rw [if_neg c1, if_neg c1]
      by_cases c2 : 300 < d + n
      · rw [if_pos c2, if_pos c2]; exact cg_i
      · rw [if_neg c2, if_neg c2]
        split
        · exact cg_i
        · rw [nSum_c (nPl_c (LT := LT) (b := bS f) hq hO hB hS n (by omega)) (f := 5) (by omega) pe (Nat.le_refl _), nSum_c hq (f := 5) (by omega) pe (Nat.le_refl _)]
          split <;> exact cg_i
  · rw [if_neg c, if_neg c]; exact cg_i
theorem cg_choices (hq : nQ True d pe pa la K N) (hO : nOk N d pe pa la) (hB : nB N d pe) (hS : nS N pa) {n w : Int32} {s1 s2 : sA} (h1 : cRel LT K d pe pa la n w s1) (h2 : cRel LT N d pe pa la n w s2) : cg K N s1 s2 := by
  unfold cRel at h1 h2
  by_cases c : okW w 2
  · rw [if_pos c] at h1 h2
    by_cases c2 : (nA d n 8).2 = true
    · rw [if_pos c2] at h1 h2
      rw [h1, h2]; exact cg_i
    · rw [if_neg c2] at h1 h2
      obtain ⟨b1, hb1, e1⟩ := h1
      obtain ⟨b2, hb2, e2⟩ := h2
      have hn := nA_c (by omega) hO.1.2 c2
      have eH : ∀ z, hK LT d pe pa la n.toNatClampNeg K z = hK LT d pe pa la n.toNatClampNeg N z := fun z => by
        unfold hK
        rw [nSum_c (nPl_c (LT := LT) (b := bt z) hq hO hB hS n.toNatClampNeg (by omega)) (f := 5) (by omega) pe (Nat.le_refl _), nSum_c hq (f := 5) (by omega) pe (Nat.le_refl _)]
      have eP : ∀ z, pK LT d pe pa la n.toNatClampNeg K z = pK LT d pe pa la n.toNatClampNeg N z := fun z => by
        unfold pK
        exact (nPl_c (LT := LT) (b := bt z) hq hO hB hS n.toNatClampNeg (by omega)).at (by unfold nIn; omega)
      obtain rfl := (hb1.fun (fun z _ => ⟨eH z, eP z⟩)).uniq hb2
      rw [e1, e2, eH, eP]; exact cg_i
  · rw [if_neg c] at h1 h2
    rw [h1, h2]; exact cg_i
end CG
