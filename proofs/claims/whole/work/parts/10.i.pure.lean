theorem p0_pfx (P : List Nat) (q : pS) : p0 (pfx P q) = p0 q := rfl
theorem p0_em (c : Nat) (q : pS) : p0 (pEm c q) = p0 q := by
  unfold pEm
  by_cases h : q.1 = true
  · rw [if_pos h]
  · rw [if_neg h]; unfold p0; rw [bf h]
section TX
variable (T : Nat → Nat) (n : Nat)
def xD1 : pS := pCl T n 7 (false, 0, [])
def xD2 : pS := pCl T n 8 (p0 (xD1 T n))
def xD3 : pS := pCl T n 9 (p0 (xD2 T n))
/-- the text that stands on the tape -/
def xT : sT := ((xD1 T n).2.2, (xD2 T n).2.2, (xD3 T n).2.2)
end TX
section TXR
variable {T : Nat → Nat} {n : Nat}
theorem x_a2 : pCl T n 8 (pCl T n 7 (false, 0, [])) = pfx (xD1 T n).2.2 (xD2 T n) := pCl_0 (xD1 T n)
theorem x_a3 : cA T n = pfx ((xD1 T n).2.2 ++ (xD2 T n).2.2) (xD3 T n) := by
  unfold cA
  rw [x_a2, pCl_0 (pfx _ _), p0_pfx]
  rfl
theorem x_top : pTop T n = pfx ((pEm 3000000 (xD1 T n)).2.2 ++ (pEm 3000000 (xD2 T n)).2.2) (pEm 3000000 (xD3 T n)) := by
  unfold pTop
  rw [show pCl T n 7 (false, 0, []) = xD1 T n from rfl, pCl_0 (pEm 3000000 (xD1 T n)), p0_em, show pCl T n 8 (p0 (xD1 T n)) = xD2 T n from rfl, pEm_p, pCl_0 (pfx _ _), p0_pfx, p0_em, show pCl T n 9 (p0 (xD2 T n)) = xD3 T n from rfl, pEm_p]
  rfl
theorem em_1 {c : Nat} {q : pS} : (pEm c q).1 = q.1 ∧ (pEm c q).2.1 = q.2.1 := by
  unfold pEm
  by_cases h : q.1 = true
  · rw [if_pos h]; exact ⟨rfl, rfl⟩
  · rw [if_neg h]; exact ⟨(bf h).symm, rfl⟩
theorem tk_0 {x : Nat} (hT : ∀ i, T i < 256) (h : (tk T n x).1 = 0) : tk T n x = (0, 0) := by
  rcases tk_val (n := n) (x := x) hT with ⟨k, hk, e⟩ | e
  · rw [e] at h; cases h
  · have : ∀ u, u ∈ tFL → u.1 = 0 → u = (0, 0) := by decide
    exact this _ e h
theorem x_end : cEnd T n = if (xD3 T n).1 = true then cA T n else if tk T n (xD3 T n).2.1 = (0, 0) then pNx T n (cA T n) else pBad (cA T n) := by
  have e : cEnd T n = if (cA T n).1 = true then cA T n else if tk T n (cA T n).2.1 = (0, 0) then pNx T n (cA T n) else pBad (cA T n) := rfl
  rw [show (cA T n).1 = (xD3 T n).1 by rw [x_a3]; rfl, show (cA T n).2.1 = (xD3 T n).2.1 by rw [x_a3]; rfl] at e
  exact e
/-- both read the same -/
theorem x_ok (hT : ∀ i, T i < 256) : (cEnd T n).1 = false ↔ pTopOk T n := by
  have e1 : (pTop T n).1 = (xD3 T n).1 := by rw [x_top]; exact em_1.1
  have e2 : (pTop T n).2.1 = (xD3 T n).2.1 := by rw [x_top]; exact em_1.2
  show _ ↔ (pTop T n).1 = false ∧ (tk T n (pTop T n).2.1).1 = 0
  rw [e1, e2, x_end]
  by_cases h : (xD3 T n).1 = true
  · rw [if_pos h]
    refine ⟨fun g => ?_, fun g => by rw [h] at g; cases g.1⟩
    rw [x_a3] at g
    exact absurd h (by rw [show (xD3 T n).1 = false from g]; decide)
  · rw [if_neg h]
    by_cases c : tk T n (xD3 T n).2.1 = (0, 0)
    · rw [if_pos c, pNx_f (show (cA T n).1 = false by rw [x_a3]; exact bf h)]
      exact ⟨fun _ => ⟨bf h, by rw [c]⟩, fun _ => rfl⟩
    · rw [if_neg c]
      exact ⟨fun g => (by cases g), fun g => absurd (tk_0 hT g.2) c⟩
theorem x_bad (h : (cEnd T n).1 = true) : (cEnd T n).2.1 = (pTop T n).2.1 := by
  have e2 : (pTop T n).2.1 = (xD3 T n).2.1 := by rw [x_top]; exact em_1.2
  have e3 : (cA T n).2.1 = (xD3 T n).2.1 := by rw [x_a3]; rfl
  rw [e2]
  rw [x_end] at h ⊢
  by_cases h1 : (xD3 T n).1 = true
  · rw [if_pos h1]; exact e3
  · rw [if_neg h1] at h ⊢
    by_cases c : tk T n (xD3 T n).2.1 = (0, 0)
    · rw [if_pos c, pNx_f (show (cA T n).1 = false by rw [x_a3]; exact bf h1)] at h; cases h
    · rw [if_neg c]; exact e3
theorem x_txt (hT : ∀ i, T i < 256) (hn : n ≤ 160) (h : (cEnd T n).1 = false) : (cEnd T n).2.2 = (xT T n).1 ++ ((xT T n).2.1 ++ (xT T n).2.2) ∧ (pCl T n 7 (false, 0, [])).2.2.length = (xT T n).1.length ∧ (pCl T n 8 (pCl T n 7 (false, 0, []))).2.2.length = (xT T n).1.length + (xT T n).2.1.length ∧ (pTop T n).2.2 = (xT T n).1 ++ 3000000 :: ((xT T n).2.1 ++ 3000000 :: ((xT T n).2.2 ++ 3000000 :: [])) ∧ wfT (xT T n).1 0 ∧ wfT (xT T n).2.1 0 ∧ wfT (xT T n).2.2 0 ∧ (xT T n).1.length + (xT T n).2.1.length + (xT T n).2.2.length + 6 ≤ 160 := by
  have h3 : (xD3 T n).1 = false := by
    have g := (x_ok hT).mp h
    rw [show pTopOk T n = ((pTop T n).1 = false ∧ (tk T n (pTop T n).2.1).1 = 0) from rfl] at g
    rw [← g.1, x_top]
    exact em_1.1.symm
  have b1 := (pI_cl2 (T := T) (n := n) (P := []) (s := 7) hT pI_00).2.2
  have b1' : (xD1 T n).2.1 ≤ n := b1.1
  have b2' : (xD2 T n).2.1 ≤ n := ((pI_cl2 (T := T) (n := n) (P := []) (s := 8) (q := p0 (xD1 T n)) hT ⟨b1', fun _ => Nat.zero_le _⟩).2.2).1
  have b3' : (xD3 T n).2.1 ≤ n := ((pI_cl2 (T := T) (n := n) (P := []) (s := 9) (q := p0 (xD2 T n)) hT ⟨b2', fun _ => Nat.zero_le _⟩).2.2).1
  obtain ⟨w3, l3, h2⟩ := pCl_w (s := 9) (q := p0 (xD2 T n)) hT b2' rfl h3
  have h2 : (xD2 T n).1 = false := h2
  obtain ⟨w2, l2, h1⟩ := pCl_w (s := 8) (q := p0 (xD1 T n)) hT b1' rfl h2
  have h1 : (xD1 T n).1 = false := h1
  obtain ⟨w1, l1, -⟩ := pCl_w (s := 7) (q := (false, 0, [])) hT (Nat.zero_le _) rfl h1
  have l1 : (xD1 T n).2.2.length + 0 + 2 ≤ (xD1 T n).2.1 := l1
  have l2 : (xD2 T n).2.2.length + (xD1 T n).2.1 + 2 ≤ (xD2 T n).2.1 := l2
  have l3 : (xD3 T n).2.2.length + (xD2 T n).2.1 + 2 ≤ (xD3 T n).2.1 := l3
  refine ⟨?_, rfl, ?_, ?_, w1, w2, w3, ?_⟩
  · have hA : (cA T n).2.2 = (xD1 T n).2.2 ++ (xD2 T n).2.2 ++ (xD3 T n).2.2 := by rw [x_a3]; rfl
    have hE : (cEnd T n).2.2 = (cA T n).2.2 := by
      rw [x_end, if_neg (by rw [h3]; decide)]
      split
      · rw [pNx_f (show (cA T n).1 = false by rw [x_a3]; exact h3)]
      · rfl
    rw [hE, hA, List.append_assoc]
    rfl
  · rw [x_a2]
    show ((xD1 T n).2.2 ++ (xD2 T n).2.2).length = _
    rw [List.length_append]; rfl
  · rw [x_top, pEm_f h1, pEm_f h2, pEm_f h3]
    show ((xD1 T n).2.2 ++ [3000000]) ++ ((xD2 T n).2.2 ++ [3000000]) ++ ((xD3 T n).2.2 ++ [3000000]) = _
    simp [xT, List.append_assoc]
  · show (xD1 T n).2.2.length + (xD2 T n).2.2.length + (xD3 T n).2.2.length + 6 ≤ 160
    omega
end TXR
