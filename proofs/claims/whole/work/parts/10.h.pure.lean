/-- the same state with codes ahead -/
def pfx (P : List Nat) (q : pS) : pS := (q.1, q.2.1, P ++ q.2.2)
def pPf (g : pS → pS) : Prop := ∀ P q, g (pfx P q) = pfx P (g q)
section PFX
variable {T : Nat → Nat} {n : Nat}
theorem pNx_p : pPf (pNx T n) := fun P q => by
  by_cases h : q.1 = true
  · rw [pNx_t h, pNx_t (show (pfx P q).1 = true from h)]
  · rw [pNx_f (bf h), pNx_f (show (pfx P q).1 = false from bf h)]; rfl
theorem pEm_p {c : Nat} : pPf (pEm c) := fun P q => by
  by_cases h : q.1 = true
  · rw [pEm_t h, pEm_t (show (pfx P q).1 = true from h)]
  · rw [pEm_f (bf h), pEm_f (show (pfx P q).1 = false from bf h)]
    show (false, q.2.1, P ++ q.2.2 ++ [c]) = (false, q.2.1, P ++ (q.2.2 ++ [c]))
    rw [List.append_assoc]
theorem pBad_p : pPf pBad := fun P q => rfl
theorem pExp_p {t : Nat × Nat} : pPf (pExp T n t) := fun P q => by
  unfold pExp
  by_cases h : q.1 = true
  · rw [if_pos h, if_pos (show (pfx P q).1 = true from h)]
  · rw [if_neg h, if_neg (show ¬ (pfx P q).1 = true from h)]
    by_cases c : tk T n q.2.1 = t
    · rw [if_pos c, if_pos (show tk T n (pfx P q).2.1 = t from c)]; exact pNx_p P q
    · rw [if_neg c, if_neg (show ¬ tk T n (pfx P q).2.1 = t from c)]; rfl
theorem pLp_p {ops : Nat × Nat → Option Nat} {sub : pS → pS} (hs : pPf sub) : ∀ f, pPf (pLp T n ops sub f)
  | 0 => fun P q => rfl
  | f + 1 => fun P q => by
    rw [pLp, pLp]
    by_cases h : q.1 = true
    · rw [if_pos h, if_pos (show (pfx P q).1 = true from h)]
    · rw [if_neg h, if_neg (show ¬ (pfx P q).1 = true from h), show (pfx P q).2.1 = q.2.1 from rfl]
      cases ops (tk T n q.2.1) with
      | none => rfl
      | some c =>
        show pLp T n ops sub f (pEm c (sub (pNx T n (pfx P q)))) = pfx P (pLp T n ops sub f (pEm c (sub (pNx T n q))))
        rw [pNx_p, hs, pEm_p, pLp_p hs f]
theorem pVal_p {e : Option (pS → pS)} (he : ∀ g, e = some g → pPf g) : pPf (pVal T n e) := fun P q => by
  unfold pVal
  by_cases h : q.1 = true
  · rw [if_pos h, if_pos (show (pfx P q).1 = true from h)]
  rw [if_neg h, if_neg (show ¬ (pfx P q).1 = true from h), show (pfx P q).2.1 = q.2.1 from rfl]
  by_cases c1 : tk T n q.2.1 = (3, 0)
  · rw [if_pos c1, if_pos c1]
    cases e with
    | none => rfl
    | some g =>
      show pExp T n (3, 1) (g (pNx T n (pfx P q))) = pfx P (pExp T n (3, 1) (g (pNx T n q)))
      rw [pNx_p, he g rfl, pExp_p]
  rw [if_neg c1, if_neg c1]
  by_cases c2 : (tk T n q.2.1).1 = 2
  · rw [if_pos c2, if_pos c2, pEm_p, pNx_p]
  rw [if_neg c2, if_neg c2]
  by_cases c3 : (tk T n q.2.1).1 = 1 ∧ (tk T n q.2.1).2 < 7
  · rw [if_pos c3, if_pos c3, pEm_p, pNx_p]
  rw [if_neg c3, if_neg c3]; rfl
theorem pOne_p {e : Option (pS → pS)} (he : ∀ g, e = some g → pPf g) : pPf (pOne T n e) := fun P q => by
  unfold pOne; rw [pVal_p he, pLp_p (pVal_p he)]
theorem pSum_p {e : Option (pS → pS)} (he : ∀ g, e = some g → pPf g) : pPf (pSum T n e) := fun P q => by
  unfold pSum; rw [pOne_p he, pLp_p (pOne_p he)]
theorem pCmp_p {e : Option (pS → pS)} (he : ∀ g, e = some g → pPf g) : pPf (pCmp T n e) := fun P q => by
  unfold pCmp
  by_cases h : q.1 = true
  · rw [if_pos h, if_pos (show (pfx P q).1 = true from h)]
  rw [if_neg h, if_neg (show ¬ (pfx P q).1 = true from h), show (pfx P q).2.1 = q.2.1 from rfl]
  cases oCmp (tk T n q.2.1) with
  | none => rfl
  | some c =>
    show pEm c (pSum T n e (pNx T n (pfx P q))) = pfx P (pEm c (pSum T n e (pNx T n q)))
    rw [pNx_p, pSum_p he, pEm_p]
theorem pNot_p {e m : Option (pS → pS)} (he : ∀ g, e = some g → pPf g) (hm : ∀ g, m = some g → pPf g) : pPf (pNot T n e m) := fun P q => by
  unfold pNot
  by_cases h : q.1 = true
  · rw [if_pos h, if_pos (show (pfx P q).1 = true from h)]
  rw [if_neg h, if_neg (show ¬ (pfx P q).1 = true from h), show (pfx P q).2.1 = q.2.1 from rfl]
  by_cases c1 : tk T n q.2.1 = (1, 12)
  · rw [if_pos c1, if_pos c1]
    cases m with
    | none => rfl
    | some g =>
      show pEm 2000008 (g (pNx T n (pfx P q))) = pfx P (pEm 2000008 (g (pNx T n q)))
      rw [pNx_p, hm g rfl, pEm_p]
  · rw [if_neg c1, if_neg c1, pSum_p he, pCmp_p he]
theorem pAnd_p {e m : Option (pS → pS)} (he : ∀ g, e = some g → pPf g) (hm : ∀ g, m = some g → pPf g) : pPf (pAnd T n e m) := fun P q => by
  unfold pAnd; rw [pNot_p he hm, pLp_p (pNot_p he hm)]
theorem pOr_p {e m : Option (pS → pS)} (he : ∀ g, e = some g → pPf g) (hm : ∀ g, m = some g → pPf g) : pPf (pOr T n e m) := fun P q => by
  unfold pOr; rw [pAnd_p he hm, pLp_p (pAnd_p he hm)]
theorem lvE_p : ∀ m, (∀ g, (lvE T n m).1 = some g → pPf g) ∧ (∀ g, (lvE T n m).2 = some g → pPf g)
  | 0 => ⟨fun g h => (by cases h), fun g h => (by cases h)⟩
  | m + 1 => by
    obtain ⟨h1, h2⟩ := lvE_p m
    exact ⟨fun g h => (by cases h; exact pOr_p h1 h2), fun g h => (by cases h; exact pNot_p h1 h2)⟩
theorem pCl_p {s : Nat} : pPf (pCl T n s) := fun P q => by
  unfold pCl
  rw [pExp_p, pOr_p (lvE_p 4).1 (lvE_p 4).2, pExp_p]
/-- a state without codes -/
def p0 (q : pS) : pS := (q.1, q.2.1, [])
theorem pfx_0 (q : pS) : pfx q.2.2 (p0 q) = q := by
  obtain ⟨a, b, c⟩ := q
  simp [pfx, p0]
theorem pCl_0 {s : Nat} (q : pS) : pCl T n s q = pfx q.2.2 (pCl T n s (p0 q)) := by
  have h := pCl_p (T := T) (n := n) (s := s) q.2.2 (p0 q)
  rwa [pfx_0] at h
/-- what a clause codes -/
theorem pCl_w {s : Nat} {q : pS} (hT : ∀ i, T i < 256) (hq : q.2.1 ≤ n) (h0 : q.2.2 = []) (h : (pCl T n s q).1 = false) : wfT (pCl T n s q).2.2 0 ∧ (pCl T n s q).2.2.length + q.2.1 + 2 ≤ (pCl T n s q).2.1 ∧ q.1 = false := by
  have hqf : q.1 = false := bf (fun g => by rw [pCl_bad hT hq g, g] at h; cases h)
  have hI : pI n [] q := ⟨hq, fun _ => by rw [h0]; exact Nat.zero_le _⟩
  unfold pCl at h ⊢
  have e1 : (pExp T n (1, s) q).2.2 = [] ∧ ((pExp T n (1, s) q).1 = false → q.2.1 + 1 ≤ (pExp T n (1, s) q).2.1) ∧ (pExp T n (1, s) q).2.1 ≤ n := by
    unfold pExp
    rw [if_neg (by rw [hqf]; decide)]
    by_cases c : tk T n q.2.1 = (1, s)
    · rw [if_pos c, pNx_f hqf]
      exact ⟨h0, fun _ => tk_in (T := T) (n := n) (by rw [c]; exact Nat.one_ne_zero) hq, (tt_n hq).1⟩
    · rw [if_neg c]
      exact ⟨h0, fun h => (by cases h), hq⟩
  generalize pExp T n (1, s) q = q1 at e1 h ⊢
  obtain ⟨g1, g2, g3, g4⟩ := top_G hT q1 e1.2.2
  generalize pOr T n (lvE T n 4).1 (lvE T n 4).2 q1 = q2 at g1 g2 g3 g4 h ⊢
  have hq2 : q2.1 = false := bf (fun g => by rw [pExp_bad g, g] at h; cases h)
  obtain ⟨k1, k2, A, k3, k4, k5⟩ := g4 hq2
  unfold pExp at h ⊢
  rw [if_neg (by rw [hq2]; decide)] at h ⊢
  by_cases c : tk T n q2.2.1 = (3, 2)
  · rw [if_pos c, pNx_f hq2] at h ⊢
    have h9 := tk_in (T := T) (n := n) (x := q2.2.1) (by rw [c]; decide) g2
    have h8 := e1.2.1 k1
    rw [e1.1, List.nil_append] at k3
    refine ⟨?_, ?_, hqf⟩
    · show wfT q2.2.2 0
      rw [k3]
      have := k5 0 [] (by omega) (show wfT [] 1 from rfl)
      rwa [List.append_nil] at this
    · show q2.2.2.length + q.2.1 + 2 ≤ tt T n q2.2.1
      rw [k3]; omega
  · rw [if_neg c] at h; cases h
end PFX
