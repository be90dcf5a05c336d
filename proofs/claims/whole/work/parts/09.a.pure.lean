/-! the tape's tokens, in the class's numbering -/
def sgs : List Nat := [40, 41, 59, 43, 45, 42, 47, 60, 61]
def wsl : List (List Nat) := [[115, 117, 109], [97, 103, 101], [112, 114, 105, 99, 101], [102, 105, 114, 115, 116], [108, 97, 116, 101], [119, 101, 101, 107], [107, 105, 110, 100], [100, 101, 98, 116], [114, 101, 110, 116], [119, 97, 103, 101], [97, 110, 100], [111, 114], [110, 111, 116]]
def wps : List Nat := [0, 4, 8, 14, 20, 25, 30, 35, 40, 45, 50, 54, 57]
def isLt (c : Nat) : Bool := decide (97 ≤ c ∧ c ≤ 122)
def isDg (c : Nat) : Bool := decide (48 ≤ c ∧ c ≤ 57)
def sk (T : Nat → Nat) : Nat → Nat → Nat
  | 0, x => x
  | f + 1, x => if T x = 32 then sk T f (x + 1) else x
def rn (p : Nat → Bool) (T : Nat → Nat) : Nat → Nat → Nat
  | 0, x => x
  | f + 1, x => if p (T x) = true then rn p T f (x + 1) else x
def fr (T : Nat → Nat) (n x : Nat) : Nat := sk T (n - x) x
def tt (T : Nat → Nat) (n x : Nat) : Nat := if fr T n x = n then n else if isLt (T (fr T n x)) = true then rn isLt T (n - fr T n x) (fr T n x) else if isDg (T (fr T n x)) = true then rn isDg T (n - fr T n x) (fr T n x) else fr T n x + 1
def seg (T : Nat → Nat) (y m : Nat) : List Nat := (List.range m).map (fun i => T (y + i))
def wF (T : Nat → Nat) (y m : Nat) : Nat → Nat → Option Nat
  | _, 0 => none
  | k, f + 1 => if seg T y m = wsl.getD k [] then some k else wF T y m (k + 1) f
def sF (c : Nat) : Nat → Nat → Option Nat
  | _, 0 => none
  | k, f + 1 => if sgs.getD k 0 = c then some k else sF c (k + 1) f
def nm (T : Nat → Nat) (y : Nat) : Nat → Nat
  | 0 => 0
  | m + 1 => 10 * nm T y m + (T (y + m) - 48)
/-- a token: its sort 0 end, 1 word, 2 number, 3 sign, 4 wrong, and its number -/
def tk (T : Nat → Nat) (n x : Nat) : Nat × Nat := if fr T n x = n then (0, 0) else if isLt (T (fr T n x)) = true then (match wF T (fr T n x) (tt T n x - fr T n x) 0 13 with
    | some s => (1, s)
    | none => (4, 0)) else if isDg (T (fr T n x)) = true then (if 6 < tt T n x - fr T n x then (4, 0) else (2, nm T (fr T n x) (tt T n x - fr T n x))) else (match sF (T (fr T n x)) 0 9 with
    | some s => (3, s)
    | none => (4, 0))
theorem sk_ge (T : Nat → Nat) : ∀ f x, x ≤ sk T f x ∧ sk T f x ≤ x + f
  | 0, x => ⟨Nat.le_refl _, Nat.le_refl _⟩
  | f + 1, x => by
    rw [sk]
    split
    · have := sk_ge T f (x + 1); omega
    · omega
theorem rn_ge (p : Nat → Bool) (T : Nat → Nat) : ∀ f x, x ≤ rn p T f x ∧ rn p T f x ≤ x + f
  | 0, x => ⟨Nat.le_refl _, Nat.le_refl _⟩
  | f + 1, x => by
    rw [rn]
    split
    · have := rn_ge p T f (x + 1); omega
    · omega
theorem rn_all (p : Nat → Bool) (T : Nat → Nat) : ∀ f x i, x ≤ i → i < rn p T f x → p (T i) = true
  | 0, x, i, h1, h2 => absurd h2 (by rw [rn]; omega)
  | f + 1, x, i, h1, h2 => by
    rw [rn] at h2
    split at h2
    · rename_i hp
      by_cases e : i = x
      · subst e; exact hp
      · exact rn_all p T f (x + 1) i (by omega) h2
    · omega
section TOK
variable {T : Nat → Nat} {n x : Nat}
theorem fr_le (hx : x ≤ n) : x ≤ fr T n x ∧ fr T n x ≤ n := by
  have := sk_ge T (n - x) x
  unfold fr
  omega
theorem tt_le (hx : x ≤ n) : fr T n x ≤ tt T n x ∧ tt T n x ≤ n ∧ (¬ fr T n x = n → fr T n x < tt T n x) := by
  have h := fr_le (T := T) hx
  unfold tt
  by_cases c0 : fr T n x = n
  · rw [if_pos c0]; omega
  · rw [if_neg c0]
    have key : ∀ p : Nat → Bool, p (T (fr T n x)) = true → fr T n x < rn p T (n - fr T n x) (fr T n x) := fun p hp => by
      obtain ⟨f, hf⟩ : ∃ f, n - fr T n x = f + 1 := ⟨n - fr T n x - 1, by omega⟩
      rw [hf, rn, if_pos hp]
      have := rn_ge p T f (fr T n x + 1)
      omega
    have g1 := rn_ge isLt T (n - fr T n x) (fr T n x)
    have g2 := rn_ge isDg T (n - fr T n x) (fr T n x)
    by_cases c1 : isLt (T (fr T n x)) = true
    · rw [if_pos c1]; have := key _ c1; omega
    · rw [if_neg c1]
      by_cases c2 : isDg (T (fr T n x)) = true
      · rw [if_pos c2]; have := key _ c2; omega
      · rw [if_neg c2]; omega
theorem tk_end : tk T n x = (0, 0) ↔ fr T n x = n := by
  unfold tk
  by_cases c0 : fr T n x = n
  · rw [if_pos c0]; simp [c0]
  · rw [if_neg c0]
    refine ⟨fun h => ?_, fun h => absurd h c0⟩
    exfalso
    split at h
    · split at h <;> cases h
    · split at h
      · split at h <;> cases h
      · split at h <;> cases h
/-- no token at the end -/
theorem tk_in (h : ¬ (tk T n x).1 = 0) (hx : x ≤ n) : x < tt T n x := by
  have h1 : ¬ fr T n x = n := fun e => h (by rw [tk_end.mpr e])
  have := (tt_le (T := T) hx).2.2 h1
  have := fr_le (T := T) hx
  omega
theorem wF_lt : ∀ f k s, wF T n x k f = some s → k ≤ s ∧ s < k + f
  | 0, k, s, h => by rw [wF] at h; cases h
  | f + 1, k, s, h => by
    rw [wF] at h
    split at h
    · cases h; omega
    · have := wF_lt f (k + 1) s h; omega
theorem sF_lt {c : Nat} : ∀ f k s, sF c k f = some s → k ≤ s ∧ s < k + f
  | 0, k, s, h => by rw [sF] at h; cases h
  | f + 1, k, s, h => by
    rw [sF] at h
    split at h
    · cases h; omega
    · have := sF_lt f (k + 1) s h; omega
theorem nm_lt (hT : ∀ i, T i < 256) (y : Nat) : ∀ m, (∀ i, i < m → isDg (T (y + i)) = true) → nm T y m < 10 ^ m
  | 0, _ => by rw [nm]; decide
  | m + 1, h => by
    have g := nm_lt hT y m (fun i hi => h i (by omega))
    have d := of_decide_eq_true (h m (by omega))
    rw [nm, Nat.pow_succ]
    omega
theorem tk_sort : (tk T n x).1 ≤ 4 ∧ ((tk T n x).1 = 1 → (tk T n x).2 < 13) ∧ ((tk T n x).1 = 3 → (tk T n x).2 < 9) := by
  unfold tk
  split
  · simp
  split
  · split
    · rename_i s hs
      have := wF_lt _ _ _ hs
      simp; omega
    · simp
  split
  · split <;> simp
  · split
    · rename_i s hs
      have := sF_lt _ _ _ hs
      simp; omega
    · simp
theorem tk_num (hT : ∀ i, T i < 256) (h : (tk T n x).1 = 2) : (tk T n x).2 < 1000000 ∧ (tk T n x).2 = nm T (fr T n x) (tt T n x - fr T n x) ∧ tt T n x - fr T n x ≤ 6 := by
  unfold tk at h ⊢
  by_cases c0 : fr T n x = n
  · rw [if_pos c0] at h; exact absurd h (by decide)
  rw [if_neg c0] at h ⊢
  by_cases c1 : isLt (T (fr T n x)) = true
  · rw [if_pos c1] at h
    split at h <;> exact absurd h (by simp)
  rw [if_neg c1] at h ⊢
  by_cases c2 : isDg (T (fr T n x)) = true
  · rw [if_pos c2] at h ⊢
    by_cases c3 : 6 < tt T n x - fr T n x
    · rw [if_pos c3] at h; exact absurd h (by decide)
    · rw [if_neg c3]
      refine ⟨?_, rfl, by omega⟩
      have e : tt T n x = rn isDg T (n - fr T n x) (fr T n x) := by
        unfold tt
        rw [if_neg c0, if_neg c1, if_pos c2]
      have g := nm_lt hT (fr T n x) (tt T n x - fr T n x) (fun i hi => rn_all isDg T (n - fr T n x) (fr T n x) _ (by omega) (by rw [← e]; omega))
      have g2 : 10 ^ (tt T n x - fr T n x) ≤ 10 ^ 6 := Nat.pow_le_pow_right (by omega) (by omega)
      show nm T _ _ < 1000000
      omega
  · rw [if_neg c2] at h
    split at h <;> exact absurd h (by simp)
end TOK
/-- a state of the parser: whether it failed, where the token's scan began, the codes of this clause -/
abbrev pS : Type := Bool × Nat × List Nat
section PARSE
variable (T : Nat → Nat) (n : Nat)
def pNx (q : pS) : pS := if q.1 = true then q else (false, tt T n q.2.1, q.2.2)
def pEm (c : Nat) (q : pS) : pS := if q.1 = true then q else (false, q.2.1, q.2.2 ++ [c])
def pBad (q : pS) : pS := (true, q.2.1, q.2.2)
def pExp (t : Nat × Nat) (q : pS) : pS := if q.1 = true then q else if tk T n q.2.1 = t then pNx T n q else pBad q
def oMul (t : Nat × Nat) : Option Nat := if t = (3, 5) then some 2000006 else if t = (3, 6) then some 2000007 else none
def oAdd (t : Nat × Nat) : Option Nat := if t = (3, 3) then some 2000004 else if t = (3, 4) then some 2000005 else none
def oCmp (t : Nat × Nat) : Option Nat := if t = (3, 7) then some 2000002 else if t = (3, 8) then some 2000003 else none
def oAnd (t : Nat × Nat) : Option Nat := if t = (1, 10) then some 2000001 else none
def oOr (t : Nat × Nat) : Option Nat := if t = (1, 11) then some 2000000 else none
def pLp (ops : Nat × Nat → Option Nat) (sub : pS → pS) : Nat → pS → pS
  | 0, q => q
  | f + 1, q => if q.1 = true then q else match ops (tk T n q.2.1) with
    | none => q
    | some c => pLp ops sub f (pEm c (sub (pNx T n q)))
def pVal (e : Option (pS → pS)) (q : pS) : pS := if q.1 = true then q else if tk T n q.2.1 = (3, 0) then (match e with
    | none => pBad q
    | some g => pExp T n (3, 1) (g (pNx T n q))) else if (tk T n q.2.1).1 = 2 then pNx T n (pEm (tk T n q.2.1).2 q) else if (tk T n q.2.1).1 = 1 ∧ (tk T n q.2.1).2 < 7 then pNx T n (pEm (1000000 + wps.getD (tk T n q.2.1).2 0) q) else pBad q
def pOne (e : Option (pS → pS)) (q : pS) : pS := pLp T n oMul (pVal T n e) 160 (pVal T n e q)
def pSum (e : Option (pS → pS)) (q : pS) : pS := pLp T n oAdd (pOne T n e) 160 (pOne T n e q)
def pCmp (e : Option (pS → pS)) (q : pS) : pS := if q.1 = true then q else match oCmp (tk T n q.2.1) with
    | none => q
    | some c => pEm c (pSum T n e (pNx T n q))
def pNot (e m : Option (pS → pS)) (q : pS) : pS := if q.1 = true then q else if tk T n q.2.1 = (1, 12) then (match m with
    | none => pBad q
    | some g => pEm 2000008 (g (pNx T n q))) else pCmp T n e (pSum T n e q)
def pAnd (e m : Option (pS → pS)) (q : pS) : pS := pLp T n oAnd (pNot T n e m) 160 (pNot T n e m q)
def pOr (e m : Option (pS → pS)) (q : pS) : pS := pLp T n oOr (pAnd T n e m) 160 (pAnd T n e m q)
/-- the levels, from the innermost -/
def lvE : Nat → Option (pS → pS) × Option (pS → pS)
  | 0 => (none, none)
  | m + 1 => (some (pOr T n (lvE m).1 (lvE m).2), some (pNot T n (lvE m).1 (lvE m).2))
def pCl (k : Nat) (q : pS) : pS := pExp T n (3, 2) (pOr T n (lvE T n 4).1 (lvE T n 4).2 (pExp T n (1, k) q))
end PARSE
/-- codes that leave one number more -/
def wfA (A : List Nat) (k : Nat) : Prop := ∀ d R, d + k ≤ 30 → wfT R (d + 1) → wfT (A ++ R) d
theorem wfA.mono {A : List Nat} {k k' : Nat} (h : wfA A k) (hk : k ≤ k') : wfA A k' := fun d R hd hR => h d R (by omega) hR
theorem wfA_one {c : Nat} (h : tokOk c) (hc : c < 2000000) : wfA [c] 1 := fun d R hd hR => ⟨h, Or.inl ⟨hc, by omega, hR⟩⟩
theorem wfA_not {A : List Nat} {k : Nat} (h : wfA A k) : wfA (A ++ [2000008]) k := fun d R hd hR => by
  rw [List.append_assoc]
  exact h d _ hd ⟨Or.inr (Or.inr (by omega)), Or.inr (Or.inl ⟨rfl, by omega, hR⟩)⟩
/-- codes that go on behind one number -/
def wfB (A : List Nat) (k : Nat) : Prop := ∀ d R, d + k ≤ 30 → wfT R (d + 1) → wfT (A ++ R) (d + 1)
theorem wfB_nil {k : Nat} : wfB [] k := fun _ _ _ hR => hR
theorem wfB_op {A B : List Nat} {k c : Nat} (h : wfA A k) (hc : 2000000 ≤ c ∧ c < 2000008) (g : wfB B (k + 1)) : wfB (A ++ [c] ++ B) (k + 1) := fun d R hd hR => by
  rw [List.append_assoc, List.append_assoc]
  exact h (d + 1) _ (by omega) ⟨Or.inr (Or.inr (by omega)), Or.inr (Or.inr ⟨hc.1, hc.2, by omega, g d R hd hR⟩)⟩
theorem wfA_B {A B : List Nat} {k : Nat} (h : wfA A k) (g : wfB B (k + 1)) : wfA (A ++ B) (k + 1) := fun d R hd hR => by
  rw [List.append_assoc]
  exact h d _ (by omega) (g d R (by omega) hR)
/-- what a part of the parser does -/
def pG (n k : Nat) (g : pS → pS) : Prop := ∀ q : pS, q.2.1 ≤ n → (q.1 = true → g q = q) ∧ (g q).2.1 ≤ n ∧ q.2.1 ≤ (g q).2.1 ∧ ((g q).1 = false → q.1 = false ∧ q.2.1 < (g q).2.1 ∧ ∃ A, (g q).2.2 = q.2.2 ++ A ∧ A.length + q.2.1 ≤ (g q).2.1 ∧ wfA A k)
theorem bf {b : Bool} (h : ¬ b = true) : b = false := by cases b <;> simp_all
section PG
variable {T : Nat → Nat} {n : Nat}
theorem pNx_f {q : pS} (h : q.1 = false) : pNx T n q = (false, tt T n q.2.1, q.2.2) := if_neg (by rw [h]; decide)
theorem pEm_f {q : pS} {c : Nat} (h : q.1 = false) : pEm c q = (false, q.2.1, q.2.2 ++ [c]) := if_neg (by rw [h]; decide)
theorem pEm_t {q : pS} {c : Nat} (h : q.1 = true) : pEm c q = q := if_pos h
theorem pNx_t {q : pS} (h : q.1 = true) : pNx T n q = q := if_pos h
theorem tt_n {x : Nat} (hx : x ≤ n) : tt T n x ≤ n ∧ x ≤ tt T n x := by
  have h1 := tt_le (T := T) hx
  have h2 := fr_le (T := T) hx
  omega
theorem pLp_bad {ops : Nat × Nat → Option Nat} {sub : pS → pS} {q : pS} (h : q.1 = true) : ∀ f, pLp T n ops sub f q = q
  | 0 => rfl
  | f + 1 => if_pos h
theorem pLp_G {k : Nat} {ops : Nat × Nat → Option Nat} {sub : pS → pS} (hs : pG n k sub) (ho : ∀ t c, ops t = some c → (2000000 ≤ c ∧ c < 2000008) ∧ ¬ t.1 = 0) : ∀ f q, q.2.1 ≤ n → (pLp T n ops sub f q).2.1 ≤ n ∧ q.2.1 ≤ (pLp T n ops sub f q).2.1 ∧ ((pLp T n ops sub f q).1 = false → q.1 = false ∧ ∃ A, (pLp T n ops sub f q).2.2 = q.2.2 ++ A ∧ A.length + q.2.1 ≤ (pLp T n ops sub f q).2.1 ∧ wfB A (k + 1))
  | 0, q, hq => ⟨hq, Nat.le_refl _, fun h => ⟨h, [], (List.append_nil _).symm, by simp [pLp], wfB_nil⟩⟩
  | f + 1, q, hq => by
    rw [pLp]
    by_cases hb : q.1 = true
    · rw [if_pos hb]
      exact ⟨hq, Nat.le_refl _, fun h => by rw [h] at hb; cases hb⟩
    · rw [if_neg hb]
      cases ho2 : ops (tk T n q.2.1) with
      | none => exact ⟨hq, Nat.le_refl _, fun h => ⟨h, [], (List.append_nil _).symm, by simp, wfB_nil⟩⟩
      | some c =>
        dsimp only
        have hc := ho _ _ ho2
        have h1 := tk_in hc.2 hq
        have h2 := tt_n (T := T) hq
        have hs1 := hs (pNx T n q) (by rw [pNx_f (bf hb)]; exact h2.1)
        rw [pNx_f (bf hb)] at hs1 ⊢
        obtain ⟨s1, s2, s3, s4⟩ := hs1
        have e21 : (pEm c (sub (false, tt T n q.2.1, q.2.2))).2.1 = (sub (false, tt T n q.2.1, q.2.2)).2.1 := by
          unfold pEm; split <;> rfl
        have r := pLp_G hs ho f (pEm c (sub (false, tt T n q.2.1, q.2.2))) (by rw [e21]; exact s2)
        obtain ⟨r1, r2, r3⟩ := r
        have s3' : tt T n q.2.1 ≤ (sub (false, tt T n q.2.1, q.2.2)).2.1 := s3
        refine ⟨r1, by rw [e21] at r2; omega, fun h => ?_⟩
        obtain ⟨r4, B, r5, r6, r7⟩ := r3 h
        have hsf : (sub (false, tt T n q.2.1, q.2.2)).1 = false := by
          refine bf (fun e => ?_)
          rw [pEm_t e, e] at r4
          cases r4
        obtain ⟨-, s5, A, s6, s7, s8⟩ := s4 hsf
        have s7' : A.length + tt T n q.2.1 ≤ (sub (false, tt T n q.2.1, q.2.2)).2.1 := s7
        rw [pEm_f hsf] at r5 r6
        refine ⟨bf hb, A ++ [c] ++ B, ?_, ?_, wfB_op s8 hc.1 r7⟩
        · rw [pEm_f hsf, r5]
          show (sub (false, tt T n q.2.1, q.2.2)).2.2 ++ [c] ++ B = _
          rw [s6]
          show q.2.2 ++ A ++ [c] ++ B = _
          simp [List.append_assoc]
        · have r6' : B.length + (sub (false, tt T n q.2.1, q.2.2)).2.1 ≤ _ := r6
          simp only [List.length_append, List.length_cons, List.length_nil]
          rw [pEm_f hsf]
          omega
theorem pTwo_G {k : Nat} {ops : Nat × Nat → Option Nat} {sub : pS → pS} (hs : pG n k sub) (ho : ∀ t c, ops t = some c → (2000000 ≤ c ∧ c < 2000008) ∧ ¬ t.1 = 0) (f : Nat) : pG n (k + 1) (fun q => pLp T n ops sub f (sub q)) := fun q hq => by
  obtain ⟨s1, s2, s3, s4⟩ := hs q hq
  obtain ⟨r1, r2, r3⟩ := pLp_G (T := T) hs ho f (sub q) s2
  refine ⟨fun h => ?_, r1, Nat.le_trans s3 r2, fun h => ?_⟩
  · show pLp T n ops sub f (sub q) = q
    rw [s1 h]; exact pLp_bad h f
  · obtain ⟨r4, B, r5, r6, r7⟩ := r3 h
    obtain ⟨s5, s6, A, s7, s8, s9⟩ := s4 r4
    refine ⟨s5, Nat.lt_of_lt_of_le s6 r2, A ++ B, ?_, ?_, wfA_B s9 r7⟩
    · show (pLp T n ops sub f (sub q)).2.2 = _
      rw [r5, s7, List.append_assoc]
    · show (A ++ B).length + q.2.1 ≤ (pLp T n ops sub f (sub q)).2.1
      rw [List.length_append]; omega
theorem oMul_o : ∀ t c, oMul t = some c → (2000000 ≤ c ∧ c < 2000008) ∧ ¬ t.1 = 0 := fun t c h => by
  unfold oMul at h
  split at h
  · rename_i e; cases h; rw [e]; decide
  · split at h
    · rename_i e; cases h; rw [e]; decide
    · cases h
theorem oAdd_o : ∀ t c, oAdd t = some c → (2000000 ≤ c ∧ c < 2000008) ∧ ¬ t.1 = 0 := fun t c h => by
  unfold oAdd at h
  split at h
  · rename_i e; cases h; rw [e]; decide
  · split at h
    · rename_i e; cases h; rw [e]; decide
    · cases h
theorem oCmp_o : ∀ t c, oCmp t = some c → (2000000 ≤ c ∧ c < 2000008) ∧ ¬ t.1 = 0 := fun t c h => by
  unfold oCmp at h
  split at h
  · rename_i e; cases h; rw [e]; decide
  · split at h
    · rename_i e; cases h; rw [e]; decide
    · cases h
theorem oAnd_o : ∀ t c, oAnd t = some c → (2000000 ≤ c ∧ c < 2000008) ∧ ¬ t.1 = 0 := fun t c h => by
  unfold oAnd at h
  split at h
  · rename_i e; cases h; rw [e]; decide
  · cases h
theorem oOr_o : ∀ t c, oOr t = some c → (2000000 ≤ c ∧ c < 2000008) ∧ ¬ t.1 = 0 := fun t c h => by
  unfold oOr at h
  split at h
  · rename_i e; cases h; rw [e]; decide
  · cases h
theorem pBad_t (q : pS) : (pBad q).1 = true := rfl
theorem wps_ok : ∀ s, s < 7 → tokOk (1000000 + wps.getD s 0) ∧ 1000000 + wps.getD s 0 < 2000000 := fun s h => by
  rcases (show s = 0 ∨ s = 1 ∨ s = 2 ∨ s = 3 ∨ s = 4 ∨ s = 5 ∨ s = 6 by omega) with e | e | e | e | e | e | e <;> subst e <;> exact ⟨by unfold tokOk; simp [wps], by decide⟩
theorem pVal_G (hT : ∀ i, T i < 256) {k : Nat} {e : Option (pS → pS)} (he : ∀ g, e = some g → pG n k g) (hk : 1 ≤ k) : pG n k (pVal T n e) := fun q hq => by
  have h2 := tt_n (T := T) hq
  unfold pVal
  by_cases hb : q.1 = true
  · rw [if_pos hb]
    exact ⟨fun _ => rfl, hq, Nat.le_refl _, fun h => by rw [h] at hb; cases hb⟩
  rw [if_neg hb]
  have hbad : ∀ {P : Prop}, (pBad q).1 = false → P := fun h => by cases h
  by_cases c1 : tk T n q.2.1 = (3, 0)
  · rw [if_pos c1]
    cases e with
    | none => exact ⟨fun h => absurd h hb, hq, Nat.le_refl _, fun h => hbad h⟩
    | some g =>
      have h1 := tk_in (T := T) (n := n) (by rw [c1]; decide) hq
      have hg := he g rfl (pNx T n q) (by rw [pNx_f (bf hb)]; exact h2.1)
      rw [pNx_f (bf hb)] at hg
      show _ ∧ (pExp T n (3, 1) (g (pNx T n q))).2.1 ≤ n ∧ q.2.1 ≤ (pExp T n (3, 1) (g (pNx T n q))).2.1 ∧ ((pExp T n (3, 1) (g (pNx T n q))).1 = false → _ ∧ _ < (pExp T n (3, 1) (g (pNx T n q))).2.1 ∧ ∃ A, (pExp T n (3, 1) (g (pNx T n q))).2.2 = _ ∧ _ ≤ (pExp T n (3, 1) (g (pNx T n q))).2.1 ∧ _)
      rw [pNx_f (bf hb)]
      generalize g (false, tt T n q.2.1, q.2.2) = s at hg ⊢
      obtain ⟨-, g2, g3, g4⟩ := hg
      have g3' : tt T n q.2.1 ≤ s.2.1 := g3
      have t3 := tt_n (T := T) g2
      unfold pExp
      by_cases hs : s.1 = true
      · rw [if_pos hs]
        exact ⟨fun h => absurd h hb, g2, by omega, fun h => by rw [h] at hs; cases hs⟩
      · rw [if_neg hs]
        by_cases c2 : tk T n s.2.1 = (3, 1)
        · rw [if_pos c2, pNx_f (bf hs)]
          refine ⟨fun h => absurd h hb, t3.1, (show q.2.1 ≤ tt T n s.2.1 by omega), fun _ => ?_⟩
          obtain ⟨-, -, A, g5, g6, g7⟩ := g4 (bf hs)
          have g6' : A.length + tt T n q.2.1 ≤ s.2.1 := g6
          exact ⟨bf hb, (show q.2.1 < tt T n s.2.1 by omega), A, g5, (show A.length + q.2.1 ≤ tt T n s.2.1 by omega), g7⟩
        · rw [if_neg c2]
          exact ⟨fun h => absurd h hb, g2, (show q.2.1 ≤ s.2.1 by omega), fun h => by cases h⟩
  rw [if_neg c1]
  by_cases c2 : (tk T n q.2.1).1 = 2
  · rw [if_pos c2, pEm_f (bf hb), pNx_f rfl]
    have h1 := tk_in (T := T) (n := n) (by rw [c2]; decide) hq
    have hn := tk_num hT c2
    exact ⟨fun h => absurd h hb, h2.1, h2.2, fun _ => ⟨bf hb, h1, [(tk T n q.2.1).2], rfl, (show 1 + q.2.1 ≤ tt T n q.2.1 by omega), (wfA_one (Or.inl hn.1) (by omega)).mono hk⟩⟩
  rw [if_neg c2]
  by_cases c3 : (tk T n q.2.1).1 = 1 ∧ (tk T n q.2.1).2 < 7
  · rw [if_pos c3, pEm_f (bf hb), pNx_f rfl]
    have h1 := tk_in (T := T) (n := n) (by rw [c3.1]; decide) hq
    have hw := wps_ok _ c3.2
    exact ⟨fun h => absurd h hb, h2.1, h2.2, fun _ => ⟨bf hb, h1, _, rfl, (show 1 + q.2.1 ≤ tt T n q.2.1 by omega), (wfA_one hw.1 hw.2).mono hk⟩⟩
  rw [if_neg c3]
  exact ⟨fun h => absurd h hb, hq, Nat.le_refl _, fun h => hbad h⟩
theorem pOne_G (hT : ∀ i, T i < 256) {k : Nat} {e : Option (pS → pS)} (he : ∀ g, e = some g → pG n k g) (hk : 1 ≤ k) : pG n (k + 1) (pOne T n e) := pTwo_G (pVal_G hT he hk) oMul_o 160
theorem pSum_G (hT : ∀ i, T i < 256) {k : Nat} {e : Option (pS → pS)} (he : ∀ g, e = some g → pG n k g) (hk : 1 ≤ k) : pG n (k + 2) (pSum T n e) := pTwo_G (pOne_G hT he hk) oAdd_o 160
theorem pNot_G (hT : ∀ i, T i < 256) {k : Nat} {e m : Option (pS → pS)} (he : ∀ g, e = some g → pG n k g) (hm : ∀ g, m = some g → pG n (k + 3) g) (hk : 1 ≤ k) : pG n (k + 3) (pNot T n e m) := fun q hq => by
  have h2 := tt_n (T := T) hq
  unfold pNot
  by_cases hb : q.1 = true
  · rw [if_pos hb]
    exact ⟨fun _ => rfl, hq, Nat.le_refl _, fun h => by rw [h] at hb; cases hb⟩
  rw [if_neg hb]
  by_cases c1 : tk T n q.2.1 = (1, 12)
  · rw [if_pos c1]
    cases m with
    | none => exact ⟨fun h => absurd h hb, hq, Nat.le_refl _, fun h => by cases h⟩
    | some g =>
      have h1 := tk_in (T := T) (n := n) (by rw [c1]; decide) hq
      have hg := hm g rfl (pNx T n q) (by rw [pNx_f (bf hb)]; exact h2.1)
      show _ ∧ (pEm 2000008 (g (pNx T n q))).2.1 ≤ n ∧ q.2.1 ≤ (pEm 2000008 (g (pNx T n q))).2.1 ∧ ((pEm 2000008 (g (pNx T n q))).1 = false → _ ∧ _ < (pEm 2000008 (g (pNx T n q))).2.1 ∧ ∃ A, (pEm 2000008 (g (pNx T n q))).2.2 = _ ∧ _ ≤ (pEm 2000008 (g (pNx T n q))).2.1 ∧ _)
      rw [pNx_f (bf hb)] at hg ⊢
      generalize g (false, tt T n q.2.1, q.2.2) = s at hg ⊢
      obtain ⟨-, g2, g3, g4⟩ := hg
      have g3' : tt T n q.2.1 ≤ s.2.1 := g3
      by_cases hs : s.1 = true
      · rw [pEm_t hs]
        exact ⟨fun h => absurd h hb, g2, by omega, fun h => by rw [h] at hs; cases hs⟩
      · rw [pEm_f (bf hs)]
        obtain ⟨-, g8, A, g5, g6, g7⟩ := g4 (bf hs)
        have g8' : tt T n q.2.1 < s.2.1 := g8
        have g6' : A.length + tt T n q.2.1 ≤ s.2.1 := g6
        refine ⟨fun h => absurd h hb, g2, (show q.2.1 ≤ s.2.1 by omega), fun _ => ⟨bf hb, (show q.2.1 < s.2.1 by omega), A ++ [2000008], ?_, ?_, wfA_not g7⟩⟩
        · show s.2.2 ++ [2000008] = _
          rw [g5]
          show q.2.2 ++ A ++ [2000008] = _
          rw [List.append_assoc]
        · show (A ++ [2000008]).length + q.2.1 ≤ s.2.1
          rw [List.length_append]
          simp only [List.length_cons, List.length_nil]
          omega
  rw [if_neg c1]
  have hs := pSum_G hT he hk q hq
  generalize hsd : pSum T n e q = s at hs ⊢
  obtain ⟨-, s2, s3, s4⟩ := hs
  unfold pCmp
  by_cases hsb : s.1 = true
  · rw [if_pos hsb]
    exact ⟨fun h => absurd h hb, s2, s3, fun h => by rw [h] at hsb; cases hsb⟩
  rw [if_neg hsb]
  obtain ⟨-, s5, A, s6, s7, s8⟩ := s4 (bf hsb)
  cases hop : oCmp (tk T n s.2.1) with
  | none => exact ⟨fun h => absurd h hb, s2, s3, fun _ => ⟨bf hb, s5, A, s6, s7, s8.mono (by omega)⟩⟩
  | some c =>
    have hc := oCmp_o _ _ hop
    have t1 := tk_in (T := T) (n := n) hc.2 s2
    have t2 := tt_n (T := T) s2
    have hr := pSum_G hT he hk (pNx T n s) (by rw [pNx_f (bf hsb)]; exact t2.1)
    show _ ∧ (pEm c (pSum T n e (pNx T n s))).2.1 ≤ n ∧ q.2.1 ≤ (pEm c (pSum T n e (pNx T n s))).2.1 ∧ ((pEm c (pSum T n e (pNx T n s))).1 = false → _ ∧ _ < (pEm c (pSum T n e (pNx T n s))).2.1 ∧ ∃ A, (pEm c (pSum T n e (pNx T n s))).2.2 = _ ∧ _ ≤ (pEm c (pSum T n e (pNx T n s))).2.1 ∧ _)
    rw [pNx_f (bf hsb)] at hr ⊢
    generalize pSum T n e (false, tt T n s.2.1, s.2.2) = r at hr ⊢
    obtain ⟨-, r2, r3, r4⟩ := hr
    have r3' : tt T n s.2.1 ≤ r.2.1 := r3
    by_cases hrb : r.1 = true
    · rw [pEm_t hrb]
      exact ⟨fun h => absurd h hb, r2, by omega, fun h => by rw [h] at hrb; cases hrb⟩
    · rw [pEm_f (bf hrb)]
      obtain ⟨-, r5, B, r6, r7, r8⟩ := r4 (bf hrb)
      have r7' : B.length + tt T n s.2.1 ≤ r.2.1 := r7
      refine ⟨fun h => absurd h hb, r2, (show q.2.1 ≤ r.2.1 by omega), fun _ => ⟨bf hb, (show q.2.1 < r.2.1 by omega), A ++ (B ++ [c]), ?_, ?_, ?_⟩⟩
      · show r.2.2 ++ [c] = _
        rw [r6]
        show s.2.2 ++ B ++ [c] = _
        rw [s6]
        simp [List.append_assoc]
      · show (A ++ (B ++ [c])).length + q.2.1 ≤ r.2.1
        simp only [List.length_append, List.length_cons, List.length_nil]
        omega
      · have := wfB_op (B := []) r8 hc.1 wfB_nil
        rw [List.append_nil] at this
        exact wfA_B s8 this
theorem pAnd_G (hT : ∀ i, T i < 256) {k : Nat} {e m : Option (pS → pS)} (he : ∀ g, e = some g → pG n k g) (hm : ∀ g, m = some g → pG n (k + 3) g) (hk : 1 ≤ k) : pG n (k + 4) (pAnd T n e m) := pTwo_G (pNot_G hT he hm hk) oAnd_o 160
theorem pOr_G (hT : ∀ i, T i < 256) {k : Nat} {e m : Option (pS → pS)} (he : ∀ g, e = some g → pG n k g) (hm : ∀ g, m = some g → pG n (k + 3) g) (hk : 1 ≤ k) : pG n (k + 5) (pOr T n e m) := pTwo_G (pAnd_G hT he hm hk) oOr_o 160
theorem pG.mono {k k' : Nat} {g : pS → pS} (h : pG n k g) (hk : k ≤ k') : pG n k' g := fun q hq => by
  obtain ⟨h1, h2, h3, h4⟩ := h q hq
  exact ⟨h1, h2, h3, fun hf => by
    obtain ⟨a, b, A, c, d, e⟩ := h4 hf
    exact ⟨a, b, A, c, d, e.mono hk⟩⟩
theorem lvE_G (hT : ∀ i, T i < 256) : ∀ m, (∀ g, (lvE T n m).1 = some g → pG n (5 * m + 1) g) ∧ (∀ g, (lvE T n m).2 = some g → pG n (5 * m + 4) g)
  | 0 => ⟨fun g h => (by cases h), fun g h => (by cases h)⟩
  | m + 1 => by
    obtain ⟨h1, h2⟩ := lvE_G hT m
    refine ⟨fun g h => ?_, fun g h => ?_⟩
    · cases h
      exact (pOr_G hT h1 h2 (by omega)).mono (by omega)
    · cases h
      exact (pNot_G hT h1 h2 (by omega)).mono (by omega)
theorem top_G (hT : ∀ i, T i < 256) : pG n 26 (pOr T n (lvE T n 4).1 (lvE T n 4).2) := pOr_G hT (lvE_G hT 4).1 (lvE_G hT 4).2 (by omega)
/-- the loops' ends -/
theorem pLp_end {k : Nat} {ops : Nat × Nat → Option Nat} {sub : pS → pS} (hs : pG n k sub) (ho : ∀ t c, ops t = some c → (2000000 ≤ c ∧ c < 2000008) ∧ ¬ t.1 = 0) : ∀ f q, q.2.1 ≤ n → n + 1 ≤ q.2.1 + f → (pLp T n ops sub f q).1 = false → ops (tk T n (pLp T n ops sub f q).2.1) = none
  | 0, q, hq, hf, _ => by omega
  | f + 1, q, hq, hf, h => by
    rw [pLp] at h ⊢
    by_cases hb : q.1 = true
    · rw [if_pos hb] at h; rw [h] at hb; cases hb
    · rw [if_neg hb] at h ⊢
      cases ho2 : ops (tk T n q.2.1) with
      | none => exact ho2
      | some c =>
        rw [ho2] at h
        have h1 := tk_in (T := T) (n := n) (ho _ _ ho2).2 hq
        have h2 := tt_n (T := T) hq
        have hs1 := hs (pNx T n q) (by rw [pNx_f (bf hb)]; exact h2.1)
        have e21 : (pEm c (sub (pNx T n q))).2.1 = (sub (pNx T n q)).2.1 := by
          unfold pEm; split <;> rfl
        have s3 := hs1.2.2.1
        rw [pNx_f (bf hb)] at s3
        have s3' : tt T n q.2.1 ≤ (sub (false, tt T n q.2.1, q.2.2)).2.1 := s3
        rw [← pNx_f (T := T) (n := n) (bf hb)] at s3'
        exact pLp_end hs ho f _ (by rw [e21]; exact hs1.2.1) (by rw [e21]; omega) h
end PG
