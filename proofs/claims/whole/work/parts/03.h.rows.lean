/-- a row of longs as a whole -/
def jw (M : jM) (a : Nat) (g : Nat → Int64) : jM := (M.1, jrow M.2.1 a g, M.2.2)
theorem jw_jw (M : jM) (a : Nat) (g g' : Nat → Int64) : jw (jw M a g) a g' = jw M a g' := by
  simp only [jw, Prod.mk.injEq, true_and, and_true]
  funext b
  by_cases h : b = a <;> simp [jrow, h]
theorem jw_self (M : jM) (a : Nat) : jw M a (M.2.1 a) = M := by
  obtain ⟨I, L, P⟩ := M
  simp only [jw, Prod.mk.injEq, true_and, and_true]
  funext b
  by_cases h : b = a <;> simp [jrow, h]
theorem jw_at (M : jM) (a : Nat) (g : Nat → Int64) : (jw M a g).2.1 a = g := by simp [jw, jrow]
theorem jw_ne (M : jM) {a b : Nat} (g : Nat → Int64) (h : b ≠ a) : (jw M a g).2.1 b = M.2.1 b := by simp [jw, jrow, h]
theorem jsL_w (M : jM) (a k : Nat) (g : Nat → Int64) (v : Int64) : jsL (jw M a g) a k v = jw M a (va_up g k v) := by
  simp only [jsL, jw, Prod.mk.injEq, true_and, and_true]
  funext b j
  by_cases h : b = a
  · subst h; simp [jup, jrow, va_up]
  · simp [jup, jrow, h]
section JW
variable {G : jG} {X : jX} {y : MethodName} {cc : ByteArray} {nL cells slots sz pc q : Nat} {R : Room} {Sh : jS} {M : jM} {lv lv' : List (Nat × Value)} {st : List Value}
theorem j_laldW {a k n : Nat} {g : Nat → Int64} (C : jOk G X y cc nL R) (hd : decode cc pc = .ok (.laload, 1)) (hn : pc + 1 = q) (hs : Sh a = (14, n)) (hk : k < n) (h31 : n < 2 ^ 31) (kk : jJ G X cells slots sz Sh (jw M a g) q lv (.long (g k) :: st)) : jJ G X cells slots sz Sh (jw M a g) pc lv (.int (nI k) :: .ref a :: st) := j_lald C hd hn hs hk h31 (by rw [jw_at]; exact kk)
theorem j_lastW {a k n : Nat} {g : Nat → Int64} {x : Int64} (C : jOk G X y cc nL R) (hd : decode cc pc = .ok (.lastore, 1)) (hn : pc + 1 = q) (hs : Sh a = (14, n)) (hk : k < n) (h31 : n < 2 ^ 31) (kk : jJ G X cells slots sz Sh (jw M a (va_up g k x)) q lv st) : jJ G X cells slots sz Sh (jw M a g) pc lv (.long x :: .int (nI k) :: .ref a :: st) := j_last C hd hn hs hk h31 (by rw [jsL_w]; exact kk)
end JW
/-! numbers -/
theorem jw_t {v lo hi : Int64} (h1 : ¬ v < lo) (h2 : ¬ hi < v) : some (Value.int (nI 1)) = some (.int (jb (lo ≤ v ∧ v ≤ hi))) := by rw [jb_t ⟨Int64.not_lt.mp h1, Int64.not_lt.mp h2⟩]
theorem jw_f1 {v lo hi : Int64} (h1 : v < lo) : some (Value.int (nI 0)) = some (.int (jb (lo ≤ v ∧ v ≤ hi))) := by rw [jb_f (fun h => absurd h1 (Int64.not_lt.mpr h.1))]
theorem jw_f2 {v lo hi : Int64} (h2 : hi < v) : some (Value.int (nI 0)) = some (.int (jb (lo ≤ v ∧ v ≤ hi))) := by rw [jb_f (fun h => absurd h2 (Int64.not_lt.mpr h.2))]
theorem lN_toI {n : Nat} (h : n < 2 ^ 63) : (lN n).toInt = (n : Int) := pk_lT h
theorem i32_l (x : Int32) : x.toInt64.toInt = x.toInt := by simp
/-- an int that lies from 0 to below n -/
theorem jix {x : Int32} {n : Nat} (hn : n < 2 ^ 31) (h1 : (0 : Int64) ≤ x.toInt64) (h2 : x.toInt64 ≤ lN n - 1) : ∃ i, i < n ∧ x = nI i := by
  have e1 : (0 : Int) ≤ x.toInt := by
    have := Int64.le_iff_toInt_le.mp h1
    rw [i32_l] at this
    simpa using this
  have hneg : ¬ x < 0 := by
    rw [Int32.lt_iff_toInt_lt]
    simp
    exact e1
  obtain ⟨j, hj, rfl⟩ := nI_of hneg
  refine ⟨j, ?_, rfl⟩
  rw [nI_l hj] at h2
  by_cases hn0 : n = 0
  · subst hn0
    have := Int64.le_iff_toInt_le.mp h2
    rw [lN_toI (by omega), show lN 0 - 1 = -1 by decide] at this
    simp at this
    omega
  · rw [show (1 : Int64) = lN 1 by decide, lN_sub (by omega)] at h2
    rw [pk_lLE (by omega) (by omega)] at h2
    omega
theorem jix' {i n : Nat} (hn : n < 2 ^ 31) (hi : i < n) : (0 : Int64) ≤ (nI i).toInt64 ∧ (nI i).toInt64 ≤ lN n - 1 := by
  rw [nI_l (by omega), show (0 : Int64) = lN 0 by decide, show (1 : Int64) = lN 1 by decide, lN_sub (by omega)]
  exact ⟨(pk_lLE (by omega) (by omega)).mpr (by omega), (pk_lLE (by omega) (by omega)).mpr (by omega)⟩
/-- an int that lies from 0 to n -/
theorem jix2 {x : Int32} {n : Nat} (hn : n < 2 ^ 31) (h1 : (0 : Int64) ≤ x.toInt64) (h2 : x.toInt64 ≤ lN n) : ∃ i, i ≤ n ∧ x = nI i := by
  have e1 : (0 : Int) ≤ x.toInt := by
    have := Int64.le_iff_toInt_le.mp h1
    rw [i32_l] at this
    simpa using this
  have hneg : ¬ x < 0 := by
    rw [Int32.lt_iff_toInt_lt]
    simp
    exact e1
  obtain ⟨j, hj, rfl⟩ := nI_of hneg
  refine ⟨j, ?_, rfl⟩
  rw [nI_l hj, pk_lLE (by omega) (by omega)] at h2
  exact h2

theorem jR_t {c : Prop} [Decidable c] {r r1 r2 : Option Value} {M M1 M2 : jM} {sz : Nat} {Sh : jS} (h : c) (e : r = r1) (e2 : M = M1) : jR (if c then r1 else r2) sz Sh (if c then M1 else M2) r sz Sh M := ⟨by rw [if_pos h]; exact e, rfl, rfl, by rw [if_pos h]; exact e2⟩
theorem jR_f {c : Prop} [Decidable c] {r r1 r2 : Option Value} {M M1 M2 : jM} {sz : Nat} {Sh : jS} (h : ¬ c) (e : r = r2) (e2 : M = M2) : jR (if c then r1 else r2) sz Sh (if c then M1 else M2) r sz Sh M := ⟨by rw [if_neg h]; exact e, rfl, rfl, by rw [if_neg h]; exact e2⟩
