theorem jsL_o (M : jM) {a b : Nat} (k : Nat) (g : Nat → Int64) (v : Int64) (h : b ≠ a) : jsL (jw M a g) b k v = jw (jsL M b k v) a g := by
  simp only [jsL, jw, Prod.mk.injEq, true_and, and_true]
  funext c j
  by_cases h1 : c = a
  · subst h1; simp [jup, jrow, Ne.symm h]
  · simp [jup, jrow, h1]
theorem jw_comm (M : jM) {a b : Nat} (g g' : Nat → Int64) (h : b ≠ a) : jw (jw M a g) b g' = jw (jw M b g') a g := by
  simp only [jw, Prod.mk.injEq, true_and, and_true]
  funext c
  by_cases h1 : c = a
  · subst h1; simp [jrow, Ne.symm h]
  · simp [jrow, h1]
theorem arrV_ext {cA : ClassId} {n : Nat} {f g : Nat → Value} (h : ∀ j, j < n → f j = g j) : arrV cA n f = arrV cA n g := by
  unfold arrV
  congr 1
  congr 1
  funext j
  exact h j.val j.isLt
theorem jP_ext {G : jG} {Sh : jS} {M : jM} {a n : Nat} {g g' : Nat → Int64} {H : Heap} (hs : Sh a = (14, n)) (he : ∀ j, j < n → g j = g' j) (h : jP G Sh (jw M a g) H) : jP G Sh (jw M a g') H := by
  intro b hb
  by_cases e : b = a
  · subst e
    have h1 := jarr h hs (by decide) (by decide)
    refine ⟨h1.1, jat_arr (by rw [hs]; exact (by decide : ¬ 14 < 12)) ?_⟩
    rw [hs]
    have h2 : H[b]? = some (vp_cell (gcy G 14) (n, .inr (.inl ((jw M b g).2.1 b)))) := h1.2
    show H[b]? = some (vp_cell (gcy G 14) (n, .inr (.inl ((jw M b g').2.1 b))))
    rw [h2, jw_at, jw_at, vp_cell_l, vp_cell_l, arrV_ext (fun j hj => by rw [he j hj])]
  · have h1 := h b hb
    exact ⟨h1.1, jat_kept h1.2 rfl rfl (by rw [jw_ne _ _ e, jw_ne _ _ e]) rfl⟩
section JWO
variable {G : jG} {X : jX} {y : MethodName} {cc : ByteArray} {nL cells slots sz pc q : Nat} {R : Room} {Sh : jS} {M : jM} {lv lv' : List (Nat × Value)} {st : List Value}
theorem j_laldO {a b k n : Nat} {g : Nat → Int64} (hne : b ≠ a) (C : jOk G X y cc nL R) (hd : decode cc pc = .ok (.laload, 1)) (hn : pc + 1 = q) (hs : Sh b = (14, n)) (hk : k < n) (h31 : n < 2 ^ 31) (kk : jJ G X cells slots sz Sh (jw M a g) q lv (.long (M.2.1 b k) :: st)) : jJ G X cells slots sz Sh (jw M a g) pc lv (.int (nI k) :: .ref b :: st) := j_lald C hd hn hs hk h31 (by rw [jw_ne _ _ hne]; exact kk)
theorem j_lastO {a b k n : Nat} {g : Nat → Int64} {x : Int64} (hne : b ≠ a) (C : jOk G X y cc nL R) (hd : decode cc pc = .ok (.lastore, 1)) (hn : pc + 1 = q) (hs : Sh b = (14, n)) (hk : k < n) (h31 : n < 2 ^ 31) (kk : jJ G X cells slots sz Sh (jw (jsL M b k x) a g) q lv st) : jJ G X cells slots sz Sh (jw M a g) pc lv (.long x :: .int (nI k) :: .ref b :: st) := j_last C hd hn hs hk h31 (by rw [jsL_o _ _ _ _ hne]; exact kk)
theorem j_ext {a n : Nat} {g g' : Nat → Int64} (hs : Sh a = (14, n)) (he : ∀ j, j < n → g j = g' j) (kk : jJ G X cells slots sz Sh (jw M a g') pc lv st) : jJ G X cells slots sz Sh (jw M a g) pc lv st := fun H locs ls hP hz hS hl => kk H locs ls (jP_ext hs he hP) hz hS hl
end JWO
