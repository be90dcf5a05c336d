/-- a row of ints as a whole -/
def jwI (M : jM) (a : Nat) (g : Nat → Int32) : jM := (jrow M.1 a g, M.2)
theorem jwI_at (M : jM) (a : Nat) (g : Nat → Int32) : (jwI M a g).1 a = g := by simp [jwI, jrow]
theorem jwI_ne (M : jM) {a b : Nat} (g : Nat → Int32) (h : b ≠ a) : (jwI M a g).1 b = M.1 b := by simp [jwI, jrow, h]
theorem nfw : nativeFrameWords "java/lang/System" "arraycopy" 5 ≤ 21 := by decide +kernel
section JMORE
variable {G : jG} {X : jX} {y : MethodName} {cc : ByteArray} {nL cells slots sz pc q : Nat} {R : Room} {Sh : jS} {M M1 : jM} {lv lv' : List (Nat × Value)} {st : List Value}
theorem j_copyL {index a0 a n0 n1 sp dp n : Nat} (C : jOk G X y cc nL R) (hd : decode cc pc = .ok (.invokestatic index, 3)) (hn : pc + 3 = q) (w1 : Cond.methodLink y.cls index arraycopyName ∈ jtb) (hs0 : Sh a0 = (14, n0)) (hs1 : Sh a = (14, n1)) (h4 : sp + n ≤ n0) (h5 : dp + n ≤ n1) (h31 : n0 < 2 ^ 31 ∧ n1 < 2 ^ 31) (hR : 1 ≤ R.frames ∧ 40 ≤ R.locals) (hr : (st.map fun v => v.category).sum ≤ 8) (kk : jJ G X cells slots sz Sh (jw M a (va_cpy (M.2.1 a0) (M.2.1 a) sp dp n)) q lv st) : jJ G X cells slots sz Sh M pc lv (.int (nI n) :: .int (nI dp) :: .ref a :: .int (nI sp) :: .ref a0 :: st) := by
  subst hn
  intro H locs ls hP hz hS hl
  have g0 := jarr hP hs0 (by decide) (by decide)
  have g1 := jarr hP hs1 (by decide) (by decide)
  have hc0 : H[a0]? = some (vp_cell (gcy G 14) (n0, .inr (.inl (M.2.1 a0)))) := g0.2
  have hc1 : H[a]? = some (vp_cell (gcy G 14) (n1, .inr (.inl (M.2.1 a)))) := g1.2
  have eR := C.2.2.2.2.2.2.2.2.2.2.2
  have hK := C.2.2.2.2.2.1
  have nn : ∀ {z : Nat}, z < 2 ^ 31 → (nI z).toInt = (z : Int) := fun h => nI_toInt h
  obtain ⟨-, k0, hk0, cm0, hkk0⟩ := (hK.2 2 _ rfl).1 n0 (fun j => .long (M.2.1 a0 j))
  obtain ⟨-, k1, hk1, cm1, hkk1⟩ := (hK.2 2 _ rfl).1 n1 (fun j => .long (M.2.1 a j))
  intro T hT XX
  obtain ⟨vm', X', step⟩ := XX.arraycopy C.1 C.2.2.2.1 (C.2.2.2.2.1 _ w1) (C.2.2.2.2.1 _ kw_nat) (C.2.2.2.2.1 _ kw_578) (C.2.2.2.2.1 _ kw_89) (src := a0) (dst := a) (cs := vp_cell (gcy G 14) (n0, .inr (.inl (M.2.1 a0)))) (cd := vp_cell (gcy G 14) (n1, .inr (.inl (M.2.1 a)))) (srcPos := nI sp) (destPos := nI dp) (n := nI n) (by rw [hT]; exact hc0) (by rw [hT]; exact hc1)
    (fun _ h => by cases h) (fun _ h => by cases h) (fun h => by cases h) (fun h => by cases h) hk0 hk1 hkk0 hkk1 (by simp [show refKind .long = false from rfl]) (nI_pos (by omega)) (nI_pos (by omega)) (nI_pos (by omega))
    (by rw [nn (by omega), nn (by omega)]; show ¬ _ > ((arrV (gcy G 14) n0 (fun j => .long (M.2.1 a0 j))).slots.size : Int); rw [arrV_size]; omega)
    (by rw [nn (by omega), nn (by omega)]; show ¬ _ > ((arrV (gcy G 14) n1 (fun j => .long (M.2.1 a j))).slots.size : Int); rw [arrV_size]; omega)
    (fun vm₁ _ i hi => by
      rw [nI_clamp (by omega)] at hi
      rw [nI_clamp (by omega)]
      have e : (vp_cell (gcy G 14) (n0, .inr (.inl (M.2.1 a0)))).slots.getD (sp + i) .null = .long (M.2.1 a0 (sp + i)) := by
        show (arrV (gcy G 14) n0 (fun j => .long (M.2.1 a0 j))).slots.getD _ _ = _
        rw [Array.getD_eq_getD_getElem?, arrV_read _ _ (by omega)]
        rfl
      refine ⟨?_, ?_⟩
      · rw [e]
        exact rfl
      · rw [e]
        exact trivial)
    (g := F0 (xm X) pc ls (.int (nI n) :: .int (nI dp) :: .ref a :: .int (nI sp) :: .ref a0 :: st)) rfl (by rw [C.2.2.1]; exact hl.1.trans C.2.2.2.2.2.2.2.2.2.1) (rest := st) rfl (by rw [C.2.1]; exact hd) (by rw [eR]; exact hR.1) (by rw [eR]; have h1 := nfw; have h2 := hR.2; show 2 * 0 + _ + _ ≤ _; omega)
  have e1 : copied (vp_cell (gcy G 14) (n0, .inr (.inl (M.2.1 a0)))) (vp_cell (gcy G 14) (n1, .inr (.inl (M.2.1 a)))) (nI sp) (nI dp) (nI n) = vp_cell (gcy G 14) (n1, .inr (.inl (va_cpy (M.2.1 a0) (M.2.1 a) sp dp n))) := by
    have h : copied (vp_cell (gcy G 14) (n0, .inr (.inl (M.2.1 a0)))) (vp_cell (gcy G 14) (n1, .inr (.inl (M.2.1 a)))) (nI sp) (nI dp) (nI n) = vp_cell (gcy G 14) (n1, .inr (.inl (va_cpy (M.2.1 a0) (M.2.1 a) (nI sp).toNatClampNeg (nI dp).toNatClampNeg (nI n).toNatClampNeg))) := va_copied (fun z => Value.long z) (gcy G 14) (gcy G 14) (M.2.1 a0) (M.2.1 a) (by rw [nI_clamp (by omega), nI_clamp (by omega)]; exact h4)
    rw [nI_clamp (show sp < 2 ^ 31 by omega), nI_clamp (show dp < 2 ^ 31 by omega), nI_clamp (show n < 2 ^ 31 by omega)] at h
    exact h
  rw [e1] at X' step
  have hl2 : a < H.size := (Array.getElem?_eq_some_iff.mp hc1).1
  have hheap : ((T.setVm vm').setCell a (vp_cell (gcy G 14) (n1, .inr (.inl (va_cpy (M.2.1 a0) (M.2.1 a) sp dp n))))).heap = H.setIfInBounds a (vp_cell (gcy G 14) (n1, .inr (.inl (va_cpy (M.2.1 a0) (M.2.1 a) sp dp n)))) := by rw [← hT]; rfl
  have oq : ∀ q : Nat, q ≠ a → (H.setIfInBounds a (vp_cell (gcy G 14) (n1, .inr (.inl (va_cpy (M.2.1 a0) (M.2.1 a) sp dp n)))))[q]? = H[q]? := fun q hq => by simp [Array.getElem?_setIfInBounds, Ne.symm hq]
  obtain ⟨t, a1, b1⟩ := kk _ _ ls (jP_put (M' := (jw M a (va_cpy (M.2.1 a0) (M.2.1 a) sp dp n))) hP oq (fun _ => jat_arr (by rw [hs1]; exact (by decide : ¬ 14 < 12)) (by
      rw [hs1]
      show (H.setIfInBounds a _)[a]? = some (vp_cell (gcy G 14) (n1, .inr (.inl ((jw M a (va_cpy (M.2.1 a0) (M.2.1 a) sp dp n)).2.1 a))))
      rw [jw_at]
      simp [Array.getElem?_setIfInBounds, hl2])) (fun b hb => rfl) (fun b hb => jw_ne _ _ hb) (fun b hb => rfl)) (by simp; exact hz) ⟨by simp; exact hS.1, fun q h1 h2 => by
      rw [oq q (fun e => h2 (by rw [e]; exact g1.1))]
      exact hS.2.1 q h1 h2, fun q hq => by
      rcases List.mem_append.mp hq with h | h
      · exact hS.2.2 q h
      · obtain ⟨z, -, hz⟩ := List.mem_map.mp h
        rw [← hz]
        exact g1.1⟩ hl _ hheap X'
  exact ⟨t, step t a1, b1⟩
theorem j_copyI {index a0 a n0 n1 sp dp n : Nat} (C : jOk G X y cc nL R) (hd : decode cc pc = .ok (.invokestatic index, 3)) (hn : pc + 3 = q) (w1 : Cond.methodLink y.cls index arraycopyName ∈ jtb) (hs0 : Sh a0 = (13, n0)) (hs1 : Sh a = (13, n1)) (h4 : sp + n ≤ n0) (h5 : dp + n ≤ n1) (h31 : n0 < 2 ^ 31 ∧ n1 < 2 ^ 31) (hR : 1 ≤ R.frames ∧ 40 ≤ R.locals) (hr : (st.map fun v => v.category).sum ≤ 8) (kk : jJ G X cells slots sz Sh (jwI M a (va_cpy (M.1 a0) (M.1 a) sp dp n)) q lv st) : jJ G X cells slots sz Sh M pc lv (.int (nI n) :: .int (nI dp) :: .ref a :: .int (nI sp) :: .ref a0 :: st) := by
  subst hn
  intro H locs ls hP hz hS hl
  have g0 := jarr hP hs0 (by decide) (by decide)
  have g1 := jarr hP hs1 (by decide) (by decide)
  have hc0 : H[a0]? = some (vp_cell (gcy G 13) (n0, .inl (M.1 a0))) := g0.2
  have hc1 : H[a]? = some (vp_cell (gcy G 13) (n1, .inl (M.1 a))) := g1.2
  have eR := C.2.2.2.2.2.2.2.2.2.2.2
  have hK := C.2.2.2.2.2.1
  have nn : ∀ {z : Nat}, z < 2 ^ 31 → (nI z).toInt = (z : Int) := fun h => nI_toInt h
  obtain ⟨-, k0, hk0, cm0, hkk0⟩ := (hK.2 1 _ rfl).1 n0 (fun j => .int (M.1 a0 j))
  obtain ⟨-, k1, hk1, cm1, hkk1⟩ := (hK.2 1 _ rfl).1 n1 (fun j => .int (M.1 a j))
  intro T hT XX
  obtain ⟨vm', X', step⟩ := XX.arraycopy C.1 C.2.2.2.1 (C.2.2.2.2.1 _ w1) (C.2.2.2.2.1 _ kw_nat) (C.2.2.2.2.1 _ kw_578) (C.2.2.2.2.1 _ kw_89) (src := a0) (dst := a) (cs := vp_cell (gcy G 13) (n0, .inl (M.1 a0))) (cd := vp_cell (gcy G 13) (n1, .inl (M.1 a))) (srcPos := nI sp) (destPos := nI dp) (n := nI n) (by rw [hT]; exact hc0) (by rw [hT]; exact hc1)
    (fun _ h => by cases h) (fun _ h => by cases h) (fun h => by cases h) (fun h => by cases h) hk0 hk1 hkk0 hkk1 (by simp [show refKind .int = false from rfl]) (nI_pos (by omega)) (nI_pos (by omega)) (nI_pos (by omega))
    (by rw [nn (by omega), nn (by omega)]; show ¬ _ > ((arrV (gcy G 13) n0 (fun j => .int (M.1 a0 j))).slots.size : Int); rw [arrV_size]; omega)
    (by rw [nn (by omega), nn (by omega)]; show ¬ _ > ((arrV (gcy G 13) n1 (fun j => .int (M.1 a j))).slots.size : Int); rw [arrV_size]; omega)
    (fun vm₁ _ i hi => by
      rw [nI_clamp (by omega)] at hi
      rw [nI_clamp (by omega)]
      have e : (vp_cell (gcy G 13) (n0, .inl (M.1 a0))).slots.getD (sp + i) .null = .int (M.1 a0 (sp + i)) := by
        show (arrV (gcy G 13) n0 (fun j => .int (M.1 a0 j))).slots.getD _ _ = _
        rw [Array.getD_eq_getD_getElem?, arrV_read _ _ (by omega)]
        rfl
      refine ⟨?_, ?_⟩
      · rw [e]
        exact rfl
      · rw [e]
        exact trivial)
    (g := F0 (xm X) pc ls (.int (nI n) :: .int (nI dp) :: .ref a :: .int (nI sp) :: .ref a0 :: st)) rfl (by rw [C.2.2.1]; exact hl.1.trans C.2.2.2.2.2.2.2.2.2.1) (rest := st) rfl (by rw [C.2.1]; exact hd) (by rw [eR]; exact hR.1) (by rw [eR]; have h1 := nfw; have h2 := hR.2; show 2 * 0 + _ + _ ≤ _; omega)
  have e1 : copied (vp_cell (gcy G 13) (n0, .inl (M.1 a0))) (vp_cell (gcy G 13) (n1, .inl (M.1 a))) (nI sp) (nI dp) (nI n) = vp_cell (gcy G 13) (n1, .inl (va_cpy (M.1 a0) (M.1 a) sp dp n)) := by
    have h : copied (vp_cell (gcy G 13) (n0, .inl (M.1 a0))) (vp_cell (gcy G 13) (n1, .inl (M.1 a))) (nI sp) (nI dp) (nI n) = vp_cell (gcy G 13) (n1, .inl (va_cpy (M.1 a0) (M.1 a) (nI sp).toNatClampNeg (nI dp).toNatClampNeg (nI n).toNatClampNeg)) := va_copied (fun z => Value.int z) (gcy G 13) (gcy G 13) (M.1 a0) (M.1 a) (by rw [nI_clamp (by omega), nI_clamp (by omega)]; exact h4)
    rw [nI_clamp (show sp < 2 ^ 31 by omega), nI_clamp (show dp < 2 ^ 31 by omega), nI_clamp (show n < 2 ^ 31 by omega)] at h
    exact h
  rw [e1] at X' step
  have hl2 : a < H.size := (Array.getElem?_eq_some_iff.mp hc1).1
  have hheap : ((T.setVm vm').setCell a (vp_cell (gcy G 13) (n1, .inl (va_cpy (M.1 a0) (M.1 a) sp dp n)))).heap = H.setIfInBounds a (vp_cell (gcy G 13) (n1, .inl (va_cpy (M.1 a0) (M.1 a) sp dp n))) := by rw [← hT]; rfl
  have oq : ∀ q : Nat, q ≠ a → (H.setIfInBounds a (vp_cell (gcy G 13) (n1, .inl (va_cpy (M.1 a0) (M.1 a) sp dp n))))[q]? = H[q]? := fun q hq => by simp [Array.getElem?_setIfInBounds, Ne.symm hq]
  obtain ⟨t, a1, b1⟩ := kk _ _ ls (jP_put (M' := (jwI M a (va_cpy (M.1 a0) (M.1 a) sp dp n))) hP oq (fun _ => jat_arr (by rw [hs1]; exact (by decide : ¬ 13 < 12)) (by
      rw [hs1]
      show (H.setIfInBounds a _)[a]? = some (vp_cell (gcy G 13) (n1, .inl ((jwI M a (va_cpy (M.1 a0) (M.1 a) sp dp n)).1 a)))
      rw [jwI_at]
      simp [Array.getElem?_setIfInBounds, hl2])) (fun b hb => jwI_ne _ _ hb) (fun b hb => rfl) (fun b hb => rfl)) (by simp; exact hz) ⟨by simp; exact hS.1, fun q h1 h2 => by
      rw [oq q (fun e => h2 (by rw [e]; exact g1.1))]
      exact hS.2.1 q h1 h2, fun q hq => by
      rcases List.mem_append.mp hq with h | h
      · exact hS.2.2 q h
      · obtain ⟨z, -, hz⟩ := List.mem_map.mp h
        rw [← hz]
        exact g1.1⟩ hl _ hheap X'
  exact ⟨t, step t a1, b1⟩
theorem j_strval {i index : Nat} (hi : i < 3) (C : jOk G X y cc nL R) (hd : decode cc pc = .ok (.getfield index, 3)) (hn : pc + 3 = q) (hw : Cond.fieldLink y.cls index "java/lang/String" "value" "[B" ∈ jtb) (kk : jJ G X cells slots sz Sh M q lv (.ref ((gZ G).2.1 i) :: st)) : jJ G X cells slots sz Sh M pc lv (.ref ((gZ G).1 i) :: st) := by
  subst hn
  exact fun H locs ls hP hz hS hl => vk_getf C.1 C.2.1 (C.2.2.2.2.2.2.2.2.1.1.1 i hi).2.2.1 hS C.2.2.2.1 (C.2.2.2.2.1 _ hw) (fun _ h => h) hd (kk H locs ls hP hz hS hl)
theorem j_strcod {i index : Nat} (hi : i < 3) (C : jOk G X y cc nL R) (hd : decode cc pc = .ok (.getfield index, 3)) (hn : pc + 3 = q) (hw : Cond.fieldLink y.cls index "java/lang/String" "coder" "B" ∈ jtb) (kk : jJ G X cells slots sz Sh M q lv (.int 0 :: st)) : jJ G X cells slots sz Sh M pc lv (.ref ((gZ G).1 i) :: st) := by
  subst hn
  exact fun H locs ls hP hz hS hl => vk_getf C.1 C.2.1 (C.2.2.2.2.2.2.2.2.1.1.1 i hi).2.1 hS C.2.2.2.1 (C.2.2.2.2.1 _ hw) (fun _ h => h) hd (kk H locs ls hP hz hS hl)
theorem j_strlen {i : Nat} (hi : i < 3) (C : jOk G X y cc nL R) (hd : decode cc pc = .ok (.arraylength, 1)) (hn : pc + 1 = q) (kk : jJ G X cells slots sz Sh M q lv (.int (nI (jlen.getD i 0)) :: st)) : jJ G X cells slots sz Sh M pc lv (.ref ((gZ G).2.1 i) :: st) := by
  subst hn
  exact fun H locs ls hP hz hS hl => va_tlen C.1 C.2.1 (C.2.2.2.2.2.2.2.2.1.1.1 i hi).2.2.2 hS rfl hd (kk H locs ls hP hz hS hl)
theorem j_strbyt {i k : Nat} (hi : i < 3) (hk : k < jlen.getD i 0) (h31 : k < 2 ^ 31) (h32 : jlen.getD i 0 < 2 ^ 31) (C : jOk G X y cc nL R) (hd : decode cc pc = .ok (.baload, 1)) (hn : pc + 1 = q) (kk : jJ G X cells slots sz Sh M q lv (.int ((jbyt.getD i []).getD k 0) :: st)) : jJ G X cells slots sz Sh M pc lv (.int (nI k) :: .ref ((gZ G).2.1 i) :: st) := by
  subst hn
  exact fun H locs ls hP hz hS hl => va_tb C.1 C.2.1 (C.2.2.2.2.2.2.2.2.1.1.1 i hi).2.2.2 hS (vp_in_nI hk h32) (by rw [nI_clamp h31]) hd (kk H locs ls hP hz hS hl)
theorem j_compact {index : Nat} (C : jOk G X y cc nL R) (hd : decode cc pc = .ok (.getstatic index, 3)) (hn : pc + 3 = q) (hw : Cond.fieldLink y.cls index "java/lang/String" "COMPACT_STRINGS" "Z" ∈ jtb) (kk : jJ G X cells slots sz Sh M q lv (.int 1 :: st)) : jJ G X cells slots sz Sh M pc lv st := by
  subst hn
  exact fun H locs ls hP hz hS hl => va_gets C.1 C.2.1 C.2.2.2.2.2.2.2.2.1.2.2.1 hS C.2.2.2.1 (C.2.2.2.2.1 _ hw) (fun _ h => h) hd (kk H locs ls hP hz hS hl)
theorem j_sioobe {index : Nat} (C : jOk G X y cc nL R) (hd : decode cc pc = .ok (.getstatic index, 3)) (hn : pc + 3 = q) (hw : Cond.fieldLink y.cls index "jdk/internal/util/Preconditions" "SIOOBE_FORMATTER" "Ljava/util/function/BiFunction;" ∈ jtb) (kk : ∀ v : Value, (v = .null ∨ ∃ t, v = .ref t) → jJ G X cells slots sz Sh M q lv (v :: st)) : jJ G X cells slots sz Sh M pc lv st := by
  subst hn
  intro H locs ls hP hz hS hl
  rcases C.2.2.2.2.2.2.2.2.1.2.2.2.2.2.2.2.2.2.2.2.2 with h | ⟨t, h⟩
  · exact va_gets C.1 C.2.1 h hS C.2.2.2.1 (C.2.2.2.2.1 _ hw) (fun _ h => h) hd (kk _ (Or.inl rfl) H locs ls hP hz hS hl)
  · exact va_gets C.1 C.2.1 h hS C.2.2.2.1 (C.2.2.2.2.1 _ hw) (fun _ h => h) hd (kk _ (Or.inr ⟨t, rfl⟩) H locs ls hP hz hS hl)
theorem j_und (hy : y.cls = "MeltingMarks$Paper") (C : jOk G X y cc nL R) (hd : decode cc pc = .ok (.getstatic 34, 3)) (hn : pc + 3 = q) (kk : jJ G X cells slots sz Sh M q lv (.ref (gZ G).2.2 :: st)) : jJ G X cells slots sz Sh M pc lv st := by
  subst hn
  exact fun H locs ls hP hz hS hl => va_getsN C.1 C.2.1 C.2.2.2.2.2.2.2.2.1.2.2.2.1 hS C.2.2.2.1 (by rw [hy]; exact va_tabs rfl rfl C.2.2.2.2.2.2.2.2.1.2.2.2.2.2.2.1) (fun _ h => h) hd (kk H locs ls hP hz hS hl)
theorem j_undlen (C : jOk G X y cc nL R) (hd : decode cc pc = .ok (.arraylength, 1)) (hn : pc + 1 = q) (kk : jJ G X cells slots sz Sh M q lv (.int (nI 6) :: st)) : jJ G X cells slots sz Sh M pc lv (.ref (gZ G).2.2 :: st) := by
  subst hn
  exact fun H locs ls hP hz hS hl => va_tlen C.1 C.2.1 C.2.2.2.2.2.2.2.2.1.2.2.2.2.1 hS rfl hd (kk H locs ls hP hz hS hl)
theorem j_undld {k : Nat} (hk : k < 6) (C : jOk G X y cc nL R) (hd : decode cc pc = .ok (.iaload, 1)) (hn : pc + 1 = q) (kk : jJ G X cells slots sz Sh M q lv (.int (jUnd k) :: st)) : jJ G X cells slots sz Sh M pc lv (.int (nI k) :: .ref (gZ G).2.2 :: st) := by
  subst hn
  exact fun H locs ls hP hz hS hl => va_ti C.1 C.2.1 C.2.2.2.2.2.2.2.2.1.2.2.2.2.1 hS (vp_in_nI hk (by decide)) (by rw [nI_clamp (by omega)]) hd (kk H locs ls hP hz hS hl)
theorem j_ldcS {index a : Nat} {tx : String} (C : jOk G X y cc nL R) (hd : decode cc pc = .ok (.ldc index, 2)) (hn : pc + 2 = q) (hZ : vk_R y.cls index tx a (xs X)) (kk : jJ G X cells slots sz Sh M q lv (.ref a :: st)) : jJ G X cells slots sz Sh M pc lv st := by
  subst hn
  exact fun H locs ls hP hz hS hl => va_ldcS C.1 C.2.1 C.2.2.2.1 hZ hd (kk H locs ls hP hz hS hl)
theorem jK1 {y2 : MethodName} {cc2 : ByteArray} {nL2 n index f2 i : Nat} {ret2 : Option FieldType} {As rest st0 : List Value} {v : Value} (hi : i < 3) (C : jOk G X y cc nL R) (hd : decode cc pc = .ok (.invokevirtual index, 3)) (hn : pc + 3 = q) (Y : jcal y2 cc2 nL2 ret2 n) (w1 : Cond.methodLink y.cls index y2 ∈ jtb) (w2 : Cond.instanceMethod y2 ∈ jtb) (w3 : Cond.selects "java/lang/String" y2 y2 ∈ jtb) (hM : jC G y2 cc2 nL2 ret2 (jrm f2 0 0) sz Sh M (.ref ((gZ G).1 i) :: As) (jR (some v) sz Sh M1)) (hln : As.length = n) (hst : st0 = As.reverse ++ .ref ((gZ G).1 i) :: rest) (hR : f2 + 1 ≤ R.frames ∧ 40 * (f2 + 1) ≤ R.locals ∧ nL2 ≤ 21) (hr : (rest.map fun v => v.category).sum ≤ 8) (hf : cells ≤ R.cells ∧ slots ≤ R.slots) (kk : jJ G X cells slots sz Sh M1 q lv (v :: rest)) : jJ G X cells slots sz Sh M pc lv st0 := by
  subst hn; subst hst
  have eR := C.2.2.2.2.2.2.2.2.2.2.2
  intro H locs ls hP hz hS hl
  refine j_back (rm := jrm f2 0 0) (rest := rest) C.2.2.2.2.2.2.2.1 (va_runV (As := As) (rest := rest) ⟨C.1, C.2.1, C.2.2.1, C.2.2.2.1, C.2.2.2.2.1⟩ hM ⟨callB_of n C.2.2.2.2.1 (jGood Y.1) rfl rfl rfl (C.2.2.2.2.1 _ Y.2.1) (C.2.2.2.2.1 _ w1) Y.2.2 (by rw [eR]; exact ⟨hR.1, by show 8 + (nL2 + 11) + 40 * f2 ≤ _; omega⟩), C.2.2.2.2.1 _ w2, C.2.2.2.2.1 _ w3⟩ ⟨jblind, vk_recv C.2.2.2.2.2.2.2.2.1.1 hi hS, jpre (rm := jrm f2 0 0) C hP hz hS⟩ rfl hln (hl.1.trans C.2.2.2.2.2.2.2.2.2.1) rfl (lv_room hr) hd (by rw [eR]; exact hf)) hS hl (fun r sz' Sh' M' h => by obtain ⟨rfl, rfl, rfl, rfl⟩ := h; exact kk)
end JMORE
