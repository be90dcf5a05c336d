/-- what is known of a class of ours -/
def jcls (ci : Nat) (Cn : String) (T : u_T) (N : Nat) (ty0 : Nat → FieldType) : Prop := ci < 12 ∧ vwCl[ci]? = some (Cn, T, N) ∧ (∀ w ∈ u_ws Cn T N, w ∈ jtb) ∧ (∀ k, k < N → parseFieldDescriptor (T k).2.2.1 = some (ty0 k)) ∧ (∀ a, a < N → ∀ b, b < N → a ≠ b → (T a).2.1 ≠ (T b).2.1) ∧ (jts ci).length = N
theorem jc0 : jcls 0 RX0 TX0 6 tyX0 := ⟨by decide, rfl, by decide +kernel, tyX0_ok, nmX0, rfl⟩
theorem jc1 : jcls 1 RX1 TX1 3 tyX1 := ⟨by decide, rfl, by decide +kernel, tyX1_ok, nmX1, rfl⟩
theorem jc2 : jcls 2 RX2 TX2 2 tyX2 := ⟨by decide, rfl, by decide +kernel, tyX2_ok, nmX2, rfl⟩
theorem jc3 : jcls 3 RX3 TX3 5 tyX3 := ⟨by decide, rfl, by decide +kernel, tyX3_ok, nmX3, rfl⟩
theorem jc4 : jcls 4 RX4 TX4 2 tyX4 := ⟨by decide, rfl, by decide +kernel, tyX4_ok, nmX4, rfl⟩
theorem jc5 : jcls 5 RX5 TX5 7 tyX5 := ⟨by decide, rfl, by decide +kernel, tyX5_ok, nmX5, rfl⟩
theorem jc6 : jcls 6 RX6 TX6 10 tyX6 := ⟨by decide, rfl, by decide +kernel, tyX6_ok, nmX6, rfl⟩
theorem jc7 : jcls 7 RX7 TX7 8 tyX7 := ⟨by decide, rfl, by decide +kernel, tyX7_ok, nmX7, rfl⟩
theorem jc8 : jcls 8 RX8 TX8 3 tyX8 := ⟨by decide, rfl, by decide +kernel, tyX8_ok, nmX8, rfl⟩
theorem jc9 : jcls 9 RX9 TX9 12 tyX9 := ⟨by decide, rfl, by decide +kernel, tyX9_ok, nmX9, rfl⟩
theorem jc10 : jcls 10 RX10 TX10 7 tyX10 := ⟨by decide, rfl, by decide +kernel, tyX10_ok, nmX10, rfl⟩
theorem jc11 : jcls 11 RX11 TX11 24 tyX11 := ⟨by decide, rfl, by decide +kernel, tyX11_ok, nmX11, rfl⟩
theorem jobj {G : jG} {Sh : jS} {M : jM} {H : Heap} {ci a : Nat} {Cn : String} {T : u_T} {N : Nat} {ty0 : Nat → FieldType} (B : jcls ci Cn T N ty0) (h : jP G Sh M H) (hs : (Sh a).1 = ci) : gN G ≤ a ∧ t_OB a ((gD G).1 ci) N ((gD G).2 ci) H (fun j => jv M a ((jts ci).getD j 0) j) := by
  obtain ⟨B1, B2, B3, B4, B5, B6⟩ := B
  have h := h a (by rw [hs]; omega)
  refine ⟨h.1, ?_⟩
  have h2 := h.2
  unfold jat at h2
  rw [hs, if_pos B1, B6] at h2
  exact h2
theorem jobjP {G : jG} {Sh : jS} {M : jM} {H : Heap} {ci a : Nat} {Cn : String} {T : u_T} {N : Nat} {ty0 : Nat → FieldType} (B : jcls ci Cn T N ty0) (h : jP G Sh M H) (hs : (Sh a).1 = ci) : va_P (gD G) vwCl [(a, .inr (ci, (List.range N).map (fun j => jv M a ((jts ci).getD j 0) j)))] H := by
  intro i z hz
  have hi : i < 1 := (List.getElem?_eq_some_iff.mp hz).1
  rw [show i = 0 by omega] at hz
  cases hz
  exact ⟨(Cn, T, N), B.2.1, (jobj B h hs).2.to (fun k hk => by simp [vp_V, hk])⟩
theorem jarr {G : jG} {Sh : jS} {M : jM} {H : Heap} {a k n : Nat} (h : jP G Sh M H) (hs : Sh a = (k, n)) (h1 : ¬ k < 12) (h2 : k < 20) : gN G ≤ a ∧ H[a]? = some (vp_cell (gcy G k) (n, if k < 14 then .inl (M.1 a) else if k = 14 then .inr (.inl (M.2.1 a)) else .inr (.inr (.inr (.inr (M.2.2 a)))))) := by
  have h := h a (by rw [hs]; exact h2)
  refine ⟨h.1, ?_⟩
  have h3 := h.2
  unfold jat at h3
  rw [hs, if_neg h1] at h3
  exact h3
theorem jat_arr {G : jG} {q : Nat × Nat} {M : jM} {a : Nat} {H : Heap} (h1 : ¬ q.1 < 12) (h : H[a]? = some (vp_cell (gcy G q.1) (q.2, if q.1 < 14 then .inl (M.1 a) else if q.1 = 14 then .inr (.inl (M.2.1 a)) else .inr (.inr (.inr (.inr (M.2.2 a))))))) : jat G q M a H := by
  unfold jat
  rw [if_neg h1]
  exact h
theorem jone {D : va_G} {H : Heap} {a : Nat} {e : ClassId × vp_A} (h : H[a]? = some (vp_cell e.1 e.2)) : va_P D vwCl [(a, .inl e)] H := by
  intro i z hz
  have hi : i < 1 := (List.getElem?_eq_some_iff.mp hz).1
  rw [show i = 0 by omega] at hz
  cases hz
  exact h
section JHEAP
variable {G : jG} {X : jX} {y : MethodName} {cc : ByteArray} {nL cells slots sz pc q : Nat} {R : Room} {Sh : jS} {M M' : jM} {lv lv' : List (Nat × Value)} {st : List Value}
theorem j_getG {Cn : String} {T : u_T} {N : Nat} {ty0 : Nat → FieldType} {ci index k a : Nat} {v : Value} (B : jcls ci Cn T N ty0) (C : jOk G X y cc nL R) (hd : decode cc pc = .ok (.getfield index, 3)) (hn : pc + 3 = q) (hs : (Sh a).1 = ci) (hk : k < N) (hw : Cond.fieldLink y.cls index (T k).1 (T k).2.1 (T k).2.2.1 ∈ jtb) (hv : jv M a ((jts ci).getD k 0) k = v) (kk : jJ G X cells slots sz Sh M q lv (v :: st)) : jJ G X cells slots sz Sh M pc lv (.ref a :: st) := by
  subst hn
  intro H locs ls hP hz hS hl
  exact va_get C.1 C.2.1 C.2.2.2.2.1 B.2.2.1 C.2.2.2.1 C.2.2.2.2.2.1 (jobjP B hP hs) 0 rfl B.2.1 k hk (C.2.2.2.2.1 _ hw) (fun _ h => h) (by simp [hk, hv]) hd (kk H locs ls hP hz hS hl)
theorem j_putG {Cn : String} {T : u_T} {N : Nat} {ty0 : Nat → FieldType} {ci index k a : Nat} {v : Value} (B : jcls ci Cn T N ty0) (C : jOk G X y cc nL R) (hd : decode cc pc = .ok (.putfield index, 3)) (hn : pc + 3 = q) (hs : (Sh a).1 = ci) (hk : k < N) (hw : Cond.fieldLink y.cls index (T k).1 (T k).2.1 (T k).2.2.1 ∈ jtb) (hfin : (T k).2.2.2 = false) (hnw : narrow (ty0 k) v = v) (hfit : fits (ty0 k) v = true) (hM : ∀ j, j < N → updV (fun j => jv M a ((jts ci).getD j 0) j) k v j = jv M' a ((jts ci).getD j 0) j) (h1 : ∀ b, b ≠ a → M'.1 b = M.1 b) (h2 : ∀ b, b ≠ a → M'.2.1 b = M.2.1 b) (h3 : ∀ b, b ≠ a → M'.2.2 b = M.2.2 b) (kk : jJ G X cells slots sz Sh M' q lv st) : jJ G X cells slots sz Sh M pc lv (v :: .ref a :: st) := by
  subst hn
  intro H locs ls hP hz hS hl
  obtain ⟨hN, cell, q1, q2, q3, q4⟩ := jobj B hP hs
  obtain ⟨B1, B2, B3, B4, B5, B6⟩ := B
  have hap := va_apart (own := y.cls) C.2.2.2.2.1 B3 ty0 B4 B5 C.2.2.2.2.2.1 B2
  obtain ⟨hSs, hfc, kC, hkC, hkind⟩ := C.2.2.2.2.2.1.1 ci _ B2
  obtain ⟨cf, kf, fi, f, hi, hsl⟩ := hSs k hk
  have hlay := C.2.2.2.2.1 _ (B3 _ (u_in_lay hk))
  unfold u_lay at hlay
  rw [if_neg (by rw [hfin]; decide)] at hlay
  have hst := (u_facts hfc hkC (u_lays C.2.2.2.2.1 B3 hk) hi).1
  have h6 := u_store hfc hkC hkind hlay hi (B4 k hk) hnw hfit
  refine W.putK C.1 C.2.1 (f := f) ⟨C.2.2.2.1, C.2.2.2.2.1 _ hw, ⟨_, _, _, hi⟩, hst⟩ (by rw [q2]; exact h6) q1 q3 (by rw [hsl]; exact k2_hasslot (q4 k hk)) rfl rfl hd fun H' e1 e2 e3 => ?_
  rw [hsl] at e1 ⊢
  refine kk H' _ ls (jP_put hP e3 (fun _ => ?_) h1 h2 h3) (e2.trans hz) (hS.put e2 e3 hN) hl
  unfold jat
  rw [hs, if_pos B1, B6]
  exact t_OB.to ⟨_, e1, q2, q3, t_set q4 hap hk v⟩ hM
theorem j_putGF {Cn : String} {T : u_T} {N : Nat} {ty0 : Nat → FieldType} {ci index k a : Nat} {v : Value} (B : jcls ci Cn T N ty0) (C : jOk G X y cc nL R) (hd : decode cc pc = .ok (.putfield index, 3)) (hn : pc + 3 = q) (hs : (Sh a).1 = ci) (hk : k < N) (hw : Cond.fieldLink y.cls index (T k).1 (T k).2.1 (T k).2.2.1 ∈ jtb) (hfin : (T k).2.2.2 = true) (hini : y.name = "<init>") (hdecl : (T k).1 = y.cls) (hnw : narrow (ty0 k) v = v) (hfit : fits (ty0 k) v = true) (hM : ∀ j, j < N → updV (fun j => jv M a ((jts ci).getD j 0) j) k v j = jv M' a ((jts ci).getD j 0) j) (h1 : ∀ b, b ≠ a → M'.1 b = M.1 b) (h2 : ∀ b, b ≠ a → M'.2.1 b = M.2.1 b) (h3 : ∀ b, b ≠ a → M'.2.2 b = M.2.2 b) (kk : jJ G X cells slots sz Sh M' q lv st) : jJ G X cells slots sz Sh M pc lv (v :: .ref a :: st) := by
  subst hn
  intro H locs ls hP hz hS hl
  obtain ⟨hN, cell, q1, q2, q3, q4⟩ := jobj B hP hs
  obtain ⟨B1, B2, B3, B4, B5, B6⟩ := B
  have hap := va_apart (own := y.cls) C.2.2.2.2.1 B3 ty0 B4 B5 C.2.2.2.2.2.1 B2
  obtain ⟨hSs, hfc, kC, hkC, hkind⟩ := C.2.2.2.2.2.1.1 ci _ B2
  obtain ⟨cf, kf, fi, f, hi, hsl⟩ := hSs k hk
  have hlay := C.2.2.2.2.1 _ (B3 _ (u_in_lay hk))
  unfold u_lay at hlay
  rw [if_pos hfin] at hlay
  have hst := (u_facts hfc hkC (u_lays C.2.2.2.2.1 B3 hk) hi).1
  have hcf : (xm X).cls = cf := by
    obtain ⟨_, _, c', _, _, _, -, -, hf', -, -, -, hown2, -⟩ := Cond.laysFinal_spec hlay
    have e1 : c' = cf := by have := hi.symm.trans hf'; simp at this; exact this.1.symm
    rw [hdecl] at hown2
    rw [← e1]; exact Option.some.inj (C.2.2.2.1.symm.trans hown2)
  have h6 := u_fits hfc hkC hkind (Or.inr hlay) hi (B4 k hk) hnw hfit
  refine W.putFinK C.1 C.2.1 C.2.2.2.1 (C.2.2.2.2.1 _ hw) hi hst hcf (C.2.2.2.2.2.2.2.2.2.2.1.trans hini) (by rw [q2]; exact h6) q1 q3 (by rw [hsl]; exact k2_hasslot (q4 k hk)) rfl rfl hd fun H' e1 e2 e3 => ?_
  rw [hsl] at e1 ⊢
  refine kk H' _ ls (jP_put hP e3 (fun _ => ?_) h1 h2 h3) (e2.trans hz) (hS.put e2 e3 hN) hl
  unfold jat
  rw [hs, if_pos B1, B6]
  exact t_OB.to ⟨_, e1, q2, q3, t_set q4 hap hk v⟩ hM
theorem j_iald {a k n : Nat} (C : jOk G X y cc nL R) (hd : decode cc pc = .ok (.iaload, 1)) (hn : pc + 1 = q) (hs : Sh a = (13, n)) (hk : k < n) (h31 : n < 2 ^ 31) (kk : jJ G X cells slots sz Sh M q lv (.int (M.1 a k) :: st)) : jJ G X cells slots sz Sh M pc lv (.int (nI k) :: .ref a :: st) := by
  subst hn
  intro H locs ls hP hz hS hl
  have h := jarr hP hs (by decide) (by decide)
  refine va_iald C.1 C.2.1 C.2.2.2.2.2.1 (jone (e := (gcy G 13, n, .inl (M.1 a))) h.2) 0 1 rfl rfl (vp_in_nI hk h31) hd ?_
  rw [nI_clamp (by omega)]
  exact kk H locs ls hP hz hS hl
theorem j_bald {a k n : Nat} (C : jOk G X y cc nL R) (hd : decode cc pc = .ok (.baload, 1)) (hn : pc + 1 = q) (hs : Sh a = (12, n)) (hk : k < n) (h31 : n < 2 ^ 31) (kk : jJ G X cells slots sz Sh M q lv (.int (M.1 a k) :: st)) : jJ G X cells slots sz Sh M pc lv (.int (nI k) :: .ref a :: st) := by
  subst hn
  intro H locs ls hP hz hS hl
  have h := jarr hP hs (by decide) (by decide)
  refine va_bald C.1 C.2.1 C.2.2.2.2.2.1 (jone (e := (gcy G 12, n, .inl (M.1 a))) h.2) 0 0 rfl rfl (vp_in_nI hk h31) hd ?_
  rw [nI_clamp (by omega)]
  exact kk H locs ls hP hz hS hl
theorem j_lald {a k n : Nat} (C : jOk G X y cc nL R) (hd : decode cc pc = .ok (.laload, 1)) (hn : pc + 1 = q) (hs : Sh a = (14, n)) (hk : k < n) (h31 : n < 2 ^ 31) (kk : jJ G X cells slots sz Sh M q lv (.long (M.2.1 a k) :: st)) : jJ G X cells slots sz Sh M pc lv (.int (nI k) :: .ref a :: st) := by
  subst hn
  intro H locs ls hP hz hS hl
  have h := jarr hP hs (by decide) (by decide)
  refine va_lald C.1 C.2.1 C.2.2.2.2.2.1 (jone (e := (gcy G 14, n, .inr (.inl (M.2.1 a)))) h.2) 0 2 rfl rfl (vp_in_nI hk h31) hd ?_
  rw [nI_clamp (by omega)]
  exact kk H locs ls hP hz hS hl
theorem j_iast {a k n : Nat} {x : Int32} (C : jOk G X y cc nL R) (hd : decode cc pc = .ok (.iastore, 1)) (hn : pc + 1 = q) (hs : Sh a = (13, n)) (hk : k < n) (h31 : n < 2 ^ 31) (kk : jJ G X cells slots sz Sh (jsI M a k x) q lv st) : jJ G X cells slots sz Sh M pc lv (.int x :: .int (nI k) :: .ref a :: st) := by
  subst hn
  intro H locs ls hP hz hS hl
  have h := jarr hP hs (by decide) (by decide)
  refine W.iast C.1 C.2.1 h.2 ((C.2.2.2.2.2.1.2 1 _ rfl).1 n (fun j => .int (M.1 a j))) (fun q => by cases q) (by show ¬ (nI k < 0 ∨ (arrV _ _ _).slots.size ≤ _); rw [arrV_size]; exact vp_in_nI hk h31) rfl rfl hd fun H1 e z oq => ?_
  refine kk H1 _ ls (jP_put hP oq (fun _ => ?_) (fun b hb => jup_ne hb) (fun b hb => rfl) (fun b hb => rfl)) (z.trans hz) (hS.put z oq h.1) hl
  apply jat_arr (by rw [hs]; decide)
  rw [hs]
  show H1[a]? = some (vp_cell _ (n, .inl ((jsI M a k x).1 a)))
  rw [e, nI_clamp (by omega)]
  show some ((vp_cell _ (n, .inl (M.1 a))).setSlot _ _) = _
  rw [vp_cell_i, vp_cell_i, arrV_store]
  congr 2
  funext j
  by_cases hj : j = k
  · subst hj
    simp [updV, jup, jsI]
  · simp [updV, jup, jsI, hj]
theorem j_last {a k n : Nat} {x : Int64} (C : jOk G X y cc nL R) (hd : decode cc pc = .ok (.lastore, 1)) (hn : pc + 1 = q) (hs : Sh a = (14, n)) (hk : k < n) (h31 : n < 2 ^ 31) (kk : jJ G X cells slots sz Sh (jsL M a k x) q lv st) : jJ G X cells slots sz Sh M pc lv (.long x :: .int (nI k) :: .ref a :: st) := by
  subst hn
  intro H locs ls hP hz hS hl
  have h := jarr hP hs (by decide) (by decide)
  refine W.last C.1 C.2.1 h.2 ((C.2.2.2.2.2.1.2 2 _ rfl).1 n (fun j => .long (M.2.1 a j))) (fun q => by cases q) (by show ¬ (nI k < 0 ∨ (arrV _ _ _).slots.size ≤ _); rw [arrV_size]; exact vp_in_nI hk h31) rfl rfl hd fun H1 e z oq => ?_
  refine kk H1 _ ls (jP_put hP oq (fun _ => ?_) (fun b hb => rfl) (fun b hb => jup_ne hb) (fun b hb => rfl)) (z.trans hz) (hS.put z oq h.1) hl
  apply jat_arr (by rw [hs]; decide)
  rw [hs]
  show H1[a]? = some (vp_cell _ (n, .inr (.inl ((jsL M a k x).2.1 a))))
  rw [e, nI_clamp (by omega)]
  show some ((vp_cell _ (n, .inr (.inl (M.2.1 a)))).setSlot _ _) = _
  rw [vp_cell_l, vp_cell_l, arrV_store]
  congr 2
  funext j
  by_cases hj : j = k
  · subst hj
    simp [updV, jup, jsL]
  · simp [updV, jup, jsL, hj]
end JHEAP
