/-- what is known of a class of ours -/
def jcls (ci : Nat) (Cn : String) (T : u_T) (N : Nat) (ty0 : Nat → FieldType) : Prop := ci < 12 ∧ vwCl[ci]? = some (Cn, T, N) ∧ (∀ w ∈ u_ws Cn T N, w ∈ jtb) ∧ (∀ k, k < N → parseFieldDescriptor (T k).2.2.1 = some (ty0 k)) ∧ (∀ a, a < N → ∀ b, b < N → a ≠ b → (T a).2.1 ≠ (T b).2.1) ∧ (jts ci).length = N
theorem jc0 : jcls 0 RX0 TX0 6 tyX0 := ⟨by decide, rfl, by decide +kernel, tyX0_ok, nmX0, rfl⟩
theorem jc1 : jcls 1 RX1 TX1 3 tyX1 := ⟨by decide, rfl, by decide +kernel, tyX1_ok, nmX1, rfl⟩
theorem jc2 : jcls 2 RX2 TX2 2 tyX2 := ⟨by decide, rfl, by decide +kernel, tyX2_ok, nmX2, rfl⟩
theorem jc3 : jcls 3 RX3 TX3 5 tyX3 := ⟨by decide, rfl, by decide +kernel, tyX3_ok, nmX3, rfl⟩
theorem jc4 : jcls 4 RX4 TX4 2 tyX4 := ⟨by decide, rfl, by decide +kernel, tyX4_ok, nmX4, rfl⟩
theorem jc5 : jcls 5 RX5 TX5 7 tyX5 := ⟨by decide, rfl, by decide +kernel, tyX5_ok, nmX5, rfl⟩
theorem jc6 : jcls 6 RX6 TX6 10 tyX6 := ⟨by decide, rfl, by decide +kernel, tyX6_ok, nmX6, rfl⟩
theorem jc7 : jcls 7 RX7 TX7 8 tyX7 := ⟨by decide, rfl, by decide +kernel, tyX7_ok, nmX7, rfl⟩
theorem jc8 : jcls 8 RX8 TX8 3 tyX8 := ⟨by decide, rfl, by decide +kernel, tyX8_ok, nmX8, rfl⟩
theorem jc9 : jcls 9 RX9 TX9 12 tyX9 := ⟨by decide, rfl, by decide +kernel, tyX9_ok, nmX9, rfl⟩
theorem jc10 : jcls 10 RX10 TX10 7 tyX10 := ⟨by decide, rfl, by decide +kernel, tyX10_ok, nmX10, rfl⟩
theorem jc11 : jcls 11 RX11 TX11 24 tyX11 := ⟨by decide, rfl, by decide +kernel, tyX11_ok, nmX11, rfl⟩
theorem jobj {G : jG} {Sh : jS} {M : jM} {H : Heap} {ci a : Nat} {Cn : String} {T : u_T} {N : Nat} {ty0 : Nat → FieldType} (B : jcls ci Cn T N ty0) (h : jP G Sh M H) (hs : (Sh a).1 = ci) : gN G ≤ a ∧ t_OB a ((gD G).1 ci) N ((gD G).2 ci) H (fun j => jv M a ((jts ci).getD j 0) j) := by
  obtain ⟨B1, B2, B3, B4, B5, B6⟩ := B
  have h := h a (by rw [hs]; omega)
  refine ⟨h.1, ?_⟩
  have h2 := h.2
  unfold jat at h2
  rw [hs, if_pos B1, B6] at h2
  exact h2
theorem jobjP {G : jG} {Sh : jS} {M : jM} {H : Heap} {ci a : Nat} {Cn : String} {T : u_T} {N : Nat} {ty0 : Nat → FieldType} (B : jcls ci Cn T N ty0) (h : jP G Sh M H) (hs : (Sh a).1 = ci) : va_P (gD G) vwCl [(a, .inr (ci, (List.range N).map (fun j => jv M a ((jts ci).getD j 0) j)))] H := by
  intro i z hz
  have hi : i < 1 := (List.getElem?_eq_some_iff.mp hz).1
  rw [show i = 0 by omega] at hz
  cases hz
  exact ⟨(Cn, T, N), B.2.1, (jobj B h hs).2.to (fun k hk => by simp [vp_V, hk])⟩
theorem jarr {G : jG} {Sh : jS} {M : jM} {H : Heap} {a k n : Nat} (h : jP G Sh M H) (hs : Sh a = (k, n)) (h1 : ¬ k < 12) (h2 : k < 20) : gN G ≤ a ∧ H[a]? = some (vp_cell (gcy G k) (n, if k < 14 then .inl (M.1 a) else if k = 14 then .inr (.inl (M.2.1 a)) else .inr (.inr (.inr (.inr (M.2.2 a)))))) := by
  have h := h a (by rw [hs]; exact h2)
  refine ⟨h.1, ?_⟩
  have h3 := h.2
  unfold jat at h3
  rw [hs, if_neg h1] at h3
  exact h3
theorem jat_arr {G : jG} {q : Nat × Nat} {M : jM} {a : Nat} {H : Heap} (h1 : ¬ q.1 < 12) (h : H[a]? = some (vp_cell (gcy G q.1) (q.2, if q.1 < 14 then .inl (M.1 a) else if q.1 = 14 then .inr (.inl (M.2.1 a)) else .inr (.inr (.inr (.inr (M.2.2 a))))))) : jat G q M a H := by
  unfold jat
  rw [if_neg h1]
  exact h
theorem jone {D : va_G} {H : Heap} {a : Nat} {e : ClassId × vp_A} (h : H[a]? = some (vp_cell e.1 e.2)) : va_P D vwCl [(a, .inl e)] H := by
  intro i z hz
  have hi : i < 1 := (List.getElem?_eq_some_iff.mp hz).1
  rw [show i = 0 by omega] at hz
  cases hz
  exact h
section JHEAP
variable {G : jG} {X : jX} {y : MethodName} {cc : ByteArray} {nL cells slots sz pc q : Nat} {R : Room} {Sh : jS} {M M' : jM} {lv lv' : List (Nat × Value)} {st : List Value}
theorem j_getG {Cn : String} {T : u_T} {N : Nat} {ty0 : Nat → FieldType} {ci index k a : Nat} {v : Value} (B : jcls ci Cn T N ty0) (C : jOk G X y cc nL R) (hd : decode cc pc = .ok (.getfield index, 3)) (hn : pc + 3 = q) (hs : (Sh a).1 = ci) (hk : k < N) (hw : Cond.fieldLink y.cls index (T k).1 (T k).2.1 (T k).2.2.1 ∈ jtb) (hv : jv M a ((jts ci).getD k 0) k = v) (kk : jJ G X cells slots sz Sh M q lv (v :: st)) : jJ G X cells slots sz Sh M pc lv (.ref a :: st) := by
  subst hn
  intro H locs ls hP hz hS hl
  exact va_get C.1 C.2.1 C.2.2.2.2.1 B.2.2.1 C.2.2.2.1 C.2.2.2.2.2.1 (jobjP B hP hs) 0 rfl B.2.1 k hk (C.2.2.2.2.1 _ hw) (fun _ h => h) (by rw [List.getElem?_map, List.getElem?_range hk]; exact congrArg some hv) hd (kk H locs ls hP hz hS hl)
theorem j_putG {Cn : String} {T : u_T} {N : Nat} {ty0 : Nat → FieldType} {ci index k a : Nat} {v : Value} (B : jcls ci Cn T N ty0) (C : jOk G X y cc nL R) (hd : decode cc pc = .ok (.putfield index, 3)) (hn : pc + 3 = q) (hs : (Sh a).1 = ci) (hk : k < N) (hw : Cond.fieldLink y.cls index (T k).1 (T k).2.1 (T k).2.2.1 ∈ jtb) (hfin : (T k).2.2.2 = false) (hnw : narrow (ty0 k) v = v) (hfit : fits (ty0 k) v = true) (hM : ∀ j, j < N → updV (fun j => jv M a ((jts ci).getD j 0) j) k v j = jv M' a ((jts ci).getD j 0) j) (h1 : ∀ b, b ≠ a → M'.1 b = M.1 b) (h2 : ∀ b, b ≠ a → M'.2.1 b = M.2.1 b) (h3 : ∀ b, b ≠ a → M'.2.2 b = M.2.2 b) (kk : jJ G X cells slots sz Sh M' q lv st) : jJ G X cells slots sz Sh M pc lv (v :: .ref a :: st) := by
  subst hn
  intro H locs ls hP hz hS hl
  obtain ⟨hN, cell, q1, q2, q3, q4⟩ := jobj B hP hs
  obtain ⟨B1, B2, B3, B4, B5, B6⟩ := B
  have hap := va_apart (own := y.cls) C.2.2.2.2.1 B3 ty0 B4 B5 C.2.2.2.2.2.1 B2
  obtain ⟨hSs, hfc, kC, hkC, hkind⟩ := C.2.2.2.2.2.1.1 ci _ B2
  obtain ⟨cf, kf, fi, f, hi, hsl⟩ := hSs k hk
  have hlay := C.2.2.2.2.1 _ (B3 _ (u_in_lay hk))
  unfold u_lay at hlay
  rw [if_neg (by rw [hfin]; decide)] at hlay
  have hst := (u_facts hfc hkC (u_lays C.2.2.2.2.1 B3 hk) hi).1
  have h6 := u_store hfc hkC hkind hlay hi (B4 k hk) hnw hfit
  refine W.putK C.1 C.2.1 (f := f) ⟨C.2.2.2.1, C.2.2.2.2.1 _ hw, ⟨_, _, _, hi⟩, hst⟩ (by rw [q2]; exact h6) q1 q3 (by rw [hsl]; exact k2_hasslot (q4 k hk)) rfl rfl hd fun H' e1 e2 e3 => ?_
  rw [hsl] at e1 ⊢
  refine kk H' _ ls (jP_put hP e3 (fun _ => ?_) h1 h2 h3) (e2.trans hz) (hS.put e2 e3 hN) hl
  unfold jat
  rw [hs, if_pos B1, B6]
  exact t_OB.to ⟨_, e1, q2, q3, t_set q4 hap hk v⟩ hM
theorem j_putGF {Cn : String} {T : u_T} {N : Nat} {ty0 : Nat → FieldType} {ci index k a : Nat} {v : Value} (B : jcls ci Cn T N ty0) (C : jOk G X y cc nL R) (hd : decode cc pc = .ok (.putfield index, 3)) (hn : pc + 3 = q) (hs : (Sh a).1 = ci) (hk : k < N) (hw : Cond.fieldLink y.cls index (T k).1 (T k).2.1 (T k).2.2.1 ∈ jtb) (hfin : (T k).2.2.2 = true) (hini : y.name = "<init>") (hdecl : (T k).1 = y.cls) (hnw : narrow (ty0 k) v = v) (hfit : fits (ty0 k) v = true) (hM : ∀ j, j < N → updV (fun j => jv M a ((jts ci).getD j 0) j) k v j = jv M' a ((jts ci).getD j 0) j) (h1 : ∀ b, b ≠ a → M'.1 b = M.1 b) (h2 : ∀ b, b ≠ a → M'.2.1 b = M.2.1 b) (h3 : ∀ b, b ≠ a → M'.2.2 b = M.2.2 b) (kk : jJ G X cells slots sz Sh M' q lv st) : jJ G X cells slots sz Sh M pc lv (v :: .ref a :: st) := by
  subst hn
  intro H locs ls hP hz hS hl
  obtain ⟨hN, cell, q1, q2, q3, q4⟩ := jobj B hP hs
  obtain ⟨B1, B2, B3, B4, B5, B6⟩ := B
  have hap := va_apart (own := y.cls) C.2.2.2.2.1 B3 ty0 B4 B5 C.2.2.2.2.2.1 B2
  obtain ⟨hSs, hfc, kC, hkC, hkind⟩ := C.2.2.2.2.2.1.1 ci _ B2
  obtain ⟨cf, kf, fi, f, hi, hsl⟩ := hSs k hk
  have hlay := C.2.2.2.2.1 _ (B3 _ (u_in_lay hk))
  unfold u_lay at hlay
  rw [if_pos hfin] at hlay
  have hst := (u_facts hfc hkC (u_lays C.2.2.2.2.1 B3 hk) hi).1
  have hcf : (xm X).cls = cf := by
    obtain ⟨_, _, c', _, _, _, -, -, hf', -, -, -, hown2, -⟩ := Cond.laysFinal_spec hlay
    have e1 : c' = cf := by have := hi.symm.trans hf'; simp at this; exact this.1.symm
    rw [hdecl] at hown2
    rw [← e1]; exact Option.some.inj (C.2.2.2.1.symm.trans hown2)
  have h6 := u_fits hfc hkC hkind (Or.inr hlay) hi (B4 k hk) hnw hfit
  refine W.putFinK C.1 C.2.1 C.2.2.2.1 (C.2.2.2.2.1 _ hw) hi hst hcf (C.2.2.2.2.2.2.2.2.2.2.1.trans hini) (by rw [q2]; exact h6) q1 q3 (by rw [hsl]; exact k2_hasslot (q4 k hk)) rfl rfl hd fun H' e1 e2 e3 => ?_
  rw [hsl] at e1 ⊢
  refine kk H' _ ls (jP_put hP e3 (fun _ => ?_) h1 h2 h3) (e2.trans hz) (hS.put e2 e3 hN) hl
  unfold jat
  rw [hs, if_pos B1, B6]
  exact t_OB.to ⟨_, e1, q2, q3, t_set q4 hap hk v⟩ hM
theorem j_iald {a k n : Nat} (C : jOk G X y cc nL R) (hd : decode cc pc = .ok (.iaload, 1)) (hn : pc + 1 = q) (hs : Sh a = (13, n)) (hk : k < n) (h31 : n < 2 ^ 31) (kk : jJ G X cells slots sz Sh M q lv (.int (M.1 a k) :: st)) : jJ G X cells slots sz Sh M pc lv (.int (nI k) :: .ref a :: st) := by
  subst hn
  intro H locs ls hP hz hS hl
  have h := jarr hP hs (by decide) (by decide)
  refine va_iald C.1 C.2.1 C.2.2.2.2.2.1 (jone (e := (gcy G 13, n, .inl (M.1 a))) h.2) 0 1 rfl rfl (vp_in_nI hk h31) hd ?_
  rw [nI_clamp (by omega)]
  exact kk H locs ls hP hz hS hl
theorem j_bald {a k n : Nat} (C : jOk G X y cc nL R) (hd : decode cc pc = .ok (.baload, 1)) (hn : pc + 1 = q) (hs : Sh a = (12, n)) (hk : k < n) (h31 : n < 2 ^ 31) (kk : jJ G X cells slots sz Sh M q lv (.int (M.1 a k) :: st)) : jJ G X cells slots sz Sh M pc lv (.int (nI k) :: .ref a :: st) := by
  subst hn
  intro H locs ls hP hz hS hl
  have h := jarr hP hs (by decide) (by decide)
  refine va_bald C.1 C.2.1 C.2.2.2.2.2.1 (jone (e := (gcy G 12, n, .inl (M.1 a))) h.2) 0 0 rfl rfl (vp_in_nI hk h31) hd ?_
  rw [nI_clamp (by omega)]
  exact kk H locs ls hP hz hS hl
theorem j_lald {a k n : Nat} (C : jOk G X y cc nL R) (hd : decode cc pc = .ok (.laload, 1)) (hn : pc + 1 = q) (hs : Sh a = (14, n)) (hk : k < n) (h31 : n < 2 ^ 31) (kk : jJ G X cells slots sz Sh M q lv (.long (M.2.1 a k) :: st)) : jJ G X cells slots sz Sh M pc lv (.int (nI k) :: .ref a :: st) := by
  subst hn
  intro H locs ls hP hz hS hl
  have h := jarr hP hs (by decide) (by decide)
  refine va_lald C.1 C.2.1 C.2.2.2.2.2.1 (jone (e := (gcy G 14, n, .inr (.inl (M.2.1 a)))) h.2) 0 2 rfl rfl (vp_in_nI hk h31) hd ?_
  rw [nI_clamp (by omega)]
  exact kk H locs ls hP hz hS hl
theorem j_iast {a k n : Nat} {x : Int32} (C : jOk G X y cc nL R) (hd : decode cc pc = .ok (.iastore, 1)) (hn : pc + 1 = q) (hs : Sh a = (13, n)) (hk : k < n) (h31 : n < 2 ^ 31) (kk : jJ G X cells slots sz Sh (jsI M a k x) q lv st) : jJ G X cells slots sz Sh M pc lv (.int x :: .int (nI k) :: .ref a :: st) := by
  subst hn
  intro H locs ls hP hz hS hl
  have h := jarr hP hs (by decide) (by decide)
  refine W.iast C.1 C.2.1 h.2 ((C.2.2.2.2.2.1.2 1 _ rfl).1 n (fun j => .int (M.1 a j))) (fun q => by cases q) (by show ¬ (nI k < 0 ∨ (arrV _ _ _).slots.size ≤ _); rw [arrV_size]; exact vp_in_nI hk h31) rfl rfl hd fun H1 e z oq => ?_
  refine kk H1 _ ls (jP_put hP oq (fun _ => ?_) (fun b hb => jup_ne hb) (fun b hb => rfl) (fun b hb => rfl)) (z.trans hz) (hS.put z oq h.1) hl
  apply jat_arr (by rw [hs]; exact (by decide : ¬ 13 < 12))
  rw [hs]
  show H1[a]? = some (vp_cell _ (n, .inl ((jsI M a k x).1 a)))
  rw [e, nI_clamp (by omega)]
  show some ((vp_cell _ (n, .inl (M.1 a))).setSlot _ _) = _
  rw [vp_cell_i, vp_cell_i, arrV_store]
  congr 2
  funext j
  by_cases hj : j = k
  · subst hj
    simp [updV, jup, jsI]
  · simp [updV, jup, jsI, hj]
theorem j_last {a k n : Nat} {x : Int64} (C : jOk G X y cc nL R) (hd : decode cc pc = .ok (.lastore, 1)) (hn : pc + 1 = q) (hs : Sh a = (14, n)) (hk : k < n) (h31 : n < 2 ^ 31) (kk : jJ G X cells slots sz Sh (jsL M a k x) q lv st) : jJ G X cells slots sz Sh M pc lv (.long x :: .int (nI k) :: .ref a :: st) := by
  subst hn
  intro H locs ls hP hz hS hl
  have h := jarr hP hs (by decide) (by decide)
  refine W.last C.1 C.2.1 h.2 ((C.2.2.2.2.2.1.2 2 _ rfl).1 n (fun j => .long (M.2.1 a j))) (fun q => by cases q) (by show ¬ (nI k < 0 ∨ (arrV _ _ _).slots.size ≤ _); rw [arrV_size]; exact vp_in_nI hk h31) rfl rfl hd fun H1 e z oq => ?_
  refine kk H1 _ ls (jP_put hP oq (fun _ => ?_) (fun b hb => rfl) (fun b hb => jup_ne hb) (fun b hb => rfl)) (z.trans hz) (hS.put z oq h.1) hl
  apply jat_arr (by rw [hs]; exact (by decide : ¬ 14 < 12))
  rw [hs]
  show H1[a]? = some (vp_cell _ (n, .inr (.inl ((jsL M a k x).2.1 a))))
  rw [e, nI_clamp (by omega)]
  show some ((vp_cell _ (n, .inr (.inl (M.2.1 a)))).setSlot _ _) = _
  rw [vp_cell_l, vp_cell_l, arrV_store]
  congr 2
  funext j
  by_cases hj : j = k
  · subst hj
    simp [updV, jup, jsL]
  · simp [updV, jup, jsL, hj]
theorem jnar (x : Int32) : vp_nar .byte x = x.toInt8.toInt32 := vp_nar_byte x
theorem j_bast {a k n : Nat} {x : Int32} (C : jOk G X y cc nL R) (hd : decode cc pc = .ok (.bastore, 1)) (hn : pc + 1 = q) (hs : Sh a = (12, n)) (hk : k < n) (h31 : n < 2 ^ 31) (kk : jJ G X cells slots sz Sh (jsI M a k x.toInt8.toInt32) q lv st) : jJ G X cells slots sz Sh M pc lv (.int x :: .int (nI k) :: .ref a :: st) := by
  subst hn
  intro H locs ls hP hz hS hl
  have h := jarr hP hs (by decide) (by decide)
  refine W.bast C.1 C.2.1 h.2 ((C.2.2.2.2.2.1.2 0 _ rfl).1 n (fun j => .int (M.1 a j))) (fun q => by cases q) (by show ¬ (nI k < 0 ∨ (arrV _ _ _).slots.size ≤ _); rw [arrV_size]; exact vp_in_nI hk h31) rfl rfl hd fun H1 e z oq => ?_
  refine kk H1 _ ls (jP_put hP oq (fun _ => ?_) (fun b hb => jup_ne hb) (fun b hb => rfl) (fun b hb => rfl)) (z.trans hz) (hS.put z oq h.1) hl
  apply jat_arr (by rw [hs]; exact (by decide : ¬ 12 < 12))
  rw [hs]
  show H1[a]? = some (vp_cell _ (n, .inl ((jsI M a k x.toInt8.toInt32).1 a)))
  rw [e, nI_clamp (by omega)]
  show some ((vp_cell _ (n, .inl (M.1 a))).setSlot _ _) = _
  rw [vp_cell_i, vp_cell_i, arrV_store]
  congr 2
  funext j
  by_cases hj : j = k
  · subst hj
    simp only [updV, jup, jsI, and_self, if_true]
    first | rfl | simp [narrow]
  · simp [updV, jup, jsI, hj]
theorem j_aald {a k n K b : Nat} (C : jOk G X y cc nL R) (hd : decode cc pc = .ok (.aaload, 1)) (hn : pc + 1 = q) (hs : Sh a = (K, n)) (hK : 15 ≤ K ∧ K < 20) (hk : k < n) (h31 : n < 2 ^ 31) (hb : M.2.2 a k = some b) (kk : jJ G X cells slots sz Sh M q lv (.ref b :: st)) : jJ G X cells slots sz Sh M pc lv (.int (nI k) :: .ref a :: st) := by
  subst hn
  intro H locs ls hP hz hS hl
  have h := (jarr hP hs (by omega) (by omega)).2
  rw [if_neg (by omega), if_neg (by omega)] at h
  have hc : (nI k).toNatClampNeg = k := nI_clamp (by omega)
  have kk2 : W (xp X) (gl G) (xe X) (xR X) (xs X) (xm X) (xa X) (xb X) (xh X) (xc X) H locs cells slots (xQ X) (F0 (xm X) (pc + 1) ls (va_rf (M.2.2 a (nI k).toNatClampNeg) :: st)) := by rw [hc, hb]; exact kk H locs ls hP hz hS hl
  rcases (show K = 15 ∨ K = 16 ∨ K = 17 ∨ K = 18 ∨ K = 19 by omega) with rfl | rfl | rfl | rfl | rfl
  · exact va_aldq C.1 C.2.1 C.2.2.2.2.2.1 (jone (e := (gcy G 15, n, .inr (.inr (.inr (.inr (M.2.2 a)))))) h) 0 3 rfl rfl (vp_in_nI hk h31) hd kk2
  · exact va_aldq C.1 C.2.1 C.2.2.2.2.2.1 (jone (e := (gcy G 16, n, .inr (.inr (.inr (.inr (M.2.2 a)))))) h) 0 4 rfl rfl (vp_in_nI hk h31) hd kk2
  · exact va_aldq C.1 C.2.1 C.2.2.2.2.2.1 (jone (e := (gcy G 17, n, .inr (.inr (.inr (.inr (M.2.2 a)))))) h) 0 5 rfl rfl (vp_in_nI hk h31) hd kk2
  · exact va_aldq C.1 C.2.1 C.2.2.2.2.2.1 (jone (e := (gcy G 18, n, .inr (.inr (.inr (.inr (M.2.2 a)))))) h) 0 6 rfl rfl (vp_in_nI hk h31) hd kk2
  · exact va_aldq C.1 C.2.1 C.2.2.2.2.2.1 (jone (e := (gcy G 19, n, .inr (.inr (.inr (.inr (M.2.2 a)))))) h) 0 7 rfl rfl (vp_in_nI hk h31) hd kk2
theorem j_aaldQ {a k n : Nat} (C : jOk G X y cc nL R) (hd : decode cc pc = .ok (.aaload, 1)) (hn : pc + 1 = q) (hs : Sh a = (15, n)) (hk : k < n) (h31 : n < 2 ^ 31) (kk : jJ G X cells slots sz Sh M q lv (va_rf (M.2.2 a k) :: st)) : jJ G X cells slots sz Sh M pc lv (.int (nI k) :: .ref a :: st) := by
  subst hn
  intro H locs ls hP hz hS hl
  have h := (jarr hP hs (by omega) (by omega)).2
  refine va_aldq C.1 C.2.1 C.2.2.2.2.2.1 (jone (e := (gcy G 15, n, .inr (.inr (.inr (.inr (M.2.2 a)))))) h) 0 3 rfl rfl (vp_in_nI hk h31) hd ?_
  rw [nI_clamp (by omega)]
  exact kk H locs ls hP hz hS hl
theorem j_aast {a k n K b ci t0 N : Nat} {Cn : String} {T : u_T} {ty0 : Nat → FieldType} (B : jcls ci Cn T N ty0) (C : jOk G X y cc nL R) (hd : decode cc pc = .ok (.aastore, 1)) (hn : pc + 1 = q) (hs : Sh a = (K, n)) (hK : 15 ≤ K ∧ K < 20) (ht : (jtys (gcy G))[t0]? = some (gcy G K, .object Cn)) (hk : k < n) (h31 : n < 2 ^ 31) (hb : (Sh b).1 = ci) (kk : jJ G X cells slots sz Sh (jsP M a k (some b)) q lv st) : jJ G X cells slots sz Sh M pc lv (.ref b :: .int (nI k) :: .ref a :: st) := by
  subst hn
  intro H locs ls hP hz hS hl
  have h := jarr hP hs (by omega) (by omega)
  have h2 := h.2
  rw [if_neg (by omega), if_neg (by omega)] at h2
  have hlt : (nI k).toNatClampNeg < n := by rw [nI_clamp (by omega)]; exact hk
  have h0 : ¬ nI k < 0 := fun q => (vp_in_nI hk h31) (Or.inl q)
  obtain ⟨-, cellV, g1, g2, g3, -⟩ := jobj B hP hb
  have hcls := (C.2.2.2.2.2.1.1 ci _ B.2.1).2
  obtain ⟨kA, comp, k1, k2, k3, -⟩ := (C.2.2.2.2.2.1.2 t0 _ ht).2
  have hcomp : comp = (gD G).1 ci := Option.some.inj (k3.symm.trans hcls.1)
  subst hcomp
  obtain ⟨kC, hkC, -⟩ := id hcls.2
  refine W.aast C.1 C.2.1 h2 (fun q h => by cases h) (fun h => by cases h) k1 k2 rfl hkC ⟨h0, by show _ < (arrV _ _ _).slots.size; rw [arrV_size]; exact hlt⟩ g1 (fun q h => by rw [g3] at h; cases h) (by rw [g2]; exact hkC) (by rw [g2]; exact va_assign hcls) rfl rfl hd fun H1 e z oq => ?_
  refine kk H1 _ ls (jP_put hP oq (fun _ => ?_) (fun b hb => rfl) (fun b hb => rfl) (fun b hb => jup_ne hb)) (z.trans hz) (hS.put z oq h.1) hl
  apply jat_arr (by rw [hs]; show ¬ K < 12; omega)
  rw [hs]
  show H1[a]? = some (vp_cell _ (n, if K < 14 then _ else if K = 14 then _ else .inr (.inr (.inr (.inr ((jsP M a k (some b)).2.2 a))))))
  rw [if_neg (by omega), if_neg (by omega), e, nI_clamp (by omega)]
  rw [vp_cell_q, vp_cell_q, arrV_store]
  congr 2
  funext j
  by_cases hj : j = k
  · subst hj
    simp [updV, jup, jsP, va_rf]
  · simp [updV, jup, jsP, hj]
theorem j_aastN {a k n : Nat} (C : jOk G X y cc nL R) (hd : decode cc pc = .ok (.aastore, 1)) (hn : pc + 1 = q) (hs : Sh a = (15, n)) (hk : k < n) (h31 : n < 2 ^ 31) (kk : jJ G X cells slots sz Sh (jsP M a k none) q lv st) : jJ G X cells slots sz Sh M pc lv (.null :: .int (nI k) :: .ref a :: st) := by
  subst hn
  intro H locs ls hP hz hS hl
  have h := jarr hP hs (by omega) (by omega)
  refine va_WaastN (C := RX1) C.1 C.2.1 h.2 ((C.2.2.2.2.2.1.2 3 _ rfl).1 n (fun j => va_rf (M.2.2 a j))) (fun h => by cases h) (by show ¬ (nI k < 0 ∨ (arrV _ _ _).slots.size ≤ _); rw [arrV_size]; exact vp_in_nI hk h31) rfl rfl hd fun H1 e z oq => ?_
  refine kk H1 _ ls (jP_put hP oq (fun _ => ?_) (fun b hb => rfl) (fun b hb => rfl) (fun b hb => jup_ne hb)) (z.trans hz) (hS.put z oq h.1) hl
  apply jat_arr (by rw [hs]; exact (by decide : ¬ 15 < 12))
  rw [hs]
  show H1[a]? = some (vp_cell _ (n, .inr (.inr (.inr (.inr ((jsP M a k none).2.2 a))))))
  rw [e, nI_clamp (by omega)]
  show some ((vp_cell _ (n, .inr (.inr (.inr (.inr (M.2.2 a)))))).setSlot _ _) = _
  rw [vp_cell_q, vp_cell_q, arrV_store]
  congr 2
  funext j
  by_cases hj : j = k
  · subst hj
    simp [updV, jup, jsP, va_rf]
  · simp [updV, jup, jsP, hj]
theorem j_alen {a n K t0 : Nat} {ty : FieldType} (C : jOk G X y cc nL R) (hd : decode cc pc = .ok (.arraylength, 1)) (hn : pc + 1 = q) (hs : Sh a = (K, n)) (hK : 12 ≤ K ∧ K < 20) (ht : (jtys (gcy G))[t0]? = some (gcy G K, ty)) (kk : jJ G X cells slots sz Sh M q lv (.int (nI n) :: st)) : jJ G X cells slots sz Sh M pc lv (.ref a :: st) := by
  subst hn
  intro H locs ls hP hz hS hl
  have h := (jarr hP hs (by omega) (by omega)).2
  exact va_alen C.1 C.2.1 C.2.2.2.2.2.1 (jone (e := (gcy G K, n, _)) h) 0 t0 rfl ht rfl hd (kk H locs ls hP hz hS hl)
/-- a new cell: all 0 -/
def jz (M : jM) (a : Nat) : jM := (jrow M.1 a (fun _ => 0), jrow M.2.1 a (fun _ => 0), jrow M.2.2 a (fun _ => none))
theorem jP_new {H H1 : Heap} {K n : Nat} (h : jP G Sh M H) (hz : H.size = sz) (hN : gN G ≤ sz) (o1 : ∀ q : Nat, q < sz → H1[q]? = H[q]?) (hn : jat G (K, n) (jz M sz) sz H1) : jP G (va_up Sh sz (K, n)) (jz M sz) H1 := by
  intro b hb
  by_cases e : b = sz
  · subst e
    rw [va_up_self] at hb ⊢
    exact ⟨hN, hn⟩
  · rw [va_up_ne _ _ e] at hb ⊢
    have h1 := h b hb
    have hlt : b < sz := by rw [← hz]; exact jat_lt h1.2
    exact ⟨h1.1, jat_kept h1.2 (o1 b hlt) (by simp [jz, jrow, e]) (by simp [jz, jrow, e]) (by simp [jz, jrow, e])⟩
theorem j_new {Cn : String} {T : u_T} {N : Nat} {ty0 : Nat → FieldType} {ci index : Nat} (B : jcls ci Cn T N ty0) (C : jOk G X y cc nL R) (hd : decode cc pc = .ok (.new index, 3)) (hn : pc + 3 = q) (w1 : Cond.classLink y.cls index Cn ∈ jtb) (w2 : Cond.instantiable Cn N ∈ jtb) (w3 : Cond.initialized Cn ∈ jtb) (hdf : ∀ j, j < N → defaultValue (ty0 j) = if (jts ci).getD j 0 = 0 then .int 0 else if (jts ci).getD j 0 = 1 then .long 0 else .null) (hc : cells + 1 ≤ R.cells) (hsl : slots + N ≤ R.slots) (kk : jJ G X (cells + 1) (slots + N) (sz + 1) (va_up Sh sz (ci, 0)) (jz M sz) q lv (.ref sz :: st)) : jJ G X cells slots sz Sh M pc lv st := by
  subst hn
  intro H locs ls hP hz hS hl
  obtain ⟨B1, B2, B3, B4, B5, B6⟩ := B
  have eR := C.2.2.2.2.2.2.2.2.2.2.2
  have hKn := C.2.2.2.2.2.1.1 ci _ B2
  refine W.newcK C.1 C.2.1 C.2.2.2.1 (C.2.2.2.2.1 _ w1) (C.2.2.2.2.1 _ w2) (C.2.2.2.2.1 _ w3) rfl hd (by rw [eR]; exact hc) (by rw [eR]; exact hsl) hKn.2.1 hz fun H1 kC hkC e1 z1 o1 => ?_
  refine kk H1 locs ls (jP_new hP hz (Nat.le_trans C.2.2.2.2.2.2.2.1 (by rw [← hz]; exact hS.1)) o1 ?_) z1 ⟨Nat.le_trans hS.1 (by omega), fun x h1 h2 => (o1 x (by have := hS.1; omega)).trans (hS.2.1 x h1 h2), hS.2.2⟩ hl
  unfold jat
  rw [if_pos (show (ci, 0).1 < 12 from B1)]
  show t_OB sz _ (jts ci).length _ H1 _
  rw [B6]
  refine (u_born ty0 C.2.2.2.2.1 B3 hKn hkC e1 B4).to (fun j hj => ?_)
  rw [hdf j hj]
  simp only [jv, jz, jrow, if_true]
  by_cases h0 : (jts ci).getD j 0 = 0
  · rw [if_pos h0, if_pos h0]
  · rw [if_neg h0, if_neg h0]
    by_cases h1 : (jts ci).getD j 0 = 1
    · rw [if_pos h1, if_pos h1]
    · rw [if_neg h1, if_neg h1]; rfl
theorem j_newa {atype : ArrayType} {n K t0 : Nat} {ty : FieldType} (C : jOk G X y cc nL R) (hd : decode cc pc = .ok (.newarray atype, 2)) (hn : pc + 2 = q) (hty : newarray.typeOf atype = ty) (hw : Cond.arrayClass ty ∈ jtb) (hK : (K = 12 ∧ ty = .byte) ∨ (K = 13 ∧ ty = .int) ∨ (K = 14 ∧ ty = .long)) (h31 : n < 65536) (hc : cells + 1 ≤ R.cells) (hsl : slots + n ≤ R.slots) (kk : jJ G X (cells + 1) (slots + n) (sz + 1) (va_up Sh sz (K, n)) (jz M sz) q lv (.ref sz :: st)) : jJ G X cells slots sz Sh M pc lv (.int (nI n) :: st) := by
  subst hn
  subst hty
  intro H locs ls hP hz hS hl
  have eR := C.2.2.2.2.2.2.2.2.2.2.2
  have hcl : (nI n).toNatClampNeg = n := nI_clamp (by omega)
  have hby : n * componentBytes (newarray.typeOf atype) ≤ 536870912 := by
    have : componentBytes (newarray.typeOf atype) ≤ 8 := by cases atype <;> decide
    have h2 := Nat.mul_le_mul (Nat.le_of_lt h31) this
    omega
  refine va_newaK C.1 C.2.1 (C.2.2.2.2.1 _ hw) rfl hd rfl (nI_pos (by omega)) hcl hby (by rw [eR]; exact hc) (by rw [eR]; exact hsl) hz fun H1 cA e1 z1 o1 hAr hNm => ?_
  have hcA : cA = gcy G K := by
    rcases hK with ⟨rfl, e⟩ | ⟨rfl, e⟩ | ⟨rfl, e⟩
    · have h1 := (C.2.2.2.2.2.1.2 0 _ rfl).2
      rw [e] at hNm
      exact Option.some.inj (hNm.symm.trans h1)
    · have h1 := (C.2.2.2.2.2.1.2 1 _ rfl).2
      rw [e] at hNm
      exact Option.some.inj (hNm.symm.trans h1)
    · have h1 := (C.2.2.2.2.2.1.2 2 _ rfl).2
      rw [e] at hNm
      exact Option.some.inj (hNm.symm.trans h1)
  refine kk H1 locs ls (jP_new hP hz (Nat.le_trans C.2.2.2.2.2.2.2.1 (by rw [← hz]; exact hS.1)) o1 ?_) z1 ⟨Nat.le_trans hS.1 (by omega), fun x h1 h2 => (o1 x (by have := hS.1; omega)).trans (hS.2.1 x h1 h2), hS.2.2⟩ hl
  subst hcA
  rcases hK with ⟨rfl, e⟩ | ⟨rfl, e⟩ | ⟨rfl, e⟩
  · apply jat_arr (by exact (by decide : ¬ 12 < 12))
    rw [e] at e1
    simp only [jz, jrow, if_true]
    exact e1
  · apply jat_arr (by exact (by decide : ¬ 13 < 12))
    rw [e] at e1
    simp only [jz, jrow, if_true]
    exact e1
  · apply jat_arr (by exact (by decide : ¬ 14 < 12))
    rw [e] at e1
    simp only [jz, jrow, if_true]
    exact e1
theorem j_anew {Cn : String} {index n K t0 : Nat} (C : jOk G X y cc nL R) (hd : decode cc pc = .ok (.anewarray index, 3)) (hn : pc + 3 = q) (w1 : Cond.classLink y.cls index Cn ∈ jtb) (hao : va_AO Cn (xs X)) (hK : 15 ≤ K ∧ K < 20) (ht : (jtys (gcy G))[t0]? = some (gcy G K, .object Cn)) (h31 : n < 65536) (hc : cells + 1 ≤ R.cells) (hsl : slots + n ≤ R.slots) (kk : jJ G X (cells + 1) (slots + n) (sz + 1) (va_up Sh sz (K, n)) (jz M sz) q lv (.ref sz :: st)) : jJ G X cells slots sz Sh M pc lv (.int (nI n) :: st) := by
  subst hn
  intro H locs ls hP hz hS hl
  have eR := C.2.2.2.2.2.2.2.2.2.2.2
  have hcl : (nI n).toNatClampNeg = n := nI_clamp (by omega)
  refine W.anew C.1 C.2.1 C.2.2.2.1 (C.2.2.2.2.1 _ w1) (va_AO.use hao) rfl hd rfl (nI_pos (by omega)) (by rw [hcl]; omega) (by rw [eR]; exact hc) (by rw [eR, hcl]; exact hsl) fun cA kA comp f1 f2 f3 f4 => ?_
  have hcA : cA = gcy G K := by
    obtain ⟨kA', comp', k1, k2, k3, k4⟩ := (C.2.2.2.2.2.1.2 t0 _ ht).2
    exact Option.some.inj (f1.symm.trans k4)
  subst hcA
  rw [hcl]
  generalize hH1 : H.push ({ cls := gcy G K, slots := Array.replicate n .null, vm := .none } : Cell) = H1
  have z1 : H1.size = sz + 1 := by rw [← hH1, Array.size_push, hz]
  have e1 : H1[sz]? = some (arrV (gcy G K) n (fun _ => .null)) := by rw [← hH1, ← hz, Array.getElem?_push_size, ← arrV_new]
  have o1 : ∀ q : Nat, q < sz → H1[q]? = H[q]? := fun q hq => by rw [← hH1, Array.getElem?_push, if_neg (by rw [hz]; exact Nat.ne_of_lt hq)]
  rw [hz]
  refine kk H1 locs ls (jP_new hP hz (Nat.le_trans C.2.2.2.2.2.2.2.1 (by rw [← hz]; exact hS.1)) o1 ?_) z1 ⟨Nat.le_trans hS.1 (by omega), fun x h1 h2 => (o1 x (by have := hS.1; omega)).trans (hS.2.1 x h1 h2), hS.2.2⟩ hl
  apply jat_arr (by show ¬ K < 12; omega)
  show H1[sz]? = some (vp_cell (gcy G K) (n, if K < 14 then _ else if K = 14 then _ else _))
  rw [if_neg (by omega), if_neg (by omega), e1]
  simp only [jz, jrow, if_true]
  rfl
end JHEAP
