abbrev gvC : Cond := Jvm.Cond.and given_1 narrow_1
def sZtm (i : Nat) : Term := if i = 0 then .string RX7 104 else if i = 1 then .string RX11 187 else .string RX11 166
theorem sZ_ex : ∀ i : Nat, i < 3 → Cond.exactly (sZtm i) "java/lang/String" ∈ flatC gvC := by decide +kernel
theorem sZ_co : ∀ i : Nat, i < 3 → Cond.eq (.field (sZtm i) "java/lang/String" "coder" "B") (.int 0) ∈ flatC gvC := by decide +kernel
theorem sZ_ar : ∀ i : Nat, i < 3 → Cond.arrayOf (.field (sZtm i) "java/lang/String" "value" "[B") .byte ∈ flatC gvC := by decide +kernel
theorem sZ_le : ∀ i : Nat, i < 3 → Cond.eq (.length (.field (sZtm i) "java/lang/String" "value" "[B")) (.int (Int32.ofNat (jlen.getD i 0))) ∈ flatC gvC := by decide +kernel
def bts0 : List Int32 := [115, 117, 109, 32, 32, 32, 97, 103, 101, 32, 32, 32, 112, 114, 105, 99, 101, 32, 102, 105, 114, 115, 116, 32, 108, 97, 116, 101, 32, 32, 119, 101, 101, 107, 32, 32, 107, 105, 110, 100, 32, 32, 100, 101, 98, 116, 32, 32, 114, 101, 110, 116, 32, 32, 119, 97, 103, 101, 32, 32, 97, 110, 100, 32, 32, 32, 111, 114, 32, 32, 32, 32, 110, 111, 116, 32, 32, 32]
theorem bts0_ok : jbyt.getD 0 [] = bts0 := by decide +kernel
theorem sZ_sl0 : ((flatC gvC).drop 82).take 78 = (List.range 78).map (fun j => Cond.eq (.elem (.field (sZtm 0) "java/lang/String" "value" "[B") (.int (Int32.ofNat j))) (.int (bts0.getD j 0))) := by decide +kernel
def bts1 : List Int32 := [40, 41, 59, 43, 45, 42, 47, 60, 61]
theorem bts1_ok : jbyt.getD 1 [] = bts1 := by decide +kernel
theorem sZ_sl1 : ((flatC gvC).drop 246).take 9 = (List.range 9).map (fun j => Cond.eq (.elem (.field (sZtm 1) "java/lang/String" "value" "[B") (.int (Int32.ofNat j))) (.int (bts1.getD j 0))) := by decide +kernel
def bts2 : List Int32 := [32, 115, 117, 109, 32, 97, 103, 101, 32, 112, 114, 105, 99, 101, 32, 102, 105, 114, 115, 116, 32, 108, 97, 116, 101, 32, 119, 101, 101, 107, 32, 107, 105, 110, 100, 32, 100, 101, 98, 116, 32, 114, 101, 110, 116, 32, 119, 97, 103, 101, 32, 97, 110, 100, 32, 111, 114, 32, 110, 111, 116, 32]
theorem bts2_ok : jbyt.getD 2 [] = bts2 := by decide +kernel
theorem sZ_sl2 : ((flatC gvC).drop 178).take 62 = (List.range 62).map (fun j => Cond.eq (.elem (.field (sZtm 2) "java/lang/String" "value" "[B") (.int (Int32.ofNat j))) (.int (bts2.getD j 0))) := by decide +kernel
theorem sZ_el (i : Nat) (hi : i < 3) (j : Nat) (hj : j < jlen.getD i 0) : Cond.eq (.elem (.field (sZtm i) "java/lang/String" "value" "[B") (.int (Int32.ofNat j))) (.int ((jbyt.getD i []).getD j 0)) ∈ flatC gvC := by
  rcases (show i = 0 ∨ i = 1 ∨ i = 2 by omega) with rfl | rfl | rfl
  · rw [bts0_ok]
    exact List.mem_of_mem_drop (List.mem_of_mem_take (i := 78) (by rw [sZ_sl0]; exact List.mem_map.mpr ⟨j, List.mem_range.mpr hj, rfl⟩))
  · rw [bts1_ok]
    exact List.mem_of_mem_drop (List.mem_of_mem_take (i := 9) (by rw [sZ_sl1]; exact List.mem_map.mpr ⟨j, List.mem_range.mpr hj, rfl⟩))
  · rw [bts2_ok]
    exact List.mem_of_mem_drop (List.mem_of_mem_take (i := 62) (by rw [sZ_sl2]; exact List.mem_map.mpr ⟨j, List.mem_range.mpr hj, rfl⟩))
theorem sZ_ne : ∀ i : Nat, i < 3 → ∀ j : Nat, j < 3 → i ≠ j → Cond.not (Cond.eq (sZtm i) (sZtm j)) ∈ flatC gvC ∨ Cond.not (Cond.eq (sZtm j) (sZtm i)) ∈ flatC gvC := by decide +kernel
theorem sZ_eq : Cond.eq (.string RX7 112) (.string RX11 187) ∈ flatC gvC := by decide +kernel
theorem sU_ar : Cond.arrayOf (.static "MeltingMarks" "UNDER" "[I") .int ∈ flatC gvC := by decide +kernel
theorem sU_le : Cond.eq (.length (.static "MeltingMarks" "UNDER" "[I")) (.int (Int32.ofNat 6)) ∈ flatC gvC := by decide +kernel
theorem sU_el : ∀ j : Nat, j < 6 → Cond.eq (.elem (.static "MeltingMarks" "UNDER" "[I") (.int (Int32.ofNat j))) (.int (jUnd j)) ∈ flatC gvC := by decide +kernel
theorem sC_eq : Cond.eq (.static "java/lang/String" "COMPACT_STRINGS" "Z") (.int 1) ∈ flatC gvC := by decide +kernel
theorem sP_rf : Cond.isRef (.static "jdk/internal/util/Preconditions" "SIOOBE_FORMATTER" "Ljava/util/function/BiFunction;") ∈ flatC gvC := by decide +kernel
theorem sw_s : ∀ q ∈ ([(RX7, 104, jtx 0), (RX7, 112, jtx 1), (RX11, 166, jtx 2), (RX11, 187, jtx 1)] : List (String × Nat × String)), Cond.stringRef q.1 q.2.1 q.2.2 ∈ lw_tbl := by decide +kernel
theorem sw_l : ∀ q ∈ ([("java/lang/String", "COMPACT_STRINGS", "Z"), ("MeltingMarks", "UNDER", "[I"), ("jdk/internal/util/Preconditions", "SIOOBE_FORMATTER", "Ljava/util/function/BiFunction;")] : List (String × String × String)), Cond.laysStatic q.1 q.2.1 q.2.2 ∈ lw_tbl := by decide +kernel
theorem sw_i : ∀ q ∈ (["java/lang/String", "MeltingMarks", "jdk/internal/util/Preconditions"] : List String), Cond.initialized q ∈ lw_tbl := by decide +kernel
theorem sw_n : ∀ q ∈ jnest, Cond.methodLinkNest q.1 q.2.1 q.2.2.1 q.2.2.2 ∈ lw_tbl := by decide +kernel
theorem sw_f : Cond.fieldLinkNest "MeltingMarks$Paper" 34 "MeltingMarks" "UNDER" "[I" "MeltingMarks" ∈ lw_tbl := by decide +kernel
theorem sw_o : ∀ q ∈ ([RX1, RX5, RX6, RX8, RX9] : List String), Cond.arrayOver (.object q) ∈ lw_tbl := by decide +kernel
theorem sw_a : ∀ t ∈ ([.byte, .int, .long] : List FieldType), Cond.arrayClass t ∈ lw_tbl := by decide +kernel
theorem sw_k : ∀ q ∈ ([(RX0, 6), (RX1, 3), (RX2, 2), (RX3, 5), (RX4, 2), (RX5, 7), (RX6, 10), (RX7, 8), (RX8, 3), (RX9, 12), (RX10, 7), (RX11, 24)] : List (String × Nat)), Cond.instantiable q.1 q.2 ∈ lw_tbl := by decide +kernel
theorem eq_ref {args : Array Value} {s : State} {t u : Term} {a : Nat} (h : (Cond.eq t u).before args s = true) (hu : u.eval args s none [] s = some (.ref a)) : t.eval args s none [] s = some (.ref a) := by
  cases hv : t.eval args s none [] s with
  | none => simp [Cond.before, Cond.holds, Cond.value, hv] at h
  | some w =>
    simp only [Cond.before, Cond.holds, Cond.value, hv, hu] at h
    cases w <;> simp_all
/-- what stands outside, at the law's entry -/
theorem start_E {s : State} {b : Nat} (hts : ∀ w ∈ lw_tbl, w.before #[Value.ref b] s = true) (hgv : (Jvm.Cond.and given_1 narrow_1).before #[Value.ref b] s = true) : ∃ z : jZ, ∀ G : jG, gN G = s.heap.size → gZ G = z → jE G s := by
  have hg : ∀ w ∈ flatC gvC, w.before #[Value.ref b] s = true := flat_of_before _ hgv
  have hA : ∀ a : Nat, a < s.heap.size → ¬ (fun q : Nat => s.heap.size ≤ q) a := fun a h => Nat.not_le.mpr h
  obtain ⟨adK, adV, hS, hev⟩ := vk_Sof (args := #[Value.ref b]) (s := s) (N := 3) (tm := sZtm) (len := jlen) (byt := jbyt) (A := fun q : Nat => s.heap.size ≤ q) (by decide) (fun i hi => hg _ (sZ_ex i hi)) (fun i hi => hg _ (sZ_co i hi)) (fun i hi => hg _ (sZ_ar i hi)) (fun i hi => hg _ (sZ_le i hi)) (fun i hi j hj => hg _ (sZ_el i hi j hj)) (fun i j hi hj hij => (sZ_ne i hi j hj hij).imp (hg _) (hg _)) hA
  obtain ⟨tU, hU, hT⟩ := va_Tof (args := #[Value.ref b]) (s := s) (tm := .static "MeltingMarks" "UNDER" "[I") (ty := .int) (N := 6) (f := fun j => .int (jUnd j)) (A := fun q : Nat => s.heap.size ≤ q) (by decide) (hg _ sU_ar) (va_eqt (hg _ sU_le)) (fun j hj => va_eqt (hg _ (sU_el j hj))) hA
  have s0 : (Term.string RX7 104).eval #[Value.ref b] s none [] s = some (.ref (adK 0)) := hev 0 (by decide)
  have s1 : (Term.string RX11 187).eval #[Value.ref b] s none [] s = some (.ref (adK 1)) := hev 1 (by decide)
  have s2 : (Term.string RX11 166).eval #[Value.ref b] s none [] s = some (.ref (adK 2)) := hev 2 (by decide)
  have s3 := eq_ref (hg _ sZ_eq) s1
  refine ⟨(adK, adV, tU), fun G hN hZ => ?_⟩
  have ejA : jA G = fun q : Nat => s.heap.size ≤ q := by unfold jA; rw [hN]
  unfold jE
  rw [ejA, hZ]
  exact ⟨hS, ⟨vk_R.of (hts _ (sw_s (RX7, 104, jtx 0) (by simp))) s0, vk_R.of (hts _ (sw_s (RX7, 112, jtx 1) (by simp))) s3, vk_R.of (hts _ (sw_s (RX11, 166, jtx 2) (by simp))) s2, vk_R.of (hts _ (sw_s (RX11, 187, jtx 1) (by simp))) s1⟩, va_Zof (hts _ (sw_l ("java/lang/String", "COMPACT_STRINGS", "Z") (by simp))) (hts _ (sw_i _ (by simp))) (va_eqi (hg _ sC_eq)) hA, va_Zref (hts _ (sw_l ("MeltingMarks", "UNDER", "[I") (by simp))) (hts _ (sw_i _ (by simp))) hU hA, hT, fun q hq => va_Nw.of rfl (hts _ (sw_n q hq)), va_Nw.of rfl (hts _ sw_f), va_AO.of (hts _ (sw_o RX1 (by simp))), va_AO.of (hts _ (sw_o RX6 (by simp))), va_AO.of (hts _ (sw_o RX5 (by simp))), va_AO.of (hts _ (sw_o RX9 (by simp))), va_AO.of (hts _ (sw_o RX8 (by simp))), va_Zqof (hts _ (sw_l ("jdk/internal/util/Preconditions", "SIOOBE_FORMATTER", "Ljava/util/function/BiFunction;") (by simp))) (hts _ (sw_i _ (by simp))) (hg _ sP_rf) hA⟩
theorem start_a {s : State} {args : Array Value} {t : FieldType} (hno : ∀ C, t ≠ .object C) (h : (Cond.arrayClass t).before args s = true) : ∃ cA : ClassId, ArrOfT s cA t ∧ va_RA s cA t := by
  obtain ⟨c, k, comp, h1, h2, h3⟩ := Cond.arrayClass_spec h
  refine ⟨c, fun n z => ⟨fun k h => (by cases h), k, h2, comp, h3⟩, ?_⟩
  cases t with
  | object C => exact absurd rfl (hno C)
  | _ => exact h1
theorem start_o {s : State} {args : Array Value} {C : String} (h : (Cond.arrayOver (.object C)).before args s = true) : ∃ cA : ClassId, ArrOfT s cA (.object C) ∧ va_RA s cA (.object C) := by
  obtain ⟨comp, c, k, h1, h2, h3, h4, h5⟩ := Cond.arrayOver_spec h
  exact ⟨c, fun n z => ⟨fun k h => (by cases h), k, h3, comp, h4⟩, k, comp, h3, h4, h1, h5⟩
/-- the classes, at the law's entry -/
theorem start_K {s : State} {args : Array Value} (hts : ∀ w ∈ lw_tbl, w.before args s = true) : ∃ (D : va_G) (cy : Nat → ClassId), va_K D vwCl (jtys cy) s := by
  have hj : ∀ w ∈ jtb, w.before args s = true := fun w hw => hts w (List.mem_filter.mp hw).1
  obtain ⟨c0, i0, k0⟩ := u_known (C := RX0) (T := TX0) (N := 6) (n := 6) hj jc0.2.2.1 (hts _ (sw_k (RX0, 6) (by simp)))
  obtain ⟨c1, i1, k1⟩ := u_known (C := RX1) (T := TX1) (N := 3) (n := 3) hj jc1.2.2.1 (hts _ (sw_k (RX1, 3) (by simp)))
  obtain ⟨c2, i2, k2⟩ := u_known (C := RX2) (T := TX2) (N := 2) (n := 2) hj jc2.2.2.1 (hts _ (sw_k (RX2, 2) (by simp)))
  obtain ⟨c3, i3, k3⟩ := u_known (C := RX3) (T := TX3) (N := 5) (n := 5) hj jc3.2.2.1 (hts _ (sw_k (RX3, 5) (by simp)))
  obtain ⟨c4, i4, k4⟩ := u_known (C := RX4) (T := TX4) (N := 2) (n := 2) hj jc4.2.2.1 (hts _ (sw_k (RX4, 2) (by simp)))
  obtain ⟨c5, i5, k5⟩ := u_known (C := RX5) (T := TX5) (N := 7) (n := 7) hj jc5.2.2.1 (hts _ (sw_k (RX5, 7) (by simp)))
  obtain ⟨c6, i6, k6⟩ := u_known (C := RX6) (T := TX6) (N := 10) (n := 10) hj jc6.2.2.1 (hts _ (sw_k (RX6, 10) (by simp)))
  obtain ⟨c7, i7, k7⟩ := u_known (C := RX7) (T := TX7) (N := 8) (n := 8) hj jc7.2.2.1 (hts _ (sw_k (RX7, 8) (by simp)))
  obtain ⟨c8, i8, k8⟩ := u_known (C := RX8) (T := TX8) (N := 3) (n := 3) hj jc8.2.2.1 (hts _ (sw_k (RX8, 3) (by simp)))
  obtain ⟨c9, i9, k9⟩ := u_known (C := RX9) (T := TX9) (N := 12) (n := 12) hj jc9.2.2.1 (hts _ (sw_k (RX9, 12) (by simp)))
  obtain ⟨c10, i10, k10⟩ := u_known (C := RX10) (T := TX10) (N := 7) (n := 7) hj jc10.2.2.1 (hts _ (sw_k (RX10, 7) (by simp)))
  obtain ⟨c11, i11, k11⟩ := u_known (C := RX11) (T := TX11) (N := 24) (n := 24) hj jc11.2.2.1 (hts _ (sw_k (RX11, 24) (by simp)))
  obtain ⟨c12, a12⟩ := start_a (t := .byte) (fun C h => by cases h) (hts _ (sw_a .byte (by simp)))
  obtain ⟨c13, a13⟩ := start_a (t := .int) (fun C h => by cases h) (hts _ (sw_a .int (by simp)))
  obtain ⟨c14, a14⟩ := start_a (t := .long) (fun C h => by cases h) (hts _ (sw_a .long (by simp)))
  obtain ⟨c15, a15⟩ := start_o (hts _ (sw_o RX1 (by simp)))
  obtain ⟨c16, a16⟩ := start_o (hts _ (sw_o RX5 (by simp)))
  obtain ⟨c17, a17⟩ := start_o (hts _ (sw_o RX6 (by simp)))
  obtain ⟨c18, a18⟩ := start_o (hts _ (sw_o RX8 (by simp)))
  obtain ⟨c19, a19⟩ := start_o (hts _ (sw_o RX9 (by simp)))
  refine ⟨(fun k => ([c0, c1, c2, c3, c4, c5, c6, c7, c8, c9, c10, c11] : List ClassId).getD k c0, fun k => ([i0, i1, i2, i3, i4, i5, i6, i7, i8, i9, i10, i11] : List (Nat → Nat)).getD k i0), fun k => ([c12, c13, c14, c15, c16, c17, c18, c19] : List ClassId).getD (k - 12) c0, fun k q hq => ?_, fun k q hq => ?_⟩
  · match k, hq with
    | 0, hq => cases hq; exact k0
    | 1, hq => cases hq; exact k1
    | 2, hq => cases hq; exact k2
    | 3, hq => cases hq; exact k3
    | 4, hq => cases hq; exact k4
    | 5, hq => cases hq; exact k5
    | 6, hq => cases hq; exact k6
    | 7, hq => cases hq; exact k7
    | 8, hq => cases hq; exact k8
    | 9, hq => cases hq; exact k9
    | 10, hq => cases hq; exact k10
    | 11, hq => cases hq; exact k11
    | k + 12, hq => simp [vwCl] at hq
  · match k, hq with
    | 0, hq => cases hq; exact a12
    | 1, hq => cases hq; exact a13
    | 2, hq => cases hq; exact a14
    | 3, hq => cases hq; exact a15
    | 4, hq => cases hq; exact a16
    | 5, hq => cases hq; exact a17
    | 6, hq => cases hq; exact a18
    | 7, hq => cases hq; exact a19
    | k + 8, hq => simp [jtys] at hq
