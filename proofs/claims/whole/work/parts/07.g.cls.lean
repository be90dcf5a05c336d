/-! the least of all plans -/
def popc (s : Nat) : Nat := s % 2 + (s / 2) % 2 + (s / 4) % 2 + (s / 8) % 2 + (s / 16) % 2 + (s / 32) % 2 + (s / 64) % 2 + (s / 128) % 2
def ush (x : Int32) (k : Nat) : Int32 := (x.toUInt32 >>> ((nI k).toUInt32 &&& Int32.toUInt32 31)).toInt32
def bcA (x : Int32) : Int32 := x - (ush x 1 &&& 1431655765)
def bcB (x : Int32) : Int32 := (x &&& 858993459) + (ush x 2 &&& 858993459)
def bcC (x : Int32) : Int32 := (x + ush x 4) &&& 252645135
def bcD (x : Int32) : Int32 := x + ush x 8
def bcE (x : Int32) : Int32 := (x + ush x 16) &&& nI 63
theorem bc_ok : ∀ n, n < 256 → bcE (bcD (bcC (bcB (bcA (nI n))))) = nI (popc n) := by decide +kernel
theorem popc_8 (s : Nat) : popc s ≤ 8 := by unfold popc; omega
def kLt (H P : Nat → Int64) (a b : Nat) : Prop := H a < H b ∨ (H a = H b ∧ (P a < P b ∨ (P a = P b ∧ (popc a < popc b ∨ (popc a = popc b ∧ a < b)))))
theorem i64_tri (x z : Int64) : x < z ∨ x = z ∨ z < x := by
  rcases Int64.lt_or_le x z with h | h
  · exact Or.inl h
  · by_cases e : x = z
    · exact Or.inr (Or.inl e)
    · exact Or.inr (Or.inr (Int64.lt_of_le_of_ne h (fun z => e z.symm)))
theorem kLt.tot {H P : Nat → Int64} {a b : Nat} (h : a ≠ b) : kLt H P a b ∨ kLt H P b a := by
  unfold kLt
  rcases i64_tri (H a) (H b) with h1 | h1 | h1
  · exact Or.inl (Or.inl h1)
  · rcases i64_tri (P a) (P b) with h2 | h2 | h2
    · exact Or.inl (Or.inr ⟨h1, Or.inl h2⟩)
    · rcases Nat.lt_trichotomy (popc a) (popc b) with h3 | h3 | h3
      · exact Or.inl (Or.inr ⟨h1, Or.inr ⟨h2, Or.inl h3⟩⟩)
      · rcases Nat.lt_trichotomy a b with h4 | h4 | h4
        · exact Or.inl (Or.inr ⟨h1, Or.inr ⟨h2, Or.inr ⟨h3, h4⟩⟩⟩)
        · exact absurd h4 h
        · exact Or.inr (Or.inr ⟨h1.symm, Or.inr ⟨h2.symm, Or.inr ⟨h3.symm, h4⟩⟩⟩)
      · exact Or.inr (Or.inr ⟨h1.symm, Or.inr ⟨h2.symm, Or.inl h3⟩⟩)
    · exact Or.inr (Or.inr ⟨h1.symm, Or.inl h2⟩)
  · exact Or.inr (Or.inl h1)
theorem kLt.trans {H P : Nat → Int64} {a b c : Nat} (h : kLt H P a b) (g : kLt H P b c) : kLt H P a c := by
  unfold kLt at *
  rcases h with h1 | ⟨h1, h2⟩
  · rcases g with g1 | ⟨g1, -⟩
    · exact Or.inl (Int64.lt_trans h1 g1)
    · exact Or.inl (g1 ▸ h1)
  · rcases g with g1 | ⟨g1, g2⟩
    · exact Or.inl (h1 ▸ g1)
    · refine Or.inr ⟨h1.trans g1, ?_⟩
      rcases h2 with h2 | ⟨h2, h3⟩
      · rcases g2 with g2 | ⟨g2, -⟩
        · exact Or.inl (Int64.lt_trans h2 g2)
        · exact Or.inl (g2 ▸ h2)
      · rcases g2 with g2 | ⟨g2, g3⟩
        · exact Or.inl (h2 ▸ g2)
        · exact Or.inr ⟨h2.trans g2, by omega⟩
theorem kLt.irr {H P : Nat → Int64} {a : Nat} (h : kLt H P a a) : False := by
  unfold kLt at h
  rcases h with h | ⟨-, h | ⟨-, h | ⟨-, h⟩⟩⟩
  · exact Int64.lt_irrefl h
  · exact Int64.lt_irrefl h
  · omega
  · omega
def isB (H P : Nat → Int64) (V : Nat → Prop) (b : Nat) : Prop := V b ∧ ∀ s, V s → s = b ∨ kLt H P b s
theorem isB.uniq {H P : Nat → Int64} {V : Nat → Prop} {b c : Nat} (h : isB H P V b) (g : isB H P V c) : b = c := by
  rcases h.2 c g.1 with e | e
  · exact e.symm
  · rcases g.2 b h.1 with e2 | e2
    · exact e2
    · exact (e.trans e2).irr.elim
theorem isB.better {H P : Nat → Int64} {V : Nat → Prop} {b n : Nat} (h : isB H P V b) (hn : kLt H P n b) : isB H P (fun s => V s ∨ s = n) n := ⟨Or.inr rfl, fun s hs => by
  rcases hs with hs | hs
  · rcases h.2 s hs with e | e
    · exact Or.inr (e ▸ hn)
    · exact Or.inr (hn.trans e)
  · exact Or.inl hs⟩
theorem isB.same {H P : Nat → Int64} {V : Nat → Prop} {b n : Nat} (h : isB H P V b) (hn : ¬ kLt H P n b) : isB H P (fun s => V s ∨ s = n) b := ⟨Or.inl h.1, fun s hs => by
  rcases hs with hs | hs
  · exact h.2 s hs
  · by_cases e : s = b
    · exact Or.inl e
    · rcases kLt.tot (H := H) (P := P) e with g | g
      · exact absurd (hs ▸ g) hn
      · exact Or.inr g⟩
theorem isB.first {H P : Nat → Int64} {V : Nat → Prop} {n : Nat} (h : ∀ s, ¬ V s) : isB H P (fun s => V s ∨ s = n) n := ⟨Or.inr rfl, fun s hs => hs.elim (fun z => absurd z (h s)) Or.inl⟩
theorem isB.congr {H P : Nat → Int64} {V V' : Nat → Prop} {b : Nat} (h : isB H P V b) (e : ∀ s, V s ↔ V' s) : isB H P V' b := ⟨(e b).mp h.1, fun s hs => h.2 s ((e s).mpr hs)⟩
theorem isB.fun {H P H' P' : Nat → Int64} {V : Nat → Prop} {b : Nat} (h : isB H P V b) (e : ∀ s, V s → H s = H' s ∧ P s = P' s) : isB H' P' V b := ⟨h.1, fun s hs => (h.2 s hs).imp id (fun g => by
  unfold kLt at g ⊢
  rw [← (e b h.1).1, ← (e b h.1).2, ← (e s hs).1, ← (e s hs).2]
  exact g)⟩
def bt (s k : Nat) : Bool := decide (s / 2 ^ k % 2 = 1)
theorem bt_low {s k : Nat} (h : s < 2 ^ k) : ¬ bt s k = true := by
  unfold bt
  rw [Nat.div_eq_of_lt h]
  decide
theorem bt_top {s k : Nat} (h : s < 2 ^ k) : bt (s + 2 ^ k) k = true := by
  unfold bt
  rw [Nat.add_div_right _ (Nat.two_pow_pos k), Nat.div_eq_of_lt h]
  decide
theorem bt_same {s k i : Nat} (h : i < k) : bt (s + 2 ^ k) i = bt s i := by
  unfold bt
  obtain ⟨m, rfl⟩ : ∃ m, k = i + (m + 1) := ⟨k - i - 1, by omega⟩
  rw [Nat.pow_add, Nat.add_mul_div_left _ _ (Nat.two_pow_pos i), Nat.pow_succ, Nat.add_mul_mod_self_right]
theorem nPl_bits {LT : Nat → sT} {d pe pa la : Nat} {b c : Nat → Bool} {N : Nat → Int64} : ∀ k, (∀ i, i < k → b i = c i) → nPl LT d pe pa la b N k = nPl LT d pe pa la c N k
  | 0, _ => rfl
  | k + 1, h => by rw [nPl, nPl, nPl_bits k (fun i hi => h i (by omega)), h k (by omega)]
/-- what a plan comes to -/
noncomputable def hK (LT : Nat → sT) (d pe pa la n : Nat) (N : Nat → Int64) (s : Nat) : Int64 := nSum (nPl LT d pe pa la (bt s) N n) 5 pe - nSum N 5 pe
noncomputable def pK (LT : Nat → sT) (d pe pa la n : Nat) (N : Nat → Int64) (s : Nat) : Int64 := nPl LT d pe pa la (bt s) N n (310 + (d + n))
/-- the best of what was weighed, as the class keeps it -/
def bRel (ah : Nat) (H P : Nat → Int64) (V : Nat → Prop) (M : jM) : Prop := (∀ s, V s → s < 256) ∧ ((M.1 ah 5 = -1 ∧ ∀ s, ¬ V s) ∨ ∃ b, isB H P V b ∧ M.2.1 ah 2 = H b ∧ M.2.1 ah 3 = P b ∧ M.1 ah 4 = nI (popc b) ∧ M.1 ah 5 = nI b)
theorem bRel.congr {ah : Nat} {H P : Nat → Int64} {V V' : Nat → Prop} {M : jM} (h : bRel ah H P V M) (e : ∀ s, V s ↔ V' s) : bRel ah H P V' M := by
  refine ⟨fun s hs => h.1 s ((e s).mpr hs), ?_⟩
  rcases h.2 with ⟨h1, h2⟩ | ⟨b, h1, h2⟩
  · exact Or.inl ⟨h1, fun s hs => h2 s ((e s).mpr hs)⟩
  · exact Or.inr ⟨b, h1.congr e, h2⟩
theorem bRel.mv {ah : Nat} {H P : Nat → Int64} {V : Nat → Prop} {M M' : jM} (h : bRel ah H P V M) (e1 : M'.1 ah = M.1 ah) (e2 : M'.2.1 ah = M.2.1 ah) : bRel ah H P V M' := by
  unfold bRel at h ⊢
  rw [e1, e2]
  exact h
def bet (h p h0 p0 : Int64) (t n t0 n0 : Int32) : Prop := h < h0 ∨ (h = h0 ∧ (p < p0 ∨ (p = p0 ∧ (t < t0 ∨ (t = t0 ∧ n < n0)))))
theorem bet_k {H P : Nat → Int64} {a b : Nat} (ha : a < 256) (hb : b < 256) : bet (H a) (P a) (H b) (P b) (nI (popc a)) (nI a) (nI (popc b)) (nI b) ↔ kLt H P a b := by
  have h1 := popc_8 a
  have h2 := popc_8 b
  unfold bet kLt
  rw [nI_ltI (by omega) (by omega), nI_ltI (by omega) (by omega), nI_eq (by omega) (by omega)]
set_option maxRecDepth 100000 in
set_option maxHeartbeats 4000000 in
theorem ctJ6_bitCount_0f7a4 {G : jG} {sz : Nat} {Sh : jS} {M : jM} {n : Nat} (hn : n < 256) : jC G yJ6_bitCount_0f7a4 cJ6_bitCount_0f7a4 1 (Option.some FieldType.int) (jrm 1 0 0) sz Sh M [.int (nI n)] (jR (some (.int (nI (popc n)))) sz Sh M) := by
  refine jC_start (by decide +kernel) (Nat.le_of_ble_eq_true rfl) (fun X C E hN0 => ?_)
  refine j_iload_n (q := 1) C dJ6_bitCount_0f7a4_0 rfl rfl rfl ?_
  refine j_iload_n (q := 2) C dJ6_bitCount_0f7a4_1 rfl rfl rfl ?_
  refine j_iconst (v := nI 1) (q := 3) C dJ6_bitCount_0f7a4_2 rfl (by decide) ?_
  refine j_iushr (q := 4) C dJ6_bitCount_0f7a4_3 rfl rfl ?_
  refine j_ldc_w (q := 7) C dJ6_bitCount_0f7a4_4 rfl kw_762 ?_
  refine j_iand (q := 8) C dJ6_bitCount_0f7a4_7 rfl ?_
  refine j_isub (q := 9) C dJ6_bitCount_0f7a4_8 rfl ?_
  refine j_top (v' := .int (bcA (nI n))) rfl ?_
  refine j_istore_n (lv' := [(0, _)]) (q := 10) C dJ6_bitCount_0f7a4_9 rfl rfl (by decide) rfl ?_
  refine j_iload_n (q := 11) C dJ6_bitCount_0f7a4_10 rfl rfl rfl ?_
  refine j_ldc_w (q := 14) C dJ6_bitCount_0f7a4_11 rfl kw_763 ?_
  refine j_iand (q := 15) C dJ6_bitCount_0f7a4_14 rfl ?_
  refine j_iload_n (q := 16) C dJ6_bitCount_0f7a4_15 rfl rfl rfl ?_
  refine j_iconst (v := nI 2) (q := 17) C dJ6_bitCount_0f7a4_16 rfl (by decide) ?_
  refine j_iushr (q := 18) C dJ6_bitCount_0f7a4_17 rfl rfl ?_
  refine j_ldc_w (q := 21) C dJ6_bitCount_0f7a4_18 rfl kw_763 ?_
  refine j_iand (q := 22) C dJ6_bitCount_0f7a4_21 rfl ?_
  first | refine j_iaddN (q := 23) C dJ6_bitCount_0f7a4_22 rfl ?_ | refine j_iadd (q := 23) C dJ6_bitCount_0f7a4_22 rfl ?_
  refine j_top (v' := .int (bcB (bcA (nI n)))) rfl ?_
  refine j_istore_n (lv' := [(0, _)]) (q := 24) C dJ6_bitCount_0f7a4_23 rfl rfl (by decide) rfl ?_
  refine j_iload_n (q := 25) C dJ6_bitCount_0f7a4_24 rfl rfl rfl ?_
  refine j_iload_n (q := 26) C dJ6_bitCount_0f7a4_25 rfl rfl rfl ?_
  refine j_iconst (v := nI 4) (q := 27) C dJ6_bitCount_0f7a4_26 rfl (by decide) ?_
  refine j_iushr (q := 28) C dJ6_bitCount_0f7a4_27 rfl rfl ?_
  first | refine j_iaddN (q := 29) C dJ6_bitCount_0f7a4_28 rfl ?_ | refine j_iadd (q := 29) C dJ6_bitCount_0f7a4_28 rfl ?_
  refine j_ldc_w (q := 32) C dJ6_bitCount_0f7a4_29 rfl kw_764 ?_
  refine j_iand (q := 33) C dJ6_bitCount_0f7a4_32 rfl ?_
  refine j_top (v' := .int (bcC (bcB (bcA (nI n))))) rfl ?_
  refine j_istore_n (lv' := [(0, _)]) (q := 34) C dJ6_bitCount_0f7a4_33 rfl rfl (by decide) rfl ?_
  refine j_iload_n (q := 35) C dJ6_bitCount_0f7a4_34 rfl rfl rfl ?_
  refine j_iload_n (q := 36) C dJ6_bitCount_0f7a4_35 rfl rfl rfl ?_
  refine j_bipush (v := nI 8) (q := 38) C dJ6_bitCount_0f7a4_36 rfl (by decide) ?_
  refine j_iushr (q := 39) C dJ6_bitCount_0f7a4_38 rfl rfl ?_
  first | refine j_iaddN (q := 40) C dJ6_bitCount_0f7a4_39 rfl ?_ | refine j_iadd (q := 40) C dJ6_bitCount_0f7a4_39 rfl ?_
  refine j_top (v' := .int (bcD (bcC (bcB (bcA (nI n)))))) rfl ?_
  refine j_istore_n (lv' := [(0, _)]) (q := 41) C dJ6_bitCount_0f7a4_40 rfl rfl (by decide) rfl ?_
  refine j_iload_n (q := 42) C dJ6_bitCount_0f7a4_41 rfl rfl rfl ?_
  refine j_iload_n (q := 43) C dJ6_bitCount_0f7a4_42 rfl rfl rfl ?_
  refine j_bipush (v := nI 16) (q := 45) C dJ6_bitCount_0f7a4_43 rfl (by decide) ?_
  refine j_iushr (q := 46) C dJ6_bitCount_0f7a4_45 rfl rfl ?_
  first | refine j_iaddN (q := 47) C dJ6_bitCount_0f7a4_46 rfl ?_ | refine j_iadd (q := 47) C dJ6_bitCount_0f7a4_46 rfl ?_
  refine j_istore_n (lv' := [(0, _)]) (q := 48) C dJ6_bitCount_0f7a4_47 rfl rfl (by decide) rfl ?_
  refine j_iload_n (q := 49) C dJ6_bitCount_0f7a4_48 rfl rfl rfl ?_
  refine j_bipush (v := nI 63) (q := 51) C dJ6_bitCount_0f7a4_49 rfl (by decide) ?_
  refine j_iand (q := 52) C dJ6_bitCount_0f7a4_51 rfl ?_
  refine j_top (v' := .int (nI (popc n))) (congrArg Value.int (bc_ok n hn)) ?_
  exact j_iret C E dJ6_bitCount_0f7a4_52 rfl rfl (jR_i)

set_option maxRecDepth 100000 in
set_option maxHeartbeats 4000000 in
theorem ctX0_isBetter {G : jG} {sz : Nat} {Sh : jS} {M : jM} {ah : Nat} (ha : (Sh ah).1 = 0) {h p : Int64} {t n : Int32} : jC G yX0_isBetter cX0_isBetter 7 (Option.some FieldType.boolean) (jrm 1 0 0) sz Sh M [.ref ah, .long h, .long p, .int t, .int n] (jR (some (.int (jbC (bet h p (M.2.1 ah 2) (M.2.1 ah 3) t n (M.1 ah 4) (M.1 ah 5))))) sz Sh M) := by
  refine jC_start (by decide +kernel) (Nat.le_of_ble_eq_true rfl) (fun X C E hN0 => ?_)
  refine j_lload_n (q := 1) C dX0_isBetter_0 rfl rfl rfl ?_
  refine j_aload_n (q := 2) C dX0_isBetter_1 rfl rfl rfl ?_
  refine jg_Ahead_bestHunger (q := 5) C dX0_isBetter_2 rfl ha kw_230 ?_
  refine j_lcmp_eq (q1 := 6) (q := 9) (tgt := 24) C dX0_isBetter_5 dX0_isBetter_6 rfl rfl (by decide) (fun c_6 => ?_) (fun c_6 => ?_)
  · refine j_lload_n (q := 25) C dX0_isBetter_24 rfl rfl rfl ?_
    refine j_aload_n (q := 26) C dX0_isBetter_25 rfl rfl rfl ?_
    refine jg_Ahead_bestPrice (q := 29) C dX0_isBetter_26 rfl ha kw_232 ?_
    refine j_lcmp_eq (q1 := 30) (q := 33) (tgt := 48) C dX0_isBetter_29 dX0_isBetter_30 rfl rfl (by decide) (fun c_30 => ?_) (fun c_30 => ?_)
    · refine j_iload (q := 50) C dX0_isBetter_48 rfl rfl ?_
      refine j_aload_n (q := 51) C dX0_isBetter_50 rfl rfl rfl ?_
      refine jg_Ahead_bestTaxes (q := 54) C dX0_isBetter_51 rfl ha kw_234 ?_
      refine j_icmp_eq (q := 57) (tgt := 74) C dX0_isBetter_54 rfl (by decide) (fun c_54 => ?_) (fun c_54 => ?_)
      · refine j_iload (q := 76) C dX0_isBetter_74 rfl rfl ?_
        refine j_aload_n (q := 77) C dX0_isBetter_76 rfl rfl rfl ?_
        refine jg_Ahead_bestNumber (q := 80) C dX0_isBetter_77 rfl ha kw_235 ?_
        refine j_icmp_ge (q := 83) (tgt := 87) C dX0_isBetter_80 rfl (by decide) (fun c_80 => ?_) (fun c_80 => ?_)
        · refine j_iconst (v := nI 0) (q := 88) C dX0_isBetter_87 rfl (by decide) ?_
          exact j_zret C E dX0_isBetter_88 (by first | rfl | exact jb_nar) rfl rfl (jR_e (congrArg (fun z => some (Value.int z)) (jbC_f (fun hh => hh.elim (fun z => absurd (c_6 ▸ z) Int64.lt_irrefl) (fun z => z.2.elim (fun z => absurd (c_30 ▸ z) Int64.lt_irrefl) (fun z => z.2.elim (fun z => absurd (c_54 ▸ z) Int32.lt_irrefl) (fun z => absurd z.2 (Int32.not_lt.mpr c_80)))))).symm) rfl)
        · refine j_iconst (v := nI 1) (q := 84) C dX0_isBetter_83 rfl (by decide) ?_
          refine j_goto (tgt := 88) C dX0_isBetter_84 (by decide) ?_
          exact j_zret C E dX0_isBetter_88 (by first | rfl | exact jb_nar) rfl rfl (jR_e (congrArg (fun z => some (Value.int z)) (jbC_t (Or.inr ⟨c_6, Or.inr ⟨c_30, Or.inr ⟨c_54, Int32.not_le.mp c_80⟩⟩⟩)).symm) rfl)
      · refine j_iload (q := 59) C dX0_isBetter_57 rfl rfl ?_
        refine j_aload_n (q := 60) C dX0_isBetter_59 rfl rfl rfl ?_
        refine jg_Ahead_bestTaxes (q := 63) C dX0_isBetter_60 rfl ha kw_234 ?_
        refine j_icmp_ge (q := 66) (tgt := 70) C dX0_isBetter_63 rfl (by decide) (fun c_63 => ?_) (fun c_63 => ?_)
        · refine j_iconst (v := nI 0) (q := 71) C dX0_isBetter_70 rfl (by decide) ?_
          refine j_goto (tgt := 88) C dX0_isBetter_71 (by decide) ?_
          exact j_zret C E dX0_isBetter_88 (by first | rfl | exact jb_nar) rfl rfl (jR_e (congrArg (fun z => some (Value.int z)) (jbC_f (fun hh => hh.elim (fun z => absurd (c_6 ▸ z) Int64.lt_irrefl) (fun z => z.2.elim (fun z => absurd (c_30 ▸ z) Int64.lt_irrefl) (fun z => z.2.elim (fun z => absurd z (Int32.not_lt.mpr c_63)) (fun z => c_54 z.1))))).symm) rfl)
        · refine j_iconst (v := nI 1) (q := 67) C dX0_isBetter_66 rfl (by decide) ?_
          refine j_goto (tgt := 88) C dX0_isBetter_67 (by decide) ?_
          exact j_zret C E dX0_isBetter_88 (by first | rfl | exact jb_nar) rfl rfl (jR_e (congrArg (fun z => some (Value.int z)) (jbC_t (Or.inr ⟨c_6, Or.inr ⟨c_30, Or.inl (Int32.not_le.mp c_63)⟩⟩)).symm) rfl)
    · refine j_lload_n (q := 34) C dX0_isBetter_33 rfl rfl rfl ?_
      refine j_aload_n (q := 35) C dX0_isBetter_34 rfl rfl rfl ?_
      refine jg_Ahead_bestPrice (q := 38) C dX0_isBetter_35 rfl ha kw_232 ?_
      refine j_lcmp_ge (q1 := 39) (q := 42) (tgt := 46) C dX0_isBetter_38 dX0_isBetter_39 rfl rfl (by decide) (fun c_39 => ?_) (fun c_39 => ?_)
      · refine j_iconst (v := nI 0) (q := 47) C dX0_isBetter_46 rfl (by decide) ?_
        exact j_zret C E dX0_isBetter_47 (by first | rfl | exact jb_nar) rfl rfl (jR_e (congrArg (fun z => some (Value.int z)) (jbC_f (fun hh => hh.elim (fun z => absurd (c_6 ▸ z) Int64.lt_irrefl) (fun z => z.2.elim (fun z => absurd z (Int64.not_lt.mpr c_39)) (fun z => c_30 z.1)))).symm) rfl)
      · refine j_iconst (v := nI 1) (q := 43) C dX0_isBetter_42 rfl (by decide) ?_
        refine j_goto (tgt := 47) C dX0_isBetter_43 (by decide) ?_
        exact j_zret C E dX0_isBetter_47 (by first | rfl | exact jb_nar) rfl rfl (jR_e (congrArg (fun z => some (Value.int z)) (jbC_t (Or.inr ⟨c_6, Or.inl (Int64.not_le.mp c_39)⟩)).symm) rfl)
  · refine j_lload_n (q := 10) C dX0_isBetter_9 rfl rfl rfl ?_
    refine j_aload_n (q := 11) C dX0_isBetter_10 rfl rfl rfl ?_
    refine jg_Ahead_bestHunger (q := 14) C dX0_isBetter_11 rfl ha kw_230 ?_
    refine j_lcmp_ge (q1 := 15) (q := 18) (tgt := 22) C dX0_isBetter_14 dX0_isBetter_15 rfl rfl (by decide) (fun c_15 => ?_) (fun c_15 => ?_)
    · refine j_iconst (v := nI 0) (q := 23) C dX0_isBetter_22 rfl (by decide) ?_
      exact j_zret C E dX0_isBetter_23 (by first | rfl | exact jb_nar) rfl rfl (jR_e (congrArg (fun z => some (Value.int z)) (jbC_f (fun hh => hh.elim (fun z => absurd z (Int64.not_lt.mpr c_15)) (fun z => c_6 z.1))).symm) rfl)
    · refine j_iconst (v := nI 1) (q := 19) C dX0_isBetter_18 rfl (by decide) ?_
      refine j_goto (tgt := 23) C dX0_isBetter_19 (by decide) ?_
      exact j_zret C E dX0_isBetter_23 (by first | rfl | exact jb_nar) rfl rfl (jR_e (congrArg (fun z => some (Value.int z)) (jbC_t (Or.inl (Int64.not_le.mp c_15))).symm) rfl)

set_option maxRecDepth 100000 in
set_option maxHeartbeats 4000000 in
theorem ctX0_weigh {G : jG} {sz : Nat} {Sh : jS} {M : jM} {ah w q pr lw jg mk : Nat} (ha : (Sh ah).1 = 0) (hW : wLay w q pr lw jg mk Sh M) {N : Nat → Int64} {d pe pa la : Nat} (hq : nQ True d pe pa la (vK w q pr lw M) N) (hO : nOk N d pe pa la) {H P : Nat → Int64} {V : Nat → Prop} (hb : bRel ah H P V M) {s : Nat} (hs : s < 256) (eH : nSum N 5 pe - M.2.1 ah 1 = H s) (eP : N (310 + d) = P s) : jC G yX0_weigh cX0_weigh 8 (Option.none : Option FieldType) (jrm 2 0 0) sz Sh M [.ref ah, .ref w, .int (nI s)] (jT sz Sh (fun r M2 => r = none ∧ mEq (fun b => b = ah) M M2 ∧ bRel ah H P (fun z => V z ∨ z = s) M2 ∧ M2.2.1 ah 1 = M.2.1 ah 1)) := by
  refine jC_start (by decide +kernel) (Nat.le_of_ble_eq_true rfl) (fun X C E hN0 => ?_)
  have hOM := hO.q hq
  have hpe : pe ≤ 10 := hO.2.1.2
  have hd3 : d ≤ 300 := hO.1.2
  have e5 := nSum_c hq (f := 5) (by omega) pe (Nat.le_refl _)
  have eK := hq.at (k := 310 + d) (by unfold nIn; omega)
  have ed : M.1 w 8 = nI d := i32_of (v := vK w q pr lw M 0) (by rw [vK_0]) hOM.1.1
  refine j_aload_n (q := 1) C dX0_weigh_0 rfl rfl rfl ?_
  refine jV1 jc9 (q := 4) C dX0_weigh_1 rfl hW.1.1 mX9_hungerOfAll kw_750 kw_751 kw_752 (ctX9_hungerOfAll hW rfl hOM.2.1.1 hpe) rfl rfl (by decide) (Nat.le_of_ble_eq_true rfl) (by decide) ?_
  rw [e5]
  refine j_aload_n (q := 5) C dX0_weigh_4 rfl rfl rfl ?_
  refine jg_Ahead_hungerBefore (q := 8) C dX0_weigh_5 rfl ha kw_229 ?_
  refine j_lsub (q := 9) C dX0_weigh_8 rfl ?_
  rw [eH]
  refine j_lstore_n (lv' := [(3, _), (0, _), (1, _), (2, _)]) (q := 10) C dX0_weigh_9 rfl rfl (by decide) rfl ?_
  refine j_aload_n (q := 11) C dX0_weigh_10 rfl rfl rfl ?_
  refine j_aload_n (q := 12) C dX0_weigh_11 rfl rfl rfl ?_
  refine jg_World_day (q := 15) C dX0_weigh_12 rfl hW.1.1 kw_212 ?_
  rw [ed]
  refine jV1 jc9 (q := 18) C dX0_weigh_15 rfl hW.1.1 mX9_priceOn kw_740 kw_378 kw_379 (ctX9_priceOn hW rfl (k := d) (by omega) (hOM.2.2.2.2.2 _ (Nat.le_refl _)).1) rfl rfl (by decide) (Nat.le_of_ble_eq_true rfl) (by decide) ?_
  rw [eK, eP]
  refine j_lstore (lv' := [(5, _), (3, _), (0, _), (1, _), (2, _)]) (q := 20) C dX0_weigh_18 rfl (by decide) rfl ?_
  refine j_iload_n (q := 21) C dX0_weigh_20 rfl rfl rfl ?_
  refine jS1 (q := 24) C dX0_weigh_21 rfl mJ6_bitCount_0f7a4 kw_759 kw_760 (ctJ6_bitCount_0f7a4 hs) rfl rfl (by decide) (Nat.le_of_ble_eq_true rfl) (by decide) ?_
  refine j_istore (lv' := [(7, _), (5, _), (3, _), (0, _), (1, _), (2, _)]) (q := 26) C dX0_weigh_24 rfl (by decide) rfl ?_
  refine j_aload_n (q := 27) C dX0_weigh_26 rfl rfl rfl ?_
  refine jg_Ahead_bestNumber (q := 30) C dX0_weigh_27 rfl ha kw_235 ?_
  refine j_if_lt (q := 33) (tgt := 46) C dX0_weigh_30 rfl (by decide) (fun c_30 => ?_) (fun c_30 => ?_)
  · refine j_aload_n (q := 47) C dX0_weigh_46 rfl rfl rfl ?_
    refine j_lload_n (q := 48) C dX0_weigh_47 rfl rfl rfl ?_
    refine jp_Ahead_bestHunger (q := 51) C dX0_weigh_48 rfl ha kw_230 ?_
    refine j_aload_n (q := 52) C dX0_weigh_51 rfl rfl rfl ?_
    refine j_lload (q := 54) C dX0_weigh_52 rfl rfl ?_
    refine jp_Ahead_bestPrice (q := 57) C dX0_weigh_54 rfl ha kw_232 ?_
    refine j_aload_n (q := 58) C dX0_weigh_57 rfl rfl rfl ?_
    refine j_iload (q := 60) C dX0_weigh_58 rfl rfl ?_
    refine jp_Ahead_bestTaxes (q := 63) C dX0_weigh_60 rfl ha kw_234 ?_
    refine j_aload_n (q := 64) C dX0_weigh_63 rfl rfl rfl ?_
    refine j_iload_n (q := 65) C dX0_weigh_64 rfl rfl rfl ?_
    refine jp_Ahead_bestNumber (q := 68) C dX0_weigh_65 rfl ha kw_235 ?_
    exact j_vret C E dX0_weigh_68 rfl rfl (by
          have hV : ∀ z, ¬ V z := by
            rcases hb.2 with ⟨-, h2⟩ | ⟨b, h1, -, -, -, h6⟩
            · exact h2
            · rw [h6] at c_30
              exact absurd c_30 (nI_pos (by have := hb.1 b h1.1; omega))
          exact ⟨rfl, rfl, rfl, ((((mEq.rf (S := fun b => b = ah)).L rfl).L rfl).I rfl).I rfl, ⟨fun z hz => hz.elim (fun y => hb.1 z y) (fun y => by omega), Or.inr ⟨s, isB.first hV, by simp [jsI, jsL, jup], by simp [jsI, jsL, jup], by simp [jsI, jsL, jup], by simp [jsI, jsL, jup]⟩⟩, by simp [jsI, jsL, jup]⟩)
  · refine j_aload_n (q := 34) C dX0_weigh_33 rfl rfl rfl ?_
    refine j_lload_n (q := 35) C dX0_weigh_34 rfl rfl rfl ?_
    refine j_lload (q := 37) C dX0_weigh_35 rfl rfl ?_
    refine j_iload (q := 39) C dX0_weigh_37 rfl rfl ?_
    refine j_iload_n (q := 40) C dX0_weigh_39 rfl rfl rfl ?_
    refine jV1 jc0 (q := 43) C dX0_weigh_40 rfl ha mX0_isBetter kw_765 kw_766 kw_24 (ctX0_isBetter ha) rfl rfl (by decide) (Nat.le_of_ble_eq_true rfl) (by decide) ?_
    refine j_if_eq (q := 46) (tgt := 68) C dX0_weigh_43 rfl (by decide) (fun c_43 => ?_) (fun c_43 => ?_)
    · exact j_vret C E dX0_weigh_68 rfl rfl (by
            have hbb : ∃ b, isB H P V b ∧ b < 256 ∧ M.2.1 ah 2 = H b ∧ M.2.1 ah 3 = P b ∧ M.1 ah 4 = nI (popc b) ∧ M.1 ah 5 = nI b := by
              rcases hb.2 with ⟨h1, -⟩ | ⟨b, h1, h2⟩
              · rw [h1] at c_30
                exact absurd (by decide) c_30
              · exact ⟨b, h1, hb.1 b h1.1, h2⟩
            obtain ⟨b, h1, h2, h3, h4, h5, h6⟩ := hbb
            rw [h3, h4, h5, h6] at c_43
            have hk : ¬ kLt H P s b := fun h => jbC_0.mp c_43 ((bet_k hs h2).mpr h)
            exact ⟨rfl, rfl, rfl, mEq.rf, ⟨fun z hz => hz.elim (fun y => hb.1 z y) (fun y => by omega), Or.inr ⟨b, h1.same hk, h3, h4, h5, h6⟩⟩, rfl⟩)
    · refine j_aload_n (q := 47) C dX0_weigh_46 rfl rfl rfl ?_
      refine j_lload_n (q := 48) C dX0_weigh_47 rfl rfl rfl ?_
      refine jp_Ahead_bestHunger (q := 51) C dX0_weigh_48 rfl ha kw_230 ?_
      refine j_aload_n (q := 52) C dX0_weigh_51 rfl rfl rfl ?_
      refine j_lload (q := 54) C dX0_weigh_52 rfl rfl ?_
      refine jp_Ahead_bestPrice (q := 57) C dX0_weigh_54 rfl ha kw_232 ?_
      refine j_aload_n (q := 58) C dX0_weigh_57 rfl rfl rfl ?_
      refine j_iload (q := 60) C dX0_weigh_58 rfl rfl ?_
      refine jp_Ahead_bestTaxes (q := 63) C dX0_weigh_60 rfl ha kw_234 ?_
      refine j_aload_n (q := 64) C dX0_weigh_63 rfl rfl rfl ?_
      refine j_iload_n (q := 65) C dX0_weigh_64 rfl rfl rfl ?_
      refine jp_Ahead_bestNumber (q := 68) C dX0_weigh_65 rfl ha kw_235 ?_
      exact j_vret C E dX0_weigh_68 rfl rfl (by
            have hbb : ∃ b, isB H P V b ∧ b < 256 ∧ M.2.1 ah 2 = H b ∧ M.2.1 ah 3 = P b ∧ M.1 ah 4 = nI (popc b) ∧ M.1 ah 5 = nI b := by
              rcases hb.2 with ⟨h1, -⟩ | ⟨b, h1, h2⟩
              · rw [h1] at c_30
                exact absurd (by decide) c_30
              · exact ⟨b, h1, hb.1 b h1.1, h2⟩
            obtain ⟨b, h1, h2, h3, h4, h5, h6⟩ := hbb
            rw [h3, h4, h5, h6] at c_43
            have hk := (bet_k hs h2).mp (jbC_n.mp c_43)
            exact ⟨rfl, rfl, rfl, ((((mEq.rf (S := fun b => b = ah)).L rfl).L rfl).I rfl).I rfl, ⟨fun z hz => hz.elim (fun y => hb.1 z y) (fun y => by omega), Or.inr ⟨s, h1.better hk, by simp [jsI, jsL, jup], by simp [jsI, jsL, jup], by simp [jsI, jsL, jup], by simp [jsI, jsL, jup]⟩⟩, by simp [jsI, jsL, jup]⟩)

