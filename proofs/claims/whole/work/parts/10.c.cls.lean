/-- the memory shows the parser's state q, in the class -/
def cSt (S : Nat → Prop) (rd : Nat) (Sh : jS) (T : Nat → Nat) (n : Nat) (M0 : jM) (P : List Nat) (M : jM) (q : pS) : Prop := ∃ K a b c d e, cP S rd Sh T n M0 M K a b c d e ∧ (q.1 = true → c = -24 ∧ e = nI (fr T n q.2.1) ∧ ∃ k, k ≤ 160 ∧ a = nI k) ∧ (q.1 = false → c = cTok (tk T n q.2.1) ∧ d = nI (fr T n q.2.1) ∧ e = -1 ∧ (¬ (tk T n q.2.1).1 = 4 → b = nI (tt T n q.2.1)) ∧ a = nI (P ++ q.2.2).length ∧ sAt K 0 (P ++ q.2.2))
def tFL : List (Nat × Nat) := [(0, 0), (1, 0), (1, 1), (1, 2), (1, 3), (1, 4), (1, 5), (1, 6), (1, 7), (1, 8), (1, 9), (1, 10), (1, 11), (1, 12), (3, 0), (3, 1), (3, 2), (3, 3), (3, 4), (3, 5), (3, 6), (3, 7), (3, 8), (4, 0)]
theorem tF_1 : ∀ u, u ∈ tFL → ∀ t, t ∈ tFL → cTok u = cTok t → u = t := by decide +kernel
theorem tF_2 : ∀ u, u ∈ tFL → cTok u < 0 := by decide +kernel
theorem tF_w : ∀ s, s < 13 → (1, s) ∈ tFL := by decide +kernel
theorem tF_s : ∀ s, s < 9 → (3, s) ∈ tFL := by decide +kernel
theorem tk_val {T : Nat → Nat} {n x : Nat} (hT : ∀ i, T i < 256) : (∃ k, k < 1000000 ∧ tk T n x = (2, k)) ∨ tk T n x ∈ tFL := by
  by_cases h2 : (tk T n x).1 = 2
  · exact Or.inl ⟨(tk T n x).2, (tk_num hT h2).1, tk_is.mpr ⟨h2, rfl⟩⟩
  · refine Or.inr ?_
    unfold tk at h2 ⊢
    by_cases c0 : fr T n x = n
    · rw [if_pos c0]; decide
    rw [if_neg c0] at h2 ⊢
    by_cases c1 : isLt (T (fr T n x)) = true
    · rw [if_pos c1]
      split
      · rename_i s hs
        exact tF_w s (by have := wF_lt _ _ _ hs; omega)
      · decide
    rw [if_neg c1] at h2 ⊢
    by_cases c2 : isDg (T (fr T n x)) = true
    · rw [if_pos c2] at h2 ⊢
      split
      · decide
      · rename_i h6
        rw [if_neg h6] at h2
        exact absurd rfl h2
    · rw [if_neg c2]
      split
      · rename_i s hs
        exact tF_s s (by have := sF_lt _ _ _ hs; omega)
      · decide
theorem cT_inj {T : Nat → Nat} {n x : Nat} {t : Nat × Nat} (hT : ∀ i, T i < 256) (ht : t ∈ tFL) (h : cTok (tk T n x) = cTok t) : tk T n x = t := by
  rcases tk_val (n := n) (x := x) hT with ⟨k, hk, e⟩ | e
  · rw [e] at h
    have h2 := tF_2 t ht
    rw [← h] at h2
    exact absurd h2 (nI_nneg (show k < 2 ^ 31 by omega))
  · exact tF_1 _ e t ht h
theorem pBad_i {q : pS} (h : q.1 = true) : pBad q = q := by
  obtain ⟨a, b, c⟩ := q
  simp only at h
  subst h
  rfl
theorem sAt_em {K : Nat → Int32} {L : List Nat} {c : Nat} (h : sAt K 0 L) : sAt (va_up K L.length (sEnc c)) 0 (L ++ [c]) := fun i x hx => by
  rw [Nat.zero_add]
  by_cases e : i = L.length
  · subst e
    rw [List.getElem?_append_right (Nat.le_refl _), Nat.sub_self] at hx
    cases hx
    exact va_up_self _ _ _
  · have hi : i < L.length := by
      have := (List.getElem?_eq_some_iff.mp hx).1
      rw [List.length_append] at this
      simp only [List.length_cons, List.length_nil] at this
      omega
    rw [List.getElem?_append_left hi] at hx
    rw [va_up_ne _ _ e]
    have := h i x hx
    rwa [Nat.zero_add] at this
section CST
variable {S : Nat → Prop} {rd : Nat} {Sh : jS} {T : Nat → Nat} {n : Nat} {M0 M : jM} {P : List Nat} {q : pS} {K : Nat → Int32} {a b c d e : Int32}
theorem cP_cd {k : Nat} {v : Int32} (hS : S (rd + 2)) (hQ : cP S rd Sh T n M0 M K a b c d e) : cP S rd Sh T n M0 (jsI M (rd + 2) k v) (va_up K k v) a b c d e := ⟨hQ.1.I hS, hQ.2.1, ⟨(upI (by omega)).trans hQ.2.2.1.1, hQ.2.2.1.2.1, hQ.2.2.1.2.2.1, fun i hi => (upI (by omega)).trans (hQ.2.2.1.2.2.2 i hi)⟩, (upI (by omega)).trans hQ.2.2.2.1, (upI (by omega)).trans hQ.2.2.2.2.1, (upI (by omega)).trans hQ.2.2.2.2.2.1, (upI (by omega)).trans hQ.2.2.2.2.2.2.1, (upI (by omega)).trans hQ.2.2.2.2.2.2.2.1, by rw [← hQ.2.2.2.2.2.2.2.2]; exact jup_row⟩
theorem cSt_lay (h : cSt S rd Sh T n M0 P M q) : cLay rd Sh M ∧ cTp rd M T n := by
  obtain ⟨K, a, b, c, d, e, hQ, -⟩ := h
  exact ⟨hQ.2.1, hQ.2.2.1⟩
theorem cSt_nx (hq : q.1 = false) (h : cNx S rd Sh T n (tt T n q.2.1) M0 M K (nI (P ++ q.2.2).length) (-1)) (hK : sAt K 0 (P ++ q.2.2)) : cSt S rd Sh T n M0 P M (pNx T n q) := by
  rw [pNx_f hq]
  obtain ⟨b, h1, h2⟩ := h
  exact ⟨K, _, b, _, _, _, h1, fun h => (by cases h), fun _ => ⟨rfl, rfl, rfl, h2, rfl, hK⟩⟩
theorem cSt_bad (hQ : cP S rd Sh T n M0 M K a b (-24) d (nI (fr T n q.2.1))) (ha : ∃ k, k ≤ 160 ∧ a = nI k) : cSt S rd Sh T n M0 P M (pBad q) := ⟨K, a, b, _, d, _, hQ, fun _ => ⟨rfl, rfl, ha⟩, fun h => by cases h⟩
theorem cSt_a (hl : q.1 = false → (P ++ q.2.2).length ≤ 160) (hb : q.1 = true → c = -24 ∧ e = nI (fr T n q.2.1) ∧ ∃ k, k ≤ 160 ∧ a = nI k) (hg : q.1 = false → c = cTok (tk T n q.2.1) ∧ d = nI (fr T n q.2.1) ∧ e = -1 ∧ (¬ (tk T n q.2.1).1 = 4 → b = nI (tt T n q.2.1)) ∧ a = nI (P ++ q.2.2).length ∧ sAt K 0 (P ++ q.2.2)) : ∃ k, k ≤ 160 ∧ a = nI k := by
  by_cases h : q.1 = true
  · exact (hb h).2.2
  · exact ⟨_, hl (bf h), (hg (bf h)).2.2.2.2.1⟩
end CST
theorem pI_l0 {n : Nat} {P : List Nat} {q : pS} (hn : n ≤ 160) (h : pI n P q) : q.1 = false → (P ++ q.2.2).length ≤ 160 := fun hq => by
  have := h.2 hq
  have := h.1
  rw [List.length_append]; omega
set_option maxRecDepth 100000 in
set_option maxHeartbeats 4000000 in
theorem ctX7_refuse {G : jG} {sz : Nat} {Sh : jS} {M : jM} {rd : Nat} {S : Nat → Prop} {T : Nat → Nat} {n : Nat} {M0 : jM} {P : List Nat} {q : pS} (hSo : S rd) (hSc : S (rd + 2)) (hI : pI n P q) (hS : cSt S rd Sh T n M0 P M q) : jC G yX7_refuse cX7_refuse 1 (Option.none : Option FieldType) (jrm 1 0 0) sz Sh M [.ref rd] (jT sz Sh (fun r M1 => r = none ∧ cSt S rd Sh T n M0 P M1 (pBad q))) := by
  refine jC_start (by decide +kernel) (Nat.le_of_ble_eq_true rfl) (fun X C E hN0 => ?_)
  have hn160 : n ≤ 160 := (cSt_lay hS).2.2.1
  have hT := (cSt_lay hS).2.2.2.1
  have hS0 := hS
  obtain ⟨K, a, b, c, d, e, hQ, hB, hG⟩ := hS0
  refine j_aload_n (q := 1) C dX7_refuse_0 rfl rfl rfl ?_
  refine cg_fault hQ (q' := 4) C dX7_refuse_1 rfl kw_250 ?_
  refine j_if_ge (q := 7) (tgt := 15) C dX7_refuse_4 rfl (by decide) (fun c_4 => ?_) (fun c_4 => ?_)
  · refine j_aload_n (q := 16) C dX7_refuse_15 rfl rfl rfl ?_
    refine j_bipush (v := (-24)) (q := 18) C dX7_refuse_16 rfl (by decide) ?_
    refine cp_token hSo hQ (q' := 21) C dX7_refuse_18 rfl kw_248 (fun M hQ => ?_)
    exact j_vret C E dX7_refuse_21 rfl rfl (by
        refine ⟨rfl, rfl, rfl, ?_⟩
        by_cases hq : q.1 = true
        · obtain ⟨-, rfl, h3⟩ := hB hq
          exact cSt_bad hQ h3
        · obtain ⟨-, -, h3, -⟩ := hG (bf hq)
          rw [h3] at c_4
          exact absurd c_4 (by decide))
  · refine j_aload_n (q := 8) C dX7_refuse_7 rfl rfl rfl ?_
    refine j_aload_n (q := 9) C dX7_refuse_8 rfl rfl rfl ?_
    refine cg_tokenAt hQ (q' := 12) C dX7_refuse_9 rfl kw_249 ?_
    refine cp_fault hSo hQ (q' := 15) C dX7_refuse_12 rfl kw_250 (fun M hQ => ?_)
    refine j_aload_n (q := 16) C dX7_refuse_15 rfl rfl rfl ?_
    refine j_bipush (v := (-24)) (q := 18) C dX7_refuse_16 rfl (by decide) ?_
    refine cp_token hSo hQ (q' := 21) C dX7_refuse_18 rfl kw_248 (fun M hQ => ?_)
    exact j_vret C E dX7_refuse_21 rfl rfl (by
        refine ⟨rfl, rfl, rfl, ?_⟩
        by_cases hq : q.1 = true
        · obtain ⟨-, h2, h3⟩ := hB hq
          rw [h2] at c_4
          exact absurd (nI_le (Nat.zero_le _) (by have := fr_le (T := T) hI.1; omega)) c_4
        · obtain ⟨-, rfl, -, -, h3, -⟩ := hG (bf hq)
          exact cSt_bad hQ ⟨_, pI_l0 hn160 hI (bf hq), h3⟩)

set_option maxRecDepth 100000 in
set_option maxHeartbeats 4000000 in
theorem ctX7_emit {G : jG} {sz : Nat} {Sh : jS} {M : jM} {rd : Nat} {S : Nat → Prop} {T : Nat → Nat} {n : Nat} {M0 : jM} {P : List Nat} {q : pS} (hSo : S rd) (hSc : S (rd + 2)) (hI : pI n P q) (hS : cSt S rd Sh T n M0 P M q) (hl : q.1 = false → (P ++ q.2.2).length ≤ 159) {v : Int32} {k0 : Nat} (hv : v = sEnc k0) : jC G yX7_emit cX7_emit 2 (Option.none : Option FieldType) (jrm 1 0 0) sz Sh M [.ref rd, .int v] (jT sz Sh (fun r M1 => r = none ∧ cSt S rd Sh T n M0 P M1 (pEm k0 q))) := by
  refine jC_start (by decide +kernel) (Nat.le_of_ble_eq_true rfl) (fun X C E hN0 => ?_)
  have hn160 : n ≤ 160 := (cSt_lay hS).2.2.1
  have hT := (cSt_lay hS).2.2.2.1
  have hS0 := hS
  obtain ⟨K, a, b, c, d, e, hQ, hB, hG⟩ := hS0
  obtain ⟨k, hk, rfl⟩ := cSt_a (pI_l0 hn160 hI) hB hG
  refine j_aload_n (q := 1) C dX7_emit_0 rfl rfl rfl ?_
  refine cg_made hQ (q' := 4) C dX7_emit_1 rfl kw_246 ?_
  refine j_aload_n (q := 5) C dX7_emit_4 rfl rfl rfl ?_
  refine jg_Reader_steps (q := 8) C dX7_emit_5 rfl hQ.2.1.1 kw_243 hQ.2.1.2.2.2.2 ?_
  refine j_alen (q := 9) C dX7_emit_8 rfl hQ.2.1.2.2.1 (by decide) (t0 := 1) rfl ?_
  refine j_icmp_ge (q := 12) (tgt := 32) C dX7_emit_9 rfl (by decide) (fun c_9 => ?_) (fun c_9 => ?_)
  · exact j_vret C E dX7_emit_32 rfl rfl (by
        refine ⟨rfl, rfl, rfl, ?_⟩
        have hk160 := (nI_leI (by omega) (by omega)).mp c_9
        by_cases hq : q.1 = true
        · rw [pEm_t hq]; exact hS
        · have h5 := (hG (bf hq)).2.2.2.2.1
          have := (nI_eq (by omega) (by have := hl (bf hq); omega)).mp h5
          have := hl (bf hq)
          omega)
  · have hk160 : k < 160 := Nat.lt_of_not_le (fun h => c_9 (nI_le h (by omega)))
    refine j_aload_n (q := 13) C dX7_emit_12 rfl rfl rfl ?_
    refine jg_Reader_steps (q := 16) C dX7_emit_13 rfl hQ.2.1.1 kw_243 hQ.2.1.2.2.2.2 ?_
    refine j_aload_n (q := 17) C dX7_emit_16 rfl rfl rfl ?_
    refine cg_made hQ (q' := 20) C dX7_emit_17 rfl kw_246 ?_
    refine j_iload_n (q := 21) C dX7_emit_20 rfl rfl rfl ?_
    refine j_iast (q := 22) C dX7_emit_21 rfl hQ.2.1.2.2.1 (show k < 160 by omega) (by decide) ?_
    have hQ := cP_cd (k := k) (v := v) hSc hQ
    refine j_aload_n (q := 23) C dX7_emit_22 rfl rfl rfl ?_
    refine j_dup (q := 24) C dX7_emit_23 rfl rfl ?_
    refine cg_made hQ (q' := 27) C dX7_emit_24 rfl kw_246 ?_
    refine j_iconst (v := nI 1) (q := 28) C dX7_emit_27 rfl (by decide) ?_
    first | refine j_iaddN (q := 29) C dX7_emit_28 rfl ?_ | refine j_iadd (q := 29) C dX7_emit_28 rfl ?_
    refine cp_made hSo hQ (q' := 32) C dX7_emit_29 rfl kw_246 (fun M hQ => ?_)
    exact j_vret C E dX7_emit_32 rfl rfl (by
        refine ⟨rfl, rfl, rfl, ?_⟩
        by_cases hq : q.1 = true
        · rw [pEm_t hq]
          obtain ⟨h1, h2, h3⟩ := hB hq
          exact ⟨_, _, _, _, _, _, hQ, fun _ => ⟨h1, h2, k + 1, by omega, rfl⟩, fun h => absurd hq (by rw [h]; decide)⟩
        · obtain ⟨h1, h2, h3, h4, h5, h6⟩ := hG (bf hq)
          have hkl : k = (P ++ q.2.2).length := (nI_eq (by omega) (by have := hl (bf hq); omega)).mp h5
          rw [pEm_f (bf hq)]
          refine ⟨_, _, _, _, _, _, hQ, fun h => (by cases h), fun _ => ⟨h1, h2, h3, h4, ?_, ?_⟩⟩
          · refine congrArg nI ?_
            show k + 1 = (P ++ (q.2.2 ++ [k0])).length
            rw [hkl]
            simp only [List.length_append, List.length_cons, List.length_nil]
            omega
          · show sAt (va_up K k v) 0 (P ++ (q.2.2 ++ [k0]))
            rw [hkl, hv, ← List.append_assoc]
            exact sAt_em h6)

set_option maxRecDepth 100000 in
set_option maxHeartbeats 4000000 in
theorem ctX7_expect {G : jG} {sz : Nat} {Sh : jS} {M : jM} {rd : Nat} {S : Nat → Prop} {T : Nat → Nat} {n : Nat} {M0 : jM} {P : List Nat} {q : pS} (hSo : S rd) (hSc : S (rd + 2)) (hI : pI n P q) (hS : cSt S rd Sh T n M0 P M q) {v : Int32} {t : Nat × Nat} (ht : t ∈ tFL) (h4 : ¬ t.1 = 4) (hv : v = cTok t) : jC G yX7_expect cX7_expect 2 (Option.none : Option FieldType) (jrm 9 0 0) sz Sh M [.ref rd, .int v] (jT sz Sh (fun r M1 => r = none ∧ cSt S rd Sh T n M0 P M1 (pExp T n t q))) := by
  refine jC_start (by decide +kernel) (Nat.le_of_ble_eq_true rfl) (fun X C E hN0 => ?_)
  have hn160 : n ≤ 160 := (cSt_lay hS).2.2.1
  have hT := (cSt_lay hS).2.2.2.1
  have hS0 := hS
  obtain ⟨K, a, b, c, d, e, hQ, hB, hG⟩ := hS0
  refine j_aload_n (q := 1) C dX7_expect_0 rfl rfl rfl ?_
  refine cg_token hQ (q' := 4) C dX7_expect_1 rfl kw_248 ?_
  refine j_iload_n (q := 5) C dX7_expect_4 rfl rfl rfl ?_
  refine j_icmp_ne (q := 8) (tgt := 15) C dX7_expect_5 rfl (by decide) (fun c_5 => ?_) (fun c_5 => ?_)
  · refine j_aload_n (q := 16) C dX7_expect_15 rfl rfl rfl ?_
    refine jVT jc7 (q := 19) C dX7_expect_16 rfl hQ.2.1.1 mX7_refuse kw_541 kw_542 kw_10 (ctX7_refuse hSo hSc hI hS) rfl rfl (by decide) (Nat.le_of_ble_eq_true rfl) (by decide) (fun r_16 M_16 h_16 => ?_)
    obtain ⟨rfl, hS1⟩ := h_16
    exact j_vret C E dX7_expect_19 rfl rfl (by
        refine ⟨rfl, rfl, rfl, ?_⟩
        rw [show pExp T n t q = pBad q by
          unfold pExp
          by_cases hq : q.1 = true
          · rw [if_pos hq, pBad_i hq]
          · rw [if_neg hq, if_neg (fun h => c_5 (by rw [(hG (bf hq)).1, h, hv]))]]
        exact hS1)
  · have hq : q.1 = false := bf (fun hq => by
      rw [(hB hq).1, hv] at c_5
      have := tF_1 (4, 0) (by decide) t ht c_5
      exact h4 (by rw [← this]))
    obtain ⟨rfl, rfl, rfl, h3, rfl, hK⟩ := hG hq
    have htk : tk T n q.2.1 = t := cT_inj hT ht (c_5.trans hv)
    obtain rfl := h3 (by rw [htk]; exact h4)
    refine j_aload_n (q := 9) C dX7_expect_8 rfl rfl rfl ?_
    refine jVT jc7 (q := 12) C dX7_expect_9 rfl hQ.2.1.1 mX7_advance kw_471 kw_472 kw_3 (ctX7_advance hSo hQ (tt_n (T := T) hI.1).1) rfl rfl (by decide) (Nat.le_of_ble_eq_true rfl) (by decide) (fun r_9 M_9 h_9 => ?_)
    obtain ⟨rfl, hN⟩ := h_9
    have hS1 := cSt_nx hq hN hK
    refine j_goto (tgt := 19) C dX7_expect_12 (by decide) ?_
    exact j_vret C E dX7_expect_19 rfl rfl (⟨rfl, rfl, rfl, by rw [show pExp T n t q = pNx T n q by unfold pExp; rw [if_neg (by rw [hq]; decide), if_pos htk]]; exact hS1⟩)

