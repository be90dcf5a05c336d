/-- the memory shows the parser's state q -/
def rSt (S : Nat → Prop) (o : Nat) (Sh : jS) (T : Nat → Nat) (n : Nat) (M0 : jM) (m : Nat) (P : List Nat) (M : jM) (q : pS) : Prop := ∃ K b c d g, rP S o Sh T n M0 M K (nI (fr T n q.2.1)) b c d (jb (q.1 = true)) (nI m) g ∧ (q.1 = false → b = nI (tt T n q.2.1) ∧ c = nI (tk T n q.2.1).1 ∧ ((tk T n q.2.1).1 = 1 → d = nI (wps.getD (tk T n q.2.1).2 0)) ∧ g = nI (P ++ q.2.2).length ∧ ∀ i, i < (P ++ q.2.2).length → K i = nI ((P ++ q.2.2).getD i 0))
def pI (n : Nat) (P : List Nat) (q : pS) : Prop := q.2.1 ≤ n ∧ (q.1 = false → P.length + q.2.2.length ≤ q.2.1)
section PI
variable {T : Nat → Nat} {n : Nat} {P : List Nat} {q : pS}
theorem pI_sub {k : Nat} {g : pS → pS} (hs : pG n k g) (h : pI n P q) : pI n P (g q) := by
  obtain ⟨h1, h2, h3, h4⟩ := hs q h.1
  refine ⟨h2, fun hf => ?_⟩
  obtain ⟨a, b, A, c, d, e⟩ := h4 hf
  have := h.2 a
  rw [c, List.length_append]
  omega
theorem pI_nx (hq : q.1 = false) (ht : ¬ (tk T n q.2.1).1 = 0) (h : pI n P q) : pI n P (pNx T n q) ∧ P.length + (pNx T n q).2.2.length + 1 ≤ (pNx T n q).2.1 := by
  have h1 := tk_in (T := T) ht h.1
  have h2 := tt_n (T := T) h.1
  have h3 := h.2 hq
  rw [pNx_f hq]
  exact ⟨⟨h2.1, fun _ => (show P.length + q.2.2.length ≤ tt T n q.2.1 by omega)⟩, (show P.length + q.2.2.length + 1 ≤ tt T n q.2.1 by omega)⟩
theorem pI_step {k c : Nat} {sub : pS → pS} (hs : pG n k sub) (hq : q.1 = false) (ht : ¬ (tk T n q.2.1).1 = 0) (h : pI n P q) : pI n P (pNx T n q) ∧ pI n P (sub (pNx T n q)) ∧ pI n P (pEm c (sub (pNx T n q))) ∧ q.2.1 + 1 ≤ (pEm c (sub (pNx T n q))).2.1 := by
  obtain ⟨a1, a2⟩ := pI_nx (T := T) hq ht h
  have b := pI_sub (P := P) hs a1
  obtain ⟨h1, h2, h3, h4⟩ := hs _ a1.1
  have h5 := tk_in (T := T) ht h.1
  have e2 : (pNx T n q).2.1 = tt T n q.2.1 := by rw [pNx_f hq]
  have e21 : (pEm c (sub (pNx T n q))).2.1 = (sub (pNx T n q)).2.1 := by
    unfold pEm; split <;> rfl
  refine ⟨a1, b, ⟨by rw [e21]; exact b.1, fun hf => ?_⟩, by rw [e21]; omega⟩
  have hsf : (sub (pNx T n q)).1 = false := bf (fun e => by rw [pEm_t e, e] at hf; cases hf)
  obtain ⟨c1, c2, A, c3, c4, c5⟩ := h4 hsf
  rw [pEm_f hsf]
  show P.length + ((sub (pNx T n q)).2.2 ++ [c]).length ≤ (sub (pNx T n q)).2.1
  rw [c3]
  simp only [List.length_append, List.length_cons, List.length_nil]
  omega
theorem pI_l (hn : n ≤ 160) (h : pI n P q) : q.1 = false → (P ++ q.2.2).length ≤ 167 := fun hq => by
  have := h.2 hq
  have := h.1
  rw [List.length_append]; omega
end PI
section RST
variable {S : Nat → Prop} {o : Nat} {Sh : jS} {T : Nat → Nat} {n : Nat} {M0 M : jM} {m : Nat} {P : List Nat} {q : pS} {K : Nat → Int32} {a b c d e f g : Int32}
theorem rP_cd {k : Nat} {v : Int32} (hS : S (o + 10)) (hQ : rP S o Sh T n M0 M K a b c d e f g) : rP S o Sh T n M0 (jsI M (o + 10) k v) (va_up K k v) a b c d e f g := ⟨hQ.1.I hS, fun j hj => (upI (by omega)).trans (hQ.2.1 j hj), hQ.2.2.1, ⟨(upI (by omega)).trans hQ.2.2.2.1.1, hQ.2.2.2.1.2.1, hQ.2.2.2.1.2.2.1, fun i hi => (upI (by omega)).trans (hQ.2.2.2.1.2.2.2 i hi)⟩, (upI (by omega)).trans hQ.2.2.2.2.1, (upI (by omega)).trans hQ.2.2.2.2.2.1, (upI (by omega)).trans hQ.2.2.2.2.2.2.1, (upI (by omega)).trans hQ.2.2.2.2.2.2.2.1, (upI (by omega)).trans hQ.2.2.2.2.2.2.2.2.1, (upI (by omega)).trans hQ.2.2.2.2.2.2.2.2.2.1, (upI (by omega)).trans hQ.2.2.2.2.2.2.2.2.2.2.1, by rw [← hQ.2.2.2.2.2.2.2.2.2.2.2]; exact jup_row⟩
theorem rSt_em {k : Nat} (hq : q.1 = false) (hQ : rP S o Sh T n M0 M (va_up K (P ++ q.2.2).length (nI k)) (nI (fr T n q.2.1)) (nI (tt T n q.2.1)) (nI (tk T n q.2.1).1) d (jb (q.1 = true)) (nI m) (nI ((P ++ q.2.2).length + 1))) (hd : (tk T n q.2.1).1 = 1 → d = nI (wps.getD (tk T n q.2.1).2 0)) (hK : ∀ i, i < (P ++ q.2.2).length → K i = nI ((P ++ q.2.2).getD i 0)) : rSt S o Sh T n M0 m P M (pEm k q) := by
  rw [pEm_f hq]
  have hl : (P ++ (q.2.2 ++ [k])).length = (P ++ q.2.2).length + 1 := by simp only [List.length_append, List.length_cons, List.length_nil]; omega
  refine ⟨va_up K (P ++ q.2.2).length (nI k), _, _, d, nI ((P ++ q.2.2).length + 1), ?_, fun _ => ⟨rfl, rfl, hd, ?_, fun i hi => ?_⟩⟩
  · show rP S o Sh T n M0 M _ _ _ _ _ (jb (false = true)) _ _
    rw [show jb (false = true) = jb (q.1 = true) by rw [hq]]
    exact hQ
  · exact congrArg nI hl.symm
  · show va_up K _ (nI k) i = nI ((P ++ (q.2.2 ++ [k])).getD i 0)
    rw [← List.append_assoc]
    have hi' : i < (P ++ q.2.2).length + 1 := by rw [← hl]; exact hi
    by_cases e : i = (P ++ q.2.2).length
    · subst e
      rw [va_up_self, List.getD_eq_getElem?_getD, List.getElem?_append_right (Nat.le_refl _), Nat.sub_self]; rfl
    · rw [va_up_ne _ _ e, hK i (by omega), List.getD_eq_getElem?_getD, List.getD_eq_getElem?_getD, List.getElem?_append_left (show i < (P ++ q.2.2).length by omega)]
theorem rSt_nx (hq : q.1 = false) (h : nxP S o Sh T n (tt T n q.2.1) (jb (q.1 = true)) (nI m) (nI (P ++ q.2.2).length) M0 M K) (hK : ∀ i, i < (P ++ q.2.2).length → K i = nI ((P ++ q.2.2).getD i 0)) : rSt S o Sh T n M0 m P M (pNx T n q) := by
  rw [pNx_f hq]
  obtain ⟨d, h1, h2⟩ := h
  exact ⟨K, _, _, d, _, by show rP S o Sh T n M0 M _ _ _ _ _ (jb (false = true)) _ _; rw [show jb (false = true) = jb (q.1 = true) by rw [hq]]; exact h1, fun _ => ⟨rfl, rfl, h2, rfl, hK⟩⟩
theorem rSt_bad (hq : q.1 = true) (hQ : rP S o Sh T n M0 M K (nI (fr T n q.2.1)) b c d (nI 1) (nI m) g) : rSt S o Sh T n M0 m P M q := ⟨K, b, c, d, g, by rw [jb_t hq]; exact hQ, fun h => by rw [hq] at h; cases h⟩
theorem rSt_lay (h : rSt S o Sh T n M0 m P M q) : rLay o Sh M ∧ rTp o M T n := by
  obtain ⟨K, b, c, d, g, hQ, -⟩ := h
  exact ⟨hQ.2.2.1, hQ.2.2.2.1⟩
end RST
theorem sF_sp {c : Nat} : ∀ f k s, sF c k f = some s → sgs.getD s 0 = c
  | 0, k, s, h => by rw [sF] at h; cases h
  | f + 1, k, s, h => by
    rw [sF] at h
    split at h
    · rename_i e; cases h; exact e
    · exact sF_sp f (k + 1) s h
theorem sgs_inj : ∀ s, s < 9 → ∀ t, t < 9 → sgs.getD s 0 = sgs.getD t 0 → s = t := by decide +kernel
theorem sgs_lt : ∀ s, s < 9 → sgs.getD s 0 < 128 := by decide +kernel
theorem wps7 : ∀ s, s < 13 → (wps.getD s 0 ≤ 30 ↔ s < 7) := by decide +kernel
theorem tk_sgn {T : Nat → Nat} {n x : Nat} (h : (tk T n x).1 = 3) : sgs.getD (tk T n x).2 0 = T (fr T n x) := by
  unfold tk at h ⊢
  by_cases c0 : fr T n x = n
  · rw [if_pos c0] at h; exact absurd h (by decide)
  rw [if_neg c0] at h ⊢
  by_cases c1 : isLt (T (fr T n x)) = true
  · rw [if_pos c1] at h
    split at h <;> exact absurd h (by simp)
  rw [if_neg c1] at h ⊢
  by_cases c2 : isDg (T (fr T n x)) = true
  · rw [if_pos c2] at h
    split at h <;> exact absurd h (by simp)
  rw [if_neg c2] at h ⊢
  split at h
  · rename_i s hs
    exact sF_sp _ _ _ hs
  · exact absurd h (by simp)
theorem tk_is {t : Nat × Nat} {a b : Nat} : t = (a, b) ↔ t.1 = a ∧ t.2 = b := by
  obtain ⟨x, y⟩ := t
  simp
theorem need_exp {T : Nat → Nat} {n : Nat} {q : pS} {t : Nat × Nat} : (if q.1 = true then q else if q.1 = false ∧ tk T n q.2.1 = t then pNx T n q else pBad q) = pExp T n t q := by
  unfold pExp
  by_cases h : q.1 = true
  · rw [if_pos h, if_pos h]
  · rw [if_neg h, if_neg h]
    by_cases c : tk T n q.2.1 = t
    · rw [if_pos c, if_pos ⟨bf h, c⟩]
    · rw [if_neg c, if_neg (fun g => c g.2)]
set_option maxRecDepth 100000 in
set_option maxHeartbeats 4000000 in
theorem ctX11_isWord {G : jG} {sz : Nat} {Sh : jS} {M : jM} {o : Nat} {S : Nat → Prop} {T : Nat → Nat} {n m : Nat} {M0 : jM} {P : List Nat} {q : pS} (hS : rSt S o Sh T n M0 m P M q) {s k : Nat} (hs : s < 13) (hk : wps.getD s 0 = k) : jC G yX11_isWord cX11_isWord 2 (Option.some FieldType.boolean) (jrm 1 0 0) sz Sh M [.ref o, .int (nI k)] (jR (some (.int (jb (q.1 = false ∧ tk T n q.2.1 = (1, s))))) sz Sh M) := by
  refine jC_start (by decide +kernel) (Nat.le_of_ble_eq_true rfl) (fun X C E hN0 => ?_)
  have hS0 := hS
  obtain ⟨K, b, c, d, g, hQ, hG⟩ := hS0
  refine j_aload_n (q := 1) C dX11_isWord_0 rfl rfl rfl ?_
  refine qg_isFault hQ (q' := 4) C dX11_isWord_1 rfl kw_885 ?_
  refine j_if_ne (q := 7) (tgt := 27) C dX11_isWord_4 rfl (by decide) (fun c_4 => ?_) (fun c_4 => ?_)
  · refine j_iconst (v := nI 0) (q := 28) C dX11_isWord_27 rfl (by decide) ?_
    exact j_zret C E dX11_isWord_28 (by first | rfl | exact jb_nar) rfl rfl (jR_e (congrArg (fun z => some (Value.int z)) (jb_f (fun h => by rw [h.1] at c_4; exact c_4 rfl)).symm) rfl)
  · have hq : q.1 = false := bf (jb_0.mp c_4)
    obtain ⟨rfl, rfl, hd, rfl, hK⟩ := hG hq
    have hts := tk_sort (T := T) (n := n) (x := q.2.1)
    refine j_aload_n (q := 8) C dX11_isWord_7 rfl rfl rfl ?_
    refine qg_sort hQ (q' := 11) C dX11_isWord_8 rfl kw_883 ?_
    refine j_iconst (v := nI 1) (q := 12) C dX11_isWord_11 rfl (by decide) ?_
    refine j_icmp_ne (q := 15) (tgt := 27) C dX11_isWord_12 rfl (by decide) (fun c_12 => ?_) (fun c_12 => ?_)
    · refine j_iconst (v := nI 0) (q := 28) C dX11_isWord_27 rfl (by decide) ?_
      exact j_zret C E dX11_isWord_28 (by first | rfl | exact jb_nar) rfl rfl (jR_e (congrArg (fun z => some (Value.int z)) (jb_f (fun h => c_12 (by rw [(tk_is.mp h.2).1]))).symm) rfl)
    · have c_12 : (tk T n q.2.1).1 = 1 := (nI_eq (by omega) (by omega)).mp c_12
      obtain rfl := hd c_12
      have hw1 := wps_lt _ (hts.2.1 c_12)
      have hw2 := wps_lt s hs
      refine j_aload_n (q := 16) C dX11_isWord_15 rfl rfl rfl ?_
      refine qg_which hQ (q' := 19) C dX11_isWord_16 rfl kw_884 ?_
      refine j_iload_n (q := 20) C dX11_isWord_19 rfl rfl rfl ?_
      refine j_icmp_ne (q := 23) (tgt := 27) C dX11_isWord_20 rfl (by decide) (fun c_20 => ?_) (fun c_20 => ?_)
      · refine j_iconst (v := nI 0) (q := 28) C dX11_isWord_27 rfl (by decide) ?_
        exact j_zret C E dX11_isWord_28 (by first | rfl | exact jb_nar) rfl rfl (jR_e (congrArg (fun z => some (Value.int z)) (jb_f (fun h => c_20 (by rw [(tk_is.mp h.2).2, hk]))).symm) rfl)
      · refine j_iconst (v := nI 1) (q := 24) C dX11_isWord_23 rfl (by decide) ?_
        refine j_goto (tgt := 28) C dX11_isWord_24 (by decide) ?_
        exact j_zret C E dX11_isWord_28 (by first | rfl | exact jb_nar) rfl rfl (jR_e (congrArg (fun z => some (Value.int z)) (jb_t ⟨hq, tk_is.mpr ⟨c_12, w_F5 _ (hts.2.1 c_12) s hs (((nI_eq (by omega) (by omega)).mp c_20).trans hk.symm)⟩⟩).symm) rfl)

set_option maxRecDepth 100000 in
set_option maxHeartbeats 4000000 in
theorem ctX11_isSign {G : jG} {sz : Nat} {Sh : jS} {M : jM} {o : Nat} {S : Nat → Prop} {T : Nat → Nat} {n m : Nat} {M0 : jM} {P : List Nat} {q : pS} (hS : rSt S o Sh T n M0 m P M q) (hI : q.2.1 ≤ n) {s k : Nat} (hs : s < 9) (hk : sgs.getD s 0 = k) : jC G yX11_isSign cX11_isSign 2 (Option.some FieldType.boolean) (jrm 1 0 0) sz Sh M [.ref o, .int (nI k)] (jR (some (.int (jb (q.1 = false ∧ tk T n q.2.1 = (3, s))))) sz Sh M) := by
  refine jC_start (by decide +kernel) (Nat.le_of_ble_eq_true rfl) (fun X C E hN0 => ?_)
  have hS0 := hS
  obtain ⟨K, b, c, d, g, hQ, hG⟩ := hS0
  refine j_aload_n (q := 1) C dX11_isSign_0 rfl rfl rfl ?_
  refine qg_isFault hQ (q' := 4) C dX11_isSign_1 rfl kw_885 ?_
  refine j_if_ne (q := 7) (tgt := 32) C dX11_isSign_4 rfl (by decide) (fun c_4 => ?_) (fun c_4 => ?_)
  · refine j_iconst (v := nI 0) (q := 33) C dX11_isSign_32 rfl (by decide) ?_
    exact j_zret C E dX11_isSign_33 (by first | rfl | exact jb_nar) rfl rfl (jR_e (congrArg (fun z => some (Value.int z)) (jb_f (fun h => by rw [h.1] at c_4; exact c_4 rfl)).symm) rfl)
  · have hq : q.1 = false := bf (jb_0.mp c_4)
    obtain ⟨rfl, rfl, hd, rfl, hK⟩ := hG hq
    have hts := tk_sort (T := T) (n := n) (x := q.2.1)
    refine j_aload_n (q := 8) C dX11_isSign_7 rfl rfl rfl ?_
    refine qg_sort hQ (q' := 11) C dX11_isSign_8 rfl kw_883 ?_
    refine j_iconst (v := nI 3) (q := 12) C dX11_isSign_11 rfl (by decide) ?_
    refine j_icmp_ne (q := 15) (tgt := 32) C dX11_isSign_12 rfl (by decide) (fun c_12 => ?_) (fun c_12 => ?_)
    · refine j_iconst (v := nI 0) (q := 33) C dX11_isSign_32 rfl (by decide) ?_
      exact j_zret C E dX11_isSign_33 (by first | rfl | exact jb_nar) rfl rfl (jR_e (congrArg (fun z => some (Value.int z)) (jb_f (fun h => c_12 (by rw [(tk_is.mp h.2).1]))).symm) rfl)
    · have c_12 : (tk T n q.2.1).1 = 3 := (nI_eq (by omega) (by omega)).mp c_12
      have hfn : fr T n q.2.1 < n := by
        have h1 := fr_le (T := T) hI
        have h2 : ¬ fr T n q.2.1 = n := fun e => by
          rw [tk_end.mpr e] at c_12
          cases c_12
        omega
      have hn160 : n ≤ 160 := hQ.2.2.2.1.2.1
      have hgt := tk_sgn c_12
      have hg1 := sgs_lt _ (hts.2.2 c_12)
      have hg2 := sgs_lt s hs
      refine j_aload_n (q := 16) C dX11_isSign_15 rfl rfl rfl ?_
      refine jg_Model_tape (q := 19) C dX11_isSign_16 rfl hQ.2.2.1.1.1 kw_876 hQ.2.2.1.2.2.2.2.2.2.1 ?_
      refine j_aload_n (q := 20) C dX11_isSign_19 rfl rfl rfl ?_
      refine qg_from hQ (q' := 23) C dX11_isSign_20 rfl kw_881 ?_
      refine j_iald (q := 24) C dX11_isSign_23 rfl hQ.2.2.1.1.2.2.2.2.2.2.1 (by omega) (by decide) ?_
      rw [hQ.2.2.2.1.2.2.2 _ hfn, ← hgt]
      refine j_iload_n (q := 25) C dX11_isSign_24 rfl rfl rfl ?_
      refine j_icmp_ne (q := 28) (tgt := 32) C dX11_isSign_25 rfl (by decide) (fun c_25 => ?_) (fun c_25 => ?_)
      · refine j_iconst (v := nI 0) (q := 33) C dX11_isSign_32 rfl (by decide) ?_
        exact j_zret C E dX11_isSign_33 (by first | rfl | exact jb_nar) rfl rfl (jR_e (congrArg (fun z => some (Value.int z)) (jb_f (fun h => c_25 (by rw [(tk_is.mp h.2).2, hk]))).symm) rfl)
      · refine j_iconst (v := nI 1) (q := 29) C dX11_isSign_28 rfl (by decide) ?_
        refine j_goto (tgt := 33) C dX11_isSign_29 (by decide) ?_
        exact j_zret C E dX11_isSign_33 (by first | rfl | exact jb_nar) rfl rfl (jR_e (congrArg (fun z => some (Value.int z)) (jb_t ⟨hq, tk_is.mpr ⟨c_12, sgs_inj _ (hts.2.2 c_12) s hs (((nI_eq (by omega) (by omega)).mp c_25).trans hk.symm)⟩⟩).symm) rfl)

set_option maxRecDepth 100000 in
set_option maxHeartbeats 4000000 in
theorem ctX11_codes {G : jG} {sz : Nat} {Sh : jS} {M : jM} {o : Nat} {S : Nat → Prop} {T : Nat → Nat} {n m : Nat} {M0 : jM} {P : List Nat} {q : pS} (hSo : S o) (hSc : S (o + 10)) (hS : rSt S o Sh T n M0 m P M q) (hl : q.1 = false → (P ++ q.2.2).length ≤ 167) {k : Nat} : jC G yX11_codes cX11_codes 2 (Option.none : Option FieldType) (jrm 1 0 0) sz Sh M [.ref o, .int (nI k)] (jT sz Sh (fun r M1 => r = none ∧ rSt S o Sh T n M0 m P M1 (pEm k q))) := by
  refine jC_start (by decide +kernel) (Nat.le_of_ble_eq_true rfl) (fun X C E hN0 => ?_)
  have hS0 := hS
  obtain ⟨K, b, c, d, g, hQ, hG⟩ := hS0
  refine j_aload_n (q := 1) C dX11_codes_0 rfl rfl rfl ?_
  refine qg_isFault hQ (q' := 4) C dX11_codes_1 rfl kw_885 ?_
  refine j_if_ne (q := 7) (tgt := 27) C dX11_codes_4 rfl (by decide) (fun c_4 => ?_) (fun c_4 => ?_)
  · exact j_vret C E dX11_codes_27 rfl rfl (⟨rfl, rfl, rfl, by rw [pEm_t (jb_n.mp c_4)]; exact hS⟩)
  · have hq : q.1 = false := bf (jb_0.mp c_4)
    obtain ⟨rfl, rfl, hd, rfl, hK⟩ := hG hq
    have hl := hl hq
    refine j_aload_n (q := 8) C dX11_codes_7 rfl rfl rfl ?_
    refine jg_Model_code (q := 11) C dX11_codes_8 rfl hQ.2.2.1.1.1 kw_887 hQ.2.2.1.2.2.2.2.2.2.2.2.2.2.1 ?_
    refine j_aload_n (q := 12) C dX11_codes_11 rfl rfl rfl ?_
    refine qg_coded hQ (q' := 15) C dX11_codes_12 rfl kw_888 ?_
    refine j_iload_n (q := 16) C dX11_codes_15 rfl rfl rfl ?_
    refine j_iast (q := 17) C dX11_codes_16 rfl hQ.2.2.1.1.2.2.2.2.2.2.2.2.2.2.1 (by omega) (by decide) ?_
    have hQ := rP_cd (k := (P ++ q.2.2).length) (v := nI k) hSc hQ
    refine j_aload_n (q := 18) C dX11_codes_17 rfl rfl rfl ?_
    refine j_dup (q := 19) C dX11_codes_18 rfl rfl ?_
    refine qg_coded hQ (q' := 22) C dX11_codes_19 rfl kw_888 ?_
    refine j_iconst (v := nI 1) (q := 23) C dX11_codes_22 rfl (by decide) ?_
    first | refine j_iaddN (q := 24) C dX11_codes_23 rfl ?_ | refine j_iadd (q := 24) C dX11_codes_23 rfl ?_
    refine qp_coded hSo hQ (q' := 27) C dX11_codes_24 rfl kw_888 (fun M hQ => ?_)
    exact j_vret C E dX11_codes_27 rfl rfl (⟨rfl, rfl, rfl, rSt_em hq hQ hd hK⟩)

set_option maxRecDepth 100000 in
set_option maxHeartbeats 4000000 in
theorem ctX11_need {G : jG} {sz : Nat} {Sh : jS} {M : jM} {o : Nat} {S : Nat → Prop} {T : Nat → Nat} {n m : Nat} {M0 : jM} {P : List Nat} {q : pS} (hSo : S o) (hS : rSt S o Sh T n M0 m P M q) (hI : q.2.1 ≤ n) {p : Prop} [Decidable p] {v : Int32} (hv : v = jb p) : jC G yX11_need cX11_need 2 (Option.none : Option FieldType) (jrm 9 0 0) sz Sh M [.ref o, .int v] (jT sz Sh (fun r M1 => r = none ∧ rSt S o Sh T n M0 m P M1 (if q.1 = true then q else if p then pNx T n q else pBad q))) := by
  refine jC_start (by decide +kernel) (Nat.le_of_ble_eq_true rfl) (fun X C E hN0 => ?_)
  have hS0 := hS
  obtain ⟨K, b, c, d, g, hQ, hG⟩ := hS0
  refine j_aload_n (q := 1) C dX11_need_0 rfl rfl rfl ?_
  refine j_aload_n (q := 2) C dX11_need_1 rfl rfl rfl ?_
  refine qg_isFault hQ (q' := 5) C dX11_need_2 rfl kw_885 ?_
  refine j_if_ne (q := 8) (tgt := 12) C dX11_need_5 rfl (by decide) (fun c_5 => ?_) (fun c_5 => ?_)
  · refine j_iconst (v := nI 1) (q := 13) C dX11_need_12 rfl (by decide) ?_
    refine j_goto (tgt := 17) C dX11_need_13 (by decide) ?_
    refine qp_isFault hSo hQ (by first | exact Or.inl rfl | exact Or.inr rfl) (q' := 20) C dX11_need_17 rfl kw_885 (fun M hQ => ?_)
    refine j_aload_n (q := 21) C dX11_need_20 rfl rfl rfl ?_
    refine qg_isFault hQ (q' := 24) C dX11_need_21 rfl kw_885 ?_
    refine j_if_ne (q := 27) (tgt := 31) C dX11_need_24 rfl (by decide) (fun c_24 => ?_) (fun c_24 => absurd c_24 (by decide))
    exact j_vret C E dX11_need_31 rfl rfl (⟨rfl, rfl, rfl, by rw [if_pos (jb_n.mp c_5)]; exact rSt_bad (jb_n.mp c_5) hQ⟩)
  · have hq : q.1 = false := bf (jb_0.mp c_5)
    obtain ⟨rfl, rfl, hd, rfl, hK⟩ := hG hq
    refine j_iload_n (q := 9) C dX11_need_8 rfl rfl rfl ?_
    refine j_if_ne (q := 12) (tgt := 16) C dX11_need_9 rfl (by decide) (fun c_9 => ?_) (fun c_9 => ?_)
    · refine j_iconst (v := nI 0) (q := 17) C dX11_need_16 rfl (by decide) ?_
      refine qp_isFault hSo hQ (by first | exact Or.inl rfl | exact Or.inr rfl) (q' := 20) C dX11_need_17 rfl kw_885 (fun M hQ => ?_)
      refine j_aload_n (q := 21) C dX11_need_20 rfl rfl rfl ?_
      refine qg_isFault hQ (q' := 24) C dX11_need_21 rfl kw_885 ?_
      refine j_if_ne (q := 27) (tgt := 31) C dX11_need_24 rfl (by decide) (fun c_24 => absurd rfl c_24) (fun c_24 => ?_)
      refine j_aload_n (q := 28) C dX11_need_27 rfl rfl rfl ?_
      refine jVT jc11 (q := 31) C dX11_need_28 rfl hQ.2.2.1.1.1 mX11_next kw_1024 kw_1025 kw_41 (ctX11_next hSo (x := tt T n q.2.1) (tt_n (T := T) hI).1 hQ) rfl rfl (by decide) (Nat.le_of_ble_eq_true rfl) (by decide) (fun r_28 M_28 h_28 => ?_)
      obtain ⟨rfl, hN⟩ := h_28
      exact j_vret C E dX11_need_31 rfl rfl (⟨rfl, rfl, rfl, by rw [if_neg (by rw [hq]; decide), if_pos (jb_n.mp (hv ▸ c_9))]; exact rSt_nx hq (by rw [jb_f (by rw [hq]; decide)]; exact hN) hK⟩)
    · refine j_iconst (v := nI 1) (q := 13) C dX11_need_12 rfl (by decide) ?_
      refine j_goto (tgt := 17) C dX11_need_13 (by decide) ?_
      refine qp_isFault hSo hQ (by first | exact Or.inl rfl | exact Or.inr rfl) (q' := 20) C dX11_need_17 rfl kw_885 (fun M hQ => ?_)
      refine j_aload_n (q := 21) C dX11_need_20 rfl rfl rfl ?_
      refine qg_isFault hQ (q' := 24) C dX11_need_21 rfl kw_885 ?_
      refine j_if_ne (q := 27) (tgt := 31) C dX11_need_24 rfl (by decide) (fun c_24 => ?_) (fun c_24 => absurd c_24 (by decide))
      exact j_vret C E dX11_need_31 rfl rfl (⟨rfl, rfl, rfl, by rw [if_neg (by rw [hq]; decide), if_neg (jb_0.mp (hv ▸ c_9))]; exact rSt_bad (q := pBad q) rfl hQ⟩)

set_option maxRecDepth 100000 in
set_option maxHeartbeats 4000000 in
theorem cbX11_isWord {G : jG} {sz : Nat} {Sh : jS} {M : jM} {o : Nat} (hR : rLay o Sh M) (h16 : M.1 o 16 = nI 1) {k : Int32} : jC G yX11_isWord cX11_isWord 2 (Option.some FieldType.boolean) (jrm 1 0 0) sz Sh M [.ref o, .int k] (jR (some (.int (nI 0))) sz Sh M) := by
  refine jC_start (by decide +kernel) (Nat.le_of_ble_eq_true rfl) (fun X C E hN0 => ?_)
  refine j_aload_n (q := 1) C dX11_isWord_0 rfl rfl rfl ?_
  refine jg_Model_isFault (q := 4) C dX11_isWord_1 rfl hR.1.1 kw_885 ?_
  rw [h16]
  refine j_if_ne (q := 7) (tgt := 27) C dX11_isWord_4 rfl (by decide) (fun c_4 => ?_) (fun c_4 => absurd c_4 (by decide))
  refine j_iconst (v := nI 0) (q := 28) C dX11_isWord_27 rfl (by decide) ?_
  exact j_zret C E dX11_isWord_28 (by first | rfl | exact jb_nar) rfl rfl (jR_i)

set_option maxRecDepth 100000 in
set_option maxHeartbeats 4000000 in
theorem cbX11_isSign {G : jG} {sz : Nat} {Sh : jS} {M : jM} {o : Nat} (hR : rLay o Sh M) (h16 : M.1 o 16 = nI 1) {k : Int32} : jC G yX11_isSign cX11_isSign 2 (Option.some FieldType.boolean) (jrm 1 0 0) sz Sh M [.ref o, .int k] (jR (some (.int (nI 0))) sz Sh M) := by
  refine jC_start (by decide +kernel) (Nat.le_of_ble_eq_true rfl) (fun X C E hN0 => ?_)
  refine j_aload_n (q := 1) C dX11_isSign_0 rfl rfl rfl ?_
  refine jg_Model_isFault (q := 4) C dX11_isSign_1 rfl hR.1.1 kw_885 ?_
  rw [h16]
  refine j_if_ne (q := 7) (tgt := 32) C dX11_isSign_4 rfl (by decide) (fun c_4 => ?_) (fun c_4 => absurd c_4 (by decide))
  refine j_iconst (v := nI 0) (q := 33) C dX11_isSign_32 rfl (by decide) ?_
  exact j_zret C E dX11_isSign_33 (by first | rfl | exact jb_nar) rfl rfl (jR_i)

set_option maxRecDepth 100000 in
set_option maxHeartbeats 4000000 in
theorem cbX11_codes {G : jG} {sz : Nat} {Sh : jS} {M : jM} {o : Nat} (hR : rLay o Sh M) (h16 : M.1 o 16 = nI 1) {k : Int32} : jC G yX11_codes cX11_codes 2 (Option.none : Option FieldType) (jrm 1 0 0) sz Sh M [.ref o, .int k] (jR none sz Sh M) := by
  refine jC_start (by decide +kernel) (Nat.le_of_ble_eq_true rfl) (fun X C E hN0 => ?_)
  refine j_aload_n (q := 1) C dX11_codes_0 rfl rfl rfl ?_
  refine jg_Model_isFault (q := 4) C dX11_codes_1 rfl hR.1.1 kw_885 ?_
  rw [h16]
  refine j_if_ne (q := 7) (tgt := 27) C dX11_codes_4 rfl (by decide) (fun c_4 => ?_) (fun c_4 => absurd c_4 (by decide))
  exact j_vret C E dX11_codes_27 rfl rfl (jR_i)

set_option maxRecDepth 100000 in
set_option maxHeartbeats 4000000 in
theorem cbX11_value {G : jG} {sz : Nat} {Sh : jS} {M : jM} {o : Nat} (hR : rLay o Sh M) (h16 : M.1 o 16 = nI 1) : jC G yX11_value cX11_value 3 (Option.none : Option FieldType) (jrm 2 0 0) sz Sh M [.ref o] (jR none sz Sh M) := by
  refine jC_start (by decide +kernel) (Nat.le_of_ble_eq_true rfl) (fun X C E hN0 => ?_)
  refine j_aload_n (q := 1) C dX11_value_0 rfl rfl rfl ?_
  refine j_bipush (v := nI 40) (q := 3) C dX11_value_1 rfl (by decide) ?_
  refine jV1 jc11 (q := 6) C dX11_value_3 rfl hR.1.1 mX11_isSign kw_1120 kw_1121 kw_54 (cbX11_isSign hR h16) rfl rfl (by decide) (Nat.le_of_ble_eq_true rfl) (by decide) ?_
  refine j_if_eq (q := 9) (tgt := 66) C dX11_value_6 rfl (by decide) (fun c_6 => ?_) (fun c_6 => absurd rfl c_6)
  refine j_aload_n (q := 67) C dX11_value_66 rfl rfl rfl ?_
  refine jg_Model_isFault (q := 70) C dX11_value_67 rfl hR.1.1 kw_885 ?_
  rw [h16]
  refine j_if_eq (q := 73) (tgt := 74) C dX11_value_70 rfl (by decide) (fun c_70 => absurd c_70 (by decide)) (fun c_70 => ?_)
  exact j_vret C E dX11_value_73 rfl rfl (jR_i)

set_option maxRecDepth 100000 in
set_option maxHeartbeats 4000000 in
theorem cbX11_oneOf {G : jG} {sz : Nat} {Sh : jS} {M : jM} {o : Nat} (hR : rLay o Sh M) (h16 : M.1 o 16 = nI 1) : jC G yX11_oneOf cX11_oneOf 2 (Option.none : Option FieldType) (jrm 3 0 0) sz Sh M [.ref o] (jR none sz Sh M) := by
  refine jC_start (by decide +kernel) (Nat.le_of_ble_eq_true rfl) (fun X C E hN0 => ?_)
  refine j_aload_n (q := 1) C dX11_oneOf_0 rfl rfl rfl ?_
  refine jV0 jc11 (q := 4) C dX11_oneOf_1 rfl hR.1.1 mX11_value kw_1117 kw_1118 kw_53 (cbX11_value hR h16) rfl rfl (by decide) (Nat.le_of_ble_eq_true rfl) (by decide) ?_
  refine j_aload_n (q := 5) C dX11_oneOf_4 rfl rfl rfl ?_
  refine j_bipush (v := nI 42) (q := 7) C dX11_oneOf_5 rfl (by decide) ?_
  refine jV1 jc11 (q := 10) C dX11_oneOf_7 rfl hR.1.1 mX11_isSign kw_1120 kw_1121 kw_54 (cbX11_isSign hR h16) rfl rfl (by decide) (Nat.le_of_ble_eq_true rfl) (by decide) ?_
  refine j_if_ne (q := 13) (tgt := 22) C dX11_oneOf_10 rfl (by decide) (fun c_10 => absurd rfl c_10) (fun c_10 => ?_)
  refine j_aload_n (q := 14) C dX11_oneOf_13 rfl rfl rfl ?_
  refine j_bipush (v := nI 47) (q := 16) C dX11_oneOf_14 rfl (by decide) ?_
  refine jV1 jc11 (q := 19) C dX11_oneOf_16 rfl hR.1.1 mX11_isSign kw_1120 kw_1121 kw_54 (cbX11_isSign hR h16) rfl rfl (by decide) (Nat.le_of_ble_eq_true rfl) (by decide) ?_
  refine j_if_eq (q := 22) (tgt := 55) C dX11_oneOf_19 rfl (by decide) (fun c_19 => ?_) (fun c_19 => absurd rfl c_19)
  exact j_vret C E dX11_oneOf_55 rfl rfl (jR_i)

set_option maxRecDepth 100000 in
set_option maxHeartbeats 4000000 in
theorem cbX11_sumOf {G : jG} {sz : Nat} {Sh : jS} {M : jM} {o : Nat} (hR : rLay o Sh M) (h16 : M.1 o 16 = nI 1) : jC G yX11_sumOf cX11_sumOf 2 (Option.none : Option FieldType) (jrm 4 0 0) sz Sh M [.ref o] (jR none sz Sh M) := by
  refine jC_start (by decide +kernel) (Nat.le_of_ble_eq_true rfl) (fun X C E hN0 => ?_)
  refine j_aload_n (q := 1) C dX11_sumOf_0 rfl rfl rfl ?_
  refine jV0 jc11 (q := 4) C dX11_sumOf_1 rfl hR.1.1 mX11_oneOf kw_1114 kw_1115 kw_52 (cbX11_oneOf hR h16) rfl rfl (by decide) (Nat.le_of_ble_eq_true rfl) (by decide) ?_
  refine j_aload_n (q := 5) C dX11_sumOf_4 rfl rfl rfl ?_
  refine j_bipush (v := nI 43) (q := 7) C dX11_sumOf_5 rfl (by decide) ?_
  refine jV1 jc11 (q := 10) C dX11_sumOf_7 rfl hR.1.1 mX11_isSign kw_1120 kw_1121 kw_54 (cbX11_isSign hR h16) rfl rfl (by decide) (Nat.le_of_ble_eq_true rfl) (by decide) ?_
  refine j_if_ne (q := 13) (tgt := 22) C dX11_sumOf_10 rfl (by decide) (fun c_10 => absurd rfl c_10) (fun c_10 => ?_)
  refine j_aload_n (q := 14) C dX11_sumOf_13 rfl rfl rfl ?_
  refine j_bipush (v := nI 45) (q := 16) C dX11_sumOf_14 rfl (by decide) ?_
  refine jV1 jc11 (q := 19) C dX11_sumOf_16 rfl hR.1.1 mX11_isSign kw_1120 kw_1121 kw_54 (cbX11_isSign hR h16) rfl rfl (by decide) (Nat.le_of_ble_eq_true rfl) (by decide) ?_
  refine j_if_eq (q := 22) (tgt := 55) C dX11_sumOf_19 rfl (by decide) (fun c_19 => ?_) (fun c_19 => absurd rfl c_19)
  exact j_vret C E dX11_sumOf_55 rfl rfl (jR_i)

set_option maxRecDepth 100000 in
set_option maxHeartbeats 4000000 in
theorem cbX11_notOf {G : jG} {sz : Nat} {Sh : jS} {M : jM} {o : Nat} (hR : rLay o Sh M) (h16 : M.1 o 16 = nI 1) : jC G yX11_notOf cX11_notOf 2 (Option.none : Option FieldType) (jrm 5 0 0) sz Sh M [.ref o] (jR none sz Sh M) := by
  refine jC_start (by decide +kernel) (Nat.le_of_ble_eq_true rfl) (fun X C E hN0 => ?_)
  refine j_aload_n (q := 1) C dX11_notOf_0 rfl rfl rfl ?_
  refine j_bipush (v := nI 57) (q := 3) C dX11_notOf_1 rfl (by decide) ?_
  refine jV1 jc11 (q := 6) C dX11_notOf_3 rfl hR.1.1 mX11_isWord kw_1093 kw_1094 kw_45 (cbX11_isWord hR h16) rfl rfl (by decide) (Nat.le_of_ble_eq_true rfl) (by decide) ?_
  refine j_if_eq (q := 9) (tgt := 62) C dX11_notOf_6 rfl (by decide) (fun c_6 => ?_) (fun c_6 => absurd rfl c_6)
  refine j_aload_n (q := 63) C dX11_notOf_62 rfl rfl rfl ?_
  refine jV0 jc11 (q := 66) C dX11_notOf_63 rfl hR.1.1 mX11_sumOf kw_1111 kw_1112 kw_51 (cbX11_sumOf hR h16) rfl rfl (by decide) (Nat.le_of_ble_eq_true rfl) (by decide) ?_
  refine j_aload_n (q := 67) C dX11_notOf_66 rfl rfl rfl ?_
  refine j_bipush (v := nI 60) (q := 69) C dX11_notOf_67 rfl (by decide) ?_
  refine jV1 jc11 (q := 72) C dX11_notOf_69 rfl hR.1.1 mX11_isSign kw_1120 kw_1121 kw_54 (cbX11_isSign hR h16) rfl rfl (by decide) (Nat.le_of_ble_eq_true rfl) (by decide) ?_
  refine j_if_ne (q := 75) (tgt := 84) C dX11_notOf_72 rfl (by decide) (fun c_72 => absurd rfl c_72) (fun c_72 => ?_)
  refine j_aload_n (q := 76) C dX11_notOf_75 rfl rfl rfl ?_
  refine j_bipush (v := nI 61) (q := 78) C dX11_notOf_76 rfl (by decide) ?_
  refine jV1 jc11 (q := 81) C dX11_notOf_78 rfl hR.1.1 mX11_isSign kw_1120 kw_1121 kw_54 (cbX11_isSign hR h16) rfl rfl (by decide) (Nat.le_of_ble_eq_true rfl) (by decide) ?_
  refine j_if_eq (q := 84) (tgt := 114) C dX11_notOf_81 rfl (by decide) (fun c_81 => ?_) (fun c_81 => absurd rfl c_81)
  exact j_vret C E dX11_notOf_114 rfl rfl (jR_i)

set_option maxRecDepth 100000 in
set_option maxHeartbeats 4000000 in
theorem cbX11_both {G : jG} {sz : Nat} {Sh : jS} {M : jM} {o : Nat} (hR : rLay o Sh M) (h16 : M.1 o 16 = nI 1) : jC G yX11_both cX11_both 1 (Option.none : Option FieldType) (jrm 6 0 0) sz Sh M [.ref o] (jR none sz Sh M) := by
  refine jC_start (by decide +kernel) (Nat.le_of_ble_eq_true rfl) (fun X C E hN0 => ?_)
  refine j_aload_n (q := 1) C dX11_both_0 rfl rfl rfl ?_
  refine jV0 jc11 (q := 4) C dX11_both_1 rfl hR.1.1 mX11_notOf kw_1105 kw_1106 kw_49 (cbX11_notOf hR h16) rfl rfl (by decide) (Nat.le_of_ble_eq_true rfl) (by decide) ?_
  refine j_aload_n (q := 5) C dX11_both_4 rfl rfl rfl ?_
  refine j_bipush (v := nI 50) (q := 7) C dX11_both_5 rfl (by decide) ?_
  refine jV1 jc11 (q := 10) C dX11_both_7 rfl hR.1.1 mX11_isWord kw_1093 kw_1094 kw_45 (cbX11_isWord hR h16) rfl rfl (by decide) (Nat.le_of_ble_eq_true rfl) (by decide) ?_
  refine j_if_eq (q := 13) (tgt := 30) C dX11_both_10 rfl (by decide) (fun c_10 => ?_) (fun c_10 => absurd rfl c_10)
  exact j_vret C E dX11_both_30 rfl rfl (jR_i)

set_option maxRecDepth 100000 in
set_option maxHeartbeats 4000000 in
theorem cbX11_either {G : jG} {sz : Nat} {Sh : jS} {M : jM} {o : Nat} (hR : rLay o Sh M) (h16 : M.1 o 16 = nI 1) : jC G yX11_either cX11_either 1 (Option.none : Option FieldType) (jrm 7 0 0) sz Sh M [.ref o] (jR none sz Sh M) := by
  refine jC_start (by decide +kernel) (Nat.le_of_ble_eq_true rfl) (fun X C E hN0 => ?_)
  refine j_aload_n (q := 1) C dX11_either_0 rfl rfl rfl ?_
  refine jV0 jc11 (q := 4) C dX11_either_1 rfl hR.1.1 mX11_both kw_1102 kw_1103 kw_48 (cbX11_both hR h16) rfl rfl (by decide) (Nat.le_of_ble_eq_true rfl) (by decide) ?_
  refine j_aload_n (q := 5) C dX11_either_4 rfl rfl rfl ?_
  refine j_bipush (v := nI 54) (q := 7) C dX11_either_5 rfl (by decide) ?_
  refine jV1 jc11 (q := 10) C dX11_either_7 rfl hR.1.1 mX11_isWord kw_1093 kw_1094 kw_45 (cbX11_isWord hR h16) rfl rfl (by decide) (Nat.le_of_ble_eq_true rfl) (by decide) ?_
  refine j_if_eq (q := 13) (tgt := 30) C dX11_either_10 rfl (by decide) (fun c_10 => ?_) (fun c_10 => absurd rfl c_10)
  exact j_vret C E dX11_either_30 rfl rfl (jR_i)

