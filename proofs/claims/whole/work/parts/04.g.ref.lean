/-- the cells of 'now' that a day doesn't change before its end: counts, papers but their how, laws, prices -/
def nSt (k : Nat) : Prop := k = 0 ∨ (4 ≤ k ∧ k < 10) ∨ (110 ≤ k ∧ ¬ (k < 278 ∧ (k - 110) % 7 = 6))
def nEq (N N' : Nat → Int64) : Prop := ∀ k, nSt k → N' k = N k
theorem nEq.rf {N : Nat → Int64} : nEq N N := fun _ _ => rfl
theorem nEq.tr {A B C : Nat → Int64} (h : nEq A B) (g : nEq B C) : nEq A C := fun k hk => (g k hk).trans (h k hk)
theorem nEq.up {A B : Nat → Int64} (h : nEq A B) {k : Nat} (v : Int64) (hk : ¬ nSt k) : nEq A (va_up B k v) := fun j hj => by
  have hne : j ≠ k := fun e => hk (by rw [← e]; exact hj)
  rw [va_up_ne _ _ hne]; exact h j hj
theorem nGets_ne {N : Nat → Int64} {k i : Nat} {v : Int64} (h : i ≠ k) (h3 : i ≠ 3) : nGets N k v i = N i := by
  unfold nGets
  by_cases c : va_up N k (N k + v) k ≤ 1000000000000000
  · rw [if_pos c, va_up_ne _ _ h]
  · rw [if_neg c, va_up_ne _ _ h, va_up_ne _ _ h3, va_up_ne _ _ h]
theorem nEq.gets {A B : Nat → Int64} (h : nEq A B) {k : Nat} (v : Int64) (hk : ¬ nSt k) : nEq A (nGets B k v) := fun j hj => by
  have hne : j ≠ k := fun e => hk (by rw [← e]; exact hj)
  have h3 : j ≠ 3 := fun e => by subst e; unfold nSt at hj; omega
  rw [nGets_ne hne h3]; exact h j hj
theorem nSt1 : ¬ nSt 1 := by unfold nSt; omega
theorem nSt2 : ¬ nSt 2 := by unfold nSt; omega
theorem nSt3 : ¬ nSt 3 := by unfold nSt; omega
theorem nStP {t f : Nat} (h : t < 10) (hf : f < 10) : ¬ nSt (10 + 10 * t + f) := by unfold nSt; omega
theorem nStH {j : Nat} (h : j < 24) : ¬ nSt (110 + 7 * j + 6) := by unfold nSt; omega
theorem nStQ {j f : Nat} (hf : f < 6) : nSt (110 + 7 * j + f) := by unfold nSt; omega
def isN (x : Int64) (b : Nat) : Prop := x = lN (nv x) ∧ nv x ≤ b
def pOk (N : Nat → Int64) (pe d j : Nat) : Prop := isN (N (110 + 7 * j + 0)) 5 ∧ ((nv (N (110 + 7 * j + 0)) = 4 ∧ N (110 + 7 * j + 1) = -1) ∨ (nv (N (110 + 7 * j + 0)) ≠ 4 ∧ isN (N (110 + 7 * j + 1)) 9 ∧ nv (N (110 + 7 * j + 1)) < pe)) ∧ (isN (N (110 + 7 * j + 2)) 9 ∧ nv (N (110 + 7 * j + 2)) < pe) ∧ (isN (N (110 + 7 * j + 4)) 300 ∧ nv (N (110 + 7 * j + 4)) ≤ d) ∧ isN (N (110 + 7 * j + 5)) 300
def prOk (x : Int64) : Prop := 1 ≤ x ∧ x ≤ 1000000000000000
theorem prOk.nz {x : Int64} (h : prOk x) : ¬ x = 0 := fun e => by
  have := h.1
  rw [e] at this
  exact absurd this (by decide)
def nOk (N : Nat → Int64) (d pe pa la : Nat) : Prop := (N 0 = lN d ∧ d ≤ 300) ∧ (N 4 = lN pe ∧ pe ≤ 10) ∧ (N 5 = lN pa ∧ pa ≤ 24) ∧ (N 6 = lN la ∧ la ≤ 12) ∧ (∀ j, j < pa → pOk N pe d j) ∧ ∀ k, k ≤ d → prOk (N (310 + k))
theorem nOk.eq {N N' : Nat → Int64} {d pe pa la : Nat} (h : nOk N d pe pa la) (e : nEq N N') : nOk N' d pe pa la := by
  obtain ⟨⟨h0, h0b⟩, ⟨h4, h4b⟩, ⟨h5, h5b⟩, ⟨h6, h6b⟩, hp, hq⟩ := h
  refine ⟨⟨(e 0 (by unfold nSt; omega)).trans h0, h0b⟩, ⟨(e 4 (by unfold nSt; omega)).trans h4, h4b⟩, ⟨(e 5 (by unfold nSt; omega)).trans h5, h5b⟩, ⟨(e 6 (by unfold nSt; omega)).trans h6, h6b⟩, fun j hj => ?_, fun k hk => ?_⟩
  · have h := hp j hj
    unfold pOk at h ⊢
    rw [e _ (nStQ (by omega)), e _ (nStQ (by omega)), e _ (nStQ (by omega)), e _ (nStQ (by omega)), e _ (nStQ (by omega))]
    exact h
  · rw [e _ (by unfold nSt; omega)]
    exact hq k hk
def nOwed (LT : Nat → sT) (N : Nat → Int64) (d la j : Nat) (c : Int64) : Int64 := nOwedK LT N d la j (nv (N (110 + 7 * j + 0))) (nv (N (110 + 7 * j + 4))) c
abbrev lOk (o : Nat) (M : jM) (la : Nat) (LT : Nat → sT) : Prop := ∀ l, l < la → tOk (M.1 (o + 4)) (168 * (5 + l)) (LT l)
theorem ctX11_owedN {G : jG} {sz : Nat} {Sh : jS} {M : jM} {o : Nat} {N : Nat → Int64} (hR : rLay o Sh M) {d pe pa la : Nat} (hO : nOk N d pe pa la) {LT : Nat → sT} (hL : lOk o M la LT) {j : Nat} (hj : j < pa) {c : Int32} : jC G yX11_owedOf cX11_owedOf 9 (Option.some FieldType.long) (jrm 4 0 0) sz Sh (jw M (o + 1) N) [.ref o, .int (nI j), .int c] (jT sz Sh (rT o M N (some (.long (nOwed LT N d la j c.toInt64))))) := by
  obtain ⟨⟨h0, h0b⟩, -, ⟨h5, h5b⟩, ⟨h6, h6b⟩, hp, hq⟩ := hO
  have h := hp j hj
  exact ctX11_owedOf hR h0 h0b h6 h6b hL (by omega) h.1.1 h.1.2 h.2.2.2.1.1.1 h.2.2.2.1.1.2 (hq d (Nat.le_refl d)).nz
def nWage (LT : Nat → sT) (d la : Nat) (N : Nat → Int64) (j : Nat) : Nat → Int64 := if N (110 + 7 * j + 6) = 0 ∧ N (110 + 7 * j + 0) = 4 then
    let due := nOwed LT N d la j 0
    let lack := lmx 0 (due - N 1)
    let N1 := va_up N 2 (N 2 + lack)
    nGets (va_up N1 1 (N1 1 + (lack - due))) (10 + 10 * nv (N (110 + 7 * j + 2)) + 0) due
  else N
def nWages (LT : Nat → sT) (d la : Nat) (N : Nat → Int64) : Nat → (Nat → Int64)
  | 0 => N
  | k + 1 => nWage LT d la (nWages LT d la N k) k
theorem nWage_eq {LT : Nat → sT} {d pe pa la : Nat} {N : Nat → Int64} (hO : nOk N d pe pa la) {j : Nat} (hj : j < pa) : nEq N (nWage LT d la N j) := by
  unfold nWage
  by_cases c : N (110 + 7 * j + 6) = 0 ∧ N (110 + 7 * j + 0) = 4
  · rw [if_pos c]
    have h := (hO.2.2.2.2.1 j hj).2.2.1
    exact ((nEq.rf.up _ nSt2).up _ nSt1).gets _ (nStP (by have := h.1.2; omega) (by omega))
  · rw [if_neg c]; exact nEq.rf
theorem nWages_eq {LT : Nat → sT} {d pe pa la : Nat} {N : Nat → Int64} (hO : nOk N d pe pa la) : ∀ k, k ≤ pa → nEq N (nWages LT d la N k)
  | 0, _ => nEq.rf
  | k + 1, h => (nWages_eq hO k (by omega)).tr (nWage_eq (hO.eq (nWages_eq hO k (by omega))) (by omega))
set_option maxRecDepth 100000 in
set_option maxHeartbeats 4000000 in
theorem ctX11_payWages {G : jG} {sz : Nat} {Sh : jS} {M : jM} {o : Nat} {N : Nat → Int64} (hR : rLay o Sh M) {d pe pa la : Nat} (hO : nOk N d pe pa la) {LT : Nat → sT} (hL : lOk o M la LT) : jC G yX11_payWages cX11_payWages 6 (Option.none : Option FieldType) (jrm 5 0 0) sz Sh (jw M (o + 1) N) [.ref o] (jT sz Sh (rT o M (nWages LT d la N pa) none)) := by
  refine jC_start (by decide +kernel) (Nat.le_of_ble_eq_true rfl) (fun X C E hN0 => ?_)
  rw [show jw M (o + 1) N = jw (jw M (o + 11) (M.2.1 (o + 11))) (o + 1) N by rw [jw_self]]
  refine j_iconst (v := nI 0) (q := 1) C dX11_payWages_0 rfl (by decide) ?_
  refine j_istore_n (lv' := [(1, _), (0, _)]) (q := 2) C dX11_payWages_1 rfl rfl (by decide) rfl ?_
  have loop2 : ∀ (n k : Nat) (P Nk : Nat → Int64), Nk = nWages LT d la N k → k + n = pa → jJ G X 0 0 sz Sh (jw (jw M (o + 11) P) (o + 1) Nk) 2 [(1, .int (nI k)), (0, .ref o)] [] := by
    intro n
    induction n with
    | zero =>
      intro k P Nk eN hk
      have hOk := hO.eq (eN ▸ nWages_eq (LT := LT) hO k (by omega))
      have hk5 : Nk 5 = lN pa := hOk.2.2.1.1
      have hpa : pa ≤ 24 := hOk.2.2.1.2
      have hRp : rLay o Sh (jw M (o + 11) P) := hR
      refine j_iload_n (q := 3) C dX11_payWages_2 rfl rfl rfl ?_
      first | refine j_i2lN (q := 4) C dX11_payWages_3 rfl (by omega) ?_ | refine j_i2l (q := 4) C dX11_payWages_3 rfl rfl ?_
      refine j_aload_n (q := 5) C dX11_payWages_4 rfl rfl rfl ?_
      refine jg_Model_now (q := 8) C dX11_payWages_5 rfl hR.1.1 kw_869 hR.2.1 ?_
      refine j_iconst (v := nI 5) (q := 9) C dX11_payWages_8 rfl (by decide) ?_
      refine j_laldW (q := 10) C dX11_payWages_9 rfl hR.1.2.1 (by omega) (by decide) ?_
      rw [hk5]
      refine j_lcmp_ge (q1 := 11) (q := 14) (tgt := 110) C dX11_payWages_10 dX11_payWages_11 rfl rfl (by decide) (fun c_11 => ?_) (fun c_11 => absurd ((lN_le (by omega) (by omega)).mpr (by omega)) c_11)
      obtain rfl : k = pa := by omega
      exact j_vret C E dX11_payWages_110 rfl rfl ((by rw [eN]; exact rT_p rfl))
    | succ n ih =>
      intro k P Nk eN hk
      have hOk := hO.eq (eN ▸ nWages_eq (LT := LT) hO k (by omega))
      have hk5 : Nk 5 = lN pa := hOk.2.2.1.1
      have hpa : pa ≤ 24 := hOk.2.2.1.2
      have hRp : rLay o Sh (jw M (o + 11) P) := hR
      refine j_iload_n (q := 3) C dX11_payWages_2 rfl rfl rfl ?_
      first | refine j_i2lN (q := 4) C dX11_payWages_3 rfl (by omega) ?_ | refine j_i2l (q := 4) C dX11_payWages_3 rfl rfl ?_
      refine j_aload_n (q := 5) C dX11_payWages_4 rfl rfl rfl ?_
      refine jg_Model_now (q := 8) C dX11_payWages_5 rfl hR.1.1 kw_869 hR.2.1 ?_
      refine j_iconst (v := nI 5) (q := 9) C dX11_payWages_8 rfl (by decide) ?_
      refine j_laldW (q := 10) C dX11_payWages_9 rfl hR.1.2.1 (by omega) (by decide) ?_
      rw [hk5]
      refine j_lcmp_ge (q1 := 11) (q := 14) (tgt := 110) C dX11_payWages_10 dX11_payWages_11 rfl rfl (by decide) (fun c_11 => absurd c_11 (fun h => absurd ((lN_le (by omega) (by omega)).mp h) (by omega))) (fun c_11 => ?_)
      refine j_aload_n (q := 15) C dX11_payWages_14 rfl rfl rfl ?_
      refine j_iload_n (q := 16) C dX11_payWages_15 rfl rfl rfl ?_
      refine jV1 jc11 (q := 19) C dX11_payWages_16 rfl hR.1.1 mX11_isOpen kw_959 kw_960 kw_31 (ctX11_isOpen hRp (by omega)) rfl rfl (by decide) (Nat.le_of_ble_eq_true rfl) (by decide) ?_
      refine j_if_eq (q := 22) (tgt := 104) C dX11_payWages_19 rfl (by decide) (fun c_19 => ?_) (fun c_19 => ?_)
      · first | refine j_iincN (lv' := [(1, _), (0, _)]) (q := 107) C dX11_payWages_104 rfl rfl (by decide) rfl ?_ | refine j_iinc (lv' := [(1, _), (0, _)]) (q := 107) C dX11_payWages_104 rfl rfl rfl (by decide) rfl ?_
        refine j_goto (tgt := 2) C dX11_payWages_107 (by decide) ?_
        exact j_fewer (lv' := [(1, .int (nI (k + 1))), (0, .ref o)]) (by simp) (ih (k + 1) _ _ (by rw [nWages, ← eN, nWage, if_neg (fun h => jb_0.mp c_19 h.1)]) (by omega))
      · refine j_aload_n (q := 23) C dX11_payWages_22 rfl rfl rfl ?_
        refine jg_Model_now (q := 26) C dX11_payWages_23 rfl hR.1.1 kw_869 hR.2.1 ?_
        refine j_iload_n (q := 27) C dX11_payWages_26 rfl rfl rfl ?_
        refine j_iconst (v := nI 0) (q := 28) C dX11_payWages_27 rfl (by decide) ?_
        refine jS1 (q := 31) C dX11_payWages_28 rfl mX11_ofPaper kw_937 kw_938 (ctX11_ofPaper) rfl rfl (by decide) (Nat.le_of_ble_eq_true rfl) (by decide) ?_
        refine j_laldW (q := 32) C dX11_payWages_31 rfl hR.1.2.1 (by omega) (by decide) ?_
        refine j_ldc2 (q := 35) C dX11_payWages_32 rfl kw_948 ?_
        refine j_lcmp_ne (q1 := 36) (q := 39) (tgt := 104) C dX11_payWages_35 dX11_payWages_36 rfl rfl (by decide) (fun c_36 => ?_) (fun c_36 => ?_)
        · first | refine j_iincN (lv' := [(1, _), (0, _)]) (q := 107) C dX11_payWages_104 rfl rfl (by decide) rfl ?_ | refine j_iinc (lv' := [(1, _), (0, _)]) (q := 107) C dX11_payWages_104 rfl rfl rfl (by decide) rfl ?_
          refine j_goto (tgt := 2) C dX11_payWages_107 (by decide) ?_
          exact j_fewer (lv' := [(1, .int (nI (k + 1))), (0, .ref o)]) (by simp) (ih (k + 1) _ _ (by rw [nWages, ← eN, nWage, if_neg (fun h => c_36 h.2)]) (by omega))
        · refine j_aload_n (q := 40) C dX11_payWages_39 rfl rfl rfl ?_
          refine j_iload_n (q := 41) C dX11_payWages_40 rfl rfl rfl ?_
          refine j_iconst (v := nI 0) (q := 42) C dX11_payWages_41 rfl (by decide) ?_
          refine jVT jc11 (q := 45) C dX11_payWages_42 rfl hR.1.1 mX11_owedOf kw_962 kw_963 kw_32 (ctX11_owedN (LT := LT) hRp hOk hL (by omega)) rfl rfl (by decide) (Nat.le_of_ble_eq_true rfl) (by decide) (fun r_42 M_42 h_42 => ?_)
          obtain ⟨P2, rfl, rfl⟩ := h_42
          rw [jw_jw]
          have hRp2 : rLay o Sh (jw M (o + 11) P2) := hR
          refine j_lstore_n (lv' := [(2, _), (1, _), (0, _)]) (q := 46) C dX11_payWages_45 rfl rfl (by decide) rfl ?_
          refine j_lconst (v := 0) (q := 47) C dX11_payWages_46 rfl (by decide) ?_
          refine j_lload_n (q := 48) C dX11_payWages_47 rfl rfl rfl ?_
          refine j_aload_n (q := 49) C dX11_payWages_48 rfl rfl rfl ?_
          refine jg_Model_now (q := 52) C dX11_payWages_49 rfl hR.1.1 kw_869 hR.2.1 ?_
          refine j_iconst (v := nI 1) (q := 53) C dX11_payWages_52 rfl (by decide) ?_
          refine j_laldW (q := 54) C dX11_payWages_53 rfl hR.1.2.1 (by omega) (by decide) ?_
          refine j_lsub (q := 55) C dX11_payWages_54 rfl ?_
          refine j_lmax (q := 58) C dX11_payWages_55 rfl kw_989 (by decide) (Nat.le_of_ble_eq_true rfl) (by decide) ?_
          refine j_lstore (lv' := [(4, _), (2, _), (1, _), (0, _)]) (q := 60) C dX11_payWages_58 rfl (by decide) rfl ?_
          refine j_aload_n (q := 61) C dX11_payWages_60 rfl rfl rfl ?_
          refine jg_Model_now (q := 64) C dX11_payWages_61 rfl hR.1.1 kw_869 hR.2.1 ?_
          refine j_iconst (v := nI 2) (q := 65) C dX11_payWages_64 rfl (by decide) ?_
          refine j_dup2_11 (q := 66) C dX11_payWages_65 rfl rfl rfl ?_
          refine j_laldW (q := 67) C dX11_payWages_66 rfl hR.1.2.1 (by omega) (by decide) ?_
          refine j_lload (q := 69) C dX11_payWages_67 rfl rfl ?_
          refine j_ladd (q := 70) C dX11_payWages_69 rfl ?_
          refine j_lastW (q := 71) C dX11_payWages_70 rfl hR.1.2.1 (by omega) (by decide) ?_
          refine j_aload_n (q := 72) C dX11_payWages_71 rfl rfl rfl ?_
          refine jg_Model_now (q := 75) C dX11_payWages_72 rfl hR.1.1 kw_869 hR.2.1 ?_
          refine j_iconst (v := nI 1) (q := 76) C dX11_payWages_75 rfl (by decide) ?_
          refine j_dup2_11 (q := 77) C dX11_payWages_76 rfl rfl rfl ?_
          refine j_laldW (q := 78) C dX11_payWages_77 rfl hR.1.2.1 (by omega) (by decide) ?_
          refine j_lload (q := 80) C dX11_payWages_78 rfl rfl ?_
          refine j_lload_n (q := 81) C dX11_payWages_80 rfl rfl rfl ?_
          refine j_lsub (q := 82) C dX11_payWages_81 rfl ?_
          refine j_ladd (q := 83) C dX11_payWages_82 rfl ?_
          refine j_lastW (q := 84) C dX11_payWages_83 rfl hR.1.2.1 (by omega) (by decide) ?_
          refine j_aload_n (q := 85) C dX11_payWages_84 rfl rfl rfl ?_
          refine j_aload_n (q := 86) C dX11_payWages_85 rfl rfl rfl ?_
          refine jg_Model_now (q := 89) C dX11_payWages_86 rfl hR.1.1 kw_869 hR.2.1 ?_
          refine j_iload_n (q := 90) C dX11_payWages_89 rfl rfl rfl ?_
          refine j_iconst (v := nI 2) (q := 91) C dX11_payWages_90 rfl (by decide) ?_
          refine jS1 (q := 94) C dX11_payWages_91 rfl mX11_ofPaper kw_937 kw_938 (ctX11_ofPaper) rfl rfl (by decide) (Nat.le_of_ble_eq_true rfl) (by decide) ?_
          refine j_laldW (q := 95) C dX11_payWages_94 rfl hR.1.2.1 (by omega) (by decide) ?_
          refine j_top (v' := .long (lN (nv (Nk (110 + 7 * k + 2))))) (by rw [va_up_ne _ _ (by omega), va_up_ne _ _ (by omega)]; exact congrArg Value.long (hOk.2.2.2.2.1 k (by omega)).2.2.1.1.1) ?_
          first | refine j_l2iN (q := 96) C dX11_payWages_95 rfl ?_ | refine j_l2i (q := 96) C dX11_payWages_95 rfl rfl ?_
          refine j_iconst (v := nI 0) (q := 97) C dX11_payWages_96 rfl (by decide) ?_
          refine jS1 (q := 100) C dX11_payWages_97 rfl mX11_of kw_908 kw_909 (ctX11_of) rfl rfl (by decide) (Nat.le_of_ble_eq_true rfl) (by decide) ?_
          refine j_lload_n (q := 101) C dX11_payWages_100 rfl rfl rfl ?_
          refine jV0 jc11 (q := 104) C dX11_payWages_101 rfl hR.1.1 mX11_gets kw_1000 kw_1001 kw_39 (ctX11_gets hRp2 (by have := (hOk.2.2.2.2.1 k (by omega)).2.2.1.1.2; omega)) rfl rfl (by decide) (Nat.le_of_ble_eq_true rfl) (by decide) ?_
          first | refine j_iincN (lv' := [(1, _), (4, _), (2, _), (0, _)]) (q := 107) C dX11_payWages_104 rfl rfl (by decide) rfl ?_ | refine j_iinc (lv' := [(1, _), (4, _), (2, _), (0, _)]) (q := 107) C dX11_payWages_104 rfl rfl rfl (by decide) rfl ?_
          refine j_goto (tgt := 2) C dX11_payWages_107 (by decide) ?_
          exact j_fewer (lv' := [(1, .int (nI (k + 1))), (0, .ref o)]) (by simp) (ih (k + 1) _ _ (by rw [nWages, ← eN, nWage, if_pos ⟨jb_n.mp c_19, c_36⟩]; rfl) (by omega))
  exact loop2 pa 0 (M.2.1 (o + 11)) N rfl (by omega)

