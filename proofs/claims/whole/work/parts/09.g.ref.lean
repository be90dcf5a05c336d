theorem pI_exp {T : Nat → Nat} {n : Nat} {P : List Nat} {q : pS} {t : Nat × Nat} (ht : ¬ t.1 = 0) (hI : pI n P q) : pI n P (pExp T n t q) ∧ ((pExp T n t q).1 = false → P.length + (pExp T n t q).2.2.length + 1 ≤ (pExp T n t q).2.1) := by
  unfold pExp
  by_cases hb : q.1 = true
  · rw [if_pos hb]; exact ⟨hI, fun h => by rw [h] at hb; cases hb⟩
  · rw [if_neg hb]
    by_cases c : tk T n q.2.1 = t
    · rw [if_pos c]
      have h := pI_nx (T := T) (bf hb) (by rw [c]; exact ht) hI
      exact ⟨h.1, fun _ => h.2⟩
    · rw [if_neg c]
      exact ⟨⟨hI.1, fun h => by cases h⟩, fun h => by cases h⟩
theorem pI_cl {T : Nat → Nat} {n : Nat} {P : List Nat} {q : pS} {s k : Nat} (hT : ∀ i, T i < 256) (hI : pI n P q) : pI n P (pExp T n (1, s) q) ∧ pI n P (pOr T n (lvE T n 4).1 (lvE T n 4).2 (pExp T n (1, s) q)) ∧ pI n P (pCl T n s q) ∧ pI n P (pEm k (pCl T n s q)) := by
  have h1 := (pI_exp (T := T) (t := (1, s)) (show ¬ (1 : Nat) = 0 by decide) hI).1
  have h2 := pI_sub (P := P) (top_G (T := T) hT) h1
  have h3 := pI_exp (T := T) (t := (3, 2)) (by decide) h2
  refine ⟨h1, h2, h3.1, ?_⟩
  by_cases hb : (pCl T n s q).1 = true
  · rw [pEm_t hb]; exact h3.1
  · rw [pEm_f (bf hb)]
    have := h3.2 (bf hb)
    refine ⟨h3.1.1, fun _ => ?_⟩
    show P.length + ((pCl T n s q).2.2 ++ [k]).length ≤ (pCl T n s q).2.1
    simp only [List.length_append, List.length_cons, List.length_nil]
    have e : pExp T n (3, 2) (pOr T n (lvE T n 4).1 (lvE T n 4).2 (pExp T n (1, s) q)) = pCl T n s q := rfl
    rw [e] at this
    omega
set_option maxRecDepth 100000 in
set_option maxHeartbeats 4000000 in
theorem ctX11_clause {G : jG} {sz : Nat} {Sh : jS} {M : jM} {o : Nat} {S : Nat → Prop} {T : Nat → Nat} {n : Nat} {M0 : jM} {P : List Nat} {q : pS} (hSo : S o) (hSc : S (o + 10)) (hI : pI n P q) (hS : rSt S o Sh T n M0 0 P M q) {s k : Nat} (hs : s < 13) (hk : wps.getD s 0 = k) : jC G yX11_clause cX11_clause 2 (Option.none : Option FieldType) (jrm 58 0 0) sz Sh M [.ref o, .int (nI k)] (jT sz Sh (fun r M1 => r = none ∧ rSt S o Sh T n M0 0 P M1 (pEm 3000000 (pCl T n s q)))) := by
  refine jC_start (by decide +kernel) (Nat.le_of_ble_eq_true rfl) (fun X C E hN0 => ?_)
  have hs11 := (rSt_lay hS).1.1.1
  have hn160 : n ≤ 160 := (rSt_lay hS).2.2.1
  have hT := (rSt_lay hS).2.2.2.1
  refine j_aload_n (q := 1) C dX11_clause_0 rfl rfl rfl ?_
  refine j_aload_n (q := 2) C dX11_clause_1 rfl rfl rfl ?_
  refine j_iload_n (q := 3) C dX11_clause_2 rfl rfl rfl ?_
  refine jV1 jc11 (q := 6) C dX11_clause_3 rfl hs11 mX11_isWord kw_1093 kw_1094 kw_45 (ctX11_isWord hS hs hk) rfl rfl (by decide) (Nat.le_of_ble_eq_true rfl) (by decide) ?_
  refine jVT jc11 (q := 9) C dX11_clause_6 rfl hs11 mX11_need kw_1096 kw_1097 kw_46 (ctX11_need hSo hS hI.1 (p := q.1 = false ∧ tk T n q.2.1 = (1, s)) rfl) rfl rfl (by decide) (Nat.le_of_ble_eq_true rfl) (by decide) (fun r_6 M_6 h_6 => ?_)
  obtain ⟨rfl, hS1⟩ := h_6
  rw [need_exp] at hS1
  obtain ⟨h1, h2, h3, h4⟩ := pI_cl (s := s) (k := 3000000) hT hI
  obtain ⟨q2, e2⟩ : ∃ z, z = pOr T n (lvE T n 4).1 (lvE T n 4).2 (pExp T n (1, s) q) := ⟨_, rfl⟩
  rw [← e2] at h2
  refine j_aload_n (q := 10) C dX11_clause_9 rfl rfl rfl ?_
  refine jVT jc11 (q := 13) C dX11_clause_10 rfl hs11 mX11_either kw_1099 kw_1100 kw_47 (ctX11_either_4 hSo hSc h1 hS1) rfl rfl (by decide) (Nat.le_of_ble_eq_true rfl) (by decide) (fun r_10 M_10 h_10 => ?_)
  obtain ⟨rfl, hS2⟩ := h_10
  rw [← e2] at hS2
  refine j_aload_n (q := 14) C dX11_clause_13 rfl rfl rfl ?_
  refine j_aload_n (q := 15) C dX11_clause_14 rfl rfl rfl ?_
  refine j_bipush (v := nI 59) (q := 17) C dX11_clause_15 rfl (by decide) ?_
  refine jV1 jc11 (q := 20) C dX11_clause_17 rfl hs11 mX11_isSign kw_1120 kw_1121 kw_54 (ctX11_isSign hS2 h2.1 (s := 2) (by decide) rfl) rfl rfl (by decide) (Nat.le_of_ble_eq_true rfl) (by decide) ?_
  refine jVT jc11 (q := 23) C dX11_clause_20 rfl hs11 mX11_need kw_1096 kw_1097 kw_46 (ctX11_need hSo hS2 h2.1 (p := q2.1 = false ∧ tk T n q2.2.1 = (3, 2)) rfl) rfl rfl (by decide) (Nat.le_of_ble_eq_true rfl) (by decide) (fun r_20 M_20 h_20 => ?_)
  obtain ⟨rfl, hS3⟩ := h_20
  rw [need_exp, e2] at hS3
  refine j_aload_n (q := 24) C dX11_clause_23 rfl rfl rfl ?_
  refine j_ldc (q := 26) C dX11_clause_24 rfl kw_977 ?_
  refine j_top (v' := .int (nI 3000000)) (by rfl) ?_
  refine jVT jc11 (q := 29) C dX11_clause_26 rfl hs11 mX11_codes kw_1108 kw_1109 kw_50 (ctX11_codes hSo hSc hS3 (pI_l hn160 h3) (k := 3000000)) rfl rfl (by decide) (Nat.le_of_ble_eq_true rfl) (by decide) (fun r_26 M_26 h_26 => ?_)
  obtain ⟨rfl, hS4⟩ := h_26
  exact j_vret C E dX11_clause_29 rfl rfl (⟨rfl, rfl, rfl, hS4⟩)

/-- a text, as it is read -/
def pTop (T : Nat → Nat) (n : Nat) : pS := pEm 3000000 (pCl T n 9 (pEm 3000000 (pCl T n 8 (pEm 3000000 (pCl T n 7 (false, 0, []))))))
abbrev pTopOk (T : Nat → Nat) (n : Nat) : Prop := (pTop T n).1 = false ∧ (tk T n (pTop T n).2.1).1 = 0
def tS (o : Nat) (b : Nat) : Prop := b = o ∨ b = o + 4 ∨ b = o + 10
/-- text(t), where t is right -/
def rTxt (o t : Nat) (T : Nat → Nat) (n : Nat) (M : jM) (N : Nat → Int64) (r : Option Value) (M2 : jM) : Prop := ∃ Mx, M2 = jw Mx (o + 1) (if pTopOk T n then va_up N (302 + t) (lN 1) else N) ∧ mEq (tS o) M Mx ∧ Mx.1 o 8 = nI 0 ∧ (∀ j, j < 8 ∨ (8 < j ∧ j < 12) ∨ 19 < j → Mx.1 o j = M.1 o j) ∧ (∀ j, Mx.1 (o + 4) j = if pTopOk T n ∧ 168 * t ≤ j ∧ j < 168 * t + (pTop T n).2.2.length then nI ((pTop T n).2.2.getD (j - 168 * t) 0) else M.1 (o + 4) j) ∧ r = some (.long (if pTopOk T n then -1 else lN (fr T n (pTop T n).2.1)))
theorem rSt_st {S : Nat → Prop} {o : Nat} {Sh : jS} {T : Nat → Nat} {n : Nat} {M0 M : jM} {K : Nat → Int32} (h : nxP S o Sh T n 0 (nI 0) (nI 0) (nI 0) M0 M K) : rSt S o Sh T n M0 0 [] M (false, 0, []) := by
  obtain ⟨d, h1, h2⟩ := h
  exact ⟨K, _, _, d, _, by rw [jb_f (show ¬ false = true by decide)]; exact h1, fun _ => ⟨rfl, rfl, h2, rfl, fun i hi => absurd hi (by simp)⟩⟩
theorem jw_same {M : jM} {a : Nat} {g : Nat → Int64} : (jw M a g).2.1 a = g := by
  exact jw_at M a g
theorem mEq_un {o : Nat} {Sh : jS} {T : Nat → Nat} {n : Nat} {M9 M : jM} {N : Nat → Int64} {K : Nat → Int32} {a b c d e f g : Int32} (hQ : rP (fun b => b = o ∨ b = o + 10) o Sh T n (jw M9 (o + 1) N) M K a b c d e f g) : mEq (tS o) M9 (jw (jsI M o 8 (nI 0)) (o + 1) (M9.2.1 (o + 1))) := by
  refine ⟨fun b hb => (jup_ne (fun e => hb (Or.inl e))).trans (hQ.1.1 b (fun h => hb (h.elim Or.inl (fun h => Or.inr (Or.inr h))))), fun b hb => ?_, hQ.1.2.2⟩
  by_cases e : b = o + 1
  · subst e; exact jw_same
  · have h1 := hQ.1.2.1 b (fun h => hb (h.elim Or.inl (fun h => Or.inr (Or.inr h))))
    rw [jw_ne _ _ e] at h1
    rw [jw_ne _ _ e]
    exact h1
theorem mEq_un2 {o : Nat} {Sh : jS} {T : Nat → Nat} {n : Nat} {M9 M Mk : jM} {N : Nat → Int64} {K : Nat → Int32} {a b c d e f g : Int32} (hQ : rP (fun b => b = o ∨ b = o + 10) o Sh T n (jw M9 (o + 1) N) M K a b c d e f g) (hE : mEq (fun b => b = o + 4) (jsI M o 8 (nI 0)) Mk) : mEq (tS o) M9 (jw Mk (o + 1) (M9.2.1 (o + 1))) := by
  have h0 := mEq_un hQ
  refine ⟨fun b hb => (hE.1 b (fun h => hb (Or.inr (Or.inl h)))).trans (h0.1 b hb), fun b hb => ?_, hE.2.2.trans h0.2.2⟩
  by_cases e : b = o + 1
  · subst e; exact jw_same
  · have h1 := (h0.2.1 b hb)
    have h2 := hE.2.1 b (fun h => hb (Or.inr (Or.inl h)))
    rw [jw_ne _ _ e] at h1
    rw [jw_ne _ _ e]
    exact h2.trans h1
def eTxt (t : Int32) : Int64 := if okW t 4 then 0 else -100001
set_option maxRecDepth 100000 in
set_option maxHeartbeats 4000000 in
theorem ctX11_text {G : jG} {sz : Nat} {Sh : jS} {M : jM} {o : Nat} {N : Nat → Int64} (hR : rLay o Sh M) {T : Nat → Nat} {n : Nat} (hT : rTp o M T n) {t0 : Int32} : jC G yX11_text cX11_text 4 (Option.some FieldType.long) (jrm 59 0 0) sz Sh (jw M (o + 1) N) [.ref o, .int t0] (jT sz Sh (eX o M N (eTxt t0) (rTxt o t0.toNatClampNeg T n M N))) := by
  refine jC_start (by decide +kernel) (Nat.le_of_ble_eq_true rfl) (fun X C E hN0 => ?_)
  refine j_iload_n (q := 1) C dX11_text_0 rfl rfl rfl ?_
  first | refine j_i2lN (q := 2) C dX11_text_1 rfl (by omega) ?_ | refine j_i2l (q := 2) C dX11_text_1 rfl rfl ?_
  refine j_lconst (v := 0) (q := 3) C dX11_text_2 rfl (by decide) ?_
  refine j_ldc2 (q := 6) C dX11_text_3 rfl kw_948 ?_
  refine jS1 (q := 9) C dX11_text_6 rfl mX11_within kw_898 kw_899 (ctX11_within) rfl rfl (by decide) (Nat.le_of_ble_eq_true rfl) (by decide) ?_
  refine j_if_ne (q := 12) (tgt := 20) C dX11_text_9 rfl (by decide) (fun c_9 => ?_) (fun c_9 => ?_)
  · have htt : okW t0 4 := jb_n.mp c_9
    obtain ⟨t, ht, rfl⟩ := jix2 (by omega) htt.1 htt.2
    have eT : (nI t).toNatClampNeg = t := nI_clamp (by omega)
    have hes : eTxt (nI t) = 0 := if_pos htt
    have hs11 := hR.1.1
    have hTT := hT.2.2.1
    have hn160 := hT.2.1
    obtain ⟨M9, e9⟩ : ∃ z, z = M := ⟨_, rfl⟩
    have hSo : (fun b => b = o ∨ b = o + 10) o := Or.inl rfl
    have hSc : (fun b => b = o ∨ b = o + 10) (o + 10) := Or.inr rfl
    have hQ := rP_of (S := (fun b => b = o ∨ b = o + 10)) (M := jw M (o + 1) N) hR hT
    rw [← e9] at hQ ⊢
    refine j_aload_n (q := 21) C dX11_text_20 rfl rfl rfl ?_
    refine j_iconst (v := nI 0) (q := 22) C dX11_text_21 rfl (by decide) ?_
    refine qp_to hSo hQ (q' := 25) C dX11_text_22 rfl kw_882 (fun M hQ => ?_)
    refine j_aload_n (q := 26) C dX11_text_25 rfl rfl rfl ?_
    refine j_iconst (v := nI 0) (q := 27) C dX11_text_26 rfl (by decide) ?_
    refine qp_isFault hSo hQ (by first | exact Or.inl rfl | exact Or.inr rfl) (q' := 30) C dX11_text_27 rfl kw_885 (fun M hQ => ?_)
    refine j_aload_n (q := 31) C dX11_text_30 rfl rfl rfl ?_
    refine j_iconst (v := nI 0) (q := 32) C dX11_text_31 rfl (by decide) ?_
    refine qp_deep hSo hQ (q' := 35) C dX11_text_32 rfl kw_886 (fun M hQ => ?_)
    refine j_aload_n (q := 36) C dX11_text_35 rfl rfl rfl ?_
    refine j_iconst (v := nI 0) (q := 37) C dX11_text_36 rfl (by decide) ?_
    refine qp_coded hSo hQ (q' := 40) C dX11_text_37 rfl kw_888 (fun M hQ => ?_)
    refine j_aload_n (q := 41) C dX11_text_40 rfl rfl rfl ?_
    refine jVT jc11 (q := 44) C dX11_text_41 rfl hs11 mX11_next kw_1024 kw_1025 kw_41 (ctX11_next hSo (x := 0) (Nat.zero_le _) hQ) rfl rfl (by decide) (Nat.le_of_ble_eq_true rfl) (by decide) (fun r_41 M_41 h_41 => ?_)
    obtain ⟨rfl, hN⟩ := h_41
    have hS0 := rSt_st hN
    have hI0 : pI n [] (false, 0, []) := ⟨Nat.zero_le _, fun _ => Nat.le_refl _⟩
    refine j_aload_n (q := 45) C dX11_text_44 rfl rfl rfl ?_
    refine j_bipush (v := nI 35) (q := 47) C dX11_text_45 rfl (by decide) ?_
    refine jVT jc11 (q := 50) C dX11_text_47 rfl hs11 mX11_clause kw_1090 kw_1091 kw_44 (ctX11_clause hSo hSc hI0 hS0 (s := 7) (by decide) rfl) rfl rfl (by decide) (Nat.le_of_ble_eq_true rfl) (by decide) (fun r_47 M_47 h_47 => ?_)
    obtain ⟨rfl, hS1⟩ := h_47
    have hI1 := (pI_cl (s := 7) (k := 3000000) hTT hI0).2.2.2
    refine j_aload_n (q := 51) C dX11_text_50 rfl rfl rfl ?_
    refine j_bipush (v := nI 40) (q := 53) C dX11_text_51 rfl (by decide) ?_
    refine jVT jc11 (q := 56) C dX11_text_53 rfl hs11 mX11_clause kw_1090 kw_1091 kw_44 (ctX11_clause hSo hSc hI1 hS1 (s := 8) (by decide) rfl) rfl rfl (by decide) (Nat.le_of_ble_eq_true rfl) (by decide) (fun r_53 M_53 h_53 => ?_)
    obtain ⟨rfl, hS2⟩ := h_53
    have hI2 := (pI_cl (s := 8) (k := 3000000) hTT hI1).2.2.2
    refine j_aload_n (q := 57) C dX11_text_56 rfl rfl rfl ?_
    refine j_bipush (v := nI 45) (q := 59) C dX11_text_57 rfl (by decide) ?_
    refine jVT jc11 (q := 62) C dX11_text_59 rfl hs11 mX11_clause kw_1090 kw_1091 kw_44 (ctX11_clause hSo hSc hI2 hS2 (s := 9) (by decide) rfl) rfl rfl (by decide) (Nat.le_of_ble_eq_true rfl) (by decide) (fun r_59 M_59 h_59 => ?_)
    obtain ⟨rfl, hS3⟩ := h_59
    have hI3 := (pI_cl (s := 9) (k := 3000000) hTT hI2).2.2.2
    have hS3 : rSt (fun b => b = o ∨ b = o + 10) o Sh T n (jw M9 (o + 1) N) 0 [] M_59 (pTop T n) := hS3
    have hI3 : pI n [] (pTop T n) := hI3
    obtain ⟨Z, eZ⟩ : ∃ z, z = pTop T n := ⟨_, rfl⟩
    rw [← eZ] at hS3 hI3
    obtain ⟨K, b, c, d, g, hQ, hG⟩ := hS3
    have hx1 := fr_le (T := T) hI3.1
    have hts := tk_sort (T := T) (n := n) (x := Z.2.1)
    refine j_aload_n (q := 63) C dX11_text_62 rfl rfl rfl ?_
    refine j_aload_n (q := 64) C dX11_text_63 rfl rfl rfl ?_
    refine qg_isFault hQ (q' := 67) C dX11_text_64 rfl kw_885 ?_
    refine j_if_ne (q := 70) (tgt := 77) C dX11_text_67 rfl (by decide) (fun c_67 => ?_) (fun c_67 => ?_)
    · refine j_iconst (v := nI 1) (q := 78) C dX11_text_77 rfl (by decide) ?_
      refine j_goto (tgt := 82) C dX11_text_78 (by decide) ?_
      refine qp_isFault hSo hQ (by first | exact Or.inl rfl | exact Or.inr rfl) (q' := 85) C dX11_text_82 rfl kw_885 (fun M hQ => ?_)
      refine j_aload_n (q := 86) C dX11_text_85 rfl rfl rfl ?_
      refine qg_from hQ (q' := 89) C dX11_text_86 rfl kw_881 ?_
      refine j_istore_n (lv' := [(2, _), (0, _), (1, _)]) (q := 90) C dX11_text_89 rfl rfl (by decide) rfl ?_
      refine j_aload_n (q := 91) C dX11_text_90 rfl rfl rfl ?_
      refine j_iconst (v := nI 0) (q := 92) C dX11_text_91 rfl (by decide) ?_
      refine jp_Model_taped (q := 95) C dX11_text_92 rfl hs11 kw_877 ?_
      have hR9 := hQ.2.2.1
      have hR := hQ.2.2.1
      have hno : ¬ pTopOk T n := fun h => by
        unfold pTopOk at h; rw [← eZ] at h; rw [h.1] at c_67; exact c_67 rfl
      refine j_aload_n (q := 96) C dX11_text_95 rfl rfl rfl ?_
      refine jg_Model_isFault (q := 99) C dX11_text_96 rfl hs11 kw_885 ?_
      rw [show (jsI M o 8 (nI 0)).1 o 16 = nI 1 from (upI (by omega)).trans hQ.2.2.2.2.2.2.2.2.1]
      refine j_if_eq (q := 102) (tgt := 105) C dX11_text_99 rfl (by decide) (fun c_99 => absurd c_99 (by decide)) (fun c_99 => ?_)
      refine j_iload_n (q := 103) C dX11_text_102 rfl rfl rfl ?_
      first | refine j_i2lN (q := 104) C dX11_text_103 rfl (by omega) ?_ | refine j_i2l (q := 104) C dX11_text_103 rfl rfl ?_
      exact j_lret C E dX11_text_104 rfl rfl (by
        refine eX_o hes ?_
        unfold rTxt
        rw [← e9, eT]
        subst eZ
        refine ⟨jw (jsI M o 8 (nI 0)) (o + 1) (M9.2.1 (o + 1)), ?_, ?_, upIs, ?_, ?_, ?_⟩
        · rw [if_neg hno, jw_jw]
          have e : (jsI M o 8 (nI 0)).2.1 (o + 1) = N := (hQ.1.2.1 (o + 1) (by omega)).trans jw_same
          rw [← e, jw_self]
        · exact mEq_un hQ
        · exact fun j hj => (upI (by omega)).trans (hQ.2.1 j (by omega))
        · intro j
          rw [if_neg (fun h => hno h.1)]
          exact (upI (by omega)).trans (congrFun (hQ.1.1 (o + 4) (by omega)) j)
        · rw [if_neg hno])
    · have hq : Z.1 = false := bf (jb_0.mp c_67)
      obtain ⟨rfl, rfl, hd, rfl, hK⟩ := hG hq
      have hZl := hI3.2 hq
      simp only [List.length_nil, List.nil_append] at hZl hK
      refine j_aload_n (q := 71) C dX11_text_70 rfl rfl rfl ?_
      refine qg_sort hQ (q' := 74) C dX11_text_71 rfl kw_883 ?_
      refine j_if_eq (q := 77) (tgt := 81) C dX11_text_74 rfl (by decide) (fun c_74 => ?_) (fun c_74 => ?_)
      · refine j_iconst (v := nI 0) (q := 82) C dX11_text_81 rfl (by decide) ?_
        refine qp_isFault hSo hQ (by first | exact Or.inl rfl | exact Or.inr rfl) (q' := 85) C dX11_text_82 rfl kw_885 (fun M hQ => ?_)
        refine j_aload_n (q := 86) C dX11_text_85 rfl rfl rfl ?_
        refine qg_from hQ (q' := 89) C dX11_text_86 rfl kw_881 ?_
        refine j_istore_n (lv' := [(2, _), (0, _), (1, _)]) (q := 90) C dX11_text_89 rfl rfl (by decide) rfl ?_
        refine j_aload_n (q := 91) C dX11_text_90 rfl rfl rfl ?_
        refine j_iconst (v := nI 0) (q := 92) C dX11_text_91 rfl (by decide) ?_
        refine jp_Model_taped (q := 95) C dX11_text_92 rfl hs11 kw_877 ?_
        have hR9 := hQ.2.2.1
        have hR := hQ.2.2.1
        have hok : pTopOk T n := by unfold pTopOk; rw [← eZ]; exact ⟨hq, (nI_eq (b := 0) (by omega) (by omega)).mp c_74⟩
        refine j_aload_n (q := 96) C dX11_text_95 rfl rfl rfl ?_
        refine jg_Model_isFault (q := 99) C dX11_text_96 rfl hs11 kw_885 ?_
        rw [show (jsI M o 8 (nI 0)).1 o 16 = nI 0 from (upI (by omega)).trans hQ.2.2.2.2.2.2.2.2.1]
        refine j_if_eq (q := 102) (tgt := 105) C dX11_text_99 rfl (by decide) (fun c_99 => ?_) (fun c_99 => absurd (by decide) c_99)
        refine j_iconst (v := nI 0) (q := 106) C dX11_text_105 rfl (by decide) ?_
        refine j_istore_n (lv' := [(3, _), (2, _), (0, _), (1, _)]) (q := 107) C dX11_text_106 rfl rfl (by decide) rfl ?_
        have loop107 : ∀ (z k : Nat) (Mk : jM), mEq (fun b => b = o + 4) (jsI M o 8 (nI 0)) Mk → (∀ j, Mk.1 (o + 4) j = if 168 * t ≤ j ∧ j < 168 * t + k then nI (Z.2.2.getD (j - 168 * t) 0) else (jsI M o 8 (nI 0)).1 (o + 4) j) → k + z = Z.2.2.length → jJ G X 0 0 sz Sh Mk 107 [(3, .int (nI k)), (2, .int (nI (fr T n Z.2.1))), (1, .int (nI t)), (0, .ref o)] [] := by
          intro z
          induction z with
          | zero =>
            intro k Mk hE h4 hk
            have hR : rLay o Sh Mk := by have h := hR9; unfold rLay at h ⊢; rw [hE.2.2]; exact h
            have h19 : Mk.1 o 19 = nI Z.2.2.length := (congrFun (hE.1 o (by omega)) 19).trans ((upI (by omega)).trans hQ.2.2.2.2.2.2.2.2.2.2.1)
            have h10 : ∀ i, i < Z.2.2.length → Mk.1 (o + 10) i = nI (Z.2.2.getD i 0) := fun i hi => (congrFun (hE.1 (o + 10) (by omega)) i).trans ((upI (by omega)).trans ((congrFun hQ.2.2.2.2.2.2.2.2.2.2.2 i).trans (hK i hi)))
            have hN9 : Mk.2.1 (o + 1) = N := (hE.2.1 (o + 1) (by omega)).trans ((hQ.1.2.1 (o + 1) (by omega)).trans jw_same)
            refine j_iload_n (q := 108) C dX11_text_107 rfl rfl rfl ?_
            refine j_aload_n (q := 109) C dX11_text_108 rfl rfl rfl ?_
            refine jg_Model_coded (q := 112) C dX11_text_109 rfl hs11 kw_888 ?_
            rw [show Mk.1 o 19 = nI Z.2.2.length from h19]
            refine j_icmp_ge (q := 115) (tgt := 139) C dX11_text_112 rfl (by decide) (fun c_112 => ?_) (fun c_112 => absurd (nI_le (by omega) (by omega)) c_112)
            obtain rfl : Z.2.2.length = k := by omega
            refine j_mem (M' := jw (jw Mk (o + 1) (M9.2.1 (o + 1))) (o + 1) N) (by rw [jw_jw, ← hN9, jw_self]) ?_
            refine j_aload_n (q := 140) C dX11_text_139 rfl rfl rfl ?_
            refine jg_Model_now (q := 143) C dX11_text_140 rfl hs11 kw_869 hR.2.1 ?_
            refine j_sipush (v := nI 302) (q := 146) C dX11_text_143 rfl (by decide) ?_
            refine j_iload_n (q := 147) C dX11_text_146 rfl rfl rfl ?_
            first | refine j_iaddN (q := 148) C dX11_text_147 rfl ?_ | refine j_iadd (q := 148) C dX11_text_147 rfl ?_
            refine j_lconst (v := 1) (q := 149) C dX11_text_148 rfl (by decide) ?_
            refine j_lastW (q := 150) C dX11_text_149 rfl hR.1.2.1 (by omega) (by decide) ?_
            refine j_ldc2 (q := 153) C dX11_text_150 rfl kw_940 ?_
            exact j_lret C E dX11_text_153 rfl rfl (by
              refine eX_o hes ?_
              unfold rTxt
              rw [← e9, eT]
              subst eZ
              refine ⟨jw Mk (o + 1) (M9.2.1 (o + 1)), ?_, ?_, ?_, ?_, ?_, ?_⟩
              · rw [if_pos hok]; rfl
              · exact mEq_un2 hQ hE
              · exact (congrFun (hE.1 o (by omega)) 8).trans upIs
              · exact fun j hj => (congrFun (hE.1 o (by omega)) j).trans ((upI (by omega)).trans (hQ.2.1 j (by omega)))
              · intro j
                show Mk.1 (o + 4) j = _
                rw [h4 j]
                by_cases c1 : 168 * t ≤ j ∧ j < 168 * t + (pTop T n).2.2.length
                · rw [if_pos c1, if_pos ⟨hok, c1⟩]
                · rw [if_neg c1, if_neg (fun h => c1 h.2)]
                  exact (upI (by omega)).trans (congrFun (hQ.1.1 (o + 4) (by omega)) j)
              · rw [if_pos hok])
          | succ z ih =>
            intro k Mk hE h4 hk
            have hR : rLay o Sh Mk := by have h := hR9; unfold rLay at h ⊢; rw [hE.2.2]; exact h
            have h19 : Mk.1 o 19 = nI Z.2.2.length := (congrFun (hE.1 o (by omega)) 19).trans ((upI (by omega)).trans hQ.2.2.2.2.2.2.2.2.2.2.1)
            have h10 : ∀ i, i < Z.2.2.length → Mk.1 (o + 10) i = nI (Z.2.2.getD i 0) := fun i hi => (congrFun (hE.1 (o + 10) (by omega)) i).trans ((upI (by omega)).trans ((congrFun hQ.2.2.2.2.2.2.2.2.2.2.2 i).trans (hK i hi)))
            have hN9 : Mk.2.1 (o + 1) = N := (hE.2.1 (o + 1) (by omega)).trans ((hQ.1.2.1 (o + 1) (by omega)).trans jw_same)
            refine j_iload_n (q := 108) C dX11_text_107 rfl rfl rfl ?_
            refine j_aload_n (q := 109) C dX11_text_108 rfl rfl rfl ?_
            refine jg_Model_coded (q := 112) C dX11_text_109 rfl hs11 kw_888 ?_
            rw [show Mk.1 o 19 = nI Z.2.2.length from h19]
            refine j_icmp_ge (q := 115) (tgt := 139) C dX11_text_112 rfl (by decide) (fun c_112 => absurd c_112 (fun h => absurd ((nI_leI (by omega) (by omega)).mp h) (by omega))) (fun c_112 => ?_)
            refine j_aload_n (q := 116) C dX11_text_115 rfl rfl rfl ?_
            refine jg_Model_codes (q := 119) C dX11_text_116 rfl hs11 kw_872 hR.2.2.2.2.1 ?_
            refine j_sipush (v := nI 168) (q := 122) C dX11_text_119 rfl (by decide) ?_
            refine j_iload_n (q := 123) C dX11_text_122 rfl rfl rfl ?_
            first | refine j_imulN (q := 124) C dX11_text_123 rfl ?_ | refine j_imul (q := 124) C dX11_text_123 rfl ?_
            refine j_iload_n (q := 125) C dX11_text_124 rfl rfl rfl ?_
            first | refine j_iaddN (q := 126) C dX11_text_125 rfl ?_ | refine j_iadd (q := 126) C dX11_text_125 rfl ?_
            refine j_aload_n (q := 127) C dX11_text_126 rfl rfl rfl ?_
            refine jg_Model_code (q := 130) C dX11_text_127 rfl hs11 kw_887 hR.2.2.2.2.2.2.2.2.2.2.1 ?_
            refine j_iload_n (q := 131) C dX11_text_130 rfl rfl rfl ?_
            refine j_iald (q := 132) C dX11_text_131 rfl hR.1.2.2.2.2.2.2.2.2.2.2.1 (show k < 168 by omega) (by decide) ?_
            rw [show Mk.1 (o + 10) k = nI (Z.2.2.getD k 0) from h10 k (by omega)]
            refine j_iast (q := 133) C dX11_text_132 rfl hR.1.2.2.2.2.1 (show 168 * t + k < 2856 by omega) (by decide) ?_
            first | refine j_iincN (lv' := [(3, _), (2, _), (1, _), (0, _)]) (q := 136) C dX11_text_133 rfl rfl (by decide) rfl ?_ | refine j_iinc (lv' := [(3, _), (2, _), (1, _), (0, _)]) (q := 136) C dX11_text_133 rfl rfl rfl (by decide) rfl ?_
            refine j_goto (tgt := 107) C dX11_text_136 (by decide) ?_
            exact j_fewer (lv' := [(3, .int (nI (k + 1))), (2, .int (nI (fr T n Z.2.1))), (1, .int (nI t)), (0, .ref o)]) (by simp) (ih (k + 1) (jsI Mk (o + 4) (168 * t + k) (nI (Z.2.2.getD k 0))) (hE.I rfl) (fun j => by
              by_cases cj : j = 168 * t + k
              · subst cj; rw [upIs, if_pos (by omega), show 168 * t + k - 168 * t = k by omega]
              · rw [upI (fun e => cj e.2), h4 j]
                by_cases c1 : 168 * t ≤ j ∧ j < 168 * t + k
                · rw [if_pos c1, if_pos (by omega)]
                · rw [if_neg c1, if_neg (by omega)]) (by omega))
        exact j_fewer (lv' := [(3, .int (nI 0)), (2, .int (nI (fr T n Z.2.1))), (1, .int (nI t)), (0, .ref o)]) (by simp) (loop107 Z.2.2.length 0 (jsI M o 8 (nI 0)) mEq.rf (fun j => by rw [if_neg (by omega)]) (by omega))
      · refine j_iconst (v := nI 1) (q := 78) C dX11_text_77 rfl (by decide) ?_
        refine j_goto (tgt := 82) C dX11_text_78 (by decide) ?_
        refine qp_isFault hSo hQ (by first | exact Or.inl rfl | exact Or.inr rfl) (q' := 85) C dX11_text_82 rfl kw_885 (fun M hQ => ?_)
        refine j_aload_n (q := 86) C dX11_text_85 rfl rfl rfl ?_
        refine qg_from hQ (q' := 89) C dX11_text_86 rfl kw_881 ?_
        refine j_istore_n (lv' := [(2, _), (0, _), (1, _)]) (q := 90) C dX11_text_89 rfl rfl (by decide) rfl ?_
        refine j_aload_n (q := 91) C dX11_text_90 rfl rfl rfl ?_
        refine j_iconst (v := nI 0) (q := 92) C dX11_text_91 rfl (by decide) ?_
        refine jp_Model_taped (q := 95) C dX11_text_92 rfl hs11 kw_877 ?_
        have hR9 := hQ.2.2.1
        have hR := hQ.2.2.1
        have hno : ¬ pTopOk T n := fun h => by
          unfold pTopOk at h; rw [← eZ] at h; exact c_74 (by rw [h.2]; rfl)
        refine j_aload_n (q := 96) C dX11_text_95 rfl rfl rfl ?_
        refine jg_Model_isFault (q := 99) C dX11_text_96 rfl hs11 kw_885 ?_
        rw [show (jsI M o 8 (nI 0)).1 o 16 = nI 1 from (upI (by omega)).trans hQ.2.2.2.2.2.2.2.2.1]
        refine j_if_eq (q := 102) (tgt := 105) C dX11_text_99 rfl (by decide) (fun c_99 => absurd c_99 (by decide)) (fun c_99 => ?_)
        refine j_iload_n (q := 103) C dX11_text_102 rfl rfl rfl ?_
        first | refine j_i2lN (q := 104) C dX11_text_103 rfl (by omega) ?_ | refine j_i2l (q := 104) C dX11_text_103 rfl rfl ?_
        exact j_lret C E dX11_text_104 rfl rfl (by
          refine eX_o hes ?_
          unfold rTxt
          rw [← e9, eT]
          subst eZ
          refine ⟨jw (jsI M o 8 (nI 0)) (o + 1) (M9.2.1 (o + 1)), ?_, ?_, upIs, ?_, ?_, ?_⟩
          · rw [if_neg hno, jw_jw]
            have e : (jsI M o 8 (nI 0)).2.1 (o + 1) = N := (hQ.1.2.1 (o + 1) (by omega)).trans jw_same
            rw [← e, jw_self]
          · exact mEq_un hQ
          · exact fun j hj => (upI (by omega)).trans (hQ.2.1 j (by omega))
          · intro j
            rw [if_neg (fun h => hno h.1)]
            exact (upI (by omega)).trans (congrFun (hQ.1.1 (o + 4) (by omega)) j)
          · rw [if_neg hno])
  · refine j_aload_n (q := 13) C dX11_text_12 rfl rfl rfl ?_
    refine j_ldc (q := 15) C dX11_text_13 rfl kw_903 ?_
    refine jV1 jc11 (q := 18) C dX11_text_15 rfl hR.1.1 mX11_finding kw_904 kw_905 kw_28 (ctX11_finding hR) rfl rfl (by decide) (Nat.le_of_ble_eq_true rfl) (by decide) ?_
    first | refine j_i2lN (q := 19) C dX11_text_18 rfl (by omega) ?_ | refine j_i2l (q := 19) C dX11_text_18 rfl rfl ?_
    exact j_lret C E dX11_text_19 rfl rfl (eX_b (if_neg (jb_0.mp c_9)) (by decide))

