theorem pExp_bad {T : Nat → Nat} {n : Nat} {t : Nat × Nat} {q : pS} (h : q.1 = true) : pExp T n t q = q := if_pos h
theorem pCl_bad {T : Nat → Nat} {n s : Nat} {q : pS} (hT : ∀ i, T i < 256) (hq : q.2.1 ≤ n) (h : q.1 = true) : pCl T n s q = q := by
  unfold pCl
  rw [pExp_bad (t := (1, s)) h, (top_G hT q hq).1 h, pExp_bad h]
/-- the class's reading of a text -/
def cA (T : Nat → Nat) (n : Nat) : pS := pCl T n 9 (pCl T n 8 (pCl T n 7 (false, 0, [])))
def cEnd (T : Nat → Nat) (n : Nat) : pS := pExp T n (0, 0) (cA T n)
theorem pI_00 {n : Nat} : pI n [] (false, 0, []) := ⟨Nat.zero_le _, fun _ => Nat.le_refl _⟩
theorem cSt_st {S : Nat → Prop} {rd : Nat} {Sh : jS} {T : Nat → Nat} {n : Nat} {M0 M : jM} {K : Nat → Int32} (h : cNx S rd Sh T n 0 M0 M K (nI 0) (-1)) : cSt S rd Sh T n M0 [] M (false, 0, []) := by
  obtain ⟨b, h1, h2⟩ := h
  exact ⟨K, _, b, _, _, _, h1, fun h => (by cases h), fun _ => ⟨rfl, rfl, rfl, h2, rfl, fun i x hx => by cases hx⟩⟩
/-- what readTape leaves -/
def rdP (rd sz : Nat) (Sh : jS) (M : jM) (T : Nat → Nat) (n : Nat) (r : Option Value) (sz2 : Nat) (Sh2 : jS) (M2 : jM) : Prop := cTp rd M2 T n ∧ (∀ b, b < sz → b ≠ rd → b ≠ rd + 2 → M2.1 b = M.1 b) ∧ (∀ b, b < sz → b ≠ rd → b ≠ rd + 2 → M2.2.1 b = M.2.1 b) ∧ (∀ b, b < sz → M2.2.2 b = M.2.2 b) ∧ (((cEnd T n).1 = false ∧ r = some (.ref sz) ∧ sz2 = sz + 2 ∧ Sh2 = va_up (va_up Sh sz (1, 0)) (sz + 1) (13, (cEnd T n).2.2.length) ∧ M2.1 sz 1 = nI (pCl T n 7 (false, 0, [])).2.2.length ∧ M2.1 sz 2 = nI (pCl T n 8 (pCl T n 7 (false, 0, []))).2.2.length ∧ M2.2.2 sz 0 = some (sz + 1) ∧ sAt (M2.1 (sz + 1)) 0 (cEnd T n).2.2) ∨ ((cEnd T n).1 = true ∧ r = some .null ∧ sz2 = sz ∧ Sh2 = Sh ∧ M2.1 rd 7 = nI (fr T n (cEnd T n).2.1)))
theorem cEnd_le {T : Nat → Nat} {n : Nat} (h : (cA T n).2.1 ≤ n) : (cEnd T n).2.1 ≤ n := by
  have h3 : cEnd T n = if (cA T n).1 = true then cA T n else if tk T n (cA T n).2.1 = (0, 0) then pNx T n (cA T n) else pBad (cA T n) := rfl
  rw [h3]
  split
  · exact h
  split
  · unfold pNx
    split
    · exact h
    · exact (tt_n h).1
  · exact h
theorem jup_s {M : jM} {a x z : Nat} {v : Option Nat} {p r : Int32} : (jsI (jsI (jsP M a 0 v) a x p) a z r).2.2 a 0 = v := by
  show (jsP M a 0 v).2.2 a 0 = v
  simp [jsP, jup]
set_option maxRecDepth 100000 in
set_option maxHeartbeats 4000000 in
theorem ctX7_readTape {G : jG} {sz : Nat} {Sh : jS} {M : jM} {rd : Nat} {T : Nat → Nat} {n : Nat} (hR : cLay rd Sh M) (hTp : cTp rd M T n) (hrs : rd + 2 < sz) : jC G yX7_readTape cX7_readTape 3 (Option.some (FieldType.object "MeltingMarks$Code")) (jrm 59 2 163) sz Sh M [.ref rd] (rdP rd sz Sh M T n) := by
  refine jC_start (by decide +kernel) (Nat.le_of_ble_eq_true rfl) (fun X C E hN0 => ?_)
  have hs7 := hR.1
  have hTT := hTp.2.2.1
  have hn160 := hTp.2.1
  obtain ⟨M9, e9⟩ : ∃ z, z = M := ⟨_, rfl⟩
  have hSo : (fun b => b = rd ∨ b = rd + 2) rd := Or.inl rfl
  have hSc : (fun b => b = rd ∨ b = rd + 2) (rd + 2) := Or.inr rfl
  have hQ := cP_of (S := (fun b => b = rd ∨ b = rd + 2)) hR hTp
  rw [← e9] at hQ ⊢
  refine j_aload_n (q := 1) C dX7_readTape_0 rfl rfl rfl ?_
  refine j_iconst (v := nI 0) (q := 2) C dX7_readTape_1 rfl (by decide) ?_
  refine cp_made hSo hQ (q' := 5) C dX7_readTape_2 rfl kw_246 (fun M hQ => ?_)
  refine j_aload_n (q := 6) C dX7_readTape_5 rfl rfl rfl ?_
  refine j_iconst (v := nI 0) (q := 7) C dX7_readTape_6 rfl (by decide) ?_
  refine cp_place hSo hQ (q' := 10) C dX7_readTape_7 rfl kw_247 (fun M hQ => ?_)
  refine j_aload_n (q := 11) C dX7_readTape_10 rfl rfl rfl ?_
  refine j_iconst (v := (-1)) (q := 12) C dX7_readTape_11 rfl (by decide) ?_
  refine cp_fault hSo hQ (q' := 15) C dX7_readTape_12 rfl kw_250 (fun M hQ => ?_)
  refine j_aload_n (q := 16) C dX7_readTape_15 rfl rfl rfl ?_
  refine jVT jc7 (q := 19) C dX7_readTape_16 rfl hs7 mX7_advance kw_471 kw_472 kw_3 (ctX7_advance hSo (x := 0) hQ (Nat.zero_le _)) rfl rfl (by decide) (Nat.le_of_ble_eq_true rfl) (by decide) (fun r_16 M_16 h_16 => ?_)
  obtain ⟨rfl, hN⟩ := h_16
  have hS0 := cSt_st hN
  have hI0 : pI n [] (false, 0, []) := pI_00
  refine j_aload_n (q := 20) C dX7_readTape_19 rfl rfl rfl ?_
  refine j_bipush (v := (-8)) (q := 22) C dX7_readTape_20 rfl (by decide) ?_
  refine jVT jc7 (q := 25) C dX7_readTape_22 rfl hs7 mX7_readClause kw_535 kw_536 kw_8 (ctX7_readClause hSo hSc hI0 hS0 (s := 7) (by decide) (by decide)) rfl rfl (by decide) (Nat.le_of_ble_eq_true rfl) (by decide) (fun r_22 M_22 h_22 => ?_)
  obtain ⟨rfl, hS1⟩ := h_22
  have hI1 : pI n [] (pCl T n 7 (false, 0, [])) := (pI_cl2 (s := 7) hTT hI0).2.2
  have hS9 := hS1
  obtain ⟨K1, a1, b1, c1, d1, e1, hQ, hB1, hG1⟩ := hS9
  refine j_aload_n (q := 26) C dX7_readTape_25 rfl rfl rfl ?_
  refine cg_made hQ (q' := 29) C dX7_readTape_26 rfl kw_246 ?_
  refine j_istore_n (lv' := [(1, _), (0, _)]) (q := 30) C dX7_readTape_29 rfl rfl (by decide) rfl ?_
  refine j_aload_n (q := 31) C dX7_readTape_30 rfl rfl rfl ?_
  refine j_bipush (v := (-9)) (q := 33) C dX7_readTape_31 rfl (by decide) ?_
  refine jVT jc7 (q := 36) C dX7_readTape_33 rfl hs7 mX7_readClause kw_535 kw_536 kw_8 (ctX7_readClause hSo hSc hI1 hS1 (s := 8) (by decide) (by decide)) rfl rfl (by decide) (Nat.le_of_ble_eq_true rfl) (by decide) (fun r_33 M_33 h_33 => ?_)
  obtain ⟨rfl, hS2⟩ := h_33
  have hI2 : pI n [] (pCl T n 8 (pCl T n 7 (false, 0, []))) := (pI_cl2 (s := 8) hTT hI1).2.2
  have hS9 := hS2
  obtain ⟨K2, a2, b2, c2, d2, e2, hQ, hB2, hG2⟩ := hS9
  refine j_aload_n (q := 37) C dX7_readTape_36 rfl rfl rfl ?_
  refine cg_made hQ (q' := 40) C dX7_readTape_37 rfl kw_246 ?_
  refine j_istore_n (lv' := [(2, _), (1, _), (0, _)]) (q := 41) C dX7_readTape_40 rfl rfl (by decide) rfl ?_
  refine j_aload_n (q := 42) C dX7_readTape_41 rfl rfl rfl ?_
  refine j_bipush (v := (-10)) (q := 44) C dX7_readTape_42 rfl (by decide) ?_
  refine jVT jc7 (q := 47) C dX7_readTape_44 rfl hs7 mX7_readClause kw_535 kw_536 kw_8 (ctX7_readClause hSo hSc hI2 hS2 (s := 9) (by decide) (by decide)) rfl rfl (by decide) (Nat.le_of_ble_eq_true rfl) (by decide) (fun r_44 M_44 h_44 => ?_)
  obtain ⟨rfl, hS3⟩ := h_44
  have hI3 : pI n [] (cA T n) := (pI_cl2 (s := 9) hTT hI2).2.2
  have hS9 := hS3
  obtain ⟨K3, a3, b3, c3, d3, e3, hQ, hB3, hG3⟩ := hS9
  refine j_aload_n (q := 48) C dX7_readTape_47 rfl rfl rfl ?_
  refine j_bipush (v := (-23)) (q := 50) C dX7_readTape_48 rfl (by decide) ?_
  refine jVT jc7 (q := 53) C dX7_readTape_50 rfl hs7 mX7_expect kw_538 kw_539 kw_9 (ctX7_expect hSo hSc hI3 hS3 (t := (0, 0)) (by decide) (by decide) (by decide)) rfl rfl (by decide) (Nat.le_of_ble_eq_true rfl) (by decide) (fun r_50 M_50 h_50 => ?_)
  obtain ⟨rfl, hS4⟩ := h_50
  have hS4 : cSt (fun b => b = rd ∨ b = rd + 2) rd Sh T n M9 [] M_50 (cEnd T n) := hS4
  have hI4 : (cEnd T n).2.1 ≤ n ∧ True := ⟨cEnd_le hI3.1, trivial⟩
  obtain ⟨K4, a4, b4, c4, d4, e4, hQ, hB4, hG4⟩ := hS4
  refine j_aload_n (q := 54) C dX7_readTape_53 rfl rfl rfl ?_
  refine cg_fault hQ (q' := 57) C dX7_readTape_54 rfl kw_250 ?_
  refine j_if_lt (q := 60) (tgt := 62) C dX7_readTape_57 rfl (by decide) (fun c_57 => ?_) (fun c_57 => ?_)
  · have hok : (cEnd T n).1 = false := bf (fun hq => by
      rw [(hB4 hq).2.1] at c_57
      exact absurd c_57 (nI_nneg (by have := fr_le (T := T) hI4.1; omega)))
    obtain ⟨-, -, -, -, rfl, hK⟩ := hG4 hok
    simp only [List.nil_append] at hK
    obtain ⟨L, eL⟩ : ∃ z, z = (cEnd T n).2.2 := ⟨_, rfl⟩
    rw [← eL] at hK
    have hQ : cP (fun b => b = rd ∨ b = rd + 2) rd Sh T n M9 M_50 K4 (nI L.length) b4 c4 d4 e4 := by rw [eL]; rw [List.nil_append] at hQ; exact hQ
    have hA3 : (cA T n).1 = false := bf (fun h => by
      have e := pExp_bad (T := T) (n := n) (t := (0, 0)) h
      rw [show cEnd T n = cA T n from e, h] at hok
      cases hok)
    have hA2 : (pCl T n 8 (pCl T n 7 (false, 0, []))).1 = false := bf (fun h => by
      rw [show cA T n = _ from pCl_bad hTT hI2.1 h, h] at hA3
      cases hA3)
    have hA1 : (pCl T n 7 (false, 0, [])).1 = false := bf (fun h => by
      rw [pCl_bad hTT hI1.1 h, h] at hA2
      cases hA2)
    have ha1 : a1 = nI (pCl T n 7 (false, 0, [])).2.2.length := by have h := (hG1 hA1).2.2.2.2.1; rwa [List.nil_append] at h
    have ha2 : a2 = nI (pCl T n 8 (pCl T n 7 (false, 0, []))).2.2.length := by have h := (hG2 hA2).2.2.2.2.1; rwa [List.nil_append] at h
    have hLl : L.length < 160 := by
      rw [eL]
      have h1 := (pI_exp (T := T) (n := n) (P := []) (t := (3, 2)) (by decide) (pI_sub (P := []) (top_G hTT) (pI_exp (T := T) (P := []) (t := (1, 9)) (by decide) hI2).1)).2 hA3
      have h2 : (cEnd T n).2.2 = (cA T n).2.2 := by
        have h3 : cEnd T n = if (cA T n).1 = true then cA T n else if tk T n (cA T n).2.1 = (0, 0) then pNx T n (cA T n) else pBad (cA T n) := rfl
        rw [h3, if_neg (by rw [hA3]; decide)]
        split
        · rw [pNx_f hA3]
        · rfl
      rw [h2]
      have h5 : ([] : List Nat).length + (cA T n).2.2.length + 1 ≤ (cA T n).2.1 := h1
      have h6 : (cA T n).2.1 ≤ n := hI3.1
      simp only [List.length_nil] at h5
      omega
    refine j_new jc1 (q := 65) C dX7_readTape_62 rfl kw_565 kw_566 kw_83 (fun j hj => by rcases (show j = 0 ∨ j = 1 ∨ j = 2 by omega) with rfl | rfl | rfl <;> rfl) (by decide) (by decide) ?_
    refine j_dup (q := 66) C dX7_readTape_65 rfl rfl ?_
    refine j_aload_n (q := 67) C dX7_readTape_66 rfl rfl rfl ?_
    refine jg_Reader_steps (q := 70) C dX7_readTape_67 rfl (show (va_up Sh sz (1, 0) rd).1 = 7 by rw [va_up_ne _ _ (show rd ≠ sz by omega)]; exact hs7) kw_243 (show (jz M_50 sz).2.2 rd 1 = some (rd + 2) by rw [show (jz M_50 sz).2.2 rd = M_50.2.2 rd by simp [jz, jrow, show rd ≠ sz by omega]]; exact hQ.2.1.2.2.2.2) ?_
    refine j_aload_n (q := 71) C dX7_readTape_70 rfl rfl rfl ?_
    refine jg_Reader_made (q := 74) C dX7_readTape_71 rfl (show (va_up Sh sz (1, 0) rd).1 = 7 by rw [va_up_ne _ _ (show rd ≠ sz by omega)]; exact hs7) kw_246 ?_
    rw [show (jz M_50 sz).1 rd 3 = nI L.length by rw [show (jz M_50 sz).1 rd = M_50.1 rd by simp [jz, jrow, show rd ≠ sz by omega]]; exact hQ.2.2.2.1]
    refine j_callS (rm := jrm 2 1 160) (q := 77) C dX7_readTape_74 rfl mJ7_copyOf_59c91 kw_567 kw_568 (ctJ7_copyOf_59c91 (a := rd + 2) (k := L.length) (by rw [va_up_ne _ _ (show rd + 2 ≠ sz by omega)]; exact hQ.2.1.2.2.1) (by omega) (by omega)) rfl rfl (by decide) (Nat.le_of_ble_eq_true rfl) (by decide) (fun r2 sz2 Sh2 M2 h2 => ?_)
    obtain ⟨rfl, rfl, rfl, g1, g2, g3, g4⟩ := h2
    refine j_iload_n (q := 78) C dX7_readTape_77 rfl rfl rfl ?_
    refine j_iload_n (q := 79) C dX7_readTape_78 rfl rfl rfl ?_
    refine j_callI (rm := jrm 2 0 0) (q := 82) C dX7_readTape_79 rfl mX1_init (Or.inl kw_579) kw_580 rfl (ctX1_init (ca := sz) (sa := sz + 1) (by rw [va_up_ne _ _ (show sz ≠ sz + 1 by omega), va_up_self]) (by rw [va_up_self])) rfl rfl (by decide) (Nat.le_of_ble_eq_true rfl) (by decide) (fun r3 sz3 Sh3 M3 h3 => ?_)
    obtain ⟨rfl, rfl, rfl, rfl⟩ := h3
    refine j_widen (c1 := 2) (s1 := 163) (by decide) (by decide) ?_
    exact j_aret C E dX7_readTape_82 (by first | exact Or.inl ⟨_, rfl⟩ | exact Or.inr ⟨_, rfl⟩) (by first | exact Or.inl rfl | exact Or.inr ⟨_, rfl⟩) rfl rfl (by
        have e1 : ∀ b, b < sz → (jsI (jsI (jsP M2 sz 0 (some (sz + 1))) sz 1 a1) sz 2 a2).1 b = M_50.1 b := fun b hb => by
          rw [show (jsI (jsI (jsP M2 sz 0 (some (sz + 1))) sz 1 a1) sz 2 a2).1 b = M2.1 b from (jup_ne (by omega)).trans (jup_ne (by omega)), g2 b (by omega)]
          simp [jz, jrow, show b ≠ sz by omega]
        have e3 : ∀ b, b < sz → (jsI (jsI (jsP M2 sz 0 (some (sz + 1))) sz 1 a1) sz 2 a2).2.2 b = M_50.2.2 b := fun b hb => by
          rw [show (jsI (jsI (jsP M2 sz 0 (some (sz + 1))) sz 1 a1) sz 2 a2).2.2 b = M2.2.2 b from jup_ne (by omega), g4 b (by omega)]
          simp [jz, jrow, show b ≠ sz by omega]
        refine ⟨⟨(congrFun (e1 rd (by omega)) 2).trans hQ.2.2.1.1, hQ.2.2.1.2.1, hQ.2.2.1.2.2.1, fun i hi => (congrFun (e1 (rd + 1) (by omega)) i).trans (hQ.2.2.1.2.2.2 i hi)⟩, fun b hb h1 h2 => ?_, fun b hb h1 h2 => ?_, fun b hb => ?_, Or.inl ⟨hok, rfl, rfl, ?_, ?_, ?_, jup_s, ?_⟩⟩
        · rw [e1 b hb, hQ.1.1 b (by omega), ← e9]
        · show M2.2.1 b = _
          rw [g3 b (by omega), show (jz M_50 sz).2.1 b = M_50.2.1 b by simp [jz, jrow, show b ≠ sz by omega], hQ.1.2.1 b (by omega), ← e9]
        · rw [e3 b hb, hQ.1.2.2, ← e9]
        · rw [← eL]
        · rw [upI (by omega), upIs]; exact ha1
        · rw [upIs]; exact ha2
        · rw [← eL]
          intro i x hx
          have hi := (List.getElem?_eq_some_iff.mp hx).1
          rw [Nat.zero_add]
          have := hK i x hx
          rw [Nat.zero_add] at this
          rw [show (jsI (jsI (jsP M2 sz 0 (some (sz + 1))) sz 1 a1) sz 2 a2).1 (sz + 1) i = M2.1 (sz + 1) i from (upI (by omega)).trans (upI (by omega)), g1 i hi, show (jz M_50 sz).1 (rd + 2) = M_50.1 (rd + 2) by simp [jz, jrow, show rd + 2 ≠ sz by omega], hQ.2.2.2.2.2.2.2.2]
          exact this)
  · refine j_null (q := 61) C dX7_readTape_60 rfl ?_
    refine j_widen (c1 := 2) (s1 := 163) (by decide) (by decide) ?_
    exact j_aret C E dX7_readTape_61 (by first | exact Or.inl ⟨_, rfl⟩ | exact Or.inr ⟨_, rfl⟩) (by first | exact Or.inl rfl | exact Or.inr ⟨_, rfl⟩) rfl rfl (by
        have hbad : (cEnd T n).1 = true := by
          cases h : (cEnd T n).1 with
          | true => rfl
          | false => exact absurd (show e4 < 0 by rw [(hG4 h).2.2.1]; decide) c_57
        refine ⟨hQ.2.2.1, fun b _ h1 h2 => ?_, fun b _ h1 h2 => ?_, fun b hb => ?_, Or.inr ⟨hbad, rfl, rfl, rfl, hQ.2.2.2.2.2.2.2.1.trans (hB4 hbad).2.1⟩⟩
        · rw [hQ.1.1 b (by omega), ← e9]
        · rw [hQ.1.2.1 b (by omega), ← e9]
        · rw [hQ.1.2.2, ← e9])

