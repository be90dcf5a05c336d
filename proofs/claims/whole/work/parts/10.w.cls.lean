/-- the four sheets -/
def sLay (sh : Nat) (Sh : jS) (M : jM) : Prop := Sh sh = (18, 4) ∧ ∀ s, s < 4 → M.2.2 sh s = some (sh + 1 + 2 * s) ∧ shLay (sh + 1 + 2 * s) Sh M
theorem sLay.mv {sh : Nat} {Sh : jS} {M M' : jM} (h : sLay sh Sh M) (e : M'.2.2 = M.2.2) : sLay sh Sh M' := by
  unfold sLay shLay at h ⊢
  rw [e]
  exact h
theorem sa_sh {G : jG} {X : jX} {y : MethodName} {cc : ByteArray} {nL cells slots sz pc q' s sh : Nat} {R : Room} {Sh : jS} {M : jM} {lv : List (Nat × Value)} {st : List Value} (hL : sLay sh Sh M) (hs : s < 4) (C : jOk G X y cc nL R) (hd : decode cc pc = .ok (.aaload, 1)) (hn : pc + 1 = q') (kk : jJ G X cells slots sz Sh M q' lv (.ref (sh + 1 + 2 * s) :: st)) : jJ G X cells slots sz Sh M pc lv (.int (nI s) :: .ref sh :: st) := j_aald C hd hn hL.1 (by decide) hs (by decide) (hL.2 s hs).1 kk
/-- an answer, or a finding -/
def xX (mm : Nat) (M : jM) (e : Int64) (ok : Option Value → jM → Prop) : Option Value → jM → Prop := fun r M2 => if e = 0 then ok r M2 else r = some (.long e) ∧ M2 = jsL M mm 6 (M.2.1 mm 6 + 1)
theorem xX_b {mm sz : Nat} {Sh : jS} {M : jM} {e v : Int64} {ok : Option Value → jM → Prop} (h : e = v) (hv : ¬ v = 0) : jT sz Sh (xX mm M e ok) (some (.long v)) sz Sh (jsL M mm 6 (M.2.1 mm 6 + 1)) := by
  subst h
  refine ⟨rfl, rfl, ?_⟩
  unfold xX
  rw [if_neg hv]
  exact ⟨rfl, rfl⟩
theorem xX_o {mm sz : Nat} {Sh : jS} {M M2 : jM} {e : Int64} {r : Option Value} {ok : Option Value → jM → Prop} (h : e = 0) (hk : ok r M2) : jT sz Sh (xX mm M e ok) r sz Sh M2 := by
  refine ⟨rfl, rfl, ?_⟩
  unfold xX
  rw [if_pos h]
  exact hk
theorem bit_x (x : Int32) : (x = 0 ∨ x = nI 1) ↔ ((0 : Int64) ≤ x.toInt64 ∧ x.toInt64 ≤ 1) := by
  constructor
  · rintro (rfl | rfl) <;> decide
  · rintro ⟨h1, h2⟩
    obtain ⟨i, hi, rfl⟩ := jix2 (n := 1) (by omega) h1 h2
    rcases (show i = 0 ∨ i = 1 by omega) with rfl | rfl
    · exact Or.inl rfl
    · exact Or.inr rfl
theorem fNB_n {g : Nat → Int32} : ∀ z k, fNB g z k = nNb g k z
  | 0, k => rfl
  | z + 1, k => by
    rw [fNB, nNb]
    by_cases c : g k = 0 ∨ g k = nI 1
    · rw [if_pos c, if_pos ((bit_x _).mp c), fNB_n z (k + 1)]
    · rw [if_neg c, if_neg (fun h => c ((bit_x _).mpr h))]
set_option maxRecDepth 100000 in
set_option maxHeartbeats 4000000 in
theorem ctX10_sheet {G : jG} {sz : Nat} {Sh : jS} {M : jM} {mm sh : Nat} (hs : (Sh mm).1 = 10) (hb4 : M.2.2 mm 4 = some sh) (hL : sLay sh Sh M) {s bits n : Int32} : jC G yX10_sheet cX10_sheet 4 (Option.some FieldType.long) (jrm 3 0 0) sz Sh M [.ref mm, .int s, .int bits, .int n] (jT sz Sh (xX mm M (eSheet s bits n) (fun r M2 => r = some (.long (if bits = 0 then nI 0 else n).toInt64) ∧ mEq (fun b => b = (sh + 1 + 2 * s.toNatClampNeg) ∨ b = (sh + 1 + 2 * s.toNatClampNeg) + 1) M M2 ∧ M2.1 (sh + 1 + 2 * s.toNatClampNeg) 1 = bits ∧ M2.1 (sh + 1 + 2 * s.toNatClampNeg) 2 = (if bits = 0 then nI 0 else n) ∧ (∀ j, j ≠ 1 → j ≠ 2 → M2.1 (sh + 1 + 2 * s.toNatClampNeg) j = M.1 (sh + 1 + 2 * s.toNatClampNeg) j) ∧ ∀ j, j < 20 → M2.1 ((sh + 1 + 2 * s.toNatClampNeg) + 1) j = 0))) := by
  refine jC_start (by decide +kernel) (Nat.le_of_ble_eq_true rfl) (fun X C E hN0 => ?_)
  have hE : M.2.2 = M.2.2 := rfl
  refine j_iload_n (q := 1) C dX10_sheet_0 rfl rfl rfl ?_
  refine jS1 (q := 4) C dX10_sheet_1 rfl mX10_isSheet kw_774 kw_775 ctX10_isSheet rfl rfl (by decide) (Nat.le_of_ble_eq_true rfl) (by decide) ?_
  refine j_if_eq (q := 7) (tgt := 29) C dX10_sheet_4 rfl (by decide) (fun c_4 => ?_) (fun c_4 => ?_)
  · refine j_aload_n (q := 30) C dX10_sheet_29 rfl rfl rfl ?_
    refine j_ldc2 (q := 33) C dX10_sheet_30 rfl kw_283 ?_
    refine jV1 jc10 (q := 36) C dX10_sheet_33 rfl hs mX10_found kw_284 kw_285 kw_0 (ctX10_found hs) rfl rfl (by decide) (Nat.le_of_ble_eq_true rfl) (by decide) ?_
    exact j_lret C E dX10_sheet_36 rfl rfl (xX_b (by unfold eSheet; rw [if_neg (fun h => jb_0.mp c_4 h.1)]) (by decide))
  · refine j_iload_n (q := 8) C dX10_sheet_7 rfl rfl rfl ?_
    refine j_if_eq (q := 11) (tgt := 37) C dX10_sheet_8 rfl (by decide) (fun c_8 => ?_) (fun c_8 => ?_)
    · refine j_iload_n (q := 38) C dX10_sheet_37 rfl rfl rfl ?_
      refine j_if_ge (q := 41) (tgt := 49) C dX10_sheet_38 rfl (by decide) (fun c_38 => ?_) (fun c_38 => ?_)
      · refine j_iload_n (q := 50) C dX10_sheet_49 rfl rfl rfl ?_
        refine j_bipush (v := nI 20) (q := 52) C dX10_sheet_50 rfl (by decide) ?_
        refine j_icmp_le (q := 55) (tgt := 63) C dX10_sheet_52 rfl (by decide) (fun c_52 => ?_) (fun c_52 => ?_)
        · have hok := jb_n.mp c_4
          obtain ⟨x, hx3, rfl⟩ := jix2 (n := 3) (by omega) hok.1 hok.2
          have hx4 : x < 4 := by omega
          have ex : (nI x).toNatClampNeg = x := nI_clamp (by omega)
          refine j_aload_n (q := 64) C dX10_sheet_63 rfl rfl rfl ?_
          refine jg_MM_sheets (q := 67) C dX10_sheet_64 rfl hs kw_270 ((congrFun (congrFun hE mm) 4).trans hb4) ?_
          refine j_iload_n (q := 68) C dX10_sheet_67 rfl rfl rfl ?_
          refine sa_sh hL hx4 (q' := 69) C dX10_sheet_68 rfl ?_
          refine j_iload_n (q := 70) C dX10_sheet_69 rfl rfl rfl ?_
          refine j_iload_n (q := 71) C dX10_sheet_70 rfl rfl rfl ?_
          refine j_if_ne (q := 74) (tgt := 78) C dX10_sheet_71 rfl (by decide) (fun c_71 => ?_) (fun c_71 => ?_)
          · refine j_iload_n (q := 79) C dX10_sheet_78 rfl rfl rfl ?_
            refine jVT jc8 (q := 82) C dX10_sheet_79 rfl ((hL.2 x hx4).2.1) mX8_lay kw_804 kw_805 kw_806 (ctX8_lay (hL.2 x hx4).2) rfl rfl (by decide) (Nat.le_of_ble_eq_true rfl) (by decide) (fun r_79 M_79 h_79 => ?_)
            obtain ⟨rfl, h2, h3, h4, h5, h6⟩ := h_79
            have hE2 := h2.2.2
            clear hE
            have hE := hE2
            replace hL := hL.mv hE
            refine j_aload_n (q := 83) C dX10_sheet_82 rfl rfl rfl ?_
            refine jg_MM_sheets (q := 86) C dX10_sheet_83 rfl hs kw_270 ((congrFun (congrFun hE mm) 4).trans hb4) ?_
            refine j_iload_n (q := 87) C dX10_sheet_86 rfl rfl rfl ?_
            refine sa_sh hL hx4 (q' := 88) C dX10_sheet_87 rfl ?_
            refine jg_Sheet_size (q := 91) C dX10_sheet_88 rfl ((hL.2 x hx4).2.1) kw_265 ?_
            rw [h4]
            first | refine j_i2lN (q := 92) C dX10_sheet_91 rfl (by omega) ?_ | refine j_i2l (q := 92) C dX10_sheet_91 rfl rfl ?_
            exact j_lret C E dX10_sheet_92 rfl rfl (xX_o (by unfold eSheet; rw [if_pos ⟨hok, Or.inl c_8⟩, if_neg (Int32.not_lt.mpr c_38), if_neg (Int32.not_lt.mpr c_52)]) ⟨by rw [if_neg c_71], by rw [ex]; exact h2, by rw [ex]; exact h3, by rw [ex, if_neg c_71]; exact h4, by rw [ex]; exact h5, by rw [ex]; exact h6⟩)
          · refine j_iconst (v := nI 0) (q := 75) C dX10_sheet_74 rfl (by decide) ?_
            refine j_goto (tgt := 79) C dX10_sheet_75 (by decide) ?_
            refine jVT jc8 (q := 82) C dX10_sheet_79 rfl ((hL.2 x hx4).2.1) mX8_lay kw_804 kw_805 kw_806 (ctX8_lay (hL.2 x hx4).2) rfl rfl (by decide) (Nat.le_of_ble_eq_true rfl) (by decide) (fun r_79 M_79 h_79 => ?_)
            obtain ⟨rfl, h2, h3, h4, h5, h6⟩ := h_79
            have hE2 := h2.2.2
            clear hE
            have hE := hE2
            replace hL := hL.mv hE
            refine j_aload_n (q := 83) C dX10_sheet_82 rfl rfl rfl ?_
            refine jg_MM_sheets (q := 86) C dX10_sheet_83 rfl hs kw_270 ((congrFun (congrFun hE mm) 4).trans hb4) ?_
            refine j_iload_n (q := 87) C dX10_sheet_86 rfl rfl rfl ?_
            refine sa_sh hL hx4 (q' := 88) C dX10_sheet_87 rfl ?_
            refine jg_Sheet_size (q := 91) C dX10_sheet_88 rfl ((hL.2 x hx4).2.1) kw_265 ?_
            rw [h4]
            first | refine j_i2lN (q := 92) C dX10_sheet_91 rfl (by omega) ?_ | refine j_i2l (q := 92) C dX10_sheet_91 rfl rfl ?_
            exact j_lret C E dX10_sheet_92 rfl rfl (xX_o (by unfold eSheet; rw [if_pos ⟨hok, Or.inl c_8⟩, if_neg (Int32.not_lt.mpr c_38), if_neg (Int32.not_lt.mpr c_52)]) ⟨by rw [if_pos c_71]; rfl, by rw [ex]; exact h2, by rw [ex]; exact h3, by rw [ex, if_pos c_71]; exact h4, by rw [ex]; exact h5, by rw [ex]; exact h6⟩)
        · refine j_aload_n (q := 56) C dX10_sheet_55 rfl rfl rfl ?_
          refine j_ldc2 (q := 59) C dX10_sheet_56 rfl kw_283 ?_
          refine jV1 jc10 (q := 62) C dX10_sheet_59 rfl hs mX10_found kw_284 kw_285 kw_0 (ctX10_found hs) rfl rfl (by decide) (Nat.le_of_ble_eq_true rfl) (by decide) ?_
          exact j_lret C E dX10_sheet_62 rfl rfl (xX_b (by unfold eSheet; rw [if_pos ⟨jb_n.mp c_4, Or.inl c_8⟩, if_neg (Int32.not_lt.mpr c_38), if_pos (Int32.not_le.mp c_52)]) (by decide))
      · refine j_aload_n (q := 42) C dX10_sheet_41 rfl rfl rfl ?_
        refine j_ldc2 (q := 45) C dX10_sheet_42 rfl kw_331 ?_
        refine jV1 jc10 (q := 48) C dX10_sheet_45 rfl hs mX10_found kw_284 kw_285 kw_0 (ctX10_found hs) rfl rfl (by decide) (Nat.le_of_ble_eq_true rfl) (by decide) ?_
        exact j_lret C E dX10_sheet_48 rfl rfl (xX_b (by unfold eSheet; rw [if_pos ⟨jb_n.mp c_4, Or.inl c_8⟩, if_pos (Int32.not_le.mp c_38)]) (by decide))
    · refine j_iload_n (q := 12) C dX10_sheet_11 rfl rfl rfl ?_
      refine j_bipush (v := nI 8) (q := 14) C dX10_sheet_12 rfl (by decide) ?_
      refine j_icmp_eq (q := 17) (tgt := 37) C dX10_sheet_14 rfl (by decide) (fun c_14 => ?_) (fun c_14 => ?_)
      · refine j_iload_n (q := 38) C dX10_sheet_37 rfl rfl rfl ?_
        refine j_if_ge (q := 41) (tgt := 49) C dX10_sheet_38 rfl (by decide) (fun c_38 => ?_) (fun c_38 => ?_)
        · refine j_iload_n (q := 50) C dX10_sheet_49 rfl rfl rfl ?_
          refine j_bipush (v := nI 20) (q := 52) C dX10_sheet_50 rfl (by decide) ?_
          refine j_icmp_le (q := 55) (tgt := 63) C dX10_sheet_52 rfl (by decide) (fun c_52 => ?_) (fun c_52 => ?_)
          · have hok := jb_n.mp c_4
            obtain ⟨x, hx3, rfl⟩ := jix2 (n := 3) (by omega) hok.1 hok.2
            have hx4 : x < 4 := by omega
            have ex : (nI x).toNatClampNeg = x := nI_clamp (by omega)
            refine j_aload_n (q := 64) C dX10_sheet_63 rfl rfl rfl ?_
            refine jg_MM_sheets (q := 67) C dX10_sheet_64 rfl hs kw_270 ((congrFun (congrFun hE mm) 4).trans hb4) ?_
            refine j_iload_n (q := 68) C dX10_sheet_67 rfl rfl rfl ?_
            refine sa_sh hL hx4 (q' := 69) C dX10_sheet_68 rfl ?_
            refine j_iload_n (q := 70) C dX10_sheet_69 rfl rfl rfl ?_
            refine j_iload_n (q := 71) C dX10_sheet_70 rfl rfl rfl ?_
            refine j_if_ne (q := 74) (tgt := 78) C dX10_sheet_71 rfl (by decide) (fun c_71 => ?_) (fun c_71 => ?_)
            · refine j_iload_n (q := 79) C dX10_sheet_78 rfl rfl rfl ?_
              refine jVT jc8 (q := 82) C dX10_sheet_79 rfl ((hL.2 x hx4).2.1) mX8_lay kw_804 kw_805 kw_806 (ctX8_lay (hL.2 x hx4).2) rfl rfl (by decide) (Nat.le_of_ble_eq_true rfl) (by decide) (fun r_79 M_79 h_79 => ?_)
              obtain ⟨rfl, h2, h3, h4, h5, h6⟩ := h_79
              have hE2 := h2.2.2
              clear hE
              have hE := hE2
              replace hL := hL.mv hE
              refine j_aload_n (q := 83) C dX10_sheet_82 rfl rfl rfl ?_
              refine jg_MM_sheets (q := 86) C dX10_sheet_83 rfl hs kw_270 ((congrFun (congrFun hE mm) 4).trans hb4) ?_
              refine j_iload_n (q := 87) C dX10_sheet_86 rfl rfl rfl ?_
              refine sa_sh hL hx4 (q' := 88) C dX10_sheet_87 rfl ?_
              refine jg_Sheet_size (q := 91) C dX10_sheet_88 rfl ((hL.2 x hx4).2.1) kw_265 ?_
              rw [h4]
              first | refine j_i2lN (q := 92) C dX10_sheet_91 rfl (by omega) ?_ | refine j_i2l (q := 92) C dX10_sheet_91 rfl rfl ?_
              exact j_lret C E dX10_sheet_92 rfl rfl (xX_o (by unfold eSheet; rw [if_pos ⟨hok, Or.inr (Or.inl c_14)⟩, if_neg (Int32.not_lt.mpr c_38), if_neg (Int32.not_lt.mpr c_52)]) ⟨by rw [if_neg c_71], by rw [ex]; exact h2, by rw [ex]; exact h3, by rw [ex, if_neg c_71]; exact h4, by rw [ex]; exact h5, by rw [ex]; exact h6⟩)
            · refine j_iconst (v := nI 0) (q := 75) C dX10_sheet_74 rfl (by decide) ?_
              refine j_goto (tgt := 79) C dX10_sheet_75 (by decide) ?_
              refine jVT jc8 (q := 82) C dX10_sheet_79 rfl ((hL.2 x hx4).2.1) mX8_lay kw_804 kw_805 kw_806 (ctX8_lay (hL.2 x hx4).2) rfl rfl (by decide) (Nat.le_of_ble_eq_true rfl) (by decide) (fun r_79 M_79 h_79 => ?_)
              obtain ⟨rfl, h2, h3, h4, h5, h6⟩ := h_79
              have hE2 := h2.2.2
              clear hE
              have hE := hE2
              replace hL := hL.mv hE
              refine j_aload_n (q := 83) C dX10_sheet_82 rfl rfl rfl ?_
              refine jg_MM_sheets (q := 86) C dX10_sheet_83 rfl hs kw_270 ((congrFun (congrFun hE mm) 4).trans hb4) ?_
              refine j_iload_n (q := 87) C dX10_sheet_86 rfl rfl rfl ?_
              refine sa_sh hL hx4 (q' := 88) C dX10_sheet_87 rfl ?_
              refine jg_Sheet_size (q := 91) C dX10_sheet_88 rfl ((hL.2 x hx4).2.1) kw_265 ?_
              rw [h4]
              first | refine j_i2lN (q := 92) C dX10_sheet_91 rfl (by omega) ?_ | refine j_i2l (q := 92) C dX10_sheet_91 rfl rfl ?_
              exact j_lret C E dX10_sheet_92 rfl rfl (xX_o (by unfold eSheet; rw [if_pos ⟨hok, Or.inr (Or.inl c_14)⟩, if_neg (Int32.not_lt.mpr c_38), if_neg (Int32.not_lt.mpr c_52)]) ⟨by rw [if_pos c_71]; rfl, by rw [ex]; exact h2, by rw [ex]; exact h3, by rw [ex, if_pos c_71]; exact h4, by rw [ex]; exact h5, by rw [ex]; exact h6⟩)
          · refine j_aload_n (q := 56) C dX10_sheet_55 rfl rfl rfl ?_
            refine j_ldc2 (q := 59) C dX10_sheet_56 rfl kw_283 ?_
            refine jV1 jc10 (q := 62) C dX10_sheet_59 rfl hs mX10_found kw_284 kw_285 kw_0 (ctX10_found hs) rfl rfl (by decide) (Nat.le_of_ble_eq_true rfl) (by decide) ?_
            exact j_lret C E dX10_sheet_62 rfl rfl (xX_b (by unfold eSheet; rw [if_pos ⟨jb_n.mp c_4, Or.inr (Or.inl c_14)⟩, if_neg (Int32.not_lt.mpr c_38), if_pos (Int32.not_le.mp c_52)]) (by decide))
        · refine j_aload_n (q := 42) C dX10_sheet_41 rfl rfl rfl ?_
          refine j_ldc2 (q := 45) C dX10_sheet_42 rfl kw_331 ?_
          refine jV1 jc10 (q := 48) C dX10_sheet_45 rfl hs mX10_found kw_284 kw_285 kw_0 (ctX10_found hs) rfl rfl (by decide) (Nat.le_of_ble_eq_true rfl) (by decide) ?_
          exact j_lret C E dX10_sheet_48 rfl rfl (xX_b (by unfold eSheet; rw [if_pos ⟨jb_n.mp c_4, Or.inr (Or.inl c_14)⟩, if_pos (Int32.not_le.mp c_38)]) (by decide))
      · refine j_iload_n (q := 18) C dX10_sheet_17 rfl rfl rfl ?_
        refine j_bipush (v := nI 16) (q := 20) C dX10_sheet_18 rfl (by decide) ?_
        refine j_icmp_eq (q := 23) (tgt := 37) C dX10_sheet_20 rfl (by decide) (fun c_20 => ?_) (fun c_20 => ?_)
        · refine j_iload_n (q := 38) C dX10_sheet_37 rfl rfl rfl ?_
          refine j_if_ge (q := 41) (tgt := 49) C dX10_sheet_38 rfl (by decide) (fun c_38 => ?_) (fun c_38 => ?_)
          · refine j_iload_n (q := 50) C dX10_sheet_49 rfl rfl rfl ?_
            refine j_bipush (v := nI 20) (q := 52) C dX10_sheet_50 rfl (by decide) ?_
            refine j_icmp_le (q := 55) (tgt := 63) C dX10_sheet_52 rfl (by decide) (fun c_52 => ?_) (fun c_52 => ?_)
            · have hok := jb_n.mp c_4
              obtain ⟨x, hx3, rfl⟩ := jix2 (n := 3) (by omega) hok.1 hok.2
              have hx4 : x < 4 := by omega
              have ex : (nI x).toNatClampNeg = x := nI_clamp (by omega)
              refine j_aload_n (q := 64) C dX10_sheet_63 rfl rfl rfl ?_
              refine jg_MM_sheets (q := 67) C dX10_sheet_64 rfl hs kw_270 ((congrFun (congrFun hE mm) 4).trans hb4) ?_
              refine j_iload_n (q := 68) C dX10_sheet_67 rfl rfl rfl ?_
              refine sa_sh hL hx4 (q' := 69) C dX10_sheet_68 rfl ?_
              refine j_iload_n (q := 70) C dX10_sheet_69 rfl rfl rfl ?_
              refine j_iload_n (q := 71) C dX10_sheet_70 rfl rfl rfl ?_
              refine j_if_ne (q := 74) (tgt := 78) C dX10_sheet_71 rfl (by decide) (fun c_71 => ?_) (fun c_71 => ?_)
              · refine j_iload_n (q := 79) C dX10_sheet_78 rfl rfl rfl ?_
                refine jVT jc8 (q := 82) C dX10_sheet_79 rfl ((hL.2 x hx4).2.1) mX8_lay kw_804 kw_805 kw_806 (ctX8_lay (hL.2 x hx4).2) rfl rfl (by decide) (Nat.le_of_ble_eq_true rfl) (by decide) (fun r_79 M_79 h_79 => ?_)
                obtain ⟨rfl, h2, h3, h4, h5, h6⟩ := h_79
                have hE2 := h2.2.2
                clear hE
                have hE := hE2
                replace hL := hL.mv hE
                refine j_aload_n (q := 83) C dX10_sheet_82 rfl rfl rfl ?_
                refine jg_MM_sheets (q := 86) C dX10_sheet_83 rfl hs kw_270 ((congrFun (congrFun hE mm) 4).trans hb4) ?_
                refine j_iload_n (q := 87) C dX10_sheet_86 rfl rfl rfl ?_
                refine sa_sh hL hx4 (q' := 88) C dX10_sheet_87 rfl ?_
                refine jg_Sheet_size (q := 91) C dX10_sheet_88 rfl ((hL.2 x hx4).2.1) kw_265 ?_
                rw [h4]
                first | refine j_i2lN (q := 92) C dX10_sheet_91 rfl (by omega) ?_ | refine j_i2l (q := 92) C dX10_sheet_91 rfl rfl ?_
                exact j_lret C E dX10_sheet_92 rfl rfl (xX_o (by unfold eSheet; rw [if_pos ⟨hok, Or.inr (Or.inr (Or.inl c_20))⟩, if_neg (Int32.not_lt.mpr c_38), if_neg (Int32.not_lt.mpr c_52)]) ⟨by rw [if_neg c_71], by rw [ex]; exact h2, by rw [ex]; exact h3, by rw [ex, if_neg c_71]; exact h4, by rw [ex]; exact h5, by rw [ex]; exact h6⟩)
              · refine j_iconst (v := nI 0) (q := 75) C dX10_sheet_74 rfl (by decide) ?_
                refine j_goto (tgt := 79) C dX10_sheet_75 (by decide) ?_
                refine jVT jc8 (q := 82) C dX10_sheet_79 rfl ((hL.2 x hx4).2.1) mX8_lay kw_804 kw_805 kw_806 (ctX8_lay (hL.2 x hx4).2) rfl rfl (by decide) (Nat.le_of_ble_eq_true rfl) (by decide) (fun r_79 M_79 h_79 => ?_)
                obtain ⟨rfl, h2, h3, h4, h5, h6⟩ := h_79
                have hE2 := h2.2.2
                clear hE
                have hE := hE2
                replace hL := hL.mv hE
                refine j_aload_n (q := 83) C dX10_sheet_82 rfl rfl rfl ?_
                refine jg_MM_sheets (q := 86) C dX10_sheet_83 rfl hs kw_270 ((congrFun (congrFun hE mm) 4).trans hb4) ?_
                refine j_iload_n (q := 87) C dX10_sheet_86 rfl rfl rfl ?_
                refine sa_sh hL hx4 (q' := 88) C dX10_sheet_87 rfl ?_
                refine jg_Sheet_size (q := 91) C dX10_sheet_88 rfl ((hL.2 x hx4).2.1) kw_265 ?_
                rw [h4]
                first | refine j_i2lN (q := 92) C dX10_sheet_91 rfl (by omega) ?_ | refine j_i2l (q := 92) C dX10_sheet_91 rfl rfl ?_
                exact j_lret C E dX10_sheet_92 rfl rfl (xX_o (by unfold eSheet; rw [if_pos ⟨hok, Or.inr (Or.inr (Or.inl c_20))⟩, if_neg (Int32.not_lt.mpr c_38), if_neg (Int32.not_lt.mpr c_52)]) ⟨by rw [if_pos c_71]; rfl, by rw [ex]; exact h2, by rw [ex]; exact h3, by rw [ex, if_pos c_71]; exact h4, by rw [ex]; exact h5, by rw [ex]; exact h6⟩)
            · refine j_aload_n (q := 56) C dX10_sheet_55 rfl rfl rfl ?_
              refine j_ldc2 (q := 59) C dX10_sheet_56 rfl kw_283 ?_
              refine jV1 jc10 (q := 62) C dX10_sheet_59 rfl hs mX10_found kw_284 kw_285 kw_0 (ctX10_found hs) rfl rfl (by decide) (Nat.le_of_ble_eq_true rfl) (by decide) ?_
              exact j_lret C E dX10_sheet_62 rfl rfl (xX_b (by unfold eSheet; rw [if_pos ⟨jb_n.mp c_4, Or.inr (Or.inr (Or.inl c_20))⟩, if_neg (Int32.not_lt.mpr c_38), if_pos (Int32.not_le.mp c_52)]) (by decide))
          · refine j_aload_n (q := 42) C dX10_sheet_41 rfl rfl rfl ?_
            refine j_ldc2 (q := 45) C dX10_sheet_42 rfl kw_331 ?_
            refine jV1 jc10 (q := 48) C dX10_sheet_45 rfl hs mX10_found kw_284 kw_285 kw_0 (ctX10_found hs) rfl rfl (by decide) (Nat.le_of_ble_eq_true rfl) (by decide) ?_
            exact j_lret C E dX10_sheet_48 rfl rfl (xX_b (by unfold eSheet; rw [if_pos ⟨jb_n.mp c_4, Or.inr (Or.inr (Or.inl c_20))⟩, if_pos (Int32.not_le.mp c_38)]) (by decide))
        · refine j_iload_n (q := 24) C dX10_sheet_23 rfl rfl rfl ?_
          refine j_bipush (v := nI 32) (q := 26) C dX10_sheet_24 rfl (by decide) ?_
          refine j_icmp_eq (q := 29) (tgt := 37) C dX10_sheet_26 rfl (by decide) (fun c_26 => ?_) (fun c_26 => ?_)
          · refine j_iload_n (q := 38) C dX10_sheet_37 rfl rfl rfl ?_
            refine j_if_ge (q := 41) (tgt := 49) C dX10_sheet_38 rfl (by decide) (fun c_38 => ?_) (fun c_38 => ?_)
            · refine j_iload_n (q := 50) C dX10_sheet_49 rfl rfl rfl ?_
              refine j_bipush (v := nI 20) (q := 52) C dX10_sheet_50 rfl (by decide) ?_
              refine j_icmp_le (q := 55) (tgt := 63) C dX10_sheet_52 rfl (by decide) (fun c_52 => ?_) (fun c_52 => ?_)
              · have hok := jb_n.mp c_4
                obtain ⟨x, hx3, rfl⟩ := jix2 (n := 3) (by omega) hok.1 hok.2
                have hx4 : x < 4 := by omega
                have ex : (nI x).toNatClampNeg = x := nI_clamp (by omega)
                refine j_aload_n (q := 64) C dX10_sheet_63 rfl rfl rfl ?_
                refine jg_MM_sheets (q := 67) C dX10_sheet_64 rfl hs kw_270 ((congrFun (congrFun hE mm) 4).trans hb4) ?_
                refine j_iload_n (q := 68) C dX10_sheet_67 rfl rfl rfl ?_
                refine sa_sh hL hx4 (q' := 69) C dX10_sheet_68 rfl ?_
                refine j_iload_n (q := 70) C dX10_sheet_69 rfl rfl rfl ?_
                refine j_iload_n (q := 71) C dX10_sheet_70 rfl rfl rfl ?_
                refine j_if_ne (q := 74) (tgt := 78) C dX10_sheet_71 rfl (by decide) (fun c_71 => ?_) (fun c_71 => ?_)
                · refine j_iload_n (q := 79) C dX10_sheet_78 rfl rfl rfl ?_
                  refine jVT jc8 (q := 82) C dX10_sheet_79 rfl ((hL.2 x hx4).2.1) mX8_lay kw_804 kw_805 kw_806 (ctX8_lay (hL.2 x hx4).2) rfl rfl (by decide) (Nat.le_of_ble_eq_true rfl) (by decide) (fun r_79 M_79 h_79 => ?_)
                  obtain ⟨rfl, h2, h3, h4, h5, h6⟩ := h_79
                  have hE2 := h2.2.2
                  clear hE
                  have hE := hE2
                  replace hL := hL.mv hE
                  refine j_aload_n (q := 83) C dX10_sheet_82 rfl rfl rfl ?_
                  refine jg_MM_sheets (q := 86) C dX10_sheet_83 rfl hs kw_270 ((congrFun (congrFun hE mm) 4).trans hb4) ?_
                  refine j_iload_n (q := 87) C dX10_sheet_86 rfl rfl rfl ?_
                  refine sa_sh hL hx4 (q' := 88) C dX10_sheet_87 rfl ?_
                  refine jg_Sheet_size (q := 91) C dX10_sheet_88 rfl ((hL.2 x hx4).2.1) kw_265 ?_
                  rw [h4]
                  first | refine j_i2lN (q := 92) C dX10_sheet_91 rfl (by omega) ?_ | refine j_i2l (q := 92) C dX10_sheet_91 rfl rfl ?_
                  exact j_lret C E dX10_sheet_92 rfl rfl (xX_o (by unfold eSheet; rw [if_pos ⟨hok, Or.inr (Or.inr (Or.inr c_26))⟩, if_neg (Int32.not_lt.mpr c_38), if_neg (Int32.not_lt.mpr c_52)]) ⟨by rw [if_neg c_71], by rw [ex]; exact h2, by rw [ex]; exact h3, by rw [ex, if_neg c_71]; exact h4, by rw [ex]; exact h5, by rw [ex]; exact h6⟩)
                · refine j_iconst (v := nI 0) (q := 75) C dX10_sheet_74 rfl (by decide) ?_
                  refine j_goto (tgt := 79) C dX10_sheet_75 (by decide) ?_
                  refine jVT jc8 (q := 82) C dX10_sheet_79 rfl ((hL.2 x hx4).2.1) mX8_lay kw_804 kw_805 kw_806 (ctX8_lay (hL.2 x hx4).2) rfl rfl (by decide) (Nat.le_of_ble_eq_true rfl) (by decide) (fun r_79 M_79 h_79 => ?_)
                  obtain ⟨rfl, h2, h3, h4, h5, h6⟩ := h_79
                  have hE2 := h2.2.2
                  clear hE
                  have hE := hE2
                  replace hL := hL.mv hE
                  refine j_aload_n (q := 83) C dX10_sheet_82 rfl rfl rfl ?_
                  refine jg_MM_sheets (q := 86) C dX10_sheet_83 rfl hs kw_270 ((congrFun (congrFun hE mm) 4).trans hb4) ?_
                  refine j_iload_n (q := 87) C dX10_sheet_86 rfl rfl rfl ?_
                  refine sa_sh hL hx4 (q' := 88) C dX10_sheet_87 rfl ?_
                  refine jg_Sheet_size (q := 91) C dX10_sheet_88 rfl ((hL.2 x hx4).2.1) kw_265 ?_
                  rw [h4]
                  first | refine j_i2lN (q := 92) C dX10_sheet_91 rfl (by omega) ?_ | refine j_i2l (q := 92) C dX10_sheet_91 rfl rfl ?_
                  exact j_lret C E dX10_sheet_92 rfl rfl (xX_o (by unfold eSheet; rw [if_pos ⟨hok, Or.inr (Or.inr (Or.inr c_26))⟩, if_neg (Int32.not_lt.mpr c_38), if_neg (Int32.not_lt.mpr c_52)]) ⟨by rw [if_pos c_71]; rfl, by rw [ex]; exact h2, by rw [ex]; exact h3, by rw [ex, if_pos c_71]; exact h4, by rw [ex]; exact h5, by rw [ex]; exact h6⟩)
              · refine j_aload_n (q := 56) C dX10_sheet_55 rfl rfl rfl ?_
                refine j_ldc2 (q := 59) C dX10_sheet_56 rfl kw_283 ?_
                refine jV1 jc10 (q := 62) C dX10_sheet_59 rfl hs mX10_found kw_284 kw_285 kw_0 (ctX10_found hs) rfl rfl (by decide) (Nat.le_of_ble_eq_true rfl) (by decide) ?_
                exact j_lret C E dX10_sheet_62 rfl rfl (xX_b (by unfold eSheet; rw [if_pos ⟨jb_n.mp c_4, Or.inr (Or.inr (Or.inr c_26))⟩, if_neg (Int32.not_lt.mpr c_38), if_pos (Int32.not_le.mp c_52)]) (by decide))
            · refine j_aload_n (q := 42) C dX10_sheet_41 rfl rfl rfl ?_
              refine j_ldc2 (q := 45) C dX10_sheet_42 rfl kw_331 ?_
              refine jV1 jc10 (q := 48) C dX10_sheet_45 rfl hs mX10_found kw_284 kw_285 kw_0 (ctX10_found hs) rfl rfl (by decide) (Nat.le_of_ble_eq_true rfl) (by decide) ?_
              exact j_lret C E dX10_sheet_48 rfl rfl (xX_b (by unfold eSheet; rw [if_pos ⟨jb_n.mp c_4, Or.inr (Or.inr (Or.inr c_26))⟩, if_pos (Int32.not_le.mp c_38)]) (by decide))
          · refine j_aload_n (q := 30) C dX10_sheet_29 rfl rfl rfl ?_
            refine j_ldc2 (q := 33) C dX10_sheet_30 rfl kw_283 ?_
            refine jV1 jc10 (q := 36) C dX10_sheet_33 rfl hs mX10_found kw_284 kw_285 kw_0 (ctX10_found hs) rfl rfl (by decide) (Nat.le_of_ble_eq_true rfl) (by decide) ?_
            exact j_lret C E dX10_sheet_36 rfl rfl (xX_b (by unfold eSheet; rw [if_neg (fun h => h.2.elim c_8 (fun h => h.elim c_14 (fun h => h.elim c_20 c_26)))]) (by decide))

theorem put_x {m : Nat} {i : Int32} (hm : m ≤ 20) (h : (0 : Int64) ≤ i.toInt64 ∧ i.toInt64 ≤ (nI m - nI 1).toInt64) : ∃ k, k < m ∧ i = nI k := by
  rcases Nat.eq_zero_or_pos m with e | e
  · subst e
    exact absurd (Int64.le_trans h.1 h.2) (by decide)
  · rw [pk_sub e, nI_l (by omega)] at h
    obtain ⟨k, hk, rfl⟩ := jix2 (n := m - 1) (by omega) h.1 h.2
    exact ⟨k, by omega, rfl⟩
set_option maxRecDepth 100000 in
set_option maxHeartbeats 4000000 in
theorem ctX10_put {G : jG} {sz : Nat} {Sh : jS} {M : jM} {mm sh : Nat} (hs : (Sh mm).1 = 10) (hb4 : M.2.2 mm 4 = some sh) (hL : sLay sh Sh M) {s i v wd zz : Int32} (hz : ∀ s, s < 4 → ∃ m, m ≤ 20 ∧ M.1 (sh + 1 + 2 * s) 2 = nI m) (hwd : okW s 3 → M.1 (sh + 1 + 2 * s.toNatClampNeg) 1 = wd ∧ M.1 (sh + 1 + 2 * s.toNatClampNeg) 2 = zz) : jC G yX10_put cX10_put 4 (Option.some FieldType.long) (jrm 3 0 0) sz Sh M [.ref mm, .int s, .int i, .int v] (jT sz Sh (xX mm M (ePut wd zz s i) (fun r M2 => r = some (.long 0) ∧ M2 = jsI M ((sh + 1 + 2 * s.toNatClampNeg) + 1) i.toNatClampNeg (encC wd v)))) := by
  refine jC_start (by decide +kernel) (Nat.le_of_ble_eq_true rfl) (fun X C E hN0 => ?_)
  have hE : M.2.2 = M.2.2 := rfl
  refine j_iload_n (q := 1) C dX10_put_0 rfl rfl rfl ?_
  refine jS1 (q := 4) C dX10_put_1 rfl mX10_isSheet kw_774 kw_775 ctX10_isSheet rfl rfl (by decide) (Nat.le_of_ble_eq_true rfl) (by decide) ?_
  refine j_if_ne (q := 7) (tgt := 15) C dX10_put_4 rfl (by decide) (fun c_4 => ?_) (fun c_4 => ?_)
  · have hok := jb_n.mp c_4
    obtain ⟨x, hx3, rfl⟩ := jix2 (n := 3) (by omega) hok.1 hok.2
    have hx4 : x < 4 := by omega
    have ex : (nI x).toNatClampNeg = x := nI_clamp (by omega)
    obtain ⟨hw1, hz1⟩ := hwd hok
    rw [ex] at hw1 hz1
    obtain ⟨m, hm20, hm⟩ := hz x hx4
    refine j_aload_n (q := 16) C dX10_put_15 rfl rfl rfl ?_
    refine jg_MM_sheets (q := 19) C dX10_put_16 rfl hs kw_270 ((congrFun (congrFun hE mm) 4).trans hb4) ?_
    refine j_iload_n (q := 20) C dX10_put_19 rfl rfl rfl ?_
    refine sa_sh hL hx4 (q' := 21) C dX10_put_20 rfl ?_
    refine jV1 jc8 (q := 24) C dX10_put_21 rfl ((hL.2 x hx4).2.1) mX8_isMissing kw_778 kw_779 kw_780 (ctX8_isMissing (hL.2 x hx4).2) rfl rfl (by decide) (Nat.le_of_ble_eq_true rfl) (by decide) ?_
    refine j_if_eq (q := 27) (tgt := 35) C dX10_put_24 rfl (by decide) (fun c_24 => ?_) (fun c_24 => ?_)
    · refine j_iload_n (q := 36) C dX10_put_35 rfl rfl rfl ?_
      first | refine j_i2lN (q := 37) C dX10_put_36 rfl (by omega) ?_ | refine j_i2l (q := 37) C dX10_put_36 rfl rfl ?_
      refine j_lconst (v := 0) (q := 38) C dX10_put_37 rfl (by decide) ?_
      refine j_aload_n (q := 39) C dX10_put_38 rfl rfl rfl ?_
      refine jg_MM_sheets (q := 42) C dX10_put_39 rfl hs kw_270 ((congrFun (congrFun hE mm) 4).trans hb4) ?_
      refine j_iload_n (q := 43) C dX10_put_42 rfl rfl rfl ?_
      refine sa_sh hL hx4 (q' := 44) C dX10_put_43 rfl ?_
      refine jg_Sheet_size (q := 47) C dX10_put_44 rfl ((hL.2 x hx4).2.1) kw_265 ?_
      rw [hz1]
      refine j_iconst (v := nI 1) (q := 48) C dX10_put_47 rfl (by decide) ?_
      refine j_isub (q := 49) C dX10_put_48 rfl ?_
      first | refine j_i2lN (q := 50) C dX10_put_49 rfl (by omega) ?_ | refine j_i2l (q := 50) C dX10_put_49 rfl rfl ?_
      refine jS1 (q := 53) C dX10_put_50 rfl mX10_within kw_278 kw_279 ctX10_within rfl rfl (by decide) (Nat.le_of_ble_eq_true rfl) (by decide) ?_
      refine j_if_ne (q := 56) (tgt := 64) C dX10_put_53 rfl (by decide) (fun c_53 => ?_) (fun c_53 => ?_)
      · have hi := jb_n.mp c_53
        obtain ⟨k, hk, rfl⟩ := put_x hm20 (by rw [← hm, hz1]; exact hi)
        have ek : (nI k).toNatClampNeg = k := nI_clamp (by omega)
        refine j_aload_n (q := 65) C dX10_put_64 rfl rfl rfl ?_
        refine jg_MM_sheets (q := 68) C dX10_put_65 rfl hs kw_270 ((congrFun (congrFun hE mm) 4).trans hb4) ?_
        refine j_iload_n (q := 69) C dX10_put_68 rfl rfl rfl ?_
        refine sa_sh hL hx4 (q' := 70) C dX10_put_69 rfl ?_
        refine j_iload_n (q := 71) C dX10_put_70 rfl rfl rfl ?_
        refine j_iload_n (q := 72) C dX10_put_71 rfl rfl rfl ?_
        refine jV0 jc8 (q := 75) C dX10_put_72 rfl ((hL.2 x hx4).2.1) mX8_write kw_815 kw_816 kw_817 (ctX8_write (hL.2 x hx4).2 hm hm20 hk) rfl rfl (by decide) (Nat.le_of_ble_eq_true rfl) (by decide) ?_
        refine j_lconst (v := 0) (q := 76) C dX10_put_75 rfl (by decide) ?_
        exact j_lret C E dX10_put_76 rfl rfl (xX_o (by unfold ePut; rw [if_pos hok, if_neg (by rw [← hw1]; exact jb_0.mp c_24), if_pos hi]) ⟨rfl, by rw [ex, ek, hw1]⟩)
      · refine j_aload_n (q := 57) C dX10_put_56 rfl rfl rfl ?_
        refine j_ldc2 (q := 60) C dX10_put_57 rfl kw_283 ?_
        refine jV1 jc10 (q := 63) C dX10_put_60 rfl hs mX10_found kw_284 kw_285 kw_0 (ctX10_found hs) rfl rfl (by decide) (Nat.le_of_ble_eq_true rfl) (by decide) ?_
        exact j_lret C E dX10_put_63 rfl rfl (xX_b (by unfold ePut; rw [if_pos hok, if_neg (by rw [← hw1]; exact jb_0.mp c_24), if_neg (fun h => jb_0.mp c_53 h)]) (by decide))
    · refine j_aload_n (q := 28) C dX10_put_27 rfl rfl rfl ?_
      refine j_ldc2 (q := 31) C dX10_put_28 rfl kw_782 ?_
      refine jV1 jc10 (q := 34) C dX10_put_31 rfl hs mX10_found kw_284 kw_285 kw_0 (ctX10_found hs) rfl rfl (by decide) (Nat.le_of_ble_eq_true rfl) (by decide) ?_
      exact j_lret C E dX10_put_34 rfl rfl (xX_b (by unfold ePut; rw [if_pos hok, if_pos (by rw [← hw1]; exact jb_n.mp c_24)]) (by decide))
  · refine j_aload_n (q := 8) C dX10_put_7 rfl rfl rfl ?_
    refine j_ldc2 (q := 11) C dX10_put_8 rfl kw_283 ?_
    refine jV1 jc10 (q := 14) C dX10_put_11 rfl hs mX10_found kw_284 kw_285 kw_0 (ctX10_found hs) rfl rfl (by decide) (Nat.le_of_ble_eq_true rfl) (by decide) ?_
    exact j_lret C E dX10_put_14 rfl rfl (xX_b (by unfold ePut; rw [if_neg (fun h => jb_0.mp c_4 h)]) (by decide))

theorem run_x {m : Nat} {f n z : Int32} (hz : z = nI m) (hm : m ≤ 20) (h : ¬ f < 0 ∧ ¬ n < 0 ∧ f.toInt64 + n.toInt64 ≤ z.toInt64) : f = nI f.toNatClampNeg ∧ n = nI n.toNatClampNeg ∧ f.toNatClampNeg + n.toNatClampNeg ≤ m := by
  obtain ⟨h1, h2, h3⟩ := h
  obtain ⟨a, ha, rfl⟩ := nI_of h1
  obtain ⟨b, hb, rfl⟩ := nI_of h2
  rw [hz, nI_l ha, nI_l hb, nI_l (by omega), lN_add, pk_lLE (by omega) (by omega)] at h3
  rw [nI_clamp ha, nI_clamp hb]
  exact ⟨rfl, rfl, h3⟩
set_option maxRecDepth 100000 in
set_option maxHeartbeats 4000000 in
theorem ctX10_copy {G : jG} {sz : Nat} {Sh : jS} {M : jM} {mm sh : Nat} (hs : (Sh mm).1 = 10) (hb4 : M.2.2 mm 4 = some sh) (hL : sLay sh Sh M) {s f t u n w1 w2 z1 z2 : Int32} (hz : ∀ s, s < 4 → ∃ m, m ≤ 20 ∧ M.1 (sh + 1 + 2 * s) 2 = nI m) (hw1 : okW s 3 → M.1 (sh + 1 + 2 * s.toNatClampNeg) 1 = w1 ∧ M.1 (sh + 1 + 2 * s.toNatClampNeg) 2 = z1) (hw2 : okW t 3 → M.1 (sh + 1 + 2 * t.toNatClampNeg) 1 = w2 ∧ M.1 (sh + 1 + 2 * t.toNatClampNeg) 2 = z2) : jC G yX10_copy cX10_copy 8 (Option.some FieldType.long) (jrm 3 0 0) sz Sh M [.ref mm, .int s, .int f, .int t, .int u, .int n] (jT sz Sh (xX mm M (eCopy w1 w2 z1 z2 s f t u n) (fun r M2 => r = some (.long n.toInt64) ∧ M2 = jwI M ((sh + 1 + 2 * t.toNatClampNeg) + 1) (va_cpy (M.1 ((sh + 1 + 2 * s.toNatClampNeg) + 1)) (M.1 ((sh + 1 + 2 * t.toNatClampNeg) + 1)) f.toNatClampNeg u.toNatClampNeg n.toNatClampNeg)))) := by
  refine jC_start (by decide +kernel) (Nat.le_of_ble_eq_true rfl) (fun X C E hN0 => ?_)
  have hE : M.2.2 = M.2.2 := rfl
  refine j_iload_n (q := 1) C dX10_copy_0 rfl rfl rfl ?_
  refine jS1 (q := 4) C dX10_copy_1 rfl mX10_isSheet kw_774 kw_775 ctX10_isSheet rfl rfl (by decide) (Nat.le_of_ble_eq_true rfl) (by decide) ?_
  refine j_if_eq (q := 7) (tgt := 14) C dX10_copy_4 rfl (by decide) (fun c_4 => ?_) (fun c_4 => ?_)
  · refine j_aload_n (q := 15) C dX10_copy_14 rfl rfl rfl ?_
    refine j_ldc2 (q := 18) C dX10_copy_15 rfl kw_283 ?_
    refine jV1 jc10 (q := 21) C dX10_copy_18 rfl hs mX10_found kw_284 kw_285 kw_0 (ctX10_found hs) rfl rfl (by decide) (Nat.le_of_ble_eq_true rfl) (by decide) ?_
    exact j_lret C E dX10_copy_21 rfl rfl (xX_b (by unfold eCopy; rw [if_neg (fun h => jb_0.mp c_4 h.1)]) (by decide))
  · refine j_iload_n (q := 8) C dX10_copy_7 rfl rfl rfl ?_
    refine jS1 (q := 11) C dX10_copy_8 rfl mX10_isSheet kw_774 kw_775 ctX10_isSheet rfl rfl (by decide) (Nat.le_of_ble_eq_true rfl) (by decide) ?_
    refine j_if_ne (q := 14) (tgt := 22) C dX10_copy_11 rfl (by decide) (fun c_11 => ?_) (fun c_11 => ?_)
    · have hok := jb_n.mp c_4
      have hok2 := jb_n.mp c_11
      obtain ⟨x, hx3, rfl⟩ := jix2 (n := 3) (by omega) hok.1 hok.2
      obtain ⟨z, hz3, rfl⟩ := jix2 (n := 3) (by omega) hok2.1 hok2.2
      have hx4 : x < 4 := by omega
      have hz4 : z < 4 := by omega
      have ex : (nI x).toNatClampNeg = x := nI_clamp (by omega)
      have ez : (nI z).toNatClampNeg = z := nI_clamp (by omega)
      obtain ⟨a1, a2⟩ := hw1 hok
      obtain ⟨b1, b2⟩ := hw2 hok2
      rw [ex] at a1 a2
      rw [ez] at b1 b2
      obtain ⟨m1, hm1, hn1⟩ := hz x hx4
      obtain ⟨m2, hm2, hn2⟩ := hz z hz4
      refine j_aload_n (q := 23) C dX10_copy_22 rfl rfl rfl ?_
      refine jg_MM_sheets (q := 26) C dX10_copy_23 rfl hs kw_270 ((congrFun (congrFun hE mm) 4).trans hb4) ?_
      refine j_iload_n (q := 27) C dX10_copy_26 rfl rfl rfl ?_
      refine sa_sh hL hx4 (q' := 28) C dX10_copy_27 rfl ?_
      refine j_astore (lv' := [(6, _), (0, _), (1, _), (2, _), (3, _), (4, _), (5, _)]) (q := 30) C dX10_copy_28 rfl (by decide) rfl ?_
      refine j_aload_n (q := 31) C dX10_copy_30 rfl rfl rfl ?_
      refine jg_MM_sheets (q := 34) C dX10_copy_31 rfl hs kw_270 ((congrFun (congrFun hE mm) 4).trans hb4) ?_
      refine j_iload_n (q := 35) C dX10_copy_34 rfl rfl rfl ?_
      refine sa_sh hL hz4 (q' := 36) C dX10_copy_35 rfl ?_
      refine j_astore (lv' := [(7, _), (6, _), (0, _), (1, _), (2, _), (3, _), (4, _), (5, _)]) (q := 38) C dX10_copy_36 rfl (by decide) rfl ?_
      refine j_aload (q := 40) C dX10_copy_38 rfl rfl ?_
      refine jV1 jc8 (q := 43) C dX10_copy_40 rfl ((hL.2 x hx4).2.1) mX8_isMissing kw_778 kw_779 kw_780 (ctX8_isMissing (hL.2 x hx4).2) rfl rfl (by decide) (Nat.le_of_ble_eq_true rfl) (by decide) ?_
      refine j_if_ne (q := 46) (tgt := 54) C dX10_copy_43 rfl (by decide) (fun c_43 => ?_) (fun c_43 => ?_)
      · refine j_aload_n (q := 55) C dX10_copy_54 rfl rfl rfl ?_
        refine j_ldc2 (q := 58) C dX10_copy_55 rfl kw_782 ?_
        refine jV1 jc10 (q := 61) C dX10_copy_58 rfl hs mX10_found kw_284 kw_285 kw_0 (ctX10_found hs) rfl rfl (by decide) (Nat.le_of_ble_eq_true rfl) (by decide) ?_
        exact j_lret C E dX10_copy_61 rfl rfl (xX_b (by unfold eCopy; rw [if_pos ⟨hok, hok2⟩, if_pos (Or.inl (a1.symm.trans (jb_n.mp c_43)))]) (by decide))
      · refine j_aload (q := 48) C dX10_copy_46 rfl rfl ?_
        refine jV1 jc8 (q := 51) C dX10_copy_48 rfl ((hL.2 z hz4).2.1) mX8_isMissing kw_778 kw_779 kw_780 (ctX8_isMissing (hL.2 z hz4).2) rfl rfl (by decide) (Nat.le_of_ble_eq_true rfl) (by decide) ?_
        refine j_if_eq (q := 54) (tgt := 62) C dX10_copy_51 rfl (by decide) (fun c_51 => ?_) (fun c_51 => ?_)
        · refine j_aload (q := 64) C dX10_copy_62 rfl rfl ?_
          refine jg_Sheet_bits (q := 67) C dX10_copy_64 rfl ((hL.2 x hx4).2.1) kw_262 ?_
          refine j_aload (q := 69) C dX10_copy_67 rfl rfl ?_
          refine jg_Sheet_bits (q := 72) C dX10_copy_69 rfl ((hL.2 z hz4).2.1) kw_262 ?_
          refine j_icmp_eq (q := 75) (tgt := 83) C dX10_copy_72 rfl (by decide) (fun c_72 => ?_) (fun c_72 => ?_)
          · refine j_aload (q := 85) C dX10_copy_83 rfl rfl ?_
            refine j_iload_n (q := 86) C dX10_copy_85 rfl rfl rfl ?_
            refine j_iload (q := 88) C dX10_copy_86 rfl rfl ?_
            refine jV1 jc8 (q := 91) C dX10_copy_88 rfl ((hL.2 x hx4).2.1) mX8_hasRun kw_823 kw_824 kw_825 (ctX8_hasRun (hL.2 x hx4).2) rfl rfl (by decide) (Nat.le_of_ble_eq_true rfl) (by decide) ?_
            refine j_if_eq (q := 94) (tgt := 106) C dX10_copy_91 rfl (by decide) (fun c_91 => ?_) (fun c_91 => ?_)
            · refine j_aload_n (q := 107) C dX10_copy_106 rfl rfl rfl ?_
              refine j_ldc2 (q := 110) C dX10_copy_107 rfl kw_283 ?_
              refine jV1 jc10 (q := 113) C dX10_copy_110 rfl hs mX10_found kw_284 kw_285 kw_0 (ctX10_found hs) rfl rfl (by decide) (Nat.le_of_ble_eq_true rfl) (by decide) ?_
              exact j_lret C E dX10_copy_113 rfl rfl (xX_b (by unfold eCopy; rw [if_pos ⟨hok, hok2⟩, if_neg (fun h => h.elim (fun h => jb_0.mp c_43 (a1.trans h)) (fun h => jb_0.mp c_51 (b1.trans h))), if_pos (a1.symm.trans (c_72.trans b1)), if_neg (fun h => jb_0.mp c_91 ⟨h.1, h.2.2.1, by rw [a2]; exact h.2.2.2.1⟩)]) (by decide))
            · refine j_aload (q := 96) C dX10_copy_94 rfl rfl ?_
              refine j_iload (q := 98) C dX10_copy_96 rfl rfl ?_
              refine j_iload (q := 100) C dX10_copy_98 rfl rfl ?_
              refine jV1 jc8 (q := 103) C dX10_copy_100 rfl ((hL.2 z hz4).2.1) mX8_hasRun kw_823 kw_824 kw_825 (ctX8_hasRun (hL.2 z hz4).2) rfl rfl (by decide) (Nat.le_of_ble_eq_true rfl) (by decide) ?_
              refine j_if_ne (q := 106) (tgt := 114) C dX10_copy_103 rfl (by decide) (fun c_103 => ?_) (fun c_103 => ?_)
              · have r1 := jb_n.mp c_91
                have r2 := jb_n.mp c_103
                have q1 := run_x hn1 hm1 r1
                have q2 := run_x hn2 hm2 r2
                generalize ef : f.toNatClampNeg = f1 at q1
                generalize en : n.toNatClampNeg = n1 at q1 q2
                generalize eu : u.toNatClampNeg = u1 at q2
                obtain ⟨q1f, q1n, q1l⟩ := q1
                obtain ⟨q2u, -, q2l⟩ := q2
                subst q1f q1n q2u
                refine j_aload (q := 116) C dX10_copy_114 rfl rfl ?_
                refine jg_Sheet_numbers (q := 119) C dX10_copy_116 rfl ((hL.2 x hx4).2.1) kw_260 ((hL.2 x hx4).2.2.2) ?_
                refine j_iload_n (q := 120) C dX10_copy_119 rfl rfl rfl ?_
                refine j_aload (q := 122) C dX10_copy_120 rfl rfl ?_
                refine jg_Sheet_numbers (q := 125) C dX10_copy_122 rfl ((hL.2 z hz4).2.1) kw_260 ((hL.2 z hz4).2.2.2) ?_
                refine j_iload (q := 127) C dX10_copy_125 rfl rfl ?_
                refine j_iload (q := 129) C dX10_copy_127 rfl rfl ?_
                refine j_copyI (q := 132) C dX10_copy_129 rfl kw_827 (hL.2 x hx4).2.2.1 (hL.2 z hz4).2.2.1 (by omega) (by omega) (by decide) (by decide) (by decide) ?_
                refine j_iload (q := 134) C dX10_copy_132 rfl rfl ?_
                first | refine j_i2lN (q := 135) C dX10_copy_134 rfl (by omega) ?_ | refine j_i2l (q := 135) C dX10_copy_134 rfl rfl ?_
                exact j_lret C E dX10_copy_135 rfl rfl (xX_o (by unfold eCopy; rw [if_pos ⟨hok, hok2⟩, if_neg (fun h => h.elim (fun h => jb_0.mp c_43 (a1.trans h)) (fun h => jb_0.mp c_51 (b1.trans h))), if_pos (a1.symm.trans (c_72.trans b1)), if_pos ⟨r1.1, r2.1, r1.2.1, by rw [← a2]; exact r1.2.2, by rw [← b2]; exact r2.2.2⟩]) ⟨by rw [nI_l (by omega)], by rw [ex, ez, ef, en, eu]⟩)
              · refine j_aload_n (q := 107) C dX10_copy_106 rfl rfl rfl ?_
                refine j_ldc2 (q := 110) C dX10_copy_107 rfl kw_283 ?_
                refine jV1 jc10 (q := 113) C dX10_copy_110 rfl hs mX10_found kw_284 kw_285 kw_0 (ctX10_found hs) rfl rfl (by decide) (Nat.le_of_ble_eq_true rfl) (by decide) ?_
                exact j_lret C E dX10_copy_113 rfl rfl (xX_b (by unfold eCopy; rw [if_pos ⟨hok, hok2⟩, if_neg (fun h => h.elim (fun h => jb_0.mp c_43 (a1.trans h)) (fun h => jb_0.mp c_51 (b1.trans h))), if_pos (a1.symm.trans (c_72.trans b1)), if_neg (fun h => jb_0.mp c_103 ⟨h.2.1, h.2.2.1, by rw [b2]; exact h.2.2.2.2⟩)]) (by decide))
          · refine j_aload_n (q := 76) C dX10_copy_75 rfl rfl rfl ?_
            refine j_ldc2 (q := 79) C dX10_copy_76 rfl kw_348 ?_
            refine jV1 jc10 (q := 82) C dX10_copy_79 rfl hs mX10_found kw_284 kw_285 kw_0 (ctX10_found hs) rfl rfl (by decide) (Nat.le_of_ble_eq_true rfl) (by decide) ?_
            exact j_lret C E dX10_copy_82 rfl rfl (xX_b (by unfold eCopy; rw [if_pos ⟨hok, hok2⟩, if_neg (fun h => h.elim (fun h => jb_0.mp c_43 (a1.trans h)) (fun h => jb_0.mp c_51 (b1.trans h))), if_neg (fun h => c_72 (a1.trans (h.trans b1.symm)))]) (by decide))
        · refine j_aload_n (q := 55) C dX10_copy_54 rfl rfl rfl ?_
          refine j_ldc2 (q := 58) C dX10_copy_55 rfl kw_782 ?_
          refine jV1 jc10 (q := 61) C dX10_copy_58 rfl hs mX10_found kw_284 kw_285 kw_0 (ctX10_found hs) rfl rfl (by decide) (Nat.le_of_ble_eq_true rfl) (by decide) ?_
          exact j_lret C E dX10_copy_61 rfl rfl (xX_b (by unfold eCopy; rw [if_pos ⟨hok, hok2⟩, if_pos (Or.inr (b1.symm.trans (jb_n.mp c_51)))]) (by decide))
    · refine j_aload_n (q := 15) C dX10_copy_14 rfl rfl rfl ?_
      refine j_ldc2 (q := 18) C dX10_copy_15 rfl kw_283 ?_
      refine jV1 jc10 (q := 21) C dX10_copy_18 rfl hs mX10_found kw_284 kw_285 kw_0 (ctX10_found hs) rfl rfl (by decide) (Nat.le_of_ble_eq_true rfl) (by decide) ?_
      exact j_lret C E dX10_copy_21 rfl rfl (xX_b (by unfold eCopy; rw [if_neg (fun h => jb_0.mp c_11 h.2)]) (by decide))

theorem sLay.a {sh : Nat} {Sh : jS} {M : jM} (h : sLay sh Sh M) {s : Nat} (hs : s < 4) : shLay (sh + 1 + 2 * s) Sh M := (h.2 s hs).2
set_option maxRecDepth 100000 in
set_option maxHeartbeats 4000000 in
theorem ctX10_proves {G : jG} {sz : Nat} {Sh : jS} {M : jM} {mm sh ah w q pr lw jg mk B la : Nat} {LT : Nat → sT} {K : Nat → Int64} (hs : (Sh mm).1 = 10) (hb0 : M.2.2 mm 0 = some w) (hb2 : M.2.2 mm 2 = some ah) (hA : aCx ah w q pr lw jg mk B la LT Sh M) (hM : vK w q pr lw M = K) {d pe pa : Nat} (hO : nOk K d pe pa la) (hB : nB K d pe) (hS : nS K pa) (hmw : ¬ wS0 w q pr mm) (hmm : ¬ aS ah pr jg mk mm) (hb4 : M.2.2 mm 4 = some sh) (hL : sLay sh Sh M) (hsA : ∀ s, s < 4 → ¬ aS ah pr jg mk (sh + 1 + 2 * s) ∧ ¬ aS ah pr jg mk (sh + 1 + 2 * s + 1)) {v s wd : Int32} {n : Nat} {g : Nat → Int32} (hn20 : n ≤ 20) (hwd : okW s 3 → M.1 (sh + 1 + 2 * s.toNatClampNeg) 1 = wd ∧ M.1 (sh + 1 + 2 * s.toNatClampNeg) 2 = nI n ∧ M.1 ((sh + 1 + 2 * s.toNatClampNeg) + 1) = g) : jC G yX10_proves cX10_proves 5 (Option.some FieldType.long) (jrm 7 0 0) sz Sh M [.ref mm, .int v, .int s] (jT sz Sh (xD (aS ah pr jg mk) mm w q pr lw d pe pa la M (sProves LT K d pe pa la wd n g v s))) := by
  refine jC_start (by decide +kernel) (Nat.le_of_ble_eq_true rfl) (fun X C E hN0 => ?_)
  have hC := hA.2.2.2.2.2.1
  have hW := hC.1
  have hE : mEq (aS ah pr jg mk) M M := mEq.rf
  have h4 := hO.2.1.1
  have hpe := hO.2.1.2
  have hpa := hO.2.2.1.2
  have hla := hO.2.2.2.1.2
  have hd3 := hO.1.2
  have hq0 : nQ True d pe pa la (vK w q pr lw M) K := by rw [hM]; exact nQ.rf
  refine j_iload_n (q := 1) C dX10_proves_0 rfl rfl rfl ?_
  first | refine j_i2lN (q := 2) C dX10_proves_1 rfl (by omega) ?_ | refine j_i2l (q := 2) C dX10_proves_1 rfl rfl ?_
  refine j_lconst (v := 0) (q := 3) C dX10_proves_2 rfl (by decide) ?_
  refine j_ldc2 (q := 6) C dX10_proves_3 rfl kw_281 ?_
  refine jS1 (q := 9) C dX10_proves_6 rfl mX10_within kw_278 kw_279 ctX10_within rfl rfl (by decide) (Nat.le_of_ble_eq_true rfl) (by decide) ?_
  refine j_if_eq (q := 12) (tgt := 19) C dX10_proves_9 rfl (by decide) (fun c_9 => ?_) (fun c_9 => ?_)
  · refine j_aload_n (q := 20) C dX10_proves_19 rfl rfl rfl ?_
    refine j_ldc2 (q := 23) C dX10_proves_20 rfl kw_283 ?_
    refine jV1 jc10 (q := 26) C dX10_proves_23 rfl hs mX10_found kw_284 kw_285 kw_0 (ctX10_found hs) rfl rfl (by decide) (Nat.le_of_ble_eq_true rfl) (by decide) ?_
    exact j_lret C E dX10_proves_26 rfl rfl (xD_b (by unfold sProves; rw [if_neg (fun h => jb_0.mp c_9 h.1)]) hq0 hE hmw hmm)
  · refine j_iload_n (q := 13) C dX10_proves_12 rfl rfl rfl ?_
    refine jS1 (q := 16) C dX10_proves_13 rfl mX10_isSheet kw_774 kw_775 ctX10_isSheet rfl rfl (by decide) (Nat.le_of_ble_eq_true rfl) (by decide) ?_
    refine j_if_ne (q := 19) (tgt := 27) C dX10_proves_16 rfl (by decide) (fun c_16 => ?_) (fun c_16 => ?_)
    · have hy := jb_n.mp c_9
      have hok := jb_n.mp c_16
      obtain ⟨x, hx3, rfl⟩ := jix2 (n := 3) (by omega) hok.1 hok.2
      have hx4 : x < 4 := by omega
      have ex : (nI x).toNatClampNeg = x := nI_clamp (by omega)
      obtain ⟨a1, a2, a3⟩ := hwd hok
      rw [ex] at a1 a2 a3
      have hfe : fNB (M.1 (sh + 1 + 2 * x + 1)) n 0 = nNb g 0 n := by rw [a3]; exact fNB_n n 0
      have hfl := nNb_le (f := g) n 0
      refine j_aload_n (q := 28) C dX10_proves_27 rfl rfl rfl ?_
      refine jg_MM_sheets (q := 31) C dX10_proves_28 rfl hs kw_270 hb4 ?_
      refine j_iload_n (q := 32) C dX10_proves_31 rfl rfl rfl ?_
      refine sa_sh hL hx4 (q' := 33) C dX10_proves_32 rfl ?_
      refine j_astore_n (lv' := [(3, _), (0, _), (1, _), (2, _)]) (q := 34) C dX10_proves_33 rfl rfl (by decide) rfl ?_
      refine j_aload_n (q := 35) C dX10_proves_34 rfl rfl rfl ?_
      refine jV1 jc8 (q := 38) C dX10_proves_35 rfl ((hL.2 x hx4).2.1) mX8_isMissing kw_778 kw_779 kw_780 (ctX8_isMissing (hL.2 x hx4).2) rfl rfl (by decide) (Nat.le_of_ble_eq_true rfl) (by decide) ?_
      refine j_if_eq (q := 41) (tgt := 49) C dX10_proves_38 rfl (by decide) (fun c_38 => ?_) (fun c_38 => ?_)
      · refine j_aload_n (q := 50) C dX10_proves_49 rfl rfl rfl ?_
        refine jg_MM_now (q := 53) C dX10_proves_50 rfl hs kw_266 ((congrFun (congrFun hE.2.2 mm) 0).trans hb0) ?_
        refine wg_World_day hW hM (q' := 56) C dX10_proves_53 rfl kw_213 ?_
        refine j_top (v' := .int (nI d)) (congrArg Value.int (k32 hO.1.1)) ?_
        refine j_aload_n (q := 57) C dX10_proves_56 rfl rfl rfl ?_
        refine jg_Sheet_size (q := 60) C dX10_proves_57 rfl ((hL.2 x hx4).2.1) kw_265 ?_
        rw [a2]
        first | refine j_iaddN (q := 61) C dX10_proves_60 rfl ?_ | refine j_iadd (q := 61) C dX10_proves_60 rfl ?_
        refine j_sipush (v := nI 300) (q := 64) C dX10_proves_61 rfl (by decide) ?_
        refine j_icmp_le (q := 67) (tgt := 75) C dX10_proves_64 rfl (by decide) (fun c_64 => ?_) (fun c_64 => ?_)
        · have hn : d + n ≤ 300 := (nI_leI (by omega) (by omega)).mp c_64
          refine j_aload_n (q := 76) C dX10_proves_75 rfl rfl rfl ?_
          refine jV1 jc8 (q := 79) C dX10_proves_76 rfl ((hL.2 x hx4).2.1) mX8_firstNoBit kw_783 kw_784 kw_785 (ctX8_firstNoBit (hL.2 x hx4).2 a2 hn20) rfl rfl (by decide) (Nat.le_of_ble_eq_true rfl) (by decide) ?_
          rw [hfe]
          refine j_istore (lv' := [(4, _), (3, _), (0, _), (1, _), (2, _)]) (q := 81) C dX10_proves_79 rfl (by decide) rfl ?_
          refine j_iload (q := 83) C dX10_proves_81 rfl rfl ?_
          refine j_aload_n (q := 84) C dX10_proves_83 rfl rfl rfl ?_
          refine jg_Sheet_size (q := 87) C dX10_proves_84 rfl ((hL.2 x hx4).2.1) kw_265 ?_
          rw [a2]
          refine j_icmp_ge (q := 90) (tgt := 94) C dX10_proves_87 rfl (by decide) (fun c_87 => ?_) (fun c_87 => ?_)
          · have hge : n ≤ nNb g 0 n := (nI_leI (by omega) (by omega)).mp c_87
            refine j_aload_n (q := 95) C dX10_proves_94 rfl rfl rfl ?_
            refine jg_MM_lookout (q := 98) C dX10_proves_95 rfl hs kw_268 ((congrFun (congrFun hE.2.2 mm) 2).trans hb2) ?_
            refine j_aload_n (q := 99) C dX10_proves_98 rfl rfl rfl ?_
            refine jg_MM_now (q := 102) C dX10_proves_99 rfl hs kw_266 ((congrFun (congrFun hE.2.2 mm) 0).trans hb0) ?_
            refine j_aload_n (q := 103) C dX10_proves_102 rfl rfl rfl ?_
            refine jVT jc0 (q := 106) C dX10_proves_103 rfl hA.1.1 mX0_hungerBy kw_787 kw_788 kw_789 (ctX0_hungerBy (b := bS g) hA hM hO hB hS (hL.2 x hx4).2.1 (hL.2 x hx4).2.2.2 (hL.2 x hx4).2.2.1 a2 hn20 hn (hsA x hx4) (fun i _ => by unfold bS; rw [a3]; simp)) rfl rfl (by decide) (Nat.le_of_ble_eq_true rfl) (by decide) (fun r_103 M_103 h_103 => ?_)
            obtain ⟨rfl, hE2_103, hPn⟩ := h_103
            have hqn := hA.nowQ (pe := pe) (pa := pa) hE2_103 hPn hpe hpa hla
            rw [hM] at hqn
            clear hE
            have hE := hE2_103
            refine j_iload_n (q := 107) C dX10_proves_106 rfl rfl rfl ?_
            first | refine j_i2lN (q := 108) C dX10_proves_107 rfl (by omega) ?_ | refine j_i2l (q := 108) C dX10_proves_107 rfl rfl ?_
            refine j_lcmp_gt (q1 := 109) (q := 112) (tgt := 118) C dX10_proves_108 dX10_proves_109 rfl rfl (by decide) (fun c_109 => ?_) (fun c_109 => ?_)
            · have ez : M_103.1 (sh + 1 + 2 * x) 2 = nI n := (congrFun (hE.1 _ (hsA x hx4).1) 2).trans a2
              refine j_aload_n (q := 119) C dX10_proves_118 rfl rfl rfl ?_
              refine jg_Sheet_size (q := 122) C dX10_proves_119 rfl ((hL.2 x hx4).2.1) kw_265 ?_
              rw [ez]
              first | refine j_i2lN (q := 123) C dX10_proves_122 rfl (by omega) ?_ | refine j_i2l (q := 123) C dX10_proves_122 rfl rfl ?_
              exact j_lret C E dX10_proves_123 rfl rfl (xD_o (by unfold sProves; rw [if_pos ⟨hy, hok⟩, if_neg (fun h => jb_0.mp c_38 (a1.trans h)), if_neg (by omega), if_neg (by omega), if_neg (Int64.not_le.mpr c_109)]) hqn hE)
            · refine j_ldc2 (q := 115) C dX10_proves_112 rfl kw_586 ?_
              refine j_goto (tgt := 123) C dX10_proves_115 (by decide) ?_
              exact j_lret C E dX10_proves_123 rfl rfl (xD_o (by unfold sProves; rw [if_pos ⟨hy, hok⟩, if_neg (fun h => jb_0.mp c_38 (a1.trans h)), if_neg (by omega), if_neg (by omega), if_pos (Int64.not_lt.mp c_109)]) hqn hE)
          · have hlt : nNb g 0 n < n := by
              rcases Nat.lt_or_ge (nNb g 0 n) n with e | e
              · exact e
              · exact absurd (nI_le e (by omega)) c_87
            refine j_iload (q := 92) C dX10_proves_90 rfl rfl ?_
            first | refine j_i2lN (q := 93) C dX10_proves_92 rfl (by omega) ?_ | refine j_i2l (q := 93) C dX10_proves_92 rfl rfl ?_
            exact j_lret C E dX10_proves_93 rfl rfl (xD_o (by unfold sProves; rw [if_pos ⟨hy, hok⟩, if_neg (fun h => jb_0.mp c_38 (a1.trans h)), if_neg (by omega), if_pos hlt]) hq0 hE)
        · refine j_aload_n (q := 68) C dX10_proves_67 rfl rfl rfl ?_
          refine j_ldc2 (q := 71) C dX10_proves_68 rfl kw_287 ?_
          refine jV1 jc10 (q := 74) C dX10_proves_71 rfl hs mX10_found kw_284 kw_285 kw_0 (ctX10_found hs) rfl rfl (by decide) (Nat.le_of_ble_eq_true rfl) (by decide) ?_
          exact j_lret C E dX10_proves_74 rfl rfl (xD_b (by unfold sProves; rw [if_pos ⟨hy, hok⟩, if_neg (fun h => jb_0.mp c_38 (a1.trans h)), if_pos (by rcases Nat.lt_or_ge 300 (d + n) with e | e; exact e; exact absurd (nI_le e (by omega)) c_64)]) hq0 hE hmw hmm)
      · refine j_aload_n (q := 42) C dX10_proves_41 rfl rfl rfl ?_
        refine j_ldc2 (q := 45) C dX10_proves_42 rfl kw_782 ?_
        refine jV1 jc10 (q := 48) C dX10_proves_45 rfl hs mX10_found kw_284 kw_285 kw_0 (ctX10_found hs) rfl rfl (by decide) (Nat.le_of_ble_eq_true rfl) (by decide) ?_
        exact j_lret C E dX10_proves_48 rfl rfl (xD_b (by unfold sProves; rw [if_pos ⟨hy, hok⟩, if_pos (a1.symm.trans (jb_n.mp c_38))]) hq0 hE hmw hmm)
    · refine j_aload_n (q := 20) C dX10_proves_19 rfl rfl rfl ?_
      refine j_ldc2 (q := 23) C dX10_proves_20 rfl kw_283 ?_
      refine jV1 jc10 (q := 26) C dX10_proves_23 rfl hs mX10_found kw_284 kw_285 kw_0 (ctX10_found hs) rfl rfl (by decide) (Nat.le_of_ble_eq_true rfl) (by decide) ?_
      exact j_lret C E dX10_proves_26 rfl rfl (xD_b (by unfold sProves; rw [if_neg (fun h => jb_0.mp c_16 h.2)]) hq0 hE hmw hmm)

