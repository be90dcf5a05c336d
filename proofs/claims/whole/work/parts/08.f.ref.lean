def eSheet (s bits n : Int32) : Int64 := if okW s 3 ∧ (bits = 0 ∨ bits = nI 8 ∨ bits = nI 16 ∨ bits = nI 32) then (if n < 0 then -100003 else if nI 20 < n then -100001 else 0) else -100001
def rSheet (o : Nat) (M : jM) (t : Nat) (bits sz : Int32) (Mx : jM) : Prop := mEq (fun b => b = o + 7 ∨ b = o + 8 ∨ b = o + 9) M Mx ∧ (∀ j, Mx.1 (o + 7) j = if j = t then bits else M.1 (o + 7) j) ∧ (∀ j, Mx.1 (o + 8) j = if j = t then sz else M.1 (o + 8) j) ∧ ∀ j, Mx.1 (o + 9) j = if 20 * t ≤ j ∧ j < 20 * t + 20 then 0 else M.1 (o + 9) j
def eX (o : Nat) (M : jM) (N : Nat → Int64) (e : Int64) (ok : Option Value → jM → Prop) : Option Value → jM → Prop := fun r M2 => if e = 0 then ok r M2 else r = some (.long e) ∧ M2 = jw (rBad o M) (o + 1) N
theorem eX_b {o sz : Nat} {Sh : jS} {M : jM} {N : Nat → Int64} {e e' : Int64} {ok : Option Value → jM → Prop} (h : e = e') (hz : ¬ e' = 0) : jT sz Sh (eX o M N e ok) (some (.long e')) sz Sh (jw (rBad o M) (o + 1) N) := ⟨rfl, rfl, by unfold eX; rw [h, if_neg hz]; exact ⟨rfl, rfl⟩⟩
theorem eX_o {o sz : Nat} {Sh : jS} {M M2 : jM} {N : Nat → Int64} {e : Int64} {ok : Option Value → jM → Prop} {r : Option Value} (h : e = 0) (hk : ok r M2) : jT sz Sh (eX o M N e ok) r sz Sh M2 := ⟨rfl, rfl, by unfold eX; rw [if_pos h]; exact hk⟩
def ePut (wd zz s i : Int32) : Int64 := if okW s 3 then (if wd = 0 then -100002 else if (0 : Int64) ≤ i.toInt64 ∧ i.toInt64 ≤ (zz - nI 1).toInt64 then 0 else -100001) else -100001
def encR (wd v : Int32) : Int32 := if wd = nI 8 then v.toInt8.toInt32 else if wd = nI 16 then v.toInt16.toInt32 else v
def eCopy (w1 w2 z1 z2 s f t u n : Int32) : Int64 := if okW s 3 ∧ okW t 3 then (if w1 = 0 ∨ w2 = 0 then -100002 else if w1 = w2 then (if ¬ f < 0 ∧ ¬ u < 0 ∧ ¬ n < 0 ∧ f.toInt64 + n.toInt64 ≤ z1.toInt64 ∧ u.toInt64 + n.toInt64 ≤ z2.toInt64 then 0 else -100001) else -100004) else -100001
def eForce (N : Nat → Int64) (t c e : Int32) : Int64 := if okW t 4 ∧ okW c 1 ∧ okW e 300 then (if N (302 + t.toNatClampNeg) = 0 then -100006 else if N 6 = 12 then -100005 else 0) else -100001
def nForce (N : Nat → Int64) (la : Nat) (c e : Int64) : Nat → Int64 := let N2 := va_up (va_up N (278 + 2 * la) c) (278 + 2 * la + 1) e
  va_up N2 6 (N2 6 + 1)
set_option maxRecDepth 100000 in
set_option maxHeartbeats 4000000 in
theorem ctX11_sheet {G : jG} {sz : Nat} {Sh : jS} {M : jM} {o : Nat} {N : Nat → Int64} (hR : rLay o Sh M) {s bits n : Int32} : jC G yX11_sheet cX11_sheet 5 (Option.some FieldType.long) (jrm 3 0 0) sz Sh (jw M (o + 1) N) [.ref o, .int s, .int bits, .int n] (jT sz Sh (eX o M N (eSheet s bits n) (fun r M2 => r = some (.long (if bits = 0 then nI 0 else n).toInt64) ∧ ∃ Mx, M2 = jw Mx (o + 1) N ∧ rSheet o M s.toNatClampNeg bits (if bits = 0 then nI 0 else n) Mx))) := by
  refine jC_start (by decide +kernel) (Nat.le_of_ble_eq_true rfl) (fun X C E hN0 => ?_)
  refine j_iload_n (q := 1) C dX11_sheet_0 rfl rfl rfl ?_
  refine jS1 (q := 4) C dX11_sheet_1 rfl mX11_isSheet kw_1231 kw_1232 ctX11_isSheet rfl rfl (by decide) (Nat.le_of_ble_eq_true rfl) (by decide) ?_
  refine j_if_eq (q := 7) (tgt := 29) C dX11_sheet_4 rfl (by decide) (fun c_4 => ?_) (fun c_4 => ?_)
  · refine j_aload_n (q := 30) C dX11_sheet_29 rfl rfl rfl ?_
    refine j_ldc (q := 32) C dX11_sheet_30 rfl kw_903 ?_
    refine jV1 jc11 (q := 35) C dX11_sheet_32 rfl hR.1.1 mX11_finding kw_904 kw_905 kw_28 (ctX11_finding hR) rfl rfl (by decide) (Nat.le_of_ble_eq_true rfl) (by decide) ?_
    first | refine j_i2lN (q := 36) C dX11_sheet_35 rfl (by omega) ?_ | refine j_i2l (q := 36) C dX11_sheet_35 rfl rfl ?_
    exact j_lret C E dX11_sheet_36 rfl rfl (eX_b (if_neg (fun h => jb_0.mp c_4 h.1)) (by decide))
  · refine j_iload_n (q := 8) C dX11_sheet_7 rfl rfl rfl ?_
    refine j_if_eq (q := 11) (tgt := 37) C dX11_sheet_8 rfl (by decide) (fun c_8 => ?_) (fun c_8 => ?_)
    · refine j_iload_n (q := 38) C dX11_sheet_37 rfl rfl rfl ?_
      refine j_if_ge (q := 41) (tgt := 49) C dX11_sheet_38 rfl (by decide) (fun c_38 => ?_) (fun c_38 => ?_)
      · refine j_iload_n (q := 50) C dX11_sheet_49 rfl rfl rfl ?_
        refine j_bipush (v := nI 20) (q := 52) C dX11_sheet_50 rfl (by decide) ?_
        refine j_icmp_le (q := 55) (tgt := 63) C dX11_sheet_52 rfl (by decide) (fun c_52 => ?_) (fun c_52 => ?_)
        · have hes : eSheet s bits n = 0 := by unfold eSheet; rw [if_pos (show okW s 3 ∧ (bits = 0 ∨ bits = nI 8 ∨ bits = nI 16 ∨ bits = nI 32) from ⟨jb_n.mp c_4, by first | exact Or.inl c_8 | exact Or.inr (Or.inl c_14) | exact Or.inr (Or.inr (Or.inl c_20)) | exact Or.inr (Or.inr (Or.inr c_26))⟩), if_neg (Int32.not_lt.mpr c_38), if_neg (Int32.not_lt.mpr c_52)]
          have hss : okW s 3 := jb_n.mp c_4
          obtain ⟨t, ht, rfl⟩ := jix2 (by omega) hss.1 hss.2
          have eT : (nI t).toNatClampNeg = t := nI_clamp (by omega)
          obtain ⟨n, hn, rfl⟩ := nI_of (Int32.not_lt.mpr c_38)
          have hR0 := hR
          have j88 : ∀ M0, mEq (fun b => b = o + 7 ∨ b = o + 8 ∨ b = o + 9) M M0 → (∀ j, M0.1 (o + 7) j = if j = t then bits else M.1 (o + 7) j) → (∀ j, M0.1 (o + 8) j = if j = t then (if bits = 0 then nI 0 else nI n) else M.1 (o + 8) j) → M0.1 (o + 9) = M.1 (o + 9) → eSheet (nI t) bits (nI n) = 0 → jJ G X 0 0 sz Sh (jw M0 (o + 1) N) 88 [(4, .int (nI 0)), (0, .ref o), (1, .int (nI t)), (2, .int bits), (3, .int (nI n))] [] := by
            intro M0 hE0 h7 h8 h9 hes
            have loop88 : ∀ (m k : Nat) (Mk : jM), mEq (fun b => b = o + 7 ∨ b = o + 8 ∨ b = o + 9) M Mk → (∀ j, Mk.1 (o + 7) j = if j = t then bits else M.1 (o + 7) j) → (∀ j, Mk.1 (o + 8) j = if j = t then (if bits = 0 then nI 0 else nI n) else M.1 (o + 8) j) → (∀ j, Mk.1 (o + 9) j = if 20 * t ≤ j ∧ j < 20 * t + k then 0 else M.1 (o + 9) j) → k + m = 20 → jJ G X 0 0 sz Sh (jw Mk (o + 1) N) 88 [(4, .int (nI k)), (0, .ref o), (1, .int (nI t)), (2, .int bits), (3, .int (nI n))] [] := by
              intro m
              induction m with
              | zero =>
                intro k Mk hE h7 h8 h9 hk
                have hR : rLay o Sh Mk := by unfold rLay at hR0 ⊢; rw [hE.2.2]; exact hR0
                refine j_iload (q := 90) C dX11_sheet_88 rfl rfl ?_
                refine j_bipush (v := nI 20) (q := 92) C dX11_sheet_90 rfl (by decide) ?_
                refine j_icmp_ge (q := 95) (tgt := 114) C dX11_sheet_92 rfl (by decide) (fun c_92 => ?_) (fun c_92 => absurd (nI_le (by omega) (by omega)) c_92)
                obtain rfl : k = 20 := by omega
                refine j_aload_n (q := 115) C dX11_sheet_114 rfl rfl rfl ?_
                refine jg_Model_sizes (q := 118) C dX11_sheet_115 rfl hR.1.1 kw_879 hR.2.2.2.2.2.2.2.2.1 ?_
                refine j_iload_n (q := 119) C dX11_sheet_118 rfl rfl rfl ?_
                refine j_iald (q := 120) C dX11_sheet_119 rfl hR.1.2.2.2.2.2.2.2.2.1 (show t < 4 by omega) (by decide) ?_
                rw [show (jw Mk (o + 1) N).1 (o + 8) t = (if bits = 0 then nI 0 else nI n) from by show Mk.1 (o + 8) t = _; rw [h8 t, if_pos rfl]]
                first | refine j_i2lN (q := 121) C dX11_sheet_120 rfl (by omega) ?_ | refine j_i2l (q := 121) C dX11_sheet_120 rfl rfl ?_
                exact j_lret C E dX11_sheet_121 rfl rfl (eX_o hes ⟨rfl, Mk, rfl, by rw [eT]; exact ⟨hE, h7, h8, h9⟩⟩)
              | succ m ih =>
                intro k Mk hE h7 h8 h9 hk
                have hR : rLay o Sh Mk := by unfold rLay at hR0 ⊢; rw [hE.2.2]; exact hR0
                refine j_iload (q := 90) C dX11_sheet_88 rfl rfl ?_
                refine j_bipush (v := nI 20) (q := 92) C dX11_sheet_90 rfl (by decide) ?_
                refine j_icmp_ge (q := 95) (tgt := 114) C dX11_sheet_92 rfl (by decide) (fun c_92 => absurd c_92 (fun h => absurd ((nI_leI (by omega) (by omega)).mp h) (by omega))) (fun c_92 => ?_)
                refine j_aload_n (q := 96) C dX11_sheet_95 rfl rfl rfl ?_
                refine jg_Model_sheets (q := 99) C dX11_sheet_96 rfl hR.1.1 kw_880 hR.2.2.2.2.2.2.2.2.2.1 ?_
                refine j_bipush (v := nI 20) (q := 101) C dX11_sheet_99 rfl (by decide) ?_
                refine j_iload_n (q := 102) C dX11_sheet_101 rfl rfl rfl ?_
                first | refine j_imulN (q := 103) C dX11_sheet_102 rfl ?_ | refine j_imul (q := 103) C dX11_sheet_102 rfl ?_
                refine j_iload (q := 105) C dX11_sheet_103 rfl rfl ?_
                first | refine j_iaddN (q := 106) C dX11_sheet_105 rfl ?_ | refine j_iadd (q := 106) C dX11_sheet_105 rfl ?_
                refine j_iconst (v := nI 0) (q := 107) C dX11_sheet_106 rfl (by decide) ?_
                refine j_iast (q := 108) C dX11_sheet_107 rfl hR.1.2.2.2.2.2.2.2.2.2.1 (show 20 * t + k < 80 by omega) (by decide) ?_
                first | refine j_iincN (lv' := [(4, _), (0, _), (1, _), (2, _), (3, _)]) (q := 111) C dX11_sheet_108 rfl rfl (by decide) rfl ?_ | refine j_iinc (lv' := [(4, _), (0, _), (1, _), (2, _), (3, _)]) (q := 111) C dX11_sheet_108 rfl rfl rfl (by decide) rfl ?_
                refine j_goto (tgt := 88) C dX11_sheet_111 (by decide) ?_
                exact j_fewer (lv' := [(4, .int (nI (k + 1))), (0, .ref o), (1, .int (nI t)), (2, .int bits), (3, .int (nI n))]) (by simp) (ih (k + 1) (jsI Mk (o + 9) (20 * t + k) (nI 0)) (hE.I (Or.inr (Or.inr rfl))) (fun j => by rw [upI (by omega)]; exact h7 j) (fun j => by rw [upI (by omega)]; exact h8 j) (fun j => by
                  by_cases cj : j = 20 * t + k
                  · subst cj; rw [upIs, if_pos (by omega)]; rfl
                  · rw [upI (fun e => cj e.2), h9 j]
                    by_cases c1 : 20 * t ≤ j ∧ j < 20 * t + k
                    · rw [if_pos c1, if_pos (by omega)]
                    · rw [if_neg c1, if_neg (by omega)]) (by omega))
            exact loop88 20 0 M0 hE0 h7 h8 (fun j => by rw [if_neg (by omega), h9]) (by omega)
          refine j_aload_n (q := 64) C dX11_sheet_63 rfl rfl rfl ?_
          refine jg_Model_widths (q := 67) C dX11_sheet_64 rfl hR.1.1 kw_878 hR.2.2.2.2.2.2.2.1 ?_
          refine j_iload_n (q := 68) C dX11_sheet_67 rfl rfl rfl ?_
          refine j_iload_n (q := 69) C dX11_sheet_68 rfl rfl rfl ?_
          refine j_iast (q := 70) C dX11_sheet_69 rfl hR.1.2.2.2.2.2.2.2.1 (show t < 4 by omega) (by decide) ?_
          refine j_aload_n (q := 71) C dX11_sheet_70 rfl rfl rfl ?_
          refine jg_Model_sizes (q := 74) C dX11_sheet_71 rfl hR.1.1 kw_879 hR.2.2.2.2.2.2.2.2.1 ?_
          refine j_iload_n (q := 75) C dX11_sheet_74 rfl rfl rfl ?_
          refine j_iload_n (q := 76) C dX11_sheet_75 rfl rfl rfl ?_
          refine j_if_ne (q := 79) (tgt := 83) C dX11_sheet_76 rfl (by decide) (fun c_76 => ?_) (fun c_76 => ?_)
          · refine j_iload_n (q := 84) C dX11_sheet_83 rfl rfl rfl ?_
            refine j_iast (q := 85) C dX11_sheet_84 rfl hR.1.2.2.2.2.2.2.2.2.1 (show t < 4 by omega) (by decide) ?_
            refine j_iconst (v := nI 0) (q := 86) C dX11_sheet_85 rfl (by decide) ?_
            refine j_istore (lv' := [(4, _), (0, _), (1, _), (2, _), (3, _)]) (q := 88) C dX11_sheet_86 rfl (by decide) rfl ?_
            exact j_fewer (lv' := [(4, .int (nI 0)), (0, .ref o), (1, .int (nI t)), (2, .int bits), (3, .int (nI n))]) (by simp) (j88 (jsI (jsI M (o + 7) t bits) (o + 8) t (nI n)) ((mEq.rf.I (Or.inl rfl)).I (Or.inr (Or.inl rfl))) (fun j => by
              rw [upI (by omega)]
              by_cases cj : j = t
              · subst cj; rw [upIs, if_pos rfl]
              · rw [upI (fun e => cj e.2), if_neg cj]) (fun j => by
              by_cases cj : j = t
              · subst cj; rw [upIs, if_pos rfl, if_neg c_76]
              · rw [upI (fun e => cj e.2), if_neg cj, upI (by omega)]) ((jup_ne (by omega)).trans (jup_ne (by omega))) hes)
          · refine j_iconst (v := nI 0) (q := 80) C dX11_sheet_79 rfl (by decide) ?_
            refine j_goto (tgt := 84) C dX11_sheet_80 (by decide) ?_
            refine j_iast (q := 85) C dX11_sheet_84 rfl hR.1.2.2.2.2.2.2.2.2.1 (show t < 4 by omega) (by decide) ?_
            refine j_iconst (v := nI 0) (q := 86) C dX11_sheet_85 rfl (by decide) ?_
            refine j_istore (lv' := [(4, _), (0, _), (1, _), (2, _), (3, _)]) (q := 88) C dX11_sheet_86 rfl (by decide) rfl ?_
            exact j_fewer (lv' := [(4, .int (nI 0)), (0, .ref o), (1, .int (nI t)), (2, .int bits), (3, .int (nI n))]) (by simp) (j88 (jsI (jsI M (o + 7) t bits) (o + 8) t (nI 0)) ((mEq.rf.I (Or.inl rfl)).I (Or.inr (Or.inl rfl))) (fun j => by
              rw [upI (by omega)]
              by_cases cj : j = t
              · subst cj; rw [upIs, if_pos rfl]
              · rw [upI (fun e => cj e.2), if_neg cj]) (fun j => by
              by_cases cj : j = t
              · subst cj; rw [upIs, if_pos rfl, if_pos c_76]
              · rw [upI (fun e => cj e.2), if_neg cj, upI (by omega)]) ((jup_ne (by omega)).trans (jup_ne (by omega))) hes)
        · refine j_aload_n (q := 56) C dX11_sheet_55 rfl rfl rfl ?_
          refine j_ldc (q := 58) C dX11_sheet_56 rfl kw_903 ?_
          refine jV1 jc11 (q := 61) C dX11_sheet_58 rfl hR.1.1 mX11_finding kw_904 kw_905 kw_28 (ctX11_finding hR) rfl rfl (by decide) (Nat.le_of_ble_eq_true rfl) (by decide) ?_
          first | refine j_i2lN (q := 62) C dX11_sheet_61 rfl (by omega) ?_ | refine j_i2l (q := 62) C dX11_sheet_61 rfl rfl ?_
          exact j_lret C E dX11_sheet_62 rfl rfl (eX_b (by unfold eSheet; rw [if_pos (show okW s 3 ∧ (bits = 0 ∨ bits = nI 8 ∨ bits = nI 16 ∨ bits = nI 32) from ⟨jb_n.mp c_4, Or.inl c_8⟩), if_neg (Int32.not_lt.mpr c_38), if_pos (Int32.not_le.mp c_52)]; rfl) (by decide))
      · refine j_aload_n (q := 42) C dX11_sheet_41 rfl rfl rfl ?_
        refine j_ldc (q := 44) C dX11_sheet_42 rfl kw_936 ?_
        refine jV1 jc11 (q := 47) C dX11_sheet_44 rfl hR.1.1 mX11_finding kw_904 kw_905 kw_28 (ctX11_finding hR) rfl rfl (by decide) (Nat.le_of_ble_eq_true rfl) (by decide) ?_
        first | refine j_i2lN (q := 48) C dX11_sheet_47 rfl (by omega) ?_ | refine j_i2l (q := 48) C dX11_sheet_47 rfl rfl ?_
        exact j_lret C E dX11_sheet_48 rfl rfl (eX_b (by unfold eSheet; rw [if_pos (show okW s 3 ∧ (bits = 0 ∨ bits = nI 8 ∨ bits = nI 16 ∨ bits = nI 32) from ⟨jb_n.mp c_4, Or.inl c_8⟩), if_pos (Int32.not_le.mp c_38)]; rfl) (by decide))
    · refine j_iload_n (q := 12) C dX11_sheet_11 rfl rfl rfl ?_
      refine j_bipush (v := nI 8) (q := 14) C dX11_sheet_12 rfl (by decide) ?_
      refine j_icmp_eq (q := 17) (tgt := 37) C dX11_sheet_14 rfl (by decide) (fun c_14 => ?_) (fun c_14 => ?_)
      · refine j_iload_n (q := 38) C dX11_sheet_37 rfl rfl rfl ?_
        refine j_if_ge (q := 41) (tgt := 49) C dX11_sheet_38 rfl (by decide) (fun c_38 => ?_) (fun c_38 => ?_)
        · refine j_iload_n (q := 50) C dX11_sheet_49 rfl rfl rfl ?_
          refine j_bipush (v := nI 20) (q := 52) C dX11_sheet_50 rfl (by decide) ?_
          refine j_icmp_le (q := 55) (tgt := 63) C dX11_sheet_52 rfl (by decide) (fun c_52 => ?_) (fun c_52 => ?_)
          · have hes : eSheet s bits n = 0 := by unfold eSheet; rw [if_pos (show okW s 3 ∧ (bits = 0 ∨ bits = nI 8 ∨ bits = nI 16 ∨ bits = nI 32) from ⟨jb_n.mp c_4, by first | exact Or.inl c_8 | exact Or.inr (Or.inl c_14) | exact Or.inr (Or.inr (Or.inl c_20)) | exact Or.inr (Or.inr (Or.inr c_26))⟩), if_neg (Int32.not_lt.mpr c_38), if_neg (Int32.not_lt.mpr c_52)]
            have hss : okW s 3 := jb_n.mp c_4
            obtain ⟨t, ht, rfl⟩ := jix2 (by omega) hss.1 hss.2
            have eT : (nI t).toNatClampNeg = t := nI_clamp (by omega)
            obtain ⟨n, hn, rfl⟩ := nI_of (Int32.not_lt.mpr c_38)
            have hR0 := hR
            have j88 : ∀ M0, mEq (fun b => b = o + 7 ∨ b = o + 8 ∨ b = o + 9) M M0 → (∀ j, M0.1 (o + 7) j = if j = t then bits else M.1 (o + 7) j) → (∀ j, M0.1 (o + 8) j = if j = t then (if bits = 0 then nI 0 else nI n) else M.1 (o + 8) j) → M0.1 (o + 9) = M.1 (o + 9) → eSheet (nI t) bits (nI n) = 0 → jJ G X 0 0 sz Sh (jw M0 (o + 1) N) 88 [(4, .int (nI 0)), (0, .ref o), (1, .int (nI t)), (2, .int bits), (3, .int (nI n))] [] := by
              intro M0 hE0 h7 h8 h9 hes
              have loop88 : ∀ (m k : Nat) (Mk : jM), mEq (fun b => b = o + 7 ∨ b = o + 8 ∨ b = o + 9) M Mk → (∀ j, Mk.1 (o + 7) j = if j = t then bits else M.1 (o + 7) j) → (∀ j, Mk.1 (o + 8) j = if j = t then (if bits = 0 then nI 0 else nI n) else M.1 (o + 8) j) → (∀ j, Mk.1 (o + 9) j = if 20 * t ≤ j ∧ j < 20 * t + k then 0 else M.1 (o + 9) j) → k + m = 20 → jJ G X 0 0 sz Sh (jw Mk (o + 1) N) 88 [(4, .int (nI k)), (0, .ref o), (1, .int (nI t)), (2, .int bits), (3, .int (nI n))] [] := by
                intro m
                induction m with
                | zero =>
                  intro k Mk hE h7 h8 h9 hk
                  have hR : rLay o Sh Mk := by unfold rLay at hR0 ⊢; rw [hE.2.2]; exact hR0
                  refine j_iload (q := 90) C dX11_sheet_88 rfl rfl ?_
                  refine j_bipush (v := nI 20) (q := 92) C dX11_sheet_90 rfl (by decide) ?_
                  refine j_icmp_ge (q := 95) (tgt := 114) C dX11_sheet_92 rfl (by decide) (fun c_92 => ?_) (fun c_92 => absurd (nI_le (by omega) (by omega)) c_92)
                  obtain rfl : k = 20 := by omega
                  refine j_aload_n (q := 115) C dX11_sheet_114 rfl rfl rfl ?_
                  refine jg_Model_sizes (q := 118) C dX11_sheet_115 rfl hR.1.1 kw_879 hR.2.2.2.2.2.2.2.2.1 ?_
                  refine j_iload_n (q := 119) C dX11_sheet_118 rfl rfl rfl ?_
                  refine j_iald (q := 120) C dX11_sheet_119 rfl hR.1.2.2.2.2.2.2.2.2.1 (show t < 4 by omega) (by decide) ?_
                  rw [show (jw Mk (o + 1) N).1 (o + 8) t = (if bits = 0 then nI 0 else nI n) from by show Mk.1 (o + 8) t = _; rw [h8 t, if_pos rfl]]
                  first | refine j_i2lN (q := 121) C dX11_sheet_120 rfl (by omega) ?_ | refine j_i2l (q := 121) C dX11_sheet_120 rfl rfl ?_
                  exact j_lret C E dX11_sheet_121 rfl rfl (eX_o hes ⟨rfl, Mk, rfl, by rw [eT]; exact ⟨hE, h7, h8, h9⟩⟩)
                | succ m ih =>
                  intro k Mk hE h7 h8 h9 hk
                  have hR : rLay o Sh Mk := by unfold rLay at hR0 ⊢; rw [hE.2.2]; exact hR0
                  refine j_iload (q := 90) C dX11_sheet_88 rfl rfl ?_
                  refine j_bipush (v := nI 20) (q := 92) C dX11_sheet_90 rfl (by decide) ?_
                  refine j_icmp_ge (q := 95) (tgt := 114) C dX11_sheet_92 rfl (by decide) (fun c_92 => absurd c_92 (fun h => absurd ((nI_leI (by omega) (by omega)).mp h) (by omega))) (fun c_92 => ?_)
                  refine j_aload_n (q := 96) C dX11_sheet_95 rfl rfl rfl ?_
                  refine jg_Model_sheets (q := 99) C dX11_sheet_96 rfl hR.1.1 kw_880 hR.2.2.2.2.2.2.2.2.2.1 ?_
                  refine j_bipush (v := nI 20) (q := 101) C dX11_sheet_99 rfl (by decide) ?_
                  refine j_iload_n (q := 102) C dX11_sheet_101 rfl rfl rfl ?_
                  first | refine j_imulN (q := 103) C dX11_sheet_102 rfl ?_ | refine j_imul (q := 103) C dX11_sheet_102 rfl ?_
                  refine j_iload (q := 105) C dX11_sheet_103 rfl rfl ?_
                  first | refine j_iaddN (q := 106) C dX11_sheet_105 rfl ?_ | refine j_iadd (q := 106) C dX11_sheet_105 rfl ?_
                  refine j_iconst (v := nI 0) (q := 107) C dX11_sheet_106 rfl (by decide) ?_
                  refine j_iast (q := 108) C dX11_sheet_107 rfl hR.1.2.2.2.2.2.2.2.2.2.1 (show 20 * t + k < 80 by omega) (by decide) ?_
                  first | refine j_iincN (lv' := [(4, _), (0, _), (1, _), (2, _), (3, _)]) (q := 111) C dX11_sheet_108 rfl rfl (by decide) rfl ?_ | refine j_iinc (lv' := [(4, _), (0, _), (1, _), (2, _), (3, _)]) (q := 111) C dX11_sheet_108 rfl rfl rfl (by decide) rfl ?_
                  refine j_goto (tgt := 88) C dX11_sheet_111 (by decide) ?_
                  exact j_fewer (lv' := [(4, .int (nI (k + 1))), (0, .ref o), (1, .int (nI t)), (2, .int bits), (3, .int (nI n))]) (by simp) (ih (k + 1) (jsI Mk (o + 9) (20 * t + k) (nI 0)) (hE.I (Or.inr (Or.inr rfl))) (fun j => by rw [upI (by omega)]; exact h7 j) (fun j => by rw [upI (by omega)]; exact h8 j) (fun j => by
                    by_cases cj : j = 20 * t + k
                    · subst cj; rw [upIs, if_pos (by omega)]; rfl
                    · rw [upI (fun e => cj e.2), h9 j]
                      by_cases c1 : 20 * t ≤ j ∧ j < 20 * t + k
                      · rw [if_pos c1, if_pos (by omega)]
                      · rw [if_neg c1, if_neg (by omega)]) (by omega))
              exact loop88 20 0 M0 hE0 h7 h8 (fun j => by rw [if_neg (by omega), h9]) (by omega)
            refine j_aload_n (q := 64) C dX11_sheet_63 rfl rfl rfl ?_
            refine jg_Model_widths (q := 67) C dX11_sheet_64 rfl hR.1.1 kw_878 hR.2.2.2.2.2.2.2.1 ?_
            refine j_iload_n (q := 68) C dX11_sheet_67 rfl rfl rfl ?_
            refine j_iload_n (q := 69) C dX11_sheet_68 rfl rfl rfl ?_
            refine j_iast (q := 70) C dX11_sheet_69 rfl hR.1.2.2.2.2.2.2.2.1 (show t < 4 by omega) (by decide) ?_
            refine j_aload_n (q := 71) C dX11_sheet_70 rfl rfl rfl ?_
            refine jg_Model_sizes (q := 74) C dX11_sheet_71 rfl hR.1.1 kw_879 hR.2.2.2.2.2.2.2.2.1 ?_
            refine j_iload_n (q := 75) C dX11_sheet_74 rfl rfl rfl ?_
            refine j_iload_n (q := 76) C dX11_sheet_75 rfl rfl rfl ?_
            refine j_if_ne (q := 79) (tgt := 83) C dX11_sheet_76 rfl (by decide) (fun c_76 => ?_) (fun c_76 => ?_)
            · refine j_iload_n (q := 84) C dX11_sheet_83 rfl rfl rfl ?_
              refine j_iast (q := 85) C dX11_sheet_84 rfl hR.1.2.2.2.2.2.2.2.2.1 (show t < 4 by omega) (by decide) ?_
              refine j_iconst (v := nI 0) (q := 86) C dX11_sheet_85 rfl (by decide) ?_
              refine j_istore (lv' := [(4, _), (0, _), (1, _), (2, _), (3, _)]) (q := 88) C dX11_sheet_86 rfl (by decide) rfl ?_
              exact j_fewer (lv' := [(4, .int (nI 0)), (0, .ref o), (1, .int (nI t)), (2, .int bits), (3, .int (nI n))]) (by simp) (j88 (jsI (jsI M (o + 7) t bits) (o + 8) t (nI n)) ((mEq.rf.I (Or.inl rfl)).I (Or.inr (Or.inl rfl))) (fun j => by
                rw [upI (by omega)]
                by_cases cj : j = t
                · subst cj; rw [upIs, if_pos rfl]
                · rw [upI (fun e => cj e.2), if_neg cj]) (fun j => by
                by_cases cj : j = t
                · subst cj; rw [upIs, if_pos rfl, if_neg c_76]
                · rw [upI (fun e => cj e.2), if_neg cj, upI (by omega)]) ((jup_ne (by omega)).trans (jup_ne (by omega))) hes)
            · refine j_iconst (v := nI 0) (q := 80) C dX11_sheet_79 rfl (by decide) ?_
              refine j_goto (tgt := 84) C dX11_sheet_80 (by decide) ?_
              refine j_iast (q := 85) C dX11_sheet_84 rfl hR.1.2.2.2.2.2.2.2.2.1 (show t < 4 by omega) (by decide) ?_
              refine j_iconst (v := nI 0) (q := 86) C dX11_sheet_85 rfl (by decide) ?_
              refine j_istore (lv' := [(4, _), (0, _), (1, _), (2, _), (3, _)]) (q := 88) C dX11_sheet_86 rfl (by decide) rfl ?_
              exact j_fewer (lv' := [(4, .int (nI 0)), (0, .ref o), (1, .int (nI t)), (2, .int bits), (3, .int (nI n))]) (by simp) (j88 (jsI (jsI M (o + 7) t bits) (o + 8) t (nI 0)) ((mEq.rf.I (Or.inl rfl)).I (Or.inr (Or.inl rfl))) (fun j => by
                rw [upI (by omega)]
                by_cases cj : j = t
                · subst cj; rw [upIs, if_pos rfl]
                · rw [upI (fun e => cj e.2), if_neg cj]) (fun j => by
                by_cases cj : j = t
                · subst cj; rw [upIs, if_pos rfl, if_pos c_76]
                · rw [upI (fun e => cj e.2), if_neg cj, upI (by omega)]) ((jup_ne (by omega)).trans (jup_ne (by omega))) hes)
          · refine j_aload_n (q := 56) C dX11_sheet_55 rfl rfl rfl ?_
            refine j_ldc (q := 58) C dX11_sheet_56 rfl kw_903 ?_
            refine jV1 jc11 (q := 61) C dX11_sheet_58 rfl hR.1.1 mX11_finding kw_904 kw_905 kw_28 (ctX11_finding hR) rfl rfl (by decide) (Nat.le_of_ble_eq_true rfl) (by decide) ?_
            first | refine j_i2lN (q := 62) C dX11_sheet_61 rfl (by omega) ?_ | refine j_i2l (q := 62) C dX11_sheet_61 rfl rfl ?_
            exact j_lret C E dX11_sheet_62 rfl rfl (eX_b (by unfold eSheet; rw [if_pos (show okW s 3 ∧ (bits = 0 ∨ bits = nI 8 ∨ bits = nI 16 ∨ bits = nI 32) from ⟨jb_n.mp c_4, Or.inr (Or.inl c_14)⟩), if_neg (Int32.not_lt.mpr c_38), if_pos (Int32.not_le.mp c_52)]; rfl) (by decide))
        · refine j_aload_n (q := 42) C dX11_sheet_41 rfl rfl rfl ?_
          refine j_ldc (q := 44) C dX11_sheet_42 rfl kw_936 ?_
          refine jV1 jc11 (q := 47) C dX11_sheet_44 rfl hR.1.1 mX11_finding kw_904 kw_905 kw_28 (ctX11_finding hR) rfl rfl (by decide) (Nat.le_of_ble_eq_true rfl) (by decide) ?_
          first | refine j_i2lN (q := 48) C dX11_sheet_47 rfl (by omega) ?_ | refine j_i2l (q := 48) C dX11_sheet_47 rfl rfl ?_
          exact j_lret C E dX11_sheet_48 rfl rfl (eX_b (by unfold eSheet; rw [if_pos (show okW s 3 ∧ (bits = 0 ∨ bits = nI 8 ∨ bits = nI 16 ∨ bits = nI 32) from ⟨jb_n.mp c_4, Or.inr (Or.inl c_14)⟩), if_pos (Int32.not_le.mp c_38)]; rfl) (by decide))
      · refine j_iload_n (q := 18) C dX11_sheet_17 rfl rfl rfl ?_
        refine j_bipush (v := nI 16) (q := 20) C dX11_sheet_18 rfl (by decide) ?_
        refine j_icmp_eq (q := 23) (tgt := 37) C dX11_sheet_20 rfl (by decide) (fun c_20 => ?_) (fun c_20 => ?_)
        · refine j_iload_n (q := 38) C dX11_sheet_37 rfl rfl rfl ?_
          refine j_if_ge (q := 41) (tgt := 49) C dX11_sheet_38 rfl (by decide) (fun c_38 => ?_) (fun c_38 => ?_)
          · refine j_iload_n (q := 50) C dX11_sheet_49 rfl rfl rfl ?_
            refine j_bipush (v := nI 20) (q := 52) C dX11_sheet_50 rfl (by decide) ?_
            refine j_icmp_le (q := 55) (tgt := 63) C dX11_sheet_52 rfl (by decide) (fun c_52 => ?_) (fun c_52 => ?_)
            · have hes : eSheet s bits n = 0 := by unfold eSheet; rw [if_pos (show okW s 3 ∧ (bits = 0 ∨ bits = nI 8 ∨ bits = nI 16 ∨ bits = nI 32) from ⟨jb_n.mp c_4, by first | exact Or.inl c_8 | exact Or.inr (Or.inl c_14) | exact Or.inr (Or.inr (Or.inl c_20)) | exact Or.inr (Or.inr (Or.inr c_26))⟩), if_neg (Int32.not_lt.mpr c_38), if_neg (Int32.not_lt.mpr c_52)]
              have hss : okW s 3 := jb_n.mp c_4
              obtain ⟨t, ht, rfl⟩ := jix2 (by omega) hss.1 hss.2
              have eT : (nI t).toNatClampNeg = t := nI_clamp (by omega)
              obtain ⟨n, hn, rfl⟩ := nI_of (Int32.not_lt.mpr c_38)
              have hR0 := hR
              have j88 : ∀ M0, mEq (fun b => b = o + 7 ∨ b = o + 8 ∨ b = o + 9) M M0 → (∀ j, M0.1 (o + 7) j = if j = t then bits else M.1 (o + 7) j) → (∀ j, M0.1 (o + 8) j = if j = t then (if bits = 0 then nI 0 else nI n) else M.1 (o + 8) j) → M0.1 (o + 9) = M.1 (o + 9) → eSheet (nI t) bits (nI n) = 0 → jJ G X 0 0 sz Sh (jw M0 (o + 1) N) 88 [(4, .int (nI 0)), (0, .ref o), (1, .int (nI t)), (2, .int bits), (3, .int (nI n))] [] := by
                intro M0 hE0 h7 h8 h9 hes
                have loop88 : ∀ (m k : Nat) (Mk : jM), mEq (fun b => b = o + 7 ∨ b = o + 8 ∨ b = o + 9) M Mk → (∀ j, Mk.1 (o + 7) j = if j = t then bits else M.1 (o + 7) j) → (∀ j, Mk.1 (o + 8) j = if j = t then (if bits = 0 then nI 0 else nI n) else M.1 (o + 8) j) → (∀ j, Mk.1 (o + 9) j = if 20 * t ≤ j ∧ j < 20 * t + k then 0 else M.1 (o + 9) j) → k + m = 20 → jJ G X 0 0 sz Sh (jw Mk (o + 1) N) 88 [(4, .int (nI k)), (0, .ref o), (1, .int (nI t)), (2, .int bits), (3, .int (nI n))] [] := by
                  intro m
                  induction m with
                  | zero =>
                    intro k Mk hE h7 h8 h9 hk
                    have hR : rLay o Sh Mk := by unfold rLay at hR0 ⊢; rw [hE.2.2]; exact hR0
                    refine j_iload (q := 90) C dX11_sheet_88 rfl rfl ?_
                    refine j_bipush (v := nI 20) (q := 92) C dX11_sheet_90 rfl (by decide) ?_
                    refine j_icmp_ge (q := 95) (tgt := 114) C dX11_sheet_92 rfl (by decide) (fun c_92 => ?_) (fun c_92 => absurd (nI_le (by omega) (by omega)) c_92)
                    obtain rfl : k = 20 := by omega
                    refine j_aload_n (q := 115) C dX11_sheet_114 rfl rfl rfl ?_
                    refine jg_Model_sizes (q := 118) C dX11_sheet_115 rfl hR.1.1 kw_879 hR.2.2.2.2.2.2.2.2.1 ?_
                    refine j_iload_n (q := 119) C dX11_sheet_118 rfl rfl rfl ?_
                    refine j_iald (q := 120) C dX11_sheet_119 rfl hR.1.2.2.2.2.2.2.2.2.1 (show t < 4 by omega) (by decide) ?_
                    rw [show (jw Mk (o + 1) N).1 (o + 8) t = (if bits = 0 then nI 0 else nI n) from by show Mk.1 (o + 8) t = _; rw [h8 t, if_pos rfl]]
                    first | refine j_i2lN (q := 121) C dX11_sheet_120 rfl (by omega) ?_ | refine j_i2l (q := 121) C dX11_sheet_120 rfl rfl ?_
                    exact j_lret C E dX11_sheet_121 rfl rfl (eX_o hes ⟨rfl, Mk, rfl, by rw [eT]; exact ⟨hE, h7, h8, h9⟩⟩)
                  | succ m ih =>
                    intro k Mk hE h7 h8 h9 hk
                    have hR : rLay o Sh Mk := by unfold rLay at hR0 ⊢; rw [hE.2.2]; exact hR0
                    refine j_iload (q := 90) C dX11_sheet_88 rfl rfl ?_
                    refine j_bipush (v := nI 20) (q := 92) C dX11_sheet_90 rfl (by decide) ?_
                    refine j_icmp_ge (q := 95) (tgt := 114) C dX11_sheet_92 rfl (by decide) (fun c_92 => absurd c_92 (fun h => absurd ((nI_leI (by omega) (by omega)).mp h) (by omega))) (fun c_92 => ?_)
                    refine j_aload_n (q := 96) C dX11_sheet_95 rfl rfl rfl ?_
                    refine jg_Model_sheets (q := 99) C dX11_sheet_96 rfl hR.1.1 kw_880 hR.2.2.2.2.2.2.2.2.2.1 ?_
                    refine j_bipush (v := nI 20) (q := 101) C dX11_sheet_99 rfl (by decide) ?_
                    refine j_iload_n (q := 102) C dX11_sheet_101 rfl rfl rfl ?_
                    first | refine j_imulN (q := 103) C dX11_sheet_102 rfl ?_ | refine j_imul (q := 103) C dX11_sheet_102 rfl ?_
                    refine j_iload (q := 105) C dX11_sheet_103 rfl rfl ?_
                    first | refine j_iaddN (q := 106) C dX11_sheet_105 rfl ?_ | refine j_iadd (q := 106) C dX11_sheet_105 rfl ?_
                    refine j_iconst (v := nI 0) (q := 107) C dX11_sheet_106 rfl (by decide) ?_
                    refine j_iast (q := 108) C dX11_sheet_107 rfl hR.1.2.2.2.2.2.2.2.2.2.1 (show 20 * t + k < 80 by omega) (by decide) ?_
                    first | refine j_iincN (lv' := [(4, _), (0, _), (1, _), (2, _), (3, _)]) (q := 111) C dX11_sheet_108 rfl rfl (by decide) rfl ?_ | refine j_iinc (lv' := [(4, _), (0, _), (1, _), (2, _), (3, _)]) (q := 111) C dX11_sheet_108 rfl rfl rfl (by decide) rfl ?_
                    refine j_goto (tgt := 88) C dX11_sheet_111 (by decide) ?_
                    exact j_fewer (lv' := [(4, .int (nI (k + 1))), (0, .ref o), (1, .int (nI t)), (2, .int bits), (3, .int (nI n))]) (by simp) (ih (k + 1) (jsI Mk (o + 9) (20 * t + k) (nI 0)) (hE.I (Or.inr (Or.inr rfl))) (fun j => by rw [upI (by omega)]; exact h7 j) (fun j => by rw [upI (by omega)]; exact h8 j) (fun j => by
                      by_cases cj : j = 20 * t + k
                      · subst cj; rw [upIs, if_pos (by omega)]; rfl
                      · rw [upI (fun e => cj e.2), h9 j]
                        by_cases c1 : 20 * t ≤ j ∧ j < 20 * t + k
                        · rw [if_pos c1, if_pos (by omega)]
                        · rw [if_neg c1, if_neg (by omega)]) (by omega))
                exact loop88 20 0 M0 hE0 h7 h8 (fun j => by rw [if_neg (by omega), h9]) (by omega)
              refine j_aload_n (q := 64) C dX11_sheet_63 rfl rfl rfl ?_
              refine jg_Model_widths (q := 67) C dX11_sheet_64 rfl hR.1.1 kw_878 hR.2.2.2.2.2.2.2.1 ?_
              refine j_iload_n (q := 68) C dX11_sheet_67 rfl rfl rfl ?_
              refine j_iload_n (q := 69) C dX11_sheet_68 rfl rfl rfl ?_
              refine j_iast (q := 70) C dX11_sheet_69 rfl hR.1.2.2.2.2.2.2.2.1 (show t < 4 by omega) (by decide) ?_
              refine j_aload_n (q := 71) C dX11_sheet_70 rfl rfl rfl ?_
              refine jg_Model_sizes (q := 74) C dX11_sheet_71 rfl hR.1.1 kw_879 hR.2.2.2.2.2.2.2.2.1 ?_
              refine j_iload_n (q := 75) C dX11_sheet_74 rfl rfl rfl ?_
              refine j_iload_n (q := 76) C dX11_sheet_75 rfl rfl rfl ?_
              refine j_if_ne (q := 79) (tgt := 83) C dX11_sheet_76 rfl (by decide) (fun c_76 => ?_) (fun c_76 => ?_)
              · refine j_iload_n (q := 84) C dX11_sheet_83 rfl rfl rfl ?_
                refine j_iast (q := 85) C dX11_sheet_84 rfl hR.1.2.2.2.2.2.2.2.2.1 (show t < 4 by omega) (by decide) ?_
                refine j_iconst (v := nI 0) (q := 86) C dX11_sheet_85 rfl (by decide) ?_
                refine j_istore (lv' := [(4, _), (0, _), (1, _), (2, _), (3, _)]) (q := 88) C dX11_sheet_86 rfl (by decide) rfl ?_
                exact j_fewer (lv' := [(4, .int (nI 0)), (0, .ref o), (1, .int (nI t)), (2, .int bits), (3, .int (nI n))]) (by simp) (j88 (jsI (jsI M (o + 7) t bits) (o + 8) t (nI n)) ((mEq.rf.I (Or.inl rfl)).I (Or.inr (Or.inl rfl))) (fun j => by
                  rw [upI (by omega)]
                  by_cases cj : j = t
                  · subst cj; rw [upIs, if_pos rfl]
                  · rw [upI (fun e => cj e.2), if_neg cj]) (fun j => by
                  by_cases cj : j = t
                  · subst cj; rw [upIs, if_pos rfl, if_neg c_76]
                  · rw [upI (fun e => cj e.2), if_neg cj, upI (by omega)]) ((jup_ne (by omega)).trans (jup_ne (by omega))) hes)
              · refine j_iconst (v := nI 0) (q := 80) C dX11_sheet_79 rfl (by decide) ?_
                refine j_goto (tgt := 84) C dX11_sheet_80 (by decide) ?_
                refine j_iast (q := 85) C dX11_sheet_84 rfl hR.1.2.2.2.2.2.2.2.2.1 (show t < 4 by omega) (by decide) ?_
                refine j_iconst (v := nI 0) (q := 86) C dX11_sheet_85 rfl (by decide) ?_
                refine j_istore (lv' := [(4, _), (0, _), (1, _), (2, _), (3, _)]) (q := 88) C dX11_sheet_86 rfl (by decide) rfl ?_
                exact j_fewer (lv' := [(4, .int (nI 0)), (0, .ref o), (1, .int (nI t)), (2, .int bits), (3, .int (nI n))]) (by simp) (j88 (jsI (jsI M (o + 7) t bits) (o + 8) t (nI 0)) ((mEq.rf.I (Or.inl rfl)).I (Or.inr (Or.inl rfl))) (fun j => by
                  rw [upI (by omega)]
                  by_cases cj : j = t
                  · subst cj; rw [upIs, if_pos rfl]
                  · rw [upI (fun e => cj e.2), if_neg cj]) (fun j => by
                  by_cases cj : j = t
                  · subst cj; rw [upIs, if_pos rfl, if_pos c_76]
                  · rw [upI (fun e => cj e.2), if_neg cj, upI (by omega)]) ((jup_ne (by omega)).trans (jup_ne (by omega))) hes)
            · refine j_aload_n (q := 56) C dX11_sheet_55 rfl rfl rfl ?_
              refine j_ldc (q := 58) C dX11_sheet_56 rfl kw_903 ?_
              refine jV1 jc11 (q := 61) C dX11_sheet_58 rfl hR.1.1 mX11_finding kw_904 kw_905 kw_28 (ctX11_finding hR) rfl rfl (by decide) (Nat.le_of_ble_eq_true rfl) (by decide) ?_
              first | refine j_i2lN (q := 62) C dX11_sheet_61 rfl (by omega) ?_ | refine j_i2l (q := 62) C dX11_sheet_61 rfl rfl ?_
              exact j_lret C E dX11_sheet_62 rfl rfl (eX_b (by unfold eSheet; rw [if_pos (show okW s 3 ∧ (bits = 0 ∨ bits = nI 8 ∨ bits = nI 16 ∨ bits = nI 32) from ⟨jb_n.mp c_4, Or.inr (Or.inr (Or.inl c_20))⟩), if_neg (Int32.not_lt.mpr c_38), if_pos (Int32.not_le.mp c_52)]; rfl) (by decide))
          · refine j_aload_n (q := 42) C dX11_sheet_41 rfl rfl rfl ?_
            refine j_ldc (q := 44) C dX11_sheet_42 rfl kw_936 ?_
            refine jV1 jc11 (q := 47) C dX11_sheet_44 rfl hR.1.1 mX11_finding kw_904 kw_905 kw_28 (ctX11_finding hR) rfl rfl (by decide) (Nat.le_of_ble_eq_true rfl) (by decide) ?_
            first | refine j_i2lN (q := 48) C dX11_sheet_47 rfl (by omega) ?_ | refine j_i2l (q := 48) C dX11_sheet_47 rfl rfl ?_
            exact j_lret C E dX11_sheet_48 rfl rfl (eX_b (by unfold eSheet; rw [if_pos (show okW s 3 ∧ (bits = 0 ∨ bits = nI 8 ∨ bits = nI 16 ∨ bits = nI 32) from ⟨jb_n.mp c_4, Or.inr (Or.inr (Or.inl c_20))⟩), if_pos (Int32.not_le.mp c_38)]; rfl) (by decide))
        · refine j_iload_n (q := 24) C dX11_sheet_23 rfl rfl rfl ?_
          refine j_bipush (v := nI 32) (q := 26) C dX11_sheet_24 rfl (by decide) ?_
          refine j_icmp_eq (q := 29) (tgt := 37) C dX11_sheet_26 rfl (by decide) (fun c_26 => ?_) (fun c_26 => ?_)
          · refine j_iload_n (q := 38) C dX11_sheet_37 rfl rfl rfl ?_
            refine j_if_ge (q := 41) (tgt := 49) C dX11_sheet_38 rfl (by decide) (fun c_38 => ?_) (fun c_38 => ?_)
            · refine j_iload_n (q := 50) C dX11_sheet_49 rfl rfl rfl ?_
              refine j_bipush (v := nI 20) (q := 52) C dX11_sheet_50 rfl (by decide) ?_
              refine j_icmp_le (q := 55) (tgt := 63) C dX11_sheet_52 rfl (by decide) (fun c_52 => ?_) (fun c_52 => ?_)
              · have hes : eSheet s bits n = 0 := by unfold eSheet; rw [if_pos (show okW s 3 ∧ (bits = 0 ∨ bits = nI 8 ∨ bits = nI 16 ∨ bits = nI 32) from ⟨jb_n.mp c_4, by first | exact Or.inl c_8 | exact Or.inr (Or.inl c_14) | exact Or.inr (Or.inr (Or.inl c_20)) | exact Or.inr (Or.inr (Or.inr c_26))⟩), if_neg (Int32.not_lt.mpr c_38), if_neg (Int32.not_lt.mpr c_52)]
                have hss : okW s 3 := jb_n.mp c_4
                obtain ⟨t, ht, rfl⟩ := jix2 (by omega) hss.1 hss.2
                have eT : (nI t).toNatClampNeg = t := nI_clamp (by omega)
                obtain ⟨n, hn, rfl⟩ := nI_of (Int32.not_lt.mpr c_38)
                have hR0 := hR
                have j88 : ∀ M0, mEq (fun b => b = o + 7 ∨ b = o + 8 ∨ b = o + 9) M M0 → (∀ j, M0.1 (o + 7) j = if j = t then bits else M.1 (o + 7) j) → (∀ j, M0.1 (o + 8) j = if j = t then (if bits = 0 then nI 0 else nI n) else M.1 (o + 8) j) → M0.1 (o + 9) = M.1 (o + 9) → eSheet (nI t) bits (nI n) = 0 → jJ G X 0 0 sz Sh (jw M0 (o + 1) N) 88 [(4, .int (nI 0)), (0, .ref o), (1, .int (nI t)), (2, .int bits), (3, .int (nI n))] [] := by
                  intro M0 hE0 h7 h8 h9 hes
                  have loop88 : ∀ (m k : Nat) (Mk : jM), mEq (fun b => b = o + 7 ∨ b = o + 8 ∨ b = o + 9) M Mk → (∀ j, Mk.1 (o + 7) j = if j = t then bits else M.1 (o + 7) j) → (∀ j, Mk.1 (o + 8) j = if j = t then (if bits = 0 then nI 0 else nI n) else M.1 (o + 8) j) → (∀ j, Mk.1 (o + 9) j = if 20 * t ≤ j ∧ j < 20 * t + k then 0 else M.1 (o + 9) j) → k + m = 20 → jJ G X 0 0 sz Sh (jw Mk (o + 1) N) 88 [(4, .int (nI k)), (0, .ref o), (1, .int (nI t)), (2, .int bits), (3, .int (nI n))] [] := by
                    intro m
                    induction m with
                    | zero =>
                      intro k Mk hE h7 h8 h9 hk
                      have hR : rLay o Sh Mk := by unfold rLay at hR0 ⊢; rw [hE.2.2]; exact hR0
                      refine j_iload (q := 90) C dX11_sheet_88 rfl rfl ?_
                      refine j_bipush (v := nI 20) (q := 92) C dX11_sheet_90 rfl (by decide) ?_
                      refine j_icmp_ge (q := 95) (tgt := 114) C dX11_sheet_92 rfl (by decide) (fun c_92 => ?_) (fun c_92 => absurd (nI_le (by omega) (by omega)) c_92)
                      obtain rfl : k = 20 := by omega
                      refine j_aload_n (q := 115) C dX11_sheet_114 rfl rfl rfl ?_
                      refine jg_Model_sizes (q := 118) C dX11_sheet_115 rfl hR.1.1 kw_879 hR.2.2.2.2.2.2.2.2.1 ?_
                      refine j_iload_n (q := 119) C dX11_sheet_118 rfl rfl rfl ?_
                      refine j_iald (q := 120) C dX11_sheet_119 rfl hR.1.2.2.2.2.2.2.2.2.1 (show t < 4 by omega) (by decide) ?_
                      rw [show (jw Mk (o + 1) N).1 (o + 8) t = (if bits = 0 then nI 0 else nI n) from by show Mk.1 (o + 8) t = _; rw [h8 t, if_pos rfl]]
                      first | refine j_i2lN (q := 121) C dX11_sheet_120 rfl (by omega) ?_ | refine j_i2l (q := 121) C dX11_sheet_120 rfl rfl ?_
                      exact j_lret C E dX11_sheet_121 rfl rfl (eX_o hes ⟨rfl, Mk, rfl, by rw [eT]; exact ⟨hE, h7, h8, h9⟩⟩)
                    | succ m ih =>
                      intro k Mk hE h7 h8 h9 hk
                      have hR : rLay o Sh Mk := by unfold rLay at hR0 ⊢; rw [hE.2.2]; exact hR0
                      refine j_iload (q := 90) C dX11_sheet_88 rfl rfl ?_
                      refine j_bipush (v := nI 20) (q := 92) C dX11_sheet_90 rfl (by decide) ?_
                      refine j_icmp_ge (q := 95) (tgt := 114) C dX11_sheet_92 rfl (by decide) (fun c_92 => absurd c_92 (fun h => absurd ((nI_leI (by omega) (by omega)).mp h) (by omega))) (fun c_92 => ?_)
                      refine j_aload_n (q := 96) C dX11_sheet_95 rfl rfl rfl ?_
                      refine jg_Model_sheets (q := 99) C dX11_sheet_96 rfl hR.1.1 kw_880 hR.2.2.2.2.2.2.2.2.2.1 ?_
                      refine j_bipush (v := nI 20) (q := 101) C dX11_sheet_99 rfl (by decide) ?_
                      refine j_iload_n (q := 102) C dX11_sheet_101 rfl rfl rfl ?_
                      first | refine j_imulN (q := 103) C dX11_sheet_102 rfl ?_ | refine j_imul (q := 103) C dX11_sheet_102 rfl ?_
                      refine j_iload (q := 105) C dX11_sheet_103 rfl rfl ?_
                      first | refine j_iaddN (q := 106) C dX11_sheet_105 rfl ?_ | refine j_iadd (q := 106) C dX11_sheet_105 rfl ?_
                      refine j_iconst (v := nI 0) (q := 107) C dX11_sheet_106 rfl (by decide) ?_
                      refine j_iast (q := 108) C dX11_sheet_107 rfl hR.1.2.2.2.2.2.2.2.2.2.1 (show 20 * t + k < 80 by omega) (by decide) ?_
                      first | refine j_iincN (lv' := [(4, _), (0, _), (1, _), (2, _), (3, _)]) (q := 111) C dX11_sheet_108 rfl rfl (by decide) rfl ?_ | refine j_iinc (lv' := [(4, _), (0, _), (1, _), (2, _), (3, _)]) (q := 111) C dX11_sheet_108 rfl rfl rfl (by decide) rfl ?_
                      refine j_goto (tgt := 88) C dX11_sheet_111 (by decide) ?_
                      exact j_fewer (lv' := [(4, .int (nI (k + 1))), (0, .ref o), (1, .int (nI t)), (2, .int bits), (3, .int (nI n))]) (by simp) (ih (k + 1) (jsI Mk (o + 9) (20 * t + k) (nI 0)) (hE.I (Or.inr (Or.inr rfl))) (fun j => by rw [upI (by omega)]; exact h7 j) (fun j => by rw [upI (by omega)]; exact h8 j) (fun j => by
                        by_cases cj : j = 20 * t + k
                        · subst cj; rw [upIs, if_pos (by omega)]; rfl
                        · rw [upI (fun e => cj e.2), h9 j]
                          by_cases c1 : 20 * t ≤ j ∧ j < 20 * t + k
                          · rw [if_pos c1, if_pos (by omega)]
                          · rw [if_neg c1, if_neg (by omega)]) (by omega))
                  exact loop88 20 0 M0 hE0 h7 h8 (fun j => by rw [if_neg (by omega), h9]) (by omega)
                refine j_aload_n (q := 64) C dX11_sheet_63 rfl rfl rfl ?_
                refine jg_Model_widths (q := 67) C dX11_sheet_64 rfl hR.1.1 kw_878 hR.2.2.2.2.2.2.2.1 ?_
                refine j_iload_n (q := 68) C dX11_sheet_67 rfl rfl rfl ?_
                refine j_iload_n (q := 69) C dX11_sheet_68 rfl rfl rfl ?_
                refine j_iast (q := 70) C dX11_sheet_69 rfl hR.1.2.2.2.2.2.2.2.1 (show t < 4 by omega) (by decide) ?_
                refine j_aload_n (q := 71) C dX11_sheet_70 rfl rfl rfl ?_
                refine jg_Model_sizes (q := 74) C dX11_sheet_71 rfl hR.1.1 kw_879 hR.2.2.2.2.2.2.2.2.1 ?_
                refine j_iload_n (q := 75) C dX11_sheet_74 rfl rfl rfl ?_
                refine j_iload_n (q := 76) C dX11_sheet_75 rfl rfl rfl ?_
                refine j_if_ne (q := 79) (tgt := 83) C dX11_sheet_76 rfl (by decide) (fun c_76 => ?_) (fun c_76 => ?_)
                · refine j_iload_n (q := 84) C dX11_sheet_83 rfl rfl rfl ?_
                  refine j_iast (q := 85) C dX11_sheet_84 rfl hR.1.2.2.2.2.2.2.2.2.1 (show t < 4 by omega) (by decide) ?_
                  refine j_iconst (v := nI 0) (q := 86) C dX11_sheet_85 rfl (by decide) ?_
                  refine j_istore (lv' := [(4, _), (0, _), (1, _), (2, _), (3, _)]) (q := 88) C dX11_sheet_86 rfl (by decide) rfl ?_
                  exact j_fewer (lv' := [(4, .int (nI 0)), (0, .ref o), (1, .int (nI t)), (2, .int bits), (3, .int (nI n))]) (by simp) (j88 (jsI (jsI M (o + 7) t bits) (o + 8) t (nI n)) ((mEq.rf.I (Or.inl rfl)).I (Or.inr (Or.inl rfl))) (fun j => by
                    rw [upI (by omega)]
                    by_cases cj : j = t
                    · subst cj; rw [upIs, if_pos rfl]
                    · rw [upI (fun e => cj e.2), if_neg cj]) (fun j => by
                    by_cases cj : j = t
                    · subst cj; rw [upIs, if_pos rfl, if_neg c_76]
                    · rw [upI (fun e => cj e.2), if_neg cj, upI (by omega)]) ((jup_ne (by omega)).trans (jup_ne (by omega))) hes)
                · refine j_iconst (v := nI 0) (q := 80) C dX11_sheet_79 rfl (by decide) ?_
                  refine j_goto (tgt := 84) C dX11_sheet_80 (by decide) ?_
                  refine j_iast (q := 85) C dX11_sheet_84 rfl hR.1.2.2.2.2.2.2.2.2.1 (show t < 4 by omega) (by decide) ?_
                  refine j_iconst (v := nI 0) (q := 86) C dX11_sheet_85 rfl (by decide) ?_
                  refine j_istore (lv' := [(4, _), (0, _), (1, _), (2, _), (3, _)]) (q := 88) C dX11_sheet_86 rfl (by decide) rfl ?_
                  exact j_fewer (lv' := [(4, .int (nI 0)), (0, .ref o), (1, .int (nI t)), (2, .int bits), (3, .int (nI n))]) (by simp) (j88 (jsI (jsI M (o + 7) t bits) (o + 8) t (nI 0)) ((mEq.rf.I (Or.inl rfl)).I (Or.inr (Or.inl rfl))) (fun j => by
                    rw [upI (by omega)]
                    by_cases cj : j = t
                    · subst cj; rw [upIs, if_pos rfl]
                    · rw [upI (fun e => cj e.2), if_neg cj]) (fun j => by
                    by_cases cj : j = t
                    · subst cj; rw [upIs, if_pos rfl, if_pos c_76]
                    · rw [upI (fun e => cj e.2), if_neg cj, upI (by omega)]) ((jup_ne (by omega)).trans (jup_ne (by omega))) hes)
              · refine j_aload_n (q := 56) C dX11_sheet_55 rfl rfl rfl ?_
                refine j_ldc (q := 58) C dX11_sheet_56 rfl kw_903 ?_
                refine jV1 jc11 (q := 61) C dX11_sheet_58 rfl hR.1.1 mX11_finding kw_904 kw_905 kw_28 (ctX11_finding hR) rfl rfl (by decide) (Nat.le_of_ble_eq_true rfl) (by decide) ?_
                first | refine j_i2lN (q := 62) C dX11_sheet_61 rfl (by omega) ?_ | refine j_i2l (q := 62) C dX11_sheet_61 rfl rfl ?_
                exact j_lret C E dX11_sheet_62 rfl rfl (eX_b (by unfold eSheet; rw [if_pos (show okW s 3 ∧ (bits = 0 ∨ bits = nI 8 ∨ bits = nI 16 ∨ bits = nI 32) from ⟨jb_n.mp c_4, Or.inr (Or.inr (Or.inr c_26))⟩), if_neg (Int32.not_lt.mpr c_38), if_pos (Int32.not_le.mp c_52)]; rfl) (by decide))
            · refine j_aload_n (q := 42) C dX11_sheet_41 rfl rfl rfl ?_
              refine j_ldc (q := 44) C dX11_sheet_42 rfl kw_936 ?_
              refine jV1 jc11 (q := 47) C dX11_sheet_44 rfl hR.1.1 mX11_finding kw_904 kw_905 kw_28 (ctX11_finding hR) rfl rfl (by decide) (Nat.le_of_ble_eq_true rfl) (by decide) ?_
              first | refine j_i2lN (q := 48) C dX11_sheet_47 rfl (by omega) ?_ | refine j_i2l (q := 48) C dX11_sheet_47 rfl rfl ?_
              exact j_lret C E dX11_sheet_48 rfl rfl (eX_b (by unfold eSheet; rw [if_pos (show okW s 3 ∧ (bits = 0 ∨ bits = nI 8 ∨ bits = nI 16 ∨ bits = nI 32) from ⟨jb_n.mp c_4, Or.inr (Or.inr (Or.inr c_26))⟩), if_pos (Int32.not_le.mp c_38)]; rfl) (by decide))
          · refine j_aload_n (q := 30) C dX11_sheet_29 rfl rfl rfl ?_
            refine j_ldc (q := 32) C dX11_sheet_30 rfl kw_903 ?_
            refine jV1 jc11 (q := 35) C dX11_sheet_32 rfl hR.1.1 mX11_finding kw_904 kw_905 kw_28 (ctX11_finding hR) rfl rfl (by decide) (Nat.le_of_ble_eq_true rfl) (by decide) ?_
            first | refine j_i2lN (q := 36) C dX11_sheet_35 rfl (by omega) ?_ | refine j_i2l (q := 36) C dX11_sheet_35 rfl rfl ?_
            exact j_lret C E dX11_sheet_36 rfl rfl (eX_b (if_neg (fun h => h.2.elim c_8 (fun h => h.elim c_14 (fun h => h.elim c_20 c_26)))) (by decide))

set_option maxRecDepth 100000 in
set_option maxHeartbeats 4000000 in
theorem ctX11_put {G : jG} {sz : Nat} {Sh : jS} {M : jM} {o : Nat} {N : Nat → Int64} (hR : rLay o Sh M) {s i v : Int32} {wd zz : Int32} (hwd : okW s 3 → M.1 (o + 7) s.toNatClampNeg = wd) (hzz : okW s 3 → M.1 (o + 8) s.toNatClampNeg = zz) (hz20 : okW s 3 → ∃ n, n ≤ 20 ∧ zz = nI n) : jC G yX11_put cX11_put 4 (Option.some FieldType.long) (jrm 3 0 0) sz Sh (jw M (o + 1) N) [.ref o, .int s, .int i, .int v] (jT sz Sh (eX o M N (ePut wd zz s i) (fun r M2 => r = some (.long 0) ∧ M2 = jw (jsI M (o + 9) (20 * s.toNatClampNeg + i.toNatClampNeg) (encR wd v)) (o + 1) N))) := by
  refine jC_start (by decide +kernel) (Nat.le_of_ble_eq_true rfl) (fun X C E hN0 => ?_)
  refine j_iload_n (q := 1) C dX11_put_0 rfl rfl rfl ?_
  refine jS1 (q := 4) C dX11_put_1 rfl mX11_isSheet kw_1231 kw_1232 ctX11_isSheet rfl rfl (by decide) (Nat.le_of_ble_eq_true rfl) (by decide) ?_
  refine j_if_ne (q := 7) (tgt := 15) C dX11_put_4 rfl (by decide) (fun c_4 => ?_) (fun c_4 => ?_)
  · have hss : okW s 3 := jb_n.mp c_4
    obtain ⟨t, ht, rfl⟩ := jix2 (by omega) hss.1 hss.2
    have eT : (nI t).toNatClampNeg = t := nI_clamp (by omega)
    have hwd := hwd hss
    have hzz := hzz hss
    rw [eT] at hwd hzz
    refine j_aload_n (q := 16) C dX11_put_15 rfl rfl rfl ?_
    refine jg_Model_widths (q := 19) C dX11_put_16 rfl hR.1.1 kw_878 hR.2.2.2.2.2.2.2.1 ?_
    refine j_iload_n (q := 20) C dX11_put_19 rfl rfl rfl ?_
    refine j_iald (q := 21) C dX11_put_20 rfl hR.1.2.2.2.2.2.2.2.1 (show t < 4 by omega) (by decide) ?_
    rw [show (jw M (o + 1) N).1 (o + 7) t = wd from hwd]
    refine j_if_ne (q := 24) (tgt := 33) C dX11_put_21 rfl (by decide) (fun c_21 => ?_) (fun c_21 => ?_)
    · refine j_iload_n (q := 34) C dX11_put_33 rfl rfl rfl ?_
      first | refine j_i2lN (q := 35) C dX11_put_34 rfl (by omega) ?_ | refine j_i2l (q := 35) C dX11_put_34 rfl rfl ?_
      refine j_lconst (v := 0) (q := 36) C dX11_put_35 rfl (by decide) ?_
      refine j_aload_n (q := 37) C dX11_put_36 rfl rfl rfl ?_
      refine jg_Model_sizes (q := 40) C dX11_put_37 rfl hR.1.1 kw_879 hR.2.2.2.2.2.2.2.2.1 ?_
      refine j_iload_n (q := 41) C dX11_put_40 rfl rfl rfl ?_
      refine j_iald (q := 42) C dX11_put_41 rfl hR.1.2.2.2.2.2.2.2.2.1 (show t < 4 by omega) (by decide) ?_
      rw [show (jw M (o + 1) N).1 (o + 8) t = zz from hzz]
      refine j_iconst (v := nI 1) (q := 43) C dX11_put_42 rfl (by decide) ?_
      refine j_isub (q := 44) C dX11_put_43 rfl ?_
      first | refine j_i2lN (q := 45) C dX11_put_44 rfl (by omega) ?_ | refine j_i2l (q := 45) C dX11_put_44 rfl rfl ?_
      refine jS1 (q := 48) C dX11_put_45 rfl mX11_within kw_898 kw_899 (ctX11_within) rfl rfl (by decide) (Nat.le_of_ble_eq_true rfl) (by decide) ?_
      refine j_if_ne (q := 51) (tgt := 59) C dX11_put_48 rfl (by decide) (fun c_48 => ?_) (fun c_48 => ?_)
      · have hi := jb_n.mp c_48
        have hz20 := hz20 hss
        obtain ⟨n, hn20, rfl⟩ := hz20
        have hn1 : ∃ i', i' < n ∧ i = nI i' := by
          by_cases hn0 : n = 0
          · subst hn0
            exact absurd (Int64.le_trans hi.1 hi.2) (by decide)
          · rw [pk_sub (show 1 ≤ n by omega)] at hi
            obtain ⟨i', hi', rfl⟩ := jix2 (n := n - 1) (by omega) hi.1 (by rw [← nI_l (show n - 1 < 2 ^ 31 by omega)]; exact hi.2)
            exact ⟨i', by omega, rfl⟩
        obtain ⟨i, hin, rfl⟩ := hn1
        have eI : (nI i).toNatClampNeg = i := nI_clamp (by omega)
        refine j_aload_n (q := 60) C dX11_put_59 rfl rfl rfl ?_
        refine jg_Model_sheets (q := 63) C dX11_put_60 rfl hR.1.1 kw_880 hR.2.2.2.2.2.2.2.2.2.1 ?_
        refine j_bipush (v := nI 20) (q := 65) C dX11_put_63 rfl (by decide) ?_
        refine j_iload_n (q := 66) C dX11_put_65 rfl rfl rfl ?_
        first | refine j_imulN (q := 67) C dX11_put_66 rfl ?_ | refine j_imul (q := 67) C dX11_put_66 rfl ?_
        refine j_iload_n (q := 68) C dX11_put_67 rfl rfl rfl ?_
        first | refine j_iaddN (q := 69) C dX11_put_68 rfl ?_ | refine j_iadd (q := 69) C dX11_put_68 rfl ?_
        refine j_aload_n (q := 70) C dX11_put_69 rfl rfl rfl ?_
        refine jg_Model_widths (q := 73) C dX11_put_70 rfl hR.1.1 kw_878 hR.2.2.2.2.2.2.2.1 ?_
        refine j_iload_n (q := 74) C dX11_put_73 rfl rfl rfl ?_
        refine j_iald (q := 75) C dX11_put_74 rfl hR.1.2.2.2.2.2.2.2.1 (show t < 4 by omega) (by decide) ?_
        rw [show (jw M (o + 1) N).1 (o + 7) t = wd from hwd]
        refine j_bipush (v := nI 8) (q := 77) C dX11_put_75 rfl (by decide) ?_
        refine j_icmp_ne (q := 80) (tgt := 85) C dX11_put_77 rfl (by decide) (fun c_77 => ?_) (fun c_77 => ?_)
        · refine j_aload_n (q := 86) C dX11_put_85 rfl rfl rfl ?_
          refine jg_Model_widths (q := 89) C dX11_put_86 rfl hR.1.1 kw_878 hR.2.2.2.2.2.2.2.1 ?_
          refine j_iload_n (q := 90) C dX11_put_89 rfl rfl rfl ?_
          refine j_iald (q := 91) C dX11_put_90 rfl hR.1.2.2.2.2.2.2.2.1 (show t < 4 by omega) (by decide) ?_
          rw [show (jw M (o + 1) N).1 (o + 7) t = wd from hwd]
          refine j_bipush (v := nI 16) (q := 93) C dX11_put_91 rfl (by decide) ?_
          refine j_icmp_ne (q := 96) (tgt := 101) C dX11_put_93 rfl (by decide) (fun c_93 => ?_) (fun c_93 => ?_)
          · refine j_iload_n (q := 102) C dX11_put_101 rfl rfl rfl ?_
            refine j_iast (q := 103) C dX11_put_102 rfl hR.1.2.2.2.2.2.2.2.2.2.1 (show 20 * t + i < 80 by omega) (by decide) ?_
            refine j_lconst (v := 0) (q := 104) C dX11_put_103 rfl (by decide) ?_
            exact j_lret C E dX11_put_104 rfl rfl (eX_o (by unfold ePut; rw [if_pos hss, if_neg c_21, if_pos (jb_n.mp c_48)]) ⟨rfl, by rw [eT, eI]; unfold encR; rw [if_neg c_77, if_neg c_93]; rfl⟩)
          · refine j_iload_n (q := 97) C dX11_put_96 rfl rfl rfl ?_
            refine j_i2s (q := 98) C dX11_put_97 rfl rfl ?_
            refine j_goto (tgt := 102) C dX11_put_98 (by decide) ?_
            refine j_iast (q := 103) C dX11_put_102 rfl hR.1.2.2.2.2.2.2.2.2.2.1 (show 20 * t + i < 80 by omega) (by decide) ?_
            refine j_lconst (v := 0) (q := 104) C dX11_put_103 rfl (by decide) ?_
            exact j_lret C E dX11_put_104 rfl rfl (eX_o (by unfold ePut; rw [if_pos hss, if_neg c_21, if_pos (jb_n.mp c_48)]) ⟨rfl, by rw [eT, eI]; unfold encR; rw [if_neg c_77, if_pos c_93]; rfl⟩)
        · refine j_iload_n (q := 81) C dX11_put_80 rfl rfl rfl ?_
          refine j_i2b (q := 82) C dX11_put_81 rfl rfl ?_
          refine j_goto (tgt := 102) C dX11_put_82 (by decide) ?_
          refine j_iast (q := 103) C dX11_put_102 rfl hR.1.2.2.2.2.2.2.2.2.2.1 (show 20 * t + i < 80 by omega) (by decide) ?_
          refine j_lconst (v := 0) (q := 104) C dX11_put_103 rfl (by decide) ?_
          exact j_lret C E dX11_put_104 rfl rfl (eX_o (by unfold ePut; rw [if_pos hss, if_neg c_21, if_pos (jb_n.mp c_48)]) ⟨rfl, by rw [eT, eI]; unfold encR; rw [if_pos c_77]; rfl⟩)
      · refine j_aload_n (q := 52) C dX11_put_51 rfl rfl rfl ?_
        refine j_ldc (q := 54) C dX11_put_52 rfl kw_903 ?_
        refine jV1 jc11 (q := 57) C dX11_put_54 rfl hR.1.1 mX11_finding kw_904 kw_905 kw_28 (ctX11_finding hR) rfl rfl (by decide) (Nat.le_of_ble_eq_true rfl) (by decide) ?_
        first | refine j_i2lN (q := 58) C dX11_put_57 rfl (by omega) ?_ | refine j_i2l (q := 58) C dX11_put_57 rfl rfl ?_
        exact j_lret C E dX11_put_58 rfl rfl (eX_b (by unfold ePut; rw [if_pos hss, if_neg c_21, if_neg (jb_0.mp c_48)]; rfl) (by decide))
    · refine j_aload_n (q := 25) C dX11_put_24 rfl rfl rfl ?_
      refine j_ldc_w (q := 28) C dX11_put_25 rfl kw_1234 ?_
      refine jV1 jc11 (q := 31) C dX11_put_28 rfl hR.1.1 mX11_finding kw_904 kw_905 kw_28 (ctX11_finding hR) rfl rfl (by decide) (Nat.le_of_ble_eq_true rfl) (by decide) ?_
      first | refine j_i2lN (q := 32) C dX11_put_31 rfl (by omega) ?_ | refine j_i2l (q := 32) C dX11_put_31 rfl rfl ?_
      exact j_lret C E dX11_put_32 rfl rfl (eX_b (by unfold ePut; rw [if_pos hss, if_pos c_21]; rfl) (by decide))
  · refine j_aload_n (q := 8) C dX11_put_7 rfl rfl rfl ?_
    refine j_ldc (q := 10) C dX11_put_8 rfl kw_903 ?_
    refine jV1 jc11 (q := 13) C dX11_put_10 rfl hR.1.1 mX11_finding kw_904 kw_905 kw_28 (ctX11_finding hR) rfl rfl (by decide) (Nat.le_of_ble_eq_true rfl) (by decide) ?_
    first | refine j_i2lN (q := 14) C dX11_put_13 rfl (by omega) ?_ | refine j_i2l (q := 14) C dX11_put_13 rfl rfl ?_
    exact j_lret C E dX11_put_14 rfl rfl (eX_b (if_neg (jb_0.mp c_4)) (by decide))

set_option maxRecDepth 100000 in
set_option maxHeartbeats 4000000 in
theorem ctX11_image {G : jG} {sz : Nat} {Sh : jS} {M : jM} {o : Nat} {N : Nat → Int64} (hR : rLay o Sh M) : jC G yX11_image cX11_image 2 (Option.some FieldType.long) (jrm 1 0 0) sz Sh (jw M (o + 1) N) [.ref o] (jT sz Sh (fun r M2 => r = some (.long (N 0)) ∧ ∃ Mx I, M2 = jw (jw Mx (o + 3) I) (o + 1) N ∧ mEq (fun b => b = o ∨ b = o + 5) M Mx ∧ (∀ j, j < 611 → I j = N j) ∧ (∀ j, j < 2856 → Mx.1 (o + 5) j = M.1 (o + 4) j) ∧ Mx.1 o 5 = nI 1 ∧ ∀ j, j ≠ 5 → Mx.1 o j = M.1 o j)) := by
  refine jC_start (by decide +kernel) (Nat.le_of_ble_eq_true rfl) (fun X C E hN0 => ?_)
  refine j_iconst (v := nI 0) (q := 1) C dX11_image_0 rfl (by decide) ?_
  refine j_istore_n (lv' := [(1, _), (0, _)]) (q := 2) C dX11_image_1 rfl rfl (by decide) rfl ?_
  have loop2 : ∀ (n1 k : Nat), k + n1 = 611 → jJ G X 0 0 sz Sh (jw (jw M (o + 3) (nCp N (M.2.1 (o + 3)) k)) (o + 1) N) 2 [(1, .int (nI k)), (0, .ref o)] [] := by
    intro n1
    induction n1 with
    | zero =>
      intro k  hk
      refine j_iload_n (q := 3) C dX11_image_2 rfl rfl rfl ?_
      refine j_sipush (v := nI 611) (q := 6) C dX11_image_3 rfl (by decide) ?_
      refine j_icmp_ge (q := 9) (tgt := 27) C dX11_image_6 rfl (by decide) (fun c_6 => ?_) (fun c_6 => absurd (nI_le (by omega) (by omega)) c_6)
      obtain rfl : k = 611 := by omega
      refine j_iconst (v := nI 0) (q := 28) C dX11_image_27 rfl (by decide) ?_
      refine j_istore_n (lv' := [(1, _), (0, _)]) (q := 29) C dX11_image_28 rfl rfl (by decide) rfl ?_
      have hR0 := hR
      have loop29 : ∀ (n k : Nat) (Mk : jM), mEq (fun b => b = o ∨ b = o + 5) M Mk → (∀ j, j < k → Mk.1 (o + 5) j = M.1 (o + 4) j) → Mk.1 o = M.1 o → k + n = 2856 → jJ G X 0 0 sz Sh (jw (jw Mk (o + 3) (nCp N (M.2.1 (o + 3)) 611)) (o + 1) N) 29 [(1, .int (nI k)), (0, .ref o)] [] := by
        intro n
        induction n with
        | zero =>
          intro k Mk hE h5 hO hk
          have hR : rLay o Sh Mk := by unfold rLay at hR0 ⊢; rw [hE.2.2]; exact hR0
          refine j_iload_n (q := 30) C dX11_image_29 rfl rfl rfl ?_
          refine j_aload_n (q := 31) C dX11_image_30 rfl rfl rfl ?_
          refine jg_Model_codes (q := 34) C dX11_image_31 rfl hR.1.1 kw_872 hR.2.2.2.2.1 ?_
          
          refine j_alen (q := 35) C dX11_image_34 rfl hR.1.2.2.2.2.1 (by decide) (t0 := 1) rfl ?_
          refine j_icmp_ge (q := 38) (tgt := 56) C dX11_image_35 rfl (by decide) (fun c_35 => ?_) (fun c_35 => absurd (nI_le (by omega) (by omega)) c_35)
          obtain rfl : k = 2856 := by omega
          refine j_aload_n (q := 57) C dX11_image_56 rfl rfl rfl ?_
          refine j_iconst (v := nI 1) (q := 58) C dX11_image_57 rfl (by decide) ?_
          refine jp_Model_hasImage (q := 61) C dX11_image_58 rfl hR.1.1 kw_874 (by exact Or.inr rfl) ?_
          show jJ G X 0 0 sz Sh (jw (jw (jsI Mk o 5 (nI 1)) (o + 3) (nCp N (M.2.1 (o + 3)) 611)) (o + 1) N) 61 _ _
          refine j_aload_n (q := 62) C dX11_image_61 rfl rfl rfl ?_
          refine jg_Model_now (q := 65) C dX11_image_62 rfl hR.1.1 kw_869 hR.2.1 ?_
          refine j_iconst (v := nI 0) (q := 66) C dX11_image_65 rfl (by decide) ?_
          refine j_laldW (q := 67) C dX11_image_66 rfl hR.1.2.1 (by omega) (by decide) ?_
          exact j_lret C E dX11_image_67 rfl rfl (⟨rfl, rfl, rfl, jsI Mk o 5 (nI 1), _, rfl, hE.I (Or.inl rfl), fun j hj => if_pos hj, (fun j hj => by rw [upI (by omega)]; exact h5 j (by omega)), upIs, (fun j hj => upI (fun e => hj e.2) |>.trans (congrFun hO j))⟩)
        | succ n ih =>
          intro k Mk hE h5 hO hk
          have hR : rLay o Sh Mk := by unfold rLay at hR0 ⊢; rw [hE.2.2]; exact hR0
          refine j_iload_n (q := 30) C dX11_image_29 rfl rfl rfl ?_
          refine j_aload_n (q := 31) C dX11_image_30 rfl rfl rfl ?_
          refine jg_Model_codes (q := 34) C dX11_image_31 rfl hR.1.1 kw_872 hR.2.2.2.2.1 ?_
          refine j_alen (q := 35) C dX11_image_34 rfl hR.1.2.2.2.2.1 (by decide) (t0 := 1) rfl ?_
          refine j_icmp_ge (q := 38) (tgt := 56) C dX11_image_35 rfl (by decide) (fun c_35 => absurd c_35 (fun h => absurd ((nI_leI (by omega) (by omega)).mp h) (by omega))) (fun c_35 => ?_)
          refine j_aload_n (q := 39) C dX11_image_38 rfl rfl rfl ?_
          refine jg_Model_imageCodes (q := 42) C dX11_image_39 rfl hR.1.1 kw_873 hR.2.2.2.2.2.1 ?_
          refine j_iload_n (q := 43) C dX11_image_42 rfl rfl rfl ?_
          refine j_aload_n (q := 44) C dX11_image_43 rfl rfl rfl ?_
          refine jg_Model_codes (q := 47) C dX11_image_44 rfl hR.1.1 kw_872 hR.2.2.2.2.1 ?_
          refine j_iload_n (q := 48) C dX11_image_47 rfl rfl rfl ?_
          refine j_iald (q := 49) C dX11_image_48 rfl hR.1.2.2.2.2.1 (by omega) (by decide) ?_
          refine j_iast (q := 50) C dX11_image_49 rfl hR.1.2.2.2.2.2.1 (by omega) (by decide) ?_
          first | refine j_iincN (lv' := [(1, _), (0, _)]) (q := 53) C dX11_image_50 rfl rfl (by decide) rfl ?_ | refine j_iinc (lv' := [(1, _), (0, _)]) (q := 53) C dX11_image_50 rfl rfl rfl (by decide) rfl ?_
          refine j_goto (tgt := 29) C dX11_image_53 (by decide) ?_
          exact j_fewer (lv' := [(1, .int (nI (k + 1))), (0, .ref o)]) (by simp) (ih (k + 1) (jsI Mk (o + 5) k (Mk.1 (o + 4) k)) (hE.I (Or.inr rfl)) (fun j hj => by
            by_cases cj : j = k
            · subst cj; rw [upIs]; exact congrFun (hE.1 _ (by omega)) _
            · rw [upI (fun e => cj e.2)]; exact h5 j (by omega)) (by rw [← hO]; exact jup_ne (by omega)) (by omega))
      exact j_fewer (lv' := [(1, .int (nI 0)), (0, .ref o)]) (by simp) (loop29 2856 0 M mEq.rf (fun j hj => absurd hj (by omega)) rfl (by omega))
    | succ n1 ih1 =>
      intro k  hk
      refine j_iload_n (q := 3) C dX11_image_2 rfl rfl rfl ?_
      refine j_sipush (v := nI 611) (q := 6) C dX11_image_3 rfl (by decide) ?_
      refine j_icmp_ge (q := 9) (tgt := 27) C dX11_image_6 rfl (by decide) (fun c_6 => absurd c_6 (fun h => absurd ((nI_leI (by omega) (by omega)).mp h) (by omega))) (fun c_6 => ?_)
      refine j_aload_n (q := 10) C dX11_image_9 rfl rfl rfl ?_
      refine jg_Model_image (q := 13) C dX11_image_10 rfl hR.1.1 kw_871 hR.2.2.2.1 ?_
      refine j_iload_n (q := 14) C dX11_image_13 rfl rfl rfl ?_
      refine j_aload_n (q := 15) C dX11_image_14 rfl rfl rfl ?_
      refine jg_Model_now (q := 18) C dX11_image_15 rfl hR.1.1 kw_869 hR.2.1 ?_
      refine j_iload_n (q := 19) C dX11_image_18 rfl rfl rfl ?_
      refine j_laldW (q := 20) C dX11_image_19 rfl hR.1.2.1 (by omega) (by decide) ?_
      refine j_last2 (show o + 3 ≠ o + 1 by omega) (q := 21) C dX11_image_20 rfl hR.1.2.2.2.1 (by omega) (by decide) ?_
      first | refine j_iincN (lv' := [(1, _), (0, _)]) (q := 24) C dX11_image_21 rfl rfl (by decide) rfl ?_ | refine j_iinc (lv' := [(1, _), (0, _)]) (q := 24) C dX11_image_21 rfl rfl rfl (by decide) rfl ?_
      refine j_goto (tgt := 2) C dX11_image_24 (by decide) ?_
      rw [nCp_s]
      exact j_fewer (lv' := [(1, .int (nI (k + 1))), (0, .ref o)]) (by simp) (ih1 (k + 1) (by omega))
  have h0 := loop2 611 0 (by omega)
  rw [nCp_0, jw_self] at h0
  exact h0

def rRest (o : Nat) (M : jM) (N : Nat → Int64) : Option Value → jM → Prop := fun r M2 => if M.1 o 5 = 0 then r = some (.long (-100006)) ∧ M2 = jw (rBad o M) (o + 1) N else r = some (.long (M.2.1 (o + 3) 0)) ∧ ∃ Mx I, M2 = jw Mx (o + 1) I ∧ mEq (fun b => b = o + 4) M Mx ∧ (∀ j, j < 611 → I j = M.2.1 (o + 3) j) ∧ ∀ j, j < 2856 → Mx.1 (o + 4) j = M.1 (o + 5) j
set_option maxRecDepth 100000 in
set_option maxHeartbeats 4000000 in
theorem ctX11_restore {G : jG} {sz : Nat} {Sh : jS} {M : jM} {o : Nat} {N : Nat → Int64} (hR : rLay o Sh M) : jC G yX11_restore cX11_restore 2 (Option.some FieldType.long) (jrm 2 0 0) sz Sh (jw M (o + 1) N) [.ref o] (jT sz Sh (rRest o M N)) := by
  refine jC_start (by decide +kernel) (Nat.le_of_ble_eq_true rfl) (fun X C E hN0 => ?_)
  refine j_aload_n (q := 1) C dX11_restore_0 rfl rfl rfl ?_
  refine jg_Model_hasImage (q := 4) C dX11_restore_1 rfl hR.1.1 kw_874 ?_
  refine j_if_ne (q := 7) (tgt := 15) C dX11_restore_4 rfl (by decide) (fun c_4 => ?_) (fun c_4 => ?_)
  · refine j_iconst (v := nI 0) (q := 16) C dX11_restore_15 rfl (by decide) ?_
    refine j_istore_n (lv' := [(1, _), (0, _)]) (q := 17) C dX11_restore_16 rfl rfl (by decide) rfl ?_
    have loop17 : ∀ (n1 k : Nat), k + n1 = 611 → jJ G X 0 0 sz Sh (jw M (o + 1) (nCp (M.2.1 (o + 3)) N k)) 17 [(1, .int (nI k)), (0, .ref o)] [] := by
      intro n1
      induction n1 with
      | zero =>
        intro k  hk
        refine j_iload_n (q := 18) C dX11_restore_17 rfl rfl rfl ?_
        refine j_sipush (v := nI 611) (q := 21) C dX11_restore_18 rfl (by decide) ?_
        refine j_icmp_ge (q := 24) (tgt := 42) C dX11_restore_21 rfl (by decide) (fun c_21 => ?_) (fun c_21 => absurd (nI_le (by omega) (by omega)) c_21)
        obtain rfl : k = 611 := by omega
        refine j_iconst (v := nI 0) (q := 43) C dX11_restore_42 rfl (by decide) ?_
        refine j_istore_n (lv' := [(1, _), (0, _)]) (q := 44) C dX11_restore_43 rfl rfl (by decide) rfl ?_
        have hR0 := hR
        have loop44 : ∀ (n k : Nat) (Mk : jM), mEq (fun b => b = o + 4) M Mk → (∀ j, j < k → Mk.1 (o + 4) j = M.1 (o + 5) j) → k + n = 2856 → jJ G X 0 0 sz Sh (jw Mk (o + 1) (nCp (M.2.1 (o + 3)) N 611)) 44 [(1, .int (nI k)), (0, .ref o)] [] := by
          intro n
          induction n with
          | zero =>
            intro k Mk hE h5 hk
            have hR : rLay o Sh Mk := by unfold rLay at hR0 ⊢; rw [hE.2.2]; exact hR0
            refine j_iload_n (q := 45) C dX11_restore_44 rfl rfl rfl ?_
            refine j_aload_n (q := 46) C dX11_restore_45 rfl rfl rfl ?_
            refine jg_Model_codes (q := 49) C dX11_restore_46 rfl hR.1.1 kw_872 hR.2.2.2.2.1 ?_
            refine j_alen (q := 50) C dX11_restore_49 rfl hR.1.2.2.2.2.1 (by decide) (t0 := 1) rfl ?_
            refine j_icmp_ge (q := 53) (tgt := 71) C dX11_restore_50 rfl (by decide) (fun c_50 => ?_) (fun c_50 => absurd (nI_le (by omega) (by omega)) c_50)
            obtain rfl : k = 2856 := by omega
            refine j_aload_n (q := 72) C dX11_restore_71 rfl rfl rfl ?_
            refine jg_Model_now (q := 75) C dX11_restore_72 rfl hR.1.1 kw_869 hR.2.1 ?_
            refine j_iconst (v := nI 0) (q := 76) C dX11_restore_75 rfl (by decide) ?_
            refine j_laldW (q := 77) C dX11_restore_76 rfl hR.1.2.1 (by omega) (by decide) ?_
            exact j_lret C E dX11_restore_77 rfl rfl (by
                  refine ⟨rfl, rfl, ?_⟩
                  unfold rRest
                  rw [if_neg (show ¬ M.1 o 5 = 0 from c_4)]
                  exact ⟨rfl, Mk, _, rfl, hE, (fun j hj => if_pos hj), h5⟩)
          | succ n ih =>
            intro k Mk hE h5 hk
            have hR : rLay o Sh Mk := by unfold rLay at hR0 ⊢; rw [hE.2.2]; exact hR0
            refine j_iload_n (q := 45) C dX11_restore_44 rfl rfl rfl ?_
            refine j_aload_n (q := 46) C dX11_restore_45 rfl rfl rfl ?_
            refine jg_Model_codes (q := 49) C dX11_restore_46 rfl hR.1.1 kw_872 hR.2.2.2.2.1 ?_
            refine j_alen (q := 50) C dX11_restore_49 rfl hR.1.2.2.2.2.1 (by decide) (t0 := 1) rfl ?_
            refine j_icmp_ge (q := 53) (tgt := 71) C dX11_restore_50 rfl (by decide) (fun c_50 => absurd c_50 (fun h => absurd ((nI_leI (by omega) (by omega)).mp h) (by omega))) (fun c_50 => ?_)
            refine j_aload_n (q := 54) C dX11_restore_53 rfl rfl rfl ?_
            refine jg_Model_codes (q := 57) C dX11_restore_54 rfl hR.1.1 kw_872 hR.2.2.2.2.1 ?_
            refine j_iload_n (q := 58) C dX11_restore_57 rfl rfl rfl ?_
            refine j_aload_n (q := 59) C dX11_restore_58 rfl rfl rfl ?_
            refine jg_Model_imageCodes (q := 62) C dX11_restore_59 rfl hR.1.1 kw_873 hR.2.2.2.2.2.1 ?_
            refine j_iload_n (q := 63) C dX11_restore_62 rfl rfl rfl ?_
            refine j_iald (q := 64) C dX11_restore_63 rfl hR.1.2.2.2.2.2.1 (by omega) (by decide) ?_
            refine j_iast (q := 65) C dX11_restore_64 rfl hR.1.2.2.2.2.1 (by omega) (by decide) ?_
            first | refine j_iincN (lv' := [(1, _), (0, _)]) (q := 68) C dX11_restore_65 rfl rfl (by decide) rfl ?_ | refine j_iinc (lv' := [(1, _), (0, _)]) (q := 68) C dX11_restore_65 rfl rfl rfl (by decide) rfl ?_
            refine j_goto (tgt := 44) C dX11_restore_68 (by decide) ?_
            exact j_fewer (lv' := [(1, .int (nI (k + 1))), (0, .ref o)]) (by simp) (ih (k + 1) (jsI Mk (o + 4) k (Mk.1 (o + 5) k)) (hE.I rfl) (fun j hj => by
              by_cases cj : j = k
              · subst cj; rw [upIs]; exact congrFun (hE.1 _ (by omega)) _
              · rw [upI (fun e => cj e.2)]; exact h5 j (by omega)) (by omega))
        exact j_fewer (lv' := [(1, .int (nI 0)), (0, .ref o)]) (by simp) (loop44 2856 0 M mEq.rf (fun j hj => absurd hj (by omega)) (by omega))
      | succ n1 ih1 =>
        intro k  hk
        refine j_iload_n (q := 18) C dX11_restore_17 rfl rfl rfl ?_
        refine j_sipush (v := nI 611) (q := 21) C dX11_restore_18 rfl (by decide) ?_
        refine j_icmp_ge (q := 24) (tgt := 42) C dX11_restore_21 rfl (by decide) (fun c_21 => absurd c_21 (fun h => absurd ((nI_leI (by omega) (by omega)).mp h) (by omega))) (fun c_21 => ?_)
        refine j_aload_n (q := 25) C dX11_restore_24 rfl rfl rfl ?_
        refine jg_Model_now (q := 28) C dX11_restore_25 rfl hR.1.1 kw_869 hR.2.1 ?_
        refine j_iload_n (q := 29) C dX11_restore_28 rfl rfl rfl ?_
        refine j_aload_n (q := 30) C dX11_restore_29 rfl rfl rfl ?_
        refine jg_Model_image (q := 33) C dX11_restore_30 rfl hR.1.1 kw_871 hR.2.2.2.1 ?_
        refine j_iload_n (q := 34) C dX11_restore_33 rfl rfl rfl ?_
        refine j_laldO (show o + 3 ≠ o + 1 by omega) (q := 35) C dX11_restore_34 rfl hR.1.2.2.2.1 (by omega) (by decide) ?_
        refine j_lastW (q := 36) C dX11_restore_35 rfl hR.1.2.1 (by omega) (by decide) ?_
        first | refine j_iincN (lv' := [(1, _), (0, _)]) (q := 39) C dX11_restore_36 rfl rfl (by decide) rfl ?_ | refine j_iinc (lv' := [(1, _), (0, _)]) (q := 39) C dX11_restore_36 rfl rfl rfl (by decide) rfl ?_
        refine j_goto (tgt := 17) C dX11_restore_39 (by decide) ?_
        rw [nCp_s]
        exact j_fewer (lv' := [(1, .int (nI (k + 1))), (0, .ref o)]) (by simp) (ih1 (k + 1) (by omega))
    have h0 := loop17 611 0 (by omega)
    rw [nCp_0] at h0
    exact h0
  · refine j_aload_n (q := 8) C dX11_restore_7 rfl rfl rfl ?_
    refine j_ldc (q := 10) C dX11_restore_8 rfl kw_990 ?_
    refine jV1 jc11 (q := 13) C dX11_restore_10 rfl hR.1.1 mX11_finding kw_904 kw_905 kw_28 (ctX11_finding hR) rfl rfl (by decide) (Nat.le_of_ble_eq_true rfl) (by decide) ?_
    first | refine j_i2lN (q := 14) C dX11_restore_13 rfl (by omega) ?_ | refine j_i2l (q := 14) C dX11_restore_13 rfl rfl ?_
    exact j_lret C E dX11_restore_14 rfl rfl (⟨rfl, rfl, by unfold rRest; rw [if_pos (show M.1 o 5 = 0 from c_4)]; exact ⟨rfl, rfl⟩⟩)

set_option maxRecDepth 100000 in
set_option maxHeartbeats 4000000 in
theorem ctX11_force {G : jG} {sz : Nat} {Sh : jS} {M : jM} {o : Nat} {N : Nat → Int64} (hR : rLay o Sh M) {la : Nat} (h6 : N 6 = lN la) (hla : la ≤ 12) {t c e : Int32} : jC G yX11_force cX11_force 6 (Option.some FieldType.long) (jrm 2 0 0) sz Sh (jw M (o + 1) N) [.ref o, .int t, .int c, .int e] (jT sz Sh (eX o M N (eForce N t c e) (fun r M2 => r = some (.long (lN la)) ∧ ∃ Mx, M2 = jw Mx (o + 1) (nForce N la c.toInt64 e.toInt64) ∧ mEq (fun b => b = o + 4) M Mx ∧ ∀ j, Mx.1 (o + 4) j = if 168 * (5 + la) ≤ j ∧ j < 168 * (5 + la) + 168 then M.1 (o + 4) (168 * t.toNatClampNeg + (j - 168 * (5 + la))) else M.1 (o + 4) j))) := by
  refine jC_start (by decide +kernel) (Nat.le_of_ble_eq_true rfl) (fun X C E hN0 => ?_)
  refine j_iload_n (q := 1) C dX11_force_0 rfl rfl rfl ?_
  first | refine j_i2lN (q := 2) C dX11_force_1 rfl (by omega) ?_ | refine j_i2l (q := 2) C dX11_force_1 rfl rfl ?_
  refine j_lconst (v := 0) (q := 3) C dX11_force_2 rfl (by decide) ?_
  refine j_ldc2 (q := 6) C dX11_force_3 rfl kw_948 ?_
  refine jS1 (q := 9) C dX11_force_6 rfl mX11_within kw_898 kw_899 (ctX11_within) rfl rfl (by decide) (Nat.le_of_ble_eq_true rfl) (by decide) ?_
  refine j_if_eq (q := 12) (tgt := 34) C dX11_force_9 rfl (by decide) (fun c_9 => ?_) (fun c_9 => ?_)
  · refine j_aload_n (q := 35) C dX11_force_34 rfl rfl rfl ?_
    refine j_ldc (q := 37) C dX11_force_35 rfl kw_903 ?_
    refine jV1 jc11 (q := 40) C dX11_force_37 rfl hR.1.1 mX11_finding kw_904 kw_905 kw_28 (ctX11_finding hR) rfl rfl (by decide) (Nat.le_of_ble_eq_true rfl) (by decide) ?_
    first | refine j_i2lN (q := 41) C dX11_force_40 rfl (by omega) ?_ | refine j_i2l (q := 41) C dX11_force_40 rfl rfl ?_
    exact j_lret C E dX11_force_41 rfl rfl (eX_b (if_neg (fun h => jb_0.mp c_9 h.1)) (by decide))
  · refine j_iload_n (q := 13) C dX11_force_12 rfl rfl rfl ?_
    first | refine j_i2lN (q := 14) C dX11_force_13 rfl (by omega) ?_ | refine j_i2l (q := 14) C dX11_force_13 rfl rfl ?_
    refine j_lconst (v := 0) (q := 15) C dX11_force_14 rfl (by decide) ?_
    refine j_lconst (v := 1) (q := 16) C dX11_force_15 rfl (by decide) ?_
    refine jS1 (q := 19) C dX11_force_16 rfl mX11_within kw_898 kw_899 (ctX11_within) rfl rfl (by decide) (Nat.le_of_ble_eq_true rfl) (by decide) ?_
    refine j_if_eq (q := 22) (tgt := 34) C dX11_force_19 rfl (by decide) (fun c_19 => ?_) (fun c_19 => ?_)
    · refine j_aload_n (q := 35) C dX11_force_34 rfl rfl rfl ?_
      refine j_ldc (q := 37) C dX11_force_35 rfl kw_903 ?_
      refine jV1 jc11 (q := 40) C dX11_force_37 rfl hR.1.1 mX11_finding kw_904 kw_905 kw_28 (ctX11_finding hR) rfl rfl (by decide) (Nat.le_of_ble_eq_true rfl) (by decide) ?_
      first | refine j_i2lN (q := 41) C dX11_force_40 rfl (by omega) ?_ | refine j_i2l (q := 41) C dX11_force_40 rfl rfl ?_
      exact j_lret C E dX11_force_41 rfl rfl (eX_b (if_neg (fun h => jb_0.mp c_19 h.2.1)) (by decide))
    · refine j_iload_n (q := 23) C dX11_force_22 rfl rfl rfl ?_
      first | refine j_i2lN (q := 24) C dX11_force_23 rfl (by omega) ?_ | refine j_i2l (q := 24) C dX11_force_23 rfl rfl ?_
      refine j_lconst (v := 0) (q := 25) C dX11_force_24 rfl (by decide) ?_
      refine j_ldc2 (q := 28) C dX11_force_25 rfl kw_935 ?_
      refine jS1 (q := 31) C dX11_force_28 rfl mX11_within kw_898 kw_899 (ctX11_within) rfl rfl (by decide) (Nat.le_of_ble_eq_true rfl) (by decide) ?_
      refine j_if_ne (q := 34) (tgt := 42) C dX11_force_31 rfl (by decide) (fun c_31 => ?_) (fun c_31 => ?_)
      · have htt : okW t 4 := jb_n.mp c_9
        obtain ⟨t, ht, rfl⟩ := jix2 (by omega) htt.1 htt.2
        have eT : (nI t).toNatClampNeg = t := nI_clamp (by omega)
        refine j_aload_n (q := 43) C dX11_force_42 rfl rfl rfl ?_
        refine jg_Model_now (q := 46) C dX11_force_43 rfl hR.1.1 kw_869 hR.2.1 ?_
        refine j_sipush (v := nI 302) (q := 49) C dX11_force_46 rfl (by decide) ?_
        refine j_iload_n (q := 50) C dX11_force_49 rfl rfl rfl ?_
        first | refine j_iaddN (q := 51) C dX11_force_50 rfl ?_ | refine j_iadd (q := 51) C dX11_force_50 rfl ?_
        refine j_laldW (q := 52) C dX11_force_51 rfl hR.1.2.1 (by omega) (by decide) ?_
        refine j_lconst (v := 0) (q := 53) C dX11_force_52 rfl (by decide) ?_
        refine j_lcmp_ne (q1 := 54) (q := 57) (tgt := 65) C dX11_force_53 dX11_force_54 rfl rfl (by decide) (fun c_54 => ?_) (fun c_54 => ?_)
        · refine j_aload_n (q := 66) C dX11_force_65 rfl rfl rfl ?_
          refine jg_Model_now (q := 69) C dX11_force_66 rfl hR.1.1 kw_869 hR.2.1 ?_
          refine j_bipush (v := nI 6) (q := 71) C dX11_force_69 rfl (by decide) ?_
          refine j_laldW (q := 72) C dX11_force_71 rfl hR.1.2.1 (by omega) (by decide) ?_
          rw [h6]
          first | refine j_l2iN (q := 73) C dX11_force_72 rfl ?_ | refine j_l2i (q := 73) C dX11_force_72 rfl rfl ?_
          refine j_istore (lv' := [(4, _), (0, _), (1, _), (2, _), (3, _)]) (q := 75) C dX11_force_73 rfl (by decide) rfl ?_
          refine j_iload (q := 77) C dX11_force_75 rfl rfl ?_
          refine j_bipush (v := nI 12) (q := 79) C dX11_force_77 rfl (by decide) ?_
          refine j_icmp_ne (q := 82) (tgt := 90) C dX11_force_79 rfl (by decide) (fun c_79 => ?_) (fun c_79 => ?_)
          · refine j_aload_n (q := 91) C dX11_force_90 rfl rfl rfl ?_
            refine jg_Model_now (q := 94) C dX11_force_91 rfl hR.1.1 kw_869 hR.2.1 ?_
            refine j_sipush (v := nI 278) (q := 97) C dX11_force_94 rfl (by decide) ?_
            refine j_iconst (v := nI 2) (q := 98) C dX11_force_97 rfl (by decide) ?_
            refine j_iload (q := 100) C dX11_force_98 rfl rfl ?_
            first | refine j_imulN (q := 101) C dX11_force_100 rfl ?_ | refine j_imul (q := 101) C dX11_force_100 rfl ?_
            first | refine j_iaddN (q := 102) C dX11_force_101 rfl ?_ | refine j_iadd (q := 102) C dX11_force_101 rfl ?_
            refine j_iload_n (q := 103) C dX11_force_102 rfl rfl rfl ?_
            first | refine j_i2lN (q := 104) C dX11_force_103 rfl (by omega) ?_ | refine j_i2l (q := 104) C dX11_force_103 rfl rfl ?_
            refine j_lastW (q := 105) C dX11_force_104 rfl hR.1.2.1 (by omega) (by decide) ?_
            refine j_aload_n (q := 106) C dX11_force_105 rfl rfl rfl ?_
            refine jg_Model_now (q := 109) C dX11_force_106 rfl hR.1.1 kw_869 hR.2.1 ?_
            refine j_sipush (v := nI 278) (q := 112) C dX11_force_109 rfl (by decide) ?_
            refine j_iconst (v := nI 2) (q := 113) C dX11_force_112 rfl (by decide) ?_
            refine j_iload (q := 115) C dX11_force_113 rfl rfl ?_
            first | refine j_imulN (q := 116) C dX11_force_115 rfl ?_ | refine j_imul (q := 116) C dX11_force_115 rfl ?_
            first | refine j_iaddN (q := 117) C dX11_force_116 rfl ?_ | refine j_iadd (q := 117) C dX11_force_116 rfl ?_
            refine j_iconst (v := nI 1) (q := 118) C dX11_force_117 rfl (by decide) ?_
            first | refine j_iaddN (q := 119) C dX11_force_118 rfl ?_ | refine j_iadd (q := 119) C dX11_force_118 rfl ?_
            refine j_iload_n (q := 120) C dX11_force_119 rfl rfl rfl ?_
            first | refine j_i2lN (q := 121) C dX11_force_120 rfl (by omega) ?_ | refine j_i2l (q := 121) C dX11_force_120 rfl rfl ?_
            refine j_lastW (q := 122) C dX11_force_121 rfl hR.1.2.1 (by omega) (by decide) ?_
            refine j_iconst (v := nI 0) (q := 123) C dX11_force_122 rfl (by decide) ?_
            refine j_istore (lv' := [(5, _), (4, _), (0, _), (1, _), (2, _), (3, _)]) (q := 125) C dX11_force_123 rfl (by decide) rfl ?_
            have hes : eForce N (nI t) c e = 0 := by unfold eForce; rw [if_pos (show okW (nI t) 4 ∧ okW c 1 ∧ okW e 300 from ⟨htt, jb_n.mp c_19, jb_n.mp c_31⟩), eT, if_neg c_54, if_neg (fun h => c_79 (by rw [show la = 12 from (lN_eq (by omega) (by omega)).mp (h6.symm.trans h)]))]
            have hl12 : la < 12 := by
              rcases Nat.lt_or_ge la 12 with h | h
              · exact h
              · exact absurd (by rw [show la = 12 by omega]) c_79
            have hR0 := hR
            have loop125 : ∀ (n k : Nat) (Mk : jM), mEq (fun b => b = o + 4) M Mk → (∀ j, Mk.1 (o + 4) j = if 168 * (5 + la) ≤ j ∧ j < 168 * (5 + la) + k then M.1 (o + 4) (168 * t + (j - 168 * (5 + la))) else M.1 (o + 4) j) → k + n = 168 → jJ G X 0 0 sz Sh (jw Mk (o + 1) (va_up (va_up N (278 + 2 * la) c.toInt64) (278 + 2 * la + 1) e.toInt64)) 125 [(5, .int (nI k)), (4, .int (nI la)), (0, .ref o), (1, .int (nI t)), (2, .int c), (3, .int e)] [] := by
              intro n
              induction n with
              | zero =>
                intro k Mk hE h4 hk
                have hR : rLay o Sh Mk := by unfold rLay at hR0 ⊢; rw [hE.2.2]; exact hR0
                refine j_iload (q := 127) C dX11_force_125 rfl rfl ?_
                refine j_sipush (v := nI 168) (q := 130) C dX11_force_127 rfl (by decide) ?_
                refine j_icmp_ge (q := 133) (tgt := 168) C dX11_force_130 rfl (by decide) (fun c_130 => ?_) (fun c_130 => absurd (nI_le (by omega) (by omega)) c_130)
                obtain rfl : k = 168 := by omega
                refine j_aload_n (q := 169) C dX11_force_168 rfl rfl rfl ?_
                refine jg_Model_now (q := 172) C dX11_force_169 rfl hR.1.1 kw_869 hR.2.1 ?_
                refine j_bipush (v := nI 6) (q := 174) C dX11_force_172 rfl (by decide) ?_
                refine j_dup2_11 (q := 175) C dX11_force_174 rfl rfl rfl ?_
                refine j_laldW (q := 176) C dX11_force_175 rfl hR.1.2.1 (by omega) (by decide) ?_
                refine j_lconst (v := 1) (q := 177) C dX11_force_176 rfl (by decide) ?_
                refine j_ladd (q := 178) C dX11_force_177 rfl ?_
                refine j_lastW (q := 179) C dX11_force_178 rfl hR.1.2.1 (by omega) (by decide) ?_
                refine j_iload (q := 181) C dX11_force_179 rfl rfl ?_
                first | refine j_i2lN (q := 182) C dX11_force_181 rfl (by omega) ?_ | refine j_i2l (q := 182) C dX11_force_181 rfl rfl ?_
                exact j_lret C E dX11_force_182 rfl rfl (eX_o hes ⟨rfl, Mk, rfl, hE, by rw [eT]; exact h4⟩)
              | succ n ih =>
                intro k Mk hE h4 hk
                have hR : rLay o Sh Mk := by unfold rLay at hR0 ⊢; rw [hE.2.2]; exact hR0
                refine j_iload (q := 127) C dX11_force_125 rfl rfl ?_
                refine j_sipush (v := nI 168) (q := 130) C dX11_force_127 rfl (by decide) ?_
                refine j_icmp_ge (q := 133) (tgt := 168) C dX11_force_130 rfl (by decide) (fun c_130 => absurd c_130 (fun h => absurd ((nI_leI (by omega) (by omega)).mp h) (by omega))) (fun c_130 => ?_)
                refine j_aload_n (q := 134) C dX11_force_133 rfl rfl rfl ?_
                refine jg_Model_codes (q := 137) C dX11_force_134 rfl hR.1.1 kw_872 hR.2.2.2.2.1 ?_
                refine j_sipush (v := nI 168) (q := 140) C dX11_force_137 rfl (by decide) ?_
                refine j_iconst (v := nI 5) (q := 141) C dX11_force_140 rfl (by decide) ?_
                refine j_iload (q := 143) C dX11_force_141 rfl rfl ?_
                first | refine j_iaddN (q := 144) C dX11_force_143 rfl ?_ | refine j_iadd (q := 144) C dX11_force_143 rfl ?_
                first | refine j_imulN (q := 145) C dX11_force_144 rfl ?_ | refine j_imul (q := 145) C dX11_force_144 rfl ?_
                refine j_iload (q := 147) C dX11_force_145 rfl rfl ?_
                first | refine j_iaddN (q := 148) C dX11_force_147 rfl ?_ | refine j_iadd (q := 148) C dX11_force_147 rfl ?_
                refine j_aload_n (q := 149) C dX11_force_148 rfl rfl rfl ?_
                refine jg_Model_codes (q := 152) C dX11_force_149 rfl hR.1.1 kw_872 hR.2.2.2.2.1 ?_
                refine j_sipush (v := nI 168) (q := 155) C dX11_force_152 rfl (by decide) ?_
                refine j_iload_n (q := 156) C dX11_force_155 rfl rfl rfl ?_
                first | refine j_imulN (q := 157) C dX11_force_156 rfl ?_ | refine j_imul (q := 157) C dX11_force_156 rfl ?_
                refine j_iload (q := 159) C dX11_force_157 rfl rfl ?_
                first | refine j_iaddN (q := 160) C dX11_force_159 rfl ?_ | refine j_iadd (q := 160) C dX11_force_159 rfl ?_
                refine j_iald (q := 161) C dX11_force_160 rfl hR.1.2.2.2.2.1 (show 168 * t + k < 2856 by omega) (by decide) ?_
                refine j_iast (q := 162) C dX11_force_161 rfl hR.1.2.2.2.2.1 (show 168 * (5 + la) + k < 2856 by omega) (by decide) ?_
                first | refine j_iincN (lv' := [(5, _), (4, _), (0, _), (1, _), (2, _), (3, _)]) (q := 165) C dX11_force_162 rfl rfl (by decide) rfl ?_ | refine j_iinc (lv' := [(5, _), (4, _), (0, _), (1, _), (2, _), (3, _)]) (q := 165) C dX11_force_162 rfl rfl rfl (by decide) rfl ?_
                refine j_goto (tgt := 125) C dX11_force_165 (by decide) ?_
                exact j_fewer (lv' := [(5, .int (nI (k + 1))), (4, .int (nI la)), (0, .ref o), (1, .int (nI t)), (2, .int c), (3, .int e)]) (by simp) (ih (k + 1) (jsI Mk (o + 4) (168 * (5 + la) + k) (Mk.1 (o + 4) (168 * t + k))) (hE.I rfl) (fun j => by
                  by_cases cj : j = 168 * (5 + la) + k
                  · subst cj; rw [upIs, if_pos (by omega), show 168 * (5 + la) + k - 168 * (5 + la) = k by omega]; rw [h4 (168 * t + k), if_neg (by omega)]
                  · rw [upI (fun e => cj e.2), h4 j]
                    by_cases c1 : 168 * (5 + la) ≤ j ∧ j < 168 * (5 + la) + k
                    · rw [if_pos c1, if_pos (by omega)]
                    · rw [if_neg c1, if_neg (by omega)]) (by omega))
            exact j_fewer (lv' := [(5, .int (nI 0)), (4, .int (nI la)), (0, .ref o), (1, .int (nI t)), (2, .int c), (3, .int e)]) (by simp) (loop125 168 0 M mEq.rf (fun j => by rw [if_neg (by omega)]) (by omega))
          · refine j_aload_n (q := 83) C dX11_force_82 rfl rfl rfl ?_
            refine j_ldc (q := 85) C dX11_force_83 rfl kw_907 ?_
            refine jV1 jc11 (q := 88) C dX11_force_85 rfl hR.1.1 mX11_finding kw_904 kw_905 kw_28 (ctX11_finding hR) rfl rfl (by decide) (Nat.le_of_ble_eq_true rfl) (by decide) ?_
            first | refine j_i2lN (q := 89) C dX11_force_88 rfl (by omega) ?_ | refine j_i2l (q := 89) C dX11_force_88 rfl rfl ?_
            exact j_lret C E dX11_force_89 rfl rfl (eX_b (by unfold eForce; rw [if_pos (show okW (nI t) 4 ∧ okW c 1 ∧ okW e 300 from ⟨htt, jb_n.mp c_19, jb_n.mp c_31⟩), eT, if_neg c_54, if_pos (show N 6 = 12 from by rw [h6, (nI_eq (by omega) (by omega)).mp c_79]; rfl)]; rfl) (by decide))
        · refine j_aload_n (q := 58) C dX11_force_57 rfl rfl rfl ?_
          refine j_ldc (q := 60) C dX11_force_58 rfl kw_990 ?_
          refine jV1 jc11 (q := 63) C dX11_force_60 rfl hR.1.1 mX11_finding kw_904 kw_905 kw_28 (ctX11_finding hR) rfl rfl (by decide) (Nat.le_of_ble_eq_true rfl) (by decide) ?_
          first | refine j_i2lN (q := 64) C dX11_force_63 rfl (by omega) ?_ | refine j_i2l (q := 64) C dX11_force_63 rfl rfl ?_
          exact j_lret C E dX11_force_64 rfl rfl (eX_b (by unfold eForce; rw [if_pos (show okW (nI t) 4 ∧ okW c 1 ∧ okW e 300 from ⟨htt, jb_n.mp c_19, jb_n.mp c_31⟩), eT, if_pos c_54]; rfl) (by decide))
      · refine j_aload_n (q := 35) C dX11_force_34 rfl rfl rfl ?_
        refine j_ldc (q := 37) C dX11_force_35 rfl kw_903 ?_
        refine jV1 jc11 (q := 40) C dX11_force_37 rfl hR.1.1 mX11_finding kw_904 kw_905 kw_28 (ctX11_finding hR) rfl rfl (by decide) (Nat.le_of_ble_eq_true rfl) (by decide) ?_
        first | refine j_i2lN (q := 41) C dX11_force_40 rfl (by omega) ?_ | refine j_i2l (q := 41) C dX11_force_40 rfl rfl ?_
        exact j_lret C E dX11_force_41 rfl rfl (eX_b (if_neg (fun h => jb_0.mp c_31 h.2.2)) (by decide))

