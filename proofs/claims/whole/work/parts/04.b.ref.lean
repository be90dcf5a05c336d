/-- an answer, whether it is a finding, and 'now' behind it -/
abbrev sA : Type := Int64 × Bool × (Nat → Int64)
def rB (o : Nat) (M : jM) (b : Bool) : jM := if b then rBad o M else M
def jPub (o sz : Nat) (Sh : jS) (M : jM) (s : sA) : Option Value → Nat → jS → jM → Prop := jR (some (.long s.1)) sz Sh (jw (rB o M s.2.1) (o + 1) s.2.2)
theorem jPub_o {o sz : Nat} {Sh : jS} {M : jM} {s : sA} {v : Int64} {N : Nat → Int64} (h : s = (v, false, N)) : jPub o sz Sh M s (some (.long v)) sz Sh (jw M (o + 1) N) := by subst h; exact ⟨rfl, rfl, rfl, rfl⟩
theorem jPub_b {o sz : Nat} {Sh : jS} {M : jM} {s : sA} {v : Int64} {N : Nat → Int64} (h : s = (v, true, N)) : jPub o sz Sh M s (some (.long v)) sz Sh (jw (rBad o M) (o + 1) N) := by subst h; exact ⟨rfl, rfl, rfl, rfl⟩
/-- zeros from b on, k of them -/
def nZ (N : Nat → Int64) (b k : Nat) : Nat → Int64 := fun j => if b ≤ j ∧ j < b + k then 0 else N j
theorem nZ_0 (N : Nat → Int64) (b : Nat) : nZ N b 0 = N := by funext j; simp only [nZ]; rw [if_neg (by omega)]
theorem nZ_s (N : Nat → Int64) (b k : Nat) : va_up (nZ N b k) (b + k) 0 = nZ N b (k + 1) := by
  funext j
  simp only [nZ, va_up]
  by_cases h : j = b + k
  · rw [if_pos h, if_pos (by omega)]
  · rw [if_neg h]
    by_cases h2 : b ≤ j ∧ j < b + k
    · rw [if_pos h2, if_pos (by omega)]
    · rw [if_neg h2, if_neg (by omega)]
abbrev okW (x : Int32) (n : Nat) : Prop := (0 : Int64) ≤ x.toInt64 ∧ x.toInt64 ≤ lN n
abbrev okP (N : Nat → Int64) (p : Int32) : Prop := (0 : Int64) ≤ p.toInt64 ∧ p.toInt64 ≤ N 4 - 1
abbrev okQ (N : Nat → Int64) (p : Int32) : Prop := (0 : Int64) ≤ p.toInt64 ∧ p.toInt64 ≤ N 5 - 1
def sGain (N : Nat → Int64) (p l : Int32) : sA := if okP N p then (N (10 + 10 * p.toNatClampNeg + (if l = 0 then 8 else 9)), false, N) else (-100001, true, N)
def sPaperIs (N : Nat → Int64) (q w : Int32) : sA := if okQ N q ∧ okW w 6 then (N (110 + 7 * q.toNatClampNeg + w.toNatClampNeg), false, N) else (-100001, true, N)
def sAs (N : Nat → Int64) (q w : Int32) : sA := if okQ N q ∧ okW w 5 then (if w = 0 ∨ N (110 + 7 * q.toNatClampNeg) = w.toInt64 ∨ (w = nI 1 ∧ (2 : Int64) ≤ N (110 + 7 * q.toNatClampNeg) ∧ N (110 + 7 * q.toNatClampNeg) ≤ 4) then (q.toInt64, false, N) else (-100004, true, N)) else (-100001, true, N)
def nPerson (N : Nat → Int64) (m l b : Int64) : Nat → Int64 := let h := 10 + 10 * (N 4).toNatClampNeg
  let N1 := va_up (va_up (va_up (va_up (va_up (nZ N h 10) (h + 0) m) (h + 1) l) (h + 2) b) (h + 3) 5) (h + 4) 1000
  va_up N1 4 (N1 4 + 1)
def sPerson (N : Nat → Int64) (m : Int64) (l b : Int32) : sA := if ((0 : Int64) ≤ m ∧ m ≤ 1000000000000000) ∧ okW l 9999 ∧ okW b 99 then (if N 4 = 10 then (-100005, true, N) else (N 4, false, nPerson N m l.toInt64 b.toInt64)) else (-100001, true, N)
set_option maxRecDepth 100000 in
set_option maxHeartbeats 4000000 in
theorem ctX11_gain {G : jG} {sz : Nat} {Sh : jS} {M : jM} {o : Nat} {N : Nat → Int64} (hR : rLay o Sh M) {pe : Nat} (h4 : N 4 = lN pe) (hpe : pe ≤ 10) {p l : Int32} : jC G yX11_gain cX11_gain 3 (Option.some FieldType.long) (jrm 3 0 0) sz Sh (jw M (o + 1) N) [.ref o, .int p, .int l] (jPub o sz Sh M (sGain N p l)) := by
  refine jC_start (by decide +kernel) (Nat.le_of_ble_eq_true rfl) (fun X C E hN0 => ?_)
  refine j_aload_n (q := 1) C dX11_gain_0 rfl rfl rfl ?_
  refine j_iload_n (q := 2) C dX11_gain_1 rfl rfl rfl ?_
  first | refine j_i2lN (q := 3) C dX11_gain_2 rfl (by omega) ?_ | refine j_i2l (q := 3) C dX11_gain_2 rfl rfl ?_
  refine jV1 jc11 (q := 6) C dX11_gain_3 rfl hR.1.1 mX11_isPerson kw_917 kw_918 kw_29 (ctX11_isPerson hR) rfl rfl (by decide) (Nat.le_of_ble_eq_true rfl) (by decide) ?_
  refine j_if_ne (q := 9) (tgt := 19) C dX11_gain_6 rfl (by decide) (fun c_6 => ?_) (fun c_6 => ?_)
  · have e1 := jb_n.mp c_6
    rw [h4] at e1
    obtain ⟨i, hi, rfl⟩ := jix (by omega) e1.1 e1.2
    refine j_aload_n (q := 20) C dX11_gain_19 rfl rfl rfl ?_
    refine jg_Model_now (q := 23) C dX11_gain_20 rfl hR.1.1 kw_869 hR.2.1 ?_
    refine j_iload_n (q := 24) C dX11_gain_23 rfl rfl rfl ?_
    refine j_iload_n (q := 25) C dX11_gain_24 rfl rfl rfl ?_
    refine j_if_eq (q := 28) (tgt := 33) C dX11_gain_25 rfl (by decide) (fun c_25 => ?_) (fun c_25 => ?_)
    · refine j_bipush (v := nI 8) (q := 35) C dX11_gain_33 rfl (by decide) ?_
      refine jS1 (q := 38) C dX11_gain_35 rfl mX11_of kw_908 kw_909 (ctX11_of) rfl rfl (by decide) (Nat.le_of_ble_eq_true rfl) (by decide) ?_
      refine j_laldW (q := 39) C dX11_gain_38 rfl hR.1.2.1 (by omega) (by decide) ?_
      exact j_lret C E dX11_gain_39 rfl rfl ((by first | exact jPub_b (if_neg (jb_0.mp c_6)) | exact jPub_o (by rw [sGain, if_pos (jb_n.mp c_6), nI_clamp (by omega), if_pos c_25]) | exact jPub_o (by rw [sGain, if_pos (jb_n.mp c_6), nI_clamp (by omega), if_neg c_25])))
    · refine j_bipush (v := nI 9) (q := 30) C dX11_gain_28 rfl (by decide) ?_
      refine j_goto (tgt := 35) C dX11_gain_30 (by decide) ?_
      refine jS1 (q := 38) C dX11_gain_35 rfl mX11_of kw_908 kw_909 (ctX11_of) rfl rfl (by decide) (Nat.le_of_ble_eq_true rfl) (by decide) ?_
      refine j_laldW (q := 39) C dX11_gain_38 rfl hR.1.2.1 (by omega) (by decide) ?_
      exact j_lret C E dX11_gain_39 rfl rfl ((by first | exact jPub_b (if_neg (jb_0.mp c_6)) | exact jPub_o (by rw [sGain, if_pos (jb_n.mp c_6), nI_clamp (by omega), if_pos c_25]) | exact jPub_o (by rw [sGain, if_pos (jb_n.mp c_6), nI_clamp (by omega), if_neg c_25])))
  · refine j_aload_n (q := 10) C dX11_gain_9 rfl rfl rfl ?_
    refine j_ldc (q := 12) C dX11_gain_10 rfl kw_903 ?_
    refine jV1 jc11 (q := 15) C dX11_gain_12 rfl hR.1.1 mX11_finding kw_904 kw_905 kw_28 (ctX11_finding hR) rfl rfl (by decide) (Nat.le_of_ble_eq_true rfl) (by decide) ?_
    first | refine j_i2lN (q := 16) C dX11_gain_15 rfl (by omega) ?_ | refine j_i2l (q := 16) C dX11_gain_15 rfl rfl ?_
    refine j_goto (tgt := 39) C dX11_gain_16 (by decide) ?_
    exact j_lret C E dX11_gain_39 rfl rfl ((by first | exact jPub_b (if_neg (jb_0.mp c_6)) | exact jPub_o (by rw [sGain, if_pos (jb_n.mp c_6), nI_clamp (by omega), if_pos c_25]) | exact jPub_o (by rw [sGain, if_pos (jb_n.mp c_6), nI_clamp (by omega), if_neg c_25])))

set_option maxRecDepth 100000 in
set_option maxHeartbeats 4000000 in
theorem ctX11_paperIs {G : jG} {sz : Nat} {Sh : jS} {M : jM} {o : Nat} {N : Nat → Int64} (hR : rLay o Sh M) {pa : Nat} (h5 : N 5 = lN pa) (hpa : pa ≤ 24) {q w : Int32} : jC G yX11_paperIs cX11_paperIs 3 (Option.some FieldType.long) (jrm 3 0 0) sz Sh (jw M (o + 1) N) [.ref o, .int q, .int w] (jPub o sz Sh M (sPaperIs N q w)) := by
  refine jC_start (by decide +kernel) (Nat.le_of_ble_eq_true rfl) (fun X C E hN0 => ?_)
  refine j_aload_n (q := 1) C dX11_paperIs_0 rfl rfl rfl ?_
  refine j_iload_n (q := 2) C dX11_paperIs_1 rfl rfl rfl ?_
  refine jV1 jc11 (q := 5) C dX11_paperIs_2 rfl hR.1.1 mX11_isPaper kw_945 kw_946 kw_30 (ctX11_isPaper hR) rfl rfl (by decide) (Nat.le_of_ble_eq_true rfl) (by decide) ?_
  refine j_if_eq (q := 8) (tgt := 20) C dX11_paperIs_5 rfl (by decide) (fun c_5 => ?_) (fun c_5 => ?_)
  · refine j_aload_n (q := 21) C dX11_paperIs_20 rfl rfl rfl ?_
    refine j_ldc (q := 23) C dX11_paperIs_21 rfl kw_903 ?_
    refine jV1 jc11 (q := 26) C dX11_paperIs_23 rfl hR.1.1 mX11_finding kw_904 kw_905 kw_28 (ctX11_finding hR) rfl rfl (by decide) (Nat.le_of_ble_eq_true rfl) (by decide) ?_
    first | refine j_i2lN (q := 27) C dX11_paperIs_26 rfl (by omega) ?_ | refine j_i2l (q := 27) C dX11_paperIs_26 rfl rfl ?_
    refine j_goto (tgt := 40) C dX11_paperIs_27 (by decide) ?_
    exact j_lret C E dX11_paperIs_40 rfl rfl ((by first | exact jPub_b (if_neg (fun h => jb_0.mp c_5 h.1)) | exact jPub_b (if_neg (fun h => jb_0.mp c_17 h.2)) | exact jPub_o (by rw [sPaperIs, if_pos ⟨jb_n.mp c_5, jb_n.mp c_17⟩, nI_clamp (by omega), nI_clamp (by omega)])))
  · refine j_iload_n (q := 9) C dX11_paperIs_8 rfl rfl rfl ?_
    first | refine j_i2lN (q := 10) C dX11_paperIs_9 rfl (by omega) ?_ | refine j_i2l (q := 10) C dX11_paperIs_9 rfl rfl ?_
    refine j_lconst (v := 0) (q := 11) C dX11_paperIs_10 rfl (by decide) ?_
    refine j_ldc2 (q := 14) C dX11_paperIs_11 rfl kw_954 ?_
    refine jS1 (q := 17) C dX11_paperIs_14 rfl mX11_within kw_898 kw_899 (ctX11_within) rfl rfl (by decide) (Nat.le_of_ble_eq_true rfl) (by decide) ?_
    refine j_if_ne (q := 20) (tgt := 30) C dX11_paperIs_17 rfl (by decide) (fun c_17 => ?_) (fun c_17 => ?_)
    · have e1 := jb_n.mp c_5
      rw [h5] at e1
      obtain ⟨i, hi, rfl⟩ := jix (by omega) e1.1 e1.2
      have e2 := jb_n.mp c_17
      obtain ⟨w, hw, rfl⟩ := jix2 (n := 6) (by omega) e2.1 e2.2
      refine j_aload_n (q := 31) C dX11_paperIs_30 rfl rfl rfl ?_
      refine jg_Model_now (q := 34) C dX11_paperIs_31 rfl hR.1.1 kw_869 hR.2.1 ?_
      refine j_iload_n (q := 35) C dX11_paperIs_34 rfl rfl rfl ?_
      refine j_iload_n (q := 36) C dX11_paperIs_35 rfl rfl rfl ?_
      refine jS1 (q := 39) C dX11_paperIs_36 rfl mX11_ofPaper kw_937 kw_938 (ctX11_ofPaper) rfl rfl (by decide) (Nat.le_of_ble_eq_true rfl) (by decide) ?_
      refine j_laldW (q := 40) C dX11_paperIs_39 rfl hR.1.2.1 (by omega) (by decide) ?_
      exact j_lret C E dX11_paperIs_40 rfl rfl ((by first | exact jPub_b (if_neg (fun h => jb_0.mp c_5 h.1)) | exact jPub_b (if_neg (fun h => jb_0.mp c_17 h.2)) | exact jPub_o (by rw [sPaperIs, if_pos ⟨jb_n.mp c_5, jb_n.mp c_17⟩, nI_clamp (by omega), nI_clamp (by omega)])))
    · refine j_aload_n (q := 21) C dX11_paperIs_20 rfl rfl rfl ?_
      refine j_ldc (q := 23) C dX11_paperIs_21 rfl kw_903 ?_
      refine jV1 jc11 (q := 26) C dX11_paperIs_23 rfl hR.1.1 mX11_finding kw_904 kw_905 kw_28 (ctX11_finding hR) rfl rfl (by decide) (Nat.le_of_ble_eq_true rfl) (by decide) ?_
      first | refine j_i2lN (q := 27) C dX11_paperIs_26 rfl (by omega) ?_ | refine j_i2l (q := 27) C dX11_paperIs_26 rfl rfl ?_
      refine j_goto (tgt := 40) C dX11_paperIs_27 (by decide) ?_
      exact j_lret C E dX11_paperIs_40 rfl rfl ((by first | exact jPub_b (if_neg (fun h => jb_0.mp c_5 h.1)) | exact jPub_b (if_neg (fun h => jb_0.mp c_17 h.2)) | exact jPub_o (by rw [sPaperIs, if_pos ⟨jb_n.mp c_5, jb_n.mp c_17⟩, nI_clamp (by omega), nI_clamp (by omega)])))

set_option maxRecDepth 100000 in
set_option maxHeartbeats 4000000 in
theorem ctX11_as {G : jG} {sz : Nat} {Sh : jS} {M : jM} {o : Nat} {N : Nat → Int64} (hR : rLay o Sh M) {pa : Nat} (h5 : N 5 = lN pa) (hpa : pa ≤ 24) {q w : Int32} : jC G yX11_as cX11_as 5 (Option.some FieldType.long) (jrm 3 0 0) sz Sh (jw M (o + 1) N) [.ref o, .int q, .int w] (jPub o sz Sh M (sAs N q w)) := by
  refine jC_start (by decide +kernel) (Nat.le_of_ble_eq_true rfl) (fun X C E hN0 => ?_)
  refine j_aload_n (q := 1) C dX11_as_0 rfl rfl rfl ?_
  refine j_iload_n (q := 2) C dX11_as_1 rfl rfl rfl ?_
  refine jV1 jc11 (q := 5) C dX11_as_2 rfl hR.1.1 mX11_isPaper kw_945 kw_946 kw_30 (ctX11_isPaper hR) rfl rfl (by decide) (Nat.le_of_ble_eq_true rfl) (by decide) ?_
  refine j_if_eq (q := 8) (tgt := 20) C dX11_as_5 rfl (by decide) (fun c_5 => ?_) (fun c_5 => ?_)
  · refine j_aload_n (q := 21) C dX11_as_20 rfl rfl rfl ?_
    refine j_ldc (q := 23) C dX11_as_21 rfl kw_903 ?_
    refine jV1 jc11 (q := 26) C dX11_as_23 rfl hR.1.1 mX11_finding kw_904 kw_905 kw_28 (ctX11_finding hR) rfl rfl (by decide) (Nat.le_of_ble_eq_true rfl) (by decide) ?_
    first | refine j_i2lN (q := 27) C dX11_as_26 rfl (by omega) ?_ | refine j_i2l (q := 27) C dX11_as_26 rfl rfl ?_
    exact j_lret C E dX11_as_27 rfl rfl ((by first | exact jPub_b (if_neg (fun h => jb_0.mp c_5 h.1)) | exact jPub_b (if_neg (fun h => jb_0.mp c_17 h.2))))
  · refine j_iload_n (q := 9) C dX11_as_8 rfl rfl rfl ?_
    first | refine j_i2lN (q := 10) C dX11_as_9 rfl (by omega) ?_ | refine j_i2l (q := 10) C dX11_as_9 rfl rfl ?_
    refine j_lconst (v := 0) (q := 11) C dX11_as_10 rfl (by decide) ?_
    refine j_ldc2 (q := 14) C dX11_as_11 rfl kw_911 ?_
    refine jS1 (q := 17) C dX11_as_14 rfl mX11_within kw_898 kw_899 (ctX11_within) rfl rfl (by decide) (Nat.le_of_ble_eq_true rfl) (by decide) ?_
    refine j_if_ne (q := 20) (tgt := 28) C dX11_as_17 rfl (by decide) (fun c_17 => ?_) (fun c_17 => ?_)
    · have e1 := jb_n.mp c_5
      rw [h5] at e1
      obtain ⟨i, hi, rfl⟩ := jix (by omega) e1.1 e1.2
      have e2 := jb_n.mp c_17
      have eI : (nI i).toNatClampNeg = i := nI_clamp (by omega)
      have e0 : sAs N (nI i) w = (if w = 0 ∨ N (110 + 7 * i) = w.toInt64 ∨ (w = nI 1 ∧ (2 : Int64) ≤ N (110 + 7 * i) ∧ N (110 + 7 * i) ≤ 4) then (lN i, false, N) else (-100004, true, N)) := by rw [sAs, if_pos ⟨jb_n.mp c_5, e2⟩, eI, nI_l (by omega)]
      refine j_aload_n (q := 29) C dX11_as_28 rfl rfl rfl ?_
      refine jg_Model_now (q := 32) C dX11_as_29 rfl hR.1.1 kw_869 hR.2.1 ?_
      refine j_iload_n (q := 33) C dX11_as_32 rfl rfl rfl ?_
      refine j_iconst (v := nI 0) (q := 34) C dX11_as_33 rfl (by decide) ?_
      refine jS1 (q := 37) C dX11_as_34 rfl mX11_ofPaper kw_937 kw_938 (ctX11_ofPaper) rfl rfl (by decide) (Nat.le_of_ble_eq_true rfl) (by decide) ?_
      refine j_laldW (q := 38) C dX11_as_37 rfl hR.1.2.1 (by omega) (by decide) ?_
      refine j_lstore_n (lv' := [(3, _), (0, _), (1, _), (2, _)]) (q := 39) C dX11_as_38 rfl rfl (by decide) rfl ?_
      refine j_iload_n (q := 40) C dX11_as_39 rfl rfl rfl ?_
      refine j_if_eq (q := 43) (tgt := 68) C dX11_as_40 rfl (by decide) (fun c_40 => ?_) (fun c_40 => ?_)
      · refine j_iload_n (q := 69) C dX11_as_68 rfl rfl rfl ?_
        first | refine j_i2lN (q := 70) C dX11_as_69 rfl (by omega) ?_ | refine j_i2l (q := 70) C dX11_as_69 rfl rfl ?_
        refine j_goto (tgt := 80) C dX11_as_70 (by decide) ?_
        exact j_lret C E dX11_as_80 rfl rfl (jPub_o (e0.trans (if_pos (Or.inl c_40))))
      · refine j_lload_n (q := 44) C dX11_as_43 rfl rfl rfl ?_
        refine j_iload_n (q := 45) C dX11_as_44 rfl rfl rfl ?_
        first | refine j_i2lN (q := 46) C dX11_as_45 rfl (by omega) ?_ | refine j_i2l (q := 46) C dX11_as_45 rfl rfl ?_
        refine j_lcmp_eq (q1 := 47) (q := 50) (tgt := 68) C dX11_as_46 dX11_as_47 rfl rfl (by decide) (fun c_47 => ?_) (fun c_47 => ?_)
        · refine j_iload_n (q := 69) C dX11_as_68 rfl rfl rfl ?_
          first | refine j_i2lN (q := 70) C dX11_as_69 rfl (by omega) ?_ | refine j_i2l (q := 70) C dX11_as_69 rfl rfl ?_
          refine j_goto (tgt := 80) C dX11_as_70 (by decide) ?_
          exact j_lret C E dX11_as_80 rfl rfl (jPub_o (e0.trans (if_pos (Or.inr (Or.inl c_47)))))
        · refine j_iload_n (q := 51) C dX11_as_50 rfl rfl rfl ?_
          refine j_iconst (v := nI 1) (q := 52) C dX11_as_51 rfl (by decide) ?_
          refine j_icmp_ne (q := 55) (tgt := 73) C dX11_as_52 rfl (by decide) (fun c_52 => ?_) (fun c_52 => ?_)
          · refine j_aload_n (q := 74) C dX11_as_73 rfl rfl rfl ?_
            refine j_ldc (q := 76) C dX11_as_74 rfl kw_949 ?_
            refine jV1 jc11 (q := 79) C dX11_as_76 rfl hR.1.1 mX11_finding kw_904 kw_905 kw_28 (ctX11_finding hR) rfl rfl (by decide) (Nat.le_of_ble_eq_true rfl) (by decide) ?_
            first | refine j_i2lN (q := 80) C dX11_as_79 rfl (by omega) ?_ | refine j_i2l (q := 80) C dX11_as_79 rfl rfl ?_
            exact j_lret C E dX11_as_80 rfl rfl (jPub_b (e0.trans (if_neg (fun h => h.elim c_40 (fun h => h.elim c_47 (fun h => c_52 h.1))))))
          · refine j_lload_n (q := 56) C dX11_as_55 rfl rfl rfl ?_
            refine j_ldc2 (q := 59) C dX11_as_56 rfl kw_920 ?_
            refine j_ldc2 (q := 62) C dX11_as_59 rfl kw_948 ?_
            refine jS1 (q := 65) C dX11_as_62 rfl mX11_within kw_898 kw_899 (ctX11_within) rfl rfl (by decide) (Nat.le_of_ble_eq_true rfl) (by decide) ?_
            refine j_if_eq (q := 68) (tgt := 73) C dX11_as_65 rfl (by decide) (fun c_65 => ?_) (fun c_65 => ?_)
            · refine j_aload_n (q := 74) C dX11_as_73 rfl rfl rfl ?_
              refine j_ldc (q := 76) C dX11_as_74 rfl kw_949 ?_
              refine jV1 jc11 (q := 79) C dX11_as_76 rfl hR.1.1 mX11_finding kw_904 kw_905 kw_28 (ctX11_finding hR) rfl rfl (by decide) (Nat.le_of_ble_eq_true rfl) (by decide) ?_
              first | refine j_i2lN (q := 80) C dX11_as_79 rfl (by omega) ?_ | refine j_i2l (q := 80) C dX11_as_79 rfl rfl ?_
              exact j_lret C E dX11_as_80 rfl rfl (jPub_b (e0.trans (if_neg (fun h => h.elim c_40 (fun h => h.elim c_47 (fun h => jb_0.mp c_65 h.2))))))
            · refine j_iload_n (q := 69) C dX11_as_68 rfl rfl rfl ?_
              first | refine j_i2lN (q := 70) C dX11_as_69 rfl (by omega) ?_ | refine j_i2l (q := 70) C dX11_as_69 rfl rfl ?_
              refine j_goto (tgt := 80) C dX11_as_70 (by decide) ?_
              exact j_lret C E dX11_as_80 rfl rfl (jPub_o (e0.trans (if_pos (Or.inr (Or.inr ⟨c_52, jb_n.mp c_65⟩)))))
    · refine j_aload_n (q := 21) C dX11_as_20 rfl rfl rfl ?_
      refine j_ldc (q := 23) C dX11_as_21 rfl kw_903 ?_
      refine jV1 jc11 (q := 26) C dX11_as_23 rfl hR.1.1 mX11_finding kw_904 kw_905 kw_28 (ctX11_finding hR) rfl rfl (by decide) (Nat.le_of_ble_eq_true rfl) (by decide) ?_
      first | refine j_i2lN (q := 27) C dX11_as_26 rfl (by omega) ?_ | refine j_i2l (q := 27) C dX11_as_26 rfl rfl ?_
      exact j_lret C E dX11_as_27 rfl rfl ((by first | exact jPub_b (if_neg (fun h => jb_0.mp c_5 h.1)) | exact jPub_b (if_neg (fun h => jb_0.mp c_17 h.2))))

set_option maxRecDepth 100000 in
set_option maxHeartbeats 4000000 in
theorem ctX11_person {G : jG} {sz : Nat} {Sh : jS} {M : jM} {o : Nat} {N : Nat → Int64} (hR : rLay o Sh M) {pe : Nat} (h4 : N 4 = lN pe) (hpe : pe ≤ 10) {m : Int64} {l b : Int32} : jC G yX11_person cX11_person 7 (Option.some FieldType.long) (jrm 2 0 0) sz Sh (jw M (o + 1) N) [.ref o, .long m, .int l, .int b] (jPub o sz Sh M (sPerson N m l b)) := by
  refine jC_start (by decide +kernel) (Nat.le_of_ble_eq_true rfl) (fun X C E hN0 => ?_)
  refine j_lload_n (q := 1) C dX11_person_0 rfl rfl rfl ?_
  refine j_lconst (v := 0) (q := 2) C dX11_person_1 rfl (by decide) ?_
  refine j_ldc2 (q := 5) C dX11_person_2 rfl kw_897 ?_
  refine jS1 (q := 8) C dX11_person_5 rfl mX11_within kw_898 kw_899 (ctX11_within) rfl rfl (by decide) (Nat.le_of_ble_eq_true rfl) (by decide) ?_
  refine j_if_eq (q := 11) (tgt := 36) C dX11_person_8 rfl (by decide) (fun c_8 => ?_) (fun c_8 => ?_)
  · refine j_aload_n (q := 37) C dX11_person_36 rfl rfl rfl ?_
    refine j_ldc (q := 39) C dX11_person_37 rfl kw_903 ?_
    refine jV1 jc11 (q := 42) C dX11_person_39 rfl hR.1.1 mX11_finding kw_904 kw_905 kw_28 (ctX11_finding hR) rfl rfl (by decide) (Nat.le_of_ble_eq_true rfl) (by decide) ?_
    first | refine j_i2lN (q := 43) C dX11_person_42 rfl (by omega) ?_ | refine j_i2l (q := 43) C dX11_person_42 rfl rfl ?_
    exact j_lret C E dX11_person_43 rfl rfl ((by first | exact jPub_b (if_neg (fun h => jb_0.mp c_8 h.1)) | exact jPub_b (if_neg (fun h => jb_0.mp c_20 h.2.1)) | exact jPub_b (if_neg (fun h => jb_0.mp c_33 h.2.2))))
  · refine j_iload_n (q := 12) C dX11_person_11 rfl rfl rfl ?_
    first | refine j_i2lN (q := 13) C dX11_person_12 rfl (by omega) ?_ | refine j_i2l (q := 13) C dX11_person_12 rfl rfl ?_
    refine j_lconst (v := 0) (q := 14) C dX11_person_13 rfl (by decide) ?_
    refine j_ldc2 (q := 17) C dX11_person_14 rfl kw_901 ?_
    refine jS1 (q := 20) C dX11_person_17 rfl mX11_within kw_898 kw_899 (ctX11_within) rfl rfl (by decide) (Nat.le_of_ble_eq_true rfl) (by decide) ?_
    refine j_if_eq (q := 23) (tgt := 36) C dX11_person_20 rfl (by decide) (fun c_20 => ?_) (fun c_20 => ?_)
    · refine j_aload_n (q := 37) C dX11_person_36 rfl rfl rfl ?_
      refine j_ldc (q := 39) C dX11_person_37 rfl kw_903 ?_
      refine jV1 jc11 (q := 42) C dX11_person_39 rfl hR.1.1 mX11_finding kw_904 kw_905 kw_28 (ctX11_finding hR) rfl rfl (by decide) (Nat.le_of_ble_eq_true rfl) (by decide) ?_
      first | refine j_i2lN (q := 43) C dX11_person_42 rfl (by omega) ?_ | refine j_i2l (q := 43) C dX11_person_42 rfl rfl ?_
      exact j_lret C E dX11_person_43 rfl rfl ((by first | exact jPub_b (if_neg (fun h => jb_0.mp c_8 h.1)) | exact jPub_b (if_neg (fun h => jb_0.mp c_20 h.2.1)) | exact jPub_b (if_neg (fun h => jb_0.mp c_33 h.2.2))))
    · refine j_iload (q := 25) C dX11_person_23 rfl rfl ?_
      first | refine j_i2lN (q := 26) C dX11_person_25 rfl (by omega) ?_ | refine j_i2l (q := 26) C dX11_person_25 rfl rfl ?_
      refine j_lconst (v := 0) (q := 27) C dX11_person_26 rfl (by decide) ?_
      refine j_ldc2 (q := 30) C dX11_person_27 rfl kw_902 ?_
      refine jS1 (q := 33) C dX11_person_30 rfl mX11_within kw_898 kw_899 (ctX11_within) rfl rfl (by decide) (Nat.le_of_ble_eq_true rfl) (by decide) ?_
      refine j_if_ne (q := 36) (tgt := 44) C dX11_person_33 rfl (by decide) (fun c_33 => ?_) (fun c_33 => ?_)
      · refine j_aload_n (q := 45) C dX11_person_44 rfl rfl rfl ?_
        refine jg_Model_now (q := 48) C dX11_person_45 rfl hR.1.1 kw_869 hR.2.1 ?_
        refine j_iconst (v := nI 4) (q := 49) C dX11_person_48 rfl (by decide) ?_
        refine j_laldW (q := 50) C dX11_person_49 rfl hR.1.2.1 (by omega) (by decide) ?_
        rw [h4]
        first | refine j_l2iN (q := 51) C dX11_person_50 rfl ?_ | refine j_l2i (q := 51) C dX11_person_50 rfl rfl ?_
        refine j_istore (lv' := [(5, _), (0, _), (1, _), (3, _), (4, _)]) (q := 53) C dX11_person_51 rfl (by decide) rfl ?_
        refine j_iload (q := 55) C dX11_person_53 rfl rfl ?_
        refine j_bipush (v := nI 10) (q := 57) C dX11_person_55 rfl (by decide) ?_
        refine j_icmp_ne (q := 60) (tgt := 68) C dX11_person_57 rfl (by decide) (fun c_57 => ?_) (fun c_57 => ?_)
        · have hne : ¬ N 4 = 10 := fun e => c_57 (by rw [h4] at e; rw [show (10 : Int64) = lN 10 by decide, lN_eq (by omega) (by omega)] at e; rw [e])
          have hp10 : pe < 10 := by rcases Nat.lt_or_ge pe 10 with h | h; exact h; exact absurd (by rw [show pe = 10 by omega]) c_57
          refine j_iconst (v := nI 0) (q := 69) C dX11_person_68 rfl (by decide) ?_
          refine j_istore (lv' := [(6, _), (5, _), (0, _), (1, _), (3, _), (4, _)]) (q := 71) C dX11_person_69 rfl (by decide) rfl ?_
          have eN : (lN pe).toNatClampNeg = pe := by rw [show (lN pe).toNatClampNeg = (lN pe).toInt.toNat from rfl, lN_toI (by omega)]; rfl
          have loop : ∀ (n k : Nat) (Nk : Nat → Int64), Nk = nZ N (10 + 10 * pe) k → k + n = 10 → jJ G X 0 0 sz Sh (jw M (o + 1) Nk) 71 [(6, .int (nI k)), (5, .int (nI pe)), (0, .ref o), (1, .long m), (3, .int l), (4, .int b)] [] := by
            intro n
            induction n with
            | zero =>
              intro k Nk hk2 hk
              refine j_iload (q := 73) C dX11_person_71 rfl rfl ?_
              refine j_bipush (v := nI 10) (q := 75) C dX11_person_73 rfl (by decide) ?_
              refine j_icmp_ge (q := 78) (tgt := 97) C dX11_person_75 rfl (by decide) (fun c_75 => ?_) (fun c_75 => absurd (nI_le (by omega) (by omega)) c_75)
              obtain rfl : k = 10 := by omega
              refine j_aload_n (q := 98) C dX11_person_97 rfl rfl rfl ?_
              refine jg_Model_now (q := 101) C dX11_person_98 rfl hR.1.1 kw_869 hR.2.1 ?_
              refine j_iload (q := 103) C dX11_person_101 rfl rfl ?_
              refine j_iconst (v := nI 0) (q := 104) C dX11_person_103 rfl (by decide) ?_
              refine jS1 (q := 107) C dX11_person_104 rfl mX11_of kw_908 kw_909 (ctX11_of) rfl rfl (by decide) (Nat.le_of_ble_eq_true rfl) (by decide) ?_
              refine j_lload_n (q := 108) C dX11_person_107 rfl rfl rfl ?_
              refine j_lastW (q := 109) C dX11_person_108 rfl hR.1.2.1 (by omega) (by decide) ?_
              refine j_aload_n (q := 110) C dX11_person_109 rfl rfl rfl ?_
              refine jg_Model_now (q := 113) C dX11_person_110 rfl hR.1.1 kw_869 hR.2.1 ?_
              refine j_iload (q := 115) C dX11_person_113 rfl rfl ?_
              refine j_iconst (v := nI 1) (q := 116) C dX11_person_115 rfl (by decide) ?_
              refine jS1 (q := 119) C dX11_person_116 rfl mX11_of kw_908 kw_909 (ctX11_of) rfl rfl (by decide) (Nat.le_of_ble_eq_true rfl) (by decide) ?_
              refine j_iload_n (q := 120) C dX11_person_119 rfl rfl rfl ?_
              first | refine j_i2lN (q := 121) C dX11_person_120 rfl (by omega) ?_ | refine j_i2l (q := 121) C dX11_person_120 rfl rfl ?_
              refine j_lastW (q := 122) C dX11_person_121 rfl hR.1.2.1 (by omega) (by decide) ?_
              refine j_aload_n (q := 123) C dX11_person_122 rfl rfl rfl ?_
              refine jg_Model_now (q := 126) C dX11_person_123 rfl hR.1.1 kw_869 hR.2.1 ?_
              refine j_iload (q := 128) C dX11_person_126 rfl rfl ?_
              refine j_iconst (v := nI 2) (q := 129) C dX11_person_128 rfl (by decide) ?_
              refine jS1 (q := 132) C dX11_person_129 rfl mX11_of kw_908 kw_909 (ctX11_of) rfl rfl (by decide) (Nat.le_of_ble_eq_true rfl) (by decide) ?_
              refine j_iload (q := 134) C dX11_person_132 rfl rfl ?_
              first | refine j_i2lN (q := 135) C dX11_person_134 rfl (by omega) ?_ | refine j_i2l (q := 135) C dX11_person_134 rfl rfl ?_
              refine j_lastW (q := 136) C dX11_person_135 rfl hR.1.2.1 (by omega) (by decide) ?_
              refine j_aload_n (q := 137) C dX11_person_136 rfl rfl rfl ?_
              refine jg_Model_now (q := 140) C dX11_person_137 rfl hR.1.1 kw_869 hR.2.1 ?_
              refine j_iload (q := 142) C dX11_person_140 rfl rfl ?_
              refine j_iconst (v := nI 3) (q := 143) C dX11_person_142 rfl (by decide) ?_
              refine jS1 (q := 146) C dX11_person_143 rfl mX11_of kw_908 kw_909 (ctX11_of) rfl rfl (by decide) (Nat.le_of_ble_eq_true rfl) (by decide) ?_
              refine j_ldc2 (q := 149) C dX11_person_146 rfl kw_911 ?_
              refine j_lastW (q := 150) C dX11_person_149 rfl hR.1.2.1 (by omega) (by decide) ?_
              refine j_aload_n (q := 151) C dX11_person_150 rfl rfl rfl ?_
              refine jg_Model_now (q := 154) C dX11_person_151 rfl hR.1.1 kw_869 hR.2.1 ?_
              refine j_iload (q := 156) C dX11_person_154 rfl rfl ?_
              refine j_iconst (v := nI 4) (q := 157) C dX11_person_156 rfl (by decide) ?_
              refine jS1 (q := 160) C dX11_person_157 rfl mX11_of kw_908 kw_909 (ctX11_of) rfl rfl (by decide) (Nat.le_of_ble_eq_true rfl) (by decide) ?_
              refine j_ldc2 (q := 163) C dX11_person_160 rfl kw_912 ?_
              refine j_lastW (q := 164) C dX11_person_163 rfl hR.1.2.1 (by omega) (by decide) ?_
              refine j_aload_n (q := 165) C dX11_person_164 rfl rfl rfl ?_
              refine jg_Model_now (q := 168) C dX11_person_165 rfl hR.1.1 kw_869 hR.2.1 ?_
              refine j_iconst (v := nI 4) (q := 169) C dX11_person_168 rfl (by decide) ?_
              refine j_dup2_11 (q := 170) C dX11_person_169 rfl rfl rfl ?_
              refine j_laldW (q := 171) C dX11_person_170 rfl hR.1.2.1 (by omega) (by decide) ?_
              refine j_lconst (v := 1) (q := 172) C dX11_person_171 rfl (by decide) ?_
              refine j_ladd (q := 173) C dX11_person_172 rfl ?_
              refine j_lastW (q := 174) C dX11_person_173 rfl hR.1.2.1 (by omega) (by decide) ?_
              refine j_iload (q := 176) C dX11_person_174 rfl rfl ?_
              first | refine j_i2lN (q := 177) C dX11_person_176 rfl (by omega) ?_ | refine j_i2l (q := 177) C dX11_person_176 rfl rfl ?_
              exact j_lret C E dX11_person_177 rfl rfl (jPub_o (by rw [sPerson, if_pos ⟨jb_n.mp c_8, jb_n.mp c_20, jb_n.mp c_33⟩, if_neg hne, nPerson, h4, eN, ← nI_l (by omega : pe < 2 ^ 31), hk2]))
            | succ n ih =>
              intro k Nk hk2 hk
              refine j_iload (q := 73) C dX11_person_71 rfl rfl ?_
              refine j_bipush (v := nI 10) (q := 75) C dX11_person_73 rfl (by decide) ?_
              refine j_icmp_ge (q := 78) (tgt := 97) C dX11_person_75 rfl (by decide) (fun c_75 => absurd c_75 (nI_ge (by omega) (by omega))) (fun c_75 => ?_)
              refine j_aload_n (q := 79) C dX11_person_78 rfl rfl rfl ?_
              refine jg_Model_now (q := 82) C dX11_person_79 rfl hR.1.1 kw_869 hR.2.1 ?_
              refine j_iload (q := 84) C dX11_person_82 rfl rfl ?_
              refine j_iload (q := 86) C dX11_person_84 rfl rfl ?_
              refine jS1 (q := 89) C dX11_person_86 rfl mX11_of kw_908 kw_909 (ctX11_of) rfl rfl (by decide) (Nat.le_of_ble_eq_true rfl) (by decide) ?_
              refine j_lconst (v := 0) (q := 90) C dX11_person_89 rfl (by decide) ?_
              refine j_lastW (q := 91) C dX11_person_90 rfl hR.1.2.1 (by omega) (by decide) ?_
              first | refine j_iincN (lv' := [(6, _), (5, _), (0, _), (1, _), (3, _), (4, _)]) (q := 94) C dX11_person_91 rfl rfl (by decide) rfl ?_ | refine j_iinc (lv' := [(6, _), (5, _), (0, _), (1, _), (3, _), (4, _)]) (q := 94) C dX11_person_91 rfl rfl rfl (by decide) rfl ?_
              refine j_goto (tgt := 71) C dX11_person_94 (by decide) ?_
              exact ih (k + 1) _ (by rw [hk2]; exact nZ_s N (10 + 10 * pe) k) (by omega)
          exact loop 10 0 N (nZ_0 N _).symm rfl
        · refine j_aload_n (q := 61) C dX11_person_60 rfl rfl rfl ?_
          refine j_ldc (q := 63) C dX11_person_61 rfl kw_907 ?_
          refine jV1 jc11 (q := 66) C dX11_person_63 rfl hR.1.1 mX11_finding kw_904 kw_905 kw_28 (ctX11_finding hR) rfl rfl (by decide) (Nat.le_of_ble_eq_true rfl) (by decide) ?_
          first | refine j_i2lN (q := 67) C dX11_person_66 rfl (by omega) ?_ | refine j_i2l (q := 67) C dX11_person_66 rfl rfl ?_
          exact j_lret C E dX11_person_67 rfl rfl (jPub_b (by rw [sPerson, if_pos ⟨jb_n.mp c_8, jb_n.mp c_20, jb_n.mp c_33⟩, if_pos (by rw [h4, show (10 : Int64) = lN 10 by decide, (nI_eq (by omega) (by omega)).mp c_57])]; rfl))
      · refine j_aload_n (q := 37) C dX11_person_36 rfl rfl rfl ?_
        refine j_ldc (q := 39) C dX11_person_37 rfl kw_903 ?_
        refine jV1 jc11 (q := 42) C dX11_person_39 rfl hR.1.1 mX11_finding kw_904 kw_905 kw_28 (ctX11_finding hR) rfl rfl (by decide) (Nat.le_of_ble_eq_true rfl) (by decide) ?_
        first | refine j_i2lN (q := 43) C dX11_person_42 rfl (by omega) ?_ | refine j_i2l (q := 43) C dX11_person_42 rfl rfl ?_
        exact j_lret C E dX11_person_43 rfl rfl ((by first | exact jPub_b (if_neg (fun h => jb_0.mp c_8 h.1)) | exact jPub_b (if_neg (fun h => jb_0.mp c_20 h.2.1)) | exact jPub_b (if_neg (fun h => jb_0.mp c_33 h.2.2))))

