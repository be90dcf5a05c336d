abbrev okR (x : Int32) (lo hi : Nat) : Prop := lN lo ≤ x.toInt64 ∧ x.toInt64 ≤ lN hi
theorem jix3 {x : Int32} {lo hi : Nat} (hh : hi < 2 ^ 31) (h1 : lN lo ≤ x.toInt64) (h2 : x.toInt64 ≤ lN hi) (hlo : lo ≤ hi) : ∃ i, lo ≤ i ∧ i ≤ hi ∧ x = nI i := by
  have h0 : (0 : Int64) ≤ x.toInt64 := Int64.le_trans (by rw [show (0 : Int64) = lN 0 from rfl, pk_lLE (by omega) (by omega)]; exact Nat.zero_le _) h1
  obtain ⟨i, hi', rfl⟩ := jix2 hh h0 h2
  rw [nI_l (by omega), pk_lLE (by omega) (by omega)] at h1
  exact ⟨i, h1, hi', rfl⟩
theorem rS_E {o : Nat} {M : jM} {P A B : Nat → Int64} : mEq (rSc o) M (rS o M P A B) := ((mEq.rf.w (by unfold rSc; omega)).w (by unfold rSc; omega)).w (by unfold rSc; omega)
/-- what is put aside -/
abbrev rA (o : Nat) (M : jM) (N : Nat → Int64) : jM := jw M (o + 2) (nCp N (M.2.1 (o + 2)) 611)
theorem rA_E {o : Nat} {M : jM} {N P A B : Nat → Int64} : mEq (rSc o) M (rS o (rA o M N) P A B) := (((mEq.rf.w (by unfold rSc; omega)).w (by unfold rSc; omega)).w (by unfold rSc; omega)).w (by unfold rSc; omega)
theorem rA_at {o : Nat} {M : jM} {N P A B : Nat → Int64} : ∀ k, k < 611 → (rS o (rA o M N) P A B).2.1 (o + 2) k = N k := fun k hk => by
  rw [jw_ne _ _ (by omega), jw_ne _ _ (by omega), jw_ne _ _ (by omega), jw_at]
  exact if_pos hk
/-- may so many days go by -/
def nA (d : Nat) (n : Int32) (mo : Nat) : Int32 × Bool := if okR n 1 mo then (if 300 < d + n.toNatClampNeg then (-100005, true) else (0, false)) else (-100001, true)
noncomputable def sDays (LT : Nat → sT) (N : Nat → Int64) (d pe pa la : Nat) (n : Int32) : sA := if (nA d n 30).2 = true then ((nA d n 30).1.toInt64, true, N) else (nPl LT d pe pa la bF N n.toNatClampNeg (310 + (d + n.toNatClampNeg)), false, nPl LT d pe pa la bF N n.toNatClampNeg)
noncomputable def sNeed (LT : Nat → sT) (N : Nat → Int64) (d pe pa la : Nat) (n : Int32) : sA := if (nA d n 30).2 = true then ((nA d n 30).1.toInt64, true, N) else (nPl LT d pe pa la bF N n.toNatClampNeg 2 - N 2, false, N)
noncomputable def sMelts (LT : Nat → sT) (N : Nat → Int64) (d pe pa la : Nat) (n : Int32) : sA := if (nA d n 30).2 = true then ((nA d n 30).1.toInt64, true, N) else if nMel LT d pe pa la N 0 n.toNatClampNeg = 0 then (-100006, true, N) else (lN (nMel LT d pe pa la N 0 n.toNatClampNeg), false, N)
def nNb (f : Nat → Int32) : Nat → Nat → Nat
  | k, 0 => k
  | k, m + 1 => if (0 : Int64) ≤ (f k).toInt64 ∧ (f k).toInt64 ≤ 1 then nNb f (k + 1) m else k
theorem nNb_le {f : Nat → Int32} : ∀ m k, nNb f k m ≤ k + m
  | 0, k => Nat.le_refl _
  | m + 1, k => by
    rw [nNb]
    split
    · have := nNb_le (f := f) m (k + 1)
      omega
    · omega
def bS (f : Nat → Int32) : Nat → Bool := fun k => decide (f k = nI 1)
noncomputable def sProves (LT : Nat → sT) (N : Nat → Int64) (d pe pa la : Nat) (wd : Int32) (n : Nat) (f : Nat → Int32) (v s : Int32) : sA := if okW v 9999 ∧ okW s 3 then (if wd = 0 then (-100002, true, N) else if 300 < d + n then (-100005, true, N) else if nNb f 0 n < n then (lN (nNb f 0 n), false, N) else if nSum (nPl LT d pe pa la (bS f) N n) 5 pe - nSum N 5 pe ≤ v.toInt64 then (-1, false, N) else (lN n, false, N)) else (-100001, true, N)
def nGift (N : Nat → Int64) (i : Nat) (v : Int64) : Nat → Int64 := nGets (va_up N 2 (N 2 + v)) (10 + 10 * i + 0) v
noncomputable def sBeside (LT : Nat → sT) (N : Nat → Int64) (d pe pa la : Nat) (p : Int32) (v : Int64) (n : Int32) : sA := if okP N p ∧ ((0 : Int64) ≤ v ∧ v ≤ 1000000000000000) then (if (nA d n 30).2 = true then ((nA d n 30).1.toInt64, true, N) else (nPl LT d pe pa la bF (nGift N p.toNatClampNeg v) n.toNatClampNeg (310 + (d + n.toNatClampNeg)) - nPl LT d pe pa la bF N n.toNatClampNeg (310 + (d + n.toNatClampNeg)), false, N)) else (-100001, true, N)
set_option maxRecDepth 100000 in
set_option maxHeartbeats 4000000 in
theorem ctX11_putAside {G : jG} {sz : Nat} {Sh : jS} {M : jM} {o : Nat} {N : Nat → Int64} (hR : rLay o Sh M) : jC G yX11_putAside cX11_putAside 2 (Option.none : Option FieldType) (jrm 1 0 0) sz Sh (jw M (o + 1) N) [.ref o] (jR none sz Sh (jw (rA o M N) (o + 1) N)) := by
  refine jC_start (by decide +kernel) (Nat.le_of_ble_eq_true rfl) (fun X C E hN0 => ?_)
  refine j_iconst (v := nI 0) (q := 1) C dX11_putAside_0 rfl (by decide) ?_
  refine j_istore_n (lv' := [(1, _), (0, _)]) (q := 2) C dX11_putAside_1 rfl rfl (by decide) rfl ?_
  have loop2 : ∀ (n k : Nat), k + n = 611 → jJ G X 0 0 sz Sh (jw (jw M (o + 2) (nCp N (M.2.1 (o + 2)) k)) (o + 1) N) 2 [(1, .int (nI k)), (0, .ref o)] [] := by
    intro n
    induction n with
    | zero =>
      intro k  hk
      refine j_iload_n (q := 3) C dX11_putAside_2 rfl rfl rfl ?_
      refine j_sipush (v := nI 611) (q := 6) C dX11_putAside_3 rfl (by decide) ?_
      refine j_icmp_ge (q := 9) (tgt := 27) C dX11_putAside_6 rfl (by decide) (fun c_6 => ?_) (fun c_6 => absurd (nI_le (by omega) (by omega)) c_6)
      obtain rfl : k = 611 := by omega
      exact j_vret C E dX11_putAside_27 rfl rfl (jR_i)
    | succ n ih =>
      intro k  hk
      refine j_iload_n (q := 3) C dX11_putAside_2 rfl rfl rfl ?_
      refine j_sipush (v := nI 611) (q := 6) C dX11_putAside_3 rfl (by decide) ?_
      refine j_icmp_ge (q := 9) (tgt := 27) C dX11_putAside_6 rfl (by decide) (fun c_6 => absurd c_6 (fun h => absurd ((nI_leI (by omega) (by omega)).mp h) (by omega))) (fun c_6 => ?_)
      refine j_aload_n (q := 10) C dX11_putAside_9 rfl rfl rfl ?_
      refine jg_Model_aside (q := 13) C dX11_putAside_10 rfl hR.1.1 kw_870 hR.2.2.1 ?_
      refine j_iload_n (q := 14) C dX11_putAside_13 rfl rfl rfl ?_
      refine j_aload_n (q := 15) C dX11_putAside_14 rfl rfl rfl ?_
      refine jg_Model_now (q := 18) C dX11_putAside_15 rfl hR.1.1 kw_869 hR.2.1 ?_
      refine j_iload_n (q := 19) C dX11_putAside_18 rfl rfl rfl ?_
      refine j_laldW (q := 20) C dX11_putAside_19 rfl hR.1.2.1 (by omega) (by decide) ?_
      refine j_last2 (show o + 2 ≠ o + 1 by omega) (q := 21) C dX11_putAside_20 rfl hR.1.2.2.1 (by omega) (by decide) ?_
      first | refine j_iincN (lv' := [(1, _), (0, _)]) (q := 24) C dX11_putAside_21 rfl rfl (by decide) rfl ?_ | refine j_iinc (lv' := [(1, _), (0, _)]) (q := 24) C dX11_putAside_21 rfl rfl rfl (by decide) rfl ?_
      refine j_goto (tgt := 2) C dX11_putAside_24 (by decide) ?_
      rw [nCp_s]
      exact j_fewer (lv' := [(1, .int (nI (k + 1))), (0, .ref o)]) (by simp) (ih (k + 1) (by omega))
  have h0 := loop2 611 0 (by omega)
  rw [nCp_0, jw_self] at h0
  exact h0

set_option maxRecDepth 100000 in
set_option maxHeartbeats 4000000 in
theorem ctX11_comesBack {G : jG} {sz : Nat} {Sh : jS} {M : jM} {o : Nat} {N : Nat → Int64} (hR : rLay o Sh M) {Ns : Nat → Int64} (hAs : ∀ k, k < 611 → M.2.1 (o + 2) k = Ns k) : jC G yX11_comesBack cX11_comesBack 2 (Option.none : Option FieldType) (jrm 1 0 0) sz Sh (jw M (o + 1) N) [.ref o] (jR none sz Sh (jw M (o + 1) Ns)) := by
  refine jC_start (by decide +kernel) (Nat.le_of_ble_eq_true rfl) (fun X C E hN0 => ?_)
  refine j_iconst (v := nI 0) (q := 1) C dX11_comesBack_0 rfl (by decide) ?_
  refine j_istore_n (lv' := [(1, _), (0, _)]) (q := 2) C dX11_comesBack_1 rfl rfl (by decide) rfl ?_
  have loop2 : ∀ (n k : Nat), k + n = 611 → jJ G X 0 0 sz Sh (jw M (o + 1) (nCp Ns N k)) 2 [(1, .int (nI k)), (0, .ref o)] [] := by
    intro n
    induction n with
    | zero =>
      intro k  hk
      refine j_iload_n (q := 3) C dX11_comesBack_2 rfl rfl rfl ?_
      refine j_sipush (v := nI 611) (q := 6) C dX11_comesBack_3 rfl (by decide) ?_
      refine j_icmp_ge (q := 9) (tgt := 27) C dX11_comesBack_6 rfl (by decide) (fun c_6 => ?_) (fun c_6 => absurd (nI_le (by omega) (by omega)) c_6)
      obtain rfl : k = 611 := by omega
      refine j_ext (g' := Ns) hR.1.2.1 (fun j hj => if_pos hj) ?_
      exact j_vret C E dX11_comesBack_27 rfl rfl (jR_i)
    | succ n ih =>
      intro k  hk
      refine j_iload_n (q := 3) C dX11_comesBack_2 rfl rfl rfl ?_
      refine j_sipush (v := nI 611) (q := 6) C dX11_comesBack_3 rfl (by decide) ?_
      refine j_icmp_ge (q := 9) (tgt := 27) C dX11_comesBack_6 rfl (by decide) (fun c_6 => absurd c_6 (fun h => absurd ((nI_leI (by omega) (by omega)).mp h) (by omega))) (fun c_6 => ?_)
      refine j_aload_n (q := 10) C dX11_comesBack_9 rfl rfl rfl ?_
      refine jg_Model_now (q := 13) C dX11_comesBack_10 rfl hR.1.1 kw_869 hR.2.1 ?_
      refine j_iload_n (q := 14) C dX11_comesBack_13 rfl rfl rfl ?_
      refine j_aload_n (q := 15) C dX11_comesBack_14 rfl rfl rfl ?_
      refine jg_Model_aside (q := 18) C dX11_comesBack_15 rfl hR.1.1 kw_870 hR.2.2.1 ?_
      refine j_iload_n (q := 19) C dX11_comesBack_18 rfl rfl rfl ?_
      refine j_laldO (show o + 2 ≠ o + 1 by omega) (q := 20) C dX11_comesBack_19 rfl hR.1.2.2.1 (by omega) (by decide) ?_
      rw [hAs k (by omega)]
      refine j_lastW (q := 21) C dX11_comesBack_20 rfl hR.1.2.1 (by omega) (by decide) ?_
      first | refine j_iincN (lv' := [(1, _), (0, _)]) (q := 24) C dX11_comesBack_21 rfl rfl (by decide) rfl ?_ | refine j_iinc (lv' := [(1, _), (0, _)]) (q := 24) C dX11_comesBack_21 rfl rfl rfl (by decide) rfl ?_
      refine j_goto (tgt := 2) C dX11_comesBack_24 (by decide) ?_
      rw [nCp_s]
      exact j_fewer (lv' := [(1, .int (nI (k + 1))), (0, .ref o)]) (by simp) (ih (k + 1) (by omega))
  have h0 := loop2 611 0 (by omega)
  rw [nCp_0] at h0
  exact h0

set_option maxRecDepth 100000 in
set_option maxHeartbeats 4000000 in
theorem ctX11_notAhead {G : jG} {sz : Nat} {Sh : jS} {M : jM} {o : Nat} {N : Nat → Int64} (hR : rLay o Sh M) {d mo : Nat} (hd : N 0 = lN d) (hd3 : d ≤ 300) (hm1 : 1 ≤ mo) (hm2 : mo ≤ 30) {n : Int32} : jC G yX11_notAhead cX11_notAhead 3 (Option.some FieldType.int) (jrm 2 0 0) sz Sh (jw M (o + 1) N) [.ref o, .int n, .int (nI mo)] (jR (some (.int (nA d n mo).1)) sz Sh (jw (rB o M (nA d n mo).2) (o + 1) N)) := by
  refine jC_start (by decide +kernel) (Nat.le_of_ble_eq_true rfl) (fun X C E hN0 => ?_)
  refine j_iload_n (q := 1) C dX11_notAhead_0 rfl rfl rfl ?_
  first | refine j_i2lN (q := 2) C dX11_notAhead_1 rfl (by omega) ?_ | refine j_i2l (q := 2) C dX11_notAhead_1 rfl rfl ?_
  refine j_lconst (v := 1) (q := 3) C dX11_notAhead_2 rfl (by decide) ?_
  refine j_iload_n (q := 4) C dX11_notAhead_3 rfl rfl rfl ?_
  first | refine j_i2lN (q := 5) C dX11_notAhead_4 rfl (by omega) ?_ | refine j_i2l (q := 5) C dX11_notAhead_4 rfl rfl ?_
  refine jS1 (q := 8) C dX11_notAhead_5 rfl mX11_within kw_898 kw_899 (ctX11_within) rfl rfl (by decide) (Nat.le_of_ble_eq_true rfl) (by decide) ?_
  refine j_if_ne (q := 11) (tgt := 20) C dX11_notAhead_8 rfl (by decide) (fun c_8 => ?_) (fun c_8 => ?_)
  · have e_n : okR n 1 mo := jb_n.mp c_8
    obtain ⟨x, hx1, hx2, rfl⟩ := jix3 (by omega) e_n.1 e_n.2 (by omega)
    have eX : (nI x).toNatClampNeg = x := nI_clamp (by omega)
    refine j_aload_n (q := 21) C dX11_notAhead_20 rfl rfl rfl ?_
    refine jg_Model_now (q := 24) C dX11_notAhead_21 rfl hR.1.1 kw_869 hR.2.1 ?_
    refine j_iconst (v := nI 0) (q := 25) C dX11_notAhead_24 rfl (by decide) ?_
    refine j_laldW (q := 26) C dX11_notAhead_25 rfl hR.1.2.1 (by omega) (by decide) ?_
    refine j_iload_n (q := 27) C dX11_notAhead_26 rfl rfl rfl ?_
    first | refine j_i2lN (q := 28) C dX11_notAhead_27 rfl (by omega) ?_ | refine j_i2l (q := 28) C dX11_notAhead_27 rfl rfl ?_
    refine j_ladd (q := 29) C dX11_notAhead_28 rfl ?_
    rw [hd, lN_add]
    refine j_ldc2 (q := 32) C dX11_notAhead_29 rfl kw_935 ?_
    refine j_lcmp_le (q1 := 33) (q := 36) (tgt := 45) C dX11_notAhead_32 dX11_notAhead_33 rfl rfl (by decide) (fun c_33 => ?_) (fun c_33 => ?_)
    · refine j_iconst (v := nI 0) (q := 46) C dX11_notAhead_45 rfl (by decide) ?_
      exact j_iret C E dX11_notAhead_46 rfl rfl (by
          have e : nA d (nI x) mo = (0, false) := by
            unfold nA
            rw [if_pos e_n, eX, if_neg (fun h => by have := (pk_lLE (b := 300) (by omega) (by omega)).mp c_33; omega)]
          rw [e]; exact jR_i)
    · refine j_aload_n (q := 37) C dX11_notAhead_36 rfl rfl rfl ?_
      refine j_ldc (q := 39) C dX11_notAhead_37 rfl kw_907 ?_
      refine jV1 jc11 (q := 42) C dX11_notAhead_39 rfl hR.1.1 mX11_finding kw_904 kw_905 kw_28 (ctX11_finding hR) rfl rfl (by decide) (Nat.le_of_ble_eq_true rfl) (by decide) ?_
      refine j_goto (tgt := 46) C dX11_notAhead_42 (by decide) ?_
      exact j_iret C E dX11_notAhead_46 rfl rfl (by
          have e : nA d (nI x) mo = (-100005, true) := by
            unfold nA
            rw [if_pos e_n, eX, if_pos (by have h : ¬ d + x ≤ 300 := fun h => c_33 ((pk_lLE (b := 300) (by omega) (by omega)).mpr h); omega)]
          rw [e]; exact jR_i)
  · refine j_aload_n (q := 12) C dX11_notAhead_11 rfl rfl rfl ?_
    refine j_ldc (q := 14) C dX11_notAhead_12 rfl kw_903 ?_
    refine jV1 jc11 (q := 17) C dX11_notAhead_14 rfl hR.1.1 mX11_finding kw_904 kw_905 kw_28 (ctX11_finding hR) rfl rfl (by decide) (Nat.le_of_ble_eq_true rfl) (by decide) ?_
    refine j_goto (tgt := 46) C dX11_notAhead_17 (by decide) ?_
    exact j_iret C E dX11_notAhead_46 rfl rfl (by
        have e : nA d n mo = (-100001, true) := if_neg (jb_0.mp c_8)
        rw [e]; exact jR_i)

theorem nA_0 {d mo : Nat} {n : Int32} (h : (nA d n mo).1 = 0) (h1 : mo ≤ 30) : (nA d n mo).2 = false ∧ ∃ x, 1 ≤ x ∧ x ≤ mo ∧ n = nI x ∧ d + x ≤ 300 ∧ n.toNatClampNeg = x := by
  unfold nA at h ⊢
  by_cases c : okR n 1 mo
  · rw [if_pos c] at h ⊢
    by_cases c2 : 300 < d + n.toNatClampNeg
    · rw [if_pos c2] at h
      exact absurd h (by decide)
    · rw [if_neg c2]
      have hm : 1 ≤ mo := by
        rcases Nat.eq_zero_or_pos mo with e | e
        · subst e
          have := Int64.le_trans c.1 c.2
          exact absurd this (by decide)
        · exact e
      obtain ⟨x, hx1, hx2, rfl⟩ := jix3 (by omega) c.1 c.2 hm
      rw [nI_clamp (by omega)] at c2 ⊢
      exact ⟨rfl, x, hx1, hx2, rfl, by omega, rfl⟩
  · rw [if_neg c] at h
    exact absurd h (by decide)
theorem nA_1 {d mo : Nat} {n : Int32} (h : ¬ (nA d n mo).1 = 0) : (nA d n mo).2 = true := by
  unfold nA at h ⊢
  by_cases c : okR n 1 mo
  · rw [if_pos c] at h ⊢
    by_cases c2 : 300 < d + n.toNatClampNeg
    · rw [if_pos c2]
    · rw [if_neg c2] at h
      exact absurd rfl h
  · rw [if_neg c]
set_option maxRecDepth 100000 in
set_option maxHeartbeats 4000000 in
theorem ctX11_days {G : jG} {sz : Nat} {Sh : jS} {M : jM} {o : Nat} {N : Nat → Int64} (hR : rLay o Sh M) {d pe pa la : Nat} (hO : nOk N d pe pa la) {LT : Nat → sT} (hL : lOk o M la LT) (hB : nB N d pe) (hS : nS N pa) {n : Int32} : jC G yX11_days cX11_days 3 (Option.some FieldType.long) (jrm 7 0 0) sz Sh (jw M (o + 1) N) [.ref o, .int n] (jT sz Sh (rU o M (sDays LT N d pe pa la n))) := by
  refine jC_start (by decide +kernel) (Nat.le_of_ble_eq_true rfl) (fun X C E hN0 => ?_)
  have hd3 := hO.1.2
  refine j_iload_n (q := 1) C dX11_days_0 rfl rfl rfl ?_
  first | refine j_i2lN (q := 2) C dX11_days_1 rfl (by omega) ?_ | refine j_i2l (q := 2) C dX11_days_1 rfl rfl ?_
  refine j_lconst (v := 1) (q := 3) C dX11_days_2 rfl (by decide) ?_
  refine j_ldc2 (q := 6) C dX11_days_3 rfl kw_1146 ?_
  refine jS1 (q := 9) C dX11_days_6 rfl mX11_within kw_898 kw_899 (ctX11_within) rfl rfl (by decide) (Nat.le_of_ble_eq_true rfl) (by decide) ?_
  refine j_if_ne (q := 12) (tgt := 20) C dX11_days_9 rfl (by decide) (fun c_9 => ?_) (fun c_9 => ?_)
  · have e_n : okR n 1 30 := jb_n.mp c_9
    obtain ⟨x, hx1, hx2, rfl⟩ := jix3 (by omega) e_n.1 e_n.2 (by omega)
    have eX : (nI x).toNatClampNeg = x := nI_clamp (by omega)
    refine j_aload_n (q := 21) C dX11_days_20 rfl rfl rfl ?_
    refine jg_Model_now (q := 24) C dX11_days_21 rfl hR.1.1 kw_869 hR.2.1 ?_
    refine j_iconst (v := nI 0) (q := 25) C dX11_days_24 rfl (by decide) ?_
    refine j_laldW (q := 26) C dX11_days_25 rfl hR.1.2.1 (by omega) (by decide) ?_
    refine j_iload_n (q := 27) C dX11_days_26 rfl rfl rfl ?_
    first | refine j_i2lN (q := 28) C dX11_days_27 rfl (by omega) ?_ | refine j_i2l (q := 28) C dX11_days_27 rfl rfl ?_
    refine j_ladd (q := 29) C dX11_days_28 rfl ?_
    rw [hO.1.1, lN_add]
    refine j_ldc2 (q := 32) C dX11_days_29 rfl kw_935 ?_
    refine j_lcmp_le (q1 := 33) (q := 36) (tgt := 44) C dX11_days_32 dX11_days_33 rfl rfl (by decide) (fun c_33 => ?_) (fun c_33 => ?_)
    · refine j_iconst (v := nI 0) (q := 45) C dX11_days_44 rfl (by decide) ?_
      refine j_istore_n (lv' := [(2, _), (0, _), (1, _)]) (q := 46) C dX11_days_45 rfl rfl (by decide) rfl ?_
      have hdx : d + x ≤ 300 := (pk_lLE (b := 300) (by omega) (by omega)).mp c_33
      have hna : (nA d (nI x) 30).2 = false ∧ True := ⟨by unfold nA; rw [if_pos e_n, eX, if_neg (by omega)], trivial⟩
      have loop46 : ∀ (m k : Nat) (P A B : Nat → Int64), k + m = x → jJ G X 0 0 sz Sh (jw (rS o M P A B) (o + 1) (nPl LT d pe pa la bF N k)) 46 [(2, .int (nI k)), (0, .ref o), (1, .int (nI x))] [] := by
        intro m
        induction m with
        | zero =>
          intro k P A B hk
          have hOk := nPl_ok (LT := LT) (b := bF) hO hB hS k (by omega)
          refine j_iload_n (q := 47) C dX11_days_46 rfl rfl rfl ?_
          refine j_iload_n (q := 48) C dX11_days_47 rfl rfl rfl ?_
          refine j_icmp_ge (q := 51) (tgt := 61) C dX11_days_48 rfl (by decide) (fun c_48 => ?_) (fun c_48 => absurd (nI_le (by omega) (by omega)) c_48)
          obtain rfl : x = k := by omega
          refine j_aload_n (q := 62) C dX11_days_61 rfl rfl rfl ?_
          refine j_aload_n (q := 63) C dX11_days_62 rfl rfl rfl ?_
          refine jV1 jc11 (q := 66) C dX11_days_63 rfl hR.1.1 mX11_today kw_965 kw_966 kw_33 (ctX11_today (M := rS o M P A B) hR hOk.1.1.1) rfl rfl (by decide) (Nat.le_of_ble_eq_true rfl) (by decide) ?_
          refine jV1 jc11 (q := 69) C dX11_days_66 rfl hR.1.1 mX11_priceOf kw_968 kw_969 kw_34 (ctX11_priceOf (M := rS o M P A B) hR (by omega)) rfl rfl (by decide) (Nat.le_of_ble_eq_true rfl) (by decide) ?_
          exact j_lret C E dX11_days_69 rfl rfl (rU_o (by unfold sDays; rw [if_neg (by rw [hna.1]; decide), eX]) rS_E)
        | succ m ih =>
          intro k P A B hk
          have hOk := nPl_ok (LT := LT) (b := bF) hO hB hS k (by omega)
          refine j_iload_n (q := 47) C dX11_days_46 rfl rfl rfl ?_
          refine j_iload_n (q := 48) C dX11_days_47 rfl rfl rfl ?_
          refine j_icmp_ge (q := 51) (tgt := 61) C dX11_days_48 rfl (by decide) (fun c_48 => absurd c_48 (fun h => absurd ((nI_leI (by omega) (by omega)).mp h) (by omega))) (fun c_48 => ?_)
          refine j_aload_n (q := 52) C dX11_days_51 rfl rfl rfl ?_
          refine jVT jc11 (q := 55) C dX11_days_52 rfl hR.1.1 mX11_goesBy kw_1147 kw_1148 kw_55 (ctX11_goesBy (M := M) (P := P) (A := A) (B := B) hR hOk.1 (by omega) hL) rfl rfl (by decide) (Nat.le_of_ble_eq_true rfl) (by decide) (fun r_52 M_52 h_52 => ?_)
          obtain ⟨P2, A2, B2, rfl, rfl⟩ := h_52
          first | refine j_iincN (lv' := [(2, _), (0, _), (1, _)]) (q := 58) C dX11_days_55 rfl rfl (by decide) rfl ?_ | refine j_iinc (lv' := [(2, _), (0, _), (1, _)]) (q := 58) C dX11_days_55 rfl rfl rfl (by decide) rfl ?_
          refine j_goto (tgt := 46) C dX11_days_58 (by decide) ?_
          exact j_fewer (lv' := [(2, .int (nI (k + 1))), (0, .ref o), (1, .int (nI x))]) (by simp) (ih (k + 1) P2 A2 B2 (by omega))
      rw [show M = rS o M (M.2.1 (o + 11)) (M.2.1 (o + 12)) (M.2.1 (o + 13)) from (rS_self o M).symm]
      exact j_fewer (lv' := [(2, .int (nI 0)), (0, .ref o), (1, .int (nI x))]) (by simp) (loop46 x 0 _ _ _ (by omega))
    · refine j_aload_n (q := 37) C dX11_days_36 rfl rfl rfl ?_
      refine j_ldc (q := 39) C dX11_days_37 rfl kw_907 ?_
      refine jV1 jc11 (q := 42) C dX11_days_39 rfl hR.1.1 mX11_finding kw_904 kw_905 kw_28 (ctX11_finding hR) rfl rfl (by decide) (Nat.le_of_ble_eq_true rfl) (by decide) ?_
      first | refine j_i2lN (q := 43) C dX11_days_42 rfl (by omega) ?_ | refine j_i2l (q := 43) C dX11_days_42 rfl rfl ?_
      exact j_lret C E dX11_days_43 rfl rfl (rU_b (by unfold sDays; rw [show nA d (nI x) 30 = (-100005, true) from by unfold nA; rw [if_pos e_n, eX, if_pos (by have h : ¬ d + x ≤ 300 := fun h => c_33 ((pk_lLE (b := 300) (by omega) (by omega)).mpr h); omega)]]; rfl) mEq.rf)
  · refine j_aload_n (q := 13) C dX11_days_12 rfl rfl rfl ?_
    refine j_ldc (q := 15) C dX11_days_13 rfl kw_903 ?_
    refine jV1 jc11 (q := 18) C dX11_days_15 rfl hR.1.1 mX11_finding kw_904 kw_905 kw_28 (ctX11_finding hR) rfl rfl (by decide) (Nat.le_of_ble_eq_true rfl) (by decide) ?_
    first | refine j_i2lN (q := 19) C dX11_days_18 rfl (by omega) ?_ | refine j_i2l (q := 19) C dX11_days_18 rfl rfl ?_
    exact j_lret C E dX11_days_19 rfl rfl (rU_b (by unfold sDays; rw [show nA d n 30 = (-100001, true) from if_neg (jb_0.mp c_9)]; rfl) mEq.rf)

