def rSc (o b : Nat) : Prop := b = o + 1 ∨ b = o + 2 ∨ b = o + 11 ∨ b = o + 12 ∨ b = o + 13
/-- a call's end, whatever the scratch rows hold -/
def rU (o : Nat) (M : jM) (s : sA) : Option Value → jM → Prop := fun r M2 => r = some (.long s.1) ∧ mEq (rSc o) (rB o M s.2.1) M2 ∧ M2.2.1 (o + 1) = s.2.2
theorem rU_o {o sz : Nat} {Sh : jS} {M M2 : jM} {s : sA} {v : Int64} {N : Nat → Int64} (h : s = (v, false, N)) (e : mEq (rSc o) M M2) : jT sz Sh (rU o M s) (some (.long v)) sz Sh (jw M2 (o + 1) N) := by
  subst h
  exact ⟨rfl, rfl, rfl, e.w (Or.inl rfl), jw_at _ _ _⟩
theorem rU_b {o sz : Nat} {Sh : jS} {M M2 : jM} {s : sA} {v : Int64} {N : Nat → Int64} (h : s = (v, true, N)) (e : mEq (rSc o) (rBad o M) M2) : jT sz Sh (rU o M s) (some (.long v)) sz Sh (jw M2 (o + 1) N) := by
  subst h
  exact ⟨rfl, rfl, rfl, e.w (Or.inl rfl), jw_at _ _ _⟩
def sHabit (N : Nat → Int64) (p w v : Int32) : sA := if okP N p ∧ okW w 2 ∧ okW v (if w = 0 then 10 else if w = nI 1 then 1000 else 99) then (N (10 + 10 * p.toNatClampNeg + (if w = 0 then 3 else if w = nI 1 then 4 else 2)), false, va_up N (10 + 10 * p.toNatClampNeg + (if w = 0 then 3 else if w = nI 1 then 4 else 2)) v.toInt64) else (-100001, true, N)
def gPaper (N : Nat → Int64) (kd who : Int32) (sm : Int64) (du : Int32) : Prop := okW kd 5 ∧ ¬ who < 0 ∧ okP N (who - who / nI 100 * nI 100) ∧ (kd = nI 4 → who < nI 100) ∧ (¬ kd = nI 4 → okP N (who / nI 100)) ∧ ((1 : Int64) ≤ sm ∧ sm ≤ 1000000000000000) ∧ (N 0 ≤ du.toInt64 ∧ du.toInt64 ≤ 300)
noncomputable def sPaper (N : Nat → Int64) (kd who : Int32) (sm : Int64) (du : Int32) : sA := ifC (gPaper N kd who sm du) (if ¬ kd = nI 4 ∧ who / nI 100 = who - who / nI 100 * nI 100 then (-100003, true, N) else if N 5 = 24 then (-100005, true, N) else (N 5, false, nPaperW N kd.toInt64 (if kd = nI 4 then -1 else (who / nI 100).toInt64) (who - who / nI 100 * nI 100).toInt64 sm du.toInt64)) (-100001, true, N)
def sOwed (LT : Nat → sT) (N : Nat → Int64) (d la : Nat) (q c : Int32) : sA := if okQ N q ∧ okW c 1 then (if N (110 + 7 * q.toNatClampNeg + 6) = 0 then (nOwed LT N d la q.toNatClampNeg c.toInt64, false, N) else (-100006, true, N)) else (-100001, true, N)
def nPaidUp (LT : Nat → sT) (N : Nat → Int64) (d la j : Nat) : Nat → Int64 := nSett (nPays N j (nv (N (110 + 7 * j + 1))) (nv (N (110 + 7 * j + 2))) (nOwed LT N d la j 0)) d j (nv (N (110 + 7 * j + 4))) (nv (N (110 + 7 * j + 1))) (nv (N (110 + 7 * j + 2))) (nOwed LT N d la j 0)
def sPay (LT : Nat → sT) (N : Nat → Int64) (d la : Nat) (q : Int32) : sA := if okQ N q then (if N (110 + 7 * q.toNatClampNeg + 6) = 0 then (if N (110 + 7 * q.toNatClampNeg + 0) = 3 ∨ N (110 + 7 * q.toNatClampNeg + 0) = 4 then (-100004, true, N) else if N (10 + 10 * nv (N (110 + 7 * q.toNatClampNeg + 1)) + 0) < nOwed LT N d la q.toNatClampNeg 0 then (-100008, true, N) else (nOwed LT N d la q.toNatClampNeg 0, false, nPaidUp LT N d la q.toNatClampNeg)) else (-100006, true, N)) else (-100001, true, N)
def nUnl (LT : Nat → sT) (N : Nat → Int64) (d la : Nat) : Nat → Nat → Nat
  | k, 0 => k
  | k, m + 1 => if N (110 + 7 * k + 6) = 0 ∧ ¬ nOwed LT N d la k 0 = nOwed LT N d la k 1 then k else nUnl LT N d la (k + 1) m
theorem nUnl_le {LT : Nat → sT} {N : Nat → Int64} {d la : Nat} : ∀ m k, nUnl LT N d la k m ≤ k + m
  | 0, k => Nat.le_refl _
  | m + 1, k => by
    rw [nUnl]
    split
    · omega
    · have := nUnl_le (LT := LT) (N := N) (d := d) (la := la) m (k + 1)
      omega
def sUnlike (LT : Nat → sT) (N : Nat → Int64) (d la pa : Nat) : sA := if nUnl LT N d la 0 pa = pa then (-100006, true, N) else (lN (nUnl LT N d la 0 pa), false, N)
def sLaw (N : Nat → Int64) (la : Nat) (c e : Int32) : sA := if okW c 1 ∧ okW e 300 then (if nLaw N c.toInt64 e.toInt64 la < 0 then (-100006, true, N) else ((nLaw N c.toInt64 e.toInt64 la).toInt64, false, N)) else (-100001, true, N)
def nThin (N : Nat → Int64) (pa : Nat) : Nat → Int64
  | 0 => 0
  | k + 1 => if N (10 + 10 * k + 0) < nNotes N k pa then nThin N pa k ||| lN (2 ^ k) else nThin N pa k
theorem orz (x : Int64) : x ||| 0 = x := by
  apply Int64.toBitVec_inj.mp
  simp
theorem lshl1 {k : Nat} (h : k < 10) : (1 : Int64) <<< ((nI k).toInt64 &&& 63) = lN (2 ^ k) := by
  rcases (show k = 0 ∨ k = 1 ∨ k = 2 ∨ k = 3 ∨ k = 4 ∨ k = 5 ∨ k = 6 ∨ k = 7 ∨ k = 8 ∨ k = 9 by omega) with e | e | e | e | e | e | e | e | e | e <;> subst e <;> decide
set_option maxRecDepth 100000 in
set_option maxHeartbeats 4000000 in
theorem ctX11_habit {G : jG} {sz : Nat} {Sh : jS} {M : jM} {o : Nat} {N : Nat → Int64} (hR : rLay o Sh M) {pe : Nat} (h4 : N 4 = lN pe) (hpe : pe ≤ 10) {p w v : Int32} : jC G yX11_habit cX11_habit 7 (Option.some FieldType.long) (jrm 3 0 0) sz Sh (jw M (o + 1) N) [.ref o, .int p, .int w, .int v] (jPub o sz Sh M (sHabit N p w v)) := by
  refine jC_start (by decide +kernel) (Nat.le_of_ble_eq_true rfl) (fun X C E hN0 => ?_)
  refine j_aload_n (q := 1) C dX11_habit_0 rfl rfl rfl ?_
  refine j_iload_n (q := 2) C dX11_habit_1 rfl rfl rfl ?_
  first | refine j_i2lN (q := 3) C dX11_habit_2 rfl (by omega) ?_ | refine j_i2l (q := 3) C dX11_habit_2 rfl rfl ?_
  refine jV1 jc11 (q := 6) C dX11_habit_3 rfl hR.1.1 mX11_isPerson kw_917 kw_918 kw_29 (ctX11_isPerson hR) rfl rfl (by decide) (Nat.le_of_ble_eq_true rfl) (by decide) ?_
  refine j_if_eq (q := 9) (tgt := 54) C dX11_habit_6 rfl (by decide) (fun c_6 => ?_) (fun c_6 => ?_)
  · refine j_aload_n (q := 55) C dX11_habit_54 rfl rfl rfl ?_
    refine j_ldc (q := 57) C dX11_habit_55 rfl kw_903 ?_
    refine jV1 jc11 (q := 60) C dX11_habit_57 rfl hR.1.1 mX11_finding kw_904 kw_905 kw_28 (ctX11_finding hR) rfl rfl (by decide) (Nat.le_of_ble_eq_true rfl) (by decide) ?_
    first | refine j_i2lN (q := 61) C dX11_habit_60 rfl (by omega) ?_ | refine j_i2l (q := 61) C dX11_habit_60 rfl rfl ?_
    exact j_lret C E dX11_habit_61 rfl rfl (jPub_b (if_neg (fun h => jb_0.mp c_6 h.1)))
  · refine j_iload_n (q := 10) C dX11_habit_9 rfl rfl rfl ?_
    first | refine j_i2lN (q := 11) C dX11_habit_10 rfl (by omega) ?_ | refine j_i2l (q := 11) C dX11_habit_10 rfl rfl ?_
    refine j_lconst (v := 0) (q := 12) C dX11_habit_11 rfl (by decide) ?_
    refine j_ldc2 (q := 15) C dX11_habit_12 rfl kw_920 ?_
    refine jS1 (q := 18) C dX11_habit_15 rfl mX11_within kw_898 kw_899 ctX11_within rfl rfl (by decide) (Nat.le_of_ble_eq_true rfl) (by decide) ?_
    refine j_if_eq (q := 21) (tgt := 54) C dX11_habit_18 rfl (by decide) (fun c_18 => ?_) (fun c_18 => ?_)
    · refine j_aload_n (q := 55) C dX11_habit_54 rfl rfl rfl ?_
      refine j_ldc (q := 57) C dX11_habit_55 rfl kw_903 ?_
      refine jV1 jc11 (q := 60) C dX11_habit_57 rfl hR.1.1 mX11_finding kw_904 kw_905 kw_28 (ctX11_finding hR) rfl rfl (by decide) (Nat.le_of_ble_eq_true rfl) (by decide) ?_
      first | refine j_i2lN (q := 61) C dX11_habit_60 rfl (by omega) ?_ | refine j_i2l (q := 61) C dX11_habit_60 rfl rfl ?_
      exact j_lret C E dX11_habit_61 rfl rfl (jPub_b (if_neg (fun h => jb_0.mp c_18 h.2.1)))
    · refine j_iload_n (q := 22) C dX11_habit_21 rfl rfl rfl ?_
      first | refine j_i2lN (q := 23) C dX11_habit_22 rfl (by omega) ?_ | refine j_i2l (q := 23) C dX11_habit_22 rfl rfl ?_
      refine j_lconst (v := 0) (q := 24) C dX11_habit_23 rfl (by decide) ?_
      refine j_iload_n (q := 25) C dX11_habit_24 rfl rfl rfl ?_
      refine j_if_ne (q := 28) (tgt := 34) C dX11_habit_25 rfl (by decide) (fun c_25 => ?_) (fun c_25 => ?_)
      · refine j_iload_n (q := 35) C dX11_habit_34 rfl rfl rfl ?_
        refine j_iconst (v := nI 1) (q := 36) C dX11_habit_35 rfl (by decide) ?_
        refine j_icmp_ne (q := 39) (tgt := 45) C dX11_habit_36 rfl (by decide) (fun c_36 => ?_) (fun c_36 => ?_)
        · refine j_ldc2 (q := 48) C dX11_habit_45 rfl kw_902 ?_
          refine jS1 (q := 51) C dX11_habit_48 rfl mX11_within kw_898 kw_899 ctX11_within rfl rfl (by decide) (Nat.le_of_ble_eq_true rfl) (by decide) ?_
          refine j_if_ne (q := 54) (tgt := 62) C dX11_habit_51 rfl (by decide) (fun c_51 => ?_) (fun c_51 => ?_)
          · have hpp := jb_n.mp c_6
            have e_p := jb_n.mp c_6
            rw [h4] at e_p
            obtain ⟨i, hi, rfl⟩ := jix (by omega) e_p.1 e_p.2
            have eI : (nI i).toNatClampNeg = i := nI_clamp (by omega)
            refine j_iload_n (q := 63) C dX11_habit_62 rfl rfl rfl ?_
            refine j_iload_n (q := 64) C dX11_habit_63 rfl rfl rfl ?_
            refine j_if_ne (q := 67) (tgt := 71) C dX11_habit_64 rfl (by decide) (fun c_64 => ?_) (fun c_64 => absurd c_64 c_25)
            refine j_iload_n (q := 72) C dX11_habit_71 rfl rfl rfl ?_
            refine j_iconst (v := nI 1) (q := 73) C dX11_habit_72 rfl (by decide) ?_
            refine j_icmp_ne (q := 76) (tgt := 80) C dX11_habit_73 rfl (by decide) (fun c_73 => ?_) (fun c_73 => absurd c_73 c_36)
            refine j_iconst (v := nI 2) (q := 81) C dX11_habit_80 rfl (by decide) ?_
            refine jS1 (q := 84) C dX11_habit_81 rfl mX11_of kw_908 kw_909 ctX11_of rfl rfl (by decide) (Nat.le_of_ble_eq_true rfl) (by decide) ?_
            refine j_istore (lv' := [(4, _), (0, _), (1, _), (2, _), (3, _)]) (q := 86) C dX11_habit_84 rfl (by decide) rfl ?_
            refine j_aload_n (q := 87) C dX11_habit_86 rfl rfl rfl ?_
            refine jg_Model_now (q := 90) C dX11_habit_87 rfl hR.1.1 kw_869 hR.2.1 ?_
            refine j_iload (q := 92) C dX11_habit_90 rfl rfl ?_
            refine j_laldW (q := 93) C dX11_habit_92 rfl hR.1.2.1 (by omega) (by decide) ?_
            refine j_lstore (lv' := [(5, _), (4, _), (0, _), (1, _), (2, _), (3, _)]) (q := 95) C dX11_habit_93 rfl (by decide) rfl ?_
            refine j_aload_n (q := 96) C dX11_habit_95 rfl rfl rfl ?_
            refine jg_Model_now (q := 99) C dX11_habit_96 rfl hR.1.1 kw_869 hR.2.1 ?_
            refine j_iload (q := 101) C dX11_habit_99 rfl rfl ?_
            refine j_iload_n (q := 102) C dX11_habit_101 rfl rfl rfl ?_
            first | refine j_i2lN (q := 103) C dX11_habit_102 rfl (by omega) ?_ | refine j_i2l (q := 103) C dX11_habit_102 rfl rfl ?_
            refine j_lastW (q := 104) C dX11_habit_103 rfl hR.1.2.1 (by omega) (by decide) ?_
            refine j_lload (q := 106) C dX11_habit_104 rfl rfl ?_
            exact j_lret C E dX11_habit_106 rfl rfl (jPub_o (by unfold sHabit; rw [if_neg c_25, if_neg c_36]; rw [if_pos (show okP N (nI i) ∧ okW w 2 ∧ okW v _ from ⟨hpp, jb_n.mp c_18, jb_n.mp c_51⟩), eI, if_neg c_25, if_neg c_36]))
          · refine j_aload_n (q := 55) C dX11_habit_54 rfl rfl rfl ?_
            refine j_ldc (q := 57) C dX11_habit_55 rfl kw_903 ?_
            refine jV1 jc11 (q := 60) C dX11_habit_57 rfl hR.1.1 mX11_finding kw_904 kw_905 kw_28 (ctX11_finding hR) rfl rfl (by decide) (Nat.le_of_ble_eq_true rfl) (by decide) ?_
            first | refine j_i2lN (q := 61) C dX11_habit_60 rfl (by omega) ?_ | refine j_i2l (q := 61) C dX11_habit_60 rfl rfl ?_
            exact j_lret C E dX11_habit_61 rfl rfl (jPub_b (if_neg (fun h => jb_0.mp c_51 (by have g := h.2.2; rw [if_neg c_25, if_neg c_36] at g; exact g))))
        · refine j_ldc2 (q := 42) C dX11_habit_39 rfl kw_912 ?_
          refine j_goto (tgt := 48) C dX11_habit_42 (by decide) ?_
          refine jS1 (q := 51) C dX11_habit_48 rfl mX11_within kw_898 kw_899 ctX11_within rfl rfl (by decide) (Nat.le_of_ble_eq_true rfl) (by decide) ?_
          refine j_if_ne (q := 54) (tgt := 62) C dX11_habit_51 rfl (by decide) (fun c_51 => ?_) (fun c_51 => ?_)
          · have hpp := jb_n.mp c_6
            have e_p := jb_n.mp c_6
            rw [h4] at e_p
            obtain ⟨i, hi, rfl⟩ := jix (by omega) e_p.1 e_p.2
            have eI : (nI i).toNatClampNeg = i := nI_clamp (by omega)
            refine j_iload_n (q := 63) C dX11_habit_62 rfl rfl rfl ?_
            refine j_iload_n (q := 64) C dX11_habit_63 rfl rfl rfl ?_
            refine j_if_ne (q := 67) (tgt := 71) C dX11_habit_64 rfl (by decide) (fun c_64 => ?_) (fun c_64 => absurd c_64 c_25)
            refine j_iload_n (q := 72) C dX11_habit_71 rfl rfl rfl ?_
            refine j_iconst (v := nI 1) (q := 73) C dX11_habit_72 rfl (by decide) ?_
            refine j_icmp_ne (q := 76) (tgt := 80) C dX11_habit_73 rfl (by decide) (fun c_73 => absurd c_36 c_73) (fun c_73 => ?_)
            refine j_iconst (v := nI 4) (q := 77) C dX11_habit_76 rfl (by decide) ?_
            refine j_goto (tgt := 81) C dX11_habit_77 (by decide) ?_
            refine jS1 (q := 84) C dX11_habit_81 rfl mX11_of kw_908 kw_909 ctX11_of rfl rfl (by decide) (Nat.le_of_ble_eq_true rfl) (by decide) ?_
            refine j_istore (lv' := [(4, _), (0, _), (1, _), (2, _), (3, _)]) (q := 86) C dX11_habit_84 rfl (by decide) rfl ?_
            refine j_aload_n (q := 87) C dX11_habit_86 rfl rfl rfl ?_
            refine jg_Model_now (q := 90) C dX11_habit_87 rfl hR.1.1 kw_869 hR.2.1 ?_
            refine j_iload (q := 92) C dX11_habit_90 rfl rfl ?_
            refine j_laldW (q := 93) C dX11_habit_92 rfl hR.1.2.1 (by omega) (by decide) ?_
            refine j_lstore (lv' := [(5, _), (4, _), (0, _), (1, _), (2, _), (3, _)]) (q := 95) C dX11_habit_93 rfl (by decide) rfl ?_
            refine j_aload_n (q := 96) C dX11_habit_95 rfl rfl rfl ?_
            refine jg_Model_now (q := 99) C dX11_habit_96 rfl hR.1.1 kw_869 hR.2.1 ?_
            refine j_iload (q := 101) C dX11_habit_99 rfl rfl ?_
            refine j_iload_n (q := 102) C dX11_habit_101 rfl rfl rfl ?_
            first | refine j_i2lN (q := 103) C dX11_habit_102 rfl (by omega) ?_ | refine j_i2l (q := 103) C dX11_habit_102 rfl rfl ?_
            refine j_lastW (q := 104) C dX11_habit_103 rfl hR.1.2.1 (by omega) (by decide) ?_
            refine j_lload (q := 106) C dX11_habit_104 rfl rfl ?_
            exact j_lret C E dX11_habit_106 rfl rfl (jPub_o (by unfold sHabit; rw [if_neg c_25, if_pos c_36]; rw [if_pos (show okP N (nI i) ∧ okW w 2 ∧ okW v _ from ⟨hpp, jb_n.mp c_18, jb_n.mp c_51⟩), eI, if_neg c_25, if_pos c_36]))
          · refine j_aload_n (q := 55) C dX11_habit_54 rfl rfl rfl ?_
            refine j_ldc (q := 57) C dX11_habit_55 rfl kw_903 ?_
            refine jV1 jc11 (q := 60) C dX11_habit_57 rfl hR.1.1 mX11_finding kw_904 kw_905 kw_28 (ctX11_finding hR) rfl rfl (by decide) (Nat.le_of_ble_eq_true rfl) (by decide) ?_
            first | refine j_i2lN (q := 61) C dX11_habit_60 rfl (by omega) ?_ | refine j_i2l (q := 61) C dX11_habit_60 rfl rfl ?_
            exact j_lret C E dX11_habit_61 rfl rfl (jPub_b (if_neg (fun h => jb_0.mp c_51 (by have g := h.2.2; rw [if_neg c_25, if_pos c_36] at g; exact g))))
      · refine j_ldc2 (q := 31) C dX11_habit_28 rfl kw_921 ?_
        refine j_goto (tgt := 48) C dX11_habit_31 (by decide) ?_
        refine jS1 (q := 51) C dX11_habit_48 rfl mX11_within kw_898 kw_899 ctX11_within rfl rfl (by decide) (Nat.le_of_ble_eq_true rfl) (by decide) ?_
        refine j_if_ne (q := 54) (tgt := 62) C dX11_habit_51 rfl (by decide) (fun c_51 => ?_) (fun c_51 => ?_)
        · have hpp := jb_n.mp c_6
          have e_p := jb_n.mp c_6
          rw [h4] at e_p
          obtain ⟨i, hi, rfl⟩ := jix (by omega) e_p.1 e_p.2
          have eI : (nI i).toNatClampNeg = i := nI_clamp (by omega)
          refine j_iload_n (q := 63) C dX11_habit_62 rfl rfl rfl ?_
          refine j_iload_n (q := 64) C dX11_habit_63 rfl rfl rfl ?_
          refine j_if_ne (q := 67) (tgt := 71) C dX11_habit_64 rfl (by decide) (fun c_64 => absurd c_25 c_64) (fun c_64 => ?_)
          refine j_iconst (v := nI 3) (q := 68) C dX11_habit_67 rfl (by decide) ?_
          refine j_goto (tgt := 81) C dX11_habit_68 (by decide) ?_
          refine jS1 (q := 84) C dX11_habit_81 rfl mX11_of kw_908 kw_909 ctX11_of rfl rfl (by decide) (Nat.le_of_ble_eq_true rfl) (by decide) ?_
          refine j_istore (lv' := [(4, _), (0, _), (1, _), (2, _), (3, _)]) (q := 86) C dX11_habit_84 rfl (by decide) rfl ?_
          refine j_aload_n (q := 87) C dX11_habit_86 rfl rfl rfl ?_
          refine jg_Model_now (q := 90) C dX11_habit_87 rfl hR.1.1 kw_869 hR.2.1 ?_
          refine j_iload (q := 92) C dX11_habit_90 rfl rfl ?_
          refine j_laldW (q := 93) C dX11_habit_92 rfl hR.1.2.1 (by omega) (by decide) ?_
          refine j_lstore (lv' := [(5, _), (4, _), (0, _), (1, _), (2, _), (3, _)]) (q := 95) C dX11_habit_93 rfl (by decide) rfl ?_
          refine j_aload_n (q := 96) C dX11_habit_95 rfl rfl rfl ?_
          refine jg_Model_now (q := 99) C dX11_habit_96 rfl hR.1.1 kw_869 hR.2.1 ?_
          refine j_iload (q := 101) C dX11_habit_99 rfl rfl ?_
          refine j_iload_n (q := 102) C dX11_habit_101 rfl rfl rfl ?_
          first | refine j_i2lN (q := 103) C dX11_habit_102 rfl (by omega) ?_ | refine j_i2l (q := 103) C dX11_habit_102 rfl rfl ?_
          refine j_lastW (q := 104) C dX11_habit_103 rfl hR.1.2.1 (by omega) (by decide) ?_
          refine j_lload (q := 106) C dX11_habit_104 rfl rfl ?_
          exact j_lret C E dX11_habit_106 rfl rfl (jPub_o (by unfold sHabit; rw [if_pos c_25]; rw [if_pos (show okP N (nI i) ∧ okW w 2 ∧ okW v _ from ⟨hpp, jb_n.mp c_18, jb_n.mp c_51⟩), eI, if_pos c_25]))
        · refine j_aload_n (q := 55) C dX11_habit_54 rfl rfl rfl ?_
          refine j_ldc (q := 57) C dX11_habit_55 rfl kw_903 ?_
          refine jV1 jc11 (q := 60) C dX11_habit_57 rfl hR.1.1 mX11_finding kw_904 kw_905 kw_28 (ctX11_finding hR) rfl rfl (by decide) (Nat.le_of_ble_eq_true rfl) (by decide) ?_
          first | refine j_i2lN (q := 61) C dX11_habit_60 rfl (by omega) ?_ | refine j_i2l (q := 61) C dX11_habit_60 rfl rfl ?_
          exact j_lret C E dX11_habit_61 rfl rfl (jPub_b (if_neg (fun h => jb_0.mp c_51 (by have g := h.2.2; rw [if_pos c_25] at g; exact g))))

set_option maxRecDepth 100000 in
set_option maxHeartbeats 4000000 in
theorem ctX11_law {G : jG} {sz : Nat} {Sh : jS} {M : jM} {o : Nat} {N : Nat → Int64} (hR : rLay o Sh M) {la : Nat} (h6 : N 6 = lN la) (hla : la ≤ 12) {c e : Int32} : jC G yX11_law cX11_law 4 (Option.some FieldType.long) (jrm 2 0 0) sz Sh (jw M (o + 1) N) [.ref o, .int c, .int e] (jPub o sz Sh M (sLaw N la c e)) := by
  refine jC_start (by decide +kernel) (Nat.le_of_ble_eq_true rfl) (fun X C E hN0 => ?_)
  refine j_iload_n (q := 1) C dX11_law_0 rfl rfl rfl ?_
  first | refine j_i2lN (q := 2) C dX11_law_1 rfl (by omega) ?_ | refine j_i2l (q := 2) C dX11_law_1 rfl rfl ?_
  refine j_lconst (v := 0) (q := 3) C dX11_law_2 rfl (by decide) ?_
  refine j_lconst (v := 1) (q := 4) C dX11_law_3 rfl (by decide) ?_
  refine jS1 (q := 7) C dX11_law_4 rfl mX11_within kw_898 kw_899 (ctX11_within) rfl rfl (by decide) (Nat.le_of_ble_eq_true rfl) (by decide) ?_
  refine j_if_eq (q := 10) (tgt := 22) C dX11_law_7 rfl (by decide) (fun c_7 => ?_) (fun c_7 => ?_)
  · refine j_aload_n (q := 23) C dX11_law_22 rfl rfl rfl ?_
    refine j_ldc (q := 25) C dX11_law_23 rfl kw_903 ?_
    refine jV1 jc11 (q := 28) C dX11_law_25 rfl hR.1.1 mX11_finding kw_904 kw_905 kw_28 (ctX11_finding hR) rfl rfl (by decide) (Nat.le_of_ble_eq_true rfl) (by decide) ?_
    first | refine j_i2lN (q := 29) C dX11_law_28 rfl (by omega) ?_ | refine j_i2l (q := 29) C dX11_law_28 rfl rfl ?_
    exact j_lret C E dX11_law_29 rfl rfl (jPub_b (if_neg (fun h => jb_0.mp c_7 h.1)))
  · refine j_iload_n (q := 11) C dX11_law_10 rfl rfl rfl ?_
    first | refine j_i2lN (q := 12) C dX11_law_11 rfl (by omega) ?_ | refine j_i2l (q := 12) C dX11_law_11 rfl rfl ?_
    refine j_lconst (v := 0) (q := 13) C dX11_law_12 rfl (by decide) ?_
    refine j_ldc2 (q := 16) C dX11_law_13 rfl kw_935 ?_
    refine jS1 (q := 19) C dX11_law_16 rfl mX11_within kw_898 kw_899 (ctX11_within) rfl rfl (by decide) (Nat.le_of_ble_eq_true rfl) (by decide) ?_
    refine j_if_ne (q := 22) (tgt := 30) C dX11_law_19 rfl (by decide) (fun c_19 => ?_) (fun c_19 => ?_)
    · refine j_aload_n (q := 31) C dX11_law_30 rfl rfl rfl ?_
      refine j_iload_n (q := 32) C dX11_law_31 rfl rfl rfl ?_
      refine j_iload_n (q := 33) C dX11_law_32 rfl rfl rfl ?_
      refine jV1 jc11 (q := 36) C dX11_law_33 rfl hR.1.1 mX11_lawOn kw_971 kw_972 kw_35 (ctX11_lawOn hR h6 hla) rfl rfl (by decide) (Nat.le_of_ble_eq_true rfl) (by decide) ?_
      refine j_istore_n (lv' := [(3, _), (0, _), (1, _), (2, _)]) (q := 37) C dX11_law_36 rfl rfl (by decide) rfl ?_
      refine j_iload_n (q := 38) C dX11_law_37 rfl rfl rfl ?_
      refine j_if_ge (q := 41) (tgt := 51) C dX11_law_38 rfl (by decide) (fun c_38 => ?_) (fun c_38 => ?_)
      · refine j_iload_n (q := 52) C dX11_law_51 rfl rfl rfl ?_
        first | refine j_i2lN (q := 53) C dX11_law_52 rfl (by omega) ?_ | refine j_i2l (q := 53) C dX11_law_52 rfl rfl ?_
        exact j_lret C E dX11_law_53 rfl rfl (jPub_o (by unfold sLaw; rw [if_pos ⟨jb_n.mp c_7, jb_n.mp c_19⟩, if_neg (Int32.not_lt.mpr c_38)]))
      · refine j_aload_n (q := 42) C dX11_law_41 rfl rfl rfl ?_
        refine j_ldc (q := 44) C dX11_law_42 rfl kw_990 ?_
        refine jV1 jc11 (q := 47) C dX11_law_44 rfl hR.1.1 mX11_finding kw_904 kw_905 kw_28 (ctX11_finding hR) rfl rfl (by decide) (Nat.le_of_ble_eq_true rfl) (by decide) ?_
        first | refine j_i2lN (q := 48) C dX11_law_47 rfl (by omega) ?_ | refine j_i2l (q := 48) C dX11_law_47 rfl rfl ?_
        refine j_goto (tgt := 53) C dX11_law_48 (by decide) ?_
        exact j_lret C E dX11_law_53 rfl rfl (jPub_b (by unfold sLaw; rw [if_pos ⟨jb_n.mp c_7, jb_n.mp c_19⟩, if_pos (Int32.not_le.mp c_38)]; rfl))
    · refine j_aload_n (q := 23) C dX11_law_22 rfl rfl rfl ?_
      refine j_ldc (q := 25) C dX11_law_23 rfl kw_903 ?_
      refine jV1 jc11 (q := 28) C dX11_law_25 rfl hR.1.1 mX11_finding kw_904 kw_905 kw_28 (ctX11_finding hR) rfl rfl (by decide) (Nat.le_of_ble_eq_true rfl) (by decide) ?_
      first | refine j_i2lN (q := 29) C dX11_law_28 rfl (by omega) ?_ | refine j_i2l (q := 29) C dX11_law_28 rfl rfl ?_
      exact j_lret C E dX11_law_29 rfl rfl (jPub_b (if_neg (fun h => jb_0.mp c_19 h.2)))

set_option maxRecDepth 100000 in
set_option maxHeartbeats 4000000 in
theorem ctX11_owed {G : jG} {sz : Nat} {Sh : jS} {M : jM} {o : Nat} {N : Nat → Int64} (hR : rLay o Sh M) {d pe pa la : Nat} (hO : nOk N d pe pa la) {LT : Nat → sT} (hL : lOk o M la LT) {q c : Int32} : jC G yX11_owed cX11_owed 3 (Option.some FieldType.long) (jrm 5 0 0) sz Sh (jw M (o + 1) N) [.ref o, .int q, .int c] (jT sz Sh (rU o M (sOwed LT N d la q c))) := by
  refine jC_start (by decide +kernel) (Nat.le_of_ble_eq_true rfl) (fun X C E hN0 => ?_)
  have h5 := hO.2.2.1.1
  have hpa := hO.2.2.1.2
  refine j_aload_n (q := 1) C dX11_owed_0 rfl rfl rfl ?_
  refine j_iload_n (q := 2) C dX11_owed_1 rfl rfl rfl ?_
  refine jV1 jc11 (q := 5) C dX11_owed_2 rfl hR.1.1 mX11_isPaper kw_945 kw_946 kw_30 (ctX11_isPaper hR) rfl rfl (by decide) (Nat.le_of_ble_eq_true rfl) (by decide) ?_
  refine j_if_eq (q := 8) (tgt := 18) C dX11_owed_5 rfl (by decide) (fun c_5 => ?_) (fun c_5 => ?_)
  · refine j_aload_n (q := 19) C dX11_owed_18 rfl rfl rfl ?_
    refine j_ldc (q := 21) C dX11_owed_19 rfl kw_903 ?_
    refine jV1 jc11 (q := 24) C dX11_owed_21 rfl hR.1.1 mX11_finding kw_904 kw_905 kw_28 (ctX11_finding hR) rfl rfl (by decide) (Nat.le_of_ble_eq_true rfl) (by decide) ?_
    first | refine j_i2lN (q := 25) C dX11_owed_24 rfl (by omega) ?_ | refine j_i2l (q := 25) C dX11_owed_24 rfl rfl ?_
    exact j_lret C E dX11_owed_25 rfl rfl (rU_b (if_neg (fun h => jb_0.mp c_5 h.1)) mEq.rf)
  · refine j_iload_n (q := 9) C dX11_owed_8 rfl rfl rfl ?_
    first | refine j_i2lN (q := 10) C dX11_owed_9 rfl (by omega) ?_ | refine j_i2l (q := 10) C dX11_owed_9 rfl rfl ?_
    refine j_lconst (v := 0) (q := 11) C dX11_owed_10 rfl (by decide) ?_
    refine j_lconst (v := 1) (q := 12) C dX11_owed_11 rfl (by decide) ?_
    refine jS1 (q := 15) C dX11_owed_12 rfl mX11_within kw_898 kw_899 (ctX11_within) rfl rfl (by decide) (Nat.le_of_ble_eq_true rfl) (by decide) ?_
    refine j_if_ne (q := 18) (tgt := 26) C dX11_owed_15 rfl (by decide) (fun c_15 => ?_) (fun c_15 => ?_)
    · have hqq := jb_n.mp c_5
      have e_p := jb_n.mp c_5
      rw [h5] at e_p
      obtain ⟨j, hj, rfl⟩ := jix (by omega) e_p.1 e_p.2
      have eI : (nI j).toNatClampNeg = j := nI_clamp (by omega)
      refine j_aload_n (q := 27) C dX11_owed_26 rfl rfl rfl ?_
      refine j_iload_n (q := 28) C dX11_owed_27 rfl rfl rfl ?_
      refine jV1 jc11 (q := 31) C dX11_owed_28 rfl hR.1.1 mX11_isOpen kw_959 kw_960 kw_31 (ctX11_isOpen hR (by omega)) rfl rfl (by decide) (Nat.le_of_ble_eq_true rfl) (by decide) ?_
      refine j_if_eq (q := 34) (tgt := 43) C dX11_owed_31 rfl (by decide) (fun c_31 => ?_) (fun c_31 => ?_)
      · refine j_aload_n (q := 44) C dX11_owed_43 rfl rfl rfl ?_
        refine j_ldc (q := 46) C dX11_owed_44 rfl kw_990 ?_
        refine jV1 jc11 (q := 49) C dX11_owed_46 rfl hR.1.1 mX11_finding kw_904 kw_905 kw_28 (ctX11_finding hR) rfl rfl (by decide) (Nat.le_of_ble_eq_true rfl) (by decide) ?_
        first | refine j_i2lN (q := 50) C dX11_owed_49 rfl (by omega) ?_ | refine j_i2l (q := 50) C dX11_owed_49 rfl rfl ?_
        exact j_lret C E dX11_owed_50 rfl rfl (rU_b (by unfold sOwed; rw [if_pos ⟨hqq, jb_n.mp c_15⟩, eI, if_neg (jb_0.mp c_31)]; rfl) mEq.rf)
      · refine j_aload_n (q := 35) C dX11_owed_34 rfl rfl rfl ?_
        refine j_iload_n (q := 36) C dX11_owed_35 rfl rfl rfl ?_
        refine j_iload_n (q := 37) C dX11_owed_36 rfl rfl rfl ?_
        refine jVT jc11 (q := 40) C dX11_owed_37 rfl hR.1.1 mX11_owedOf kw_962 kw_963 kw_32 (ctX11_owedN hR hO hL hj) rfl rfl (by decide) (Nat.le_of_ble_eq_true rfl) (by decide) (fun r_37 M_37 h_37 => ?_)
        obtain ⟨P, rfl, rfl⟩ := h_37
        refine j_goto (tgt := 50) C dX11_owed_40 (by decide) ?_
        exact j_lret C E dX11_owed_50 rfl rfl (rU_o (by unfold sOwed; rw [if_pos ⟨hqq, jb_n.mp c_15⟩, eI, if_pos (jb_n.mp c_31)]) (mEq.rf.w (by unfold rSc; omega)))
    · refine j_aload_n (q := 19) C dX11_owed_18 rfl rfl rfl ?_
      refine j_ldc (q := 21) C dX11_owed_19 rfl kw_903 ?_
      refine jV1 jc11 (q := 24) C dX11_owed_21 rfl hR.1.1 mX11_finding kw_904 kw_905 kw_28 (ctX11_finding hR) rfl rfl (by decide) (Nat.le_of_ble_eq_true rfl) (by decide) ?_
      first | refine j_i2lN (q := 25) C dX11_owed_24 rfl (by omega) ?_ | refine j_i2l (q := 25) C dX11_owed_24 rfl rfl ?_
      exact j_lret C E dX11_owed_25 rfl rfl (rU_b (if_neg (fun h => jb_0.mp c_15 h.2)) mEq.rf)

set_option maxRecDepth 100000 in
set_option maxHeartbeats 4000000 in
theorem ctX11_pay {G : jG} {sz : Nat} {Sh : jS} {M : jM} {o : Nat} {N : Nat → Int64} (hR : rLay o Sh M) {d pe pa la : Nat} (hO : nOk N d pe pa la) {LT : Nat → sT} (hL : lOk o M la LT) {q : Int32} : jC G yX11_pay cX11_pay 4 (Option.some FieldType.long) (jrm 5 0 0) sz Sh (jw M (o + 1) N) [.ref o, .int q] (jT sz Sh (rU o M (sPay LT N d la q))) := by
  refine jC_start (by decide +kernel) (Nat.le_of_ble_eq_true rfl) (fun X C E hN0 => ?_)
  have h5 := hO.2.2.1.1
  have hpa := hO.2.2.1.2
  refine j_aload_n (q := 1) C dX11_pay_0 rfl rfl rfl ?_
  refine j_iload_n (q := 2) C dX11_pay_1 rfl rfl rfl ?_
  refine jV1 jc11 (q := 5) C dX11_pay_2 rfl hR.1.1 mX11_isPaper kw_945 kw_946 kw_30 (ctX11_isPaper hR) rfl rfl (by decide) (Nat.le_of_ble_eq_true rfl) (by decide) ?_
  refine j_if_ne (q := 8) (tgt := 16) C dX11_pay_5 rfl (by decide) (fun c_5 => ?_) (fun c_5 => ?_)
  · have hqq := jb_n.mp c_5
    have e_p := jb_n.mp c_5
    rw [h5] at e_p
    obtain ⟨j, hj, rfl⟩ := jix (by omega) e_p.1 e_p.2
    have eI : (nI j).toNatClampNeg = j := nI_clamp (by omega)
    refine j_aload_n (q := 17) C dX11_pay_16 rfl rfl rfl ?_
    refine j_iload_n (q := 18) C dX11_pay_17 rfl rfl rfl ?_
    refine jV1 jc11 (q := 21) C dX11_pay_18 rfl hR.1.1 mX11_isOpen kw_959 kw_960 kw_31 (ctX11_isOpen hR (by omega)) rfl rfl (by decide) (Nat.le_of_ble_eq_true rfl) (by decide) ?_
    refine j_if_ne (q := 24) (tgt := 32) C dX11_pay_21 rfl (by decide) (fun c_21 => ?_) (fun c_21 => ?_)
    · refine j_aload_n (q := 33) C dX11_pay_32 rfl rfl rfl ?_
      refine jg_Model_now (q := 36) C dX11_pay_33 rfl hR.1.1 kw_869 hR.2.1 ?_
      refine j_iload_n (q := 37) C dX11_pay_36 rfl rfl rfl ?_
      refine j_iconst (v := nI 0) (q := 38) C dX11_pay_37 rfl (by decide) ?_
      refine jS1 (q := 41) C dX11_pay_38 rfl mX11_ofPaper kw_937 kw_938 ctX11_ofPaper rfl rfl (by decide) (Nat.le_of_ble_eq_true rfl) (by decide) ?_
      refine j_laldW (q := 42) C dX11_pay_41 rfl hR.1.2.1 (by omega) (by decide) ?_
      refine j_ldc2 (q := 45) C dX11_pay_42 rfl kw_995 ?_
      refine j_lcmp_eq (q1 := 46) (q := 49) (tgt := 66) C dX11_pay_45 dX11_pay_46 rfl rfl (by decide) (fun c_46 => ?_) (fun c_46 => ?_)
      · refine j_aload_n (q := 67) C dX11_pay_66 rfl rfl rfl ?_
        refine j_ldc (q := 69) C dX11_pay_67 rfl kw_949 ?_
        refine jV1 jc11 (q := 72) C dX11_pay_69 rfl hR.1.1 mX11_finding kw_904 kw_905 kw_28 (ctX11_finding hR) rfl rfl (by decide) (Nat.le_of_ble_eq_true rfl) (by decide) ?_
        first | refine j_i2lN (q := 73) C dX11_pay_72 rfl (by omega) ?_ | refine j_i2l (q := 73) C dX11_pay_72 rfl rfl ?_
        exact j_lret C E dX11_pay_73 rfl rfl (rU_b (by unfold sPay; rw [if_pos hqq, eI, if_pos (jb_n.mp c_21), if_pos (Or.inl c_46)]; rfl) mEq.rf)
      · refine j_aload_n (q := 50) C dX11_pay_49 rfl rfl rfl ?_
        refine jg_Model_now (q := 53) C dX11_pay_50 rfl hR.1.1 kw_869 hR.2.1 ?_
        refine j_iload_n (q := 54) C dX11_pay_53 rfl rfl rfl ?_
        refine j_iconst (v := nI 0) (q := 55) C dX11_pay_54 rfl (by decide) ?_
        refine jS1 (q := 58) C dX11_pay_55 rfl mX11_ofPaper kw_937 kw_938 ctX11_ofPaper rfl rfl (by decide) (Nat.le_of_ble_eq_true rfl) (by decide) ?_
        refine j_laldW (q := 59) C dX11_pay_58 rfl hR.1.2.1 (by omega) (by decide) ?_
        refine j_ldc2 (q := 62) C dX11_pay_59 rfl kw_948 ?_
        refine j_lcmp_ne (q1 := 63) (q := 66) (tgt := 74) C dX11_pay_62 dX11_pay_63 rfl rfl (by decide) (fun c_63 => ?_) (fun c_63 => ?_)
        · refine j_aload_n (q := 75) C dX11_pay_74 rfl rfl rfl ?_
          refine j_iload_n (q := 76) C dX11_pay_75 rfl rfl rfl ?_
          refine j_iconst (v := nI 0) (q := 77) C dX11_pay_76 rfl (by decide) ?_
          refine jVT jc11 (q := 80) C dX11_pay_77 rfl hR.1.1 mX11_owedOf kw_962 kw_963 kw_32 (ctX11_owedN hR hO hL hj) rfl rfl (by decide) (Nat.le_of_ble_eq_true rfl) (by decide) (fun r_77 M_77 h_77 => ?_)
          obtain ⟨P, rfl, rfl⟩ := h_77
          have hpj := hO.2.2.2.2.1 j hj
          have hk34 : ¬ nv (N (110 + 7 * j + 0)) = 4 := fun e => c_63 (by rw [hpj.1.1, e]; rfl)
          have hby : isN (N (110 + 7 * j + 1)) 9 ∧ nv (N (110 + 7 * j + 1)) < pe := by
            rcases hpj.2.1 with h | h
            · exact absurd h.1 hk34
            · exact h.2
          have hpe := hO.2.1.2
          have hd := hO.1.1
          have hd3 := hO.1.2
          obtain ⟨b, hbe⟩ : ∃ b, b = nv (N (110 + 7 * j + 1)) := ⟨_, rfl⟩
          obtain ⟨t, hte⟩ : ∃ t, t = nv (N (110 + 7 * j + 2)) := ⟨_, rfl⟩
          obtain ⟨s, hse⟩ : ∃ s, s = nv (N (110 + 7 * j + 4)) := ⟨_, rfl⟩
          have hb : N (110 + 7 * j + 1) = lN b := by rw [hbe]; exact hby.1.1
          have hb1 : b < 10 := by omega
          have ht : N (110 + 7 * j + 2) = lN t := by rw [hte]; exact hpj.2.2.1.1.1
          have ht1 : t < 10 := by have := hpj.2.2.1.2; omega
          have hs : N (110 + 7 * j + 4) = lN s := by rw [hse]; exact hpj.2.2.2.1.1.1
          have hs1 : s ≤ d := by have := hpj.2.2.2.1.2; omega
          have hnEQ := nPays_eq (N := N) (j := j) (b := b) (t := t) (v := nOwed LT N d la j 0) hb1 ht1
          rw [show (nI 0).toInt64 = 0 from rfl]
          refine j_lstore_n (lv' := [(2, _), (0, _), (1, _)]) (q := 81) C dX11_pay_80 rfl rfl (by decide) rfl ?_
          refine j_aload_n (q := 82) C dX11_pay_81 rfl rfl rfl ?_
          refine jg_Model_now (q := 85) C dX11_pay_82 rfl hR.1.1 kw_869 hR.2.1 ?_
          refine j_aload_n (q := 86) C dX11_pay_85 rfl rfl rfl ?_
          refine jg_Model_now (q := 89) C dX11_pay_86 rfl hR.1.1 kw_869 hR.2.1 ?_
          refine j_iload_n (q := 90) C dX11_pay_89 rfl rfl rfl ?_
          refine j_iconst (v := nI 1) (q := 91) C dX11_pay_90 rfl (by decide) ?_
          refine jS1 (q := 94) C dX11_pay_91 rfl mX11_ofPaper kw_937 kw_938 ctX11_ofPaper rfl rfl (by decide) (Nat.le_of_ble_eq_true rfl) (by decide) ?_
          refine j_laldW (q := 95) C dX11_pay_94 rfl hR.1.2.1 (by omega) (by decide) ?_
          rw [hb]
          first | refine j_l2iN (q := 96) C dX11_pay_95 rfl ?_ | refine j_l2i (q := 96) C dX11_pay_95 rfl rfl ?_
          refine j_iconst (v := nI 0) (q := 97) C dX11_pay_96 rfl (by decide) ?_
          refine jS1 (q := 100) C dX11_pay_97 rfl mX11_of kw_908 kw_909 ctX11_of rfl rfl (by decide) (Nat.le_of_ble_eq_true rfl) (by decide) ?_
          refine j_laldW (q := 101) C dX11_pay_100 rfl hR.1.2.1 (by omega) (by decide) ?_
          refine j_lload_n (q := 102) C dX11_pay_101 rfl rfl rfl ?_
          refine j_lcmp_ge (q1 := 103) (q := 106) (tgt := 114) C dX11_pay_102 dX11_pay_103 rfl rfl (by decide) (fun c_103 => ?_) (fun c_103 => ?_)
          · refine j_aload_n (q := 115) C dX11_pay_114 rfl rfl rfl ?_
            refine j_iload_n (q := 116) C dX11_pay_115 rfl rfl rfl ?_
            refine j_lload_n (q := 117) C dX11_pay_116 rfl rfl rfl ?_
            refine jV0 jc11 (q := 120) C dX11_pay_117 rfl hR.1.1 mX11_pays kw_997 kw_998 kw_38 (ctX11_pays (M := jw M (o + 11) P) hR (by omega) hb hb1 ht ht1) rfl rfl (by decide) (Nat.le_of_ble_eq_true rfl) (by decide) ?_
            refine j_aload_n (q := 121) C dX11_pay_120 rfl rfl rfl ?_
            refine j_iload_n (q := 122) C dX11_pay_121 rfl rfl rfl ?_
            refine j_lload_n (q := 123) C dX11_pay_122 rfl rfl rfl ?_
            refine jV0 jc11 (q := 126) C dX11_pay_123 rfl hR.1.1 mX11_settles kw_1003 kw_1004 kw_40 (ctX11_settles (M := jw M (o + 11) P) hR ((hnEQ 0 (Or.inl rfl)).trans hd) hd3 (by omega) ((hnEQ _ (nStQ (by omega))).trans hb) hb1 ((hnEQ _ (nStQ (by omega))).trans ht) ht1 ((hnEQ _ (nStQ (by omega))).trans hs) (by omega) (by rw [hnEQ (310 + s) (by unfold nSt; omega)]; exact (hO.2.2.2.2.2 s hs1).nz) (by rw [hnEQ (310 + d) (by unfold nSt; omega)]; exact (hO.2.2.2.2.2 d (Nat.le_refl d)).nz)) rfl rfl (by decide) (Nat.le_of_ble_eq_true rfl) (by decide) ?_
            refine j_lload_n (q := 127) C dX11_pay_126 rfl rfl rfl ?_
            exact j_lret C E dX11_pay_127 rfl rfl (rU_o (by unfold sPay; rw [if_pos hqq, eI, if_pos (jb_n.mp c_21), if_neg (fun h => h.elim c_46 c_63), if_neg (by rw [← hbe]; exact Int64.not_lt.mpr c_103)]; unfold nPaidUp; rw [← hbe, ← hte, ← hse]) (mEq.rf.w (by unfold rSc; omega)))
          · refine j_aload_n (q := 107) C dX11_pay_106 rfl rfl rfl ?_
            refine j_ldc (q := 109) C dX11_pay_107 rfl kw_996 ?_
            refine jV1 jc11 (q := 112) C dX11_pay_109 rfl hR.1.1 mX11_finding kw_904 kw_905 kw_28 (ctX11_finding (M := jw M (o + 11) P) hR) rfl rfl (by decide) (Nat.le_of_ble_eq_true rfl) (by decide) ?_
            first | refine j_i2lN (q := 113) C dX11_pay_112 rfl (by omega) ?_ | refine j_i2l (q := 113) C dX11_pay_112 rfl rfl ?_
            exact j_lret C E dX11_pay_113 rfl rfl (rU_b (by unfold sPay; rw [if_pos hqq, eI, if_pos (jb_n.mp c_21), if_neg (fun h => h.elim c_46 c_63), if_pos (by rw [← hbe]; exact Int64.not_le.mp c_103)]; rfl) (mEq.rf.w (by unfold rSc; omega)))
        · refine j_aload_n (q := 67) C dX11_pay_66 rfl rfl rfl ?_
          refine j_ldc (q := 69) C dX11_pay_67 rfl kw_949 ?_
          refine jV1 jc11 (q := 72) C dX11_pay_69 rfl hR.1.1 mX11_finding kw_904 kw_905 kw_28 (ctX11_finding hR) rfl rfl (by decide) (Nat.le_of_ble_eq_true rfl) (by decide) ?_
          first | refine j_i2lN (q := 73) C dX11_pay_72 rfl (by omega) ?_ | refine j_i2l (q := 73) C dX11_pay_72 rfl rfl ?_
          exact j_lret C E dX11_pay_73 rfl rfl (rU_b (by unfold sPay; rw [if_pos hqq, eI, if_pos (jb_n.mp c_21), if_pos (Or.inr c_63)]; rfl) mEq.rf)
    · refine j_aload_n (q := 25) C dX11_pay_24 rfl rfl rfl ?_
      refine j_ldc (q := 27) C dX11_pay_25 rfl kw_990 ?_
      refine jV1 jc11 (q := 30) C dX11_pay_27 rfl hR.1.1 mX11_finding kw_904 kw_905 kw_28 (ctX11_finding hR) rfl rfl (by decide) (Nat.le_of_ble_eq_true rfl) (by decide) ?_
      first | refine j_i2lN (q := 31) C dX11_pay_30 rfl (by omega) ?_ | refine j_i2l (q := 31) C dX11_pay_30 rfl rfl ?_
      exact j_lret C E dX11_pay_31 rfl rfl (rU_b (by unfold sPay; rw [if_pos hqq, eI, if_neg (jb_0.mp c_21)]; rfl) mEq.rf)
  · refine j_aload_n (q := 9) C dX11_pay_8 rfl rfl rfl ?_
    refine j_ldc (q := 11) C dX11_pay_9 rfl kw_903 ?_
    refine jV1 jc11 (q := 14) C dX11_pay_11 rfl hR.1.1 mX11_finding kw_904 kw_905 kw_28 (ctX11_finding hR) rfl rfl (by decide) (Nat.le_of_ble_eq_true rfl) (by decide) ?_
    first | refine j_i2lN (q := 15) C dX11_pay_14 rfl (by omega) ?_ | refine j_i2l (q := 15) C dX11_pay_14 rfl rfl ?_
    exact j_lret C E dX11_pay_15 rfl rfl (rU_b (if_neg (jb_0.mp c_5)) mEq.rf)

set_option maxRecDepth 100000 in
set_option maxHeartbeats 4000000 in
theorem ctX11_unlike {G : jG} {sz : Nat} {Sh : jS} {M : jM} {o : Nat} {N : Nat → Int64} (hR : rLay o Sh M) {d pe pa la : Nat} (hO : nOk N d pe pa la) {LT : Nat → sT} (hL : lOk o M la LT) : jC G yX11_unlike cX11_unlike 2 (Option.some FieldType.long) (jrm 5 0 0) sz Sh (jw M (o + 1) N) [.ref o] (jT sz Sh (rU o M (sUnlike LT N d la pa))) := by
  refine jC_start (by decide +kernel) (Nat.le_of_ble_eq_true rfl) (fun X C E hN0 => ?_)
  have h5 := hO.2.2.1.1
  have hpa := hO.2.2.1.2
  refine j_iconst (v := nI 0) (q := 1) C dX11_unlike_0 rfl (by decide) ?_
  refine j_istore_n (lv' := [(1, _), (0, _)]) (q := 2) C dX11_unlike_1 rfl rfl (by decide) rfl ?_
  have loop2 : ∀ (m k : Nat) (P : Nat → Int64), nUnl LT N d la 0 pa = nUnl LT N d la k m → k + m = pa → jJ G X 0 0 sz Sh (jw (jw M (o + 11) P) (o + 1) N) 2 [(1, .int (nI k)), (0, .ref o)] [] := by
    intro m
    induction m with
    | zero =>
      intro k P hmel hk
      refine j_iload_n (q := 3) C dX11_unlike_2 rfl rfl rfl ?_
      first | refine j_i2lN (q := 4) C dX11_unlike_3 rfl (by omega) ?_ | refine j_i2l (q := 4) C dX11_unlike_3 rfl rfl ?_
      refine j_aload_n (q := 5) C dX11_unlike_4 rfl rfl rfl ?_
      refine jg_Model_now (q := 8) C dX11_unlike_5 rfl hR.1.1 kw_869 hR.2.1 ?_
      refine j_iconst (v := nI 5) (q := 9) C dX11_unlike_8 rfl (by decide) ?_
      refine j_laldW (q := 10) C dX11_unlike_9 rfl hR.1.2.1 (by omega) (by decide) ?_
      rw [h5]
      refine j_lcmp_ge (q1 := 11) (q := 14) (tgt := 47) C dX11_unlike_10 dX11_unlike_11 rfl rfl (by decide) (fun c_11 => ?_) (fun c_11 => absurd ((lN_le (by omega) (by omega)).mpr (by omega)) c_11)
      obtain rfl : pa = k := by omega
      have hmr : nUnl LT N d la 0 pa = pa := hmel
      refine j_aload_n (q := 48) C dX11_unlike_47 rfl rfl rfl ?_
      refine j_ldc (q := 50) C dX11_unlike_48 rfl kw_990 ?_
      refine jV1 jc11 (q := 53) C dX11_unlike_50 rfl hR.1.1 mX11_finding kw_904 kw_905 kw_28 (ctX11_finding (M := jw M (o + 11) P) hR) rfl rfl (by decide) (Nat.le_of_ble_eq_true rfl) (by decide) ?_
      first | refine j_i2lN (q := 54) C dX11_unlike_53 rfl (by omega) ?_ | refine j_i2l (q := 54) C dX11_unlike_53 rfl rfl ?_
      exact j_lret C E dX11_unlike_54 rfl rfl (rU_b (if_pos hmr) (mEq.rf.w (by unfold rSc; omega)))
    | succ m ih =>
      intro k P hmel hk
      refine j_iload_n (q := 3) C dX11_unlike_2 rfl rfl rfl ?_
      first | refine j_i2lN (q := 4) C dX11_unlike_3 rfl (by omega) ?_ | refine j_i2l (q := 4) C dX11_unlike_3 rfl rfl ?_
      refine j_aload_n (q := 5) C dX11_unlike_4 rfl rfl rfl ?_
      refine jg_Model_now (q := 8) C dX11_unlike_5 rfl hR.1.1 kw_869 hR.2.1 ?_
      refine j_iconst (v := nI 5) (q := 9) C dX11_unlike_8 rfl (by decide) ?_
      refine j_laldW (q := 10) C dX11_unlike_9 rfl hR.1.2.1 (by omega) (by decide) ?_
      rw [h5]
      refine j_lcmp_ge (q1 := 11) (q := 14) (tgt := 47) C dX11_unlike_10 dX11_unlike_11 rfl rfl (by decide) (fun c_11 => absurd c_11 (fun h => absurd ((lN_le (by omega) (by omega)).mp h) (by omega))) (fun c_11 => ?_)
      refine j_aload_n (q := 15) C dX11_unlike_14 rfl rfl rfl ?_
      refine j_iload_n (q := 16) C dX11_unlike_15 rfl rfl rfl ?_
      refine jV1 jc11 (q := 19) C dX11_unlike_16 rfl hR.1.1 mX11_isOpen kw_959 kw_960 kw_31 (ctX11_isOpen (M := jw M (o + 11) P) hR (by omega)) rfl rfl (by decide) (Nat.le_of_ble_eq_true rfl) (by decide) ?_
      refine j_if_eq (q := 22) (tgt := 41) C dX11_unlike_19 rfl (by decide) (fun c_19 => ?_) (fun c_19 => ?_)
      · first | refine j_iincN (lv' := [(1, _), (0, _)]) (q := 44) C dX11_unlike_41 rfl rfl (by decide) rfl ?_ | refine j_iinc (lv' := [(1, _), (0, _)]) (q := 44) C dX11_unlike_41 rfl rfl rfl (by decide) rfl ?_
        refine j_goto (tgt := 2) C dX11_unlike_44 (by decide) ?_
        exact j_fewer (lv' := [(1, .int (nI (k + 1))), (0, .ref o)]) (by simp) (ih (k + 1) P (hmel.trans (by rw [nUnl, if_neg (fun h => jb_0.mp c_19 h.1)])) (by omega))
      · refine j_aload_n (q := 23) C dX11_unlike_22 rfl rfl rfl ?_
        refine j_iload_n (q := 24) C dX11_unlike_23 rfl rfl rfl ?_
        refine j_iconst (v := nI 0) (q := 25) C dX11_unlike_24 rfl (by decide) ?_
        refine jVT jc11 (q := 28) C dX11_unlike_25 rfl hR.1.1 mX11_owedOf kw_962 kw_963 kw_32 (ctX11_owedN (M := jw M (o + 11) P) hR hO hL (j := k) (by omega)) rfl rfl (by decide) (Nat.le_of_ble_eq_true rfl) (by decide) (fun r_25 M_25 h_25 => ?_)
        obtain ⟨P2, rfl, rfl⟩ := h_25
        rw [jw_jw, show (nI 0).toInt64 = 0 from rfl]
        refine j_aload_n (q := 29) C dX11_unlike_28 rfl rfl rfl ?_
        refine j_iload_n (q := 30) C dX11_unlike_29 rfl rfl rfl ?_
        refine j_iconst (v := nI 1) (q := 31) C dX11_unlike_30 rfl (by decide) ?_
        refine jVT jc11 (q := 34) C dX11_unlike_31 rfl hR.1.1 mX11_owedOf kw_962 kw_963 kw_32 (ctX11_owedN (M := jw M (o + 11) P2) hR hO hL (j := k) (by omega)) rfl rfl (by decide) (Nat.le_of_ble_eq_true rfl) (by decide) (fun r_31 M_31 h_31 => ?_)
        obtain ⟨P3, rfl, rfl⟩ := h_31
        rw [jw_jw, show (nI 1).toInt64 = 1 from rfl]
        refine j_lcmp_eq (q1 := 35) (q := 38) (tgt := 41) C dX11_unlike_34 dX11_unlike_35 rfl rfl (by decide) (fun c_35 => ?_) (fun c_35 => ?_)
        · first | refine j_iincN (lv' := [(1, _), (0, _)]) (q := 44) C dX11_unlike_41 rfl rfl (by decide) rfl ?_ | refine j_iinc (lv' := [(1, _), (0, _)]) (q := 44) C dX11_unlike_41 rfl rfl rfl (by decide) rfl ?_
          refine j_goto (tgt := 2) C dX11_unlike_44 (by decide) ?_
          exact j_fewer (lv' := [(1, .int (nI (k + 1))), (0, .ref o)]) (by simp) (ih (k + 1) P3 (hmel.trans (by rw [nUnl, if_neg (fun h => h.2 c_35)])) (by omega))
        · have hmr : nUnl LT N d la 0 pa = k := hmel.trans (by rw [nUnl, if_pos ⟨jb_n.mp c_19, c_35⟩])
          refine j_iload_n (q := 39) C dX11_unlike_38 rfl rfl rfl ?_
          first | refine j_i2lN (q := 40) C dX11_unlike_39 rfl (by omega) ?_ | refine j_i2l (q := 40) C dX11_unlike_39 rfl rfl ?_
          exact j_lret C E dX11_unlike_40 rfl rfl (rU_o (by unfold sUnlike; rw [if_neg (by omega), hmr]) (mEq.rf.w (by unfold rSc; omega)))
  rw [show M = jw M (o + 11) (M.2.1 (o + 11)) from (jw_self M (o + 11)).symm]
  exact loop2 pa 0 _ rfl (by omega)

set_option maxRecDepth 100000 in
set_option maxHeartbeats 4000000 in
theorem ctX11_thin {G : jG} {sz : Nat} {Sh : jS} {M : jM} {o : Nat} {N : Nat → Int64} (hR : rLay o Sh M) {pe : Nat} (h4 : N 4 = lN pe) (hpe : pe ≤ 10) {pa : Nat} (h5 : N 5 = lN pa) (hpa : pa ≤ 24) : jC G yX11_thin cX11_thin 7 (Option.some FieldType.long) (jrm 3 0 0) sz Sh (jw M (o + 1) N) [.ref o] (jPub o sz Sh M (((nThin N pa pe, false, N)))) := by
  refine jC_start (by decide +kernel) (Nat.le_of_ble_eq_true rfl) (fun X C E hN0 => ?_)
  refine j_lconst (v := 0) (q := 1) C dX11_thin_0 rfl (by decide) ?_
  refine j_lstore_n (lv' := [(1, _), (0, _)]) (q := 2) C dX11_thin_1 rfl rfl (by decide) rfl ?_
  refine j_iconst (v := nI 0) (q := 3) C dX11_thin_2 rfl (by decide) ?_
  refine j_istore_n (lv' := [(3, _), (1, _), (0, _)]) (q := 4) C dX11_thin_3 rfl rfl (by decide) rfl ?_
  have loop4 : ∀ (n3 h : Nat), h + n3 = pe → jJ G X 0 0 sz Sh (jw M (o + 1) N) 4 [(3, .int (nI h)), (1, .long (nThin N pa h)), (0, .ref o)] [] := by
    intro n3
    induction n3 with
    | zero =>
      intro h hk3
      refine j_iload_n (q := 5) C dX11_thin_4 rfl rfl rfl ?_
      first | refine j_i2lN (q := 6) C dX11_thin_5 rfl (by omega) ?_ | refine j_i2l (q := 6) C dX11_thin_5 rfl rfl ?_
      refine j_aload_n (q := 7) C dX11_thin_6 rfl rfl rfl ?_
      refine jg_Model_now (q := 10) C dX11_thin_7 rfl hR.1.1 kw_869 hR.2.1 ?_
      refine j_iconst (v := nI 4) (q := 11) C dX11_thin_10 rfl (by decide) ?_
      refine j_laldW (q := 12) C dX11_thin_11 rfl hR.1.2.1 (by omega) (by decide) ?_
      rw [h4]
      refine j_lcmp_ge (q1 := 13) (q := 16) (tgt := 137) C dX11_thin_12 dX11_thin_13 rfl rfl (by decide) (fun c_13 => ?_) (fun c_13 => absurd ((lN_le (by omega) (by omega)).mpr (by omega)) c_13)
      obtain rfl : pe = h := by omega
      refine j_lload_n (q := 138) C dX11_thin_137 rfl rfl rfl ?_
      exact j_lret C E dX11_thin_138 rfl rfl (jPub_o rfl)
    | succ n3 ih3 =>
      intro h hk3
      refine j_iload_n (q := 5) C dX11_thin_4 rfl rfl rfl ?_
      first | refine j_i2lN (q := 6) C dX11_thin_5 rfl (by omega) ?_ | refine j_i2l (q := 6) C dX11_thin_5 rfl rfl ?_
      refine j_aload_n (q := 7) C dX11_thin_6 rfl rfl rfl ?_
      refine jg_Model_now (q := 10) C dX11_thin_7 rfl hR.1.1 kw_869 hR.2.1 ?_
      refine j_iconst (v := nI 4) (q := 11) C dX11_thin_10 rfl (by decide) ?_
      refine j_laldW (q := 12) C dX11_thin_11 rfl hR.1.2.1 (by omega) (by decide) ?_
      rw [h4]
      refine j_lcmp_ge (q1 := 13) (q := 16) (tgt := 137) C dX11_thin_12 dX11_thin_13 rfl rfl (by decide) (fun c_13 => absurd c_13 (fun g => absurd ((lN_le (by omega) (by omega)).mp g) (by omega))) (fun c_13 => ?_)
      refine j_lconst (v := 0) (q := 17) C dX11_thin_16 rfl (by decide) ?_
      refine j_lstore (lv' := [(4, _), (3, _), (1, _), (0, _)]) (q := 19) C dX11_thin_17 rfl (by decide) rfl ?_
      refine j_iconst (v := nI 0) (q := 20) C dX11_thin_19 rfl (by decide) ?_
      refine j_istore (lv' := [(6, _), (4, _), (3, _), (1, _), (0, _)]) (q := 22) C dX11_thin_20 rfl (by decide) rfl ?_
      have loop22 : ∀ (n k : Nat), k + n = pa → jJ G X 0 0 sz Sh (jw M (o + 1) N) 22 [(6, .int (nI k)), (4, .long (nNotes N h k)), (3, .int (nI h)), (1, .long (nThin N pa h)), (0, .ref o)] [] := by
        intro n
        induction n with
        | zero =>
          intro k  hk
          refine j_iload (q := 24) C dX11_thin_22 rfl rfl ?_
          first | refine j_i2lN (q := 25) C dX11_thin_24 rfl (by omega) ?_ | refine j_i2l (q := 25) C dX11_thin_24 rfl rfl ?_
          refine j_aload_n (q := 26) C dX11_thin_25 rfl rfl rfl ?_
          refine jg_Model_now (q := 29) C dX11_thin_26 rfl hR.1.1 kw_869 hR.2.1 ?_
          refine j_iconst (v := nI 5) (q := 30) C dX11_thin_29 rfl (by decide) ?_
          refine j_laldW (q := 31) C dX11_thin_30 rfl hR.1.2.1 (by omega) (by decide) ?_
          rw [h5]
          refine j_lcmp_ge (q1 := 32) (q := 35) (tgt := 105) C dX11_thin_31 dX11_thin_32 rfl rfl (by decide) (fun c_32 => ?_) (fun c_32 => absurd ((lN_le (by omega) (by omega)).mpr (by omega)) c_32)
          obtain rfl : pa = k := by omega
          refine j_lload_n (q := 106) C dX11_thin_105 rfl rfl rfl ?_
          refine j_lload (q := 108) C dX11_thin_106 rfl rfl ?_
          refine j_aload_n (q := 109) C dX11_thin_108 rfl rfl rfl ?_
          refine jg_Model_now (q := 112) C dX11_thin_109 rfl hR.1.1 kw_869 hR.2.1 ?_
          refine j_iload_n (q := 113) C dX11_thin_112 rfl rfl rfl ?_
          refine j_iconst (v := nI 0) (q := 114) C dX11_thin_113 rfl (by decide) ?_
          refine jS1 (q := 117) C dX11_thin_114 rfl mX11_of kw_908 kw_909 (ctX11_of) rfl rfl (by decide) (Nat.le_of_ble_eq_true rfl) (by decide) ?_
          refine j_laldW (q := 118) C dX11_thin_117 rfl hR.1.2.1 (by omega) (by decide) ?_
          refine j_lcmp_le (q1 := 119) (q := 122) (tgt := 128) C dX11_thin_118 dX11_thin_119 rfl rfl (by decide) (fun c_119 => ?_) (fun c_119 => ?_)
          · refine j_lconst (v := 0) (q := 129) C dX11_thin_128 rfl (by decide) ?_
            refine j_lor (q := 130) C dX11_thin_129 rfl ?_
            refine j_lstore_n (lv' := [(1, _), (6, _), (4, _), (3, _), (0, _)]) (q := 131) C dX11_thin_130 rfl rfl (by decide) rfl ?_
            first | refine j_iincN (lv' := [(3, _), (1, _), (6, _), (4, _), (0, _)]) (q := 134) C dX11_thin_131 rfl rfl (by decide) rfl ?_ | refine j_iinc (lv' := [(3, _), (1, _), (6, _), (4, _), (0, _)]) (q := 134) C dX11_thin_131 rfl rfl rfl (by decide) rfl ?_
            refine j_goto (tgt := 4) C dX11_thin_134 (by decide) ?_
            have eT : nThin N pa (h + 1) = nThin N pa h := by rw [nThin, if_neg (Int64.not_lt.mpr c_119)]
            refine j_fewer (lv' := [(3, .int (nI (h + 1))), (1, .long (nThin N pa (h + 1))), (0, .ref o)]) (by simp [eT, orz]) (ih3 (h + 1) (by omega))
          · refine j_lconst (v := 1) (q := 123) C dX11_thin_122 rfl (by decide) ?_
            refine j_iload_n (q := 124) C dX11_thin_123 rfl rfl rfl ?_
            refine j_lshl (q := 125) C dX11_thin_124 rfl rfl ?_
            rw [lshl1 (by omega)]
            refine j_goto (tgt := 129) C dX11_thin_125 (by decide) ?_
            refine j_lor (q := 130) C dX11_thin_129 rfl ?_
            refine j_lstore_n (lv' := [(1, _), (6, _), (4, _), (3, _), (0, _)]) (q := 131) C dX11_thin_130 rfl rfl (by decide) rfl ?_
            first | refine j_iincN (lv' := [(3, _), (1, _), (6, _), (4, _), (0, _)]) (q := 134) C dX11_thin_131 rfl rfl (by decide) rfl ?_ | refine j_iinc (lv' := [(3, _), (1, _), (6, _), (4, _), (0, _)]) (q := 134) C dX11_thin_131 rfl rfl rfl (by decide) rfl ?_
            refine j_goto (tgt := 4) C dX11_thin_134 (by decide) ?_
            have eT : nThin N pa (h + 1) = nThin N pa h ||| lN (2 ^ h) := by rw [nThin, if_pos (Int64.not_le.mp c_119)]
            refine j_fewer (lv' := [(3, .int (nI (h + 1))), (1, .long (nThin N pa (h + 1))), (0, .ref o)]) (by simp [eT]) (ih3 (h + 1) (by omega))
        | succ n ih =>
          intro k  hk
          refine j_iload (q := 24) C dX11_thin_22 rfl rfl ?_
          first | refine j_i2lN (q := 25) C dX11_thin_24 rfl (by omega) ?_ | refine j_i2l (q := 25) C dX11_thin_24 rfl rfl ?_
          refine j_aload_n (q := 26) C dX11_thin_25 rfl rfl rfl ?_
          refine jg_Model_now (q := 29) C dX11_thin_26 rfl hR.1.1 kw_869 hR.2.1 ?_
          refine j_iconst (v := nI 5) (q := 30) C dX11_thin_29 rfl (by decide) ?_
          refine j_laldW (q := 31) C dX11_thin_30 rfl hR.1.2.1 (by omega) (by decide) ?_
          rw [h5]
          refine j_lcmp_ge (q1 := 32) (q := 35) (tgt := 105) C dX11_thin_31 dX11_thin_32 rfl rfl (by decide) (fun c_32 => absurd c_32 (fun h => absurd ((lN_le (by omega) (by omega)).mp h) (by omega))) (fun c_32 => ?_)
          refine j_lload (q := 37) C dX11_thin_35 rfl rfl ?_
          refine j_aload_n (q := 38) C dX11_thin_37 rfl rfl rfl ?_
          refine jg_Model_now (q := 41) C dX11_thin_38 rfl hR.1.1 kw_869 hR.2.1 ?_
          refine j_iload (q := 43) C dX11_thin_41 rfl rfl ?_
          refine j_iconst (v := nI 0) (q := 44) C dX11_thin_43 rfl (by decide) ?_
          refine jS1 (q := 47) C dX11_thin_44 rfl mX11_ofPaper kw_937 kw_938 (ctX11_ofPaper) rfl rfl (by decide) (Nat.le_of_ble_eq_true rfl) (by decide) ?_
          refine j_laldW (q := 48) C dX11_thin_47 rfl hR.1.2.1 (by omega) (by decide) ?_
          refine j_ldc2 (q := 51) C dX11_thin_48 rfl kw_911 ?_
          refine j_lcmp_ne (q1 := 52) (q := 55) (tgt := 95) C dX11_thin_51 dX11_thin_52 rfl rfl (by decide) (fun c_52 => ?_) (fun c_52 => ?_)
          · refine j_lconst (v := 0) (q := 96) C dX11_thin_95 rfl (by decide) ?_
            refine j_ladd (q := 97) C dX11_thin_96 rfl ?_
            refine j_lstore (lv' := [(4, _), (6, _), (3, _), (1, _), (0, _)]) (q := 99) C dX11_thin_97 rfl (by decide) rfl ?_
            first | refine j_iincN (lv' := [(6, _), (4, _), (3, _), (1, _), (0, _)]) (q := 102) C dX11_thin_99 rfl rfl (by decide) rfl ?_ | refine j_iinc (lv' := [(6, _), (4, _), (3, _), (1, _), (0, _)]) (q := 102) C dX11_thin_99 rfl rfl rfl (by decide) rfl ?_
            refine j_goto (tgt := 22) C dX11_thin_102 (by decide) ?_
            have eN : nNotes N h (k + 1) = nNotes N h k + 0 := by rw [nNotes, if_neg (fun z => c_52 z.1)]
            exact j_fewer (lv' := [(6, .int (nI (k + 1))), (4, .long (nNotes N h (k + 1))), (3, .int (nI h)), (1, .long (nThin N pa h)), (0, .ref o)]) (by simp [eN]) (ih (k + 1) (by omega))
          · refine j_aload_n (q := 56) C dX11_thin_55 rfl rfl rfl ?_
            refine j_iload (q := 58) C dX11_thin_56 rfl rfl ?_
            refine jV1 jc11 (q := 61) C dX11_thin_58 rfl hR.1.1 mX11_isOpen kw_959 kw_960 kw_31 (ctX11_isOpen hR (by omega)) rfl rfl (by decide) (Nat.le_of_ble_eq_true rfl) (by decide) ?_
            refine j_if_eq (q := 64) (tgt := 95) C dX11_thin_61 rfl (by decide) (fun c_61 => ?_) (fun c_61 => ?_)
            · refine j_lconst (v := 0) (q := 96) C dX11_thin_95 rfl (by decide) ?_
              refine j_ladd (q := 97) C dX11_thin_96 rfl ?_
              refine j_lstore (lv' := [(4, _), (6, _), (3, _), (1, _), (0, _)]) (q := 99) C dX11_thin_97 rfl (by decide) rfl ?_
              first | refine j_iincN (lv' := [(6, _), (4, _), (3, _), (1, _), (0, _)]) (q := 102) C dX11_thin_99 rfl rfl (by decide) rfl ?_ | refine j_iinc (lv' := [(6, _), (4, _), (3, _), (1, _), (0, _)]) (q := 102) C dX11_thin_99 rfl rfl rfl (by decide) rfl ?_
              refine j_goto (tgt := 22) C dX11_thin_102 (by decide) ?_
              have eN : nNotes N h (k + 1) = nNotes N h k + 0 := by rw [nNotes, if_neg (fun z => jb_0.mp c_61 z.2.1)]
              exact j_fewer (lv' := [(6, .int (nI (k + 1))), (4, .long (nNotes N h (k + 1))), (3, .int (nI h)), (1, .long (nThin N pa h)), (0, .ref o)]) (by simp [eN]) (ih (k + 1) (by omega))
            · refine j_aload_n (q := 65) C dX11_thin_64 rfl rfl rfl ?_
              refine jg_Model_now (q := 68) C dX11_thin_65 rfl hR.1.1 kw_869 hR.2.1 ?_
              refine j_iload (q := 70) C dX11_thin_68 rfl rfl ?_
              refine j_iconst (v := nI 1) (q := 71) C dX11_thin_70 rfl (by decide) ?_
              refine jS1 (q := 74) C dX11_thin_71 rfl mX11_ofPaper kw_937 kw_938 (ctX11_ofPaper) rfl rfl (by decide) (Nat.le_of_ble_eq_true rfl) (by decide) ?_
              refine j_laldW (q := 75) C dX11_thin_74 rfl hR.1.2.1 (by omega) (by decide) ?_
              refine j_iload_n (q := 76) C dX11_thin_75 rfl rfl rfl ?_
              first | refine j_i2lN (q := 77) C dX11_thin_76 rfl (by omega) ?_ | refine j_i2l (q := 77) C dX11_thin_76 rfl rfl ?_
              refine j_lcmp_ne (q1 := 78) (q := 81) (tgt := 95) C dX11_thin_77 dX11_thin_78 rfl rfl (by decide) (fun c_78 => ?_) (fun c_78 => ?_)
              · refine j_lconst (v := 0) (q := 96) C dX11_thin_95 rfl (by decide) ?_
                refine j_ladd (q := 97) C dX11_thin_96 rfl ?_
                refine j_lstore (lv' := [(4, _), (6, _), (3, _), (1, _), (0, _)]) (q := 99) C dX11_thin_97 rfl (by decide) rfl ?_
                first | refine j_iincN (lv' := [(6, _), (4, _), (3, _), (1, _), (0, _)]) (q := 102) C dX11_thin_99 rfl rfl (by decide) rfl ?_ | refine j_iinc (lv' := [(6, _), (4, _), (3, _), (1, _), (0, _)]) (q := 102) C dX11_thin_99 rfl rfl rfl (by decide) rfl ?_
                refine j_goto (tgt := 22) C dX11_thin_102 (by decide) ?_
                have eN : nNotes N h (k + 1) = nNotes N h k + 0 := by rw [nNotes, if_neg (fun z => c_78 z.2.2)]
                exact j_fewer (lv' := [(6, .int (nI (k + 1))), (4, .long (nNotes N h (k + 1))), (3, .int (nI h)), (1, .long (nThin N pa h)), (0, .ref o)]) (by simp [eN]) (ih (k + 1) (by omega))
              · refine j_aload_n (q := 82) C dX11_thin_81 rfl rfl rfl ?_
                refine jg_Model_now (q := 85) C dX11_thin_82 rfl hR.1.1 kw_869 hR.2.1 ?_
                refine j_iload (q := 87) C dX11_thin_85 rfl rfl ?_
                refine j_iconst (v := nI 3) (q := 88) C dX11_thin_87 rfl (by decide) ?_
                refine jS1 (q := 91) C dX11_thin_88 rfl mX11_ofPaper kw_937 kw_938 (ctX11_ofPaper) rfl rfl (by decide) (Nat.le_of_ble_eq_true rfl) (by decide) ?_
                refine j_laldW (q := 92) C dX11_thin_91 rfl hR.1.2.1 (by omega) (by decide) ?_
                refine j_goto (tgt := 96) C dX11_thin_92 (by decide) ?_
                refine j_ladd (q := 97) C dX11_thin_96 rfl ?_
                refine j_lstore (lv' := [(4, _), (6, _), (3, _), (1, _), (0, _)]) (q := 99) C dX11_thin_97 rfl (by decide) rfl ?_
                first | refine j_iincN (lv' := [(6, _), (4, _), (3, _), (1, _), (0, _)]) (q := 102) C dX11_thin_99 rfl rfl (by decide) rfl ?_ | refine j_iinc (lv' := [(6, _), (4, _), (3, _), (1, _), (0, _)]) (q := 102) C dX11_thin_99 rfl rfl rfl (by decide) rfl ?_
                refine j_goto (tgt := 22) C dX11_thin_102 (by decide) ?_
                have eN : nNotes N h (k + 1) = nNotes N h k + N (110 + 7 * k + 3) := by rw [nNotes, if_pos ⟨c_52, jb_n.mp c_61, c_78⟩]
                exact j_fewer (lv' := [(6, .int (nI (k + 1))), (4, .long (nNotes N h (k + 1))), (3, .int (nI h)), (1, .long (nThin N pa h)), (0, .ref o)]) (by simp [eN]) (ih (k + 1) (by omega))
      exact j_fewer (lv' := [(6, .int (nI 0)), (4, .long (nNotes N h 0)), (3, .int (nI h)), (1, .long (nThin N pa h)), (0, .ref o)]) (by simp [nNotes]) (loop22 pa 0 (by omega))
  exact j_fewer (lv' := [(3, .int (nI 0)), (1, .long (nThin N pa 0)), (0, .ref o)]) (by simp [nThin]) (loop4 pe 0 (by omega))

set_option maxRecDepth 100000 in
set_option maxHeartbeats 4000000 in
theorem ctX11_paper {G : jG} {sz : Nat} {Sh : jS} {M : jM} {o : Nat} {N : Nat → Int64} (hR : rLay o Sh M) {pe : Nat} (h4 : N 4 = lN pe) (hpe : pe ≤ 10) {pa : Nat} (h5 : N 5 = lN pa) (hpa : pa ≤ 24) {d : Nat} (hd : N 0 = lN d) (hd3 : d ≤ 300) {kd who du : Int32} {sm : Int64} : jC G yX11_paper cX11_paper 8 (Option.some FieldType.long) (jrm 3 0 0) sz Sh (jw M (o + 1) N) [.ref o, .int kd, .int who, .long sm, .int du] (jPub o sz Sh M (sPaper N kd who sm du)) := by
  refine jC_start (by decide +kernel) (Nat.le_of_ble_eq_true rfl) (fun X C E hN0 => ?_)
  refine j_iload_n (q := 1) C dX11_paper_0 rfl rfl rfl ?_
  first | refine j_i2lN (q := 2) C dX11_paper_1 rfl (by omega) ?_ | refine j_i2l (q := 2) C dX11_paper_1 rfl rfl ?_
  refine j_lconst (v := 0) (q := 3) C dX11_paper_2 rfl (by decide) ?_
  refine j_ldc2 (q := 6) C dX11_paper_3 rfl kw_911 ?_
  refine jS1 (q := 9) C dX11_paper_6 rfl mX11_within kw_898 kw_899 (ctX11_within) rfl rfl (by decide) (Nat.le_of_ble_eq_true rfl) (by decide) ?_
  refine j_if_eq (q := 12) (tgt := 58) C dX11_paper_9 rfl (by decide) (fun c_9 => ?_) (fun c_9 => ?_)
  · refine j_iconst (v := nI 0) (q := 59) C dX11_paper_58 rfl (by decide) ?_
    refine j_istore (lv' := [(6, _), (0, _), (1, _), (2, _), (3, _), (5, _)]) (q := 61) C dX11_paper_59 rfl (by decide) rfl ?_
    refine j_iload (q := 63) C dX11_paper_61 rfl rfl ?_
    refine j_if_eq (q := 66) (tgt := 95) C dX11_paper_63 rfl (by decide) (fun c_63 => ?_) (fun c_63 => absurd (by decide : nI 0 = 0) c_63)
    refine j_aload_n (q := 96) C dX11_paper_95 rfl rfl rfl ?_
    refine j_ldc (q := 98) C dX11_paper_96 rfl kw_903 ?_
    refine jV1 jc11 (q := 101) C dX11_paper_98 rfl hR.1.1 mX11_finding kw_904 kw_905 kw_28 (ctX11_finding hR) rfl rfl (by decide) (Nat.le_of_ble_eq_true rfl) (by decide) ?_
    first | refine j_i2lN (q := 102) C dX11_paper_101 rfl (by omega) ?_ | refine j_i2l (q := 102) C dX11_paper_101 rfl rfl ?_
    exact j_lret C E dX11_paper_102 rfl rfl (jPub_b (by unfold sPaper; rw [ifC_f (fun h => jb_0.mp c_9 h.1)]; rfl))
  · refine j_iload_n (q := 13) C dX11_paper_12 rfl rfl rfl ?_
    refine j_if_lt (q := 16) (tgt := 58) C dX11_paper_13 rfl (by decide) (fun c_13 => ?_) (fun c_13 => ?_)
    · refine j_iconst (v := nI 0) (q := 59) C dX11_paper_58 rfl (by decide) ?_
      refine j_istore (lv' := [(6, _), (0, _), (1, _), (2, _), (3, _), (5, _)]) (q := 61) C dX11_paper_59 rfl (by decide) rfl ?_
      refine j_iload (q := 63) C dX11_paper_61 rfl rfl ?_
      refine j_if_eq (q := 66) (tgt := 95) C dX11_paper_63 rfl (by decide) (fun c_63 => ?_) (fun c_63 => absurd (by decide : nI 0 = 0) c_63)
      refine j_aload_n (q := 96) C dX11_paper_95 rfl rfl rfl ?_
      refine j_ldc (q := 98) C dX11_paper_96 rfl kw_903 ?_
      refine jV1 jc11 (q := 101) C dX11_paper_98 rfl hR.1.1 mX11_finding kw_904 kw_905 kw_28 (ctX11_finding hR) rfl rfl (by decide) (Nat.le_of_ble_eq_true rfl) (by decide) ?_
      first | refine j_i2lN (q := 102) C dX11_paper_101 rfl (by omega) ?_ | refine j_i2l (q := 102) C dX11_paper_101 rfl rfl ?_
      exact j_lret C E dX11_paper_102 rfl rfl (jPub_b (by unfold sPaper; rw [ifC_f (fun h => h.2.1 c_13)]; rfl))
    · refine j_aload_n (q := 17) C dX11_paper_16 rfl rfl rfl ?_
      refine j_iload_n (q := 18) C dX11_paper_17 rfl rfl rfl ?_
      refine j_bipush (v := nI 100) (q := 20) C dX11_paper_18 rfl (by decide) ?_
      refine j_irem (q := 21) C dX11_paper_20 rfl (by decide) ?_
      first | refine j_i2lN (q := 22) C dX11_paper_21 rfl (by omega) ?_ | refine j_i2l (q := 22) C dX11_paper_21 rfl rfl ?_
      refine jV1 jc11 (q := 25) C dX11_paper_22 rfl hR.1.1 mX11_isPerson kw_917 kw_918 kw_29 (ctX11_isPerson hR) rfl rfl (by decide) (Nat.le_of_ble_eq_true rfl) (by decide) ?_
      refine j_if_eq (q := 28) (tgt := 58) C dX11_paper_25 rfl (by decide) (fun c_25 => ?_) (fun c_25 => ?_)
      · refine j_iconst (v := nI 0) (q := 59) C dX11_paper_58 rfl (by decide) ?_
        refine j_istore (lv' := [(6, _), (0, _), (1, _), (2, _), (3, _), (5, _)]) (q := 61) C dX11_paper_59 rfl (by decide) rfl ?_
        refine j_iload (q := 63) C dX11_paper_61 rfl rfl ?_
        refine j_if_eq (q := 66) (tgt := 95) C dX11_paper_63 rfl (by decide) (fun c_63 => ?_) (fun c_63 => absurd (by decide : nI 0 = 0) c_63)
        refine j_aload_n (q := 96) C dX11_paper_95 rfl rfl rfl ?_
        refine j_ldc (q := 98) C dX11_paper_96 rfl kw_903 ?_
        refine jV1 jc11 (q := 101) C dX11_paper_98 rfl hR.1.1 mX11_finding kw_904 kw_905 kw_28 (ctX11_finding hR) rfl rfl (by decide) (Nat.le_of_ble_eq_true rfl) (by decide) ?_
        first | refine j_i2lN (q := 102) C dX11_paper_101 rfl (by omega) ?_ | refine j_i2l (q := 102) C dX11_paper_101 rfl rfl ?_
        exact j_lret C E dX11_paper_102 rfl rfl (jPub_b (by unfold sPaper; rw [ifC_f (fun h => jb_0.mp c_25 h.2.2.1)]; rfl))
      · refine j_iload_n (q := 29) C dX11_paper_28 rfl rfl rfl ?_
        refine j_iconst (v := nI 4) (q := 30) C dX11_paper_29 rfl (by decide) ?_
        refine j_icmp_ne (q := 33) (tgt := 42) C dX11_paper_30 rfl (by decide) (fun c_30 => ?_) (fun c_30 => ?_)
        · refine j_aload_n (q := 43) C dX11_paper_42 rfl rfl rfl ?_
          refine j_iload_n (q := 44) C dX11_paper_43 rfl rfl rfl ?_
          refine j_bipush (v := nI 100) (q := 46) C dX11_paper_44 rfl (by decide) ?_
          refine j_idiv (q := 47) C dX11_paper_46 rfl (by decide) ?_
          first | refine j_i2lN (q := 48) C dX11_paper_47 rfl (by omega) ?_ | refine j_i2l (q := 48) C dX11_paper_47 rfl rfl ?_
          refine jV1 jc11 (q := 51) C dX11_paper_48 rfl hR.1.1 mX11_isPerson kw_917 kw_918 kw_29 (ctX11_isPerson hR) rfl rfl (by decide) (Nat.le_of_ble_eq_true rfl) (by decide) ?_
          refine j_if_eq (q := 54) (tgt := 58) C dX11_paper_51 rfl (by decide) (fun c_51 => ?_) (fun c_51 => ?_)
          · refine j_iconst (v := nI 0) (q := 59) C dX11_paper_58 rfl (by decide) ?_
            refine j_istore (lv' := [(6, _), (0, _), (1, _), (2, _), (3, _), (5, _)]) (q := 61) C dX11_paper_59 rfl (by decide) rfl ?_
            refine j_iload (q := 63) C dX11_paper_61 rfl rfl ?_
            refine j_if_eq (q := 66) (tgt := 95) C dX11_paper_63 rfl (by decide) (fun c_63 => ?_) (fun c_63 => absurd (by decide : nI 0 = 0) c_63)
            refine j_aload_n (q := 96) C dX11_paper_95 rfl rfl rfl ?_
            refine j_ldc (q := 98) C dX11_paper_96 rfl kw_903 ?_
            refine jV1 jc11 (q := 101) C dX11_paper_98 rfl hR.1.1 mX11_finding kw_904 kw_905 kw_28 (ctX11_finding hR) rfl rfl (by decide) (Nat.le_of_ble_eq_true rfl) (by decide) ?_
            first | refine j_i2lN (q := 102) C dX11_paper_101 rfl (by omega) ?_ | refine j_i2l (q := 102) C dX11_paper_101 rfl rfl ?_
            exact j_lret C E dX11_paper_102 rfl rfl (jPub_b (by unfold sPaper; rw [ifC_f (fun h => jb_0.mp c_51 (h.2.2.2.2.1 c_30))]; rfl))
          · refine j_iconst (v := nI 1) (q := 55) C dX11_paper_54 rfl (by decide) ?_
            refine j_goto (tgt := 59) C dX11_paper_55 (by decide) ?_
            refine j_istore (lv' := [(6, _), (0, _), (1, _), (2, _), (3, _), (5, _)]) (q := 61) C dX11_paper_59 rfl (by decide) rfl ?_
            refine j_iload (q := 63) C dX11_paper_61 rfl rfl ?_
            refine j_if_eq (q := 66) (tgt := 95) C dX11_paper_63 rfl (by decide) (fun c_63 => absurd c_63 (by decide : ¬ nI 1 = 0)) (fun c_63 => ?_)
            refine j_lload_n (q := 67) C dX11_paper_66 rfl rfl rfl ?_
            refine j_lconst (v := 1) (q := 68) C dX11_paper_67 rfl (by decide) ?_
            refine j_ldc2 (q := 71) C dX11_paper_68 rfl kw_897 ?_
            refine jS1 (q := 74) C dX11_paper_71 rfl mX11_within kw_898 kw_899 (ctX11_within) rfl rfl (by decide) (Nat.le_of_ble_eq_true rfl) (by decide) ?_
            refine j_if_eq (q := 77) (tgt := 95) C dX11_paper_74 rfl (by decide) (fun c_74 => ?_) (fun c_74 => ?_)
            · refine j_aload_n (q := 96) C dX11_paper_95 rfl rfl rfl ?_
              refine j_ldc (q := 98) C dX11_paper_96 rfl kw_903 ?_
              refine jV1 jc11 (q := 101) C dX11_paper_98 rfl hR.1.1 mX11_finding kw_904 kw_905 kw_28 (ctX11_finding hR) rfl rfl (by decide) (Nat.le_of_ble_eq_true rfl) (by decide) ?_
              first | refine j_i2lN (q := 102) C dX11_paper_101 rfl (by omega) ?_ | refine j_i2l (q := 102) C dX11_paper_101 rfl rfl ?_
              exact j_lret C E dX11_paper_102 rfl rfl (jPub_b (by unfold sPaper; rw [ifC_f (fun h => jb_0.mp c_74 h.2.2.2.2.2.1)]; rfl))
            · refine j_iload (q := 79) C dX11_paper_77 rfl rfl ?_
              first | refine j_i2lN (q := 80) C dX11_paper_79 rfl (by omega) ?_ | refine j_i2l (q := 80) C dX11_paper_79 rfl rfl ?_
              refine j_aload_n (q := 81) C dX11_paper_80 rfl rfl rfl ?_
              refine jg_Model_now (q := 84) C dX11_paper_81 rfl hR.1.1 kw_869 hR.2.1 ?_
              refine j_iconst (v := nI 0) (q := 85) C dX11_paper_84 rfl (by decide) ?_
              refine j_laldW (q := 86) C dX11_paper_85 rfl hR.1.2.1 (by omega) (by decide) ?_
              refine j_ldc2 (q := 89) C dX11_paper_86 rfl kw_935 ?_
              refine jS1 (q := 92) C dX11_paper_89 rfl mX11_within kw_898 kw_899 (ctX11_within) rfl rfl (by decide) (Nat.le_of_ble_eq_true rfl) (by decide) ?_
              refine j_if_ne (q := 95) (tgt := 103) C dX11_paper_92 rfl (by decide) (fun c_92 => ?_) (fun c_92 => ?_)
              · refine j_iload_n (q := 104) C dX11_paper_103 rfl rfl rfl ?_
                refine j_iconst (v := nI 4) (q := 105) C dX11_paper_104 rfl (by decide) ?_
                refine j_icmp_eq (q := 108) (tgt := 127) C dX11_paper_105 rfl (by decide) (fun c_105 => absurd c_105 c_30) (fun c_105 => ?_)
                refine j_iload_n (q := 109) C dX11_paper_108 rfl rfl rfl ?_
                refine j_bipush (v := nI 100) (q := 111) C dX11_paper_109 rfl (by decide) ?_
                refine j_idiv (q := 112) C dX11_paper_111 rfl (by decide) ?_
                refine j_iload_n (q := 113) C dX11_paper_112 rfl rfl rfl ?_
                refine j_bipush (v := nI 100) (q := 115) C dX11_paper_113 rfl (by decide) ?_
                refine j_irem (q := 116) C dX11_paper_115 rfl (by decide) ?_
                refine j_icmp_ne (q := 119) (tgt := 127) C dX11_paper_116 rfl (by decide) (fun c_116 => ?_) (fun c_116 => ?_)
                · refine j_aload_n (q := 128) C dX11_paper_127 rfl rfl rfl ?_
                  refine jg_Model_now (q := 131) C dX11_paper_128 rfl hR.1.1 kw_869 hR.2.1 ?_
                  refine j_iconst (v := nI 5) (q := 132) C dX11_paper_131 rfl (by decide) ?_
                  refine j_laldW (q := 133) C dX11_paper_132 rfl hR.1.2.1 (by omega) (by decide) ?_
                  rw [h5]
                  first | refine j_l2iN (q := 134) C dX11_paper_133 rfl ?_ | refine j_l2i (q := 134) C dX11_paper_133 rfl rfl ?_
                  refine j_istore (lv' := [(7, _), (6, _), (0, _), (1, _), (2, _), (3, _), (5, _)]) (q := 136) C dX11_paper_134 rfl (by decide) rfl ?_
                  refine j_iload (q := 138) C dX11_paper_136 rfl rfl ?_
                  refine j_bipush (v := nI 24) (q := 140) C dX11_paper_138 rfl (by decide) ?_
                  refine j_icmp_ne (q := 143) (tgt := 151) C dX11_paper_140 rfl (by decide) (fun c_140 => ?_) (fun c_140 => ?_)
                  · refine j_aload_n (q := 152) C dX11_paper_151 rfl rfl rfl ?_
                    refine jg_Model_now (q := 155) C dX11_paper_152 rfl hR.1.1 kw_869 hR.2.1 ?_
                    refine j_iload (q := 157) C dX11_paper_155 rfl rfl ?_
                    refine j_iconst (v := nI 0) (q := 158) C dX11_paper_157 rfl (by decide) ?_
                    refine jS1 (q := 161) C dX11_paper_158 rfl mX11_ofPaper kw_937 kw_938 ctX11_ofPaper rfl rfl (by decide) (Nat.le_of_ble_eq_true rfl) (by decide) ?_
                    refine j_iload_n (q := 162) C dX11_paper_161 rfl rfl rfl ?_
                    first | refine j_i2lN (q := 163) C dX11_paper_162 rfl (by omega) ?_ | refine j_i2l (q := 163) C dX11_paper_162 rfl rfl ?_
                    refine j_lastW (q := 164) C dX11_paper_163 rfl hR.1.2.1 (by omega) (by decide) ?_
                    refine j_aload_n (q := 165) C dX11_paper_164 rfl rfl rfl ?_
                    refine jg_Model_now (q := 168) C dX11_paper_165 rfl hR.1.1 kw_869 hR.2.1 ?_
                    refine j_iload (q := 170) C dX11_paper_168 rfl rfl ?_
                    refine j_iconst (v := nI 1) (q := 171) C dX11_paper_170 rfl (by decide) ?_
                    refine jS1 (q := 174) C dX11_paper_171 rfl mX11_ofPaper kw_937 kw_938 ctX11_ofPaper rfl rfl (by decide) (Nat.le_of_ble_eq_true rfl) (by decide) ?_
                    refine j_iload_n (q := 175) C dX11_paper_174 rfl rfl rfl ?_
                    refine j_iconst (v := nI 4) (q := 176) C dX11_paper_175 rfl (by decide) ?_
                    refine j_icmp_ne (q := 179) (tgt := 185) C dX11_paper_176 rfl (by decide) (fun c_176 => ?_) (fun c_176 => absurd c_176 c_30)
                    refine j_iload_n (q := 186) C dX11_paper_185 rfl rfl rfl ?_
                    refine j_bipush (v := nI 100) (q := 188) C dX11_paper_186 rfl (by decide) ?_
                    refine j_idiv (q := 189) C dX11_paper_188 rfl (by decide) ?_
                    first | refine j_i2lN (q := 190) C dX11_paper_189 rfl (by omega) ?_ | refine j_i2l (q := 190) C dX11_paper_189 rfl rfl ?_
                    refine j_lastW (q := 191) C dX11_paper_190 rfl hR.1.2.1 (by omega) (by decide) ?_
                    refine j_aload_n (q := 192) C dX11_paper_191 rfl rfl rfl ?_
                    refine jg_Model_now (q := 195) C dX11_paper_192 rfl hR.1.1 kw_869 hR.2.1 ?_
                    refine j_iload (q := 197) C dX11_paper_195 rfl rfl ?_
                    refine j_iconst (v := nI 2) (q := 198) C dX11_paper_197 rfl (by decide) ?_
                    refine jS1 (q := 201) C dX11_paper_198 rfl mX11_ofPaper kw_937 kw_938 ctX11_ofPaper rfl rfl (by decide) (Nat.le_of_ble_eq_true rfl) (by decide) ?_
                    refine j_iload_n (q := 202) C dX11_paper_201 rfl rfl rfl ?_
                    refine j_bipush (v := nI 100) (q := 204) C dX11_paper_202 rfl (by decide) ?_
                    refine j_irem (q := 205) C dX11_paper_204 rfl (by decide) ?_
                    first | refine j_i2lN (q := 206) C dX11_paper_205 rfl (by omega) ?_ | refine j_i2l (q := 206) C dX11_paper_205 rfl rfl ?_
                    refine j_lastW (q := 207) C dX11_paper_206 rfl hR.1.2.1 (by omega) (by decide) ?_
                    refine j_aload_n (q := 208) C dX11_paper_207 rfl rfl rfl ?_
                    refine jg_Model_now (q := 211) C dX11_paper_208 rfl hR.1.1 kw_869 hR.2.1 ?_
                    refine j_iload (q := 213) C dX11_paper_211 rfl rfl ?_
                    refine j_iconst (v := nI 3) (q := 214) C dX11_paper_213 rfl (by decide) ?_
                    refine jS1 (q := 217) C dX11_paper_214 rfl mX11_ofPaper kw_937 kw_938 ctX11_ofPaper rfl rfl (by decide) (Nat.le_of_ble_eq_true rfl) (by decide) ?_
                    refine j_lload_n (q := 218) C dX11_paper_217 rfl rfl rfl ?_
                    refine j_lastW (q := 219) C dX11_paper_218 rfl hR.1.2.1 (by omega) (by decide) ?_
                    refine j_aload_n (q := 220) C dX11_paper_219 rfl rfl rfl ?_
                    refine jg_Model_now (q := 223) C dX11_paper_220 rfl hR.1.1 kw_869 hR.2.1 ?_
                    refine j_iload (q := 225) C dX11_paper_223 rfl rfl ?_
                    refine j_iconst (v := nI 4) (q := 226) C dX11_paper_225 rfl (by decide) ?_
                    refine jS1 (q := 229) C dX11_paper_226 rfl mX11_ofPaper kw_937 kw_938 ctX11_ofPaper rfl rfl (by decide) (Nat.le_of_ble_eq_true rfl) (by decide) ?_
                    refine j_aload_n (q := 230) C dX11_paper_229 rfl rfl rfl ?_
                    refine jg_Model_now (q := 233) C dX11_paper_230 rfl hR.1.1 kw_869 hR.2.1 ?_
                    refine j_iconst (v := nI 0) (q := 234) C dX11_paper_233 rfl (by decide) ?_
                    refine j_laldW (q := 235) C dX11_paper_234 rfl hR.1.2.1 (by omega) (by decide) ?_
                    refine j_lastW (q := 236) C dX11_paper_235 rfl hR.1.2.1 (by omega) (by decide) ?_
                    refine j_aload_n (q := 237) C dX11_paper_236 rfl rfl rfl ?_
                    refine jg_Model_now (q := 240) C dX11_paper_237 rfl hR.1.1 kw_869 hR.2.1 ?_
                    refine j_iload (q := 242) C dX11_paper_240 rfl rfl ?_
                    refine j_iconst (v := nI 5) (q := 243) C dX11_paper_242 rfl (by decide) ?_
                    refine jS1 (q := 246) C dX11_paper_243 rfl mX11_ofPaper kw_937 kw_938 ctX11_ofPaper rfl rfl (by decide) (Nat.le_of_ble_eq_true rfl) (by decide) ?_
                    refine j_iload (q := 248) C dX11_paper_246 rfl rfl ?_
                    first | refine j_i2lN (q := 249) C dX11_paper_248 rfl (by omega) ?_ | refine j_i2l (q := 249) C dX11_paper_248 rfl rfl ?_
                    refine j_lastW (q := 250) C dX11_paper_249 rfl hR.1.2.1 (by omega) (by decide) ?_
                    refine j_aload_n (q := 251) C dX11_paper_250 rfl rfl rfl ?_
                    refine jg_Model_now (q := 254) C dX11_paper_251 rfl hR.1.1 kw_869 hR.2.1 ?_
                    refine j_iload (q := 256) C dX11_paper_254 rfl rfl ?_
                    refine j_bipush (v := nI 6) (q := 258) C dX11_paper_256 rfl (by decide) ?_
                    refine jS1 (q := 261) C dX11_paper_258 rfl mX11_ofPaper kw_937 kw_938 ctX11_ofPaper rfl rfl (by decide) (Nat.le_of_ble_eq_true rfl) (by decide) ?_
                    refine j_lconst (v := 0) (q := 262) C dX11_paper_261 rfl (by decide) ?_
                    refine j_lastW (q := 263) C dX11_paper_262 rfl hR.1.2.1 (by omega) (by decide) ?_
                    refine j_aload_n (q := 264) C dX11_paper_263 rfl rfl rfl ?_
                    refine jg_Model_now (q := 267) C dX11_paper_264 rfl hR.1.1 kw_869 hR.2.1 ?_
                    refine j_iconst (v := nI 5) (q := 268) C dX11_paper_267 rfl (by decide) ?_
                    refine j_dup2_11 (q := 269) C dX11_paper_268 rfl rfl rfl ?_
                    refine j_laldW (q := 270) C dX11_paper_269 rfl hR.1.2.1 (by omega) (by decide) ?_
                    refine j_lconst (v := 1) (q := 271) C dX11_paper_270 rfl (by decide) ?_
                    refine j_ladd (q := 272) C dX11_paper_271 rfl ?_
                    refine j_lastW (q := 273) C dX11_paper_272 rfl hR.1.2.1 (by omega) (by decide) ?_
                    refine j_iload (q := 275) C dX11_paper_273 rfl rfl ?_
                    first | refine j_i2lN (q := 276) C dX11_paper_275 rfl (by omega) ?_ | refine j_i2l (q := 276) C dX11_paper_275 rfl rfl ?_
                    exact j_lret C E dX11_paper_276 rfl rfl (jPub_o (by unfold sPaper; rw [ifC_t (show gPaper N kd who sm du from ⟨jb_n.mp c_9, c_13, jb_n.mp c_25, fun h => absurd h c_30, fun _ => jb_n.mp c_51, jb_n.mp c_74, jb_n.mp c_92⟩), if_neg (fun h => c_116 h.2), if_neg (fun e => c_140 (by rw [show pa = 24 from (lN_eq (by omega) (by omega)).mp (h5.symm.trans e)])), if_neg c_30]; unfold nPaperW; dsimp only; rw [show (N 5).toNatClampNeg = pa from by rw [h5]; exact nv_lN (by omega), h5]))
                  · refine j_aload_n (q := 144) C dX11_paper_143 rfl rfl rfl ?_
                    refine j_ldc (q := 146) C dX11_paper_144 rfl kw_907 ?_
                    refine jV1 jc11 (q := 149) C dX11_paper_146 rfl hR.1.1 mX11_finding kw_904 kw_905 kw_28 (ctX11_finding hR) rfl rfl (by decide) (Nat.le_of_ble_eq_true rfl) (by decide) ?_
                    first | refine j_i2lN (q := 150) C dX11_paper_149 rfl (by omega) ?_ | refine j_i2l (q := 150) C dX11_paper_149 rfl rfl ?_
                    exact j_lret C E dX11_paper_150 rfl rfl (jPub_b (by unfold sPaper; rw [ifC_t (show gPaper N kd who sm du from ⟨jb_n.mp c_9, c_13, jb_n.mp c_25, fun h => absurd h c_30, fun _ => jb_n.mp c_51, jb_n.mp c_74, jb_n.mp c_92⟩), if_neg (fun h => c_116 h.2), if_pos (show N 5 = 24 from by rw [h5, (nI_eq (by omega) (by omega)).mp c_140]; rfl)]; rfl))
                · refine j_aload_n (q := 120) C dX11_paper_119 rfl rfl rfl ?_
                  refine j_ldc (q := 122) C dX11_paper_120 rfl kw_936 ?_
                  refine jV1 jc11 (q := 125) C dX11_paper_122 rfl hR.1.1 mX11_finding kw_904 kw_905 kw_28 (ctX11_finding hR) rfl rfl (by decide) (Nat.le_of_ble_eq_true rfl) (by decide) ?_
                  first | refine j_i2lN (q := 126) C dX11_paper_125 rfl (by omega) ?_ | refine j_i2l (q := 126) C dX11_paper_125 rfl rfl ?_
                  exact j_lret C E dX11_paper_126 rfl rfl (jPub_b (by unfold sPaper; rw [ifC_t (show gPaper N kd who sm du from ⟨jb_n.mp c_9, c_13, jb_n.mp c_25, fun h => absurd h c_30, fun _ => jb_n.mp c_51, jb_n.mp c_74, jb_n.mp c_92⟩), if_pos ⟨c_30, c_116⟩]; rfl))
              · refine j_aload_n (q := 96) C dX11_paper_95 rfl rfl rfl ?_
                refine j_ldc (q := 98) C dX11_paper_96 rfl kw_903 ?_
                refine jV1 jc11 (q := 101) C dX11_paper_98 rfl hR.1.1 mX11_finding kw_904 kw_905 kw_28 (ctX11_finding hR) rfl rfl (by decide) (Nat.le_of_ble_eq_true rfl) (by decide) ?_
                first | refine j_i2lN (q := 102) C dX11_paper_101 rfl (by omega) ?_ | refine j_i2l (q := 102) C dX11_paper_101 rfl rfl ?_
                exact j_lret C E dX11_paper_102 rfl rfl (jPub_b (by unfold sPaper; rw [ifC_f (fun h => jb_0.mp c_92 h.2.2.2.2.2.2)]; rfl))
        · refine j_iload_n (q := 34) C dX11_paper_33 rfl rfl rfl ?_
          refine j_bipush (v := nI 100) (q := 36) C dX11_paper_34 rfl (by decide) ?_
          refine j_icmp_ge (q := 39) (tgt := 58) C dX11_paper_36 rfl (by decide) (fun c_36 => ?_) (fun c_36 => ?_)
          · refine j_iconst (v := nI 0) (q := 59) C dX11_paper_58 rfl (by decide) ?_
            refine j_istore (lv' := [(6, _), (0, _), (1, _), (2, _), (3, _), (5, _)]) (q := 61) C dX11_paper_59 rfl (by decide) rfl ?_
            refine j_iload (q := 63) C dX11_paper_61 rfl rfl ?_
            refine j_if_eq (q := 66) (tgt := 95) C dX11_paper_63 rfl (by decide) (fun c_63 => ?_) (fun c_63 => absurd (by decide : nI 0 = 0) c_63)
            refine j_aload_n (q := 96) C dX11_paper_95 rfl rfl rfl ?_
            refine j_ldc (q := 98) C dX11_paper_96 rfl kw_903 ?_
            refine jV1 jc11 (q := 101) C dX11_paper_98 rfl hR.1.1 mX11_finding kw_904 kw_905 kw_28 (ctX11_finding hR) rfl rfl (by decide) (Nat.le_of_ble_eq_true rfl) (by decide) ?_
            first | refine j_i2lN (q := 102) C dX11_paper_101 rfl (by omega) ?_ | refine j_i2l (q := 102) C dX11_paper_101 rfl rfl ?_
            exact j_lret C E dX11_paper_102 rfl rfl (jPub_b (by unfold sPaper; rw [ifC_f (fun h => absurd (h.2.2.2.1 c_30) (Int32.not_lt.mpr c_36))]; rfl))
          · refine j_goto (tgt := 54) C dX11_paper_39 (by decide) ?_
            refine j_iconst (v := nI 1) (q := 55) C dX11_paper_54 rfl (by decide) ?_
            refine j_goto (tgt := 59) C dX11_paper_55 (by decide) ?_
            refine j_istore (lv' := [(6, _), (0, _), (1, _), (2, _), (3, _), (5, _)]) (q := 61) C dX11_paper_59 rfl (by decide) rfl ?_
            refine j_iload (q := 63) C dX11_paper_61 rfl rfl ?_
            refine j_if_eq (q := 66) (tgt := 95) C dX11_paper_63 rfl (by decide) (fun c_63 => absurd c_63 (by decide : ¬ nI 1 = 0)) (fun c_63 => ?_)
            refine j_lload_n (q := 67) C dX11_paper_66 rfl rfl rfl ?_
            refine j_lconst (v := 1) (q := 68) C dX11_paper_67 rfl (by decide) ?_
            refine j_ldc2 (q := 71) C dX11_paper_68 rfl kw_897 ?_
            refine jS1 (q := 74) C dX11_paper_71 rfl mX11_within kw_898 kw_899 (ctX11_within) rfl rfl (by decide) (Nat.le_of_ble_eq_true rfl) (by decide) ?_
            refine j_if_eq (q := 77) (tgt := 95) C dX11_paper_74 rfl (by decide) (fun c_74 => ?_) (fun c_74 => ?_)
            · refine j_aload_n (q := 96) C dX11_paper_95 rfl rfl rfl ?_
              refine j_ldc (q := 98) C dX11_paper_96 rfl kw_903 ?_
              refine jV1 jc11 (q := 101) C dX11_paper_98 rfl hR.1.1 mX11_finding kw_904 kw_905 kw_28 (ctX11_finding hR) rfl rfl (by decide) (Nat.le_of_ble_eq_true rfl) (by decide) ?_
              first | refine j_i2lN (q := 102) C dX11_paper_101 rfl (by omega) ?_ | refine j_i2l (q := 102) C dX11_paper_101 rfl rfl ?_
              exact j_lret C E dX11_paper_102 rfl rfl (jPub_b (by unfold sPaper; rw [ifC_f (fun h => jb_0.mp c_74 h.2.2.2.2.2.1)]; rfl))
            · refine j_iload (q := 79) C dX11_paper_77 rfl rfl ?_
              first | refine j_i2lN (q := 80) C dX11_paper_79 rfl (by omega) ?_ | refine j_i2l (q := 80) C dX11_paper_79 rfl rfl ?_
              refine j_aload_n (q := 81) C dX11_paper_80 rfl rfl rfl ?_
              refine jg_Model_now (q := 84) C dX11_paper_81 rfl hR.1.1 kw_869 hR.2.1 ?_
              refine j_iconst (v := nI 0) (q := 85) C dX11_paper_84 rfl (by decide) ?_
              refine j_laldW (q := 86) C dX11_paper_85 rfl hR.1.2.1 (by omega) (by decide) ?_
              refine j_ldc2 (q := 89) C dX11_paper_86 rfl kw_935 ?_
              refine jS1 (q := 92) C dX11_paper_89 rfl mX11_within kw_898 kw_899 (ctX11_within) rfl rfl (by decide) (Nat.le_of_ble_eq_true rfl) (by decide) ?_
              refine j_if_ne (q := 95) (tgt := 103) C dX11_paper_92 rfl (by decide) (fun c_92 => ?_) (fun c_92 => ?_)
              · refine j_iload_n (q := 104) C dX11_paper_103 rfl rfl rfl ?_
                refine j_iconst (v := nI 4) (q := 105) C dX11_paper_104 rfl (by decide) ?_
                refine j_icmp_eq (q := 108) (tgt := 127) C dX11_paper_105 rfl (by decide) (fun c_105 => ?_) (fun c_105 => absurd c_30 c_105)
                refine j_aload_n (q := 128) C dX11_paper_127 rfl rfl rfl ?_
                refine jg_Model_now (q := 131) C dX11_paper_128 rfl hR.1.1 kw_869 hR.2.1 ?_
                refine j_iconst (v := nI 5) (q := 132) C dX11_paper_131 rfl (by decide) ?_
                refine j_laldW (q := 133) C dX11_paper_132 rfl hR.1.2.1 (by omega) (by decide) ?_
                rw [h5]
                first | refine j_l2iN (q := 134) C dX11_paper_133 rfl ?_ | refine j_l2i (q := 134) C dX11_paper_133 rfl rfl ?_
                refine j_istore (lv' := [(7, _), (6, _), (0, _), (1, _), (2, _), (3, _), (5, _)]) (q := 136) C dX11_paper_134 rfl (by decide) rfl ?_
                refine j_iload (q := 138) C dX11_paper_136 rfl rfl ?_
                refine j_bipush (v := nI 24) (q := 140) C dX11_paper_138 rfl (by decide) ?_
                refine j_icmp_ne (q := 143) (tgt := 151) C dX11_paper_140 rfl (by decide) (fun c_140 => ?_) (fun c_140 => ?_)
                · refine j_aload_n (q := 152) C dX11_paper_151 rfl rfl rfl ?_
                  refine jg_Model_now (q := 155) C dX11_paper_152 rfl hR.1.1 kw_869 hR.2.1 ?_
                  refine j_iload (q := 157) C dX11_paper_155 rfl rfl ?_
                  refine j_iconst (v := nI 0) (q := 158) C dX11_paper_157 rfl (by decide) ?_
                  refine jS1 (q := 161) C dX11_paper_158 rfl mX11_ofPaper kw_937 kw_938 ctX11_ofPaper rfl rfl (by decide) (Nat.le_of_ble_eq_true rfl) (by decide) ?_
                  refine j_iload_n (q := 162) C dX11_paper_161 rfl rfl rfl ?_
                  first | refine j_i2lN (q := 163) C dX11_paper_162 rfl (by omega) ?_ | refine j_i2l (q := 163) C dX11_paper_162 rfl rfl ?_
                  refine j_lastW (q := 164) C dX11_paper_163 rfl hR.1.2.1 (by omega) (by decide) ?_
                  refine j_aload_n (q := 165) C dX11_paper_164 rfl rfl rfl ?_
                  refine jg_Model_now (q := 168) C dX11_paper_165 rfl hR.1.1 kw_869 hR.2.1 ?_
                  refine j_iload (q := 170) C dX11_paper_168 rfl rfl ?_
                  refine j_iconst (v := nI 1) (q := 171) C dX11_paper_170 rfl (by decide) ?_
                  refine jS1 (q := 174) C dX11_paper_171 rfl mX11_ofPaper kw_937 kw_938 ctX11_ofPaper rfl rfl (by decide) (Nat.le_of_ble_eq_true rfl) (by decide) ?_
                  refine j_iload_n (q := 175) C dX11_paper_174 rfl rfl rfl ?_
                  refine j_iconst (v := nI 4) (q := 176) C dX11_paper_175 rfl (by decide) ?_
                  refine j_icmp_ne (q := 179) (tgt := 185) C dX11_paper_176 rfl (by decide) (fun c_176 => absurd c_30 c_176) (fun c_176 => ?_)
                  refine j_ldc2 (q := 182) C dX11_paper_179 rfl kw_940 ?_
                  refine j_goto (tgt := 190) C dX11_paper_182 (by decide) ?_
                  refine j_lastW (q := 191) C dX11_paper_190 rfl hR.1.2.1 (by omega) (by decide) ?_
                  refine j_aload_n (q := 192) C dX11_paper_191 rfl rfl rfl ?_
                  refine jg_Model_now (q := 195) C dX11_paper_192 rfl hR.1.1 kw_869 hR.2.1 ?_
                  refine j_iload (q := 197) C dX11_paper_195 rfl rfl ?_
                  refine j_iconst (v := nI 2) (q := 198) C dX11_paper_197 rfl (by decide) ?_
                  refine jS1 (q := 201) C dX11_paper_198 rfl mX11_ofPaper kw_937 kw_938 ctX11_ofPaper rfl rfl (by decide) (Nat.le_of_ble_eq_true rfl) (by decide) ?_
                  refine j_iload_n (q := 202) C dX11_paper_201 rfl rfl rfl ?_
                  refine j_bipush (v := nI 100) (q := 204) C dX11_paper_202 rfl (by decide) ?_
                  refine j_irem (q := 205) C dX11_paper_204 rfl (by decide) ?_
                  first | refine j_i2lN (q := 206) C dX11_paper_205 rfl (by omega) ?_ | refine j_i2l (q := 206) C dX11_paper_205 rfl rfl ?_
                  refine j_lastW (q := 207) C dX11_paper_206 rfl hR.1.2.1 (by omega) (by decide) ?_
                  refine j_aload_n (q := 208) C dX11_paper_207 rfl rfl rfl ?_
                  refine jg_Model_now (q := 211) C dX11_paper_208 rfl hR.1.1 kw_869 hR.2.1 ?_
                  refine j_iload (q := 213) C dX11_paper_211 rfl rfl ?_
                  refine j_iconst (v := nI 3) (q := 214) C dX11_paper_213 rfl (by decide) ?_
                  refine jS1 (q := 217) C dX11_paper_214 rfl mX11_ofPaper kw_937 kw_938 ctX11_ofPaper rfl rfl (by decide) (Nat.le_of_ble_eq_true rfl) (by decide) ?_
                  refine j_lload_n (q := 218) C dX11_paper_217 rfl rfl rfl ?_
                  refine j_lastW (q := 219) C dX11_paper_218 rfl hR.1.2.1 (by omega) (by decide) ?_
                  refine j_aload_n (q := 220) C dX11_paper_219 rfl rfl rfl ?_
                  refine jg_Model_now (q := 223) C dX11_paper_220 rfl hR.1.1 kw_869 hR.2.1 ?_
                  refine j_iload (q := 225) C dX11_paper_223 rfl rfl ?_
                  refine j_iconst (v := nI 4) (q := 226) C dX11_paper_225 rfl (by decide) ?_
                  refine jS1 (q := 229) C dX11_paper_226 rfl mX11_ofPaper kw_937 kw_938 ctX11_ofPaper rfl rfl (by decide) (Nat.le_of_ble_eq_true rfl) (by decide) ?_
                  refine j_aload_n (q := 230) C dX11_paper_229 rfl rfl rfl ?_
                  refine jg_Model_now (q := 233) C dX11_paper_230 rfl hR.1.1 kw_869 hR.2.1 ?_
                  refine j_iconst (v := nI 0) (q := 234) C dX11_paper_233 rfl (by decide) ?_
                  refine j_laldW (q := 235) C dX11_paper_234 rfl hR.1.2.1 (by omega) (by decide) ?_
                  refine j_lastW (q := 236) C dX11_paper_235 rfl hR.1.2.1 (by omega) (by decide) ?_
                  refine j_aload_n (q := 237) C dX11_paper_236 rfl rfl rfl ?_
                  refine jg_Model_now (q := 240) C dX11_paper_237 rfl hR.1.1 kw_869 hR.2.1 ?_
                  refine j_iload (q := 242) C dX11_paper_240 rfl rfl ?_
                  refine j_iconst (v := nI 5) (q := 243) C dX11_paper_242 rfl (by decide) ?_
                  refine jS1 (q := 246) C dX11_paper_243 rfl mX11_ofPaper kw_937 kw_938 ctX11_ofPaper rfl rfl (by decide) (Nat.le_of_ble_eq_true rfl) (by decide) ?_
                  refine j_iload (q := 248) C dX11_paper_246 rfl rfl ?_
                  first | refine j_i2lN (q := 249) C dX11_paper_248 rfl (by omega) ?_ | refine j_i2l (q := 249) C dX11_paper_248 rfl rfl ?_
                  refine j_lastW (q := 250) C dX11_paper_249 rfl hR.1.2.1 (by omega) (by decide) ?_
                  refine j_aload_n (q := 251) C dX11_paper_250 rfl rfl rfl ?_
                  refine jg_Model_now (q := 254) C dX11_paper_251 rfl hR.1.1 kw_869 hR.2.1 ?_
                  refine j_iload (q := 256) C dX11_paper_254 rfl rfl ?_
                  refine j_bipush (v := nI 6) (q := 258) C dX11_paper_256 rfl (by decide) ?_
                  refine jS1 (q := 261) C dX11_paper_258 rfl mX11_ofPaper kw_937 kw_938 ctX11_ofPaper rfl rfl (by decide) (Nat.le_of_ble_eq_true rfl) (by decide) ?_
                  refine j_lconst (v := 0) (q := 262) C dX11_paper_261 rfl (by decide) ?_
                  refine j_lastW (q := 263) C dX11_paper_262 rfl hR.1.2.1 (by omega) (by decide) ?_
                  refine j_aload_n (q := 264) C dX11_paper_263 rfl rfl rfl ?_
                  refine jg_Model_now (q := 267) C dX11_paper_264 rfl hR.1.1 kw_869 hR.2.1 ?_
                  refine j_iconst (v := nI 5) (q := 268) C dX11_paper_267 rfl (by decide) ?_
                  refine j_dup2_11 (q := 269) C dX11_paper_268 rfl rfl rfl ?_
                  refine j_laldW (q := 270) C dX11_paper_269 rfl hR.1.2.1 (by omega) (by decide) ?_
                  refine j_lconst (v := 1) (q := 271) C dX11_paper_270 rfl (by decide) ?_
                  refine j_ladd (q := 272) C dX11_paper_271 rfl ?_
                  refine j_lastW (q := 273) C dX11_paper_272 rfl hR.1.2.1 (by omega) (by decide) ?_
                  refine j_iload (q := 275) C dX11_paper_273 rfl rfl ?_
                  first | refine j_i2lN (q := 276) C dX11_paper_275 rfl (by omega) ?_ | refine j_i2l (q := 276) C dX11_paper_275 rfl rfl ?_
                  exact j_lret C E dX11_paper_276 rfl rfl (jPub_o (by unfold sPaper; rw [ifC_t (show gPaper N kd who sm du from ⟨jb_n.mp c_9, c_13, jb_n.mp c_25, fun _ => Int32.not_le.mp c_36, fun h => absurd c_30 h, jb_n.mp c_74, jb_n.mp c_92⟩), if_neg (fun h => h.1 c_30), if_neg (fun e => c_140 (by rw [show pa = 24 from (lN_eq (by omega) (by omega)).mp (h5.symm.trans e)])), if_pos c_30]; unfold nPaperW; dsimp only; rw [show (N 5).toNatClampNeg = pa from by rw [h5]; exact nv_lN (by omega), h5]))
                · refine j_aload_n (q := 144) C dX11_paper_143 rfl rfl rfl ?_
                  refine j_ldc (q := 146) C dX11_paper_144 rfl kw_907 ?_
                  refine jV1 jc11 (q := 149) C dX11_paper_146 rfl hR.1.1 mX11_finding kw_904 kw_905 kw_28 (ctX11_finding hR) rfl rfl (by decide) (Nat.le_of_ble_eq_true rfl) (by decide) ?_
                  first | refine j_i2lN (q := 150) C dX11_paper_149 rfl (by omega) ?_ | refine j_i2l (q := 150) C dX11_paper_149 rfl rfl ?_
                  exact j_lret C E dX11_paper_150 rfl rfl (jPub_b (by unfold sPaper; rw [ifC_t (show gPaper N kd who sm du from ⟨jb_n.mp c_9, c_13, jb_n.mp c_25, fun _ => Int32.not_le.mp c_36, fun h => absurd c_30 h, jb_n.mp c_74, jb_n.mp c_92⟩), if_neg (fun h => h.1 c_30), if_pos (show N 5 = 24 from by rw [h5, (nI_eq (by omega) (by omega)).mp c_140]; rfl)]; rfl))
              · refine j_aload_n (q := 96) C dX11_paper_95 rfl rfl rfl ?_
                refine j_ldc (q := 98) C dX11_paper_96 rfl kw_903 ?_
                refine jV1 jc11 (q := 101) C dX11_paper_98 rfl hR.1.1 mX11_finding kw_904 kw_905 kw_28 (ctX11_finding hR) rfl rfl (by decide) (Nat.le_of_ble_eq_true rfl) (by decide) ?_
                first | refine j_i2lN (q := 102) C dX11_paper_101 rfl (by omega) ?_ | refine j_i2l (q := 102) C dX11_paper_101 rfl rfl ?_
                exact j_lret C E dX11_paper_102 rfl rfl (jPub_b (by unfold sPaper; rw [ifC_f (fun h => jb_0.mp c_92 h.2.2.2.2.2.2)]; rfl))

