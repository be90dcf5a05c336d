def cW (T : Nat → Nat) (y m : Nat) : Int32 := match wF T y m 0 13 with
  | some s => -1 - nI s
  | none => -24
def cSg (c : Nat) : Int32 := match sF c 0 9 with
  | some s => -14 - nI s
  | none => -24
def cTok (t : Nat × Nat) : Int32 := if t.1 = 0 then -23 else if t.1 = 1 then -1 - nI t.2 else if t.1 = 2 then nI t.2 else if t.1 = 3 then -14 - nI t.2 else -24
theorem sF_of {c s : Nat} (hs : s < 9) (h : sgs.getD s 0 = c) : ∀ f k, k ≤ s → s < k + f → k + f ≤ 9 → sF c k f = some s
  | 0, k, h1, h2, _ => absurd h2 (by omega)
  | f + 1, k, h1, h2, h3 => by
    rw [sF]
    by_cases e : sgs.getD k 0 = c
    · rw [if_pos e, sgs_inj k (by omega) s hs (e.trans h.symm)]
    · rw [if_neg e]
      have : k ≠ s := fun g => e (by rw [g]; exact h)
      exact sF_of hs h f (k + 1) (by omega) (by omega) (by omega)
theorem sF_no {c : Nat} : ∀ f k, k + f ≤ 9 → (∀ s, s < 9 → ¬ sgs.getD s 0 = c) → sF c k f = none
  | 0, k, _, _ => rfl
  | f + 1, k, h1, h => by rw [sF, if_neg (h k (by omega))]; exact sF_no f (k + 1) (by omega) h
theorem cW_of {T : Nat → Nat} {y m k : Nat} (hk : k < 13) (h : seg T y m = wsl.getD k []) : -1 - nI k = cW T y m := by unfold cW; rw [wF_of hk h 13 0 (by omega) (by omega) (by omega)]
theorem cW_no {T : Nat → Nat} {y m : Nat} (h : ∀ s, s < 13 → ¬ seg T y m = wsl.getD s []) : -24 = cW T y m := by unfold cW; rw [wF_no 13 0 (by omega) h]
theorem cSg_of {c k : Nat} (hk : k < 9) (h : sgs.getD k 0 = c) : -14 - nI k = cSg c := by unfold cSg; rw [sF_of hk h 9 0 (by omega) (by omega) (by omega)]
theorem cSg_no {c : Nat} (h : ∀ s, s < 9 → ¬ sgs.getD s 0 = c) : -24 = cSg c := by unfold cSg; rw [sF_no 9 0 (by omega) h]
def cNx (S : Nat → Prop) (rd : Nat) (Sh : jS) (T : Nat → Nat) (n x : Nat) (M0 M : jM) (K : Nat → Int32) (a e : Int32) : Prop := ∃ b, cP S rd Sh T n M0 M K a b (cTok (tk T n x)) (nI (fr T n x)) e ∧ (¬ (tk T n x).1 = 4 → b = nI (tt T n x))
set_option maxRecDepth 100000 in
set_option maxHeartbeats 4000000 in
theorem ctX7_nextWord {G : jG} {sz : Nat} {Sh : jS} {M : jM} {rd : Nat} {S : Nat → Prop} (hSo : S rd) {T : Nat → Nat} {n : Nat} {M0 : jM} {K : Nat → Int32} {a c d e : Int32} {y : Nat} (hQ : cP S rd Sh T n M0 M K a (nI y) c d e) (hy : y < n) : jC G yX7_nextWord cX7_nextWord 3 (Option.some FieldType.int) (jrm 7 0 0) sz Sh M [.ref rd] (jT sz Sh (fun r M1 => r = some (.int (cW T y ((rn isLt T (n - y) y) - y))) ∧ cP S rd Sh T n M0 M1 K a (nI (rn isLt T (n - y) y)) c d e)) := by
  refine jC_start (by decide +kernel) (Nat.le_of_ble_eq_true rfl) (fun X C E hN0 => ?_)
  have hn160 : n ≤ 160 := hQ.2.2.1.2.1
  have hrg := rn_ge isLt T (n - y) y
  have hlt : ∀ i, i < (rn isLt T (n - y) y) - y → isLt (T (y + i)) = true := fun i hi => rn_all isLt T (n - y) y _ (by omega) (by omega)
  have j44 : ∀ (M : jM), cP S rd Sh T n M0 M K a (nI (rn isLt T (n - y) y)) c d e → jJ G X 0 0 sz Sh M 44 [(1, .int (nI y)), (0, .ref rd)] [] := by
    intro M hQ
    have loop46 : ∀ (z k : Nat), (∀ s, s < k → ¬ seg T y ((rn isLt T (n - y) y) - y) = wsl.getD s []) → k + z = 13 → jJ G X 0 0 sz Sh M 46 [(2, .int (nI k)), (1, .int (nI y)), (0, .ref rd)] [] := by
      intro z
      induction z with
      | zero =>
        intro k hno hk
        refine j_iload_n (q := 47) C dX7_nextWord_46 rfl rfl rfl ?_
        refine j_bipush (v := nI 13) (q := 49) C dX7_nextWord_47 rfl (by decide) ?_
        refine j_icmp_ge (q := 52) (tgt := 77) C dX7_nextWord_49 rfl (by decide) (fun c_49 => ?_) (fun c_49 => absurd (nI_le (by omega) (by omega)) c_49)
        refine j_bipush (v := (-24)) (q := 79) C dX7_nextWord_77 rfl (by decide) ?_
        exact j_iret C E dX7_nextWord_79 rfl rfl (⟨rfl, rfl, congrArg (fun z => some (Value.int z)) (cW_no (fun s hs => hno s (by omega))), hQ⟩)
      | succ z ih =>
        intro k hno hk
        refine j_iload_n (q := 47) C dX7_nextWord_46 rfl rfl rfl ?_
        refine j_bipush (v := nI 13) (q := 49) C dX7_nextWord_47 rfl (by decide) ?_
        refine j_icmp_ge (q := 52) (tgt := 77) C dX7_nextWord_49 rfl (by decide) (fun c_49 => absurd c_49 (fun h => absurd ((nI_leI (by omega) (by omega)).mp h) (by omega))) (fun c_49 => ?_)
        refine j_aload_n (q := 53) C dX7_nextWord_52 rfl rfl rfl ?_
        refine j_iload_n (q := 54) C dX7_nextWord_53 rfl rfl rfl ?_
        refine j_iload_n (q := 55) C dX7_nextWord_54 rfl rfl rfl ?_
        refine j_aload_n (q := 56) C dX7_nextWord_55 rfl rfl rfl ?_
        refine cg_place hQ (q' := 59) C dX7_nextWord_56 rfl kw_247 ?_
        refine j_iload_n (q := 60) C dX7_nextWord_59 rfl rfl rfl ?_
        refine j_isub (q := 61) C dX7_nextWord_60 rfl ?_
        refine j_top (v' := .int (nI ((rn isLt T (n - y) y) - y))) (congrArg Value.int (pk_sub (by omega))) ?_
        refine jV1 jc7 (q := 64) C dX7_nextWord_61 rfl hQ.2.1.1 mX7_isWord kw_480 kw_481 kw_5 (ctX7_isWord hQ (s := k) (y := y) (m := (rn isLt T (n - y) y) - y) (by omega) (by omega) hlt) rfl rfl (by decide) (Nat.le_of_ble_eq_true rfl) (by decide) ?_
        refine j_if_eq (q := 67) (tgt := 71) C dX7_nextWord_64 rfl (by decide) (fun c_64 => ?_) (fun c_64 => ?_)
        · first | refine j_iincN (lv' := [(2, _), (1, _), (0, _)]) (q := 74) C dX7_nextWord_71 rfl rfl (by decide) rfl ?_ | refine j_iinc (lv' := [(2, _), (1, _), (0, _)]) (q := 74) C dX7_nextWord_71 rfl rfl rfl (by decide) rfl ?_
          refine j_goto (tgt := 46) C dX7_nextWord_74 (by decide) ?_
          exact j_fewer (lv' := [(2, .int (nI (k + 1))), (1, .int (nI y)), (0, .ref rd)]) (by simp) (ih (k + 1) (fun s hs => by
            by_cases es : s = k
            · subst es; exact jb_0.mp c_64
            · exact hno s (by omega)) (by omega))
        · refine j_iconst (v := (-1)) (q := 68) C dX7_nextWord_67 rfl (by decide) ?_
          refine j_iload_n (q := 69) C dX7_nextWord_68 rfl rfl rfl ?_
          refine j_isub (q := 70) C dX7_nextWord_69 rfl ?_
          exact j_iret C E dX7_nextWord_70 rfl rfl (⟨rfl, rfl, congrArg (fun z => some (Value.int z)) (cW_of (by omega) (jb_n.mp c_64)), hQ⟩)
    refine j_iconst (v := nI 0) (q := 45) C dX7_nextWord_44 rfl (by decide) ?_
    refine j_istore_n (lv' := [(2, _), (1, _), (0, _)]) (q := 46) C dX7_nextWord_45 rfl rfl (by decide) rfl ?_
    exact loop46 13 0 (fun s hs => absurd hs (by omega)) (by omega)
  have loop5 : ∀ (m k : Nat) (M : jM), k + m = n + 1 → k ≤ n → rn isLt T (n - k) k = (rn isLt T (n - y) y) → cP S rd Sh T n M0 M K a (nI k) c d e → jJ G X 0 0 sz Sh M 5 [(1, .int (nI y)), (0, .ref rd)] [] := by
    intro m
    induction m with
    | zero => intro k M h1 h2; omega
    | succ m ih0 =>
      intro k M h1 hkn hrn hQ
      have ih : ∀ k' (M : jM), k' = k + 1 → k' ≤ n → rn isLt T (n - k') k' = (rn isLt T (n - y) y) → cP S rd Sh T n M0 M K a (nI k') c d e → jJ G X 0 0 sz Sh M 5 [(1, .int (nI y)), (0, .ref rd)] [] := fun k' M h3 h4 h5 h6 => ih0 k' M (by omega) h4 h5 h6
      refine j_aload_n (q := 6) C dX7_nextWord_5 rfl rfl rfl ?_
      refine cg_place hQ (q' := 9) C dX7_nextWord_6 rfl kw_247 ?_
      refine j_aload_n (q := 10) C dX7_nextWord_9 rfl rfl rfl ?_
      refine cg_length hQ (q' := 13) C dX7_nextWord_10 rfl kw_244 ?_
      refine j_icmp_ge (q := 16) (tgt := 44) C dX7_nextWord_13 rfl (by decide) (fun c_13 => ?_) (fun c_13 => ?_)
      · have ek : k = (rn isLt T (n - y) y) := by
          rw [← hrn]
          exact (rn_no hkn (fun h => absurd ((nI_leI (by omega) (by omega)).mp c_13) (by omega))).symm
        subst ek
        exact j44 M hQ
      · have hkl : k < n := Nat.lt_of_not_le (fun h => c_13 (nI_le h (by omega)))
        refine j_aload_n (q := 17) C dX7_nextWord_16 rfl rfl rfl ?_
        refine jg_Reader_tape (q := 20) C dX7_nextWord_17 rfl hQ.2.1.1 kw_242 hQ.2.1.2.2.2.1 ?_
        refine j_aload_n (q := 21) C dX7_nextWord_20 rfl rfl rfl ?_
        refine cg_place hQ (q' := 24) C dX7_nextWord_21 rfl kw_247 ?_
        refine j_bald (q := 25) C dX7_nextWord_24 rfl hQ.2.1.2.1 (by omega) (by decide) ?_
        rw [hQ.2.2.1.2.2.2 k hkl]
        refine jS1 (q := 28) C dX7_nextWord_25 rfl mX7_isLetter kw_474 kw_475 (ctX7_isLetter) rfl rfl (by decide) (Nat.le_of_ble_eq_true rfl) (by decide) ?_
        refine j_if_eq (q := 31) (tgt := 44) C dX7_nextWord_28 rfl (by decide) (fun c_28 => ?_) (fun c_28 => ?_)
        · have ek : k = (rn isLt T (n - y) y) := by
            rw [← hrn]
            exact (rn_no hkn (fun h => jb_0.mp c_28 ((bN_lt _ (hQ.2.2.1.2.2.1 _)).mpr h.2))).symm
          subst ek
          exact j44 M hQ
        · refine j_aload_n (q := 32) C dX7_nextWord_31 rfl rfl rfl ?_
          refine j_dup (q := 33) C dX7_nextWord_32 rfl rfl ?_
          refine cg_place hQ (q' := 36) C dX7_nextWord_33 rfl kw_247 ?_
          refine j_iconst (v := nI 1) (q := 37) C dX7_nextWord_36 rfl (by decide) ?_
          first | refine j_iaddN (q := 38) C dX7_nextWord_37 rfl ?_ | refine j_iadd (q := 38) C dX7_nextWord_37 rfl ?_
          refine cp_place hSo hQ (q' := 41) C dX7_nextWord_38 rfl kw_247 (fun M hQ => ?_)
          refine j_goto (tgt := 5) C dX7_nextWord_41 (by decide) ?_
          exact ih (k + 1) M rfl hkl (by rw [← rn_go hkl ((bN_lt _ (hQ.2.2.1.2.2.1 _)).mp (jb_n.mp c_28))]; exact hrn) hQ
  refine j_aload_n (q := 1) C dX7_nextWord_0 rfl rfl rfl ?_
  refine cg_place hQ (q' := 4) C dX7_nextWord_1 rfl kw_247 ?_
  refine j_istore_n (lv' := [(1, _), (0, _)]) (q := 5) C dX7_nextWord_4 rfl rfl (by decide) rfl ?_
  exact j_fewer (lv' := [(1, .int (nI y)), (0, .ref rd)]) (by simp) (loop5 (n + 1 - y) y M (by omega) (by omega) rfl hQ)

set_option maxRecDepth 100000 in
set_option maxHeartbeats 4000000 in
theorem ctX7_nextNumber {G : jG} {sz : Nat} {Sh : jS} {M : jM} {rd : Nat} {S : Nat → Prop} (hSo : S rd) {T : Nat → Nat} {n : Nat} {M0 : jM} {K : Nat → Int32} {a c d e : Int32} {y : Nat} (hQ : cP S rd Sh T n M0 M K a (nI y) c d e) (hy : y < n) : jC G yX7_nextNumber cX7_nextNumber 3 (Option.some FieldType.int) (jrm 2 0 0) sz Sh M [.ref rd] (jT sz Sh (fun r M1 => r = some (.int (if (rn isDg T (n - y) y) - y ≤ 6 then nI (nm T y ((rn isDg T (n - y) y) - y)) else -24)) ∧ cP S rd Sh T n M0 M1 K a (nI (rn isDg T (n - y) y)) c d e)) := by
  refine jC_start (by decide +kernel) (Nat.le_of_ble_eq_true rfl) (fun X C E hN0 => ?_)
  have hn160 : n ≤ 160 := hQ.2.2.1.2.1
  have hrg := rn_ge isDg T (n - y) y
  have j75 : ∀ (M : jM) (j : Nat), j = (rn isDg T (n - y) y) - y → cP S rd Sh T n M0 M K a (nI (rn isDg T (n - y) y)) c d e → jJ G X 0 0 sz Sh M 75 [(2, .int (nI (nm T y (min j 6)))), (1, .int (nI y)), (0, .ref rd)] [] := by
    intro M j hj hQ
    subst hj
    refine j_aload_n (q := 76) C dX7_nextNumber_75 rfl rfl rfl ?_
    refine cg_place hQ (q' := 79) C dX7_nextNumber_76 rfl kw_247 ?_
    refine j_iload_n (q := 80) C dX7_nextNumber_79 rfl rfl rfl ?_
    refine j_isub (q := 81) C dX7_nextNumber_80 rfl ?_
    refine j_bipush (v := nI 6) (q := 83) C dX7_nextNumber_81 rfl (by decide) ?_
    refine j_icmp_le (q := 86) (tgt := 91) C dX7_nextNumber_83 rfl (by decide) (fun c_83 => ?_) (fun c_83 => ?_)
    · refine j_iload_n (q := 92) C dX7_nextNumber_91 rfl rfl rfl ?_
      exact j_iret C E dX7_nextNumber_92 rfl rfl (⟨rfl, rfl, congrArg (fun z => some (Value.int z)) (by rw [if_pos ((nI_leI (by omega) (by omega)).mp (by rw [← pk_sub (show y ≤ (rn isDg T (n - y) y) by omega)]; exact c_83)), Nat.min_eq_left ((nI_leI (by omega) (by omega)).mp (by rw [← pk_sub (show y ≤ (rn isDg T (n - y) y) by omega)]; exact c_83))]), hQ⟩)
    · refine j_bipush (v := (-24)) (q := 88) C dX7_nextNumber_86 rfl (by decide) ?_
      refine j_goto (tgt := 92) C dX7_nextNumber_88 (by decide) ?_
      exact j_iret C E dX7_nextNumber_92 rfl rfl (⟨rfl, rfl, congrArg (fun z => some (Value.int z)) (by rw [if_neg (fun h => c_83 (by rw [pk_sub (show y ≤ (rn isDg T (n - y) y) by omega)]; exact nI_le h (by omega)))]), hQ⟩)
  have loop7 : ∀ (m j : Nat) (M : jM), y + j + m = n + 1 → y + j ≤ n → rn isDg T (n - (y + j)) (y + j) = (rn isDg T (n - y) y) → cP S rd Sh T n M0 M K a (nI (y + j)) c d e → jJ G X 0 0 sz Sh M 7 [(2, .int (nI (nm T y (min j 6)))), (1, .int (nI y)), (0, .ref rd)] [] := by
    intro m
    induction m with
    | zero => intro k M h1 h2; omega
    | succ m ih0 =>
      intro j M h1 hkn hrn hQ
      have ih : ∀ j' (M : jM), j' = j + 1 → y + j' ≤ n → rn isDg T (n - (y + j')) (y + j') = (rn isDg T (n - y) y) → cP S rd Sh T n M0 M K a (nI (y + j')) c d e → jJ G X 0 0 sz Sh M 7 [(2, .int (nI (nm T y (min j' 6)))), (1, .int (nI y)), (0, .ref rd)] [] := fun j' M h3 h4 h5 h6 => ih0 j' M (by omega) h4 h5 h6
      refine j_aload_n (q := 8) C dX7_nextNumber_7 rfl rfl rfl ?_
      refine cg_place hQ (q' := 11) C dX7_nextNumber_8 rfl kw_247 ?_
      refine j_aload_n (q := 12) C dX7_nextNumber_11 rfl rfl rfl ?_
      refine cg_length hQ (q' := 15) C dX7_nextNumber_12 rfl kw_244 ?_
      refine j_icmp_ge (q := 18) (tgt := 75) C dX7_nextNumber_15 rfl (by decide) (fun c_15 => ?_) (fun c_15 => ?_)
      · have ek : y + j = (rn isDg T (n - y) y) := by
          rw [← hrn]
          exact (rn_no hkn (fun h => absurd ((nI_leI (by omega) (by omega)).mp c_15) (by omega))).symm
        exact j75 M j (by omega) (by rw [← ek]; exact hQ)
      · have hkl : y + j < n := Nat.lt_of_not_le (fun h => c_15 (nI_le h (by omega)))
        refine j_aload_n (q := 19) C dX7_nextNumber_18 rfl rfl rfl ?_
        refine jg_Reader_tape (q := 22) C dX7_nextNumber_19 rfl hQ.2.1.1 kw_242 hQ.2.1.2.2.2.1 ?_
        refine j_aload_n (q := 23) C dX7_nextNumber_22 rfl rfl rfl ?_
        refine cg_place hQ (q' := 26) C dX7_nextNumber_23 rfl kw_247 ?_
        refine j_bald (q := 27) C dX7_nextNumber_26 rfl hQ.2.1.2.1 (by omega) (by decide) ?_
        rw [hQ.2.2.1.2.2.2 (y + j) hkl]
        refine jS1 (q := 30) C dX7_nextNumber_27 rfl mX7_isDigit kw_518 kw_519 (ctX7_isDigit) rfl rfl (by decide) (Nat.le_of_ble_eq_true rfl) (by decide) ?_
        refine j_if_eq (q := 33) (tgt := 75) C dX7_nextNumber_30 rfl (by decide) (fun c_30 => ?_) (fun c_30 => ?_)
        · have ek : y + j = (rn isDg T (n - y) y) := by
            rw [← hrn]
            exact (rn_no hkn (fun h => jb_0.mp c_30 ((bN_dg _ (hQ.2.2.1.2.2.1 _)).mpr h.2))).symm
          exact j75 M j (by omega) (by rw [← ek]; exact hQ)
        · have hdg : isDg (T (y + j)) = true := (bN_dg _ (hQ.2.2.1.2.2.1 _)).mp (jb_n.mp c_30)
          have hd8 := isDg_iff.mp hdg
          refine j_aload_n (q := 34) C dX7_nextNumber_33 rfl rfl rfl ?_
          refine cg_place hQ (q' := 37) C dX7_nextNumber_34 rfl kw_247 ?_
          refine j_iload_n (q := 38) C dX7_nextNumber_37 rfl rfl rfl ?_
          refine j_isub (q := 39) C dX7_nextNumber_38 rfl ?_
          refine j_top (v' := .int (nI j)) (congrArg Value.int (by rw [pk_sub (by omega)]; congr 1; omega)) ?_
          refine j_bipush (v := nI 6) (q := 41) C dX7_nextNumber_39 rfl (by decide) ?_
          refine j_icmp_ge (q := 44) (tgt := 62) C dX7_nextNumber_41 rfl (by decide) (fun c_41 => ?_) (fun c_41 => ?_)
          · refine j_aload_n (q := 63) C dX7_nextNumber_62 rfl rfl rfl ?_
            refine j_dup (q := 64) C dX7_nextNumber_63 rfl rfl ?_
            refine cg_place hQ (q' := 67) C dX7_nextNumber_64 rfl kw_247 ?_
            refine j_iconst (v := nI 1) (q := 68) C dX7_nextNumber_67 rfl (by decide) ?_
            first | refine j_iaddN (q := 69) C dX7_nextNumber_68 rfl ?_ | refine j_iadd (q := 69) C dX7_nextNumber_68 rfl ?_
            refine cp_place hSo hQ (q' := 72) C dX7_nextNumber_69 rfl kw_247 (fun M hQ => ?_)
            refine j_goto (tgt := 7) C dX7_nextNumber_72 (by decide) ?_
            have hj6 : 6 ≤ j := (nI_leI (by omega) (by omega)).mp c_41
            exact j_fewer (lv' := [(2, .int (nI (nm T y (min (j + 1) 6)))), (1, .int (nI y)), (0, .ref rd)]) (by simp [show min (j + 1) 6 = min j 6 by omega]) (ih (j + 1) M rfl hkl (by rw [← Nat.add_assoc, ← rn_go hkl hdg]; exact hrn) (by rw [← Nat.add_assoc]; exact hQ))
          · have hj6 : j < 6 := Nat.lt_of_not_le (fun h => c_41 (nI_le h (by omega)))
            refine j_iload_n (q := 45) C dX7_nextNumber_44 rfl rfl rfl ?_
            refine j_bipush (v := nI 10) (q := 47) C dX7_nextNumber_45 rfl (by decide) ?_
            first | refine j_imulN (q := 48) C dX7_nextNumber_47 rfl ?_ | refine j_imul (q := 48) C dX7_nextNumber_47 rfl ?_
            refine j_aload_n (q := 49) C dX7_nextNumber_48 rfl rfl rfl ?_
            refine jg_Reader_tape (q := 52) C dX7_nextNumber_49 rfl hQ.2.1.1 kw_242 hQ.2.1.2.2.2.1 ?_
            refine j_aload_n (q := 53) C dX7_nextNumber_52 rfl rfl rfl ?_
            refine cg_place hQ (q' := 56) C dX7_nextNumber_53 rfl kw_247 ?_
            refine j_bald (q := 57) C dX7_nextNumber_56 rfl hQ.2.1.2.1 (by omega) (by decide) ?_
            rw [hQ.2.2.1.2.2.2 (y + j) hkl, show bN (T (y + j)) = nI (T (y + j)) from (by8' (by omega)).symm]
            refine j_bipush (v := nI 48) (q := 59) C dX7_nextNumber_57 rfl (by decide) ?_
            refine j_isub (q := 60) C dX7_nextNumber_59 rfl ?_
            refine j_top (v' := .int (nI (T (y + j) - 48))) (congrArg Value.int (pk_sub (by omega))) ?_
            first | refine j_iaddN (q := 61) C dX7_nextNumber_60 rfl ?_ | refine j_iadd (q := 61) C dX7_nextNumber_60 rfl ?_
            refine j_top (v' := .int (nI (nm T y (min (j + 1) 6)))) (congrArg Value.int (by rw [show min (j + 1) 6 = j + 1 by omega, show min j 6 = j by omega, nm, Nat.mul_comm])) ?_
            refine j_istore_n (lv' := [(2, _), (1, _), (0, _)]) (q := 62) C dX7_nextNumber_61 rfl rfl (by decide) rfl ?_
            refine j_aload_n (q := 63) C dX7_nextNumber_62 rfl rfl rfl ?_
            refine j_dup (q := 64) C dX7_nextNumber_63 rfl rfl ?_
            refine cg_place hQ (q' := 67) C dX7_nextNumber_64 rfl kw_247 ?_
            refine j_iconst (v := nI 1) (q := 68) C dX7_nextNumber_67 rfl (by decide) ?_
            first | refine j_iaddN (q := 69) C dX7_nextNumber_68 rfl ?_ | refine j_iadd (q := 69) C dX7_nextNumber_68 rfl ?_
            refine cp_place hSo hQ (q' := 72) C dX7_nextNumber_69 rfl kw_247 (fun M hQ => ?_)
            refine j_goto (tgt := 7) C dX7_nextNumber_72 (by decide) ?_
            exact j_fewer (lv' := [(2, .int (nI (nm T y (min (j + 1) 6)))), (1, .int (nI y)), (0, .ref rd)]) (by simp) (ih (j + 1) M rfl hkl (by rw [← Nat.add_assoc, ← rn_go hkl hdg]; exact hrn) (by rw [← Nat.add_assoc]; exact hQ))
  refine j_aload_n (q := 1) C dX7_nextNumber_0 rfl rfl rfl ?_
  refine cg_place hQ (q' := 4) C dX7_nextNumber_1 rfl kw_247 ?_
  refine j_istore_n (lv' := [(1, _), (0, _)]) (q := 5) C dX7_nextNumber_4 rfl rfl (by decide) rfl ?_
  refine j_iconst (v := nI 0) (q := 6) C dX7_nextNumber_5 rfl (by decide) ?_
  refine j_istore_n (lv' := [(2, _), (1, _), (0, _)]) (q := 7) C dX7_nextNumber_6 rfl rfl (by decide) rfl ?_
  exact j_fewer (lv' := [(2, .int (nI (nm T y (min 0 6)))), (1, .int (nI y)), (0, .ref rd)]) (by simp [nm]) (loop7 (n + 1 - y) 0 M (by omega) (by omega) rfl hQ)

theorem sg24 : ∀ k, k < 9 → ¬ (-14 - nI k = -24) := by decide +kernel
set_option maxRecDepth 100000 in
set_option maxHeartbeats 4000000 in
theorem ctX7_nextSign {G : jG} {sz : Nat} {Sh : jS} {M : jM} {rd : Nat} {S : Nat → Prop} (hSo : S rd) {T : Nat → Nat} {n : Nat} {M0 : jM} {K : Nat → Int32} {a c d e : Int32} {y : Nat} (hQ : cP S rd Sh T n M0 M K a (nI y) c d e) (hy : y < n) : jC G yX7_nextSign cX7_nextSign 2 (Option.some FieldType.int) (jrm 6 0 0) sz Sh M [.ref rd] (jT sz Sh (fun r M1 => r = some (.int (cSg (T y))) ∧ cP S rd Sh T n M0 M1 K a (if cSg (T y) = -24 then nI y else nI (y + 1)) c d e)) := by
  refine jC_start (by decide +kernel) (Nat.le_of_ble_eq_true rfl) (fun X C E hN0 => ?_)
  have hn160 : n ≤ 160 := hQ.2.2.1.2.1
  
  refine j_iconst (v := nI 0) (q := 1) C dX7_nextSign_0 rfl (by decide) ?_
  refine j_istore_n (lv' := [(1, _), (0, _)]) (q := 2) C dX7_nextSign_1 rfl rfl (by decide) rfl ?_
  have loop2 : ∀ (z k : Nat), (∀ s, s < k → ¬ sgs.getD s 0 = T y) → k + z = 9 → jJ G X 0 0 sz Sh M 2 [(1, .int (nI k)), (0, .ref rd)] [] := by
    intro z
    induction z with
    | zero =>
      intro k hno hk
      refine j_iload_n (q := 3) C dX7_nextSign_2 rfl rfl rfl ?_
      refine j_ldcS (q := 5) C dX7_nextSign_3 rfl C.2.2.2.2.2.2.2.2.1.2.1.2.1 ?_
      refine jK1 (by decide : (1 : Nat) < 3) C dX7_nextSign_5 rfl mJ0_length_8abf5 kw_527 kw_528 kw_529 (ctJ0_length_8abf5 (by decide : (1 : Nat) < 3)) rfl rfl (by decide) (Nat.le_of_ble_eq_true rfl) (by decide) ?_
      rw [show (chL 1).length = 9 from rfl]
      refine j_icmp_ge (q := 11) (tgt := 50) C dX7_nextSign_8 rfl (by decide) (fun c_8 => ?_) (fun c_8 => absurd (nI_le (by omega) (by omega)) c_8)
      refine j_bipush (v := (-24)) (q := 52) C dX7_nextSign_50 rfl (by decide) ?_
      exact j_iret C E dX7_nextSign_52 rfl rfl (⟨rfl, rfl, congrArg (fun z => some (Value.int z)) (cSg_no (fun s hs => hno s (by omega))), by rw [if_pos (cSg_no (fun s hs => hno s (by omega))).symm]; exact hQ⟩)
    | succ z ih =>
      intro k hno hk
      refine j_iload_n (q := 3) C dX7_nextSign_2 rfl rfl rfl ?_
      refine j_ldcS (q := 5) C dX7_nextSign_3 rfl C.2.2.2.2.2.2.2.2.1.2.1.2.1 ?_
      refine jK1 (by decide : (1 : Nat) < 3) C dX7_nextSign_5 rfl mJ0_length_8abf5 kw_527 kw_528 kw_529 (ctJ0_length_8abf5 (by decide : (1 : Nat) < 3)) rfl rfl (by decide) (Nat.le_of_ble_eq_true rfl) (by decide) ?_
      rw [show (chL 1).length = 9 from rfl]
      refine j_icmp_ge (q := 11) (tgt := 50) C dX7_nextSign_8 rfl (by decide) (fun c_8 => absurd c_8 (fun h => absurd ((nI_leI (by omega) (by omega)).mp h) (by omega))) (fun c_8 => ?_)
      refine j_ldcS (q := 13) C dX7_nextSign_11 rfl C.2.2.2.2.2.2.2.2.1.2.1.2.1 ?_
      refine j_iload_n (q := 14) C dX7_nextSign_13 rfl rfl rfl ?_
      refine jK1 (by decide : (1 : Nat) < 3) C dX7_nextSign_14 rfl mJ0_charAt_5068e kw_483 kw_484 kw_485 (ctJ0_charAt_5068e (by decide : (1 : Nat) < 3) (k := k) (show k < 9 by omega)) rfl rfl (by decide) (Nat.le_of_ble_eq_true rfl) (by decide) ?_
      refine j_aload_n (q := 18) C dX7_nextSign_17 rfl rfl rfl ?_
      refine jg_Reader_tape (q := 21) C dX7_nextSign_18 rfl hQ.2.1.1 kw_242 hQ.2.1.2.2.2.1 ?_
      refine j_aload_n (q := 22) C dX7_nextSign_21 rfl rfl rfl ?_
      refine cg_place hQ (q' := 25) C dX7_nextSign_22 rfl kw_247 ?_
      refine j_bald (q := 26) C dX7_nextSign_25 rfl hQ.2.1.2.1 (by omega) (by decide) ?_
      rw [hQ.2.2.1.2.2.2 y hy]
      refine j_icmp_ne (q := 29) (tgt := 44) C dX7_nextSign_26 rfl (by decide) (fun c_26 => ?_) (fun c_26 => ?_)
      · first | refine j_iincN (lv' := [(1, _), (0, _)]) (q := 47) C dX7_nextSign_44 rfl rfl (by decide) rfl ?_ | refine j_iinc (lv' := [(1, _), (0, _)]) (q := 47) C dX7_nextSign_44 rfl rfl rfl (by decide) rfl ?_
        refine j_goto (tgt := 2) C dX7_nextSign_47 (by decide) ?_
        exact j_fewer (lv' := [(1, .int (nI (k + 1))), (0, .ref rd)]) (by simp) (ih (k + 1) (fun s hs => by
          by_cases es : s = k
          · subst es; exact fun h => c_26 ((bN_of (chN_lt 1 (by decide) s (show s < 9 by omega)) (hQ.2.2.1.2.2.1 _)).mpr (by rw [sgs_ch s (by omega)]; exact h))
          · exact hno s (by omega)) (by omega))
      · have hsg : sgs.getD k 0 = T y := by
          rw [← sgs_ch k (by omega)]
          exact (bN_of (chN_lt 1 (by decide) k (show k < 9 by omega)) (hQ.2.2.1.2.2.1 _)).mp c_26
        refine j_aload_n (q := 30) C dX7_nextSign_29 rfl rfl rfl ?_
        refine j_dup (q := 31) C dX7_nextSign_30 rfl rfl ?_
        refine cg_place hQ (q' := 34) C dX7_nextSign_31 rfl kw_247 ?_
        refine j_iconst (v := nI 1) (q := 35) C dX7_nextSign_34 rfl (by decide) ?_
        first | refine j_iaddN (q := 36) C dX7_nextSign_35 rfl ?_ | refine j_iadd (q := 36) C dX7_nextSign_35 rfl ?_
        refine cp_place hSo hQ (q' := 39) C dX7_nextSign_36 rfl kw_247 (fun M hQ => ?_)
        refine j_bipush (v := (-14)) (q := 41) C dX7_nextSign_39 rfl (by decide) ?_
        refine j_iload_n (q := 42) C dX7_nextSign_41 rfl rfl rfl ?_
        refine j_isub (q := 43) C dX7_nextSign_42 rfl ?_
        exact j_iret C E dX7_nextSign_43 rfl rfl (⟨rfl, rfl, congrArg (fun z => some (Value.int z)) (cSg_of (by omega) hsg), by rw [← cSg_of (by omega) hsg, if_neg (sg24 k (by omega))]; exact hQ⟩)
  exact j_fewer (lv' := [(1, .int (nI 0)), (0, .ref rd)]) (by simp) (loop2 9 0 (fun s hs => absurd hs (by omega)) (by omega))

set_option maxRecDepth 100000 in
set_option maxHeartbeats 4000000 in
theorem ctX7_advance {G : jG} {sz : Nat} {Sh : jS} {M : jM} {rd : Nat} {S : Nat → Prop} (hSo : S rd) {T : Nat → Nat} {n x : Nat} {M0 : jM} {K : Nat → Int32} {a c d e : Int32} (hQ : cP S rd Sh T n M0 M K a (nI x) c d e) (hx : x ≤ n) : jC G yX7_advance cX7_advance 1 (Option.none : Option FieldType) (jrm 8 0 0) sz Sh M [.ref rd] (jT sz Sh (fun r M1 => r = none ∧ cNx S rd Sh T n x M0 M1 K a e)) := by
  refine jC_start (by decide +kernel) (Nat.le_of_ble_eq_true rfl) (fun X C E hN0 => ?_)
  have hn160 : n ≤ 160 := hQ.2.2.1.2.1
  have hx1 := fr_le (T := T) hx
  have hx2 := tt_le (T := T) hx
  have j38 : ∀ (M : jM) (c d : Int32), cP S rd Sh T n M0 M K a (nI (fr T n x)) c d e → jJ G X 0 0 sz Sh M 38 [(0, .ref rd)] [] := by
    intro M c d hQ
    refine j_aload_n (q := 39) C dX7_advance_38 rfl rfl rfl ?_
    refine j_aload_n (q := 40) C dX7_advance_39 rfl rfl rfl ?_
    refine cg_place hQ (q' := 43) C dX7_advance_40 rfl kw_247 ?_
    refine cp_tokenAt hSo hQ (q' := 46) C dX7_advance_43 rfl kw_249 (fun M hQ => ?_)
    refine j_aload_n (q := 47) C dX7_advance_46 rfl rfl rfl ?_
    refine cg_place hQ (q' := 50) C dX7_advance_47 rfl kw_247 ?_
    refine j_aload_n (q := 51) C dX7_advance_50 rfl rfl rfl ?_
    refine cg_length hQ (q' := 54) C dX7_advance_51 rfl kw_244 ?_
    refine j_icmp_lt (q := 57) (tgt := 66) C dX7_advance_54 rfl (by decide) (fun c_54 => ?_) (fun c_54 => ?_)
    · have hfn : fr T n x < n := (nI_ltI (by omega) (by omega)).mp c_54
      have hne : ¬ fr T n x = n := by omega
      refine j_aload_n (q := 67) C dX7_advance_66 rfl rfl rfl ?_
      refine jg_Reader_tape (q := 70) C dX7_advance_67 rfl hQ.2.1.1 kw_242 hQ.2.1.2.2.2.1 ?_
      refine j_aload_n (q := 71) C dX7_advance_70 rfl rfl rfl ?_
      refine cg_place hQ (q' := 74) C dX7_advance_71 rfl kw_247 ?_
      refine j_bald (q := 75) C dX7_advance_74 rfl hQ.2.1.2.1 (by omega) (by decide) ?_
      rw [hQ.2.2.1.2.2.2 (fr T n x) hfn]
      refine jS1 (q := 78) C dX7_advance_75 rfl mX7_isLetter kw_474 kw_475 ctX7_isLetter rfl rfl (by decide) (Nat.le_of_ble_eq_true rfl) (by decide) ?_
      refine j_if_eq (q := 81) (tgt := 92) C dX7_advance_78 rfl (by decide) (fun c_78 => ?_) (fun c_78 => ?_)
      · refine j_aload_n (q := 93) C dX7_advance_92 rfl rfl rfl ?_
        refine jg_Reader_tape (q := 96) C dX7_advance_93 rfl hQ.2.1.1 kw_242 hQ.2.1.2.2.2.1 ?_
        refine j_aload_n (q := 97) C dX7_advance_96 rfl rfl rfl ?_
        refine cg_place hQ (q' := 100) C dX7_advance_97 rfl kw_247 ?_
        refine j_bald (q := 101) C dX7_advance_100 rfl hQ.2.1.2.1 (by omega) (by decide) ?_
        rw [hQ.2.2.1.2.2.2 (fr T n x) hfn]
        refine jS1 (q := 104) C dX7_advance_101 rfl mX7_isDigit kw_518 kw_519 ctX7_isDigit rfl rfl (by decide) (Nat.le_of_ble_eq_true rfl) (by decide) ?_
        refine j_if_eq (q := 107) (tgt := 118) C dX7_advance_104 rfl (by decide) (fun c_104 => ?_) (fun c_104 => ?_)
        · refine j_aload_n (q := 119) C dX7_advance_118 rfl rfl rfl ?_
          refine j_aload_n (q := 120) C dX7_advance_119 rfl rfl rfl ?_
          refine jVT jc7 (q := 123) C dX7_advance_120 rfl hQ.2.1.1 mX7_nextSign kw_524 kw_525 kw_7 (ctX7_nextSign hSo hQ hfn) rfl rfl (by decide) (Nat.le_of_ble_eq_true rfl) (by decide) (fun r_120 M_120 h_120 => ?_)
          obtain ⟨rfl, hQ⟩ := h_120
          refine cp_token hSo hQ (q' := 126) C dX7_advance_123 rfl kw_248 (fun M hQ => ?_)
          exact j_vret C E dX7_advance_126 rfl rfl (by
              have h1 : ¬ isLt (T (fr T n x)) = true := fun h => jb_0.mp c_78 ((bN_lt _ (hQ.2.2.1.2.2.1 _)).mpr h)
              have h2 : ¬ isDg (T (fr T n x)) = true := fun h => jb_0.mp c_104 ((bN_dg _ (hQ.2.2.1.2.2.1 _)).mpr h)
              have et : tt T n x = fr T n x + 1 := by unfold tt; rw [if_neg hne, if_neg h1, if_neg h2]
              cases hs : sF (T (fr T n x)) 0 9 with
              | none =>
                have ek : tk T n x = (4, 0) := by unfold tk; rw [if_neg hne, if_neg h1, if_neg h2, hs]
                have eg : cSg (T (fr T n x)) = -24 := by unfold cSg; rw [hs]
                rw [eg] at hQ
                exact ⟨rfl, rfl, rfl, _, by rw [ek]; exact hQ, fun h4 => absurd (by rw [ek]) h4⟩
              | some s =>
                have ek : tk T n x = (3, s) := by unfold tk; rw [if_neg hne, if_neg h1, if_neg h2, hs]
                have eg : cSg (T (fr T n x)) = -14 - nI s := by unfold cSg; rw [hs]
                rw [eg, if_neg (sg24 s (by have := sF_lt _ _ _ hs; omega))] at hQ
                exact ⟨rfl, rfl, rfl, _, by rw [ek]; exact hQ, fun _ => by rw [et]⟩)
        · refine j_aload_n (q := 108) C dX7_advance_107 rfl rfl rfl ?_
          refine j_aload_n (q := 109) C dX7_advance_108 rfl rfl rfl ?_
          refine jVT jc7 (q := 112) C dX7_advance_109 rfl hQ.2.1.1 mX7_nextNumber kw_521 kw_522 kw_6 (ctX7_nextNumber hSo hQ hfn) rfl rfl (by decide) (Nat.le_of_ble_eq_true rfl) (by decide) (fun r_109 M_109 h_109 => ?_)
          obtain ⟨rfl, hQ⟩ := h_109
          refine cp_token hSo hQ (q' := 115) C dX7_advance_112 rfl kw_248 (fun M hQ => ?_)
          refine j_goto (tgt := 126) C dX7_advance_115 (by decide) ?_
          exact j_vret C E dX7_advance_126 rfl rfl (by
              have h1 : ¬ isLt (T (fr T n x)) = true := fun h => jb_0.mp c_78 ((bN_lt _ (hQ.2.2.1.2.2.1 _)).mpr h)
              have h2 : isDg (T (fr T n x)) = true := (bN_dg _ (hQ.2.2.1.2.2.1 _)).mp (jb_n.mp c_104)
              have et : tt T n x = rn isDg T (n - fr T n x) (fr T n x) := by unfold tt; rw [if_neg hne, if_neg h1, if_pos h2]
              refine ⟨rfl, rfl, rfl, _, ?_, fun _ => by rw [et]⟩
              rw [show cTok (tk T n x) = (if rn isDg T (n - fr T n x) (fr T n x) - fr T n x ≤ 6 then nI (nm T (fr T n x) (rn isDg T (n - fr T n x) (fr T n x) - fr T n x)) else -24) by
                by_cases c6 : rn isDg T (n - fr T n x) (fr T n x) - fr T n x ≤ 6
                · rw [if_pos c6, show tk T n x = (2, nm T (fr T n x) (rn isDg T (n - fr T n x) (fr T n x) - fr T n x)) by unfold tk; rw [if_neg hne, if_neg h1, if_pos h2, et, if_neg (by omega)]]; rfl
                · rw [if_neg c6, show tk T n x = (4, 0) by unfold tk; rw [if_neg hne, if_neg h1, if_pos h2, et, if_pos (by omega)]]; rfl]
              exact hQ)
      · refine j_aload_n (q := 82) C dX7_advance_81 rfl rfl rfl ?_
        refine j_aload_n (q := 83) C dX7_advance_82 rfl rfl rfl ?_
        refine jVT jc7 (q := 86) C dX7_advance_83 rfl hQ.2.1.1 mX7_nextWord kw_477 kw_478 kw_4 (ctX7_nextWord hSo hQ hfn) rfl rfl (by decide) (Nat.le_of_ble_eq_true rfl) (by decide) (fun r_83 M_83 h_83 => ?_)
        obtain ⟨rfl, hQ⟩ := h_83
        have hSr := hQ
        refine cp_token hSo hQ (q' := 89) C dX7_advance_86 rfl kw_248 (fun M hQ => ?_)
        refine j_goto (tgt := 126) C dX7_advance_89 (by decide) ?_
        exact j_vret C E dX7_advance_126 rfl rfl (by
            have h1 : isLt (T (fr T n x)) = true := (bN_lt _ (hQ.2.2.1.2.2.1 _)).mp (jb_n.mp c_78)
            have et : tt T n x = rn isLt T (n - fr T n x) (fr T n x) := by unfold tt; rw [if_neg hne, if_pos h1]
            refine ⟨rfl, rfl, rfl, _, ?_, fun _ => by rw [et]⟩
            rw [show cTok (tk T n x) = cW T (fr T n x) (rn isLt T (n - fr T n x) (fr T n x) - fr T n x) by unfold cTok tk cW; rw [if_neg hne, if_pos h1, et]; cases wF T (fr T n x) (rn isLt T (n - fr T n x) (fr T n x) - fr T n x) 0 13 <;> rfl]
            exact hQ)
    · refine j_aload_n (q := 58) C dX7_advance_57 rfl rfl rfl ?_
      refine j_bipush (v := (-23)) (q := 60) C dX7_advance_58 rfl (by decide) ?_
      refine cp_token hSo hQ (q' := 63) C dX7_advance_60 rfl kw_248 (fun M hQ => ?_)
      refine j_goto (tgt := 126) C dX7_advance_63 (by decide) ?_
      exact j_vret C E dX7_advance_126 rfl rfl (by
          have efr : fr T n x = n := by
            have := (nI_leI (by omega) (by omega)).mp (Int32.not_lt.mp c_54)
            omega
          exact ⟨rfl, rfl, rfl, _, by rw [show cTok (tk T n x) = -23 by rw [tk_end.mpr efr]; rfl]; exact hQ, fun _ => by rw [show tt T n x = fr T n x by unfold tt; rw [if_pos efr]; exact efr.symm]⟩)
  have loop0 : ∀ (m k : Nat) (M : jM), k + m = n + 1 → k ≤ n → sk T (n - k) k = fr T n x → cP S rd Sh T n M0 M K a (nI k) c d e → jJ G X 0 0 sz Sh M 0 [(0, .ref rd)] [] := by
    intro m
    induction m with
    | zero => intro k M h1 h2; omega
    | succ m ih0 =>
      intro k M h1 hkn hsk hQ
      have ih : ∀ k' (M : jM), k' = k + 1 → k' ≤ n → sk T (n - k') k' = fr T n x → cP S rd Sh T n M0 M K a (nI k') c d e → jJ G X 0 0 sz Sh M 0 [(0, .ref rd)] [] := fun k' M h3 h4 h5 h6 => ih0 k' M (by omega) h4 h5 h6
      refine j_aload_n (q := 1) C dX7_advance_0 rfl rfl rfl ?_
      refine cg_place hQ (q' := 4) C dX7_advance_1 rfl kw_247 ?_
      refine j_aload_n (q := 5) C dX7_advance_4 rfl rfl rfl ?_
      refine cg_length hQ (q' := 8) C dX7_advance_5 rfl kw_244 ?_
      refine j_icmp_ge (q := 11) (tgt := 38) C dX7_advance_8 rfl (by decide) (fun c_8 => ?_) (fun c_8 => ?_)
      · have ek : k = fr T n x := by
          rw [← hsk]
          exact (sk_no hkn (fun h => absurd ((nI_leI (by omega) (by omega)).mp c_8) (by omega))).symm
        subst ek
        exact j38 M c d hQ
      · have hkl : k < n := Nat.lt_of_not_le (fun h => c_8 (nI_le h (by omega)))
        refine j_aload_n (q := 12) C dX7_advance_11 rfl rfl rfl ?_
        refine jg_Reader_tape (q := 15) C dX7_advance_12 rfl hQ.2.1.1 kw_242 hQ.2.1.2.2.2.1 ?_
        refine j_aload_n (q := 16) C dX7_advance_15 rfl rfl rfl ?_
        refine cg_place hQ (q' := 19) C dX7_advance_16 rfl kw_247 ?_
        refine j_bald (q := 20) C dX7_advance_19 rfl hQ.2.1.2.1 (by omega) (by decide) ?_
        rw [hQ.2.2.1.2.2.2 k hkl]
        refine j_bipush (v := nI 32) (q := 22) C dX7_advance_20 rfl (by decide) ?_
        refine j_icmp_ne (q := 25) (tgt := 38) C dX7_advance_22 rfl (by decide) (fun c_22 => ?_) (fun c_22 => ?_)
        · have ek : k = fr T n x := by
            rw [← hsk]
            exact (sk_no hkn (fun h => c_22 ((bN_sp _ (hQ.2.2.1.2.2.1 _)).mpr h.2))).symm
          subst ek
          exact j38 M c d hQ
        · refine j_aload_n (q := 26) C dX7_advance_25 rfl rfl rfl ?_
          refine j_dup (q := 27) C dX7_advance_26 rfl rfl ?_
          refine cg_place hQ (q' := 30) C dX7_advance_27 rfl kw_247 ?_
          refine j_iconst (v := nI 1) (q := 31) C dX7_advance_30 rfl (by decide) ?_
          first | refine j_iaddN (q := 32) C dX7_advance_31 rfl ?_ | refine j_iadd (q := 32) C dX7_advance_31 rfl ?_
          refine cp_place hSo hQ (q' := 35) C dX7_advance_32 rfl kw_247 (fun M hQ => ?_)
          refine j_goto (tgt := 0) C dX7_advance_35 (by decide) ?_
          exact ih (k + 1) M rfl hkl (by rw [← sk_go hkl ((bN_sp _ (hQ.2.2.1.2.2.1 _)).mp c_22)]; exact hsk) hQ
  exact loop0 (n + 1 - x) x M (by omega) hx rfl hQ

