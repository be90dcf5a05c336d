theorem jsL_3 (M : jM) {a b c : Nat} (k : Nat) (g A B : Nat → Int64) (v : Int64) (h1 : c ≠ a) (h2 : c ≠ b) : jsL (jw (jw (jw M c B) b A) a g) c k v = jw (jw (jw M c (va_up B k v)) b A) a g := by
  rw [jsL_o _ _ _ _ h1, jsL_o _ _ _ _ h2, jsL_w]
section JW3
variable {G : jG} {X : jX} {y : MethodName} {cc : ByteArray} {nL cells slots sz pc q : Nat} {R : Room} {Sh : jS} {M : jM} {lv lv' : List (Nat × Value)} {st : List Value}
theorem j_lald3 {a b c k n : Nat} {g A B : Nat → Int64} (h1 : c ≠ a) (h2 : c ≠ b) (C : jOk G X y cc nL R) (hd : decode cc pc = .ok (.laload, 1)) (hn : pc + 1 = q) (hs : Sh c = (14, n)) (hk : k < n) (h31 : n < 2 ^ 31) (kk : jJ G X cells slots sz Sh (jw (jw (jw M c B) b A) a g) q lv (.long (B k) :: st)) : jJ G X cells slots sz Sh (jw (jw (jw M c B) b A) a g) pc lv (.int (nI k) :: .ref c :: st) := j_lald C hd hn hs hk h31 (by rw [jw_ne _ _ h1, jw_ne _ _ h2, jw_at]; exact kk)
theorem j_last3 {a b c k n : Nat} {g A B : Nat → Int64} {x : Int64} (h1 : c ≠ a) (h2 : c ≠ b) (C : jOk G X y cc nL R) (hd : decode cc pc = .ok (.lastore, 1)) (hn : pc + 1 = q) (hs : Sh c = (14, n)) (hk : k < n) (h31 : n < 2 ^ 31) (kk : jJ G X cells slots sz Sh (jw (jw (jw M c (va_up B k x)) b A) a g) q lv st) : jJ G X cells slots sz Sh (jw (jw (jw M c B) b A) a g) pc lv (.long x :: .int (nI k) :: .ref c :: st) := j_last C hd hn hs hk h31 (by rw [jsL_3 _ _ _ _ _ _ h1 h2]; exact kk)
end JW3
/-- the memory with its scratch rows: the pile, what is asked, what is offered -/
abbrev rS (o : Nat) (M : jM) (P A B : Nat → Int64) : jM := jw (jw (jw M (o + 11) P) (o + 13) B) (o + 12) A
theorem rS_self (o : Nat) (M : jM) : rS o M (M.2.1 (o + 11)) (M.2.1 (o + 12)) (M.2.1 (o + 13)) = M := by
  unfold rS; rw [jw_self, jw_self, jw_self]
theorem rS_p (o : Nat) (M : jM) (P A B P2 : Nat → Int64) : jw (rS o M P A B) (o + 11) P2 = rS o M P2 A B := by
  unfold rS
  rw [jw_comm (jw (jw M (o + 11) P) (o + 13) B) (a := o + 12) (b := o + 11) A P2 (by omega), jw_comm (jw M (o + 11) P) (a := o + 13) (b := o + 11) B P2 (by omega), jw_jw]
def nAsk (N : Nat → Int64) (h : Nat) : Int64 := N (10 + 10 * h + 0) * N (10 + 10 * h + 3) / 10
def nKeeps (N : Nat → Int64) (d h : Nat) : Prop := 0 < d ∧ (100 + N (10 + 10 * h + 4)) * N (310 + (d - 1)) ≤ 100 * N (310 + d)
theorem nKeeps_em (N : Nat → Int64) (d h : Nat) : nKeeps N d h ∨ ¬ nKeeps N d h := Classical.em _
noncomputable def nOff (N : Nat → Int64) (d h : Nat) : Int64 := @ite _ (nKeeps N d h) (Classical.propDecidable _) 0 (lmx 0 (N (10 + 10 * h + 1) - 1))
theorem nOff_t {N : Nat → Int64} {d h : Nat} (c : nKeeps N d h) : nOff N d h = 0 := by unfold nOff; exact @if_pos _ (Classical.propDecidable _) c _ _ _
theorem nOff_f {N : Nat → Int64} {d h : Nat} (c : ¬ nKeeps N d h) : nOff N d h = lmx 0 (N (10 + 10 * h + 1) - 1) := by unfold nOff; exact @if_neg _ (Classical.propDecidable _) c _ _ _
def nSm (A : Nat → Int64) : Nat → Int64
  | 0 => 0
  | k + 1 => nSm A k + A k
theorem nSm_cp {f A : Nat → Int64} {n : Nat} : ∀ k, k ≤ n → nSm (nCp f A n) k = nSm f k
  | 0, _ => rfl
  | k + 1, h => by rw [nSm, nSm, nSm_cp k (by omega)]; simp only [nCp]; rw [if_pos (by omega)]
def nPrice (N A B : Nat → Int64) (d pe : Nat) : Int64 := if nSm B pe = 0 then N (310 + d) else lmx 1 (lmn 1000000000000000 (nSm A pe / nSm B pe))
set_option maxRecDepth 100000 in
set_option maxHeartbeats 4000000 in
theorem ctX11_askAndOffer {G : jG} {sz : Nat} {Sh : jS} {M : jM} {o : Nat} {N : Nat → Int64} (hR : rLay o Sh M) {d pe pa la : Nat} (hO : nOk N d pe pa la) {A B : Nat → Int64} : jC G yX11_askAndOffer cX11_askAndOffer 4 (Option.none : Option FieldType) (jrm 2 0 0) sz Sh (jw (jw (jw M (o + 13) B) (o + 12) A) (o + 1) N) [.ref o] (jR none sz Sh (jw (jw (jw M (o + 13) (nCp (nOff N d) B pe)) (o + 12) (nCp (nAsk N) A pe)) (o + 1) N)) := by
  refine jC_start (by decide +kernel) (Nat.le_of_ble_eq_true rfl) (fun X C E hN0 => ?_)
  refine j_aload_n (q := 1) C dX11_askAndOffer_0 rfl rfl rfl ?_
  refine jV1 jc11 (q := 4) C dX11_askAndOffer_1 rfl hR.1.1 mX11_today kw_965 kw_966 kw_33 (ctX11_today (M := jw (jw M (o + 13) B) (o + 12) A) hR hO.1.1) rfl rfl (by decide) (Nat.le_of_ble_eq_true rfl) (by decide) ?_
  refine j_istore_n (lv' := [(1, _), (0, _)]) (q := 5) C dX11_askAndOffer_4 rfl rfl (by decide) rfl ?_
  refine j_iconst (v := nI 0) (q := 6) C dX11_askAndOffer_5 rfl (by decide) ?_
  refine j_istore_n (lv' := [(2, _), (1, _), (0, _)]) (q := 7) C dX11_askAndOffer_6 rfl rfl (by decide) rfl ?_
  have hd3 : d ≤ 300 := hO.1.2
  have hpe : pe ≤ 10 := hO.2.1.2
  have h4 : N 4 = lN pe := hO.2.1.1
  have loop7 : ∀ (n k : Nat) (A1 B1 : Nat → Int64), A1 = nCp (nAsk N) A k → B1 = nCp (nOff N d) B k → k + n = pe → jJ G X 0 0 sz Sh (jw (jw (jw M (o + 13) B1) (o + 12) A1) (o + 1) N) 7 [(2, .int (nI k)), (1, .int (nI d)), (0, .ref o)] [] := by
    intro n
    induction n with
    | zero =>
      intro k A1 B1 eA eB hk
      refine j_iload_n (q := 8) C dX11_askAndOffer_7 rfl rfl rfl ?_
      first | refine j_i2lN (q := 9) C dX11_askAndOffer_8 rfl (by omega) ?_ | refine j_i2l (q := 9) C dX11_askAndOffer_8 rfl rfl ?_
      refine j_aload_n (q := 10) C dX11_askAndOffer_9 rfl rfl rfl ?_
      refine jg_Model_now (q := 13) C dX11_askAndOffer_10 rfl hR.1.1 kw_869 hR.2.1 ?_
      refine j_iconst (v := nI 4) (q := 14) C dX11_askAndOffer_13 rfl (by decide) ?_
      refine j_laldW (q := 15) C dX11_askAndOffer_14 rfl hR.1.2.1 (by omega) (by decide) ?_
      rw [h4]
      refine j_lcmp_ge (q1 := 16) (q := 19) (tgt := 131) C dX11_askAndOffer_15 dX11_askAndOffer_16 rfl rfl (by decide) (fun c_16 => ?_) (fun c_16 => absurd ((lN_le (by omega) (by omega)).mpr (by omega)) c_16)
      obtain rfl : k = pe := by omega
      exact j_vret C E dX11_askAndOffer_131 rfl rfl ((by rw [eA, eB]; exact jR_i))
    | succ n ih =>
      intro k A1 B1 eA eB hk
      refine j_iload_n (q := 8) C dX11_askAndOffer_7 rfl rfl rfl ?_
      first | refine j_i2lN (q := 9) C dX11_askAndOffer_8 rfl (by omega) ?_ | refine j_i2l (q := 9) C dX11_askAndOffer_8 rfl rfl ?_
      refine j_aload_n (q := 10) C dX11_askAndOffer_9 rfl rfl rfl ?_
      refine jg_Model_now (q := 13) C dX11_askAndOffer_10 rfl hR.1.1 kw_869 hR.2.1 ?_
      refine j_iconst (v := nI 4) (q := 14) C dX11_askAndOffer_13 rfl (by decide) ?_
      refine j_laldW (q := 15) C dX11_askAndOffer_14 rfl hR.1.2.1 (by omega) (by decide) ?_
      rw [h4]
      refine j_lcmp_ge (q1 := 16) (q := 19) (tgt := 131) C dX11_askAndOffer_15 dX11_askAndOffer_16 rfl rfl (by decide) (fun c_16 => absurd c_16 (fun h => absurd ((lN_le (by omega) (by omega)).mp h) (by omega))) (fun c_16 => ?_)
      refine j_aload_n (q := 20) C dX11_askAndOffer_19 rfl rfl rfl ?_
      refine jg_Model_asks (q := 23) C dX11_askAndOffer_20 rfl hR.1.1 kw_890 hR.2.2.2.2.2.2.2.2.2.2.2.2.1 ?_
      refine j_iload_n (q := 24) C dX11_askAndOffer_23 rfl rfl rfl ?_
      refine j_aload_n (q := 25) C dX11_askAndOffer_24 rfl rfl rfl ?_
      refine jg_Model_now (q := 28) C dX11_askAndOffer_25 rfl hR.1.1 kw_869 hR.2.1 ?_
      refine j_iload_n (q := 29) C dX11_askAndOffer_28 rfl rfl rfl ?_
      refine j_iconst (v := nI 0) (q := 30) C dX11_askAndOffer_29 rfl (by decide) ?_
      refine jS1 (q := 33) C dX11_askAndOffer_30 rfl mX11_of kw_908 kw_909 (ctX11_of) rfl rfl (by decide) (Nat.le_of_ble_eq_true rfl) (by decide) ?_
      refine j_laldW (q := 34) C dX11_askAndOffer_33 rfl hR.1.2.1 (by omega) (by decide) ?_
      refine j_aload_n (q := 35) C dX11_askAndOffer_34 rfl rfl rfl ?_
      refine jg_Model_now (q := 38) C dX11_askAndOffer_35 rfl hR.1.1 kw_869 hR.2.1 ?_
      refine j_iload_n (q := 39) C dX11_askAndOffer_38 rfl rfl rfl ?_
      refine j_iconst (v := nI 3) (q := 40) C dX11_askAndOffer_39 rfl (by decide) ?_
      refine jS1 (q := 43) C dX11_askAndOffer_40 rfl mX11_of kw_908 kw_909 (ctX11_of) rfl rfl (by decide) (Nat.le_of_ble_eq_true rfl) (by decide) ?_
      refine j_laldW (q := 44) C dX11_askAndOffer_43 rfl hR.1.2.1 (by omega) (by decide) ?_
      refine j_lmul (q := 45) C dX11_askAndOffer_44 rfl ?_
      refine j_ldc2 (q := 48) C dX11_askAndOffer_45 rfl kw_921 ?_
      refine j_ldiv (q := 49) C dX11_askAndOffer_48 rfl (by decide) ?_
      refine j_last2 (b := o + 12) (by omega) (q := 50) C dX11_askAndOffer_49 rfl hR.1.2.2.2.2.2.2.2.2.2.2.2.2.1 (by omega) (by decide) ?_
      refine j_iload_n (q := 51) C dX11_askAndOffer_50 rfl rfl rfl ?_
      refine j_if_le (q := 54) (tgt := 93) C dX11_askAndOffer_51 rfl (by decide) (fun c_51 => ?_) (fun c_51 => ?_)
      · refine j_iconst (v := nI 0) (q := 94) C dX11_askAndOffer_93 rfl (by decide) ?_
        refine j_istore_n (lv' := [(3, _), (2, _), (1, _), (0, _)]) (q := 95) C dX11_askAndOffer_94 rfl rfl (by decide) rfl ?_
        refine j_aload_n (q := 96) C dX11_askAndOffer_95 rfl rfl rfl ?_
        refine jg_Model_offers (q := 99) C dX11_askAndOffer_96 rfl hR.1.1 kw_891 hR.2.2.2.2.2.2.2.2.2.2.2.2.2.1 ?_
        refine j_iload_n (q := 100) C dX11_askAndOffer_99 rfl rfl rfl ?_
        refine j_iload_n (q := 101) C dX11_askAndOffer_100 rfl rfl rfl ?_
        refine j_if_eq (q := 104) (tgt := 108) C dX11_askAndOffer_101 rfl (by decide) (fun c_101 => ?_) (fun c_101 => absurd (by decide : nI 0 = 0) c_101)
        refine j_lconst (v := 0) (q := 109) C dX11_askAndOffer_108 rfl (by decide) ?_
        refine j_aload_n (q := 110) C dX11_askAndOffer_109 rfl rfl rfl ?_
        refine jg_Model_now (q := 113) C dX11_askAndOffer_110 rfl hR.1.1 kw_869 hR.2.1 ?_
        refine j_iload_n (q := 114) C dX11_askAndOffer_113 rfl rfl rfl ?_
        refine j_iconst (v := nI 1) (q := 115) C dX11_askAndOffer_114 rfl (by decide) ?_
        refine jS1 (q := 118) C dX11_askAndOffer_115 rfl mX11_of kw_908 kw_909 (ctX11_of) rfl rfl (by decide) (Nat.le_of_ble_eq_true rfl) (by decide) ?_
        refine j_laldW (q := 119) C dX11_askAndOffer_118 rfl hR.1.2.1 (by omega) (by decide) ?_
        refine j_lconst (v := 1) (q := 120) C dX11_askAndOffer_119 rfl (by decide) ?_
        refine j_lsub (q := 121) C dX11_askAndOffer_120 rfl ?_
        refine j_lmax (q := 124) C dX11_askAndOffer_121 rfl kw_989 (by decide) (Nat.le_of_ble_eq_true rfl) (by decide) ?_
        refine j_last3 (c := o + 13) (by omega) (by omega) (q := 125) C dX11_askAndOffer_124 rfl hR.1.2.2.2.2.2.2.2.2.2.2.2.2.2.1 (by omega) (by decide) ?_
        first | refine j_iincN (lv' := [(2, _), (3, _), (1, _), (0, _)]) (q := 128) C dX11_askAndOffer_125 rfl rfl (by decide) rfl ?_ | refine j_iinc (lv' := [(2, _), (3, _), (1, _), (0, _)]) (q := 128) C dX11_askAndOffer_125 rfl rfl rfl (by decide) rfl ?_
        refine j_goto (tgt := 7) C dX11_askAndOffer_128 (by decide) ?_
        exact j_fewer (lv' := [(2, .int (nI (k + 1))), (1, .int (nI d)), (0, .ref o)]) (by simp) (ih (k + 1) _ _ (by rw [← nCp_s, eA]; rfl) (by rw [← nCp_s, eB, nOff_f (fun h => absurd ((nI_leI (b := 0) (by omega) (by omega)).mp c_51) (by have := h.1; omega))]) (by omega))
      · have hd0 : 0 < d := Nat.pos_of_ne_zero (fun e => c_51 (by rw [e]; decide))
        refine j_ldc2 (q := 57) C dX11_askAndOffer_54 rfl kw_1156 ?_
        refine j_aload_n (q := 58) C dX11_askAndOffer_57 rfl rfl rfl ?_
        refine j_iload_n (q := 59) C dX11_askAndOffer_58 rfl rfl rfl ?_
        refine jV1 jc11 (q := 62) C dX11_askAndOffer_59 rfl hR.1.1 mX11_priceOf kw_968 kw_969 kw_34 (ctX11_priceOf (M := jw (jw M (o + 13) _) (o + 12) _) hR (by omega)) rfl rfl (by decide) (Nat.le_of_ble_eq_true rfl) (by decide) ?_
        refine j_lmul (q := 63) C dX11_askAndOffer_62 rfl ?_
        refine j_ldc2 (q := 66) C dX11_askAndOffer_63 rfl kw_1156 ?_
        refine j_aload_n (q := 67) C dX11_askAndOffer_66 rfl rfl rfl ?_
        refine jg_Model_now (q := 70) C dX11_askAndOffer_67 rfl hR.1.1 kw_869 hR.2.1 ?_
        refine j_iload_n (q := 71) C dX11_askAndOffer_70 rfl rfl rfl ?_
        refine j_iconst (v := nI 4) (q := 72) C dX11_askAndOffer_71 rfl (by decide) ?_
        refine jS1 (q := 75) C dX11_askAndOffer_72 rfl mX11_of kw_908 kw_909 (ctX11_of) rfl rfl (by decide) (Nat.le_of_ble_eq_true rfl) (by decide) ?_
        refine j_laldW (q := 76) C dX11_askAndOffer_75 rfl hR.1.2.1 (by omega) (by decide) ?_
        refine j_ladd (q := 77) C dX11_askAndOffer_76 rfl ?_
        refine j_aload_n (q := 78) C dX11_askAndOffer_77 rfl rfl rfl ?_
        refine j_iload_n (q := 79) C dX11_askAndOffer_78 rfl rfl rfl ?_
        refine j_iconst (v := nI 1) (q := 80) C dX11_askAndOffer_79 rfl (by decide) ?_
        refine j_isub (q := 81) C dX11_askAndOffer_80 rfl ?_
        refine j_top (v' := .int (nI (d - 1))) (by rw [pk_sub (by omega)]) ?_
        refine jV1 jc11 (q := 84) C dX11_askAndOffer_81 rfl hR.1.1 mX11_priceOf kw_968 kw_969 kw_34 (ctX11_priceOf (M := jw (jw M (o + 13) _) (o + 12) _) hR (by omega)) rfl rfl (by decide) (Nat.le_of_ble_eq_true rfl) (by decide) ?_
        refine j_lmul (q := 85) C dX11_askAndOffer_84 rfl ?_
        refine j_lcmp_lt (q1 := 86) (q := 89) (tgt := 93) C dX11_askAndOffer_85 dX11_askAndOffer_86 rfl rfl (by decide) (fun c_86 => ?_) (fun c_86 => ?_)
        · refine j_iconst (v := nI 0) (q := 94) C dX11_askAndOffer_93 rfl (by decide) ?_
          refine j_istore_n (lv' := [(3, _), (2, _), (1, _), (0, _)]) (q := 95) C dX11_askAndOffer_94 rfl rfl (by decide) rfl ?_
          refine j_aload_n (q := 96) C dX11_askAndOffer_95 rfl rfl rfl ?_
          refine jg_Model_offers (q := 99) C dX11_askAndOffer_96 rfl hR.1.1 kw_891 hR.2.2.2.2.2.2.2.2.2.2.2.2.2.1 ?_
          refine j_iload_n (q := 100) C dX11_askAndOffer_99 rfl rfl rfl ?_
          refine j_iload_n (q := 101) C dX11_askAndOffer_100 rfl rfl rfl ?_
          refine j_if_eq (q := 104) (tgt := 108) C dX11_askAndOffer_101 rfl (by decide) (fun c_101 => ?_) (fun c_101 => absurd (by decide : nI 0 = 0) c_101)
          refine j_lconst (v := 0) (q := 109) C dX11_askAndOffer_108 rfl (by decide) ?_
          refine j_aload_n (q := 110) C dX11_askAndOffer_109 rfl rfl rfl ?_
          refine jg_Model_now (q := 113) C dX11_askAndOffer_110 rfl hR.1.1 kw_869 hR.2.1 ?_
          refine j_iload_n (q := 114) C dX11_askAndOffer_113 rfl rfl rfl ?_
          refine j_iconst (v := nI 1) (q := 115) C dX11_askAndOffer_114 rfl (by decide) ?_
          refine jS1 (q := 118) C dX11_askAndOffer_115 rfl mX11_of kw_908 kw_909 (ctX11_of) rfl rfl (by decide) (Nat.le_of_ble_eq_true rfl) (by decide) ?_
          refine j_laldW (q := 119) C dX11_askAndOffer_118 rfl hR.1.2.1 (by omega) (by decide) ?_
          refine j_lconst (v := 1) (q := 120) C dX11_askAndOffer_119 rfl (by decide) ?_
          refine j_lsub (q := 121) C dX11_askAndOffer_120 rfl ?_
          refine j_lmax (q := 124) C dX11_askAndOffer_121 rfl kw_989 (by decide) (Nat.le_of_ble_eq_true rfl) (by decide) ?_
          refine j_last3 (c := o + 13) (by omega) (by omega) (q := 125) C dX11_askAndOffer_124 rfl hR.1.2.2.2.2.2.2.2.2.2.2.2.2.2.1 (by omega) (by decide) ?_
          first | refine j_iincN (lv' := [(2, _), (3, _), (1, _), (0, _)]) (q := 128) C dX11_askAndOffer_125 rfl rfl (by decide) rfl ?_ | refine j_iinc (lv' := [(2, _), (3, _), (1, _), (0, _)]) (q := 128) C dX11_askAndOffer_125 rfl rfl rfl (by decide) rfl ?_
          refine j_goto (tgt := 7) C dX11_askAndOffer_128 (by decide) ?_
          exact j_fewer (lv' := [(2, .int (nI (k + 1))), (1, .int (nI d)), (0, .ref o)]) (by simp) (ih (k + 1) _ _ (by rw [← nCp_s, eA]; rfl) (by rw [← nCp_s, eB, nOff_f (fun h => absurd c_86 (Int64.not_lt.mpr h.2))]) (by omega))
        · refine j_iconst (v := nI 1) (q := 90) C dX11_askAndOffer_89 rfl (by decide) ?_
          refine j_goto (tgt := 94) C dX11_askAndOffer_90 (by decide) ?_
          refine j_istore_n (lv' := [(3, _), (2, _), (1, _), (0, _)]) (q := 95) C dX11_askAndOffer_94 rfl rfl (by decide) rfl ?_
          refine j_aload_n (q := 96) C dX11_askAndOffer_95 rfl rfl rfl ?_
          refine jg_Model_offers (q := 99) C dX11_askAndOffer_96 rfl hR.1.1 kw_891 hR.2.2.2.2.2.2.2.2.2.2.2.2.2.1 ?_
          refine j_iload_n (q := 100) C dX11_askAndOffer_99 rfl rfl rfl ?_
          refine j_iload_n (q := 101) C dX11_askAndOffer_100 rfl rfl rfl ?_
          refine j_if_eq (q := 104) (tgt := 108) C dX11_askAndOffer_101 rfl (by decide) (fun c_101 => absurd c_101 (by decide)) (fun c_101 => ?_)
          refine j_lconst (v := 0) (q := 105) C dX11_askAndOffer_104 rfl (by decide) ?_
          refine j_goto (tgt := 124) C dX11_askAndOffer_105 (by decide) ?_
          refine j_last3 (c := o + 13) (by omega) (by omega) (q := 125) C dX11_askAndOffer_124 rfl hR.1.2.2.2.2.2.2.2.2.2.2.2.2.2.1 (by omega) (by decide) ?_
          first | refine j_iincN (lv' := [(2, _), (3, _), (1, _), (0, _)]) (q := 128) C dX11_askAndOffer_125 rfl rfl (by decide) rfl ?_ | refine j_iinc (lv' := [(2, _), (3, _), (1, _), (0, _)]) (q := 128) C dX11_askAndOffer_125 rfl rfl rfl (by decide) rfl ?_
          refine j_goto (tgt := 7) C dX11_askAndOffer_128 (by decide) ?_
          exact j_fewer (lv' := [(2, .int (nI (k + 1))), (1, .int (nI d)), (0, .ref o)]) (by simp) (ih (k + 1) _ _ (by rw [← nCp_s, eA]; rfl) (by rw [← nCp_s, eB, nOff_t ⟨hd0, Int64.not_lt.mp c_86⟩]) (by omega))
  exact loop7 pe 0 A B (nCp_0 _ _).symm (nCp_0 _ _).symm (by omega)

set_option maxRecDepth 100000 in
set_option maxHeartbeats 4000000 in
theorem ctX11_priceMade {G : jG} {sz : Nat} {Sh : jS} {M : jM} {o : Nat} {N : Nat → Int64} (hR : rLay o Sh M) {d pe pa la : Nat} (hO : nOk N d pe pa la) {A B : Nat → Int64} : jC G yX11_priceMade cX11_priceMade 6 (Option.some FieldType.long) (jrm 2 0 0) sz Sh (jw (jw (jw M (o + 13) B) (o + 12) A) (o + 1) N) [.ref o] (jR (some (.long (nPrice N A B d pe))) sz Sh (jw (jw (jw M (o + 13) B) (o + 12) A) (o + 1) N)) := by
  refine jC_start (by decide +kernel) (Nat.le_of_ble_eq_true rfl) (fun X C E hN0 => ?_)
  refine j_lconst (v := 0) (q := 1) C dX11_priceMade_0 rfl (by decide) ?_
  refine j_lstore_n (lv' := [(1, _), (0, _)]) (q := 2) C dX11_priceMade_1 rfl rfl (by decide) rfl ?_
  refine j_lconst (v := 0) (q := 3) C dX11_priceMade_2 rfl (by decide) ?_
  refine j_lstore_n (lv' := [(3, _), (1, _), (0, _)]) (q := 4) C dX11_priceMade_3 rfl rfl (by decide) rfl ?_
  refine j_iconst (v := nI 0) (q := 5) C dX11_priceMade_4 rfl (by decide) ?_
  refine j_istore (lv' := [(5, _), (3, _), (1, _), (0, _)]) (q := 7) C dX11_priceMade_5 rfl (by decide) rfl ?_
  have hd3 : d ≤ 300 := hO.1.2
  have hpe : pe ≤ 10 := hO.2.1.2
  have h4 : N 4 = lN pe := hO.2.1.1
  have loop7 : ∀ (n k : Nat) (S T : Int64), S = nSm A k → T = nSm B k → k + n = pe → jJ G X 0 0 sz Sh (jw (jw (jw M (o + 13) B) (o + 12) A) (o + 1) N) 7 [(5, .int (nI k)), (3, .long T), (1, .long S), (0, .ref o)] [] := by
    intro n
    induction n with
    | zero =>
      intro k S T eS eT hk
      refine j_iload (q := 9) C dX11_priceMade_7 rfl rfl ?_
      first | refine j_i2lN (q := 10) C dX11_priceMade_9 rfl (by omega) ?_ | refine j_i2l (q := 10) C dX11_priceMade_9 rfl rfl ?_
      refine j_aload_n (q := 11) C dX11_priceMade_10 rfl rfl rfl ?_
      refine jg_Model_now (q := 14) C dX11_priceMade_11 rfl hR.1.1 kw_869 hR.2.1 ?_
      refine j_iconst (v := nI 4) (q := 15) C dX11_priceMade_14 rfl (by decide) ?_
      refine j_laldW (q := 16) C dX11_priceMade_15 rfl hR.1.2.1 (by omega) (by decide) ?_
      rw [h4]
      refine j_lcmp_ge (q1 := 17) (q := 20) (tgt := 46) C dX11_priceMade_16 dX11_priceMade_17 rfl rfl (by decide) (fun c_17 => ?_) (fun c_17 => absurd ((lN_le (by omega) (by omega)).mpr (by omega)) c_17)
      obtain rfl : k = pe := by omega
      refine j_lload_n (q := 47) C dX11_priceMade_46 rfl rfl rfl ?_
      refine j_lconst (v := 0) (q := 48) C dX11_priceMade_47 rfl (by decide) ?_
      refine j_lcmp_ne (q1 := 49) (q := 52) (tgt := 63) C dX11_priceMade_48 dX11_priceMade_49 rfl rfl (by decide) (fun c_49 => ?_) (fun c_49 => ?_)
      · refine j_lconst (v := 1) (q := 64) C dX11_priceMade_63 rfl (by decide) ?_
        refine j_ldc2 (q := 67) C dX11_priceMade_64 rfl kw_897 ?_
        refine j_lload_n (q := 68) C dX11_priceMade_67 rfl rfl rfl ?_
        refine j_lload_n (q := 69) C dX11_priceMade_68 rfl rfl rfl ?_
        refine j_ldiv (q := 70) C dX11_priceMade_69 rfl c_49 ?_
        refine j_lmin (q := 73) C dX11_priceMade_70 rfl kw_988 (by decide) (Nat.le_of_ble_eq_true rfl) (by decide) ?_
        refine j_lmax (q := 76) C dX11_priceMade_73 rfl kw_989 (by decide) (Nat.le_of_ble_eq_true rfl) (by decide) ?_
        exact j_lret C E dX11_priceMade_76 rfl rfl (jR_e (by rw [nPrice, ← eT, ← eS, if_neg c_49]) rfl)
      · refine j_aload_n (q := 53) C dX11_priceMade_52 rfl rfl rfl ?_
        refine j_aload_n (q := 54) C dX11_priceMade_53 rfl rfl rfl ?_
        refine jV1 jc11 (q := 57) C dX11_priceMade_54 rfl hR.1.1 mX11_today kw_965 kw_966 kw_33 (ctX11_today (M := jw (jw M (o + 13) B) (o + 12) A) hR hO.1.1) rfl rfl (by decide) (Nat.le_of_ble_eq_true rfl) (by decide) ?_
        refine jV1 jc11 (q := 60) C dX11_priceMade_57 rfl hR.1.1 mX11_priceOf kw_968 kw_969 kw_34 (ctX11_priceOf (M := jw (jw M (o + 13) B) (o + 12) A) hR (by omega)) rfl rfl (by decide) (Nat.le_of_ble_eq_true rfl) (by decide) ?_
        refine j_goto (tgt := 76) C dX11_priceMade_60 (by decide) ?_
        exact j_lret C E dX11_priceMade_76 rfl rfl (jR_e (by rw [nPrice, ← eT, ← eS, if_pos c_49]) rfl)
    | succ n ih =>
      intro k S T eS eT hk
      refine j_iload (q := 9) C dX11_priceMade_7 rfl rfl ?_
      first | refine j_i2lN (q := 10) C dX11_priceMade_9 rfl (by omega) ?_ | refine j_i2l (q := 10) C dX11_priceMade_9 rfl rfl ?_
      refine j_aload_n (q := 11) C dX11_priceMade_10 rfl rfl rfl ?_
      refine jg_Model_now (q := 14) C dX11_priceMade_11 rfl hR.1.1 kw_869 hR.2.1 ?_
      refine j_iconst (v := nI 4) (q := 15) C dX11_priceMade_14 rfl (by decide) ?_
      refine j_laldW (q := 16) C dX11_priceMade_15 rfl hR.1.2.1 (by omega) (by decide) ?_
      rw [h4]
      refine j_lcmp_ge (q1 := 17) (q := 20) (tgt := 46) C dX11_priceMade_16 dX11_priceMade_17 rfl rfl (by decide) (fun c_17 => absurd c_17 (fun h => absurd ((lN_le (by omega) (by omega)).mp h) (by omega))) (fun c_17 => ?_)
      refine j_lload_n (q := 21) C dX11_priceMade_20 rfl rfl rfl ?_
      refine j_aload_n (q := 22) C dX11_priceMade_21 rfl rfl rfl ?_
      refine jg_Model_asks (q := 25) C dX11_priceMade_22 rfl hR.1.1 kw_890 hR.2.2.2.2.2.2.2.2.2.2.2.2.1 ?_
      refine j_iload (q := 27) C dX11_priceMade_25 rfl rfl ?_
      refine j_lald2 (b := o + 12) (by omega) (q := 28) C dX11_priceMade_27 rfl hR.1.2.2.2.2.2.2.2.2.2.2.2.2.1 (by omega) (by decide) ?_
      refine j_ladd (q := 29) C dX11_priceMade_28 rfl ?_
      refine j_lstore_n (lv' := [(1, _), (5, _), (3, _), (0, _)]) (q := 30) C dX11_priceMade_29 rfl rfl (by decide) rfl ?_
      refine j_lload_n (q := 31) C dX11_priceMade_30 rfl rfl rfl ?_
      refine j_aload_n (q := 32) C dX11_priceMade_31 rfl rfl rfl ?_
      refine jg_Model_offers (q := 35) C dX11_priceMade_32 rfl hR.1.1 kw_891 hR.2.2.2.2.2.2.2.2.2.2.2.2.2.1 ?_
      refine j_iload (q := 37) C dX11_priceMade_35 rfl rfl ?_
      refine j_lald3 (c := o + 13) (by omega) (by omega) (q := 38) C dX11_priceMade_37 rfl hR.1.2.2.2.2.2.2.2.2.2.2.2.2.2.1 (by omega) (by decide) ?_
      refine j_ladd (q := 39) C dX11_priceMade_38 rfl ?_
      refine j_lstore_n (lv' := [(3, _), (1, _), (5, _), (0, _)]) (q := 40) C dX11_priceMade_39 rfl rfl (by decide) rfl ?_
      first | refine j_iincN (lv' := [(5, _), (3, _), (1, _), (0, _)]) (q := 43) C dX11_priceMade_40 rfl rfl (by decide) rfl ?_ | refine j_iinc (lv' := [(5, _), (3, _), (1, _), (0, _)]) (q := 43) C dX11_priceMade_40 rfl rfl rfl (by decide) rfl ?_
      refine j_goto (tgt := 7) C dX11_priceMade_43 (by decide) ?_
      exact j_fewer (lv' := [(5, .int (nI (k + 1))), (3, .long (T + B k)), (1, .long (S + A k)), (0, .ref o)]) (by simp) (ih (k + 1) _ _ (by rw [eS, nSm]) (by rw [eT, nSm]) (by omega))
  exact loop7 pe 0 0 0 rfl rfl (by omega)

