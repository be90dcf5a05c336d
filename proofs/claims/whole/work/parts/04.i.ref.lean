abbrev sB : Type := Int64 × (Nat → Int64) × (Nat → Int64)
def nBuyN (h : Nat) (pr : Int64) (s : Nat) (n : Int64) (N : Nat → Int64) : Nat → Int64 :=
  let N1 := va_up N (10 + 10 * s + 1) (N (10 + 10 * s + 1) - n)
  let N2 := va_up N1 (10 + 10 * s + 6) (N1 (10 + 10 * s + 6) + n)
  let N3 := va_up N2 (10 + 10 * h + 1) (N2 (10 + 10 * h + 1) + n)
  let N4 := va_up N3 (10 + 10 * h + 7) (N3 (10 + 10 * h + 7) + n)
  let N5 := va_up N4 (10 + 10 * h + 0) (N4 (10 + 10 * h + 0) - n * pr)
  nGets N5 (10 + 10 * s + 0) (n * pr)
def nBuy1 (h : Nat) (pr : Int64) (s : Nat) (q : sB) : sB := (q.1 - (if s = h then 0 else lmn q.1 (q.2.1 s)), va_up q.2.1 s (q.2.1 s - (if s = h then 0 else lmn q.1 (q.2.1 s))), nBuyN h pr s (if s = h then 0 else lmn q.1 (q.2.1 s)) q.2.2)
def nBuy (h : Nat) (pr : Int64) (q : sB) : Nat → sB
  | 0 => q
  | k + 1 => nBuy1 h pr k (nBuy h pr q k)
theorem nBuyN_eq {h s : Nat} {pr n : Int64} {N : Nat → Int64} (hh : h < 10) (hs : s < 10) : nEq N (nBuyN h pr s n N) :=
  (((((nEq.rf.up _ (nStP hs (by omega))).up _ (nStP hs (by omega))).up _ (nStP hh (by omega))).up _ (nStP hh (by omega))).up _ (nStP hh (by omega))).gets _ (nStP hs (by omega))
theorem nBuy_eq {h : Nat} {pr : Int64} {q : sB} (hh : h < 10) : ∀ k, k ≤ 10 → nEq q.2.2 (nBuy h pr q k).2.2
  | 0, _ => nEq.rf
  | k + 1, hk => (nBuy_eq hh k (by omega)).tr (nBuyN_eq hh (by omega))
def nBuysL (A : Nat → Int64) (pr : Int64) (pe h : Nat) (q : (Nat → Int64) × (Nat → Int64)) : (Nat → Int64) × (Nat → Int64) := (nBuy h pr (lmn (A h / pr) (9999 - q.2 (10 + 10 * h + 1)), q.1, q.2) pe).2
def nBuys (A : Nat → Int64) (pr : Int64) (pe : Nat) (q : (Nat → Int64) × (Nat → Int64)) : Nat → (Nat → Int64) × (Nat → Int64)
  | 0 => q
  | k + 1 => nBuysL A pr pe k (nBuys A pr pe q k)
theorem nBuys_eq {A : Nat → Int64} {pr : Int64} {pe : Nat} {q : (Nat → Int64) × (Nat → Int64)} (hpe : pe ≤ 10) : ∀ k, k ≤ pe → nEq q.2 (nBuys A pr pe q k).2
  | 0, _ => nEq.rf
  | k + 1, hk => (nBuys_eq hpe k (by omega)).tr (nBuy_eq (q := (_, (nBuys A pr pe q k).1, (nBuys A pr pe q k).2)) (by omega) pe hpe)
def nEat1 (N : Nat → Int64) (h : Nat) : Nat → Int64 := if N (10 + 10 * h + 1) ≤ 0 then va_up N (10 + 10 * h + 5) (N (10 + 10 * h + 5) + 1) else va_up N (10 + 10 * h + 1) (N (10 + 10 * h + 1) + -1)
def nEats (N : Nat → Int64) : Nat → (Nat → Int64)
  | 0 => N
  | k + 1 => nEat1 (nEats N k) k
theorem nEat1_eq {N : Nat → Int64} {h : Nat} (hh : h < 10) : nEq N (nEat1 N h) := by
  unfold nEat1
  by_cases c : N (10 + 10 * h + 1) ≤ 0
  · rw [if_pos c]; exact nEq.rf.up _ (nStP hh (by omega))
  · rw [if_neg c]; exact nEq.rf.up _ (nStP hh (by omega))
theorem nEats_eq {N : Nat → Int64} : ∀ k, k ≤ 10 → nEq N (nEats N k)
  | 0, _ => nEq.rf
  | k + 1, hk => (nEats_eq k (by omega)).tr (nEat1_eq (by omega))
def nBakes (N : Nat → Int64) : Nat → (Nat → Int64)
  | 0 => N
  | k + 1 => va_up (nBakes N k) (10 + 10 * k + 1) (lmn 9999 (nBakes N k (10 + 10 * k + 1) + nBakes N k (10 + 10 * k + 2)))
theorem nBakes_eq {N : Nat → Int64} : ∀ k, k ≤ 10 → nEq N (nBakes N k)
  | 0, _ => nEq.rf
  | k + 1, hk => (nBakes_eq k (by omega)).up _ (nStP (by omega) (by omega))
set_option maxRecDepth 100000 in
set_option maxHeartbeats 4000000 in
theorem ctX11_buys {G : jG} {sz : Nat} {Sh : jS} {M : jM} {o : Nat} {N : Nat → Int64} (hR : rLay o Sh M) {d pe pa la : Nat} (hO : nOk N d pe pa la) {A B : Nat → Int64} {h : Nat} (hh : h < pe) {pr : Int64} (hpr : ¬ pr = 0) : jC G yX11_buys cX11_buys 9 (Option.none : Option FieldType) (jrm 2 0 0) sz Sh (jw (jw (jw M (o + 13) B) (o + 12) A) (o + 1) N) [.ref o, .int (nI h), .long pr] (jR none sz Sh (jw (jw (jw M (o + 13) (nBuysL A pr pe h (B, N)).1) (o + 12) A) (o + 1) (nBuysL A pr pe h (B, N)).2)) := by
  refine jC_start (by decide +kernel) (Nat.le_of_ble_eq_true rfl) (fun X C E hN0 => ?_)
  have hpe : pe ≤ 10 := hO.2.1.2
  refine j_aload_n (q := 1) C dX11_buys_0 rfl rfl rfl ?_
  refine jg_Model_asks (q := 4) C dX11_buys_1 rfl hR.1.1 kw_890 hR.2.2.2.2.2.2.2.2.2.2.2.2.1 ?_
  refine j_iload_n (q := 5) C dX11_buys_4 rfl rfl rfl ?_
  refine j_lald2 (b := o + 12) (by omega) (q := 6) C dX11_buys_5 rfl hR.1.2.2.2.2.2.2.2.2.2.2.2.2.1 (by omega) (by decide) ?_
  refine j_lload_n (q := 7) C dX11_buys_6 rfl rfl rfl ?_
  refine j_ldiv (q := 8) C dX11_buys_7 rfl hpr ?_
  refine j_ldc2 (q := 11) C dX11_buys_8 rfl kw_901 ?_
  refine j_aload_n (q := 12) C dX11_buys_11 rfl rfl rfl ?_
  refine jg_Model_now (q := 15) C dX11_buys_12 rfl hR.1.1 kw_869 hR.2.1 ?_
  refine j_iload_n (q := 16) C dX11_buys_15 rfl rfl rfl ?_
  refine j_iconst (v := nI 1) (q := 17) C dX11_buys_16 rfl (by decide) ?_
  refine jS1 (q := 20) C dX11_buys_17 rfl mX11_of kw_908 kw_909 (ctX11_of) rfl rfl (by decide) (Nat.le_of_ble_eq_true rfl) (by decide) ?_
  refine j_laldW (q := 21) C dX11_buys_20 rfl hR.1.2.1 (by omega) (by decide) ?_
  refine j_lsub (q := 22) C dX11_buys_21 rfl ?_
  refine j_lmin (q := 25) C dX11_buys_22 rfl kw_988 (by decide) (Nat.le_of_ble_eq_true rfl) (by decide) ?_
  refine j_lstore (lv' := [(4, _), (0, _), (1, _), (2, _)]) (q := 27) C dX11_buys_25 rfl (by decide) rfl ?_
  refine j_iconst (v := nI 0) (q := 28) C dX11_buys_27 rfl (by decide) ?_
  refine j_istore (lv' := [(6, _), (4, _), (0, _), (1, _), (2, _)]) (q := 30) C dX11_buys_28 rfl (by decide) rfl ?_
  have loop30 : ∀ (n k : Nat) (L : Int64) (Bk Nk : Nat → Int64), (L, Bk, Nk) = nBuy h pr (lmn (A h / pr) (9999 - N (10 + 10 * h + 1)), B, N) k → k + n = pe → jJ G X 0 0 sz Sh (jw (jw (jw M (o + 13) Bk) (o + 12) A) (o + 1) Nk) 30 [(6, .int (nI k)), (4, .long L), (0, .ref o), (1, .int (nI h)), (2, .long pr)] [] := by
    intro n
    induction n with
    | zero =>
      intro k L Bk Nk eq hk
      have eN : Nk = (nBuy h pr (lmn (A h / pr) (9999 - N (10 + 10 * h + 1)), B, N) k).2.2 := congrArg (fun q => q.2.2) eq
      have h4 : Nk 4 = lN pe := (hO.eq (eN ▸ nBuy_eq (q := (lmn (A h / pr) (9999 - N (10 + 10 * h + 1)), B, N)) (by omega) k (by omega))).2.1.1
      refine j_iload (q := 32) C dX11_buys_30 rfl rfl ?_
      first | refine j_i2lN (q := 33) C dX11_buys_32 rfl (by omega) ?_ | refine j_i2l (q := 33) C dX11_buys_32 rfl rfl ?_
      refine j_aload_n (q := 34) C dX11_buys_33 rfl rfl rfl ?_
      refine jg_Model_now (q := 37) C dX11_buys_34 rfl hR.1.1 kw_869 hR.2.1 ?_
      refine j_iconst (v := nI 4) (q := 38) C dX11_buys_37 rfl (by decide) ?_
      refine j_laldW (q := 39) C dX11_buys_38 rfl hR.1.2.1 (by omega) (by decide) ?_
      rw [h4]
      refine j_lcmp_ge (q1 := 40) (q := 43) (tgt := 187) C dX11_buys_39 dX11_buys_40 rfl rfl (by decide) (fun c_40 => ?_) (fun c_40 => absurd ((lN_le (by omega) (by omega)).mpr (by omega)) c_40)
      obtain rfl : k = pe := by omega
      exact j_vret C E dX11_buys_187 rfl rfl (jR_e rfl (by rw [nBuysL, ← eq]))
    | succ n ih =>
      intro k L Bk Nk eq hk
      have eN : Nk = (nBuy h pr (lmn (A h / pr) (9999 - N (10 + 10 * h + 1)), B, N) k).2.2 := congrArg (fun q => q.2.2) eq
      have h4 : Nk 4 = lN pe := (hO.eq (eN ▸ nBuy_eq (q := (lmn (A h / pr) (9999 - N (10 + 10 * h + 1)), B, N)) (by omega) k (by omega))).2.1.1
      refine j_iload (q := 32) C dX11_buys_30 rfl rfl ?_
      first | refine j_i2lN (q := 33) C dX11_buys_32 rfl (by omega) ?_ | refine j_i2l (q := 33) C dX11_buys_32 rfl rfl ?_
      refine j_aload_n (q := 34) C dX11_buys_33 rfl rfl rfl ?_
      refine jg_Model_now (q := 37) C dX11_buys_34 rfl hR.1.1 kw_869 hR.2.1 ?_
      refine j_iconst (v := nI 4) (q := 38) C dX11_buys_37 rfl (by decide) ?_
      refine j_laldW (q := 39) C dX11_buys_38 rfl hR.1.2.1 (by omega) (by decide) ?_
      rw [h4]
      refine j_lcmp_ge (q1 := 40) (q := 43) (tgt := 187) C dX11_buys_39 dX11_buys_40 rfl rfl (by decide) (fun c_40 => absurd c_40 (fun h => absurd ((lN_le (by omega) (by omega)).mp h) (by omega))) (fun c_40 => ?_)
      refine j_iload (q := 45) C dX11_buys_43 rfl rfl ?_
      refine j_iload_n (q := 46) C dX11_buys_45 rfl rfl rfl ?_
      refine j_icmp_ne (q := 49) (tgt := 53) C dX11_buys_46 rfl (by decide) (fun c_46 => ?_) (fun c_46 => ?_)
      · refine j_lload (q := 55) C dX11_buys_53 rfl rfl ?_
        refine j_aload_n (q := 56) C dX11_buys_55 rfl rfl rfl ?_
        refine jg_Model_offers (q := 59) C dX11_buys_56 rfl hR.1.1 kw_891 hR.2.2.2.2.2.2.2.2.2.2.2.2.2.1 ?_
        refine j_iload (q := 61) C dX11_buys_59 rfl rfl ?_
        refine j_lald3 (c := o + 13) (by omega) (by omega) (q := 62) C dX11_buys_61 rfl hR.1.2.2.2.2.2.2.2.2.2.2.2.2.2.1 (by omega) (by decide) ?_
        refine j_lmin (q := 65) C dX11_buys_62 rfl kw_988 (by decide) (Nat.le_of_ble_eq_true rfl) (by decide) ?_
        refine j_lstore (lv' := [(7, _), (6, _), (4, _), (0, _), (1, _), (2, _)]) (q := 67) C dX11_buys_65 rfl (by decide) rfl ?_
        refine j_lload (q := 69) C dX11_buys_67 rfl rfl ?_
        refine j_lload (q := 71) C dX11_buys_69 rfl rfl ?_
        refine j_lsub (q := 72) C dX11_buys_71 rfl ?_
        refine j_lstore (lv' := [(4, _), (7, _), (6, _), (0, _), (1, _), (2, _)]) (q := 74) C dX11_buys_72 rfl (by decide) rfl ?_
        refine j_aload_n (q := 75) C dX11_buys_74 rfl rfl rfl ?_
        refine jg_Model_offers (q := 78) C dX11_buys_75 rfl hR.1.1 kw_891 hR.2.2.2.2.2.2.2.2.2.2.2.2.2.1 ?_
        refine j_iload (q := 80) C dX11_buys_78 rfl rfl ?_
        refine j_dup2_11 (q := 81) C dX11_buys_80 rfl rfl rfl ?_
        refine j_lald3 (c := o + 13) (by omega) (by omega) (q := 82) C dX11_buys_81 rfl hR.1.2.2.2.2.2.2.2.2.2.2.2.2.2.1 (by omega) (by decide) ?_
        refine j_lload (q := 84) C dX11_buys_82 rfl rfl ?_
        refine j_lsub (q := 85) C dX11_buys_84 rfl ?_
        refine j_last3 (c := o + 13) (by omega) (by omega) (q := 86) C dX11_buys_85 rfl hR.1.2.2.2.2.2.2.2.2.2.2.2.2.2.1 (by omega) (by decide) ?_
        refine j_aload_n (q := 87) C dX11_buys_86 rfl rfl rfl ?_
        refine jg_Model_now (q := 90) C dX11_buys_87 rfl hR.1.1 kw_869 hR.2.1 ?_
        refine j_iload (q := 92) C dX11_buys_90 rfl rfl ?_
        refine j_iconst (v := nI 1) (q := 93) C dX11_buys_92 rfl (by decide) ?_
        refine jS1 (q := 96) C dX11_buys_93 rfl mX11_of kw_908 kw_909 (ctX11_of) rfl rfl (by decide) (Nat.le_of_ble_eq_true rfl) (by decide) ?_
        refine j_dup2_11 (q := 97) C dX11_buys_96 rfl rfl rfl ?_
        refine j_laldW (q := 98) C dX11_buys_97 rfl hR.1.2.1 (by omega) (by decide) ?_
        refine j_lload (q := 100) C dX11_buys_98 rfl rfl ?_
        refine j_lsub (q := 101) C dX11_buys_100 rfl ?_
        refine j_lastW (q := 102) C dX11_buys_101 rfl hR.1.2.1 (by omega) (by decide) ?_
        refine j_aload_n (q := 103) C dX11_buys_102 rfl rfl rfl ?_
        refine jg_Model_now (q := 106) C dX11_buys_103 rfl hR.1.1 kw_869 hR.2.1 ?_
        refine j_iload (q := 108) C dX11_buys_106 rfl rfl ?_
        refine j_bipush (v := nI 6) (q := 110) C dX11_buys_108 rfl (by decide) ?_
        refine jS1 (q := 113) C dX11_buys_110 rfl mX11_of kw_908 kw_909 (ctX11_of) rfl rfl (by decide) (Nat.le_of_ble_eq_true rfl) (by decide) ?_
        refine j_dup2_11 (q := 114) C dX11_buys_113 rfl rfl rfl ?_
        refine j_laldW (q := 115) C dX11_buys_114 rfl hR.1.2.1 (by omega) (by decide) ?_
        refine j_lload (q := 117) C dX11_buys_115 rfl rfl ?_
        refine j_ladd (q := 118) C dX11_buys_117 rfl ?_
        refine j_lastW (q := 119) C dX11_buys_118 rfl hR.1.2.1 (by omega) (by decide) ?_
        refine j_aload_n (q := 120) C dX11_buys_119 rfl rfl rfl ?_
        refine jg_Model_now (q := 123) C dX11_buys_120 rfl hR.1.1 kw_869 hR.2.1 ?_
        refine j_iload_n (q := 124) C dX11_buys_123 rfl rfl rfl ?_
        refine j_iconst (v := nI 1) (q := 125) C dX11_buys_124 rfl (by decide) ?_
        refine jS1 (q := 128) C dX11_buys_125 rfl mX11_of kw_908 kw_909 (ctX11_of) rfl rfl (by decide) (Nat.le_of_ble_eq_true rfl) (by decide) ?_
        refine j_dup2_11 (q := 129) C dX11_buys_128 rfl rfl rfl ?_
        refine j_laldW (q := 130) C dX11_buys_129 rfl hR.1.2.1 (by omega) (by decide) ?_
        refine j_lload (q := 132) C dX11_buys_130 rfl rfl ?_
        refine j_ladd (q := 133) C dX11_buys_132 rfl ?_
        refine j_lastW (q := 134) C dX11_buys_133 rfl hR.1.2.1 (by omega) (by decide) ?_
        refine j_aload_n (q := 135) C dX11_buys_134 rfl rfl rfl ?_
        refine jg_Model_now (q := 138) C dX11_buys_135 rfl hR.1.1 kw_869 hR.2.1 ?_
        refine j_iload_n (q := 139) C dX11_buys_138 rfl rfl rfl ?_
        refine j_bipush (v := nI 7) (q := 141) C dX11_buys_139 rfl (by decide) ?_
        refine jS1 (q := 144) C dX11_buys_141 rfl mX11_of kw_908 kw_909 (ctX11_of) rfl rfl (by decide) (Nat.le_of_ble_eq_true rfl) (by decide) ?_
        refine j_dup2_11 (q := 145) C dX11_buys_144 rfl rfl rfl ?_
        refine j_laldW (q := 146) C dX11_buys_145 rfl hR.1.2.1 (by omega) (by decide) ?_
        refine j_lload (q := 148) C dX11_buys_146 rfl rfl ?_
        refine j_ladd (q := 149) C dX11_buys_148 rfl ?_
        refine j_lastW (q := 150) C dX11_buys_149 rfl hR.1.2.1 (by omega) (by decide) ?_
        refine j_aload_n (q := 151) C dX11_buys_150 rfl rfl rfl ?_
        refine jg_Model_now (q := 154) C dX11_buys_151 rfl hR.1.1 kw_869 hR.2.1 ?_
        refine j_iload_n (q := 155) C dX11_buys_154 rfl rfl rfl ?_
        refine j_iconst (v := nI 0) (q := 156) C dX11_buys_155 rfl (by decide) ?_
        refine jS1 (q := 159) C dX11_buys_156 rfl mX11_of kw_908 kw_909 (ctX11_of) rfl rfl (by decide) (Nat.le_of_ble_eq_true rfl) (by decide) ?_
        refine j_dup2_11 (q := 160) C dX11_buys_159 rfl rfl rfl ?_
        refine j_laldW (q := 161) C dX11_buys_160 rfl hR.1.2.1 (by omega) (by decide) ?_
        refine j_lload (q := 163) C dX11_buys_161 rfl rfl ?_
        refine j_lload_n (q := 164) C dX11_buys_163 rfl rfl rfl ?_
        refine j_lmul (q := 165) C dX11_buys_164 rfl ?_
        refine j_lsub (q := 166) C dX11_buys_165 rfl ?_
        refine j_lastW (q := 167) C dX11_buys_166 rfl hR.1.2.1 (by omega) (by decide) ?_
        refine j_aload_n (q := 168) C dX11_buys_167 rfl rfl rfl ?_
        refine j_iload (q := 170) C dX11_buys_168 rfl rfl ?_
        refine j_iconst (v := nI 0) (q := 171) C dX11_buys_170 rfl (by decide) ?_
        refine jS1 (q := 174) C dX11_buys_171 rfl mX11_of kw_908 kw_909 (ctX11_of) rfl rfl (by decide) (Nat.le_of_ble_eq_true rfl) (by decide) ?_
        refine j_lload (q := 176) C dX11_buys_174 rfl rfl ?_
        refine j_lload_n (q := 177) C dX11_buys_176 rfl rfl rfl ?_
        refine j_lmul (q := 178) C dX11_buys_177 rfl ?_
        refine jV0 jc11 (q := 181) C dX11_buys_178 rfl hR.1.1 mX11_gets kw_1000 kw_1001 kw_39 (ctX11_gets (M := jw (jw M (o + 13) _) (o + 12) A) hR (by omega)) rfl rfl (by decide) (Nat.le_of_ble_eq_true rfl) (by decide) ?_
        first | refine j_iincN (lv' := [(6, _), (4, _), (7, _), (0, _), (1, _), (2, _)]) (q := 184) C dX11_buys_181 rfl rfl (by decide) rfl ?_ | refine j_iinc (lv' := [(6, _), (4, _), (7, _), (0, _), (1, _), (2, _)]) (q := 184) C dX11_buys_181 rfl rfl rfl (by decide) rfl ?_
        refine j_goto (tgt := 30) C dX11_buys_184 (by decide) ?_
        exact j_fewer (lv' := [(6, .int (nI (k + 1))), (4, .long (L - (lmn L (Bk k)))), (0, .ref o), (1, .int (nI h)), (2, .long pr)]) (by simp) (ih (k + 1) _ _ _ (by rw [nBuy, ← eq, nBuy1, if_neg (fun e => c_46 (by rw [e]))]; rfl) (by omega))
      · refine j_lconst (v := 0) (q := 50) C dX11_buys_49 rfl (by decide) ?_
        refine j_goto (tgt := 65) C dX11_buys_50 (by decide) ?_
        refine j_lstore (lv' := [(7, _), (6, _), (4, _), (0, _), (1, _), (2, _)]) (q := 67) C dX11_buys_65 rfl (by decide) rfl ?_
        refine j_lload (q := 69) C dX11_buys_67 rfl rfl ?_
        refine j_lload (q := 71) C dX11_buys_69 rfl rfl ?_
        refine j_lsub (q := 72) C dX11_buys_71 rfl ?_
        refine j_lstore (lv' := [(4, _), (7, _), (6, _), (0, _), (1, _), (2, _)]) (q := 74) C dX11_buys_72 rfl (by decide) rfl ?_
        refine j_aload_n (q := 75) C dX11_buys_74 rfl rfl rfl ?_
        refine jg_Model_offers (q := 78) C dX11_buys_75 rfl hR.1.1 kw_891 hR.2.2.2.2.2.2.2.2.2.2.2.2.2.1 ?_
        refine j_iload (q := 80) C dX11_buys_78 rfl rfl ?_
        refine j_dup2_11 (q := 81) C dX11_buys_80 rfl rfl rfl ?_
        refine j_lald3 (c := o + 13) (by omega) (by omega) (q := 82) C dX11_buys_81 rfl hR.1.2.2.2.2.2.2.2.2.2.2.2.2.2.1 (by omega) (by decide) ?_
        refine j_lload (q := 84) C dX11_buys_82 rfl rfl ?_
        refine j_lsub (q := 85) C dX11_buys_84 rfl ?_
        refine j_last3 (c := o + 13) (by omega) (by omega) (q := 86) C dX11_buys_85 rfl hR.1.2.2.2.2.2.2.2.2.2.2.2.2.2.1 (by omega) (by decide) ?_
        refine j_aload_n (q := 87) C dX11_buys_86 rfl rfl rfl ?_
        refine jg_Model_now (q := 90) C dX11_buys_87 rfl hR.1.1 kw_869 hR.2.1 ?_
        refine j_iload (q := 92) C dX11_buys_90 rfl rfl ?_
        refine j_iconst (v := nI 1) (q := 93) C dX11_buys_92 rfl (by decide) ?_
        refine jS1 (q := 96) C dX11_buys_93 rfl mX11_of kw_908 kw_909 (ctX11_of) rfl rfl (by decide) (Nat.le_of_ble_eq_true rfl) (by decide) ?_
        refine j_dup2_11 (q := 97) C dX11_buys_96 rfl rfl rfl ?_
        refine j_laldW (q := 98) C dX11_buys_97 rfl hR.1.2.1 (by omega) (by decide) ?_
        refine j_lload (q := 100) C dX11_buys_98 rfl rfl ?_
        refine j_lsub (q := 101) C dX11_buys_100 rfl ?_
        refine j_lastW (q := 102) C dX11_buys_101 rfl hR.1.2.1 (by omega) (by decide) ?_
        refine j_aload_n (q := 103) C dX11_buys_102 rfl rfl rfl ?_
        refine jg_Model_now (q := 106) C dX11_buys_103 rfl hR.1.1 kw_869 hR.2.1 ?_
        refine j_iload (q := 108) C dX11_buys_106 rfl rfl ?_
        refine j_bipush (v := nI 6) (q := 110) C dX11_buys_108 rfl (by decide) ?_
        refine jS1 (q := 113) C dX11_buys_110 rfl mX11_of kw_908 kw_909 (ctX11_of) rfl rfl (by decide) (Nat.le_of_ble_eq_true rfl) (by decide) ?_
        refine j_dup2_11 (q := 114) C dX11_buys_113 rfl rfl rfl ?_
        refine j_laldW (q := 115) C dX11_buys_114 rfl hR.1.2.1 (by omega) (by decide) ?_
        refine j_lload (q := 117) C dX11_buys_115 rfl rfl ?_
        refine j_ladd (q := 118) C dX11_buys_117 rfl ?_
        refine j_lastW (q := 119) C dX11_buys_118 rfl hR.1.2.1 (by omega) (by decide) ?_
        refine j_aload_n (q := 120) C dX11_buys_119 rfl rfl rfl ?_
        refine jg_Model_now (q := 123) C dX11_buys_120 rfl hR.1.1 kw_869 hR.2.1 ?_
        refine j_iload_n (q := 124) C dX11_buys_123 rfl rfl rfl ?_
        refine j_iconst (v := nI 1) (q := 125) C dX11_buys_124 rfl (by decide) ?_
        refine jS1 (q := 128) C dX11_buys_125 rfl mX11_of kw_908 kw_909 (ctX11_of) rfl rfl (by decide) (Nat.le_of_ble_eq_true rfl) (by decide) ?_
        refine j_dup2_11 (q := 129) C dX11_buys_128 rfl rfl rfl ?_
        refine j_laldW (q := 130) C dX11_buys_129 rfl hR.1.2.1 (by omega) (by decide) ?_
        refine j_lload (q := 132) C dX11_buys_130 rfl rfl ?_
        refine j_ladd (q := 133) C dX11_buys_132 rfl ?_
        refine j_lastW (q := 134) C dX11_buys_133 rfl hR.1.2.1 (by omega) (by decide) ?_
        refine j_aload_n (q := 135) C dX11_buys_134 rfl rfl rfl ?_
        refine jg_Model_now (q := 138) C dX11_buys_135 rfl hR.1.1 kw_869 hR.2.1 ?_
        refine j_iload_n (q := 139) C dX11_buys_138 rfl rfl rfl ?_
        refine j_bipush (v := nI 7) (q := 141) C dX11_buys_139 rfl (by decide) ?_
        refine jS1 (q := 144) C dX11_buys_141 rfl mX11_of kw_908 kw_909 (ctX11_of) rfl rfl (by decide) (Nat.le_of_ble_eq_true rfl) (by decide) ?_
        refine j_dup2_11 (q := 145) C dX11_buys_144 rfl rfl rfl ?_
        refine j_laldW (q := 146) C dX11_buys_145 rfl hR.1.2.1 (by omega) (by decide) ?_
        refine j_lload (q := 148) C dX11_buys_146 rfl rfl ?_
        refine j_ladd (q := 149) C dX11_buys_148 rfl ?_
        refine j_lastW (q := 150) C dX11_buys_149 rfl hR.1.2.1 (by omega) (by decide) ?_
        refine j_aload_n (q := 151) C dX11_buys_150 rfl rfl rfl ?_
        refine jg_Model_now (q := 154) C dX11_buys_151 rfl hR.1.1 kw_869 hR.2.1 ?_
        refine j_iload_n (q := 155) C dX11_buys_154 rfl rfl rfl ?_
        refine j_iconst (v := nI 0) (q := 156) C dX11_buys_155 rfl (by decide) ?_
        refine jS1 (q := 159) C dX11_buys_156 rfl mX11_of kw_908 kw_909 (ctX11_of) rfl rfl (by decide) (Nat.le_of_ble_eq_true rfl) (by decide) ?_
        refine j_dup2_11 (q := 160) C dX11_buys_159 rfl rfl rfl ?_
        refine j_laldW (q := 161) C dX11_buys_160 rfl hR.1.2.1 (by omega) (by decide) ?_
        refine j_lload (q := 163) C dX11_buys_161 rfl rfl ?_
        refine j_lload_n (q := 164) C dX11_buys_163 rfl rfl rfl ?_
        refine j_lmul (q := 165) C dX11_buys_164 rfl ?_
        refine j_lsub (q := 166) C dX11_buys_165 rfl ?_
        refine j_lastW (q := 167) C dX11_buys_166 rfl hR.1.2.1 (by omega) (by decide) ?_
        refine j_aload_n (q := 168) C dX11_buys_167 rfl rfl rfl ?_
        refine j_iload (q := 170) C dX11_buys_168 rfl rfl ?_
        refine j_iconst (v := nI 0) (q := 171) C dX11_buys_170 rfl (by decide) ?_
        refine jS1 (q := 174) C dX11_buys_171 rfl mX11_of kw_908 kw_909 (ctX11_of) rfl rfl (by decide) (Nat.le_of_ble_eq_true rfl) (by decide) ?_
        refine j_lload (q := 176) C dX11_buys_174 rfl rfl ?_
        refine j_lload_n (q := 177) C dX11_buys_176 rfl rfl rfl ?_
        refine j_lmul (q := 178) C dX11_buys_177 rfl ?_
        refine jV0 jc11 (q := 181) C dX11_buys_178 rfl hR.1.1 mX11_gets kw_1000 kw_1001 kw_39 (ctX11_gets (M := jw (jw M (o + 13) _) (o + 12) A) hR (by omega)) rfl rfl (by decide) (Nat.le_of_ble_eq_true rfl) (by decide) ?_
        first | refine j_iincN (lv' := [(6, _), (4, _), (7, _), (0, _), (1, _), (2, _)]) (q := 184) C dX11_buys_181 rfl rfl (by decide) rfl ?_ | refine j_iinc (lv' := [(6, _), (4, _), (7, _), (0, _), (1, _), (2, _)]) (q := 184) C dX11_buys_181 rfl rfl rfl (by decide) rfl ?_
        refine j_goto (tgt := 30) C dX11_buys_184 (by decide) ?_
        exact j_fewer (lv' := [(6, .int (nI (k + 1))), (4, .long (L - 0)), (0, .ref o), (1, .int (nI h)), (2, .long pr)]) (by simp) (ih (k + 1) _ _ _ (by rw [nBuy, ← eq, nBuy1, if_pos ((nI_eq (by omega) (by omega)).mp c_46)]; rfl) (by omega))
  exact loop30 pe 0 _ B N rfl (by omega)

set_option maxRecDepth 100000 in
set_option maxHeartbeats 4000000 in
theorem ctX11_eat {G : jG} {sz : Nat} {Sh : jS} {M : jM} {o : Nat} {N : Nat → Int64} (hR : rLay o Sh M) {d pe pa la : Nat} (hO : nOk N d pe pa la) : jC G yX11_eat cX11_eat 3 (Option.none : Option FieldType) (jrm 2 0 0) sz Sh (jw M (o + 1) N) [.ref o] (jR none sz Sh (jw M (o + 1) (nEats N pe))) := by
  refine jC_start (by decide +kernel) (Nat.le_of_ble_eq_true rfl) (fun X C E hN0 => ?_)
  have hpe : pe ≤ 10 := hO.2.1.2
  refine j_iconst (v := nI 0) (q := 1) C dX11_eat_0 rfl (by decide) ?_
  refine j_istore_n (lv' := [(1, _), (0, _)]) (q := 2) C dX11_eat_1 rfl rfl (by decide) rfl ?_
  have loop2 : ∀ (n k : Nat) (Nk : Nat → Int64), Nk = nEats N k → k + n = pe → jJ G X 0 0 sz Sh (jw M (o + 1) Nk) 2 [(1, .int (nI k)), (0, .ref o)] [] := by
    intro n
    induction n with
    | zero =>
      intro k Nk eN hk
      have h4 : Nk 4 = lN pe := (hO.eq (eN ▸ nEats_eq k (by omega))).2.1.1
      refine j_iload_n (q := 3) C dX11_eat_2 rfl rfl rfl ?_
      first | refine j_i2lN (q := 4) C dX11_eat_3 rfl (by omega) ?_ | refine j_i2l (q := 4) C dX11_eat_3 rfl rfl ?_
      refine j_aload_n (q := 5) C dX11_eat_4 rfl rfl rfl ?_
      refine jg_Model_now (q := 8) C dX11_eat_5 rfl hR.1.1 kw_869 hR.2.1 ?_
      refine j_iconst (v := nI 4) (q := 9) C dX11_eat_8 rfl (by decide) ?_
      refine j_laldW (q := 10) C dX11_eat_9 rfl hR.1.2.1 (by omega) (by decide) ?_
      rw [h4]
      refine j_lcmp_ge (q1 := 11) (q := 14) (tgt := 70) C dX11_eat_10 dX11_eat_11 rfl rfl (by decide) (fun c_11 => ?_) (fun c_11 => absurd ((lN_le (by omega) (by omega)).mpr (by omega)) c_11)
      obtain rfl : k = pe := by omega
      exact j_vret C E dX11_eat_70 rfl rfl (jR_e rfl (by rw [eN]))
    | succ n ih =>
      intro k Nk eN hk
      have h4 : Nk 4 = lN pe := (hO.eq (eN ▸ nEats_eq k (by omega))).2.1.1
      refine j_iload_n (q := 3) C dX11_eat_2 rfl rfl rfl ?_
      first | refine j_i2lN (q := 4) C dX11_eat_3 rfl (by omega) ?_ | refine j_i2l (q := 4) C dX11_eat_3 rfl rfl ?_
      refine j_aload_n (q := 5) C dX11_eat_4 rfl rfl rfl ?_
      refine jg_Model_now (q := 8) C dX11_eat_5 rfl hR.1.1 kw_869 hR.2.1 ?_
      refine j_iconst (v := nI 4) (q := 9) C dX11_eat_8 rfl (by decide) ?_
      refine j_laldW (q := 10) C dX11_eat_9 rfl hR.1.2.1 (by omega) (by decide) ?_
      rw [h4]
      refine j_lcmp_ge (q1 := 11) (q := 14) (tgt := 70) C dX11_eat_10 dX11_eat_11 rfl rfl (by decide) (fun c_11 => absurd c_11 (fun h => absurd ((lN_le (by omega) (by omega)).mp h) (by omega))) (fun c_11 => ?_)
      refine j_iload_n (q := 15) C dX11_eat_14 rfl rfl rfl ?_
      refine j_aload_n (q := 16) C dX11_eat_15 rfl rfl rfl ?_
      refine jg_Model_now (q := 19) C dX11_eat_16 rfl hR.1.1 kw_869 hR.2.1 ?_
      refine j_iload_n (q := 20) C dX11_eat_19 rfl rfl rfl ?_
      refine j_iconst (v := nI 1) (q := 21) C dX11_eat_20 rfl (by decide) ?_
      refine jS1 (q := 24) C dX11_eat_21 rfl mX11_of kw_908 kw_909 (ctX11_of) rfl rfl (by decide) (Nat.le_of_ble_eq_true rfl) (by decide) ?_
      refine j_laldW (q := 25) C dX11_eat_24 rfl hR.1.2.1 (by omega) (by decide) ?_
      refine j_lconst (v := 0) (q := 26) C dX11_eat_25 rfl (by decide) ?_
      refine j_lcmp_le (q1 := 27) (q := 30) (tgt := 34) C dX11_eat_26 dX11_eat_27 rfl rfl (by decide) (fun c_27 => ?_) (fun c_27 => ?_)
      · refine j_iconst (v := nI 5) (q := 35) C dX11_eat_34 rfl (by decide) ?_
        refine jS1 (q := 38) C dX11_eat_35 rfl mX11_of kw_908 kw_909 (ctX11_of) rfl rfl (by decide) (Nat.le_of_ble_eq_true rfl) (by decide) ?_
        refine j_istore_n (lv' := [(2, _), (1, _), (0, _)]) (q := 39) C dX11_eat_38 rfl rfl (by decide) rfl ?_
        refine j_aload_n (q := 40) C dX11_eat_39 rfl rfl rfl ?_
        refine jg_Model_now (q := 43) C dX11_eat_40 rfl hR.1.1 kw_869 hR.2.1 ?_
        refine j_iload_n (q := 44) C dX11_eat_43 rfl rfl rfl ?_
        refine j_dup2_11 (q := 45) C dX11_eat_44 rfl rfl rfl ?_
        refine j_laldW (q := 46) C dX11_eat_45 rfl hR.1.2.1 (by omega) (by decide) ?_
        refine j_iload_n (q := 47) C dX11_eat_46 rfl rfl rfl ?_
        refine j_iload_n (q := 48) C dX11_eat_47 rfl rfl rfl ?_
        refine j_iconst (v := nI 1) (q := 49) C dX11_eat_48 rfl (by decide) ?_
        refine jS1 (q := 52) C dX11_eat_49 rfl mX11_of kw_908 kw_909 (ctX11_of) rfl rfl (by decide) (Nat.le_of_ble_eq_true rfl) (by decide) ?_
        refine j_icmp_ne (q := 55) (tgt := 61) C dX11_eat_52 rfl (by decide) (fun c_52 => ?_) (fun c_52 => absurd c_52 (fun e => absurd ((nI_eq (by omega) (by omega)).mp e) (by omega)))
        refine j_lconst (v := 1) (q := 62) C dX11_eat_61 rfl (by decide) ?_
        refine j_ladd (q := 63) C dX11_eat_62 rfl ?_
        refine j_lastW (q := 64) C dX11_eat_63 rfl hR.1.2.1 (by omega) (by decide) ?_
        first | refine j_iincN (lv' := [(1, _), (2, _), (0, _)]) (q := 67) C dX11_eat_64 rfl rfl (by decide) rfl ?_ | refine j_iinc (lv' := [(1, _), (2, _), (0, _)]) (q := 67) C dX11_eat_64 rfl rfl rfl (by decide) rfl ?_
        refine j_goto (tgt := 2) C dX11_eat_67 (by decide) ?_
        exact j_fewer (lv' := [(1, .int (nI (k + 1))), (0, .ref o)]) (by simp) (ih (k + 1) _ (by rw [nEats, ← eN, nEat1, if_pos c_27]) (by omega))
      · refine j_iconst (v := nI 1) (q := 31) C dX11_eat_30 rfl (by decide) ?_
        refine j_goto (tgt := 35) C dX11_eat_31 (by decide) ?_
        refine jS1 (q := 38) C dX11_eat_35 rfl mX11_of kw_908 kw_909 (ctX11_of) rfl rfl (by decide) (Nat.le_of_ble_eq_true rfl) (by decide) ?_
        refine j_istore_n (lv' := [(2, _), (1, _), (0, _)]) (q := 39) C dX11_eat_38 rfl rfl (by decide) rfl ?_
        refine j_aload_n (q := 40) C dX11_eat_39 rfl rfl rfl ?_
        refine jg_Model_now (q := 43) C dX11_eat_40 rfl hR.1.1 kw_869 hR.2.1 ?_
        refine j_iload_n (q := 44) C dX11_eat_43 rfl rfl rfl ?_
        refine j_dup2_11 (q := 45) C dX11_eat_44 rfl rfl rfl ?_
        refine j_laldW (q := 46) C dX11_eat_45 rfl hR.1.2.1 (by omega) (by decide) ?_
        refine j_iload_n (q := 47) C dX11_eat_46 rfl rfl rfl ?_
        refine j_iload_n (q := 48) C dX11_eat_47 rfl rfl rfl ?_
        refine j_iconst (v := nI 1) (q := 49) C dX11_eat_48 rfl (by decide) ?_
        refine jS1 (q := 52) C dX11_eat_49 rfl mX11_of kw_908 kw_909 (ctX11_of) rfl rfl (by decide) (Nat.le_of_ble_eq_true rfl) (by decide) ?_
        refine j_icmp_ne (q := 55) (tgt := 61) C dX11_eat_52 rfl (by decide) (fun c_52 => absurd rfl c_52) (fun c_52 => ?_)
        refine j_ldc2 (q := 58) C dX11_eat_55 rfl kw_940 ?_
        refine j_goto (tgt := 62) C dX11_eat_58 (by decide) ?_
        refine j_ladd (q := 63) C dX11_eat_62 rfl ?_
        refine j_lastW (q := 64) C dX11_eat_63 rfl hR.1.2.1 (by omega) (by decide) ?_
        first | refine j_iincN (lv' := [(1, _), (2, _), (0, _)]) (q := 67) C dX11_eat_64 rfl rfl (by decide) rfl ?_ | refine j_iinc (lv' := [(1, _), (2, _), (0, _)]) (q := 67) C dX11_eat_64 rfl rfl rfl (by decide) rfl ?_
        refine j_goto (tgt := 2) C dX11_eat_67 (by decide) ?_
        exact j_fewer (lv' := [(1, .int (nI (k + 1))), (0, .ref o)]) (by simp) (ih (k + 1) _ (by rw [nEats, ← eN, nEat1, if_neg c_27]) (by omega))
  exact loop2 pe 0 N rfl (by omega)

