def nName (N : Nat → Int64) (d j s : Nat) (p : Nat) : Int64 := match p with
  | 0 => N (110 + 7 * j + 3)
  | 4 => lN d - N (110 + 7 * j + 4)
  | 8 => N (310 + d)
  | 14 => N (310 + s)
  | 20 => N (310 + (d - 3))
  | 25 => N (310 + (d - d % 7))
  | _ => N (110 + 7 * j + 0)
theorem imx0 {d : Nat} (h : d < 2 ^ 30) : imx (nI 0) (nI d - nI 3) = nI (d - 3) := by
  unfold imx
  by_cases h3 : 3 ≤ d
  · rw [pk_sub h3]
    by_cases e : d - 3 = 0
    · rw [e, if_neg (nI_nlt (by omega) (by omega))]
    · rw [if_pos (nI_lt (by omega) (by omega))]
  · have hn : nI d - nI 3 < 0 := pk_sneg (by omega) (by omega)
    rw [if_neg (Int32.not_lt.mpr (Int32.le_of_lt (show nI d - nI 3 < nI 0 from hn))), show d - 3 = 0 by omega]
/-- a token of a text's code, and codes that may be worked -/
def tokOk (c : Nat) : Prop := c < 1000000 ∨ (c = 1000000 ∨ c = 1000004 ∨ c = 1000008 ∨ c = 1000014 ∨ c = 1000020 ∨ c = 1000025 ∨ c = 1000030) ∨ (2000000 ≤ c ∧ c ≤ 2000008)
def wfT : List Nat → Nat → Prop
  | [], d => d = 1
  | c :: r, d => tokOk c ∧ ((c < 2000000 ∧ d < 30 ∧ wfT r (d + 1)) ∨ (c = 2000008 ∧ 1 ≤ d ∧ wfT r d) ∨ (2000000 ≤ c ∧ c < 2000008 ∧ 2 ≤ d ∧ wfT r (d - 1)))
def eTok (nm : Nat → Int64) (c : Nat) (q : (Nat → Int64) × Nat) : (Nat → Int64) × Nat := if c < 2000000 then (va_up q.1 q.2 (if c < 1000000 then lN c else nm (c - 1000000)), q.2 + 1) else if c = 2000008 then (va_up q.1 (q.2 - 1) (if q.1 (q.2 - 1) = 0 then 1 else 0), q.2) else (va_up q.1 (q.2 - 2) (nDone (c - 2000000) (q.1 (q.2 - 2)) (q.1 (q.2 - 1))), q.2 - 1)
def eRun (nm : Nat → Int64) : List Nat → (Nat → Int64) × Nat → (Nat → Int64) × Nat
  | [], q => q
  | c :: r, q => eRun nm r (eTok nm c q)
def cAt (c : Nat → Int32) (b : Nat) (L : List Nat) : Prop := ∀ i x, L[i]? = some x → c (b + i) = nI x
theorem cAt_h {c : Nat → Int32} {b x : Nat} {L : List Nat} (h : cAt c b (x :: L)) : c b = nI x := h 0 x rfl
theorem cAt_t {c : Nat → Int32} {b x : Nat} {L : List Nat} (h : cAt c b (x :: L)) : cAt c (b + 1) L := fun i z hz => by
  have := h (i + 1) z hz
  rw [show b + (i + 1) = b + 1 + i by omega] at this
  exact this
theorem tokE {c : Nat} (h : tokOk c) : c < 2000009 := by unfold tokOk at h; omega
set_option maxRecDepth 100000 in
set_option maxHeartbeats 4000000 in
theorem ctX11_named_0 {G : jG} {sz : Nat} {Sh : jS} {M : jM} {o : Nat} {N : Nat → Int64} (hR : rLay o Sh M) {d : Nat} (hd : N 0 = lN d) (hd3 : d ≤ 300) {j s : Nat} (hj : j < 24) (hs : N (110 + 7 * j + 4) = lN s) (hs1 : s ≤ 300) : jC G yX11_named cX11_named 4 (Option.some FieldType.long) (jrm 2 0 0) sz Sh (jw M (o + 1) N) [.ref o, .int (nI 0), .int (nI j)] (jR (some (.long (nName N d j s 0))) sz Sh (jw M (o + 1) N)) := by
  refine jC_start (by decide +kernel) (Nat.le_of_ble_eq_true rfl) (fun X C E hN0 => ?_)
  refine j_aload_n (q := 1) C dX11_named_0 rfl rfl rfl ?_
  refine jV1 jc11 (q := 4) C dX11_named_1 rfl hR.1.1 mX11_today kw_965 kw_966 kw_33 (ctX11_today hR hd) rfl rfl (by decide) (Nat.le_of_ble_eq_true rfl) (by decide) ?_
  refine j_istore_n (lv' := [(3, _), (0, _), (1, _), (2, _)]) (q := 5) C dX11_named_4 rfl rfl (by decide) rfl ?_
  refine j_iload_n (q := 6) C dX11_named_5 rfl rfl rfl ?_
  refine j_swL (off := 58) (tgt := 64) C dX11_named_6 (by decide) (by decide) (by decide) ?_
  refine j_aload_n (q := 65) C dX11_named_64 rfl rfl rfl ?_
  refine jg_Model_now (q := 68) C dX11_named_65 rfl hR.1.1 kw_869 hR.2.1 ?_
  refine j_iload_n (q := 69) C dX11_named_68 rfl rfl rfl ?_
  refine j_iconst (v := nI 3) (q := 70) C dX11_named_69 rfl (by decide) ?_
  refine jS1 (q := 73) C dX11_named_70 rfl mX11_ofPaper kw_937 kw_938 (ctX11_ofPaper) rfl rfl (by decide) (Nat.le_of_ble_eq_true rfl) (by decide) ?_
  refine j_laldW (q := 74) C dX11_named_73 rfl hR.1.2.1 (by omega) (by decide) ?_
  exact j_lret C E dX11_named_74 rfl rfl (jR_i)

set_option maxRecDepth 100000 in
set_option maxHeartbeats 4000000 in
theorem ctX11_named_4 {G : jG} {sz : Nat} {Sh : jS} {M : jM} {o : Nat} {N : Nat → Int64} (hR : rLay o Sh M) {d : Nat} (hd : N 0 = lN d) (hd3 : d ≤ 300) {j s : Nat} (hj : j < 24) (hs : N (110 + 7 * j + 4) = lN s) (hs1 : s ≤ 300) : jC G yX11_named cX11_named 4 (Option.some FieldType.long) (jrm 2 0 0) sz Sh (jw M (o + 1) N) [.ref o, .int (nI 4), .int (nI j)] (jR (some (.long (nName N d j s 4))) sz Sh (jw M (o + 1) N)) := by
  refine jC_start (by decide +kernel) (Nat.le_of_ble_eq_true rfl) (fun X C E hN0 => ?_)
  refine j_aload_n (q := 1) C dX11_named_0 rfl rfl rfl ?_
  refine jV1 jc11 (q := 4) C dX11_named_1 rfl hR.1.1 mX11_today kw_965 kw_966 kw_33 (ctX11_today hR hd) rfl rfl (by decide) (Nat.le_of_ble_eq_true rfl) (by decide) ?_
  refine j_istore_n (lv' := [(3, _), (0, _), (1, _), (2, _)]) (q := 5) C dX11_named_4 rfl rfl (by decide) rfl ?_
  refine j_iload_n (q := 6) C dX11_named_5 rfl rfl rfl ?_
  refine j_swL (off := 69) (tgt := 75) C dX11_named_6 (by decide) (by decide) (by decide) ?_
  refine j_iload_n (q := 76) C dX11_named_75 rfl rfl rfl ?_
  first | refine j_i2lN (q := 77) C dX11_named_76 rfl (by omega) ?_ | refine j_i2l (q := 77) C dX11_named_76 rfl rfl ?_
  refine j_aload_n (q := 78) C dX11_named_77 rfl rfl rfl ?_
  refine jg_Model_now (q := 81) C dX11_named_78 rfl hR.1.1 kw_869 hR.2.1 ?_
  refine j_iload_n (q := 82) C dX11_named_81 rfl rfl rfl ?_
  refine j_iconst (v := nI 4) (q := 83) C dX11_named_82 rfl (by decide) ?_
  refine jS1 (q := 86) C dX11_named_83 rfl mX11_ofPaper kw_937 kw_938 (ctX11_ofPaper) rfl rfl (by decide) (Nat.le_of_ble_eq_true rfl) (by decide) ?_
  refine j_laldW (q := 87) C dX11_named_86 rfl hR.1.2.1 (by omega) (by decide) ?_
  refine j_lsub (q := 88) C dX11_named_87 rfl ?_
  exact j_lret C E dX11_named_88 rfl rfl (jR_i)

set_option maxRecDepth 100000 in
set_option maxHeartbeats 4000000 in
theorem ctX11_named_8 {G : jG} {sz : Nat} {Sh : jS} {M : jM} {o : Nat} {N : Nat → Int64} (hR : rLay o Sh M) {d : Nat} (hd : N 0 = lN d) (hd3 : d ≤ 300) {j s : Nat} (hj : j < 24) (hs : N (110 + 7 * j + 4) = lN s) (hs1 : s ≤ 300) : jC G yX11_named cX11_named 4 (Option.some FieldType.long) (jrm 2 0 0) sz Sh (jw M (o + 1) N) [.ref o, .int (nI 8), .int (nI j)] (jR (some (.long (nName N d j s 8))) sz Sh (jw M (o + 1) N)) := by
  refine jC_start (by decide +kernel) (Nat.le_of_ble_eq_true rfl) (fun X C E hN0 => ?_)
  refine j_aload_n (q := 1) C dX11_named_0 rfl rfl rfl ?_
  refine jV1 jc11 (q := 4) C dX11_named_1 rfl hR.1.1 mX11_today kw_965 kw_966 kw_33 (ctX11_today hR hd) rfl rfl (by decide) (Nat.le_of_ble_eq_true rfl) (by decide) ?_
  refine j_istore_n (lv' := [(3, _), (0, _), (1, _), (2, _)]) (q := 5) C dX11_named_4 rfl rfl (by decide) rfl ?_
  refine j_iload_n (q := 6) C dX11_named_5 rfl rfl rfl ?_
  refine j_swL (off := 83) (tgt := 89) C dX11_named_6 (by decide) (by decide) (by decide) ?_
  refine j_aload_n (q := 90) C dX11_named_89 rfl rfl rfl ?_
  refine j_iload_n (q := 91) C dX11_named_90 rfl rfl rfl ?_
  refine jV1 jc11 (q := 94) C dX11_named_91 rfl hR.1.1 mX11_priceOf kw_968 kw_969 kw_34 (ctX11_priceOf hR (by omega)) rfl rfl (by decide) (Nat.le_of_ble_eq_true rfl) (by decide) ?_
  exact j_lret C E dX11_named_94 rfl rfl (jR_i)

set_option maxRecDepth 100000 in
set_option maxHeartbeats 4000000 in
theorem ctX11_named_14 {G : jG} {sz : Nat} {Sh : jS} {M : jM} {o : Nat} {N : Nat → Int64} (hR : rLay o Sh M) {d : Nat} (hd : N 0 = lN d) (hd3 : d ≤ 300) {j s : Nat} (hj : j < 24) (hs : N (110 + 7 * j + 4) = lN s) (hs1 : s ≤ 300) : jC G yX11_named cX11_named 4 (Option.some FieldType.long) (jrm 2 0 0) sz Sh (jw M (o + 1) N) [.ref o, .int (nI 14), .int (nI j)] (jR (some (.long (nName N d j s 14))) sz Sh (jw M (o + 1) N)) := by
  refine jC_start (by decide +kernel) (Nat.le_of_ble_eq_true rfl) (fun X C E hN0 => ?_)
  refine j_aload_n (q := 1) C dX11_named_0 rfl rfl rfl ?_
  refine jV1 jc11 (q := 4) C dX11_named_1 rfl hR.1.1 mX11_today kw_965 kw_966 kw_33 (ctX11_today hR hd) rfl rfl (by decide) (Nat.le_of_ble_eq_true rfl) (by decide) ?_
  refine j_istore_n (lv' := [(3, _), (0, _), (1, _), (2, _)]) (q := 5) C dX11_named_4 rfl rfl (by decide) rfl ?_
  refine j_iload_n (q := 6) C dX11_named_5 rfl rfl rfl ?_
  refine j_swL (off := 89) (tgt := 95) C dX11_named_6 (by decide) (by decide) (by decide) ?_
  refine j_aload_n (q := 96) C dX11_named_95 rfl rfl rfl ?_
  refine j_aload_n (q := 97) C dX11_named_96 rfl rfl rfl ?_
  refine jg_Model_now (q := 100) C dX11_named_97 rfl hR.1.1 kw_869 hR.2.1 ?_
  refine j_iload_n (q := 101) C dX11_named_100 rfl rfl rfl ?_
  refine j_iconst (v := nI 4) (q := 102) C dX11_named_101 rfl (by decide) ?_
  refine jS1 (q := 105) C dX11_named_102 rfl mX11_ofPaper kw_937 kw_938 (ctX11_ofPaper) rfl rfl (by decide) (Nat.le_of_ble_eq_true rfl) (by decide) ?_
  refine j_laldW (q := 106) C dX11_named_105 rfl hR.1.2.1 (by omega) (by decide) ?_
  rw [hs]
  first | refine j_l2iN (q := 107) C dX11_named_106 rfl ?_ | refine j_l2i (q := 107) C dX11_named_106 rfl rfl ?_
  refine jV1 jc11 (q := 110) C dX11_named_107 rfl hR.1.1 mX11_priceOf kw_968 kw_969 kw_34 (ctX11_priceOf hR (by omega)) rfl rfl (by decide) (Nat.le_of_ble_eq_true rfl) (by decide) ?_
  exact j_lret C E dX11_named_110 rfl rfl (jR_i)

set_option maxRecDepth 100000 in
set_option maxHeartbeats 4000000 in
theorem ctX11_named_20 {G : jG} {sz : Nat} {Sh : jS} {M : jM} {o : Nat} {N : Nat → Int64} (hR : rLay o Sh M) {d : Nat} (hd : N 0 = lN d) (hd3 : d ≤ 300) {j s : Nat} (hj : j < 24) (hs : N (110 + 7 * j + 4) = lN s) (hs1 : s ≤ 300) : jC G yX11_named cX11_named 4 (Option.some FieldType.long) (jrm 2 0 0) sz Sh (jw M (o + 1) N) [.ref o, .int (nI 20), .int (nI j)] (jR (some (.long (nName N d j s 20))) sz Sh (jw M (o + 1) N)) := by
  refine jC_start (by decide +kernel) (Nat.le_of_ble_eq_true rfl) (fun X C E hN0 => ?_)
  refine j_aload_n (q := 1) C dX11_named_0 rfl rfl rfl ?_
  refine jV1 jc11 (q := 4) C dX11_named_1 rfl hR.1.1 mX11_today kw_965 kw_966 kw_33 (ctX11_today hR hd) rfl rfl (by decide) (Nat.le_of_ble_eq_true rfl) (by decide) ?_
  refine j_istore_n (lv' := [(3, _), (0, _), (1, _), (2, _)]) (q := 5) C dX11_named_4 rfl rfl (by decide) rfl ?_
  refine j_iload_n (q := 6) C dX11_named_5 rfl rfl rfl ?_
  refine j_swL (off := 105) (tgt := 111) C dX11_named_6 (by decide) (by decide) (by decide) ?_
  refine j_aload_n (q := 112) C dX11_named_111 rfl rfl rfl ?_
  refine j_iconst (v := nI 0) (q := 113) C dX11_named_112 rfl (by decide) ?_
  refine j_iload_n (q := 114) C dX11_named_113 rfl rfl rfl ?_
  refine j_iconst (v := nI 3) (q := 115) C dX11_named_114 rfl (by decide) ?_
  refine j_isub (q := 116) C dX11_named_115 rfl ?_
  
  refine j_imax (q := 119) C dX11_named_116 rfl kw_983 (by decide) (Nat.le_of_ble_eq_true rfl) (by decide) ?_
  refine j_top (v' := .int (nI (d - 3))) (by rw [imx0 (by omega)]) ?_
  refine jV1 jc11 (q := 122) C dX11_named_119 rfl hR.1.1 mX11_priceOf kw_968 kw_969 kw_34 (ctX11_priceOf hR (by omega)) rfl rfl (by decide) (Nat.le_of_ble_eq_true rfl) (by decide) ?_
  exact j_lret C E dX11_named_122 rfl rfl (jR_i)

set_option maxRecDepth 100000 in
set_option maxHeartbeats 4000000 in
theorem ctX11_named_25 {G : jG} {sz : Nat} {Sh : jS} {M : jM} {o : Nat} {N : Nat → Int64} (hR : rLay o Sh M) {d : Nat} (hd : N 0 = lN d) (hd3 : d ≤ 300) {j s : Nat} (hj : j < 24) (hs : N (110 + 7 * j + 4) = lN s) (hs1 : s ≤ 300) : jC G yX11_named cX11_named 4 (Option.some FieldType.long) (jrm 2 0 0) sz Sh (jw M (o + 1) N) [.ref o, .int (nI 25), .int (nI j)] (jR (some (.long (nName N d j s 25))) sz Sh (jw M (o + 1) N)) := by
  refine jC_start (by decide +kernel) (Nat.le_of_ble_eq_true rfl) (fun X C E hN0 => ?_)
  refine j_aload_n (q := 1) C dX11_named_0 rfl rfl rfl ?_
  refine jV1 jc11 (q := 4) C dX11_named_1 rfl hR.1.1 mX11_today kw_965 kw_966 kw_33 (ctX11_today hR hd) rfl rfl (by decide) (Nat.le_of_ble_eq_true rfl) (by decide) ?_
  refine j_istore_n (lv' := [(3, _), (0, _), (1, _), (2, _)]) (q := 5) C dX11_named_4 rfl rfl (by decide) rfl ?_
  refine j_iload_n (q := 6) C dX11_named_5 rfl rfl rfl ?_
  refine j_swL (off := 117) (tgt := 123) C dX11_named_6 (by decide) (by decide) (by decide) ?_
  refine j_aload_n (q := 124) C dX11_named_123 rfl rfl rfl ?_
  refine j_iload_n (q := 125) C dX11_named_124 rfl rfl rfl ?_
  refine j_iload_n (q := 126) C dX11_named_125 rfl rfl rfl ?_
  refine j_bipush (v := nI 7) (q := 128) C dX11_named_126 rfl (by decide) ?_
  refine j_irem (q := 129) C dX11_named_128 rfl (by decide) ?_
  refine j_top (v' := .int (nI (d % 7))) (by rw [pk_rem (by omega) (by omega) (by omega)]) ?_
  refine j_isub (q := 130) C dX11_named_129 rfl ?_
  refine j_top (v' := .int (nI (d - d % 7))) (by rw [pk_sub (Nat.mod_le d 7)]) ?_
  refine jV1 jc11 (q := 133) C dX11_named_130 rfl hR.1.1 mX11_priceOf kw_968 kw_969 kw_34 (ctX11_priceOf hR (by omega)) rfl rfl (by decide) (Nat.le_of_ble_eq_true rfl) (by decide) ?_
  exact j_lret C E dX11_named_133 rfl rfl (jR_i)

set_option maxRecDepth 100000 in
set_option maxHeartbeats 4000000 in
theorem ctX11_named_30 {G : jG} {sz : Nat} {Sh : jS} {M : jM} {o : Nat} {N : Nat → Int64} (hR : rLay o Sh M) {d : Nat} (hd : N 0 = lN d) (hd3 : d ≤ 300) {j s : Nat} (hj : j < 24) (hs : N (110 + 7 * j + 4) = lN s) (hs1 : s ≤ 300) : jC G yX11_named cX11_named 4 (Option.some FieldType.long) (jrm 2 0 0) sz Sh (jw M (o + 1) N) [.ref o, .int (nI 30), .int (nI j)] (jR (some (.long (nName N d j s 30))) sz Sh (jw M (o + 1) N)) := by
  refine jC_start (by decide +kernel) (Nat.le_of_ble_eq_true rfl) (fun X C E hN0 => ?_)
  refine j_aload_n (q := 1) C dX11_named_0 rfl rfl rfl ?_
  refine jV1 jc11 (q := 4) C dX11_named_1 rfl hR.1.1 mX11_today kw_965 kw_966 kw_33 (ctX11_today hR hd) rfl rfl (by decide) (Nat.le_of_ble_eq_true rfl) (by decide) ?_
  refine j_istore_n (lv' := [(3, _), (0, _), (1, _), (2, _)]) (q := 5) C dX11_named_4 rfl rfl (by decide) rfl ?_
  refine j_iload_n (q := 6) C dX11_named_5 rfl rfl rfl ?_
  refine j_swL (off := 128) (tgt := 134) C dX11_named_6 (by decide) (by decide) (by decide) ?_
  refine j_aload_n (q := 135) C dX11_named_134 rfl rfl rfl ?_
  refine jg_Model_now (q := 138) C dX11_named_135 rfl hR.1.1 kw_869 hR.2.1 ?_
  refine j_iload_n (q := 139) C dX11_named_138 rfl rfl rfl ?_
  refine j_iconst (v := nI 0) (q := 140) C dX11_named_139 rfl (by decide) ?_
  refine jS1 (q := 143) C dX11_named_140 rfl mX11_ofPaper kw_937 kw_938 (ctX11_ofPaper) rfl rfl (by decide) (Nat.le_of_ble_eq_true rfl) (by decide) ?_
  refine j_laldW (q := 144) C dX11_named_143 rfl hR.1.2.1 (by omega) (by decide) ?_
  exact j_lret C E dX11_named_144 rfl rfl (jR_i)

theorem ctX11_named {G : jG} {sz : Nat} {Sh : jS} {M : jM} {o : Nat} {N : Nat → Int64} (hR : rLay o Sh M) {d : Nat} (hd : N 0 = lN d) (hd3 : d ≤ 300) {j s : Nat} (hj : j < 24) (hs : N (110 + 7 * j + 4) = lN s) (hs1 : s ≤ 300) {p : Nat} (hp : p = 0 ∨ p = 4 ∨ p = 8 ∨ p = 14 ∨ p = 20 ∨ p = 25 ∨ p = 30) : jC G yX11_named cX11_named 4 (Option.some FieldType.long) (jrm 2 0 0) sz Sh (jw M (o + 1) N) [.ref o, .int (nI p), .int (nI j)] (jR (some (.long (nName N d j s p))) sz Sh (jw M (o + 1) N)) := by
  rcases hp with rfl | rfl | rfl | rfl | rfl | rfl | rfl
  · exact ctX11_named_0 hR hd hd3 hj hs hs1
  · exact ctX11_named_4 hR hd hd3 hj hs hs1
  · exact ctX11_named_8 hR hd hd3 hj hs hs1
  · exact ctX11_named_14 hR hd hd3 hj hs hs1
  · exact ctX11_named_20 hR hd hd3 hj hs hs1
  · exact ctX11_named_25 hR hd hd3 hj hs hs1
  · exact ctX11_named_30 hR hd hd3 hj hs hs1
set_option maxRecDepth 100000 in
set_option maxHeartbeats 4000000 in
theorem ctX11_worked {G : jG} {sz : Nat} {Sh : jS} {M : jM} {o : Nat} {N : Nat → Int64} (hR : rLay o Sh M) {d : Nat} (hd : N 0 = lN d) (hd3 : d ≤ 300) {j s : Nat} (hj : j < 24) (hs : N (110 + 7 * j + 4) = lN s) (hs1 : s ≤ 300) {b c1 : Nat} {D E1 F1 : List Nat} {V : Int64} (hc1 : c1 ≤ 2) (hD : wfT D 0) (hE : wfT E1 0) (hF : wfT F1 0) (hcd : cAt (M.1 (o + 4)) b (D ++ 3000000 :: (E1 ++ 3000000 :: (F1 ++ 3000000 :: [])))) (hlen : b + D.length + E1.length + F1.length + 3 ≤ 2856) (hV : (eRun (nName N d j s) (if c1 = 0 then D else if c1 = 1 then E1 else F1) (M.2.1 (o + 11), 0)).1 0 = V) : jC G yX11_worked cX11_worked 7 (Option.some FieldType.long) (jrm 3 0 0) sz Sh (jw M (o + 1) N) [.ref o, .int (nI b), .int (nI c1), .int (nI j)] (jT sz Sh (fun r M2 => ∃ P, r = some (.long V) ∧ M2 = jw (jw M (o + 11) P) (o + 1) N)) := by
  refine jC_start (by decide +kernel) (Nat.le_of_ble_eq_true rfl) (fun X C E hN0 => ?_)
  rw [show jw M (o + 1) N = jw (jw M (o + 11) (M.2.1 (o + 11))) (o + 1) N by rw [jw_self]]
  refine j_iload_n (q := 1) C dX11_worked_0 rfl rfl rfl ?_
  refine j_istore (lv' := [(4, _), (0, _), (1, _), (2, _), (3, _)]) (q := 3) C dX11_worked_1 rfl (by decide) rfl ?_
  refine j_iload_n (q := 4) C dX11_worked_3 rfl rfl rfl ?_
  refine j_istore (lv' := [(5, _), (4, _), (0, _), (1, _), (2, _), (3, _)]) (q := 6) C dX11_worked_4 rfl (by decide) rfl ?_
  have evl : ∀ (T : List Nat) (k h : Nat) (P : Nat → Int64) (rest : List Nat) (Q : (Nat → Int64) × Nat), h ≤ 30 → wfT T h → cAt (M.1 (o + 4)) k (T ++ 3000000 :: rest) → k + T.length < 2856 → Q = eRun (nName N d j s) T (P, h) → Q.1 0 = V → jJ G X 0 0 sz Sh (jw (jw M (o + 11) P) (o + 1) N) 42 [(4, .int (nI k)), (5, .int (nI h)), (0, .ref o), (1, .int (nI b)), (2, .int (nI c1)), (3, .int (nI j))] [] := by
    intro T
    induction T with
    | nil =>
      intro k h P rest Q h30 wf hc hkl eq eV
      refine j_aload_n (q := 43) C dX11_worked_42 rfl rfl rfl ?_
      refine jg_Model_codes (q := 46) C dX11_worked_43 rfl hR.1.1 kw_872 hR.2.2.2.2.1 ?_
      refine j_iload (q := 48) C dX11_worked_46 rfl rfl ?_
      refine j_iald (q := 49) C dX11_worked_48 rfl hR.1.2.2.2.2.1 (by omega) (by decide) ?_
      refine j_top (v' := .int (nI 3000000)) (congrArg Value.int (cAt_h hc)) ?_
      refine j_ldc (q := 51) C dX11_worked_49 rfl kw_977 ?_
      refine j_icmp_eq (q := 54) (tgt := 186) C dX11_worked_51 rfl (by decide) (fun c_51 => ?_) (fun c_51 => absurd (by decide : nI 3000000 = 3000000) c_51)
      refine j_aload_n (q := 187) C dX11_worked_186 rfl rfl rfl ?_
      refine jg_Model_pile (q := 190) C dX11_worked_187 rfl hR.1.1 kw_889 hR.2.2.2.2.2.2.2.2.2.2.2.1 ?_
      refine j_iconst (v := nI 0) (q := 191) C dX11_worked_190 rfl (by decide) ?_
      refine j_lald2 (b := o + 11) (by omega) (q := 192) C dX11_worked_191 rfl hR.1.2.2.2.2.2.2.2.2.2.2.2.1 (by omega) (by decide) ?_
      exact j_lret C E dX11_worked_192 rfl rfl (⟨rfl, rfl, P, by rw [← eV, eq]; rfl, rfl⟩)
    | cons c T ih =>
      intro k h P rest Q h30 wf hc hkl eq eV
      have hkl2 : k < 2856 := by omega
      obtain ⟨tk, ⟨w1, w2, w3⟩ | ⟨w1, w2, w3⟩ | ⟨w1, w2, w3, w4⟩⟩ := wf
      · by_cases h1 : c < 1000000
        · refine j_aload_n (q := 43) C dX11_worked_42 rfl rfl rfl ?_
          refine jg_Model_codes (q := 46) C dX11_worked_43 rfl hR.1.1 kw_872 hR.2.2.2.2.1 ?_
          refine j_iload (q := 48) C dX11_worked_46 rfl rfl ?_
          refine j_iald (q := 49) C dX11_worked_48 rfl hR.1.2.2.2.2.1 (by omega) (by decide) ?_
          refine j_top (v' := .int (nI c)) (congrArg Value.int (cAt_h hc)) ?_
          refine j_ldc (q := 51) C dX11_worked_49 rfl kw_977 ?_
          refine j_icmp_eq (q := 54) (tgt := 186) C dX11_worked_51 rfl (by decide) (fun c_51 => absurd c_51 (fun e => absurd ((nI_eq (by omega) (by omega)).mp (e.trans (by decide : (3000000 : Int32) = nI 3000000))) (by omega))) (fun c_51 => ?_)
          refine j_aload_n (q := 55) C dX11_worked_54 rfl rfl rfl ?_
          refine jg_Model_codes (q := 58) C dX11_worked_55 rfl hR.1.1 kw_872 hR.2.2.2.2.1 ?_
          refine j_iload (q := 60) C dX11_worked_58 rfl rfl ?_
          refine j_iald (q := 61) C dX11_worked_60 rfl hR.1.2.2.2.2.1 (by omega) (by decide) ?_
          refine j_top (v' := .int (nI c)) (congrArg Value.int (cAt_h hc)) ?_
          refine j_istore (lv' := [(6, _), (4, _), (5, _), (0, _), (1, _), (2, _), (3, _)]) (q := 63) C dX11_worked_61 rfl (by decide) rfl ?_
          refine j_iload (q := 65) C dX11_worked_63 rfl rfl ?_
          refine j_ldc (q := 67) C dX11_worked_65 rfl kw_978 ?_
          refine j_icmp_ge (q := 70) (tgt := 106) C dX11_worked_67 rfl (by decide) (fun c_67 => absurd c_67 (fun e => absurd ((nI_leI (by omega) (by omega)).mp ((show nI 2000000 = 2000000 by decide) ▸ e)) (by omega))) (fun c_67 => ?_)
          refine j_aload_n (q := 71) C dX11_worked_70 rfl rfl rfl ?_
          refine jg_Model_pile (q := 74) C dX11_worked_71 rfl hR.1.1 kw_889 hR.2.2.2.2.2.2.2.2.2.2.2.1 ?_
          refine j_iload (q := 76) C dX11_worked_74 rfl rfl ?_
          refine j_iload (q := 78) C dX11_worked_76 rfl rfl ?_
          refine j_ldc (q := 80) C dX11_worked_78 rfl kw_979 ?_
          refine j_icmp_ge (q := 83) (tgt := 89) C dX11_worked_80 rfl (by decide) (fun c_80 => absurd c_80 (fun e => absurd ((nI_leI (by omega) (by omega)).mp ((show nI 1000000 = 1000000 by decide) ▸ e)) (by omega))) (fun c_80 => ?_)
          refine j_iload (q := 85) C dX11_worked_83 rfl rfl ?_
          first | refine j_i2lN (q := 86) C dX11_worked_85 rfl (by omega) ?_ | refine j_i2l (q := 86) C dX11_worked_85 rfl rfl ?_
          refine j_goto (tgt := 99) C dX11_worked_86 (by decide) ?_
          refine j_last2 (b := o + 11) (by omega) (q := 100) C dX11_worked_99 rfl hR.1.2.2.2.2.2.2.2.2.2.2.2.1 (by omega) (by decide) ?_
          first | refine j_iincN (lv' := [(5, _), (6, _), (4, _), (0, _), (1, _), (2, _), (3, _)]) (q := 103) C dX11_worked_100 rfl rfl (by decide) rfl ?_ | refine j_iinc (lv' := [(5, _), (6, _), (4, _), (0, _), (1, _), (2, _), (3, _)]) (q := 103) C dX11_worked_100 rfl rfl rfl (by decide) rfl ?_
          refine j_goto (tgt := 180) C dX11_worked_103 (by decide) ?_
          first | refine j_iincN (lv' := [(4, _), (5, _), (6, _), (0, _), (1, _), (2, _), (3, _)]) (q := 183) C dX11_worked_180 rfl rfl (by decide) rfl ?_ | refine j_iinc (lv' := [(4, _), (5, _), (6, _), (0, _), (1, _), (2, _), (3, _)]) (q := 183) C dX11_worked_180 rfl rfl rfl (by decide) rfl ?_
          refine j_goto (tgt := 42) C dX11_worked_183 (by decide) ?_
          exact j_fewer (lv' := [(4, .int (nI (k + 1))), (5, .int (nI (h + 1))), (0, .ref o), (1, .int (nI b)), (2, .int (nI c1)), (3, .int (nI j))]) (by simp) (ih (k + 1) _ _ rest Q (by omega) w3 (cAt_t hc) (by simp only [List.length_cons] at hkl ⊢; omega) (by rw [eq]; show eRun _ _ (eTok (nName N d j s) c (P, h)) = _; rw [eTok, if_pos w1, if_pos h1]) eV)
        · have hnm : c - 1000000 = 0 ∨ c - 1000000 = 4 ∨ c - 1000000 = 8 ∨ c - 1000000 = 14 ∨ c - 1000000 = 20 ∨ c - 1000000 = 25 ∨ c - 1000000 = 30 := by unfold tokOk at tk; omega
          refine j_aload_n (q := 43) C dX11_worked_42 rfl rfl rfl ?_
          refine jg_Model_codes (q := 46) C dX11_worked_43 rfl hR.1.1 kw_872 hR.2.2.2.2.1 ?_
          refine j_iload (q := 48) C dX11_worked_46 rfl rfl ?_
          refine j_iald (q := 49) C dX11_worked_48 rfl hR.1.2.2.2.2.1 (by omega) (by decide) ?_
          refine j_top (v' := .int (nI c)) (congrArg Value.int (cAt_h hc)) ?_
          refine j_ldc (q := 51) C dX11_worked_49 rfl kw_977 ?_
          refine j_icmp_eq (q := 54) (tgt := 186) C dX11_worked_51 rfl (by decide) (fun c_51 => absurd c_51 (fun e => absurd ((nI_eq (by omega) (by omega)).mp (e.trans (by decide : (3000000 : Int32) = nI 3000000))) (by omega))) (fun c_51 => ?_)
          refine j_aload_n (q := 55) C dX11_worked_54 rfl rfl rfl ?_
          refine jg_Model_codes (q := 58) C dX11_worked_55 rfl hR.1.1 kw_872 hR.2.2.2.2.1 ?_
          refine j_iload (q := 60) C dX11_worked_58 rfl rfl ?_
          refine j_iald (q := 61) C dX11_worked_60 rfl hR.1.2.2.2.2.1 (by omega) (by decide) ?_
          refine j_top (v' := .int (nI c)) (congrArg Value.int (cAt_h hc)) ?_
          refine j_istore (lv' := [(6, _), (4, _), (5, _), (0, _), (1, _), (2, _), (3, _)]) (q := 63) C dX11_worked_61 rfl (by decide) rfl ?_
          refine j_iload (q := 65) C dX11_worked_63 rfl rfl ?_
          refine j_ldc (q := 67) C dX11_worked_65 rfl kw_978 ?_
          refine j_icmp_ge (q := 70) (tgt := 106) C dX11_worked_67 rfl (by decide) (fun c_67 => absurd c_67 (fun e => absurd ((nI_leI (by omega) (by omega)).mp ((show nI 2000000 = 2000000 by decide) ▸ e)) (by omega))) (fun c_67 => ?_)
          refine j_aload_n (q := 71) C dX11_worked_70 rfl rfl rfl ?_
          refine jg_Model_pile (q := 74) C dX11_worked_71 rfl hR.1.1 kw_889 hR.2.2.2.2.2.2.2.2.2.2.2.1 ?_
          refine j_iload (q := 76) C dX11_worked_74 rfl rfl ?_
          refine j_iload (q := 78) C dX11_worked_76 rfl rfl ?_
          refine j_ldc (q := 80) C dX11_worked_78 rfl kw_979 ?_
          refine j_icmp_ge (q := 83) (tgt := 89) C dX11_worked_80 rfl (by decide) (fun c_80 => ?_) (fun c_80 => absurd ((show nI 1000000 = 1000000 by decide) ▸ nI_le (by omega) (by omega)) c_80)
          refine j_aload_n (q := 90) C dX11_worked_89 rfl rfl rfl ?_
          refine j_iload (q := 92) C dX11_worked_90 rfl rfl ?_
          refine j_ldc (q := 94) C dX11_worked_92 rfl kw_979 ?_
          refine j_isub (q := 95) C dX11_worked_94 rfl ?_
          refine j_top (v' := .int (nI (c - 1000000))) (by rw [show (1000000 : Int32) = nI 1000000 by decide, pk_sub (by omega)]) ?_
          refine j_iload_n (q := 96) C dX11_worked_95 rfl rfl rfl ?_
          refine jV1 jc11 (q := 99) C dX11_worked_96 rfl hR.1.1 mX11_named kw_980 kw_981 kw_37 (ctX11_named (M := jw M (o + 11) P) hR hd hd3 hj hs hs1 hnm) rfl rfl (by decide) (Nat.le_of_ble_eq_true rfl) (by decide) ?_
          refine j_last2 (b := o + 11) (by omega) (q := 100) C dX11_worked_99 rfl hR.1.2.2.2.2.2.2.2.2.2.2.2.1 (by omega) (by decide) ?_
          first | refine j_iincN (lv' := [(5, _), (6, _), (4, _), (0, _), (1, _), (2, _), (3, _)]) (q := 103) C dX11_worked_100 rfl rfl (by decide) rfl ?_ | refine j_iinc (lv' := [(5, _), (6, _), (4, _), (0, _), (1, _), (2, _), (3, _)]) (q := 103) C dX11_worked_100 rfl rfl rfl (by decide) rfl ?_
          refine j_goto (tgt := 180) C dX11_worked_103 (by decide) ?_
          first | refine j_iincN (lv' := [(4, _), (5, _), (6, _), (0, _), (1, _), (2, _), (3, _)]) (q := 183) C dX11_worked_180 rfl rfl (by decide) rfl ?_ | refine j_iinc (lv' := [(4, _), (5, _), (6, _), (0, _), (1, _), (2, _), (3, _)]) (q := 183) C dX11_worked_180 rfl rfl rfl (by decide) rfl ?_
          refine j_goto (tgt := 42) C dX11_worked_183 (by decide) ?_
          exact j_fewer (lv' := [(4, .int (nI (k + 1))), (5, .int (nI (h + 1))), (0, .ref o), (1, .int (nI b)), (2, .int (nI c1)), (3, .int (nI j))]) (by simp) (ih (k + 1) _ _ rest Q (by omega) w3 (cAt_t hc) (by simp only [List.length_cons] at hkl ⊢; omega) (by rw [eq]; show eRun _ _ (eTok (nName N d j s) c (P, h)) = _; rw [eTok, if_pos w1, if_neg h1]) eV)
      · have hh : h - 1 < 168 := by omega
        refine j_aload_n (q := 43) C dX11_worked_42 rfl rfl rfl ?_
        refine jg_Model_codes (q := 46) C dX11_worked_43 rfl hR.1.1 kw_872 hR.2.2.2.2.1 ?_
        refine j_iload (q := 48) C dX11_worked_46 rfl rfl ?_
        refine j_iald (q := 49) C dX11_worked_48 rfl hR.1.2.2.2.2.1 (by omega) (by decide) ?_
        refine j_top (v' := .int (nI c)) (congrArg Value.int (cAt_h hc)) ?_
        refine j_ldc (q := 51) C dX11_worked_49 rfl kw_977 ?_
        refine j_icmp_eq (q := 54) (tgt := 186) C dX11_worked_51 rfl (by decide) (fun c_51 => absurd c_51 (fun e => absurd ((nI_eq (by omega) (by omega)).mp (e.trans (by decide : (3000000 : Int32) = nI 3000000))) (by omega))) (fun c_51 => ?_)
        refine j_aload_n (q := 55) C dX11_worked_54 rfl rfl rfl ?_
        refine jg_Model_codes (q := 58) C dX11_worked_55 rfl hR.1.1 kw_872 hR.2.2.2.2.1 ?_
        refine j_iload (q := 60) C dX11_worked_58 rfl rfl ?_
        refine j_iald (q := 61) C dX11_worked_60 rfl hR.1.2.2.2.2.1 (by omega) (by decide) ?_
        refine j_top (v' := .int (nI c)) (congrArg Value.int (cAt_h hc)) ?_
        refine j_istore (lv' := [(6, _), (4, _), (5, _), (0, _), (1, _), (2, _), (3, _)]) (q := 63) C dX11_worked_61 rfl (by decide) rfl ?_
        refine j_iload (q := 65) C dX11_worked_63 rfl rfl ?_
        refine j_ldc (q := 67) C dX11_worked_65 rfl kw_978 ?_
        refine j_icmp_ge (q := 70) (tgt := 106) C dX11_worked_67 rfl (by decide) (fun c_67 => ?_) (fun c_67 => absurd ((show nI 2000000 = 2000000 by decide) ▸ nI_le (by omega) (by omega)) c_67)
        refine j_iload (q := 108) C dX11_worked_106 rfl rfl ?_
        refine j_ldc (q := 110) C dX11_worked_108 rfl kw_984 ?_
        refine j_icmp_ne (q := 113) (tgt := 144) C dX11_worked_110 rfl (by decide) (fun c_110 => absurd (by rw [w1]; decide) c_110) (fun c_110 => ?_)
        refine j_aload_n (q := 114) C dX11_worked_113 rfl rfl rfl ?_
        refine jg_Model_pile (q := 117) C dX11_worked_114 rfl hR.1.1 kw_889 hR.2.2.2.2.2.2.2.2.2.2.2.1 ?_
        refine j_iload (q := 119) C dX11_worked_117 rfl rfl ?_
        refine j_iconst (v := nI 1) (q := 120) C dX11_worked_119 rfl (by decide) ?_
        refine j_isub (q := 121) C dX11_worked_120 rfl ?_
        refine j_top (v' := .int (nI (h - 1))) (by rw [pk_sub (by omega)]) ?_
        refine j_aload_n (q := 122) C dX11_worked_121 rfl rfl rfl ?_
        refine jg_Model_pile (q := 125) C dX11_worked_122 rfl hR.1.1 kw_889 hR.2.2.2.2.2.2.2.2.2.2.2.1 ?_
        refine j_iload (q := 127) C dX11_worked_125 rfl rfl ?_
        refine j_iconst (v := nI 1) (q := 128) C dX11_worked_127 rfl (by decide) ?_
        refine j_isub (q := 129) C dX11_worked_128 rfl ?_
        refine j_top (v' := .int (nI (h - 1))) (by rw [pk_sub (by omega)]) ?_
        refine j_lald2 (b := o + 11) (by omega) (q := 130) C dX11_worked_129 rfl hR.1.2.2.2.2.2.2.2.2.2.2.2.1 (by omega) (by decide) ?_
        refine j_lconst (v := 0) (q := 131) C dX11_worked_130 rfl (by decide) ?_
        refine j_lcmp_ne (q1 := 132) (q := 135) (tgt := 139) C dX11_worked_131 dX11_worked_132 rfl rfl (by decide) (fun c_132 => ?_) (fun c_132 => ?_)
        · refine j_lconst (v := 0) (q := 140) C dX11_worked_139 rfl (by decide) ?_
          refine j_last2 (b := o + 11) (by omega) (q := 141) C dX11_worked_140 rfl hR.1.2.2.2.2.2.2.2.2.2.2.2.1 (by omega) (by decide) ?_
          refine j_goto (tgt := 180) C dX11_worked_141 (by decide) ?_
          first | refine j_iincN (lv' := [(4, _), (6, _), (5, _), (0, _), (1, _), (2, _), (3, _)]) (q := 183) C dX11_worked_180 rfl rfl (by decide) rfl ?_ | refine j_iinc (lv' := [(4, _), (6, _), (5, _), (0, _), (1, _), (2, _), (3, _)]) (q := 183) C dX11_worked_180 rfl rfl rfl (by decide) rfl ?_
          refine j_goto (tgt := 42) C dX11_worked_183 (by decide) ?_
          exact j_fewer (lv' := [(4, .int (nI (k + 1))), (5, .int (nI h)), (0, .ref o), (1, .int (nI b)), (2, .int (nI c1)), (3, .int (nI j))]) (by simp) (ih (k + 1) _ _ rest Q (by omega) w3 (cAt_t hc) (by simp only [List.length_cons] at hkl ⊢; omega) (by rw [eq]; show eRun _ _ (eTok (nName N d j s) c (P, h)) = _; rw [eTok, if_neg (by omega), if_pos w1, if_neg c_132]) eV)
        · refine j_lconst (v := 1) (q := 136) C dX11_worked_135 rfl (by decide) ?_
          refine j_goto (tgt := 140) C dX11_worked_136 (by decide) ?_
          refine j_last2 (b := o + 11) (by omega) (q := 141) C dX11_worked_140 rfl hR.1.2.2.2.2.2.2.2.2.2.2.2.1 (by omega) (by decide) ?_
          refine j_goto (tgt := 180) C dX11_worked_141 (by decide) ?_
          first | refine j_iincN (lv' := [(4, _), (6, _), (5, _), (0, _), (1, _), (2, _), (3, _)]) (q := 183) C dX11_worked_180 rfl rfl (by decide) rfl ?_ | refine j_iinc (lv' := [(4, _), (6, _), (5, _), (0, _), (1, _), (2, _), (3, _)]) (q := 183) C dX11_worked_180 rfl rfl rfl (by decide) rfl ?_
          refine j_goto (tgt := 42) C dX11_worked_183 (by decide) ?_
          exact j_fewer (lv' := [(4, .int (nI (k + 1))), (5, .int (nI h)), (0, .ref o), (1, .int (nI b)), (2, .int (nI c1)), (3, .int (nI j))]) (by simp) (ih (k + 1) _ _ rest Q (by omega) w3 (cAt_t hc) (by simp only [List.length_cons] at hkl ⊢; omega) (by rw [eq]; show eRun _ _ (eTok (nName N d j s) c (P, h)) = _; rw [eTok, if_neg (by omega), if_pos w1, if_pos c_132]) eV)
      · have hdn : c - 2000000 ≤ 7 := by omega
        refine j_aload_n (q := 43) C dX11_worked_42 rfl rfl rfl ?_
        refine jg_Model_codes (q := 46) C dX11_worked_43 rfl hR.1.1 kw_872 hR.2.2.2.2.1 ?_
        refine j_iload (q := 48) C dX11_worked_46 rfl rfl ?_
        refine j_iald (q := 49) C dX11_worked_48 rfl hR.1.2.2.2.2.1 (by omega) (by decide) ?_
        refine j_top (v' := .int (nI c)) (congrArg Value.int (cAt_h hc)) ?_
        refine j_ldc (q := 51) C dX11_worked_49 rfl kw_977 ?_
        refine j_icmp_eq (q := 54) (tgt := 186) C dX11_worked_51 rfl (by decide) (fun c_51 => absurd c_51 (fun e => absurd ((nI_eq (by omega) (by omega)).mp (e.trans (by decide : (3000000 : Int32) = nI 3000000))) (by omega))) (fun c_51 => ?_)
        refine j_aload_n (q := 55) C dX11_worked_54 rfl rfl rfl ?_
        refine jg_Model_codes (q := 58) C dX11_worked_55 rfl hR.1.1 kw_872 hR.2.2.2.2.1 ?_
        refine j_iload (q := 60) C dX11_worked_58 rfl rfl ?_
        refine j_iald (q := 61) C dX11_worked_60 rfl hR.1.2.2.2.2.1 (by omega) (by decide) ?_
        refine j_top (v' := .int (nI c)) (congrArg Value.int (cAt_h hc)) ?_
        refine j_istore (lv' := [(6, _), (4, _), (5, _), (0, _), (1, _), (2, _), (3, _)]) (q := 63) C dX11_worked_61 rfl (by decide) rfl ?_
        refine j_iload (q := 65) C dX11_worked_63 rfl rfl ?_
        refine j_ldc (q := 67) C dX11_worked_65 rfl kw_978 ?_
        refine j_icmp_ge (q := 70) (tgt := 106) C dX11_worked_67 rfl (by decide) (fun c_67 => ?_) (fun c_67 => absurd ((show nI 2000000 = 2000000 by decide) ▸ nI_le (by omega) (by omega)) c_67)
        refine j_iload (q := 108) C dX11_worked_106 rfl rfl ?_
        refine j_ldc (q := 110) C dX11_worked_108 rfl kw_984 ?_
        refine j_icmp_ne (q := 113) (tgt := 144) C dX11_worked_110 rfl (by decide) (fun c_110 => ?_) (fun c_110 => absurd c_110 (fun e => absurd ((nI_eq (by omega) (by omega)).mp (e.trans (by decide : (2000008 : Int32) = nI 2000008))) (by omega)))
        refine j_iinc (lv' := [(5, _), (6, _), (4, _), (0, _), (1, _), (2, _), (3, _)]) (q := 147) C dX11_worked_144 rfl rfl rfl (by decide) rfl ?_
        
        refine j_aload_n (q := 148) C dX11_worked_147 rfl rfl rfl ?_
        refine jg_Model_pile (q := 151) C dX11_worked_148 rfl hR.1.1 kw_889 hR.2.2.2.2.2.2.2.2.2.2.2.1 ?_
        refine j_iload (q := 153) C dX11_worked_151 rfl rfl ?_
        refine j_iconst (v := nI 1) (q := 154) C dX11_worked_153 rfl (by decide) ?_
        refine j_isub (q := 155) C dX11_worked_154 rfl ?_
        refine j_top (v' := .int (nI (h - 2))) (by rw [show nI h + Int32.ofInt (-1) = nI (h - 1) by rw [show Int32.ofInt (-1) = -1 by decide]; exact sb_m1 (by omega), pk_sub (by omega)]; rfl) ?_
        refine j_iload (q := 157) C dX11_worked_155 rfl rfl ?_
        refine j_ldc (q := 159) C dX11_worked_157 rfl kw_978 ?_
        refine j_isub (q := 160) C dX11_worked_159 rfl ?_
        refine j_top (v' := .int (nI (c - 2000000))) (by rw [show (2000000 : Int32) = nI 2000000 by decide, pk_sub (by omega)]) ?_
        refine j_aload_n (q := 161) C dX11_worked_160 rfl rfl rfl ?_
        refine jg_Model_pile (q := 164) C dX11_worked_161 rfl hR.1.1 kw_889 hR.2.2.2.2.2.2.2.2.2.2.2.1 ?_
        refine j_iload (q := 166) C dX11_worked_164 rfl rfl ?_
        refine j_iconst (v := nI 1) (q := 167) C dX11_worked_166 rfl (by decide) ?_
        refine j_isub (q := 168) C dX11_worked_167 rfl ?_
        refine j_top (v' := .int (nI (h - 2))) (by rw [show nI h + Int32.ofInt (-1) = nI (h - 1) by rw [show Int32.ofInt (-1) = -1 by decide]; exact sb_m1 (by omega), pk_sub (by omega)]; rfl) ?_
        refine j_lald2 (b := o + 11) (by omega) (q := 169) C dX11_worked_168 rfl hR.1.2.2.2.2.2.2.2.2.2.2.2.1 (by omega) (by decide) ?_
        refine j_aload_n (q := 170) C dX11_worked_169 rfl rfl rfl ?_
        refine jg_Model_pile (q := 173) C dX11_worked_170 rfl hR.1.1 kw_889 hR.2.2.2.2.2.2.2.2.2.2.2.1 ?_
        refine j_iload (q := 175) C dX11_worked_173 rfl rfl ?_
        refine j_top (v' := .int (nI (h - 1))) (by rw [show nI h + Int32.ofInt (-1) = nI (h - 1) by rw [show Int32.ofInt (-1) = -1 by decide]; exact sb_m1 (by omega)]) ?_
        refine j_lald2 (b := o + 11) (by omega) (q := 176) C dX11_worked_175 rfl hR.1.2.2.2.2.2.2.2.2.2.2.2.1 (by omega) (by decide) ?_
        refine jS1 (q := 179) C dX11_worked_176 rfl mX11_done kw_985 kw_986 (ctX11_done hdn) rfl rfl (by decide) (Nat.le_of_ble_eq_true rfl) (by decide) ?_
        refine j_last2 (b := o + 11) (by omega) (q := 180) C dX11_worked_179 rfl hR.1.2.2.2.2.2.2.2.2.2.2.2.1 (by omega) (by decide) ?_
        first | refine j_iincN (lv' := [(4, _), (5, _), (6, _), (0, _), (1, _), (2, _), (3, _)]) (q := 183) C dX11_worked_180 rfl rfl (by decide) rfl ?_ | refine j_iinc (lv' := [(4, _), (5, _), (6, _), (0, _), (1, _), (2, _), (3, _)]) (q := 183) C dX11_worked_180 rfl rfl rfl (by decide) rfl ?_
        refine j_goto (tgt := 42) C dX11_worked_183 (by decide) ?_
        refine j_fewer (lv' := [(4, .int (nI (k + 1))), (5, .int (nI (h - 1))), (0, .ref o), (1, .int (nI b)), (2, .int (nI c1)), (3, .int (nI j))]) (by simp [show nI h + -1 = nI (h - 1) from sb_m1 (by omega)]) ?_
        exact ih (k + 1) _ _ rest Q (by omega) w4 (cAt_t hc) (by simp only [List.length_cons] at hkl ⊢; omega) (by rw [eq]; show eRun _ _ (eTok (nName N d j s) c (P, h)) = _; rw [eTok, if_neg (by omega), if_neg (by omega)]) eV
  have skip : ∀ (T : List Nat) (k l : Nat) {rs : List Nat}, (∀ z ∈ T, z < 2000009) → cAt (M.1 (o + 4)) k (T ++ 3000000 :: rs) → k + T.length < 2856 → l < 5 → jJ G X 0 0 sz Sh (jw (jw M (o + 11) (M.2.1 (o + 11))) (o + 1) N) 6 [(5, .int (nI l)), (4, .int (nI (k + T.length + 1))), (0, .ref o), (1, .int (nI b)), (2, .int (nI c1)), (3, .int (nI j))] [] → jJ G X 0 0 sz Sh (jw (jw M (o + 11) (M.2.1 (o + 11))) (o + 1) N) 6 [(5, .int (nI (l + 1))), (4, .int (nI k)), (0, .ref o), (1, .int (nI b)), (2, .int (nI c1)), (3, .int (nI j))] [] := by
    intro T
    induction T with
    | nil =>
      intro k l rs ht hc hkl hl kk
      have hkl2 : k < 2856 := by simpa using hkl
      refine j_iload (q := 8) C dX11_worked_6 rfl rfl ?_
      refine j_if_le (q := 11) (tgt := 39) C dX11_worked_8 rfl (by decide) (fun c_8 => absurd c_8 (nI_nle (by omega) (by omega))) (fun c_8 => ?_)
      refine j_iload (q := 13) C dX11_worked_11 rfl rfl ?_
      refine j_aload_n (q := 14) C dX11_worked_13 rfl rfl rfl ?_
      refine jg_Model_codes (q := 17) C dX11_worked_14 rfl hR.1.1 kw_872 hR.2.2.2.2.1 ?_
      refine j_iload (q := 19) C dX11_worked_17 rfl rfl ?_
      refine j_iald (q := 20) C dX11_worked_19 rfl hR.1.2.2.2.2.1 (by omega) (by decide) ?_
      refine j_top (v' := .int (nI 3000000)) (congrArg Value.int (cAt_h hc)) ?_
      refine j_ldc (q := 22) C dX11_worked_20 rfl kw_977 ?_
      refine j_icmp_ne (q := 25) (tgt := 29) C dX11_worked_22 rfl (by decide) (fun c_22 => absurd (by decide : nI 3000000 = 3000000) c_22) (fun c_22 => ?_)
      refine j_iconst (v := nI 1) (q := 26) C dX11_worked_25 rfl (by decide) ?_
      refine j_goto (tgt := 30) C dX11_worked_26 (by decide) ?_
      refine j_isub (q := 31) C dX11_worked_30 rfl ?_
      refine j_istore (lv' := [(5, _), (4, _), (0, _), (1, _), (2, _), (3, _)]) (q := 33) C dX11_worked_31 rfl (by decide) rfl ?_
      first | refine j_iincN (lv' := [(4, _), (5, _), (0, _), (1, _), (2, _), (3, _)]) (q := 36) C dX11_worked_33 rfl rfl (by decide) rfl ?_ | refine j_iinc (lv' := [(4, _), (5, _), (0, _), (1, _), (2, _), (3, _)]) (q := 36) C dX11_worked_33 rfl rfl rfl (by decide) rfl ?_
      refine j_goto (tgt := 6) C dX11_worked_36 (by decide) ?_
      refine j_fewer (lv' := [(5, .int (nI l)), (4, .int (nI (k + 1))), (0, .ref o), (1, .int (nI b)), (2, .int (nI c1)), (3, .int (nI j))]) (by simp [show nI (l + 1) - nI 1 = nI l from nI_pred l]) ?_
      exact kk
    | cons c T ih =>
      intro k l rs ht hc hkl hl kk
      have hkl2 : k < 2856 := by omega
      have hc9 := ht c List.mem_cons_self
      refine j_iload (q := 8) C dX11_worked_6 rfl rfl ?_
      refine j_if_le (q := 11) (tgt := 39) C dX11_worked_8 rfl (by decide) (fun c_8 => absurd c_8 (nI_nle (by omega) (by omega))) (fun c_8 => ?_)
      refine j_iload (q := 13) C dX11_worked_11 rfl rfl ?_
      refine j_aload_n (q := 14) C dX11_worked_13 rfl rfl rfl ?_
      refine jg_Model_codes (q := 17) C dX11_worked_14 rfl hR.1.1 kw_872 hR.2.2.2.2.1 ?_
      refine j_iload (q := 19) C dX11_worked_17 rfl rfl ?_
      refine j_iald (q := 20) C dX11_worked_19 rfl hR.1.2.2.2.2.1 (by omega) (by decide) ?_
      refine j_top (v' := .int (nI c)) (congrArg Value.int (cAt_h hc)) ?_
      refine j_ldc (q := 22) C dX11_worked_20 rfl kw_977 ?_
      refine j_icmp_ne (q := 25) (tgt := 29) C dX11_worked_22 rfl (by decide) (fun c_22 => ?_) (fun c_22 => absurd c_22 (fun e => absurd ((nI_eq (by omega) (by omega)).mp (e.trans (by decide : (3000000 : Int32) = nI 3000000))) (by omega)))
      refine j_iconst (v := nI 0) (q := 30) C dX11_worked_29 rfl (by decide) ?_
      refine j_isub (q := 31) C dX11_worked_30 rfl ?_
      refine j_istore (lv' := [(5, _), (4, _), (0, _), (1, _), (2, _), (3, _)]) (q := 33) C dX11_worked_31 rfl (by decide) rfl ?_
      first | refine j_iincN (lv' := [(4, _), (5, _), (0, _), (1, _), (2, _), (3, _)]) (q := 36) C dX11_worked_33 rfl rfl (by decide) rfl ?_ | refine j_iinc (lv' := [(4, _), (5, _), (0, _), (1, _), (2, _), (3, _)]) (q := 36) C dX11_worked_33 rfl rfl rfl (by decide) rfl ?_
      refine j_goto (tgt := 6) C dX11_worked_36 (by decide) ?_
      refine j_fewer (lv' := [(5, .int (nI (l + 1))), (4, .int (nI (k + 1))), (0, .ref o), (1, .int (nI b)), (2, .int (nI c1)), (3, .int (nI j))]) (by simp [show nI (l + 1) - nI 0 = nI (l + 1) from Int32.sub_zero _]) ?_
      exact ih (k + 1) l (fun z hz => ht z (List.mem_cons_of_mem _ hz)) (cAt_t hc) (by simp only [List.length_cons] at hkl ⊢; omega) hl (by rw [show k + 1 + T.length + 1 = k + (c :: T).length + 1 by simp only [List.length_cons]; omega]; exact kk)
  have wt : ∀ (T : List Nat) (h : Nat), wfT T h → ∀ z ∈ T, z < 2000009 := by
    intro T
    induction T with
    | nil => intro h _ z hz; cases hz
    | cons c T ih =>
      intro h wf z hz
      rcases List.mem_cons.mp hz with rfl | hz
      · exact tokE wf.1
      · obtain ⟨_, ⟨_, _, w3⟩ | ⟨_, _, w3⟩ | ⟨_, _, _, w4⟩⟩ := wf
        · exact ih _ w3 z hz
        · exact ih _ w3 z hz
        · exact ih _ w4 z hz
  have cAp : ∀ (T R : List Nat) (k : Nat), cAt (M.1 (o + 4)) k (T ++ 3000000 :: R) → cAt (M.1 (o + 4)) (k + T.length + 1) R := by
    intro T
    induction T with
    | nil => intro R k h; exact cAt_t h
    | cons c T ih =>
      intro R k h
      have h2 := ih R (k + 1) (cAt_t h)
      rw [show k + 1 + T.length + 1 = k + (c :: T).length + 1 by simp only [List.length_cons]; omega] at h2
      exact h2
  have hcd1 := cAp _ _ _ hcd
  have hcd2 := cAp _ _ _ hcd1
  rcases (show c1 = 0 ∨ c1 = 1 ∨ c1 = 2 by omega) with rfl | rfl | rfl
  · skip
    refine j_iload (q := 8) C dX11_worked_6 rfl rfl ?_
    refine j_if_le (q := 11) (tgt := 39) C dX11_worked_8 rfl (by decide) (fun c_8 => ?_) (fun c_8 => absurd (by decide : nI 0 ≤ 0) c_8)
    refine j_iconst (v := nI 0) (q := 40) C dX11_worked_39 rfl (by decide) ?_
    refine j_istore (lv' := [(5, _), (4, _), (0, _), (1, _), (2, _), (3, _)]) (q := 42) C dX11_worked_40 rfl (by decide) rfl ?_
    exact j_fewer (lv' := [(4, .int (nI b)), (5, .int (nI 0)), (0, .ref o), (1, .int (nI b)), (2, .int (nI 0)), (3, .int (nI j))]) (by simp) (evl D b 0 _ _ _ (by omega) hD hcd (by omega) rfl hV)
  · refine skip D b 0 (wt D 0 hD) hcd (by omega) (by omega) ?_
    refine j_iload (q := 8) C dX11_worked_6 rfl rfl ?_
    refine j_if_le (q := 11) (tgt := 39) C dX11_worked_8 rfl (by decide) (fun c_8 => ?_) (fun c_8 => absurd (by decide : nI 0 ≤ 0) c_8)
    refine j_iconst (v := nI 0) (q := 40) C dX11_worked_39 rfl (by decide) ?_
    refine j_istore (lv' := [(5, _), (4, _), (0, _), (1, _), (2, _), (3, _)]) (q := 42) C dX11_worked_40 rfl (by decide) rfl ?_
    exact j_fewer (lv' := [(4, .int (nI (b + D.length + 1))), (5, .int (nI 0)), (0, .ref o), (1, .int (nI b)), (2, .int (nI 1)), (3, .int (nI j))]) (by simp) (evl E1 (b + D.length + 1) 0 _ _ _ (by omega) hE hcd1 (by omega) rfl hV)
  · refine skip D b 1 (wt D 0 hD) hcd (by omega) (by omega) ?_
    refine skip E1 (b + D.length + 1) 0 (wt E1 0 hE) hcd1 (by omega) (by omega) ?_
    refine j_iload (q := 8) C dX11_worked_6 rfl rfl ?_
    refine j_if_le (q := 11) (tgt := 39) C dX11_worked_8 rfl (by decide) (fun c_8 => ?_) (fun c_8 => absurd (by decide : nI 0 ≤ 0) c_8)
    refine j_iconst (v := nI 0) (q := 40) C dX11_worked_39 rfl (by decide) ?_
    refine j_istore (lv' := [(5, _), (4, _), (0, _), (1, _), (2, _), (3, _)]) (q := 42) C dX11_worked_40 rfl (by decide) rfl ?_
    exact j_fewer (lv' := [(4, .int (nI (b + D.length + 1 + E1.length + 1))), (5, .int (nI 0)), (0, .ref o), (1, .int (nI b)), (2, .int (nI 2)), (3, .int (nI j))]) (by simp) (evl F1 (b + D.length + 1 + E1.length + 1) 0 _ _ _ (by omega) hF hcd2 (by omega) rfl hV)

theorem eRun_irr (nm : Nat → Int64) : ∀ (T : List Nat) (d : Nat) (P P' : Nat → Int64), wfT T d → (∀ i, i < d → P i = P' i) → (eRun nm T (P, d)).1 0 = (eRun nm T (P', d)).1 0 := by
  intro T
  induction T with
  | nil => intro d P P' wf h; exact h 0 (by have : d = 1 := wf; omega)
  | cons c T ih =>
    intro d P P' wf h
    obtain ⟨tk, ⟨w1, w2, w3⟩ | ⟨w1, w2, w3⟩ | ⟨w1, w1b, w2, w3⟩⟩ := wf
    · simp only [eRun, eTok, if_pos w1]
      refine ih _ _ _ w3 (fun i hi => ?_)
      by_cases e : i = d
      · simp [va_up, e]
      · simp only [va_up, if_neg e]; exact h i (by omega)
    · simp only [eRun, eTok, if_neg (show ¬ c < 2000000 by omega), if_pos w1]
      refine ih _ _ _ w3 (fun i hi => ?_)
      by_cases e : i = d - 1
      · simp [va_up, e, h (d - 1) (by omega)]
      · simp only [va_up, if_neg e]; exact h i (by omega)
    · simp only [eRun, eTok, if_neg (show ¬ c < 2000000 by omega), if_neg (show ¬ c = 2000008 by omega)]
      refine ih _ _ _ w3 (fun i hi => ?_)
      by_cases e : i = d - 2
      · simp only [va_up, if_pos e]; rw [h (d - 2) (by omega), h (d - 1) (by omega)]
      · simp only [va_up, if_neg e]; exact h i (by omega)
/-- what a clause comes to -/
def eVal (nm : Nat → Int64) (T : List Nat) : Int64 := (eRun nm T (fun _ => 0, 0)).1 0
theorem eVal_of {nm : Nat → Int64} {T : List Nat} (P : Nat → Int64) (h : wfT T 0) : (eRun nm T (P, 0)).1 0 = eVal nm T := eRun_irr nm T 0 P _ h (fun i hi => absurd hi (by omega))
