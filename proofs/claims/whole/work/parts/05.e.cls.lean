/-- a token of a text's code as the class has it -/
def sEnc (c : Nat) : Int32 := if c < 1000000 then nI c else if c = 1000000 then -1 else if c = 1000004 then -2 else if c = 1000008 then -3 else if c = 1000014 then -4 else if c = 1000020 then -5 else if c = 1000025 then -6 else if c = 1000030 then -7 else if c = 2000000 then -12 else if c = 2000001 then -11 else if c = 2000002 then -21 else if c = 2000003 then -22 else if c = 2000004 then -17 else if c = 2000005 then -18 else if c = 2000006 then -19 else if c = 2000007 then -20 else -13
theorem sEnc_num {c : Nat} (h : c < 1000000) : sEnc c = nI c := if_pos h
theorem sEnc_bin {c : Nat} (h : 2000000 ≤ c) (h2 : c < 2000008) : sEnc c < -7 ∧ ¬ sEnc c = -13 := by
  rcases (show c = 2000000 ∨ c = 2000001 ∨ c = 2000002 ∨ c = 2000003 ∨ c = 2000004 ∨ c = 2000005 ∨ c = 2000006 ∨ c = 2000007 by omega) with rfl | rfl | rfl | rfl | rfl | rfl | rfl | rfl <;> decide
def sAt (c : Nat → Int32) (b : Nat) (L : List Nat) : Prop := ∀ i x, L[i]? = some x → c (b + i) = sEnc x
theorem sAt_h {c : Nat → Int32} {b x : Nat} {L : List Nat} (h : sAt c b (x :: L)) : c b = sEnc x := h 0 x rfl
theorem sAt_t {c : Nat → Int32} {b x : Nat} {L : List Nat} (h : sAt c b (x :: L)) : sAt c (b + 1) L := fun i z hz => by
  have := h (i + 1) z hz
  rw [show b + (i + 1) = b + 1 + i by omega] at this
  exact this
theorem sAt_l {c : Nat → Int32} {b : Nat} {L L' : List Nat} (h : sAt c b (L ++ L')) : sAt c b L := fun i z hz => h i z (by rw [List.getElem?_append_left (List.getElem?_eq_some_iff.mp hz).1]; exact hz)
theorem sAt_r {c : Nat → Int32} {b : Nat} {L L' : List Nat} (h : sAt c b (L ++ L')) : sAt c (b + L.length) L' := fun i z hz => by
  have := h (L.length + i) z (by rw [List.getElem?_append_right (by omega), Nat.add_sub_cancel_left]; exact hz)
  rw [← Nat.add_assoc] at this
  exact this
/-- a Code at address ca, its steps at sa -/
def cdOk (Sh : jS) (M : jM) (ca : Nat) (t : sT) : Prop := (Sh ca).1 = 1 ∧ ∃ sa, M.2.2 ca 0 = some sa ∧ Sh sa = (13, t.1.length + t.2.1.length + t.2.2.length) ∧ M.1 ca 1 = nI t.1.length ∧ M.1 ca 2 = nI (t.1.length + t.2.1.length) ∧ sAt (M.1 sa) 0 (t.1 ++ (t.2.1 ++ t.2.2)) ∧ wfT t.1 0 ∧ wfT t.2.1 0 ∧ wfT t.2.2 0 ∧ t.1.length + t.2.1.length + t.2.2.length ≤ 160
/-- the names' row as the class fills it -/
def nmOk (A nm : Nat → Int64) : Prop := A 0 = nm 0 ∧ A 1 = nm 4 ∧ A 2 = nm 8 ∧ A 3 = nm 14 ∧ A 4 = nm 20 ∧ A 5 = nm 25 ∧ A 6 = nm 30
set_option maxRecDepth 100000 in
set_option maxHeartbeats 400000 in
theorem ctX1_join_0 {G : jG} {sz : Nat} {Sh : jS} {M : jM} {a b : Int64} : jC G yX1_join cX1_join 5 (Option.some FieldType.long) (jrm 1 0 0) sz Sh M [.int (-12), .long a, .long b] (jR (some (.long (nDone 0 a b))) sz Sh M) := by
  refine jC_start (by decide +kernel) (Nat.le_of_ble_eq_true rfl) (fun X C E hN0 => ?_)
  refine j_iload_n (q := 1) C dX1_join_0 rfl rfl rfl ?_
  refine j_swIn (tgt := 64) C dX1_join_1 (by decide) (by decide) rfl (by decide) ?_
  refine j_lload_n (q := 65) C dX1_join_64 rfl rfl rfl ?_
  refine j_lconst (v := 0) (q := 66) C dX1_join_65 rfl (by decide) ?_
  refine j_lcmp_ne (q1 := 67) (q := 70) (tgt := 76) C dX1_join_66 dX1_join_67 rfl rfl (by decide) (fun c_67 => ?_) (fun c_67 => ?_)
  · refine j_lconst (v := 1) (q := 77) C dX1_join_76 rfl (by decide) ?_
    refine j_goto (tgt := 81) C dX1_join_77 (by decide) ?_
    exact j_lret C E dX1_join_81 rfl rfl (jR_e (by rw [nDone, if_pos (Or.inl c_67)]) rfl)
  · refine j_lload_n (q := 71) C dX1_join_70 rfl rfl rfl ?_
    refine j_lconst (v := 0) (q := 72) C dX1_join_71 rfl (by decide) ?_
    refine j_lcmp_eq (q1 := 73) (q := 76) (tgt := 80) C dX1_join_72 dX1_join_73 rfl rfl (by decide) (fun c_73 => ?_) (fun c_73 => ?_)
    · refine j_lconst (v := 0) (q := 81) C dX1_join_80 rfl (by decide) ?_
      exact j_lret C E dX1_join_81 rfl rfl (jR_e (by rw [nDone, if_neg (fun h => h.elim (fun h => h c_67) (fun h => h c_73))]) rfl)
    · refine j_lconst (v := 1) (q := 77) C dX1_join_76 rfl (by decide) ?_
      refine j_goto (tgt := 81) C dX1_join_77 (by decide) ?_
      exact j_lret C E dX1_join_81 rfl rfl (jR_e (by rw [nDone, if_pos (Or.inr c_73)]) rfl)

set_option maxRecDepth 100000 in
set_option maxHeartbeats 400000 in
theorem ctX1_join_1 {G : jG} {sz : Nat} {Sh : jS} {M : jM} {a b : Int64} : jC G yX1_join cX1_join 5 (Option.some FieldType.long) (jrm 1 0 0) sz Sh M [.int (-11), .long a, .long b] (jR (some (.long (nDone 1 a b))) sz Sh M) := by
  refine jC_start (by decide +kernel) (Nat.le_of_ble_eq_true rfl) (fun X C E hN0 => ?_)
  refine j_iload_n (q := 1) C dX1_join_0 rfl rfl rfl ?_
  refine j_swIn (tgt := 82) C dX1_join_1 (by decide) (by decide) rfl (by decide) ?_
  refine j_lload_n (q := 83) C dX1_join_82 rfl rfl rfl ?_
  refine j_lconst (v := 0) (q := 84) C dX1_join_83 rfl (by decide) ?_
  refine j_lcmp_eq (q1 := 85) (q := 88) (tgt := 98) C dX1_join_84 dX1_join_85 rfl rfl (by decide) (fun c_85 => ?_) (fun c_85 => ?_)
  · refine j_lconst (v := 0) (q := 99) C dX1_join_98 rfl (by decide) ?_
    exact j_lret C E dX1_join_99 rfl rfl (jR_e (by rw [nDone, if_neg (fun h => h.1 c_85)]) rfl)
  · refine j_lload_n (q := 89) C dX1_join_88 rfl rfl rfl ?_
    refine j_lconst (v := 0) (q := 90) C dX1_join_89 rfl (by decide) ?_
    refine j_lcmp_eq (q1 := 91) (q := 94) (tgt := 98) C dX1_join_90 dX1_join_91 rfl rfl (by decide) (fun c_91 => ?_) (fun c_91 => ?_)
    · refine j_lconst (v := 0) (q := 99) C dX1_join_98 rfl (by decide) ?_
      exact j_lret C E dX1_join_99 rfl rfl (jR_e (by rw [nDone, if_neg (fun h => h.2 c_91)]) rfl)
    · refine j_lconst (v := 1) (q := 95) C dX1_join_94 rfl (by decide) ?_
      refine j_goto (tgt := 99) C dX1_join_95 (by decide) ?_
      exact j_lret C E dX1_join_99 rfl rfl (jR_e (by rw [nDone, if_pos ⟨c_85, c_91⟩]) rfl)

set_option maxRecDepth 100000 in
set_option maxHeartbeats 400000 in
theorem ctX1_join_2 {G : jG} {sz : Nat} {Sh : jS} {M : jM} {a b : Int64} : jC G yX1_join cX1_join 5 (Option.some FieldType.long) (jrm 1 0 0) sz Sh M [.int (-21), .long a, .long b] (jR (some (.long (nDone 2 a b))) sz Sh M) := by
  refine jC_start (by decide +kernel) (Nat.le_of_ble_eq_true rfl) (fun X C E hN0 => ?_)
  refine j_iload_n (q := 1) C dX1_join_0 rfl rfl rfl ?_
  refine j_swIn (tgt := 100) C dX1_join_1 (by decide) (by decide) rfl (by decide) ?_
  refine j_lload_n (q := 101) C dX1_join_100 rfl rfl rfl ?_
  refine j_lload_n (q := 102) C dX1_join_101 rfl rfl rfl ?_
  refine j_lcmp_ge (q1 := 103) (q := 106) (tgt := 110) C dX1_join_102 dX1_join_103 rfl rfl (by decide) (fun c_103 => ?_) (fun c_103 => ?_)
  · refine j_lconst (v := 0) (q := 111) C dX1_join_110 rfl (by decide) ?_
    exact j_lret C E dX1_join_111 rfl rfl (jR_e (by rw [nDone, if_neg (Int64.not_lt.mpr c_103)]) rfl)
  · refine j_lconst (v := 1) (q := 107) C dX1_join_106 rfl (by decide) ?_
    refine j_goto (tgt := 111) C dX1_join_107 (by decide) ?_
    exact j_lret C E dX1_join_111 rfl rfl (jR_e (by rw [nDone, if_pos (Int64.not_le.mp c_103)]) rfl)

set_option maxRecDepth 100000 in
set_option maxHeartbeats 400000 in
theorem ctX1_join_3 {G : jG} {sz : Nat} {Sh : jS} {M : jM} {a b : Int64} : jC G yX1_join cX1_join 5 (Option.some FieldType.long) (jrm 1 0 0) sz Sh M [.int (-22), .long a, .long b] (jR (some (.long (nDone 3 a b))) sz Sh M) := by
  refine jC_start (by decide +kernel) (Nat.le_of_ble_eq_true rfl) (fun X C E hN0 => ?_)
  refine j_iload_n (q := 1) C dX1_join_0 rfl rfl rfl ?_
  refine j_swIn (tgt := 112) C dX1_join_1 (by decide) (by decide) rfl (by decide) ?_
  refine j_lload_n (q := 113) C dX1_join_112 rfl rfl rfl ?_
  refine j_lload_n (q := 114) C dX1_join_113 rfl rfl rfl ?_
  refine j_lcmp_ne (q1 := 115) (q := 118) (tgt := 122) C dX1_join_114 dX1_join_115 rfl rfl (by decide) (fun c_115 => ?_) (fun c_115 => ?_)
  · refine j_lconst (v := 0) (q := 123) C dX1_join_122 rfl (by decide) ?_
    exact j_lret C E dX1_join_123 rfl rfl (jR_e (by rw [nDone, if_neg c_115]) rfl)
  · refine j_lconst (v := 1) (q := 119) C dX1_join_118 rfl (by decide) ?_
    refine j_goto (tgt := 123) C dX1_join_119 (by decide) ?_
    exact j_lret C E dX1_join_123 rfl rfl (jR_e (by rw [nDone, if_pos c_115]) rfl)

set_option maxRecDepth 100000 in
set_option maxHeartbeats 400000 in
theorem ctX1_join_4 {G : jG} {sz : Nat} {Sh : jS} {M : jM} {a b : Int64} : jC G yX1_join cX1_join 5 (Option.some FieldType.long) (jrm 1 0 0) sz Sh M [.int (-17), .long a, .long b] (jR (some (.long (nDone 4 a b))) sz Sh M) := by
  refine jC_start (by decide +kernel) (Nat.le_of_ble_eq_true rfl) (fun X C E hN0 => ?_)
  refine j_iload_n (q := 1) C dX1_join_0 rfl rfl rfl ?_
  refine j_swIn (tgt := 124) C dX1_join_1 (by decide) (by decide) rfl (by decide) ?_
  refine j_lload_n (q := 125) C dX1_join_124 rfl rfl rfl ?_
  refine j_lload_n (q := 126) C dX1_join_125 rfl rfl rfl ?_
  refine j_ladd (q := 127) C dX1_join_126 rfl ?_
  exact j_lret C E dX1_join_127 rfl rfl (jR_i)

set_option maxRecDepth 100000 in
set_option maxHeartbeats 400000 in
theorem ctX1_join_5 {G : jG} {sz : Nat} {Sh : jS} {M : jM} {a b : Int64} : jC G yX1_join cX1_join 5 (Option.some FieldType.long) (jrm 1 0 0) sz Sh M [.int (-18), .long a, .long b] (jR (some (.long (nDone 5 a b))) sz Sh M) := by
  refine jC_start (by decide +kernel) (Nat.le_of_ble_eq_true rfl) (fun X C E hN0 => ?_)
  refine j_iload_n (q := 1) C dX1_join_0 rfl rfl rfl ?_
  refine j_swIn (tgt := 128) C dX1_join_1 (by decide) (by decide) rfl (by decide) ?_
  refine j_lload_n (q := 129) C dX1_join_128 rfl rfl rfl ?_
  refine j_lload_n (q := 130) C dX1_join_129 rfl rfl rfl ?_
  refine j_lsub (q := 131) C dX1_join_130 rfl ?_
  exact j_lret C E dX1_join_131 rfl rfl (jR_i)

set_option maxRecDepth 100000 in
set_option maxHeartbeats 400000 in
theorem ctX1_join_6 {G : jG} {sz : Nat} {Sh : jS} {M : jM} {a b : Int64} : jC G yX1_join cX1_join 5 (Option.some FieldType.long) (jrm 1 0 0) sz Sh M [.int (-19), .long a, .long b] (jR (some (.long (nDone 6 a b))) sz Sh M) := by
  refine jC_start (by decide +kernel) (Nat.le_of_ble_eq_true rfl) (fun X C E hN0 => ?_)
  refine j_iload_n (q := 1) C dX1_join_0 rfl rfl rfl ?_
  refine j_swIn (tgt := 132) C dX1_join_1 (by decide) (by decide) rfl (by decide) ?_
  refine j_lload_n (q := 133) C dX1_join_132 rfl rfl rfl ?_
  refine j_lload_n (q := 134) C dX1_join_133 rfl rfl rfl ?_
  refine j_lmul (q := 135) C dX1_join_134 rfl ?_
  exact j_lret C E dX1_join_135 rfl rfl (jR_i)

set_option maxRecDepth 100000 in
set_option maxHeartbeats 400000 in
theorem ctX1_join_7 {G : jG} {sz : Nat} {Sh : jS} {M : jM} {a b : Int64} : jC G yX1_join cX1_join 5 (Option.some FieldType.long) (jrm 1 0 0) sz Sh M [.int (-20), .long a, .long b] (jR (some (.long (nDone 7 a b))) sz Sh M) := by
  refine jC_start (by decide +kernel) (Nat.le_of_ble_eq_true rfl) (fun X C E hN0 => ?_)
  refine j_iload_n (q := 1) C dX1_join_0 rfl rfl rfl ?_
  refine j_swIn (tgt := 136) C dX1_join_1 (by decide) (by decide) rfl (by decide) ?_
  refine j_lload_n (q := 137) C dX1_join_136 rfl rfl rfl ?_
  refine j_lconst (v := 0) (q := 138) C dX1_join_137 rfl (by decide) ?_
  refine j_lcmp_ne (q1 := 139) (q := 142) (tgt := 146) C dX1_join_138 dX1_join_139 rfl rfl (by decide) (fun c_139 => ?_) (fun c_139 => ?_)
  · refine j_lload_n (q := 147) C dX1_join_146 rfl rfl rfl ?_
    refine j_lload_n (q := 148) C dX1_join_147 rfl rfl rfl ?_
    refine j_ldiv (q := 149) C dX1_join_148 rfl c_139 ?_
    exact j_lret C E dX1_join_149 rfl rfl (jR_e (show _ = some (Value.long (if b = 0 then 0 else a / b)) by rw [if_neg c_139]) rfl)
  · refine j_lconst (v := 0) (q := 143) C dX1_join_142 rfl (by decide) ?_
    refine j_goto (tgt := 149) C dX1_join_143 (by decide) ?_
    exact j_lret C E dX1_join_149 rfl rfl (jR_e (show _ = some (Value.long (if b = 0 then 0 else a / b)) by rw [if_pos c_139]) rfl)

theorem ctX1_join {G : jG} {sz : Nat} {Sh : jS} {M : jM} {c : Nat} {a b : Int64} (h1 : 2000000 ≤ c) (h2 : c < 2000008) : jC G yX1_join cX1_join 5 (Option.some FieldType.long) (jrm 1 0 0) sz Sh M [.int (sEnc c), .long a, .long b] (jR (some (.long (nDone (c - 2000000) a b))) sz Sh M) := by
  rcases (show c = 2000000 ∨ c = 2000001 ∨ c = 2000002 ∨ c = 2000003 ∨ c = 2000004 ∨ c = 2000005 ∨ c = 2000006 ∨ c = 2000007 by omega) with rfl | rfl | rfl | rfl | rfl | rfl | rfl | rfl
  · exact ctX1_join_0
  · exact ctX1_join_1
  · exact ctX1_join_2
  · exact ctX1_join_3
  · exact ctX1_join_4
  · exact ctX1_join_5
  · exact ctX1_join_6
  · exact ctX1_join_7
set_option maxRecDepth 100000 in
set_option maxHeartbeats 400000 in
theorem ctX1_startFor {G : jG} {sz : Nat} {Sh : jS} {M : jM} {ca sa kd : Nat} (hca : (Sh ca).1 = 1) (hk : kd = 1 ∨ kd = 3 ∨ kd = 4) {x z n : Nat} (hx : M.1 ca 1 = nI x) (hz : M.1 ca 2 = nI z) (hsa : M.2.2 ca 0 = some sa) (hss : Sh sa = (13, n)) : jC G yX1_startFor cX1_startFor 2 (Option.some FieldType.int) (jrm 1 0 0) sz Sh M [.ref ca, .int (nI kd)] (jR (some (.int (nI (if kd = 1 then 0 else if kd = 3 then x else z)))) sz Sh M) := by
  refine jC_start (by decide +kernel) (Nat.le_of_ble_eq_true rfl) (fun X C E hN0 => ?_)
  refine j_iload_n (q := 1) C dX1_startFor_0 rfl rfl rfl ?_
  refine j_iconst (v := nI 3) (q := 2) C dX1_startFor_1 rfl (by decide) ?_
  refine j_icmp_ne (q := 5) (tgt := 10) C dX1_startFor_2 rfl (by decide) (fun c_2 => ?_) (fun c_2 => ?_)
  · refine j_iload_n (q := 11) C dX1_startFor_10 rfl rfl rfl ?_
    refine j_iconst (v := nI 4) (q := 12) C dX1_startFor_11 rfl (by decide) ?_
    refine j_icmp_ne (q := 15) (tgt := 22) C dX1_startFor_12 rfl (by decide) (fun c_12 => ?_) (fun c_12 => ?_)
    · refine j_iconst (v := nI 0) (q := 23) C dX1_startFor_22 rfl (by decide) ?_
      exact j_iret C E dX1_startFor_23 rfl rfl (jR_e (by rw [if_pos (by rcases hk with h | h | h; exact h; exact absurd (by rw [h]) c_2; exact absurd (by rw [h]) c_12)]) rfl)
    · refine j_aload_n (q := 16) C dX1_startFor_15 rfl rfl rfl ?_
      refine jg_Code_wageAt (q := 19) C dX1_startFor_16 rfl (by assumption) kw_585 ?_
      refine j_goto (tgt := 23) C dX1_startFor_19 (by decide) ?_
      exact j_iret C E dX1_startFor_23 rfl rfl (jR_e (by rw [if_neg (by have := (nI_eq (by omega) (by omega)).mp c_12; omega), if_neg (by have := (nI_eq (by omega) (by omega)).mp c_12; omega), hz]) rfl)
  · refine j_aload_n (q := 6) C dX1_startFor_5 rfl rfl rfl ?_
    refine jg_Code_rentAt (q := 9) C dX1_startFor_6 rfl (by assumption) kw_584 ?_
    exact j_iret C E dX1_startFor_9 rfl rfl (jR_e (by rw [if_neg (by have := (nI_eq (by omega) (by omega)).mp c_2; omega), if_pos ((nI_eq (by omega) (by omega)).mp c_2), hx]) rfl)

set_option maxRecDepth 100000 in
set_option maxHeartbeats 400000 in
theorem ctX1_endFor {G : jG} {sz : Nat} {Sh : jS} {M : jM} {ca sa kd : Nat} (hca : (Sh ca).1 = 1) (hk : kd = 1 ∨ kd = 3 ∨ kd = 4) {x z n : Nat} (hx : M.1 ca 1 = nI x) (hz : M.1 ca 2 = nI z) (hsa : M.2.2 ca 0 = some sa) (hss : Sh sa = (13, n)) : jC G yX1_endFor cX1_endFor 2 (Option.some FieldType.int) (jrm 1 0 0) sz Sh M [.ref ca, .int (nI kd)] (jR (some (.int (nI (if kd = 1 then x else if kd = 3 then z else n)))) sz Sh M) := by
  refine jC_start (by decide +kernel) (Nat.le_of_ble_eq_true rfl) (fun X C E hN0 => ?_)
  refine j_iload_n (q := 1) C dX1_endFor_0 rfl rfl rfl ?_
  refine j_iconst (v := nI 3) (q := 2) C dX1_endFor_1 rfl (by decide) ?_
  refine j_icmp_ne (q := 5) (tgt := 10) C dX1_endFor_2 rfl (by decide) (fun c_2 => ?_) (fun c_2 => ?_)
  · refine j_iload_n (q := 11) C dX1_endFor_10 rfl rfl rfl ?_
    refine j_iconst (v := nI 4) (q := 12) C dX1_endFor_11 rfl (by decide) ?_
    refine j_icmp_ne (q := 15) (tgt := 23) C dX1_endFor_12 rfl (by decide) (fun c_12 => ?_) (fun c_12 => ?_)
    · refine j_aload_n (q := 24) C dX1_endFor_23 rfl rfl rfl ?_
      refine jg_Code_rentAt (q := 27) C dX1_endFor_24 rfl (by assumption) kw_584 ?_
      exact j_iret C E dX1_endFor_27 rfl rfl (jR_e (by rw [if_pos (by rcases hk with h | h | h; exact h; exact absurd (by rw [h]) c_2; exact absurd (by rw [h]) c_12), hx]) rfl)
    · refine j_aload_n (q := 16) C dX1_endFor_15 rfl rfl rfl ?_
      refine jg_Code_steps (q := 19) C dX1_endFor_16 rfl (by assumption) kw_583 hsa ?_
      refine j_alen (q := 20) C dX1_endFor_19 rfl hss (by decide) (t0 := 1) rfl ?_
      refine j_goto (tgt := 27) C dX1_endFor_20 (by decide) ?_
      exact j_iret C E dX1_endFor_27 rfl rfl (jR_e (by rw [if_neg (by have := (nI_eq (by omega) (by omega)).mp c_12; omega), if_neg (by have := (nI_eq (by omega) (by omega)).mp c_12; omega)]) rfl)
  · refine j_aload_n (q := 6) C dX1_endFor_5 rfl rfl rfl ?_
    refine jg_Code_wageAt (q := 9) C dX1_endFor_6 rfl (by assumption) kw_585 ?_
    exact j_iret C E dX1_endFor_9 rfl rfl (jR_e (by rw [if_neg (by have := (nI_eq (by omega) (by omega)).mp c_2; omega), if_pos ((nI_eq (by omega) (by omega)).mp c_2), hz]) rfl)

set_option maxRecDepth 100000 in
set_option maxHeartbeats 400000 in
theorem ctX1_run {G : jG} {sz : Nat} {Sh : jS} {M : jM} {ca an wa kd : Nat} {t : sT} (hcd : cdOk Sh M ca t) (hk : kd = 1 ∨ kd = 3 ∨ kd = 4) {nm : Nat → Int64} (hA : nmOk (M.2.1 an) nm) (hsn : Sh an = (14, 7)) (hsw : Sh wa = (14, 40)) (hne : an ≠ wa) : jC G yX1_run cX1_run 8 (Option.some FieldType.long) (jrm 2 0 0) sz Sh M [.ref ca, .int (nI kd), .ref an, .ref wa] (jT sz Sh (fun r M2 => ∃ P, r = some (.long (eVal nm (tCl t kd))) ∧ M2 = jw M wa P)) := by
  refine jC_start (by decide +kernel) (Nat.le_of_ble_eq_true rfl) (fun X C E hN0 => ?_)
  obtain ⟨hca, sa, hsa, hss, hx, hz, hst, h1, h2, h3, hlen⟩ := hcd
  rw [show M = jw M wa (M.2.1 wa) from (jw_self M wa).symm]
  refine j_iconst (v := nI 0) (q := 1) C dX1_run_0 rfl (by decide) ?_
  refine j_istore (lv' := [(4, _), (0, _), (1, _), (2, _), (3, _)]) (q := 3) C dX1_run_1 rfl (by decide) rfl ?_
  refine j_aload_n (q := 4) C dX1_run_3 rfl rfl rfl ?_
  refine j_iload_n (q := 5) C dX1_run_4 rfl rfl rfl ?_
  refine jV1 jc1 (q := 8) C dX1_run_5 rfl hca mX1_endFor kw_399 kw_400 kw_401 (ctX1_endFor hca hk hx hz hsa hss) rfl rfl (by decide) (Nat.le_of_ble_eq_true rfl) (by decide) ?_
  refine j_istore (lv' := [(5, _), (4, _), (0, _), (1, _), (2, _), (3, _)]) (q := 10) C dX1_run_8 rfl (by decide) rfl ?_
  refine j_aload_n (q := 11) C dX1_run_10 rfl rfl rfl ?_
  refine j_iload_n (q := 12) C dX1_run_11 rfl rfl rfl ?_
  refine jV1 jc1 (q := 15) C dX1_run_12 rfl hca mX1_startFor kw_403 kw_404 kw_405 (ctX1_startFor hca hk hx hz hsa hss) rfl rfl (by decide) (Nat.le_of_ble_eq_true rfl) (by decide) ?_
  refine j_istore (lv' := [(6, _), (5, _), (4, _), (0, _), (1, _), (2, _), (3, _)]) (q := 17) C dX1_run_15 rfl (by decide) rfl ?_
  obtain ⟨en, een⟩ : ∃ z, z = if kd = 1 then t.1.length else if kd = 3 then t.1.length + t.2.1.length else t.1.length + t.2.1.length + t.2.2.length := ⟨_, rfl⟩
  rw [← een]
  have hen : en ≤ t.1.length + t.2.1.length + t.2.2.length := by rw [een]; split; omega; split <;> omega
  obtain ⟨V, eV⟩ : ∃ z, z = eVal nm (tCl t kd) := ⟨_, rfl⟩
  rw [← eV] at E
  have evl : ∀ (T : List Nat) (i h : Nat) (P : Nat → Int64) (Q : (Nat → Int64) × Nat), h ≤ 30 → wfT T h → sAt (M.1 sa) i T → i + T.length = en → Q = eRun nm T (P, h) → Q.1 0 = V → jJ G X 0 0 sz Sh (jw M wa P) 17 [(6, .int (nI i)), (4, .int (nI h)), (5, .int (nI en)), (0, .ref ca), (1, .int (nI kd)), (2, .ref an), (3, .ref wa)] [] := by
    intro T
    induction T with
    | nil =>
      intro i h P Q h30 wf hc hl eq eV
      refine j_iload (q := 19) C dX1_run_17 rfl rfl ?_
      refine j_iload (q := 21) C dX1_run_19 rfl rfl ?_
      refine j_icmp_ge (q := 24) (tgt := 160) C dX1_run_21 rfl (by decide) (fun c_21 => ?_) (fun c_21 => absurd (nI_le (by simp only [List.length_nil] at hl; omega) (by omega)) c_21)
      refine j_aload_n (q := 161) C dX1_run_160 rfl rfl rfl ?_
      refine j_iconst (v := nI 0) (q := 162) C dX1_run_161 rfl (by decide) ?_
      refine j_laldW (q := 163) C dX1_run_162 rfl hsw (by omega) (by decide) ?_
      exact j_lret C E dX1_run_163 rfl rfl (⟨rfl, rfl, P, by rw [← eV, eq]; rfl, rfl⟩)
    | cons c T ih =>
      intro i h P Q h30 wf hc hl eq eV
      simp only [List.length_cons] at hl
      obtain ⟨tk, ⟨w1, w2, w3⟩ | ⟨w1, w2, w3⟩ | ⟨w1, w2, w3, w4⟩⟩ := wf
      · by_cases h1 : c < 1000000
        · refine j_iload (q := 19) C dX1_run_17 rfl rfl ?_
          refine j_iload (q := 21) C dX1_run_19 rfl rfl ?_
          refine j_icmp_ge (q := 24) (tgt := 160) C dX1_run_21 rfl (by decide) (fun c_21 => absurd c_21 (fun h => absurd ((nI_leI (by omega) (by omega)).mp h) (by omega))) (fun c_21 => ?_)
          refine j_iload (q := 26) C dX1_run_24 rfl rfl ?_
          refine j_aload_n (q := 27) C dX1_run_26 rfl rfl rfl ?_
          refine jg_Code_steps (q := 30) C dX1_run_27 rfl hca kw_583 hsa ?_
          refine j_alen (q := 31) C dX1_run_30 rfl hss (by decide) (t0 := 1) rfl ?_
          refine j_icmp_ge (q := 34) (tgt := 160) C dX1_run_31 rfl (by decide) (fun c_31 => absurd c_31 (fun h => absurd ((nI_leI (by omega) (by omega)).mp h) (by omega))) (fun c_31 => ?_)
          refine j_aload_n (q := 35) C dX1_run_34 rfl rfl rfl ?_
          refine jg_Code_steps (q := 38) C dX1_run_35 rfl hca kw_583 hsa ?_
          refine j_iload (q := 40) C dX1_run_38 rfl rfl ?_
          refine j_iald (q := 41) C dX1_run_40 rfl hss (by omega) (by omega) ?_
          refine j_top (v' := .int (sEnc c)) (congrArg Value.int (sAt_h hc)) ?_
          refine j_istore (lv' := [(7, _), (6, _), (4, _), (5, _), (0, _), (1, _), (2, _), (3, _)]) (q := 43) C dX1_run_41 rfl (by decide) rfl ?_
          refine j_iload (q := 45) C dX1_run_43 rfl rfl ?_
          refine j_bipush (v := (-7)) (q := 47) C dX1_run_45 rfl (by decide) ?_
          refine j_icmp_lt (q := 50) (tgt := 84) C dX1_run_47 rfl (by decide) (fun c_47 => absurd c_47 (by rw [sEnc_num h1]; exact fun h => absurd (Int32.lt_iff_toInt_lt.mp h) (by rw [nI_toInt (by omega)]; simp))) (fun c_47 => ?_)
          refine j_iload (q := 52) C dX1_run_50 rfl rfl ?_
          refine j_aload_n (q := 53) C dX1_run_52 rfl rfl rfl ?_
          refine j_alen (q := 54) C dX1_run_53 rfl hsw (by decide) (t0 := 2) rfl ?_
          refine j_icmp_ge (q := 57) (tgt := 84) C dX1_run_54 rfl (by decide) (fun c_54 => absurd c_54 (fun h => absurd ((nI_leI (by omega) (by omega)).mp h) (by omega))) (fun c_54 => ?_)
          refine j_aload_n (q := 58) C dX1_run_57 rfl rfl rfl ?_
          refine j_iload (q := 60) C dX1_run_58 rfl rfl ?_
          refine j_iload (q := 62) C dX1_run_60 rfl rfl ?_
          refine j_if_lt (q := 65) (tgt := 71) C dX1_run_62 rfl (by decide) (fun c_62 => absurd c_62 (by rw [sEnc_num h1]; exact nI_pos (by omega))) (fun c_62 => ?_)
          refine j_iload (q := 67) C dX1_run_65 rfl rfl ?_
          refine j_top (v' := .int (nI c)) (congrArg Value.int (sEnc_num h1)) ?_
          first | refine j_i2lN (q := 68) C dX1_run_67 rfl (by omega) ?_ | refine j_i2l (q := 68) C dX1_run_67 rfl rfl ?_
          refine j_goto (tgt := 77) C dX1_run_68 (by decide) ?_
          refine j_lastW (q := 78) C dX1_run_77 rfl hsw (by omega) (by decide) ?_
          first | refine j_iincN (lv' := [(4, _), (7, _), (6, _), (5, _), (0, _), (1, _), (2, _), (3, _)]) (q := 81) C dX1_run_78 rfl rfl (by decide) rfl ?_ | refine j_iinc (lv' := [(4, _), (7, _), (6, _), (5, _), (0, _), (1, _), (2, _), (3, _)]) (q := 81) C dX1_run_78 rfl rfl rfl (by decide) rfl ?_
          refine j_goto (tgt := 154) C dX1_run_81 (by decide) ?_
          first | refine j_iincN (lv' := [(6, _), (4, _), (7, _), (5, _), (0, _), (1, _), (2, _), (3, _)]) (q := 157) C dX1_run_154 rfl rfl (by decide) rfl ?_ | refine j_iinc (lv' := [(6, _), (4, _), (7, _), (5, _), (0, _), (1, _), (2, _), (3, _)]) (q := 157) C dX1_run_154 rfl rfl rfl (by decide) rfl ?_
          refine j_goto (tgt := 17) C dX1_run_157 (by decide) ?_
          exact j_fewer (lv' := [(6, .int (nI (i + 1))), (4, .int (nI (h + 1))), (5, .int (nI en)), (0, .ref ca), (1, .int (nI kd)), (2, .ref an), (3, .ref wa)]) (by simp) (ih (i + 1) _ _ Q (by omega) w3 (sAt_t hc) (by omega) (by rw [eq]; show eRun _ _ (eTok nm c (P, h)) = _; rw [eTok, if_pos w1, if_pos h1]) eV)
        · rcases (show c = 1000000 ∨ c = 1000004 ∨ c = 1000008 ∨ c = 1000014 ∨ c = 1000020 ∨ c = 1000025 ∨ c = 1000030 by unfold tokOk at tk; omega) with rfl | rfl | rfl | rfl | rfl | rfl | rfl
          · refine j_iload (q := 19) C dX1_run_17 rfl rfl ?_
            refine j_iload (q := 21) C dX1_run_19 rfl rfl ?_
            refine j_icmp_ge (q := 24) (tgt := 160) C dX1_run_21 rfl (by decide) (fun c_21 => absurd c_21 (fun h => absurd ((nI_leI (by omega) (by omega)).mp h) (by omega))) (fun c_21 => ?_)
            refine j_iload (q := 26) C dX1_run_24 rfl rfl ?_
            refine j_aload_n (q := 27) C dX1_run_26 rfl rfl rfl ?_
            refine jg_Code_steps (q := 30) C dX1_run_27 rfl hca kw_583 hsa ?_
            refine j_alen (q := 31) C dX1_run_30 rfl hss (by decide) (t0 := 1) rfl ?_
            refine j_icmp_ge (q := 34) (tgt := 160) C dX1_run_31 rfl (by decide) (fun c_31 => absurd c_31 (fun h => absurd ((nI_leI (by omega) (by omega)).mp h) (by omega))) (fun c_31 => ?_)
            refine j_aload_n (q := 35) C dX1_run_34 rfl rfl rfl ?_
            refine jg_Code_steps (q := 38) C dX1_run_35 rfl hca kw_583 hsa ?_
            refine j_iload (q := 40) C dX1_run_38 rfl rfl ?_
            refine j_iald (q := 41) C dX1_run_40 rfl hss (by omega) (by omega) ?_
            refine j_top (v' := .int (sEnc 1000000)) (congrArg Value.int (sAt_h hc)) ?_
            refine j_istore (lv' := [(7, _), (6, _), (4, _), (5, _), (0, _), (1, _), (2, _), (3, _)]) (q := 43) C dX1_run_41 rfl (by decide) rfl ?_
            refine j_iload (q := 45) C dX1_run_43 rfl rfl ?_
            refine j_bipush (v := (-7)) (q := 47) C dX1_run_45 rfl (by decide) ?_
            refine j_icmp_lt (q := 50) (tgt := 84) C dX1_run_47 rfl (by decide) (fun c_47 => absurd c_47 (by decide)) (fun c_47 => ?_)
            refine j_iload (q := 52) C dX1_run_50 rfl rfl ?_
            refine j_aload_n (q := 53) C dX1_run_52 rfl rfl rfl ?_
            refine j_alen (q := 54) C dX1_run_53 rfl hsw (by decide) (t0 := 2) rfl ?_
            refine j_icmp_ge (q := 57) (tgt := 84) C dX1_run_54 rfl (by decide) (fun c_54 => absurd c_54 (fun h => absurd ((nI_leI (by omega) (by omega)).mp h) (by omega))) (fun c_54 => ?_)
            refine j_aload_n (q := 58) C dX1_run_57 rfl rfl rfl ?_
            refine j_iload (q := 60) C dX1_run_58 rfl rfl ?_
            refine j_iload (q := 62) C dX1_run_60 rfl rfl ?_
            refine j_if_lt (q := 65) (tgt := 71) C dX1_run_62 rfl (by decide) (fun c_62 => ?_) (fun c_62 => absurd (by decide : sEnc 1000000 < 0) c_62)
            refine j_aload_n (q := 72) C dX1_run_71 rfl rfl rfl ?_
            refine j_iconst (v := (-1)) (q := 73) C dX1_run_72 rfl (by decide) ?_
            refine j_iload (q := 75) C dX1_run_73 rfl rfl ?_
            refine j_isub (q := 76) C dX1_run_75 rfl ?_
            refine j_top (v' := .int (nI 0)) (by decide) ?_
            refine j_lald (q := 77) C dX1_run_76 rfl hsn (by omega) (by decide) ?_
            refine j_top (v' := .long (nm (1000000 - 1000000))) (by rw [jw_ne _ _ hne]; exact congrArg Value.long hA.1) ?_
            refine j_lastW (q := 78) C dX1_run_77 rfl hsw (by omega) (by decide) ?_
            first | refine j_iincN (lv' := [(4, _), (7, _), (6, _), (5, _), (0, _), (1, _), (2, _), (3, _)]) (q := 81) C dX1_run_78 rfl rfl (by decide) rfl ?_ | refine j_iinc (lv' := [(4, _), (7, _), (6, _), (5, _), (0, _), (1, _), (2, _), (3, _)]) (q := 81) C dX1_run_78 rfl rfl rfl (by decide) rfl ?_
            refine j_goto (tgt := 154) C dX1_run_81 (by decide) ?_
            first | refine j_iincN (lv' := [(6, _), (4, _), (7, _), (5, _), (0, _), (1, _), (2, _), (3, _)]) (q := 157) C dX1_run_154 rfl rfl (by decide) rfl ?_ | refine j_iinc (lv' := [(6, _), (4, _), (7, _), (5, _), (0, _), (1, _), (2, _), (3, _)]) (q := 157) C dX1_run_154 rfl rfl rfl (by decide) rfl ?_
            refine j_goto (tgt := 17) C dX1_run_157 (by decide) ?_
            exact j_fewer (lv' := [(6, .int (nI (i + 1))), (4, .int (nI (h + 1))), (5, .int (nI en)), (0, .ref ca), (1, .int (nI kd)), (2, .ref an), (3, .ref wa)]) (by simp) (ih (i + 1) _ _ Q (by omega) w3 (sAt_t hc) (by omega) (by rw [eq]; show eRun _ _ (eTok nm 1000000 (P, h)) = _; rfl) eV)
          · refine j_iload (q := 19) C dX1_run_17 rfl rfl ?_
            refine j_iload (q := 21) C dX1_run_19 rfl rfl ?_
            refine j_icmp_ge (q := 24) (tgt := 160) C dX1_run_21 rfl (by decide) (fun c_21 => absurd c_21 (fun h => absurd ((nI_leI (by omega) (by omega)).mp h) (by omega))) (fun c_21 => ?_)
            refine j_iload (q := 26) C dX1_run_24 rfl rfl ?_
            refine j_aload_n (q := 27) C dX1_run_26 rfl rfl rfl ?_
            refine jg_Code_steps (q := 30) C dX1_run_27 rfl hca kw_583 hsa ?_
            refine j_alen (q := 31) C dX1_run_30 rfl hss (by decide) (t0 := 1) rfl ?_
            refine j_icmp_ge (q := 34) (tgt := 160) C dX1_run_31 rfl (by decide) (fun c_31 => absurd c_31 (fun h => absurd ((nI_leI (by omega) (by omega)).mp h) (by omega))) (fun c_31 => ?_)
            refine j_aload_n (q := 35) C dX1_run_34 rfl rfl rfl ?_
            refine jg_Code_steps (q := 38) C dX1_run_35 rfl hca kw_583 hsa ?_
            refine j_iload (q := 40) C dX1_run_38 rfl rfl ?_
            refine j_iald (q := 41) C dX1_run_40 rfl hss (by omega) (by omega) ?_
            refine j_top (v' := .int (sEnc 1000004)) (congrArg Value.int (sAt_h hc)) ?_
            refine j_istore (lv' := [(7, _), (6, _), (4, _), (5, _), (0, _), (1, _), (2, _), (3, _)]) (q := 43) C dX1_run_41 rfl (by decide) rfl ?_
            refine j_iload (q := 45) C dX1_run_43 rfl rfl ?_
            refine j_bipush (v := (-7)) (q := 47) C dX1_run_45 rfl (by decide) ?_
            refine j_icmp_lt (q := 50) (tgt := 84) C dX1_run_47 rfl (by decide) (fun c_47 => absurd c_47 (by decide)) (fun c_47 => ?_)
            refine j_iload (q := 52) C dX1_run_50 rfl rfl ?_
            refine j_aload_n (q := 53) C dX1_run_52 rfl rfl rfl ?_
            refine j_alen (q := 54) C dX1_run_53 rfl hsw (by decide) (t0 := 2) rfl ?_
            refine j_icmp_ge (q := 57) (tgt := 84) C dX1_run_54 rfl (by decide) (fun c_54 => absurd c_54 (fun h => absurd ((nI_leI (by omega) (by omega)).mp h) (by omega))) (fun c_54 => ?_)
            refine j_aload_n (q := 58) C dX1_run_57 rfl rfl rfl ?_
            refine j_iload (q := 60) C dX1_run_58 rfl rfl ?_
            refine j_iload (q := 62) C dX1_run_60 rfl rfl ?_
            refine j_if_lt (q := 65) (tgt := 71) C dX1_run_62 rfl (by decide) (fun c_62 => ?_) (fun c_62 => absurd (by decide : sEnc 1000004 < 0) c_62)
            refine j_aload_n (q := 72) C dX1_run_71 rfl rfl rfl ?_
            refine j_iconst (v := (-1)) (q := 73) C dX1_run_72 rfl (by decide) ?_
            refine j_iload (q := 75) C dX1_run_73 rfl rfl ?_
            refine j_isub (q := 76) C dX1_run_75 rfl ?_
            refine j_top (v' := .int (nI 1)) (by decide) ?_
            refine j_lald (q := 77) C dX1_run_76 rfl hsn (by omega) (by decide) ?_
            refine j_top (v' := .long (nm (1000004 - 1000000))) (by rw [jw_ne _ _ hne]; exact congrArg Value.long hA.2.1) ?_
            refine j_lastW (q := 78) C dX1_run_77 rfl hsw (by omega) (by decide) ?_
            first | refine j_iincN (lv' := [(4, _), (7, _), (6, _), (5, _), (0, _), (1, _), (2, _), (3, _)]) (q := 81) C dX1_run_78 rfl rfl (by decide) rfl ?_ | refine j_iinc (lv' := [(4, _), (7, _), (6, _), (5, _), (0, _), (1, _), (2, _), (3, _)]) (q := 81) C dX1_run_78 rfl rfl rfl (by decide) rfl ?_
            refine j_goto (tgt := 154) C dX1_run_81 (by decide) ?_
            first | refine j_iincN (lv' := [(6, _), (4, _), (7, _), (5, _), (0, _), (1, _), (2, _), (3, _)]) (q := 157) C dX1_run_154 rfl rfl (by decide) rfl ?_ | refine j_iinc (lv' := [(6, _), (4, _), (7, _), (5, _), (0, _), (1, _), (2, _), (3, _)]) (q := 157) C dX1_run_154 rfl rfl rfl (by decide) rfl ?_
            refine j_goto (tgt := 17) C dX1_run_157 (by decide) ?_
            exact j_fewer (lv' := [(6, .int (nI (i + 1))), (4, .int (nI (h + 1))), (5, .int (nI en)), (0, .ref ca), (1, .int (nI kd)), (2, .ref an), (3, .ref wa)]) (by simp) (ih (i + 1) _ _ Q (by omega) w3 (sAt_t hc) (by omega) (by rw [eq]; show eRun _ _ (eTok nm 1000004 (P, h)) = _; rfl) eV)
          · refine j_iload (q := 19) C dX1_run_17 rfl rfl ?_
            refine j_iload (q := 21) C dX1_run_19 rfl rfl ?_
            refine j_icmp_ge (q := 24) (tgt := 160) C dX1_run_21 rfl (by decide) (fun c_21 => absurd c_21 (fun h => absurd ((nI_leI (by omega) (by omega)).mp h) (by omega))) (fun c_21 => ?_)
            refine j_iload (q := 26) C dX1_run_24 rfl rfl ?_
            refine j_aload_n (q := 27) C dX1_run_26 rfl rfl rfl ?_
            refine jg_Code_steps (q := 30) C dX1_run_27 rfl hca kw_583 hsa ?_
            refine j_alen (q := 31) C dX1_run_30 rfl hss (by decide) (t0 := 1) rfl ?_
            refine j_icmp_ge (q := 34) (tgt := 160) C dX1_run_31 rfl (by decide) (fun c_31 => absurd c_31 (fun h => absurd ((nI_leI (by omega) (by omega)).mp h) (by omega))) (fun c_31 => ?_)
            refine j_aload_n (q := 35) C dX1_run_34 rfl rfl rfl ?_
            refine jg_Code_steps (q := 38) C dX1_run_35 rfl hca kw_583 hsa ?_
            refine j_iload (q := 40) C dX1_run_38 rfl rfl ?_
            refine j_iald (q := 41) C dX1_run_40 rfl hss (by omega) (by omega) ?_
            refine j_top (v' := .int (sEnc 1000008)) (congrArg Value.int (sAt_h hc)) ?_
            refine j_istore (lv' := [(7, _), (6, _), (4, _), (5, _), (0, _), (1, _), (2, _), (3, _)]) (q := 43) C dX1_run_41 rfl (by decide) rfl ?_
            refine j_iload (q := 45) C dX1_run_43 rfl rfl ?_
            refine j_bipush (v := (-7)) (q := 47) C dX1_run_45 rfl (by decide) ?_
            refine j_icmp_lt (q := 50) (tgt := 84) C dX1_run_47 rfl (by decide) (fun c_47 => absurd c_47 (by decide)) (fun c_47 => ?_)
            refine j_iload (q := 52) C dX1_run_50 rfl rfl ?_
            refine j_aload_n (q := 53) C dX1_run_52 rfl rfl rfl ?_
            refine j_alen (q := 54) C dX1_run_53 rfl hsw (by decide) (t0 := 2) rfl ?_
            refine j_icmp_ge (q := 57) (tgt := 84) C dX1_run_54 rfl (by decide) (fun c_54 => absurd c_54 (fun h => absurd ((nI_leI (by omega) (by omega)).mp h) (by omega))) (fun c_54 => ?_)
            refine j_aload_n (q := 58) C dX1_run_57 rfl rfl rfl ?_
            refine j_iload (q := 60) C dX1_run_58 rfl rfl ?_
            refine j_iload (q := 62) C dX1_run_60 rfl rfl ?_
            refine j_if_lt (q := 65) (tgt := 71) C dX1_run_62 rfl (by decide) (fun c_62 => ?_) (fun c_62 => absurd (by decide : sEnc 1000008 < 0) c_62)
            refine j_aload_n (q := 72) C dX1_run_71 rfl rfl rfl ?_
            refine j_iconst (v := (-1)) (q := 73) C dX1_run_72 rfl (by decide) ?_
            refine j_iload (q := 75) C dX1_run_73 rfl rfl ?_
            refine j_isub (q := 76) C dX1_run_75 rfl ?_
            refine j_top (v' := .int (nI 2)) (by decide) ?_
            refine j_lald (q := 77) C dX1_run_76 rfl hsn (by omega) (by decide) ?_
            refine j_top (v' := .long (nm (1000008 - 1000000))) (by rw [jw_ne _ _ hne]; exact congrArg Value.long hA.2.2.1) ?_
            refine j_lastW (q := 78) C dX1_run_77 rfl hsw (by omega) (by decide) ?_
            first | refine j_iincN (lv' := [(4, _), (7, _), (6, _), (5, _), (0, _), (1, _), (2, _), (3, _)]) (q := 81) C dX1_run_78 rfl rfl (by decide) rfl ?_ | refine j_iinc (lv' := [(4, _), (7, _), (6, _), (5, _), (0, _), (1, _), (2, _), (3, _)]) (q := 81) C dX1_run_78 rfl rfl rfl (by decide) rfl ?_
            refine j_goto (tgt := 154) C dX1_run_81 (by decide) ?_
            first | refine j_iincN (lv' := [(6, _), (4, _), (7, _), (5, _), (0, _), (1, _), (2, _), (3, _)]) (q := 157) C dX1_run_154 rfl rfl (by decide) rfl ?_ | refine j_iinc (lv' := [(6, _), (4, _), (7, _), (5, _), (0, _), (1, _), (2, _), (3, _)]) (q := 157) C dX1_run_154 rfl rfl rfl (by decide) rfl ?_
            refine j_goto (tgt := 17) C dX1_run_157 (by decide) ?_
            exact j_fewer (lv' := [(6, .int (nI (i + 1))), (4, .int (nI (h + 1))), (5, .int (nI en)), (0, .ref ca), (1, .int (nI kd)), (2, .ref an), (3, .ref wa)]) (by simp) (ih (i + 1) _ _ Q (by omega) w3 (sAt_t hc) (by omega) (by rw [eq]; show eRun _ _ (eTok nm 1000008 (P, h)) = _; rfl) eV)
          · refine j_iload (q := 19) C dX1_run_17 rfl rfl ?_
            refine j_iload (q := 21) C dX1_run_19 rfl rfl ?_
            refine j_icmp_ge (q := 24) (tgt := 160) C dX1_run_21 rfl (by decide) (fun c_21 => absurd c_21 (fun h => absurd ((nI_leI (by omega) (by omega)).mp h) (by omega))) (fun c_21 => ?_)
            refine j_iload (q := 26) C dX1_run_24 rfl rfl ?_
            refine j_aload_n (q := 27) C dX1_run_26 rfl rfl rfl ?_
            refine jg_Code_steps (q := 30) C dX1_run_27 rfl hca kw_583 hsa ?_
            refine j_alen (q := 31) C dX1_run_30 rfl hss (by decide) (t0 := 1) rfl ?_
            refine j_icmp_ge (q := 34) (tgt := 160) C dX1_run_31 rfl (by decide) (fun c_31 => absurd c_31 (fun h => absurd ((nI_leI (by omega) (by omega)).mp h) (by omega))) (fun c_31 => ?_)
            refine j_aload_n (q := 35) C dX1_run_34 rfl rfl rfl ?_
            refine jg_Code_steps (q := 38) C dX1_run_35 rfl hca kw_583 hsa ?_
            refine j_iload (q := 40) C dX1_run_38 rfl rfl ?_
            refine j_iald (q := 41) C dX1_run_40 rfl hss (by omega) (by omega) ?_
            refine j_top (v' := .int (sEnc 1000014)) (congrArg Value.int (sAt_h hc)) ?_
            refine j_istore (lv' := [(7, _), (6, _), (4, _), (5, _), (0, _), (1, _), (2, _), (3, _)]) (q := 43) C dX1_run_41 rfl (by decide) rfl ?_
            refine j_iload (q := 45) C dX1_run_43 rfl rfl ?_
            refine j_bipush (v := (-7)) (q := 47) C dX1_run_45 rfl (by decide) ?_
            refine j_icmp_lt (q := 50) (tgt := 84) C dX1_run_47 rfl (by decide) (fun c_47 => absurd c_47 (by decide)) (fun c_47 => ?_)
            refine j_iload (q := 52) C dX1_run_50 rfl rfl ?_
            refine j_aload_n (q := 53) C dX1_run_52 rfl rfl rfl ?_
            refine j_alen (q := 54) C dX1_run_53 rfl hsw (by decide) (t0 := 2) rfl ?_
            refine j_icmp_ge (q := 57) (tgt := 84) C dX1_run_54 rfl (by decide) (fun c_54 => absurd c_54 (fun h => absurd ((nI_leI (by omega) (by omega)).mp h) (by omega))) (fun c_54 => ?_)
            refine j_aload_n (q := 58) C dX1_run_57 rfl rfl rfl ?_
            refine j_iload (q := 60) C dX1_run_58 rfl rfl ?_
            refine j_iload (q := 62) C dX1_run_60 rfl rfl ?_
            refine j_if_lt (q := 65) (tgt := 71) C dX1_run_62 rfl (by decide) (fun c_62 => ?_) (fun c_62 => absurd (by decide : sEnc 1000014 < 0) c_62)
            refine j_aload_n (q := 72) C dX1_run_71 rfl rfl rfl ?_
            refine j_iconst (v := (-1)) (q := 73) C dX1_run_72 rfl (by decide) ?_
            refine j_iload (q := 75) C dX1_run_73 rfl rfl ?_
            refine j_isub (q := 76) C dX1_run_75 rfl ?_
            refine j_top (v' := .int (nI 3)) (by decide) ?_
            refine j_lald (q := 77) C dX1_run_76 rfl hsn (by omega) (by decide) ?_
            refine j_top (v' := .long (nm (1000014 - 1000000))) (by rw [jw_ne _ _ hne]; exact congrArg Value.long hA.2.2.2.1) ?_
            refine j_lastW (q := 78) C dX1_run_77 rfl hsw (by omega) (by decide) ?_
            first | refine j_iincN (lv' := [(4, _), (7, _), (6, _), (5, _), (0, _), (1, _), (2, _), (3, _)]) (q := 81) C dX1_run_78 rfl rfl (by decide) rfl ?_ | refine j_iinc (lv' := [(4, _), (7, _), (6, _), (5, _), (0, _), (1, _), (2, _), (3, _)]) (q := 81) C dX1_run_78 rfl rfl rfl (by decide) rfl ?_
            refine j_goto (tgt := 154) C dX1_run_81 (by decide) ?_
            first | refine j_iincN (lv' := [(6, _), (4, _), (7, _), (5, _), (0, _), (1, _), (2, _), (3, _)]) (q := 157) C dX1_run_154 rfl rfl (by decide) rfl ?_ | refine j_iinc (lv' := [(6, _), (4, _), (7, _), (5, _), (0, _), (1, _), (2, _), (3, _)]) (q := 157) C dX1_run_154 rfl rfl rfl (by decide) rfl ?_
            refine j_goto (tgt := 17) C dX1_run_157 (by decide) ?_
            exact j_fewer (lv' := [(6, .int (nI (i + 1))), (4, .int (nI (h + 1))), (5, .int (nI en)), (0, .ref ca), (1, .int (nI kd)), (2, .ref an), (3, .ref wa)]) (by simp) (ih (i + 1) _ _ Q (by omega) w3 (sAt_t hc) (by omega) (by rw [eq]; show eRun _ _ (eTok nm 1000014 (P, h)) = _; rfl) eV)
          · refine j_iload (q := 19) C dX1_run_17 rfl rfl ?_
            refine j_iload (q := 21) C dX1_run_19 rfl rfl ?_
            refine j_icmp_ge (q := 24) (tgt := 160) C dX1_run_21 rfl (by decide) (fun c_21 => absurd c_21 (fun h => absurd ((nI_leI (by omega) (by omega)).mp h) (by omega))) (fun c_21 => ?_)
            refine j_iload (q := 26) C dX1_run_24 rfl rfl ?_
            refine j_aload_n (q := 27) C dX1_run_26 rfl rfl rfl ?_
            refine jg_Code_steps (q := 30) C dX1_run_27 rfl hca kw_583 hsa ?_
            refine j_alen (q := 31) C dX1_run_30 rfl hss (by decide) (t0 := 1) rfl ?_
            refine j_icmp_ge (q := 34) (tgt := 160) C dX1_run_31 rfl (by decide) (fun c_31 => absurd c_31 (fun h => absurd ((nI_leI (by omega) (by omega)).mp h) (by omega))) (fun c_31 => ?_)
            refine j_aload_n (q := 35) C dX1_run_34 rfl rfl rfl ?_
            refine jg_Code_steps (q := 38) C dX1_run_35 rfl hca kw_583 hsa ?_
            refine j_iload (q := 40) C dX1_run_38 rfl rfl ?_
            refine j_iald (q := 41) C dX1_run_40 rfl hss (by omega) (by omega) ?_
            refine j_top (v' := .int (sEnc 1000020)) (congrArg Value.int (sAt_h hc)) ?_
            refine j_istore (lv' := [(7, _), (6, _), (4, _), (5, _), (0, _), (1, _), (2, _), (3, _)]) (q := 43) C dX1_run_41 rfl (by decide) rfl ?_
            refine j_iload (q := 45) C dX1_run_43 rfl rfl ?_
            refine j_bipush (v := (-7)) (q := 47) C dX1_run_45 rfl (by decide) ?_
            refine j_icmp_lt (q := 50) (tgt := 84) C dX1_run_47 rfl (by decide) (fun c_47 => absurd c_47 (by decide)) (fun c_47 => ?_)
            refine j_iload (q := 52) C dX1_run_50 rfl rfl ?_
            refine j_aload_n (q := 53) C dX1_run_52 rfl rfl rfl ?_
            refine j_alen (q := 54) C dX1_run_53 rfl hsw (by decide) (t0 := 2) rfl ?_
            refine j_icmp_ge (q := 57) (tgt := 84) C dX1_run_54 rfl (by decide) (fun c_54 => absurd c_54 (fun h => absurd ((nI_leI (by omega) (by omega)).mp h) (by omega))) (fun c_54 => ?_)
            refine j_aload_n (q := 58) C dX1_run_57 rfl rfl rfl ?_
            refine j_iload (q := 60) C dX1_run_58 rfl rfl ?_
            refine j_iload (q := 62) C dX1_run_60 rfl rfl ?_
            refine j_if_lt (q := 65) (tgt := 71) C dX1_run_62 rfl (by decide) (fun c_62 => ?_) (fun c_62 => absurd (by decide : sEnc 1000020 < 0) c_62)
            refine j_aload_n (q := 72) C dX1_run_71 rfl rfl rfl ?_
            refine j_iconst (v := (-1)) (q := 73) C dX1_run_72 rfl (by decide) ?_
            refine j_iload (q := 75) C dX1_run_73 rfl rfl ?_
            refine j_isub (q := 76) C dX1_run_75 rfl ?_
            refine j_top (v' := .int (nI 4)) (by decide) ?_
            refine j_lald (q := 77) C dX1_run_76 rfl hsn (by omega) (by decide) ?_
            refine j_top (v' := .long (nm (1000020 - 1000000))) (by rw [jw_ne _ _ hne]; exact congrArg Value.long hA.2.2.2.2.1) ?_
            refine j_lastW (q := 78) C dX1_run_77 rfl hsw (by omega) (by decide) ?_
            first | refine j_iincN (lv' := [(4, _), (7, _), (6, _), (5, _), (0, _), (1, _), (2, _), (3, _)]) (q := 81) C dX1_run_78 rfl rfl (by decide) rfl ?_ | refine j_iinc (lv' := [(4, _), (7, _), (6, _), (5, _), (0, _), (1, _), (2, _), (3, _)]) (q := 81) C dX1_run_78 rfl rfl rfl (by decide) rfl ?_
            refine j_goto (tgt := 154) C dX1_run_81 (by decide) ?_
            first | refine j_iincN (lv' := [(6, _), (4, _), (7, _), (5, _), (0, _), (1, _), (2, _), (3, _)]) (q := 157) C dX1_run_154 rfl rfl (by decide) rfl ?_ | refine j_iinc (lv' := [(6, _), (4, _), (7, _), (5, _), (0, _), (1, _), (2, _), (3, _)]) (q := 157) C dX1_run_154 rfl rfl rfl (by decide) rfl ?_
            refine j_goto (tgt := 17) C dX1_run_157 (by decide) ?_
            exact j_fewer (lv' := [(6, .int (nI (i + 1))), (4, .int (nI (h + 1))), (5, .int (nI en)), (0, .ref ca), (1, .int (nI kd)), (2, .ref an), (3, .ref wa)]) (by simp) (ih (i + 1) _ _ Q (by omega) w3 (sAt_t hc) (by omega) (by rw [eq]; show eRun _ _ (eTok nm 1000020 (P, h)) = _; rfl) eV)
          · refine j_iload (q := 19) C dX1_run_17 rfl rfl ?_
            refine j_iload (q := 21) C dX1_run_19 rfl rfl ?_
            refine j_icmp_ge (q := 24) (tgt := 160) C dX1_run_21 rfl (by decide) (fun c_21 => absurd c_21 (fun h => absurd ((nI_leI (by omega) (by omega)).mp h) (by omega))) (fun c_21 => ?_)
            refine j_iload (q := 26) C dX1_run_24 rfl rfl ?_
            refine j_aload_n (q := 27) C dX1_run_26 rfl rfl rfl ?_
            refine jg_Code_steps (q := 30) C dX1_run_27 rfl hca kw_583 hsa ?_
            refine j_alen (q := 31) C dX1_run_30 rfl hss (by decide) (t0 := 1) rfl ?_
            refine j_icmp_ge (q := 34) (tgt := 160) C dX1_run_31 rfl (by decide) (fun c_31 => absurd c_31 (fun h => absurd ((nI_leI (by omega) (by omega)).mp h) (by omega))) (fun c_31 => ?_)
            refine j_aload_n (q := 35) C dX1_run_34 rfl rfl rfl ?_
            refine jg_Code_steps (q := 38) C dX1_run_35 rfl hca kw_583 hsa ?_
            refine j_iload (q := 40) C dX1_run_38 rfl rfl ?_
            refine j_iald (q := 41) C dX1_run_40 rfl hss (by omega) (by omega) ?_
            refine j_top (v' := .int (sEnc 1000025)) (congrArg Value.int (sAt_h hc)) ?_
            refine j_istore (lv' := [(7, _), (6, _), (4, _), (5, _), (0, _), (1, _), (2, _), (3, _)]) (q := 43) C dX1_run_41 rfl (by decide) rfl ?_
            refine j_iload (q := 45) C dX1_run_43 rfl rfl ?_
            refine j_bipush (v := (-7)) (q := 47) C dX1_run_45 rfl (by decide) ?_
            refine j_icmp_lt (q := 50) (tgt := 84) C dX1_run_47 rfl (by decide) (fun c_47 => absurd c_47 (by decide)) (fun c_47 => ?_)
            refine j_iload (q := 52) C dX1_run_50 rfl rfl ?_
            refine j_aload_n (q := 53) C dX1_run_52 rfl rfl rfl ?_
            refine j_alen (q := 54) C dX1_run_53 rfl hsw (by decide) (t0 := 2) rfl ?_
            refine j_icmp_ge (q := 57) (tgt := 84) C dX1_run_54 rfl (by decide) (fun c_54 => absurd c_54 (fun h => absurd ((nI_leI (by omega) (by omega)).mp h) (by omega))) (fun c_54 => ?_)
            refine j_aload_n (q := 58) C dX1_run_57 rfl rfl rfl ?_
            refine j_iload (q := 60) C dX1_run_58 rfl rfl ?_
            refine j_iload (q := 62) C dX1_run_60 rfl rfl ?_
            refine j_if_lt (q := 65) (tgt := 71) C dX1_run_62 rfl (by decide) (fun c_62 => ?_) (fun c_62 => absurd (by decide : sEnc 1000025 < 0) c_62)
            refine j_aload_n (q := 72) C dX1_run_71 rfl rfl rfl ?_
            refine j_iconst (v := (-1)) (q := 73) C dX1_run_72 rfl (by decide) ?_
            refine j_iload (q := 75) C dX1_run_73 rfl rfl ?_
            refine j_isub (q := 76) C dX1_run_75 rfl ?_
            refine j_top (v' := .int (nI 5)) (by decide) ?_
            refine j_lald (q := 77) C dX1_run_76 rfl hsn (by omega) (by decide) ?_
            refine j_top (v' := .long (nm (1000025 - 1000000))) (by rw [jw_ne _ _ hne]; exact congrArg Value.long hA.2.2.2.2.2.1) ?_
            refine j_lastW (q := 78) C dX1_run_77 rfl hsw (by omega) (by decide) ?_
            first | refine j_iincN (lv' := [(4, _), (7, _), (6, _), (5, _), (0, _), (1, _), (2, _), (3, _)]) (q := 81) C dX1_run_78 rfl rfl (by decide) rfl ?_ | refine j_iinc (lv' := [(4, _), (7, _), (6, _), (5, _), (0, _), (1, _), (2, _), (3, _)]) (q := 81) C dX1_run_78 rfl rfl rfl (by decide) rfl ?_
            refine j_goto (tgt := 154) C dX1_run_81 (by decide) ?_
            first | refine j_iincN (lv' := [(6, _), (4, _), (7, _), (5, _), (0, _), (1, _), (2, _), (3, _)]) (q := 157) C dX1_run_154 rfl rfl (by decide) rfl ?_ | refine j_iinc (lv' := [(6, _), (4, _), (7, _), (5, _), (0, _), (1, _), (2, _), (3, _)]) (q := 157) C dX1_run_154 rfl rfl rfl (by decide) rfl ?_
            refine j_goto (tgt := 17) C dX1_run_157 (by decide) ?_
            exact j_fewer (lv' := [(6, .int (nI (i + 1))), (4, .int (nI (h + 1))), (5, .int (nI en)), (0, .ref ca), (1, .int (nI kd)), (2, .ref an), (3, .ref wa)]) (by simp) (ih (i + 1) _ _ Q (by omega) w3 (sAt_t hc) (by omega) (by rw [eq]; show eRun _ _ (eTok nm 1000025 (P, h)) = _; rfl) eV)
          · refine j_iload (q := 19) C dX1_run_17 rfl rfl ?_
            refine j_iload (q := 21) C dX1_run_19 rfl rfl ?_
            refine j_icmp_ge (q := 24) (tgt := 160) C dX1_run_21 rfl (by decide) (fun c_21 => absurd c_21 (fun h => absurd ((nI_leI (by omega) (by omega)).mp h) (by omega))) (fun c_21 => ?_)
            refine j_iload (q := 26) C dX1_run_24 rfl rfl ?_
            refine j_aload_n (q := 27) C dX1_run_26 rfl rfl rfl ?_
            refine jg_Code_steps (q := 30) C dX1_run_27 rfl hca kw_583 hsa ?_
            refine j_alen (q := 31) C dX1_run_30 rfl hss (by decide) (t0 := 1) rfl ?_
            refine j_icmp_ge (q := 34) (tgt := 160) C dX1_run_31 rfl (by decide) (fun c_31 => absurd c_31 (fun h => absurd ((nI_leI (by omega) (by omega)).mp h) (by omega))) (fun c_31 => ?_)
            refine j_aload_n (q := 35) C dX1_run_34 rfl rfl rfl ?_
            refine jg_Code_steps (q := 38) C dX1_run_35 rfl hca kw_583 hsa ?_
            refine j_iload (q := 40) C dX1_run_38 rfl rfl ?_
            refine j_iald (q := 41) C dX1_run_40 rfl hss (by omega) (by omega) ?_
            refine j_top (v' := .int (sEnc 1000030)) (congrArg Value.int (sAt_h hc)) ?_
            refine j_istore (lv' := [(7, _), (6, _), (4, _), (5, _), (0, _), (1, _), (2, _), (3, _)]) (q := 43) C dX1_run_41 rfl (by decide) rfl ?_
            refine j_iload (q := 45) C dX1_run_43 rfl rfl ?_
            refine j_bipush (v := (-7)) (q := 47) C dX1_run_45 rfl (by decide) ?_
            refine j_icmp_lt (q := 50) (tgt := 84) C dX1_run_47 rfl (by decide) (fun c_47 => absurd c_47 (by decide)) (fun c_47 => ?_)
            refine j_iload (q := 52) C dX1_run_50 rfl rfl ?_
            refine j_aload_n (q := 53) C dX1_run_52 rfl rfl rfl ?_
            refine j_alen (q := 54) C dX1_run_53 rfl hsw (by decide) (t0 := 2) rfl ?_
            refine j_icmp_ge (q := 57) (tgt := 84) C dX1_run_54 rfl (by decide) (fun c_54 => absurd c_54 (fun h => absurd ((nI_leI (by omega) (by omega)).mp h) (by omega))) (fun c_54 => ?_)
            refine j_aload_n (q := 58) C dX1_run_57 rfl rfl rfl ?_
            refine j_iload (q := 60) C dX1_run_58 rfl rfl ?_
            refine j_iload (q := 62) C dX1_run_60 rfl rfl ?_
            refine j_if_lt (q := 65) (tgt := 71) C dX1_run_62 rfl (by decide) (fun c_62 => ?_) (fun c_62 => absurd (by decide : sEnc 1000030 < 0) c_62)
            refine j_aload_n (q := 72) C dX1_run_71 rfl rfl rfl ?_
            refine j_iconst (v := (-1)) (q := 73) C dX1_run_72 rfl (by decide) ?_
            refine j_iload (q := 75) C dX1_run_73 rfl rfl ?_
            refine j_isub (q := 76) C dX1_run_75 rfl ?_
            refine j_top (v' := .int (nI 6)) (by decide) ?_
            refine j_lald (q := 77) C dX1_run_76 rfl hsn (by omega) (by decide) ?_
            refine j_top (v' := .long (nm (1000030 - 1000000))) (by rw [jw_ne _ _ hne]; exact congrArg Value.long hA.2.2.2.2.2.2) ?_
            refine j_lastW (q := 78) C dX1_run_77 rfl hsw (by omega) (by decide) ?_
            first | refine j_iincN (lv' := [(4, _), (7, _), (6, _), (5, _), (0, _), (1, _), (2, _), (3, _)]) (q := 81) C dX1_run_78 rfl rfl (by decide) rfl ?_ | refine j_iinc (lv' := [(4, _), (7, _), (6, _), (5, _), (0, _), (1, _), (2, _), (3, _)]) (q := 81) C dX1_run_78 rfl rfl rfl (by decide) rfl ?_
            refine j_goto (tgt := 154) C dX1_run_81 (by decide) ?_
            first | refine j_iincN (lv' := [(6, _), (4, _), (7, _), (5, _), (0, _), (1, _), (2, _), (3, _)]) (q := 157) C dX1_run_154 rfl rfl (by decide) rfl ?_ | refine j_iinc (lv' := [(6, _), (4, _), (7, _), (5, _), (0, _), (1, _), (2, _), (3, _)]) (q := 157) C dX1_run_154 rfl rfl rfl (by decide) rfl ?_
            refine j_goto (tgt := 17) C dX1_run_157 (by decide) ?_
            exact j_fewer (lv' := [(6, .int (nI (i + 1))), (4, .int (nI (h + 1))), (5, .int (nI en)), (0, .ref ca), (1, .int (nI kd)), (2, .ref an), (3, .ref wa)]) (by simp) (ih (i + 1) _ _ Q (by omega) w3 (sAt_t hc) (by omega) (by rw [eq]; show eRun _ _ (eTok nm 1000030 (P, h)) = _; rfl) eV)
      · subst w1
        refine j_iload (q := 19) C dX1_run_17 rfl rfl ?_
        refine j_iload (q := 21) C dX1_run_19 rfl rfl ?_
        refine j_icmp_ge (q := 24) (tgt := 160) C dX1_run_21 rfl (by decide) (fun c_21 => absurd c_21 (fun h => absurd ((nI_leI (by omega) (by omega)).mp h) (by omega))) (fun c_21 => ?_)
        refine j_iload (q := 26) C dX1_run_24 rfl rfl ?_
        refine j_aload_n (q := 27) C dX1_run_26 rfl rfl rfl ?_
        refine jg_Code_steps (q := 30) C dX1_run_27 rfl hca kw_583 hsa ?_
        refine j_alen (q := 31) C dX1_run_30 rfl hss (by decide) (t0 := 1) rfl ?_
        refine j_icmp_ge (q := 34) (tgt := 160) C dX1_run_31 rfl (by decide) (fun c_31 => absurd c_31 (fun h => absurd ((nI_leI (by omega) (by omega)).mp h) (by omega))) (fun c_31 => ?_)
        refine j_aload_n (q := 35) C dX1_run_34 rfl rfl rfl ?_
        refine jg_Code_steps (q := 38) C dX1_run_35 rfl hca kw_583 hsa ?_
        refine j_iload (q := 40) C dX1_run_38 rfl rfl ?_
        refine j_iald (q := 41) C dX1_run_40 rfl hss (by omega) (by omega) ?_
        refine j_top (v' := .int (sEnc 2000008)) (congrArg Value.int (sAt_h hc)) ?_
        refine j_istore (lv' := [(7, _), (6, _), (4, _), (5, _), (0, _), (1, _), (2, _), (3, _)]) (q := 43) C dX1_run_41 rfl (by decide) rfl ?_
        refine j_iload (q := 45) C dX1_run_43 rfl rfl ?_
        refine j_bipush (v := (-7)) (q := 47) C dX1_run_45 rfl (by decide) ?_
        refine j_icmp_lt (q := 50) (tgt := 84) C dX1_run_47 rfl (by decide) (fun c_47 => ?_) (fun c_47 => absurd (by decide : sEnc 2000008 < -7) c_47)
        refine j_iload (q := 86) C dX1_run_84 rfl rfl ?_
        refine j_bipush (v := (-13)) (q := 88) C dX1_run_86 rfl (by decide) ?_
        refine j_icmp_ne (q := 91) (tgt := 122) C dX1_run_88 rfl (by decide) (fun c_88 => absurd (by decide : sEnc 2000008 = -13) c_88) (fun c_88 => ?_)
        refine j_iload (q := 93) C dX1_run_91 rfl rfl ?_
        refine j_iconst (v := nI 1) (q := 94) C dX1_run_93 rfl (by decide) ?_
        refine j_icmp_lt (q := 97) (tgt := 122) C dX1_run_94 rfl (by decide) (fun c_94 => absurd c_94 (nI_nlt (by omega) (by omega))) (fun c_94 => ?_)
        refine j_aload_n (q := 98) C dX1_run_97 rfl rfl rfl ?_
        refine j_iload (q := 100) C dX1_run_98 rfl rfl ?_
        refine j_iconst (v := nI 1) (q := 101) C dX1_run_100 rfl (by decide) ?_
        refine j_isub (q := 102) C dX1_run_101 rfl ?_
        refine j_top (v' := .int (nI (h - 1))) (by rw [pk_sub (by omega)]) ?_
        refine j_aload_n (q := 103) C dX1_run_102 rfl rfl rfl ?_
        refine j_iload (q := 105) C dX1_run_103 rfl rfl ?_
        refine j_iconst (v := nI 1) (q := 106) C dX1_run_105 rfl (by decide) ?_
        refine j_isub (q := 107) C dX1_run_106 rfl ?_
        refine j_top (v' := .int (nI (h - 1))) (by rw [pk_sub (by omega)]) ?_
        refine j_laldW (q := 108) C dX1_run_107 rfl hsw (by omega) (by decide) ?_
        refine j_lconst (v := 0) (q := 109) C dX1_run_108 rfl (by decide) ?_
        refine j_lcmp_ne (q1 := 110) (q := 113) (tgt := 117) C dX1_run_109 dX1_run_110 rfl rfl (by decide) (fun c_110 => ?_) (fun c_110 => ?_)
        · refine j_lconst (v := 0) (q := 118) C dX1_run_117 rfl (by decide) ?_
          refine j_lastW (q := 119) C dX1_run_118 rfl hsw (by omega) (by decide) ?_
          refine j_goto (tgt := 154) C dX1_run_119 (by decide) ?_
          first | refine j_iincN (lv' := [(6, _), (7, _), (4, _), (5, _), (0, _), (1, _), (2, _), (3, _)]) (q := 157) C dX1_run_154 rfl rfl (by decide) rfl ?_ | refine j_iinc (lv' := [(6, _), (7, _), (4, _), (5, _), (0, _), (1, _), (2, _), (3, _)]) (q := 157) C dX1_run_154 rfl rfl rfl (by decide) rfl ?_
          refine j_goto (tgt := 17) C dX1_run_157 (by decide) ?_
          exact j_fewer (lv' := [(6, .int (nI (i + 1))), (4, .int (nI h)), (5, .int (nI en)), (0, .ref ca), (1, .int (nI kd)), (2, .ref an), (3, .ref wa)]) (by simp) (ih (i + 1) _ _ Q (by omega) w3 (sAt_t hc) (by omega) (by rw [eq]; show eRun _ _ (eTok nm 2000008 (P, h)) = _; rw [eTok, if_neg (by decide), if_pos rfl, if_neg c_110]) eV)
        · refine j_lconst (v := 1) (q := 114) C dX1_run_113 rfl (by decide) ?_
          refine j_goto (tgt := 118) C dX1_run_114 (by decide) ?_
          refine j_lastW (q := 119) C dX1_run_118 rfl hsw (by omega) (by decide) ?_
          refine j_goto (tgt := 154) C dX1_run_119 (by decide) ?_
          first | refine j_iincN (lv' := [(6, _), (7, _), (4, _), (5, _), (0, _), (1, _), (2, _), (3, _)]) (q := 157) C dX1_run_154 rfl rfl (by decide) rfl ?_ | refine j_iinc (lv' := [(6, _), (7, _), (4, _), (5, _), (0, _), (1, _), (2, _), (3, _)]) (q := 157) C dX1_run_154 rfl rfl rfl (by decide) rfl ?_
          refine j_goto (tgt := 17) C dX1_run_157 (by decide) ?_
          exact j_fewer (lv' := [(6, .int (nI (i + 1))), (4, .int (nI h)), (5, .int (nI en)), (0, .ref ca), (1, .int (nI kd)), (2, .ref an), (3, .ref wa)]) (by simp) (ih (i + 1) _ _ Q (by omega) w3 (sAt_t hc) (by omega) (by rw [eq]; show eRun _ _ (eTok nm 2000008 (P, h)) = _; rw [eTok, if_neg (by decide), if_pos rfl, if_pos c_110]) eV)
      · refine j_iload (q := 19) C dX1_run_17 rfl rfl ?_
        refine j_iload (q := 21) C dX1_run_19 rfl rfl ?_
        refine j_icmp_ge (q := 24) (tgt := 160) C dX1_run_21 rfl (by decide) (fun c_21 => absurd c_21 (fun h => absurd ((nI_leI (by omega) (by omega)).mp h) (by omega))) (fun c_21 => ?_)
        refine j_iload (q := 26) C dX1_run_24 rfl rfl ?_
        refine j_aload_n (q := 27) C dX1_run_26 rfl rfl rfl ?_
        refine jg_Code_steps (q := 30) C dX1_run_27 rfl hca kw_583 hsa ?_
        refine j_alen (q := 31) C dX1_run_30 rfl hss (by decide) (t0 := 1) rfl ?_
        refine j_icmp_ge (q := 34) (tgt := 160) C dX1_run_31 rfl (by decide) (fun c_31 => absurd c_31 (fun h => absurd ((nI_leI (by omega) (by omega)).mp h) (by omega))) (fun c_31 => ?_)
        refine j_aload_n (q := 35) C dX1_run_34 rfl rfl rfl ?_
        refine jg_Code_steps (q := 38) C dX1_run_35 rfl hca kw_583 hsa ?_
        refine j_iload (q := 40) C dX1_run_38 rfl rfl ?_
        refine j_iald (q := 41) C dX1_run_40 rfl hss (by omega) (by omega) ?_
        refine j_top (v' := .int (sEnc c)) (congrArg Value.int (sAt_h hc)) ?_
        refine j_istore (lv' := [(7, _), (6, _), (4, _), (5, _), (0, _), (1, _), (2, _), (3, _)]) (q := 43) C dX1_run_41 rfl (by decide) rfl ?_
        refine j_iload (q := 45) C dX1_run_43 rfl rfl ?_
        refine j_bipush (v := (-7)) (q := 47) C dX1_run_45 rfl (by decide) ?_
        refine j_icmp_lt (q := 50) (tgt := 84) C dX1_run_47 rfl (by decide) (fun c_47 => ?_) (fun c_47 => absurd (sEnc_bin w1 w2).1 c_47)
        refine j_iload (q := 86) C dX1_run_84 rfl rfl ?_
        refine j_bipush (v := (-13)) (q := 88) C dX1_run_86 rfl (by decide) ?_
        refine j_icmp_ne (q := 91) (tgt := 122) C dX1_run_88 rfl (by decide) (fun c_88 => ?_) (fun c_88 => absurd c_88 (sEnc_bin w1 w2).2)
        refine j_iload (q := 124) C dX1_run_122 rfl rfl ?_
        refine j_iconst (v := nI 2) (q := 125) C dX1_run_124 rfl (by decide) ?_
        refine j_icmp_lt (q := 128) (tgt := 154) C dX1_run_125 rfl (by decide) (fun c_125 => absurd c_125 (nI_nlt (by omega) (by omega))) (fun c_125 => ?_)
        refine j_aload_n (q := 129) C dX1_run_128 rfl rfl rfl ?_
        refine j_iload (q := 131) C dX1_run_129 rfl rfl ?_
        refine j_iconst (v := nI 2) (q := 132) C dX1_run_131 rfl (by decide) ?_
        refine j_isub (q := 133) C dX1_run_132 rfl ?_
        refine j_top (v' := .int (nI (h - 2))) (by rw [pk_sub (by omega)]) ?_
        refine j_iload (q := 135) C dX1_run_133 rfl rfl ?_
        refine j_aload_n (q := 136) C dX1_run_135 rfl rfl rfl ?_
        refine j_iload (q := 138) C dX1_run_136 rfl rfl ?_
        refine j_iconst (v := nI 2) (q := 139) C dX1_run_138 rfl (by decide) ?_
        refine j_isub (q := 140) C dX1_run_139 rfl ?_
        refine j_top (v' := .int (nI (h - 2))) (by rw [pk_sub (by omega)]) ?_
        refine j_laldW (q := 141) C dX1_run_140 rfl hsw (by omega) (by decide) ?_
        refine j_aload_n (q := 142) C dX1_run_141 rfl rfl rfl ?_
        refine j_iload (q := 144) C dX1_run_142 rfl rfl ?_
        refine j_iconst (v := nI 1) (q := 145) C dX1_run_144 rfl (by decide) ?_
        refine j_isub (q := 146) C dX1_run_145 rfl ?_
        refine j_top (v' := .int (nI (h - 1))) (by rw [pk_sub (by omega)]) ?_
        refine j_laldW (q := 147) C dX1_run_146 rfl hsw (by omega) (by decide) ?_
        refine jS1 (q := 150) C dX1_run_147 rfl mX1_join kw_407 kw_408 (ctX1_join w1 w2) rfl rfl (by decide) (Nat.le_of_ble_eq_true rfl) (by decide) ?_
        refine j_lastW (q := 151) C dX1_run_150 rfl hsw (by omega) (by decide) ?_
        refine j_iinc (lv' := [(4, _), (7, _), (6, _), (5, _), (0, _), (1, _), (2, _), (3, _)]) (q := 154) C dX1_run_151 rfl rfl rfl (by decide) rfl ?_
        first | refine j_iincN (lv' := [(6, _), (4, _), (7, _), (5, _), (0, _), (1, _), (2, _), (3, _)]) (q := 157) C dX1_run_154 rfl rfl (by decide) rfl ?_ | refine j_iinc (lv' := [(6, _), (4, _), (7, _), (5, _), (0, _), (1, _), (2, _), (3, _)]) (q := 157) C dX1_run_154 rfl rfl rfl (by decide) rfl ?_
        refine j_goto (tgt := 17) C dX1_run_157 (by decide) ?_
        exact j_fewer (lv' := [(6, .int (nI (i + 1))), (4, .int (nI (h - 1))), (5, .int (nI en)), (0, .ref ca), (1, .int (nI kd)), (2, .ref an), (3, .ref wa)]) (by simp [show nI h + -1 = nI (h - 1) from sb_m1 (by omega)]) (ih (i + 1) _ _ Q (by omega) w4 (sAt_t hc) (by omega) (by rw [eq]; show eRun _ _ (eTok nm c (P, h)) = _; rw [eTok, if_neg (by omega), if_neg (by omega)]) eV)
  refine j_fewer (lv' := [(6, .int (nI (if kd = 1 then 0 else if kd = 3 then t.1.length else t.1.length + t.2.1.length))), (4, .int (nI 0)), (5, .int (nI en)), (0, .ref ca), (1, .int (nI kd)), (2, .ref an), (3, .ref wa)]) (by simp) ?_
  rcases hk with rfl | rfl | rfl
  · exact evl t.1 0 0 _ _ (by omega) h1 (sAt_l hst) (by rw [een]; simp) rfl (by rw [eV]; exact eVal_of _ h1)
  · exact evl t.2.1 t.1.length 0 _ _ (by omega) h2 (by have := sAt_l (sAt_r hst); rw [Nat.zero_add] at this; exact this) (by rw [een]; simp) rfl (by rw [eV]; exact eVal_of _ h2)
  · exact evl t.2.2 (t.1.length + t.2.1.length) 0 _ _ (by omega) h3 (by have := sAt_r (sAt_r hst); rw [Nat.zero_add] at this; exact this) (by rw [een]; simp) rfl (by rw [eV]; exact eVal_of _ h3)

