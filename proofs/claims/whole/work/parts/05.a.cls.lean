/-- a Person as begin() and take() leave it -/
def cBegin (M : jM) (a : Nat) (m : Int64) (l b : Int32) : jM := (fun c j => if c = a then (if j = 5 then nI 0 else if j = 4 then nI 1000 else if j = 3 then nI 5 else if j = 2 then b else if j = 1 then l else M.1 c j) else M.1 c j, fun c j => if c = a then (if j = 9 then 0 else if j = 8 then 0 else if j = 7 then 0 else if j = 6 then 0 else if j = 0 then m else M.2.1 c j) else M.2.1 c j, M.2.2)
def cTakeP (M : jM) (a b : Nat) : jM := (fun c j => if c = a then (if j = 5 then M.1 b 5 else if j = 4 then M.1 b 4 else if j = 3 then M.1 b 3 else if j = 2 then M.1 b 2 else if j = 1 then M.1 b 1 else M.1 c j) else M.1 c j, fun c j => if c = a then (if j = 9 then M.2.1 b 9 else if j = 8 then M.2.1 b 8 else if j = 7 then M.2.1 b 7 else if j = 6 then M.2.1 b 6 else if j = 0 then M.2.1 b 0 else M.2.1 c j) else M.2.1 c j, M.2.2)
def cTakeQ (M : jM) (a b : Nat) : jM := (fun c j => if c = a then (if j = 6 then M.1 b 6 else if j = 5 then M.1 b 5 else if j = 4 then M.1 b 4 else if j = 2 then M.1 b 2 else if j = 1 then M.1 b 1 else if j = 0 then M.1 b 0 else M.1 c j) else M.1 c j, fun c j => if c = a then (if j = 3 then M.2.1 b 3 else M.2.1 c j) else M.2.1 c j, M.2.2)
def cEat (M : jM) (a : Nat) : jM := if M.1 a 1 ≤ 0 then jsI M a 5 (M.1 a 5 + nI 1) else jsI M a 1 (M.1 a 1 - nI 1)
set_option maxRecDepth 100000 in
set_option maxHeartbeats 400000 in
theorem ctX6_begin {G : jG} {sz : Nat} {Sh : jS} {M : jM} {a : Nat} (ha : (Sh a).1 = 6) {m : Int64} {l b : Int32} : jC G yX6_begin cX6_begin 5 (Option.none : Option FieldType) (jrm 1 0 0) sz Sh M [.ref a, .long m, .int l, .int b] (jR none sz Sh (cBegin M a m l b)) := by
  refine jC_start (by decide +kernel) (Nat.le_of_ble_eq_true rfl) (fun X C E hN0 => ?_)
  refine j_aload_n (q := 1) C dX6_begin_0 rfl rfl rfl ?_
  refine j_lload_n (q := 2) C dX6_begin_1 rfl rfl rfl ?_
  refine jp_Person_marks (q := 5) C dX6_begin_2 rfl (by assumption) kw_142 ?_
  refine j_aload_n (q := 6) C dX6_begin_5 rfl rfl rfl ?_
  refine j_iload_n (q := 7) C dX6_begin_6 rfl rfl rfl ?_
  refine jp_Person_loaves (q := 10) C dX6_begin_7 rfl (by assumption) kw_146 ?_
  refine j_aload_n (q := 11) C dX6_begin_10 rfl rfl rfl ?_
  refine j_iload (q := 13) C dX6_begin_11 rfl rfl ?_
  refine jp_Person_bakes (q := 16) C dX6_begin_13 rfl (by assumption) kw_149 ?_
  refine j_aload_n (q := 17) C dX6_begin_16 rfl rfl rfl ?_
  refine j_iconst (v := nI 5) (q := 18) C dX6_begin_17 rfl (by decide) ?_
  refine jp_Person_spend (q := 21) C dX6_begin_18 rfl (by assumption) kw_150 ?_
  refine j_aload_n (q := 22) C dX6_begin_21 rfl rfl rfl ?_
  refine j_sipush (v := nI 1000) (q := 25) C dX6_begin_22 rfl (by decide) ?_
  refine jp_Person_keep (q := 28) C dX6_begin_25 rfl (by assumption) kw_152 ?_
  refine j_aload_n (q := 29) C dX6_begin_28 rfl rfl rfl ?_
  refine j_iconst (v := nI 0) (q := 30) C dX6_begin_29 rfl (by decide) ?_
  refine jp_Person_hungered (q := 33) C dX6_begin_30 rfl (by assumption) kw_154 ?_
  refine j_aload_n (q := 34) C dX6_begin_33 rfl rfl rfl ?_
  refine j_lconst (v := 0) (q := 35) C dX6_begin_34 rfl (by decide) ?_
  refine jp_Person_sold (q := 38) C dX6_begin_35 rfl (by assumption) kw_156 ?_
  refine j_aload_n (q := 39) C dX6_begin_38 rfl rfl rfl ?_
  refine j_lconst (v := 0) (q := 40) C dX6_begin_39 rfl (by decide) ?_
  refine jp_Person_bought (q := 43) C dX6_begin_40 rfl (by assumption) kw_158 ?_
  refine j_aload_n (q := 44) C dX6_begin_43 rfl rfl rfl ?_
  refine j_lconst (v := 0) (q := 45) C dX6_begin_44 rfl (by decide) ?_
  refine jp_Person_gained (q := 48) C dX6_begin_45 rfl (by assumption) kw_160 ?_
  refine j_aload_n (q := 49) C dX6_begin_48 rfl rfl rfl ?_
  refine j_lconst (v := 0) (q := 50) C dX6_begin_49 rfl (by decide) ?_
  refine jp_Person_lost (q := 53) C dX6_begin_50 rfl (by assumption) kw_163 ?_
  exact j_vret C E dX6_begin_53 rfl rfl (jR_e rfl (by
    simp only [jsI, jsL, cBegin, Prod.mk.injEq, and_true]
    constructor <;> funext c j <;> by_cases hc : c = a <;> simp [jup, hc]))

set_option maxRecDepth 100000 in
set_option maxHeartbeats 400000 in
theorem ctX6_take {G : jG} {sz : Nat} {Sh : jS} {M : jM} {a b : Nat} (ha : (Sh a).1 = 6) (hb : (Sh b).1 = 6) (hab : b ≠ a) : jC G yX6_take cX6_take 2 (Option.none : Option FieldType) (jrm 1 0 0) sz Sh M [.ref a, .ref b] (jR none sz Sh (cTakeP M a b)) := by
  refine jC_start (by decide +kernel) (Nat.le_of_ble_eq_true rfl) (fun X C E hN0 => ?_)
  refine j_aload_n (q := 1) C dX6_take_0 rfl rfl rfl ?_
  refine j_aload_n (q := 2) C dX6_take_1 rfl rfl rfl ?_
  refine jg_Person_marks (q := 5) C dX6_take_2 rfl (by assumption) kw_142 ?_
  refine jp_Person_marks (q := 8) C dX6_take_5 rfl (by assumption) kw_142 ?_
  refine j_aload_n (q := 9) C dX6_take_8 rfl rfl rfl ?_
  refine j_aload_n (q := 10) C dX6_take_9 rfl rfl rfl ?_
  refine jg_Person_loaves (q := 13) C dX6_take_10 rfl (by assumption) kw_146 ?_
  refine jp_Person_loaves (q := 16) C dX6_take_13 rfl (by assumption) kw_146 ?_
  refine j_aload_n (q := 17) C dX6_take_16 rfl rfl rfl ?_
  refine j_aload_n (q := 18) C dX6_take_17 rfl rfl rfl ?_
  refine jg_Person_bakes (q := 21) C dX6_take_18 rfl (by assumption) kw_149 ?_
  refine jp_Person_bakes (q := 24) C dX6_take_21 rfl (by assumption) kw_149 ?_
  refine j_aload_n (q := 25) C dX6_take_24 rfl rfl rfl ?_
  refine j_aload_n (q := 26) C dX6_take_25 rfl rfl rfl ?_
  refine jg_Person_spend (q := 29) C dX6_take_26 rfl (by assumption) kw_150 ?_
  refine jp_Person_spend (q := 32) C dX6_take_29 rfl (by assumption) kw_150 ?_
  refine j_aload_n (q := 33) C dX6_take_32 rfl rfl rfl ?_
  refine j_aload_n (q := 34) C dX6_take_33 rfl rfl rfl ?_
  refine jg_Person_keep (q := 37) C dX6_take_34 rfl (by assumption) kw_152 ?_
  refine jp_Person_keep (q := 40) C dX6_take_37 rfl (by assumption) kw_152 ?_
  refine j_aload_n (q := 41) C dX6_take_40 rfl rfl rfl ?_
  refine j_aload_n (q := 42) C dX6_take_41 rfl rfl rfl ?_
  refine jg_Person_hungered (q := 45) C dX6_take_42 rfl (by assumption) kw_154 ?_
  refine jp_Person_hungered (q := 48) C dX6_take_45 rfl (by assumption) kw_154 ?_
  refine j_aload_n (q := 49) C dX6_take_48 rfl rfl rfl ?_
  refine j_aload_n (q := 50) C dX6_take_49 rfl rfl rfl ?_
  refine jg_Person_sold (q := 53) C dX6_take_50 rfl (by assumption) kw_156 ?_
  refine jp_Person_sold (q := 56) C dX6_take_53 rfl (by assumption) kw_156 ?_
  refine j_aload_n (q := 57) C dX6_take_56 rfl rfl rfl ?_
  refine j_aload_n (q := 58) C dX6_take_57 rfl rfl rfl ?_
  refine jg_Person_bought (q := 61) C dX6_take_58 rfl (by assumption) kw_158 ?_
  refine jp_Person_bought (q := 64) C dX6_take_61 rfl (by assumption) kw_158 ?_
  refine j_aload_n (q := 65) C dX6_take_64 rfl rfl rfl ?_
  refine j_aload_n (q := 66) C dX6_take_65 rfl rfl rfl ?_
  refine jg_Person_gained (q := 69) C dX6_take_66 rfl (by assumption) kw_160 ?_
  refine jp_Person_gained (q := 72) C dX6_take_69 rfl (by assumption) kw_160 ?_
  refine j_aload_n (q := 73) C dX6_take_72 rfl rfl rfl ?_
  refine j_aload_n (q := 74) C dX6_take_73 rfl rfl rfl ?_
  refine jg_Person_lost (q := 77) C dX6_take_74 rfl (by assumption) kw_163 ?_
  refine jp_Person_lost (q := 80) C dX6_take_77 rfl (by assumption) kw_163 ?_
  exact j_vret C E dX6_take_80 rfl rfl (jR_e rfl (by
    simp only [jsI, jsL, cTakeP, Prod.mk.injEq, and_true]
    constructor <;> funext c j <;> by_cases hc : c = a <;> simp [jup, hc, hab]))

set_option maxRecDepth 100000 in
set_option maxHeartbeats 400000 in
theorem ctX5_take {G : jG} {sz : Nat} {Sh : jS} {M : jM} {a b : Nat} (ha : (Sh a).1 = 5) (hb : (Sh b).1 = 5) (hab : b ≠ a) : jC G yX5_take cX5_take 2 (Option.none : Option FieldType) (jrm 1 0 0) sz Sh M [.ref a, .ref b] (jR none sz Sh (cTakeQ M a b)) := by
  refine jC_start (by decide +kernel) (Nat.le_of_ble_eq_true rfl) (fun X C E hN0 => ?_)
  refine j_aload_n (q := 1) C dX5_take_0 rfl rfl rfl ?_
  refine j_aload_n (q := 2) C dX5_take_1 rfl rfl rfl ?_
  refine jg_Paper_kind (q := 5) C dX5_take_2 rfl (by assumption) kw_171 ?_
  refine jp_Paper_kind (q := 8) C dX5_take_5 rfl (by assumption) kw_171 ?_
  refine j_aload_n (q := 9) C dX5_take_8 rfl rfl rfl ?_
  refine j_aload_n (q := 10) C dX5_take_9 rfl rfl rfl ?_
  refine jg_Paper_by (q := 13) C dX5_take_10 rfl (by assumption) kw_174 ?_
  refine jp_Paper_by (q := 16) C dX5_take_13 rfl (by assumption) kw_174 ?_
  refine j_aload_n (q := 17) C dX5_take_16 rfl rfl rfl ?_
  refine j_aload_n (q := 18) C dX5_take_17 rfl rfl rfl ?_
  refine jg_Paper_to (q := 21) C dX5_take_18 rfl (by assumption) kw_177 ?_
  refine jp_Paper_to (q := 24) C dX5_take_21 rfl (by assumption) kw_177 ?_
  refine j_aload_n (q := 25) C dX5_take_24 rfl rfl rfl ?_
  refine j_aload_n (q := 26) C dX5_take_25 rfl rfl rfl ?_
  refine jg_Paper_sum (q := 29) C dX5_take_26 rfl (by assumption) kw_180 ?_
  refine jp_Paper_sum (q := 32) C dX5_take_29 rfl (by assumption) kw_180 ?_
  refine j_aload_n (q := 33) C dX5_take_32 rfl rfl rfl ?_
  refine j_aload_n (q := 34) C dX5_take_33 rfl rfl rfl ?_
  refine jg_Paper_since (q := 37) C dX5_take_34 rfl (by assumption) kw_183 ?_
  refine jp_Paper_since (q := 40) C dX5_take_37 rfl (by assumption) kw_183 ?_
  refine j_aload_n (q := 41) C dX5_take_40 rfl rfl rfl ?_
  refine j_aload_n (q := 42) C dX5_take_41 rfl rfl rfl ?_
  refine jg_Paper_due (q := 45) C dX5_take_42 rfl (by assumption) kw_186 ?_
  refine jp_Paper_due (q := 48) C dX5_take_45 rfl (by assumption) kw_186 ?_
  refine j_aload_n (q := 49) C dX5_take_48 rfl rfl rfl ?_
  refine j_aload_n (q := 50) C dX5_take_49 rfl rfl rfl ?_
  refine jg_Paper_state (q := 53) C dX5_take_50 rfl (by assumption) kw_188 ?_
  refine jp_Paper_state (q := 56) C dX5_take_53 rfl (by assumption) kw_188 ?_
  exact j_vret C E dX5_take_56 rfl rfl (jR_e rfl (by
    simp only [jsI, jsL, cTakeQ, Prod.mk.injEq, and_true]
    constructor <;> funext c j <;> by_cases hc : c = a <;> simp [jup, hc, hab]))

set_option maxRecDepth 100000 in
set_option maxHeartbeats 400000 in
theorem ctX6_changeHabit_0 {G : jG} {sz : Nat} {Sh : jS} {M : jM} {a : Nat} (ha : (Sh a).1 = 6) {v : Int32} : jC G yX6_changeHabit cX6_changeHabit 4 (Option.some FieldType.int) (jrm 1 0 0) sz Sh M [.ref a, .int (nI 0), .int v] (jR (some (.int (M.1 a 3))) sz Sh (jsI M a 3 v)) := by
  refine jC_start (by decide +kernel) (Nat.le_of_ble_eq_true rfl) (fun X C E hN0 => ?_)
  refine j_iload_n (q := 1) C dX6_changeHabit_0 rfl rfl rfl ?_
  refine j_if_ne (q := 4) (tgt := 17) C dX6_changeHabit_1 rfl (by decide) (fun c_1 => absurd (by decide : nI 0 = 0) c_1) (fun c_1 => ?_)
  refine j_aload_n (q := 5) C dX6_changeHabit_4 rfl rfl rfl ?_
  refine jg_Person_spend (q := 8) C dX6_changeHabit_5 rfl (by assumption) kw_150 ?_
  refine j_istore_n (lv' := [(3, _), (0, _), (1, _), (2, _)]) (q := 9) C dX6_changeHabit_8 rfl rfl (by decide) rfl ?_
  refine j_aload_n (q := 10) C dX6_changeHabit_9 rfl rfl rfl ?_
  refine j_iload_n (q := 11) C dX6_changeHabit_10 rfl rfl rfl ?_
  refine jp_Person_spend (q := 14) C dX6_changeHabit_11 rfl (by assumption) kw_150 ?_
  refine j_goto (tgt := 45) C dX6_changeHabit_14 (by decide) ?_
  refine j_iload_n (q := 46) C dX6_changeHabit_45 rfl rfl rfl ?_
  exact j_iret C E dX6_changeHabit_46 rfl rfl (jR_i)

set_option maxRecDepth 100000 in
set_option maxHeartbeats 400000 in
theorem ctX6_changeHabit_1 {G : jG} {sz : Nat} {Sh : jS} {M : jM} {a : Nat} (ha : (Sh a).1 = 6) {v : Int32} : jC G yX6_changeHabit cX6_changeHabit 4 (Option.some FieldType.int) (jrm 1 0 0) sz Sh M [.ref a, .int (nI 1), .int v] (jR (some (.int (M.1 a 4))) sz Sh (jsI M a 4 v)) := by
  refine jC_start (by decide +kernel) (Nat.le_of_ble_eq_true rfl) (fun X C E hN0 => ?_)
  refine j_iload_n (q := 1) C dX6_changeHabit_0 rfl rfl rfl ?_
  refine j_if_ne (q := 4) (tgt := 17) C dX6_changeHabit_1 rfl (by decide) (fun c_1 => ?_) (fun c_1 => absurd c_1 (by decide))
  refine j_iload_n (q := 18) C dX6_changeHabit_17 rfl rfl rfl ?_
  refine j_iconst (v := nI 1) (q := 19) C dX6_changeHabit_18 rfl (by decide) ?_
  refine j_icmp_ne (q := 22) (tgt := 35) C dX6_changeHabit_19 rfl (by decide) (fun c_19 => absurd rfl c_19) (fun c_19 => ?_)
  refine j_aload_n (q := 23) C dX6_changeHabit_22 rfl rfl rfl ?_
  refine jg_Person_keep (q := 26) C dX6_changeHabit_23 rfl (by assumption) kw_152 ?_
  refine j_istore_n (lv' := [(3, _), (0, _), (1, _), (2, _)]) (q := 27) C dX6_changeHabit_26 rfl rfl (by decide) rfl ?_
  refine j_aload_n (q := 28) C dX6_changeHabit_27 rfl rfl rfl ?_
  refine j_iload_n (q := 29) C dX6_changeHabit_28 rfl rfl rfl ?_
  refine jp_Person_keep (q := 32) C dX6_changeHabit_29 rfl (by assumption) kw_152 ?_
  refine j_goto (tgt := 45) C dX6_changeHabit_32 (by decide) ?_
  refine j_iload_n (q := 46) C dX6_changeHabit_45 rfl rfl rfl ?_
  exact j_iret C E dX6_changeHabit_46 rfl rfl (jR_i)

set_option maxRecDepth 100000 in
set_option maxHeartbeats 400000 in
theorem ctX6_changeHabit_2 {G : jG} {sz : Nat} {Sh : jS} {M : jM} {a : Nat} (ha : (Sh a).1 = 6) {v : Int32} : jC G yX6_changeHabit cX6_changeHabit 4 (Option.some FieldType.int) (jrm 1 0 0) sz Sh M [.ref a, .int (nI 2), .int v] (jR (some (.int (M.1 a 2))) sz Sh (jsI M a 2 v)) := by
  refine jC_start (by decide +kernel) (Nat.le_of_ble_eq_true rfl) (fun X C E hN0 => ?_)
  refine j_iload_n (q := 1) C dX6_changeHabit_0 rfl rfl rfl ?_
  refine j_if_ne (q := 4) (tgt := 17) C dX6_changeHabit_1 rfl (by decide) (fun c_1 => ?_) (fun c_1 => absurd c_1 (by decide))
  refine j_iload_n (q := 18) C dX6_changeHabit_17 rfl rfl rfl ?_
  refine j_iconst (v := nI 1) (q := 19) C dX6_changeHabit_18 rfl (by decide) ?_
  refine j_icmp_ne (q := 22) (tgt := 35) C dX6_changeHabit_19 rfl (by decide) (fun c_19 => ?_) (fun c_19 => absurd c_19 (by decide))
  refine j_aload_n (q := 36) C dX6_changeHabit_35 rfl rfl rfl ?_
  refine jg_Person_bakes (q := 39) C dX6_changeHabit_36 rfl (by assumption) kw_149 ?_
  refine j_istore_n (lv' := [(3, _), (0, _), (1, _), (2, _)]) (q := 40) C dX6_changeHabit_39 rfl rfl (by decide) rfl ?_
  refine j_aload_n (q := 41) C dX6_changeHabit_40 rfl rfl rfl ?_
  refine j_iload_n (q := 42) C dX6_changeHabit_41 rfl rfl rfl ?_
  refine jp_Person_bakes (q := 45) C dX6_changeHabit_42 rfl (by assumption) kw_149 ?_
  refine j_iload_n (q := 46) C dX6_changeHabit_45 rfl rfl rfl ?_
  exact j_iret C E dX6_changeHabit_46 rfl rfl (jR_i)

set_option maxRecDepth 100000 in
set_option maxHeartbeats 400000 in
theorem ctX6_tell_0 {G : jG} {sz : Nat} {Sh : jS} {M : jM} {a : Nat} (ha : (Sh a).1 = 6) : jC G yX6_tell cX6_tell 2 (Option.some FieldType.long) (jrm 1 0 0) sz Sh M [.ref a, .int (nI 0)] (jR (some (.long (M.2.1 a 0))) sz Sh M) := by
  refine jC_start (by decide +kernel) (Nat.le_of_ble_eq_true rfl) (fun X C E hN0 => ?_)
  refine j_iload_n (q := 1) C dX6_tell_0 rfl rfl rfl ?_
  refine j_swIn (tgt := 44) C dX6_tell_1 (by decide) (by decide) rfl (by decide) ?_
  refine j_aload_n (q := 45) C dX6_tell_44 rfl rfl rfl ?_
  refine jg_Person_marks (q := 48) C dX6_tell_45 rfl (by assumption) kw_142 ?_
  exact j_lret C E dX6_tell_48 rfl rfl (jR_i)

set_option maxRecDepth 100000 in
set_option maxHeartbeats 400000 in
theorem ctX6_tell_1 {G : jG} {sz : Nat} {Sh : jS} {M : jM} {a : Nat} (ha : (Sh a).1 = 6) : jC G yX6_tell cX6_tell 2 (Option.some FieldType.long) (jrm 1 0 0) sz Sh M [.ref a, .int (nI 1)] (jR (some (.long (M.1 a 1).toInt64)) sz Sh M) := by
  refine jC_start (by decide +kernel) (Nat.le_of_ble_eq_true rfl) (fun X C E hN0 => ?_)
  refine j_iload_n (q := 1) C dX6_tell_0 rfl rfl rfl ?_
  refine j_swIn (tgt := 49) C dX6_tell_1 (by decide) (by decide) rfl (by decide) ?_
  refine j_aload_n (q := 50) C dX6_tell_49 rfl rfl rfl ?_
  refine jg_Person_loaves (q := 53) C dX6_tell_50 rfl (by assumption) kw_146 ?_
  first | refine j_i2lN (q := 54) C dX6_tell_53 rfl (by omega) ?_ | refine j_i2l (q := 54) C dX6_tell_53 rfl rfl ?_
  exact j_lret C E dX6_tell_54 rfl rfl (jR_i)

set_option maxRecDepth 100000 in
set_option maxHeartbeats 400000 in
theorem ctX6_tell_2 {G : jG} {sz : Nat} {Sh : jS} {M : jM} {a : Nat} (ha : (Sh a).1 = 6) : jC G yX6_tell cX6_tell 2 (Option.some FieldType.long) (jrm 1 0 0) sz Sh M [.ref a, .int (nI 2)] (jR (some (.long (M.1 a 2).toInt64)) sz Sh M) := by
  refine jC_start (by decide +kernel) (Nat.le_of_ble_eq_true rfl) (fun X C E hN0 => ?_)
  refine j_iload_n (q := 1) C dX6_tell_0 rfl rfl rfl ?_
  refine j_swIn (tgt := 55) C dX6_tell_1 (by decide) (by decide) rfl (by decide) ?_
  refine j_aload_n (q := 56) C dX6_tell_55 rfl rfl rfl ?_
  refine jg_Person_bakes (q := 59) C dX6_tell_56 rfl (by assumption) kw_149 ?_
  first | refine j_i2lN (q := 60) C dX6_tell_59 rfl (by omega) ?_ | refine j_i2l (q := 60) C dX6_tell_59 rfl rfl ?_
  exact j_lret C E dX6_tell_60 rfl rfl (jR_i)

set_option maxRecDepth 100000 in
set_option maxHeartbeats 400000 in
theorem ctX6_tell_3 {G : jG} {sz : Nat} {Sh : jS} {M : jM} {a : Nat} (ha : (Sh a).1 = 6) : jC G yX6_tell cX6_tell 2 (Option.some FieldType.long) (jrm 1 0 0) sz Sh M [.ref a, .int (nI 3)] (jR (some (.long (M.1 a 3).toInt64)) sz Sh M) := by
  refine jC_start (by decide +kernel) (Nat.le_of_ble_eq_true rfl) (fun X C E hN0 => ?_)
  refine j_iload_n (q := 1) C dX6_tell_0 rfl rfl rfl ?_
  refine j_swIn (tgt := 61) C dX6_tell_1 (by decide) (by decide) rfl (by decide) ?_
  refine j_aload_n (q := 62) C dX6_tell_61 rfl rfl rfl ?_
  refine jg_Person_spend (q := 65) C dX6_tell_62 rfl (by assumption) kw_150 ?_
  first | refine j_i2lN (q := 66) C dX6_tell_65 rfl (by omega) ?_ | refine j_i2l (q := 66) C dX6_tell_65 rfl rfl ?_
  exact j_lret C E dX6_tell_66 rfl rfl (jR_i)

set_option maxRecDepth 100000 in
set_option maxHeartbeats 400000 in
theorem ctX6_tell_4 {G : jG} {sz : Nat} {Sh : jS} {M : jM} {a : Nat} (ha : (Sh a).1 = 6) : jC G yX6_tell cX6_tell 2 (Option.some FieldType.long) (jrm 1 0 0) sz Sh M [.ref a, .int (nI 4)] (jR (some (.long (M.1 a 4).toInt64)) sz Sh M) := by
  refine jC_start (by decide +kernel) (Nat.le_of_ble_eq_true rfl) (fun X C E hN0 => ?_)
  refine j_iload_n (q := 1) C dX6_tell_0 rfl rfl rfl ?_
  refine j_swIn (tgt := 67) C dX6_tell_1 (by decide) (by decide) rfl (by decide) ?_
  refine j_aload_n (q := 68) C dX6_tell_67 rfl rfl rfl ?_
  refine jg_Person_keep (q := 71) C dX6_tell_68 rfl (by assumption) kw_152 ?_
  first | refine j_i2lN (q := 72) C dX6_tell_71 rfl (by omega) ?_ | refine j_i2l (q := 72) C dX6_tell_71 rfl rfl ?_
  exact j_lret C E dX6_tell_72 rfl rfl (jR_i)

set_option maxRecDepth 100000 in
set_option maxHeartbeats 400000 in
theorem ctX6_tell_5 {G : jG} {sz : Nat} {Sh : jS} {M : jM} {a : Nat} (ha : (Sh a).1 = 6) : jC G yX6_tell cX6_tell 2 (Option.some FieldType.long) (jrm 1 0 0) sz Sh M [.ref a, .int (nI 5)] (jR (some (.long (M.1 a 5).toInt64)) sz Sh M) := by
  refine jC_start (by decide +kernel) (Nat.le_of_ble_eq_true rfl) (fun X C E hN0 => ?_)
  refine j_iload_n (q := 1) C dX6_tell_0 rfl rfl rfl ?_
  refine j_swIn (tgt := 73) C dX6_tell_1 (by decide) (by decide) rfl (by decide) ?_
  refine j_aload_n (q := 74) C dX6_tell_73 rfl rfl rfl ?_
  refine jg_Person_hungered (q := 77) C dX6_tell_74 rfl (by assumption) kw_154 ?_
  first | refine j_i2lN (q := 78) C dX6_tell_77 rfl (by omega) ?_ | refine j_i2l (q := 78) C dX6_tell_77 rfl rfl ?_
  exact j_lret C E dX6_tell_78 rfl rfl (jR_i)

set_option maxRecDepth 100000 in
set_option maxHeartbeats 400000 in
theorem ctX6_tell_6 {G : jG} {sz : Nat} {Sh : jS} {M : jM} {a : Nat} (ha : (Sh a).1 = 6) : jC G yX6_tell cX6_tell 2 (Option.some FieldType.long) (jrm 1 0 0) sz Sh M [.ref a, .int (nI 6)] (jR (some (.long (M.2.1 a 6))) sz Sh M) := by
  refine jC_start (by decide +kernel) (Nat.le_of_ble_eq_true rfl) (fun X C E hN0 => ?_)
  refine j_iload_n (q := 1) C dX6_tell_0 rfl rfl rfl ?_
  refine j_swIn (tgt := 79) C dX6_tell_1 (by decide) (by decide) rfl (by decide) ?_
  refine j_aload_n (q := 80) C dX6_tell_79 rfl rfl rfl ?_
  refine jg_Person_sold (q := 83) C dX6_tell_80 rfl (by assumption) kw_156 ?_
  exact j_lret C E dX6_tell_83 rfl rfl (jR_i)

set_option maxRecDepth 100000 in
set_option maxHeartbeats 400000 in
theorem ctX6_tell_7 {G : jG} {sz : Nat} {Sh : jS} {M : jM} {a : Nat} (ha : (Sh a).1 = 6) : jC G yX6_tell cX6_tell 2 (Option.some FieldType.long) (jrm 1 0 0) sz Sh M [.ref a, .int (nI 7)] (jR (some (.long (M.2.1 a 7))) sz Sh M) := by
  refine jC_start (by decide +kernel) (Nat.le_of_ble_eq_true rfl) (fun X C E hN0 => ?_)
  refine j_iload_n (q := 1) C dX6_tell_0 rfl rfl rfl ?_
  refine j_swOut (tgt := 84) C dX6_tell_1 (by decide) (by decide) ?_
  refine j_aload_n (q := 85) C dX6_tell_84 rfl rfl rfl ?_
  refine jg_Person_bought (q := 88) C dX6_tell_85 rfl (by assumption) kw_158 ?_
  exact j_lret C E dX6_tell_88 rfl rfl (jR_i)

set_option maxRecDepth 100000 in
set_option maxHeartbeats 400000 in
theorem ctX5_tell_0 {G : jG} {sz : Nat} {Sh : jS} {M : jM} {a : Nat} (ha : (Sh a).1 = 5) : jC G yX5_tell cX5_tell 2 (Option.some FieldType.long) (jrm 1 0 0) sz Sh M [.ref a, .int (nI 0)] (jR (some (.long (M.1 a 0).toInt64)) sz Sh M) := by
  refine jC_start (by decide +kernel) (Nat.le_of_ble_eq_true rfl) (fun X C E hN0 => ?_)
  refine j_iload_n (q := 1) C dX5_tell_0 rfl rfl rfl ?_
  refine j_swIn (tgt := 40) C dX5_tell_1 (by decide) (by decide) rfl (by decide) ?_
  refine j_aload_n (q := 41) C dX5_tell_40 rfl rfl rfl ?_
  refine jg_Paper_kind (q := 44) C dX5_tell_41 rfl (by assumption) kw_171 ?_
  first | refine j_i2lN (q := 45) C dX5_tell_44 rfl (by omega) ?_ | refine j_i2l (q := 45) C dX5_tell_44 rfl rfl ?_
  exact j_lret C E dX5_tell_45 rfl rfl (jR_i)

set_option maxRecDepth 100000 in
set_option maxHeartbeats 400000 in
theorem ctX5_tell_1 {G : jG} {sz : Nat} {Sh : jS} {M : jM} {a : Nat} (ha : (Sh a).1 = 5) : jC G yX5_tell cX5_tell 2 (Option.some FieldType.long) (jrm 1 0 0) sz Sh M [.ref a, .int (nI 1)] (jR (some (.long (M.1 a 1).toInt64)) sz Sh M) := by
  refine jC_start (by decide +kernel) (Nat.le_of_ble_eq_true rfl) (fun X C E hN0 => ?_)
  refine j_iload_n (q := 1) C dX5_tell_0 rfl rfl rfl ?_
  refine j_swIn (tgt := 46) C dX5_tell_1 (by decide) (by decide) rfl (by decide) ?_
  refine j_aload_n (q := 47) C dX5_tell_46 rfl rfl rfl ?_
  refine jg_Paper_by (q := 50) C dX5_tell_47 rfl (by assumption) kw_174 ?_
  first | refine j_i2lN (q := 51) C dX5_tell_50 rfl (by omega) ?_ | refine j_i2l (q := 51) C dX5_tell_50 rfl rfl ?_
  exact j_lret C E dX5_tell_51 rfl rfl (jR_i)

set_option maxRecDepth 100000 in
set_option maxHeartbeats 400000 in
theorem ctX5_tell_2 {G : jG} {sz : Nat} {Sh : jS} {M : jM} {a : Nat} (ha : (Sh a).1 = 5) : jC G yX5_tell cX5_tell 2 (Option.some FieldType.long) (jrm 1 0 0) sz Sh M [.ref a, .int (nI 2)] (jR (some (.long (M.1 a 2).toInt64)) sz Sh M) := by
  refine jC_start (by decide +kernel) (Nat.le_of_ble_eq_true rfl) (fun X C E hN0 => ?_)
  refine j_iload_n (q := 1) C dX5_tell_0 rfl rfl rfl ?_
  refine j_swIn (tgt := 52) C dX5_tell_1 (by decide) (by decide) rfl (by decide) ?_
  refine j_aload_n (q := 53) C dX5_tell_52 rfl rfl rfl ?_
  refine jg_Paper_to (q := 56) C dX5_tell_53 rfl (by assumption) kw_177 ?_
  first | refine j_i2lN (q := 57) C dX5_tell_56 rfl (by omega) ?_ | refine j_i2l (q := 57) C dX5_tell_56 rfl rfl ?_
  exact j_lret C E dX5_tell_57 rfl rfl (jR_i)

set_option maxRecDepth 100000 in
set_option maxHeartbeats 400000 in
theorem ctX5_tell_3 {G : jG} {sz : Nat} {Sh : jS} {M : jM} {a : Nat} (ha : (Sh a).1 = 5) : jC G yX5_tell cX5_tell 2 (Option.some FieldType.long) (jrm 1 0 0) sz Sh M [.ref a, .int (nI 3)] (jR (some (.long (M.2.1 a 3))) sz Sh M) := by
  refine jC_start (by decide +kernel) (Nat.le_of_ble_eq_true rfl) (fun X C E hN0 => ?_)
  refine j_iload_n (q := 1) C dX5_tell_0 rfl rfl rfl ?_
  refine j_swIn (tgt := 58) C dX5_tell_1 (by decide) (by decide) rfl (by decide) ?_
  refine j_aload_n (q := 59) C dX5_tell_58 rfl rfl rfl ?_
  refine jg_Paper_sum (q := 62) C dX5_tell_59 rfl (by assumption) kw_180 ?_
  exact j_lret C E dX5_tell_62 rfl rfl (jR_i)

set_option maxRecDepth 100000 in
set_option maxHeartbeats 400000 in
theorem ctX5_tell_4 {G : jG} {sz : Nat} {Sh : jS} {M : jM} {a : Nat} (ha : (Sh a).1 = 5) : jC G yX5_tell cX5_tell 2 (Option.some FieldType.long) (jrm 1 0 0) sz Sh M [.ref a, .int (nI 4)] (jR (some (.long (M.1 a 4).toInt64)) sz Sh M) := by
  refine jC_start (by decide +kernel) (Nat.le_of_ble_eq_true rfl) (fun X C E hN0 => ?_)
  refine j_iload_n (q := 1) C dX5_tell_0 rfl rfl rfl ?_
  refine j_swIn (tgt := 63) C dX5_tell_1 (by decide) (by decide) rfl (by decide) ?_
  refine j_aload_n (q := 64) C dX5_tell_63 rfl rfl rfl ?_
  refine jg_Paper_since (q := 67) C dX5_tell_64 rfl (by assumption) kw_183 ?_
  first | refine j_i2lN (q := 68) C dX5_tell_67 rfl (by omega) ?_ | refine j_i2l (q := 68) C dX5_tell_67 rfl rfl ?_
  exact j_lret C E dX5_tell_68 rfl rfl (jR_i)

set_option maxRecDepth 100000 in
set_option maxHeartbeats 400000 in
theorem ctX5_tell_5 {G : jG} {sz : Nat} {Sh : jS} {M : jM} {a : Nat} (ha : (Sh a).1 = 5) : jC G yX5_tell cX5_tell 2 (Option.some FieldType.long) (jrm 1 0 0) sz Sh M [.ref a, .int (nI 5)] (jR (some (.long (M.1 a 5).toInt64)) sz Sh M) := by
  refine jC_start (by decide +kernel) (Nat.le_of_ble_eq_true rfl) (fun X C E hN0 => ?_)
  refine j_iload_n (q := 1) C dX5_tell_0 rfl rfl rfl ?_
  refine j_swIn (tgt := 69) C dX5_tell_1 (by decide) (by decide) rfl (by decide) ?_
  refine j_aload_n (q := 70) C dX5_tell_69 rfl rfl rfl ?_
  refine jg_Paper_due (q := 73) C dX5_tell_70 rfl (by assumption) kw_186 ?_
  first | refine j_i2lN (q := 74) C dX5_tell_73 rfl (by omega) ?_ | refine j_i2l (q := 74) C dX5_tell_73 rfl rfl ?_
  exact j_lret C E dX5_tell_74 rfl rfl (jR_i)

set_option maxRecDepth 100000 in
set_option maxHeartbeats 400000 in
theorem ctX5_tell_6 {G : jG} {sz : Nat} {Sh : jS} {M : jM} {a : Nat} (ha : (Sh a).1 = 5) : jC G yX5_tell cX5_tell 2 (Option.some FieldType.long) (jrm 1 0 0) sz Sh M [.ref a, .int (nI 6)] (jR (some (.long (M.1 a 6).toInt64)) sz Sh M) := by
  refine jC_start (by decide +kernel) (Nat.le_of_ble_eq_true rfl) (fun X C E hN0 => ?_)
  refine j_iload_n (q := 1) C dX5_tell_0 rfl rfl rfl ?_
  refine j_swOut (tgt := 75) C dX5_tell_1 (by decide) (by decide) ?_
  refine j_aload_n (q := 76) C dX5_tell_75 rfl rfl rfl ?_
  refine jg_Paper_state (q := 79) C dX5_tell_76 rfl (by assumption) kw_188 ?_
  first | refine j_i2lN (q := 80) C dX5_tell_79 rfl (by omega) ?_ | refine j_i2l (q := 80) C dX5_tell_79 rfl rfl ?_
  exact j_lret C E dX5_tell_80 rfl rfl (jR_i)

set_option maxRecDepth 100000 in
set_option maxHeartbeats 400000 in
theorem ctX6_bakeLoaves {G : jG} {sz : Nat} {Sh : jS} {M : jM} {a : Nat} (ha : (Sh a).1 = 6) : jC G yX6_bakeLoaves cX6_bakeLoaves 1 (Option.none : Option FieldType) (jrm 2 0 0) sz Sh M [.ref a] (jR none sz Sh (jsI M a 1 (imn (nI 9999) (M.1 a 1 + M.1 a 2)))) := by
  refine jC_start (by decide +kernel) (Nat.le_of_ble_eq_true rfl) (fun X C E hN0 => ?_)
  refine j_aload_n (q := 1) C dX6_bakeLoaves_0 rfl rfl rfl ?_
  refine j_sipush (v := nI 9999) (q := 4) C dX6_bakeLoaves_1 rfl (by decide) ?_
  refine j_aload_n (q := 5) C dX6_bakeLoaves_4 rfl rfl rfl ?_
  refine jg_Person_loaves (q := 8) C dX6_bakeLoaves_5 rfl (by assumption) kw_146 ?_
  refine j_aload_n (q := 9) C dX6_bakeLoaves_8 rfl rfl rfl ?_
  refine jg_Person_bakes (q := 12) C dX6_bakeLoaves_9 rfl (by assumption) kw_149 ?_
  first | refine j_iaddN (q := 13) C dX6_bakeLoaves_12 rfl ?_ | refine j_iadd (q := 13) C dX6_bakeLoaves_12 rfl ?_
  refine j_imin (q := 16) C dX6_bakeLoaves_13 rfl kw_617 (by decide) (Nat.le_of_ble_eq_true rfl) (by decide) ?_
  refine jp_Person_loaves (q := 19) C dX6_bakeLoaves_16 rfl (by assumption) kw_146 ?_
  exact j_vret C E dX6_bakeLoaves_19 rfl rfl (jR_i)

set_option maxRecDepth 100000 in
set_option maxHeartbeats 400000 in
theorem ctX6_eatLoaf {G : jG} {sz : Nat} {Sh : jS} {M : jM} {a : Nat} (ha : (Sh a).1 = 6) : jC G yX6_eatLoaf cX6_eatLoaf 1 (Option.none : Option FieldType) (jrm 1 0 0) sz Sh M [.ref a] (jR none sz Sh (cEat M a)) := by
  refine jC_start (by decide +kernel) (Nat.le_of_ble_eq_true rfl) (fun X C E hN0 => ?_)
  refine j_aload_n (q := 1) C dX6_eatLoaf_0 rfl rfl rfl ?_
  refine jg_Person_loaves (q := 4) C dX6_eatLoaf_1 rfl (by assumption) kw_146 ?_
  refine j_if_le (q := 7) (tgt := 20) C dX6_eatLoaf_4 rfl (by decide) (fun c_4 => ?_) (fun c_4 => ?_)
  · refine j_aload_n (q := 21) C dX6_eatLoaf_20 rfl rfl rfl ?_
    refine j_dup (q := 22) C dX6_eatLoaf_21 rfl rfl ?_
    refine jg_Person_hungered (q := 25) C dX6_eatLoaf_22 rfl (by assumption) kw_154 ?_
    refine j_iconst (v := nI 1) (q := 26) C dX6_eatLoaf_25 rfl (by decide) ?_
    first | refine j_iaddN (q := 27) C dX6_eatLoaf_26 rfl ?_ | refine j_iadd (q := 27) C dX6_eatLoaf_26 rfl ?_
    refine jp_Person_hungered (q := 30) C dX6_eatLoaf_27 rfl (by assumption) kw_154 ?_
    exact j_vret C E dX6_eatLoaf_30 rfl rfl (jR_e rfl (if_pos c_4).symm)
  · refine j_aload_n (q := 8) C dX6_eatLoaf_7 rfl rfl rfl ?_
    refine j_dup (q := 9) C dX6_eatLoaf_8 rfl rfl ?_
    refine jg_Person_loaves (q := 12) C dX6_eatLoaf_9 rfl (by assumption) kw_146 ?_
    refine j_iconst (v := nI 1) (q := 13) C dX6_eatLoaf_12 rfl (by decide) ?_
    refine j_isub (q := 14) C dX6_eatLoaf_13 rfl ?_
    refine jp_Person_loaves (q := 17) C dX6_eatLoaf_14 rfl (by assumption) kw_146 ?_
    refine j_goto (tgt := 30) C dX6_eatLoaf_17 (by decide) ?_
    exact j_vret C E dX6_eatLoaf_30 rfl rfl (jR_e rfl (if_neg c_4).symm)

set_option maxRecDepth 100000 in
set_option maxHeartbeats 400000 in
theorem ctX5_isOpen {G : jG} {sz : Nat} {Sh : jS} {M : jM} {a : Nat} (ha : (Sh a).1 = 5) : jC G yX5_isOpen cX5_isOpen 1 (Option.some FieldType.boolean) (jrm 1 0 0) sz Sh M [.ref a] (jR (some (.int (jb (M.1 a 6 = 0)))) sz Sh M) := by
  refine jC_start (by decide +kernel) (Nat.le_of_ble_eq_true rfl) (fun X C E hN0 => ?_)
  refine j_aload_n (q := 1) C dX5_isOpen_0 rfl rfl rfl ?_
  refine jg_Paper_state (q := 4) C dX5_isOpen_1 rfl (by assumption) kw_188 ?_
  refine j_if_ne (q := 7) (tgt := 11) C dX5_isOpen_4 rfl (by decide) (fun c_4 => ?_) (fun c_4 => ?_)
  · refine j_iconst (v := nI 0) (q := 12) C dX5_isOpen_11 rfl (by decide) ?_
    exact j_zret C E dX5_isOpen_12 (by first | rfl | exact jb_nar) rfl rfl (jR_e (congrArg (fun z => some (Value.int z)) (jb_f c_4).symm) rfl)
  · refine j_iconst (v := nI 1) (q := 8) C dX5_isOpen_7 rfl (by decide) ?_
    refine j_goto (tgt := 12) C dX5_isOpen_8 (by decide) ?_
    exact j_zret C E dX5_isOpen_12 (by first | rfl | exact jb_nar) rfl rfl (jR_e (congrArg (fun z => some (Value.int z)) (jb_t c_4).symm) rfl)

set_option maxRecDepth 100000 in
set_option maxHeartbeats 400000 in
theorem ctX5_isPaidAtOnce {G : jG} {sz : Nat} {Sh : jS} {M : jM} {a : Nat} (ha : (Sh a).1 = 5) : jC G yX5_isPaidAtOnce cX5_isPaidAtOnce 1 (Option.some FieldType.boolean) (jrm 1 0 0) sz Sh M [.ref a] (jR (some (.int (jb (M.1 a 0 = nI 1 ∨ M.1 a 0 = nI 2)))) sz Sh M) := by
  refine jC_start (by decide +kernel) (Nat.le_of_ble_eq_true rfl) (fun X C E hN0 => ?_)
  refine j_aload_n (q := 1) C dX5_isPaidAtOnce_0 rfl rfl rfl ?_
  refine jg_Paper_kind (q := 4) C dX5_isPaidAtOnce_1 rfl (by assumption) kw_171 ?_
  refine j_iconst (v := nI 1) (q := 5) C dX5_isPaidAtOnce_4 rfl (by decide) ?_
  refine j_icmp_eq (q := 8) (tgt := 16) C dX5_isPaidAtOnce_5 rfl (by decide) (fun c_5 => ?_) (fun c_5 => ?_)
  · refine j_iconst (v := nI 1) (q := 17) C dX5_isPaidAtOnce_16 rfl (by decide) ?_
    refine j_goto (tgt := 21) C dX5_isPaidAtOnce_17 (by decide) ?_
    exact j_zret C E dX5_isPaidAtOnce_21 (by first | rfl | exact jb_nar) rfl rfl (jR_e (congrArg (fun z => some (Value.int z)) (jb_t (Or.inl c_5)).symm) rfl)
  · refine j_aload_n (q := 9) C dX5_isPaidAtOnce_8 rfl rfl rfl ?_
    refine jg_Paper_kind (q := 12) C dX5_isPaidAtOnce_9 rfl (by assumption) kw_171 ?_
    refine j_iconst (v := nI 2) (q := 13) C dX5_isPaidAtOnce_12 rfl (by decide) ?_
    refine j_icmp_ne (q := 16) (tgt := 20) C dX5_isPaidAtOnce_13 rfl (by decide) (fun c_13 => ?_) (fun c_13 => ?_)
    · refine j_iconst (v := nI 0) (q := 21) C dX5_isPaidAtOnce_20 rfl (by decide) ?_
      exact j_zret C E dX5_isPaidAtOnce_21 (by first | rfl | exact jb_nar) rfl rfl (jR_e (congrArg (fun z => some (Value.int z)) (jb_f (fun h => h.elim c_5 c_13)).symm) rfl)
    · refine j_iconst (v := nI 1) (q := 17) C dX5_isPaidAtOnce_16 rfl (by decide) ?_
      refine j_goto (tgt := 21) C dX5_isPaidAtOnce_17 (by decide) ?_
      exact j_zret C E dX5_isPaidAtOnce_21 (by first | rfl | exact jb_nar) rfl rfl (jR_e (congrArg (fun z => some (Value.int z)) (jb_t (Or.inr c_13)).symm) rfl)

set_option maxRecDepth 100000 in
set_option maxHeartbeats 400000 in
theorem ctX5_endsOn {G : jG} {sz : Nat} {Sh : jS} {M : jM} {a : Nat} (ha : (Sh a).1 = 5) {d : Int32} : jC G yX5_endsOn cX5_endsOn 2 (Option.some FieldType.boolean) (jrm 1 0 0) sz Sh M [.ref a, .int d] (jR (some (.int (jb ((M.1 a 0 = nI 3 ∨ M.1 a 0 = nI 4) ∧ M.1 a 5 = d)))) sz Sh M) := by
  refine jC_start (by decide +kernel) (Nat.le_of_ble_eq_true rfl) (fun X C E hN0 => ?_)
  refine j_aload_n (q := 1) C dX5_endsOn_0 rfl rfl rfl ?_
  refine jg_Paper_kind (q := 4) C dX5_endsOn_1 rfl (by assumption) kw_171 ?_
  refine j_iconst (v := nI 3) (q := 5) C dX5_endsOn_4 rfl (by decide) ?_
  refine j_icmp_eq (q := 8) (tgt := 16) C dX5_endsOn_5 rfl (by decide) (fun c_5 => ?_) (fun c_5 => ?_)
  · refine j_aload_n (q := 17) C dX5_endsOn_16 rfl rfl rfl ?_
    refine jg_Paper_due (q := 20) C dX5_endsOn_17 rfl (by assumption) kw_186 ?_
    refine j_iload_n (q := 21) C dX5_endsOn_20 rfl rfl rfl ?_
    refine j_icmp_ne (q := 24) (tgt := 28) C dX5_endsOn_21 rfl (by decide) (fun c_21 => ?_) (fun c_21 => ?_)
    · refine j_iconst (v := nI 0) (q := 29) C dX5_endsOn_28 rfl (by decide) ?_
      exact j_zret C E dX5_endsOn_29 (by first | rfl | exact jb_nar) rfl rfl (jR_e (congrArg (fun z => some (Value.int z)) (jb_f (fun h => c_21 h.2)).symm) rfl)
    · refine j_iconst (v := nI 1) (q := 25) C dX5_endsOn_24 rfl (by decide) ?_
      refine j_goto (tgt := 29) C dX5_endsOn_25 (by decide) ?_
      exact j_zret C E dX5_endsOn_29 (by first | rfl | exact jb_nar) rfl rfl (jR_e (congrArg (fun z => some (Value.int z)) (jb_t ⟨Or.inl c_5, c_21⟩).symm) rfl)
  · refine j_aload_n (q := 9) C dX5_endsOn_8 rfl rfl rfl ?_
    refine jg_Paper_kind (q := 12) C dX5_endsOn_9 rfl (by assumption) kw_171 ?_
    refine j_iconst (v := nI 4) (q := 13) C dX5_endsOn_12 rfl (by decide) ?_
    refine j_icmp_ne (q := 16) (tgt := 28) C dX5_endsOn_13 rfl (by decide) (fun c_13 => ?_) (fun c_13 => ?_)
    · refine j_iconst (v := nI 0) (q := 29) C dX5_endsOn_28 rfl (by decide) ?_
      exact j_zret C E dX5_endsOn_29 (by first | rfl | exact jb_nar) rfl rfl (jR_e (congrArg (fun z => some (Value.int z)) (jb_f (fun h => h.1.elim c_5 c_13)).symm) rfl)
    · refine j_aload_n (q := 17) C dX5_endsOn_16 rfl rfl rfl ?_
      refine jg_Paper_due (q := 20) C dX5_endsOn_17 rfl (by assumption) kw_186 ?_
      refine j_iload_n (q := 21) C dX5_endsOn_20 rfl rfl rfl ?_
      refine j_icmp_ne (q := 24) (tgt := 28) C dX5_endsOn_21 rfl (by decide) (fun c_21 => ?_) (fun c_21 => ?_)
      · refine j_iconst (v := nI 0) (q := 29) C dX5_endsOn_28 rfl (by decide) ?_
        exact j_zret C E dX5_endsOn_29 (by first | rfl | exact jb_nar) rfl rfl (jR_e (congrArg (fun z => some (Value.int z)) (jb_f (fun h => c_21 h.2)).symm) rfl)
      · refine j_iconst (v := nI 1) (q := 25) C dX5_endsOn_24 rfl (by decide) ?_
        refine j_goto (tgt := 29) C dX5_endsOn_25 (by decide) ?_
        exact j_zret C E dX5_endsOn_29 (by first | rfl | exact jb_nar) rfl rfl (jR_e (congrArg (fun z => some (Value.int z)) (jb_t ⟨Or.inr c_13, c_21⟩).symm) rfl)

set_option maxRecDepth 100000 in
set_option maxHeartbeats 400000 in
theorem ctX5_isPayDay {G : jG} {sz : Nat} {Sh : jS} {M : jM} {a d : Nat} (ha : (Sh a).1 = 5) (hd : d < 2 ^ 31) : jC G yX5_isPayDay cX5_isPayDay 2 (Option.some FieldType.boolean) (jrm 2 0 0) sz Sh M [.ref a, .int (nI d)] (jR (some (.int (jb ((M.1 a 0 = nI 3 ∧ d % 10 = 0) ∨ (¬ M.1 a 0 = nI 3 ∧ (M.1 a 0 = nI 1 ∨ M.1 a 0 = nI 2) ∧ M.1 a 5 ≤ nI d))))) sz Sh M) := by
  refine jC_start (by decide +kernel) (Nat.le_of_ble_eq_true rfl) (fun X C E hN0 => ?_)
  refine j_aload_n (q := 1) C dX5_isPayDay_0 rfl rfl rfl ?_
  refine jg_Paper_kind (q := 4) C dX5_isPayDay_1 rfl (by assumption) kw_171 ?_
  refine j_iconst (v := nI 3) (q := 5) C dX5_isPayDay_4 rfl (by decide) ?_
  refine j_icmp_ne (q := 8) (tgt := 21) C dX5_isPayDay_5 rfl (by decide) (fun c_5 => ?_) (fun c_5 => ?_)
  · refine j_aload_n (q := 22) C dX5_isPayDay_21 rfl rfl rfl ?_
    refine jV1 jc5 (q := 25) C dX5_isPayDay_22 rfl (by assumption) mX5_isPaidAtOnce kw_657 kw_436 kw_437 (ctX5_isPaidAtOnce ha) rfl rfl (by decide) (Nat.le_of_ble_eq_true rfl) (by decide) ?_
    refine j_if_eq (q := 28) (tgt := 40) C dX5_isPayDay_25 rfl (by decide) (fun c_25 => ?_) (fun c_25 => ?_)
    · refine j_iconst (v := nI 0) (q := 41) C dX5_isPayDay_40 rfl (by decide) ?_
      exact j_zret C E dX5_isPayDay_41 (by first | rfl | exact jb_nar) rfl rfl (jR_e (congrArg (fun z => some (Value.int z)) (jb_f (fun h => h.elim (fun h => c_5 h.1) (fun h => jb_0.mp c_25 h.2.1))).symm) rfl)
    · refine j_aload_n (q := 29) C dX5_isPayDay_28 rfl rfl rfl ?_
      refine jg_Paper_due (q := 32) C dX5_isPayDay_29 rfl (by assumption) kw_186 ?_
      refine j_iload_n (q := 33) C dX5_isPayDay_32 rfl rfl rfl ?_
      refine j_icmp_gt (q := 36) (tgt := 40) C dX5_isPayDay_33 rfl (by decide) (fun c_33 => ?_) (fun c_33 => ?_)
      · refine j_iconst (v := nI 0) (q := 41) C dX5_isPayDay_40 rfl (by decide) ?_
        exact j_zret C E dX5_isPayDay_41 (by first | rfl | exact jb_nar) rfl rfl (jR_e (congrArg (fun z => some (Value.int z)) (jb_f (fun h => h.elim (fun h => c_5 h.1) (fun h => absurd c_33 (Int32.not_lt.mpr h.2.2)))).symm) rfl)
      · refine j_iconst (v := nI 1) (q := 37) C dX5_isPayDay_36 rfl (by decide) ?_
        refine j_goto (tgt := 41) C dX5_isPayDay_37 (by decide) ?_
        exact j_zret C E dX5_isPayDay_41 (by first | rfl | exact jb_nar) rfl rfl (jR_e (congrArg (fun z => some (Value.int z)) (jb_t (Or.inr ⟨c_5, jb_n.mp c_25, Int32.not_lt.mp c_33⟩)).symm) rfl)
  · refine j_iload_n (q := 9) C dX5_isPayDay_8 rfl rfl rfl ?_
    refine j_bipush (v := nI 10) (q := 11) C dX5_isPayDay_9 rfl (by decide) ?_
    refine j_irem (q := 12) C dX5_isPayDay_11 rfl (by decide) ?_
    refine j_top (v' := .int (nI (d % 10))) (by rw [pk_rem hd (by omega) (by omega)]) ?_
    refine j_if_ne (q := 15) (tgt := 19) C dX5_isPayDay_12 rfl (by decide) (fun c_12 => ?_) (fun c_12 => ?_)
    · refine j_iconst (v := nI 0) (q := 20) C dX5_isPayDay_19 rfl (by decide) ?_
      exact j_zret C E dX5_isPayDay_20 (by first | rfl | exact jb_nar) rfl rfl (jR_e (congrArg (fun z => some (Value.int z)) (jb_f (fun h => h.elim (fun h => c_12 (by rw [h.2]; decide)) (fun h => h.1 c_5))).symm) rfl)
    · refine j_iconst (v := nI 1) (q := 16) C dX5_isPayDay_15 rfl (by decide) ?_
      refine j_goto (tgt := 20) C dX5_isPayDay_16 (by decide) ?_
      exact j_zret C E dX5_isPayDay_20 (by first | rfl | exact jb_nar) rfl rfl (jR_e (congrArg (fun z => some (Value.int z)) (jb_t (Or.inl ⟨c_5, (nI_eq (b := 0) (by omega) (by omega)).mp c_12⟩)).symm) rfl)

