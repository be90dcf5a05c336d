theorem wT_i {S : Nat → Prop} {w q pr lw : Nat} {M M2 : jM} {K : Nat → Int64} {v r : Option Value} {sz : Nat} {Sh : jS} (h1 : r = v) (h2 : vK w q pr lw M2 = K) (h3 : mEq S M M2) : jT sz Sh (wT S w q pr lw M K v) r sz Sh M2 := ⟨rfl, rfl, h1, h2, h3⟩
theorem k32 {x : Int64} {n : Nat} (h : x = lN n) : x.toInt32 = nI n := by rw [h]; exact lN_i n
set_option maxRecDepth 100000 in
set_option maxHeartbeats 400000 in
theorem ctX9_hasPerson {G : jG} {sz : Nat} {Sh : jS} {M : jM} {w q pr lw jg mk : Nat} {K : Nat → Int64} (hW : wLay w q pr lw jg mk Sh M) (hM : vK w q pr lw M = K) {n : Nat} (hn : K 4 = lN n) {x : Int32} : jC G yX9_hasPerson cX9_hasPerson 2 (Option.some FieldType.boolean) (jrm 1 0 0) sz Sh M [.ref w, .int x] (jR (some (.int (jb (¬ x < 0 ∧ x < nI n)))) sz Sh M) := by
  refine jC_start (by decide +kernel) (Nat.le_of_ble_eq_true rfl) (fun X C E hN0 => ?_)
  refine j_iload_n (q := 1) C dX9_hasPerson_0 rfl rfl rfl ?_
  refine j_if_lt (q := 4) (tgt := 16) C dX9_hasPerson_1 rfl (by decide) (fun c_1 => ?_) (fun c_1 => ?_)
  · refine j_iconst (v := nI 0) (q := 17) C dX9_hasPerson_16 rfl (by decide) ?_
    exact j_zret C E dX9_hasPerson_17 (by first | rfl | exact jb_nar) rfl rfl (jR_e (congrArg (fun z => some (Value.int z)) (jb_f (fun h => h.1 c_1)).symm) rfl)
  · refine j_iload_n (q := 5) C dX9_hasPerson_4 rfl rfl rfl ?_
    refine j_aload_n (q := 6) C dX9_hasPerson_5 rfl rfl rfl ?_
    refine wg_World_people hW hM (q' := 9) C dX9_hasPerson_6 rfl kw_204 ?_
    refine j_top (v' := .int (nI n)) (congrArg Value.int (k32 hn)) ?_
    refine j_icmp_ge (q := 12) (tgt := 16) C dX9_hasPerson_9 rfl (by decide) (fun c_9 => ?_) (fun c_9 => ?_)
    · refine j_iconst (v := nI 0) (q := 17) C dX9_hasPerson_16 rfl (by decide) ?_
      exact j_zret C E dX9_hasPerson_17 (by first | rfl | exact jb_nar) rfl rfl (jR_e (congrArg (fun z => some (Value.int z)) (jb_f (fun h => absurd h.2 (Int32.not_lt.mpr c_9))).symm) rfl)
    · refine j_iconst (v := nI 1) (q := 13) C dX9_hasPerson_12 rfl (by decide) ?_
      refine j_goto (tgt := 17) C dX9_hasPerson_13 (by decide) ?_
      exact j_zret C E dX9_hasPerson_17 (by first | rfl | exact jb_nar) rfl rfl (jR_e (congrArg (fun z => some (Value.int z)) (jb_t ⟨c_1, Int32.not_le.mp c_9⟩).symm) rfl)

set_option maxRecDepth 100000 in
set_option maxHeartbeats 400000 in
theorem ctX9_hasPaper {G : jG} {sz : Nat} {Sh : jS} {M : jM} {w q pr lw jg mk : Nat} {K : Nat → Int64} (hW : wLay w q pr lw jg mk Sh M) (hM : vK w q pr lw M = K) {n : Nat} (hn : K 5 = lN n) {x : Int32} : jC G yX9_hasPaper cX9_hasPaper 2 (Option.some FieldType.boolean) (jrm 1 0 0) sz Sh M [.ref w, .int x] (jR (some (.int (jb (¬ x < 0 ∧ x < nI n)))) sz Sh M) := by
  refine jC_start (by decide +kernel) (Nat.le_of_ble_eq_true rfl) (fun X C E hN0 => ?_)
  refine j_iload_n (q := 1) C dX9_hasPaper_0 rfl rfl rfl ?_
  refine j_if_lt (q := 4) (tgt := 16) C dX9_hasPaper_1 rfl (by decide) (fun c_1 => ?_) (fun c_1 => ?_)
  · refine j_iconst (v := nI 0) (q := 17) C dX9_hasPaper_16 rfl (by decide) ?_
    exact j_zret C E dX9_hasPaper_17 (by first | rfl | exact jb_nar) rfl rfl (jR_e (congrArg (fun z => some (Value.int z)) (jb_f (fun h => h.1 c_1)).symm) rfl)
  · refine j_iload_n (q := 5) C dX9_hasPaper_4 rfl rfl rfl ?_
    refine j_aload_n (q := 6) C dX9_hasPaper_5 rfl rfl rfl ?_
    refine wg_World_written hW hM (q' := 9) C dX9_hasPaper_6 rfl kw_207 ?_
    refine j_top (v' := .int (nI n)) (congrArg Value.int (k32 hn)) ?_
    refine j_icmp_ge (q := 12) (tgt := 16) C dX9_hasPaper_9 rfl (by decide) (fun c_9 => ?_) (fun c_9 => ?_)
    · refine j_iconst (v := nI 0) (q := 17) C dX9_hasPaper_16 rfl (by decide) ?_
      exact j_zret C E dX9_hasPaper_17 (by first | rfl | exact jb_nar) rfl rfl (jR_e (congrArg (fun z => some (Value.int z)) (jb_f (fun h => absurd h.2 (Int32.not_lt.mpr c_9))).symm) rfl)
    · refine j_iconst (v := nI 1) (q := 13) C dX9_hasPaper_12 rfl (by decide) ?_
      refine j_goto (tgt := 17) C dX9_hasPaper_13 (by decide) ?_
      exact j_zret C E dX9_hasPaper_17 (by first | rfl | exact jb_nar) rfl rfl (jR_e (congrArg (fun z => some (Value.int z)) (jb_t ⟨c_1, Int32.not_le.mp c_9⟩).symm) rfl)

set_option maxRecDepth 100000 in
set_option maxHeartbeats 400000 in
theorem ctX9_priceOn {G : jG} {sz : Nat} {Sh : jS} {M : jM} {w q pr lw jg mk : Nat} {K : Nat → Int64} (hW : wLay w q pr lw jg mk Sh M) (hM : vK w q pr lw M = K) {k : Nat} (hk : k < 301) (hp : 1 ≤ K (310 + k)) : jC G yX9_priceOn cX9_priceOn 2 (Option.some FieldType.long) (jrm 1 0 0) sz Sh M [.ref w, .int (nI k)] (jR (some (.long (K (310 + k)))) sz Sh M) := by
  refine jC_start (by decide +kernel) (Nat.le_of_ble_eq_true rfl) (fun X C E hN0 => ?_)
  refine j_iload_n (q := 1) C dX9_priceOn_0 rfl rfl rfl ?_
  refine j_if_lt (q := 4) (tgt := 31) C dX9_priceOn_1 rfl (by decide) (fun c_1 => absurd c_1 (nI_pos (by omega))) (fun c_1 => ?_)
  refine j_iload_n (q := 5) C dX9_priceOn_4 rfl rfl rfl ?_
  refine j_sipush (v := nI 300) (q := 8) C dX9_priceOn_5 rfl (by decide) ?_
  refine j_icmp_gt (q := 11) (tgt := 31) C dX9_priceOn_8 rfl (by decide) (fun c_8 => absurd c_8 (nI_nlt (by omega) (by omega))) (fun c_8 => ?_)
  refine j_aload_n (q := 12) C dX9_priceOn_11 rfl rfl rfl ?_
  refine jg_World_prices (q := 15) C dX9_priceOn_12 rfl hW.1.1 kw_200 hW.2.1.2.2.2.1 ?_
  refine j_iload_n (q := 16) C dX9_priceOn_15 rfl rfl rfl ?_
  refine wa_pr hW hM (by omega) (q' := 17) C dX9_priceOn_16 rfl ?_
  refine j_lconst (v := 1) (q := 18) C dX9_priceOn_17 rfl (by decide) ?_
  refine j_lcmp_le (q1 := 19) (q := 22) (tgt := 31) C dX9_priceOn_18 dX9_priceOn_19 rfl rfl (by decide) (fun c_19 => ?_) (fun c_19 => ?_)
  · refine j_lconst (v := 1) (q := 32) C dX9_priceOn_31 rfl (by decide) ?_
    exact j_lret C E dX9_priceOn_32 rfl rfl (jR_e (by rw [Int64.le_antisymm c_19 hp]) rfl)
  · refine j_aload_n (q := 23) C dX9_priceOn_22 rfl rfl rfl ?_
    refine jg_World_prices (q := 26) C dX9_priceOn_23 rfl hW.1.1 kw_200 hW.2.1.2.2.2.1 ?_
    refine j_iload_n (q := 27) C dX9_priceOn_26 rfl rfl rfl ?_
    refine wa_pr hW hM (by omega) (q' := 28) C dX9_priceOn_27 rfl ?_
    refine j_goto (tgt := 32) C dX9_priceOn_28 (by decide) ?_
    exact j_lret C E dX9_priceOn_32 rfl rfl (jR_i)

set_option maxRecDepth 100000 in
set_option maxHeartbeats 400000 in
theorem ctX9_credit {G : jG} {sz : Nat} {Sh : jS} {M : jM} {w q pr lw jg mk : Nat} {K : Nat → Int64} (hW : wLay w q pr lw jg mk Sh M) (hM : vK w q pr lw M = K) {i : Nat} (hi : i < 10) {n : Int64} : jC G yX9_credit cX9_credit 4 (Option.none : Option FieldType) (jrm 1 0 0) sz Sh M [.ref w, .ref (q + 2 + i), .long n] (jT sz Sh (wT (wS0 w q pr) w q pr lw M (nGets K (10 + 10 * i + 0) n) (none))) := by
  refine jC_start (by decide +kernel) (Nat.le_of_ble_eq_true rfl) (fun X C E hN0 => ?_)
  have hE : mEq (wS0 w q pr) M M := mEq.rf
  have hSS : ∀ b, wS0 w q pr b → wS0 w q pr b := fun _ h => h
  refine j_aload_n (q := 1) C dX9_credit_0 rfl rfl rfl ?_
  refine j_dup (q := 2) C dX9_credit_1 rfl rfl ?_
  refine wg_Person_marks (by omega) hW hM (q' := 5) C dX9_credit_2 rfl kw_144 ?_
  refine j_lload_n (q := 6) C dX9_credit_5 rfl rfl rfl ?_
  refine j_ladd (q := 7) C dX9_credit_6 rfl ?_
  refine wp_Person_marks (by omega) hW hM hE hSS (q' := 10) C dX9_credit_7 rfl kw_144 (fun M hM hE hW => ?_)
  refine j_aload_n (q := 11) C dX9_credit_10 rfl rfl rfl ?_
  refine wg_Person_marks (by omega) hW hM (q' := 14) C dX9_credit_11 rfl kw_144 ?_
  refine j_ldc2 (q := 17) C dX9_credit_14 rfl kw_430 ?_
  refine j_lcmp_le (q1 := 18) (q := 21) (tgt := 45) C dX9_credit_17 dX9_credit_18 rfl rfl (by decide) (fun c_18 => ?_) (fun c_18 => ?_)
  · exact j_vret C E dX9_credit_45 rfl rfl (wT_i rfl (hM.trans (if_pos c_18).symm) hE)
  · refine j_aload_n (q := 22) C dX9_credit_21 rfl rfl rfl ?_
    refine j_dup (q := 23) C dX9_credit_22 rfl rfl ?_
    refine wg_World_burnt hW hM (q' := 26) C dX9_credit_23 rfl kw_219 ?_
    refine j_aload_n (q := 27) C dX9_credit_26 rfl rfl rfl ?_
    refine wg_Person_marks (by omega) hW hM (q' := 30) C dX9_credit_27 rfl kw_144 ?_
    refine j_ldc2 (q := 33) C dX9_credit_30 rfl kw_430 ?_
    refine j_lsub (q := 34) C dX9_credit_33 rfl ?_
    refine j_ladd (q := 35) C dX9_credit_34 rfl ?_
    refine wp_World_burnt hW hM hE hSS (q' := 38) C dX9_credit_35 rfl kw_219 (fun M hM hE hW => ?_)
    refine j_aload_n (q := 39) C dX9_credit_38 rfl rfl rfl ?_
    refine j_ldc2 (q := 42) C dX9_credit_39 rfl kw_430 ?_
    refine wp_Person_marks (by omega) hW hM hE hSS (q' := 45) C dX9_credit_42 rfl kw_144 (fun M hM hE hW => ?_)
    exact j_vret C E dX9_credit_45 rfl rfl (wT_i rfl (hM.trans (if_neg c_18).symm) hE)

set_option maxRecDepth 100000 in
set_option maxHeartbeats 400000 in
theorem ctX9_creditState {G : jG} {sz : Nat} {Sh : jS} {M : jM} {w q pr lw jg mk : Nat} {K : Nat → Int64} (hW : wLay w q pr lw jg mk Sh M) (hM : vK w q pr lw M = K) {n : Int64} : jC G yX9_creditState cX9_creditState 3 (Option.none : Option FieldType) (jrm 1 0 0) sz Sh M [.ref w, .long n] (jT sz Sh (wT (wS0 w q pr) w q pr lw M (nGets K 1 n) (none))) := by
  refine jC_start (by decide +kernel) (Nat.le_of_ble_eq_true rfl) (fun X C E hN0 => ?_)
  have hE : mEq (wS0 w q pr) M M := mEq.rf
  have hSS : ∀ b, wS0 w q pr b → wS0 w q pr b := fun _ h => h
  refine j_aload_n (q := 1) C dX9_creditState_0 rfl rfl rfl ?_
  refine j_dup (q := 2) C dX9_creditState_1 rfl rfl ?_
  refine wg_World_state hW hM (q' := 5) C dX9_creditState_2 rfl kw_214 ?_
  refine j_lload_n (q := 6) C dX9_creditState_5 rfl rfl rfl ?_
  refine j_ladd (q := 7) C dX9_creditState_6 rfl ?_
  refine wp_World_state hW hM hE hSS (q' := 10) C dX9_creditState_7 rfl kw_214 (fun M hM hE hW => ?_)
  refine j_aload_n (q := 11) C dX9_creditState_10 rfl rfl rfl ?_
  refine wg_World_state hW hM (q' := 14) C dX9_creditState_11 rfl kw_214 ?_
  refine j_ldc2 (q := 17) C dX9_creditState_14 rfl kw_430 ?_
  refine j_lcmp_le (q1 := 18) (q := 21) (tgt := 45) C dX9_creditState_17 dX9_creditState_18 rfl rfl (by decide) (fun c_18 => ?_) (fun c_18 => ?_)
  · exact j_vret C E dX9_creditState_45 rfl rfl (wT_i rfl (hM.trans (if_pos c_18).symm) hE)
  · refine j_aload_n (q := 22) C dX9_creditState_21 rfl rfl rfl ?_
    refine j_dup (q := 23) C dX9_creditState_22 rfl rfl ?_
    refine wg_World_burnt hW hM (q' := 26) C dX9_creditState_23 rfl kw_219 ?_
    refine j_aload_n (q := 27) C dX9_creditState_26 rfl rfl rfl ?_
    refine wg_World_state hW hM (q' := 30) C dX9_creditState_27 rfl kw_214 ?_
    refine j_ldc2 (q := 33) C dX9_creditState_30 rfl kw_430 ?_
    refine j_lsub (q := 34) C dX9_creditState_33 rfl ?_
    refine j_ladd (q := 35) C dX9_creditState_34 rfl ?_
    refine wp_World_burnt hW hM hE hSS (q' := 38) C dX9_creditState_35 rfl kw_219 (fun M hM hE hW => ?_)
    refine j_aload_n (q := 39) C dX9_creditState_38 rfl rfl rfl ?_
    refine j_ldc2 (q := 42) C dX9_creditState_39 rfl kw_430 ?_
    refine wp_World_state hW hM hE hSS (q' := 45) C dX9_creditState_42 rfl kw_214 (fun M hM hE hW => ?_)
    exact j_vret C E dX9_creditState_45 rfl rfl (wT_i rfl (hM.trans (if_neg c_18).symm) hE)

theorem jbP_t {b pe : Nat} (h : b < pe) (hp : pe ≤ 24) : ¬ jb (¬ nI b < 0 ∧ nI b < nI pe) = 0 := jb_n.mpr ⟨nI_pos (by omega), nI_lt h (by omega)⟩
set_option maxRecDepth 100000 in
set_option maxHeartbeats 400000 in
theorem ctX9_handOver {G : jG} {sz : Nat} {Sh : jS} {M : jM} {w q pr lw jg mk : Nat} {K : Nat → Int64} (hW : wLay w q pr lw jg mk Sh M) (hM : vK w q pr lw M = K) {j b t pe : Nat} (hj : j < 24) (hpe : pe ≤ 10) (h4 : K 4 = lN pe) (hb : K (110 + 7 * j + 1) = lN b) (hb1 : b < pe) (ht : K (110 + 7 * j + 2) = lN t) (ht1 : t < pe) {n : Int64} : jC G yX9_handOver cX9_handOver 4 (Option.none : Option FieldType) (jrm 2 0 0) sz Sh M [.ref w, .ref (q + 12 + j), .long n] (jT sz Sh (wT (wS0 w q pr) w q pr lw M (nPays K j b t n) (none))) := by
  refine jC_start (by decide +kernel) (Nat.le_of_ble_eq_true rfl) (fun X C E hN0 => ?_)
  have hE : mEq (wS0 w q pr) M M := mEq.rf
  have hSS : ∀ b, wS0 w q pr b → wS0 w q pr b := fun _ h => h
  refine j_aload_n (q := 1) C dX9_handOver_0 rfl rfl rfl ?_
  refine j_aload_n (q := 2) C dX9_handOver_1 rfl rfl rfl ?_
  refine wg_Paper_by (by omega) hW hM (q' := 5) C dX9_handOver_2 rfl kw_175 ?_
  refine j_top (v' := .int (nI b)) (congrArg Value.int (k32 hb)) ?_
  refine jV1 jc9 (q := 8) C dX9_handOver_5 rfl hW.1.1 mX9_hasPerson kw_425 kw_301 kw_302 (ctX9_hasPerson hW hM h4) rfl rfl (by decide) (Nat.le_of_ble_eq_true rfl) (by decide) ?_
  refine j_if_eq (q := 11) (tgt := 54) C dX9_handOver_8 rfl (by decide) (fun c_8 => absurd c_8 (jbP_t hb1 (by omega))) (fun c_8 => ?_)
  refine j_aload_n (q := 12) C dX9_handOver_11 rfl rfl rfl ?_
  refine j_aload_n (q := 13) C dX9_handOver_12 rfl rfl rfl ?_
  refine wg_Paper_to (by omega) hW hM (q' := 16) C dX9_handOver_13 rfl kw_178 ?_
  refine j_top (v' := .int (nI t)) (congrArg Value.int (k32 ht)) ?_
  refine jV1 jc9 (q := 19) C dX9_handOver_16 rfl hW.1.1 mX9_hasPerson kw_425 kw_301 kw_302 (ctX9_hasPerson hW hM h4) rfl rfl (by decide) (Nat.le_of_ble_eq_true rfl) (by decide) ?_
  refine j_if_eq (q := 22) (tgt := 54) C dX9_handOver_19 rfl (by decide) (fun c_19 => absurd c_19 (jbP_t ht1 (by omega))) (fun c_19 => ?_)
  refine j_aload_n (q := 23) C dX9_handOver_22 rfl rfl rfl ?_
  refine jg_World_persons (q := 26) C dX9_handOver_23 rfl hW.1.1 kw_191 hW.2.1.1 ?_
  refine j_aload_n (q := 27) C dX9_handOver_26 rfl rfl rfl ?_
  refine wg_Paper_by (by omega) hW hM (q' := 30) C dX9_handOver_27 rfl kw_175 ?_
  refine j_top (v' := .int (nI b)) (congrArg Value.int (k32 hb)) ?_
  refine wa_pers hW (by omega) (q' := 31) C dX9_handOver_30 rfl ?_
  refine j_dup (q := 32) C dX9_handOver_31 rfl rfl ?_
  refine wg_Person_marks (by omega) hW hM (q' := 35) C dX9_handOver_32 rfl kw_144 ?_
  refine j_lload_n (q := 36) C dX9_handOver_35 rfl rfl rfl ?_
  refine j_lsub (q := 37) C dX9_handOver_36 rfl ?_
  refine wp_Person_marks (by omega) hW hM hE hSS (q' := 40) C dX9_handOver_37 rfl kw_144 (fun M hM hE hW => ?_)
  refine j_aload_n (q := 41) C dX9_handOver_40 rfl rfl rfl ?_
  refine j_aload_n (q := 42) C dX9_handOver_41 rfl rfl rfl ?_
  refine jg_World_persons (q := 45) C dX9_handOver_42 rfl hW.1.1 kw_191 hW.2.1.1 ?_
  refine j_aload_n (q := 46) C dX9_handOver_45 rfl rfl rfl ?_
  refine wg_Paper_to (by omega) hW hM (q' := 49) C dX9_handOver_46 rfl kw_178 ?_
  refine j_top (v' := .int (nI t)) (congrArg Value.int (k32 ((va_up_ne _ _ (by omega)).trans ht))) ?_
  refine wa_pers hW (by omega) (q' := 50) C dX9_handOver_49 rfl ?_
  refine j_lload_n (q := 51) C dX9_handOver_50 rfl rfl rfl ?_
  refine jVT jc9 (q := 54) C dX9_handOver_51 rfl hW.1.1 mX9_credit kw_426 kw_427 kw_428 (ctX9_credit hW hM (by omega)) rfl rfl (by decide) (Nat.le_of_ble_eq_true rfl) (by decide) (fun r_51 M_51 h_51 => ?_)
  obtain ⟨rfl, hM, hE2⟩ := h_51
  replace hE := hE.tr (hE2.mono hSS)
  replace hW := hW.mv hE2
  exact j_vret C E dX9_handOver_54 rfl rfl (wT_i rfl hM hE)

set_option maxRecDepth 100000 in
set_option maxHeartbeats 400000 in
theorem ctX9_closePaid {G : jG} {sz : Nat} {Sh : jS} {M : jM} {w q pr lw jg mk : Nat} {K : Nat → Int64} (hW : wLay w q pr lw jg mk Sh M) (hM : vK w q pr lw M = K) {j b t pe : Nat} (hj : j < 24) (hpe : pe ≤ 10) (h4 : K 4 = lN pe) (hb : K (110 + 7 * j + 1) = lN b) (hb1 : b < pe) (ht : K (110 + 7 * j + 2) = lN t) (ht1 : t < pe) {s d : Nat} (hd : K 0 = lN d) (hd3 : d ≤ 300) (hs : K (110 + 7 * j + 4) = lN s) (hs3 : s ≤ 300) (hps : 1 ≤ K (310 + s)) (hpd : 1 ≤ K (310 + d)) {kd : Nat} (hk : K (110 + 7 * j + 0) = lN kd) (hk5 : kd ≤ 5) {n : Int64} : jC G yX9_closePaid cX9_closePaid 6 (Option.none : Option FieldType) (jrm 2 0 0) sz Sh M [.ref w, .ref (q + 12 + j), .long n] (jT sz Sh (wT (wS0 w q pr) w q pr lw M (nSett K d j s b t n) (none))) := by
  refine jC_start (by decide +kernel) (Nat.le_of_ble_eq_true rfl) (fun X C E hN0 => ?_)
  have hE : mEq (wS0 w q pr) M M := mEq.rf
  have hSS : ∀ b, wS0 w q pr b → wS0 w q pr b := fun _ h => h
  refine j_aload_n (q := 1) C dX9_closePaid_0 rfl rfl rfl ?_
  refine j_iconst (v := nI 1) (q := 2) C dX9_closePaid_1 rfl (by decide) ?_
  refine wp_Paper_state (by omega) hW hM hE hSS (q' := 5) C dX9_closePaid_2 rfl kw_189 (fun M hM hE hW => ?_)
  rw [show (nI 1).toInt64 = 1 by decide] at hM
  have kk12 : (K (110 + 7 * j + 0) = 1 ∨ K (110 + 7 * j + 0) = 2) → (M.1 (q + 12 + j) 0 = nI 1 ∨ M.1 (q + 12 + j) 0 = nI 2) := fun h => by
    have e : M.1 (q + 12 + j) 0 = (vK w q pr lw M (110 + 7 * j + 0)).toInt32 := by rw [vK_qI hj (by omega), i32_rt]
    rw [e, hM, va_up_ne _ _ (by omega)]
    rcases h with h | h
    · left; rw [h]; decide
    · right; rw [h]; decide
  have kk21 : (M.1 (q + 12 + j) 0 = nI 1 ∨ M.1 (q + 12 + j) 0 = nI 2) → (K (110 + 7 * j + 0) = 1 ∨ K (110 + 7 * j + 0) = 2) := fun h => by
    have e : M.1 (q + 12 + j) 0 = (vK w q pr lw M (110 + 7 * j + 0)).toInt32 := by rw [vK_qI hj (by omega), i32_rt]
    rw [e, hM, va_up_ne _ _ (by omega), k32 hk, nI_eq (by omega) (by omega), nI_eq (by omega) (by omega)] at h
    rcases h with h | h
    · left; rw [hk, h]; decide
    · right; rw [hk, h]; decide
  refine j_aload_n (q := 6) C dX9_closePaid_5 rfl rfl rfl ?_
  refine jV1 jc5 (q := 9) C dX9_closePaid_6 rfl (hW.1.2.2.2.2.2.2.2.2 _ (by omega)) mX5_isPaidAtOnce kw_435 kw_436 kw_437 (ctX5_isPaidAtOnce (hW.1.2.2.2.2.2.2.2.2 j hj)) rfl rfl (by decide) (Nat.le_of_ble_eq_true rfl) (by decide) ?_
  refine j_if_eq (q := 12) (tgt := 98) C dX9_closePaid_9 rfl (by decide) (fun c_9 => ?_) (fun c_9 => ?_)
  · exact j_vret C E dX9_closePaid_98 rfl rfl (wT_i rfl (hM.trans (if_neg (fun h => jb_0.mp c_9 (kk12 h))).symm) hE)
  · refine j_aload_n (q := 13) C dX9_closePaid_12 rfl rfl rfl ?_
    refine j_aload_n (q := 14) C dX9_closePaid_13 rfl rfl rfl ?_
    refine wg_Paper_by (by omega) hW hM (q' := 17) C dX9_closePaid_14 rfl kw_175 ?_
    refine j_top (v' := .int (nI b)) (congrArg Value.int (k32 ((va_up_ne _ _ (by omega)).trans hb))) ?_
    refine jV1 jc9 (q := 20) C dX9_closePaid_17 rfl hW.1.1 mX9_hasPerson kw_425 kw_301 kw_302 (ctX9_hasPerson hW hM ((va_up_ne _ _ (by omega)).trans h4)) rfl rfl (by decide) (Nat.le_of_ble_eq_true rfl) (by decide) ?_
    refine j_if_eq (q := 23) (tgt := 98) C dX9_closePaid_20 rfl (by decide) (fun c_20 => absurd c_20 (jbP_t hb1 (by omega))) (fun c_20 => ?_)
    refine j_aload_n (q := 24) C dX9_closePaid_23 rfl rfl rfl ?_
    refine j_aload_n (q := 25) C dX9_closePaid_24 rfl rfl rfl ?_
    refine wg_Paper_to (by omega) hW hM (q' := 28) C dX9_closePaid_25 rfl kw_178 ?_
    refine j_top (v' := .int (nI t)) (congrArg Value.int (k32 ((va_up_ne _ _ (by omega)).trans ht))) ?_
    refine jV1 jc9 (q := 31) C dX9_closePaid_28 rfl hW.1.1 mX9_hasPerson kw_425 kw_301 kw_302 (ctX9_hasPerson hW hM ((va_up_ne _ _ (by omega)).trans h4)) rfl rfl (by decide) (Nat.le_of_ble_eq_true rfl) (by decide) ?_
    refine j_if_eq (q := 34) (tgt := 98) C dX9_closePaid_31 rfl (by decide) (fun c_31 => absurd c_31 (jbP_t ht1 (by omega))) (fun c_31 => ?_)
    refine j_aload_n (q := 35) C dX9_closePaid_34 rfl rfl rfl ?_
    refine wg_Paper_sum (by omega) hW hM (q' := 38) C dX9_closePaid_35 rfl kw_181 ?_
    refine j_aload_n (q := 39) C dX9_closePaid_38 rfl rfl rfl ?_
    refine j_aload_n (q := 40) C dX9_closePaid_39 rfl rfl rfl ?_
    refine wg_Paper_since (by omega) hW hM (q' := 43) C dX9_closePaid_40 rfl kw_185 ?_
    refine j_top (v' := .int (nI s)) (congrArg Value.int (k32 ((va_up_ne _ _ (by omega)).trans hs))) ?_
    refine jV1 jc9 (q := 46) C dX9_closePaid_43 rfl hW.1.1 mX9_priceOn kw_439 kw_378 kw_379 (ctX9_priceOn hW hM (k := s) (by omega) (by rw [va_up_ne _ _ (by omega)]; exact hps)) rfl rfl (by decide) (Nat.le_of_ble_eq_true rfl) (by decide) ?_
    refine j_ldiv (q := 47) C dX9_closePaid_46 rfl (fun e => by rw [va_up_ne _ _ (by omega)] at e; rw [e] at hps; exact absurd hps (by decide)) ?_
    refine j_lload_n (q := 48) C dX9_closePaid_47 rfl rfl rfl ?_
    refine j_aload_n (q := 49) C dX9_closePaid_48 rfl rfl rfl ?_
    refine j_aload_n (q := 50) C dX9_closePaid_49 rfl rfl rfl ?_
    refine wg_World_day hW hM (q' := 53) C dX9_closePaid_50 rfl kw_209 ?_
    refine j_top (v' := .int (nI d)) (congrArg Value.int (k32 ((va_up_ne _ _ (by omega)).trans hd))) ?_
    refine jV1 jc9 (q := 56) C dX9_closePaid_53 rfl hW.1.1 mX9_priceOn kw_439 kw_378 kw_379 (ctX9_priceOn hW hM (k := d) (by omega) (by rw [va_up_ne _ _ (by omega)]; exact hpd)) rfl rfl (by decide) (Nat.le_of_ble_eq_true rfl) (by decide) ?_
    refine j_ldiv (q := 57) C dX9_closePaid_56 rfl (fun e => by rw [va_up_ne _ _ (by omega)] at e; rw [e] at hpd; exact absurd hpd (by decide)) ?_
    refine j_lsub (q := 58) C dX9_closePaid_57 rfl ?_
    refine j_lstore (lv' := [(4, _), (0, _), (1, _), (2, _)]) (q := 60) C dX9_closePaid_58 rfl (by decide) rfl ?_
    refine j_aload_n (q := 61) C dX9_closePaid_60 rfl rfl rfl ?_
    refine jg_World_persons (q := 64) C dX9_closePaid_61 rfl hW.1.1 kw_191 hW.2.1.1 ?_
    refine j_aload_n (q := 65) C dX9_closePaid_64 rfl rfl rfl ?_
    refine wg_Paper_by (by omega) hW hM (q' := 68) C dX9_closePaid_65 rfl kw_175 ?_
    refine j_top (v' := .int (nI b)) (congrArg Value.int (k32 ((va_up_ne _ _ (by omega)).trans hb))) ?_
    refine wa_pers hW (by omega) (q' := 69) C dX9_closePaid_68 rfl ?_
    refine j_dup (q := 70) C dX9_closePaid_69 rfl rfl ?_
    refine wg_Person_gained (by omega) hW hM (q' := 73) C dX9_closePaid_70 rfl kw_162 ?_
    refine j_lload (q := 75) C dX9_closePaid_73 rfl rfl ?_
    refine j_ladd (q := 76) C dX9_closePaid_75 rfl ?_
    refine wp_Person_gained (by omega) hW hM hE hSS (q' := 79) C dX9_closePaid_76 rfl kw_162 (fun M hM hE hW => ?_)
    refine j_aload_n (q := 80) C dX9_closePaid_79 rfl rfl rfl ?_
    refine jg_World_persons (q := 83) C dX9_closePaid_80 rfl hW.1.1 kw_191 hW.2.1.1 ?_
    refine j_aload_n (q := 84) C dX9_closePaid_83 rfl rfl rfl ?_
    refine wg_Paper_to (by omega) hW hM (q' := 87) C dX9_closePaid_84 rfl kw_178 ?_
    refine j_top (v' := .int (nI t)) (congrArg Value.int (k32 ((va_up_ne _ _ (by omega)).trans ((va_up_ne _ _ (by omega)).trans ht)))) ?_
    refine wa_pers hW (by omega) (q' := 88) C dX9_closePaid_87 rfl ?_
    refine j_dup (q := 89) C dX9_closePaid_88 rfl rfl ?_
    refine wg_Person_lost (by omega) hW hM (q' := 92) C dX9_closePaid_89 rfl kw_165 ?_
    refine j_lload (q := 94) C dX9_closePaid_92 rfl rfl ?_
    refine j_ladd (q := 95) C dX9_closePaid_94 rfl ?_
    refine wp_Person_lost (by omega) hW hM hE hSS (q' := 98) C dX9_closePaid_95 rfl kw_165 (fun M hM hE hW => ?_)
    exact j_vret C E dX9_closePaid_98 rfl rfl (wT_i rfl (hM.trans (if_pos (kk21 (jb_n.mp c_9))).symm) hE)

