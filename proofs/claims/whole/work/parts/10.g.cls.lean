/-- the k-th byte of a number, as the class keeps it -/
def bKc (b : Int64) (k : Nat) : Int32 := (b.toUInt64 >>> ((nI (8 * k)).toInt64.toUInt64 &&& Int64.toUInt64 63)).toInt64.toInt32.toInt8.toInt32.toInt8.toInt32
set_option maxRecDepth 100000 in
set_option maxHeartbeats 4000000 in
theorem ctX7_append {G : jG} {sz : Nat} {Sh : jS} {M : jM} {rd : Nat} (hR : cLay rd Sh M) {n x : Nat} (hn : M.1 rd 2 = nI n) (hnx : n + x ≤ 160) {b : Int64} : jC G yX7_append cX7_append 5 (Option.none : Option FieldType) (jrm 1 0 0) sz Sh M [.ref rd, .int (nI x), .long b] (jT sz Sh (fun r M2 => r = none ∧ mEq (fun b => b = rd ∨ b = rd + 1) M M2 ∧ M2.1 rd 2 = nI (n + x) ∧ (∀ j, j ≠ 2 → M2.1 rd j = M.1 rd j) ∧ ∀ j, M2.1 (rd + 1) j = if n ≤ j ∧ j < n + x then bKc b (j - n) else M.1 (rd + 1) j)) := by
  refine jC_start (by decide +kernel) (Nat.le_of_ble_eq_true rfl) (fun X C E hN0 => ?_)
  refine j_iconst (v := nI 0) (q := 1) C dX7_append_0 rfl (by decide) ?_
  refine j_istore (lv' := [(4, _), (0, _), (1, _), (2, _)]) (q := 3) C dX7_append_1 rfl (by decide) rfl ?_
  have loop3 : ∀ (z k : Nat) (Mk : jM), mEq (fun b => b = rd ∨ b = rd + 1) M Mk → Mk.1 rd 2 = nI (n + k) → (∀ j, j ≠ 2 → Mk.1 rd j = M.1 rd j) → (∀ j, Mk.1 (rd + 1) j = if n ≤ j ∧ j < n + k then bKc b (j - n) else M.1 (rd + 1) j) → k + z = x → jJ G X 0 0 sz Sh Mk 3 [(4, .int (nI k)), (0, .ref rd), (1, .int (nI x)), (2, .long b)] [] := by
    intro z
    induction z with
    | zero =>
      intro k Mk hE h2 hO h1 hk
      refine j_iload (q := 5) C dX7_append_3 rfl rfl ?_
      refine j_iload_n (q := 6) C dX7_append_5 rfl rfl rfl ?_
      refine j_icmp_ge (q := 9) (tgt := 55) C dX7_append_6 rfl (by decide) (fun c_6 => ?_) (fun c_6 => absurd (nI_le (by omega) (by omega)) c_6)
      obtain rfl : x = k := by omega
      exact j_vret C E dX7_append_55 rfl rfl (⟨rfl, rfl, rfl, hE, h2, hO, h1⟩)
    | succ z ih =>
      intro k Mk hE h2 hO h1 hk
      refine j_iload (q := 5) C dX7_append_3 rfl rfl ?_
      refine j_iload_n (q := 6) C dX7_append_5 rfl rfl rfl ?_
      refine j_icmp_ge (q := 9) (tgt := 55) C dX7_append_6 rfl (by decide) (fun c_6 => absurd c_6 (fun h => absurd ((nI_leI (by omega) (by omega)).mp h) (by omega))) (fun c_6 => ?_)
      refine j_aload_n (q := 10) C dX7_append_9 rfl rfl rfl ?_
      refine jg_Reader_length (q := 13) C dX7_append_10 rfl hR.1 kw_244 ?_
      rw [h2]
      refine j_aload_n (q := 14) C dX7_append_13 rfl rfl rfl ?_
      refine jg_Reader_tape (q := 17) C dX7_append_14 rfl hR.1 kw_242 (show Mk.2.2 rd 0 = some (rd + 1) by rw [hE.2.2]; exact hR.2.2.2.1) ?_
      refine j_alen (q := 18) C dX7_append_17 rfl hR.2.1 (by decide) (t0 := 0) rfl ?_
      refine j_icmp_ge (q := 21) (tgt := 55) C dX7_append_18 rfl (by decide) (fun c_18 => absurd c_18 (fun h => absurd ((nI_leI (by omega) (by omega)).mp h) (by omega))) (fun c_18 => ?_)
      refine j_aload_n (q := 22) C dX7_append_21 rfl rfl rfl ?_
      refine jg_Reader_tape (q := 25) C dX7_append_22 rfl hR.1 kw_242 (show Mk.2.2 rd 0 = some (rd + 1) by rw [hE.2.2]; exact hR.2.2.2.1) ?_
      refine j_aload_n (q := 26) C dX7_append_25 rfl rfl rfl ?_
      refine jg_Reader_length (q := 29) C dX7_append_26 rfl hR.1 kw_244 ?_
      rw [h2]
      refine j_lload_n (q := 30) C dX7_append_29 rfl rfl rfl ?_
      refine j_bipush (v := nI 8) (q := 32) C dX7_append_30 rfl (by decide) ?_
      refine j_iload (q := 34) C dX7_append_32 rfl rfl ?_
      first | refine j_imulN (q := 35) C dX7_append_34 rfl ?_ | refine j_imul (q := 35) C dX7_append_34 rfl ?_
      refine j_lushr (q := 36) C dX7_append_35 rfl rfl ?_
      first | refine j_l2iN (q := 37) C dX7_append_36 rfl ?_ | refine j_l2i (q := 37) C dX7_append_36 rfl rfl ?_
      refine j_i2b (q := 38) C dX7_append_37 rfl rfl ?_
      refine j_bast (q := 39) C dX7_append_38 rfl hR.2.1 (show n + k < 160 by omega) (by decide) ?_
      refine j_aload_n (q := 40) C dX7_append_39 rfl rfl rfl ?_
      refine j_dup (q := 41) C dX7_append_40 rfl rfl ?_
      refine jg_Reader_length (q := 44) C dX7_append_41 rfl hR.1 kw_244 ?_
      refine j_top (v' := .int (nI (n + k))) (congrArg Value.int ((congrFun (jup_ne (by omega)) 2).trans h2)) ?_
      refine j_iconst (v := nI 1) (q := 45) C dX7_append_44 rfl (by decide) ?_
      first | refine j_iaddN (q := 46) C dX7_append_45 rfl ?_ | refine j_iadd (q := 46) C dX7_append_45 rfl ?_
      refine jp_Reader_length (q := 49) C dX7_append_46 rfl hR.1 kw_244 ?_
      first | refine j_iincN (lv' := [(4, _), (0, _), (1, _), (2, _)]) (q := 52) C dX7_append_49 rfl rfl (by decide) rfl ?_ | refine j_iinc (lv' := [(4, _), (0, _), (1, _), (2, _)]) (q := 52) C dX7_append_49 rfl rfl rfl (by decide) rfl ?_
      refine j_goto (tgt := 3) C dX7_append_52 (by decide) ?_
      exact j_fewer (lv' := [(4, .int (nI (k + 1))), (0, .ref rd), (1, .int (nI x)), (2, .long b)]) (by simp) (ih (k + 1) (jsI (jsI Mk (rd + 1) (n + k) (bKc b k)) rd 2 (nI (n + k + 1))) ((hE.I (Or.inr rfl)).I (Or.inl rfl)) upIs (fun j hj => by rw [upI (fun e => hj e.2), upI (by omega)]; exact hO j hj) (fun j => by
        rw [upI (by omega)]
        by_cases cj : j = n + k
        · subst cj; rw [upIs, if_pos (by omega), show n + k - n = k by omega]
        · rw [upI (fun e => cj e.2), h1 j]
          by_cases c1 : n ≤ j ∧ j < n + k
          · rw [if_pos c1, if_pos (by omega)]
          · rw [if_neg c1, if_neg (by omega)]) (by omega))
  exact j_fewer (lv' := [(4, .int (nI 0)), (0, .ref rd), (1, .int (nI x)), (2, .long b)]) (by simp) (loop3 x 0 M mEq.rf hn (fun _ _ => rfl) (fun j => by rw [if_neg (by omega)]) (by omega))

def shLay (a : Nat) (Sh : jS) (M : jM) : Prop := (Sh a).1 = 8 ∧ Sh (a + 1) = (13, 20) ∧ M.2.2 a 0 = some (a + 1)
set_option maxRecDepth 100000 in
set_option maxHeartbeats 4000000 in
theorem ctX8_isMissing {G : jG} {sz : Nat} {Sh : jS} {M : jM} {a : Nat} (hL : shLay a Sh M) : jC G yX8_isMissing cX8_isMissing 1 (Option.some FieldType.boolean) (jrm 1 0 0) sz Sh M [.ref a] (jR (some (.int (jb (M.1 a 1 = 0)))) sz Sh M) := by
  refine jC_start (by decide +kernel) (Nat.le_of_ble_eq_true rfl) (fun X C E hN0 => ?_)
  refine j_aload_n (q := 1) C dX8_isMissing_0 rfl rfl rfl ?_
  refine jg_Sheet_bits (q := 4) C dX8_isMissing_1 rfl hL.1 kw_261 ?_
  refine j_if_ne (q := 7) (tgt := 11) C dX8_isMissing_4 rfl (by decide) (fun c_4 => ?_) (fun c_4 => ?_)
  · refine j_iconst (v := nI 0) (q := 12) C dX8_isMissing_11 rfl (by decide) ?_
    exact j_zret C E dX8_isMissing_12 (by first | rfl | exact jb_nar) rfl rfl (jR_e (congrArg (fun z => some (Value.int z)) (jb_f c_4).symm) rfl)
  · refine j_iconst (v := nI 1) (q := 8) C dX8_isMissing_7 rfl (by decide) ?_
    refine j_goto (tgt := 12) C dX8_isMissing_8 (by decide) ?_
    exact j_zret C E dX8_isMissing_12 (by first | rfl | exact jb_nar) rfl rfl (jR_e (congrArg (fun z => some (Value.int z)) (jb_t c_4).symm) rfl)

set_option maxRecDepth 100000 in
set_option maxHeartbeats 4000000 in
theorem ctJ7_fill_53178 {G : jG} {sz : Nat} {Sh : jS} {M : jM} {a : Nat} (hs : Sh a = (13, 20)) {v : Int32} : jC G yJ7_fill_53178 cJ7_fill_53178 4 (Option.none : Option FieldType) (jrm 1 0 0) sz Sh M [.ref a, .int v] (jT sz Sh (fun r M2 => r = none ∧ mEq (fun b => b = a) M M2 ∧ ∀ j, j < 20 → M2.1 a j = v)) := by
  refine jC_start (by decide +kernel) (Nat.le_of_ble_eq_true rfl) (fun X C E hN0 => ?_)
  refine j_iconst (v := nI 0) (q := 1) C dJ7_fill_53178_0 rfl (by decide) ?_
  refine j_istore_n (lv' := [(2, _), (0, _), (1, _)]) (q := 2) C dJ7_fill_53178_1 rfl rfl (by decide) rfl ?_
  refine j_aload_n (q := 3) C dJ7_fill_53178_2 rfl rfl rfl ?_
  refine j_alen (q := 4) C dJ7_fill_53178_3 rfl hs (by decide) (t0 := 1) rfl ?_
  refine j_istore_n (lv' := [(3, _), (2, _), (0, _), (1, _)]) (q := 5) C dJ7_fill_53178_4 rfl rfl (by decide) rfl ?_
  have loop5 : ∀ (n k : Nat) (Mk : jM), mEq (fun b => b = a) M Mk → (∀ j, j < k → Mk.1 a j = v) → k + n = 20 → jJ G X 0 0 sz Sh Mk 5 [(2, .int (nI k)), (3, .int (nI 20)), (0, .ref a), (1, .int v)] [] := by
    intro n
    induction n with
    | zero =>
      intro k Mk hE h1 hk
      refine j_iload_n (q := 6) C dJ7_fill_53178_5 rfl rfl rfl ?_
      refine j_iload_n (q := 7) C dJ7_fill_53178_6 rfl rfl rfl ?_
      refine j_icmp_ge (q := 10) (tgt := 20) C dJ7_fill_53178_7 rfl (by decide) (fun c_7 => ?_) (fun c_7 => absurd (nI_le (by omega) (by omega)) c_7)
      obtain rfl : k = 20 := by omega
      exact j_vret C E dJ7_fill_53178_20 rfl rfl (⟨rfl, rfl, rfl, hE, h1⟩)
    | succ n ih =>
      intro k Mk hE h1 hk
      refine j_iload_n (q := 6) C dJ7_fill_53178_5 rfl rfl rfl ?_
      refine j_iload_n (q := 7) C dJ7_fill_53178_6 rfl rfl rfl ?_
      refine j_icmp_ge (q := 10) (tgt := 20) C dJ7_fill_53178_7 rfl (by decide) (fun c_7 => absurd c_7 (fun h => absurd ((nI_leI (by omega) (by omega)).mp h) (by omega))) (fun c_7 => ?_)
      refine j_aload_n (q := 11) C dJ7_fill_53178_10 rfl rfl rfl ?_
      refine j_iload_n (q := 12) C dJ7_fill_53178_11 rfl rfl rfl ?_
      refine j_iload_n (q := 13) C dJ7_fill_53178_12 rfl rfl rfl ?_
      refine j_iast (q := 14) C dJ7_fill_53178_13 rfl hs (show k < 20 by omega) (by decide) ?_
      first | refine j_iincN (lv' := [(2, _), (3, _), (0, _), (1, _)]) (q := 17) C dJ7_fill_53178_14 rfl rfl (by decide) rfl ?_ | refine j_iinc (lv' := [(2, _), (3, _), (0, _), (1, _)]) (q := 17) C dJ7_fill_53178_14 rfl rfl rfl (by decide) rfl ?_
      refine j_goto (tgt := 5) C dJ7_fill_53178_17 (by decide) ?_
      exact j_fewer (lv' := [(2, .int (nI (k + 1))), (3, .int (nI 20)), (0, .ref a), (1, .int v)]) (by simp) (ih (k + 1) (jsI Mk a k v) (hE.I rfl) (fun j hj => by
        by_cases cj : j = k
        · subst cj; exact upIs
        · rw [upI (fun e => cj e.2)]; exact h1 j (by omega)) (by omega))
  exact j_fewer (lv' := [(2, .int (nI 0)), (3, .int (nI 20)), (0, .ref a), (1, .int v)]) (by simp) (loop5 20 0 M mEq.rf (fun j hj => absurd hj (by omega)) (by omega))

set_option maxRecDepth 100000 in
set_option maxHeartbeats 4000000 in
theorem ctX8_lay {G : jG} {sz : Nat} {Sh : jS} {M : jM} {a : Nat} (hL : shLay a Sh M) {x z : Int32} : jC G yX8_lay cX8_lay 3 (Option.none : Option FieldType) (jrm 2 0 0) sz Sh M [.ref a, .int x, .int z] (jT sz Sh (fun r M2 => r = none ∧ mEq (fun b => b = a ∨ b = a + 1) M M2 ∧ M2.1 a 1 = x ∧ M2.1 a 2 = z ∧ (∀ j, j ≠ 1 → j ≠ 2 → M2.1 a j = M.1 a j) ∧ ∀ j, j < 20 → M2.1 (a + 1) j = 0)) := by
  refine jC_start (by decide +kernel) (Nat.le_of_ble_eq_true rfl) (fun X C E hN0 => ?_)
  refine j_aload_n (q := 1) C dX8_lay_0 rfl rfl rfl ?_
  refine j_iload_n (q := 2) C dX8_lay_1 rfl rfl rfl ?_
  refine jp_Sheet_bits (q := 5) C dX8_lay_2 rfl hL.1 kw_261 ?_
  refine j_aload_n (q := 6) C dX8_lay_5 rfl rfl rfl ?_
  refine j_iload_n (q := 7) C dX8_lay_6 rfl rfl rfl ?_
  refine jp_Sheet_size (q := 10) C dX8_lay_7 rfl hL.1 kw_263 ?_
  refine j_aload_n (q := 11) C dX8_lay_10 rfl rfl rfl ?_
  refine jg_Sheet_numbers (q := 14) C dX8_lay_11 rfl hL.1 kw_258 hL.2.2 ?_
  refine j_iconst (v := nI 0) (q := 15) C dX8_lay_14 rfl (by decide) ?_
  refine jST (q := 18) C dX8_lay_15 rfl mJ7_fill_53178 kw_808 kw_809 (ctJ7_fill_53178 hL.2.1) rfl rfl (by decide) (Nat.le_of_ble_eq_true rfl) (by decide) (fun r_15 M_15 h_15 => ?_)
  obtain ⟨rfl, hE, h20⟩ := h_15
  exact j_vret C E dX8_lay_18 rfl rfl (⟨rfl, rfl, rfl, (((mEq.rf.I (Or.inl rfl)).I (Or.inl rfl)).tr (hE.mono (fun b hb => Or.inr hb))), (congrFun (hE.1 a (by omega)) 1).trans ((upI (by omega)).trans upIs), (congrFun (hE.1 a (by omega)) 2).trans upIs, fun j h1 h2 => (congrFun (hE.1 a (by omega)) j).trans ((upI (by omega)).trans (upI (by omega))), h20⟩)

/-- a number as a sheet keeps it -/
def encC (wd v : Int32) : Int32 := if wd = nI 32 then v else v &&& ((nI 1 <<< (wd &&& 31)) - nI 1)
set_option maxRecDepth 100000 in
set_option maxHeartbeats 4000000 in
theorem ctX8_write {G : jG} {sz : Nat} {Sh : jS} {M : jM} {a i : Nat} (hL : shLay a Sh M) {m : Nat} (hm : M.1 a 2 = nI m) (hm20 : m ≤ 20) (hi : i < m) {v : Int32} : jC G yX8_write cX8_write 3 (Option.none : Option FieldType) (jrm 1 0 0) sz Sh M [.ref a, .int (nI i), .int v] (jR none sz Sh (jsI M (a + 1) i (encC (M.1 a 1) v))) := by
  refine jC_start (by decide +kernel) (Nat.le_of_ble_eq_true rfl) (fun X C E hN0 => ?_)
  refine j_iload_n (q := 1) C dX8_write_0 rfl rfl rfl ?_
  refine j_if_lt (q := 4) (tgt := 41) C dX8_write_1 rfl (by decide) (fun c_1 => absurd c_1 (nI_nneg (by omega))) (fun c_1 => ?_)
  refine j_iload_n (q := 5) C dX8_write_4 rfl rfl rfl ?_
  refine j_aload_n (q := 6) C dX8_write_5 rfl rfl rfl ?_
  refine jg_Sheet_size (q := 9) C dX8_write_6 rfl hL.1 kw_263 ?_
  rw [hm]
  refine j_icmp_ge (q := 12) (tgt := 41) C dX8_write_9 rfl (by decide) (fun c_9 => absurd c_9 (fun h => absurd ((nI_leI (by omega) (by omega)).mp h) (by omega))) (fun c_9 => ?_)
  refine j_aload_n (q := 13) C dX8_write_12 rfl rfl rfl ?_
  refine jg_Sheet_numbers (q := 16) C dX8_write_13 rfl hL.1 kw_258 hL.2.2 ?_
  refine j_iload_n (q := 17) C dX8_write_16 rfl rfl rfl ?_
  refine j_aload_n (q := 18) C dX8_write_17 rfl rfl rfl ?_
  refine jg_Sheet_bits (q := 21) C dX8_write_18 rfl hL.1 kw_261 ?_
  refine j_bipush (v := nI 32) (q := 23) C dX8_write_21 rfl (by decide) ?_
  refine j_icmp_ne (q := 26) (tgt := 30) C dX8_write_23 rfl (by decide) (fun c_23 => ?_) (fun c_23 => ?_)
  · refine j_iload_n (q := 31) C dX8_write_30 rfl rfl rfl ?_
    refine j_iconst (v := nI 1) (q := 32) C dX8_write_31 rfl (by decide) ?_
    refine j_aload_n (q := 33) C dX8_write_32 rfl rfl rfl ?_
    refine jg_Sheet_bits (q := 36) C dX8_write_33 rfl hL.1 kw_261 ?_
    refine j_ishl (q := 37) C dX8_write_36 rfl ?_
    refine j_iconst (v := nI 1) (q := 38) C dX8_write_37 rfl (by decide) ?_
    refine j_isub (q := 39) C dX8_write_38 rfl ?_
    refine j_iand (q := 40) C dX8_write_39 rfl ?_
    refine j_iast (q := 41) C dX8_write_40 rfl hL.2.1 (show i < 20 by omega) (by decide) ?_
    exact j_vret C E dX8_write_41 rfl rfl (jR_e rfl (by unfold encC; rw [if_neg c_23]))
  · refine j_iload_n (q := 27) C dX8_write_26 rfl rfl rfl ?_
    refine j_goto (tgt := 40) C dX8_write_27 (by decide) ?_
    refine j_iast (q := 41) C dX8_write_40 rfl hL.2.1 (show i < 20 by omega) (by decide) ?_
    exact j_vret C E dX8_write_41 rfl rfl (jR_e rfl (by unfold encC; rw [if_pos c_23]))

set_option maxRecDepth 100000 in
set_option maxHeartbeats 4000000 in
theorem ctX8_hasRun {G : jG} {sz : Nat} {Sh : jS} {M : jM} {a : Nat} (hL : shLay a Sh M) {f n : Int32} : jC G yX8_hasRun cX8_hasRun 3 (Option.some FieldType.boolean) (jrm 1 0 0) sz Sh M [.ref a, .int f, .int n] (jR (some (.int (jb (¬ f < 0 ∧ ¬ n < 0 ∧ f.toInt64 + n.toInt64 ≤ (M.1 a 2).toInt64)))) sz Sh M) := by
  refine jC_start (by decide +kernel) (Nat.le_of_ble_eq_true rfl) (fun X C E hN0 => ?_)
  refine j_iload_n (q := 1) C dX8_hasRun_0 rfl rfl rfl ?_
  refine j_if_lt (q := 4) (tgt := 26) C dX8_hasRun_1 rfl (by decide) (fun c_1 => ?_) (fun c_1 => ?_)
  · refine j_iconst (v := nI 0) (q := 27) C dX8_hasRun_26 rfl (by decide) ?_
    exact j_zret C E dX8_hasRun_27 (by first | rfl | exact jb_nar) rfl rfl (jR_e (congrArg (fun z => some (Value.int z)) (jb_f (fun h => h.1 c_1)).symm) rfl)
  · refine j_iload_n (q := 5) C dX8_hasRun_4 rfl rfl rfl ?_
    refine j_if_lt (q := 8) (tgt := 26) C dX8_hasRun_5 rfl (by decide) (fun c_5 => ?_) (fun c_5 => ?_)
    · refine j_iconst (v := nI 0) (q := 27) C dX8_hasRun_26 rfl (by decide) ?_
      exact j_zret C E dX8_hasRun_27 (by first | rfl | exact jb_nar) rfl rfl (jR_e (congrArg (fun z => some (Value.int z)) (jb_f (fun h => h.2.1 c_5)).symm) rfl)
    · refine j_iload_n (q := 9) C dX8_hasRun_8 rfl rfl rfl ?_
      first | refine j_i2lN (q := 10) C dX8_hasRun_9 rfl (by omega) ?_ | refine j_i2l (q := 10) C dX8_hasRun_9 rfl rfl ?_
      refine j_iload_n (q := 11) C dX8_hasRun_10 rfl rfl rfl ?_
      first | refine j_i2lN (q := 12) C dX8_hasRun_11 rfl (by omega) ?_ | refine j_i2l (q := 12) C dX8_hasRun_11 rfl rfl ?_
      refine j_ladd (q := 13) C dX8_hasRun_12 rfl ?_
      refine j_aload_n (q := 14) C dX8_hasRun_13 rfl rfl rfl ?_
      refine jg_Sheet_size (q := 17) C dX8_hasRun_14 rfl hL.1 kw_263 ?_
      first | refine j_i2lN (q := 18) C dX8_hasRun_17 rfl (by omega) ?_ | refine j_i2l (q := 18) C dX8_hasRun_17 rfl rfl ?_
      refine j_lcmp_gt (q1 := 19) (q := 22) (tgt := 26) C dX8_hasRun_18 dX8_hasRun_19 rfl rfl (by decide) (fun c_19 => ?_) (fun c_19 => ?_)
      · refine j_iconst (v := nI 0) (q := 27) C dX8_hasRun_26 rfl (by decide) ?_
        exact j_zret C E dX8_hasRun_27 (by first | rfl | exact jb_nar) rfl rfl (jR_e (congrArg (fun z => some (Value.int z)) (jb_f (fun h => absurd h.2.2 (Int64.not_le.mpr c_19))).symm) rfl)
      · refine j_iconst (v := nI 1) (q := 23) C dX8_hasRun_22 rfl (by decide) ?_
        refine j_goto (tgt := 27) C dX8_hasRun_23 (by decide) ?_
        exact j_zret C E dX8_hasRun_27 (by first | rfl | exact jb_nar) rfl rfl (jR_e (congrArg (fun z => some (Value.int z)) (jb_t ⟨c_1, c_5, Int64.not_lt.mp c_19⟩).symm) rfl)

