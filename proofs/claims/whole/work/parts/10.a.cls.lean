/-- a byte of the tape, as the class loads it -/
def bN (c : Nat) : Int32 := (nI c).toInt8.toInt32
theorem bN_lt : ∀ c, c < 256 → ((nI 97 ≤ bN c ∧ bN c ≤ nI 122) ↔ isLt c = true) := by decide +kernel
theorem bN_dg : ∀ c, c < 256 → ((nI 48 ≤ bN c ∧ bN c ≤ nI 57) ↔ isDg c = true) := by decide +kernel
theorem bN_sp : ∀ c, c < 256 → (bN c = nI 32 ↔ c = 32) := by decide +kernel
theorem bN_of {a c : Nat} (ha : a < 128) (hc : c < 256) : nI a = bN c ↔ a = c := ⟨fun h => by8 ha hc h, fun h => by subst h; exact by8' ha⟩
def cLay (rd : Nat) (Sh : jS) (M : jM) : Prop := (Sh rd).1 = 7 ∧ Sh (rd + 1) = (12, 160) ∧ Sh (rd + 2) = (13, 160) ∧ M.2.2 rd 0 = some (rd + 1) ∧ M.2.2 rd 1 = some (rd + 2)
def cTp (rd : Nat) (M : jM) (T : Nat → Nat) (n : Nat) : Prop := M.1 rd 2 = nI n ∧ n ≤ 160 ∧ (∀ i, T i < 256) ∧ ∀ i, i < n → M.1 (rd + 1) i = bN (T i)
def cP (S : Nat → Prop) (rd : Nat) (Sh : jS) (T : Nat → Nat) (n : Nat) (M0 M : jM) (K : Nat → Int32) (a b c d e : Int32) : Prop := mEq S M0 M ∧ cLay rd Sh M ∧ cTp rd M T n ∧ M.1 rd 3 = a ∧ M.1 rd 4 = b ∧ M.1 rd 5 = c ∧ M.1 rd 6 = d ∧ M.1 rd 7 = e ∧ M.1 (rd + 2) = K
theorem cP_of {S : Nat → Prop} {rd : Nat} {Sh : jS} {T : Nat → Nat} {n : Nat} {M : jM} (hR : cLay rd Sh M) (hT : cTp rd M T n) : cP S rd Sh T n M M (M.1 (rd + 2)) (M.1 rd 3) (M.1 rd 4) (M.1 rd 5) (M.1 rd 6) (M.1 rd 7) := ⟨mEq.rf, hR, hT, rfl, rfl, rfl, rfl, rfl, rfl⟩
theorem cTp_m {rd : Nat} {T : Nat → Nat} {n : Nat} {M : jM} {k : Nat} {x : Int32} (h : cTp rd M T n) (hk : k ≠ 2) : cTp rd (jsI M rd k x) T n := ⟨(upI (by omega)).trans h.1, h.2.1, h.2.2.1, fun i hi => (upI (by omega)).trans (h.2.2.2 i hi)⟩
section CROWS
variable {G : jG} {X : jX} {y : MethodName} {cc : ByteArray} {nL cells slots sz pc q' index rd : Nat} {R : Room} {Sh : jS} {M M0 : jM} {lv : List (Nat × Value)} {st : List Value} {S : Nat → Prop} {T : Nat → Nat} {n : Nat} {K : Nat → Int32} {a b c d e : Int32}
theorem cg_length (hQ : cP S rd Sh T n M0 M K a b c d e) (C : jOk G X y cc nL R) (hd : decode cc pc = .ok (.getfield index, 3)) (hn : pc + 3 = q') (hw : Cond.fieldLink y.cls index (TX7 2).1 (TX7 2).2.1 (TX7 2).2.2.1 ∈ jtb) (kk : jJ G X cells slots sz Sh M q' lv (.int (nI n) :: st)) : jJ G X cells slots sz Sh M pc lv (.ref rd :: st) := jg_Reader_length C hd hn hQ.2.1.1 hw (by rw [hQ.2.2.1.1]; exact kk)
theorem cg_made (hQ : cP S rd Sh T n M0 M K a b c d e) (C : jOk G X y cc nL R) (hd : decode cc pc = .ok (.getfield index, 3)) (hn : pc + 3 = q') (hw : Cond.fieldLink y.cls index (TX7 3).1 (TX7 3).2.1 (TX7 3).2.2.1 ∈ jtb) (kk : jJ G X cells slots sz Sh M q' lv (.int (a) :: st)) : jJ G X cells slots sz Sh M pc lv (.ref rd :: st) := jg_Reader_made C hd hn hQ.2.1.1 hw (by rw [hQ.2.2.2.1]; exact kk)
theorem cp_made {x : Int32} (hSo : S rd) (hQ : cP S rd Sh T n M0 M K a b c d e) (C : jOk G X y cc nL R) (hd : decode cc pc = .ok (.putfield index, 3)) (hn : pc + 3 = q') (hw : Cond.fieldLink y.cls index (TX7 3).1 (TX7 3).2.1 (TX7 3).2.2.1 ∈ jtb) (kk : ∀ M' : jM, cP S rd Sh T n M0 M' K x b c d e → jJ G X cells slots sz Sh M' q' lv st) : jJ G X cells slots sz Sh M pc lv (.int x :: .ref rd :: st) := jp_Reader_made C hd hn hQ.2.1.1 hw (kk _ ⟨hQ.1.I hSo, hQ.2.1, cTp_m hQ.2.2.1 (by decide), upIs, (upI (by omega)).trans hQ.2.2.2.2.1, (upI (by omega)).trans hQ.2.2.2.2.2.1, (upI (by omega)).trans hQ.2.2.2.2.2.2.1, (upI (by omega)).trans hQ.2.2.2.2.2.2.2.1, (jup_ne (by omega)).trans hQ.2.2.2.2.2.2.2.2⟩)
theorem cg_place (hQ : cP S rd Sh T n M0 M K a b c d e) (C : jOk G X y cc nL R) (hd : decode cc pc = .ok (.getfield index, 3)) (hn : pc + 3 = q') (hw : Cond.fieldLink y.cls index (TX7 4).1 (TX7 4).2.1 (TX7 4).2.2.1 ∈ jtb) (kk : jJ G X cells slots sz Sh M q' lv (.int (b) :: st)) : jJ G X cells slots sz Sh M pc lv (.ref rd :: st) := jg_Reader_place C hd hn hQ.2.1.1 hw (by rw [hQ.2.2.2.2.1]; exact kk)
theorem cp_place {x : Int32} (hSo : S rd) (hQ : cP S rd Sh T n M0 M K a b c d e) (C : jOk G X y cc nL R) (hd : decode cc pc = .ok (.putfield index, 3)) (hn : pc + 3 = q') (hw : Cond.fieldLink y.cls index (TX7 4).1 (TX7 4).2.1 (TX7 4).2.2.1 ∈ jtb) (kk : ∀ M' : jM, cP S rd Sh T n M0 M' K a x c d e → jJ G X cells slots sz Sh M' q' lv st) : jJ G X cells slots sz Sh M pc lv (.int x :: .ref rd :: st) := jp_Reader_place C hd hn hQ.2.1.1 hw (kk _ ⟨hQ.1.I hSo, hQ.2.1, cTp_m hQ.2.2.1 (by decide), (upI (by omega)).trans hQ.2.2.2.1, upIs, (upI (by omega)).trans hQ.2.2.2.2.2.1, (upI (by omega)).trans hQ.2.2.2.2.2.2.1, (upI (by omega)).trans hQ.2.2.2.2.2.2.2.1, (jup_ne (by omega)).trans hQ.2.2.2.2.2.2.2.2⟩)
theorem cg_token (hQ : cP S rd Sh T n M0 M K a b c d e) (C : jOk G X y cc nL R) (hd : decode cc pc = .ok (.getfield index, 3)) (hn : pc + 3 = q') (hw : Cond.fieldLink y.cls index (TX7 5).1 (TX7 5).2.1 (TX7 5).2.2.1 ∈ jtb) (kk : jJ G X cells slots sz Sh M q' lv (.int (c) :: st)) : jJ G X cells slots sz Sh M pc lv (.ref rd :: st) := jg_Reader_token C hd hn hQ.2.1.1 hw (by rw [hQ.2.2.2.2.2.1]; exact kk)
theorem cp_token {x : Int32} (hSo : S rd) (hQ : cP S rd Sh T n M0 M K a b c d e) (C : jOk G X y cc nL R) (hd : decode cc pc = .ok (.putfield index, 3)) (hn : pc + 3 = q') (hw : Cond.fieldLink y.cls index (TX7 5).1 (TX7 5).2.1 (TX7 5).2.2.1 ∈ jtb) (kk : ∀ M' : jM, cP S rd Sh T n M0 M' K a b x d e → jJ G X cells slots sz Sh M' q' lv st) : jJ G X cells slots sz Sh M pc lv (.int x :: .ref rd :: st) := jp_Reader_token C hd hn hQ.2.1.1 hw (kk _ ⟨hQ.1.I hSo, hQ.2.1, cTp_m hQ.2.2.1 (by decide), (upI (by omega)).trans hQ.2.2.2.1, (upI (by omega)).trans hQ.2.2.2.2.1, upIs, (upI (by omega)).trans hQ.2.2.2.2.2.2.1, (upI (by omega)).trans hQ.2.2.2.2.2.2.2.1, (jup_ne (by omega)).trans hQ.2.2.2.2.2.2.2.2⟩)
theorem cg_tokenAt (hQ : cP S rd Sh T n M0 M K a b c d e) (C : jOk G X y cc nL R) (hd : decode cc pc = .ok (.getfield index, 3)) (hn : pc + 3 = q') (hw : Cond.fieldLink y.cls index (TX7 6).1 (TX7 6).2.1 (TX7 6).2.2.1 ∈ jtb) (kk : jJ G X cells slots sz Sh M q' lv (.int (d) :: st)) : jJ G X cells slots sz Sh M pc lv (.ref rd :: st) := jg_Reader_tokenAt C hd hn hQ.2.1.1 hw (by rw [hQ.2.2.2.2.2.2.1]; exact kk)
theorem cp_tokenAt {x : Int32} (hSo : S rd) (hQ : cP S rd Sh T n M0 M K a b c d e) (C : jOk G X y cc nL R) (hd : decode cc pc = .ok (.putfield index, 3)) (hn : pc + 3 = q') (hw : Cond.fieldLink y.cls index (TX7 6).1 (TX7 6).2.1 (TX7 6).2.2.1 ∈ jtb) (kk : ∀ M' : jM, cP S rd Sh T n M0 M' K a b c x e → jJ G X cells slots sz Sh M' q' lv st) : jJ G X cells slots sz Sh M pc lv (.int x :: .ref rd :: st) := jp_Reader_tokenAt C hd hn hQ.2.1.1 hw (kk _ ⟨hQ.1.I hSo, hQ.2.1, cTp_m hQ.2.2.1 (by decide), (upI (by omega)).trans hQ.2.2.2.1, (upI (by omega)).trans hQ.2.2.2.2.1, (upI (by omega)).trans hQ.2.2.2.2.2.1, upIs, (upI (by omega)).trans hQ.2.2.2.2.2.2.2.1, (jup_ne (by omega)).trans hQ.2.2.2.2.2.2.2.2⟩)
theorem cg_fault (hQ : cP S rd Sh T n M0 M K a b c d e) (C : jOk G X y cc nL R) (hd : decode cc pc = .ok (.getfield index, 3)) (hn : pc + 3 = q') (hw : Cond.fieldLink y.cls index (TX7 7).1 (TX7 7).2.1 (TX7 7).2.2.1 ∈ jtb) (kk : jJ G X cells slots sz Sh M q' lv (.int (e) :: st)) : jJ G X cells slots sz Sh M pc lv (.ref rd :: st) := jg_Reader_fault C hd hn hQ.2.1.1 hw (by rw [hQ.2.2.2.2.2.2.2.1]; exact kk)
theorem cp_fault {x : Int32} (hSo : S rd) (hQ : cP S rd Sh T n M0 M K a b c d e) (C : jOk G X y cc nL R) (hd : decode cc pc = .ok (.putfield index, 3)) (hn : pc + 3 = q') (hw : Cond.fieldLink y.cls index (TX7 7).1 (TX7 7).2.1 (TX7 7).2.2.1 ∈ jtb) (kk : ∀ M' : jM, cP S rd Sh T n M0 M' K a b c d x → jJ G X cells slots sz Sh M' q' lv st) : jJ G X cells slots sz Sh M pc lv (.int x :: .ref rd :: st) := jp_Reader_fault C hd hn hQ.2.1.1 hw (kk _ ⟨hQ.1.I hSo, hQ.2.1, cTp_m hQ.2.2.1 (by decide), (upI (by omega)).trans hQ.2.2.2.1, (upI (by omega)).trans hQ.2.2.2.2.1, (upI (by omega)).trans hQ.2.2.2.2.2.1, (upI (by omega)).trans hQ.2.2.2.2.2.2.1, upIs, (jup_ne (by omega)).trans hQ.2.2.2.2.2.2.2.2⟩)
end CROWS
set_option maxRecDepth 100000 in
set_option maxHeartbeats 4000000 in
theorem ctX7_isLetter {G : jG} {sz : Nat} {Sh : jS} {M : jM} {v : Int32} : jC G yX7_isLetter cX7_isLetter 1 (Option.some FieldType.boolean) (jrm 1 0 0) sz Sh M [.int v] (jR (some (.int (jb (nI 97 ≤ v ∧ v ≤ nI 122)))) sz Sh M) := by
  refine jC_start (by decide +kernel) (Nat.le_of_ble_eq_true rfl) (fun X C E hN0 => ?_)
  refine j_iload_n (q := 1) C dX7_isLetter_0 rfl rfl rfl ?_
  refine j_bipush (v := nI 97) (q := 3) C dX7_isLetter_1 rfl (by decide) ?_
  refine j_icmp_lt (q := 6) (tgt := 16) C dX7_isLetter_3 rfl (by decide) (fun c_3 => ?_) (fun c_3 => ?_)
  · refine j_iconst (v := nI 0) (q := 17) C dX7_isLetter_16 rfl (by decide) ?_
    exact j_zret C E dX7_isLetter_17 (by first | rfl | exact jb_nar) rfl rfl (jR_e (congrArg (fun z => some (Value.int z)) (jb_f (fun h => absurd h.1 (Int32.not_le.mpr c_3))).symm) rfl)
  · refine j_iload_n (q := 7) C dX7_isLetter_6 rfl rfl rfl ?_
    refine j_bipush (v := nI 122) (q := 9) C dX7_isLetter_7 rfl (by decide) ?_
    refine j_icmp_gt (q := 12) (tgt := 16) C dX7_isLetter_9 rfl (by decide) (fun c_9 => ?_) (fun c_9 => ?_)
    · refine j_iconst (v := nI 0) (q := 17) C dX7_isLetter_16 rfl (by decide) ?_
      exact j_zret C E dX7_isLetter_17 (by first | rfl | exact jb_nar) rfl rfl (jR_e (congrArg (fun z => some (Value.int z)) (jb_f (fun h => absurd h.2 (Int32.not_le.mpr c_9))).symm) rfl)
    · refine j_iconst (v := nI 1) (q := 13) C dX7_isLetter_12 rfl (by decide) ?_
      refine j_goto (tgt := 17) C dX7_isLetter_13 (by decide) ?_
      exact j_zret C E dX7_isLetter_17 (by first | rfl | exact jb_nar) rfl rfl (jR_e (congrArg (fun z => some (Value.int z)) (jb_t ⟨Int32.not_lt.mp c_3, Int32.not_lt.mp c_9⟩).symm) rfl)

set_option maxRecDepth 100000 in
set_option maxHeartbeats 4000000 in
theorem ctX7_isDigit {G : jG} {sz : Nat} {Sh : jS} {M : jM} {v : Int32} : jC G yX7_isDigit cX7_isDigit 1 (Option.some FieldType.boolean) (jrm 1 0 0) sz Sh M [.int v] (jR (some (.int (jb (nI 48 ≤ v ∧ v ≤ nI 57)))) sz Sh M) := by
  refine jC_start (by decide +kernel) (Nat.le_of_ble_eq_true rfl) (fun X C E hN0 => ?_)
  refine j_iload_n (q := 1) C dX7_isDigit_0 rfl rfl rfl ?_
  refine j_bipush (v := nI 48) (q := 3) C dX7_isDigit_1 rfl (by decide) ?_
  refine j_icmp_lt (q := 6) (tgt := 16) C dX7_isDigit_3 rfl (by decide) (fun c_3 => ?_) (fun c_3 => ?_)
  · refine j_iconst (v := nI 0) (q := 17) C dX7_isDigit_16 rfl (by decide) ?_
    exact j_zret C E dX7_isDigit_17 (by first | rfl | exact jb_nar) rfl rfl (jR_e (congrArg (fun z => some (Value.int z)) (jb_f (fun h => absurd h.1 (Int32.not_le.mpr c_3))).symm) rfl)
  · refine j_iload_n (q := 7) C dX7_isDigit_6 rfl rfl rfl ?_
    refine j_bipush (v := nI 57) (q := 9) C dX7_isDigit_7 rfl (by decide) ?_
    refine j_icmp_gt (q := 12) (tgt := 16) C dX7_isDigit_9 rfl (by decide) (fun c_9 => ?_) (fun c_9 => ?_)
    · refine j_iconst (v := nI 0) (q := 17) C dX7_isDigit_16 rfl (by decide) ?_
      exact j_zret C E dX7_isDigit_17 (by first | rfl | exact jb_nar) rfl rfl (jR_e (congrArg (fun z => some (Value.int z)) (jb_f (fun h => absurd h.2 (Int32.not_le.mpr c_9))).symm) rfl)
    · refine j_iconst (v := nI 1) (q := 13) C dX7_isDigit_12 rfl (by decide) ?_
      refine j_goto (tgt := 17) C dX7_isDigit_13 (by decide) ?_
      exact j_zret C E dX7_isDigit_17 (by first | rfl | exact jb_nar) rfl rfl (jR_e (congrArg (fun z => some (Value.int z)) (jb_t ⟨Int32.not_lt.mp c_3, Int32.not_lt.mp c_9⟩).symm) rfl)

theorem wc_1 : ∀ s, s < 13 → ∀ i, i < 6 → chN 0 (6 * s + i) = if i < (wsl.getD s []).length then (wsl.getD s []).getD i 0 else 32 := by decide +kernel
theorem wc_2 : ∀ s, s < 13 → ∀ i, i < (wsl.getD s []).length → isLt ((wsl.getD s []).getD i 0) = true := by decide +kernel
theorem wc_3 : ∀ s, s < 13 → (wsl.getD s []).length ≤ 5 := by decide +kernel
theorem w_cl {T : Nat → Nat} {y m s : Nat} (hs : s < 13) (hl : ∀ i, i < m → isLt (T (y + i)) = true) : (m < 6 ∧ chN 0 (6 * s + m) = 32 ∧ ∀ i, i < m → chN 0 (6 * s + i) = T (y + i)) ↔ seg T y m = wsl.getD s [] := by
  have h32 : ¬ isLt 32 = true := by decide
  have h5 := wc_3 s hs
  rw [seg_iff]
  constructor
  · rintro ⟨h1, h2, h3⟩
    have e : m = (wsl.getD s []).length := by
      rcases Nat.lt_trichotomy m (wsl.getD s []).length with c | c | c
      · rw [wc_1 s hs m h1, if_pos c] at h2
        have := wc_2 s hs m c
        rw [h2] at this
        exact absurd this h32
      · exact c
      · have g := h3 _ c
        rw [wc_1 s hs _ (by omega), if_neg (Nat.lt_irrefl _)] at g
        have := hl _ c
        rw [← g] at this
        exact absurd this h32
    exact ⟨e, fun i hi => by rw [← h3 i hi, wc_1 s hs i (by omega), if_pos (by omega)]⟩
  · rintro ⟨h1, h2⟩
    exact ⟨by omega, by rw [wc_1 s hs m (by omega), if_neg (by omega)], fun i hi => by rw [h2 i hi, wc_1 s hs i (by omega), if_pos (by omega)]⟩
set_option maxRecDepth 100000 in
set_option maxHeartbeats 4000000 in
theorem ctX7_isWord {G : jG} {sz : Nat} {Sh : jS} {M : jM} {rd : Nat} {S : Nat → Prop} {T : Nat → Nat} {n : Nat} {M0 : jM} {K : Nat → Int32} {a b c d e : Int32} (hQ : cP S rd Sh T n M0 M K a b c d e) {s y m : Nat} (hs : s < 13) (hym : y + m ≤ n) (hl : ∀ i, i < m → isLt (T (y + i)) = true) : jC G yX7_isWord cX7_isWord 6 (Option.some FieldType.boolean) (jrm 6 0 0) sz Sh M [.ref rd, .int (nI s), .int (nI y), .int (nI m)] (jR (some (.int (jb (seg T y m = wsl.getD s [])))) sz Sh M) := by
  refine jC_start (by decide +kernel) (Nat.le_of_ble_eq_true rfl) (fun X C E hN0 => ?_)
  have hn160 : n ≤ 160 := hQ.2.2.1.2.1
  refine j_iload_n (q := 1) C dX7_isWord_0 rfl rfl rfl ?_
  refine j_bipush (v := nI 6) (q := 3) C dX7_isWord_1 rfl (by decide) ?_
  first | refine j_imulN (q := 4) C dX7_isWord_3 rfl ?_ | refine j_imul (q := 4) C dX7_isWord_3 rfl ?_
  refine j_top (v' := .int (nI (6 * s))) (congrArg Value.int (by rw [show s * 6 = 6 * s from Nat.mul_comm _ _])) ?_
  refine j_istore (lv' := [(4, _), (0, _), (1, _), (2, _), (3, _)]) (q := 6) C dX7_isWord_4 rfl (by decide) rfl ?_
  refine j_iload_n (q := 7) C dX7_isWord_6 rfl rfl rfl ?_
  refine j_bipush (v := nI 6) (q := 9) C dX7_isWord_7 rfl (by decide) ?_
  refine j_icmp_ge (q := 12) (tgt := 26) C dX7_isWord_9 rfl (by decide) (fun c_9 => ?_) (fun c_9 => ?_)
  · refine j_iconst (v := nI 0) (q := 27) C dX7_isWord_26 rfl (by decide) ?_
    exact j_zret C E dX7_isWord_27 (by first | rfl | exact jb_nar) rfl rfl (jR_e (congrArg (fun z => some (Value.int z)) (jb_f (fun h => absurd ((w_cl hs hl).mpr h).1 (by have := (nI_leI (by omega) (by omega)).mp c_9; omega))).symm) rfl)
  · have hm6 : m < 6 := Nat.lt_of_not_le (fun h => c_9 (nI_le h (by omega)))
    refine j_ldcS (q := 14) C dX7_isWord_12 rfl C.2.2.2.2.2.2.2.2.1.2.1.1 ?_
    refine j_iload (q := 16) C dX7_isWord_14 rfl rfl ?_
    refine j_iload_n (q := 17) C dX7_isWord_16 rfl rfl rfl ?_
    first | refine j_iaddN (q := 18) C dX7_isWord_17 rfl ?_ | refine j_iadd (q := 18) C dX7_isWord_17 rfl ?_
    refine jK1 (by decide : (0 : Nat) < 3) C dX7_isWord_18 rfl mJ0_charAt_5068e kw_483 kw_484 kw_485 (ctJ0_charAt_5068e (by decide : (0 : Nat) < 3) (k := (6 * s + m)) (show (6 * s + m) < 78 by omega)) rfl rfl (by decide) (Nat.le_of_ble_eq_true rfl) (by decide) ?_
    refine j_bipush (v := nI 32) (q := 23) C dX7_isWord_21 rfl (by decide) ?_
    refine j_icmp_eq (q := 26) (tgt := 28) C dX7_isWord_23 rfl (by decide) (fun c_23 => ?_) (fun c_23 => ?_)
    · have h32 : chN 0 (6 * s + m) = 32 := (nI_eq (by have := chN_lt 0 (by decide) (6 * s + m) (show 6 * s + m < 78 by omega); omega) (by omega)).mp c_23
      refine j_iconst (v := nI 0) (q := 29) C dX7_isWord_28 rfl (by decide) ?_
      refine j_istore (lv' := [(5, _), (4, _), (0, _), (1, _), (2, _), (3, _)]) (q := 31) C dX7_isWord_29 rfl (by decide) rfl ?_
      have loop31 : ∀ (z k : Nat), (∀ i, i < k → chN 0 (6 * s + i) = T (y + i)) → k + z = m → jJ G X 0 0 sz Sh M 31 [(5, .int (nI k)), (4, .int (nI (6 * s))), (3, .int (nI m)), (2, .int (nI y)), (0, .ref rd)] [] := by
        intro z
        induction z with
        | zero =>
          intro k hmt hk
          refine j_iload (q := 33) C dX7_isWord_31 rfl rfl ?_
          refine j_iload_n (q := 34) C dX7_isWord_33 rfl rfl rfl ?_
          refine j_icmp_ge (q := 37) (tgt := 67) C dX7_isWord_34 rfl (by decide) (fun c_34 => ?_) (fun c_34 => absurd (nI_le (by omega) (by omega)) c_34)
          refine j_iconst (v := nI 1) (q := 68) C dX7_isWord_67 rfl (by decide) ?_
          exact j_zret C E dX7_isWord_68 (by first | rfl | exact jb_nar) rfl rfl (jR_e (congrArg (fun z => some (Value.int z)) (jb_t ((w_cl hs hl).mp ⟨hm6, h32, fun i hi => hmt i (by omega)⟩)).symm) rfl)
        | succ z ih =>
          intro k hmt hk
          refine j_iload (q := 33) C dX7_isWord_31 rfl rfl ?_
          refine j_iload_n (q := 34) C dX7_isWord_33 rfl rfl rfl ?_
          refine j_icmp_ge (q := 37) (tgt := 67) C dX7_isWord_34 rfl (by decide) (fun c_34 => absurd c_34 (fun h => absurd ((nI_leI (by omega) (by omega)).mp h) (by omega))) (fun c_34 => ?_)
          refine j_ldcS (q := 39) C dX7_isWord_37 rfl C.2.2.2.2.2.2.2.2.1.2.1.1 ?_
          refine j_iload (q := 41) C dX7_isWord_39 rfl rfl ?_
          refine j_iload (q := 43) C dX7_isWord_41 rfl rfl ?_
          first | refine j_iaddN (q := 44) C dX7_isWord_43 rfl ?_ | refine j_iadd (q := 44) C dX7_isWord_43 rfl ?_
          refine jK1 (by decide : (0 : Nat) < 3) C dX7_isWord_44 rfl mJ0_charAt_5068e kw_483 kw_484 kw_485 (ctJ0_charAt_5068e (by decide : (0 : Nat) < 3) (k := (6 * s + k)) (show (6 * s + k) < 78 by omega)) rfl rfl (by decide) (Nat.le_of_ble_eq_true rfl) (by decide) ?_
          refine j_aload_n (q := 48) C dX7_isWord_47 rfl rfl rfl ?_
          refine jg_Reader_tape (q := 51) C dX7_isWord_48 rfl hQ.2.1.1 kw_242 hQ.2.1.2.2.2.1 ?_
          refine j_iload_n (q := 52) C dX7_isWord_51 rfl rfl rfl ?_
          refine j_iload (q := 54) C dX7_isWord_52 rfl rfl ?_
          first | refine j_iaddN (q := 55) C dX7_isWord_54 rfl ?_ | refine j_iadd (q := 55) C dX7_isWord_54 rfl ?_
          refine j_bald (q := 56) C dX7_isWord_55 rfl hQ.2.1.2.1 (by omega) (by decide) ?_
          rw [hQ.2.2.1.2.2.2 (y + k) (by omega)]
          refine j_icmp_eq (q := 59) (tgt := 61) C dX7_isWord_56 rfl (by decide) (fun c_56 => ?_) (fun c_56 => ?_)
          · first | refine j_iincN (lv' := [(5, _), (4, _), (3, _), (2, _), (0, _)]) (q := 64) C dX7_isWord_61 rfl rfl (by decide) rfl ?_ | refine j_iinc (lv' := [(5, _), (4, _), (3, _), (2, _), (0, _)]) (q := 64) C dX7_isWord_61 rfl rfl rfl (by decide) rfl ?_
            refine j_goto (tgt := 31) C dX7_isWord_64 (by decide) ?_
            exact j_fewer (lv' := [(5, .int (nI (k + 1))), (4, .int (nI (6 * s))), (3, .int (nI m)), (2, .int (nI y)), (0, .ref rd)]) (by simp) (ih (k + 1) (fun i hi => by
              by_cases e : i = k
              · subst e; exact (bN_of (chN_lt 0 (by decide) (6 * s + i) (show 6 * s + i < 78 by omega)) (hQ.2.2.1.2.2.1 _)).mp c_56
              · exact hmt i (by omega)) (by omega))
          · refine j_iconst (v := nI 0) (q := 60) C dX7_isWord_59 rfl (by decide) ?_
            exact j_zret C E dX7_isWord_60 (by first | rfl | exact jb_nar) rfl rfl (jR_e (congrArg (fun z => some (Value.int z)) (jb_f (fun h => c_56 ((bN_of (chN_lt 0 (by decide) (6 * s + k) (show 6 * s + k < 78 by omega)) (hQ.2.2.1.2.2.1 _)).mpr (((w_cl hs hl).mpr h).2.2 k (by omega))))).symm) rfl)
      exact j_fewer (lv' := [(5, .int (nI 0)), (4, .int (nI (6 * s))), (3, .int (nI m)), (2, .int (nI y)), (0, .ref rd)]) (by simp) (loop31 m 0 (fun i hi => absurd hi (by omega)) (by omega))
    · refine j_iconst (v := nI 0) (q := 27) C dX7_isWord_26 rfl (by decide) ?_
      exact j_zret C E dX7_isWord_27 (by first | rfl | exact jb_nar) rfl rfl (jR_e (congrArg (fun z => some (Value.int z)) (jb_f (fun h => c_23 (by rw [((w_cl hs hl).mpr h).2.1]))).symm) rfl)

