/-- the reference's reader: what it may have changed, and its fields -/
def rP (S : Nat → Prop) (o : Nat) (Sh : jS) (T : Nat → Nat) (n : Nat) (M0 M : jM) (K : Nat → Int32) (a b c d e f g : Int32) : Prop := mEq S M0 M ∧ (∀ j, j < 12 ∨ 17 < j ∧ j ≠ 19 → M.1 o j = M0.1 o j) ∧ rLay o Sh M ∧ rTp o M T n ∧ M.1 o 12 = a ∧ M.1 o 13 = b ∧ M.1 o 14 = c ∧ M.1 o 15 = d ∧ M.1 o 16 = e ∧ M.1 o 17 = f ∧ M.1 o 19 = g ∧ M.1 (o + 10) = K
theorem rP_of {S : Nat → Prop} {o : Nat} {Sh : jS} {T : Nat → Nat} {n : Nat} {M : jM} (hR : rLay o Sh M) (hT : rTp o M T n) : rP S o Sh T n M M (M.1 (o + 10)) (M.1 o 12) (M.1 o 13) (M.1 o 14) (M.1 o 15) (M.1 o 16) (M.1 o 17) (M.1 o 19) := ⟨mEq.rf, fun _ _ => rfl, hR, hT, rfl, rfl, rfl, rfl, rfl, rfl, rfl, rfl⟩
theorem rTp_m {o : Nat} {T : Nat → Nat} {n : Nat} {M : jM} {k : Nat} {x : Int32} (h : rTp o M T n) (hk : k ≠ 8) : rTp o (jsI M o k x) T n := ⟨(upI (by omega)).trans h.1, h.2.1, h.2.2.1, fun i hi => (upI (by omega)).trans (h.2.2.2 i hi)⟩
section QROWS
variable {G : jG} {X : jX} {y : MethodName} {cc : ByteArray} {nL cells slots sz pc q' index o : Nat} {R : Room} {Sh : jS} {M M0 : jM} {lv : List (Nat × Value)} {st : List Value} {S : Nat → Prop} {T : Nat → Nat} {n : Nat} {K : Nat → Int32} {a b c d e f g : Int32}
theorem qg_taped (hQ : rP S o Sh T n M0 M K a b c d e f g) (C : jOk G X y cc nL R) (hd : decode cc pc = .ok (.getfield index, 3)) (hn : pc + 3 = q') (hw : Cond.fieldLink y.cls index (TX11 8).1 (TX11 8).2.1 (TX11 8).2.2.1 ∈ jtb) (kk : jJ G X cells slots sz Sh M q' lv (.int (nI n) :: st)) : jJ G X cells slots sz Sh M pc lv (.ref o :: st) := jg_Model_taped C hd hn hQ.2.2.1.1.1 hw (by rw [hQ.2.2.2.1.1]; exact kk)
theorem qg_from (hQ : rP S o Sh T n M0 M K a b c d e f g) (C : jOk G X y cc nL R) (hd : decode cc pc = .ok (.getfield index, 3)) (hn : pc + 3 = q') (hw : Cond.fieldLink y.cls index (TX11 12).1 (TX11 12).2.1 (TX11 12).2.2.1 ∈ jtb) (kk : jJ G X cells slots sz Sh M q' lv (.int (a) :: st)) : jJ G X cells slots sz Sh M pc lv (.ref o :: st) := jg_Model_from C hd hn hQ.2.2.1.1.1 hw (by rw [hQ.2.2.2.2.1]; exact kk)
theorem qp_from {x : Int32} (hSo : S o) (hQ : rP S o Sh T n M0 M K a b c d e f g) (C : jOk G X y cc nL R) (hd : decode cc pc = .ok (.putfield index, 3)) (hn : pc + 3 = q') (hw : Cond.fieldLink y.cls index (TX11 12).1 (TX11 12).2.1 (TX11 12).2.2.1 ∈ jtb) (kk : ∀ M' : jM, rP S o Sh T n M0 M' K x b c d e f g → jJ G X cells slots sz Sh M' q' lv st) : jJ G X cells slots sz Sh M pc lv (.int x :: .ref o :: st) := jp_Model_from C hd hn hQ.2.2.1.1.1 hw (kk _ ⟨hQ.1.I hSo, fun j hj => (upI (by omega)).trans (hQ.2.1 j hj), hQ.2.2.1, rTp_m hQ.2.2.2.1 (by decide), upIs, (upI (by omega)).trans hQ.2.2.2.2.2.1, (upI (by omega)).trans hQ.2.2.2.2.2.2.1, (upI (by omega)).trans hQ.2.2.2.2.2.2.2.1, (upI (by omega)).trans hQ.2.2.2.2.2.2.2.2.1, (upI (by omega)).trans hQ.2.2.2.2.2.2.2.2.2.1, (upI (by omega)).trans hQ.2.2.2.2.2.2.2.2.2.2.1, (jup_ne (by omega)).trans hQ.2.2.2.2.2.2.2.2.2.2.2⟩)
theorem qg_to (hQ : rP S o Sh T n M0 M K a b c d e f g) (C : jOk G X y cc nL R) (hd : decode cc pc = .ok (.getfield index, 3)) (hn : pc + 3 = q') (hw : Cond.fieldLink y.cls index (TX11 13).1 (TX11 13).2.1 (TX11 13).2.2.1 ∈ jtb) (kk : jJ G X cells slots sz Sh M q' lv (.int (b) :: st)) : jJ G X cells slots sz Sh M pc lv (.ref o :: st) := jg_Model_to C hd hn hQ.2.2.1.1.1 hw (by rw [hQ.2.2.2.2.2.1]; exact kk)
theorem qp_to {x : Int32} (hSo : S o) (hQ : rP S o Sh T n M0 M K a b c d e f g) (C : jOk G X y cc nL R) (hd : decode cc pc = .ok (.putfield index, 3)) (hn : pc + 3 = q') (hw : Cond.fieldLink y.cls index (TX11 13).1 (TX11 13).2.1 (TX11 13).2.2.1 ∈ jtb) (kk : ∀ M' : jM, rP S o Sh T n M0 M' K a x c d e f g → jJ G X cells slots sz Sh M' q' lv st) : jJ G X cells slots sz Sh M pc lv (.int x :: .ref o :: st) := jp_Model_to C hd hn hQ.2.2.1.1.1 hw (kk _ ⟨hQ.1.I hSo, fun j hj => (upI (by omega)).trans (hQ.2.1 j hj), hQ.2.2.1, rTp_m hQ.2.2.2.1 (by decide), (upI (by omega)).trans hQ.2.2.2.2.1, upIs, (upI (by omega)).trans hQ.2.2.2.2.2.2.1, (upI (by omega)).trans hQ.2.2.2.2.2.2.2.1, (upI (by omega)).trans hQ.2.2.2.2.2.2.2.2.1, (upI (by omega)).trans hQ.2.2.2.2.2.2.2.2.2.1, (upI (by omega)).trans hQ.2.2.2.2.2.2.2.2.2.2.1, (jup_ne (by omega)).trans hQ.2.2.2.2.2.2.2.2.2.2.2⟩)
theorem qg_sort (hQ : rP S o Sh T n M0 M K a b c d e f g) (C : jOk G X y cc nL R) (hd : decode cc pc = .ok (.getfield index, 3)) (hn : pc + 3 = q') (hw : Cond.fieldLink y.cls index (TX11 14).1 (TX11 14).2.1 (TX11 14).2.2.1 ∈ jtb) (kk : jJ G X cells slots sz Sh M q' lv (.int (c) :: st)) : jJ G X cells slots sz Sh M pc lv (.ref o :: st) := jg_Model_sort C hd hn hQ.2.2.1.1.1 hw (by rw [hQ.2.2.2.2.2.2.1]; exact kk)
theorem qp_sort {x : Int32} (hSo : S o) (hQ : rP S o Sh T n M0 M K a b c d e f g) (C : jOk G X y cc nL R) (hd : decode cc pc = .ok (.putfield index, 3)) (hn : pc + 3 = q') (hw : Cond.fieldLink y.cls index (TX11 14).1 (TX11 14).2.1 (TX11 14).2.2.1 ∈ jtb) (kk : ∀ M' : jM, rP S o Sh T n M0 M' K a b x d e f g → jJ G X cells slots sz Sh M' q' lv st) : jJ G X cells slots sz Sh M pc lv (.int x :: .ref o :: st) := jp_Model_sort C hd hn hQ.2.2.1.1.1 hw (kk _ ⟨hQ.1.I hSo, fun j hj => (upI (by omega)).trans (hQ.2.1 j hj), hQ.2.2.1, rTp_m hQ.2.2.2.1 (by decide), (upI (by omega)).trans hQ.2.2.2.2.1, (upI (by omega)).trans hQ.2.2.2.2.2.1, upIs, (upI (by omega)).trans hQ.2.2.2.2.2.2.2.1, (upI (by omega)).trans hQ.2.2.2.2.2.2.2.2.1, (upI (by omega)).trans hQ.2.2.2.2.2.2.2.2.2.1, (upI (by omega)).trans hQ.2.2.2.2.2.2.2.2.2.2.1, (jup_ne (by omega)).trans hQ.2.2.2.2.2.2.2.2.2.2.2⟩)
theorem qg_which (hQ : rP S o Sh T n M0 M K a b c d e f g) (C : jOk G X y cc nL R) (hd : decode cc pc = .ok (.getfield index, 3)) (hn : pc + 3 = q') (hw : Cond.fieldLink y.cls index (TX11 15).1 (TX11 15).2.1 (TX11 15).2.2.1 ∈ jtb) (kk : jJ G X cells slots sz Sh M q' lv (.int (d) :: st)) : jJ G X cells slots sz Sh M pc lv (.ref o :: st) := jg_Model_which C hd hn hQ.2.2.1.1.1 hw (by rw [hQ.2.2.2.2.2.2.2.1]; exact kk)
theorem qp_which {x : Int32} (hSo : S o) (hQ : rP S o Sh T n M0 M K a b c d e f g) (C : jOk G X y cc nL R) (hd : decode cc pc = .ok (.putfield index, 3)) (hn : pc + 3 = q') (hw : Cond.fieldLink y.cls index (TX11 15).1 (TX11 15).2.1 (TX11 15).2.2.1 ∈ jtb) (kk : ∀ M' : jM, rP S o Sh T n M0 M' K a b c x e f g → jJ G X cells slots sz Sh M' q' lv st) : jJ G X cells slots sz Sh M pc lv (.int x :: .ref o :: st) := jp_Model_which C hd hn hQ.2.2.1.1.1 hw (kk _ ⟨hQ.1.I hSo, fun j hj => (upI (by omega)).trans (hQ.2.1 j hj), hQ.2.2.1, rTp_m hQ.2.2.2.1 (by decide), (upI (by omega)).trans hQ.2.2.2.2.1, (upI (by omega)).trans hQ.2.2.2.2.2.1, (upI (by omega)).trans hQ.2.2.2.2.2.2.1, upIs, (upI (by omega)).trans hQ.2.2.2.2.2.2.2.2.1, (upI (by omega)).trans hQ.2.2.2.2.2.2.2.2.2.1, (upI (by omega)).trans hQ.2.2.2.2.2.2.2.2.2.2.1, (jup_ne (by omega)).trans hQ.2.2.2.2.2.2.2.2.2.2.2⟩)
theorem qg_isFault (hQ : rP S o Sh T n M0 M K a b c d e f g) (C : jOk G X y cc nL R) (hd : decode cc pc = .ok (.getfield index, 3)) (hn : pc + 3 = q') (hw : Cond.fieldLink y.cls index (TX11 16).1 (TX11 16).2.1 (TX11 16).2.2.1 ∈ jtb) (kk : jJ G X cells slots sz Sh M q' lv (.int (e) :: st)) : jJ G X cells slots sz Sh M pc lv (.ref o :: st) := jg_Model_isFault C hd hn hQ.2.2.1.1.1 hw (by rw [hQ.2.2.2.2.2.2.2.2.1]; exact kk)
theorem qp_isFault {x : Int32} (hSo : S o) (hQ : rP S o Sh T n M0 M K a b c d e f g) (hz : x = 0 ∨ x = 1) (C : jOk G X y cc nL R) (hd : decode cc pc = .ok (.putfield index, 3)) (hn : pc + 3 = q') (hw : Cond.fieldLink y.cls index (TX11 16).1 (TX11 16).2.1 (TX11 16).2.2.1 ∈ jtb) (kk : ∀ M' : jM, rP S o Sh T n M0 M' K a b c d x f g → jJ G X cells slots sz Sh M' q' lv st) : jJ G X cells slots sz Sh M pc lv (.int x :: .ref o :: st) := jp_Model_isFault C hd hn hQ.2.2.1.1.1 hw hz (kk _ ⟨hQ.1.I hSo, fun j hj => (upI (by omega)).trans (hQ.2.1 j hj), hQ.2.2.1, rTp_m hQ.2.2.2.1 (by decide), (upI (by omega)).trans hQ.2.2.2.2.1, (upI (by omega)).trans hQ.2.2.2.2.2.1, (upI (by omega)).trans hQ.2.2.2.2.2.2.1, (upI (by omega)).trans hQ.2.2.2.2.2.2.2.1, upIs, (upI (by omega)).trans hQ.2.2.2.2.2.2.2.2.2.1, (upI (by omega)).trans hQ.2.2.2.2.2.2.2.2.2.2.1, (jup_ne (by omega)).trans hQ.2.2.2.2.2.2.2.2.2.2.2⟩)
theorem qg_deep (hQ : rP S o Sh T n M0 M K a b c d e f g) (C : jOk G X y cc nL R) (hd : decode cc pc = .ok (.getfield index, 3)) (hn : pc + 3 = q') (hw : Cond.fieldLink y.cls index (TX11 17).1 (TX11 17).2.1 (TX11 17).2.2.1 ∈ jtb) (kk : jJ G X cells slots sz Sh M q' lv (.int (f) :: st)) : jJ G X cells slots sz Sh M pc lv (.ref o :: st) := jg_Model_deep C hd hn hQ.2.2.1.1.1 hw (by rw [hQ.2.2.2.2.2.2.2.2.2.1]; exact kk)
theorem qp_deep {x : Int32} (hSo : S o) (hQ : rP S o Sh T n M0 M K a b c d e f g) (C : jOk G X y cc nL R) (hd : decode cc pc = .ok (.putfield index, 3)) (hn : pc + 3 = q') (hw : Cond.fieldLink y.cls index (TX11 17).1 (TX11 17).2.1 (TX11 17).2.2.1 ∈ jtb) (kk : ∀ M' : jM, rP S o Sh T n M0 M' K a b c d e x g → jJ G X cells slots sz Sh M' q' lv st) : jJ G X cells slots sz Sh M pc lv (.int x :: .ref o :: st) := jp_Model_deep C hd hn hQ.2.2.1.1.1 hw (kk _ ⟨hQ.1.I hSo, fun j hj => (upI (by omega)).trans (hQ.2.1 j hj), hQ.2.2.1, rTp_m hQ.2.2.2.1 (by decide), (upI (by omega)).trans hQ.2.2.2.2.1, (upI (by omega)).trans hQ.2.2.2.2.2.1, (upI (by omega)).trans hQ.2.2.2.2.2.2.1, (upI (by omega)).trans hQ.2.2.2.2.2.2.2.1, (upI (by omega)).trans hQ.2.2.2.2.2.2.2.2.1, upIs, (upI (by omega)).trans hQ.2.2.2.2.2.2.2.2.2.2.1, (jup_ne (by omega)).trans hQ.2.2.2.2.2.2.2.2.2.2.2⟩)
theorem qg_coded (hQ : rP S o Sh T n M0 M K a b c d e f g) (C : jOk G X y cc nL R) (hd : decode cc pc = .ok (.getfield index, 3)) (hn : pc + 3 = q') (hw : Cond.fieldLink y.cls index (TX11 19).1 (TX11 19).2.1 (TX11 19).2.2.1 ∈ jtb) (kk : jJ G X cells slots sz Sh M q' lv (.int (g) :: st)) : jJ G X cells slots sz Sh M pc lv (.ref o :: st) := jg_Model_coded C hd hn hQ.2.2.1.1.1 hw (by rw [hQ.2.2.2.2.2.2.2.2.2.2.1]; exact kk)
theorem qp_coded {x : Int32} (hSo : S o) (hQ : rP S o Sh T n M0 M K a b c d e f g) (C : jOk G X y cc nL R) (hd : decode cc pc = .ok (.putfield index, 3)) (hn : pc + 3 = q') (hw : Cond.fieldLink y.cls index (TX11 19).1 (TX11 19).2.1 (TX11 19).2.2.1 ∈ jtb) (kk : ∀ M' : jM, rP S o Sh T n M0 M' K a b c d e f x → jJ G X cells slots sz Sh M' q' lv st) : jJ G X cells slots sz Sh M pc lv (.int x :: .ref o :: st) := jp_Model_coded C hd hn hQ.2.2.1.1.1 hw (kk _ ⟨hQ.1.I hSo, fun j hj => (upI (by omega)).trans (hQ.2.1 j hj), hQ.2.2.1, rTp_m hQ.2.2.2.1 (by decide), (upI (by omega)).trans hQ.2.2.2.2.1, (upI (by omega)).trans hQ.2.2.2.2.2.1, (upI (by omega)).trans hQ.2.2.2.2.2.2.1, (upI (by omega)).trans hQ.2.2.2.2.2.2.2.1, (upI (by omega)).trans hQ.2.2.2.2.2.2.2.2.1, (upI (by omega)).trans hQ.2.2.2.2.2.2.2.2.2.1, upIs, (jup_ne (by omega)).trans hQ.2.2.2.2.2.2.2.2.2.2.2⟩)
end QROWS
def nxP (S : Nat → Prop) (o : Nat) (Sh : jS) (T : Nat → Nat) (n x : Nat) (e f g : Int32) (M0 M : jM) (K : Nat → Int32) : Prop := ∃ d, rP S o Sh T n M0 M K (nI (fr T n x)) (nI (tt T n x)) (nI (tk T n x).1) d e f g ∧ ((tk T n x).1 = 1 → d = nI (wps.getD (tk T n x).2 0))
theorem sgs_ch : ∀ k, k < 9 → chN 1 k = sgs.getD k 0 := by decide +kernel
theorem ix_sF {c : Nat} : ∀ m k, k + m ≤ 9 → ixI 1 c k m = match sF c k m with
    | some s => nI s
    | none => -1
  | 0, k, _ => rfl
  | m + 1, k, h => by
    rw [ixI, sF, sgs_ch k (by omega)]
    by_cases e : sgs.getD k 0 = c
    · rw [if_pos e, if_pos e]
    · rw [if_neg e, if_neg e]; exact ix_sF m (k + 1) (by omega)
theorem nI_nneg {k : Nat} (h : k < 2 ^ 31) : ¬ nI k < 0 := fun e => absurd ((nI_ltI (a := k) (b := 0) h (by omega)).mp e) (by omega)
theorem isLt_iff {c : Nat} : isLt c = true ↔ 97 ≤ c ∧ c ≤ 122 := decide_eq_true_iff
theorem isDg_iff {c : Nat} : isDg c = true ↔ 48 ≤ c ∧ c ≤ 57 := decide_eq_true_iff
theorem rn_go {p : Nat → Bool} {T : Nat → Nat} {n k : Nat} (hk : k < n) (h : p (T k) = true) : rn p T (n - k) k = rn p T (n - (k + 1)) (k + 1) := by
  obtain ⟨f, hf⟩ : ∃ f, n - k = f + 1 := ⟨n - k - 1, by omega⟩
  rw [hf, rn, if_pos h, show n - (k + 1) = f by omega]
theorem rn_no {p : Nat → Bool} {T : Nat → Nat} {n k : Nat} (hk : k ≤ n) (h : ¬ (k < n ∧ p (T k) = true)) : rn p T (n - k) k = k := by
  by_cases e : k = n
  · subst e; rw [Nat.sub_self]; rfl
  · obtain ⟨f, hf⟩ : ∃ f, n - k = f + 1 := ⟨n - k - 1, by omega⟩
    rw [hf, rn, if_neg (fun g => h ⟨by omega, g⟩)]
theorem sk_go {T : Nat → Nat} {n k : Nat} (hk : k < n) (h : T k = 32) : sk T (n - k) k = sk T (n - (k + 1)) (k + 1) := by
  obtain ⟨f, hf⟩ : ∃ f, n - k = f + 1 := ⟨n - k - 1, by omega⟩
  rw [hf, sk, if_pos h, show n - (k + 1) = f by omega]
theorem sk_no {T : Nat → Nat} {n k : Nat} (hk : k ≤ n) (h : ¬ (k < n ∧ T k = 32)) : sk T (n - k) k = k := by
  by_cases e : k = n
  · subst e; rw [Nat.sub_self]; rfl
  · obtain ⟨f, hf⟩ : ∃ f, n - k = f + 1 := ⟨n - k - 1, by omega⟩
    rw [hf, sk, if_neg (fun g => h ⟨by omega, g⟩)]
set_option maxRecDepth 100000 in
set_option maxHeartbeats 4000000 in
theorem ctX11_next {G : jG} {sz : Nat} {Sh : jS} {M : jM} {o : Nat} {S : Nat → Prop} (hSo : S o) {T : Nat → Nat} {n x : Nat} (hx : x ≤ n) {M0 : jM} {K : Nat → Int32} {a c d e f g : Int32} (hQ : rP S o Sh T n M0 M K a (nI x) c d e f g) : jC G yX11_next cX11_next 1 (Option.none : Option FieldType) (jrm 8 0 0) sz Sh M [.ref o] (jT sz Sh (fun r M1 => r = none ∧ nxP S o Sh T n x e f g M0 M1 K)) := by
  refine jC_start (by decide +kernel) (Nat.le_of_ble_eq_true rfl) (fun X C E hN0 => ?_)
  have hT := hQ.2.2.2.1
  have hx1 := fr_le (T := T) hx
  have hx2 := tt_le (T := T) hx
  have hn160 : n ≤ 160 := hT.2.1
  have j46 : ∀ (M : jM) (c d : Int32), rP S o Sh T n M0 M K (nI (fr T n x)) (nI x) c d e f g → jJ G X 0 0 sz Sh M 46 [(0, .ref o)] [] := by
    intro M c d hQ
    refine j_aload_n (q := 47) C dX11_next_46 rfl rfl rfl ?_
    refine j_aload_n (q := 48) C dX11_next_47 rfl rfl rfl ?_
    refine qg_from hQ (q' := 51) C dX11_next_48 rfl kw_881 ?_
    refine qp_to hSo hQ (q' := 54) C dX11_next_51 rfl kw_882 (fun M hQ => ?_)
    refine j_aload_n (q := 55) C dX11_next_54 rfl rfl rfl ?_
    refine qg_from hQ (q' := 58) C dX11_next_55 rfl kw_881 ?_
    refine j_aload_n (q := 59) C dX11_next_58 rfl rfl rfl ?_
    refine qg_taped hQ (q' := 62) C dX11_next_59 rfl kw_877 ?_
    refine j_icmp_ne (q := 65) (tgt := 71) C dX11_next_62 rfl (by decide) (fun c_62 => ?_) (fun c_62 => ?_)
    · have hne : ¬ fr T n x = n := fun h => c_62 (by rw [h])
      have hfn : fr T n x < n := by omega
      have hpos := hx2.2.2 hne
      have j111_1 : ∀ (M : jM) (c d : Int32), rP S o Sh T n M0 M K (nI (fr T n x)) (nI (fr T n x)) c d e f g → isLt (T (fr T n x)) = true → jJ G X 0 0 sz Sh M 111 [(0, .ref o)] [.int (nI 1), .ref o] := by
        intro M c d hQ hs
        have j183_1 : ∀ (M : jM) (d : Int32), rP S o Sh T n M0 M K (nI (fr T n x)) (nI (tt T n x)) (nI 1) d e f g → (hs : isLt (T (fr T n x)) = true) → (∀ i, i < tt T n x - fr T n x → isLt (T (fr T n x + i)) = true) → jJ G X 0 0 sz Sh M 183 [(0, .ref o)] [] := by
          intro M d hQ hs hlt
          refine j_aload_n (q := 184) C dX11_next_183 rfl rfl rfl ?_
          refine j_aload_n (q := 185) C dX11_next_184 rfl rfl rfl ?_
          refine qg_sort hQ (q' := 188) C dX11_next_185 rfl kw_883 ?_
          refine j_iconst (v := nI 1) (q := 189) C dX11_next_188 rfl (by decide) ?_
          refine j_icmp_ne (q := 192) (tgt := 199) C dX11_next_189 rfl (by decide) (fun c_189 => absurd rfl c_189) (fun c_189 => ?_)
          refine j_aload_n (q := 193) C dX11_next_192 rfl rfl rfl ?_
          refine jV1 jc11 (q := 196) C dX11_next_193 rfl hQ.2.2.1.1.1 mX11_wordHere kw_1030 kw_1031 kw_43 (ctX11_wordHere hQ.2.2.1 hQ.2.2.2.1 (y := fr T n x) (m := tt T n x - fr T n x) hQ.2.2.2.2.1 (by rw [hQ.2.2.2.2.2.1]; congr 1; omega) (by omega) (by omega) hlt) rfl rfl (by decide) (Nat.le_of_ble_eq_true rfl) (by decide) ?_
          refine j_goto (tgt := 225) C dX11_next_196 (by decide) ?_
          refine qp_which hSo hQ (q' := 228) C dX11_next_225 rfl kw_884 (fun M hQ => ?_)
          refine j_aload_n (q := 229) C dX11_next_228 rfl rfl rfl ?_
          refine qg_which hQ (q' := 232) C dX11_next_229 rfl kw_884 ?_
          refine j_if_lt (q := 235) (tgt := 257) C dX11_next_232 rfl (by decide) (fun c_232 => ?_) (fun c_232 => ?_)
          · refine j_aload_n (q := 258) C dX11_next_257 rfl rfl rfl ?_
            refine j_iconst (v := nI 4) (q := 259) C dX11_next_258 rfl (by decide) ?_
            refine qp_sort hSo hQ (q' := 262) C dX11_next_259 rfl kw_883 (fun M hQ => ?_)
            exact j_vret C E dX11_next_262 rfl rfl (by
                cases hw : wF T (fr T n x) (tt T n x - fr T n x) 0 13 with
                | some s => exact absurd c_232 (by unfold wRes; rw [hw]; exact nI_nneg (by have := wps_lt s (by have := wF_lt _ _ _ hw; omega); show wps.getD s 0 < _; omega))
                | none =>
                  have ek : tk T n x = (4, 0) := by unfold tk; rw [if_neg hne, if_pos hs, hw]
                  exact ⟨rfl, rfl, rfl, _, by rw [ek]; exact hQ, fun h => by rw [ek] at h; cases h⟩)
          · refine j_aload_n (q := 236) C dX11_next_235 rfl rfl rfl ?_
            refine qg_sort hQ (q' := 239) C dX11_next_236 rfl kw_883 ?_
            refine j_iconst (v := nI 2) (q := 240) C dX11_next_239 rfl (by decide) ?_
            refine j_icmp_ne (q := 243) (tgt := 262) C dX11_next_240 rfl (by decide) (fun c_240 => ?_) (fun c_240 => absurd c_240 (by decide))
            exact j_vret C E dX11_next_262 rfl rfl (by
                cases hw : wF T (fr T n x) (tt T n x - fr T n x) 0 13 with
                | none => exact absurd (show wRes T (fr T n x) (tt T n x - fr T n x) < 0 by unfold wRes; rw [hw]; decide) c_232
                | some s =>
                  have ek : tk T n x = (1, s) := by unfold tk; rw [if_neg hne, if_pos hs, hw]
                  exact ⟨rfl, rfl, rfl, _, by rw [ek]; exact hQ, fun _ => by rw [ek]; unfold wRes; rw [hw]⟩)
        have hlt : ∀ i, i < tt T n x - fr T n x → isLt (T (fr T n x + i)) = true := fun i hi => by
          have ett : tt T n x = rn isLt T (n - fr T n x) (fr T n x) := by unfold tt; rw [if_neg hne, if_pos hs]
          exact rn_all isLt T (n - fr T n x) (fr T n x) _ (by omega) (by rw [← ett]; omega)
        have loop124_1 : ∀ (m k : Nat) (M : jM) (d : Int32), k + m = n + 1 → k ≤ n → rn isLt T (n - k) k = tt T n x → rP S o Sh T n M0 M K (nI (fr T n x)) (nI k) (nI 1) d e f g → jJ G X 0 0 sz Sh M 124 [(0, .ref o)] [] := by
          intro m
          induction m with
          | zero => intro k M d h1 h2; omega
          | succ m ih0 =>
            intro k M d h1 h2 htt hQ
            have ih : ∀ k' (M : jM) (d : Int32), k' = k + 1 → k' ≤ n → rn isLt T (n - k') k' = tt T n x → rP S o Sh T n M0 M K (nI (fr T n x)) (nI k') (nI 1) d e f g → jJ G X 0 0 sz Sh M 124 [(0, .ref o)] [] := fun k' M d h3 h4 h5 h6 => ih0 k' M d (by omega) h4 h5 h6
            refine j_aload_n (q := 125) C dX11_next_124 rfl rfl rfl ?_
            refine qg_sort hQ (q' := 128) C dX11_next_125 rfl kw_883 ?_
            refine j_iconst (v := nI 1) (q := 129) C dX11_next_128 rfl (by decide) ?_
            refine j_icmp_ne (q := 132) (tgt := 147) C dX11_next_129 rfl (by decide) (fun c_129 => absurd rfl c_129) (fun c_129 => ?_)
            refine j_aload_n (q := 133) C dX11_next_132 rfl rfl rfl ?_
            refine j_aload_n (q := 134) C dX11_next_133 rfl rfl rfl ?_
            refine qg_to hQ (q' := 137) C dX11_next_134 rfl kw_882 ?_
            refine j_bipush (v := nI 97) (q := 139) C dX11_next_137 rfl (by decide) ?_
            refine j_bipush (v := nI 122) (q := 141) C dX11_next_139 rfl (by decide) ?_
            refine jV1 jc11 (q := 144) C dX11_next_141 rfl hQ.2.2.1.1.1 mX11_isIn kw_1027 kw_1028 kw_42 (ctX11_isIn hQ.2.2.1 hQ.2.2.2.1 (p := k) (lo := 97) (hi := 122) (by omega) (by decide) (by decide)) rfl rfl (by decide) (Nat.le_of_ble_eq_true rfl) (by decide) ?_
            refine j_if_ne (q := 147) (tgt := 170) C dX11_next_144 rfl (by decide) (fun c_144 => ?_) (fun c_144 => ?_)
            · have hkn : k < n := (jb_n.mp c_144).1
              refine j_aload_n (q := 171) C dX11_next_170 rfl rfl rfl ?_
              refine j_dup (q := 172) C dX11_next_171 rfl rfl ?_
              refine qg_to hQ (q' := 175) C dX11_next_172 rfl kw_882 ?_
              refine j_iconst (v := nI 1) (q := 176) C dX11_next_175 rfl (by decide) ?_
              first | refine j_iaddN (q := 177) C dX11_next_176 rfl ?_ | refine j_iadd (q := 177) C dX11_next_176 rfl ?_
              refine qp_to hSo hQ (q' := 180) C dX11_next_177 rfl kw_882 (fun M hQ => ?_)
              refine j_goto (tgt := 124) C dX11_next_180 (by decide) ?_
              exact ih (k + 1) M d rfl (by omega) (by rw [← rn_go ((jb_n.mp c_144)).1 (isLt_iff.mpr ((jb_n.mp c_144)).2)]; exact htt) hQ
            · refine j_aload_n (q := 148) C dX11_next_147 rfl rfl rfl ?_
              refine qg_sort hQ (q' := 151) C dX11_next_148 rfl kw_883 ?_
              refine j_iconst (v := nI 2) (q := 152) C dX11_next_151 rfl (by decide) ?_
              refine j_icmp_ne (q := 155) (tgt := 183) C dX11_next_152 rfl (by decide) (fun c_152 => ?_) (fun c_152 => absurd c_152 (by decide))
              have hkt : k = tt T n x := by
                rw [← htt]
                exact (rn_no (by omega) (fun h => jb_0.mp c_144 ⟨h.1, (isLt_iff.mp h.2).1, (isLt_iff.mp h.2).2⟩)).symm
              subst hkt
              exact j183_1 M d hQ hs (fun i hi => hlt i hi)
        refine qp_sort hSo hQ (q' := 114) C dX11_next_111 rfl kw_883 (fun M hQ => ?_)
        refine j_aload_n (q := 115) C dX11_next_114 rfl rfl rfl ?_
        refine j_dup (q := 116) C dX11_next_115 rfl rfl ?_
        refine qg_to hQ (q' := 119) C dX11_next_116 rfl kw_882 ?_
        refine j_iconst (v := nI 1) (q := 120) C dX11_next_119 rfl (by decide) ?_
        first | refine j_iaddN (q := 121) C dX11_next_120 rfl ?_ | refine j_iadd (q := 121) C dX11_next_120 rfl ?_
        refine qp_to hSo hQ (q' := 124) C dX11_next_121 rfl kw_882 (fun M hQ => ?_)
        exact loop124_1 (n - fr T n x) (fr T n x + 1) M d (by omega) (by omega) (by rw [← rn_go hfn hs]; unfold tt; rw [if_neg hne, if_pos hs]) hQ
      have j111_2 : ∀ (M : jM) (c d : Int32), rP S o Sh T n M0 M K (nI (fr T n x)) (nI (fr T n x)) c d e f g → ¬ isLt (T (fr T n x)) = true → isDg (T (fr T n x)) = true → jJ G X 0 0 sz Sh M 111 [(0, .ref o)] [.int (nI 2), .ref o] := by
        intro M c d hQ hnl hs
        have j183_2 : ∀ (M : jM) (d : Int32), rP S o Sh T n M0 M K (nI (fr T n x)) (nI (tt T n x)) (nI 2) d e f g → (hnl : ¬ isLt (T (fr T n x)) = true) → (hs : isDg (T (fr T n x)) = true) → jJ G X 0 0 sz Sh M 183 [(0, .ref o)] [] := by
          intro M d hQ hnl hs
          refine j_aload_n (q := 184) C dX11_next_183 rfl rfl rfl ?_
          refine j_aload_n (q := 185) C dX11_next_184 rfl rfl rfl ?_
          refine qg_sort hQ (q' := 188) C dX11_next_185 rfl kw_883 ?_
          refine j_iconst (v := nI 1) (q := 189) C dX11_next_188 rfl (by decide) ?_
          refine j_icmp_ne (q := 192) (tgt := 199) C dX11_next_189 rfl (by decide) (fun c_189 => ?_) (fun c_189 => absurd c_189 (by decide))
          refine j_aload_n (q := 200) C dX11_next_199 rfl rfl rfl ?_
          refine qg_sort hQ (q' := 203) C dX11_next_200 rfl kw_883 ?_
          refine j_iconst (v := nI 3) (q := 204) C dX11_next_203 rfl (by decide) ?_
          refine j_icmp_ne (q := 207) (tgt := 224) C dX11_next_204 rfl (by decide) (fun c_204 => ?_) (fun c_204 => absurd c_204 (by decide))
          refine j_iconst (v := nI 0) (q := 225) C dX11_next_224 rfl (by decide) ?_
          refine qp_which hSo hQ (q' := 228) C dX11_next_225 rfl kw_884 (fun M hQ => ?_)
          refine j_aload_n (q := 229) C dX11_next_228 rfl rfl rfl ?_
          refine qg_which hQ (q' := 232) C dX11_next_229 rfl kw_884 ?_
          refine j_if_lt (q := 235) (tgt := 257) C dX11_next_232 rfl (by decide) (fun c_232 => absurd c_232 (nI_nneg (by decide))) (fun c_232 => ?_)
          refine j_aload_n (q := 236) C dX11_next_235 rfl rfl rfl ?_
          refine qg_sort hQ (q' := 239) C dX11_next_236 rfl kw_883 ?_
          refine j_iconst (v := nI 2) (q := 240) C dX11_next_239 rfl (by decide) ?_
          refine j_icmp_ne (q := 243) (tgt := 262) C dX11_next_240 rfl (by decide) (fun c_240 => absurd rfl c_240) (fun c_240 => ?_)
          refine j_aload_n (q := 244) C dX11_next_243 rfl rfl rfl ?_
          refine qg_to hQ (q' := 247) C dX11_next_244 rfl kw_882 ?_
          refine j_aload_n (q := 248) C dX11_next_247 rfl rfl rfl ?_
          refine qg_from hQ (q' := 251) C dX11_next_248 rfl kw_881 ?_
          refine j_isub (q := 252) C dX11_next_251 rfl ?_
          refine j_bipush (v := nI 6) (q := 254) C dX11_next_252 rfl (by decide) ?_
          refine j_icmp_le (q := 257) (tgt := 262) C dX11_next_254 rfl (by decide) (fun c_254 => ?_) (fun c_254 => ?_)
          · exact j_vret C E dX11_next_262 rfl rfl (by
                have hlen : ¬ 6 < tt T n x - fr T n x := fun h => by
                  rw [pk_sub (by omega)] at c_254
                  exact absurd ((nI_leI (by omega) (by omega)).mp c_254) (by omega)
                have ek : tk T n x = (2, nm T (fr T n x) (tt T n x - fr T n x)) := by unfold tk; rw [if_neg hne, if_neg hnl, if_pos hs, if_neg hlen]
                exact ⟨rfl, rfl, rfl, _, by rw [ek]; exact hQ, fun h => by rw [ek] at h; cases h⟩)
          · refine j_aload_n (q := 258) C dX11_next_257 rfl rfl rfl ?_
            refine j_iconst (v := nI 4) (q := 259) C dX11_next_258 rfl (by decide) ?_
            refine qp_sort hSo hQ (q' := 262) C dX11_next_259 rfl kw_883 (fun M hQ => ?_)
            exact j_vret C E dX11_next_262 rfl rfl (by
                have hlen : 6 < tt T n x - fr T n x := Nat.lt_of_not_le (fun h => c_254 (by rw [pk_sub (by omega)]; exact nI_le (by omega) (by omega)))
                have ek : tk T n x = (4, 0) := by unfold tk; rw [if_neg hne, if_neg hnl, if_pos hs, if_pos hlen]
                exact ⟨rfl, rfl, rfl, _, by rw [ek]; exact hQ, fun h => by rw [ek] at h; cases h⟩)
        have loop124_2 : ∀ (m k : Nat) (M : jM) (d : Int32), k + m = n + 1 → k ≤ n → rn isDg T (n - k) k = tt T n x → rP S o Sh T n M0 M K (nI (fr T n x)) (nI k) (nI 2) d e f g → jJ G X 0 0 sz Sh M 124 [(0, .ref o)] [] := by
          intro m
          induction m with
          | zero => intro k M d h1 h2; omega
          | succ m ih0 =>
            intro k M d h1 h2 htt hQ
            have ih : ∀ k' (M : jM) (d : Int32), k' = k + 1 → k' ≤ n → rn isDg T (n - k') k' = tt T n x → rP S o Sh T n M0 M K (nI (fr T n x)) (nI k') (nI 2) d e f g → jJ G X 0 0 sz Sh M 124 [(0, .ref o)] [] := fun k' M d h3 h4 h5 h6 => ih0 k' M d (by omega) h4 h5 h6
            refine j_aload_n (q := 125) C dX11_next_124 rfl rfl rfl ?_
            refine qg_sort hQ (q' := 128) C dX11_next_125 rfl kw_883 ?_
            refine j_iconst (v := nI 1) (q := 129) C dX11_next_128 rfl (by decide) ?_
            refine j_icmp_ne (q := 132) (tgt := 147) C dX11_next_129 rfl (by decide) (fun c_129 => ?_) (fun c_129 => absurd c_129 (by decide))
            refine j_aload_n (q := 148) C dX11_next_147 rfl rfl rfl ?_
            refine qg_sort hQ (q' := 151) C dX11_next_148 rfl kw_883 ?_
            refine j_iconst (v := nI 2) (q := 152) C dX11_next_151 rfl (by decide) ?_
            refine j_icmp_ne (q := 155) (tgt := 183) C dX11_next_152 rfl (by decide) (fun c_152 => absurd rfl c_152) (fun c_152 => ?_)
            refine j_aload_n (q := 156) C dX11_next_155 rfl rfl rfl ?_
            refine j_aload_n (q := 157) C dX11_next_156 rfl rfl rfl ?_
            refine qg_to hQ (q' := 160) C dX11_next_157 rfl kw_882 ?_
            refine j_bipush (v := nI 48) (q := 162) C dX11_next_160 rfl (by decide) ?_
            refine j_bipush (v := nI 57) (q := 164) C dX11_next_162 rfl (by decide) ?_
            refine jV1 jc11 (q := 167) C dX11_next_164 rfl hQ.2.2.1.1.1 mX11_isIn kw_1027 kw_1028 kw_42 (ctX11_isIn hQ.2.2.1 hQ.2.2.2.1 (p := k) (lo := 48) (hi := 57) (by omega) (by decide) (by decide)) rfl rfl (by decide) (Nat.le_of_ble_eq_true rfl) (by decide) ?_
            refine j_if_eq (q := 170) (tgt := 183) C dX11_next_167 rfl (by decide) (fun c_167 => ?_) (fun c_167 => ?_)
            · have hkt : k = tt T n x := by
                rw [← htt]
                exact (rn_no (by omega) (fun h => jb_0.mp c_167 ⟨h.1, (isDg_iff.mp h.2).1, (isDg_iff.mp h.2).2⟩)).symm
              subst hkt
              exact j183_2 M d hQ hnl hs
            · have hkn : k < n := (jb_n.mp c_167).1
              refine j_aload_n (q := 171) C dX11_next_170 rfl rfl rfl ?_
              refine j_dup (q := 172) C dX11_next_171 rfl rfl ?_
              refine qg_to hQ (q' := 175) C dX11_next_172 rfl kw_882 ?_
              refine j_iconst (v := nI 1) (q := 176) C dX11_next_175 rfl (by decide) ?_
              first | refine j_iaddN (q := 177) C dX11_next_176 rfl ?_ | refine j_iadd (q := 177) C dX11_next_176 rfl ?_
              refine qp_to hSo hQ (q' := 180) C dX11_next_177 rfl kw_882 (fun M hQ => ?_)
              refine j_goto (tgt := 124) C dX11_next_180 (by decide) ?_
              exact ih (k + 1) M d rfl (by omega) (by rw [← rn_go ((jb_n.mp c_167)).1 (isDg_iff.mpr ((jb_n.mp c_167)).2)]; exact htt) hQ
        refine qp_sort hSo hQ (q' := 114) C dX11_next_111 rfl kw_883 (fun M hQ => ?_)
        refine j_aload_n (q := 115) C dX11_next_114 rfl rfl rfl ?_
        refine j_dup (q := 116) C dX11_next_115 rfl rfl ?_
        refine qg_to hQ (q' := 119) C dX11_next_116 rfl kw_882 ?_
        refine j_iconst (v := nI 1) (q := 120) C dX11_next_119 rfl (by decide) ?_
        first | refine j_iaddN (q := 121) C dX11_next_120 rfl ?_ | refine j_iadd (q := 121) C dX11_next_120 rfl ?_
        refine qp_to hSo hQ (q' := 124) C dX11_next_121 rfl kw_882 (fun M hQ => ?_)
        exact loop124_2 (n - fr T n x) (fr T n x + 1) M d (by omega) (by omega) (by rw [← rn_go hfn hs]; unfold tt; rw [if_neg hne, if_neg hnl, if_pos hs]) hQ
      have j111_3 : ∀ (M : jM) (c d : Int32), rP S o Sh T n M0 M K (nI (fr T n x)) (nI (fr T n x)) c d e f g → ¬ isLt (T (fr T n x)) = true → ¬ isDg (T (fr T n x)) = true → jJ G X 0 0 sz Sh M 111 [(0, .ref o)] [.int (nI 3), .ref o] := by
        intro M c d hQ hnl hnd
        have j183_3 : ∀ (M : jM) (d : Int32), rP S o Sh T n M0 M K (nI (fr T n x)) (nI (tt T n x)) (nI 3) d e f g → (hnl : ¬ isLt (T (fr T n x)) = true) → (hnd : ¬ isDg (T (fr T n x)) = true) → jJ G X 0 0 sz Sh M 183 [(0, .ref o)] [] := by
          intro M d hQ hnl hnd
          refine j_aload_n (q := 184) C dX11_next_183 rfl rfl rfl ?_
          refine j_aload_n (q := 185) C dX11_next_184 rfl rfl rfl ?_
          refine qg_sort hQ (q' := 188) C dX11_next_185 rfl kw_883 ?_
          refine j_iconst (v := nI 1) (q := 189) C dX11_next_188 rfl (by decide) ?_
          refine j_icmp_ne (q := 192) (tgt := 199) C dX11_next_189 rfl (by decide) (fun c_189 => ?_) (fun c_189 => absurd c_189 (by decide))
          refine j_aload_n (q := 200) C dX11_next_199 rfl rfl rfl ?_
          refine qg_sort hQ (q' := 203) C dX11_next_200 rfl kw_883 ?_
          refine j_iconst (v := nI 3) (q := 204) C dX11_next_203 rfl (by decide) ?_
          refine j_icmp_ne (q := 207) (tgt := 224) C dX11_next_204 rfl (by decide) (fun c_204 => absurd rfl c_204) (fun c_204 => ?_)
          refine j_ldcS (q := 209) C dX11_next_207 rfl C.2.2.2.2.2.2.2.2.1.2.1.2.2.2 ?_
          refine j_aload_n (q := 210) C dX11_next_209 rfl rfl rfl ?_
          refine jg_Model_tape (q := 213) C dX11_next_210 rfl hQ.2.2.1.1.1 kw_876 hQ.2.2.1.2.2.2.2.2.2.1 ?_
          refine j_aload_n (q := 214) C dX11_next_213 rfl rfl rfl ?_
          refine qg_from hQ (q' := 217) C dX11_next_214 rfl kw_881 ?_
          refine j_iald (q := 218) C dX11_next_217 rfl hQ.2.2.1.1.2.2.2.2.2.2.1 (by omega) (by decide) ?_
          rw [hQ.2.2.2.1.2.2.2 (fr T n x) (by omega)]
          refine jK1 (by decide : (1 : Nat) < 3) C dX11_next_218 rfl mJ0_indexOf_0f7a4 kw_1035 kw_1036 kw_1037 (ctJ0_indexOf_0f7a4 (by decide : (1 : Nat) < 3) (c := T (fr T n x)) (hQ.2.2.2.1.2.2.1 _) (by decide)) rfl rfl (by decide) (Nat.le_of_ble_eq_true rfl) (by decide) ?_
          refine j_goto (tgt := 225) C dX11_next_221 (by decide) ?_
          refine qp_which hSo hQ (q' := 228) C dX11_next_225 rfl kw_884 (fun M hQ => ?_)
          refine j_aload_n (q := 229) C dX11_next_228 rfl rfl rfl ?_
          refine qg_which hQ (q' := 232) C dX11_next_229 rfl kw_884 ?_
          refine j_if_lt (q := 235) (tgt := 257) C dX11_next_232 rfl (by decide) (fun c_232 => ?_) (fun c_232 => ?_)
          · refine j_aload_n (q := 258) C dX11_next_257 rfl rfl rfl ?_
            refine j_iconst (v := nI 4) (q := 259) C dX11_next_258 rfl (by decide) ?_
            refine qp_sort hSo hQ (q' := 262) C dX11_next_259 rfl kw_883 (fun M hQ => ?_)
            exact j_vret C E dX11_next_262 rfl rfl (by
                rw [show (chL 1).length = 9 from rfl, ix_sF 9 0 (by omega)] at c_232
                cases hw : sF (T (fr T n x)) 0 9 with
                | some s => rw [hw] at c_232; exact absurd c_232 (nI_nneg (by have := sF_lt _ _ _ hw; omega))
                | none =>
                  have ek : tk T n x = (4, 0) := by unfold tk; rw [if_neg hne, if_neg hnl, if_neg hnd, hw]
                  exact ⟨rfl, rfl, rfl, _, by rw [ek]; exact hQ, fun h => by rw [ek] at h; cases h⟩)
          · refine j_aload_n (q := 236) C dX11_next_235 rfl rfl rfl ?_
            refine qg_sort hQ (q' := 239) C dX11_next_236 rfl kw_883 ?_
            refine j_iconst (v := nI 2) (q := 240) C dX11_next_239 rfl (by decide) ?_
            refine j_icmp_ne (q := 243) (tgt := 262) C dX11_next_240 rfl (by decide) (fun c_240 => ?_) (fun c_240 => absurd c_240 (by decide))
            exact j_vret C E dX11_next_262 rfl rfl (by
                rw [show (chL 1).length = 9 from rfl, ix_sF 9 0 (by omega)] at c_232
                cases hw : sF (T (fr T n x)) 0 9 with
                | none => rw [hw] at c_232; exact absurd (show (-1 : Int32) < 0 by decide) c_232
                | some s =>
                  have ek : tk T n x = (3, s) := by unfold tk; rw [if_neg hne, if_neg hnl, if_neg hnd, hw]
                  exact ⟨rfl, rfl, rfl, _, by rw [ek]; exact hQ, fun h => by rw [ek] at h; cases h⟩)
        refine qp_sort hSo hQ (q' := 114) C dX11_next_111 rfl kw_883 (fun M hQ => ?_)
        refine j_aload_n (q := 115) C dX11_next_114 rfl rfl rfl ?_
        refine j_dup (q := 116) C dX11_next_115 rfl rfl ?_
        refine qg_to hQ (q' := 119) C dX11_next_116 rfl kw_882 ?_
        refine j_iconst (v := nI 1) (q := 120) C dX11_next_119 rfl (by decide) ?_
        first | refine j_iaddN (q := 121) C dX11_next_120 rfl ?_ | refine j_iadd (q := 121) C dX11_next_120 rfl ?_
        refine qp_to hSo hQ (q' := 124) C dX11_next_121 rfl kw_882 (fun M hQ => ?_)
        refine j_aload_n (q := 125) C dX11_next_124 rfl rfl rfl ?_
        refine qg_sort hQ (q' := 128) C dX11_next_125 rfl kw_883 ?_
        refine j_iconst (v := nI 1) (q := 129) C dX11_next_128 rfl (by decide) ?_
        refine j_icmp_ne (q := 132) (tgt := 147) C dX11_next_129 rfl (by decide) (fun c_129 => ?_) (fun c_129 => absurd c_129 (by decide))
        refine j_aload_n (q := 148) C dX11_next_147 rfl rfl rfl ?_
        refine qg_sort hQ (q' := 151) C dX11_next_148 rfl kw_883 ?_
        refine j_iconst (v := nI 2) (q := 152) C dX11_next_151 rfl (by decide) ?_
        refine j_icmp_ne (q := 155) (tgt := 183) C dX11_next_152 rfl (by decide) (fun c_152 => ?_) (fun c_152 => absurd c_152 (by decide))
        have ett : tt T n x = fr T n x + 1 := by unfold tt; rw [if_neg hne, if_neg hnl, if_neg hnd]
        have hQ : rP S o Sh T n M0 M K (nI (fr T n x)) (nI (tt T n x)) (nI 3) d e f g := by rw [ett]; exact hQ
        exact j183_3 M d hQ hnl hnd
      refine j_aload_n (q := 72) C dX11_next_71 rfl rfl rfl ?_
      refine j_aload_n (q := 73) C dX11_next_72 rfl rfl rfl ?_
      refine j_aload_n (q := 74) C dX11_next_73 rfl rfl rfl ?_
      refine qg_from hQ (q' := 77) C dX11_next_74 rfl kw_881 ?_
      refine j_bipush (v := nI 97) (q := 79) C dX11_next_77 rfl (by decide) ?_
      refine j_bipush (v := nI 122) (q := 81) C dX11_next_79 rfl (by decide) ?_
      refine jV1 jc11 (q := 84) C dX11_next_81 rfl hQ.2.2.1.1.1 mX11_isIn kw_1027 kw_1028 kw_42 (ctX11_isIn hQ.2.2.1 hQ.2.2.2.1 (p := fr T n x) (lo := 97) (hi := 122) (by omega) (by decide) (by decide)) rfl rfl (by decide) (Nat.le_of_ble_eq_true rfl) (by decide) ?_
      refine j_if_eq (q := 87) (tgt := 91) C dX11_next_84 rfl (by decide) (fun c_84 => ?_) (fun c_84 => ?_)
      · refine j_aload_n (q := 92) C dX11_next_91 rfl rfl rfl ?_
        refine j_aload_n (q := 93) C dX11_next_92 rfl rfl rfl ?_
        refine qg_from hQ (q' := 96) C dX11_next_93 rfl kw_881 ?_
        refine j_bipush (v := nI 48) (q := 98) C dX11_next_96 rfl (by decide) ?_
        refine j_bipush (v := nI 57) (q := 100) C dX11_next_98 rfl (by decide) ?_
        refine jV1 jc11 (q := 103) C dX11_next_100 rfl hQ.2.2.1.1.1 mX11_isIn kw_1027 kw_1028 kw_42 (ctX11_isIn hQ.2.2.1 hQ.2.2.2.1 (p := fr T n x) (lo := 48) (hi := 57) (by omega) (by decide) (by decide)) rfl rfl (by decide) (Nat.le_of_ble_eq_true rfl) (by decide) ?_
        refine j_if_eq (q := 106) (tgt := 110) C dX11_next_103 rfl (by decide) (fun c_103 => ?_) (fun c_103 => ?_)
        · refine j_iconst (v := nI 3) (q := 111) C dX11_next_110 rfl (by decide) ?_
          exact j111_3 M c d hQ (fun h => jb_0.mp c_84 ⟨hfn, isLt_iff.mp h⟩) (fun h => jb_0.mp c_103 ⟨hfn, isDg_iff.mp h⟩)
        · refine j_iconst (v := nI 2) (q := 107) C dX11_next_106 rfl (by decide) ?_
          refine j_goto (tgt := 111) C dX11_next_107 (by decide) ?_
          exact j111_2 M c d hQ (fun h => jb_0.mp c_84 ⟨hfn, isLt_iff.mp h⟩) (isDg_iff.mpr (jb_n.mp c_103).2)
      · refine j_iconst (v := nI 1) (q := 88) C dX11_next_87 rfl (by decide) ?_
        refine j_goto (tgt := 111) C dX11_next_88 (by decide) ?_
        exact j111_1 M c d hQ (isLt_iff.mpr (jb_n.mp c_84).2)
    · have efr : fr T n x = n := (nI_eq (by omega) (by omega)).mp c_62
      refine j_aload_n (q := 66) C dX11_next_65 rfl rfl rfl ?_
      refine j_iconst (v := nI 0) (q := 67) C dX11_next_66 rfl (by decide) ?_
      refine qp_sort hSo hQ (q' := 70) C dX11_next_67 rfl kw_883 (fun M hQ => ?_)
      exact j_vret C E dX11_next_70 rfl rfl (⟨rfl, rfl, rfl, _, by rw [tk_end.mpr efr]; show rP _ _ _ _ _ _ _ _ _ _ (nI 0) _ _ _ _; rw [show tt T n x = fr T n x by unfold tt; rw [if_pos efr]; exact efr.symm]; exact hQ, fun h => by rw [tk_end.mpr efr] at h; cases h⟩)
  have loop8 : ∀ (m k : Nat) (M : jM), k + m = n + 1 → k ≤ n → sk T (n - k) k = fr T n x → rP S o Sh T n M0 M K (nI k) (nI x) c d e f g → jJ G X 0 0 sz Sh M 8 [(0, .ref o)] [] := by
    intro m
    induction m with
    | zero => intro k M h1 h2; omega
    | succ m ih0 =>
      intro k M h1 h2 hsk hQ
      have ih : ∀ k' (M : jM), k' = k + 1 → k' ≤ n → sk T (n - k') k' = fr T n x → rP S o Sh T n M0 M K (nI k') (nI x) c d e f g → jJ G X 0 0 sz Sh M 8 [(0, .ref o)] [] := fun k' M h3 h4 h5 h6 => ih0 k' M (by omega) h4 h5 h6
      refine j_aload_n (q := 9) C dX11_next_8 rfl rfl rfl ?_
      refine qg_from hQ (q' := 12) C dX11_next_9 rfl kw_881 ?_
      refine j_aload_n (q := 13) C dX11_next_12 rfl rfl rfl ?_
      refine qg_taped hQ (q' := 16) C dX11_next_13 rfl kw_877 ?_
      refine j_icmp_ge (q := 19) (tgt := 46) C dX11_next_16 rfl (by decide) (fun c_16 => ?_) (fun c_16 => ?_)
      · have ek : k = fr T n x := by
          rw [← hsk]
          exact (sk_no (by omega) (fun h => absurd ((nI_leI (by omega) (by omega)).mp c_16) (by omega))).symm
        subst ek
        exact j46 M c d hQ
      · have hkn : k < n := Nat.lt_of_not_le (fun h => c_16 (nI_le h (by omega)))
        refine j_aload_n (q := 20) C dX11_next_19 rfl rfl rfl ?_
        refine jg_Model_tape (q := 23) C dX11_next_20 rfl hQ.2.2.1.1.1 kw_876 hQ.2.2.1.2.2.2.2.2.2.1 ?_
        refine j_aload_n (q := 24) C dX11_next_23 rfl rfl rfl ?_
        refine qg_from hQ (q' := 27) C dX11_next_24 rfl kw_881 ?_
        refine j_iald (q := 28) C dX11_next_27 rfl hQ.2.2.1.1.2.2.2.2.2.2.1 (by omega) (by decide) ?_
        rw [hQ.2.2.2.1.2.2.2 k hkn]
        refine j_bipush (v := nI 32) (q := 30) C dX11_next_28 rfl (by decide) ?_
        refine j_icmp_ne (q := 33) (tgt := 46) C dX11_next_30 rfl (by decide) (fun c_30 => ?_) (fun c_30 => ?_)
        · have ek : k = fr T n x := by
            rw [← hsk]
            exact (sk_no (by omega) (fun h => c_30 (by rw [h.2]))).symm
          subst ek
          exact j46 M c d hQ
        · have c_30 : T k = 32 := (nI_eq (by have := hQ.2.2.2.1.2.2.1 k; omega) (by omega)).mp c_30
          refine j_aload_n (q := 34) C dX11_next_33 rfl rfl rfl ?_
          refine j_dup (q := 35) C dX11_next_34 rfl rfl ?_
          refine qg_from hQ (q' := 38) C dX11_next_35 rfl kw_881 ?_
          refine j_iconst (v := nI 1) (q := 39) C dX11_next_38 rfl (by decide) ?_
          first | refine j_iaddN (q := 40) C dX11_next_39 rfl ?_ | refine j_iadd (q := 40) C dX11_next_39 rfl ?_
          refine qp_from hSo hQ (q' := 43) C dX11_next_40 rfl kw_881 (fun M hQ => ?_)
          refine j_goto (tgt := 8) C dX11_next_43 (by decide) ?_
          exact ih (k + 1) M rfl (by omega) (by rw [← sk_go hkn c_30]; exact hsk) hQ
  refine j_aload_n (q := 1) C dX11_next_0 rfl rfl rfl ?_
  refine j_aload_n (q := 2) C dX11_next_1 rfl rfl rfl ?_
  refine qg_to hQ (q' := 5) C dX11_next_2 rfl kw_882 ?_
  refine qp_from hSo hQ (q' := 8) C dX11_next_5 rfl kw_881 (fun M hQ => ?_)
  exact loop8 (n + 1 - x) x M (by omega) hx rfl hQ

