/-- two memories that agree but in some cells, references too -/
def mE3 (S T : Nat → Prop) (M M' : jM) : Prop := (∀ b, ¬ S b → M'.1 b = M.1 b) ∧ (∀ b, ¬ S b → M'.2.1 b = M.2.1 b) ∧ ∀ b, ¬ T b → M'.2.2 b = M.2.2 b
theorem mE3.rf {S T : Nat → Prop} {M : jM} : mE3 S T M M := ⟨fun _ _ => rfl, fun _ _ => rfl, fun _ _ => rfl⟩
theorem mE3.tr {S T : Nat → Prop} {A B C : jM} (h : mE3 S T A B) (g : mE3 S T B C) : mE3 S T A C := ⟨fun b hb => (g.1 b hb).trans (h.1 b hb), fun b hb => (g.2.1 b hb).trans (h.2.1 b hb), fun b hb => (g.2.2 b hb).trans (h.2.2 b hb)⟩
theorem mEq.to3 {S T : Nat → Prop} {A B : jM} (h : mEq S A B) : mE3 S T A B := ⟨h.1, h.2.1, fun _ _ => by rw [h.2.2]⟩
theorem mE3.mono {S T S' T' : Nat → Prop} {A B : jM} (h : mE3 S T A B) (hS : ∀ b, S b → S' b) (hT : ∀ b, T b → T' b) : mE3 S' T' A B := ⟨fun b hb => h.1 b (fun z => hb (hS b z)), fun b hb => h.2.1 b (fun z => hb (hS b z)), fun b hb => h.2.2 b (fun z => hb (hT b z))⟩
theorem mE3.I {S T : Nat → Prop} {A B : jM} {a f : Nat} {x : Int32} (h : mE3 S T A B) (ha : S a) : mE3 S T A (jsI B a f x) := ⟨fun b hb => (jup_ne (fun e => hb (by rw [e]; exact ha))).trans (h.1 b hb), h.2.1, h.2.2⟩
theorem mE3.P {S T : Nat → Prop} {A B : jM} {a f : Nat} {x : Option Nat} (h : mE3 S T A B) (ha : T a) : mE3 S T A (jsP B a f x) := ⟨h.1, h.2.1, fun b hb => (jup_ne (fun e => hb (by rw [e]; exact ha))).trans (h.2.2 b hb)⟩
theorem upPs {M : jM} {a f : Nat} {x : Option Nat} : (jsP M a f x).2.2 a f = x := if_pos ⟨rfl, rfl⟩
theorem upP {M : jM} {a b f j : Nat} {x : Option Nat} (h : ¬ (b = a ∧ j = f)) : (jsP M a f x).2.2 b j = M.2.2 b j := if_neg h
theorem vK_m3 {w q pr lw : Nat} {M M' : jM} {S T : Nat → Prop} (h : mE3 S T M M') (hS : ∀ b, wS0 w q pr b ∨ (lw ≤ b ∧ b ≤ lw + 4) → ¬ S b) : vK w q pr lw M' = vK w q pr lw M := by
  have e : mEq S M (M'.1, M'.2.1, M.2.2) := ⟨h.1, h.2.1, rfl⟩
  have g := vK_mEq e hS
  exact g
/-- what a world's methods may change but prices -/
def wS1 (w q : Nat) (b : Nat) : Prop := b = w ∨ (q + 2 ≤ b ∧ b < q + 36)
theorem mEq.takeP {S : Nat → Prop} {A B : jM} {a c : Nat} (h : mEq S A B) (ha : S a) : mEq S A (cTakeP B a c) := by
  refine ⟨fun b hb => ?_, fun b hb => ?_, h.2.2⟩
  · have e : b ≠ a := fun e => hb (by rw [e]; exact ha)
    rw [← h.1 b hb]
    funext j
    exact if_neg e
  · have e : b ≠ a := fun e => hb (by rw [e]; exact ha)
    rw [← h.2.1 b hb]
    funext j
    exact if_neg e
theorem mEq.takeQ {S : Nat → Prop} {A B : jM} {a c : Nat} (h : mEq S A B) (ha : S a) : mEq S A (cTakeQ B a c) := by
  refine ⟨fun b hb => ?_, fun b hb => ?_, h.2.2⟩
  · have e : b ≠ a := fun e => hb (by rw [e]; exact ha)
    rw [← h.1 b hb]
    funext j
    exact if_neg e
  · have e : b ≠ a := fun e => hb (by rw [e]; exact ha)
    rw [← h.2.1 b hb]
    funext j
    exact if_neg e
def tP (q q2 : Nat) (M M2 : jM) (i : Nat) : Prop := ∀ f, (1 ≤ f ∧ f ≤ 5 → M2.1 (q + 2 + i) f = M.1 (q2 + 2 + i) f) ∧ (f = 0 ∨ (6 ≤ f ∧ f ≤ 9) → M2.2.1 (q + 2 + i) f = M.2.1 (q2 + 2 + i) f)
def tQ (q q2 : Nat) (M M2 : jM) (j : Nat) : Prop := ∀ f, (f ≤ 6 ∧ f ≠ 3 → M2.1 (q + 12 + j) f = M.1 (q2 + 12 + j) f) ∧ (f = 3 → M2.2.1 (q + 12 + j) f = M.2.1 (q2 + 12 + j) f)
def tH (w w2 : Nat) (M M2 : jM) : Prop := M2.1 w 6 = M.1 w2 6 ∧ M2.1 w 7 = M.1 w2 7 ∧ M2.1 w 8 = M.1 w2 8 ∧ M2.2.1 w 9 = M.2.1 w2 9 ∧ M2.2.1 w 10 = M.2.1 w2 10 ∧ M2.2.1 w 11 = M.2.1 w2 11
theorem cTakeP_at {B : jM} {a c f : Nat} : (1 ≤ f ∧ f ≤ 5 → (cTakeP B a c).1 a f = B.1 c f) ∧ (f = 0 ∨ (6 ≤ f ∧ f ≤ 9) → (cTakeP B a c).2.1 a f = B.2.1 c f) := by
  constructor
  · intro h
    rcases (show f = 1 ∨ f = 2 ∨ f = 3 ∨ f = 4 ∨ f = 5 by omega) with e | e | e | e | e <;> subst e <;> simp [cTakeP]
  · intro h
    rcases (show f = 0 ∨ f = 6 ∨ f = 7 ∨ f = 8 ∨ f = 9 by omega) with e | e | e | e | e <;> subst e <;> simp [cTakeP]
theorem cTakeQ_at {B : jM} {a c f : Nat} : (f ≤ 6 ∧ f ≠ 3 → (cTakeQ B a c).1 a f = B.1 c f) ∧ (f = 3 → (cTakeQ B a c).2.1 a f = B.2.1 c f) := by
  constructor
  · intro h
    rcases (show f = 0 ∨ f = 1 ∨ f = 2 ∨ f = 4 ∨ f = 5 ∨ f = 6 by omega) with e | e | e | e | e | e <;> subst e <;> simp [cTakeQ]
  · intro h
    subst h; simp [cTakeQ]
/-- two worlds that lie apart -/
def wTwo (w q w2 q2 : Nat) : Prop := w ≠ w2 ∧ (q + 36 ≤ q2 ∨ q2 + 36 ≤ q) ∧ (w < q2 ∨ q2 + 36 ≤ w) ∧ (w2 < q ∨ q + 36 ≤ w2)
/-- a world taken over: what moves -/
def wMv (w q w2 q2 pe pa : Nat) (M : jM) : Option Value → jM → Prop := fun r M2 => r = none ∧ mEq (wS1 w q) M M2 ∧ tH w w2 M M2 ∧ (∀ i, i < pe → tP q q2 M M2 i) ∧ ∀ j, j < pa → tQ q q2 M M2 j
theorem wMv.K {w q pr lw w2 q2 pr2 lw2 pe pa : Nat} {M M2 : jM} {r : Option Value} (h : wMv w q w2 q2 pe pa M r M2) (hpe : pe ≤ 10) (hpa : pa ≤ 24) {k : Nat} (hk : k < 6 ∨ (10 ≤ k ∧ k < 10 + 10 * pe) ∨ (110 ≤ k ∧ k < 110 + 7 * pa)) : vK w q pr lw M2 k = vK w2 q2 pr2 lw2 M k := by
  obtain ⟨-, -, ⟨h6, h7, h8, h9, h10, h11⟩, hp, hq⟩ := h
  rcases hk with hk | hk | hk
  · rcases (show k = 0 ∨ k = 1 ∨ k = 2 ∨ k = 3 ∨ k = 4 ∨ k = 5 by omega) with e | e | e | e | e | e <;> subst e
    · rw [vK_0, vK_0, h8]
    · rw [vK_1, vK_1, h9]
    · rw [vK_2, vK_2, h10]
    · rw [vK_3, vK_3, h11]
    · rw [vK_4, vK_4, h6]
    · rw [vK_5, vK_5, h7]
  · obtain ⟨i, f, hf, rfl⟩ : ∃ i f, f < 10 ∧ k = 10 + 10 * i + f := ⟨(k - 10) / 10, (k - 10) % 10, by omega, by omega⟩
    by_cases c : 1 ≤ f ∧ f ≤ 5
    · rw [vK_pI (by omega) c, vK_pI (by omega) c, (hp i (by omega) f).1 c]
    · rw [vK_pL (by omega) (by omega), vK_pL (by omega) (by omega), (hp i (by omega) f).2 (by omega)]
  · obtain ⟨i, f, hf, rfl⟩ : ∃ i f, f < 7 ∧ k = 110 + 7 * i + f := ⟨(k - 110) / 7, (k - 110) % 7, by omega, by omega⟩
    by_cases c : f = 3
    · subst c
      rw [vK_qL (by omega), vK_qL (by omega), (hq i (by omega) 3).2 rfl]
    · rw [vK_qI (by omega) (by omega), vK_qI (by omega) (by omega), (hq i (by omega) f).1 (by omega)]
theorem wMv.own {w q pr lw w2 q2 pe pa : Nat} {M M2 : jM} {r : Option Value} (h : wMv w q w2 q2 pe pa M r M2) (hD : wDis w q pr lw) {k : Nat} (hk : k = 6 ∨ 278 ≤ k) : vK w q pr lw M2 k = vK w q pr lw M k := by
  obtain ⟨-, e, -⟩ := h
  unfold wS1 at e
  unfold wDis at hD
  exact vK_same (fun h => ⟨fun z => by omega, fun z => by omega, fun z => by omega, fun z => congrFun (e.1 _ (by omega)) _, fun z => by omega, fun z => by omega, fun z => by omega⟩) (fun i f hi hf ek => by omega) (fun j f hj hf ek => by omega) (fun l hl => ⟨fun _ => congrFun (e.1 _ (by omega)) _, fun _ => congrFun (e.1 _ (by omega)) _⟩) (fun d ek => congrFun (e.2.1 _ (by omega)) _)
section JQC
variable {G : jG} {X : jX} {y : MethodName} {cc : ByteArray} {nL cells slots sz pc q : Nat} {R : Room} {Sh : jS} {M : jM} {lv lv' : List (Nat × Value)} {st : List Value}
theorem j_aastQ {a k n : Nat} {v : Option Nat} (C : jOk G X y cc nL R) (hd : decode cc pc = .ok (.aastore, 1)) (hn : pc + 1 = q) (hs : Sh a = (15, n)) (hk : k < n) (h31 : n < 2 ^ 31) (hb : ∀ b, v = some b → (Sh b).1 = 1) (kk : jJ G X cells slots sz Sh (jsP M a k v) q lv st) : jJ G X cells slots sz Sh M pc lv (va_rf v :: .int (nI k) :: .ref a :: st) := by
  cases v with
  | none => exact j_aastN C hd hn hs hk h31 kk
  | some b => exact j_aast (t0 := 3) jc1 C hd hn hs (by decide) rfl hk h31 (hb b rfl) kk
end JQC
set_option maxRecDepth 100000 in
set_option maxHeartbeats 4000000 in
theorem ctX9_takeMoving {G : jG} {sz : Nat} {Sh : jS} {M : jM} {w q pr lw jg mk w2 q2 pr2 lw2 jg2 mk2 : Nat} (hW : wLay w q pr lw jg mk Sh M) (hW2 : wLay w2 q2 pr2 lw2 jg2 mk2 Sh M) (hT : wTwo w q w2 q2) {pe pa : Nat} (hpe6 : M.1 w2 6 = nI pe) (hpe : pe ≤ 10) (hpa7 : M.1 w2 7 = nI pa) (hpa : pa ≤ 24) : jC G yX9_takeMoving cX9_takeMoving 3 (Option.none : Option FieldType) (jrm 2 0 0) sz Sh M [.ref w, .ref w2] (jT sz Sh (wMv w q w2 q2 pe pa M)) := by
  refine jC_start (by decide +kernel) (Nat.le_of_ble_eq_true rfl) (fun X C E hN0 => ?_)
  refine j_aload_n (q := 1) C dX9_takeMoving_0 rfl rfl rfl ?_
  refine j_aload_n (q := 2) C dX9_takeMoving_1 rfl rfl rfl ?_
  refine jg_World_people (q := 5) C dX9_takeMoving_2 rfl (by first | exact hW.1.1 | exact hW2.1.1) kw_204 ?_
  refine jp_World_people (q := 8) C dX9_takeMoving_5 rfl (by first | exact hW.1.1 | exact hW2.1.1) kw_204 ?_
  refine j_aload_n (q := 9) C dX9_takeMoving_8 rfl rfl rfl ?_
  refine j_aload_n (q := 10) C dX9_takeMoving_9 rfl rfl rfl ?_
  refine jg_World_written (q := 13) C dX9_takeMoving_10 rfl (by first | exact hW.1.1 | exact hW2.1.1) kw_207 ?_
  refine jp_World_written (q := 16) C dX9_takeMoving_13 rfl (by first | exact hW.1.1 | exact hW2.1.1) kw_207 ?_
  refine j_aload_n (q := 17) C dX9_takeMoving_16 rfl rfl rfl ?_
  refine j_aload_n (q := 18) C dX9_takeMoving_17 rfl rfl rfl ?_
  refine jg_World_day (q := 21) C dX9_takeMoving_18 rfl (by first | exact hW.1.1 | exact hW2.1.1) kw_209 ?_
  refine jp_World_day (q := 24) C dX9_takeMoving_21 rfl (by first | exact hW.1.1 | exact hW2.1.1) kw_209 ?_
  refine j_aload_n (q := 25) C dX9_takeMoving_24 rfl rfl rfl ?_
  refine j_aload_n (q := 26) C dX9_takeMoving_25 rfl rfl rfl ?_
  refine jg_World_state (q := 29) C dX9_takeMoving_26 rfl (by first | exact hW.1.1 | exact hW2.1.1) kw_214 ?_
  refine jp_World_state (q := 32) C dX9_takeMoving_29 rfl (by first | exact hW.1.1 | exact hW2.1.1) kw_214 ?_
  refine j_aload_n (q := 33) C dX9_takeMoving_32 rfl rfl rfl ?_
  refine j_aload_n (q := 34) C dX9_takeMoving_33 rfl rfl rfl ?_
  refine jg_World_printed (q := 37) C dX9_takeMoving_34 rfl (by first | exact hW.1.1 | exact hW2.1.1) kw_217 ?_
  refine jp_World_printed (q := 40) C dX9_takeMoving_37 rfl (by first | exact hW.1.1 | exact hW2.1.1) kw_217 ?_
  refine j_aload_n (q := 41) C dX9_takeMoving_40 rfl rfl rfl ?_
  refine j_aload_n (q := 42) C dX9_takeMoving_41 rfl rfl rfl ?_
  refine jg_World_burnt (q := 45) C dX9_takeMoving_42 rfl (by first | exact hW.1.1 | exact hW2.1.1) kw_219 ?_
  refine jp_World_burnt (q := 48) C dX9_takeMoving_45 rfl (by first | exact hW.1.1 | exact hW2.1.1) kw_219 ?_
  generalize eM6 : jsL _ w 11 _ = M6
  have hTH : tH w w2 M M6 ∧ mEq (wS1 w q) M M6 := by
    rw [← eM6]
    have hww := hT.1
    have hs : wS1 w q w := Or.inl rfl
    refine ⟨⟨?_, ?_, ?_, ?_, ?_, ?_⟩, (((((mEq.rf.I hs).I hs).I hs).L hs).L hs).L hs⟩ <;> simp [jsI, jsL, jup, Ne.symm hww]
  clear eM6
  obtain ⟨hH, hE⟩ := hTH
  have hW0 := hW
  have hW20 := hW2
  clear hW hW2
  refine j_iconst (v := nI 0) (q := 49) C dX9_takeMoving_48 rfl (by decide) ?_
  refine j_istore_n (lv' := [(2, _), (0, _), (1, _)]) (q := 50) C dX9_takeMoving_49 rfl rfl (by decide) rfl ?_
  have loop81 : ∀ (n k : Nat) (Mk : jM), tH w w2 M Mk → (∀ i, i < pe → tP q q2 M Mk i) → (∀ j, j < k → tQ q q2 M Mk j) → mEq (wS1 w q) M Mk → k + n = pa → jJ G X 0 0 sz Sh Mk 81 [(2, .int (nI k)), (0, .ref w), (1, .ref w2)] [] := by
    intro n
    induction n with
    | zero =>
      intro k Mk hH hP hQ hE hk
      have hW := hW0.mv hE
      have hW2 := hW20.mv hE
      have hk6 : Mk.1 w 6 = nI pe := hH.1.trans hpe6
      have hk7 : Mk.1 w 7 = nI pa := hH.2.1.trans hpa7
      have hTT := hT
      unfold wTwo at hTT
      have hD1 : w < q ∨ q + 36 ≤ w := hW.2.2.1
      have hD2 : w2 < q2 ∨ q2 + 36 ≤ w2 := hW2.2.2.1
      refine j_iload_n (q := 82) C dX9_takeMoving_81 rfl rfl rfl ?_
      refine j_aload_n (q := 83) C dX9_takeMoving_82 rfl rfl rfl ?_
      refine jg_World_written (q := 86) C dX9_takeMoving_83 rfl (by first | exact hW.1.1 | exact hW2.1.1) kw_207 ?_
      rw [hk7]
      refine j_icmp_ge (q := 89) (tgt := 110) C dX9_takeMoving_86 rfl (by decide) (fun c_86 => ?_) (fun c_86 => absurd (nI_le (by omega) (by omega)) c_86)
      obtain rfl : pa = k := by omega
      exact j_vret C E dX9_takeMoving_110 rfl rfl (⟨rfl, rfl, rfl, hE, hH, hP, hQ⟩)
    | succ n ih =>
      intro k Mk hH hP hQ hE hk
      have hW := hW0.mv hE
      have hW2 := hW20.mv hE
      have hk6 : Mk.1 w 6 = nI pe := hH.1.trans hpe6
      have hk7 : Mk.1 w 7 = nI pa := hH.2.1.trans hpa7
      have hTT := hT
      unfold wTwo at hTT
      have hD1 : w < q ∨ q + 36 ≤ w := hW.2.2.1
      have hD2 : w2 < q2 ∨ q2 + 36 ≤ w2 := hW2.2.2.1
      refine j_iload_n (q := 82) C dX9_takeMoving_81 rfl rfl rfl ?_
      refine j_aload_n (q := 83) C dX9_takeMoving_82 rfl rfl rfl ?_
      refine jg_World_written (q := 86) C dX9_takeMoving_83 rfl hW.1.1 kw_207 ?_
      rw [hk7]
      refine j_icmp_ge (q := 89) (tgt := 110) C dX9_takeMoving_86 rfl (by decide) (fun c_86 => absurd c_86 (fun h => absurd ((nI_leI (by omega) (by omega)).mp h) (by omega))) (fun c_86 => ?_)
      refine j_aload_n (q := 90) C dX9_takeMoving_89 rfl rfl rfl ?_
      refine jg_World_papers (q := 93) C dX9_takeMoving_90 rfl hW.1.1 kw_195 hW.2.1.2.1 ?_
      refine j_iload_n (q := 94) C dX9_takeMoving_93 rfl rfl rfl ?_
      refine j_aald (q := 95) C dX9_takeMoving_94 rfl hW.1.2.2.1 (by decide) (by omega) (by decide) (hW.2.1.2.2.2.2.2.2.2 k (by omega)) ?_
      refine j_aload_n (q := 96) C dX9_takeMoving_95 rfl rfl rfl ?_
      refine jg_World_papers (q := 99) C dX9_takeMoving_96 rfl (by first | exact hW.1.1 | exact hW2.1.1) kw_195 (by first | exact hW.2.1.2.1 | exact hW2.2.1.2.1) ?_
      refine j_iload_n (q := 100) C dX9_takeMoving_99 rfl rfl rfl ?_
      refine j_aald (q := 101) C dX9_takeMoving_100 rfl hW2.1.2.2.1 (by decide) (by omega) (by decide) (hW2.2.1.2.2.2.2.2.2.2 k (by omega)) ?_
      refine jV0 jc5 (q := 104) C dX9_takeMoving_101 rfl (hW.1.2.2.2.2.2.2.2.2 k (by omega)) mX5_take kw_727 kw_728 kw_729 (ctX5_take (hW.1.2.2.2.2.2.2.2.2 k (by omega)) (hW2.1.2.2.2.2.2.2.2.2 k (by omega)) (by omega)) rfl rfl (by decide) (Nat.le_of_ble_eq_true rfl) (by decide) ?_
      first | refine j_iincN (lv' := [(2, _), (0, _), (1, _)]) (q := 107) C dX9_takeMoving_104 rfl rfl (by decide) rfl ?_ | refine j_iinc (lv' := [(2, _), (0, _), (1, _)]) (q := 107) C dX9_takeMoving_104 rfl rfl rfl (by decide) rfl ?_
      refine j_goto (tgt := 81) C dX9_takeMoving_107 (by decide) ?_
      refine j_fewer (lv' := [(2, .int (nI (k + 1))), (0, .ref w), (1, .ref w2)]) (by simp) (ih (k + 1) (cTakeQ Mk (q + 12 + k) (q2 + 12 + k)) ?_ ?_ ?_ (hE.takeQ (by unfold wS1; omega)) (by omega))
      · have e1 : (cTakeQ Mk (q + 12 + k) (q2 + 12 + k)).1 w = Mk.1 w := funext fun j => if_neg (by omega)
        have e2 : (cTakeQ Mk (q + 12 + k) (q2 + 12 + k)).2.1 w = Mk.2.1 w := funext fun j => if_neg (by omega)
        unfold tH
        rw [e1, e2]
        exact hH
      · intro i hi f
        have e1 : (cTakeQ Mk (q + 12 + k) (q2 + 12 + k)).1 (q + 2 + i) = Mk.1 (q + 2 + i) := funext fun j => if_neg (by omega)
        have e2 : (cTakeQ Mk (q + 12 + k) (q2 + 12 + k)).2.1 (q + 2 + i) = Mk.2.1 (q + 2 + i) := funext fun j => if_neg (by omega)
        rw [e1, e2]
        exact hP i hi f
      · intro i hi f
        by_cases c : i = k
        · subst c
          have g := cTakeQ_at (B := Mk) (a := q + 12 + i) (c := q2 + 12 + i) (f := f)
          have o1 : Mk.1 (q2 + 12 + i) = M.1 (q2 + 12 + i) := hE.1 _ (by unfold wS1; omega)
          have o2 : Mk.2.1 (q2 + 12 + i) = M.2.1 (q2 + 12 + i) := hE.2.1 _ (by unfold wS1; omega)
          rw [o1, o2] at g
          exact g
        · have e1 : (cTakeQ Mk (q + 12 + k) (q2 + 12 + k)).1 (q + 12 + i) = Mk.1 (q + 12 + i) := funext fun j => if_neg (by omega)
          have e2 : (cTakeQ Mk (q + 12 + k) (q2 + 12 + k)).2.1 (q + 12 + i) = Mk.2.1 (q + 12 + i) := funext fun j => if_neg (by omega)
          rw [e1, e2]
          exact hQ i (by omega) f
  have loop50 : ∀ (n k : Nat) (Mk : jM), tH w w2 M Mk → (∀ i, i < k → tP q q2 M Mk i) → mEq (wS1 w q) M Mk → k + n = pe → jJ G X 0 0 sz Sh Mk 50 [(2, .int (nI k)), (0, .ref w), (1, .ref w2)] [] := by
    intro n
    induction n with
    | zero =>
      intro k Mk hH hP hE hk
      have hW := hW0.mv hE
      have hW2 := hW20.mv hE
      have hk6 : Mk.1 w 6 = nI pe := hH.1.trans hpe6
      have hk7 : Mk.1 w 7 = nI pa := hH.2.1.trans hpa7
      have hTT := hT
      unfold wTwo at hTT
      have hD1 : w < q ∨ q + 36 ≤ w := hW.2.2.1
      have hD2 : w2 < q2 ∨ q2 + 36 ≤ w2 := hW2.2.2.1
      refine j_iload_n (q := 51) C dX9_takeMoving_50 rfl rfl rfl ?_
      refine j_aload_n (q := 52) C dX9_takeMoving_51 rfl rfl rfl ?_
      refine jg_World_people (q := 55) C dX9_takeMoving_52 rfl (by first | exact hW.1.1 | exact hW2.1.1) kw_204 ?_
      rw [hk6]
      refine j_icmp_ge (q := 58) (tgt := 79) C dX9_takeMoving_55 rfl (by decide) (fun c_55 => ?_) (fun c_55 => absurd (nI_le (by omega) (by omega)) c_55)
      obtain rfl : pe = k := by omega
      refine j_iconst (v := nI 0) (q := 80) C dX9_takeMoving_79 rfl (by decide) ?_
      refine j_istore_n (lv' := [(2, _), (0, _), (1, _)]) (q := 81) C dX9_takeMoving_80 rfl rfl (by decide) rfl ?_
      exact j_fewer (lv' := [(2, .int (nI 0)), (0, .ref w), (1, .ref w2)]) (by simp) (loop81 pa 0 Mk hH hP (fun j hj => absurd hj (by omega)) hE (by omega))
    | succ n ih =>
      intro k Mk hH hP hE hk
      have hW := hW0.mv hE
      have hW2 := hW20.mv hE
      have hk6 : Mk.1 w 6 = nI pe := hH.1.trans hpe6
      have hk7 : Mk.1 w 7 = nI pa := hH.2.1.trans hpa7
      have hTT := hT
      unfold wTwo at hTT
      have hD1 : w < q ∨ q + 36 ≤ w := hW.2.2.1
      have hD2 : w2 < q2 ∨ q2 + 36 ≤ w2 := hW2.2.2.1
      refine j_iload_n (q := 51) C dX9_takeMoving_50 rfl rfl rfl ?_
      refine j_aload_n (q := 52) C dX9_takeMoving_51 rfl rfl rfl ?_
      refine jg_World_people (q := 55) C dX9_takeMoving_52 rfl (by first | exact hW.1.1 | exact hW2.1.1) kw_204 ?_
      rw [hk6]
      refine j_icmp_ge (q := 58) (tgt := 79) C dX9_takeMoving_55 rfl (by decide) (fun c_55 => absurd c_55 (fun h => absurd ((nI_leI (by omega) (by omega)).mp h) (by omega))) (fun c_55 => ?_)
      refine j_aload_n (q := 59) C dX9_takeMoving_58 rfl rfl rfl ?_
      refine jg_World_persons (q := 62) C dX9_takeMoving_59 rfl (by first | exact hW.1.1 | exact hW2.1.1) kw_191 (by first | exact hW.2.1.1 | exact hW2.2.1.1) ?_
      refine j_iload_n (q := 63) C dX9_takeMoving_62 rfl rfl rfl ?_
      refine j_aald (q := 64) C dX9_takeMoving_63 rfl hW.1.2.1 (by decide) (by omega) (by decide) (hW.2.1.2.2.2.2.2.2.1 k (by omega)) ?_
      refine j_aload_n (q := 65) C dX9_takeMoving_64 rfl rfl rfl ?_
      refine jg_World_persons (q := 68) C dX9_takeMoving_65 rfl (by first | exact hW.1.1 | exact hW2.1.1) kw_191 (by first | exact hW.2.1.1 | exact hW2.2.1.1) ?_
      refine j_iload_n (q := 69) C dX9_takeMoving_68 rfl rfl rfl ?_
      refine j_aald (q := 70) C dX9_takeMoving_69 rfl hW2.1.2.1 (by decide) (by omega) (by decide) (hW2.2.1.2.2.2.2.2.2.1 k (by omega)) ?_
      refine jV0 jc6 (q := 73) C dX9_takeMoving_70 rfl (hW.1.2.2.2.2.2.2.2.1 k (by omega)) mX6_take kw_723 kw_724 kw_725 (ctX6_take (hW.1.2.2.2.2.2.2.2.1 k (by omega)) (hW2.1.2.2.2.2.2.2.2.1 k (by omega)) (by omega)) rfl rfl (by decide) (Nat.le_of_ble_eq_true rfl) (by decide) ?_
      first | refine j_iincN (lv' := [(2, _), (0, _), (1, _)]) (q := 76) C dX9_takeMoving_73 rfl rfl (by decide) rfl ?_ | refine j_iinc (lv' := [(2, _), (0, _), (1, _)]) (q := 76) C dX9_takeMoving_73 rfl rfl rfl (by decide) rfl ?_
      refine j_goto (tgt := 50) C dX9_takeMoving_76 (by decide) ?_
      refine j_fewer (lv' := [(2, .int (nI (k + 1))), (0, .ref w), (1, .ref w2)]) (by simp) (ih (k + 1) (cTakeP Mk (q + 2 + k) (q2 + 2 + k)) ?_ ?_ (hE.takeP (by unfold wS1; omega)) (by omega))
      · have e1 : (cTakeP Mk (q + 2 + k) (q2 + 2 + k)).1 w = Mk.1 w := funext fun j => if_neg (by omega)
        have e2 : (cTakeP Mk (q + 2 + k) (q2 + 2 + k)).2.1 w = Mk.2.1 w := funext fun j => if_neg (by omega)
        unfold tH
        rw [e1, e2]
        exact hH
      · intro i hi f
        by_cases c : i = k
        · subst c
          have g := cTakeP_at (B := Mk) (a := q + 2 + i) (c := q2 + 2 + i) (f := f)
          have o1 : Mk.1 (q2 + 2 + i) = M.1 (q2 + 2 + i) := hE.1 _ (by unfold wS1; omega)
          have o2 : Mk.2.1 (q2 + 2 + i) = M.2.1 (q2 + 2 + i) := hE.2.1 _ (by unfold wS1; omega)
          rw [o1, o2] at g
          exact g
        · have e1 : (cTakeP Mk (q + 2 + k) (q2 + 2 + k)).1 (q + 2 + i) = Mk.1 (q + 2 + i) := funext fun j => if_neg (by omega)
          have e2 : (cTakeP Mk (q + 2 + k) (q2 + 2 + k)).2.1 (q + 2 + i) = Mk.2.1 (q + 2 + i) := funext fun j => if_neg (by omega)
          rw [e1, e2]
          exact hP i (by omega) f
  exact j_fewer (lv' := [(2, .int (nI 0)), (0, .ref w), (1, .ref w2)]) (by simp) (loop50 pe 0 M6 hH (fun i hi => absurd hi (by omega)) hE (by omega))

def lS (lw b : Nat) : Prop := b = lw ∨ b = lw + 3 ∨ b = lw + 4
def lT (lw b : Nat) : Prop := b = lw + 1 ∨ b = lw + 2
theorem lLay.mv3 {lw : Nat} {Sh : jS} {M M' : jM} {S T : Nat → Prop} (h : lLay lw Sh M) (e : mE3 S T M M') (hT : ¬ T lw) : lLay lw Sh M' := by
  unfold lLay at h ⊢
  rw [e.2.2 lw hT]
  exact h
/-- laws taken over -/
def lMv (lw lw2 : Nat) (M : jM) : Option Value → jM → Prop := fun r M2 => r = none ∧ mE3 (lS lw) (lT lw) M M2 ∧ (∀ t, t < 5 → M2.2.2 (lw + 1) t = M.2.2 (lw2 + 1) t) ∧ (∀ l, l < 12 → M2.2.2 (lw + 2) l = M.2.2 (lw2 + 2) l ∧ M2.1 (lw + 3) l = M.1 (lw2 + 3) l ∧ M2.1 (lw + 4) l = M.1 (lw2 + 4) l) ∧ M2.1 lw 4 = M.1 lw2 4 ∧ M2.2.1 = M.2.1
set_option maxRecDepth 100000 in
set_option maxHeartbeats 4000000 in
theorem ctX3_take {G : jG} {sz : Nat} {Sh : jS} {M : jM} {lw lw2 : Nat} (hL : lLay lw Sh M) (hL2 : lLay lw2 Sh M) (hap : lw + 4 < lw2 ∨ lw2 + 4 < lw) (hT5 : ∀ t, t < 5 → ∀ ca, M.2.2 (lw2 + 1) t = some ca → (Sh ca).1 = 1) (hC12 : ∀ l, l < 12 → ∀ ca, M.2.2 (lw2 + 2) l = some ca → (Sh ca).1 = 1) : jC G yX3_take cX3_take 3 (Option.none : Option FieldType) (jrm 1 0 0) sz Sh M [.ref lw, .ref lw2] (jT sz Sh (lMv lw lw2 M)) := by
  refine jC_start (by decide +kernel) (Nat.le_of_ble_eq_true rfl) (fun X C E hN0 => ?_)
  refine j_iconst (v := nI 0) (q := 1) C dX3_take_0 rfl (by decide) ?_
  refine j_istore_n (lv' := [(2, _), (0, _), (1, _)]) (q := 2) C dX3_take_1 rfl rfl (by decide) rfl ?_
  have hL0 := hL
  have hL20 := hL2
  clear hL hL2
  have loop27 : ∀ (n k : Nat) (Mk : jM), mE3 (lS lw) (lT lw) M Mk → (∀ t, t < 5 → Mk.2.2 (lw + 1) t = M.2.2 (lw2 + 1) t) → (∀ l, l < k → Mk.2.2 (lw + 2) l = M.2.2 (lw2 + 2) l ∧ Mk.1 (lw + 3) l = M.1 (lw2 + 3) l ∧ Mk.1 (lw + 4) l = M.1 (lw2 + 4) l) → Mk.2.1 = M.2.1 → k + n = 12 → jJ G X 0 0 sz Sh Mk 27 [(2, .int (nI k)), (0, .ref lw), (1, .ref lw2)] [] := by
    intro n
    induction n with
    | zero =>
      intro k Mk hE hTx hCx hLg hk
      have hL := hL0.mv3 hE (by unfold lT; omega)
      have hL2 := hL20.mv3 hE (by unfold lT; omega)
      refine j_iload_n (q := 28) C dX3_take_27 rfl rfl rfl ?_
      refine j_bipush (v := nI 12) (q := 30) C dX3_take_28 rfl (by decide) ?_
      refine j_icmp_ge (q := 33) (tgt := 75) C dX3_take_30 rfl (by decide) (fun c_30 => ?_) (fun c_30 => absurd (nI_le (by omega) (by omega)) c_30)
      obtain rfl : k = 12 := by omega
      refine j_aload_n (q := 76) C dX3_take_75 rfl rfl rfl ?_
      refine j_aload_n (q := 77) C dX3_take_76 rfl rfl rfl ?_
      refine jg_Laws_made (q := 80) C dX3_take_77 rfl hL2.1 kw_128 ?_
      refine jp_Laws_made (q := 83) C dX3_take_80 rfl hL.1 kw_128 ?_
      generalize eMF : jsI Mk lw 4 _ = MF
      have hF : MF.2.2 = Mk.2.2 ∧ MF.2.1 = Mk.2.1 ∧ (∀ b, b ≠ lw → MF.1 b = Mk.1 b) ∧ MF.1 lw 4 = Mk.1 lw2 4 := by
        rw [← eMF]
        exact ⟨rfl, rfl, fun b hb => jup_ne hb, upIs⟩
      have hEF : mE3 (lS lw) (lT lw) M MF := by rw [← eMF]; exact hE.I (Or.inl rfl)
      exact j_vret C E dX3_take_83 rfl rfl (⟨rfl, rfl, rfl, hEF, (fun t ht => by rw [hF.1]; exact hTx t ht), (fun l hl => by rw [hF.1, hF.2.2.1 _ (by omega), hF.2.2.1 _ (by omega)]; exact hCx l hl), by rw [hF.2.2.2]; exact congrFun (hE.1 _ (by unfold lS; omega)) _, hF.2.1.trans hLg⟩)
    | succ n ih =>
      intro k Mk hE hTx hCx hLg hk
      have hL := hL0.mv3 hE (by unfold lT; omega)
      have hL2 := hL20.mv3 hE (by unfold lT; omega)
      refine j_iload_n (q := 28) C dX3_take_27 rfl rfl rfl ?_
      refine j_bipush (v := nI 12) (q := 30) C dX3_take_28 rfl (by decide) ?_
      refine j_icmp_ge (q := 33) (tgt := 75) C dX3_take_30 rfl (by decide) (fun c_30 => absurd c_30 (fun h => absurd ((nI_leI (by omega) (by omega)).mp h) (by omega))) (fun c_30 => ?_)
      refine j_aload_n (q := 34) C dX3_take_33 rfl rfl rfl ?_
      refine jg_Laws_codes (q := 37) C dX3_take_34 rfl hL.1 kw_124 hL.2.2.2.2.2.2.1 ?_
      refine j_iload_n (q := 38) C dX3_take_37 rfl rfl rfl ?_
      refine j_aload_n (q := 39) C dX3_take_38 rfl rfl rfl ?_
      refine jg_Laws_codes (q := 42) C dX3_take_39 rfl hL2.1 kw_124 hL2.2.2.2.2.2.2.1 ?_
      refine j_iload_n (q := 43) C dX3_take_42 rfl rfl rfl ?_
      refine j_aaldQ (q := 44) C dX3_take_43 rfl hL2.2.2.1 (by omega) (by decide) ?_
      refine j_aastQ (q := 45) C dX3_take_44 rfl hL.2.2.1 (by omega) (by decide) (fun b eb => hC12 k (by omega) b (by rw [← eb]; exact (congrFun (hE.2.2 _ (by unfold lT; omega)) _).symm)) ?_
      refine j_aload_n (q := 46) C dX3_take_45 rfl rfl rfl ?_
      refine jg_Laws_courts (q := 49) C dX3_take_46 rfl hL.1 kw_126 ((upP (by omega)).trans hL.2.2.2.2.2.2.2.1) ?_
      refine j_iload_n (q := 50) C dX3_take_49 rfl rfl rfl ?_
      refine j_aload_n (q := 51) C dX3_take_50 rfl rfl rfl ?_
      refine jg_Laws_courts (q := 54) C dX3_take_51 rfl hL2.1 kw_126 ((upP (by omega)).trans hL2.2.2.2.2.2.2.2.1) ?_
      refine j_iload_n (q := 55) C dX3_take_54 rfl rfl rfl ?_
      refine j_iald (q := 56) C dX3_take_55 rfl hL2.2.2.2.1 (by omega) (by decide) ?_
      refine j_iast (q := 57) C dX3_take_56 rfl hL.2.2.2.1 (by omega) (by decide) ?_
      refine j_aload_n (q := 58) C dX3_take_57 rfl rfl rfl ?_
      refine jg_Laws_from (q := 61) C dX3_take_58 rfl hL.1 kw_127 ((upP (by omega)).trans hL.2.2.2.2.2.2.2.2) ?_
      refine j_iload_n (q := 62) C dX3_take_61 rfl rfl rfl ?_
      refine j_aload_n (q := 63) C dX3_take_62 rfl rfl rfl ?_
      refine jg_Laws_from (q := 66) C dX3_take_63 rfl hL2.1 kw_127 ((upP (by omega)).trans hL2.2.2.2.2.2.2.2.2) ?_
      refine j_iload_n (q := 67) C dX3_take_66 rfl rfl rfl ?_
      refine j_iald (q := 68) C dX3_take_67 rfl hL2.2.2.2.2.1 (by omega) (by decide) ?_
      refine j_iast (q := 69) C dX3_take_68 rfl hL.2.2.2.2.1 (by omega) (by decide) ?_
      first | refine j_iincN (lv' := [(2, _), (0, _), (1, _)]) (q := 72) C dX3_take_69 rfl rfl (by decide) rfl ?_ | refine j_iinc (lv' := [(2, _), (0, _), (1, _)]) (q := 72) C dX3_take_69 rfl rfl rfl (by decide) rfl ?_
      refine j_goto (tgt := 27) C dX3_take_72 (by decide) ?_
      generalize eMn : jsI (jsI (jsP Mk (lw + 2) k _) (lw + 3) k _) (lw + 4) k _ = Mn
      have hEn : mE3 (lS lw) (lT lw) M Mn := by rw [← eMn]; exact ((hE.P (Or.inr rfl)).I (Or.inr (Or.inl rfl))).I (Or.inr (Or.inr rfl))
      refine j_fewer (lv' := [(2, .int (nI (k + 1))), (0, .ref lw), (1, .ref lw2)]) (by simp) (ih (k + 1) Mn hEn (fun t ht => ?_) (fun l hl => ?_) (by rw [← eMn]; exact hLg) (by omega))
      · rw [← eMn]
        show (jsP Mk (lw + 2) k _).2.2 (lw + 1) t = _
        rw [upP (by omega)]; exact hTx t ht
      · rw [← eMn]
        by_cases c : l = k
        · subst c
          refine ⟨?_, ?_, ?_⟩
          · show (jsP Mk (lw + 2) l _).2.2 (lw + 2) l = _
            rw [upPs]; exact congrFun (hE.2.2 _ (by unfold lT; omega)) _
          · rw [upI (by omega), upIs]; exact congrFun (hE.1 _ (by unfold lS; omega)) _
          · rw [upIs, upI (by omega)]; exact congrFun (hE.1 _ (by unfold lS; omega)) _
        · refine ⟨?_, ?_, ?_⟩
          · show (jsP Mk (lw + 2) k _).2.2 (lw + 2) l = _
            rw [upP (fun e => c e.2)]; exact (hCx l (by omega)).1
          · rw [upI (by omega), upI (fun e => c e.2)]; exact (hCx l (by omega)).2.1
          · rw [upI (fun e => c e.2), upI (by omega)]; exact (hCx l (by omega)).2.2
  have loop2 : ∀ (n k : Nat) (Mk : jM), mE3 (lS lw) (lT lw) M Mk → (∀ t, t < k → Mk.2.2 (lw + 1) t = M.2.2 (lw2 + 1) t) → Mk.2.1 = M.2.1 → k + n = 5 → jJ G X 0 0 sz Sh Mk 2 [(2, .int (nI k)), (0, .ref lw), (1, .ref lw2)] [] := by
    intro n
    induction n with
    | zero =>
      intro k Mk hE hTx hLg hk
      have hL := hL0.mv3 hE (by unfold lT; omega)
      have hL2 := hL20.mv3 hE (by unfold lT; omega)
      refine j_iload_n (q := 3) C dX3_take_2 rfl rfl rfl ?_
      refine j_iconst (v := nI 5) (q := 4) C dX3_take_3 rfl (by decide) ?_
      refine j_icmp_ge (q := 7) (tgt := 25) C dX3_take_4 rfl (by decide) (fun c_4 => ?_) (fun c_4 => absurd (nI_le (by omega) (by omega)) c_4)
      refine j_iconst (v := nI 0) (q := 26) C dX3_take_25 rfl (by decide) ?_
      refine j_istore_n (lv' := [(2, _), (0, _), (1, _)]) (q := 27) C dX3_take_26 rfl rfl (by decide) rfl ?_
      obtain rfl : k = 5 := by omega
      exact j_fewer (lv' := [(2, .int (nI 0)), (0, .ref lw), (1, .ref lw2)]) (by simp) (loop27 12 0 Mk hE hTx (fun l hl => absurd hl (by omega)) hLg (by omega))
    | succ n ih =>
      intro k Mk hE hTx hLg hk
      have hL := hL0.mv3 hE (by unfold lT; omega)
      have hL2 := hL20.mv3 hE (by unfold lT; omega)
      refine j_iload_n (q := 3) C dX3_take_2 rfl rfl rfl ?_
      refine j_iconst (v := nI 5) (q := 4) C dX3_take_3 rfl (by decide) ?_
      refine j_icmp_ge (q := 7) (tgt := 25) C dX3_take_4 rfl (by decide) (fun c_4 => absurd c_4 (fun h => absurd ((nI_leI (by omega) (by omega)).mp h) (by omega))) (fun c_4 => ?_)
      refine j_aload_n (q := 8) C dX3_take_7 rfl rfl rfl ?_
      refine jg_Laws_texts (q := 11) C dX3_take_8 rfl hL.1 kw_122 hL.2.2.2.2.2.1 ?_
      refine j_iload_n (q := 12) C dX3_take_11 rfl rfl rfl ?_
      refine j_aload_n (q := 13) C dX3_take_12 rfl rfl rfl ?_
      refine jg_Laws_texts (q := 16) C dX3_take_13 rfl hL2.1 kw_122 hL2.2.2.2.2.2.1 ?_
      refine j_iload_n (q := 17) C dX3_take_16 rfl rfl rfl ?_
      refine j_aaldQ (q := 18) C dX3_take_17 rfl hL2.2.1 (by omega) (by decide) ?_
      refine j_aastQ (q := 19) C dX3_take_18 rfl hL.2.1 (by omega) (by decide) (fun b eb => hT5 k (by omega) b (by rw [← eb]; exact (congrFun (hE.2.2 _ (by unfold lT; omega)) _).symm)) ?_
      first | refine j_iincN (lv' := [(2, _), (0, _), (1, _)]) (q := 22) C dX3_take_19 rfl rfl (by decide) rfl ?_ | refine j_iinc (lv' := [(2, _), (0, _), (1, _)]) (q := 22) C dX3_take_19 rfl rfl rfl (by decide) rfl ?_
      refine j_goto (tgt := 2) C dX3_take_22 (by decide) ?_
      refine j_fewer (lv' := [(2, .int (nI (k + 1))), (0, .ref lw), (1, .ref lw2)]) (by simp) (ih (k + 1) _ (hE.P (Or.inl rfl)) (fun t ht => ?_) hLg (by omega))
      by_cases c : t = k
      · subst c
        rw [upPs]
        exact congrFun (hE.2.2 _ (by unfold lT; omega)) _
      · rw [upP (fun e => c e.2)]; exact hTx t (by omega)
  exact j_fewer (lv' := [(2, .int (nI 0)), (0, .ref lw), (1, .ref lw2)]) (by simp) (loop2 5 0 M mE3.rf (fun t ht => absurd ht (by omega)) rfl (by omega))

set_option maxRecDepth 100000 in
set_option maxHeartbeats 4000000 in
theorem ctX3_enact {G : jG} {sz : Nat} {Sh : jS} {M : jM} {lw la ca : Nat} (hL : lLay lw Sh M) (hla : M.1 lw 4 = nI la) (hl12 : la < 12) (hca : (Sh ca).1 = 1) {c e : Int32} : jC G yX3_enact cX3_enact 4 (Option.some FieldType.int) (jrm 1 0 0) sz Sh M [.ref lw, .ref ca, .int c, .int e] (jR (some (.int (nI la))) sz Sh (jsI (jsI (jsI (jsP M (lw + 2) la (some ca)) (lw + 3) la c) (lw + 4) la e) lw 4 (nI (la + 1)))) := by
  refine jC_start (by decide +kernel) (Nat.le_of_ble_eq_true rfl) (fun X C E hN0 => ?_)
  refine j_aload_n (q := 1) C dX3_enact_0 rfl rfl rfl ?_
  refine jg_Laws_made (q := 4) C dX3_enact_1 rfl hL.1 kw_128 ?_
  rw [hla]
  refine j_bipush (v := nI 12) (q := 6) C dX3_enact_4 rfl (by decide) ?_
  refine j_icmp_lt (q := 9) (tgt := 11) C dX3_enact_6 rfl (by decide) (fun c_6 => ?_) (fun c_6 => absurd (nI_lt (by omega) (by omega)) c_6)
  refine j_aload_n (q := 12) C dX3_enact_11 rfl rfl rfl ?_
  refine jg_Laws_codes (q := 15) C dX3_enact_12 rfl hL.1 kw_124 hL.2.2.2.2.2.2.1 ?_
  refine j_aload_n (q := 16) C dX3_enact_15 rfl rfl rfl ?_
  refine jg_Laws_made (q := 19) C dX3_enact_16 rfl hL.1 kw_128 ?_
  rw [hla]
  refine j_aload_n (q := 20) C dX3_enact_19 rfl rfl rfl ?_
  refine j_aast (q := 21) (t0 := 3) jc1 C dX3_enact_20 rfl hL.2.2.1 (by decide) rfl (by omega) (by decide) hca ?_
  refine j_aload_n (q := 22) C dX3_enact_21 rfl rfl rfl ?_
  refine jg_Laws_courts (q := 25) C dX3_enact_22 rfl hL.1 kw_126 ((upP (by omega)).trans hL.2.2.2.2.2.2.2.1) ?_
  refine j_aload_n (q := 26) C dX3_enact_25 rfl rfl rfl ?_
  refine jg_Laws_made (q := 29) C dX3_enact_26 rfl hL.1 kw_128 ?_
  rw [show (jsP M (lw + 2) la (some ca)).1 lw 4 = nI la from hla]
  refine j_iload_n (q := 30) C dX3_enact_29 rfl rfl rfl ?_
  refine j_iast (q := 31) C dX3_enact_30 rfl hL.2.2.2.1 (by omega) (by decide) ?_
  refine j_aload_n (q := 32) C dX3_enact_31 rfl rfl rfl ?_
  refine jg_Laws_from (q := 35) C dX3_enact_32 rfl hL.1 kw_127 ((upP (by omega)).trans hL.2.2.2.2.2.2.2.2) ?_
  refine j_aload_n (q := 36) C dX3_enact_35 rfl rfl rfl ?_
  refine jg_Laws_made (q := 39) C dX3_enact_36 rfl hL.1 kw_128 ?_
  rw [show (jsI (jsP M (lw + 2) la (some ca)) (lw + 3) la c).1 lw 4 = nI la from (upI (by omega)).trans hla]
  refine j_iload_n (q := 40) C dX3_enact_39 rfl rfl rfl ?_
  refine j_iast (q := 41) C dX3_enact_40 rfl hL.2.2.2.2.1 (by omega) (by decide) ?_
  refine j_aload_n (q := 42) C dX3_enact_41 rfl rfl rfl ?_
  refine j_dup (q := 43) C dX3_enact_42 rfl rfl ?_
  refine jg_Laws_made (q := 46) C dX3_enact_43 rfl hL.1 kw_128 ?_
  rw [show (jsI (jsI (jsP M (lw + 2) la (some ca)) (lw + 3) la c) (lw + 4) la e).1 lw 4 = nI la from (upI (by omega)).trans ((upI (by omega)).trans hla)]
  refine j_iconst (v := nI 1) (q := 47) C dX3_enact_46 rfl (by decide) ?_
  first | refine j_iaddN (q := 48) C dX3_enact_47 rfl ?_ | refine j_iadd (q := 48) C dX3_enact_47 rfl ?_
  refine jp_Laws_made (q := 51) C dX3_enact_48 rfl hL.1 kw_128 ?_
  refine j_aload_n (q := 52) C dX3_enact_51 rfl rfl rfl ?_
  refine jg_Laws_made (q := 55) C dX3_enact_52 rfl hL.1 kw_128 ?_
  refine j_iconst (v := nI 1) (q := 56) C dX3_enact_55 rfl (by decide) ?_
  refine j_isub (q := 57) C dX3_enact_56 rfl ?_
  exact j_iret C E dX3_enact_57 rfl rfl (jR_e (by rw [upIs]; exact congrArg (fun z => some (Value.int z)) (pk_sub (show 1 ≤ la + 1 by omega))) rfl)

