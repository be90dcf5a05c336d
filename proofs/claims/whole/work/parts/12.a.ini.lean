/-- a run of new cells: shapes, references, all numbers 0 -/
def rg (lo n : Nat) (F : Nat → Nat × Nat) (P : Nat → Nat → Option Nat) (S : jS) (M : jM) : Prop := ∀ k, k < n → S (lo + k) = F k ∧ M.2.2 (lo + k) = P k ∧ M.1 (lo + k) = (fun _ => 0) ∧ M.2.1 (lo + k) = (fun _ => 0)
/-- outside of a run nothing has changed but a's references -/
def alA (lo n a : Nat) (S S2 : jS) (M M2 : jM) : Prop := ∀ b, ¬ (lo ≤ b ∧ b < lo + n) → S2 b = S b ∧ M2.1 b = M.1 b ∧ M2.2.1 b = M.2.1 b ∧ (b ≠ a → M2.2.2 b = M.2.2 b)
section RG
variable {lo n a r c k : Nat} {F : Nat → Nat × Nat} {P P2 : Nat → Nat → Option Nat} {S S1 : jS} {M M1 : jM} {p : Nat × Nat} {v : Option Nat}
theorem rg_0 : rg lo 0 F P S M := fun k hk => absurd hk (by omega)
theorem rg_new (h : rg lo n F P S M) (hF : F n = p) (hP : P n = fun _ => none) : rg lo (n + 1) F P (va_up S (lo + n) p) (jz M (lo + n)) := fun k hk => by
  by_cases e : k = n
  · subst e
    rw [va_up_self, hF, hP]
    exact ⟨rfl, by simp [jz, jrow], by simp [jz, jrow], by simp [jz, jrow]⟩
  · obtain ⟨h1, h2, h3, h4⟩ := h k (by omega)
    rw [va_up_ne _ _ (by omega)]
    have hne : ¬ lo + k = lo + n := by omega
    exact ⟨h1, by simp [jz, jrow, hne, h2, e], by simp [jz, jrow, h3, e], by simp [jz, jrow, h4, e]⟩
theorem rg_put (h : rg lo n F P S M) (ha : ¬ (lo ≤ a ∧ a < lo + n)) : rg lo n F P S (jsP M a k v) := fun z hz => by
  obtain ⟨h1, h2, h3, h4⟩ := h z hz
  exact ⟨h1, (jup_ne (by omega)).trans h2, h3, h4⟩
theorem rg_in (h : rg lo n F P S M) (hP : ∀ j, P2 r j = if j = c then v else P r j) (hP2 : ∀ k, k ≠ r → P2 k = P k) : rg lo n F P2 S (jsP M (lo + r) c v) := fun z hz => by
  obtain ⟨h1, h2, h3, h4⟩ := h z hz
  refine ⟨h1, ?_, h3, h4⟩
  by_cases e : z = r
  · subst e
    funext j
    show jup M.2.2 (lo + z) c v (lo + z) j = P2 z j
    unfold jup
    rw [hP, h2]
    by_cases cj : j = c
    · rw [if_pos ⟨rfl, cj⟩, if_pos cj]
    · rw [if_neg (fun e => cj e.2), if_neg cj]
  · rw [hP2 z e]
    exact (jup_ne (by omega)).trans h2
theorem alA_rf : alA lo 0 a S S M M := fun _ _ => ⟨rfl, rfl, rfl, fun _ => rfl⟩
theorem alA_new (h : alA lo n a S S1 M M1) : alA lo (n + 1) a S (va_up S1 (lo + n) p) M (jz M1 (lo + n)) := fun b hb => by
  obtain ⟨h1, h2, h3, h4⟩ := h b (by omega)
  have hne : ¬ b = lo + n := by omega
  exact ⟨(va_up_ne _ _ hne).trans h1, by simp [jz, jrow, hne, h2], by simp [jz, jrow, hne, h3], fun e => by simp [jz, jrow, hne, h4 e]⟩
theorem alA_put (h : alA lo n a S S1 M M1) : alA lo n a S S1 M (jsP M1 a k v) := fun b hb => by
  obtain ⟨h1, h2, h3, h4⟩ := h b hb
  exact ⟨h1, h2, h3, fun e => (jup_ne e).trans (h4 e)⟩
theorem alA_in (h : alA lo n a S S1 M M1) (hr : r < n) : alA lo n a S S1 M (jsP M1 (lo + r) c v) := fun b hb => by
  obtain ⟨h1, h2, h3, h4⟩ := h b hb
  exact ⟨h1, h2, h3, fun e => (jup_ne (by omega)).trans (h4 e)⟩
theorem jsP_at {M : jM} {a k : Nat} {v : Option Nat} : (jsP M a k v).2.2 a k = v := if_pos ⟨rfl, rfl⟩
theorem jsP_o {M : jM} {a b k j : Nat} {v : Option Nat} (h : ¬ (b = a ∧ j = k)) : (jsP M a k v).2.2 b j = M.2.2 b j := if_neg h
theorem jz_o {M : jM} {s b : Nat} (h : b ≠ s) : (jz M s).2.2 b = M.2.2 b := by simp [jz, jrow, h]
theorem rg.al {lo2 n2 : Nat} {S2 : jS} {M2 : jM} (h : rg lo n F P S M) (e : alA lo2 n2 a S S2 M M2) (hd : ∀ k, k < n → ¬ (lo2 ≤ lo + k ∧ lo + k < lo2 + n2) ∧ lo + k ≠ a) : rg lo n F P S2 M2 := fun k hk => by
  obtain ⟨h1, h2, h3, h4⟩ := h k hk
  obtain ⟨e1, e2, e3, e4⟩ := e (lo + k) (hd k hk).1
  exact ⟨e1.trans h1, (e4 (hd k hk).2).trans h2, e2.trans h3, e3.trans h4⟩
end RG
set_option maxRecDepth 100000 in
set_option maxHeartbeats 4000000 in
theorem ctX3_init {G : jG} {sz : Nat} {Sh : jS} {M : jM} {a : Nat} (hs : (Sh a).1 = 3) (ha : a < sz) : jC G yX3_init cX3_init 1 (Option.none : Option FieldType) (jrm 2 4 41) sz Sh M [.ref a] (fun r sz2 Sh2 M2 => r = none ∧ sz2 = sz + 4 ∧ alA sz 4 a Sh Sh2 M M2 ∧ rg sz 4 (fun k => if k = 0 then (15, 5) else if k = 1 then (15, 12) else (13, 12)) (fun _ _ => none) Sh2 M2 ∧ M2.2.2 a 0 = some sz ∧ M2.2.2 a 1 = some (sz + 1) ∧ M2.2.2 a 2 = some (sz + 2) ∧ M2.2.2 a 3 = some (sz + 3)) := by
  refine jC_start (by decide +kernel) (Nat.le_of_ble_eq_true rfl) (fun X C E hN0 => ?_)
  refine j_aload_n (q := 1) C dX3_init_0 rfl rfl rfl ?_
  refine j_objInit (q := 4) C dX3_init_1 rfl kw_120 (Nat.le_of_ble_eq_true rfl) (by decide) ?_
  refine j_aload_n (q := 5) C dX3_init_4 rfl rfl rfl ?_
  refine j_iconst (v := nI 5) (q := 6) C dX3_init_5 rfl (by decide) ?_
  refine j_anew (K := 15) (t0 := 3) (n := 5) (q := 9) C dX3_init_6 rfl kw_121 C.2.2.2.2.2.2.2.2.1.2.2.2.2.2.2.2.1 (by decide) rfl (by decide) (by decide) (by decide) ?_
  refine jp_Laws_texts (q := 12) C dX3_init_9 rfl (by rw [va_up_ne _ _ (by omega)]; exact hs) kw_122 rfl rfl ?_
  refine j_aload_n (q := 13) C dX3_init_12 rfl rfl rfl ?_
  refine j_bipush (v := nI 12) (q := 15) C dX3_init_13 rfl (by decide) ?_
  refine j_anew (K := 15) (t0 := 3) (n := 12) (q := 18) C dX3_init_15 rfl kw_121 C.2.2.2.2.2.2.2.2.1.2.2.2.2.2.2.2.1 (by decide) rfl (by decide) (by decide) (by decide) ?_
  refine jp_Laws_codes (q := 21) C dX3_init_18 rfl (by rw [va_up_ne _ _ (by omega), va_up_ne _ _ (by omega)]; exact hs) kw_124 rfl rfl ?_
  refine j_aload_n (q := 22) C dX3_init_21 rfl rfl rfl ?_
  refine j_bipush (v := nI 12) (q := 24) C dX3_init_22 rfl (by decide) ?_
  refine j_newa (q := 26) (K := 13) (t0 := 0) C dX3_init_24 rfl rfl kw_115 (by decide) (by decide) (by decide) (by decide) ?_
  refine jp_Laws_courts (q := 29) C dX3_init_26 rfl (by rw [va_up_ne _ _ (by omega), va_up_ne _ _ (by omega), va_up_ne _ _ (by omega)]; exact hs) kw_126 rfl rfl ?_
  refine j_aload_n (q := 30) C dX3_init_29 rfl rfl rfl ?_
  refine j_bipush (v := nI 12) (q := 32) C dX3_init_30 rfl (by decide) ?_
  refine j_newa (q := 34) (K := 13) (t0 := 0) C dX3_init_32 rfl rfl kw_115 (by decide) (by decide) (by decide) (by decide) ?_
  refine jp_Laws_from (q := 37) C dX3_init_34 rfl (by rw [va_up_ne _ _ (by omega), va_up_ne _ _ (by omega), va_up_ne _ _ (by omega), va_up_ne _ _ (by omega)]; exact hs) kw_127 rfl rfl ?_
  exact j_vret C E dX3_init_37 rfl rfl (⟨rfl, rfl, alA_put (alA_new (alA_put (alA_new (alA_put (alA_new (alA_put (alA_new (n := 0) alA_rf))))))), rg_put (rg_new (rg_put (rg_new (rg_put (rg_new (rg_put (rg_new (n := 0) rg_0 rfl rfl) (by omega)) rfl rfl) (by omega)) rfl rfl) (by omega)) rfl rfl) (by omega), by rw [jsP_o (by omega), jz_o (by omega), jsP_o (by omega), jz_o (by omega), jsP_o (by omega), jz_o (by omega), jsP_at], by rw [jsP_o (by omega), jz_o (by omega), jsP_o (by omega), jz_o (by omega), jsP_at], by rw [jsP_o (by omega), jz_o (by omega), jsP_at], jsP_at⟩)

def FW (k : Nat) : Nat × Nat := if k = 0 then (17, 10) else if k = 1 then (16, 24) else if k < 12 then (6, 0) else (5, 0)
def PW (lo i j k z : Nat) : Option Nat := if k = 0 ∧ z < i then some (lo + 2 + z) else if k = 1 ∧ z < j then some (lo + 12 + z) else none
def RA (q lw pr jg mk j : Nat) : Option Nat := if j = 0 then some q else if j = 1 then some (q + 1) else if j = 2 then some lw else if j = 3 then some pr else if j = 4 then some jg else if j = 5 then some mk else none
theorem PW_p {lo i j : Nat} : ∀ z, PW lo (i + 1) j 0 z = if z = i then some (lo + (2 + i)) else PW lo i j 0 z := fun z => by
  unfold PW
  by_cases e : z = i
  · subst e; rw [if_pos rfl, if_pos ⟨rfl, by omega⟩, Nat.add_assoc]
  · rw [if_neg e]
    by_cases c : z < i
    · rw [if_pos ⟨rfl, by omega⟩, if_pos ⟨rfl, c⟩]
    · rw [if_neg (by omega), if_neg (show ¬ ((0 : Nat) = 0 ∧ z < i) by omega)]
theorem PW_po {lo i j : Nat} : ∀ k, k ≠ 0 → PW lo (i + 1) j k = PW lo i j k := fun k hk => by
  funext z; unfold PW; rw [if_neg (by omega), if_neg (show ¬ (k = 0 ∧ z < i) by omega)]
theorem PW_q {lo i j : Nat} : ∀ z, PW lo i (j + 1) 1 z = if z = j then some (lo + (12 + j)) else PW lo i j 1 z := fun z => by
  unfold PW
  rw [if_neg (by omega)]
  by_cases e : z = j
  · subst e; rw [if_pos rfl, if_pos ⟨rfl, by omega⟩, Nat.add_assoc]
  · rw [if_neg e]
    by_cases c : z < j
    · rw [if_pos ⟨rfl, by omega⟩, if_neg (by omega), if_pos ⟨rfl, c⟩]
    · rw [if_neg (by omega), if_neg (show ¬ ((1 : Nat) = 0 ∧ z < i) by omega), if_neg (show ¬ ((1 : Nat) = 1 ∧ z < j) by omega)]
theorem PW_qo {lo i j : Nat} : ∀ k, k ≠ 1 → PW lo i (j + 1) k = PW lo i j k := fun k hk => by
  funext z; unfold PW; rw [if_neg (show ¬ (k = 1 ∧ z < j + 1) by omega), if_neg (show ¬ (k = 1 ∧ z < j) by omega)]
set_option maxRecDepth 100000 in
set_option maxHeartbeats 4000000 in
theorem ctX9_init {G : jG} {sz : Nat} {Sh : jS} {M : jM} {a lw pr jg mk : Nat} (hs : (Sh a).1 = 9) (ha : a < sz) : jC G yX9_init cX9_init 6 (Option.none : Option FieldType) (jrm 4 36 302) sz Sh M [.ref a, .ref lw, .ref pr, .ref jg, .ref mk] (fun r sz2 Sh2 M2 => r = none ∧ sz2 = sz + 36 ∧ alA sz 36 a Sh Sh2 M M2 ∧ rg sz 36 FW (PW sz 10 24) Sh2 M2 ∧ ∀ j, M2.2.2 a j = if j < 6 then RA sz lw pr jg mk j else M.2.2 a j) := by
  refine jC_start (by decide +kernel) (Nat.le_of_ble_eq_true rfl) (fun X C E hN0 => ?_)
  refine j_aload_n (q := 1) C dX9_init_0 rfl rfl rfl ?_
  refine j_objInit (q := 4) C dX9_init_1 rfl kw_135 (Nat.le_of_ble_eq_true rfl) (by decide) ?_
  refine j_aload_n (q := 5) C dX9_init_4 rfl rfl rfl ?_
  refine j_bipush (v := nI 10) (q := 7) C dX9_init_5 rfl (by decide) ?_
  refine j_anew (K := 17) (t0 := 5) (n := 10) (q := 10) C dX9_init_7 rfl kw_136 C.2.2.2.2.2.2.2.2.1.2.2.2.2.2.2.2.2.1 (by decide) rfl (by decide) (by decide) (by decide) ?_
  refine jp_World_persons (q := 13) C dX9_init_10 rfl (by rw [va_up_ne _ _ (by omega)]; exact hs) kw_191 rfl rfl ?_
  refine j_aload_n (q := 14) C dX9_init_13 rfl rfl rfl ?_
  refine j_bipush (v := nI 24) (q := 16) C dX9_init_14 rfl (by decide) ?_
  refine j_anew (K := 16) (t0 := 4) (n := 24) (q := 19) C dX9_init_16 rfl kw_137 C.2.2.2.2.2.2.2.2.1.2.2.2.2.2.2.2.2.2.1 (by decide) rfl (by decide) (by decide) (by decide) ?_
  refine jp_World_papers (q := 22) C dX9_init_19 rfl (by rw [va_up_ne _ _ (by omega), va_up_ne _ _ (by omega)]; exact hs) kw_195 rfl rfl ?_
  refine j_aload_n (q := 23) C dX9_init_22 rfl rfl rfl ?_
  refine j_aload_n (q := 24) C dX9_init_23 rfl rfl rfl ?_
  refine jp_World_laws (q := 27) C dX9_init_24 rfl (by rw [va_up_ne _ _ (by omega), va_up_ne _ _ (by omega)]; exact hs) kw_197 rfl rfl ?_
  refine j_aload_n (q := 28) C dX9_init_27 rfl rfl rfl ?_
  refine j_aload_n (q := 29) C dX9_init_28 rfl rfl rfl ?_
  refine jp_World_prices (q := 32) C dX9_init_29 rfl (by rw [va_up_ne _ _ (by omega), va_up_ne _ _ (by omega)]; exact hs) kw_200 rfl rfl ?_
  refine j_aload_n (q := 33) C dX9_init_32 rfl rfl rfl ?_
  refine j_aload_n (q := 34) C dX9_init_33 rfl rfl rfl ?_
  refine jp_World_judge (q := 37) C dX9_init_34 rfl (by rw [va_up_ne _ _ (by omega), va_up_ne _ _ (by omega)]; exact hs) kw_201 rfl rfl ?_
  refine j_aload_n (q := 38) C dX9_init_37 rfl rfl rfl ?_
  refine j_aload (q := 40) C dX9_init_38 rfl rfl ?_
  refine jp_World_market (q := 43) C dX9_init_40 rfl (by rw [va_up_ne _ _ (by omega), va_up_ne _ _ (by omega)]; exact hs) kw_203 rfl rfl ?_
  refine j_iconst (v := nI 0) (q := 44) C dX9_init_43 rfl (by decide) ?_
  refine j_istore (lv' := [(5, _), (0, _), (1, _), (2, _), (3, _), (4, _)]) (q := 46) C dX9_init_44 rfl (by decide) rfl ?_
  have loop76 : ∀ (n k : Nat) (S : jS) (Mk : jM), rg sz (12 + k) FW (PW sz 10 k) S Mk → alA sz (12 + k) a Sh S M Mk → (∀ j, Mk.2.2 a j = if j < 6 then RA sz lw pr jg mk j else M.2.2 a j) → k + n = 24 → jJ G X (12 + k) (134 + 7 * k) (sz + (12 + k)) S Mk 76 [(5, .int (nI k)), (0, .ref a), (1, .ref lw), (2, .ref pr), (3, .ref jg), (4, .ref mk)] [] := by
    intro n
    induction n with
    | zero =>
      intro k S Mk hg hA hR hk
      refine j_iload (q := 78) C dX9_init_76 rfl rfl ?_
      refine j_bipush (v := nI 24) (q := 80) C dX9_init_78 rfl (by decide) ?_
      refine j_icmp_ge (q := 83) (tgt := 103) C dX9_init_80 rfl (by decide) (fun c_80 => ?_) (fun c_80 => absurd (nI_le (by omega) (by omega)) c_80)
      obtain rfl : k = 24 := by omega
      exact j_vret C E dX9_init_103 rfl rfl (⟨rfl, rfl, hA, hg, hR⟩)
    | succ n ih =>
      intro k S Mk hg hA hR hk
      refine j_iload (q := 78) C dX9_init_76 rfl rfl ?_
      refine j_bipush (v := nI 24) (q := 80) C dX9_init_78 rfl (by decide) ?_
      refine j_icmp_ge (q := 83) (tgt := 103) C dX9_init_80 rfl (by decide) (fun c_80 => absurd c_80 (fun h => absurd ((nI_leI (by omega) (by omega)).mp h) (by omega))) (fun c_80 => ?_)
      refine j_aload_n (q := 84) C dX9_init_83 rfl rfl rfl ?_
      refine jg_World_papers (q := 87) C dX9_init_84 rfl (by rw [(hA a (by omega)).1]; exact hs) kw_195 (by rw [hR 1, if_pos (by omega)]; rfl) ?_
      refine j_iload (q := 89) C dX9_init_87 rfl rfl ?_
      refine j_new jc5 (q := 92) C dX9_init_89 rfl kw_137 kw_166 kw_77 (fun j hj => by rcases (show j = 0 ∨ j = 1 ∨ j = 2 ∨ j = 3 ∨ j = 4 ∨ j = 5 ∨ j = 6 by omega) with rfl | rfl | rfl | rfl | rfl | rfl | rfl <;> rfl) (by show 12 + k + 1 ≤ 36; omega) (by show 134 + 7 * k + 7 ≤ 302; omega) ?_
      refine j_dup (q := 93) C dX9_init_92 rfl rfl ?_
      refine j_callI (q := 96) C dX9_init_93 rfl mX5_init (Or.inr (List.mem_of_getElem? (i := 4) rfl)) kw_167 rfl (ctX5_init (a := sz + (12 + k))) (As := []) (rest := [.ref (sz + ((12 + k))), .int (nI k), .ref (sz + 1)]) rfl rfl ⟨by decide, by decide⟩ (Nat.le_of_ble_eq_true rfl) ⟨by show 12 + k + 1 + 0 ≤ 36; omega, by show 134 + 7 * k + 7 + 0 ≤ 302; omega⟩ (fun r z S M1 hx => ?_)
      obtain ⟨rfl, rfl, rfl, rfl⟩ := hx
      have hg1 := rg_new hg (p := (5, 0)) (by unfold FW; rw [if_neg (by omega), if_neg (by omega), if_neg (by omega)]) (by funext z; unfold PW; rw [if_neg (by omega), if_neg (by omega)])
      have hA1 := alA_new hA (p := (5, 0))
      have hR1 : ∀ j, (jz Mk (sz + ((12 + k)))).2.2 a j = if j < 6 then RA sz lw pr jg mk j else M.2.2 a j := fun j => by rw [jz_o (by omega)]; exact hR j
      have e0 := (hg1 1 (by omega)).1
      refine j_aast (K := 16) (n := 24) (ci := 5) (t0 := 4) jc5 C dX9_init_96 rfl (e0.trans rfl) (by decide) rfl (show k < 24 by omega) (by decide) (by rw [va_up_self]) ?_
      first | refine j_iincN (lv' := [(5, _), (0, _), (1, _), (2, _), (3, _), (4, _)]) (q := 100) C dX9_init_97 rfl rfl (by decide) rfl ?_ | refine j_iinc (lv' := [(5, _), (0, _), (1, _), (2, _), (3, _), (4, _)]) (q := 100) C dX9_init_97 rfl rfl rfl (by decide) rfl ?_
      refine j_goto (tgt := 76) C dX9_init_100 (by decide) ?_
      exact j_fewer (lv' := [(5, .int (nI (k + 1))), (0, .ref a), (1, .ref lw), (2, .ref pr), (3, .ref jg), (4, .ref mk)]) (by simp) (ih (k + 1) _ _ (rg_in (r := 1) hg1 (fun j => PW_q j) PW_qo) (alA_in (r := 1) hA1 (by omega)) (fun j => by rw [jsP_o (by omega)]; exact hR1 j) (by omega))
  have loop46 : ∀ (n k : Nat) (S : jS) (Mk : jM), rg sz (2 + k) FW (PW sz k 0) S Mk → alA sz (2 + k) a Sh S M Mk → (∀ j, Mk.2.2 a j = if j < 6 then RA sz lw pr jg mk j else M.2.2 a j) → k + n = 10 → jJ G X (2 + k) (34 + 10 * k) (sz + (2 + k)) S Mk 46 [(5, .int (nI k)), (0, .ref a), (1, .ref lw), (2, .ref pr), (3, .ref jg), (4, .ref mk)] [] := by
    intro n
    induction n with
    | zero =>
      intro k S Mk hg hA hR hk
      refine j_iload (q := 48) C dX9_init_46 rfl rfl ?_
      refine j_bipush (v := nI 10) (q := 50) C dX9_init_48 rfl (by decide) ?_
      refine j_icmp_ge (q := 53) (tgt := 73) C dX9_init_50 rfl (by decide) (fun c_50 => ?_) (fun c_50 => absurd (nI_le (by omega) (by omega)) c_50)
      obtain rfl : k = 10 := by omega
      refine j_iconst (v := nI 0) (q := 74) C dX9_init_73 rfl (by decide) ?_
      refine j_istore (lv' := [(5, _), (0, _), (1, _), (2, _), (3, _), (4, _)]) (q := 76) C dX9_init_74 rfl (by decide) rfl ?_
      exact j_fewer (lv' := [(5, .int (nI 0)), (0, .ref a), (1, .ref lw), (2, .ref pr), (3, .ref jg), (4, .ref mk)]) (by simp) (loop76 24 0 S Mk hg hA hR (by omega))
    | succ n ih =>
      intro k S Mk hg hA hR hk
      refine j_iload (q := 48) C dX9_init_46 rfl rfl ?_
      refine j_bipush (v := nI 10) (q := 50) C dX9_init_48 rfl (by decide) ?_
      refine j_icmp_ge (q := 53) (tgt := 73) C dX9_init_50 rfl (by decide) (fun c_50 => absurd c_50 (fun h => absurd ((nI_leI (by omega) (by omega)).mp h) (by omega))) (fun c_50 => ?_)
      refine j_aload_n (q := 54) C dX9_init_53 rfl rfl rfl ?_
      refine jg_World_persons (q := 57) C dX9_init_54 rfl (by rw [(hA a (by omega)).1]; exact hs) kw_191 (by rw [hR 0, if_pos (by omega)]; rfl) ?_
      refine j_iload (q := 59) C dX9_init_57 rfl rfl ?_
      refine j_new jc6 (q := 62) C dX9_init_59 rfl kw_136 kw_138 kw_76 (fun j hj => by rcases (show j = 0 ∨ j = 1 ∨ j = 2 ∨ j = 3 ∨ j = 4 ∨ j = 5 ∨ j = 6 ∨ j = 7 ∨ j = 8 ∨ j = 9 by omega) with rfl | rfl | rfl | rfl | rfl | rfl | rfl | rfl | rfl | rfl <;> rfl) (by show 2 + k + 1 ≤ 36; omega) (by show 34 + 10 * k + 10 ≤ 302; omega) ?_
      refine j_dup (q := 63) C dX9_init_62 rfl rfl ?_
      refine j_callI (q := 66) C dX9_init_63 rfl mX6_init (Or.inr (List.mem_of_getElem? (i := 3) rfl)) kw_139 rfl (ctX6_init (a := sz + (2 + k))) (As := []) (rest := [.ref (sz + ((2 + k))), .int (nI k), .ref (sz + 0)]) rfl rfl ⟨by decide, by decide⟩ (Nat.le_of_ble_eq_true rfl) ⟨by show 2 + k + 1 + 0 ≤ 36; omega, by show 34 + 10 * k + 10 + 0 ≤ 302; omega⟩ (fun r z S M1 hx => ?_)
      obtain ⟨rfl, rfl, rfl, rfl⟩ := hx
      have hg1 := rg_new hg (p := (6, 0)) (by unfold FW; rw [if_neg (by omega), if_neg (by omega), if_pos (by omega)]) (by funext z; unfold PW; rw [if_neg (by omega), if_neg (by omega)])
      have hA1 := alA_new hA (p := (6, 0))
      have hR1 : ∀ j, (jz Mk (sz + ((2 + k)))).2.2 a j = if j < 6 then RA sz lw pr jg mk j else M.2.2 a j := fun j => by rw [jz_o (by omega)]; exact hR j
      have e0 := (hg1 0 (by omega)).1
      refine j_aast (K := 17) (n := 10) (ci := 6) (t0 := 5) jc6 C dX9_init_66 rfl (e0.trans rfl) (by decide) rfl (show k < 10 by omega) (by decide) (by rw [va_up_self]) ?_
      first | refine j_iincN (lv' := [(5, _), (0, _), (1, _), (2, _), (3, _), (4, _)]) (q := 70) C dX9_init_67 rfl rfl (by decide) rfl ?_ | refine j_iinc (lv' := [(5, _), (0, _), (1, _), (2, _), (3, _), (4, _)]) (q := 70) C dX9_init_67 rfl rfl rfl (by decide) rfl ?_
      refine j_goto (tgt := 46) C dX9_init_70 (by decide) ?_
      exact j_fewer (lv' := [(5, .int (nI (k + 1))), (0, .ref a), (1, .ref lw), (2, .ref pr), (3, .ref jg), (4, .ref mk)]) (by simp) (ih (k + 1) _ _ (rg_in (r := 0) hg1 (fun j => PW_p j) PW_po) (alA_in (r := 0) hA1 (by omega)) (fun j => by rw [jsP_o (by omega)]; exact hR1 j) (by omega))
  have hR6 : ∀ j, (jsP (jsP (jsP (jsP (jsP (jz (jsP (jz M sz) a 0 (some sz)) (sz + 1)) a 1 (some (sz + 1))) a 2 (some lw)) a 3 (some pr)) a 4 (some jg)) a 5 (some mk)).2.2 a j = if j < 6 then RA sz lw pr jg mk j else M.2.2 a j := fun j => by
    have n0 : a ≠ sz := by omega
    have n1 : a ≠ sz + 1 := by omega
    by_cases c : j < 6
    · rw [if_pos c]
      rcases (show j = 0 ∨ j = 1 ∨ j = 2 ∨ j = 3 ∨ j = 4 ∨ j = 5 by omega) with e | e | e | e | e | e <;> subst e <;> simp [jsP, jup, jz, jrow, RA, n0, n1]
    · rw [if_neg c, jsP_o (by omega), jsP_o (by omega), jsP_o (by omega), jsP_o (by omega), jsP_o (by omega), jz_o n1, jsP_o (by omega), jz_o n0]
  exact j_fewer (lv' := [(5, .int (nI 0)), (0, .ref a), (1, .ref lw), (2, .ref pr), (3, .ref jg), (4, .ref mk)]) (by simp) (loop46 10 0 _ _ (rg_put (rg_put (rg_put (rg_put (rg_put (rg_new (rg_put (rg_new (n := 0) rg_0 rfl (by funext z; unfold PW; rw [if_neg (by omega), if_neg (by omega)])) (by omega)) rfl (by funext z; unfold PW; rw [if_neg (by omega), if_neg (by omega)])) (by omega)) (by omega)) (by omega)) (by omega)) (by omega)) (alA_put (alA_put (alA_put (alA_put (alA_put (alA_new (alA_put (alA_new (n := 0) alA_rf)))))))) hR6 (by omega))

