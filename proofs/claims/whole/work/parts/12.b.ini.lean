def FH (k : Nat) : Nat × Nat := if k = 0 then (19, 9) else if (k - 1) % 37 = 0 then (9, 0) else FW ((k - 1) % 37 - 1)
def PH (lo lw pr jg mk i k z : Nat) : Option Nat := if k = 0 then (if z < i then some (lo + (1 + 37 * z)) else none) else if (k - 1) % 37 = 0 then RA (lo + k + 1) lw pr jg mk z else PW (lo + k - ((k - 1) % 37 - 1)) 10 24 ((k - 1) % 37 - 1) z
theorem rg_skip {lo n s : Nat} {F : Nat → Nat × Nat} {P : Nat → Nat → Option Nat} {S : jS} {M : jM} {p : Nat × Nat} (h : rg lo n F P S M) (hs : ¬ (lo ≤ s ∧ s < lo + n)) : rg lo n F P (va_up S s p) (jz M s) := fun k hk => by
  obtain ⟨h1, h2, h3, h4⟩ := h k hk
  have hne : ¬ lo + k = s := by omega
  exact ⟨(va_up_ne _ _ hne).trans h1, by simp [jz, jrow, hne, h2], by simp [jz, jrow, hne, h3], by simp [jz, jrow, hne, h4]⟩
theorem rg_ah {lo k lw pr jg mk : Nat} {S S1 : jS} {M M1 : jM} (hg : rg lo (1 + 37 * k) FH (PH lo lw pr jg mk k) S M) (h1 : alA (lo + (1 + 37 * k) + 1) 36 (lo + (1 + 37 * k)) (va_up S (lo + (1 + 37 * k)) (9, 0)) S1 (jz M (lo + (1 + 37 * k))) M1) (h2 : rg (lo + (1 + 37 * k) + 1) 36 FW (PW (lo + (1 + 37 * k) + 1) 10 24) S1 M1) (h3 : ∀ j, M1.2.2 (lo + (1 + 37 * k)) j = if j < 6 then RA (lo + (1 + 37 * k) + 1) lw pr jg mk j else (jz M (lo + (1 + 37 * k))).2.2 (lo + (1 + 37 * k)) j) : rg lo (1 + 37 * (k + 1)) FH (PH lo lw pr jg mk (k + 1)) S1 (jsP M1 lo k (some (lo + (1 + 37 * k)))) := fun z hz => by
  have g1 := (rg_skip (s := lo + (1 + 37 * k)) (p := (9, 0)) hg (by omega)).al h1 (fun y hy => ⟨by omega, by omega⟩)
  rcases Nat.lt_or_ge z (1 + 37 * k) with e | e
  · obtain ⟨a1, a2, a3, a4⟩ := g1 z e
    refine ⟨a1, ?_, a3, a4⟩
    by_cases z0 : z = 0
    · subst z0
      funext j
      show jup M1.2.2 lo k _ (lo + 0) j = _
      unfold jup
      rw [a2]
      unfold PH
      rw [if_pos rfl, if_pos rfl]
      by_cases cj : j = k
      · subst cj; rw [if_pos ⟨rfl, rfl⟩, if_pos (by omega)]
      · rw [if_neg (fun y => cj y.2)]
        by_cases ck : j < k
        · rw [if_pos ck, if_pos (by omega)]
        · rw [if_neg ck, if_neg (by omega)]
    · rw [show (jsP M1 lo k (some (lo + (1 + 37 * k)))).2.2 (lo + z) = M1.2.2 (lo + z) from jup_ne (by omega), a2]
      funext j
      unfold PH
      rw [if_neg z0, if_neg z0]
  · rcases Nat.eq_or_lt_of_le e with e2 | e2
    · subst e2
      obtain ⟨b1, b2, b3, -⟩ := h1 (lo + (1 + 37 * k)) (by omega)
      refine ⟨?_, ?_, ?_, ?_⟩
      · rw [b1, va_up_self]
        unfold FH
        rw [if_neg (by omega), if_pos (by omega)]
      · funext j
        rw [show (jsP M1 lo k (some (lo + (1 + 37 * k)))).2.2 (lo + (1 + 37 * k)) = M1.2.2 (lo + (1 + 37 * k)) from jup_ne (by omega), h3]
        unfold PH
        rw [if_neg (show ¬ 1 + 37 * k = 0 by omega), if_pos (show (1 + 37 * k - 1) % 37 = 0 by omega)]
        by_cases cj : j < 6
        · rw [if_pos cj]
        · rw [if_neg cj, show (jz M (lo + (1 + 37 * k))).2.2 (lo + (1 + 37 * k)) j = none by simp [jz, jrow]]
          unfold RA
          rw [if_neg (by omega), if_neg (by omega), if_neg (by omega), if_neg (by omega), if_neg (by omega), if_neg (by omega)]
      · show M1.1 _ = _
        rw [b2]; simp [jz, jrow]
      · show M1.2.1 _ = _
        rw [b3]; simp [jz, jrow]
    · obtain ⟨y, rfl⟩ : ∃ y, z = 1 + 37 * k + 1 + y := ⟨z - (1 + 37 * k + 1), by omega⟩
      have hy : y < 36 := by omega
      obtain ⟨b1, b2, b3, b4⟩ := h2 y hy
      rw [show lo + (1 + 37 * k + 1 + y) = lo + (1 + 37 * k) + 1 + y by omega]
      refine ⟨?_, ?_, b3, b4⟩
      · rw [b1]
        unfold FH
        rw [if_neg (by omega), if_neg (by omega), show (1 + 37 * k + 1 + y - 1) % 37 - 1 = y by omega]
      · rw [show (jsP M1 lo k (some (lo + (1 + 37 * k)))).2.2 (lo + (1 + 37 * k) + 1 + y) = M1.2.2 (lo + (1 + 37 * k) + 1 + y) from jup_ne (by omega), b2]
        funext j
        unfold PH
        rw [if_neg (by omega), if_neg (by omega), show (1 + 37 * k + 1 + y - 1) % 37 - 1 = y by omega, show lo + (1 + 37 * k + 1 + y) - y = lo + (1 + 37 * k) + 1 by omega]
theorem alA_obj {lo n m a : Nat} {S0 S S1 : jS} {M0 M M1 : jM} {p : Nat × Nat} (h : alA lo n a S0 S M0 M) (h1 : alA (lo + n + 1) m (lo + n) (va_up S (lo + n) p) S1 (jz M (lo + n)) M1) : alA lo (n + 1 + m) a S0 S1 M0 M1 := fun b hb => by
  obtain ⟨a1, a2, a3, a4⟩ := h b (by omega)
  obtain ⟨b1, b2, b3, b4⟩ := h1 b (by omega)
  have hne : ¬ b = lo + n := by omega
  exact ⟨b1.trans ((va_up_ne _ _ hne).trans a1), by rw [b2]; simp [jz, jrow, hne, a2], by rw [b3]; simp [jz, jrow, hne, a3], fun e => by rw [b4 hne]; simp [jz, jrow, hne, a4 e]⟩
theorem alA_n {lo n n2 a : Nat} {S S1 : jS} {M M1 : jM} (h : alA lo n a S S1 M M1) (e : n = n2) : alA lo n2 a S S1 M M1 := e ▸ h
set_option maxRecDepth 100000 in
set_option maxHeartbeats 4000000 in
theorem ctX0_init {G : jG} {sz : Nat} {Sh : jS} {M : jM} {a lw pr jg mk : Nat} (hs : (Sh a).1 = 0) (ha : a < sz) : jC G yX0_init cX0_init 6 (Option.none : Option FieldType) (jrm 6 334 2835) sz Sh M [.ref a, .ref lw, .ref pr, .ref jg, .ref mk] (fun r sz2 Sh2 M2 => r = none ∧ sz2 = sz + 334 ∧ alA sz 334 a Sh Sh2 M M2 ∧ rg sz 334 FH (PH sz lw pr jg mk 9) Sh2 M2 ∧ M2.2.2 a 0 = some sz ∧ ∀ j, j ≠ 0 → M2.2.2 a j = M.2.2 a j) := by
  refine jC_start (by decide +kernel) (Nat.le_of_ble_eq_true rfl) (fun X C E hN0 => ?_)
  refine j_aload_n (q := 1) C dX0_init_0 rfl rfl rfl ?_
  refine j_objInit (q := 4) C dX0_init_1 rfl kw_225 (Nat.le_of_ble_eq_true rfl) (by decide) ?_
  refine j_aload_n (q := 5) C dX0_init_4 rfl rfl rfl ?_
  refine j_bipush (v := nI 9) (q := 7) C dX0_init_5 rfl (by decide) ?_
  refine j_anew (K := 19) (t0 := 7) (n := 9) (q := 10) C dX0_init_7 rfl kw_226 C.2.2.2.2.2.2.2.2.1.2.2.2.2.2.2.2.2.2.2.1 (by decide) rfl (by decide) (by decide) (by decide) ?_
  refine jp_Ahead_worlds (q := 13) C dX0_init_10 rfl (by rw [va_up_ne _ _ (by omega)]; exact hs) kw_228 rfl rfl ?_
  refine j_iconst (v := nI 0) (q := 14) C dX0_init_13 rfl (by decide) ?_
  refine j_istore (lv' := [(5, _), (0, _), (1, _), (2, _), (3, _), (4, _)]) (q := 16) C dX0_init_14 rfl (by decide) rfl ?_
  have loop16 : ∀ (n k : Nat) (S : jS) (Mk : jM), rg sz (1 + 37 * k) FH (PH sz lw pr jg mk k) S Mk → alA sz (1 + 37 * k) a Sh S M Mk → Mk.2.2 a 0 = some sz → (∀ j, j ≠ 0 → Mk.2.2 a j = M.2.2 a j) → k + n = 9 → jJ G X (1 + 37 * k) (9 + 314 * k) (sz + (1 + 37 * k)) S Mk 16 [(5, .int (nI k)), (0, .ref a), (1, .ref lw), (2, .ref pr), (3, .ref jg), (4, .ref mk)] [] := by
    intro n
    induction n with
    | zero =>
      intro k S Mk hg hA hR hO hk
      refine j_iload (q := 18) C dX0_init_16 rfl rfl ?_
      refine j_aload_n (q := 19) C dX0_init_18 rfl rfl rfl ?_
      refine jg_Ahead_worlds (q := 22) C dX0_init_19 rfl (by rw [(hA a (by omega)).1]; exact hs) kw_228 hR ?_
      refine j_alen (q := 23) C dX0_init_22 rfl (K := 19) (n := 9) (t0 := 7) ((hg 0 (by omega)).1.trans rfl) (by decide) rfl ?_
      refine j_icmp_ge (q := 26) (tgt := 51) C dX0_init_23 rfl (by decide) (fun c_23 => ?_) (fun c_23 => absurd (nI_le (by omega) (by omega)) c_23)
      obtain rfl : k = 9 := by omega
      exact j_vret C E dX0_init_51 rfl rfl (⟨rfl, rfl, hA, hg, hR, hO⟩)
    | succ n ih =>
      intro k S Mk hg hA hR hO hk
      refine j_iload (q := 18) C dX0_init_16 rfl rfl ?_
      refine j_aload_n (q := 19) C dX0_init_18 rfl rfl rfl ?_
      refine jg_Ahead_worlds (q := 22) C dX0_init_19 rfl (by rw [(hA a (by omega)).1]; exact hs) kw_228 hR ?_
      refine j_alen (q := 23) C dX0_init_22 rfl (K := 19) (n := 9) (t0 := 7) ((hg 0 (by omega)).1.trans rfl) (by decide) rfl ?_
      refine j_icmp_ge (q := 26) (tgt := 51) C dX0_init_23 rfl (by decide) (fun c_23 => absurd c_23 (fun h => absurd ((nI_leI (by omega) (by omega)).mp h) (by omega))) (fun c_23 => ?_)
      refine j_aload_n (q := 27) C dX0_init_26 rfl rfl rfl ?_
      refine jg_Ahead_worlds (q := 30) C dX0_init_27 rfl (by rw [(hA a (by omega)).1]; exact hs) kw_228 hR ?_
      refine j_iload (q := 32) C dX0_init_30 rfl rfl ?_
      refine j_new jc9 (q := 35) C dX0_init_32 rfl kw_226 kw_131 kw_75 (fun j hj => by rcases (show j = 0 ∨ j = 1 ∨ j = 2 ∨ j = 3 ∨ j = 4 ∨ j = 5 ∨ j = 6 ∨ j = 7 ∨ j = 8 ∨ j = 9 ∨ j = 10 ∨ j = 11 by omega) with rfl | rfl | rfl | rfl | rfl | rfl | rfl | rfl | rfl | rfl | rfl | rfl <;> rfl) (by show 1 + 37 * k + 1 ≤ 334; omega) (by show 9 + 314 * k + 12 ≤ 2835; omega) ?_
      refine j_dup (q := 36) C dX0_init_35 rfl rfl ?_
      refine j_aload_n (q := 37) C dX0_init_36 rfl rfl rfl ?_
      refine j_aload_n (q := 38) C dX0_init_37 rfl rfl rfl ?_
      refine j_aload_n (q := 39) C dX0_init_38 rfl rfl rfl ?_
      refine j_aload (q := 41) C dX0_init_39 rfl rfl ?_
      refine j_callI (q := 44) C dX0_init_41 rfl mX9_init (Or.inl kw_227) kw_133 rfl (ctX9_init (a := sz + (1 + 37 * k)) (by rw [va_up_self]) (by omega)) (As := [.ref lw, .ref pr, .ref jg, .ref mk]) (rest := [.ref (sz + (1 + 37 * k)), .int (nI k), .ref sz]) rfl rfl ⟨by decide, by decide⟩ (Nat.le_of_ble_eq_true rfl) ⟨by show 1 + 37 * k + 1 + 36 ≤ 334; omega, by show 9 + 314 * k + 12 + 302 ≤ 2835; omega⟩ (fun r z S1 M1 hx => ?_)
      obtain ⟨rfl, rfl, q1, q2, q3⟩ := hx
      have hgN := rg_ah hg q1 q2 q3
      have hAN := alA_in (r := 0) (c := k) (v := some (sz + (1 + 37 * k))) (alA_n (alA_obj hA q1) (show 1 + 37 * k + 1 + 36 = 1 + 37 * (k + 1) by omega)) (by omega)
      have qa := (q1 a (by omega)).2.2.2 (by omega)
      have hRN : (jsP M1 sz k (some (sz + (1 + 37 * k)))).2.2 a 0 = some sz := by rw [jsP_o (by omega), qa, jz_o (by omega)]; exact hR
      have hRO : ∀ j, j ≠ 0 → (jsP M1 sz k (some (sz + (1 + 37 * k)))).2.2 a j = M.2.2 a j := fun j hj => by rw [jsP_o (by omega), qa, jz_o (by omega)]; exact hO j hj
      have e0 := (hgN 0 (by omega)).1
      have e1 := (hgN (1 + 37 * k) (by omega)).1
      refine j_aast (K := 19) (n := 9) (ci := 9) (t0 := 7) jc9 C dX0_init_44 rfl (e0.trans rfl) (by decide) rfl (show k < 9 by omega) (by decide) (by rw [e1]; unfold FH; rw [if_neg (by omega), if_pos (by omega)]) ?_
      first | refine j_iincN (lv' := [(5, _), (0, _), (1, _), (2, _), (3, _), (4, _)]) (q := 48) C dX0_init_45 rfl rfl (by decide) rfl ?_ | refine j_iinc (lv' := [(5, _), (0, _), (1, _), (2, _), (3, _), (4, _)]) (q := 48) C dX0_init_45 rfl rfl rfl (by decide) rfl ?_
      refine j_goto (tgt := 16) C dX0_init_48 (by decide) ?_
      refine j_widen (c1 := 1 + 37 * (k + 1)) (s1 := 9 + 314 * (k + 1)) (by show 1 + 37 * k + 1 + 36 ≤ 1 + 37 * (k + 1); omega) (by show 9 + 314 * k + 12 + 302 ≤ 9 + 314 * (k + 1); omega) ?_
      exact j_fewer (lv' := [(5, .int (nI (k + 1))), (0, .ref a), (1, .ref lw), (2, .ref pr), (3, .ref jg), (4, .ref mk)]) (by simp) (ih (k + 1) _ _ hgN hAN hRN hRO (by omega))
  exact j_fewer (lv' := [(5, .int (nI 0)), (0, .ref a), (1, .ref lw), (2, .ref pr), (3, .ref jg), (4, .ref mk)]) (by simp) (loop16 9 0 _ _ (rg_put (rg_new (n := 0) rg_0 rfl (by funext z; unfold PH; rw [if_pos rfl, if_neg (by omega)])) (by omega)) (alA_put (alA_new (n := 0) alA_rf)) jsP_at (fun j hj => by rw [jsP_o (by omega), jz_o (by omega)]) (by omega))

