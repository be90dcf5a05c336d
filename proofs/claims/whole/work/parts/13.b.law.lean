theorem wl {w q pr lw jg mk : Nat} {S : jS} {M : jM} (hS : S w = (9, 0)) (hR : ∀ j, j < 6 → M.2.2 w j = RA q lw pr jg mk j) (gw : rg q 36 FW (PW q 10 24) S M) (hp : S pr = (14, 301)) (hl : (S lw).1 = 3) (hj : (S jg).1 = 2) (hm : (S mk).1 = 4) (hD : wDis w q pr lw) : wLay w q pr lw jg mk S M := by
  refine ⟨⟨by rw [hS], (gw 0 (by omega)).1, (gw 1 (by omega)).1, hp, hl, hj, hm, fun i hi => ?_, fun j hj2 => ?_⟩, ⟨hR 0 (by omega), hR 1 (by omega), hR 2 (by omega), hR 3 (by omega), hR 4 (by omega), hR 5 (by omega), fun i hi => ?_, fun j hj2 => ?_⟩, hD⟩
  · rw [Nat.add_assoc, (gw (2 + i) (by omega)).1]
    unfold FW
    rw [if_neg (by omega), if_neg (by omega), if_pos (by omega)]
  · rw [Nat.add_assoc, (gw (12 + j) (by omega)).1]
    unfold FW
    rw [if_neg (by omega), if_neg (by omega), if_neg (by omega)]
  · rw [show M.2.2 q = PW q 10 24 0 from (gw 0 (by omega)).2.1]
    unfold PW
    rw [if_pos ⟨rfl, hi⟩]
  · rw [(gw 1 (by omega)).2.1]
    unfold PW
    rw [if_neg (by omega), if_pos ⟨rfl, hj2⟩]
theorem rg_ahw {lo lw pr jg mk i : Nat} {S : jS} {M : jM} (h : rg lo 334 FH (PH lo lw pr jg mk 9) S M) (hi : i < 9) : S (lo + (1 + 37 * i)) = (9, 0) ∧ (∀ j, j < 6 → M.2.2 (lo + (1 + 37 * i)) j = RA (lo + (1 + 37 * i) + 1) lw pr jg mk j) ∧ rg (lo + (1 + 37 * i) + 1) 36 FW (PW (lo + (1 + 37 * i) + 1) 10 24) S M := by
  obtain ⟨a1, a2, -, -⟩ := h (1 + 37 * i) (by omega)
  refine ⟨?_, fun j hj => ?_, fun k hk => ?_⟩
  · rw [a1]; unfold FH; rw [if_neg (by omega), if_pos (by omega)]
  · rw [a2]; unfold PH; rw [if_neg (by omega), if_pos (by omega)]
  · obtain ⟨b1, b2, b3, b4⟩ := h (1 + 37 * i + 1 + k) (by omega)
    rw [show lo + (1 + 37 * i + 1 + k) = lo + (1 + 37 * i) + 1 + k by omega] at b1 b2 b3 b4
    refine ⟨?_, ?_, b3, b4⟩
    · rw [b1]; unfold FH; rw [if_neg (by omega), if_neg (by omega), show (1 + 37 * i + 1 + k - 1) % 37 - 1 = k by omega]
    · rw [b2]; funext z; unfold PH; rw [if_neg (by omega), if_neg (by omega), show (1 + 37 * i + 1 + k - 1) % 37 - 1 = k by omega, show lo + (1 + 37 * i + 1 + k) - k = lo + (1 + 37 * i) + 1 by omega]
theorem XI_x {mm : Nat} {S S2 : jS} {M M2 : jM} (h : XI mm S M) (hr : rLay (mm + 440) S2 M2) (hS : ∀ b, mm ≤ b → b < mm + 440 → S2 b = S b) (hR : ∀ b, mm ≤ b → b < mm + 440 → M2.2.2 b = M.2.2 b) : xLay mm S2 M2 := by
  obtain ⟨h0, hm, o_j, g_j, o_m, g_m, o_l, g_l, g_p, o_w, g_w, o_l1, g_l1, g_p1, o_w1, g_w1, o_h, g_h, o_r, g_r, o_s, g_s⟩ := h
  have cS0 : ∀ b p, mm ≤ b → b < mm + 440 → S b = p → S2 b = p := fun b p h1 h2 h3 => (hS b h1 h2).trans h3
  refine ⟨?_, ?_, ?_, ?_, ?_, ?_, ?_, ?_, fun i hi => ?_, ?_, ?_, hr⟩
  · rw [hS mm (by omega) (by omega), hR mm (by omega) (by omega)]; exact ⟨h0, hm⟩
  · exact (wl o_w.1 o_w.2.1 g_w (g_p 0 (by omega)).1 (by rw [o_l.1]) (by rw [o_j.1]) (by rw [o_m.1]) (by unfold wDis; omega)).g (fun b hb => hS b (by omega) (by omega)) (fun b hb => hR b (by omega) (by omega))
  · exact (wl o_w1.1 o_w1.2.1 g_w1 (g_p1 0 (by omega)).1 (by rw [o_l1.1]) (by rw [o_j.1]) (by rw [o_m.1]) (by unfold wDis; omega)).g (fun b hb => hS b (by omega) (by omega)) (fun b hb => hR b (by omega) (by omega))
  · unfold jLay
    rw [hS (mm + 1) (by omega) (by omega), hS (mm + 1 + 1) (by omega) (by omega), hS (mm + 1 + 2) (by omega) (by omega), hR (mm + 1) (by omega) (by omega)]
    exact ⟨by rw [o_j.1], (g_j 0 (by omega)).1, (g_j 1 (by omega)).1, o_j.2.1.1, o_j.2.1.2⟩
  · unfold mLay
    rw [hS (mm + 4) (by omega) (by omega), hS (mm + 4 + 1) (by omega) (by omega), hS (mm + 4 + 2) (by omega) (by omega), hR (mm + 4) (by omega) (by omega)]
    exact ⟨by rw [o_m.1], (g_m 0 (by omega)).1, (g_m 1 (by omega)).1, o_m.2.1.1, o_m.2.1.2⟩
  · unfold lLay
    rw [hS (mm + 7) (by omega) (by omega), hS (mm + 7 + 1) (by omega) (by omega), hS (mm + 7 + 2) (by omega) (by omega), hS (mm + 7 + 3) (by omega) (by omega), hS (mm + 7 + 4) (by omega) (by omega), hR (mm + 7) (by omega) (by omega)]
    exact ⟨by rw [o_l.1], (g_l 0 (by omega)).1, (g_l 1 (by omega)).1, (g_l 2 (by omega)).1, (g_l 3 (by omega)).1, o_l.2.1⟩
  · unfold lLay
    rw [hS (mm + 51) (by omega) (by omega), hS (mm + 51 + 1) (by omega) (by omega), hS (mm + 51 + 2) (by omega) (by omega), hS (mm + 51 + 3) (by omega) (by omega), hS (mm + 51 + 4) (by omega) (by omega), hR (mm + 51) (by omega) (by omega)]
    exact ⟨by rw [o_l1.1], (g_l1 0 (by omega)).1, (g_l1 1 (by omega)).1, (g_l1 2 (by omega)).1, (g_l1 3 (by omega)).1, o_l1.2.1⟩
  · unfold aLay
    rw [hS (mm + 93) (by omega) (by omega), hS (mm + 93 + 1) (by omega) (by omega), hR (mm + 93) (by omega) (by omega), hR (mm + 93 + 1) (by omega) (by omega)]
    refine ⟨by rw [o_h.1], o_h.2.1, (g_h 0 (by omega)).1, fun i hi => ?_⟩
    rw [show M.2.2 (mm + 93 + 1) = PH (mm + 94) (mm + 7) (mm + 12) (mm + 1) (mm + 4) 9 0 from (g_h 0 (by omega)).2.1]
    unfold PH aW
    rw [if_pos rfl, if_pos hi]
    exact congrArg some (by omega)
  · obtain ⟨a1, a2, a3⟩ := rg_ahw g_h hi
    have ew : mm + 94 + (1 + 37 * i) = aW (mm + 93) i := by unfold aW; omega
    rw [ew] at a1 a2 a3
    exact (wl a1 a2 a3 (g_p 0 (by omega)).1 (by rw [o_l.1]) (by rw [o_j.1]) (by rw [o_m.1]) (by unfold wDis aW; omega)).g (fun b hb => hS b (by unfold aW at hb; omega) (by unfold aW at hb; omega)) (fun b hb => hR b (by unfold aW at hb; omega) (by unfold aW at hb; omega))
  · unfold cLay
    rw [hS (mm + 428) (by omega) (by omega), hS (mm + 428 + 1) (by omega) (by omega), hS (mm + 428 + 2) (by omega) (by omega), hR (mm + 428) (by omega) (by omega)]
    exact ⟨by rw [o_r.1], (g_r 0 (by omega)).1, (g_r 1 (by omega)).1, o_r.2.1.1, o_r.2.1.2⟩
  · refine ⟨(hS (mm + 431) (by omega) (by omega)).trans o_s.1, fun s hs => ?_⟩
    have e1 := g_s (2 * s) (by omega)
    have e2 := g_s (2 * s + 1) (by omega)
    unfold shLay
    rw [hS (mm + 431 + 1 + 2 * s) (by omega) (by omega), hS (mm + 431 + 1 + 2 * s + 1) (by omega) (by omega), hR (mm + 431) (by omega) (by omega), hR (mm + 431 + 1 + 2 * s) (by omega) (by omega)]
    refine ⟨o_s.2.1 s hs, ?_, ?_, ?_⟩
    · rw [show S (mm + 431 + 1 + 2 * s) = FS (2 * s) from e1.1]; unfold FS; rw [if_pos (by omega)]
    · rw [show S (mm + 431 + 1 + 2 * s + 1) = FS (2 * s + 1) from e2.1]; unfold FS; rw [if_neg (by omega)]
    · rw [show M.2.2 (mm + 431 + 1 + 2 * s) = PS (mm + 432) (2 * s) from e1.2.1]; unfold PS; rw [if_pos ⟨by omega, rfl⟩]
/-- the start: class and reference as their constructors leave them -/
theorem REL_0 {mm : Nat} {S0 S1 S2 : jS} {Mk M1 M2 Mx : jM} (hout : ∀ b, ¬ (mm ≤ b ∧ b < mm + 440) → S1 b = S0 b) (h0 : ∀ b, mm + 440 ≤ b → S0 b = (20, 0)) (eM1 : M1 = jsL (jsL (jsI Mk mm 5 (nI 0)) mm 6 0) (mm + 12) 0 1) (hX : XI mm S1 Mk) (hA : alA (mm + 441) 14 (mm + 440) (va_up S1 (mm + 440) (11, 0)) S2 (jz M1 (mm + 440)) M2) (hg : rg (mm + 441) 14 FR (fun _ _ => none) S2 Mx) (eM2 : M2 = jsL Mx (mm + 441) 310 1) (hr : M2.2.2 (mm + 440) 0 = some (mm + 441) ∧ M2.2.2 (mm + 440) 1 = some (mm + 441 + 1) ∧ M2.2.2 (mm + 440) 2 = some (mm + 441 + 2) ∧ M2.2.2 (mm + 440) 3 = some (mm + 441 + 3) ∧ M2.2.2 (mm + 440) 4 = some (mm + 441 + 4) ∧ M2.2.2 (mm + 440) 7 = some (mm + 441 + 5) ∧ M2.2.2 (mm + 440) 9 = some (mm + 441 + 6) ∧ M2.2.2 (mm + 440) 10 = some (mm + 441 + 7) ∧ M2.2.2 (mm + 440) 11 = some (mm + 441 + 8) ∧ M2.2.2 (mm + 440) 18 = some (mm + 441 + 9) ∧ M2.2.2 (mm + 440) 20 = some (mm + 441 + 10) ∧ M2.2.2 (mm + 440) 21 = some (mm + 441 + 11) ∧ M2.2.2 (mm + 440) 22 = some (mm + 441 + 12) ∧ M2.2.2 (mm + 440) 23 = some (mm + 441 + 13)) : REL mm 0 (mm + 455) S2 M2 0 0 0 0 (fun _ => ([], [], [])) := by
  have hXX := hX
  obtain ⟨h1, hm, o_j, g_j, o_m, g_m, o_l, g_l, g_p, o_w, g_w, o_l1, g_l1, g_p1, o_w1, g_w1, o_h, g_h, o_r, g_r, o_s, g_s⟩ := hX
  have kS : ∀ b, b < mm + 440 ∨ mm + 455 ≤ b → S2 b = S1 b := fun b hb => (hA b (by omega)).1.trans (va_up_ne _ _ (by omega))
  have kI : ∀ b, b < mm + 440 → M2.1 b = M1.1 b := fun b hb => ((hA b (by omega)).2.1).trans (by simp [jz, jrow, show ¬ b = mm + 440 by omega])
  have kL : ∀ b, b < mm + 440 → M2.2.1 b = M1.2.1 b := fun b hb => ((hA b (by omega)).2.2.1).trans (by simp [jz, jrow, show ¬ b = mm + 440 by omega])
  have kR : ∀ b, b < mm + 440 → M2.2.2 b = Mk.2.2 b := fun b hb => ((hA b (by omega)).2.2.2 (by omega)).trans ((jz_o (by omega)).trans (by rw [eM1]; rfl))
  have oS : S2 (mm + 440) = (11, 0) := (hA (mm + 440) (by omega)).1.trans (va_up_self _ _ _)
  have oI : ∀ j, M2.1 (mm + 440) j = 0 := fun j => by rw [(hA (mm + 440) (by omega)).2.1]; simp [jz, jrow]
  have rI : ∀ k, k < 14 → ∀ j, M2.1 (mm + 441 + k) j = 0 := fun k hk j => by rw [eM2]; exact congrFun (hg k hk).2.2.1 j
  have rN : ∀ j, M2.2.1 (mm + 441) j = if j = 310 then 1 else 0 := fun j => by
    rw [eM2]
    by_cases c : j = 310
    · subst c; rw [if_pos rfl, upLs]
    · rw [if_neg c, upL (by omega)]
      exact congrFun (hg 0 (by omega)).2.2.2 j
  have hrL : rLay (mm + 440) S2 M2 := ⟨⟨by rw [oS], (hg 0 (by omega)).1, (hg 1 (by omega)).1, (hg 2 (by omega)).1, (hg 3 (by omega)).1, (hg 4 (by omega)).1, (hg 5 (by omega)).1, (hg 6 (by omega)).1, (hg 7 (by omega)).1, (hg 8 (by omega)).1, (hg 9 (by omega)).1, (hg 10 (by omega)).1, (hg 11 (by omega)).1, (hg 12 (by omega)).1, (hg 13 (by omega)).1⟩, hr⟩
  have i1 : ∀ b j, b ≠ mm → M1.1 b j = Mk.1 b j := fun b j hb => by rw [eM1]; exact upI (by omega)
  have l1 : ∀ b j, b ≠ mm → b ≠ mm + 12 → M1.2.1 b j = Mk.2.1 b j := fun b j hb h2 => by rw [eM1]; exact (upL (by omega)).trans (upL (by omega))
  have w6 : ∀ j, M2.1 (mm + 13) j = 0 := fun j => by rw [kI _ (by omega), i1 _ _ (by omega), o_w.2.2.1]
  have w9 : ∀ j, M2.2.1 (mm + 13) j = 0 := fun j => by rw [kL _ (by omega), l1 _ _ (by omega) (by omega), o_w.2.2.2]
  have l4 : ∀ j, M2.1 (mm + 7) j = 0 := fun j => by rw [kI _ (by omega), i1 _ _ (by omega), o_l.2.2.1]
  have p0 : M2.2.1 (mm + 12) 0 = 1 := by rw [kL _ (by omega), eM1, upLs]
  have t1 : ∀ j, M2.2.2 (mm + 7 + 1) j = none := fun j => by rw [kR _ (by omega)]; exact congrFun (g_l 0 (by omega)).2.1 j
  have t2 : ∀ j, M2.2.2 (mm + 7 + 2) j = none := fun j => by rw [kR _ (by omega)]; exact congrFun (g_l 1 (by omega)).2.1 j
  have m5 : M2.1 mm 5 = 0 := by rw [kI _ (by omega), eM1]; exact upIs
  have m6 : M2.2.1 mm 6 = 0 := by rw [kL _ (by omega), eM1, upL (by omega), upLs]
  refine ⟨XI_x hXX hrL (fun b hb hb2 => kS b (by omega)) (fun b hb hb2 => kR b hb2), ⟨by omega, fun b hb => by rw [kS b (by omega), hout b (by omega), h0 b (by omega)]; decide⟩, ⟨?_, ?_, fun i f hi => absurd hi (by omega), fun j hj => absurd hj (by omega), fun l hl => absurd hl (by omega), fun l hl => absurd hl (by omega), fun l _ hl => t2 l, fun t ht => Or.inl ⟨t1 t, by rw [rN, if_neg (by omega)]⟩⟩, Or.inl ⟨m5, oI 5⟩, ⟨fun _ => 0, 0, ⟨?_, by omega, fun _ => (by decide : (0 : Nat) < 256), fun i hi => absurd hi (by omega)⟩, oI 8, by omega, fun _ => (by decide : (0 : Nat) < 256), fun i hi => absurd hi (by omega)⟩, fun s hs => ?_, m6, oI 6⟩
  · intro k hk
    rw [rN]
    have hk2 : k = 0 ∨ k = 1 ∨ k = 2 ∨ k = 3 ∨ k = 4 ∨ k = 5 ∨ k = 6 ∨ k = 310 := by
      rcases hk with hk | hk
      · unfold nIn at hk; omega
      · omega
    rcases hk2 with e | e | e | e | e | e | e | e <;> subst e
    · rw [vK_0, w6]; rfl
    · rw [vK_1, w9]; rfl
    · rw [vK_2, w9]; rfl
    · rw [vK_3, w9]; rfl
    · rw [vK_4, w6]; rfl
    · rw [vK_5, w6]; rfl
    · rw [vK_6, l4]; rfl
    · rw [show (310 : Nat) = 310 + 0 from rfl, vK_p, p0]; rfl
  · refine ⟨⟨by rw [rN]; rfl, by omega⟩, ⟨by rw [rN]; rfl, by omega⟩, ⟨by rw [rN]; rfl, by omega⟩, ⟨by rw [rN]; rfl, by omega⟩, fun j hj => absurd hj (by omega), fun k hk => ?_⟩
    rw [show k = 0 by omega, rN]
    exact ⟨by decide, by decide⟩
  · rw [kI _ (by omega), i1 _ _ (by omega), o_r.2.2.1]; rfl
  · have e1 := g_s (2 * s) (by omega)
    have s0 : ∀ j, M2.1 (mm + 431 + 1 + 2 * s) j = 0 := fun j => by
      rw [kI _ (by omega), i1 _ _ (by omega)]; exact congrFun e1.2.2.1 j
    exact ⟨0, by omega, (s0 1).trans (rI 6 (by omega) s).symm, Or.inl (rI 6 (by omega) s), s0 2, rI 7 (by omega) s, fun k hk => absurd hk (by omega)⟩
set_option maxRecDepth 100000 in
set_option maxHeartbeats 4000000 in
theorem law_loop {G : jG} {X : jX} {nmL : String} {b L : Nat} {vs : Nat → Int32} (hX : va_X b L vs (xs X) (xs X).heap) (hbl : b < gN G) (hL : L ≤ 3072) (C : jOk G X (lYr nmL) cL_law 4 room_1) {mm : Nat} (fin : ∀ i sz Sh M, i ≤ 3072 → jJ G X (460 + 2 * (i)) (13000 + 163 * (i)) sz Sh M 1452 [(3, .int (nI (i))), (0, .ref b), (1, .ref mm), (2, .ref (mm + 440))] []) : ∀ (n i f sz : Nat) (Sh : jS) (M : jM) (d pe pa la : Nat) (LT : Nat → sT), REL mm f sz Sh M d pe pa la LT → f ≤ i → i ≤ 3072 → L ≤ i + n → jJ G X (460 + 2 * (i)) (13000 + 163 * (i)) sz Sh M 18 [(3, .int (nI (i))), (0, .ref b), (1, .ref mm), (2, .ref (mm + 440))] [] := by
  have hL31 : L < 2 ^ 31 := by omega
  intro n
  induction n with
  | zero =>
    intro i f sz Sh M d pe pa la LT h hf h3 hn
    refine j_iload_n (q := 19) C dL_law_18 rfl rfl rfl ?_
    refine j_aload_n (q := 20) C dL_law_19 rfl rfl rfl ?_
    refine j_slen (q := 21) hX hbl C dL_law_20 rfl ?_
    refine j_bipush (v := nI 6) (q := 23) C dL_law_21 rfl (by decide) ?_
    refine j_isub (q := 24) C dL_law_23 rfl ?_
    refine j_icmp_gt (q := 27) (tgt := 1452) C dL_law_24 rfl (by decide) (fun c_24 => ?_) (fun c_24 => ?_)
    · exact j_fewer (lv' := [(3, .int (nI (i))), (0, .ref b), (1, .ref mm), (2, .ref (mm + 440))]) (by simp) (fin i sz Sh M h3)
    · have hi : i + 6 ≤ L := by
        have e1 := pk_sub_toInt (a := L) (b := 6) (by omega) (by omega)
        rw [Int32.lt_iff_toInt_lt, e1, nI_toInt (by omega)] at c_24
        omega
      omega
  | succ n ih =>
    intro i f sz Sh M d pe pa la LT h hf h3 hn
    refine j_iload_n (q := 19) C dL_law_18 rfl rfl rfl ?_
    refine j_aload_n (q := 20) C dL_law_19 rfl rfl rfl ?_
    refine j_slen (q := 21) hX hbl C dL_law_20 rfl ?_
    refine j_bipush (v := nI 6) (q := 23) C dL_law_21 rfl (by decide) ?_
    refine j_isub (q := 24) C dL_law_23 rfl ?_
    refine j_icmp_gt (q := 27) (tgt := 1452) C dL_law_24 rfl (by decide) (fun c_24 => ?_) (fun c_24 => ?_)
    · exact j_fewer (lv' := [(3, .int (nI (i))), (0, .ref b), (1, .ref mm), (2, .ref (mm + 440))]) (by simp) (fin i sz Sh M h3)
    · have hi : i + 6 ≤ L := by
        have e1 := pk_sub_toInt (a := L) (b := 6) (by omega) (by omega)
        rw [Int32.lt_iff_toInt_lt, e1, nI_toInt (by omega)] at c_24
        omega
      refine j_aload_n (q := 28) C dL_law_27 rfl rfl rfl ?_
      refine j_iload_n (q := 29) C dL_law_28 rfl rfl rfl ?_
      refine j_sld (q := 30) hX hbl hL31 C dL_law_29 rfl (by omega) ?_
      refine j_bipush (v := nI 63) (q := 32) C dL_law_30 rfl (by decide) ?_
      refine j_iand (q := 33) C dL_law_32 rfl ?_
      obtain ⟨j, hj, ej⟩ := pk_andE (vs i) (m := nI 63) 6 (by decide)
      rw [ej]
      rcases Nat.lt_or_ge j 34 with hj34 | hj34
      · rcases (show j = 0 ∨ j = 1 ∨ j = 2 ∨ j = 3 ∨ j = 4 ∨ j = 5 ∨ j = 6 ∨ j = 7 ∨ j = 8 ∨ j = 9 ∨ j = 10 ∨ j = 11 ∨ j = 12 ∨ j = 13 ∨ j = 14 ∨ j = 15 ∨ j = 16 ∨ j = 17 ∨ j = 18 ∨ j = 19 ∨ j = 20 ∨ j = 21 ∨ j = 22 ∨ j = 23 ∨ j = 24 ∨ j = 25 ∨ j = 26 ∨ j = 27 ∨ j = 28 ∨ j = 29 ∨ j = 30 ∨ j = 31 ∨ j = 32 ∨ j = 33 by omega) with rfl | rfl | rfl | rfl | rfl | rfl | rfl | rfl | rfl | rfl | rfl | rfl | rfl | rfl | rfl | rfl | rfl | rfl | rfl | rfl | rfl | rfl | rfl | rfl | rfl | rfl | rfl | rfl | rfl | rfl | rfl | rfl | rfl | rfl
        · refine j_swIn (tgt := 184) C dL_law_33 (by decide) (by decide) rfl (by decide) ?_
          exact j_fewer (lv' := [(3, .int (nI (i))), (0, .ref b), (1, .ref mm), (2, .ref (mm + 440))]) (by simp) (cs_person hX hbl hL C h hf hi (fun z2 S2 M2 f2 d2 pe2 pa2 la2 LT2 g1 g2 => ih (i + 6) f2 z2 S2 M2 d2 pe2 pa2 la2 LT2 g2 g1 (by omega) (by omega)))
        · refine j_swIn (tgt := 258) C dL_law_33 (by decide) (by decide) rfl (by decide) ?_
          exact j_fewer (lv' := [(3, .int (nI (i))), (0, .ref b), (1, .ref mm), (2, .ref (mm + 440))]) (by simp) (cs_habit hX hbl hL C h hf hi (fun z2 S2 M2 f2 d2 pe2 pa2 la2 LT2 g1 g2 => ih (i + 6) f2 z2 S2 M2 d2 pe2 pa2 la2 LT2 g2 g1 (by omega) (by omega)))
        · refine j_swIn (tgt := 302) C dL_law_33 (by decide) (by decide) rfl (by decide) ?_
          exact j_fewer (lv' := [(3, .int (nI (i))), (0, .ref b), (1, .ref mm), (2, .ref (mm + 440))]) (by simp) (cs_personIs hX hbl hL C h hf hi (fun z2 S2 M2 f2 d2 pe2 pa2 la2 LT2 g1 g2 => ih (i + 6) f2 z2 S2 M2 d2 pe2 pa2 la2 LT2 g2 g1 (by omega) (by omega)))
        · refine j_swIn (tgt := 336) C dL_law_33 (by decide) (by decide) rfl (by decide) ?_
          exact j_fewer (lv' := [(3, .int (nI (i))), (0, .ref b), (1, .ref mm), (2, .ref (mm + 440))]) (by simp) (cs_gain hX hbl hL C h hf hi (fun z2 S2 M2 f2 d2 pe2 pa2 la2 LT2 g1 g2 => ih (i + 6) f2 z2 S2 M2 d2 pe2 pa2 la2 LT2 g2 g1 (by omega) (by omega)))
        · refine j_swIn (tgt := 386) C dL_law_33 (by decide) (by decide) rfl (by decide) ?_
          exact j_fewer (lv' := [(3, .int (nI (i))), (0, .ref b), (1, .ref mm), (2, .ref (mm + 440))]) (by simp) (cs_paper hX hbl hL C h hf hi (fun z2 S2 M2 f2 d2 pe2 pa2 la2 LT2 g1 g2 => ih (i + 6) f2 z2 S2 M2 d2 pe2 pa2 la2 LT2 g2 g1 (by omega) (by omega)))
        · refine j_swIn (tgt := 470) C dL_law_33 (by decide) (by decide) rfl (by decide) ?_
          exact j_fewer (lv' := [(3, .int (nI (i))), (0, .ref b), (1, .ref mm), (2, .ref (mm + 440))]) (by simp) (cs_as hX hbl hL C h hf hi (fun z2 S2 M2 f2 d2 pe2 pa2 la2 LT2 g1 g2 => ih (i + 6) f2 z2 S2 M2 d2 pe2 pa2 la2 LT2 g2 g1 (by omega) (by omega)))
        · refine j_swIn (tgt := 504) C dL_law_33 (by decide) (by decide) rfl (by decide) ?_
          exact j_fewer (lv' := [(3, .int (nI (i))), (0, .ref b), (1, .ref mm), (2, .ref (mm + 440))]) (by simp) (cs_paperIs hX hbl hL C h hf hi (fun z2 S2 M2 f2 d2 pe2 pa2 la2 LT2 g1 g2 => ih (i + 6) f2 z2 S2 M2 d2 pe2 pa2 la2 LT2 g2 g1 (by omega) (by omega)))
        · refine j_swIn (tgt := 538) C dL_law_33 (by decide) (by decide) rfl (by decide) ?_
          exact j_fewer (lv' := [(3, .int (nI (i))), (0, .ref b), (1, .ref mm), (2, .ref (mm + 440))]) (by simp) (cs_owed hX hbl hL C h hf hi (fun z2 S2 M2 f2 d2 pe2 pa2 la2 LT2 g1 g2 => ih (i + 6) f2 z2 S2 M2 d2 pe2 pa2 la2 LT2 g2 g1 (by omega) (by omega)))
        · refine j_swIn (tgt := 572) C dL_law_33 (by decide) (by decide) rfl (by decide) ?_
          exact j_fewer (lv' := [(3, .int (nI (i))), (0, .ref b), (1, .ref mm), (2, .ref (mm + 440))]) (by simp) (cs_pay hX hbl hL C h hf hi (fun z2 S2 M2 f2 d2 pe2 pa2 la2 LT2 g1 g2 => ih (i + 6) f2 z2 S2 M2 d2 pe2 pa2 la2 LT2 g2 g1 (by omega) (by omega)))
        · refine j_swIn (tgt := 596) C dL_law_33 (by decide) (by decide) rfl (by decide) ?_
          exact j_fewer (lv' := [(3, .int (nI (i))), (0, .ref b), (1, .ref mm), (2, .ref (mm + 440))]) (by simp) (cs_tear hX hbl hL C h hf hi (fun z2 S2 M2 f2 d2 pe2 pa2 la2 LT2 g1 g2 => ih (i + 6) f2 z2 S2 M2 d2 pe2 pa2 la2 LT2 g2 g1 (by omega) (by omega)))
        · refine j_swIn (tgt := 620) C dL_law_33 (by decide) (by decide) rfl (by decide) ?_
          exact j_fewer (lv' := [(3, .int (nI (i))), (0, .ref b), (1, .ref mm), (2, .ref (mm + 440))]) (by simp) (cs_thin hX hbl hL C h hf hi (fun z2 S2 M2 f2 d2 pe2 pa2 la2 LT2 g1 g2 => ih (i + 6) f2 z2 S2 M2 d2 pe2 pa2 la2 LT2 g2 g1 (by omega) (by omega)))
        · refine j_swIn (tgt := 634) C dL_law_33 (by decide) (by decide) rfl (by decide) ?_
          exact j_fewer (lv' := [(3, .int (nI (i))), (0, .ref b), (1, .ref mm), (2, .ref (mm + 440))]) (by simp) (cs_feed hX hbl hL C h hf hi (fun z2 S2 M2 f2 d2 pe2 pa2 la2 LT2 g1 g2 => ih (i + 6) f2 z2 S2 M2 d2 pe2 pa2 la2 LT2 g2 g1 (by omega) (by omega)))
        · refine j_swIn (tgt := 698) C dL_law_33 (by decide) (by decide) rfl (by decide) ?_
          exact j_fewer (lv' := [(3, .int (nI (i))), (0, .ref b), (1, .ref mm), (2, .ref (mm + 440))]) (by simp) (cs_text hX hbl hL C h hf hi (fun z2 S2 M2 f2 d2 pe2 pa2 la2 LT2 g1 g2 => ih (i + 6) f2 z2 S2 M2 d2 pe2 pa2 la2 LT2 g2 g1 (by omega) (by omega)))
        · refine j_swIn (tgt := 722) C dL_law_33 (by decide) (by decide) rfl (by decide) ?_
          exact j_fewer (lv' := [(3, .int (nI (i))), (0, .ref b), (1, .ref mm), (2, .ref (mm + 440))]) (by simp) (cs_force hX hbl hL C h hf hi (fun z2 S2 M2 f2 d2 pe2 pa2 la2 LT2 g1 g2 => ih (i + 6) f2 z2 S2 M2 d2 pe2 pa2 la2 LT2 g2 g1 (by omega) (by omega)))
        · refine j_swIn (tgt := 766) C dL_law_33 (by decide) (by decide) rfl (by decide) ?_
          exact j_fewer (lv' := [(3, .int (nI (i))), (0, .ref b), (1, .ref mm), (2, .ref (mm + 440))]) (by simp) (cs_law hX hbl hL C h hf hi (fun z2 S2 M2 f2 d2 pe2 pa2 la2 LT2 g1 g2 => ih (i + 6) f2 z2 S2 M2 d2 pe2 pa2 la2 LT2 g2 g1 (by omega) (by omega)))
        · refine j_swIn (tgt := 800) C dL_law_33 (by decide) (by decide) rfl (by decide) ?_
          exact j_fewer (lv' := [(3, .int (nI (i))), (0, .ref b), (1, .ref mm), (2, .ref (mm + 440))]) (by simp) (cs_unlike hX hbl hL C h hf hi (fun z2 S2 M2 f2 d2 pe2 pa2 la2 LT2 g1 g2 => ih (i + 6) f2 z2 S2 M2 d2 pe2 pa2 la2 LT2 g2 g1 (by omega) (by omega)))
        · refine j_swIn (tgt := 814) C dL_law_33 (by decide) (by decide) rfl (by decide) ?_
          exact j_fewer (lv' := [(3, .int (nI (i))), (0, .ref b), (1, .ref mm), (2, .ref (mm + 440))]) (by simp) (cs_days hX hbl hL C h hf hi (fun z2 S2 M2 f2 d2 pe2 pa2 la2 LT2 g1 g2 => ih (i + 6) f2 z2 S2 M2 d2 pe2 pa2 la2 LT2 g2 g1 (by omega) (by omega)))
        · refine j_swIn (tgt := 838) C dL_law_33 (by decide) (by decide) rfl (by decide) ?_
          exact j_fewer (lv' := [(3, .int (nI (i))), (0, .ref b), (1, .ref mm), (2, .ref (mm + 440))]) (by simp) (cs_price hX hbl hL C h hf hi (fun z2 S2 M2 f2 d2 pe2 pa2 la2 LT2 g1 g2 => ih (i + 6) f2 z2 S2 M2 d2 pe2 pa2 la2 LT2 g2 g1 (by omega) (by omega)))
        · refine j_swIn (tgt := 862) C dL_law_33 (by decide) (by decide) rfl (by decide) ?_
          exact j_fewer (lv' := [(3, .int (nI (i))), (0, .ref b), (1, .ref mm), (2, .ref (mm + 440))]) (by simp) (cs_index hX hbl hL C h hf hi (fun z2 S2 M2 f2 d2 pe2 pa2 la2 LT2 g1 g2 => ih (i + 6) f2 z2 S2 M2 d2 pe2 pa2 la2 LT2 g2 g1 (by omega) (by omega)))
        · refine j_swIn (tgt := 896) C dL_law_33 (by decide) (by decide) rfl (by decide) ?_
          exact j_fewer (lv' := [(3, .int (nI (i))), (0, .ref b), (1, .ref mm), (2, .ref (mm + 440))]) (by simp) (cs_press hX hbl hL C h hf hi (fun z2 S2 M2 f2 d2 pe2 pa2 la2 LT2 g1 g2 => ih (i + 6) f2 z2 S2 M2 d2 pe2 pa2 la2 LT2 g2 g1 (by omega) (by omega)))
        · refine j_swIn (tgt := 950) C dL_law_33 (by decide) (by decide) rfl (by decide) ?_
          exact j_fewer (lv' := [(3, .int (nI (i))), (0, .ref b), (1, .ref mm), (2, .ref (mm + 440))]) (by simp) (cs_give hX hbl hL C h hf hi (fun z2 S2 M2 f2 d2 pe2 pa2 la2 LT2 g1 g2 => ih (i + 6) f2 z2 S2 M2 d2 pe2 pa2 la2 LT2 g2 g1 (by omega) (by omega)))
        · refine j_swIn (tgt := 1014) C dL_law_33 (by decide) (by decide) rfl (by decide) ?_
          exact j_fewer (lv' := [(3, .int (nI (i))), (0, .ref b), (1, .ref mm), (2, .ref (mm + 440))]) (by simp) (cs_tax hX hbl hL C h hf hi (fun z2 S2 M2 f2 d2 pe2 pa2 la2 LT2 g1 g2 => ih (i + 6) f2 z2 S2 M2 d2 pe2 pa2 la2 LT2 g2 g1 (by omega) (by omega)))
        · refine j_swIn (tgt := 1028) C dL_law_33 (by decide) (by decide) rfl (by decide) ?_
          exact j_fewer (lv' := [(3, .int (nI (i))), (0, .ref b), (1, .ref mm), (2, .ref (mm + 440))]) (by simp) (cs_swap hX hbl hL C h hf hi (fun z2 S2 M2 f2 d2 pe2 pa2 la2 LT2 g1 g2 => ih (i + 6) f2 z2 S2 M2 d2 pe2 pa2 la2 LT2 g2 g1 (by omega) (by omega)))
        · refine j_swIn (tgt := 1052) C dL_law_33 (by decide) (by decide) rfl (by decide) ?_
          exact j_fewer (lv' := [(3, .int (nI (i))), (0, .ref b), (1, .ref mm), (2, .ref (mm + 440))]) (by simp) (cs_need hX hbl hL C h hf hi (fun z2 S2 M2 f2 d2 pe2 pa2 la2 LT2 g1 g2 => ih (i + 6) f2 z2 S2 M2 d2 pe2 pa2 la2 LT2 g2 g1 (by omega) (by omega)))
        · refine j_swIn (tgt := 1076) C dL_law_33 (by decide) (by decide) rfl (by decide) ?_
          exact j_fewer (lv' := [(3, .int (nI (i))), (0, .ref b), (1, .ref mm), (2, .ref (mm + 440))]) (by simp) (cs_melts hX hbl hL C h hf hi (fun z2 S2 M2 f2 d2 pe2 pa2 la2 LT2 g1 g2 => ih (i + 6) f2 z2 S2 M2 d2 pe2 pa2 la2 LT2 g2 g1 (by omega) (by omega)))
        · refine j_swIn (tgt := 1100) C dL_law_33 (by decide) (by decide) rfl (by decide) ?_
          exact j_fewer (lv' := [(3, .int (nI (i))), (0, .ref b), (1, .ref mm), (2, .ref (mm + 440))]) (by simp) (cs_choices hX hbl hL C h hf hi (fun z2 S2 M2 f2 d2 pe2 pa2 la2 LT2 g1 g2 => ih (i + 6) f2 z2 S2 M2 d2 pe2 pa2 la2 LT2 g2 g1 (by omega) (by omega)))
        · refine j_swIn (tgt := 1134) C dL_law_33 (by decide) (by decide) rfl (by decide) ?_
          exact j_fewer (lv' := [(3, .int (nI (i))), (0, .ref b), (1, .ref mm), (2, .ref (mm + 440))]) (by simp) (cs_proves hX hbl hL C h hf hi (fun z2 S2 M2 f2 d2 pe2 pa2 la2 LT2 g1 g2 => ih (i + 6) f2 z2 S2 M2 d2 pe2 pa2 la2 LT2 g2 g1 (by omega) (by omega)))
        · refine j_swIn (tgt := 1168) C dL_law_33 (by decide) (by decide) rfl (by decide) ?_
          exact j_fewer (lv' := [(3, .int (nI (i))), (0, .ref b), (1, .ref mm), (2, .ref (mm + 440))]) (by simp) (cs_beside hX hbl hL C h hf hi (fun z2 S2 M2 f2 d2 pe2 pa2 la2 LT2 g1 g2 => ih (i + 6) f2 z2 S2 M2 d2 pe2 pa2 la2 LT2 g2 g1 (by omega) (by omega)))
        · refine j_swIn (tgt := 1242) C dL_law_33 (by decide) (by decide) rfl (by decide) ?_
          exact j_fewer (lv' := [(3, .int (nI (i))), (0, .ref b), (1, .ref mm), (2, .ref (mm + 440))]) (by simp) (cs_sheet hX hbl hL C h hf hi (fun z2 S2 M2 f2 d2 pe2 pa2 la2 LT2 g1 g2 => ih (i + 6) f2 z2 S2 M2 d2 pe2 pa2 la2 LT2 g2 g1 (by omega) (by omega)))
        · refine j_swIn (tgt := 1286) C dL_law_33 (by decide) (by decide) rfl (by decide) ?_
          exact j_fewer (lv' := [(3, .int (nI (i))), (0, .ref b), (1, .ref mm), (2, .ref (mm + 440))]) (by simp) (cs_put hX hbl hL C h hf hi (fun z2 S2 M2 f2 d2 pe2 pa2 la2 LT2 g1 g2 => ih (i + 6) f2 z2 S2 M2 d2 pe2 pa2 la2 LT2 g2 g1 (by omega) (by omega)))
        · refine j_swIn (tgt := 1330) C dL_law_33 (by decide) (by decide) rfl (by decide) ?_
          exact j_fewer (lv' := [(3, .int (nI (i))), (0, .ref b), (1, .ref mm), (2, .ref (mm + 440))]) (by simp) (cs_copy hX hbl hL C h hf hi (fun z2 S2 M2 f2 d2 pe2 pa2 la2 LT2 g1 g2 => ih (i + 6) f2 z2 S2 M2 d2 pe2 pa2 la2 LT2 g2 g1 (by omega) (by omega)))
        · refine j_swIn (tgt := 1394) C dL_law_33 (by decide) (by decide) rfl (by decide) ?_
          exact j_fewer (lv' := [(3, .int (nI (i))), (0, .ref b), (1, .ref mm), (2, .ref (mm + 440))]) (by simp) (cs_image hX hbl hL C h hf hi (fun z2 S2 M2 f2 d2 pe2 pa2 la2 LT2 g1 g2 => ih (i + 6) f2 z2 S2 M2 d2 pe2 pa2 la2 LT2 g2 g1 (by omega) (by omega)))
        · refine j_swIn (tgt := 1408) C dL_law_33 (by decide) (by decide) rfl (by decide) ?_
          exact j_fewer (lv' := [(3, .int (nI (i))), (0, .ref b), (1, .ref mm), (2, .ref (mm + 440))]) (by simp) (cs_restore hX hbl hL C h hf hi (fun z2 S2 M2 f2 d2 pe2 pa2 la2 LT2 g1 g2 => ih (i + 6) f2 z2 S2 M2 d2 pe2 pa2 la2 LT2 g2 g1 (by omega) (by omega)))
        · refine j_swIn (tgt := 1422) C dL_law_33 (by decide) (by decide) rfl (by decide) ?_
          exact j_fewer (lv' := [(3, .int (nI (i))), (0, .ref b), (1, .ref mm), (2, .ref (mm + 440))]) (by simp) (cs_count hX hbl hL C h hf hi (fun z2 S2 M2 f2 d2 pe2 pa2 la2 LT2 g1 g2 => ih (i + 6) f2 z2 S2 M2 d2 pe2 pa2 la2 LT2 g2 g1 (by omega) (by omega)))
      · refine j_swOut (tgt := 1446) C dL_law_33 (Or.inr (by rw [nI_toInt (by omega)]; omega)) (by decide) ?_
        refine j_iincN (lv' := [(3, .int (nI (i + 6))), (0, .ref b), (1, .ref mm), (2, .ref (mm + 440))]) (q := 1449) C dL_law_1446 rfl rfl (by decide) rfl ?_
        refine j_goto (tgt := 18) C dL_law_1449 (by decide) ?_
        exact j_fewer (lv' := [(3, .int (nI (i + 6))), (0, .ref b), (1, .ref mm), (2, .ref (mm + 440))]) (by simp) (j_widen (by omega) (by omega) (ih (i + 6) f sz Sh M d pe pa la LT h (by omega) (by omega) (by omega)))
