theorem tF_3 : ∀ u, u ∈ tFL → (¬ cTok u < -7 ↔ u.1 = 1 ∧ u.2 < 7) := by decide +kernel
theorem tF_4 : ∀ s, s < 7 → cTok (1, s) = sEnc (1000000 + wps.getD s 0) := by decide +kernel
theorem cT_num {k : Nat} (h : k < 1000000) : ¬ cTok (2, k) < -7 := fun g => absurd (Int32.lt_of_lt_of_le g (by decide : (-7 : Int32) ≤ 0)) (nI_nneg (show k < 2 ^ 31 by omega))
theorem val_c {T : Nat → Nat} {n : Nat} {q : pS} (hT : ∀ i, T i < 256) (hq : q.1 = false) (h : ¬ cTok (tk T n q.2.1) < -7) : ∃ k0, cTok (tk T n q.2.1) = sEnc k0 ∧ (∀ E, pVal T n E q = pNx T n (pEm k0 q)) ∧ ((tk T n q.2.1).1 = 1 ∨ (tk T n q.2.1).1 = 2) := by
  have hqb : ¬ q.1 = true := by rw [hq]; decide
  rcases tk_val (n := n) (x := q.2.1) hT with ⟨k, hk, e⟩ | e
  · refine ⟨k, by rw [e, sEnc_num hk]; rfl, fun E => ?_, by rw [e]; exact Or.inr rfl⟩
    unfold pVal
    rw [if_neg hqb, if_neg (by rw [e]; intro g; cases g), if_pos (by rw [e]), e]
  · obtain ⟨h1, h2⟩ := (tF_3 _ e).mp h
    have ht : tk T n q.2.1 = (1, (tk T n q.2.1).2) := tk_is.mpr ⟨h1, rfl⟩
    refine ⟨1000000 + wps.getD (tk T n q.2.1).2 0, by rw [← tF_4 _ h2]; exact congrArg cTok ht, fun E => ?_, Or.inl h1⟩
    unfold pVal
    rw [if_neg hqb, if_neg (fun g => by rw [g] at h1; cases h1), if_neg (by rw [h1]; decide), if_pos ⟨h1, h2⟩]
theorem val_n {T : Nat → Nat} {n : Nat} {q : pS} (hT : ∀ i, T i < 256) (hq : q.1 = false) (h : cTok (tk T n q.2.1) < -7) (hn : ¬ tk T n q.2.1 = (3, 0)) (E : Option (pS → pS)) : pVal T n E q = pBad q := by
  have hqb : ¬ q.1 = true := by rw [hq]; decide
  unfold pVal
  rw [if_neg hqb, if_neg hn]
  rcases tk_val (n := n) (x := q.2.1) hT with ⟨k, hk, e⟩ | e
  · rw [e] at h; exact absurd h (cT_num hk)
  · rw [if_neg (fun g => ?_), if_neg (fun g => (tF_3 _ e).mpr g h)]
    have : ∀ u, u ∈ tFL → ¬ u.1 = 2 := by decide
    exact this _ e g
set_option maxRecDepth 100000 in
set_option maxHeartbeats 4000000 in
theorem ctX7_readValue_0 {G : jG} {sz : Nat} {Sh : jS} {M : jM} {rd : Nat} {S : Nat → Prop} {T : Nat → Nat} {n : Nat} {M0 : jM} {P : List Nat} {q : pS} (hSo : S rd) (hSc : S (rd + 2)) (hI : pI n P q) (hS : cSt S rd Sh T n M0 P M q) : jC G yX7_readValue cX7_readValue 2 (Option.none : Option FieldType) (jrm 12 0 0) sz Sh M [.ref rd, .int (nI 4)] (jT sz Sh (fun r M1 => r = none ∧ cSt S rd Sh T n M0 P M1 (pVal T n (lvE T n 0).1 q))) := by
  refine jC_start (by decide +kernel) (Nat.le_of_ble_eq_true rfl) (fun X C E hN0 => ?_)
  have hs7 := (cSt_lay hS).1.1
  have hn160 : n ≤ 160 := (cSt_lay hS).2.2.1
  have hT := (cSt_lay hS).2.2.2.1
  have hS0 := hS
  obtain ⟨K, a, b, c, d, e, hQ, hB, hG⟩ := hS0
  refine j_aload_n (q := 1) C dX7_readValue_0 rfl rfl rfl ?_
  refine cg_token hQ (q' := 4) C dX7_readValue_1 rfl kw_248 ?_
  refine j_bipush (v := (-7)) (q := 6) C dX7_readValue_4 rfl (by decide) ?_
  refine j_icmp_lt (q := 9) (tgt := 24) C dX7_readValue_6 rfl (by decide) (fun c_6 => ?_) (fun c_6 => ?_)
  · refine j_aload_n (q := 25) C dX7_readValue_24 rfl rfl rfl ?_
    refine cg_token hQ (q' := 28) C dX7_readValue_25 rfl kw_248 ?_
    refine j_bipush (v := (-14)) (q := 30) C dX7_readValue_28 rfl (by decide) ?_
    refine j_icmp_ne (q := 33) (tgt := 58) C dX7_readValue_30 rfl (by decide) (fun c_30 => ?_) (fun c_30 => ?_)
    · refine j_aload_n (q := 59) C dX7_readValue_58 rfl rfl rfl ?_
      refine jVT jc7 (q := 62) C dX7_readValue_59 rfl hs7 mX7_refuse kw_541 kw_542 kw_10 (ctX7_refuse hSo hSc hI hS) rfl rfl (by decide) (Nat.le_of_ble_eq_true rfl) (by decide) (fun r_59 M_59 h_59 => ?_)
      obtain ⟨rfl, hS1⟩ := h_59
      exact j_vret C E dX7_readValue_62 rfl rfl (by
          refine ⟨rfl, rfl, rfl, ?_⟩
          by_cases hq : q.1 = true
          · rw [show pVal T n (lvE T n 0).1 q = pBad q by unfold pVal; rw [if_pos hq, pBad_i hq]]; exact hS1
          · have h1 := (hG (bf hq)).1
            rw [h1] at c_6 c_30
            rw [val_n hT (bf hq) c_6 (fun g => c_30 (by rw [g]; decide))]; exact hS1)
    · have hq : q.1 = false := bf (fun hq => by
        rw [(hB hq).1] at c_30
        exact absurd c_30 (by decide))
      obtain ⟨rfl, rfl, rfl, h3, rfl, hK⟩ := hG hq
      have htk : tk T n q.2.1 = (3, 0) := cT_inj hT (by decide) (Eq.trans c_30 (by decide))
      obtain rfl := h3 (by rw [htk]; decide)
      refine j_iload_n (q := 34) C dX7_readValue_33 rfl rfl rfl ?_
      refine j_iconst (v := nI 4) (q := 35) C dX7_readValue_34 rfl (by decide) ?_
      refine j_icmp_ge (q := 38) (tgt := 58) C dX7_readValue_35 rfl (by decide) (fun c_35 => ?_) (fun c_35 => absurd (by decide) c_35)
      refine j_aload_n (q := 59) C dX7_readValue_58 rfl rfl rfl ?_
      refine jVT jc7 (q := 62) C dX7_readValue_59 rfl hs7 mX7_refuse kw_541 kw_542 kw_10 (ctX7_refuse hSo hSc hI hS) rfl rfl (by decide) (Nat.le_of_ble_eq_true rfl) (by decide) (fun r_59 M_59 h_59 => ?_)
      obtain ⟨rfl, hS1⟩ := h_59
      exact j_vret C E dX7_readValue_62 rfl rfl (⟨rfl, rfl, rfl, by rw [show pVal T n (lvE T n 0).1 q = pBad q by unfold pVal; rw [if_neg (by rw [hq]; decide), if_pos htk]; rfl]; exact hS1⟩)
  · have hq : q.1 = false := bf (fun hq => c_6 (by rw [(hB hq).1]; decide))
    obtain ⟨rfl, rfl, rfl, h3, rfl, hK⟩ := hG hq
    obtain ⟨k0, hk0, hpv, ht0⟩ := val_c hT hq c_6
    obtain rfl := h3 (by omega)
    have hxn := tk_in (T := T) (n := n) (x := q.2.1) (by omega) hI.1
    have hxt := tt_n (T := T) hI.1
    have hl159 : q.1 = false → (P ++ q.2.2).length ≤ 159 := fun hq => by
      have := hI.2 hq
      rw [List.length_append]; omega
    refine j_aload_n (q := 10) C dX7_readValue_9 rfl rfl rfl ?_
    refine j_aload_n (q := 11) C dX7_readValue_10 rfl rfl rfl ?_
    refine cg_token hQ (q' := 14) C dX7_readValue_11 rfl kw_248 ?_
    refine jVT jc7 (q := 17) C dX7_readValue_14 rfl hs7 mX7_emit kw_553 kw_554 kw_14 (ctX7_emit hSo hSc hI hS hl159 (k0 := k0) hk0) rfl rfl (by decide) (Nat.le_of_ble_eq_true rfl) (by decide) (fun r_14 M_14 h_14 => ?_)
    obtain ⟨rfl, hS1⟩ := h_14
    rw [pEm_f hq] at hS1
    obtain ⟨K1, a1, b1, c1, d1, e1, hQ, -, hG1⟩ := hS1
    obtain ⟨rfl, rfl, rfl, h31, rfl, hK1⟩ := hG1 rfl
    obtain rfl := h31 (show ¬ (tk T n q.2.1).1 = 4 by omega)
    refine j_aload_n (q := 18) C dX7_readValue_17 rfl rfl rfl ?_
    refine jVT jc7 (q := 21) C dX7_readValue_18 rfl hs7 mX7_advance kw_471 kw_472 kw_3 (ctX7_advance hSo hQ hxt.1) rfl rfl (by decide) (Nat.le_of_ble_eq_true rfl) (by decide) (fun r_18 M_18 h_18 => ?_)
    obtain ⟨rfl, hN⟩ := h_18
    have hS2 : cSt S rd Sh T n M0 P M_18 (pNx T n (pEm k0 q)) := by rw [pEm_f hq]; exact cSt_nx (q := (false, q.2.1, q.2.2 ++ [k0])) rfl hN hK1
    refine j_goto (tgt := 62) C dX7_readValue_21 (by decide) ?_
    exact j_vret C E dX7_readValue_62 rfl rfl (⟨rfl, rfl, rfl, by rw [hpv]; exact hS2⟩)

set_option maxRecDepth 100000 in
set_option maxHeartbeats 4000000 in
theorem ctX7_readOne_0 {G : jG} {sz : Nat} {Sh : jS} {M : jM} {rd : Nat} {S : Nat → Prop} {T : Nat → Nat} {n : Nat} {M0 : jM} {P : List Nat} {q : pS} (hSo : S rd) (hSc : S (rd + 2)) (hI : pI n P q) (hS : cSt S rd Sh T n M0 P M q) : jC G yX7_readOne cX7_readOne 4 (Option.none : Option FieldType) (jrm 13 0 0) sz Sh M [.ref rd, .int (nI 4)] (jT sz Sh (fun r M1 => r = none ∧ cSt S rd Sh T n M0 P M1 (pOne T n (lvE T n 0).1 q))) := by
  refine jC_start (by decide +kernel) (Nat.le_of_ble_eq_true rfl) (fun X C E hN0 => ?_)
  have hs7 := (cSt_lay hS).1.1
  have hn160 : n ≤ 160 := (cSt_lay hS).2.2.1
  have hT := (cSt_lay hS).2.2.2.1
  have hS0 := hS
  obtain ⟨K, a, b, c, d, e, hQ, hB, hG⟩ := hS0
  obtain ⟨Q, eQ⟩ : ∃ z, z = pOne T n (lvE T n 0).1 q := ⟨_, rfl⟩
  rw [← eQ] at E
  have loop7 : ∀ (f i : Nat) (q : pS) (M : jM), i + f = 160 → pI n P q → pLp T n oMul (pVal T n (lvE T n 0).1) f q = Q → cSt S rd Sh T n M0 P M q → jJ G X 0 0 sz Sh M 7 [(2, .int (nI i)), (1, .int (nI 4)), (0, .ref rd)] [] := by
    intro f
    induction f with
    | zero =>
      intro i q M hi hI hQe hS
      have hS0 := hS
      obtain ⟨K, a, b, c, d, e, hQ, hB, hG⟩ := hS0
      refine j_iload_n (q := 8) C dX7_readOne_7 rfl rfl rfl ?_
      refine j_sipush (v := nI 160) (q := 11) C dX7_readOne_8 rfl (by decide) ?_
      refine j_icmp_ge (q := 14) (tgt := 57) C dX7_readOne_11 rfl (by decide) (fun c_11 => ?_) (fun c_11 => absurd (nI_le (by omega) (by omega)) c_11)
      exact j_vret C E dX7_readOne_57 rfl rfl (⟨rfl, rfl, rfl, by rw [← hQe]; exact hS⟩)
    | succ f ih =>
      intro i q M hi hI hQe hS
      have hS0 := hS
      obtain ⟨K, a, b, c, d, e, hQ, hB, hG⟩ := hS0
      refine j_iload_n (q := 8) C dX7_readOne_7 rfl rfl rfl ?_
      refine j_sipush (v := nI 160) (q := 11) C dX7_readOne_8 rfl (by decide) ?_
      refine j_icmp_ge (q := 14) (tgt := 57) C dX7_readOne_11 rfl (by decide) (fun c_11 => absurd c_11 (fun h => absurd ((nI_leI (by omega) (by omega)).mp h) (by omega))) (fun c_11 => ?_)
      refine j_aload_n (q := 15) C dX7_readOne_14 rfl rfl rfl ?_
      refine cg_token hQ (q' := 18) C dX7_readOne_15 rfl kw_248 ?_
      refine j_bipush (v := (-19)) (q := 20) C dX7_readOne_18 rfl (by decide) ?_
      refine j_icmp_eq (q := 23) (tgt := 32) C dX7_readOne_20 rfl (by decide) (fun c_20 => ?_) (fun c_20 => ?_)
      · have hq : q.1 = false := bf (fun hq => by
          rw [(hB hq).1] at c_20
          exact absurd c_20 (by decide))
        obtain ⟨rfl, rfl, rfl, h3, rfl, hK⟩ := hG hq
        have htk : tk T n q.2.1 = (3, 5) := cT_inj hT (by decide) (Eq.trans c_20 (by decide))
        obtain rfl := h3 (by rw [htk]; decide)
        have ho : oMul (tk T n q.2.1) = some 2000006 := by rw [htk]; rfl
        obtain ⟨a1, a2, a3, a4⟩ := pI_step (c := 2000006) (pVal_G (k := 1) hT (lvE_G hT 0).1 (by omega)) hq (by rw [htk]; decide) hI
        have hl159 : ((pVal T n (lvE T n 0).1) (pNx T n q)).1 = false → (P ++ ((pVal T n (lvE T n 0).1) (pNx T n q)).2.2).length ≤ 159 := fun hf => by
          have h := a3.2 (by rw [pEm_f hf])
          have h9 := a3.1
          rw [pEm_f hf] at h h9
          have h8 : P.length + (((pVal T n (lvE T n 0).1) (pNx T n q)).2.2 ++ [2000006]).length ≤ ((pVal T n (lvE T n 0).1) (pNx T n q)).2.1 := h
          have h7 : ((pVal T n (lvE T n 0).1) (pNx T n q)).2.1 ≤ n := h9
          simp only [List.length_append, List.length_cons, List.length_nil] at h8
          rw [List.length_append]; omega
        refine j_aload_n (q := 33) C dX7_readOne_32 rfl rfl rfl ?_
        refine cg_token hQ (q' := 36) C dX7_readOne_33 rfl kw_248 ?_
        refine j_istore_n (lv' := [(3, _), (2, _), (1, _), (0, _)]) (q := 37) C dX7_readOne_36 rfl rfl (by decide) rfl ?_
        refine j_aload_n (q := 38) C dX7_readOne_37 rfl rfl rfl ?_
        refine jVT jc7 (q := 41) C dX7_readOne_38 rfl hs7 mX7_advance kw_471 kw_472 kw_3 (ctX7_advance hSo hQ (tt_n (T := T) hI.1).1) rfl rfl (by decide) (Nat.le_of_ble_eq_true rfl) (by decide) (fun r_38 M_38 h_38 => ?_)
        obtain ⟨rfl, hN⟩ := h_38
        have hS1 := cSt_nx hq hN hK
        refine j_aload_n (q := 42) C dX7_readOne_41 rfl rfl rfl ?_
        refine j_iload_n (q := 43) C dX7_readOne_42 rfl rfl rfl ?_
        refine jVT jc7 (q := 46) C dX7_readOne_43 rfl hs7 mX7_readValue kw_562 kw_563 kw_17 (ctX7_readValue_0 hSo hSc a1 hS1) rfl rfl (by decide) (Nat.le_of_ble_eq_true rfl) (by decide) (fun r_43 M_43 h_43 => ?_)
        obtain ⟨rfl, hS2⟩ := h_43
        refine j_aload_n (q := 47) C dX7_readOne_46 rfl rfl rfl ?_
        refine j_iload_n (q := 48) C dX7_readOne_47 rfl rfl rfl ?_
        refine jVT jc7 (q := 51) C dX7_readOne_48 rfl hs7 mX7_emit kw_553 kw_554 kw_14 (ctX7_emit hSo hSc a2 hS2 hl159 (k0 := 2000006) (by rw [htk]; decide)) rfl rfl (by decide) (Nat.le_of_ble_eq_true rfl) (by decide) (fun r_48 M_48 h_48 => ?_)
        obtain ⟨rfl, hS3⟩ := h_48
        first | refine j_iincN (lv' := [(2, _), (3, _), (1, _), (0, _)]) (q := 54) C dX7_readOne_51 rfl rfl (by decide) rfl ?_ | refine j_iinc (lv' := [(2, _), (3, _), (1, _), (0, _)]) (q := 54) C dX7_readOne_51 rfl rfl rfl (by decide) rfl ?_
        refine j_goto (tgt := 7) C dX7_readOne_54 (by decide) ?_
        exact j_fewer (lv' := [(2, .int (nI (i + 1))), (1, .int (nI 4)), (0, .ref rd)]) (by simp) (ih (i + 1) _ M_48 (by omega) a3 (by rw [← hQe, pLp, if_neg (by rw [hq]; decide), ho]) hS3)
      · refine j_aload_n (q := 24) C dX7_readOne_23 rfl rfl rfl ?_
        refine cg_token hQ (q' := 27) C dX7_readOne_24 rfl kw_248 ?_
        refine j_bipush (v := (-20)) (q := 29) C dX7_readOne_27 rfl (by decide) ?_
        refine j_icmp_ne (q := 32) (tgt := 57) C dX7_readOne_29 rfl (by decide) (fun c_29 => ?_) (fun c_29 => ?_)
        · exact j_vret C E dX7_readOne_57 rfl rfl (⟨rfl, rfl, rfl, by
                have e0 : pLp T n oMul (pVal T n (lvE T n 0).1) (f + 1) q = q := by
                  by_cases hb : q.1 = true
                  · exact pLp_bad hb _
                  · have h1 := (hG (bf hb)).1
                    have ho : oMul (tk T n q.2.1) = none := by unfold oMul; rw [if_neg (fun h => c_20 (by rw [h1, h]; decide)), if_neg (fun h => c_29 (by rw [h1, h]; decide))]
                    rw [pLp, if_neg hb, ho]
                rw [← hQe, e0]; exact hS⟩)
        · have hq : q.1 = false := bf (fun hq => by
            rw [(hB hq).1] at c_29
            exact absurd c_29 (by decide))
          obtain ⟨rfl, rfl, rfl, h3, rfl, hK⟩ := hG hq
          have htk : tk T n q.2.1 = (3, 6) := cT_inj hT (by decide) (Eq.trans c_29 (by decide))
          obtain rfl := h3 (by rw [htk]; decide)
          have ho : oMul (tk T n q.2.1) = some 2000007 := by rw [htk]; rfl
          obtain ⟨a1, a2, a3, a4⟩ := pI_step (c := 2000007) (pVal_G (k := 1) hT (lvE_G hT 0).1 (by omega)) hq (by rw [htk]; decide) hI
          have hl159 : ((pVal T n (lvE T n 0).1) (pNx T n q)).1 = false → (P ++ ((pVal T n (lvE T n 0).1) (pNx T n q)).2.2).length ≤ 159 := fun hf => by
            have h := a3.2 (by rw [pEm_f hf])
            have h9 := a3.1
            rw [pEm_f hf] at h h9
            have h8 : P.length + (((pVal T n (lvE T n 0).1) (pNx T n q)).2.2 ++ [2000007]).length ≤ ((pVal T n (lvE T n 0).1) (pNx T n q)).2.1 := h
            have h7 : ((pVal T n (lvE T n 0).1) (pNx T n q)).2.1 ≤ n := h9
            simp only [List.length_append, List.length_cons, List.length_nil] at h8
            rw [List.length_append]; omega
          refine j_aload_n (q := 33) C dX7_readOne_32 rfl rfl rfl ?_
          refine cg_token hQ (q' := 36) C dX7_readOne_33 rfl kw_248 ?_
          refine j_istore_n (lv' := [(3, _), (2, _), (1, _), (0, _)]) (q := 37) C dX7_readOne_36 rfl rfl (by decide) rfl ?_
          refine j_aload_n (q := 38) C dX7_readOne_37 rfl rfl rfl ?_
          refine jVT jc7 (q := 41) C dX7_readOne_38 rfl hs7 mX7_advance kw_471 kw_472 kw_3 (ctX7_advance hSo hQ (tt_n (T := T) hI.1).1) rfl rfl (by decide) (Nat.le_of_ble_eq_true rfl) (by decide) (fun r_38 M_38 h_38 => ?_)
          obtain ⟨rfl, hN⟩ := h_38
          have hS1 := cSt_nx hq hN hK
          refine j_aload_n (q := 42) C dX7_readOne_41 rfl rfl rfl ?_
          refine j_iload_n (q := 43) C dX7_readOne_42 rfl rfl rfl ?_
          refine jVT jc7 (q := 46) C dX7_readOne_43 rfl hs7 mX7_readValue kw_562 kw_563 kw_17 (ctX7_readValue_0 hSo hSc a1 hS1) rfl rfl (by decide) (Nat.le_of_ble_eq_true rfl) (by decide) (fun r_43 M_43 h_43 => ?_)
          obtain ⟨rfl, hS2⟩ := h_43
          refine j_aload_n (q := 47) C dX7_readOne_46 rfl rfl rfl ?_
          refine j_iload_n (q := 48) C dX7_readOne_47 rfl rfl rfl ?_
          refine jVT jc7 (q := 51) C dX7_readOne_48 rfl hs7 mX7_emit kw_553 kw_554 kw_14 (ctX7_emit hSo hSc a2 hS2 hl159 (k0 := 2000007) (by rw [htk]; decide)) rfl rfl (by decide) (Nat.le_of_ble_eq_true rfl) (by decide) (fun r_48 M_48 h_48 => ?_)
          obtain ⟨rfl, hS3⟩ := h_48
          first | refine j_iincN (lv' := [(2, _), (3, _), (1, _), (0, _)]) (q := 54) C dX7_readOne_51 rfl rfl (by decide) rfl ?_ | refine j_iinc (lv' := [(2, _), (3, _), (1, _), (0, _)]) (q := 54) C dX7_readOne_51 rfl rfl rfl (by decide) rfl ?_
          refine j_goto (tgt := 7) C dX7_readOne_54 (by decide) ?_
          exact j_fewer (lv' := [(2, .int (nI (i + 1))), (1, .int (nI 4)), (0, .ref rd)]) (by simp) (ih (i + 1) _ M_48 (by omega) a3 (by rw [← hQe, pLp, if_neg (by rw [hq]; decide), ho]) hS3)
  refine j_aload_n (q := 1) C dX7_readOne_0 rfl rfl rfl ?_
  refine j_iload_n (q := 2) C dX7_readOne_1 rfl rfl rfl ?_
  refine jVT jc7 (q := 5) C dX7_readOne_2 rfl hs7 mX7_readValue kw_562 kw_563 kw_17 (ctX7_readValue_0 hSo hSc hI hS) rfl rfl (by decide) (Nat.le_of_ble_eq_true rfl) (by decide) (fun r_2 M_2 h_2 => ?_)
  obtain ⟨rfl, hS1⟩ := h_2
  refine j_iconst (v := nI 0) (q := 6) C dX7_readOne_5 rfl (by decide) ?_
  refine j_istore_n (lv' := [(2, _), (0, _), (1, _)]) (q := 7) C dX7_readOne_6 rfl rfl (by decide) rfl ?_
  exact j_fewer (lv' := [(2, .int (nI 0)), (1, .int (nI 4)), (0, .ref rd)]) (by simp) (loop7 160 0 _ M_2 rfl (pI_sub (pVal_G (k := 1) hT (lvE_G hT 0).1 (by omega)) hI) (by rw [eQ]; unfold pOne; rfl) hS1)

set_option maxRecDepth 100000 in
set_option maxHeartbeats 4000000 in
theorem ctX7_readSum_0 {G : jG} {sz : Nat} {Sh : jS} {M : jM} {rd : Nat} {S : Nat → Prop} {T : Nat → Nat} {n : Nat} {M0 : jM} {P : List Nat} {q : pS} (hSo : S rd) (hSc : S (rd + 2)) (hI : pI n P q) (hS : cSt S rd Sh T n M0 P M q) : jC G yX7_readSum cX7_readSum 4 (Option.none : Option FieldType) (jrm 14 0 0) sz Sh M [.ref rd, .int (nI 4)] (jT sz Sh (fun r M1 => r = none ∧ cSt S rd Sh T n M0 P M1 (pSum T n (lvE T n 0).1 q))) := by
  refine jC_start (by decide +kernel) (Nat.le_of_ble_eq_true rfl) (fun X C E hN0 => ?_)
  have hs7 := (cSt_lay hS).1.1
  have hn160 : n ≤ 160 := (cSt_lay hS).2.2.1
  have hT := (cSt_lay hS).2.2.2.1
  have hS0 := hS
  obtain ⟨K, a, b, c, d, e, hQ, hB, hG⟩ := hS0
  obtain ⟨Q, eQ⟩ : ∃ z, z = pSum T n (lvE T n 0).1 q := ⟨_, rfl⟩
  rw [← eQ] at E
  have loop7 : ∀ (f i : Nat) (q : pS) (M : jM), i + f = 160 → pI n P q → pLp T n oAdd (pOne T n (lvE T n 0).1) f q = Q → cSt S rd Sh T n M0 P M q → jJ G X 0 0 sz Sh M 7 [(2, .int (nI i)), (1, .int (nI 4)), (0, .ref rd)] [] := by
    intro f
    induction f with
    | zero =>
      intro i q M hi hI hQe hS
      have hS0 := hS
      obtain ⟨K, a, b, c, d, e, hQ, hB, hG⟩ := hS0
      refine j_iload_n (q := 8) C dX7_readSum_7 rfl rfl rfl ?_
      refine j_sipush (v := nI 160) (q := 11) C dX7_readSum_8 rfl (by decide) ?_
      refine j_icmp_ge (q := 14) (tgt := 57) C dX7_readSum_11 rfl (by decide) (fun c_11 => ?_) (fun c_11 => absurd (nI_le (by omega) (by omega)) c_11)
      exact j_vret C E dX7_readSum_57 rfl rfl (⟨rfl, rfl, rfl, by rw [← hQe]; exact hS⟩)
    | succ f ih =>
      intro i q M hi hI hQe hS
      have hS0 := hS
      obtain ⟨K, a, b, c, d, e, hQ, hB, hG⟩ := hS0
      refine j_iload_n (q := 8) C dX7_readSum_7 rfl rfl rfl ?_
      refine j_sipush (v := nI 160) (q := 11) C dX7_readSum_8 rfl (by decide) ?_
      refine j_icmp_ge (q := 14) (tgt := 57) C dX7_readSum_11 rfl (by decide) (fun c_11 => absurd c_11 (fun h => absurd ((nI_leI (by omega) (by omega)).mp h) (by omega))) (fun c_11 => ?_)
      refine j_aload_n (q := 15) C dX7_readSum_14 rfl rfl rfl ?_
      refine cg_token hQ (q' := 18) C dX7_readSum_15 rfl kw_248 ?_
      refine j_bipush (v := (-17)) (q := 20) C dX7_readSum_18 rfl (by decide) ?_
      refine j_icmp_eq (q := 23) (tgt := 32) C dX7_readSum_20 rfl (by decide) (fun c_20 => ?_) (fun c_20 => ?_)
      · have hq : q.1 = false := bf (fun hq => by
          rw [(hB hq).1] at c_20
          exact absurd c_20 (by decide))
        obtain ⟨rfl, rfl, rfl, h3, rfl, hK⟩ := hG hq
        have htk : tk T n q.2.1 = (3, 3) := cT_inj hT (by decide) (Eq.trans c_20 (by decide))
        obtain rfl := h3 (by rw [htk]; decide)
        have ho : oAdd (tk T n q.2.1) = some 2000004 := by rw [htk]; rfl
        obtain ⟨a1, a2, a3, a4⟩ := pI_step (c := 2000004) (pOne_G (k := 1) hT (lvE_G hT 0).1 (by omega)) hq (by rw [htk]; decide) hI
        have hl159 : ((pOne T n (lvE T n 0).1) (pNx T n q)).1 = false → (P ++ ((pOne T n (lvE T n 0).1) (pNx T n q)).2.2).length ≤ 159 := fun hf => by
          have h := a3.2 (by rw [pEm_f hf])
          have h9 := a3.1
          rw [pEm_f hf] at h h9
          have h8 : P.length + (((pOne T n (lvE T n 0).1) (pNx T n q)).2.2 ++ [2000004]).length ≤ ((pOne T n (lvE T n 0).1) (pNx T n q)).2.1 := h
          have h7 : ((pOne T n (lvE T n 0).1) (pNx T n q)).2.1 ≤ n := h9
          simp only [List.length_append, List.length_cons, List.length_nil] at h8
          rw [List.length_append]; omega
        refine j_aload_n (q := 33) C dX7_readSum_32 rfl rfl rfl ?_
        refine cg_token hQ (q' := 36) C dX7_readSum_33 rfl kw_248 ?_
        refine j_istore_n (lv' := [(3, _), (2, _), (1, _), (0, _)]) (q := 37) C dX7_readSum_36 rfl rfl (by decide) rfl ?_
        refine j_aload_n (q := 38) C dX7_readSum_37 rfl rfl rfl ?_
        refine jVT jc7 (q := 41) C dX7_readSum_38 rfl hs7 mX7_advance kw_471 kw_472 kw_3 (ctX7_advance hSo hQ (tt_n (T := T) hI.1).1) rfl rfl (by decide) (Nat.le_of_ble_eq_true rfl) (by decide) (fun r_38 M_38 h_38 => ?_)
        obtain ⟨rfl, hN⟩ := h_38
        have hS1 := cSt_nx hq hN hK
        refine j_aload_n (q := 42) C dX7_readSum_41 rfl rfl rfl ?_
        refine j_iload_n (q := 43) C dX7_readSum_42 rfl rfl rfl ?_
        refine jVT jc7 (q := 46) C dX7_readSum_43 rfl hs7 mX7_readOne kw_559 kw_560 kw_16 (ctX7_readOne_0 hSo hSc a1 hS1) rfl rfl (by decide) (Nat.le_of_ble_eq_true rfl) (by decide) (fun r_43 M_43 h_43 => ?_)
        obtain ⟨rfl, hS2⟩ := h_43
        refine j_aload_n (q := 47) C dX7_readSum_46 rfl rfl rfl ?_
        refine j_iload_n (q := 48) C dX7_readSum_47 rfl rfl rfl ?_
        refine jVT jc7 (q := 51) C dX7_readSum_48 rfl hs7 mX7_emit kw_553 kw_554 kw_14 (ctX7_emit hSo hSc a2 hS2 hl159 (k0 := 2000004) (by rw [htk]; decide)) rfl rfl (by decide) (Nat.le_of_ble_eq_true rfl) (by decide) (fun r_48 M_48 h_48 => ?_)
        obtain ⟨rfl, hS3⟩ := h_48
        first | refine j_iincN (lv' := [(2, _), (3, _), (1, _), (0, _)]) (q := 54) C dX7_readSum_51 rfl rfl (by decide) rfl ?_ | refine j_iinc (lv' := [(2, _), (3, _), (1, _), (0, _)]) (q := 54) C dX7_readSum_51 rfl rfl rfl (by decide) rfl ?_
        refine j_goto (tgt := 7) C dX7_readSum_54 (by decide) ?_
        exact j_fewer (lv' := [(2, .int (nI (i + 1))), (1, .int (nI 4)), (0, .ref rd)]) (by simp) (ih (i + 1) _ M_48 (by omega) a3 (by rw [← hQe, pLp, if_neg (by rw [hq]; decide), ho]) hS3)
      · refine j_aload_n (q := 24) C dX7_readSum_23 rfl rfl rfl ?_
        refine cg_token hQ (q' := 27) C dX7_readSum_24 rfl kw_248 ?_
        refine j_bipush (v := (-18)) (q := 29) C dX7_readSum_27 rfl (by decide) ?_
        refine j_icmp_ne (q := 32) (tgt := 57) C dX7_readSum_29 rfl (by decide) (fun c_29 => ?_) (fun c_29 => ?_)
        · exact j_vret C E dX7_readSum_57 rfl rfl (⟨rfl, rfl, rfl, by
                have e0 : pLp T n oAdd (pOne T n (lvE T n 0).1) (f + 1) q = q := by
                  by_cases hb : q.1 = true
                  · exact pLp_bad hb _
                  · have h1 := (hG (bf hb)).1
                    have ho : oAdd (tk T n q.2.1) = none := by unfold oAdd; rw [if_neg (fun h => c_20 (by rw [h1, h]; decide)), if_neg (fun h => c_29 (by rw [h1, h]; decide))]
                    rw [pLp, if_neg hb, ho]
                rw [← hQe, e0]; exact hS⟩)
        · have hq : q.1 = false := bf (fun hq => by
            rw [(hB hq).1] at c_29
            exact absurd c_29 (by decide))
          obtain ⟨rfl, rfl, rfl, h3, rfl, hK⟩ := hG hq
          have htk : tk T n q.2.1 = (3, 4) := cT_inj hT (by decide) (Eq.trans c_29 (by decide))
          obtain rfl := h3 (by rw [htk]; decide)
          have ho : oAdd (tk T n q.2.1) = some 2000005 := by rw [htk]; rfl
          obtain ⟨a1, a2, a3, a4⟩ := pI_step (c := 2000005) (pOne_G (k := 1) hT (lvE_G hT 0).1 (by omega)) hq (by rw [htk]; decide) hI
          have hl159 : ((pOne T n (lvE T n 0).1) (pNx T n q)).1 = false → (P ++ ((pOne T n (lvE T n 0).1) (pNx T n q)).2.2).length ≤ 159 := fun hf => by
            have h := a3.2 (by rw [pEm_f hf])
            have h9 := a3.1
            rw [pEm_f hf] at h h9
            have h8 : P.length + (((pOne T n (lvE T n 0).1) (pNx T n q)).2.2 ++ [2000005]).length ≤ ((pOne T n (lvE T n 0).1) (pNx T n q)).2.1 := h
            have h7 : ((pOne T n (lvE T n 0).1) (pNx T n q)).2.1 ≤ n := h9
            simp only [List.length_append, List.length_cons, List.length_nil] at h8
            rw [List.length_append]; omega
          refine j_aload_n (q := 33) C dX7_readSum_32 rfl rfl rfl ?_
          refine cg_token hQ (q' := 36) C dX7_readSum_33 rfl kw_248 ?_
          refine j_istore_n (lv' := [(3, _), (2, _), (1, _), (0, _)]) (q := 37) C dX7_readSum_36 rfl rfl (by decide) rfl ?_
          refine j_aload_n (q := 38) C dX7_readSum_37 rfl rfl rfl ?_
          refine jVT jc7 (q := 41) C dX7_readSum_38 rfl hs7 mX7_advance kw_471 kw_472 kw_3 (ctX7_advance hSo hQ (tt_n (T := T) hI.1).1) rfl rfl (by decide) (Nat.le_of_ble_eq_true rfl) (by decide) (fun r_38 M_38 h_38 => ?_)
          obtain ⟨rfl, hN⟩ := h_38
          have hS1 := cSt_nx hq hN hK
          refine j_aload_n (q := 42) C dX7_readSum_41 rfl rfl rfl ?_
          refine j_iload_n (q := 43) C dX7_readSum_42 rfl rfl rfl ?_
          refine jVT jc7 (q := 46) C dX7_readSum_43 rfl hs7 mX7_readOne kw_559 kw_560 kw_16 (ctX7_readOne_0 hSo hSc a1 hS1) rfl rfl (by decide) (Nat.le_of_ble_eq_true rfl) (by decide) (fun r_43 M_43 h_43 => ?_)
          obtain ⟨rfl, hS2⟩ := h_43
          refine j_aload_n (q := 47) C dX7_readSum_46 rfl rfl rfl ?_
          refine j_iload_n (q := 48) C dX7_readSum_47 rfl rfl rfl ?_
          refine jVT jc7 (q := 51) C dX7_readSum_48 rfl hs7 mX7_emit kw_553 kw_554 kw_14 (ctX7_emit hSo hSc a2 hS2 hl159 (k0 := 2000005) (by rw [htk]; decide)) rfl rfl (by decide) (Nat.le_of_ble_eq_true rfl) (by decide) (fun r_48 M_48 h_48 => ?_)
          obtain ⟨rfl, hS3⟩ := h_48
          first | refine j_iincN (lv' := [(2, _), (3, _), (1, _), (0, _)]) (q := 54) C dX7_readSum_51 rfl rfl (by decide) rfl ?_ | refine j_iinc (lv' := [(2, _), (3, _), (1, _), (0, _)]) (q := 54) C dX7_readSum_51 rfl rfl rfl (by decide) rfl ?_
          refine j_goto (tgt := 7) C dX7_readSum_54 (by decide) ?_
          exact j_fewer (lv' := [(2, .int (nI (i + 1))), (1, .int (nI 4)), (0, .ref rd)]) (by simp) (ih (i + 1) _ M_48 (by omega) a3 (by rw [← hQe, pLp, if_neg (by rw [hq]; decide), ho]) hS3)
  refine j_aload_n (q := 1) C dX7_readSum_0 rfl rfl rfl ?_
  refine j_iload_n (q := 2) C dX7_readSum_1 rfl rfl rfl ?_
  refine jVT jc7 (q := 5) C dX7_readSum_2 rfl hs7 mX7_readOne kw_559 kw_560 kw_16 (ctX7_readOne_0 hSo hSc hI hS) rfl rfl (by decide) (Nat.le_of_ble_eq_true rfl) (by decide) (fun r_2 M_2 h_2 => ?_)
  obtain ⟨rfl, hS1⟩ := h_2
  refine j_iconst (v := nI 0) (q := 6) C dX7_readSum_5 rfl (by decide) ?_
  refine j_istore_n (lv' := [(2, _), (0, _), (1, _)]) (q := 7) C dX7_readSum_6 rfl rfl (by decide) rfl ?_
  exact j_fewer (lv' := [(2, .int (nI 0)), (1, .int (nI 4)), (0, .ref rd)]) (by simp) (loop7 160 0 _ M_2 rfl (pI_sub (pOne_G (k := 1) hT (lvE_G hT 0).1 (by omega)) hI) (by rw [eQ]; unfold pSum; rfl) hS1)

set_option maxRecDepth 100000 in
set_option maxHeartbeats 4000000 in
theorem ctX7_readNot_0 {G : jG} {sz : Nat} {Sh : jS} {M : jM} {rd : Nat} {S : Nat → Prop} {T : Nat → Nat} {n : Nat} {M0 : jM} {P : List Nat} {q : pS} (hSo : S rd) (hSc : S (rd + 2)) (hI : pI n P q) (hS : cSt S rd Sh T n M0 P M q) : jC G yX7_readNot cX7_readNot 3 (Option.none : Option FieldType) (jrm 15 0 0) sz Sh M [.ref rd, .int (nI 4)] (jT sz Sh (fun r M1 => r = none ∧ cSt S rd Sh T n M0 P M1 (pNot T n (lvE T n 0).1 (lvE T n 0).2 q))) := by
  refine jC_start (by decide +kernel) (Nat.le_of_ble_eq_true rfl) (fun X C E hN0 => ?_)
  have hs7 := (cSt_lay hS).1.1
  have hn160 : n ≤ 160 := (cSt_lay hS).2.2.1
  have hT := (cSt_lay hS).2.2.2.1
  have hS0 := hS
  obtain ⟨K, a, b, c, d, e, hQ, hB, hG⟩ := hS0
  refine j_aload_n (q := 1) C dX7_readNot_0 rfl rfl rfl ?_
  refine cg_token hQ (q' := 4) C dX7_readNot_1 rfl kw_248 ?_
  refine j_bipush (v := (-13)) (q := 6) C dX7_readNot_4 rfl (by decide) ?_
  refine j_icmp_ne (q := 9) (tgt := 37) C dX7_readNot_6 rfl (by decide) (fun c_6 => ?_) (fun c_6 => ?_)
  · refine j_aload_n (q := 38) C dX7_readNot_37 rfl rfl rfl ?_
    refine j_iload_n (q := 39) C dX7_readNot_38 rfl rfl rfl ?_
    refine jVT jc7 (q := 42) C dX7_readNot_39 rfl hs7 mX7_readSum kw_556 kw_557 kw_15 (ctX7_readSum_0 hSo hSc hI hS) rfl rfl (by decide) (Nat.le_of_ble_eq_true rfl) (by decide) (fun r_39 M_39 h_39 => ?_)
    obtain ⟨rfl, hS3⟩ := h_39
    have hI3 := pI_sub (pSum_G (k := 1) hT (lvE_G hT 0).1 (by omega)) hI
    have eN : pNot T n (lvE T n 0).1 (lvE T n 0).2 q = pCmp T n (lvE T n 0).1 (pSum T n (lvE T n 0).1 q) := by
      unfold pNot
      by_cases hb : q.1 = true
      · rw [if_pos hb, ((pSum_G (k := 1) hT (lvE_G hT 0).1 (by omega)) q hI.1).1 hb]; unfold pCmp; rw [if_pos hb]
      · have h1 := (hG (bf hb)).1
        rw [if_neg hb, if_neg (fun h => c_6 (by rw [h1, h]; decide))]
    obtain ⟨q3, e3⟩ : ∃ z, z = pSum T n (lvE T n 0).1 q := ⟨_, rfl⟩
    rw [← e3] at hS3 hI3 eN
    have hS0 := hS3
    obtain ⟨K3, a3, b3, c3, d3, e3', hQ, hB3, hG3⟩ := hS0
    refine j_aload_n (q := 43) C dX7_readNot_42 rfl rfl rfl ?_
    refine cg_token hQ (q' := 46) C dX7_readNot_43 rfl kw_248 ?_
    refine j_bipush (v := (-21)) (q := 48) C dX7_readNot_46 rfl (by decide) ?_
    refine j_icmp_eq (q := 51) (tgt := 60) C dX7_readNot_48 rfl (by decide) (fun c_48 => ?_) (fun c_48 => ?_)
    · have hq3 : q3.1 = false := bf (fun hq => by
        rw [(hB3 hq).1] at c_48
        exact absurd c_48 (by decide))
      obtain ⟨rfl, rfl, rfl, h33, rfl, hK3⟩ := hG3 hq3
      have htk : tk T n q3.2.1 = (3, 7) := cT_inj hT (by decide) (Eq.trans c_48 (by decide))
      obtain rfl := h33 (by rw [htk]; decide)
      have ho : oCmp (tk T n q3.2.1) = some 2000002 := by rw [htk]; rfl
      obtain ⟨a1, a2, a3, a4⟩ := pI_step (c := 2000002) (pSum_G (k := 1) hT (lvE_G hT 0).1 (by omega)) hq3 (by rw [htk]; decide) hI3
      have hl159 : (pSum T n (lvE T n 0).1 (pNx T n q3)).1 = false → (P ++ (pSum T n (lvE T n 0).1 (pNx T n q3)).2.2).length ≤ 159 := fun hf => by
        have h := a3.2 (by rw [pEm_f hf])
        have h9 := a3.1
        rw [pEm_f hf] at h h9
        have h8 : P.length + ((pSum T n (lvE T n 0).1 (pNx T n q3)).2.2 ++ [2000002]).length ≤ (pSum T n (lvE T n 0).1 (pNx T n q3)).2.1 := h
        have h7 : (pSum T n (lvE T n 0).1 (pNx T n q3)).2.1 ≤ n := h9
        simp only [List.length_append, List.length_cons, List.length_nil] at h8
        rw [List.length_append]; omega
      refine j_aload_n (q := 61) C dX7_readNot_60 rfl rfl rfl ?_
      refine cg_token hQ (q' := 64) C dX7_readNot_61 rfl kw_248 ?_
      refine j_istore_n (lv' := [(2, _), (0, _), (1, _)]) (q := 65) C dX7_readNot_64 rfl rfl (by decide) rfl ?_
      refine j_aload_n (q := 66) C dX7_readNot_65 rfl rfl rfl ?_
      refine jVT jc7 (q := 69) C dX7_readNot_66 rfl hs7 mX7_advance kw_471 kw_472 kw_3 (ctX7_advance hSo hQ (tt_n (T := T) hI3.1).1) rfl rfl (by decide) (Nat.le_of_ble_eq_true rfl) (by decide) (fun r_66 M_66 h_66 => ?_)
      obtain ⟨rfl, hN⟩ := h_66
      have hS4 := cSt_nx hq3 hN hK3
      refine j_aload_n (q := 70) C dX7_readNot_69 rfl rfl rfl ?_
      refine j_iload_n (q := 71) C dX7_readNot_70 rfl rfl rfl ?_
      refine jVT jc7 (q := 74) C dX7_readNot_71 rfl hs7 mX7_readSum kw_556 kw_557 kw_15 (ctX7_readSum_0 hSo hSc a1 hS4) rfl rfl (by decide) (Nat.le_of_ble_eq_true rfl) (by decide) (fun r_71 M_71 h_71 => ?_)
      obtain ⟨rfl, hS5⟩ := h_71
      refine j_aload_n (q := 75) C dX7_readNot_74 rfl rfl rfl ?_
      refine j_iload_n (q := 76) C dX7_readNot_75 rfl rfl rfl ?_
      refine jVT jc7 (q := 79) C dX7_readNot_76 rfl hs7 mX7_emit kw_553 kw_554 kw_14 (ctX7_emit hSo hSc a2 hS5 hl159 (k0 := 2000002) (by rw [htk]; decide)) rfl rfl (by decide) (Nat.le_of_ble_eq_true rfl) (by decide) (fun r_76 M_76 h_76 => ?_)
      obtain ⟨rfl, hS6⟩ := h_76
      exact j_vret C E dX7_readNot_79 rfl rfl (⟨rfl, rfl, rfl, by rw [eN]; unfold pCmp; rw [if_neg (by rw [hq3]; decide), ho]; exact hS6⟩)
    · refine j_aload_n (q := 52) C dX7_readNot_51 rfl rfl rfl ?_
      refine cg_token hQ (q' := 55) C dX7_readNot_52 rfl kw_248 ?_
      refine j_bipush (v := (-22)) (q := 57) C dX7_readNot_55 rfl (by decide) ?_
      refine j_icmp_ne (q := 60) (tgt := 79) C dX7_readNot_57 rfl (by decide) (fun c_57 => ?_) (fun c_57 => ?_)
      · exact j_vret C E dX7_readNot_79 rfl rfl (⟨rfl, rfl, rfl, by
            rw [eN]; unfold pCmp
            by_cases hb : q3.1 = true
            · rw [if_pos hb]; exact hS3
            · have h1 := (hG3 (bf hb)).1
              have ho : oCmp (tk T n q3.2.1) = none := by unfold oCmp; rw [if_neg (fun h => c_48 (by rw [h1, h]; decide)), if_neg (fun h => c_57 (by rw [h1, h]; decide))]
              rw [if_neg hb, ho]; exact hS3⟩)
      · have hq3 : q3.1 = false := bf (fun hq => by
          rw [(hB3 hq).1] at c_57
          exact absurd c_57 (by decide))
        obtain ⟨rfl, rfl, rfl, h33, rfl, hK3⟩ := hG3 hq3
        have htk : tk T n q3.2.1 = (3, 8) := cT_inj hT (by decide) (Eq.trans c_57 (by decide))
        obtain rfl := h33 (by rw [htk]; decide)
        have ho : oCmp (tk T n q3.2.1) = some 2000003 := by rw [htk]; rfl
        obtain ⟨a1, a2, a3, a4⟩ := pI_step (c := 2000003) (pSum_G (k := 1) hT (lvE_G hT 0).1 (by omega)) hq3 (by rw [htk]; decide) hI3
        have hl159 : (pSum T n (lvE T n 0).1 (pNx T n q3)).1 = false → (P ++ (pSum T n (lvE T n 0).1 (pNx T n q3)).2.2).length ≤ 159 := fun hf => by
          have h := a3.2 (by rw [pEm_f hf])
          have h9 := a3.1
          rw [pEm_f hf] at h h9
          have h8 : P.length + ((pSum T n (lvE T n 0).1 (pNx T n q3)).2.2 ++ [2000003]).length ≤ (pSum T n (lvE T n 0).1 (pNx T n q3)).2.1 := h
          have h7 : (pSum T n (lvE T n 0).1 (pNx T n q3)).2.1 ≤ n := h9
          simp only [List.length_append, List.length_cons, List.length_nil] at h8
          rw [List.length_append]; omega
        refine j_aload_n (q := 61) C dX7_readNot_60 rfl rfl rfl ?_
        refine cg_token hQ (q' := 64) C dX7_readNot_61 rfl kw_248 ?_
        refine j_istore_n (lv' := [(2, _), (0, _), (1, _)]) (q := 65) C dX7_readNot_64 rfl rfl (by decide) rfl ?_
        refine j_aload_n (q := 66) C dX7_readNot_65 rfl rfl rfl ?_
        refine jVT jc7 (q := 69) C dX7_readNot_66 rfl hs7 mX7_advance kw_471 kw_472 kw_3 (ctX7_advance hSo hQ (tt_n (T := T) hI3.1).1) rfl rfl (by decide) (Nat.le_of_ble_eq_true rfl) (by decide) (fun r_66 M_66 h_66 => ?_)
        obtain ⟨rfl, hN⟩ := h_66
        have hS4 := cSt_nx hq3 hN hK3
        refine j_aload_n (q := 70) C dX7_readNot_69 rfl rfl rfl ?_
        refine j_iload_n (q := 71) C dX7_readNot_70 rfl rfl rfl ?_
        refine jVT jc7 (q := 74) C dX7_readNot_71 rfl hs7 mX7_readSum kw_556 kw_557 kw_15 (ctX7_readSum_0 hSo hSc a1 hS4) rfl rfl (by decide) (Nat.le_of_ble_eq_true rfl) (by decide) (fun r_71 M_71 h_71 => ?_)
        obtain ⟨rfl, hS5⟩ := h_71
        refine j_aload_n (q := 75) C dX7_readNot_74 rfl rfl rfl ?_
        refine j_iload_n (q := 76) C dX7_readNot_75 rfl rfl rfl ?_
        refine jVT jc7 (q := 79) C dX7_readNot_76 rfl hs7 mX7_emit kw_553 kw_554 kw_14 (ctX7_emit hSo hSc a2 hS5 hl159 (k0 := 2000003) (by rw [htk]; decide)) rfl rfl (by decide) (Nat.le_of_ble_eq_true rfl) (by decide) (fun r_76 M_76 h_76 => ?_)
        obtain ⟨rfl, hS6⟩ := h_76
        exact j_vret C E dX7_readNot_79 rfl rfl (⟨rfl, rfl, rfl, by rw [eN]; unfold pCmp; rw [if_neg (by rw [hq3]; decide), ho]; exact hS6⟩)
  · have hq : q.1 = false := bf (fun hq => by
      rw [(hB hq).1] at c_6
      exact absurd c_6 (by decide))
    obtain ⟨rfl, rfl, rfl, h3, rfl, hK⟩ := hG hq
    have htk : tk T n q.2.1 = (1, 12) := cT_inj hT (by decide) (Eq.trans c_6 (by decide))
    obtain rfl := h3 (by rw [htk]; decide)
    refine j_iload_n (q := 10) C dX7_readNot_9 rfl rfl rfl ?_
    refine j_iconst (v := nI 4) (q := 11) C dX7_readNot_10 rfl (by decide) ?_
    refine j_icmp_lt (q := 14) (tgt := 19) C dX7_readNot_11 rfl (by decide) (fun c_11 => absurd c_11 (by decide)) (fun c_11 => ?_)
    refine j_aload_n (q := 15) C dX7_readNot_14 rfl rfl rfl ?_
    refine jVT jc7 (q := 18) C dX7_readNot_15 rfl hs7 mX7_refuse kw_541 kw_542 kw_10 (ctX7_refuse hSo hSc hI hS) rfl rfl (by decide) (Nat.le_of_ble_eq_true rfl) (by decide) (fun r_15 M_15 h_15 => ?_)
    obtain ⟨rfl, hS1⟩ := h_15
    exact j_vret C E dX7_readNot_18 rfl rfl (⟨rfl, rfl, rfl, by rw [show pNot T n (lvE T n 0).1 (lvE T n 0).2 q = pBad q by unfold pNot; rw [if_neg (by rw [hq]; decide), if_pos htk]; rfl]; exact hS1⟩)

set_option maxRecDepth 100000 in
set_option maxHeartbeats 4000000 in
theorem ctX7_readAnd_0 {G : jG} {sz : Nat} {Sh : jS} {M : jM} {rd : Nat} {S : Nat → Prop} {T : Nat → Nat} {n : Nat} {M0 : jM} {P : List Nat} {q : pS} (hSo : S rd) (hSc : S (rd + 2)) (hI : pI n P q) (hS : cSt S rd Sh T n M0 P M q) : jC G yX7_readAnd cX7_readAnd 3 (Option.none : Option FieldType) (jrm 16 0 0) sz Sh M [.ref rd, .int (nI 4)] (jT sz Sh (fun r M1 => r = none ∧ cSt S rd Sh T n M0 P M1 (pAnd T n (lvE T n 0).1 (lvE T n 0).2 q))) := by
  refine jC_start (by decide +kernel) (Nat.le_of_ble_eq_true rfl) (fun X C E hN0 => ?_)
  have hs7 := (cSt_lay hS).1.1
  have hn160 : n ≤ 160 := (cSt_lay hS).2.2.1
  have hT := (cSt_lay hS).2.2.2.1
  have hS0 := hS
  obtain ⟨K, a, b, c, d, e, hQ, hB, hG⟩ := hS0
  obtain ⟨Q, eQ⟩ : ∃ z, z = pAnd T n (lvE T n 0).1 (lvE T n 0).2 q := ⟨_, rfl⟩
  rw [← eQ] at E
  have loop7 : ∀ (f i : Nat) (q : pS) (M : jM), i + f = 160 → pI n P q → pLp T n oAnd (pNot T n (lvE T n 0).1 (lvE T n 0).2) f q = Q → cSt S rd Sh T n M0 P M q → jJ G X 0 0 sz Sh M 7 [(2, .int (nI i)), (1, .int (nI 4)), (0, .ref rd)] [] := by
    intro f
    induction f with
    | zero =>
      intro i q M hi hI hQe hS
      have hS0 := hS
      obtain ⟨K, a, b, c, d, e, hQ, hB, hG⟩ := hS0
      refine j_iload_n (q := 8) C dX7_readAnd_7 rfl rfl rfl ?_
      refine j_sipush (v := nI 160) (q := 11) C dX7_readAnd_8 rfl (by decide) ?_
      refine j_icmp_ge (q := 14) (tgt := 44) C dX7_readAnd_11 rfl (by decide) (fun c_11 => ?_) (fun c_11 => absurd (nI_le (by omega) (by omega)) c_11)
      exact j_vret C E dX7_readAnd_44 rfl rfl (⟨rfl, rfl, rfl, by rw [← hQe]; exact hS⟩)
    | succ f ih =>
      intro i q M hi hI hQe hS
      have hS0 := hS
      obtain ⟨K, a, b, c, d, e, hQ, hB, hG⟩ := hS0
      refine j_iload_n (q := 8) C dX7_readAnd_7 rfl rfl rfl ?_
      refine j_sipush (v := nI 160) (q := 11) C dX7_readAnd_8 rfl (by decide) ?_
      refine j_icmp_ge (q := 14) (tgt := 44) C dX7_readAnd_11 rfl (by decide) (fun c_11 => absurd c_11 (fun h => absurd ((nI_leI (by omega) (by omega)).mp h) (by omega))) (fun c_11 => ?_)
      refine j_aload_n (q := 15) C dX7_readAnd_14 rfl rfl rfl ?_
      refine cg_token hQ (q' := 18) C dX7_readAnd_15 rfl kw_248 ?_
      refine j_bipush (v := (-11)) (q := 20) C dX7_readAnd_18 rfl (by decide) ?_
      refine j_icmp_ne (q := 23) (tgt := 44) C dX7_readAnd_20 rfl (by decide) (fun c_20 => ?_) (fun c_20 => ?_)
      · exact j_vret C E dX7_readAnd_44 rfl rfl (⟨rfl, rfl, rfl, by
              have e0 : pLp T n oAnd (pNot T n (lvE T n 0).1 (lvE T n 0).2) (f + 1) q = q := by
                by_cases hb : q.1 = true
                · exact pLp_bad hb _
                · have h1 := (hG (bf hb)).1
                  have ho : oAnd (tk T n q.2.1) = none := by unfold oAnd; rw [if_neg (fun h => c_20 (by rw [h1, h]; decide))]
                  rw [pLp, if_neg hb, ho]
              rw [← hQe, e0]; exact hS⟩)
      · have hq : q.1 = false := bf (fun hq => by
          rw [(hB hq).1] at c_20
          exact absurd c_20 (by decide))
        obtain ⟨rfl, rfl, rfl, h3, rfl, hK⟩ := hG hq
        have htk : tk T n q.2.1 = (1, 10) := cT_inj hT (by decide) (Eq.trans c_20 (by decide))
        obtain rfl := h3 (by rw [htk]; decide)
        have ho : oAnd (tk T n q.2.1) = some 2000001 := by rw [htk]; rfl
        obtain ⟨a1, a2, a3, a4⟩ := pI_step (c := 2000001) (pNot_G (k := 1) hT (lvE_G hT 0).1 (lvE_G hT 0).2 (by omega)) hq (by rw [htk]; decide) hI
        have hl159 : ((pNot T n (lvE T n 0).1 (lvE T n 0).2) (pNx T n q)).1 = false → (P ++ ((pNot T n (lvE T n 0).1 (lvE T n 0).2) (pNx T n q)).2.2).length ≤ 159 := fun hf => by
          have h := a3.2 (by rw [pEm_f hf])
          have h9 := a3.1
          rw [pEm_f hf] at h h9
          have h8 : P.length + (((pNot T n (lvE T n 0).1 (lvE T n 0).2) (pNx T n q)).2.2 ++ [2000001]).length ≤ ((pNot T n (lvE T n 0).1 (lvE T n 0).2) (pNx T n q)).2.1 := h
          have h7 : ((pNot T n (lvE T n 0).1 (lvE T n 0).2) (pNx T n q)).2.1 ≤ n := h9
          simp only [List.length_append, List.length_cons, List.length_nil] at h8
          rw [List.length_append]; omega
        refine j_aload_n (q := 24) C dX7_readAnd_23 rfl rfl rfl ?_
        refine jVT jc7 (q := 27) C dX7_readAnd_24 rfl hs7 mX7_advance kw_471 kw_472 kw_3 (ctX7_advance hSo hQ (tt_n (T := T) hI.1).1) rfl rfl (by decide) (Nat.le_of_ble_eq_true rfl) (by decide) (fun r_24 M_24 h_24 => ?_)
        obtain ⟨rfl, hN⟩ := h_24
        have hS1 := cSt_nx hq hN hK
        refine j_aload_n (q := 28) C dX7_readAnd_27 rfl rfl rfl ?_
        refine j_iload_n (q := 29) C dX7_readAnd_28 rfl rfl rfl ?_
        refine jVT jc7 (q := 32) C dX7_readAnd_29 rfl hs7 mX7_readNot kw_550 kw_551 kw_13 (ctX7_readNot_0 hSo hSc a1 hS1) rfl rfl (by decide) (Nat.le_of_ble_eq_true rfl) (by decide) (fun r_29 M_29 h_29 => ?_)
        obtain ⟨rfl, hS2⟩ := h_29
        refine j_aload_n (q := 33) C dX7_readAnd_32 rfl rfl rfl ?_
        refine j_bipush (v := (-11)) (q := 35) C dX7_readAnd_33 rfl (by decide) ?_
        refine jVT jc7 (q := 38) C dX7_readAnd_35 rfl hs7 mX7_emit kw_553 kw_554 kw_14 (ctX7_emit hSo hSc a2 hS2 hl159 (k0 := 2000001) (by decide)) rfl rfl (by decide) (Nat.le_of_ble_eq_true rfl) (by decide) (fun r_35 M_35 h_35 => ?_)
        obtain ⟨rfl, hS3⟩ := h_35
        first | refine j_iincN (lv' := [(2, _), (1, _), (0, _)]) (q := 41) C dX7_readAnd_38 rfl rfl (by decide) rfl ?_ | refine j_iinc (lv' := [(2, _), (1, _), (0, _)]) (q := 41) C dX7_readAnd_38 rfl rfl rfl (by decide) rfl ?_
        refine j_goto (tgt := 7) C dX7_readAnd_41 (by decide) ?_
        exact j_fewer (lv' := [(2, .int (nI (i + 1))), (1, .int (nI 4)), (0, .ref rd)]) (by simp) (ih (i + 1) _ M_35 (by omega) a3 (by rw [← hQe, pLp, if_neg (by rw [hq]; decide), ho]) hS3)
  refine j_aload_n (q := 1) C dX7_readAnd_0 rfl rfl rfl ?_
  refine j_iload_n (q := 2) C dX7_readAnd_1 rfl rfl rfl ?_
  refine jVT jc7 (q := 5) C dX7_readAnd_2 rfl hs7 mX7_readNot kw_550 kw_551 kw_13 (ctX7_readNot_0 hSo hSc hI hS) rfl rfl (by decide) (Nat.le_of_ble_eq_true rfl) (by decide) (fun r_2 M_2 h_2 => ?_)
  obtain ⟨rfl, hS1⟩ := h_2
  refine j_iconst (v := nI 0) (q := 6) C dX7_readAnd_5 rfl (by decide) ?_
  refine j_istore_n (lv' := [(2, _), (0, _), (1, _)]) (q := 7) C dX7_readAnd_6 rfl rfl (by decide) rfl ?_
  exact j_fewer (lv' := [(2, .int (nI 0)), (1, .int (nI 4)), (0, .ref rd)]) (by simp) (loop7 160 0 _ M_2 rfl (pI_sub (pNot_G (k := 1) hT (lvE_G hT 0).1 (lvE_G hT 0).2 (by omega)) hI) (by rw [eQ]; unfold pAnd; rfl) hS1)

set_option maxRecDepth 100000 in
set_option maxHeartbeats 4000000 in
theorem ctX7_readOr_0 {G : jG} {sz : Nat} {Sh : jS} {M : jM} {rd : Nat} {S : Nat → Prop} {T : Nat → Nat} {n : Nat} {M0 : jM} {P : List Nat} {q : pS} (hSo : S rd) (hSc : S (rd + 2)) (hI : pI n P q) (hS : cSt S rd Sh T n M0 P M q) : jC G yX7_readOr cX7_readOr 3 (Option.none : Option FieldType) (jrm 17 0 0) sz Sh M [.ref rd, .int (nI 4)] (jT sz Sh (fun r M1 => r = none ∧ cSt S rd Sh T n M0 P M1 (pOr T n (lvE T n 0).1 (lvE T n 0).2 q))) := by
  refine jC_start (by decide +kernel) (Nat.le_of_ble_eq_true rfl) (fun X C E hN0 => ?_)
  have hs7 := (cSt_lay hS).1.1
  have hn160 : n ≤ 160 := (cSt_lay hS).2.2.1
  have hT := (cSt_lay hS).2.2.2.1
  have hS0 := hS
  obtain ⟨K, a, b, c, d, e, hQ, hB, hG⟩ := hS0
  obtain ⟨Q, eQ⟩ : ∃ z, z = pOr T n (lvE T n 0).1 (lvE T n 0).2 q := ⟨_, rfl⟩
  rw [← eQ] at E
  have loop7 : ∀ (f i : Nat) (q : pS) (M : jM), i + f = 160 → pI n P q → pLp T n oOr (pAnd T n (lvE T n 0).1 (lvE T n 0).2) f q = Q → cSt S rd Sh T n M0 P M q → jJ G X 0 0 sz Sh M 7 [(2, .int (nI i)), (1, .int (nI 4)), (0, .ref rd)] [] := by
    intro f
    induction f with
    | zero =>
      intro i q M hi hI hQe hS
      have hS0 := hS
      obtain ⟨K, a, b, c, d, e, hQ, hB, hG⟩ := hS0
      refine j_iload_n (q := 8) C dX7_readOr_7 rfl rfl rfl ?_
      refine j_sipush (v := nI 160) (q := 11) C dX7_readOr_8 rfl (by decide) ?_
      refine j_icmp_ge (q := 14) (tgt := 44) C dX7_readOr_11 rfl (by decide) (fun c_11 => ?_) (fun c_11 => absurd (nI_le (by omega) (by omega)) c_11)
      exact j_vret C E dX7_readOr_44 rfl rfl (⟨rfl, rfl, rfl, by rw [← hQe]; exact hS⟩)
    | succ f ih =>
      intro i q M hi hI hQe hS
      have hS0 := hS
      obtain ⟨K, a, b, c, d, e, hQ, hB, hG⟩ := hS0
      refine j_iload_n (q := 8) C dX7_readOr_7 rfl rfl rfl ?_
      refine j_sipush (v := nI 160) (q := 11) C dX7_readOr_8 rfl (by decide) ?_
      refine j_icmp_ge (q := 14) (tgt := 44) C dX7_readOr_11 rfl (by decide) (fun c_11 => absurd c_11 (fun h => absurd ((nI_leI (by omega) (by omega)).mp h) (by omega))) (fun c_11 => ?_)
      refine j_aload_n (q := 15) C dX7_readOr_14 rfl rfl rfl ?_
      refine cg_token hQ (q' := 18) C dX7_readOr_15 rfl kw_248 ?_
      refine j_bipush (v := (-12)) (q := 20) C dX7_readOr_18 rfl (by decide) ?_
      refine j_icmp_ne (q := 23) (tgt := 44) C dX7_readOr_20 rfl (by decide) (fun c_20 => ?_) (fun c_20 => ?_)
      · exact j_vret C E dX7_readOr_44 rfl rfl (⟨rfl, rfl, rfl, by
              have e0 : pLp T n oOr (pAnd T n (lvE T n 0).1 (lvE T n 0).2) (f + 1) q = q := by
                by_cases hb : q.1 = true
                · exact pLp_bad hb _
                · have h1 := (hG (bf hb)).1
                  have ho : oOr (tk T n q.2.1) = none := by unfold oOr; rw [if_neg (fun h => c_20 (by rw [h1, h]; decide))]
                  rw [pLp, if_neg hb, ho]
              rw [← hQe, e0]; exact hS⟩)
      · have hq : q.1 = false := bf (fun hq => by
          rw [(hB hq).1] at c_20
          exact absurd c_20 (by decide))
        obtain ⟨rfl, rfl, rfl, h3, rfl, hK⟩ := hG hq
        have htk : tk T n q.2.1 = (1, 11) := cT_inj hT (by decide) (Eq.trans c_20 (by decide))
        obtain rfl := h3 (by rw [htk]; decide)
        have ho : oOr (tk T n q.2.1) = some 2000000 := by rw [htk]; rfl
        obtain ⟨a1, a2, a3, a4⟩ := pI_step (c := 2000000) (pAnd_G (k := 1) hT (lvE_G hT 0).1 (lvE_G hT 0).2 (by omega)) hq (by rw [htk]; decide) hI
        have hl159 : ((pAnd T n (lvE T n 0).1 (lvE T n 0).2) (pNx T n q)).1 = false → (P ++ ((pAnd T n (lvE T n 0).1 (lvE T n 0).2) (pNx T n q)).2.2).length ≤ 159 := fun hf => by
          have h := a3.2 (by rw [pEm_f hf])
          have h9 := a3.1
          rw [pEm_f hf] at h h9
          have h8 : P.length + (((pAnd T n (lvE T n 0).1 (lvE T n 0).2) (pNx T n q)).2.2 ++ [2000000]).length ≤ ((pAnd T n (lvE T n 0).1 (lvE T n 0).2) (pNx T n q)).2.1 := h
          have h7 : ((pAnd T n (lvE T n 0).1 (lvE T n 0).2) (pNx T n q)).2.1 ≤ n := h9
          simp only [List.length_append, List.length_cons, List.length_nil] at h8
          rw [List.length_append]; omega
        refine j_aload_n (q := 24) C dX7_readOr_23 rfl rfl rfl ?_
        refine jVT jc7 (q := 27) C dX7_readOr_24 rfl hs7 mX7_advance kw_471 kw_472 kw_3 (ctX7_advance hSo hQ (tt_n (T := T) hI.1).1) rfl rfl (by decide) (Nat.le_of_ble_eq_true rfl) (by decide) (fun r_24 M_24 h_24 => ?_)
        obtain ⟨rfl, hN⟩ := h_24
        have hS1 := cSt_nx hq hN hK
        refine j_aload_n (q := 28) C dX7_readOr_27 rfl rfl rfl ?_
        refine j_iload_n (q := 29) C dX7_readOr_28 rfl rfl rfl ?_
        refine jVT jc7 (q := 32) C dX7_readOr_29 rfl hs7 mX7_readAnd kw_547 kw_548 kw_12 (ctX7_readAnd_0 hSo hSc a1 hS1) rfl rfl (by decide) (Nat.le_of_ble_eq_true rfl) (by decide) (fun r_29 M_29 h_29 => ?_)
        obtain ⟨rfl, hS2⟩ := h_29
        refine j_aload_n (q := 33) C dX7_readOr_32 rfl rfl rfl ?_
        refine j_bipush (v := (-12)) (q := 35) C dX7_readOr_33 rfl (by decide) ?_
        refine jVT jc7 (q := 38) C dX7_readOr_35 rfl hs7 mX7_emit kw_553 kw_554 kw_14 (ctX7_emit hSo hSc a2 hS2 hl159 (k0 := 2000000) (by decide)) rfl rfl (by decide) (Nat.le_of_ble_eq_true rfl) (by decide) (fun r_35 M_35 h_35 => ?_)
        obtain ⟨rfl, hS3⟩ := h_35
        first | refine j_iincN (lv' := [(2, _), (1, _), (0, _)]) (q := 41) C dX7_readOr_38 rfl rfl (by decide) rfl ?_ | refine j_iinc (lv' := [(2, _), (1, _), (0, _)]) (q := 41) C dX7_readOr_38 rfl rfl rfl (by decide) rfl ?_
        refine j_goto (tgt := 7) C dX7_readOr_41 (by decide) ?_
        exact j_fewer (lv' := [(2, .int (nI (i + 1))), (1, .int (nI 4)), (0, .ref rd)]) (by simp) (ih (i + 1) _ M_35 (by omega) a3 (by rw [← hQe, pLp, if_neg (by rw [hq]; decide), ho]) hS3)
  refine j_aload_n (q := 1) C dX7_readOr_0 rfl rfl rfl ?_
  refine j_iload_n (q := 2) C dX7_readOr_1 rfl rfl rfl ?_
  refine jVT jc7 (q := 5) C dX7_readOr_2 rfl hs7 mX7_readAnd kw_547 kw_548 kw_12 (ctX7_readAnd_0 hSo hSc hI hS) rfl rfl (by decide) (Nat.le_of_ble_eq_true rfl) (by decide) (fun r_2 M_2 h_2 => ?_)
  obtain ⟨rfl, hS1⟩ := h_2
  refine j_iconst (v := nI 0) (q := 6) C dX7_readOr_5 rfl (by decide) ?_
  refine j_istore_n (lv' := [(2, _), (0, _), (1, _)]) (q := 7) C dX7_readOr_6 rfl rfl (by decide) rfl ?_
  exact j_fewer (lv' := [(2, .int (nI 0)), (1, .int (nI 4)), (0, .ref rd)]) (by simp) (loop7 160 0 _ M_2 rfl (pI_sub (pAnd_G (k := 1) hT (lvE_G hT 0).1 (lvE_G hT 0).2 (by omega)) hI) (by rw [eQ]; unfold pOr; rfl) hS1)

set_option maxRecDepth 100000 in
set_option maxHeartbeats 4000000 in
theorem ctX7_readValue_1 {G : jG} {sz : Nat} {Sh : jS} {M : jM} {rd : Nat} {S : Nat → Prop} {T : Nat → Nat} {n : Nat} {M0 : jM} {P : List Nat} {q : pS} (hSo : S rd) (hSc : S (rd + 2)) (hI : pI n P q) (hS : cSt S rd Sh T n M0 P M q) : jC G yX7_readValue cX7_readValue 2 (Option.none : Option FieldType) (jrm 20 0 0) sz Sh M [.ref rd, .int (nI 3)] (jT sz Sh (fun r M1 => r = none ∧ cSt S rd Sh T n M0 P M1 (pVal T n (lvE T n 1).1 q))) := by
  refine jC_start (by decide +kernel) (Nat.le_of_ble_eq_true rfl) (fun X C E hN0 => ?_)
  have hs7 := (cSt_lay hS).1.1
  have hn160 : n ≤ 160 := (cSt_lay hS).2.2.1
  have hT := (cSt_lay hS).2.2.2.1
  have hS0 := hS
  obtain ⟨K, a, b, c, d, e, hQ, hB, hG⟩ := hS0
  refine j_aload_n (q := 1) C dX7_readValue_0 rfl rfl rfl ?_
  refine cg_token hQ (q' := 4) C dX7_readValue_1 rfl kw_248 ?_
  refine j_bipush (v := (-7)) (q := 6) C dX7_readValue_4 rfl (by decide) ?_
  refine j_icmp_lt (q := 9) (tgt := 24) C dX7_readValue_6 rfl (by decide) (fun c_6 => ?_) (fun c_6 => ?_)
  · refine j_aload_n (q := 25) C dX7_readValue_24 rfl rfl rfl ?_
    refine cg_token hQ (q' := 28) C dX7_readValue_25 rfl kw_248 ?_
    refine j_bipush (v := (-14)) (q := 30) C dX7_readValue_28 rfl (by decide) ?_
    refine j_icmp_ne (q := 33) (tgt := 58) C dX7_readValue_30 rfl (by decide) (fun c_30 => ?_) (fun c_30 => ?_)
    · refine j_aload_n (q := 59) C dX7_readValue_58 rfl rfl rfl ?_
      refine jVT jc7 (q := 62) C dX7_readValue_59 rfl hs7 mX7_refuse kw_541 kw_542 kw_10 (ctX7_refuse hSo hSc hI hS) rfl rfl (by decide) (Nat.le_of_ble_eq_true rfl) (by decide) (fun r_59 M_59 h_59 => ?_)
      obtain ⟨rfl, hS1⟩ := h_59
      exact j_vret C E dX7_readValue_62 rfl rfl (by
          refine ⟨rfl, rfl, rfl, ?_⟩
          by_cases hq : q.1 = true
          · rw [show pVal T n (lvE T n 1).1 q = pBad q by unfold pVal; rw [if_pos hq, pBad_i hq]]; exact hS1
          · have h1 := (hG (bf hq)).1
            rw [h1] at c_6 c_30
            rw [val_n hT (bf hq) c_6 (fun g => c_30 (by rw [g]; decide))]; exact hS1)
    · have hq : q.1 = false := bf (fun hq => by
        rw [(hB hq).1] at c_30
        exact absurd c_30 (by decide))
      obtain ⟨rfl, rfl, rfl, h3, rfl, hK⟩ := hG hq
      have htk : tk T n q.2.1 = (3, 0) := cT_inj hT (by decide) (Eq.trans c_30 (by decide))
      obtain rfl := h3 (by rw [htk]; decide)
      refine j_iload_n (q := 34) C dX7_readValue_33 rfl rfl rfl ?_
      refine j_iconst (v := nI 4) (q := 35) C dX7_readValue_34 rfl (by decide) ?_
      refine j_icmp_ge (q := 38) (tgt := 58) C dX7_readValue_35 rfl (by decide) (fun c_35 => absurd c_35 (by decide)) (fun c_35 => ?_)
      refine j_aload_n (q := 39) C dX7_readValue_38 rfl rfl rfl ?_
      refine jVT jc7 (q := 42) C dX7_readValue_39 rfl hs7 mX7_advance kw_471 kw_472 kw_3 (ctX7_advance hSo hQ (tt_n (T := T) hI.1).1) rfl rfl (by decide) (Nat.le_of_ble_eq_true rfl) (by decide) (fun r_39 M_39 h_39 => ?_)
      obtain ⟨rfl, hN⟩ := h_39
      have hS1 := cSt_nx hq hN hK
      have hI1 := (pI_nx (T := T) hq (by rw [htk]; decide) hI).1
      refine j_aload_n (q := 43) C dX7_readValue_42 rfl rfl rfl ?_
      refine j_iload_n (q := 44) C dX7_readValue_43 rfl rfl rfl ?_
      refine j_iconst (v := nI 1) (q := 45) C dX7_readValue_44 rfl (by decide) ?_
      first | refine j_iaddN (q := 46) C dX7_readValue_45 rfl ?_ | refine j_iadd (q := 46) C dX7_readValue_45 rfl ?_
      refine jVT jc7 (q := 49) C dX7_readValue_46 rfl hs7 mX7_readOr kw_544 kw_545 kw_11 (ctX7_readOr_0 hSo hSc hI1 hS1) rfl rfl (by decide) (Nat.le_of_ble_eq_true rfl) (by decide) (fun r_46 M_46 h_46 => ?_)
      obtain ⟨rfl, hS2⟩ := h_46
      have hI2 := pI_sub (pOr_G (k := 1) hT (lvE_G hT 0).1 (lvE_G hT 0).2 (by omega)) hI1
      refine j_aload_n (q := 50) C dX7_readValue_49 rfl rfl rfl ?_
      refine j_bipush (v := (-15)) (q := 52) C dX7_readValue_50 rfl (by decide) ?_
      refine jVT jc7 (q := 55) C dX7_readValue_52 rfl hs7 mX7_expect kw_538 kw_539 kw_9 (ctX7_expect hSo hSc hI2 hS2 (t := (3, 1)) (by decide) (by decide) (by decide)) rfl rfl (by decide) (Nat.le_of_ble_eq_true rfl) (by decide) (fun r_52 M_52 h_52 => ?_)
      obtain ⟨rfl, hS3⟩ := h_52
      refine j_goto (tgt := 62) C dX7_readValue_55 (by decide) ?_
      exact j_vret C E dX7_readValue_62 rfl rfl (⟨rfl, rfl, rfl, by rw [show pVal T n (lvE T n 1).1 q = pExp T n (3, 1) (pOr T n (lvE T n 0).1 (lvE T n 0).2 (pNx T n q)) by unfold pVal; rw [if_neg (by rw [hq]; decide), if_pos htk]; rfl]; exact hS3⟩)
  · have hq : q.1 = false := bf (fun hq => c_6 (by rw [(hB hq).1]; decide))
    obtain ⟨rfl, rfl, rfl, h3, rfl, hK⟩ := hG hq
    obtain ⟨k0, hk0, hpv, ht0⟩ := val_c hT hq c_6
    obtain rfl := h3 (by omega)
    have hxn := tk_in (T := T) (n := n) (x := q.2.1) (by omega) hI.1
    have hxt := tt_n (T := T) hI.1
    have hl159 : q.1 = false → (P ++ q.2.2).length ≤ 159 := fun hq => by
      have := hI.2 hq
      rw [List.length_append]; omega
    refine j_aload_n (q := 10) C dX7_readValue_9 rfl rfl rfl ?_
    refine j_aload_n (q := 11) C dX7_readValue_10 rfl rfl rfl ?_
    refine cg_token hQ (q' := 14) C dX7_readValue_11 rfl kw_248 ?_
    refine jVT jc7 (q := 17) C dX7_readValue_14 rfl hs7 mX7_emit kw_553 kw_554 kw_14 (ctX7_emit hSo hSc hI hS hl159 (k0 := k0) hk0) rfl rfl (by decide) (Nat.le_of_ble_eq_true rfl) (by decide) (fun r_14 M_14 h_14 => ?_)
    obtain ⟨rfl, hS1⟩ := h_14
    rw [pEm_f hq] at hS1
    obtain ⟨K1, a1, b1, c1, d1, e1, hQ, -, hG1⟩ := hS1
    obtain ⟨rfl, rfl, rfl, h31, rfl, hK1⟩ := hG1 rfl
    obtain rfl := h31 (show ¬ (tk T n q.2.1).1 = 4 by omega)
    refine j_aload_n (q := 18) C dX7_readValue_17 rfl rfl rfl ?_
    refine jVT jc7 (q := 21) C dX7_readValue_18 rfl hs7 mX7_advance kw_471 kw_472 kw_3 (ctX7_advance hSo hQ hxt.1) rfl rfl (by decide) (Nat.le_of_ble_eq_true rfl) (by decide) (fun r_18 M_18 h_18 => ?_)
    obtain ⟨rfl, hN⟩ := h_18
    have hS2 : cSt S rd Sh T n M0 P M_18 (pNx T n (pEm k0 q)) := by rw [pEm_f hq]; exact cSt_nx (q := (false, q.2.1, q.2.2 ++ [k0])) rfl hN hK1
    refine j_goto (tgt := 62) C dX7_readValue_21 (by decide) ?_
    exact j_vret C E dX7_readValue_62 rfl rfl (⟨rfl, rfl, rfl, by rw [hpv]; exact hS2⟩)

set_option maxRecDepth 100000 in
set_option maxHeartbeats 4000000 in
theorem ctX7_readOne_1 {G : jG} {sz : Nat} {Sh : jS} {M : jM} {rd : Nat} {S : Nat → Prop} {T : Nat → Nat} {n : Nat} {M0 : jM} {P : List Nat} {q : pS} (hSo : S rd) (hSc : S (rd + 2)) (hI : pI n P q) (hS : cSt S rd Sh T n M0 P M q) : jC G yX7_readOne cX7_readOne 4 (Option.none : Option FieldType) (jrm 21 0 0) sz Sh M [.ref rd, .int (nI 3)] (jT sz Sh (fun r M1 => r = none ∧ cSt S rd Sh T n M0 P M1 (pOne T n (lvE T n 1).1 q))) := by
  refine jC_start (by decide +kernel) (Nat.le_of_ble_eq_true rfl) (fun X C E hN0 => ?_)
  have hs7 := (cSt_lay hS).1.1
  have hn160 : n ≤ 160 := (cSt_lay hS).2.2.1
  have hT := (cSt_lay hS).2.2.2.1
  have hS0 := hS
  obtain ⟨K, a, b, c, d, e, hQ, hB, hG⟩ := hS0
  obtain ⟨Q, eQ⟩ : ∃ z, z = pOne T n (lvE T n 1).1 q := ⟨_, rfl⟩
  rw [← eQ] at E
  have loop7 : ∀ (f i : Nat) (q : pS) (M : jM), i + f = 160 → pI n P q → pLp T n oMul (pVal T n (lvE T n 1).1) f q = Q → cSt S rd Sh T n M0 P M q → jJ G X 0 0 sz Sh M 7 [(2, .int (nI i)), (1, .int (nI 3)), (0, .ref rd)] [] := by
    intro f
    induction f with
    | zero =>
      intro i q M hi hI hQe hS
      have hS0 := hS
      obtain ⟨K, a, b, c, d, e, hQ, hB, hG⟩ := hS0
      refine j_iload_n (q := 8) C dX7_readOne_7 rfl rfl rfl ?_
      refine j_sipush (v := nI 160) (q := 11) C dX7_readOne_8 rfl (by decide) ?_
      refine j_icmp_ge (q := 14) (tgt := 57) C dX7_readOne_11 rfl (by decide) (fun c_11 => ?_) (fun c_11 => absurd (nI_le (by omega) (by omega)) c_11)
      exact j_vret C E dX7_readOne_57 rfl rfl (⟨rfl, rfl, rfl, by rw [← hQe]; exact hS⟩)
    | succ f ih =>
      intro i q M hi hI hQe hS
      have hS0 := hS
      obtain ⟨K, a, b, c, d, e, hQ, hB, hG⟩ := hS0
      refine j_iload_n (q := 8) C dX7_readOne_7 rfl rfl rfl ?_
      refine j_sipush (v := nI 160) (q := 11) C dX7_readOne_8 rfl (by decide) ?_
      refine j_icmp_ge (q := 14) (tgt := 57) C dX7_readOne_11 rfl (by decide) (fun c_11 => absurd c_11 (fun h => absurd ((nI_leI (by omega) (by omega)).mp h) (by omega))) (fun c_11 => ?_)
      refine j_aload_n (q := 15) C dX7_readOne_14 rfl rfl rfl ?_
      refine cg_token hQ (q' := 18) C dX7_readOne_15 rfl kw_248 ?_
      refine j_bipush (v := (-19)) (q := 20) C dX7_readOne_18 rfl (by decide) ?_
      refine j_icmp_eq (q := 23) (tgt := 32) C dX7_readOne_20 rfl (by decide) (fun c_20 => ?_) (fun c_20 => ?_)
      · have hq : q.1 = false := bf (fun hq => by
          rw [(hB hq).1] at c_20
          exact absurd c_20 (by decide))
        obtain ⟨rfl, rfl, rfl, h3, rfl, hK⟩ := hG hq
        have htk : tk T n q.2.1 = (3, 5) := cT_inj hT (by decide) (Eq.trans c_20 (by decide))
        obtain rfl := h3 (by rw [htk]; decide)
        have ho : oMul (tk T n q.2.1) = some 2000006 := by rw [htk]; rfl
        obtain ⟨a1, a2, a3, a4⟩ := pI_step (c := 2000006) (pVal_G (k := 6) hT (lvE_G hT 1).1 (by omega)) hq (by rw [htk]; decide) hI
        have hl159 : ((pVal T n (lvE T n 1).1) (pNx T n q)).1 = false → (P ++ ((pVal T n (lvE T n 1).1) (pNx T n q)).2.2).length ≤ 159 := fun hf => by
          have h := a3.2 (by rw [pEm_f hf])
          have h9 := a3.1
          rw [pEm_f hf] at h h9
          have h8 : P.length + (((pVal T n (lvE T n 1).1) (pNx T n q)).2.2 ++ [2000006]).length ≤ ((pVal T n (lvE T n 1).1) (pNx T n q)).2.1 := h
          have h7 : ((pVal T n (lvE T n 1).1) (pNx T n q)).2.1 ≤ n := h9
          simp only [List.length_append, List.length_cons, List.length_nil] at h8
          rw [List.length_append]; omega
        refine j_aload_n (q := 33) C dX7_readOne_32 rfl rfl rfl ?_
        refine cg_token hQ (q' := 36) C dX7_readOne_33 rfl kw_248 ?_
        refine j_istore_n (lv' := [(3, _), (2, _), (1, _), (0, _)]) (q := 37) C dX7_readOne_36 rfl rfl (by decide) rfl ?_
        refine j_aload_n (q := 38) C dX7_readOne_37 rfl rfl rfl ?_
        refine jVT jc7 (q := 41) C dX7_readOne_38 rfl hs7 mX7_advance kw_471 kw_472 kw_3 (ctX7_advance hSo hQ (tt_n (T := T) hI.1).1) rfl rfl (by decide) (Nat.le_of_ble_eq_true rfl) (by decide) (fun r_38 M_38 h_38 => ?_)
        obtain ⟨rfl, hN⟩ := h_38
        have hS1 := cSt_nx hq hN hK
        refine j_aload_n (q := 42) C dX7_readOne_41 rfl rfl rfl ?_
        refine j_iload_n (q := 43) C dX7_readOne_42 rfl rfl rfl ?_
        refine jVT jc7 (q := 46) C dX7_readOne_43 rfl hs7 mX7_readValue kw_562 kw_563 kw_17 (ctX7_readValue_1 hSo hSc a1 hS1) rfl rfl (by decide) (Nat.le_of_ble_eq_true rfl) (by decide) (fun r_43 M_43 h_43 => ?_)
        obtain ⟨rfl, hS2⟩ := h_43
        refine j_aload_n (q := 47) C dX7_readOne_46 rfl rfl rfl ?_
        refine j_iload_n (q := 48) C dX7_readOne_47 rfl rfl rfl ?_
        refine jVT jc7 (q := 51) C dX7_readOne_48 rfl hs7 mX7_emit kw_553 kw_554 kw_14 (ctX7_emit hSo hSc a2 hS2 hl159 (k0 := 2000006) (by rw [htk]; decide)) rfl rfl (by decide) (Nat.le_of_ble_eq_true rfl) (by decide) (fun r_48 M_48 h_48 => ?_)
        obtain ⟨rfl, hS3⟩ := h_48
        first | refine j_iincN (lv' := [(2, _), (3, _), (1, _), (0, _)]) (q := 54) C dX7_readOne_51 rfl rfl (by decide) rfl ?_ | refine j_iinc (lv' := [(2, _), (3, _), (1, _), (0, _)]) (q := 54) C dX7_readOne_51 rfl rfl rfl (by decide) rfl ?_
        refine j_goto (tgt := 7) C dX7_readOne_54 (by decide) ?_
        exact j_fewer (lv' := [(2, .int (nI (i + 1))), (1, .int (nI 3)), (0, .ref rd)]) (by simp) (ih (i + 1) _ M_48 (by omega) a3 (by rw [← hQe, pLp, if_neg (by rw [hq]; decide), ho]) hS3)
      · refine j_aload_n (q := 24) C dX7_readOne_23 rfl rfl rfl ?_
        refine cg_token hQ (q' := 27) C dX7_readOne_24 rfl kw_248 ?_
        refine j_bipush (v := (-20)) (q := 29) C dX7_readOne_27 rfl (by decide) ?_
        refine j_icmp_ne (q := 32) (tgt := 57) C dX7_readOne_29 rfl (by decide) (fun c_29 => ?_) (fun c_29 => ?_)
        · exact j_vret C E dX7_readOne_57 rfl rfl (⟨rfl, rfl, rfl, by
                have e0 : pLp T n oMul (pVal T n (lvE T n 1).1) (f + 1) q = q := by
                  by_cases hb : q.1 = true
                  · exact pLp_bad hb _
                  · have h1 := (hG (bf hb)).1
                    have ho : oMul (tk T n q.2.1) = none := by unfold oMul; rw [if_neg (fun h => c_20 (by rw [h1, h]; decide)), if_neg (fun h => c_29 (by rw [h1, h]; decide))]
                    rw [pLp, if_neg hb, ho]
                rw [← hQe, e0]; exact hS⟩)
        · have hq : q.1 = false := bf (fun hq => by
            rw [(hB hq).1] at c_29
            exact absurd c_29 (by decide))
          obtain ⟨rfl, rfl, rfl, h3, rfl, hK⟩ := hG hq
          have htk : tk T n q.2.1 = (3, 6) := cT_inj hT (by decide) (Eq.trans c_29 (by decide))
          obtain rfl := h3 (by rw [htk]; decide)
          have ho : oMul (tk T n q.2.1) = some 2000007 := by rw [htk]; rfl
          obtain ⟨a1, a2, a3, a4⟩ := pI_step (c := 2000007) (pVal_G (k := 6) hT (lvE_G hT 1).1 (by omega)) hq (by rw [htk]; decide) hI
          have hl159 : ((pVal T n (lvE T n 1).1) (pNx T n q)).1 = false → (P ++ ((pVal T n (lvE T n 1).1) (pNx T n q)).2.2).length ≤ 159 := fun hf => by
            have h := a3.2 (by rw [pEm_f hf])
            have h9 := a3.1
            rw [pEm_f hf] at h h9
            have h8 : P.length + (((pVal T n (lvE T n 1).1) (pNx T n q)).2.2 ++ [2000007]).length ≤ ((pVal T n (lvE T n 1).1) (pNx T n q)).2.1 := h
            have h7 : ((pVal T n (lvE T n 1).1) (pNx T n q)).2.1 ≤ n := h9
            simp only [List.length_append, List.length_cons, List.length_nil] at h8
            rw [List.length_append]; omega
          refine j_aload_n (q := 33) C dX7_readOne_32 rfl rfl rfl ?_
          refine cg_token hQ (q' := 36) C dX7_readOne_33 rfl kw_248 ?_
          refine j_istore_n (lv' := [(3, _), (2, _), (1, _), (0, _)]) (q := 37) C dX7_readOne_36 rfl rfl (by decide) rfl ?_
          refine j_aload_n (q := 38) C dX7_readOne_37 rfl rfl rfl ?_
          refine jVT jc7 (q := 41) C dX7_readOne_38 rfl hs7 mX7_advance kw_471 kw_472 kw_3 (ctX7_advance hSo hQ (tt_n (T := T) hI.1).1) rfl rfl (by decide) (Nat.le_of_ble_eq_true rfl) (by decide) (fun r_38 M_38 h_38 => ?_)
          obtain ⟨rfl, hN⟩ := h_38
          have hS1 := cSt_nx hq hN hK
          refine j_aload_n (q := 42) C dX7_readOne_41 rfl rfl rfl ?_
          refine j_iload_n (q := 43) C dX7_readOne_42 rfl rfl rfl ?_
          refine jVT jc7 (q := 46) C dX7_readOne_43 rfl hs7 mX7_readValue kw_562 kw_563 kw_17 (ctX7_readValue_1 hSo hSc a1 hS1) rfl rfl (by decide) (Nat.le_of_ble_eq_true rfl) (by decide) (fun r_43 M_43 h_43 => ?_)
          obtain ⟨rfl, hS2⟩ := h_43
          refine j_aload_n (q := 47) C dX7_readOne_46 rfl rfl rfl ?_
          refine j_iload_n (q := 48) C dX7_readOne_47 rfl rfl rfl ?_
          refine jVT jc7 (q := 51) C dX7_readOne_48 rfl hs7 mX7_emit kw_553 kw_554 kw_14 (ctX7_emit hSo hSc a2 hS2 hl159 (k0 := 2000007) (by rw [htk]; decide)) rfl rfl (by decide) (Nat.le_of_ble_eq_true rfl) (by decide) (fun r_48 M_48 h_48 => ?_)
          obtain ⟨rfl, hS3⟩ := h_48
          first | refine j_iincN (lv' := [(2, _), (3, _), (1, _), (0, _)]) (q := 54) C dX7_readOne_51 rfl rfl (by decide) rfl ?_ | refine j_iinc (lv' := [(2, _), (3, _), (1, _), (0, _)]) (q := 54) C dX7_readOne_51 rfl rfl rfl (by decide) rfl ?_
          refine j_goto (tgt := 7) C dX7_readOne_54 (by decide) ?_
          exact j_fewer (lv' := [(2, .int (nI (i + 1))), (1, .int (nI 3)), (0, .ref rd)]) (by simp) (ih (i + 1) _ M_48 (by omega) a3 (by rw [← hQe, pLp, if_neg (by rw [hq]; decide), ho]) hS3)
  refine j_aload_n (q := 1) C dX7_readOne_0 rfl rfl rfl ?_
  refine j_iload_n (q := 2) C dX7_readOne_1 rfl rfl rfl ?_
  refine jVT jc7 (q := 5) C dX7_readOne_2 rfl hs7 mX7_readValue kw_562 kw_563 kw_17 (ctX7_readValue_1 hSo hSc hI hS) rfl rfl (by decide) (Nat.le_of_ble_eq_true rfl) (by decide) (fun r_2 M_2 h_2 => ?_)
  obtain ⟨rfl, hS1⟩ := h_2
  refine j_iconst (v := nI 0) (q := 6) C dX7_readOne_5 rfl (by decide) ?_
  refine j_istore_n (lv' := [(2, _), (0, _), (1, _)]) (q := 7) C dX7_readOne_6 rfl rfl (by decide) rfl ?_
  exact j_fewer (lv' := [(2, .int (nI 0)), (1, .int (nI 3)), (0, .ref rd)]) (by simp) (loop7 160 0 _ M_2 rfl (pI_sub (pVal_G (k := 6) hT (lvE_G hT 1).1 (by omega)) hI) (by rw [eQ]; unfold pOne; rfl) hS1)

set_option maxRecDepth 100000 in
set_option maxHeartbeats 4000000 in
theorem ctX7_readSum_1 {G : jG} {sz : Nat} {Sh : jS} {M : jM} {rd : Nat} {S : Nat → Prop} {T : Nat → Nat} {n : Nat} {M0 : jM} {P : List Nat} {q : pS} (hSo : S rd) (hSc : S (rd + 2)) (hI : pI n P q) (hS : cSt S rd Sh T n M0 P M q) : jC G yX7_readSum cX7_readSum 4 (Option.none : Option FieldType) (jrm 22 0 0) sz Sh M [.ref rd, .int (nI 3)] (jT sz Sh (fun r M1 => r = none ∧ cSt S rd Sh T n M0 P M1 (pSum T n (lvE T n 1).1 q))) := by
  refine jC_start (by decide +kernel) (Nat.le_of_ble_eq_true rfl) (fun X C E hN0 => ?_)
  have hs7 := (cSt_lay hS).1.1
  have hn160 : n ≤ 160 := (cSt_lay hS).2.2.1
  have hT := (cSt_lay hS).2.2.2.1
  have hS0 := hS
  obtain ⟨K, a, b, c, d, e, hQ, hB, hG⟩ := hS0
  obtain ⟨Q, eQ⟩ : ∃ z, z = pSum T n (lvE T n 1).1 q := ⟨_, rfl⟩
  rw [← eQ] at E
  have loop7 : ∀ (f i : Nat) (q : pS) (M : jM), i + f = 160 → pI n P q → pLp T n oAdd (pOne T n (lvE T n 1).1) f q = Q → cSt S rd Sh T n M0 P M q → jJ G X 0 0 sz Sh M 7 [(2, .int (nI i)), (1, .int (nI 3)), (0, .ref rd)] [] := by
    intro f
    induction f with
    | zero =>
      intro i q M hi hI hQe hS
      have hS0 := hS
      obtain ⟨K, a, b, c, d, e, hQ, hB, hG⟩ := hS0
      refine j_iload_n (q := 8) C dX7_readSum_7 rfl rfl rfl ?_
      refine j_sipush (v := nI 160) (q := 11) C dX7_readSum_8 rfl (by decide) ?_
      refine j_icmp_ge (q := 14) (tgt := 57) C dX7_readSum_11 rfl (by decide) (fun c_11 => ?_) (fun c_11 => absurd (nI_le (by omega) (by omega)) c_11)
      exact j_vret C E dX7_readSum_57 rfl rfl (⟨rfl, rfl, rfl, by rw [← hQe]; exact hS⟩)
    | succ f ih =>
      intro i q M hi hI hQe hS
      have hS0 := hS
      obtain ⟨K, a, b, c, d, e, hQ, hB, hG⟩ := hS0
      refine j_iload_n (q := 8) C dX7_readSum_7 rfl rfl rfl ?_
      refine j_sipush (v := nI 160) (q := 11) C dX7_readSum_8 rfl (by decide) ?_
      refine j_icmp_ge (q := 14) (tgt := 57) C dX7_readSum_11 rfl (by decide) (fun c_11 => absurd c_11 (fun h => absurd ((nI_leI (by omega) (by omega)).mp h) (by omega))) (fun c_11 => ?_)
      refine j_aload_n (q := 15) C dX7_readSum_14 rfl rfl rfl ?_
      refine cg_token hQ (q' := 18) C dX7_readSum_15 rfl kw_248 ?_
      refine j_bipush (v := (-17)) (q := 20) C dX7_readSum_18 rfl (by decide) ?_
      refine j_icmp_eq (q := 23) (tgt := 32) C dX7_readSum_20 rfl (by decide) (fun c_20 => ?_) (fun c_20 => ?_)
      · have hq : q.1 = false := bf (fun hq => by
          rw [(hB hq).1] at c_20
          exact absurd c_20 (by decide))
        obtain ⟨rfl, rfl, rfl, h3, rfl, hK⟩ := hG hq
        have htk : tk T n q.2.1 = (3, 3) := cT_inj hT (by decide) (Eq.trans c_20 (by decide))
        obtain rfl := h3 (by rw [htk]; decide)
        have ho : oAdd (tk T n q.2.1) = some 2000004 := by rw [htk]; rfl
        obtain ⟨a1, a2, a3, a4⟩ := pI_step (c := 2000004) (pOne_G (k := 6) hT (lvE_G hT 1).1 (by omega)) hq (by rw [htk]; decide) hI
        have hl159 : ((pOne T n (lvE T n 1).1) (pNx T n q)).1 = false → (P ++ ((pOne T n (lvE T n 1).1) (pNx T n q)).2.2).length ≤ 159 := fun hf => by
          have h := a3.2 (by rw [pEm_f hf])
          have h9 := a3.1
          rw [pEm_f hf] at h h9
          have h8 : P.length + (((pOne T n (lvE T n 1).1) (pNx T n q)).2.2 ++ [2000004]).length ≤ ((pOne T n (lvE T n 1).1) (pNx T n q)).2.1 := h
          have h7 : ((pOne T n (lvE T n 1).1) (pNx T n q)).2.1 ≤ n := h9
          simp only [List.length_append, List.length_cons, List.length_nil] at h8
          rw [List.length_append]; omega
        refine j_aload_n (q := 33) C dX7_readSum_32 rfl rfl rfl ?_
        refine cg_token hQ (q' := 36) C dX7_readSum_33 rfl kw_248 ?_
        refine j_istore_n (lv' := [(3, _), (2, _), (1, _), (0, _)]) (q := 37) C dX7_readSum_36 rfl rfl (by decide) rfl ?_
        refine j_aload_n (q := 38) C dX7_readSum_37 rfl rfl rfl ?_
        refine jVT jc7 (q := 41) C dX7_readSum_38 rfl hs7 mX7_advance kw_471 kw_472 kw_3 (ctX7_advance hSo hQ (tt_n (T := T) hI.1).1) rfl rfl (by decide) (Nat.le_of_ble_eq_true rfl) (by decide) (fun r_38 M_38 h_38 => ?_)
        obtain ⟨rfl, hN⟩ := h_38
        have hS1 := cSt_nx hq hN hK
        refine j_aload_n (q := 42) C dX7_readSum_41 rfl rfl rfl ?_
        refine j_iload_n (q := 43) C dX7_readSum_42 rfl rfl rfl ?_
        refine jVT jc7 (q := 46) C dX7_readSum_43 rfl hs7 mX7_readOne kw_559 kw_560 kw_16 (ctX7_readOne_1 hSo hSc a1 hS1) rfl rfl (by decide) (Nat.le_of_ble_eq_true rfl) (by decide) (fun r_43 M_43 h_43 => ?_)
        obtain ⟨rfl, hS2⟩ := h_43
        refine j_aload_n (q := 47) C dX7_readSum_46 rfl rfl rfl ?_
        refine j_iload_n (q := 48) C dX7_readSum_47 rfl rfl rfl ?_
        refine jVT jc7 (q := 51) C dX7_readSum_48 rfl hs7 mX7_emit kw_553 kw_554 kw_14 (ctX7_emit hSo hSc a2 hS2 hl159 (k0 := 2000004) (by rw [htk]; decide)) rfl rfl (by decide) (Nat.le_of_ble_eq_true rfl) (by decide) (fun r_48 M_48 h_48 => ?_)
        obtain ⟨rfl, hS3⟩ := h_48
        first | refine j_iincN (lv' := [(2, _), (3, _), (1, _), (0, _)]) (q := 54) C dX7_readSum_51 rfl rfl (by decide) rfl ?_ | refine j_iinc (lv' := [(2, _), (3, _), (1, _), (0, _)]) (q := 54) C dX7_readSum_51 rfl rfl rfl (by decide) rfl ?_
        refine j_goto (tgt := 7) C dX7_readSum_54 (by decide) ?_
        exact j_fewer (lv' := [(2, .int (nI (i + 1))), (1, .int (nI 3)), (0, .ref rd)]) (by simp) (ih (i + 1) _ M_48 (by omega) a3 (by rw [← hQe, pLp, if_neg (by rw [hq]; decide), ho]) hS3)
      · refine j_aload_n (q := 24) C dX7_readSum_23 rfl rfl rfl ?_
        refine cg_token hQ (q' := 27) C dX7_readSum_24 rfl kw_248 ?_
        refine j_bipush (v := (-18)) (q := 29) C dX7_readSum_27 rfl (by decide) ?_
        refine j_icmp_ne (q := 32) (tgt := 57) C dX7_readSum_29 rfl (by decide) (fun c_29 => ?_) (fun c_29 => ?_)
        · exact j_vret C E dX7_readSum_57 rfl rfl (⟨rfl, rfl, rfl, by
                have e0 : pLp T n oAdd (pOne T n (lvE T n 1).1) (f + 1) q = q := by
                  by_cases hb : q.1 = true
                  · exact pLp_bad hb _
                  · have h1 := (hG (bf hb)).1
                    have ho : oAdd (tk T n q.2.1) = none := by unfold oAdd; rw [if_neg (fun h => c_20 (by rw [h1, h]; decide)), if_neg (fun h => c_29 (by rw [h1, h]; decide))]
                    rw [pLp, if_neg hb, ho]
                rw [← hQe, e0]; exact hS⟩)
        · have hq : q.1 = false := bf (fun hq => by
            rw [(hB hq).1] at c_29
            exact absurd c_29 (by decide))
          obtain ⟨rfl, rfl, rfl, h3, rfl, hK⟩ := hG hq
          have htk : tk T n q.2.1 = (3, 4) := cT_inj hT (by decide) (Eq.trans c_29 (by decide))
          obtain rfl := h3 (by rw [htk]; decide)
          have ho : oAdd (tk T n q.2.1) = some 2000005 := by rw [htk]; rfl
          obtain ⟨a1, a2, a3, a4⟩ := pI_step (c := 2000005) (pOne_G (k := 6) hT (lvE_G hT 1).1 (by omega)) hq (by rw [htk]; decide) hI
          have hl159 : ((pOne T n (lvE T n 1).1) (pNx T n q)).1 = false → (P ++ ((pOne T n (lvE T n 1).1) (pNx T n q)).2.2).length ≤ 159 := fun hf => by
            have h := a3.2 (by rw [pEm_f hf])
            have h9 := a3.1
            rw [pEm_f hf] at h h9
            have h8 : P.length + (((pOne T n (lvE T n 1).1) (pNx T n q)).2.2 ++ [2000005]).length ≤ ((pOne T n (lvE T n 1).1) (pNx T n q)).2.1 := h
            have h7 : ((pOne T n (lvE T n 1).1) (pNx T n q)).2.1 ≤ n := h9
            simp only [List.length_append, List.length_cons, List.length_nil] at h8
            rw [List.length_append]; omega
          refine j_aload_n (q := 33) C dX7_readSum_32 rfl rfl rfl ?_
          refine cg_token hQ (q' := 36) C dX7_readSum_33 rfl kw_248 ?_
          refine j_istore_n (lv' := [(3, _), (2, _), (1, _), (0, _)]) (q := 37) C dX7_readSum_36 rfl rfl (by decide) rfl ?_
          refine j_aload_n (q := 38) C dX7_readSum_37 rfl rfl rfl ?_
          refine jVT jc7 (q := 41) C dX7_readSum_38 rfl hs7 mX7_advance kw_471 kw_472 kw_3 (ctX7_advance hSo hQ (tt_n (T := T) hI.1).1) rfl rfl (by decide) (Nat.le_of_ble_eq_true rfl) (by decide) (fun r_38 M_38 h_38 => ?_)
          obtain ⟨rfl, hN⟩ := h_38
          have hS1 := cSt_nx hq hN hK
          refine j_aload_n (q := 42) C dX7_readSum_41 rfl rfl rfl ?_
          refine j_iload_n (q := 43) C dX7_readSum_42 rfl rfl rfl ?_
          refine jVT jc7 (q := 46) C dX7_readSum_43 rfl hs7 mX7_readOne kw_559 kw_560 kw_16 (ctX7_readOne_1 hSo hSc a1 hS1) rfl rfl (by decide) (Nat.le_of_ble_eq_true rfl) (by decide) (fun r_43 M_43 h_43 => ?_)
          obtain ⟨rfl, hS2⟩ := h_43
          refine j_aload_n (q := 47) C dX7_readSum_46 rfl rfl rfl ?_
          refine j_iload_n (q := 48) C dX7_readSum_47 rfl rfl rfl ?_
          refine jVT jc7 (q := 51) C dX7_readSum_48 rfl hs7 mX7_emit kw_553 kw_554 kw_14 (ctX7_emit hSo hSc a2 hS2 hl159 (k0 := 2000005) (by rw [htk]; decide)) rfl rfl (by decide) (Nat.le_of_ble_eq_true rfl) (by decide) (fun r_48 M_48 h_48 => ?_)
          obtain ⟨rfl, hS3⟩ := h_48
          first | refine j_iincN (lv' := [(2, _), (3, _), (1, _), (0, _)]) (q := 54) C dX7_readSum_51 rfl rfl (by decide) rfl ?_ | refine j_iinc (lv' := [(2, _), (3, _), (1, _), (0, _)]) (q := 54) C dX7_readSum_51 rfl rfl rfl (by decide) rfl ?_
          refine j_goto (tgt := 7) C dX7_readSum_54 (by decide) ?_
          exact j_fewer (lv' := [(2, .int (nI (i + 1))), (1, .int (nI 3)), (0, .ref rd)]) (by simp) (ih (i + 1) _ M_48 (by omega) a3 (by rw [← hQe, pLp, if_neg (by rw [hq]; decide), ho]) hS3)
  refine j_aload_n (q := 1) C dX7_readSum_0 rfl rfl rfl ?_
  refine j_iload_n (q := 2) C dX7_readSum_1 rfl rfl rfl ?_
  refine jVT jc7 (q := 5) C dX7_readSum_2 rfl hs7 mX7_readOne kw_559 kw_560 kw_16 (ctX7_readOne_1 hSo hSc hI hS) rfl rfl (by decide) (Nat.le_of_ble_eq_true rfl) (by decide) (fun r_2 M_2 h_2 => ?_)
  obtain ⟨rfl, hS1⟩ := h_2
  refine j_iconst (v := nI 0) (q := 6) C dX7_readSum_5 rfl (by decide) ?_
  refine j_istore_n (lv' := [(2, _), (0, _), (1, _)]) (q := 7) C dX7_readSum_6 rfl rfl (by decide) rfl ?_
  exact j_fewer (lv' := [(2, .int (nI 0)), (1, .int (nI 3)), (0, .ref rd)]) (by simp) (loop7 160 0 _ M_2 rfl (pI_sub (pOne_G (k := 6) hT (lvE_G hT 1).1 (by omega)) hI) (by rw [eQ]; unfold pSum; rfl) hS1)

set_option maxRecDepth 100000 in
set_option maxHeartbeats 4000000 in
theorem ctX7_readNot_1 {G : jG} {sz : Nat} {Sh : jS} {M : jM} {rd : Nat} {S : Nat → Prop} {T : Nat → Nat} {n : Nat} {M0 : jM} {P : List Nat} {q : pS} (hSo : S rd) (hSc : S (rd + 2)) (hI : pI n P q) (hS : cSt S rd Sh T n M0 P M q) : jC G yX7_readNot cX7_readNot 3 (Option.none : Option FieldType) (jrm 23 0 0) sz Sh M [.ref rd, .int (nI 3)] (jT sz Sh (fun r M1 => r = none ∧ cSt S rd Sh T n M0 P M1 (pNot T n (lvE T n 1).1 (lvE T n 1).2 q))) := by
  refine jC_start (by decide +kernel) (Nat.le_of_ble_eq_true rfl) (fun X C E hN0 => ?_)
  have hs7 := (cSt_lay hS).1.1
  have hn160 : n ≤ 160 := (cSt_lay hS).2.2.1
  have hT := (cSt_lay hS).2.2.2.1
  have hS0 := hS
  obtain ⟨K, a, b, c, d, e, hQ, hB, hG⟩ := hS0
  refine j_aload_n (q := 1) C dX7_readNot_0 rfl rfl rfl ?_
  refine cg_token hQ (q' := 4) C dX7_readNot_1 rfl kw_248 ?_
  refine j_bipush (v := (-13)) (q := 6) C dX7_readNot_4 rfl (by decide) ?_
  refine j_icmp_ne (q := 9) (tgt := 37) C dX7_readNot_6 rfl (by decide) (fun c_6 => ?_) (fun c_6 => ?_)
  · refine j_aload_n (q := 38) C dX7_readNot_37 rfl rfl rfl ?_
    refine j_iload_n (q := 39) C dX7_readNot_38 rfl rfl rfl ?_
    refine jVT jc7 (q := 42) C dX7_readNot_39 rfl hs7 mX7_readSum kw_556 kw_557 kw_15 (ctX7_readSum_1 hSo hSc hI hS) rfl rfl (by decide) (Nat.le_of_ble_eq_true rfl) (by decide) (fun r_39 M_39 h_39 => ?_)
    obtain ⟨rfl, hS3⟩ := h_39
    have hI3 := pI_sub (pSum_G (k := 6) hT (lvE_G hT 1).1 (by omega)) hI
    have eN : pNot T n (lvE T n 1).1 (lvE T n 1).2 q = pCmp T n (lvE T n 1).1 (pSum T n (lvE T n 1).1 q) := by
      unfold pNot
      by_cases hb : q.1 = true
      · rw [if_pos hb, ((pSum_G (k := 6) hT (lvE_G hT 1).1 (by omega)) q hI.1).1 hb]; unfold pCmp; rw [if_pos hb]
      · have h1 := (hG (bf hb)).1
        rw [if_neg hb, if_neg (fun h => c_6 (by rw [h1, h]; decide))]
    obtain ⟨q3, e3⟩ : ∃ z, z = pSum T n (lvE T n 1).1 q := ⟨_, rfl⟩
    rw [← e3] at hS3 hI3 eN
    have hS0 := hS3
    obtain ⟨K3, a3, b3, c3, d3, e3', hQ, hB3, hG3⟩ := hS0
    refine j_aload_n (q := 43) C dX7_readNot_42 rfl rfl rfl ?_
    refine cg_token hQ (q' := 46) C dX7_readNot_43 rfl kw_248 ?_
    refine j_bipush (v := (-21)) (q := 48) C dX7_readNot_46 rfl (by decide) ?_
    refine j_icmp_eq (q := 51) (tgt := 60) C dX7_readNot_48 rfl (by decide) (fun c_48 => ?_) (fun c_48 => ?_)
    · have hq3 : q3.1 = false := bf (fun hq => by
        rw [(hB3 hq).1] at c_48
        exact absurd c_48 (by decide))
      obtain ⟨rfl, rfl, rfl, h33, rfl, hK3⟩ := hG3 hq3
      have htk : tk T n q3.2.1 = (3, 7) := cT_inj hT (by decide) (Eq.trans c_48 (by decide))
      obtain rfl := h33 (by rw [htk]; decide)
      have ho : oCmp (tk T n q3.2.1) = some 2000002 := by rw [htk]; rfl
      obtain ⟨a1, a2, a3, a4⟩ := pI_step (c := 2000002) (pSum_G (k := 6) hT (lvE_G hT 1).1 (by omega)) hq3 (by rw [htk]; decide) hI3
      have hl159 : (pSum T n (lvE T n 1).1 (pNx T n q3)).1 = false → (P ++ (pSum T n (lvE T n 1).1 (pNx T n q3)).2.2).length ≤ 159 := fun hf => by
        have h := a3.2 (by rw [pEm_f hf])
        have h9 := a3.1
        rw [pEm_f hf] at h h9
        have h8 : P.length + ((pSum T n (lvE T n 1).1 (pNx T n q3)).2.2 ++ [2000002]).length ≤ (pSum T n (lvE T n 1).1 (pNx T n q3)).2.1 := h
        have h7 : (pSum T n (lvE T n 1).1 (pNx T n q3)).2.1 ≤ n := h9
        simp only [List.length_append, List.length_cons, List.length_nil] at h8
        rw [List.length_append]; omega
      refine j_aload_n (q := 61) C dX7_readNot_60 rfl rfl rfl ?_
      refine cg_token hQ (q' := 64) C dX7_readNot_61 rfl kw_248 ?_
      refine j_istore_n (lv' := [(2, _), (0, _), (1, _)]) (q := 65) C dX7_readNot_64 rfl rfl (by decide) rfl ?_
      refine j_aload_n (q := 66) C dX7_readNot_65 rfl rfl rfl ?_
      refine jVT jc7 (q := 69) C dX7_readNot_66 rfl hs7 mX7_advance kw_471 kw_472 kw_3 (ctX7_advance hSo hQ (tt_n (T := T) hI3.1).1) rfl rfl (by decide) (Nat.le_of_ble_eq_true rfl) (by decide) (fun r_66 M_66 h_66 => ?_)
      obtain ⟨rfl, hN⟩ := h_66
      have hS4 := cSt_nx hq3 hN hK3
      refine j_aload_n (q := 70) C dX7_readNot_69 rfl rfl rfl ?_
      refine j_iload_n (q := 71) C dX7_readNot_70 rfl rfl rfl ?_
      refine jVT jc7 (q := 74) C dX7_readNot_71 rfl hs7 mX7_readSum kw_556 kw_557 kw_15 (ctX7_readSum_1 hSo hSc a1 hS4) rfl rfl (by decide) (Nat.le_of_ble_eq_true rfl) (by decide) (fun r_71 M_71 h_71 => ?_)
      obtain ⟨rfl, hS5⟩ := h_71
      refine j_aload_n (q := 75) C dX7_readNot_74 rfl rfl rfl ?_
      refine j_iload_n (q := 76) C dX7_readNot_75 rfl rfl rfl ?_
      refine jVT jc7 (q := 79) C dX7_readNot_76 rfl hs7 mX7_emit kw_553 kw_554 kw_14 (ctX7_emit hSo hSc a2 hS5 hl159 (k0 := 2000002) (by rw [htk]; decide)) rfl rfl (by decide) (Nat.le_of_ble_eq_true rfl) (by decide) (fun r_76 M_76 h_76 => ?_)
      obtain ⟨rfl, hS6⟩ := h_76
      exact j_vret C E dX7_readNot_79 rfl rfl (⟨rfl, rfl, rfl, by rw [eN]; unfold pCmp; rw [if_neg (by rw [hq3]; decide), ho]; exact hS6⟩)
    · refine j_aload_n (q := 52) C dX7_readNot_51 rfl rfl rfl ?_
      refine cg_token hQ (q' := 55) C dX7_readNot_52 rfl kw_248 ?_
      refine j_bipush (v := (-22)) (q := 57) C dX7_readNot_55 rfl (by decide) ?_
      refine j_icmp_ne (q := 60) (tgt := 79) C dX7_readNot_57 rfl (by decide) (fun c_57 => ?_) (fun c_57 => ?_)
      · exact j_vret C E dX7_readNot_79 rfl rfl (⟨rfl, rfl, rfl, by
            rw [eN]; unfold pCmp
            by_cases hb : q3.1 = true
            · rw [if_pos hb]; exact hS3
            · have h1 := (hG3 (bf hb)).1
              have ho : oCmp (tk T n q3.2.1) = none := by unfold oCmp; rw [if_neg (fun h => c_48 (by rw [h1, h]; decide)), if_neg (fun h => c_57 (by rw [h1, h]; decide))]
              rw [if_neg hb, ho]; exact hS3⟩)
      · have hq3 : q3.1 = false := bf (fun hq => by
          rw [(hB3 hq).1] at c_57
          exact absurd c_57 (by decide))
        obtain ⟨rfl, rfl, rfl, h33, rfl, hK3⟩ := hG3 hq3
        have htk : tk T n q3.2.1 = (3, 8) := cT_inj hT (by decide) (Eq.trans c_57 (by decide))
        obtain rfl := h33 (by rw [htk]; decide)
        have ho : oCmp (tk T n q3.2.1) = some 2000003 := by rw [htk]; rfl
        obtain ⟨a1, a2, a3, a4⟩ := pI_step (c := 2000003) (pSum_G (k := 6) hT (lvE_G hT 1).1 (by omega)) hq3 (by rw [htk]; decide) hI3
        have hl159 : (pSum T n (lvE T n 1).1 (pNx T n q3)).1 = false → (P ++ (pSum T n (lvE T n 1).1 (pNx T n q3)).2.2).length ≤ 159 := fun hf => by
          have h := a3.2 (by rw [pEm_f hf])
          have h9 := a3.1
          rw [pEm_f hf] at h h9
          have h8 : P.length + ((pSum T n (lvE T n 1).1 (pNx T n q3)).2.2 ++ [2000003]).length ≤ (pSum T n (lvE T n 1).1 (pNx T n q3)).2.1 := h
          have h7 : (pSum T n (lvE T n 1).1 (pNx T n q3)).2.1 ≤ n := h9
          simp only [List.length_append, List.length_cons, List.length_nil] at h8
          rw [List.length_append]; omega
        refine j_aload_n (q := 61) C dX7_readNot_60 rfl rfl rfl ?_
        refine cg_token hQ (q' := 64) C dX7_readNot_61 rfl kw_248 ?_
        refine j_istore_n (lv' := [(2, _), (0, _), (1, _)]) (q := 65) C dX7_readNot_64 rfl rfl (by decide) rfl ?_
        refine j_aload_n (q := 66) C dX7_readNot_65 rfl rfl rfl ?_
        refine jVT jc7 (q := 69) C dX7_readNot_66 rfl hs7 mX7_advance kw_471 kw_472 kw_3 (ctX7_advance hSo hQ (tt_n (T := T) hI3.1).1) rfl rfl (by decide) (Nat.le_of_ble_eq_true rfl) (by decide) (fun r_66 M_66 h_66 => ?_)
        obtain ⟨rfl, hN⟩ := h_66
        have hS4 := cSt_nx hq3 hN hK3
        refine j_aload_n (q := 70) C dX7_readNot_69 rfl rfl rfl ?_
        refine j_iload_n (q := 71) C dX7_readNot_70 rfl rfl rfl ?_
        refine jVT jc7 (q := 74) C dX7_readNot_71 rfl hs7 mX7_readSum kw_556 kw_557 kw_15 (ctX7_readSum_1 hSo hSc a1 hS4) rfl rfl (by decide) (Nat.le_of_ble_eq_true rfl) (by decide) (fun r_71 M_71 h_71 => ?_)
        obtain ⟨rfl, hS5⟩ := h_71
        refine j_aload_n (q := 75) C dX7_readNot_74 rfl rfl rfl ?_
        refine j_iload_n (q := 76) C dX7_readNot_75 rfl rfl rfl ?_
        refine jVT jc7 (q := 79) C dX7_readNot_76 rfl hs7 mX7_emit kw_553 kw_554 kw_14 (ctX7_emit hSo hSc a2 hS5 hl159 (k0 := 2000003) (by rw [htk]; decide)) rfl rfl (by decide) (Nat.le_of_ble_eq_true rfl) (by decide) (fun r_76 M_76 h_76 => ?_)
        obtain ⟨rfl, hS6⟩ := h_76
        exact j_vret C E dX7_readNot_79 rfl rfl (⟨rfl, rfl, rfl, by rw [eN]; unfold pCmp; rw [if_neg (by rw [hq3]; decide), ho]; exact hS6⟩)
  · have hq : q.1 = false := bf (fun hq => by
      rw [(hB hq).1] at c_6
      exact absurd c_6 (by decide))
    obtain ⟨rfl, rfl, rfl, h3, rfl, hK⟩ := hG hq
    have htk : tk T n q.2.1 = (1, 12) := cT_inj hT (by decide) (Eq.trans c_6 (by decide))
    obtain rfl := h3 (by rw [htk]; decide)
    refine j_iload_n (q := 10) C dX7_readNot_9 rfl rfl rfl ?_
    refine j_iconst (v := nI 4) (q := 11) C dX7_readNot_10 rfl (by decide) ?_
    refine j_icmp_lt (q := 14) (tgt := 19) C dX7_readNot_11 rfl (by decide) (fun c_11 => ?_) (fun c_11 => absurd (by decide) c_11)
    refine j_aload_n (q := 20) C dX7_readNot_19 rfl rfl rfl ?_
    refine jVT jc7 (q := 23) C dX7_readNot_20 rfl hs7 mX7_advance kw_471 kw_472 kw_3 (ctX7_advance hSo hQ (tt_n (T := T) hI.1).1) rfl rfl (by decide) (Nat.le_of_ble_eq_true rfl) (by decide) (fun r_20 M_20 h_20 => ?_)
    obtain ⟨rfl, hN⟩ := h_20
    have hS1 := cSt_nx hq hN hK
    obtain ⟨a1, a2, a3, a4⟩ := pI_step (c := 2000008) (pNot_G (k := 1) hT (lvE_G hT 0).1 (lvE_G hT 0).2 (by omega)) hq (by rw [htk]; decide) hI
    have hl159 : ((pNot T n (lvE T n 0).1 (lvE T n 0).2) (pNx T n q)).1 = false → (P ++ ((pNot T n (lvE T n 0).1 (lvE T n 0).2) (pNx T n q)).2.2).length ≤ 159 := fun hf => by
      have h := a3.2 (by rw [pEm_f hf])
      have h9 := a3.1
      rw [pEm_f hf] at h h9
      have h8 : P.length + (((pNot T n (lvE T n 0).1 (lvE T n 0).2) (pNx T n q)).2.2 ++ [2000008]).length ≤ ((pNot T n (lvE T n 0).1 (lvE T n 0).2) (pNx T n q)).2.1 := h
      have h7 : ((pNot T n (lvE T n 0).1 (lvE T n 0).2) (pNx T n q)).2.1 ≤ n := h9
      simp only [List.length_append, List.length_cons, List.length_nil] at h8
      rw [List.length_append]; omega
    refine j_aload_n (q := 24) C dX7_readNot_23 rfl rfl rfl ?_
    refine j_iload_n (q := 25) C dX7_readNot_24 rfl rfl rfl ?_
    refine j_iconst (v := nI 1) (q := 26) C dX7_readNot_25 rfl (by decide) ?_
    first | refine j_iaddN (q := 27) C dX7_readNot_26 rfl ?_ | refine j_iadd (q := 27) C dX7_readNot_26 rfl ?_
    refine jVT jc7 (q := 30) C dX7_readNot_27 rfl hs7 mX7_readNot kw_550 kw_551 kw_13 (ctX7_readNot_0 hSo hSc a1 hS1) rfl rfl (by decide) (Nat.le_of_ble_eq_true rfl) (by decide) (fun r_27 M_27 h_27 => ?_)
    obtain ⟨rfl, hS2⟩ := h_27
    refine j_aload_n (q := 31) C dX7_readNot_30 rfl rfl rfl ?_
    refine j_bipush (v := (-13)) (q := 33) C dX7_readNot_31 rfl (by decide) ?_
    refine jVT jc7 (q := 36) C dX7_readNot_33 rfl hs7 mX7_emit kw_553 kw_554 kw_14 (ctX7_emit hSo hSc a2 hS2 hl159 (k0 := 2000008) (by decide)) rfl rfl (by decide) (Nat.le_of_ble_eq_true rfl) (by decide) (fun r_33 M_33 h_33 => ?_)
    obtain ⟨rfl, hS3⟩ := h_33
    exact j_vret C E dX7_readNot_36 rfl rfl (⟨rfl, rfl, rfl, by rw [show pNot T n (lvE T n 1).1 (lvE T n 1).2 q = pEm 2000008 (pNot T n (lvE T n 0).1 (lvE T n 0).2 (pNx T n q)) by unfold pNot; rw [if_neg (by rw [hq]; decide), if_pos htk]; rfl]; exact hS3⟩)

set_option maxRecDepth 100000 in
set_option maxHeartbeats 4000000 in
theorem ctX7_readAnd_1 {G : jG} {sz : Nat} {Sh : jS} {M : jM} {rd : Nat} {S : Nat → Prop} {T : Nat → Nat} {n : Nat} {M0 : jM} {P : List Nat} {q : pS} (hSo : S rd) (hSc : S (rd + 2)) (hI : pI n P q) (hS : cSt S rd Sh T n M0 P M q) : jC G yX7_readAnd cX7_readAnd 3 (Option.none : Option FieldType) (jrm 24 0 0) sz Sh M [.ref rd, .int (nI 3)] (jT sz Sh (fun r M1 => r = none ∧ cSt S rd Sh T n M0 P M1 (pAnd T n (lvE T n 1).1 (lvE T n 1).2 q))) := by
  refine jC_start (by decide +kernel) (Nat.le_of_ble_eq_true rfl) (fun X C E hN0 => ?_)
  have hs7 := (cSt_lay hS).1.1
  have hn160 : n ≤ 160 := (cSt_lay hS).2.2.1
  have hT := (cSt_lay hS).2.2.2.1
  have hS0 := hS
  obtain ⟨K, a, b, c, d, e, hQ, hB, hG⟩ := hS0
  obtain ⟨Q, eQ⟩ : ∃ z, z = pAnd T n (lvE T n 1).1 (lvE T n 1).2 q := ⟨_, rfl⟩
  rw [← eQ] at E
  have loop7 : ∀ (f i : Nat) (q : pS) (M : jM), i + f = 160 → pI n P q → pLp T n oAnd (pNot T n (lvE T n 1).1 (lvE T n 1).2) f q = Q → cSt S rd Sh T n M0 P M q → jJ G X 0 0 sz Sh M 7 [(2, .int (nI i)), (1, .int (nI 3)), (0, .ref rd)] [] := by
    intro f
    induction f with
    | zero =>
      intro i q M hi hI hQe hS
      have hS0 := hS
      obtain ⟨K, a, b, c, d, e, hQ, hB, hG⟩ := hS0
      refine j_iload_n (q := 8) C dX7_readAnd_7 rfl rfl rfl ?_
      refine j_sipush (v := nI 160) (q := 11) C dX7_readAnd_8 rfl (by decide) ?_
      refine j_icmp_ge (q := 14) (tgt := 44) C dX7_readAnd_11 rfl (by decide) (fun c_11 => ?_) (fun c_11 => absurd (nI_le (by omega) (by omega)) c_11)
      exact j_vret C E dX7_readAnd_44 rfl rfl (⟨rfl, rfl, rfl, by rw [← hQe]; exact hS⟩)
    | succ f ih =>
      intro i q M hi hI hQe hS
      have hS0 := hS
      obtain ⟨K, a, b, c, d, e, hQ, hB, hG⟩ := hS0
      refine j_iload_n (q := 8) C dX7_readAnd_7 rfl rfl rfl ?_
      refine j_sipush (v := nI 160) (q := 11) C dX7_readAnd_8 rfl (by decide) ?_
      refine j_icmp_ge (q := 14) (tgt := 44) C dX7_readAnd_11 rfl (by decide) (fun c_11 => absurd c_11 (fun h => absurd ((nI_leI (by omega) (by omega)).mp h) (by omega))) (fun c_11 => ?_)
      refine j_aload_n (q := 15) C dX7_readAnd_14 rfl rfl rfl ?_
      refine cg_token hQ (q' := 18) C dX7_readAnd_15 rfl kw_248 ?_
      refine j_bipush (v := (-11)) (q := 20) C dX7_readAnd_18 rfl (by decide) ?_
      refine j_icmp_ne (q := 23) (tgt := 44) C dX7_readAnd_20 rfl (by decide) (fun c_20 => ?_) (fun c_20 => ?_)
      · exact j_vret C E dX7_readAnd_44 rfl rfl (⟨rfl, rfl, rfl, by
              have e0 : pLp T n oAnd (pNot T n (lvE T n 1).1 (lvE T n 1).2) (f + 1) q = q := by
                by_cases hb : q.1 = true
                · exact pLp_bad hb _
                · have h1 := (hG (bf hb)).1
                  have ho : oAnd (tk T n q.2.1) = none := by unfold oAnd; rw [if_neg (fun h => c_20 (by rw [h1, h]; decide))]
                  rw [pLp, if_neg hb, ho]
              rw [← hQe, e0]; exact hS⟩)
      · have hq : q.1 = false := bf (fun hq => by
          rw [(hB hq).1] at c_20
          exact absurd c_20 (by decide))
        obtain ⟨rfl, rfl, rfl, h3, rfl, hK⟩ := hG hq
        have htk : tk T n q.2.1 = (1, 10) := cT_inj hT (by decide) (Eq.trans c_20 (by decide))
        obtain rfl := h3 (by rw [htk]; decide)
        have ho : oAnd (tk T n q.2.1) = some 2000001 := by rw [htk]; rfl
        obtain ⟨a1, a2, a3, a4⟩ := pI_step (c := 2000001) (pNot_G (k := 6) hT (lvE_G hT 1).1 (lvE_G hT 1).2 (by omega)) hq (by rw [htk]; decide) hI
        have hl159 : ((pNot T n (lvE T n 1).1 (lvE T n 1).2) (pNx T n q)).1 = false → (P ++ ((pNot T n (lvE T n 1).1 (lvE T n 1).2) (pNx T n q)).2.2).length ≤ 159 := fun hf => by
          have h := a3.2 (by rw [pEm_f hf])
          have h9 := a3.1
          rw [pEm_f hf] at h h9
          have h8 : P.length + (((pNot T n (lvE T n 1).1 (lvE T n 1).2) (pNx T n q)).2.2 ++ [2000001]).length ≤ ((pNot T n (lvE T n 1).1 (lvE T n 1).2) (pNx T n q)).2.1 := h
          have h7 : ((pNot T n (lvE T n 1).1 (lvE T n 1).2) (pNx T n q)).2.1 ≤ n := h9
          simp only [List.length_append, List.length_cons, List.length_nil] at h8
          rw [List.length_append]; omega
        refine j_aload_n (q := 24) C dX7_readAnd_23 rfl rfl rfl ?_
        refine jVT jc7 (q := 27) C dX7_readAnd_24 rfl hs7 mX7_advance kw_471 kw_472 kw_3 (ctX7_advance hSo hQ (tt_n (T := T) hI.1).1) rfl rfl (by decide) (Nat.le_of_ble_eq_true rfl) (by decide) (fun r_24 M_24 h_24 => ?_)
        obtain ⟨rfl, hN⟩ := h_24
        have hS1 := cSt_nx hq hN hK
        refine j_aload_n (q := 28) C dX7_readAnd_27 rfl rfl rfl ?_
        refine j_iload_n (q := 29) C dX7_readAnd_28 rfl rfl rfl ?_
        refine jVT jc7 (q := 32) C dX7_readAnd_29 rfl hs7 mX7_readNot kw_550 kw_551 kw_13 (ctX7_readNot_1 hSo hSc a1 hS1) rfl rfl (by decide) (Nat.le_of_ble_eq_true rfl) (by decide) (fun r_29 M_29 h_29 => ?_)
        obtain ⟨rfl, hS2⟩ := h_29
        refine j_aload_n (q := 33) C dX7_readAnd_32 rfl rfl rfl ?_
        refine j_bipush (v := (-11)) (q := 35) C dX7_readAnd_33 rfl (by decide) ?_
        refine jVT jc7 (q := 38) C dX7_readAnd_35 rfl hs7 mX7_emit kw_553 kw_554 kw_14 (ctX7_emit hSo hSc a2 hS2 hl159 (k0 := 2000001) (by decide)) rfl rfl (by decide) (Nat.le_of_ble_eq_true rfl) (by decide) (fun r_35 M_35 h_35 => ?_)
        obtain ⟨rfl, hS3⟩ := h_35
        first | refine j_iincN (lv' := [(2, _), (1, _), (0, _)]) (q := 41) C dX7_readAnd_38 rfl rfl (by decide) rfl ?_ | refine j_iinc (lv' := [(2, _), (1, _), (0, _)]) (q := 41) C dX7_readAnd_38 rfl rfl rfl (by decide) rfl ?_
        refine j_goto (tgt := 7) C dX7_readAnd_41 (by decide) ?_
        exact j_fewer (lv' := [(2, .int (nI (i + 1))), (1, .int (nI 3)), (0, .ref rd)]) (by simp) (ih (i + 1) _ M_35 (by omega) a3 (by rw [← hQe, pLp, if_neg (by rw [hq]; decide), ho]) hS3)
  refine j_aload_n (q := 1) C dX7_readAnd_0 rfl rfl rfl ?_
  refine j_iload_n (q := 2) C dX7_readAnd_1 rfl rfl rfl ?_
  refine jVT jc7 (q := 5) C dX7_readAnd_2 rfl hs7 mX7_readNot kw_550 kw_551 kw_13 (ctX7_readNot_1 hSo hSc hI hS) rfl rfl (by decide) (Nat.le_of_ble_eq_true rfl) (by decide) (fun r_2 M_2 h_2 => ?_)
  obtain ⟨rfl, hS1⟩ := h_2
  refine j_iconst (v := nI 0) (q := 6) C dX7_readAnd_5 rfl (by decide) ?_
  refine j_istore_n (lv' := [(2, _), (0, _), (1, _)]) (q := 7) C dX7_readAnd_6 rfl rfl (by decide) rfl ?_
  exact j_fewer (lv' := [(2, .int (nI 0)), (1, .int (nI 3)), (0, .ref rd)]) (by simp) (loop7 160 0 _ M_2 rfl (pI_sub (pNot_G (k := 6) hT (lvE_G hT 1).1 (lvE_G hT 1).2 (by omega)) hI) (by rw [eQ]; unfold pAnd; rfl) hS1)

set_option maxRecDepth 100000 in
set_option maxHeartbeats 4000000 in
theorem ctX7_readOr_1 {G : jG} {sz : Nat} {Sh : jS} {M : jM} {rd : Nat} {S : Nat → Prop} {T : Nat → Nat} {n : Nat} {M0 : jM} {P : List Nat} {q : pS} (hSo : S rd) (hSc : S (rd + 2)) (hI : pI n P q) (hS : cSt S rd Sh T n M0 P M q) : jC G yX7_readOr cX7_readOr 3 (Option.none : Option FieldType) (jrm 25 0 0) sz Sh M [.ref rd, .int (nI 3)] (jT sz Sh (fun r M1 => r = none ∧ cSt S rd Sh T n M0 P M1 (pOr T n (lvE T n 1).1 (lvE T n 1).2 q))) := by
  refine jC_start (by decide +kernel) (Nat.le_of_ble_eq_true rfl) (fun X C E hN0 => ?_)
  have hs7 := (cSt_lay hS).1.1
  have hn160 : n ≤ 160 := (cSt_lay hS).2.2.1
  have hT := (cSt_lay hS).2.2.2.1
  have hS0 := hS
  obtain ⟨K, a, b, c, d, e, hQ, hB, hG⟩ := hS0
  obtain ⟨Q, eQ⟩ : ∃ z, z = pOr T n (lvE T n 1).1 (lvE T n 1).2 q := ⟨_, rfl⟩
  rw [← eQ] at E
  have loop7 : ∀ (f i : Nat) (q : pS) (M : jM), i + f = 160 → pI n P q → pLp T n oOr (pAnd T n (lvE T n 1).1 (lvE T n 1).2) f q = Q → cSt S rd Sh T n M0 P M q → jJ G X 0 0 sz Sh M 7 [(2, .int (nI i)), (1, .int (nI 3)), (0, .ref rd)] [] := by
    intro f
    induction f with
    | zero =>
      intro i q M hi hI hQe hS
      have hS0 := hS
      obtain ⟨K, a, b, c, d, e, hQ, hB, hG⟩ := hS0
      refine j_iload_n (q := 8) C dX7_readOr_7 rfl rfl rfl ?_
      refine j_sipush (v := nI 160) (q := 11) C dX7_readOr_8 rfl (by decide) ?_
      refine j_icmp_ge (q := 14) (tgt := 44) C dX7_readOr_11 rfl (by decide) (fun c_11 => ?_) (fun c_11 => absurd (nI_le (by omega) (by omega)) c_11)
      exact j_vret C E dX7_readOr_44 rfl rfl (⟨rfl, rfl, rfl, by rw [← hQe]; exact hS⟩)
    | succ f ih =>
      intro i q M hi hI hQe hS
      have hS0 := hS
      obtain ⟨K, a, b, c, d, e, hQ, hB, hG⟩ := hS0
      refine j_iload_n (q := 8) C dX7_readOr_7 rfl rfl rfl ?_
      refine j_sipush (v := nI 160) (q := 11) C dX7_readOr_8 rfl (by decide) ?_
      refine j_icmp_ge (q := 14) (tgt := 44) C dX7_readOr_11 rfl (by decide) (fun c_11 => absurd c_11 (fun h => absurd ((nI_leI (by omega) (by omega)).mp h) (by omega))) (fun c_11 => ?_)
      refine j_aload_n (q := 15) C dX7_readOr_14 rfl rfl rfl ?_
      refine cg_token hQ (q' := 18) C dX7_readOr_15 rfl kw_248 ?_
      refine j_bipush (v := (-12)) (q := 20) C dX7_readOr_18 rfl (by decide) ?_
      refine j_icmp_ne (q := 23) (tgt := 44) C dX7_readOr_20 rfl (by decide) (fun c_20 => ?_) (fun c_20 => ?_)
      · exact j_vret C E dX7_readOr_44 rfl rfl (⟨rfl, rfl, rfl, by
              have e0 : pLp T n oOr (pAnd T n (lvE T n 1).1 (lvE T n 1).2) (f + 1) q = q := by
                by_cases hb : q.1 = true
                · exact pLp_bad hb _
                · have h1 := (hG (bf hb)).1
                  have ho : oOr (tk T n q.2.1) = none := by unfold oOr; rw [if_neg (fun h => c_20 (by rw [h1, h]; decide))]
                  rw [pLp, if_neg hb, ho]
              rw [← hQe, e0]; exact hS⟩)
      · have hq : q.1 = false := bf (fun hq => by
          rw [(hB hq).1] at c_20
          exact absurd c_20 (by decide))
        obtain ⟨rfl, rfl, rfl, h3, rfl, hK⟩ := hG hq
        have htk : tk T n q.2.1 = (1, 11) := cT_inj hT (by decide) (Eq.trans c_20 (by decide))
        obtain rfl := h3 (by rw [htk]; decide)
        have ho : oOr (tk T n q.2.1) = some 2000000 := by rw [htk]; rfl
        obtain ⟨a1, a2, a3, a4⟩ := pI_step (c := 2000000) (pAnd_G (k := 6) hT (lvE_G hT 1).1 (lvE_G hT 1).2 (by omega)) hq (by rw [htk]; decide) hI
        have hl159 : ((pAnd T n (lvE T n 1).1 (lvE T n 1).2) (pNx T n q)).1 = false → (P ++ ((pAnd T n (lvE T n 1).1 (lvE T n 1).2) (pNx T n q)).2.2).length ≤ 159 := fun hf => by
          have h := a3.2 (by rw [pEm_f hf])
          have h9 := a3.1
          rw [pEm_f hf] at h h9
          have h8 : P.length + (((pAnd T n (lvE T n 1).1 (lvE T n 1).2) (pNx T n q)).2.2 ++ [2000000]).length ≤ ((pAnd T n (lvE T n 1).1 (lvE T n 1).2) (pNx T n q)).2.1 := h
          have h7 : ((pAnd T n (lvE T n 1).1 (lvE T n 1).2) (pNx T n q)).2.1 ≤ n := h9
          simp only [List.length_append, List.length_cons, List.length_nil] at h8
          rw [List.length_append]; omega
        refine j_aload_n (q := 24) C dX7_readOr_23 rfl rfl rfl ?_
        refine jVT jc7 (q := 27) C dX7_readOr_24 rfl hs7 mX7_advance kw_471 kw_472 kw_3 (ctX7_advance hSo hQ (tt_n (T := T) hI.1).1) rfl rfl (by decide) (Nat.le_of_ble_eq_true rfl) (by decide) (fun r_24 M_24 h_24 => ?_)
        obtain ⟨rfl, hN⟩ := h_24
        have hS1 := cSt_nx hq hN hK
        refine j_aload_n (q := 28) C dX7_readOr_27 rfl rfl rfl ?_
        refine j_iload_n (q := 29) C dX7_readOr_28 rfl rfl rfl ?_
        refine jVT jc7 (q := 32) C dX7_readOr_29 rfl hs7 mX7_readAnd kw_547 kw_548 kw_12 (ctX7_readAnd_1 hSo hSc a1 hS1) rfl rfl (by decide) (Nat.le_of_ble_eq_true rfl) (by decide) (fun r_29 M_29 h_29 => ?_)
        obtain ⟨rfl, hS2⟩ := h_29
        refine j_aload_n (q := 33) C dX7_readOr_32 rfl rfl rfl ?_
        refine j_bipush (v := (-12)) (q := 35) C dX7_readOr_33 rfl (by decide) ?_
        refine jVT jc7 (q := 38) C dX7_readOr_35 rfl hs7 mX7_emit kw_553 kw_554 kw_14 (ctX7_emit hSo hSc a2 hS2 hl159 (k0 := 2000000) (by decide)) rfl rfl (by decide) (Nat.le_of_ble_eq_true rfl) (by decide) (fun r_35 M_35 h_35 => ?_)
        obtain ⟨rfl, hS3⟩ := h_35
        first | refine j_iincN (lv' := [(2, _), (1, _), (0, _)]) (q := 41) C dX7_readOr_38 rfl rfl (by decide) rfl ?_ | refine j_iinc (lv' := [(2, _), (1, _), (0, _)]) (q := 41) C dX7_readOr_38 rfl rfl rfl (by decide) rfl ?_
        refine j_goto (tgt := 7) C dX7_readOr_41 (by decide) ?_
        exact j_fewer (lv' := [(2, .int (nI (i + 1))), (1, .int (nI 3)), (0, .ref rd)]) (by simp) (ih (i + 1) _ M_35 (by omega) a3 (by rw [← hQe, pLp, if_neg (by rw [hq]; decide), ho]) hS3)
  refine j_aload_n (q := 1) C dX7_readOr_0 rfl rfl rfl ?_
  refine j_iload_n (q := 2) C dX7_readOr_1 rfl rfl rfl ?_
  refine jVT jc7 (q := 5) C dX7_readOr_2 rfl hs7 mX7_readAnd kw_547 kw_548 kw_12 (ctX7_readAnd_1 hSo hSc hI hS) rfl rfl (by decide) (Nat.le_of_ble_eq_true rfl) (by decide) (fun r_2 M_2 h_2 => ?_)
  obtain ⟨rfl, hS1⟩ := h_2
  refine j_iconst (v := nI 0) (q := 6) C dX7_readOr_5 rfl (by decide) ?_
  refine j_istore_n (lv' := [(2, _), (0, _), (1, _)]) (q := 7) C dX7_readOr_6 rfl rfl (by decide) rfl ?_
  exact j_fewer (lv' := [(2, .int (nI 0)), (1, .int (nI 3)), (0, .ref rd)]) (by simp) (loop7 160 0 _ M_2 rfl (pI_sub (pAnd_G (k := 6) hT (lvE_G hT 1).1 (lvE_G hT 1).2 (by omega)) hI) (by rw [eQ]; unfold pOr; rfl) hS1)

set_option maxRecDepth 100000 in
set_option maxHeartbeats 4000000 in
theorem ctX7_readValue_2 {G : jG} {sz : Nat} {Sh : jS} {M : jM} {rd : Nat} {S : Nat → Prop} {T : Nat → Nat} {n : Nat} {M0 : jM} {P : List Nat} {q : pS} (hSo : S rd) (hSc : S (rd + 2)) (hI : pI n P q) (hS : cSt S rd Sh T n M0 P M q) : jC G yX7_readValue cX7_readValue 2 (Option.none : Option FieldType) (jrm 28 0 0) sz Sh M [.ref rd, .int (nI 2)] (jT sz Sh (fun r M1 => r = none ∧ cSt S rd Sh T n M0 P M1 (pVal T n (lvE T n 2).1 q))) := by
  refine jC_start (by decide +kernel) (Nat.le_of_ble_eq_true rfl) (fun X C E hN0 => ?_)
  have hs7 := (cSt_lay hS).1.1
  have hn160 : n ≤ 160 := (cSt_lay hS).2.2.1
  have hT := (cSt_lay hS).2.2.2.1
  have hS0 := hS
  obtain ⟨K, a, b, c, d, e, hQ, hB, hG⟩ := hS0
  refine j_aload_n (q := 1) C dX7_readValue_0 rfl rfl rfl ?_
  refine cg_token hQ (q' := 4) C dX7_readValue_1 rfl kw_248 ?_
  refine j_bipush (v := (-7)) (q := 6) C dX7_readValue_4 rfl (by decide) ?_
  refine j_icmp_lt (q := 9) (tgt := 24) C dX7_readValue_6 rfl (by decide) (fun c_6 => ?_) (fun c_6 => ?_)
  · refine j_aload_n (q := 25) C dX7_readValue_24 rfl rfl rfl ?_
    refine cg_token hQ (q' := 28) C dX7_readValue_25 rfl kw_248 ?_
    refine j_bipush (v := (-14)) (q := 30) C dX7_readValue_28 rfl (by decide) ?_
    refine j_icmp_ne (q := 33) (tgt := 58) C dX7_readValue_30 rfl (by decide) (fun c_30 => ?_) (fun c_30 => ?_)
    · refine j_aload_n (q := 59) C dX7_readValue_58 rfl rfl rfl ?_
      refine jVT jc7 (q := 62) C dX7_readValue_59 rfl hs7 mX7_refuse kw_541 kw_542 kw_10 (ctX7_refuse hSo hSc hI hS) rfl rfl (by decide) (Nat.le_of_ble_eq_true rfl) (by decide) (fun r_59 M_59 h_59 => ?_)
      obtain ⟨rfl, hS1⟩ := h_59
      exact j_vret C E dX7_readValue_62 rfl rfl (by
          refine ⟨rfl, rfl, rfl, ?_⟩
          by_cases hq : q.1 = true
          · rw [show pVal T n (lvE T n 2).1 q = pBad q by unfold pVal; rw [if_pos hq, pBad_i hq]]; exact hS1
          · have h1 := (hG (bf hq)).1
            rw [h1] at c_6 c_30
            rw [val_n hT (bf hq) c_6 (fun g => c_30 (by rw [g]; decide))]; exact hS1)
    · have hq : q.1 = false := bf (fun hq => by
        rw [(hB hq).1] at c_30
        exact absurd c_30 (by decide))
      obtain ⟨rfl, rfl, rfl, h3, rfl, hK⟩ := hG hq
      have htk : tk T n q.2.1 = (3, 0) := cT_inj hT (by decide) (Eq.trans c_30 (by decide))
      obtain rfl := h3 (by rw [htk]; decide)
      refine j_iload_n (q := 34) C dX7_readValue_33 rfl rfl rfl ?_
      refine j_iconst (v := nI 4) (q := 35) C dX7_readValue_34 rfl (by decide) ?_
      refine j_icmp_ge (q := 38) (tgt := 58) C dX7_readValue_35 rfl (by decide) (fun c_35 => absurd c_35 (by decide)) (fun c_35 => ?_)
      refine j_aload_n (q := 39) C dX7_readValue_38 rfl rfl rfl ?_
      refine jVT jc7 (q := 42) C dX7_readValue_39 rfl hs7 mX7_advance kw_471 kw_472 kw_3 (ctX7_advance hSo hQ (tt_n (T := T) hI.1).1) rfl rfl (by decide) (Nat.le_of_ble_eq_true rfl) (by decide) (fun r_39 M_39 h_39 => ?_)
      obtain ⟨rfl, hN⟩ := h_39
      have hS1 := cSt_nx hq hN hK
      have hI1 := (pI_nx (T := T) hq (by rw [htk]; decide) hI).1
      refine j_aload_n (q := 43) C dX7_readValue_42 rfl rfl rfl ?_
      refine j_iload_n (q := 44) C dX7_readValue_43 rfl rfl rfl ?_
      refine j_iconst (v := nI 1) (q := 45) C dX7_readValue_44 rfl (by decide) ?_
      first | refine j_iaddN (q := 46) C dX7_readValue_45 rfl ?_ | refine j_iadd (q := 46) C dX7_readValue_45 rfl ?_
      refine jVT jc7 (q := 49) C dX7_readValue_46 rfl hs7 mX7_readOr kw_544 kw_545 kw_11 (ctX7_readOr_1 hSo hSc hI1 hS1) rfl rfl (by decide) (Nat.le_of_ble_eq_true rfl) (by decide) (fun r_46 M_46 h_46 => ?_)
      obtain ⟨rfl, hS2⟩ := h_46
      have hI2 := pI_sub (pOr_G (k := 6) hT (lvE_G hT 1).1 (lvE_G hT 1).2 (by omega)) hI1
      refine j_aload_n (q := 50) C dX7_readValue_49 rfl rfl rfl ?_
      refine j_bipush (v := (-15)) (q := 52) C dX7_readValue_50 rfl (by decide) ?_
      refine jVT jc7 (q := 55) C dX7_readValue_52 rfl hs7 mX7_expect kw_538 kw_539 kw_9 (ctX7_expect hSo hSc hI2 hS2 (t := (3, 1)) (by decide) (by decide) (by decide)) rfl rfl (by decide) (Nat.le_of_ble_eq_true rfl) (by decide) (fun r_52 M_52 h_52 => ?_)
      obtain ⟨rfl, hS3⟩ := h_52
      refine j_goto (tgt := 62) C dX7_readValue_55 (by decide) ?_
      exact j_vret C E dX7_readValue_62 rfl rfl (⟨rfl, rfl, rfl, by rw [show pVal T n (lvE T n 2).1 q = pExp T n (3, 1) (pOr T n (lvE T n 1).1 (lvE T n 1).2 (pNx T n q)) by unfold pVal; rw [if_neg (by rw [hq]; decide), if_pos htk]; rfl]; exact hS3⟩)
  · have hq : q.1 = false := bf (fun hq => c_6 (by rw [(hB hq).1]; decide))
    obtain ⟨rfl, rfl, rfl, h3, rfl, hK⟩ := hG hq
    obtain ⟨k0, hk0, hpv, ht0⟩ := val_c hT hq c_6
    obtain rfl := h3 (by omega)
    have hxn := tk_in (T := T) (n := n) (x := q.2.1) (by omega) hI.1
    have hxt := tt_n (T := T) hI.1
    have hl159 : q.1 = false → (P ++ q.2.2).length ≤ 159 := fun hq => by
      have := hI.2 hq
      rw [List.length_append]; omega
    refine j_aload_n (q := 10) C dX7_readValue_9 rfl rfl rfl ?_
    refine j_aload_n (q := 11) C dX7_readValue_10 rfl rfl rfl ?_
    refine cg_token hQ (q' := 14) C dX7_readValue_11 rfl kw_248 ?_
    refine jVT jc7 (q := 17) C dX7_readValue_14 rfl hs7 mX7_emit kw_553 kw_554 kw_14 (ctX7_emit hSo hSc hI hS hl159 (k0 := k0) hk0) rfl rfl (by decide) (Nat.le_of_ble_eq_true rfl) (by decide) (fun r_14 M_14 h_14 => ?_)
    obtain ⟨rfl, hS1⟩ := h_14
    rw [pEm_f hq] at hS1
    obtain ⟨K1, a1, b1, c1, d1, e1, hQ, -, hG1⟩ := hS1
    obtain ⟨rfl, rfl, rfl, h31, rfl, hK1⟩ := hG1 rfl
    obtain rfl := h31 (show ¬ (tk T n q.2.1).1 = 4 by omega)
    refine j_aload_n (q := 18) C dX7_readValue_17 rfl rfl rfl ?_
    refine jVT jc7 (q := 21) C dX7_readValue_18 rfl hs7 mX7_advance kw_471 kw_472 kw_3 (ctX7_advance hSo hQ hxt.1) rfl rfl (by decide) (Nat.le_of_ble_eq_true rfl) (by decide) (fun r_18 M_18 h_18 => ?_)
    obtain ⟨rfl, hN⟩ := h_18
    have hS2 : cSt S rd Sh T n M0 P M_18 (pNx T n (pEm k0 q)) := by rw [pEm_f hq]; exact cSt_nx (q := (false, q.2.1, q.2.2 ++ [k0])) rfl hN hK1
    refine j_goto (tgt := 62) C dX7_readValue_21 (by decide) ?_
    exact j_vret C E dX7_readValue_62 rfl rfl (⟨rfl, rfl, rfl, by rw [hpv]; exact hS2⟩)

set_option maxRecDepth 100000 in
set_option maxHeartbeats 4000000 in
theorem ctX7_readOne_2 {G : jG} {sz : Nat} {Sh : jS} {M : jM} {rd : Nat} {S : Nat → Prop} {T : Nat → Nat} {n : Nat} {M0 : jM} {P : List Nat} {q : pS} (hSo : S rd) (hSc : S (rd + 2)) (hI : pI n P q) (hS : cSt S rd Sh T n M0 P M q) : jC G yX7_readOne cX7_readOne 4 (Option.none : Option FieldType) (jrm 29 0 0) sz Sh M [.ref rd, .int (nI 2)] (jT sz Sh (fun r M1 => r = none ∧ cSt S rd Sh T n M0 P M1 (pOne T n (lvE T n 2).1 q))) := by
  refine jC_start (by decide +kernel) (Nat.le_of_ble_eq_true rfl) (fun X C E hN0 => ?_)
  have hs7 := (cSt_lay hS).1.1
  have hn160 : n ≤ 160 := (cSt_lay hS).2.2.1
  have hT := (cSt_lay hS).2.2.2.1
  have hS0 := hS
  obtain ⟨K, a, b, c, d, e, hQ, hB, hG⟩ := hS0
  obtain ⟨Q, eQ⟩ : ∃ z, z = pOne T n (lvE T n 2).1 q := ⟨_, rfl⟩
  rw [← eQ] at E
  have loop7 : ∀ (f i : Nat) (q : pS) (M : jM), i + f = 160 → pI n P q → pLp T n oMul (pVal T n (lvE T n 2).1) f q = Q → cSt S rd Sh T n M0 P M q → jJ G X 0 0 sz Sh M 7 [(2, .int (nI i)), (1, .int (nI 2)), (0, .ref rd)] [] := by
    intro f
    induction f with
    | zero =>
      intro i q M hi hI hQe hS
      have hS0 := hS
      obtain ⟨K, a, b, c, d, e, hQ, hB, hG⟩ := hS0
      refine j_iload_n (q := 8) C dX7_readOne_7 rfl rfl rfl ?_
      refine j_sipush (v := nI 160) (q := 11) C dX7_readOne_8 rfl (by decide) ?_
      refine j_icmp_ge (q := 14) (tgt := 57) C dX7_readOne_11 rfl (by decide) (fun c_11 => ?_) (fun c_11 => absurd (nI_le (by omega) (by omega)) c_11)
      exact j_vret C E dX7_readOne_57 rfl rfl (⟨rfl, rfl, rfl, by rw [← hQe]; exact hS⟩)
    | succ f ih =>
      intro i q M hi hI hQe hS
      have hS0 := hS
      obtain ⟨K, a, b, c, d, e, hQ, hB, hG⟩ := hS0
      refine j_iload_n (q := 8) C dX7_readOne_7 rfl rfl rfl ?_
      refine j_sipush (v := nI 160) (q := 11) C dX7_readOne_8 rfl (by decide) ?_
      refine j_icmp_ge (q := 14) (tgt := 57) C dX7_readOne_11 rfl (by decide) (fun c_11 => absurd c_11 (fun h => absurd ((nI_leI (by omega) (by omega)).mp h) (by omega))) (fun c_11 => ?_)
      refine j_aload_n (q := 15) C dX7_readOne_14 rfl rfl rfl ?_
      refine cg_token hQ (q' := 18) C dX7_readOne_15 rfl kw_248 ?_
      refine j_bipush (v := (-19)) (q := 20) C dX7_readOne_18 rfl (by decide) ?_
      refine j_icmp_eq (q := 23) (tgt := 32) C dX7_readOne_20 rfl (by decide) (fun c_20 => ?_) (fun c_20 => ?_)
      · have hq : q.1 = false := bf (fun hq => by
          rw [(hB hq).1] at c_20
          exact absurd c_20 (by decide))
        obtain ⟨rfl, rfl, rfl, h3, rfl, hK⟩ := hG hq
        have htk : tk T n q.2.1 = (3, 5) := cT_inj hT (by decide) (Eq.trans c_20 (by decide))
        obtain rfl := h3 (by rw [htk]; decide)
        have ho : oMul (tk T n q.2.1) = some 2000006 := by rw [htk]; rfl
        obtain ⟨a1, a2, a3, a4⟩ := pI_step (c := 2000006) (pVal_G (k := 11) hT (lvE_G hT 2).1 (by omega)) hq (by rw [htk]; decide) hI
        have hl159 : ((pVal T n (lvE T n 2).1) (pNx T n q)).1 = false → (P ++ ((pVal T n (lvE T n 2).1) (pNx T n q)).2.2).length ≤ 159 := fun hf => by
          have h := a3.2 (by rw [pEm_f hf])
          have h9 := a3.1
          rw [pEm_f hf] at h h9
          have h8 : P.length + (((pVal T n (lvE T n 2).1) (pNx T n q)).2.2 ++ [2000006]).length ≤ ((pVal T n (lvE T n 2).1) (pNx T n q)).2.1 := h
          have h7 : ((pVal T n (lvE T n 2).1) (pNx T n q)).2.1 ≤ n := h9
          simp only [List.length_append, List.length_cons, List.length_nil] at h8
          rw [List.length_append]; omega
        refine j_aload_n (q := 33) C dX7_readOne_32 rfl rfl rfl ?_
        refine cg_token hQ (q' := 36) C dX7_readOne_33 rfl kw_248 ?_
        refine j_istore_n (lv' := [(3, _), (2, _), (1, _), (0, _)]) (q := 37) C dX7_readOne_36 rfl rfl (by decide) rfl ?_
        refine j_aload_n (q := 38) C dX7_readOne_37 rfl rfl rfl ?_
        refine jVT jc7 (q := 41) C dX7_readOne_38 rfl hs7 mX7_advance kw_471 kw_472 kw_3 (ctX7_advance hSo hQ (tt_n (T := T) hI.1).1) rfl rfl (by decide) (Nat.le_of_ble_eq_true rfl) (by decide) (fun r_38 M_38 h_38 => ?_)
        obtain ⟨rfl, hN⟩ := h_38
        have hS1 := cSt_nx hq hN hK
        refine j_aload_n (q := 42) C dX7_readOne_41 rfl rfl rfl ?_
        refine j_iload_n (q := 43) C dX7_readOne_42 rfl rfl rfl ?_
        refine jVT jc7 (q := 46) C dX7_readOne_43 rfl hs7 mX7_readValue kw_562 kw_563 kw_17 (ctX7_readValue_2 hSo hSc a1 hS1) rfl rfl (by decide) (Nat.le_of_ble_eq_true rfl) (by decide) (fun r_43 M_43 h_43 => ?_)
        obtain ⟨rfl, hS2⟩ := h_43
        refine j_aload_n (q := 47) C dX7_readOne_46 rfl rfl rfl ?_
        refine j_iload_n (q := 48) C dX7_readOne_47 rfl rfl rfl ?_
        refine jVT jc7 (q := 51) C dX7_readOne_48 rfl hs7 mX7_emit kw_553 kw_554 kw_14 (ctX7_emit hSo hSc a2 hS2 hl159 (k0 := 2000006) (by rw [htk]; decide)) rfl rfl (by decide) (Nat.le_of_ble_eq_true rfl) (by decide) (fun r_48 M_48 h_48 => ?_)
        obtain ⟨rfl, hS3⟩ := h_48
        first | refine j_iincN (lv' := [(2, _), (3, _), (1, _), (0, _)]) (q := 54) C dX7_readOne_51 rfl rfl (by decide) rfl ?_ | refine j_iinc (lv' := [(2, _), (3, _), (1, _), (0, _)]) (q := 54) C dX7_readOne_51 rfl rfl rfl (by decide) rfl ?_
        refine j_goto (tgt := 7) C dX7_readOne_54 (by decide) ?_
        exact j_fewer (lv' := [(2, .int (nI (i + 1))), (1, .int (nI 2)), (0, .ref rd)]) (by simp) (ih (i + 1) _ M_48 (by omega) a3 (by rw [← hQe, pLp, if_neg (by rw [hq]; decide), ho]) hS3)
      · refine j_aload_n (q := 24) C dX7_readOne_23 rfl rfl rfl ?_
        refine cg_token hQ (q' := 27) C dX7_readOne_24 rfl kw_248 ?_
        refine j_bipush (v := (-20)) (q := 29) C dX7_readOne_27 rfl (by decide) ?_
        refine j_icmp_ne (q := 32) (tgt := 57) C dX7_readOne_29 rfl (by decide) (fun c_29 => ?_) (fun c_29 => ?_)
        · exact j_vret C E dX7_readOne_57 rfl rfl (⟨rfl, rfl, rfl, by
                have e0 : pLp T n oMul (pVal T n (lvE T n 2).1) (f + 1) q = q := by
                  by_cases hb : q.1 = true
                  · exact pLp_bad hb _
                  · have h1 := (hG (bf hb)).1
                    have ho : oMul (tk T n q.2.1) = none := by unfold oMul; rw [if_neg (fun h => c_20 (by rw [h1, h]; decide)), if_neg (fun h => c_29 (by rw [h1, h]; decide))]
                    rw [pLp, if_neg hb, ho]
                rw [← hQe, e0]; exact hS⟩)
        · have hq : q.1 = false := bf (fun hq => by
            rw [(hB hq).1] at c_29
            exact absurd c_29 (by decide))
          obtain ⟨rfl, rfl, rfl, h3, rfl, hK⟩ := hG hq
          have htk : tk T n q.2.1 = (3, 6) := cT_inj hT (by decide) (Eq.trans c_29 (by decide))
          obtain rfl := h3 (by rw [htk]; decide)
          have ho : oMul (tk T n q.2.1) = some 2000007 := by rw [htk]; rfl
          obtain ⟨a1, a2, a3, a4⟩ := pI_step (c := 2000007) (pVal_G (k := 11) hT (lvE_G hT 2).1 (by omega)) hq (by rw [htk]; decide) hI
          have hl159 : ((pVal T n (lvE T n 2).1) (pNx T n q)).1 = false → (P ++ ((pVal T n (lvE T n 2).1) (pNx T n q)).2.2).length ≤ 159 := fun hf => by
            have h := a3.2 (by rw [pEm_f hf])
            have h9 := a3.1
            rw [pEm_f hf] at h h9
            have h8 : P.length + (((pVal T n (lvE T n 2).1) (pNx T n q)).2.2 ++ [2000007]).length ≤ ((pVal T n (lvE T n 2).1) (pNx T n q)).2.1 := h
            have h7 : ((pVal T n (lvE T n 2).1) (pNx T n q)).2.1 ≤ n := h9
            simp only [List.length_append, List.length_cons, List.length_nil] at h8
            rw [List.length_append]; omega
          refine j_aload_n (q := 33) C dX7_readOne_32 rfl rfl rfl ?_
          refine cg_token hQ (q' := 36) C dX7_readOne_33 rfl kw_248 ?_
          refine j_istore_n (lv' := [(3, _), (2, _), (1, _), (0, _)]) (q := 37) C dX7_readOne_36 rfl rfl (by decide) rfl ?_
          refine j_aload_n (q := 38) C dX7_readOne_37 rfl rfl rfl ?_
          refine jVT jc7 (q := 41) C dX7_readOne_38 rfl hs7 mX7_advance kw_471 kw_472 kw_3 (ctX7_advance hSo hQ (tt_n (T := T) hI.1).1) rfl rfl (by decide) (Nat.le_of_ble_eq_true rfl) (by decide) (fun r_38 M_38 h_38 => ?_)
          obtain ⟨rfl, hN⟩ := h_38
          have hS1 := cSt_nx hq hN hK
          refine j_aload_n (q := 42) C dX7_readOne_41 rfl rfl rfl ?_
          refine j_iload_n (q := 43) C dX7_readOne_42 rfl rfl rfl ?_
          refine jVT jc7 (q := 46) C dX7_readOne_43 rfl hs7 mX7_readValue kw_562 kw_563 kw_17 (ctX7_readValue_2 hSo hSc a1 hS1) rfl rfl (by decide) (Nat.le_of_ble_eq_true rfl) (by decide) (fun r_43 M_43 h_43 => ?_)
          obtain ⟨rfl, hS2⟩ := h_43
          refine j_aload_n (q := 47) C dX7_readOne_46 rfl rfl rfl ?_
          refine j_iload_n (q := 48) C dX7_readOne_47 rfl rfl rfl ?_
          refine jVT jc7 (q := 51) C dX7_readOne_48 rfl hs7 mX7_emit kw_553 kw_554 kw_14 (ctX7_emit hSo hSc a2 hS2 hl159 (k0 := 2000007) (by rw [htk]; decide)) rfl rfl (by decide) (Nat.le_of_ble_eq_true rfl) (by decide) (fun r_48 M_48 h_48 => ?_)
          obtain ⟨rfl, hS3⟩ := h_48
          first | refine j_iincN (lv' := [(2, _), (3, _), (1, _), (0, _)]) (q := 54) C dX7_readOne_51 rfl rfl (by decide) rfl ?_ | refine j_iinc (lv' := [(2, _), (3, _), (1, _), (0, _)]) (q := 54) C dX7_readOne_51 rfl rfl rfl (by decide) rfl ?_
          refine j_goto (tgt := 7) C dX7_readOne_54 (by decide) ?_
          exact j_fewer (lv' := [(2, .int (nI (i + 1))), (1, .int (nI 2)), (0, .ref rd)]) (by simp) (ih (i + 1) _ M_48 (by omega) a3 (by rw [← hQe, pLp, if_neg (by rw [hq]; decide), ho]) hS3)
  refine j_aload_n (q := 1) C dX7_readOne_0 rfl rfl rfl ?_
  refine j_iload_n (q := 2) C dX7_readOne_1 rfl rfl rfl ?_
  refine jVT jc7 (q := 5) C dX7_readOne_2 rfl hs7 mX7_readValue kw_562 kw_563 kw_17 (ctX7_readValue_2 hSo hSc hI hS) rfl rfl (by decide) (Nat.le_of_ble_eq_true rfl) (by decide) (fun r_2 M_2 h_2 => ?_)
  obtain ⟨rfl, hS1⟩ := h_2
  refine j_iconst (v := nI 0) (q := 6) C dX7_readOne_5 rfl (by decide) ?_
  refine j_istore_n (lv' := [(2, _), (0, _), (1, _)]) (q := 7) C dX7_readOne_6 rfl rfl (by decide) rfl ?_
  exact j_fewer (lv' := [(2, .int (nI 0)), (1, .int (nI 2)), (0, .ref rd)]) (by simp) (loop7 160 0 _ M_2 rfl (pI_sub (pVal_G (k := 11) hT (lvE_G hT 2).1 (by omega)) hI) (by rw [eQ]; unfold pOne; rfl) hS1)

set_option maxRecDepth 100000 in
set_option maxHeartbeats 4000000 in
theorem ctX7_readSum_2 {G : jG} {sz : Nat} {Sh : jS} {M : jM} {rd : Nat} {S : Nat → Prop} {T : Nat → Nat} {n : Nat} {M0 : jM} {P : List Nat} {q : pS} (hSo : S rd) (hSc : S (rd + 2)) (hI : pI n P q) (hS : cSt S rd Sh T n M0 P M q) : jC G yX7_readSum cX7_readSum 4 (Option.none : Option FieldType) (jrm 30 0 0) sz Sh M [.ref rd, .int (nI 2)] (jT sz Sh (fun r M1 => r = none ∧ cSt S rd Sh T n M0 P M1 (pSum T n (lvE T n 2).1 q))) := by
  refine jC_start (by decide +kernel) (Nat.le_of_ble_eq_true rfl) (fun X C E hN0 => ?_)
  have hs7 := (cSt_lay hS).1.1
  have hn160 : n ≤ 160 := (cSt_lay hS).2.2.1
  have hT := (cSt_lay hS).2.2.2.1
  have hS0 := hS
  obtain ⟨K, a, b, c, d, e, hQ, hB, hG⟩ := hS0
  obtain ⟨Q, eQ⟩ : ∃ z, z = pSum T n (lvE T n 2).1 q := ⟨_, rfl⟩
  rw [← eQ] at E
  have loop7 : ∀ (f i : Nat) (q : pS) (M : jM), i + f = 160 → pI n P q → pLp T n oAdd (pOne T n (lvE T n 2).1) f q = Q → cSt S rd Sh T n M0 P M q → jJ G X 0 0 sz Sh M 7 [(2, .int (nI i)), (1, .int (nI 2)), (0, .ref rd)] [] := by
    intro f
    induction f with
    | zero =>
      intro i q M hi hI hQe hS
      have hS0 := hS
      obtain ⟨K, a, b, c, d, e, hQ, hB, hG⟩ := hS0
      refine j_iload_n (q := 8) C dX7_readSum_7 rfl rfl rfl ?_
      refine j_sipush (v := nI 160) (q := 11) C dX7_readSum_8 rfl (by decide) ?_
      refine j_icmp_ge (q := 14) (tgt := 57) C dX7_readSum_11 rfl (by decide) (fun c_11 => ?_) (fun c_11 => absurd (nI_le (by omega) (by omega)) c_11)
      exact j_vret C E dX7_readSum_57 rfl rfl (⟨rfl, rfl, rfl, by rw [← hQe]; exact hS⟩)
    | succ f ih =>
      intro i q M hi hI hQe hS
      have hS0 := hS
      obtain ⟨K, a, b, c, d, e, hQ, hB, hG⟩ := hS0
      refine j_iload_n (q := 8) C dX7_readSum_7 rfl rfl rfl ?_
      refine j_sipush (v := nI 160) (q := 11) C dX7_readSum_8 rfl (by decide) ?_
      refine j_icmp_ge (q := 14) (tgt := 57) C dX7_readSum_11 rfl (by decide) (fun c_11 => absurd c_11 (fun h => absurd ((nI_leI (by omega) (by omega)).mp h) (by omega))) (fun c_11 => ?_)
      refine j_aload_n (q := 15) C dX7_readSum_14 rfl rfl rfl ?_
      refine cg_token hQ (q' := 18) C dX7_readSum_15 rfl kw_248 ?_
      refine j_bipush (v := (-17)) (q := 20) C dX7_readSum_18 rfl (by decide) ?_
      refine j_icmp_eq (q := 23) (tgt := 32) C dX7_readSum_20 rfl (by decide) (fun c_20 => ?_) (fun c_20 => ?_)
      · have hq : q.1 = false := bf (fun hq => by
          rw [(hB hq).1] at c_20
          exact absurd c_20 (by decide))
        obtain ⟨rfl, rfl, rfl, h3, rfl, hK⟩ := hG hq
        have htk : tk T n q.2.1 = (3, 3) := cT_inj hT (by decide) (Eq.trans c_20 (by decide))
        obtain rfl := h3 (by rw [htk]; decide)
        have ho : oAdd (tk T n q.2.1) = some 2000004 := by rw [htk]; rfl
        obtain ⟨a1, a2, a3, a4⟩ := pI_step (c := 2000004) (pOne_G (k := 11) hT (lvE_G hT 2).1 (by omega)) hq (by rw [htk]; decide) hI
        have hl159 : ((pOne T n (lvE T n 2).1) (pNx T n q)).1 = false → (P ++ ((pOne T n (lvE T n 2).1) (pNx T n q)).2.2).length ≤ 159 := fun hf => by
          have h := a3.2 (by rw [pEm_f hf])
          have h9 := a3.1
          rw [pEm_f hf] at h h9
          have h8 : P.length + (((pOne T n (lvE T n 2).1) (pNx T n q)).2.2 ++ [2000004]).length ≤ ((pOne T n (lvE T n 2).1) (pNx T n q)).2.1 := h
          have h7 : ((pOne T n (lvE T n 2).1) (pNx T n q)).2.1 ≤ n := h9
          simp only [List.length_append, List.length_cons, List.length_nil] at h8
          rw [List.length_append]; omega
        refine j_aload_n (q := 33) C dX7_readSum_32 rfl rfl rfl ?_
        refine cg_token hQ (q' := 36) C dX7_readSum_33 rfl kw_248 ?_
        refine j_istore_n (lv' := [(3, _), (2, _), (1, _), (0, _)]) (q := 37) C dX7_readSum_36 rfl rfl (by decide) rfl ?_
        refine j_aload_n (q := 38) C dX7_readSum_37 rfl rfl rfl ?_
        refine jVT jc7 (q := 41) C dX7_readSum_38 rfl hs7 mX7_advance kw_471 kw_472 kw_3 (ctX7_advance hSo hQ (tt_n (T := T) hI.1).1) rfl rfl (by decide) (Nat.le_of_ble_eq_true rfl) (by decide) (fun r_38 M_38 h_38 => ?_)
        obtain ⟨rfl, hN⟩ := h_38
        have hS1 := cSt_nx hq hN hK
        refine j_aload_n (q := 42) C dX7_readSum_41 rfl rfl rfl ?_
        refine j_iload_n (q := 43) C dX7_readSum_42 rfl rfl rfl ?_
        refine jVT jc7 (q := 46) C dX7_readSum_43 rfl hs7 mX7_readOne kw_559 kw_560 kw_16 (ctX7_readOne_2 hSo hSc a1 hS1) rfl rfl (by decide) (Nat.le_of_ble_eq_true rfl) (by decide) (fun r_43 M_43 h_43 => ?_)
        obtain ⟨rfl, hS2⟩ := h_43
        refine j_aload_n (q := 47) C dX7_readSum_46 rfl rfl rfl ?_
        refine j_iload_n (q := 48) C dX7_readSum_47 rfl rfl rfl ?_
        refine jVT jc7 (q := 51) C dX7_readSum_48 rfl hs7 mX7_emit kw_553 kw_554 kw_14 (ctX7_emit hSo hSc a2 hS2 hl159 (k0 := 2000004) (by rw [htk]; decide)) rfl rfl (by decide) (Nat.le_of_ble_eq_true rfl) (by decide) (fun r_48 M_48 h_48 => ?_)
        obtain ⟨rfl, hS3⟩ := h_48
        first | refine j_iincN (lv' := [(2, _), (3, _), (1, _), (0, _)]) (q := 54) C dX7_readSum_51 rfl rfl (by decide) rfl ?_ | refine j_iinc (lv' := [(2, _), (3, _), (1, _), (0, _)]) (q := 54) C dX7_readSum_51 rfl rfl rfl (by decide) rfl ?_
        refine j_goto (tgt := 7) C dX7_readSum_54 (by decide) ?_
        exact j_fewer (lv' := [(2, .int (nI (i + 1))), (1, .int (nI 2)), (0, .ref rd)]) (by simp) (ih (i + 1) _ M_48 (by omega) a3 (by rw [← hQe, pLp, if_neg (by rw [hq]; decide), ho]) hS3)
      · refine j_aload_n (q := 24) C dX7_readSum_23 rfl rfl rfl ?_
        refine cg_token hQ (q' := 27) C dX7_readSum_24 rfl kw_248 ?_
        refine j_bipush (v := (-18)) (q := 29) C dX7_readSum_27 rfl (by decide) ?_
        refine j_icmp_ne (q := 32) (tgt := 57) C dX7_readSum_29 rfl (by decide) (fun c_29 => ?_) (fun c_29 => ?_)
        · exact j_vret C E dX7_readSum_57 rfl rfl (⟨rfl, rfl, rfl, by
                have e0 : pLp T n oAdd (pOne T n (lvE T n 2).1) (f + 1) q = q := by
                  by_cases hb : q.1 = true
                  · exact pLp_bad hb _
                  · have h1 := (hG (bf hb)).1
                    have ho : oAdd (tk T n q.2.1) = none := by unfold oAdd; rw [if_neg (fun h => c_20 (by rw [h1, h]; decide)), if_neg (fun h => c_29 (by rw [h1, h]; decide))]
                    rw [pLp, if_neg hb, ho]
                rw [← hQe, e0]; exact hS⟩)
        · have hq : q.1 = false := bf (fun hq => by
            rw [(hB hq).1] at c_29
            exact absurd c_29 (by decide))
          obtain ⟨rfl, rfl, rfl, h3, rfl, hK⟩ := hG hq
          have htk : tk T n q.2.1 = (3, 4) := cT_inj hT (by decide) (Eq.trans c_29 (by decide))
          obtain rfl := h3 (by rw [htk]; decide)
          have ho : oAdd (tk T n q.2.1) = some 2000005 := by rw [htk]; rfl
          obtain ⟨a1, a2, a3, a4⟩ := pI_step (c := 2000005) (pOne_G (k := 11) hT (lvE_G hT 2).1 (by omega)) hq (by rw [htk]; decide) hI
          have hl159 : ((pOne T n (lvE T n 2).1) (pNx T n q)).1 = false → (P ++ ((pOne T n (lvE T n 2).1) (pNx T n q)).2.2).length ≤ 159 := fun hf => by
            have h := a3.2 (by rw [pEm_f hf])
            have h9 := a3.1
            rw [pEm_f hf] at h h9
            have h8 : P.length + (((pOne T n (lvE T n 2).1) (pNx T n q)).2.2 ++ [2000005]).length ≤ ((pOne T n (lvE T n 2).1) (pNx T n q)).2.1 := h
            have h7 : ((pOne T n (lvE T n 2).1) (pNx T n q)).2.1 ≤ n := h9
            simp only [List.length_append, List.length_cons, List.length_nil] at h8
            rw [List.length_append]; omega
          refine j_aload_n (q := 33) C dX7_readSum_32 rfl rfl rfl ?_
          refine cg_token hQ (q' := 36) C dX7_readSum_33 rfl kw_248 ?_
          refine j_istore_n (lv' := [(3, _), (2, _), (1, _), (0, _)]) (q := 37) C dX7_readSum_36 rfl rfl (by decide) rfl ?_
          refine j_aload_n (q := 38) C dX7_readSum_37 rfl rfl rfl ?_
          refine jVT jc7 (q := 41) C dX7_readSum_38 rfl hs7 mX7_advance kw_471 kw_472 kw_3 (ctX7_advance hSo hQ (tt_n (T := T) hI.1).1) rfl rfl (by decide) (Nat.le_of_ble_eq_true rfl) (by decide) (fun r_38 M_38 h_38 => ?_)
          obtain ⟨rfl, hN⟩ := h_38
          have hS1 := cSt_nx hq hN hK
          refine j_aload_n (q := 42) C dX7_readSum_41 rfl rfl rfl ?_
          refine j_iload_n (q := 43) C dX7_readSum_42 rfl rfl rfl ?_
          refine jVT jc7 (q := 46) C dX7_readSum_43 rfl hs7 mX7_readOne kw_559 kw_560 kw_16 (ctX7_readOne_2 hSo hSc a1 hS1) rfl rfl (by decide) (Nat.le_of_ble_eq_true rfl) (by decide) (fun r_43 M_43 h_43 => ?_)
          obtain ⟨rfl, hS2⟩ := h_43
          refine j_aload_n (q := 47) C dX7_readSum_46 rfl rfl rfl ?_
          refine j_iload_n (q := 48) C dX7_readSum_47 rfl rfl rfl ?_
          refine jVT jc7 (q := 51) C dX7_readSum_48 rfl hs7 mX7_emit kw_553 kw_554 kw_14 (ctX7_emit hSo hSc a2 hS2 hl159 (k0 := 2000005) (by rw [htk]; decide)) rfl rfl (by decide) (Nat.le_of_ble_eq_true rfl) (by decide) (fun r_48 M_48 h_48 => ?_)
          obtain ⟨rfl, hS3⟩ := h_48
          first | refine j_iincN (lv' := [(2, _), (3, _), (1, _), (0, _)]) (q := 54) C dX7_readSum_51 rfl rfl (by decide) rfl ?_ | refine j_iinc (lv' := [(2, _), (3, _), (1, _), (0, _)]) (q := 54) C dX7_readSum_51 rfl rfl rfl (by decide) rfl ?_
          refine j_goto (tgt := 7) C dX7_readSum_54 (by decide) ?_
          exact j_fewer (lv' := [(2, .int (nI (i + 1))), (1, .int (nI 2)), (0, .ref rd)]) (by simp) (ih (i + 1) _ M_48 (by omega) a3 (by rw [← hQe, pLp, if_neg (by rw [hq]; decide), ho]) hS3)
  refine j_aload_n (q := 1) C dX7_readSum_0 rfl rfl rfl ?_
  refine j_iload_n (q := 2) C dX7_readSum_1 rfl rfl rfl ?_
  refine jVT jc7 (q := 5) C dX7_readSum_2 rfl hs7 mX7_readOne kw_559 kw_560 kw_16 (ctX7_readOne_2 hSo hSc hI hS) rfl rfl (by decide) (Nat.le_of_ble_eq_true rfl) (by decide) (fun r_2 M_2 h_2 => ?_)
  obtain ⟨rfl, hS1⟩ := h_2
  refine j_iconst (v := nI 0) (q := 6) C dX7_readSum_5 rfl (by decide) ?_
  refine j_istore_n (lv' := [(2, _), (0, _), (1, _)]) (q := 7) C dX7_readSum_6 rfl rfl (by decide) rfl ?_
  exact j_fewer (lv' := [(2, .int (nI 0)), (1, .int (nI 2)), (0, .ref rd)]) (by simp) (loop7 160 0 _ M_2 rfl (pI_sub (pOne_G (k := 11) hT (lvE_G hT 2).1 (by omega)) hI) (by rw [eQ]; unfold pSum; rfl) hS1)

set_option maxRecDepth 100000 in
set_option maxHeartbeats 4000000 in
theorem ctX7_readNot_2 {G : jG} {sz : Nat} {Sh : jS} {M : jM} {rd : Nat} {S : Nat → Prop} {T : Nat → Nat} {n : Nat} {M0 : jM} {P : List Nat} {q : pS} (hSo : S rd) (hSc : S (rd + 2)) (hI : pI n P q) (hS : cSt S rd Sh T n M0 P M q) : jC G yX7_readNot cX7_readNot 3 (Option.none : Option FieldType) (jrm 31 0 0) sz Sh M [.ref rd, .int (nI 2)] (jT sz Sh (fun r M1 => r = none ∧ cSt S rd Sh T n M0 P M1 (pNot T n (lvE T n 2).1 (lvE T n 2).2 q))) := by
  refine jC_start (by decide +kernel) (Nat.le_of_ble_eq_true rfl) (fun X C E hN0 => ?_)
  have hs7 := (cSt_lay hS).1.1
  have hn160 : n ≤ 160 := (cSt_lay hS).2.2.1
  have hT := (cSt_lay hS).2.2.2.1
  have hS0 := hS
  obtain ⟨K, a, b, c, d, e, hQ, hB, hG⟩ := hS0
  refine j_aload_n (q := 1) C dX7_readNot_0 rfl rfl rfl ?_
  refine cg_token hQ (q' := 4) C dX7_readNot_1 rfl kw_248 ?_
  refine j_bipush (v := (-13)) (q := 6) C dX7_readNot_4 rfl (by decide) ?_
  refine j_icmp_ne (q := 9) (tgt := 37) C dX7_readNot_6 rfl (by decide) (fun c_6 => ?_) (fun c_6 => ?_)
  · refine j_aload_n (q := 38) C dX7_readNot_37 rfl rfl rfl ?_
    refine j_iload_n (q := 39) C dX7_readNot_38 rfl rfl rfl ?_
    refine jVT jc7 (q := 42) C dX7_readNot_39 rfl hs7 mX7_readSum kw_556 kw_557 kw_15 (ctX7_readSum_2 hSo hSc hI hS) rfl rfl (by decide) (Nat.le_of_ble_eq_true rfl) (by decide) (fun r_39 M_39 h_39 => ?_)
    obtain ⟨rfl, hS3⟩ := h_39
    have hI3 := pI_sub (pSum_G (k := 11) hT (lvE_G hT 2).1 (by omega)) hI
    have eN : pNot T n (lvE T n 2).1 (lvE T n 2).2 q = pCmp T n (lvE T n 2).1 (pSum T n (lvE T n 2).1 q) := by
      unfold pNot
      by_cases hb : q.1 = true
      · rw [if_pos hb, ((pSum_G (k := 11) hT (lvE_G hT 2).1 (by omega)) q hI.1).1 hb]; unfold pCmp; rw [if_pos hb]
      · have h1 := (hG (bf hb)).1
        rw [if_neg hb, if_neg (fun h => c_6 (by rw [h1, h]; decide))]
    obtain ⟨q3, e3⟩ : ∃ z, z = pSum T n (lvE T n 2).1 q := ⟨_, rfl⟩
    rw [← e3] at hS3 hI3 eN
    have hS0 := hS3
    obtain ⟨K3, a3, b3, c3, d3, e3', hQ, hB3, hG3⟩ := hS0
    refine j_aload_n (q := 43) C dX7_readNot_42 rfl rfl rfl ?_
    refine cg_token hQ (q' := 46) C dX7_readNot_43 rfl kw_248 ?_
    refine j_bipush (v := (-21)) (q := 48) C dX7_readNot_46 rfl (by decide) ?_
    refine j_icmp_eq (q := 51) (tgt := 60) C dX7_readNot_48 rfl (by decide) (fun c_48 => ?_) (fun c_48 => ?_)
    · have hq3 : q3.1 = false := bf (fun hq => by
        rw [(hB3 hq).1] at c_48
        exact absurd c_48 (by decide))
      obtain ⟨rfl, rfl, rfl, h33, rfl, hK3⟩ := hG3 hq3
      have htk : tk T n q3.2.1 = (3, 7) := cT_inj hT (by decide) (Eq.trans c_48 (by decide))
      obtain rfl := h33 (by rw [htk]; decide)
      have ho : oCmp (tk T n q3.2.1) = some 2000002 := by rw [htk]; rfl
      obtain ⟨a1, a2, a3, a4⟩ := pI_step (c := 2000002) (pSum_G (k := 11) hT (lvE_G hT 2).1 (by omega)) hq3 (by rw [htk]; decide) hI3
      have hl159 : (pSum T n (lvE T n 2).1 (pNx T n q3)).1 = false → (P ++ (pSum T n (lvE T n 2).1 (pNx T n q3)).2.2).length ≤ 159 := fun hf => by
        have h := a3.2 (by rw [pEm_f hf])
        have h9 := a3.1
        rw [pEm_f hf] at h h9
        have h8 : P.length + ((pSum T n (lvE T n 2).1 (pNx T n q3)).2.2 ++ [2000002]).length ≤ (pSum T n (lvE T n 2).1 (pNx T n q3)).2.1 := h
        have h7 : (pSum T n (lvE T n 2).1 (pNx T n q3)).2.1 ≤ n := h9
        simp only [List.length_append, List.length_cons, List.length_nil] at h8
        rw [List.length_append]; omega
      refine j_aload_n (q := 61) C dX7_readNot_60 rfl rfl rfl ?_
      refine cg_token hQ (q' := 64) C dX7_readNot_61 rfl kw_248 ?_
      refine j_istore_n (lv' := [(2, _), (0, _), (1, _)]) (q := 65) C dX7_readNot_64 rfl rfl (by decide) rfl ?_
      refine j_aload_n (q := 66) C dX7_readNot_65 rfl rfl rfl ?_
      refine jVT jc7 (q := 69) C dX7_readNot_66 rfl hs7 mX7_advance kw_471 kw_472 kw_3 (ctX7_advance hSo hQ (tt_n (T := T) hI3.1).1) rfl rfl (by decide) (Nat.le_of_ble_eq_true rfl) (by decide) (fun r_66 M_66 h_66 => ?_)
      obtain ⟨rfl, hN⟩ := h_66
      have hS4 := cSt_nx hq3 hN hK3
      refine j_aload_n (q := 70) C dX7_readNot_69 rfl rfl rfl ?_
      refine j_iload_n (q := 71) C dX7_readNot_70 rfl rfl rfl ?_
      refine jVT jc7 (q := 74) C dX7_readNot_71 rfl hs7 mX7_readSum kw_556 kw_557 kw_15 (ctX7_readSum_2 hSo hSc a1 hS4) rfl rfl (by decide) (Nat.le_of_ble_eq_true rfl) (by decide) (fun r_71 M_71 h_71 => ?_)
      obtain ⟨rfl, hS5⟩ := h_71
      refine j_aload_n (q := 75) C dX7_readNot_74 rfl rfl rfl ?_
      refine j_iload_n (q := 76) C dX7_readNot_75 rfl rfl rfl ?_
      refine jVT jc7 (q := 79) C dX7_readNot_76 rfl hs7 mX7_emit kw_553 kw_554 kw_14 (ctX7_emit hSo hSc a2 hS5 hl159 (k0 := 2000002) (by rw [htk]; decide)) rfl rfl (by decide) (Nat.le_of_ble_eq_true rfl) (by decide) (fun r_76 M_76 h_76 => ?_)
      obtain ⟨rfl, hS6⟩ := h_76
      exact j_vret C E dX7_readNot_79 rfl rfl (⟨rfl, rfl, rfl, by rw [eN]; unfold pCmp; rw [if_neg (by rw [hq3]; decide), ho]; exact hS6⟩)
    · refine j_aload_n (q := 52) C dX7_readNot_51 rfl rfl rfl ?_
      refine cg_token hQ (q' := 55) C dX7_readNot_52 rfl kw_248 ?_
      refine j_bipush (v := (-22)) (q := 57) C dX7_readNot_55 rfl (by decide) ?_
      refine j_icmp_ne (q := 60) (tgt := 79) C dX7_readNot_57 rfl (by decide) (fun c_57 => ?_) (fun c_57 => ?_)
      · exact j_vret C E dX7_readNot_79 rfl rfl (⟨rfl, rfl, rfl, by
            rw [eN]; unfold pCmp
            by_cases hb : q3.1 = true
            · rw [if_pos hb]; exact hS3
            · have h1 := (hG3 (bf hb)).1
              have ho : oCmp (tk T n q3.2.1) = none := by unfold oCmp; rw [if_neg (fun h => c_48 (by rw [h1, h]; decide)), if_neg (fun h => c_57 (by rw [h1, h]; decide))]
              rw [if_neg hb, ho]; exact hS3⟩)
      · have hq3 : q3.1 = false := bf (fun hq => by
          rw [(hB3 hq).1] at c_57
          exact absurd c_57 (by decide))
        obtain ⟨rfl, rfl, rfl, h33, rfl, hK3⟩ := hG3 hq3
        have htk : tk T n q3.2.1 = (3, 8) := cT_inj hT (by decide) (Eq.trans c_57 (by decide))
        obtain rfl := h33 (by rw [htk]; decide)
        have ho : oCmp (tk T n q3.2.1) = some 2000003 := by rw [htk]; rfl
        obtain ⟨a1, a2, a3, a4⟩ := pI_step (c := 2000003) (pSum_G (k := 11) hT (lvE_G hT 2).1 (by omega)) hq3 (by rw [htk]; decide) hI3
        have hl159 : (pSum T n (lvE T n 2).1 (pNx T n q3)).1 = false → (P ++ (pSum T n (lvE T n 2).1 (pNx T n q3)).2.2).length ≤ 159 := fun hf => by
          have h := a3.2 (by rw [pEm_f hf])
          have h9 := a3.1
          rw [pEm_f hf] at h h9
          have h8 : P.length + ((pSum T n (lvE T n 2).1 (pNx T n q3)).2.2 ++ [2000003]).length ≤ (pSum T n (lvE T n 2).1 (pNx T n q3)).2.1 := h
          have h7 : (pSum T n (lvE T n 2).1 (pNx T n q3)).2.1 ≤ n := h9
          simp only [List.length_append, List.length_cons, List.length_nil] at h8
          rw [List.length_append]; omega
        refine j_aload_n (q := 61) C dX7_readNot_60 rfl rfl rfl ?_
        refine cg_token hQ (q' := 64) C dX7_readNot_61 rfl kw_248 ?_
        refine j_istore_n (lv' := [(2, _), (0, _), (1, _)]) (q := 65) C dX7_readNot_64 rfl rfl (by decide) rfl ?_
        refine j_aload_n (q := 66) C dX7_readNot_65 rfl rfl rfl ?_
        refine jVT jc7 (q := 69) C dX7_readNot_66 rfl hs7 mX7_advance kw_471 kw_472 kw_3 (ctX7_advance hSo hQ (tt_n (T := T) hI3.1).1) rfl rfl (by decide) (Nat.le_of_ble_eq_true rfl) (by decide) (fun r_66 M_66 h_66 => ?_)
        obtain ⟨rfl, hN⟩ := h_66
        have hS4 := cSt_nx hq3 hN hK3
        refine j_aload_n (q := 70) C dX7_readNot_69 rfl rfl rfl ?_
        refine j_iload_n (q := 71) C dX7_readNot_70 rfl rfl rfl ?_
        refine jVT jc7 (q := 74) C dX7_readNot_71 rfl hs7 mX7_readSum kw_556 kw_557 kw_15 (ctX7_readSum_2 hSo hSc a1 hS4) rfl rfl (by decide) (Nat.le_of_ble_eq_true rfl) (by decide) (fun r_71 M_71 h_71 => ?_)
        obtain ⟨rfl, hS5⟩ := h_71
        refine j_aload_n (q := 75) C dX7_readNot_74 rfl rfl rfl ?_
        refine j_iload_n (q := 76) C dX7_readNot_75 rfl rfl rfl ?_
        refine jVT jc7 (q := 79) C dX7_readNot_76 rfl hs7 mX7_emit kw_553 kw_554 kw_14 (ctX7_emit hSo hSc a2 hS5 hl159 (k0 := 2000003) (by rw [htk]; decide)) rfl rfl (by decide) (Nat.le_of_ble_eq_true rfl) (by decide) (fun r_76 M_76 h_76 => ?_)
        obtain ⟨rfl, hS6⟩ := h_76
        exact j_vret C E dX7_readNot_79 rfl rfl (⟨rfl, rfl, rfl, by rw [eN]; unfold pCmp; rw [if_neg (by rw [hq3]; decide), ho]; exact hS6⟩)
  · have hq : q.1 = false := bf (fun hq => by
      rw [(hB hq).1] at c_6
      exact absurd c_6 (by decide))
    obtain ⟨rfl, rfl, rfl, h3, rfl, hK⟩ := hG hq
    have htk : tk T n q.2.1 = (1, 12) := cT_inj hT (by decide) (Eq.trans c_6 (by decide))
    obtain rfl := h3 (by rw [htk]; decide)
    refine j_iload_n (q := 10) C dX7_readNot_9 rfl rfl rfl ?_
    refine j_iconst (v := nI 4) (q := 11) C dX7_readNot_10 rfl (by decide) ?_
    refine j_icmp_lt (q := 14) (tgt := 19) C dX7_readNot_11 rfl (by decide) (fun c_11 => ?_) (fun c_11 => absurd (by decide) c_11)
    refine j_aload_n (q := 20) C dX7_readNot_19 rfl rfl rfl ?_
    refine jVT jc7 (q := 23) C dX7_readNot_20 rfl hs7 mX7_advance kw_471 kw_472 kw_3 (ctX7_advance hSo hQ (tt_n (T := T) hI.1).1) rfl rfl (by decide) (Nat.le_of_ble_eq_true rfl) (by decide) (fun r_20 M_20 h_20 => ?_)
    obtain ⟨rfl, hN⟩ := h_20
    have hS1 := cSt_nx hq hN hK
    obtain ⟨a1, a2, a3, a4⟩ := pI_step (c := 2000008) (pNot_G (k := 6) hT (lvE_G hT 1).1 (lvE_G hT 1).2 (by omega)) hq (by rw [htk]; decide) hI
    have hl159 : ((pNot T n (lvE T n 1).1 (lvE T n 1).2) (pNx T n q)).1 = false → (P ++ ((pNot T n (lvE T n 1).1 (lvE T n 1).2) (pNx T n q)).2.2).length ≤ 159 := fun hf => by
      have h := a3.2 (by rw [pEm_f hf])
      have h9 := a3.1
      rw [pEm_f hf] at h h9
      have h8 : P.length + (((pNot T n (lvE T n 1).1 (lvE T n 1).2) (pNx T n q)).2.2 ++ [2000008]).length ≤ ((pNot T n (lvE T n 1).1 (lvE T n 1).2) (pNx T n q)).2.1 := h
      have h7 : ((pNot T n (lvE T n 1).1 (lvE T n 1).2) (pNx T n q)).2.1 ≤ n := h9
      simp only [List.length_append, List.length_cons, List.length_nil] at h8
      rw [List.length_append]; omega
    refine j_aload_n (q := 24) C dX7_readNot_23 rfl rfl rfl ?_
    refine j_iload_n (q := 25) C dX7_readNot_24 rfl rfl rfl ?_
    refine j_iconst (v := nI 1) (q := 26) C dX7_readNot_25 rfl (by decide) ?_
    first | refine j_iaddN (q := 27) C dX7_readNot_26 rfl ?_ | refine j_iadd (q := 27) C dX7_readNot_26 rfl ?_
    refine jVT jc7 (q := 30) C dX7_readNot_27 rfl hs7 mX7_readNot kw_550 kw_551 kw_13 (ctX7_readNot_1 hSo hSc a1 hS1) rfl rfl (by decide) (Nat.le_of_ble_eq_true rfl) (by decide) (fun r_27 M_27 h_27 => ?_)
    obtain ⟨rfl, hS2⟩ := h_27
    refine j_aload_n (q := 31) C dX7_readNot_30 rfl rfl rfl ?_
    refine j_bipush (v := (-13)) (q := 33) C dX7_readNot_31 rfl (by decide) ?_
    refine jVT jc7 (q := 36) C dX7_readNot_33 rfl hs7 mX7_emit kw_553 kw_554 kw_14 (ctX7_emit hSo hSc a2 hS2 hl159 (k0 := 2000008) (by decide)) rfl rfl (by decide) (Nat.le_of_ble_eq_true rfl) (by decide) (fun r_33 M_33 h_33 => ?_)
    obtain ⟨rfl, hS3⟩ := h_33
    exact j_vret C E dX7_readNot_36 rfl rfl (⟨rfl, rfl, rfl, by rw [show pNot T n (lvE T n 2).1 (lvE T n 2).2 q = pEm 2000008 (pNot T n (lvE T n 1).1 (lvE T n 1).2 (pNx T n q)) by unfold pNot; rw [if_neg (by rw [hq]; decide), if_pos htk]; rfl]; exact hS3⟩)

set_option maxRecDepth 100000 in
set_option maxHeartbeats 4000000 in
theorem ctX7_readAnd_2 {G : jG} {sz : Nat} {Sh : jS} {M : jM} {rd : Nat} {S : Nat → Prop} {T : Nat → Nat} {n : Nat} {M0 : jM} {P : List Nat} {q : pS} (hSo : S rd) (hSc : S (rd + 2)) (hI : pI n P q) (hS : cSt S rd Sh T n M0 P M q) : jC G yX7_readAnd cX7_readAnd 3 (Option.none : Option FieldType) (jrm 32 0 0) sz Sh M [.ref rd, .int (nI 2)] (jT sz Sh (fun r M1 => r = none ∧ cSt S rd Sh T n M0 P M1 (pAnd T n (lvE T n 2).1 (lvE T n 2).2 q))) := by
  refine jC_start (by decide +kernel) (Nat.le_of_ble_eq_true rfl) (fun X C E hN0 => ?_)
  have hs7 := (cSt_lay hS).1.1
  have hn160 : n ≤ 160 := (cSt_lay hS).2.2.1
  have hT := (cSt_lay hS).2.2.2.1
  have hS0 := hS
  obtain ⟨K, a, b, c, d, e, hQ, hB, hG⟩ := hS0
  obtain ⟨Q, eQ⟩ : ∃ z, z = pAnd T n (lvE T n 2).1 (lvE T n 2).2 q := ⟨_, rfl⟩
  rw [← eQ] at E
  have loop7 : ∀ (f i : Nat) (q : pS) (M : jM), i + f = 160 → pI n P q → pLp T n oAnd (pNot T n (lvE T n 2).1 (lvE T n 2).2) f q = Q → cSt S rd Sh T n M0 P M q → jJ G X 0 0 sz Sh M 7 [(2, .int (nI i)), (1, .int (nI 2)), (0, .ref rd)] [] := by
    intro f
    induction f with
    | zero =>
      intro i q M hi hI hQe hS
      have hS0 := hS
      obtain ⟨K, a, b, c, d, e, hQ, hB, hG⟩ := hS0
      refine j_iload_n (q := 8) C dX7_readAnd_7 rfl rfl rfl ?_
      refine j_sipush (v := nI 160) (q := 11) C dX7_readAnd_8 rfl (by decide) ?_
      refine j_icmp_ge (q := 14) (tgt := 44) C dX7_readAnd_11 rfl (by decide) (fun c_11 => ?_) (fun c_11 => absurd (nI_le (by omega) (by omega)) c_11)
      exact j_vret C E dX7_readAnd_44 rfl rfl (⟨rfl, rfl, rfl, by rw [← hQe]; exact hS⟩)
    | succ f ih =>
      intro i q M hi hI hQe hS
      have hS0 := hS
      obtain ⟨K, a, b, c, d, e, hQ, hB, hG⟩ := hS0
      refine j_iload_n (q := 8) C dX7_readAnd_7 rfl rfl rfl ?_
      refine j_sipush (v := nI 160) (q := 11) C dX7_readAnd_8 rfl (by decide) ?_
      refine j_icmp_ge (q := 14) (tgt := 44) C dX7_readAnd_11 rfl (by decide) (fun c_11 => absurd c_11 (fun h => absurd ((nI_leI (by omega) (by omega)).mp h) (by omega))) (fun c_11 => ?_)
      refine j_aload_n (q := 15) C dX7_readAnd_14 rfl rfl rfl ?_
      refine cg_token hQ (q' := 18) C dX7_readAnd_15 rfl kw_248 ?_
      refine j_bipush (v := (-11)) (q := 20) C dX7_readAnd_18 rfl (by decide) ?_
      refine j_icmp_ne (q := 23) (tgt := 44) C dX7_readAnd_20 rfl (by decide) (fun c_20 => ?_) (fun c_20 => ?_)
      · exact j_vret C E dX7_readAnd_44 rfl rfl (⟨rfl, rfl, rfl, by
              have e0 : pLp T n oAnd (pNot T n (lvE T n 2).1 (lvE T n 2).2) (f + 1) q = q := by
                by_cases hb : q.1 = true
                · exact pLp_bad hb _
                · have h1 := (hG (bf hb)).1
                  have ho : oAnd (tk T n q.2.1) = none := by unfold oAnd; rw [if_neg (fun h => c_20 (by rw [h1, h]; decide))]
                  rw [pLp, if_neg hb, ho]
              rw [← hQe, e0]; exact hS⟩)
      · have hq : q.1 = false := bf (fun hq => by
          rw [(hB hq).1] at c_20
          exact absurd c_20 (by decide))
        obtain ⟨rfl, rfl, rfl, h3, rfl, hK⟩ := hG hq
        have htk : tk T n q.2.1 = (1, 10) := cT_inj hT (by decide) (Eq.trans c_20 (by decide))
        obtain rfl := h3 (by rw [htk]; decide)
        have ho : oAnd (tk T n q.2.1) = some 2000001 := by rw [htk]; rfl
        obtain ⟨a1, a2, a3, a4⟩ := pI_step (c := 2000001) (pNot_G (k := 11) hT (lvE_G hT 2).1 (lvE_G hT 2).2 (by omega)) hq (by rw [htk]; decide) hI
        have hl159 : ((pNot T n (lvE T n 2).1 (lvE T n 2).2) (pNx T n q)).1 = false → (P ++ ((pNot T n (lvE T n 2).1 (lvE T n 2).2) (pNx T n q)).2.2).length ≤ 159 := fun hf => by
          have h := a3.2 (by rw [pEm_f hf])
          have h9 := a3.1
          rw [pEm_f hf] at h h9
          have h8 : P.length + (((pNot T n (lvE T n 2).1 (lvE T n 2).2) (pNx T n q)).2.2 ++ [2000001]).length ≤ ((pNot T n (lvE T n 2).1 (lvE T n 2).2) (pNx T n q)).2.1 := h
          have h7 : ((pNot T n (lvE T n 2).1 (lvE T n 2).2) (pNx T n q)).2.1 ≤ n := h9
          simp only [List.length_append, List.length_cons, List.length_nil] at h8
          rw [List.length_append]; omega
        refine j_aload_n (q := 24) C dX7_readAnd_23 rfl rfl rfl ?_
        refine jVT jc7 (q := 27) C dX7_readAnd_24 rfl hs7 mX7_advance kw_471 kw_472 kw_3 (ctX7_advance hSo hQ (tt_n (T := T) hI.1).1) rfl rfl (by decide) (Nat.le_of_ble_eq_true rfl) (by decide) (fun r_24 M_24 h_24 => ?_)
        obtain ⟨rfl, hN⟩ := h_24
        have hS1 := cSt_nx hq hN hK
        refine j_aload_n (q := 28) C dX7_readAnd_27 rfl rfl rfl ?_
        refine j_iload_n (q := 29) C dX7_readAnd_28 rfl rfl rfl ?_
        refine jVT jc7 (q := 32) C dX7_readAnd_29 rfl hs7 mX7_readNot kw_550 kw_551 kw_13 (ctX7_readNot_2 hSo hSc a1 hS1) rfl rfl (by decide) (Nat.le_of_ble_eq_true rfl) (by decide) (fun r_29 M_29 h_29 => ?_)
        obtain ⟨rfl, hS2⟩ := h_29
        refine j_aload_n (q := 33) C dX7_readAnd_32 rfl rfl rfl ?_
        refine j_bipush (v := (-11)) (q := 35) C dX7_readAnd_33 rfl (by decide) ?_
        refine jVT jc7 (q := 38) C dX7_readAnd_35 rfl hs7 mX7_emit kw_553 kw_554 kw_14 (ctX7_emit hSo hSc a2 hS2 hl159 (k0 := 2000001) (by decide)) rfl rfl (by decide) (Nat.le_of_ble_eq_true rfl) (by decide) (fun r_35 M_35 h_35 => ?_)
        obtain ⟨rfl, hS3⟩ := h_35
        first | refine j_iincN (lv' := [(2, _), (1, _), (0, _)]) (q := 41) C dX7_readAnd_38 rfl rfl (by decide) rfl ?_ | refine j_iinc (lv' := [(2, _), (1, _), (0, _)]) (q := 41) C dX7_readAnd_38 rfl rfl rfl (by decide) rfl ?_
        refine j_goto (tgt := 7) C dX7_readAnd_41 (by decide) ?_
        exact j_fewer (lv' := [(2, .int (nI (i + 1))), (1, .int (nI 2)), (0, .ref rd)]) (by simp) (ih (i + 1) _ M_35 (by omega) a3 (by rw [← hQe, pLp, if_neg (by rw [hq]; decide), ho]) hS3)
  refine j_aload_n (q := 1) C dX7_readAnd_0 rfl rfl rfl ?_
  refine j_iload_n (q := 2) C dX7_readAnd_1 rfl rfl rfl ?_
  refine jVT jc7 (q := 5) C dX7_readAnd_2 rfl hs7 mX7_readNot kw_550 kw_551 kw_13 (ctX7_readNot_2 hSo hSc hI hS) rfl rfl (by decide) (Nat.le_of_ble_eq_true rfl) (by decide) (fun r_2 M_2 h_2 => ?_)
  obtain ⟨rfl, hS1⟩ := h_2
  refine j_iconst (v := nI 0) (q := 6) C dX7_readAnd_5 rfl (by decide) ?_
  refine j_istore_n (lv' := [(2, _), (0, _), (1, _)]) (q := 7) C dX7_readAnd_6 rfl rfl (by decide) rfl ?_
  exact j_fewer (lv' := [(2, .int (nI 0)), (1, .int (nI 2)), (0, .ref rd)]) (by simp) (loop7 160 0 _ M_2 rfl (pI_sub (pNot_G (k := 11) hT (lvE_G hT 2).1 (lvE_G hT 2).2 (by omega)) hI) (by rw [eQ]; unfold pAnd; rfl) hS1)

set_option maxRecDepth 100000 in
set_option maxHeartbeats 4000000 in
theorem ctX7_readOr_2 {G : jG} {sz : Nat} {Sh : jS} {M : jM} {rd : Nat} {S : Nat → Prop} {T : Nat → Nat} {n : Nat} {M0 : jM} {P : List Nat} {q : pS} (hSo : S rd) (hSc : S (rd + 2)) (hI : pI n P q) (hS : cSt S rd Sh T n M0 P M q) : jC G yX7_readOr cX7_readOr 3 (Option.none : Option FieldType) (jrm 33 0 0) sz Sh M [.ref rd, .int (nI 2)] (jT sz Sh (fun r M1 => r = none ∧ cSt S rd Sh T n M0 P M1 (pOr T n (lvE T n 2).1 (lvE T n 2).2 q))) := by
  refine jC_start (by decide +kernel) (Nat.le_of_ble_eq_true rfl) (fun X C E hN0 => ?_)
  have hs7 := (cSt_lay hS).1.1
  have hn160 : n ≤ 160 := (cSt_lay hS).2.2.1
  have hT := (cSt_lay hS).2.2.2.1
  have hS0 := hS
  obtain ⟨K, a, b, c, d, e, hQ, hB, hG⟩ := hS0
  obtain ⟨Q, eQ⟩ : ∃ z, z = pOr T n (lvE T n 2).1 (lvE T n 2).2 q := ⟨_, rfl⟩
  rw [← eQ] at E
  have loop7 : ∀ (f i : Nat) (q : pS) (M : jM), i + f = 160 → pI n P q → pLp T n oOr (pAnd T n (lvE T n 2).1 (lvE T n 2).2) f q = Q → cSt S rd Sh T n M0 P M q → jJ G X 0 0 sz Sh M 7 [(2, .int (nI i)), (1, .int (nI 2)), (0, .ref rd)] [] := by
    intro f
    induction f with
    | zero =>
      intro i q M hi hI hQe hS
      have hS0 := hS
      obtain ⟨K, a, b, c, d, e, hQ, hB, hG⟩ := hS0
      refine j_iload_n (q := 8) C dX7_readOr_7 rfl rfl rfl ?_
      refine j_sipush (v := nI 160) (q := 11) C dX7_readOr_8 rfl (by decide) ?_
      refine j_icmp_ge (q := 14) (tgt := 44) C dX7_readOr_11 rfl (by decide) (fun c_11 => ?_) (fun c_11 => absurd (nI_le (by omega) (by omega)) c_11)
      exact j_vret C E dX7_readOr_44 rfl rfl (⟨rfl, rfl, rfl, by rw [← hQe]; exact hS⟩)
    | succ f ih =>
      intro i q M hi hI hQe hS
      have hS0 := hS
      obtain ⟨K, a, b, c, d, e, hQ, hB, hG⟩ := hS0
      refine j_iload_n (q := 8) C dX7_readOr_7 rfl rfl rfl ?_
      refine j_sipush (v := nI 160) (q := 11) C dX7_readOr_8 rfl (by decide) ?_
      refine j_icmp_ge (q := 14) (tgt := 44) C dX7_readOr_11 rfl (by decide) (fun c_11 => absurd c_11 (fun h => absurd ((nI_leI (by omega) (by omega)).mp h) (by omega))) (fun c_11 => ?_)
      refine j_aload_n (q := 15) C dX7_readOr_14 rfl rfl rfl ?_
      refine cg_token hQ (q' := 18) C dX7_readOr_15 rfl kw_248 ?_
      refine j_bipush (v := (-12)) (q := 20) C dX7_readOr_18 rfl (by decide) ?_
      refine j_icmp_ne (q := 23) (tgt := 44) C dX7_readOr_20 rfl (by decide) (fun c_20 => ?_) (fun c_20 => ?_)
      · exact j_vret C E dX7_readOr_44 rfl rfl (⟨rfl, rfl, rfl, by
              have e0 : pLp T n oOr (pAnd T n (lvE T n 2).1 (lvE T n 2).2) (f + 1) q = q := by
                by_cases hb : q.1 = true
                · exact pLp_bad hb _
                · have h1 := (hG (bf hb)).1
                  have ho : oOr (tk T n q.2.1) = none := by unfold oOr; rw [if_neg (fun h => c_20 (by rw [h1, h]; decide))]
                  rw [pLp, if_neg hb, ho]
              rw [← hQe, e0]; exact hS⟩)
      · have hq : q.1 = false := bf (fun hq => by
          rw [(hB hq).1] at c_20
          exact absurd c_20 (by decide))
        obtain ⟨rfl, rfl, rfl, h3, rfl, hK⟩ := hG hq
        have htk : tk T n q.2.1 = (1, 11) := cT_inj hT (by decide) (Eq.trans c_20 (by decide))
        obtain rfl := h3 (by rw [htk]; decide)
        have ho : oOr (tk T n q.2.1) = some 2000000 := by rw [htk]; rfl
        obtain ⟨a1, a2, a3, a4⟩ := pI_step (c := 2000000) (pAnd_G (k := 11) hT (lvE_G hT 2).1 (lvE_G hT 2).2 (by omega)) hq (by rw [htk]; decide) hI
        have hl159 : ((pAnd T n (lvE T n 2).1 (lvE T n 2).2) (pNx T n q)).1 = false → (P ++ ((pAnd T n (lvE T n 2).1 (lvE T n 2).2) (pNx T n q)).2.2).length ≤ 159 := fun hf => by
          have h := a3.2 (by rw [pEm_f hf])
          have h9 := a3.1
          rw [pEm_f hf] at h h9
          have h8 : P.length + (((pAnd T n (lvE T n 2).1 (lvE T n 2).2) (pNx T n q)).2.2 ++ [2000000]).length ≤ ((pAnd T n (lvE T n 2).1 (lvE T n 2).2) (pNx T n q)).2.1 := h
          have h7 : ((pAnd T n (lvE T n 2).1 (lvE T n 2).2) (pNx T n q)).2.1 ≤ n := h9
          simp only [List.length_append, List.length_cons, List.length_nil] at h8
          rw [List.length_append]; omega
        refine j_aload_n (q := 24) C dX7_readOr_23 rfl rfl rfl ?_
        refine jVT jc7 (q := 27) C dX7_readOr_24 rfl hs7 mX7_advance kw_471 kw_472 kw_3 (ctX7_advance hSo hQ (tt_n (T := T) hI.1).1) rfl rfl (by decide) (Nat.le_of_ble_eq_true rfl) (by decide) (fun r_24 M_24 h_24 => ?_)
        obtain ⟨rfl, hN⟩ := h_24
        have hS1 := cSt_nx hq hN hK
        refine j_aload_n (q := 28) C dX7_readOr_27 rfl rfl rfl ?_
        refine j_iload_n (q := 29) C dX7_readOr_28 rfl rfl rfl ?_
        refine jVT jc7 (q := 32) C dX7_readOr_29 rfl hs7 mX7_readAnd kw_547 kw_548 kw_12 (ctX7_readAnd_2 hSo hSc a1 hS1) rfl rfl (by decide) (Nat.le_of_ble_eq_true rfl) (by decide) (fun r_29 M_29 h_29 => ?_)
        obtain ⟨rfl, hS2⟩ := h_29
        refine j_aload_n (q := 33) C dX7_readOr_32 rfl rfl rfl ?_
        refine j_bipush (v := (-12)) (q := 35) C dX7_readOr_33 rfl (by decide) ?_
        refine jVT jc7 (q := 38) C dX7_readOr_35 rfl hs7 mX7_emit kw_553 kw_554 kw_14 (ctX7_emit hSo hSc a2 hS2 hl159 (k0 := 2000000) (by decide)) rfl rfl (by decide) (Nat.le_of_ble_eq_true rfl) (by decide) (fun r_35 M_35 h_35 => ?_)
        obtain ⟨rfl, hS3⟩ := h_35
        first | refine j_iincN (lv' := [(2, _), (1, _), (0, _)]) (q := 41) C dX7_readOr_38 rfl rfl (by decide) rfl ?_ | refine j_iinc (lv' := [(2, _), (1, _), (0, _)]) (q := 41) C dX7_readOr_38 rfl rfl rfl (by decide) rfl ?_
        refine j_goto (tgt := 7) C dX7_readOr_41 (by decide) ?_
        exact j_fewer (lv' := [(2, .int (nI (i + 1))), (1, .int (nI 2)), (0, .ref rd)]) (by simp) (ih (i + 1) _ M_35 (by omega) a3 (by rw [← hQe, pLp, if_neg (by rw [hq]; decide), ho]) hS3)
  refine j_aload_n (q := 1) C dX7_readOr_0 rfl rfl rfl ?_
  refine j_iload_n (q := 2) C dX7_readOr_1 rfl rfl rfl ?_
  refine jVT jc7 (q := 5) C dX7_readOr_2 rfl hs7 mX7_readAnd kw_547 kw_548 kw_12 (ctX7_readAnd_2 hSo hSc hI hS) rfl rfl (by decide) (Nat.le_of_ble_eq_true rfl) (by decide) (fun r_2 M_2 h_2 => ?_)
  obtain ⟨rfl, hS1⟩ := h_2
  refine j_iconst (v := nI 0) (q := 6) C dX7_readOr_5 rfl (by decide) ?_
  refine j_istore_n (lv' := [(2, _), (0, _), (1, _)]) (q := 7) C dX7_readOr_6 rfl rfl (by decide) rfl ?_
  exact j_fewer (lv' := [(2, .int (nI 0)), (1, .int (nI 2)), (0, .ref rd)]) (by simp) (loop7 160 0 _ M_2 rfl (pI_sub (pAnd_G (k := 11) hT (lvE_G hT 2).1 (lvE_G hT 2).2 (by omega)) hI) (by rw [eQ]; unfold pOr; rfl) hS1)

set_option maxRecDepth 100000 in
set_option maxHeartbeats 4000000 in
theorem ctX7_readValue_3 {G : jG} {sz : Nat} {Sh : jS} {M : jM} {rd : Nat} {S : Nat → Prop} {T : Nat → Nat} {n : Nat} {M0 : jM} {P : List Nat} {q : pS} (hSo : S rd) (hSc : S (rd + 2)) (hI : pI n P q) (hS : cSt S rd Sh T n M0 P M q) : jC G yX7_readValue cX7_readValue 2 (Option.none : Option FieldType) (jrm 36 0 0) sz Sh M [.ref rd, .int (nI 1)] (jT sz Sh (fun r M1 => r = none ∧ cSt S rd Sh T n M0 P M1 (pVal T n (lvE T n 3).1 q))) := by
  refine jC_start (by decide +kernel) (Nat.le_of_ble_eq_true rfl) (fun X C E hN0 => ?_)
  have hs7 := (cSt_lay hS).1.1
  have hn160 : n ≤ 160 := (cSt_lay hS).2.2.1
  have hT := (cSt_lay hS).2.2.2.1
  have hS0 := hS
  obtain ⟨K, a, b, c, d, e, hQ, hB, hG⟩ := hS0
  refine j_aload_n (q := 1) C dX7_readValue_0 rfl rfl rfl ?_
  refine cg_token hQ (q' := 4) C dX7_readValue_1 rfl kw_248 ?_
  refine j_bipush (v := (-7)) (q := 6) C dX7_readValue_4 rfl (by decide) ?_
  refine j_icmp_lt (q := 9) (tgt := 24) C dX7_readValue_6 rfl (by decide) (fun c_6 => ?_) (fun c_6 => ?_)
  · refine j_aload_n (q := 25) C dX7_readValue_24 rfl rfl rfl ?_
    refine cg_token hQ (q' := 28) C dX7_readValue_25 rfl kw_248 ?_
    refine j_bipush (v := (-14)) (q := 30) C dX7_readValue_28 rfl (by decide) ?_
    refine j_icmp_ne (q := 33) (tgt := 58) C dX7_readValue_30 rfl (by decide) (fun c_30 => ?_) (fun c_30 => ?_)
    · refine j_aload_n (q := 59) C dX7_readValue_58 rfl rfl rfl ?_
      refine jVT jc7 (q := 62) C dX7_readValue_59 rfl hs7 mX7_refuse kw_541 kw_542 kw_10 (ctX7_refuse hSo hSc hI hS) rfl rfl (by decide) (Nat.le_of_ble_eq_true rfl) (by decide) (fun r_59 M_59 h_59 => ?_)
      obtain ⟨rfl, hS1⟩ := h_59
      exact j_vret C E dX7_readValue_62 rfl rfl (by
          refine ⟨rfl, rfl, rfl, ?_⟩
          by_cases hq : q.1 = true
          · rw [show pVal T n (lvE T n 3).1 q = pBad q by unfold pVal; rw [if_pos hq, pBad_i hq]]; exact hS1
          · have h1 := (hG (bf hq)).1
            rw [h1] at c_6 c_30
            rw [val_n hT (bf hq) c_6 (fun g => c_30 (by rw [g]; decide))]; exact hS1)
    · have hq : q.1 = false := bf (fun hq => by
        rw [(hB hq).1] at c_30
        exact absurd c_30 (by decide))
      obtain ⟨rfl, rfl, rfl, h3, rfl, hK⟩ := hG hq
      have htk : tk T n q.2.1 = (3, 0) := cT_inj hT (by decide) (Eq.trans c_30 (by decide))
      obtain rfl := h3 (by rw [htk]; decide)
      refine j_iload_n (q := 34) C dX7_readValue_33 rfl rfl rfl ?_
      refine j_iconst (v := nI 4) (q := 35) C dX7_readValue_34 rfl (by decide) ?_
      refine j_icmp_ge (q := 38) (tgt := 58) C dX7_readValue_35 rfl (by decide) (fun c_35 => absurd c_35 (by decide)) (fun c_35 => ?_)
      refine j_aload_n (q := 39) C dX7_readValue_38 rfl rfl rfl ?_
      refine jVT jc7 (q := 42) C dX7_readValue_39 rfl hs7 mX7_advance kw_471 kw_472 kw_3 (ctX7_advance hSo hQ (tt_n (T := T) hI.1).1) rfl rfl (by decide) (Nat.le_of_ble_eq_true rfl) (by decide) (fun r_39 M_39 h_39 => ?_)
      obtain ⟨rfl, hN⟩ := h_39
      have hS1 := cSt_nx hq hN hK
      have hI1 := (pI_nx (T := T) hq (by rw [htk]; decide) hI).1
      refine j_aload_n (q := 43) C dX7_readValue_42 rfl rfl rfl ?_
      refine j_iload_n (q := 44) C dX7_readValue_43 rfl rfl rfl ?_
      refine j_iconst (v := nI 1) (q := 45) C dX7_readValue_44 rfl (by decide) ?_
      first | refine j_iaddN (q := 46) C dX7_readValue_45 rfl ?_ | refine j_iadd (q := 46) C dX7_readValue_45 rfl ?_
      refine jVT jc7 (q := 49) C dX7_readValue_46 rfl hs7 mX7_readOr kw_544 kw_545 kw_11 (ctX7_readOr_2 hSo hSc hI1 hS1) rfl rfl (by decide) (Nat.le_of_ble_eq_true rfl) (by decide) (fun r_46 M_46 h_46 => ?_)
      obtain ⟨rfl, hS2⟩ := h_46
      have hI2 := pI_sub (pOr_G (k := 11) hT (lvE_G hT 2).1 (lvE_G hT 2).2 (by omega)) hI1
      refine j_aload_n (q := 50) C dX7_readValue_49 rfl rfl rfl ?_
      refine j_bipush (v := (-15)) (q := 52) C dX7_readValue_50 rfl (by decide) ?_
      refine jVT jc7 (q := 55) C dX7_readValue_52 rfl hs7 mX7_expect kw_538 kw_539 kw_9 (ctX7_expect hSo hSc hI2 hS2 (t := (3, 1)) (by decide) (by decide) (by decide)) rfl rfl (by decide) (Nat.le_of_ble_eq_true rfl) (by decide) (fun r_52 M_52 h_52 => ?_)
      obtain ⟨rfl, hS3⟩ := h_52
      refine j_goto (tgt := 62) C dX7_readValue_55 (by decide) ?_
      exact j_vret C E dX7_readValue_62 rfl rfl (⟨rfl, rfl, rfl, by rw [show pVal T n (lvE T n 3).1 q = pExp T n (3, 1) (pOr T n (lvE T n 2).1 (lvE T n 2).2 (pNx T n q)) by unfold pVal; rw [if_neg (by rw [hq]; decide), if_pos htk]; rfl]; exact hS3⟩)
  · have hq : q.1 = false := bf (fun hq => c_6 (by rw [(hB hq).1]; decide))
    obtain ⟨rfl, rfl, rfl, h3, rfl, hK⟩ := hG hq
    obtain ⟨k0, hk0, hpv, ht0⟩ := val_c hT hq c_6
    obtain rfl := h3 (by omega)
    have hxn := tk_in (T := T) (n := n) (x := q.2.1) (by omega) hI.1
    have hxt := tt_n (T := T) hI.1
    have hl159 : q.1 = false → (P ++ q.2.2).length ≤ 159 := fun hq => by
      have := hI.2 hq
      rw [List.length_append]; omega
    refine j_aload_n (q := 10) C dX7_readValue_9 rfl rfl rfl ?_
    refine j_aload_n (q := 11) C dX7_readValue_10 rfl rfl rfl ?_
    refine cg_token hQ (q' := 14) C dX7_readValue_11 rfl kw_248 ?_
    refine jVT jc7 (q := 17) C dX7_readValue_14 rfl hs7 mX7_emit kw_553 kw_554 kw_14 (ctX7_emit hSo hSc hI hS hl159 (k0 := k0) hk0) rfl rfl (by decide) (Nat.le_of_ble_eq_true rfl) (by decide) (fun r_14 M_14 h_14 => ?_)
    obtain ⟨rfl, hS1⟩ := h_14
    rw [pEm_f hq] at hS1
    obtain ⟨K1, a1, b1, c1, d1, e1, hQ, -, hG1⟩ := hS1
    obtain ⟨rfl, rfl, rfl, h31, rfl, hK1⟩ := hG1 rfl
    obtain rfl := h31 (show ¬ (tk T n q.2.1).1 = 4 by omega)
    refine j_aload_n (q := 18) C dX7_readValue_17 rfl rfl rfl ?_
    refine jVT jc7 (q := 21) C dX7_readValue_18 rfl hs7 mX7_advance kw_471 kw_472 kw_3 (ctX7_advance hSo hQ hxt.1) rfl rfl (by decide) (Nat.le_of_ble_eq_true rfl) (by decide) (fun r_18 M_18 h_18 => ?_)
    obtain ⟨rfl, hN⟩ := h_18
    have hS2 : cSt S rd Sh T n M0 P M_18 (pNx T n (pEm k0 q)) := by rw [pEm_f hq]; exact cSt_nx (q := (false, q.2.1, q.2.2 ++ [k0])) rfl hN hK1
    refine j_goto (tgt := 62) C dX7_readValue_21 (by decide) ?_
    exact j_vret C E dX7_readValue_62 rfl rfl (⟨rfl, rfl, rfl, by rw [hpv]; exact hS2⟩)

set_option maxRecDepth 100000 in
set_option maxHeartbeats 4000000 in
theorem ctX7_readOne_3 {G : jG} {sz : Nat} {Sh : jS} {M : jM} {rd : Nat} {S : Nat → Prop} {T : Nat → Nat} {n : Nat} {M0 : jM} {P : List Nat} {q : pS} (hSo : S rd) (hSc : S (rd + 2)) (hI : pI n P q) (hS : cSt S rd Sh T n M0 P M q) : jC G yX7_readOne cX7_readOne 4 (Option.none : Option FieldType) (jrm 37 0 0) sz Sh M [.ref rd, .int (nI 1)] (jT sz Sh (fun r M1 => r = none ∧ cSt S rd Sh T n M0 P M1 (pOne T n (lvE T n 3).1 q))) := by
  refine jC_start (by decide +kernel) (Nat.le_of_ble_eq_true rfl) (fun X C E hN0 => ?_)
  have hs7 := (cSt_lay hS).1.1
  have hn160 : n ≤ 160 := (cSt_lay hS).2.2.1
  have hT := (cSt_lay hS).2.2.2.1
  have hS0 := hS
  obtain ⟨K, a, b, c, d, e, hQ, hB, hG⟩ := hS0
  obtain ⟨Q, eQ⟩ : ∃ z, z = pOne T n (lvE T n 3).1 q := ⟨_, rfl⟩
  rw [← eQ] at E
  have loop7 : ∀ (f i : Nat) (q : pS) (M : jM), i + f = 160 → pI n P q → pLp T n oMul (pVal T n (lvE T n 3).1) f q = Q → cSt S rd Sh T n M0 P M q → jJ G X 0 0 sz Sh M 7 [(2, .int (nI i)), (1, .int (nI 1)), (0, .ref rd)] [] := by
    intro f
    induction f with
    | zero =>
      intro i q M hi hI hQe hS
      have hS0 := hS
      obtain ⟨K, a, b, c, d, e, hQ, hB, hG⟩ := hS0
      refine j_iload_n (q := 8) C dX7_readOne_7 rfl rfl rfl ?_
      refine j_sipush (v := nI 160) (q := 11) C dX7_readOne_8 rfl (by decide) ?_
      refine j_icmp_ge (q := 14) (tgt := 57) C dX7_readOne_11 rfl (by decide) (fun c_11 => ?_) (fun c_11 => absurd (nI_le (by omega) (by omega)) c_11)
      exact j_vret C E dX7_readOne_57 rfl rfl (⟨rfl, rfl, rfl, by rw [← hQe]; exact hS⟩)
    | succ f ih =>
      intro i q M hi hI hQe hS
      have hS0 := hS
      obtain ⟨K, a, b, c, d, e, hQ, hB, hG⟩ := hS0
      refine j_iload_n (q := 8) C dX7_readOne_7 rfl rfl rfl ?_
      refine j_sipush (v := nI 160) (q := 11) C dX7_readOne_8 rfl (by decide) ?_
      refine j_icmp_ge (q := 14) (tgt := 57) C dX7_readOne_11 rfl (by decide) (fun c_11 => absurd c_11 (fun h => absurd ((nI_leI (by omega) (by omega)).mp h) (by omega))) (fun c_11 => ?_)
      refine j_aload_n (q := 15) C dX7_readOne_14 rfl rfl rfl ?_
      refine cg_token hQ (q' := 18) C dX7_readOne_15 rfl kw_248 ?_
      refine j_bipush (v := (-19)) (q := 20) C dX7_readOne_18 rfl (by decide) ?_
      refine j_icmp_eq (q := 23) (tgt := 32) C dX7_readOne_20 rfl (by decide) (fun c_20 => ?_) (fun c_20 => ?_)
      · have hq : q.1 = false := bf (fun hq => by
          rw [(hB hq).1] at c_20
          exact absurd c_20 (by decide))
        obtain ⟨rfl, rfl, rfl, h3, rfl, hK⟩ := hG hq
        have htk : tk T n q.2.1 = (3, 5) := cT_inj hT (by decide) (Eq.trans c_20 (by decide))
        obtain rfl := h3 (by rw [htk]; decide)
        have ho : oMul (tk T n q.2.1) = some 2000006 := by rw [htk]; rfl
        obtain ⟨a1, a2, a3, a4⟩ := pI_step (c := 2000006) (pVal_G (k := 16) hT (lvE_G hT 3).1 (by omega)) hq (by rw [htk]; decide) hI
        have hl159 : ((pVal T n (lvE T n 3).1) (pNx T n q)).1 = false → (P ++ ((pVal T n (lvE T n 3).1) (pNx T n q)).2.2).length ≤ 159 := fun hf => by
          have h := a3.2 (by rw [pEm_f hf])
          have h9 := a3.1
          rw [pEm_f hf] at h h9
          have h8 : P.length + (((pVal T n (lvE T n 3).1) (pNx T n q)).2.2 ++ [2000006]).length ≤ ((pVal T n (lvE T n 3).1) (pNx T n q)).2.1 := h
          have h7 : ((pVal T n (lvE T n 3).1) (pNx T n q)).2.1 ≤ n := h9
          simp only [List.length_append, List.length_cons, List.length_nil] at h8
          rw [List.length_append]; omega
        refine j_aload_n (q := 33) C dX7_readOne_32 rfl rfl rfl ?_
        refine cg_token hQ (q' := 36) C dX7_readOne_33 rfl kw_248 ?_
        refine j_istore_n (lv' := [(3, _), (2, _), (1, _), (0, _)]) (q := 37) C dX7_readOne_36 rfl rfl (by decide) rfl ?_
        refine j_aload_n (q := 38) C dX7_readOne_37 rfl rfl rfl ?_
        refine jVT jc7 (q := 41) C dX7_readOne_38 rfl hs7 mX7_advance kw_471 kw_472 kw_3 (ctX7_advance hSo hQ (tt_n (T := T) hI.1).1) rfl rfl (by decide) (Nat.le_of_ble_eq_true rfl) (by decide) (fun r_38 M_38 h_38 => ?_)
        obtain ⟨rfl, hN⟩ := h_38
        have hS1 := cSt_nx hq hN hK
        refine j_aload_n (q := 42) C dX7_readOne_41 rfl rfl rfl ?_
        refine j_iload_n (q := 43) C dX7_readOne_42 rfl rfl rfl ?_
        refine jVT jc7 (q := 46) C dX7_readOne_43 rfl hs7 mX7_readValue kw_562 kw_563 kw_17 (ctX7_readValue_3 hSo hSc a1 hS1) rfl rfl (by decide) (Nat.le_of_ble_eq_true rfl) (by decide) (fun r_43 M_43 h_43 => ?_)
        obtain ⟨rfl, hS2⟩ := h_43
        refine j_aload_n (q := 47) C dX7_readOne_46 rfl rfl rfl ?_
        refine j_iload_n (q := 48) C dX7_readOne_47 rfl rfl rfl ?_
        refine jVT jc7 (q := 51) C dX7_readOne_48 rfl hs7 mX7_emit kw_553 kw_554 kw_14 (ctX7_emit hSo hSc a2 hS2 hl159 (k0 := 2000006) (by rw [htk]; decide)) rfl rfl (by decide) (Nat.le_of_ble_eq_true rfl) (by decide) (fun r_48 M_48 h_48 => ?_)
        obtain ⟨rfl, hS3⟩ := h_48
        first | refine j_iincN (lv' := [(2, _), (3, _), (1, _), (0, _)]) (q := 54) C dX7_readOne_51 rfl rfl (by decide) rfl ?_ | refine j_iinc (lv' := [(2, _), (3, _), (1, _), (0, _)]) (q := 54) C dX7_readOne_51 rfl rfl rfl (by decide) rfl ?_
        refine j_goto (tgt := 7) C dX7_readOne_54 (by decide) ?_
        exact j_fewer (lv' := [(2, .int (nI (i + 1))), (1, .int (nI 1)), (0, .ref rd)]) (by simp) (ih (i + 1) _ M_48 (by omega) a3 (by rw [← hQe, pLp, if_neg (by rw [hq]; decide), ho]) hS3)
      · refine j_aload_n (q := 24) C dX7_readOne_23 rfl rfl rfl ?_
        refine cg_token hQ (q' := 27) C dX7_readOne_24 rfl kw_248 ?_
        refine j_bipush (v := (-20)) (q := 29) C dX7_readOne_27 rfl (by decide) ?_
        refine j_icmp_ne (q := 32) (tgt := 57) C dX7_readOne_29 rfl (by decide) (fun c_29 => ?_) (fun c_29 => ?_)
        · exact j_vret C E dX7_readOne_57 rfl rfl (⟨rfl, rfl, rfl, by
                have e0 : pLp T n oMul (pVal T n (lvE T n 3).1) (f + 1) q = q := by
                  by_cases hb : q.1 = true
                  · exact pLp_bad hb _
                  · have h1 := (hG (bf hb)).1
                    have ho : oMul (tk T n q.2.1) = none := by unfold oMul; rw [if_neg (fun h => c_20 (by rw [h1, h]; decide)), if_neg (fun h => c_29 (by rw [h1, h]; decide))]
                    rw [pLp, if_neg hb, ho]
                rw [← hQe, e0]; exact hS⟩)
        · have hq : q.1 = false := bf (fun hq => by
            rw [(hB hq).1] at c_29
            exact absurd c_29 (by decide))
          obtain ⟨rfl, rfl, rfl, h3, rfl, hK⟩ := hG hq
          have htk : tk T n q.2.1 = (3, 6) := cT_inj hT (by decide) (Eq.trans c_29 (by decide))
          obtain rfl := h3 (by rw [htk]; decide)
          have ho : oMul (tk T n q.2.1) = some 2000007 := by rw [htk]; rfl
          obtain ⟨a1, a2, a3, a4⟩ := pI_step (c := 2000007) (pVal_G (k := 16) hT (lvE_G hT 3).1 (by omega)) hq (by rw [htk]; decide) hI
          have hl159 : ((pVal T n (lvE T n 3).1) (pNx T n q)).1 = false → (P ++ ((pVal T n (lvE T n 3).1) (pNx T n q)).2.2).length ≤ 159 := fun hf => by
            have h := a3.2 (by rw [pEm_f hf])
            have h9 := a3.1
            rw [pEm_f hf] at h h9
            have h8 : P.length + (((pVal T n (lvE T n 3).1) (pNx T n q)).2.2 ++ [2000007]).length ≤ ((pVal T n (lvE T n 3).1) (pNx T n q)).2.1 := h
            have h7 : ((pVal T n (lvE T n 3).1) (pNx T n q)).2.1 ≤ n := h9
            simp only [List.length_append, List.length_cons, List.length_nil] at h8
            rw [List.length_append]; omega
          refine j_aload_n (q := 33) C dX7_readOne_32 rfl rfl rfl ?_
          refine cg_token hQ (q' := 36) C dX7_readOne_33 rfl kw_248 ?_
          refine j_istore_n (lv' := [(3, _), (2, _), (1, _), (0, _)]) (q := 37) C dX7_readOne_36 rfl rfl (by decide) rfl ?_
          refine j_aload_n (q := 38) C dX7_readOne_37 rfl rfl rfl ?_
          refine jVT jc7 (q := 41) C dX7_readOne_38 rfl hs7 mX7_advance kw_471 kw_472 kw_3 (ctX7_advance hSo hQ (tt_n (T := T) hI.1).1) rfl rfl (by decide) (Nat.le_of_ble_eq_true rfl) (by decide) (fun r_38 M_38 h_38 => ?_)
          obtain ⟨rfl, hN⟩ := h_38
          have hS1 := cSt_nx hq hN hK
          refine j_aload_n (q := 42) C dX7_readOne_41 rfl rfl rfl ?_
          refine j_iload_n (q := 43) C dX7_readOne_42 rfl rfl rfl ?_
          refine jVT jc7 (q := 46) C dX7_readOne_43 rfl hs7 mX7_readValue kw_562 kw_563 kw_17 (ctX7_readValue_3 hSo hSc a1 hS1) rfl rfl (by decide) (Nat.le_of_ble_eq_true rfl) (by decide) (fun r_43 M_43 h_43 => ?_)
          obtain ⟨rfl, hS2⟩ := h_43
          refine j_aload_n (q := 47) C dX7_readOne_46 rfl rfl rfl ?_
          refine j_iload_n (q := 48) C dX7_readOne_47 rfl rfl rfl ?_
          refine jVT jc7 (q := 51) C dX7_readOne_48 rfl hs7 mX7_emit kw_553 kw_554 kw_14 (ctX7_emit hSo hSc a2 hS2 hl159 (k0 := 2000007) (by rw [htk]; decide)) rfl rfl (by decide) (Nat.le_of_ble_eq_true rfl) (by decide) (fun r_48 M_48 h_48 => ?_)
          obtain ⟨rfl, hS3⟩ := h_48
          first | refine j_iincN (lv' := [(2, _), (3, _), (1, _), (0, _)]) (q := 54) C dX7_readOne_51 rfl rfl (by decide) rfl ?_ | refine j_iinc (lv' := [(2, _), (3, _), (1, _), (0, _)]) (q := 54) C dX7_readOne_51 rfl rfl rfl (by decide) rfl ?_
          refine j_goto (tgt := 7) C dX7_readOne_54 (by decide) ?_
          exact j_fewer (lv' := [(2, .int (nI (i + 1))), (1, .int (nI 1)), (0, .ref rd)]) (by simp) (ih (i + 1) _ M_48 (by omega) a3 (by rw [← hQe, pLp, if_neg (by rw [hq]; decide), ho]) hS3)
  refine j_aload_n (q := 1) C dX7_readOne_0 rfl rfl rfl ?_
  refine j_iload_n (q := 2) C dX7_readOne_1 rfl rfl rfl ?_
  refine jVT jc7 (q := 5) C dX7_readOne_2 rfl hs7 mX7_readValue kw_562 kw_563 kw_17 (ctX7_readValue_3 hSo hSc hI hS) rfl rfl (by decide) (Nat.le_of_ble_eq_true rfl) (by decide) (fun r_2 M_2 h_2 => ?_)
  obtain ⟨rfl, hS1⟩ := h_2
  refine j_iconst (v := nI 0) (q := 6) C dX7_readOne_5 rfl (by decide) ?_
  refine j_istore_n (lv' := [(2, _), (0, _), (1, _)]) (q := 7) C dX7_readOne_6 rfl rfl (by decide) rfl ?_
  exact j_fewer (lv' := [(2, .int (nI 0)), (1, .int (nI 1)), (0, .ref rd)]) (by simp) (loop7 160 0 _ M_2 rfl (pI_sub (pVal_G (k := 16) hT (lvE_G hT 3).1 (by omega)) hI) (by rw [eQ]; unfold pOne; rfl) hS1)

set_option maxRecDepth 100000 in
set_option maxHeartbeats 4000000 in
theorem ctX7_readSum_3 {G : jG} {sz : Nat} {Sh : jS} {M : jM} {rd : Nat} {S : Nat → Prop} {T : Nat → Nat} {n : Nat} {M0 : jM} {P : List Nat} {q : pS} (hSo : S rd) (hSc : S (rd + 2)) (hI : pI n P q) (hS : cSt S rd Sh T n M0 P M q) : jC G yX7_readSum cX7_readSum 4 (Option.none : Option FieldType) (jrm 38 0 0) sz Sh M [.ref rd, .int (nI 1)] (jT sz Sh (fun r M1 => r = none ∧ cSt S rd Sh T n M0 P M1 (pSum T n (lvE T n 3).1 q))) := by
  refine jC_start (by decide +kernel) (Nat.le_of_ble_eq_true rfl) (fun X C E hN0 => ?_)
  have hs7 := (cSt_lay hS).1.1
  have hn160 : n ≤ 160 := (cSt_lay hS).2.2.1
  have hT := (cSt_lay hS).2.2.2.1
  have hS0 := hS
  obtain ⟨K, a, b, c, d, e, hQ, hB, hG⟩ := hS0
  obtain ⟨Q, eQ⟩ : ∃ z, z = pSum T n (lvE T n 3).1 q := ⟨_, rfl⟩
  rw [← eQ] at E
  have loop7 : ∀ (f i : Nat) (q : pS) (M : jM), i + f = 160 → pI n P q → pLp T n oAdd (pOne T n (lvE T n 3).1) f q = Q → cSt S rd Sh T n M0 P M q → jJ G X 0 0 sz Sh M 7 [(2, .int (nI i)), (1, .int (nI 1)), (0, .ref rd)] [] := by
    intro f
    induction f with
    | zero =>
      intro i q M hi hI hQe hS
      have hS0 := hS
      obtain ⟨K, a, b, c, d, e, hQ, hB, hG⟩ := hS0
      refine j_iload_n (q := 8) C dX7_readSum_7 rfl rfl rfl ?_
      refine j_sipush (v := nI 160) (q := 11) C dX7_readSum_8 rfl (by decide) ?_
      refine j_icmp_ge (q := 14) (tgt := 57) C dX7_readSum_11 rfl (by decide) (fun c_11 => ?_) (fun c_11 => absurd (nI_le (by omega) (by omega)) c_11)
      exact j_vret C E dX7_readSum_57 rfl rfl (⟨rfl, rfl, rfl, by rw [← hQe]; exact hS⟩)
    | succ f ih =>
      intro i q M hi hI hQe hS
      have hS0 := hS
      obtain ⟨K, a, b, c, d, e, hQ, hB, hG⟩ := hS0
      refine j_iload_n (q := 8) C dX7_readSum_7 rfl rfl rfl ?_
      refine j_sipush (v := nI 160) (q := 11) C dX7_readSum_8 rfl (by decide) ?_
      refine j_icmp_ge (q := 14) (tgt := 57) C dX7_readSum_11 rfl (by decide) (fun c_11 => absurd c_11 (fun h => absurd ((nI_leI (by omega) (by omega)).mp h) (by omega))) (fun c_11 => ?_)
      refine j_aload_n (q := 15) C dX7_readSum_14 rfl rfl rfl ?_
      refine cg_token hQ (q' := 18) C dX7_readSum_15 rfl kw_248 ?_
      refine j_bipush (v := (-17)) (q := 20) C dX7_readSum_18 rfl (by decide) ?_
      refine j_icmp_eq (q := 23) (tgt := 32) C dX7_readSum_20 rfl (by decide) (fun c_20 => ?_) (fun c_20 => ?_)
      · have hq : q.1 = false := bf (fun hq => by
          rw [(hB hq).1] at c_20
          exact absurd c_20 (by decide))
        obtain ⟨rfl, rfl, rfl, h3, rfl, hK⟩ := hG hq
        have htk : tk T n q.2.1 = (3, 3) := cT_inj hT (by decide) (Eq.trans c_20 (by decide))
        obtain rfl := h3 (by rw [htk]; decide)
        have ho : oAdd (tk T n q.2.1) = some 2000004 := by rw [htk]; rfl
        obtain ⟨a1, a2, a3, a4⟩ := pI_step (c := 2000004) (pOne_G (k := 16) hT (lvE_G hT 3).1 (by omega)) hq (by rw [htk]; decide) hI
        have hl159 : ((pOne T n (lvE T n 3).1) (pNx T n q)).1 = false → (P ++ ((pOne T n (lvE T n 3).1) (pNx T n q)).2.2).length ≤ 159 := fun hf => by
          have h := a3.2 (by rw [pEm_f hf])
          have h9 := a3.1
          rw [pEm_f hf] at h h9
          have h8 : P.length + (((pOne T n (lvE T n 3).1) (pNx T n q)).2.2 ++ [2000004]).length ≤ ((pOne T n (lvE T n 3).1) (pNx T n q)).2.1 := h
          have h7 : ((pOne T n (lvE T n 3).1) (pNx T n q)).2.1 ≤ n := h9
          simp only [List.length_append, List.length_cons, List.length_nil] at h8
          rw [List.length_append]; omega
        refine j_aload_n (q := 33) C dX7_readSum_32 rfl rfl rfl ?_
        refine cg_token hQ (q' := 36) C dX7_readSum_33 rfl kw_248 ?_
        refine j_istore_n (lv' := [(3, _), (2, _), (1, _), (0, _)]) (q := 37) C dX7_readSum_36 rfl rfl (by decide) rfl ?_
        refine j_aload_n (q := 38) C dX7_readSum_37 rfl rfl rfl ?_
        refine jVT jc7 (q := 41) C dX7_readSum_38 rfl hs7 mX7_advance kw_471 kw_472 kw_3 (ctX7_advance hSo hQ (tt_n (T := T) hI.1).1) rfl rfl (by decide) (Nat.le_of_ble_eq_true rfl) (by decide) (fun r_38 M_38 h_38 => ?_)
        obtain ⟨rfl, hN⟩ := h_38
        have hS1 := cSt_nx hq hN hK
        refine j_aload_n (q := 42) C dX7_readSum_41 rfl rfl rfl ?_
        refine j_iload_n (q := 43) C dX7_readSum_42 rfl rfl rfl ?_
        refine jVT jc7 (q := 46) C dX7_readSum_43 rfl hs7 mX7_readOne kw_559 kw_560 kw_16 (ctX7_readOne_3 hSo hSc a1 hS1) rfl rfl (by decide) (Nat.le_of_ble_eq_true rfl) (by decide) (fun r_43 M_43 h_43 => ?_)
        obtain ⟨rfl, hS2⟩ := h_43
        refine j_aload_n (q := 47) C dX7_readSum_46 rfl rfl rfl ?_
        refine j_iload_n (q := 48) C dX7_readSum_47 rfl rfl rfl ?_
        refine jVT jc7 (q := 51) C dX7_readSum_48 rfl hs7 mX7_emit kw_553 kw_554 kw_14 (ctX7_emit hSo hSc a2 hS2 hl159 (k0 := 2000004) (by rw [htk]; decide)) rfl rfl (by decide) (Nat.le_of_ble_eq_true rfl) (by decide) (fun r_48 M_48 h_48 => ?_)
        obtain ⟨rfl, hS3⟩ := h_48
        first | refine j_iincN (lv' := [(2, _), (3, _), (1, _), (0, _)]) (q := 54) C dX7_readSum_51 rfl rfl (by decide) rfl ?_ | refine j_iinc (lv' := [(2, _), (3, _), (1, _), (0, _)]) (q := 54) C dX7_readSum_51 rfl rfl rfl (by decide) rfl ?_
        refine j_goto (tgt := 7) C dX7_readSum_54 (by decide) ?_
        exact j_fewer (lv' := [(2, .int (nI (i + 1))), (1, .int (nI 1)), (0, .ref rd)]) (by simp) (ih (i + 1) _ M_48 (by omega) a3 (by rw [← hQe, pLp, if_neg (by rw [hq]; decide), ho]) hS3)
      · refine j_aload_n (q := 24) C dX7_readSum_23 rfl rfl rfl ?_
        refine cg_token hQ (q' := 27) C dX7_readSum_24 rfl kw_248 ?_
        refine j_bipush (v := (-18)) (q := 29) C dX7_readSum_27 rfl (by decide) ?_
        refine j_icmp_ne (q := 32) (tgt := 57) C dX7_readSum_29 rfl (by decide) (fun c_29 => ?_) (fun c_29 => ?_)
        · exact j_vret C E dX7_readSum_57 rfl rfl (⟨rfl, rfl, rfl, by
                have e0 : pLp T n oAdd (pOne T n (lvE T n 3).1) (f + 1) q = q := by
                  by_cases hb : q.1 = true
                  · exact pLp_bad hb _
                  · have h1 := (hG (bf hb)).1
                    have ho : oAdd (tk T n q.2.1) = none := by unfold oAdd; rw [if_neg (fun h => c_20 (by rw [h1, h]; decide)), if_neg (fun h => c_29 (by rw [h1, h]; decide))]
                    rw [pLp, if_neg hb, ho]
                rw [← hQe, e0]; exact hS⟩)
        · have hq : q.1 = false := bf (fun hq => by
            rw [(hB hq).1] at c_29
            exact absurd c_29 (by decide))
          obtain ⟨rfl, rfl, rfl, h3, rfl, hK⟩ := hG hq
          have htk : tk T n q.2.1 = (3, 4) := cT_inj hT (by decide) (Eq.trans c_29 (by decide))
          obtain rfl := h3 (by rw [htk]; decide)
          have ho : oAdd (tk T n q.2.1) = some 2000005 := by rw [htk]; rfl
          obtain ⟨a1, a2, a3, a4⟩ := pI_step (c := 2000005) (pOne_G (k := 16) hT (lvE_G hT 3).1 (by omega)) hq (by rw [htk]; decide) hI
          have hl159 : ((pOne T n (lvE T n 3).1) (pNx T n q)).1 = false → (P ++ ((pOne T n (lvE T n 3).1) (pNx T n q)).2.2).length ≤ 159 := fun hf => by
            have h := a3.2 (by rw [pEm_f hf])
            have h9 := a3.1
            rw [pEm_f hf] at h h9
            have h8 : P.length + (((pOne T n (lvE T n 3).1) (pNx T n q)).2.2 ++ [2000005]).length ≤ ((pOne T n (lvE T n 3).1) (pNx T n q)).2.1 := h
            have h7 : ((pOne T n (lvE T n 3).1) (pNx T n q)).2.1 ≤ n := h9
            simp only [List.length_append, List.length_cons, List.length_nil] at h8
            rw [List.length_append]; omega
          refine j_aload_n (q := 33) C dX7_readSum_32 rfl rfl rfl ?_
          refine cg_token hQ (q' := 36) C dX7_readSum_33 rfl kw_248 ?_
          refine j_istore_n (lv' := [(3, _), (2, _), (1, _), (0, _)]) (q := 37) C dX7_readSum_36 rfl rfl (by decide) rfl ?_
          refine j_aload_n (q := 38) C dX7_readSum_37 rfl rfl rfl ?_
          refine jVT jc7 (q := 41) C dX7_readSum_38 rfl hs7 mX7_advance kw_471 kw_472 kw_3 (ctX7_advance hSo hQ (tt_n (T := T) hI.1).1) rfl rfl (by decide) (Nat.le_of_ble_eq_true rfl) (by decide) (fun r_38 M_38 h_38 => ?_)
          obtain ⟨rfl, hN⟩ := h_38
          have hS1 := cSt_nx hq hN hK
          refine j_aload_n (q := 42) C dX7_readSum_41 rfl rfl rfl ?_
          refine j_iload_n (q := 43) C dX7_readSum_42 rfl rfl rfl ?_
          refine jVT jc7 (q := 46) C dX7_readSum_43 rfl hs7 mX7_readOne kw_559 kw_560 kw_16 (ctX7_readOne_3 hSo hSc a1 hS1) rfl rfl (by decide) (Nat.le_of_ble_eq_true rfl) (by decide) (fun r_43 M_43 h_43 => ?_)
          obtain ⟨rfl, hS2⟩ := h_43
          refine j_aload_n (q := 47) C dX7_readSum_46 rfl rfl rfl ?_
          refine j_iload_n (q := 48) C dX7_readSum_47 rfl rfl rfl ?_
          refine jVT jc7 (q := 51) C dX7_readSum_48 rfl hs7 mX7_emit kw_553 kw_554 kw_14 (ctX7_emit hSo hSc a2 hS2 hl159 (k0 := 2000005) (by rw [htk]; decide)) rfl rfl (by decide) (Nat.le_of_ble_eq_true rfl) (by decide) (fun r_48 M_48 h_48 => ?_)
          obtain ⟨rfl, hS3⟩ := h_48
          first | refine j_iincN (lv' := [(2, _), (3, _), (1, _), (0, _)]) (q := 54) C dX7_readSum_51 rfl rfl (by decide) rfl ?_ | refine j_iinc (lv' := [(2, _), (3, _), (1, _), (0, _)]) (q := 54) C dX7_readSum_51 rfl rfl rfl (by decide) rfl ?_
          refine j_goto (tgt := 7) C dX7_readSum_54 (by decide) ?_
          exact j_fewer (lv' := [(2, .int (nI (i + 1))), (1, .int (nI 1)), (0, .ref rd)]) (by simp) (ih (i + 1) _ M_48 (by omega) a3 (by rw [← hQe, pLp, if_neg (by rw [hq]; decide), ho]) hS3)
  refine j_aload_n (q := 1) C dX7_readSum_0 rfl rfl rfl ?_
  refine j_iload_n (q := 2) C dX7_readSum_1 rfl rfl rfl ?_
  refine jVT jc7 (q := 5) C dX7_readSum_2 rfl hs7 mX7_readOne kw_559 kw_560 kw_16 (ctX7_readOne_3 hSo hSc hI hS) rfl rfl (by decide) (Nat.le_of_ble_eq_true rfl) (by decide) (fun r_2 M_2 h_2 => ?_)
  obtain ⟨rfl, hS1⟩ := h_2
  refine j_iconst (v := nI 0) (q := 6) C dX7_readSum_5 rfl (by decide) ?_
  refine j_istore_n (lv' := [(2, _), (0, _), (1, _)]) (q := 7) C dX7_readSum_6 rfl rfl (by decide) rfl ?_
  exact j_fewer (lv' := [(2, .int (nI 0)), (1, .int (nI 1)), (0, .ref rd)]) (by simp) (loop7 160 0 _ M_2 rfl (pI_sub (pOne_G (k := 16) hT (lvE_G hT 3).1 (by omega)) hI) (by rw [eQ]; unfold pSum; rfl) hS1)

set_option maxRecDepth 100000 in
set_option maxHeartbeats 4000000 in
theorem ctX7_readNot_3 {G : jG} {sz : Nat} {Sh : jS} {M : jM} {rd : Nat} {S : Nat → Prop} {T : Nat → Nat} {n : Nat} {M0 : jM} {P : List Nat} {q : pS} (hSo : S rd) (hSc : S (rd + 2)) (hI : pI n P q) (hS : cSt S rd Sh T n M0 P M q) : jC G yX7_readNot cX7_readNot 3 (Option.none : Option FieldType) (jrm 39 0 0) sz Sh M [.ref rd, .int (nI 1)] (jT sz Sh (fun r M1 => r = none ∧ cSt S rd Sh T n M0 P M1 (pNot T n (lvE T n 3).1 (lvE T n 3).2 q))) := by
  refine jC_start (by decide +kernel) (Nat.le_of_ble_eq_true rfl) (fun X C E hN0 => ?_)
  have hs7 := (cSt_lay hS).1.1
  have hn160 : n ≤ 160 := (cSt_lay hS).2.2.1
  have hT := (cSt_lay hS).2.2.2.1
  have hS0 := hS
  obtain ⟨K, a, b, c, d, e, hQ, hB, hG⟩ := hS0
  refine j_aload_n (q := 1) C dX7_readNot_0 rfl rfl rfl ?_
  refine cg_token hQ (q' := 4) C dX7_readNot_1 rfl kw_248 ?_
  refine j_bipush (v := (-13)) (q := 6) C dX7_readNot_4 rfl (by decide) ?_
  refine j_icmp_ne (q := 9) (tgt := 37) C dX7_readNot_6 rfl (by decide) (fun c_6 => ?_) (fun c_6 => ?_)
  · refine j_aload_n (q := 38) C dX7_readNot_37 rfl rfl rfl ?_
    refine j_iload_n (q := 39) C dX7_readNot_38 rfl rfl rfl ?_
    refine jVT jc7 (q := 42) C dX7_readNot_39 rfl hs7 mX7_readSum kw_556 kw_557 kw_15 (ctX7_readSum_3 hSo hSc hI hS) rfl rfl (by decide) (Nat.le_of_ble_eq_true rfl) (by decide) (fun r_39 M_39 h_39 => ?_)
    obtain ⟨rfl, hS3⟩ := h_39
    have hI3 := pI_sub (pSum_G (k := 16) hT (lvE_G hT 3).1 (by omega)) hI
    have eN : pNot T n (lvE T n 3).1 (lvE T n 3).2 q = pCmp T n (lvE T n 3).1 (pSum T n (lvE T n 3).1 q) := by
      unfold pNot
      by_cases hb : q.1 = true
      · rw [if_pos hb, ((pSum_G (k := 16) hT (lvE_G hT 3).1 (by omega)) q hI.1).1 hb]; unfold pCmp; rw [if_pos hb]
      · have h1 := (hG (bf hb)).1
        rw [if_neg hb, if_neg (fun h => c_6 (by rw [h1, h]; decide))]
    obtain ⟨q3, e3⟩ : ∃ z, z = pSum T n (lvE T n 3).1 q := ⟨_, rfl⟩
    rw [← e3] at hS3 hI3 eN
    have hS0 := hS3
    obtain ⟨K3, a3, b3, c3, d3, e3', hQ, hB3, hG3⟩ := hS0
    refine j_aload_n (q := 43) C dX7_readNot_42 rfl rfl rfl ?_
    refine cg_token hQ (q' := 46) C dX7_readNot_43 rfl kw_248 ?_
    refine j_bipush (v := (-21)) (q := 48) C dX7_readNot_46 rfl (by decide) ?_
    refine j_icmp_eq (q := 51) (tgt := 60) C dX7_readNot_48 rfl (by decide) (fun c_48 => ?_) (fun c_48 => ?_)
    · have hq3 : q3.1 = false := bf (fun hq => by
        rw [(hB3 hq).1] at c_48
        exact absurd c_48 (by decide))
      obtain ⟨rfl, rfl, rfl, h33, rfl, hK3⟩ := hG3 hq3
      have htk : tk T n q3.2.1 = (3, 7) := cT_inj hT (by decide) (Eq.trans c_48 (by decide))
      obtain rfl := h33 (by rw [htk]; decide)
      have ho : oCmp (tk T n q3.2.1) = some 2000002 := by rw [htk]; rfl
      obtain ⟨a1, a2, a3, a4⟩ := pI_step (c := 2000002) (pSum_G (k := 16) hT (lvE_G hT 3).1 (by omega)) hq3 (by rw [htk]; decide) hI3
      have hl159 : (pSum T n (lvE T n 3).1 (pNx T n q3)).1 = false → (P ++ (pSum T n (lvE T n 3).1 (pNx T n q3)).2.2).length ≤ 159 := fun hf => by
        have h := a3.2 (by rw [pEm_f hf])
        have h9 := a3.1
        rw [pEm_f hf] at h h9
        have h8 : P.length + ((pSum T n (lvE T n 3).1 (pNx T n q3)).2.2 ++ [2000002]).length ≤ (pSum T n (lvE T n 3).1 (pNx T n q3)).2.1 := h
        have h7 : (pSum T n (lvE T n 3).1 (pNx T n q3)).2.1 ≤ n := h9
        simp only [List.length_append, List.length_cons, List.length_nil] at h8
        rw [List.length_append]; omega
      refine j_aload_n (q := 61) C dX7_readNot_60 rfl rfl rfl ?_
      refine cg_token hQ (q' := 64) C dX7_readNot_61 rfl kw_248 ?_
      refine j_istore_n (lv' := [(2, _), (0, _), (1, _)]) (q := 65) C dX7_readNot_64 rfl rfl (by decide) rfl ?_
      refine j_aload_n (q := 66) C dX7_readNot_65 rfl rfl rfl ?_
      refine jVT jc7 (q := 69) C dX7_readNot_66 rfl hs7 mX7_advance kw_471 kw_472 kw_3 (ctX7_advance hSo hQ (tt_n (T := T) hI3.1).1) rfl rfl (by decide) (Nat.le_of_ble_eq_true rfl) (by decide) (fun r_66 M_66 h_66 => ?_)
      obtain ⟨rfl, hN⟩ := h_66
      have hS4 := cSt_nx hq3 hN hK3
      refine j_aload_n (q := 70) C dX7_readNot_69 rfl rfl rfl ?_
      refine j_iload_n (q := 71) C dX7_readNot_70 rfl rfl rfl ?_
      refine jVT jc7 (q := 74) C dX7_readNot_71 rfl hs7 mX7_readSum kw_556 kw_557 kw_15 (ctX7_readSum_3 hSo hSc a1 hS4) rfl rfl (by decide) (Nat.le_of_ble_eq_true rfl) (by decide) (fun r_71 M_71 h_71 => ?_)
      obtain ⟨rfl, hS5⟩ := h_71
      refine j_aload_n (q := 75) C dX7_readNot_74 rfl rfl rfl ?_
      refine j_iload_n (q := 76) C dX7_readNot_75 rfl rfl rfl ?_
      refine jVT jc7 (q := 79) C dX7_readNot_76 rfl hs7 mX7_emit kw_553 kw_554 kw_14 (ctX7_emit hSo hSc a2 hS5 hl159 (k0 := 2000002) (by rw [htk]; decide)) rfl rfl (by decide) (Nat.le_of_ble_eq_true rfl) (by decide) (fun r_76 M_76 h_76 => ?_)
      obtain ⟨rfl, hS6⟩ := h_76
      exact j_vret C E dX7_readNot_79 rfl rfl (⟨rfl, rfl, rfl, by rw [eN]; unfold pCmp; rw [if_neg (by rw [hq3]; decide), ho]; exact hS6⟩)
    · refine j_aload_n (q := 52) C dX7_readNot_51 rfl rfl rfl ?_
      refine cg_token hQ (q' := 55) C dX7_readNot_52 rfl kw_248 ?_
      refine j_bipush (v := (-22)) (q := 57) C dX7_readNot_55 rfl (by decide) ?_
      refine j_icmp_ne (q := 60) (tgt := 79) C dX7_readNot_57 rfl (by decide) (fun c_57 => ?_) (fun c_57 => ?_)
      · exact j_vret C E dX7_readNot_79 rfl rfl (⟨rfl, rfl, rfl, by
            rw [eN]; unfold pCmp
            by_cases hb : q3.1 = true
            · rw [if_pos hb]; exact hS3
            · have h1 := (hG3 (bf hb)).1
              have ho : oCmp (tk T n q3.2.1) = none := by unfold oCmp; rw [if_neg (fun h => c_48 (by rw [h1, h]; decide)), if_neg (fun h => c_57 (by rw [h1, h]; decide))]
              rw [if_neg hb, ho]; exact hS3⟩)
      · have hq3 : q3.1 = false := bf (fun hq => by
          rw [(hB3 hq).1] at c_57
          exact absurd c_57 (by decide))
        obtain ⟨rfl, rfl, rfl, h33, rfl, hK3⟩ := hG3 hq3
        have htk : tk T n q3.2.1 = (3, 8) := cT_inj hT (by decide) (Eq.trans c_57 (by decide))
        obtain rfl := h33 (by rw [htk]; decide)
        have ho : oCmp (tk T n q3.2.1) = some 2000003 := by rw [htk]; rfl
        obtain ⟨a1, a2, a3, a4⟩ := pI_step (c := 2000003) (pSum_G (k := 16) hT (lvE_G hT 3).1 (by omega)) hq3 (by rw [htk]; decide) hI3
        have hl159 : (pSum T n (lvE T n 3).1 (pNx T n q3)).1 = false → (P ++ (pSum T n (lvE T n 3).1 (pNx T n q3)).2.2).length ≤ 159 := fun hf => by
          have h := a3.2 (by rw [pEm_f hf])
          have h9 := a3.1
          rw [pEm_f hf] at h h9
          have h8 : P.length + ((pSum T n (lvE T n 3).1 (pNx T n q3)).2.2 ++ [2000003]).length ≤ (pSum T n (lvE T n 3).1 (pNx T n q3)).2.1 := h
          have h7 : (pSum T n (lvE T n 3).1 (pNx T n q3)).2.1 ≤ n := h9
          simp only [List.length_append, List.length_cons, List.length_nil] at h8
          rw [List.length_append]; omega
        refine j_aload_n (q := 61) C dX7_readNot_60 rfl rfl rfl ?_
        refine cg_token hQ (q' := 64) C dX7_readNot_61 rfl kw_248 ?_
        refine j_istore_n (lv' := [(2, _), (0, _), (1, _)]) (q := 65) C dX7_readNot_64 rfl rfl (by decide) rfl ?_
        refine j_aload_n (q := 66) C dX7_readNot_65 rfl rfl rfl ?_
        refine jVT jc7 (q := 69) C dX7_readNot_66 rfl hs7 mX7_advance kw_471 kw_472 kw_3 (ctX7_advance hSo hQ (tt_n (T := T) hI3.1).1) rfl rfl (by decide) (Nat.le_of_ble_eq_true rfl) (by decide) (fun r_66 M_66 h_66 => ?_)
        obtain ⟨rfl, hN⟩ := h_66
        have hS4 := cSt_nx hq3 hN hK3
        refine j_aload_n (q := 70) C dX7_readNot_69 rfl rfl rfl ?_
        refine j_iload_n (q := 71) C dX7_readNot_70 rfl rfl rfl ?_
        refine jVT jc7 (q := 74) C dX7_readNot_71 rfl hs7 mX7_readSum kw_556 kw_557 kw_15 (ctX7_readSum_3 hSo hSc a1 hS4) rfl rfl (by decide) (Nat.le_of_ble_eq_true rfl) (by decide) (fun r_71 M_71 h_71 => ?_)
        obtain ⟨rfl, hS5⟩ := h_71
        refine j_aload_n (q := 75) C dX7_readNot_74 rfl rfl rfl ?_
        refine j_iload_n (q := 76) C dX7_readNot_75 rfl rfl rfl ?_
        refine jVT jc7 (q := 79) C dX7_readNot_76 rfl hs7 mX7_emit kw_553 kw_554 kw_14 (ctX7_emit hSo hSc a2 hS5 hl159 (k0 := 2000003) (by rw [htk]; decide)) rfl rfl (by decide) (Nat.le_of_ble_eq_true rfl) (by decide) (fun r_76 M_76 h_76 => ?_)
        obtain ⟨rfl, hS6⟩ := h_76
        exact j_vret C E dX7_readNot_79 rfl rfl (⟨rfl, rfl, rfl, by rw [eN]; unfold pCmp; rw [if_neg (by rw [hq3]; decide), ho]; exact hS6⟩)
  · have hq : q.1 = false := bf (fun hq => by
      rw [(hB hq).1] at c_6
      exact absurd c_6 (by decide))
    obtain ⟨rfl, rfl, rfl, h3, rfl, hK⟩ := hG hq
    have htk : tk T n q.2.1 = (1, 12) := cT_inj hT (by decide) (Eq.trans c_6 (by decide))
    obtain rfl := h3 (by rw [htk]; decide)
    refine j_iload_n (q := 10) C dX7_readNot_9 rfl rfl rfl ?_
    refine j_iconst (v := nI 4) (q := 11) C dX7_readNot_10 rfl (by decide) ?_
    refine j_icmp_lt (q := 14) (tgt := 19) C dX7_readNot_11 rfl (by decide) (fun c_11 => ?_) (fun c_11 => absurd (by decide) c_11)
    refine j_aload_n (q := 20) C dX7_readNot_19 rfl rfl rfl ?_
    refine jVT jc7 (q := 23) C dX7_readNot_20 rfl hs7 mX7_advance kw_471 kw_472 kw_3 (ctX7_advance hSo hQ (tt_n (T := T) hI.1).1) rfl rfl (by decide) (Nat.le_of_ble_eq_true rfl) (by decide) (fun r_20 M_20 h_20 => ?_)
    obtain ⟨rfl, hN⟩ := h_20
    have hS1 := cSt_nx hq hN hK
    obtain ⟨a1, a2, a3, a4⟩ := pI_step (c := 2000008) (pNot_G (k := 11) hT (lvE_G hT 2).1 (lvE_G hT 2).2 (by omega)) hq (by rw [htk]; decide) hI
    have hl159 : ((pNot T n (lvE T n 2).1 (lvE T n 2).2) (pNx T n q)).1 = false → (P ++ ((pNot T n (lvE T n 2).1 (lvE T n 2).2) (pNx T n q)).2.2).length ≤ 159 := fun hf => by
      have h := a3.2 (by rw [pEm_f hf])
      have h9 := a3.1
      rw [pEm_f hf] at h h9
      have h8 : P.length + (((pNot T n (lvE T n 2).1 (lvE T n 2).2) (pNx T n q)).2.2 ++ [2000008]).length ≤ ((pNot T n (lvE T n 2).1 (lvE T n 2).2) (pNx T n q)).2.1 := h
      have h7 : ((pNot T n (lvE T n 2).1 (lvE T n 2).2) (pNx T n q)).2.1 ≤ n := h9
      simp only [List.length_append, List.length_cons, List.length_nil] at h8
      rw [List.length_append]; omega
    refine j_aload_n (q := 24) C dX7_readNot_23 rfl rfl rfl ?_
    refine j_iload_n (q := 25) C dX7_readNot_24 rfl rfl rfl ?_
    refine j_iconst (v := nI 1) (q := 26) C dX7_readNot_25 rfl (by decide) ?_
    first | refine j_iaddN (q := 27) C dX7_readNot_26 rfl ?_ | refine j_iadd (q := 27) C dX7_readNot_26 rfl ?_
    refine jVT jc7 (q := 30) C dX7_readNot_27 rfl hs7 mX7_readNot kw_550 kw_551 kw_13 (ctX7_readNot_2 hSo hSc a1 hS1) rfl rfl (by decide) (Nat.le_of_ble_eq_true rfl) (by decide) (fun r_27 M_27 h_27 => ?_)
    obtain ⟨rfl, hS2⟩ := h_27
    refine j_aload_n (q := 31) C dX7_readNot_30 rfl rfl rfl ?_
    refine j_bipush (v := (-13)) (q := 33) C dX7_readNot_31 rfl (by decide) ?_
    refine jVT jc7 (q := 36) C dX7_readNot_33 rfl hs7 mX7_emit kw_553 kw_554 kw_14 (ctX7_emit hSo hSc a2 hS2 hl159 (k0 := 2000008) (by decide)) rfl rfl (by decide) (Nat.le_of_ble_eq_true rfl) (by decide) (fun r_33 M_33 h_33 => ?_)
    obtain ⟨rfl, hS3⟩ := h_33
    exact j_vret C E dX7_readNot_36 rfl rfl (⟨rfl, rfl, rfl, by rw [show pNot T n (lvE T n 3).1 (lvE T n 3).2 q = pEm 2000008 (pNot T n (lvE T n 2).1 (lvE T n 2).2 (pNx T n q)) by unfold pNot; rw [if_neg (by rw [hq]; decide), if_pos htk]; rfl]; exact hS3⟩)

set_option maxRecDepth 100000 in
set_option maxHeartbeats 4000000 in
theorem ctX7_readAnd_3 {G : jG} {sz : Nat} {Sh : jS} {M : jM} {rd : Nat} {S : Nat → Prop} {T : Nat → Nat} {n : Nat} {M0 : jM} {P : List Nat} {q : pS} (hSo : S rd) (hSc : S (rd + 2)) (hI : pI n P q) (hS : cSt S rd Sh T n M0 P M q) : jC G yX7_readAnd cX7_readAnd 3 (Option.none : Option FieldType) (jrm 40 0 0) sz Sh M [.ref rd, .int (nI 1)] (jT sz Sh (fun r M1 => r = none ∧ cSt S rd Sh T n M0 P M1 (pAnd T n (lvE T n 3).1 (lvE T n 3).2 q))) := by
  refine jC_start (by decide +kernel) (Nat.le_of_ble_eq_true rfl) (fun X C E hN0 => ?_)
  have hs7 := (cSt_lay hS).1.1
  have hn160 : n ≤ 160 := (cSt_lay hS).2.2.1
  have hT := (cSt_lay hS).2.2.2.1
  have hS0 := hS
  obtain ⟨K, a, b, c, d, e, hQ, hB, hG⟩ := hS0
  obtain ⟨Q, eQ⟩ : ∃ z, z = pAnd T n (lvE T n 3).1 (lvE T n 3).2 q := ⟨_, rfl⟩
  rw [← eQ] at E
  have loop7 : ∀ (f i : Nat) (q : pS) (M : jM), i + f = 160 → pI n P q → pLp T n oAnd (pNot T n (lvE T n 3).1 (lvE T n 3).2) f q = Q → cSt S rd Sh T n M0 P M q → jJ G X 0 0 sz Sh M 7 [(2, .int (nI i)), (1, .int (nI 1)), (0, .ref rd)] [] := by
    intro f
    induction f with
    | zero =>
      intro i q M hi hI hQe hS
      have hS0 := hS
      obtain ⟨K, a, b, c, d, e, hQ, hB, hG⟩ := hS0
      refine j_iload_n (q := 8) C dX7_readAnd_7 rfl rfl rfl ?_
      refine j_sipush (v := nI 160) (q := 11) C dX7_readAnd_8 rfl (by decide) ?_
      refine j_icmp_ge (q := 14) (tgt := 44) C dX7_readAnd_11 rfl (by decide) (fun c_11 => ?_) (fun c_11 => absurd (nI_le (by omega) (by omega)) c_11)
      exact j_vret C E dX7_readAnd_44 rfl rfl (⟨rfl, rfl, rfl, by rw [← hQe]; exact hS⟩)
    | succ f ih =>
      intro i q M hi hI hQe hS
      have hS0 := hS
      obtain ⟨K, a, b, c, d, e, hQ, hB, hG⟩ := hS0
      refine j_iload_n (q := 8) C dX7_readAnd_7 rfl rfl rfl ?_
      refine j_sipush (v := nI 160) (q := 11) C dX7_readAnd_8 rfl (by decide) ?_
      refine j_icmp_ge (q := 14) (tgt := 44) C dX7_readAnd_11 rfl (by decide) (fun c_11 => absurd c_11 (fun h => absurd ((nI_leI (by omega) (by omega)).mp h) (by omega))) (fun c_11 => ?_)
      refine j_aload_n (q := 15) C dX7_readAnd_14 rfl rfl rfl ?_
      refine cg_token hQ (q' := 18) C dX7_readAnd_15 rfl kw_248 ?_
      refine j_bipush (v := (-11)) (q := 20) C dX7_readAnd_18 rfl (by decide) ?_
      refine j_icmp_ne (q := 23) (tgt := 44) C dX7_readAnd_20 rfl (by decide) (fun c_20 => ?_) (fun c_20 => ?_)
      · exact j_vret C E dX7_readAnd_44 rfl rfl (⟨rfl, rfl, rfl, by
              have e0 : pLp T n oAnd (pNot T n (lvE T n 3).1 (lvE T n 3).2) (f + 1) q = q := by
                by_cases hb : q.1 = true
                · exact pLp_bad hb _
                · have h1 := (hG (bf hb)).1
                  have ho : oAnd (tk T n q.2.1) = none := by unfold oAnd; rw [if_neg (fun h => c_20 (by rw [h1, h]; decide))]
                  rw [pLp, if_neg hb, ho]
              rw [← hQe, e0]; exact hS⟩)
      · have hq : q.1 = false := bf (fun hq => by
          rw [(hB hq).1] at c_20
          exact absurd c_20 (by decide))
        obtain ⟨rfl, rfl, rfl, h3, rfl, hK⟩ := hG hq
        have htk : tk T n q.2.1 = (1, 10) := cT_inj hT (by decide) (Eq.trans c_20 (by decide))
        obtain rfl := h3 (by rw [htk]; decide)
        have ho : oAnd (tk T n q.2.1) = some 2000001 := by rw [htk]; rfl
        obtain ⟨a1, a2, a3, a4⟩ := pI_step (c := 2000001) (pNot_G (k := 16) hT (lvE_G hT 3).1 (lvE_G hT 3).2 (by omega)) hq (by rw [htk]; decide) hI
        have hl159 : ((pNot T n (lvE T n 3).1 (lvE T n 3).2) (pNx T n q)).1 = false → (P ++ ((pNot T n (lvE T n 3).1 (lvE T n 3).2) (pNx T n q)).2.2).length ≤ 159 := fun hf => by
          have h := a3.2 (by rw [pEm_f hf])
          have h9 := a3.1
          rw [pEm_f hf] at h h9
          have h8 : P.length + (((pNot T n (lvE T n 3).1 (lvE T n 3).2) (pNx T n q)).2.2 ++ [2000001]).length ≤ ((pNot T n (lvE T n 3).1 (lvE T n 3).2) (pNx T n q)).2.1 := h
          have h7 : ((pNot T n (lvE T n 3).1 (lvE T n 3).2) (pNx T n q)).2.1 ≤ n := h9
          simp only [List.length_append, List.length_cons, List.length_nil] at h8
          rw [List.length_append]; omega
        refine j_aload_n (q := 24) C dX7_readAnd_23 rfl rfl rfl ?_
        refine jVT jc7 (q := 27) C dX7_readAnd_24 rfl hs7 mX7_advance kw_471 kw_472 kw_3 (ctX7_advance hSo hQ (tt_n (T := T) hI.1).1) rfl rfl (by decide) (Nat.le_of_ble_eq_true rfl) (by decide) (fun r_24 M_24 h_24 => ?_)
        obtain ⟨rfl, hN⟩ := h_24
        have hS1 := cSt_nx hq hN hK
        refine j_aload_n (q := 28) C dX7_readAnd_27 rfl rfl rfl ?_
        refine j_iload_n (q := 29) C dX7_readAnd_28 rfl rfl rfl ?_
        refine jVT jc7 (q := 32) C dX7_readAnd_29 rfl hs7 mX7_readNot kw_550 kw_551 kw_13 (ctX7_readNot_3 hSo hSc a1 hS1) rfl rfl (by decide) (Nat.le_of_ble_eq_true rfl) (by decide) (fun r_29 M_29 h_29 => ?_)
        obtain ⟨rfl, hS2⟩ := h_29
        refine j_aload_n (q := 33) C dX7_readAnd_32 rfl rfl rfl ?_
        refine j_bipush (v := (-11)) (q := 35) C dX7_readAnd_33 rfl (by decide) ?_
        refine jVT jc7 (q := 38) C dX7_readAnd_35 rfl hs7 mX7_emit kw_553 kw_554 kw_14 (ctX7_emit hSo hSc a2 hS2 hl159 (k0 := 2000001) (by decide)) rfl rfl (by decide) (Nat.le_of_ble_eq_true rfl) (by decide) (fun r_35 M_35 h_35 => ?_)
        obtain ⟨rfl, hS3⟩ := h_35
        first | refine j_iincN (lv' := [(2, _), (1, _), (0, _)]) (q := 41) C dX7_readAnd_38 rfl rfl (by decide) rfl ?_ | refine j_iinc (lv' := [(2, _), (1, _), (0, _)]) (q := 41) C dX7_readAnd_38 rfl rfl rfl (by decide) rfl ?_
        refine j_goto (tgt := 7) C dX7_readAnd_41 (by decide) ?_
        exact j_fewer (lv' := [(2, .int (nI (i + 1))), (1, .int (nI 1)), (0, .ref rd)]) (by simp) (ih (i + 1) _ M_35 (by omega) a3 (by rw [← hQe, pLp, if_neg (by rw [hq]; decide), ho]) hS3)
  refine j_aload_n (q := 1) C dX7_readAnd_0 rfl rfl rfl ?_
  refine j_iload_n (q := 2) C dX7_readAnd_1 rfl rfl rfl ?_
  refine jVT jc7 (q := 5) C dX7_readAnd_2 rfl hs7 mX7_readNot kw_550 kw_551 kw_13 (ctX7_readNot_3 hSo hSc hI hS) rfl rfl (by decide) (Nat.le_of_ble_eq_true rfl) (by decide) (fun r_2 M_2 h_2 => ?_)
  obtain ⟨rfl, hS1⟩ := h_2
  refine j_iconst (v := nI 0) (q := 6) C dX7_readAnd_5 rfl (by decide) ?_
  refine j_istore_n (lv' := [(2, _), (0, _), (1, _)]) (q := 7) C dX7_readAnd_6 rfl rfl (by decide) rfl ?_
  exact j_fewer (lv' := [(2, .int (nI 0)), (1, .int (nI 1)), (0, .ref rd)]) (by simp) (loop7 160 0 _ M_2 rfl (pI_sub (pNot_G (k := 16) hT (lvE_G hT 3).1 (lvE_G hT 3).2 (by omega)) hI) (by rw [eQ]; unfold pAnd; rfl) hS1)

set_option maxRecDepth 100000 in
set_option maxHeartbeats 4000000 in
theorem ctX7_readOr_3 {G : jG} {sz : Nat} {Sh : jS} {M : jM} {rd : Nat} {S : Nat → Prop} {T : Nat → Nat} {n : Nat} {M0 : jM} {P : List Nat} {q : pS} (hSo : S rd) (hSc : S (rd + 2)) (hI : pI n P q) (hS : cSt S rd Sh T n M0 P M q) : jC G yX7_readOr cX7_readOr 3 (Option.none : Option FieldType) (jrm 41 0 0) sz Sh M [.ref rd, .int (nI 1)] (jT sz Sh (fun r M1 => r = none ∧ cSt S rd Sh T n M0 P M1 (pOr T n (lvE T n 3).1 (lvE T n 3).2 q))) := by
  refine jC_start (by decide +kernel) (Nat.le_of_ble_eq_true rfl) (fun X C E hN0 => ?_)
  have hs7 := (cSt_lay hS).1.1
  have hn160 : n ≤ 160 := (cSt_lay hS).2.2.1
  have hT := (cSt_lay hS).2.2.2.1
  have hS0 := hS
  obtain ⟨K, a, b, c, d, e, hQ, hB, hG⟩ := hS0
  obtain ⟨Q, eQ⟩ : ∃ z, z = pOr T n (lvE T n 3).1 (lvE T n 3).2 q := ⟨_, rfl⟩
  rw [← eQ] at E
  have loop7 : ∀ (f i : Nat) (q : pS) (M : jM), i + f = 160 → pI n P q → pLp T n oOr (pAnd T n (lvE T n 3).1 (lvE T n 3).2) f q = Q → cSt S rd Sh T n M0 P M q → jJ G X 0 0 sz Sh M 7 [(2, .int (nI i)), (1, .int (nI 1)), (0, .ref rd)] [] := by
    intro f
    induction f with
    | zero =>
      intro i q M hi hI hQe hS
      have hS0 := hS
      obtain ⟨K, a, b, c, d, e, hQ, hB, hG⟩ := hS0
      refine j_iload_n (q := 8) C dX7_readOr_7 rfl rfl rfl ?_
      refine j_sipush (v := nI 160) (q := 11) C dX7_readOr_8 rfl (by decide) ?_
      refine j_icmp_ge (q := 14) (tgt := 44) C dX7_readOr_11 rfl (by decide) (fun c_11 => ?_) (fun c_11 => absurd (nI_le (by omega) (by omega)) c_11)
      exact j_vret C E dX7_readOr_44 rfl rfl (⟨rfl, rfl, rfl, by rw [← hQe]; exact hS⟩)
    | succ f ih =>
      intro i q M hi hI hQe hS
      have hS0 := hS
      obtain ⟨K, a, b, c, d, e, hQ, hB, hG⟩ := hS0
      refine j_iload_n (q := 8) C dX7_readOr_7 rfl rfl rfl ?_
      refine j_sipush (v := nI 160) (q := 11) C dX7_readOr_8 rfl (by decide) ?_
      refine j_icmp_ge (q := 14) (tgt := 44) C dX7_readOr_11 rfl (by decide) (fun c_11 => absurd c_11 (fun h => absurd ((nI_leI (by omega) (by omega)).mp h) (by omega))) (fun c_11 => ?_)
      refine j_aload_n (q := 15) C dX7_readOr_14 rfl rfl rfl ?_
      refine cg_token hQ (q' := 18) C dX7_readOr_15 rfl kw_248 ?_
      refine j_bipush (v := (-12)) (q := 20) C dX7_readOr_18 rfl (by decide) ?_
      refine j_icmp_ne (q := 23) (tgt := 44) C dX7_readOr_20 rfl (by decide) (fun c_20 => ?_) (fun c_20 => ?_)
      · exact j_vret C E dX7_readOr_44 rfl rfl (⟨rfl, rfl, rfl, by
              have e0 : pLp T n oOr (pAnd T n (lvE T n 3).1 (lvE T n 3).2) (f + 1) q = q := by
                by_cases hb : q.1 = true
                · exact pLp_bad hb _
                · have h1 := (hG (bf hb)).1
                  have ho : oOr (tk T n q.2.1) = none := by unfold oOr; rw [if_neg (fun h => c_20 (by rw [h1, h]; decide))]
                  rw [pLp, if_neg hb, ho]
              rw [← hQe, e0]; exact hS⟩)
      · have hq : q.1 = false := bf (fun hq => by
          rw [(hB hq).1] at c_20
          exact absurd c_20 (by decide))
        obtain ⟨rfl, rfl, rfl, h3, rfl, hK⟩ := hG hq
        have htk : tk T n q.2.1 = (1, 11) := cT_inj hT (by decide) (Eq.trans c_20 (by decide))
        obtain rfl := h3 (by rw [htk]; decide)
        have ho : oOr (tk T n q.2.1) = some 2000000 := by rw [htk]; rfl
        obtain ⟨a1, a2, a3, a4⟩ := pI_step (c := 2000000) (pAnd_G (k := 16) hT (lvE_G hT 3).1 (lvE_G hT 3).2 (by omega)) hq (by rw [htk]; decide) hI
        have hl159 : ((pAnd T n (lvE T n 3).1 (lvE T n 3).2) (pNx T n q)).1 = false → (P ++ ((pAnd T n (lvE T n 3).1 (lvE T n 3).2) (pNx T n q)).2.2).length ≤ 159 := fun hf => by
          have h := a3.2 (by rw [pEm_f hf])
          have h9 := a3.1
          rw [pEm_f hf] at h h9
          have h8 : P.length + (((pAnd T n (lvE T n 3).1 (lvE T n 3).2) (pNx T n q)).2.2 ++ [2000000]).length ≤ ((pAnd T n (lvE T n 3).1 (lvE T n 3).2) (pNx T n q)).2.1 := h
          have h7 : ((pAnd T n (lvE T n 3).1 (lvE T n 3).2) (pNx T n q)).2.1 ≤ n := h9
          simp only [List.length_append, List.length_cons, List.length_nil] at h8
          rw [List.length_append]; omega
        refine j_aload_n (q := 24) C dX7_readOr_23 rfl rfl rfl ?_
        refine jVT jc7 (q := 27) C dX7_readOr_24 rfl hs7 mX7_advance kw_471 kw_472 kw_3 (ctX7_advance hSo hQ (tt_n (T := T) hI.1).1) rfl rfl (by decide) (Nat.le_of_ble_eq_true rfl) (by decide) (fun r_24 M_24 h_24 => ?_)
        obtain ⟨rfl, hN⟩ := h_24
        have hS1 := cSt_nx hq hN hK
        refine j_aload_n (q := 28) C dX7_readOr_27 rfl rfl rfl ?_
        refine j_iload_n (q := 29) C dX7_readOr_28 rfl rfl rfl ?_
        refine jVT jc7 (q := 32) C dX7_readOr_29 rfl hs7 mX7_readAnd kw_547 kw_548 kw_12 (ctX7_readAnd_3 hSo hSc a1 hS1) rfl rfl (by decide) (Nat.le_of_ble_eq_true rfl) (by decide) (fun r_29 M_29 h_29 => ?_)
        obtain ⟨rfl, hS2⟩ := h_29
        refine j_aload_n (q := 33) C dX7_readOr_32 rfl rfl rfl ?_
        refine j_bipush (v := (-12)) (q := 35) C dX7_readOr_33 rfl (by decide) ?_
        refine jVT jc7 (q := 38) C dX7_readOr_35 rfl hs7 mX7_emit kw_553 kw_554 kw_14 (ctX7_emit hSo hSc a2 hS2 hl159 (k0 := 2000000) (by decide)) rfl rfl (by decide) (Nat.le_of_ble_eq_true rfl) (by decide) (fun r_35 M_35 h_35 => ?_)
        obtain ⟨rfl, hS3⟩ := h_35
        first | refine j_iincN (lv' := [(2, _), (1, _), (0, _)]) (q := 41) C dX7_readOr_38 rfl rfl (by decide) rfl ?_ | refine j_iinc (lv' := [(2, _), (1, _), (0, _)]) (q := 41) C dX7_readOr_38 rfl rfl rfl (by decide) rfl ?_
        refine j_goto (tgt := 7) C dX7_readOr_41 (by decide) ?_
        exact j_fewer (lv' := [(2, .int (nI (i + 1))), (1, .int (nI 1)), (0, .ref rd)]) (by simp) (ih (i + 1) _ M_35 (by omega) a3 (by rw [← hQe, pLp, if_neg (by rw [hq]; decide), ho]) hS3)
  refine j_aload_n (q := 1) C dX7_readOr_0 rfl rfl rfl ?_
  refine j_iload_n (q := 2) C dX7_readOr_1 rfl rfl rfl ?_
  refine jVT jc7 (q := 5) C dX7_readOr_2 rfl hs7 mX7_readAnd kw_547 kw_548 kw_12 (ctX7_readAnd_3 hSo hSc hI hS) rfl rfl (by decide) (Nat.le_of_ble_eq_true rfl) (by decide) (fun r_2 M_2 h_2 => ?_)
  obtain ⟨rfl, hS1⟩ := h_2
  refine j_iconst (v := nI 0) (q := 6) C dX7_readOr_5 rfl (by decide) ?_
  refine j_istore_n (lv' := [(2, _), (0, _), (1, _)]) (q := 7) C dX7_readOr_6 rfl rfl (by decide) rfl ?_
  exact j_fewer (lv' := [(2, .int (nI 0)), (1, .int (nI 1)), (0, .ref rd)]) (by simp) (loop7 160 0 _ M_2 rfl (pI_sub (pAnd_G (k := 16) hT (lvE_G hT 3).1 (lvE_G hT 3).2 (by omega)) hI) (by rw [eQ]; unfold pOr; rfl) hS1)

set_option maxRecDepth 100000 in
set_option maxHeartbeats 4000000 in
theorem ctX7_readValue_4 {G : jG} {sz : Nat} {Sh : jS} {M : jM} {rd : Nat} {S : Nat → Prop} {T : Nat → Nat} {n : Nat} {M0 : jM} {P : List Nat} {q : pS} (hSo : S rd) (hSc : S (rd + 2)) (hI : pI n P q) (hS : cSt S rd Sh T n M0 P M q) : jC G yX7_readValue cX7_readValue 2 (Option.none : Option FieldType) (jrm 44 0 0) sz Sh M [.ref rd, .int (nI 0)] (jT sz Sh (fun r M1 => r = none ∧ cSt S rd Sh T n M0 P M1 (pVal T n (lvE T n 4).1 q))) := by
  refine jC_start (by decide +kernel) (Nat.le_of_ble_eq_true rfl) (fun X C E hN0 => ?_)
  have hs7 := (cSt_lay hS).1.1
  have hn160 : n ≤ 160 := (cSt_lay hS).2.2.1
  have hT := (cSt_lay hS).2.2.2.1
  have hS0 := hS
  obtain ⟨K, a, b, c, d, e, hQ, hB, hG⟩ := hS0
  refine j_aload_n (q := 1) C dX7_readValue_0 rfl rfl rfl ?_
  refine cg_token hQ (q' := 4) C dX7_readValue_1 rfl kw_248 ?_
  refine j_bipush (v := (-7)) (q := 6) C dX7_readValue_4 rfl (by decide) ?_
  refine j_icmp_lt (q := 9) (tgt := 24) C dX7_readValue_6 rfl (by decide) (fun c_6 => ?_) (fun c_6 => ?_)
  · refine j_aload_n (q := 25) C dX7_readValue_24 rfl rfl rfl ?_
    refine cg_token hQ (q' := 28) C dX7_readValue_25 rfl kw_248 ?_
    refine j_bipush (v := (-14)) (q := 30) C dX7_readValue_28 rfl (by decide) ?_
    refine j_icmp_ne (q := 33) (tgt := 58) C dX7_readValue_30 rfl (by decide) (fun c_30 => ?_) (fun c_30 => ?_)
    · refine j_aload_n (q := 59) C dX7_readValue_58 rfl rfl rfl ?_
      refine jVT jc7 (q := 62) C dX7_readValue_59 rfl hs7 mX7_refuse kw_541 kw_542 kw_10 (ctX7_refuse hSo hSc hI hS) rfl rfl (by decide) (Nat.le_of_ble_eq_true rfl) (by decide) (fun r_59 M_59 h_59 => ?_)
      obtain ⟨rfl, hS1⟩ := h_59
      exact j_vret C E dX7_readValue_62 rfl rfl (by
          refine ⟨rfl, rfl, rfl, ?_⟩
          by_cases hq : q.1 = true
          · rw [show pVal T n (lvE T n 4).1 q = pBad q by unfold pVal; rw [if_pos hq, pBad_i hq]]; exact hS1
          · have h1 := (hG (bf hq)).1
            rw [h1] at c_6 c_30
            rw [val_n hT (bf hq) c_6 (fun g => c_30 (by rw [g]; decide))]; exact hS1)
    · have hq : q.1 = false := bf (fun hq => by
        rw [(hB hq).1] at c_30
        exact absurd c_30 (by decide))
      obtain ⟨rfl, rfl, rfl, h3, rfl, hK⟩ := hG hq
      have htk : tk T n q.2.1 = (3, 0) := cT_inj hT (by decide) (Eq.trans c_30 (by decide))
      obtain rfl := h3 (by rw [htk]; decide)
      refine j_iload_n (q := 34) C dX7_readValue_33 rfl rfl rfl ?_
      refine j_iconst (v := nI 4) (q := 35) C dX7_readValue_34 rfl (by decide) ?_
      refine j_icmp_ge (q := 38) (tgt := 58) C dX7_readValue_35 rfl (by decide) (fun c_35 => absurd c_35 (by decide)) (fun c_35 => ?_)
      refine j_aload_n (q := 39) C dX7_readValue_38 rfl rfl rfl ?_
      refine jVT jc7 (q := 42) C dX7_readValue_39 rfl hs7 mX7_advance kw_471 kw_472 kw_3 (ctX7_advance hSo hQ (tt_n (T := T) hI.1).1) rfl rfl (by decide) (Nat.le_of_ble_eq_true rfl) (by decide) (fun r_39 M_39 h_39 => ?_)
      obtain ⟨rfl, hN⟩ := h_39
      have hS1 := cSt_nx hq hN hK
      have hI1 := (pI_nx (T := T) hq (by rw [htk]; decide) hI).1
      refine j_aload_n (q := 43) C dX7_readValue_42 rfl rfl rfl ?_
      refine j_iload_n (q := 44) C dX7_readValue_43 rfl rfl rfl ?_
      refine j_iconst (v := nI 1) (q := 45) C dX7_readValue_44 rfl (by decide) ?_
      first | refine j_iaddN (q := 46) C dX7_readValue_45 rfl ?_ | refine j_iadd (q := 46) C dX7_readValue_45 rfl ?_
      refine jVT jc7 (q := 49) C dX7_readValue_46 rfl hs7 mX7_readOr kw_544 kw_545 kw_11 (ctX7_readOr_3 hSo hSc hI1 hS1) rfl rfl (by decide) (Nat.le_of_ble_eq_true rfl) (by decide) (fun r_46 M_46 h_46 => ?_)
      obtain ⟨rfl, hS2⟩ := h_46
      have hI2 := pI_sub (pOr_G (k := 16) hT (lvE_G hT 3).1 (lvE_G hT 3).2 (by omega)) hI1
      refine j_aload_n (q := 50) C dX7_readValue_49 rfl rfl rfl ?_
      refine j_bipush (v := (-15)) (q := 52) C dX7_readValue_50 rfl (by decide) ?_
      refine jVT jc7 (q := 55) C dX7_readValue_52 rfl hs7 mX7_expect kw_538 kw_539 kw_9 (ctX7_expect hSo hSc hI2 hS2 (t := (3, 1)) (by decide) (by decide) (by decide)) rfl rfl (by decide) (Nat.le_of_ble_eq_true rfl) (by decide) (fun r_52 M_52 h_52 => ?_)
      obtain ⟨rfl, hS3⟩ := h_52
      refine j_goto (tgt := 62) C dX7_readValue_55 (by decide) ?_
      exact j_vret C E dX7_readValue_62 rfl rfl (⟨rfl, rfl, rfl, by rw [show pVal T n (lvE T n 4).1 q = pExp T n (3, 1) (pOr T n (lvE T n 3).1 (lvE T n 3).2 (pNx T n q)) by unfold pVal; rw [if_neg (by rw [hq]; decide), if_pos htk]; rfl]; exact hS3⟩)
  · have hq : q.1 = false := bf (fun hq => c_6 (by rw [(hB hq).1]; decide))
    obtain ⟨rfl, rfl, rfl, h3, rfl, hK⟩ := hG hq
    obtain ⟨k0, hk0, hpv, ht0⟩ := val_c hT hq c_6
    obtain rfl := h3 (by omega)
    have hxn := tk_in (T := T) (n := n) (x := q.2.1) (by omega) hI.1
    have hxt := tt_n (T := T) hI.1
    have hl159 : q.1 = false → (P ++ q.2.2).length ≤ 159 := fun hq => by
      have := hI.2 hq
      rw [List.length_append]; omega
    refine j_aload_n (q := 10) C dX7_readValue_9 rfl rfl rfl ?_
    refine j_aload_n (q := 11) C dX7_readValue_10 rfl rfl rfl ?_
    refine cg_token hQ (q' := 14) C dX7_readValue_11 rfl kw_248 ?_
    refine jVT jc7 (q := 17) C dX7_readValue_14 rfl hs7 mX7_emit kw_553 kw_554 kw_14 (ctX7_emit hSo hSc hI hS hl159 (k0 := k0) hk0) rfl rfl (by decide) (Nat.le_of_ble_eq_true rfl) (by decide) (fun r_14 M_14 h_14 => ?_)
    obtain ⟨rfl, hS1⟩ := h_14
    rw [pEm_f hq] at hS1
    obtain ⟨K1, a1, b1, c1, d1, e1, hQ, -, hG1⟩ := hS1
    obtain ⟨rfl, rfl, rfl, h31, rfl, hK1⟩ := hG1 rfl
    obtain rfl := h31 (show ¬ (tk T n q.2.1).1 = 4 by omega)
    refine j_aload_n (q := 18) C dX7_readValue_17 rfl rfl rfl ?_
    refine jVT jc7 (q := 21) C dX7_readValue_18 rfl hs7 mX7_advance kw_471 kw_472 kw_3 (ctX7_advance hSo hQ hxt.1) rfl rfl (by decide) (Nat.le_of_ble_eq_true rfl) (by decide) (fun r_18 M_18 h_18 => ?_)
    obtain ⟨rfl, hN⟩ := h_18
    have hS2 : cSt S rd Sh T n M0 P M_18 (pNx T n (pEm k0 q)) := by rw [pEm_f hq]; exact cSt_nx (q := (false, q.2.1, q.2.2 ++ [k0])) rfl hN hK1
    refine j_goto (tgt := 62) C dX7_readValue_21 (by decide) ?_
    exact j_vret C E dX7_readValue_62 rfl rfl (⟨rfl, rfl, rfl, by rw [hpv]; exact hS2⟩)

set_option maxRecDepth 100000 in
set_option maxHeartbeats 4000000 in
theorem ctX7_readOne_4 {G : jG} {sz : Nat} {Sh : jS} {M : jM} {rd : Nat} {S : Nat → Prop} {T : Nat → Nat} {n : Nat} {M0 : jM} {P : List Nat} {q : pS} (hSo : S rd) (hSc : S (rd + 2)) (hI : pI n P q) (hS : cSt S rd Sh T n M0 P M q) : jC G yX7_readOne cX7_readOne 4 (Option.none : Option FieldType) (jrm 45 0 0) sz Sh M [.ref rd, .int (nI 0)] (jT sz Sh (fun r M1 => r = none ∧ cSt S rd Sh T n M0 P M1 (pOne T n (lvE T n 4).1 q))) := by
  refine jC_start (by decide +kernel) (Nat.le_of_ble_eq_true rfl) (fun X C E hN0 => ?_)
  have hs7 := (cSt_lay hS).1.1
  have hn160 : n ≤ 160 := (cSt_lay hS).2.2.1
  have hT := (cSt_lay hS).2.2.2.1
  have hS0 := hS
  obtain ⟨K, a, b, c, d, e, hQ, hB, hG⟩ := hS0
  obtain ⟨Q, eQ⟩ : ∃ z, z = pOne T n (lvE T n 4).1 q := ⟨_, rfl⟩
  rw [← eQ] at E
  have loop7 : ∀ (f i : Nat) (q : pS) (M : jM), i + f = 160 → pI n P q → pLp T n oMul (pVal T n (lvE T n 4).1) f q = Q → cSt S rd Sh T n M0 P M q → jJ G X 0 0 sz Sh M 7 [(2, .int (nI i)), (1, .int (nI 0)), (0, .ref rd)] [] := by
    intro f
    induction f with
    | zero =>
      intro i q M hi hI hQe hS
      have hS0 := hS
      obtain ⟨K, a, b, c, d, e, hQ, hB, hG⟩ := hS0
      refine j_iload_n (q := 8) C dX7_readOne_7 rfl rfl rfl ?_
      refine j_sipush (v := nI 160) (q := 11) C dX7_readOne_8 rfl (by decide) ?_
      refine j_icmp_ge (q := 14) (tgt := 57) C dX7_readOne_11 rfl (by decide) (fun c_11 => ?_) (fun c_11 => absurd (nI_le (by omega) (by omega)) c_11)
      exact j_vret C E dX7_readOne_57 rfl rfl (⟨rfl, rfl, rfl, by rw [← hQe]; exact hS⟩)
    | succ f ih =>
      intro i q M hi hI hQe hS
      have hS0 := hS
      obtain ⟨K, a, b, c, d, e, hQ, hB, hG⟩ := hS0
      refine j_iload_n (q := 8) C dX7_readOne_7 rfl rfl rfl ?_
      refine j_sipush (v := nI 160) (q := 11) C dX7_readOne_8 rfl (by decide) ?_
      refine j_icmp_ge (q := 14) (tgt := 57) C dX7_readOne_11 rfl (by decide) (fun c_11 => absurd c_11 (fun h => absurd ((nI_leI (by omega) (by omega)).mp h) (by omega))) (fun c_11 => ?_)
      refine j_aload_n (q := 15) C dX7_readOne_14 rfl rfl rfl ?_
      refine cg_token hQ (q' := 18) C dX7_readOne_15 rfl kw_248 ?_
      refine j_bipush (v := (-19)) (q := 20) C dX7_readOne_18 rfl (by decide) ?_
      refine j_icmp_eq (q := 23) (tgt := 32) C dX7_readOne_20 rfl (by decide) (fun c_20 => ?_) (fun c_20 => ?_)
      · have hq : q.1 = false := bf (fun hq => by
          rw [(hB hq).1] at c_20
          exact absurd c_20 (by decide))
        obtain ⟨rfl, rfl, rfl, h3, rfl, hK⟩ := hG hq
        have htk : tk T n q.2.1 = (3, 5) := cT_inj hT (by decide) (Eq.trans c_20 (by decide))
        obtain rfl := h3 (by rw [htk]; decide)
        have ho : oMul (tk T n q.2.1) = some 2000006 := by rw [htk]; rfl
        obtain ⟨a1, a2, a3, a4⟩ := pI_step (c := 2000006) (pVal_G (k := 21) hT (lvE_G hT 4).1 (by omega)) hq (by rw [htk]; decide) hI
        have hl159 : ((pVal T n (lvE T n 4).1) (pNx T n q)).1 = false → (P ++ ((pVal T n (lvE T n 4).1) (pNx T n q)).2.2).length ≤ 159 := fun hf => by
          have h := a3.2 (by rw [pEm_f hf])
          have h9 := a3.1
          rw [pEm_f hf] at h h9
          have h8 : P.length + (((pVal T n (lvE T n 4).1) (pNx T n q)).2.2 ++ [2000006]).length ≤ ((pVal T n (lvE T n 4).1) (pNx T n q)).2.1 := h
          have h7 : ((pVal T n (lvE T n 4).1) (pNx T n q)).2.1 ≤ n := h9
          simp only [List.length_append, List.length_cons, List.length_nil] at h8
          rw [List.length_append]; omega
        refine j_aload_n (q := 33) C dX7_readOne_32 rfl rfl rfl ?_
        refine cg_token hQ (q' := 36) C dX7_readOne_33 rfl kw_248 ?_
        refine j_istore_n (lv' := [(3, _), (2, _), (1, _), (0, _)]) (q := 37) C dX7_readOne_36 rfl rfl (by decide) rfl ?_
        refine j_aload_n (q := 38) C dX7_readOne_37 rfl rfl rfl ?_
        refine jVT jc7 (q := 41) C dX7_readOne_38 rfl hs7 mX7_advance kw_471 kw_472 kw_3 (ctX7_advance hSo hQ (tt_n (T := T) hI.1).1) rfl rfl (by decide) (Nat.le_of_ble_eq_true rfl) (by decide) (fun r_38 M_38 h_38 => ?_)
        obtain ⟨rfl, hN⟩ := h_38
        have hS1 := cSt_nx hq hN hK
        refine j_aload_n (q := 42) C dX7_readOne_41 rfl rfl rfl ?_
        refine j_iload_n (q := 43) C dX7_readOne_42 rfl rfl rfl ?_
        refine jVT jc7 (q := 46) C dX7_readOne_43 rfl hs7 mX7_readValue kw_562 kw_563 kw_17 (ctX7_readValue_4 hSo hSc a1 hS1) rfl rfl (by decide) (Nat.le_of_ble_eq_true rfl) (by decide) (fun r_43 M_43 h_43 => ?_)
        obtain ⟨rfl, hS2⟩ := h_43
        refine j_aload_n (q := 47) C dX7_readOne_46 rfl rfl rfl ?_
        refine j_iload_n (q := 48) C dX7_readOne_47 rfl rfl rfl ?_
        refine jVT jc7 (q := 51) C dX7_readOne_48 rfl hs7 mX7_emit kw_553 kw_554 kw_14 (ctX7_emit hSo hSc a2 hS2 hl159 (k0 := 2000006) (by rw [htk]; decide)) rfl rfl (by decide) (Nat.le_of_ble_eq_true rfl) (by decide) (fun r_48 M_48 h_48 => ?_)
        obtain ⟨rfl, hS3⟩ := h_48
        first | refine j_iincN (lv' := [(2, _), (3, _), (1, _), (0, _)]) (q := 54) C dX7_readOne_51 rfl rfl (by decide) rfl ?_ | refine j_iinc (lv' := [(2, _), (3, _), (1, _), (0, _)]) (q := 54) C dX7_readOne_51 rfl rfl rfl (by decide) rfl ?_
        refine j_goto (tgt := 7) C dX7_readOne_54 (by decide) ?_
        exact j_fewer (lv' := [(2, .int (nI (i + 1))), (1, .int (nI 0)), (0, .ref rd)]) (by simp) (ih (i + 1) _ M_48 (by omega) a3 (by rw [← hQe, pLp, if_neg (by rw [hq]; decide), ho]) hS3)
      · refine j_aload_n (q := 24) C dX7_readOne_23 rfl rfl rfl ?_
        refine cg_token hQ (q' := 27) C dX7_readOne_24 rfl kw_248 ?_
        refine j_bipush (v := (-20)) (q := 29) C dX7_readOne_27 rfl (by decide) ?_
        refine j_icmp_ne (q := 32) (tgt := 57) C dX7_readOne_29 rfl (by decide) (fun c_29 => ?_) (fun c_29 => ?_)
        · exact j_vret C E dX7_readOne_57 rfl rfl (⟨rfl, rfl, rfl, by
                have e0 : pLp T n oMul (pVal T n (lvE T n 4).1) (f + 1) q = q := by
                  by_cases hb : q.1 = true
                  · exact pLp_bad hb _
                  · have h1 := (hG (bf hb)).1
                    have ho : oMul (tk T n q.2.1) = none := by unfold oMul; rw [if_neg (fun h => c_20 (by rw [h1, h]; decide)), if_neg (fun h => c_29 (by rw [h1, h]; decide))]
                    rw [pLp, if_neg hb, ho]
                rw [← hQe, e0]; exact hS⟩)
        · have hq : q.1 = false := bf (fun hq => by
            rw [(hB hq).1] at c_29
            exact absurd c_29 (by decide))
          obtain ⟨rfl, rfl, rfl, h3, rfl, hK⟩ := hG hq
          have htk : tk T n q.2.1 = (3, 6) := cT_inj hT (by decide) (Eq.trans c_29 (by decide))
          obtain rfl := h3 (by rw [htk]; decide)
          have ho : oMul (tk T n q.2.1) = some 2000007 := by rw [htk]; rfl
          obtain ⟨a1, a2, a3, a4⟩ := pI_step (c := 2000007) (pVal_G (k := 21) hT (lvE_G hT 4).1 (by omega)) hq (by rw [htk]; decide) hI
          have hl159 : ((pVal T n (lvE T n 4).1) (pNx T n q)).1 = false → (P ++ ((pVal T n (lvE T n 4).1) (pNx T n q)).2.2).length ≤ 159 := fun hf => by
            have h := a3.2 (by rw [pEm_f hf])
            have h9 := a3.1
            rw [pEm_f hf] at h h9
            have h8 : P.length + (((pVal T n (lvE T n 4).1) (pNx T n q)).2.2 ++ [2000007]).length ≤ ((pVal T n (lvE T n 4).1) (pNx T n q)).2.1 := h
            have h7 : ((pVal T n (lvE T n 4).1) (pNx T n q)).2.1 ≤ n := h9
            simp only [List.length_append, List.length_cons, List.length_nil] at h8
            rw [List.length_append]; omega
          refine j_aload_n (q := 33) C dX7_readOne_32 rfl rfl rfl ?_
          refine cg_token hQ (q' := 36) C dX7_readOne_33 rfl kw_248 ?_
          refine j_istore_n (lv' := [(3, _), (2, _), (1, _), (0, _)]) (q := 37) C dX7_readOne_36 rfl rfl (by decide) rfl ?_
          refine j_aload_n (q := 38) C dX7_readOne_37 rfl rfl rfl ?_
          refine jVT jc7 (q := 41) C dX7_readOne_38 rfl hs7 mX7_advance kw_471 kw_472 kw_3 (ctX7_advance hSo hQ (tt_n (T := T) hI.1).1) rfl rfl (by decide) (Nat.le_of_ble_eq_true rfl) (by decide) (fun r_38 M_38 h_38 => ?_)
          obtain ⟨rfl, hN⟩ := h_38
          have hS1 := cSt_nx hq hN hK
          refine j_aload_n (q := 42) C dX7_readOne_41 rfl rfl rfl ?_
          refine j_iload_n (q := 43) C dX7_readOne_42 rfl rfl rfl ?_
          refine jVT jc7 (q := 46) C dX7_readOne_43 rfl hs7 mX7_readValue kw_562 kw_563 kw_17 (ctX7_readValue_4 hSo hSc a1 hS1) rfl rfl (by decide) (Nat.le_of_ble_eq_true rfl) (by decide) (fun r_43 M_43 h_43 => ?_)
          obtain ⟨rfl, hS2⟩ := h_43
          refine j_aload_n (q := 47) C dX7_readOne_46 rfl rfl rfl ?_
          refine j_iload_n (q := 48) C dX7_readOne_47 rfl rfl rfl ?_
          refine jVT jc7 (q := 51) C dX7_readOne_48 rfl hs7 mX7_emit kw_553 kw_554 kw_14 (ctX7_emit hSo hSc a2 hS2 hl159 (k0 := 2000007) (by rw [htk]; decide)) rfl rfl (by decide) (Nat.le_of_ble_eq_true rfl) (by decide) (fun r_48 M_48 h_48 => ?_)
          obtain ⟨rfl, hS3⟩ := h_48
          first | refine j_iincN (lv' := [(2, _), (3, _), (1, _), (0, _)]) (q := 54) C dX7_readOne_51 rfl rfl (by decide) rfl ?_ | refine j_iinc (lv' := [(2, _), (3, _), (1, _), (0, _)]) (q := 54) C dX7_readOne_51 rfl rfl rfl (by decide) rfl ?_
          refine j_goto (tgt := 7) C dX7_readOne_54 (by decide) ?_
          exact j_fewer (lv' := [(2, .int (nI (i + 1))), (1, .int (nI 0)), (0, .ref rd)]) (by simp) (ih (i + 1) _ M_48 (by omega) a3 (by rw [← hQe, pLp, if_neg (by rw [hq]; decide), ho]) hS3)
  refine j_aload_n (q := 1) C dX7_readOne_0 rfl rfl rfl ?_
  refine j_iload_n (q := 2) C dX7_readOne_1 rfl rfl rfl ?_
  refine jVT jc7 (q := 5) C dX7_readOne_2 rfl hs7 mX7_readValue kw_562 kw_563 kw_17 (ctX7_readValue_4 hSo hSc hI hS) rfl rfl (by decide) (Nat.le_of_ble_eq_true rfl) (by decide) (fun r_2 M_2 h_2 => ?_)
  obtain ⟨rfl, hS1⟩ := h_2
  refine j_iconst (v := nI 0) (q := 6) C dX7_readOne_5 rfl (by decide) ?_
  refine j_istore_n (lv' := [(2, _), (0, _), (1, _)]) (q := 7) C dX7_readOne_6 rfl rfl (by decide) rfl ?_
  exact j_fewer (lv' := [(2, .int (nI 0)), (1, .int (nI 0)), (0, .ref rd)]) (by simp) (loop7 160 0 _ M_2 rfl (pI_sub (pVal_G (k := 21) hT (lvE_G hT 4).1 (by omega)) hI) (by rw [eQ]; unfold pOne; rfl) hS1)

set_option maxRecDepth 100000 in
set_option maxHeartbeats 4000000 in
theorem ctX7_readSum_4 {G : jG} {sz : Nat} {Sh : jS} {M : jM} {rd : Nat} {S : Nat → Prop} {T : Nat → Nat} {n : Nat} {M0 : jM} {P : List Nat} {q : pS} (hSo : S rd) (hSc : S (rd + 2)) (hI : pI n P q) (hS : cSt S rd Sh T n M0 P M q) : jC G yX7_readSum cX7_readSum 4 (Option.none : Option FieldType) (jrm 46 0 0) sz Sh M [.ref rd, .int (nI 0)] (jT sz Sh (fun r M1 => r = none ∧ cSt S rd Sh T n M0 P M1 (pSum T n (lvE T n 4).1 q))) := by
  refine jC_start (by decide +kernel) (Nat.le_of_ble_eq_true rfl) (fun X C E hN0 => ?_)
  have hs7 := (cSt_lay hS).1.1
  have hn160 : n ≤ 160 := (cSt_lay hS).2.2.1
  have hT := (cSt_lay hS).2.2.2.1
  have hS0 := hS
  obtain ⟨K, a, b, c, d, e, hQ, hB, hG⟩ := hS0
  obtain ⟨Q, eQ⟩ : ∃ z, z = pSum T n (lvE T n 4).1 q := ⟨_, rfl⟩
  rw [← eQ] at E
  have loop7 : ∀ (f i : Nat) (q : pS) (M : jM), i + f = 160 → pI n P q → pLp T n oAdd (pOne T n (lvE T n 4).1) f q = Q → cSt S rd Sh T n M0 P M q → jJ G X 0 0 sz Sh M 7 [(2, .int (nI i)), (1, .int (nI 0)), (0, .ref rd)] [] := by
    intro f
    induction f with
    | zero =>
      intro i q M hi hI hQe hS
      have hS0 := hS
      obtain ⟨K, a, b, c, d, e, hQ, hB, hG⟩ := hS0
      refine j_iload_n (q := 8) C dX7_readSum_7 rfl rfl rfl ?_
      refine j_sipush (v := nI 160) (q := 11) C dX7_readSum_8 rfl (by decide) ?_
      refine j_icmp_ge (q := 14) (tgt := 57) C dX7_readSum_11 rfl (by decide) (fun c_11 => ?_) (fun c_11 => absurd (nI_le (by omega) (by omega)) c_11)
      exact j_vret C E dX7_readSum_57 rfl rfl (⟨rfl, rfl, rfl, by rw [← hQe]; exact hS⟩)
    | succ f ih =>
      intro i q M hi hI hQe hS
      have hS0 := hS
      obtain ⟨K, a, b, c, d, e, hQ, hB, hG⟩ := hS0
      refine j_iload_n (q := 8) C dX7_readSum_7 rfl rfl rfl ?_
      refine j_sipush (v := nI 160) (q := 11) C dX7_readSum_8 rfl (by decide) ?_
      refine j_icmp_ge (q := 14) (tgt := 57) C dX7_readSum_11 rfl (by decide) (fun c_11 => absurd c_11 (fun h => absurd ((nI_leI (by omega) (by omega)).mp h) (by omega))) (fun c_11 => ?_)
      refine j_aload_n (q := 15) C dX7_readSum_14 rfl rfl rfl ?_
      refine cg_token hQ (q' := 18) C dX7_readSum_15 rfl kw_248 ?_
      refine j_bipush (v := (-17)) (q := 20) C dX7_readSum_18 rfl (by decide) ?_
      refine j_icmp_eq (q := 23) (tgt := 32) C dX7_readSum_20 rfl (by decide) (fun c_20 => ?_) (fun c_20 => ?_)
      · have hq : q.1 = false := bf (fun hq => by
          rw [(hB hq).1] at c_20
          exact absurd c_20 (by decide))
        obtain ⟨rfl, rfl, rfl, h3, rfl, hK⟩ := hG hq
        have htk : tk T n q.2.1 = (3, 3) := cT_inj hT (by decide) (Eq.trans c_20 (by decide))
        obtain rfl := h3 (by rw [htk]; decide)
        have ho : oAdd (tk T n q.2.1) = some 2000004 := by rw [htk]; rfl
        obtain ⟨a1, a2, a3, a4⟩ := pI_step (c := 2000004) (pOne_G (k := 21) hT (lvE_G hT 4).1 (by omega)) hq (by rw [htk]; decide) hI
        have hl159 : ((pOne T n (lvE T n 4).1) (pNx T n q)).1 = false → (P ++ ((pOne T n (lvE T n 4).1) (pNx T n q)).2.2).length ≤ 159 := fun hf => by
          have h := a3.2 (by rw [pEm_f hf])
          have h9 := a3.1
          rw [pEm_f hf] at h h9
          have h8 : P.length + (((pOne T n (lvE T n 4).1) (pNx T n q)).2.2 ++ [2000004]).length ≤ ((pOne T n (lvE T n 4).1) (pNx T n q)).2.1 := h
          have h7 : ((pOne T n (lvE T n 4).1) (pNx T n q)).2.1 ≤ n := h9
          simp only [List.length_append, List.length_cons, List.length_nil] at h8
          rw [List.length_append]; omega
        refine j_aload_n (q := 33) C dX7_readSum_32 rfl rfl rfl ?_
        refine cg_token hQ (q' := 36) C dX7_readSum_33 rfl kw_248 ?_
        refine j_istore_n (lv' := [(3, _), (2, _), (1, _), (0, _)]) (q := 37) C dX7_readSum_36 rfl rfl (by decide) rfl ?_
        refine j_aload_n (q := 38) C dX7_readSum_37 rfl rfl rfl ?_
        refine jVT jc7 (q := 41) C dX7_readSum_38 rfl hs7 mX7_advance kw_471 kw_472 kw_3 (ctX7_advance hSo hQ (tt_n (T := T) hI.1).1) rfl rfl (by decide) (Nat.le_of_ble_eq_true rfl) (by decide) (fun r_38 M_38 h_38 => ?_)
        obtain ⟨rfl, hN⟩ := h_38
        have hS1 := cSt_nx hq hN hK
        refine j_aload_n (q := 42) C dX7_readSum_41 rfl rfl rfl ?_
        refine j_iload_n (q := 43) C dX7_readSum_42 rfl rfl rfl ?_
        refine jVT jc7 (q := 46) C dX7_readSum_43 rfl hs7 mX7_readOne kw_559 kw_560 kw_16 (ctX7_readOne_4 hSo hSc a1 hS1) rfl rfl (by decide) (Nat.le_of_ble_eq_true rfl) (by decide) (fun r_43 M_43 h_43 => ?_)
        obtain ⟨rfl, hS2⟩ := h_43
        refine j_aload_n (q := 47) C dX7_readSum_46 rfl rfl rfl ?_
        refine j_iload_n (q := 48) C dX7_readSum_47 rfl rfl rfl ?_
        refine jVT jc7 (q := 51) C dX7_readSum_48 rfl hs7 mX7_emit kw_553 kw_554 kw_14 (ctX7_emit hSo hSc a2 hS2 hl159 (k0 := 2000004) (by rw [htk]; decide)) rfl rfl (by decide) (Nat.le_of_ble_eq_true rfl) (by decide) (fun r_48 M_48 h_48 => ?_)
        obtain ⟨rfl, hS3⟩ := h_48
        first | refine j_iincN (lv' := [(2, _), (3, _), (1, _), (0, _)]) (q := 54) C dX7_readSum_51 rfl rfl (by decide) rfl ?_ | refine j_iinc (lv' := [(2, _), (3, _), (1, _), (0, _)]) (q := 54) C dX7_readSum_51 rfl rfl rfl (by decide) rfl ?_
        refine j_goto (tgt := 7) C dX7_readSum_54 (by decide) ?_
        exact j_fewer (lv' := [(2, .int (nI (i + 1))), (1, .int (nI 0)), (0, .ref rd)]) (by simp) (ih (i + 1) _ M_48 (by omega) a3 (by rw [← hQe, pLp, if_neg (by rw [hq]; decide), ho]) hS3)
      · refine j_aload_n (q := 24) C dX7_readSum_23 rfl rfl rfl ?_
        refine cg_token hQ (q' := 27) C dX7_readSum_24 rfl kw_248 ?_
        refine j_bipush (v := (-18)) (q := 29) C dX7_readSum_27 rfl (by decide) ?_
        refine j_icmp_ne (q := 32) (tgt := 57) C dX7_readSum_29 rfl (by decide) (fun c_29 => ?_) (fun c_29 => ?_)
        · exact j_vret C E dX7_readSum_57 rfl rfl (⟨rfl, rfl, rfl, by
                have e0 : pLp T n oAdd (pOne T n (lvE T n 4).1) (f + 1) q = q := by
                  by_cases hb : q.1 = true
                  · exact pLp_bad hb _
                  · have h1 := (hG (bf hb)).1
                    have ho : oAdd (tk T n q.2.1) = none := by unfold oAdd; rw [if_neg (fun h => c_20 (by rw [h1, h]; decide)), if_neg (fun h => c_29 (by rw [h1, h]; decide))]
                    rw [pLp, if_neg hb, ho]
                rw [← hQe, e0]; exact hS⟩)
        · have hq : q.1 = false := bf (fun hq => by
            rw [(hB hq).1] at c_29
            exact absurd c_29 (by decide))
          obtain ⟨rfl, rfl, rfl, h3, rfl, hK⟩ := hG hq
          have htk : tk T n q.2.1 = (3, 4) := cT_inj hT (by decide) (Eq.trans c_29 (by decide))
          obtain rfl := h3 (by rw [htk]; decide)
          have ho : oAdd (tk T n q.2.1) = some 2000005 := by rw [htk]; rfl
          obtain ⟨a1, a2, a3, a4⟩ := pI_step (c := 2000005) (pOne_G (k := 21) hT (lvE_G hT 4).1 (by omega)) hq (by rw [htk]; decide) hI
          have hl159 : ((pOne T n (lvE T n 4).1) (pNx T n q)).1 = false → (P ++ ((pOne T n (lvE T n 4).1) (pNx T n q)).2.2).length ≤ 159 := fun hf => by
            have h := a3.2 (by rw [pEm_f hf])
            have h9 := a3.1
            rw [pEm_f hf] at h h9
            have h8 : P.length + (((pOne T n (lvE T n 4).1) (pNx T n q)).2.2 ++ [2000005]).length ≤ ((pOne T n (lvE T n 4).1) (pNx T n q)).2.1 := h
            have h7 : ((pOne T n (lvE T n 4).1) (pNx T n q)).2.1 ≤ n := h9
            simp only [List.length_append, List.length_cons, List.length_nil] at h8
            rw [List.length_append]; omega
          refine j_aload_n (q := 33) C dX7_readSum_32 rfl rfl rfl ?_
          refine cg_token hQ (q' := 36) C dX7_readSum_33 rfl kw_248 ?_
          refine j_istore_n (lv' := [(3, _), (2, _), (1, _), (0, _)]) (q := 37) C dX7_readSum_36 rfl rfl (by decide) rfl ?_
          refine j_aload_n (q := 38) C dX7_readSum_37 rfl rfl rfl ?_
          refine jVT jc7 (q := 41) C dX7_readSum_38 rfl hs7 mX7_advance kw_471 kw_472 kw_3 (ctX7_advance hSo hQ (tt_n (T := T) hI.1).1) rfl rfl (by decide) (Nat.le_of_ble_eq_true rfl) (by decide) (fun r_38 M_38 h_38 => ?_)
          obtain ⟨rfl, hN⟩ := h_38
          have hS1 := cSt_nx hq hN hK
          refine j_aload_n (q := 42) C dX7_readSum_41 rfl rfl rfl ?_
          refine j_iload_n (q := 43) C dX7_readSum_42 rfl rfl rfl ?_
          refine jVT jc7 (q := 46) C dX7_readSum_43 rfl hs7 mX7_readOne kw_559 kw_560 kw_16 (ctX7_readOne_4 hSo hSc a1 hS1) rfl rfl (by decide) (Nat.le_of_ble_eq_true rfl) (by decide) (fun r_43 M_43 h_43 => ?_)
          obtain ⟨rfl, hS2⟩ := h_43
          refine j_aload_n (q := 47) C dX7_readSum_46 rfl rfl rfl ?_
          refine j_iload_n (q := 48) C dX7_readSum_47 rfl rfl rfl ?_
          refine jVT jc7 (q := 51) C dX7_readSum_48 rfl hs7 mX7_emit kw_553 kw_554 kw_14 (ctX7_emit hSo hSc a2 hS2 hl159 (k0 := 2000005) (by rw [htk]; decide)) rfl rfl (by decide) (Nat.le_of_ble_eq_true rfl) (by decide) (fun r_48 M_48 h_48 => ?_)
          obtain ⟨rfl, hS3⟩ := h_48
          first | refine j_iincN (lv' := [(2, _), (3, _), (1, _), (0, _)]) (q := 54) C dX7_readSum_51 rfl rfl (by decide) rfl ?_ | refine j_iinc (lv' := [(2, _), (3, _), (1, _), (0, _)]) (q := 54) C dX7_readSum_51 rfl rfl rfl (by decide) rfl ?_
          refine j_goto (tgt := 7) C dX7_readSum_54 (by decide) ?_
          exact j_fewer (lv' := [(2, .int (nI (i + 1))), (1, .int (nI 0)), (0, .ref rd)]) (by simp) (ih (i + 1) _ M_48 (by omega) a3 (by rw [← hQe, pLp, if_neg (by rw [hq]; decide), ho]) hS3)
  refine j_aload_n (q := 1) C dX7_readSum_0 rfl rfl rfl ?_
  refine j_iload_n (q := 2) C dX7_readSum_1 rfl rfl rfl ?_
  refine jVT jc7 (q := 5) C dX7_readSum_2 rfl hs7 mX7_readOne kw_559 kw_560 kw_16 (ctX7_readOne_4 hSo hSc hI hS) rfl rfl (by decide) (Nat.le_of_ble_eq_true rfl) (by decide) (fun r_2 M_2 h_2 => ?_)
  obtain ⟨rfl, hS1⟩ := h_2
  refine j_iconst (v := nI 0) (q := 6) C dX7_readSum_5 rfl (by decide) ?_
  refine j_istore_n (lv' := [(2, _), (0, _), (1, _)]) (q := 7) C dX7_readSum_6 rfl rfl (by decide) rfl ?_
  exact j_fewer (lv' := [(2, .int (nI 0)), (1, .int (nI 0)), (0, .ref rd)]) (by simp) (loop7 160 0 _ M_2 rfl (pI_sub (pOne_G (k := 21) hT (lvE_G hT 4).1 (by omega)) hI) (by rw [eQ]; unfold pSum; rfl) hS1)

set_option maxRecDepth 100000 in
set_option maxHeartbeats 4000000 in
theorem ctX7_readNot_4 {G : jG} {sz : Nat} {Sh : jS} {M : jM} {rd : Nat} {S : Nat → Prop} {T : Nat → Nat} {n : Nat} {M0 : jM} {P : List Nat} {q : pS} (hSo : S rd) (hSc : S (rd + 2)) (hI : pI n P q) (hS : cSt S rd Sh T n M0 P M q) : jC G yX7_readNot cX7_readNot 3 (Option.none : Option FieldType) (jrm 47 0 0) sz Sh M [.ref rd, .int (nI 0)] (jT sz Sh (fun r M1 => r = none ∧ cSt S rd Sh T n M0 P M1 (pNot T n (lvE T n 4).1 (lvE T n 4).2 q))) := by
  refine jC_start (by decide +kernel) (Nat.le_of_ble_eq_true rfl) (fun X C E hN0 => ?_)
  have hs7 := (cSt_lay hS).1.1
  have hn160 : n ≤ 160 := (cSt_lay hS).2.2.1
  have hT := (cSt_lay hS).2.2.2.1
  have hS0 := hS
  obtain ⟨K, a, b, c, d, e, hQ, hB, hG⟩ := hS0
  refine j_aload_n (q := 1) C dX7_readNot_0 rfl rfl rfl ?_
  refine cg_token hQ (q' := 4) C dX7_readNot_1 rfl kw_248 ?_
  refine j_bipush (v := (-13)) (q := 6) C dX7_readNot_4 rfl (by decide) ?_
  refine j_icmp_ne (q := 9) (tgt := 37) C dX7_readNot_6 rfl (by decide) (fun c_6 => ?_) (fun c_6 => ?_)
  · refine j_aload_n (q := 38) C dX7_readNot_37 rfl rfl rfl ?_
    refine j_iload_n (q := 39) C dX7_readNot_38 rfl rfl rfl ?_
    refine jVT jc7 (q := 42) C dX7_readNot_39 rfl hs7 mX7_readSum kw_556 kw_557 kw_15 (ctX7_readSum_4 hSo hSc hI hS) rfl rfl (by decide) (Nat.le_of_ble_eq_true rfl) (by decide) (fun r_39 M_39 h_39 => ?_)
    obtain ⟨rfl, hS3⟩ := h_39
    have hI3 := pI_sub (pSum_G (k := 21) hT (lvE_G hT 4).1 (by omega)) hI
    have eN : pNot T n (lvE T n 4).1 (lvE T n 4).2 q = pCmp T n (lvE T n 4).1 (pSum T n (lvE T n 4).1 q) := by
      unfold pNot
      by_cases hb : q.1 = true
      · rw [if_pos hb, ((pSum_G (k := 21) hT (lvE_G hT 4).1 (by omega)) q hI.1).1 hb]; unfold pCmp; rw [if_pos hb]
      · have h1 := (hG (bf hb)).1
        rw [if_neg hb, if_neg (fun h => c_6 (by rw [h1, h]; decide))]
    obtain ⟨q3, e3⟩ : ∃ z, z = pSum T n (lvE T n 4).1 q := ⟨_, rfl⟩
    rw [← e3] at hS3 hI3 eN
    have hS0 := hS3
    obtain ⟨K3, a3, b3, c3, d3, e3', hQ, hB3, hG3⟩ := hS0
    refine j_aload_n (q := 43) C dX7_readNot_42 rfl rfl rfl ?_
    refine cg_token hQ (q' := 46) C dX7_readNot_43 rfl kw_248 ?_
    refine j_bipush (v := (-21)) (q := 48) C dX7_readNot_46 rfl (by decide) ?_
    refine j_icmp_eq (q := 51) (tgt := 60) C dX7_readNot_48 rfl (by decide) (fun c_48 => ?_) (fun c_48 => ?_)
    · have hq3 : q3.1 = false := bf (fun hq => by
        rw [(hB3 hq).1] at c_48
        exact absurd c_48 (by decide))
      obtain ⟨rfl, rfl, rfl, h33, rfl, hK3⟩ := hG3 hq3
      have htk : tk T n q3.2.1 = (3, 7) := cT_inj hT (by decide) (Eq.trans c_48 (by decide))
      obtain rfl := h33 (by rw [htk]; decide)
      have ho : oCmp (tk T n q3.2.1) = some 2000002 := by rw [htk]; rfl
      obtain ⟨a1, a2, a3, a4⟩ := pI_step (c := 2000002) (pSum_G (k := 21) hT (lvE_G hT 4).1 (by omega)) hq3 (by rw [htk]; decide) hI3
      have hl159 : (pSum T n (lvE T n 4).1 (pNx T n q3)).1 = false → (P ++ (pSum T n (lvE T n 4).1 (pNx T n q3)).2.2).length ≤ 159 := fun hf => by
        have h := a3.2 (by rw [pEm_f hf])
        have h9 := a3.1
        rw [pEm_f hf] at h h9
        have h8 : P.length + ((pSum T n (lvE T n 4).1 (pNx T n q3)).2.2 ++ [2000002]).length ≤ (pSum T n (lvE T n 4).1 (pNx T n q3)).2.1 := h
        have h7 : (pSum T n (lvE T n 4).1 (pNx T n q3)).2.1 ≤ n := h9
        simp only [List.length_append, List.length_cons, List.length_nil] at h8
        rw [List.length_append]; omega
      refine j_aload_n (q := 61) C dX7_readNot_60 rfl rfl rfl ?_
      refine cg_token hQ (q' := 64) C dX7_readNot_61 rfl kw_248 ?_
      refine j_istore_n (lv' := [(2, _), (0, _), (1, _)]) (q := 65) C dX7_readNot_64 rfl rfl (by decide) rfl ?_
      refine j_aload_n (q := 66) C dX7_readNot_65 rfl rfl rfl ?_
      refine jVT jc7 (q := 69) C dX7_readNot_66 rfl hs7 mX7_advance kw_471 kw_472 kw_3 (ctX7_advance hSo hQ (tt_n (T := T) hI3.1).1) rfl rfl (by decide) (Nat.le_of_ble_eq_true rfl) (by decide) (fun r_66 M_66 h_66 => ?_)
      obtain ⟨rfl, hN⟩ := h_66
      have hS4 := cSt_nx hq3 hN hK3
      refine j_aload_n (q := 70) C dX7_readNot_69 rfl rfl rfl ?_
      refine j_iload_n (q := 71) C dX7_readNot_70 rfl rfl rfl ?_
      refine jVT jc7 (q := 74) C dX7_readNot_71 rfl hs7 mX7_readSum kw_556 kw_557 kw_15 (ctX7_readSum_4 hSo hSc a1 hS4) rfl rfl (by decide) (Nat.le_of_ble_eq_true rfl) (by decide) (fun r_71 M_71 h_71 => ?_)
      obtain ⟨rfl, hS5⟩ := h_71
      refine j_aload_n (q := 75) C dX7_readNot_74 rfl rfl rfl ?_
      refine j_iload_n (q := 76) C dX7_readNot_75 rfl rfl rfl ?_
      refine jVT jc7 (q := 79) C dX7_readNot_76 rfl hs7 mX7_emit kw_553 kw_554 kw_14 (ctX7_emit hSo hSc a2 hS5 hl159 (k0 := 2000002) (by rw [htk]; decide)) rfl rfl (by decide) (Nat.le_of_ble_eq_true rfl) (by decide) (fun r_76 M_76 h_76 => ?_)
      obtain ⟨rfl, hS6⟩ := h_76
      exact j_vret C E dX7_readNot_79 rfl rfl (⟨rfl, rfl, rfl, by rw [eN]; unfold pCmp; rw [if_neg (by rw [hq3]; decide), ho]; exact hS6⟩)
    · refine j_aload_n (q := 52) C dX7_readNot_51 rfl rfl rfl ?_
      refine cg_token hQ (q' := 55) C dX7_readNot_52 rfl kw_248 ?_
      refine j_bipush (v := (-22)) (q := 57) C dX7_readNot_55 rfl (by decide) ?_
      refine j_icmp_ne (q := 60) (tgt := 79) C dX7_readNot_57 rfl (by decide) (fun c_57 => ?_) (fun c_57 => ?_)
      · exact j_vret C E dX7_readNot_79 rfl rfl (⟨rfl, rfl, rfl, by
            rw [eN]; unfold pCmp
            by_cases hb : q3.1 = true
            · rw [if_pos hb]; exact hS3
            · have h1 := (hG3 (bf hb)).1
              have ho : oCmp (tk T n q3.2.1) = none := by unfold oCmp; rw [if_neg (fun h => c_48 (by rw [h1, h]; decide)), if_neg (fun h => c_57 (by rw [h1, h]; decide))]
              rw [if_neg hb, ho]; exact hS3⟩)
      · have hq3 : q3.1 = false := bf (fun hq => by
          rw [(hB3 hq).1] at c_57
          exact absurd c_57 (by decide))
        obtain ⟨rfl, rfl, rfl, h33, rfl, hK3⟩ := hG3 hq3
        have htk : tk T n q3.2.1 = (3, 8) := cT_inj hT (by decide) (Eq.trans c_57 (by decide))
        obtain rfl := h33 (by rw [htk]; decide)
        have ho : oCmp (tk T n q3.2.1) = some 2000003 := by rw [htk]; rfl
        obtain ⟨a1, a2, a3, a4⟩ := pI_step (c := 2000003) (pSum_G (k := 21) hT (lvE_G hT 4).1 (by omega)) hq3 (by rw [htk]; decide) hI3
        have hl159 : (pSum T n (lvE T n 4).1 (pNx T n q3)).1 = false → (P ++ (pSum T n (lvE T n 4).1 (pNx T n q3)).2.2).length ≤ 159 := fun hf => by
          have h := a3.2 (by rw [pEm_f hf])
          have h9 := a3.1
          rw [pEm_f hf] at h h9
          have h8 : P.length + ((pSum T n (lvE T n 4).1 (pNx T n q3)).2.2 ++ [2000003]).length ≤ (pSum T n (lvE T n 4).1 (pNx T n q3)).2.1 := h
          have h7 : (pSum T n (lvE T n 4).1 (pNx T n q3)).2.1 ≤ n := h9
          simp only [List.length_append, List.length_cons, List.length_nil] at h8
          rw [List.length_append]; omega
        refine j_aload_n (q := 61) C dX7_readNot_60 rfl rfl rfl ?_
        refine cg_token hQ (q' := 64) C dX7_readNot_61 rfl kw_248 ?_
        refine j_istore_n (lv' := [(2, _), (0, _), (1, _)]) (q := 65) C dX7_readNot_64 rfl rfl (by decide) rfl ?_
        refine j_aload_n (q := 66) C dX7_readNot_65 rfl rfl rfl ?_
        refine jVT jc7 (q := 69) C dX7_readNot_66 rfl hs7 mX7_advance kw_471 kw_472 kw_3 (ctX7_advance hSo hQ (tt_n (T := T) hI3.1).1) rfl rfl (by decide) (Nat.le_of_ble_eq_true rfl) (by decide) (fun r_66 M_66 h_66 => ?_)
        obtain ⟨rfl, hN⟩ := h_66
        have hS4 := cSt_nx hq3 hN hK3
        refine j_aload_n (q := 70) C dX7_readNot_69 rfl rfl rfl ?_
        refine j_iload_n (q := 71) C dX7_readNot_70 rfl rfl rfl ?_
        refine jVT jc7 (q := 74) C dX7_readNot_71 rfl hs7 mX7_readSum kw_556 kw_557 kw_15 (ctX7_readSum_4 hSo hSc a1 hS4) rfl rfl (by decide) (Nat.le_of_ble_eq_true rfl) (by decide) (fun r_71 M_71 h_71 => ?_)
        obtain ⟨rfl, hS5⟩ := h_71
        refine j_aload_n (q := 75) C dX7_readNot_74 rfl rfl rfl ?_
        refine j_iload_n (q := 76) C dX7_readNot_75 rfl rfl rfl ?_
        refine jVT jc7 (q := 79) C dX7_readNot_76 rfl hs7 mX7_emit kw_553 kw_554 kw_14 (ctX7_emit hSo hSc a2 hS5 hl159 (k0 := 2000003) (by rw [htk]; decide)) rfl rfl (by decide) (Nat.le_of_ble_eq_true rfl) (by decide) (fun r_76 M_76 h_76 => ?_)
        obtain ⟨rfl, hS6⟩ := h_76
        exact j_vret C E dX7_readNot_79 rfl rfl (⟨rfl, rfl, rfl, by rw [eN]; unfold pCmp; rw [if_neg (by rw [hq3]; decide), ho]; exact hS6⟩)
  · have hq : q.1 = false := bf (fun hq => by
      rw [(hB hq).1] at c_6
      exact absurd c_6 (by decide))
    obtain ⟨rfl, rfl, rfl, h3, rfl, hK⟩ := hG hq
    have htk : tk T n q.2.1 = (1, 12) := cT_inj hT (by decide) (Eq.trans c_6 (by decide))
    obtain rfl := h3 (by rw [htk]; decide)
    refine j_iload_n (q := 10) C dX7_readNot_9 rfl rfl rfl ?_
    refine j_iconst (v := nI 4) (q := 11) C dX7_readNot_10 rfl (by decide) ?_
    refine j_icmp_lt (q := 14) (tgt := 19) C dX7_readNot_11 rfl (by decide) (fun c_11 => ?_) (fun c_11 => absurd (by decide) c_11)
    refine j_aload_n (q := 20) C dX7_readNot_19 rfl rfl rfl ?_
    refine jVT jc7 (q := 23) C dX7_readNot_20 rfl hs7 mX7_advance kw_471 kw_472 kw_3 (ctX7_advance hSo hQ (tt_n (T := T) hI.1).1) rfl rfl (by decide) (Nat.le_of_ble_eq_true rfl) (by decide) (fun r_20 M_20 h_20 => ?_)
    obtain ⟨rfl, hN⟩ := h_20
    have hS1 := cSt_nx hq hN hK
    obtain ⟨a1, a2, a3, a4⟩ := pI_step (c := 2000008) (pNot_G (k := 16) hT (lvE_G hT 3).1 (lvE_G hT 3).2 (by omega)) hq (by rw [htk]; decide) hI
    have hl159 : ((pNot T n (lvE T n 3).1 (lvE T n 3).2) (pNx T n q)).1 = false → (P ++ ((pNot T n (lvE T n 3).1 (lvE T n 3).2) (pNx T n q)).2.2).length ≤ 159 := fun hf => by
      have h := a3.2 (by rw [pEm_f hf])
      have h9 := a3.1
      rw [pEm_f hf] at h h9
      have h8 : P.length + (((pNot T n (lvE T n 3).1 (lvE T n 3).2) (pNx T n q)).2.2 ++ [2000008]).length ≤ ((pNot T n (lvE T n 3).1 (lvE T n 3).2) (pNx T n q)).2.1 := h
      have h7 : ((pNot T n (lvE T n 3).1 (lvE T n 3).2) (pNx T n q)).2.1 ≤ n := h9
      simp only [List.length_append, List.length_cons, List.length_nil] at h8
      rw [List.length_append]; omega
    refine j_aload_n (q := 24) C dX7_readNot_23 rfl rfl rfl ?_
    refine j_iload_n (q := 25) C dX7_readNot_24 rfl rfl rfl ?_
    refine j_iconst (v := nI 1) (q := 26) C dX7_readNot_25 rfl (by decide) ?_
    first | refine j_iaddN (q := 27) C dX7_readNot_26 rfl ?_ | refine j_iadd (q := 27) C dX7_readNot_26 rfl ?_
    refine jVT jc7 (q := 30) C dX7_readNot_27 rfl hs7 mX7_readNot kw_550 kw_551 kw_13 (ctX7_readNot_3 hSo hSc a1 hS1) rfl rfl (by decide) (Nat.le_of_ble_eq_true rfl) (by decide) (fun r_27 M_27 h_27 => ?_)
    obtain ⟨rfl, hS2⟩ := h_27
    refine j_aload_n (q := 31) C dX7_readNot_30 rfl rfl rfl ?_
    refine j_bipush (v := (-13)) (q := 33) C dX7_readNot_31 rfl (by decide) ?_
    refine jVT jc7 (q := 36) C dX7_readNot_33 rfl hs7 mX7_emit kw_553 kw_554 kw_14 (ctX7_emit hSo hSc a2 hS2 hl159 (k0 := 2000008) (by decide)) rfl rfl (by decide) (Nat.le_of_ble_eq_true rfl) (by decide) (fun r_33 M_33 h_33 => ?_)
    obtain ⟨rfl, hS3⟩ := h_33
    exact j_vret C E dX7_readNot_36 rfl rfl (⟨rfl, rfl, rfl, by rw [show pNot T n (lvE T n 4).1 (lvE T n 4).2 q = pEm 2000008 (pNot T n (lvE T n 3).1 (lvE T n 3).2 (pNx T n q)) by unfold pNot; rw [if_neg (by rw [hq]; decide), if_pos htk]; rfl]; exact hS3⟩)

set_option maxRecDepth 100000 in
set_option maxHeartbeats 4000000 in
theorem ctX7_readAnd_4 {G : jG} {sz : Nat} {Sh : jS} {M : jM} {rd : Nat} {S : Nat → Prop} {T : Nat → Nat} {n : Nat} {M0 : jM} {P : List Nat} {q : pS} (hSo : S rd) (hSc : S (rd + 2)) (hI : pI n P q) (hS : cSt S rd Sh T n M0 P M q) : jC G yX7_readAnd cX7_readAnd 3 (Option.none : Option FieldType) (jrm 48 0 0) sz Sh M [.ref rd, .int (nI 0)] (jT sz Sh (fun r M1 => r = none ∧ cSt S rd Sh T n M0 P M1 (pAnd T n (lvE T n 4).1 (lvE T n 4).2 q))) := by
  refine jC_start (by decide +kernel) (Nat.le_of_ble_eq_true rfl) (fun X C E hN0 => ?_)
  have hs7 := (cSt_lay hS).1.1
  have hn160 : n ≤ 160 := (cSt_lay hS).2.2.1
  have hT := (cSt_lay hS).2.2.2.1
  have hS0 := hS
  obtain ⟨K, a, b, c, d, e, hQ, hB, hG⟩ := hS0
  obtain ⟨Q, eQ⟩ : ∃ z, z = pAnd T n (lvE T n 4).1 (lvE T n 4).2 q := ⟨_, rfl⟩
  rw [← eQ] at E
  have loop7 : ∀ (f i : Nat) (q : pS) (M : jM), i + f = 160 → pI n P q → pLp T n oAnd (pNot T n (lvE T n 4).1 (lvE T n 4).2) f q = Q → cSt S rd Sh T n M0 P M q → jJ G X 0 0 sz Sh M 7 [(2, .int (nI i)), (1, .int (nI 0)), (0, .ref rd)] [] := by
    intro f
    induction f with
    | zero =>
      intro i q M hi hI hQe hS
      have hS0 := hS
      obtain ⟨K, a, b, c, d, e, hQ, hB, hG⟩ := hS0
      refine j_iload_n (q := 8) C dX7_readAnd_7 rfl rfl rfl ?_
      refine j_sipush (v := nI 160) (q := 11) C dX7_readAnd_8 rfl (by decide) ?_
      refine j_icmp_ge (q := 14) (tgt := 44) C dX7_readAnd_11 rfl (by decide) (fun c_11 => ?_) (fun c_11 => absurd (nI_le (by omega) (by omega)) c_11)
      exact j_vret C E dX7_readAnd_44 rfl rfl (⟨rfl, rfl, rfl, by rw [← hQe]; exact hS⟩)
    | succ f ih =>
      intro i q M hi hI hQe hS
      have hS0 := hS
      obtain ⟨K, a, b, c, d, e, hQ, hB, hG⟩ := hS0
      refine j_iload_n (q := 8) C dX7_readAnd_7 rfl rfl rfl ?_
      refine j_sipush (v := nI 160) (q := 11) C dX7_readAnd_8 rfl (by decide) ?_
      refine j_icmp_ge (q := 14) (tgt := 44) C dX7_readAnd_11 rfl (by decide) (fun c_11 => absurd c_11 (fun h => absurd ((nI_leI (by omega) (by omega)).mp h) (by omega))) (fun c_11 => ?_)
      refine j_aload_n (q := 15) C dX7_readAnd_14 rfl rfl rfl ?_
      refine cg_token hQ (q' := 18) C dX7_readAnd_15 rfl kw_248 ?_
      refine j_bipush (v := (-11)) (q := 20) C dX7_readAnd_18 rfl (by decide) ?_
      refine j_icmp_ne (q := 23) (tgt := 44) C dX7_readAnd_20 rfl (by decide) (fun c_20 => ?_) (fun c_20 => ?_)
      · exact j_vret C E dX7_readAnd_44 rfl rfl (⟨rfl, rfl, rfl, by
              have e0 : pLp T n oAnd (pNot T n (lvE T n 4).1 (lvE T n 4).2) (f + 1) q = q := by
                by_cases hb : q.1 = true
                · exact pLp_bad hb _
                · have h1 := (hG (bf hb)).1
                  have ho : oAnd (tk T n q.2.1) = none := by unfold oAnd; rw [if_neg (fun h => c_20 (by rw [h1, h]; decide))]
                  rw [pLp, if_neg hb, ho]
              rw [← hQe, e0]; exact hS⟩)
      · have hq : q.1 = false := bf (fun hq => by
          rw [(hB hq).1] at c_20
          exact absurd c_20 (by decide))
        obtain ⟨rfl, rfl, rfl, h3, rfl, hK⟩ := hG hq
        have htk : tk T n q.2.1 = (1, 10) := cT_inj hT (by decide) (Eq.trans c_20 (by decide))
        obtain rfl := h3 (by rw [htk]; decide)
        have ho : oAnd (tk T n q.2.1) = some 2000001 := by rw [htk]; rfl
        obtain ⟨a1, a2, a3, a4⟩ := pI_step (c := 2000001) (pNot_G (k := 21) hT (lvE_G hT 4).1 (lvE_G hT 4).2 (by omega)) hq (by rw [htk]; decide) hI
        have hl159 : ((pNot T n (lvE T n 4).1 (lvE T n 4).2) (pNx T n q)).1 = false → (P ++ ((pNot T n (lvE T n 4).1 (lvE T n 4).2) (pNx T n q)).2.2).length ≤ 159 := fun hf => by
          have h := a3.2 (by rw [pEm_f hf])
          have h9 := a3.1
          rw [pEm_f hf] at h h9
          have h8 : P.length + (((pNot T n (lvE T n 4).1 (lvE T n 4).2) (pNx T n q)).2.2 ++ [2000001]).length ≤ ((pNot T n (lvE T n 4).1 (lvE T n 4).2) (pNx T n q)).2.1 := h
          have h7 : ((pNot T n (lvE T n 4).1 (lvE T n 4).2) (pNx T n q)).2.1 ≤ n := h9
          simp only [List.length_append, List.length_cons, List.length_nil] at h8
          rw [List.length_append]; omega
        refine j_aload_n (q := 24) C dX7_readAnd_23 rfl rfl rfl ?_
        refine jVT jc7 (q := 27) C dX7_readAnd_24 rfl hs7 mX7_advance kw_471 kw_472 kw_3 (ctX7_advance hSo hQ (tt_n (T := T) hI.1).1) rfl rfl (by decide) (Nat.le_of_ble_eq_true rfl) (by decide) (fun r_24 M_24 h_24 => ?_)
        obtain ⟨rfl, hN⟩ := h_24
        have hS1 := cSt_nx hq hN hK
        refine j_aload_n (q := 28) C dX7_readAnd_27 rfl rfl rfl ?_
        refine j_iload_n (q := 29) C dX7_readAnd_28 rfl rfl rfl ?_
        refine jVT jc7 (q := 32) C dX7_readAnd_29 rfl hs7 mX7_readNot kw_550 kw_551 kw_13 (ctX7_readNot_4 hSo hSc a1 hS1) rfl rfl (by decide) (Nat.le_of_ble_eq_true rfl) (by decide) (fun r_29 M_29 h_29 => ?_)
        obtain ⟨rfl, hS2⟩ := h_29
        refine j_aload_n (q := 33) C dX7_readAnd_32 rfl rfl rfl ?_
        refine j_bipush (v := (-11)) (q := 35) C dX7_readAnd_33 rfl (by decide) ?_
        refine jVT jc7 (q := 38) C dX7_readAnd_35 rfl hs7 mX7_emit kw_553 kw_554 kw_14 (ctX7_emit hSo hSc a2 hS2 hl159 (k0 := 2000001) (by decide)) rfl rfl (by decide) (Nat.le_of_ble_eq_true rfl) (by decide) (fun r_35 M_35 h_35 => ?_)
        obtain ⟨rfl, hS3⟩ := h_35
        first | refine j_iincN (lv' := [(2, _), (1, _), (0, _)]) (q := 41) C dX7_readAnd_38 rfl rfl (by decide) rfl ?_ | refine j_iinc (lv' := [(2, _), (1, _), (0, _)]) (q := 41) C dX7_readAnd_38 rfl rfl rfl (by decide) rfl ?_
        refine j_goto (tgt := 7) C dX7_readAnd_41 (by decide) ?_
        exact j_fewer (lv' := [(2, .int (nI (i + 1))), (1, .int (nI 0)), (0, .ref rd)]) (by simp) (ih (i + 1) _ M_35 (by omega) a3 (by rw [← hQe, pLp, if_neg (by rw [hq]; decide), ho]) hS3)
  refine j_aload_n (q := 1) C dX7_readAnd_0 rfl rfl rfl ?_
  refine j_iload_n (q := 2) C dX7_readAnd_1 rfl rfl rfl ?_
  refine jVT jc7 (q := 5) C dX7_readAnd_2 rfl hs7 mX7_readNot kw_550 kw_551 kw_13 (ctX7_readNot_4 hSo hSc hI hS) rfl rfl (by decide) (Nat.le_of_ble_eq_true rfl) (by decide) (fun r_2 M_2 h_2 => ?_)
  obtain ⟨rfl, hS1⟩ := h_2
  refine j_iconst (v := nI 0) (q := 6) C dX7_readAnd_5 rfl (by decide) ?_
  refine j_istore_n (lv' := [(2, _), (0, _), (1, _)]) (q := 7) C dX7_readAnd_6 rfl rfl (by decide) rfl ?_
  exact j_fewer (lv' := [(2, .int (nI 0)), (1, .int (nI 0)), (0, .ref rd)]) (by simp) (loop7 160 0 _ M_2 rfl (pI_sub (pNot_G (k := 21) hT (lvE_G hT 4).1 (lvE_G hT 4).2 (by omega)) hI) (by rw [eQ]; unfold pAnd; rfl) hS1)

set_option maxRecDepth 100000 in
set_option maxHeartbeats 4000000 in
theorem ctX7_readOr_4 {G : jG} {sz : Nat} {Sh : jS} {M : jM} {rd : Nat} {S : Nat → Prop} {T : Nat → Nat} {n : Nat} {M0 : jM} {P : List Nat} {q : pS} (hSo : S rd) (hSc : S (rd + 2)) (hI : pI n P q) (hS : cSt S rd Sh T n M0 P M q) : jC G yX7_readOr cX7_readOr 3 (Option.none : Option FieldType) (jrm 49 0 0) sz Sh M [.ref rd, .int (nI 0)] (jT sz Sh (fun r M1 => r = none ∧ cSt S rd Sh T n M0 P M1 (pOr T n (lvE T n 4).1 (lvE T n 4).2 q))) := by
  refine jC_start (by decide +kernel) (Nat.le_of_ble_eq_true rfl) (fun X C E hN0 => ?_)
  have hs7 := (cSt_lay hS).1.1
  have hn160 : n ≤ 160 := (cSt_lay hS).2.2.1
  have hT := (cSt_lay hS).2.2.2.1
  have hS0 := hS
  obtain ⟨K, a, b, c, d, e, hQ, hB, hG⟩ := hS0
  obtain ⟨Q, eQ⟩ : ∃ z, z = pOr T n (lvE T n 4).1 (lvE T n 4).2 q := ⟨_, rfl⟩
  rw [← eQ] at E
  have loop7 : ∀ (f i : Nat) (q : pS) (M : jM), i + f = 160 → pI n P q → pLp T n oOr (pAnd T n (lvE T n 4).1 (lvE T n 4).2) f q = Q → cSt S rd Sh T n M0 P M q → jJ G X 0 0 sz Sh M 7 [(2, .int (nI i)), (1, .int (nI 0)), (0, .ref rd)] [] := by
    intro f
    induction f with
    | zero =>
      intro i q M hi hI hQe hS
      have hS0 := hS
      obtain ⟨K, a, b, c, d, e, hQ, hB, hG⟩ := hS0
      refine j_iload_n (q := 8) C dX7_readOr_7 rfl rfl rfl ?_
      refine j_sipush (v := nI 160) (q := 11) C dX7_readOr_8 rfl (by decide) ?_
      refine j_icmp_ge (q := 14) (tgt := 44) C dX7_readOr_11 rfl (by decide) (fun c_11 => ?_) (fun c_11 => absurd (nI_le (by omega) (by omega)) c_11)
      exact j_vret C E dX7_readOr_44 rfl rfl (⟨rfl, rfl, rfl, by rw [← hQe]; exact hS⟩)
    | succ f ih =>
      intro i q M hi hI hQe hS
      have hS0 := hS
      obtain ⟨K, a, b, c, d, e, hQ, hB, hG⟩ := hS0
      refine j_iload_n (q := 8) C dX7_readOr_7 rfl rfl rfl ?_
      refine j_sipush (v := nI 160) (q := 11) C dX7_readOr_8 rfl (by decide) ?_
      refine j_icmp_ge (q := 14) (tgt := 44) C dX7_readOr_11 rfl (by decide) (fun c_11 => absurd c_11 (fun h => absurd ((nI_leI (by omega) (by omega)).mp h) (by omega))) (fun c_11 => ?_)
      refine j_aload_n (q := 15) C dX7_readOr_14 rfl rfl rfl ?_
      refine cg_token hQ (q' := 18) C dX7_readOr_15 rfl kw_248 ?_
      refine j_bipush (v := (-12)) (q := 20) C dX7_readOr_18 rfl (by decide) ?_
      refine j_icmp_ne (q := 23) (tgt := 44) C dX7_readOr_20 rfl (by decide) (fun c_20 => ?_) (fun c_20 => ?_)
      · exact j_vret C E dX7_readOr_44 rfl rfl (⟨rfl, rfl, rfl, by
              have e0 : pLp T n oOr (pAnd T n (lvE T n 4).1 (lvE T n 4).2) (f + 1) q = q := by
                by_cases hb : q.1 = true
                · exact pLp_bad hb _
                · have h1 := (hG (bf hb)).1
                  have ho : oOr (tk T n q.2.1) = none := by unfold oOr; rw [if_neg (fun h => c_20 (by rw [h1, h]; decide))]
                  rw [pLp, if_neg hb, ho]
              rw [← hQe, e0]; exact hS⟩)
      · have hq : q.1 = false := bf (fun hq => by
          rw [(hB hq).1] at c_20
          exact absurd c_20 (by decide))
        obtain ⟨rfl, rfl, rfl, h3, rfl, hK⟩ := hG hq
        have htk : tk T n q.2.1 = (1, 11) := cT_inj hT (by decide) (Eq.trans c_20 (by decide))
        obtain rfl := h3 (by rw [htk]; decide)
        have ho : oOr (tk T n q.2.1) = some 2000000 := by rw [htk]; rfl
        obtain ⟨a1, a2, a3, a4⟩ := pI_step (c := 2000000) (pAnd_G (k := 21) hT (lvE_G hT 4).1 (lvE_G hT 4).2 (by omega)) hq (by rw [htk]; decide) hI
        have hl159 : ((pAnd T n (lvE T n 4).1 (lvE T n 4).2) (pNx T n q)).1 = false → (P ++ ((pAnd T n (lvE T n 4).1 (lvE T n 4).2) (pNx T n q)).2.2).length ≤ 159 := fun hf => by
          have h := a3.2 (by rw [pEm_f hf])
          have h9 := a3.1
          rw [pEm_f hf] at h h9
          have h8 : P.length + (((pAnd T n (lvE T n 4).1 (lvE T n 4).2) (pNx T n q)).2.2 ++ [2000000]).length ≤ ((pAnd T n (lvE T n 4).1 (lvE T n 4).2) (pNx T n q)).2.1 := h
          have h7 : ((pAnd T n (lvE T n 4).1 (lvE T n 4).2) (pNx T n q)).2.1 ≤ n := h9
          simp only [List.length_append, List.length_cons, List.length_nil] at h8
          rw [List.length_append]; omega
        refine j_aload_n (q := 24) C dX7_readOr_23 rfl rfl rfl ?_
        refine jVT jc7 (q := 27) C dX7_readOr_24 rfl hs7 mX7_advance kw_471 kw_472 kw_3 (ctX7_advance hSo hQ (tt_n (T := T) hI.1).1) rfl rfl (by decide) (Nat.le_of_ble_eq_true rfl) (by decide) (fun r_24 M_24 h_24 => ?_)
        obtain ⟨rfl, hN⟩ := h_24
        have hS1 := cSt_nx hq hN hK
        refine j_aload_n (q := 28) C dX7_readOr_27 rfl rfl rfl ?_
        refine j_iload_n (q := 29) C dX7_readOr_28 rfl rfl rfl ?_
        refine jVT jc7 (q := 32) C dX7_readOr_29 rfl hs7 mX7_readAnd kw_547 kw_548 kw_12 (ctX7_readAnd_4 hSo hSc a1 hS1) rfl rfl (by decide) (Nat.le_of_ble_eq_true rfl) (by decide) (fun r_29 M_29 h_29 => ?_)
        obtain ⟨rfl, hS2⟩ := h_29
        refine j_aload_n (q := 33) C dX7_readOr_32 rfl rfl rfl ?_
        refine j_bipush (v := (-12)) (q := 35) C dX7_readOr_33 rfl (by decide) ?_
        refine jVT jc7 (q := 38) C dX7_readOr_35 rfl hs7 mX7_emit kw_553 kw_554 kw_14 (ctX7_emit hSo hSc a2 hS2 hl159 (k0 := 2000000) (by decide)) rfl rfl (by decide) (Nat.le_of_ble_eq_true rfl) (by decide) (fun r_35 M_35 h_35 => ?_)
        obtain ⟨rfl, hS3⟩ := h_35
        first | refine j_iincN (lv' := [(2, _), (1, _), (0, _)]) (q := 41) C dX7_readOr_38 rfl rfl (by decide) rfl ?_ | refine j_iinc (lv' := [(2, _), (1, _), (0, _)]) (q := 41) C dX7_readOr_38 rfl rfl rfl (by decide) rfl ?_
        refine j_goto (tgt := 7) C dX7_readOr_41 (by decide) ?_
        exact j_fewer (lv' := [(2, .int (nI (i + 1))), (1, .int (nI 0)), (0, .ref rd)]) (by simp) (ih (i + 1) _ M_35 (by omega) a3 (by rw [← hQe, pLp, if_neg (by rw [hq]; decide), ho]) hS3)
  refine j_aload_n (q := 1) C dX7_readOr_0 rfl rfl rfl ?_
  refine j_iload_n (q := 2) C dX7_readOr_1 rfl rfl rfl ?_
  refine jVT jc7 (q := 5) C dX7_readOr_2 rfl hs7 mX7_readAnd kw_547 kw_548 kw_12 (ctX7_readAnd_4 hSo hSc hI hS) rfl rfl (by decide) (Nat.le_of_ble_eq_true rfl) (by decide) (fun r_2 M_2 h_2 => ?_)
  obtain ⟨rfl, hS1⟩ := h_2
  refine j_iconst (v := nI 0) (q := 6) C dX7_readOr_5 rfl (by decide) ?_
  refine j_istore_n (lv' := [(2, _), (0, _), (1, _)]) (q := 7) C dX7_readOr_6 rfl rfl (by decide) rfl ?_
  exact j_fewer (lv' := [(2, .int (nI 0)), (1, .int (nI 0)), (0, .ref rd)]) (by simp) (loop7 160 0 _ M_2 rfl (pI_sub (pAnd_G (k := 21) hT (lvE_G hT 4).1 (lvE_G hT 4).2 (by omega)) hI) (by rw [eQ]; unfold pOr; rfl) hS1)

