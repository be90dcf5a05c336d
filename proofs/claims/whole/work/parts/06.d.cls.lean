/-- a view hangs on its own cells alone -/
theorem vK_mEq {w q pr lw : Nat} {M M' : jM} {S : Nat → Prop} (h : mEq S M M') (hS : ∀ b, wS0 w q pr b ∨ (lw ≤ b ∧ b ≤ lw + 4) → ¬ S b) : vK w q pr lw M' = vK w q pr lw M := by
  unfold wS0 at hS
  funext k
  exact vK_same (fun _ => ⟨fun _ => congrFun (h.1 _ (hS _ (by omega))) _, fun _ => congrFun (h.1 _ (hS _ (by omega))) _, fun _ => congrFun (h.1 _ (hS _ (by omega))) _, fun _ => congrFun (h.1 _ (hS _ (by omega))) _, fun _ => congrFun (h.2.1 _ (hS _ (by omega))) _, fun _ => congrFun (h.2.1 _ (hS _ (by omega))) _, fun _ => congrFun (h.2.1 _ (hS _ (by omega))) _⟩) (fun i f hi hf ek => ⟨fun _ => congrFun (h.1 _ (hS _ (by omega))) _, fun _ => congrFun (h.2.1 _ (hS _ (by omega))) _⟩) (fun j f hj hf ek => ⟨fun _ => congrFun (h.1 _ (hS _ (by omega))) _, fun _ => congrFun (h.2.1 _ (hS _ (by omega))) _⟩) (fun l hl => ⟨fun _ => congrFun (h.1 _ (hS _ (by omega))) _, fun _ => congrFun (h.1 _ (hS _ (by omega))) _⟩) (fun d ek => congrFun (h.2.1 _ (hS _ (by omega))) _)
def mLay (mk : Nat) (Sh : jS) (M : jM) : Prop := (Sh mk).1 = 4 ∧ Sh (mk + 1) = (14, 10) ∧ Sh (mk + 2) = (13, 10) ∧ M.2.2 mk 0 = some (mk + 1) ∧ M.2.2 mk 1 = some (mk + 2)
def mAp (w q pr lw mk : Nat) : Prop := ¬ wS0 w q pr (mk + 1) ∧ ¬ wS0 w q pr (mk + 2) ∧ (mk + 2 < lw ∨ lw + 4 < mk)
theorem mLay.mv {mk : Nat} {Sh : jS} {M M' : jM} {S : Nat → Prop} (h : mLay mk Sh M) (e : mEq S M M') : mLay mk Sh M' := by
  unfold mLay at h ⊢
  rw [e.2.2]
  exact h
def mS (mk b : Nat) : Prop := b = mk + 1 ∨ b = mk + 2
theorem mAp.K {w q pr lw mk : Nat} {M M' : jM} (h : mAp w q pr lw mk) (e : mEq (mS mk) M M') : vK w q pr lw M' = vK w q pr lw M := vK_mEq e (fun b hb hs => by
  obtain ⟨h1, h2, h3⟩ := h
  rcases hs with rfl | rfl
  · rcases hb with hb | hb
    · exact h1 hb
    · omega
  · rcases hb with hb | hb
    · exact h2 hb
    · omega)
def wSM (w q pr mk b : Nat) : Prop := wS0 w q pr b ∨ mS mk b
theorem sub0M {w q pr mk : Nat} : ∀ b, wS0 w q pr b → wSM w q pr mk b := fun _ h => Or.inl h
theorem subMM {w q pr mk : Nat} : ∀ b, mS mk b → wSM w q pr mk b := fun _ h => Or.inr h
/-- the offers as the class has them -/
def oRow (mk : Nat) (M : jM) (B : Nat → Int64) (n : Nat) : Prop := ∀ s, s < n → (M.1 (mk + 2) s).toInt64 = B s
def aRow (mk : Nat) (M : jM) (A : Nat → Int64) (n : Nat) : Prop := ∀ s, s < n → M.2.1 (mk + 1) s = A s
theorem i32_of {x : Int32} {v : Int64} {n : Nat} (h : x.toInt64 = v) (hv : v = lN n) : x = nI n := by rw [← i32_rt x, h, hv, lN_i]
theorem imn_N {a b : Nat} (ha : a < 2 ^ 31) (hb : b < 2 ^ 31) : imn (nI a) (nI b) = nI (min a b) := by
  unfold imn
  by_cases h : b < a
  · rw [if_pos ((nI_ltI hb ha).mpr h), Nat.min_eq_right (by omega)]
  · rw [if_neg (fun c => h ((nI_ltI hb ha).mp c)), Nat.min_eq_left (by omega)]
/-- a trader's end -/
def wTM (w q pr lw mk : Nat) (M : jM) (q1 : (Nat → Int64) × (Nat → Int64)) (pe : Nat) : Option Value → jM → Prop := fun r M2 => r = none ∧ vK w q pr lw M2 = q1.2 ∧ oRow mk M2 q1.1 pe ∧ M2.2.1 (mk + 1) = M.2.1 (mk + 1) ∧ mEq (wSM w q pr mk) M M2
set_option maxRecDepth 100000 in
set_option maxHeartbeats 4000000 in
theorem ctX4_buyFor {G : jG} {sz : Nat} {Sh : jS} {M : jM} {w q pr lw jg mk : Nat} {K : Nat → Int64} (hW : wLay w q pr lw jg mk Sh M) (hM : vK w q pr lw M = K) (hL : mLay mk Sh M) (hAp : mAp w q pr lw mk) {A B : Nat → Int64} {d pe h p : Nat} (h4 : K 4 = lN pe) (hpe : pe ≤ 10) (hh : h < pe) (hp : 1 ≤ p) (hp2 : p ≤ 1000000000000000) (hQ : iQ A d pe h (B, K)) (hA : M.2.1 (mk + 1) h = A h) (hB : oRow mk M B pe) : jC G yX4_buyFor cX4_buyFor 9 (Option.none : Option FieldType) (jrm 3 0 0) sz Sh M [.ref mk, .ref w, .int (nI h), .long (lN p)] (jT sz Sh (wTM w q pr lw mk M (nBuysL A (lN p) pe h (B, K)) pe)) := by
  refine jC_start (by decide +kernel) (Nat.le_of_ble_eq_true rfl) (fun X C E hN0 => ?_)
  have hlv : isN (K (10 + 10 * h + 1)) 9999 := hQ.1.lv hh
  have hlv2 := hlv.2
  have hak : isN (A h) (nv (K (10 + 10 * h + 0))) := hQ.2.2 h (Nat.le_refl _) hh
  have hm9 : nv (K (10 + 10 * h + 0)) ≤ 1000000000000000 := (hQ.1.mk hh).2
  have hak2 := hak.2
  have dv := Nat.div_le_self (nv (A h)) p
  refine j_sipush (v := nI 9999) (q := 3) C dX4_buyFor_0 rfl (by decide) ?_
  refine j_aload_n (q := 4) C dX4_buyFor_3 rfl rfl rfl ?_
  refine jg_World_persons (q := 7) C dX4_buyFor_4 rfl hW.1.1 kw_192 hW.2.1.1 ?_
  refine j_iload_n (q := 8) C dX4_buyFor_7 rfl rfl rfl ?_
  refine wa_pers hW (by omega) (q' := 9) C dX4_buyFor_8 rfl ?_
  refine wg_Person_loaves (by omega) hW hM (q' := 12) C dX4_buyFor_9 rfl kw_147 ?_
  refine j_top (v' := .int (nI (nv (K (10 + 10 * h + 1))))) (congrArg Value.int (k32 hlv.1)) ?_
  refine j_isub (q := 13) C dX4_buyFor_12 rfl ?_
  refine j_top (v' := .int (nI (9999 - nv (K (10 + 10 * h + 1))))) (congrArg Value.int (pk_sub (by omega))) ?_
  refine j_istore (lv' := [(5, _), (0, _), (1, _), (2, _), (3, _)]) (q := 15) C dX4_buyFor_13 rfl (by decide) rfl ?_
  refine j_iload (q := 17) C dX4_buyFor_15 rfl rfl ?_
  first | refine j_i2lN (q := 18) C dX4_buyFor_17 rfl (by omega) ?_ | refine j_i2l (q := 18) C dX4_buyFor_17 rfl rfl ?_
  refine j_aload_n (q := 19) C dX4_buyFor_18 rfl rfl rfl ?_
  refine jg_Market_asks (q := 22) C dX4_buyFor_19 rfl hL.1 kw_113 hL.2.2.2.1 ?_
  refine j_iload_n (q := 23) C dX4_buyFor_22 rfl rfl rfl ?_
  refine j_lald (q := 24) C dX4_buyFor_23 rfl hL.2.1 (by omega) (by decide) ?_
  rw [hA, hak.1]
  refine j_lload_n (q := 25) C dX4_buyFor_24 rfl rfl rfl ?_
  refine j_ldiv (q := 26) C dX4_buyFor_25 rfl (fun e => by have := (pk_lEQ (b := 0) (by omega) (by omega)).mp e; omega) ?_
  rw [pk_lDiv (by omega) (by omega) (by omega)]
  refine j_lmin (q := 29) C dX4_buyFor_26 rfl kw_636 (by decide) (Nat.le_of_ble_eq_true rfl) (by decide) ?_
  rw [lmn_N (by omega) (by omega)]
  first | refine j_l2iN (q := 30) C dX4_buyFor_29 rfl ?_ | refine j_l2i (q := 30) C dX4_buyFor_29 rfl rfl ?_
  refine j_istore (lv' := [(6, _), (5, _), (0, _), (1, _), (2, _), (3, _)]) (q := 32) C dX4_buyFor_30 rfl (by decide) rfl ?_
  refine j_iconst (v := nI 0) (q := 33) C dX4_buyFor_32 rfl (by decide) ?_
  refine j_istore (lv' := [(7, _), (6, _), (5, _), (0, _), (1, _), (2, _), (3, _)]) (q := 35) C dX4_buyFor_33 rfl (by decide) rfl ?_
  have hW0 := hW
  have hL0 := hL
  clear hW hL
  have hI := iM.start hQ.1 hQ.2.1 hQ.2.2 hh hp hp2
  obtain ⟨L, eL'⟩ : ∃ z, z = lmn (A h / lN p) (9999 - K (10 + 10 * h + 1)) := ⟨_, rfl⟩
  rw [← eL'] at hI
  have eL : nBuysL A (lN p) pe h (B, K) = (nBuy h (lN p) (L, B, K) pe).2 := by rw [eL']; rfl
  have hI2 := hI.2.2.2
  obtain ⟨w0, hw0, hl0⟩ := hI2
  dsimp only at hw0 hl0
  have loop35 : ∀ (n k : Nat) (wk : Nat) (Mk : jM), wk ≤ 9999 → (nBuy h (lN p) (L, B, K) k).1 = lN wk → vK w q pr lw Mk = (nBuy h (lN p) (L, B, K) k).2.2 → oRow mk Mk (nBuy h (lN p) (L, B, K) k).2.1 pe → Mk.2.1 (mk + 1) = M.2.1 (mk + 1) → mEq (wSM w q pr mk) M Mk → k + n = pe → jJ G X 0 0 sz Sh Mk 35 [(7, .int (nI k)), (6, .int (nI wk)), (3, .long (lN p)), (2, .int (nI h)), (1, .ref w), (0, .ref mk)] [] := by
    intro n
    induction n with
    | zero =>
      intro k wk Mk hw9 hw hMk hOk hAr hE hk
      obtain ⟨Lk, Bk, Kk, hQk⟩ : ∃ a b c, nBuy h (lN p) (L, B, K) k = (a, b, c) := ⟨_, _, _, rfl⟩
      have hIk := hI.run hpe hh k (by omega)
      rw [hQk] at hw hMk hOk hIk
      dsimp only at hw hMk hOk
      have hM : vK w q pr lw Mk = Kk := hMk
      have hW := hW0.mv hE
      have hL := hL0.mv hE
      have h4k : Kk 4 = lN pe := by
        have e := nBuy_eq (q := (L, B, K)) (pr := lN p) (h := h) (by omega) k (by omega) 4 (by unfold nSt; omega)
        rw [hQk] at e
        exact e.trans h4
      obtain ⟨hBk, hbk, -, w2, hw2, hlk⟩ := hIk
      dsimp only at hBk hbk hw2 hlk
      have hwk : wk = w2 := (pk_lEQ (by omega) (by have := hlk.1; omega)).mp (hw.symm.trans hw2)
      subst hwk
      have hl1 := hlk.1
      have hSS : ∀ b, wS0 w q pr b → wSM w q pr mk b := sub0M
      refine j_iload (q := 37) C dX4_buyFor_35 rfl rfl ?_
      refine j_aload_n (q := 38) C dX4_buyFor_37 rfl rfl rfl ?_
      refine wg_World_people hW hM (q' := 41) C dX4_buyFor_38 rfl kw_205 ?_
      refine j_top (v' := .int (nI pe)) (congrArg Value.int (k32 h4k)) ?_
      refine j_icmp_ge (q := 44) (tgt := 114) C dX4_buyFor_41 rfl (by decide) (fun c_41 => ?_) (fun c_41 => absurd (nI_le (by omega) (by omega)) c_41)
      obtain rfl : pe = k := by omega
      exact j_vret C E dX4_buyFor_114 rfl rfl (⟨rfl, rfl, rfl, by rw [eL, hQk]; exact hM, by rw [eL, hQk]; exact hOk, hAr, hE⟩)
    | succ n ih =>
      intro k wk Mk hw9 hw hMk hOk hAr hE hk
      obtain ⟨Lk, Bk, Kk, hQk⟩ : ∃ a b c, nBuy h (lN p) (L, B, K) k = (a, b, c) := ⟨_, _, _, rfl⟩
      have hIk := hI.run hpe hh k (by omega)
      rw [hQk] at hw hMk hOk hIk
      dsimp only at hw hMk hOk
      have hM : vK w q pr lw Mk = Kk := hMk
      have hW := hW0.mv hE
      have hL := hL0.mv hE
      have h4k : Kk 4 = lN pe := by
        have e := nBuy_eq (q := (L, B, K)) (pr := lN p) (h := h) (by omega) k (by omega) 4 (by unfold nSt; omega)
        rw [hQk] at e
        exact e.trans h4
      obtain ⟨hBk, hbk, -, w2, hw2, hlk⟩ := hIk
      dsimp only at hBk hbk hw2 hlk
      have hwk : wk = w2 := (pk_lEQ (by omega) (by have := hlk.1; omega)).mp (hw.symm.trans hw2)
      subst hwk
      have hl1 := hlk.1
      have hSS : ∀ b, wS0 w q pr b → wSM w q pr mk b := sub0M
      refine j_iload (q := 37) C dX4_buyFor_35 rfl rfl ?_
      refine j_aload_n (q := 38) C dX4_buyFor_37 rfl rfl rfl ?_
      refine wg_World_people hW hM (q' := 41) C dX4_buyFor_38 rfl kw_205 ?_
      refine j_top (v' := .int (nI pe)) (congrArg Value.int (k32 h4k)) ?_
      refine j_icmp_ge (q := 44) (tgt := 114) C dX4_buyFor_41 rfl (by decide) (fun c_41 => absurd c_41 (fun h => absurd ((nI_leI (by omega) (by omega)).mp h) (by omega))) (fun c_41 => ?_)
      
      refine j_iload (q := 46) C dX4_buyFor_44 rfl rfl ?_
      refine j_if_le (q := 49) (tgt := 114) C dX4_buyFor_46 rfl (by decide) (fun c_46 => ?_) (fun c_46 => ?_)
      · have w0 : wk = 0 := by
          have := (nI_leI (b := 0) (by omega) (by omega)).mp c_46
          omega
        have eS := nBuy_stop hI hpe hh k (by rw [hQk]; show Lk = 0; rw [hw, w0]; rfl) (pe - k) (by omega)
        rw [show k + (pe - k) = pe by omega, hQk] at eS
        exact j_vret C E dX4_buyFor_114 rfl rfl (⟨rfl, rfl, rfl, by rw [eL, eS]; exact hM, by rw [eL, eS]; exact hOk, hAr, hE⟩)
      · refine j_iload (q := 51) C dX4_buyFor_49 rfl rfl ?_
        refine j_iload_n (q := 52) C dX4_buyFor_51 rfl rfl rfl ?_
        refine j_icmp_eq (q := 55) (tgt := 108) C dX4_buyFor_52 rfl (by decide) (fun c_52 => ?_) (fun c_52 => ?_)
        · first | refine j_iincN (lv' := [(7, _), (6, _), (3, _), (2, _), (1, _), (0, _)]) (q := 111) C dX4_buyFor_108 rfl rfl (by decide) rfl ?_ | refine j_iinc (lv' := [(7, _), (6, _), (3, _), (2, _), (1, _), (0, _)]) (q := 111) C dX4_buyFor_108 rfl rfl rfl (by decide) rfl ?_
          refine j_goto (tgt := 35) C dX4_buyFor_111 (by decide) ?_
          have ekh : k = h := (nI_eq (by omega) (by omega)).mp c_52
          have eQ : nBuy h (lN p) (L, B, K) (k + 1) = (Lk, Bk, Kk) := by
            rw [nBuy, hQk, ekh]
            exact nBuy1_own hBk hpe hh
          exact j_fewer (lv' := [(7, .int (nI (k + 1))), (6, .int (nI wk)), (3, .long (lN p)), (2, .int (nI h)), (1, .ref w), (0, .ref mk)]) (by simp) (ih (k + 1) wk Mk hw9 (by rw [eQ]; exact hw) (by rw [eQ]; exact hM) (by rw [eQ]; exact hOk) hAr hE (by omega))
        · have hb1 := hbk k (by omega)
          have hb2 := hb1.2
          have hlv := hBk.lv (i := k) (by omega)
          have hlv2 := hlv.2
          have ebk : Mk.1 (mk + 2) k = nI (nv (Bk k)) := i32_of (hOk k (by omega)) hb1.1
          refine j_iload (q := 57) C dX4_buyFor_55 rfl rfl ?_
          refine j_aload_n (q := 58) C dX4_buyFor_57 rfl rfl rfl ?_
          refine jg_Market_offers (q := 61) C dX4_buyFor_58 rfl hL.1 kw_114 hL.2.2.2.2 ?_
          refine j_iload (q := 63) C dX4_buyFor_61 rfl rfl ?_
          refine j_iald (q := 64) C dX4_buyFor_63 rfl hL.2.2.1 (by omega) (by decide) ?_
          rw [ebk]
          refine j_imin (q := 67) C dX4_buyFor_64 rfl kw_641 (by decide) (Nat.le_of_ble_eq_true rfl) (by decide) ?_
          rw [imn_N (by omega) (by omega)]
          refine j_istore (lv' := [(8, _), (7, _), (6, _), (3, _), (2, _), (1, _), (0, _)]) (q := 69) C dX4_buyFor_67 rfl (by decide) rfl ?_
          refine j_iload (q := 71) C dX4_buyFor_69 rfl rfl ?_
          refine j_iload (q := 73) C dX4_buyFor_71 rfl rfl ?_
          refine j_isub (q := 74) C dX4_buyFor_73 rfl ?_
          refine j_top (v' := .int (nI (wk - (min wk (nv (Bk k)))))) (congrArg Value.int (pk_sub (Nat.min_le_left _ _))) ?_
          refine j_istore (lv' := [(6, _), (8, _), (7, _), (3, _), (2, _), (1, _), (0, _)]) (q := 76) C dX4_buyFor_74 rfl (by decide) rfl ?_
          refine j_aload_n (q := 77) C dX4_buyFor_76 rfl rfl rfl ?_
          refine jg_Market_offers (q := 80) C dX4_buyFor_77 rfl hL.1 kw_114 hL.2.2.2.2 ?_
          refine j_iload (q := 82) C dX4_buyFor_80 rfl rfl ?_
          refine j_dup2_11 (q := 83) C dX4_buyFor_82 rfl rfl rfl ?_
          refine j_iald (q := 84) C dX4_buyFor_83 rfl hL.2.2.1 (by omega) (by decide) ?_
          rw [ebk]
          refine j_iload (q := 86) C dX4_buyFor_84 rfl rfl ?_
          refine j_isub (q := 87) C dX4_buyFor_86 rfl ?_
          refine j_top (v' := .int (nI (nv (Bk k) - (min wk (nv (Bk k)))))) (congrArg Value.int (pk_sub (Nat.min_le_right _ _))) ?_
          refine j_iast (q := 88) C dX4_buyFor_87 rfl hL.2.2.1 (by omega) (by decide) ?_
          generalize eM1 : jsI Mk (mk + 2) k _ = M1
          have hE1 : mEq (mS mk) Mk M1 := by rw [← eM1]; exact mEq.rf.I (Or.inr rfl)
          have hM1 : vK w q pr lw M1 = Kk := (hAp.K hE1).trans hM
          replace hE := hE.tr (hE1.mono subMM)
          replace hW := hW.mv hE1
          replace hL := hL.mv hE1
          have hM0 := hM
          clear hM
          have hM := hM1
          refine j_aload_n (q := 89) C dX4_buyFor_88 rfl rfl rfl ?_
          refine j_aload_n (q := 90) C dX4_buyFor_89 rfl rfl rfl ?_
          refine jg_World_persons (q := 93) C dX4_buyFor_90 rfl hW.1.1 kw_192 hW.2.1.1 ?_
          refine j_iload_n (q := 94) C dX4_buyFor_93 rfl rfl rfl ?_
          refine wa_pers hW (by omega) (q' := 95) C dX4_buyFor_94 rfl ?_
          refine j_aload_n (q := 96) C dX4_buyFor_95 rfl rfl rfl ?_
          refine jg_World_persons (q := 99) C dX4_buyFor_96 rfl hW.1.1 kw_192 hW.2.1.1 ?_
          refine j_iload (q := 101) C dX4_buyFor_99 rfl rfl ?_
          refine wa_pers hW (by omega) (q' := 102) C dX4_buyFor_101 rfl ?_
          refine j_iload (q := 104) C dX4_buyFor_102 rfl rfl ?_
          refine j_lload_n (q := 105) C dX4_buyFor_104 rfl rfl rfl ?_
          refine jVT jc9 (q := 108) C dX4_buyFor_105 rfl hW.1.1 mX9_trade kw_642 kw_643 kw_644 (ctX9_trade hW hM (m := (min wk (nv (Bk k)))) (by omega) (by omega) (fun e => c_52 (by rw [e])) hlv.1 (by omega) (by omega) (hBk.lv hh).1 (by omega)) rfl rfl (by decide) (Nat.le_of_ble_eq_true rfl) (by decide) (fun r_105 M_105 h_105 => ?_)
          obtain ⟨rfl, hM2, hE2⟩ := h_105
          have hE3 := hE.tr (hE2.mono hSS)
          have eN : (if k = h then 0 else lmn Lk (Bk k)) = lN (min wk (nv (Bk k))) := by rw [if_neg (fun e => c_52 (by rw [e])), hw, hb1.1, lmn_N (by omega) (by omega), nv_lN (by omega)]
          have eQ : nBuy h (lN p) (L, B, K) (k + 1) = (lN (wk - (min wk (nv (Bk k)))), va_up Bk k (Bk k - lN (min wk (nv (Bk k)))), nBuyN h (lN p) k (lN (min wk (nv (Bk k)))) Kk) := by
            rw [nBuy, hQk]
            unfold nBuy1
            dsimp only
            rw [eN, hw, lN_sub (Nat.min_le_left _ _)]
          first | refine j_iincN (lv' := [(7, _), (6, _), (8, _), (3, _), (2, _), (1, _), (0, _)]) (q := 111) C dX4_buyFor_108 rfl rfl (by decide) rfl ?_ | refine j_iinc (lv' := [(7, _), (6, _), (8, _), (3, _), (2, _), (1, _), (0, _)]) (q := 111) C dX4_buyFor_108 rfl rfl rfl (by decide) rfl ?_
          refine j_goto (tgt := 35) C dX4_buyFor_111 (by decide) ?_
          refine j_fewer (lv' := [(7, .int (nI (k + 1))), (6, .int (nI (wk - (min wk (nv (Bk k)))))), (3, .long (lN p)), (2, .int (nI h)), (1, .ref w), (0, .ref mk)]) (by simp) (ih (k + 1) (wk - (min wk (nv (Bk k)))) M_105 (by omega) (by rw [eQ]) (by rw [eQ]; exact hM2) (fun s hs => ?_) (by rw [hE2.2.1 _ hAp.1, ← eM1]; exact hAr) hE3 (by omega))
          rw [eQ]
          dsimp only
          have h1 : M_105.1 (mk + 2) = M1.1 (mk + 2) := hE2.1 _ hAp.2.1
          rw [h1, ← eM1]
          by_cases cs : s = k
          · subst cs
            rw [upIs, va_up_self, hb1.1, nv_lN (by omega), lN_sub (Nat.min_le_right _ _), nI_l (by omega)]
          · rw [upI (fun e => cs e.2), va_up_ne _ _ cs]
            exact hOk s hs
  have ew0 : min (9999 - nv (K (10 + 10 * h + 1))) (nv (A h) / p) = w0 := by
    have e := eL'.symm.trans hw0
    rw [hak.1, hlv.1, pk_lDiv (by omega) (by omega) (by omega), show (9999 : Int64) = lN 9999 from rfl, lN_sub hlv2, lmn_N (by omega) (by omega), Nat.min_comm] at e
    exact (pk_lEQ (by omega) (by have := hl0.1; omega)).mp e
  rw [ew0]
  exact j_fewer (lv' := [(7, .int (nI 0)), (6, .int (nI w0)), (3, .long (lN p)), (2, .int (nI h)), (1, .ref w), (0, .ref mk)]) (by simp) (loop35 pe 0 w0 M (by have := hl0.1; omega) hw0 hM hB rfl mEq.rf (by omega))

