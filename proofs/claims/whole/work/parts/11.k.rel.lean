theorem nForce_at {N : Nat → Int64} {la : Nat} (h6 : N 6 = lN la) (c e : Int64) (k : Nat) : nForce N la c e k = if k = 6 then lN (la + 1) else if k = 278 + 2 * la + 1 then e else if k = 278 + 2 * la then c else N k := by
  unfold nForce
  by_cases k6 : k = 6
  · subst k6
    rw [va_up_self, va_up_ne _ _ (by omega), va_up_ne _ _ (by omega), h6, lN_1, if_pos rfl]
  · rw [va_up_ne _ _ k6, if_neg k6]
    by_cases k1 : k = 278 + 2 * la + 1
    · subst k1; rw [va_up_self, if_pos rfl]
    · rw [va_up_ne _ _ k1, if_neg k1]
      by_cases k2 : k = 278 + 2 * la
      · subst k2; rw [va_up_self, if_pos rfl]
      · rw [va_up_ne _ _ k2, if_neg k2]
theorem eFc_N {tx : Option Nat} {la : Nat} {t c e : Int32} {N : Nat → Int64} (h6 : N 6 = lN la) (hla : la ≤ 12) (hN : ∀ x, x < 5 → t = nI x → (N (302 + x) = 0 ↔ tx = none)) : eForce N t c e = eFc tx la t c e := by
  unfold eForce eFc
  by_cases C : okW t 4 ∧ okW c 1 ∧ okW e 300
  · rw [if_pos C, if_pos C]
    obtain ⟨x, hx, rfl⟩ := jix2 (n := 4) (by omega) C.1.1 C.1.2
    rw [nI_clamp (by omega)]
    have a1 := hN x (by omega) rfl
    by_cases c1 : tx = none
    · rw [if_pos c1, if_pos (a1.mpr c1)]
    · rw [if_neg c1, if_neg (fun z => c1 (a1.mp z)), h6]
      by_cases c2 : la = 12
      · subst c2; rw [if_pos rfl, if_pos (show lN 12 = (12 : Int64) from rfl)]
      · rw [if_neg c2, if_neg (by rw [show (12 : Int64) = lN 12 from rfl, pk_lEQ (by omega) (by omega)]; exact c2)]
  · rw [if_neg C, if_neg C]
theorem eFc_0 {tx : Option Nat} {la : Nat} {t c e : Int32} (h : eFc tx la t c e = 0) : (∃ x, x < 5 ∧ t = nI x) ∧ okW t 4 ∧ ¬ tx = none ∧ ¬ la = 12 := by
  unfold eFc at h
  by_cases C : okW t 4 ∧ okW c 1 ∧ okW e 300
  · rw [if_pos C] at h
    obtain ⟨x, hx, rfl⟩ := jix2 (n := 4) (by omega) C.1.1 C.1.2
    refine ⟨⟨x, by omega, rfl⟩, C.1, ?_⟩
    by_cases c1 : tx = none
    · rw [if_pos c1] at h; exact absurd h (by decide)
    · rw [if_neg c1] at h
      by_cases c2 : la = 12
      · rw [if_pos c2] at h; exact absurd h (by decide)
      · exact ⟨c1, c2⟩
  · rw [if_neg C] at h; exact absurd h (by decide)
theorem pr_force {G : jG} {mm f sz : Nat} {Sh : jS} {M : jM} {d pe pa la : Nat} {LT : Nat → sT} (h : REL mm f sz Sh M d pe pa la LT) {t c e : Int32} : jPair (mm + 440) G sz Sh M yX10_force cX10_force 4 3 0 0 [.ref mm, .int t, .int c, .int e] yX11_force cX11_force 6 2 [.ref (mm + 440), .int t, .int c, .int e] (RQ mm f sz) := by
  have hs := h.1.1.1
  have hz := h.2.1
  have hW := h.1.2.1
  have hL := h.1.2.2.2.2.2.1
  have hw := h.2.2.1
  obtain ⟨w1, w2, w3, w4, w5, w6, w7, w8⟩ := id hw
  have hcl := wR_cls hw
  have hla12 := w2.2.2.2.1.2
  have hla : M.1 (mm + 7) 4 = nI la := i32_of (v := vK (mm + 13) (mm + 14) (mm + 12) (mm + 7) M 6) (by rw [vK_6]) (REL_nOk h).2.2.2.1.1
  obtain ⟨tx, htx, htn⟩ : ∃ tx : Option Nat, (okW t 4 → M.2.2 (mm + 7 + 1) t.toNatClampNeg = tx) ∧ (¬ okW t 4 → tx = none) := by
    by_cases c4 : okW t 4
    · exact ⟨_, fun _ => rfl, fun e => absurd c4 e⟩
    · exact ⟨none, fun e => absurd e c4, fun _ => rfl⟩
  have hca : ∀ ca, tx = some ca → (Sh ca).1 = 1 := fun ca hc => by
    by_cases c4 : okW t 4
    · have := htx c4
      obtain ⟨x, hx, rfl⟩ := jix2 (n := 4) (by omega) c4.1 c4.2
      rw [nI_clamp (by omega)] at this
      exact hcl.1 x (by omega) ca (this.trans hc)
    · rw [htn c4] at hc; cases hc
  have heq : ∀ N : Nat → Int64, N = M.2.1 (mm + 441) → eForce N t c e = eFc tx la t c e := fun N hN => by
    refine eFc_N (by rw [hN]; exact w2.2.2.2.1.1) hla12 (fun x hx et => ?_)
    subst et
    have c4 : okW (nI x) 4 := okW_n (by omega) (by omega)
    have e1 := htx c4
    rw [nI_clamp (by omega)] at e1
    rw [hN, ← e1]
    rcases w8 x hx with g | ⟨ca, tt, g1, -, -, -, g5, -⟩
    · exact ⟨fun _ => g.1, fun _ => g.2⟩
    · exact ⟨fun z => by rw [g5] at z; exact absurd z (by decide), fun z => by rw [g1] at z; cases z⟩
  refine mkPairX h (ctX10_force hs h.1.1.2.1 hW hL hla hla12 htx hca) (fun he r M1 hx a ha hb => ?_) (fun _ r M1 hx => by obtain ⟨ca, -, e, -⟩ := hx; exact ⟨_, e⟩) (fun M1 hR h1 => by rw [← heq (M.2.1 (mm + 441)) rfl]; exact ctX11_force hR w2.2.2.2.1.1 hla12) (fun he r1 M1 r2 M2 hx hy e0 => ?_)
  · obtain ⟨ca, -, -, rfl⟩ := hx
    refine ⟨?_, rfl, ?_⟩
    · exact ((jup_ne (by omega)).trans (jup_ne (by omega))).trans (jup_ne (by omega))
    · exact jup_ne (by omega)
  · obtain ⟨⟨x, hx5, rfl⟩, c4, hne, hl12⟩ := eFc_0 he
    obtain ⟨ca, etx, rfl, rfl⟩ := hx
    have ex := htx c4
    rw [nI_clamp (by omega), etx] at ex
    obtain ⟨rfl, Mx, rfl, y1, y2⟩ := hy
    rw [nI_clamp (by omega)] at y2
    have i1 : ∀ a j, (jsI (jsI (jsI (jsP M (mm + 7 + 2) la (some ca)) (mm + 7 + 3) la c) (mm + 7 + 4) la e) (mm + 7) 4 (nI (la + 1))).1 a j = if a = mm + 7 ∧ j = 4 then nI (la + 1) else if a = mm + 7 + 4 ∧ j = la then e else if a = mm + 7 + 3 ∧ j = la then c else M.1 a j := fun a j => rfl
    have i2 : (jsI (jsI (jsI (jsP M (mm + 7 + 2) la (some ca)) (mm + 7 + 3) la c) (mm + 7 + 4) la e) (mm + 7) 4 (nI (la + 1))).2.1 = M.2.1 := rfl
    have i3 : ∀ a j, (jsI (jsI (jsI (jsP M (mm + 7 + 2) la (some ca)) (mm + 7 + 3) la c) (mm + 7 + 4) la e) (mm + 7) 4 (nI (la + 1))).2.2 a j = if a = mm + 7 + 2 ∧ j = la then some ca else M.2.2 a j := fun a j => rfl
    generalize jsI (jsI (jsI (jsP M (mm + 7 + 2) la (some ca)) (mm + 7 + 3) la c) (mm + 7 + 4) la e) (mm + 7) 4 (nI (la + 1)) = M1 at i1 i2 i3 y1 y2 e0
    have m0 : (jw Mx (mm + 440 + 1) (nForce (M.2.1 (mm + 441)) la c.toInt64 e.toInt64)).2.1 (mm + 441) = nForce (M.2.1 (mm + 441)) la c.toInt64 e.toInt64 := jw_at _ _ _
    have mo : ∀ a, a ≠ mm + 441 → a ≠ mm + 444 → (jw Mx (mm + 440 + 1) (nForce (M.2.1 (mm + 441)) la c.toInt64 e.toInt64)).2.1 a = M.2.1 a := fun a h1 h2 => ((jw_ne _ _ (by omega)).trans (y1.2.1 a (by omega))).trans (congrFun i2 a)
    have mi : ∀ a, a ≠ mm + 444 → (jw Mx (mm + 440 + 1) (nForce (M.2.1 (mm + 441)) la c.toInt64 e.toInt64)).1 a = M1.1 a := fun a h1 => y1.1 a (by omega)
    have mr : (jw Mx (mm + 440 + 1) (nForce (M.2.1 (mm + 441)) la c.toInt64 e.toInt64)).2.2 = M1.2.2 := y1.2.2
    have m4 : ∀ j, (jw Mx (mm + 440 + 1) (nForce (M.2.1 (mm + 441)) la c.toInt64 e.toInt64)).1 (mm + 444) j = if 168 * (5 + la) ≤ j ∧ j < 168 * (5 + la) + 168 then M.1 (mm + 444) (168 * x + (j - 168 * (5 + la))) else M.1 (mm + 444) j := fun j => by
      refine (y2 j).trans ?_
      have e4 : ∀ z, M1.1 (mm + 440 + 4) z = M.1 (mm + 444) z := fun z => by rw [i1, if_neg (by omega), if_neg (by omega), if_neg (by omega)]
      rw [e4, e4]
    refine ⟨_, rfl, rfl, ?_⟩
    generalize jw Mx (mm + 440 + 1) (nForce (M.2.1 (mm + 441)) la c.toInt64 e.toInt64) = M2 at m0 mo mi mr m4
    have ii : ∀ a, a ≠ mm + 7 → a ≠ mm + 10 → a ≠ mm + 11 → a ≠ mm + 444 → M2.1 a = M.1 a := fun a h1 h2 h3 h4 => by
      rw [mi a h4]; funext j; rw [i1, if_neg (by omega), if_neg (by omega), if_neg (by omega)]
    have rr : ∀ a, a ≠ mm + 9 → M2.2.2 a = M.2.2 a := fun a h1 => by
      rw [mr]; funext j; rw [i3, if_neg (by omega)]
    have r9 : ∀ j, M2.2.2 (mm + 7 + 2) j = if j = la then some ca else M.2.2 (mm + 7 + 2) j := fun j => by
      rw [mr, i3]
      by_cases cj : j = la
      · rw [if_pos ⟨rfl, cj⟩, if_pos cj]
      · rw [if_neg (fun z => cj z.2), if_neg cj]
    have hh : hi_ (mm + 455) sz Sh Sh M M2 := fun b hb _ => ⟨rfl, ii b (by omega) (by omega) (by omega) (by omega), rr b (by omega)⟩
    have hN : ∀ k, M2.2.1 (mm + 441) k = if k = 6 then lN (la + 1) else if k = 278 + 2 * la + 1 then e.toInt64 else if k = 278 + 2 * la then c.toInt64 else M.2.1 (mm + 441) k := fun k => by rw [m0]; exact nForce_at w2.2.2.2.1.1 _ _ k
    have hNo : ∀ k, k ≠ 6 → k ≠ 278 + 2 * la + 1 → k ≠ 278 + 2 * la → M2.2.1 (mm + 441) k = M.2.1 (mm + 441) k := fun k h1 h2 h3 => by rw [hN, if_neg h1, if_neg h2, if_neg h3]
    obtain ⟨⟨a1, a2⟩, ⟨b1, b2⟩, ⟨c1, c2⟩, ⟨e1, e2⟩, f1, g1⟩ := w2
    have hpe := b2
    have hpa := c2
    obtain ⟨tt, u2, u3, u4, u6⟩ : ∃ tt, mm + 455 ≤ ca ∧ cdOk Sh M ca tt ∧ (∀ sa, M.2.2 ca 0 = some sa → mm + 455 ≤ sa) ∧ tOk (M.1 (mm + 444)) (168 * x) tt := by
      rcases w8 x hx5 with g | ⟨ca2, tt, g1, g2, g3, g4, -, g6⟩
      · rw [g.1] at ex; cases ex
      · rw [g1] at ex; cases ex; exact ⟨tt, g2, g3, g4, g6⟩
    have ucd := u3.g u2 u4 hh hz.2
    refine ⟨by omega, f, d, pe, pa, la + 1, fun l => if l = la then tt else LT l, by omega, h.1.g (fun _ _ _ => rfl) (fun b h1 h2 h3 h4 h5 h6 => rr b (by omega)), hz, ⟨?_, ?_, ?_, ?_, ?_, ?_, ?_, ?_⟩, ?_, ?_, fun s hs4 => (h.2.2.2.2.2.1 s hs4).mv hs4 (fun b hb => ii b (by omega) (by omega) (by omega) (by omega)), ?_, ?_⟩
    · intro k hk
      rw [hN]
      by_cases k6 : k = 6
      · subst k6
        rw [if_pos rfl, vK_6, mi (mm + 7) (by omega), i1, if_pos ⟨rfl, rfl⟩, nI_l (by omega)]
      · rw [if_neg k6]
        by_cases k1 : k = 278 + 2 * la + 1
        · subst k1
          rw [if_pos rfl, vK_f (by omega), mi (mm + 7 + 4) (by omega), i1, if_neg (by omega), if_pos ⟨rfl, rfl⟩]
        · rw [if_neg k1]
          by_cases k2 : k = 278 + 2 * la
          · subst k2
            rw [if_pos rfl, vK_c (by omega), mi (mm + 7 + 3) (by omega), i1, if_neg (by omega), if_neg (by omega), if_pos ⟨rfl, rfl⟩]
          · rw [if_neg k2]
            rw [← w1 k (hk.imp (fun z => by unfold nIn at z ⊢; omega) id)]
            refine vK_same (fun _ => ⟨fun _ => ?_, fun _ => ?_, fun _ => ?_, fun z => absurd z k6, fun _ => ?_, fun _ => ?_, fun _ => ?_⟩) (fun i f hi hf ek => ⟨fun _ => ?_, fun _ => ?_⟩) (fun j f hj hf ek => ⟨fun _ => ?_, fun _ => ?_⟩) (fun l hl => ⟨fun z => ?_, fun z => ?_⟩) (fun d ek => ?_)
            · rw [ii _ (by omega) (by omega) (by omega) (by omega)]
            · rw [ii _ (by omega) (by omega) (by omega) (by omega)]
            · rw [ii _ (by omega) (by omega) (by omega) (by omega)]
            · rw [mo _ (by omega) (by omega)]
            · rw [mo _ (by omega) (by omega)]
            · rw [mo _ (by omega) (by omega)]
            · rw [ii _ (by omega) (by omega) (by omega) (by omega)]
            · rw [mo _ (by omega) (by omega)]
            · rw [ii _ (by omega) (by omega) (by omega) (by omega)]
            · rw [mo _ (by omega) (by omega)]
            · rw [mi _ (by omega), i1, if_neg (by omega), if_neg (by omega), if_neg (by omega)]
            · rw [mi _ (by omega), i1, if_neg (by omega), if_neg (by omega), if_neg (by omega)]
            · rw [mo _ (by omega) (by omega)]
    · refine ⟨⟨(hNo 0 (by omega) (by omega) (by omega)).trans a1, a2⟩, ⟨(hNo 4 (by omega) (by omega) (by omega)).trans b1, b2⟩, ⟨(hNo 5 (by omega) (by omega) (by omega)).trans c1, c2⟩, ⟨by rw [hN, if_pos rfl], by omega⟩, fun j hj => ?_, fun k hk => by rw [hNo (310 + k) (by omega) (by omega) (by omega)]; exact g1 k hk⟩
      have := f1 j hj
      unfold pOk at this ⊢
      rw [hNo (110 + 7 * j + 0) (by omega) (by omega) (by omega), hNo (110 + 7 * j + 1) (by omega) (by omega) (by omega), hNo (110 + 7 * j + 2) (by omega) (by omega) (by omega), hNo (110 + 7 * j + 4) (by omega) (by omega) (by omega), hNo (110 + 7 * j + 5) (by omega) (by omega) (by omega)]
      exact this
    · intro i f hi hf
      rw [hNo _ (by omega) (by omega) (by omega)]; exact w3 i f hi hf
    · intro j hj
      rw [hNo _ (by omega) (by omega) (by omega)]; exact w4 j hj
    · intro l hl
      dsimp only
      by_cases el : l = la
      · subst el
        exact ⟨ca, by rw [r9, if_pos rfl], u2, by rw [if_pos rfl]; exact ucd.1, ucd.2⟩
      · obtain ⟨cb, d1, d2, d3, d4⟩ := w5 l (by omega)
        have g := d3.g d2 d4 hh hz.2
        exact ⟨cb, by rw [r9, if_neg el]; exact d1, d2, by rw [if_neg el]; exact g.1, g.2⟩
    · intro l hl
      dsimp only
      by_cases el : l = la
      · subst el
        rw [if_pos rfl]
        exact u6.g (fun j hj => by rw [m4, if_pos (by omega), show 168 * (5 + l) + j - 168 * (5 + l) = j by omega])
      · rw [if_neg el]
        exact (w6 l (by omega)).g (fun j hj => by rw [m4, if_neg (by omega)])
    · intro l hl hl2
      rw [r9, if_neg (by omega)]
      exact w7 l (by omega) hl2
    · intro t2 ht2
      exact (w8 t2 ht2).g hh hz.2 (by rw [rr _ (by omega)]) (hNo _ (by omega) (by omega) (by omega)) (fun j hj => by rw [m4, if_neg (by omega)])
    · rcases h.2.2.2.1 with ⟨p1, p2⟩ | ⟨p1, p2, d2, pe2, pa2, la2, LT2, hk⟩
      · exact Or.inl ⟨by rw [ii _ (by omega) (by omega) (by omega) (by omega)]; exact p1, by rw [ii _ (by omega) (by omega) (by omega) (by omega)]; exact p2⟩
      · refine Or.inr ⟨by rw [ii _ (by omega) (by omega) (by omega) (by omega)]; exact p1, by rw [ii _ (by omega) (by omega) (by omega) (by omega)]; exact p2, d2, pe2, pa2, la2, LT2, ?_⟩
        rw [mo (mm + 443) (by omega) (by omega), ii (mm + 445) (by omega) (by omega) (by omega) (by omega)]
        have vk : vK (mm + 50) (mm + 57) (mm + 56) (mm + 51) M2 = vK (mm + 50) (mm + 57) (mm + 56) (mm + 51) M := by
          funext k
          refine vK_same (fun _ => ⟨fun _ => ?_, fun _ => ?_, fun _ => ?_, fun _ => ?_, fun _ => ?_, fun _ => ?_, fun _ => ?_⟩) (fun i f hi hf ek => ⟨fun _ => ?_, fun _ => ?_⟩) (fun j f hj hf ek => ⟨fun _ => ?_, fun _ => ?_⟩) (fun l hl => ⟨fun _ => ?_, fun _ => ?_⟩) (fun d ek => ?_)
          all_goals first | rw [ii _ (by omega) (by omega) (by omega) (by omega)] | rw [mo _ (by omega) (by omega)]
        exact hk.g (by rw [vk]; exact nQ.rf) (fun _ _ => rfl) (fun _ _ => rfl) hh hz.2 (fun t ht => by rw [rr _ (by omega)]) (fun l hl => by rw [rr _ (by omega)])
    · obtain ⟨T, tp, ht1, ht2⟩ := h.2.2.2.2.1
      refine ⟨T, tp, ?_, ?_⟩
      · unfold cTp at ht1 ⊢
        rw [ii (mm + 428) (by omega) (by omega) (by omega) (by omega), ii (mm + 428 + 1) (by omega) (by omega) (by omega) (by omega)]
        exact ht1
      · unfold rTp at ht2 ⊢
        rw [ii (mm + 440) (by omega) (by omega) (by omega) (by omega), ii (mm + 440 + 6) (by omega) (by omega) (by omega) (by omega)]
        exact ht2
    · rw [mo mm (by omega) (by omega)]; exact h.2.2.2.2.2.2.1
    · rw [ii (mm + 440) (by omega) (by omega) (by omega) (by omega)]; exact h.2.2.2.2.2.2.2
