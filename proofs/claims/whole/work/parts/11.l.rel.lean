theorem REL_text {mm f sz z : Nat} {Sh S : jS} {M M2 : jM} {d pe pa la : Nat} {LT : Nat → sT} (h : REL mm f sz Sh M d pe pa la LT) (hz1 : sz ≤ z) (FS : ∀ b, b < sz → S b = Sh b) (Fz : ∀ b, z ≤ b → ¬ (S b).1 < 20) (F1 : ∀ b, b < sz → b ≠ mm + 428 → b ≠ mm + 430 → b ≠ mm + 440 → b ≠ mm + 444 → b ≠ mm + 450 → M2.1 b = M.1 b) (F2 : ∀ b, b < sz → b ≠ mm + 428 → b ≠ mm + 430 → b ≠ mm + 441 → b ≠ mm + 440 → b ≠ mm + 444 → b ≠ mm + 450 → M2.2.1 b = M.2.1 b) (F3 : ∀ b, b < sz → b ≠ mm + 8 → M2.2.2 b = M.2.2 b) (Fo5 : M2.1 (mm + 440) 5 = M.1 (mm + 440) 5) (Fo6 : M2.1 (mm + 440) 6 = M.1 (mm + 440) 6) (Fo8 : M2.1 (mm + 440) 8 = nI 0) (Frd : M2.1 (mm + 428) 2 = nI 0) (hN : ∀ k, k < 302 ∨ 307 ≤ k → M2.2.1 (mm + 441) k = M.2.1 (mm + 441) k) (hcs : ∀ j, 840 ≤ j → M2.1 (mm + 444) j = M.1 (mm + 444) j) (hT : ∀ t, t < 5 → tR (mm + 455) (mm + 7) S M2 (M2.2.1 (mm + 441)) (M2.1 (mm + 444)) t) : REL mm f z S M2 d pe pa la LT := by
  have hz := h.2.1
  obtain ⟨w1, w2, w3, w4, w5, w6, w7, w8⟩ := h.2.2.1
  have hh : hi_ (mm + 455) sz Sh S M M2 := fun b hb hb2 => ⟨FS b hb2, F1 b hb2 (by omega) (by omega) (by omega) (by omega) (by omega), F3 b hb2 (by omega)⟩
  have v0 : vK (mm + 13) (mm + 14) (mm + 12) (mm + 7) M2 = vK (mm + 13) (mm + 14) (mm + 12) (mm + 7) M := by
    funext k
    refine vK_same (fun _ => ⟨fun _ => ?_, fun _ => ?_, fun _ => ?_, fun _ => ?_, fun _ => ?_, fun _ => ?_, fun _ => ?_⟩) (fun i f hi hf ek => ⟨fun _ => ?_, fun _ => ?_⟩) (fun j f hj hf ek => ⟨fun _ => ?_, fun _ => ?_⟩) (fun l hl => ⟨fun _ => ?_, fun _ => ?_⟩) (fun d ek => ?_)
    all_goals first | rw [F1 _ (by omega) (by omega) (by omega) (by omega) (by omega) (by omega)] | rw [F2 _ (by omega) (by omega) (by omega) (by omega) (by omega) (by omega) (by omega)]
  have v1 : vK (mm + 50) (mm + 57) (mm + 56) (mm + 51) M2 = vK (mm + 50) (mm + 57) (mm + 56) (mm + 51) M := by
    funext k
    refine vK_same (fun _ => ⟨fun _ => ?_, fun _ => ?_, fun _ => ?_, fun _ => ?_, fun _ => ?_, fun _ => ?_, fun _ => ?_⟩) (fun i f hi hf ek => ⟨fun _ => ?_, fun _ => ?_⟩) (fun j f hj hf ek => ⟨fun _ => ?_, fun _ => ?_⟩) (fun l hl => ⟨fun _ => ?_, fun _ => ?_⟩) (fun d ek => ?_)
    all_goals first | rw [F1 _ (by omega) (by omega) (by omega) (by omega) (by omega) (by omega)] | rw [F2 _ (by omega) (by omega) (by omega) (by omega) (by omega) (by omega) (by omega)]
  have hpe := w2.2.1.2
  have hpa := w2.2.2.1.2
  have hd3 := w2.1.2
  have hla := w2.2.2.2.1.2
  have qN : nQ True d pe pa la (M2.2.1 (mm + 441)) (M.2.1 (mm + 441)) := fun k hk => hN k (by unfold nIn at hk; omega)
  refine ⟨h.1.g (fun b h1 h2 => FS b (by omega)) (fun b h1 h2 h3 h4 h5 h6 => F3 b (by omega) h3), ⟨by omega, Fz⟩, ⟨?_, w2.q qN, w3.q qN, w4.q qN, fun l hl => ?_, fun l hl => (w6 l hl).g (fun j hj => hcs _ (by omega)), fun l hl hl2 => ?_, hT⟩, ?_, ⟨fun _ => 0, 0, ⟨Frd, by omega, fun _ => (by decide : (0 : Nat) < 256), fun i hi => absurd hi (by omega)⟩, Fo8, by omega, fun _ => (by decide : (0 : Nat) < 256), fun i hi => absurd hi (by omega)⟩, fun s hs4 => (h.2.2.2.2.2.1 s hs4).mv hs4 (fun b hb => F1 b (by omega) (by omega) (by omega) (by omega) (by omega) (by omega)), ?_, ?_⟩
  · rw [v0]; exact w1.tr qN.sy
  · obtain ⟨ca, c1, c2, c3, c4⟩ := w5 l hl
    have g := c3.g c2 c4 hh hz.2
    exact ⟨ca, by rw [F3 _ (by omega) (by omega)]; exact c1, c2, g.1, g.2⟩
  · rw [F3 _ (by omega) (by omega)]; exact w7 l hl hl2
  · rcases h.2.2.2.1 with ⟨p1, p2⟩ | ⟨p1, p2, d2, pe2, pa2, la2, LT2, hk⟩
    · exact Or.inl ⟨by rw [F1 mm (by omega) (by omega) (by omega) (by omega) (by omega) (by omega)]; exact p1, by rw [Fo5]; exact p2⟩
    · refine Or.inr ⟨by rw [F1 mm (by omega) (by omega) (by omega) (by omega) (by omega) (by omega)]; exact p1, by rw [Fo5]; exact p2, d2, pe2, pa2, la2, LT2, ?_⟩
      rw [F2 (mm + 443) (by omega) (by omega) (by omega) (by omega) (by omega) (by omega) (by omega), F1 (mm + 445) (by omega) (by omega) (by omega) (by omega) (by omega) (by omega)]
      exact hk.g (by rw [v1]; exact nQ.rf) (fun _ _ => rfl) (fun _ _ => rfl) hh hz.2 (fun t ht => by rw [F3 _ (by omega) (by omega)]) (fun l hl => by rw [F3 _ (by omega) (by omega)])
  · rw [F2 mm (by omega) (by omega) (by omega) (by omega) (by omega) (by omega) (by omega)]; exact h.2.2.2.2.2.2.1
  · rw [Fo6]; exact h.2.2.2.2.2.2.2
theorem sLt {sz b : Nat} {Sh : jS} {p1 p2 : Nat × Nat} (h : b < sz) : va_up (va_up Sh sz p1) (sz + 1) p2 b = Sh b := by rw [va_up_ne _ _ (by omega), va_up_ne _ _ (by omega)]
theorem cA_n {T : Nat → Nat} {n : Nat} (hT : ∀ i, T i < 256) : (cA T n).2.1 ≤ n := by
  have h1 := (pI_cl2 (s := 7) hT (pI_00 (n := n))).2.2
  have h2 := (pI_cl2 (s := 8) hT h1).2.2
  have h3 := (pI_cl2 (s := 9) hT h2).2.2
  exact h3.1
theorem pr_text {G : jG} {mm f sz : Nat} {Sh : jS} {M : jM} {d pe pa la : Nat} {LT : Nat → sT} (h : REL mm f sz Sh M d pe pa la LT) {t : Int32} : jPair (mm + 440) G sz Sh M yX10_text cX10_text 3 60 2 163 [.ref mm, .int t] yX11_text cX11_text 4 59 [.ref (mm + 440), .int t] (RQ mm f sz) := by
  have hs := h.1.1.1
  have hz := h.2.1
  have hW := h.1.2.1
  have hL := h.1.2.2.2.2.2.1
  have hR := h.1.2.2.2.2.2.2.2.2.2.1
  have hR0 := h.1.2.2.2.2.2.2.2.2.2.2.2
  have w8 := h.2.2.1.2.2.2.2.2.2.2
  obtain ⟨T, n, ht1, ht2⟩ := h.2.2.2.2.1
  have hTl := ht1.2.2.1
  refine ⟨_, ctX10_text hs h.1.1.2.1 h.1.1.2.2.2.2.1 hW hL hR ht1 (by omega) ⟨by omega, by omega, by omega⟩, fun r1 z S M1 hp1 => ?_, fun r1 z S M1 hp1 => ?_⟩
  · unfold xTx at hp1
    by_cases c4 : okW t 4
    · rw [if_pos c4] at hp1
      obtain ⟨r', Mc, ⟨-, -, -, -, q5⟩, hp1⟩ := hp1
      refine ⟨?_, ?_⟩
      · rcases hp1 with ⟨-, e, -⟩ | ⟨-, e, -⟩
        · exact ⟨_, e⟩
        · exact ⟨_, e⟩
      · rcases q5 with ⟨-, -, -, rfl, -⟩ | ⟨-, -, -, rfl, -⟩
        · rw [sLt (by omega)]; exact h.1.2.2.2.2.2.2.2.2.2.2.2.1.1
        · exact h.1.2.2.2.2.2.2.2.2.2.2.2.1.1
    · rw [if_neg c4] at hp1
      obtain ⟨e, -, rfl, -⟩ := hp1
      exact ⟨⟨_, e⟩, h.1.2.2.2.2.2.2.2.2.2.2.2.1.1⟩
  unfold xTx at hp1
  by_cases c4 : okW t 4
  · rw [if_pos c4] at hp1
    obtain ⟨x, hx, rfl⟩ := jix2 (n := 4) (by omega) c4.1 c4.2
    rw [nI_clamp (by omega)] at hp1
    obtain ⟨r', Mc, ⟨q1, q2, q3, q4, q5⟩, hcase⟩ := hp1
    have hfr : fr T n (cEnd T n).2.1 ≤ n := (fr_le (cEnd_le (cA_n hTl))).2
    have hn160 := ht1.2.1
    rcases hcase with ⟨ok, rfl, rfl⟩ | ⟨bad, rfl, rfl⟩
    · have hok := (x_ok hTl).mp ok
      obtain ⟨-, -, rfl, rfl, s1, s2, s3, s4⟩ := q5.resolve_right (fun e => by rw [ok] at e; cases e.1)
      obtain ⟨t1, t2, t3, t4, t5, t6, t7, t8⟩ := x_txt hTl hn160 ok
      have i1 : ∀ b, b < sz → b ≠ mm + 428 → b ≠ mm + 430 → (jsP (jsI Mc (mm + 428) 2 (nI 0)) (mm + 7 + 1) x (some sz)).1 b = M.1 b := fun b h1 h2 h3 => (jup_ne h2).trans (q2 b h1 h2 h3)
      have i1s : ∀ b, sz ≤ b → (jsP (jsI Mc (mm + 428) 2 (nI 0)) (mm + 7 + 1) x (some sz)).1 b = Mc.1 b := fun b h1 => jup_ne (by omega)
      have ird : (jsP (jsI Mc (mm + 428) 2 (nI 0)) (mm + 7 + 1) x (some sz)).1 (mm + 428) 2 = nI 0 := upIs
      have i2 : ∀ b, b < sz → b ≠ mm + 428 → b ≠ mm + 430 → (jsP (jsI Mc (mm + 428) 2 (nI 0)) (mm + 7 + 1) x (some sz)).2.1 b = M.2.1 b := fun b h1 h2 h3 => q3 b h1 h2 h3
      have i3 : ∀ b, b < sz → b ≠ mm + 8 → (jsP (jsI Mc (mm + 428) 2 (nI 0)) (mm + 7 + 1) x (some sz)).2.2 b = M.2.2 b := fun b h1 h2 => (jup_ne h2).trans (q4 b h1)
      have i8 : ∀ j, (jsP (jsI Mc (mm + 428) 2 (nI 0)) (mm + 7 + 1) x (some sz)).2.2 (mm + 7 + 1) j = if j = x then some sz else M.2.2 (mm + 7 + 1) j := fun j => by
        show jup Mc.2.2 (mm + 7 + 1) x (some sz) (mm + 7 + 1) j = _
        unfold jup
        rw [q4 (mm + 7 + 1) (by omega)]
        by_cases cj : j = x
        · rw [if_pos ⟨rfl, cj⟩, if_pos cj]
        · rw [if_neg (fun e => cj e.2), if_neg cj]
      have i3s : (jsP (jsI Mc (mm + 428) 2 (nI 0)) (mm + 7 + 1) x (some sz)).2.2 sz 0 = some (sz + 1) := (congrFun (jup_ne (show sz ≠ mm + 7 + 1 by omega)) 0).trans s3
      generalize jsP (jsI Mc (mm + 428) 2 (nI 0)) (mm + 7 + 1) x (some sz) = M1 at i1 i1s ird i2 i3 i8 i3s
      generalize eS : va_up (va_up Sh sz (1, 0)) (sz + 1) (13, (cEnd T n).2.2.length) = S
      have S1 : ∀ b, b < sz → S b = Sh b := fun b hb => by rw [← eS]; exact sLt hb
      have S2 : S sz = (1, 0) := by rw [← eS, va_up_ne _ _ (by omega), va_up_self]
      have S3 : S (sz + 1) = (13, (cEnd T n).2.2.length) := by rw [← eS, va_up_self]
      have S4 : ∀ b, sz + 2 ≤ b → ¬ (S b).1 < 20 := fun b hb => by rw [← eS, va_up_ne _ _ (by omega), va_up_ne _ _ (by omega)]; exact hz.2 b (by omega)
      have hrL : rLay (mm + 440) S M1 := by
        unfold rLay at hR0 ⊢
        rw [S1 (mm + 440) (by omega), S1 (mm + 440 + 1) (by omega), S1 (mm + 440 + 2) (by omega), S1 (mm + 440 + 3) (by omega), S1 (mm + 440 + 4) (by omega), S1 (mm + 440 + 5) (by omega), S1 (mm + 440 + 6) (by omega), S1 (mm + 440 + 7) (by omega), S1 (mm + 440 + 8) (by omega), S1 (mm + 440 + 9) (by omega), S1 (mm + 440 + 10) (by omega), S1 (mm + 440 + 11) (by omega), S1 (mm + 440 + 12) (by omega), S1 (mm + 440 + 13) (by omega), S1 (mm + 440 + 14) (by omega), i3 (mm + 440) (by omega) (by omega)]
        exact hR0
      have hrT : rTp (mm + 440) M1 T n := by
        unfold rTp at ht2 ⊢
        rw [i1 (mm + 440) (by omega) (by omega) (by omega), i1 (mm + 440 + 6) (by omega) (by omega) (by omega)]
        exact ht2
      have ew : jw M1 (mm + 440 + 1) (M.2.1 (mm + 441)) = M1 := jw_id (i2 (mm + 441) (by omega) (by omega) (by omega))
      have hj := ctX11_text (G := G) (sz := sz + 2) (N := M.2.1 (mm + 441)) hrL hrT (t0 := nI x)
      rw [ew] at hj
      refine ⟨_, hj, fun r2 z2 S5 M2 hp2 => ?_⟩
      obtain ⟨rfl, rfl, hp2⟩ := hp2
      unfold eX at hp2
      rw [if_pos (show eTxt (nI x) = 0 from if_pos c4)] at hp2
      rw [nI_clamp (by omega)] at hp2
      obtain ⟨Mx, rfl, y1, y2, y3, y4, rfl⟩ := hp2
      rw [if_pos hok, if_pos hok]
      refine ⟨rfl, rfl, -1, rfl, rfl, by omega, f, d, pe, pa, la, LT, by omega, ?_⟩
      have m0 : (jw Mx (mm + 440 + 1) (va_up (M.2.1 (mm + 441)) (302 + x) (lN 1))).2.1 (mm + 441) = va_up (M.2.1 (mm + 441)) (302 + x) (lN 1) := jw_at _ _ _
      have mo : ∀ b, b ≠ mm + 440 → b ≠ mm + 441 → b ≠ mm + 444 → b ≠ mm + 450 → (jw Mx (mm + 440 + 1) (va_up (M.2.1 (mm + 441)) (302 + x) (lN 1))).2.1 b = M1.2.1 b := fun b h1 h2 h3 h4 => (jw_ne _ _ (by omega)).trans (y1.2.1 b (by unfold tS; omega))
      have mi : ∀ b, b ≠ mm + 440 → b ≠ mm + 444 → b ≠ mm + 450 → (jw Mx (mm + 440 + 1) (va_up (M.2.1 (mm + 441)) (302 + x) (lN 1))).1 b = M1.1 b := fun b h1 h2 h3 => y1.1 b (by unfold tS; omega)
      have mr : (jw Mx (mm + 440 + 1) (va_up (M.2.1 (mm + 441)) (302 + x) (lN 1))).2.2 = M1.2.2 := y1.2.2
      have m8 : (jw Mx (mm + 440 + 1) (va_up (M.2.1 (mm + 441)) (302 + x) (lN 1))).1 (mm + 440) 8 = nI 0 := y2
      have m40 : ∀ j, j < 8 → (jw Mx (mm + 440 + 1) (va_up (M.2.1 (mm + 441)) (302 + x) (lN 1))).1 (mm + 440) j = M.1 (mm + 440) j := fun j hj => (y3 j (Or.inl hj)).trans (congrFun (i1 (mm + 440) (by omega) (by omega) (by omega)) j)
      have m4 : ∀ j, (jw Mx (mm + 440 + 1) (va_up (M.2.1 (mm + 441)) (302 + x) (lN 1))).1 (mm + 444) j = if 168 * x ≤ j ∧ j < 168 * x + (pTop T n).2.2.length then nI ((pTop T n).2.2.getD (j - 168 * x) 0) else M.1 (mm + 444) j := fun j => by
        refine (y4 j).trans ?_
        rw [i1 (mm + 440 + 4) (by omega) (by omega) (by omega)]
        by_cases cj : 168 * x ≤ j ∧ j < 168 * x + (pTop T n).2.2.length
        · rw [if_pos cj, if_pos ⟨hok, cj⟩]
        · rw [if_neg cj, if_neg (fun e => cj e.2)]
      generalize jw Mx (mm + 440 + 1) (va_up (M.2.1 (mm + 441)) (302 + x) (lN 1)) = M2 at m0 mo mi mr m8 m40 m4
      have hlen : (pTop T n).2.2.length = (xT T n).1.length + (xT T n).2.1.length + (xT T n).2.2.length + 3 := by
        rw [t4]; simp only [List.length_append, List.length_cons, List.length_nil]; omega
      have hh : hi_ (mm + 455) sz Sh S5 M M2 := fun b hb hb2 => ⟨S1 b hb2, by rw [mi b (by omega) (by omega) (by omega), i1 b hb2 (by omega) (by omega)], by rw [mr, i3 b hb2 (by omega)]⟩
      refine REL_text h (by omega) S1 S4 (fun b h1 h2 h3 h4 h5 h6 => by rw [mi b (by omega) (by omega) (by omega), i1 b h1 h2 h3]) (fun b h1 h2 h3 h4 h5 h6 h7 => ?_) (fun b h1 h2 => by rw [mr, i3 b h1 h2]) (m40 5 (by omega)) (m40 6 (by omega)) m8 ?_ (fun k hk => by rw [m0, va_up_ne _ _ (by omega)]) (fun j hj => by rw [m4, if_neg (by omega)]) (fun t ht => ?_)
      · rw [mo b h5 h4 h6 h7, i2 b h1 h2 h3]
      · rw [mi _ (by omega) (by omega) (by omega)]; exact ird
      · by_cases et : t = x
        · subst et
          have e5 : (cEnd T n).2.2.length = (xT T n).1.length + (xT T n).2.1.length + (xT T n).2.2.length := by
            rw [t1]; simp only [List.length_append]; omega
          refine Or.inr ⟨sz, xT T n, by rw [mr, i8, if_pos rfl], by omega, ⟨by rw [S2], sz + 1, by rw [mr]; exact i3s, by rw [S3, e5], ?_, ?_, ?_, t5, t6, t7, by omega⟩, fun sa hsa => ?_, by rw [m0, va_up_self]; rfl, t5, t6, t7, ?_, by omega⟩
          · rw [mi sz (by omega) (by omega) (by omega), i1s sz (by omega), s1, t2]
          · rw [mi sz (by omega) (by omega) (by omega), i1s sz (by omega), s2, t3]
          · rw [mi (sz + 1) (by omega) (by omega) (by omega), i1s (sz + 1) (by omega), ← t1]; exact s4
          · rw [mr, i3s] at hsa; cases hsa; omega
          · intro i c hc
            rw [← t4] at hc
            have hl := (List.getElem?_eq_some_iff.mp hc).1
            rw [m4, if_pos (by omega), show 168 * t + i - 168 * t = i by omega, List.getD_eq_getElem?_getD, hc]
            rfl
        · refine (w8 t ht).g hh hz.2 (by rw [mr, i8, if_neg et]) (by rw [m0, va_up_ne _ _ (by omega)]) (fun j hj => by rw [m4, if_neg (by omega)])
    · have hnok : ¬ pTopOk T n := fun e => by
        have := (x_ok hTl).mpr e
        rw [bad] at this; cases this
      obtain ⟨-, -, rfl, rfl, s1⟩ := q5.resolve_left (fun e => by rw [bad] at e; cases e.1)
      have i1 : ∀ b, b < z → b ≠ mm + 428 → b ≠ mm + 430 → (jsI Mc (mm + 428) 2 (nI 0)).1 b = M.1 b := fun b h1 h2 h3 => (jup_ne h2).trans (q2 b h1 h2 h3)
      have ird : (jsI Mc (mm + 428) 2 (nI 0)).1 (mm + 428) 2 = nI 0 := upIs
      have i2 : ∀ b, b < z → b ≠ mm + 428 → b ≠ mm + 430 → (jsI Mc (mm + 428) 2 (nI 0)).2.1 b = M.2.1 b := fun b h1 h2 h3 => q3 b h1 h2 h3
      have i3 : ∀ b, b < z → (jsI Mc (mm + 428) 2 (nI 0)).2.2 b = M.2.2 b := fun b h1 => q4 b h1
      generalize jsI Mc (mm + 428) 2 (nI 0) = M1 at i1 ird i2 i3
      have hrL : rLay (mm + 440) S M1 := by
        unfold rLay at hR0 ⊢
        rw [i3 (mm + 440) (by omega)]
        exact hR0
      have hrT : rTp (mm + 440) M1 T n := by
        unfold rTp at ht2 ⊢
        rw [i1 (mm + 440) (by omega) (by omega) (by omega), i1 (mm + 440 + 6) (by omega) (by omega) (by omega)]
        exact ht2
      have ew : jw M1 (mm + 440 + 1) (M.2.1 (mm + 441)) = M1 := jw_id (i2 (mm + 441) (by omega) (by omega) (by omega))
      have hj := ctX11_text (G := G) (sz := z) (N := M.2.1 (mm + 441)) hrL hrT (t0 := nI x)
      rw [ew] at hj
      refine ⟨_, hj, fun r2 z2 S5 M2 hp2 => ?_⟩
      obtain ⟨rfl, rfl, hp2⟩ := hp2
      unfold eX at hp2
      rw [if_pos (show eTxt (nI x) = 0 from if_pos c4)] at hp2
      rw [nI_clamp (by omega)] at hp2
      obtain ⟨Mx, rfl, y1, y2, y3, y4, rfl⟩ := hp2
      rw [if_neg hnok, if_neg hnok]
      refine ⟨rfl, rfl, _, rfl, by rw [nI_l (by omega), x_bad bad], by omega, f, d, pe, pa, la, LT, by omega, ?_⟩
      have e0 : jw Mx (mm + 440 + 1) (M.2.1 (mm + 441)) = Mx := jw_id ((y1.2.1 _ (by unfold tS; omega)).trans (i2 (mm + 441) (by omega) (by omega) (by omega)))
      rw [e0]
      have e4 : Mx.1 (mm + 444) = M.1 (mm + 444) := by
        funext j
        refine (y4 j).trans ?_
        rw [if_neg (fun e => hnok e.1), i1 (mm + 440 + 4) (by omega) (by omega) (by omega)]
      have m40 : ∀ j, j < 8 → Mx.1 (mm + 440) j = M.1 (mm + 440) j := fun j hj => (y3 j (Or.inl hj)).trans (congrFun (i1 (mm + 440) (by omega) (by omega) (by omega)) j)
      have eN : Mx.2.1 (mm + 441) = M.2.1 (mm + 441) := (y1.2.1 _ (by unfold tS; omega)).trans (i2 (mm + 441) (by omega) (by omega) (by omega))
      have hh : hi_ (mm + 455) z2 S5 S5 M Mx := fun b hb hb2 => ⟨rfl, by rw [y1.1 b (by unfold tS; omega), i1 b hb2 (by omega) (by omega)], by rw [y1.2.2, i3 b hb2]⟩
      refine REL_text h (by omega) (fun _ _ => rfl) hz.2 (fun b h1 h2 h3 h4 h5 h6 => by rw [y1.1 b (by unfold tS; omega), i1 b h1 h2 h3]) (fun b h1 h2 h3 h4 h5 h6 h7 => ?_) (fun b h1 h2 => by rw [y1.2.2, i3 b h1]) (m40 5 (by omega)) (m40 6 (by omega)) y2 ?_ (fun k hk => by rw [eN]) (fun j hj => by rw [e4]) (fun t ht => ?_)
      · rw [y1.2.1 b (by unfold tS; omega), i2 b h1 h2 h3]
      · rw [y1.1 _ (by unfold tS; omega)]; exact ird
      · exact (w8 t ht).g hh hz.2 (by rw [y1.2.2, i3 _ (by omega)]) (by rw [eN]) (fun j hj => by rw [e4])
  · rw [if_neg c4] at hp1
    obtain ⟨rfl, rfl, rfl, rfl⟩ := hp1
    have hrL : rLay (mm + 440) S (jsL M mm 6 (M.2.1 mm 6 + 1)) := hR0
    have ew : jw (jsL M mm 6 (M.2.1 mm 6 + 1)) (mm + 440 + 1) (M.2.1 (mm + 441)) = jsL M mm 6 (M.2.1 mm 6 + 1) := jw_id (jup_ne (by omega))
    have hrT : rTp (mm + 440) (jsL M mm 6 (M.2.1 mm 6 + 1)) T n := ht2
    have hj := ctX11_text (G := G) (sz := z) (N := M.2.1 (mm + 441)) hrL hrT (t0 := t)
    rw [ew] at hj
    refine ⟨_, hj, fun r2 z2 S2 M2 hp2 => ?_⟩
    obtain ⟨rfl, rfl, hp2⟩ := hp2
    have et : eTxt t = -100001 := if_neg c4
    unfold eX at hp2
    rw [et, if_neg (by decide)] at hp2
    obtain ⟨rfl, rfl⟩ := hp2
    exact ⟨rfl, rfl, _, rfl, rfl, by omega, f + 1, d, pe, pa, la, LT, Nat.le_refl _, REL_bad h⟩
