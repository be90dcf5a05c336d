theorem pr_restore {G : jG} {mm f sz : Nat} {Sh : jS} {M : jM} {d pe pa la : Nat} {LT : Nat → sT} (h : REL mm f sz Sh M d pe pa la LT) : jPair (mm + 440) G sz Sh M yX10_restore cX10_restore 1 4 0 0 [.ref mm] yX11_restore cX11_restore 2 2 [.ref (mm + 440)] (RQ mm f sz) := by
  have hs := h.1.1.1
  have hz := h.2.1
  have hW := h.1.2.1
  have hW1 := h.1.2.2.1
  have hL := h.1.2.2.2.2.2.1
  have hL1 := h.1.2.2.2.2.2.2.1
  have hR0 := h.1.2.2.2.2.2.2.2.2.2.2.2
  rcases h.2.2.2.1 with ⟨i0, i1⟩ | ⟨i0, i1, d2, pe2, pa2, la2, LT2, hw⟩
  · refine ⟨_, ctX10_restore hs h.1.1.2.1 h.1.1.2.2.1 hW hW1 hL hL1 (by unfold wTwo; omega) (fun b hb hc => by unfold wS0 at hb hc; omega) (pe := 0) (pa := 0) (d := 0) (la := 0) (fun e => absurd i0 e) (by unfold lT; omega), fun r1 z S M1 hp1 => by obtain ⟨-, rfl, hp1⟩ := hp1; rw [if_pos i0] at hp1; exact ⟨⟨_, hp1.1⟩, h.1.2.2.2.2.2.2.2.2.2.2.2.1.1⟩, fun r1 z S M1 hp1 => ?_⟩
    obtain ⟨rfl, rfl, hp1⟩ := hp1
    rw [if_pos i0] at hp1
    obtain ⟨rfl, rfl⟩ := hp1
    have hrL : rLay (mm + 440) S (jsL M mm 6 (M.2.1 mm 6 + 1)) := hR0
    have ew : jw (jsL M mm 6 (M.2.1 mm 6 + 1)) (mm + 440 + 1) (M.2.1 (mm + 441)) = jsL M mm 6 (M.2.1 mm 6 + 1) := jw_id (jup_ne (by omega))
    have hj := ctX11_restore (G := G) (sz := z) (N := M.2.1 (mm + 441)) hrL
    rw [ew] at hj
    refine ⟨_, hj, fun r2 z2 S2 M2 hp2 => ?_⟩
    obtain ⟨rfl, rfl, hp2⟩ := hp2
    unfold rRest at hp2
    rw [if_pos (show (jsL M mm 6 (M.2.1 mm 6 + 1)).1 (mm + 440) 5 = 0 from i1)] at hp2
    obtain ⟨rfl, rfl⟩ := hp2
    exact ⟨rfl, rfl, _, rfl, rfl, by omega, f + 1, d, pe, pa, la, LT, Nat.le_refl _, REL_bad h⟩
  · have hn5 : ¬ M.1 mm 5 = 0 := by rw [i0]; decide
    have hn6 : ¬ M.1 (mm + 440) 5 = 0 := by rw [i1]; decide
    have hO := hw.2.1
    have hOK := hO.q hw.1
    have p6 : M.1 (mm + 50) 6 = nI pe2 := i32_of (v := vK (mm + 50) (mm + 57) (mm + 56) (mm + 51) M 4) (by rw [vK_4]) hOK.2.1.1
    have p7 : M.1 (mm + 50) 7 = nI pa2 := i32_of (v := vK (mm + 50) (mm + 57) (mm + 56) (mm + 51) M 5) (by rw [vK_5]) hOK.2.2.1.1
    have hcl := wR_cls hw
    refine ⟨_, ctX10_restore hs h.1.1.2.1 h.1.1.2.2.1 hW hW1 hL hL1 (by unfold wTwo; omega) (fun b hb hc => by unfold wS0 at hb hc; omega) (pe := pe2) (pa := pa2) (d := d2) (la := la2) (fun _ => ⟨p6, hO.2.1.2, p7, hO.2.2.1.2, hO.1.2, hO.2.2.2.1.2, hcl.1, hcl.2⟩) (by unfold lT; omega), fun r1 z S M1 hp1 => by obtain ⟨-, rfl, hp1⟩ := hp1; rw [if_neg hn5] at hp1; exact ⟨⟨_, hp1.1⟩, h.1.2.2.2.2.2.2.2.2.2.2.2.1.1⟩, fun r1 z S M1 hp1 => ?_⟩
    obtain ⟨rfl, rfl, hp1⟩ := hp1
    rw [if_neg hn5] at hp1
    obtain ⟨rfl, -, x1, x2, x3, x4⟩ := hp1
    have kk : ∀ a, ¬ (wS0 (mm + 13) (mm + 14) (mm + 12) a ∨ lS (mm + 7) a) → M1.1 a = M.1 a ∧ M1.2.1 a = M.2.1 a := fun a ha => ⟨x2.1 a ha, x2.2.1 a ha⟩
    have kr : ∀ a, ¬ lT (mm + 7) a → M1.2.2 a = M.2.2 a := fun a ha => x2.2.2 a ha
    have ka : ∀ a, mm + 428 ≤ a → M1.1 a = M.1 a ∧ M1.2.1 a = M.2.1 a := fun a ha => kk a (by unfold wS0 lS; omega)
    have hrL : rLay (mm + 440) S M1 := by
      have := hR0
      unfold rLay at this ⊢
      rw [kr (mm + 440) (by unfold lT; omega)]
      exact this
    have ew : jw M1 (mm + 440 + 1) (M.2.1 (mm + 441)) = M1 := jw_id (ka (mm + 441) (by omega)).2
    have hj := ctX11_restore (G := G) (sz := z) (N := M.2.1 (mm + 441)) hrL
    rw [ew] at hj
    refine ⟨_, hj, fun r2 z2 S2 M2 hp2 => ?_⟩
    obtain ⟨rfl, rfl, hp2⟩ := hp2
    unfold rRest at hp2
    rw [if_neg (by rw [(ka (mm + 440) (by omega)).1]; exact hn6)] at hp2
    obtain ⟨rfl, My, I, rfl, y1, y2, y3⟩ := hp2
    have v8 : M1.2.1 (mm + 440 + 3) 0 = (M1.1 (mm + 13) 8).toInt64 := by
      rw [(ka (mm + 440 + 3) (by omega)).2]
      have e := x1.at (k := 0) (by unfold nIn; omega)
      rw [vK_0] at e
      rw [e]
      exact (hw.1.at (k := 0) (by unfold nIn; omega)).symm
    refine ⟨rfl, rfl, (M1.1 (mm + 13) 8).toInt64, rfl, by rw [v8], by omega, f, d2, pe2, pa2, la2, LT2, by omega, ?_⟩
    have m0 : (jw My (mm + 440 + 1) I).2.1 (mm + 441) = I := jw_at _ _ _
    have mo : ∀ a, a ≠ mm + 441 → a ≠ mm + 444 → (jw My (mm + 440 + 1) I).2.1 a = M1.2.1 a := fun a h1 h2 => (jw_ne _ _ (by omega)).trans (y1.2.1 a (by omega))
    have mi : ∀ a, a ≠ mm + 444 → (jw My (mm + 440 + 1) I).1 a = M1.1 a := fun a h1 => y1.1 a (by omega)
    have mr : (jw My (mm + 440 + 1) I).2.2 = M1.2.2 := y1.2.2
    have m4 : ∀ j, j < 2856 → (jw My (mm + 440 + 1) I).1 (mm + 444) j = M.1 (mm + 445) j := fun j hj => (y3 j hj).trans (congrFun (ka (mm + 440 + 5) (by omega)).1 j)
    generalize jw My (mm + 440 + 1) I = M2 at m0 mo mi mr m4
    have eI : ∀ j, j < 611 → I j = M.2.1 (mm + 443) j := fun j hj => (y2 j hj).trans (congrFun (ka (mm + 440 + 3) (by omega)).2 j)
    have hh : hi_ (mm + 455) z2 S2 S2 M M2 := fun b hb _ => ⟨rfl, by rw [mi b (by omega), (ka b (by omega)).1], by rw [mr, kr b (by unfold lT; omega)]⟩
    have e12 : mEq (fun b => b = mm + 444 ∨ b = mm + 441) M1 M2 := ⟨fun b hb => mi b (by omega), fun b hb => mo b (by omega) (by omega), mr⟩
    have v0 : vK (mm + 13) (mm + 14) (mm + 12) (mm + 7) M2 = vK (mm + 13) (mm + 14) (mm + 12) (mm + 7) M1 := vK_mEq e12 (fun b hb => by unfold wS0 at hb; omega)
    have v1 : vK (mm + 50) (mm + 57) (mm + 56) (mm + 51) M2 = vK (mm + 50) (mm + 57) (mm + 56) (mm + 51) M := by
      rw [vK_mEq e12 (fun b hb => by unfold wS0 at hb; omega)]
      funext k
      refine vK_same (fun _ => ⟨fun _ => ?_, fun _ => ?_, fun _ => ?_, fun _ => ?_, fun _ => ?_, fun _ => ?_, fun _ => ?_⟩) (fun i f hi hf ek => ⟨fun _ => ?_, fun _ => ?_⟩) (fun j f hj hf ek => ⟨fun _ => ?_, fun _ => ?_⟩) (fun l hl => ⟨fun _ => ?_, fun _ => ?_⟩) (fun d ek => ?_)
      all_goals first | rw [(kk _ (by unfold wS0 lS; omega)).1] | rw [(kk _ (by unfold wS0 lS; omega)).2]
    refine ⟨h.1.g (fun _ _ _ => rfl) (fun b h1 h2 h3 h4 h5 h6 => by rw [mr]; exact kr b (by unfold lT; omega)), hz, ?_, ?_, ?_, fun s hs4 => (h.2.2.2.2.2.1 s hs4).mv hs4 (fun b hb => by rw [mi b (by omega), (ka b (by omega)).1]), ?_, ?_⟩
    · rw [m0]
      refine hw.g (by rw [v0]; exact x1) eI m4 hh hz.2 (fun t ht => by rw [mr]; exact x3 t ht) (fun l hl => by rw [mr]; exact x4 l hl)
    · right
      refine ⟨?_, ?_, d2, pe2, pa2, la2, LT2, ?_⟩
      · rw [mi mm (by omega), (kk mm (by unfold wS0 lS; omega)).1]; exact i0
      · rw [mi (mm + 440) (by omega), (ka (mm + 440) (by omega)).1]; exact i1
      · rw [mo (mm + 443) (by omega) (by omega), (ka (mm + 443) (by omega)).2, mi (mm + 445) (by omega), (ka (mm + 445) (by omega)).1]
        refine hw.g (by rw [v1]; exact nQ.rf) (fun _ _ => rfl) (fun _ _ => rfl) hh hz.2 (fun t ht => by rw [mr, kr _ (by unfold lT; omega)]) (fun l hl => by rw [mr, kr _ (by unfold lT; omega)])
    · obtain ⟨T, tp, ht1, ht2⟩ := h.2.2.2.2.1
      refine ⟨T, tp, ?_, ?_⟩
      · unfold cTp at ht1 ⊢
        rw [mi (mm + 428) (by omega), (ka (mm + 428) (by omega)).1, mi (mm + 428 + 1) (by omega), (ka (mm + 428 + 1) (by omega)).1]
        exact ht1
      · unfold rTp at ht2 ⊢
        rw [mi (mm + 440) (by omega), (ka (mm + 440) (by omega)).1, mi (mm + 440 + 6) (by omega), (ka (mm + 440 + 6) (by omega)).1]
        exact ht2
    · rw [mo mm (by omega) (by omega), (kk mm (by unfold wS0 lS; omega)).2]; exact h.2.2.2.2.2.2.1
    · rw [mi (mm + 440) (by omega), (ka (mm + 440) (by omega)).1]; exact h.2.2.2.2.2.2.2
