theorem REL_bad {mm f sz : Nat} {Sh : jS} {M : jM} {d pe pa la : Nat} {LT : Nat → sT} (h : REL mm f sz Sh M d pe pa la LT) : REL mm (f + 1) sz Sh (jw (rBad (mm + 440) (jsL M mm 6 (M.2.1 mm 6 + 1))) (mm + 440 + 1) (M.2.1 (mm + 441))) d pe pa la LT := by
  have := h.world (b := true) (M1 := jsL M mm 6 (M.2.1 mm 6 + 1)) (M2 := jw (rBad (mm + 440) (jsL M mm 6 (M.2.1 mm 6 + 1))) (mm + 440 + 1) (M.2.1 (mm + 441))) (N2 := M.2.1 (mm + 441)) mEq.rf (mEq.rf.w (Or.inl rfl)) (jw_at _ _ _) (by rw [vK_mm (by unfold wS0; omega)]; exact h.2.2.1.1) h.2.2.1.2.1 h.2.2.1.2.2.1 h.2.2.1.2.2.2.1 (fun _ _ => rfl)
  exact this
theorem mkPairX {G : jG} {mm f sz : Nat} {Sh : jS} {M : jM} {d pe pa la : Nat} {LT : Nat → sT} (h : REL mm f sz Sh M d pe pa la LT) {y1 : MethodName} {c1 : ByteArray} {n1 f1 : Nat} {a1 : List Value} {y2 : MethodName} {c2 : ByteArray} {n2 f2 : Nat} {a2 : List Value} {e : Int64} {okc : Option Value → jM → Prop} {okr : jM → Option Value → jM → Prop} (hc : jC G y1 c1 n1 (some .long) (jrm f1 0 0) sz Sh M a1 (jT sz Sh (xX mm M e okc)))
    (hA : e = 0 → ∀ r M1, okc r M1 → ∀ a, mm + 440 ≤ a → a < mm + 455 → M1.1 a = M.1 a ∧ M1.2.1 a = M.2.1 a ∧ M1.2.2 a = M.2.2 a)
    (hv : e = 0 → ∀ r M1, okc r M1 → ∃ v : Int64, r = some (.long v))
    (hr : ∀ M1, rLay (mm + 440) Sh M1 → (∀ a, mm + 440 ≤ a → a < mm + 455 → M1.1 a = M.1 a ∧ M1.2.1 a = M.2.1 a) → jC G y2 c2 n2 (some .long) (jrm f2 0 0) sz Sh (jw M1 (mm + 440 + 1) (M.2.1 (mm + 441))) a2 (jT sz Sh (eX (mm + 440) M1 (M.2.1 (mm + 441)) e (okr M1))))
    (hk : e = 0 → ∀ r1 M1 r2 M2, okc r1 M1 → okr M1 r2 M2 → M1.2.1 (mm + 441) = M.2.1 (mm + 441) → ∃ v : Int64, r1 = some (.long v) ∧ r2 = some (.long v) ∧ RQ mm f sz sz Sh M2) : jPair (mm + 440) G sz Sh M y1 c1 n1 f1 0 0 a1 y2 c2 n2 f2 a2 (RQ mm f sz) := by
  refine ⟨_, hc, fun r1 z S M1 hp => ?_, fun r1 z S M1 hp => ?_⟩
  · obtain ⟨-, rfl, hx⟩ := hp
    refine ⟨?_, h.1.2.2.2.2.2.2.2.2.2.2.2.1.1⟩
    unfold xX at hx
    by_cases he : e = 0
    · rw [if_pos he] at hx
      exact hv he _ _ hx
    · rw [if_neg he] at hx
      exact ⟨_, hx.1⟩
  obtain ⟨rfl, rfl, hx⟩ := hp
  have hA2 : ∀ a, mm + 440 ≤ a → a < mm + 455 → M1.1 a = M.1 a ∧ M1.2.1 a = M.2.1 a ∧ M1.2.2 a = M.2.2 a := by
    unfold xX at hx
    by_cases he : e = 0
    · rw [if_pos he] at hx
      exact hA he _ _ hx
    · rw [if_neg he] at hx
      intro a h1 h2
      rw [hx.2]
      exact ⟨rfl, jup_ne (by omega), rfl⟩
  have hrL : rLay (mm + 440) S M1 := by
    have := h.1.2.2.2.2.2.2.2.2.2.2.2
    unfold rLay at this ⊢
    rw [(hA2 (mm + 440) (by omega) (by omega)).2.2]
    exact this
  have e0 : M1.2.1 (mm + 441) = M.2.1 (mm + 441) := (hA2 (mm + 441) (by omega) (by omega)).2.1
  have hj2 := hr M1 hrL (fun a h1 h2 => ⟨(hA2 a h1 h2).1, (hA2 a h1 h2).2.1⟩)
  have ew : jw M1 (mm + 440 + 1) (M.2.1 (mm + 441)) = M1 := by
    rw [← e0]; exact jw_self M1 (mm + 441)
  rw [ew] at hj2
  refine ⟨_, hj2, fun r2 z2 S2 M2 hp => ?_⟩
  obtain ⟨rfl, rfl, hy⟩ := hp
  refine ⟨rfl, rfl, ?_⟩
  unfold xX at hx
  unfold eX at hy
  by_cases he : e = 0
  · rw [if_pos he] at hx hy
    exact hk he _ _ _ _ hx hy e0
  · rw [if_neg he] at hx hy
    obtain ⟨hx1, rfl⟩ := hx
    obtain ⟨hy1, rfl⟩ := hy
    exact ⟨e, hx1, hy1, by omega, f + 1, d, pe, pa, la, LT, Nat.le_refl _, REL_bad h⟩
/-- the cells of tape and sheets -/
def tZ (mm b : Nat) : Prop := b = mm + 428 ∨ b = mm + 429 ∨ (mm + 432 ≤ b ∧ b < mm + 440) ∨ b = mm + 440 ∨ b = mm + 446 ∨ b = mm + 447 ∨ b = mm + 448 ∨ b = mm + 449 ∨ b = mm + 454 ∨ b = mm + 430 ∨ b = mm + 450
theorem REL_side {mm f sz : Nat} {Sh : jS} {M M2 : jM} {d pe pa la : Nat} {LT : Nat → sT} (h : REL mm f sz Sh M d pe pa la LT) (e : mEq (tZ mm) M M2) (h5 : M2.1 (mm + 440) 5 = M.1 (mm + 440) 5) (h6 : M2.1 (mm + 440) 6 = M.1 (mm + 440) 6) (ht : ∃ T n, cTp (mm + 428) M2 T n ∧ rTp (mm + 440) M2 T n) (hs : ∀ s, s < 4 → shR mm M2 s) : REL mm f sz Sh M2 d pe pa la LT := by
  obtain ⟨hL, hz, hw, hi, -, -, hf1, hf2⟩ := h
  have hlt : ∀ x, tZ mm x → x < mm + 455 := fun x hx => by unfold tZ at hx; omega
  have nt : ∀ x, x < mm + 428 ∨ x = mm + 441 ∨ x = mm + 442 ∨ x = mm + 443 ∨ x = mm + 444 ∨ x = mm + 445 → ¬ tZ mm x := fun x hx hc => by unfold tZ at hc; omega
  refine ⟨hL.e e.2.2, hz, ?_, ?_, ht, hs, ?_, ?_⟩
  · exact hw.same e hlt (e.1 _ (nt _ (by omega))) (e.2.1 _ (nt _ (by omega))) (vK_mEq e (fun b hb => nt b (by unfold wS0 at hb; omega)))
  · exact hi.mv e hlt (congrFun (e.1 _ (nt _ (by omega))) 5) h5 (fun b hb => nt b (by omega)) (nt _ (by omega)) (nt _ (by omega))
  · rw [e.2.1 _ (nt mm (by omega))]; exact hf1
  · rw [h6]; exact hf2
theorem RQ_of {mm f sz : Nat} {Sh : jS} {M2 : jM} {d pe pa la : Nat} {LT : Nat → sT} (h : REL mm f sz Sh M2 d pe pa la LT) : RQ mm f sz sz Sh M2 := ⟨by omega, f, d, pe, pa, la, LT, by omega, h⟩
theorem jw_id {M1 : jM} {a : Nat} {g : Nat → Int64} (h : M1.2.1 a = g) : jw M1 a g = M1 := by rw [← h]; exact jw_self M1 a
theorem eFeed_0 {tp : Nat} {n : Int32} (h : eFeed tp n = 0) : ∃ m, 1 ≤ m ∧ m ≤ 8 ∧ n = nI m ∧ tp + m ≤ 160 := by
  unfold eFeed at h
  by_cases c : (lN 1 ≤ n.toInt64 ∧ n.toInt64 ≤ lN 8)
  · rw [if_pos c] at h
    obtain ⟨m, h1, h2, rfl⟩ := jix3 (lo := 1) (hi := 8) (by omega) c.1 c.2 (by omega)
    rw [nI_clamp (by omega)] at h
    refine ⟨m, h1, h2, rfl, ?_⟩
    by_cases c2 : 160 < tp + m
    · rw [if_pos c2] at h; exact absurd h (by decide)
    · omega
  · rw [if_neg c] at h; exact absurd h (by decide)
theorem pr_feed {G : jG} {mm f sz : Nat} {Sh : jS} {M : jM} {d pe pa la : Nat} {LT : Nat → sT} (h : REL mm f sz Sh M d pe pa la LT) {n : Int32} {b : Int64} : jPair (mm + 440) G sz Sh M yX10_feed cX10_feed 4 2 0 0 [.ref mm, .int n, .long b] yX11_feed cX11_feed 5 2 [.ref (mm + 440), .int n, .long b] (RQ mm f sz) := by
  have hs := h.1.1.1
  have hb3 := h.1.1.2.2.2.2.1
  have hR := h.1.2.2.2.2.2.2.2.2.2.1
  obtain ⟨T, tp, ht1, ht2⟩ := h.2.2.2.2.1
  refine mkPairX h (ctX10_feed hs hb3 hR ht1.1 ht1.2.1) (fun he r M1 hx a ha hb => ?_) (fun _ r M1 hx => ⟨_, hx.1⟩) (fun M1 hL h1 => ctX11_feed hL ((congrFun (h1 (mm + 440) (by omega) (by omega)).1 8).trans ht2.1) ht2.2.1) (fun he r1 M1 r2 M2 hx hy e0 => ?_)
  · obtain ⟨-, hx, -⟩ := hx
    exact ⟨hx.1 a (by omega), hx.2.1 a (by omega), by rw [hx.2.2]⟩
  · obtain ⟨m, hm1, hm8, rfl, hfit⟩ := eFeed_0 he
    obtain ⟨rfl, x1, x2, x3, x4⟩ := hx
    obtain ⟨rfl, Mx, rfl, y1, y2, y3, y4⟩ := hy
    rw [nI_clamp (by omega)] at x2 x4 y2 y4 ⊢
    have eMx : jw Mx (mm + 440 + 1) (M.2.1 (mm + 441)) = Mx := jw_id ((y1.2.1 _ (by omega)).trans e0)
    rw [eMx]
    refine ⟨_, rfl, rfl, RQ_of (REL_side h ((x1.mono (fun z hz => ?_)).tr (y1.mono (fun z hz => ?_))) ?_ ?_ ⟨fun i => if tp ≤ i ∧ i < tp + m then yk b (i - tp) else T i, tp + m, ?_, ?_⟩ (fun s hs4 => (h.2.2.2.2.2.1 s hs4).mv hs4 (fun z hz => ?_)))⟩
    · unfold tZ; omega
    · unfold tZ; omega
    · rw [y3 5 (by omega)]; exact congrFun (x1.1 _ (by omega)) 5
    · rw [y3 6 (by omega)]; exact congrFun (x1.1 _ (by omega)) 6
    · refine ⟨?_, hfit, fun i => ?_, fun i hi => ?_⟩
      · rw [y1.1 (mm + 428) (by omega)]; exact x2
      · dsimp only; split
        · exact yk_lt
        · exact ht1.2.2.1 i
      · rw [y1.1 (mm + 428 + 1) (by omega), x4 i]
        dsimp only
        by_cases c : tp ≤ i ∧ i < tp + m
        · rw [if_pos c, if_pos c, bKc_y (by omega)]
        · rw [if_neg c, if_neg c]; exact ht1.2.2.2 i (by omega)
    · refine ⟨y2, hfit, fun i => ?_, fun i hi => ?_⟩
      · dsimp only; split
        · exact yk_lt
        · exact ht1.2.2.1 i
      · rw [y4 i]
        dsimp only
        by_cases c : tp ≤ i ∧ i < tp + m
        · rw [if_pos c, if_pos c, byK_y (by omega)]
        · rw [if_neg c, if_neg c, x1.1 (mm + 440 + 6) (by omega)]; exact ht2.2.2.2 i (by omega)
    · rw [y1.1 z (by omega), x1.1 z (by omega)]
theorem eSheet_0 {s bits n : Int32} (h : eSheet s bits n = 0) : (∃ x, x < 4 ∧ s = nI x) ∧ (bits = 0 ∨ bits = nI 8 ∨ bits = nI 16 ∨ bits = nI 32) ∧ ∃ m, m ≤ 20 ∧ (if bits = 0 then nI 0 else n) = nI m := by
  unfold eSheet at h
  by_cases c : okW s 3 ∧ (bits = 0 ∨ bits = nI 8 ∨ bits = nI 16 ∨ bits = nI 32)
  · rw [if_pos c] at h
    obtain ⟨x, hx, rfl⟩ := jix2 (n := 3) (by omega) c.1.1 c.1.2
    refine ⟨⟨x, by omega, rfl⟩, c.2, ?_⟩
    by_cases c2 : n < 0
    · rw [if_pos c2] at h; exact absurd h (by decide)
    · rw [if_neg c2] at h
      by_cases c3 : nI 20 < n
      · rw [if_pos c3] at h; exact absurd h (by decide)
      · obtain ⟨m, hm, rfl⟩ := nI_of c2
        have : m ≤ 20 := (nI_leI hm (by omega)).mp (Int32.not_lt.mp c3)
        by_cases c4 : bits = 0
        · rw [if_pos c4]; exact ⟨0, by omega, rfl⟩
        · rw [if_neg c4]; exact ⟨m, this, rfl⟩
  · rw [if_neg c] at h; exact absurd h (by decide)
theorem sE_rf {x : Int32} : sE x x := ⟨Iff.rfl, Iff.rfl⟩
theorem pr_sheet {G : jG} {mm f sz : Nat} {Sh : jS} {M : jM} {d pe pa la : Nat} {LT : Nat → sT} (h : REL mm f sz Sh M d pe pa la LT) {s bits n : Int32} : jPair (mm + 440) G sz Sh M yX10_sheet cX10_sheet 4 3 0 0 [.ref mm, .int s, .int bits, .int n] yX11_sheet cX11_sheet 5 3 [.ref (mm + 440), .int s, .int bits, .int n] (RQ mm f sz) := by
  have hs := h.1.1.1
  have hb4 := h.1.1.2.2.2.2.2
  have hL := h.1.2.2.2.2.2.2.2.2.2.2.1
  refine mkPairX h (ctX10_sheet hs hb4 hL) (fun he r M1 hx a ha hb => ?_) (fun _ r M1 hx => ⟨_, hx.1⟩) (fun M1 hL h1 => ctX11_sheet hL) (fun he r1 M1 r2 M2 hx hy e0 => ?_)
  · obtain ⟨-, hx, -⟩ := hx
    obtain ⟨⟨x, hx4, rfl⟩, -⟩ := eSheet_0 he
    rw [nI_clamp (by omega)] at hx
    exact ⟨hx.1 a (by omega), hx.2.1 a (by omega), by rw [hx.2.2]⟩
  · obtain ⟨⟨x, hx4, rfl⟩, hbit, m, hm, em⟩ := eSheet_0 he
    obtain ⟨rfl, x1, x2, x3, x4, x5⟩ := hx
    obtain ⟨rfl, Mx, rfl, y1, y2, y3, y4⟩ := hy
    rw [nI_clamp (by omega)] at x1 x2 x3 x4 x5 y2 y3 y4
    have eMx : jw Mx (mm + 440 + 1) (M.2.1 (mm + 441)) = Mx := jw_id ((y1.2.1 _ (by omega)).trans e0)
    rw [eMx]
    refine ⟨_, rfl, rfl, RQ_of (REL_side h ((x1.mono (fun z hz => ?_)).tr (y1.mono (fun z hz => ?_))) ?_ ?_ ?_ (fun s hs4 => ?_))⟩
    · unfold tZ; omega
    · unfold tZ; omega
    · rw [y1.1 _ (by omega), x1.1 _ (by omega)]
    · rw [y1.1 _ (by omega), x1.1 _ (by omega)]
    · obtain ⟨T, tp, ht1, ht2⟩ := h.2.2.2.2.1
      refine ⟨T, tp, ?_, ?_⟩
      · unfold cTp at ht1 ⊢
        rw [y1.1 (mm + 428) (by omega), x1.1 (mm + 428) (by omega), y1.1 (mm + 428 + 1) (by omega), x1.1 (mm + 428 + 1) (by omega)]
        exact ht1
      · unfold rTp at ht2 ⊢
        rw [y1.1 (mm + 440) (by omega), x1.1 (mm + 440) (by omega), y1.1 (mm + 440 + 6) (by omega), x1.1 (mm + 440 + 6) (by omega)]
        exact ht2
    · by_cases es : s = x
      · subst es
        refine ⟨m, hm, ?_, ?_, ?_, ?_, fun k hk => ?_⟩
        · rw [y1.1 (mm + 431 + 1 + 2 * s) (by omega), x2, y2 s, if_pos rfl]
        · rw [y2 s, if_pos rfl]; exact hbit
        · rw [y1.1 (mm + 431 + 1 + 2 * s) (by omega), x3, em]
        · rw [y3 s, if_pos rfl, em]
        · rw [y1.1 (mm + 431 + 1 + 2 * s + 1) (by omega), x5 k (by omega), y4 (20 * s + k), if_pos (by omega)]
          exact sE_rf
      · obtain ⟨m2, g0, g1, g2, g3, g4, g5⟩ := h.2.2.2.2.2.1 s hs4
        refine ⟨m2, g0, ?_, ?_, ?_, ?_, fun k hk => ?_⟩
        · rw [y1.1 (mm + 431 + 1 + 2 * s) (by omega), x1.1 (mm + 431 + 1 + 2 * s) (by omega), y2 s, if_neg es, x1.1 (mm + 440 + 7) (by omega)]; exact g1
        · rw [y2 s, if_neg es, x1.1 (mm + 440 + 7) (by omega)]; exact g2
        · rw [y1.1 (mm + 431 + 1 + 2 * s) (by omega), x1.1 (mm + 431 + 1 + 2 * s) (by omega)]; exact g3
        · rw [y3 s, if_neg es, x1.1 (mm + 440 + 8) (by omega)]; exact g4
        · rw [y1.1 (mm + 431 + 1 + 2 * s + 1) (by omega), x1.1 (mm + 431 + 1 + 2 * s + 1) (by omega), y4 (20 * s + k), if_neg (by omega), x1.1 (mm + 440 + 9) (by omega)]; exact g5 k hk
theorem ePut_0 {wd zz s i : Int32} {m : Nat} (hz : zz = nI m) (hm : m ≤ 20) (h : ePut wd zz s i = 0) : (∃ x, x < 4 ∧ s = nI x) ∧ ¬ wd = 0 ∧ ∃ k, k < m ∧ i = nI k := by
  unfold ePut at h
  by_cases c : okW s 3
  · rw [if_pos c] at h
    obtain ⟨x, hx, rfl⟩ := jix2 (n := 3) (by omega) c.1 c.2
    refine ⟨⟨x, by omega, rfl⟩, ?_⟩
    by_cases c2 : wd = 0
    · rw [if_pos c2] at h; exact absurd h (by decide)
    · rw [if_neg c2] at h
      refine ⟨c2, ?_⟩
      by_cases c3 : (0 : Int64) ≤ i.toInt64 ∧ i.toInt64 ≤ (zz - nI 1).toInt64
      · exact put_x hm (by rw [← hz]; exact c3)
      · rw [if_neg c3] at h; exact absurd h (by decide)
  · rw [if_neg c] at h; exact absurd h (by decide)
theorem sh_hyp {mm : Nat} {M : jM} (h : ∀ s, s < 4 → shR mm M s) (s : Int32) : ∃ (wd zz : Int32) (m : Nat), m ≤ 20 ∧ zz = nI m ∧ (okW s 3 → M.1 (mm + 431 + 1 + 2 * s.toNatClampNeg) 1 = wd ∧ M.1 (mm + 431 + 1 + 2 * s.toNatClampNeg) 2 = zz ∧ M.1 (mm + 447) s.toNatClampNeg = wd ∧ M.1 (mm + 448) s.toNatClampNeg = zz ∧ (wd = 0 ∨ wd = nI 8 ∨ wd = nI 16 ∨ wd = nI 32) ∧ ∀ k, k < m → sE (M.1 (mm + 431 + 1 + 2 * s.toNatClampNeg + 1) k) (M.1 (mm + 449) (20 * s.toNatClampNeg + k))) := by
  by_cases c : okW s 3
  · obtain ⟨x, hx, rfl⟩ := jix2 (n := 3) (by omega) c.1 c.2
    rw [nI_clamp (by omega)]
    obtain ⟨m, g0, g1, g2, g3, g4, g5⟩ := h x (by omega)
    exact ⟨M.1 (mm + 447) x, nI m, m, g0, rfl, fun _ => ⟨g1, g3, rfl, g4, g2, g5⟩⟩
  · exact ⟨0, nI 0, 0, by omega, rfl, fun e => absurd e c⟩
theorem pr_put {G : jG} {mm f sz : Nat} {Sh : jS} {M : jM} {d pe pa la : Nat} {LT : Nat → sT} (h : REL mm f sz Sh M d pe pa la LT) {s i v : Int32} : jPair (mm + 440) G sz Sh M yX10_put cX10_put 4 3 0 0 [.ref mm, .int s, .int i, .int v] yX11_put cX11_put 4 3 [.ref (mm + 440), .int s, .int i, .int v] (RQ mm f sz) := by
  have hs := h.1.1.1
  have hb4 := h.1.1.2.2.2.2.2
  have hL := h.1.2.2.2.2.2.2.2.2.2.2.1
  obtain ⟨wd, zz, m, hm, hzz, hw⟩ := sh_hyp h.2.2.2.2.2.1 s
  refine mkPairX h (ctX10_put hs hb4 hL (fun s hs => by obtain ⟨m, g0, -, -, g3, -⟩ := h.2.2.2.2.2.1 s hs; exact ⟨m, g0, g3⟩) (fun c => ⟨(hw c).1, (hw c).2.1⟩)) (fun he r M1 hx a ha hb => ?_) (fun _ r M1 hx => ⟨_, hx.1⟩) (fun M1 hL h1 => ctX11_put hL (fun c => ?_) (fun c => ?_) (fun c => ⟨m, hm, hzz⟩)) (fun he r1 M1 r2 M2 hx hy e0 => ?_)
  · obtain ⟨-, rfl⟩ := hx
    obtain ⟨⟨x, hx4, rfl⟩, -⟩ := ePut_0 hzz hm he
    rw [nI_clamp (show x < 2 ^ 31 by omega)]
    exact ⟨jup_ne (by omega), rfl, rfl⟩
  · exact (congrFun (h1 (mm + 440 + 7) (by omega) (by omega)).1 _).trans (hw c).2.2.1
  · exact (congrFun (h1 (mm + 440 + 8) (by omega) (by omega)).1 _).trans (hw c).2.2.2.1
  · obtain ⟨⟨x, hx4, rfl⟩, hwd, k, hk, rfl⟩ := ePut_0 hzz hm he
    have c : okW (nI x) 3 := by
      show (0 : Int64) ≤ (nI x).toInt64 ∧ (nI x).toInt64 ≤ lN 3
      rw [nI_l (by omega)]
      exact ⟨(pk_lLE (a := 0) (by omega) (by omega)).mpr (by omega), (pk_lLE (by omega) (by omega)).mpr (by omega)⟩
    obtain ⟨w1, w2, w3, w4, w5, w6⟩ := hw c
    obtain ⟨rfl, rfl⟩ := hx
    obtain ⟨rfl, rfl⟩ := hy
    rw [nI_clamp (show x < 2 ^ 31 by omega)] at w1 w2 w3 w4 w6
    rw [nI_clamp (show x < 2 ^ 31 by omega), nI_clamp (show k < 2 ^ 31 by omega)]
    rw [jw_id (show (jsI (jsI M (mm + 431 + 1 + 2 * x + 1) k (encC wd v)) (mm + 440 + 9) (20 * x + k) (encR wd v)).2.1 (mm + 440 + 1) = M.2.1 (mm + 441) from rfl)]
    refine ⟨0, rfl, rfl, RQ_of (REL_side h ((mEq.rf.I ?_).I ?_) ?_ ?_ ?_ (fun s hs4 => ?_))⟩
    · unfold tZ; omega
    · unfold tZ; omega
    · rw [upI (by omega), upI (by omega)]
    · rw [upI (by omega), upI (by omega)]
    · obtain ⟨T, tp, ht1, ht2⟩ := h.2.2.2.2.1
      refine ⟨T, tp, ?_, ?_⟩
      · unfold cTp at ht1 ⊢
        refine ⟨by rw [upI (by omega), upI (by omega)]; exact ht1.1, ht1.2.1, ht1.2.2.1, fun i hi => by rw [upI (by omega), upI (by omega)]; exact ht1.2.2.2 i hi⟩
      · unfold rTp at ht2 ⊢
        refine ⟨by rw [upI (by omega), upI (by omega)]; exact ht2.1, ht2.2.1, ht2.2.2.1, fun i hi => by rw [upI (by omega), upI (by omega)]; exact ht2.2.2.2 i hi⟩
    · obtain ⟨m2, g0, g1, g2, g3, g4, g5⟩ := h.2.2.2.2.2.1 s hs4
      refine ⟨m2, g0, ?_, ?_, ?_, ?_, fun j hj => ?_⟩
      · rw [upI (by omega), upI (by omega), upI (by omega), upI (by omega)]; exact g1
      · rw [upI (by omega), upI (by omega)]; exact g2
      · rw [upI (by omega), upI (by omega)]; exact g3
      · rw [upI (by omega), upI (by omega)]; exact g4
      · by_cases es : s = x ∧ j = k
        · obtain ⟨rfl, rfl⟩ := es
          rw [upI (by omega), upIs, show mm + 449 = mm + 440 + 9 from rfl, upIs]
          refine enc_E ?_
          rcases w5 with w5 | w5
          · exact absurd w5 hwd
          · exact w5
        · rw [upI (by omega), upI (by omega), upI (by omega), upI (by omega)]
          exact g5 j hj
theorem eCopy_0 {w1 w2 z1 z2 s f t u n : Int32} {m1 m2 : Nat} (hz1 : z1 = nI m1) (hm1 : m1 ≤ 20) (hz2 : z2 = nI m2) (hm2 : m2 ≤ 20) (h : eCopy w1 w2 z1 z2 s f t u n = 0) : (∃ x, x < 4 ∧ s = nI x) ∧ (∃ x, x < 4 ∧ t = nI x) ∧ ∃ f1 u1 n1, f = nI f1 ∧ u = nI u1 ∧ n = nI n1 ∧ f1 + n1 ≤ m1 ∧ u1 + n1 ≤ m2 := by
  unfold eCopy at h
  by_cases c : okW s 3 ∧ okW t 3
  · rw [if_pos c] at h
    obtain ⟨x, hx, rfl⟩ := jix2 (n := 3) (by omega) c.1.1 c.1.2
    obtain ⟨z, hz, rfl⟩ := jix2 (n := 3) (by omega) c.2.1 c.2.2
    refine ⟨⟨x, by omega, rfl⟩, ⟨z, by omega, rfl⟩, ?_⟩
    by_cases c2 : w1 = 0 ∨ w2 = 0
    · rw [if_pos c2] at h; exact absurd h (by decide)
    · rw [if_neg c2] at h
      by_cases c3 : w1 = w2
      · rw [if_pos c3] at h
        by_cases c4 : ¬ f < 0 ∧ ¬ u < 0 ∧ ¬ n < 0 ∧ f.toInt64 + n.toInt64 ≤ z1.toInt64 ∧ u.toInt64 + n.toInt64 ≤ z2.toInt64
        · obtain ⟨a1, a2, a3⟩ := run_x hz1 hm1 ⟨c4.1, c4.2.2.1, c4.2.2.2.1⟩
          obtain ⟨b1, -, b3⟩ := run_x hz2 hm2 ⟨c4.2.1, c4.2.2.1, c4.2.2.2.2⟩
          exact ⟨_, _, _, a1, b1, a2, a3, b3⟩
        · rw [if_neg c4] at h; exact absurd h (by decide)
      · rw [if_neg c3] at h; exact absurd h (by decide)
  · rw [if_neg c] at h; exact absurd h (by decide)
theorem okW_n {x n : Nat} (h : x ≤ n) (hn : n < 2 ^ 31) : okW (nI x) n := by
  show (0 : Int64) ≤ (nI x).toInt64 ∧ (nI x).toInt64 ≤ lN n
  rw [nI_l (by omega)]
  exact ⟨(pk_lLE (a := 0) (by omega) (by omega)).mpr (by omega), (pk_lLE (by omega) (by omega)).mpr h⟩
theorem pr_copy {G : jG} {mm f sz : Nat} {Sh : jS} {M : jM} {d pe pa la : Nat} {LT : Nat → sT} (h : REL mm f sz Sh M d pe pa la LT) {s f_ t u n : Int32} : jPair (mm + 440) G sz Sh M yX10_copy cX10_copy 8 3 0 0 [.ref mm, .int s, .int f_, .int t, .int u, .int n] yX11_copy cX11_copy 7 3 [.ref (mm + 440), .int s, .int f_, .int t, .int u, .int n] (RQ mm f sz) := by
  have hs := h.1.1.1
  have hb4 := h.1.1.2.2.2.2.2
  have hL := h.1.2.2.2.2.2.2.2.2.2.2.1
  obtain ⟨wd1, zz1, m1, hm1, hz1, hw1⟩ := sh_hyp h.2.2.2.2.2.1 s
  obtain ⟨wd2, zz2, m2, hm2, hz2, hw2⟩ := sh_hyp h.2.2.2.2.2.1 t
  refine mkPairX h (ctX10_copy hs hb4 hL (fun s hs => by obtain ⟨m, g0, -, -, g3, -⟩ := h.2.2.2.2.2.1 s hs; exact ⟨m, g0, g3⟩) (fun c => ⟨(hw1 c).1, (hw1 c).2.1⟩) (fun c => ⟨(hw2 c).1, (hw2 c).2.1⟩)) (fun he r M1 hx a ha hb => ?_) (fun _ r M1 hx => ⟨_, hx.1⟩) (fun M1 hL h1 => ctX11_copy hL (fun c _ => ⟨?_, ?_, m1, hm1, hz1⟩) (fun _ c => ⟨?_, ?_, m2, hm2, hz2⟩)) (fun he r1 M1 r2 M2 hx hy e0 => ?_)
  · obtain ⟨-, rfl⟩ := hx
    obtain ⟨-, ⟨x, hx4, rfl⟩, -⟩ := eCopy_0 hz1 hm1 hz2 hm2 he
    rw [nI_clamp (show x < 2 ^ 31 by omega)]
    exact ⟨jwI_ne _ _ (by omega), rfl, rfl⟩
  · exact (congrFun (h1 (mm + 440 + 7) (by omega) (by omega)).1 _).trans (hw1 c).2.2.1
  · exact (congrFun (h1 (mm + 440 + 8) (by omega) (by omega)).1 _).trans (hw1 c).2.2.2.1
  · exact (congrFun (h1 (mm + 440 + 7) (by omega) (by omega)).1 _).trans (hw2 c).2.2.1
  · exact (congrFun (h1 (mm + 440 + 8) (by omega) (by omega)).1 _).trans (hw2 c).2.2.2.1
  · obtain ⟨⟨x, hx4, rfl⟩, ⟨z, hz4, rfl⟩, f1, u1, n1, rfl, rfl, rfl, hf1, hu1⟩ := eCopy_0 hz1 hm1 hz2 hm2 he
    obtain ⟨-, q2, -, -, -, q6⟩ := hw1 (okW_n (by omega) (by omega))
    obtain ⟨rfl, rfl⟩ := hx
    obtain ⟨rfl, Mx, rfl, y1, y2⟩ := hy
    rw [nI_clamp (show x < 2 ^ 31 by omega)] at q2 q6
    rw [nI_clamp (show x < 2 ^ 31 by omega), nI_clamp (show z < 2 ^ 31 by omega), nI_clamp (show f1 < 2 ^ 31 by omega), nI_clamp (show u1 < 2 ^ 31 by omega), nI_clamp (show n1 < 2 ^ 31 by omega)] at y1 y2
    have eMx : jw Mx (mm + 440 + 1) (M.2.1 (mm + 441)) = Mx := jw_id (y1.2.1 _ (by omega))
    rw [eMx]
    have xe : mEq (fun b => b = mm + 431 + 1 + 2 * z + 1) M (jwI M (mm + 431 + 1 + 2 * z + 1) (va_cpy (M.1 (mm + 431 + 1 + 2 * x + 1)) (M.1 (mm + 431 + 1 + 2 * z + 1)) f1 u1 n1)) := ⟨fun b hb => jwI_ne _ _ hb, fun _ _ => rfl, rfl⟩
    have xc : ∀ j, (jwI M (mm + 431 + 1 + 2 * z + 1) (va_cpy (M.1 (mm + 431 + 1 + 2 * x + 1)) (M.1 (mm + 431 + 1 + 2 * z + 1)) f1 u1 n1)).1 (mm + 431 + 1 + 2 * z + 1) j = if u1 ≤ j ∧ j < u1 + n1 then M.1 (mm + 431 + 1 + 2 * x + 1) (f1 + (j - u1)) else M.1 (mm + 431 + 1 + 2 * z + 1) j := fun j => by
      rw [jwI_at]
      by_cases c : u1 ≤ j ∧ j < u1 + n1
      · rw [if_pos c, pk_cpy_in c.1 c.2]
      · rw [if_neg c, pk_cpy_out (by omega)]
    generalize jwI M (mm + 431 + 1 + 2 * z + 1) (va_cpy (M.1 (mm + 431 + 1 + 2 * x + 1)) (M.1 (mm + 431 + 1 + 2 * z + 1)) f1 u1 n1) = M1 at xe xc y1 y2
    refine ⟨_, rfl, rfl, RQ_of (REL_side h ((xe.mono (fun b hb => ?_)).tr (y1.mono (fun b hb => ?_))) ?_ ?_ ?_ (fun s hs4 => ?_))⟩
    · unfold tZ; omega
    · unfold tZ; omega
    · rw [y1.1 _ (by omega), xe.1 _ (by omega)]
    · rw [y1.1 _ (by omega), xe.1 _ (by omega)]
    · obtain ⟨T, tp, ht1, ht2⟩ := h.2.2.2.2.1
      refine ⟨T, tp, ?_, ?_⟩
      · unfold cTp at ht1 ⊢
        rw [y1.1 (mm + 428) (by omega), xe.1 (mm + 428) (by omega), y1.1 (mm + 428 + 1) (by omega), xe.1 (mm + 428 + 1) (by omega)]
        exact ht1
      · unfold rTp at ht2 ⊢
        rw [y1.1 (mm + 440) (by omega), xe.1 (mm + 440) (by omega), y1.1 (mm + 440 + 6) (by omega), xe.1 (mm + 440 + 6) (by omega)]
        exact ht2
    · obtain ⟨m3, g0, g1, g2, g3, g4, g5⟩ := h.2.2.2.2.2.1 s hs4
      have ea : Mx.1 (mm + 431 + 1 + 2 * s) = M.1 (mm + 431 + 1 + 2 * s) := (y1.1 _ (by omega)).trans (xe.1 _ (by omega))
      have eb : Mx.1 (mm + 447) = M.1 (mm + 447) := (y1.1 _ (by omega)).trans (xe.1 _ (by omega))
      have ec : Mx.1 (mm + 448) = M.1 (mm + 448) := (y1.1 _ (by omega)).trans (xe.1 _ (by omega))
      have ed : M1.1 (mm + 440 + 9) = M.1 (mm + 449) := xe.1 _ (by omega)
      refine ⟨m3, g0, by rw [ea, eb]; exact g1, by rw [eb]; exact g2, by rw [ea]; exact g3, by rw [ec]; exact g4, fun k hk => ?_⟩
      rw [y1.1 (mm + 431 + 1 + 2 * s + 1) (by omega), show Mx.1 (mm + 449) (20 * s + k) = _ from y2 (20 * s + k), ed]
      by_cases es : s = z
      · subst es
        rw [xc k]
        by_cases c : u1 ≤ k ∧ k < u1 + n1
        · rw [if_pos c, if_pos (by omega), show 20 * x + f1 + (20 * s + k - (20 * s + u1)) = 20 * x + (f1 + (k - u1)) by omega]
          exact q6 _ (by omega)
        · rw [if_neg c, if_neg (by omega)]
          exact g5 k hk
      · obtain ⟨-, -, -, -, -, -⟩ := hw2 (okW_n (show z ≤ 3 by omega) (by omega))
        rw [xe.1 _ (by omega), if_neg (by omega)]
        exact g5 k hk
