/-- where a world's cells lie: apart -/
def wDis (w q pr lw : Nat) : Prop := (w < q ∨ q + 36 ≤ w) ∧ (pr < q ∨ q + 36 ≤ pr) ∧ pr ≠ w ∧ (lw + 4 < q ∨ q + 36 ≤ lw) ∧ (lw + 4 < w ∨ w < lw) ∧ (lw + 4 < pr ∨ pr < lw)
/-- a world's state as the reference's row has it -/
def vK (w q pr lw : Nat) (M : jM) (k : Nat) : Int64 :=
  if k < 10 then (if k = 0 then (M.1 w 8).toInt64 else if k = 1 then M.2.1 w 9 else if k = 2 then M.2.1 w 10 else if k = 3 then M.2.1 w 11 else if k = 4 then (M.1 w 6).toInt64 else if k = 5 then (M.1 w 7).toInt64 else if k = 6 then (M.1 lw 4).toInt64 else 0)
  else if k < 110 then (if 1 ≤ (k - 10) % 10 ∧ (k - 10) % 10 ≤ 5 then (M.1 (q + 2 + (k - 10) / 10) ((k - 10) % 10)).toInt64 else M.2.1 (q + 2 + (k - 10) / 10) ((k - 10) % 10))
  else if k < 278 then (if (k - 110) % 7 = 3 then M.2.1 (q + 12 + (k - 110) / 7) ((k - 110) % 7) else (M.1 (q + 12 + (k - 110) / 7) ((k - 110) % 7)).toInt64)
  else if k < 302 then (if (k - 278) % 2 = 0 then (M.1 (lw + 3) ((k - 278) / 2)).toInt64 else (M.1 (lw + 4) ((k - 278) / 2)).toInt64)
  else if k < 310 then 0
  else M.2.1 pr (k - 310)
theorem vK_pI {w q pr lw : Nat} {M : jM} {i f : Nat} (hi : i < 10) (hf : 1 ≤ f ∧ f ≤ 5) : vK w q pr lw M (10 + 10 * i + f) = (M.1 (q + 2 + i) f).toInt64 := by
  unfold vK
  rw [if_neg (by omega), if_pos (by omega), show (10 + 10 * i + f - 10) % 10 = f by omega, show (10 + 10 * i + f - 10) / 10 = i by omega, if_pos hf]
theorem vK_pL {w q pr lw : Nat} {M : jM} {i f : Nat} (hi : i < 10) (hf : f = 0 ∨ (6 ≤ f ∧ f ≤ 9)) : vK w q pr lw M (10 + 10 * i + f) = M.2.1 (q + 2 + i) f := by
  unfold vK
  rw [if_neg (by omega), if_pos (by omega), show (10 + 10 * i + f - 10) % 10 = f by omega, show (10 + 10 * i + f - 10) / 10 = i by omega, if_neg (by omega)]
theorem vK_qI {w q pr lw : Nat} {M : jM} {j f : Nat} (hj : j < 24) (hf : f ≤ 6 ∧ f ≠ 3) : vK w q pr lw M (110 + 7 * j + f) = (M.1 (q + 12 + j) f).toInt64 := by
  unfold vK
  rw [if_neg (by omega), if_neg (by omega), if_pos (by omega), show (110 + 7 * j + f - 110) % 7 = f by omega, show (110 + 7 * j + f - 110) / 7 = j by omega, if_neg (by omega)]
theorem vK_qL {w q pr lw : Nat} {M : jM} {j : Nat} (hj : j < 24) : vK w q pr lw M (110 + 7 * j + 3) = M.2.1 (q + 12 + j) 3 := by
  unfold vK
  rw [if_neg (by omega), if_neg (by omega), if_pos (by omega), show (110 + 7 * j + 3 - 110) % 7 = 3 by omega, show (110 + 7 * j + 3 - 110) / 7 = j by omega, if_pos rfl]
theorem vK_0 {w q pr lw : Nat} {M : jM} : vK w q pr lw M 0 = (M.1 w 8).toInt64 := rfl
theorem vK_1 {w q pr lw : Nat} {M : jM} : vK w q pr lw M 1 = M.2.1 w 9 := rfl
theorem vK_2 {w q pr lw : Nat} {M : jM} : vK w q pr lw M 2 = M.2.1 w 10 := rfl
theorem vK_3 {w q pr lw : Nat} {M : jM} : vK w q pr lw M 3 = M.2.1 w 11 := rfl
theorem vK_4 {w q pr lw : Nat} {M : jM} : vK w q pr lw M 4 = (M.1 w 6).toInt64 := rfl
theorem vK_5 {w q pr lw : Nat} {M : jM} : vK w q pr lw M 5 = (M.1 w 7).toInt64 := rfl
theorem vK_6 {w q pr lw : Nat} {M : jM} : vK w q pr lw M 6 = (M.1 lw 4).toInt64 := rfl
theorem vK_p {w q pr lw : Nat} {M : jM} {k : Nat} : vK w q pr lw M (310 + k) = M.2.1 pr k := by
  unfold vK
  rw [if_neg (by omega), if_neg (by omega), if_neg (by omega), if_neg (by omega), if_neg (by omega), Nat.add_sub_cancel_left]
theorem upI {M : jM} {a b f j : Nat} {x : Int32} (h : ¬ (b = a ∧ j = f)) : (jsI M a f x).1 b j = M.1 b j := if_neg h
theorem upL {M : jM} {a b f j : Nat} {x : Int64} (h : ¬ (b = a ∧ j = f)) : (jsL M a f x).2.1 b j = M.2.1 b j := if_neg h
theorem upIs {M : jM} {a f : Nat} {x : Int32} : (jsI M a f x).1 a f = x := if_pos ⟨rfl, rfl⟩
theorem upLs {M : jM} {a f : Nat} {x : Int64} : (jsL M a f x).2.1 a f = x := if_pos ⟨rfl, rfl⟩
set_option maxRecDepth 100000 in
/-- one number of the view, from the cells that it reads -/
theorem vK_same {w q pr lw : Nat} {M M' : jM} {k : Nat} (hI : k < 10 → (k = 0 → M'.1 w 8 = M.1 w 8) ∧ (k = 4 → M'.1 w 6 = M.1 w 6) ∧ (k = 5 → M'.1 w 7 = M.1 w 7) ∧ (k = 6 → M'.1 lw 4 = M.1 lw 4) ∧ (k = 1 → M'.2.1 w 9 = M.2.1 w 9) ∧ (k = 2 → M'.2.1 w 10 = M.2.1 w 10) ∧ (k = 3 → M'.2.1 w 11 = M.2.1 w 11))
    (hP : ∀ i f, i < 10 → f < 10 → k = 10 + 10 * i + f → (1 ≤ f ∧ f ≤ 5 → M'.1 (q + 2 + i) f = M.1 (q + 2 + i) f) ∧ (f = 0 ∨ (6 ≤ f ∧ f ≤ 9) → M'.2.1 (q + 2 + i) f = M.2.1 (q + 2 + i) f))
    (hQ : ∀ j f, j < 24 → f < 7 → k = 110 + 7 * j + f → (f ≠ 3 → M'.1 (q + 12 + j) f = M.1 (q + 12 + j) f) ∧ (f = 3 → M'.2.1 (q + 12 + j) f = M.2.1 (q + 12 + j) f))
    (hL : ∀ l, l < 12 → (k = 278 + 2 * l → M'.1 (lw + 3) l = M.1 (lw + 3) l) ∧ (k = 278 + 2 * l + 1 → M'.1 (lw + 4) l = M.1 (lw + 4) l)) (hR : ∀ d, k = 310 + d → M'.2.1 pr d = M.2.1 pr d) : vK w q pr lw M' k = vK w q pr lw M k := by
  by_cases r0 : k < 10
  · obtain ⟨a0, a4, a5, a6, a1, a2, a3⟩ := hI r0
    rcases (show k = 0 ∨ k = 1 ∨ k = 2 ∨ k = 3 ∨ k = 4 ∨ k = 5 ∨ k = 6 ∨ k = 7 ∨ k = 8 ∨ k = 9 by omega) with rfl | rfl | rfl | rfl | rfl | rfl | rfl | rfl | rfl | rfl
    · rw [vK_0, vK_0, a0 rfl]
    · rw [vK_1, vK_1, a1 rfl]
    · rw [vK_2, vK_2, a2 rfl]
    · rw [vK_3, vK_3, a3 rfl]
    · rw [vK_4, vK_4, a4 rfl]
    · rw [vK_5, vK_5, a5 rfl]
    · rw [vK_6, vK_6, a6 rfl]
    · unfold vK; simp
    · unfold vK; simp
    · unfold vK; simp
  · by_cases r1 : k < 110
    · obtain ⟨i, f, hi, hf, rfl⟩ : ∃ i f, i < 10 ∧ f < 10 ∧ k = 10 + 10 * i + f := ⟨(k - 10) / 10, (k - 10) % 10, by omega, by omega, by omega⟩
      have h := hP i f hi hf rfl
      by_cases c : 1 ≤ f ∧ f ≤ 5
      · rw [vK_pI hi c, vK_pI hi c, h.1 c]
      · rw [vK_pL hi (by omega), vK_pL hi (by omega), h.2 (by omega)]
    · by_cases r2 : k < 278
      · obtain ⟨j, f, hj, hf, rfl⟩ : ∃ j f, j < 24 ∧ f < 7 ∧ k = 110 + 7 * j + f := ⟨(k - 110) / 7, (k - 110) % 7, by omega, by omega, by omega⟩
        have h := hQ j f hj hf rfl
        by_cases c : f = 3
        · subst c
          rw [vK_qL hj, vK_qL hj, h.2 rfl]
        · rw [vK_qI hj (by omega), vK_qI hj (by omega), h.1 c]
      · by_cases r3 : k < 302
        · have h := hL ((k - 278) / 2) (by omega)
          unfold vK
          rw [if_neg r0, if_neg r1, if_neg r2, if_pos r3, if_neg r0, if_neg r1, if_neg r2, if_pos r3]
          by_cases c : (k - 278) % 2 = 0
          · rw [if_pos c, if_pos c, h.1 (by omega)]
          · rw [if_neg c, if_neg c, h.2 (by omega)]
        · by_cases r4 : k < 310
          · unfold vK
            rw [if_neg r0, if_neg r1, if_neg r2, if_neg r3, if_pos r4, if_neg r0, if_neg r1, if_neg r2, if_neg r3, if_pos r4]
          · obtain ⟨d, rfl⟩ : ∃ d, k = 310 + d := ⟨k - 310, by omega⟩
            rw [vK_p, vK_p, hR d rfl]
theorem vU_pI {w q pr lw : Nat} {M : jM} (hD : wDis w q pr lw) {i0 f0 : Nat} (hi0 : i0 < 10) (hf0 : 1 ≤ f0 ∧ f0 ≤ 5) {x : Int32} : vK w q pr lw (jsI M (q + 2 + i0) f0 x) = va_up (vK w q pr lw M) (10 + 10 * i0 + f0) x.toInt64 := by
  obtain ⟨d1, d2, d3, d4, d5, d6⟩ := hD
  funext k
  by_cases e : k = 10 + 10 * i0 + f0
  · rw [e, va_up_self, vK_pI hi0 hf0, upIs]
  · rw [va_up_ne _ _ e]
    exact vK_same (fun _ => ⟨fun _ => upI (by omega), fun _ => upI (by omega), fun _ => upI (by omega), fun _ => upI (by omega), fun _ => rfl, fun _ => rfl, fun _ => rfl⟩) (fun i f hi hf ek => ⟨fun _ => upI (by omega), fun _ => rfl⟩) (fun j f hj hf ek => ⟨fun _ => upI (by omega), fun _ => rfl⟩) (fun l hl => ⟨fun _ => upI (by omega), fun _ => upI (by omega)⟩) (fun d ek => rfl)
theorem vU_pL {w q pr lw : Nat} {M : jM} (hD : wDis w q pr lw) {i0 f0 : Nat} (hi0 : i0 < 10) (hf0 : f0 = 0 ∨ (6 ≤ f0 ∧ f0 ≤ 9)) {x : Int64} : vK w q pr lw (jsL M (q + 2 + i0) f0 x) = va_up (vK w q pr lw M) (10 + 10 * i0 + f0) x := by
  obtain ⟨d1, d2, d3, d4, d5, d6⟩ := hD
  funext k
  by_cases e : k = 10 + 10 * i0 + f0
  · rw [e, va_up_self, vK_pL hi0 hf0, upLs]
  · rw [va_up_ne _ _ e]
    exact vK_same (fun _ => ⟨fun _ => rfl, fun _ => rfl, fun _ => rfl, fun _ => rfl, fun _ => upL (by omega), fun _ => upL (by omega), fun _ => upL (by omega)⟩) (fun i f hi hf ek => ⟨fun _ => rfl, fun _ => upL (by omega)⟩) (fun j f hj hf ek => ⟨fun _ => rfl, fun _ => upL (by omega)⟩) (fun l hl => ⟨fun _ => rfl, fun _ => rfl⟩) (fun d ek => upL (by omega))
theorem vU_qI {w q pr lw : Nat} {M : jM} (hD : wDis w q pr lw) {i0 f0 : Nat} (hi0 : i0 < 24) (hf0 : f0 ≤ 6 ∧ f0 ≠ 3) {x : Int32} : vK w q pr lw (jsI M (q + 12 + i0) f0 x) = va_up (vK w q pr lw M) (110 + 7 * i0 + f0) x.toInt64 := by
  obtain ⟨d1, d2, d3, d4, d5, d6⟩ := hD
  funext k
  by_cases e : k = 110 + 7 * i0 + f0
  · rw [e, va_up_self, vK_qI hi0 hf0, upIs]
  · rw [va_up_ne _ _ e]
    exact vK_same (fun _ => ⟨fun _ => upI (by omega), fun _ => upI (by omega), fun _ => upI (by omega), fun _ => upI (by omega), fun _ => rfl, fun _ => rfl, fun _ => rfl⟩) (fun i f hi hf ek => ⟨fun _ => upI (by omega), fun _ => rfl⟩) (fun j f hj hf ek => ⟨fun _ => upI (by omega), fun _ => rfl⟩) (fun l hl => ⟨fun _ => upI (by omega), fun _ => upI (by omega)⟩) (fun d ek => rfl)
theorem vU_qL {w q pr lw : Nat} {M : jM} (hD : wDis w q pr lw) {i0 : Nat} (hi0 : i0 < 24) {x : Int64} : vK w q pr lw (jsL M (q + 12 + i0) 3 x) = va_up (vK w q pr lw M) (110 + 7 * i0 + 3) x := by
  obtain ⟨d1, d2, d3, d4, d5, d6⟩ := hD
  funext k
  by_cases e : k = 110 + 7 * i0 + 3
  · rw [e, va_up_self, vK_qL hi0, upLs]
  · rw [va_up_ne _ _ e]
    exact vK_same (fun _ => ⟨fun _ => rfl, fun _ => rfl, fun _ => rfl, fun _ => rfl, fun _ => upL (by omega), fun _ => upL (by omega), fun _ => upL (by omega)⟩) (fun i f hi hf ek => ⟨fun _ => rfl, fun _ => upL (by omega)⟩) (fun j f hj hf ek => ⟨fun _ => rfl, fun _ => upL (by omega)⟩) (fun l hl => ⟨fun _ => rfl, fun _ => rfl⟩) (fun d ek => upL (by omega))
theorem vU_0 {w q pr lw : Nat} {M : jM} (hD : wDis w q pr lw) {x : Int32} : vK w q pr lw (jsI M (w) 8 x) = va_up (vK w q pr lw M) (0) x.toInt64 := by
  obtain ⟨d1, d2, d3, d4, d5, d6⟩ := hD
  funext k
  by_cases e : k = 0
  · rw [e, va_up_self, vK_0, upIs]
  · rw [va_up_ne _ _ e]
    exact vK_same (fun _ => ⟨fun _ => upI (by omega), fun _ => upI (by omega), fun _ => upI (by omega), fun _ => upI (by omega), fun _ => rfl, fun _ => rfl, fun _ => rfl⟩) (fun i f hi hf ek => ⟨fun _ => upI (by omega), fun _ => rfl⟩) (fun j f hj hf ek => ⟨fun _ => upI (by omega), fun _ => rfl⟩) (fun l hl => ⟨fun _ => upI (by omega), fun _ => upI (by omega)⟩) (fun d ek => rfl)
theorem vU_4 {w q pr lw : Nat} {M : jM} (hD : wDis w q pr lw) {x : Int32} : vK w q pr lw (jsI M (w) 6 x) = va_up (vK w q pr lw M) (4) x.toInt64 := by
  obtain ⟨d1, d2, d3, d4, d5, d6⟩ := hD
  funext k
  by_cases e : k = 4
  · rw [e, va_up_self, vK_4, upIs]
  · rw [va_up_ne _ _ e]
    exact vK_same (fun _ => ⟨fun _ => upI (by omega), fun _ => upI (by omega), fun _ => upI (by omega), fun _ => upI (by omega), fun _ => rfl, fun _ => rfl, fun _ => rfl⟩) (fun i f hi hf ek => ⟨fun _ => upI (by omega), fun _ => rfl⟩) (fun j f hj hf ek => ⟨fun _ => upI (by omega), fun _ => rfl⟩) (fun l hl => ⟨fun _ => upI (by omega), fun _ => upI (by omega)⟩) (fun d ek => rfl)
theorem vU_5 {w q pr lw : Nat} {M : jM} (hD : wDis w q pr lw) {x : Int32} : vK w q pr lw (jsI M (w) 7 x) = va_up (vK w q pr lw M) (5) x.toInt64 := by
  obtain ⟨d1, d2, d3, d4, d5, d6⟩ := hD
  funext k
  by_cases e : k = 5
  · rw [e, va_up_self, vK_5, upIs]
  · rw [va_up_ne _ _ e]
    exact vK_same (fun _ => ⟨fun _ => upI (by omega), fun _ => upI (by omega), fun _ => upI (by omega), fun _ => upI (by omega), fun _ => rfl, fun _ => rfl, fun _ => rfl⟩) (fun i f hi hf ek => ⟨fun _ => upI (by omega), fun _ => rfl⟩) (fun j f hj hf ek => ⟨fun _ => upI (by omega), fun _ => rfl⟩) (fun l hl => ⟨fun _ => upI (by omega), fun _ => upI (by omega)⟩) (fun d ek => rfl)
theorem vU_1 {w q pr lw : Nat} {M : jM} (hD : wDis w q pr lw) {x : Int64} : vK w q pr lw (jsL M (w) 9 x) = va_up (vK w q pr lw M) (1) x := by
  obtain ⟨d1, d2, d3, d4, d5, d6⟩ := hD
  funext k
  by_cases e : k = 1
  · rw [e, va_up_self, vK_1, upLs]
  · rw [va_up_ne _ _ e]
    exact vK_same (fun _ => ⟨fun _ => rfl, fun _ => rfl, fun _ => rfl, fun _ => rfl, fun _ => upL (by omega), fun _ => upL (by omega), fun _ => upL (by omega)⟩) (fun i f hi hf ek => ⟨fun _ => rfl, fun _ => upL (by omega)⟩) (fun j f hj hf ek => ⟨fun _ => rfl, fun _ => upL (by omega)⟩) (fun l hl => ⟨fun _ => rfl, fun _ => rfl⟩) (fun d ek => upL (by omega))
theorem vU_2 {w q pr lw : Nat} {M : jM} (hD : wDis w q pr lw) {x : Int64} : vK w q pr lw (jsL M (w) 10 x) = va_up (vK w q pr lw M) (2) x := by
  obtain ⟨d1, d2, d3, d4, d5, d6⟩ := hD
  funext k
  by_cases e : k = 2
  · rw [e, va_up_self, vK_2, upLs]
  · rw [va_up_ne _ _ e]
    exact vK_same (fun _ => ⟨fun _ => rfl, fun _ => rfl, fun _ => rfl, fun _ => rfl, fun _ => upL (by omega), fun _ => upL (by omega), fun _ => upL (by omega)⟩) (fun i f hi hf ek => ⟨fun _ => rfl, fun _ => upL (by omega)⟩) (fun j f hj hf ek => ⟨fun _ => rfl, fun _ => upL (by omega)⟩) (fun l hl => ⟨fun _ => rfl, fun _ => rfl⟩) (fun d ek => upL (by omega))
theorem vU_3 {w q pr lw : Nat} {M : jM} (hD : wDis w q pr lw) {x : Int64} : vK w q pr lw (jsL M (w) 11 x) = va_up (vK w q pr lw M) (3) x := by
  obtain ⟨d1, d2, d3, d4, d5, d6⟩ := hD
  funext k
  by_cases e : k = 3
  · rw [e, va_up_self, vK_3, upLs]
  · rw [va_up_ne _ _ e]
    exact vK_same (fun _ => ⟨fun _ => rfl, fun _ => rfl, fun _ => rfl, fun _ => rfl, fun _ => upL (by omega), fun _ => upL (by omega), fun _ => upL (by omega)⟩) (fun i f hi hf ek => ⟨fun _ => rfl, fun _ => upL (by omega)⟩) (fun j f hj hf ek => ⟨fun _ => rfl, fun _ => upL (by omega)⟩) (fun l hl => ⟨fun _ => rfl, fun _ => rfl⟩) (fun d ek => upL (by omega))
theorem vU_p {w q pr lw : Nat} {M : jM} (hD : wDis w q pr lw) {d0 : Nat} (hd0 : d0 < 301) {x : Int64} : vK w q pr lw (jsL M (pr) d0 x) = va_up (vK w q pr lw M) (310 + d0) x := by
  obtain ⟨d1, d2, d3, d4, d5, d6⟩ := hD
  funext k
  by_cases e : k = 310 + d0
  · rw [e, va_up_self, vK_p, upLs]
  · rw [va_up_ne _ _ e]
    exact vK_same (fun _ => ⟨fun _ => rfl, fun _ => rfl, fun _ => rfl, fun _ => rfl, fun _ => upL (by omega), fun _ => upL (by omega), fun _ => upL (by omega)⟩) (fun i f hi hf ek => ⟨fun _ => rfl, fun _ => upL (by omega)⟩) (fun j f hj hf ek => ⟨fun _ => rfl, fun _ => upL (by omega)⟩) (fun l hl => ⟨fun _ => rfl, fun _ => rfl⟩) (fun d ek => upL (by omega))
