/-! THE CLAIM OUT OF ONE WALK OF THE LAW'S BODY. Your part is whole_start (and what it stands on); all else here is the same for every law, but numbers. -/
def R_law : String := "MeltingMarksLaw"
def lw_P (b : Addr) (xs : List Int32) (args : Array Value) (s : State) : Prop := args = #[.ref b] ∧ s.IntsAt b xs ∧ xs.length ≤ 3072 ∧ (Jvm.Cond.and given_1 narrow_1).before args s = true
def lw_Q (_ : Array Value) (s : State) (o : Outcome) (t : State) : Prop := o = .returned (some (.int 1)) ∧ Framed s o t [] 600000 7302250
def lw_Z (below : List Frame) (a : Array Value) (s : State) : State → Prop := fun t => ∃ o, t.status = .running ∧ Ended t below o ∧ lw_Q a s o t
/-- the law's own end, with 1 on the stack, nothing written that was there before, its room as the claim has it -/
theorem lw_ret {p : Program} {l : Launch} {e : Env} {s : State} {m : MethodId} {below : List Frame} {meth : Method} {c : Code} {b : Nat} (hx : p.tables.exec = Jvm.exec) (hb : c.code = code) (hr : meth.sig.returnType = ret) (hlocks : meth.locks = false) {pc : Nat} {H : Heap} {ls : Array Slot} (hdg : decode code pc = .ok (.ireturn, 1)) : W p l e room_1 s m #[Value.ref b] below meth c H [] 600000 7302250 (lw_Z below #[Value.ref b] s) (F0 m pc ls [.int 1]) := by
  intro T hT X
  obtain ⟨fs, hret, hrun, hended, hW, hframe⟩ := X.leave (v := some (.int 1)) (hlocks := hlocks) (fun h => by rw [hr] at h; cases h)
  have hmeth' : T.vm.method? m = some meth := X.method'
  refine ⟨T.setFrames fs, ?_, .returned (some (.int 1)), hrun, hended, rfl, ⟨_, rfl⟩, hW, hframe⟩
  jvm_step X.here [X.here.top, hx, hb, hdg, hmeth', hr, ret, narrow_b1]
  (try refine ⟨rfl, ?_⟩); (try refine ⟨rfl, ?_⟩)
  first | (intro acts; rw [hret _ acts rfl rfl rfl]) | rw [hret _ _ rfl rfl rfl]
  exact Steps.refl _
/-- what holds at the law's entry: the machine, the code, the tables' words (any of lw_tbl by 'hts w (by decide +kernel)'), the script of L ints xs at the cell b, what the Statement gives of the start (any of its parts by flat_of_before) -/
def lw_At (p : Program) (s : State) (m : MethodId) (meth : Method) (c : Code) (b L : Nat) (xs : Nat → Int32) : Prop :=
  p.tables.exec = Jvm.exec ∧ c.code = code ∧ meth.sig.returnType = ret ∧ c.maxLocals = 4 ∧ s.vm.findClass R_law = some m.cls ∧ (∀ w ∈ lw_tbl, w.before #[Value.ref b] s = true) ∧ va_X b L xs s s.heap ∧ b < s.heap.size ∧ meth.locks = false ∧ (Jvm.Cond.and given_1 narrow_1).before #[Value.ref b] s = true
set_option maxRecDepth 100000 in
set_option maxHeartbeats 4000000 in
theorem start_walk {G : jG} {X : jX} {nmL : String} {b L : Nat} {vs : Nat → Int32} (hX : va_X b L vs (xs X) (xs X).heap) (hbl : b < gN G) (hL : L ≤ 3072) (C : jOk G X (lYr nmL) cL_law 4 room_1) {mm : Nat} (fin : ∀ i sz Sh M, i ≤ 3072 → jJ G X (460 + 2 * (i)) (13000 + 163 * (i)) sz Sh M 1452 [(3, .int (nI (i))), (0, .ref b), (1, .ref mm), (2, .ref (mm + 440))] []) {M : jM} : jJ G X 0 0 mm (fun _ => (20, 0)) M 0 [(0, .ref b)] [] := by
  refine j_new jc10 (q := 3) C dL_law_0 rfl kw_92 kw_93 kw_71 (fun j hj => by rcases (show j = 0 ∨ j = 1 ∨ j = 2 ∨ j = 3 ∨ j = 4 ∨ j = 5 ∨ j = 6 by omega) with rfl | rfl | rfl | rfl | rfl | rfl | rfl <;> rfl) (by decide) (by decide) ?_
  change jJ G X _ _ (mm + 1) _ _ _ _ _
  refine j_dup (q := 4) C dL_law_3 rfl rfl ?_
  refine j_callI (q := 7) C dL_law_4 rfl mX10_init (Or.inl kw_94) kw_95 rfl (ctX10_init (mm := mm) (by rw [va_up_self])) (As := []) (rest := [.ref mm]) rfl rfl ⟨by decide, by decide⟩ (Nat.le_of_ble_eq_true rfl) (by decide) (fun r z S1 M1 hx => ?_)
  obtain ⟨rfl, ez, hout, Mk, eM1, hXI⟩ := hx
  obtain rfl : z = mm + 440 := ez
  refine j_astore_n (lv' := [(1, .ref mm), (0, .ref b)]) (q := 8) C dL_law_7 rfl rfl (by decide) rfl ?_
  refine j_new jc11 (q := 11) C dL_law_8 rfl kw_863 kw_864 kw_81 (fun j hj => by rcases (show j = 0 ∨ j = 1 ∨ j = 2 ∨ j = 3 ∨ j = 4 ∨ j = 5 ∨ j = 6 ∨ j = 7 ∨ j = 8 ∨ j = 9 ∨ j = 10 ∨ j = 11 ∨ j = 12 ∨ j = 13 ∨ j = 14 ∨ j = 15 ∨ j = 16 ∨ j = 17 ∨ j = 18 ∨ j = 19 ∨ j = 20 ∨ j = 21 ∨ j = 22 ∨ j = 23 by omega) with rfl | rfl | rfl | rfl | rfl | rfl | rfl | rfl | rfl | rfl | rfl | rfl | rfl | rfl | rfl | rfl | rfl | rfl | rfl | rfl | rfl | rfl | rfl | rfl <;> rfl) (by decide) (by decide) ?_
  change jJ G X _ _ (mm + 441) _ _ _ _ _
  refine j_dup (q := 12) C dL_law_11 rfl rfl ?_
  refine j_callI (q := 15) C dL_law_12 rfl mX11_init (Or.inl kw_865) kw_866 rfl (ctX11_init (a := mm + 440) (by rw [va_up_self]) (by omega)) (As := []) (rest := [.ref (mm + 440)]) rfl rfl ⟨by decide, by decide⟩ (Nat.le_of_ble_eq_true rfl) (by decide) (fun r z S2 M2 hx => ?_)
  obtain ⟨rfl, ez, hA, ⟨Mx, hg, eM2⟩, hr⟩ := hx
  obtain rfl : z = mm + 455 := ez
  refine j_astore_n (lv' := [(2, .ref (mm + 440)), (1, .ref mm), (0, .ref b)]) (q := 16) C dL_law_15 rfl rfl (by decide) rfl ?_
  refine j_iconst (q := 17) (v := nI 0) C dL_law_16 rfl rfl ?_
  refine j_istore_n (lv' := [(3, .int (nI 0)), (2, .ref (mm + 440)), (1, .ref mm), (0, .ref b)]) (q := 18) C dL_law_17 rfl rfl (by decide) rfl ?_
  refine j_widen (c1 := 460 + 2 * 0) (s1 := 13000 + 163 * 0) (by decide) (by decide) ?_
  exact j_fewer (lv' := [(3, .int (nI 0)), (0, .ref b), (1, .ref mm), (2, .ref (mm + 440))]) (by simp) (law_loop hX hbl hL C fin L 0 0 (mm + 455) S2 M2 0 0 0 0 (fun _ => ([], [], [])) (REL_0 (S0 := fun _ => (20, 0)) (fun b hb => (hout b hb).trans (va_up_ne _ _ (by omega))) (fun b hb => rfl) eM1 hXI hA hg eM2 hr) (Nat.le_refl _) (by omega) (by omega))
theorem whole_start {p : Program} {e : Env} {s : State} {m : MethodId} {below : List Frame} {meth : Method} {c : Code} (l : Launch) (hflags : l.flags = flags0) {b L : Nat} {xs : Nat → Int32} (hL : L ≤ 3072) (C0 : lw_At p s m meth c b L xs) : W p l e room_1 s m #[Value.ref b] below meth c s.heap [] 0 0 (lw_Z below #[Value.ref b] s) (entryFrame m ([Value.ref b] : List Value).toArray 4) := by
  obtain ⟨hx, hb, hr, hml, hown, hts, hX, hbl, hlocks, hgv⟩ := id C0
  obtain ⟨z, hz⟩ := start_E hts hgv
  obtain ⟨D, cy, hK⟩ := start_K hts
  have hE := hz (l, D, cy, s.heap.size, z) rfl rfl
  have hj : ∀ w ∈ jtb, w.before #[Value.ref b] s = true := fun w hw => hts w (List.mem_filter.mp hw).1
  have C : jOk (l, D, cy, s.heap.size, z) (p, e, room_1, s, m, #[Value.ref b], below, meth, c, lw_Z below #[Value.ref b] s, 4) (lYr meth.name) cL_law 4 room_1 := ⟨hx, hb, hml, hown, hj, hK, hlocks, Nat.le_refl _, hE, rfl, rfl, rfl⟩
  have hl := lv_entry ([.ref b]) (n := 4) (Nat.le_of_ble_eq_true rfl)
  rw [lg_entry_eq]
  generalize (lg_sl ([.ref b]) ++ List.replicate (4 - (lg_sl ([.ref b])).length) Slot.unset).toArray = ls at hl ⊢
  have hl : lv_has ls 4 [(0, .ref b)] := hl
  refine start_walk (mm := s.heap.size) (M := (fun _ _ => 0, fun _ _ => 0, fun _ _ => none)) hX hbl hL C (fun i sz Sh M hi => ?_) s.heap [] ls (fun a ha => absurd ha (Nat.lt_irrefl 20)) rfl va_S.rf hl
  intro H locs ls hP hz hS hl
  refine lv_iconst (v := 1) hx hb dL_law_1452 (by decide) ?_
  refine va_forget (fun q hq => hS.2.2 q hq) ?_
  exact W.widen (by omega) (by omega) (lw_ret hx hb hr hlocks dL_law_1453)
