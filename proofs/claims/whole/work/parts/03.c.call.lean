/-- what the tables say of a method that is called -/
def jcal (y : MethodName) (cc : ByteArray) (nL : Nat) (ret : Option FieldType) (n : Nat) : Prop := Cond.code y cc nL ret ∈ jtb ∧ Cond.initialized y.cls ∈ jtb ∧ (y.cls ≠ "java/lang/invoke/MethodHandle" ∧ y.cls ≠ "java/lang/invoke/VarHandle" ∧ (parseMethodDescriptor y.desc).map (fun d => d.parameters.length) = some n)
theorem jGood {y : MethodName} {cc : ByteArray} {nL : Nat} {ret : Option FieldType} (h : Cond.code y cc nL ret ∈ jtb) : GoodIn jtb (Cond.code y cc nL ret :: jtb) := fun w hw => by
  have h1 : w ∈ jtb := by
    rcases List.mem_cons.mp hw with e | h2
    · rw [e]; exact h
    · exact h2
  exact ⟨h1, good_of_word (List.mem_filter.mp h1).2⟩
theorem jE.call {G : jG} {U : State} {g : JFrame} {mk : MethodId} {a : Array Value} (h : jE G U) : jE G (U.calling g mk a) := by
  obtain ⟨h1, ⟨r1, r2, r3, r4⟩, z1, z2, t1, n1, n2, a0, a1, a2, a3, a4, z3⟩ := h
  have hA : U.vm.Alike (U.calling g mk a).vm := Vm.Alike.refl U.vm
  exact ⟨h1.moved hA, ⟨vk_R.same rfl r1, vk_R.same rfl r2, vk_R.same rfl r3, vk_R.same rfl r4⟩, z1.moved hA, z2.moved hA, t1.moved hA, fun q hm => va_Nw.same rfl rfl (n1 q hm), va_Nw.same rfl rfl n2, a0.moved hA, a1.moved hA, a2.moved hA, a3.moved hA, a4.moved hA, z3.moved hA⟩
abbrev jPre (G : jG) (sz : Nat) (Sh : jS) (M : jM) (av : List Value) : Array Value → State → Prop := fun v U => v = av.toArray ∧ U.heap.size = sz ∧ jP G Sh M U.heap ∧ va_K (gD G) vwCl (jtys (gcy G)) U ∧ gN G ≤ sz ∧ jE G U
theorem jblind {G : jG} {sz : Nat} {Sh : jS} {M : jM} {av : List Value} : FrameBlind (jPre G sz Sh M av) := fun a U g mk h => ⟨h.1, h.2.1, h.2.2.1, va_K.moved (u := U) (U := U.calling g mk a) (Vm.Alike.refl U.vm) h.2.2.2.1, h.2.2.2.2.1, h.2.2.2.2.2.call⟩
/-- a contract out of the judgement at its start -/
theorem jC_start {G : jG} {y : MethodName} {cc : ByteArray} {nL : Nat} {ret : Option FieldType} {rm : Room} {sz : Nat} {Sh : jS} {M : jM} {av : List Value} {post : Option Value → Nat → jS → jM → Prop} (hy : plainName y.cls = true) (hlen : (lg_sl av).length ≤ nL) (body : ∀ X : jX, jOk G X y cc nL rm → jEnd G X ret post → gN G ≤ sz → jJ G X 0 0 sz Sh M 0 (lv_args 0 av) []) : jC G y cc nL ret rm sz Sh M av post := by
  refine Met.ofW (cc := cc) (maxL := nL) (ret := ret) hy rfl ?_
  intro p e s m args below meth c s₁ B hml hv
  obtain ⟨rfl, hsz, hP, hK, hN, hE⟩ := hv
  have hts := atoms_spec (ws := Cond.code y cc nL ret :: jtb) B.pre
  have k := body (p, e, rm, s, m, av.toArray, below, meth, c, MQ below (jQc G post) av.toArray s rm.cells rm.slots (jA G), nL) ⟨B.exec, B.bytes, hml, findClass_of_methodNamed B.named, fun w hw => hts w (List.mem_cons_of_mem _ hw), hK, B.notSynchronized, by rw [hsz]; exact hN, hE, rfl, (name_of_methodNamed B.named B.method).1, rfl⟩ ⟨B.returns, rfl⟩ hN
  rw [lg_entry_eq]
  exact k s.heap [] _ hP hsz va_S.rf (lv_entry av hlen)
section JCALL
variable {G : jG} {X : jX} {y : MethodName} {cc : ByteArray} {nL cells slots sz pc q : Nat} {R : Room} {Sh : jS} {M M' : jM} {lv lv' : List (Nat × Value)} {st : List Value} {post : Option Value → Nat → jS → jM → Prop}
theorem j_lret {v : Int64} (C : jOk G X y cc nL R) (E : jEnd G X (some .long) post) (hd : decode cc pc = .ok (.lreturn, 1)) (hc : cells = R.cells) (hs : slots = R.slots) (hp : post (some (.long v)) sz Sh M) : jJ G X cells slots sz Sh M pc lv [.long v] := by
  intro H locs ls hP hz hS hl
  have hR := C.2.2.2.2.2.2.2.2.2.2.2
  subst hc; subst hs
  rw [E.2, hR]
  exact W.lret C.1 C.2.1 E.1 (fun t ht hW => ⟨_, Sh, M, rfl, by rw [ht, hz]; exact hp, by rw [ht]; exact hP, hS.F ht⟩) hS.2.2 hd C.2.2.2.2.2.2.1
theorem j_iret {v : Int32} (C : jOk G X y cc nL R) (E : jEnd G X (some .int) post) (hd : decode cc pc = .ok (.ireturn, 1)) (hc : cells = R.cells) (hs : slots = R.slots) (hp : post (some (.int v)) sz Sh M) : jJ G X cells slots sz Sh M pc lv [.int v] := by
  intro H locs ls hP hz hS hl
  have hR := C.2.2.2.2.2.2.2.2.2.2.2
  subst hc; subst hs
  rw [E.2, hR]
  exact W.iret C.1 C.2.1 E.1 (fun t ht hW => ⟨_, Sh, M, rfl, by rw [ht, hz]; exact hp, by rw [ht]; exact hP, hS.F ht⟩) hS.2.2 hd C.2.2.2.2.2.2.1
theorem j_zret {v : Int32} {ty : FieldType} (C : jOk G X y cc nL R) (E : jEnd G X (some ty) post) (hd : decode cc pc = .ok (.ireturn, 1)) (hw : narrow ty (.int v) = .int v) (hc : cells = R.cells) (hs : slots = R.slots) (hp : post (some (.int v)) sz Sh M) : jJ G X cells slots sz Sh M pc lv [.int v] := by
  intro H locs ls hP hz hS hl
  have hR := C.2.2.2.2.2.2.2.2.2.2.2
  subst hc; subst hs
  rw [E.2, hR]
  exact W.zret C.1 C.2.1 E.1 hw (fun t ht hW => ⟨_, Sh, M, rfl, by rw [ht, hz]; exact hp, by rw [ht]; exact hP, hS.F ht⟩) hS.2.2 hd C.2.2.2.2.2.2.1
theorem j_vret (C : jOk G X y cc nL R) (E : jEnd G X none post) (hd : decode cc pc = .ok (.return_, 1)) (hc : cells = R.cells) (hs : slots = R.slots) (hp : post none sz Sh M) : jJ G X cells slots sz Sh M pc lv [] := by
  intro H locs ls hP hz hS hl
  have hR := C.2.2.2.2.2.2.2.2.2.2.2
  subst hc; subst hs
  rw [E.2, hR]
  exact W.vret C.1 C.2.1 E.1 (fun t ht hW => ⟨_, Sh, M, rfl, by rw [ht, hz]; exact hp, by rw [ht]; exact hP, hS.F ht⟩) hS.2.2 hd C.2.2.2.2.2.2.1
theorem j_aret {v : Value} {rt : FieldType} (C : jOk G X y cc nL R) (E : jEnd G X (some rt) post) (hd : decode cc pc = .ok (.areturn, 1)) (hrt : (∃ n, rt = .object n) ∨ ∃ t, rt = .array t) (hv : v = .null ∨ ∃ a, v = .ref a) (hc : cells = R.cells) (hs : slots = R.slots) (hp : post (some v) sz Sh M) : jJ G X cells slots sz Sh M pc lv [v] := by
  intro H locs ls hP hz hS hl
  have hR := C.2.2.2.2.2.2.2.2.2.2.2
  subst hc; subst hs
  rw [E.2, hR]
  exact W.aret C.1 C.2.1 E.1 hrt hv (fun t ht hW => ⟨_, Sh, M, rfl, by rw [ht, hz]; exact hp, by rw [ht]; exact hP, hS.F ht⟩) hS.2.2 hd C.2.2.2.2.2.2.1
/-- a run of a callee, taken up again -/
theorem j_back {rm : Room} {a : Array Value} {rest st0 : List Value} {H : Heap} {locs : List Loc} {ls : Array Slot} (hN : gN G ≤ (xs X).heap.size) (hr : va_Run (xp X) (gl G) (xe X) (xR X) (xs X) (xm X) (xa X) (xb X) (xh X) (xc X) H locs cells slots rm.cells rm.slots (F0 (xm X) pc ls st0) rest (jQc G post a) (jA G)) (hS : va_S (jA G) (xs X).heap H locs) (hl : lv_has ls (xL X) lv)
    (kk : ∀ (r : Option Value) (sz' : Nat) (Sh' : jS) (M' : jM), post r sz' Sh' M' → jJ G X (cells + rm.cells) (slots + rm.slots) sz' Sh' M' (pc + 3) lv (r.toList ++ rest)) : W (xp X) (gl G) (xe X) (xR X) (xs X) (xm X) (xa X) (xb X) (xh X) (xc X) H locs cells slots (xQ X) (F0 (xm X) pc ls st0) := by
  intro T hT XX
  obtain ⟨v, st₀, t, T', L, h0, X', hL, e1, e2, ⟨r, Sh', M', hv, hp, hPt, hF⟩, stp⟩ := hr T hT XX
  cases hv
  rw [va_F, h0] at hF
  obtain ⟨t2, a1, b1⟩ := kk v _ Sh' M' hp T'.heap (locs ++ L) ls (by rw [e1]; exact hPt) (by rw [e1])
    ⟨Nat.le_trans hS.1 (by rw [e1]; exact hF.1), fun q h1 h2 => by rw [e1, hF.2 q (Nat.lt_of_lt_of_le h1 hS.1) h2]; exact hS.2.1 q h1 h2, fun q hq => by
      rcases List.mem_append.mp hq with h | h
      · exact hS.2.2 q h
      · exact hL q h⟩ hl T' rfl X'
  exact ⟨t2, stp t2 a1, b1⟩
theorem jpre {rm : Room} {av : List Value} {H : Heap} {locs : List Loc} (C : jOk G X y cc nL R) (hP : jP G Sh M H) (hz : H.size = sz) (hS : va_S (jA G) (xs X).heap H locs) : ∀ U : State, U.heap = H → (xs X).WarmedH U.vm → jPre G sz Sh M av av.toArray U := fun U hU hW =>
  ⟨rfl, by rw [hU]; exact hz, by rw [hU]; exact hP, va_K.moved hW.alike C.2.2.2.2.2.1, Nat.le_trans C.2.2.2.2.2.2.2.1 (by rw [← hz]; exact hS.1), C.2.2.2.2.2.2.2.2.1.keep hW (fun a h1 h2 => by rw [hU]; exact hS.2.1 a h1 h2)⟩
theorem j_callV {y2 : MethodName} {cc2 : ByteArray} {nL2 n index : Nat} {ret2 : Option FieldType} {rm : Room} {As rest st0 : List Value} {b ci N : Nat} {Cn : String} {T : u_T} {ty0 : Nat → FieldType} (B : jcls ci Cn T N ty0) (C : jOk G X y cc nL R) (hd : decode cc pc = .ok (.invokevirtual index, 3)) (hn : pc + 3 = q) (hs : (Sh b).1 = ci) (Y : jcal y2 cc2 nL2 ret2 n) (w1 : Cond.methodLink y.cls index y2 ∈ jtb) (w2 : Cond.instanceMethod y2 ∈ jtb) (w3 : Cond.selects Cn y2 y2 ∈ jtb) (hM : jC G y2 cc2 nL2 ret2 rm sz Sh M (.ref b :: As) post) (hln : As.length = n) (hst : st0 = As.reverse ++ .ref b :: rest) (hR : rm.frames + 1 ≤ R.frames ∧ 8 + (nL2 + 11) + rm.locals ≤ R.locals) (hr : (rest.map fun v => v.category).sum ≤ 8) (hf : cells + rm.cells ≤ R.cells ∧ slots + rm.slots ≤ R.slots) (kk : ∀ (r : Option Value) (sz' : Nat) (Sh' : jS) (M' : jM), post r sz' Sh' M' → jJ G X (cells + rm.cells) (slots + rm.slots) sz' Sh' M' q lv (r.toList ++ rest)) : jJ G X cells slots sz Sh M pc lv st0 := by
  subst hn; subst hst
  have eR := C.2.2.2.2.2.2.2.2.2.2.2
  intro H locs ls hP hz hS hl
  refine j_back (rm := rm) (rest := rest) C.2.2.2.2.2.2.2.1 (va_runV (As := As) (rest := rest) ⟨C.1, C.2.1, C.2.2.1, C.2.2.2.1, C.2.2.2.2.1⟩ hM ⟨callB_of n C.2.2.2.2.1 (jGood Y.1) rfl rfl rfl (C.2.2.2.2.1 _ Y.2.1) (C.2.2.2.2.1 _ w1) Y.2.2 (by rw [eR]; exact hR), C.2.2.2.2.1 _ w2, C.2.2.2.2.1 _ w3⟩ ⟨jblind, va_recv C.2.2.2.2.2.1 (jobjP B hP hs) (ci := ci) (q0 := 0) B.2.1 rfl, jpre (rm := rm) C hP hz hS⟩ rfl hln (hl.1.trans C.2.2.2.2.2.2.2.2.2.1) rfl (lv_room hr) hd (by rw [eR]; exact hf)) hS hl kk
theorem j_callS {y2 : MethodName} {cc2 : ByteArray} {nL2 n index : Nat} {ret2 : Option FieldType} {rm : Room} {As rest st0 : List Value} (C : jOk G X y cc nL R) (hd : decode cc pc = .ok (.invokestatic index, 3)) (hn : pc + 3 = q) (Y : jcal y2 cc2 nL2 ret2 n) (w1 : Cond.methodLink y.cls index y2 ∈ jtb) (w2 : Cond.static y2 ∈ jtb) (hM : jC G y2 cc2 nL2 ret2 rm sz Sh M (As) post) (hln : As.length = n) (hst : st0 = As.reverse ++ rest) (hR : rm.frames + 1 ≤ R.frames ∧ 8 + (nL2 + 11) + rm.locals ≤ R.locals) (hr : (rest.map fun v => v.category).sum ≤ 8) (hf : cells + rm.cells ≤ R.cells ∧ slots + rm.slots ≤ R.slots) (kk : ∀ (r : Option Value) (sz' : Nat) (Sh' : jS) (M' : jM), post r sz' Sh' M' → jJ G X (cells + rm.cells) (slots + rm.slots) sz' Sh' M' q lv (r.toList ++ rest)) : jJ G X cells slots sz Sh M pc lv st0 := by
  subst hn; subst hst
  have eR := C.2.2.2.2.2.2.2.2.2.2.2
  intro H locs ls hP hz hS hl
  refine j_back (rm := rm) (rest := rest) C.2.2.2.2.2.2.2.1 (va_runS (As := As) (rest := rest) ⟨C.1, C.2.1, C.2.2.1, C.2.2.2.1, C.2.2.2.2.1⟩ hM ⟨callB_of n C.2.2.2.2.1 (jGood Y.1) rfl rfl rfl (C.2.2.2.2.1 _ Y.2.1) (C.2.2.2.2.1 _ w1) Y.2.2 (by rw [eR]; exact hR), C.2.2.2.2.1 _ w2⟩ ⟨jblind, jpre (rm := rm) C hP hz hS⟩ rfl hln (hl.1.trans C.2.2.2.2.2.2.2.2.2.1) rfl (lv_room hr) hd (by rw [eR]; exact hf)) hS hl kk
theorem j_callI {y2 : MethodName} {cc2 : ByteArray} {nL2 n index b : Nat} {rm : Room} {As rest st0 : List Value} (C : jOk G X y cc nL R) (hd : decode cc pc = .ok (.invokespecial index, 3)) (hn : pc + 3 = q) (Y : jcal y2 cc2 nL2 none n) (w1 : Cond.methodLink y.cls index y2 ∈ jtb ∨ (y.cls, index, y2, "MeltingMarks") ∈ jnest) (w2 : Cond.instanceMethod y2 ∈ jtb) (hin : y2.name = "<init>") (hM : jC G y2 cc2 nL2 none rm sz Sh M (.ref b :: As) post) (hln : As.length = n) (hst : st0 = As.reverse ++ .ref b :: rest) (hR : rm.frames + 1 ≤ R.frames ∧ 8 + (nL2 + 11) + rm.locals ≤ R.locals) (hr : (rest.map fun v => v.category).sum ≤ 8) (hf : cells + rm.cells ≤ R.cells ∧ slots + rm.slots ≤ R.slots) (kk : ∀ (r : Option Value) (sz' : Nat) (Sh' : jS) (M' : jM), post r sz' Sh' M' → jJ G X (cells + rm.cells) (slots + rm.slots) sz' Sh' M' q lv (r.toList ++ rest)) : jJ G X cells slots sz Sh M pc lv st0 := by
  subst hn; subst hst
  have eR := C.2.2.2.2.2.2.2.2.2.2.2
  intro H locs ls hP hz hS hl
  rcases w1 with w1 | w1
  · exact j_back (rm := rm) (rest := rest) C.2.2.2.2.2.2.2.1 (va_runI (As := As) (rest := rest) ⟨C.1, C.2.1, C.2.2.1, C.2.2.2.1, C.2.2.2.2.1⟩ hM ⟨callB_of n C.2.2.2.2.1 (jGood Y.1) rfl rfl rfl (C.2.2.2.2.1 _ Y.2.1) (C.2.2.2.2.1 _ w1) Y.2.2 (by rw [eR]; exact hR), hin, C.2.2.2.2.1 _ w2⟩ ⟨jblind, jpre (rm := rm) C hP hz hS⟩ rfl hln (hl.1.trans C.2.2.2.2.2.2.2.2.2.1) rfl (lv_room hr) hd (by rw [eR]; exact hf)) hS hl kk
  · exact j_back (rm := rm) (rest := rest) C.2.2.2.2.2.2.2.1 (va_runIN (As := As) (rest := rest) ⟨C.1, C.2.1, C.2.2.1, C.2.2.2.1, C.2.2.2.2.1⟩ hM ⟨va_cnB n C.2.2.2.2.1 (jGood Y.1) rfl rfl rfl (C.2.2.2.2.2.2.2.2.1.2.2.2.2.2.1 _ w1) (C.2.2.2.2.1 _ Y.2.1) Y.2.2 (by rw [eR]; exact hR), hin, C.2.2.2.2.1 _ w2⟩ ⟨jblind, jpre (rm := rm) C hP hz hS⟩ rfl hln (hl.1.trans C.2.2.2.2.2.2.2.2.2.1) rfl (lv_room hr) hd (by rw [eR]; exact hf)) hS hl kk
end JCALL
