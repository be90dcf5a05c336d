/-! the memory: ints, longs and references by address and place; the shape: kind and length by address -/
abbrev jM : Type := (Nat → Nat → Int32) × (Nat → Nat → Int64) × (Nat → Nat → Option Nat)
abbrev jS : Type := Nat → Nat × Nat
abbrev jZ : Type := (Nat → Nat) × (Nat → Nat) × Nat
abbrev jG := Launch × va_G × (Nat → ClassId) × Nat × jZ
abbrev jX := Program × Env × Room × State × MethodId × Array Value × List Frame × Method × Code × (State → Prop) × Nat
abbrev gl (G : jG) : Launch := G.1
abbrev gD (G : jG) : va_G := G.2.1
abbrev gcy (G : jG) : Nat → ClassId := G.2.2.1
abbrev gN (G : jG) : Nat := G.2.2.2.1
abbrev gZ (G : jG) : jZ := G.2.2.2.2
abbrev xp (X : jX) : Program := X.1
abbrev xe (X : jX) : Env := X.2.1
abbrev xR (X : jX) : Room := X.2.2.1
abbrev xs (X : jX) : State := X.2.2.2.1
abbrev xm (X : jX) : MethodId := X.2.2.2.2.1
abbrev xa (X : jX) : Array Value := X.2.2.2.2.2.1
abbrev xb (X : jX) : List Frame := X.2.2.2.2.2.2.1
abbrev xh (X : jX) : Method := X.2.2.2.2.2.2.2.1
abbrev xc (X : jX) : Code := X.2.2.2.2.2.2.2.2.1
abbrev xQ (X : jX) : State → Prop := X.2.2.2.2.2.2.2.2.2.1
abbrev xL (X : jX) : Nat := X.2.2.2.2.2.2.2.2.2.2
/-- the types of a class's fields: 0 an int, 1 a long, 2 a reference -/
def jts (k : Nat) : List Nat := ([[2,1,1,1,0,0],[2,0,0],[2,2],[2,2,2,2,0],[2,2],[0,0,0,1,0,0,0],[1,0,0,0,0,0,1,1,1,1],[2,2,0,0,0,0,0,0],[2,0,0],[2,2,2,2,2,2,0,0,0,1,1,1],[2,2,2,2,2,0,1],[2,2,2,2,2,0,0,2,0,2,2,2,0,0,0,0,0,0,2,0,2,2,2,2]] : List (List Nat)).getD k []
def jv (M : jM) (a t j : Nat) : Value := if t = 0 then .int (M.1 a j) else if t = 1 then .long (M.2.1 a j) else va_rf (M.2.2 a j)
/-- what stands at an address -/
def jat (G : jG) (q : Nat × Nat) (M : jM) (a : Nat) (H : Heap) : Prop :=
  if q.1 < 12 then t_OB a ((gD G).1 q.1) (jts q.1).length ((gD G).2 q.1) H (fun j => jv M a ((jts q.1).getD j 0) j)
  else H[a]? = some (vp_cell (gcy G q.1) (q.2, if q.1 < 14 then .inl (M.1 a) else if q.1 = 14 then .inr (.inl (M.2.1 a)) else .inr (.inr (.inr (.inr (M.2.2 a))))))
def jP (G : jG) (Sh : jS) (M : jM) (H : Heap) : Prop := ∀ a : Nat, (Sh a).1 < 20 → gN G ≤ a ∧ jat G (Sh a) M a H
def jA (G : jG) : Nat → Prop := fun q => gN G ≤ q
def jtys (cy : Nat → ClassId) : List (ClassId × FieldType) := [(cy 12, .byte), (cy 13, .int), (cy 14, .long), (cy 15, .object RX1), (cy 16, .object RX5), (cy 17, .object RX6), (cy 18, .object RX8), (cy 19, .object RX9)]
def jup {α : Type} (f : Nat → Nat → α) (a k : Nat) (v : α) : Nat → Nat → α := fun b j => if b = a ∧ j = k then v else f b j
def jrow {α : Type} (f : Nat → Nat → α) (a : Nat) (g : Nat → α) : Nat → Nat → α := fun b => if b = a then g else f b
def jsI (M : jM) (a k : Nat) (v : Int32) : jM := (jup M.1 a k v, M.2.1, M.2.2)
def jsL (M : jM) (a k : Nat) (v : Int64) : jM := (M.1, jup M.2.1 a k v, M.2.2)
def jsP (M : jM) (a k : Nat) (v : Option Nat) : jM := (M.1, M.2.1, jup M.2.2 a k v)
def jsv (M : jM) (a k t : Nat) (v : Value) : jM := match v with
  | .int x => if t = 0 then jsI M a k x else M
  | .long x => if t = 1 then jsL M a k x else M
  | .ref x => if t = 2 then jsP M a k (some x) else M
  | .null => if t = 2 then jsP M a k none else M
  | _ => M
theorem jat_kept {G : jG} {q : Nat × Nat} {M M' : jM} {a : Nat} {H H1 : Heap} (h : jat G q M a H) (hq : H1[a]? = H[a]?) (h1 : M'.1 a = M.1 a) (h2 : M'.2.1 a = M.2.1 a) (h3 : M'.2.2 a = M.2.2 a) : jat G q M' a H1 := by
  unfold jat at h ⊢
  by_cases hk : q.1 < 12
  · rw [if_pos hk] at h ⊢
    refine (h.kept hq).to (fun k _ => ?_)
    simp only [jv, h1, h2, h3]
  · rw [if_neg hk] at h ⊢
    rw [hq, h1, h2, h3]
    exact h
theorem jat_lt {G : jG} {q : Nat × Nat} {M : jM} {a : Nat} {H : Heap} (h : jat G q M a H) : a < H.size := by
  unfold jat at h
  by_cases hk : q.1 < 12
  · rw [if_pos hk] at h
    obtain ⟨cell, h2, -⟩ := h
    exact (Array.getElem?_eq_some_iff.mp h2).1
  · rw [if_neg hk] at h
    exact (Array.getElem?_eq_some_iff.mp h).1
theorem jP_put {G : jG} {Sh : jS} {M M' : jM} {a : Nat} {H H1 : Heap} (h : jP G Sh M H) (oq : ∀ q : Nat, q ≠ a → H1[q]? = H[q]?) (hn : (Sh a).1 < 20 → jat G (Sh a) M' a H1) (h1 : ∀ b, b ≠ a → M'.1 b = M.1 b) (h2 : ∀ b, b ≠ a → M'.2.1 b = M.2.1 b) (h3 : ∀ b, b ≠ a → M'.2.2 b = M.2.2 b) : jP G Sh M' H1 := by
  intro b hb
  by_cases e : b = a
  · subst e; exact ⟨(h b hb).1, hn hb⟩
  · exact ⟨(h b hb).1, jat_kept (h b hb).2 (oq b e) (h1 b e) (h2 b e) (h3 b e)⟩
theorem jup_ne {α : Type} {f : Nat → Nat → α} {a k : Nat} {v : α} {b : Nat} (h : b ≠ a) : jup f a k v b = f b := by
  funext j; simp [jup, h]
/-- what stands outside: String constants, statics, the nest's links -/
def jlen : List Nat := [78, 9, 62]
def jtx (i : Nat) : String := (["sum   age   price first late  week  kind  debt  rent  wage  and   or    not   ", "();+-*/<=", " sum age price first late week kind debt rent wage and or not "] : List String).getD i ""
def jbyt : List (List Int32) := [0, 1, 2].map fun i => (jtx i).toList.map fun c => Int32.ofNat c.toNat
def jUnd (j : Nat) : Int32 := ([-1, 0, 1, 1, 1, 0] : List Int32).getD j 0

def jnest : List (String × Nat × MethodName × String) := [(RX10, 9, yX2_init, "MeltingMarks"), (RX10, 12, yX4_init, "MeltingMarks"), (RX10, 15, yX3_init, "MeltingMarks"), (RX9, 39, yX6_init, "MeltingMarks"), (RX9, 40, yX5_init, "MeltingMarks"), (RX10, 39, yX7_init, "MeltingMarks"), (RX10, 50, yX8_init, "MeltingMarks"), (RX10, 279, yX0_search, "MeltingMarks")]
def jE (G : jG) (U : State) : Prop := vk_S 3 jlen jbyt (gZ G).1 (gZ G).2.1 (jA G) U U.heap ∧ (vk_R RX7 104 (jtx 0) ((gZ G).1 0) U ∧ vk_R RX7 112 (jtx 1) ((gZ G).1 1) U ∧ vk_R RX11 166 (jtx 2) ((gZ G).1 2) U ∧ vk_R RX11 187 (jtx 1) ((gZ G).1 1) U) ∧ va_Z "java/lang/String" "COMPACT_STRINGS" "Z" (.int 1) (jA G) U U.heap ∧ va_Z "MeltingMarks" "UNDER" "[I" (.ref (gZ G).2.2) (jA G) U U.heap ∧ va_T .int (gZ G).2.2 6 (fun j => .int (jUnd j)) (jA G) U U.heap ∧ (∀ q ∈ jnest, va_Nw (.methodLinkNest q.1 q.2.1 q.2.2.1 q.2.2.2) U) ∧ va_Nw (.fieldLinkNest "MeltingMarks$Paper" 34 "MeltingMarks" "UNDER" "[I" "MeltingMarks") U ∧ (va_AO RX1 U ∧ va_AO RX6 U ∧ va_AO RX5 U ∧ va_AO RX9 U ∧ va_AO RX8 U ∧ va_Zq "jdk/internal/util/Preconditions" "SIOOBE_FORMATTER" "Ljava/util/function/BiFunction;" (jA G) U U.heap)
theorem jE.keep {G : jG} {s U : State} (h : jE G s) (hW : s.WarmedH U.vm) (hq : ∀ a : Nat, a < s.heap.size → ¬ jA G a → U.heap[a]? = s.heap[a]?) : jE G U := by
  obtain ⟨h1, ⟨r1, r2, r3, r4⟩, z1, z2, t1, n1, n2, a0, a1, a2, a3, a4, z3⟩ := h
  refine ⟨(h1.moved hW.alike).kept hq, ⟨r1.warm hW, r2.warm hW, r3.warm hW, r4.warm hW⟩, (z1.moved hW.alike).kept hq, (z2.moved hW.alike).kept hq, (t1.moved hW.alike).kept hq, fun q hm => (n1 q hm).warmM hW, n2.warmF hW, a0.moved hW.alike, a1.moved hW.alike, a2.moved hW.alike, a3.moved hW.alike, a4.moved hW.alike, (z3.moved hW.alike).kept hq⟩

/-- what is known in a method: the machine, its code, the tables, the classes, what stands outside -/
def jOk (G : jG) (X : jX) (y : MethodName) (cc : ByteArray) (nL : Nat) (R : Room) : Prop := (xp X).tables.exec = Jvm.exec ∧ (xc X).code = cc ∧ (xc X).maxLocals = nL ∧ (xs X).vm.findClass y.cls = some (xm X).cls ∧ (∀ w ∈ jtb, w.before (xa X) (xs X) = true) ∧ va_K (gD G) vwCl (jtys (gcy G)) (xs X) ∧ (xh X).locks = false ∧ gN G ≤ (xs X).heap.size ∧ jE G (xs X) ∧ xL X = nL ∧ (xh X).name = y.name ∧ xR X = R
/-- a contract's end -/
def jQc (G : jG) (post : Option Value → Nat → jS → jM → Prop) : Array Value → State → Outcome → State → Prop := fun _ st oc t => ∃ (r : Option Value) (Sh : jS) (M : jM), oc = .returned r ∧ post r t.heap.size Sh M ∧ jP G Sh M t.heap ∧ va_F (jA G) st t
def jEnd (G : jG) (X : jX) (ret : Option FieldType) (post : Option Value → Nat → jS → jM → Prop) : Prop := (xh X).sig.returnType = ret ∧ xQ X = MQ (xb X) (jQc G post) (xa X) (xs X) (xR X).cells (xR X).slots (jA G)
/-- THE JUDGEMENT: at pc with these locals, this stack and this memory, the machine comes to Q -/
def jJ (G : jG) (X : jX) (cells slots sz : Nat) (Sh : jS) (M : jM) (pc : Nat) (lv : List (Nat × Value)) (st : List Value) : Prop :=
  ∀ (H : Heap) (locs : List Loc) (ls : Array Slot), jP G Sh M H → H.size = sz → va_S (jA G) (xs X).heap H locs → lv_has ls (xL X) lv → W (xp X) (gl G) (xe X) (xR X) (xs X) (xm X) (xa X) (xb X) (xh X) (xc X) H locs cells slots (xQ X) (F0 (xm X) pc ls st)
/-- a contract -/
def jC (G : jG) (y : MethodName) (cc : ByteArray) (nL : Nat) (ret : Option FieldType) (rm : Room) (sz : Nat) (Sh : jS) (M : jM) (av : List Value) (post : Option Value → Nat → jS → jM → Prop) : Prop :=
  Met (gl G) y (.code y cc nL ret :: jtb) rm (fun v U => v = av.toArray ∧ U.heap.size = sz ∧ jP G Sh M U.heap ∧ va_K (gD G) vwCl (jtys (gcy G)) U ∧ gN G ≤ sz ∧ jE G U) (jQc G post) rm.cells rm.slots (jA G)
theorem jlook {lv : List (Nat × Value)} {i : Nat} {v : Value} (h : lv.lookup i = some v) : (i, v) ∈ lv := by
  induction lv with
  | nil => cases h
  | cons q r ih =>
    obtain ⟨a, b⟩ := q
    rw [List.lookup_cons] at h
    by_cases e : i = a
    · subst e
      simp at h
      subst h
      exact List.mem_cons_self
    · have : (i == a) = false := by simp [e]
      rw [this] at h
      exact List.mem_cons_of_mem _ (ih h)
theorem jlv {ls : Array Slot} {n i : Nat} {lv : List (Nat × Value)} {v : Value} (h : lv_has ls n lv) (hl : lv.lookup i = some v) : ls[i]? = some (.val v) := h.2.2 _ (jlook hl)
section JROWS
variable {G : jG} {X : jX} {y : MethodName} {cc : ByteArray} {nL cells slots sz pc q : Nat} {R : Room} {Sh : jS} {M : jM} {lv lv' : List (Nat × Value)} {st : List Value}
/-- fewer locals -/
theorem j_fewer (h : ∀ z ∈ lv', z ∈ lv) (k : jJ G X cells slots sz Sh M pc lv' st) : jJ G X cells slots sz Sh M pc lv st := fun H locs ls hP hz hS hl => k H locs ls hP hz hS ⟨hl.1, hl.2.1, fun z hz => hl.2.2 z (h z hz)⟩
theorem j_top {v v' : Value} (e : v = v') (k : jJ G X cells slots sz Sh M pc lv (v' :: st)) : jJ G X cells slots sz Sh M pc lv (v :: st) := e ▸ k
theorem j_mem {M' : jM} (e : M = M') (k : jJ G X cells slots sz Sh M' pc lv st) : jJ G X cells slots sz Sh M pc lv st := e ▸ k
theorem j_widen {c1 s1 : Nat} (h1 : cells ≤ c1) (h2 : slots ≤ s1) (k : jJ G X c1 s1 sz Sh M pc lv st) : jJ G X cells slots sz Sh M pc lv st := fun H locs ls hP hz hS hl => W.widen h1 h2 (k H locs ls hP hz hS hl)
theorem j_iconst {n : Int} {v : Int32} (C : jOk G X y cc nL R) (hd : decode cc pc = .ok (.iconst n, 1)) (hn : pc + 1 = q) (hv : Int32.ofInt n = v) (k : jJ G X cells slots sz Sh M q lv (.int v :: st)) : jJ G X cells slots sz Sh M pc lv st := by
  subst hn
  intro H locs ls hP hz hS hl
  exact lv_iconst C.1 C.2.1 hd hv (k H locs ls hP hz hS hl)
theorem j_bipush {n : Int} {v : Int32} (C : jOk G X y cc nL R) (hd : decode cc pc = .ok (.bipush n, 2)) (hn : pc + 2 = q) (hv : (Int8.ofInt n).toInt32 = v) (k : jJ G X cells slots sz Sh M q lv (.int v :: st)) : jJ G X cells slots sz Sh M pc lv st := by
  subst hn
  intro H locs ls hP hz hS hl
  exact lv_bipush C.1 C.2.1 hd hv (k H locs ls hP hz hS hl)
theorem j_sipush {n : Int} {v : Int32} (C : jOk G X y cc nL R) (hd : decode cc pc = .ok (.sipush n, 3)) (hn : pc + 3 = q) (hv : (Int16.ofInt n).toInt32 = v) (k : jJ G X cells slots sz Sh M q lv (.int v :: st)) : jJ G X cells slots sz Sh M pc lv st := by
  subst hn
  intro H locs ls hP hz hS hl
  exact lv_sipush C.1 C.2.1 hd hv (k H locs ls hP hz hS hl)
theorem j_lconst {n : Fin 2} {v : Int64} (C : jOk G X y cc nL R) (hd : decode cc pc = .ok (.lconst n, 1)) (hn : pc + 1 = q) (hv : Int64.ofNat (n : Nat) = v) (k : jJ G X cells slots sz Sh M q lv (.long v :: st)) : jJ G X cells slots sz Sh M pc lv st := by
  subst hn
  intro H locs ls hP hz hS hl
  exact lv_lconst C.1 C.2.1 hd hv (k H locs ls hP hz hS hl)
theorem j_null (C : jOk G X y cc nL R) (hd : decode cc pc = .ok (.aconst_null, 1)) (hn : pc + 1 = q) (k : jJ G X cells slots sz Sh M q lv (.null :: st)) : jJ G X cells slots sz Sh M pc lv st := by
  subst hn
  intro H locs ls hP hz hS hl
  exact lv_null C.1 C.2.1 hd (k H locs ls hP hz hS hl)
theorem j_iload_n {j : Fin 4} {i : Nat} {x : Int32} (C : jOk G X y cc nL R) (hd : decode cc pc = .ok (.iload_n j, 1)) (hn : pc + 1 = q) (hi : (j : Nat) = i) (hg : lv.lookup i = some (.int x)) (k : jJ G X cells slots sz Sh M q lv (.int x :: st)) : jJ G X cells slots sz Sh M pc lv st := by
  subst hn
  intro H locs ls hP hz hS hl
  exact lv_iload_n C.1 C.2.1 hd hi (jlv hl hg) (k H locs ls hP hz hS hl)
theorem j_iload {i : Nat} {x : Int32} (C : jOk G X y cc nL R) (hd : decode cc pc = .ok (.iload i, 2)) (hn : pc + 2 = q) (hg : lv.lookup i = some (.int x)) (k : jJ G X cells slots sz Sh M q lv (.int x :: st)) : jJ G X cells slots sz Sh M pc lv st := by
  subst hn
  intro H locs ls hP hz hS hl
  exact lv_iload C.1 C.2.1 hd (jlv hl hg) (k H locs ls hP hz hS hl)
theorem j_istore_n {j : Fin 4} {i : Nat} {x : Int32} (C : jOk G X y cc nL R) (hd : decode cc pc = .ok (.istore_n j, 1)) (hn : pc + 1 = q) (hi : (j : Nat) = i) (hL : i < nL) (he : (i, Value.int x) :: lv.filter (fun q => !(q.1 == i) && !(q.1 + 1 == i && q.2.category == 2)) = lv') (k : jJ G X cells slots sz Sh M q lv' st) : jJ G X cells slots sz Sh M pc lv (.int x :: st) := by
  subst hn
  intro H locs ls hP hz hS hl
  exact lv_istore_n C.1 C.2.1 hd hi hl (by rw [C.2.2.2.2.2.2.2.2.2.1]; exact hL) he (fun ls' hl' => k H locs ls' hP hz hS hl')
theorem j_istore {i : Nat} {x : Int32} (C : jOk G X y cc nL R) (hd : decode cc pc = .ok (.istore i, 2)) (hn : pc + 2 = q) (hL : i < nL) (he : (i, Value.int x) :: lv.filter (fun q => !(q.1 == i) && !(q.1 + 1 == i && q.2.category == 2)) = lv') (k : jJ G X cells slots sz Sh M q lv' st) : jJ G X cells slots sz Sh M pc lv (.int x :: st) := by
  subst hn
  intro H locs ls hP hz hS hl
  exact lv_istore C.1 C.2.1 hd hl (by rw [C.2.2.2.2.2.2.2.2.2.1]; exact hL) he (fun ls' hl' => k H locs ls' hP hz hS hl')
theorem j_lload_n {j : Fin 4} {i : Nat} {x : Int64} (C : jOk G X y cc nL R) (hd : decode cc pc = .ok (.lload_n j, 1)) (hn : pc + 1 = q) (hi : (j : Nat) = i) (hg : lv.lookup i = some (.long x)) (k : jJ G X cells slots sz Sh M q lv (.long x :: st)) : jJ G X cells slots sz Sh M pc lv st := by
  subst hn
  intro H locs ls hP hz hS hl
  exact lv_lload_n C.1 C.2.1 hd hi (jlv hl hg) (k H locs ls hP hz hS hl)
theorem j_lload {i : Nat} {x : Int64} (C : jOk G X y cc nL R) (hd : decode cc pc = .ok (.lload i, 2)) (hn : pc + 2 = q) (hg : lv.lookup i = some (.long x)) (k : jJ G X cells slots sz Sh M q lv (.long x :: st)) : jJ G X cells slots sz Sh M pc lv st := by
  subst hn
  intro H locs ls hP hz hS hl
  exact lv_lload C.1 C.2.1 hd (jlv hl hg) (k H locs ls hP hz hS hl)
theorem j_lstore_n {j : Fin 4} {i : Nat} {x : Int64} (C : jOk G X y cc nL R) (hd : decode cc pc = .ok (.lstore_n j, 1)) (hn : pc + 1 = q) (hi : (j : Nat) = i) (hL : i + 1 < nL) (he : (i, Value.long x) :: lv.filter (fun q => !(q.1 == i) && (!(q.1 == i + 1) && !(q.1 + 1 == i && q.2.category == 2))) = lv') (k : jJ G X cells slots sz Sh M q lv' st) : jJ G X cells slots sz Sh M pc lv (.long x :: st) := by
  subst hn
  intro H locs ls hP hz hS hl
  exact lv_lstore_n C.1 C.2.1 hd hi hl (by rw [C.2.2.2.2.2.2.2.2.2.1]; exact hL) he (fun ls' hl' => k H locs ls' hP hz hS hl')
theorem j_lstore {i : Nat} {x : Int64} (C : jOk G X y cc nL R) (hd : decode cc pc = .ok (.lstore i, 2)) (hn : pc + 2 = q) (hL : i + 1 < nL) (he : (i, Value.long x) :: lv.filter (fun q => !(q.1 == i) && (!(q.1 == i + 1) && !(q.1 + 1 == i && q.2.category == 2))) = lv') (k : jJ G X cells slots sz Sh M q lv' st) : jJ G X cells slots sz Sh M pc lv (.long x :: st) := by
  subst hn
  intro H locs ls hP hz hS hl
  exact lv_lstore C.1 C.2.1 hd hl (by rw [C.2.2.2.2.2.2.2.2.2.1]; exact hL) he (fun ls' hl' => k H locs ls' hP hz hS hl')
theorem j_aload_n {j : Fin 4} {i : Nat} {x : Nat} (C : jOk G X y cc nL R) (hd : decode cc pc = .ok (.aload_n j, 1)) (hn : pc + 1 = q) (hi : (j : Nat) = i) (hg : lv.lookup i = some (.ref x)) (k : jJ G X cells slots sz Sh M q lv (.ref x :: st)) : jJ G X cells slots sz Sh M pc lv st := by
  subst hn
  intro H locs ls hP hz hS hl
  exact lv_aload_n C.1 C.2.1 hd hi (jlv hl hg) (k H locs ls hP hz hS hl)
theorem j_aload {i : Nat} {x : Nat} (C : jOk G X y cc nL R) (hd : decode cc pc = .ok (.aload i, 2)) (hn : pc + 2 = q) (hg : lv.lookup i = some (.ref x)) (k : jJ G X cells slots sz Sh M q lv (.ref x :: st)) : jJ G X cells slots sz Sh M pc lv st := by
  subst hn
  intro H locs ls hP hz hS hl
  exact lv_aload C.1 C.2.1 hd (jlv hl hg) (k H locs ls hP hz hS hl)
theorem j_astore_n {j : Fin 4} {i : Nat} {x : Nat} (C : jOk G X y cc nL R) (hd : decode cc pc = .ok (.astore_n j, 1)) (hn : pc + 1 = q) (hi : (j : Nat) = i) (hL : i < nL) (he : (i, Value.ref x) :: lv.filter (fun q => !(q.1 == i) && !(q.1 + 1 == i && q.2.category == 2)) = lv') (k : jJ G X cells slots sz Sh M q lv' st) : jJ G X cells slots sz Sh M pc lv (.ref x :: st) := by
  subst hn
  intro H locs ls hP hz hS hl
  exact lv_astore_n C.1 C.2.1 hd hi hl (by rw [C.2.2.2.2.2.2.2.2.2.1]; exact hL) he (fun ls' hl' => k H locs ls' hP hz hS hl')
theorem j_astore {i : Nat} {x : Nat} (C : jOk G X y cc nL R) (hd : decode cc pc = .ok (.astore i, 2)) (hn : pc + 2 = q) (hL : i < nL) (he : (i, Value.ref x) :: lv.filter (fun q => !(q.1 == i) && !(q.1 + 1 == i && q.2.category == 2)) = lv') (k : jJ G X cells slots sz Sh M q lv' st) : jJ G X cells slots sz Sh M pc lv (.ref x :: st) := by
  subst hn
  intro H locs ls hP hz hS hl
  exact lv_astore C.1 C.2.1 hd hl (by rw [C.2.2.2.2.2.2.2.2.2.1]; exact hL) he (fun ls' hl' => k H locs ls' hP hz hS hl')
theorem j_iinc {i : Nat} {n : Int} {x v : Int32} (C : jOk G X y cc nL R) (hd : decode cc pc = .ok (.iinc i n, 3)) (hn : pc + 3 = q) (hg : lv.lookup i = some (.int x)) (hv : x + Int32.ofInt n = v) (hL : i < nL) (he : (i, Value.int v) :: lv.filter (fun q => !(q.1 == i) && !(q.1 + 1 == i && q.2.category == 2)) = lv') (k : jJ G X cells slots sz Sh M q lv' st) : jJ G X cells slots sz Sh M pc lv st := by
  subst hn
  intro H locs ls hP hz hS hl
  obtain ⟨j, hj⟩ := List.getElem?_of_mem (jlook hg)
  exact lv_iinc C.1 C.2.1 hd hl hj hv (by rw [C.2.2.2.2.2.2.2.2.2.1]; exact hL) he (fun ls' hl' => k H locs ls' hP hz hS hl')
theorem j_iadd {x z : Int32} (C : jOk G X y cc nL R) (hd : decode cc pc = .ok (.iadd, 1)) (hn : pc + 1 = q) (k : jJ G X cells slots sz Sh M q lv (.int (x + z) :: st)) : jJ G X cells slots sz Sh M pc lv (.int z :: .int x :: st) := by
  subst hn
  intro H locs ls hP hz hS hl
  exact lv_iadd C.1 C.2.1 hd (k H locs ls hP hz hS hl)
theorem j_isub {x z : Int32} (C : jOk G X y cc nL R) (hd : decode cc pc = .ok (.isub, 1)) (hn : pc + 1 = q) (k : jJ G X cells slots sz Sh M q lv (.int (x - z) :: st)) : jJ G X cells slots sz Sh M pc lv (.int z :: .int x :: st) := by
  subst hn
  intro H locs ls hP hz hS hl
  exact lv_isub C.1 C.2.1 hd (k H locs ls hP hz hS hl)
theorem j_imul {x z : Int32} (C : jOk G X y cc nL R) (hd : decode cc pc = .ok (.imul, 1)) (hn : pc + 1 = q) (k : jJ G X cells slots sz Sh M q lv (.int (x * z) :: st)) : jJ G X cells slots sz Sh M pc lv (.int z :: .int x :: st) := by
  subst hn
  intro H locs ls hP hz hS hl
  exact lv_imul C.1 C.2.1 hd (k H locs ls hP hz hS hl)
theorem j_iand {x z : Int32} (C : jOk G X y cc nL R) (hd : decode cc pc = .ok (.iand, 1)) (hn : pc + 1 = q) (k : jJ G X cells slots sz Sh M q lv (.int (x &&& z) :: st)) : jJ G X cells slots sz Sh M pc lv (.int z :: .int x :: st) := by
  subst hn
  intro H locs ls hP hz hS hl
  exact lv_iand C.1 C.2.1 hd (k H locs ls hP hz hS hl)
theorem j_ior {x z : Int32} (C : jOk G X y cc nL R) (hd : decode cc pc = .ok (.ior, 1)) (hn : pc + 1 = q) (k : jJ G X cells slots sz Sh M q lv (.int (x ||| z) :: st)) : jJ G X cells slots sz Sh M pc lv (.int z :: .int x :: st) := by
  subst hn
  intro H locs ls hP hz hS hl
  exact lv_ior C.1 C.2.1 hd (k H locs ls hP hz hS hl)
theorem j_ishl {x z : Int32} (C : jOk G X y cc nL R) (hd : decode cc pc = .ok (.ishl, 1)) (hn : pc + 1 = q) (k : jJ G X cells slots sz Sh M q lv (.int (x <<< (z &&& 31)) :: st)) : jJ G X cells slots sz Sh M pc lv (.int z :: .int x :: st) := by
  subst hn
  intro H locs ls hP hz hS hl
  exact lv_ishl C.1 C.2.1 hd (k H locs ls hP hz hS hl)
theorem j_ishr {x z : Int32} (C : jOk G X y cc nL R) (hd : decode cc pc = .ok (.ishr, 1)) (hn : pc + 1 = q) (k : jJ G X cells slots sz Sh M q lv (.int (x >>> (z &&& 31)) :: st)) : jJ G X cells slots sz Sh M pc lv (.int z :: .int x :: st) := by
  subst hn
  intro H locs ls hP hz hS hl
  exact lv_ishr C.1 C.2.1 hd (k H locs ls hP hz hS hl)
theorem j_ladd {x z : Int64} (C : jOk G X y cc nL R) (hd : decode cc pc = .ok (.ladd, 1)) (hn : pc + 1 = q) (k : jJ G X cells slots sz Sh M q lv (.long (x + z) :: st)) : jJ G X cells slots sz Sh M pc lv (.long z :: .long x :: st) := by
  subst hn
  intro H locs ls hP hz hS hl
  exact lv_ladd C.1 C.2.1 hd (k H locs ls hP hz hS hl)
theorem j_lsub {x z : Int64} (C : jOk G X y cc nL R) (hd : decode cc pc = .ok (.lsub, 1)) (hn : pc + 1 = q) (k : jJ G X cells slots sz Sh M q lv (.long (x - z) :: st)) : jJ G X cells slots sz Sh M pc lv (.long z :: .long x :: st) := by
  subst hn
  intro H locs ls hP hz hS hl
  exact lv_lsub C.1 C.2.1 hd (k H locs ls hP hz hS hl)
theorem j_lmul {x z : Int64} (C : jOk G X y cc nL R) (hd : decode cc pc = .ok (.lmul, 1)) (hn : pc + 1 = q) (k : jJ G X cells slots sz Sh M q lv (.long (x * z) :: st)) : jJ G X cells slots sz Sh M pc lv (.long z :: .long x :: st) := by
  subst hn
  intro H locs ls hP hz hS hl
  exact lv_lmul C.1 C.2.1 hd (k H locs ls hP hz hS hl)
theorem j_land {x z : Int64} (C : jOk G X y cc nL R) (hd : decode cc pc = .ok (.land, 1)) (hn : pc + 1 = q) (k : jJ G X cells slots sz Sh M q lv (.long (x &&& z) :: st)) : jJ G X cells slots sz Sh M pc lv (.long z :: .long x :: st) := by
  subst hn
  intro H locs ls hP hz hS hl
  exact lv_land C.1 C.2.1 hd (k H locs ls hP hz hS hl)
theorem j_lor {x z : Int64} (C : jOk G X y cc nL R) (hd : decode cc pc = .ok (.lor, 1)) (hn : pc + 1 = q) (k : jJ G X cells slots sz Sh M q lv (.long (x ||| z) :: st)) : jJ G X cells slots sz Sh M pc lv (.long z :: .long x :: st) := by
  subst hn
  intro H locs ls hP hz hS hl
  exact lv_lor C.1 C.2.1 hd (k H locs ls hP hz hS hl)
theorem j_idiv {x z : Int32} (C : jOk G X y cc nL R) (hd : decode cc pc = .ok (.idiv, 1)) (hn : pc + 1 = q) (h0 : ¬ z = 0) (k : jJ G X cells slots sz Sh M q lv (.int (x / z) :: st)) : jJ G X cells slots sz Sh M pc lv (.int z :: .int x :: st) := by
  subst hn
  intro H locs ls hP hz hS hl
  exact lv_idiv C.1 C.2.1 hd h0 (k H locs ls hP hz hS hl)
theorem j_irem {x z : Int32} (C : jOk G X y cc nL R) (hd : decode cc pc = .ok (.irem, 1)) (hn : pc + 1 = q) (h0 : ¬ z = 0) (k : jJ G X cells slots sz Sh M q lv (.int (x - x / z * z) :: st)) : jJ G X cells slots sz Sh M pc lv (.int z :: .int x :: st) := by
  subst hn
  intro H locs ls hP hz hS hl
  exact lv_irem C.1 C.2.1 hd h0 (k H locs ls hP hz hS hl)
theorem j_ldiv {x z : Int64} (C : jOk G X y cc nL R) (hd : decode cc pc = .ok (.ldiv, 1)) (hn : pc + 1 = q) (h0 : ¬ z = 0) (k : jJ G X cells slots sz Sh M q lv (.long (x / z) :: st)) : jJ G X cells slots sz Sh M pc lv (.long z :: .long x :: st) := by
  subst hn
  intro H locs ls hP hz hS hl
  exact lv_ldiv C.1 C.2.1 hd h0 (k H locs ls hP hz hS hl)
theorem j_iushr {x z v : Int32} (C : jOk G X y cc nL R) (hd : decode cc pc = .ok (.iushr, 1)) (hn : pc + 1 = q) (hv : (x.toUInt32 >>> (z.toUInt32 &&& Int32.toUInt32 31)).toInt32 = v) (k : jJ G X cells slots sz Sh M q lv (.int v :: st)) : jJ G X cells slots sz Sh M pc lv (.int z :: .int x :: st) := by
  subst hn
  intro H locs ls hP hz hS hl
  exact lv_iushr C.1 C.2.1 hd hv (k H locs ls hP hz hS hl)
theorem j_lushr {x v : Int64} {z : Int32} (C : jOk G X y cc nL R) (hd : decode cc pc = .ok (.lushr, 1)) (hn : pc + 1 = q) (hv : (x.toUInt64 >>> (z.toInt64.toUInt64 &&& Int64.toUInt64 63)).toInt64 = v) (k : jJ G X cells slots sz Sh M q lv (.long v :: st)) : jJ G X cells slots sz Sh M pc lv (.int z :: .long x :: st) := by
  subst hn
  intro H locs ls hP hz hS hl
  exact lv_lushr C.1 C.2.1 hd hv (k H locs ls hP hz hS hl)
theorem j_lshl {x v : Int64} {z : Int32} (C : jOk G X y cc nL R) (hd : decode cc pc = .ok (.lshl, 1)) (hn : pc + 1 = q) (hv : x <<< (z.toInt64 &&& 63) = v) (k : jJ G X cells slots sz Sh M q lv (.long v :: st)) : jJ G X cells slots sz Sh M pc lv (.int z :: .long x :: st) := by
  subst hn
  intro H locs ls hP hz hS hl
  exact lv_lshl C.1 C.2.1 hd hv (k H locs ls hP hz hS hl)
theorem j_lshr {x v : Int64} {z : Int32} (C : jOk G X y cc nL R) (hd : decode cc pc = .ok (.lshr, 1)) (hn : pc + 1 = q) (hv : x >>> (z.toInt64 &&& 63) = v) (k : jJ G X cells slots sz Sh M q lv (.long v :: st)) : jJ G X cells slots sz Sh M pc lv (.int z :: .long x :: st) := by
  subst hn
  intro H locs ls hP hz hS hl
  exact lv_lshr C.1 C.2.1 hd hv (k H locs ls hP hz hS hl)
theorem j_i2l {x : Int32} {v : Int64} (C : jOk G X y cc nL R) (hd : decode cc pc = .ok (.i2l, 1)) (hn : pc + 1 = q) (hv : x.toInt64 = v) (k : jJ G X cells slots sz Sh M q lv (.long v :: st)) : jJ G X cells slots sz Sh M pc lv (.int x :: st) := by
  subst hn
  intro H locs ls hP hz hS hl
  exact lv_i2l C.1 C.2.1 hd hv (k H locs ls hP hz hS hl)
theorem j_l2i {x : Int64} {v : Int32} (C : jOk G X y cc nL R) (hd : decode cc pc = .ok (.l2i, 1)) (hn : pc + 1 = q) (hv : x.toInt32 = v) (k : jJ G X cells slots sz Sh M q lv (.int v :: st)) : jJ G X cells slots sz Sh M pc lv (.long x :: st) := by
  subst hn
  intro H locs ls hP hz hS hl
  exact lv_l2i C.1 C.2.1 hd hv (k H locs ls hP hz hS hl)
theorem j_i2b {x v : Int32} (C : jOk G X y cc nL R) (hd : decode cc pc = .ok (.i2b, 1)) (hn : pc + 1 = q) (hv : x.toInt8.toInt32 = v) (k : jJ G X cells slots sz Sh M q lv (.int v :: st)) : jJ G X cells slots sz Sh M pc lv (.int x :: st) := by
  subst hn
  intro H locs ls hP hz hS hl
  exact lv_i2b C.1 C.2.1 hd hv (k H locs ls hP hz hS hl)
theorem j_i2s {x v : Int32} (C : jOk G X y cc nL R) (hd : decode cc pc = .ok (.i2s, 1)) (hn : pc + 1 = q) (hv : x.toInt16.toInt32 = v) (k : jJ G X cells slots sz Sh M q lv (.int v :: st)) : jJ G X cells slots sz Sh M pc lv (.int x :: st) := by
  subst hn
  intro H locs ls hP hz hS hl
  exact lv_i2s C.1 C.2.1 hd hv (k H locs ls hP hz hS hl)
theorem j_i2c {x v : Int32} (C : jOk G X y cc nL R) (hd : decode cc pc = .ok (.i2c, 1)) (hn : pc + 1 = q) (hv : (x.toUInt32 % 65536).toInt32 = v) (k : jJ G X cells slots sz Sh M q lv (.int v :: st)) : jJ G X cells slots sz Sh M pc lv (.int x :: st) := by
  subst hn
  intro H locs ls hP hz hS hl
  exact lv_i2c C.1 C.2.1 hd hv (k H locs ls hP hz hS hl)
theorem j_dup {va : Value} (C : jOk G X y cc nL R) (hd : decode cc pc = .ok (.dup, 1)) (hn : pc + 1 = q) (h1 : va.category = 1) (k : jJ G X cells slots sz Sh M q lv (va :: va :: st)) : jJ G X cells slots sz Sh M pc lv (va :: st) := by
  subst hn
  intro H locs ls hP hz hS hl
  exact lv_dup C.1 C.2.1 hd h1 (k H locs ls hP hz hS hl)
theorem j_pop {va : Value} (C : jOk G X y cc nL R) (hd : decode cc pc = .ok (.pop, 1)) (hn : pc + 1 = q) (h1 : va.category = 1) (k : jJ G X cells slots sz Sh M q lv st) : jJ G X cells slots sz Sh M pc lv (va :: st) := by
  subst hn
  intro H locs ls hP hz hS hl
  exact lv_pop C.1 C.2.1 hd h1 (k H locs ls hP hz hS hl)
theorem j_pop2 {va : Value} (C : jOk G X y cc nL R) (hd : decode cc pc = .ok (.pop2, 1)) (hn : pc + 1 = q) (h1 : va.category = 2) (k : jJ G X cells slots sz Sh M q lv st) : jJ G X cells slots sz Sh M pc lv (va :: st) := by
  subst hn
  intro H locs ls hP hz hS hl
  exact lv_pop2_2 C.1 C.2.1 hd h1 (k H locs ls hP hz hS hl)
theorem j_dup2_11 {va vb : Value} (C : jOk G X y cc nL R) (hd : decode cc pc = .ok (.dup2, 1)) (hn : pc + 1 = q) (h1 : va.category = 1) (h2 : vb.category = 1) (k : jJ G X cells slots sz Sh M q lv (va :: vb :: va :: vb :: st)) : jJ G X cells slots sz Sh M pc lv (va :: vb :: st) := by
  subst hn
  intro H locs ls hP hz hS hl
  exact lv_dup2_11 C.1 C.2.1 hd h1 h2 (k H locs ls hP hz hS hl)
theorem j_dup2_2 {va : Value} (C : jOk G X y cc nL R) (hd : decode cc pc = .ok (.dup2, 1)) (hn : pc + 1 = q) (h1 : va.category = 2) (k : jJ G X cells slots sz Sh M q lv (va :: va :: st)) : jJ G X cells slots sz Sh M pc lv (va :: st) := by
  subst hn
  intro H locs ls hP hz hS hl
  exact lv_dup2_2 C.1 C.2.1 hd h1 (k H locs ls hP hz hS hl)
theorem j_iaddN {a b : Nat} (C : jOk G X y cc nL R) (hd : decode cc pc = .ok (.iadd, 1)) (hn : pc + 1 = q) (k : jJ G X cells slots sz Sh M q lv (.int (nI (a + b)) :: st)) : jJ G X cells slots sz Sh M pc lv (.int (nI b) :: .int (nI a) :: st) := j_iadd C hd hn (by rw [nI_add]; exact k)
theorem j_imulN {a b : Nat} (C : jOk G X y cc nL R) (hd : decode cc pc = .ok (.imul, 1)) (hn : pc + 1 = q) (k : jJ G X cells slots sz Sh M q lv (.int (nI (a * b)) :: st)) : jJ G X cells slots sz Sh M pc lv (.int (nI b) :: .int (nI a) :: st) := j_imul C hd hn (by rw [pk_mul]; exact k)
theorem j_l2iN {a : Nat} (C : jOk G X y cc nL R) (hd : decode cc pc = .ok (.l2i, 1)) (hn : pc + 1 = q) (k : jJ G X cells slots sz Sh M q lv (.int (nI a) :: st)) : jJ G X cells slots sz Sh M pc lv (.long (lN a) :: st) := j_l2i C hd hn (lN_i a) k

theorem j_if_eq {x : Int32} {off : Int} {tgt : Nat} (C : jOk G X y cc nL R) (hd : decode cc pc = .ok (.ifCond .eq off, 3)) (hn : pc + 3 = q) (ht : (pc : Int) + off = (tgt : Int)) (kt : x = 0 → jJ G X cells slots sz Sh M tgt lv st) (kf : ¬ x = 0 → jJ G X cells slots sz Sh M q lv st) : jJ G X cells slots sz Sh M pc lv (.int x :: st) := by
  subst hn
  intro H locs ls hP hz hS hl
  exact lv_if_eq C.1 C.2.1 hd ht (fun c => kt c H locs ls hP hz hS hl) (fun c => kf c H locs ls hP hz hS hl)

theorem j_if_ne {x : Int32} {off : Int} {tgt : Nat} (C : jOk G X y cc nL R) (hd : decode cc pc = .ok (.ifCond .ne off, 3)) (hn : pc + 3 = q) (ht : (pc : Int) + off = (tgt : Int)) (kt : ¬ x = 0 → jJ G X cells slots sz Sh M tgt lv st) (kf : x = 0 → jJ G X cells slots sz Sh M q lv st) : jJ G X cells slots sz Sh M pc lv (.int x :: st) := by
  subst hn
  intro H locs ls hP hz hS hl
  exact lv_if_ne C.1 C.2.1 hd ht (fun c => kt c H locs ls hP hz hS hl) (fun c => kf c H locs ls hP hz hS hl)

theorem j_if_lt {x : Int32} {off : Int} {tgt : Nat} (C : jOk G X y cc nL R) (hd : decode cc pc = .ok (.ifCond .lt off, 3)) (hn : pc + 3 = q) (ht : (pc : Int) + off = (tgt : Int)) (kt : x < 0 → jJ G X cells slots sz Sh M tgt lv st) (kf : ¬ x < 0 → jJ G X cells slots sz Sh M q lv st) : jJ G X cells slots sz Sh M pc lv (.int x :: st) := by
  subst hn
  intro H locs ls hP hz hS hl
  exact lv_if_lt C.1 C.2.1 hd ht (fun c => kt c H locs ls hP hz hS hl) (fun c => kf c H locs ls hP hz hS hl)

theorem j_if_ge {x : Int32} {off : Int} {tgt : Nat} (C : jOk G X y cc nL R) (hd : decode cc pc = .ok (.ifCond .ge off, 3)) (hn : pc + 3 = q) (ht : (pc : Int) + off = (tgt : Int)) (kt : 0 ≤ x → jJ G X cells slots sz Sh M tgt lv st) (kf : ¬ 0 ≤ x → jJ G X cells slots sz Sh M q lv st) : jJ G X cells slots sz Sh M pc lv (.int x :: st) := by
  subst hn
  intro H locs ls hP hz hS hl
  exact lv_if_ge C.1 C.2.1 hd ht (fun c => kt c H locs ls hP hz hS hl) (fun c => kf c H locs ls hP hz hS hl)

theorem j_if_gt {x : Int32} {off : Int} {tgt : Nat} (C : jOk G X y cc nL R) (hd : decode cc pc = .ok (.ifCond .gt off, 3)) (hn : pc + 3 = q) (ht : (pc : Int) + off = (tgt : Int)) (kt : 0 < x → jJ G X cells slots sz Sh M tgt lv st) (kf : ¬ 0 < x → jJ G X cells slots sz Sh M q lv st) : jJ G X cells slots sz Sh M pc lv (.int x :: st) := by
  subst hn
  intro H locs ls hP hz hS hl
  exact lv_if_gt C.1 C.2.1 hd ht (fun c => kt c H locs ls hP hz hS hl) (fun c => kf c H locs ls hP hz hS hl)

theorem j_if_le {x : Int32} {off : Int} {tgt : Nat} (C : jOk G X y cc nL R) (hd : decode cc pc = .ok (.ifCond .le off, 3)) (hn : pc + 3 = q) (ht : (pc : Int) + off = (tgt : Int)) (kt : x ≤ 0 → jJ G X cells slots sz Sh M tgt lv st) (kf : ¬ x ≤ 0 → jJ G X cells slots sz Sh M q lv st) : jJ G X cells slots sz Sh M pc lv (.int x :: st) := by
  subst hn
  intro H locs ls hP hz hS hl
  exact lv_if_le C.1 C.2.1 hd ht (fun c => kt c H locs ls hP hz hS hl) (fun c => kf c H locs ls hP hz hS hl)
theorem j_icmp_eq {x z : Int32} {off : Int} {tgt : Nat} (C : jOk G X y cc nL R) (hd : decode cc pc = .ok (.if_icmp .eq off, 3)) (hn : pc + 3 = q) (ht : (pc : Int) + off = (tgt : Int)) (kt : x = z → jJ G X cells slots sz Sh M tgt lv st) (kf : ¬ x = z → jJ G X cells slots sz Sh M q lv st) : jJ G X cells slots sz Sh M pc lv (.int z :: .int x :: st) := by
  subst hn
  intro H locs ls hP hz hS hl
  exact lv_icmp_eq C.1 C.2.1 hd ht (fun c => kt c H locs ls hP hz hS hl) (fun c => kf c H locs ls hP hz hS hl)
theorem j_icmp_ne {x z : Int32} {off : Int} {tgt : Nat} (C : jOk G X y cc nL R) (hd : decode cc pc = .ok (.if_icmp .ne off, 3)) (hn : pc + 3 = q) (ht : (pc : Int) + off = (tgt : Int)) (kt : ¬ x = z → jJ G X cells slots sz Sh M tgt lv st) (kf : x = z → jJ G X cells slots sz Sh M q lv st) : jJ G X cells slots sz Sh M pc lv (.int z :: .int x :: st) := by
  subst hn
  intro H locs ls hP hz hS hl
  exact lv_icmp_ne C.1 C.2.1 hd ht (fun c => kt c H locs ls hP hz hS hl) (fun c => kf c H locs ls hP hz hS hl)
theorem j_icmp_lt {x z : Int32} {off : Int} {tgt : Nat} (C : jOk G X y cc nL R) (hd : decode cc pc = .ok (.if_icmp .lt off, 3)) (hn : pc + 3 = q) (ht : (pc : Int) + off = (tgt : Int)) (kt : x < z → jJ G X cells slots sz Sh M tgt lv st) (kf : ¬ x < z → jJ G X cells slots sz Sh M q lv st) : jJ G X cells slots sz Sh M pc lv (.int z :: .int x :: st) := by
  subst hn
  intro H locs ls hP hz hS hl
  exact lv_icmp_lt C.1 C.2.1 hd ht (fun c => kt c H locs ls hP hz hS hl) (fun c => kf c H locs ls hP hz hS hl)
theorem j_icmp_ge {x z : Int32} {off : Int} {tgt : Nat} (C : jOk G X y cc nL R) (hd : decode cc pc = .ok (.if_icmp .ge off, 3)) (hn : pc + 3 = q) (ht : (pc : Int) + off = (tgt : Int)) (kt : z ≤ x → jJ G X cells slots sz Sh M tgt lv st) (kf : ¬ z ≤ x → jJ G X cells slots sz Sh M q lv st) : jJ G X cells slots sz Sh M pc lv (.int z :: .int x :: st) := by
  subst hn
  intro H locs ls hP hz hS hl
  exact lv_icmp_ge C.1 C.2.1 hd ht (fun c => kt c H locs ls hP hz hS hl) (fun c => kf c H locs ls hP hz hS hl)
theorem j_icmp_gt {x z : Int32} {off : Int} {tgt : Nat} (C : jOk G X y cc nL R) (hd : decode cc pc = .ok (.if_icmp .gt off, 3)) (hn : pc + 3 = q) (ht : (pc : Int) + off = (tgt : Int)) (kt : z < x → jJ G X cells slots sz Sh M tgt lv st) (kf : ¬ z < x → jJ G X cells slots sz Sh M q lv st) : jJ G X cells slots sz Sh M pc lv (.int z :: .int x :: st) := by
  subst hn
  intro H locs ls hP hz hS hl
  exact lv_icmp_gt C.1 C.2.1 hd ht (fun c => kt c H locs ls hP hz hS hl) (fun c => kf c H locs ls hP hz hS hl)
theorem j_icmp_le {x z : Int32} {off : Int} {tgt : Nat} (C : jOk G X y cc nL R) (hd : decode cc pc = .ok (.if_icmp .le off, 3)) (hn : pc + 3 = q) (ht : (pc : Int) + off = (tgt : Int)) (kt : x ≤ z → jJ G X cells slots sz Sh M tgt lv st) (kf : ¬ x ≤ z → jJ G X cells slots sz Sh M q lv st) : jJ G X cells slots sz Sh M pc lv (.int z :: .int x :: st) := by
  subst hn
  intro H locs ls hP hz hS hl
  exact lv_icmp_le C.1 C.2.1 hd ht (fun c => kt c H locs ls hP hz hS hl) (fun c => kf c H locs ls hP hz hS hl)
theorem j_goto {off : Int} {tgt : Nat} (C : jOk G X y cc nL R) (hd : decode cc pc = .ok (.goto off, 3)) (ht : (pc : Int) + off = (tgt : Int)) (k : jJ G X cells slots sz Sh M tgt lv st) : jJ G X cells slots sz Sh M pc lv st := fun H locs ls hP hz hS hl => lv_goto C.1 C.2.1 hd ht (k H locs ls hP hz hS hl)
theorem j_ifnonnull {x : Nat} {off : Int} {tgt : Nat} (C : jOk G X y cc nL R) (hd : decode cc pc = .ok (.ifnonnull off, 3)) (ht : (pc : Int) + off = (tgt : Int)) (k : jJ G X cells slots sz Sh M tgt lv st) : jJ G X cells slots sz Sh M pc lv (.ref x :: st) := fun H locs ls hP hz hS hl => lv_ifnonnull C.1 C.2.1 hd ht (k H locs ls hP hz hS hl)
theorem j_ifnonnullN {off : Int} (C : jOk G X y cc nL R) (hd : decode cc pc = .ok (.ifnonnull off, 3)) (hn : pc + 3 = q) (k : jJ G X cells slots sz Sh M q lv st) : jJ G X cells slots sz Sh M pc lv (.null :: st) := by
  subst hn
  exact fun H locs ls hP hz hS hl => lv_ifnonnullN C.1 C.2.1 hd (k H locs ls hP hz hS hl)
theorem j_ldc {index : Nat} {v : Int32} (C : jOk G X y cc nL R) (hd : decode cc pc = .ok (.ldc index, 2)) (hn : pc + 2 = q) (hw : Cond.constant y.cls index v ∈ jtb) (k : jJ G X cells slots sz Sh M q lv (.int v :: st)) : jJ G X cells slots sz Sh M pc lv st := by
  subst hn
  exact fun H locs ls hP hz hS hl => lv_ldc C.1 C.2.1 C.2.2.2.1 (C.2.2.2.2.1 _ hw) hd (k H locs ls hP hz hS hl)
theorem j_ldc_w {index : Nat} {v : Int32} (C : jOk G X y cc nL R) (hd : decode cc pc = .ok (.ldc_w index, 3)) (hn : pc + 3 = q) (hw : Cond.constant y.cls index v ∈ jtb) (k : jJ G X cells slots sz Sh M q lv (.int v :: st)) : jJ G X cells slots sz Sh M pc lv st := by
  subst hn
  exact fun H locs ls hP hz hS hl => lv_ldcw C.1 C.2.1 C.2.2.2.1 (C.2.2.2.2.1 _ hw) hd (k H locs ls hP hz hS hl)
theorem j_ldc2 {index : Nat} {v : Int64} (C : jOk G X y cc nL R) (hd : decode cc pc = .ok (.ldc2_w index, 3)) (hn : pc + 3 = q) (hw : Cond.constantLong y.cls index v ∈ jtb) (k : jJ G X cells slots sz Sh M q lv (.long v :: st)) : jJ G X cells slots sz Sh M pc lv st := by
  subst hn
  exact fun H locs ls hP hz hS hl => lv_ldc2 C.1 C.2.1 C.2.2.2.1 (C.2.2.2.2.1 _ hw) hd (k H locs ls hP hz hS hl)
theorem j_lcmp {x z : Int64} (C : jOk G X y cc nL R) (hd : decode cc pc = .ok (.lcmp, 1)) (hn : pc + 1 = q) (k : jJ G X cells slots sz Sh M q lv (.int (lg_cmp x z) :: st)) : jJ G X cells slots sz Sh M pc lv (.long z :: .long x :: st) := by
  subst hn
  exact fun H locs ls hP hz hS hl => W.lcmp C.1 C.2.1 hd (k H locs ls hP hz hS hl)
theorem lgc_lt (x z : Int64) : lg_cmp x z < 0 ↔ x < z := by
  unfold lg_cmp
  by_cases h1 : z < x
  · simp [h1, Int64.not_lt.mpr (Int64.le_of_lt h1)]
  · by_cases h2 : x = z
    · subst h2; simp
    · simp [h1, h2]
      exact Int64.lt_of_le_of_ne (Int64.not_lt.mp h1) h2
theorem lgc_eq (x z : Int64) : lg_cmp x z = 0 ↔ x = z := by
  unfold lg_cmp
  by_cases h1 : z < x
  · simp [h1]
    intro e; subst e; exact Int64.lt_irrefl h1
  · by_cases h2 : x = z
    · simp [h2]
    · simp [h1, h2]
theorem lgc_gt (x z : Int64) : 0 < lg_cmp x z ↔ z < x := by
  unfold lg_cmp
  by_cases h1 : z < x
  · simp [h1]
  · by_cases h2 : x = z
    · subst h2; simp
    · simp [h1, h2]
theorem lgc_ge (x z : Int64) : 0 ≤ lg_cmp x z ↔ z ≤ x := by rw [← Int32.not_lt, ← Int64.not_lt, lgc_lt]
theorem lgc_le (x z : Int64) : lg_cmp x z ≤ 0 ↔ x ≤ z := by rw [← Int32.not_lt, ← Int64.not_lt, lgc_gt]

theorem j_lcmp_eq {x z : Int64} {off : Int} {tgt q1 : Nat} (C : jOk G X y cc nL R) (hd : decode cc pc = .ok (.lcmp, 1)) (hd2 : decode cc q1 = .ok (.ifCond .eq off, 3)) (hn1 : pc + 1 = q1) (hn : q1 + 3 = q) (ht : (q1 : Int) + off = (tgt : Int)) (kt : x = z → jJ G X cells slots sz Sh M tgt lv st) (kf : ¬ x = z → jJ G X cells slots sz Sh M q lv st) : jJ G X cells slots sz Sh M pc lv (.long z :: .long x :: st) :=
  j_lcmp C hd hn1 (j_if_eq C hd2 hn ht (fun c => kt ((lgc_eq x z).mp c)) (fun c => kf (fun e => c ((lgc_eq x z).mpr e))))
theorem j_lcmp_ne {x z : Int64} {off : Int} {tgt q1 : Nat} (C : jOk G X y cc nL R) (hd : decode cc pc = .ok (.lcmp, 1)) (hd2 : decode cc q1 = .ok (.ifCond .ne off, 3)) (hn1 : pc + 1 = q1) (hn : q1 + 3 = q) (ht : (q1 : Int) + off = (tgt : Int)) (kt : ¬ x = z → jJ G X cells slots sz Sh M tgt lv st) (kf : x = z → jJ G X cells slots sz Sh M q lv st) : jJ G X cells slots sz Sh M pc lv (.long z :: .long x :: st) :=
  j_lcmp C hd hn1 (j_if_ne C hd2 hn ht (fun c => kt (fun e => c ((lgc_eq x z).mpr e))) (fun c => kf ((lgc_eq x z).mp c)))
theorem j_lcmp_lt {x z : Int64} {off : Int} {tgt q1 : Nat} (C : jOk G X y cc nL R) (hd : decode cc pc = .ok (.lcmp, 1)) (hd2 : decode cc q1 = .ok (.ifCond .lt off, 3)) (hn1 : pc + 1 = q1) (hn : q1 + 3 = q) (ht : (q1 : Int) + off = (tgt : Int)) (kt : x < z → jJ G X cells slots sz Sh M tgt lv st) (kf : ¬ x < z → jJ G X cells slots sz Sh M q lv st) : jJ G X cells slots sz Sh M pc lv (.long z :: .long x :: st) :=
  j_lcmp C hd hn1 (j_if_lt C hd2 hn ht (fun c => kt ((lgc_lt x z).mp c)) (fun c => kf (fun e => c ((lgc_lt x z).mpr e))))
theorem j_lcmp_ge {x z : Int64} {off : Int} {tgt q1 : Nat} (C : jOk G X y cc nL R) (hd : decode cc pc = .ok (.lcmp, 1)) (hd2 : decode cc q1 = .ok (.ifCond .ge off, 3)) (hn1 : pc + 1 = q1) (hn : q1 + 3 = q) (ht : (q1 : Int) + off = (tgt : Int)) (kt : z ≤ x → jJ G X cells slots sz Sh M tgt lv st) (kf : ¬ z ≤ x → jJ G X cells slots sz Sh M q lv st) : jJ G X cells slots sz Sh M pc lv (.long z :: .long x :: st) :=
  j_lcmp C hd hn1 (j_if_ge C hd2 hn ht (fun c => kt ((lgc_ge x z).mp c)) (fun c => kf (fun e => c ((lgc_ge x z).mpr e))))
theorem j_lcmp_gt {x z : Int64} {off : Int} {tgt q1 : Nat} (C : jOk G X y cc nL R) (hd : decode cc pc = .ok (.lcmp, 1)) (hd2 : decode cc q1 = .ok (.ifCond .gt off, 3)) (hn1 : pc + 1 = q1) (hn : q1 + 3 = q) (ht : (q1 : Int) + off = (tgt : Int)) (kt : z < x → jJ G X cells slots sz Sh M tgt lv st) (kf : ¬ z < x → jJ G X cells slots sz Sh M q lv st) : jJ G X cells slots sz Sh M pc lv (.long z :: .long x :: st) :=
  j_lcmp C hd hn1 (j_if_gt C hd2 hn ht (fun c => kt ((lgc_gt x z).mp c)) (fun c => kf (fun e => c ((lgc_gt x z).mpr e))))
theorem j_lcmp_le {x z : Int64} {off : Int} {tgt q1 : Nat} (C : jOk G X y cc nL R) (hd : decode cc pc = .ok (.lcmp, 1)) (hd2 : decode cc q1 = .ok (.ifCond .le off, 3)) (hn1 : pc + 1 = q1) (hn : q1 + 3 = q) (ht : (q1 : Int) + off = (tgt : Int)) (kt : x ≤ z → jJ G X cells slots sz Sh M tgt lv st) (kf : ¬ x ≤ z → jJ G X cells slots sz Sh M q lv st) : jJ G X cells slots sz Sh M pc lv (.long z :: .long x :: st) :=
  j_lcmp C hd hn1 (j_if_le C hd2 hn ht (fun c => kt ((lgc_le x z).mp c)) (fun c => kf (fun e => c ((lgc_le x z).mpr e))))
end JROWS
