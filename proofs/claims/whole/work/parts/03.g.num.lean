/-- a truth as the machine has it -/
def jb (p : Prop) [Decidable p] : Int32 := if p then nI 1 else nI 0
theorem jb_t {p : Prop} [Decidable p] (h : p) : jb p = nI 1 := by simp [jb, h]
theorem jb_f {p : Prop} [Decidable p] (h : ¬ p) : jb p = nI 0 := by simp [jb, h]
theorem jb_0 {p : Prop} [Decidable p] : jb p = 0 ↔ ¬ p := by
  by_cases h : p
  · simp [jb, h, nI]
  · simp [jb, h, nI]
theorem jb_n {p : Prop} [Decidable p] : ¬ jb p = 0 ↔ p := by rw [jb_0]; exact Classical.not_not
theorem jb_nar {p : Prop} [Decidable p] : narrow .boolean (.int (jb p)) = .int (jb p) := by
  by_cases h : p
  · rw [jb_t h]; rfl
  · rw [jb_f h]; rfl
section JN
variable {G : jG} {X : jX} {y : MethodName} {cc : ByteArray} {nL cells slots sz pc q : Nat} {R : Room} {Sh : jS} {M : jM} {lv lv' : List (Nat × Value)} {st : List Value}
theorem j_iincN {i a n : Nat} (C : jOk G X y cc nL R) (hd : decode cc pc = .ok (.iinc i (n : Nat), 3)) (hn : pc + 3 = q) (hg : lv.lookup i = some (.int (nI a))) (hL : i < nL) (he : (i, Value.int (nI (a + n))) :: lv.filter (fun q => !(q.1 == i) && !(q.1 + 1 == i && q.2.category == 2)) = lv') (k : jJ G X cells slots sz Sh M q lv' st) : jJ G X cells slots sz Sh M pc lv st := j_iinc C hd hn hg (by rw [← nI_add]; rfl) hL he k
theorem j_i2lN {a : Nat} (C : jOk G X y cc nL R) (hd : decode cc pc = .ok (.i2l, 1)) (hn : pc + 1 = q) (ha : a < 2 ^ 31) (k : jJ G X cells slots sz Sh M q lv (.long (lN a) :: st)) : jJ G X cells slots sz Sh M pc lv (.int (nI a) :: st) := j_i2l C hd hn (nI_l ha) k
end JN
