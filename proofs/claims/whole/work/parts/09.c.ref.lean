theorem jup_row {M : jM} {a k : Nat} {x : Int32} : (jsI M a k x).1 a = va_up (M.1 a) k x := by
  funext j
  show (if a = a ∧ j = k then x else M.1 a j) = _
  by_cases h : j = k
  · subst h; rw [va_up_self]; simp
  · rw [va_up_ne _ _ h]; simp [h]
section PROWS
variable {G : jG} {X : jX} {y : MethodName} {cc : ByteArray} {nL cells slots sz pc q' index a : Nat} {R : Room} {Sh : jS} {M M0 : jM} {lv : List (Nat × Value)} {st : List Value} {F : Nat → Int32} {S : Nat → Prop}
theorem pg_Model_hasImage (hs : (Sh a).1 = 11) (hF : M.1 a = F) (C : jOk G X y cc nL R) (hd : decode cc pc = .ok (.getfield index, 3)) (hn : pc + 3 = q') (hw : Cond.fieldLink y.cls index (TX11 5).1 (TX11 5).2.1 (TX11 5).2.2.1 ∈ jtb) (kk : jJ G X cells slots sz Sh M q' lv (.int (F 5) :: st)) : jJ G X cells slots sz Sh M pc lv (.ref a :: st) := jg_Model_hasImage C hd hn hs hw (by rw [← hF] at kk; exact kk)
theorem pp_Model_hasImage {x : Int32} (hs : (Sh a).1 = 11) (hF : M.1 a = F) (hE : mEq S M0 M ∧ S a) (hz : x = 0 ∨ x = 1) (C : jOk G X y cc nL R) (hd : decode cc pc = .ok (.putfield index, 3)) (hn : pc + 3 = q') (hw : Cond.fieldLink y.cls index (TX11 5).1 (TX11 5).2.1 (TX11 5).2.2.1 ∈ jtb) (kk : ∀ M' : jM, M'.1 a = va_up F 5 x → mEq S M0 M' ∧ S a → jJ G X cells slots sz Sh M' q' lv st) : jJ G X cells slots sz Sh M pc lv (.int x :: .ref a :: st) := jp_Model_hasImage C hd hn hs hw hz (kk _ (by rw [← hF]; exact jup_row) ⟨hE.1.I hE.2, hE.2⟩)
theorem pg_Model_findings (hs : (Sh a).1 = 11) (hF : M.1 a = F) (C : jOk G X y cc nL R) (hd : decode cc pc = .ok (.getfield index, 3)) (hn : pc + 3 = q') (hw : Cond.fieldLink y.cls index (TX11 6).1 (TX11 6).2.1 (TX11 6).2.2.1 ∈ jtb) (kk : jJ G X cells slots sz Sh M q' lv (.int (F 6) :: st)) : jJ G X cells slots sz Sh M pc lv (.ref a :: st) := jg_Model_findings C hd hn hs hw (by rw [← hF] at kk; exact kk)
theorem pp_Model_findings {x : Int32} (hs : (Sh a).1 = 11) (hF : M.1 a = F) (hE : mEq S M0 M ∧ S a) (C : jOk G X y cc nL R) (hd : decode cc pc = .ok (.putfield index, 3)) (hn : pc + 3 = q') (hw : Cond.fieldLink y.cls index (TX11 6).1 (TX11 6).2.1 (TX11 6).2.2.1 ∈ jtb) (kk : ∀ M' : jM, M'.1 a = va_up F 6 x → mEq S M0 M' ∧ S a → jJ G X cells slots sz Sh M' q' lv st) : jJ G X cells slots sz Sh M pc lv (.int x :: .ref a :: st) := jp_Model_findings C hd hn hs hw (kk _ (by rw [← hF]; exact jup_row) ⟨hE.1.I hE.2, hE.2⟩)
theorem pg_Model_taped (hs : (Sh a).1 = 11) (hF : M.1 a = F) (C : jOk G X y cc nL R) (hd : decode cc pc = .ok (.getfield index, 3)) (hn : pc + 3 = q') (hw : Cond.fieldLink y.cls index (TX11 8).1 (TX11 8).2.1 (TX11 8).2.2.1 ∈ jtb) (kk : jJ G X cells slots sz Sh M q' lv (.int (F 8) :: st)) : jJ G X cells slots sz Sh M pc lv (.ref a :: st) := jg_Model_taped C hd hn hs hw (by rw [← hF] at kk; exact kk)
theorem pp_Model_taped {x : Int32} (hs : (Sh a).1 = 11) (hF : M.1 a = F) (hE : mEq S M0 M ∧ S a) (C : jOk G X y cc nL R) (hd : decode cc pc = .ok (.putfield index, 3)) (hn : pc + 3 = q') (hw : Cond.fieldLink y.cls index (TX11 8).1 (TX11 8).2.1 (TX11 8).2.2.1 ∈ jtb) (kk : ∀ M' : jM, M'.1 a = va_up F 8 x → mEq S M0 M' ∧ S a → jJ G X cells slots sz Sh M' q' lv st) : jJ G X cells slots sz Sh M pc lv (.int x :: .ref a :: st) := jp_Model_taped C hd hn hs hw (kk _ (by rw [← hF]; exact jup_row) ⟨hE.1.I hE.2, hE.2⟩)
theorem pg_Model_from (hs : (Sh a).1 = 11) (hF : M.1 a = F) (C : jOk G X y cc nL R) (hd : decode cc pc = .ok (.getfield index, 3)) (hn : pc + 3 = q') (hw : Cond.fieldLink y.cls index (TX11 12).1 (TX11 12).2.1 (TX11 12).2.2.1 ∈ jtb) (kk : jJ G X cells slots sz Sh M q' lv (.int (F 12) :: st)) : jJ G X cells slots sz Sh M pc lv (.ref a :: st) := jg_Model_from C hd hn hs hw (by rw [← hF] at kk; exact kk)
theorem pp_Model_from {x : Int32} (hs : (Sh a).1 = 11) (hF : M.1 a = F) (hE : mEq S M0 M ∧ S a) (C : jOk G X y cc nL R) (hd : decode cc pc = .ok (.putfield index, 3)) (hn : pc + 3 = q') (hw : Cond.fieldLink y.cls index (TX11 12).1 (TX11 12).2.1 (TX11 12).2.2.1 ∈ jtb) (kk : ∀ M' : jM, M'.1 a = va_up F 12 x → mEq S M0 M' ∧ S a → jJ G X cells slots sz Sh M' q' lv st) : jJ G X cells slots sz Sh M pc lv (.int x :: .ref a :: st) := jp_Model_from C hd hn hs hw (kk _ (by rw [← hF]; exact jup_row) ⟨hE.1.I hE.2, hE.2⟩)
theorem pg_Model_to (hs : (Sh a).1 = 11) (hF : M.1 a = F) (C : jOk G X y cc nL R) (hd : decode cc pc = .ok (.getfield index, 3)) (hn : pc + 3 = q') (hw : Cond.fieldLink y.cls index (TX11 13).1 (TX11 13).2.1 (TX11 13).2.2.1 ∈ jtb) (kk : jJ G X cells slots sz Sh M q' lv (.int (F 13) :: st)) : jJ G X cells slots sz Sh M pc lv (.ref a :: st) := jg_Model_to C hd hn hs hw (by rw [← hF] at kk; exact kk)
theorem pp_Model_to {x : Int32} (hs : (Sh a).1 = 11) (hF : M.1 a = F) (hE : mEq S M0 M ∧ S a) (C : jOk G X y cc nL R) (hd : decode cc pc = .ok (.putfield index, 3)) (hn : pc + 3 = q') (hw : Cond.fieldLink y.cls index (TX11 13).1 (TX11 13).2.1 (TX11 13).2.2.1 ∈ jtb) (kk : ∀ M' : jM, M'.1 a = va_up F 13 x → mEq S M0 M' ∧ S a → jJ G X cells slots sz Sh M' q' lv st) : jJ G X cells slots sz Sh M pc lv (.int x :: .ref a :: st) := jp_Model_to C hd hn hs hw (kk _ (by rw [← hF]; exact jup_row) ⟨hE.1.I hE.2, hE.2⟩)
theorem pg_Model_sort (hs : (Sh a).1 = 11) (hF : M.1 a = F) (C : jOk G X y cc nL R) (hd : decode cc pc = .ok (.getfield index, 3)) (hn : pc + 3 = q') (hw : Cond.fieldLink y.cls index (TX11 14).1 (TX11 14).2.1 (TX11 14).2.2.1 ∈ jtb) (kk : jJ G X cells slots sz Sh M q' lv (.int (F 14) :: st)) : jJ G X cells slots sz Sh M pc lv (.ref a :: st) := jg_Model_sort C hd hn hs hw (by rw [← hF] at kk; exact kk)
theorem pp_Model_sort {x : Int32} (hs : (Sh a).1 = 11) (hF : M.1 a = F) (hE : mEq S M0 M ∧ S a) (C : jOk G X y cc nL R) (hd : decode cc pc = .ok (.putfield index, 3)) (hn : pc + 3 = q') (hw : Cond.fieldLink y.cls index (TX11 14).1 (TX11 14).2.1 (TX11 14).2.2.1 ∈ jtb) (kk : ∀ M' : jM, M'.1 a = va_up F 14 x → mEq S M0 M' ∧ S a → jJ G X cells slots sz Sh M' q' lv st) : jJ G X cells slots sz Sh M pc lv (.int x :: .ref a :: st) := jp_Model_sort C hd hn hs hw (kk _ (by rw [← hF]; exact jup_row) ⟨hE.1.I hE.2, hE.2⟩)
theorem pg_Model_which (hs : (Sh a).1 = 11) (hF : M.1 a = F) (C : jOk G X y cc nL R) (hd : decode cc pc = .ok (.getfield index, 3)) (hn : pc + 3 = q') (hw : Cond.fieldLink y.cls index (TX11 15).1 (TX11 15).2.1 (TX11 15).2.2.1 ∈ jtb) (kk : jJ G X cells slots sz Sh M q' lv (.int (F 15) :: st)) : jJ G X cells slots sz Sh M pc lv (.ref a :: st) := jg_Model_which C hd hn hs hw (by rw [← hF] at kk; exact kk)
theorem pp_Model_which {x : Int32} (hs : (Sh a).1 = 11) (hF : M.1 a = F) (hE : mEq S M0 M ∧ S a) (C : jOk G X y cc nL R) (hd : decode cc pc = .ok (.putfield index, 3)) (hn : pc + 3 = q') (hw : Cond.fieldLink y.cls index (TX11 15).1 (TX11 15).2.1 (TX11 15).2.2.1 ∈ jtb) (kk : ∀ M' : jM, M'.1 a = va_up F 15 x → mEq S M0 M' ∧ S a → jJ G X cells slots sz Sh M' q' lv st) : jJ G X cells slots sz Sh M pc lv (.int x :: .ref a :: st) := jp_Model_which C hd hn hs hw (kk _ (by rw [← hF]; exact jup_row) ⟨hE.1.I hE.2, hE.2⟩)
theorem pg_Model_isFault (hs : (Sh a).1 = 11) (hF : M.1 a = F) (C : jOk G X y cc nL R) (hd : decode cc pc = .ok (.getfield index, 3)) (hn : pc + 3 = q') (hw : Cond.fieldLink y.cls index (TX11 16).1 (TX11 16).2.1 (TX11 16).2.2.1 ∈ jtb) (kk : jJ G X cells slots sz Sh M q' lv (.int (F 16) :: st)) : jJ G X cells slots sz Sh M pc lv (.ref a :: st) := jg_Model_isFault C hd hn hs hw (by rw [← hF] at kk; exact kk)
theorem pp_Model_isFault {x : Int32} (hs : (Sh a).1 = 11) (hF : M.1 a = F) (hE : mEq S M0 M ∧ S a) (hz : x = 0 ∨ x = 1) (C : jOk G X y cc nL R) (hd : decode cc pc = .ok (.putfield index, 3)) (hn : pc + 3 = q') (hw : Cond.fieldLink y.cls index (TX11 16).1 (TX11 16).2.1 (TX11 16).2.2.1 ∈ jtb) (kk : ∀ M' : jM, M'.1 a = va_up F 16 x → mEq S M0 M' ∧ S a → jJ G X cells slots sz Sh M' q' lv st) : jJ G X cells slots sz Sh M pc lv (.int x :: .ref a :: st) := jp_Model_isFault C hd hn hs hw hz (kk _ (by rw [← hF]; exact jup_row) ⟨hE.1.I hE.2, hE.2⟩)
theorem pg_Model_deep (hs : (Sh a).1 = 11) (hF : M.1 a = F) (C : jOk G X y cc nL R) (hd : decode cc pc = .ok (.getfield index, 3)) (hn : pc + 3 = q') (hw : Cond.fieldLink y.cls index (TX11 17).1 (TX11 17).2.1 (TX11 17).2.2.1 ∈ jtb) (kk : jJ G X cells slots sz Sh M q' lv (.int (F 17) :: st)) : jJ G X cells slots sz Sh M pc lv (.ref a :: st) := jg_Model_deep C hd hn hs hw (by rw [← hF] at kk; exact kk)
theorem pp_Model_deep {x : Int32} (hs : (Sh a).1 = 11) (hF : M.1 a = F) (hE : mEq S M0 M ∧ S a) (C : jOk G X y cc nL R) (hd : decode cc pc = .ok (.putfield index, 3)) (hn : pc + 3 = q') (hw : Cond.fieldLink y.cls index (TX11 17).1 (TX11 17).2.1 (TX11 17).2.2.1 ∈ jtb) (kk : ∀ M' : jM, M'.1 a = va_up F 17 x → mEq S M0 M' ∧ S a → jJ G X cells slots sz Sh M' q' lv st) : jJ G X cells slots sz Sh M pc lv (.int x :: .ref a :: st) := jp_Model_deep C hd hn hs hw (kk _ (by rw [← hF]; exact jup_row) ⟨hE.1.I hE.2, hE.2⟩)
theorem pg_Model_coded (hs : (Sh a).1 = 11) (hF : M.1 a = F) (C : jOk G X y cc nL R) (hd : decode cc pc = .ok (.getfield index, 3)) (hn : pc + 3 = q') (hw : Cond.fieldLink y.cls index (TX11 19).1 (TX11 19).2.1 (TX11 19).2.2.1 ∈ jtb) (kk : jJ G X cells slots sz Sh M q' lv (.int (F 19) :: st)) : jJ G X cells slots sz Sh M pc lv (.ref a :: st) := jg_Model_coded C hd hn hs hw (by rw [← hF] at kk; exact kk)
theorem pp_Model_coded {x : Int32} (hs : (Sh a).1 = 11) (hF : M.1 a = F) (hE : mEq S M0 M ∧ S a) (C : jOk G X y cc nL R) (hd : decode cc pc = .ok (.putfield index, 3)) (hn : pc + 3 = q') (hw : Cond.fieldLink y.cls index (TX11 19).1 (TX11 19).2.1 (TX11 19).2.2.1 ∈ jtb) (kk : ∀ M' : jM, M'.1 a = va_up F 19 x → mEq S M0 M' ∧ S a → jJ G X cells slots sz Sh M' q' lv st) : jJ G X cells slots sz Sh M pc lv (.int x :: .ref a :: st) := jp_Model_coded C hd hn hs hw (kk _ (by rw [← hF]; exact jup_row) ⟨hE.1.I hE.2, hE.2⟩)
theorem pg_Reader_length (hs : (Sh a).1 = 7) (hF : M.1 a = F) (C : jOk G X y cc nL R) (hd : decode cc pc = .ok (.getfield index, 3)) (hn : pc + 3 = q') (hw : Cond.fieldLink y.cls index (TX7 2).1 (TX7 2).2.1 (TX7 2).2.2.1 ∈ jtb) (kk : jJ G X cells slots sz Sh M q' lv (.int (F 2) :: st)) : jJ G X cells slots sz Sh M pc lv (.ref a :: st) := jg_Reader_length C hd hn hs hw (by rw [← hF] at kk; exact kk)
theorem pp_Reader_length {x : Int32} (hs : (Sh a).1 = 7) (hF : M.1 a = F) (hE : mEq S M0 M ∧ S a) (C : jOk G X y cc nL R) (hd : decode cc pc = .ok (.putfield index, 3)) (hn : pc + 3 = q') (hw : Cond.fieldLink y.cls index (TX7 2).1 (TX7 2).2.1 (TX7 2).2.2.1 ∈ jtb) (kk : ∀ M' : jM, M'.1 a = va_up F 2 x → mEq S M0 M' ∧ S a → jJ G X cells slots sz Sh M' q' lv st) : jJ G X cells slots sz Sh M pc lv (.int x :: .ref a :: st) := jp_Reader_length C hd hn hs hw (kk _ (by rw [← hF]; exact jup_row) ⟨hE.1.I hE.2, hE.2⟩)
theorem pg_Reader_made (hs : (Sh a).1 = 7) (hF : M.1 a = F) (C : jOk G X y cc nL R) (hd : decode cc pc = .ok (.getfield index, 3)) (hn : pc + 3 = q') (hw : Cond.fieldLink y.cls index (TX7 3).1 (TX7 3).2.1 (TX7 3).2.2.1 ∈ jtb) (kk : jJ G X cells slots sz Sh M q' lv (.int (F 3) :: st)) : jJ G X cells slots sz Sh M pc lv (.ref a :: st) := jg_Reader_made C hd hn hs hw (by rw [← hF] at kk; exact kk)
theorem pp_Reader_made {x : Int32} (hs : (Sh a).1 = 7) (hF : M.1 a = F) (hE : mEq S M0 M ∧ S a) (C : jOk G X y cc nL R) (hd : decode cc pc = .ok (.putfield index, 3)) (hn : pc + 3 = q') (hw : Cond.fieldLink y.cls index (TX7 3).1 (TX7 3).2.1 (TX7 3).2.2.1 ∈ jtb) (kk : ∀ M' : jM, M'.1 a = va_up F 3 x → mEq S M0 M' ∧ S a → jJ G X cells slots sz Sh M' q' lv st) : jJ G X cells slots sz Sh M pc lv (.int x :: .ref a :: st) := jp_Reader_made C hd hn hs hw (kk _ (by rw [← hF]; exact jup_row) ⟨hE.1.I hE.2, hE.2⟩)
theorem pg_Reader_place (hs : (Sh a).1 = 7) (hF : M.1 a = F) (C : jOk G X y cc nL R) (hd : decode cc pc = .ok (.getfield index, 3)) (hn : pc + 3 = q') (hw : Cond.fieldLink y.cls index (TX7 4).1 (TX7 4).2.1 (TX7 4).2.2.1 ∈ jtb) (kk : jJ G X cells slots sz Sh M q' lv (.int (F 4) :: st)) : jJ G X cells slots sz Sh M pc lv (.ref a :: st) := jg_Reader_place C hd hn hs hw (by rw [← hF] at kk; exact kk)
theorem pp_Reader_place {x : Int32} (hs : (Sh a).1 = 7) (hF : M.1 a = F) (hE : mEq S M0 M ∧ S a) (C : jOk G X y cc nL R) (hd : decode cc pc = .ok (.putfield index, 3)) (hn : pc + 3 = q') (hw : Cond.fieldLink y.cls index (TX7 4).1 (TX7 4).2.1 (TX7 4).2.2.1 ∈ jtb) (kk : ∀ M' : jM, M'.1 a = va_up F 4 x → mEq S M0 M' ∧ S a → jJ G X cells slots sz Sh M' q' lv st) : jJ G X cells slots sz Sh M pc lv (.int x :: .ref a :: st) := jp_Reader_place C hd hn hs hw (kk _ (by rw [← hF]; exact jup_row) ⟨hE.1.I hE.2, hE.2⟩)
theorem pg_Reader_token (hs : (Sh a).1 = 7) (hF : M.1 a = F) (C : jOk G X y cc nL R) (hd : decode cc pc = .ok (.getfield index, 3)) (hn : pc + 3 = q') (hw : Cond.fieldLink y.cls index (TX7 5).1 (TX7 5).2.1 (TX7 5).2.2.1 ∈ jtb) (kk : jJ G X cells slots sz Sh M q' lv (.int (F 5) :: st)) : jJ G X cells slots sz Sh M pc lv (.ref a :: st) := jg_Reader_token C hd hn hs hw (by rw [← hF] at kk; exact kk)
theorem pp_Reader_token {x : Int32} (hs : (Sh a).1 = 7) (hF : M.1 a = F) (hE : mEq S M0 M ∧ S a) (C : jOk G X y cc nL R) (hd : decode cc pc = .ok (.putfield index, 3)) (hn : pc + 3 = q') (hw : Cond.fieldLink y.cls index (TX7 5).1 (TX7 5).2.1 (TX7 5).2.2.1 ∈ jtb) (kk : ∀ M' : jM, M'.1 a = va_up F 5 x → mEq S M0 M' ∧ S a → jJ G X cells slots sz Sh M' q' lv st) : jJ G X cells slots sz Sh M pc lv (.int x :: .ref a :: st) := jp_Reader_token C hd hn hs hw (kk _ (by rw [← hF]; exact jup_row) ⟨hE.1.I hE.2, hE.2⟩)
theorem pg_Reader_tokenAt (hs : (Sh a).1 = 7) (hF : M.1 a = F) (C : jOk G X y cc nL R) (hd : decode cc pc = .ok (.getfield index, 3)) (hn : pc + 3 = q') (hw : Cond.fieldLink y.cls index (TX7 6).1 (TX7 6).2.1 (TX7 6).2.2.1 ∈ jtb) (kk : jJ G X cells slots sz Sh M q' lv (.int (F 6) :: st)) : jJ G X cells slots sz Sh M pc lv (.ref a :: st) := jg_Reader_tokenAt C hd hn hs hw (by rw [← hF] at kk; exact kk)
theorem pp_Reader_tokenAt {x : Int32} (hs : (Sh a).1 = 7) (hF : M.1 a = F) (hE : mEq S M0 M ∧ S a) (C : jOk G X y cc nL R) (hd : decode cc pc = .ok (.putfield index, 3)) (hn : pc + 3 = q') (hw : Cond.fieldLink y.cls index (TX7 6).1 (TX7 6).2.1 (TX7 6).2.2.1 ∈ jtb) (kk : ∀ M' : jM, M'.1 a = va_up F 6 x → mEq S M0 M' ∧ S a → jJ G X cells slots sz Sh M' q' lv st) : jJ G X cells slots sz Sh M pc lv (.int x :: .ref a :: st) := jp_Reader_tokenAt C hd hn hs hw (kk _ (by rw [← hF]; exact jup_row) ⟨hE.1.I hE.2, hE.2⟩)
theorem pg_Reader_fault (hs : (Sh a).1 = 7) (hF : M.1 a = F) (C : jOk G X y cc nL R) (hd : decode cc pc = .ok (.getfield index, 3)) (hn : pc + 3 = q') (hw : Cond.fieldLink y.cls index (TX7 7).1 (TX7 7).2.1 (TX7 7).2.2.1 ∈ jtb) (kk : jJ G X cells slots sz Sh M q' lv (.int (F 7) :: st)) : jJ G X cells slots sz Sh M pc lv (.ref a :: st) := jg_Reader_fault C hd hn hs hw (by rw [← hF] at kk; exact kk)
theorem pp_Reader_fault {x : Int32} (hs : (Sh a).1 = 7) (hF : M.1 a = F) (hE : mEq S M0 M ∧ S a) (C : jOk G X y cc nL R) (hd : decode cc pc = .ok (.putfield index, 3)) (hn : pc + 3 = q') (hw : Cond.fieldLink y.cls index (TX7 7).1 (TX7 7).2.1 (TX7 7).2.2.1 ∈ jtb) (kk : ∀ M' : jM, M'.1 a = va_up F 7 x → mEq S M0 M' ∧ S a → jJ G X cells slots sz Sh M' q' lv st) : jJ G X cells slots sz Sh M pc lv (.int x :: .ref a :: st) := jp_Reader_fault C hd hn hs hw (kk _ (by rw [← hF]; exact jup_row) ⟨hE.1.I hE.2, hE.2⟩)
end PROWS
theorem w_F1 : ∀ k, k < 62 → chN 2 k = 32 → k = 61 ∨ ∃ s, s < 13 ∧ wps.getD s 0 = k := by decide +kernel
theorem w_F2 : ∀ s, s < 13 → ∀ i, i < (wsl.getD s []).length → chN 2 (wps.getD s 0 + 1 + i) = (wsl.getD s []).getD i 0 ∧ isLt ((wsl.getD s []).getD i 0) = true := by decide +kernel
theorem w_F3 : ∀ s, s < 13 → chN 2 (wps.getD s 0) = 32 ∧ chN 2 (wps.getD s 0 + 1 + (wsl.getD s []).length) = 32 ∧ wps.getD s 0 + 1 + (wsl.getD s []).length < 62 ∧ 1 ≤ (wsl.getD s []).length ∧ (wsl.getD s []).length ≤ 5 := by decide +kernel
theorem w_F4 : ∀ s, s < 13 → ∀ t, t < 13 → wsl.getD s [] = wsl.getD t [] → s = t := by decide +kernel
theorem w_F5 : ∀ s, s < 13 → ∀ t, t < 13 → wps.getD s 0 = wps.getD t 0 → s = t := by decide +kernel
theorem seg_iff {T : Nat → Nat} {y m : Nat} {l : List Nat} : seg T y m = l ↔ m = l.length ∧ ∀ i, i < m → T (y + i) = l.getD i 0 := by
  constructor
  · intro h
    subst h
    refine ⟨by simp [seg], fun i hi => ?_⟩
    simp [seg, hi]
  · rintro ⟨h1, h2⟩
    apply List.ext_getElem
    · simp [seg, h1]
    · intro i h3 h4
      have hi : i < m := by simpa [seg] using h3
      have := h2 i hi
      simp only [seg, List.getElem_map, List.getElem_range]
      rw [this, List.getD_eq_getElem?_getD, List.getElem?_eq_getElem h4]
      rfl
theorem wF_of {T : Nat → Nat} {y m s : Nat} (hs : s < 13) (h : seg T y m = wsl.getD s []) : ∀ f k, k ≤ s → s < k + f → k + f ≤ 13 → wF T y m k f = some s
  | 0, k, h1, h2, _ => absurd h2 (by omega)
  | f + 1, k, h1, h2, h3 => by
    rw [wF]
    by_cases c : seg T y m = wsl.getD k []
    · rw [if_pos c, w_F4 k (by omega) s hs (c.symm.trans h)]
    · rw [if_neg c]
      have : k ≠ s := fun e => c (by rw [e]; exact h)
      exact wF_of hs h f (k + 1) (by omega) (by omega) (by omega)
theorem wF_no {T : Nat → Nat} {y m : Nat} : ∀ f k, k + f ≤ 13 → (∀ s, s < 13 → ¬ seg T y m = wsl.getD s []) → wF T y m k f = none
  | 0, k, _, _ => rfl
  | f + 1, k, h1, h => by rw [wF, if_neg (h k (by omega))]; exact wF_no f (k + 1) (by omega) h
theorem wF_sp {T : Nat → Nat} {y m : Nat} : ∀ f k s, wF T y m k f = some s → seg T y m = wsl.getD s []
  | 0, k, s, h => by rw [wF] at h; cases h
  | f + 1, k, s, h => by
    rw [wF] at h
    split at h
    · rename_i c; cases h; exact c
    · exact wF_sp f (k + 1) s h
theorem w_at {T : Nat → Nat} {y m k : Nat} (hl : ∀ i, i < m → isLt (T (y + i)) = true) (hm : 1 ≤ m) (hk : k + m + 1 < 62) : (chN 2 k = 32 ∧ chN 2 (k + 1 + m) = 32 ∧ ∀ i, i < m → chN 2 (k + 1 + i) = T (y + i)) ↔ ∃ s, s < 13 ∧ wps.getD s 0 = k ∧ seg T y m = wsl.getD s [] := by
  have h32 : ¬ isLt 32 = true := by decide
  constructor
  · rintro ⟨h1, h2, h3⟩
    rcases w_F1 k (by omega) h1 with e | ⟨s, hs, rfl⟩
    · omega
    · refine ⟨s, hs, rfl, seg_iff.mpr ?_⟩
      have f3 := w_F3 s hs
      have hml : m = (wsl.getD s []).length := by
        rcases Nat.lt_trichotomy m (wsl.getD s []).length with c | c | c
        · exfalso
          have f2 := w_F2 s hs m c
          rw [f2.1] at h2
          rw [h2] at f2
          exact h32 f2.2
        · exact c
        · exfalso
          have g := h3 _ c
          rw [f3.2.1] at g
          have := hl _ c
          rw [← g] at this
          exact h32 this
      exact ⟨hml, fun i hi => by rw [← h3 i hi, (w_F2 s hs i (by omega)).1]⟩
  · rintro ⟨s, hs, rfl, h⟩
    obtain ⟨h1, h2⟩ := seg_iff.mp h
    have f3 := w_F3 s hs
    exact ⟨f3.1, by rw [h1]; exact f3.2.1, fun i hi => by rw [h2 i hi, (w_F2 s hs i (by omega)).1]⟩
/-- the tape, as the reference has it -/
def rTp (o : Nat) (M : jM) (T : Nat → Nat) (n : Nat) : Prop := M.1 o 8 = nI n ∧ n ≤ 160 ∧ (∀ i, T i < 256) ∧ ∀ i, i < n → M.1 (o + 6) i = nI (T i)
def wRes (T : Nat → Nat) (y m : Nat) : Int32 := match wF T y m 0 13 with
  | some s => nI (wps.getD s 0)
  | none => -1
theorem wps_lt : ∀ s, s < 13 → wps.getD s 0 < 62 := by decide +kernel
set_option maxRecDepth 100000 in
set_option maxHeartbeats 4000000 in
theorem ctX11_isIn {G : jG} {sz : Nat} {Sh : jS} {M : jM} {o : Nat} (hR : rLay o Sh M) {T : Nat → Nat} {n : Nat} (hT : rTp o M T n) {p lo hi : Nat} (hp : p < 2 ^ 31) (hlo : lo < 2 ^ 31) (hhi : hi < 2 ^ 31) : jC G yX11_isIn cX11_isIn 4 (Option.some FieldType.boolean) (jrm 2 0 0) sz Sh M [.ref o, .int (nI p), .int (nI lo), .int (nI hi)] (jR (some (.int (jb (p < n ∧ lo ≤ T p ∧ T p ≤ hi)))) sz Sh M) := by
  refine jC_start (by decide +kernel) (Nat.le_of_ble_eq_true rfl) (fun X C E hN0 => ?_)
  refine j_iload_n (q := 1) C dX11_isIn_0 rfl rfl rfl ?_
  refine j_aload_n (q := 2) C dX11_isIn_1 rfl rfl rfl ?_
  refine jg_Model_taped (q := 5) C dX11_isIn_2 rfl hR.1.1 kw_877 ?_
  rw [hT.1]
  refine j_icmp_ge (q := 8) (tgt := 29) C dX11_isIn_5 rfl (by decide) (fun c_5 => ?_) (fun c_5 => ?_)
  · refine j_iconst (v := nI 0) (q := 30) C dX11_isIn_29 rfl (by decide) ?_
    exact j_zret C E dX11_isIn_30 (by first | rfl | exact jb_nar) rfl rfl (jR_e (congrArg (fun z => some (Value.int z)) (jb_f (fun h => absurd ((nI_leI (by have := hT.2.1; omega) hp).mp c_5) (by omega))).symm) rfl)
  · have hn160 := hT.2.1
    have hpn : p < n := Nat.lt_of_not_le (fun h => c_5 ((nI_leI (a := n) (b := p) (by omega) hp).mpr h))
    have hTp := hT.2.2.1 p
    refine j_aload_n (q := 9) C dX11_isIn_8 rfl rfl rfl ?_
    refine jg_Model_tape (q := 12) C dX11_isIn_9 rfl hR.1.1 kw_876 hR.2.2.2.2.2.2.1 ?_
    refine j_iload_n (q := 13) C dX11_isIn_12 rfl rfl rfl ?_
    refine j_iald (q := 14) C dX11_isIn_13 rfl hR.1.2.2.2.2.2.2.1 (by omega) (by decide) ?_
    rw [hT.2.2.2 p hpn]
    first | refine j_i2lN (q := 15) C dX11_isIn_14 rfl (by omega) ?_ | refine j_i2l (q := 15) C dX11_isIn_14 rfl rfl ?_
    refine j_iload_n (q := 16) C dX11_isIn_15 rfl rfl rfl ?_
    first | refine j_i2lN (q := 17) C dX11_isIn_16 rfl (by omega) ?_ | refine j_i2l (q := 17) C dX11_isIn_16 rfl rfl ?_
    refine j_iload_n (q := 18) C dX11_isIn_17 rfl rfl rfl ?_
    first | refine j_i2lN (q := 19) C dX11_isIn_18 rfl (by omega) ?_ | refine j_i2l (q := 19) C dX11_isIn_18 rfl rfl ?_
    refine jS1 (q := 22) C dX11_isIn_19 rfl mX11_within kw_898 kw_899 ctX11_within rfl rfl (by decide) (Nat.le_of_ble_eq_true rfl) (by decide) ?_
    refine j_if_eq (q := 25) (tgt := 29) C dX11_isIn_22 rfl (by decide) (fun c_22 => ?_) (fun c_22 => ?_)
    · refine j_iconst (v := nI 0) (q := 30) C dX11_isIn_29 rfl (by decide) ?_
      exact j_zret C E dX11_isIn_30 (by first | rfl | exact jb_nar) rfl rfl (jR_e (congrArg (fun z => some (Value.int z)) (jb_f (fun h => jb_0.mp c_22 ⟨(pk_lLE (by omega) (by omega)).mpr h.2.1, (pk_lLE (by omega) (by omega)).mpr h.2.2⟩)).symm) rfl)
    · refine j_iconst (v := nI 1) (q := 26) C dX11_isIn_25 rfl (by decide) ?_
      refine j_goto (tgt := 30) C dX11_isIn_26 (by decide) ?_
      exact j_zret C E dX11_isIn_30 (by first | rfl | exact jb_nar) rfl rfl (jR_e (congrArg (fun z => some (Value.int z)) (jb_t ⟨hpn, (pk_lLE (by omega) (by omega)).mp (jb_n.mp c_22).1, (pk_lLE (by omega) (by omega)).mp (jb_n.mp c_22).2⟩).symm) rfl)

set_option maxRecDepth 100000 in
set_option maxHeartbeats 4000000 in
theorem ctX11_wordHere {G : jG} {sz : Nat} {Sh : jS} {M : jM} {o : Nat} (hR : rLay o Sh M) {T : Nat → Nat} {n : Nat} (hT : rTp o M T n) {y m : Nat} (hfr : M.1 o 12 = nI y) (hto : M.1 o 13 = nI (y + m)) (hm : 1 ≤ m) (hym : y + m ≤ n) (hl : ∀ i, i < m → isLt (T (y + i)) = true) : jC G yX11_wordHere cX11_wordHere 4 (Option.some FieldType.int) (jrm 6 0 0) sz Sh M [.ref o] (jR (some (.int (wRes T y m))) sz Sh M) := by
  refine jC_start (by decide +kernel) (Nat.le_of_ble_eq_true rfl) (fun X C E hN0 => ?_)
  have hn160 := hT.2.1
  refine j_iconst (v := nI 0) (q := 1) C dX11_wordHere_0 rfl (by decide) ?_
  refine j_istore_n (lv' := [(1, _), (0, _)]) (q := 2) C dX11_wordHere_1 rfl rfl (by decide) rfl ?_
  have loop2 : ∀ (f k : Nat), (∀ s, s < 13 → wps.getD s 0 < k → ¬ seg T y m = wsl.getD s []) → k + f = 70 → k ≤ 62 → jJ G X 0 0 sz Sh M 2 [(1, .int (nI k)), (0, .ref o)] [] := by
    intro f
    induction f with
    | zero => intro k hno hk hk2; omega
    | succ f ih0 =>
      intro k hno hk hk2
      have ih : ∀ k', (∀ s, s < 13 → wps.getD s 0 < k' → ¬ seg T y m = wsl.getD s []) → k' = k + 1 → k' ≤ 62 → jJ G X 0 0 sz Sh M 2 [(1, .int (nI k')), (0, .ref o)] [] := fun k' h1 h2 h3 => ih0 k' h1 (by omega) h3
      refine j_iload_n (q := 3) C dX11_wordHere_2 rfl rfl rfl ?_
      refine j_aload_n (q := 4) C dX11_wordHere_3 rfl rfl rfl ?_
      refine jg_Model_to (q := 7) C dX11_wordHere_4 rfl hR.1.1 kw_882 ?_
      rw [hto]
      first | refine j_iaddN (q := 8) C dX11_wordHere_7 rfl ?_ | refine j_iadd (q := 8) C dX11_wordHere_7 rfl ?_
      refine j_aload_n (q := 9) C dX11_wordHere_8 rfl rfl rfl ?_
      refine jg_Model_from (q := 12) C dX11_wordHere_9 rfl hR.1.1 kw_881 ?_
      rw [hfr]
      refine j_isub (q := 13) C dX11_wordHere_12 rfl ?_
      refine j_top (v' := .int (nI (k + m))) (congrArg Value.int (by rw [pk_sub (by omega)]; congr 1; omega)) ?_
      refine j_iconst (v := nI 1) (q := 14) C dX11_wordHere_13 rfl (by decide) ?_
      first | refine j_iaddN (q := 15) C dX11_wordHere_14 rfl ?_ | refine j_iadd (q := 15) C dX11_wordHere_14 rfl ?_
      refine j_ldcS (q := 17) C dX11_wordHere_15 rfl C.2.2.2.2.2.2.2.2.1.2.1.2.2.1 ?_
      refine jK1 (by decide : (2 : Nat) < 3) C dX11_wordHere_17 rfl mJ0_length_8abf5 kw_1033 kw_528 kw_529 (ctJ0_length_8abf5 (by decide : (2 : Nat) < 3)) rfl rfl (by decide) (Nat.le_of_ble_eq_true rfl) (by decide) ?_
      rw [show (chL 2).length = 62 from rfl]
      refine j_icmp_ge (q := 23) (tgt := 130) C dX11_wordHere_20 rfl (by decide) (fun c_20 => ?_) (fun c_20 => ?_)
      · refine j_iconst (v := (-1)) (q := 131) C dX11_wordHere_130 rfl (by decide) ?_
        exact j_iret C E dX11_wordHere_131 rfl rfl (jR_e (by unfold wRes; rw [wF_no 13 0 (by omega) (fun s hs hg => by
                have h62 := (nI_leI (a := 62) (b := k + m + 1) (by omega) (by omega)).mp c_20
                have f3 := w_F3 s hs
                have hml := (seg_iff.mp hg).1
                exact hno s hs (by omega) hg)]) rfl)
      · have hkm : k + m + 1 < 62 := Nat.lt_of_not_le (fun h => c_20 ((nI_leI (a := 62) (b := k + m + 1) (by omega) (by omega)).mpr h))
        have jno : ¬ (∃ s, s < 13 ∧ wps.getD s 0 = k ∧ seg T y m = wsl.getD s []) → ∀ iv, jJ G X 0 0 sz Sh M 118 [(3, .int (iv)), (2, .int (nI 0)), (1, .int (nI k)), (0, .ref o)] [] := by
          intro hc iv
          refine j_iload_n (q := 119) C dX11_wordHere_118 rfl rfl rfl ?_
          refine j_if_eq (q := 122) (tgt := 124) C dX11_wordHere_119 rfl (by decide) (fun c_119 => ?_) (fun c_119 => absurd rfl c_119)
          first | refine j_iincN (lv' := [(1, _), (3, _), (2, _), (0, _)]) (q := 127) C dX11_wordHere_124 rfl rfl (by decide) rfl ?_ | refine j_iinc (lv' := [(1, _), (3, _), (2, _), (0, _)]) (q := 127) C dX11_wordHere_124 rfl rfl rfl (by decide) rfl ?_
          refine j_goto (tgt := 2) C dX11_wordHere_127 (by decide) ?_
          exact j_fewer (lv' := [(1, .int (nI (k + 1))), (0, .ref o)]) (by simp) (ih (k + 1) (fun s hs hw hg => by
            by_cases e : wps.getD s 0 = k
            · exact hc ⟨s, hs, e, hg⟩
            · exact hno s hs (by omega) hg) rfl (by omega))
        have jyes : (∃ s, s < 13 ∧ wps.getD s 0 = k ∧ seg T y m = wsl.getD s []) → ∀ iv, jJ G X 0 0 sz Sh M 118 [(3, .int (iv)), (2, .int (nI 1)), (1, .int (nI k)), (0, .ref o)] [] := by
          rintro ⟨s, hs, hsk, hg⟩ iv
          refine j_iload_n (q := 119) C dX11_wordHere_118 rfl rfl rfl ?_
          refine j_if_eq (q := 122) (tgt := 124) C dX11_wordHere_119 rfl (by decide) (fun c_119 => absurd c_119 (by decide)) (fun c_119 => ?_)
          refine j_iload_n (q := 123) C dX11_wordHere_122 rfl rfl rfl ?_
          exact j_iret C E dX11_wordHere_123 rfl rfl (jR_e (by unfold wRes; rw [wF_of hs hg 13 0 (by omega) (by omega) (by omega)]; show _ = some (Value.int (nI (wps.getD s 0))); rw [hsk]) rfl)
        have jz : ¬ (∃ s, s < 13 ∧ wps.getD s 0 = k ∧ seg T y m = wsl.getD s []) → ∀ iv, jJ G X 0 0 sz Sh M 65 [(3, .int (iv)), (2, .int (nI 0)), (1, .int (nI k)), (0, .ref o)] [] := by
          intro hc iv
          refine j_iload_n (q := 66) C dX11_wordHere_65 rfl rfl rfl ?_
          refine j_if_eq (q := 69) (tgt := 118) C dX11_wordHere_66 rfl (by decide) (fun c_66 => ?_) (fun c_66 => absurd rfl c_66)
          exact jno hc iv
        refine j_ldcS (q := 25) C dX11_wordHere_23 rfl C.2.2.2.2.2.2.2.2.1.2.1.2.2.1 ?_
        refine j_iload_n (q := 26) C dX11_wordHere_25 rfl rfl rfl ?_
        refine jK1 (by decide : (2 : Nat) < 3) C dX11_wordHere_26 rfl mJ0_charAt_5068e kw_1034 kw_484 kw_485 (ctJ0_charAt_5068e (by decide : (2 : Nat) < 3) (k := k) (show k < 62 by omega)) rfl rfl (by decide) (Nat.le_of_ble_eq_true rfl) (by decide) ?_
        refine j_bipush (v := nI 32) (q := 31) C dX11_wordHere_29 rfl (by decide) ?_
        refine j_icmp_ne (q := 34) (tgt := 61) C dX11_wordHere_31 rfl (by decide) (fun c_31 => ?_) (fun c_31 => ?_)
        · refine j_iconst (v := nI 0) (q := 62) C dX11_wordHere_61 rfl (by decide) ?_
          refine j_istore_n (lv' := [(2, _), (1, _), (0, _)]) (q := 63) C dX11_wordHere_62 rfl rfl (by decide) rfl ?_
          refine j_iconst (v := nI 0) (q := 64) C dX11_wordHere_63 rfl (by decide) ?_
          refine j_istore_n (lv' := [(3, _), (2, _), (1, _), (0, _)]) (q := 65) C dX11_wordHere_64 rfl rfl (by decide) rfl ?_
          exact j_fewer (lv' := [(3, .int (nI 0)), (2, .int (nI 0)), (1, .int (nI k)), (0, .ref o)]) (by simp) (jz (fun h => c_31 (by rw [((w_at hl hm (by omega)).mpr h).1])) _)
        · refine j_ldcS (q := 36) C dX11_wordHere_34 rfl C.2.2.2.2.2.2.2.2.1.2.1.2.2.1 ?_
          refine j_iload_n (q := 37) C dX11_wordHere_36 rfl rfl rfl ?_
          refine j_iconst (v := nI 1) (q := 38) C dX11_wordHere_37 rfl (by decide) ?_
          first | refine j_iaddN (q := 39) C dX11_wordHere_38 rfl ?_ | refine j_iadd (q := 39) C dX11_wordHere_38 rfl ?_
          refine j_aload_n (q := 40) C dX11_wordHere_39 rfl rfl rfl ?_
          refine jg_Model_to (q := 43) C dX11_wordHere_40 rfl hR.1.1 kw_882 ?_
          rw [hto]
          first | refine j_iaddN (q := 44) C dX11_wordHere_43 rfl ?_ | refine j_iadd (q := 44) C dX11_wordHere_43 rfl ?_
          refine j_aload_n (q := 45) C dX11_wordHere_44 rfl rfl rfl ?_
          refine jg_Model_from (q := 48) C dX11_wordHere_45 rfl hR.1.1 kw_881 ?_
          rw [hfr]
          refine j_isub (q := 49) C dX11_wordHere_48 rfl ?_
          refine j_top (v' := .int (nI (k + 1 + m))) (congrArg Value.int (by rw [pk_sub (by omega)]; congr 1; omega)) ?_
          refine jK1 (by decide : (2 : Nat) < 3) C dX11_wordHere_49 rfl mJ0_charAt_5068e kw_1034 kw_484 kw_485 (ctJ0_charAt_5068e (by decide : (2 : Nat) < 3) (k := (k + 1 + m)) (show (k + 1 + m) < 62 by omega)) rfl rfl (by decide) (Nat.le_of_ble_eq_true rfl) (by decide) ?_
          refine j_bipush (v := nI 32) (q := 54) C dX11_wordHere_52 rfl (by decide) ?_
          refine j_icmp_ne (q := 57) (tgt := 61) C dX11_wordHere_54 rfl (by decide) (fun c_54 => ?_) (fun c_54 => ?_)
          · refine j_iconst (v := nI 0) (q := 62) C dX11_wordHere_61 rfl (by decide) ?_
            refine j_istore_n (lv' := [(2, _), (1, _), (0, _)]) (q := 63) C dX11_wordHere_62 rfl rfl (by decide) rfl ?_
            refine j_iconst (v := nI 0) (q := 64) C dX11_wordHere_63 rfl (by decide) ?_
            refine j_istore_n (lv' := [(3, _), (2, _), (1, _), (0, _)]) (q := 65) C dX11_wordHere_64 rfl rfl (by decide) rfl ?_
            exact j_fewer (lv' := [(3, .int (nI 0)), (2, .int (nI 0)), (1, .int (nI k)), (0, .ref o)]) (by simp) (jz (fun h => c_54 (by rw [((w_at hl hm (by omega)).mpr h).2.1])) _)
          · refine j_iconst (v := nI 1) (q := 58) C dX11_wordHere_57 rfl (by decide) ?_
            refine j_goto (tgt := 62) C dX11_wordHere_58 (by decide) ?_
            refine j_istore_n (lv' := [(2, _), (1, _), (0, _)]) (q := 63) C dX11_wordHere_62 rfl rfl (by decide) rfl ?_
            refine j_iconst (v := nI 0) (q := 64) C dX11_wordHere_63 rfl (by decide) ?_
            refine j_istore_n (lv' := [(3, _), (2, _), (1, _), (0, _)]) (q := 65) C dX11_wordHere_64 rfl rfl (by decide) rfl ?_
            have h1 : chN 2 k = 32 := (nI_eq (by have := chN_lt 2 (by decide) k (show k < 62 by omega); omega) (by omega)).mp c_31
            have h2 : chN 2 (k + 1 + m) = 32 := (nI_eq (by have := chN_lt 2 (by decide) (k + 1 + m) (show k + 1 + m < 62 by omega); omega) (by omega)).mp c_54
            have loop65 : ∀ (nb i : Nat), (∀ j, j < i → chN 2 (k + 1 + j) = T (y + j)) → i + nb = m → jJ G X 0 0 sz Sh M 65 [(3, .int (nI i)), (2, .int (nI 1)), (1, .int (nI k)), (0, .ref o)] [] := by
              intro nb
              induction nb with
              | zero =>
                intro i hmt hk
                refine j_iload_n (q := 66) C dX11_wordHere_65 rfl rfl rfl ?_
                refine j_if_eq (q := 69) (tgt := 118) C dX11_wordHere_66 rfl (by decide) (fun c_66 => absurd c_66 (by decide)) (fun c_66 => ?_)
                refine j_iload_n (q := 70) C dX11_wordHere_69 rfl rfl rfl ?_
                refine j_aload_n (q := 71) C dX11_wordHere_70 rfl rfl rfl ?_
                refine jg_Model_to (q := 74) C dX11_wordHere_71 rfl hR.1.1 kw_882 ?_
                rw [hto]
                refine j_aload_n (q := 75) C dX11_wordHere_74 rfl rfl rfl ?_
                refine jg_Model_from (q := 78) C dX11_wordHere_75 rfl hR.1.1 kw_881 ?_
                rw [hfr]
                refine j_isub (q := 79) C dX11_wordHere_78 rfl ?_
                refine j_top (v' := .int (nI (m))) (congrArg Value.int (by rw [pk_sub (by omega)]; congr 1; omega)) ?_
                refine j_icmp_ge (q := 82) (tgt := 118) C dX11_wordHere_79 rfl (by decide) (fun c_79 => ?_) (fun c_79 => absurd (nI_le (by omega) (by omega)) c_79)
                obtain rfl : m = i := by omega
                exact j_fewer (lv' := [(3, .int (nI m)), (2, .int (nI 1)), (1, .int (nI k)), (0, .ref o)]) (by simp) (jyes ((w_at hl hm (by omega)).mp ⟨h1, h2, hmt⟩) _)
              | succ nb ihB =>
                intro i hmt hk
                refine j_iload_n (q := 66) C dX11_wordHere_65 rfl rfl rfl ?_
                refine j_if_eq (q := 69) (tgt := 118) C dX11_wordHere_66 rfl (by decide) (fun c_66 => absurd c_66 (by decide)) (fun c_66 => ?_)
                refine j_iload_n (q := 70) C dX11_wordHere_69 rfl rfl rfl ?_
                refine j_aload_n (q := 71) C dX11_wordHere_70 rfl rfl rfl ?_
                refine jg_Model_to (q := 74) C dX11_wordHere_71 rfl hR.1.1 kw_882 ?_
                rw [hto]
                refine j_aload_n (q := 75) C dX11_wordHere_74 rfl rfl rfl ?_
                refine jg_Model_from (q := 78) C dX11_wordHere_75 rfl hR.1.1 kw_881 ?_
                rw [hfr]
                refine j_isub (q := 79) C dX11_wordHere_78 rfl ?_
                refine j_top (v' := .int (nI (m))) (congrArg Value.int (by rw [pk_sub (by omega)]; congr 1; omega)) ?_
                refine j_icmp_ge (q := 82) (tgt := 118) C dX11_wordHere_79 rfl (by decide) (fun c_79 => absurd c_79 (fun h => absurd ((nI_leI (by omega) (by omega)).mp h) (by omega))) (fun c_79 => ?_)
                refine j_ldcS (q := 84) C dX11_wordHere_82 rfl C.2.2.2.2.2.2.2.2.1.2.1.2.2.1 ?_
                refine j_iload_n (q := 85) C dX11_wordHere_84 rfl rfl rfl ?_
                refine j_iconst (v := nI 1) (q := 86) C dX11_wordHere_85 rfl (by decide) ?_
                first | refine j_iaddN (q := 87) C dX11_wordHere_86 rfl ?_ | refine j_iadd (q := 87) C dX11_wordHere_86 rfl ?_
                refine j_iload_n (q := 88) C dX11_wordHere_87 rfl rfl rfl ?_
                first | refine j_iaddN (q := 89) C dX11_wordHere_88 rfl ?_ | refine j_iadd (q := 89) C dX11_wordHere_88 rfl ?_
                refine jK1 (by decide : (2 : Nat) < 3) C dX11_wordHere_89 rfl mJ0_charAt_5068e kw_1034 kw_484 kw_485 (ctJ0_charAt_5068e (by decide : (2 : Nat) < 3) (k := (k + 1 + i)) (show (k + 1 + i) < 62 by omega)) rfl rfl (by decide) (Nat.le_of_ble_eq_true rfl) (by decide) ?_
                refine j_aload_n (q := 93) C dX11_wordHere_92 rfl rfl rfl ?_
                refine jg_Model_tape (q := 96) C dX11_wordHere_93 rfl hR.1.1 kw_876 hR.2.2.2.2.2.2.1 ?_
                refine j_aload_n (q := 97) C dX11_wordHere_96 rfl rfl rfl ?_
                refine jg_Model_from (q := 100) C dX11_wordHere_97 rfl hR.1.1 kw_881 ?_
                rw [hfr]
                refine j_iload_n (q := 101) C dX11_wordHere_100 rfl rfl rfl ?_
                first | refine j_iaddN (q := 102) C dX11_wordHere_101 rfl ?_ | refine j_iadd (q := 102) C dX11_wordHere_101 rfl ?_
                refine j_iald (q := 103) C dX11_wordHere_102 rfl hR.1.2.2.2.2.2.2.1 (by omega) (by decide) ?_
                rw [hT.2.2.2 (y + i) (by omega)]
                refine j_icmp_ne (q := 106) (tgt := 110) C dX11_wordHere_103 rfl (by decide) (fun c_103 => ?_) (fun c_103 => ?_)
                · refine j_iconst (v := nI 0) (q := 111) C dX11_wordHere_110 rfl (by decide) ?_
                  refine j_istore_n (lv' := [(2, _), (3, _), (1, _), (0, _)]) (q := 112) C dX11_wordHere_111 rfl rfl (by decide) rfl ?_
                  first | refine j_iincN (lv' := [(3, _), (2, _), (1, _), (0, _)]) (q := 115) C dX11_wordHere_112 rfl rfl (by decide) rfl ?_ | refine j_iinc (lv' := [(3, _), (2, _), (1, _), (0, _)]) (q := 115) C dX11_wordHere_112 rfl rfl rfl (by decide) rfl ?_
                  refine j_goto (tgt := 65) C dX11_wordHere_115 (by decide) ?_
                  exact j_fewer (lv' := [(3, .int (nI (i + 1))), (2, .int (nI 0)), (1, .int (nI k)), (0, .ref o)]) (by simp) (jz (fun h => c_103 (by rw [((w_at hl hm (by omega)).mpr h).2.2 i (by omega)])) _)
                · refine j_iconst (v := nI 1) (q := 107) C dX11_wordHere_106 rfl (by decide) ?_
                  refine j_goto (tgt := 111) C dX11_wordHere_107 (by decide) ?_
                  refine j_istore_n (lv' := [(2, _), (3, _), (1, _), (0, _)]) (q := 112) C dX11_wordHere_111 rfl rfl (by decide) rfl ?_
                  first | refine j_iincN (lv' := [(3, _), (2, _), (1, _), (0, _)]) (q := 115) C dX11_wordHere_112 rfl rfl (by decide) rfl ?_ | refine j_iinc (lv' := [(3, _), (2, _), (1, _), (0, _)]) (q := 115) C dX11_wordHere_112 rfl rfl rfl (by decide) rfl ?_
                  refine j_goto (tgt := 65) C dX11_wordHere_115 (by decide) ?_
                  exact j_fewer (lv' := [(3, .int (nI (i + 1))), (2, .int (nI 1)), (1, .int (nI k)), (0, .ref o)]) (by simp) (ihB (i + 1) (fun j hj => by
                    by_cases e : j = i
                    · subst e; exact (nI_eq (by have := chN_lt 2 (by decide) (k + 1 + j) (show k + 1 + j < 62 by omega); omega) (by have := hT.2.2.1 (y + j); omega)).mp c_103
                    · exact hmt j (by omega)) (by omega))
            exact j_fewer (lv' := [(3, .int (nI 0)), (2, .int (nI 1)), (1, .int (nI k)), (0, .ref o)]) (by simp) (loop65 m 0 (fun j hj => absurd hj (by omega)) (by omega))
  exact j_fewer (lv' := [(1, .int (nI 0)), (0, .ref o)]) (by simp) (loop2 70 0 (fun s hs h => absurd h (by omega)) (by omega) (by omega))

