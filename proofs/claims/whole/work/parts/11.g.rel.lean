theorem yb_c : ∀ k, k < 8 → (((nI (8 * k)).toInt64 &&& 63).toBitVec.smod 64).toNat = 8 * k := by decide +kernel
theorem yb_u : ∀ k, k < 8 → ((nI (8 * k)).toInt64.toUInt64 &&& Int64.toUInt64 63).toNat % 64 = 8 * k := by decide +kernel
theorem yb_255 : ∀ i, i < 64 → (255 : Int64).toBitVec.getLsbD i = decide (i < 8) := by decide +kernel
def yk (b : Int64) (k : Nat) : Nat := b.toBitVec.toNat / 2 ^ (8 * k) % 256
theorem yk_lt {b : Int64} {k : Nat} : yk b k < 256 := Nat.mod_lt _ (by decide)
theorem byK_y {b : Int64} {k : Nat} (hk : k < 8) : byK b k = nI (yk b k) := by
  unfold byK
  have e : (b >>> ((nI (8 * k)).toInt64 &&& 63)) &&& 255 = lN (yk b k) := by
    apply Int64.toBitVec_inj.mp
    apply BitVec.eq_of_getLsbD_eq
    intro i hi
    show ((b.toBitVec.sshiftRight (((nI (8 * k)).toInt64 &&& 63).toBitVec.smod 64).toNat) &&& (255 : Int64).toBitVec).getLsbD i = (BitVec.ofNat 64 (yk b k)).getLsbD i
    rw [yb_c k hk, BitVec.getLsbD_and, BitVec.getLsbD_sshiftRight, yb_255 i hi, BitVec.getLsbD_ofNat]
    unfold yk
    rw [show (256 : Nat) = 2 ^ 8 from rfl, Nat.testBit_mod_two_pow, Nat.testBit_div_two_pow]
    by_cases c : i < 8
    · have c1 : i + 8 * k < 64 := by omega
      have c2 : ¬ 64 ≤ i := by omega
      simp [c, c2, c1, hi, BitVec.getLsbD, Nat.add_comm]
    · simp [c]
  rw [e, lN_i]
theorem i8_m (m : Nat) : (nI m).toInt8 = (nI (m % 256)).toInt8 := by
  apply Int8.toBitVec_inj.mp
  apply BitVec.eq_of_getLsbD_eq
  intro i hi
  show ((BitVec.ofNat 32 m).signExtend 8).getLsbD i = ((BitVec.ofNat 32 (m % 256)).signExtend 8).getLsbD i
  rw [BitVec.getLsbD_signExtend, BitVec.getLsbD_signExtend, BitVec.getLsbD_ofNat, BitVec.getLsbD_ofNat, show (256 : Nat) = 2 ^ 8 from rfl, Nat.testBit_mod_two_pow]
  have c1 : i < 32 := by omega
  simp [hi, c1]
theorem bKc_y {b : Int64} {k : Nat} (hk : k < 8) : bKc b k = bN (yk b k) := by
  unfold bKc bN
  have e : (b.toUInt64 >>> ((nI (8 * k)).toInt64.toUInt64 &&& Int64.toUInt64 63)).toInt64 = lN (b.toBitVec.toNat / 2 ^ (8 * k)) := by
    apply Int64.toBitVec_inj.mp
    apply BitVec.eq_of_toNat_eq
    show (b.toUInt64 >>> ((nI (8 * k)).toInt64.toUInt64 &&& Int64.toUInt64 63)).toNat = (BitVec.ofNat 64 _).toNat
    rw [UInt64.toNat_shiftRight, yb_u k hk, Nat.shiftRight_eq_div_pow, BitVec.toNat_ofNat]
    have h1 : b.toUInt64.toNat = b.toBitVec.toNat := rfl
    have h2 := b.toBitVec.isLt
    have h3 := Nat.div_le_self b.toBitVec.toNat (2 ^ (8 * k))
    rw [h1, Nat.mod_eq_of_lt (by omega)]
  rw [e, lN_i, ← jnar (nI (b.toBitVec.toNat / 2 ^ (8 * k))).toInt8.toInt32, pk_vb, i8_m]
  rfl
/-- a number put into a sheet of 8, 16 or 32 bits: both sides tell 0 and 1 alike -/
theorem enc_n (v : Int32) : v = nI v.toBitVec.toNat := by
  apply Int32.toBitVec_inj.mp
  apply BitVec.eq_of_toNat_eq
  show v.toBitVec.toNat = (BitVec.ofNat 32 v.toBitVec.toNat).toNat
  rw [BitVec.toNat_ofNat, Nat.mod_eq_of_lt v.toBitVec.isLt]
theorem i16_m (m : Nat) : (nI m).toInt16 = (nI (m % 65536)).toInt16 := by
  apply Int16.toBitVec_inj.mp
  apply BitVec.eq_of_getLsbD_eq
  intro i hi
  show ((BitVec.ofNat 32 m).signExtend 16).getLsbD i = ((BitVec.ofNat 32 (m % 65536)).signExtend 16).getLsbD i
  rw [BitVec.getLsbD_signExtend, BitVec.getLsbD_signExtend, BitVec.getLsbD_ofNat, BitVec.getLsbD_ofNat, show (65536 : Nat) = 2 ^ 16 from rfl, Nat.testBit_mod_two_pow]
  have c1 : i < 32 := by omega
  simp [hi, c1]
theorem e8_a : ∀ j, j < 256 → ((nI j = 0 ↔ (nI j).toInt8.toInt32 = 0) ∧ (nI j = nI 1 ↔ (nI j).toInt8.toInt32 = nI 1)) := by decide +kernel
theorem e16_n {j n : Nat} (hj : j < 65536) (hn : n < 2) : (nI j = nI n ↔ (nI j).toInt16.toInt32 = nI n) := by
  constructor
  · intro h
    rw [h]
    rcases (show n = 0 ∨ n = 1 by omega) with rfl | rfl <;> rfl
  · intro h
    have h2 : (nI j).toInt16.toInt32.toInt16 = (nI n).toInt16 := by rw [h]
    have h3 : (nI j).toInt16 = (nI n).toInt16 := by simpa using h2
    have h4 := congrArg (fun z => z.toBitVec.toNat) h3
    have e : ∀ m, m < 65536 → (nI m).toInt16.toBitVec.toNat = m := fun m hm => by
      show ((BitVec.ofNat 32 m).signExtend 16).toNat = m
      rw [BitVec.signExtend_eq_setWidth_of_le _ (by decide), BitVec.toNat_setWidth, BitVec.toNat_ofNat]
      omega
    rw [e j hj, e n (by omega)] at h4
    rw [h4]
theorem enc_E {wd v : Int32} (h : wd = nI 8 ∨ wd = nI 16 ∨ wd = nI 32) : sE (encC wd v) (encR wd v) := by
  rcases h with rfl | rfl | rfl
  · rw [show encC (nI 8) v = v &&& nI 255 from rfl, show encR (nI 8) v = v.toInt8.toInt32 from rfl, pk_and v (m := nI 255) 8 (by decide)]
    have e : v.toInt8 = (nI (v.toBitVec.toNat % 256)).toInt8 := by rw [← i8_m, ← enc_n]
    rw [e]
    exact e8_a _ (Nat.mod_lt _ (by decide))
  · rw [show encC (nI 16) v = v &&& nI 65535 from rfl, show encR (nI 16) v = v.toInt16.toInt32 from rfl, pk_and v (m := nI 65535) 16 (by decide)]
    have e : v.toInt16 = (nI (v.toBitVec.toNat % 65536)).toInt16 := by rw [← i16_m, ← enc_n]
    rw [e]
    exact ⟨e16_n (n := 0) (Nat.mod_lt _ (by decide)) (by omega), e16_n (n := 1) (Nat.mod_lt _ (by decide)) (by omega)⟩
  · exact ⟨Iff.rfl, Iff.rfl⟩
