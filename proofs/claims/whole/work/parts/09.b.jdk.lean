def chL (i : Nat) : List Nat := ([[115, 117, 109, 32, 32, 32, 97, 103, 101, 32, 32, 32, 112, 114, 105, 99, 101, 32, 102, 105, 114, 115, 116, 32, 108, 97, 116, 101, 32, 32, 119, 101, 101, 107, 32, 32, 107, 105, 110, 100, 32, 32, 100, 101, 98, 116, 32, 32, 114, 101, 110, 116, 32, 32, 119, 97, 103, 101, 32, 32, 97, 110, 100, 32, 32, 32, 111, 114, 32, 32, 32, 32, 110, 111, 116, 32, 32, 32], [40, 41, 59, 43, 45, 42, 47, 60, 61], [32, 115, 117, 109, 32, 97, 103, 101, 32, 112, 114, 105, 99, 101, 32, 102, 105, 114, 115, 116, 32, 108, 97, 116, 101, 32, 119, 101, 101, 107, 32, 107, 105, 110, 100, 32, 100, 101, 98, 116, 32, 114, 101, 110, 116, 32, 119, 97, 103, 101, 32, 97, 110, 100, 32, 111, 114, 32, 110, 111, 116, 32]] : List (List Nat)).getD i []
abbrev chN (i k : Nat) : Nat := (chL i).getD k 0
theorem jlen_ok : ∀ i, i < 3 → jlen.getD i 0 = (chL i).length := by decide +kernel
theorem jbyt_ok : ∀ i, i < 3 → ∀ k, k < (chL i).length → (jbyt.getD i []).getD k 0 = nI (chN i k) := by decide +kernel
theorem chN_lt : ∀ i, i < 3 → ∀ k, k < (chL i).length → chN i k < 128 := by decide +kernel
theorem i2c_ok : ∀ c, c < 128 → ((nI c &&& nI 255).toUInt32 % 65536).toInt32 = nI c := by decide +kernel
theorem jlen_lt : ∀ i, i < 3 → (chL i).length < 100 := by decide +kernel
set_option maxRecDepth 100000 in
set_option maxHeartbeats 4000000 in
theorem ctJ0_isLatin1_aae02 {G : jG} {sz : Nat} {Sh : jS} {M : jM} {i : Nat} (hi : i < 3) : jC G yJ0_isLatin1_aae02 cJ0_isLatin1_aae02 1 (Option.some FieldType.boolean) (jrm 1 0 0) sz Sh M [.ref ((gZ G).1 i)] (jR (some (.int (nI 1))) sz Sh M) := by
  refine jC_start (by decide +kernel) (Nat.le_of_ble_eq_true rfl) (fun X C E hN0 => ?_)
  refine j_compact C dJ0_isLatin1_aae02_0 rfl kw_491 ?_
  refine j_if_eq (q := 6) (tgt := 17) C dJ0_isLatin1_aae02_3 rfl (by decide) (fun c_3 => absurd c_3 (by decide)) (fun c_3 => ?_)
  refine j_aload_n (q := 7) C dJ0_isLatin1_aae02_6 rfl rfl rfl ?_
  refine j_strcod hi C dJ0_isLatin1_aae02_7 rfl kw_1267 ?_
  refine j_if_ne (q := 13) (tgt := 17) C dJ0_isLatin1_aae02_10 rfl (by decide) (fun c_10 => absurd rfl c_10) (fun c_10 => ?_)
  refine j_iconst (v := nI 1) (q := 14) C dJ0_isLatin1_aae02_13 rfl (by decide) ?_
  refine j_goto (tgt := 18) C dJ0_isLatin1_aae02_14 (by decide) ?_
  exact j_zret C E dJ0_isLatin1_aae02_18 (by first | rfl | exact jb_nar) rfl rfl (jR_i)

set_option maxRecDepth 100000 in
set_option maxHeartbeats 4000000 in
theorem ctJ0_coder_7d493 {G : jG} {sz : Nat} {Sh : jS} {M : jM} {i : Nat} (hi : i < 3) : jC G yJ0_coder_7d493 cJ0_coder_7d493 1 (Option.some FieldType.byte) (jrm 1 0 0) sz Sh M [.ref ((gZ G).1 i)] (jR (some (.int 0)) sz Sh M) := by
  refine jC_start (by decide +kernel) (Nat.le_of_ble_eq_true rfl) (fun X C E hN0 => ?_)
  refine j_compact C dJ0_coder_7d493_0 rfl kw_491 ?_
  refine j_if_eq (q := 6) (tgt := 13) C dJ0_coder_7d493_3 rfl (by decide) (fun c_3 => absurd c_3 (by decide)) (fun c_3 => ?_)
  refine j_aload_n (q := 7) C dJ0_coder_7d493_6 rfl rfl rfl ?_
  refine j_strcod hi C dJ0_coder_7d493_7 rfl kw_1267 ?_
  refine j_goto (tgt := 14) C dJ0_coder_7d493_10 (by decide) ?_
  exact j_zret C E dJ0_coder_7d493_14 (by first | rfl | exact jb_nar) rfl rfl (jR_i)

set_option maxRecDepth 100000 in
set_option maxHeartbeats 4000000 in
theorem ctJ0_length_8abf5 {G : jG} {sz : Nat} {Sh : jS} {M : jM} {i : Nat} (hi : i < 3) : jC G yJ0_length_8abf5 cJ0_length_8abf5 1 (Option.some FieldType.int) (jrm 2 0 0) sz Sh M [.ref ((gZ G).1 i)] (jR (some (.int (nI (chL i).length))) sz Sh M) := by
  refine jC_start (by decide +kernel) (Nat.le_of_ble_eq_true rfl) (fun X C E hN0 => ?_)
  refine j_aload_n (q := 1) C dJ0_length_8abf5_0 rfl rfl rfl ?_
  refine j_strval hi C dJ0_length_8abf5_1 rfl kw_1268 ?_
  refine j_strlen hi C dJ0_length_8abf5_4 rfl ?_
  rw [jlen_ok i hi]
  refine j_aload_n (q := 6) C dJ0_length_8abf5_5 rfl rfl rfl ?_
  refine jK1 hi C dJ0_length_8abf5_6 rfl mJ0_coder_7d493 kw_531 kw_532 kw_533 (ctJ0_coder_7d493 hi) rfl rfl (by decide) (Nat.le_of_ble_eq_true rfl) (by decide) ?_
  refine j_ishr (q := 10) C dJ0_length_8abf5_9 rfl ?_
  refine j_top (v' := .int (nI (chL i).length)) (congrArg Value.int (by have := jlen_lt i hi; rw [show (0 : Int32) &&& 31 = 0 from rfl]; exact Int32.shiftRight_zero)) ?_
  exact j_iret C E dJ0_length_8abf5_10 rfl rfl (jR_i)

set_option maxRecDepth 100000 in
set_option maxHeartbeats 4000000 in
theorem ctJ3_checkIndex_0 {G : jG} {sz : Nat} {Sh : jS} {M : jM} {a b : Nat} (hab : a < b) (hb : b < 2 ^ 31) : jC G yJ3_checkIndex_8e157 cJ3_checkIndex_8e157 3 (Option.some FieldType.int) (jrm 1 0 0) sz Sh M [.int (nI a), .int (nI b), .null] (jR (some (.int (nI a))) sz Sh M) := by
  refine jC_start (by decide +kernel) (Nat.le_of_ble_eq_true rfl) (fun X C E hN0 => ?_)
  refine j_iload_n (q := 1) C dJ3_checkIndex_8e157_0 rfl rfl rfl ?_
  refine j_if_lt (q := 4) (tgt := 9) C dJ3_checkIndex_8e157_1 rfl (by decide) (fun c_1 => absurd c_1 (nI_pos (by omega))) (fun c_1 => ?_)
  refine j_iload_n (q := 5) C dJ3_checkIndex_8e157_4 rfl rfl rfl ?_
  refine j_iload_n (q := 6) C dJ3_checkIndex_8e157_5 rfl rfl rfl ?_
  refine j_icmp_lt (q := 9) (tgt := 16) C dJ3_checkIndex_8e157_6 rfl (by decide) (fun c_6 => ?_) (fun c_6 => absurd (nI_lt hab hb) c_6)
  refine j_iload_n (q := 17) C dJ3_checkIndex_8e157_16 rfl rfl rfl ?_
  exact j_iret C E dJ3_checkIndex_8e157_17 rfl rfl (jR_i)

set_option maxRecDepth 100000 in
set_option maxHeartbeats 4000000 in
theorem ctJ3_checkIndex_1 {G : jG} {sz : Nat} {Sh : jS} {M : jM} {a b t : Nat} (hab : a < b) (hb : b < 2 ^ 31) : jC G yJ3_checkIndex_8e157 cJ3_checkIndex_8e157 3 (Option.some FieldType.int) (jrm 1 0 0) sz Sh M [.int (nI a), .int (nI b), .ref t] (jR (some (.int (nI a))) sz Sh M) := by
  refine jC_start (by decide +kernel) (Nat.le_of_ble_eq_true rfl) (fun X C E hN0 => ?_)
  refine j_iload_n (q := 1) C dJ3_checkIndex_8e157_0 rfl rfl rfl ?_
  refine j_if_lt (q := 4) (tgt := 9) C dJ3_checkIndex_8e157_1 rfl (by decide) (fun c_1 => absurd c_1 (nI_pos (by omega))) (fun c_1 => ?_)
  refine j_iload_n (q := 5) C dJ3_checkIndex_8e157_4 rfl rfl rfl ?_
  refine j_iload_n (q := 6) C dJ3_checkIndex_8e157_5 rfl rfl rfl ?_
  refine j_icmp_lt (q := 9) (tgt := 16) C dJ3_checkIndex_8e157_6 rfl (by decide) (fun c_6 => ?_) (fun c_6 => absurd (nI_lt hab hb) c_6)
  refine j_iload_n (q := 17) C dJ3_checkIndex_8e157_16 rfl rfl rfl ?_
  exact j_iret C E dJ3_checkIndex_8e157_17 rfl rfl (jR_i)

set_option maxRecDepth 100000 in
set_option maxHeartbeats 4000000 in
theorem ctJ0_checkIndex_df160 {G : jG} {sz : Nat} {Sh : jS} {M : jM} {a b : Nat} (hab : a < b) (hb : b < 2 ^ 31) : jC G yJ0_checkIndex_df160 cJ0_checkIndex_df160 2 (Option.none : Option FieldType) (jrm 2 0 0) sz Sh M [.int (nI a), .int (nI b)] (jR none sz Sh M) := by
  refine jC_start (by decide +kernel) (Nat.le_of_ble_eq_true rfl) (fun X C E hN0 => ?_)
  refine j_iload_n (q := 1) C dJ0_checkIndex_df160_0 rfl rfl rfl ?_
  refine j_iload_n (q := 2) C dJ0_checkIndex_df160_1 rfl rfl rfl ?_
  refine j_sioobe C dJ0_checkIndex_df160_2 rfl kw_498 (fun v hv => ?_)
  rcases hv with rfl | ⟨t, rfl⟩
  · refine jS1 (q := 8) C dJ0_checkIndex_df160_5 rfl mJ3_checkIndex_8e157 kw_499 kw_500 (ctJ3_checkIndex_0 hab hb) rfl rfl (by decide) (Nat.le_of_ble_eq_true rfl) (by decide) ?_
    refine j_pop (q := 9) C dJ0_checkIndex_df160_8 rfl rfl ?_
    exact j_vret C E dJ0_checkIndex_df160_9 rfl rfl (jR_i)
  · refine jS1 (q := 8) C dJ0_checkIndex_df160_5 rfl mJ3_checkIndex_8e157 kw_499 kw_500 (ctJ3_checkIndex_1 hab hb) rfl rfl (by decide) (Nat.le_of_ble_eq_true rfl) (by decide) ?_
    refine j_pop (q := 9) C dJ0_checkIndex_df160_8 rfl rfl ?_
    exact j_vret C E dJ0_checkIndex_df160_9 rfl rfl (jR_i)

set_option maxRecDepth 100000 in
set_option maxHeartbeats 4000000 in
theorem ctJ1_charAt_3b067 {G : jG} {sz : Nat} {Sh : jS} {M : jM} {i : Nat} (hi : i < 3) {k : Nat} (hk : k < (chL i).length) : jC G yJ1_charAt_3b067 cJ1_charAt_3b067 2 (Option.some FieldType.char) (jrm 3 0 0) sz Sh M [.ref ((gZ G).2.1 i), .int (nI k)] (jR (some (.int (nI (chN i k)))) sz Sh M) := by
  refine jC_start (by decide +kernel) (Nat.le_of_ble_eq_true rfl) (fun X C E hN0 => ?_)
  refine j_iload_n (q := 1) C dJ1_charAt_3b067_0 rfl rfl rfl ?_
  refine j_aload_n (q := 2) C dJ1_charAt_3b067_1 rfl rfl rfl ?_
  refine j_strlen hi C dJ1_charAt_3b067_2 rfl ?_
  rw [jlen_ok i hi]
  refine jS0 (q := 6) C dJ1_charAt_3b067_3 rfl mJ0_checkIndex_df160 kw_495 kw_496 (ctJ0_checkIndex_df160 hk (by have := jlen_lt i hi; omega)) rfl rfl (by decide) (Nat.le_of_ble_eq_true rfl) (by decide) ?_
  refine j_aload_n (q := 7) C dJ1_charAt_3b067_6 rfl rfl rfl ?_
  refine j_iload_n (q := 8) C dJ1_charAt_3b067_7 rfl rfl rfl ?_
  refine j_strbyt hi (by rw [jlen_ok i hi]; exact hk) (by have := jlen_lt i hi; omega) (by rw [jlen_ok i hi]; have := jlen_lt i hi; omega) C dJ1_charAt_3b067_8 rfl ?_
  rw [jbyt_ok i hi k hk]
  refine j_sipush (v := nI 255) (q := 12) C dJ1_charAt_3b067_9 rfl (by decide) ?_
  refine j_iand (q := 13) C dJ1_charAt_3b067_12 rfl ?_
  refine j_i2c (q := 14) C dJ1_charAt_3b067_13 rfl rfl ?_
  refine j_top (v' := .int (nI (chN i k))) (congrArg Value.int (i2c_ok _ (chN_lt i hi k hk))) ?_
  exact j_zret C E dJ1_charAt_3b067_14 (pk_charN (by have := chN_lt i hi k hk; omega)).1 rfl rfl (jR_i)

set_option maxRecDepth 100000 in
set_option maxHeartbeats 4000000 in
theorem ctJ0_charAt_5068e {G : jG} {sz : Nat} {Sh : jS} {M : jM} {i : Nat} (hi : i < 3) {k : Nat} (hk : k < (chL i).length) : jC G yJ0_charAt_5068e cJ0_charAt_5068e 2 (Option.some FieldType.char) (jrm 5 0 0) sz Sh M [.ref ((gZ G).1 i), .int (nI k)] (jR (some (.int (nI (chN i k)))) sz Sh M) := by
  refine jC_start (by decide +kernel) (Nat.le_of_ble_eq_true rfl) (fun X C E hN0 => ?_)
  refine j_aload_n (q := 1) C dJ0_charAt_5068e_0 rfl rfl rfl ?_
  refine jK1 hi C dJ0_charAt_5068e_1 rfl mJ0_isLatin1_aae02 kw_487 kw_488 kw_489 (ctJ0_isLatin1_aae02 hi) rfl rfl (by decide) (Nat.le_of_ble_eq_true rfl) (by decide) ?_
  refine j_if_eq (q := 7) (tgt := 16) C dJ0_charAt_5068e_4 rfl (by decide) (fun c_4 => absurd c_4 (by decide)) (fun c_4 => ?_)
  refine j_aload_n (q := 8) C dJ0_charAt_5068e_7 rfl rfl rfl ?_
  refine j_strval hi C dJ0_charAt_5068e_8 rfl kw_1268 ?_
  refine j_iload_n (q := 12) C dJ0_charAt_5068e_11 rfl rfl rfl ?_
  refine jS1 (q := 15) C dJ0_charAt_5068e_12 rfl mJ1_charAt_3b067 kw_492 kw_493 (ctJ1_charAt_3b067 hi hk) rfl rfl (by decide) (Nat.le_of_ble_eq_true rfl) (by decide) ?_
  exact j_zret C E dJ0_charAt_5068e_15 (pk_charN (by have := chN_lt i hi k hk; omega)).1 rfl rfl (jR_i)

def ixI (i c : Nat) : Nat → Nat → Int32
  | _, 0 => -1
  | k, m + 1 => if chN i k = c then nI k else ixI i c (k + 1) m
set_option maxRecDepth 100000 in
set_option maxHeartbeats 4000000 in
theorem ctJ1_canEncode_9a6ad {G : jG} {sz : Nat} {Sh : jS} {M : jM} {c : Nat} (hc : c < 256) : jC G yJ1_canEncode_9a6ad cJ1_canEncode_9a6ad 1 (Option.some FieldType.boolean) (jrm 1 0 0) sz Sh M [.int (nI c)] (jR (some (.int (nI 1))) sz Sh M) := by
  refine jC_start (by decide +kernel) (Nat.le_of_ble_eq_true rfl) (fun X C E hN0 => ?_)
  refine j_iload_n (q := 1) C dJ1_canEncode_9a6ad_0 rfl rfl rfl ?_
  refine j_if_lt (q := 4) (tgt := 15) C dJ1_canEncode_9a6ad_1 rfl (by decide) (fun c_1 => absurd c_1 (nI_pos (by omega))) (fun c_1 => ?_)
  refine j_iload_n (q := 5) C dJ1_canEncode_9a6ad_4 rfl rfl rfl ?_
  refine j_sipush (v := nI 255) (q := 8) C dJ1_canEncode_9a6ad_5 rfl (by decide) ?_
  refine j_icmp_gt (q := 11) (tgt := 15) C dJ1_canEncode_9a6ad_8 rfl (by decide) (fun c_8 => absurd c_8 (fun h => absurd ((nI_ltI (by omega) (by omega)).mp h) (by omega))) (fun c_8 => ?_)
  refine j_iconst (v := nI 1) (q := 12) C dJ1_canEncode_9a6ad_11 rfl (by decide) ?_
  refine j_goto (tgt := 16) C dJ1_canEncode_9a6ad_12 (by decide) ?_
  exact j_zret C E dJ1_canEncode_9a6ad_16 (by first | rfl | exact jb_nar) rfl rfl (jR_i)

theorem by8a : ∀ a, a < 128 → ∀ c, c < 256 → nI a = (nI c).toInt8.toInt32 → a = c := by decide +kernel
theorem by8 {a c : Nat} (ha : a < 128) (hc : c < 256) (h : nI a = (nI c).toInt8.toInt32) : a = c := by8a a ha c hc h
theorem by8b : ∀ c, c < 128 → nI c = (nI c).toInt8.toInt32 := by decide +kernel
theorem by8' {c : Nat} (h : c < 128) : nI c = (nI c).toInt8.toInt32 := by8b c h
set_option maxRecDepth 100000 in
set_option maxHeartbeats 4000000 in
theorem ctJ1_indexOfChar_4cfef {G : jG} {sz : Nat} {Sh : jS} {M : jM} {i : Nat} (hi : i < 3) {c : Nat} (hc : c < 256) : jC G yJ1_indexOfChar_4cfef cJ1_indexOfChar_4cfef 6 (Option.some FieldType.int) (jrm 1 0 0) sz Sh M [.ref ((gZ G).2.1 i), .int (nI c), .int (nI 0), .int (nI (chL i).length)] (jR (some (.int (ixI i c 0 (chL i).length))) sz Sh M) := by
  refine jC_start (by decide +kernel) (Nat.le_of_ble_eq_true rfl) (fun X C E hN0 => ?_)
  refine j_iload_n (q := 1) C dJ1_indexOfChar_4cfef_0 rfl rfl rfl ?_
  refine j_i2b (q := 2) C dJ1_indexOfChar_4cfef_1 rfl rfl ?_
  refine j_istore (lv' := [(4, _), (0, _), (1, _), (2, _), (3, _)]) (q := 4) C dJ1_indexOfChar_4cfef_2 rfl (by decide) rfl ?_
  refine j_iload_n (q := 5) C dJ1_indexOfChar_4cfef_4 rfl rfl rfl ?_
  refine j_istore (lv' := [(5, _), (4, _), (0, _), (1, _), (2, _), (3, _)]) (q := 7) C dJ1_indexOfChar_4cfef_5 rfl (by decide) rfl ?_
  have loop7 : ∀ (m k : Nat), ixI i c 0 (chL i).length = ixI i c k m → k + m = (chL i).length → jJ G X 0 0 sz Sh M 7 [(5, .int (nI k)), (4, .int (nI c).toInt8.toInt32), (0, .ref ((gZ G).2.1 i)), (3, .int (nI (chL i).length))] [] := by
    intro m
    induction m with
    | zero =>
      intro k hix hk
      have hl100 := jlen_lt i hi
      refine j_iload (q := 9) C dJ1_indexOfChar_4cfef_7 rfl rfl ?_
      refine j_iload_n (q := 10) C dJ1_indexOfChar_4cfef_9 rfl rfl rfl ?_
      refine j_icmp_ge (q := 13) (tgt := 31) C dJ1_indexOfChar_4cfef_10 rfl (by decide) (fun c_10 => ?_) (fun c_10 => absurd (nI_le (by omega) (by omega)) c_10)
      refine j_iconst (v := (-1)) (q := 32) C dJ1_indexOfChar_4cfef_31 rfl (by decide) ?_
      exact j_iret C E dJ1_indexOfChar_4cfef_32 rfl rfl (jR_e (by rw [hix]; rfl) rfl)
    | succ m ih =>
      intro k hix hk
      have hl100 := jlen_lt i hi
      refine j_iload (q := 9) C dJ1_indexOfChar_4cfef_7 rfl rfl ?_
      refine j_iload_n (q := 10) C dJ1_indexOfChar_4cfef_9 rfl rfl rfl ?_
      refine j_icmp_ge (q := 13) (tgt := 31) C dJ1_indexOfChar_4cfef_10 rfl (by decide) (fun c_10 => absurd c_10 (fun h => absurd ((nI_leI (by omega) (by omega)).mp h) (by omega))) (fun c_10 => ?_)
      refine j_aload_n (q := 14) C dJ1_indexOfChar_4cfef_13 rfl rfl rfl ?_
      refine j_iload (q := 16) C dJ1_indexOfChar_4cfef_14 rfl rfl ?_
      refine j_strbyt hi (by rw [jlen_ok i hi]; omega) (by have := jlen_lt i hi; omega) (by rw [jlen_ok i hi]; have := jlen_lt i hi; omega) C dJ1_indexOfChar_4cfef_16 rfl ?_
      rw [jbyt_ok i hi k (by omega)]
      refine j_iload (q := 19) C dJ1_indexOfChar_4cfef_17 rfl rfl ?_
      refine j_icmp_ne (q := 22) (tgt := 25) C dJ1_indexOfChar_4cfef_19 rfl (by decide) (fun c_19 => ?_) (fun c_19 => ?_)
      · first | refine j_iincN (lv' := [(5, _), (4, _), (0, _), (3, _)]) (q := 28) C dJ1_indexOfChar_4cfef_25 rfl rfl (by decide) rfl ?_ | refine j_iinc (lv' := [(5, _), (4, _), (0, _), (3, _)]) (q := 28) C dJ1_indexOfChar_4cfef_25 rfl rfl rfl (by decide) rfl ?_
        refine j_goto (tgt := 7) C dJ1_indexOfChar_4cfef_28 (by decide) ?_
        exact j_fewer (lv' := [(5, .int (nI (k + 1))), (4, .int (nI c).toInt8.toInt32), (0, .ref ((gZ G).2.1 i)), (3, .int (nI (chL i).length))]) (by simp) (ih (k + 1) (hix.trans (by rw [ixI, if_neg (fun h => c_19 (by rw [h]; exact by8' (by have := chN_lt i hi k (by omega); omega)))])) (by omega))
      · refine j_iload (q := 24) C dJ1_indexOfChar_4cfef_22 rfl rfl ?_
        exact j_iret C E dJ1_indexOfChar_4cfef_24 rfl rfl (jR_e (by rw [hix, ixI, if_pos (by8 (chN_lt i hi k (by omega)) hc c_19)]) rfl)
  exact j_fewer (lv' := [(5, .int (nI 0)), (4, .int (nI c).toInt8.toInt32), (0, .ref ((gZ G).2.1 i)), (3, .int (nI (chL i).length))]) (by simp) (loop7 (chL i).length 0 rfl (by omega))

set_option maxRecDepth 100000 in
set_option maxHeartbeats 4000000 in
theorem ctJ1_indexOf_4cfef {G : jG} {sz : Nat} {Sh : jS} {M : jM} {i : Nat} (hi : i < 3) {c : Nat} (hc : c < 256) (hl0 : 0 < (chL i).length) : jC G yJ1_indexOf_4cfef cJ1_indexOf_4cfef 4 (Option.some FieldType.int) (jrm 2 0 0) sz Sh M [.ref ((gZ G).2.1 i), .int (nI c), .int (nI 0), .int (nI (chL i).length)] (jR (some (.int (ixI i c 0 (chL i).length))) sz Sh M) := by
  refine jC_start (by decide +kernel) (Nat.le_of_ble_eq_true rfl) (fun X C E hN0 => ?_)
  refine j_iload_n (q := 1) C dJ1_indexOf_4cfef_0 rfl rfl rfl ?_
  refine jS1 (q := 4) C dJ1_indexOf_4cfef_1 rfl mJ1_canEncode_9a6ad kw_1047 kw_1048 (ctJ1_canEncode_9a6ad hc) rfl rfl (by decide) (Nat.le_of_ble_eq_true rfl) (by decide) ?_
  refine j_if_ne (q := 7) (tgt := 9) C dJ1_indexOf_4cfef_4 rfl (by decide) (fun c_4 => ?_) (fun c_4 => absurd c_4 (by decide))
  refine j_iload_n (q := 10) C dJ1_indexOf_4cfef_9 rfl rfl rfl ?_
  refine j_iconst (v := nI 0) (q := 11) C dJ1_indexOf_4cfef_10 rfl (by decide) ?_
  refine j_imax (q := 14) C dJ1_indexOf_4cfef_11 rfl kw_1050 (by decide) (Nat.le_of_ble_eq_true rfl) (by decide) ?_
  refine j_top (v' := .int (nI 0)) (by rfl) ?_
  refine j_istore_n (lv' := [(2, _), (0, _), (1, _), (3, _)]) (q := 15) C dJ1_indexOf_4cfef_14 rfl rfl (by decide) rfl ?_
  refine j_iload_n (q := 16) C dJ1_indexOf_4cfef_15 rfl rfl rfl ?_
  refine j_aload_n (q := 17) C dJ1_indexOf_4cfef_16 rfl rfl rfl ?_
  refine j_strlen hi C dJ1_indexOf_4cfef_17 rfl ?_
  rw [jlen_ok i hi]
  refine j_imin (q := 21) C dJ1_indexOf_4cfef_18 rfl kw_1051 (by decide) (Nat.le_of_ble_eq_true rfl) (by decide) ?_
  refine j_top (v' := .int (nI (chL i).length)) (congrArg Value.int (by have := jlen_lt i hi; rw [imn_N (by omega) (by omega), Nat.min_self])) ?_
  refine j_istore_n (lv' := [(3, _), (2, _), (0, _), (1, _)]) (q := 22) C dJ1_indexOf_4cfef_21 rfl rfl (by decide) rfl ?_
  refine j_iload_n (q := 23) C dJ1_indexOf_4cfef_22 rfl rfl rfl ?_
  refine j_iload_n (q := 24) C dJ1_indexOf_4cfef_23 rfl rfl rfl ?_
  refine j_icmp_lt (q := 27) (tgt := 29) C dJ1_indexOf_4cfef_24 rfl (by decide) (fun c_24 => ?_) (fun c_24 => absurd (nI_lt hl0 (by have := jlen_lt i hi; omega)) c_24)
  refine j_aload_n (q := 30) C dJ1_indexOf_4cfef_29 rfl rfl rfl ?_
  refine j_iload_n (q := 31) C dJ1_indexOf_4cfef_30 rfl rfl rfl ?_
  refine j_iload_n (q := 32) C dJ1_indexOf_4cfef_31 rfl rfl rfl ?_
  refine j_iload_n (q := 33) C dJ1_indexOf_4cfef_32 rfl rfl rfl ?_
  refine jS1 (q := 36) C dJ1_indexOf_4cfef_33 rfl mJ1_indexOfChar_4cfef kw_1052 kw_1053 (ctJ1_indexOfChar_4cfef hi hc) rfl rfl (by decide) (Nat.le_of_ble_eq_true rfl) (by decide) ?_
  exact j_iret C E dJ1_indexOf_4cfef_36 rfl rfl (jR_i)

set_option maxRecDepth 100000 in
set_option maxHeartbeats 4000000 in
theorem ctJ0_indexOf_7cf53 {G : jG} {sz : Nat} {Sh : jS} {M : jM} {i : Nat} (hi : i < 3) {c : Nat} (hc : c < 256) (hl0 : 0 < (chL i).length) : jC G yJ0_indexOf_7cf53 cJ0_indexOf_7cf53 3 (Option.some FieldType.int) (jrm 6 0 0) sz Sh M [.ref ((gZ G).1 i), .int (nI c), .int (nI 0)] (jR (some (.int (ixI i c 0 (chL i).length))) sz Sh M) := by
  refine jC_start (by decide +kernel) (Nat.le_of_ble_eq_true rfl) (fun X C E hN0 => ?_)
  refine j_aload_n (q := 1) C dJ0_indexOf_7cf53_0 rfl rfl rfl ?_
  refine jK1 hi C dJ0_indexOf_7cf53_1 rfl mJ0_isLatin1_aae02 kw_487 kw_488 kw_489 (ctJ0_isLatin1_aae02 hi) rfl rfl (by decide) (Nat.le_of_ble_eq_true rfl) (by decide) ?_
  refine j_if_eq (q := 7) (tgt := 23) C dJ0_indexOf_7cf53_4 rfl (by decide) (fun c_4 => absurd c_4 (by decide)) (fun c_4 => ?_)
  refine j_aload_n (q := 8) C dJ0_indexOf_7cf53_7 rfl rfl rfl ?_
  refine j_strval hi C dJ0_indexOf_7cf53_8 rfl kw_1268 ?_
  refine j_iload_n (q := 12) C dJ0_indexOf_7cf53_11 rfl rfl rfl ?_
  refine j_iload_n (q := 13) C dJ0_indexOf_7cf53_12 rfl rfl rfl ?_
  refine j_aload_n (q := 14) C dJ0_indexOf_7cf53_13 rfl rfl rfl ?_
  refine jK1 hi C dJ0_indexOf_7cf53_14 rfl mJ0_length_8abf5 kw_1043 kw_528 kw_529 (ctJ0_length_8abf5 hi) rfl rfl (by decide) (Nat.le_of_ble_eq_true rfl) (by decide) ?_
  refine jS1 (q := 20) C dJ0_indexOf_7cf53_17 rfl mJ1_indexOf_4cfef kw_1044 kw_1045 (ctJ1_indexOf_4cfef hi hc hl0) rfl rfl (by decide) (Nat.le_of_ble_eq_true rfl) (by decide) ?_
  refine j_goto (tgt := 36) C dJ0_indexOf_7cf53_20 (by decide) ?_
  exact j_iret C E dJ0_indexOf_7cf53_36 rfl rfl (jR_i)

set_option maxRecDepth 100000 in
set_option maxHeartbeats 4000000 in
theorem ctJ0_indexOf_0f7a4 {G : jG} {sz : Nat} {Sh : jS} {M : jM} {i : Nat} (hi : i < 3) {c : Nat} (hc : c < 256) (hl0 : 0 < (chL i).length) : jC G yJ0_indexOf_0f7a4 cJ0_indexOf_0f7a4 2 (Option.some FieldType.int) (jrm 7 0 0) sz Sh M [.ref ((gZ G).1 i), .int (nI c)] (jR (some (.int (ixI i c 0 (chL i).length))) sz Sh M) := by
  refine jC_start (by decide +kernel) (Nat.le_of_ble_eq_true rfl) (fun X C E hN0 => ?_)
  refine j_aload_n (q := 1) C dJ0_indexOf_0f7a4_0 rfl rfl rfl ?_
  refine j_iload_n (q := 2) C dJ0_indexOf_0f7a4_1 rfl rfl rfl ?_
  refine j_iconst (v := nI 0) (q := 3) C dJ0_indexOf_0f7a4_2 rfl (by decide) ?_
  refine jK1 hi C dJ0_indexOf_0f7a4_3 rfl mJ0_indexOf_7cf53 kw_1039 kw_1040 kw_1041 (ctJ0_indexOf_7cf53 hi hc hl0) rfl rfl (by decide) (Nat.le_of_ble_eq_true rfl) (by decide) ?_
  exact j_iret C E dJ0_indexOf_0f7a4_6 rfl rfl (jR_i)

