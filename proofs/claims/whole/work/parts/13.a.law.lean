section SCR
variable {G : jG} {X : jX} {y : MethodName} {cc : ByteArray} {nL cells slots sz pc q b L : Nat} {R : Room} {Sh : jS} {M : jM} {lv : List (Nat × Value)} {st : List Value} {vs : Nat → Int32}
/-- the script, read -/
theorem j_sld {k : Nat} (hX : va_X b L vs (xs X) (xs X).heap) (hbl : b < gN G) (hL : L < 2 ^ 31) (C : jOk G X y cc nL R) (hd : decode cc pc = .ok (.iaload, 1)) (hn : pc + 1 = q) (hk : k < L) (kk : jJ G X cells slots sz Sh M q lv (.int (vs k) :: st)) : jJ G X cells slots sz Sh M pc lv (.int (nI k) :: .ref b :: st) := by
  subst hn
  intro H locs ls hP hz hS hl
  refine va_sld C.1 C.2.1 hX (Nat.lt_of_lt_of_le hbl C.2.2.2.2.2.2.2.1) (fun h => absurd hbl (Nat.not_lt.mpr h)) hS (vp_in_nI hk hL) hd ?_
  rw [nI_clamp (by omega)]
  exact kk H locs ls hP hz hS hl
theorem j_slen (hX : va_X b L vs (xs X) (xs X).heap) (hbl : b < gN G) (C : jOk G X y cc nL R) (hd : decode cc pc = .ok (.arraylength, 1)) (hn : pc + 1 = q) (kk : jJ G X cells slots sz Sh M q lv (.int (nI L) :: st)) : jJ G X cells slots sz Sh M pc lv (.ref b :: st) := by
  subst hn
  intro H locs ls hP hz hS hl
  exact va_slen C.1 C.2.1 hX (Nat.lt_of_lt_of_le hbl C.2.2.2.2.2.2.2.1) (fun h => absurd hbl (Nat.not_lt.mpr h)) hS hd (kk H locs ls hP hz hS hl)
end SCR
def lYr (nm : String) : MethodName := ⟨RL, nm, "([I)Z"⟩
set_option maxRecDepth 100000 in
set_option maxHeartbeats 4000000 in
theorem cs_person {G : jG} {X : jX} {nmL : String} {b L : Nat} {vs : Nat → Int32} (hX : va_X b L vs (xs X) (xs X).heap) (hbl : b < gN G) (hL : L ≤ 3072) (C : jOk G X (lYr nmL) cL_law 4 room_1) {mm f sz i : Nat} {Sh : jS} {M : jM} {d pe pa la : Nat} {LT : Nat → sT} (h : REL mm f sz Sh M d pe pa la LT) (hf : f ≤ i) (hi : i + 6 ≤ L) (nx : ∀ z2 S2 M2 f2 d2 pe2 pa2 la2 LT2, f2 ≤ i + 6 → REL mm f2 z2 S2 M2 d2 pe2 pa2 la2 LT2 → jJ G X (460 + 2 * (i + 6)) (13000 + 163 * (i + 6)) z2 S2 M2 18 [(3, .int (nI (i + 6))), (0, .ref b), (1, .ref mm), (2, .ref (mm + 440))] []) : jJ G X (460 + 2 * (i)) (13000 + 163 * (i)) sz Sh M 184 [(3, .int (nI (i))), (0, .ref b), (1, .ref mm), (2, .ref (mm + 440))] [] := by
  have hL31 : L < 2 ^ 31 := by omega
  refine j_aload_n (q := 185) C dL_law_184 rfl rfl rfl ?_
  refine j_aload_n (q := 186) C dL_law_185 rfl rfl rfl ?_
  refine j_iload_n (q := 187) C dL_law_186 rfl rfl rfl ?_
  refine j_iconst (v := nI 1) (q := 188) C dL_law_187 rfl (by decide) ?_
  first | refine j_iaddN (q := 189) C dL_law_188 rfl ?_ | refine j_iadd (q := 189) C dL_law_188 rfl ?_
  refine j_sld (q := 190) hX hbl hL31 C dL_law_189 rfl (by omega) ?_
  first | refine j_i2lN (q := 191) C dL_law_190 rfl (by omega) ?_ | refine j_i2l (q := 191) C dL_law_190 rfl rfl ?_
  refine j_bipush (v := nI 32) (q := 193) C dL_law_191 rfl (by decide) ?_
  refine j_lshl (q := 194) C dL_law_193 rfl rfl ?_
  refine j_aload_n (q := 195) C dL_law_194 rfl rfl rfl ?_
  refine j_iload_n (q := 196) C dL_law_195 rfl rfl rfl ?_
  refine j_iconst (v := nI 2) (q := 197) C dL_law_196 rfl (by decide) ?_
  first | refine j_iaddN (q := 198) C dL_law_197 rfl ?_ | refine j_iadd (q := 198) C dL_law_197 rfl ?_
  refine j_sld (q := 199) hX hbl hL31 C dL_law_198 rfl (by omega) ?_
  first | refine j_i2lN (q := 200) C dL_law_199 rfl (by omega) ?_ | refine j_i2l (q := 200) C dL_law_199 rfl rfl ?_
  refine j_ldc2 (q := 203) C dL_law_200 rfl kw_1266 ?_
  refine j_land (q := 204) C dL_law_203 rfl ?_
  refine j_lor (q := 205) C dL_law_204 rfl ?_
  refine j_aload_n (q := 206) C dL_law_205 rfl rfl rfl ?_
  refine j_iload_n (q := 207) C dL_law_206 rfl rfl rfl ?_
  refine j_iconst (v := nI 3) (q := 208) C dL_law_207 rfl (by decide) ?_
  first | refine j_iaddN (q := 209) C dL_law_208 rfl ?_ | refine j_iadd (q := 209) C dL_law_208 rfl ?_
  refine j_sld (q := 210) hX hbl hL31 C dL_law_209 rfl (by omega) ?_
  refine j_aload_n (q := 211) C dL_law_210 rfl rfl rfl ?_
  refine j_iload_n (q := 212) C dL_law_211 rfl rfl rfl ?_
  refine j_iconst (v := nI 4) (q := 213) C dL_law_212 rfl (by decide) ?_
  first | refine j_iaddN (q := 214) C dL_law_213 rfl ?_ | refine j_iadd (q := 214) C dL_law_213 rfl ?_
  refine j_sld (q := 215) hX hbl hL31 C dL_law_214 rfl (by omega) ?_
  obtain ⟨post1, hc1, hv1, hp1⟩ := pr_person (G := G) h (m := (((vs (i + 1)).toInt64 <<< ((nI 32).toInt64 &&& 63)) ||| ((vs (i + 2)).toInt64 &&& 4294967295))) (l := vs (i + 3)) (b := vs (i + 4))
  refine j_callV (q := 218) jc10 C dL_law_215 rfl h.1.1.1 mX10_person kw_273 kw_274 kw_275 hc1 (As := [.long ((((vs (i + 1)).toInt64 <<< ((nI 32).toInt64 &&& 63)) ||| ((vs (i + 2)).toInt64 &&& 4294967295))), .int (vs (i + 3)), .int (vs (i + 4))]) (rest := []) rfl rfl ⟨Nat.le_of_ble_eq_true rfl, Nat.le_of_ble_eq_true rfl⟩ (Nat.le_of_ble_eq_true rfl) ⟨by show 460 + 2 * i + 0 ≤ 600000; omega, by show 13000 + 163 * i + 0 ≤ 7302250; omega⟩ (fun r1 z S1 M1 h1 => ?_)
  obtain ⟨⟨v, rfl⟩, hs11⟩ := hv1 _ _ _ _ h1
  obtain ⟨post2, hc2, hp2⟩ := hp1 _ _ _ _ h1
  change jJ G X _ _ _ _ _ _ _ [.long v]
  refine j_aload_n (q := 219) C dL_law_218 rfl rfl rfl ?_
  refine j_aload_n (q := 220) C dL_law_219 rfl rfl rfl ?_
  refine j_iload_n (q := 221) C dL_law_220 rfl rfl rfl ?_
  refine j_iconst (v := nI 1) (q := 222) C dL_law_221 rfl (by decide) ?_
  first | refine j_iaddN (q := 223) C dL_law_222 rfl ?_ | refine j_iadd (q := 223) C dL_law_222 rfl ?_
  refine j_sld (q := 224) hX hbl hL31 C dL_law_223 rfl (by omega) ?_
  first | refine j_i2lN (q := 225) C dL_law_224 rfl (by omega) ?_ | refine j_i2l (q := 225) C dL_law_224 rfl rfl ?_
  refine j_bipush (v := nI 32) (q := 227) C dL_law_225 rfl (by decide) ?_
  refine j_lshl (q := 228) C dL_law_227 rfl rfl ?_
  refine j_aload_n (q := 229) C dL_law_228 rfl rfl rfl ?_
  refine j_iload_n (q := 230) C dL_law_229 rfl rfl rfl ?_
  refine j_iconst (v := nI 2) (q := 231) C dL_law_230 rfl (by decide) ?_
  first | refine j_iaddN (q := 232) C dL_law_231 rfl ?_ | refine j_iadd (q := 232) C dL_law_231 rfl ?_
  refine j_sld (q := 233) hX hbl hL31 C dL_law_232 rfl (by omega) ?_
  first | refine j_i2lN (q := 234) C dL_law_233 rfl (by omega) ?_ | refine j_i2l (q := 234) C dL_law_233 rfl rfl ?_
  refine j_ldc2 (q := 237) C dL_law_234 rfl kw_1266 ?_
  refine j_land (q := 238) C dL_law_237 rfl ?_
  refine j_lor (q := 239) C dL_law_238 rfl ?_
  refine j_aload_n (q := 240) C dL_law_239 rfl rfl rfl ?_
  refine j_iload_n (q := 241) C dL_law_240 rfl rfl rfl ?_
  refine j_iconst (v := nI 3) (q := 242) C dL_law_241 rfl (by decide) ?_
  first | refine j_iaddN (q := 243) C dL_law_242 rfl ?_ | refine j_iadd (q := 243) C dL_law_242 rfl ?_
  refine j_sld (q := 244) hX hbl hL31 C dL_law_243 rfl (by omega) ?_
  refine j_aload_n (q := 245) C dL_law_244 rfl rfl rfl ?_
  refine j_iload_n (q := 246) C dL_law_245 rfl rfl rfl ?_
  refine j_iconst (v := nI 4) (q := 247) C dL_law_246 rfl (by decide) ?_
  first | refine j_iaddN (q := 248) C dL_law_247 rfl ?_ | refine j_iadd (q := 248) C dL_law_247 rfl ?_
  refine j_sld (q := 249) hX hbl hL31 C dL_law_248 rfl (by omega) ?_
  refine j_callV (q := 252) jc11 C dL_law_249 rfl hs11 mX11_person kw_893 kw_894 kw_895 hc2 (As := [.long ((((vs (i + 1)).toInt64 <<< ((nI 32).toInt64 &&& 63)) ||| ((vs (i + 2)).toInt64 &&& 4294967295))), .int (vs (i + 3)), .int (vs (i + 4))]) (rest := [.long v]) rfl rfl ⟨Nat.le_of_ble_eq_true rfl, Nat.le_of_ble_eq_true rfl⟩ (Nat.le_of_ble_eq_true rfl) ⟨by show 460 + 2 * i + 0 + 0 ≤ 600000; omega, by show 13000 + 163 * i + 0 + 0 ≤ 7302250; omega⟩ (fun r2 z2 S2 M2 h2 => ?_)
  obtain ⟨rfl, rfl, v2, ev, rfl, -, f2, d2, pe2, pa2, la2, LT2, hf2, hR2⟩ := hp2 _ _ _ _ h2
  obtain rfl : v = v2 := by injection ev with ev; injection ev
  change jJ G X _ _ _ _ _ _ _ [.long v, .long v]
  refine j_lcmp_eq (q1 := 253) (q := 256) (tgt := 1446) C dL_law_252 dL_law_253 rfl rfl (by decide) (fun c_253 => ?_) (fun c_253 => absurd rfl c_253)
  refine j_iincN (lv' := [(3, .int (nI (i + 6))), (0, .ref b), (1, .ref mm), (2, .ref (mm + 440))]) (q := 1449) C dL_law_1446 rfl rfl (by decide) rfl ?_
  refine j_goto (tgt := 18) C dL_law_1449 (by decide) ?_
  exact j_fewer (lv' := [(3, .int (nI (i + 6))), (0, .ref b), (1, .ref mm), (2, .ref (mm + 440))]) (by simp) (j_widen (by show 460 + 2 * i + 0 + 0 ≤ 460 + 2 * (i + 6); omega) (by show 13000 + 163 * i + 0 + 0 ≤ 13000 + 163 * (i + 6); omega) (nx _ _ _ _ _ _ _ _ _ (by omega) hR2))
set_option maxRecDepth 100000 in
set_option maxHeartbeats 4000000 in
theorem cs_habit {G : jG} {X : jX} {nmL : String} {b L : Nat} {vs : Nat → Int32} (hX : va_X b L vs (xs X) (xs X).heap) (hbl : b < gN G) (hL : L ≤ 3072) (C : jOk G X (lYr nmL) cL_law 4 room_1) {mm f sz i : Nat} {Sh : jS} {M : jM} {d pe pa la : Nat} {LT : Nat → sT} (h : REL mm f sz Sh M d pe pa la LT) (hf : f ≤ i) (hi : i + 6 ≤ L) (nx : ∀ z2 S2 M2 f2 d2 pe2 pa2 la2 LT2, f2 ≤ i + 6 → REL mm f2 z2 S2 M2 d2 pe2 pa2 la2 LT2 → jJ G X (460 + 2 * (i + 6)) (13000 + 163 * (i + 6)) z2 S2 M2 18 [(3, .int (nI (i + 6))), (0, .ref b), (1, .ref mm), (2, .ref (mm + 440))] []) : jJ G X (460 + 2 * (i)) (13000 + 163 * (i)) sz Sh M 258 [(3, .int (nI (i))), (0, .ref b), (1, .ref mm), (2, .ref (mm + 440))] [] := by
  have hL31 : L < 2 ^ 31 := by omega
  refine j_aload_n (q := 259) C dL_law_258 rfl rfl rfl ?_
  refine j_aload_n (q := 260) C dL_law_259 rfl rfl rfl ?_
  refine j_iload_n (q := 261) C dL_law_260 rfl rfl rfl ?_
  refine j_iconst (v := nI 1) (q := 262) C dL_law_261 rfl (by decide) ?_
  first | refine j_iaddN (q := 263) C dL_law_262 rfl ?_ | refine j_iadd (q := 263) C dL_law_262 rfl ?_
  refine j_sld (q := 264) hX hbl hL31 C dL_law_263 rfl (by omega) ?_
  refine j_aload_n (q := 265) C dL_law_264 rfl rfl rfl ?_
  refine j_iload_n (q := 266) C dL_law_265 rfl rfl rfl ?_
  refine j_iconst (v := nI 2) (q := 267) C dL_law_266 rfl (by decide) ?_
  first | refine j_iaddN (q := 268) C dL_law_267 rfl ?_ | refine j_iadd (q := 268) C dL_law_267 rfl ?_
  refine j_sld (q := 269) hX hbl hL31 C dL_law_268 rfl (by omega) ?_
  refine j_aload_n (q := 270) C dL_law_269 rfl rfl rfl ?_
  refine j_iload_n (q := 271) C dL_law_270 rfl rfl rfl ?_
  refine j_iconst (v := nI 3) (q := 272) C dL_law_271 rfl (by decide) ?_
  first | refine j_iaddN (q := 273) C dL_law_272 rfl ?_ | refine j_iadd (q := 273) C dL_law_272 rfl ?_
  refine j_sld (q := 274) hX hbl hL31 C dL_law_273 rfl (by omega) ?_
  obtain ⟨post1, hc1, hv1, hp1⟩ := pr_habit (G := G) h (p := vs (i + 1)) (x := vs (i + 2)) (v := vs (i + 3))
  refine j_callV (q := 277) jc10 C dL_law_274 rfl h.1.1.1 mX10_habit kw_296 kw_297 kw_298 hc1 (As := [.int (vs (i + 1)), .int (vs (i + 2)), .int (vs (i + 3))]) (rest := []) rfl rfl ⟨Nat.le_of_ble_eq_true rfl, Nat.le_of_ble_eq_true rfl⟩ (Nat.le_of_ble_eq_true rfl) ⟨by show 460 + 2 * i + 0 ≤ 600000; omega, by show 13000 + 163 * i + 0 ≤ 7302250; omega⟩ (fun r1 z S1 M1 h1 => ?_)
  obtain ⟨⟨v, rfl⟩, hs11⟩ := hv1 _ _ _ _ h1
  obtain ⟨post2, hc2, hp2⟩ := hp1 _ _ _ _ h1
  change jJ G X _ _ _ _ _ _ _ [.long v]
  refine j_aload_n (q := 278) C dL_law_277 rfl rfl rfl ?_
  refine j_aload_n (q := 279) C dL_law_278 rfl rfl rfl ?_
  refine j_iload_n (q := 280) C dL_law_279 rfl rfl rfl ?_
  refine j_iconst (v := nI 1) (q := 281) C dL_law_280 rfl (by decide) ?_
  first | refine j_iaddN (q := 282) C dL_law_281 rfl ?_ | refine j_iadd (q := 282) C dL_law_281 rfl ?_
  refine j_sld (q := 283) hX hbl hL31 C dL_law_282 rfl (by omega) ?_
  refine j_aload_n (q := 284) C dL_law_283 rfl rfl rfl ?_
  refine j_iload_n (q := 285) C dL_law_284 rfl rfl rfl ?_
  refine j_iconst (v := nI 2) (q := 286) C dL_law_285 rfl (by decide) ?_
  first | refine j_iaddN (q := 287) C dL_law_286 rfl ?_ | refine j_iadd (q := 287) C dL_law_286 rfl ?_
  refine j_sld (q := 288) hX hbl hL31 C dL_law_287 rfl (by omega) ?_
  refine j_aload_n (q := 289) C dL_law_288 rfl rfl rfl ?_
  refine j_iload_n (q := 290) C dL_law_289 rfl rfl rfl ?_
  refine j_iconst (v := nI 3) (q := 291) C dL_law_290 rfl (by decide) ?_
  first | refine j_iaddN (q := 292) C dL_law_291 rfl ?_ | refine j_iadd (q := 292) C dL_law_291 rfl ?_
  refine j_sld (q := 293) hX hbl hL31 C dL_law_292 rfl (by omega) ?_
  refine j_callV (q := 296) jc11 C dL_law_293 rfl hs11 mX11_habit kw_913 kw_914 kw_915 hc2 (As := [.int (vs (i + 1)), .int (vs (i + 2)), .int (vs (i + 3))]) (rest := [.long v]) rfl rfl ⟨Nat.le_of_ble_eq_true rfl, Nat.le_of_ble_eq_true rfl⟩ (Nat.le_of_ble_eq_true rfl) ⟨by show 460 + 2 * i + 0 + 0 ≤ 600000; omega, by show 13000 + 163 * i + 0 + 0 ≤ 7302250; omega⟩ (fun r2 z2 S2 M2 h2 => ?_)
  obtain ⟨rfl, rfl, v2, ev, rfl, -, f2, d2, pe2, pa2, la2, LT2, hf2, hR2⟩ := hp2 _ _ _ _ h2
  obtain rfl : v = v2 := by injection ev with ev; injection ev
  change jJ G X _ _ _ _ _ _ _ [.long v, .long v]
  refine j_lcmp_eq (q1 := 297) (q := 300) (tgt := 1446) C dL_law_296 dL_law_297 rfl rfl (by decide) (fun c_297 => ?_) (fun c_297 => absurd rfl c_297)
  refine j_iincN (lv' := [(3, .int (nI (i + 6))), (0, .ref b), (1, .ref mm), (2, .ref (mm + 440))]) (q := 1449) C dL_law_1446 rfl rfl (by decide) rfl ?_
  refine j_goto (tgt := 18) C dL_law_1449 (by decide) ?_
  exact j_fewer (lv' := [(3, .int (nI (i + 6))), (0, .ref b), (1, .ref mm), (2, .ref (mm + 440))]) (by simp) (j_widen (by show 460 + 2 * i + 0 + 0 ≤ 460 + 2 * (i + 6); omega) (by show 13000 + 163 * i + 0 + 0 ≤ 13000 + 163 * (i + 6); omega) (nx _ _ _ _ _ _ _ _ _ (by omega) hR2))
set_option maxRecDepth 100000 in
set_option maxHeartbeats 4000000 in
theorem cs_personIs {G : jG} {X : jX} {nmL : String} {b L : Nat} {vs : Nat → Int32} (hX : va_X b L vs (xs X) (xs X).heap) (hbl : b < gN G) (hL : L ≤ 3072) (C : jOk G X (lYr nmL) cL_law 4 room_1) {mm f sz i : Nat} {Sh : jS} {M : jM} {d pe pa la : Nat} {LT : Nat → sT} (h : REL mm f sz Sh M d pe pa la LT) (hf : f ≤ i) (hi : i + 6 ≤ L) (nx : ∀ z2 S2 M2 f2 d2 pe2 pa2 la2 LT2, f2 ≤ i + 6 → REL mm f2 z2 S2 M2 d2 pe2 pa2 la2 LT2 → jJ G X (460 + 2 * (i + 6)) (13000 + 163 * (i + 6)) z2 S2 M2 18 [(3, .int (nI (i + 6))), (0, .ref b), (1, .ref mm), (2, .ref (mm + 440))] []) : jJ G X (460 + 2 * (i)) (13000 + 163 * (i)) sz Sh M 302 [(3, .int (nI (i))), (0, .ref b), (1, .ref mm), (2, .ref (mm + 440))] [] := by
  have hL31 : L < 2 ^ 31 := by omega
  refine j_aload_n (q := 303) C dL_law_302 rfl rfl rfl ?_
  refine j_aload_n (q := 304) C dL_law_303 rfl rfl rfl ?_
  refine j_iload_n (q := 305) C dL_law_304 rfl rfl rfl ?_
  refine j_iconst (v := nI 1) (q := 306) C dL_law_305 rfl (by decide) ?_
  first | refine j_iaddN (q := 307) C dL_law_306 rfl ?_ | refine j_iadd (q := 307) C dL_law_306 rfl ?_
  refine j_sld (q := 308) hX hbl hL31 C dL_law_307 rfl (by omega) ?_
  refine j_aload_n (q := 309) C dL_law_308 rfl rfl rfl ?_
  refine j_iload_n (q := 310) C dL_law_309 rfl rfl rfl ?_
  refine j_iconst (v := nI 2) (q := 311) C dL_law_310 rfl (by decide) ?_
  first | refine j_iaddN (q := 312) C dL_law_311 rfl ?_ | refine j_iadd (q := 312) C dL_law_311 rfl ?_
  refine j_sld (q := 313) hX hbl hL31 C dL_law_312 rfl (by omega) ?_
  obtain ⟨post1, hc1, hv1, hp1⟩ := pr_personIs (G := G) h (p := vs (i + 1)) (x := vs (i + 2))
  refine j_callV (q := 316) jc10 C dL_law_313 rfl h.1.1.1 mX10_personIs kw_312 kw_313 kw_314 hc1 (As := [.int (vs (i + 1)), .int (vs (i + 2))]) (rest := []) rfl rfl ⟨Nat.le_of_ble_eq_true rfl, Nat.le_of_ble_eq_true rfl⟩ (Nat.le_of_ble_eq_true rfl) ⟨by show 460 + 2 * i + 0 ≤ 600000; omega, by show 13000 + 163 * i + 0 ≤ 7302250; omega⟩ (fun r1 z S1 M1 h1 => ?_)
  obtain ⟨⟨v, rfl⟩, hs11⟩ := hv1 _ _ _ _ h1
  obtain ⟨post2, hc2, hp2⟩ := hp1 _ _ _ _ h1
  change jJ G X _ _ _ _ _ _ _ [.long v]
  refine j_aload_n (q := 317) C dL_law_316 rfl rfl rfl ?_
  refine j_aload_n (q := 318) C dL_law_317 rfl rfl rfl ?_
  refine j_iload_n (q := 319) C dL_law_318 rfl rfl rfl ?_
  refine j_iconst (v := nI 1) (q := 320) C dL_law_319 rfl (by decide) ?_
  first | refine j_iaddN (q := 321) C dL_law_320 rfl ?_ | refine j_iadd (q := 321) C dL_law_320 rfl ?_
  refine j_sld (q := 322) hX hbl hL31 C dL_law_321 rfl (by omega) ?_
  refine j_aload_n (q := 323) C dL_law_322 rfl rfl rfl ?_
  refine j_iload_n (q := 324) C dL_law_323 rfl rfl rfl ?_
  refine j_iconst (v := nI 2) (q := 325) C dL_law_324 rfl (by decide) ?_
  first | refine j_iaddN (q := 326) C dL_law_325 rfl ?_ | refine j_iadd (q := 326) C dL_law_325 rfl ?_
  refine j_sld (q := 327) hX hbl hL31 C dL_law_326 rfl (by omega) ?_
  refine j_callV (q := 330) jc11 C dL_law_327 rfl hs11 mX11_personIs kw_922 kw_923 kw_924 hc2 (As := [.int (vs (i + 1)), .int (vs (i + 2))]) (rest := [.long v]) rfl rfl ⟨Nat.le_of_ble_eq_true rfl, Nat.le_of_ble_eq_true rfl⟩ (Nat.le_of_ble_eq_true rfl) ⟨by show 460 + 2 * i + 0 + 0 ≤ 600000; omega, by show 13000 + 163 * i + 0 + 0 ≤ 7302250; omega⟩ (fun r2 z2 S2 M2 h2 => ?_)
  obtain ⟨rfl, rfl, v2, ev, rfl, -, f2, d2, pe2, pa2, la2, LT2, hf2, hR2⟩ := hp2 _ _ _ _ h2
  obtain rfl : v = v2 := by injection ev with ev; injection ev
  change jJ G X _ _ _ _ _ _ _ [.long v, .long v]
  refine j_lcmp_eq (q1 := 331) (q := 334) (tgt := 1446) C dL_law_330 dL_law_331 rfl rfl (by decide) (fun c_331 => ?_) (fun c_331 => absurd rfl c_331)
  refine j_iincN (lv' := [(3, .int (nI (i + 6))), (0, .ref b), (1, .ref mm), (2, .ref (mm + 440))]) (q := 1449) C dL_law_1446 rfl rfl (by decide) rfl ?_
  refine j_goto (tgt := 18) C dL_law_1449 (by decide) ?_
  exact j_fewer (lv' := [(3, .int (nI (i + 6))), (0, .ref b), (1, .ref mm), (2, .ref (mm + 440))]) (by simp) (j_widen (by show 460 + 2 * i + 0 + 0 ≤ 460 + 2 * (i + 6); omega) (by show 13000 + 163 * i + 0 + 0 ≤ 13000 + 163 * (i + 6); omega) (nx _ _ _ _ _ _ _ _ _ (by omega) hR2))
set_option maxRecDepth 100000 in
set_option maxHeartbeats 4000000 in
theorem cs_gain {G : jG} {X : jX} {nmL : String} {b L : Nat} {vs : Nat → Int32} (hX : va_X b L vs (xs X) (xs X).heap) (hbl : b < gN G) (hL : L ≤ 3072) (C : jOk G X (lYr nmL) cL_law 4 room_1) {mm f sz i : Nat} {Sh : jS} {M : jM} {d pe pa la : Nat} {LT : Nat → sT} (h : REL mm f sz Sh M d pe pa la LT) (hf : f ≤ i) (hi : i + 6 ≤ L) (nx : ∀ z2 S2 M2 f2 d2 pe2 pa2 la2 LT2, f2 ≤ i + 6 → REL mm f2 z2 S2 M2 d2 pe2 pa2 la2 LT2 → jJ G X (460 + 2 * (i + 6)) (13000 + 163 * (i + 6)) z2 S2 M2 18 [(3, .int (nI (i + 6))), (0, .ref b), (1, .ref mm), (2, .ref (mm + 440))] []) : jJ G X (460 + 2 * (i)) (13000 + 163 * (i)) sz Sh M 336 [(3, .int (nI (i))), (0, .ref b), (1, .ref mm), (2, .ref (mm + 440))] [] := by
  have hL31 : L < 2 ^ 31 := by omega
  by_cases c0 : vs (i + 2) = 0
  · refine j_aload_n (q := 337) C dL_law_336 rfl rfl rfl ?_
    refine j_aload_n (q := 338) C dL_law_337 rfl rfl rfl ?_
    refine j_iload_n (q := 339) C dL_law_338 rfl rfl rfl ?_
    refine j_iconst (v := nI 1) (q := 340) C dL_law_339 rfl (by decide) ?_
    first | refine j_iaddN (q := 341) C dL_law_340 rfl ?_ | refine j_iadd (q := 341) C dL_law_340 rfl ?_
    refine j_sld (q := 342) hX hbl hL31 C dL_law_341 rfl (by omega) ?_
    refine j_aload_n (q := 343) C dL_law_342 rfl rfl rfl ?_
    refine j_iload_n (q := 344) C dL_law_343 rfl rfl rfl ?_
    refine j_iconst (v := nI 2) (q := 345) C dL_law_344 rfl (by decide) ?_
    first | refine j_iaddN (q := 346) C dL_law_345 rfl ?_ | refine j_iadd (q := 346) C dL_law_345 rfl ?_
    refine j_sld (q := 347) hX hbl hL31 C dL_law_346 rfl (by omega) ?_
    refine j_if_eq (q := 350) (tgt := 354) C dL_law_347 rfl (by decide) (fun c_347 => ?_) (fun c_347 => absurd c0 c_347)
    refine j_iconst (v := nI 0) (q := 355) C dL_law_354 rfl (by decide) ?_
    obtain ⟨post1, hc1, hv1, hp1⟩ := pr_gain (G := G) h (p := vs (i + 1)) (l := nI 0)
    refine j_callV (q := 358) jc10 C dL_law_355 rfl h.1.1.1 mX10_gain kw_321 kw_322 kw_323 hc1 (As := [.int (vs (i + 1)), .int (nI 0)]) (rest := []) rfl rfl ⟨Nat.le_of_ble_eq_true rfl, Nat.le_of_ble_eq_true rfl⟩ (Nat.le_of_ble_eq_true rfl) ⟨by show 460 + 2 * i + 0 ≤ 600000; omega, by show 13000 + 163 * i + 0 ≤ 7302250; omega⟩ (fun r1 z S1 M1 h1 => ?_)
    obtain ⟨⟨v, rfl⟩, hs11⟩ := hv1 _ _ _ _ h1
    obtain ⟨post2, hc2, hp2⟩ := hp1 _ _ _ _ h1
    change jJ G X _ _ _ _ _ _ _ [.long v]
    refine j_aload_n (q := 359) C dL_law_358 rfl rfl rfl ?_
    refine j_aload_n (q := 360) C dL_law_359 rfl rfl rfl ?_
    refine j_iload_n (q := 361) C dL_law_360 rfl rfl rfl ?_
    refine j_iconst (v := nI 1) (q := 362) C dL_law_361 rfl (by decide) ?_
    first | refine j_iaddN (q := 363) C dL_law_362 rfl ?_ | refine j_iadd (q := 363) C dL_law_362 rfl ?_
    refine j_sld (q := 364) hX hbl hL31 C dL_law_363 rfl (by omega) ?_
    refine j_aload_n (q := 365) C dL_law_364 rfl rfl rfl ?_
    refine j_iload_n (q := 366) C dL_law_365 rfl rfl rfl ?_
    refine j_iconst (v := nI 2) (q := 367) C dL_law_366 rfl (by decide) ?_
    first | refine j_iaddN (q := 368) C dL_law_367 rfl ?_ | refine j_iadd (q := 368) C dL_law_367 rfl ?_
    refine j_sld (q := 369) hX hbl hL31 C dL_law_368 rfl (by omega) ?_
    refine j_if_eq (q := 372) (tgt := 376) C dL_law_369 rfl (by decide) (fun c_369 => ?_) (fun c_369 => absurd c0 c_369)
    refine j_iconst (v := nI 0) (q := 377) C dL_law_376 rfl (by decide) ?_
    refine j_callV (q := 380) jc11 C dL_law_377 rfl hs11 mX11_gain kw_927 kw_928 kw_929 hc2 (As := [.int (vs (i + 1)), .int (nI 0)]) (rest := [.long v]) rfl rfl ⟨Nat.le_of_ble_eq_true rfl, Nat.le_of_ble_eq_true rfl⟩ (Nat.le_of_ble_eq_true rfl) ⟨by show 460 + 2 * i + 0 + 0 ≤ 600000; omega, by show 13000 + 163 * i + 0 + 0 ≤ 7302250; omega⟩ (fun r2 z2 S2 M2 h2 => ?_)
    obtain ⟨rfl, rfl, v2, ev, rfl, -, f2, d2, pe2, pa2, la2, LT2, hf2, hR2⟩ := hp2 _ _ _ _ h2
    obtain rfl : v = v2 := by injection ev with ev; injection ev
    change jJ G X _ _ _ _ _ _ _ [.long v, .long v]
    refine j_lcmp_eq (q1 := 381) (q := 384) (tgt := 1446) C dL_law_380 dL_law_381 rfl rfl (by decide) (fun c_381 => ?_) (fun c_381 => absurd rfl c_381)
    refine j_iincN (lv' := [(3, .int (nI (i + 6))), (0, .ref b), (1, .ref mm), (2, .ref (mm + 440))]) (q := 1449) C dL_law_1446 rfl rfl (by decide) rfl ?_
    refine j_goto (tgt := 18) C dL_law_1449 (by decide) ?_
    exact j_fewer (lv' := [(3, .int (nI (i + 6))), (0, .ref b), (1, .ref mm), (2, .ref (mm + 440))]) (by simp) (j_widen (by show 460 + 2 * i + 0 + 0 ≤ 460 + 2 * (i + 6); omega) (by show 13000 + 163 * i + 0 + 0 ≤ 13000 + 163 * (i + 6); omega) (nx _ _ _ _ _ _ _ _ _ (by omega) hR2))
  · refine j_aload_n (q := 337) C dL_law_336 rfl rfl rfl ?_
    refine j_aload_n (q := 338) C dL_law_337 rfl rfl rfl ?_
    refine j_iload_n (q := 339) C dL_law_338 rfl rfl rfl ?_
    refine j_iconst (v := nI 1) (q := 340) C dL_law_339 rfl (by decide) ?_
    first | refine j_iaddN (q := 341) C dL_law_340 rfl ?_ | refine j_iadd (q := 341) C dL_law_340 rfl ?_
    refine j_sld (q := 342) hX hbl hL31 C dL_law_341 rfl (by omega) ?_
    refine j_aload_n (q := 343) C dL_law_342 rfl rfl rfl ?_
    refine j_iload_n (q := 344) C dL_law_343 rfl rfl rfl ?_
    refine j_iconst (v := nI 2) (q := 345) C dL_law_344 rfl (by decide) ?_
    first | refine j_iaddN (q := 346) C dL_law_345 rfl ?_ | refine j_iadd (q := 346) C dL_law_345 rfl ?_
    refine j_sld (q := 347) hX hbl hL31 C dL_law_346 rfl (by omega) ?_
    refine j_if_eq (q := 350) (tgt := 354) C dL_law_347 rfl (by decide) (fun c_347 => absurd c_347 c0) (fun c_347 => ?_)
    refine j_iconst (v := nI 1) (q := 351) C dL_law_350 rfl (by decide) ?_
    refine j_goto (tgt := 355) C dL_law_351 (by decide) ?_
    obtain ⟨post1, hc1, hv1, hp1⟩ := pr_gain (G := G) h (p := vs (i + 1)) (l := nI 1)
    refine j_callV (q := 358) jc10 C dL_law_355 rfl h.1.1.1 mX10_gain kw_321 kw_322 kw_323 hc1 (As := [.int (vs (i + 1)), .int (nI 1)]) (rest := []) rfl rfl ⟨Nat.le_of_ble_eq_true rfl, Nat.le_of_ble_eq_true rfl⟩ (Nat.le_of_ble_eq_true rfl) ⟨by show 460 + 2 * i + 0 ≤ 600000; omega, by show 13000 + 163 * i + 0 ≤ 7302250; omega⟩ (fun r1 z S1 M1 h1 => ?_)
    obtain ⟨⟨v, rfl⟩, hs11⟩ := hv1 _ _ _ _ h1
    obtain ⟨post2, hc2, hp2⟩ := hp1 _ _ _ _ h1
    change jJ G X _ _ _ _ _ _ _ [.long v]
    refine j_aload_n (q := 359) C dL_law_358 rfl rfl rfl ?_
    refine j_aload_n (q := 360) C dL_law_359 rfl rfl rfl ?_
    refine j_iload_n (q := 361) C dL_law_360 rfl rfl rfl ?_
    refine j_iconst (v := nI 1) (q := 362) C dL_law_361 rfl (by decide) ?_
    first | refine j_iaddN (q := 363) C dL_law_362 rfl ?_ | refine j_iadd (q := 363) C dL_law_362 rfl ?_
    refine j_sld (q := 364) hX hbl hL31 C dL_law_363 rfl (by omega) ?_
    refine j_aload_n (q := 365) C dL_law_364 rfl rfl rfl ?_
    refine j_iload_n (q := 366) C dL_law_365 rfl rfl rfl ?_
    refine j_iconst (v := nI 2) (q := 367) C dL_law_366 rfl (by decide) ?_
    first | refine j_iaddN (q := 368) C dL_law_367 rfl ?_ | refine j_iadd (q := 368) C dL_law_367 rfl ?_
    refine j_sld (q := 369) hX hbl hL31 C dL_law_368 rfl (by omega) ?_
    refine j_if_eq (q := 372) (tgt := 376) C dL_law_369 rfl (by decide) (fun c_369 => absurd c_369 c0) (fun c_369 => ?_)
    refine j_iconst (v := nI 1) (q := 373) C dL_law_372 rfl (by decide) ?_
    refine j_goto (tgt := 377) C dL_law_373 (by decide) ?_
    refine j_callV (q := 380) jc11 C dL_law_377 rfl hs11 mX11_gain kw_927 kw_928 kw_929 hc2 (As := [.int (vs (i + 1)), .int (nI 1)]) (rest := [.long v]) rfl rfl ⟨Nat.le_of_ble_eq_true rfl, Nat.le_of_ble_eq_true rfl⟩ (Nat.le_of_ble_eq_true rfl) ⟨by show 460 + 2 * i + 0 + 0 ≤ 600000; omega, by show 13000 + 163 * i + 0 + 0 ≤ 7302250; omega⟩ (fun r2 z2 S2 M2 h2 => ?_)
    obtain ⟨rfl, rfl, v2, ev, rfl, -, f2, d2, pe2, pa2, la2, LT2, hf2, hR2⟩ := hp2 _ _ _ _ h2
    obtain rfl : v = v2 := by injection ev with ev; injection ev
    change jJ G X _ _ _ _ _ _ _ [.long v, .long v]
    refine j_lcmp_eq (q1 := 381) (q := 384) (tgt := 1446) C dL_law_380 dL_law_381 rfl rfl (by decide) (fun c_381 => ?_) (fun c_381 => absurd rfl c_381)
    refine j_iincN (lv' := [(3, .int (nI (i + 6))), (0, .ref b), (1, .ref mm), (2, .ref (mm + 440))]) (q := 1449) C dL_law_1446 rfl rfl (by decide) rfl ?_
    refine j_goto (tgt := 18) C dL_law_1449 (by decide) ?_
    exact j_fewer (lv' := [(3, .int (nI (i + 6))), (0, .ref b), (1, .ref mm), (2, .ref (mm + 440))]) (by simp) (j_widen (by show 460 + 2 * i + 0 + 0 ≤ 460 + 2 * (i + 6); omega) (by show 13000 + 163 * i + 0 + 0 ≤ 13000 + 163 * (i + 6); omega) (nx _ _ _ _ _ _ _ _ _ (by omega) hR2))
set_option maxRecDepth 100000 in
set_option maxHeartbeats 4000000 in
theorem cs_paper {G : jG} {X : jX} {nmL : String} {b L : Nat} {vs : Nat → Int32} (hX : va_X b L vs (xs X) (xs X).heap) (hbl : b < gN G) (hL : L ≤ 3072) (C : jOk G X (lYr nmL) cL_law 4 room_1) {mm f sz i : Nat} {Sh : jS} {M : jM} {d pe pa la : Nat} {LT : Nat → sT} (h : REL mm f sz Sh M d pe pa la LT) (hf : f ≤ i) (hi : i + 6 ≤ L) (nx : ∀ z2 S2 M2 f2 d2 pe2 pa2 la2 LT2, f2 ≤ i + 6 → REL mm f2 z2 S2 M2 d2 pe2 pa2 la2 LT2 → jJ G X (460 + 2 * (i + 6)) (13000 + 163 * (i + 6)) z2 S2 M2 18 [(3, .int (nI (i + 6))), (0, .ref b), (1, .ref mm), (2, .ref (mm + 440))] []) : jJ G X (460 + 2 * (i)) (13000 + 163 * (i)) sz Sh M 386 [(3, .int (nI (i))), (0, .ref b), (1, .ref mm), (2, .ref (mm + 440))] [] := by
  have hL31 : L < 2 ^ 31 := by omega
  refine j_aload_n (q := 387) C dL_law_386 rfl rfl rfl ?_
  refine j_aload_n (q := 388) C dL_law_387 rfl rfl rfl ?_
  refine j_iload_n (q := 389) C dL_law_388 rfl rfl rfl ?_
  refine j_iconst (v := nI 1) (q := 390) C dL_law_389 rfl (by decide) ?_
  first | refine j_iaddN (q := 391) C dL_law_390 rfl ?_ | refine j_iadd (q := 391) C dL_law_390 rfl ?_
  refine j_sld (q := 392) hX hbl hL31 C dL_law_391 rfl (by omega) ?_
  refine j_aload_n (q := 393) C dL_law_392 rfl rfl rfl ?_
  refine j_iload_n (q := 394) C dL_law_393 rfl rfl rfl ?_
  refine j_iconst (v := nI 2) (q := 395) C dL_law_394 rfl (by decide) ?_
  first | refine j_iaddN (q := 396) C dL_law_395 rfl ?_ | refine j_iadd (q := 396) C dL_law_395 rfl ?_
  refine j_sld (q := 397) hX hbl hL31 C dL_law_396 rfl (by omega) ?_
  refine j_aload_n (q := 398) C dL_law_397 rfl rfl rfl ?_
  refine j_iload_n (q := 399) C dL_law_398 rfl rfl rfl ?_
  refine j_iconst (v := nI 3) (q := 400) C dL_law_399 rfl (by decide) ?_
  first | refine j_iaddN (q := 401) C dL_law_400 rfl ?_ | refine j_iadd (q := 401) C dL_law_400 rfl ?_
  refine j_sld (q := 402) hX hbl hL31 C dL_law_401 rfl (by omega) ?_
  first | refine j_i2lN (q := 403) C dL_law_402 rfl (by omega) ?_ | refine j_i2l (q := 403) C dL_law_402 rfl rfl ?_
  refine j_bipush (v := nI 32) (q := 405) C dL_law_403 rfl (by decide) ?_
  refine j_lshl (q := 406) C dL_law_405 rfl rfl ?_
  refine j_aload_n (q := 407) C dL_law_406 rfl rfl rfl ?_
  refine j_iload_n (q := 408) C dL_law_407 rfl rfl rfl ?_
  refine j_iconst (v := nI 4) (q := 409) C dL_law_408 rfl (by decide) ?_
  first | refine j_iaddN (q := 410) C dL_law_409 rfl ?_ | refine j_iadd (q := 410) C dL_law_409 rfl ?_
  refine j_sld (q := 411) hX hbl hL31 C dL_law_410 rfl (by omega) ?_
  first | refine j_i2lN (q := 412) C dL_law_411 rfl (by omega) ?_ | refine j_i2l (q := 412) C dL_law_411 rfl rfl ?_
  refine j_ldc2 (q := 415) C dL_law_412 rfl kw_1266 ?_
  refine j_land (q := 416) C dL_law_415 rfl ?_
  refine j_lor (q := 417) C dL_law_416 rfl ?_
  refine j_aload_n (q := 418) C dL_law_417 rfl rfl rfl ?_
  refine j_iload_n (q := 419) C dL_law_418 rfl rfl rfl ?_
  refine j_iconst (v := nI 5) (q := 420) C dL_law_419 rfl (by decide) ?_
  first | refine j_iaddN (q := 421) C dL_law_420 rfl ?_ | refine j_iadd (q := 421) C dL_law_420 rfl ?_
  refine j_sld (q := 422) hX hbl hL31 C dL_law_421 rfl (by omega) ?_
  obtain ⟨post1, hc1, hv1, hp1⟩ := pr_paper (G := G) h (kd := vs (i + 1)) (who := vs (i + 2)) (sm := (((vs (i + 3)).toInt64 <<< ((nI 32).toInt64 &&& 63)) ||| ((vs (i + 4)).toInt64 &&& 4294967295))) (du := vs (i + 5))
  refine j_callV (q := 425) jc10 C dL_law_422 rfl h.1.1.1 mX10_paper kw_325 kw_326 kw_327 hc1 (As := [.int (vs (i + 1)), .int (vs (i + 2)), .long ((((vs (i + 3)).toInt64 <<< ((nI 32).toInt64 &&& 63)) ||| ((vs (i + 4)).toInt64 &&& 4294967295))), .int (vs (i + 5))]) (rest := []) rfl rfl ⟨Nat.le_of_ble_eq_true rfl, Nat.le_of_ble_eq_true rfl⟩ (Nat.le_of_ble_eq_true rfl) ⟨by show 460 + 2 * i + 0 ≤ 600000; omega, by show 13000 + 163 * i + 0 ≤ 7302250; omega⟩ (fun r1 z S1 M1 h1 => ?_)
  obtain ⟨⟨v, rfl⟩, hs11⟩ := hv1 _ _ _ _ h1
  obtain ⟨post2, hc2, hp2⟩ := hp1 _ _ _ _ h1
  change jJ G X _ _ _ _ _ _ _ [.long v]
  refine j_aload_n (q := 426) C dL_law_425 rfl rfl rfl ?_
  refine j_aload_n (q := 427) C dL_law_426 rfl rfl rfl ?_
  refine j_iload_n (q := 428) C dL_law_427 rfl rfl rfl ?_
  refine j_iconst (v := nI 1) (q := 429) C dL_law_428 rfl (by decide) ?_
  first | refine j_iaddN (q := 430) C dL_law_429 rfl ?_ | refine j_iadd (q := 430) C dL_law_429 rfl ?_
  refine j_sld (q := 431) hX hbl hL31 C dL_law_430 rfl (by omega) ?_
  refine j_aload_n (q := 432) C dL_law_431 rfl rfl rfl ?_
  refine j_iload_n (q := 433) C dL_law_432 rfl rfl rfl ?_
  refine j_iconst (v := nI 2) (q := 434) C dL_law_433 rfl (by decide) ?_
  first | refine j_iaddN (q := 435) C dL_law_434 rfl ?_ | refine j_iadd (q := 435) C dL_law_434 rfl ?_
  refine j_sld (q := 436) hX hbl hL31 C dL_law_435 rfl (by omega) ?_
  refine j_aload_n (q := 437) C dL_law_436 rfl rfl rfl ?_
  refine j_iload_n (q := 438) C dL_law_437 rfl rfl rfl ?_
  refine j_iconst (v := nI 3) (q := 439) C dL_law_438 rfl (by decide) ?_
  first | refine j_iaddN (q := 440) C dL_law_439 rfl ?_ | refine j_iadd (q := 440) C dL_law_439 rfl ?_
  refine j_sld (q := 441) hX hbl hL31 C dL_law_440 rfl (by omega) ?_
  first | refine j_i2lN (q := 442) C dL_law_441 rfl (by omega) ?_ | refine j_i2l (q := 442) C dL_law_441 rfl rfl ?_
  refine j_bipush (v := nI 32) (q := 444) C dL_law_442 rfl (by decide) ?_
  refine j_lshl (q := 445) C dL_law_444 rfl rfl ?_
  refine j_aload_n (q := 446) C dL_law_445 rfl rfl rfl ?_
  refine j_iload_n (q := 447) C dL_law_446 rfl rfl rfl ?_
  refine j_iconst (v := nI 4) (q := 448) C dL_law_447 rfl (by decide) ?_
  first | refine j_iaddN (q := 449) C dL_law_448 rfl ?_ | refine j_iadd (q := 449) C dL_law_448 rfl ?_
  refine j_sld (q := 450) hX hbl hL31 C dL_law_449 rfl (by omega) ?_
  first | refine j_i2lN (q := 451) C dL_law_450 rfl (by omega) ?_ | refine j_i2l (q := 451) C dL_law_450 rfl rfl ?_
  refine j_ldc2 (q := 454) C dL_law_451 rfl kw_1266 ?_
  refine j_land (q := 455) C dL_law_454 rfl ?_
  refine j_lor (q := 456) C dL_law_455 rfl ?_
  refine j_aload_n (q := 457) C dL_law_456 rfl rfl rfl ?_
  refine j_iload_n (q := 458) C dL_law_457 rfl rfl rfl ?_
  refine j_iconst (v := nI 5) (q := 459) C dL_law_458 rfl (by decide) ?_
  first | refine j_iaddN (q := 460) C dL_law_459 rfl ?_ | refine j_iadd (q := 460) C dL_law_459 rfl ?_
  refine j_sld (q := 461) hX hbl hL31 C dL_law_460 rfl (by omega) ?_
  refine j_callV (q := 464) jc11 C dL_law_461 rfl hs11 mX11_paper kw_931 kw_932 kw_933 hc2 (As := [.int (vs (i + 1)), .int (vs (i + 2)), .long ((((vs (i + 3)).toInt64 <<< ((nI 32).toInt64 &&& 63)) ||| ((vs (i + 4)).toInt64 &&& 4294967295))), .int (vs (i + 5))]) (rest := [.long v]) rfl rfl ⟨Nat.le_of_ble_eq_true rfl, Nat.le_of_ble_eq_true rfl⟩ (Nat.le_of_ble_eq_true rfl) ⟨by show 460 + 2 * i + 0 + 0 ≤ 600000; omega, by show 13000 + 163 * i + 0 + 0 ≤ 7302250; omega⟩ (fun r2 z2 S2 M2 h2 => ?_)
  obtain ⟨rfl, rfl, v2, ev, rfl, -, f2, d2, pe2, pa2, la2, LT2, hf2, hR2⟩ := hp2 _ _ _ _ h2
  obtain rfl : v = v2 := by injection ev with ev; injection ev
  change jJ G X _ _ _ _ _ _ _ [.long v, .long v]
  refine j_lcmp_eq (q1 := 465) (q := 468) (tgt := 1446) C dL_law_464 dL_law_465 rfl rfl (by decide) (fun c_465 => ?_) (fun c_465 => absurd rfl c_465)
  refine j_iincN (lv' := [(3, .int (nI (i + 6))), (0, .ref b), (1, .ref mm), (2, .ref (mm + 440))]) (q := 1449) C dL_law_1446 rfl rfl (by decide) rfl ?_
  refine j_goto (tgt := 18) C dL_law_1449 (by decide) ?_
  exact j_fewer (lv' := [(3, .int (nI (i + 6))), (0, .ref b), (1, .ref mm), (2, .ref (mm + 440))]) (by simp) (j_widen (by show 460 + 2 * i + 0 + 0 ≤ 460 + 2 * (i + 6); omega) (by show 13000 + 163 * i + 0 + 0 ≤ 13000 + 163 * (i + 6); omega) (nx _ _ _ _ _ _ _ _ _ (by omega) hR2))
set_option maxRecDepth 100000 in
set_option maxHeartbeats 4000000 in
theorem cs_as {G : jG} {X : jX} {nmL : String} {b L : Nat} {vs : Nat → Int32} (hX : va_X b L vs (xs X) (xs X).heap) (hbl : b < gN G) (hL : L ≤ 3072) (C : jOk G X (lYr nmL) cL_law 4 room_1) {mm f sz i : Nat} {Sh : jS} {M : jM} {d pe pa la : Nat} {LT : Nat → sT} (h : REL mm f sz Sh M d pe pa la LT) (hf : f ≤ i) (hi : i + 6 ≤ L) (nx : ∀ z2 S2 M2 f2 d2 pe2 pa2 la2 LT2, f2 ≤ i + 6 → REL mm f2 z2 S2 M2 d2 pe2 pa2 la2 LT2 → jJ G X (460 + 2 * (i + 6)) (13000 + 163 * (i + 6)) z2 S2 M2 18 [(3, .int (nI (i + 6))), (0, .ref b), (1, .ref mm), (2, .ref (mm + 440))] []) : jJ G X (460 + 2 * (i)) (13000 + 163 * (i)) sz Sh M 470 [(3, .int (nI (i))), (0, .ref b), (1, .ref mm), (2, .ref (mm + 440))] [] := by
  have hL31 : L < 2 ^ 31 := by omega
  refine j_aload_n (q := 471) C dL_law_470 rfl rfl rfl ?_
  refine j_aload_n (q := 472) C dL_law_471 rfl rfl rfl ?_
  refine j_iload_n (q := 473) C dL_law_472 rfl rfl rfl ?_
  refine j_iconst (v := nI 1) (q := 474) C dL_law_473 rfl (by decide) ?_
  first | refine j_iaddN (q := 475) C dL_law_474 rfl ?_ | refine j_iadd (q := 475) C dL_law_474 rfl ?_
  refine j_sld (q := 476) hX hbl hL31 C dL_law_475 rfl (by omega) ?_
  refine j_aload_n (q := 477) C dL_law_476 rfl rfl rfl ?_
  refine j_iload_n (q := 478) C dL_law_477 rfl rfl rfl ?_
  refine j_iconst (v := nI 2) (q := 479) C dL_law_478 rfl (by decide) ?_
  first | refine j_iaddN (q := 480) C dL_law_479 rfl ?_ | refine j_iadd (q := 480) C dL_law_479 rfl ?_
  refine j_sld (q := 481) hX hbl hL31 C dL_law_480 rfl (by omega) ?_
  obtain ⟨post1, hc1, hv1, hp1⟩ := pr_as (G := G) h (p := vs (i + 1)) (x := vs (i + 2))
  refine j_callV (q := 484) jc10 C dL_law_481 rfl h.1.1.1 mX10_as kw_336 kw_337 kw_338 hc1 (As := [.int (vs (i + 1)), .int (vs (i + 2))]) (rest := []) rfl rfl ⟨Nat.le_of_ble_eq_true rfl, Nat.le_of_ble_eq_true rfl⟩ (Nat.le_of_ble_eq_true rfl) ⟨by show 460 + 2 * i + 0 ≤ 600000; omega, by show 13000 + 163 * i + 0 ≤ 7302250; omega⟩ (fun r1 z S1 M1 h1 => ?_)
  obtain ⟨⟨v, rfl⟩, hs11⟩ := hv1 _ _ _ _ h1
  obtain ⟨post2, hc2, hp2⟩ := hp1 _ _ _ _ h1
  change jJ G X _ _ _ _ _ _ _ [.long v]
  refine j_aload_n (q := 485) C dL_law_484 rfl rfl rfl ?_
  refine j_aload_n (q := 486) C dL_law_485 rfl rfl rfl ?_
  refine j_iload_n (q := 487) C dL_law_486 rfl rfl rfl ?_
  refine j_iconst (v := nI 1) (q := 488) C dL_law_487 rfl (by decide) ?_
  first | refine j_iaddN (q := 489) C dL_law_488 rfl ?_ | refine j_iadd (q := 489) C dL_law_488 rfl ?_
  refine j_sld (q := 490) hX hbl hL31 C dL_law_489 rfl (by omega) ?_
  refine j_aload_n (q := 491) C dL_law_490 rfl rfl rfl ?_
  refine j_iload_n (q := 492) C dL_law_491 rfl rfl rfl ?_
  refine j_iconst (v := nI 2) (q := 493) C dL_law_492 rfl (by decide) ?_
  first | refine j_iaddN (q := 494) C dL_law_493 rfl ?_ | refine j_iadd (q := 494) C dL_law_493 rfl ?_
  refine j_sld (q := 495) hX hbl hL31 C dL_law_494 rfl (by omega) ?_
  refine j_callV (q := 498) jc11 C dL_law_495 rfl hs11 mX11_as kw_941 kw_942 kw_943 hc2 (As := [.int (vs (i + 1)), .int (vs (i + 2))]) (rest := [.long v]) rfl rfl ⟨Nat.le_of_ble_eq_true rfl, Nat.le_of_ble_eq_true rfl⟩ (Nat.le_of_ble_eq_true rfl) ⟨by show 460 + 2 * i + 0 + 0 ≤ 600000; omega, by show 13000 + 163 * i + 0 + 0 ≤ 7302250; omega⟩ (fun r2 z2 S2 M2 h2 => ?_)
  obtain ⟨rfl, rfl, v2, ev, rfl, -, f2, d2, pe2, pa2, la2, LT2, hf2, hR2⟩ := hp2 _ _ _ _ h2
  obtain rfl : v = v2 := by injection ev with ev; injection ev
  change jJ G X _ _ _ _ _ _ _ [.long v, .long v]
  refine j_lcmp_eq (q1 := 499) (q := 502) (tgt := 1446) C dL_law_498 dL_law_499 rfl rfl (by decide) (fun c_499 => ?_) (fun c_499 => absurd rfl c_499)
  refine j_iincN (lv' := [(3, .int (nI (i + 6))), (0, .ref b), (1, .ref mm), (2, .ref (mm + 440))]) (q := 1449) C dL_law_1446 rfl rfl (by decide) rfl ?_
  refine j_goto (tgt := 18) C dL_law_1449 (by decide) ?_
  exact j_fewer (lv' := [(3, .int (nI (i + 6))), (0, .ref b), (1, .ref mm), (2, .ref (mm + 440))]) (by simp) (j_widen (by show 460 + 2 * i + 0 + 0 ≤ 460 + 2 * (i + 6); omega) (by show 13000 + 163 * i + 0 + 0 ≤ 13000 + 163 * (i + 6); omega) (nx _ _ _ _ _ _ _ _ _ (by omega) hR2))
set_option maxRecDepth 100000 in
set_option maxHeartbeats 4000000 in
theorem cs_paperIs {G : jG} {X : jX} {nmL : String} {b L : Nat} {vs : Nat → Int32} (hX : va_X b L vs (xs X) (xs X).heap) (hbl : b < gN G) (hL : L ≤ 3072) (C : jOk G X (lYr nmL) cL_law 4 room_1) {mm f sz i : Nat} {Sh : jS} {M : jM} {d pe pa la : Nat} {LT : Nat → sT} (h : REL mm f sz Sh M d pe pa la LT) (hf : f ≤ i) (hi : i + 6 ≤ L) (nx : ∀ z2 S2 M2 f2 d2 pe2 pa2 la2 LT2, f2 ≤ i + 6 → REL mm f2 z2 S2 M2 d2 pe2 pa2 la2 LT2 → jJ G X (460 + 2 * (i + 6)) (13000 + 163 * (i + 6)) z2 S2 M2 18 [(3, .int (nI (i + 6))), (0, .ref b), (1, .ref mm), (2, .ref (mm + 440))] []) : jJ G X (460 + 2 * (i)) (13000 + 163 * (i)) sz Sh M 504 [(3, .int (nI (i))), (0, .ref b), (1, .ref mm), (2, .ref (mm + 440))] [] := by
  have hL31 : L < 2 ^ 31 := by omega
  refine j_aload_n (q := 505) C dL_law_504 rfl rfl rfl ?_
  refine j_aload_n (q := 506) C dL_law_505 rfl rfl rfl ?_
  refine j_iload_n (q := 507) C dL_law_506 rfl rfl rfl ?_
  refine j_iconst (v := nI 1) (q := 508) C dL_law_507 rfl (by decide) ?_
  first | refine j_iaddN (q := 509) C dL_law_508 rfl ?_ | refine j_iadd (q := 509) C dL_law_508 rfl ?_
  refine j_sld (q := 510) hX hbl hL31 C dL_law_509 rfl (by omega) ?_
  refine j_aload_n (q := 511) C dL_law_510 rfl rfl rfl ?_
  refine j_iload_n (q := 512) C dL_law_511 rfl rfl rfl ?_
  refine j_iconst (v := nI 2) (q := 513) C dL_law_512 rfl (by decide) ?_
  first | refine j_iaddN (q := 514) C dL_law_513 rfl ?_ | refine j_iadd (q := 514) C dL_law_513 rfl ?_
  refine j_sld (q := 515) hX hbl hL31 C dL_law_514 rfl (by omega) ?_
  obtain ⟨post1, hc1, hv1, hp1⟩ := pr_paperIs (G := G) h (p := vs (i + 1)) (x := vs (i + 2))
  refine j_callV (q := 518) jc10 C dL_law_515 rfl h.1.1.1 mX10_paperIs kw_349 kw_350 kw_351 hc1 (As := [.int (vs (i + 1)), .int (vs (i + 2))]) (rest := []) rfl rfl ⟨Nat.le_of_ble_eq_true rfl, Nat.le_of_ble_eq_true rfl⟩ (Nat.le_of_ble_eq_true rfl) ⟨by show 460 + 2 * i + 0 ≤ 600000; omega, by show 13000 + 163 * i + 0 ≤ 7302250; omega⟩ (fun r1 z S1 M1 h1 => ?_)
  obtain ⟨⟨v, rfl⟩, hs11⟩ := hv1 _ _ _ _ h1
  obtain ⟨post2, hc2, hp2⟩ := hp1 _ _ _ _ h1
  change jJ G X _ _ _ _ _ _ _ [.long v]
  refine j_aload_n (q := 519) C dL_law_518 rfl rfl rfl ?_
  refine j_aload_n (q := 520) C dL_law_519 rfl rfl rfl ?_
  refine j_iload_n (q := 521) C dL_law_520 rfl rfl rfl ?_
  refine j_iconst (v := nI 1) (q := 522) C dL_law_521 rfl (by decide) ?_
  first | refine j_iaddN (q := 523) C dL_law_522 rfl ?_ | refine j_iadd (q := 523) C dL_law_522 rfl ?_
  refine j_sld (q := 524) hX hbl hL31 C dL_law_523 rfl (by omega) ?_
  refine j_aload_n (q := 525) C dL_law_524 rfl rfl rfl ?_
  refine j_iload_n (q := 526) C dL_law_525 rfl rfl rfl ?_
  refine j_iconst (v := nI 2) (q := 527) C dL_law_526 rfl (by decide) ?_
  first | refine j_iaddN (q := 528) C dL_law_527 rfl ?_ | refine j_iadd (q := 528) C dL_law_527 rfl ?_
  refine j_sld (q := 529) hX hbl hL31 C dL_law_528 rfl (by omega) ?_
  refine j_callV (q := 532) jc11 C dL_law_529 rfl hs11 mX11_paperIs kw_950 kw_951 kw_952 hc2 (As := [.int (vs (i + 1)), .int (vs (i + 2))]) (rest := [.long v]) rfl rfl ⟨Nat.le_of_ble_eq_true rfl, Nat.le_of_ble_eq_true rfl⟩ (Nat.le_of_ble_eq_true rfl) ⟨by show 460 + 2 * i + 0 + 0 ≤ 600000; omega, by show 13000 + 163 * i + 0 + 0 ≤ 7302250; omega⟩ (fun r2 z2 S2 M2 h2 => ?_)
  obtain ⟨rfl, rfl, v2, ev, rfl, -, f2, d2, pe2, pa2, la2, LT2, hf2, hR2⟩ := hp2 _ _ _ _ h2
  obtain rfl : v = v2 := by injection ev with ev; injection ev
  change jJ G X _ _ _ _ _ _ _ [.long v, .long v]
  refine j_lcmp_eq (q1 := 533) (q := 536) (tgt := 1446) C dL_law_532 dL_law_533 rfl rfl (by decide) (fun c_533 => ?_) (fun c_533 => absurd rfl c_533)
  refine j_iincN (lv' := [(3, .int (nI (i + 6))), (0, .ref b), (1, .ref mm), (2, .ref (mm + 440))]) (q := 1449) C dL_law_1446 rfl rfl (by decide) rfl ?_
  refine j_goto (tgt := 18) C dL_law_1449 (by decide) ?_
  exact j_fewer (lv' := [(3, .int (nI (i + 6))), (0, .ref b), (1, .ref mm), (2, .ref (mm + 440))]) (by simp) (j_widen (by show 460 + 2 * i + 0 + 0 ≤ 460 + 2 * (i + 6); omega) (by show 13000 + 163 * i + 0 + 0 ≤ 13000 + 163 * (i + 6); omega) (nx _ _ _ _ _ _ _ _ _ (by omega) hR2))
set_option maxRecDepth 100000 in
set_option maxHeartbeats 4000000 in
theorem cs_owed {G : jG} {X : jX} {nmL : String} {b L : Nat} {vs : Nat → Int32} (hX : va_X b L vs (xs X) (xs X).heap) (hbl : b < gN G) (hL : L ≤ 3072) (C : jOk G X (lYr nmL) cL_law 4 room_1) {mm f sz i : Nat} {Sh : jS} {M : jM} {d pe pa la : Nat} {LT : Nat → sT} (h : REL mm f sz Sh M d pe pa la LT) (hf : f ≤ i) (hi : i + 6 ≤ L) (nx : ∀ z2 S2 M2 f2 d2 pe2 pa2 la2 LT2, f2 ≤ i + 6 → REL mm f2 z2 S2 M2 d2 pe2 pa2 la2 LT2 → jJ G X (460 + 2 * (i + 6)) (13000 + 163 * (i + 6)) z2 S2 M2 18 [(3, .int (nI (i + 6))), (0, .ref b), (1, .ref mm), (2, .ref (mm + 440))] []) : jJ G X (460 + 2 * (i)) (13000 + 163 * (i)) sz Sh M 538 [(3, .int (nI (i))), (0, .ref b), (1, .ref mm), (2, .ref (mm + 440))] [] := by
  have hL31 : L < 2 ^ 31 := by omega
  refine j_aload_n (q := 539) C dL_law_538 rfl rfl rfl ?_
  refine j_aload_n (q := 540) C dL_law_539 rfl rfl rfl ?_
  refine j_iload_n (q := 541) C dL_law_540 rfl rfl rfl ?_
  refine j_iconst (v := nI 1) (q := 542) C dL_law_541 rfl (by decide) ?_
  first | refine j_iaddN (q := 543) C dL_law_542 rfl ?_ | refine j_iadd (q := 543) C dL_law_542 rfl ?_
  refine j_sld (q := 544) hX hbl hL31 C dL_law_543 rfl (by omega) ?_
  refine j_aload_n (q := 545) C dL_law_544 rfl rfl rfl ?_
  refine j_iload_n (q := 546) C dL_law_545 rfl rfl rfl ?_
  refine j_iconst (v := nI 2) (q := 547) C dL_law_546 rfl (by decide) ?_
  first | refine j_iaddN (q := 548) C dL_law_547 rfl ?_ | refine j_iadd (q := 548) C dL_law_547 rfl ?_
  refine j_sld (q := 549) hX hbl hL31 C dL_law_548 rfl (by omega) ?_
  obtain ⟨post1, hc1, hv1, hp1⟩ := pr_owed (G := G) h (p := vs (i + 1)) (c := vs (i + 2))
  refine j_callV (q := 552) jc10 C dL_law_549 rfl h.1.1.1 mX10_owed kw_358 kw_359 kw_360 hc1 (As := [.int (vs (i + 1)), .int (vs (i + 2))]) (rest := []) rfl rfl ⟨Nat.le_of_ble_eq_true rfl, Nat.le_of_ble_eq_true rfl⟩ (Nat.le_of_ble_eq_true rfl) ⟨by show 460 + 2 * i + 0 ≤ 600000; omega, by show 13000 + 163 * i + 0 ≤ 7302250; omega⟩ (fun r1 z S1 M1 h1 => ?_)
  obtain ⟨⟨v, rfl⟩, hs11⟩ := hv1 _ _ _ _ h1
  obtain ⟨post2, hc2, hp2⟩ := hp1 _ _ _ _ h1
  change jJ G X _ _ _ _ _ _ _ [.long v]
  refine j_aload_n (q := 553) C dL_law_552 rfl rfl rfl ?_
  refine j_aload_n (q := 554) C dL_law_553 rfl rfl rfl ?_
  refine j_iload_n (q := 555) C dL_law_554 rfl rfl rfl ?_
  refine j_iconst (v := nI 1) (q := 556) C dL_law_555 rfl (by decide) ?_
  first | refine j_iaddN (q := 557) C dL_law_556 rfl ?_ | refine j_iadd (q := 557) C dL_law_556 rfl ?_
  refine j_sld (q := 558) hX hbl hL31 C dL_law_557 rfl (by omega) ?_
  refine j_aload_n (q := 559) C dL_law_558 rfl rfl rfl ?_
  refine j_iload_n (q := 560) C dL_law_559 rfl rfl rfl ?_
  refine j_iconst (v := nI 2) (q := 561) C dL_law_560 rfl (by decide) ?_
  first | refine j_iaddN (q := 562) C dL_law_561 rfl ?_ | refine j_iadd (q := 562) C dL_law_561 rfl ?_
  refine j_sld (q := 563) hX hbl hL31 C dL_law_562 rfl (by omega) ?_
  refine j_callV (q := 566) jc11 C dL_law_563 rfl hs11 mX11_owed kw_955 kw_956 kw_957 hc2 (As := [.int (vs (i + 1)), .int (vs (i + 2))]) (rest := [.long v]) rfl rfl ⟨Nat.le_of_ble_eq_true rfl, Nat.le_of_ble_eq_true rfl⟩ (Nat.le_of_ble_eq_true rfl) ⟨by show 460 + 2 * i + 0 + 0 ≤ 600000; omega, by show 13000 + 163 * i + 0 + 0 ≤ 7302250; omega⟩ (fun r2 z2 S2 M2 h2 => ?_)
  obtain ⟨rfl, rfl, v2, ev, rfl, -, f2, d2, pe2, pa2, la2, LT2, hf2, hR2⟩ := hp2 _ _ _ _ h2
  obtain rfl : v = v2 := by injection ev with ev; injection ev
  change jJ G X _ _ _ _ _ _ _ [.long v, .long v]
  refine j_lcmp_eq (q1 := 567) (q := 570) (tgt := 1446) C dL_law_566 dL_law_567 rfl rfl (by decide) (fun c_567 => ?_) (fun c_567 => absurd rfl c_567)
  refine j_iincN (lv' := [(3, .int (nI (i + 6))), (0, .ref b), (1, .ref mm), (2, .ref (mm + 440))]) (q := 1449) C dL_law_1446 rfl rfl (by decide) rfl ?_
  refine j_goto (tgt := 18) C dL_law_1449 (by decide) ?_
  exact j_fewer (lv' := [(3, .int (nI (i + 6))), (0, .ref b), (1, .ref mm), (2, .ref (mm + 440))]) (by simp) (j_widen (by show 460 + 2 * i + 0 + 0 ≤ 460 + 2 * (i + 6); omega) (by show 13000 + 163 * i + 0 + 0 ≤ 13000 + 163 * (i + 6); omega) (nx _ _ _ _ _ _ _ _ _ (by omega) hR2))
set_option maxRecDepth 100000 in
set_option maxHeartbeats 4000000 in
theorem cs_pay {G : jG} {X : jX} {nmL : String} {b L : Nat} {vs : Nat → Int32} (hX : va_X b L vs (xs X) (xs X).heap) (hbl : b < gN G) (hL : L ≤ 3072) (C : jOk G X (lYr nmL) cL_law 4 room_1) {mm f sz i : Nat} {Sh : jS} {M : jM} {d pe pa la : Nat} {LT : Nat → sT} (h : REL mm f sz Sh M d pe pa la LT) (hf : f ≤ i) (hi : i + 6 ≤ L) (nx : ∀ z2 S2 M2 f2 d2 pe2 pa2 la2 LT2, f2 ≤ i + 6 → REL mm f2 z2 S2 M2 d2 pe2 pa2 la2 LT2 → jJ G X (460 + 2 * (i + 6)) (13000 + 163 * (i + 6)) z2 S2 M2 18 [(3, .int (nI (i + 6))), (0, .ref b), (1, .ref mm), (2, .ref (mm + 440))] []) : jJ G X (460 + 2 * (i)) (13000 + 163 * (i)) sz Sh M 572 [(3, .int (nI (i))), (0, .ref b), (1, .ref mm), (2, .ref (mm + 440))] [] := by
  have hL31 : L < 2 ^ 31 := by omega
  refine j_aload_n (q := 573) C dL_law_572 rfl rfl rfl ?_
  refine j_aload_n (q := 574) C dL_law_573 rfl rfl rfl ?_
  refine j_iload_n (q := 575) C dL_law_574 rfl rfl rfl ?_
  refine j_iconst (v := nI 1) (q := 576) C dL_law_575 rfl (by decide) ?_
  first | refine j_iaddN (q := 577) C dL_law_576 rfl ?_ | refine j_iadd (q := 577) C dL_law_576 rfl ?_
  refine j_sld (q := 578) hX hbl hL31 C dL_law_577 rfl (by omega) ?_
  obtain ⟨post1, hc1, hv1, hp1⟩ := pr_pay (G := G) h (p := vs (i + 1))
  refine j_callV (q := 581) jc10 C dL_law_578 rfl h.1.1.1 mX10_pay kw_416 kw_417 kw_418 hc1 (As := [.int (vs (i + 1))]) (rest := []) rfl rfl ⟨Nat.le_of_ble_eq_true rfl, Nat.le_of_ble_eq_true rfl⟩ (Nat.le_of_ble_eq_true rfl) ⟨by show 460 + 2 * i + 0 ≤ 600000; omega, by show 13000 + 163 * i + 0 ≤ 7302250; omega⟩ (fun r1 z S1 M1 h1 => ?_)
  obtain ⟨⟨v, rfl⟩, hs11⟩ := hv1 _ _ _ _ h1
  obtain ⟨post2, hc2, hp2⟩ := hp1 _ _ _ _ h1
  change jJ G X _ _ _ _ _ _ _ [.long v]
  refine j_aload_n (q := 582) C dL_law_581 rfl rfl rfl ?_
  refine j_aload_n (q := 583) C dL_law_582 rfl rfl rfl ?_
  refine j_iload_n (q := 584) C dL_law_583 rfl rfl rfl ?_
  refine j_iconst (v := nI 1) (q := 585) C dL_law_584 rfl (by decide) ?_
  first | refine j_iaddN (q := 586) C dL_law_585 rfl ?_ | refine j_iadd (q := 586) C dL_law_585 rfl ?_
  refine j_sld (q := 587) hX hbl hL31 C dL_law_586 rfl (by omega) ?_
  refine j_callV (q := 590) jc11 C dL_law_587 rfl hs11 mX11_pay kw_991 kw_992 kw_993 hc2 (As := [.int (vs (i + 1))]) (rest := [.long v]) rfl rfl ⟨Nat.le_of_ble_eq_true rfl, Nat.le_of_ble_eq_true rfl⟩ (Nat.le_of_ble_eq_true rfl) ⟨by show 460 + 2 * i + 0 + 0 ≤ 600000; omega, by show 13000 + 163 * i + 0 + 0 ≤ 7302250; omega⟩ (fun r2 z2 S2 M2 h2 => ?_)
  obtain ⟨rfl, rfl, v2, ev, rfl, -, f2, d2, pe2, pa2, la2, LT2, hf2, hR2⟩ := hp2 _ _ _ _ h2
  obtain rfl : v = v2 := by injection ev with ev; injection ev
  change jJ G X _ _ _ _ _ _ _ [.long v, .long v]
  refine j_lcmp_eq (q1 := 591) (q := 594) (tgt := 1446) C dL_law_590 dL_law_591 rfl rfl (by decide) (fun c_591 => ?_) (fun c_591 => absurd rfl c_591)
  refine j_iincN (lv' := [(3, .int (nI (i + 6))), (0, .ref b), (1, .ref mm), (2, .ref (mm + 440))]) (q := 1449) C dL_law_1446 rfl rfl (by decide) rfl ?_
  refine j_goto (tgt := 18) C dL_law_1449 (by decide) ?_
  exact j_fewer (lv' := [(3, .int (nI (i + 6))), (0, .ref b), (1, .ref mm), (2, .ref (mm + 440))]) (by simp) (j_widen (by show 460 + 2 * i + 0 + 0 ≤ 460 + 2 * (i + 6); omega) (by show 13000 + 163 * i + 0 + 0 ≤ 13000 + 163 * (i + 6); omega) (nx _ _ _ _ _ _ _ _ _ (by omega) hR2))
set_option maxRecDepth 100000 in
set_option maxHeartbeats 4000000 in
theorem cs_tear {G : jG} {X : jX} {nmL : String} {b L : Nat} {vs : Nat → Int32} (hX : va_X b L vs (xs X) (xs X).heap) (hbl : b < gN G) (hL : L ≤ 3072) (C : jOk G X (lYr nmL) cL_law 4 room_1) {mm f sz i : Nat} {Sh : jS} {M : jM} {d pe pa la : Nat} {LT : Nat → sT} (h : REL mm f sz Sh M d pe pa la LT) (hf : f ≤ i) (hi : i + 6 ≤ L) (nx : ∀ z2 S2 M2 f2 d2 pe2 pa2 la2 LT2, f2 ≤ i + 6 → REL mm f2 z2 S2 M2 d2 pe2 pa2 la2 LT2 → jJ G X (460 + 2 * (i + 6)) (13000 + 163 * (i + 6)) z2 S2 M2 18 [(3, .int (nI (i + 6))), (0, .ref b), (1, .ref mm), (2, .ref (mm + 440))] []) : jJ G X (460 + 2 * (i)) (13000 + 163 * (i)) sz Sh M 596 [(3, .int (nI (i))), (0, .ref b), (1, .ref mm), (2, .ref (mm + 440))] [] := by
  have hL31 : L < 2 ^ 31 := by omega
  refine j_aload_n (q := 597) C dL_law_596 rfl rfl rfl ?_
  refine j_aload_n (q := 598) C dL_law_597 rfl rfl rfl ?_
  refine j_iload_n (q := 599) C dL_law_598 rfl rfl rfl ?_
  refine j_iconst (v := nI 1) (q := 600) C dL_law_599 rfl (by decide) ?_
  first | refine j_iaddN (q := 601) C dL_law_600 rfl ?_ | refine j_iadd (q := 601) C dL_law_600 rfl ?_
  refine j_sld (q := 602) hX hbl hL31 C dL_law_601 rfl (by omega) ?_
  obtain ⟨post1, hc1, hv1, hp1⟩ := pr_tear (G := G) h (p := vs (i + 1))
  refine j_callV (q := 605) jc10 C dL_law_602 rfl h.1.1.1 mX10_tear kw_440 kw_441 kw_442 hc1 (As := [.int (vs (i + 1))]) (rest := []) rfl rfl ⟨Nat.le_of_ble_eq_true rfl, Nat.le_of_ble_eq_true rfl⟩ (Nat.le_of_ble_eq_true rfl) ⟨by show 460 + 2 * i + 0 ≤ 600000; omega, by show 13000 + 163 * i + 0 ≤ 7302250; omega⟩ (fun r1 z S1 M1 h1 => ?_)
  obtain ⟨⟨v, rfl⟩, hs11⟩ := hv1 _ _ _ _ h1
  obtain ⟨post2, hc2, hp2⟩ := hp1 _ _ _ _ h1
  change jJ G X _ _ _ _ _ _ _ [.long v]
  refine j_aload_n (q := 606) C dL_law_605 rfl rfl rfl ?_
  refine j_aload_n (q := 607) C dL_law_606 rfl rfl rfl ?_
  refine j_iload_n (q := 608) C dL_law_607 rfl rfl rfl ?_
  refine j_iconst (v := nI 1) (q := 609) C dL_law_608 rfl (by decide) ?_
  first | refine j_iaddN (q := 610) C dL_law_609 rfl ?_ | refine j_iadd (q := 610) C dL_law_609 rfl ?_
  refine j_sld (q := 611) hX hbl hL31 C dL_law_610 rfl (by omega) ?_
  refine j_callV (q := 614) jc11 C dL_law_611 rfl hs11 mX11_tear kw_1006 kw_1007 kw_1008 hc2 (As := [.int (vs (i + 1))]) (rest := [.long v]) rfl rfl ⟨Nat.le_of_ble_eq_true rfl, Nat.le_of_ble_eq_true rfl⟩ (Nat.le_of_ble_eq_true rfl) ⟨by show 460 + 2 * i + 0 + 0 ≤ 600000; omega, by show 13000 + 163 * i + 0 + 0 ≤ 7302250; omega⟩ (fun r2 z2 S2 M2 h2 => ?_)
  obtain ⟨rfl, rfl, v2, ev, rfl, -, f2, d2, pe2, pa2, la2, LT2, hf2, hR2⟩ := hp2 _ _ _ _ h2
  obtain rfl : v = v2 := by injection ev with ev; injection ev
  change jJ G X _ _ _ _ _ _ _ [.long v, .long v]
  refine j_lcmp_eq (q1 := 615) (q := 618) (tgt := 1446) C dL_law_614 dL_law_615 rfl rfl (by decide) (fun c_615 => ?_) (fun c_615 => absurd rfl c_615)
  refine j_iincN (lv' := [(3, .int (nI (i + 6))), (0, .ref b), (1, .ref mm), (2, .ref (mm + 440))]) (q := 1449) C dL_law_1446 rfl rfl (by decide) rfl ?_
  refine j_goto (tgt := 18) C dL_law_1449 (by decide) ?_
  exact j_fewer (lv' := [(3, .int (nI (i + 6))), (0, .ref b), (1, .ref mm), (2, .ref (mm + 440))]) (by simp) (j_widen (by show 460 + 2 * i + 0 + 0 ≤ 460 + 2 * (i + 6); omega) (by show 13000 + 163 * i + 0 + 0 ≤ 13000 + 163 * (i + 6); omega) (nx _ _ _ _ _ _ _ _ _ (by omega) hR2))
set_option maxRecDepth 100000 in
set_option maxHeartbeats 4000000 in
theorem cs_thin {G : jG} {X : jX} {nmL : String} {b L : Nat} {vs : Nat → Int32} (hX : va_X b L vs (xs X) (xs X).heap) (hbl : b < gN G) (hL : L ≤ 3072) (C : jOk G X (lYr nmL) cL_law 4 room_1) {mm f sz i : Nat} {Sh : jS} {M : jM} {d pe pa la : Nat} {LT : Nat → sT} (h : REL mm f sz Sh M d pe pa la LT) (hf : f ≤ i) (hi : i + 6 ≤ L) (nx : ∀ z2 S2 M2 f2 d2 pe2 pa2 la2 LT2, f2 ≤ i + 6 → REL mm f2 z2 S2 M2 d2 pe2 pa2 la2 LT2 → jJ G X (460 + 2 * (i + 6)) (13000 + 163 * (i + 6)) z2 S2 M2 18 [(3, .int (nI (i + 6))), (0, .ref b), (1, .ref mm), (2, .ref (mm + 440))] []) : jJ G X (460 + 2 * (i)) (13000 + 163 * (i)) sz Sh M 620 [(3, .int (nI (i))), (0, .ref b), (1, .ref mm), (2, .ref (mm + 440))] [] := by
  have hL31 : L < 2 ^ 31 := by omega
  refine j_aload_n (q := 621) C dL_law_620 rfl rfl rfl ?_
  obtain ⟨post1, hc1, hv1, hp1⟩ := pr_thin (G := G) h 
  refine j_callV (q := 624) jc10 C dL_law_621 rfl h.1.1.1 mX10_thin kw_444 kw_445 kw_446 hc1 (As := []) (rest := []) rfl rfl ⟨Nat.le_of_ble_eq_true rfl, Nat.le_of_ble_eq_true rfl⟩ (Nat.le_of_ble_eq_true rfl) ⟨by show 460 + 2 * i + 0 ≤ 600000; omega, by show 13000 + 163 * i + 0 ≤ 7302250; omega⟩ (fun r1 z S1 M1 h1 => ?_)
  obtain ⟨⟨v, rfl⟩, hs11⟩ := hv1 _ _ _ _ h1
  obtain ⟨post2, hc2, hp2⟩ := hp1 _ _ _ _ h1
  change jJ G X _ _ _ _ _ _ _ [.long v]
  refine j_aload_n (q := 625) C dL_law_624 rfl rfl rfl ?_
  refine j_callV (q := 628) jc11 C dL_law_625 rfl hs11 mX11_thin kw_1010 kw_1011 kw_1012 hc2 (As := []) (rest := [.long v]) rfl rfl ⟨Nat.le_of_ble_eq_true rfl, Nat.le_of_ble_eq_true rfl⟩ (Nat.le_of_ble_eq_true rfl) ⟨by show 460 + 2 * i + 0 + 0 ≤ 600000; omega, by show 13000 + 163 * i + 0 + 0 ≤ 7302250; omega⟩ (fun r2 z2 S2 M2 h2 => ?_)
  obtain ⟨rfl, rfl, v2, ev, rfl, -, f2, d2, pe2, pa2, la2, LT2, hf2, hR2⟩ := hp2 _ _ _ _ h2
  obtain rfl : v = v2 := by injection ev with ev; injection ev
  change jJ G X _ _ _ _ _ _ _ [.long v, .long v]
  refine j_lcmp_eq (q1 := 629) (q := 632) (tgt := 1446) C dL_law_628 dL_law_629 rfl rfl (by decide) (fun c_629 => ?_) (fun c_629 => absurd rfl c_629)
  refine j_iincN (lv' := [(3, .int (nI (i + 6))), (0, .ref b), (1, .ref mm), (2, .ref (mm + 440))]) (q := 1449) C dL_law_1446 rfl rfl (by decide) rfl ?_
  refine j_goto (tgt := 18) C dL_law_1449 (by decide) ?_
  exact j_fewer (lv' := [(3, .int (nI (i + 6))), (0, .ref b), (1, .ref mm), (2, .ref (mm + 440))]) (by simp) (j_widen (by show 460 + 2 * i + 0 + 0 ≤ 460 + 2 * (i + 6); omega) (by show 13000 + 163 * i + 0 + 0 ≤ 13000 + 163 * (i + 6); omega) (nx _ _ _ _ _ _ _ _ _ (by omega) hR2))
set_option maxRecDepth 100000 in
set_option maxHeartbeats 4000000 in
theorem cs_feed {G : jG} {X : jX} {nmL : String} {b L : Nat} {vs : Nat → Int32} (hX : va_X b L vs (xs X) (xs X).heap) (hbl : b < gN G) (hL : L ≤ 3072) (C : jOk G X (lYr nmL) cL_law 4 room_1) {mm f sz i : Nat} {Sh : jS} {M : jM} {d pe pa la : Nat} {LT : Nat → sT} (h : REL mm f sz Sh M d pe pa la LT) (hf : f ≤ i) (hi : i + 6 ≤ L) (nx : ∀ z2 S2 M2 f2 d2 pe2 pa2 la2 LT2, f2 ≤ i + 6 → REL mm f2 z2 S2 M2 d2 pe2 pa2 la2 LT2 → jJ G X (460 + 2 * (i + 6)) (13000 + 163 * (i + 6)) z2 S2 M2 18 [(3, .int (nI (i + 6))), (0, .ref b), (1, .ref mm), (2, .ref (mm + 440))] []) : jJ G X (460 + 2 * (i)) (13000 + 163 * (i)) sz Sh M 634 [(3, .int (nI (i))), (0, .ref b), (1, .ref mm), (2, .ref (mm + 440))] [] := by
  have hL31 : L < 2 ^ 31 := by omega
  refine j_aload_n (q := 635) C dL_law_634 rfl rfl rfl ?_
  refine j_aload_n (q := 636) C dL_law_635 rfl rfl rfl ?_
  refine j_iload_n (q := 637) C dL_law_636 rfl rfl rfl ?_
  refine j_iconst (v := nI 1) (q := 638) C dL_law_637 rfl (by decide) ?_
  first | refine j_iaddN (q := 639) C dL_law_638 rfl ?_ | refine j_iadd (q := 639) C dL_law_638 rfl ?_
  refine j_sld (q := 640) hX hbl hL31 C dL_law_639 rfl (by omega) ?_
  refine j_aload_n (q := 641) C dL_law_640 rfl rfl rfl ?_
  refine j_iload_n (q := 642) C dL_law_641 rfl rfl rfl ?_
  refine j_iconst (v := nI 2) (q := 643) C dL_law_642 rfl (by decide) ?_
  first | refine j_iaddN (q := 644) C dL_law_643 rfl ?_ | refine j_iadd (q := 644) C dL_law_643 rfl ?_
  refine j_sld (q := 645) hX hbl hL31 C dL_law_644 rfl (by omega) ?_
  first | refine j_i2lN (q := 646) C dL_law_645 rfl (by omega) ?_ | refine j_i2l (q := 646) C dL_law_645 rfl rfl ?_
  refine j_bipush (v := nI 32) (q := 648) C dL_law_646 rfl (by decide) ?_
  refine j_lshl (q := 649) C dL_law_648 rfl rfl ?_
  refine j_aload_n (q := 650) C dL_law_649 rfl rfl rfl ?_
  refine j_iload_n (q := 651) C dL_law_650 rfl rfl rfl ?_
  refine j_iconst (v := nI 3) (q := 652) C dL_law_651 rfl (by decide) ?_
  first | refine j_iaddN (q := 653) C dL_law_652 rfl ?_ | refine j_iadd (q := 653) C dL_law_652 rfl ?_
  refine j_sld (q := 654) hX hbl hL31 C dL_law_653 rfl (by omega) ?_
  first | refine j_i2lN (q := 655) C dL_law_654 rfl (by omega) ?_ | refine j_i2l (q := 655) C dL_law_654 rfl rfl ?_
  refine j_ldc2 (q := 658) C dL_law_655 rfl kw_1266 ?_
  refine j_land (q := 659) C dL_law_658 rfl ?_
  refine j_lor (q := 660) C dL_law_659 rfl ?_
  obtain ⟨post1, hc1, hv1, hp1⟩ := pr_feed (G := G) h (n := vs (i + 1)) (b := (((vs (i + 2)).toInt64 <<< ((nI 32).toInt64 &&& 63)) ||| ((vs (i + 3)).toInt64 &&& 4294967295)))
  refine j_callV (q := 663) jc10 C dL_law_660 rfl h.1.1.1 mX10_feed kw_453 kw_454 kw_455 hc1 (As := [.int (vs (i + 1)), .long ((((vs (i + 2)).toInt64 <<< ((nI 32).toInt64 &&& 63)) ||| ((vs (i + 3)).toInt64 &&& 4294967295)))]) (rest := []) rfl rfl ⟨Nat.le_of_ble_eq_true rfl, Nat.le_of_ble_eq_true rfl⟩ (Nat.le_of_ble_eq_true rfl) ⟨by show 460 + 2 * i + 0 ≤ 600000; omega, by show 13000 + 163 * i + 0 ≤ 7302250; omega⟩ (fun r1 z S1 M1 h1 => ?_)
  obtain ⟨⟨v, rfl⟩, hs11⟩ := hv1 _ _ _ _ h1
  obtain ⟨post2, hc2, hp2⟩ := hp1 _ _ _ _ h1
  change jJ G X _ _ _ _ _ _ _ [.long v]
  refine j_aload_n (q := 664) C dL_law_663 rfl rfl rfl ?_
  refine j_aload_n (q := 665) C dL_law_664 rfl rfl rfl ?_
  refine j_iload_n (q := 666) C dL_law_665 rfl rfl rfl ?_
  refine j_iconst (v := nI 1) (q := 667) C dL_law_666 rfl (by decide) ?_
  first | refine j_iaddN (q := 668) C dL_law_667 rfl ?_ | refine j_iadd (q := 668) C dL_law_667 rfl ?_
  refine j_sld (q := 669) hX hbl hL31 C dL_law_668 rfl (by omega) ?_
  refine j_aload_n (q := 670) C dL_law_669 rfl rfl rfl ?_
  refine j_iload_n (q := 671) C dL_law_670 rfl rfl rfl ?_
  refine j_iconst (v := nI 2) (q := 672) C dL_law_671 rfl (by decide) ?_
  first | refine j_iaddN (q := 673) C dL_law_672 rfl ?_ | refine j_iadd (q := 673) C dL_law_672 rfl ?_
  refine j_sld (q := 674) hX hbl hL31 C dL_law_673 rfl (by omega) ?_
  first | refine j_i2lN (q := 675) C dL_law_674 rfl (by omega) ?_ | refine j_i2l (q := 675) C dL_law_674 rfl rfl ?_
  refine j_bipush (v := nI 32) (q := 677) C dL_law_675 rfl (by decide) ?_
  refine j_lshl (q := 678) C dL_law_677 rfl rfl ?_
  refine j_aload_n (q := 679) C dL_law_678 rfl rfl rfl ?_
  refine j_iload_n (q := 680) C dL_law_679 rfl rfl rfl ?_
  refine j_iconst (v := nI 3) (q := 681) C dL_law_680 rfl (by decide) ?_
  first | refine j_iaddN (q := 682) C dL_law_681 rfl ?_ | refine j_iadd (q := 682) C dL_law_681 rfl ?_
  refine j_sld (q := 683) hX hbl hL31 C dL_law_682 rfl (by omega) ?_
  first | refine j_i2lN (q := 684) C dL_law_683 rfl (by omega) ?_ | refine j_i2l (q := 684) C dL_law_683 rfl rfl ?_
  refine j_ldc2 (q := 687) C dL_law_684 rfl kw_1266 ?_
  refine j_land (q := 688) C dL_law_687 rfl ?_
  refine j_lor (q := 689) C dL_law_688 rfl ?_
  refine j_callV (q := 692) jc11 C dL_law_689 rfl hs11 mX11_feed kw_1014 kw_1015 kw_1016 hc2 (As := [.int (vs (i + 1)), .long ((((vs (i + 2)).toInt64 <<< ((nI 32).toInt64 &&& 63)) ||| ((vs (i + 3)).toInt64 &&& 4294967295)))]) (rest := [.long v]) rfl rfl ⟨Nat.le_of_ble_eq_true rfl, Nat.le_of_ble_eq_true rfl⟩ (Nat.le_of_ble_eq_true rfl) ⟨by show 460 + 2 * i + 0 + 0 ≤ 600000; omega, by show 13000 + 163 * i + 0 + 0 ≤ 7302250; omega⟩ (fun r2 z2 S2 M2 h2 => ?_)
  obtain ⟨rfl, rfl, v2, ev, rfl, -, f2, d2, pe2, pa2, la2, LT2, hf2, hR2⟩ := hp2 _ _ _ _ h2
  obtain rfl : v = v2 := by injection ev with ev; injection ev
  change jJ G X _ _ _ _ _ _ _ [.long v, .long v]
  refine j_lcmp_eq (q1 := 693) (q := 696) (tgt := 1446) C dL_law_692 dL_law_693 rfl rfl (by decide) (fun c_693 => ?_) (fun c_693 => absurd rfl c_693)
  refine j_iincN (lv' := [(3, .int (nI (i + 6))), (0, .ref b), (1, .ref mm), (2, .ref (mm + 440))]) (q := 1449) C dL_law_1446 rfl rfl (by decide) rfl ?_
  refine j_goto (tgt := 18) C dL_law_1449 (by decide) ?_
  exact j_fewer (lv' := [(3, .int (nI (i + 6))), (0, .ref b), (1, .ref mm), (2, .ref (mm + 440))]) (by simp) (j_widen (by show 460 + 2 * i + 0 + 0 ≤ 460 + 2 * (i + 6); omega) (by show 13000 + 163 * i + 0 + 0 ≤ 13000 + 163 * (i + 6); omega) (nx _ _ _ _ _ _ _ _ _ (by omega) hR2))
set_option maxRecDepth 100000 in
set_option maxHeartbeats 4000000 in
theorem cs_text {G : jG} {X : jX} {nmL : String} {b L : Nat} {vs : Nat → Int32} (hX : va_X b L vs (xs X) (xs X).heap) (hbl : b < gN G) (hL : L ≤ 3072) (C : jOk G X (lYr nmL) cL_law 4 room_1) {mm f sz i : Nat} {Sh : jS} {M : jM} {d pe pa la : Nat} {LT : Nat → sT} (h : REL mm f sz Sh M d pe pa la LT) (hf : f ≤ i) (hi : i + 6 ≤ L) (nx : ∀ z2 S2 M2 f2 d2 pe2 pa2 la2 LT2, f2 ≤ i + 6 → REL mm f2 z2 S2 M2 d2 pe2 pa2 la2 LT2 → jJ G X (460 + 2 * (i + 6)) (13000 + 163 * (i + 6)) z2 S2 M2 18 [(3, .int (nI (i + 6))), (0, .ref b), (1, .ref mm), (2, .ref (mm + 440))] []) : jJ G X (460 + 2 * (i)) (13000 + 163 * (i)) sz Sh M 698 [(3, .int (nI (i))), (0, .ref b), (1, .ref mm), (2, .ref (mm + 440))] [] := by
  have hL31 : L < 2 ^ 31 := by omega
  refine j_aload_n (q := 699) C dL_law_698 rfl rfl rfl ?_
  refine j_aload_n (q := 700) C dL_law_699 rfl rfl rfl ?_
  refine j_iload_n (q := 701) C dL_law_700 rfl rfl rfl ?_
  refine j_iconst (v := nI 1) (q := 702) C dL_law_701 rfl (by decide) ?_
  first | refine j_iaddN (q := 703) C dL_law_702 rfl ?_ | refine j_iadd (q := 703) C dL_law_702 rfl ?_
  refine j_sld (q := 704) hX hbl hL31 C dL_law_703 rfl (by omega) ?_
  obtain ⟨post1, hc1, hv1, hp1⟩ := pr_text (G := G) h (t := vs (i + 1))
  refine j_callV (q := 707) jc10 C dL_law_704 rfl h.1.1.1 mX10_text kw_462 kw_463 kw_464 hc1 (As := [.int (vs (i + 1))]) (rest := []) rfl rfl ⟨Nat.le_of_ble_eq_true rfl, Nat.le_of_ble_eq_true rfl⟩ (Nat.le_of_ble_eq_true rfl) ⟨by show 460 + 2 * i + 2 ≤ 600000; omega, by show 13000 + 163 * i + 163 ≤ 7302250; omega⟩ (fun r1 z S1 M1 h1 => ?_)
  obtain ⟨⟨v, rfl⟩, hs11⟩ := hv1 _ _ _ _ h1
  obtain ⟨post2, hc2, hp2⟩ := hp1 _ _ _ _ h1
  change jJ G X _ _ _ _ _ _ _ [.long v]
  refine j_aload_n (q := 708) C dL_law_707 rfl rfl rfl ?_
  refine j_aload_n (q := 709) C dL_law_708 rfl rfl rfl ?_
  refine j_iload_n (q := 710) C dL_law_709 rfl rfl rfl ?_
  refine j_iconst (v := nI 1) (q := 711) C dL_law_710 rfl (by decide) ?_
  first | refine j_iaddN (q := 712) C dL_law_711 rfl ?_ | refine j_iadd (q := 712) C dL_law_711 rfl ?_
  refine j_sld (q := 713) hX hbl hL31 C dL_law_712 rfl (by omega) ?_
  refine j_callV (q := 716) jc11 C dL_law_713 rfl hs11 mX11_text kw_1020 kw_1021 kw_1022 hc2 (As := [.int (vs (i + 1))]) (rest := [.long v]) rfl rfl ⟨Nat.le_of_ble_eq_true rfl, Nat.le_of_ble_eq_true rfl⟩ (Nat.le_of_ble_eq_true rfl) ⟨by show 460 + 2 * i + 2 + 0 ≤ 600000; omega, by show 13000 + 163 * i + 163 + 0 ≤ 7302250; omega⟩ (fun r2 z2 S2 M2 h2 => ?_)
  obtain ⟨rfl, rfl, v2, ev, rfl, -, f2, d2, pe2, pa2, la2, LT2, hf2, hR2⟩ := hp2 _ _ _ _ h2
  obtain rfl : v = v2 := by injection ev with ev; injection ev
  change jJ G X _ _ _ _ _ _ _ [.long v, .long v]
  refine j_lcmp_eq (q1 := 717) (q := 720) (tgt := 1446) C dL_law_716 dL_law_717 rfl rfl (by decide) (fun c_717 => ?_) (fun c_717 => absurd rfl c_717)
  refine j_iincN (lv' := [(3, .int (nI (i + 6))), (0, .ref b), (1, .ref mm), (2, .ref (mm + 440))]) (q := 1449) C dL_law_1446 rfl rfl (by decide) rfl ?_
  refine j_goto (tgt := 18) C dL_law_1449 (by decide) ?_
  exact j_fewer (lv' := [(3, .int (nI (i + 6))), (0, .ref b), (1, .ref mm), (2, .ref (mm + 440))]) (by simp) (j_widen (by show 460 + 2 * i + 2 + 0 ≤ 460 + 2 * (i + 6); omega) (by show 13000 + 163 * i + 163 + 0 ≤ 13000 + 163 * (i + 6); omega) (nx _ _ _ _ _ _ _ _ _ (by omega) hR2))
set_option maxRecDepth 100000 in
set_option maxHeartbeats 4000000 in
theorem cs_force {G : jG} {X : jX} {nmL : String} {b L : Nat} {vs : Nat → Int32} (hX : va_X b L vs (xs X) (xs X).heap) (hbl : b < gN G) (hL : L ≤ 3072) (C : jOk G X (lYr nmL) cL_law 4 room_1) {mm f sz i : Nat} {Sh : jS} {M : jM} {d pe pa la : Nat} {LT : Nat → sT} (h : REL mm f sz Sh M d pe pa la LT) (hf : f ≤ i) (hi : i + 6 ≤ L) (nx : ∀ z2 S2 M2 f2 d2 pe2 pa2 la2 LT2, f2 ≤ i + 6 → REL mm f2 z2 S2 M2 d2 pe2 pa2 la2 LT2 → jJ G X (460 + 2 * (i + 6)) (13000 + 163 * (i + 6)) z2 S2 M2 18 [(3, .int (nI (i + 6))), (0, .ref b), (1, .ref mm), (2, .ref (mm + 440))] []) : jJ G X (460 + 2 * (i)) (13000 + 163 * (i)) sz Sh M 722 [(3, .int (nI (i))), (0, .ref b), (1, .ref mm), (2, .ref (mm + 440))] [] := by
  have hL31 : L < 2 ^ 31 := by omega
  refine j_aload_n (q := 723) C dL_law_722 rfl rfl rfl ?_
  refine j_aload_n (q := 724) C dL_law_723 rfl rfl rfl ?_
  refine j_iload_n (q := 725) C dL_law_724 rfl rfl rfl ?_
  refine j_iconst (v := nI 1) (q := 726) C dL_law_725 rfl (by decide) ?_
  first | refine j_iaddN (q := 727) C dL_law_726 rfl ?_ | refine j_iadd (q := 727) C dL_law_726 rfl ?_
  refine j_sld (q := 728) hX hbl hL31 C dL_law_727 rfl (by omega) ?_
  refine j_aload_n (q := 729) C dL_law_728 rfl rfl rfl ?_
  refine j_iload_n (q := 730) C dL_law_729 rfl rfl rfl ?_
  refine j_iconst (v := nI 2) (q := 731) C dL_law_730 rfl (by decide) ?_
  first | refine j_iaddN (q := 732) C dL_law_731 rfl ?_ | refine j_iadd (q := 732) C dL_law_731 rfl ?_
  refine j_sld (q := 733) hX hbl hL31 C dL_law_732 rfl (by omega) ?_
  refine j_aload_n (q := 734) C dL_law_733 rfl rfl rfl ?_
  refine j_iload_n (q := 735) C dL_law_734 rfl rfl rfl ?_
  refine j_iconst (v := nI 3) (q := 736) C dL_law_735 rfl (by decide) ?_
  first | refine j_iaddN (q := 737) C dL_law_736 rfl ?_ | refine j_iadd (q := 737) C dL_law_736 rfl ?_
  refine j_sld (q := 738) hX hbl hL31 C dL_law_737 rfl (by omega) ?_
  obtain ⟨post1, hc1, hv1, hp1⟩ := pr_force (G := G) h (t := vs (i + 1)) (c := vs (i + 2)) (e := vs (i + 3))
  refine j_callV (q := 741) jc10 C dL_law_738 rfl h.1.1.1 mX10_force kw_587 kw_588 kw_589 hc1 (As := [.int (vs (i + 1)), .int (vs (i + 2)), .int (vs (i + 3))]) (rest := []) rfl rfl ⟨Nat.le_of_ble_eq_true rfl, Nat.le_of_ble_eq_true rfl⟩ (Nat.le_of_ble_eq_true rfl) ⟨by show 460 + 2 * i + 0 ≤ 600000; omega, by show 13000 + 163 * i + 0 ≤ 7302250; omega⟩ (fun r1 z S1 M1 h1 => ?_)
  obtain ⟨⟨v, rfl⟩, hs11⟩ := hv1 _ _ _ _ h1
  obtain ⟨post2, hc2, hp2⟩ := hp1 _ _ _ _ h1
  change jJ G X _ _ _ _ _ _ _ [.long v]
  refine j_aload_n (q := 742) C dL_law_741 rfl rfl rfl ?_
  refine j_aload_n (q := 743) C dL_law_742 rfl rfl rfl ?_
  refine j_iload_n (q := 744) C dL_law_743 rfl rfl rfl ?_
  refine j_iconst (v := nI 1) (q := 745) C dL_law_744 rfl (by decide) ?_
  first | refine j_iaddN (q := 746) C dL_law_745 rfl ?_ | refine j_iadd (q := 746) C dL_law_745 rfl ?_
  refine j_sld (q := 747) hX hbl hL31 C dL_law_746 rfl (by omega) ?_
  refine j_aload_n (q := 748) C dL_law_747 rfl rfl rfl ?_
  refine j_iload_n (q := 749) C dL_law_748 rfl rfl rfl ?_
  refine j_iconst (v := nI 2) (q := 750) C dL_law_749 rfl (by decide) ?_
  first | refine j_iaddN (q := 751) C dL_law_750 rfl ?_ | refine j_iadd (q := 751) C dL_law_750 rfl ?_
  refine j_sld (q := 752) hX hbl hL31 C dL_law_751 rfl (by omega) ?_
  refine j_aload_n (q := 753) C dL_law_752 rfl rfl rfl ?_
  refine j_iload_n (q := 754) C dL_law_753 rfl rfl rfl ?_
  refine j_iconst (v := nI 3) (q := 755) C dL_law_754 rfl (by decide) ?_
  first | refine j_iaddN (q := 756) C dL_law_755 rfl ?_ | refine j_iadd (q := 756) C dL_law_755 rfl ?_
  refine j_sld (q := 757) hX hbl hL31 C dL_law_756 rfl (by omega) ?_
  refine j_callV (q := 760) jc11 C dL_law_757 rfl hs11 mX11_force kw_1130 kw_1131 kw_1132 hc2 (As := [.int (vs (i + 1)), .int (vs (i + 2)), .int (vs (i + 3))]) (rest := [.long v]) rfl rfl ⟨Nat.le_of_ble_eq_true rfl, Nat.le_of_ble_eq_true rfl⟩ (Nat.le_of_ble_eq_true rfl) ⟨by show 460 + 2 * i + 0 + 0 ≤ 600000; omega, by show 13000 + 163 * i + 0 + 0 ≤ 7302250; omega⟩ (fun r2 z2 S2 M2 h2 => ?_)
  obtain ⟨rfl, rfl, v2, ev, rfl, -, f2, d2, pe2, pa2, la2, LT2, hf2, hR2⟩ := hp2 _ _ _ _ h2
  obtain rfl : v = v2 := by injection ev with ev; injection ev
  change jJ G X _ _ _ _ _ _ _ [.long v, .long v]
  refine j_lcmp_eq (q1 := 761) (q := 764) (tgt := 1446) C dL_law_760 dL_law_761 rfl rfl (by decide) (fun c_761 => ?_) (fun c_761 => absurd rfl c_761)
  refine j_iincN (lv' := [(3, .int (nI (i + 6))), (0, .ref b), (1, .ref mm), (2, .ref (mm + 440))]) (q := 1449) C dL_law_1446 rfl rfl (by decide) rfl ?_
  refine j_goto (tgt := 18) C dL_law_1449 (by decide) ?_
  exact j_fewer (lv' := [(3, .int (nI (i + 6))), (0, .ref b), (1, .ref mm), (2, .ref (mm + 440))]) (by simp) (j_widen (by show 460 + 2 * i + 0 + 0 ≤ 460 + 2 * (i + 6); omega) (by show 13000 + 163 * i + 0 + 0 ≤ 13000 + 163 * (i + 6); omega) (nx _ _ _ _ _ _ _ _ _ (by omega) hR2))
set_option maxRecDepth 100000 in
set_option maxHeartbeats 4000000 in
theorem cs_law {G : jG} {X : jX} {nmL : String} {b L : Nat} {vs : Nat → Int32} (hX : va_X b L vs (xs X) (xs X).heap) (hbl : b < gN G) (hL : L ≤ 3072) (C : jOk G X (lYr nmL) cL_law 4 room_1) {mm f sz i : Nat} {Sh : jS} {M : jM} {d pe pa la : Nat} {LT : Nat → sT} (h : REL mm f sz Sh M d pe pa la LT) (hf : f ≤ i) (hi : i + 6 ≤ L) (nx : ∀ z2 S2 M2 f2 d2 pe2 pa2 la2 LT2, f2 ≤ i + 6 → REL mm f2 z2 S2 M2 d2 pe2 pa2 la2 LT2 → jJ G X (460 + 2 * (i + 6)) (13000 + 163 * (i + 6)) z2 S2 M2 18 [(3, .int (nI (i + 6))), (0, .ref b), (1, .ref mm), (2, .ref (mm + 440))] []) : jJ G X (460 + 2 * (i)) (13000 + 163 * (i)) sz Sh M 766 [(3, .int (nI (i))), (0, .ref b), (1, .ref mm), (2, .ref (mm + 440))] [] := by
  have hL31 : L < 2 ^ 31 := by omega
  refine j_aload_n (q := 767) C dL_law_766 rfl rfl rfl ?_
  refine j_aload_n (q := 768) C dL_law_767 rfl rfl rfl ?_
  refine j_iload_n (q := 769) C dL_law_768 rfl rfl rfl ?_
  refine j_iconst (v := nI 1) (q := 770) C dL_law_769 rfl (by decide) ?_
  first | refine j_iaddN (q := 771) C dL_law_770 rfl ?_ | refine j_iadd (q := 771) C dL_law_770 rfl ?_
  refine j_sld (q := 772) hX hbl hL31 C dL_law_771 rfl (by omega) ?_
  refine j_aload_n (q := 773) C dL_law_772 rfl rfl rfl ?_
  refine j_iload_n (q := 774) C dL_law_773 rfl rfl rfl ?_
  refine j_iconst (v := nI 2) (q := 775) C dL_law_774 rfl (by decide) ?_
  first | refine j_iaddN (q := 776) C dL_law_775 rfl ?_ | refine j_iadd (q := 776) C dL_law_775 rfl ?_
  refine j_sld (q := 777) hX hbl hL31 C dL_law_776 rfl (by omega) ?_
  obtain ⟨post1, hc1, hv1, hp1⟩ := pr_law (G := G) h (c := vs (i + 1)) (e := vs (i + 2))
  refine j_callV (q := 780) jc10 C dL_law_777 rfl h.1.1.1 mX10_law kw_595 kw_596 kw_597 hc1 (As := [.int (vs (i + 1)), .int (vs (i + 2))]) (rest := []) rfl rfl ⟨Nat.le_of_ble_eq_true rfl, Nat.le_of_ble_eq_true rfl⟩ (Nat.le_of_ble_eq_true rfl) ⟨by show 460 + 2 * i + 0 ≤ 600000; omega, by show 13000 + 163 * i + 0 ≤ 7302250; omega⟩ (fun r1 z S1 M1 h1 => ?_)
  obtain ⟨⟨v, rfl⟩, hs11⟩ := hv1 _ _ _ _ h1
  obtain ⟨post2, hc2, hp2⟩ := hp1 _ _ _ _ h1
  change jJ G X _ _ _ _ _ _ _ [.long v]
  refine j_aload_n (q := 781) C dL_law_780 rfl rfl rfl ?_
  refine j_aload_n (q := 782) C dL_law_781 rfl rfl rfl ?_
  refine j_iload_n (q := 783) C dL_law_782 rfl rfl rfl ?_
  refine j_iconst (v := nI 1) (q := 784) C dL_law_783 rfl (by decide) ?_
  first | refine j_iaddN (q := 785) C dL_law_784 rfl ?_ | refine j_iadd (q := 785) C dL_law_784 rfl ?_
  refine j_sld (q := 786) hX hbl hL31 C dL_law_785 rfl (by omega) ?_
  refine j_aload_n (q := 787) C dL_law_786 rfl rfl rfl ?_
  refine j_iload_n (q := 788) C dL_law_787 rfl rfl rfl ?_
  refine j_iconst (v := nI 2) (q := 789) C dL_law_788 rfl (by decide) ?_
  first | refine j_iaddN (q := 790) C dL_law_789 rfl ?_ | refine j_iadd (q := 790) C dL_law_789 rfl ?_
  refine j_sld (q := 791) hX hbl hL31 C dL_law_790 rfl (by omega) ?_
  refine j_callV (q := 794) jc11 C dL_law_791 rfl hs11 mX11_law kw_1134 kw_1135 kw_1136 hc2 (As := [.int (vs (i + 1)), .int (vs (i + 2))]) (rest := [.long v]) rfl rfl ⟨Nat.le_of_ble_eq_true rfl, Nat.le_of_ble_eq_true rfl⟩ (Nat.le_of_ble_eq_true rfl) ⟨by show 460 + 2 * i + 0 + 0 ≤ 600000; omega, by show 13000 + 163 * i + 0 + 0 ≤ 7302250; omega⟩ (fun r2 z2 S2 M2 h2 => ?_)
  obtain ⟨rfl, rfl, v2, ev, rfl, -, f2, d2, pe2, pa2, la2, LT2, hf2, hR2⟩ := hp2 _ _ _ _ h2
  obtain rfl : v = v2 := by injection ev with ev; injection ev
  change jJ G X _ _ _ _ _ _ _ [.long v, .long v]
  refine j_lcmp_eq (q1 := 795) (q := 798) (tgt := 1446) C dL_law_794 dL_law_795 rfl rfl (by decide) (fun c_795 => ?_) (fun c_795 => absurd rfl c_795)
  refine j_iincN (lv' := [(3, .int (nI (i + 6))), (0, .ref b), (1, .ref mm), (2, .ref (mm + 440))]) (q := 1449) C dL_law_1446 rfl rfl (by decide) rfl ?_
  refine j_goto (tgt := 18) C dL_law_1449 (by decide) ?_
  exact j_fewer (lv' := [(3, .int (nI (i + 6))), (0, .ref b), (1, .ref mm), (2, .ref (mm + 440))]) (by simp) (j_widen (by show 460 + 2 * i + 0 + 0 ≤ 460 + 2 * (i + 6); omega) (by show 13000 + 163 * i + 0 + 0 ≤ 13000 + 163 * (i + 6); omega) (nx _ _ _ _ _ _ _ _ _ (by omega) hR2))
set_option maxRecDepth 100000 in
set_option maxHeartbeats 4000000 in
theorem cs_unlike {G : jG} {X : jX} {nmL : String} {b L : Nat} {vs : Nat → Int32} (hX : va_X b L vs (xs X) (xs X).heap) (hbl : b < gN G) (hL : L ≤ 3072) (C : jOk G X (lYr nmL) cL_law 4 room_1) {mm f sz i : Nat} {Sh : jS} {M : jM} {d pe pa la : Nat} {LT : Nat → sT} (h : REL mm f sz Sh M d pe pa la LT) (hf : f ≤ i) (hi : i + 6 ≤ L) (nx : ∀ z2 S2 M2 f2 d2 pe2 pa2 la2 LT2, f2 ≤ i + 6 → REL mm f2 z2 S2 M2 d2 pe2 pa2 la2 LT2 → jJ G X (460 + 2 * (i + 6)) (13000 + 163 * (i + 6)) z2 S2 M2 18 [(3, .int (nI (i + 6))), (0, .ref b), (1, .ref mm), (2, .ref (mm + 440))] []) : jJ G X (460 + 2 * (i)) (13000 + 163 * (i)) sz Sh M 800 [(3, .int (nI (i))), (0, .ref b), (1, .ref mm), (2, .ref (mm + 440))] [] := by
  have hL31 : L < 2 ^ 31 := by omega
  refine j_aload_n (q := 801) C dL_law_800 rfl rfl rfl ?_
  obtain ⟨post1, hc1, hv1, hp1⟩ := pr_unlike (G := G) h 
  refine j_callV (q := 804) jc10 C dL_law_801 rfl h.1.1.1 mX10_unlike kw_600 kw_601 kw_602 hc1 (As := []) (rest := []) rfl rfl ⟨Nat.le_of_ble_eq_true rfl, Nat.le_of_ble_eq_true rfl⟩ (Nat.le_of_ble_eq_true rfl) ⟨by show 460 + 2 * i + 0 ≤ 600000; omega, by show 13000 + 163 * i + 0 ≤ 7302250; omega⟩ (fun r1 z S1 M1 h1 => ?_)
  obtain ⟨⟨v, rfl⟩, hs11⟩ := hv1 _ _ _ _ h1
  obtain ⟨post2, hc2, hp2⟩ := hp1 _ _ _ _ h1
  change jJ G X _ _ _ _ _ _ _ [.long v]
  refine j_aload_n (q := 805) C dL_law_804 rfl rfl rfl ?_
  refine j_callV (q := 808) jc11 C dL_law_805 rfl hs11 mX11_unlike kw_1138 kw_1139 kw_1140 hc2 (As := []) (rest := [.long v]) rfl rfl ⟨Nat.le_of_ble_eq_true rfl, Nat.le_of_ble_eq_true rfl⟩ (Nat.le_of_ble_eq_true rfl) ⟨by show 460 + 2 * i + 0 + 0 ≤ 600000; omega, by show 13000 + 163 * i + 0 + 0 ≤ 7302250; omega⟩ (fun r2 z2 S2 M2 h2 => ?_)
  obtain ⟨rfl, rfl, v2, ev, rfl, -, f2, d2, pe2, pa2, la2, LT2, hf2, hR2⟩ := hp2 _ _ _ _ h2
  obtain rfl : v = v2 := by injection ev with ev; injection ev
  change jJ G X _ _ _ _ _ _ _ [.long v, .long v]
  refine j_lcmp_eq (q1 := 809) (q := 812) (tgt := 1446) C dL_law_808 dL_law_809 rfl rfl (by decide) (fun c_809 => ?_) (fun c_809 => absurd rfl c_809)
  refine j_iincN (lv' := [(3, .int (nI (i + 6))), (0, .ref b), (1, .ref mm), (2, .ref (mm + 440))]) (q := 1449) C dL_law_1446 rfl rfl (by decide) rfl ?_
  refine j_goto (tgt := 18) C dL_law_1449 (by decide) ?_
  exact j_fewer (lv' := [(3, .int (nI (i + 6))), (0, .ref b), (1, .ref mm), (2, .ref (mm + 440))]) (by simp) (j_widen (by show 460 + 2 * i + 0 + 0 ≤ 460 + 2 * (i + 6); omega) (by show 13000 + 163 * i + 0 + 0 ≤ 13000 + 163 * (i + 6); omega) (nx _ _ _ _ _ _ _ _ _ (by omega) hR2))
set_option maxRecDepth 100000 in
set_option maxHeartbeats 4000000 in
theorem cs_days {G : jG} {X : jX} {nmL : String} {b L : Nat} {vs : Nat → Int32} (hX : va_X b L vs (xs X) (xs X).heap) (hbl : b < gN G) (hL : L ≤ 3072) (C : jOk G X (lYr nmL) cL_law 4 room_1) {mm f sz i : Nat} {Sh : jS} {M : jM} {d pe pa la : Nat} {LT : Nat → sT} (h : REL mm f sz Sh M d pe pa la LT) (hf : f ≤ i) (hi : i + 6 ≤ L) (nx : ∀ z2 S2 M2 f2 d2 pe2 pa2 la2 LT2, f2 ≤ i + 6 → REL mm f2 z2 S2 M2 d2 pe2 pa2 la2 LT2 → jJ G X (460 + 2 * (i + 6)) (13000 + 163 * (i + 6)) z2 S2 M2 18 [(3, .int (nI (i + 6))), (0, .ref b), (1, .ref mm), (2, .ref (mm + 440))] []) : jJ G X (460 + 2 * (i)) (13000 + 163 * (i)) sz Sh M 814 [(3, .int (nI (i))), (0, .ref b), (1, .ref mm), (2, .ref (mm + 440))] [] := by
  have hL31 : L < 2 ^ 31 := by omega
  refine j_aload_n (q := 815) C dL_law_814 rfl rfl rfl ?_
  refine j_aload_n (q := 816) C dL_law_815 rfl rfl rfl ?_
  refine j_iload_n (q := 817) C dL_law_816 rfl rfl rfl ?_
  refine j_iconst (v := nI 1) (q := 818) C dL_law_817 rfl (by decide) ?_
  first | refine j_iaddN (q := 819) C dL_law_818 rfl ?_ | refine j_iadd (q := 819) C dL_law_818 rfl ?_
  refine j_sld (q := 820) hX hbl hL31 C dL_law_819 rfl (by omega) ?_
  obtain ⟨post1, hc1, hv1, hp1⟩ := pr_days (G := G) h (n := vs (i + 1))
  refine j_callV (q := 823) jc10 C dL_law_820 rfl h.1.1.1 mX10_days kw_604 kw_605 kw_606 hc1 (As := [.int (vs (i + 1))]) (rest := []) rfl rfl ⟨Nat.le_of_ble_eq_true rfl, Nat.le_of_ble_eq_true rfl⟩ (Nat.le_of_ble_eq_true rfl) ⟨by show 460 + 2 * i + 0 ≤ 600000; omega, by show 13000 + 163 * i + 0 ≤ 7302250; omega⟩ (fun r1 z S1 M1 h1 => ?_)
  obtain ⟨⟨v, rfl⟩, hs11⟩ := hv1 _ _ _ _ h1
  obtain ⟨post2, hc2, hp2⟩ := hp1 _ _ _ _ h1
  change jJ G X _ _ _ _ _ _ _ [.long v]
  refine j_aload_n (q := 824) C dL_law_823 rfl rfl rfl ?_
  refine j_aload_n (q := 825) C dL_law_824 rfl rfl rfl ?_
  refine j_iload_n (q := 826) C dL_law_825 rfl rfl rfl ?_
  refine j_iconst (v := nI 1) (q := 827) C dL_law_826 rfl (by decide) ?_
  first | refine j_iaddN (q := 828) C dL_law_827 rfl ?_ | refine j_iadd (q := 828) C dL_law_827 rfl ?_
  refine j_sld (q := 829) hX hbl hL31 C dL_law_828 rfl (by omega) ?_
  refine j_callV (q := 832) jc11 C dL_law_829 rfl hs11 mX11_days kw_1142 kw_1143 kw_1144 hc2 (As := [.int (vs (i + 1))]) (rest := [.long v]) rfl rfl ⟨Nat.le_of_ble_eq_true rfl, Nat.le_of_ble_eq_true rfl⟩ (Nat.le_of_ble_eq_true rfl) ⟨by show 460 + 2 * i + 0 + 0 ≤ 600000; omega, by show 13000 + 163 * i + 0 + 0 ≤ 7302250; omega⟩ (fun r2 z2 S2 M2 h2 => ?_)
  obtain ⟨rfl, rfl, v2, ev, rfl, -, f2, d2, pe2, pa2, la2, LT2, hf2, hR2⟩ := hp2 _ _ _ _ h2
  obtain rfl : v = v2 := by injection ev with ev; injection ev
  change jJ G X _ _ _ _ _ _ _ [.long v, .long v]
  refine j_lcmp_eq (q1 := 833) (q := 836) (tgt := 1446) C dL_law_832 dL_law_833 rfl rfl (by decide) (fun c_833 => ?_) (fun c_833 => absurd rfl c_833)
  refine j_iincN (lv' := [(3, .int (nI (i + 6))), (0, .ref b), (1, .ref mm), (2, .ref (mm + 440))]) (q := 1449) C dL_law_1446 rfl rfl (by decide) rfl ?_
  refine j_goto (tgt := 18) C dL_law_1449 (by decide) ?_
  exact j_fewer (lv' := [(3, .int (nI (i + 6))), (0, .ref b), (1, .ref mm), (2, .ref (mm + 440))]) (by simp) (j_widen (by show 460 + 2 * i + 0 + 0 ≤ 460 + 2 * (i + 6); omega) (by show 13000 + 163 * i + 0 + 0 ≤ 13000 + 163 * (i + 6); omega) (nx _ _ _ _ _ _ _ _ _ (by omega) hR2))
set_option maxRecDepth 100000 in
set_option maxHeartbeats 4000000 in
theorem cs_price {G : jG} {X : jX} {nmL : String} {b L : Nat} {vs : Nat → Int32} (hX : va_X b L vs (xs X) (xs X).heap) (hbl : b < gN G) (hL : L ≤ 3072) (C : jOk G X (lYr nmL) cL_law 4 room_1) {mm f sz i : Nat} {Sh : jS} {M : jM} {d pe pa la : Nat} {LT : Nat → sT} (h : REL mm f sz Sh M d pe pa la LT) (hf : f ≤ i) (hi : i + 6 ≤ L) (nx : ∀ z2 S2 M2 f2 d2 pe2 pa2 la2 LT2, f2 ≤ i + 6 → REL mm f2 z2 S2 M2 d2 pe2 pa2 la2 LT2 → jJ G X (460 + 2 * (i + 6)) (13000 + 163 * (i + 6)) z2 S2 M2 18 [(3, .int (nI (i + 6))), (0, .ref b), (1, .ref mm), (2, .ref (mm + 440))] []) : jJ G X (460 + 2 * (i)) (13000 + 163 * (i)) sz Sh M 838 [(3, .int (nI (i))), (0, .ref b), (1, .ref mm), (2, .ref (mm + 440))] [] := by
  have hL31 : L < 2 ^ 31 := by omega
  refine j_aload_n (q := 839) C dL_law_838 rfl rfl rfl ?_
  refine j_aload_n (q := 840) C dL_law_839 rfl rfl rfl ?_
  refine j_iload_n (q := 841) C dL_law_840 rfl rfl rfl ?_
  refine j_iconst (v := nI 1) (q := 842) C dL_law_841 rfl (by decide) ?_
  first | refine j_iaddN (q := 843) C dL_law_842 rfl ?_ | refine j_iadd (q := 843) C dL_law_842 rfl ?_
  refine j_sld (q := 844) hX hbl hL31 C dL_law_843 rfl (by omega) ?_
  obtain ⟨post1, hc1, hv1, hp1⟩ := pr_price (G := G) h (x := vs (i + 1))
  refine j_callV (q := 847) jc10 C dL_law_844 rfl h.1.1.1 mX10_price kw_669 kw_670 kw_671 hc1 (As := [.int (vs (i + 1))]) (rest := []) rfl rfl ⟨Nat.le_of_ble_eq_true rfl, Nat.le_of_ble_eq_true rfl⟩ (Nat.le_of_ble_eq_true rfl) ⟨by show 460 + 2 * i + 0 ≤ 600000; omega, by show 13000 + 163 * i + 0 ≤ 7302250; omega⟩ (fun r1 z S1 M1 h1 => ?_)
  obtain ⟨⟨v, rfl⟩, hs11⟩ := hv1 _ _ _ _ h1
  obtain ⟨post2, hc2, hp2⟩ := hp1 _ _ _ _ h1
  change jJ G X _ _ _ _ _ _ _ [.long v]
  refine j_aload_n (q := 848) C dL_law_847 rfl rfl rfl ?_
  refine j_aload_n (q := 849) C dL_law_848 rfl rfl rfl ?_
  refine j_iload_n (q := 850) C dL_law_849 rfl rfl rfl ?_
  refine j_iconst (v := nI 1) (q := 851) C dL_law_850 rfl (by decide) ?_
  first | refine j_iaddN (q := 852) C dL_law_851 rfl ?_ | refine j_iadd (q := 852) C dL_law_851 rfl ?_
  refine j_sld (q := 853) hX hbl hL31 C dL_law_852 rfl (by omega) ?_
  refine j_callV (q := 856) jc11 C dL_law_853 rfl hs11 mX11_price kw_1169 kw_1170 kw_1171 hc2 (As := [.int (vs (i + 1))]) (rest := [.long v]) rfl rfl ⟨Nat.le_of_ble_eq_true rfl, Nat.le_of_ble_eq_true rfl⟩ (Nat.le_of_ble_eq_true rfl) ⟨by show 460 + 2 * i + 0 + 0 ≤ 600000; omega, by show 13000 + 163 * i + 0 + 0 ≤ 7302250; omega⟩ (fun r2 z2 S2 M2 h2 => ?_)
  obtain ⟨rfl, rfl, v2, ev, rfl, -, f2, d2, pe2, pa2, la2, LT2, hf2, hR2⟩ := hp2 _ _ _ _ h2
  obtain rfl : v = v2 := by injection ev with ev; injection ev
  change jJ G X _ _ _ _ _ _ _ [.long v, .long v]
  refine j_lcmp_eq (q1 := 857) (q := 860) (tgt := 1446) C dL_law_856 dL_law_857 rfl rfl (by decide) (fun c_857 => ?_) (fun c_857 => absurd rfl c_857)
  refine j_iincN (lv' := [(3, .int (nI (i + 6))), (0, .ref b), (1, .ref mm), (2, .ref (mm + 440))]) (q := 1449) C dL_law_1446 rfl rfl (by decide) rfl ?_
  refine j_goto (tgt := 18) C dL_law_1449 (by decide) ?_
  exact j_fewer (lv' := [(3, .int (nI (i + 6))), (0, .ref b), (1, .ref mm), (2, .ref (mm + 440))]) (by simp) (j_widen (by show 460 + 2 * i + 0 + 0 ≤ 460 + 2 * (i + 6); omega) (by show 13000 + 163 * i + 0 + 0 ≤ 13000 + 163 * (i + 6); omega) (nx _ _ _ _ _ _ _ _ _ (by omega) hR2))
set_option maxRecDepth 100000 in
set_option maxHeartbeats 4000000 in
theorem cs_index {G : jG} {X : jX} {nmL : String} {b L : Nat} {vs : Nat → Int32} (hX : va_X b L vs (xs X) (xs X).heap) (hbl : b < gN G) (hL : L ≤ 3072) (C : jOk G X (lYr nmL) cL_law 4 room_1) {mm f sz i : Nat} {Sh : jS} {M : jM} {d pe pa la : Nat} {LT : Nat → sT} (h : REL mm f sz Sh M d pe pa la LT) (hf : f ≤ i) (hi : i + 6 ≤ L) (nx : ∀ z2 S2 M2 f2 d2 pe2 pa2 la2 LT2, f2 ≤ i + 6 → REL mm f2 z2 S2 M2 d2 pe2 pa2 la2 LT2 → jJ G X (460 + 2 * (i + 6)) (13000 + 163 * (i + 6)) z2 S2 M2 18 [(3, .int (nI (i + 6))), (0, .ref b), (1, .ref mm), (2, .ref (mm + 440))] []) : jJ G X (460 + 2 * (i)) (13000 + 163 * (i)) sz Sh M 862 [(3, .int (nI (i))), (0, .ref b), (1, .ref mm), (2, .ref (mm + 440))] [] := by
  have hL31 : L < 2 ^ 31 := by omega
  refine j_aload_n (q := 863) C dL_law_862 rfl rfl rfl ?_
  refine j_aload_n (q := 864) C dL_law_863 rfl rfl rfl ?_
  refine j_iload_n (q := 865) C dL_law_864 rfl rfl rfl ?_
  refine j_iconst (v := nI 1) (q := 866) C dL_law_865 rfl (by decide) ?_
  first | refine j_iaddN (q := 867) C dL_law_866 rfl ?_ | refine j_iadd (q := 867) C dL_law_866 rfl ?_
  refine j_sld (q := 868) hX hbl hL31 C dL_law_867 rfl (by omega) ?_
  refine j_aload_n (q := 869) C dL_law_868 rfl rfl rfl ?_
  refine j_iload_n (q := 870) C dL_law_869 rfl rfl rfl ?_
  refine j_iconst (v := nI 2) (q := 871) C dL_law_870 rfl (by decide) ?_
  first | refine j_iaddN (q := 872) C dL_law_871 rfl ?_ | refine j_iadd (q := 872) C dL_law_871 rfl ?_
  refine j_sld (q := 873) hX hbl hL31 C dL_law_872 rfl (by omega) ?_
  obtain ⟨post1, hc1, hv1, hp1⟩ := pr_index (G := G) h (x := vs (i + 1)) (z := vs (i + 2))
  refine j_callV (q := 876) jc10 C dL_law_873 rfl h.1.1.1 mX10_index kw_673 kw_674 kw_675 hc1 (As := [.int (vs (i + 1)), .int (vs (i + 2))]) (rest := []) rfl rfl ⟨Nat.le_of_ble_eq_true rfl, Nat.le_of_ble_eq_true rfl⟩ (Nat.le_of_ble_eq_true rfl) ⟨by show 460 + 2 * i + 0 ≤ 600000; omega, by show 13000 + 163 * i + 0 ≤ 7302250; omega⟩ (fun r1 z S1 M1 h1 => ?_)
  obtain ⟨⟨v, rfl⟩, hs11⟩ := hv1 _ _ _ _ h1
  obtain ⟨post2, hc2, hp2⟩ := hp1 _ _ _ _ h1
  change jJ G X _ _ _ _ _ _ _ [.long v]
  refine j_aload_n (q := 877) C dL_law_876 rfl rfl rfl ?_
  refine j_aload_n (q := 878) C dL_law_877 rfl rfl rfl ?_
  refine j_iload_n (q := 879) C dL_law_878 rfl rfl rfl ?_
  refine j_iconst (v := nI 1) (q := 880) C dL_law_879 rfl (by decide) ?_
  first | refine j_iaddN (q := 881) C dL_law_880 rfl ?_ | refine j_iadd (q := 881) C dL_law_880 rfl ?_
  refine j_sld (q := 882) hX hbl hL31 C dL_law_881 rfl (by omega) ?_
  refine j_aload_n (q := 883) C dL_law_882 rfl rfl rfl ?_
  refine j_iload_n (q := 884) C dL_law_883 rfl rfl rfl ?_
  refine j_iconst (v := nI 2) (q := 885) C dL_law_884 rfl (by decide) ?_
  first | refine j_iaddN (q := 886) C dL_law_885 rfl ?_ | refine j_iadd (q := 886) C dL_law_885 rfl ?_
  refine j_sld (q := 887) hX hbl hL31 C dL_law_886 rfl (by omega) ?_
  refine j_callV (q := 890) jc11 C dL_law_887 rfl hs11 mX11_index kw_1176 kw_1177 kw_1178 hc2 (As := [.int (vs (i + 1)), .int (vs (i + 2))]) (rest := [.long v]) rfl rfl ⟨Nat.le_of_ble_eq_true rfl, Nat.le_of_ble_eq_true rfl⟩ (Nat.le_of_ble_eq_true rfl) ⟨by show 460 + 2 * i + 0 + 0 ≤ 600000; omega, by show 13000 + 163 * i + 0 + 0 ≤ 7302250; omega⟩ (fun r2 z2 S2 M2 h2 => ?_)
  obtain ⟨rfl, rfl, v2, ev, rfl, -, f2, d2, pe2, pa2, la2, LT2, hf2, hR2⟩ := hp2 _ _ _ _ h2
  obtain rfl : v = v2 := by injection ev with ev; injection ev
  change jJ G X _ _ _ _ _ _ _ [.long v, .long v]
  refine j_lcmp_eq (q1 := 891) (q := 894) (tgt := 1446) C dL_law_890 dL_law_891 rfl rfl (by decide) (fun c_891 => ?_) (fun c_891 => absurd rfl c_891)
  refine j_iincN (lv' := [(3, .int (nI (i + 6))), (0, .ref b), (1, .ref mm), (2, .ref (mm + 440))]) (q := 1449) C dL_law_1446 rfl rfl (by decide) rfl ?_
  refine j_goto (tgt := 18) C dL_law_1449 (by decide) ?_
  exact j_fewer (lv' := [(3, .int (nI (i + 6))), (0, .ref b), (1, .ref mm), (2, .ref (mm + 440))]) (by simp) (j_widen (by show 460 + 2 * i + 0 + 0 ≤ 460 + 2 * (i + 6); omega) (by show 13000 + 163 * i + 0 + 0 ≤ 13000 + 163 * (i + 6); omega) (nx _ _ _ _ _ _ _ _ _ (by omega) hR2))
set_option maxRecDepth 100000 in
set_option maxHeartbeats 4000000 in
theorem cs_press {G : jG} {X : jX} {nmL : String} {b L : Nat} {vs : Nat → Int32} (hX : va_X b L vs (xs X) (xs X).heap) (hbl : b < gN G) (hL : L ≤ 3072) (C : jOk G X (lYr nmL) cL_law 4 room_1) {mm f sz i : Nat} {Sh : jS} {M : jM} {d pe pa la : Nat} {LT : Nat → sT} (h : REL mm f sz Sh M d pe pa la LT) (hf : f ≤ i) (hi : i + 6 ≤ L) (nx : ∀ z2 S2 M2 f2 d2 pe2 pa2 la2 LT2, f2 ≤ i + 6 → REL mm f2 z2 S2 M2 d2 pe2 pa2 la2 LT2 → jJ G X (460 + 2 * (i + 6)) (13000 + 163 * (i + 6)) z2 S2 M2 18 [(3, .int (nI (i + 6))), (0, .ref b), (1, .ref mm), (2, .ref (mm + 440))] []) : jJ G X (460 + 2 * (i)) (13000 + 163 * (i)) sz Sh M 896 [(3, .int (nI (i))), (0, .ref b), (1, .ref mm), (2, .ref (mm + 440))] [] := by
  have hL31 : L < 2 ^ 31 := by omega
  refine j_aload_n (q := 897) C dL_law_896 rfl rfl rfl ?_
  refine j_aload_n (q := 898) C dL_law_897 rfl rfl rfl ?_
  refine j_iload_n (q := 899) C dL_law_898 rfl rfl rfl ?_
  refine j_iconst (v := nI 1) (q := 900) C dL_law_899 rfl (by decide) ?_
  first | refine j_iaddN (q := 901) C dL_law_900 rfl ?_ | refine j_iadd (q := 901) C dL_law_900 rfl ?_
  refine j_sld (q := 902) hX hbl hL31 C dL_law_901 rfl (by omega) ?_
  first | refine j_i2lN (q := 903) C dL_law_902 rfl (by omega) ?_ | refine j_i2l (q := 903) C dL_law_902 rfl rfl ?_
  refine j_bipush (v := nI 32) (q := 905) C dL_law_903 rfl (by decide) ?_
  refine j_lshl (q := 906) C dL_law_905 rfl rfl ?_
  refine j_aload_n (q := 907) C dL_law_906 rfl rfl rfl ?_
  refine j_iload_n (q := 908) C dL_law_907 rfl rfl rfl ?_
  refine j_iconst (v := nI 2) (q := 909) C dL_law_908 rfl (by decide) ?_
  first | refine j_iaddN (q := 910) C dL_law_909 rfl ?_ | refine j_iadd (q := 910) C dL_law_909 rfl ?_
  refine j_sld (q := 911) hX hbl hL31 C dL_law_910 rfl (by omega) ?_
  first | refine j_i2lN (q := 912) C dL_law_911 rfl (by omega) ?_ | refine j_i2l (q := 912) C dL_law_911 rfl rfl ?_
  refine j_ldc2 (q := 915) C dL_law_912 rfl kw_1266 ?_
  refine j_land (q := 916) C dL_law_915 rfl ?_
  refine j_lor (q := 917) C dL_law_916 rfl ?_
  obtain ⟨post1, hc1, hv1, hp1⟩ := pr_press (G := G) h (v := (((vs (i + 1)).toInt64 <<< ((nI 32).toInt64 &&& 63)) ||| ((vs (i + 2)).toInt64 &&& 4294967295)))
  refine j_callV (q := 920) jc10 C dL_law_917 rfl h.1.1.1 mX10_press kw_679 kw_680 kw_681 hc1 (As := [.long ((((vs (i + 1)).toInt64 <<< ((nI 32).toInt64 &&& 63)) ||| ((vs (i + 2)).toInt64 &&& 4294967295)))]) (rest := []) rfl rfl ⟨Nat.le_of_ble_eq_true rfl, Nat.le_of_ble_eq_true rfl⟩ (Nat.le_of_ble_eq_true rfl) ⟨by show 460 + 2 * i + 0 ≤ 600000; omega, by show 13000 + 163 * i + 0 ≤ 7302250; omega⟩ (fun r1 z S1 M1 h1 => ?_)
  obtain ⟨⟨v, rfl⟩, hs11⟩ := hv1 _ _ _ _ h1
  obtain ⟨post2, hc2, hp2⟩ := hp1 _ _ _ _ h1
  change jJ G X _ _ _ _ _ _ _ [.long v]
  refine j_aload_n (q := 921) C dL_law_920 rfl rfl rfl ?_
  refine j_aload_n (q := 922) C dL_law_921 rfl rfl rfl ?_
  refine j_iload_n (q := 923) C dL_law_922 rfl rfl rfl ?_
  refine j_iconst (v := nI 1) (q := 924) C dL_law_923 rfl (by decide) ?_
  first | refine j_iaddN (q := 925) C dL_law_924 rfl ?_ | refine j_iadd (q := 925) C dL_law_924 rfl ?_
  refine j_sld (q := 926) hX hbl hL31 C dL_law_925 rfl (by omega) ?_
  first | refine j_i2lN (q := 927) C dL_law_926 rfl (by omega) ?_ | refine j_i2l (q := 927) C dL_law_926 rfl rfl ?_
  refine j_bipush (v := nI 32) (q := 929) C dL_law_927 rfl (by decide) ?_
  refine j_lshl (q := 930) C dL_law_929 rfl rfl ?_
  refine j_aload_n (q := 931) C dL_law_930 rfl rfl rfl ?_
  refine j_iload_n (q := 932) C dL_law_931 rfl rfl rfl ?_
  refine j_iconst (v := nI 2) (q := 933) C dL_law_932 rfl (by decide) ?_
  first | refine j_iaddN (q := 934) C dL_law_933 rfl ?_ | refine j_iadd (q := 934) C dL_law_933 rfl ?_
  refine j_sld (q := 935) hX hbl hL31 C dL_law_934 rfl (by omega) ?_
  first | refine j_i2lN (q := 936) C dL_law_935 rfl (by omega) ?_ | refine j_i2l (q := 936) C dL_law_935 rfl rfl ?_
  refine j_ldc2 (q := 939) C dL_law_936 rfl kw_1266 ?_
  refine j_land (q := 940) C dL_law_939 rfl ?_
  refine j_lor (q := 941) C dL_law_940 rfl ?_
  refine j_callV (q := 944) jc11 C dL_law_941 rfl hs11 mX11_press kw_1180 kw_1181 kw_1182 hc2 (As := [.long ((((vs (i + 1)).toInt64 <<< ((nI 32).toInt64 &&& 63)) ||| ((vs (i + 2)).toInt64 &&& 4294967295)))]) (rest := [.long v]) rfl rfl ⟨Nat.le_of_ble_eq_true rfl, Nat.le_of_ble_eq_true rfl⟩ (Nat.le_of_ble_eq_true rfl) ⟨by show 460 + 2 * i + 0 + 0 ≤ 600000; omega, by show 13000 + 163 * i + 0 + 0 ≤ 7302250; omega⟩ (fun r2 z2 S2 M2 h2 => ?_)
  obtain ⟨rfl, rfl, v2, ev, rfl, -, f2, d2, pe2, pa2, la2, LT2, hf2, hR2⟩ := hp2 _ _ _ _ h2
  obtain rfl : v = v2 := by injection ev with ev; injection ev
  change jJ G X _ _ _ _ _ _ _ [.long v, .long v]
  refine j_lcmp_eq (q1 := 945) (q := 948) (tgt := 1446) C dL_law_944 dL_law_945 rfl rfl (by decide) (fun c_945 => ?_) (fun c_945 => absurd rfl c_945)
  refine j_iincN (lv' := [(3, .int (nI (i + 6))), (0, .ref b), (1, .ref mm), (2, .ref (mm + 440))]) (q := 1449) C dL_law_1446 rfl rfl (by decide) rfl ?_
  refine j_goto (tgt := 18) C dL_law_1449 (by decide) ?_
  exact j_fewer (lv' := [(3, .int (nI (i + 6))), (0, .ref b), (1, .ref mm), (2, .ref (mm + 440))]) (by simp) (j_widen (by show 460 + 2 * i + 0 + 0 ≤ 460 + 2 * (i + 6); omega) (by show 13000 + 163 * i + 0 + 0 ≤ 13000 + 163 * (i + 6); omega) (nx _ _ _ _ _ _ _ _ _ (by omega) hR2))
set_option maxRecDepth 100000 in
set_option maxHeartbeats 4000000 in
theorem cs_give {G : jG} {X : jX} {nmL : String} {b L : Nat} {vs : Nat → Int32} (hX : va_X b L vs (xs X) (xs X).heap) (hbl : b < gN G) (hL : L ≤ 3072) (C : jOk G X (lYr nmL) cL_law 4 room_1) {mm f sz i : Nat} {Sh : jS} {M : jM} {d pe pa la : Nat} {LT : Nat → sT} (h : REL mm f sz Sh M d pe pa la LT) (hf : f ≤ i) (hi : i + 6 ≤ L) (nx : ∀ z2 S2 M2 f2 d2 pe2 pa2 la2 LT2, f2 ≤ i + 6 → REL mm f2 z2 S2 M2 d2 pe2 pa2 la2 LT2 → jJ G X (460 + 2 * (i + 6)) (13000 + 163 * (i + 6)) z2 S2 M2 18 [(3, .int (nI (i + 6))), (0, .ref b), (1, .ref mm), (2, .ref (mm + 440))] []) : jJ G X (460 + 2 * (i)) (13000 + 163 * (i)) sz Sh M 950 [(3, .int (nI (i))), (0, .ref b), (1, .ref mm), (2, .ref (mm + 440))] [] := by
  have hL31 : L < 2 ^ 31 := by omega
  refine j_aload_n (q := 951) C dL_law_950 rfl rfl rfl ?_
  refine j_aload_n (q := 952) C dL_law_951 rfl rfl rfl ?_
  refine j_iload_n (q := 953) C dL_law_952 rfl rfl rfl ?_
  refine j_iconst (v := nI 1) (q := 954) C dL_law_953 rfl (by decide) ?_
  first | refine j_iaddN (q := 955) C dL_law_954 rfl ?_ | refine j_iadd (q := 955) C dL_law_954 rfl ?_
  refine j_sld (q := 956) hX hbl hL31 C dL_law_955 rfl (by omega) ?_
  refine j_aload_n (q := 957) C dL_law_956 rfl rfl rfl ?_
  refine j_iload_n (q := 958) C dL_law_957 rfl rfl rfl ?_
  refine j_iconst (v := nI 2) (q := 959) C dL_law_958 rfl (by decide) ?_
  first | refine j_iaddN (q := 960) C dL_law_959 rfl ?_ | refine j_iadd (q := 960) C dL_law_959 rfl ?_
  refine j_sld (q := 961) hX hbl hL31 C dL_law_960 rfl (by omega) ?_
  first | refine j_i2lN (q := 962) C dL_law_961 rfl (by omega) ?_ | refine j_i2l (q := 962) C dL_law_961 rfl rfl ?_
  refine j_bipush (v := nI 32) (q := 964) C dL_law_962 rfl (by decide) ?_
  refine j_lshl (q := 965) C dL_law_964 rfl rfl ?_
  refine j_aload_n (q := 966) C dL_law_965 rfl rfl rfl ?_
  refine j_iload_n (q := 967) C dL_law_966 rfl rfl rfl ?_
  refine j_iconst (v := nI 3) (q := 968) C dL_law_967 rfl (by decide) ?_
  first | refine j_iaddN (q := 969) C dL_law_968 rfl ?_ | refine j_iadd (q := 969) C dL_law_968 rfl ?_
  refine j_sld (q := 970) hX hbl hL31 C dL_law_969 rfl (by omega) ?_
  first | refine j_i2lN (q := 971) C dL_law_970 rfl (by omega) ?_ | refine j_i2l (q := 971) C dL_law_970 rfl rfl ?_
  refine j_ldc2 (q := 974) C dL_law_971 rfl kw_1266 ?_
  refine j_land (q := 975) C dL_law_974 rfl ?_
  refine j_lor (q := 976) C dL_law_975 rfl ?_
  obtain ⟨post1, hc1, hv1, hp1⟩ := pr_give (G := G) h (p := vs (i + 1)) (v := (((vs (i + 2)).toInt64 <<< ((nI 32).toInt64 &&& 63)) ||| ((vs (i + 3)).toInt64 &&& 4294967295)))
  refine j_callV (q := 979) jc10 C dL_law_976 rfl h.1.1.1 mX10_give kw_687 kw_688 kw_689 hc1 (As := [.int (vs (i + 1)), .long ((((vs (i + 2)).toInt64 <<< ((nI 32).toInt64 &&& 63)) ||| ((vs (i + 3)).toInt64 &&& 4294967295)))]) (rest := []) rfl rfl ⟨Nat.le_of_ble_eq_true rfl, Nat.le_of_ble_eq_true rfl⟩ (Nat.le_of_ble_eq_true rfl) ⟨by show 460 + 2 * i + 0 ≤ 600000; omega, by show 13000 + 163 * i + 0 ≤ 7302250; omega⟩ (fun r1 z S1 M1 h1 => ?_)
  obtain ⟨⟨v, rfl⟩, hs11⟩ := hv1 _ _ _ _ h1
  obtain ⟨post2, hc2, hp2⟩ := hp1 _ _ _ _ h1
  change jJ G X _ _ _ _ _ _ _ [.long v]
  refine j_aload_n (q := 980) C dL_law_979 rfl rfl rfl ?_
  refine j_aload_n (q := 981) C dL_law_980 rfl rfl rfl ?_
  refine j_iload_n (q := 982) C dL_law_981 rfl rfl rfl ?_
  refine j_iconst (v := nI 1) (q := 983) C dL_law_982 rfl (by decide) ?_
  first | refine j_iaddN (q := 984) C dL_law_983 rfl ?_ | refine j_iadd (q := 984) C dL_law_983 rfl ?_
  refine j_sld (q := 985) hX hbl hL31 C dL_law_984 rfl (by omega) ?_
  refine j_aload_n (q := 986) C dL_law_985 rfl rfl rfl ?_
  refine j_iload_n (q := 987) C dL_law_986 rfl rfl rfl ?_
  refine j_iconst (v := nI 2) (q := 988) C dL_law_987 rfl (by decide) ?_
  first | refine j_iaddN (q := 989) C dL_law_988 rfl ?_ | refine j_iadd (q := 989) C dL_law_988 rfl ?_
  refine j_sld (q := 990) hX hbl hL31 C dL_law_989 rfl (by omega) ?_
  first | refine j_i2lN (q := 991) C dL_law_990 rfl (by omega) ?_ | refine j_i2l (q := 991) C dL_law_990 rfl rfl ?_
  refine j_bipush (v := nI 32) (q := 993) C dL_law_991 rfl (by decide) ?_
  refine j_lshl (q := 994) C dL_law_993 rfl rfl ?_
  refine j_aload_n (q := 995) C dL_law_994 rfl rfl rfl ?_
  refine j_iload_n (q := 996) C dL_law_995 rfl rfl rfl ?_
  refine j_iconst (v := nI 3) (q := 997) C dL_law_996 rfl (by decide) ?_
  first | refine j_iaddN (q := 998) C dL_law_997 rfl ?_ | refine j_iadd (q := 998) C dL_law_997 rfl ?_
  refine j_sld (q := 999) hX hbl hL31 C dL_law_998 rfl (by omega) ?_
  first | refine j_i2lN (q := 1000) C dL_law_999 rfl (by omega) ?_ | refine j_i2l (q := 1000) C dL_law_999 rfl rfl ?_
  refine j_ldc2 (q := 1003) C dL_law_1000 rfl kw_1266 ?_
  refine j_land (q := 1004) C dL_law_1003 rfl ?_
  refine j_lor (q := 1005) C dL_law_1004 rfl ?_
  refine j_callV (q := 1008) jc11 C dL_law_1005 rfl hs11 mX11_give kw_1184 kw_1185 kw_1186 hc2 (As := [.int (vs (i + 1)), .long ((((vs (i + 2)).toInt64 <<< ((nI 32).toInt64 &&& 63)) ||| ((vs (i + 3)).toInt64 &&& 4294967295)))]) (rest := [.long v]) rfl rfl ⟨Nat.le_of_ble_eq_true rfl, Nat.le_of_ble_eq_true rfl⟩ (Nat.le_of_ble_eq_true rfl) ⟨by show 460 + 2 * i + 0 + 0 ≤ 600000; omega, by show 13000 + 163 * i + 0 + 0 ≤ 7302250; omega⟩ (fun r2 z2 S2 M2 h2 => ?_)
  obtain ⟨rfl, rfl, v2, ev, rfl, -, f2, d2, pe2, pa2, la2, LT2, hf2, hR2⟩ := hp2 _ _ _ _ h2
  obtain rfl : v = v2 := by injection ev with ev; injection ev
  change jJ G X _ _ _ _ _ _ _ [.long v, .long v]
  refine j_lcmp_eq (q1 := 1009) (q := 1012) (tgt := 1446) C dL_law_1008 dL_law_1009 rfl rfl (by decide) (fun c_1009 => ?_) (fun c_1009 => absurd rfl c_1009)
  refine j_iincN (lv' := [(3, .int (nI (i + 6))), (0, .ref b), (1, .ref mm), (2, .ref (mm + 440))]) (q := 1449) C dL_law_1446 rfl rfl (by decide) rfl ?_
  refine j_goto (tgt := 18) C dL_law_1449 (by decide) ?_
  exact j_fewer (lv' := [(3, .int (nI (i + 6))), (0, .ref b), (1, .ref mm), (2, .ref (mm + 440))]) (by simp) (j_widen (by show 460 + 2 * i + 0 + 0 ≤ 460 + 2 * (i + 6); omega) (by show 13000 + 163 * i + 0 + 0 ≤ 13000 + 163 * (i + 6); omega) (nx _ _ _ _ _ _ _ _ _ (by omega) hR2))
set_option maxRecDepth 100000 in
set_option maxHeartbeats 4000000 in
theorem cs_tax {G : jG} {X : jX} {nmL : String} {b L : Nat} {vs : Nat → Int32} (hX : va_X b L vs (xs X) (xs X).heap) (hbl : b < gN G) (hL : L ≤ 3072) (C : jOk G X (lYr nmL) cL_law 4 room_1) {mm f sz i : Nat} {Sh : jS} {M : jM} {d pe pa la : Nat} {LT : Nat → sT} (h : REL mm f sz Sh M d pe pa la LT) (hf : f ≤ i) (hi : i + 6 ≤ L) (nx : ∀ z2 S2 M2 f2 d2 pe2 pa2 la2 LT2, f2 ≤ i + 6 → REL mm f2 z2 S2 M2 d2 pe2 pa2 la2 LT2 → jJ G X (460 + 2 * (i + 6)) (13000 + 163 * (i + 6)) z2 S2 M2 18 [(3, .int (nI (i + 6))), (0, .ref b), (1, .ref mm), (2, .ref (mm + 440))] []) : jJ G X (460 + 2 * (i)) (13000 + 163 * (i)) sz Sh M 1014 [(3, .int (nI (i))), (0, .ref b), (1, .ref mm), (2, .ref (mm + 440))] [] := by
  have hL31 : L < 2 ^ 31 := by omega
  refine j_aload_n (q := 1015) C dL_law_1014 rfl rfl rfl ?_
  obtain ⟨post1, hc1, hv1, hp1⟩ := pr_tax (G := G) h 
  refine j_callV (q := 1018) jc10 C dL_law_1015 rfl h.1.1.1 mX10_tax kw_692 kw_693 kw_694 hc1 (As := []) (rest := []) rfl rfl ⟨Nat.le_of_ble_eq_true rfl, Nat.le_of_ble_eq_true rfl⟩ (Nat.le_of_ble_eq_true rfl) ⟨by show 460 + 2 * i + 0 ≤ 600000; omega, by show 13000 + 163 * i + 0 ≤ 7302250; omega⟩ (fun r1 z S1 M1 h1 => ?_)
  obtain ⟨⟨v, rfl⟩, hs11⟩ := hv1 _ _ _ _ h1
  obtain ⟨post2, hc2, hp2⟩ := hp1 _ _ _ _ h1
  change jJ G X _ _ _ _ _ _ _ [.long v]
  refine j_aload_n (q := 1019) C dL_law_1018 rfl rfl rfl ?_
  refine j_callV (q := 1022) jc11 C dL_law_1019 rfl hs11 mX11_tax kw_1188 kw_1189 kw_1190 hc2 (As := []) (rest := [.long v]) rfl rfl ⟨Nat.le_of_ble_eq_true rfl, Nat.le_of_ble_eq_true rfl⟩ (Nat.le_of_ble_eq_true rfl) ⟨by show 460 + 2 * i + 0 + 0 ≤ 600000; omega, by show 13000 + 163 * i + 0 + 0 ≤ 7302250; omega⟩ (fun r2 z2 S2 M2 h2 => ?_)
  obtain ⟨rfl, rfl, v2, ev, rfl, -, f2, d2, pe2, pa2, la2, LT2, hf2, hR2⟩ := hp2 _ _ _ _ h2
  obtain rfl : v = v2 := by injection ev with ev; injection ev
  change jJ G X _ _ _ _ _ _ _ [.long v, .long v]
  refine j_lcmp_eq (q1 := 1023) (q := 1026) (tgt := 1446) C dL_law_1022 dL_law_1023 rfl rfl (by decide) (fun c_1023 => ?_) (fun c_1023 => absurd rfl c_1023)
  refine j_iincN (lv' := [(3, .int (nI (i + 6))), (0, .ref b), (1, .ref mm), (2, .ref (mm + 440))]) (q := 1449) C dL_law_1446 rfl rfl (by decide) rfl ?_
  refine j_goto (tgt := 18) C dL_law_1449 (by decide) ?_
  exact j_fewer (lv' := [(3, .int (nI (i + 6))), (0, .ref b), (1, .ref mm), (2, .ref (mm + 440))]) (by simp) (j_widen (by show 460 + 2 * i + 0 + 0 ≤ 460 + 2 * (i + 6); omega) (by show 13000 + 163 * i + 0 + 0 ≤ 13000 + 163 * (i + 6); omega) (nx _ _ _ _ _ _ _ _ _ (by omega) hR2))
set_option maxRecDepth 100000 in
set_option maxHeartbeats 4000000 in
theorem cs_swap {G : jG} {X : jX} {nmL : String} {b L : Nat} {vs : Nat → Int32} (hX : va_X b L vs (xs X) (xs X).heap) (hbl : b < gN G) (hL : L ≤ 3072) (C : jOk G X (lYr nmL) cL_law 4 room_1) {mm f sz i : Nat} {Sh : jS} {M : jM} {d pe pa la : Nat} {LT : Nat → sT} (h : REL mm f sz Sh M d pe pa la LT) (hf : f ≤ i) (hi : i + 6 ≤ L) (nx : ∀ z2 S2 M2 f2 d2 pe2 pa2 la2 LT2, f2 ≤ i + 6 → REL mm f2 z2 S2 M2 d2 pe2 pa2 la2 LT2 → jJ G X (460 + 2 * (i + 6)) (13000 + 163 * (i + 6)) z2 S2 M2 18 [(3, .int (nI (i + 6))), (0, .ref b), (1, .ref mm), (2, .ref (mm + 440))] []) : jJ G X (460 + 2 * (i)) (13000 + 163 * (i)) sz Sh M 1028 [(3, .int (nI (i))), (0, .ref b), (1, .ref mm), (2, .ref (mm + 440))] [] := by
  have hL31 : L < 2 ^ 31 := by omega
  refine j_aload_n (q := 1029) C dL_law_1028 rfl rfl rfl ?_
  refine j_aload_n (q := 1030) C dL_law_1029 rfl rfl rfl ?_
  refine j_iload_n (q := 1031) C dL_law_1030 rfl rfl rfl ?_
  refine j_iconst (v := nI 1) (q := 1032) C dL_law_1031 rfl (by decide) ?_
  first | refine j_iaddN (q := 1033) C dL_law_1032 rfl ?_ | refine j_iadd (q := 1033) C dL_law_1032 rfl ?_
  refine j_sld (q := 1034) hX hbl hL31 C dL_law_1033 rfl (by omega) ?_
  obtain ⟨post1, hc1, hv1, hp1⟩ := pr_swap (G := G) h (k := vs (i + 1))
  refine j_callV (q := 1037) jc10 C dL_law_1034 rfl h.1.1.1 mX10_swap kw_702 kw_703 kw_704 hc1 (As := [.int (vs (i + 1))]) (rest := []) rfl rfl ⟨Nat.le_of_ble_eq_true rfl, Nat.le_of_ble_eq_true rfl⟩ (Nat.le_of_ble_eq_true rfl) ⟨by show 460 + 2 * i + 0 ≤ 600000; omega, by show 13000 + 163 * i + 0 ≤ 7302250; omega⟩ (fun r1 z S1 M1 h1 => ?_)
  obtain ⟨⟨v, rfl⟩, hs11⟩ := hv1 _ _ _ _ h1
  obtain ⟨post2, hc2, hp2⟩ := hp1 _ _ _ _ h1
  change jJ G X _ _ _ _ _ _ _ [.long v]
  refine j_aload_n (q := 1038) C dL_law_1037 rfl rfl rfl ?_
  refine j_aload_n (q := 1039) C dL_law_1038 rfl rfl rfl ?_
  refine j_iload_n (q := 1040) C dL_law_1039 rfl rfl rfl ?_
  refine j_iconst (v := nI 1) (q := 1041) C dL_law_1040 rfl (by decide) ?_
  first | refine j_iaddN (q := 1042) C dL_law_1041 rfl ?_ | refine j_iadd (q := 1042) C dL_law_1041 rfl ?_
  refine j_sld (q := 1043) hX hbl hL31 C dL_law_1042 rfl (by omega) ?_
  refine j_callV (q := 1046) jc11 C dL_law_1043 rfl hs11 mX11_swap kw_1195 kw_1196 kw_1197 hc2 (As := [.int (vs (i + 1))]) (rest := [.long v]) rfl rfl ⟨Nat.le_of_ble_eq_true rfl, Nat.le_of_ble_eq_true rfl⟩ (Nat.le_of_ble_eq_true rfl) ⟨by show 460 + 2 * i + 0 + 0 ≤ 600000; omega, by show 13000 + 163 * i + 0 + 0 ≤ 7302250; omega⟩ (fun r2 z2 S2 M2 h2 => ?_)
  obtain ⟨rfl, rfl, v2, ev, rfl, -, f2, d2, pe2, pa2, la2, LT2, hf2, hR2⟩ := hp2 _ _ _ _ h2
  obtain rfl : v = v2 := by injection ev with ev; injection ev
  change jJ G X _ _ _ _ _ _ _ [.long v, .long v]
  refine j_lcmp_eq (q1 := 1047) (q := 1050) (tgt := 1446) C dL_law_1046 dL_law_1047 rfl rfl (by decide) (fun c_1047 => ?_) (fun c_1047 => absurd rfl c_1047)
  refine j_iincN (lv' := [(3, .int (nI (i + 6))), (0, .ref b), (1, .ref mm), (2, .ref (mm + 440))]) (q := 1449) C dL_law_1446 rfl rfl (by decide) rfl ?_
  refine j_goto (tgt := 18) C dL_law_1449 (by decide) ?_
  exact j_fewer (lv' := [(3, .int (nI (i + 6))), (0, .ref b), (1, .ref mm), (2, .ref (mm + 440))]) (by simp) (j_widen (by show 460 + 2 * i + 0 + 0 ≤ 460 + 2 * (i + 6); omega) (by show 13000 + 163 * i + 0 + 0 ≤ 13000 + 163 * (i + 6); omega) (nx _ _ _ _ _ _ _ _ _ (by omega) hR2))
set_option maxRecDepth 100000 in
set_option maxHeartbeats 4000000 in
theorem cs_need {G : jG} {X : jX} {nmL : String} {b L : Nat} {vs : Nat → Int32} (hX : va_X b L vs (xs X) (xs X).heap) (hbl : b < gN G) (hL : L ≤ 3072) (C : jOk G X (lYr nmL) cL_law 4 room_1) {mm f sz i : Nat} {Sh : jS} {M : jM} {d pe pa la : Nat} {LT : Nat → sT} (h : REL mm f sz Sh M d pe pa la LT) (hf : f ≤ i) (hi : i + 6 ≤ L) (nx : ∀ z2 S2 M2 f2 d2 pe2 pa2 la2 LT2, f2 ≤ i + 6 → REL mm f2 z2 S2 M2 d2 pe2 pa2 la2 LT2 → jJ G X (460 + 2 * (i + 6)) (13000 + 163 * (i + 6)) z2 S2 M2 18 [(3, .int (nI (i + 6))), (0, .ref b), (1, .ref mm), (2, .ref (mm + 440))] []) : jJ G X (460 + 2 * (i)) (13000 + 163 * (i)) sz Sh M 1052 [(3, .int (nI (i))), (0, .ref b), (1, .ref mm), (2, .ref (mm + 440))] [] := by
  have hL31 : L < 2 ^ 31 := by omega
  refine j_aload_n (q := 1053) C dL_law_1052 rfl rfl rfl ?_
  refine j_aload_n (q := 1054) C dL_law_1053 rfl rfl rfl ?_
  refine j_iload_n (q := 1055) C dL_law_1054 rfl rfl rfl ?_
  refine j_iconst (v := nI 1) (q := 1056) C dL_law_1055 rfl (by decide) ?_
  first | refine j_iaddN (q := 1057) C dL_law_1056 rfl ?_ | refine j_iadd (q := 1057) C dL_law_1056 rfl ?_
  refine j_sld (q := 1058) hX hbl hL31 C dL_law_1057 rfl (by omega) ?_
  obtain ⟨post1, hc1, hv1, hp1⟩ := pr_need (G := G) h (n := vs (i + 1))
  refine j_callV (q := 1061) jc10 C dL_law_1058 rfl h.1.1.1 mX10_need kw_711 kw_712 kw_713 hc1 (As := [.int (vs (i + 1))]) (rest := []) rfl rfl ⟨Nat.le_of_ble_eq_true rfl, Nat.le_of_ble_eq_true rfl⟩ (Nat.le_of_ble_eq_true rfl) ⟨by show 460 + 2 * i + 0 ≤ 600000; omega, by show 13000 + 163 * i + 0 ≤ 7302250; omega⟩ (fun r1 z S1 M1 h1 => ?_)
  obtain ⟨⟨v, rfl⟩, hs11⟩ := hv1 _ _ _ _ h1
  obtain ⟨post2, hc2, hp2⟩ := hp1 _ _ _ _ h1
  change jJ G X _ _ _ _ _ _ _ [.long v]
  refine j_aload_n (q := 1062) C dL_law_1061 rfl rfl rfl ?_
  refine j_aload_n (q := 1063) C dL_law_1062 rfl rfl rfl ?_
  refine j_iload_n (q := 1064) C dL_law_1063 rfl rfl rfl ?_
  refine j_iconst (v := nI 1) (q := 1065) C dL_law_1064 rfl (by decide) ?_
  first | refine j_iaddN (q := 1066) C dL_law_1065 rfl ?_ | refine j_iadd (q := 1066) C dL_law_1065 rfl ?_
  refine j_sld (q := 1067) hX hbl hL31 C dL_law_1066 rfl (by omega) ?_
  refine j_callV (q := 1070) jc11 C dL_law_1067 rfl hs11 mX11_need_ kw_1203 kw_1204 kw_1205 hc2 (As := [.int (vs (i + 1))]) (rest := [.long v]) rfl rfl ⟨Nat.le_of_ble_eq_true rfl, Nat.le_of_ble_eq_true rfl⟩ (Nat.le_of_ble_eq_true rfl) ⟨by show 460 + 2 * i + 0 + 0 ≤ 600000; omega, by show 13000 + 163 * i + 0 + 0 ≤ 7302250; omega⟩ (fun r2 z2 S2 M2 h2 => ?_)
  obtain ⟨rfl, rfl, v2, ev, rfl, -, f2, d2, pe2, pa2, la2, LT2, hf2, hR2⟩ := hp2 _ _ _ _ h2
  obtain rfl : v = v2 := by injection ev with ev; injection ev
  change jJ G X _ _ _ _ _ _ _ [.long v, .long v]
  refine j_lcmp_eq (q1 := 1071) (q := 1074) (tgt := 1446) C dL_law_1070 dL_law_1071 rfl rfl (by decide) (fun c_1071 => ?_) (fun c_1071 => absurd rfl c_1071)
  refine j_iincN (lv' := [(3, .int (nI (i + 6))), (0, .ref b), (1, .ref mm), (2, .ref (mm + 440))]) (q := 1449) C dL_law_1446 rfl rfl (by decide) rfl ?_
  refine j_goto (tgt := 18) C dL_law_1449 (by decide) ?_
  exact j_fewer (lv' := [(3, .int (nI (i + 6))), (0, .ref b), (1, .ref mm), (2, .ref (mm + 440))]) (by simp) (j_widen (by show 460 + 2 * i + 0 + 0 ≤ 460 + 2 * (i + 6); omega) (by show 13000 + 163 * i + 0 + 0 ≤ 13000 + 163 * (i + 6); omega) (nx _ _ _ _ _ _ _ _ _ (by omega) hR2))
set_option maxRecDepth 100000 in
set_option maxHeartbeats 4000000 in
theorem cs_melts {G : jG} {X : jX} {nmL : String} {b L : Nat} {vs : Nat → Int32} (hX : va_X b L vs (xs X) (xs X).heap) (hbl : b < gN G) (hL : L ≤ 3072) (C : jOk G X (lYr nmL) cL_law 4 room_1) {mm f sz i : Nat} {Sh : jS} {M : jM} {d pe pa la : Nat} {LT : Nat → sT} (h : REL mm f sz Sh M d pe pa la LT) (hf : f ≤ i) (hi : i + 6 ≤ L) (nx : ∀ z2 S2 M2 f2 d2 pe2 pa2 la2 LT2, f2 ≤ i + 6 → REL mm f2 z2 S2 M2 d2 pe2 pa2 la2 LT2 → jJ G X (460 + 2 * (i + 6)) (13000 + 163 * (i + 6)) z2 S2 M2 18 [(3, .int (nI (i + 6))), (0, .ref b), (1, .ref mm), (2, .ref (mm + 440))] []) : jJ G X (460 + 2 * (i)) (13000 + 163 * (i)) sz Sh M 1076 [(3, .int (nI (i))), (0, .ref b), (1, .ref mm), (2, .ref (mm + 440))] [] := by
  have hL31 : L < 2 ^ 31 := by omega
  refine j_aload_n (q := 1077) C dL_law_1076 rfl rfl rfl ?_
  refine j_aload_n (q := 1078) C dL_law_1077 rfl rfl rfl ?_
  refine j_iload_n (q := 1079) C dL_law_1078 rfl rfl rfl ?_
  refine j_iconst (v := nI 1) (q := 1080) C dL_law_1079 rfl (by decide) ?_
  first | refine j_iaddN (q := 1081) C dL_law_1080 rfl ?_ | refine j_iadd (q := 1081) C dL_law_1080 rfl ?_
  refine j_sld (q := 1082) hX hbl hL31 C dL_law_1081 rfl (by omega) ?_
  obtain ⟨post1, hc1, hv1, hp1⟩ := pr_melts (G := G) h (n := vs (i + 1))
  refine j_callV (q := 1085) jc10 C dL_law_1082 rfl h.1.1.1 mX10_melts kw_732 kw_733 kw_734 hc1 (As := [.int (vs (i + 1))]) (rest := []) rfl rfl ⟨Nat.le_of_ble_eq_true rfl, Nat.le_of_ble_eq_true rfl⟩ (Nat.le_of_ble_eq_true rfl) ⟨by show 460 + 2 * i + 0 ≤ 600000; omega, by show 13000 + 163 * i + 0 ≤ 7302250; omega⟩ (fun r1 z S1 M1 h1 => ?_)
  obtain ⟨⟨v, rfl⟩, hs11⟩ := hv1 _ _ _ _ h1
  obtain ⟨post2, hc2, hp2⟩ := hp1 _ _ _ _ h1
  change jJ G X _ _ _ _ _ _ _ [.long v]
  refine j_aload_n (q := 1086) C dL_law_1085 rfl rfl rfl ?_
  refine j_aload_n (q := 1087) C dL_law_1086 rfl rfl rfl ?_
  refine j_iload_n (q := 1088) C dL_law_1087 rfl rfl rfl ?_
  refine j_iconst (v := nI 1) (q := 1089) C dL_law_1088 rfl (by decide) ?_
  first | refine j_iaddN (q := 1090) C dL_law_1089 rfl ?_ | refine j_iadd (q := 1090) C dL_law_1089 rfl ?_
  refine j_sld (q := 1091) hX hbl hL31 C dL_law_1090 rfl (by omega) ?_
  refine j_callV (q := 1094) jc11 C dL_law_1091 rfl hs11 mX11_melts kw_1216 kw_1217 kw_1218 hc2 (As := [.int (vs (i + 1))]) (rest := [.long v]) rfl rfl ⟨Nat.le_of_ble_eq_true rfl, Nat.le_of_ble_eq_true rfl⟩ (Nat.le_of_ble_eq_true rfl) ⟨by show 460 + 2 * i + 0 + 0 ≤ 600000; omega, by show 13000 + 163 * i + 0 + 0 ≤ 7302250; omega⟩ (fun r2 z2 S2 M2 h2 => ?_)
  obtain ⟨rfl, rfl, v2, ev, rfl, -, f2, d2, pe2, pa2, la2, LT2, hf2, hR2⟩ := hp2 _ _ _ _ h2
  obtain rfl : v = v2 := by injection ev with ev; injection ev
  change jJ G X _ _ _ _ _ _ _ [.long v, .long v]
  refine j_lcmp_eq (q1 := 1095) (q := 1098) (tgt := 1446) C dL_law_1094 dL_law_1095 rfl rfl (by decide) (fun c_1095 => ?_) (fun c_1095 => absurd rfl c_1095)
  refine j_iincN (lv' := [(3, .int (nI (i + 6))), (0, .ref b), (1, .ref mm), (2, .ref (mm + 440))]) (q := 1449) C dL_law_1446 rfl rfl (by decide) rfl ?_
  refine j_goto (tgt := 18) C dL_law_1449 (by decide) ?_
  exact j_fewer (lv' := [(3, .int (nI (i + 6))), (0, .ref b), (1, .ref mm), (2, .ref (mm + 440))]) (by simp) (j_widen (by show 460 + 2 * i + 0 + 0 ≤ 460 + 2 * (i + 6); omega) (by show 13000 + 163 * i + 0 + 0 ≤ 13000 + 163 * (i + 6); omega) (nx _ _ _ _ _ _ _ _ _ (by omega) hR2))
set_option maxRecDepth 100000 in
set_option maxHeartbeats 4000000 in
theorem cs_choices {G : jG} {X : jX} {nmL : String} {b L : Nat} {vs : Nat → Int32} (hX : va_X b L vs (xs X) (xs X).heap) (hbl : b < gN G) (hL : L ≤ 3072) (C : jOk G X (lYr nmL) cL_law 4 room_1) {mm f sz i : Nat} {Sh : jS} {M : jM} {d pe pa la : Nat} {LT : Nat → sT} (h : REL mm f sz Sh M d pe pa la LT) (hf : f ≤ i) (hi : i + 6 ≤ L) (nx : ∀ z2 S2 M2 f2 d2 pe2 pa2 la2 LT2, f2 ≤ i + 6 → REL mm f2 z2 S2 M2 d2 pe2 pa2 la2 LT2 → jJ G X (460 + 2 * (i + 6)) (13000 + 163 * (i + 6)) z2 S2 M2 18 [(3, .int (nI (i + 6))), (0, .ref b), (1, .ref mm), (2, .ref (mm + 440))] []) : jJ G X (460 + 2 * (i)) (13000 + 163 * (i)) sz Sh M 1100 [(3, .int (nI (i))), (0, .ref b), (1, .ref mm), (2, .ref (mm + 440))] [] := by
  have hL31 : L < 2 ^ 31 := by omega
  refine j_aload_n (q := 1101) C dL_law_1100 rfl rfl rfl ?_
  refine j_aload_n (q := 1102) C dL_law_1101 rfl rfl rfl ?_
  refine j_iload_n (q := 1103) C dL_law_1102 rfl rfl rfl ?_
  refine j_iconst (v := nI 1) (q := 1104) C dL_law_1103 rfl (by decide) ?_
  first | refine j_iaddN (q := 1105) C dL_law_1104 rfl ?_ | refine j_iadd (q := 1105) C dL_law_1104 rfl ?_
  refine j_sld (q := 1106) hX hbl hL31 C dL_law_1105 rfl (by omega) ?_
  refine j_aload_n (q := 1107) C dL_law_1106 rfl rfl rfl ?_
  refine j_iload_n (q := 1108) C dL_law_1107 rfl rfl rfl ?_
  refine j_iconst (v := nI 2) (q := 1109) C dL_law_1108 rfl (by decide) ?_
  first | refine j_iaddN (q := 1110) C dL_law_1109 rfl ?_ | refine j_iadd (q := 1110) C dL_law_1109 rfl ?_
  refine j_sld (q := 1111) hX hbl hL31 C dL_law_1110 rfl (by omega) ?_
  obtain ⟨post1, hc1, hv1, hp1⟩ := pr_choices (G := G) h (n := vs (i + 1)) (x := vs (i + 2))
  refine j_callV (q := 1114) jc10 C dL_law_1111 rfl h.1.1.1 mX10_choices kw_742 kw_743 kw_744 hc1 (As := [.int (vs (i + 1)), .int (vs (i + 2))]) (rest := []) rfl rfl ⟨Nat.le_of_ble_eq_true rfl, Nat.le_of_ble_eq_true rfl⟩ (Nat.le_of_ble_eq_true rfl) ⟨by show 460 + 2 * i + 0 ≤ 600000; omega, by show 13000 + 163 * i + 0 ≤ 7302250; omega⟩ (fun r1 z S1 M1 h1 => ?_)
  obtain ⟨⟨v, rfl⟩, hs11⟩ := hv1 _ _ _ _ h1
  obtain ⟨post2, hc2, hp2⟩ := hp1 _ _ _ _ h1
  change jJ G X _ _ _ _ _ _ _ [.long v]
  refine j_aload_n (q := 1115) C dL_law_1114 rfl rfl rfl ?_
  refine j_aload_n (q := 1116) C dL_law_1115 rfl rfl rfl ?_
  refine j_iload_n (q := 1117) C dL_law_1116 rfl rfl rfl ?_
  refine j_iconst (v := nI 1) (q := 1118) C dL_law_1117 rfl (by decide) ?_
  first | refine j_iaddN (q := 1119) C dL_law_1118 rfl ?_ | refine j_iadd (q := 1119) C dL_law_1118 rfl ?_
  refine j_sld (q := 1120) hX hbl hL31 C dL_law_1119 rfl (by omega) ?_
  refine j_aload_n (q := 1121) C dL_law_1120 rfl rfl rfl ?_
  refine j_iload_n (q := 1122) C dL_law_1121 rfl rfl rfl ?_
  refine j_iconst (v := nI 2) (q := 1123) C dL_law_1122 rfl (by decide) ?_
  first | refine j_iaddN (q := 1124) C dL_law_1123 rfl ?_ | refine j_iadd (q := 1124) C dL_law_1123 rfl ?_
  refine j_sld (q := 1125) hX hbl hL31 C dL_law_1124 rfl (by omega) ?_
  refine j_callV (q := 1128) jc11 C dL_law_1125 rfl hs11 mX11_choices kw_1220 kw_1221 kw_1222 hc2 (As := [.int (vs (i + 1)), .int (vs (i + 2))]) (rest := [.long v]) rfl rfl ⟨Nat.le_of_ble_eq_true rfl, Nat.le_of_ble_eq_true rfl⟩ (Nat.le_of_ble_eq_true rfl) ⟨by show 460 + 2 * i + 0 + 0 ≤ 600000; omega, by show 13000 + 163 * i + 0 + 0 ≤ 7302250; omega⟩ (fun r2 z2 S2 M2 h2 => ?_)
  obtain ⟨rfl, rfl, v2, ev, rfl, -, f2, d2, pe2, pa2, la2, LT2, hf2, hR2⟩ := hp2 _ _ _ _ h2
  obtain rfl : v = v2 := by injection ev with ev; injection ev
  change jJ G X _ _ _ _ _ _ _ [.long v, .long v]
  refine j_lcmp_eq (q1 := 1129) (q := 1132) (tgt := 1446) C dL_law_1128 dL_law_1129 rfl rfl (by decide) (fun c_1129 => ?_) (fun c_1129 => absurd rfl c_1129)
  refine j_iincN (lv' := [(3, .int (nI (i + 6))), (0, .ref b), (1, .ref mm), (2, .ref (mm + 440))]) (q := 1449) C dL_law_1446 rfl rfl (by decide) rfl ?_
  refine j_goto (tgt := 18) C dL_law_1449 (by decide) ?_
  exact j_fewer (lv' := [(3, .int (nI (i + 6))), (0, .ref b), (1, .ref mm), (2, .ref (mm + 440))]) (by simp) (j_widen (by show 460 + 2 * i + 0 + 0 ≤ 460 + 2 * (i + 6); omega) (by show 13000 + 163 * i + 0 + 0 ≤ 13000 + 163 * (i + 6); omega) (nx _ _ _ _ _ _ _ _ _ (by omega) hR2))
set_option maxRecDepth 100000 in
set_option maxHeartbeats 4000000 in
theorem cs_proves {G : jG} {X : jX} {nmL : String} {b L : Nat} {vs : Nat → Int32} (hX : va_X b L vs (xs X) (xs X).heap) (hbl : b < gN G) (hL : L ≤ 3072) (C : jOk G X (lYr nmL) cL_law 4 room_1) {mm f sz i : Nat} {Sh : jS} {M : jM} {d pe pa la : Nat} {LT : Nat → sT} (h : REL mm f sz Sh M d pe pa la LT) (hf : f ≤ i) (hi : i + 6 ≤ L) (nx : ∀ z2 S2 M2 f2 d2 pe2 pa2 la2 LT2, f2 ≤ i + 6 → REL mm f2 z2 S2 M2 d2 pe2 pa2 la2 LT2 → jJ G X (460 + 2 * (i + 6)) (13000 + 163 * (i + 6)) z2 S2 M2 18 [(3, .int (nI (i + 6))), (0, .ref b), (1, .ref mm), (2, .ref (mm + 440))] []) : jJ G X (460 + 2 * (i)) (13000 + 163 * (i)) sz Sh M 1134 [(3, .int (nI (i))), (0, .ref b), (1, .ref mm), (2, .ref (mm + 440))] [] := by
  have hL31 : L < 2 ^ 31 := by omega
  refine j_aload_n (q := 1135) C dL_law_1134 rfl rfl rfl ?_
  refine j_aload_n (q := 1136) C dL_law_1135 rfl rfl rfl ?_
  refine j_iload_n (q := 1137) C dL_law_1136 rfl rfl rfl ?_
  refine j_iconst (v := nI 1) (q := 1138) C dL_law_1137 rfl (by decide) ?_
  first | refine j_iaddN (q := 1139) C dL_law_1138 rfl ?_ | refine j_iadd (q := 1139) C dL_law_1138 rfl ?_
  refine j_sld (q := 1140) hX hbl hL31 C dL_law_1139 rfl (by omega) ?_
  refine j_aload_n (q := 1141) C dL_law_1140 rfl rfl rfl ?_
  refine j_iload_n (q := 1142) C dL_law_1141 rfl rfl rfl ?_
  refine j_iconst (v := nI 2) (q := 1143) C dL_law_1142 rfl (by decide) ?_
  first | refine j_iaddN (q := 1144) C dL_law_1143 rfl ?_ | refine j_iadd (q := 1144) C dL_law_1143 rfl ?_
  refine j_sld (q := 1145) hX hbl hL31 C dL_law_1144 rfl (by omega) ?_
  obtain ⟨post1, hc1, hv1, hp1⟩ := pr_proves (G := G) h (v := vs (i + 1)) (s := vs (i + 2))
  refine j_callV (q := 1148) jc10 C dL_law_1145 rfl h.1.1.1 mX10_proves kw_770 kw_771 kw_772 hc1 (As := [.int (vs (i + 1)), .int (vs (i + 2))]) (rest := []) rfl rfl ⟨Nat.le_of_ble_eq_true rfl, Nat.le_of_ble_eq_true rfl⟩ (Nat.le_of_ble_eq_true rfl) ⟨by show 460 + 2 * i + 0 ≤ 600000; omega, by show 13000 + 163 * i + 0 ≤ 7302250; omega⟩ (fun r1 z S1 M1 h1 => ?_)
  obtain ⟨⟨v, rfl⟩, hs11⟩ := hv1 _ _ _ _ h1
  obtain ⟨post2, hc2, hp2⟩ := hp1 _ _ _ _ h1
  change jJ G X _ _ _ _ _ _ _ [.long v]
  refine j_aload_n (q := 1149) C dL_law_1148 rfl rfl rfl ?_
  refine j_aload_n (q := 1150) C dL_law_1149 rfl rfl rfl ?_
  refine j_iload_n (q := 1151) C dL_law_1150 rfl rfl rfl ?_
  refine j_iconst (v := nI 1) (q := 1152) C dL_law_1151 rfl (by decide) ?_
  first | refine j_iaddN (q := 1153) C dL_law_1152 rfl ?_ | refine j_iadd (q := 1153) C dL_law_1152 rfl ?_
  refine j_sld (q := 1154) hX hbl hL31 C dL_law_1153 rfl (by omega) ?_
  refine j_aload_n (q := 1155) C dL_law_1154 rfl rfl rfl ?_
  refine j_iload_n (q := 1156) C dL_law_1155 rfl rfl rfl ?_
  refine j_iconst (v := nI 2) (q := 1157) C dL_law_1156 rfl (by decide) ?_
  first | refine j_iaddN (q := 1158) C dL_law_1157 rfl ?_ | refine j_iadd (q := 1158) C dL_law_1157 rfl ?_
  refine j_sld (q := 1159) hX hbl hL31 C dL_law_1158 rfl (by omega) ?_
  refine j_callV (q := 1162) jc11 C dL_law_1159 rfl hs11 mX11_proves kw_1227 kw_1228 kw_1229 hc2 (As := [.int (vs (i + 1)), .int (vs (i + 2))]) (rest := [.long v]) rfl rfl ⟨Nat.le_of_ble_eq_true rfl, Nat.le_of_ble_eq_true rfl⟩ (Nat.le_of_ble_eq_true rfl) ⟨by show 460 + 2 * i + 0 + 0 ≤ 600000; omega, by show 13000 + 163 * i + 0 + 0 ≤ 7302250; omega⟩ (fun r2 z2 S2 M2 h2 => ?_)
  obtain ⟨rfl, rfl, v2, ev, rfl, -, f2, d2, pe2, pa2, la2, LT2, hf2, hR2⟩ := hp2 _ _ _ _ h2
  obtain rfl : v = v2 := by injection ev with ev; injection ev
  change jJ G X _ _ _ _ _ _ _ [.long v, .long v]
  refine j_lcmp_eq (q1 := 1163) (q := 1166) (tgt := 1446) C dL_law_1162 dL_law_1163 rfl rfl (by decide) (fun c_1163 => ?_) (fun c_1163 => absurd rfl c_1163)
  refine j_iincN (lv' := [(3, .int (nI (i + 6))), (0, .ref b), (1, .ref mm), (2, .ref (mm + 440))]) (q := 1449) C dL_law_1446 rfl rfl (by decide) rfl ?_
  refine j_goto (tgt := 18) C dL_law_1449 (by decide) ?_
  exact j_fewer (lv' := [(3, .int (nI (i + 6))), (0, .ref b), (1, .ref mm), (2, .ref (mm + 440))]) (by simp) (j_widen (by show 460 + 2 * i + 0 + 0 ≤ 460 + 2 * (i + 6); omega) (by show 13000 + 163 * i + 0 + 0 ≤ 13000 + 163 * (i + 6); omega) (nx _ _ _ _ _ _ _ _ _ (by omega) hR2))
set_option maxRecDepth 100000 in
set_option maxHeartbeats 4000000 in
theorem cs_beside {G : jG} {X : jX} {nmL : String} {b L : Nat} {vs : Nat → Int32} (hX : va_X b L vs (xs X) (xs X).heap) (hbl : b < gN G) (hL : L ≤ 3072) (C : jOk G X (lYr nmL) cL_law 4 room_1) {mm f sz i : Nat} {Sh : jS} {M : jM} {d pe pa la : Nat} {LT : Nat → sT} (h : REL mm f sz Sh M d pe pa la LT) (hf : f ≤ i) (hi : i + 6 ≤ L) (nx : ∀ z2 S2 M2 f2 d2 pe2 pa2 la2 LT2, f2 ≤ i + 6 → REL mm f2 z2 S2 M2 d2 pe2 pa2 la2 LT2 → jJ G X (460 + 2 * (i + 6)) (13000 + 163 * (i + 6)) z2 S2 M2 18 [(3, .int (nI (i + 6))), (0, .ref b), (1, .ref mm), (2, .ref (mm + 440))] []) : jJ G X (460 + 2 * (i)) (13000 + 163 * (i)) sz Sh M 1168 [(3, .int (nI (i))), (0, .ref b), (1, .ref mm), (2, .ref (mm + 440))] [] := by
  have hL31 : L < 2 ^ 31 := by omega
  refine j_aload_n (q := 1169) C dL_law_1168 rfl rfl rfl ?_
  refine j_aload_n (q := 1170) C dL_law_1169 rfl rfl rfl ?_
  refine j_iload_n (q := 1171) C dL_law_1170 rfl rfl rfl ?_
  refine j_iconst (v := nI 1) (q := 1172) C dL_law_1171 rfl (by decide) ?_
  first | refine j_iaddN (q := 1173) C dL_law_1172 rfl ?_ | refine j_iadd (q := 1173) C dL_law_1172 rfl ?_
  refine j_sld (q := 1174) hX hbl hL31 C dL_law_1173 rfl (by omega) ?_
  refine j_aload_n (q := 1175) C dL_law_1174 rfl rfl rfl ?_
  refine j_iload_n (q := 1176) C dL_law_1175 rfl rfl rfl ?_
  refine j_iconst (v := nI 2) (q := 1177) C dL_law_1176 rfl (by decide) ?_
  first | refine j_iaddN (q := 1178) C dL_law_1177 rfl ?_ | refine j_iadd (q := 1178) C dL_law_1177 rfl ?_
  refine j_sld (q := 1179) hX hbl hL31 C dL_law_1178 rfl (by omega) ?_
  first | refine j_i2lN (q := 1180) C dL_law_1179 rfl (by omega) ?_ | refine j_i2l (q := 1180) C dL_law_1179 rfl rfl ?_
  refine j_bipush (v := nI 32) (q := 1182) C dL_law_1180 rfl (by decide) ?_
  refine j_lshl (q := 1183) C dL_law_1182 rfl rfl ?_
  refine j_aload_n (q := 1184) C dL_law_1183 rfl rfl rfl ?_
  refine j_iload_n (q := 1185) C dL_law_1184 rfl rfl rfl ?_
  refine j_iconst (v := nI 3) (q := 1186) C dL_law_1185 rfl (by decide) ?_
  first | refine j_iaddN (q := 1187) C dL_law_1186 rfl ?_ | refine j_iadd (q := 1187) C dL_law_1186 rfl ?_
  refine j_sld (q := 1188) hX hbl hL31 C dL_law_1187 rfl (by omega) ?_
  first | refine j_i2lN (q := 1189) C dL_law_1188 rfl (by omega) ?_ | refine j_i2l (q := 1189) C dL_law_1188 rfl rfl ?_
  refine j_ldc2 (q := 1192) C dL_law_1189 rfl kw_1266 ?_
  refine j_land (q := 1193) C dL_law_1192 rfl ?_
  refine j_lor (q := 1194) C dL_law_1193 rfl ?_
  refine j_aload_n (q := 1195) C dL_law_1194 rfl rfl rfl ?_
  refine j_iload_n (q := 1196) C dL_law_1195 rfl rfl rfl ?_
  refine j_iconst (v := nI 4) (q := 1197) C dL_law_1196 rfl (by decide) ?_
  first | refine j_iaddN (q := 1198) C dL_law_1197 rfl ?_ | refine j_iadd (q := 1198) C dL_law_1197 rfl ?_
  refine j_sld (q := 1199) hX hbl hL31 C dL_law_1198 rfl (by omega) ?_
  obtain ⟨post1, hc1, hv1, hp1⟩ := pr_beside (G := G) h (p := vs (i + 1)) (v := (((vs (i + 2)).toInt64 <<< ((nI 32).toInt64 &&& 63)) ||| ((vs (i + 3)).toInt64 &&& 4294967295))) (n := vs (i + 4))
  refine j_callV (q := 1202) jc10 C dL_law_1199 rfl h.1.1.1 mX10_beside kw_791 kw_792 kw_793 hc1 (As := [.int (vs (i + 1)), .long ((((vs (i + 2)).toInt64 <<< ((nI 32).toInt64 &&& 63)) ||| ((vs (i + 3)).toInt64 &&& 4294967295))), .int (vs (i + 4))]) (rest := []) rfl rfl ⟨Nat.le_of_ble_eq_true rfl, Nat.le_of_ble_eq_true rfl⟩ (Nat.le_of_ble_eq_true rfl) ⟨by show 460 + 2 * i + 0 ≤ 600000; omega, by show 13000 + 163 * i + 0 ≤ 7302250; omega⟩ (fun r1 z S1 M1 h1 => ?_)
  obtain ⟨⟨v, rfl⟩, hs11⟩ := hv1 _ _ _ _ h1
  obtain ⟨post2, hc2, hp2⟩ := hp1 _ _ _ _ h1
  change jJ G X _ _ _ _ _ _ _ [.long v]
  refine j_aload_n (q := 1203) C dL_law_1202 rfl rfl rfl ?_
  refine j_aload_n (q := 1204) C dL_law_1203 rfl rfl rfl ?_
  refine j_iload_n (q := 1205) C dL_law_1204 rfl rfl rfl ?_
  refine j_iconst (v := nI 1) (q := 1206) C dL_law_1205 rfl (by decide) ?_
  first | refine j_iaddN (q := 1207) C dL_law_1206 rfl ?_ | refine j_iadd (q := 1207) C dL_law_1206 rfl ?_
  refine j_sld (q := 1208) hX hbl hL31 C dL_law_1207 rfl (by omega) ?_
  refine j_aload_n (q := 1209) C dL_law_1208 rfl rfl rfl ?_
  refine j_iload_n (q := 1210) C dL_law_1209 rfl rfl rfl ?_
  refine j_iconst (v := nI 2) (q := 1211) C dL_law_1210 rfl (by decide) ?_
  first | refine j_iaddN (q := 1212) C dL_law_1211 rfl ?_ | refine j_iadd (q := 1212) C dL_law_1211 rfl ?_
  refine j_sld (q := 1213) hX hbl hL31 C dL_law_1212 rfl (by omega) ?_
  first | refine j_i2lN (q := 1214) C dL_law_1213 rfl (by omega) ?_ | refine j_i2l (q := 1214) C dL_law_1213 rfl rfl ?_
  refine j_bipush (v := nI 32) (q := 1216) C dL_law_1214 rfl (by decide) ?_
  refine j_lshl (q := 1217) C dL_law_1216 rfl rfl ?_
  refine j_aload_n (q := 1218) C dL_law_1217 rfl rfl rfl ?_
  refine j_iload_n (q := 1219) C dL_law_1218 rfl rfl rfl ?_
  refine j_iconst (v := nI 3) (q := 1220) C dL_law_1219 rfl (by decide) ?_
  first | refine j_iaddN (q := 1221) C dL_law_1220 rfl ?_ | refine j_iadd (q := 1221) C dL_law_1220 rfl ?_
  refine j_sld (q := 1222) hX hbl hL31 C dL_law_1221 rfl (by omega) ?_
  first | refine j_i2lN (q := 1223) C dL_law_1222 rfl (by omega) ?_ | refine j_i2l (q := 1223) C dL_law_1222 rfl rfl ?_
  refine j_ldc2 (q := 1226) C dL_law_1223 rfl kw_1266 ?_
  refine j_land (q := 1227) C dL_law_1226 rfl ?_
  refine j_lor (q := 1228) C dL_law_1227 rfl ?_
  refine j_aload_n (q := 1229) C dL_law_1228 rfl rfl rfl ?_
  refine j_iload_n (q := 1230) C dL_law_1229 rfl rfl rfl ?_
  refine j_iconst (v := nI 4) (q := 1231) C dL_law_1230 rfl (by decide) ?_
  first | refine j_iaddN (q := 1232) C dL_law_1231 rfl ?_ | refine j_iadd (q := 1232) C dL_law_1231 rfl ?_
  refine j_sld (q := 1233) hX hbl hL31 C dL_law_1232 rfl (by omega) ?_
  refine j_callV (q := 1236) jc11 C dL_law_1233 rfl hs11 mX11_beside kw_1235 kw_1236 kw_1237 hc2 (As := [.int (vs (i + 1)), .long ((((vs (i + 2)).toInt64 <<< ((nI 32).toInt64 &&& 63)) ||| ((vs (i + 3)).toInt64 &&& 4294967295))), .int (vs (i + 4))]) (rest := [.long v]) rfl rfl ⟨Nat.le_of_ble_eq_true rfl, Nat.le_of_ble_eq_true rfl⟩ (Nat.le_of_ble_eq_true rfl) ⟨by show 460 + 2 * i + 0 + 0 ≤ 600000; omega, by show 13000 + 163 * i + 0 + 0 ≤ 7302250; omega⟩ (fun r2 z2 S2 M2 h2 => ?_)
  obtain ⟨rfl, rfl, v2, ev, rfl, -, f2, d2, pe2, pa2, la2, LT2, hf2, hR2⟩ := hp2 _ _ _ _ h2
  obtain rfl : v = v2 := by injection ev with ev; injection ev
  change jJ G X _ _ _ _ _ _ _ [.long v, .long v]
  refine j_lcmp_eq (q1 := 1237) (q := 1240) (tgt := 1446) C dL_law_1236 dL_law_1237 rfl rfl (by decide) (fun c_1237 => ?_) (fun c_1237 => absurd rfl c_1237)
  refine j_iincN (lv' := [(3, .int (nI (i + 6))), (0, .ref b), (1, .ref mm), (2, .ref (mm + 440))]) (q := 1449) C dL_law_1446 rfl rfl (by decide) rfl ?_
  refine j_goto (tgt := 18) C dL_law_1449 (by decide) ?_
  exact j_fewer (lv' := [(3, .int (nI (i + 6))), (0, .ref b), (1, .ref mm), (2, .ref (mm + 440))]) (by simp) (j_widen (by show 460 + 2 * i + 0 + 0 ≤ 460 + 2 * (i + 6); omega) (by show 13000 + 163 * i + 0 + 0 ≤ 13000 + 163 * (i + 6); omega) (nx _ _ _ _ _ _ _ _ _ (by omega) hR2))
set_option maxRecDepth 100000 in
set_option maxHeartbeats 4000000 in
theorem cs_sheet {G : jG} {X : jX} {nmL : String} {b L : Nat} {vs : Nat → Int32} (hX : va_X b L vs (xs X) (xs X).heap) (hbl : b < gN G) (hL : L ≤ 3072) (C : jOk G X (lYr nmL) cL_law 4 room_1) {mm f sz i : Nat} {Sh : jS} {M : jM} {d pe pa la : Nat} {LT : Nat → sT} (h : REL mm f sz Sh M d pe pa la LT) (hf : f ≤ i) (hi : i + 6 ≤ L) (nx : ∀ z2 S2 M2 f2 d2 pe2 pa2 la2 LT2, f2 ≤ i + 6 → REL mm f2 z2 S2 M2 d2 pe2 pa2 la2 LT2 → jJ G X (460 + 2 * (i + 6)) (13000 + 163 * (i + 6)) z2 S2 M2 18 [(3, .int (nI (i + 6))), (0, .ref b), (1, .ref mm), (2, .ref (mm + 440))] []) : jJ G X (460 + 2 * (i)) (13000 + 163 * (i)) sz Sh M 1242 [(3, .int (nI (i))), (0, .ref b), (1, .ref mm), (2, .ref (mm + 440))] [] := by
  have hL31 : L < 2 ^ 31 := by omega
  refine j_aload_n (q := 1243) C dL_law_1242 rfl rfl rfl ?_
  refine j_aload_n (q := 1244) C dL_law_1243 rfl rfl rfl ?_
  refine j_iload_n (q := 1245) C dL_law_1244 rfl rfl rfl ?_
  refine j_iconst (v := nI 1) (q := 1246) C dL_law_1245 rfl (by decide) ?_
  first | refine j_iaddN (q := 1247) C dL_law_1246 rfl ?_ | refine j_iadd (q := 1247) C dL_law_1246 rfl ?_
  refine j_sld (q := 1248) hX hbl hL31 C dL_law_1247 rfl (by omega) ?_
  refine j_aload_n (q := 1249) C dL_law_1248 rfl rfl rfl ?_
  refine j_iload_n (q := 1250) C dL_law_1249 rfl rfl rfl ?_
  refine j_iconst (v := nI 2) (q := 1251) C dL_law_1250 rfl (by decide) ?_
  first | refine j_iaddN (q := 1252) C dL_law_1251 rfl ?_ | refine j_iadd (q := 1252) C dL_law_1251 rfl ?_
  refine j_sld (q := 1253) hX hbl hL31 C dL_law_1252 rfl (by omega) ?_
  refine j_aload_n (q := 1254) C dL_law_1253 rfl rfl rfl ?_
  refine j_iload_n (q := 1255) C dL_law_1254 rfl rfl rfl ?_
  refine j_iconst (v := nI 3) (q := 1256) C dL_law_1255 rfl (by decide) ?_
  first | refine j_iaddN (q := 1257) C dL_law_1256 rfl ?_ | refine j_iadd (q := 1257) C dL_law_1256 rfl ?_
  refine j_sld (q := 1258) hX hbl hL31 C dL_law_1257 rfl (by omega) ?_
  obtain ⟨post1, hc1, hv1, hp1⟩ := pr_sheet (G := G) h (s := vs (i + 1)) (bits := vs (i + 2)) (n := vs (i + 3))
  refine j_callV (q := 1261) jc10 C dL_law_1258 rfl h.1.1.1 mX10_sheet kw_800 kw_801 kw_802 hc1 (As := [.int (vs (i + 1)), .int (vs (i + 2)), .int (vs (i + 3))]) (rest := []) rfl rfl ⟨Nat.le_of_ble_eq_true rfl, Nat.le_of_ble_eq_true rfl⟩ (Nat.le_of_ble_eq_true rfl) ⟨by show 460 + 2 * i + 0 ≤ 600000; omega, by show 13000 + 163 * i + 0 ≤ 7302250; omega⟩ (fun r1 z S1 M1 h1 => ?_)
  obtain ⟨⟨v, rfl⟩, hs11⟩ := hv1 _ _ _ _ h1
  obtain ⟨post2, hc2, hp2⟩ := hp1 _ _ _ _ h1
  change jJ G X _ _ _ _ _ _ _ [.long v]
  refine j_aload_n (q := 1262) C dL_law_1261 rfl rfl rfl ?_
  refine j_aload_n (q := 1263) C dL_law_1262 rfl rfl rfl ?_
  refine j_iload_n (q := 1264) C dL_law_1263 rfl rfl rfl ?_
  refine j_iconst (v := nI 1) (q := 1265) C dL_law_1264 rfl (by decide) ?_
  first | refine j_iaddN (q := 1266) C dL_law_1265 rfl ?_ | refine j_iadd (q := 1266) C dL_law_1265 rfl ?_
  refine j_sld (q := 1267) hX hbl hL31 C dL_law_1266 rfl (by omega) ?_
  refine j_aload_n (q := 1268) C dL_law_1267 rfl rfl rfl ?_
  refine j_iload_n (q := 1269) C dL_law_1268 rfl rfl rfl ?_
  refine j_iconst (v := nI 2) (q := 1270) C dL_law_1269 rfl (by decide) ?_
  first | refine j_iaddN (q := 1271) C dL_law_1270 rfl ?_ | refine j_iadd (q := 1271) C dL_law_1270 rfl ?_
  refine j_sld (q := 1272) hX hbl hL31 C dL_law_1271 rfl (by omega) ?_
  refine j_aload_n (q := 1273) C dL_law_1272 rfl rfl rfl ?_
  refine j_iload_n (q := 1274) C dL_law_1273 rfl rfl rfl ?_
  refine j_iconst (v := nI 3) (q := 1275) C dL_law_1274 rfl (by decide) ?_
  first | refine j_iaddN (q := 1276) C dL_law_1275 rfl ?_ | refine j_iadd (q := 1276) C dL_law_1275 rfl ?_
  refine j_sld (q := 1277) hX hbl hL31 C dL_law_1276 rfl (by omega) ?_
  refine j_callV (q := 1280) jc11 C dL_law_1277 rfl hs11 mX11_sheet kw_1239 kw_1240 kw_1241 hc2 (As := [.int (vs (i + 1)), .int (vs (i + 2)), .int (vs (i + 3))]) (rest := [.long v]) rfl rfl ⟨Nat.le_of_ble_eq_true rfl, Nat.le_of_ble_eq_true rfl⟩ (Nat.le_of_ble_eq_true rfl) ⟨by show 460 + 2 * i + 0 + 0 ≤ 600000; omega, by show 13000 + 163 * i + 0 + 0 ≤ 7302250; omega⟩ (fun r2 z2 S2 M2 h2 => ?_)
  obtain ⟨rfl, rfl, v2, ev, rfl, -, f2, d2, pe2, pa2, la2, LT2, hf2, hR2⟩ := hp2 _ _ _ _ h2
  obtain rfl : v = v2 := by injection ev with ev; injection ev
  change jJ G X _ _ _ _ _ _ _ [.long v, .long v]
  refine j_lcmp_eq (q1 := 1281) (q := 1284) (tgt := 1446) C dL_law_1280 dL_law_1281 rfl rfl (by decide) (fun c_1281 => ?_) (fun c_1281 => absurd rfl c_1281)
  refine j_iincN (lv' := [(3, .int (nI (i + 6))), (0, .ref b), (1, .ref mm), (2, .ref (mm + 440))]) (q := 1449) C dL_law_1446 rfl rfl (by decide) rfl ?_
  refine j_goto (tgt := 18) C dL_law_1449 (by decide) ?_
  exact j_fewer (lv' := [(3, .int (nI (i + 6))), (0, .ref b), (1, .ref mm), (2, .ref (mm + 440))]) (by simp) (j_widen (by show 460 + 2 * i + 0 + 0 ≤ 460 + 2 * (i + 6); omega) (by show 13000 + 163 * i + 0 + 0 ≤ 13000 + 163 * (i + 6); omega) (nx _ _ _ _ _ _ _ _ _ (by omega) hR2))
set_option maxRecDepth 100000 in
set_option maxHeartbeats 4000000 in
theorem cs_put {G : jG} {X : jX} {nmL : String} {b L : Nat} {vs : Nat → Int32} (hX : va_X b L vs (xs X) (xs X).heap) (hbl : b < gN G) (hL : L ≤ 3072) (C : jOk G X (lYr nmL) cL_law 4 room_1) {mm f sz i : Nat} {Sh : jS} {M : jM} {d pe pa la : Nat} {LT : Nat → sT} (h : REL mm f sz Sh M d pe pa la LT) (hf : f ≤ i) (hi : i + 6 ≤ L) (nx : ∀ z2 S2 M2 f2 d2 pe2 pa2 la2 LT2, f2 ≤ i + 6 → REL mm f2 z2 S2 M2 d2 pe2 pa2 la2 LT2 → jJ G X (460 + 2 * (i + 6)) (13000 + 163 * (i + 6)) z2 S2 M2 18 [(3, .int (nI (i + 6))), (0, .ref b), (1, .ref mm), (2, .ref (mm + 440))] []) : jJ G X (460 + 2 * (i)) (13000 + 163 * (i)) sz Sh M 1286 [(3, .int (nI (i))), (0, .ref b), (1, .ref mm), (2, .ref (mm + 440))] [] := by
  have hL31 : L < 2 ^ 31 := by omega
  refine j_aload_n (q := 1287) C dL_law_1286 rfl rfl rfl ?_
  refine j_aload_n (q := 1288) C dL_law_1287 rfl rfl rfl ?_
  refine j_iload_n (q := 1289) C dL_law_1288 rfl rfl rfl ?_
  refine j_iconst (v := nI 1) (q := 1290) C dL_law_1289 rfl (by decide) ?_
  first | refine j_iaddN (q := 1291) C dL_law_1290 rfl ?_ | refine j_iadd (q := 1291) C dL_law_1290 rfl ?_
  refine j_sld (q := 1292) hX hbl hL31 C dL_law_1291 rfl (by omega) ?_
  refine j_aload_n (q := 1293) C dL_law_1292 rfl rfl rfl ?_
  refine j_iload_n (q := 1294) C dL_law_1293 rfl rfl rfl ?_
  refine j_iconst (v := nI 2) (q := 1295) C dL_law_1294 rfl (by decide) ?_
  first | refine j_iaddN (q := 1296) C dL_law_1295 rfl ?_ | refine j_iadd (q := 1296) C dL_law_1295 rfl ?_
  refine j_sld (q := 1297) hX hbl hL31 C dL_law_1296 rfl (by omega) ?_
  refine j_aload_n (q := 1298) C dL_law_1297 rfl rfl rfl ?_
  refine j_iload_n (q := 1299) C dL_law_1298 rfl rfl rfl ?_
  refine j_iconst (v := nI 3) (q := 1300) C dL_law_1299 rfl (by decide) ?_
  first | refine j_iaddN (q := 1301) C dL_law_1300 rfl ?_ | refine j_iadd (q := 1301) C dL_law_1300 rfl ?_
  refine j_sld (q := 1302) hX hbl hL31 C dL_law_1301 rfl (by omega) ?_
  obtain ⟨post1, hc1, hv1, hp1⟩ := pr_put (G := G) h (s := vs (i + 1)) (i := vs (i + 2)) (v := vs (i + 3))
  refine j_callV (q := 1305) jc10 C dL_law_1302 rfl h.1.1.1 mX10_put kw_811 kw_812 kw_813 hc1 (As := [.int (vs (i + 1)), .int (vs (i + 2)), .int (vs (i + 3))]) (rest := []) rfl rfl ⟨Nat.le_of_ble_eq_true rfl, Nat.le_of_ble_eq_true rfl⟩ (Nat.le_of_ble_eq_true rfl) ⟨by show 460 + 2 * i + 0 ≤ 600000; omega, by show 13000 + 163 * i + 0 ≤ 7302250; omega⟩ (fun r1 z S1 M1 h1 => ?_)
  obtain ⟨⟨v, rfl⟩, hs11⟩ := hv1 _ _ _ _ h1
  obtain ⟨post2, hc2, hp2⟩ := hp1 _ _ _ _ h1
  change jJ G X _ _ _ _ _ _ _ [.long v]
  refine j_aload_n (q := 1306) C dL_law_1305 rfl rfl rfl ?_
  refine j_aload_n (q := 1307) C dL_law_1306 rfl rfl rfl ?_
  refine j_iload_n (q := 1308) C dL_law_1307 rfl rfl rfl ?_
  refine j_iconst (v := nI 1) (q := 1309) C dL_law_1308 rfl (by decide) ?_
  first | refine j_iaddN (q := 1310) C dL_law_1309 rfl ?_ | refine j_iadd (q := 1310) C dL_law_1309 rfl ?_
  refine j_sld (q := 1311) hX hbl hL31 C dL_law_1310 rfl (by omega) ?_
  refine j_aload_n (q := 1312) C dL_law_1311 rfl rfl rfl ?_
  refine j_iload_n (q := 1313) C dL_law_1312 rfl rfl rfl ?_
  refine j_iconst (v := nI 2) (q := 1314) C dL_law_1313 rfl (by decide) ?_
  first | refine j_iaddN (q := 1315) C dL_law_1314 rfl ?_ | refine j_iadd (q := 1315) C dL_law_1314 rfl ?_
  refine j_sld (q := 1316) hX hbl hL31 C dL_law_1315 rfl (by omega) ?_
  refine j_aload_n (q := 1317) C dL_law_1316 rfl rfl rfl ?_
  refine j_iload_n (q := 1318) C dL_law_1317 rfl rfl rfl ?_
  refine j_iconst (v := nI 3) (q := 1319) C dL_law_1318 rfl (by decide) ?_
  first | refine j_iaddN (q := 1320) C dL_law_1319 rfl ?_ | refine j_iadd (q := 1320) C dL_law_1319 rfl ?_
  refine j_sld (q := 1321) hX hbl hL31 C dL_law_1320 rfl (by omega) ?_
  refine j_callV (q := 1324) jc11 C dL_law_1321 rfl hs11 mX11_put kw_1243 kw_1244 kw_1245 hc2 (As := [.int (vs (i + 1)), .int (vs (i + 2)), .int (vs (i + 3))]) (rest := [.long v]) rfl rfl ⟨Nat.le_of_ble_eq_true rfl, Nat.le_of_ble_eq_true rfl⟩ (Nat.le_of_ble_eq_true rfl) ⟨by show 460 + 2 * i + 0 + 0 ≤ 600000; omega, by show 13000 + 163 * i + 0 + 0 ≤ 7302250; omega⟩ (fun r2 z2 S2 M2 h2 => ?_)
  obtain ⟨rfl, rfl, v2, ev, rfl, -, f2, d2, pe2, pa2, la2, LT2, hf2, hR2⟩ := hp2 _ _ _ _ h2
  obtain rfl : v = v2 := by injection ev with ev; injection ev
  change jJ G X _ _ _ _ _ _ _ [.long v, .long v]
  refine j_lcmp_eq (q1 := 1325) (q := 1328) (tgt := 1446) C dL_law_1324 dL_law_1325 rfl rfl (by decide) (fun c_1325 => ?_) (fun c_1325 => absurd rfl c_1325)
  refine j_iincN (lv' := [(3, .int (nI (i + 6))), (0, .ref b), (1, .ref mm), (2, .ref (mm + 440))]) (q := 1449) C dL_law_1446 rfl rfl (by decide) rfl ?_
  refine j_goto (tgt := 18) C dL_law_1449 (by decide) ?_
  exact j_fewer (lv' := [(3, .int (nI (i + 6))), (0, .ref b), (1, .ref mm), (2, .ref (mm + 440))]) (by simp) (j_widen (by show 460 + 2 * i + 0 + 0 ≤ 460 + 2 * (i + 6); omega) (by show 13000 + 163 * i + 0 + 0 ≤ 13000 + 163 * (i + 6); omega) (nx _ _ _ _ _ _ _ _ _ (by omega) hR2))
set_option maxRecDepth 100000 in
set_option maxHeartbeats 4000000 in
theorem cs_copy {G : jG} {X : jX} {nmL : String} {b L : Nat} {vs : Nat → Int32} (hX : va_X b L vs (xs X) (xs X).heap) (hbl : b < gN G) (hL : L ≤ 3072) (C : jOk G X (lYr nmL) cL_law 4 room_1) {mm f sz i : Nat} {Sh : jS} {M : jM} {d pe pa la : Nat} {LT : Nat → sT} (h : REL mm f sz Sh M d pe pa la LT) (hf : f ≤ i) (hi : i + 6 ≤ L) (nx : ∀ z2 S2 M2 f2 d2 pe2 pa2 la2 LT2, f2 ≤ i + 6 → REL mm f2 z2 S2 M2 d2 pe2 pa2 la2 LT2 → jJ G X (460 + 2 * (i + 6)) (13000 + 163 * (i + 6)) z2 S2 M2 18 [(3, .int (nI (i + 6))), (0, .ref b), (1, .ref mm), (2, .ref (mm + 440))] []) : jJ G X (460 + 2 * (i)) (13000 + 163 * (i)) sz Sh M 1330 [(3, .int (nI (i))), (0, .ref b), (1, .ref mm), (2, .ref (mm + 440))] [] := by
  have hL31 : L < 2 ^ 31 := by omega
  refine j_aload_n (q := 1331) C dL_law_1330 rfl rfl rfl ?_
  refine j_aload_n (q := 1332) C dL_law_1331 rfl rfl rfl ?_
  refine j_iload_n (q := 1333) C dL_law_1332 rfl rfl rfl ?_
  refine j_iconst (v := nI 1) (q := 1334) C dL_law_1333 rfl (by decide) ?_
  first | refine j_iaddN (q := 1335) C dL_law_1334 rfl ?_ | refine j_iadd (q := 1335) C dL_law_1334 rfl ?_
  refine j_sld (q := 1336) hX hbl hL31 C dL_law_1335 rfl (by omega) ?_
  refine j_aload_n (q := 1337) C dL_law_1336 rfl rfl rfl ?_
  refine j_iload_n (q := 1338) C dL_law_1337 rfl rfl rfl ?_
  refine j_iconst (v := nI 2) (q := 1339) C dL_law_1338 rfl (by decide) ?_
  first | refine j_iaddN (q := 1340) C dL_law_1339 rfl ?_ | refine j_iadd (q := 1340) C dL_law_1339 rfl ?_
  refine j_sld (q := 1341) hX hbl hL31 C dL_law_1340 rfl (by omega) ?_
  refine j_aload_n (q := 1342) C dL_law_1341 rfl rfl rfl ?_
  refine j_iload_n (q := 1343) C dL_law_1342 rfl rfl rfl ?_
  refine j_iconst (v := nI 3) (q := 1344) C dL_law_1343 rfl (by decide) ?_
  first | refine j_iaddN (q := 1345) C dL_law_1344 rfl ?_ | refine j_iadd (q := 1345) C dL_law_1344 rfl ?_
  refine j_sld (q := 1346) hX hbl hL31 C dL_law_1345 rfl (by omega) ?_
  refine j_aload_n (q := 1347) C dL_law_1346 rfl rfl rfl ?_
  refine j_iload_n (q := 1348) C dL_law_1347 rfl rfl rfl ?_
  refine j_iconst (v := nI 4) (q := 1349) C dL_law_1348 rfl (by decide) ?_
  first | refine j_iaddN (q := 1350) C dL_law_1349 rfl ?_ | refine j_iadd (q := 1350) C dL_law_1349 rfl ?_
  refine j_sld (q := 1351) hX hbl hL31 C dL_law_1350 rfl (by omega) ?_
  refine j_aload_n (q := 1352) C dL_law_1351 rfl rfl rfl ?_
  refine j_iload_n (q := 1353) C dL_law_1352 rfl rfl rfl ?_
  refine j_iconst (v := nI 5) (q := 1354) C dL_law_1353 rfl (by decide) ?_
  first | refine j_iaddN (q := 1355) C dL_law_1354 rfl ?_ | refine j_iadd (q := 1355) C dL_law_1354 rfl ?_
  refine j_sld (q := 1356) hX hbl hL31 C dL_law_1355 rfl (by omega) ?_
  obtain ⟨post1, hc1, hv1, hp1⟩ := pr_copy (G := G) h (s := vs (i + 1)) (f_ := vs (i + 2)) (t := vs (i + 3)) (u := vs (i + 4)) (n := vs (i + 5))
  refine j_callV (q := 1359) jc10 C dL_law_1356 rfl h.1.1.1 mX10_copy kw_819 kw_820 kw_821 hc1 (As := [.int (vs (i + 1)), .int (vs (i + 2)), .int (vs (i + 3)), .int (vs (i + 4)), .int (vs (i + 5))]) (rest := []) rfl rfl ⟨Nat.le_of_ble_eq_true rfl, Nat.le_of_ble_eq_true rfl⟩ (Nat.le_of_ble_eq_true rfl) ⟨by show 460 + 2 * i + 0 ≤ 600000; omega, by show 13000 + 163 * i + 0 ≤ 7302250; omega⟩ (fun r1 z S1 M1 h1 => ?_)
  obtain ⟨⟨v, rfl⟩, hs11⟩ := hv1 _ _ _ _ h1
  obtain ⟨post2, hc2, hp2⟩ := hp1 _ _ _ _ h1
  change jJ G X _ _ _ _ _ _ _ [.long v]
  refine j_aload_n (q := 1360) C dL_law_1359 rfl rfl rfl ?_
  refine j_aload_n (q := 1361) C dL_law_1360 rfl rfl rfl ?_
  refine j_iload_n (q := 1362) C dL_law_1361 rfl rfl rfl ?_
  refine j_iconst (v := nI 1) (q := 1363) C dL_law_1362 rfl (by decide) ?_
  first | refine j_iaddN (q := 1364) C dL_law_1363 rfl ?_ | refine j_iadd (q := 1364) C dL_law_1363 rfl ?_
  refine j_sld (q := 1365) hX hbl hL31 C dL_law_1364 rfl (by omega) ?_
  refine j_aload_n (q := 1366) C dL_law_1365 rfl rfl rfl ?_
  refine j_iload_n (q := 1367) C dL_law_1366 rfl rfl rfl ?_
  refine j_iconst (v := nI 2) (q := 1368) C dL_law_1367 rfl (by decide) ?_
  first | refine j_iaddN (q := 1369) C dL_law_1368 rfl ?_ | refine j_iadd (q := 1369) C dL_law_1368 rfl ?_
  refine j_sld (q := 1370) hX hbl hL31 C dL_law_1369 rfl (by omega) ?_
  refine j_aload_n (q := 1371) C dL_law_1370 rfl rfl rfl ?_
  refine j_iload_n (q := 1372) C dL_law_1371 rfl rfl rfl ?_
  refine j_iconst (v := nI 3) (q := 1373) C dL_law_1372 rfl (by decide) ?_
  first | refine j_iaddN (q := 1374) C dL_law_1373 rfl ?_ | refine j_iadd (q := 1374) C dL_law_1373 rfl ?_
  refine j_sld (q := 1375) hX hbl hL31 C dL_law_1374 rfl (by omega) ?_
  refine j_aload_n (q := 1376) C dL_law_1375 rfl rfl rfl ?_
  refine j_iload_n (q := 1377) C dL_law_1376 rfl rfl rfl ?_
  refine j_iconst (v := nI 4) (q := 1378) C dL_law_1377 rfl (by decide) ?_
  first | refine j_iaddN (q := 1379) C dL_law_1378 rfl ?_ | refine j_iadd (q := 1379) C dL_law_1378 rfl ?_
  refine j_sld (q := 1380) hX hbl hL31 C dL_law_1379 rfl (by omega) ?_
  refine j_aload_n (q := 1381) C dL_law_1380 rfl rfl rfl ?_
  refine j_iload_n (q := 1382) C dL_law_1381 rfl rfl rfl ?_
  refine j_iconst (v := nI 5) (q := 1383) C dL_law_1382 rfl (by decide) ?_
  first | refine j_iaddN (q := 1384) C dL_law_1383 rfl ?_ | refine j_iadd (q := 1384) C dL_law_1383 rfl ?_
  refine j_sld (q := 1385) hX hbl hL31 C dL_law_1384 rfl (by omega) ?_
  refine j_callV (q := 1388) jc11 C dL_law_1385 rfl hs11 mX11_copy kw_1247 kw_1248 kw_1249 hc2 (As := [.int (vs (i + 1)), .int (vs (i + 2)), .int (vs (i + 3)), .int (vs (i + 4)), .int (vs (i + 5))]) (rest := [.long v]) rfl rfl ⟨Nat.le_of_ble_eq_true rfl, Nat.le_of_ble_eq_true rfl⟩ (Nat.le_of_ble_eq_true rfl) ⟨by show 460 + 2 * i + 0 + 0 ≤ 600000; omega, by show 13000 + 163 * i + 0 + 0 ≤ 7302250; omega⟩ (fun r2 z2 S2 M2 h2 => ?_)
  obtain ⟨rfl, rfl, v2, ev, rfl, -, f2, d2, pe2, pa2, la2, LT2, hf2, hR2⟩ := hp2 _ _ _ _ h2
  obtain rfl : v = v2 := by injection ev with ev; injection ev
  change jJ G X _ _ _ _ _ _ _ [.long v, .long v]
  refine j_lcmp_eq (q1 := 1389) (q := 1392) (tgt := 1446) C dL_law_1388 dL_law_1389 rfl rfl (by decide) (fun c_1389 => ?_) (fun c_1389 => absurd rfl c_1389)
  refine j_iincN (lv' := [(3, .int (nI (i + 6))), (0, .ref b), (1, .ref mm), (2, .ref (mm + 440))]) (q := 1449) C dL_law_1446 rfl rfl (by decide) rfl ?_
  refine j_goto (tgt := 18) C dL_law_1449 (by decide) ?_
  exact j_fewer (lv' := [(3, .int (nI (i + 6))), (0, .ref b), (1, .ref mm), (2, .ref (mm + 440))]) (by simp) (j_widen (by show 460 + 2 * i + 0 + 0 ≤ 460 + 2 * (i + 6); omega) (by show 13000 + 163 * i + 0 + 0 ≤ 13000 + 163 * (i + 6); omega) (nx _ _ _ _ _ _ _ _ _ (by omega) hR2))
set_option maxRecDepth 100000 in
set_option maxHeartbeats 4000000 in
theorem cs_image {G : jG} {X : jX} {nmL : String} {b L : Nat} {vs : Nat → Int32} (hX : va_X b L vs (xs X) (xs X).heap) (hbl : b < gN G) (hL : L ≤ 3072) (C : jOk G X (lYr nmL) cL_law 4 room_1) {mm f sz i : Nat} {Sh : jS} {M : jM} {d pe pa la : Nat} {LT : Nat → sT} (h : REL mm f sz Sh M d pe pa la LT) (hf : f ≤ i) (hi : i + 6 ≤ L) (nx : ∀ z2 S2 M2 f2 d2 pe2 pa2 la2 LT2, f2 ≤ i + 6 → REL mm f2 z2 S2 M2 d2 pe2 pa2 la2 LT2 → jJ G X (460 + 2 * (i + 6)) (13000 + 163 * (i + 6)) z2 S2 M2 18 [(3, .int (nI (i + 6))), (0, .ref b), (1, .ref mm), (2, .ref (mm + 440))] []) : jJ G X (460 + 2 * (i)) (13000 + 163 * (i)) sz Sh M 1394 [(3, .int (nI (i))), (0, .ref b), (1, .ref mm), (2, .ref (mm + 440))] [] := by
  have hL31 : L < 2 ^ 31 := by omega
  refine j_aload_n (q := 1395) C dL_law_1394 rfl rfl rfl ?_
  obtain ⟨post1, hc1, hv1, hp1⟩ := pr_image (G := G) h 
  refine j_callV (q := 1398) jc10 C dL_law_1395 rfl h.1.1.1 mX10_image kw_828 kw_829 kw_830 hc1 (As := []) (rest := []) rfl rfl ⟨Nat.le_of_ble_eq_true rfl, Nat.le_of_ble_eq_true rfl⟩ (Nat.le_of_ble_eq_true rfl) ⟨by show 460 + 2 * i + 0 ≤ 600000; omega, by show 13000 + 163 * i + 0 ≤ 7302250; omega⟩ (fun r1 z S1 M1 h1 => ?_)
  obtain ⟨⟨v, rfl⟩, hs11⟩ := hv1 _ _ _ _ h1
  obtain ⟨post2, hc2, hp2⟩ := hp1 _ _ _ _ h1
  change jJ G X _ _ _ _ _ _ _ [.long v]
  refine j_aload_n (q := 1399) C dL_law_1398 rfl rfl rfl ?_
  refine j_callV (q := 1402) jc11 C dL_law_1399 rfl hs11 mX11_image kw_1251 kw_1252 kw_1253 hc2 (As := []) (rest := [.long v]) rfl rfl ⟨Nat.le_of_ble_eq_true rfl, Nat.le_of_ble_eq_true rfl⟩ (Nat.le_of_ble_eq_true rfl) ⟨by show 460 + 2 * i + 0 + 0 ≤ 600000; omega, by show 13000 + 163 * i + 0 + 0 ≤ 7302250; omega⟩ (fun r2 z2 S2 M2 h2 => ?_)
  obtain ⟨rfl, rfl, v2, ev, rfl, -, f2, d2, pe2, pa2, la2, LT2, hf2, hR2⟩ := hp2 _ _ _ _ h2
  obtain rfl : v = v2 := by injection ev with ev; injection ev
  change jJ G X _ _ _ _ _ _ _ [.long v, .long v]
  refine j_lcmp_eq (q1 := 1403) (q := 1406) (tgt := 1446) C dL_law_1402 dL_law_1403 rfl rfl (by decide) (fun c_1403 => ?_) (fun c_1403 => absurd rfl c_1403)
  refine j_iincN (lv' := [(3, .int (nI (i + 6))), (0, .ref b), (1, .ref mm), (2, .ref (mm + 440))]) (q := 1449) C dL_law_1446 rfl rfl (by decide) rfl ?_
  refine j_goto (tgt := 18) C dL_law_1449 (by decide) ?_
  exact j_fewer (lv' := [(3, .int (nI (i + 6))), (0, .ref b), (1, .ref mm), (2, .ref (mm + 440))]) (by simp) (j_widen (by show 460 + 2 * i + 0 + 0 ≤ 460 + 2 * (i + 6); omega) (by show 13000 + 163 * i + 0 + 0 ≤ 13000 + 163 * (i + 6); omega) (nx _ _ _ _ _ _ _ _ _ (by omega) hR2))
set_option maxRecDepth 100000 in
set_option maxHeartbeats 4000000 in
theorem cs_restore {G : jG} {X : jX} {nmL : String} {b L : Nat} {vs : Nat → Int32} (hX : va_X b L vs (xs X) (xs X).heap) (hbl : b < gN G) (hL : L ≤ 3072) (C : jOk G X (lYr nmL) cL_law 4 room_1) {mm f sz i : Nat} {Sh : jS} {M : jM} {d pe pa la : Nat} {LT : Nat → sT} (h : REL mm f sz Sh M d pe pa la LT) (hf : f ≤ i) (hi : i + 6 ≤ L) (nx : ∀ z2 S2 M2 f2 d2 pe2 pa2 la2 LT2, f2 ≤ i + 6 → REL mm f2 z2 S2 M2 d2 pe2 pa2 la2 LT2 → jJ G X (460 + 2 * (i + 6)) (13000 + 163 * (i + 6)) z2 S2 M2 18 [(3, .int (nI (i + 6))), (0, .ref b), (1, .ref mm), (2, .ref (mm + 440))] []) : jJ G X (460 + 2 * (i)) (13000 + 163 * (i)) sz Sh M 1408 [(3, .int (nI (i))), (0, .ref b), (1, .ref mm), (2, .ref (mm + 440))] [] := by
  have hL31 : L < 2 ^ 31 := by omega
  refine j_aload_n (q := 1409) C dL_law_1408 rfl rfl rfl ?_
  obtain ⟨post1, hc1, hv1, hp1⟩ := pr_restore (G := G) h 
  refine j_callV (q := 1412) jc10 C dL_law_1409 rfl h.1.1.1 mX10_restore kw_842 kw_843 kw_844 hc1 (As := []) (rest := []) rfl rfl ⟨Nat.le_of_ble_eq_true rfl, Nat.le_of_ble_eq_true rfl⟩ (Nat.le_of_ble_eq_true rfl) ⟨by show 460 + 2 * i + 0 ≤ 600000; omega, by show 13000 + 163 * i + 0 ≤ 7302250; omega⟩ (fun r1 z S1 M1 h1 => ?_)
  obtain ⟨⟨v, rfl⟩, hs11⟩ := hv1 _ _ _ _ h1
  obtain ⟨post2, hc2, hp2⟩ := hp1 _ _ _ _ h1
  change jJ G X _ _ _ _ _ _ _ [.long v]
  refine j_aload_n (q := 1413) C dL_law_1412 rfl rfl rfl ?_
  refine j_callV (q := 1416) jc11 C dL_law_1413 rfl hs11 mX11_restore kw_1255 kw_1256 kw_1257 hc2 (As := []) (rest := [.long v]) rfl rfl ⟨Nat.le_of_ble_eq_true rfl, Nat.le_of_ble_eq_true rfl⟩ (Nat.le_of_ble_eq_true rfl) ⟨by show 460 + 2 * i + 0 + 0 ≤ 600000; omega, by show 13000 + 163 * i + 0 + 0 ≤ 7302250; omega⟩ (fun r2 z2 S2 M2 h2 => ?_)
  obtain ⟨rfl, rfl, v2, ev, rfl, -, f2, d2, pe2, pa2, la2, LT2, hf2, hR2⟩ := hp2 _ _ _ _ h2
  obtain rfl : v = v2 := by injection ev with ev; injection ev
  change jJ G X _ _ _ _ _ _ _ [.long v, .long v]
  refine j_lcmp_eq (q1 := 1417) (q := 1420) (tgt := 1446) C dL_law_1416 dL_law_1417 rfl rfl (by decide) (fun c_1417 => ?_) (fun c_1417 => absurd rfl c_1417)
  refine j_iincN (lv' := [(3, .int (nI (i + 6))), (0, .ref b), (1, .ref mm), (2, .ref (mm + 440))]) (q := 1449) C dL_law_1446 rfl rfl (by decide) rfl ?_
  refine j_goto (tgt := 18) C dL_law_1449 (by decide) ?_
  exact j_fewer (lv' := [(3, .int (nI (i + 6))), (0, .ref b), (1, .ref mm), (2, .ref (mm + 440))]) (by simp) (j_widen (by show 460 + 2 * i + 0 + 0 ≤ 460 + 2 * (i + 6); omega) (by show 13000 + 163 * i + 0 + 0 ≤ 13000 + 163 * (i + 6); omega) (nx _ _ _ _ _ _ _ _ _ (by omega) hR2))
set_option maxRecDepth 100000 in
set_option maxHeartbeats 4000000 in
theorem cs_count {G : jG} {X : jX} {nmL : String} {b L : Nat} {vs : Nat → Int32} (hX : va_X b L vs (xs X) (xs X).heap) (hbl : b < gN G) (hL : L ≤ 3072) (C : jOk G X (lYr nmL) cL_law 4 room_1) {mm f sz i : Nat} {Sh : jS} {M : jM} {d pe pa la : Nat} {LT : Nat → sT} (h : REL mm f sz Sh M d pe pa la LT) (hf : f ≤ i) (hi : i + 6 ≤ L) (nx : ∀ z2 S2 M2 f2 d2 pe2 pa2 la2 LT2, f2 ≤ i + 6 → REL mm f2 z2 S2 M2 d2 pe2 pa2 la2 LT2 → jJ G X (460 + 2 * (i + 6)) (13000 + 163 * (i + 6)) z2 S2 M2 18 [(3, .int (nI (i + 6))), (0, .ref b), (1, .ref mm), (2, .ref (mm + 440))] []) : jJ G X (460 + 2 * (i)) (13000 + 163 * (i)) sz Sh M 1422 [(3, .int (nI (i))), (0, .ref b), (1, .ref mm), (2, .ref (mm + 440))] [] := by
  have hL31 : L < 2 ^ 31 := by omega
  refine j_aload_n (q := 1423) C dL_law_1422 rfl rfl rfl ?_
  refine j_aload_n (q := 1424) C dL_law_1423 rfl rfl rfl ?_
  refine j_iload_n (q := 1425) C dL_law_1424 rfl rfl rfl ?_
  refine j_iconst (v := nI 1) (q := 1426) C dL_law_1425 rfl (by decide) ?_
  first | refine j_iaddN (q := 1427) C dL_law_1426 rfl ?_ | refine j_iadd (q := 1427) C dL_law_1426 rfl ?_
  refine j_sld (q := 1428) hX hbl hL31 C dL_law_1427 rfl (by omega) ?_
  obtain ⟨post1, hc1, hv1, hp1⟩ := pr_count (G := G) h (show f < 2 ^ 31 by omega) (x := vs (i + 1))
  refine j_callV (q := 1431) jc10 C dL_law_1428 rfl h.1.1.1 mX10_count kw_846 kw_847 kw_848 hc1 (As := [.int (vs (i + 1))]) (rest := []) rfl rfl ⟨Nat.le_of_ble_eq_true rfl, Nat.le_of_ble_eq_true rfl⟩ (Nat.le_of_ble_eq_true rfl) ⟨by show 460 + 2 * i + 0 ≤ 600000; omega, by show 13000 + 163 * i + 0 ≤ 7302250; omega⟩ (fun r1 z S1 M1 h1 => ?_)
  obtain ⟨⟨v, rfl⟩, hs11⟩ := hv1 _ _ _ _ h1
  obtain ⟨post2, hc2, hp2⟩ := hp1 _ _ _ _ h1
  change jJ G X _ _ _ _ _ _ _ [.long v]
  refine j_aload_n (q := 1432) C dL_law_1431 rfl rfl rfl ?_
  refine j_aload_n (q := 1433) C dL_law_1432 rfl rfl rfl ?_
  refine j_iload_n (q := 1434) C dL_law_1433 rfl rfl rfl ?_
  refine j_iconst (v := nI 1) (q := 1435) C dL_law_1434 rfl (by decide) ?_
  first | refine j_iaddN (q := 1436) C dL_law_1435 rfl ?_ | refine j_iadd (q := 1436) C dL_law_1435 rfl ?_
  refine j_sld (q := 1437) hX hbl hL31 C dL_law_1436 rfl (by omega) ?_
  refine j_callV (q := 1440) jc11 C dL_law_1437 rfl hs11 mX11_count kw_1259 kw_1260 kw_1261 hc2 (As := [.int (vs (i + 1))]) (rest := [.long v]) rfl rfl ⟨Nat.le_of_ble_eq_true rfl, Nat.le_of_ble_eq_true rfl⟩ (Nat.le_of_ble_eq_true rfl) ⟨by show 460 + 2 * i + 0 + 0 ≤ 600000; omega, by show 13000 + 163 * i + 0 + 0 ≤ 7302250; omega⟩ (fun r2 z2 S2 M2 h2 => ?_)
  obtain ⟨rfl, rfl, v2, ev, rfl, -, f2, d2, pe2, pa2, la2, LT2, hf2, hR2⟩ := hp2 _ _ _ _ h2
  obtain rfl : v = v2 := by injection ev with ev; injection ev
  change jJ G X _ _ _ _ _ _ _ [.long v, .long v]
  refine j_lcmp_eq (q1 := 1441) (q := 1444) (tgt := 1446) C dL_law_1440 dL_law_1441 rfl rfl (by decide) (fun c_1441 => ?_) (fun c_1441 => absurd rfl c_1441)
  refine j_iincN (lv' := [(3, .int (nI (i + 6))), (0, .ref b), (1, .ref mm), (2, .ref (mm + 440))]) (q := 1449) C dL_law_1446 rfl rfl (by decide) rfl ?_
  refine j_goto (tgt := 18) C dL_law_1449 (by decide) ?_
  exact j_fewer (lv' := [(3, .int (nI (i + 6))), (0, .ref b), (1, .ref mm), (2, .ref (mm + 440))]) (by simp) (j_widen (by show 460 + 2 * i + 0 + 0 ≤ 460 + 2 * (i + 6); omega) (by show 13000 + 163 * i + 0 + 0 ≤ 13000 + 163 * (i + 6); omega) (nx _ _ _ _ _ _ _ _ _ (by omega) hR2))
