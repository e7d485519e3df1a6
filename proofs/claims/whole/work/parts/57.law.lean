abbrev mLw (nm : String) : xM := (⟨RL, nm, "([I)Z"⟩, cL_law, 4, some .boolean)
section
variable {X : xS} {nm : String}
theorem gt6 {L i : Nat} (hL : L ≤ 4000) (hi : i ≤ 4000 ∧ L < i + 6) : nI L - 6 < nI i := by
  rw [Int32.lt_iff_toInt_lt, show (6 : Int32) = nI 6 from rfl, pk_sub_toInt (by omega) (by omega), nI_toInt (by omega)]
  omega
theorem le6 {L i : Nat} (hL : L ≤ 4000) (hi : i ≤ 4000 ∧ i + 6 ≤ L) : ¬ nI L - 6 < nI i := by
  rw [Int32.lt_iff_toInt_lt, show (6 : Int32) = nI 6 from rfl, pk_sub_toInt (by omega) (by omega), nI_toInt (by omega)]
  omega
set_option maxRecDepth 100000 in
theorem lc_wind {i : Nat} {f0 f1 f2 : Nat → Int32} {o : xO} {mf wf : Nat → Int32} {q : xQ} (hi : i + 6 ≤ X.1) (hXL : X.1 < 2 ^ 31) (HO : ∀ (f0 f1 f2 : Nat → Int32) (o : xO) (mf wf : Nat → Int32) (q : xQ), IV o f0 f2 q mf → xGo X false (12 + 1) 0 0 (mLw nm) 18 [some (.ref 1000), some (.ref 0), some (.ref 62), some (.int (nI (i + 6)))] [] (hp (tri f0 f1 f2) o mf wf q) (fun v _ => v = [.int 1])) (I : IV o f0 f2 q mf) : xGo X false (12 + 1) 0 0 (mLw nm) 200 [some (.ref 1000), some (.ref 0), some (.ref 62), some (.int (nI i))] [] (hp (tri f0 f1 f2) o mf wf q) (fun v _ => v = [.int 1]) := by
  refine xg_aload_n (pc := 200) dL_law_200 rfl ?_
  refine xg_aload_n (pc := 201) dL_law_201 rfl ?_
  refine xg_iload_n (pc := 202) dL_law_202 rfl ?_
  refine xg_iconst (v := 1) (pc := 203) dL_law_203 (by decide) ?_
  refine xg_iadd (pc := 204) dL_law_204 ?_
  refine xg_siald (pc := 205) (i + 1) dL_law_205 (by simp only [xlit, nI_add, pk_mul]) (by omega) hXL ?_
  refine xg_aload_n (pc := 206) dL_law_206 rfl ?_
  refine xg_iload_n (pc := 207) dL_law_207 rfl ?_
  refine xg_iconst (v := 2) (pc := 208) dL_law_208 (by decide) ?_
  refine xg_iadd (pc := 209) dL_law_209 ?_
  refine xg_siald (pc := 210) (i + 2) dL_law_210 (by simp only [xlit, nI_add, pk_mul]) (by omega) hXL ?_
  refine xg_callv (k1 := 0) (n1 := 0) (k2 := 0) (n2 := 0) (pc := 211) (as := [.int (X.2 (i + 1)), .int (X.2 (i + 2))]) (rest := []) (M' := mX6_wind) dL_law_211 lkL_13 mcX6_wind hp_0 rfl (two_wind I) rfl rfl (Nat.le_of_ble_eq_true rfl) rfl rfl (fun v h' hq => ?_)
  obtain ⟨x, o2, g0, g1, g2, ⟨y, rfl⟩, rfl, rfl, h7⟩ := hq
  show xGo X false (12 + 1) 0 0 (mLw nm) 214 [some (.ref 1000), some (.ref 0), some (.ref 62), some (.int (nI i))] [.int y] (hp (tri g0 g1 g2) o2 mf wf q) (fun v _ => v = [.int 1])
  refine xg_aload_n (pc := 214) dL_law_214 rfl ?_
  refine xg_aload_n (pc := 215) dL_law_215 rfl ?_
  refine xg_iload_n (pc := 216) dL_law_216 rfl ?_
  refine xg_iconst (v := 1) (pc := 217) dL_law_217 (by decide) ?_
  refine xg_iadd (pc := 218) dL_law_218 ?_
  refine xg_siald (pc := 219) (i + 1) dL_law_219 (by simp only [xlit, nI_add, pk_mul]) (by omega) hXL ?_
  refine xg_aload_n (pc := 220) dL_law_220 rfl ?_
  refine xg_iload_n (pc := 221) dL_law_221 rfl ?_
  refine xg_iconst (v := 2) (pc := 222) dL_law_222 (by decide) ?_
  refine xg_iadd (pc := 223) dL_law_223 ?_
  refine xg_siald (pc := 224) (i + 2) dL_law_224 (by simp only [xlit, nI_add, pk_mul]) (by omega) hXL ?_
  refine xg_callv (k1 := 0) (n1 := 0) (k2 := 0) (n2 := 0) (pc := 225) (as := [.int (X.2 (i + 1)), .int (X.2 (i + 2))]) (rest := [.int y]) (M' := mX7_wind) dL_law_225 lkL_17 mcX7_wind hp_62 rfl h7 rfl rfl (Nat.le_of_ble_eq_true rfl) rfl rfl (fun v h' hq => ?_)
  obtain ⟨rfl, mf2, wf2, q2, I2, rfl⟩ := hq
  show xGo X false (12 + 1) 0 0 (mLw nm) 228 [some (.ref 1000), some (.ref 0), some (.ref 62), some (.int (nI i))] [.int y, .int y] (hp (tri g0 g1 g2) o2 mf2 wf2 q2) (fun v _ => v = [.int 1])
  refine xg_icmp_eq (pc := 228) (tgt := 1385) dL_law_228 (by decide) (fun c_228 => ?_) (fun c_228 => absurd c_228 (fun z => z rfl))
  refine xg_iinc (pc := 1385) (y := (nI i) + 6) (ls' := [some (.ref 1000), some (.ref 0), some (.ref 62), some (.int ((nI i) + 6))]) dL_law_1385 rfl rfl (show 3 < 4 by decide) rfl ?_
  refine xg_goto (pc := 1388) (tgt := 18) dL_law_1388 (by decide) ?_
  rw [show (nI i + 6 : Int32) = nI (i + 6) from nI_add i 6]
  exact HO _ _ _ _ _ _ _ I2
set_option maxRecDepth 100000 in
theorem lc_cell {i : Nat} {f0 f1 f2 : Nat → Int32} {o : xO} {mf wf : Nat → Int32} {q : xQ} (hi : i + 6 ≤ X.1) (hXL : X.1 < 2 ^ 31) (HO : ∀ (f0 f1 f2 : Nat → Int32) (o : xO) (mf wf : Nat → Int32) (q : xQ), IV o f0 f2 q mf → xGo X false (12 + 1) 0 0 (mLw nm) 18 [some (.ref 1000), some (.ref 0), some (.ref 62), some (.int (nI (i + 6)))] [] (hp (tri f0 f1 f2) o mf wf q) (fun v _ => v = [.int 1])) (I : IV o f0 f2 q mf) : xGo X false (12 + 1) 0 0 (mLw nm) 233 [some (.ref 1000), some (.ref 0), some (.ref 62), some (.int (nI i))] [] (hp (tri f0 f1 f2) o mf wf q) (fun v _ => v = [.int 1]) := by
  refine xg_aload_n (pc := 233) dL_law_233 rfl ?_
  refine xg_aload_n (pc := 234) dL_law_234 rfl ?_
  refine xg_iload_n (pc := 235) dL_law_235 rfl ?_
  refine xg_iconst (v := 1) (pc := 236) dL_law_236 (by decide) ?_
  refine xg_iadd (pc := 237) dL_law_237 ?_
  refine xg_siald (pc := 238) (i + 1) dL_law_238 (by simp only [xlit, nI_add, pk_mul]) (by omega) hXL ?_
  refine xg_aload_n (pc := 239) dL_law_239 rfl ?_
  refine xg_iload_n (pc := 240) dL_law_240 rfl ?_
  refine xg_iconst (v := 2) (pc := 241) dL_law_241 (by decide) ?_
  refine xg_iadd (pc := 242) dL_law_242 ?_
  refine xg_siald (pc := 243) (i + 2) dL_law_243 (by simp only [xlit, nI_add, pk_mul]) (by omega) hXL ?_
  refine xg_callv (k1 := 0) (n1 := 0) (k2 := 0) (n2 := 0) (pc := 244) (as := [.int (X.2 (i + 1)), .int (X.2 (i + 2))]) (rest := []) (M' := mX6_cell) dL_law_244 lkL_18 mcX6_cell hp_0 rfl (two_cell I) rfl rfl (Nat.le_of_ble_eq_true rfl) rfl rfl (fun v h' hq => ?_)
  obtain ⟨x, o2, g0, g1, g2, ⟨y, rfl⟩, rfl, rfl, h7⟩ := hq
  show xGo X false (12 + 1) 0 0 (mLw nm) 247 [some (.ref 1000), some (.ref 0), some (.ref 62), some (.int (nI i))] [.int y] (hp (tri g0 g1 g2) o2 mf wf q) (fun v _ => v = [.int 1])
  refine xg_aload_n (pc := 247) dL_law_247 rfl ?_
  refine xg_aload_n (pc := 248) dL_law_248 rfl ?_
  refine xg_iload_n (pc := 249) dL_law_249 rfl ?_
  refine xg_iconst (v := 1) (pc := 250) dL_law_250 (by decide) ?_
  refine xg_iadd (pc := 251) dL_law_251 ?_
  refine xg_siald (pc := 252) (i + 1) dL_law_252 (by simp only [xlit, nI_add, pk_mul]) (by omega) hXL ?_
  refine xg_aload_n (pc := 253) dL_law_253 rfl ?_
  refine xg_iload_n (pc := 254) dL_law_254 rfl ?_
  refine xg_iconst (v := 2) (pc := 255) dL_law_255 (by decide) ?_
  refine xg_iadd (pc := 256) dL_law_256 ?_
  refine xg_siald (pc := 257) (i + 2) dL_law_257 (by simp only [xlit, nI_add, pk_mul]) (by omega) hXL ?_
  refine xg_callv (k1 := 0) (n1 := 0) (k2 := 0) (n2 := 0) (pc := 258) (as := [.int (X.2 (i + 1)), .int (X.2 (i + 2))]) (rest := [.int y]) (M' := mX7_cell) dL_law_258 lkL_21 mcX7_cell hp_62 rfl h7 rfl rfl (Nat.le_of_ble_eq_true rfl) rfl rfl (fun v h' hq => ?_)
  obtain ⟨rfl, mf2, wf2, q2, I2, rfl⟩ := hq
  show xGo X false (12 + 1) 0 0 (mLw nm) 261 [some (.ref 1000), some (.ref 0), some (.ref 62), some (.int (nI i))] [.int y, .int y] (hp (tri g0 g1 g2) o2 mf2 wf2 q2) (fun v _ => v = [.int 1])
  refine xg_icmp_eq (pc := 261) (tgt := 1385) dL_law_261 (by decide) (fun c_261 => ?_) (fun c_261 => absurd c_261 (fun z => z rfl))
  refine xg_iinc (pc := 1385) (y := (nI i) + 6) (ls' := [some (.ref 1000), some (.ref 0), some (.ref 62), some (.int ((nI i) + 6))]) dL_law_1385 rfl rfl (show 3 < 4 by decide) rfl ?_
  refine xg_goto (pc := 1388) (tgt := 18) dL_law_1388 (by decide) ?_
  rw [show (nI i + 6 : Int32) = nI (i + 6) from nI_add i 6]
  exact HO _ _ _ _ _ _ _ I2
set_option maxRecDepth 100000 in
theorem lc_thing {i : Nat} {f0 f1 f2 : Nat → Int32} {o : xO} {mf wf : Nat → Int32} {q : xQ} (hi : i + 6 ≤ X.1) (hXL : X.1 < 2 ^ 31) (HO : ∀ (f0 f1 f2 : Nat → Int32) (o : xO) (mf wf : Nat → Int32) (q : xQ), IV o f0 f2 q mf → xGo X false (12 + 1) 0 0 (mLw nm) 18 [some (.ref 1000), some (.ref 0), some (.ref 62), some (.int (nI (i + 6)))] [] (hp (tri f0 f1 f2) o mf wf q) (fun v _ => v = [.int 1])) (I : IV o f0 f2 q mf) : xGo X false (12 + 1) 0 0 (mLw nm) 266 [some (.ref 1000), some (.ref 0), some (.ref 62), some (.int (nI i))] [] (hp (tri f0 f1 f2) o mf wf q) (fun v _ => v = [.int 1]) := by
  refine xg_aload_n (pc := 266) dL_law_266 rfl ?_
  refine xg_aload_n (pc := 267) dL_law_267 rfl ?_
  refine xg_iload_n (pc := 268) dL_law_268 rfl ?_
  refine xg_iconst (v := 1) (pc := 269) dL_law_269 (by decide) ?_
  refine xg_iadd (pc := 270) dL_law_270 ?_
  refine xg_siald (pc := 271) (i + 1) dL_law_271 (by simp only [xlit, nI_add, pk_mul]) (by omega) hXL ?_
  refine xg_aload_n (pc := 272) dL_law_272 rfl ?_
  refine xg_iload_n (pc := 273) dL_law_273 rfl ?_
  refine xg_iconst (v := 2) (pc := 274) dL_law_274 (by decide) ?_
  refine xg_iadd (pc := 275) dL_law_275 ?_
  refine xg_siald (pc := 276) (i + 2) dL_law_276 (by simp only [xlit, nI_add, pk_mul]) (by omega) hXL ?_
  refine xg_aload_n (pc := 277) dL_law_277 rfl ?_
  refine xg_iload_n (pc := 278) dL_law_278 rfl ?_
  refine xg_iconst (v := 3) (pc := 279) dL_law_279 (by decide) ?_
  refine xg_iadd (pc := 280) dL_law_280 ?_
  refine xg_siald (pc := 281) (i + 3) dL_law_281 (by simp only [xlit, nI_add, pk_mul]) (by omega) hXL ?_
  refine xg_callv (k1 := 0) (n1 := 0) (k2 := 0) (n2 := 0) (pc := 282) (as := [.int (X.2 (i + 1)), .int (X.2 (i + 2)), .int (X.2 (i + 3))]) (rest := []) (M' := mX6_thing) dL_law_282 lkL_22 mcX6_thing hp_0 rfl (two_thing I) rfl rfl (Nat.le_of_ble_eq_true rfl) rfl rfl (fun v h' hq => ?_)
  obtain ⟨x, o2, g0, g1, g2, ⟨y, rfl⟩, rfl, rfl, h7⟩ := hq
  show xGo X false (12 + 1) 0 0 (mLw nm) 285 [some (.ref 1000), some (.ref 0), some (.ref 62), some (.int (nI i))] [.int y] (hp (tri g0 g1 g2) o2 mf wf q) (fun v _ => v = [.int 1])
  refine xg_aload_n (pc := 285) dL_law_285 rfl ?_
  refine xg_aload_n (pc := 286) dL_law_286 rfl ?_
  refine xg_iload_n (pc := 287) dL_law_287 rfl ?_
  refine xg_iconst (v := 1) (pc := 288) dL_law_288 (by decide) ?_
  refine xg_iadd (pc := 289) dL_law_289 ?_
  refine xg_siald (pc := 290) (i + 1) dL_law_290 (by simp only [xlit, nI_add, pk_mul]) (by omega) hXL ?_
  refine xg_aload_n (pc := 291) dL_law_291 rfl ?_
  refine xg_iload_n (pc := 292) dL_law_292 rfl ?_
  refine xg_iconst (v := 2) (pc := 293) dL_law_293 (by decide) ?_
  refine xg_iadd (pc := 294) dL_law_294 ?_
  refine xg_siald (pc := 295) (i + 2) dL_law_295 (by simp only [xlit, nI_add, pk_mul]) (by omega) hXL ?_
  refine xg_aload_n (pc := 296) dL_law_296 rfl ?_
  refine xg_iload_n (pc := 297) dL_law_297 rfl ?_
  refine xg_iconst (v := 3) (pc := 298) dL_law_298 (by decide) ?_
  refine xg_iadd (pc := 299) dL_law_299 ?_
  refine xg_siald (pc := 300) (i + 3) dL_law_300 (by simp only [xlit, nI_add, pk_mul]) (by omega) hXL ?_
  refine xg_callv (k1 := 0) (n1 := 0) (k2 := 0) (n2 := 0) (pc := 301) (as := [.int (X.2 (i + 1)), .int (X.2 (i + 2)), .int (X.2 (i + 3))]) (rest := [.int y]) (M' := mX7_thing) dL_law_301 lkL_26 mcX7_thing hp_62 rfl h7 rfl rfl (Nat.le_of_ble_eq_true rfl) rfl rfl (fun v h' hq => ?_)
  obtain ⟨rfl, mf2, wf2, q2, I2, rfl⟩ := hq
  show xGo X false (12 + 1) 0 0 (mLw nm) 304 [some (.ref 1000), some (.ref 0), some (.ref 62), some (.int (nI i))] [.int y, .int y] (hp (tri g0 g1 g2) o2 mf2 wf2 q2) (fun v _ => v = [.int 1])
  refine xg_icmp_eq (pc := 304) (tgt := 1385) dL_law_304 (by decide) (fun c_304 => ?_) (fun c_304 => absurd c_304 (fun z => z rfl))
  refine xg_iinc (pc := 1385) (y := (nI i) + 6) (ls' := [some (.ref 1000), some (.ref 0), some (.ref 62), some (.int ((nI i) + 6))]) dL_law_1385 rfl rfl (show 3 < 4 by decide) rfl ?_
  refine xg_goto (pc := 1388) (tgt := 18) dL_law_1388 (by decide) ?_
  rw [show (nI i + 6 : Int32) = nI (i + 6) from nI_add i 6]
  exact HO _ _ _ _ _ _ _ I2
set_option maxRecDepth 100000 in
theorem lc_of {i : Nat} {f0 f1 f2 : Nat → Int32} {o : xO} {mf wf : Nat → Int32} {q : xQ} (hi : i + 6 ≤ X.1) (hXL : X.1 < 2 ^ 31) (HO : ∀ (f0 f1 f2 : Nat → Int32) (o : xO) (mf wf : Nat → Int32) (q : xQ), IV o f0 f2 q mf → xGo X false (12 + 1) 0 0 (mLw nm) 18 [some (.ref 1000), some (.ref 0), some (.ref 62), some (.int (nI (i + 6)))] [] (hp (tri f0 f1 f2) o mf wf q) (fun v _ => v = [.int 1])) (I : IV o f0 f2 q mf) : xGo X false (12 + 1) 0 0 (mLw nm) 309 [some (.ref 1000), some (.ref 0), some (.ref 62), some (.int (nI i))] [] (hp (tri f0 f1 f2) o mf wf q) (fun v _ => v = [.int 1]) := by
  refine xg_aload_n (pc := 309) dL_law_309 rfl ?_
  refine xg_aload_n (pc := 310) dL_law_310 rfl ?_
  refine xg_iload_n (pc := 311) dL_law_311 rfl ?_
  refine xg_iconst (v := 1) (pc := 312) dL_law_312 (by decide) ?_
  refine xg_iadd (pc := 313) dL_law_313 ?_
  refine xg_siald (pc := 314) (i + 1) dL_law_314 (by simp only [xlit, nI_add, pk_mul]) (by omega) hXL ?_
  refine xg_aload_n (pc := 315) dL_law_315 rfl ?_
  refine xg_iload_n (pc := 316) dL_law_316 rfl ?_
  refine xg_iconst (v := 2) (pc := 317) dL_law_317 (by decide) ?_
  refine xg_iadd (pc := 318) dL_law_318 ?_
  refine xg_siald (pc := 319) (i + 2) dL_law_319 (by simp only [xlit, nI_add, pk_mul]) (by omega) hXL ?_
  refine xg_callv (k1 := 0) (n1 := 0) (k2 := 0) (n2 := 0) (pc := 320) (as := [.int (X.2 (i + 1)), .int (X.2 (i + 2))]) (rest := []) (M' := mX6_of) dL_law_320 lkL_27 mcX6_of hp_0 rfl (two_of I) rfl rfl (Nat.le_of_ble_eq_true rfl) rfl rfl (fun v h' hq => ?_)
  obtain ⟨x, o2, g0, g1, g2, ⟨y, rfl⟩, rfl, rfl, h7⟩ := hq
  show xGo X false (12 + 1) 0 0 (mLw nm) 323 [some (.ref 1000), some (.ref 0), some (.ref 62), some (.int (nI i))] [.int y] (hp (tri g0 g1 g2) o2 mf wf q) (fun v _ => v = [.int 1])
  refine xg_aload_n (pc := 323) dL_law_323 rfl ?_
  refine xg_aload_n (pc := 324) dL_law_324 rfl ?_
  refine xg_iload_n (pc := 325) dL_law_325 rfl ?_
  refine xg_iconst (v := 1) (pc := 326) dL_law_326 (by decide) ?_
  refine xg_iadd (pc := 327) dL_law_327 ?_
  refine xg_siald (pc := 328) (i + 1) dL_law_328 (by simp only [xlit, nI_add, pk_mul]) (by omega) hXL ?_
  refine xg_aload_n (pc := 329) dL_law_329 rfl ?_
  refine xg_iload_n (pc := 330) dL_law_330 rfl ?_
  refine xg_iconst (v := 2) (pc := 331) dL_law_331 (by decide) ?_
  refine xg_iadd (pc := 332) dL_law_332 ?_
  refine xg_siald (pc := 333) (i + 2) dL_law_333 (by simp only [xlit, nI_add, pk_mul]) (by omega) hXL ?_
  refine xg_callv (k1 := 0) (n1 := 0) (k2 := 0) (n2 := 0) (pc := 334) (as := [.int (X.2 (i + 1)), .int (X.2 (i + 2))]) (rest := [.int y]) (M' := mX7_of) dL_law_334 lkL_30 mcX7_of hp_62 rfl h7 rfl rfl (Nat.le_of_ble_eq_true rfl) rfl rfl (fun v h' hq => ?_)
  obtain ⟨rfl, mf2, wf2, q2, I2, rfl⟩ := hq
  show xGo X false (12 + 1) 0 0 (mLw nm) 337 [some (.ref 1000), some (.ref 0), some (.ref 62), some (.int (nI i))] [.int y, .int y] (hp (tri g0 g1 g2) o2 mf2 wf2 q2) (fun v _ => v = [.int 1])
  refine xg_icmp_eq (pc := 337) (tgt := 1385) dL_law_337 (by decide) (fun c_337 => ?_) (fun c_337 => absurd c_337 (fun z => z rfl))
  refine xg_iinc (pc := 1385) (y := (nI i) + 6) (ls' := [some (.ref 1000), some (.ref 0), some (.ref 62), some (.int ((nI i) + 6))]) dL_law_1385 rfl rfl (show 3 < 4 by decide) rfl ?_
  refine xg_goto (pc := 1388) (tgt := 18) dL_law_1388 (by decide) ?_
  rw [show (nI i + 6 : Int32) = nI (i + 6) from nI_add i 6]
  exact HO _ _ _ _ _ _ _ I2
set_option maxRecDepth 100000 in
theorem lc_set {i : Nat} {f0 f1 f2 : Nat → Int32} {o : xO} {mf wf : Nat → Int32} {q : xQ} (hi : i + 6 ≤ X.1) (hXL : X.1 < 2 ^ 31) (HO : ∀ (f0 f1 f2 : Nat → Int32) (o : xO) (mf wf : Nat → Int32) (q : xQ), IV o f0 f2 q mf → xGo X false (12 + 1) 0 0 (mLw nm) 18 [some (.ref 1000), some (.ref 0), some (.ref 62), some (.int (nI (i + 6)))] [] (hp (tri f0 f1 f2) o mf wf q) (fun v _ => v = [.int 1])) (I : IV o f0 f2 q mf) : xGo X false (12 + 1) 0 0 (mLw nm) 342 [some (.ref 1000), some (.ref 0), some (.ref 62), some (.int (nI i))] [] (hp (tri f0 f1 f2) o mf wf q) (fun v _ => v = [.int 1]) := by
  refine xg_aload_n (pc := 342) dL_law_342 rfl ?_
  refine xg_aload_n (pc := 343) dL_law_343 rfl ?_
  refine xg_iload_n (pc := 344) dL_law_344 rfl ?_
  refine xg_iconst (v := 1) (pc := 345) dL_law_345 (by decide) ?_
  refine xg_iadd (pc := 346) dL_law_346 ?_
  refine xg_siald (pc := 347) (i + 1) dL_law_347 (by simp only [xlit, nI_add, pk_mul]) (by omega) hXL ?_
  refine xg_aload_n (pc := 348) dL_law_348 rfl ?_
  refine xg_iload_n (pc := 349) dL_law_349 rfl ?_
  refine xg_iconst (v := 2) (pc := 350) dL_law_350 (by decide) ?_
  refine xg_iadd (pc := 351) dL_law_351 ?_
  refine xg_siald (pc := 352) (i + 2) dL_law_352 (by simp only [xlit, nI_add, pk_mul]) (by omega) hXL ?_
  refine xg_aload_n (pc := 353) dL_law_353 rfl ?_
  refine xg_iload_n (pc := 354) dL_law_354 rfl ?_
  refine xg_iconst (v := 3) (pc := 355) dL_law_355 (by decide) ?_
  refine xg_iadd (pc := 356) dL_law_356 ?_
  refine xg_siald (pc := 357) (i + 3) dL_law_357 (by simp only [xlit, nI_add, pk_mul]) (by omega) hXL ?_
  refine xg_callv (k1 := 0) (n1 := 0) (k2 := 0) (n2 := 0) (pc := 358) (as := [.int (X.2 (i + 1)), .int (X.2 (i + 2)), .int (X.2 (i + 3))]) (rest := []) (M' := mX6_set) dL_law_358 lkL_31 mcX6_set hp_0 rfl (two_set I) rfl rfl (Nat.le_of_ble_eq_true rfl) rfl rfl (fun v h' hq => ?_)
  obtain ⟨x, o2, g0, g1, g2, ⟨y, rfl⟩, rfl, rfl, h7⟩ := hq
  show xGo X false (12 + 1) 0 0 (mLw nm) 361 [some (.ref 1000), some (.ref 0), some (.ref 62), some (.int (nI i))] [.int y] (hp (tri g0 g1 g2) o2 mf wf q) (fun v _ => v = [.int 1])
  refine xg_aload_n (pc := 361) dL_law_361 rfl ?_
  refine xg_aload_n (pc := 362) dL_law_362 rfl ?_
  refine xg_iload_n (pc := 363) dL_law_363 rfl ?_
  refine xg_iconst (v := 1) (pc := 364) dL_law_364 (by decide) ?_
  refine xg_iadd (pc := 365) dL_law_365 ?_
  refine xg_siald (pc := 366) (i + 1) dL_law_366 (by simp only [xlit, nI_add, pk_mul]) (by omega) hXL ?_
  refine xg_aload_n (pc := 367) dL_law_367 rfl ?_
  refine xg_iload_n (pc := 368) dL_law_368 rfl ?_
  refine xg_iconst (v := 2) (pc := 369) dL_law_369 (by decide) ?_
  refine xg_iadd (pc := 370) dL_law_370 ?_
  refine xg_siald (pc := 371) (i + 2) dL_law_371 (by simp only [xlit, nI_add, pk_mul]) (by omega) hXL ?_
  refine xg_aload_n (pc := 372) dL_law_372 rfl ?_
  refine xg_iload_n (pc := 373) dL_law_373 rfl ?_
  refine xg_iconst (v := 3) (pc := 374) dL_law_374 (by decide) ?_
  refine xg_iadd (pc := 375) dL_law_375 ?_
  refine xg_siald (pc := 376) (i + 3) dL_law_376 (by simp only [xlit, nI_add, pk_mul]) (by omega) hXL ?_
  refine xg_callv (k1 := 0) (n1 := 0) (k2 := 0) (n2 := 0) (pc := 377) (as := [.int (X.2 (i + 1)), .int (X.2 (i + 2)), .int (X.2 (i + 3))]) (rest := [.int y]) (M' := mX7_set) dL_law_377 lkL_34 mcX7_set hp_62 rfl h7 rfl rfl (Nat.le_of_ble_eq_true rfl) rfl rfl (fun v h' hq => ?_)
  obtain ⟨rfl, mf2, wf2, q2, I2, rfl⟩ := hq
  show xGo X false (12 + 1) 0 0 (mLw nm) 380 [some (.ref 1000), some (.ref 0), some (.ref 62), some (.int (nI i))] [.int y, .int y] (hp (tri g0 g1 g2) o2 mf2 wf2 q2) (fun v _ => v = [.int 1])
  refine xg_icmp_eq (pc := 380) (tgt := 1385) dL_law_380 (by decide) (fun c_380 => ?_) (fun c_380 => absurd c_380 (fun z => z rfl))
  refine xg_iinc (pc := 1385) (y := (nI i) + 6) (ls' := [some (.ref 1000), some (.ref 0), some (.ref 62), some (.int ((nI i) + 6))]) dL_law_1385 rfl rfl (show 3 < 4 by decide) rfl ?_
  refine xg_goto (pc := 1388) (tgt := 18) dL_law_1388 (by decide) ?_
  rw [show (nI i + 6 : Int32) = nI (i + 6) from nI_add i 6]
  exact HO _ _ _ _ _ _ _ I2
set_option maxRecDepth 100000 in
theorem lc_turn {i : Nat} {f0 f1 f2 : Nat → Int32} {o : xO} {mf wf : Nat → Int32} {q : xQ} (hi : i + 6 ≤ X.1) (hXL : X.1 < 2 ^ 31) (HO : ∀ (f0 f1 f2 : Nat → Int32) (o : xO) (mf wf : Nat → Int32) (q : xQ), IV o f0 f2 q mf → xGo X false (12 + 1) 0 0 (mLw nm) 18 [some (.ref 1000), some (.ref 0), some (.ref 62), some (.int (nI (i + 6)))] [] (hp (tri f0 f1 f2) o mf wf q) (fun v _ => v = [.int 1])) (I : IV o f0 f2 q mf) : xGo X false (12 + 1) 0 0 (mLw nm) 385 [some (.ref 1000), some (.ref 0), some (.ref 62), some (.int (nI i))] [] (hp (tri f0 f1 f2) o mf wf q) (fun v _ => v = [.int 1]) := by
  refine xg_aload_n (pc := 385) dL_law_385 rfl ?_
  refine xg_aload_n (pc := 386) dL_law_386 rfl ?_
  refine xg_iload_n (pc := 387) dL_law_387 rfl ?_
  refine xg_iconst (v := 1) (pc := 388) dL_law_388 (by decide) ?_
  refine xg_iadd (pc := 389) dL_law_389 ?_
  refine xg_siald (pc := 390) (i + 1) dL_law_390 (by simp only [xlit, nI_add, pk_mul]) (by omega) hXL ?_
  refine xg_aload_n (pc := 391) dL_law_391 rfl ?_
  refine xg_iload_n (pc := 392) dL_law_392 rfl ?_
  refine xg_iconst (v := 2) (pc := 393) dL_law_393 (by decide) ?_
  refine xg_iadd (pc := 394) dL_law_394 ?_
  refine xg_siald (pc := 395) (i + 2) dL_law_395 (by simp only [xlit, nI_add, pk_mul]) (by omega) hXL ?_
  refine xg_callv (k1 := 0) (n1 := 0) (k2 := 0) (n2 := 0) (pc := 396) (as := [.int (X.2 (i + 1)), .int (X.2 (i + 2))]) (rest := []) (M' := mX6_turn) dL_law_396 lkL_35 mcX6_turn hp_0 rfl (two_turn I) rfl rfl (Nat.le_of_ble_eq_true rfl) rfl rfl (fun v h' hq => ?_)
  obtain ⟨x, o2, g0, g1, g2, ⟨y, rfl⟩, rfl, rfl, h7⟩ := hq
  show xGo X false (12 + 1) 0 0 (mLw nm) 399 [some (.ref 1000), some (.ref 0), some (.ref 62), some (.int (nI i))] [.int y] (hp (tri g0 g1 g2) o2 mf wf q) (fun v _ => v = [.int 1])
  refine xg_aload_n (pc := 399) dL_law_399 rfl ?_
  refine xg_aload_n (pc := 400) dL_law_400 rfl ?_
  refine xg_iload_n (pc := 401) dL_law_401 rfl ?_
  refine xg_iconst (v := 1) (pc := 402) dL_law_402 (by decide) ?_
  refine xg_iadd (pc := 403) dL_law_403 ?_
  refine xg_siald (pc := 404) (i + 1) dL_law_404 (by simp only [xlit, nI_add, pk_mul]) (by omega) hXL ?_
  refine xg_aload_n (pc := 405) dL_law_405 rfl ?_
  refine xg_iload_n (pc := 406) dL_law_406 rfl ?_
  refine xg_iconst (v := 2) (pc := 407) dL_law_407 (by decide) ?_
  refine xg_iadd (pc := 408) dL_law_408 ?_
  refine xg_siald (pc := 409) (i + 2) dL_law_409 (by simp only [xlit, nI_add, pk_mul]) (by omega) hXL ?_
  refine xg_callv (k1 := 0) (n1 := 0) (k2 := 0) (n2 := 0) (pc := 410) (as := [.int (X.2 (i + 1)), .int (X.2 (i + 2))]) (rest := [.int y]) (M' := mX7_turn) dL_law_410 lkL_38 mcX7_turn hp_62 rfl h7 rfl rfl (Nat.le_of_ble_eq_true rfl) rfl rfl (fun v h' hq => ?_)
  obtain ⟨rfl, mf2, wf2, q2, I2, rfl⟩ := hq
  show xGo X false (12 + 1) 0 0 (mLw nm) 413 [some (.ref 1000), some (.ref 0), some (.ref 62), some (.int (nI i))] [.int y, .int y] (hp (tri g0 g1 g2) o2 mf2 wf2 q2) (fun v _ => v = [.int 1])
  refine xg_icmp_eq (pc := 413) (tgt := 1385) dL_law_413 (by decide) (fun c_413 => ?_) (fun c_413 => absurd c_413 (fun z => z rfl))
  refine xg_iinc (pc := 1385) (y := (nI i) + 6) (ls' := [some (.ref 1000), some (.ref 0), some (.ref 62), some (.int ((nI i) + 6))]) dL_law_1385 rfl rfl (show 3 < 4 by decide) rfl ?_
  refine xg_goto (pc := 1388) (tgt := 18) dL_law_1388 (by decide) ?_
  rw [show (nI i + 6 : Int32) = nI (i + 6) from nI_add i 6]
  exact HO _ _ _ _ _ _ _ I2
set_option maxRecDepth 100000 in
theorem lc_as {i : Nat} {f0 f1 f2 : Nat → Int32} {o : xO} {mf wf : Nat → Int32} {q : xQ} (hi : i + 6 ≤ X.1) (hXL : X.1 < 2 ^ 31) (HO : ∀ (f0 f1 f2 : Nat → Int32) (o : xO) (mf wf : Nat → Int32) (q : xQ), IV o f0 f2 q mf → xGo X false (12 + 1) 0 0 (mLw nm) 18 [some (.ref 1000), some (.ref 0), some (.ref 62), some (.int (nI (i + 6)))] [] (hp (tri f0 f1 f2) o mf wf q) (fun v _ => v = [.int 1])) (I : IV o f0 f2 q mf) : xGo X false (12 + 1) 0 0 (mLw nm) 418 [some (.ref 1000), some (.ref 0), some (.ref 62), some (.int (nI i))] [] (hp (tri f0 f1 f2) o mf wf q) (fun v _ => v = [.int 1]) := by
  refine xg_aload_n (pc := 418) dL_law_418 rfl ?_
  refine xg_aload_n (pc := 419) dL_law_419 rfl ?_
  refine xg_iload_n (pc := 420) dL_law_420 rfl ?_
  refine xg_iconst (v := 1) (pc := 421) dL_law_421 (by decide) ?_
  refine xg_iadd (pc := 422) dL_law_422 ?_
  refine xg_siald (pc := 423) (i + 1) dL_law_423 (by simp only [xlit, nI_add, pk_mul]) (by omega) hXL ?_
  refine xg_aload_n (pc := 424) dL_law_424 rfl ?_
  refine xg_iload_n (pc := 425) dL_law_425 rfl ?_
  refine xg_iconst (v := 2) (pc := 426) dL_law_426 (by decide) ?_
  refine xg_iadd (pc := 427) dL_law_427 ?_
  refine xg_siald (pc := 428) (i + 2) dL_law_428 (by simp only [xlit, nI_add, pk_mul]) (by omega) hXL ?_
  refine xg_callv (k1 := 0) (n1 := 0) (k2 := 0) (n2 := 0) (pc := 429) (as := [.int (X.2 (i + 1)), .int (X.2 (i + 2))]) (rest := []) (M' := mX6_as) dL_law_429 lkL_39 mcX6_as hp_0 rfl (two_as I) rfl rfl (Nat.le_of_ble_eq_true rfl) rfl rfl (fun v h' hq => ?_)
  obtain ⟨x, o2, g0, g1, g2, ⟨y, rfl⟩, rfl, rfl, h7⟩ := hq
  show xGo X false (12 + 1) 0 0 (mLw nm) 432 [some (.ref 1000), some (.ref 0), some (.ref 62), some (.int (nI i))] [.int y] (hp (tri g0 g1 g2) o2 mf wf q) (fun v _ => v = [.int 1])
  refine xg_aload_n (pc := 432) dL_law_432 rfl ?_
  refine xg_aload_n (pc := 433) dL_law_433 rfl ?_
  refine xg_iload_n (pc := 434) dL_law_434 rfl ?_
  refine xg_iconst (v := 1) (pc := 435) dL_law_435 (by decide) ?_
  refine xg_iadd (pc := 436) dL_law_436 ?_
  refine xg_siald (pc := 437) (i + 1) dL_law_437 (by simp only [xlit, nI_add, pk_mul]) (by omega) hXL ?_
  refine xg_aload_n (pc := 438) dL_law_438 rfl ?_
  refine xg_iload_n (pc := 439) dL_law_439 rfl ?_
  refine xg_iconst (v := 2) (pc := 440) dL_law_440 (by decide) ?_
  refine xg_iadd (pc := 441) dL_law_441 ?_
  refine xg_siald (pc := 442) (i + 2) dL_law_442 (by simp only [xlit, nI_add, pk_mul]) (by omega) hXL ?_
  refine xg_callv (k1 := 0) (n1 := 0) (k2 := 0) (n2 := 0) (pc := 443) (as := [.int (X.2 (i + 1)), .int (X.2 (i + 2))]) (rest := [.int y]) (M' := mX7_as) dL_law_443 lkL_42 mcX7_as hp_62 rfl h7 rfl rfl (Nat.le_of_ble_eq_true rfl) rfl rfl (fun v h' hq => ?_)
  obtain ⟨rfl, mf2, wf2, q2, I2, rfl⟩ := hq
  show xGo X false (12 + 1) 0 0 (mLw nm) 446 [some (.ref 1000), some (.ref 0), some (.ref 62), some (.int (nI i))] [.int y, .int y] (hp (tri g0 g1 g2) o2 mf2 wf2 q2) (fun v _ => v = [.int 1])
  refine xg_icmp_eq (pc := 446) (tgt := 1385) dL_law_446 (by decide) (fun c_446 => ?_) (fun c_446 => absurd c_446 (fun z => z rfl))
  refine xg_iinc (pc := 1385) (y := (nI i) + 6) (ls' := [some (.ref 1000), some (.ref 0), some (.ref 62), some (.int ((nI i) + 6))]) dL_law_1385 rfl rfl (show 3 < 4 by decide) rfl ?_
  refine xg_goto (pc := 1388) (tgt := 18) dL_law_1388 (by decide) ?_
  rw [show (nI i + 6 : Int32) = nI (i + 6) from nI_add i 6]
  exact HO _ _ _ _ _ _ _ I2
set_option maxRecDepth 100000 in
theorem lc_boat {i : Nat} {f0 f1 f2 : Nat → Int32} {o : xO} {mf wf : Nat → Int32} {q : xQ} (hi : i + 6 ≤ X.1) (hXL : X.1 < 2 ^ 31) (HO : ∀ (f0 f1 f2 : Nat → Int32) (o : xO) (mf wf : Nat → Int32) (q : xQ), IV o f0 f2 q mf → xGo X false (12 + 1) 0 0 (mLw nm) 18 [some (.ref 1000), some (.ref 0), some (.ref 62), some (.int (nI (i + 6)))] [] (hp (tri f0 f1 f2) o mf wf q) (fun v _ => v = [.int 1])) (I : IV o f0 f2 q mf) : xGo X false (12 + 1) 0 0 (mLw nm) 451 [some (.ref 1000), some (.ref 0), some (.ref 62), some (.int (nI i))] [] (hp (tri f0 f1 f2) o mf wf q) (fun v _ => v = [.int 1]) := by
  refine xg_aload_n (pc := 451) dL_law_451 rfl ?_
  refine xg_aload_n (pc := 452) dL_law_452 rfl ?_
  refine xg_iload_n (pc := 453) dL_law_453 rfl ?_
  refine xg_iconst (v := 1) (pc := 454) dL_law_454 (by decide) ?_
  refine xg_iadd (pc := 455) dL_law_455 ?_
  refine xg_siald (pc := 456) (i + 1) dL_law_456 (by simp only [xlit, nI_add, pk_mul]) (by omega) hXL ?_
  refine xg_callv (k1 := 0) (n1 := 0) (k2 := 0) (n2 := 0) (pc := 457) (as := [.int (X.2 (i + 1))]) (rest := []) (M' := mX6_boat) dL_law_457 lkL_43 mcX6_boat hp_0 rfl (two_boat I) rfl rfl (Nat.le_of_ble_eq_true rfl) rfl rfl (fun v h' hq => ?_)
  obtain ⟨x, o2, g0, g1, g2, ⟨y, rfl⟩, rfl, rfl, h7⟩ := hq
  show xGo X false (12 + 1) 0 0 (mLw nm) 460 [some (.ref 1000), some (.ref 0), some (.ref 62), some (.int (nI i))] [.int y] (hp (tri g0 g1 g2) o2 mf wf q) (fun v _ => v = [.int 1])
  refine xg_aload_n (pc := 460) dL_law_460 rfl ?_
  refine xg_aload_n (pc := 461) dL_law_461 rfl ?_
  refine xg_iload_n (pc := 462) dL_law_462 rfl ?_
  refine xg_iconst (v := 1) (pc := 463) dL_law_463 (by decide) ?_
  refine xg_iadd (pc := 464) dL_law_464 ?_
  refine xg_siald (pc := 465) (i + 1) dL_law_465 (by simp only [xlit, nI_add, pk_mul]) (by omega) hXL ?_
  refine xg_callv (k1 := 0) (n1 := 0) (k2 := 0) (n2 := 0) (pc := 466) (as := [.int (X.2 (i + 1))]) (rest := [.int y]) (M' := mX7_boat) dL_law_466 lkL_47 mcX7_boat hp_62 rfl h7 rfl rfl (Nat.le_of_ble_eq_true rfl) rfl rfl (fun v h' hq => ?_)
  obtain ⟨rfl, mf2, wf2, q2, I2, rfl⟩ := hq
  show xGo X false (12 + 1) 0 0 (mLw nm) 469 [some (.ref 1000), some (.ref 0), some (.ref 62), some (.int (nI i))] [.int y, .int y] (hp (tri g0 g1 g2) o2 mf2 wf2 q2) (fun v _ => v = [.int 1])
  refine xg_icmp_eq (pc := 469) (tgt := 1385) dL_law_469 (by decide) (fun c_469 => ?_) (fun c_469 => absurd c_469 (fun z => z rfl))
  refine xg_iinc (pc := 1385) (y := (nI i) + 6) (ls' := [some (.ref 1000), some (.ref 0), some (.ref 62), some (.int ((nI i) + 6))]) dL_law_1385 rfl rfl (show 3 < 4 by decide) rfl ?_
  refine xg_goto (pc := 1388) (tgt := 18) dL_law_1388 (by decide) ?_
  rw [show (nI i + 6 : Int32) = nI (i + 6) from nI_add i 6]
  exact HO _ _ _ _ _ _ _ I2
set_option maxRecDepth 100000 in
theorem lc_told {i : Nat} {f0 f1 f2 : Nat → Int32} {o : xO} {mf wf : Nat → Int32} {q : xQ} (hi : i + 6 ≤ X.1) (hXL : X.1 < 2 ^ 31) (HO : ∀ (f0 f1 f2 : Nat → Int32) (o : xO) (mf wf : Nat → Int32) (q : xQ), IV o f0 f2 q mf → xGo X false (12 + 1) 0 0 (mLw nm) 18 [some (.ref 1000), some (.ref 0), some (.ref 62), some (.int (nI (i + 6)))] [] (hp (tri f0 f1 f2) o mf wf q) (fun v _ => v = [.int 1])) (I : IV o f0 f2 q mf) : xGo X false (12 + 1) 0 0 (mLw nm) 474 [some (.ref 1000), some (.ref 0), some (.ref 62), some (.int (nI i))] [] (hp (tri f0 f1 f2) o mf wf q) (fun v _ => v = [.int 1]) := by
  refine xg_aload_n (pc := 474) dL_law_474 rfl ?_
  refine xg_aload_n (pc := 475) dL_law_475 rfl ?_
  refine xg_iload_n (pc := 476) dL_law_476 rfl ?_
  refine xg_iconst (v := 1) (pc := 477) dL_law_477 (by decide) ?_
  refine xg_iadd (pc := 478) dL_law_478 ?_
  refine xg_siald (pc := 479) (i + 1) dL_law_479 (by simp only [xlit, nI_add, pk_mul]) (by omega) hXL ?_
  refine xg_aload_n (pc := 480) dL_law_480 rfl ?_
  refine xg_iload_n (pc := 481) dL_law_481 rfl ?_
  refine xg_iconst (v := 2) (pc := 482) dL_law_482 (by decide) ?_
  refine xg_iadd (pc := 483) dL_law_483 ?_
  refine xg_siald (pc := 484) (i + 2) dL_law_484 (by simp only [xlit, nI_add, pk_mul]) (by omega) hXL ?_
  refine xg_callv (k1 := 0) (n1 := 0) (k2 := 0) (n2 := 0) (pc := 485) (as := [.int (X.2 (i + 1)), .int (X.2 (i + 2))]) (rest := []) (M' := mX6_told) dL_law_485 lkL_48 mcX6_told hp_0 rfl (two_told I) rfl rfl (Nat.le_of_ble_eq_true rfl) rfl rfl (fun v h' hq => ?_)
  obtain ⟨x, o2, g0, g1, g2, ⟨y, rfl⟩, rfl, rfl, h7⟩ := hq
  show xGo X false (12 + 1) 0 0 (mLw nm) 488 [some (.ref 1000), some (.ref 0), some (.ref 62), some (.int (nI i))] [.int y] (hp (tri g0 g1 g2) o2 mf wf q) (fun v _ => v = [.int 1])
  refine xg_aload_n (pc := 488) dL_law_488 rfl ?_
  refine xg_aload_n (pc := 489) dL_law_489 rfl ?_
  refine xg_iload_n (pc := 490) dL_law_490 rfl ?_
  refine xg_iconst (v := 1) (pc := 491) dL_law_491 (by decide) ?_
  refine xg_iadd (pc := 492) dL_law_492 ?_
  refine xg_siald (pc := 493) (i + 1) dL_law_493 (by simp only [xlit, nI_add, pk_mul]) (by omega) hXL ?_
  refine xg_aload_n (pc := 494) dL_law_494 rfl ?_
  refine xg_iload_n (pc := 495) dL_law_495 rfl ?_
  refine xg_iconst (v := 2) (pc := 496) dL_law_496 (by decide) ?_
  refine xg_iadd (pc := 497) dL_law_497 ?_
  refine xg_siald (pc := 498) (i + 2) dL_law_498 (by simp only [xlit, nI_add, pk_mul]) (by omega) hXL ?_
  refine xg_callv (k1 := 0) (n1 := 0) (k2 := 0) (n2 := 0) (pc := 499) (as := [.int (X.2 (i + 1)), .int (X.2 (i + 2))]) (rest := [.int y]) (M' := mX7_told) dL_law_499 lkL_51 mcX7_told hp_62 rfl h7 rfl rfl (Nat.le_of_ble_eq_true rfl) rfl rfl (fun v h' hq => ?_)
  obtain ⟨rfl, mf2, wf2, q2, I2, rfl⟩ := hq
  show xGo X false (12 + 1) 0 0 (mLw nm) 502 [some (.ref 1000), some (.ref 0), some (.ref 62), some (.int (nI i))] [.int y, .int y] (hp (tri g0 g1 g2) o2 mf2 wf2 q2) (fun v _ => v = [.int 1])
  refine xg_icmp_eq (pc := 502) (tgt := 1385) dL_law_502 (by decide) (fun c_502 => ?_) (fun c_502 => absurd c_502 (fun z => z rfl))
  refine xg_iinc (pc := 1385) (y := (nI i) + 6) (ls' := [some (.ref 1000), some (.ref 0), some (.ref 62), some (.int ((nI i) + 6))]) dL_law_1385 rfl rfl (show 3 < 4 by decide) rfl ?_
  refine xg_goto (pc := 1388) (tgt := 18) dL_law_1388 (by decide) ?_
  rw [show (nI i + 6 : Int32) = nI (i + 6) from nI_add i 6]
  exact HO _ _ _ _ _ _ _ I2
set_option maxRecDepth 100000 in
theorem lc_fit {i : Nat} {f0 f1 f2 : Nat → Int32} {o : xO} {mf wf : Nat → Int32} {q : xQ} (hi : i + 6 ≤ X.1) (hXL : X.1 < 2 ^ 31) (HO : ∀ (f0 f1 f2 : Nat → Int32) (o : xO) (mf wf : Nat → Int32) (q : xQ), IV o f0 f2 q mf → xGo X false (12 + 1) 0 0 (mLw nm) 18 [some (.ref 1000), some (.ref 0), some (.ref 62), some (.int (nI (i + 6)))] [] (hp (tri f0 f1 f2) o mf wf q) (fun v _ => v = [.int 1])) (I : IV o f0 f2 q mf) : xGo X false (12 + 1) 0 0 (mLw nm) 507 [some (.ref 1000), some (.ref 0), some (.ref 62), some (.int (nI i))] [] (hp (tri f0 f1 f2) o mf wf q) (fun v _ => v = [.int 1]) := by
  refine xg_aload_n (pc := 507) dL_law_507 rfl ?_
  refine xg_aload_n (pc := 508) dL_law_508 rfl ?_
  refine xg_iload_n (pc := 509) dL_law_509 rfl ?_
  refine xg_iconst (v := 1) (pc := 510) dL_law_510 (by decide) ?_
  refine xg_iadd (pc := 511) dL_law_511 ?_
  refine xg_siald (pc := 512) (i + 1) dL_law_512 (by simp only [xlit, nI_add, pk_mul]) (by omega) hXL ?_
  refine xg_aload_n (pc := 513) dL_law_513 rfl ?_
  refine xg_iload_n (pc := 514) dL_law_514 rfl ?_
  refine xg_iconst (v := 2) (pc := 515) dL_law_515 (by decide) ?_
  refine xg_iadd (pc := 516) dL_law_516 ?_
  refine xg_siald (pc := 517) (i + 2) dL_law_517 (by simp only [xlit, nI_add, pk_mul]) (by omega) hXL ?_
  refine xg_aload_n (pc := 518) dL_law_518 rfl ?_
  refine xg_iload_n (pc := 519) dL_law_519 rfl ?_
  refine xg_iconst (v := 3) (pc := 520) dL_law_520 (by decide) ?_
  refine xg_iadd (pc := 521) dL_law_521 ?_
  refine xg_siald (pc := 522) (i + 3) dL_law_522 (by simp only [xlit, nI_add, pk_mul]) (by omega) hXL ?_
  refine xg_callv (k1 := 0) (n1 := 0) (k2 := 0) (n2 := 0) (pc := 523) (as := [.int (X.2 (i + 1)), .int (X.2 (i + 2)), .int (X.2 (i + 3))]) (rest := []) (M' := mX6_fit) dL_law_523 lkL_52 mcX6_fit hp_0 rfl (two_fit I) rfl rfl (Nat.le_of_ble_eq_true rfl) rfl rfl (fun v h' hq => ?_)
  obtain ⟨x, o2, g0, g1, g2, ⟨y, rfl⟩, rfl, rfl, h7⟩ := hq
  show xGo X false (12 + 1) 0 0 (mLw nm) 526 [some (.ref 1000), some (.ref 0), some (.ref 62), some (.int (nI i))] [.int y] (hp (tri g0 g1 g2) o2 mf wf q) (fun v _ => v = [.int 1])
  refine xg_aload_n (pc := 526) dL_law_526 rfl ?_
  refine xg_aload_n (pc := 527) dL_law_527 rfl ?_
  refine xg_iload_n (pc := 528) dL_law_528 rfl ?_
  refine xg_iconst (v := 1) (pc := 529) dL_law_529 (by decide) ?_
  refine xg_iadd (pc := 530) dL_law_530 ?_
  refine xg_siald (pc := 531) (i + 1) dL_law_531 (by simp only [xlit, nI_add, pk_mul]) (by omega) hXL ?_
  refine xg_aload_n (pc := 532) dL_law_532 rfl ?_
  refine xg_iload_n (pc := 533) dL_law_533 rfl ?_
  refine xg_iconst (v := 2) (pc := 534) dL_law_534 (by decide) ?_
  refine xg_iadd (pc := 535) dL_law_535 ?_
  refine xg_siald (pc := 536) (i + 2) dL_law_536 (by simp only [xlit, nI_add, pk_mul]) (by omega) hXL ?_
  refine xg_aload_n (pc := 537) dL_law_537 rfl ?_
  refine xg_iload_n (pc := 538) dL_law_538 rfl ?_
  refine xg_iconst (v := 3) (pc := 539) dL_law_539 (by decide) ?_
  refine xg_iadd (pc := 540) dL_law_540 ?_
  refine xg_siald (pc := 541) (i + 3) dL_law_541 (by simp only [xlit, nI_add, pk_mul]) (by omega) hXL ?_
  refine xg_callv (k1 := 0) (n1 := 0) (k2 := 0) (n2 := 0) (pc := 542) (as := [.int (X.2 (i + 1)), .int (X.2 (i + 2)), .int (X.2 (i + 3))]) (rest := [.int y]) (M' := mX7_fit) dL_law_542 lkL_55 mcX7_fit hp_62 rfl h7 rfl rfl (Nat.le_of_ble_eq_true rfl) rfl rfl (fun v h' hq => ?_)
  obtain ⟨rfl, mf2, wf2, q2, I2, rfl⟩ := hq
  show xGo X false (12 + 1) 0 0 (mLw nm) 545 [some (.ref 1000), some (.ref 0), some (.ref 62), some (.int (nI i))] [.int y, .int y] (hp (tri g0 g1 g2) o2 mf2 wf2 q2) (fun v _ => v = [.int 1])
  refine xg_icmp_eq (pc := 545) (tgt := 1385) dL_law_545 (by decide) (fun c_545 => ?_) (fun c_545 => absurd c_545 (fun z => z rfl))
  refine xg_iinc (pc := 1385) (y := (nI i) + 6) (ls' := [some (.ref 1000), some (.ref 0), some (.ref 62), some (.int ((nI i) + 6))]) dL_law_1385 rfl rfl (show 3 < 4 by decide) rfl ?_
  refine xg_goto (pc := 1388) (tgt := 18) dL_law_1388 (by decide) ?_
  rw [show (nI i + 6 : Int32) = nI (i + 6) from nI_add i 6]
  exact HO _ _ _ _ _ _ _ I2
set_option maxRecDepth 100000 in
theorem lc_hours {i : Nat} {f0 f1 f2 : Nat → Int32} {o : xO} {mf wf : Nat → Int32} {q : xQ} (hi : i + 6 ≤ X.1) (hXL : X.1 < 2 ^ 31) (HO : ∀ (f0 f1 f2 : Nat → Int32) (o : xO) (mf wf : Nat → Int32) (q : xQ), IV o f0 f2 q mf → xGo X false (12 + 1) 0 0 (mLw nm) 18 [some (.ref 1000), some (.ref 0), some (.ref 62), some (.int (nI (i + 6)))] [] (hp (tri f0 f1 f2) o mf wf q) (fun v _ => v = [.int 1])) (I : IV o f0 f2 q mf) : xGo X false (12 + 1) 0 0 (mLw nm) 550 [some (.ref 1000), some (.ref 0), some (.ref 62), some (.int (nI i))] [] (hp (tri f0 f1 f2) o mf wf q) (fun v _ => v = [.int 1]) := by
  refine xg_aload_n (pc := 550) dL_law_550 rfl ?_
  refine xg_aload_n (pc := 551) dL_law_551 rfl ?_
  refine xg_iload_n (pc := 552) dL_law_552 rfl ?_
  refine xg_iconst (v := 1) (pc := 553) dL_law_553 (by decide) ?_
  refine xg_iadd (pc := 554) dL_law_554 ?_
  refine xg_siald (pc := 555) (i + 1) dL_law_555 (by simp only [xlit, nI_add, pk_mul]) (by omega) hXL ?_
  refine xg_callv (k1 := 0) (n1 := 0) (k2 := 0) (n2 := 0) (pc := 556) (as := [.int (X.2 (i + 1))]) (rest := []) (M' := mX6_hours) dL_law_556 lkL_56 mcX6_hours hp_0 rfl (two_hours I) rfl rfl (Nat.le_of_ble_eq_true rfl) rfl rfl (fun v h' hq => ?_)
  obtain ⟨x, o2, g0, g1, g2, ⟨y, rfl⟩, rfl, rfl, h7⟩ := hq
  show xGo X false (12 + 1) 0 0 (mLw nm) 559 [some (.ref 1000), some (.ref 0), some (.ref 62), some (.int (nI i))] [.int y] (hp (tri g0 g1 g2) o2 mf wf q) (fun v _ => v = [.int 1])
  refine xg_aload_n (pc := 559) dL_law_559 rfl ?_
  refine xg_aload_n (pc := 560) dL_law_560 rfl ?_
  refine xg_iload_n (pc := 561) dL_law_561 rfl ?_
  refine xg_iconst (v := 1) (pc := 562) dL_law_562 (by decide) ?_
  refine xg_iadd (pc := 563) dL_law_563 ?_
  refine xg_siald (pc := 564) (i + 1) dL_law_564 (by simp only [xlit, nI_add, pk_mul]) (by omega) hXL ?_
  refine xg_callv (k1 := 0) (n1 := 0) (k2 := 0) (n2 := 0) (pc := 565) (as := [.int (X.2 (i + 1))]) (rest := [.int y]) (M' := mX7_hours) dL_law_565 lkL_59 mcX7_hours hp_62 rfl h7 rfl rfl (Nat.le_of_ble_eq_true rfl) rfl rfl (fun v h' hq => ?_)
  obtain ⟨rfl, mf2, wf2, q2, I2, rfl⟩ := hq
  show xGo X false (12 + 1) 0 0 (mLw nm) 568 [some (.ref 1000), some (.ref 0), some (.ref 62), some (.int (nI i))] [.int y, .int y] (hp (tri g0 g1 g2) o2 mf2 wf2 q2) (fun v _ => v = [.int 1])
  refine xg_icmp_eq (pc := 568) (tgt := 1385) dL_law_568 (by decide) (fun c_568 => ?_) (fun c_568 => absurd c_568 (fun z => z rfl))
  refine xg_iinc (pc := 1385) (y := (nI i) + 6) (ls' := [some (.ref 1000), some (.ref 0), some (.ref 62), some (.int ((nI i) + 6))]) dL_law_1385 rfl rfl (show 3 < 4 by decide) rfl ?_
  refine xg_goto (pc := 1388) (tgt := 18) dL_law_1388 (by decide) ?_
  rw [show (nI i + 6 : Int32) = nI (i + 6) from nI_add i 6]
  exact HO _ _ _ _ _ _ _ I2
set_option maxRecDepth 100000 in
theorem lc_now {i : Nat} {f0 f1 f2 : Nat → Int32} {o : xO} {mf wf : Nat → Int32} {q : xQ} (hi : i + 6 ≤ X.1) (hXL : X.1 < 2 ^ 31) (HO : ∀ (f0 f1 f2 : Nat → Int32) (o : xO) (mf wf : Nat → Int32) (q : xQ), IV o f0 f2 q mf → xGo X false (12 + 1) 0 0 (mLw nm) 18 [some (.ref 1000), some (.ref 0), some (.ref 62), some (.int (nI (i + 6)))] [] (hp (tri f0 f1 f2) o mf wf q) (fun v _ => v = [.int 1])) (I : IV o f0 f2 q mf) : xGo X false (12 + 1) 0 0 (mLw nm) 573 [some (.ref 1000), some (.ref 0), some (.ref 62), some (.int (nI i))] [] (hp (tri f0 f1 f2) o mf wf q) (fun v _ => v = [.int 1]) := by
  refine xg_aload_n (pc := 573) dL_law_573 rfl ?_
  refine xg_aload_n (pc := 574) dL_law_574 rfl ?_
  refine xg_iload_n (pc := 575) dL_law_575 rfl ?_
  refine xg_iconst (v := 1) (pc := 576) dL_law_576 (by decide) ?_
  refine xg_iadd (pc := 577) dL_law_577 ?_
  refine xg_siald (pc := 578) (i + 1) dL_law_578 (by simp only [xlit, nI_add, pk_mul]) (by omega) hXL ?_
  refine xg_callv (k1 := 0) (n1 := 0) (k2 := 0) (n2 := 0) (pc := 579) (as := [.int (X.2 (i + 1))]) (rest := []) (M' := mX6_now) dL_law_579 lkL_60 mcX6_now hp_0 rfl (two_now I) rfl rfl (Nat.le_of_ble_eq_true rfl) rfl rfl (fun v h' hq => ?_)
  obtain ⟨x, o2, g0, g1, g2, ⟨y, rfl⟩, rfl, rfl, h7⟩ := hq
  show xGo X false (12 + 1) 0 0 (mLw nm) 582 [some (.ref 1000), some (.ref 0), some (.ref 62), some (.int (nI i))] [.int y] (hp (tri g0 g1 g2) o2 mf wf q) (fun v _ => v = [.int 1])
  refine xg_aload_n (pc := 582) dL_law_582 rfl ?_
  refine xg_aload_n (pc := 583) dL_law_583 rfl ?_
  refine xg_iload_n (pc := 584) dL_law_584 rfl ?_
  refine xg_iconst (v := 1) (pc := 585) dL_law_585 (by decide) ?_
  refine xg_iadd (pc := 586) dL_law_586 ?_
  refine xg_siald (pc := 587) (i + 1) dL_law_587 (by simp only [xlit, nI_add, pk_mul]) (by omega) hXL ?_
  refine xg_callv (k1 := 0) (n1 := 0) (k2 := 0) (n2 := 0) (pc := 588) (as := [.int (X.2 (i + 1))]) (rest := [.int y]) (M' := mX7_now) dL_law_588 lkL_63 mcX7_now hp_62 rfl h7 rfl rfl (Nat.le_of_ble_eq_true rfl) rfl rfl (fun v h' hq => ?_)
  obtain ⟨rfl, mf2, wf2, q2, I2, rfl⟩ := hq
  show xGo X false (12 + 1) 0 0 (mLw nm) 591 [some (.ref 1000), some (.ref 0), some (.ref 62), some (.int (nI i))] [.int y, .int y] (hp (tri g0 g1 g2) o2 mf2 wf2 q2) (fun v _ => v = [.int 1])
  refine xg_icmp_eq (pc := 591) (tgt := 1385) dL_law_591 (by decide) (fun c_591 => ?_) (fun c_591 => absurd c_591 (fun z => z rfl))
  refine xg_iinc (pc := 1385) (y := (nI i) + 6) (ls' := [some (.ref 1000), some (.ref 0), some (.ref 62), some (.int ((nI i) + 6))]) dL_law_1385 rfl rfl (show 3 < 4 by decide) rfl ?_
  refine xg_goto (pc := 1388) (tgt := 18) dL_law_1388 (by decide) ?_
  rw [show (nI i + 6 : Int32) = nI (i + 6) from nI_add i 6]
  exact HO _ _ _ _ _ _ _ I2
set_option maxRecDepth 100000 in
theorem lc_on {i : Nat} {f0 f1 f2 : Nat → Int32} {o : xO} {mf wf : Nat → Int32} {q : xQ} (hi : i + 6 ≤ X.1) (hXL : X.1 < 2 ^ 31) (HO : ∀ (f0 f1 f2 : Nat → Int32) (o : xO) (mf wf : Nat → Int32) (q : xQ), IV o f0 f2 q mf → xGo X false (12 + 1) 0 0 (mLw nm) 18 [some (.ref 1000), some (.ref 0), some (.ref 62), some (.int (nI (i + 6)))] [] (hp (tri f0 f1 f2) o mf wf q) (fun v _ => v = [.int 1])) (I : IV o f0 f2 q mf) : xGo X false (12 + 1) 0 0 (mLw nm) 596 [some (.ref 1000), some (.ref 0), some (.ref 62), some (.int (nI i))] [] (hp (tri f0 f1 f2) o mf wf q) (fun v _ => v = [.int 1]) := by
  refine xg_aload_n (pc := 596) dL_law_596 rfl ?_
  refine xg_aload_n (pc := 597) dL_law_597 rfl ?_
  refine xg_iload_n (pc := 598) dL_law_598 rfl ?_
  refine xg_iconst (v := 1) (pc := 599) dL_law_599 (by decide) ?_
  refine xg_iadd (pc := 600) dL_law_600 ?_
  refine xg_siald (pc := 601) (i + 1) dL_law_601 (by simp only [xlit, nI_add, pk_mul]) (by omega) hXL ?_
  refine xg_aload_n (pc := 602) dL_law_602 rfl ?_
  refine xg_iload_n (pc := 603) dL_law_603 rfl ?_
  refine xg_iconst (v := 2) (pc := 604) dL_law_604 (by decide) ?_
  refine xg_iadd (pc := 605) dL_law_605 ?_
  refine xg_siald (pc := 606) (i + 2) dL_law_606 (by simp only [xlit, nI_add, pk_mul]) (by omega) hXL ?_
  refine xg_aload_n (pc := 607) dL_law_607 rfl ?_
  refine xg_iload_n (pc := 608) dL_law_608 rfl ?_
  refine xg_iconst (v := 3) (pc := 609) dL_law_609 (by decide) ?_
  refine xg_iadd (pc := 610) dL_law_610 ?_
  refine xg_siald (pc := 611) (i + 3) dL_law_611 (by simp only [xlit, nI_add, pk_mul]) (by omega) hXL ?_
  refine xg_callv (k1 := 0) (n1 := 0) (k2 := 0) (n2 := 0) (pc := 612) (as := [.int (X.2 (i + 1)), .int (X.2 (i + 2)), .int (X.2 (i + 3))]) (rest := []) (M' := mX6_on) dL_law_612 lkL_64 mcX6_on hp_0 rfl (two_on I) rfl rfl (Nat.le_of_ble_eq_true rfl) rfl rfl (fun v h' hq => ?_)
  obtain ⟨x, o2, g0, g1, g2, ⟨y, rfl⟩, rfl, rfl, h7⟩ := hq
  show xGo X false (12 + 1) 0 0 (mLw nm) 615 [some (.ref 1000), some (.ref 0), some (.ref 62), some (.int (nI i))] [.int y] (hp (tri g0 g1 g2) o2 mf wf q) (fun v _ => v = [.int 1])
  refine xg_aload_n (pc := 615) dL_law_615 rfl ?_
  refine xg_aload_n (pc := 616) dL_law_616 rfl ?_
  refine xg_iload_n (pc := 617) dL_law_617 rfl ?_
  refine xg_iconst (v := 1) (pc := 618) dL_law_618 (by decide) ?_
  refine xg_iadd (pc := 619) dL_law_619 ?_
  refine xg_siald (pc := 620) (i + 1) dL_law_620 (by simp only [xlit, nI_add, pk_mul]) (by omega) hXL ?_
  refine xg_aload_n (pc := 621) dL_law_621 rfl ?_
  refine xg_iload_n (pc := 622) dL_law_622 rfl ?_
  refine xg_iconst (v := 2) (pc := 623) dL_law_623 (by decide) ?_
  refine xg_iadd (pc := 624) dL_law_624 ?_
  refine xg_siald (pc := 625) (i + 2) dL_law_625 (by simp only [xlit, nI_add, pk_mul]) (by omega) hXL ?_
  refine xg_aload_n (pc := 626) dL_law_626 rfl ?_
  refine xg_iload_n (pc := 627) dL_law_627 rfl ?_
  refine xg_iconst (v := 3) (pc := 628) dL_law_628 (by decide) ?_
  refine xg_iadd (pc := 629) dL_law_629 ?_
  refine xg_siald (pc := 630) (i + 3) dL_law_630 (by simp only [xlit, nI_add, pk_mul]) (by omega) hXL ?_
  refine xg_callv (k1 := 0) (n1 := 0) (k2 := 0) (n2 := 0) (pc := 631) (as := [.int (X.2 (i + 1)), .int (X.2 (i + 2)), .int (X.2 (i + 3))]) (rest := [.int y]) (M' := mX7_on) dL_law_631 lkL_67 mcX7_on hp_62 rfl h7 rfl rfl (Nat.le_of_ble_eq_true rfl) rfl rfl (fun v h' hq => ?_)
  obtain ⟨rfl, mf2, wf2, q2, I2, rfl⟩ := hq
  show xGo X false (12 + 1) 0 0 (mLw nm) 634 [some (.ref 1000), some (.ref 0), some (.ref 62), some (.int (nI i))] [.int y, .int y] (hp (tri g0 g1 g2) o2 mf2 wf2 q2) (fun v _ => v = [.int 1])
  refine xg_icmp_eq (pc := 634) (tgt := 1385) dL_law_634 (by decide) (fun c_634 => ?_) (fun c_634 => absurd c_634 (fun z => z rfl))
  refine xg_iinc (pc := 1385) (y := (nI i) + 6) (ls' := [some (.ref 1000), some (.ref 0), some (.ref 62), some (.int ((nI i) + 6))]) dL_law_1385 rfl rfl (show 3 < 4 by decide) rfl ?_
  refine xg_goto (pc := 1388) (tgt := 18) dL_law_1388 (by decide) ?_
  rw [show (nI i + 6 : Int32) = nI (i + 6) from nI_add i 6]
  exact HO _ _ _ _ _ _ _ I2
set_option maxRecDepth 100000 in
theorem lc_light {i : Nat} {f0 f1 f2 : Nat → Int32} {o : xO} {mf wf : Nat → Int32} {q : xQ} (hi : i + 6 ≤ X.1) (hXL : X.1 < 2 ^ 31) (HO : ∀ (f0 f1 f2 : Nat → Int32) (o : xO) (mf wf : Nat → Int32) (q : xQ), IV o f0 f2 q mf → xGo X false (12 + 1) 0 0 (mLw nm) 18 [some (.ref 1000), some (.ref 0), some (.ref 62), some (.int (nI (i + 6)))] [] (hp (tri f0 f1 f2) o mf wf q) (fun v _ => v = [.int 1])) (I : IV o f0 f2 q mf) : xGo X false (12 + 1) 0 0 (mLw nm) 639 [some (.ref 1000), some (.ref 0), some (.ref 62), some (.int (nI i))] [] (hp (tri f0 f1 f2) o mf wf q) (fun v _ => v = [.int 1]) := by
  refine xg_aload_n (pc := 639) dL_law_639 rfl ?_
  refine xg_aload_n (pc := 640) dL_law_640 rfl ?_
  refine xg_iload_n (pc := 641) dL_law_641 rfl ?_
  refine xg_iconst (v := 1) (pc := 642) dL_law_642 (by decide) ?_
  refine xg_iadd (pc := 643) dL_law_643 ?_
  refine xg_siald (pc := 644) (i + 1) dL_law_644 (by simp only [xlit, nI_add, pk_mul]) (by omega) hXL ?_
  refine xg_aload_n (pc := 645) dL_law_645 rfl ?_
  refine xg_iload_n (pc := 646) dL_law_646 rfl ?_
  refine xg_iconst (v := 2) (pc := 647) dL_law_647 (by decide) ?_
  refine xg_iadd (pc := 648) dL_law_648 ?_
  refine xg_siald (pc := 649) (i + 2) dL_law_649 (by simp only [xlit, nI_add, pk_mul]) (by omega) hXL ?_
  refine xg_callv (k1 := 0) (n1 := 0) (k2 := 0) (n2 := 0) (pc := 650) (as := [.int (X.2 (i + 1)), .int (X.2 (i + 2))]) (rest := []) (M' := mX6_light) dL_law_650 lkL_68 mcX6_light hp_0 rfl (two_light I) rfl rfl (Nat.le_of_ble_eq_true rfl) rfl rfl (fun v h' hq => ?_)
  obtain ⟨x, o2, g0, g1, g2, ⟨y, rfl⟩, rfl, rfl, h7⟩ := hq
  show xGo X false (12 + 1) 0 0 (mLw nm) 653 [some (.ref 1000), some (.ref 0), some (.ref 62), some (.int (nI i))] [.int y] (hp (tri g0 g1 g2) o2 mf wf q) (fun v _ => v = [.int 1])
  refine xg_aload_n (pc := 653) dL_law_653 rfl ?_
  refine xg_aload_n (pc := 654) dL_law_654 rfl ?_
  refine xg_iload_n (pc := 655) dL_law_655 rfl ?_
  refine xg_iconst (v := 1) (pc := 656) dL_law_656 (by decide) ?_
  refine xg_iadd (pc := 657) dL_law_657 ?_
  refine xg_siald (pc := 658) (i + 1) dL_law_658 (by simp only [xlit, nI_add, pk_mul]) (by omega) hXL ?_
  refine xg_aload_n (pc := 659) dL_law_659 rfl ?_
  refine xg_iload_n (pc := 660) dL_law_660 rfl ?_
  refine xg_iconst (v := 2) (pc := 661) dL_law_661 (by decide) ?_
  refine xg_iadd (pc := 662) dL_law_662 ?_
  refine xg_siald (pc := 663) (i + 2) dL_law_663 (by simp only [xlit, nI_add, pk_mul]) (by omega) hXL ?_
  refine xg_callv (k1 := 0) (n1 := 0) (k2 := 0) (n2 := 0) (pc := 664) (as := [.int (X.2 (i + 1)), .int (X.2 (i + 2))]) (rest := [.int y]) (M' := mX7_light) dL_law_664 lkL_71 mcX7_light hp_62 rfl h7 rfl rfl (Nat.le_of_ble_eq_true rfl) rfl rfl (fun v h' hq => ?_)
  obtain ⟨rfl, mf2, wf2, q2, I2, rfl⟩ := hq
  show xGo X false (12 + 1) 0 0 (mLw nm) 667 [some (.ref 1000), some (.ref 0), some (.ref 62), some (.int (nI i))] [.int y, .int y] (hp (tri g0 g1 g2) o2 mf2 wf2 q2) (fun v _ => v = [.int 1])
  refine xg_icmp_eq (pc := 667) (tgt := 1385) dL_law_667 (by decide) (fun c_667 => ?_) (fun c_667 => absurd c_667 (fun z => z rfl))
  refine xg_iinc (pc := 1385) (y := (nI i) + 6) (ls' := [some (.ref 1000), some (.ref 0), some (.ref 62), some (.int ((nI i) + 6))]) dL_law_1385 rfl rfl (show 3 < 4 by decide) rfl ?_
  refine xg_goto (pc := 1388) (tgt := 18) dL_law_1388 (by decide) ?_
  rw [show (nI i + 6 : Int32) = nI (i + 6) from nI_add i 6]
  exact HO _ _ _ _ _ _ _ I2
set_option maxRecDepth 100000 in
theorem lc_full {i : Nat} {f0 f1 f2 : Nat → Int32} {o : xO} {mf wf : Nat → Int32} {q : xQ} (hi : i + 6 ≤ X.1) (hXL : X.1 < 2 ^ 31) (HO : ∀ (f0 f1 f2 : Nat → Int32) (o : xO) (mf wf : Nat → Int32) (q : xQ), IV o f0 f2 q mf → xGo X false (12 + 1) 0 0 (mLw nm) 18 [some (.ref 1000), some (.ref 0), some (.ref 62), some (.int (nI (i + 6)))] [] (hp (tri f0 f1 f2) o mf wf q) (fun v _ => v = [.int 1])) (I : IV o f0 f2 q mf) : xGo X false (12 + 1) 0 0 (mLw nm) 672 [some (.ref 1000), some (.ref 0), some (.ref 62), some (.int (nI i))] [] (hp (tri f0 f1 f2) o mf wf q) (fun v _ => v = [.int 1]) := by
  refine xg_aload_n (pc := 672) dL_law_672 rfl ?_
  refine xg_aload_n (pc := 673) dL_law_673 rfl ?_
  refine xg_iload_n (pc := 674) dL_law_674 rfl ?_
  refine xg_iconst (v := 1) (pc := 675) dL_law_675 (by decide) ?_
  refine xg_iadd (pc := 676) dL_law_676 ?_
  refine xg_siald (pc := 677) (i + 1) dL_law_677 (by simp only [xlit, nI_add, pk_mul]) (by omega) hXL ?_
  refine xg_aload_n (pc := 678) dL_law_678 rfl ?_
  refine xg_iload_n (pc := 679) dL_law_679 rfl ?_
  refine xg_iconst (v := 2) (pc := 680) dL_law_680 (by decide) ?_
  refine xg_iadd (pc := 681) dL_law_681 ?_
  refine xg_siald (pc := 682) (i + 2) dL_law_682 (by simp only [xlit, nI_add, pk_mul]) (by omega) hXL ?_
  refine xg_callv (k1 := 0) (n1 := 0) (k2 := 0) (n2 := 0) (pc := 683) (as := [.int (X.2 (i + 1)), .int (X.2 (i + 2))]) (rest := []) (M' := mX6_full) dL_law_683 lkL_72 mcX6_full hp_0 rfl (two_full I) rfl rfl (Nat.le_of_ble_eq_true rfl) rfl rfl (fun v h' hq => ?_)
  obtain ⟨x, o2, g0, g1, g2, ⟨y, rfl⟩, rfl, rfl, h7⟩ := hq
  show xGo X false (12 + 1) 0 0 (mLw nm) 686 [some (.ref 1000), some (.ref 0), some (.ref 62), some (.int (nI i))] [.int y] (hp (tri g0 g1 g2) o2 mf wf q) (fun v _ => v = [.int 1])
  refine xg_aload_n (pc := 686) dL_law_686 rfl ?_
  refine xg_aload_n (pc := 687) dL_law_687 rfl ?_
  refine xg_iload_n (pc := 688) dL_law_688 rfl ?_
  refine xg_iconst (v := 1) (pc := 689) dL_law_689 (by decide) ?_
  refine xg_iadd (pc := 690) dL_law_690 ?_
  refine xg_siald (pc := 691) (i + 1) dL_law_691 (by simp only [xlit, nI_add, pk_mul]) (by omega) hXL ?_
  refine xg_aload_n (pc := 692) dL_law_692 rfl ?_
  refine xg_iload_n (pc := 693) dL_law_693 rfl ?_
  refine xg_iconst (v := 2) (pc := 694) dL_law_694 (by decide) ?_
  refine xg_iadd (pc := 695) dL_law_695 ?_
  refine xg_siald (pc := 696) (i + 2) dL_law_696 (by simp only [xlit, nI_add, pk_mul]) (by omega) hXL ?_
  refine xg_callv (k1 := 0) (n1 := 0) (k2 := 0) (n2 := 0) (pc := 697) (as := [.int (X.2 (i + 1)), .int (X.2 (i + 2))]) (rest := [.int y]) (M' := mX7_full) dL_law_697 lkL_75 mcX7_full hp_62 rfl h7 rfl rfl (Nat.le_of_ble_eq_true rfl) rfl rfl (fun v h' hq => ?_)
  obtain ⟨rfl, mf2, wf2, q2, I2, rfl⟩ := hq
  show xGo X false (12 + 1) 0 0 (mLw nm) 700 [some (.ref 1000), some (.ref 0), some (.ref 62), some (.int (nI i))] [.int y, .int y] (hp (tri g0 g1 g2) o2 mf2 wf2 q2) (fun v _ => v = [.int 1])
  refine xg_icmp_eq (pc := 700) (tgt := 1385) dL_law_700 (by decide) (fun c_700 => ?_) (fun c_700 => absurd c_700 (fun z => z rfl))
  refine xg_iinc (pc := 1385) (y := (nI i) + 6) (ls' := [some (.ref 1000), some (.ref 0), some (.ref 62), some (.int ((nI i) + 6))]) dL_law_1385 rfl rfl (show 3 < 4 by decide) rfl ?_
  refine xg_goto (pc := 1388) (tgt := 18) dL_law_1388 (by decide) ?_
  rw [show (nI i + 6 : Int32) = nI (i + 6) from nI_add i 6]
  exact HO _ _ _ _ _ _ _ I2
set_option maxRecDepth 100000 in
theorem lc_dark {i : Nat} {f0 f1 f2 : Nat → Int32} {o : xO} {mf wf : Nat → Int32} {q : xQ} (hi : i + 6 ≤ X.1) (hXL : X.1 < 2 ^ 31) (HO : ∀ (f0 f1 f2 : Nat → Int32) (o : xO) (mf wf : Nat → Int32) (q : xQ), IV o f0 f2 q mf → xGo X false (12 + 1) 0 0 (mLw nm) 18 [some (.ref 1000), some (.ref 0), some (.ref 62), some (.int (nI (i + 6)))] [] (hp (tri f0 f1 f2) o mf wf q) (fun v _ => v = [.int 1])) (I : IV o f0 f2 q mf) : xGo X false (12 + 1) 0 0 (mLw nm) 705 [some (.ref 1000), some (.ref 0), some (.ref 62), some (.int (nI i))] [] (hp (tri f0 f1 f2) o mf wf q) (fun v _ => v = [.int 1]) := by
  refine xg_aload_n (pc := 705) dL_law_705 rfl ?_
  refine xg_aload_n (pc := 706) dL_law_706 rfl ?_
  refine xg_iload_n (pc := 707) dL_law_707 rfl ?_
  refine xg_iconst (v := 1) (pc := 708) dL_law_708 (by decide) ?_
  refine xg_iadd (pc := 709) dL_law_709 ?_
  refine xg_siald (pc := 710) (i + 1) dL_law_710 (by simp only [xlit, nI_add, pk_mul]) (by omega) hXL ?_
  refine xg_callv (k1 := 0) (n1 := 0) (k2 := 0) (n2 := 0) (pc := 711) (as := [.int (X.2 (i + 1))]) (rest := []) (M' := mX6_dark) dL_law_711 lkL_76 mcX6_dark hp_0 rfl (two_dark I) rfl rfl (Nat.le_of_ble_eq_true rfl) rfl rfl (fun v h' hq => ?_)
  obtain ⟨x, o2, g0, g1, g2, ⟨y, rfl⟩, rfl, rfl, h7⟩ := hq
  show xGo X false (12 + 1) 0 0 (mLw nm) 714 [some (.ref 1000), some (.ref 0), some (.ref 62), some (.int (nI i))] [.int y] (hp (tri g0 g1 g2) o2 mf wf q) (fun v _ => v = [.int 1])
  refine xg_aload_n (pc := 714) dL_law_714 rfl ?_
  refine xg_aload_n (pc := 715) dL_law_715 rfl ?_
  refine xg_iload_n (pc := 716) dL_law_716 rfl ?_
  refine xg_iconst (v := 1) (pc := 717) dL_law_717 (by decide) ?_
  refine xg_iadd (pc := 718) dL_law_718 ?_
  refine xg_siald (pc := 719) (i + 1) dL_law_719 (by simp only [xlit, nI_add, pk_mul]) (by omega) hXL ?_
  refine xg_callv (k1 := 0) (n1 := 0) (k2 := 0) (n2 := 0) (pc := 720) (as := [.int (X.2 (i + 1))]) (rest := [.int y]) (M' := mX7_dark) dL_law_720 lkL_79 mcX7_dark hp_62 rfl h7 rfl rfl (Nat.le_of_ble_eq_true rfl) rfl rfl (fun v h' hq => ?_)
  obtain ⟨rfl, mf2, wf2, q2, I2, rfl⟩ := hq
  show xGo X false (12 + 1) 0 0 (mLw nm) 723 [some (.ref 1000), some (.ref 0), some (.ref 62), some (.int (nI i))] [.int y, .int y] (hp (tri g0 g1 g2) o2 mf2 wf2 q2) (fun v _ => v = [.int 1])
  refine xg_icmp_eq (pc := 723) (tgt := 1385) dL_law_723 (by decide) (fun c_723 => ?_) (fun c_723 => absurd c_723 (fun z => z rfl))
  refine xg_iinc (pc := 1385) (y := (nI i) + 6) (ls' := [some (.ref 1000), some (.ref 0), some (.ref 62), some (.int ((nI i) + 6))]) dL_law_1385 rfl rfl (show 3 < 4 by decide) rfl ?_
  refine xg_goto (pc := 1388) (tgt := 18) dL_law_1388 (by decide) ?_
  rw [show (nI i + 6 : Int32) = nI (i + 6) from nI_add i 6]
  exact HO _ _ _ _ _ _ _ I2
set_option maxRecDepth 100000 in
theorem lc_brightest {i : Nat} {f0 f1 f2 : Nat → Int32} {o : xO} {mf wf : Nat → Int32} {q : xQ} (hi : i + 6 ≤ X.1) (hXL : X.1 < 2 ^ 31) (HO : ∀ (f0 f1 f2 : Nat → Int32) (o : xO) (mf wf : Nat → Int32) (q : xQ), IV o f0 f2 q mf → xGo X false (12 + 1) 0 0 (mLw nm) 18 [some (.ref 1000), some (.ref 0), some (.ref 62), some (.int (nI (i + 6)))] [] (hp (tri f0 f1 f2) o mf wf q) (fun v _ => v = [.int 1])) (I : IV o f0 f2 q mf) : xGo X false (12 + 1) 0 0 (mLw nm) 728 [some (.ref 1000), some (.ref 0), some (.ref 62), some (.int (nI i))] [] (hp (tri f0 f1 f2) o mf wf q) (fun v _ => v = [.int 1]) := by
  refine xg_aload_n (pc := 728) dL_law_728 rfl ?_
  refine xg_callv (k1 := 0) (n1 := 0) (k2 := 0) (n2 := 0) (pc := 729) (as := []) (rest := []) (M' := mX6_brightest) dL_law_729 lkL_80 mcX6_brightest hp_0 rfl (two_brightest I) rfl rfl (Nat.le_of_ble_eq_true rfl) rfl rfl (fun v h' hq => ?_)
  obtain ⟨x, o2, g0, g1, g2, ⟨y, rfl⟩, rfl, rfl, h7⟩ := hq
  show xGo X false (12 + 1) 0 0 (mLw nm) 732 [some (.ref 1000), some (.ref 0), some (.ref 62), some (.int (nI i))] [.int y] (hp (tri g0 g1 g2) o2 mf wf q) (fun v _ => v = [.int 1])
  refine xg_aload_n (pc := 732) dL_law_732 rfl ?_
  refine xg_callv (k1 := 0) (n1 := 0) (k2 := 0) (n2 := 0) (pc := 733) (as := []) (rest := [.int y]) (M' := mX7_brightest) dL_law_733 lkL_84 mcX7_brightest hp_62 rfl h7 rfl rfl (Nat.le_of_ble_eq_true rfl) rfl rfl (fun v h' hq => ?_)
  obtain ⟨rfl, mf2, wf2, q2, I2, rfl⟩ := hq
  show xGo X false (12 + 1) 0 0 (mLw nm) 736 [some (.ref 1000), some (.ref 0), some (.ref 62), some (.int (nI i))] [.int y, .int y] (hp (tri g0 g1 g2) o2 mf2 wf2 q2) (fun v _ => v = [.int 1])
  refine xg_icmp_eq (pc := 736) (tgt := 1385) dL_law_736 (by decide) (fun c_736 => ?_) (fun c_736 => absurd c_736 (fun z => z rfl))
  refine xg_iinc (pc := 1385) (y := (nI i) + 6) (ls' := [some (.ref 1000), some (.ref 0), some (.ref 62), some (.int ((nI i) + 6))]) dL_law_1385 rfl rfl (show 3 < 4 by decide) rfl ?_
  refine xg_goto (pc := 1388) (tgt := 18) dL_law_1388 (by decide) ?_
  rw [show (nI i + 6 : Int32) = nI (i + 6) from nI_add i 6]
  exact HO _ _ _ _ _ _ _ I2
set_option maxRecDepth 100000 in
theorem lc_spot {i : Nat} {f0 f1 f2 : Nat → Int32} {o : xO} {mf wf : Nat → Int32} {q : xQ} (hi : i + 6 ≤ X.1) (hXL : X.1 < 2 ^ 31) (HO : ∀ (f0 f1 f2 : Nat → Int32) (o : xO) (mf wf : Nat → Int32) (q : xQ), IV o f0 f2 q mf → xGo X false (12 + 1) 0 0 (mLw nm) 18 [some (.ref 1000), some (.ref 0), some (.ref 62), some (.int (nI (i + 6)))] [] (hp (tri f0 f1 f2) o mf wf q) (fun v _ => v = [.int 1])) (I : IV o f0 f2 q mf) : xGo X false (12 + 1) 0 0 (mLw nm) 741 [some (.ref 1000), some (.ref 0), some (.ref 62), some (.int (nI i))] [] (hp (tri f0 f1 f2) o mf wf q) (fun v _ => v = [.int 1]) := by
  refine xg_aload_n (pc := 741) dL_law_741 rfl ?_
  refine xg_aload_n (pc := 742) dL_law_742 rfl ?_
  refine xg_iload_n (pc := 743) dL_law_743 rfl ?_
  refine xg_iconst (v := 1) (pc := 744) dL_law_744 (by decide) ?_
  refine xg_iadd (pc := 745) dL_law_745 ?_
  refine xg_siald (pc := 746) (i + 1) dL_law_746 (by simp only [xlit, nI_add, pk_mul]) (by omega) hXL ?_
  refine xg_aload_n (pc := 747) dL_law_747 rfl ?_
  refine xg_iload_n (pc := 748) dL_law_748 rfl ?_
  refine xg_iconst (v := 2) (pc := 749) dL_law_749 (by decide) ?_
  refine xg_iadd (pc := 750) dL_law_750 ?_
  refine xg_siald (pc := 751) (i + 2) dL_law_751 (by simp only [xlit, nI_add, pk_mul]) (by omega) hXL ?_
  refine xg_callv (k1 := 0) (n1 := 0) (k2 := 0) (n2 := 0) (pc := 752) (as := [.int (X.2 (i + 1)), .int (X.2 (i + 2))]) (rest := []) (M' := mX6_spot) dL_law_752 lkL_85 mcX6_spot hp_0 rfl (two_spot I) rfl rfl (Nat.le_of_ble_eq_true rfl) rfl rfl (fun v h' hq => ?_)
  obtain ⟨x, o2, g0, g1, g2, ⟨y, rfl⟩, rfl, rfl, h7⟩ := hq
  show xGo X false (12 + 1) 0 0 (mLw nm) 755 [some (.ref 1000), some (.ref 0), some (.ref 62), some (.int (nI i))] [.int y] (hp (tri g0 g1 g2) o2 mf wf q) (fun v _ => v = [.int 1])
  refine xg_aload_n (pc := 755) dL_law_755 rfl ?_
  refine xg_aload_n (pc := 756) dL_law_756 rfl ?_
  refine xg_iload_n (pc := 757) dL_law_757 rfl ?_
  refine xg_iconst (v := 1) (pc := 758) dL_law_758 (by decide) ?_
  refine xg_iadd (pc := 759) dL_law_759 ?_
  refine xg_siald (pc := 760) (i + 1) dL_law_760 (by simp only [xlit, nI_add, pk_mul]) (by omega) hXL ?_
  refine xg_aload_n (pc := 761) dL_law_761 rfl ?_
  refine xg_iload_n (pc := 762) dL_law_762 rfl ?_
  refine xg_iconst (v := 2) (pc := 763) dL_law_763 (by decide) ?_
  refine xg_iadd (pc := 764) dL_law_764 ?_
  refine xg_siald (pc := 765) (i + 2) dL_law_765 (by simp only [xlit, nI_add, pk_mul]) (by omega) hXL ?_
  refine xg_callv (k1 := 0) (n1 := 0) (k2 := 0) (n2 := 0) (pc := 766) (as := [.int (X.2 (i + 1)), .int (X.2 (i + 2))]) (rest := [.int y]) (M' := mX7_spot) dL_law_766 lkL_88 mcX7_spot hp_62 rfl h7 rfl rfl (Nat.le_of_ble_eq_true rfl) rfl rfl (fun v h' hq => ?_)
  obtain ⟨rfl, mf2, wf2, q2, I2, rfl⟩ := hq
  show xGo X false (12 + 1) 0 0 (mLw nm) 769 [some (.ref 1000), some (.ref 0), some (.ref 62), some (.int (nI i))] [.int y, .int y] (hp (tri g0 g1 g2) o2 mf2 wf2 q2) (fun v _ => v = [.int 1])
  refine xg_icmp_eq (pc := 769) (tgt := 1385) dL_law_769 (by decide) (fun c_769 => ?_) (fun c_769 => absurd c_769 (fun z => z rfl))
  refine xg_iinc (pc := 1385) (y := (nI i) + 6) (ls' := [some (.ref 1000), some (.ref 0), some (.ref 62), some (.int ((nI i) + 6))]) dL_law_1385 rfl rfl (show 3 < 4 by decide) rfl ?_
  refine xg_goto (pc := 1388) (tgt := 18) dL_law_1388 (by decide) ?_
  rw [show (nI i + 6 : Int32) = nI (i + 6) from nI_add i 6]
  exact HO _ _ _ _ _ _ _ I2
set_option maxRecDepth 100000 in
theorem lc_time {i : Nat} {f0 f1 f2 : Nat → Int32} {o : xO} {mf wf : Nat → Int32} {q : xQ} (hi : i + 6 ≤ X.1) (hXL : X.1 < 2 ^ 31) (HO : ∀ (f0 f1 f2 : Nat → Int32) (o : xO) (mf wf : Nat → Int32) (q : xQ), IV o f0 f2 q mf → xGo X false (12 + 1) 0 0 (mLw nm) 18 [some (.ref 1000), some (.ref 0), some (.ref 62), some (.int (nI (i + 6)))] [] (hp (tri f0 f1 f2) o mf wf q) (fun v _ => v = [.int 1])) (I : IV o f0 f2 q mf) : xGo X false (12 + 1) 0 0 (mLw nm) 774 [some (.ref 1000), some (.ref 0), some (.ref 62), some (.int (nI i))] [] (hp (tri f0 f1 f2) o mf wf q) (fun v _ => v = [.int 1]) := by
  refine xg_aload_n (pc := 774) dL_law_774 rfl ?_
  refine xg_aload_n (pc := 775) dL_law_775 rfl ?_
  refine xg_iload_n (pc := 776) dL_law_776 rfl ?_
  refine xg_iconst (v := 1) (pc := 777) dL_law_777 (by decide) ?_
  refine xg_iadd (pc := 778) dL_law_778 ?_
  refine xg_siald (pc := 779) (i + 1) dL_law_779 (by simp only [xlit, nI_add, pk_mul]) (by omega) hXL ?_
  refine xg_callv (k1 := 0) (n1 := 0) (k2 := 0) (n2 := 0) (pc := 780) (as := [.int (X.2 (i + 1))]) (rest := []) (M' := mX6_time) dL_law_780 lkL_89 mcX6_time hp_0 rfl (two_time I) rfl rfl (Nat.le_of_ble_eq_true rfl) rfl rfl (fun v h' hq => ?_)
  obtain ⟨x, o2, g0, g1, g2, ⟨y, rfl⟩, rfl, rfl, h7⟩ := hq
  show xGo X false (12 + 1) 0 0 (mLw nm) 783 [some (.ref 1000), some (.ref 0), some (.ref 62), some (.int (nI i))] [.int y] (hp (tri g0 g1 g2) o2 mf wf q) (fun v _ => v = [.int 1])
  refine xg_aload_n (pc := 783) dL_law_783 rfl ?_
  refine xg_aload_n (pc := 784) dL_law_784 rfl ?_
  refine xg_iload_n (pc := 785) dL_law_785 rfl ?_
  refine xg_iconst (v := 1) (pc := 786) dL_law_786 (by decide) ?_
  refine xg_iadd (pc := 787) dL_law_787 ?_
  refine xg_siald (pc := 788) (i + 1) dL_law_788 (by simp only [xlit, nI_add, pk_mul]) (by omega) hXL ?_
  refine xg_callv (k1 := 0) (n1 := 0) (k2 := 0) (n2 := 0) (pc := 789) (as := [.int (X.2 (i + 1))]) (rest := [.int y]) (M' := mX7_time) dL_law_789 lkL_92 mcX7_time hp_62 rfl h7 rfl rfl (Nat.le_of_ble_eq_true rfl) rfl rfl (fun v h' hq => ?_)
  obtain ⟨rfl, mf2, wf2, q2, I2, rfl⟩ := hq
  show xGo X false (12 + 1) 0 0 (mLw nm) 792 [some (.ref 1000), some (.ref 0), some (.ref 62), some (.int (nI i))] [.int y, .int y] (hp (tri g0 g1 g2) o2 mf2 wf2 q2) (fun v _ => v = [.int 1])
  refine xg_icmp_eq (pc := 792) (tgt := 1385) dL_law_792 (by decide) (fun c_792 => ?_) (fun c_792 => absurd c_792 (fun z => z rfl))
  refine xg_iinc (pc := 1385) (y := (nI i) + 6) (ls' := [some (.ref 1000), some (.ref 0), some (.ref 62), some (.int ((nI i) + 6))]) dL_law_1385 rfl rfl (show 3 < 4 by decide) rfl ?_
  refine xg_goto (pc := 1388) (tgt := 18) dL_law_1388 (by decide) ?_
  rw [show (nI i + 6 : Int32) = nI (i + 6) from nI_add i 6]
  exact HO _ _ _ _ _ _ _ I2
set_option maxRecDepth 100000 in
theorem lc_net {i : Nat} {f0 f1 f2 : Nat → Int32} {o : xO} {mf wf : Nat → Int32} {q : xQ} (hi : i + 6 ≤ X.1) (hXL : X.1 < 2 ^ 31) (HO : ∀ (f0 f1 f2 : Nat → Int32) (o : xO) (mf wf : Nat → Int32) (q : xQ), IV o f0 f2 q mf → xGo X false (12 + 1) 0 0 (mLw nm) 18 [some (.ref 1000), some (.ref 0), some (.ref 62), some (.int (nI (i + 6)))] [] (hp (tri f0 f1 f2) o mf wf q) (fun v _ => v = [.int 1])) (I : IV o f0 f2 q mf) : xGo X false (12 + 1) 0 0 (mLw nm) 797 [some (.ref 1000), some (.ref 0), some (.ref 62), some (.int (nI i))] [] (hp (tri f0 f1 f2) o mf wf q) (fun v _ => v = [.int 1]) := by
  refine xg_aload_n (pc := 797) dL_law_797 rfl ?_
  refine xg_aload_n (pc := 798) dL_law_798 rfl ?_
  refine xg_iload_n (pc := 799) dL_law_799 rfl ?_
  refine xg_iconst (v := 1) (pc := 800) dL_law_800 (by decide) ?_
  refine xg_iadd (pc := 801) dL_law_801 ?_
  refine xg_siald (pc := 802) (i + 1) dL_law_802 (by simp only [xlit, nI_add, pk_mul]) (by omega) hXL ?_
  refine xg_aload_n (pc := 803) dL_law_803 rfl ?_
  refine xg_iload_n (pc := 804) dL_law_804 rfl ?_
  refine xg_iconst (v := 2) (pc := 805) dL_law_805 (by decide) ?_
  refine xg_iadd (pc := 806) dL_law_806 ?_
  refine xg_siald (pc := 807) (i + 2) dL_law_807 (by simp only [xlit, nI_add, pk_mul]) (by omega) hXL ?_
  refine xg_callv (k1 := 0) (n1 := 0) (k2 := 0) (n2 := 0) (pc := 808) (as := [.int (X.2 (i + 1)), .int (X.2 (i + 2))]) (rest := []) (M' := mX6_net) dL_law_808 lkL_93 mcX6_net hp_0 rfl (two_net I) rfl rfl (Nat.le_of_ble_eq_true rfl) rfl rfl (fun v h' hq => ?_)
  obtain ⟨x, o2, g0, g1, g2, ⟨y, rfl⟩, rfl, rfl, h7⟩ := hq
  show xGo X false (12 + 1) 0 0 (mLw nm) 811 [some (.ref 1000), some (.ref 0), some (.ref 62), some (.int (nI i))] [.int y] (hp (tri g0 g1 g2) o2 mf wf q) (fun v _ => v = [.int 1])
  refine xg_aload_n (pc := 811) dL_law_811 rfl ?_
  refine xg_aload_n (pc := 812) dL_law_812 rfl ?_
  refine xg_iload_n (pc := 813) dL_law_813 rfl ?_
  refine xg_iconst (v := 1) (pc := 814) dL_law_814 (by decide) ?_
  refine xg_iadd (pc := 815) dL_law_815 ?_
  refine xg_siald (pc := 816) (i + 1) dL_law_816 (by simp only [xlit, nI_add, pk_mul]) (by omega) hXL ?_
  refine xg_aload_n (pc := 817) dL_law_817 rfl ?_
  refine xg_iload_n (pc := 818) dL_law_818 rfl ?_
  refine xg_iconst (v := 2) (pc := 819) dL_law_819 (by decide) ?_
  refine xg_iadd (pc := 820) dL_law_820 ?_
  refine xg_siald (pc := 821) (i + 2) dL_law_821 (by simp only [xlit, nI_add, pk_mul]) (by omega) hXL ?_
  refine xg_callv (k1 := 0) (n1 := 0) (k2 := 0) (n2 := 0) (pc := 822) (as := [.int (X.2 (i + 1)), .int (X.2 (i + 2))]) (rest := [.int y]) (M' := mX7_net) dL_law_822 lkL_96 mcX7_net hp_62 rfl h7 rfl rfl (Nat.le_of_ble_eq_true rfl) rfl rfl (fun v h' hq => ?_)
  obtain ⟨rfl, mf2, wf2, q2, I2, rfl⟩ := hq
  show xGo X false (12 + 1) 0 0 (mLw nm) 825 [some (.ref 1000), some (.ref 0), some (.ref 62), some (.int (nI i))] [.int y, .int y] (hp (tri g0 g1 g2) o2 mf2 wf2 q2) (fun v _ => v = [.int 1])
  refine xg_icmp_eq (pc := 825) (tgt := 1385) dL_law_825 (by decide) (fun c_825 => ?_) (fun c_825 => absurd c_825 (fun z => z rfl))
  refine xg_iinc (pc := 1385) (y := (nI i) + 6) (ls' := [some (.ref 1000), some (.ref 0), some (.ref 62), some (.int ((nI i) + 6))]) dL_law_1385 rfl rfl (show 3 < 4 by decide) rfl ?_
  refine xg_goto (pc := 1388) (tgt := 18) dL_law_1388 (by decide) ?_
  rw [show (nI i + 6 : Int32) = nI (i + 6) from nI_add i 6]
  exact HO _ _ _ _ _ _ _ I2
set_option maxRecDepth 100000 in
theorem lc_gives {i : Nat} {f0 f1 f2 : Nat → Int32} {o : xO} {mf wf : Nat → Int32} {q : xQ} (hi : i + 6 ≤ X.1) (hXL : X.1 < 2 ^ 31) (HO : ∀ (f0 f1 f2 : Nat → Int32) (o : xO) (mf wf : Nat → Int32) (q : xQ), IV o f0 f2 q mf → xGo X false (12 + 1) 0 0 (mLw nm) 18 [some (.ref 1000), some (.ref 0), some (.ref 62), some (.int (nI (i + 6)))] [] (hp (tri f0 f1 f2) o mf wf q) (fun v _ => v = [.int 1])) (I : IV o f0 f2 q mf) : xGo X false (12 + 1) 0 0 (mLw nm) 830 [some (.ref 1000), some (.ref 0), some (.ref 62), some (.int (nI i))] [] (hp (tri f0 f1 f2) o mf wf q) (fun v _ => v = [.int 1]) := by
  refine xg_aload_n (pc := 830) dL_law_830 rfl ?_
  refine xg_aload_n (pc := 831) dL_law_831 rfl ?_
  refine xg_iload_n (pc := 832) dL_law_832 rfl ?_
  refine xg_iconst (v := 1) (pc := 833) dL_law_833 (by decide) ?_
  refine xg_iadd (pc := 834) dL_law_834 ?_
  refine xg_siald (pc := 835) (i + 1) dL_law_835 (by simp only [xlit, nI_add, pk_mul]) (by omega) hXL ?_
  refine xg_aload_n (pc := 836) dL_law_836 rfl ?_
  refine xg_iload_n (pc := 837) dL_law_837 rfl ?_
  refine xg_iconst (v := 2) (pc := 838) dL_law_838 (by decide) ?_
  refine xg_iadd (pc := 839) dL_law_839 ?_
  refine xg_siald (pc := 840) (i + 2) dL_law_840 (by simp only [xlit, nI_add, pk_mul]) (by omega) hXL ?_
  refine xg_callv (k1 := 0) (n1 := 0) (k2 := 0) (n2 := 0) (pc := 841) (as := [.int (X.2 (i + 1)), .int (X.2 (i + 2))]) (rest := []) (M' := mX6_gives) dL_law_841 lkL_97 mcX6_gives hp_0 rfl (two_gives I) rfl rfl (Nat.le_of_ble_eq_true rfl) rfl rfl (fun v h' hq => ?_)
  obtain ⟨x, o2, g0, g1, g2, ⟨y, rfl⟩, rfl, rfl, h7⟩ := hq
  show xGo X false (12 + 1) 0 0 (mLw nm) 844 [some (.ref 1000), some (.ref 0), some (.ref 62), some (.int (nI i))] [.int y] (hp (tri g0 g1 g2) o2 mf wf q) (fun v _ => v = [.int 1])
  refine xg_aload_n (pc := 844) dL_law_844 rfl ?_
  refine xg_aload_n (pc := 845) dL_law_845 rfl ?_
  refine xg_iload_n (pc := 846) dL_law_846 rfl ?_
  refine xg_iconst (v := 1) (pc := 847) dL_law_847 (by decide) ?_
  refine xg_iadd (pc := 848) dL_law_848 ?_
  refine xg_siald (pc := 849) (i + 1) dL_law_849 (by simp only [xlit, nI_add, pk_mul]) (by omega) hXL ?_
  refine xg_aload_n (pc := 850) dL_law_850 rfl ?_
  refine xg_iload_n (pc := 851) dL_law_851 rfl ?_
  refine xg_iconst (v := 2) (pc := 852) dL_law_852 (by decide) ?_
  refine xg_iadd (pc := 853) dL_law_853 ?_
  refine xg_siald (pc := 854) (i + 2) dL_law_854 (by simp only [xlit, nI_add, pk_mul]) (by omega) hXL ?_
  refine xg_callv (k1 := 0) (n1 := 0) (k2 := 0) (n2 := 0) (pc := 855) (as := [.int (X.2 (i + 1)), .int (X.2 (i + 2))]) (rest := [.int y]) (M' := mX7_gives) dL_law_855 lkL_100 mcX7_gives hp_62 rfl h7 rfl rfl (Nat.le_of_ble_eq_true rfl) rfl rfl (fun v h' hq => ?_)
  obtain ⟨rfl, mf2, wf2, q2, I2, rfl⟩ := hq
  show xGo X false (12 + 1) 0 0 (mLw nm) 858 [some (.ref 1000), some (.ref 0), some (.ref 62), some (.int (nI i))] [.int y, .int y] (hp (tri g0 g1 g2) o2 mf2 wf2 q2) (fun v _ => v = [.int 1])
  refine xg_icmp_eq (pc := 858) (tgt := 1385) dL_law_858 (by decide) (fun c_858 => ?_) (fun c_858 => absurd c_858 (fun z => z rfl))
  refine xg_iinc (pc := 1385) (y := (nI i) + 6) (ls' := [some (.ref 1000), some (.ref 0), some (.ref 62), some (.int ((nI i) + 6))]) dL_law_1385 rfl rfl (show 3 < 4 by decide) rfl ?_
  refine xg_goto (pc := 1388) (tgt := 18) dL_law_1388 (by decide) ?_
  rw [show (nI i + 6 : Int32) = nI (i + 6) from nI_add i 6]
  exact HO _ _ _ _ _ _ _ I2
set_option maxRecDepth 100000 in
theorem lc_kind {i : Nat} {f0 f1 f2 : Nat → Int32} {o : xO} {mf wf : Nat → Int32} {q : xQ} (hi : i + 6 ≤ X.1) (hXL : X.1 < 2 ^ 31) (HO : ∀ (f0 f1 f2 : Nat → Int32) (o : xO) (mf wf : Nat → Int32) (q : xQ), IV o f0 f2 q mf → xGo X false (12 + 1) 0 0 (mLw nm) 18 [some (.ref 1000), some (.ref 0), some (.ref 62), some (.int (nI (i + 6)))] [] (hp (tri f0 f1 f2) o mf wf q) (fun v _ => v = [.int 1])) (I : IV o f0 f2 q mf) : xGo X false (12 + 1) 0 0 (mLw nm) 863 [some (.ref 1000), some (.ref 0), some (.ref 62), some (.int (nI i))] [] (hp (tri f0 f1 f2) o mf wf q) (fun v _ => v = [.int 1]) := by
  refine xg_aload_n (pc := 863) dL_law_863 rfl ?_
  refine xg_aload_n (pc := 864) dL_law_864 rfl ?_
  refine xg_iload_n (pc := 865) dL_law_865 rfl ?_
  refine xg_iconst (v := 1) (pc := 866) dL_law_866 (by decide) ?_
  refine xg_iadd (pc := 867) dL_law_867 ?_
  refine xg_siald (pc := 868) (i + 1) dL_law_868 (by simp only [xlit, nI_add, pk_mul]) (by omega) hXL ?_
  refine xg_aload_n (pc := 869) dL_law_869 rfl ?_
  refine xg_iload_n (pc := 870) dL_law_870 rfl ?_
  refine xg_iconst (v := 2) (pc := 871) dL_law_871 (by decide) ?_
  refine xg_iadd (pc := 872) dL_law_872 ?_
  refine xg_siald (pc := 873) (i + 2) dL_law_873 (by simp only [xlit, nI_add, pk_mul]) (by omega) hXL ?_
  refine xg_callv (k1 := 0) (n1 := 0) (k2 := 0) (n2 := 0) (pc := 874) (as := [.int (X.2 (i + 1)), .int (X.2 (i + 2))]) (rest := []) (M' := mX6_kind) dL_law_874 lkL_101 mcX6_kind hp_0 rfl (two_kind I) rfl rfl (Nat.le_of_ble_eq_true rfl) rfl rfl (fun v h' hq => ?_)
  obtain ⟨x, o2, g0, g1, g2, ⟨y, rfl⟩, rfl, rfl, h7⟩ := hq
  show xGo X false (12 + 1) 0 0 (mLw nm) 877 [some (.ref 1000), some (.ref 0), some (.ref 62), some (.int (nI i))] [.int y] (hp (tri g0 g1 g2) o2 mf wf q) (fun v _ => v = [.int 1])
  refine xg_aload_n (pc := 877) dL_law_877 rfl ?_
  refine xg_aload_n (pc := 878) dL_law_878 rfl ?_
  refine xg_iload_n (pc := 879) dL_law_879 rfl ?_
  refine xg_iconst (v := 1) (pc := 880) dL_law_880 (by decide) ?_
  refine xg_iadd (pc := 881) dL_law_881 ?_
  refine xg_siald (pc := 882) (i + 1) dL_law_882 (by simp only [xlit, nI_add, pk_mul]) (by omega) hXL ?_
  refine xg_aload_n (pc := 883) dL_law_883 rfl ?_
  refine xg_iload_n (pc := 884) dL_law_884 rfl ?_
  refine xg_iconst (v := 2) (pc := 885) dL_law_885 (by decide) ?_
  refine xg_iadd (pc := 886) dL_law_886 ?_
  refine xg_siald (pc := 887) (i + 2) dL_law_887 (by simp only [xlit, nI_add, pk_mul]) (by omega) hXL ?_
  refine xg_callv (k1 := 0) (n1 := 0) (k2 := 0) (n2 := 0) (pc := 888) (as := [.int (X.2 (i + 1)), .int (X.2 (i + 2))]) (rest := [.int y]) (M' := mX7_kind) dL_law_888 lkL_104 mcX7_kind hp_62 rfl h7 rfl rfl (Nat.le_of_ble_eq_true rfl) rfl rfl (fun v h' hq => ?_)
  obtain ⟨rfl, mf2, wf2, q2, I2, rfl⟩ := hq
  show xGo X false (12 + 1) 0 0 (mLw nm) 891 [some (.ref 1000), some (.ref 0), some (.ref 62), some (.int (nI i))] [.int y, .int y] (hp (tri g0 g1 g2) o2 mf2 wf2 q2) (fun v _ => v = [.int 1])
  refine xg_icmp_eq (pc := 891) (tgt := 1385) dL_law_891 (by decide) (fun c_891 => ?_) (fun c_891 => absurd c_891 (fun z => z rfl))
  refine xg_iinc (pc := 1385) (y := (nI i) + 6) (ls' := [some (.ref 1000), some (.ref 0), some (.ref 62), some (.int ((nI i) + 6))]) dL_law_1385 rfl rfl (show 3 < 4 by decide) rfl ?_
  refine xg_goto (pc := 1388) (tgt := 18) dL_law_1388 (by decide) ?_
  rw [show (nI i + 6 : Int32) = nI (i + 6) from nI_add i 6]
  exact HO _ _ _ _ _ _ _ I2
set_option maxRecDepth 100000 in
theorem lc_rival {i : Nat} {f0 f1 f2 : Nat → Int32} {o : xO} {mf wf : Nat → Int32} {q : xQ} (hi : i + 6 ≤ X.1) (hXL : X.1 < 2 ^ 31) (HO : ∀ (f0 f1 f2 : Nat → Int32) (o : xO) (mf wf : Nat → Int32) (q : xQ), IV o f0 f2 q mf → xGo X false (12 + 1) 0 0 (mLw nm) 18 [some (.ref 1000), some (.ref 0), some (.ref 62), some (.int (nI (i + 6)))] [] (hp (tri f0 f1 f2) o mf wf q) (fun v _ => v = [.int 1])) (I : IV o f0 f2 q mf) : xGo X false (12 + 1) 0 0 (mLw nm) 896 [some (.ref 1000), some (.ref 0), some (.ref 62), some (.int (nI i))] [] (hp (tri f0 f1 f2) o mf wf q) (fun v _ => v = [.int 1]) := by
  refine xg_aload_n (pc := 896) dL_law_896 rfl ?_
  refine xg_aload_n (pc := 897) dL_law_897 rfl ?_
  refine xg_iload_n (pc := 898) dL_law_898 rfl ?_
  refine xg_iconst (v := 1) (pc := 899) dL_law_899 (by decide) ?_
  refine xg_iadd (pc := 900) dL_law_900 ?_
  refine xg_siald (pc := 901) (i + 1) dL_law_901 (by simp only [xlit, nI_add, pk_mul]) (by omega) hXL ?_
  refine xg_aload_n (pc := 902) dL_law_902 rfl ?_
  refine xg_iload_n (pc := 903) dL_law_903 rfl ?_
  refine xg_iconst (v := 2) (pc := 904) dL_law_904 (by decide) ?_
  refine xg_iadd (pc := 905) dL_law_905 ?_
  refine xg_siald (pc := 906) (i + 2) dL_law_906 (by simp only [xlit, nI_add, pk_mul]) (by omega) hXL ?_
  refine xg_aload_n (pc := 907) dL_law_907 rfl ?_
  refine xg_iload_n (pc := 908) dL_law_908 rfl ?_
  refine xg_iconst (v := 3) (pc := 909) dL_law_909 (by decide) ?_
  refine xg_iadd (pc := 910) dL_law_910 ?_
  refine xg_siald (pc := 911) (i + 3) dL_law_911 (by simp only [xlit, nI_add, pk_mul]) (by omega) hXL ?_
  refine xg_callv (k1 := 0) (n1 := 0) (k2 := 0) (n2 := 0) (pc := 912) (as := [.int (X.2 (i + 1)), .int (X.2 (i + 2)), .int (X.2 (i + 3))]) (rest := []) (M' := mX6_rival) dL_law_912 lkL_105 mcX6_rival hp_0 rfl (two_rival I) rfl rfl (Nat.le_of_ble_eq_true rfl) rfl rfl (fun v h' hq => ?_)
  obtain ⟨x, o2, g0, g1, g2, ⟨y, rfl⟩, rfl, rfl, h7⟩ := hq
  show xGo X false (12 + 1) 0 0 (mLw nm) 915 [some (.ref 1000), some (.ref 0), some (.ref 62), some (.int (nI i))] [.int y] (hp (tri g0 g1 g2) o2 mf wf q) (fun v _ => v = [.int 1])
  refine xg_aload_n (pc := 915) dL_law_915 rfl ?_
  refine xg_aload_n (pc := 916) dL_law_916 rfl ?_
  refine xg_iload_n (pc := 917) dL_law_917 rfl ?_
  refine xg_iconst (v := 1) (pc := 918) dL_law_918 (by decide) ?_
  refine xg_iadd (pc := 919) dL_law_919 ?_
  refine xg_siald (pc := 920) (i + 1) dL_law_920 (by simp only [xlit, nI_add, pk_mul]) (by omega) hXL ?_
  refine xg_aload_n (pc := 921) dL_law_921 rfl ?_
  refine xg_iload_n (pc := 922) dL_law_922 rfl ?_
  refine xg_iconst (v := 2) (pc := 923) dL_law_923 (by decide) ?_
  refine xg_iadd (pc := 924) dL_law_924 ?_
  refine xg_siald (pc := 925) (i + 2) dL_law_925 (by simp only [xlit, nI_add, pk_mul]) (by omega) hXL ?_
  refine xg_aload_n (pc := 926) dL_law_926 rfl ?_
  refine xg_iload_n (pc := 927) dL_law_927 rfl ?_
  refine xg_iconst (v := 3) (pc := 928) dL_law_928 (by decide) ?_
  refine xg_iadd (pc := 929) dL_law_929 ?_
  refine xg_siald (pc := 930) (i + 3) dL_law_930 (by simp only [xlit, nI_add, pk_mul]) (by omega) hXL ?_
  refine xg_callv (k1 := 0) (n1 := 0) (k2 := 0) (n2 := 0) (pc := 931) (as := [.int (X.2 (i + 1)), .int (X.2 (i + 2)), .int (X.2 (i + 3))]) (rest := [.int y]) (M' := mX7_rival) dL_law_931 lkL_108 mcX7_rival hp_62 rfl h7 rfl rfl (Nat.le_of_ble_eq_true rfl) rfl rfl (fun v h' hq => ?_)
  obtain ⟨rfl, mf2, wf2, q2, I2, rfl⟩ := hq
  show xGo X false (12 + 1) 0 0 (mLw nm) 934 [some (.ref 1000), some (.ref 0), some (.ref 62), some (.int (nI i))] [.int y, .int y] (hp (tri g0 g1 g2) o2 mf2 wf2 q2) (fun v _ => v = [.int 1])
  refine xg_icmp_eq (pc := 934) (tgt := 1385) dL_law_934 (by decide) (fun c_934 => ?_) (fun c_934 => absurd c_934 (fun z => z rfl))
  refine xg_iinc (pc := 1385) (y := (nI i) + 6) (ls' := [some (.ref 1000), some (.ref 0), some (.ref 62), some (.int ((nI i) + 6))]) dL_law_1385 rfl rfl (show 3 < 4 by decide) rfl ?_
  refine xg_goto (pc := 1388) (tgt := 18) dL_law_1388 (by decide) ?_
  rw [show (nI i + 6 : Int32) = nI (i + 6) from nI_add i 6]
  exact HO _ _ _ _ _ _ _ I2
set_option maxRecDepth 100000 in
theorem lc_way {i : Nat} {f0 f1 f2 : Nat → Int32} {o : xO} {mf wf : Nat → Int32} {q : xQ} (hi : i + 6 ≤ X.1) (hXL : X.1 < 2 ^ 31) (HO : ∀ (f0 f1 f2 : Nat → Int32) (o : xO) (mf wf : Nat → Int32) (q : xQ), IV o f0 f2 q mf → xGo X false (12 + 1) 0 0 (mLw nm) 18 [some (.ref 1000), some (.ref 0), some (.ref 62), some (.int (nI (i + 6)))] [] (hp (tri f0 f1 f2) o mf wf q) (fun v _ => v = [.int 1])) (I : IV o f0 f2 q mf) : xGo X false (12 + 1) 0 0 (mLw nm) 939 [some (.ref 1000), some (.ref 0), some (.ref 62), some (.int (nI i))] [] (hp (tri f0 f1 f2) o mf wf q) (fun v _ => v = [.int 1]) := by
  refine xg_aload_n (pc := 939) dL_law_939 rfl ?_
  refine xg_aload_n (pc := 940) dL_law_940 rfl ?_
  refine xg_iload_n (pc := 941) dL_law_941 rfl ?_
  refine xg_iconst (v := 1) (pc := 942) dL_law_942 (by decide) ?_
  refine xg_iadd (pc := 943) dL_law_943 ?_
  refine xg_siald (pc := 944) (i + 1) dL_law_944 (by simp only [xlit, nI_add, pk_mul]) (by omega) hXL ?_
  refine xg_aload_n (pc := 945) dL_law_945 rfl ?_
  refine xg_iload_n (pc := 946) dL_law_946 rfl ?_
  refine xg_iconst (v := 2) (pc := 947) dL_law_947 (by decide) ?_
  refine xg_iadd (pc := 948) dL_law_948 ?_
  refine xg_siald (pc := 949) (i + 2) dL_law_949 (by simp only [xlit, nI_add, pk_mul]) (by omega) hXL ?_
  refine xg_callv (k1 := 0) (n1 := 0) (k2 := 0) (n2 := 0) (pc := 950) (as := [.int (X.2 (i + 1)), .int (X.2 (i + 2))]) (rest := []) (M' := mX6_way) dL_law_950 lkL_109 mcX6_way hp_0 rfl (two_way I) rfl rfl (Nat.le_of_ble_eq_true rfl) rfl rfl (fun v h' hq => ?_)
  obtain ⟨x, o2, g0, g1, g2, ⟨y, rfl⟩, rfl, rfl, h7⟩ := hq
  show xGo X false (12 + 1) 0 0 (mLw nm) 953 [some (.ref 1000), some (.ref 0), some (.ref 62), some (.int (nI i))] [.int y] (hp (tri g0 g1 g2) o2 mf wf q) (fun v _ => v = [.int 1])
  refine xg_aload_n (pc := 953) dL_law_953 rfl ?_
  refine xg_aload_n (pc := 954) dL_law_954 rfl ?_
  refine xg_iload_n (pc := 955) dL_law_955 rfl ?_
  refine xg_iconst (v := 1) (pc := 956) dL_law_956 (by decide) ?_
  refine xg_iadd (pc := 957) dL_law_957 ?_
  refine xg_siald (pc := 958) (i + 1) dL_law_958 (by simp only [xlit, nI_add, pk_mul]) (by omega) hXL ?_
  refine xg_aload_n (pc := 959) dL_law_959 rfl ?_
  refine xg_iload_n (pc := 960) dL_law_960 rfl ?_
  refine xg_iconst (v := 2) (pc := 961) dL_law_961 (by decide) ?_
  refine xg_iadd (pc := 962) dL_law_962 ?_
  refine xg_siald (pc := 963) (i + 2) dL_law_963 (by simp only [xlit, nI_add, pk_mul]) (by omega) hXL ?_
  refine xg_callv (k1 := 0) (n1 := 0) (k2 := 0) (n2 := 0) (pc := 964) (as := [.int (X.2 (i + 1)), .int (X.2 (i + 2))]) (rest := [.int y]) (M' := mX7_way) dL_law_964 lkL_112 mcX7_way hp_62 rfl h7 rfl rfl (Nat.le_of_ble_eq_true rfl) rfl rfl (fun v h' hq => ?_)
  obtain ⟨rfl, mf2, wf2, q2, I2, rfl⟩ := hq
  show xGo X false (12 + 1) 0 0 (mLw nm) 967 [some (.ref 1000), some (.ref 0), some (.ref 62), some (.int (nI i))] [.int y, .int y] (hp (tri g0 g1 g2) o2 mf2 wf2 q2) (fun v _ => v = [.int 1])
  refine xg_icmp_eq (pc := 967) (tgt := 1385) dL_law_967 (by decide) (fun c_967 => ?_) (fun c_967 => absurd c_967 (fun z => z rfl))
  refine xg_iinc (pc := 1385) (y := (nI i) + 6) (ls' := [some (.ref 1000), some (.ref 0), some (.ref 62), some (.int ((nI i) + 6))]) dL_law_1385 rfl rfl (show 3 < 4 by decide) rfl ?_
  refine xg_goto (pc := 1388) (tgt := 18) dL_law_1388 (by decide) ?_
  rw [show (nI i + 6 : Int32) = nI (i + 6) from nI_add i 6]
  exact HO _ _ _ _ _ _ _ I2
set_option maxRecDepth 100000 in
theorem lc_feed {i : Nat} {f0 f1 f2 : Nat → Int32} {o : xO} {mf wf : Nat → Int32} {q : xQ} (hi : i + 6 ≤ X.1) (hXL : X.1 < 2 ^ 31) (HO : ∀ (f0 f1 f2 : Nat → Int32) (o : xO) (mf wf : Nat → Int32) (q : xQ), IV o f0 f2 q mf → xGo X false (12 + 1) 0 0 (mLw nm) 18 [some (.ref 1000), some (.ref 0), some (.ref 62), some (.int (nI (i + 6)))] [] (hp (tri f0 f1 f2) o mf wf q) (fun v _ => v = [.int 1])) (I : IV o f0 f2 q mf) : xGo X false (12 + 1) 0 0 (mLw nm) 972 [some (.ref 1000), some (.ref 0), some (.ref 62), some (.int (nI i))] [] (hp (tri f0 f1 f2) o mf wf q) (fun v _ => v = [.int 1]) := by
  refine xg_aload_n (pc := 972) dL_law_972 rfl ?_
  refine xg_aload_n (pc := 973) dL_law_973 rfl ?_
  refine xg_iload_n (pc := 974) dL_law_974 rfl ?_
  refine xg_iconst (v := 1) (pc := 975) dL_law_975 (by decide) ?_
  refine xg_iadd (pc := 976) dL_law_976 ?_
  refine xg_siald (pc := 977) (i + 1) dL_law_977 (by simp only [xlit, nI_add, pk_mul]) (by omega) hXL ?_
  refine xg_aload_n (pc := 978) dL_law_978 rfl ?_
  refine xg_iload_n (pc := 979) dL_law_979 rfl ?_
  refine xg_iconst (v := 2) (pc := 980) dL_law_980 (by decide) ?_
  refine xg_iadd (pc := 981) dL_law_981 ?_
  refine xg_siald (pc := 982) (i + 2) dL_law_982 (by simp only [xlit, nI_add, pk_mul]) (by omega) hXL ?_
  refine xg_callv (k1 := 0) (n1 := 0) (k2 := 0) (n2 := 0) (pc := 983) (as := [.int (X.2 (i + 1)), .int (X.2 (i + 2))]) (rest := []) (M' := mX6_feed) dL_law_983 lkL_113 mcX6_feed hp_0 rfl (two_feed I) rfl rfl (Nat.le_of_ble_eq_true rfl) rfl rfl (fun v h' hq => ?_)
  obtain ⟨x, o2, g0, g1, g2, ⟨y, rfl⟩, rfl, rfl, h7⟩ := hq
  show xGo X false (12 + 1) 0 0 (mLw nm) 986 [some (.ref 1000), some (.ref 0), some (.ref 62), some (.int (nI i))] [.int y] (hp (tri g0 g1 g2) o2 mf wf q) (fun v _ => v = [.int 1])
  refine xg_aload_n (pc := 986) dL_law_986 rfl ?_
  refine xg_aload_n (pc := 987) dL_law_987 rfl ?_
  refine xg_iload_n (pc := 988) dL_law_988 rfl ?_
  refine xg_iconst (v := 1) (pc := 989) dL_law_989 (by decide) ?_
  refine xg_iadd (pc := 990) dL_law_990 ?_
  refine xg_siald (pc := 991) (i + 1) dL_law_991 (by simp only [xlit, nI_add, pk_mul]) (by omega) hXL ?_
  refine xg_aload_n (pc := 992) dL_law_992 rfl ?_
  refine xg_iload_n (pc := 993) dL_law_993 rfl ?_
  refine xg_iconst (v := 2) (pc := 994) dL_law_994 (by decide) ?_
  refine xg_iadd (pc := 995) dL_law_995 ?_
  refine xg_siald (pc := 996) (i + 2) dL_law_996 (by simp only [xlit, nI_add, pk_mul]) (by omega) hXL ?_
  refine xg_callv (k1 := 0) (n1 := 0) (k2 := 0) (n2 := 0) (pc := 997) (as := [.int (X.2 (i + 1)), .int (X.2 (i + 2))]) (rest := [.int y]) (M' := mX7_feed) dL_law_997 lkL_116 mcX7_feed hp_62 rfl h7 rfl rfl (Nat.le_of_ble_eq_true rfl) rfl rfl (fun v h' hq => ?_)
  obtain ⟨rfl, mf2, wf2, q2, I2, rfl⟩ := hq
  show xGo X false (12 + 1) 0 0 (mLw nm) 1000 [some (.ref 1000), some (.ref 0), some (.ref 62), some (.int (nI i))] [.int y, .int y] (hp (tri g0 g1 g2) o2 mf2 wf2 q2) (fun v _ => v = [.int 1])
  refine xg_icmp_eq (pc := 1000) (tgt := 1385) dL_law_1000 (by decide) (fun c_1000 => ?_) (fun c_1000 => absurd c_1000 (fun z => z rfl))
  refine xg_iinc (pc := 1385) (y := (nI i) + 6) (ls' := [some (.ref 1000), some (.ref 0), some (.ref 62), some (.int ((nI i) + 6))]) dL_law_1385 rfl rfl (show 3 < 4 by decide) rfl ?_
  refine xg_goto (pc := 1388) (tgt := 18) dL_law_1388 (by decide) ?_
  rw [show (nI i + 6 : Int32) = nI (i + 6) from nI_add i 6]
  exact HO _ _ _ _ _ _ _ I2
set_option maxRecDepth 100000 in
theorem lc_wipe {i : Nat} {f0 f1 f2 : Nat → Int32} {o : xO} {mf wf : Nat → Int32} {q : xQ} (hi : i + 6 ≤ X.1) (hXL : X.1 < 2 ^ 31) (HO : ∀ (f0 f1 f2 : Nat → Int32) (o : xO) (mf wf : Nat → Int32) (q : xQ), IV o f0 f2 q mf → xGo X false (12 + 1) 0 0 (mLw nm) 18 [some (.ref 1000), some (.ref 0), some (.ref 62), some (.int (nI (i + 6)))] [] (hp (tri f0 f1 f2) o mf wf q) (fun v _ => v = [.int 1])) (I : IV o f0 f2 q mf) : xGo X false (12 + 1) 0 0 (mLw nm) 1005 [some (.ref 1000), some (.ref 0), some (.ref 62), some (.int (nI i))] [] (hp (tri f0 f1 f2) o mf wf q) (fun v _ => v = [.int 1]) := by
  refine xg_aload_n (pc := 1005) dL_law_1005 rfl ?_
  refine xg_callv (k1 := 0) (n1 := 0) (k2 := 0) (n2 := 0) (pc := 1006) (as := []) (rest := []) (M' := mX6_wipe) dL_law_1006 lkL_117 mcX6_wipe hp_0 rfl (two_wipe I) rfl rfl (Nat.le_of_ble_eq_true rfl) rfl rfl (fun v h' hq => ?_)
  obtain ⟨x, o2, g0, g1, g2, ⟨y, rfl⟩, rfl, rfl, h7⟩ := hq
  show xGo X false (12 + 1) 0 0 (mLw nm) 1009 [some (.ref 1000), some (.ref 0), some (.ref 62), some (.int (nI i))] [.int y] (hp (tri g0 g1 g2) o2 mf wf q) (fun v _ => v = [.int 1])
  refine xg_aload_n (pc := 1009) dL_law_1009 rfl ?_
  refine xg_callv (k1 := 0) (n1 := 0) (k2 := 0) (n2 := 0) (pc := 1010) (as := []) (rest := [.int y]) (M' := mX7_wipe) dL_law_1010 lkL_120 mcX7_wipe hp_62 rfl h7 rfl rfl (Nat.le_of_ble_eq_true rfl) rfl rfl (fun v h' hq => ?_)
  obtain ⟨rfl, mf2, wf2, q2, I2, rfl⟩ := hq
  show xGo X false (12 + 1) 0 0 (mLw nm) 1013 [some (.ref 1000), some (.ref 0), some (.ref 62), some (.int (nI i))] [.int y, .int y] (hp (tri g0 g1 g2) o2 mf2 wf2 q2) (fun v _ => v = [.int 1])
  refine xg_icmp_eq (pc := 1013) (tgt := 1385) dL_law_1013 (by decide) (fun c_1013 => ?_) (fun c_1013 => absurd c_1013 (fun z => z rfl))
  refine xg_iinc (pc := 1385) (y := (nI i) + 6) (ls' := [some (.ref 1000), some (.ref 0), some (.ref 62), some (.int ((nI i) + 6))]) dL_law_1385 rfl rfl (show 3 < 4 by decide) rfl ?_
  refine xg_goto (pc := 1388) (tgt := 18) dL_law_1388 (by decide) ?_
  rw [show (nI i + 6 : Int32) = nI (i + 6) from nI_add i 6]
  exact HO _ _ _ _ _ _ _ I2
set_option maxRecDepth 100000 in
theorem lc_lake {i : Nat} {f0 f1 f2 : Nat → Int32} {o : xO} {mf wf : Nat → Int32} {q : xQ} (hi : i + 6 ≤ X.1) (hXL : X.1 < 2 ^ 31) (HO : ∀ (f0 f1 f2 : Nat → Int32) (o : xO) (mf wf : Nat → Int32) (q : xQ), IV o f0 f2 q mf → xGo X false (12 + 1) 0 0 (mLw nm) 18 [some (.ref 1000), some (.ref 0), some (.ref 62), some (.int (nI (i + 6)))] [] (hp (tri f0 f1 f2) o mf wf q) (fun v _ => v = [.int 1])) (I : IV o f0 f2 q mf) : xGo X false (12 + 1) 0 0 (mLw nm) 1018 [some (.ref 1000), some (.ref 0), some (.ref 62), some (.int (nI i))] [] (hp (tri f0 f1 f2) o mf wf q) (fun v _ => v = [.int 1]) := by
  refine xg_aload_n (pc := 1018) dL_law_1018 rfl ?_
  refine xg_callv (k1 := 0) (n1 := 0) (k2 := 0) (n2 := 0) (pc := 1019) (as := []) (rest := []) (M' := mX6_lake) dL_law_1019 lkL_121 mcX6_lake hp_0 rfl (two_lake I) rfl rfl (Nat.le_of_ble_eq_true rfl) rfl rfl (fun v h' hq => ?_)
  obtain ⟨x, o2, g0, g1, g2, ⟨y, rfl⟩, rfl, rfl, h7⟩ := hq
  show xGo X false (12 + 1) 0 0 (mLw nm) 1022 [some (.ref 1000), some (.ref 0), some (.ref 62), some (.int (nI i))] [.int y] (hp (tri g0 g1 g2) o2 mf wf q) (fun v _ => v = [.int 1])
  refine xg_aload_n (pc := 1022) dL_law_1022 rfl ?_
  refine xg_callv (k1 := 0) (n1 := 0) (k2 := 0) (n2 := 0) (pc := 1023) (as := []) (rest := [.int y]) (M' := mX7_lake) dL_law_1023 lkL_124 mcX7_lake hp_62 rfl h7 rfl rfl (Nat.le_of_ble_eq_true rfl) rfl rfl (fun v h' hq => ?_)
  obtain ⟨rfl, mf2, wf2, q2, I2, rfl⟩ := hq
  show xGo X false (12 + 1) 0 0 (mLw nm) 1026 [some (.ref 1000), some (.ref 0), some (.ref 62), some (.int (nI i))] [.int y, .int y] (hp (tri g0 g1 g2) o2 mf2 wf2 q2) (fun v _ => v = [.int 1])
  refine xg_icmp_eq (pc := 1026) (tgt := 1385) dL_law_1026 (by decide) (fun c_1026 => ?_) (fun c_1026 => absurd c_1026 (fun z => z rfl))
  refine xg_iinc (pc := 1385) (y := (nI i) + 6) (ls' := [some (.ref 1000), some (.ref 0), some (.ref 62), some (.int ((nI i) + 6))]) dL_law_1385 rfl rfl (show 3 < 4 by decide) rfl ?_
  refine xg_goto (pc := 1388) (tgt := 18) dL_law_1388 (by decide) ?_
  rw [show (nI i + 6 : Int32) = nI (i + 6) from nI_add i 6]
  exact HO _ _ _ _ _ _ _ I2
set_option maxRecDepth 100000 in
theorem lc_sheet {i : Nat} {f0 f1 f2 : Nat → Int32} {o : xO} {mf wf : Nat → Int32} {q : xQ} (hi : i + 6 ≤ X.1) (hXL : X.1 < 2 ^ 31) (HO : ∀ (f0 f1 f2 : Nat → Int32) (o : xO) (mf wf : Nat → Int32) (q : xQ), IV o f0 f2 q mf → xGo X false (12 + 1) 0 0 (mLw nm) 18 [some (.ref 1000), some (.ref 0), some (.ref 62), some (.int (nI (i + 6)))] [] (hp (tri f0 f1 f2) o mf wf q) (fun v _ => v = [.int 1])) (I : IV o f0 f2 q mf) : xGo X false (12 + 1) 0 0 (mLw nm) 1031 [some (.ref 1000), some (.ref 0), some (.ref 62), some (.int (nI i))] [] (hp (tri f0 f1 f2) o mf wf q) (fun v _ => v = [.int 1]) := by
  refine xg_aload_n (pc := 1031) dL_law_1031 rfl ?_
  refine xg_aload_n (pc := 1032) dL_law_1032 rfl ?_
  refine xg_iload_n (pc := 1033) dL_law_1033 rfl ?_
  refine xg_iconst (v := 1) (pc := 1034) dL_law_1034 (by decide) ?_
  refine xg_iadd (pc := 1035) dL_law_1035 ?_
  refine xg_siald (pc := 1036) (i + 1) dL_law_1036 (by simp only [xlit, nI_add, pk_mul]) (by omega) hXL ?_
  refine xg_aload_n (pc := 1037) dL_law_1037 rfl ?_
  refine xg_iload_n (pc := 1038) dL_law_1038 rfl ?_
  refine xg_iconst (v := 2) (pc := 1039) dL_law_1039 (by decide) ?_
  refine xg_iadd (pc := 1040) dL_law_1040 ?_
  refine xg_siald (pc := 1041) (i + 2) dL_law_1041 (by simp only [xlit, nI_add, pk_mul]) (by omega) hXL ?_
  refine xg_aload_n (pc := 1042) dL_law_1042 rfl ?_
  refine xg_iload_n (pc := 1043) dL_law_1043 rfl ?_
  refine xg_iconst (v := 3) (pc := 1044) dL_law_1044 (by decide) ?_
  refine xg_iadd (pc := 1045) dL_law_1045 ?_
  refine xg_siald (pc := 1046) (i + 3) dL_law_1046 (by simp only [xlit, nI_add, pk_mul]) (by omega) hXL ?_
  refine xg_callv (k1 := 0) (n1 := 0) (k2 := 0) (n2 := 0) (pc := 1047) (as := [.int (X.2 (i + 1)), .int (X.2 (i + 2)), .int (X.2 (i + 3))]) (rest := []) (M' := mX6_sheet) dL_law_1047 lkL_125 mcX6_sheet hp_0 rfl (two_sheet I) rfl rfl (Nat.le_of_ble_eq_true rfl) rfl rfl (fun v h' hq => ?_)
  obtain ⟨x, o2, g0, g1, g2, ⟨y, rfl⟩, rfl, rfl, h7⟩ := hq
  show xGo X false (12 + 1) 0 0 (mLw nm) 1050 [some (.ref 1000), some (.ref 0), some (.ref 62), some (.int (nI i))] [.int y] (hp (tri g0 g1 g2) o2 mf wf q) (fun v _ => v = [.int 1])
  refine xg_aload_n (pc := 1050) dL_law_1050 rfl ?_
  refine xg_aload_n (pc := 1051) dL_law_1051 rfl ?_
  refine xg_iload_n (pc := 1052) dL_law_1052 rfl ?_
  refine xg_iconst (v := 1) (pc := 1053) dL_law_1053 (by decide) ?_
  refine xg_iadd (pc := 1054) dL_law_1054 ?_
  refine xg_siald (pc := 1055) (i + 1) dL_law_1055 (by simp only [xlit, nI_add, pk_mul]) (by omega) hXL ?_
  refine xg_aload_n (pc := 1056) dL_law_1056 rfl ?_
  refine xg_iload_n (pc := 1057) dL_law_1057 rfl ?_
  refine xg_iconst (v := 2) (pc := 1058) dL_law_1058 (by decide) ?_
  refine xg_iadd (pc := 1059) dL_law_1059 ?_
  refine xg_siald (pc := 1060) (i + 2) dL_law_1060 (by simp only [xlit, nI_add, pk_mul]) (by omega) hXL ?_
  refine xg_aload_n (pc := 1061) dL_law_1061 rfl ?_
  refine xg_iload_n (pc := 1062) dL_law_1062 rfl ?_
  refine xg_iconst (v := 3) (pc := 1063) dL_law_1063 (by decide) ?_
  refine xg_iadd (pc := 1064) dL_law_1064 ?_
  refine xg_siald (pc := 1065) (i + 3) dL_law_1065 (by simp only [xlit, nI_add, pk_mul]) (by omega) hXL ?_
  refine xg_callv (k1 := 0) (n1 := 0) (k2 := 0) (n2 := 0) (pc := 1066) (as := [.int (X.2 (i + 1)), .int (X.2 (i + 2)), .int (X.2 (i + 3))]) (rest := [.int y]) (M' := mX7_sheet) dL_law_1066 lkL_128 mcX7_sheet hp_62 rfl h7 rfl rfl (Nat.le_of_ble_eq_true rfl) rfl rfl (fun v h' hq => ?_)
  obtain ⟨rfl, mf2, wf2, q2, I2, rfl⟩ := hq
  show xGo X false (12 + 1) 0 0 (mLw nm) 1069 [some (.ref 1000), some (.ref 0), some (.ref 62), some (.int (nI i))] [.int y, .int y] (hp (tri g0 g1 g2) o2 mf2 wf2 q2) (fun v _ => v = [.int 1])
  refine xg_icmp_eq (pc := 1069) (tgt := 1385) dL_law_1069 (by decide) (fun c_1069 => ?_) (fun c_1069 => absurd c_1069 (fun z => z rfl))
  refine xg_iinc (pc := 1385) (y := (nI i) + 6) (ls' := [some (.ref 1000), some (.ref 0), some (.ref 62), some (.int ((nI i) + 6))]) dL_law_1385 rfl rfl (show 3 < 4 by decide) rfl ?_
  refine xg_goto (pc := 1388) (tgt := 18) dL_law_1388 (by decide) ?_
  rw [show (nI i + 6 : Int32) = nI (i + 6) from nI_add i 6]
  exact HO _ _ _ _ _ _ _ I2
set_option maxRecDepth 100000 in
theorem lc_write {i : Nat} {f0 f1 f2 : Nat → Int32} {o : xO} {mf wf : Nat → Int32} {q : xQ} (hi : i + 6 ≤ X.1) (hXL : X.1 < 2 ^ 31) (HO : ∀ (f0 f1 f2 : Nat → Int32) (o : xO) (mf wf : Nat → Int32) (q : xQ), IV o f0 f2 q mf → xGo X false (12 + 1) 0 0 (mLw nm) 18 [some (.ref 1000), some (.ref 0), some (.ref 62), some (.int (nI (i + 6)))] [] (hp (tri f0 f1 f2) o mf wf q) (fun v _ => v = [.int 1])) (I : IV o f0 f2 q mf) : xGo X false (12 + 1) 0 0 (mLw nm) 1074 [some (.ref 1000), some (.ref 0), some (.ref 62), some (.int (nI i))] [] (hp (tri f0 f1 f2) o mf wf q) (fun v _ => v = [.int 1]) := by
  refine xg_aload_n (pc := 1074) dL_law_1074 rfl ?_
  refine xg_aload_n (pc := 1075) dL_law_1075 rfl ?_
  refine xg_iload_n (pc := 1076) dL_law_1076 rfl ?_
  refine xg_iconst (v := 1) (pc := 1077) dL_law_1077 (by decide) ?_
  refine xg_iadd (pc := 1078) dL_law_1078 ?_
  refine xg_siald (pc := 1079) (i + 1) dL_law_1079 (by simp only [xlit, nI_add, pk_mul]) (by omega) hXL ?_
  refine xg_aload_n (pc := 1080) dL_law_1080 rfl ?_
  refine xg_iload_n (pc := 1081) dL_law_1081 rfl ?_
  refine xg_iconst (v := 2) (pc := 1082) dL_law_1082 (by decide) ?_
  refine xg_iadd (pc := 1083) dL_law_1083 ?_
  refine xg_siald (pc := 1084) (i + 2) dL_law_1084 (by simp only [xlit, nI_add, pk_mul]) (by omega) hXL ?_
  refine xg_aload_n (pc := 1085) dL_law_1085 rfl ?_
  refine xg_iload_n (pc := 1086) dL_law_1086 rfl ?_
  refine xg_iconst (v := 3) (pc := 1087) dL_law_1087 (by decide) ?_
  refine xg_iadd (pc := 1088) dL_law_1088 ?_
  refine xg_siald (pc := 1089) (i + 3) dL_law_1089 (by simp only [xlit, nI_add, pk_mul]) (by omega) hXL ?_
  refine xg_i2l (pc := 1090) dL_law_1090 ?_
  refine xg_bipush (v := 32) (pc := 1091) dL_law_1091 (by decide) ?_
  refine xg_lshl (pc := 1093) dL_law_1093 ?_
  refine xg_aload_n (pc := 1094) dL_law_1094 rfl ?_
  refine xg_iload_n (pc := 1095) dL_law_1095 rfl ?_
  refine xg_iconst (v := 4) (pc := 1096) dL_law_1096 (by decide) ?_
  refine xg_iadd (pc := 1097) dL_law_1097 ?_
  refine xg_siald (pc := 1098) (i + 4) dL_law_1098 (by simp only [xlit, nI_add, pk_mul]) (by omega) hXL ?_
  refine xg_i2l (pc := 1099) dL_law_1099 ?_
  refine xg_ldc2 (v := 4294967295) (pc := 1100) dL_law_1100 clL_129 ?_
  refine xg_land (pc := 1103) dL_law_1103 ?_
  refine xg_lor (pc := 1104) dL_law_1104 ?_
  refine xg_callv (k1 := 0) (n1 := 0) (k2 := 0) (n2 := 0) (pc := 1105) (as := [.int (X.2 (i + 1)), .int (X.2 (i + 2)), .long (((Int32.toInt64 (X.2 (i + 3))) <<< (Int32.toInt64 32 &&& 63)) ||| ((Int32.toInt64 (X.2 (i + 4))) &&& 4294967295))]) (rest := []) (M' := mX6_write) dL_law_1105 lkL_131 mcX6_write hp_0 rfl (two_write I) rfl rfl (Nat.le_of_ble_eq_true rfl) rfl rfl (fun v h' hq => ?_)
  obtain ⟨x, o2, g0, g1, g2, ⟨y, rfl⟩, rfl, rfl, h7⟩ := hq
  show xGo X false (12 + 1) 0 0 (mLw nm) 1108 [some (.ref 1000), some (.ref 0), some (.ref 62), some (.int (nI i))] [.long y] (hp (tri g0 g1 g2) o2 mf wf q) (fun v _ => v = [.int 1])
  refine xg_aload_n (pc := 1108) dL_law_1108 rfl ?_
  refine xg_aload_n (pc := 1109) dL_law_1109 rfl ?_
  refine xg_iload_n (pc := 1110) dL_law_1110 rfl ?_
  refine xg_iconst (v := 1) (pc := 1111) dL_law_1111 (by decide) ?_
  refine xg_iadd (pc := 1112) dL_law_1112 ?_
  refine xg_siald (pc := 1113) (i + 1) dL_law_1113 (by simp only [xlit, nI_add, pk_mul]) (by omega) hXL ?_
  refine xg_aload_n (pc := 1114) dL_law_1114 rfl ?_
  refine xg_iload_n (pc := 1115) dL_law_1115 rfl ?_
  refine xg_iconst (v := 2) (pc := 1116) dL_law_1116 (by decide) ?_
  refine xg_iadd (pc := 1117) dL_law_1117 ?_
  refine xg_siald (pc := 1118) (i + 2) dL_law_1118 (by simp only [xlit, nI_add, pk_mul]) (by omega) hXL ?_
  refine xg_aload_n (pc := 1119) dL_law_1119 rfl ?_
  refine xg_iload_n (pc := 1120) dL_law_1120 rfl ?_
  refine xg_iconst (v := 3) (pc := 1121) dL_law_1121 (by decide) ?_
  refine xg_iadd (pc := 1122) dL_law_1122 ?_
  refine xg_siald (pc := 1123) (i + 3) dL_law_1123 (by simp only [xlit, nI_add, pk_mul]) (by omega) hXL ?_
  refine xg_i2l (pc := 1124) dL_law_1124 ?_
  refine xg_bipush (v := 32) (pc := 1125) dL_law_1125 (by decide) ?_
  refine xg_lshl (pc := 1127) dL_law_1127 ?_
  refine xg_aload_n (pc := 1128) dL_law_1128 rfl ?_
  refine xg_iload_n (pc := 1129) dL_law_1129 rfl ?_
  refine xg_iconst (v := 4) (pc := 1130) dL_law_1130 (by decide) ?_
  refine xg_iadd (pc := 1131) dL_law_1131 ?_
  refine xg_siald (pc := 1132) (i + 4) dL_law_1132 (by simp only [xlit, nI_add, pk_mul]) (by omega) hXL ?_
  refine xg_i2l (pc := 1133) dL_law_1133 ?_
  refine xg_ldc2 (v := 4294967295) (pc := 1134) dL_law_1134 clL_129 ?_
  refine xg_land (pc := 1137) dL_law_1137 ?_
  refine xg_lor (pc := 1138) dL_law_1138 ?_
  refine xg_callv (k1 := 0) (n1 := 0) (k2 := 0) (n2 := 0) (pc := 1139) (as := [.int (X.2 (i + 1)), .int (X.2 (i + 2)), .long (((Int32.toInt64 (X.2 (i + 3))) <<< (Int32.toInt64 32 &&& 63)) ||| ((Int32.toInt64 (X.2 (i + 4))) &&& 4294967295))]) (rest := [.long y]) (M' := mX7_write) dL_law_1139 lkL_135 mcX7_write hp_62 rfl h7 rfl rfl (Nat.le_of_ble_eq_true rfl) rfl rfl (fun v h' hq => ?_)
  obtain ⟨rfl, mf2, wf2, q2, I2, rfl⟩ := hq
  show xGo X false (12 + 1) 0 0 (mLw nm) 1142 [some (.ref 1000), some (.ref 0), some (.ref 62), some (.int (nI i))] [.long y, .long y] (hp (tri g0 g1 g2) o2 mf2 wf2 q2) (fun v _ => v = [.int 1])
  refine xg_lcmp (pc := 1142) dL_law_1142 ?_
  refine xg_if_eq (pc := 1143) (tgt := 1385) dL_law_1143 (by decide) (fun c_1143 => ?_) (fun c_1143 => absurd c_1143 (fun z => z (by rw [lg_eq])))
  refine xg_iinc (pc := 1385) (y := (nI i) + 6) (ls' := [some (.ref 1000), some (.ref 0), some (.ref 62), some (.int ((nI i) + 6))]) dL_law_1385 rfl rfl (show 3 < 4 by decide) rfl ?_
  refine xg_goto (pc := 1388) (tgt := 18) dL_law_1388 (by decide) ?_
  rw [show (nI i + 6 : Int32) = nI (i + 6) from nI_add i 6]
  exact HO _ _ _ _ _ _ _ I2
set_option maxRecDepth 100000 in
theorem lc_copy {i : Nat} {f0 f1 f2 : Nat → Int32} {o : xO} {mf wf : Nat → Int32} {q : xQ} (hi : i + 6 ≤ X.1) (hXL : X.1 < 2 ^ 31) (HO : ∀ (f0 f1 f2 : Nat → Int32) (o : xO) (mf wf : Nat → Int32) (q : xQ), IV o f0 f2 q mf → xGo X false (12 + 1) 0 0 (mLw nm) 18 [some (.ref 1000), some (.ref 0), some (.ref 62), some (.int (nI (i + 6)))] [] (hp (tri f0 f1 f2) o mf wf q) (fun v _ => v = [.int 1])) (I : IV o f0 f2 q mf) : xGo X false (12 + 1) 0 0 (mLw nm) 1148 [some (.ref 1000), some (.ref 0), some (.ref 62), some (.int (nI i))] [] (hp (tri f0 f1 f2) o mf wf q) (fun v _ => v = [.int 1]) := by
  refine xg_aload_n (pc := 1148) dL_law_1148 rfl ?_
  refine xg_aload_n (pc := 1149) dL_law_1149 rfl ?_
  refine xg_iload_n (pc := 1150) dL_law_1150 rfl ?_
  refine xg_iconst (v := 1) (pc := 1151) dL_law_1151 (by decide) ?_
  refine xg_iadd (pc := 1152) dL_law_1152 ?_
  refine xg_siald (pc := 1153) (i + 1) dL_law_1153 (by simp only [xlit, nI_add, pk_mul]) (by omega) hXL ?_
  refine xg_aload_n (pc := 1154) dL_law_1154 rfl ?_
  refine xg_iload_n (pc := 1155) dL_law_1155 rfl ?_
  refine xg_iconst (v := 2) (pc := 1156) dL_law_1156 (by decide) ?_
  refine xg_iadd (pc := 1157) dL_law_1157 ?_
  refine xg_siald (pc := 1158) (i + 2) dL_law_1158 (by simp only [xlit, nI_add, pk_mul]) (by omega) hXL ?_
  refine xg_aload_n (pc := 1159) dL_law_1159 rfl ?_
  refine xg_iload_n (pc := 1160) dL_law_1160 rfl ?_
  refine xg_iconst (v := 3) (pc := 1161) dL_law_1161 (by decide) ?_
  refine xg_iadd (pc := 1162) dL_law_1162 ?_
  refine xg_siald (pc := 1163) (i + 3) dL_law_1163 (by simp only [xlit, nI_add, pk_mul]) (by omega) hXL ?_
  refine xg_aload_n (pc := 1164) dL_law_1164 rfl ?_
  refine xg_iload_n (pc := 1165) dL_law_1165 rfl ?_
  refine xg_iconst (v := 4) (pc := 1166) dL_law_1166 (by decide) ?_
  refine xg_iadd (pc := 1167) dL_law_1167 ?_
  refine xg_siald (pc := 1168) (i + 4) dL_law_1168 (by simp only [xlit, nI_add, pk_mul]) (by omega) hXL ?_
  refine xg_aload_n (pc := 1169) dL_law_1169 rfl ?_
  refine xg_iload_n (pc := 1170) dL_law_1170 rfl ?_
  refine xg_iconst (v := 5) (pc := 1171) dL_law_1171 (by decide) ?_
  refine xg_iadd (pc := 1172) dL_law_1172 ?_
  refine xg_siald (pc := 1173) (i + 5) dL_law_1173 (by simp only [xlit, nI_add, pk_mul]) (by omega) hXL ?_
  refine xg_callv (k1 := 0) (n1 := 0) (k2 := 0) (n2 := 0) (pc := 1174) (as := [.int (X.2 (i + 1)), .int (X.2 (i + 2)), .int (X.2 (i + 3)), .int (X.2 (i + 4)), .int (X.2 (i + 5))]) (rest := []) (M' := mX6_copy) dL_law_1174 lkL_136 mcX6_copy hp_0 rfl (two_copy I) rfl rfl (Nat.le_of_ble_eq_true rfl) rfl rfl (fun v h' hq => ?_)
  obtain ⟨x, o2, g0, g1, g2, ⟨y, rfl⟩, rfl, rfl, h7⟩ := hq
  show xGo X false (12 + 1) 0 0 (mLw nm) 1177 [some (.ref 1000), some (.ref 0), some (.ref 62), some (.int (nI i))] [.int y] (hp (tri g0 g1 g2) o2 mf wf q) (fun v _ => v = [.int 1])
  refine xg_aload_n (pc := 1177) dL_law_1177 rfl ?_
  refine xg_aload_n (pc := 1178) dL_law_1178 rfl ?_
  refine xg_iload_n (pc := 1179) dL_law_1179 rfl ?_
  refine xg_iconst (v := 1) (pc := 1180) dL_law_1180 (by decide) ?_
  refine xg_iadd (pc := 1181) dL_law_1181 ?_
  refine xg_siald (pc := 1182) (i + 1) dL_law_1182 (by simp only [xlit, nI_add, pk_mul]) (by omega) hXL ?_
  refine xg_aload_n (pc := 1183) dL_law_1183 rfl ?_
  refine xg_iload_n (pc := 1184) dL_law_1184 rfl ?_
  refine xg_iconst (v := 2) (pc := 1185) dL_law_1185 (by decide) ?_
  refine xg_iadd (pc := 1186) dL_law_1186 ?_
  refine xg_siald (pc := 1187) (i + 2) dL_law_1187 (by simp only [xlit, nI_add, pk_mul]) (by omega) hXL ?_
  refine xg_aload_n (pc := 1188) dL_law_1188 rfl ?_
  refine xg_iload_n (pc := 1189) dL_law_1189 rfl ?_
  refine xg_iconst (v := 3) (pc := 1190) dL_law_1190 (by decide) ?_
  refine xg_iadd (pc := 1191) dL_law_1191 ?_
  refine xg_siald (pc := 1192) (i + 3) dL_law_1192 (by simp only [xlit, nI_add, pk_mul]) (by omega) hXL ?_
  refine xg_aload_n (pc := 1193) dL_law_1193 rfl ?_
  refine xg_iload_n (pc := 1194) dL_law_1194 rfl ?_
  refine xg_iconst (v := 4) (pc := 1195) dL_law_1195 (by decide) ?_
  refine xg_iadd (pc := 1196) dL_law_1196 ?_
  refine xg_siald (pc := 1197) (i + 4) dL_law_1197 (by simp only [xlit, nI_add, pk_mul]) (by omega) hXL ?_
  refine xg_aload_n (pc := 1198) dL_law_1198 rfl ?_
  refine xg_iload_n (pc := 1199) dL_law_1199 rfl ?_
  refine xg_iconst (v := 5) (pc := 1200) dL_law_1200 (by decide) ?_
  refine xg_iadd (pc := 1201) dL_law_1201 ?_
  refine xg_siald (pc := 1202) (i + 5) dL_law_1202 (by simp only [xlit, nI_add, pk_mul]) (by omega) hXL ?_
  refine xg_callv (k1 := 0) (n1 := 0) (k2 := 0) (n2 := 0) (pc := 1203) (as := [.int (X.2 (i + 1)), .int (X.2 (i + 2)), .int (X.2 (i + 3)), .int (X.2 (i + 4)), .int (X.2 (i + 5))]) (rest := [.int y]) (M' := mX7_copy) dL_law_1203 lkL_140 mcX7_copy hp_62 rfl h7 rfl rfl (Nat.le_of_ble_eq_true rfl) rfl rfl (fun v h' hq => ?_)
  obtain ⟨rfl, mf2, wf2, q2, I2, rfl⟩ := hq
  show xGo X false (12 + 1) 0 0 (mLw nm) 1206 [some (.ref 1000), some (.ref 0), some (.ref 62), some (.int (nI i))] [.int y, .int y] (hp (tri g0 g1 g2) o2 mf2 wf2 q2) (fun v _ => v = [.int 1])
  refine xg_icmp_eq (pc := 1206) (tgt := 1385) dL_law_1206 (by decide) (fun c_1206 => ?_) (fun c_1206 => absurd c_1206 (fun z => z rfl))
  refine xg_iinc (pc := 1385) (y := (nI i) + 6) (ls' := [some (.ref 1000), some (.ref 0), some (.ref 62), some (.int ((nI i) + 6))]) dL_law_1385 rfl rfl (show 3 < 4 by decide) rfl ?_
  refine xg_goto (pc := 1388) (tgt := 18) dL_law_1388 (by decide) ?_
  rw [show (nI i + 6 : Int32) = nI (i + 6) from nI_add i 6]
  exact HO _ _ _ _ _ _ _ I2
set_option maxRecDepth 100000 in
theorem lc_lays {i : Nat} {f0 f1 f2 : Nat → Int32} {o : xO} {mf wf : Nat → Int32} {q : xQ} (hi : i + 6 ≤ X.1) (hXL : X.1 < 2 ^ 31) (HO : ∀ (f0 f1 f2 : Nat → Int32) (o : xO) (mf wf : Nat → Int32) (q : xQ), IV o f0 f2 q mf → xGo X false (12 + 1) 0 0 (mLw nm) 18 [some (.ref 1000), some (.ref 0), some (.ref 62), some (.int (nI (i + 6)))] [] (hp (tri f0 f1 f2) o mf wf q) (fun v _ => v = [.int 1])) (I : IV o f0 f2 q mf) : xGo X false (12 + 1) 0 0 (mLw nm) 1211 [some (.ref 1000), some (.ref 0), some (.ref 62), some (.int (nI i))] [] (hp (tri f0 f1 f2) o mf wf q) (fun v _ => v = [.int 1]) := by
  refine xg_aload_n (pc := 1211) dL_law_1211 rfl ?_
  refine xg_aload_n (pc := 1212) dL_law_1212 rfl ?_
  refine xg_iload_n (pc := 1213) dL_law_1213 rfl ?_
  refine xg_iconst (v := 1) (pc := 1214) dL_law_1214 (by decide) ?_
  refine xg_iadd (pc := 1215) dL_law_1215 ?_
  refine xg_siald (pc := 1216) (i + 1) dL_law_1216 (by simp only [xlit, nI_add, pk_mul]) (by omega) hXL ?_
  refine xg_callv (k1 := 0) (n1 := 0) (k2 := 0) (n2 := 0) (pc := 1217) (as := [.int (X.2 (i + 1))]) (rest := []) (M' := mX6_lays) dL_law_1217 lkL_141 mcX6_lays hp_0 rfl (two_lays I) rfl rfl (Nat.le_of_ble_eq_true rfl) rfl rfl (fun v h' hq => ?_)
  obtain ⟨x, o2, g0, g1, g2, ⟨y, rfl⟩, rfl, rfl, h7⟩ := hq
  show xGo X false (12 + 1) 0 0 (mLw nm) 1220 [some (.ref 1000), some (.ref 0), some (.ref 62), some (.int (nI i))] [.int y] (hp (tri g0 g1 g2) o2 mf wf q) (fun v _ => v = [.int 1])
  refine xg_aload_n (pc := 1220) dL_law_1220 rfl ?_
  refine xg_aload_n (pc := 1221) dL_law_1221 rfl ?_
  refine xg_iload_n (pc := 1222) dL_law_1222 rfl ?_
  refine xg_iconst (v := 1) (pc := 1223) dL_law_1223 (by decide) ?_
  refine xg_iadd (pc := 1224) dL_law_1224 ?_
  refine xg_siald (pc := 1225) (i + 1) dL_law_1225 (by simp only [xlit, nI_add, pk_mul]) (by omega) hXL ?_
  refine xg_callv (k1 := 0) (n1 := 0) (k2 := 0) (n2 := 0) (pc := 1226) (as := [.int (X.2 (i + 1))]) (rest := [.int y]) (M' := mX7_lays) dL_law_1226 lkL_144 mcX7_lays hp_62 rfl h7 rfl rfl (Nat.le_of_ble_eq_true rfl) rfl rfl (fun v h' hq => ?_)
  obtain ⟨rfl, mf2, wf2, q2, I2, rfl⟩ := hq
  show xGo X false (12 + 1) 0 0 (mLw nm) 1229 [some (.ref 1000), some (.ref 0), some (.ref 62), some (.int (nI i))] [.int y, .int y] (hp (tri g0 g1 g2) o2 mf2 wf2 q2) (fun v _ => v = [.int 1])
  refine xg_icmp_eq (pc := 1229) (tgt := 1385) dL_law_1229 (by decide) (fun c_1229 => ?_) (fun c_1229 => absurd c_1229 (fun z => z rfl))
  refine xg_iinc (pc := 1385) (y := (nI i) + 6) (ls' := [some (.ref 1000), some (.ref 0), some (.ref 62), some (.int ((nI i) + 6))]) dL_law_1385 rfl rfl (show 3 < 4 by decide) rfl ?_
  refine xg_goto (pc := 1388) (tgt := 18) dL_law_1388 (by decide) ?_
  rw [show (nI i + 6 : Int32) = nI (i + 6) from nI_add i 6]
  exact HO _ _ _ _ _ _ _ I2
set_option maxRecDepth 100000 in
theorem lc_book {i : Nat} {f0 f1 f2 : Nat → Int32} {o : xO} {mf wf : Nat → Int32} {q : xQ} (hi : i + 6 ≤ X.1) (hXL : X.1 < 2 ^ 31) (HO : ∀ (f0 f1 f2 : Nat → Int32) (o : xO) (mf wf : Nat → Int32) (q : xQ), IV o f0 f2 q mf → xGo X false (12 + 1) 0 0 (mLw nm) 18 [some (.ref 1000), some (.ref 0), some (.ref 62), some (.int (nI (i + 6)))] [] (hp (tri f0 f1 f2) o mf wf q) (fun v _ => v = [.int 1])) (I : IV o f0 f2 q mf) : xGo X false (12 + 1) 0 0 (mLw nm) 1234 [some (.ref 1000), some (.ref 0), some (.ref 62), some (.int (nI i))] [] (hp (tri f0 f1 f2) o mf wf q) (fun v _ => v = [.int 1]) := by
  refine xg_aload_n (pc := 1234) dL_law_1234 rfl ?_
  refine xg_aload_n (pc := 1235) dL_law_1235 rfl ?_
  refine xg_iload_n (pc := 1236) dL_law_1236 rfl ?_
  refine xg_iconst (v := 1) (pc := 1237) dL_law_1237 (by decide) ?_
  refine xg_iadd (pc := 1238) dL_law_1238 ?_
  refine xg_siald (pc := 1239) (i + 1) dL_law_1239 (by simp only [xlit, nI_add, pk_mul]) (by omega) hXL ?_
  refine xg_aload_n (pc := 1240) dL_law_1240 rfl ?_
  refine xg_iload_n (pc := 1241) dL_law_1241 rfl ?_
  refine xg_iconst (v := 2) (pc := 1242) dL_law_1242 (by decide) ?_
  refine xg_iadd (pc := 1243) dL_law_1243 ?_
  refine xg_siald (pc := 1244) (i + 2) dL_law_1244 (by simp only [xlit, nI_add, pk_mul]) (by omega) hXL ?_
  refine xg_callv (k1 := 0) (n1 := 0) (k2 := 0) (n2 := 0) (pc := 1245) (as := [.int (X.2 (i + 1)), .int (X.2 (i + 2))]) (rest := []) (M' := mX6_book) dL_law_1245 lkL_145 mcX6_book hp_0 rfl (two_book I) rfl rfl (Nat.le_of_ble_eq_true rfl) rfl rfl (fun v h' hq => ?_)
  obtain ⟨x, o2, g0, g1, g2, ⟨y, rfl⟩, rfl, rfl, h7⟩ := hq
  show xGo X false (12 + 1) 0 0 (mLw nm) 1248 [some (.ref 1000), some (.ref 0), some (.ref 62), some (.int (nI i))] [.int y] (hp (tri g0 g1 g2) o2 mf wf q) (fun v _ => v = [.int 1])
  refine xg_aload_n (pc := 1248) dL_law_1248 rfl ?_
  refine xg_aload_n (pc := 1249) dL_law_1249 rfl ?_
  refine xg_iload_n (pc := 1250) dL_law_1250 rfl ?_
  refine xg_iconst (v := 1) (pc := 1251) dL_law_1251 (by decide) ?_
  refine xg_iadd (pc := 1252) dL_law_1252 ?_
  refine xg_siald (pc := 1253) (i + 1) dL_law_1253 (by simp only [xlit, nI_add, pk_mul]) (by omega) hXL ?_
  refine xg_aload_n (pc := 1254) dL_law_1254 rfl ?_
  refine xg_iload_n (pc := 1255) dL_law_1255 rfl ?_
  refine xg_iconst (v := 2) (pc := 1256) dL_law_1256 (by decide) ?_
  refine xg_iadd (pc := 1257) dL_law_1257 ?_
  refine xg_siald (pc := 1258) (i + 2) dL_law_1258 (by simp only [xlit, nI_add, pk_mul]) (by omega) hXL ?_
  refine xg_callv (k1 := 0) (n1 := 0) (k2 := 0) (n2 := 0) (pc := 1259) (as := [.int (X.2 (i + 1)), .int (X.2 (i + 2))]) (rest := [.int y]) (M' := mX7_book) dL_law_1259 lkL_148 mcX7_book hp_62 rfl h7 rfl rfl (Nat.le_of_ble_eq_true rfl) rfl rfl (fun v h' hq => ?_)
  obtain ⟨rfl, mf2, wf2, q2, I2, rfl⟩ := hq
  show xGo X false (12 + 1) 0 0 (mLw nm) 1262 [some (.ref 1000), some (.ref 0), some (.ref 62), some (.int (nI i))] [.int y, .int y] (hp (tri g0 g1 g2) o2 mf2 wf2 q2) (fun v _ => v = [.int 1])
  refine xg_icmp_eq (pc := 1262) (tgt := 1385) dL_law_1262 (by decide) (fun c_1262 => ?_) (fun c_1262 => absurd c_1262 (fun z => z rfl))
  refine xg_iinc (pc := 1385) (y := (nI i) + 6) (ls' := [some (.ref 1000), some (.ref 0), some (.ref 62), some (.int ((nI i) + 6))]) dL_law_1385 rfl rfl (show 3 < 4 by decide) rfl ?_
  refine xg_goto (pc := 1388) (tgt := 18) dL_law_1388 (by decide) ?_
  rw [show (nI i + 6 : Int32) = nI (i + 6) from nI_add i 6]
  exact HO _ _ _ _ _ _ _ I2
set_option maxRecDepth 100000 in
theorem lc_read {i : Nat} {f0 f1 f2 : Nat → Int32} {o : xO} {mf wf : Nat → Int32} {q : xQ} (hi : i + 6 ≤ X.1) (hXL : X.1 < 2 ^ 31) (HO : ∀ (f0 f1 f2 : Nat → Int32) (o : xO) (mf wf : Nat → Int32) (q : xQ), IV o f0 f2 q mf → xGo X false (12 + 1) 0 0 (mLw nm) 18 [some (.ref 1000), some (.ref 0), some (.ref 62), some (.int (nI (i + 6)))] [] (hp (tri f0 f1 f2) o mf wf q) (fun v _ => v = [.int 1])) (I : IV o f0 f2 q mf) : xGo X false (12 + 1) 0 0 (mLw nm) 1267 [some (.ref 1000), some (.ref 0), some (.ref 62), some (.int (nI i))] [] (hp (tri f0 f1 f2) o mf wf q) (fun v _ => v = [.int 1]) := by
  refine xg_aload_n (pc := 1267) dL_law_1267 rfl ?_
  refine xg_aload_n (pc := 1268) dL_law_1268 rfl ?_
  refine xg_iload_n (pc := 1269) dL_law_1269 rfl ?_
  refine xg_iconst (v := 1) (pc := 1270) dL_law_1270 (by decide) ?_
  refine xg_iadd (pc := 1271) dL_law_1271 ?_
  refine xg_siald (pc := 1272) (i + 1) dL_law_1272 (by simp only [xlit, nI_add, pk_mul]) (by omega) hXL ?_
  refine xg_aload_n (pc := 1273) dL_law_1273 rfl ?_
  refine xg_iload_n (pc := 1274) dL_law_1274 rfl ?_
  refine xg_iconst (v := 2) (pc := 1275) dL_law_1275 (by decide) ?_
  refine xg_iadd (pc := 1276) dL_law_1276 ?_
  refine xg_siald (pc := 1277) (i + 2) dL_law_1277 (by simp only [xlit, nI_add, pk_mul]) (by omega) hXL ?_
  refine xg_callv (k1 := 0) (n1 := 0) (k2 := 0) (n2 := 0) (pc := 1278) (as := [.int (X.2 (i + 1)), .int (X.2 (i + 2))]) (rest := []) (M' := mX6_read) dL_law_1278 lkL_149 mcX6_read hp_0 rfl (two_read I) rfl rfl (Nat.le_of_ble_eq_true rfl) rfl rfl (fun v h' hq => ?_)
  obtain ⟨x, o2, g0, g1, g2, ⟨y, rfl⟩, rfl, rfl, h7⟩ := hq
  show xGo X false (12 + 1) 0 0 (mLw nm) 1281 [some (.ref 1000), some (.ref 0), some (.ref 62), some (.int (nI i))] [.int y] (hp (tri g0 g1 g2) o2 mf wf q) (fun v _ => v = [.int 1])
  refine xg_aload_n (pc := 1281) dL_law_1281 rfl ?_
  refine xg_aload_n (pc := 1282) dL_law_1282 rfl ?_
  refine xg_iload_n (pc := 1283) dL_law_1283 rfl ?_
  refine xg_iconst (v := 1) (pc := 1284) dL_law_1284 (by decide) ?_
  refine xg_iadd (pc := 1285) dL_law_1285 ?_
  refine xg_siald (pc := 1286) (i + 1) dL_law_1286 (by simp only [xlit, nI_add, pk_mul]) (by omega) hXL ?_
  refine xg_aload_n (pc := 1287) dL_law_1287 rfl ?_
  refine xg_iload_n (pc := 1288) dL_law_1288 rfl ?_
  refine xg_iconst (v := 2) (pc := 1289) dL_law_1289 (by decide) ?_
  refine xg_iadd (pc := 1290) dL_law_1290 ?_
  refine xg_siald (pc := 1291) (i + 2) dL_law_1291 (by simp only [xlit, nI_add, pk_mul]) (by omega) hXL ?_
  refine xg_callv (k1 := 0) (n1 := 0) (k2 := 0) (n2 := 0) (pc := 1292) (as := [.int (X.2 (i + 1)), .int (X.2 (i + 2))]) (rest := [.int y]) (M' := mX7_read) dL_law_1292 lkL_152 mcX7_read hp_62 rfl h7 rfl rfl (Nat.le_of_ble_eq_true rfl) rfl rfl (fun v h' hq => ?_)
  obtain ⟨rfl, mf2, wf2, q2, I2, rfl⟩ := hq
  show xGo X false (12 + 1) 0 0 (mLw nm) 1295 [some (.ref 1000), some (.ref 0), some (.ref 62), some (.int (nI i))] [.int y, .int y] (hp (tri g0 g1 g2) o2 mf2 wf2 q2) (fun v _ => v = [.int 1])
  refine xg_icmp_eq (pc := 1295) (tgt := 1385) dL_law_1295 (by decide) (fun c_1295 => ?_) (fun c_1295 => absurd c_1295 (fun z => z rfl))
  refine xg_iinc (pc := 1385) (y := (nI i) + 6) (ls' := [some (.ref 1000), some (.ref 0), some (.ref 62), some (.int ((nI i) + 6))]) dL_law_1385 rfl rfl (show 3 < 4 by decide) rfl ?_
  refine xg_goto (pc := 1388) (tgt := 18) dL_law_1388 (by decide) ?_
  rw [show (nI i + 6 : Int32) = nI (i + 6) from nI_add i 6]
  exact HO _ _ _ _ _ _ _ I2
set_option maxRecDepth 100000 in
theorem lc_image {i : Nat} {f0 f1 f2 : Nat → Int32} {o : xO} {mf wf : Nat → Int32} {q : xQ} (hi : i + 6 ≤ X.1) (hXL : X.1 < 2 ^ 31) (HO : ∀ (f0 f1 f2 : Nat → Int32) (o : xO) (mf wf : Nat → Int32) (q : xQ), IV o f0 f2 q mf → xGo X false (12 + 1) 0 0 (mLw nm) 18 [some (.ref 1000), some (.ref 0), some (.ref 62), some (.int (nI (i + 6)))] [] (hp (tri f0 f1 f2) o mf wf q) (fun v _ => v = [.int 1])) (I : IV o f0 f2 q mf) : xGo X false (12 + 1) 0 0 (mLw nm) 1300 [some (.ref 1000), some (.ref 0), some (.ref 62), some (.int (nI i))] [] (hp (tri f0 f1 f2) o mf wf q) (fun v _ => v = [.int 1]) := by
  refine xg_aload_n (pc := 1300) dL_law_1300 rfl ?_
  refine xg_callv (k1 := 0) (n1 := 0) (k2 := 0) (n2 := 0) (pc := 1301) (as := []) (rest := []) (M' := mX6_image) dL_law_1301 lkL_153 mcX6_image hp_0 rfl (two_image I) rfl rfl (Nat.le_of_ble_eq_true rfl) rfl rfl (fun v h' hq => ?_)
  obtain ⟨x, o2, g0, g1, g2, ⟨y, rfl⟩, rfl, rfl, h7⟩ := hq
  show xGo X false (12 + 1) 0 0 (mLw nm) 1304 [some (.ref 1000), some (.ref 0), some (.ref 62), some (.int (nI i))] [.int y] (hp (tri g0 g1 g2) o2 mf wf q) (fun v _ => v = [.int 1])
  refine xg_aload_n (pc := 1304) dL_law_1304 rfl ?_
  refine xg_callv (k1 := 0) (n1 := 0) (k2 := 0) (n2 := 0) (pc := 1305) (as := []) (rest := [.int y]) (M' := mX7_image) dL_law_1305 lkL_156 mcX7_image hp_62 rfl h7 rfl rfl (Nat.le_of_ble_eq_true rfl) rfl rfl (fun v h' hq => ?_)
  obtain ⟨rfl, mf2, wf2, q2, I2, rfl⟩ := hq
  show xGo X false (12 + 1) 0 0 (mLw nm) 1308 [some (.ref 1000), some (.ref 0), some (.ref 62), some (.int (nI i))] [.int y, .int y] (hp (tri g0 g1 g2) o2 mf2 wf2 q2) (fun v _ => v = [.int 1])
  refine xg_icmp_eq (pc := 1308) (tgt := 1385) dL_law_1308 (by decide) (fun c_1308 => ?_) (fun c_1308 => absurd c_1308 (fun z => z rfl))
  refine xg_iinc (pc := 1385) (y := (nI i) + 6) (ls' := [some (.ref 1000), some (.ref 0), some (.ref 62), some (.int ((nI i) + 6))]) dL_law_1385 rfl rfl (show 3 < 4 by decide) rfl ?_
  refine xg_goto (pc := 1388) (tgt := 18) dL_law_1388 (by decide) ?_
  rw [show (nI i + 6 : Int32) = nI (i + 6) from nI_add i 6]
  exact HO _ _ _ _ _ _ _ I2
set_option maxRecDepth 100000 in
theorem lc_undo {i : Nat} {f0 f1 f2 : Nat → Int32} {o : xO} {mf wf : Nat → Int32} {q : xQ} (hi : i + 6 ≤ X.1) (hXL : X.1 < 2 ^ 31) (HO : ∀ (f0 f1 f2 : Nat → Int32) (o : xO) (mf wf : Nat → Int32) (q : xQ), IV o f0 f2 q mf → xGo X false (12 + 1) 0 0 (mLw nm) 18 [some (.ref 1000), some (.ref 0), some (.ref 62), some (.int (nI (i + 6)))] [] (hp (tri f0 f1 f2) o mf wf q) (fun v _ => v = [.int 1])) (I : IV o f0 f2 q mf) : xGo X false (12 + 1) 0 0 (mLw nm) 1313 [some (.ref 1000), some (.ref 0), some (.ref 62), some (.int (nI i))] [] (hp (tri f0 f1 f2) o mf wf q) (fun v _ => v = [.int 1]) := by
  refine xg_aload_n (pc := 1313) dL_law_1313 rfl ?_
  refine xg_callv (k1 := 0) (n1 := 0) (k2 := 0) (n2 := 0) (pc := 1314) (as := []) (rest := []) (M' := mX6_undo) dL_law_1314 lkL_157 mcX6_undo hp_0 rfl (two_undo I) rfl rfl (Nat.le_of_ble_eq_true rfl) rfl rfl (fun v h' hq => ?_)
  obtain ⟨x, o2, g0, g1, g2, ⟨y, rfl⟩, rfl, rfl, h7⟩ := hq
  show xGo X false (12 + 1) 0 0 (mLw nm) 1317 [some (.ref 1000), some (.ref 0), some (.ref 62), some (.int (nI i))] [.int y] (hp (tri g0 g1 g2) o2 mf wf q) (fun v _ => v = [.int 1])
  refine xg_aload_n (pc := 1317) dL_law_1317 rfl ?_
  refine xg_callv (k1 := 0) (n1 := 0) (k2 := 0) (n2 := 0) (pc := 1318) (as := []) (rest := [.int y]) (M' := mX7_undo) dL_law_1318 lkL_160 mcX7_undo hp_62 rfl h7 rfl rfl (Nat.le_of_ble_eq_true rfl) rfl rfl (fun v h' hq => ?_)
  obtain ⟨rfl, mf2, wf2, q2, I2, rfl⟩ := hq
  show xGo X false (12 + 1) 0 0 (mLw nm) 1321 [some (.ref 1000), some (.ref 0), some (.ref 62), some (.int (nI i))] [.int y, .int y] (hp (tri g0 g1 g2) o2 mf2 wf2 q2) (fun v _ => v = [.int 1])
  refine xg_icmp_eq (pc := 1321) (tgt := 1385) dL_law_1321 (by decide) (fun c_1321 => ?_) (fun c_1321 => absurd c_1321 (fun z => z rfl))
  refine xg_iinc (pc := 1385) (y := (nI i) + 6) (ls' := [some (.ref 1000), some (.ref 0), some (.ref 62), some (.int ((nI i) + 6))]) dL_law_1385 rfl rfl (show 3 < 4 by decide) rfl ?_
  refine xg_goto (pc := 1388) (tgt := 18) dL_law_1388 (by decide) ?_
  rw [show (nI i + 6 : Int32) = nI (i + 6) from nI_add i 6]
  exact HO _ _ _ _ _ _ _ I2
set_option maxRecDepth 100000 in
theorem lc_tear {i : Nat} {f0 f1 f2 : Nat → Int32} {o : xO} {mf wf : Nat → Int32} {q : xQ} (hi : i + 6 ≤ X.1) (hXL : X.1 < 2 ^ 31) (HO : ∀ (f0 f1 f2 : Nat → Int32) (o : xO) (mf wf : Nat → Int32) (q : xQ), IV o f0 f2 q mf → xGo X false (12 + 1) 0 0 (mLw nm) 18 [some (.ref 1000), some (.ref 0), some (.ref 62), some (.int (nI (i + 6)))] [] (hp (tri f0 f1 f2) o mf wf q) (fun v _ => v = [.int 1])) (I : IV o f0 f2 q mf) : xGo X false (12 + 1) 0 0 (mLw nm) 1326 [some (.ref 1000), some (.ref 0), some (.ref 62), some (.int (nI i))] [] (hp (tri f0 f1 f2) o mf wf q) (fun v _ => v = [.int 1]) := by
  refine xg_aload_n (pc := 1326) dL_law_1326 rfl ?_
  refine xg_callv (k1 := 0) (n1 := 0) (k2 := 0) (n2 := 0) (pc := 1327) (as := []) (rest := []) (M' := mX6_tear) dL_law_1327 lkL_161 mcX6_tear hp_0 rfl (two_tear I) rfl rfl (Nat.le_of_ble_eq_true rfl) rfl rfl (fun v h' hq => ?_)
  obtain ⟨x, o2, g0, g1, g2, ⟨y, rfl⟩, rfl, rfl, h7⟩ := hq
  show xGo X false (12 + 1) 0 0 (mLw nm) 1330 [some (.ref 1000), some (.ref 0), some (.ref 62), some (.int (nI i))] [.int y] (hp (tri g0 g1 g2) o2 mf wf q) (fun v _ => v = [.int 1])
  refine xg_aload_n (pc := 1330) dL_law_1330 rfl ?_
  refine xg_callv (k1 := 0) (n1 := 0) (k2 := 0) (n2 := 0) (pc := 1331) (as := []) (rest := [.int y]) (M' := mX7_tear) dL_law_1331 lkL_164 mcX7_tear hp_62 rfl h7 rfl rfl (Nat.le_of_ble_eq_true rfl) rfl rfl (fun v h' hq => ?_)
  obtain ⟨rfl, mf2, wf2, q2, I2, rfl⟩ := hq
  show xGo X false (12 + 1) 0 0 (mLw nm) 1334 [some (.ref 1000), some (.ref 0), some (.ref 62), some (.int (nI i))] [.int y, .int y] (hp (tri g0 g1 g2) o2 mf2 wf2 q2) (fun v _ => v = [.int 1])
  refine xg_icmp_eq (pc := 1334) (tgt := 1385) dL_law_1334 (by decide) (fun c_1334 => ?_) (fun c_1334 => absurd c_1334 (fun z => z rfl))
  refine xg_iinc (pc := 1385) (y := (nI i) + 6) (ls' := [some (.ref 1000), some (.ref 0), some (.ref 62), some (.int ((nI i) + 6))]) dL_law_1385 rfl rfl (show 3 < 4 by decide) rfl ?_
  refine xg_goto (pc := 1388) (tgt := 18) dL_law_1388 (by decide) ?_
  rw [show (nI i + 6 : Int32) = nI (i + 6) from nI_add i 6]
  exact HO _ _ _ _ _ _ _ I2
set_option maxRecDepth 100000 in
theorem lc_count {i : Nat} {f0 f1 f2 : Nat → Int32} {o : xO} {mf wf : Nat → Int32} {q : xQ} (hi : i + 6 ≤ X.1) (hXL : X.1 < 2 ^ 31) (HO : ∀ (f0 f1 f2 : Nat → Int32) (o : xO) (mf wf : Nat → Int32) (q : xQ), IV o f0 f2 q mf → xGo X false (12 + 1) 0 0 (mLw nm) 18 [some (.ref 1000), some (.ref 0), some (.ref 62), some (.int (nI (i + 6)))] [] (hp (tri f0 f1 f2) o mf wf q) (fun v _ => v = [.int 1])) (I : IV o f0 f2 q mf) : xGo X false (12 + 1) 0 0 (mLw nm) 1339 [some (.ref 1000), some (.ref 0), some (.ref 62), some (.int (nI i))] [] (hp (tri f0 f1 f2) o mf wf q) (fun v _ => v = [.int 1]) := by
  refine xg_aload_n (pc := 1339) dL_law_1339 rfl ?_
  refine xg_aload_n (pc := 1340) dL_law_1340 rfl ?_
  refine xg_iload_n (pc := 1341) dL_law_1341 rfl ?_
  refine xg_iconst (v := 1) (pc := 1342) dL_law_1342 (by decide) ?_
  refine xg_iadd (pc := 1343) dL_law_1343 ?_
  refine xg_siald (pc := 1344) (i + 1) dL_law_1344 (by simp only [xlit, nI_add, pk_mul]) (by omega) hXL ?_
  refine xg_callv (k1 := 0) (n1 := 0) (k2 := 0) (n2 := 0) (pc := 1345) (as := [.int (X.2 (i + 1))]) (rest := []) (M' := mX6_count) dL_law_1345 lkL_165 mcX6_count hp_0 rfl (two_count I) rfl rfl (Nat.le_of_ble_eq_true rfl) rfl rfl (fun v h' hq => ?_)
  obtain ⟨x, o2, g0, g1, g2, ⟨y, rfl⟩, rfl, rfl, h7⟩ := hq
  show xGo X false (12 + 1) 0 0 (mLw nm) 1348 [some (.ref 1000), some (.ref 0), some (.ref 62), some (.int (nI i))] [.int y] (hp (tri g0 g1 g2) o2 mf wf q) (fun v _ => v = [.int 1])
  refine xg_aload_n (pc := 1348) dL_law_1348 rfl ?_
  refine xg_aload_n (pc := 1349) dL_law_1349 rfl ?_
  refine xg_iload_n (pc := 1350) dL_law_1350 rfl ?_
  refine xg_iconst (v := 1) (pc := 1351) dL_law_1351 (by decide) ?_
  refine xg_iadd (pc := 1352) dL_law_1352 ?_
  refine xg_siald (pc := 1353) (i + 1) dL_law_1353 (by simp only [xlit, nI_add, pk_mul]) (by omega) hXL ?_
  refine xg_callv (k1 := 0) (n1 := 0) (k2 := 0) (n2 := 0) (pc := 1354) (as := [.int (X.2 (i + 1))]) (rest := [.int y]) (M' := mX7_count) dL_law_1354 lkL_168 mcX7_count hp_62 rfl h7 rfl rfl (Nat.le_of_ble_eq_true rfl) rfl rfl (fun v h' hq => ?_)
  obtain ⟨rfl, mf2, wf2, q2, I2, rfl⟩ := hq
  show xGo X false (12 + 1) 0 0 (mLw nm) 1357 [some (.ref 1000), some (.ref 0), some (.ref 62), some (.int (nI i))] [.int y, .int y] (hp (tri g0 g1 g2) o2 mf2 wf2 q2) (fun v _ => v = [.int 1])
  refine xg_icmp_eq (pc := 1357) (tgt := 1385) dL_law_1357 (by decide) (fun c_1357 => ?_) (fun c_1357 => absurd c_1357 (fun z => z rfl))
  refine xg_iinc (pc := 1385) (y := (nI i) + 6) (ls' := [some (.ref 1000), some (.ref 0), some (.ref 62), some (.int ((nI i) + 6))]) dL_law_1385 rfl rfl (show 3 < 4 by decide) rfl ?_
  refine xg_goto (pc := 1388) (tgt := 18) dL_law_1388 (by decide) ?_
  rw [show (nI i + 6 : Int32) = nI (i + 6) from nI_add i 6]
  exact HO _ _ _ _ _ _ _ I2
set_option maxRecDepth 100000 in
theorem lc_status {i : Nat} {f0 f1 f2 : Nat → Int32} {o : xO} {mf wf : Nat → Int32} {q : xQ} (hi : i + 6 ≤ X.1) (hXL : X.1 < 2 ^ 31) (HO : ∀ (f0 f1 f2 : Nat → Int32) (o : xO) (mf wf : Nat → Int32) (q : xQ), IV o f0 f2 q mf → xGo X false (12 + 1) 0 0 (mLw nm) 18 [some (.ref 1000), some (.ref 0), some (.ref 62), some (.int (nI (i + 6)))] [] (hp (tri f0 f1 f2) o mf wf q) (fun v _ => v = [.int 1])) (I : IV o f0 f2 q mf) : xGo X false (12 + 1) 0 0 (mLw nm) 1362 [some (.ref 1000), some (.ref 0), some (.ref 62), some (.int (nI i))] [] (hp (tri f0 f1 f2) o mf wf q) (fun v _ => v = [.int 1]) := by
  refine xg_aload_n (pc := 1362) dL_law_1362 rfl ?_
  refine xg_aload_n (pc := 1363) dL_law_1363 rfl ?_
  refine xg_iload_n (pc := 1364) dL_law_1364 rfl ?_
  refine xg_iconst (v := 1) (pc := 1365) dL_law_1365 (by decide) ?_
  refine xg_iadd (pc := 1366) dL_law_1366 ?_
  refine xg_siald (pc := 1367) (i + 1) dL_law_1367 (by simp only [xlit, nI_add, pk_mul]) (by omega) hXL ?_
  refine xg_callv (k1 := 0) (n1 := 0) (k2 := 0) (n2 := 0) (pc := 1368) (as := [.int (X.2 (i + 1))]) (rest := []) (M' := mX6_status) dL_law_1368 lkL_169 mcX6_status hp_0 rfl (two_status I) rfl rfl (Nat.le_of_ble_eq_true rfl) rfl rfl (fun v h' hq => ?_)
  obtain ⟨x, o2, g0, g1, g2, ⟨y, rfl⟩, rfl, rfl, h7⟩ := hq
  show xGo X false (12 + 1) 0 0 (mLw nm) 1371 [some (.ref 1000), some (.ref 0), some (.ref 62), some (.int (nI i))] [.int y] (hp (tri g0 g1 g2) o2 mf wf q) (fun v _ => v = [.int 1])
  refine xg_aload_n (pc := 1371) dL_law_1371 rfl ?_
  refine xg_aload_n (pc := 1372) dL_law_1372 rfl ?_
  refine xg_iload_n (pc := 1373) dL_law_1373 rfl ?_
  refine xg_iconst (v := 1) (pc := 1374) dL_law_1374 (by decide) ?_
  refine xg_iadd (pc := 1375) dL_law_1375 ?_
  refine xg_siald (pc := 1376) (i + 1) dL_law_1376 (by simp only [xlit, nI_add, pk_mul]) (by omega) hXL ?_
  refine xg_callv (k1 := 0) (n1 := 0) (k2 := 0) (n2 := 0) (pc := 1377) (as := [.int (X.2 (i + 1))]) (rest := [.int y]) (M' := mX7_status) dL_law_1377 lkL_172 mcX7_status hp_62 rfl h7 rfl rfl (Nat.le_of_ble_eq_true rfl) rfl rfl (fun v h' hq => ?_)
  obtain ⟨rfl, mf2, wf2, q2, I2, rfl⟩ := hq
  show xGo X false (12 + 1) 0 0 (mLw nm) 1380 [some (.ref 1000), some (.ref 0), some (.ref 62), some (.int (nI i))] [.int y, .int y] (hp (tri g0 g1 g2) o2 mf2 wf2 q2) (fun v _ => v = [.int 1])
  refine xg_icmp_eq (pc := 1380) (tgt := 1385) dL_law_1380 (by decide) (fun c_1380 => ?_) (fun c_1380 => absurd c_1380 (fun z => z rfl))
  refine xg_iinc (pc := 1385) (y := (nI i) + 6) (ls' := [some (.ref 1000), some (.ref 0), some (.ref 62), some (.int ((nI i) + 6))]) dL_law_1385 rfl rfl (show 3 < 4 by decide) rfl ?_
  refine xg_goto (pc := 1388) (tgt := 18) dL_law_1388 (by decide) ?_
  rw [show (nI i + 6 : Int32) = nI (i + 6) from nI_add i 6]
  exact HO _ _ _ _ _ _ _ I2
set_option maxRecDepth 100000 in
theorem lp_law (hXL : X.1 ≤ 3072) : ∀ (k i : Nat) (f0 f1 f2 : Nat → Int32) (o : xO) (mf wf : Nat → Int32) (q : xQ), X.1 < i + 6 * k + 6 → i ≤ 4000 → IV o f0 f2 q mf → xGo X false (12 + 1) 0 0 (mLw nm) 18 [some (.ref 1000), some (.ref 0), some (.ref 62), some (.int (nI i))] [] (hp (tri f0 f1 f2) o mf wf q) (fun v _ => v = [.int 1]) := by
  intro k
  induction k with
  | zero =>
    intro i f0 f1 f2 o mf wf q hk hi4 I
    refine xg_iload_n (pc := 18) dL_law_18 rfl ?_
    refine xg_aload_n (pc := 19) dL_law_19 rfl ?_
    refine xg_slen (pc := 20) dL_law_20 ?_
    refine xg_bipush (v := 6) (pc := 21) dL_law_21 (by decide) ?_
    refine xg_isub (pc := 23) dL_law_23 ?_
    refine xg_icmp_gt (pc := 24) (tgt := 1391) dL_law_24 (by decide) (fun c_24 => ?_) (fun c_24 => absurd c_24 (fun z => z (gt6 (by omega) ⟨hi4, by omega⟩)))
    refine xg_iconst (v := 1) (pc := 1391) dL_law_1391 (by decide) ?_
    exact xg_zret (pc := 1392) (ty := .boolean) dL_law_1392 rfl rfl (rfl)
  | succ k ih =>
    intro i f0 f1 f2 o mf wf q hk hi4 I
    by_cases hi : i + 6 ≤ X.1
    · have HO : ∀ (f0 f1 f2 : Nat → Int32) (o : xO) (mf wf : Nat → Int32) (q : xQ), IV o f0 f2 q mf → xGo X false (12 + 1) 0 0 (mLw nm) 18 [some (.ref 1000), some (.ref 0), some (.ref 62), some (.int (nI (i + 6)))] [] (hp (tri f0 f1 f2) o mf wf q) (fun v _ => v = [.int 1]) := fun f0 f1 f2 o mf wf q I => ih (i + 6) f0 f1 f2 o mf wf q (by omega) (by omega) I
      refine xg_iload_n (pc := 18) dL_law_18 rfl ?_
      refine xg_aload_n (pc := 19) dL_law_19 rfl ?_
      refine xg_slen (pc := 20) dL_law_20 ?_
      refine xg_bipush (v := 6) (pc := 21) dL_law_21 (by decide) ?_
      refine xg_isub (pc := 23) dL_law_23 ?_
      refine xg_icmp_gt (pc := 24) (tgt := 1391) dL_law_24 (by decide) (fun c_24 => absurd c_24 (le6 (by omega) ⟨hi4, hi⟩)) (fun c_24 => ?_)
      refine xg_aload_n (pc := 27) dL_law_27 rfl ?_
      refine xg_iload_n (pc := 28) dL_law_28 rfl ?_
      refine xg_siald (pc := 29) i dL_law_29 rfl (by omega) (by omega) ?_
      refine xg_bipush (v := 63) (pc := 30) dL_law_30 (by decide) ?_
      refine xg_iand (pc := 32) dL_law_32 ?_
      by_cases w33_0 : ((X.2 i) &&& 63) = 0
      ·
        refine xg_tswI (pc := 33) 0 (tgt := 200) dL_law_33 (by rw [w33_0]; rfl) (by decide) rfl (by decide) ?_
        exact lc_wind hi (by omega) HO I
      by_cases w33_1 : ((X.2 i) &&& 63) = 1
      ·
        refine xg_tswI (pc := 33) 1 (tgt := 233) dL_law_33 (by rw [w33_1]; rfl) (by decide) rfl (by decide) ?_
        exact lc_cell hi (by omega) HO I
      by_cases w33_2 : ((X.2 i) &&& 63) = 2
      ·
        refine xg_tswI (pc := 33) 2 (tgt := 266) dL_law_33 (by rw [w33_2]; rfl) (by decide) rfl (by decide) ?_
        exact lc_thing hi (by omega) HO I
      by_cases w33_3 : ((X.2 i) &&& 63) = 3
      ·
        refine xg_tswI (pc := 33) 3 (tgt := 309) dL_law_33 (by rw [w33_3]; rfl) (by decide) rfl (by decide) ?_
        exact lc_of hi (by omega) HO I
      by_cases w33_4 : ((X.2 i) &&& 63) = 4
      ·
        refine xg_tswI (pc := 33) 4 (tgt := 342) dL_law_33 (by rw [w33_4]; rfl) (by decide) rfl (by decide) ?_
        exact lc_set hi (by omega) HO I
      by_cases w33_5 : ((X.2 i) &&& 63) = 5
      ·
        refine xg_tswI (pc := 33) 5 (tgt := 385) dL_law_33 (by rw [w33_5]; rfl) (by decide) rfl (by decide) ?_
        exact lc_turn hi (by omega) HO I
      by_cases w33_6 : ((X.2 i) &&& 63) = 6
      ·
        refine xg_tswI (pc := 33) 6 (tgt := 418) dL_law_33 (by rw [w33_6]; rfl) (by decide) rfl (by decide) ?_
        exact lc_as hi (by omega) HO I
      by_cases w33_7 : ((X.2 i) &&& 63) = 7
      ·
        refine xg_tswI (pc := 33) 7 (tgt := 451) dL_law_33 (by rw [w33_7]; rfl) (by decide) rfl (by decide) ?_
        exact lc_boat hi (by omega) HO I
      by_cases w33_8 : ((X.2 i) &&& 63) = 8
      ·
        refine xg_tswI (pc := 33) 8 (tgt := 474) dL_law_33 (by rw [w33_8]; rfl) (by decide) rfl (by decide) ?_
        exact lc_told hi (by omega) HO I
      by_cases w33_9 : ((X.2 i) &&& 63) = 9
      ·
        refine xg_tswI (pc := 33) 9 (tgt := 507) dL_law_33 (by rw [w33_9]; rfl) (by decide) rfl (by decide) ?_
        exact lc_fit hi (by omega) HO I
      by_cases w33_10 : ((X.2 i) &&& 63) = 10
      ·
        refine xg_tswI (pc := 33) 10 (tgt := 550) dL_law_33 (by rw [w33_10]; rfl) (by decide) rfl (by decide) ?_
        exact lc_hours hi (by omega) HO I
      by_cases w33_11 : ((X.2 i) &&& 63) = 11
      ·
        refine xg_tswI (pc := 33) 11 (tgt := 573) dL_law_33 (by rw [w33_11]; rfl) (by decide) rfl (by decide) ?_
        exact lc_now hi (by omega) HO I
      by_cases w33_12 : ((X.2 i) &&& 63) = 12
      ·
        refine xg_tswI (pc := 33) 12 (tgt := 596) dL_law_33 (by rw [w33_12]; rfl) (by decide) rfl (by decide) ?_
        exact lc_on hi (by omega) HO I
      by_cases w33_13 : ((X.2 i) &&& 63) = 13
      ·
        refine xg_tswI (pc := 33) 13 (tgt := 639) dL_law_33 (by rw [w33_13]; rfl) (by decide) rfl (by decide) ?_
        exact lc_light hi (by omega) HO I
      by_cases w33_14 : ((X.2 i) &&& 63) = 14
      ·
        refine xg_tswI (pc := 33) 14 (tgt := 672) dL_law_33 (by rw [w33_14]; rfl) (by decide) rfl (by decide) ?_
        exact lc_full hi (by omega) HO I
      by_cases w33_15 : ((X.2 i) &&& 63) = 15
      ·
        refine xg_tswI (pc := 33) 15 (tgt := 705) dL_law_33 (by rw [w33_15]; rfl) (by decide) rfl (by decide) ?_
        exact lc_dark hi (by omega) HO I
      by_cases w33_16 : ((X.2 i) &&& 63) = 16
      ·
        refine xg_tswI (pc := 33) 16 (tgt := 728) dL_law_33 (by rw [w33_16]; rfl) (by decide) rfl (by decide) ?_
        exact lc_brightest hi (by omega) HO I
      by_cases w33_17 : ((X.2 i) &&& 63) = 17
      ·
        refine xg_tswI (pc := 33) 17 (tgt := 741) dL_law_33 (by rw [w33_17]; rfl) (by decide) rfl (by decide) ?_
        exact lc_spot hi (by omega) HO I
      by_cases w33_18 : ((X.2 i) &&& 63) = 18
      ·
        refine xg_tswI (pc := 33) 18 (tgt := 774) dL_law_33 (by rw [w33_18]; rfl) (by decide) rfl (by decide) ?_
        exact lc_time hi (by omega) HO I
      by_cases w33_19 : ((X.2 i) &&& 63) = 19
      ·
        refine xg_tswI (pc := 33) 19 (tgt := 797) dL_law_33 (by rw [w33_19]; rfl) (by decide) rfl (by decide) ?_
        exact lc_net hi (by omega) HO I
      by_cases w33_20 : ((X.2 i) &&& 63) = 20
      ·
        refine xg_tswI (pc := 33) 20 (tgt := 830) dL_law_33 (by rw [w33_20]; rfl) (by decide) rfl (by decide) ?_
        exact lc_gives hi (by omega) HO I
      by_cases w33_21 : ((X.2 i) &&& 63) = 21
      ·
        refine xg_tswI (pc := 33) 21 (tgt := 863) dL_law_33 (by rw [w33_21]; rfl) (by decide) rfl (by decide) ?_
        exact lc_kind hi (by omega) HO I
      by_cases w33_22 : ((X.2 i) &&& 63) = 22
      ·
        refine xg_tswI (pc := 33) 22 (tgt := 896) dL_law_33 (by rw [w33_22]; rfl) (by decide) rfl (by decide) ?_
        exact lc_rival hi (by omega) HO I
      by_cases w33_23 : ((X.2 i) &&& 63) = 23
      ·
        refine xg_tswI (pc := 33) 23 (tgt := 939) dL_law_33 (by rw [w33_23]; rfl) (by decide) rfl (by decide) ?_
        exact lc_way hi (by omega) HO I
      by_cases w33_24 : ((X.2 i) &&& 63) = 24
      ·
        refine xg_tswI (pc := 33) 24 (tgt := 972) dL_law_33 (by rw [w33_24]; rfl) (by decide) rfl (by decide) ?_
        exact lc_feed hi (by omega) HO I
      by_cases w33_25 : ((X.2 i) &&& 63) = 25
      ·
        refine xg_tswI (pc := 33) 25 (tgt := 1005) dL_law_33 (by rw [w33_25]; rfl) (by decide) rfl (by decide) ?_
        exact lc_wipe hi (by omega) HO I
      by_cases w33_26 : ((X.2 i) &&& 63) = 26
      ·
        refine xg_tswI (pc := 33) 26 (tgt := 1018) dL_law_33 (by rw [w33_26]; rfl) (by decide) rfl (by decide) ?_
        exact lc_lake hi (by omega) HO I
      by_cases w33_27 : ((X.2 i) &&& 63) = 27
      ·
        refine xg_tswI (pc := 33) 27 (tgt := 1031) dL_law_33 (by rw [w33_27]; rfl) (by decide) rfl (by decide) ?_
        exact lc_sheet hi (by omega) HO I
      by_cases w33_28 : ((X.2 i) &&& 63) = 28
      ·
        refine xg_tswI (pc := 33) 28 (tgt := 1074) dL_law_33 (by rw [w33_28]; rfl) (by decide) rfl (by decide) ?_
        exact lc_write hi (by omega) HO I
      by_cases w33_29 : ((X.2 i) &&& 63) = 29
      ·
        refine xg_tswI (pc := 33) 29 (tgt := 1148) dL_law_33 (by rw [w33_29]; rfl) (by decide) rfl (by decide) ?_
        exact lc_copy hi (by omega) HO I
      by_cases w33_30 : ((X.2 i) &&& 63) = 30
      ·
        refine xg_tswI (pc := 33) 30 (tgt := 1211) dL_law_33 (by rw [w33_30]; rfl) (by decide) rfl (by decide) ?_
        exact lc_lays hi (by omega) HO I
      by_cases w33_31 : ((X.2 i) &&& 63) = 31
      ·
        refine xg_tswI (pc := 33) 31 (tgt := 1234) dL_law_33 (by rw [w33_31]; rfl) (by decide) rfl (by decide) ?_
        exact lc_book hi (by omega) HO I
      by_cases w33_32 : ((X.2 i) &&& 63) = 32
      ·
        refine xg_tswI (pc := 33) 32 (tgt := 1267) dL_law_33 (by rw [w33_32]; rfl) (by decide) rfl (by decide) ?_
        exact lc_read hi (by omega) HO I
      by_cases w33_33 : ((X.2 i) &&& 63) = 33
      ·
        refine xg_tswI (pc := 33) 33 (tgt := 1300) dL_law_33 (by rw [w33_33]; rfl) (by decide) rfl (by decide) ?_
        exact lc_image hi (by omega) HO I
      by_cases w33_34 : ((X.2 i) &&& 63) = 34
      ·
        refine xg_tswI (pc := 33) 34 (tgt := 1313) dL_law_33 (by rw [w33_34]; rfl) (by decide) rfl (by decide) ?_
        exact lc_undo hi (by omega) HO I
      by_cases w33_35 : ((X.2 i) &&& 63) = 35
      ·
        refine xg_tswI (pc := 33) 35 (tgt := 1326) dL_law_33 (by rw [w33_35]; rfl) (by decide) rfl (by decide) ?_
        exact lc_tear hi (by omega) HO I
      by_cases w33_36 : ((X.2 i) &&& 63) = 36
      ·
        refine xg_tswI (pc := 33) 36 (tgt := 1339) dL_law_33 (by rw [w33_36]; rfl) (by decide) rfl (by decide) ?_
        exact lc_count hi (by omega) HO I
      by_cases w33_37 : ((X.2 i) &&& 63) = 37
      ·
        refine xg_tswI (pc := 33) 37 (tgt := 1362) dL_law_33 (by rw [w33_37]; rfl) (by decide) rfl (by decide) ?_
        exact lc_status hi (by omega) HO I
      refine xg_tswO (pc := 33) (tgt := 1385) dL_law_33 (by have := lv_neT (a := 0) w33_0 (by decide); have := lv_neT (a := 1) w33_1 (by decide); have := lv_neT (a := 2) w33_2 (by decide); have := lv_neT (a := 3) w33_3 (by decide); have := lv_neT (a := 4) w33_4 (by decide); have := lv_neT (a := 5) w33_5 (by decide); have := lv_neT (a := 6) w33_6 (by decide); have := lv_neT (a := 7) w33_7 (by decide); have := lv_neT (a := 8) w33_8 (by decide); have := lv_neT (a := 9) w33_9 (by decide); have := lv_neT (a := 10) w33_10 (by decide); have := lv_neT (a := 11) w33_11 (by decide); have := lv_neT (a := 12) w33_12 (by decide); have := lv_neT (a := 13) w33_13 (by decide); have := lv_neT (a := 14) w33_14 (by decide); have := lv_neT (a := 15) w33_15 (by decide); have := lv_neT (a := 16) w33_16 (by decide); have := lv_neT (a := 17) w33_17 (by decide); have := lv_neT (a := 18) w33_18 (by decide); have := lv_neT (a := 19) w33_19 (by decide); have := lv_neT (a := 20) w33_20 (by decide); have := lv_neT (a := 21) w33_21 (by decide); have := lv_neT (a := 22) w33_22 (by decide); have := lv_neT (a := 23) w33_23 (by decide); have := lv_neT (a := 24) w33_24 (by decide); have := lv_neT (a := 25) w33_25 (by decide); have := lv_neT (a := 26) w33_26 (by decide); have := lv_neT (a := 27) w33_27 (by decide); have := lv_neT (a := 28) w33_28 (by decide); have := lv_neT (a := 29) w33_29 (by decide); have := lv_neT (a := 30) w33_30 (by decide); have := lv_neT (a := 31) w33_31 (by decide); have := lv_neT (a := 32) w33_32 (by decide); have := lv_neT (a := 33) w33_33 (by decide); have := lv_neT (a := 34) w33_34 (by decide); have := lv_neT (a := 35) w33_35 (by decide); have := lv_neT (a := 36) w33_36 (by decide); have := lv_neT (a := 37) w33_37 (by decide); omega) (by decide) ?_
      refine xg_iinc (pc := 1385) (y := (nI i) + 6) (ls' := [some (.ref 1000), some (.ref 0), some (.ref 62), some (.int ((nI i) + 6))]) dL_law_1385 rfl rfl (show 3 < 4 by decide) rfl ?_
      refine xg_goto (pc := 1388) (tgt := 18) dL_law_1388 (by decide) ?_
      rw [show (nI i + 6 : Int32) = nI (i + 6) from nI_add i 6]
      exact HO _ _ _ _ _ _ _ I
    · skip
      refine xg_iload_n (pc := 18) dL_law_18 rfl ?_
      refine xg_aload_n (pc := 19) dL_law_19 rfl ?_
      refine xg_slen (pc := 20) dL_law_20 ?_
      refine xg_bipush (v := 6) (pc := 21) dL_law_21 (by decide) ?_
      refine xg_isub (pc := 23) dL_law_23 ?_
      refine xg_icmp_gt (pc := 24) (tgt := 1391) dL_law_24 (by decide) (fun c_24 => ?_) (fun c_24 => absurd c_24 (fun z => z (gt6 (by omega) ⟨hi4, by omega⟩)))
      refine xg_iconst (v := 1) (pc := 1391) dL_law_1391 (by decide) ?_
      exact xg_zret (pc := 1392) (ty := .boolean) dL_law_1392 rfl rfl (rfl)
end
