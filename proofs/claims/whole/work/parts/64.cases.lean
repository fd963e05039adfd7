/-! THE LAW: a case each -/
section CASES
variable {G : zG} {A : zQs} {I : zI} {L : zJ} {Q : zP} {i : Nat}
theorem lc_0 (ho : Ao A) (pc : PicC A I) (pm : PicM A I) (hi : i + 5 ≤ gsL G) (hs : gsL G ≤ 320) (hq : ∀ (A': zQs) (I' : zI) (L' : zJ), Ao A' → PicC A' I' → PicM A' I' → Zp G 229 1504 [some (.ref 1000000), some (.ref 0), some (.ref 93), some (.int (nI i))] [] I' L' Q) : Zp G 229 216 [some (.ref 1000000), some (.ref 0), some (.ref 93), some (.int (nI i))] [] I L Q := by
  obtain ⟨v, A2, ho2, hc, hm⟩ := B_feed (G := G) (x := gxs G (i + 1)) ho
  refine Zp.aload_n k_229_216 rfl ?_
  refine Zp.arg 1 k_229_217 k_229_218 k_229_219 k_229_220 k_229_221 rfl (by decide) (by omega) hs ?_
  refine Zp.callv1I v_74 k_229_222 m_0 (Nat.le_of_ble_eq_true rfl) (Nat.le_of_ble_eq_true rfl) ?_
  refine Zm.mono (fun r I1 L1 q => ?_) (Zm.int vr_74 (hc I L (fun r I1 L1 => r = some v ∧ PicC A2 I1 ∧ FrC I I1) pc (fun I1 p1 f1 => ⟨rfl, p1, f1⟩)))
  obtain ⟨⟨x, rfl⟩, e, pc2, fc⟩ := q
  have e2 := Option.some.inj e
  subst e2
  refine ⟨x, rfl, ?_⟩
  have pm1 := pm.fc fc
  refine Zp.aload_n k_229_225 rfl ?_
  refine Zp.arg 1 k_229_226 k_229_227 k_229_228 k_229_229 k_229_230 rfl (by decide) (by omega) hs ?_
  refine Zp.callv1I v_135 k_229_231 m_93 (Nat.le_of_ble_eq_true rfl) (Nat.le_of_ble_eq_true rfl) ?_
  refine Zm.mono (fun r I2 L2 q => ?_) (hm I1 L1 (fun r I2 L2 => r = some (.int x) ∧ PicM A2 I2 ∧ FrM I1 I2) pm1 (fun I2 L2 p2 f2 => ⟨rfl, p2, f2⟩))
  obtain ⟨rfl, pm2, fm⟩ := q
  refine ⟨x, rfl, ?_⟩
  refine Zp.icmp_eq k_229_234 (fun _ => hq A2 I2 L2 ho2 (pc2.fm fm) pm2) (fun z => absurd rfl z)
theorem lc_1 (ho : Ao A) (pc : PicC A I) (pm : PicM A I) (hi : i + 5 ≤ gsL G) (hs : gsL G ≤ 320) (hq : ∀ (A': zQs) (I' : zI) (L' : zJ), Ao A' → PicC A' I' → PicM A' I' → Zp G 229 1504 [some (.ref 1000000), some (.ref 0), some (.ref 93), some (.int (nI i))] [] I' L' Q) : Zp G 229 239 [some (.ref 1000000), some (.ref 0), some (.ref 93), some (.int (nI i))] [] I L Q := by
  obtain ⟨v, A2, ho2, hc, hm⟩ := B_end (G := G) (x := gxs G (i + 1)) ho
  refine Zp.aload_n k_229_239 rfl ?_
  refine Zp.arg 1 k_229_240 k_229_241 k_229_242 k_229_243 k_229_244 rfl (by decide) (by omega) hs ?_
  refine Zp.callv1I v_75 k_229_245 m_0 (Nat.le_of_ble_eq_true rfl) (Nat.le_of_ble_eq_true rfl) ?_
  refine Zm.mono (fun r I1 L1 q => ?_) (Zm.int vr_75 (hc I L (fun r I1 L1 => r = some v ∧ PicC A2 I1 ∧ FrC I I1) pc (fun I1 p1 f1 => ⟨rfl, p1, f1⟩)))
  obtain ⟨⟨x, rfl⟩, e, pc2, fc⟩ := q
  have e2 := Option.some.inj e
  subst e2
  refine ⟨x, rfl, ?_⟩
  have pm1 := pm.fc fc
  refine Zp.aload_n k_229_248 rfl ?_
  refine Zp.arg 1 k_229_249 k_229_250 k_229_251 k_229_252 k_229_253 rfl (by decide) (by omega) hs ?_
  refine Zp.callv1I v_136 k_229_254 m_93 (Nat.le_of_ble_eq_true rfl) (Nat.le_of_ble_eq_true rfl) ?_
  refine Zm.mono (fun r I2 L2 q => ?_) (hm I1 L1 (fun r I2 L2 => r = some (.int x) ∧ PicM A2 I2 ∧ FrM I1 I2) pm1 (fun I2 L2 p2 f2 => ⟨rfl, p2, f2⟩))
  obtain ⟨rfl, pm2, fm⟩ := q
  refine ⟨x, rfl, ?_⟩
  refine Zp.icmp_eq k_229_257 (fun _ => hq A2 I2 L2 ho2 (pc2.fm fm) pm2) (fun z => absurd rfl z)
theorem lc_2 (ho : Ao A) (pc : PicC A I) (pm : PicM A I) (hi : i + 5 ≤ gsL G) (hs : gsL G ≤ 320) (hq : ∀ (A': zQs) (I' : zI) (L' : zJ), Ao A' → PicC A' I' → PicM A' I' → Zp G 229 1504 [some (.ref 1000000), some (.ref 0), some (.ref 93), some (.int (nI i))] [] I' L' Q) : Zp G 229 262 [some (.ref 1000000), some (.ref 0), some (.ref 93), some (.int (nI i))] [] I L Q := by
  obtain ⟨v, A2, ho2, hc, hm⟩ := B_text (G := G)  ho
  refine Zp.aload_n k_229_262 rfl ?_
  refine Zp.callv0I v_76 k_229_263 m_0 (Nat.le_of_ble_eq_true rfl) (Nat.le_of_ble_eq_true rfl) ?_
  refine Zm.mono (fun r I1 L1 q => ?_) (Zm.int vr_76 (hc I L (fun r I1 L1 => r = some v ∧ PicC A2 I1 ∧ FrC I I1) pc (fun I1 p1 f1 => ⟨rfl, p1, f1⟩)))
  obtain ⟨⟨x, rfl⟩, e, pc2, fc⟩ := q
  have e2 := Option.some.inj e
  subst e2
  refine ⟨x, rfl, ?_⟩
  have pm1 := pm.fc fc
  refine Zp.aload_n k_229_266 rfl ?_
  refine Zp.callv0I v_153 k_229_267 m_93 (Nat.le_of_ble_eq_true rfl) (Nat.le_of_ble_eq_true rfl) ?_
  refine Zm.mono (fun r I2 L2 q => ?_) (hm I1 L1 (fun r I2 L2 => r = some (.int x) ∧ PicM A2 I2 ∧ FrM I1 I2) pm1 (fun I2 L2 p2 f2 => ⟨rfl, p2, f2⟩))
  obtain ⟨rfl, pm2, fm⟩ := q
  refine ⟨x, rfl, ?_⟩
  refine Zp.icmp_eq k_229_270 (fun _ => hq A2 I2 L2 ho2 (pc2.fm fm) pm2) (fun z => absurd rfl z)
theorem lc_3 (ho : Ao A) (pc : PicC A I) (pm : PicM A I) (hi : i + 5 ≤ gsL G) (hs : gsL G ≤ 320) (hq : ∀ (A': zQs) (I' : zI) (L' : zJ), Ao A' → PicC A' I' → PicM A' I' → Zp G 229 1504 [some (.ref 1000000), some (.ref 0), some (.ref 93), some (.int (nI i))] [] I' L' Q) : Zp G 229 275 [some (.ref 1000000), some (.ref 0), some (.ref 93), some (.int (nI i))] [] I L Q := by
  obtain ⟨v, A2, ho2, hc, hm⟩ := B_fault (G := G)  ho
  refine Zp.aload_n k_229_275 rfl ?_
  refine Zp.callv0I v_77 k_229_276 m_0 (Nat.le_of_ble_eq_true rfl) (Nat.le_of_ble_eq_true rfl) ?_
  refine Zm.mono (fun r I1 L1 q => ?_) (Zm.int vr_77 (hc I L (fun r I1 L1 => r = some v ∧ PicC A2 I1 ∧ FrC I I1) pc (fun I1 p1 f1 => ⟨rfl, p1, f1⟩)))
  obtain ⟨⟨x, rfl⟩, e, pc2, fc⟩ := q
  have e2 := Option.some.inj e
  subst e2
  refine ⟨x, rfl, ?_⟩
  have pm1 := pm.fc fc
  refine Zp.aload_n k_229_279 rfl ?_
  refine Zp.callv0I v_154 k_229_280 m_93 (Nat.le_of_ble_eq_true rfl) (Nat.le_of_ble_eq_true rfl) ?_
  refine Zm.mono (fun r I2 L2 q => ?_) (hm I1 L1 (fun r I2 L2 => r = some (.int x) ∧ PicM A2 I2 ∧ FrM I1 I2) pm1 (fun I2 L2 p2 f2 => ⟨rfl, p2, f2⟩))
  obtain ⟨rfl, pm2, fm⟩ := q
  refine ⟨x, rfl, ?_⟩
  refine Zp.icmp_eq k_229_283 (fun _ => hq A2 I2 L2 ho2 (pc2.fm fm) pm2) (fun z => absurd rfl z)
theorem lc_4 (ho : Ao A) (pc : PicC A I) (pm : PicM A I) (hi : i + 5 ≤ gsL G) (hs : gsL G ≤ 320) (hq : ∀ (A': zQs) (I' : zI) (L' : zJ), Ao A' → PicC A' I' → PicM A' I' → Zp G 229 1504 [some (.ref 1000000), some (.ref 0), some (.ref 93), some (.int (nI i))] [] I' L' Q) : Zp G 229 288 [some (.ref 1000000), some (.ref 0), some (.ref 93), some (.int (nI i))] [] I L Q := by
  obtain ⟨v, A2, ho2, hc, hm⟩ := B_rule (G := G) (x := gxs G (i + 1)) ho
  refine Zp.aload_n k_229_288 rfl ?_
  refine Zp.arg 1 k_229_289 k_229_290 k_229_291 k_229_292 k_229_293 rfl (by decide) (by omega) hs ?_
  refine Zp.callv1I v_78 k_229_294 m_0 (Nat.le_of_ble_eq_true rfl) (Nat.le_of_ble_eq_true rfl) ?_
  refine Zm.mono (fun r I1 L1 q => ?_) (Zm.int vr_78 (hc I L (fun r I1 L1 => r = some v ∧ PicC A2 I1 ∧ FrC I I1) pc (fun I1 p1 f1 => ⟨rfl, p1, f1⟩)))
  obtain ⟨⟨x, rfl⟩, e, pc2, fc⟩ := q
  have e2 := Option.some.inj e
  subst e2
  refine ⟨x, rfl, ?_⟩
  have pm1 := pm.fc fc
  refine Zp.aload_n k_229_297 rfl ?_
  refine Zp.arg 1 k_229_298 k_229_299 k_229_300 k_229_301 k_229_302 rfl (by decide) (by omega) hs ?_
  refine Zp.callv1I v_172 k_229_303 m_93 (Nat.le_of_ble_eq_true rfl) (Nat.le_of_ble_eq_true rfl) ?_
  refine Zm.mono (fun r I2 L2 q => ?_) (hm I1 L1 (fun r I2 L2 => r = some (.int x) ∧ PicM A2 I2 ∧ FrM I1 I2) pm1 (fun I2 L2 p2 f2 => ⟨rfl, p2, f2⟩))
  obtain ⟨rfl, pm2, fm⟩ := q
  refine ⟨x, rfl, ?_⟩
  refine Zp.icmp_eq k_229_306 (fun _ => hq A2 I2 L2 ho2 (pc2.fm fm) pm2) (fun z => absurd rfl z)
theorem lc_5 (ho : Ao A) (pc : PicC A I) (pm : PicM A I) (hi : i + 5 ≤ gsL G) (hs : gsL G ≤ 320) (hq : ∀ (A': zQs) (I' : zI) (L' : zJ), Ao A' → PicC A' I' → PicM A' I' → Zp G 229 1504 [some (.ref 1000000), some (.ref 0), some (.ref 93), some (.int (nI i))] [] I' L' Q) : Zp G 229 311 [some (.ref 1000000), some (.ref 0), some (.ref 93), some (.int (nI i))] [] I L Q := by
  obtain ⟨v, A2, ho2, hc, hm⟩ := B_helper (G := G) (x := gxs G (i + 1)) ho
  refine Zp.aload_n k_229_311 rfl ?_
  refine Zp.arg 1 k_229_312 k_229_313 k_229_314 k_229_315 k_229_316 rfl (by decide) (by omega) hs ?_
  refine Zp.callv1I v_79 k_229_317 m_0 (Nat.le_of_ble_eq_true rfl) (Nat.le_of_ble_eq_true rfl) ?_
  refine Zm.mono (fun r I1 L1 q => ?_) (Zm.int vr_79 (hc I L (fun r I1 L1 => r = some v ∧ PicC A2 I1 ∧ FrC I I1) pc (fun I1 p1 f1 => ⟨rfl, p1, f1⟩)))
  obtain ⟨⟨x, rfl⟩, e, pc2, fc⟩ := q
  have e2 := Option.some.inj e
  subst e2
  refine ⟨x, rfl, ?_⟩
  have pm1 := pm.fc fc
  refine Zp.aload_n k_229_320 rfl ?_
  refine Zp.arg 1 k_229_321 k_229_322 k_229_323 k_229_324 k_229_325 rfl (by decide) (by omega) hs ?_
  refine Zp.callv1I v_173 k_229_326 m_93 (Nat.le_of_ble_eq_true rfl) (Nat.le_of_ble_eq_true rfl) ?_
  refine Zm.mono (fun r I2 L2 q => ?_) (hm I1 L1 (fun r I2 L2 => r = some (.int x) ∧ PicM A2 I2 ∧ FrM I1 I2) pm1 (fun I2 L2 p2 f2 => ⟨rfl, p2, f2⟩))
  obtain ⟨rfl, pm2, fm⟩ := q
  refine ⟨x, rfl, ?_⟩
  refine Zp.icmp_eq k_229_329 (fun _ => hq A2 I2 L2 ho2 (pc2.fm fm) pm2) (fun z => absurd rfl z)
theorem lc_6 (ho : Ao A) (pc : PicC A I) (pm : PicM A I) (hi : i + 5 ≤ gsL G) (hs : gsL G ≤ 320) (hq : ∀ (A': zQs) (I' : zI) (L' : zJ), Ao A' → PicC A' I' → PicM A' I' → Zp G 229 1504 [some (.ref 1000000), some (.ref 0), some (.ref 93), some (.int (nI i))] [] I' L' Q) : Zp G 229 334 [some (.ref 1000000), some (.ref 0), some (.ref 93), some (.int (nI i))] [] I L Q := by
  obtain ⟨v, A2, ho2, hc, hm⟩ := B_hatred (G := G) (x := gxs G (i + 1)) (y := gxs G (i + 2)) (z := gxs G (i + 3)) ho
  refine Zp.aload_n k_229_334 rfl ?_
  refine Zp.arg 1 k_229_335 k_229_336 k_229_337 k_229_338 k_229_339 rfl (by decide) (by omega) hs ?_
  refine Zp.arg 2 k_229_340 k_229_341 k_229_342 k_229_343 k_229_344 rfl (by decide) (by omega) hs ?_
  refine Zp.arg 3 k_229_345 k_229_346 k_229_347 k_229_348 k_229_349 rfl (by decide) (by omega) hs ?_
  refine Zp.callv3I v_80 k_229_350 m_0 (Nat.le_of_ble_eq_true rfl) (Nat.le_of_ble_eq_true rfl) ?_
  refine Zm.mono (fun r I1 L1 q => ?_) (Zm.int vr_80 (hc I L (fun r I1 L1 => r = some v ∧ PicC A2 I1 ∧ FrC I I1) pc (fun I1 p1 f1 => ⟨rfl, p1, f1⟩)))
  obtain ⟨⟨x, rfl⟩, e, pc2, fc⟩ := q
  have e2 := Option.some.inj e
  subst e2
  refine ⟨x, rfl, ?_⟩
  have pm1 := pm.fc fc
  refine Zp.aload_n k_229_353 rfl ?_
  refine Zp.arg 1 k_229_354 k_229_355 k_229_356 k_229_357 k_229_358 rfl (by decide) (by omega) hs ?_
  refine Zp.arg 2 k_229_359 k_229_360 k_229_361 k_229_362 k_229_363 rfl (by decide) (by omega) hs ?_
  refine Zp.arg 3 k_229_364 k_229_365 k_229_366 k_229_367 k_229_368 rfl (by decide) (by omega) hs ?_
  refine Zp.callv3I v_174 k_229_369 m_93 (Nat.le_of_ble_eq_true rfl) (Nat.le_of_ble_eq_true rfl) ?_
  refine Zm.mono (fun r I2 L2 q => ?_) (hm I1 L1 (fun r I2 L2 => r = some (.int x) ∧ PicM A2 I2 ∧ FrM I1 I2) pm1 (fun I2 L2 p2 f2 => ⟨rfl, p2, f2⟩))
  obtain ⟨rfl, pm2, fm⟩ := q
  refine ⟨x, rfl, ?_⟩
  refine Zp.icmp_eq k_229_372 (fun _ => hq A2 I2 L2 ho2 (pc2.fm fm) pm2) (fun z => absurd rfl z)
theorem lc_7 (ho : Ao A) (pc : PicC A I) (pm : PicM A I) (hi : i + 5 ≤ gsL G) (hs : gsL G ≤ 320) (hq : ∀ (A': zQs) (I' : zI) (L' : zJ), Ao A' → PicC A' I' → PicM A' I' → Zp G 229 1504 [some (.ref 1000000), some (.ref 0), some (.ref 93), some (.int (nI i))] [] I' L' Q) : Zp G 229 377 [some (.ref 1000000), some (.ref 0), some (.ref 93), some (.int (nI i))] [] I L Q := by
  obtain ⟨v, A2, ho2, hc, hm⟩ := B_slip (G := G) (x := gxs G (i + 1)) (y := gxs G (i + 2)) ho
  refine Zp.aload_n k_229_377 rfl ?_
  refine Zp.arg 1 k_229_378 k_229_379 k_229_380 k_229_381 k_229_382 rfl (by decide) (by omega) hs ?_
  refine Zp.arg 2 k_229_383 k_229_384 k_229_385 k_229_386 k_229_387 rfl (by decide) (by omega) hs ?_
  refine Zp.callv2I v_81 k_229_388 m_0 (Nat.le_of_ble_eq_true rfl) (Nat.le_of_ble_eq_true rfl) ?_
  refine Zm.mono (fun r I1 L1 q => ?_) (Zm.int vr_81 (hc I L (fun r I1 L1 => r = some v ∧ PicC A2 I1 ∧ FrC I I1) pc (fun I1 p1 f1 => ⟨rfl, p1, f1⟩)))
  obtain ⟨⟨x, rfl⟩, e, pc2, fc⟩ := q
  have e2 := Option.some.inj e
  subst e2
  refine ⟨x, rfl, ?_⟩
  have pm1 := pm.fc fc
  refine Zp.aload_n k_229_391 rfl ?_
  refine Zp.arg 1 k_229_392 k_229_393 k_229_394 k_229_395 k_229_396 rfl (by decide) (by omega) hs ?_
  refine Zp.arg 2 k_229_397 k_229_398 k_229_399 k_229_400 k_229_401 rfl (by decide) (by omega) hs ?_
  refine Zp.callv2I v_175 k_229_402 m_93 (Nat.le_of_ble_eq_true rfl) (Nat.le_of_ble_eq_true rfl) ?_
  refine Zm.mono (fun r I2 L2 q => ?_) (hm I1 L1 (fun r I2 L2 => r = some (.int x) ∧ PicM A2 I2 ∧ FrM I1 I2) pm1 (fun I2 L2 p2 f2 => ⟨rfl, p2, f2⟩))
  obtain ⟨rfl, pm2, fm⟩ := q
  refine ⟨x, rfl, ?_⟩
  refine Zp.icmp_eq k_229_405 (fun _ => hq A2 I2 L2 ho2 (pc2.fm fm) pm2) (fun z => absurd rfl z)
theorem lc_8 (ho : Ao A) (pc : PicC A I) (pm : PicM A I) (hi : i + 5 ≤ gsL G) (hs : gsL G ≤ 320) (hq : ∀ (A': zQs) (I' : zI) (L' : zJ), Ao A' → PicC A' I' → PicM A' I' → Zp G 229 1504 [some (.ref 1000000), some (.ref 0), some (.ref 93), some (.int (nI i))] [] I' L' Q) : Zp G 229 410 [some (.ref 1000000), some (.ref 0), some (.ref 93), some (.int (nI i))] [] I L Q := by
  obtain ⟨v, A2, ho2, hc, hm⟩ := B_plan (G := G) (x := gxs G (i + 1)) ho
  refine Zp.aload_n k_229_410 rfl ?_
  refine Zp.arg 1 k_229_411 k_229_412 k_229_413 k_229_414 k_229_415 rfl (by decide) (by omega) hs ?_
  refine Zp.callv1I v_82 k_229_416 m_0 (Nat.le_of_ble_eq_true rfl) (Nat.le_of_ble_eq_true rfl) ?_
  refine Zm.mono (fun r I1 L1 q => ?_) (Zm.int vr_82 (hc I L (fun r I1 L1 => r = some v ∧ PicC A2 I1 ∧ FrC I I1) pc (fun I1 p1 f1 => ⟨rfl, p1, f1⟩)))
  obtain ⟨⟨x, rfl⟩, e, pc2, fc⟩ := q
  have e2 := Option.some.inj e
  subst e2
  refine ⟨x, rfl, ?_⟩
  have pm1 := pm.fc fc
  refine Zp.aload_n k_229_419 rfl ?_
  refine Zp.arg 1 k_229_420 k_229_421 k_229_422 k_229_423 k_229_424 rfl (by decide) (by omega) hs ?_
  refine Zp.callv1I v_176 k_229_425 m_93 (Nat.le_of_ble_eq_true rfl) (Nat.le_of_ble_eq_true rfl) ?_
  refine Zm.mono (fun r I2 L2 q => ?_) (hm I1 L1 (fun r I2 L2 => r = some (.int x) ∧ PicM A2 I2 ∧ FrM I1 I2) pm1 (fun I2 L2 p2 f2 => ⟨rfl, p2, f2⟩))
  obtain ⟨rfl, pm2, fm⟩ := q
  refine ⟨x, rfl, ?_⟩
  refine Zp.icmp_eq k_229_428 (fun _ => hq A2 I2 L2 ho2 (pc2.fm fm) pm2) (fun z => absurd rfl z)
theorem lc_9 (ho : Ao A) (pc : PicC A I) (pm : PicM A I) (hi : i + 5 ≤ gsL G) (hs : gsL G ≤ 320) (hq : ∀ (A': zQs) (I' : zI) (L' : zJ), Ao A' → PicC A' I' → PicM A' I' → Zp G 229 1504 [some (.ref 1000000), some (.ref 0), some (.ref 93), some (.int (nI i))] [] I' L' Q) : Zp G 229 433 [some (.ref 1000000), some (.ref 0), some (.ref 93), some (.int (nI i))] [] I L Q := by
  obtain ⟨v, A2, ho2, hc, hm⟩ := B_hate (G := G) (x := gxs G (i + 1)) (y := gxs G (i + 2)) (z := gxs G (i + 3)) ho
  refine Zp.aload_n k_229_433 rfl ?_
  refine Zp.arg 1 k_229_434 k_229_435 k_229_436 k_229_437 k_229_438 rfl (by decide) (by omega) hs ?_
  refine Zp.arg 2 k_229_439 k_229_440 k_229_441 k_229_442 k_229_443 rfl (by decide) (by omega) hs ?_
  refine Zp.arg 3 k_229_444 k_229_445 k_229_446 k_229_447 k_229_448 rfl (by decide) (by omega) hs ?_
  refine Zp.callv3I v_83 k_229_449 m_0 (Nat.le_of_ble_eq_true rfl) (Nat.le_of_ble_eq_true rfl) ?_
  refine Zm.mono (fun r I1 L1 q => ?_) (Zm.int vr_83 (hc I L (fun r I1 L1 => r = some v ∧ PicC A2 I1 ∧ FrC I I1) pc (fun I1 p1 f1 => ⟨rfl, p1, f1⟩)))
  obtain ⟨⟨x, rfl⟩, e, pc2, fc⟩ := q
  have e2 := Option.some.inj e
  subst e2
  refine ⟨x, rfl, ?_⟩
  have pm1 := pm.fc fc
  refine Zp.aload_n k_229_452 rfl ?_
  refine Zp.arg 1 k_229_453 k_229_454 k_229_455 k_229_456 k_229_457 rfl (by decide) (by omega) hs ?_
  refine Zp.arg 2 k_229_458 k_229_459 k_229_460 k_229_461 k_229_462 rfl (by decide) (by omega) hs ?_
  refine Zp.arg 3 k_229_463 k_229_464 k_229_465 k_229_466 k_229_467 rfl (by decide) (by omega) hs ?_
  refine Zp.callv3I v_178 k_229_468 m_93 (Nat.le_of_ble_eq_true rfl) (Nat.le_of_ble_eq_true rfl) ?_
  refine Zm.mono (fun r I2 L2 q => ?_) (hm I1 L1 (fun r I2 L2 => r = some (.int x) ∧ PicM A2 I2 ∧ FrM I1 I2) pm1 (fun I2 L2 p2 f2 => ⟨rfl, p2, f2⟩))
  obtain ⟨rfl, pm2, fm⟩ := q
  refine ⟨x, rfl, ?_⟩
  refine Zp.icmp_eq k_229_471 (fun _ => hq A2 I2 L2 ho2 (pc2.fm fm) pm2) (fun z => absurd rfl z)
theorem lc_10 (ho : Ao A) (pc : PicC A I) (pm : PicM A I) (hi : i + 5 ≤ gsL G) (hs : gsL G ≤ 320) (hq : ∀ (A': zQs) (I' : zI) (L' : zJ), Ao A' → PicC A' I' → PicM A' I' → Zp G 229 1504 [some (.ref 1000000), some (.ref 0), some (.ref 93), some (.int (nI i))] [] I' L' Q) : Zp G 229 476 [some (.ref 1000000), some (.ref 0), some (.ref 93), some (.int (nI i))] [] I L Q := by
  obtain ⟨v, A2, ho2, hc, hm⟩ := B_use (G := G) (x := gxs G (i + 1)) ho
  refine Zp.aload_n k_229_476 rfl ?_
  refine Zp.arg 1 k_229_477 k_229_478 k_229_479 k_229_480 k_229_481 rfl (by decide) (by omega) hs ?_
  refine Zp.callv1I v_84 k_229_482 m_0 (Nat.le_of_ble_eq_true rfl) (Nat.le_of_ble_eq_true rfl) ?_
  refine Zm.mono (fun r I1 L1 q => ?_) (Zm.int vr_84 (hc I L (fun r I1 L1 => r = some v ∧ PicC A2 I1 ∧ FrC I I1) pc (fun I1 p1 f1 => ⟨rfl, p1, f1⟩)))
  obtain ⟨⟨x, rfl⟩, e, pc2, fc⟩ := q
  have e2 := Option.some.inj e
  subst e2
  refine ⟨x, rfl, ?_⟩
  have pm1 := pm.fc fc
  refine Zp.aload_n k_229_485 rfl ?_
  refine Zp.arg 1 k_229_486 k_229_487 k_229_488 k_229_489 k_229_490 rfl (by decide) (by omega) hs ?_
  refine Zp.callv1I v_180 k_229_491 m_93 (Nat.le_of_ble_eq_true rfl) (Nat.le_of_ble_eq_true rfl) ?_
  refine Zm.mono (fun r I2 L2 q => ?_) (hm I1 L1 (fun r I2 L2 => r = some (.int x) ∧ PicM A2 I2 ∧ FrM I1 I2) pm1 (fun I2 L2 p2 f2 => ⟨rfl, p2, f2⟩))
  obtain ⟨rfl, pm2, fm⟩ := q
  refine ⟨x, rfl, ?_⟩
  refine Zp.icmp_eq k_229_494 (fun _ => hq A2 I2 L2 ho2 (pc2.fm fm) pm2) (fun z => absurd rfl z)
theorem lc_11 (ho : Ao A) (pc : PicC A I) (pm : PicM A I) (hi : i + 5 ≤ gsL G) (hs : gsL G ≤ 320) (hq : ∀ (A': zQs) (I' : zI) (L' : zJ), Ao A' → PicC A' I' → PicM A' I' → Zp G 229 1504 [some (.ref 1000000), some (.ref 0), some (.ref 93), some (.int (nI i))] [] I' L' Q) : Zp G 229 499 [some (.ref 1000000), some (.ref 0), some (.ref 93), some (.int (nI i))] [] I L Q := by
  obtain ⟨v, A2, ho2, hc, hm⟩ := B_tell (G := G) (x := gxs G (i + 1)) (y := gxs G (i + 2)) ho
  refine Zp.aload_n k_229_499 rfl ?_
  refine Zp.arg 1 k_229_500 k_229_501 k_229_502 k_229_503 k_229_504 rfl (by decide) (by omega) hs ?_
  refine Zp.arg 2 k_229_505 k_229_506 k_229_507 k_229_508 k_229_509 rfl (by decide) (by omega) hs ?_
  refine Zp.callv2I v_85 k_229_510 m_0 (Nat.le_of_ble_eq_true rfl) (Nat.le_of_ble_eq_true rfl) ?_
  refine Zm.mono (fun r I1 L1 q => ?_) (Zm.int vr_85 (hc I L (fun r I1 L1 => r = some v ∧ PicC A2 I1 ∧ FrC I I1) pc (fun I1 p1 f1 => ⟨rfl, p1, f1⟩)))
  obtain ⟨⟨x, rfl⟩, e, pc2, fc⟩ := q
  have e2 := Option.some.inj e
  subst e2
  refine ⟨x, rfl, ?_⟩
  have pm1 := pm.fc fc
  refine Zp.aload_n k_229_513 rfl ?_
  refine Zp.arg 1 k_229_514 k_229_515 k_229_516 k_229_517 k_229_518 rfl (by decide) (by omega) hs ?_
  refine Zp.arg 2 k_229_519 k_229_520 k_229_521 k_229_522 k_229_523 rfl (by decide) (by omega) hs ?_
  refine Zp.callv2I v_181 k_229_524 m_93 (Nat.le_of_ble_eq_true rfl) (Nat.le_of_ble_eq_true rfl) ?_
  refine Zm.mono (fun r I2 L2 q => ?_) (hm I1 L1 (fun r I2 L2 => r = some (.int x) ∧ PicM A2 I2 ∧ FrM I1 I2) pm1 (fun I2 L2 p2 f2 => ⟨rfl, p2, f2⟩))
  obtain ⟨rfl, pm2, fm⟩ := q
  refine ⟨x, rfl, ?_⟩
  refine Zp.icmp_eq k_229_527 (fun _ => hq A2 I2 L2 ho2 (pc2.fm fm) pm2) (fun z => absurd rfl z)
theorem lc_12 (ho : Ao A) (pc : PicC A I) (pm : PicM A I) (hi : i + 5 ≤ gsL G) (hs : gsL G ≤ 320) (hq : ∀ (A': zQs) (I' : zI) (L' : zJ), Ao A' → PicC A' I' → PicM A' I' → Zp G 229 1504 [some (.ref 1000000), some (.ref 0), some (.ref 93), some (.int (nI i))] [] I' L' Q) : Zp G 229 532 [some (.ref 1000000), some (.ref 0), some (.ref 93), some (.int (nI i))] [] I L Q := by
  obtain ⟨v, A2, ho2, hc, hm⟩ := B_forgive (G := G) (x := gxs G (i + 1)) ho
  refine Zp.aload_n k_229_532 rfl ?_
  refine Zp.arg 1 k_229_533 k_229_534 k_229_535 k_229_536 k_229_537 rfl (by decide) (by omega) hs ?_
  refine Zp.callv1I v_86 k_229_538 m_0 (Nat.le_of_ble_eq_true rfl) (Nat.le_of_ble_eq_true rfl) ?_
  refine Zm.mono (fun r I1 L1 q => ?_) (Zm.int vr_86 (hc I L (fun r I1 L1 => r = some v ∧ PicC A2 I1 ∧ FrC I I1) pc (fun I1 p1 f1 => ⟨rfl, p1, f1⟩)))
  obtain ⟨⟨x, rfl⟩, e, pc2, fc⟩ := q
  have e2 := Option.some.inj e
  subst e2
  refine ⟨x, rfl, ?_⟩
  have pm1 := pm.fc fc
  refine Zp.aload_n k_229_541 rfl ?_
  refine Zp.arg 1 k_229_542 k_229_543 k_229_544 k_229_545 k_229_546 rfl (by decide) (by omega) hs ?_
  refine Zp.callv1I v_182 k_229_547 m_93 (Nat.le_of_ble_eq_true rfl) (Nat.le_of_ble_eq_true rfl) ?_
  refine Zm.mono (fun r I2 L2 q => ?_) (hm I1 L1 (fun r I2 L2 => r = some (.int x) ∧ PicM A2 I2 ∧ FrM I1 I2) pm1 (fun I2 L2 p2 f2 => ⟨rfl, p2, f2⟩))
  obtain ⟨rfl, pm2, fm⟩ := q
  refine ⟨x, rfl, ?_⟩
  refine Zp.icmp_eq k_229_550 (fun _ => hq A2 I2 L2 ho2 (pc2.fm fm) pm2) (fun z => absurd rfl z)
theorem lc_13 (ho : Ao A) (pc : PicC A I) (pm : PicM A I) (hi : i + 5 ≤ gsL G) (hs : gsL G ≤ 320) (hq : ∀ (A': zQs) (I' : zI) (L' : zJ), Ao A' → PicC A' I' → PicM A' I' → Zp G 229 1504 [some (.ref 1000000), some (.ref 0), some (.ref 93), some (.int (nI i))] [] I' L' Q) : Zp G 229 555 [some (.ref 1000000), some (.ref 0), some (.ref 93), some (.int (nI i))] [] I L Q := by
  obtain ⟨v, A2, ho2, hc, hm⟩ := B_teach (G := G) (x := gxs G (i + 1)) (y := gxs G (i + 2)) ho
  refine Zp.aload_n k_229_555 rfl ?_
  refine Zp.arg 1 k_229_556 k_229_557 k_229_558 k_229_559 k_229_560 rfl (by decide) (by omega) hs ?_
  refine Zp.arg 2 k_229_561 k_229_562 k_229_563 k_229_564 k_229_565 rfl (by decide) (by omega) hs ?_
  refine Zp.callv2I v_87 k_229_566 m_0 (Nat.le_of_ble_eq_true rfl) (Nat.le_of_ble_eq_true rfl) ?_
  refine Zm.mono (fun r I1 L1 q => ?_) (Zm.int vr_87 (hc I L (fun r I1 L1 => r = some v ∧ PicC A2 I1 ∧ FrC I I1) pc (fun I1 p1 f1 => ⟨rfl, p1, f1⟩)))
  obtain ⟨⟨x, rfl⟩, e, pc2, fc⟩ := q
  have e2 := Option.some.inj e
  subst e2
  refine ⟨x, rfl, ?_⟩
  have pm1 := pm.fc fc
  refine Zp.aload_n k_229_569 rfl ?_
  refine Zp.arg 1 k_229_570 k_229_571 k_229_572 k_229_573 k_229_574 rfl (by decide) (by omega) hs ?_
  refine Zp.arg 2 k_229_575 k_229_576 k_229_577 k_229_578 k_229_579 rfl (by decide) (by omega) hs ?_
  refine Zp.callv2I v_183 k_229_580 m_93 (Nat.le_of_ble_eq_true rfl) (Nat.le_of_ble_eq_true rfl) ?_
  refine Zm.mono (fun r I2 L2 q => ?_) (hm I1 L1 (fun r I2 L2 => r = some (.int x) ∧ PicM A2 I2 ∧ FrM I1 I2) pm1 (fun I2 L2 p2 f2 => ⟨rfl, p2, f2⟩))
  obtain ⟨rfl, pm2, fm⟩ := q
  refine ⟨x, rfl, ?_⟩
  refine Zp.icmp_eq k_229_583 (fun _ => hq A2 I2 L2 ho2 (pc2.fm fm) pm2) (fun z => absurd rfl z)
theorem lc_14 (ho : Ao A) (pc : PicC A I) (pm : PicM A I) (hi : i + 5 ≤ gsL G) (hs : gsL G ≤ 320) (hq : ∀ (A': zQs) (I' : zI) (L' : zJ), Ao A' → PicC A' I' → PicM A' I' → Zp G 229 1504 [some (.ref 1000000), some (.ref 0), some (.ref 93), some (.int (nI i))] [] I' L' Q) : Zp G 229 588 [some (.ref 1000000), some (.ref 0), some (.ref 93), some (.int (nI i))] [] I L Q := by
  obtain ⟨v, A2, ho2, hc, hm⟩ := B_set (G := G) (x := gxs G (i + 1)) (y := gxs G (i + 2)) ho
  refine Zp.aload_n k_229_588 rfl ?_
  refine Zp.arg 1 k_229_589 k_229_590 k_229_591 k_229_592 k_229_593 rfl (by decide) (by omega) hs ?_
  refine Zp.arg 2 k_229_594 k_229_595 k_229_596 k_229_597 k_229_598 rfl (by decide) (by omega) hs ?_
  refine Zp.callv2I v_88 k_229_599 m_0 (Nat.le_of_ble_eq_true rfl) (Nat.le_of_ble_eq_true rfl) ?_
  refine Zm.mono (fun r I1 L1 q => ?_) (Zm.int vr_88 (hc I L (fun r I1 L1 => r = some v ∧ PicC A2 I1 ∧ FrC I I1) pc (fun I1 p1 f1 => ⟨rfl, p1, f1⟩)))
  obtain ⟨⟨x, rfl⟩, e, pc2, fc⟩ := q
  have e2 := Option.some.inj e
  subst e2
  refine ⟨x, rfl, ?_⟩
  have pm1 := pm.fc fc
  refine Zp.aload_n k_229_602 rfl ?_
  refine Zp.arg 1 k_229_603 k_229_604 k_229_605 k_229_606 k_229_607 rfl (by decide) (by omega) hs ?_
  refine Zp.arg 2 k_229_608 k_229_609 k_229_610 k_229_611 k_229_612 rfl (by decide) (by omega) hs ?_
  refine Zp.callv2I v_184 k_229_613 m_93 (Nat.le_of_ble_eq_true rfl) (Nat.le_of_ble_eq_true rfl) ?_
  refine Zm.mono (fun r I2 L2 q => ?_) (hm I1 L1 (fun r I2 L2 => r = some (.int x) ∧ PicM A2 I2 ∧ FrM I1 I2) pm1 (fun I2 L2 p2 f2 => ⟨rfl, p2, f2⟩))
  obtain ⟨rfl, pm2, fm⟩ := q
  refine ⟨x, rfl, ?_⟩
  refine Zp.icmp_eq k_229_616 (fun _ => hq A2 I2 L2 ho2 (pc2.fm fm) pm2) (fun z => absurd rfl z)
theorem lc_15 (ho : Ao A) (pc : PicC A I) (pm : PicM A I) (hi : i + 5 ≤ gsL G) (hs : gsL G ≤ 320) (hq : ∀ (A': zQs) (I' : zI) (L' : zJ), Ao A' → PicC A' I' → PicM A' I' → Zp G 229 1504 [some (.ref 1000000), some (.ref 0), some (.ref 93), some (.int (nI i))] [] I' L' Q) : Zp G 229 621 [some (.ref 1000000), some (.ref 0), some (.ref 93), some (.int (nI i))] [] I L Q := by
  obtain ⟨v, A2, ho2, hc, hm⟩ := B_plans (G := G) (x := gxs G (i + 1)) (y := gxs G (i + 2)) ho
  refine Zp.aload_n k_229_621 rfl ?_
  refine Zp.arg 1 k_229_622 k_229_623 k_229_624 k_229_625 k_229_626 rfl (by decide) (by omega) hs ?_
  refine Zp.arg 2 k_229_627 k_229_628 k_229_629 k_229_630 k_229_631 rfl (by decide) (by omega) hs ?_
  refine Zp.callv2I v_91 k_229_632 m_0 (Nat.le_of_ble_eq_true rfl) (Nat.le_of_ble_eq_true rfl) ?_
  refine Zm.mono (fun r I1 L1 q => ?_) (Zm.int vr_91 (hc I L (fun r I1 L1 => r = some v ∧ PicC A2 I1 ∧ FrC I I1) pc (fun I1 p1 f1 => ⟨rfl, p1, f1⟩)))
  obtain ⟨⟨x, rfl⟩, e, pc2, fc⟩ := q
  have e2 := Option.some.inj e
  subst e2
  refine ⟨x, rfl, ?_⟩
  have pm1 := pm.fc fc
  refine Zp.aload_n k_229_635 rfl ?_
  refine Zp.arg 1 k_229_636 k_229_637 k_229_638 k_229_639 k_229_640 rfl (by decide) (by omega) hs ?_
  refine Zp.arg 2 k_229_641 k_229_642 k_229_643 k_229_644 k_229_645 rfl (by decide) (by omega) hs ?_
  refine Zp.callv2I v_185 k_229_646 m_93 (Nat.le_of_ble_eq_true rfl) (Nat.le_of_ble_eq_true rfl) ?_
  refine Zm.mono (fun r I2 L2 q => ?_) (hm I1 L1 (fun r I2 L2 => r = some (.int x) ∧ PicM A2 I2 ∧ FrM I1 I2) pm1 (fun I2 L2 p2 f2 => ⟨rfl, p2, f2⟩))
  obtain ⟨rfl, pm2, fm⟩ := q
  refine ⟨x, rfl, ?_⟩
  refine Zp.icmp_eq k_229_649 (fun _ => hq A2 I2 L2 ho2 (pc2.fm fm) pm2) (fun z => absurd rfl z)
theorem lc_16 (ho : Ao A) (pc : PicC A I) (pm : PicM A I) (hi : i + 5 ≤ gsL G) (hs : gsL G ≤ 320) (hq : ∀ (A': zQs) (I' : zI) (L' : zJ), Ao A' → PicC A' I' → PicM A' I' → Zp G 229 1504 [some (.ref 1000000), some (.ref 0), some (.ref 93), some (.int (nI i))] [] I' L' Q) : Zp G 229 654 [some (.ref 1000000), some (.ref 0), some (.ref 93), some (.int (nI i))] [] I L Q := by
  obtain ⟨v, A2, ho2, hc, hm⟩ := B_cut (G := G) (x := gxs G (i + 1)) ho
  refine Zp.aload_n k_229_654 rfl ?_
  refine Zp.arg 1 k_229_655 k_229_656 k_229_657 k_229_658 k_229_659 rfl (by decide) (by omega) hs ?_
  refine Zp.callv1I v_92 k_229_660 m_0 (Nat.le_of_ble_eq_true rfl) (Nat.le_of_ble_eq_true rfl) ?_
  refine Zm.mono (fun r I1 L1 q => ?_) (Zm.int vr_92 (hc I L (fun r I1 L1 => r = some v ∧ PicC A2 I1 ∧ FrC I I1) pc (fun I1 p1 f1 => ⟨rfl, p1, f1⟩)))
  obtain ⟨⟨x, rfl⟩, e, pc2, fc⟩ := q
  have e2 := Option.some.inj e
  subst e2
  refine ⟨x, rfl, ?_⟩
  have pm1 := pm.fc fc
  refine Zp.aload_n k_229_663 rfl ?_
  refine Zp.arg 1 k_229_664 k_229_665 k_229_666 k_229_667 k_229_668 rfl (by decide) (by omega) hs ?_
  refine Zp.callv1I v_186 k_229_669 m_93 (Nat.le_of_ble_eq_true rfl) (Nat.le_of_ble_eq_true rfl) ?_
  refine Zm.mono (fun r I2 L2 q => ?_) (hm I1 L1 (fun r I2 L2 => r = some (.int x) ∧ PicM A2 I2 ∧ FrM I1 I2) pm1 (fun I2 L2 p2 f2 => ⟨rfl, p2, f2⟩))
  obtain ⟨rfl, pm2, fm⟩ := q
  refine ⟨x, rfl, ?_⟩
  refine Zp.icmp_eq k_229_672 (fun _ => hq A2 I2 L2 ho2 (pc2.fm fm) pm2) (fun z => absurd rfl z)
theorem lc_17 (ho : Ao A) (pc : PicC A I) (pm : PicM A I) (hi : i + 5 ≤ gsL G) (hs : gsL G ≤ 320) (hq : ∀ (A': zQs) (I' : zI) (L' : zJ), Ao A' → PicC A' I' → PicM A' I' → Zp G 229 1504 [some (.ref 1000000), some (.ref 0), some (.ref 93), some (.int (nI i))] [] I' L' Q) : Zp G 229 677 [some (.ref 1000000), some (.ref 0), some (.ref 93), some (.int (nI i))] [] I L Q := by
  obtain ⟨v, A2, ho2, hc, hm⟩ := B_turn (G := G) (x := gxs G (i + 1)) (y := gxs G (i + 2)) ho
  refine Zp.aload_n k_229_677 rfl ?_
  refine Zp.arg 1 k_229_678 k_229_679 k_229_680 k_229_681 k_229_682 rfl (by decide) (by omega) hs ?_
  refine Zp.arg 2 k_229_683 k_229_684 k_229_685 k_229_686 k_229_687 rfl (by decide) (by omega) hs ?_
  refine Zp.callv2I v_93 k_229_688 m_0 (Nat.le_of_ble_eq_true rfl) (Nat.le_of_ble_eq_true rfl) ?_
  refine Zm.mono (fun r I1 L1 q => ?_) (Zm.int vr_93 (hc I L (fun r I1 L1 => r = some v ∧ PicC A2 I1 ∧ FrC I I1) pc (fun I1 p1 f1 => ⟨rfl, p1, f1⟩)))
  obtain ⟨⟨x, rfl⟩, e, pc2, fc⟩ := q
  have e2 := Option.some.inj e
  subst e2
  refine ⟨x, rfl, ?_⟩
  have pm1 := pm.fc fc
  refine Zp.aload_n k_229_691 rfl ?_
  refine Zp.arg 1 k_229_692 k_229_693 k_229_694 k_229_695 k_229_696 rfl (by decide) (by omega) hs ?_
  refine Zp.arg 2 k_229_697 k_229_698 k_229_699 k_229_700 k_229_701 rfl (by decide) (by omega) hs ?_
  refine Zp.callv2I v_187 k_229_702 m_93 (Nat.le_of_ble_eq_true rfl) (Nat.le_of_ble_eq_true rfl) ?_
  refine Zm.mono (fun r I2 L2 q => ?_) (hm I1 L1 (fun r I2 L2 => r = some (.int x) ∧ PicM A2 I2 ∧ FrM I1 I2) pm1 (fun I2 L2 p2 f2 => ⟨rfl, p2, f2⟩))
  obtain ⟨rfl, pm2, fm⟩ := q
  refine ⟨x, rfl, ?_⟩
  refine Zp.icmp_eq k_229_705 (fun _ => hq A2 I2 L2 ho2 (pc2.fm fm) pm2) (fun z => absurd rfl z)
theorem lc_18 (ho : Ao A) (pc : PicC A I) (pm : PicM A I) (hi : i + 5 ≤ gsL G) (hs : gsL G ≤ 320) (hq : ∀ (A': zQs) (I' : zI) (L' : zJ), Ao A' → PicC A' I' → PicM A' I' → Zp G 229 1504 [some (.ref 1000000), some (.ref 0), some (.ref 93), some (.int (nI i))] [] I' L' Q) : Zp G 229 710 [some (.ref 1000000), some (.ref 0), some (.ref 93), some (.int (nI i))] [] I L Q := by
  obtain ⟨v, A2, ho2, hc, hm⟩ := B_stir (G := G) (x := gxs G (i + 1)) (y := gxs G (i + 2)) ho
  refine Zp.aload_n k_229_710 rfl ?_
  refine Zp.arg 1 k_229_711 k_229_712 k_229_713 k_229_714 k_229_715 rfl (by decide) (by omega) hs ?_
  refine Zp.arg 2 k_229_716 k_229_717 k_229_718 k_229_719 k_229_720 rfl (by decide) (by omega) hs ?_
  refine Zp.callv2I v_94 k_229_721 m_0 (Nat.le_of_ble_eq_true rfl) (Nat.le_of_ble_eq_true rfl) ?_
  refine Zm.mono (fun r I1 L1 q => ?_) (Zm.int vr_94 (hc I L (fun r I1 L1 => r = some v ∧ PicC A2 I1 ∧ FrC I I1) pc (fun I1 p1 f1 => ⟨rfl, p1, f1⟩)))
  obtain ⟨⟨x, rfl⟩, e, pc2, fc⟩ := q
  have e2 := Option.some.inj e
  subst e2
  refine ⟨x, rfl, ?_⟩
  have pm1 := pm.fc fc
  refine Zp.aload_n k_229_724 rfl ?_
  refine Zp.arg 1 k_229_725 k_229_726 k_229_727 k_229_728 k_229_729 rfl (by decide) (by omega) hs ?_
  refine Zp.arg 2 k_229_730 k_229_731 k_229_732 k_229_733 k_229_734 rfl (by decide) (by omega) hs ?_
  refine Zp.callv2I v_188 k_229_735 m_93 (Nat.le_of_ble_eq_true rfl) (Nat.le_of_ble_eq_true rfl) ?_
  refine Zm.mono (fun r I2 L2 q => ?_) (hm I1 L1 (fun r I2 L2 => r = some (.int x) ∧ PicM A2 I2 ∧ FrM I1 I2) pm1 (fun I2 L2 p2 f2 => ⟨rfl, p2, f2⟩))
  obtain ⟨rfl, pm2, fm⟩ := q
  refine ⟨x, rfl, ?_⟩
  refine Zp.icmp_eq k_229_738 (fun _ => hq A2 I2 L2 ho2 (pc2.fm fm) pm2) (fun z => absurd rfl z)
theorem lc_19 (ho : Ao A) (pc : PicC A I) (pm : PicM A I) (hi : i + 5 ≤ gsL G) (hs : gsL G ≤ 320) (hq : ∀ (A': zQs) (I' : zI) (L' : zJ), Ao A' → PicC A' I' → PicM A' I' → Zp G 229 1504 [some (.ref 1000000), some (.ref 0), some (.ref 93), some (.int (nI i))] [] I' L' Q) : Zp G 229 743 [some (.ref 1000000), some (.ref 0), some (.ref 93), some (.int (nI i))] [] I L Q := by
  obtain ⟨v, A2, ho2, hc, hm⟩ := B_runs (G := G) (x := gxs G (i + 1)) ho
  refine Zp.aload_n k_229_743 rfl ?_
  refine Zp.arg 1 k_229_744 k_229_745 k_229_746 k_229_747 k_229_748 rfl (by decide) (by omega) hs ?_
  refine Zp.callv1I v_95 k_229_749 m_0 (Nat.le_of_ble_eq_true rfl) (Nat.le_of_ble_eq_true rfl) ?_
  refine Zm.mono (fun r I1 L1 q => ?_) (Zm.int vr_95 (hc I L (fun r I1 L1 => r = some v ∧ PicC A2 I1 ∧ FrC I I1) pc (fun I1 p1 f1 => ⟨rfl, p1, f1⟩)))
  obtain ⟨⟨x, rfl⟩, e, pc2, fc⟩ := q
  have e2 := Option.some.inj e
  subst e2
  refine ⟨x, rfl, ?_⟩
  have pm1 := pm.fc fc
  refine Zp.aload_n k_229_752 rfl ?_
  refine Zp.arg 1 k_229_753 k_229_754 k_229_755 k_229_756 k_229_757 rfl (by decide) (by omega) hs ?_
  refine Zp.callv1I v_189 k_229_758 m_93 (Nat.le_of_ble_eq_true rfl) (Nat.le_of_ble_eq_true rfl) ?_
  refine Zm.mono (fun r I2 L2 q => ?_) (hm I1 L1 (fun r I2 L2 => r = some (.int x) ∧ PicM A2 I2 ∧ FrM I1 I2) pm1 (fun I2 L2 p2 f2 => ⟨rfl, p2, f2⟩))
  obtain ⟨rfl, pm2, fm⟩ := q
  refine ⟨x, rfl, ?_⟩
  refine Zp.icmp_eq k_229_761 (fun _ => hq A2 I2 L2 ho2 (pc2.fm fm) pm2) (fun z => absurd rfl z)
theorem lc_20 (ho : Ao A) (pc : PicC A I) (pm : PicM A I) (hi : i + 5 ≤ gsL G) (hs : gsL G ≤ 320) (hq : ∀ (A': zQs) (I' : zI) (L' : zJ), Ao A' → PicC A' I' → PicM A' I' → Zp G 229 1504 [some (.ref 1000000), some (.ref 0), some (.ref 93), some (.int (nI i))] [] I' L' Q) : Zp G 229 766 [some (.ref 1000000), some (.ref 0), some (.ref 93), some (.int (nI i))] [] I L Q := by
  obtain ⟨v, A2, ho2, hc, hm⟩ := B_ahead (G := G) (x := gxs G (i + 1)) (y := gxs G (i + 2)) (z := gxs G (i + 3)) ho
  refine Zp.aload_n k_229_766 rfl ?_
  refine Zp.arg 1 k_229_767 k_229_768 k_229_769 k_229_770 k_229_771 rfl (by decide) (by omega) hs ?_
  refine Zp.arg 2 k_229_772 k_229_773 k_229_774 k_229_775 k_229_776 rfl (by decide) (by omega) hs ?_
  refine Zp.arg 3 k_229_777 k_229_778 k_229_779 k_229_780 k_229_781 rfl (by decide) (by omega) hs ?_
  refine Zp.callv3I v_96 k_229_782 m_0 (Nat.le_of_ble_eq_true rfl) (Nat.le_of_ble_eq_true rfl) ?_
  refine Zm.mono (fun r I1 L1 q => ?_) (Zm.int vr_96 (hc I L (fun r I1 L1 => r = some v ∧ PicC A2 I1 ∧ FrC I I1) pc (fun I1 p1 f1 => ⟨rfl, p1, f1⟩)))
  obtain ⟨⟨x, rfl⟩, e, pc2, fc⟩ := q
  have e2 := Option.some.inj e
  subst e2
  refine ⟨x, rfl, ?_⟩
  have pm1 := pm.fc fc
  refine Zp.aload_n k_229_785 rfl ?_
  refine Zp.arg 1 k_229_786 k_229_787 k_229_788 k_229_789 k_229_790 rfl (by decide) (by omega) hs ?_
  refine Zp.arg 2 k_229_791 k_229_792 k_229_793 k_229_794 k_229_795 rfl (by decide) (by omega) hs ?_
  refine Zp.arg 3 k_229_796 k_229_797 k_229_798 k_229_799 k_229_800 rfl (by decide) (by omega) hs ?_
  refine Zp.callv3I v_190 k_229_801 m_93 (Nat.le_of_ble_eq_true rfl) (Nat.le_of_ble_eq_true rfl) ?_
  refine Zm.mono (fun r I2 L2 q => ?_) (hm I1 L1 (fun r I2 L2 => r = some (.int x) ∧ PicM A2 I2 ∧ FrM I1 I2) pm1 (fun I2 L2 p2 f2 => ⟨rfl, p2, f2⟩))
  obtain ⟨rfl, pm2, fm⟩ := q
  refine ⟨x, rfl, ?_⟩
  refine Zp.icmp_eq k_229_804 (fun _ => hq A2 I2 L2 ho2 (pc2.fm fm) pm2) (fun z => absurd rfl z)
end CASES
