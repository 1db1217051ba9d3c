set_option maxRecDepth 20000 in
set_option maxHeartbeats 4000000 in
theorem lc_add {d : Nat} {G : zG} {A : Int → Int → Int} {P : Option zV → zG → Prop} {b L : Nat} {xs : Nat → Int} {Z W : Nat} {x o : Int} {S T tl : Nat} {tf : Nat → Int} {wl : Nat} {wf : Nat → Int} (h : LH b L xs Z W G A x o S T tl tf wl wf S T tl tf wl wf) {i : Nat} (hi : i + 6 ≤ L) (k : ∀ G2 A2 (S2 T2 tl2 : Nat) (tf2 : Nat → Int) (wl2 : Nat) (wf2 : Nat → Int), LH b L xs Z W G2 A2 x o S2 T2 tl2 tf2 wl2 wf2 S2 T2 tl2 tf2 wl2 wf2 → ZE 12 M_Law_law (gw G2 A2) 2023 [(2, (b : Int)), (2, x), (2, o), (0, (i : Int))] [] P) : ZE 12 M_Law_law (gw G A) 296 [(2, (b : Int)), (2, x), (2, o), (0, (i : Int))] [] P := by
  refine ZE.aload_n d_Law_law_296 rfl ?_
  refine ZE.aload_n d_Law_law_297 rfl ?_
  refine ZE.iload_n d_Law_law_298 rfl ?_
  refine ZE.iconst (n := 1) d_Law_law_299 ?_
  refine ZE.iadd d_Law_law_300 ?_
  refine ZE.ialdRE (v := (xs (i + 1))) d_Law_law_301 h.2.2.2.2.1.1.1 (by have hn0 := h.2.2.2.2.1.1.2; show 0 ≤ (i : Int) + 1 ∧ (i : Int) + 1 < gn G (b : Int); omega) (by rw [show (i : Int) + 1 = ((i + 1 : Nat) : Int) by omega]; exact (h.2.2.2.2.1.2.1 (i + 1) (by omega)).1) ?_
  refine ZE.cV [(0, (xs (i + 1)))] [] [(2, x), (0, (xs (i + 1)))] d_Law_law_302 l_Law_13 rfl rfl rfl rfl rfl rfl h.1.cCK.1 ?_
  refine c_add (d := 0) h.1 (h.2.2.2.2.1.2.1 (i + 1) (by omega)).2 (fun G2 A2 hC hT => ?_)
  show ZE 12 M_Law_law (gw G2 A2) 305 [(2, (b : Int)), (2, x), (2, o), (0, (i : Int))] [(0, addV S (xs (i + 1)))] _
  have h2 := h.c hC hT
  refine ZE.aload_n d_Law_law_305 rfl ?_
  refine ZE.aload_n d_Law_law_306 rfl ?_
  refine ZE.iload_n d_Law_law_307 rfl ?_
  refine ZE.iconst (n := 1) d_Law_law_308 ?_
  refine ZE.iadd d_Law_law_309 ?_
  refine ZE.ialdRE (v := (xs (i + 1))) d_Law_law_310 h2.2.2.2.2.1.1.1 (by have hn0 := h2.2.2.2.2.1.1.2; show 0 ≤ (i : Int) + 1 ∧ (i : Int) + 1 < gn G2 (b : Int); omega) (by rw [show (i : Int) + 1 = ((i + 1 : Nat) : Int) by omega]; exact (h2.2.2.2.2.1.2.1 (i + 1) (by omega)).1) ?_
  refine ZE.cV [(0, (xs (i + 1)))] [(0, addV S (xs (i + 1)))] [(2, o), (0, (xs (i + 1)))] d_Law_law_311 l_Law_17 rfl rfl rfl rfl rfl rfl h2.2.1.1 ?_
  refine r_add h2.2.1 h2.2.2.1.1 h2.2.2.1.2.1 h.1.cS.2.1 h.1.cS.2.2 (h.2.2.2.2.1.2.1 (i + 1) (by omega)).2 (fun B hRB gB => ?_)
  show ZE 12 M_Law_law (gw G2 B) 314 [(2, (b : Int)), (2, x), (2, o), (0, (i : Int))] [(0, addV S (xs (i + 1))), (0, addV S (xs (i + 1)))] _
  have h3 := h2.r (ri_la h2.2.2.1 hRB hC.cS.2.1 hC.cS.2.2 gB)
  refine ZE.same (tgt := 2023) d_Law_law_314 rfl ?_
  exact k _ _ _ _ _ _ _ _ h3
set_option maxRecDepth 20000 in
set_option maxHeartbeats 4000000 in
theorem lc_drop {d : Nat} {G : zG} {A : Int → Int → Int} {P : Option zV → zG → Prop} {b L : Nat} {xs : Nat → Int} {Z W : Nat} {x o : Int} {S T tl : Nat} {tf : Nat → Int} {wl : Nat} {wf : Nat → Int} (h : LH b L xs Z W G A x o S T tl tf wl wf S T tl tf wl wf) {i : Nat} (hi : i + 6 ≤ L) (k : ∀ G2 A2 (S2 T2 tl2 : Nat) (tf2 : Nat → Int) (wl2 : Nat) (wf2 : Nat → Int), LH b L xs Z W G2 A2 x o S2 T2 tl2 tf2 wl2 wf2 S2 T2 tl2 tf2 wl2 wf2 → ZE 12 M_Law_law (gw G2 A2) 2023 [(2, (b : Int)), (2, x), (2, o), (0, (i : Int))] [] P) : ZE 12 M_Law_law (gw G A) 319 [(2, (b : Int)), (2, x), (2, o), (0, (i : Int))] [] P := by
  refine ZE.aload_n d_Law_law_319 rfl ?_
  refine ZE.aload_n d_Law_law_320 rfl ?_
  refine ZE.iload_n d_Law_law_321 rfl ?_
  refine ZE.iconst (n := 1) d_Law_law_322 ?_
  refine ZE.iadd d_Law_law_323 ?_
  refine ZE.ialdRE (v := (xs (i + 1))) d_Law_law_324 h.2.2.2.2.1.1.1 (by have hn0 := h.2.2.2.2.1.1.2; show 0 ≤ (i : Int) + 1 ∧ (i : Int) + 1 < gn G (b : Int); omega) (by rw [show (i : Int) + 1 = ((i + 1 : Nat) : Int) by omega]; exact (h.2.2.2.2.1.2.1 (i + 1) (by omega)).1) ?_
  refine ZE.cV [(0, (xs (i + 1)))] [] [(2, x), (0, (xs (i + 1)))] d_Law_law_325 l_Law_18 rfl rfl rfl rfl rfl rfl h.1.cCK.1 ?_
  refine c_drop (d := 0) h.1 (h.2.2.2.2.1.2.1 (i + 1) (by omega)).2 (fun G2 A2 hC hT => ?_)
  show ZE 12 M_Law_law (gw G2 A2) 328 [(2, (b : Int)), (2, x), (2, o), (0, (i : Int))] [(0, drpV S (xs (i + 1)))] _
  have h2 := h.c hC hT
  refine ZE.aload_n d_Law_law_328 rfl ?_
  refine ZE.aload_n d_Law_law_329 rfl ?_
  refine ZE.iload_n d_Law_law_330 rfl ?_
  refine ZE.iconst (n := 1) d_Law_law_331 ?_
  refine ZE.iadd d_Law_law_332 ?_
  refine ZE.ialdRE (v := (xs (i + 1))) d_Law_law_333 h2.2.2.2.2.1.1.1 (by have hn0 := h2.2.2.2.2.1.1.2; show 0 ≤ (i : Int) + 1 ∧ (i : Int) + 1 < gn G2 (b : Int); omega) (by rw [show (i : Int) + 1 = ((i + 1 : Nat) : Int) by omega]; exact (h2.2.2.2.2.1.2.1 (i + 1) (by omega)).1) ?_
  refine ZE.cV [(0, (xs (i + 1)))] [(0, drpV S (xs (i + 1)))] [(2, o), (0, (xs (i + 1)))] d_Law_law_334 l_Law_21 rfl rfl rfl rfl rfl rfl h2.2.1.1 ?_
  refine r_drop h2.2.1 h2.2.2.1.1 h2.2.2.1.2.1 h.1.cS.2.1 h.1.cS.2.2 (h.2.2.2.2.1.2.1 (i + 1) (by omega)).2 (fun B hRB gB => ?_)
  show ZE 12 M_Law_law (gw G2 B) 337 [(2, (b : Int)), (2, x), (2, o), (0, (i : Int))] [(0, drpV S (xs (i + 1))), (0, drpV S (xs (i + 1)))] _
  have h3 := h2.r (ri_la h2.2.2.1 hRB hC.cS.2.1 hC.cS.2.2 gB)
  refine ZE.same (tgt := 2023) d_Law_law_337 rfl ?_
  exact k _ _ _ _ _ _ _ _ h3
set_option maxRecDepth 20000 in
set_option maxHeartbeats 4000000 in
theorem lc_choose {d : Nat} {G : zG} {A : Int → Int → Int} {P : Option zV → zG → Prop} {b L : Nat} {xs : Nat → Int} {Z W : Nat} {x o : Int} {S T tl : Nat} {tf : Nat → Int} {wl : Nat} {wf : Nat → Int} (h : LH b L xs Z W G A x o S T tl tf wl wf S T tl tf wl wf) {i : Nat} (hi : i + 6 ≤ L) (k : ∀ G2 A2 (S2 T2 tl2 : Nat) (tf2 : Nat → Int) (wl2 : Nat) (wf2 : Nat → Int), LH b L xs Z W G2 A2 x o S2 T2 tl2 tf2 wl2 wf2 S2 T2 tl2 tf2 wl2 wf2 → ZE 12 M_Law_law (gw G2 A2) 2023 [(2, (b : Int)), (2, x), (2, o), (0, (i : Int))] [] P) : ZE 12 M_Law_law (gw G A) 342 [(2, (b : Int)), (2, x), (2, o), (0, (i : Int))] [] P := by
  refine ZE.aload_n d_Law_law_342 rfl ?_
  refine ZE.aload_n d_Law_law_343 rfl ?_
  refine ZE.iload_n d_Law_law_344 rfl ?_
  refine ZE.iconst (n := 1) d_Law_law_345 ?_
  refine ZE.iadd d_Law_law_346 ?_
  refine ZE.ialdRE (v := (xs (i + 1))) d_Law_law_347 h.2.2.2.2.1.1.1 (by have hn0 := h.2.2.2.2.1.1.2; show 0 ≤ (i : Int) + 1 ∧ (i : Int) + 1 < gn G (b : Int); omega) (by rw [show (i : Int) + 1 = ((i + 1 : Nat) : Int) by omega]; exact (h.2.2.2.2.1.2.1 (i + 1) (by omega)).1) ?_
  refine ZE.cV [(0, (xs (i + 1)))] [] [(2, x), (0, (xs (i + 1)))] d_Law_law_348 l_Law_22 rfl rfl rfl rfl rfl rfl h.1.cCK.1 ?_
  refine c_choose (d := 0) h.1 (h.2.2.2.2.1.2.1 (i + 1) (by omega)).2 (fun G2 A2 hC hT => ?_)
  show ZE 12 M_Law_law (gw G2 A2) 351 [(2, (b : Int)), (2, x), (2, o), (0, (i : Int))] [(0, chV (xs (i + 1)))] _
  have h2 := h.c hC hT
  refine ZE.aload_n d_Law_law_351 rfl ?_
  refine ZE.aload_n d_Law_law_352 rfl ?_
  refine ZE.iload_n d_Law_law_353 rfl ?_
  refine ZE.iconst (n := 1) d_Law_law_354 ?_
  refine ZE.iadd d_Law_law_355 ?_
  refine ZE.ialdRE (v := (xs (i + 1))) d_Law_law_356 h2.2.2.2.2.1.1.1 (by have hn0 := h2.2.2.2.2.1.1.2; show 0 ≤ (i : Int) + 1 ∧ (i : Int) + 1 < gn G2 (b : Int); omega) (by rw [show (i : Int) + 1 = ((i + 1 : Nat) : Int) by omega]; exact (h2.2.2.2.2.1.2.1 (i + 1) (by omega)).1) ?_
  refine ZE.cV [(0, (xs (i + 1)))] [(0, chV (xs (i + 1)))] [(2, o), (0, (xs (i + 1)))] d_Law_law_357 l_Law_25 rfl rfl rfl rfl rfl rfl h2.2.1.1 ?_
  refine r_choose h2.2.1 h2.2.2.1.1 h2.2.2.1.2.1 h.1.cS.2.1 h.1.cS.2.2 (h.2.2.2.2.1.2.1 (i + 1) (by omega)).2 (fun B hRB gB => ?_)
  show ZE 12 M_Law_law (gw G2 B) 360 [(2, (b : Int)), (2, x), (2, o), (0, (i : Int))] [(0, chV (xs (i + 1))), (0, chV (xs (i + 1)))] _
  have h3 := h2.r (ri_la h2.2.2.1 hRB hC.cS.2.1 hC.cS.2.2 gB)
  refine ZE.same (tgt := 2023) d_Law_law_360 rfl ?_
  exact k _ _ _ _ _ _ _ _ h3
set_option maxRecDepth 20000 in
set_option maxHeartbeats 4000000 in
theorem lc_is {d : Nat} {G : zG} {A : Int → Int → Int} {P : Option zV → zG → Prop} {b L : Nat} {xs : Nat → Int} {Z W : Nat} {x o : Int} {S T tl : Nat} {tf : Nat → Int} {wl : Nat} {wf : Nat → Int} (h : LH b L xs Z W G A x o S T tl tf wl wf S T tl tf wl wf) {i : Nat} (hi : i + 6 ≤ L) (k : ∀ G2 A2 (S2 T2 tl2 : Nat) (tf2 : Nat → Int) (wl2 : Nat) (wf2 : Nat → Int), LH b L xs Z W G2 A2 x o S2 T2 tl2 tf2 wl2 wf2 S2 T2 tl2 tf2 wl2 wf2 → ZE 12 M_Law_law (gw G2 A2) 2023 [(2, (b : Int)), (2, x), (2, o), (0, (i : Int))] [] P) : ZE 12 M_Law_law (gw G A) 365 [(2, (b : Int)), (2, x), (2, o), (0, (i : Int))] [] P := by
  refine ZE.aload_n d_Law_law_365 rfl ?_
  refine ZE.aload_n d_Law_law_366 rfl ?_
  refine ZE.iload_n d_Law_law_367 rfl ?_
  refine ZE.iconst (n := 1) d_Law_law_368 ?_
  refine ZE.iadd d_Law_law_369 ?_
  refine ZE.ialdRE (v := (xs (i + 1))) d_Law_law_370 h.2.2.2.2.1.1.1 (by have hn0 := h.2.2.2.2.1.1.2; show 0 ≤ (i : Int) + 1 ∧ (i : Int) + 1 < gn G (b : Int); omega) (by rw [show (i : Int) + 1 = ((i + 1 : Nat) : Int) by omega]; exact (h.2.2.2.2.1.2.1 (i + 1) (by omega)).1) ?_
  refine ZE.cV [(0, (xs (i + 1)))] [] [(2, x), (0, (xs (i + 1)))] d_Law_law_371 l_Law_26 rfl rfl rfl rfl rfl rfl h.1.cCK.1 ?_
  refine c_is (d := 0) h.1 (h.2.2.2.2.1.2.1 (i + 1) (by omega)).2 (fun G2 A2 hC hT => ?_)
  show ZE 12 M_Law_law (gw G2 A2) 374 [(2, (b : Int)), (2, x), (2, o), (0, (i : Int))] [(0, isV S (xs (i + 1)))] _
  have h2 := h.c hC hT
  refine ZE.aload_n d_Law_law_374 rfl ?_
  refine ZE.aload_n d_Law_law_375 rfl ?_
  refine ZE.iload_n d_Law_law_376 rfl ?_
  refine ZE.iconst (n := 1) d_Law_law_377 ?_
  refine ZE.iadd d_Law_law_378 ?_
  refine ZE.ialdRE (v := (xs (i + 1))) d_Law_law_379 h2.2.2.2.2.1.1.1 (by have hn0 := h2.2.2.2.2.1.1.2; show 0 ≤ (i : Int) + 1 ∧ (i : Int) + 1 < gn G2 (b : Int); omega) (by rw [show (i : Int) + 1 = ((i + 1 : Nat) : Int) by omega]; exact (h2.2.2.2.2.1.2.1 (i + 1) (by omega)).1) ?_
  refine ZE.cV [(0, (xs (i + 1)))] [(0, isV S (xs (i + 1)))] [(2, o), (0, (xs (i + 1)))] d_Law_law_380 l_Law_29 rfl rfl rfl rfl rfl rfl h2.2.1.1 ?_
  refine r_is h2.2.1 h2.2.2.1.1 h2.2.2.1.2.1 h.1.cS.2.1 h.1.cS.2.2 (h.2.2.2.2.1.2.1 (i + 1) (by omega)).2 (fun B gB => ?_)
  show ZE 12 M_Law_law (gw G2 B) 383 [(2, (b : Int)), (2, x), (2, o), (0, (i : Int))] [(0, isV S (xs (i + 1))), (0, isV S (xs (i + 1)))] _
  have h3 := h2.r (ri_qu h2.2.2.1 gB)
  refine ZE.same (tgt := 2023) d_Law_law_383 rfl ?_
  exact k _ _ _ _ _ _ _ _ h3
set_option maxRecDepth 20000 in
set_option maxHeartbeats 4000000 in
theorem lc_of {d : Nat} {G : zG} {A : Int → Int → Int} {P : Option zV → zG → Prop} {b L : Nat} {xs : Nat → Int} {Z W : Nat} {x o : Int} {S T tl : Nat} {tf : Nat → Int} {wl : Nat} {wf : Nat → Int} (h : LH b L xs Z W G A x o S T tl tf wl wf S T tl tf wl wf) {i : Nat} (hi : i + 6 ≤ L) (k : ∀ G2 A2 (S2 T2 tl2 : Nat) (tf2 : Nat → Int) (wl2 : Nat) (wf2 : Nat → Int), LH b L xs Z W G2 A2 x o S2 T2 tl2 tf2 wl2 wf2 S2 T2 tl2 tf2 wl2 wf2 → ZE 12 M_Law_law (gw G2 A2) 2023 [(2, (b : Int)), (2, x), (2, o), (0, (i : Int))] [] P) : ZE 12 M_Law_law (gw G A) 388 [(2, (b : Int)), (2, x), (2, o), (0, (i : Int))] [] P := by
  refine ZE.aload_n d_Law_law_388 rfl ?_
  refine ZE.aload_n d_Law_law_389 rfl ?_
  refine ZE.iload_n d_Law_law_390 rfl ?_
  refine ZE.iconst (n := 1) d_Law_law_391 ?_
  refine ZE.iadd d_Law_law_392 ?_
  refine ZE.ialdRE (v := (xs (i + 1))) d_Law_law_393 h.2.2.2.2.1.1.1 (by have hn0 := h.2.2.2.2.1.1.2; show 0 ≤ (i : Int) + 1 ∧ (i : Int) + 1 < gn G (b : Int); omega) (by rw [show (i : Int) + 1 = ((i + 1 : Nat) : Int) by omega]; exact (h.2.2.2.2.1.2.1 (i + 1) (by omega)).1) ?_
  refine ZE.aload_n d_Law_law_394 rfl ?_
  refine ZE.iload_n d_Law_law_395 rfl ?_
  refine ZE.iconst (n := 2) d_Law_law_396 ?_
  refine ZE.iadd d_Law_law_397 ?_
  refine ZE.ialdRE (v := (xs (i + 2))) d_Law_law_398 h.2.2.2.2.1.1.1 (by have hn0 := h.2.2.2.2.1.1.2; show 0 ≤ (i : Int) + 2 ∧ (i : Int) + 2 < gn G (b : Int); omega) (by rw [show (i : Int) + 2 = ((i + 2 : Nat) : Int) by omega]; exact (h.2.2.2.2.1.2.1 (i + 2) (by omega)).1) ?_
  refine ZE.cV [(0, (xs (i + 1))), (0, (xs (i + 2)))] [] [(2, x), (0, (xs (i + 1))), (0, (xs (i + 2))), (9, 0)] d_Law_law_399 l_Law_30 rfl rfl rfl rfl rfl rfl h.1.cCK.1 ?_
  refine c_of (d := 0) h.1 (h.2.2.2.2.1.2.1 (i + 1) (by omega)).2 (h.2.2.2.2.1.2.1 (i + 2) (by omega)).2 (fun G2 A2 hC hT => ?_)
  show ZE 12 M_Law_law (gw G2 A2) 402 [(2, (b : Int)), (2, x), (2, o), (0, (i : Int))] [(0, ofV S (xs (i + 1)) (xs (i + 2)))] _
  have h2 := h.c hC hT
  refine ZE.aload_n d_Law_law_402 rfl ?_
  refine ZE.aload_n d_Law_law_403 rfl ?_
  refine ZE.iload_n d_Law_law_404 rfl ?_
  refine ZE.iconst (n := 1) d_Law_law_405 ?_
  refine ZE.iadd d_Law_law_406 ?_
  refine ZE.ialdRE (v := (xs (i + 1))) d_Law_law_407 h2.2.2.2.2.1.1.1 (by have hn0 := h2.2.2.2.2.1.1.2; show 0 ≤ (i : Int) + 1 ∧ (i : Int) + 1 < gn G2 (b : Int); omega) (by rw [show (i : Int) + 1 = ((i + 1 : Nat) : Int) by omega]; exact (h2.2.2.2.2.1.2.1 (i + 1) (by omega)).1) ?_
  refine ZE.aload_n d_Law_law_408 rfl ?_
  refine ZE.iload_n d_Law_law_409 rfl ?_
  refine ZE.iconst (n := 2) d_Law_law_410 ?_
  refine ZE.iadd d_Law_law_411 ?_
  refine ZE.ialdRE (v := (xs (i + 2))) d_Law_law_412 h2.2.2.2.2.1.1.1 (by have hn0 := h2.2.2.2.2.1.1.2; show 0 ≤ (i : Int) + 2 ∧ (i : Int) + 2 < gn G2 (b : Int); omega) (by rw [show (i : Int) + 2 = ((i + 2 : Nat) : Int) by omega]; exact (h2.2.2.2.2.1.2.1 (i + 2) (by omega)).1) ?_
  refine ZE.cV [(0, (xs (i + 1))), (0, (xs (i + 2)))] [(0, ofV S (xs (i + 1)) (xs (i + 2)))] [(2, o), (0, (xs (i + 1))), (0, (xs (i + 2)))] d_Law_law_413 l_Law_34 rfl rfl rfl rfl rfl rfl h2.2.1.1 ?_
  refine r_of h2.2.1 h2.2.2.1.1 h2.2.2.1.2.1 h.1.cS.2.1 h.1.cS.2.2 (h.2.2.2.2.1.2.1 (i + 1) (by omega)).2 (h.2.2.2.2.1.2.1 (i + 2) (by omega)).2 ?_
  show ZE 12 M_Law_law (gw G2 A2) 416 [(2, (b : Int)), (2, x), (2, o), (0, (i : Int))] [(0, ofV S (xs (i + 1)) (xs (i + 2))), (0, ofV S (xs (i + 1)) (xs (i + 2)))] _
  refine ZE.same (tgt := 2023) d_Law_law_416 rfl ?_
  exact k _ _ _ _ _ _ _ _ h2
set_option maxRecDepth 20000 in
set_option maxHeartbeats 4000000 in
theorem lc_step {d : Nat} {G : zG} {A : Int → Int → Int} {P : Option zV → zG → Prop} {b L : Nat} {xs : Nat → Int} {Z W : Nat} {x o : Int} {S T tl : Nat} {tf : Nat → Int} {wl : Nat} {wf : Nat → Int} (h : LH b L xs Z W G A x o S T tl tf wl wf S T tl tf wl wf) {i : Nat} (hi : i + 6 ≤ L) (k : ∀ G2 A2 (S2 T2 tl2 : Nat) (tf2 : Nat → Int) (wl2 : Nat) (wf2 : Nat → Int), LH b L xs Z W G2 A2 x o S2 T2 tl2 tf2 wl2 wf2 S2 T2 tl2 tf2 wl2 wf2 → ZE 12 M_Law_law (gw G2 A2) 2023 [(2, (b : Int)), (2, x), (2, o), (0, (i : Int))] [] P) : ZE 12 M_Law_law (gw G A) 421 [(2, (b : Int)), (2, x), (2, o), (0, (i : Int))] [] P := by
  refine ZE.aload_n d_Law_law_421 rfl ?_
  refine ZE.aload_n d_Law_law_422 rfl ?_
  refine ZE.iload_n d_Law_law_423 rfl ?_
  refine ZE.iconst (n := 1) d_Law_law_424 ?_
  refine ZE.iadd d_Law_law_425 ?_
  refine ZE.ialdRE (v := (xs (i + 1))) d_Law_law_426 h.2.2.2.2.1.1.1 (by have hn0 := h.2.2.2.2.1.1.2; show 0 ≤ (i : Int) + 1 ∧ (i : Int) + 1 < gn G (b : Int); omega) (by rw [show (i : Int) + 1 = ((i + 1 : Nat) : Int) by omega]; exact (h.2.2.2.2.1.2.1 (i + 1) (by omega)).1) ?_
  refine ZE.aload_n d_Law_law_427 rfl ?_
  refine ZE.iload_n d_Law_law_428 rfl ?_
  refine ZE.iconst (n := 2) d_Law_law_429 ?_
  refine ZE.iadd d_Law_law_430 ?_
  refine ZE.ialdRE (v := (xs (i + 2))) d_Law_law_431 h.2.2.2.2.1.1.1 (by have hn0 := h.2.2.2.2.1.1.2; show 0 ≤ (i : Int) + 2 ∧ (i : Int) + 2 < gn G (b : Int); omega) (by rw [show (i : Int) + 2 = ((i + 2 : Nat) : Int) by omega]; exact (h.2.2.2.2.1.2.1 (i + 2) (by omega)).1) ?_
  refine ZE.cV [(0, (xs (i + 1))), (0, (xs (i + 2)))] [] [(2, x), (0, (xs (i + 1))), (0, (xs (i + 2)))] d_Law_law_432 l_Law_35 rfl rfl rfl rfl rfl rfl h.1.cCK.1 ?_
  refine c_step (d := 0) h.1 (h.2.2.2.2.1.2.1 (i + 1) (by omega)).2 (h.2.2.2.2.1.2.1 (i + 2) (by omega)).2 (fun G2 A2 hC hT => ?_)
  show ZE 12 M_Law_law (gw G2 A2) 435 [(2, (b : Int)), (2, x), (2, o), (0, (i : Int))] [(0, stV S (xs (i + 1)) (xs (i + 2)))] _
  have h2 := h.c hC hT
  refine ZE.aload_n d_Law_law_435 rfl ?_
  refine ZE.aload_n d_Law_law_436 rfl ?_
  refine ZE.iload_n d_Law_law_437 rfl ?_
  refine ZE.iconst (n := 1) d_Law_law_438 ?_
  refine ZE.iadd d_Law_law_439 ?_
  refine ZE.ialdRE (v := (xs (i + 1))) d_Law_law_440 h2.2.2.2.2.1.1.1 (by have hn0 := h2.2.2.2.2.1.1.2; show 0 ≤ (i : Int) + 1 ∧ (i : Int) + 1 < gn G2 (b : Int); omega) (by rw [show (i : Int) + 1 = ((i + 1 : Nat) : Int) by omega]; exact (h2.2.2.2.2.1.2.1 (i + 1) (by omega)).1) ?_
  refine ZE.aload_n d_Law_law_441 rfl ?_
  refine ZE.iload_n d_Law_law_442 rfl ?_
  refine ZE.iconst (n := 2) d_Law_law_443 ?_
  refine ZE.iadd d_Law_law_444 ?_
  refine ZE.ialdRE (v := (xs (i + 2))) d_Law_law_445 h2.2.2.2.2.1.1.1 (by have hn0 := h2.2.2.2.2.1.1.2; show 0 ≤ (i : Int) + 2 ∧ (i : Int) + 2 < gn G2 (b : Int); omega) (by rw [show (i : Int) + 2 = ((i + 2 : Nat) : Int) by omega]; exact (h2.2.2.2.2.1.2.1 (i + 2) (by omega)).1) ?_
  refine ZE.cV [(0, (xs (i + 1))), (0, (xs (i + 2)))] [(0, stV S (xs (i + 1)) (xs (i + 2)))] [(2, o), (0, (xs (i + 1))), (0, (xs (i + 2)))] d_Law_law_446 l_Law_38 rfl rfl rfl rfl rfl rfl h2.2.1.1 ?_
  refine r_step h2.2.1 h2.2.2.1.1 h2.2.2.1.2.1 h.1.cS.2.1 h.1.cS.2.2 (h.2.2.2.2.1.2.1 (i + 1) (by omega)).2 (h.2.2.2.2.1.2.1 (i + 2) (by omega)).2 (fun B gB => ?_)
  show ZE 12 M_Law_law (gw G2 B) 449 [(2, (b : Int)), (2, x), (2, o), (0, (i : Int))] [(0, stV S (xs (i + 1)) (xs (i + 2))), (0, stV S (xs (i + 1)) (xs (i + 2)))] _
  have h3 := h2.r (ri_qu h2.2.2.1 gB)
  refine ZE.same (tgt := 2023) d_Law_law_449 rfl ?_
  exact k _ _ _ _ _ _ _ _ h3
set_option maxRecDepth 20000 in
set_option maxHeartbeats 4000000 in
theorem lc_unit {d : Nat} {G : zG} {A : Int → Int → Int} {P : Option zV → zG → Prop} {b L : Nat} {xs : Nat → Int} {Z W : Nat} {x o : Int} {S T tl : Nat} {tf : Nat → Int} {wl : Nat} {wf : Nat → Int} (h : LH b L xs Z W G A x o S T tl tf wl wf S T tl tf wl wf) {i : Nat} (hi : i + 6 ≤ L) (k : ∀ G2 A2 (S2 T2 tl2 : Nat) (tf2 : Nat → Int) (wl2 : Nat) (wf2 : Nat → Int), LH b L xs Z W G2 A2 x o S2 T2 tl2 tf2 wl2 wf2 S2 T2 tl2 tf2 wl2 wf2 → ZE 12 M_Law_law (gw G2 A2) 2023 [(2, (b : Int)), (2, x), (2, o), (0, (i : Int))] [] P) : ZE 12 M_Law_law (gw G A) 454 [(2, (b : Int)), (2, x), (2, o), (0, (i : Int))] [] P := by
  refine ZE.aload_n d_Law_law_454 rfl ?_
  refine ZE.aload_n d_Law_law_455 rfl ?_
  refine ZE.iload_n d_Law_law_456 rfl ?_
  refine ZE.iconst (n := 1) d_Law_law_457 ?_
  refine ZE.iadd d_Law_law_458 ?_
  refine ZE.ialdRE (v := (xs (i + 1))) d_Law_law_459 h.2.2.2.2.1.1.1 (by have hn0 := h.2.2.2.2.1.1.2; show 0 ≤ (i : Int) + 1 ∧ (i : Int) + 1 < gn G (b : Int); omega) (by rw [show (i : Int) + 1 = ((i + 1 : Nat) : Int) by omega]; exact (h.2.2.2.2.1.2.1 (i + 1) (by omega)).1) ?_
  refine ZE.aload_n d_Law_law_460 rfl ?_
  refine ZE.iload_n d_Law_law_461 rfl ?_
  refine ZE.iconst (n := 2) d_Law_law_462 ?_
  refine ZE.iadd d_Law_law_463 ?_
  refine ZE.ialdRE (v := (xs (i + 2))) d_Law_law_464 h.2.2.2.2.1.1.1 (by have hn0 := h.2.2.2.2.1.1.2; show 0 ≤ (i : Int) + 2 ∧ (i : Int) + 2 < gn G (b : Int); omega) (by rw [show (i : Int) + 2 = ((i + 2 : Nat) : Int) by omega]; exact (h.2.2.2.2.1.2.1 (i + 2) (by omega)).1) ?_
  refine ZE.aload_n d_Law_law_465 rfl ?_
  refine ZE.iload_n d_Law_law_466 rfl ?_
  refine ZE.iconst (n := 3) d_Law_law_467 ?_
  refine ZE.iadd d_Law_law_468 ?_
  refine ZE.ialdRE (v := (xs (i + 3))) d_Law_law_469 h.2.2.2.2.1.1.1 (by have hn0 := h.2.2.2.2.1.1.2; show 0 ≤ (i : Int) + 3 ∧ (i : Int) + 3 < gn G (b : Int); omega) (by rw [show (i : Int) + 3 = ((i + 3 : Nat) : Int) by omega]; exact (h.2.2.2.2.1.2.1 (i + 3) (by omega)).1) ?_
  refine ZE.cV [(0, (xs (i + 1))), (0, (xs (i + 2))), (0, (xs (i + 3)))] [] [(2, x), (0, (xs (i + 1))), (0, (xs (i + 2))), (0, (xs (i + 3))), (9, 0)] d_Law_law_470 l_Law_39 rfl rfl rfl rfl rfl rfl h.1.cCK.1 ?_
  refine c_unit (d := 0) h.1 (h.2.2.2.2.1.2.1 (i + 1) (by omega)).2 (h.2.2.2.2.1.2.1 (i + 2) (by omega)).2 (h.2.2.2.2.1.2.1 (i + 3) (by omega)).2 (fun G2 A2 hC hT => ?_)
  show ZE 12 M_Law_law (gw G2 A2) 473 [(2, (b : Int)), (2, x), (2, o), (0, (i : Int))] [(0, unV S (xs (i + 1)) (xs (i + 2)) (xs (i + 3)))] _
  have h2 := h.c hC hT
  refine ZE.aload_n d_Law_law_473 rfl ?_
  refine ZE.aload_n d_Law_law_474 rfl ?_
  refine ZE.iload_n d_Law_law_475 rfl ?_
  refine ZE.iconst (n := 1) d_Law_law_476 ?_
  refine ZE.iadd d_Law_law_477 ?_
  refine ZE.ialdRE (v := (xs (i + 1))) d_Law_law_478 h2.2.2.2.2.1.1.1 (by have hn0 := h2.2.2.2.2.1.1.2; show 0 ≤ (i : Int) + 1 ∧ (i : Int) + 1 < gn G2 (b : Int); omega) (by rw [show (i : Int) + 1 = ((i + 1 : Nat) : Int) by omega]; exact (h2.2.2.2.2.1.2.1 (i + 1) (by omega)).1) ?_
  refine ZE.aload_n d_Law_law_479 rfl ?_
  refine ZE.iload_n d_Law_law_480 rfl ?_
  refine ZE.iconst (n := 2) d_Law_law_481 ?_
  refine ZE.iadd d_Law_law_482 ?_
  refine ZE.ialdRE (v := (xs (i + 2))) d_Law_law_483 h2.2.2.2.2.1.1.1 (by have hn0 := h2.2.2.2.2.1.1.2; show 0 ≤ (i : Int) + 2 ∧ (i : Int) + 2 < gn G2 (b : Int); omega) (by rw [show (i : Int) + 2 = ((i + 2 : Nat) : Int) by omega]; exact (h2.2.2.2.2.1.2.1 (i + 2) (by omega)).1) ?_
  refine ZE.aload_n d_Law_law_484 rfl ?_
  refine ZE.iload_n d_Law_law_485 rfl ?_
  refine ZE.iconst (n := 3) d_Law_law_486 ?_
  refine ZE.iadd d_Law_law_487 ?_
  refine ZE.ialdRE (v := (xs (i + 3))) d_Law_law_488 h2.2.2.2.2.1.1.1 (by have hn0 := h2.2.2.2.2.1.1.2; show 0 ≤ (i : Int) + 3 ∧ (i : Int) + 3 < gn G2 (b : Int); omega) (by rw [show (i : Int) + 3 = ((i + 3 : Nat) : Int) by omega]; exact (h2.2.2.2.2.1.2.1 (i + 3) (by omega)).1) ?_
  refine ZE.cV [(0, (xs (i + 1))), (0, (xs (i + 2))), (0, (xs (i + 3)))] [(0, unV S (xs (i + 1)) (xs (i + 2)) (xs (i + 3)))] [(2, o), (0, (xs (i + 1))), (0, (xs (i + 2))), (0, (xs (i + 3)))] d_Law_law_489 l_Law_43 rfl rfl rfl rfl rfl rfl h2.2.1.1 ?_
  refine r_unit h2.2.1 h2.2.2.1.1 h2.2.2.1.2.1 h.1.cS.2.1 h.1.cS.2.2 (h.2.2.2.2.1.2.1 (i + 1) (by omega)).2 (h.2.2.2.2.1.2.1 (i + 2) (by omega)).2 (h.2.2.2.2.1.2.1 (i + 3) (by omega)).2 ?_
  show ZE 12 M_Law_law (gw G2 A2) 492 [(2, (b : Int)), (2, x), (2, o), (0, (i : Int))] [(0, unV S (xs (i + 1)) (xs (i + 2)) (xs (i + 3))), (0, unV S (xs (i + 1)) (xs (i + 2)) (xs (i + 3)))] _
  refine ZE.same (tgt := 2023) d_Law_law_492 rfl ?_
  exact k _ _ _ _ _ _ _ _ h2
set_option maxRecDepth 20000 in
set_option maxHeartbeats 4000000 in
theorem lc_power {d : Nat} {G : zG} {A : Int → Int → Int} {P : Option zV → zG → Prop} {b L : Nat} {xs : Nat → Int} {Z W : Nat} {x o : Int} {S T tl : Nat} {tf : Nat → Int} {wl : Nat} {wf : Nat → Int} (h : LH b L xs Z W G A x o S T tl tf wl wf S T tl tf wl wf) {i : Nat} (hi : i + 6 ≤ L) (k : ∀ G2 A2 (S2 T2 tl2 : Nat) (tf2 : Nat → Int) (wl2 : Nat) (wf2 : Nat → Int), LH b L xs Z W G2 A2 x o S2 T2 tl2 tf2 wl2 wf2 S2 T2 tl2 tf2 wl2 wf2 → ZE 12 M_Law_law (gw G2 A2) 2023 [(2, (b : Int)), (2, x), (2, o), (0, (i : Int))] [] P) : ZE 12 M_Law_law (gw G A) 497 [(2, (b : Int)), (2, x), (2, o), (0, (i : Int))] [] P := by
  refine ZE.aload_n d_Law_law_497 rfl ?_
  refine ZE.aload_n d_Law_law_498 rfl ?_
  refine ZE.iload_n d_Law_law_499 rfl ?_
  refine ZE.iconst (n := 1) d_Law_law_500 ?_
  refine ZE.iadd d_Law_law_501 ?_
  refine ZE.ialdRE (v := (xs (i + 1))) d_Law_law_502 h.2.2.2.2.1.1.1 (by have hn0 := h.2.2.2.2.1.1.2; show 0 ≤ (i : Int) + 1 ∧ (i : Int) + 1 < gn G (b : Int); omega) (by rw [show (i : Int) + 1 = ((i + 1 : Nat) : Int) by omega]; exact (h.2.2.2.2.1.2.1 (i + 1) (by omega)).1) ?_
  refine ZE.aload_n d_Law_law_503 rfl ?_
  refine ZE.iload_n d_Law_law_504 rfl ?_
  refine ZE.iconst (n := 2) d_Law_law_505 ?_
  refine ZE.iadd d_Law_law_506 ?_
  refine ZE.ialdRE (v := (xs (i + 2))) d_Law_law_507 h.2.2.2.2.1.1.1 (by have hn0 := h.2.2.2.2.1.1.2; show 0 ≤ (i : Int) + 2 ∧ (i : Int) + 2 < gn G (b : Int); omega) (by rw [show (i : Int) + 2 = ((i + 2 : Nat) : Int) by omega]; exact (h.2.2.2.2.1.2.1 (i + 2) (by omega)).1) ?_
  refine ZE.aload_n d_Law_law_508 rfl ?_
  refine ZE.iload_n d_Law_law_509 rfl ?_
  refine ZE.iconst (n := 3) d_Law_law_510 ?_
  refine ZE.iadd d_Law_law_511 ?_
  refine ZE.ialdRE (v := (xs (i + 3))) d_Law_law_512 h.2.2.2.2.1.1.1 (by have hn0 := h.2.2.2.2.1.1.2; show 0 ≤ (i : Int) + 3 ∧ (i : Int) + 3 < gn G (b : Int); omega) (by rw [show (i : Int) + 3 = ((i + 3 : Nat) : Int) by omega]; exact (h.2.2.2.2.1.2.1 (i + 3) (by omega)).1) ?_
  refine ZE.cV [(0, (xs (i + 1))), (0, (xs (i + 2))), (0, (xs (i + 3)))] [] [(2, x), (0, (xs (i + 1))), (0, (xs (i + 2))), (0, (xs (i + 3)))] d_Law_law_513 l_Law_44 rfl rfl rfl rfl rfl rfl h.1.cCK.1 ?_
  refine c_power (d := 0) h.1 (h.2.2.2.2.1.2.1 (i + 1) (by omega)).2 (h.2.2.2.2.1.2.1 (i + 2) (by omega)).2 (h.2.2.2.2.1.2.1 (i + 3) (by omega)).2 (fun G2 A2 hC hT => ?_)
  show ZE 12 M_Law_law (gw G2 A2) 516 [(2, (b : Int)), (2, x), (2, o), (0, (i : Int))] [(0, pwV S (xs (i + 1)) (xs (i + 2)) (xs (i + 3)))] _
  have h2 := h.c hC hT
  refine ZE.aload_n d_Law_law_516 rfl ?_
  refine ZE.aload_n d_Law_law_517 rfl ?_
  refine ZE.iload_n d_Law_law_518 rfl ?_
  refine ZE.iconst (n := 1) d_Law_law_519 ?_
  refine ZE.iadd d_Law_law_520 ?_
  refine ZE.ialdRE (v := (xs (i + 1))) d_Law_law_521 h2.2.2.2.2.1.1.1 (by have hn0 := h2.2.2.2.2.1.1.2; show 0 ≤ (i : Int) + 1 ∧ (i : Int) + 1 < gn G2 (b : Int); omega) (by rw [show (i : Int) + 1 = ((i + 1 : Nat) : Int) by omega]; exact (h2.2.2.2.2.1.2.1 (i + 1) (by omega)).1) ?_
  refine ZE.aload_n d_Law_law_522 rfl ?_
  refine ZE.iload_n d_Law_law_523 rfl ?_
  refine ZE.iconst (n := 2) d_Law_law_524 ?_
  refine ZE.iadd d_Law_law_525 ?_
  refine ZE.ialdRE (v := (xs (i + 2))) d_Law_law_526 h2.2.2.2.2.1.1.1 (by have hn0 := h2.2.2.2.2.1.1.2; show 0 ≤ (i : Int) + 2 ∧ (i : Int) + 2 < gn G2 (b : Int); omega) (by rw [show (i : Int) + 2 = ((i + 2 : Nat) : Int) by omega]; exact (h2.2.2.2.2.1.2.1 (i + 2) (by omega)).1) ?_
  refine ZE.aload_n d_Law_law_527 rfl ?_
  refine ZE.iload_n d_Law_law_528 rfl ?_
  refine ZE.iconst (n := 3) d_Law_law_529 ?_
  refine ZE.iadd d_Law_law_530 ?_
  refine ZE.ialdRE (v := (xs (i + 3))) d_Law_law_531 h2.2.2.2.2.1.1.1 (by have hn0 := h2.2.2.2.2.1.1.2; show 0 ≤ (i : Int) + 3 ∧ (i : Int) + 3 < gn G2 (b : Int); omega) (by rw [show (i : Int) + 3 = ((i + 3 : Nat) : Int) by omega]; exact (h2.2.2.2.2.1.2.1 (i + 3) (by omega)).1) ?_
  refine ZE.cV [(0, (xs (i + 1))), (0, (xs (i + 2))), (0, (xs (i + 3)))] [(0, pwV S (xs (i + 1)) (xs (i + 2)) (xs (i + 3)))] [(2, o), (0, (xs (i + 1))), (0, (xs (i + 2))), (0, (xs (i + 3)))] d_Law_law_532 l_Law_47 rfl rfl rfl rfl rfl rfl h2.2.1.1 ?_
  refine r_power h2.2.1 h2.2.2.1.1 h2.2.2.1.2.1 h.1.cS.2.1 h.1.cS.2.2 (h.2.2.2.2.1.2.1 (i + 1) (by omega)).2 (h.2.2.2.2.1.2.1 (i + 2) (by omega)).2 (h.2.2.2.2.1.2.1 (i + 3) (by omega)).2 ?_
  show ZE 12 M_Law_law (gw G2 A2) 535 [(2, (b : Int)), (2, x), (2, o), (0, (i : Int))] [(0, pwV S (xs (i + 1)) (xs (i + 2)) (xs (i + 3))), (0, pwV S (xs (i + 1)) (xs (i + 2)) (xs (i + 3)))] _
  refine ZE.same (tgt := 2023) d_Law_law_535 rfl ?_
  exact k _ _ _ _ _ _ _ _ h2
set_option maxRecDepth 20000 in
set_option maxHeartbeats 4000000 in
theorem lc_powerLong {d : Nat} {G : zG} {A : Int → Int → Int} {P : Option zV → zG → Prop} {b L : Nat} {xs : Nat → Int} {Z W : Nat} {x o : Int} {S T tl : Nat} {tf : Nat → Int} {wl : Nat} {wf : Nat → Int} (h : LH b L xs Z W G A x o S T tl tf wl wf S T tl tf wl wf) {i : Nat} (hi : i + 6 ≤ L) (k : ∀ G2 A2 (S2 T2 tl2 : Nat) (tf2 : Nat → Int) (wl2 : Nat) (wf2 : Nat → Int), LH b L xs Z W G2 A2 x o S2 T2 tl2 tf2 wl2 wf2 S2 T2 tl2 tf2 wl2 wf2 → ZE 12 M_Law_law (gw G2 A2) 2023 [(2, (b : Int)), (2, x), (2, o), (0, (i : Int))] [] P) : ZE 12 M_Law_law (gw G A) 540 [(2, (b : Int)), (2, x), (2, o), (0, (i : Int))] [] P := by
  refine ZE.aload_n d_Law_law_540 rfl ?_
  refine ZE.aload_n d_Law_law_541 rfl ?_
  refine ZE.iload_n d_Law_law_542 rfl ?_
  refine ZE.iconst (n := 1) d_Law_law_543 ?_
  refine ZE.iadd d_Law_law_544 ?_
  refine ZE.ialdRE (v := (xs (i + 1))) d_Law_law_545 h.2.2.2.2.1.1.1 (by have hn0 := h.2.2.2.2.1.1.2; show 0 ≤ (i : Int) + 1 ∧ (i : Int) + 1 < gn G (b : Int); omega) (by rw [show (i : Int) + 1 = ((i + 1 : Nat) : Int) by omega]; exact (h.2.2.2.2.1.2.1 (i + 1) (by omega)).1) ?_
  refine ZE.aload_n d_Law_law_546 rfl ?_
  refine ZE.iload_n d_Law_law_547 rfl ?_
  refine ZE.iconst (n := 2) d_Law_law_548 ?_
  refine ZE.iadd d_Law_law_549 ?_
  refine ZE.ialdRE (v := (xs (i + 2))) d_Law_law_550 h.2.2.2.2.1.1.1 (by have hn0 := h.2.2.2.2.1.1.2; show 0 ≤ (i : Int) + 2 ∧ (i : Int) + 2 < gn G (b : Int); omega) (by rw [show (i : Int) + 2 = ((i + 2 : Nat) : Int) by omega]; exact (h.2.2.2.2.1.2.1 (i + 2) (by omega)).1) ?_
  refine ZE.cV [(0, (xs (i + 1))), (0, (xs (i + 2)))] [] [(2, x), (0, (xs (i + 1))), (0, (xs (i + 2)))] d_Law_law_551 l_Law_48 rfl rfl rfl rfl rfl rfl h.1.cCK.1 ?_
  refine c_powerLong (d := 0) h.1 (h.2.2.2.2.1.2.1 (i + 1) (by omega)).2 (h.2.2.2.2.1.2.1 (i + 2) (by omega)).2 (fun G2 A2 hC hT => ?_)
  show ZE 12 M_Law_law (gw G2 A2) 554 [(2, (b : Int)), (2, x), (2, o), (0, (i : Int))] [(0, plV S (xs (i + 1)) (xs (i + 2)))] _
  have h2 := h.c hC hT
  refine ZE.aload_n d_Law_law_554 rfl ?_
  refine ZE.aload_n d_Law_law_555 rfl ?_
  refine ZE.iload_n d_Law_law_556 rfl ?_
  refine ZE.iconst (n := 1) d_Law_law_557 ?_
  refine ZE.iadd d_Law_law_558 ?_
  refine ZE.ialdRE (v := (xs (i + 1))) d_Law_law_559 h2.2.2.2.2.1.1.1 (by have hn0 := h2.2.2.2.2.1.1.2; show 0 ≤ (i : Int) + 1 ∧ (i : Int) + 1 < gn G2 (b : Int); omega) (by rw [show (i : Int) + 1 = ((i + 1 : Nat) : Int) by omega]; exact (h2.2.2.2.2.1.2.1 (i + 1) (by omega)).1) ?_
  refine ZE.aload_n d_Law_law_560 rfl ?_
  refine ZE.iload_n d_Law_law_561 rfl ?_
  refine ZE.iconst (n := 2) d_Law_law_562 ?_
  refine ZE.iadd d_Law_law_563 ?_
  refine ZE.ialdRE (v := (xs (i + 2))) d_Law_law_564 h2.2.2.2.2.1.1.1 (by have hn0 := h2.2.2.2.2.1.1.2; show 0 ≤ (i : Int) + 2 ∧ (i : Int) + 2 < gn G2 (b : Int); omega) (by rw [show (i : Int) + 2 = ((i + 2 : Nat) : Int) by omega]; exact (h2.2.2.2.2.1.2.1 (i + 2) (by omega)).1) ?_
  refine ZE.cV [(0, (xs (i + 1))), (0, (xs (i + 2)))] [(0, plV S (xs (i + 1)) (xs (i + 2)))] [(2, o), (0, (xs (i + 1))), (0, (xs (i + 2)))] d_Law_law_565 l_Law_51 rfl rfl rfl rfl rfl rfl h2.2.1.1 ?_
  refine r_powerLong h2.2.1 h2.2.2.1.1 h2.2.2.1.2.1 h.1.cS.2.1 h.1.cS.2.2 (h.2.2.2.2.1.2.1 (i + 1) (by omega)).2 (h.2.2.2.2.1.2.1 (i + 2) (by omega)).2 (fun B gB => ?_)
  show ZE 12 M_Law_law (gw G2 B) 568 [(2, (b : Int)), (2, x), (2, o), (0, (i : Int))] [(0, plV S (xs (i + 1)) (xs (i + 2))), (0, plV S (xs (i + 1)) (xs (i + 2)))] _
  have h3 := h2.r (ri_qu h2.2.2.1 gB)
  refine ZE.same (tgt := 2023) d_Law_law_568 rfl ?_
  exact k _ _ _ _ _ _ _ _ h3
set_option maxRecDepth 20000 in
set_option maxHeartbeats 4000000 in
theorem lc_digit {d : Nat} {G : zG} {A : Int → Int → Int} {P : Option zV → zG → Prop} {b L : Nat} {xs : Nat → Int} {Z W : Nat} {x o : Int} {S T tl : Nat} {tf : Nat → Int} {wl : Nat} {wf : Nat → Int} (h : LH b L xs Z W G A x o S T tl tf wl wf S T tl tf wl wf) {i : Nat} (hi : i + 6 ≤ L) (k : ∀ G2 A2 (S2 T2 tl2 : Nat) (tf2 : Nat → Int) (wl2 : Nat) (wf2 : Nat → Int), LH b L xs Z W G2 A2 x o S2 T2 tl2 tf2 wl2 wf2 S2 T2 tl2 tf2 wl2 wf2 → ZE 12 M_Law_law (gw G2 A2) 2023 [(2, (b : Int)), (2, x), (2, o), (0, (i : Int))] [] P) : ZE 12 M_Law_law (gw G A) 573 [(2, (b : Int)), (2, x), (2, o), (0, (i : Int))] [] P := by
  refine ZE.aload_n d_Law_law_573 rfl ?_
  refine ZE.aload_n d_Law_law_574 rfl ?_
  refine ZE.iload_n d_Law_law_575 rfl ?_
  refine ZE.iconst (n := 1) d_Law_law_576 ?_
  refine ZE.iadd d_Law_law_577 ?_
  refine ZE.ialdRE (v := (xs (i + 1))) d_Law_law_578 h.2.2.2.2.1.1.1 (by have hn0 := h.2.2.2.2.1.1.2; show 0 ≤ (i : Int) + 1 ∧ (i : Int) + 1 < gn G (b : Int); omega) (by rw [show (i : Int) + 1 = ((i + 1 : Nat) : Int) by omega]; exact (h.2.2.2.2.1.2.1 (i + 1) (by omega)).1) ?_
  refine ZE.aload_n d_Law_law_579 rfl ?_
  refine ZE.iload_n d_Law_law_580 rfl ?_
  refine ZE.iconst (n := 2) d_Law_law_581 ?_
  refine ZE.iadd d_Law_law_582 ?_
  refine ZE.ialdRE (v := (xs (i + 2))) d_Law_law_583 h.2.2.2.2.1.1.1 (by have hn0 := h.2.2.2.2.1.1.2; show 0 ≤ (i : Int) + 2 ∧ (i : Int) + 2 < gn G (b : Int); omega) (by rw [show (i : Int) + 2 = ((i + 2 : Nat) : Int) by omega]; exact (h.2.2.2.2.1.2.1 (i + 2) (by omega)).1) ?_
  refine ZE.cV [(0, (xs (i + 1))), (0, (xs (i + 2)))] [] [(2, x), (0, (xs (i + 1))), (0, (xs (i + 2)))] d_Law_law_584 l_Law_52 rfl rfl rfl rfl rfl rfl h.1.cCK.1 ?_
  refine c_digit (d := 0) h.1 (h.2.2.2.2.1.2.1 (i + 1) (by omega)).2 (h.2.2.2.2.1.2.1 (i + 2) (by omega)).2 (fun G2 A2 hC hT => ?_)
  show ZE 12 M_Law_law (gw G2 A2) 587 [(2, (b : Int)), (2, x), (2, o), (0, (i : Int))] [(0, dgV S (xs (i + 1)) (xs (i + 2)))] _
  have h2 := h.c hC hT
  refine ZE.aload_n d_Law_law_587 rfl ?_
  refine ZE.aload_n d_Law_law_588 rfl ?_
  refine ZE.iload_n d_Law_law_589 rfl ?_
  refine ZE.iconst (n := 1) d_Law_law_590 ?_
  refine ZE.iadd d_Law_law_591 ?_
  refine ZE.ialdRE (v := (xs (i + 1))) d_Law_law_592 h2.2.2.2.2.1.1.1 (by have hn0 := h2.2.2.2.2.1.1.2; show 0 ≤ (i : Int) + 1 ∧ (i : Int) + 1 < gn G2 (b : Int); omega) (by rw [show (i : Int) + 1 = ((i + 1 : Nat) : Int) by omega]; exact (h2.2.2.2.2.1.2.1 (i + 1) (by omega)).1) ?_
  refine ZE.aload_n d_Law_law_593 rfl ?_
  refine ZE.iload_n d_Law_law_594 rfl ?_
  refine ZE.iconst (n := 2) d_Law_law_595 ?_
  refine ZE.iadd d_Law_law_596 ?_
  refine ZE.ialdRE (v := (xs (i + 2))) d_Law_law_597 h2.2.2.2.2.1.1.1 (by have hn0 := h2.2.2.2.2.1.1.2; show 0 ≤ (i : Int) + 2 ∧ (i : Int) + 2 < gn G2 (b : Int); omega) (by rw [show (i : Int) + 2 = ((i + 2 : Nat) : Int) by omega]; exact (h2.2.2.2.2.1.2.1 (i + 2) (by omega)).1) ?_
  refine ZE.cV [(0, (xs (i + 1))), (0, (xs (i + 2)))] [(0, dgV S (xs (i + 1)) (xs (i + 2)))] [(2, o), (0, (xs (i + 1))), (0, (xs (i + 2)))] d_Law_law_598 l_Law_55 rfl rfl rfl rfl rfl rfl h2.2.1.1 ?_
  refine r_digit h2.2.1 h2.2.2.1.1 h2.2.2.1.2.1 h.1.cS.2.1 h.1.cS.2.2 (h.2.2.2.2.1.2.1 (i + 1) (by omega)).2 (h.2.2.2.2.1.2.1 (i + 2) (by omega)).2 ?_
  show ZE 12 M_Law_law (gw G2 A2) 601 [(2, (b : Int)), (2, x), (2, o), (0, (i : Int))] [(0, dgV S (xs (i + 1)) (xs (i + 2))), (0, dgV S (xs (i + 1)) (xs (i + 2)))] _
  refine ZE.same (tgt := 2023) d_Law_law_601 rfl ?_
  exact k _ _ _ _ _ _ _ _ h2
set_option maxRecDepth 20000 in
set_option maxHeartbeats 4000000 in
theorem lc_left {d : Nat} {G : zG} {A : Int → Int → Int} {P : Option zV → zG → Prop} {b L : Nat} {xs : Nat → Int} {Z W : Nat} {x o : Int} {S T tl : Nat} {tf : Nat → Int} {wl : Nat} {wf : Nat → Int} (h : LH b L xs Z W G A x o S T tl tf wl wf S T tl tf wl wf) {i : Nat} (hi : i + 6 ≤ L) (k : ∀ G2 A2 (S2 T2 tl2 : Nat) (tf2 : Nat → Int) (wl2 : Nat) (wf2 : Nat → Int), LH b L xs Z W G2 A2 x o S2 T2 tl2 tf2 wl2 wf2 S2 T2 tl2 tf2 wl2 wf2 → ZE 12 M_Law_law (gw G2 A2) 2023 [(2, (b : Int)), (2, x), (2, o), (0, (i : Int))] [] P) : ZE 12 M_Law_law (gw G A) 606 [(2, (b : Int)), (2, x), (2, o), (0, (i : Int))] [] P := by
  refine ZE.aload_n d_Law_law_606 rfl ?_
  refine ZE.aload_n d_Law_law_607 rfl ?_
  refine ZE.iload_n d_Law_law_608 rfl ?_
  refine ZE.iconst (n := 1) d_Law_law_609 ?_
  refine ZE.iadd d_Law_law_610 ?_
  refine ZE.ialdRE (v := (xs (i + 1))) d_Law_law_611 h.2.2.2.2.1.1.1 (by have hn0 := h.2.2.2.2.1.1.2; show 0 ≤ (i : Int) + 1 ∧ (i : Int) + 1 < gn G (b : Int); omega) (by rw [show (i : Int) + 1 = ((i + 1 : Nat) : Int) by omega]; exact (h.2.2.2.2.1.2.1 (i + 1) (by omega)).1) ?_
  refine ZE.aload_n d_Law_law_612 rfl ?_
  refine ZE.iload_n d_Law_law_613 rfl ?_
  refine ZE.iconst (n := 2) d_Law_law_614 ?_
  refine ZE.iadd d_Law_law_615 ?_
  refine ZE.ialdRE (v := (xs (i + 2))) d_Law_law_616 h.2.2.2.2.1.1.1 (by have hn0 := h.2.2.2.2.1.1.2; show 0 ≤ (i : Int) + 2 ∧ (i : Int) + 2 < gn G (b : Int); omega) (by rw [show (i : Int) + 2 = ((i + 2 : Nat) : Int) by omega]; exact (h.2.2.2.2.1.2.1 (i + 2) (by omega)).1) ?_
  refine ZE.cV [(0, (xs (i + 1))), (0, (xs (i + 2)))] [] [(2, x), (0, (xs (i + 1))), (0, (xs (i + 2))), (9, 0)] d_Law_law_617 l_Law_56 rfl rfl rfl rfl rfl rfl h.1.cCK.1 ?_
  refine c_left (d := 0) h.1 (h.2.2.2.2.1.2.1 (i + 1) (by omega)).2 (h.2.2.2.2.1.2.1 (i + 2) (by omega)).2 (fun G2 A2 hC hT => ?_)
  show ZE 12 M_Law_law (gw G2 A2) 620 [(2, (b : Int)), (2, x), (2, o), (0, (i : Int))] [(0, lfV S (xs (i + 1)) (xs (i + 2)))] _
  have h2 := h.c hC hT
  refine ZE.aload_n d_Law_law_620 rfl ?_
  refine ZE.aload_n d_Law_law_621 rfl ?_
  refine ZE.iload_n d_Law_law_622 rfl ?_
  refine ZE.iconst (n := 1) d_Law_law_623 ?_
  refine ZE.iadd d_Law_law_624 ?_
  refine ZE.ialdRE (v := (xs (i + 1))) d_Law_law_625 h2.2.2.2.2.1.1.1 (by have hn0 := h2.2.2.2.2.1.1.2; show 0 ≤ (i : Int) + 1 ∧ (i : Int) + 1 < gn G2 (b : Int); omega) (by rw [show (i : Int) + 1 = ((i + 1 : Nat) : Int) by omega]; exact (h2.2.2.2.2.1.2.1 (i + 1) (by omega)).1) ?_
  refine ZE.aload_n d_Law_law_626 rfl ?_
  refine ZE.iload_n d_Law_law_627 rfl ?_
  refine ZE.iconst (n := 2) d_Law_law_628 ?_
  refine ZE.iadd d_Law_law_629 ?_
  refine ZE.ialdRE (v := (xs (i + 2))) d_Law_law_630 h2.2.2.2.2.1.1.1 (by have hn0 := h2.2.2.2.2.1.1.2; show 0 ≤ (i : Int) + 2 ∧ (i : Int) + 2 < gn G2 (b : Int); omega) (by rw [show (i : Int) + 2 = ((i + 2 : Nat) : Int) by omega]; exact (h2.2.2.2.2.1.2.1 (i + 2) (by omega)).1) ?_
  refine ZE.cV [(0, (xs (i + 1))), (0, (xs (i + 2)))] [(0, lfV S (xs (i + 1)) (xs (i + 2)))] [(2, o), (0, (xs (i + 1))), (0, (xs (i + 2)))] d_Law_law_631 l_Law_59 rfl rfl rfl rfl rfl rfl h2.2.1.1 ?_
  refine r_left h2.2.1 h2.2.2.1.1 h2.2.2.1.2.1 h.1.cS.2.1 h.1.cS.2.2 (h.2.2.2.2.1.2.1 (i + 1) (by omega)).2 (h.2.2.2.2.1.2.1 (i + 2) (by omega)).2 ?_
  show ZE 12 M_Law_law (gw G2 A2) 634 [(2, (b : Int)), (2, x), (2, o), (0, (i : Int))] [(0, lfV S (xs (i + 1)) (xs (i + 2))), (0, lfV S (xs (i + 1)) (xs (i + 2)))] _
  refine ZE.same (tgt := 2023) d_Law_law_634 rfl ?_
  exact k _ _ _ _ _ _ _ _ h2
set_option maxRecDepth 20000 in
set_option maxHeartbeats 4000000 in
theorem lc_small {d : Nat} {G : zG} {A : Int → Int → Int} {P : Option zV → zG → Prop} {b L : Nat} {xs : Nat → Int} {Z W : Nat} {x o : Int} {S T tl : Nat} {tf : Nat → Int} {wl : Nat} {wf : Nat → Int} (h : LH b L xs Z W G A x o S T tl tf wl wf S T tl tf wl wf) {i : Nat} (hi : i + 6 ≤ L) (k : ∀ G2 A2 (S2 T2 tl2 : Nat) (tf2 : Nat → Int) (wl2 : Nat) (wf2 : Nat → Int), LH b L xs Z W G2 A2 x o S2 T2 tl2 tf2 wl2 wf2 S2 T2 tl2 tf2 wl2 wf2 → ZE 12 M_Law_law (gw G2 A2) 2023 [(2, (b : Int)), (2, x), (2, o), (0, (i : Int))] [] P) : ZE 12 M_Law_law (gw G A) 639 [(2, (b : Int)), (2, x), (2, o), (0, (i : Int))] [] P := by
  refine ZE.aload_n d_Law_law_639 rfl ?_
  refine ZE.aload_n d_Law_law_640 rfl ?_
  refine ZE.iload_n d_Law_law_641 rfl ?_
  refine ZE.iconst (n := 1) d_Law_law_642 ?_
  refine ZE.iadd d_Law_law_643 ?_
  refine ZE.ialdRE (v := (xs (i + 1))) d_Law_law_644 h.2.2.2.2.1.1.1 (by have hn0 := h.2.2.2.2.1.1.2; show 0 ≤ (i : Int) + 1 ∧ (i : Int) + 1 < gn G (b : Int); omega) (by rw [show (i : Int) + 1 = ((i + 1 : Nat) : Int) by omega]; exact (h.2.2.2.2.1.2.1 (i + 1) (by omega)).1) ?_
  refine ZE.cV [(0, (xs (i + 1)))] [] [(2, x), (0, (xs (i + 1)))] d_Law_law_645 l_Law_60 rfl rfl rfl rfl rfl rfl h.1.cCK.1 ?_
  refine c_small (d := 0) h.1 (h.2.2.2.2.1.2.1 (i + 1) (by omega)).2 (fun G2 A2 hC hT => ?_)
  show ZE 12 M_Law_law (gw G2 A2) 648 [(2, (b : Int)), (2, x), (2, o), (0, (i : Int))] [(0, smV S (xs (i + 1)))] _
  have h2 := h.c hC hT
  refine ZE.aload_n d_Law_law_648 rfl ?_
  refine ZE.aload_n d_Law_law_649 rfl ?_
  refine ZE.iload_n d_Law_law_650 rfl ?_
  refine ZE.iconst (n := 1) d_Law_law_651 ?_
  refine ZE.iadd d_Law_law_652 ?_
  refine ZE.ialdRE (v := (xs (i + 1))) d_Law_law_653 h2.2.2.2.2.1.1.1 (by have hn0 := h2.2.2.2.2.1.1.2; show 0 ≤ (i : Int) + 1 ∧ (i : Int) + 1 < gn G2 (b : Int); omega) (by rw [show (i : Int) + 1 = ((i + 1 : Nat) : Int) by omega]; exact (h2.2.2.2.2.1.2.1 (i + 1) (by omega)).1) ?_
  refine ZE.cV [(0, (xs (i + 1)))] [(0, smV S (xs (i + 1)))] [(2, o), (0, (xs (i + 1)))] d_Law_law_654 l_Law_63 rfl rfl rfl rfl rfl rfl h2.2.1.1 ?_
  refine r_small h2.2.1 h2.2.2.1.1 h2.2.2.1.2.1 h.1.cS.2.1 h.1.cS.2.2 (h.2.2.2.2.1.2.1 (i + 1) (by omega)).2 ?_
  show ZE 12 M_Law_law (gw G2 A2) 657 [(2, (b : Int)), (2, x), (2, o), (0, (i : Int))] [(0, smV S (xs (i + 1))), (0, smV S (xs (i + 1)))] _
  refine ZE.same (tgt := 2023) d_Law_law_657 rfl ?_
  exact k _ _ _ _ _ _ _ _ h2
set_option maxRecDepth 20000 in
set_option maxHeartbeats 4000000 in
theorem lc_measure {d : Nat} {G : zG} {A : Int → Int → Int} {P : Option zV → zG → Prop} {b L : Nat} {xs : Nat → Int} {Z W : Nat} {x o : Int} {S T tl : Nat} {tf : Nat → Int} {wl : Nat} {wf : Nat → Int} (h : LH b L xs Z W G A x o S T tl tf wl wf S T tl tf wl wf) {i : Nat} (hi : i + 6 ≤ L) (k : ∀ G2 A2 (S2 T2 tl2 : Nat) (tf2 : Nat → Int) (wl2 : Nat) (wf2 : Nat → Int), LH b L xs Z W G2 A2 x o S2 T2 tl2 tf2 wl2 wf2 S2 T2 tl2 tf2 wl2 wf2 → ZE 12 M_Law_law (gw G2 A2) 2023 [(2, (b : Int)), (2, x), (2, o), (0, (i : Int))] [] P) : ZE 12 M_Law_law (gw G A) 662 [(2, (b : Int)), (2, x), (2, o), (0, (i : Int))] [] P := by
  refine ZE.aload_n d_Law_law_662 rfl ?_
  refine ZE.aload_n d_Law_law_663 rfl ?_
  refine ZE.iload_n d_Law_law_664 rfl ?_
  refine ZE.iconst (n := 1) d_Law_law_665 ?_
  refine ZE.iadd d_Law_law_666 ?_
  refine ZE.ialdRE (v := (xs (i + 1))) d_Law_law_667 h.2.2.2.2.1.1.1 (by have hn0 := h.2.2.2.2.1.1.2; show 0 ≤ (i : Int) + 1 ∧ (i : Int) + 1 < gn G (b : Int); omega) (by rw [show (i : Int) + 1 = ((i + 1 : Nat) : Int) by omega]; exact (h.2.2.2.2.1.2.1 (i + 1) (by omega)).1) ?_
  refine ZE.aload_n d_Law_law_668 rfl ?_
  refine ZE.iload_n d_Law_law_669 rfl ?_
  refine ZE.iconst (n := 2) d_Law_law_670 ?_
  refine ZE.iadd d_Law_law_671 ?_
  refine ZE.ialdRE (v := (xs (i + 2))) d_Law_law_672 h.2.2.2.2.1.1.1 (by have hn0 := h.2.2.2.2.1.1.2; show 0 ≤ (i : Int) + 2 ∧ (i : Int) + 2 < gn G (b : Int); omega) (by rw [show (i : Int) + 2 = ((i + 2 : Nat) : Int) by omega]; exact (h.2.2.2.2.1.2.1 (i + 2) (by omega)).1) ?_
  refine ZE.cV [(0, (xs (i + 1))), (0, (xs (i + 2)))] [] [(2, x), (0, (xs (i + 1))), (0, (xs (i + 2))), (9, 0)] d_Law_law_673 l_Law_64 rfl rfl rfl rfl rfl rfl h.1.cCK.1 ?_
  refine c_measure (d := 0) h.1 (h.2.2.2.2.1.2.1 (i + 1) (by omega)).2 (h.2.2.2.2.1.2.1 (i + 2) (by omega)).2 (fun G2 A2 hC hT => ?_)
  show ZE 12 M_Law_law (gw G2 A2) 676 [(2, (b : Int)), (2, x), (2, o), (0, (i : Int))] [(0, msV S (xs (i + 1)) (xs (i + 2)))] _
  have h2 := h.c hC hT
  refine ZE.aload_n d_Law_law_676 rfl ?_
  refine ZE.aload_n d_Law_law_677 rfl ?_
  refine ZE.iload_n d_Law_law_678 rfl ?_
  refine ZE.iconst (n := 1) d_Law_law_679 ?_
  refine ZE.iadd d_Law_law_680 ?_
  refine ZE.ialdRE (v := (xs (i + 1))) d_Law_law_681 h2.2.2.2.2.1.1.1 (by have hn0 := h2.2.2.2.2.1.1.2; show 0 ≤ (i : Int) + 1 ∧ (i : Int) + 1 < gn G2 (b : Int); omega) (by rw [show (i : Int) + 1 = ((i + 1 : Nat) : Int) by omega]; exact (h2.2.2.2.2.1.2.1 (i + 1) (by omega)).1) ?_
  refine ZE.aload_n d_Law_law_682 rfl ?_
  refine ZE.iload_n d_Law_law_683 rfl ?_
  refine ZE.iconst (n := 2) d_Law_law_684 ?_
  refine ZE.iadd d_Law_law_685 ?_
  refine ZE.ialdRE (v := (xs (i + 2))) d_Law_law_686 h2.2.2.2.2.1.1.1 (by have hn0 := h2.2.2.2.2.1.1.2; show 0 ≤ (i : Int) + 2 ∧ (i : Int) + 2 < gn G2 (b : Int); omega) (by rw [show (i : Int) + 2 = ((i + 2 : Nat) : Int) by omega]; exact (h2.2.2.2.2.1.2.1 (i + 2) (by omega)).1) ?_
  refine ZE.cV [(0, (xs (i + 1))), (0, (xs (i + 2)))] [(0, msV S (xs (i + 1)) (xs (i + 2)))] [(2, o), (0, (xs (i + 1))), (0, (xs (i + 2)))] d_Law_law_687 l_Law_67 rfl rfl rfl rfl rfl rfl h2.2.1.1 ?_
  refine r_measure h2.2.1 h2.2.2.1.1 h2.2.2.1.2.1 h.1.cS.2.1 h.1.cS.2.2 (h.2.2.2.2.1.2.1 (i + 1) (by omega)).2 (h.2.2.2.2.1.2.1 (i + 2) (by omega)).2 ?_
  show ZE 12 M_Law_law (gw G2 A2) 690 [(2, (b : Int)), (2, x), (2, o), (0, (i : Int))] [(0, msV S (xs (i + 1)) (xs (i + 2))), (0, msV S (xs (i + 1)) (xs (i + 2)))] _
  refine ZE.same (tgt := 2023) d_Law_law_690 rfl ?_
  exact k _ _ _ _ _ _ _ _ h2
set_option maxRecDepth 20000 in
set_option maxHeartbeats 4000000 in
theorem lc_inPair {d : Nat} {G : zG} {A : Int → Int → Int} {P : Option zV → zG → Prop} {b L : Nat} {xs : Nat → Int} {Z W : Nat} {x o : Int} {S T tl : Nat} {tf : Nat → Int} {wl : Nat} {wf : Nat → Int} (h : LH b L xs Z W G A x o S T tl tf wl wf S T tl tf wl wf) {i : Nat} (hi : i + 6 ≤ L) (k : ∀ G2 A2 (S2 T2 tl2 : Nat) (tf2 : Nat → Int) (wl2 : Nat) (wf2 : Nat → Int), LH b L xs Z W G2 A2 x o S2 T2 tl2 tf2 wl2 wf2 S2 T2 tl2 tf2 wl2 wf2 → ZE 12 M_Law_law (gw G2 A2) 2023 [(2, (b : Int)), (2, x), (2, o), (0, (i : Int))] [] P) : ZE 12 M_Law_law (gw G A) 695 [(2, (b : Int)), (2, x), (2, o), (0, (i : Int))] [] P := by
  refine ZE.aload_n d_Law_law_695 rfl ?_
  refine ZE.aload_n d_Law_law_696 rfl ?_
  refine ZE.iload_n d_Law_law_697 rfl ?_
  refine ZE.iconst (n := 1) d_Law_law_698 ?_
  refine ZE.iadd d_Law_law_699 ?_
  refine ZE.ialdRE (v := (xs (i + 1))) d_Law_law_700 h.2.2.2.2.1.1.1 (by have hn0 := h.2.2.2.2.1.1.2; show 0 ≤ (i : Int) + 1 ∧ (i : Int) + 1 < gn G (b : Int); omega) (by rw [show (i : Int) + 1 = ((i + 1 : Nat) : Int) by omega]; exact (h.2.2.2.2.1.2.1 (i + 1) (by omega)).1) ?_
  refine ZE.aload_n d_Law_law_701 rfl ?_
  refine ZE.iload_n d_Law_law_702 rfl ?_
  refine ZE.iconst (n := 2) d_Law_law_703 ?_
  refine ZE.iadd d_Law_law_704 ?_
  refine ZE.ialdRE (v := (xs (i + 2))) d_Law_law_705 h.2.2.2.2.1.1.1 (by have hn0 := h.2.2.2.2.1.1.2; show 0 ≤ (i : Int) + 2 ∧ (i : Int) + 2 < gn G (b : Int); omega) (by rw [show (i : Int) + 2 = ((i + 2 : Nat) : Int) by omega]; exact (h.2.2.2.2.1.2.1 (i + 2) (by omega)).1) ?_
  refine ZE.aload_n d_Law_law_706 rfl ?_
  refine ZE.iload_n d_Law_law_707 rfl ?_
  refine ZE.iconst (n := 3) d_Law_law_708 ?_
  refine ZE.iadd d_Law_law_709 ?_
  refine ZE.ialdRE (v := (xs (i + 3))) d_Law_law_710 h.2.2.2.2.1.1.1 (by have hn0 := h.2.2.2.2.1.1.2; show 0 ≤ (i : Int) + 3 ∧ (i : Int) + 3 < gn G (b : Int); omega) (by rw [show (i : Int) + 3 = ((i + 3 : Nat) : Int) by omega]; exact (h.2.2.2.2.1.2.1 (i + 3) (by omega)).1) ?_
  refine ZE.cV [(0, (xs (i + 1))), (0, (xs (i + 2))), (0, (xs (i + 3)))] [] [(2, x), (0, (xs (i + 1))), (0, (xs (i + 2))), (0, (xs (i + 3))), (9, 0), (9, 0)] d_Law_law_711 l_Law_68 rfl rfl rfl rfl rfl rfl h.1.cCK.1 ?_
  refine c_inPair (d := 0) h.1 (h.2.2.2.2.1.2.1 (i + 1) (by omega)).2 (h.2.2.2.2.1.2.1 (i + 2) (by omega)).2 (h.2.2.2.2.1.2.1 (i + 3) (by omega)).2 (fun G2 A2 hC hT => ?_)
  show ZE 12 M_Law_law (gw G2 A2) 714 [(2, (b : Int)), (2, x), (2, o), (0, (i : Int))] [(0, ipV S (xs (i + 1)) (xs (i + 2)) (xs (i + 3)))] _
  have h2 := h.c hC hT
  refine ZE.aload_n d_Law_law_714 rfl ?_
  refine ZE.aload_n d_Law_law_715 rfl ?_
  refine ZE.iload_n d_Law_law_716 rfl ?_
  refine ZE.iconst (n := 1) d_Law_law_717 ?_
  refine ZE.iadd d_Law_law_718 ?_
  refine ZE.ialdRE (v := (xs (i + 1))) d_Law_law_719 h2.2.2.2.2.1.1.1 (by have hn0 := h2.2.2.2.2.1.1.2; show 0 ≤ (i : Int) + 1 ∧ (i : Int) + 1 < gn G2 (b : Int); omega) (by rw [show (i : Int) + 1 = ((i + 1 : Nat) : Int) by omega]; exact (h2.2.2.2.2.1.2.1 (i + 1) (by omega)).1) ?_
  refine ZE.aload_n d_Law_law_720 rfl ?_
  refine ZE.iload_n d_Law_law_721 rfl ?_
  refine ZE.iconst (n := 2) d_Law_law_722 ?_
  refine ZE.iadd d_Law_law_723 ?_
  refine ZE.ialdRE (v := (xs (i + 2))) d_Law_law_724 h2.2.2.2.2.1.1.1 (by have hn0 := h2.2.2.2.2.1.1.2; show 0 ≤ (i : Int) + 2 ∧ (i : Int) + 2 < gn G2 (b : Int); omega) (by rw [show (i : Int) + 2 = ((i + 2 : Nat) : Int) by omega]; exact (h2.2.2.2.2.1.2.1 (i + 2) (by omega)).1) ?_
  refine ZE.aload_n d_Law_law_725 rfl ?_
  refine ZE.iload_n d_Law_law_726 rfl ?_
  refine ZE.iconst (n := 3) d_Law_law_727 ?_
  refine ZE.iadd d_Law_law_728 ?_
  refine ZE.ialdRE (v := (xs (i + 3))) d_Law_law_729 h2.2.2.2.2.1.1.1 (by have hn0 := h2.2.2.2.2.1.1.2; show 0 ≤ (i : Int) + 3 ∧ (i : Int) + 3 < gn G2 (b : Int); omega) (by rw [show (i : Int) + 3 = ((i + 3 : Nat) : Int) by omega]; exact (h2.2.2.2.2.1.2.1 (i + 3) (by omega)).1) ?_
  refine ZE.cV [(0, (xs (i + 1))), (0, (xs (i + 2))), (0, (xs (i + 3)))] [(0, ipV S (xs (i + 1)) (xs (i + 2)) (xs (i + 3)))] [(2, o), (0, (xs (i + 1))), (0, (xs (i + 2))), (0, (xs (i + 3)))] d_Law_law_730 l_Law_71 rfl rfl rfl rfl rfl rfl h2.2.1.1 ?_
  refine r_inPair h2.2.1 h2.2.2.1.1 h2.2.2.1.2.1 h.1.cS.2.1 h.1.cS.2.2 (h.2.2.2.2.1.2.1 (i + 1) (by omega)).2 (h.2.2.2.2.1.2.1 (i + 2) (by omega)).2 (h.2.2.2.2.1.2.1 (i + 3) (by omega)).2 ?_
  show ZE 12 M_Law_law (gw G2 A2) 733 [(2, (b : Int)), (2, x), (2, o), (0, (i : Int))] [(0, ipV S (xs (i + 1)) (xs (i + 2)) (xs (i + 3))), (0, ipV S (xs (i + 1)) (xs (i + 2)) (xs (i + 3)))] _
  refine ZE.same (tgt := 2023) d_Law_law_733 rfl ?_
  exact k _ _ _ _ _ _ _ _ h2
set_option maxRecDepth 20000 in
set_option maxHeartbeats 4000000 in
theorem lc_order {d : Nat} {G : zG} {A : Int → Int → Int} {P : Option zV → zG → Prop} {b L : Nat} {xs : Nat → Int} {Z W : Nat} {x o : Int} {S T tl : Nat} {tf : Nat → Int} {wl : Nat} {wf : Nat → Int} (h : LH b L xs Z W G A x o S T tl tf wl wf S T tl tf wl wf) {i : Nat} (hi : i + 6 ≤ L) (k : ∀ G2 A2 (S2 T2 tl2 : Nat) (tf2 : Nat → Int) (wl2 : Nat) (wf2 : Nat → Int), LH b L xs Z W G2 A2 x o S2 T2 tl2 tf2 wl2 wf2 S2 T2 tl2 tf2 wl2 wf2 → ZE 12 M_Law_law (gw G2 A2) 2023 [(2, (b : Int)), (2, x), (2, o), (0, (i : Int))] [] P) : ZE 12 M_Law_law (gw G A) 738 [(2, (b : Int)), (2, x), (2, o), (0, (i : Int))] [] P := by
  refine ZE.aload_n d_Law_law_738 rfl ?_
  refine ZE.aload_n d_Law_law_739 rfl ?_
  refine ZE.iload_n d_Law_law_740 rfl ?_
  refine ZE.iconst (n := 1) d_Law_law_741 ?_
  refine ZE.iadd d_Law_law_742 ?_
  refine ZE.ialdRE (v := (xs (i + 1))) d_Law_law_743 h.2.2.2.2.1.1.1 (by have hn0 := h.2.2.2.2.1.1.2; show 0 ≤ (i : Int) + 1 ∧ (i : Int) + 1 < gn G (b : Int); omega) (by rw [show (i : Int) + 1 = ((i + 1 : Nat) : Int) by omega]; exact (h.2.2.2.2.1.2.1 (i + 1) (by omega)).1) ?_
  refine ZE.aload_n d_Law_law_744 rfl ?_
  refine ZE.iload_n d_Law_law_745 rfl ?_
  refine ZE.iconst (n := 2) d_Law_law_746 ?_
  refine ZE.iadd d_Law_law_747 ?_
  refine ZE.ialdRE (v := (xs (i + 2))) d_Law_law_748 h.2.2.2.2.1.1.1 (by have hn0 := h.2.2.2.2.1.1.2; show 0 ≤ (i : Int) + 2 ∧ (i : Int) + 2 < gn G (b : Int); omega) (by rw [show (i : Int) + 2 = ((i + 2 : Nat) : Int) by omega]; exact (h.2.2.2.2.1.2.1 (i + 2) (by omega)).1) ?_
  refine ZE.aload_n d_Law_law_749 rfl ?_
  refine ZE.iload_n d_Law_law_750 rfl ?_
  refine ZE.iconst (n := 3) d_Law_law_751 ?_
  refine ZE.iadd d_Law_law_752 ?_
  refine ZE.ialdRE (v := (xs (i + 3))) d_Law_law_753 h.2.2.2.2.1.1.1 (by have hn0 := h.2.2.2.2.1.1.2; show 0 ≤ (i : Int) + 3 ∧ (i : Int) + 3 < gn G (b : Int); omega) (by rw [show (i : Int) + 3 = ((i + 3 : Nat) : Int) by omega]; exact (h.2.2.2.2.1.2.1 (i + 3) (by omega)).1) ?_
  refine ZE.cV [(0, (xs (i + 1))), (0, (xs (i + 2))), (0, (xs (i + 3)))] [] [(2, x), (0, (xs (i + 1))), (0, (xs (i + 2))), (0, (xs (i + 3)))] d_Law_law_754 l_Law_72 rfl rfl rfl rfl rfl rfl h.1.cCK.1 ?_
  refine c_order (d := 0) h.1 (h.2.2.2.2.1.2.1 (i + 1) (by omega)).2 (h.2.2.2.2.1.2.1 (i + 2) (by omega)).2 (h.2.2.2.2.1.2.1 (i + 3) (by omega)).2 (fun G2 A2 hC hT => ?_)
  show ZE 12 M_Law_law (gw G2 A2) 757 [(2, (b : Int)), (2, x), (2, o), (0, (i : Int))] [(0, orV S (xs (i + 1)) (xs (i + 2)) (xs (i + 3)))] _
  have h2 := h.c hC hT
  refine ZE.aload_n d_Law_law_757 rfl ?_
  refine ZE.aload_n d_Law_law_758 rfl ?_
  refine ZE.iload_n d_Law_law_759 rfl ?_
  refine ZE.iconst (n := 1) d_Law_law_760 ?_
  refine ZE.iadd d_Law_law_761 ?_
  refine ZE.ialdRE (v := (xs (i + 1))) d_Law_law_762 h2.2.2.2.2.1.1.1 (by have hn0 := h2.2.2.2.2.1.1.2; show 0 ≤ (i : Int) + 1 ∧ (i : Int) + 1 < gn G2 (b : Int); omega) (by rw [show (i : Int) + 1 = ((i + 1 : Nat) : Int) by omega]; exact (h2.2.2.2.2.1.2.1 (i + 1) (by omega)).1) ?_
  refine ZE.aload_n d_Law_law_763 rfl ?_
  refine ZE.iload_n d_Law_law_764 rfl ?_
  refine ZE.iconst (n := 2) d_Law_law_765 ?_
  refine ZE.iadd d_Law_law_766 ?_
  refine ZE.ialdRE (v := (xs (i + 2))) d_Law_law_767 h2.2.2.2.2.1.1.1 (by have hn0 := h2.2.2.2.2.1.1.2; show 0 ≤ (i : Int) + 2 ∧ (i : Int) + 2 < gn G2 (b : Int); omega) (by rw [show (i : Int) + 2 = ((i + 2 : Nat) : Int) by omega]; exact (h2.2.2.2.2.1.2.1 (i + 2) (by omega)).1) ?_
  refine ZE.aload_n d_Law_law_768 rfl ?_
  refine ZE.iload_n d_Law_law_769 rfl ?_
  refine ZE.iconst (n := 3) d_Law_law_770 ?_
  refine ZE.iadd d_Law_law_771 ?_
  refine ZE.ialdRE (v := (xs (i + 3))) d_Law_law_772 h2.2.2.2.2.1.1.1 (by have hn0 := h2.2.2.2.2.1.1.2; show 0 ≤ (i : Int) + 3 ∧ (i : Int) + 3 < gn G2 (b : Int); omega) (by rw [show (i : Int) + 3 = ((i + 3 : Nat) : Int) by omega]; exact (h2.2.2.2.2.1.2.1 (i + 3) (by omega)).1) ?_
  refine ZE.cV [(0, (xs (i + 1))), (0, (xs (i + 2))), (0, (xs (i + 3)))] [(0, orV S (xs (i + 1)) (xs (i + 2)) (xs (i + 3)))] [(2, o), (0, (xs (i + 1))), (0, (xs (i + 2))), (0, (xs (i + 3))), (9, 0), (9, 0), (9, 0)] d_Law_law_773 l_Law_75 rfl rfl rfl rfl rfl rfl h2.2.1.1 ?_
  refine r_order h2.2.1 h2.2.2.1.1 h2.2.2.1.2.1 h.1.cS.2.1 h.1.cS.2.2 (h.2.2.2.2.1.2.1 (i + 1) (by omega)).2 (h.2.2.2.2.1.2.1 (i + 2) (by omega)).2 (h.2.2.2.2.1.2.1 (i + 3) (by omega)).2 ?_
  show ZE 12 M_Law_law (gw G2 A2) 776 [(2, (b : Int)), (2, x), (2, o), (0, (i : Int))] [(0, orV S (xs (i + 1)) (xs (i + 2)) (xs (i + 3))), (0, orV S (xs (i + 1)) (xs (i + 2)) (xs (i + 3)))] _
  refine ZE.same (tgt := 2023) d_Law_law_776 rfl ?_
  exact k _ _ _ _ _ _ _ _ h2
set_option maxRecDepth 20000 in
set_option maxHeartbeats 4000000 in
theorem lc_count {d : Nat} {G : zG} {A : Int → Int → Int} {P : Option zV → zG → Prop} {b L : Nat} {xs : Nat → Int} {Z W : Nat} {x o : Int} {S T tl : Nat} {tf : Nat → Int} {wl : Nat} {wf : Nat → Int} (h : LH b L xs Z W G A x o S T tl tf wl wf S T tl tf wl wf) {i : Nat} (hi : i + 6 ≤ L) (k : ∀ G2 A2 (S2 T2 tl2 : Nat) (tf2 : Nat → Int) (wl2 : Nat) (wf2 : Nat → Int), LH b L xs Z W G2 A2 x o S2 T2 tl2 tf2 wl2 wf2 S2 T2 tl2 tf2 wl2 wf2 → ZE 12 M_Law_law (gw G2 A2) 2023 [(2, (b : Int)), (2, x), (2, o), (0, (i : Int))] [] P) : ZE 12 M_Law_law (gw G A) 781 [(2, (b : Int)), (2, x), (2, o), (0, (i : Int))] [] P := by
  refine ZE.aload_n d_Law_law_781 rfl ?_
  refine ZE.aload_n d_Law_law_782 rfl ?_
  refine ZE.iload_n d_Law_law_783 rfl ?_
  refine ZE.iconst (n := 1) d_Law_law_784 ?_
  refine ZE.iadd d_Law_law_785 ?_
  refine ZE.ialdRE (v := (xs (i + 1))) d_Law_law_786 h.2.2.2.2.1.1.1 (by have hn0 := h.2.2.2.2.1.1.2; show 0 ≤ (i : Int) + 1 ∧ (i : Int) + 1 < gn G (b : Int); omega) (by rw [show (i : Int) + 1 = ((i + 1 : Nat) : Int) by omega]; exact (h.2.2.2.2.1.2.1 (i + 1) (by omega)).1) ?_
  refine ZE.aload_n d_Law_law_787 rfl ?_
  refine ZE.iload_n d_Law_law_788 rfl ?_
  refine ZE.iconst (n := 2) d_Law_law_789 ?_
  refine ZE.iadd d_Law_law_790 ?_
  refine ZE.ialdRE (v := (xs (i + 2))) d_Law_law_791 h.2.2.2.2.1.1.1 (by have hn0 := h.2.2.2.2.1.1.2; show 0 ≤ (i : Int) + 2 ∧ (i : Int) + 2 < gn G (b : Int); omega) (by rw [show (i : Int) + 2 = ((i + 2 : Nat) : Int) by omega]; exact (h.2.2.2.2.1.2.1 (i + 2) (by omega)).1) ?_
  refine ZE.aload_n d_Law_law_792 rfl ?_
  refine ZE.iload_n d_Law_law_793 rfl ?_
  refine ZE.iconst (n := 3) d_Law_law_794 ?_
  refine ZE.iadd d_Law_law_795 ?_
  refine ZE.ialdRE (v := (xs (i + 3))) d_Law_law_796 h.2.2.2.2.1.1.1 (by have hn0 := h.2.2.2.2.1.1.2; show 0 ≤ (i : Int) + 3 ∧ (i : Int) + 3 < gn G (b : Int); omega) (by rw [show (i : Int) + 3 = ((i + 3 : Nat) : Int) by omega]; exact (h.2.2.2.2.1.2.1 (i + 3) (by omega)).1) ?_
  refine ZE.cV [(0, (xs (i + 1))), (0, (xs (i + 2))), (0, (xs (i + 3)))] [] [(2, x), (0, (xs (i + 1))), (0, (xs (i + 2))), (0, (xs (i + 3))), (9, 0), (9, 0), (9, 0)] d_Law_law_797 l_Law_76 rfl rfl rfl rfl rfl rfl h.1.cCK.1 ?_
  refine c_count (d := 0) h.1 (h.2.2.2.2.1.2.1 (i + 1) (by omega)).2 (h.2.2.2.2.1.2.1 (i + 2) (by omega)).2 (h.2.2.2.2.1.2.1 (i + 3) (by omega)).2 (fun G2 A2 hC hT => ?_)
  show ZE 12 M_Law_law (gw G2 A2) 800 [(2, (b : Int)), (2, x), (2, o), (0, (i : Int))] [(0, ctV S (xs (i + 1)) (xs (i + 2)) (xs (i + 3)))] _
  have h2 := h.c hC hT
  refine ZE.aload_n d_Law_law_800 rfl ?_
  refine ZE.aload_n d_Law_law_801 rfl ?_
  refine ZE.iload_n d_Law_law_802 rfl ?_
  refine ZE.iconst (n := 1) d_Law_law_803 ?_
  refine ZE.iadd d_Law_law_804 ?_
  refine ZE.ialdRE (v := (xs (i + 1))) d_Law_law_805 h2.2.2.2.2.1.1.1 (by have hn0 := h2.2.2.2.2.1.1.2; show 0 ≤ (i : Int) + 1 ∧ (i : Int) + 1 < gn G2 (b : Int); omega) (by rw [show (i : Int) + 1 = ((i + 1 : Nat) : Int) by omega]; exact (h2.2.2.2.2.1.2.1 (i + 1) (by omega)).1) ?_
  refine ZE.aload_n d_Law_law_806 rfl ?_
  refine ZE.iload_n d_Law_law_807 rfl ?_
  refine ZE.iconst (n := 2) d_Law_law_808 ?_
  refine ZE.iadd d_Law_law_809 ?_
  refine ZE.ialdRE (v := (xs (i + 2))) d_Law_law_810 h2.2.2.2.2.1.1.1 (by have hn0 := h2.2.2.2.2.1.1.2; show 0 ≤ (i : Int) + 2 ∧ (i : Int) + 2 < gn G2 (b : Int); omega) (by rw [show (i : Int) + 2 = ((i + 2 : Nat) : Int) by omega]; exact (h2.2.2.2.2.1.2.1 (i + 2) (by omega)).1) ?_
  refine ZE.aload_n d_Law_law_811 rfl ?_
  refine ZE.iload_n d_Law_law_812 rfl ?_
  refine ZE.iconst (n := 3) d_Law_law_813 ?_
  refine ZE.iadd d_Law_law_814 ?_
  refine ZE.ialdRE (v := (xs (i + 3))) d_Law_law_815 h2.2.2.2.2.1.1.1 (by have hn0 := h2.2.2.2.2.1.1.2; show 0 ≤ (i : Int) + 3 ∧ (i : Int) + 3 < gn G2 (b : Int); omega) (by rw [show (i : Int) + 3 = ((i + 3 : Nat) : Int) by omega]; exact (h2.2.2.2.2.1.2.1 (i + 3) (by omega)).1) ?_
  refine ZE.cV [(0, (xs (i + 1))), (0, (xs (i + 2))), (0, (xs (i + 3)))] [(0, ctV S (xs (i + 1)) (xs (i + 2)) (xs (i + 3)))] [(2, o), (0, (xs (i + 1))), (0, (xs (i + 2))), (0, (xs (i + 3))), (9, 0), (9, 0)] d_Law_law_816 l_Law_79 rfl rfl rfl rfl rfl rfl h2.2.1.1 ?_
  refine r_count h2.2.1 h2.2.2.1.1 h2.2.2.1.2.1 h.1.cS.2.1 h.1.cS.2.2 (h.2.2.2.2.1.2.1 (i + 1) (by omega)).2 (h.2.2.2.2.1.2.1 (i + 2) (by omega)).2 (h.2.2.2.2.1.2.1 (i + 3) (by omega)).2 ?_
  show ZE 12 M_Law_law (gw G2 A2) 819 [(2, (b : Int)), (2, x), (2, o), (0, (i : Int))] [(0, ctV S (xs (i + 1)) (xs (i + 2)) (xs (i + 3))), (0, ctV S (xs (i + 1)) (xs (i + 2)) (xs (i + 3)))] _
  refine ZE.same (tgt := 2023) d_Law_law_819 rfl ?_
  exact k _ _ _ _ _ _ _ _ h2
set_option maxRecDepth 20000 in
set_option maxHeartbeats 4000000 in
theorem lc_top {d : Nat} {G : zG} {A : Int → Int → Int} {P : Option zV → zG → Prop} {b L : Nat} {xs : Nat → Int} {Z W : Nat} {x o : Int} {S T tl : Nat} {tf : Nat → Int} {wl : Nat} {wf : Nat → Int} (h : LH b L xs Z W G A x o S T tl tf wl wf S T tl tf wl wf) {i : Nat} (hi : i + 6 ≤ L) (k : ∀ G2 A2 (S2 T2 tl2 : Nat) (tf2 : Nat → Int) (wl2 : Nat) (wf2 : Nat → Int), LH b L xs Z W G2 A2 x o S2 T2 tl2 tf2 wl2 wf2 S2 T2 tl2 tf2 wl2 wf2 → ZE 12 M_Law_law (gw G2 A2) 2023 [(2, (b : Int)), (2, x), (2, o), (0, (i : Int))] [] P) : ZE 12 M_Law_law (gw G A) 824 [(2, (b : Int)), (2, x), (2, o), (0, (i : Int))] [] P := by
  refine ZE.aload_n d_Law_law_824 rfl ?_
  refine ZE.aload_n d_Law_law_825 rfl ?_
  refine ZE.iload_n d_Law_law_826 rfl ?_
  refine ZE.iconst (n := 1) d_Law_law_827 ?_
  refine ZE.iadd d_Law_law_828 ?_
  refine ZE.ialdRE (v := (xs (i + 1))) d_Law_law_829 h.2.2.2.2.1.1.1 (by have hn0 := h.2.2.2.2.1.1.2; show 0 ≤ (i : Int) + 1 ∧ (i : Int) + 1 < gn G (b : Int); omega) (by rw [show (i : Int) + 1 = ((i + 1 : Nat) : Int) by omega]; exact (h.2.2.2.2.1.2.1 (i + 1) (by omega)).1) ?_
  refine ZE.cV [(0, (xs (i + 1)))] [] [(2, x), (0, (xs (i + 1))), (9, 0), (9, 0)] d_Law_law_830 l_Law_80 rfl rfl rfl rfl rfl rfl h.1.cCK.1 ?_
  refine c_top (d := 0) h.1 (h.2.2.2.2.1.2.1 (i + 1) (by omega)).2 (fun G2 A2 hC hT => ?_)
  show ZE 12 M_Law_law (gw G2 A2) 833 [(2, (b : Int)), (2, x), (2, o), (0, (i : Int))] [(0, tpV S (xs (i + 1)))] _
  have h2 := h.c hC hT
  refine ZE.aload_n d_Law_law_833 rfl ?_
  refine ZE.aload_n d_Law_law_834 rfl ?_
  refine ZE.iload_n d_Law_law_835 rfl ?_
  refine ZE.iconst (n := 1) d_Law_law_836 ?_
  refine ZE.iadd d_Law_law_837 ?_
  refine ZE.ialdRE (v := (xs (i + 1))) d_Law_law_838 h2.2.2.2.2.1.1.1 (by have hn0 := h2.2.2.2.2.1.1.2; show 0 ≤ (i : Int) + 1 ∧ (i : Int) + 1 < gn G2 (b : Int); omega) (by rw [show (i : Int) + 1 = ((i + 1 : Nat) : Int) by omega]; exact (h2.2.2.2.2.1.2.1 (i + 1) (by omega)).1) ?_
  refine ZE.cV [(0, (xs (i + 1)))] [(0, tpV S (xs (i + 1)))] [(2, o), (0, (xs (i + 1))), (9, 0), (9, 0)] d_Law_law_839 l_Law_83 rfl rfl rfl rfl rfl rfl h2.2.1.1 ?_
  refine r_top h2.2.1 h2.2.2.1.1 h2.2.2.1.2.1 h.1.cS.2.1 h.1.cS.2.2 (h.2.2.2.2.1.2.1 (i + 1) (by omega)).2 ?_
  show ZE 12 M_Law_law (gw G2 A2) 842 [(2, (b : Int)), (2, x), (2, o), (0, (i : Int))] [(0, tpV S (xs (i + 1))), (0, tpV S (xs (i + 1)))] _
  refine ZE.same (tgt := 2023) d_Law_law_842 rfl ?_
  exact k _ _ _ _ _ _ _ _ h2
set_option maxRecDepth 20000 in
set_option maxHeartbeats 4000000 in
theorem lc_below {d : Nat} {G : zG} {A : Int → Int → Int} {P : Option zV → zG → Prop} {b L : Nat} {xs : Nat → Int} {Z W : Nat} {x o : Int} {S T tl : Nat} {tf : Nat → Int} {wl : Nat} {wf : Nat → Int} (h : LH b L xs Z W G A x o S T tl tf wl wf S T tl tf wl wf) {i : Nat} (hi : i + 6 ≤ L) (k : ∀ G2 A2 (S2 T2 tl2 : Nat) (tf2 : Nat → Int) (wl2 : Nat) (wf2 : Nat → Int), LH b L xs Z W G2 A2 x o S2 T2 tl2 tf2 wl2 wf2 S2 T2 tl2 tf2 wl2 wf2 → ZE 12 M_Law_law (gw G2 A2) 2023 [(2, (b : Int)), (2, x), (2, o), (0, (i : Int))] [] P) : ZE 12 M_Law_law (gw G A) 847 [(2, (b : Int)), (2, x), (2, o), (0, (i : Int))] [] P := by
  refine ZE.aload_n d_Law_law_847 rfl ?_
  refine ZE.aload_n d_Law_law_848 rfl ?_
  refine ZE.iload_n d_Law_law_849 rfl ?_
  refine ZE.iconst (n := 1) d_Law_law_850 ?_
  refine ZE.iadd d_Law_law_851 ?_
  refine ZE.ialdRE (v := (xs (i + 1))) d_Law_law_852 h.2.2.2.2.1.1.1 (by have hn0 := h.2.2.2.2.1.1.2; show 0 ≤ (i : Int) + 1 ∧ (i : Int) + 1 < gn G (b : Int); omega) (by rw [show (i : Int) + 1 = ((i + 1 : Nat) : Int) by omega]; exact (h.2.2.2.2.1.2.1 (i + 1) (by omega)).1) ?_
  refine ZE.cV [(0, (xs (i + 1)))] [] [(2, x), (0, (xs (i + 1))), (9, 0), (9, 0)] d_Law_law_853 l_Law_84 rfl rfl rfl rfl rfl rfl h.1.cCK.1 ?_
  refine c_below (d := 0) h.1 (h.2.2.2.2.1.2.1 (i + 1) (by omega)).2 (fun G2 A2 hC hT => ?_)
  show ZE 12 M_Law_law (gw G2 A2) 856 [(2, (b : Int)), (2, x), (2, o), (0, (i : Int))] [(0, blV S (xs (i + 1)))] _
  have h2 := h.c hC hT
  refine ZE.aload_n d_Law_law_856 rfl ?_
  refine ZE.aload_n d_Law_law_857 rfl ?_
  refine ZE.iload_n d_Law_law_858 rfl ?_
  refine ZE.iconst (n := 1) d_Law_law_859 ?_
  refine ZE.iadd d_Law_law_860 ?_
  refine ZE.ialdRE (v := (xs (i + 1))) d_Law_law_861 h2.2.2.2.2.1.1.1 (by have hn0 := h2.2.2.2.2.1.1.2; show 0 ≤ (i : Int) + 1 ∧ (i : Int) + 1 < gn G2 (b : Int); omega) (by rw [show (i : Int) + 1 = ((i + 1 : Nat) : Int) by omega]; exact (h2.2.2.2.2.1.2.1 (i + 1) (by omega)).1) ?_
  refine ZE.cV [(0, (xs (i + 1)))] [(0, blV S (xs (i + 1)))] [(2, o), (0, (xs (i + 1))), (9, 0), (9, 0)] d_Law_law_862 l_Law_87 rfl rfl rfl rfl rfl rfl h2.2.1.1 ?_
  refine r_below h2.2.1 h2.2.2.1.1 h2.2.2.1.2.1 h.1.cS.2.1 h.1.cS.2.2 (h.2.2.2.2.1.2.1 (i + 1) (by omega)).2 ?_
  show ZE 12 M_Law_law (gw G2 A2) 865 [(2, (b : Int)), (2, x), (2, o), (0, (i : Int))] [(0, blV S (xs (i + 1))), (0, blV S (xs (i + 1)))] _
  refine ZE.same (tgt := 2023) d_Law_law_865 rfl ?_
  exact k _ _ _ _ _ _ _ _ h2
set_option maxRecDepth 20000 in
set_option maxHeartbeats 4000000 in
theorem lc_run {d : Nat} {G : zG} {A : Int → Int → Int} {P : Option zV → zG → Prop} {b L : Nat} {xs : Nat → Int} {Z W : Nat} {x o : Int} {S T tl : Nat} {tf : Nat → Int} {wl : Nat} {wf : Nat → Int} (h : LH b L xs Z W G A x o S T tl tf wl wf S T tl tf wl wf) {i : Nat} (hi : i + 6 ≤ L) (k : ∀ G2 A2 (S2 T2 tl2 : Nat) (tf2 : Nat → Int) (wl2 : Nat) (wf2 : Nat → Int), LH b L xs Z W G2 A2 x o S2 T2 tl2 tf2 wl2 wf2 S2 T2 tl2 tf2 wl2 wf2 → ZE 12 M_Law_law (gw G2 A2) 2023 [(2, (b : Int)), (2, x), (2, o), (0, (i : Int))] [] P) : ZE 12 M_Law_law (gw G A) 870 [(2, (b : Int)), (2, x), (2, o), (0, (i : Int))] [] P := by
  refine ZE.aload_n d_Law_law_870 rfl ?_
  refine ZE.aload_n d_Law_law_871 rfl ?_
  refine ZE.iload_n d_Law_law_872 rfl ?_
  refine ZE.iconst (n := 1) d_Law_law_873 ?_
  refine ZE.iadd d_Law_law_874 ?_
  refine ZE.ialdRE (v := (xs (i + 1))) d_Law_law_875 h.2.2.2.2.1.1.1 (by have hn0 := h.2.2.2.2.1.1.2; show 0 ≤ (i : Int) + 1 ∧ (i : Int) + 1 < gn G (b : Int); omega) (by rw [show (i : Int) + 1 = ((i + 1 : Nat) : Int) by omega]; exact (h.2.2.2.2.1.2.1 (i + 1) (by omega)).1) ?_
  refine ZE.aload_n d_Law_law_876 rfl ?_
  refine ZE.iload_n d_Law_law_877 rfl ?_
  refine ZE.iconst (n := 2) d_Law_law_878 ?_
  refine ZE.iadd d_Law_law_879 ?_
  refine ZE.ialdRE (v := (xs (i + 2))) d_Law_law_880 h.2.2.2.2.1.1.1 (by have hn0 := h.2.2.2.2.1.1.2; show 0 ≤ (i : Int) + 2 ∧ (i : Int) + 2 < gn G (b : Int); omega) (by rw [show (i : Int) + 2 = ((i + 2 : Nat) : Int) by omega]; exact (h.2.2.2.2.1.2.1 (i + 2) (by omega)).1) ?_
  refine ZE.cV [(0, (xs (i + 1))), (0, (xs (i + 2)))] [] [(2, x), (0, (xs (i + 1))), (0, (xs (i + 2))), (9, 0)] d_Law_law_881 l_Law_88 rfl rfl rfl rfl rfl rfl h.1.cCK.1 ?_
  refine c_run (d := 0) h.1 (h.2.2.2.2.1.2.1 (i + 1) (by omega)).2 (h.2.2.2.2.1.2.1 (i + 2) (by omega)).2 (fun G2 A2 hC hT => ?_)
  show ZE 12 M_Law_law (gw G2 A2) 884 [(2, (b : Int)), (2, x), (2, o), (0, (i : Int))] [(0, rnV S (xs (i + 1)) (xs (i + 2)))] _
  have h2 := h.c hC hT
  refine ZE.aload_n d_Law_law_884 rfl ?_
  refine ZE.aload_n d_Law_law_885 rfl ?_
  refine ZE.iload_n d_Law_law_886 rfl ?_
  refine ZE.iconst (n := 1) d_Law_law_887 ?_
  refine ZE.iadd d_Law_law_888 ?_
  refine ZE.ialdRE (v := (xs (i + 1))) d_Law_law_889 h2.2.2.2.2.1.1.1 (by have hn0 := h2.2.2.2.2.1.1.2; show 0 ≤ (i : Int) + 1 ∧ (i : Int) + 1 < gn G2 (b : Int); omega) (by rw [show (i : Int) + 1 = ((i + 1 : Nat) : Int) by omega]; exact (h2.2.2.2.2.1.2.1 (i + 1) (by omega)).1) ?_
  refine ZE.aload_n d_Law_law_890 rfl ?_
  refine ZE.iload_n d_Law_law_891 rfl ?_
  refine ZE.iconst (n := 2) d_Law_law_892 ?_
  refine ZE.iadd d_Law_law_893 ?_
  refine ZE.ialdRE (v := (xs (i + 2))) d_Law_law_894 h2.2.2.2.2.1.1.1 (by have hn0 := h2.2.2.2.2.1.1.2; show 0 ≤ (i : Int) + 2 ∧ (i : Int) + 2 < gn G2 (b : Int); omega) (by rw [show (i : Int) + 2 = ((i + 2 : Nat) : Int) by omega]; exact (h2.2.2.2.2.1.2.1 (i + 2) (by omega)).1) ?_
  refine ZE.cV [(0, (xs (i + 1))), (0, (xs (i + 2)))] [(0, rnV S (xs (i + 1)) (xs (i + 2)))] [(2, o), (0, (xs (i + 1))), (0, (xs (i + 2)))] d_Law_law_895 l_Law_91 rfl rfl rfl rfl rfl rfl h2.2.1.1 ?_
  refine r_run h2.2.1 h2.2.2.1.1 h2.2.2.1.2.1 h.1.cS.2.1 h.1.cS.2.2 (h.2.2.2.2.1.2.1 (i + 1) (by omega)).2 (h.2.2.2.2.1.2.1 (i + 2) (by omega)).2 (fun B gB => ?_)
  show ZE 12 M_Law_law (gw G2 B) 898 [(2, (b : Int)), (2, x), (2, o), (0, (i : Int))] [(0, rnV S (xs (i + 1)) (xs (i + 2))), (0, rnV S (xs (i + 1)) (xs (i + 2)))] _
  have h3 := h2.r (ri_qu h2.2.2.1 gB)
  refine ZE.same (tgt := 2023) d_Law_law_898 rfl ?_
  exact k _ _ _ _ _ _ _ _ h3
set_option maxRecDepth 20000 in
set_option maxHeartbeats 4000000 in
theorem lc_rank {d : Nat} {G : zG} {A : Int → Int → Int} {P : Option zV → zG → Prop} {b L : Nat} {xs : Nat → Int} {Z W : Nat} {x o : Int} {S T tl : Nat} {tf : Nat → Int} {wl : Nat} {wf : Nat → Int} (h : LH b L xs Z W G A x o S T tl tf wl wf S T tl tf wl wf) {i : Nat} (hi : i + 6 ≤ L) (k : ∀ G2 A2 (S2 T2 tl2 : Nat) (tf2 : Nat → Int) (wl2 : Nat) (wf2 : Nat → Int), LH b L xs Z W G2 A2 x o S2 T2 tl2 tf2 wl2 wf2 S2 T2 tl2 tf2 wl2 wf2 → ZE 12 M_Law_law (gw G2 A2) 2023 [(2, (b : Int)), (2, x), (2, o), (0, (i : Int))] [] P) : ZE 12 M_Law_law (gw G A) 903 [(2, (b : Int)), (2, x), (2, o), (0, (i : Int))] [] P := by
  refine ZE.aload_n d_Law_law_903 rfl ?_
  refine ZE.aload_n d_Law_law_904 rfl ?_
  refine ZE.iload_n d_Law_law_905 rfl ?_
  refine ZE.iconst (n := 1) d_Law_law_906 ?_
  refine ZE.iadd d_Law_law_907 ?_
  refine ZE.ialdRE (v := (xs (i + 1))) d_Law_law_908 h.2.2.2.2.1.1.1 (by have hn0 := h.2.2.2.2.1.1.2; show 0 ≤ (i : Int) + 1 ∧ (i : Int) + 1 < gn G (b : Int); omega) (by rw [show (i : Int) + 1 = ((i + 1 : Nat) : Int) by omega]; exact (h.2.2.2.2.1.2.1 (i + 1) (by omega)).1) ?_
  refine ZE.cV [(0, (xs (i + 1)))] [] [(2, x), (0, (xs (i + 1)))] d_Law_law_909 l_Law_92 rfl rfl rfl rfl rfl rfl h.1.cCK.1 ?_
  refine c_rank (d := 0) h.1 (h.2.2.2.2.1.2.1 (i + 1) (by omega)).2 (fun G2 A2 hC hT => ?_)
  show ZE 12 M_Law_law (gw G2 A2) 912 [(2, (b : Int)), (2, x), (2, o), (0, (i : Int))] [(0, rkV S (xs (i + 1)))] _
  have h2 := h.c hC hT
  refine ZE.aload_n d_Law_law_912 rfl ?_
  refine ZE.aload_n d_Law_law_913 rfl ?_
  refine ZE.iload_n d_Law_law_914 rfl ?_
  refine ZE.iconst (n := 1) d_Law_law_915 ?_
  refine ZE.iadd d_Law_law_916 ?_
  refine ZE.ialdRE (v := (xs (i + 1))) d_Law_law_917 h2.2.2.2.2.1.1.1 (by have hn0 := h2.2.2.2.2.1.1.2; show 0 ≤ (i : Int) + 1 ∧ (i : Int) + 1 < gn G2 (b : Int); omega) (by rw [show (i : Int) + 1 = ((i + 1 : Nat) : Int) by omega]; exact (h2.2.2.2.2.1.2.1 (i + 1) (by omega)).1) ?_
  refine ZE.cV [(0, (xs (i + 1)))] [(0, rkV S (xs (i + 1)))] [(2, o), (0, (xs (i + 1))), (9, 0), (9, 0), (9, 0), (9, 0), (9, 0)] d_Law_law_918 l_Law_95 rfl rfl rfl rfl rfl rfl h2.2.1.1 ?_
  refine r_rank h2.2.1 h2.2.2.1.1 h2.2.2.1.2.1 h.1.cS.2.1 h.1.cS.2.2 (h.2.2.2.2.1.2.1 (i + 1) (by omega)).2 (fun B gB => ?_)
  show ZE 12 M_Law_law (gw G2 B) 921 [(2, (b : Int)), (2, x), (2, o), (0, (i : Int))] [(0, rkV S (xs (i + 1))), (0, rkV S (xs (i + 1)))] _
  have h3 := h2.r (ri_qu h2.2.2.1 gB)
  refine ZE.same (tgt := 2023) d_Law_law_921 rfl ?_
  exact k _ _ _ _ _ _ _ _ h3
set_option maxRecDepth 20000 in
set_option maxHeartbeats 4000000 in
theorem lc_smooth {d : Nat} {G : zG} {A : Int → Int → Int} {P : Option zV → zG → Prop} {b L : Nat} {xs : Nat → Int} {Z W : Nat} {x o : Int} {S T tl : Nat} {tf : Nat → Int} {wl : Nat} {wf : Nat → Int} (h : LH b L xs Z W G A x o S T tl tf wl wf S T tl tf wl wf) {i : Nat} (hi : i + 6 ≤ L) (k : ∀ G2 A2 (S2 T2 tl2 : Nat) (tf2 : Nat → Int) (wl2 : Nat) (wf2 : Nat → Int), LH b L xs Z W G2 A2 x o S2 T2 tl2 tf2 wl2 wf2 S2 T2 tl2 tf2 wl2 wf2 → ZE 12 M_Law_law (gw G2 A2) 2023 [(2, (b : Int)), (2, x), (2, o), (0, (i : Int))] [] P) : ZE 12 M_Law_law (gw G A) 926 [(2, (b : Int)), (2, x), (2, o), (0, (i : Int))] [] P := by
  refine ZE.aload_n d_Law_law_926 rfl ?_
  refine ZE.aload_n d_Law_law_927 rfl ?_
  refine ZE.iload_n d_Law_law_928 rfl ?_
  refine ZE.iconst (n := 1) d_Law_law_929 ?_
  refine ZE.iadd d_Law_law_930 ?_
  refine ZE.ialdRE (v := (xs (i + 1))) d_Law_law_931 h.2.2.2.2.1.1.1 (by have hn0 := h.2.2.2.2.1.1.2; show 0 ≤ (i : Int) + 1 ∧ (i : Int) + 1 < gn G (b : Int); omega) (by rw [show (i : Int) + 1 = ((i + 1 : Nat) : Int) by omega]; exact (h.2.2.2.2.1.2.1 (i + 1) (by omega)).1) ?_
  refine ZE.cV [(0, (xs (i + 1)))] [] [(2, x), (0, (xs (i + 1))), (9, 0), (9, 0), (9, 0), (9, 0), (9, 0)] d_Law_law_932 l_Law_96 rfl rfl rfl rfl rfl rfl h.1.cCK.1 ?_
  refine c_smooth (d := 0) h.1 (h.2.2.2.2.1.2.1 (i + 1) (by omega)).2 (fun G2 A2 hC hT => ?_)
  show ZE 12 M_Law_law (gw G2 A2) 935 [(2, (b : Int)), (2, x), (2, o), (0, (i : Int))] [(0, b2i (0 < (xs (i + 1)) ∧ smB S (xs (i + 1)).toNat = true))] _
  have h2 := h.c hC hT
  refine ZE.aload_n d_Law_law_935 rfl ?_
  refine ZE.aload_n d_Law_law_936 rfl ?_
  refine ZE.iload_n d_Law_law_937 rfl ?_
  refine ZE.iconst (n := 1) d_Law_law_938 ?_
  refine ZE.iadd d_Law_law_939 ?_
  refine ZE.ialdRE (v := (xs (i + 1))) d_Law_law_940 h2.2.2.2.2.1.1.1 (by have hn0 := h2.2.2.2.2.1.1.2; show 0 ≤ (i : Int) + 1 ∧ (i : Int) + 1 < gn G2 (b : Int); omega) (by rw [show (i : Int) + 1 = ((i + 1 : Nat) : Int) by omega]; exact (h2.2.2.2.2.1.2.1 (i + 1) (by omega)).1) ?_
  refine ZE.cV [(0, (xs (i + 1)))] [(0, b2i (0 < (xs (i + 1)) ∧ smB S (xs (i + 1)).toNat = true))] [(2, o), (0, (xs (i + 1)))] d_Law_law_941 l_Law_100 rfl rfl rfl rfl rfl rfl h2.2.1.1 ?_
  refine r_smooth h2.2.1 h2.2.2.1.1 h2.2.2.1.2.1 h.1.cS.2.1 h.1.cS.2.2 (h.2.2.2.2.1.2.1 (i + 1) (by omega)).2 ?_
  show ZE 12 M_Law_law (gw G2 A2) 944 [(2, (b : Int)), (2, x), (2, o), (0, (i : Int))] [(0, b2i (0 < (xs (i + 1)) ∧ smB S (xs (i + 1)).toNat = true)), (0, b2i (0 < (xs (i + 1)) ∧ smB S (xs (i + 1)).toNat = true))] _
  refine ZE.same (tgt := 2023) d_Law_law_944 rfl ?_
  exact k _ _ _ _ _ _ _ _ h2
set_option maxRecDepth 20000 in
set_option maxHeartbeats 4000000 in
theorem lc_smoothUpTo {d : Nat} {G : zG} {A : Int → Int → Int} {P : Option zV → zG → Prop} {b L : Nat} {xs : Nat → Int} {Z W : Nat} {x o : Int} {S T tl : Nat} {tf : Nat → Int} {wl : Nat} {wf : Nat → Int} (h : LH b L xs Z W G A x o S T tl tf wl wf S T tl tf wl wf) {i : Nat} (hi : i + 6 ≤ L) (k : ∀ G2 A2 (S2 T2 tl2 : Nat) (tf2 : Nat → Int) (wl2 : Nat) (wf2 : Nat → Int), LH b L xs Z W G2 A2 x o S2 T2 tl2 tf2 wl2 wf2 S2 T2 tl2 tf2 wl2 wf2 → ZE 12 M_Law_law (gw G2 A2) 2023 [(2, (b : Int)), (2, x), (2, o), (0, (i : Int))] [] P) : ZE 12 M_Law_law (gw G A) 949 [(2, (b : Int)), (2, x), (2, o), (0, (i : Int))] [] P := by
  refine ZE.aload_n d_Law_law_949 rfl ?_
  refine ZE.aload_n d_Law_law_950 rfl ?_
  refine ZE.iload_n d_Law_law_951 rfl ?_
  refine ZE.iconst (n := 1) d_Law_law_952 ?_
  refine ZE.iadd d_Law_law_953 ?_
  refine ZE.ialdRE (v := (xs (i + 1))) d_Law_law_954 h.2.2.2.2.1.1.1 (by have hn0 := h.2.2.2.2.1.1.2; show 0 ≤ (i : Int) + 1 ∧ (i : Int) + 1 < gn G (b : Int); omega) (by rw [show (i : Int) + 1 = ((i + 1 : Nat) : Int) by omega]; exact (h.2.2.2.2.1.2.1 (i + 1) (by omega)).1) ?_
  refine ZE.cV [(0, (xs (i + 1)))] [] [(2, x), (0, (xs (i + 1)))] d_Law_law_955 l_Law_101 rfl rfl rfl rfl rfl rfl h.1.cCK.1 ?_
  refine c_smoothUpTo (d := 0) h.1 (h.2.2.2.2.1.2.1 (i + 1) (by omega)).2 (fun G2 A2 hC hT => ?_)
  show ZE 12 M_Law_law (gw G2 A2) 958 [(2, (b : Int)), (2, x), (2, o), (0, (i : Int))] [(0, suV S (xs (i + 1)))] _
  have h2 := h.c hC hT
  refine ZE.aload_n d_Law_law_958 rfl ?_
  refine ZE.aload_n d_Law_law_959 rfl ?_
  refine ZE.iload_n d_Law_law_960 rfl ?_
  refine ZE.iconst (n := 1) d_Law_law_961 ?_
  refine ZE.iadd d_Law_law_962 ?_
  refine ZE.ialdRE (v := (xs (i + 1))) d_Law_law_963 h2.2.2.2.2.1.1.1 (by have hn0 := h2.2.2.2.2.1.1.2; show 0 ≤ (i : Int) + 1 ∧ (i : Int) + 1 < gn G2 (b : Int); omega) (by rw [show (i : Int) + 1 = ((i + 1 : Nat) : Int) by omega]; exact (h2.2.2.2.2.1.2.1 (i + 1) (by omega)).1) ?_
  refine ZE.cV [(0, (xs (i + 1)))] [(0, suV S (xs (i + 1)))] [(2, o), (0, (xs (i + 1)))] d_Law_law_964 l_Law_104 rfl rfl rfl rfl rfl rfl h2.2.1.1 ?_
  refine r_smoothUpTo h2.2.1 h2.2.2.1.1 h2.2.2.1.2.1 h.1.cS.2.1 h.1.cS.2.2 (h.2.2.2.2.1.2.1 (i + 1) (by omega)).2 ?_
  show ZE 12 M_Law_law (gw G2 A2) 967 [(2, (b : Int)), (2, x), (2, o), (0, (i : Int))] [(0, suV S (xs (i + 1))), (0, suV S (xs (i + 1)))] _
  refine ZE.same (tgt := 2023) d_Law_law_967 rfl ?_
  exact k _ _ _ _ _ _ _ _ h2
set_option maxRecDepth 20000 in
set_option maxHeartbeats 4000000 in
theorem lc_smoothAt {d : Nat} {G : zG} {A : Int → Int → Int} {P : Option zV → zG → Prop} {b L : Nat} {xs : Nat → Int} {Z W : Nat} {x o : Int} {S T tl : Nat} {tf : Nat → Int} {wl : Nat} {wf : Nat → Int} (h : LH b L xs Z W G A x o S T tl tf wl wf S T tl tf wl wf) {i : Nat} (hi : i + 6 ≤ L) (k : ∀ G2 A2 (S2 T2 tl2 : Nat) (tf2 : Nat → Int) (wl2 : Nat) (wf2 : Nat → Int), LH b L xs Z W G2 A2 x o S2 T2 tl2 tf2 wl2 wf2 S2 T2 tl2 tf2 wl2 wf2 → ZE 12 M_Law_law (gw G2 A2) 2023 [(2, (b : Int)), (2, x), (2, o), (0, (i : Int))] [] P) : ZE 12 M_Law_law (gw G A) 972 [(2, (b : Int)), (2, x), (2, o), (0, (i : Int))] [] P := by
  refine ZE.aload_n d_Law_law_972 rfl ?_
  refine ZE.aload_n d_Law_law_973 rfl ?_
  refine ZE.iload_n d_Law_law_974 rfl ?_
  refine ZE.iconst (n := 1) d_Law_law_975 ?_
  refine ZE.iadd d_Law_law_976 ?_
  refine ZE.ialdRE (v := (xs (i + 1))) d_Law_law_977 h.2.2.2.2.1.1.1 (by have hn0 := h.2.2.2.2.1.1.2; show 0 ≤ (i : Int) + 1 ∧ (i : Int) + 1 < gn G (b : Int); omega) (by rw [show (i : Int) + 1 = ((i + 1 : Nat) : Int) by omega]; exact (h.2.2.2.2.1.2.1 (i + 1) (by omega)).1) ?_
  refine ZE.cV [(0, (xs (i + 1)))] [] [(2, x), (0, (xs (i + 1)))] d_Law_law_978 l_Law_105 rfl rfl rfl rfl rfl rfl h.1.cCK.1 ?_
  refine c_smoothAt (d := 0) h.1 (h.2.2.2.2.1.2.1 (i + 1) (by omega)).2 (fun G2 A2 hC hT => ?_)
  show ZE 12 M_Law_law (gw G2 A2) 981 [(2, (b : Int)), (2, x), (2, o), (0, (i : Int))] [(0, saV S (xs (i + 1)))] _
  have h2 := h.c hC hT
  refine ZE.aload_n d_Law_law_981 rfl ?_
  refine ZE.aload_n d_Law_law_982 rfl ?_
  refine ZE.iload_n d_Law_law_983 rfl ?_
  refine ZE.iconst (n := 1) d_Law_law_984 ?_
  refine ZE.iadd d_Law_law_985 ?_
  refine ZE.ialdRE (v := (xs (i + 1))) d_Law_law_986 h2.2.2.2.2.1.1.1 (by have hn0 := h2.2.2.2.2.1.1.2; show 0 ≤ (i : Int) + 1 ∧ (i : Int) + 1 < gn G2 (b : Int); omega) (by rw [show (i : Int) + 1 = ((i + 1 : Nat) : Int) by omega]; exact (h2.2.2.2.2.1.2.1 (i + 1) (by omega)).1) ?_
  refine ZE.cV [(0, (xs (i + 1)))] [(0, saV S (xs (i + 1)))] [(2, o), (0, (xs (i + 1))), (9, 0), (9, 0)] d_Law_law_987 l_Law_108 rfl rfl rfl rfl rfl rfl h2.2.1.1 ?_
  refine r_smoothAt h2.2.1 h2.2.2.1.1 h2.2.2.1.2.1 h.1.cS.2.1 h.1.cS.2.2 (h.2.2.2.2.1.2.1 (i + 1) (by omega)).2 ?_
  show ZE 12 M_Law_law (gw G2 A2) 990 [(2, (b : Int)), (2, x), (2, o), (0, (i : Int))] [(0, saV S (xs (i + 1))), (0, saV S (xs (i + 1)))] _
  refine ZE.same (tgt := 2023) d_Law_law_990 rfl ?_
  exact k _ _ _ _ _ _ _ _ h2
set_option maxRecDepth 20000 in
set_option maxHeartbeats 4000000 in
theorem lc_next {d : Nat} {G : zG} {A : Int → Int → Int} {P : Option zV → zG → Prop} {b L : Nat} {xs : Nat → Int} {Z W : Nat} {x o : Int} {S T tl : Nat} {tf : Nat → Int} {wl : Nat} {wf : Nat → Int} (h : LH b L xs Z W G A x o S T tl tf wl wf S T tl tf wl wf) {i : Nat} (hi : i + 6 ≤ L) (k : ∀ G2 A2 (S2 T2 tl2 : Nat) (tf2 : Nat → Int) (wl2 : Nat) (wf2 : Nat → Int), LH b L xs Z W G2 A2 x o S2 T2 tl2 tf2 wl2 wf2 S2 T2 tl2 tf2 wl2 wf2 → ZE 12 M_Law_law (gw G2 A2) 2023 [(2, (b : Int)), (2, x), (2, o), (0, (i : Int))] [] P) : ZE 12 M_Law_law (gw G A) 995 [(2, (b : Int)), (2, x), (2, o), (0, (i : Int))] [] P := by
  refine ZE.aload_n d_Law_law_995 rfl ?_
  refine ZE.aload_n d_Law_law_996 rfl ?_
  refine ZE.iload_n d_Law_law_997 rfl ?_
  refine ZE.iconst (n := 1) d_Law_law_998 ?_
  refine ZE.iadd d_Law_law_999 ?_
  refine ZE.ialdRE (v := (xs (i + 1))) d_Law_law_1000 h.2.2.2.2.1.1.1 (by have hn0 := h.2.2.2.2.1.1.2; show 0 ≤ (i : Int) + 1 ∧ (i : Int) + 1 < gn G (b : Int); omega) (by rw [show (i : Int) + 1 = ((i + 1 : Nat) : Int) by omega]; exact (h.2.2.2.2.1.2.1 (i + 1) (by omega)).1) ?_
  refine ZE.cV [(0, (xs (i + 1)))] [] [(2, x), (0, (xs (i + 1)))] d_Law_law_1001 l_Law_109 rfl rfl rfl rfl rfl rfl h.1.cCK.1 ?_
  refine c_next (d := 0) h.1 (h.2.2.2.2.1.2.1 (i + 1) (by omega)).2 (fun G2 A2 hC hT => ?_)
  show ZE 12 M_Law_law (gw G2 A2) 1004 [(2, (b : Int)), (2, x), (2, o), (0, (i : Int))] [(0, nxV S (xs (i + 1)))] _
  have h2 := h.c hC hT
  refine ZE.aload_n d_Law_law_1004 rfl ?_
  refine ZE.aload_n d_Law_law_1005 rfl ?_
  refine ZE.iload_n d_Law_law_1006 rfl ?_
  refine ZE.iconst (n := 1) d_Law_law_1007 ?_
  refine ZE.iadd d_Law_law_1008 ?_
  refine ZE.ialdRE (v := (xs (i + 1))) d_Law_law_1009 h2.2.2.2.2.1.1.1 (by have hn0 := h2.2.2.2.2.1.1.2; show 0 ≤ (i : Int) + 1 ∧ (i : Int) + 1 < gn G2 (b : Int); omega) (by rw [show (i : Int) + 1 = ((i + 1 : Nat) : Int) by omega]; exact (h2.2.2.2.2.1.2.1 (i + 1) (by omega)).1) ?_
  refine ZE.cV [(0, (xs (i + 1)))] [(0, nxV S (xs (i + 1)))] [(2, o), (0, (xs (i + 1))), (9, 0)] d_Law_law_1010 l_Law_112 rfl rfl rfl rfl rfl rfl h2.2.1.1 ?_
  refine r_next h2.2.1 h2.2.2.1.1 h2.2.2.1.2.1 h.1.cS.2.1 h.1.cS.2.2 (h.2.2.2.2.1.2.1 (i + 1) (by omega)).2 ?_
  show ZE 12 M_Law_law (gw G2 A2) 1013 [(2, (b : Int)), (2, x), (2, o), (0, (i : Int))] [(0, nxV S (xs (i + 1))), (0, nxV S (xs (i + 1)))] _
  refine ZE.same (tgt := 2023) d_Law_law_1013 rfl ?_
  exact k _ _ _ _ _ _ _ _ h2
set_option maxRecDepth 20000 in
set_option maxHeartbeats 4000000 in
theorem lc_sieved {d : Nat} {G : zG} {A : Int → Int → Int} {P : Option zV → zG → Prop} {b L : Nat} {xs : Nat → Int} {Z W : Nat} {x o : Int} {S T tl : Nat} {tf : Nat → Int} {wl : Nat} {wf : Nat → Int} (h : LH b L xs Z W G A x o S T tl tf wl wf S T tl tf wl wf) {i : Nat} (hi : i + 6 ≤ L) (k : ∀ G2 A2 (S2 T2 tl2 : Nat) (tf2 : Nat → Int) (wl2 : Nat) (wf2 : Nat → Int), LH b L xs Z W G2 A2 x o S2 T2 tl2 tf2 wl2 wf2 S2 T2 tl2 tf2 wl2 wf2 → ZE 12 M_Law_law (gw G2 A2) 2023 [(2, (b : Int)), (2, x), (2, o), (0, (i : Int))] [] P) : ZE 12 M_Law_law (gw G A) 1018 [(2, (b : Int)), (2, x), (2, o), (0, (i : Int))] [] P := by
  refine ZE.aload_n d_Law_law_1018 rfl ?_
  refine ZE.aload_n d_Law_law_1019 rfl ?_
  refine ZE.iload_n d_Law_law_1020 rfl ?_
  refine ZE.iconst (n := 1) d_Law_law_1021 ?_
  refine ZE.iadd d_Law_law_1022 ?_
  refine ZE.ialdRE (v := (xs (i + 1))) d_Law_law_1023 h.2.2.2.2.1.1.1 (by have hn0 := h.2.2.2.2.1.1.2; show 0 ≤ (i : Int) + 1 ∧ (i : Int) + 1 < gn G (b : Int); omega) (by rw [show (i : Int) + 1 = ((i + 1 : Nat) : Int) by omega]; exact (h.2.2.2.2.1.2.1 (i + 1) (by omega)).1) ?_
  refine ZE.cV [(0, (xs (i + 1)))] [] [(2, x), (0, (xs (i + 1)))] d_Law_law_1024 l_Law_113 rfl rfl rfl rfl rfl rfl h.1.cCK.1 ?_
  refine c_sieved (d := 0) h.1 (h.2.2.2.2.1.2.1 (i + 1) (by omega)).2 (fun G2 A2 hC hT => ?_)
  show ZE 12 M_Law_law (gw G2 A2) 1027 [(2, (b : Int)), (2, x), (2, o), (0, (i : Int))] [(0, svV S (xs (i + 1)))] _
  have h2 := h.c hC hT
  refine ZE.aload_n d_Law_law_1027 rfl ?_
  refine ZE.aload_n d_Law_law_1028 rfl ?_
  refine ZE.iload_n d_Law_law_1029 rfl ?_
  refine ZE.iconst (n := 1) d_Law_law_1030 ?_
  refine ZE.iadd d_Law_law_1031 ?_
  refine ZE.ialdRE (v := (xs (i + 1))) d_Law_law_1032 h2.2.2.2.2.1.1.1 (by have hn0 := h2.2.2.2.2.1.1.2; show 0 ≤ (i : Int) + 1 ∧ (i : Int) + 1 < gn G2 (b : Int); omega) (by rw [show (i : Int) + 1 = ((i + 1 : Nat) : Int) by omega]; exact (h2.2.2.2.2.1.2.1 (i + 1) (by omega)).1) ?_
  refine ZE.cV [(0, (xs (i + 1)))] [(0, svV S (xs (i + 1)))] [(2, o), (0, (xs (i + 1))), (9, 0), (9, 0)] d_Law_law_1033 l_Law_116 rfl rfl rfl rfl rfl rfl h2.2.1.1 ?_
  refine r_sieved h2.2.1 h2.2.2.1.1 h2.2.2.1.2.1 h.1.cS.2.1 h.1.cS.2.2 (h.2.2.2.2.1.2.1 (i + 1) (by omega)).2 ?_
  show ZE 12 M_Law_law (gw G2 A2) 1036 [(2, (b : Int)), (2, x), (2, o), (0, (i : Int))] [(0, svV S (xs (i + 1))), (0, svV S (xs (i + 1)))] _
  refine ZE.same (tgt := 2023) d_Law_law_1036 rfl ?_
  exact k _ _ _ _ _ _ _ _ h2
set_option maxRecDepth 20000 in
set_option maxHeartbeats 4000000 in
theorem lc_agrees {d : Nat} {G : zG} {A : Int → Int → Int} {P : Option zV → zG → Prop} {b L : Nat} {xs : Nat → Int} {Z W : Nat} {x o : Int} {S T tl : Nat} {tf : Nat → Int} {wl : Nat} {wf : Nat → Int} (h : LH b L xs Z W G A x o S T tl tf wl wf S T tl tf wl wf) {i : Nat} (hi : i + 6 ≤ L) (k : ∀ G2 A2 (S2 T2 tl2 : Nat) (tf2 : Nat → Int) (wl2 : Nat) (wf2 : Nat → Int), LH b L xs Z W G2 A2 x o S2 T2 tl2 tf2 wl2 wf2 S2 T2 tl2 tf2 wl2 wf2 → ZE 12 M_Law_law (gw G2 A2) 2023 [(2, (b : Int)), (2, x), (2, o), (0, (i : Int))] [] P) : ZE 12 M_Law_law (gw G A) 1041 [(2, (b : Int)), (2, x), (2, o), (0, (i : Int))] [] P := by
  refine ZE.aload_n d_Law_law_1041 rfl ?_
  refine ZE.aload_n d_Law_law_1042 rfl ?_
  refine ZE.iload_n d_Law_law_1043 rfl ?_
  refine ZE.iconst (n := 1) d_Law_law_1044 ?_
  refine ZE.iadd d_Law_law_1045 ?_
  refine ZE.ialdRE (v := (xs (i + 1))) d_Law_law_1046 h.2.2.2.2.1.1.1 (by have hn0 := h.2.2.2.2.1.1.2; show 0 ≤ (i : Int) + 1 ∧ (i : Int) + 1 < gn G (b : Int); omega) (by rw [show (i : Int) + 1 = ((i + 1 : Nat) : Int) by omega]; exact (h.2.2.2.2.1.2.1 (i + 1) (by omega)).1) ?_
  refine ZE.cV [(0, (xs (i + 1)))] [] [(2, x), (0, (xs (i + 1)))] d_Law_law_1047 l_Law_117 rfl rfl rfl rfl rfl rfl h.1.cCK.1 ?_
  refine c_agrees (d := 0) h.1 (h.2.2.2.2.1.2.1 (i + 1) (by omega)).2 (fun G2 A2 hC hT => ?_)
  show ZE 12 M_Law_law (gw G2 A2) 1050 [(2, (b : Int)), (2, x), (2, o), (0, (i : Int))] [(0, b2i (agV S (xs (i + 1)) = true))] _
  have h2 := h.c hC hT
  refine ZE.aload_n d_Law_law_1050 rfl ?_
  refine ZE.aload_n d_Law_law_1051 rfl ?_
  refine ZE.iload_n d_Law_law_1052 rfl ?_
  refine ZE.iconst (n := 1) d_Law_law_1053 ?_
  refine ZE.iadd d_Law_law_1054 ?_
  refine ZE.ialdRE (v := (xs (i + 1))) d_Law_law_1055 h2.2.2.2.2.1.1.1 (by have hn0 := h2.2.2.2.2.1.1.2; show 0 ≤ (i : Int) + 1 ∧ (i : Int) + 1 < gn G2 (b : Int); omega) (by rw [show (i : Int) + 1 = ((i + 1 : Nat) : Int) by omega]; exact (h2.2.2.2.2.1.2.1 (i + 1) (by omega)).1) ?_
  refine ZE.cV [(0, (xs (i + 1)))] [(0, b2i (agV S (xs (i + 1)) = true))] [(2, o), (0, (xs (i + 1))), (9, 0), (9, 0)] d_Law_law_1056 l_Law_120 rfl rfl rfl rfl rfl rfl h2.2.1.1 ?_
  refine r_agrees h2.2.1 h2.2.2.1.1 h2.2.2.1.2.1 h.1.cS.2.1 h.1.cS.2.2 (h.2.2.2.2.1.2.1 (i + 1) (by omega)).2 ?_
  show ZE 12 M_Law_law (gw G2 A2) 1059 [(2, (b : Int)), (2, x), (2, o), (0, (i : Int))] [(0, b2i (agV S (xs (i + 1)) = true)), (0, b2i (agV S (xs (i + 1)) = true))] _
  refine ZE.same (tgt := 2023) d_Law_law_1059 rfl ?_
  exact k _ _ _ _ _ _ _ _ h2
set_option maxRecDepth 20000 in
set_option maxHeartbeats 4000000 in
theorem lc_gap {d : Nat} {G : zG} {A : Int → Int → Int} {P : Option zV → zG → Prop} {b L : Nat} {xs : Nat → Int} {Z W : Nat} {x o : Int} {S T tl : Nat} {tf : Nat → Int} {wl : Nat} {wf : Nat → Int} (h : LH b L xs Z W G A x o S T tl tf wl wf S T tl tf wl wf) {i : Nat} (hi : i + 6 ≤ L) (k : ∀ G2 A2 (S2 T2 tl2 : Nat) (tf2 : Nat → Int) (wl2 : Nat) (wf2 : Nat → Int), LH b L xs Z W G2 A2 x o S2 T2 tl2 tf2 wl2 wf2 S2 T2 tl2 tf2 wl2 wf2 → ZE 12 M_Law_law (gw G2 A2) 2023 [(2, (b : Int)), (2, x), (2, o), (0, (i : Int))] [] P) : ZE 12 M_Law_law (gw G A) 1064 [(2, (b : Int)), (2, x), (2, o), (0, (i : Int))] [] P := by
  refine ZE.aload_n d_Law_law_1064 rfl ?_
  refine ZE.aload_n d_Law_law_1065 rfl ?_
  refine ZE.iload_n d_Law_law_1066 rfl ?_
  refine ZE.iconst (n := 1) d_Law_law_1067 ?_
  refine ZE.iadd d_Law_law_1068 ?_
  refine ZE.ialdRE (v := (xs (i + 1))) d_Law_law_1069 h.2.2.2.2.1.1.1 (by have hn0 := h.2.2.2.2.1.1.2; show 0 ≤ (i : Int) + 1 ∧ (i : Int) + 1 < gn G (b : Int); omega) (by rw [show (i : Int) + 1 = ((i + 1 : Nat) : Int) by omega]; exact (h.2.2.2.2.1.2.1 (i + 1) (by omega)).1) ?_
  refine ZE.aload_n d_Law_law_1070 rfl ?_
  refine ZE.iload_n d_Law_law_1071 rfl ?_
  refine ZE.iconst (n := 2) d_Law_law_1072 ?_
  refine ZE.iadd d_Law_law_1073 ?_
  refine ZE.ialdRE (v := (xs (i + 2))) d_Law_law_1074 h.2.2.2.2.1.1.1 (by have hn0 := h.2.2.2.2.1.1.2; show 0 ≤ (i : Int) + 2 ∧ (i : Int) + 2 < gn G (b : Int); omega) (by rw [show (i : Int) + 2 = ((i + 2 : Nat) : Int) by omega]; exact (h.2.2.2.2.1.2.1 (i + 2) (by omega)).1) ?_
  refine ZE.cV [(0, (xs (i + 1))), (0, (xs (i + 2)))] [] [(2, x), (0, (xs (i + 1))), (0, (xs (i + 2))), (9, 0)] d_Law_law_1075 l_Law_121 rfl rfl rfl rfl rfl rfl h.1.cCK.1 ?_
  refine c_gap (d := 0) h.1 (h.2.2.2.2.1.2.1 (i + 1) (by omega)).2 (h.2.2.2.2.1.2.1 (i + 2) (by omega)).2 (fun G2 A2 hC hT => ?_)
  show ZE 12 M_Law_law (gw G2 A2) 1078 [(2, (b : Int)), (2, x), (2, o), (0, (i : Int))] [(0, gpV S (xs (i + 1)) (xs (i + 2)))] _
  have h2 := h.c hC hT
  refine ZE.aload_n d_Law_law_1078 rfl ?_
  refine ZE.aload_n d_Law_law_1079 rfl ?_
  refine ZE.iload_n d_Law_law_1080 rfl ?_
  refine ZE.iconst (n := 1) d_Law_law_1081 ?_
  refine ZE.iadd d_Law_law_1082 ?_
  refine ZE.ialdRE (v := (xs (i + 1))) d_Law_law_1083 h2.2.2.2.2.1.1.1 (by have hn0 := h2.2.2.2.2.1.1.2; show 0 ≤ (i : Int) + 1 ∧ (i : Int) + 1 < gn G2 (b : Int); omega) (by rw [show (i : Int) + 1 = ((i + 1 : Nat) : Int) by omega]; exact (h2.2.2.2.2.1.2.1 (i + 1) (by omega)).1) ?_
  refine ZE.aload_n d_Law_law_1084 rfl ?_
  refine ZE.iload_n d_Law_law_1085 rfl ?_
  refine ZE.iconst (n := 2) d_Law_law_1086 ?_
  refine ZE.iadd d_Law_law_1087 ?_
  refine ZE.ialdRE (v := (xs (i + 2))) d_Law_law_1088 h2.2.2.2.2.1.1.1 (by have hn0 := h2.2.2.2.2.1.1.2; show 0 ≤ (i : Int) + 2 ∧ (i : Int) + 2 < gn G2 (b : Int); omega) (by rw [show (i : Int) + 2 = ((i + 2 : Nat) : Int) by omega]; exact (h2.2.2.2.2.1.2.1 (i + 2) (by omega)).1) ?_
  refine ZE.cV [(0, (xs (i + 1))), (0, (xs (i + 2)))] [(0, gpV S (xs (i + 1)) (xs (i + 2)))] [(2, o), (0, (xs (i + 1))), (0, (xs (i + 2))), (9, 0), (9, 0), (9, 0), (9, 0)] d_Law_law_1089 l_Law_124 rfl rfl rfl rfl rfl rfl h2.2.1.1 ?_
  refine r_gap h2.2.1 h2.2.2.1.1 h2.2.2.1.2.1 h.1.cS.2.1 h.1.cS.2.2 (h.2.2.2.2.1.2.1 (i + 1) (by omega)).2 (h.2.2.2.2.1.2.1 (i + 2) (by omega)).2 ?_
  show ZE 12 M_Law_law (gw G2 A2) 1092 [(2, (b : Int)), (2, x), (2, o), (0, (i : Int))] [(0, gpV S (xs (i + 1)) (xs (i + 2))), (0, gpV S (xs (i + 1)) (xs (i + 2)))] _
  refine ZE.same (tgt := 2023) d_Law_law_1092 rfl ?_
  exact k _ _ _ _ _ _ _ _ h2
set_option maxRecDepth 20000 in
set_option maxHeartbeats 4000000 in
theorem lc_would {d : Nat} {G : zG} {A : Int → Int → Int} {P : Option zV → zG → Prop} {b L : Nat} {xs : Nat → Int} {Z W : Nat} {x o : Int} {S T tl : Nat} {tf : Nat → Int} {wl : Nat} {wf : Nat → Int} (h : LH b L xs Z W G A x o S T tl tf wl wf S T tl tf wl wf) {i : Nat} (hi : i + 6 ≤ L) (k : ∀ G2 A2 (S2 T2 tl2 : Nat) (tf2 : Nat → Int) (wl2 : Nat) (wf2 : Nat → Int), LH b L xs Z W G2 A2 x o S2 T2 tl2 tf2 wl2 wf2 S2 T2 tl2 tf2 wl2 wf2 → ZE 12 M_Law_law (gw G2 A2) 2023 [(2, (b : Int)), (2, x), (2, o), (0, (i : Int))] [] P) : ZE 12 M_Law_law (gw G A) 1097 [(2, (b : Int)), (2, x), (2, o), (0, (i : Int))] [] P := by
  refine ZE.aload_n d_Law_law_1097 rfl ?_
  refine ZE.aload_n d_Law_law_1098 rfl ?_
  refine ZE.iload_n d_Law_law_1099 rfl ?_
  refine ZE.iconst (n := 1) d_Law_law_1100 ?_
  refine ZE.iadd d_Law_law_1101 ?_
  refine ZE.ialdRE (v := (xs (i + 1))) d_Law_law_1102 h.2.2.2.2.1.1.1 (by have hn0 := h.2.2.2.2.1.1.2; show 0 ≤ (i : Int) + 1 ∧ (i : Int) + 1 < gn G (b : Int); omega) (by rw [show (i : Int) + 1 = ((i + 1 : Nat) : Int) by omega]; exact (h.2.2.2.2.1.2.1 (i + 1) (by omega)).1) ?_
  refine ZE.cV [(0, (xs (i + 1)))] [] [(2, x), (0, (xs (i + 1)))] d_Law_law_1103 l_Law_125 rfl rfl rfl rfl rfl rfl h.1.cCK.1 ?_
  refine c_would (d := 0) h.1 (h.2.2.2.2.1.2.1 (i + 1) (by omega)).2 (fun G2 A2 hC hT => ?_)
  show ZE 12 M_Law_law (gw G2 A2) 1106 [(2, (b : Int)), (2, x), (2, o), (0, (i : Int))] [(0, addV S (xs (i + 1)))] _
  have h2 := h.c hC hT
  refine ZE.aload_n d_Law_law_1106 rfl ?_
  refine ZE.aload_n d_Law_law_1107 rfl ?_
  refine ZE.iload_n d_Law_law_1108 rfl ?_
  refine ZE.iconst (n := 1) d_Law_law_1109 ?_
  refine ZE.iadd d_Law_law_1110 ?_
  refine ZE.ialdRE (v := (xs (i + 1))) d_Law_law_1111 h2.2.2.2.2.1.1.1 (by have hn0 := h2.2.2.2.2.1.1.2; show 0 ≤ (i : Int) + 1 ∧ (i : Int) + 1 < gn G2 (b : Int); omega) (by rw [show (i : Int) + 1 = ((i + 1 : Nat) : Int) by omega]; exact (h2.2.2.2.2.1.2.1 (i + 1) (by omega)).1) ?_
  refine ZE.cV [(0, (xs (i + 1)))] [(0, addV S (xs (i + 1)))] [(2, o), (0, (xs (i + 1)))] d_Law_law_1112 l_Law_128 rfl rfl rfl rfl rfl rfl h2.2.1.1 ?_
  refine r_would h2.2.1 h2.2.2.1.1 h2.2.2.1.2.1 h.1.cS.2.1 h.1.cS.2.2 (h.2.2.2.2.1.2.1 (i + 1) (by omega)).2 (fun B hRB gB => ?_)
  show ZE 12 M_Law_law (gw G2 B) 1115 [(2, (b : Int)), (2, x), (2, o), (0, (i : Int))] [(0, addV S (xs (i + 1))), (0, addV S (xs (i + 1)))] _
  have h3 := h2.r (ri_la h2.2.2.1 hRB h.1.cS.2.1 h.1.cS.2.2 gB)
  refine ZE.same (tgt := 2023) d_Law_law_1115 rfl ?_
  exact k _ _ _ _ _ _ _ _ h3
set_option maxRecDepth 20000 in
set_option maxHeartbeats 4000000 in
theorem lc_without {d : Nat} {G : zG} {A : Int → Int → Int} {P : Option zV → zG → Prop} {b L : Nat} {xs : Nat → Int} {Z W : Nat} {x o : Int} {S T tl : Nat} {tf : Nat → Int} {wl : Nat} {wf : Nat → Int} (h : LH b L xs Z W G A x o S T tl tf wl wf S T tl tf wl wf) {i : Nat} (hi : i + 6 ≤ L) (k : ∀ G2 A2 (S2 T2 tl2 : Nat) (tf2 : Nat → Int) (wl2 : Nat) (wf2 : Nat → Int), LH b L xs Z W G2 A2 x o S2 T2 tl2 tf2 wl2 wf2 S2 T2 tl2 tf2 wl2 wf2 → ZE 12 M_Law_law (gw G2 A2) 2023 [(2, (b : Int)), (2, x), (2, o), (0, (i : Int))] [] P) : ZE 12 M_Law_law (gw G A) 1120 [(2, (b : Int)), (2, x), (2, o), (0, (i : Int))] [] P := by
  refine ZE.aload_n d_Law_law_1120 rfl ?_
  refine ZE.aload_n d_Law_law_1121 rfl ?_
  refine ZE.iload_n d_Law_law_1122 rfl ?_
  refine ZE.iconst (n := 1) d_Law_law_1123 ?_
  refine ZE.iadd d_Law_law_1124 ?_
  refine ZE.ialdRE (v := (xs (i + 1))) d_Law_law_1125 h.2.2.2.2.1.1.1 (by have hn0 := h.2.2.2.2.1.1.2; show 0 ≤ (i : Int) + 1 ∧ (i : Int) + 1 < gn G (b : Int); omega) (by rw [show (i : Int) + 1 = ((i + 1 : Nat) : Int) by omega]; exact (h.2.2.2.2.1.2.1 (i + 1) (by omega)).1) ?_
  refine ZE.cV [(0, (xs (i + 1)))] [] [(2, x), (0, (xs (i + 1)))] d_Law_law_1126 l_Law_129 rfl rfl rfl rfl rfl rfl h.1.cCK.1 ?_
  refine c_without (d := 0) h.1 (h.2.2.2.2.1.2.1 (i + 1) (by omega)).2 (fun G2 A2 hC hT => ?_)
  show ZE 12 M_Law_law (gw G2 A2) 1129 [(2, (b : Int)), (2, x), (2, o), (0, (i : Int))] [(0, drpV S (xs (i + 1)))] _
  have h2 := h.c hC hT
  refine ZE.aload_n d_Law_law_1129 rfl ?_
  refine ZE.aload_n d_Law_law_1130 rfl ?_
  refine ZE.iload_n d_Law_law_1131 rfl ?_
  refine ZE.iconst (n := 1) d_Law_law_1132 ?_
  refine ZE.iadd d_Law_law_1133 ?_
  refine ZE.ialdRE (v := (xs (i + 1))) d_Law_law_1134 h2.2.2.2.2.1.1.1 (by have hn0 := h2.2.2.2.2.1.1.2; show 0 ≤ (i : Int) + 1 ∧ (i : Int) + 1 < gn G2 (b : Int); omega) (by rw [show (i : Int) + 1 = ((i + 1 : Nat) : Int) by omega]; exact (h2.2.2.2.2.1.2.1 (i + 1) (by omega)).1) ?_
  refine ZE.cV [(0, (xs (i + 1)))] [(0, drpV S (xs (i + 1)))] [(2, o), (0, (xs (i + 1)))] d_Law_law_1135 l_Law_132 rfl rfl rfl rfl rfl rfl h2.2.1.1 ?_
  refine r_without h2.2.1 h2.2.2.1.1 h2.2.2.1.2.1 h.1.cS.2.1 h.1.cS.2.2 (h.2.2.2.2.1.2.1 (i + 1) (by omega)).2 (fun B hRB gB => ?_)
  show ZE 12 M_Law_law (gw G2 B) 1138 [(2, (b : Int)), (2, x), (2, o), (0, (i : Int))] [(0, drpV S (xs (i + 1))), (0, drpV S (xs (i + 1)))] _
  have h3 := h2.r (ri_la h2.2.2.1 hRB h.1.cS.2.1 h.1.cS.2.2 gB)
  refine ZE.same (tgt := 2023) d_Law_law_1138 rfl ?_
  exact k _ _ _ _ _ _ _ _ h3
set_option maxRecDepth 20000 in
set_option maxHeartbeats 4000000 in
theorem lc_bestPrime {d : Nat} {G : zG} {A : Int → Int → Int} {P : Option zV → zG → Prop} {b L : Nat} {xs : Nat → Int} {Z W : Nat} {x o : Int} {S T tl : Nat} {tf : Nat → Int} {wl : Nat} {wf : Nat → Int} (h : LH b L xs Z W G A x o S T tl tf wl wf S T tl tf wl wf) {i : Nat} (hi : i + 6 ≤ L) (k : ∀ G2 A2 (S2 T2 tl2 : Nat) (tf2 : Nat → Int) (wl2 : Nat) (wf2 : Nat → Int), LH b L xs Z W G2 A2 x o S2 T2 tl2 tf2 wl2 wf2 S2 T2 tl2 tf2 wl2 wf2 → ZE 12 M_Law_law (gw G2 A2) 2023 [(2, (b : Int)), (2, x), (2, o), (0, (i : Int))] [] P) : ZE 12 M_Law_law (gw G A) 1143 [(2, (b : Int)), (2, x), (2, o), (0, (i : Int))] [] P := by
  refine ZE.aload_n d_Law_law_1143 rfl ?_
  refine ZE.cV [] [] [(2, x), (9, 0), (9, 0), (9, 0), (9, 0), (9, 0)] d_Law_law_1144 l_Law_133 rfl rfl rfl rfl rfl rfl h.1.cCK.1 ?_
  refine c_bestPrime (d := 0) h.1  (fun G2 A2 hC hT => ?_)
  show ZE 12 M_Law_law (gw G2 A2) 1147 [(2, (b : Int)), (2, x), (2, o), (0, (i : Int))] [(0, (bpF S 7).1)] _
  have h2 := h.c hC hT
  refine ZE.aload_n d_Law_law_1147 rfl ?_
  refine ZE.cV [] [(0, (bpF S 7).1)] [(2, o), (9, 0), (9, 0), (9, 0), (9, 0)] d_Law_law_1148 l_Law_137 rfl rfl rfl rfl rfl rfl h2.2.1.1 ?_
  refine r_bestPrime h2.2.1 h2.2.2.1.1 h2.2.2.1.2.1 h.1.cS.2.1 h.1.cS.2.2  (fun B hRB gB => ?_)
  show ZE 12 M_Law_law (gw G2 B) 1151 [(2, (b : Int)), (2, x), (2, o), (0, (i : Int))] [(0, (bpF S 7).1), (0, (bpF S 7).1)] _
  have h3 := h2.r (ri_la h2.2.2.1 hRB h.1.cS.2.1 h.1.cS.2.2 gB)
  refine ZE.same (tgt := 2023) d_Law_law_1151 rfl ?_
  exact k _ _ _ _ _ _ _ _ h3
set_option maxRecDepth 20000 in
set_option maxHeartbeats 4000000 in
theorem lc_madeOf {d : Nat} {G : zG} {A : Int → Int → Int} {P : Option zV → zG → Prop} {b L : Nat} {xs : Nat → Int} {Z W : Nat} {x o : Int} {S T tl : Nat} {tf : Nat → Int} {wl : Nat} {wf : Nat → Int} (h : LH b L xs Z W G A x o S T tl tf wl wf S T tl tf wl wf) {i : Nat} (hi : i + 6 ≤ L) (k : ∀ G2 A2 (S2 T2 tl2 : Nat) (tf2 : Nat → Int) (wl2 : Nat) (wf2 : Nat → Int), LH b L xs Z W G2 A2 x o S2 T2 tl2 tf2 wl2 wf2 S2 T2 tl2 tf2 wl2 wf2 → ZE 12 M_Law_law (gw G2 A2) 2023 [(2, (b : Int)), (2, x), (2, o), (0, (i : Int))] [] P) : ZE 12 M_Law_law (gw G A) 1156 [(2, (b : Int)), (2, x), (2, o), (0, (i : Int))] [] P := by
  refine ZE.aload_n d_Law_law_1156 rfl ?_
  refine ZE.aload_n d_Law_law_1157 rfl ?_
  refine ZE.iload_n d_Law_law_1158 rfl ?_
  refine ZE.iconst (n := 1) d_Law_law_1159 ?_
  refine ZE.iadd d_Law_law_1160 ?_
  refine ZE.ialdRE (v := (xs (i + 1))) d_Law_law_1161 h.2.2.2.2.1.1.1 (by have hn0 := h.2.2.2.2.1.1.2; show 0 ≤ (i : Int) + 1 ∧ (i : Int) + 1 < gn G (b : Int); omega) (by rw [show (i : Int) + 1 = ((i + 1 : Nat) : Int) by omega]; exact (h.2.2.2.2.1.2.1 (i + 1) (by omega)).1) ?_
  refine ZE.cV [(0, (xs (i + 1)))] [] [(2, x), (0, (xs (i + 1)))] d_Law_law_1162 l_Law_138 rfl rfl rfl rfl rfl rfl h.1.cCK.1 ?_
  refine c_madeOf (d := 0) h.1 (h.2.2.2.2.1.2.1 (i + 1) (by omega)).2 (fun G2 A2 hC hT => ?_)
  show ZE 12 M_Law_law (gw G2 A2) 1165 [(2, (b : Int)), (2, x), (2, o), (0, (i : Int))] [(0, moV S (xs (i + 1)))] _
  have h2 := h.c hC hT
  refine ZE.aload_n d_Law_law_1165 rfl ?_
  refine ZE.aload_n d_Law_law_1166 rfl ?_
  refine ZE.iload_n d_Law_law_1167 rfl ?_
  refine ZE.iconst (n := 1) d_Law_law_1168 ?_
  refine ZE.iadd d_Law_law_1169 ?_
  refine ZE.ialdRE (v := (xs (i + 1))) d_Law_law_1170 h2.2.2.2.2.1.1.1 (by have hn0 := h2.2.2.2.2.1.1.2; show 0 ≤ (i : Int) + 1 ∧ (i : Int) + 1 < gn G2 (b : Int); omega) (by rw [show (i : Int) + 1 = ((i + 1 : Nat) : Int) by omega]; exact (h2.2.2.2.2.1.2.1 (i + 1) (by omega)).1) ?_
  refine ZE.cV [(0, (xs (i + 1)))] [(0, moV S (xs (i + 1)))] [(2, o), (0, (xs (i + 1)))] d_Law_law_1171 l_Law_141 rfl rfl rfl rfl rfl rfl h2.2.1.1 ?_
  refine r_madeOf h2.2.1 h2.2.2.1.1 h2.2.2.1.2.1 h.1.cS.2.1 h.1.cS.2.2 (h.2.2.2.2.1.2.1 (i + 1) (by omega)).2 ?_
  show ZE 12 M_Law_law (gw G2 A2) 1174 [(2, (b : Int)), (2, x), (2, o), (0, (i : Int))] [(0, moV S (xs (i + 1))), (0, moV S (xs (i + 1)))] _
  refine ZE.same (tgt := 2023) d_Law_law_1174 rfl ?_
  exact k _ _ _ _ _ _ _ _ h2
set_option maxRecDepth 20000 in
set_option maxHeartbeats 4000000 in
theorem lc_witness {d : Nat} {G : zG} {A : Int → Int → Int} {P : Option zV → zG → Prop} {b L : Nat} {xs : Nat → Int} {Z W : Nat} {x o : Int} {S T tl : Nat} {tf : Nat → Int} {wl : Nat} {wf : Nat → Int} (h : LH b L xs Z W G A x o S T tl tf wl wf S T tl tf wl wf) {i : Nat} (hi : i + 6 ≤ L) (k : ∀ G2 A2 (S2 T2 tl2 : Nat) (tf2 : Nat → Int) (wl2 : Nat) (wf2 : Nat → Int), LH b L xs Z W G2 A2 x o S2 T2 tl2 tf2 wl2 wf2 S2 T2 tl2 tf2 wl2 wf2 → ZE 12 M_Law_law (gw G2 A2) 2023 [(2, (b : Int)), (2, x), (2, o), (0, (i : Int))] [] P) : ZE 12 M_Law_law (gw G A) 1179 [(2, (b : Int)), (2, x), (2, o), (0, (i : Int))] [] P := by
  refine ZE.aload_n d_Law_law_1179 rfl ?_
  refine ZE.aload_n d_Law_law_1180 rfl ?_
  refine ZE.iload_n d_Law_law_1181 rfl ?_
  refine ZE.iconst (n := 1) d_Law_law_1182 ?_
  refine ZE.iadd d_Law_law_1183 ?_
  refine ZE.ialdRE (v := (xs (i + 1))) d_Law_law_1184 h.2.2.2.2.1.1.1 (by have hn0 := h.2.2.2.2.1.1.2; show 0 ≤ (i : Int) + 1 ∧ (i : Int) + 1 < gn G (b : Int); omega) (by rw [show (i : Int) + 1 = ((i + 1 : Nat) : Int) by omega]; exact (h.2.2.2.2.1.2.1 (i + 1) (by omega)).1) ?_
  refine ZE.aload_n d_Law_law_1185 rfl ?_
  refine ZE.iload_n d_Law_law_1186 rfl ?_
  refine ZE.iconst (n := 2) d_Law_law_1187 ?_
  refine ZE.iadd d_Law_law_1188 ?_
  refine ZE.ialdRE (v := (xs (i + 2))) d_Law_law_1189 h.2.2.2.2.1.1.1 (by have hn0 := h.2.2.2.2.1.1.2; show 0 ≤ (i : Int) + 2 ∧ (i : Int) + 2 < gn G (b : Int); omega) (by rw [show (i : Int) + 2 = ((i + 2 : Nat) : Int) by omega]; exact (h.2.2.2.2.1.2.1 (i + 2) (by omega)).1) ?_
  refine ZE.cV [(0, (xs (i + 1))), (0, (xs (i + 2)))] [] [(2, x), (0, (xs (i + 1))), (0, (xs (i + 2))), (9, 0)] d_Law_law_1190 l_Law_142 rfl rfl rfl rfl rfl rfl h.1.cCK.1 ?_
  refine c_witness (d := 0) h.1 (h.2.2.2.2.1.2.1 (i + 1) (by omega)).2 (h.2.2.2.2.1.2.1 (i + 2) (by omega)).2 (fun G2 A2 hC hT => ?_)
  show ZE 12 M_Law_law (gw G2 A2) 1193 [(2, (b : Int)), (2, x), (2, o), (0, (i : Int))] [(0, wiV S (xs (i + 1)) (xs (i + 2)))] _
  have h2 := h.c hC hT
  refine ZE.aload_n d_Law_law_1193 rfl ?_
  refine ZE.aload_n d_Law_law_1194 rfl ?_
  refine ZE.iload_n d_Law_law_1195 rfl ?_
  refine ZE.iconst (n := 1) d_Law_law_1196 ?_
  refine ZE.iadd d_Law_law_1197 ?_
  refine ZE.ialdRE (v := (xs (i + 1))) d_Law_law_1198 h2.2.2.2.2.1.1.1 (by have hn0 := h2.2.2.2.2.1.1.2; show 0 ≤ (i : Int) + 1 ∧ (i : Int) + 1 < gn G2 (b : Int); omega) (by rw [show (i : Int) + 1 = ((i + 1 : Nat) : Int) by omega]; exact (h2.2.2.2.2.1.2.1 (i + 1) (by omega)).1) ?_
  refine ZE.aload_n d_Law_law_1199 rfl ?_
  refine ZE.iload_n d_Law_law_1200 rfl ?_
  refine ZE.iconst (n := 2) d_Law_law_1201 ?_
  refine ZE.iadd d_Law_law_1202 ?_
  refine ZE.ialdRE (v := (xs (i + 2))) d_Law_law_1203 h2.2.2.2.2.1.1.1 (by have hn0 := h2.2.2.2.2.1.1.2; show 0 ≤ (i : Int) + 2 ∧ (i : Int) + 2 < gn G2 (b : Int); omega) (by rw [show (i : Int) + 2 = ((i + 2 : Nat) : Int) by omega]; exact (h2.2.2.2.2.1.2.1 (i + 2) (by omega)).1) ?_
  refine ZE.cV [(0, (xs (i + 1))), (0, (xs (i + 2)))] [(0, wiV S (xs (i + 1)) (xs (i + 2)))] [(2, o), (0, (xs (i + 1))), (0, (xs (i + 2)))] d_Law_law_1204 l_Law_145 rfl rfl rfl rfl rfl rfl h2.2.1.1 ?_
  refine r_witness h2.2.1 h2.2.2.1.1 h2.2.2.1.2.1 h.1.cS.2.1 h.1.cS.2.2 (h.2.2.2.2.1.2.1 (i + 1) (by omega)).2 (h.2.2.2.2.1.2.1 (i + 2) (by omega)).2 ?_
  show ZE 12 M_Law_law (gw G2 A2) 1207 [(2, (b : Int)), (2, x), (2, o), (0, (i : Int))] [(0, wiV S (xs (i + 1)) (xs (i + 2))), (0, wiV S (xs (i + 1)) (xs (i + 2)))] _
  refine ZE.same (tgt := 2023) d_Law_law_1207 rfl ?_
  exact k _ _ _ _ _ _ _ _ h2
set_option maxRecDepth 20000 in
set_option maxHeartbeats 4000000 in
theorem lc_entry {d : Nat} {G : zG} {A : Int → Int → Int} {P : Option zV → zG → Prop} {b L : Nat} {xs : Nat → Int} {Z W : Nat} {x o : Int} {S T tl : Nat} {tf : Nat → Int} {wl : Nat} {wf : Nat → Int} (h : LH b L xs Z W G A x o S T tl tf wl wf S T tl tf wl wf) {i : Nat} (hi : i + 6 ≤ L) (k : ∀ G2 A2 (S2 T2 tl2 : Nat) (tf2 : Nat → Int) (wl2 : Nat) (wf2 : Nat → Int), LH b L xs Z W G2 A2 x o S2 T2 tl2 tf2 wl2 wf2 S2 T2 tl2 tf2 wl2 wf2 → ZE 12 M_Law_law (gw G2 A2) 2023 [(2, (b : Int)), (2, x), (2, o), (0, (i : Int))] [] P) : ZE 12 M_Law_law (gw G A) 1212 [(2, (b : Int)), (2, x), (2, o), (0, (i : Int))] [] P := by
  refine ZE.aload_n d_Law_law_1212 rfl ?_
  refine ZE.aload_n d_Law_law_1213 rfl ?_
  refine ZE.iload_n d_Law_law_1214 rfl ?_
  refine ZE.iconst (n := 1) d_Law_law_1215 ?_
  refine ZE.iadd d_Law_law_1216 ?_
  refine ZE.ialdRE (v := (xs (i + 1))) d_Law_law_1217 h.2.2.2.2.1.1.1 (by have hn0 := h.2.2.2.2.1.1.2; show 0 ≤ (i : Int) + 1 ∧ (i : Int) + 1 < gn G (b : Int); omega) (by rw [show (i : Int) + 1 = ((i + 1 : Nat) : Int) by omega]; exact (h.2.2.2.2.1.2.1 (i + 1) (by omega)).1) ?_
  refine ZE.aload_n d_Law_law_1218 rfl ?_
  refine ZE.iload_n d_Law_law_1219 rfl ?_
  refine ZE.iconst (n := 2) d_Law_law_1220 ?_
  refine ZE.iadd d_Law_law_1221 ?_
  refine ZE.ialdRE (v := (xs (i + 2))) d_Law_law_1222 h.2.2.2.2.1.1.1 (by have hn0 := h.2.2.2.2.1.1.2; show 0 ≤ (i : Int) + 2 ∧ (i : Int) + 2 < gn G (b : Int); omega) (by rw [show (i : Int) + 2 = ((i + 2 : Nat) : Int) by omega]; exact (h.2.2.2.2.1.2.1 (i + 2) (by omega)).1) ?_
  refine ZE.cV [(0, (xs (i + 1))), (0, (xs (i + 2)))] [] [(2, x), (0, (xs (i + 1))), (0, (xs (i + 2))), (9, 0)] d_Law_law_1223 l_Law_146 rfl rfl rfl rfl rfl rfl h.1.cCK.1 ?_
  refine c_entry (d := 0) h.1 (h.2.2.2.2.1.2.1 (i + 1) (by omega)).2 (h.2.2.2.2.1.2.1 (i + 2) (by omega)).2 (fun G2 A2 hC hT => ?_)
  show ZE 12 M_Law_law (gw G2 A2) 1226 [(2, (b : Int)), (2, x), (2, o), (0, (i : Int))] [(0, enV S (xs (i + 1)) (xs (i + 2)))] _
  have h2 := h.c hC hT
  refine ZE.aload_n d_Law_law_1226 rfl ?_
  refine ZE.aload_n d_Law_law_1227 rfl ?_
  refine ZE.iload_n d_Law_law_1228 rfl ?_
  refine ZE.iconst (n := 1) d_Law_law_1229 ?_
  refine ZE.iadd d_Law_law_1230 ?_
  refine ZE.ialdRE (v := (xs (i + 1))) d_Law_law_1231 h2.2.2.2.2.1.1.1 (by have hn0 := h2.2.2.2.2.1.1.2; show 0 ≤ (i : Int) + 1 ∧ (i : Int) + 1 < gn G2 (b : Int); omega) (by rw [show (i : Int) + 1 = ((i + 1 : Nat) : Int) by omega]; exact (h2.2.2.2.2.1.2.1 (i + 1) (by omega)).1) ?_
  refine ZE.aload_n d_Law_law_1232 rfl ?_
  refine ZE.iload_n d_Law_law_1233 rfl ?_
  refine ZE.iconst (n := 2) d_Law_law_1234 ?_
  refine ZE.iadd d_Law_law_1235 ?_
  refine ZE.ialdRE (v := (xs (i + 2))) d_Law_law_1236 h2.2.2.2.2.1.1.1 (by have hn0 := h2.2.2.2.2.1.1.2; show 0 ≤ (i : Int) + 2 ∧ (i : Int) + 2 < gn G2 (b : Int); omega) (by rw [show (i : Int) + 2 = ((i + 2 : Nat) : Int) by omega]; exact (h2.2.2.2.2.1.2.1 (i + 2) (by omega)).1) ?_
  refine ZE.cV [(0, (xs (i + 1))), (0, (xs (i + 2)))] [(0, enV S (xs (i + 1)) (xs (i + 2)))] [(2, o), (0, (xs (i + 1))), (0, (xs (i + 2))), (9, 0), (9, 0), (9, 0), (9, 0), (9, 0)] d_Law_law_1237 l_Law_149 rfl rfl rfl rfl rfl rfl h2.2.1.1 ?_
  refine r_entry h2.2.1 h2.2.2.1.1 h2.2.2.1.2.1 h.1.cS.2.1 h.1.cS.2.2 (h.2.2.2.2.1.2.1 (i + 1) (by omega)).2 (h.2.2.2.2.1.2.1 (i + 2) (by omega)).2 ?_
  show ZE 12 M_Law_law (gw G2 A2) 1240 [(2, (b : Int)), (2, x), (2, o), (0, (i : Int))] [(0, enV S (xs (i + 1)) (xs (i + 2))), (0, enV S (xs (i + 1)) (xs (i + 2)))] _
  refine ZE.same (tgt := 2023) d_Law_law_1240 rfl ?_
  exact k _ _ _ _ _ _ _ _ h2
set_option maxRecDepth 20000 in
set_option maxHeartbeats 4000000 in
theorem lc_leaves {d : Nat} {G : zG} {A : Int → Int → Int} {P : Option zV → zG → Prop} {b L : Nat} {xs : Nat → Int} {Z W : Nat} {x o : Int} {S T tl : Nat} {tf : Nat → Int} {wl : Nat} {wf : Nat → Int} (h : LH b L xs Z W G A x o S T tl tf wl wf S T tl tf wl wf) {i : Nat} (hi : i + 6 ≤ L) (k : ∀ G2 A2 (S2 T2 tl2 : Nat) (tf2 : Nat → Int) (wl2 : Nat) (wf2 : Nat → Int), LH b L xs Z W G2 A2 x o S2 T2 tl2 tf2 wl2 wf2 S2 T2 tl2 tf2 wl2 wf2 → ZE 12 M_Law_law (gw G2 A2) 2023 [(2, (b : Int)), (2, x), (2, o), (0, (i : Int))] [] P) : ZE 12 M_Law_law (gw G A) 1245 [(2, (b : Int)), (2, x), (2, o), (0, (i : Int))] [] P := by
  refine ZE.aload_n d_Law_law_1245 rfl ?_
  refine ZE.aload_n d_Law_law_1246 rfl ?_
  refine ZE.iload_n d_Law_law_1247 rfl ?_
  refine ZE.iconst (n := 1) d_Law_law_1248 ?_
  refine ZE.iadd d_Law_law_1249 ?_
  refine ZE.ialdRE (v := (xs (i + 1))) d_Law_law_1250 h.2.2.2.2.1.1.1 (by have hn0 := h.2.2.2.2.1.1.2; show 0 ≤ (i : Int) + 1 ∧ (i : Int) + 1 < gn G (b : Int); omega) (by rw [show (i : Int) + 1 = ((i + 1 : Nat) : Int) by omega]; exact (h.2.2.2.2.1.2.1 (i + 1) (by omega)).1) ?_
  refine ZE.aload_n d_Law_law_1251 rfl ?_
  refine ZE.iload_n d_Law_law_1252 rfl ?_
  refine ZE.iconst (n := 2) d_Law_law_1253 ?_
  refine ZE.iadd d_Law_law_1254 ?_
  refine ZE.ialdRE (v := (xs (i + 2))) d_Law_law_1255 h.2.2.2.2.1.1.1 (by have hn0 := h.2.2.2.2.1.1.2; show 0 ≤ (i : Int) + 2 ∧ (i : Int) + 2 < gn G (b : Int); omega) (by rw [show (i : Int) + 2 = ((i + 2 : Nat) : Int) by omega]; exact (h.2.2.2.2.1.2.1 (i + 2) (by omega)).1) ?_
  refine ZE.cV [(0, (xs (i + 1))), (0, (xs (i + 2)))] [] [(2, x), (0, (xs (i + 1))), (0, (xs (i + 2)))] d_Law_law_1256 l_Law_150 rfl rfl rfl rfl rfl rfl h.1.cCK.1 ?_
  refine c_leaves (d := 0) h.1 (h.2.2.2.2.1.2.1 (i + 1) (by omega)).2 (h.2.2.2.2.1.2.1 (i + 2) (by omega)).2 (fun G2 A2 hC hT => ?_)
  show ZE 12 M_Law_law (gw G2 A2) 1259 [(2, (b : Int)), (2, x), (2, o), (0, (i : Int))] [(0, lvV S (xs (i + 1)) (xs (i + 2)))] _
  have h2 := h.c hC hT
  refine ZE.aload_n d_Law_law_1259 rfl ?_
  refine ZE.aload_n d_Law_law_1260 rfl ?_
  refine ZE.iload_n d_Law_law_1261 rfl ?_
  refine ZE.iconst (n := 1) d_Law_law_1262 ?_
  refine ZE.iadd d_Law_law_1263 ?_
  refine ZE.ialdRE (v := (xs (i + 1))) d_Law_law_1264 h2.2.2.2.2.1.1.1 (by have hn0 := h2.2.2.2.2.1.1.2; show 0 ≤ (i : Int) + 1 ∧ (i : Int) + 1 < gn G2 (b : Int); omega) (by rw [show (i : Int) + 1 = ((i + 1 : Nat) : Int) by omega]; exact (h2.2.2.2.2.1.2.1 (i + 1) (by omega)).1) ?_
  refine ZE.aload_n d_Law_law_1265 rfl ?_
  refine ZE.iload_n d_Law_law_1266 rfl ?_
  refine ZE.iconst (n := 2) d_Law_law_1267 ?_
  refine ZE.iadd d_Law_law_1268 ?_
  refine ZE.ialdRE (v := (xs (i + 2))) d_Law_law_1269 h2.2.2.2.2.1.1.1 (by have hn0 := h2.2.2.2.2.1.1.2; show 0 ≤ (i : Int) + 2 ∧ (i : Int) + 2 < gn G2 (b : Int); omega) (by rw [show (i : Int) + 2 = ((i + 2 : Nat) : Int) by omega]; exact (h2.2.2.2.2.1.2.1 (i + 2) (by omega)).1) ?_
  refine ZE.cV [(0, (xs (i + 1))), (0, (xs (i + 2)))] [(0, lvV S (xs (i + 1)) (xs (i + 2)))] [(2, o), (0, (xs (i + 1))), (0, (xs (i + 2)))] d_Law_law_1270 l_Law_153 rfl rfl rfl rfl rfl rfl h2.2.1.1 ?_
  refine r_leaves h2.2.1 h2.2.2.1.1 h2.2.2.1.2.1 h.1.cS.2.1 h.1.cS.2.2 (h.2.2.2.2.1.2.1 (i + 1) (by omega)).2 (h.2.2.2.2.1.2.1 (i + 2) (by omega)).2 (fun B gB => ?_)
  show ZE 12 M_Law_law (gw G2 B) 1273 [(2, (b : Int)), (2, x), (2, o), (0, (i : Int))] [(0, lvV S (xs (i + 1)) (xs (i + 2))), (0, lvV S (xs (i + 1)) (xs (i + 2)))] _
  have h3 := h2.r (ri_qu h2.2.2.1 gB)
  refine ZE.same (tgt := 2023) d_Law_law_1273 rfl ?_
  exact k _ _ _ _ _ _ _ _ h3
set_option maxRecDepth 20000 in
set_option maxHeartbeats 4000000 in
theorem lc_nearing {d : Nat} {G : zG} {A : Int → Int → Int} {P : Option zV → zG → Prop} {b L : Nat} {xs : Nat → Int} {Z W : Nat} {x o : Int} {S T tl : Nat} {tf : Nat → Int} {wl : Nat} {wf : Nat → Int} (h : LH b L xs Z W G A x o S T tl tf wl wf S T tl tf wl wf) {i : Nat} (hi : i + 6 ≤ L) (k : ∀ G2 A2 (S2 T2 tl2 : Nat) (tf2 : Nat → Int) (wl2 : Nat) (wf2 : Nat → Int), LH b L xs Z W G2 A2 x o S2 T2 tl2 tf2 wl2 wf2 S2 T2 tl2 tf2 wl2 wf2 → ZE 12 M_Law_law (gw G2 A2) 2023 [(2, (b : Int)), (2, x), (2, o), (0, (i : Int))] [] P) : ZE 12 M_Law_law (gw G A) 1278 [(2, (b : Int)), (2, x), (2, o), (0, (i : Int))] [] P := by
  refine ZE.aload_n d_Law_law_1278 rfl ?_
  refine ZE.aload_n d_Law_law_1279 rfl ?_
  refine ZE.iload_n d_Law_law_1280 rfl ?_
  refine ZE.iconst (n := 1) d_Law_law_1281 ?_
  refine ZE.iadd d_Law_law_1282 ?_
  refine ZE.ialdRE (v := (xs (i + 1))) d_Law_law_1283 h.2.2.2.2.1.1.1 (by have hn0 := h.2.2.2.2.1.1.2; show 0 ≤ (i : Int) + 1 ∧ (i : Int) + 1 < gn G (b : Int); omega) (by rw [show (i : Int) + 1 = ((i + 1 : Nat) : Int) by omega]; exact (h.2.2.2.2.1.2.1 (i + 1) (by omega)).1) ?_
  refine ZE.aload_n d_Law_law_1284 rfl ?_
  refine ZE.iload_n d_Law_law_1285 rfl ?_
  refine ZE.iconst (n := 2) d_Law_law_1286 ?_
  refine ZE.iadd d_Law_law_1287 ?_
  refine ZE.ialdRE (v := (xs (i + 2))) d_Law_law_1288 h.2.2.2.2.1.1.1 (by have hn0 := h.2.2.2.2.1.1.2; show 0 ≤ (i : Int) + 2 ∧ (i : Int) + 2 < gn G (b : Int); omega) (by rw [show (i : Int) + 2 = ((i + 2 : Nat) : Int) by omega]; exact (h.2.2.2.2.1.2.1 (i + 2) (by omega)).1) ?_
  refine ZE.aload_n d_Law_law_1289 rfl ?_
  refine ZE.iload_n d_Law_law_1290 rfl ?_
  refine ZE.iconst (n := 3) d_Law_law_1291 ?_
  refine ZE.iadd d_Law_law_1292 ?_
  refine ZE.ialdRE (v := (xs (i + 3))) d_Law_law_1293 h.2.2.2.2.1.1.1 (by have hn0 := h.2.2.2.2.1.1.2; show 0 ≤ (i : Int) + 3 ∧ (i : Int) + 3 < gn G (b : Int); omega) (by rw [show (i : Int) + 3 = ((i + 3 : Nat) : Int) by omega]; exact (h.2.2.2.2.1.2.1 (i + 3) (by omega)).1) ?_
  refine ZE.aload_n d_Law_law_1294 rfl ?_
  refine ZE.iload_n d_Law_law_1295 rfl ?_
  refine ZE.iconst (n := 4) d_Law_law_1296 ?_
  refine ZE.iadd d_Law_law_1297 ?_
  refine ZE.ialdRE (v := (xs (i + 4))) d_Law_law_1298 h.2.2.2.2.1.1.1 (by have hn0 := h.2.2.2.2.1.1.2; show 0 ≤ (i : Int) + 4 ∧ (i : Int) + 4 < gn G (b : Int); omega) (by rw [show (i : Int) + 4 = ((i + 4 : Nat) : Int) by omega]; exact (h.2.2.2.2.1.2.1 (i + 4) (by omega)).1) ?_
  refine ZE.cV [(0, (xs (i + 1))), (0, (xs (i + 2))), (0, (xs (i + 3))), (0, (xs (i + 4)))] [] [(2, x), (0, (xs (i + 1))), (0, (xs (i + 2))), (0, (xs (i + 3))), (0, (xs (i + 4)))] d_Law_law_1299 l_Law_154 rfl rfl rfl rfl rfl rfl h.1.cCK.1 ?_
  refine c_nearing (d := 0) h.1 (h.2.2.2.2.1.2.1 (i + 1) (by omega)).2 (h.2.2.2.2.1.2.1 (i + 2) (by omega)).2 (h.2.2.2.2.1.2.1 (i + 3) (by omega)).2 (h.2.2.2.2.1.2.1 (i + 4) (by omega)).2 (fun G2 A2 hC hT => ?_)
  show ZE 12 M_Law_law (gw G2 A2) 1302 [(2, (b : Int)), (2, x), (2, o), (0, (i : Int))] [(0, neV S (xs (i + 1)) (xs (i + 2)) (xs (i + 3)) (xs (i + 4)))] _
  have h2 := h.c hC hT
  refine ZE.aload_n d_Law_law_1302 rfl ?_
  refine ZE.aload_n d_Law_law_1303 rfl ?_
  refine ZE.iload_n d_Law_law_1304 rfl ?_
  refine ZE.iconst (n := 1) d_Law_law_1305 ?_
  refine ZE.iadd d_Law_law_1306 ?_
  refine ZE.ialdRE (v := (xs (i + 1))) d_Law_law_1307 h2.2.2.2.2.1.1.1 (by have hn0 := h2.2.2.2.2.1.1.2; show 0 ≤ (i : Int) + 1 ∧ (i : Int) + 1 < gn G2 (b : Int); omega) (by rw [show (i : Int) + 1 = ((i + 1 : Nat) : Int) by omega]; exact (h2.2.2.2.2.1.2.1 (i + 1) (by omega)).1) ?_
  refine ZE.aload_n d_Law_law_1308 rfl ?_
  refine ZE.iload_n d_Law_law_1309 rfl ?_
  refine ZE.iconst (n := 2) d_Law_law_1310 ?_
  refine ZE.iadd d_Law_law_1311 ?_
  refine ZE.ialdRE (v := (xs (i + 2))) d_Law_law_1312 h2.2.2.2.2.1.1.1 (by have hn0 := h2.2.2.2.2.1.1.2; show 0 ≤ (i : Int) + 2 ∧ (i : Int) + 2 < gn G2 (b : Int); omega) (by rw [show (i : Int) + 2 = ((i + 2 : Nat) : Int) by omega]; exact (h2.2.2.2.2.1.2.1 (i + 2) (by omega)).1) ?_
  refine ZE.aload_n d_Law_law_1313 rfl ?_
  refine ZE.iload_n d_Law_law_1314 rfl ?_
  refine ZE.iconst (n := 3) d_Law_law_1315 ?_
  refine ZE.iadd d_Law_law_1316 ?_
  refine ZE.ialdRE (v := (xs (i + 3))) d_Law_law_1317 h2.2.2.2.2.1.1.1 (by have hn0 := h2.2.2.2.2.1.1.2; show 0 ≤ (i : Int) + 3 ∧ (i : Int) + 3 < gn G2 (b : Int); omega) (by rw [show (i : Int) + 3 = ((i + 3 : Nat) : Int) by omega]; exact (h2.2.2.2.2.1.2.1 (i + 3) (by omega)).1) ?_
  refine ZE.aload_n d_Law_law_1318 rfl ?_
  refine ZE.iload_n d_Law_law_1319 rfl ?_
  refine ZE.iconst (n := 4) d_Law_law_1320 ?_
  refine ZE.iadd d_Law_law_1321 ?_
  refine ZE.ialdRE (v := (xs (i + 4))) d_Law_law_1322 h2.2.2.2.2.1.1.1 (by have hn0 := h2.2.2.2.2.1.1.2; show 0 ≤ (i : Int) + 4 ∧ (i : Int) + 4 < gn G2 (b : Int); omega) (by rw [show (i : Int) + 4 = ((i + 4 : Nat) : Int) by omega]; exact (h2.2.2.2.2.1.2.1 (i + 4) (by omega)).1) ?_
  refine ZE.cV [(0, (xs (i + 1))), (0, (xs (i + 2))), (0, (xs (i + 3))), (0, (xs (i + 4)))] [(0, neV S (xs (i + 1)) (xs (i + 2)) (xs (i + 3)) (xs (i + 4)))] [(2, o), (0, (xs (i + 1))), (0, (xs (i + 2))), (0, (xs (i + 3))), (0, (xs (i + 4))), (9, 0), (9, 0), (9, 0), (9, 0)] d_Law_law_1323 l_Law_158 rfl rfl rfl rfl rfl rfl h2.2.1.1 ?_
  refine r_nearing h2.2.1 h2.2.2.1.1 h2.2.2.1.2.1 h.1.cS.2.1 h.1.cS.2.2 (h.2.2.2.2.1.2.1 (i + 1) (by omega)).2 (h.2.2.2.2.1.2.1 (i + 2) (by omega)).2 (h.2.2.2.2.1.2.1 (i + 3) (by omega)).2 (h.2.2.2.2.1.2.1 (i + 4) (by omega)).2 (fun B gB => ?_)
  show ZE 12 M_Law_law (gw G2 B) 1326 [(2, (b : Int)), (2, x), (2, o), (0, (i : Int))] [(0, neV S (xs (i + 1)) (xs (i + 2)) (xs (i + 3)) (xs (i + 4))), (0, neV S (xs (i + 1)) (xs (i + 2)) (xs (i + 3)) (xs (i + 4)))] _
  have h3 := h2.r (ri_qu h2.2.2.1 gB)
  refine ZE.same (tgt := 2023) d_Law_law_1326 rfl ?_
  exact k _ _ _ _ _ _ _ _ h3
set_option maxRecDepth 20000 in
set_option maxHeartbeats 4000000 in
theorem lc_middle {d : Nat} {G : zG} {A : Int → Int → Int} {P : Option zV → zG → Prop} {b L : Nat} {xs : Nat → Int} {Z W : Nat} {x o : Int} {S T tl : Nat} {tf : Nat → Int} {wl : Nat} {wf : Nat → Int} (h : LH b L xs Z W G A x o S T tl tf wl wf S T tl tf wl wf) {i : Nat} (hi : i + 6 ≤ L) (k : ∀ G2 A2 (S2 T2 tl2 : Nat) (tf2 : Nat → Int) (wl2 : Nat) (wf2 : Nat → Int), LH b L xs Z W G2 A2 x o S2 T2 tl2 tf2 wl2 wf2 S2 T2 tl2 tf2 wl2 wf2 → ZE 12 M_Law_law (gw G2 A2) 2023 [(2, (b : Int)), (2, x), (2, o), (0, (i : Int))] [] P) : ZE 12 M_Law_law (gw G A) 1331 [(2, (b : Int)), (2, x), (2, o), (0, (i : Int))] [] P := by
  refine ZE.aload_n d_Law_law_1331 rfl ?_
  refine ZE.aload_n d_Law_law_1332 rfl ?_
  refine ZE.iload_n d_Law_law_1333 rfl ?_
  refine ZE.iconst (n := 1) d_Law_law_1334 ?_
  refine ZE.iadd d_Law_law_1335 ?_
  refine ZE.ialdRE (v := (xs (i + 1))) d_Law_law_1336 h.2.2.2.2.1.1.1 (by have hn0 := h.2.2.2.2.1.1.2; show 0 ≤ (i : Int) + 1 ∧ (i : Int) + 1 < gn G (b : Int); omega) (by rw [show (i : Int) + 1 = ((i + 1 : Nat) : Int) by omega]; exact (h.2.2.2.2.1.2.1 (i + 1) (by omega)).1) ?_
  refine ZE.cV [(0, (xs (i + 1)))] [] [(2, x), (0, (xs (i + 1)))] d_Law_law_1337 l_Law_159 rfl rfl rfl rfl rfl rfl h.1.cCK.1 ?_
  refine c_middle (d := 0) h.1 (h.2.2.2.2.1.2.1 (i + 1) (by omega)).2 (fun G2 A2 hC hT => ?_)
  show ZE 12 M_Law_law (gw G2 A2) 1340 [(2, (b : Int)), (2, x), (2, o), (0, (i : Int))] [(0, miV S (xs (i + 1)))] _
  have h2 := h.c hC hT
  refine ZE.aload_n d_Law_law_1340 rfl ?_
  refine ZE.aload_n d_Law_law_1341 rfl ?_
  refine ZE.iload_n d_Law_law_1342 rfl ?_
  refine ZE.iconst (n := 1) d_Law_law_1343 ?_
  refine ZE.iadd d_Law_law_1344 ?_
  refine ZE.ialdRE (v := (xs (i + 1))) d_Law_law_1345 h2.2.2.2.2.1.1.1 (by have hn0 := h2.2.2.2.2.1.1.2; show 0 ≤ (i : Int) + 1 ∧ (i : Int) + 1 < gn G2 (b : Int); omega) (by rw [show (i : Int) + 1 = ((i + 1 : Nat) : Int) by omega]; exact (h2.2.2.2.2.1.2.1 (i + 1) (by omega)).1) ?_
  refine ZE.cV [(0, (xs (i + 1)))] [(0, miV S (xs (i + 1)))] [(2, o), (0, (xs (i + 1)))] d_Law_law_1346 l_Law_162 rfl rfl rfl rfl rfl rfl h2.2.1.1 ?_
  refine r_middle h2.2.1 h2.2.2.1.1 h2.2.2.1.2.1 h.1.cS.2.1 h.1.cS.2.2 (h.2.2.2.2.1.2.1 (i + 1) (by omega)).2 (fun B gB => ?_)
  show ZE 12 M_Law_law (gw G2 B) 1349 [(2, (b : Int)), (2, x), (2, o), (0, (i : Int))] [(0, miV S (xs (i + 1))), (0, miV S (xs (i + 1)))] _
  have h3 := h2.r (ri_qu h2.2.2.1 gB)
  refine ZE.same (tgt := 2023) d_Law_law_1349 rfl ?_
  exact k _ _ _ _ _ _ _ _ h3
set_option maxRecDepth 20000 in
set_option maxHeartbeats 4000000 in
theorem lc_least {d : Nat} {G : zG} {A : Int → Int → Int} {P : Option zV → zG → Prop} {b L : Nat} {xs : Nat → Int} {Z W : Nat} {x o : Int} {S T tl : Nat} {tf : Nat → Int} {wl : Nat} {wf : Nat → Int} (h : LH b L xs Z W G A x o S T tl tf wl wf S T tl tf wl wf) {i : Nat} (hi : i + 6 ≤ L) (k : ∀ G2 A2 (S2 T2 tl2 : Nat) (tf2 : Nat → Int) (wl2 : Nat) (wf2 : Nat → Int), LH b L xs Z W G2 A2 x o S2 T2 tl2 tf2 wl2 wf2 S2 T2 tl2 tf2 wl2 wf2 → ZE 12 M_Law_law (gw G2 A2) 2023 [(2, (b : Int)), (2, x), (2, o), (0, (i : Int))] [] P) : ZE 12 M_Law_law (gw G A) 1354 [(2, (b : Int)), (2, x), (2, o), (0, (i : Int))] [] P := by
  refine ZE.aload_n d_Law_law_1354 rfl ?_
  refine ZE.aload_n d_Law_law_1355 rfl ?_
  refine ZE.iload_n d_Law_law_1356 rfl ?_
  refine ZE.iconst (n := 1) d_Law_law_1357 ?_
  refine ZE.iadd d_Law_law_1358 ?_
  refine ZE.ialdRE (v := (xs (i + 1))) d_Law_law_1359 h.2.2.2.2.1.1.1 (by have hn0 := h.2.2.2.2.1.1.2; show 0 ≤ (i : Int) + 1 ∧ (i : Int) + 1 < gn G (b : Int); omega) (by rw [show (i : Int) + 1 = ((i + 1 : Nat) : Int) by omega]; exact (h.2.2.2.2.1.2.1 (i + 1) (by omega)).1) ?_
  refine ZE.aload_n d_Law_law_1360 rfl ?_
  refine ZE.iload_n d_Law_law_1361 rfl ?_
  refine ZE.iconst (n := 2) d_Law_law_1362 ?_
  refine ZE.iadd d_Law_law_1363 ?_
  refine ZE.ialdRE (v := (xs (i + 2))) d_Law_law_1364 h.2.2.2.2.1.1.1 (by have hn0 := h.2.2.2.2.1.1.2; show 0 ≤ (i : Int) + 2 ∧ (i : Int) + 2 < gn G (b : Int); omega) (by rw [show (i : Int) + 2 = ((i + 2 : Nat) : Int) by omega]; exact (h.2.2.2.2.1.2.1 (i + 2) (by omega)).1) ?_
  refine ZE.cV [(0, (xs (i + 1))), (0, (xs (i + 2)))] [] [(2, x), (0, (xs (i + 1))), (0, (xs (i + 2))), (9, 0), (9, 0), (9, 0)] d_Law_law_1365 l_Law_163 rfl rfl rfl rfl rfl rfl h.1.cCK.1 ?_
  refine c_least (d := 0) h.1 (h.2.2.2.2.1.2.1 (i + 1) (by omega)).2 (h.2.2.2.2.1.2.1 (i + 2) (by omega)).2 (fun G2 A2 hC hT => ?_)
  show ZE 12 M_Law_law (gw G2 A2) 1368 [(2, (b : Int)), (2, x), (2, o), (0, (i : Int))] [(0, lsV S (xs (i + 1)) (xs (i + 2)))] _
  have h2 := h.c hC hT
  refine ZE.aload_n d_Law_law_1368 rfl ?_
  refine ZE.aload_n d_Law_law_1369 rfl ?_
  refine ZE.iload_n d_Law_law_1370 rfl ?_
  refine ZE.iconst (n := 1) d_Law_law_1371 ?_
  refine ZE.iadd d_Law_law_1372 ?_
  refine ZE.ialdRE (v := (xs (i + 1))) d_Law_law_1373 h2.2.2.2.2.1.1.1 (by have hn0 := h2.2.2.2.2.1.1.2; show 0 ≤ (i : Int) + 1 ∧ (i : Int) + 1 < gn G2 (b : Int); omega) (by rw [show (i : Int) + 1 = ((i + 1 : Nat) : Int) by omega]; exact (h2.2.2.2.2.1.2.1 (i + 1) (by omega)).1) ?_
  refine ZE.aload_n d_Law_law_1374 rfl ?_
  refine ZE.iload_n d_Law_law_1375 rfl ?_
  refine ZE.iconst (n := 2) d_Law_law_1376 ?_
  refine ZE.iadd d_Law_law_1377 ?_
  refine ZE.ialdRE (v := (xs (i + 2))) d_Law_law_1378 h2.2.2.2.2.1.1.1 (by have hn0 := h2.2.2.2.2.1.1.2; show 0 ≤ (i : Int) + 2 ∧ (i : Int) + 2 < gn G2 (b : Int); omega) (by rw [show (i : Int) + 2 = ((i + 2 : Nat) : Int) by omega]; exact (h2.2.2.2.2.1.2.1 (i + 2) (by omega)).1) ?_
  refine ZE.cV [(0, (xs (i + 1))), (0, (xs (i + 2)))] [(0, lsV S (xs (i + 1)) (xs (i + 2)))] [(2, o), (0, (xs (i + 1))), (0, (xs (i + 2))), (9, 0)] d_Law_law_1379 l_Law_166 rfl rfl rfl rfl rfl rfl h2.2.1.1 ?_
  refine r_least h2.2.1 h2.2.2.1.1 h2.2.2.1.2.1 h.1.cS.2.1 h.1.cS.2.2 (h.2.2.2.2.1.2.1 (i + 1) (by omega)).2 (h.2.2.2.2.1.2.1 (i + 2) (by omega)).2 ?_
  show ZE 12 M_Law_law (gw G2 A2) 1382 [(2, (b : Int)), (2, x), (2, o), (0, (i : Int))] [(0, lsV S (xs (i + 1)) (xs (i + 2))), (0, lsV S (xs (i + 1)) (xs (i + 2)))] _
  refine ZE.same (tgt := 2023) d_Law_law_1382 rfl ?_
  exact k _ _ _ _ _ _ _ _ h2
set_option maxRecDepth 20000 in
set_option maxHeartbeats 4000000 in
theorem lc_apart {d : Nat} {G : zG} {A : Int → Int → Int} {P : Option zV → zG → Prop} {b L : Nat} {xs : Nat → Int} {Z W : Nat} {x o : Int} {S T tl : Nat} {tf : Nat → Int} {wl : Nat} {wf : Nat → Int} (h : LH b L xs Z W G A x o S T tl tf wl wf S T tl tf wl wf) {i : Nat} (hi : i + 6 ≤ L) (k : ∀ G2 A2 (S2 T2 tl2 : Nat) (tf2 : Nat → Int) (wl2 : Nat) (wf2 : Nat → Int), LH b L xs Z W G2 A2 x o S2 T2 tl2 tf2 wl2 wf2 S2 T2 tl2 tf2 wl2 wf2 → ZE 12 M_Law_law (gw G2 A2) 2023 [(2, (b : Int)), (2, x), (2, o), (0, (i : Int))] [] P) : ZE 12 M_Law_law (gw G A) 1387 [(2, (b : Int)), (2, x), (2, o), (0, (i : Int))] [] P := by
  refine ZE.aload_n d_Law_law_1387 rfl ?_
  refine ZE.aload_n d_Law_law_1388 rfl ?_
  refine ZE.iload_n d_Law_law_1389 rfl ?_
  refine ZE.iconst (n := 1) d_Law_law_1390 ?_
  refine ZE.iadd d_Law_law_1391 ?_
  refine ZE.ialdRE (v := (xs (i + 1))) d_Law_law_1392 h.2.2.2.2.1.1.1 (by have hn0 := h.2.2.2.2.1.1.2; show 0 ≤ (i : Int) + 1 ∧ (i : Int) + 1 < gn G (b : Int); omega) (by rw [show (i : Int) + 1 = ((i + 1 : Nat) : Int) by omega]; exact (h.2.2.2.2.1.2.1 (i + 1) (by omega)).1) ?_
  refine ZE.aload_n d_Law_law_1393 rfl ?_
  refine ZE.iload_n d_Law_law_1394 rfl ?_
  refine ZE.iconst (n := 2) d_Law_law_1395 ?_
  refine ZE.iadd d_Law_law_1396 ?_
  refine ZE.ialdRE (v := (xs (i + 2))) d_Law_law_1397 h.2.2.2.2.1.1.1 (by have hn0 := h.2.2.2.2.1.1.2; show 0 ≤ (i : Int) + 2 ∧ (i : Int) + 2 < gn G (b : Int); omega) (by rw [show (i : Int) + 2 = ((i + 2 : Nat) : Int) by omega]; exact (h.2.2.2.2.1.2.1 (i + 2) (by omega)).1) ?_
  refine ZE.cV [(0, (xs (i + 1))), (0, (xs (i + 2)))] [] [(2, x), (0, (xs (i + 1))), (0, (xs (i + 2))), (9, 0)] d_Law_law_1398 l_Law_167 rfl rfl rfl rfl rfl rfl h.1.cCK.1 ?_
  refine c_apart (d := 0) h.1 (h.2.2.2.2.1.2.1 (i + 1) (by omega)).2 (h.2.2.2.2.1.2.1 (i + 2) (by omega)).2 (fun G2 A2 hC hT => ?_)
  show ZE 12 M_Law_law (gw G2 A2) 1401 [(2, (b : Int)), (2, x), (2, o), (0, (i : Int))] [(0, apV S (xs (i + 1)) (xs (i + 2)))] _
  have h2 := h.c hC hT
  refine ZE.aload_n d_Law_law_1401 rfl ?_
  refine ZE.aload_n d_Law_law_1402 rfl ?_
  refine ZE.iload_n d_Law_law_1403 rfl ?_
  refine ZE.iconst (n := 1) d_Law_law_1404 ?_
  refine ZE.iadd d_Law_law_1405 ?_
  refine ZE.ialdRE (v := (xs (i + 1))) d_Law_law_1406 h2.2.2.2.2.1.1.1 (by have hn0 := h2.2.2.2.2.1.1.2; show 0 ≤ (i : Int) + 1 ∧ (i : Int) + 1 < gn G2 (b : Int); omega) (by rw [show (i : Int) + 1 = ((i + 1 : Nat) : Int) by omega]; exact (h2.2.2.2.2.1.2.1 (i + 1) (by omega)).1) ?_
  refine ZE.aload_n d_Law_law_1407 rfl ?_
  refine ZE.iload_n d_Law_law_1408 rfl ?_
  refine ZE.iconst (n := 2) d_Law_law_1409 ?_
  refine ZE.iadd d_Law_law_1410 ?_
  refine ZE.ialdRE (v := (xs (i + 2))) d_Law_law_1411 h2.2.2.2.2.1.1.1 (by have hn0 := h2.2.2.2.2.1.1.2; show 0 ≤ (i : Int) + 2 ∧ (i : Int) + 2 < gn G2 (b : Int); omega) (by rw [show (i : Int) + 2 = ((i + 2 : Nat) : Int) by omega]; exact (h2.2.2.2.2.1.2.1 (i + 2) (by omega)).1) ?_
  refine ZE.cV [(0, (xs (i + 1))), (0, (xs (i + 2)))] [(0, apV S (xs (i + 1)) (xs (i + 2)))] [(2, o), (0, (xs (i + 1))), (0, (xs (i + 2))), (9, 0), (9, 0)] d_Law_law_1412 l_Law_170 rfl rfl rfl rfl rfl rfl h2.2.1.1 ?_
  refine r_apart h2.2.1 h2.2.2.1.1 h2.2.2.1.2.1 h.1.cS.2.1 h.1.cS.2.2 (h.2.2.2.2.1.2.1 (i + 1) (by omega)).2 (h.2.2.2.2.1.2.1 (i + 2) (by omega)).2 ?_
  show ZE 12 M_Law_law (gw G2 A2) 1415 [(2, (b : Int)), (2, x), (2, o), (0, (i : Int))] [(0, apV S (xs (i + 1)) (xs (i + 2))), (0, apV S (xs (i + 1)) (xs (i + 2)))] _
  refine ZE.same (tgt := 2023) d_Law_law_1415 rfl ?_
  exact k _ _ _ _ _ _ _ _ h2
set_option maxRecDepth 20000 in
set_option maxHeartbeats 4000000 in
theorem lc_sums {d : Nat} {G : zG} {A : Int → Int → Int} {P : Option zV → zG → Prop} {b L : Nat} {xs : Nat → Int} {Z W : Nat} {x o : Int} {S T tl : Nat} {tf : Nat → Int} {wl : Nat} {wf : Nat → Int} (h : LH b L xs Z W G A x o S T tl tf wl wf S T tl tf wl wf) {i : Nat} (hi : i + 6 ≤ L) (k : ∀ G2 A2 (S2 T2 tl2 : Nat) (tf2 : Nat → Int) (wl2 : Nat) (wf2 : Nat → Int), LH b L xs Z W G2 A2 x o S2 T2 tl2 tf2 wl2 wf2 S2 T2 tl2 tf2 wl2 wf2 → ZE 12 M_Law_law (gw G2 A2) 2023 [(2, (b : Int)), (2, x), (2, o), (0, (i : Int))] [] P) : ZE 12 M_Law_law (gw G A) 1420 [(2, (b : Int)), (2, x), (2, o), (0, (i : Int))] [] P := by
  refine ZE.aload_n d_Law_law_1420 rfl ?_
  refine ZE.aload_n d_Law_law_1421 rfl ?_
  refine ZE.iload_n d_Law_law_1422 rfl ?_
  refine ZE.iconst (n := 1) d_Law_law_1423 ?_
  refine ZE.iadd d_Law_law_1424 ?_
  refine ZE.ialdRE (v := (xs (i + 1))) d_Law_law_1425 h.2.2.2.2.1.1.1 (by have hn0 := h.2.2.2.2.1.1.2; show 0 ≤ (i : Int) + 1 ∧ (i : Int) + 1 < gn G (b : Int); omega) (by rw [show (i : Int) + 1 = ((i + 1 : Nat) : Int) by omega]; exact (h.2.2.2.2.1.2.1 (i + 1) (by omega)).1) ?_
  refine ZE.aload_n d_Law_law_1426 rfl ?_
  refine ZE.iload_n d_Law_law_1427 rfl ?_
  refine ZE.iconst (n := 2) d_Law_law_1428 ?_
  refine ZE.iadd d_Law_law_1429 ?_
  refine ZE.ialdRE (v := (xs (i + 2))) d_Law_law_1430 h.2.2.2.2.1.1.1 (by have hn0 := h.2.2.2.2.1.1.2; show 0 ≤ (i : Int) + 2 ∧ (i : Int) + 2 < gn G (b : Int); omega) (by rw [show (i : Int) + 2 = ((i + 2 : Nat) : Int) by omega]; exact (h.2.2.2.2.1.2.1 (i + 2) (by omega)).1) ?_
  refine ZE.cV [(0, (xs (i + 1))), (0, (xs (i + 2)))] [] [(2, x), (0, (xs (i + 1))), (0, (xs (i + 2))), (9, 0)] d_Law_law_1431 l_Law_171 rfl rfl rfl rfl rfl rfl h.1.cCK.1 ?_
  refine c_sums (d := 0) h.1 (h.2.2.2.2.1.2.1 (i + 1) (by omega)).2 (h.2.2.2.2.1.2.1 (i + 2) (by omega)).2 (fun G2 A2 hC hT => ?_)
  show ZE 12 M_Law_law (gw G2 A2) 1434 [(2, (b : Int)), (2, x), (2, o), (0, (i : Int))] [(0, ssV S (xs (i + 1)) (xs (i + 2)))] _
  have h2 := h.c hC hT
  refine ZE.aload_n d_Law_law_1434 rfl ?_
  refine ZE.aload_n d_Law_law_1435 rfl ?_
  refine ZE.iload_n d_Law_law_1436 rfl ?_
  refine ZE.iconst (n := 1) d_Law_law_1437 ?_
  refine ZE.iadd d_Law_law_1438 ?_
  refine ZE.ialdRE (v := (xs (i + 1))) d_Law_law_1439 h2.2.2.2.2.1.1.1 (by have hn0 := h2.2.2.2.2.1.1.2; show 0 ≤ (i : Int) + 1 ∧ (i : Int) + 1 < gn G2 (b : Int); omega) (by rw [show (i : Int) + 1 = ((i + 1 : Nat) : Int) by omega]; exact (h2.2.2.2.2.1.2.1 (i + 1) (by omega)).1) ?_
  refine ZE.aload_n d_Law_law_1440 rfl ?_
  refine ZE.iload_n d_Law_law_1441 rfl ?_
  refine ZE.iconst (n := 2) d_Law_law_1442 ?_
  refine ZE.iadd d_Law_law_1443 ?_
  refine ZE.ialdRE (v := (xs (i + 2))) d_Law_law_1444 h2.2.2.2.2.1.1.1 (by have hn0 := h2.2.2.2.2.1.1.2; show 0 ≤ (i : Int) + 2 ∧ (i : Int) + 2 < gn G2 (b : Int); omega) (by rw [show (i : Int) + 2 = ((i + 2 : Nat) : Int) by omega]; exact (h2.2.2.2.2.1.2.1 (i + 2) (by omega)).1) ?_
  refine ZE.cV [(0, (xs (i + 1))), (0, (xs (i + 2)))] [(0, ssV S (xs (i + 1)) (xs (i + 2)))] [(2, o), (0, (xs (i + 1))), (0, (xs (i + 2))), (9, 0), (9, 0), (9, 0), (9, 0)] d_Law_law_1445 l_Law_174 rfl rfl rfl rfl rfl rfl h2.2.1.1 ?_
  refine r_sums h2.2.1 h2.2.2.1.1 h2.2.2.1.2.1 h.1.cS.2.1 h.1.cS.2.2 (h.2.2.2.2.1.2.1 (i + 1) (by omega)).2 (h.2.2.2.2.1.2.1 (i + 2) (by omega)).2 (fun B gB => ?_)
  show ZE 12 M_Law_law (gw G2 B) 1448 [(2, (b : Int)), (2, x), (2, o), (0, (i : Int))] [(0, ssV S (xs (i + 1)) (xs (i + 2))), (0, ssV S (xs (i + 1)) (xs (i + 2)))] _
  have h3 := h2.r (ri_qu h2.2.2.1 gB)
  refine ZE.same (tgt := 2023) d_Law_law_1448 rfl ?_
  exact k _ _ _ _ _ _ _ _ h3
set_option maxRecDepth 20000 in
set_option maxHeartbeats 4000000 in
theorem lc_greatLong {d : Nat} {G : zG} {A : Int → Int → Int} {P : Option zV → zG → Prop} {b L : Nat} {xs : Nat → Int} {Z W : Nat} {x o : Int} {S T tl : Nat} {tf : Nat → Int} {wl : Nat} {wf : Nat → Int} (h : LH b L xs Z W G A x o S T tl tf wl wf S T tl tf wl wf) {i : Nat} (hi : i + 6 ≤ L) (k : ∀ G2 A2 (S2 T2 tl2 : Nat) (tf2 : Nat → Int) (wl2 : Nat) (wf2 : Nat → Int), LH b L xs Z W G2 A2 x o S2 T2 tl2 tf2 wl2 wf2 S2 T2 tl2 tf2 wl2 wf2 → ZE 12 M_Law_law (gw G2 A2) 2023 [(2, (b : Int)), (2, x), (2, o), (0, (i : Int))] [] P) : ZE 12 M_Law_law (gw G A) 1453 [(2, (b : Int)), (2, x), (2, o), (0, (i : Int))] [] P := by
  refine ZE.aload_n d_Law_law_1453 rfl ?_
  refine ZE.aload_n d_Law_law_1454 rfl ?_
  refine ZE.iload_n d_Law_law_1455 rfl ?_
  refine ZE.iconst (n := 1) d_Law_law_1456 ?_
  refine ZE.iadd d_Law_law_1457 ?_
  refine ZE.ialdRE (v := (xs (i + 1))) d_Law_law_1458 h.2.2.2.2.1.1.1 (by have hn0 := h.2.2.2.2.1.1.2; show 0 ≤ (i : Int) + 1 ∧ (i : Int) + 1 < gn G (b : Int); omega) (by rw [show (i : Int) + 1 = ((i + 1 : Nat) : Int) by omega]; exact (h.2.2.2.2.1.2.1 (i + 1) (by omega)).1) ?_
  refine ZE.cV [(0, (xs (i + 1)))] [] [(2, x), (0, (xs (i + 1)))] d_Law_law_1459 l_Law_175 rfl rfl rfl rfl rfl rfl h.1.cCK.1 ?_
  refine c_greatLong (d := 0) h.1 (h.2.2.2.2.1.2.1 (i + 1) (by omega)).2 (fun G2 A2 hC hT => ?_)
  show ZE 12 M_Law_law (gw G2 A2) 1462 [(2, (b : Int)), (2, x), (2, o), (0, (i : Int))] [(0, glV S (xs (i + 1)))] _
  have h2 := h.c hC hT
  refine ZE.aload_n d_Law_law_1462 rfl ?_
  refine ZE.aload_n d_Law_law_1463 rfl ?_
  refine ZE.iload_n d_Law_law_1464 rfl ?_
  refine ZE.iconst (n := 1) d_Law_law_1465 ?_
  refine ZE.iadd d_Law_law_1466 ?_
  refine ZE.ialdRE (v := (xs (i + 1))) d_Law_law_1467 h2.2.2.2.2.1.1.1 (by have hn0 := h2.2.2.2.2.1.1.2; show 0 ≤ (i : Int) + 1 ∧ (i : Int) + 1 < gn G2 (b : Int); omega) (by rw [show (i : Int) + 1 = ((i + 1 : Nat) : Int) by omega]; exact (h2.2.2.2.2.1.2.1 (i + 1) (by omega)).1) ?_
  refine ZE.cV [(0, (xs (i + 1)))] [(0, glV S (xs (i + 1)))] [(2, o), (0, (xs (i + 1)))] d_Law_law_1468 l_Law_178 rfl rfl rfl rfl rfl rfl h2.2.1.1 ?_
  refine r_greatLong h2.2.1 h2.2.2.1.1 h2.2.2.1.2.1 h.1.cS.2.1 h.1.cS.2.2 (h.2.2.2.2.1.2.1 (i + 1) (by omega)).2 (fun B gB => ?_)
  show ZE 12 M_Law_law (gw G2 B) 1471 [(2, (b : Int)), (2, x), (2, o), (0, (i : Int))] [(0, glV S (xs (i + 1))), (0, glV S (xs (i + 1)))] _
  have h3 := h2.r (ri_gt h2.2.2.1 gB)
  refine ZE.same (tgt := 2023) d_Law_law_1471 rfl ?_
  exact k _ _ _ _ _ _ _ _ h3
set_option maxRecDepth 20000 in
set_option maxHeartbeats 4000000 in
theorem lc_greatDigit {d : Nat} {G : zG} {A : Int → Int → Int} {P : Option zV → zG → Prop} {b L : Nat} {xs : Nat → Int} {Z W : Nat} {x o : Int} {S T tl : Nat} {tf : Nat → Int} {wl : Nat} {wf : Nat → Int} (h : LH b L xs Z W G A x o S T tl tf wl wf S T tl tf wl wf) {i : Nat} (hi : i + 6 ≤ L) (k : ∀ G2 A2 (S2 T2 tl2 : Nat) (tf2 : Nat → Int) (wl2 : Nat) (wf2 : Nat → Int), LH b L xs Z W G2 A2 x o S2 T2 tl2 tf2 wl2 wf2 S2 T2 tl2 tf2 wl2 wf2 → ZE 12 M_Law_law (gw G2 A2) 2023 [(2, (b : Int)), (2, x), (2, o), (0, (i : Int))] [] P) : ZE 12 M_Law_law (gw G A) 1476 [(2, (b : Int)), (2, x), (2, o), (0, (i : Int))] [] P := by
  refine ZE.aload_n d_Law_law_1476 rfl ?_
  refine ZE.aload_n d_Law_law_1477 rfl ?_
  refine ZE.iload_n d_Law_law_1478 rfl ?_
  refine ZE.iconst (n := 1) d_Law_law_1479 ?_
  refine ZE.iadd d_Law_law_1480 ?_
  refine ZE.ialdRE (v := (xs (i + 1))) d_Law_law_1481 h.2.2.2.2.1.1.1 (by have hn0 := h.2.2.2.2.1.1.2; show 0 ≤ (i : Int) + 1 ∧ (i : Int) + 1 < gn G (b : Int); omega) (by rw [show (i : Int) + 1 = ((i + 1 : Nat) : Int) by omega]; exact (h.2.2.2.2.1.2.1 (i + 1) (by omega)).1) ?_
  refine ZE.aload_n d_Law_law_1482 rfl ?_
  refine ZE.iload_n d_Law_law_1483 rfl ?_
  refine ZE.iconst (n := 2) d_Law_law_1484 ?_
  refine ZE.iadd d_Law_law_1485 ?_
  refine ZE.ialdRE (v := (xs (i + 2))) d_Law_law_1486 h.2.2.2.2.1.1.1 (by have hn0 := h.2.2.2.2.1.1.2; show 0 ≤ (i : Int) + 2 ∧ (i : Int) + 2 < gn G (b : Int); omega) (by rw [show (i : Int) + 2 = ((i + 2 : Nat) : Int) by omega]; exact (h.2.2.2.2.1.2.1 (i + 2) (by omega)).1) ?_
  refine ZE.cV [(0, (xs (i + 1))), (0, (xs (i + 2)))] [] [(2, x), (0, (xs (i + 1))), (0, (xs (i + 2)))] d_Law_law_1487 l_Law_179 rfl rfl rfl rfl rfl rfl h.1.cCK.1 ?_
  refine c_greatDigit (d := 0) h.1 (h.2.2.2.2.1.2.1 (i + 1) (by omega)).2 (h.2.2.2.2.1.2.1 (i + 2) (by omega)).2 (fun G2 A2 hC hT => ?_)
  show ZE 12 M_Law_law (gw G2 A2) 1490 [(2, (b : Int)), (2, x), (2, o), (0, (i : Int))] [(0, gdV S (xs (i + 1)) (xs (i + 2)))] _
  have h2 := h.c hC hT
  refine ZE.aload_n d_Law_law_1490 rfl ?_
  refine ZE.aload_n d_Law_law_1491 rfl ?_
  refine ZE.iload_n d_Law_law_1492 rfl ?_
  refine ZE.iconst (n := 1) d_Law_law_1493 ?_
  refine ZE.iadd d_Law_law_1494 ?_
  refine ZE.ialdRE (v := (xs (i + 1))) d_Law_law_1495 h2.2.2.2.2.1.1.1 (by have hn0 := h2.2.2.2.2.1.1.2; show 0 ≤ (i : Int) + 1 ∧ (i : Int) + 1 < gn G2 (b : Int); omega) (by rw [show (i : Int) + 1 = ((i + 1 : Nat) : Int) by omega]; exact (h2.2.2.2.2.1.2.1 (i + 1) (by omega)).1) ?_
  refine ZE.aload_n d_Law_law_1496 rfl ?_
  refine ZE.iload_n d_Law_law_1497 rfl ?_
  refine ZE.iconst (n := 2) d_Law_law_1498 ?_
  refine ZE.iadd d_Law_law_1499 ?_
  refine ZE.ialdRE (v := (xs (i + 2))) d_Law_law_1500 h2.2.2.2.2.1.1.1 (by have hn0 := h2.2.2.2.2.1.1.2; show 0 ≤ (i : Int) + 2 ∧ (i : Int) + 2 < gn G2 (b : Int); omega) (by rw [show (i : Int) + 2 = ((i + 2 : Nat) : Int) by omega]; exact (h2.2.2.2.2.1.2.1 (i + 2) (by omega)).1) ?_
  refine ZE.cV [(0, (xs (i + 1))), (0, (xs (i + 2)))] [(0, gdV S (xs (i + 1)) (xs (i + 2)))] [(2, o), (0, (xs (i + 1))), (0, (xs (i + 2)))] d_Law_law_1501 l_Law_182 rfl rfl rfl rfl rfl rfl h2.2.1.1 ?_
  refine r_greatDigit h2.2.1 h2.2.2.1.1 h2.2.2.1.2.1 h.1.cS.2.1 h.1.cS.2.2 (h.2.2.2.2.1.2.1 (i + 1) (by omega)).2 (h.2.2.2.2.1.2.1 (i + 2) (by omega)).2 (fun B gB => ?_)
  show ZE 12 M_Law_law (gw G2 B) 1504 [(2, (b : Int)), (2, x), (2, o), (0, (i : Int))] [(0, gdV S (xs (i + 1)) (xs (i + 2))), (0, gdV S (xs (i + 1)) (xs (i + 2)))] _
  have h3 := h2.r (ri_gt h2.2.2.1 gB)
  refine ZE.same (tgt := 2023) d_Law_law_1504 rfl ?_
  exact k _ _ _ _ _ _ _ _ h3
set_option maxRecDepth 20000 in
set_option maxHeartbeats 4000000 in
theorem lc_growth {d : Nat} {G : zG} {A : Int → Int → Int} {P : Option zV → zG → Prop} {b L : Nat} {xs : Nat → Int} {Z W : Nat} {x o : Int} {S T tl : Nat} {tf : Nat → Int} {wl : Nat} {wf : Nat → Int} (h : LH b L xs Z W G A x o S T tl tf wl wf S T tl tf wl wf) {i : Nat} (hi : i + 6 ≤ L) (k : ∀ G2 A2 (S2 T2 tl2 : Nat) (tf2 : Nat → Int) (wl2 : Nat) (wf2 : Nat → Int), LH b L xs Z W G2 A2 x o S2 T2 tl2 tf2 wl2 wf2 S2 T2 tl2 tf2 wl2 wf2 → ZE 12 M_Law_law (gw G2 A2) 2023 [(2, (b : Int)), (2, x), (2, o), (0, (i : Int))] [] P) : ZE 12 M_Law_law (gw G A) 1509 [(2, (b : Int)), (2, x), (2, o), (0, (i : Int))] [] P := by
  refine ZE.aload_n d_Law_law_1509 rfl ?_
  refine ZE.aload_n d_Law_law_1510 rfl ?_
  refine ZE.iload_n d_Law_law_1511 rfl ?_
  refine ZE.iconst (n := 1) d_Law_law_1512 ?_
  refine ZE.iadd d_Law_law_1513 ?_
  refine ZE.ialdRE (v := (xs (i + 1))) d_Law_law_1514 h.2.2.2.2.1.1.1 (by have hn0 := h.2.2.2.2.1.1.2; show 0 ≤ (i : Int) + 1 ∧ (i : Int) + 1 < gn G (b : Int); omega) (by rw [show (i : Int) + 1 = ((i + 1 : Nat) : Int) by omega]; exact (h.2.2.2.2.1.2.1 (i + 1) (by omega)).1) ?_
  refine ZE.cV [(0, (xs (i + 1)))] [] [(2, x), (0, (xs (i + 1))), (9, 0)] d_Law_law_1515 l_Law_183 rfl rfl rfl rfl rfl rfl h.1.cCK.1 ?_
  refine c_growth (d := 0) h.1 (h.2.2.2.2.1.2.1 (i + 1) (by omega)).2 (fun G2 A2 hC hT => ?_)
  show ZE 12 M_Law_law (gw G2 A2) 1518 [(2, (b : Int)), (2, x), (2, o), (0, (i : Int))] [(0, grV S (xs (i + 1)))] _
  have h2 := h.c hC hT
  refine ZE.aload_n d_Law_law_1518 rfl ?_
  refine ZE.aload_n d_Law_law_1519 rfl ?_
  refine ZE.iload_n d_Law_law_1520 rfl ?_
  refine ZE.iconst (n := 1) d_Law_law_1521 ?_
  refine ZE.iadd d_Law_law_1522 ?_
  refine ZE.ialdRE (v := (xs (i + 1))) d_Law_law_1523 h2.2.2.2.2.1.1.1 (by have hn0 := h2.2.2.2.2.1.1.2; show 0 ≤ (i : Int) + 1 ∧ (i : Int) + 1 < gn G2 (b : Int); omega) (by rw [show (i : Int) + 1 = ((i + 1 : Nat) : Int) by omega]; exact (h2.2.2.2.2.1.2.1 (i + 1) (by omega)).1) ?_
  refine ZE.cV [(0, (xs (i + 1)))] [(0, grV S (xs (i + 1)))] [(2, o), (0, (xs (i + 1))), (9, 0), (9, 0), (9, 0)] d_Law_law_1524 l_Law_186 rfl rfl rfl rfl rfl rfl h2.2.1.1 ?_
  refine r_growth h2.2.1 h2.2.2.1.1 h2.2.2.1.2.1 h.1.cS.2.1 h.1.cS.2.2 (h.2.2.2.2.1.2.1 (i + 1) (by omega)).2 (fun B hRB gB => ?_)
  show ZE 12 M_Law_law (gw G2 B) 1527 [(2, (b : Int)), (2, x), (2, o), (0, (i : Int))] [(0, grV S (xs (i + 1))), (0, grV S (xs (i + 1)))] _
  have h3 := h2.r (ri_la h2.2.2.1 hRB h.1.cS.2.1 h.1.cS.2.2 gB)
  refine ZE.same (tgt := 2023) d_Law_law_1527 rfl ?_
  exact k _ _ _ _ _ _ _ _ h3
set_option maxRecDepth 20000 in
set_option maxHeartbeats 4000000 in
theorem lc_madeBy {d : Nat} {G : zG} {A : Int → Int → Int} {P : Option zV → zG → Prop} {b L : Nat} {xs : Nat → Int} {Z W : Nat} {x o : Int} {S T tl : Nat} {tf : Nat → Int} {wl : Nat} {wf : Nat → Int} (h : LH b L xs Z W G A x o S T tl tf wl wf S T tl tf wl wf) {i : Nat} (hi : i + 6 ≤ L) (k : ∀ G2 A2 (S2 T2 tl2 : Nat) (tf2 : Nat → Int) (wl2 : Nat) (wf2 : Nat → Int), LH b L xs Z W G2 A2 x o S2 T2 tl2 tf2 wl2 wf2 S2 T2 tl2 tf2 wl2 wf2 → ZE 12 M_Law_law (gw G2 A2) 2023 [(2, (b : Int)), (2, x), (2, o), (0, (i : Int))] [] P) : ZE 12 M_Law_law (gw G A) 1532 [(2, (b : Int)), (2, x), (2, o), (0, (i : Int))] [] P := by
  refine ZE.aload_n d_Law_law_1532 rfl ?_
  refine ZE.aload_n d_Law_law_1533 rfl ?_
  refine ZE.iload_n d_Law_law_1534 rfl ?_
  refine ZE.iconst (n := 1) d_Law_law_1535 ?_
  refine ZE.iadd d_Law_law_1536 ?_
  refine ZE.ialdRE (v := (xs (i + 1))) d_Law_law_1537 h.2.2.2.2.1.1.1 (by have hn0 := h.2.2.2.2.1.1.2; show 0 ≤ (i : Int) + 1 ∧ (i : Int) + 1 < gn G (b : Int); omega) (by rw [show (i : Int) + 1 = ((i + 1 : Nat) : Int) by omega]; exact (h.2.2.2.2.1.2.1 (i + 1) (by omega)).1) ?_
  refine ZE.cV [(0, (xs (i + 1)))] [] [(2, x), (0, (xs (i + 1))), (9, 0), (9, 0)] d_Law_law_1538 l_Law_187 rfl rfl rfl rfl rfl rfl h.1.cCK.1 ?_
  refine c_madeBy (d := 0) h.1 (h.2.2.2.2.1.2.1 (i + 1) (by omega)).2 (fun G2 A2 hC hT => ?_)
  show ZE 12 M_Law_law (gw G2 A2) 1541 [(2, (b : Int)), (2, x), (2, o), (0, (i : Int))] [(0, mbV S (xs (i + 1)))] _
  have h2 := h.c hC hT
  refine ZE.aload_n d_Law_law_1541 rfl ?_
  refine ZE.aload_n d_Law_law_1542 rfl ?_
  refine ZE.iload_n d_Law_law_1543 rfl ?_
  refine ZE.iconst (n := 1) d_Law_law_1544 ?_
  refine ZE.iadd d_Law_law_1545 ?_
  refine ZE.ialdRE (v := (xs (i + 1))) d_Law_law_1546 h2.2.2.2.2.1.1.1 (by have hn0 := h2.2.2.2.2.1.1.2; show 0 ≤ (i : Int) + 1 ∧ (i : Int) + 1 < gn G2 (b : Int); omega) (by rw [show (i : Int) + 1 = ((i + 1 : Nat) : Int) by omega]; exact (h2.2.2.2.2.1.2.1 (i + 1) (by omega)).1) ?_
  refine ZE.cV [(0, (xs (i + 1)))] [(0, mbV S (xs (i + 1)))] [(2, o), (0, (xs (i + 1))), (9, 0), (9, 0)] d_Law_law_1547 l_Law_190 rfl rfl rfl rfl rfl rfl h2.2.1.1 ?_
  refine r_madeBy h2.2.1 h2.2.2.1.1 h2.2.2.1.2.1 h.1.cS.2.1 h.1.cS.2.2 (h.2.2.2.2.1.2.1 (i + 1) (by omega)).2 ?_
  show ZE 12 M_Law_law (gw G2 A2) 1550 [(2, (b : Int)), (2, x), (2, o), (0, (i : Int))] [(0, mbV S (xs (i + 1))), (0, mbV S (xs (i + 1)))] _
  refine ZE.same (tgt := 2023) d_Law_law_1550 rfl ?_
  exact k _ _ _ _ _ _ _ _ h2
set_option maxRecDepth 20000 in
set_option maxHeartbeats 4000000 in
theorem lc_share {d : Nat} {G : zG} {A : Int → Int → Int} {P : Option zV → zG → Prop} {b L : Nat} {xs : Nat → Int} {Z W : Nat} {x o : Int} {S T tl : Nat} {tf : Nat → Int} {wl : Nat} {wf : Nat → Int} (h : LH b L xs Z W G A x o S T tl tf wl wf S T tl tf wl wf) {i : Nat} (hi : i + 6 ≤ L) (k : ∀ G2 A2 (S2 T2 tl2 : Nat) (tf2 : Nat → Int) (wl2 : Nat) (wf2 : Nat → Int), LH b L xs Z W G2 A2 x o S2 T2 tl2 tf2 wl2 wf2 S2 T2 tl2 tf2 wl2 wf2 → ZE 12 M_Law_law (gw G2 A2) 2023 [(2, (b : Int)), (2, x), (2, o), (0, (i : Int))] [] P) : ZE 12 M_Law_law (gw G A) 1555 [(2, (b : Int)), (2, x), (2, o), (0, (i : Int))] [] P := by
  refine ZE.aload_n d_Law_law_1555 rfl ?_
  refine ZE.aload_n d_Law_law_1556 rfl ?_
  refine ZE.iload_n d_Law_law_1557 rfl ?_
  refine ZE.iconst (n := 1) d_Law_law_1558 ?_
  refine ZE.iadd d_Law_law_1559 ?_
  refine ZE.ialdRE (v := (xs (i + 1))) d_Law_law_1560 h.2.2.2.2.1.1.1 (by have hn0 := h.2.2.2.2.1.1.2; show 0 ≤ (i : Int) + 1 ∧ (i : Int) + 1 < gn G (b : Int); omega) (by rw [show (i : Int) + 1 = ((i + 1 : Nat) : Int) by omega]; exact (h.2.2.2.2.1.2.1 (i + 1) (by omega)).1) ?_
  refine ZE.cV [(0, (xs (i + 1)))] [] [(2, x), (0, (xs (i + 1))), (9, 0), (9, 0)] d_Law_law_1561 l_Law_191 rfl rfl rfl rfl rfl rfl h.1.cCK.1 ?_
  refine c_share (d := 0) h.1 (h.2.2.2.2.1.2.1 (i + 1) (by omega)).2 (fun G2 A2 hC hT => ?_)
  show ZE 12 M_Law_law (gw G2 A2) 1564 [(2, (b : Int)), (2, x), (2, o), (0, (i : Int))] [(0, shV S (xs (i + 1)))] _
  have h2 := h.c hC hT
  refine ZE.aload_n d_Law_law_1564 rfl ?_
  refine ZE.aload_n d_Law_law_1565 rfl ?_
  refine ZE.iload_n d_Law_law_1566 rfl ?_
  refine ZE.iconst (n := 1) d_Law_law_1567 ?_
  refine ZE.iadd d_Law_law_1568 ?_
  refine ZE.ialdRE (v := (xs (i + 1))) d_Law_law_1569 h2.2.2.2.2.1.1.1 (by have hn0 := h2.2.2.2.2.1.1.2; show 0 ≤ (i : Int) + 1 ∧ (i : Int) + 1 < gn G2 (b : Int); omega) (by rw [show (i : Int) + 1 = ((i + 1 : Nat) : Int) by omega]; exact (h2.2.2.2.2.1.2.1 (i + 1) (by omega)).1) ?_
  refine ZE.cV [(0, (xs (i + 1)))] [(0, shV S (xs (i + 1)))] [(2, o), (0, (xs (i + 1))), (9, 0), (9, 0)] d_Law_law_1570 l_Law_194 rfl rfl rfl rfl rfl rfl h2.2.1.1 ?_
  refine r_share h2.2.1 h2.2.2.1.1 h2.2.2.1.2.1 h.1.cS.2.1 h.1.cS.2.2 (h.2.2.2.2.1.2.1 (i + 1) (by omega)).2 ?_
  show ZE 12 M_Law_law (gw G2 A2) 1573 [(2, (b : Int)), (2, x), (2, o), (0, (i : Int))] [(0, shV S (xs (i + 1))), (0, shV S (xs (i + 1)))] _
  refine ZE.same (tgt := 2023) d_Law_law_1573 rfl ?_
  exact k _ _ _ _ _ _ _ _ h2
set_option maxRecDepth 20000 in
set_option maxHeartbeats 4000000 in
theorem lc_twos {d : Nat} {G : zG} {A : Int → Int → Int} {P : Option zV → zG → Prop} {b L : Nat} {xs : Nat → Int} {Z W : Nat} {x o : Int} {S T tl : Nat} {tf : Nat → Int} {wl : Nat} {wf : Nat → Int} (h : LH b L xs Z W G A x o S T tl tf wl wf S T tl tf wl wf) {i : Nat} (hi : i + 6 ≤ L) (k : ∀ G2 A2 (S2 T2 tl2 : Nat) (tf2 : Nat → Int) (wl2 : Nat) (wf2 : Nat → Int), LH b L xs Z W G2 A2 x o S2 T2 tl2 tf2 wl2 wf2 S2 T2 tl2 tf2 wl2 wf2 → ZE 12 M_Law_law (gw G2 A2) 2023 [(2, (b : Int)), (2, x), (2, o), (0, (i : Int))] [] P) : ZE 12 M_Law_law (gw G A) 1578 [(2, (b : Int)), (2, x), (2, o), (0, (i : Int))] [] P := by
  refine ZE.aload_n d_Law_law_1578 rfl ?_
  refine ZE.cV [] [] [(2, x)] d_Law_law_1579 l_Law_195 rfl rfl rfl rfl rfl rfl h.1.cCK.1 ?_
  refine c_twos (d := 0) h.1  (fun G2 A2 hC hT => ?_)
  show ZE 12 M_Law_law (gw G2 A2) 1582 [(2, (b : Int)), (2, x), (2, o), (0, (i : Int))] [(0, ((tws S).length : Int))] _
  have h2 := h.c hC hT
  refine ZE.aload_n d_Law_law_1582 rfl ?_
  refine ZE.cV [] [(0, ((tws S).length : Int))] [(2, o)] d_Law_law_1583 l_Law_198 rfl rfl rfl rfl rfl rfl h2.2.1.1 ?_
  refine r_twos h2.2.1 h2.2.2.1.1 h2.2.2.1.2.1 h.1.cS.2.1 h.1.cS.2.2  ?_
  show ZE 12 M_Law_law (gw G2 A2) 1586 [(2, (b : Int)), (2, x), (2, o), (0, (i : Int))] [(0, ((tws S).length : Int)), (0, ((tws S).length : Int))] _
  refine ZE.same (tgt := 2023) d_Law_law_1586 rfl ?_
  exact k _ _ _ _ _ _ _ _ h2
set_option maxRecDepth 20000 in
set_option maxHeartbeats 4000000 in
theorem lc_twoClasses {d : Nat} {G : zG} {A : Int → Int → Int} {P : Option zV → zG → Prop} {b L : Nat} {xs : Nat → Int} {Z W : Nat} {x o : Int} {S T tl : Nat} {tf : Nat → Int} {wl : Nat} {wf : Nat → Int} (h : LH b L xs Z W G A x o S T tl tf wl wf S T tl tf wl wf) {i : Nat} (hi : i + 6 ≤ L) (k : ∀ G2 A2 (S2 T2 tl2 : Nat) (tf2 : Nat → Int) (wl2 : Nat) (wf2 : Nat → Int), LH b L xs Z W G2 A2 x o S2 T2 tl2 tf2 wl2 wf2 S2 T2 tl2 tf2 wl2 wf2 → ZE 12 M_Law_law (gw G2 A2) 2023 [(2, (b : Int)), (2, x), (2, o), (0, (i : Int))] [] P) : ZE 12 M_Law_law (gw G A) 1591 [(2, (b : Int)), (2, x), (2, o), (0, (i : Int))] [] P := by
  refine ZE.aload_n d_Law_law_1591 rfl ?_
  refine ZE.cV [] [] [(2, x)] d_Law_law_1592 l_Law_199 rfl rfl rfl rfl rfl rfl h.1.cCK.1 ?_
  refine c_twoClasses (d := 0) h.1  (fun G2 A2 hC hT => ?_)
  show ZE 12 M_Law_law (gw G2 A2) 1595 [(2, (b : Int)), (2, x), (2, o), (0, (i : Int))] [(0, ((csF S 0 128).length : Int))] _
  have h2 := h.c hC hT
  refine ZE.aload_n d_Law_law_1595 rfl ?_
  refine ZE.cV [] [(0, ((csF S 0 128).length : Int))] [(2, o)] d_Law_law_1596 l_Law_202 rfl rfl rfl rfl rfl rfl h2.2.1.1 ?_
  refine r_twoClasses h2.2.1 h2.2.2.1.1 h2.2.2.1.2.1 h.1.cS.2.1 h.1.cS.2.2  ?_
  show ZE 12 M_Law_law (gw G2 A2) 1599 [(2, (b : Int)), (2, x), (2, o), (0, (i : Int))] [(0, ((csF S 0 128).length : Int)), (0, ((csF S 0 128).length : Int))] _
  refine ZE.same (tgt := 2023) d_Law_law_1599 rfl ?_
  exact k _ _ _ _ _ _ _ _ h2
set_option maxRecDepth 20000 in
set_option maxHeartbeats 4000000 in
theorem lc_twoClass {d : Nat} {G : zG} {A : Int → Int → Int} {P : Option zV → zG → Prop} {b L : Nat} {xs : Nat → Int} {Z W : Nat} {x o : Int} {S T tl : Nat} {tf : Nat → Int} {wl : Nat} {wf : Nat → Int} (h : LH b L xs Z W G A x o S T tl tf wl wf S T tl tf wl wf) {i : Nat} (hi : i + 6 ≤ L) (k : ∀ G2 A2 (S2 T2 tl2 : Nat) (tf2 : Nat → Int) (wl2 : Nat) (wf2 : Nat → Int), LH b L xs Z W G2 A2 x o S2 T2 tl2 tf2 wl2 wf2 S2 T2 tl2 tf2 wl2 wf2 → ZE 12 M_Law_law (gw G2 A2) 2023 [(2, (b : Int)), (2, x), (2, o), (0, (i : Int))] [] P) : ZE 12 M_Law_law (gw G A) 1604 [(2, (b : Int)), (2, x), (2, o), (0, (i : Int))] [] P := by
  refine ZE.aload_n d_Law_law_1604 rfl ?_
  refine ZE.aload_n d_Law_law_1605 rfl ?_
  refine ZE.iload_n d_Law_law_1606 rfl ?_
  refine ZE.iconst (n := 1) d_Law_law_1607 ?_
  refine ZE.iadd d_Law_law_1608 ?_
  refine ZE.ialdRE (v := (xs (i + 1))) d_Law_law_1609 h.2.2.2.2.1.1.1 (by have hn0 := h.2.2.2.2.1.1.2; show 0 ≤ (i : Int) + 1 ∧ (i : Int) + 1 < gn G (b : Int); omega) (by rw [show (i : Int) + 1 = ((i + 1 : Nat) : Int) by omega]; exact (h.2.2.2.2.1.2.1 (i + 1) (by omega)).1) ?_
  refine ZE.aload_n d_Law_law_1610 rfl ?_
  refine ZE.iload_n d_Law_law_1611 rfl ?_
  refine ZE.iconst (n := 2) d_Law_law_1612 ?_
  refine ZE.iadd d_Law_law_1613 ?_
  refine ZE.ialdRE (v := (xs (i + 2))) d_Law_law_1614 h.2.2.2.2.1.1.1 (by have hn0 := h.2.2.2.2.1.1.2; show 0 ≤ (i : Int) + 2 ∧ (i : Int) + 2 < gn G (b : Int); omega) (by rw [show (i : Int) + 2 = ((i + 2 : Nat) : Int) by omega]; exact (h.2.2.2.2.1.2.1 (i + 2) (by omega)).1) ?_
  refine ZE.cV [(0, (xs (i + 1))), (0, (xs (i + 2)))] [] [(2, x), (0, (xs (i + 1))), (0, (xs (i + 2))), (9, 0)] d_Law_law_1615 l_Law_203 rfl rfl rfl rfl rfl rfl h.1.cCK.1 ?_
  refine c_twoClass (d := 0) h.1 (h.2.2.2.2.1.2.1 (i + 1) (by omega)).2 (h.2.2.2.2.1.2.1 (i + 2) (by omega)).2 (fun G2 A2 hC hT => ?_)
  show ZE 12 M_Law_law (gw G2 A2) 1618 [(2, (b : Int)), (2, x), (2, o), (0, (i : Int))] [(0, tkV S (xs (i + 1)) (xs (i + 2)))] _
  have h2 := h.c hC hT
  refine ZE.aload_n d_Law_law_1618 rfl ?_
  refine ZE.aload_n d_Law_law_1619 rfl ?_
  refine ZE.iload_n d_Law_law_1620 rfl ?_
  refine ZE.iconst (n := 1) d_Law_law_1621 ?_
  refine ZE.iadd d_Law_law_1622 ?_
  refine ZE.ialdRE (v := (xs (i + 1))) d_Law_law_1623 h2.2.2.2.2.1.1.1 (by have hn0 := h2.2.2.2.2.1.1.2; show 0 ≤ (i : Int) + 1 ∧ (i : Int) + 1 < gn G2 (b : Int); omega) (by rw [show (i : Int) + 1 = ((i + 1 : Nat) : Int) by omega]; exact (h2.2.2.2.2.1.2.1 (i + 1) (by omega)).1) ?_
  refine ZE.aload_n d_Law_law_1624 rfl ?_
  refine ZE.iload_n d_Law_law_1625 rfl ?_
  refine ZE.iconst (n := 2) d_Law_law_1626 ?_
  refine ZE.iadd d_Law_law_1627 ?_
  refine ZE.ialdRE (v := (xs (i + 2))) d_Law_law_1628 h2.2.2.2.2.1.1.1 (by have hn0 := h2.2.2.2.2.1.1.2; show 0 ≤ (i : Int) + 2 ∧ (i : Int) + 2 < gn G2 (b : Int); omega) (by rw [show (i : Int) + 2 = ((i + 2 : Nat) : Int) by omega]; exact (h2.2.2.2.2.1.2.1 (i + 2) (by omega)).1) ?_
  refine ZE.cV [(0, (xs (i + 1))), (0, (xs (i + 2)))] [(0, tkV S (xs (i + 1)) (xs (i + 2)))] [(2, o), (0, (xs (i + 1))), (0, (xs (i + 2))), (9, 0)] d_Law_law_1629 l_Law_206 rfl rfl rfl rfl rfl rfl h2.2.1.1 ?_
  refine r_twoClass h2.2.1 h2.2.2.1.1 h2.2.2.1.2.1 h.1.cS.2.1 h.1.cS.2.2 (h.2.2.2.2.1.2.1 (i + 1) (by omega)).2 (h.2.2.2.2.1.2.1 (i + 2) (by omega)).2 ?_
  show ZE 12 M_Law_law (gw G2 A2) 1632 [(2, (b : Int)), (2, x), (2, o), (0, (i : Int))] [(0, tkV S (xs (i + 1)) (xs (i + 2))), (0, tkV S (xs (i + 1)) (xs (i + 2)))] _
  refine ZE.same (tgt := 2023) d_Law_law_1632 rfl ?_
  exact k _ _ _ _ _ _ _ _ h2
set_option maxRecDepth 20000 in
set_option maxHeartbeats 4000000 in
theorem lc_two {d : Nat} {G : zG} {A : Int → Int → Int} {P : Option zV → zG → Prop} {b L : Nat} {xs : Nat → Int} {Z W : Nat} {x o : Int} {S T tl : Nat} {tf : Nat → Int} {wl : Nat} {wf : Nat → Int} (h : LH b L xs Z W G A x o S T tl tf wl wf S T tl tf wl wf) {i : Nat} (hi : i + 6 ≤ L) (k : ∀ G2 A2 (S2 T2 tl2 : Nat) (tf2 : Nat → Int) (wl2 : Nat) (wf2 : Nat → Int), LH b L xs Z W G2 A2 x o S2 T2 tl2 tf2 wl2 wf2 S2 T2 tl2 tf2 wl2 wf2 → ZE 12 M_Law_law (gw G2 A2) 2023 [(2, (b : Int)), (2, x), (2, o), (0, (i : Int))] [] P) : ZE 12 M_Law_law (gw G A) 1637 [(2, (b : Int)), (2, x), (2, o), (0, (i : Int))] [] P := by
  refine ZE.aload_n d_Law_law_1637 rfl ?_
  refine ZE.aload_n d_Law_law_1638 rfl ?_
  refine ZE.iload_n d_Law_law_1639 rfl ?_
  refine ZE.iconst (n := 1) d_Law_law_1640 ?_
  refine ZE.iadd d_Law_law_1641 ?_
  refine ZE.ialdRE (v := (xs (i + 1))) d_Law_law_1642 h.2.2.2.2.1.1.1 (by have hn0 := h.2.2.2.2.1.1.2; show 0 ≤ (i : Int) + 1 ∧ (i : Int) + 1 < gn G (b : Int); omega) (by rw [show (i : Int) + 1 = ((i + 1 : Nat) : Int) by omega]; exact (h.2.2.2.2.1.2.1 (i + 1) (by omega)).1) ?_
  refine ZE.aload_n d_Law_law_1643 rfl ?_
  refine ZE.iload_n d_Law_law_1644 rfl ?_
  refine ZE.iconst (n := 2) d_Law_law_1645 ?_
  refine ZE.iadd d_Law_law_1646 ?_
  refine ZE.ialdRE (v := (xs (i + 2))) d_Law_law_1647 h.2.2.2.2.1.1.1 (by have hn0 := h.2.2.2.2.1.1.2; show 0 ≤ (i : Int) + 2 ∧ (i : Int) + 2 < gn G (b : Int); omega) (by rw [show (i : Int) + 2 = ((i + 2 : Nat) : Int) by omega]; exact (h.2.2.2.2.1.2.1 (i + 2) (by omega)).1) ?_
  refine ZE.cV [(0, (xs (i + 1))), (0, (xs (i + 2)))] [] [(2, x), (0, (xs (i + 1))), (0, (xs (i + 2))), (9, 0)] d_Law_law_1648 l_Law_207 rfl rfl rfl rfl rfl rfl h.1.cCK.1 ?_
  refine c_two (d := 0) h.1 (h.2.2.2.2.1.2.1 (i + 1) (by omega)).2 (h.2.2.2.2.1.2.1 (i + 2) (by omega)).2 (fun G2 A2 hC hT => ?_)
  show ZE 12 M_Law_law (gw G2 A2) 1651 [(2, (b : Int)), (2, x), (2, o), (0, (i : Int))] [(0, twV S (xs (i + 1)) (xs (i + 2)))] _
  have h2 := h.c hC hT
  refine ZE.aload_n d_Law_law_1651 rfl ?_
  refine ZE.aload_n d_Law_law_1652 rfl ?_
  refine ZE.iload_n d_Law_law_1653 rfl ?_
  refine ZE.iconst (n := 1) d_Law_law_1654 ?_
  refine ZE.iadd d_Law_law_1655 ?_
  refine ZE.ialdRE (v := (xs (i + 1))) d_Law_law_1656 h2.2.2.2.2.1.1.1 (by have hn0 := h2.2.2.2.2.1.1.2; show 0 ≤ (i : Int) + 1 ∧ (i : Int) + 1 < gn G2 (b : Int); omega) (by rw [show (i : Int) + 1 = ((i + 1 : Nat) : Int) by omega]; exact (h2.2.2.2.2.1.2.1 (i + 1) (by omega)).1) ?_
  refine ZE.aload_n d_Law_law_1657 rfl ?_
  refine ZE.iload_n d_Law_law_1658 rfl ?_
  refine ZE.iconst (n := 2) d_Law_law_1659 ?_
  refine ZE.iadd d_Law_law_1660 ?_
  refine ZE.ialdRE (v := (xs (i + 2))) d_Law_law_1661 h2.2.2.2.2.1.1.1 (by have hn0 := h2.2.2.2.2.1.1.2; show 0 ≤ (i : Int) + 2 ∧ (i : Int) + 2 < gn G2 (b : Int); omega) (by rw [show (i : Int) + 2 = ((i + 2 : Nat) : Int) by omega]; exact (h2.2.2.2.2.1.2.1 (i + 2) (by omega)).1) ?_
  refine ZE.cV [(0, (xs (i + 1))), (0, (xs (i + 2)))] [(0, twV S (xs (i + 1)) (xs (i + 2)))] [(2, o), (0, (xs (i + 1))), (0, (xs (i + 2)))] d_Law_law_1662 l_Law_210 rfl rfl rfl rfl rfl rfl h2.2.1.1 ?_
  refine r_two h2.2.1 h2.2.2.1.1 h2.2.2.1.2.1 h.1.cS.2.1 h.1.cS.2.2 (h.2.2.2.2.1.2.1 (i + 1) (by omega)).2 (h.2.2.2.2.1.2.1 (i + 2) (by omega)).2 ?_
  show ZE 12 M_Law_law (gw G2 A2) 1665 [(2, (b : Int)), (2, x), (2, o), (0, (i : Int))] [(0, twV S (xs (i + 1)) (xs (i + 2))), (0, twV S (xs (i + 1)) (xs (i + 2)))] _
  refine ZE.same (tgt := 2023) d_Law_law_1665 rfl ?_
  exact k _ _ _ _ _ _ _ _ h2
set_option maxRecDepth 20000 in
set_option maxHeartbeats 4000000 in
theorem lc_twoDigit {d : Nat} {G : zG} {A : Int → Int → Int} {P : Option zV → zG → Prop} {b L : Nat} {xs : Nat → Int} {Z W : Nat} {x o : Int} {S T tl : Nat} {tf : Nat → Int} {wl : Nat} {wf : Nat → Int} (h : LH b L xs Z W G A x o S T tl tf wl wf S T tl tf wl wf) {i : Nat} (hi : i + 6 ≤ L) (k : ∀ G2 A2 (S2 T2 tl2 : Nat) (tf2 : Nat → Int) (wl2 : Nat) (wf2 : Nat → Int), LH b L xs Z W G2 A2 x o S2 T2 tl2 tf2 wl2 wf2 S2 T2 tl2 tf2 wl2 wf2 → ZE 12 M_Law_law (gw G2 A2) 2023 [(2, (b : Int)), (2, x), (2, o), (0, (i : Int))] [] P) : ZE 12 M_Law_law (gw G A) 1670 [(2, (b : Int)), (2, x), (2, o), (0, (i : Int))] [] P := by
  refine ZE.aload_n d_Law_law_1670 rfl ?_
  refine ZE.aload_n d_Law_law_1671 rfl ?_
  refine ZE.iload_n d_Law_law_1672 rfl ?_
  refine ZE.iconst (n := 1) d_Law_law_1673 ?_
  refine ZE.iadd d_Law_law_1674 ?_
  refine ZE.ialdRE (v := (xs (i + 1))) d_Law_law_1675 h.2.2.2.2.1.1.1 (by have hn0 := h.2.2.2.2.1.1.2; show 0 ≤ (i : Int) + 1 ∧ (i : Int) + 1 < gn G (b : Int); omega) (by rw [show (i : Int) + 1 = ((i + 1 : Nat) : Int) by omega]; exact (h.2.2.2.2.1.2.1 (i + 1) (by omega)).1) ?_
  refine ZE.aload_n d_Law_law_1676 rfl ?_
  refine ZE.iload_n d_Law_law_1677 rfl ?_
  refine ZE.iconst (n := 2) d_Law_law_1678 ?_
  refine ZE.iadd d_Law_law_1679 ?_
  refine ZE.ialdRE (v := (xs (i + 2))) d_Law_law_1680 h.2.2.2.2.1.1.1 (by have hn0 := h.2.2.2.2.1.1.2; show 0 ≤ (i : Int) + 2 ∧ (i : Int) + 2 < gn G (b : Int); omega) (by rw [show (i : Int) + 2 = ((i + 2 : Nat) : Int) by omega]; exact (h.2.2.2.2.1.2.1 (i + 2) (by omega)).1) ?_
  refine ZE.cV [(0, (xs (i + 1))), (0, (xs (i + 2)))] [] [(2, x), (0, (xs (i + 1))), (0, (xs (i + 2)))] d_Law_law_1681 l_Law_211 rfl rfl rfl rfl rfl rfl h.1.cCK.1 ?_
  refine c_twoDigit (d := 0) h.1 (h.2.2.2.2.1.2.1 (i + 1) (by omega)).2 (h.2.2.2.2.1.2.1 (i + 2) (by omega)).2 (fun G2 A2 hC hT => ?_)
  show ZE 12 M_Law_law (gw G2 A2) 1684 [(2, (b : Int)), (2, x), (2, o), (0, (i : Int))] [(0, tdV S (xs (i + 1)) (xs (i + 2)))] _
  have h2 := h.c hC hT
  refine ZE.aload_n d_Law_law_1684 rfl ?_
  refine ZE.aload_n d_Law_law_1685 rfl ?_
  refine ZE.iload_n d_Law_law_1686 rfl ?_
  refine ZE.iconst (n := 1) d_Law_law_1687 ?_
  refine ZE.iadd d_Law_law_1688 ?_
  refine ZE.ialdRE (v := (xs (i + 1))) d_Law_law_1689 h2.2.2.2.2.1.1.1 (by have hn0 := h2.2.2.2.2.1.1.2; show 0 ≤ (i : Int) + 1 ∧ (i : Int) + 1 < gn G2 (b : Int); omega) (by rw [show (i : Int) + 1 = ((i + 1 : Nat) : Int) by omega]; exact (h2.2.2.2.2.1.2.1 (i + 1) (by omega)).1) ?_
  refine ZE.aload_n d_Law_law_1690 rfl ?_
  refine ZE.iload_n d_Law_law_1691 rfl ?_
  refine ZE.iconst (n := 2) d_Law_law_1692 ?_
  refine ZE.iadd d_Law_law_1693 ?_
  refine ZE.ialdRE (v := (xs (i + 2))) d_Law_law_1694 h2.2.2.2.2.1.1.1 (by have hn0 := h2.2.2.2.2.1.1.2; show 0 ≤ (i : Int) + 2 ∧ (i : Int) + 2 < gn G2 (b : Int); omega) (by rw [show (i : Int) + 2 = ((i + 2 : Nat) : Int) by omega]; exact (h2.2.2.2.2.1.2.1 (i + 2) (by omega)).1) ?_
  refine ZE.cV [(0, (xs (i + 1))), (0, (xs (i + 2)))] [(0, tdV S (xs (i + 1)) (xs (i + 2)))] [(2, o), (0, (xs (i + 1))), (0, (xs (i + 2)))] d_Law_law_1695 l_Law_214 rfl rfl rfl rfl rfl rfl h2.2.1.1 ?_
  refine r_twoDigit h2.2.1 h2.2.2.1.1 h2.2.2.1.2.1 h.1.cS.2.1 h.1.cS.2.2 (h.2.2.2.2.1.2.1 (i + 1) (by omega)).2 (h.2.2.2.2.1.2.1 (i + 2) (by omega)).2 ?_
  show ZE 12 M_Law_law (gw G2 A2) 1698 [(2, (b : Int)), (2, x), (2, o), (0, (i : Int))] [(0, tdV S (xs (i + 1)) (xs (i + 2))), (0, tdV S (xs (i + 1)) (xs (i + 2)))] _
  refine ZE.same (tgt := 2023) d_Law_law_1698 rfl ?_
  exact k _ _ _ _ _ _ _ _ h2
set_option maxRecDepth 20000 in
set_option maxHeartbeats 4000000 in
theorem lc_twosAgree {d : Nat} {G : zG} {A : Int → Int → Int} {P : Option zV → zG → Prop} {b L : Nat} {xs : Nat → Int} {Z W : Nat} {x o : Int} {S T tl : Nat} {tf : Nat → Int} {wl : Nat} {wf : Nat → Int} (h : LH b L xs Z W G A x o S T tl tf wl wf S T tl tf wl wf) {i : Nat} (hi : i + 6 ≤ L) (k : ∀ G2 A2 (S2 T2 tl2 : Nat) (tf2 : Nat → Int) (wl2 : Nat) (wf2 : Nat → Int), LH b L xs Z W G2 A2 x o S2 T2 tl2 tf2 wl2 wf2 S2 T2 tl2 tf2 wl2 wf2 → ZE 12 M_Law_law (gw G2 A2) 2023 [(2, (b : Int)), (2, x), (2, o), (0, (i : Int))] [] P) : ZE 12 M_Law_law (gw G A) 1703 [(2, (b : Int)), (2, x), (2, o), (0, (i : Int))] [] P := by
  refine ZE.aload_n d_Law_law_1703 rfl ?_
  refine ZE.aload_n d_Law_law_1704 rfl ?_
  refine ZE.iload_n d_Law_law_1705 rfl ?_
  refine ZE.iconst (n := 1) d_Law_law_1706 ?_
  refine ZE.iadd d_Law_law_1707 ?_
  refine ZE.ialdRE (v := (xs (i + 1))) d_Law_law_1708 h.2.2.2.2.1.1.1 (by have hn0 := h.2.2.2.2.1.1.2; show 0 ≤ (i : Int) + 1 ∧ (i : Int) + 1 < gn G (b : Int); omega) (by rw [show (i : Int) + 1 = ((i + 1 : Nat) : Int) by omega]; exact (h.2.2.2.2.1.2.1 (i + 1) (by omega)).1) ?_
  refine ZE.cV [(0, (xs (i + 1)))] [] [(2, x), (0, (xs (i + 1)))] d_Law_law_1709 l_Law_215 rfl rfl rfl rfl rfl rfl h.1.cCK.1 ?_
  refine c_twosAgree (d := 0) h.1 (h.2.2.2.2.1.2.1 (i + 1) (by omega)).2 (fun G2 A2 hC hT => ?_)
  show ZE 12 M_Law_law (gw G2 A2) 1712 [(2, (b : Int)), (2, x), (2, o), (0, (i : Int))] [(0, b2i (taV S (xs (i + 1)) = true))] _
  have h2 := h.c hC hT
  refine ZE.aload_n d_Law_law_1712 rfl ?_
  refine ZE.aload_n d_Law_law_1713 rfl ?_
  refine ZE.iload_n d_Law_law_1714 rfl ?_
  refine ZE.iconst (n := 1) d_Law_law_1715 ?_
  refine ZE.iadd d_Law_law_1716 ?_
  refine ZE.ialdRE (v := (xs (i + 1))) d_Law_law_1717 h2.2.2.2.2.1.1.1 (by have hn0 := h2.2.2.2.2.1.1.2; show 0 ≤ (i : Int) + 1 ∧ (i : Int) + 1 < gn G2 (b : Int); omega) (by rw [show (i : Int) + 1 = ((i + 1 : Nat) : Int) by omega]; exact (h2.2.2.2.2.1.2.1 (i + 1) (by omega)).1) ?_
  refine ZE.cV [(0, (xs (i + 1)))] [(0, b2i (taV S (xs (i + 1)) = true))] [(2, o), (0, (xs (i + 1))), (9, 0), (9, 0)] d_Law_law_1718 l_Law_218 rfl rfl rfl rfl rfl rfl h2.2.1.1 ?_
  refine r_twosAgree h2.2.1 h2.2.2.1.1 h2.2.2.1.2.1 h.1.cS.2.1 h.1.cS.2.2 (h.2.2.2.2.1.2.1 (i + 1) (by omega)).2 ?_
  show ZE 12 M_Law_law (gw G2 A2) 1721 [(2, (b : Int)), (2, x), (2, o), (0, (i : Int))] [(0, b2i (taV S (xs (i + 1)) = true)), (0, b2i (taV S (xs (i + 1)) = true))] _
  refine ZE.same (tgt := 2023) d_Law_law_1721 rfl ?_
  exact k _ _ _ _ _ _ _ _ h2
set_option maxRecDepth 20000 in
set_option maxHeartbeats 4000000 in
theorem lc_threes {d : Nat} {G : zG} {A : Int → Int → Int} {P : Option zV → zG → Prop} {b L : Nat} {xs : Nat → Int} {Z W : Nat} {x o : Int} {S T tl : Nat} {tf : Nat → Int} {wl : Nat} {wf : Nat → Int} (h : LH b L xs Z W G A x o S T tl tf wl wf S T tl tf wl wf) {i : Nat} (hi : i + 6 ≤ L) (k : ∀ G2 A2 (S2 T2 tl2 : Nat) (tf2 : Nat → Int) (wl2 : Nat) (wf2 : Nat → Int), LH b L xs Z W G2 A2 x o S2 T2 tl2 tf2 wl2 wf2 S2 T2 tl2 tf2 wl2 wf2 → ZE 12 M_Law_law (gw G2 A2) 2023 [(2, (b : Int)), (2, x), (2, o), (0, (i : Int))] [] P) : ZE 12 M_Law_law (gw G A) 1726 [(2, (b : Int)), (2, x), (2, o), (0, (i : Int))] [] P := by
  refine ZE.aload_n d_Law_law_1726 rfl ?_
  refine ZE.cV [] [] [(2, x), (9, 0), (9, 0)] d_Law_law_1727 l_Law_219 rfl rfl rfl rfl rfl rfl h.1.cCK.1 ?_
  refine c_threes (d := 0) h.1  (fun G2 A2 hC hT => ?_)
  show ZE 12 M_Law_law (gw G2 A2) 1730 [(2, (b : Int)), (2, x), (2, o), (0, (i : Int))] [(0, thV S)] _
  have h2 := h.c hC hT
  refine ZE.aload_n d_Law_law_1730 rfl ?_
  refine ZE.cV [] [(0, thV S)] [(2, o), (9, 0), (9, 0)] d_Law_law_1731 l_Law_222 rfl rfl rfl rfl rfl rfl h2.2.1.1 ?_
  refine r_threes h2.2.1 h2.2.2.1.1 h2.2.2.1.2.1 h.1.cS.2.1 h.1.cS.2.2  ?_
  show ZE 12 M_Law_law (gw G2 A2) 1734 [(2, (b : Int)), (2, x), (2, o), (0, (i : Int))] [(0, thV S), (0, thV S)] _
  refine ZE.same (tgt := 2023) d_Law_law_1734 rfl ?_
  exact k _ _ _ _ _ _ _ _ h2
set_option maxRecDepth 20000 in
set_option maxHeartbeats 4000000 in
theorem lc_half {d : Nat} {G : zG} {A : Int → Int → Int} {P : Option zV → zG → Prop} {b L : Nat} {xs : Nat → Int} {Z W : Nat} {x o : Int} {S T tl : Nat} {tf : Nat → Int} {wl : Nat} {wf : Nat → Int} (h : LH b L xs Z W G A x o S T tl tf wl wf S T tl tf wl wf) {i : Nat} (hi : i + 6 ≤ L) (k : ∀ G2 A2 (S2 T2 tl2 : Nat) (tf2 : Nat → Int) (wl2 : Nat) (wf2 : Nat → Int), LH b L xs Z W G2 A2 x o S2 T2 tl2 tf2 wl2 wf2 S2 T2 tl2 tf2 wl2 wf2 → ZE 12 M_Law_law (gw G2 A2) 2023 [(2, (b : Int)), (2, x), (2, o), (0, (i : Int))] [] P) : ZE 12 M_Law_law (gw G A) 1808 [(2, (b : Int)), (2, x), (2, o), (0, (i : Int))] [] P := by
  refine ZE.aload_n d_Law_law_1808 rfl ?_
  refine ZE.aload_n d_Law_law_1809 rfl ?_
  refine ZE.iload_n d_Law_law_1810 rfl ?_
  refine ZE.iconst (n := 1) d_Law_law_1811 ?_
  refine ZE.iadd d_Law_law_1812 ?_
  refine ZE.ialdRE (v := (xs (i + 1))) d_Law_law_1813 h.2.2.2.2.1.1.1 (by have hn0 := h.2.2.2.2.1.1.2; show 0 ≤ (i : Int) + 1 ∧ (i : Int) + 1 < gn G (b : Int); omega) (by rw [show (i : Int) + 1 = ((i + 1 : Nat) : Int) by omega]; exact (h.2.2.2.2.1.2.1 (i + 1) (by omega)).1) ?_
  refine ZE.aload_n d_Law_law_1814 rfl ?_
  refine ZE.iload_n d_Law_law_1815 rfl ?_
  refine ZE.iconst (n := 2) d_Law_law_1816 ?_
  refine ZE.iadd d_Law_law_1817 ?_
  refine ZE.ialdRE (v := (xs (i + 2))) d_Law_law_1818 h.2.2.2.2.1.1.1 (by have hn0 := h.2.2.2.2.1.1.2; show 0 ≤ (i : Int) + 2 ∧ (i : Int) + 2 < gn G (b : Int); omega) (by rw [show (i : Int) + 2 = ((i + 2 : Nat) : Int) by omega]; exact (h.2.2.2.2.1.2.1 (i + 2) (by omega)).1) ?_
  refine ZE.aload_n d_Law_law_1819 rfl ?_
  refine ZE.iload_n d_Law_law_1820 rfl ?_
  refine ZE.iconst (n := 3) d_Law_law_1821 ?_
  refine ZE.iadd d_Law_law_1822 ?_
  refine ZE.ialdRE (v := (xs (i + 3))) d_Law_law_1823 h.2.2.2.2.1.1.1 (by have hn0 := h.2.2.2.2.1.1.2; show 0 ≤ (i : Int) + 3 ∧ (i : Int) + 3 < gn G (b : Int); omega) (by rw [show (i : Int) + 3 = ((i + 3 : Nat) : Int) by omega]; exact (h.2.2.2.2.1.2.1 (i + 3) (by omega)).1) ?_
  refine ZE.cV [(0, (xs (i + 1))), (0, (xs (i + 2))), (0, (xs (i + 3)))] [] [(2, x), (0, (xs (i + 1))), (0, (xs (i + 2))), (0, (xs (i + 3)))] d_Law_law_1824 l_Law_235 rfl rfl rfl rfl rfl rfl h.1.cCK.1 ?_
  refine c_half (d := 0) h.1 (h.2.2.2.2.1.2.1 (i + 1) (by omega)).2 (h.2.2.2.2.1.2.1 (i + 2) (by omega)).2 (h.2.2.2.2.1.2.1 (i + 3) (by omega)).2 (fun G2 A2 hC hT => ?_)
  show ZE 12 M_Law_law (gw G2 A2) 1827 [(2, (b : Int)), (2, x), (2, o), (0, (i : Int))] [(0, haV S (xs (i + 1)) (xs (i + 2)) (xs (i + 3)))] _
  have h2 := h.c hC hT
  refine ZE.aload_n d_Law_law_1827 rfl ?_
  refine ZE.aload_n d_Law_law_1828 rfl ?_
  refine ZE.iload_n d_Law_law_1829 rfl ?_
  refine ZE.iconst (n := 1) d_Law_law_1830 ?_
  refine ZE.iadd d_Law_law_1831 ?_
  refine ZE.ialdRE (v := (xs (i + 1))) d_Law_law_1832 h2.2.2.2.2.1.1.1 (by have hn0 := h2.2.2.2.2.1.1.2; show 0 ≤ (i : Int) + 1 ∧ (i : Int) + 1 < gn G2 (b : Int); omega) (by rw [show (i : Int) + 1 = ((i + 1 : Nat) : Int) by omega]; exact (h2.2.2.2.2.1.2.1 (i + 1) (by omega)).1) ?_
  refine ZE.aload_n d_Law_law_1833 rfl ?_
  refine ZE.iload_n d_Law_law_1834 rfl ?_
  refine ZE.iconst (n := 2) d_Law_law_1835 ?_
  refine ZE.iadd d_Law_law_1836 ?_
  refine ZE.ialdRE (v := (xs (i + 2))) d_Law_law_1837 h2.2.2.2.2.1.1.1 (by have hn0 := h2.2.2.2.2.1.1.2; show 0 ≤ (i : Int) + 2 ∧ (i : Int) + 2 < gn G2 (b : Int); omega) (by rw [show (i : Int) + 2 = ((i + 2 : Nat) : Int) by omega]; exact (h2.2.2.2.2.1.2.1 (i + 2) (by omega)).1) ?_
  refine ZE.aload_n d_Law_law_1838 rfl ?_
  refine ZE.iload_n d_Law_law_1839 rfl ?_
  refine ZE.iconst (n := 3) d_Law_law_1840 ?_
  refine ZE.iadd d_Law_law_1841 ?_
  refine ZE.ialdRE (v := (xs (i + 3))) d_Law_law_1842 h2.2.2.2.2.1.1.1 (by have hn0 := h2.2.2.2.2.1.1.2; show 0 ≤ (i : Int) + 3 ∧ (i : Int) + 3 < gn G2 (b : Int); omega) (by rw [show (i : Int) + 3 = ((i + 3 : Nat) : Int) by omega]; exact (h2.2.2.2.2.1.2.1 (i + 3) (by omega)).1) ?_
  refine ZE.cV [(0, (xs (i + 1))), (0, (xs (i + 2))), (0, (xs (i + 3)))] [(0, haV S (xs (i + 1)) (xs (i + 2)) (xs (i + 3)))] [(2, o), (0, (xs (i + 1))), (0, (xs (i + 2))), (0, (xs (i + 3)))] d_Law_law_1843 l_Law_238 rfl rfl rfl rfl rfl rfl h2.2.1.1 ?_
  refine r_half h2.2.1 h2.2.2.1.1 h2.2.2.1.2.1 h.1.cS.2.1 h.1.cS.2.2 (h.2.2.2.2.1.2.1 (i + 1) (by omega)).2 (h.2.2.2.2.1.2.1 (i + 2) (by omega)).2 (h.2.2.2.2.1.2.1 (i + 3) (by omega)).2 (fun B gB => ?_)
  show ZE 12 M_Law_law (gw G2 B) 1846 [(2, (b : Int)), (2, x), (2, o), (0, (i : Int))] [(0, haV S (xs (i + 1)) (xs (i + 2)) (xs (i + 3))), (0, haV S (xs (i + 1)) (xs (i + 2)) (xs (i + 3)))] _
  have h3 := h2.r (ri_qu h2.2.2.1 gB)
  refine ZE.same (tgt := 2023) d_Law_law_1846 rfl ?_
  exact k _ _ _ _ _ _ _ _ h3
set_option maxRecDepth 20000 in
set_option maxHeartbeats 4000000 in
theorem lc_meanLength {d : Nat} {G : zG} {A : Int → Int → Int} {P : Option zV → zG → Prop} {b L : Nat} {xs : Nat → Int} {Z W : Nat} {x o : Int} {S T tl : Nat} {tf : Nat → Int} {wl : Nat} {wf : Nat → Int} (h : LH b L xs Z W G A x o S T tl tf wl wf S T tl tf wl wf) {i : Nat} (hi : i + 6 ≤ L) (k : ∀ G2 A2 (S2 T2 tl2 : Nat) (tf2 : Nat → Int) (wl2 : Nat) (wf2 : Nat → Int), LH b L xs Z W G2 A2 x o S2 T2 tl2 tf2 wl2 wf2 S2 T2 tl2 tf2 wl2 wf2 → ZE 12 M_Law_law (gw G2 A2) 2023 [(2, (b : Int)), (2, x), (2, o), (0, (i : Int))] [] P) : ZE 12 M_Law_law (gw G A) 1986 [(2, (b : Int)), (2, x), (2, o), (0, (i : Int))] [] P := by
  refine ZE.aload_n d_Law_law_1986 rfl ?_
  refine ZE.cV [] [] [(2, x), (9, 0), (9, 0)] d_Law_law_1987 l_Law_260 rfl rfl rfl rfl rfl rfl h.1.cCK.1 ?_
  refine c_meanLength (d := 0) h.1  (fun G2 A2 hC hT => ?_)
  show ZE 12 M_Law_law (gw G2 A2) 1990 [(2, (b : Int)), (2, x), (2, o), (0, (i : Int))] [(0, mlV S)] _
  have h2 := h.c hC hT
  refine ZE.aload_n d_Law_law_1990 rfl ?_
  refine ZE.cV [] [(0, mlV S)] [(2, o), (9, 0), (9, 0)] d_Law_law_1991 l_Law_263 rfl rfl rfl rfl rfl rfl h2.2.1.1 ?_
  refine r_meanLength h2.2.1 h2.2.2.1.1 h2.2.2.1.2.1 h.1.cS.2.1 h.1.cS.2.2  ?_
  show ZE 12 M_Law_law (gw G2 A2) 1994 [(2, (b : Int)), (2, x), (2, o), (0, (i : Int))] [(0, mlV S), (0, mlV S)] _
  refine ZE.same (tgt := 2023) d_Law_law_1994 rfl ?_
  exact k _ _ _ _ _ _ _ _ h2
