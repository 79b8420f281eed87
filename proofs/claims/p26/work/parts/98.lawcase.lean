def LL (b x mo out : Nat) (i : Int32) : List (Nat × Value) := [(0, .ref b), (1, .ref x), (2, .ref mo), (3, .ref out), (4, .int i)]
def KK (X : CTX) (b x mo out : Nat) (i : Int32) (nc ns : Nat) : Prop := ∀ (P : List Nat) (K : Nat → Nat) (I : WI) (O : WO) (J : WJ), L4 P K I O x mo out → GG X 7 P K I O J nc ns 1126 (LL b x mo out i) []
theorem lwc_2 {X : CTX} {P : List Nat} {K : Nat → Nat} {I : WI} {O : WO} {J : WJ} {nc ns b x mo out Ln : Nat} {i : Int32} {xs : Nat → Int32} (C : Cx X bLw 7 "RoarMillLaw" room_1) (hLX : LX X) (hs : SCR X b Ln xs) (hL : Ln ≤ 3584) (hi : 0 ≤ i.toInt ∧ i.toInt + 7 ≤ (Ln : Int)) (hj : L4 P K I O x mo out) (hn : nc + 8 ≤ 601024 ∧ ns + 76 ≤ 7293034) (kk : KK X b x mo out i (nc + 8) (ns + 76)) : GG X 7 P K I O J nc ns 270 (LL b x mo out i) [] := by
  have hx := hj.1.2.1
  have hm := hj.1.2.2.1
  have hro : nc ≤ 601024 ∧ ns ≤ 7293034 := by omega
  refine g_aload_n C dLw_270 rfl ?_
  refine lx_callC (av := []) (rest := []) C dLw_271 mfRM_fault mvRM_fault ln_Lw_28 hx (by decide) rfl (d_RM_fault hj.1.1 hx) rfl rfl (Nat.le_of_ble_eq_true rfl) ⟨rfl, rfl⟩ ⟨rfl, rfl⟩ hro (fun z1 I1 J1 hV1 hF1 p1 => ?_)
  have hj1 := hj.1.cls hV1 (FQ.fr hF1) rfl rfl rfl rfl rfl rfl
  refine g_pop C dLw_274 rfl ?_
  refine g_aload_n C dLw_275 rfl ?_
  refine lx_callM (av := []) (rest := []) C dLw_276 mfMo_fault mvMo_fault ln_Lw_32 hm (by decide) rfl (d_Mo_fault hV1 hm hj1.2.2.2.2.1) rfl rfl (Nat.le_of_ble_eq_true rfl) ⟨rfl, rfl⟩ ⟨rfl, rfl⟩ hro (fun z2 I2 J2 hV2 hF2 hR2 h62 p2 => ?_)
  replace p1 := p1.2.2.2
  replace p2 := p2.2.2
  obtain ⟨f13, f2, r0, r1, fM⟩ := hj.moe (FQ.kC_N (FQ.kD_C hF1))
  obtain ⟨a1, a2, a3, a4, a5⟩ := hj.2.2
  have hA := hj.leave hV1 hV2 hF1 hF2
  refine g_pop C dLw_279 rfl ?_
  refine g_goto 1126 C dLw_280 (by decide) ?_
  exact g_widen (by omega) (by omega) (kk _ _ _ _ _ ⟨hj1.ref hV2 (FQ.mL_2 hF2) hR2 h62, hj.2.1, hA⟩)
theorem lwc_3 {X : CTX} {P : List Nat} {K : Nat → Nat} {I : WI} {O : WO} {J : WJ} {nc ns b x mo out Ln : Nat} {i : Int32} {xs : Nat → Int32} (C : Cx X bLw 7 "RoarMillLaw" room_1) (hLX : LX X) (hs : SCR X b Ln xs) (hL : Ln ≤ 3584) (hi : 0 ≤ i.toInt ∧ i.toInt + 7 ≤ (Ln : Int)) (hj : L4 P K I O x mo out) (hn : nc + 8 ≤ 601024 ∧ ns + 76 ≤ 7293034) (kk : KK X b x mo out i (nc + 8) (ns + 76)) : GG X 7 P K I O J nc ns 283 (LL b x mo out i) [] := by
  have hx := hj.1.2.1
  have hm := hj.1.2.2.1
  have hro : nc ≤ 601024 ∧ ns ≤ 7293034 := by omega
  refine g_aload_n C dLw_283 rfl ?_
  refine lx_callC (av := []) (rest := []) C dLw_284 mfRM_where mvRM_where ln_Lw_33 hx (by decide) rfl (d_RM_where hj.1.1 hx) rfl rfl (Nat.le_of_ble_eq_true rfl) ⟨rfl, rfl⟩ ⟨rfl, rfl⟩ hro (fun z1 I1 J1 hV1 hF1 p1 => ?_)
  have hj1 := hj.1.cls hV1 (FQ.fr hF1) rfl rfl rfl rfl rfl rfl
  refine g_pop C dLw_287 rfl ?_
  refine g_aload_n C dLw_288 rfl ?_
  refine lx_callM (av := []) (rest := []) C dLw_289 mfMo_where mvMo_where ln_Lw_36 hm (by decide) rfl (d_Mo_where hV1 hm hj1.2.2.2.2.1) rfl rfl (Nat.le_of_ble_eq_true rfl) ⟨rfl, rfl⟩ ⟨rfl, rfl⟩ hro (fun z2 I2 J2 hV2 hF2 hR2 h62 p2 => ?_)
  replace p1 := p1.2.2.2
  replace p2 := p2.2.2
  obtain ⟨f13, f2, r0, r1, fM⟩ := hj.moe (FQ.kC_N (FQ.kD_C hF1))
  obtain ⟨a1, a2, a3, a4, a5⟩ := hj.2.2
  have hA := hj.leave hV1 hV2 hF1 hF2
  refine g_pop C dLw_292 rfl ?_
  refine g_goto 1126 C dLw_293 (by decide) ?_
  exact g_widen (by omega) (by omega) (kk _ _ _ _ _ ⟨hj1.ref hV2 (FQ.mL_2 hF2) hR2 h62, hj.2.1, hA⟩)
theorem lwc_4 {X : CTX} {P : List Nat} {K : Nat → Nat} {I : WI} {O : WO} {J : WJ} {nc ns b x mo out Ln : Nat} {i : Int32} {xs : Nat → Int32} (C : Cx X bLw 7 "RoarMillLaw" room_1) (hLX : LX X) (hs : SCR X b Ln xs) (hL : Ln ≤ 3584) (hi : 0 ≤ i.toInt ∧ i.toInt + 7 ≤ (Ln : Int)) (hj : L4 P K I O x mo out) (hn : nc + 8 ≤ 601024 ∧ ns + 76 ≤ 7293034) (kk : KK X b x mo out i (nc + 8) (ns + 76)) : GG X 7 P K I O J nc ns 296 (LL b x mo out i) [] := by
  have hx := hj.1.2.1
  have hm := hj.1.2.2.1
  have hro : nc ≤ 601024 ∧ ns ≤ 7293034 := by omega
  refine g_aload_n C dLw_296 rfl ?_
  refine g_sarg (k := 1) C hs hL hi (by decide) rfl rfl dLw_297 dLw_298 dLw_300 dLw_301 dLw_302 ?_
  refine g_sarg (k := 2) C hs hL hi (by decide) rfl rfl dLw_303 dLw_304 dLw_306 dLw_307 dLw_308 ?_
  refine g_sarg (k := 3) C hs hL hi (by decide) rfl rfl dLw_309 dLw_310 dLw_312 dLw_313 dLw_314 ?_
  refine lx_callC (av := [.int (sv xs i 1), .int (sv xs i 2), .int (sv xs i 3)]) (rest := []) C dLw_315 mfRM_set mvRM_set ln_Lw_37 hx (by decide) rfl (d_RM_set hj.1.1 hx) rfl rfl (Nat.le_of_ble_eq_true rfl) ⟨rfl, rfl⟩ ⟨rfl, rfl⟩ hro (fun z1 I1 J1 hV1 hF1 p1 => ?_)
  have hj1 := hj.1.cls hV1 (FQ.fr hF1) rfl rfl rfl rfl rfl rfl
  refine g_pop C dLw_318 rfl ?_
  refine g_aload_n C dLw_319 rfl ?_
  refine g_sarg (k := 1) C hs hL hi (by decide) rfl rfl dLw_320 dLw_321 dLw_323 dLw_324 dLw_325 ?_
  refine g_sarg (k := 2) C hs hL hi (by decide) rfl rfl dLw_326 dLw_327 dLw_329 dLw_330 dLw_331 ?_
  refine g_sarg (k := 3) C hs hL hi (by decide) rfl rfl dLw_332 dLw_333 dLw_335 dLw_336 dLw_337 ?_
  refine lx_callM (av := [.int (sv xs i 1), .int (sv xs i 2), .int (sv xs i 3)]) (rest := []) C dLw_338 mfMo_set mvMo_set ln_Lw_41 hm (by decide) rfl (d_Mo_set hV1 hm hj1.2.2.2.2.1) rfl rfl (Nat.le_of_ble_eq_true rfl) ⟨rfl, rfl⟩ ⟨rfl, rfl⟩ hro (fun z2 I2 J2 hV2 hF2 hR2 h62 p2 => ?_)
  replace p1 := p1.2.2
  replace p2 := p2.2.2
  obtain ⟨f13, f2, r0, r1, fM⟩ := hj.moe (FQ.kC_N hF1)
  obtain ⟨a1, a2, a3, a4, a5⟩ := hj.2.2
  have hA := hj.set hV1 hV2 hF1 hF2 p1.1 ((Classical.em (O mo 3 = none)).elim (fun w => ((p2).1 w).1) (fun w => ((p2).2 w).1))
  refine g_pop C dLw_341 rfl ?_
  refine g_goto 1126 C dLw_342 (by decide) ?_
  exact g_widen (by omega) (by omega) (kk _ _ _ _ _ ⟨hj1.ref hV2 (FQ.mS_2 hF2) hR2 h62, hj.2.1, hA⟩)
theorem lwc_5 {X : CTX} {P : List Nat} {K : Nat → Nat} {I : WI} {O : WO} {J : WJ} {nc ns b x mo out Ln : Nat} {i : Int32} {xs : Nat → Int32} (C : Cx X bLw 7 "RoarMillLaw" room_1) (hLX : LX X) (hs : SCR X b Ln xs) (hL : Ln ≤ 3584) (hi : 0 ≤ i.toInt ∧ i.toInt + 7 ≤ (Ln : Int)) (hj : L4 P K I O x mo out) (hn : nc + 8 ≤ 601024 ∧ ns + 76 ≤ 7293034) (kk : KK X b x mo out i (nc + 8) (ns + 76)) : GG X 7 P K I O J nc ns 345 (LL b x mo out i) [] := by
  have hx := hj.1.2.1
  have hm := hj.1.2.2.1
  have hro : nc ≤ 601024 ∧ ns ≤ 7293034 := by omega
  refine g_aload_n C dLw_345 rfl ?_
  refine g_sarg (k := 1) C hs hL hi (by decide) rfl rfl dLw_346 dLw_347 dLw_349 dLw_350 dLw_351 ?_
  refine g_sarg (k := 2) C hs hL hi (by decide) rfl rfl dLw_352 dLw_353 dLw_355 dLw_356 dLw_357 ?_
  refine g_nz 358 C dLw_358 dLw_361 dLw_362 dLw_365 (fun v1 hv1 => ?_)
  refine lx_callC (av := [.int (sv xs i 1), .int v1]) (rest := []) C dLw_366 mfRM_mend mvRM_mend ln_Lw_42 hx (by decide) rfl (d_RM_mend hj.1.1 hx) rfl rfl (Nat.le_of_ble_eq_true rfl) ⟨rfl, rfl⟩ ⟨rfl, rfl⟩ hro (fun z1 I1 J1 hV1 hF1 p1 => ?_)
  have hj1 := hj.1.cls hV1 (FQ.fr hF1) rfl rfl rfl rfl rfl rfl
  refine g_pop C dLw_369 rfl ?_
  refine g_aload_n C dLw_370 rfl ?_
  refine g_sarg (k := 1) C hs hL hi (by decide) rfl rfl dLw_371 dLw_372 dLw_374 dLw_375 dLw_376 ?_
  refine g_sarg (k := 2) C hs hL hi (by decide) rfl rfl dLw_377 dLw_378 dLw_380 dLw_381 dLw_382 ?_
  refine g_nz 383 C dLw_383 dLw_386 dLw_387 dLw_390 (fun v2 hv2 => ?_)
  refine lx_callM (av := [.int (sv xs i 1), .int v2]) (rest := []) C dLw_391 mfMo_mend mvMo_mend ln_Lw_46 hm (by decide) rfl (d_Mo_mend hV1 hm hj1.2.2.2.2.1) rfl rfl (Nat.le_of_ble_eq_true rfl) ⟨rfl, rfl⟩ ⟨rfl, rfl⟩ hro (fun z2 I2 J2 hV2 hF2 hR2 h62 p2 => ?_)
  replace p1 := p1.2.2
  replace p2 := p2.2.2
  obtain ⟨f13, f2, r0, r1, fM⟩ := hj.moe (FQ.kC_N hF1)
  obtain ⟨a1, a2, a3, a4, a5⟩ := hj.2.2
  have hA := hj.set hV1 hV2 hF1 hF2 p1.1 ((Classical.em (O mo 3 = none)).elim (fun w => ((p2).1 w).1) (fun w => ((p2).2 w).1))
  refine g_pop C dLw_394 rfl ?_
  refine g_goto 1126 C dLw_395 (by decide) ?_
  exact g_widen (by omega) (by omega) (kk _ _ _ _ _ ⟨hj1.ref hV2 (FQ.mS_2 hF2) hR2 h62, hj.2.1, hA⟩)
theorem lwc_6 {X : CTX} {P : List Nat} {K : Nat → Nat} {I : WI} {O : WO} {J : WJ} {nc ns b x mo out Ln : Nat} {i : Int32} {xs : Nat → Int32} (C : Cx X bLw 7 "RoarMillLaw" room_1) (hLX : LX X) (hs : SCR X b Ln xs) (hL : Ln ≤ 3584) (hi : 0 ≤ i.toInt ∧ i.toInt + 7 ≤ (Ln : Int)) (hj : L4 P K I O x mo out) (hn : nc + 8 ≤ 601024 ∧ ns + 76 ≤ 7293034) (kk : KK X b x mo out i (nc + 8) (ns + 76)) : GG X 7 P K I O J nc ns 398 (LL b x mo out i) [] := by
  have hx := hj.1.2.1
  have hm := hj.1.2.2.1
  have hro : nc ≤ 601024 ∧ ns ≤ 7293034 := by omega
  refine g_aload_n C dLw_398 rfl ?_
  refine g_sarg (k := 1) C hs hL hi (by decide) rfl rfl dLw_399 dLw_400 dLw_402 dLw_403 dLw_404 ?_
  refine lx_callC (av := [.int (sv xs i 1)]) (rest := []) C dLw_405 mfRM_go mvRM_go ln_Lw_47 hx (by decide) rfl (d_RM_go hj.1.1 hx) rfl rfl (Nat.le_of_ble_eq_true rfl) ⟨rfl, rfl⟩ ⟨rfl, rfl⟩ hro (fun z1 I1 J1 hV1 hF1 p1 => ?_)
  have hj1 := hj.1.cls hV1 (FQ.fr hF1) rfl rfl rfl rfl rfl rfl
  refine g_pop C dLw_408 rfl ?_
  refine g_aload_n C dLw_409 rfl ?_
  refine g_sarg (k := 1) C hs hL hi (by decide) rfl rfl dLw_410 dLw_411 dLw_413 dLw_414 dLw_415 ?_
  refine lx_callM (av := [.int (sv xs i 1)]) (rest := []) C dLw_416 mfMo_go mvMo_go ln_Lw_50 hm (by decide) rfl (d_Mo_go hV1 hm hj1.2.2.2.2.1) rfl rfl (Nat.le_of_ble_eq_true rfl) ⟨rfl, rfl⟩ ⟨rfl, rfl⟩ hro (fun z2 I2 J2 hV2 hF2 hR2 h62 p2 => ?_)
  have hA := hj.set hV1 hV2 hF1 hF2 p1.2.2 ((Classical.em (O mo 3 = none)).elim (fun w => ((p2.2.2).1 w).1) (fun w => ((p2.2.2).2 w).2.2.2))
  refine g_pop C dLw_419 rfl ?_
  refine g_goto 1126 C dLw_420 (by decide) ?_
  exact g_widen (by omega) (by omega) (kk _ _ _ _ _ ⟨hj1.ref hV2 (FQ.mS_2 hF2) hR2 h62, hj.2.1, hA⟩)
theorem lwc_7 {X : CTX} {P : List Nat} {K : Nat → Nat} {I : WI} {O : WO} {J : WJ} {nc ns b x mo out Ln : Nat} {i : Int32} {xs : Nat → Int32} (C : Cx X bLw 7 "RoarMillLaw" room_1) (hLX : LX X) (hs : SCR X b Ln xs) (hL : Ln ≤ 3584) (hi : 0 ≤ i.toInt ∧ i.toInt + 7 ≤ (Ln : Int)) (hj : L4 P K I O x mo out) (hn : nc + 8 ≤ 601024 ∧ ns + 76 ≤ 7293034) (kk : KK X b x mo out i (nc + 8) (ns + 76)) : GG X 7 P K I O J nc ns 423 (LL b x mo out i) [] := by
  have hx := hj.1.2.1
  have hm := hj.1.2.2.1
  have hro : nc ≤ 601024 ∧ ns ≤ 7293034 := by omega
  refine g_aload_n C dLw_423 rfl ?_
  refine g_sarg (k := 1) C hs hL hi (by decide) rfl rfl dLw_424 dLw_425 dLw_427 dLw_428 dLw_429 ?_
  refine g_sarg (k := 2) C hs hL hi (by decide) rfl rfl dLw_430 dLw_431 dLw_433 dLw_434 dLw_435 ?_
  refine lx_callC (av := [.int (sv xs i 1), .int (sv xs i 2)]) (rest := []) C dLw_436 mfRM_tons mvRM_tons ln_Lw_51 hx (by decide) rfl (d_RM_tons hj.1.1 hx) rfl rfl (Nat.le_of_ble_eq_true rfl) ⟨rfl, rfl⟩ ⟨rfl, rfl⟩ hro (fun z1 I1 J1 hV1 hF1 p1 => ?_)
  have hj1 := hj.1.cls hV1 (FQ.fr hF1) rfl rfl rfl rfl rfl rfl
  refine g_pop C dLw_439 rfl ?_
  refine g_aload_n C dLw_440 rfl ?_
  refine g_sarg (k := 1) C hs hL hi (by decide) rfl rfl dLw_441 dLw_442 dLw_444 dLw_445 dLw_446 ?_
  refine g_sarg (k := 2) C hs hL hi (by decide) rfl rfl dLw_447 dLw_448 dLw_450 dLw_451 dLw_452 ?_
  refine lx_callM (av := [.int (sv xs i 1), .int (sv xs i 2)]) (rest := []) C dLw_453 mfMo_tons mvMo_tons ln_Lw_55 hm (by decide) rfl (d_Mo_tons hV1 hm hj1.2.2.2.2.1) rfl rfl (Nat.le_of_ble_eq_true rfl) ⟨rfl, rfl⟩ ⟨rfl, rfl⟩ hro (fun z2 I2 J2 hV2 hF2 hR2 h62 p2 => ?_)
  have hA := hj.leave hV1 hV2 hF1 hF2
  refine g_pop C dLw_456 rfl ?_
  refine g_goto 1126 C dLw_457 (by decide) ?_
  exact g_widen (by omega) (by omega) (kk _ _ _ _ _ ⟨hj1.ref hV2 (FQ.mL_2 hF2) hR2 h62, hj.2.1, hA⟩)
theorem lwc_8 {X : CTX} {P : List Nat} {K : Nat → Nat} {I : WI} {O : WO} {J : WJ} {nc ns b x mo out Ln : Nat} {i : Int32} {xs : Nat → Int32} (C : Cx X bLw 7 "RoarMillLaw" room_1) (hLX : LX X) (hs : SCR X b Ln xs) (hL : Ln ≤ 3584) (hi : 0 ≤ i.toInt ∧ i.toInt + 7 ≤ (Ln : Int)) (hj : L4 P K I O x mo out) (hn : nc + 8 ≤ 601024 ∧ ns + 76 ≤ 7293034) (kk : KK X b x mo out i (nc + 8) (ns + 76)) : GG X 7 P K I O J nc ns 460 (LL b x mo out i) [] := by
  have hx := hj.1.2.1
  have hm := hj.1.2.2.1
  have hro : nc ≤ 601024 ∧ ns ≤ 7293034 := by omega
  refine g_aload_n C dLw_460 rfl ?_
  refine g_sarg (k := 1) C hs hL hi (by decide) rfl rfl dLw_461 dLw_462 dLw_464 dLw_465 dLw_466 ?_
  refine lx_callC (av := [.int (sv xs i 1)]) (rest := []) C dLw_467 mfRM_state mvRM_state ln_Lw_56 hx (by decide) rfl (d_RM_state hj.1.1 hx) rfl rfl (Nat.le_of_ble_eq_true rfl) ⟨rfl, rfl⟩ ⟨rfl, rfl⟩ hro (fun z1 I1 J1 hV1 hF1 p1 => ?_)
  have hj1 := hj.1.cls hV1 (FQ.fr hF1) rfl rfl rfl rfl rfl rfl
  refine g_pop C dLw_470 rfl ?_
  refine g_aload_n C dLw_471 rfl ?_
  refine g_sarg (k := 1) C hs hL hi (by decide) rfl rfl dLw_472 dLw_473 dLw_475 dLw_476 dLw_477 ?_
  refine lx_callM (av := [.int (sv xs i 1)]) (rest := []) C dLw_478 mfMo_state mvMo_state ln_Lw_59 hm (by decide) rfl (d_Mo_state hV1 hm hj1.2.2.2.2.1) rfl rfl (Nat.le_of_ble_eq_true rfl) ⟨rfl, rfl⟩ ⟨rfl, rfl⟩ hro (fun z2 I2 J2 hV2 hF2 hR2 h62 p2 => ?_)
  have hA := hj.leave hV1 hV2 hF1 hF2
  refine g_pop C dLw_481 rfl ?_
  refine g_goto 1126 C dLw_482 (by decide) ?_
  exact g_widen (by omega) (by omega) (kk _ _ _ _ _ ⟨hj1.ref hV2 (FQ.mL_2 hF2) hR2 h62, hj.2.1, hA⟩)
theorem lwc_9 {X : CTX} {P : List Nat} {K : Nat → Nat} {I : WI} {O : WO} {J : WJ} {nc ns b x mo out Ln : Nat} {i : Int32} {xs : Nat → Int32} (C : Cx X bLw 7 "RoarMillLaw" room_1) (hLX : LX X) (hs : SCR X b Ln xs) (hL : Ln ≤ 3584) (hi : 0 ≤ i.toInt ∧ i.toInt + 7 ≤ (Ln : Int)) (hj : L4 P K I O x mo out) (hn : nc + 8 ≤ 601024 ∧ ns + 76 ≤ 7293034) (kk : KK X b x mo out i (nc + 8) (ns + 76)) : GG X 7 P K I O J nc ns 485 (LL b x mo out i) [] := by
  have hx := hj.1.2.1
  have hm := hj.1.2.2.1
  have hro : nc ≤ 601024 ∧ ns ≤ 7293034 := by omega
  refine g_aload_n C dLw_485 rfl ?_
  refine g_sarg (k := 1) C hs hL hi (by decide) rfl rfl dLw_486 dLw_487 dLw_489 dLw_490 dLw_491 ?_
  refine g_sarg (k := 2) C hs hL hi (by decide) rfl rfl dLw_492 dLw_493 dLw_495 dLw_496 dLw_497 ?_
  refine g_sarg (k := 3) C hs hL hi (by decide) rfl rfl dLw_498 dLw_499 dLw_501 dLw_502 dLw_503 ?_
  refine g_sarg (k := 4) C hs hL hi (by decide) rfl rfl dLw_504 dLw_505 dLw_507 dLw_508 dLw_509 ?_
  refine lx_callC (av := [.int (sv xs i 1), .int (sv xs i 2), .int (sv xs i 3), .int (sv xs i 4)]) (rest := []) C dLw_510 mfRM_program mvRM_program ln_Lw_60 hx (by decide) rfl (d_RM_program hj.1.1 hx) rfl rfl (Nat.le_of_ble_eq_true rfl) ⟨rfl, rfl⟩ ⟨rfl, rfl⟩ hro (fun z1 I1 J1 hV1 hF1 p1 => ?_)
  have hj1 := hj.1.cls hV1 (FQ.fr hF1) rfl rfl rfl rfl rfl rfl
  refine g_pop C dLw_513 rfl ?_
  refine g_aload_n C dLw_514 rfl ?_
  refine g_sarg (k := 1) C hs hL hi (by decide) rfl rfl dLw_515 dLw_516 dLw_518 dLw_519 dLw_520 ?_
  refine g_sarg (k := 2) C hs hL hi (by decide) rfl rfl dLw_521 dLw_522 dLw_524 dLw_525 dLw_526 ?_
  refine g_sarg (k := 3) C hs hL hi (by decide) rfl rfl dLw_527 dLw_528 dLw_530 dLw_531 dLw_532 ?_
  refine g_sarg (k := 4) C hs hL hi (by decide) rfl rfl dLw_533 dLw_534 dLw_536 dLw_537 dLw_538 ?_
  refine lx_callM (av := [.int (sv xs i 1), .int (sv xs i 2), .int (sv xs i 3), .int (sv xs i 4)]) (rest := []) C dLw_539 mfMo_program mvMo_program ln_Lw_64 hm (by decide) rfl (d_Mo_program hV1 hm hj1.2.2.2.2.1) rfl rfl (Nat.le_of_ble_eq_true rfl) ⟨rfl, rfl⟩ ⟨rfl, rfl⟩ hro (fun z2 I2 J2 hV2 hF2 hR2 h62 p2 => ?_)
  replace p1 := p1.2.2
  replace p2 := p2.2.2
  obtain ⟨f13, f2, r0, r1, fM⟩ := hj.moe (FQ.kC_N hF1)
  obtain ⟨a1, a2, a3, a4, a5⟩ := hj.2.2
  have hA := hj.set hV1 hV2 hF1 hF2 p1.1 ((Classical.em (O mo 3 = none)).elim (fun w => ((p2).1 w).1) (fun w => ((p2).2 w).1))
  refine g_pop C dLw_542 rfl ?_
  refine g_goto 1126 C dLw_543 (by decide) ?_
  exact g_widen (by omega) (by omega) (kk _ _ _ _ _ ⟨hj1.ref hV2 (FQ.mS_2 hF2) hR2 h62, hj.2.1, hA⟩)
theorem lwc_10 {X : CTX} {P : List Nat} {K : Nat → Nat} {I : WI} {O : WO} {J : WJ} {nc ns b x mo out Ln : Nat} {i : Int32} {xs : Nat → Int32} (C : Cx X bLw 7 "RoarMillLaw" room_1) (hLX : LX X) (hs : SCR X b Ln xs) (hL : Ln ≤ 3584) (hi : 0 ≤ i.toInt ∧ i.toInt + 7 ≤ (Ln : Int)) (hj : L4 P K I O x mo out) (hn : nc + 8 ≤ 601024 ∧ ns + 76 ≤ 7293034) (kk : KK X b x mo out i (nc + 8) (ns + 76)) : GG X 7 P K I O J nc ns 546 (LL b x mo out i) [] := by
  have hx := hj.1.2.1
  have hm := hj.1.2.2.1
  have hro : nc ≤ 601024 ∧ ns ≤ 7293034 := by omega
  refine g_aload_n C dLw_546 rfl ?_
  refine g_sarg (k := 1) C hs hL hi (by decide) rfl rfl dLw_547 dLw_548 dLw_550 dLw_551 dLw_552 ?_
  refine g_sarg (k := 2) C hs hL hi (by decide) rfl rfl dLw_553 dLw_554 dLw_556 dLw_557 dLw_558 ?_
  refine g_sarg (k := 3) C hs hL hi (by decide) rfl rfl dLw_559 dLw_560 dLw_562 dLw_563 dLw_564 ?_
  refine g_sarg (k := 4) C hs hL hi (by decide) rfl rfl dLw_565 dLw_566 dLw_568 dLw_569 dLw_570 ?_
  refine lx_callC (av := [.int (sv xs i 1), .int (sv xs i 2), .int (sv xs i 3), .int (sv xs i 4)]) (rest := []) C dLw_571 mfRM_seen mvRM_seen ln_Lw_65 hx (by decide) rfl (d_RM_seen hj.1.1 hx) rfl rfl (Nat.le_of_ble_eq_true rfl) ⟨rfl, rfl⟩ ⟨rfl, rfl⟩ hro (fun z1 I1 J1 hV1 hF1 p1 => ?_)
  have hj1 := hj.1.cls hV1 (FQ.fr hF1) rfl rfl rfl rfl rfl rfl
  refine g_pop C dLw_574 rfl ?_
  refine g_aload_n C dLw_575 rfl ?_
  refine g_sarg (k := 1) C hs hL hi (by decide) rfl rfl dLw_576 dLw_577 dLw_579 dLw_580 dLw_581 ?_
  refine g_sarg (k := 2) C hs hL hi (by decide) rfl rfl dLw_582 dLw_583 dLw_585 dLw_586 dLw_587 ?_
  refine g_sarg (k := 3) C hs hL hi (by decide) rfl rfl dLw_588 dLw_589 dLw_591 dLw_592 dLw_593 ?_
  refine g_sarg (k := 4) C hs hL hi (by decide) rfl rfl dLw_594 dLw_595 dLw_597 dLw_598 dLw_599 ?_
  refine lx_callM (av := [.int (sv xs i 1), .int (sv xs i 2), .int (sv xs i 3), .int (sv xs i 4)]) (rest := []) C dLw_600 mfMo_seen mvMo_seen ln_Lw_69 hm (by decide) rfl (d_Mo_seen hV1 hm hj1.2.2.2.2.1) rfl rfl (Nat.le_of_ble_eq_true rfl) ⟨rfl, rfl⟩ ⟨rfl, rfl⟩ hro (fun z2 I2 J2 hV2 hF2 hR2 h62 p2 => ?_)
  have hA := hj.set hV1 hV2 hF1 hF2 p1.2.2 ((Classical.em (O mo 3 = none)).elim (fun w => ((p2.2.2).1 w).1) (fun w => ((p2.2.2).2 w).1))
  refine g_pop C dLw_603 rfl ?_
  refine g_goto 1126 C dLw_604 (by decide) ?_
  exact g_widen (by omega) (by omega) (kk _ _ _ _ _ ⟨hj1.ref hV2 (FQ.mS_2 hF2) hR2 h62, hj.2.1, hA⟩)
theorem lwc_11 {X : CTX} {P : List Nat} {K : Nat → Nat} {I : WI} {O : WO} {J : WJ} {nc ns b x mo out Ln : Nat} {i : Int32} {xs : Nat → Int32} (C : Cx X bLw 7 "RoarMillLaw" room_1) (hLX : LX X) (hs : SCR X b Ln xs) (hL : Ln ≤ 3584) (hi : 0 ≤ i.toInt ∧ i.toInt + 7 ≤ (Ln : Int)) (hj : L4 P K I O x mo out) (hn : nc + 8 ≤ 601024 ∧ ns + 76 ≤ 7293034) (kk : KK X b x mo out i (nc + 8) (ns + 76)) : GG X 7 P K I O J nc ns 607 (LL b x mo out i) [] := by
  have hx := hj.1.2.1
  have hm := hj.1.2.2.1
  have hro : nc ≤ 601024 ∧ ns ≤ 7293034 := by omega
  refine g_aload_n C dLw_607 rfl ?_
  refine lx_callC (av := []) (rest := []) C dLw_608 mfRM_forget mvRM_forget ln_Lw_70 hx (by decide) rfl (d_RM_forget hj.1.1 hx) rfl rfl (Nat.le_of_ble_eq_true rfl) ⟨rfl, rfl⟩ ⟨rfl, rfl⟩ hro (fun z1 I1 J1 hV1 hF1 p1 => ?_)
  have hj1 := hj.1.cls hV1 (FQ.fr hF1) rfl rfl rfl rfl rfl rfl
  refine g_pop C dLw_611 rfl ?_
  refine g_aload_n C dLw_612 rfl ?_
  refine lx_callM (av := []) (rest := []) C dLw_613 mfMo_forget mvMo_forget ln_Lw_73 hm (by decide) rfl (d_Mo_forget hV1 hm hj1.2.2.2.2.1) rfl rfl (Nat.le_of_ble_eq_true rfl) ⟨rfl, rfl⟩ ⟨rfl, rfl⟩ hro (fun z2 I2 J2 hV2 hF2 hR2 h62 p2 => ?_)
  have hA := hj.leave hV1 hV2 hF1 hF2
  refine g_pop C dLw_616 rfl ?_
  refine g_goto 1126 C dLw_617 (by decide) ?_
  exact g_widen (by omega) (by omega) (kk _ _ _ _ _ ⟨hj1.ref hV2 (FQ.mL_2 hF2) hR2 h62, hj.2.1, hA⟩)
theorem lwc_12 {X : CTX} {P : List Nat} {K : Nat → Nat} {I : WI} {O : WO} {J : WJ} {nc ns b x mo out Ln : Nat} {i : Int32} {xs : Nat → Int32} (C : Cx X bLw 7 "RoarMillLaw" room_1) (hLX : LX X) (hs : SCR X b Ln xs) (hL : Ln ≤ 3584) (hi : 0 ≤ i.toInt ∧ i.toInt + 7 ≤ (Ln : Int)) (hj : L4 P K I O x mo out) (hn : nc + 8 ≤ 601024 ∧ ns + 76 ≤ 7293034) (kk : KK X b x mo out i (nc + 8) (ns + 76)) : GG X 7 P K I O J nc ns 620 (LL b x mo out i) [] := by
  have hx := hj.1.2.1
  have hm := hj.1.2.2.1
  have hro : nc ≤ 601024 ∧ ns ≤ 7293034 := by omega
  refine g_aload_n C dLw_620 rfl ?_
  refine lx_callC (av := []) (rest := []) C dLw_621 mfRM_fits mvRM_fits ln_Lw_74 hx (by decide) rfl (d_RM_fits hj.1.1 hx) rfl rfl (Nat.le_of_ble_eq_true rfl) ⟨rfl, rfl⟩ ⟨rfl, rfl⟩ hro (fun z1 I1 J1 hV1 hF1 p1 => ?_)
  have hj1 := hj.1.cls hV1 (FQ.fr hF1) rfl rfl rfl rfl rfl rfl
  refine g_pop C dLw_624 rfl ?_
  refine g_aload_n C dLw_625 rfl ?_
  refine lx_callM (av := []) (rest := []) C dLw_626 mfMo_fits mvMo_fits ln_Lw_77 hm (by decide) rfl (d_Mo_fits hV1 hm hj1.2.2.2.2.1) rfl rfl (Nat.le_of_ble_eq_true rfl) ⟨rfl, rfl⟩ ⟨rfl, rfl⟩ hro (fun z2 I2 J2 hV2 hF2 hR2 h62 p2 => ?_)
  have hA := hj.set hV1 hV2 hF1 hF2 p1.2.2 ((Classical.em (O mo 3 = none)).elim (fun w => ((p2.2.2).1 w).1) (fun w => ((p2.2.2).2 w).1))
  refine g_pop C dLw_629 rfl ?_
  refine g_goto 1126 C dLw_630 (by decide) ?_
  exact g_widen (by omega) (by omega) (kk _ _ _ _ _ ⟨hj1.ref hV2 (FQ.mS_2 hF2) hR2 h62, hj.2.1, hA⟩)
theorem lwc_13 {X : CTX} {P : List Nat} {K : Nat → Nat} {I : WI} {O : WO} {J : WJ} {nc ns b x mo out Ln : Nat} {i : Int32} {xs : Nat → Int32} (C : Cx X bLw 7 "RoarMillLaw" room_1) (hLX : LX X) (hs : SCR X b Ln xs) (hL : Ln ≤ 3584) (hi : 0 ≤ i.toInt ∧ i.toInt + 7 ≤ (Ln : Int)) (hj : L4 P K I O x mo out) (hn : nc + 8 ≤ 601024 ∧ ns + 76 ≤ 7293034) (kk : KK X b x mo out i (nc + 8) (ns + 76)) : GG X 7 P K I O J nc ns 633 (LL b x mo out i) [] := by
  have hx := hj.1.2.1
  have hm := hj.1.2.2.1
  have hro : nc ≤ 601024 ∧ ns ≤ 7293034 := by omega
  refine g_aload_n C dLw_633 rfl ?_
  refine g_sarg (k := 1) C hs hL hi (by decide) rfl rfl dLw_634 dLw_635 dLw_637 dLw_638 dLw_639 ?_
  refine g_sarg (k := 2) C hs hL hi (by decide) rfl rfl dLw_640 dLw_641 dLw_643 dLw_644 dLw_645 ?_
  refine lx_callC (av := [.int (sv xs i 1), .int (sv xs i 2)]) (rest := []) C dLw_646 mfRM_fitAt mvRM_fitAt ln_Lw_78 hx (by decide) rfl (d_RM_fitAt hj.1.1 hx) rfl rfl (Nat.le_of_ble_eq_true rfl) ⟨rfl, rfl⟩ ⟨rfl, rfl⟩ hro (fun z1 I1 J1 hV1 hF1 p1 => ?_)
  have hj1 := hj.1.cls hV1 (FQ.fr hF1) rfl rfl rfl rfl rfl rfl
  refine g_pop C dLw_649 rfl ?_
  refine g_aload_n C dLw_650 rfl ?_
  refine g_sarg (k := 1) C hs hL hi (by decide) rfl rfl dLw_651 dLw_652 dLw_654 dLw_655 dLw_656 ?_
  refine g_sarg (k := 2) C hs hL hi (by decide) rfl rfl dLw_657 dLw_658 dLw_660 dLw_661 dLw_662 ?_
  refine lx_callM (av := [.int (sv xs i 1), .int (sv xs i 2)]) (rest := []) C dLw_663 mfMo_fitAt mvMo_fitAt ln_Lw_81 hm (by decide) rfl (d_Mo_fitAt hV1 hm hj1.2.2.2.2.1) rfl rfl (Nat.le_of_ble_eq_true rfl) ⟨rfl, rfl⟩ ⟨rfl, rfl⟩ hro (fun z2 I2 J2 hV2 hF2 hR2 h62 p2 => ?_)
  have hA := hj.set hV1 hV2 hF1 hF2 p1.2.2 ((Classical.em (O mo 3 = none)).elim (fun w => ((p2.2.2).1 w).1) (fun w => ((p2.2.2).2 w).1))
  refine g_pop C dLw_666 rfl ?_
  refine g_goto 1126 C dLw_667 (by decide) ?_
  exact g_widen (by omega) (by omega) (kk _ _ _ _ _ ⟨hj1.ref hV2 (FQ.mS_2 hF2) hR2 h62, hj.2.1, hA⟩)
theorem lwc_14 {X : CTX} {P : List Nat} {K : Nat → Nat} {I : WI} {O : WO} {J : WJ} {nc ns b x mo out Ln : Nat} {i : Int32} {xs : Nat → Int32} (C : Cx X bLw 7 "RoarMillLaw" room_1) (hLX : LX X) (hs : SCR X b Ln xs) (hL : Ln ≤ 3584) (hi : 0 ≤ i.toInt ∧ i.toInt + 7 ≤ (Ln : Int)) (hj : L4 P K I O x mo out) (hn : nc + 8 ≤ 601024 ∧ ns + 76 ≤ 7293034) (kk : KK X b x mo out i (nc + 8) (ns + 76)) : GG X 7 P K I O J nc ns 670 (LL b x mo out i) [] := by
  have hx := hj.1.2.1
  have hm := hj.1.2.2.1
  have hro : nc ≤ 601024 ∧ ns ≤ 7293034 := by omega
  refine g_aload_n C dLw_670 rfl ?_
  refine g_sarg (k := 1) C hs hL hi (by decide) rfl rfl dLw_671 dLw_672 dLw_674 dLw_675 dLw_676 ?_
  refine lx_callC (av := [.int (sv xs i 1)]) (rest := []) C dLw_677 mfRM_certain mvRM_certain ln_Lw_82 hx (by decide) rfl (d_RM_certain hj.1.1 hx) rfl rfl (Nat.le_of_ble_eq_true rfl) ⟨rfl, rfl⟩ ⟨rfl, rfl⟩ hro (fun z1 I1 J1 hV1 hF1 p1 => ?_)
  have hj1 := hj.1.cls hV1 (FQ.fr hF1) rfl rfl rfl rfl rfl rfl
  refine g_pop C dLw_680 rfl ?_
  refine g_aload_n C dLw_681 rfl ?_
  refine g_sarg (k := 1) C hs hL hi (by decide) rfl rfl dLw_682 dLw_683 dLw_685 dLw_686 dLw_687 ?_
  refine lx_callM (av := [.int (sv xs i 1)]) (rest := []) C dLw_688 mfMo_certain mvMo_certain ln_Lw_85 hm (by decide) rfl (d_Mo_certain hV1 hm hj1.2.2.2.2.1) rfl rfl (Nat.le_of_ble_eq_true rfl) ⟨rfl, rfl⟩ ⟨rfl, rfl⟩ hro (fun z2 I2 J2 hV2 hF2 hR2 h62 p2 => ?_)
  have hA := hj.set hV1 hV2 hF1 hF2 p1.2.2 ((Classical.em (O mo 3 = none)).elim (fun w => ((p2.2.2).1 w).1) (fun w => ((p2.2.2).2 w).1))
  refine g_pop C dLw_691 rfl ?_
  refine g_goto 1126 C dLw_692 (by decide) ?_
  exact g_widen (by omega) (by omega) (kk _ _ _ _ _ ⟨hj1.ref hV2 (FQ.mS_2 hF2) hR2 h62, hj.2.1, hA⟩)
theorem lwc_15 {X : CTX} {P : List Nat} {K : Nat → Nat} {I : WI} {O : WO} {J : WJ} {nc ns b x mo out Ln : Nat} {i : Int32} {xs : Nat → Int32} (C : Cx X bLw 7 "RoarMillLaw" room_1) (hLX : LX X) (hs : SCR X b Ln xs) (hL : Ln ≤ 3584) (hi : 0 ≤ i.toInt ∧ i.toInt + 7 ≤ (Ln : Int)) (hj : L4 P K I O x mo out) (hn : nc + 8 ≤ 601024 ∧ ns + 76 ≤ 7293034) (kk : KK X b x mo out i (nc + 8) (ns + 76)) : GG X 7 P K I O J nc ns 695 (LL b x mo out i) [] := by
  have hx := hj.1.2.1
  have hm := hj.1.2.2.1
  have hro : nc ≤ 601024 ∧ ns ≤ 7293034 := by omega
  refine g_aload_n C dLw_695 rfl ?_
  refine g_sarg (k := 1) C hs hL hi (by decide) rfl rfl dLw_696 dLw_697 dLw_699 dLw_700 dLw_701 ?_
  refine g_sarg (k := 2) C hs hL hi (by decide) rfl rfl dLw_702 dLw_703 dLw_705 dLw_706 dLw_707 ?_
  refine g_sarg (k := 3) C hs hL hi (by decide) rfl rfl dLw_708 dLw_709 dLw_711 dLw_712 dLw_713 ?_
  refine g_sarg (k := 4) C hs hL hi (by decide) rfl rfl dLw_714 dLw_715 dLw_717 dLw_718 dLw_719 ?_
  refine g_sarg (k := 5) C hs hL hi (by decide) rfl rfl dLw_720 dLw_721 dLw_723 dLw_724 dLw_725 ?_
  refine lx_callC (av := [.int (sv xs i 1), .int (sv xs i 2), .int (sv xs i 3), .int (sv xs i 4), .int (sv xs i 5)]) (rest := []) C dLw_726 mfRM_guess mvRM_guess ln_Lw_86 hx (by decide) rfl (d_RM_guess hj.1.1 hx) rfl rfl (Nat.le_of_ble_eq_true rfl) ⟨rfl, rfl⟩ ⟨rfl, rfl⟩ hro (fun z1 I1 J1 hV1 hF1 p1 => ?_)
  have hj1 := hj.1.cls hV1 (FQ.fr hF1) rfl rfl rfl rfl rfl rfl
  refine g_pop C dLw_729 rfl ?_
  refine g_aload_n C dLw_730 rfl ?_
  refine g_sarg (k := 1) C hs hL hi (by decide) rfl rfl dLw_731 dLw_732 dLw_734 dLw_735 dLw_736 ?_
  refine g_sarg (k := 2) C hs hL hi (by decide) rfl rfl dLw_737 dLw_738 dLw_740 dLw_741 dLw_742 ?_
  refine g_sarg (k := 3) C hs hL hi (by decide) rfl rfl dLw_743 dLw_744 dLw_746 dLw_747 dLw_748 ?_
  refine g_sarg (k := 4) C hs hL hi (by decide) rfl rfl dLw_749 dLw_750 dLw_752 dLw_753 dLw_754 ?_
  refine g_sarg (k := 5) C hs hL hi (by decide) rfl rfl dLw_755 dLw_756 dLw_758 dLw_759 dLw_760 ?_
  refine lx_callM (av := [.int (sv xs i 1), .int (sv xs i 2), .int (sv xs i 3), .int (sv xs i 4), .int (sv xs i 5)]) (rest := []) C dLw_761 mfMo_guess mvMo_guess ln_Lw_89 hm (by decide) rfl (d_Mo_guess hV1 hm hj1.2.2.2.2.1) rfl rfl (Nat.le_of_ble_eq_true rfl) ⟨rfl, rfl⟩ ⟨rfl, rfl⟩ hro (fun z2 I2 J2 hV2 hF2 hR2 h62 p2 => ?_)
  have hA := hj.set hV1 hV2 hF1 hF2 p1.2.2 ((Classical.em (O mo 3 = none)).elim (fun w => ((p2.2.2).1 w).1) (fun w => ((p2.2.2).2 w).1))
  refine g_pop C dLw_764 rfl ?_
  refine g_goto 1126 C dLw_765 (by decide) ?_
  exact g_widen (by omega) (by omega) (kk _ _ _ _ _ ⟨hj1.ref hV2 (FQ.mS_2 hF2) hR2 h62, hj.2.1, hA⟩)
theorem lwc_16 {X : CTX} {P : List Nat} {K : Nat → Nat} {I : WI} {O : WO} {J : WJ} {nc ns b x mo out Ln : Nat} {i : Int32} {xs : Nat → Int32} (C : Cx X bLw 7 "RoarMillLaw" room_1) (hLX : LX X) (hs : SCR X b Ln xs) (hL : Ln ≤ 3584) (hi : 0 ≤ i.toInt ∧ i.toInt + 7 ≤ (Ln : Int)) (hj : L4 P K I O x mo out) (hn : nc + 8 ≤ 601024 ∧ ns + 76 ≤ 7293034) (kk : KK X b x mo out i (nc + 8) (ns + 76)) : GG X 7 P K I O J nc ns 768 (LL b x mo out i) [] := by
  have hx := hj.1.2.1
  have hm := hj.1.2.2.1
  have hro : nc ≤ 601024 ∧ ns ≤ 7293034 := by omega
  refine g_aload_n C dLw_768 rfl ?_
  refine lx_callC (av := []) (rest := []) C dLw_769 mfRM_swapped mvRM_swapped ln_Lw_90 hx (by decide) rfl (d_RM_swapped hj.1.1 hx) rfl rfl (Nat.le_of_ble_eq_true rfl) ⟨rfl, rfl⟩ ⟨rfl, rfl⟩ hro (fun z1 I1 J1 hV1 hF1 p1 => ?_)
  have hj1 := hj.1.cls hV1 (FQ.fr hF1) rfl rfl rfl rfl rfl rfl
  refine g_pop C dLw_772 rfl ?_
  refine g_aload_n C dLw_773 rfl ?_
  refine lx_callM (av := []) (rest := []) C dLw_774 mfMo_swapped mvMo_swapped ln_Lw_93 hm (by decide) rfl (d_Mo_swapped hV1 hm hj1.2.2.2.2.1) rfl rfl (Nat.le_of_ble_eq_true rfl) ⟨rfl, rfl⟩ ⟨rfl, rfl⟩ hro (fun z2 I2 J2 hV2 hF2 hR2 h62 p2 => ?_)
  have hA := hj.set hV1 hV2 hF1 hF2 p1.2.2 ((Classical.em (O mo 3 = none)).elim (fun w => ((p2.2.2).1 w).1) (fun w => ((p2.2.2).2 w).1))
  refine g_pop C dLw_777 rfl ?_
  refine g_goto 1126 C dLw_778 (by decide) ?_
  exact g_widen (by omega) (by omega) (kk _ _ _ _ _ ⟨hj1.ref hV2 (FQ.mS_2 hF2) hR2 h62, hj.2.1, hA⟩)
theorem lwc_17 {X : CTX} {P : List Nat} {K : Nat → Nat} {I : WI} {O : WO} {J : WJ} {nc ns b x mo out Ln : Nat} {i : Int32} {xs : Nat → Int32} (C : Cx X bLw 7 "RoarMillLaw" room_1) (hLX : LX X) (hs : SCR X b Ln xs) (hL : Ln ≤ 3584) (hi : 0 ≤ i.toInt ∧ i.toInt + 7 ≤ (Ln : Int)) (hj : L4 P K I O x mo out) (hn : nc + 8 ≤ 601024 ∧ ns + 76 ≤ 7293034) (kk : KK X b x mo out i (nc + 8) (ns + 76)) : GG X 7 P K I O J nc ns 781 (LL b x mo out i) [] := by
  have hx := hj.1.2.1
  have hm := hj.1.2.2.1
  have hro : nc ≤ 601024 ∧ ns ≤ 7293034 := by omega
  refine g_aload_n C dLw_781 rfl ?_
  refine g_sarg (k := 1) C hs hL hi (by decide) rfl rfl dLw_782 dLw_783 dLw_785 dLw_786 dLw_787 ?_
  refine lx_callC (av := [.int (sv xs i 1)]) (rest := []) C dLw_788 mfRM_plan mvRM_plan ln_Lw_94 hx (by decide) rfl (d_RM_plan hj.1.1 hx) rfl rfl (Nat.le_of_ble_eq_true rfl) ⟨rfl, rfl⟩ ⟨rfl, rfl⟩ hro (fun z1 I1 J1 hV1 hF1 p1 => ?_)
  have hj1 := hj.1.cls hV1 (FQ.fr hF1) rfl rfl rfl rfl rfl rfl
  refine g_pop C dLw_791 rfl ?_
  refine g_aload_n C dLw_792 rfl ?_
  refine g_sarg (k := 1) C hs hL hi (by decide) rfl rfl dLw_793 dLw_794 dLw_796 dLw_797 dLw_798 ?_
  refine lx_callM (av := [.int (sv xs i 1)]) (rest := []) C dLw_799 mfMo_plan mvMo_plan ln_Lw_97 hm (by decide) rfl (d_Mo_plan hV1 hm hj1.2.2.2.2.1) rfl rfl (Nat.le_of_ble_eq_true rfl) ⟨rfl, rfl⟩ ⟨rfl, rfl⟩ hro (fun z2 I2 J2 hV2 hF2 hR2 h62 p2 => ?_)
  have hA := hj.set hV1 hV2 hF1 hF2 p1.2.2 ((Classical.em (O mo 3 = none)).elim (fun w => ((p2.2.2).1 w).1) (fun w => ((p2.2.2).2 w).1))
  refine g_pop C dLw_802 rfl ?_
  refine g_goto 1126 C dLw_803 (by decide) ?_
  exact g_widen (by omega) (by omega) (kk _ _ _ _ _ ⟨hj1.ref hV2 (FQ.mS_2 hF2) hR2 h62, hj.2.1, hA⟩)
theorem lwc_18 {X : CTX} {P : List Nat} {K : Nat → Nat} {I : WI} {O : WO} {J : WJ} {nc ns b x mo out Ln : Nat} {i : Int32} {xs : Nat → Int32} (C : Cx X bLw 7 "RoarMillLaw" room_1) (hLX : LX X) (hs : SCR X b Ln xs) (hL : Ln ≤ 3584) (hi : 0 ≤ i.toInt ∧ i.toInt + 7 ≤ (Ln : Int)) (hj : L4 P K I O x mo out) (hn : nc + 8 ≤ 601024 ∧ ns + 76 ≤ 7293034) (kk : KK X b x mo out i (nc + 8) (ns + 76)) : GG X 7 P K I O J nc ns 806 (LL b x mo out i) [] := by
  have hx := hj.1.2.1
  have hm := hj.1.2.2.1
  have hro : nc ≤ 601024 ∧ ns ≤ 7293034 := by omega
  refine g_aload_n C dLw_806 rfl ?_
  refine g_sarg (k := 1) C hs hL hi (by decide) rfl rfl dLw_807 dLw_808 dLw_810 dLw_811 dLw_812 ?_
  refine lx_callC (av := [.int (sv xs i 1)]) (rest := []) C dLw_813 mfRM_rate mvRM_rate ln_Lw_98 hx (by decide) rfl (d_RM_rate hj.1.1 hx) rfl rfl (Nat.le_of_ble_eq_true rfl) ⟨rfl, rfl⟩ ⟨rfl, rfl⟩ hro (fun z1 I1 J1 hV1 hF1 p1 => ?_)
  have hj1 := hj.1.cls hV1 (FQ.fr hF1) rfl rfl rfl rfl rfl rfl
  refine g_pop C dLw_816 rfl ?_
  refine g_aload_n C dLw_817 rfl ?_
  refine g_sarg (k := 1) C hs hL hi (by decide) rfl rfl dLw_818 dLw_819 dLw_821 dLw_822 dLw_823 ?_
  refine lx_callM (av := [.int (sv xs i 1)]) (rest := []) C dLw_824 mfMo_rate mvMo_rate ln_Lw_101 hm (by decide) rfl (d_Mo_rate hV1 hm hj1.2.2.2.2.1) rfl rfl (Nat.le_of_ble_eq_true rfl) ⟨rfl, rfl⟩ ⟨rfl, rfl⟩ hro (fun z2 I2 J2 hV2 hF2 hR2 h62 p2 => ?_)
  have hA := hj.leave hV1 hV2 hF1 hF2
  refine g_pop C dLw_827 rfl ?_
  refine g_goto 1126 C dLw_828 (by decide) ?_
  exact g_widen (by omega) (by omega) (kk _ _ _ _ _ ⟨hj1.ref hV2 (FQ.mL_2 hF2) hR2 h62, hj.2.1, hA⟩)
theorem lwc_19 {X : CTX} {P : List Nat} {K : Nat → Nat} {I : WI} {O : WO} {J : WJ} {nc ns b x mo out Ln : Nat} {i : Int32} {xs : Nat → Int32} (C : Cx X bLw 7 "RoarMillLaw" room_1) (hLX : LX X) (hs : SCR X b Ln xs) (hL : Ln ≤ 3584) (hi : 0 ≤ i.toInt ∧ i.toInt + 7 ≤ (Ln : Int)) (hj : L4 P K I O x mo out) (hn : nc + 8 ≤ 601024 ∧ ns + 76 ≤ 7293034) (kk : KK X b x mo out i (nc + 8) (ns + 76)) : GG X 7 P K I O J nc ns 831 (LL b x mo out i) [] := by
  have hx := hj.1.2.1
  have hm := hj.1.2.2.1
  have hro : nc ≤ 601024 ∧ ns ≤ 7293034 := by omega
  refine g_aload_n C dLw_831 rfl ?_
  refine g_sarg (k := 1) C hs hL hi (by decide) rfl rfl dLw_832 dLw_833 dLw_835 dLw_836 dLw_837 ?_
  refine lx_callC (av := [.int (sv xs i 1)]) (rest := []) C dLw_838 mfRM_rule mvRM_rule ln_Lw_102 hx (by decide) rfl (d_RM_rule hj.1.1 hx) rfl rfl (Nat.le_of_ble_eq_true rfl) ⟨rfl, rfl⟩ ⟨rfl, rfl⟩ hro (fun z1 I1 J1 hV1 hF1 p1 => ?_)
  have hj1 := hj.1.cls hV1 (FQ.fr hF1) rfl rfl rfl rfl rfl rfl
  refine g_pop C dLw_841 rfl ?_
  refine g_aload_n C dLw_842 rfl ?_
  refine g_sarg (k := 1) C hs hL hi (by decide) rfl rfl dLw_843 dLw_844 dLw_846 dLw_847 dLw_848 ?_
  refine lx_callM (av := [.int (sv xs i 1)]) (rest := []) C dLw_849 mfMo_rule mvMo_rule ln_Lw_105 hm (by decide) rfl (d_Mo_rule hV1 hm hj1.2.2.2.2.1) rfl rfl (Nat.le_of_ble_eq_true rfl) ⟨rfl, rfl⟩ ⟨rfl, rfl⟩ hro (fun z2 I2 J2 hV2 hF2 hR2 h62 p2 => ?_)
  have hA := hj.set hV1 hV2 hF1 hF2 p1.2.2 ((Classical.em (O mo 3 = none)).elim (fun w => ((p2.2.2).1 w).1) (fun w => ((p2.2.2).2 w).1))
  refine g_pop C dLw_852 rfl ?_
  refine g_goto 1126 C dLw_853 (by decide) ?_
  exact g_widen (by omega) (by omega) (kk _ _ _ _ _ ⟨hj1.ref hV2 (FQ.mS_2 hF2) hR2 h62, hj.2.1, hA⟩)
theorem lwc_20 {X : CTX} {P : List Nat} {K : Nat → Nat} {I : WI} {O : WO} {J : WJ} {nc ns b x mo out Ln : Nat} {i : Int32} {xs : Nat → Int32} (C : Cx X bLw 7 "RoarMillLaw" room_1) (hLX : LX X) (hs : SCR X b Ln xs) (hL : Ln ≤ 3584) (hi : 0 ≤ i.toInt ∧ i.toInt + 7 ≤ (Ln : Int)) (hj : L4 P K I O x mo out) (hn : nc + 8 ≤ 601024 ∧ ns + 76 ≤ 7293034) (kk : KK X b x mo out i (nc + 8) (ns + 76)) : GG X 7 P K I O J nc ns 856 (LL b x mo out i) [] := by
  have hx := hj.1.2.1
  have hm := hj.1.2.2.1
  have hro : nc ≤ 601024 ∧ ns ≤ 7293034 := by omega
  refine g_aload_n C dLw_856 rfl ?_
  refine g_sarg (k := 1) C hs hL hi (by decide) rfl rfl dLw_857 dLw_858 dLw_860 dLw_861 dLw_862 ?_
  refine lx_callC (av := [.int (sv xs i 1)]) (rest := []) C dLw_863 mfRM_lacks mvRM_lacks ln_Lw_106 hx (by decide) rfl (d_RM_lacks hj.1.1 hx) rfl rfl (Nat.le_of_ble_eq_true rfl) ⟨rfl, rfl⟩ ⟨rfl, rfl⟩ hro (fun z1 I1 J1 hV1 hF1 p1 => ?_)
  have hj1 := hj.1.cls hV1 (FQ.fr hF1) rfl rfl rfl rfl rfl rfl
  refine g_pop C dLw_866 rfl ?_
  refine g_aload_n C dLw_867 rfl ?_
  refine g_sarg (k := 1) C hs hL hi (by decide) rfl rfl dLw_868 dLw_869 dLw_871 dLw_872 dLw_873 ?_
  refine lx_callM (av := [.int (sv xs i 1)]) (rest := []) C dLw_874 mfMo_lacks mvMo_lacks ln_Lw_109 hm (by decide) rfl (d_Mo_lacks hV1 hm hj1.2.2.2.2.1) rfl rfl (Nat.le_of_ble_eq_true rfl) ⟨rfl, rfl⟩ ⟨rfl, rfl⟩ hro (fun z2 I2 J2 hV2 hF2 hR2 h62 p2 => ?_)
  have hA := hj.set hV1 hV2 hF1 hF2 p1.2.2 ((Classical.em (O mo 3 = none)).elim (fun w => ((p2.2.2).1 w).1) (fun w => ((p2.2.2).2 w).1))
  refine g_pop C dLw_877 rfl ?_
  refine g_goto 1126 C dLw_878 (by decide) ?_
  exact g_widen (by omega) (by omega) (kk _ _ _ _ _ ⟨hj1.ref hV2 (FQ.mS_2 hF2) hR2 h62, hj.2.1, hA⟩)
theorem lwc_21 {X : CTX} {P : List Nat} {K : Nat → Nat} {I : WI} {O : WO} {J : WJ} {nc ns b x mo out Ln : Nat} {i : Int32} {xs : Nat → Int32} (C : Cx X bLw 7 "RoarMillLaw" room_1) (hLX : LX X) (hs : SCR X b Ln xs) (hL : Ln ≤ 3584) (hi : 0 ≤ i.toInt ∧ i.toInt + 7 ≤ (Ln : Int)) (hj : L4 P K I O x mo out) (hn : nc + 8 ≤ 601024 ∧ ns + 76 ≤ 7293034) (kk : KK X b x mo out i (nc + 8) (ns + 76)) : GG X 7 P K I O J nc ns 881 (LL b x mo out i) [] := by
  have hx := hj.1.2.1
  have hm := hj.1.2.2.1
  have hro : nc ≤ 601024 ∧ ns ≤ 7293034 := by omega
  refine g_aload_n C dLw_881 rfl ?_
  refine g_sarg (k := 1) C hs hL hi (by decide) rfl rfl dLw_882 dLw_883 dLw_885 dLw_886 dLw_887 ?_
  refine g_nz 888 C dLw_888 dLw_891 dLw_892 dLw_895 (fun v1 hv1 => ?_)
  refine g_sarg (k := 2) C hs hL hi (by decide) rfl rfl dLw_896 dLw_897 dLw_899 dLw_900 dLw_901 ?_
  refine lx_callC (av := [.int v1, .int (sv xs i 2)]) (rest := []) C dLw_902 mfRM_number mvRM_number ln_Lw_110 hx (by decide) rfl (d_RM_number hj.1.1 hx) rfl rfl (Nat.le_of_ble_eq_true rfl) ⟨rfl, rfl⟩ ⟨rfl, rfl⟩ hro (fun z1 I1 J1 hV1 hF1 p1 => ?_)
  have hj1 := hj.1.cls hV1 (FQ.fr hF1) rfl rfl rfl rfl rfl rfl
  refine g_pop C dLw_905 rfl ?_
  refine g_aload_n C dLw_906 rfl ?_
  refine g_sarg (k := 1) C hs hL hi (by decide) rfl rfl dLw_907 dLw_908 dLw_910 dLw_911 dLw_912 ?_
  refine g_nz 913 C dLw_913 dLw_916 dLw_917 dLw_920 (fun v2 hv2 => ?_)
  refine g_sarg (k := 2) C hs hL hi (by decide) rfl rfl dLw_921 dLw_922 dLw_924 dLw_925 dLw_926 ?_
  refine lx_callM (av := [.int v2, .int (sv xs i 2)]) (rest := []) C dLw_927 mfMo_number mvMo_number ln_Lw_114 hm (by decide) rfl (d_Mo_number hV1 hm hj1.2.2.2.2.1) rfl rfl (Nat.le_of_ble_eq_true rfl) ⟨rfl, rfl⟩ ⟨rfl, rfl⟩ hro (fun z2 I2 J2 hV2 hF2 hR2 h62 p2 => ?_)
  replace p1 := p1.2.2
  replace p2 := p2.2.2
  obtain ⟨f13, f2, r0, r1, fM⟩ := hj.moe hF1
  obtain ⟨a1, a2, a3, a4, a5⟩ := hj.2.2
  have hvv : v1.toInt = v2.toInt := by omega
  have t33 := rf_ok hV1.1 hm (show sp 10 33 = some 39 from rfl)
  have u0 := hV1.2 _ t33.1 0
  have u1 := hV1.2 _ t33.1 1
  rw [t33.2] at u0 u1
  replace u0 : 0 ≤ (I1 (rf O mo 33) 0).toInt ∧ (I1 (rf O mo 33) 0).toInt ≤ 8 := u0
  replace u1 : 0 ≤ (I1 (rf O mo 33) 1).toInt ∧ (I1 (rf O mo 33) 1).toInt ≤ 8 := u1
  have hN : z1.toInt = z2.toInt ∧ (I1 (rf O x 9) 3).toInt = (I2 (rf O mo 33) 0).toInt ∧ (I1 (rf O x 9) 4).toInt = (I2 (rf O mo 33) 1).toInt ∧ (I2 mo 2).toInt = -1 := by
    clear a1 a2 hv1 hv2 f13 f2
    rcases Classical.em (O mo 3 = none) with w | w
    · obtain ⟨q0, ⟨q1, q2, q3⟩, -⟩ := p2.1 w
      rcases a3 with ⟨_, b7, b8⟩ | ⟨b7, _⟩
      · rcases p1.2 with ⟨c0, _⟩ | ⟨_, c1, c2, c3⟩
        · exact absurd b7 c0
        · refine ⟨?_, ?_, ?_, ?_⟩ <;> omega
      · exact absurd w b7
    · obtain ⟨q0, qq, -⟩ := p2.2 w
      have fq := fM w
      rcases a3 with ⟨b7, _⟩ | ⟨_, b7, b8, b9⟩
      · exact absurd b7 w
      · have pp := p1.2
        clear p1 p2 fM
        rcases pp with ⟨c0, c1, c2, c3, c4⟩ | ⟨c0, c1, c2, c3⟩
        · rcases qq with ⟨d1, d2, d3, d4⟩ | ⟨d0, d1, d2, d3⟩
          · rcases c4 with ⟨e1, e2, e3, e4⟩ | ⟨e1, e2, e3, e4⟩ <;> rcases d4 with ⟨g1, g2, g3, g4⟩ | ⟨g1, g2, g3, g4⟩
            · refine ⟨?_, ?_, ?_, ?_⟩ <;> omega
            · exact absurd e1 (by rw [hvv]; exact g1)
            · exact absurd g1 (by rw [← hvv]; exact e1)
            · refine ⟨?_, ?_, ?_, ?_⟩ <;> omega
          · exfalso; clear c4; omega
        · rcases qq with ⟨d1, d2, d3, d4⟩ | ⟨d0, d1, d2, d3⟩
          · exfalso; clear d4; omega
          · refine ⟨?_, ?_, ?_, ?_⟩ <;> omega
  have hA := hj.step hF1 hF2 (Or.inr ⟨p1.1, hN.2.2.2⟩) hN.2.1 hN.2.2.1
  refine g_pop C dLw_930 rfl ?_
  refine g_goto 1126 C dLw_931 (by decide) ?_
  exact g_widen (by omega) (by omega) (kk _ _ _ _ _ ⟨hj1.ref hV2 (FQ.mN_2 hF2) hR2 h62, hj.2.1, hA⟩)
theorem lwc_22 {X : CTX} {P : List Nat} {K : Nat → Nat} {I : WI} {O : WO} {J : WJ} {nc ns b x mo out Ln : Nat} {i : Int32} {xs : Nat → Int32} (C : Cx X bLw 7 "RoarMillLaw" room_1) (hLX : LX X) (hs : SCR X b Ln xs) (hL : Ln ≤ 3584) (hi : 0 ≤ i.toInt ∧ i.toInt + 7 ≤ (Ln : Int)) (hj : L4 P K I O x mo out) (hn : nc + 8 ≤ 601024 ∧ ns + 76 ≤ 7293034) (kk : KK X b x mo out i (nc + 8) (ns + 76)) : GG X 7 P K I O J nc ns 934 (LL b x mo out i) [] := by
  have hx := hj.1.2.1
  have hm := hj.1.2.2.1
  have hro : nc ≤ 601024 ∧ ns ≤ 7293034 := by omega
  refine g_aload_n C dLw_934 rfl ?_
  refine lx_callC (av := []) (rest := []) C dLw_935 mfRM_chance mvRM_chance ln_Lw_115 hx (by decide) rfl (d_RM_chance hj.1.1 hx) rfl rfl (Nat.le_of_ble_eq_true rfl) ⟨rfl, rfl⟩ ⟨rfl, rfl⟩ hro (fun z1 I1 J1 hV1 hF1 p1 => ?_)
  have hj1 := hj.1.cls hV1 (FQ.fr hF1) rfl rfl rfl rfl rfl rfl
  refine g_pop C dLw_938 rfl ?_
  refine g_aload_n C dLw_939 rfl ?_
  refine lx_callM (av := []) (rest := []) C dLw_940 mfMo_chance mvMo_chance ln_Lw_118 hm (by decide) rfl (d_Mo_chance hV1 hm hj1.2.2.2.2.1) rfl rfl (Nat.le_of_ble_eq_true rfl) ⟨rfl, rfl⟩ ⟨rfl, rfl⟩ hro (fun z2 I2 J2 hV2 hF2 hR2 h62 p2 => ?_)
  have hA := hj.set hV1 hV2 hF1 hF2 p1.2.2 (p2.2.2).1
  refine g_pop C dLw_943 rfl ?_
  refine g_goto 1126 C dLw_944 (by decide) ?_
  exact g_widen (by omega) (by omega) (kk _ _ _ _ _ ⟨hj1.ref hV2 (FQ.mS_2 hF2) hR2 h62, hj.2.1, hA⟩)
theorem lwc_23 {X : CTX} {P : List Nat} {K : Nat → Nat} {I : WI} {O : WO} {J : WJ} {nc ns b x mo out Ln : Nat} {i : Int32} {xs : Nat → Int32} (C : Cx X bLw 7 "RoarMillLaw" room_1) (hLX : LX X) (hs : SCR X b Ln xs) (hL : Ln ≤ 3584) (hi : 0 ≤ i.toInt ∧ i.toInt + 7 ≤ (Ln : Int)) (hj : L4 P K I O x mo out) (hn : nc + 8 ≤ 601024 ∧ ns + 76 ≤ 7293034) (kk : KK X b x mo out i (nc + 8) (ns + 76)) : GG X 7 P K I O J nc ns 947 (LL b x mo out i) [] := by
  have hx := hj.1.2.1
  have hm := hj.1.2.2.1
  have hro : nc ≤ 601024 ∧ ns ≤ 7293034 := by omega
  refine g_aload_n C dLw_947 rfl ?_
  refine lx_callC (av := []) (rest := []) C dLw_948 mfRM_splits mvRM_splits ln_Lw_119 hx (by decide) rfl (d_RM_splits hj.1.1 hx) rfl rfl (Nat.le_of_ble_eq_true rfl) ⟨rfl, rfl⟩ ⟨rfl, rfl⟩ hro (fun z1 I1 J1 hV1 hF1 p1 => ?_)
  have hj1 := hj.1.cls hV1 (FQ.fr hF1) rfl rfl rfl rfl rfl rfl
  refine g_pop C dLw_951 rfl ?_
  refine g_aload_n C dLw_952 rfl ?_
  refine lx_callM (av := []) (rest := []) C dLw_953 mfMo_splits mvMo_splits ln_Lw_122 hm (by decide) rfl (d_Mo_splits hV1 hm hj1.2.2.2.2.1) rfl rfl (Nat.le_of_ble_eq_true rfl) ⟨rfl, rfl⟩ ⟨rfl, rfl⟩ hro (fun z2 I2 J2 hV2 hF2 hR2 h62 p2 => ?_)
  have hA := hj.set hV1 hV2 hF1 hF2 p1.2.2 (p2.2.2).1
  refine g_pop C dLw_956 rfl ?_
  refine g_goto 1126 C dLw_957 (by decide) ?_
  exact g_widen (by omega) (by omega) (kk _ _ _ _ _ ⟨hj1.ref hV2 (FQ.mS_2 hF2) hR2 h62, hj.2.1, hA⟩)
theorem lwc_24 {X : CTX} {P : List Nat} {K : Nat → Nat} {I : WI} {O : WO} {J : WJ} {nc ns b x mo out Ln : Nat} {i : Int32} {xs : Nat → Int32} (C : Cx X bLw 7 "RoarMillLaw" room_1) (hLX : LX X) (hs : SCR X b Ln xs) (hL : Ln ≤ 3584) (hi : 0 ≤ i.toInt ∧ i.toInt + 7 ≤ (Ln : Int)) (hj : L4 P K I O x mo out) (hn : nc + 8 ≤ 601024 ∧ ns + 76 ≤ 7293034) (kk : KK X b x mo out i (nc + 8) (ns + 76)) : GG X 7 P K I O J nc ns 960 (LL b x mo out i) [] := by
  have hx := hj.1.2.1
  have hm := hj.1.2.2.1
  have hro : nc ≤ 601024 ∧ ns ≤ 7293034 := by omega
  refine g_aload_n C dLw_960 rfl ?_
  refine lx_callC (av := []) (rest := []) C dLw_961 mfRM_clear mvRM_clear ln_Lw_123 hx (by decide) rfl (d_RM_clear hj.1.1 hx) rfl rfl (Nat.le_of_ble_eq_true rfl) ⟨rfl, rfl⟩ ⟨rfl, rfl⟩ hro (fun z1 I1 J1 hV1 hF1 p1 => ?_)
  have hj1 := hj.1.cls hV1 (FQ.fr hF1) rfl rfl rfl rfl rfl rfl
  refine g_aload_n C dLw_964 rfl ?_
  refine lx_callM (av := []) (rest := [.int z1]) C dLw_965 mfMo_clear mvMo_clear ln_Lw_126 hm (by decide) rfl (d_Mo_clear hV1 hm hj1.2.2.2.2.1) rfl rfl (Nat.le_of_ble_eq_true rfl) ⟨rfl, rfl⟩ ⟨rfl, rfl⟩ hro (fun z2 I2 J2 hV2 hF2 hR2 h62 p2 => ?_)
  replace p1 := p1.2.2
  replace p2 := p2.2.2
  obtain ⟨f13, f2, r0, r1, fM⟩ := hj.moe (FQ.kT_N hF1)
  obtain ⟨a1, a2, a3, a4, a5⟩ := hj.2.2
  have hz : z1.toInt = z2.toInt := by omega
  have hA := hj.step (FQ.kT_N hF1) (FQ.mC_N hF2) (hj.kept (hF1 x 14 (by rw [hx.2]; rfl)).1 ((hF2 mo 2 (by rw [hm.2]; rfl)).1.trans (hF1 mo 2 (by rw [hm.2]; rfl)).1)) (by omega) (by omega)
  refine gt_icmp_eq 1126 C dLw_968 (by decide) rfl rfl (fun _ => ?_) (fun c => absurd hz c)
  exact g_widen (by omega) (by omega) (kk _ _ _ _ _ ⟨hj1.ref hV2 (FQ.mC_2 hF2) hR2 h62, hj.2.1, hA⟩)
theorem lwc_25 {X : CTX} {P : List Nat} {K : Nat → Nat} {I : WI} {O : WO} {J : WJ} {nc ns b x mo out Ln : Nat} {i : Int32} {xs : Nat → Int32} (C : Cx X bLw 7 "RoarMillLaw" room_1) (hLX : LX X) (hs : SCR X b Ln xs) (hL : Ln ≤ 3584) (hi : 0 ≤ i.toInt ∧ i.toInt + 7 ≤ (Ln : Int)) (hj : L4 P K I O x mo out) (hn : nc + 8 ≤ 601024 ∧ ns + 76 ≤ 7293034) (kk : KK X b x mo out i (nc + 8) (ns + 76)) : GG X 7 P K I O J nc ns 973 (LL b x mo out i) [] := by
  have hx := hj.1.2.1
  have hm := hj.1.2.2.1
  have hro : nc ≤ 601024 ∧ ns ≤ 7293034 := by omega
  refine g_aload_n C dLw_973 rfl ?_
  refine g_sarg (k := 1) C hs hL hi (by decide) rfl rfl dLw_974 dLw_975 dLw_977 dLw_978 dLw_979 ?_
  refine g_sarg (k := 2) C hs hL hi (by decide) rfl rfl dLw_980 dLw_981 dLw_983 dLw_984 dLw_985 ?_
  refine g_sarg (k := 3) C hs hL hi (by decide) rfl rfl dLw_986 dLw_987 dLw_989 dLw_990 dLw_991 ?_
  refine g_sarg (k := 4) C hs hL hi (by decide) rfl rfl dLw_992 dLw_993 dLw_995 dLw_996 dLw_997 ?_
  refine g_sarg (k := 5) C hs hL hi (by decide) rfl rfl dLw_998 dLw_999 dLw_1001 dLw_1002 dLw_1003 ?_
  refine g_sarg6 C hs hL hi rfl rfl dLw_1004 dLw_1005 dLw_1007 dLw_1009 dLw_1010 ?_
  refine lx_callC (av := [.int (sv xs i 1), .int (sv xs i 2), .int (sv xs i 3), .int (sv xs i 4), .int (sv xs i 5), .int (sv xs i 6)]) (rest := []) C dLw_1011 mfRM_marks mvRM_marks ln_Lw_127 hx (by decide) rfl (d_RM_marks hj.1.1 hx) rfl rfl (Nat.le_of_ble_eq_true rfl) ⟨rfl, rfl⟩ ⟨rfl, rfl⟩ hro (fun z1 I1 J1 hV1 hF1 p1 => ?_)
  have hj1 := hj.1.cls hV1 (FQ.fr hF1) rfl rfl rfl rfl rfl rfl
  refine g_pop C dLw_1014 rfl ?_
  refine g_aload_n C dLw_1015 rfl ?_
  refine g_sarg (k := 1) C hs hL hi (by decide) rfl rfl dLw_1016 dLw_1017 dLw_1019 dLw_1020 dLw_1021 ?_
  refine g_sarg (k := 2) C hs hL hi (by decide) rfl rfl dLw_1022 dLw_1023 dLw_1025 dLw_1026 dLw_1027 ?_
  refine g_sarg (k := 3) C hs hL hi (by decide) rfl rfl dLw_1028 dLw_1029 dLw_1031 dLw_1032 dLw_1033 ?_
  refine g_sarg (k := 4) C hs hL hi (by decide) rfl rfl dLw_1034 dLw_1035 dLw_1037 dLw_1038 dLw_1039 ?_
  refine g_sarg (k := 5) C hs hL hi (by decide) rfl rfl dLw_1040 dLw_1041 dLw_1043 dLw_1044 dLw_1045 ?_
  refine g_sarg6 C hs hL hi rfl rfl dLw_1046 dLw_1047 dLw_1049 dLw_1051 dLw_1052 ?_
  refine lx_callM (av := [.int (sv xs i 1), .int (sv xs i 2), .int (sv xs i 3), .int (sv xs i 4), .int (sv xs i 5), .int (sv xs i 6)]) (rest := []) C dLw_1053 mfMo_marks mvMo_marks ln_Lw_131 hm (by decide) rfl (d_Mo_marks hV1 hm hj1.2.2.2.2.1) rfl rfl (Nat.le_of_ble_eq_true rfl) ⟨rfl, rfl⟩ ⟨rfl, rfl⟩ hro (fun z2 I2 J2 hV2 hF2 hR2 h62 p2 => ?_)
  have hA := hj.set hV1 hV2 hF1 hF2 p1.2.2 ((Classical.em (O mo 3 = none)).elim (fun w => ((p2.2).1 w).1) (fun w => ((p2.2).2 w).1))
  refine g_pop C dLw_1056 rfl ?_
  refine g_goto 1126 C dLw_1057 (by decide) ?_
  exact g_widen (by omega) (by omega) (kk _ _ _ _ _ ⟨hj1.ref hV2 (FQ.mS_2 hF2) hR2 h62, hj.2.1, hA⟩)
theorem lwc_27 {X : CTX} {P : List Nat} {K : Nat → Nat} {I : WI} {O : WO} {J : WJ} {nc ns b x mo out Ln : Nat} {i : Int32} {xs : Nat → Int32} (C : Cx X bLw 7 "RoarMillLaw" room_1) (hLX : LX X) (hs : SCR X b Ln xs) (hL : Ln ≤ 3584) (hi : 0 ≤ i.toInt ∧ i.toInt + 7 ≤ (Ln : Int)) (hj : L4 P K I O x mo out) (hn : nc + 8 ≤ 601024 ∧ ns + 76 ≤ 7293034) (kk : KK X b x mo out i (nc + 8) (ns + 76)) : GG X 7 P K I O J nc ns 1088 (LL b x mo out i) [] := by
  have hx := hj.1.2.1
  have hm := hj.1.2.2.1
  have hro : nc ≤ 601024 ∧ ns ≤ 7293034 := by omega
  refine g_aload_n C dLw_1088 rfl ?_
  refine g_sarg (k := 1) C hs hL hi (by decide) rfl rfl dLw_1089 dLw_1090 dLw_1092 dLw_1093 dLw_1094 ?_
  refine lx_callC (av := [.int (sv xs i 1)]) (rest := []) C dLw_1095 mfRM_size mvRM_size ln_Lw_138 hx (by decide) rfl (d_RM_size hj.1.1 hx) rfl rfl (Nat.le_of_ble_eq_true rfl) ⟨rfl, rfl⟩ ⟨rfl, rfl⟩ hro (fun z1 I1 J1 hV1 hF1 p1 => ?_)
  have hj1 := hj.1.cls hV1 (FQ.fr hF1) rfl rfl rfl rfl rfl rfl
  refine g_pop C dLw_1098 rfl ?_
  refine g_aload_n C dLw_1099 rfl ?_
  refine g_sarg (k := 1) C hs hL hi (by decide) rfl rfl dLw_1100 dLw_1101 dLw_1103 dLw_1104 dLw_1105 ?_
  refine lx_callM (av := [.int (sv xs i 1)]) (rest := []) C dLw_1106 mfMo_size mvMo_size ln_Lw_141 hm (by decide) rfl (d_Mo_size hV1 hm hj1.2.2.2.2.1) rfl rfl (Nat.le_of_ble_eq_true rfl) ⟨rfl, rfl⟩ ⟨rfl, rfl⟩ hro (fun z2 I2 J2 hV2 hF2 hR2 h62 p2 => ?_)
  have hA := hj.leave hV1 hV2 hF1 hF2
  refine g_pop C dLw_1109 rfl ?_
  refine g_goto 1126 C dLw_1110 (by decide) ?_
  exact g_widen (by omega) (by omega) (kk _ _ _ _ _ ⟨hj1.ref hV2 (FQ.mL_2 hF2) hR2 h62, hj.2.1, hA⟩)
theorem lwc_28 {X : CTX} {P : List Nat} {K : Nat → Nat} {I : WI} {O : WO} {J : WJ} {nc ns b x mo out Ln : Nat} {i : Int32} {xs : Nat → Int32} (C : Cx X bLw 7 "RoarMillLaw" room_1) (hLX : LX X) (hs : SCR X b Ln xs) (hL : Ln ≤ 3584) (hi : 0 ≤ i.toInt ∧ i.toInt + 7 ≤ (Ln : Int)) (hj : L4 P K I O x mo out) (hn : nc + 8 ≤ 601024 ∧ ns + 76 ≤ 7293034) (kk : KK X b x mo out i (nc + 8) (ns + 76)) : GG X 7 P K I O J nc ns 1113 (LL b x mo out i) [] := by
  have hx := hj.1.2.1
  have hm := hj.1.2.2.1
  have hro : nc ≤ 601024 ∧ ns ≤ 7293034 := by omega
  refine g_aload_n C dLw_1113 rfl ?_
  refine lx_callC (av := []) (rest := []) C dLw_1114 mfRM_trouble mvRM_trouble ln_Lw_142 hx (by decide) rfl (d_RM_trouble hj.1.1 hx) rfl rfl (Nat.le_of_ble_eq_true rfl) ⟨rfl, rfl⟩ ⟨rfl, rfl⟩ hro (fun z1 I1 J1 hV1 hF1 p1 => ?_)
  have hj1 := hj.1.cls hV1 (FQ.fr hF1) rfl rfl rfl rfl rfl rfl
  refine g_pop C dLw_1117 rfl ?_
  refine g_aload_n C dLw_1118 rfl ?_
  refine lx_callM (av := []) (rest := []) C dLw_1119 mfMo_trouble mvMo_trouble ln_Lw_145 hm (by decide) rfl (d_Mo_trouble hV1 hm hj1.2.2.2.2.1) rfl rfl (Nat.le_of_ble_eq_true rfl) ⟨rfl, rfl⟩ ⟨rfl, rfl⟩ hro (fun z2 I2 J2 hV2 hF2 hR2 h62 p2 => ?_)
  have hA := hj.leave hV1 hV2 hF1 hF2
  refine g_pop C dLw_1122 rfl ?_
  refine g_goto 1126 C dLw_1123 (by decide) ?_
  exact g_widen (by omega) (by omega) (kk _ _ _ _ _ ⟨hj1.ref hV2 (FQ.mL_2 hF2) hR2 h62, hj.2.1, hA⟩)
