/-! the law's cases, 1 -/
set_option maxHeartbeats 4000000 in
theorem law_abort {p : Program} {l : Launch} {e : Env} {s : State} {m : MethodId} {below : List Frame} {meth : Method} {c : Code} {b L : Nat} {xs : Nat → Int32} {E : kE} {ad bm : Nat → Nat} {Q : State → Prop} {B : Nat} {S : kS} {u : kG} {H : Heap} {locs : List Loc} {ls : Array Slot} {x3 : Int32} (C : LC p s m meth c b L xs E ad bm) (hI : LI s E ad bm B S u H locs) (hB : B + 41 < 2 ^ 30) (hl : lv_has ls 4 [(0, .ref b), (1, .ref (ad 80)), (2, .ref (bm 0)), (3, .int x3)]) (hi1 : vp_in (x3 + 1) L) (kk : ∀ (B' : Nat) (S' : kS) (u' : kG) (H' : Heap) (locs' : List Loc), B' ≤ B + 41 → LI s E ad bm B' S' u' H' locs' → W p l e room_1 s m #[Value.ref b] below meth c H' locs' 99 5671 Q (F0 m 729 ls [])) : W p l e room_1 s m #[Value.ref b] below meth c H locs 99 5671 Q (F0 m 275 ls []) := by
  obtain ⟨hx, hb, hml, hown, hts, hX, hbl, hK, hs, hj, hA1, hA2, hap⟩ := C
  obtain ⟨h, hY, hP, hS⟩ := hI
  have hbA : ¬ lFr s b := Nat.not_le.mpr hbl
  have hh := h.his
  have hn := (RV.nn h.1).1
  have hm := (RV.nn h.1).2
  have hpm := h.pm
  have hp := h.pl.1
  have hq := h.pl.2
  refine lv_aload_n hx hb dL_law_275 rfl (lv_at hl 1 rfl) ?_
  refine lv_aload_n hx hb dL_law_276 rfl (lv_at hl 0 rfl) ?_
  refine lv_iload_n hx hb dL_law_277 rfl (lv_at hl 3 rfl) ?_
  refine lv_iconst (v := 1) hx hb dL_law_278 (by decide) ?_
  refine lv_iadd hx hb dL_law_279 ?_
  refine va_sld hx hb hX hbl hbA hS hi1 dL_law_280 ?_
  refine kCallYi (va_runV (As := [.int (xs (x3 + 1).toNatClampNeg)]) (rest := []) ⟨hx, hb, hml, hown, hts⟩ (c_X5_abort l E ad S hs (xs (x3 + 1).toNatClampNeg) hh hn _ rfl) (cwV 1 hts gL_law_X5_abort rfl rfl rfl (by decide +kernel) ⟨Nat.le_of_ble_eq_true rfl, Nat.le_of_ble_eq_true rfl⟩) (kPreYV hK hY.2.1 hY (q0 := 0) rfl rfl) rfl rfl hl.1 rfl (lv_room (Nat.le_of_ble_eq_true rfl)) dL_law_281 ⟨Nat.le_of_ble_eq_true rfl, Nat.le_of_ble_eq_true rfl⟩) hS hA1 (fun H locs hY _ hk hS => ?_)
  have hP := kMod hP hj hk hap
  refine lv_aload_n hx hb dL_law_284 rfl (lv_at hl 2 rfl) ?_
  refine lv_aload_n hx hb dL_law_285 rfl (lv_at hl 0 rfl) ?_
  refine lv_iload_n hx hb dL_law_286 rfl (lv_at hl 3 rfl) ?_
  refine lv_iconst (v := 1) hx hb dL_law_287 (by decide) ?_
  refine lv_iadd hx hb dL_law_288 ?_
  refine va_sld hx hb hX hbl hbA hS hi1 dL_law_289 ?_
  refine kCallWi (va_runV (As := [.int (xs (x3 + 1).toNatClampNeg)]) (rest := [.int (mX5_abort S (xs (x3 + 1).toNatClampNeg)).1]) ⟨hx, hb, hml, hown, hts⟩ (c_X6_abort l E bm u hj (xs (x3 + 1).toNatClampNeg) hm hpm _ rfl) (cwV 1 hts gL_law_X6_abort rfl rfl rfl (by decide +kernel) ⟨Nat.le_of_ble_eq_true rfl, Nat.le_of_ble_eq_true rfl⟩) (kPreV hK hP hP (q0 := 0) rfl rfl) rfl rfl hl.1 rfl (lv_room (Nat.le_of_ble_eq_true rfl)) dL_law_290 ⟨Nat.le_of_ble_eq_true rfl, Nat.le_of_ble_eq_true rfl⟩) hS hA2 (fun H locs hP _ hk hS => ?_)
  have hY := hY.keptM hs hk hap
  have hM := M_abort (x := (xs (x3 + 1).toNatClampNeg)) h
  refine lv_icmp_eq (tgt := 729) hx hb dL_law_293 (by decide) (fun c1 => ?_) (fun c1 => ?_)
  · exact kk _ _ _ H locs (by omega) ⟨hM.2, hY, hP, hS⟩
  · exact absurd hM.1 c1
set_option maxHeartbeats 4000000 in
theorem law_of {p : Program} {l : Launch} {e : Env} {s : State} {m : MethodId} {below : List Frame} {meth : Method} {c : Code} {b L : Nat} {xs : Nat → Int32} {E : kE} {ad bm : Nat → Nat} {Q : State → Prop} {B : Nat} {S : kS} {u : kG} {H : Heap} {locs : List Loc} {ls : Array Slot} {x3 : Int32} (C : LC p s m meth c b L xs E ad bm) (hI : LI s E ad bm B S u H locs) (hB : B + 41 < 2 ^ 30) (hl : lv_has ls 4 [(0, .ref b), (1, .ref (ad 80)), (2, .ref (bm 0)), (3, .int x3)]) (hi1 : vp_in (x3 + 1) L) (hi2 : vp_in (x3 + 2) L) (kk : ∀ (B' : Nat) (S' : kS) (u' : kG) (H' : Heap) (locs' : List Loc), B' ≤ B + 41 → LI s E ad bm B' S' u' H' locs' → W p l e room_1 s m #[Value.ref b] below meth c H' locs' 99 5671 Q (F0 m 729 ls [])) : W p l e room_1 s m #[Value.ref b] below meth c H locs 99 5671 Q (F0 m 321 ls []) := by
  obtain ⟨hx, hb, hml, hown, hts, hX, hbl, hK, hs, hj, hA1, hA2, hap⟩ := C
  obtain ⟨h, hY, hP, hS⟩ := hI
  have hbA : ¬ lFr s b := Nat.not_le.mpr hbl
  have hh := h.his
  have hn := (RV.nn h.1).1
  have hm := (RV.nn h.1).2
  have hpm := h.pm
  have hp := h.pl.1
  have hq := h.pl.2
  refine lv_aload_n hx hb dL_law_321 rfl (lv_at hl 1 rfl) ?_
  refine lv_aload_n hx hb dL_law_322 rfl (lv_at hl 0 rfl) ?_
  refine lv_iload_n hx hb dL_law_323 rfl (lv_at hl 3 rfl) ?_
  refine lv_iconst (v := 1) hx hb dL_law_324 (by decide) ?_
  refine lv_iadd hx hb dL_law_325 ?_
  refine va_sld hx hb hX hbl hbA hS hi1 dL_law_326 ?_
  refine lv_aload_n hx hb dL_law_327 rfl (lv_at hl 0 rfl) ?_
  refine lv_iload_n hx hb dL_law_328 rfl (lv_at hl 3 rfl) ?_
  refine lv_iconst (v := 2) hx hb dL_law_329 (by decide) ?_
  refine lv_iadd hx hb dL_law_330 ?_
  refine va_sld hx hb hX hbl hbA hS hi2 dL_law_331 ?_
  refine kCallRi (va_runV (As := [.int (xs (x3 + 1).toNatClampNeg), .int (xs (x3 + 2).toNatClampNeg)]) (rest := []) ⟨hx, hb, hml, hown, hts⟩ (c_X5_of l E ad S hs (xs (x3 + 1).toNatClampNeg) (xs (x3 + 2).toNatClampNeg) hn _ rfl) (cwV 2 hts gL_law_X5_of rfl rfl rfl (by decide +kernel) ⟨Nat.le_of_ble_eq_true rfl, Nat.le_of_ble_eq_true rfl⟩) (kPreYV hK hY.2.1 hY (q0 := 0) rfl rfl) rfl rfl hl.1 rfl (lv_room (Nat.le_of_ble_eq_true rfl)) dL_law_332 ⟨Nat.le_of_ble_eq_true rfl, Nat.le_of_ble_eq_true rfl⟩) ?_
  refine lv_aload_n hx hb dL_law_335 rfl (lv_at hl 2 rfl) ?_
  refine lv_aload_n hx hb dL_law_336 rfl (lv_at hl 0 rfl) ?_
  refine lv_iload_n hx hb dL_law_337 rfl (lv_at hl 3 rfl) ?_
  refine lv_iconst (v := 1) hx hb dL_law_338 (by decide) ?_
  refine lv_iadd hx hb dL_law_339 ?_
  refine va_sld hx hb hX hbl hbA hS hi1 dL_law_340 ?_
  refine lv_aload_n hx hb dL_law_341 rfl (lv_at hl 0 rfl) ?_
  refine lv_iload_n hx hb dL_law_342 rfl (lv_at hl 3 rfl) ?_
  refine lv_iconst (v := 2) hx hb dL_law_343 (by decide) ?_
  refine lv_iadd hx hb dL_law_344 ?_
  refine va_sld hx hb hX hbl hbA hS hi2 dL_law_345 ?_
  refine kCallRi (va_runV (As := [.int (xs (x3 + 1).toNatClampNeg), .int (xs (x3 + 2).toNatClampNeg)]) (rest := [.int (mX5_of S (xs (x3 + 1).toNatClampNeg) (xs (x3 + 2).toNatClampNeg))]) ⟨hx, hb, hml, hown, hts⟩ (c_X6_of l E bm u (xs (x3 + 1).toNatClampNeg) (xs (x3 + 2).toNatClampNeg) hm _ rfl) (cwV 2 hts gL_law_X6_of rfl rfl rfl (by decide +kernel) ⟨Nat.le_of_ble_eq_true rfl, Nat.le_of_ble_eq_true rfl⟩) (kPreV hK hP hP (q0 := 0) rfl rfl) rfl rfl hl.1 rfl (lv_room (Nat.le_of_ble_eq_true rfl)) dL_law_346 ⟨Nat.le_of_ble_eq_true rfl, Nat.le_of_ble_eq_true rfl⟩) ?_
  have hM := M_of (x := (xs (x3 + 1).toNatClampNeg)) (y := (xs (x3 + 2).toNatClampNeg)) h
  refine lv_icmp_eq (tgt := 729) hx hb dL_law_349 (by decide) (fun c1 => ?_) (fun c1 => ?_)
  · exact kk B S u H locs (by omega) ⟨h, hY, hP, hS⟩
  · exact absurd hM c1
set_option maxHeartbeats 4000000 in
theorem law_edge {p : Program} {l : Launch} {e : Env} {s : State} {m : MethodId} {below : List Frame} {meth : Method} {c : Code} {b L : Nat} {xs : Nat → Int32} {E : kE} {ad bm : Nat → Nat} {Q : State → Prop} {B : Nat} {S : kS} {u : kG} {H : Heap} {locs : List Loc} {ls : Array Slot} {x3 : Int32} (C : LC p s m meth c b L xs E ad bm) (hI : LI s E ad bm B S u H locs) (hB : B + 41 < 2 ^ 30) (hl : lv_has ls 4 [(0, .ref b), (1, .ref (ad 80)), (2, .ref (bm 0)), (3, .int x3)]) (hi1 : vp_in (x3 + 1) L) (hi2 : vp_in (x3 + 2) L) (kk : ∀ (B' : Nat) (S' : kS) (u' : kG) (H' : Heap) (locs' : List Loc), B' ≤ B + 41 → LI s E ad bm B' S' u' H' locs' → W p l e room_1 s m #[Value.ref b] below meth c H' locs' 99 5671 Q (F0 m 729 ls [])) : W p l e room_1 s m #[Value.ref b] below meth c H locs 99 5671 Q (F0 m 354 ls []) := by
  obtain ⟨hx, hb, hml, hown, hts, hX, hbl, hK, hs, hj, hA1, hA2, hap⟩ := C
  obtain ⟨h, hY, hP, hS⟩ := hI
  have hbA : ¬ lFr s b := Nat.not_le.mpr hbl
  have hh := h.his
  have hn := (RV.nn h.1).1
  have hm := (RV.nn h.1).2
  have hpm := h.pm
  have hp := h.pl.1
  have hq := h.pl.2
  refine lv_aload_n hx hb dL_law_354 rfl (lv_at hl 1 rfl) ?_
  refine lv_aload_n hx hb dL_law_355 rfl (lv_at hl 0 rfl) ?_
  refine lv_iload_n hx hb dL_law_356 rfl (lv_at hl 3 rfl) ?_
  refine lv_iconst (v := 1) hx hb dL_law_357 (by decide) ?_
  refine lv_iadd hx hb dL_law_358 ?_
  refine va_sld hx hb hX hbl hbA hS hi1 dL_law_359 ?_
  refine lv_aload_n hx hb dL_law_360 rfl (lv_at hl 0 rfl) ?_
  refine lv_iload_n hx hb dL_law_361 rfl (lv_at hl 3 rfl) ?_
  refine lv_iconst (v := 2) hx hb dL_law_362 (by decide) ?_
  refine lv_iadd hx hb dL_law_363 ?_
  refine va_sld hx hb hX hbl hbA hS hi2 dL_law_364 ?_
  refine kCallRi (va_runV (As := [.int (xs (x3 + 1).toNatClampNeg), .int (xs (x3 + 2).toNatClampNeg)]) (rest := []) ⟨hx, hb, hml, hown, hts⟩ (c_X5_edge l E ad S hs (xs (x3 + 1).toNatClampNeg) (xs (x3 + 2).toNatClampNeg) hn _ rfl) (cwV 2 hts gL_law_X5_edge rfl rfl rfl (by decide +kernel) ⟨Nat.le_of_ble_eq_true rfl, Nat.le_of_ble_eq_true rfl⟩) (kPreYV hK hY.2.1 hY (q0 := 0) rfl rfl) rfl rfl hl.1 rfl (lv_room (Nat.le_of_ble_eq_true rfl)) dL_law_365 ⟨Nat.le_of_ble_eq_true rfl, Nat.le_of_ble_eq_true rfl⟩) ?_
  refine lv_aload_n hx hb dL_law_368 rfl (lv_at hl 2 rfl) ?_
  refine lv_aload_n hx hb dL_law_369 rfl (lv_at hl 0 rfl) ?_
  refine lv_iload_n hx hb dL_law_370 rfl (lv_at hl 3 rfl) ?_
  refine lv_iconst (v := 1) hx hb dL_law_371 (by decide) ?_
  refine lv_iadd hx hb dL_law_372 ?_
  refine va_sld hx hb hX hbl hbA hS hi1 dL_law_373 ?_
  refine lv_aload_n hx hb dL_law_374 rfl (lv_at hl 0 rfl) ?_
  refine lv_iload_n hx hb dL_law_375 rfl (lv_at hl 3 rfl) ?_
  refine lv_iconst (v := 2) hx hb dL_law_376 (by decide) ?_
  refine lv_iadd hx hb dL_law_377 ?_
  refine va_sld hx hb hX hbl hbA hS hi2 dL_law_378 ?_
  refine kCallRi (va_runV (As := [.int (xs (x3 + 1).toNatClampNeg), .int (xs (x3 + 2).toNatClampNeg)]) (rest := [.int (mX5_edge S (xs (x3 + 1).toNatClampNeg) (xs (x3 + 2).toNatClampNeg))]) ⟨hx, hb, hml, hown, hts⟩ (c_X6_edge l E bm u (xs (x3 + 1).toNatClampNeg) (xs (x3 + 2).toNatClampNeg) hm _ rfl) (cwV 2 hts gL_law_X6_edge rfl rfl rfl (by decide +kernel) ⟨Nat.le_of_ble_eq_true rfl, Nat.le_of_ble_eq_true rfl⟩) (kPreV hK hP hP (q0 := 0) rfl rfl) rfl rfl hl.1 rfl (lv_room (Nat.le_of_ble_eq_true rfl)) dL_law_379 ⟨Nat.le_of_ble_eq_true rfl, Nat.le_of_ble_eq_true rfl⟩) ?_
  have hM := M_edge (x := (xs (x3 + 1).toNatClampNeg)) (y := (xs (x3 + 2).toNatClampNeg)) h
  refine lv_icmp_eq (tgt := 729) hx hb dL_law_382 (by decide) (fun c1 => ?_) (fun c1 => ?_)
  · exact kk B S u H locs (by omega) ⟨h, hY, hP, hS⟩
  · exact absurd hM c1
set_option maxHeartbeats 4000000 in
theorem law_over {p : Program} {l : Launch} {e : Env} {s : State} {m : MethodId} {below : List Frame} {meth : Method} {c : Code} {b L : Nat} {xs : Nat → Int32} {E : kE} {ad bm : Nat → Nat} {Q : State → Prop} {B : Nat} {S : kS} {u : kG} {H : Heap} {locs : List Loc} {ls : Array Slot} {x3 : Int32} (C : LC p s m meth c b L xs E ad bm) (hI : LI s E ad bm B S u H locs) (hB : B + 41 < 2 ^ 30) (hl : lv_has ls 4 [(0, .ref b), (1, .ref (ad 80)), (2, .ref (bm 0)), (3, .int x3)]) (hi1 : vp_in (x3 + 1) L) (hi2 : vp_in (x3 + 2) L) (kk : ∀ (B' : Nat) (S' : kS) (u' : kG) (H' : Heap) (locs' : List Loc), B' ≤ B + 41 → LI s E ad bm B' S' u' H' locs' → W p l e room_1 s m #[Value.ref b] below meth c H' locs' 99 5671 Q (F0 m 729 ls [])) : W p l e room_1 s m #[Value.ref b] below meth c H locs 99 5671 Q (F0 m 387 ls []) := by
  obtain ⟨hx, hb, hml, hown, hts, hX, hbl, hK, hs, hj, hA1, hA2, hap⟩ := C
  obtain ⟨h, hY, hP, hS⟩ := hI
  have hbA : ¬ lFr s b := Nat.not_le.mpr hbl
  have hh := h.his
  have hn := (RV.nn h.1).1
  have hm := (RV.nn h.1).2
  have hpm := h.pm
  have hp := h.pl.1
  have hq := h.pl.2
  refine lv_aload_n hx hb dL_law_387 rfl (lv_at hl 1 rfl) ?_
  refine lv_aload_n hx hb dL_law_388 rfl (lv_at hl 0 rfl) ?_
  refine lv_iload_n hx hb dL_law_389 rfl (lv_at hl 3 rfl) ?_
  refine lv_iconst (v := 1) hx hb dL_law_390 (by decide) ?_
  refine lv_iadd hx hb dL_law_391 ?_
  refine va_sld hx hb hX hbl hbA hS hi1 dL_law_392 ?_
  refine lv_aload_n hx hb dL_law_393 rfl (lv_at hl 0 rfl) ?_
  refine lv_iload_n hx hb dL_law_394 rfl (lv_at hl 3 rfl) ?_
  refine lv_iconst (v := 2) hx hb dL_law_395 (by decide) ?_
  refine lv_iadd hx hb dL_law_396 ?_
  refine va_sld hx hb hX hbl hbA hS hi2 dL_law_397 ?_
  refine kCallRi (va_runV (As := [.int (xs (x3 + 1).toNatClampNeg), .int (xs (x3 + 2).toNatClampNeg)]) (rest := []) ⟨hx, hb, hml, hown, hts⟩ (c_X5_over l E ad S hs (xs (x3 + 1).toNatClampNeg) (xs (x3 + 2).toNatClampNeg) hn _ rfl) (cwV 2 hts gL_law_X5_over rfl rfl rfl (by decide +kernel) ⟨Nat.le_of_ble_eq_true rfl, Nat.le_of_ble_eq_true rfl⟩) (kPreYV hK hY.2.1 hY (q0 := 0) rfl rfl) rfl rfl hl.1 rfl (lv_room (Nat.le_of_ble_eq_true rfl)) dL_law_398 ⟨Nat.le_of_ble_eq_true rfl, Nat.le_of_ble_eq_true rfl⟩) ?_
  refine lv_aload_n hx hb dL_law_401 rfl (lv_at hl 2 rfl) ?_
  refine lv_aload_n hx hb dL_law_402 rfl (lv_at hl 0 rfl) ?_
  refine lv_iload_n hx hb dL_law_403 rfl (lv_at hl 3 rfl) ?_
  refine lv_iconst (v := 1) hx hb dL_law_404 (by decide) ?_
  refine lv_iadd hx hb dL_law_405 ?_
  refine va_sld hx hb hX hbl hbA hS hi1 dL_law_406 ?_
  refine lv_aload_n hx hb dL_law_407 rfl (lv_at hl 0 rfl) ?_
  refine lv_iload_n hx hb dL_law_408 rfl (lv_at hl 3 rfl) ?_
  refine lv_iconst (v := 2) hx hb dL_law_409 (by decide) ?_
  refine lv_iadd hx hb dL_law_410 ?_
  refine va_sld hx hb hX hbl hbA hS hi2 dL_law_411 ?_
  refine kCallRi (va_runV (As := [.int (xs (x3 + 1).toNatClampNeg), .int (xs (x3 + 2).toNatClampNeg)]) (rest := [.int (mX5_over S (xs (x3 + 1).toNatClampNeg) (xs (x3 + 2).toNatClampNeg))]) ⟨hx, hb, hml, hown, hts⟩ (c_X6_over l E bm u (xs (x3 + 1).toNatClampNeg) (xs (x3 + 2).toNatClampNeg) hm h.rw9 _ rfl) (cwV 2 hts gL_law_X6_over rfl rfl rfl (by decide +kernel) ⟨Nat.le_of_ble_eq_true rfl, Nat.le_of_ble_eq_true rfl⟩) (kPreV hK hP hP (q0 := 0) rfl rfl) rfl rfl hl.1 rfl (lv_room (Nat.le_of_ble_eq_true rfl)) dL_law_412 ⟨Nat.le_of_ble_eq_true rfl, Nat.le_of_ble_eq_true rfl⟩) ?_
  have hM := M_over (x := (xs (x3 + 1).toNatClampNeg)) (y := (xs (x3 + 2).toNatClampNeg)) h
  refine lv_icmp_eq (tgt := 729) hx hb dL_law_415 (by decide) (fun c1 => ?_) (fun c1 => ?_)
  · exact kk B S u H locs (by omega) ⟨h, hY, hP, hS⟩
  · exact absurd hM c1
set_option maxHeartbeats 4000000 in
theorem law_count {p : Program} {l : Launch} {e : Env} {s : State} {m : MethodId} {below : List Frame} {meth : Method} {c : Code} {b L : Nat} {xs : Nat → Int32} {E : kE} {ad bm : Nat → Nat} {Q : State → Prop} {B : Nat} {S : kS} {u : kG} {H : Heap} {locs : List Loc} {ls : Array Slot} {x3 : Int32} (C : LC p s m meth c b L xs E ad bm) (hI : LI s E ad bm B S u H locs) (hB : B + 41 < 2 ^ 30) (hl : lv_has ls 4 [(0, .ref b), (1, .ref (ad 80)), (2, .ref (bm 0)), (3, .int x3)]) (hi1 : vp_in (x3 + 1) L) (kk : ∀ (B' : Nat) (S' : kS) (u' : kG) (H' : Heap) (locs' : List Loc), B' ≤ B + 41 → LI s E ad bm B' S' u' H' locs' → W p l e room_1 s m #[Value.ref b] below meth c H' locs' 99 5671 Q (F0 m 729 ls [])) : W p l e room_1 s m #[Value.ref b] below meth c H locs 99 5671 Q (F0 m 420 ls []) := by
  obtain ⟨hx, hb, hml, hown, hts, hX, hbl, hK, hs, hj, hA1, hA2, hap⟩ := C
  obtain ⟨h, hY, hP, hS⟩ := hI
  have hbA : ¬ lFr s b := Nat.not_le.mpr hbl
  have hh := h.his
  have hn := (RV.nn h.1).1
  have hm := (RV.nn h.1).2
  have hpm := h.pm
  have hp := h.pl.1
  have hq := h.pl.2
  refine lv_aload_n hx hb dL_law_420 rfl (lv_at hl 1 rfl) ?_
  refine lv_aload_n hx hb dL_law_421 rfl (lv_at hl 0 rfl) ?_
  refine lv_iload_n hx hb dL_law_422 rfl (lv_at hl 3 rfl) ?_
  refine lv_iconst (v := 1) hx hb dL_law_423 (by decide) ?_
  refine lv_iadd hx hb dL_law_424 ?_
  refine va_sld hx hb hX hbl hbA hS hi1 dL_law_425 ?_
  refine kCallYi (va_runV (As := [.int (xs (x3 + 1).toNatClampNeg)]) (rest := []) ⟨hx, hb, hml, hown, hts⟩ (c_X5_count l E ad S hs (xs (x3 + 1).toNatClampNeg) hn _ rfl) (cwV 1 hts gL_law_X5_count rfl rfl rfl (by decide +kernel) ⟨Nat.le_of_ble_eq_true rfl, Nat.le_of_ble_eq_true rfl⟩) (kPreYV hK hY.2.1 hY (q0 := 0) rfl rfl) rfl rfl hl.1 rfl (lv_room (Nat.le_of_ble_eq_true rfl)) dL_law_426 ⟨Nat.le_of_ble_eq_true rfl, Nat.le_of_ble_eq_true rfl⟩) hS hA1 (fun H locs hY _ hk hS => ?_)
  have hP := kMod hP hj hk hap
  refine lv_aload_n hx hb dL_law_429 rfl (lv_at hl 2 rfl) ?_
  refine lv_aload_n hx hb dL_law_430 rfl (lv_at hl 0 rfl) ?_
  refine lv_iload_n hx hb dL_law_431 rfl (lv_at hl 3 rfl) ?_
  refine lv_iconst (v := 1) hx hb dL_law_432 (by decide) ?_
  refine lv_iadd hx hb dL_law_433 ?_
  refine va_sld hx hb hX hbl hbA hS hi1 dL_law_434 ?_
  refine kCallWi (va_runV (As := [.int (xs (x3 + 1).toNatClampNeg)]) (rest := [.int (mX5_count S (xs (x3 + 1).toNatClampNeg)).1]) ⟨hx, hb, hml, hown, hts⟩ (c_X6_count l E bm u hj (xs (x3 + 1).toNatClampNeg) hm _ rfl) (cwV 1 hts gL_law_X6_count rfl rfl rfl (by decide +kernel) ⟨Nat.le_of_ble_eq_true rfl, Nat.le_of_ble_eq_true rfl⟩) (kPreV hK hP hP (q0 := 0) rfl rfl) rfl rfl hl.1 rfl (lv_room (Nat.le_of_ble_eq_true rfl)) dL_law_435 ⟨Nat.le_of_ble_eq_true rfl, Nat.le_of_ble_eq_true rfl⟩) hS hA2 (fun H locs hP _ hk hS => ?_)
  have hY := hY.keptM hs hk hap
  have hM := M_count (x := (xs (x3 + 1).toNatClampNeg)) h
  refine lv_icmp_eq (tgt := 729) hx hb dL_law_438 (by decide) (fun c1 => ?_) (fun c1 => ?_)
  · exact kk _ _ _ H locs (by omega) ⟨hM.2, hY, hP, hS⟩
  · exact absurd hM.1 c1
