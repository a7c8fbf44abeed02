/-! the law's cases, 3 -/
set_option maxHeartbeats 4000000 in
theorem law_put {p : Program} {l : Launch} {e : Env} {s : State} {m : MethodId} {below : List Frame} {meth : Method} {c : Code} {b L : Nat} {xs : Nat → Int32} {E : kE} {ad bm : Nat → Nat} {Q : State → Prop} {B : Nat} {S : kS} {u : kG} {H : Heap} {locs : List Loc} {ls : Array Slot} {x3 : Int32} (C : LC p s m meth c b L xs E ad bm) (hI : LI s E ad bm B S u H locs) (hB : B + 41 < 2 ^ 30) (hl : lv_has ls 4 [(0, .ref b), (1, .ref (ad 80)), (2, .ref (bm 0)), (3, .int x3)]) (hi1 : vp_in (x3 + 1) L) (hi2 : vp_in (x3 + 2) L) (kk : ∀ (B' : Nat) (S' : kS) (u' : kG) (H' : Heap) (locs' : List Loc), B' ≤ B + 41 → LI s E ad bm B' S' u' H' locs' → W p l e room_1 s m #[Value.ref b] below meth c H' locs' 99 5671 Q (F0 m 729 ls [])) : W p l e room_1 s m #[Value.ref b] below meth c H locs 99 5671 Q (F0 m 578 ls []) := by
  obtain ⟨hx, hb, hml, hown, hts, hX, hbl, hK, hs, hj, hA1, hA2, hap⟩ := C
  obtain ⟨h, hY, hP, hS⟩ := hI
  have hbA : ¬ lFr s b := Nat.not_le.mpr hbl
  have hh := h.his
  have hn := (RV.nn h.1).1
  have hm := (RV.nn h.1).2
  have hpm := h.pm
  have hp := h.pl.1
  have hq := h.pl.2
  have hcl : (Cond.constantLong RL 81 4294967295).before #[Value.ref b] s = true := hts _ (List.mem_append_left _ (List.mem_append_left _ (List.mem_append_left _ (List.mem_append_left _ (List.mem_append_left _ (List.mem_append_left _ (List.mem_append_left _ (List.mem_append_left _ (show Cond.constantLong RL 81 4294967295 ∈ wsL_law_r1 from by decide +kernel)))))))))
  refine lv_aload_n hx hb dL_law_578 rfl (lv_at hl 1 rfl) ?_
  refine lv_aload_n hx hb dL_law_579 rfl (lv_at hl 0 rfl) ?_
  refine lv_iload_n hx hb dL_law_580 rfl (lv_at hl 3 rfl) ?_
  refine lv_iconst (v := 1) hx hb dL_law_581 (by decide) ?_
  refine lv_iadd hx hb dL_law_582 ?_
  refine va_sld hx hb hX hbl hbA hS hi1 dL_law_583 ?_
  refine lv_i2l hx hb dL_law_584 rfl ?_
  refine lv_bipush (v := 32) hx hb dL_law_585 (by decide) ?_
  refine lv_lshl hx hb dL_law_587 rfl ?_
  refine lv_aload_n hx hb dL_law_588 rfl (lv_at hl 0 rfl) ?_
  refine lv_iload_n hx hb dL_law_589 rfl (lv_at hl 3 rfl) ?_
  refine lv_iconst (v := 2) hx hb dL_law_590 (by decide) ?_
  refine lv_iadd hx hb dL_law_591 ?_
  refine va_sld hx hb hX hbl hbA hS hi2 dL_law_592 ?_
  refine lv_i2l hx hb dL_law_593 rfl ?_
  refine lv_ldc2 hx hb hown hcl dL_law_594 ?_
  refine lv_land hx hb dL_law_597 ?_
  refine lv_lor hx hb dL_law_598 ?_
  refine kCallYi (va_runV (As := [.long (lPut (xs (x3 + 1).toNatClampNeg) (xs (x3 + 2).toNatClampNeg))]) (rest := []) ⟨hx, hb, hml, hown, hts⟩ (c_X5_put l E ad S hs (lPut (xs (x3 + 1).toNatClampNeg) (xs (x3 + 2).toNatClampNeg)) hp _ rfl) (cwV 1 hts gL_law_X5_put rfl rfl rfl (by decide +kernel) ⟨Nat.le_of_ble_eq_true rfl, Nat.le_of_ble_eq_true rfl⟩) (kPreYV hK hY.2.1 hY (q0 := 0) rfl rfl) rfl rfl hl.1 rfl (lv_room (Nat.le_of_ble_eq_true rfl)) dL_law_599 ⟨Nat.le_of_ble_eq_true rfl, Nat.le_of_ble_eq_true rfl⟩) hS hA1 (fun H locs hY _ hk hS => ?_)
  have hP := kMod hP hj hk hap
  refine lv_aload_n hx hb dL_law_602 rfl (lv_at hl 2 rfl) ?_
  refine lv_aload_n hx hb dL_law_603 rfl (lv_at hl 0 rfl) ?_
  refine lv_iload_n hx hb dL_law_604 rfl (lv_at hl 3 rfl) ?_
  refine lv_iconst (v := 1) hx hb dL_law_605 (by decide) ?_
  refine lv_iadd hx hb dL_law_606 ?_
  refine va_sld hx hb hX hbl hbA hS hi1 dL_law_607 ?_
  refine lv_i2l hx hb dL_law_608 rfl ?_
  refine lv_bipush (v := 32) hx hb dL_law_609 (by decide) ?_
  refine lv_lshl hx hb dL_law_611 rfl ?_
  refine lv_aload_n hx hb dL_law_612 rfl (lv_at hl 0 rfl) ?_
  refine lv_iload_n hx hb dL_law_613 rfl (lv_at hl 3 rfl) ?_
  refine lv_iconst (v := 2) hx hb dL_law_614 (by decide) ?_
  refine lv_iadd hx hb dL_law_615 ?_
  refine va_sld hx hb hX hbl hbA hS hi2 dL_law_616 ?_
  refine lv_i2l hx hb dL_law_617 rfl ?_
  refine lv_ldc2 hx hb hown hcl dL_law_618 ?_
  refine lv_land hx hb dL_law_621 ?_
  refine lv_lor hx hb dL_law_622 ?_
  refine kCallWi (va_runV (As := [.long (lPut (xs (x3 + 1).toNatClampNeg) (xs (x3 + 2).toNatClampNeg))]) (rest := [.int (mX5_put S (lPut (xs (x3 + 1).toNatClampNeg) (xs (x3 + 2).toNatClampNeg))).1]) ⟨hx, hb, hml, hown, hts⟩ (c_X6_put l E bm u hj (lPut (xs (x3 + 1).toNatClampNeg) (xs (x3 + 2).toNatClampNeg)) hq _ rfl) (cwV 1 hts gL_law_X6_put rfl rfl rfl (by decide +kernel) ⟨Nat.le_of_ble_eq_true rfl, Nat.le_of_ble_eq_true rfl⟩) (kPreV hK hP hP (q0 := 0) rfl rfl) rfl rfl hl.1 rfl (lv_room (Nat.le_of_ble_eq_true rfl)) dL_law_623 ⟨Nat.le_of_ble_eq_true rfl, Nat.le_of_ble_eq_true rfl⟩) hS hA2 (fun H locs hP _ hk hS => ?_)
  have hY := hY.keptM hs hk hap
  have hM := M_put (x1 := (lPut (xs (x3 + 1).toNatClampNeg) (xs (x3 + 2).toNatClampNeg))) h
  refine lv_icmp_eq (tgt := 729) hx hb dL_law_626 (by decide) (fun c1 => ?_) (fun c1 => ?_)
  · exact kk _ _ _ H locs (by omega) ⟨hM.2, hY, hP, hS⟩
  · exact absurd hM.1 c1
set_option maxHeartbeats 4000000 in
theorem law_wipe {p : Program} {l : Launch} {e : Env} {s : State} {m : MethodId} {below : List Frame} {meth : Method} {c : Code} {b L : Nat} {xs : Nat → Int32} {E : kE} {ad bm : Nat → Nat} {Q : State → Prop} {B : Nat} {S : kS} {u : kG} {H : Heap} {locs : List Loc} {ls : Array Slot} {x3 : Int32} (C : LC p s m meth c b L xs E ad bm) (hI : LI s E ad bm B S u H locs) (hB : B + 41 < 2 ^ 30) (hl : lv_has ls 4 [(0, .ref b), (1, .ref (ad 80)), (2, .ref (bm 0)), (3, .int x3)]) (kk : ∀ (B' : Nat) (S' : kS) (u' : kG) (H' : Heap) (locs' : List Loc), B' ≤ B + 41 → LI s E ad bm B' S' u' H' locs' → W p l e room_1 s m #[Value.ref b] below meth c H' locs' 99 5671 Q (F0 m 729 ls [])) : W p l e room_1 s m #[Value.ref b] below meth c H locs 99 5671 Q (F0 m 631 ls []) := by
  obtain ⟨hx, hb, hml, hown, hts, hX, hbl, hK, hs, hj, hA1, hA2, hap⟩ := C
  obtain ⟨h, hY, hP, hS⟩ := hI
  have hbA : ¬ lFr s b := Nat.not_le.mpr hbl
  have hh := h.his
  have hn := (RV.nn h.1).1
  have hm := (RV.nn h.1).2
  have hpm := h.pm
  have hp := h.pl.1
  have hq := h.pl.2
  refine lv_aload_n hx hb dL_law_631 rfl (lv_at hl 1 rfl) ?_
  refine kCallYi (va_runV (As := []) (rest := []) ⟨hx, hb, hml, hown, hts⟩ (c_X5_wipe l E ad S hs   _ rfl) (cwV 0 hts gL_law_X5_wipe rfl rfl rfl (by decide +kernel) ⟨Nat.le_of_ble_eq_true rfl, Nat.le_of_ble_eq_true rfl⟩) (kPreYV hK hY.2.1 hY (q0 := 0) rfl rfl) rfl rfl hl.1 rfl (lv_room (Nat.le_of_ble_eq_true rfl)) dL_law_632 ⟨Nat.le_of_ble_eq_true rfl, Nat.le_of_ble_eq_true rfl⟩) hS hA1 (fun H locs hY _ hk hS => ?_)
  have hP := kMod hP hj hk hap
  refine lv_aload_n hx hb dL_law_635 rfl (lv_at hl 2 rfl) ?_
  refine kCallWi (va_runV (As := []) (rest := [.int (mX5_wipe S ).1]) ⟨hx, hb, hml, hown, hts⟩ (c_X6_wipe l E bm u hj   _ rfl) (cwV 0 hts gL_law_X6_wipe rfl rfl rfl (by decide +kernel) ⟨Nat.le_of_ble_eq_true rfl, Nat.le_of_ble_eq_true rfl⟩) (kPreV hK hP hP (q0 := 0) rfl rfl) rfl rfl hl.1 rfl (lv_room (Nat.le_of_ble_eq_true rfl)) dL_law_636 ⟨Nat.le_of_ble_eq_true rfl, Nat.le_of_ble_eq_true rfl⟩) hS hA2 (fun H locs hP _ hk hS => ?_)
  have hY := hY.keptM hs hk hap
  have hM := M_wipe h
  refine lv_icmp_eq (tgt := 729) hx hb dL_law_639 (by decide) (fun c1 => ?_) (fun c1 => ?_)
  · exact kk _ _ _ H locs (by omega) ⟨hM.2, hY, hP, hS⟩
  · exact absurd hM.1 c1
set_option maxHeartbeats 4000000 in
theorem law_fault {p : Program} {l : Launch} {e : Env} {s : State} {m : MethodId} {below : List Frame} {meth : Method} {c : Code} {b L : Nat} {xs : Nat → Int32} {E : kE} {ad bm : Nat → Nat} {Q : State → Prop} {B : Nat} {S : kS} {u : kG} {H : Heap} {locs : List Loc} {ls : Array Slot} {x3 : Int32} (C : LC p s m meth c b L xs E ad bm) (hI : LI s E ad bm B S u H locs) (hB : B + 41 < 2 ^ 30) (hl : lv_has ls 4 [(0, .ref b), (1, .ref (ad 80)), (2, .ref (bm 0)), (3, .int x3)]) (kk : ∀ (B' : Nat) (S' : kS) (u' : kG) (H' : Heap) (locs' : List Loc), B' ≤ B + 41 → LI s E ad bm B' S' u' H' locs' → W p l e room_1 s m #[Value.ref b] below meth c H' locs' 99 5671 Q (F0 m 729 ls [])) : W p l e room_1 s m #[Value.ref b] below meth c H locs 99 5671 Q (F0 m 644 ls []) := by
  obtain ⟨hx, hb, hml, hown, hts, hX, hbl, hK, hs, hj, hA1, hA2, hap⟩ := C
  obtain ⟨h, hY, hP, hS⟩ := hI
  have hbA : ¬ lFr s b := Nat.not_le.mpr hbl
  have hh := h.his
  have hn := (RV.nn h.1).1
  have hm := (RV.nn h.1).2
  have hpm := h.pm
  have hp := h.pl.1
  have hq := h.pl.2
  refine lv_aload_n hx hb dL_law_644 rfl (lv_at hl 1 rfl) ?_
  refine kCallYi (va_runV (As := []) (rest := []) ⟨hx, hb, hml, hown, hts⟩ (c_X5_fault l E ad S hs  hp _ rfl) (cwV 0 hts gL_law_X5_fault rfl rfl rfl (by decide +kernel) ⟨Nat.le_of_ble_eq_true rfl, Nat.le_of_ble_eq_true rfl⟩) (kPreYV hK hY.2.1 hY (q0 := 0) rfl rfl) rfl rfl hl.1 rfl (lv_room (Nat.le_of_ble_eq_true rfl)) dL_law_645 ⟨Nat.le_of_ble_eq_true rfl, Nat.le_of_ble_eq_true rfl⟩) hS hA1 (fun H locs hY _ hk hS => ?_)
  have hP := kMod hP hj hk hap
  refine lv_aload_n hx hb dL_law_648 rfl (lv_at hl 2 rfl) ?_
  refine kCallWi (va_runV (As := []) (rest := [.int (mX5_fault S ).1]) ⟨hx, hb, hml, hown, hts⟩ (c_X6_fault l E bm u hj  hq _ rfl) (cwV 0 hts gL_law_X6_fault rfl rfl rfl (by decide +kernel) ⟨Nat.le_of_ble_eq_true rfl, Nat.le_of_ble_eq_true rfl⟩) (kPreV hK hP hP (q0 := 0) rfl rfl) rfl rfl hl.1 rfl (lv_room (Nat.le_of_ble_eq_true rfl)) dL_law_649 ⟨Nat.le_of_ble_eq_true rfl, Nat.le_of_ble_eq_true rfl⟩) hS hA2 (fun H locs hP _ hk hS => ?_)
  have hY := hY.keptM hs hk hap
  have hM := M_fault h
  refine lv_icmp_eq (tgt := 729) hx hb dL_law_652 (by decide) (fun c1 => ?_) (fun c1 => ?_)
  · exact kk _ _ _ H locs (by omega) ⟨hM.2, hY, hP, hS⟩
  · exact absurd hM.1 c1
set_option maxHeartbeats 4000000 in
theorem law_carryOut {p : Program} {l : Launch} {e : Env} {s : State} {m : MethodId} {below : List Frame} {meth : Method} {c : Code} {b L : Nat} {xs : Nat → Int32} {E : kE} {ad bm : Nat → Nat} {Q : State → Prop} {B : Nat} {S : kS} {u : kG} {H : Heap} {locs : List Loc} {ls : Array Slot} {x3 : Int32} (C : LC p s m meth c b L xs E ad bm) (hI : LI s E ad bm B S u H locs) (hB : B + 41 < 2 ^ 30) (hl : lv_has ls 4 [(0, .ref b), (1, .ref (ad 80)), (2, .ref (bm 0)), (3, .int x3)]) (kk : ∀ (B' : Nat) (S' : kS) (u' : kG) (H' : Heap) (locs' : List Loc), B' ≤ B + 41 → LI s E ad bm B' S' u' H' locs' → W p l e room_1 s m #[Value.ref b] below meth c H' locs' 99 5671 Q (F0 m 729 ls [])) : W p l e room_1 s m #[Value.ref b] below meth c H locs 99 5671 Q (F0 m 657 ls []) := by
  obtain ⟨hx, hb, hml, hown, hts, hX, hbl, hK, hs, hj, hA1, hA2, hap⟩ := C
  obtain ⟨h, hY, hP, hS⟩ := hI
  have hbA : ¬ lFr s b := Nat.not_le.mpr hbl
  have hh := h.his
  have hn := (RV.nn h.1).1
  have hm := (RV.nn h.1).2
  have hpm := h.pm
  have hp := h.pl.1
  have hq := h.pl.2
  refine lv_aload_n hx hb dL_law_657 rfl (lv_at hl 1 rfl) ?_
  refine kCallYi (va_runV (As := []) (rest := []) ⟨hx, hb, hml, hown, hts⟩ (c_X5_carryOut l E ad S hs  hh hn hp _ rfl) (cwV 0 hts gL_law_X5_carryOut rfl rfl rfl (by decide +kernel) ⟨Nat.le_of_ble_eq_true rfl, Nat.le_of_ble_eq_true rfl⟩) (kPreYV hK hY.2.1 hY (q0 := 0) rfl rfl) rfl rfl hl.1 rfl (lv_room (Nat.le_of_ble_eq_true rfl)) dL_law_658 ⟨Nat.le_of_ble_eq_true rfl, Nat.le_of_ble_eq_true rfl⟩) hS hA1 (fun H locs hY _ hk hS => ?_)
  have hP := kMod hP hj hk hap
  refine lv_aload_n hx hb dL_law_661 rfl (lv_at hl 2 rfl) ?_
  refine kCallWi (va_runV (As := []) (rest := [.int (mX5_carryOut S ).1]) ⟨hx, hb, hml, hown, hts⟩ (c_X6_carryOut l E bm u hj  hm hpm hq _ rfl) (cwV 0 hts gL_law_X6_carryOut rfl rfl rfl (by decide +kernel) ⟨Nat.le_of_ble_eq_true rfl, Nat.le_of_ble_eq_true rfl⟩) (kPreV hK hP hP (q0 := 0) rfl rfl) rfl rfl hl.1 rfl (lv_room (Nat.le_of_ble_eq_true rfl)) dL_law_662 ⟨Nat.le_of_ble_eq_true rfl, Nat.le_of_ble_eq_true rfl⟩) hS hA2 (fun H locs hP _ hk hS => ?_)
  have hY := hY.keptM hs hk hap
  have hM := M_carryOut h (by omega)
  refine lv_icmp_eq (tgt := 729) hx hb dL_law_665 (by decide) (fun c1 => ?_) (fun c1 => ?_)
  · exact kk _ _ _ H locs (by omega) ⟨hM.2, hY, hP, hS⟩
  · exact absurd hM.1 c1
