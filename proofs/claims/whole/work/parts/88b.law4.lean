/-! the law's cases, 4 -/
set_option maxHeartbeats 4000000 in
theorem law_undo {p : Program} {l : Launch} {e : Env} {s : State} {m : MethodId} {below : List Frame} {meth : Method} {c : Code} {b L : Nat} {xs : Nat → Int32} {E : kE} {ad bm : Nat → Nat} {Q : State → Prop} {B : Nat} {S : kS} {u : kG} {H : Heap} {locs : List Loc} {ls : Array Slot} {x3 : Int32} (C : LC p s m meth c b L xs E ad bm) (hI : LI s E ad bm B S u H locs) (hB : B + 41 < 2 ^ 30) (hl : lv_has ls 4 [(0, .ref b), (1, .ref (ad 80)), (2, .ref (bm 0)), (3, .int x3)]) (kk : ∀ (B' : Nat) (S' : kS) (u' : kG) (H' : Heap) (locs' : List Loc), B' ≤ B + 41 → LI s E ad bm B' S' u' H' locs' → W p l e room_1 s m #[Value.ref b] below meth c H' locs' 99 5671 Q (F0 m 729 ls [])) : W p l e room_1 s m #[Value.ref b] below meth c H locs 99 5671 Q (F0 m 670 ls []) := by
  obtain ⟨hx, hb, hml, hown, hts, hX, hbl, hK, hs, hj, hA1, hA2, hap⟩ := C
  obtain ⟨h, hY, hP, hS⟩ := hI
  have hbA : ¬ lFr s b := Nat.not_le.mpr hbl
  have hh := h.his
  have hn := (RV.nn h.1).1
  have hm := (RV.nn h.1).2
  have hpm := h.pm
  have hp := h.pl.1
  have hq := h.pl.2
  refine lv_aload_n hx hb dL_law_670 rfl (lv_at hl 1 rfl) ?_
  refine kCallYi (va_runV (As := []) (rest := []) ⟨hx, hb, hml, hown, hts⟩ (c_X5_undo l E ad S hs  hh _ rfl) (cwV 0 hts gL_law_X5_undo rfl rfl rfl (by decide +kernel) ⟨Nat.le_of_ble_eq_true rfl, Nat.le_of_ble_eq_true rfl⟩) (kPreYV hK hY.2.1 hY (q0 := 0) rfl rfl) rfl rfl hl.1 rfl (lv_room (Nat.le_of_ble_eq_true rfl)) dL_law_671 ⟨Nat.le_of_ble_eq_true rfl, Nat.le_of_ble_eq_true rfl⟩) hS hA1 (fun H locs hY _ hk hS => ?_)
  have hP := kMod hP hj hk hap
  refine lv_aload_n hx hb dL_law_674 rfl (lv_at hl 2 rfl) ?_
  refine kCallWi (va_runV (As := []) (rest := [.int (mX5_undo S ).1]) ⟨hx, hb, hml, hown, hts⟩ (c_X6_undo l E bm u hj  hpm _ rfl) (cwV 0 hts gL_law_X6_undo rfl rfl rfl (by decide +kernel) ⟨Nat.le_of_ble_eq_true rfl, Nat.le_of_ble_eq_true rfl⟩) (kPreV hK hP hP (q0 := 0) rfl rfl) rfl rfl hl.1 rfl (lv_room (Nat.le_of_ble_eq_true rfl)) dL_law_675 ⟨Nat.le_of_ble_eq_true rfl, Nat.le_of_ble_eq_true rfl⟩) hS hA2 (fun H locs hP _ hk hS => ?_)
  have hY := hY.keptM hs hk hap
  have hM := M_undo h
  refine lv_icmp_eq (tgt := 729) hx hb dL_law_678 (by decide) (fun c1 => ?_) (fun c1 => ?_)
  · exact kk _ _ _ H locs (by omega) ⟨hM.2, hY, hP, hS⟩
  · exact absurd hM.1 c1
set_option maxHeartbeats 4000000 in
theorem law_save {p : Program} {l : Launch} {e : Env} {s : State} {m : MethodId} {below : List Frame} {meth : Method} {c : Code} {b L : Nat} {xs : Nat → Int32} {E : kE} {ad bm : Nat → Nat} {Q : State → Prop} {B : Nat} {S : kS} {u : kG} {H : Heap} {locs : List Loc} {ls : Array Slot} {x3 : Int32} (C : LC p s m meth c b L xs E ad bm) (hI : LI s E ad bm B S u H locs) (hB : B + 41 < 2 ^ 30) (hl : lv_has ls 4 [(0, .ref b), (1, .ref (ad 80)), (2, .ref (bm 0)), (3, .int x3)]) (hi1 : vp_in (x3 + 1) L) (kk : ∀ (B' : Nat) (S' : kS) (u' : kG) (H' : Heap) (locs' : List Loc), B' ≤ B + 41 → LI s E ad bm B' S' u' H' locs' → W p l e room_1 s m #[Value.ref b] below meth c H' locs' 99 5671 Q (F0 m 729 ls [])) : W p l e room_1 s m #[Value.ref b] below meth c H locs 99 5671 Q (F0 m 683 ls []) := by
  obtain ⟨hx, hb, hml, hown, hts, hX, hbl, hK, hs, hj, hA1, hA2, hap⟩ := C
  obtain ⟨h, hY, hP, hS⟩ := hI
  have hbA : ¬ lFr s b := Nat.not_le.mpr hbl
  have hh := h.his
  have hn := (RV.nn h.1).1
  have hm := (RV.nn h.1).2
  have hpm := h.pm
  have hp := h.pl.1
  have hq := h.pl.2
  refine lv_aload_n hx hb dL_law_683 rfl (lv_at hl 1 rfl) ?_
  refine lv_aload_n hx hb dL_law_684 rfl (lv_at hl 0 rfl) ?_
  refine lv_iload_n hx hb dL_law_685 rfl (lv_at hl 3 rfl) ?_
  refine lv_iconst (v := 1) hx hb dL_law_686 (by decide) ?_
  refine lv_iadd hx hb dL_law_687 ?_
  refine va_sld hx hb hX hbl hbA hS hi1 dL_law_688 ?_
  refine kCallYi (va_runV (As := [.int (xs (x3 + 1).toNatClampNeg)]) (rest := []) ⟨hx, hb, hml, hown, hts⟩ (c_X5_save l E ad S hs (xs (x3 + 1).toNatClampNeg)  _ rfl) (cwV 1 hts gL_law_X5_save rfl rfl rfl (by decide +kernel) ⟨Nat.le_of_ble_eq_true rfl, Nat.le_of_ble_eq_true rfl⟩) (kPreYV hK hY.2.1 hY (q0 := 0) rfl rfl) rfl rfl hl.1 rfl (lv_room (Nat.le_of_ble_eq_true rfl)) dL_law_689 ⟨Nat.le_of_ble_eq_true rfl, Nat.le_of_ble_eq_true rfl⟩) hS hA1 (fun H locs hY _ hk hS => ?_)
  have hP := kMod hP hj hk hap
  refine lv_aload_n hx hb dL_law_692 rfl (lv_at hl 2 rfl) ?_
  refine lv_aload_n hx hb dL_law_693 rfl (lv_at hl 0 rfl) ?_
  refine lv_iload_n hx hb dL_law_694 rfl (lv_at hl 3 rfl) ?_
  refine lv_iconst (v := 1) hx hb dL_law_695 (by decide) ?_
  refine lv_iadd hx hb dL_law_696 ?_
  refine va_sld hx hb hX hbl hbA hS hi1 dL_law_697 ?_
  refine kCallWi (va_runV (As := [.int (xs (x3 + 1).toNatClampNeg)]) (rest := [.int (mX5_save S (xs (x3 + 1).toNatClampNeg)).1]) ⟨hx, hb, hml, hown, hts⟩ (c_X6_save l E bm u hj (xs (x3 + 1).toNatClampNeg)  _ rfl) (cwV 1 hts gL_law_X6_save rfl rfl rfl (by decide +kernel) ⟨Nat.le_of_ble_eq_true rfl, Nat.le_of_ble_eq_true rfl⟩) (kPreV hK hP hP (q0 := 0) rfl rfl) rfl rfl hl.1 rfl (lv_room (Nat.le_of_ble_eq_true rfl)) dL_law_698 ⟨Nat.le_of_ble_eq_true rfl, Nat.le_of_ble_eq_true rfl⟩) hS hA2 (fun H locs hP _ hk hS => ?_)
  have hY := hY.keptM hs hk hap
  have hM := M_save (x := (xs (x3 + 1).toNatClampNeg)) h
  refine lv_icmp_eq (tgt := 729) hx hb dL_law_701 (by decide) (fun c1 => ?_) (fun c1 => ?_)
  · exact kk _ _ _ H locs (by omega) ⟨hM.2, hY, hP, hS⟩
  · exact absurd hM.1 c1
set_option maxHeartbeats 4000000 in
theorem law_restore {p : Program} {l : Launch} {e : Env} {s : State} {m : MethodId} {below : List Frame} {meth : Method} {c : Code} {b L : Nat} {xs : Nat → Int32} {E : kE} {ad bm : Nat → Nat} {Q : State → Prop} {B : Nat} {S : kS} {u : kG} {H : Heap} {locs : List Loc} {ls : Array Slot} {x3 : Int32} (C : LC p s m meth c b L xs E ad bm) (hI : LI s E ad bm B S u H locs) (hB : B + 41 < 2 ^ 30) (hl : lv_has ls 4 [(0, .ref b), (1, .ref (ad 80)), (2, .ref (bm 0)), (3, .int x3)]) (hi1 : vp_in (x3 + 1) L) (kk : ∀ (B' : Nat) (S' : kS) (u' : kG) (H' : Heap) (locs' : List Loc), B' ≤ B + 41 → LI s E ad bm B' S' u' H' locs' → W p l e room_1 s m #[Value.ref b] below meth c H' locs' 99 5671 Q (F0 m 729 ls [])) : W p l e room_1 s m #[Value.ref b] below meth c H locs 99 5671 Q (F0 m 706 ls []) := by
  obtain ⟨hx, hb, hml, hown, hts, hX, hbl, hK, hs, hj, hA1, hA2, hap⟩ := C
  obtain ⟨h, hY, hP, hS⟩ := hI
  have hbA : ¬ lFr s b := Nat.not_le.mpr hbl
  have hh := h.his
  have hn := (RV.nn h.1).1
  have hm := (RV.nn h.1).2
  have hpm := h.pm
  have hp := h.pl.1
  have hq := h.pl.2
  refine lv_aload_n hx hb dL_law_706 rfl (lv_at hl 1 rfl) ?_
  refine lv_aload_n hx hb dL_law_707 rfl (lv_at hl 0 rfl) ?_
  refine lv_iload_n hx hb dL_law_708 rfl (lv_at hl 3 rfl) ?_
  refine lv_iconst (v := 1) hx hb dL_law_709 (by decide) ?_
  refine lv_iadd hx hb dL_law_710 ?_
  refine va_sld hx hb hX hbl hbA hS hi1 dL_law_711 ?_
  refine kCallYi (va_runV (As := [.int (xs (x3 + 1).toNatClampNeg)]) (rest := []) ⟨hx, hb, hml, hown, hts⟩ (c_X5_restore l E ad S hs (xs (x3 + 1).toNatClampNeg) hh _ rfl) (cwV 1 hts gL_law_X5_restore rfl rfl rfl (by decide +kernel) ⟨Nat.le_of_ble_eq_true rfl, Nat.le_of_ble_eq_true rfl⟩) (kPreYV hK hY.2.1 hY (q0 := 0) rfl rfl) rfl rfl hl.1 rfl (lv_room (Nat.le_of_ble_eq_true rfl)) dL_law_712 ⟨Nat.le_of_ble_eq_true rfl, Nat.le_of_ble_eq_true rfl⟩) hS hA1 (fun H locs hY _ hk hS => ?_)
  have hP := kMod hP hj hk hap
  refine lv_aload_n hx hb dL_law_715 rfl (lv_at hl 2 rfl) ?_
  refine lv_aload_n hx hb dL_law_716 rfl (lv_at hl 0 rfl) ?_
  refine lv_iload_n hx hb dL_law_717 rfl (lv_at hl 3 rfl) ?_
  refine lv_iconst (v := 1) hx hb dL_law_718 (by decide) ?_
  refine lv_iadd hx hb dL_law_719 ?_
  refine va_sld hx hb hX hbl hbA hS hi1 dL_law_720 ?_
  refine kCallWi (va_runV (As := [.int (xs (x3 + 1).toNatClampNeg)]) (rest := [.int (mX5_restore S (xs (x3 + 1).toNatClampNeg)).1]) ⟨hx, hb, hml, hown, hts⟩ (c_X6_restore l E bm u hj (xs (x3 + 1).toNatClampNeg) hpm _ rfl) (cwV 1 hts gL_law_X6_restore rfl rfl rfl (by decide +kernel) ⟨Nat.le_of_ble_eq_true rfl, Nat.le_of_ble_eq_true rfl⟩) (kPreV hK hP hP (q0 := 0) rfl rfl) rfl rfl hl.1 rfl (lv_room (Nat.le_of_ble_eq_true rfl)) dL_law_721 ⟨Nat.le_of_ble_eq_true rfl, Nat.le_of_ble_eq_true rfl⟩) hS hA2 (fun H locs hP _ hk hS => ?_)
  have hY := hY.keptM hs hk hap
  have hM := M_restore (x := (xs (x3 + 1).toNatClampNeg)) h
  refine lv_icmp_eq (tgt := 729) hx hb dL_law_724 (by decide) (fun c1 => ?_) (fun c1 => ?_)
  · exact kk _ _ _ H locs (by omega) ⟨hM.2, hY, hP, hS⟩
  · exact absurd hM.1 c1
