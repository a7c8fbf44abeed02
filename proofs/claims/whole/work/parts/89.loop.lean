/-! the law's loop -/
set_option maxHeartbeats 4000000 in
theorem law_loop {p : Program} {l : Launch} {e : Env} {s : State} {m : MethodId} {below : List Frame} {meth : Method} {c : Code} {b L : Nat} {xs : Nat → Int32} {E : kE} {ad bm : Nat → Nat} {Q : State → Prop} (hL : L ≤ 2048) (C : LC p s m meth c b L xs E ad bm) (kend : ∀ (H : Heap) (locs : List Loc) (ls : Array Slot), va_S (lFr s) s.heap H locs → W p l e room_1 s m #[Value.ref b] below meth c H locs 99 5671 Q (F0 m 735 ls [])) : ∀ (n i : Nat), i ≤ 512 → 513 ≤ i + n → ∀ (S : kS) (u : kG) (H : Heap) (locs : List Loc) (ls : Array Slot), LI s E ad bm (41 * i) S u H locs → lv_has ls 4 [(0, .ref b), (1, .ref (ad 80)), (2, .ref (bm 0)), (3, .int (nI (4 * i)))] → W p l e room_1 s m #[Value.ref b] below meth c H locs 99 5671 Q (F0 m 18 ls []) := by
  intro n
  induction n with
  | zero =>
    intro i h1 h2
    exact absurd h2 (by omega)
  | succ n ih =>
    intro i h1 h2 S u H locs ls hI hl
    have hx := C.1
    have hb := C.2.1
    have hX := C.2.2.2.2.2.1
    have hbl := C.2.2.2.2.2.2.1
    have hS := hI.2.2.2
    have hbA : ¬ lFr s b := Nat.not_le.mpr hbl
    refine lv_iload_n hx hb dL_law_18 rfl (lv_at hl 3 rfl) ?_
    refine lv_aload_n hx hb dL_law_19 rfl (lv_at hl 0 rfl) ?_
    refine va_slen hx hb hX hbl hbA hS dL_law_20 ?_
    refine lv_iconst (v := nI 4) hx hb dL_law_21 (by decide) ?_
    refine lv_isub hx hb dL_law_22 ?_
    refine lv_icmp_gt (tgt := 735) hx hb dL_law_23 (by decide) (fun c1 => kend _ _ _ hS) (fun c1 => ?_)
    have h4 : 4 * i + 4 ≤ L := by
      have c2 : ¬ (nI L - nI 4 < nI (4 * i)) := c1
      rw [Int32.lt_iff_toInt_lt, pk_sub_toInt (by omega) (by omega), nI_toInt (by omega)] at c2
      omega
    have hi0 : vp_in (nI (4 * i)) L := vp_in_nI (by omega) (by omega)
    have hi1 : vp_in (nI (4 * i) + 1) L := by rw [show (1 : Int32) = nI 1 from rfl, nI_add]; exact vp_in_nI (by omega) (by omega)
    have hi2 : vp_in (nI (4 * i) + 2) L := by rw [show (2 : Int32) = nI 2 from rfl, nI_add]; exact vp_in_nI (by omega) (by omega)
    have hi3 : vp_in (nI (4 * i) + 3) L := by rw [show (3 : Int32) = nI 3 from rfl, nI_add]; exact vp_in_nI (by omega) (by omega)
    refine lv_aload_n hx hb dL_law_26 rfl (lv_at hl 0 rfl) ?_
    refine lv_iload_n hx hb dL_law_27 rfl (lv_at hl 3 rfl) ?_
    refine va_sld hx hb hX hbl hbA hS hi0 dL_law_28 ?_
    refine lv_bipush (v := 31) hx hb dL_law_29 (by decide) ?_
    refine lv_iand hx hb dL_law_31 ?_
    have kk : ∀ (B' : Nat) (S' : kS) (u' : kG) (H' : Heap) (locs' : List Loc), B' ≤ 41 * i + 41 → LI s E ad bm B' S' u' H' locs' → W p l e room_1 s m #[Value.ref b] below meth c H' locs' 99 5671 Q (F0 m 729 ls []) := by
      intro B' S' u' H' locs' hB' hI'
      refine lv_iinc (v := nI (4 * (i + 1))) (lv' := [(3, .int (nI (4 * (i + 1)))), (0, .ref b), (1, .ref (ad 80)), (2, .ref (bm 0))]) hx hb dL_law_729 hl (k := 3) rfl (by rw [show Int32.ofInt 4 = nI 4 from by decide, nI_add]; rfl) (by decide) rfl (fun ls hl => ?_)
      refine lv_goto (tgt := 18) hx hb dL_law_732 (by decide) ?_
      exact ih (i + 1) (by omega) (by omega) S' u' H' locs' ls ⟨hI'.1.mono (by omega), hI'.2⟩ (lv_sub hl [1, 2, 3, 0] rfl)
    have hB : 41 * i + 41 < 2 ^ 30 := by omega
    obtain ⟨k, hk, ek⟩ := kand31 (xs (nI (4 * i)).toNatClampNeg)
    rw [ek]
    rcases Nat.lt_or_ge k 23 with q | q
    · match k, q with
      | 0, _ => exact lv_tableIn (off := 108) (tgt := 140) hx hb dL_law_32 (by decide +kernel) (by decide +kernel) (by decide +kernel) (by decide) (law_rule C hI hB hl hi1 kk)
      | 1, _ => exact lv_tableIn (off := 131) (tgt := 163) hx hb dL_law_32 (by decide +kernel) (by decide +kernel) (by decide +kernel) (by decide) (law_begin C hI hB hl kk)
      | 2, _ => exact lv_tableIn (off := 144) (tgt := 176) hx hb dL_law_32 (by decide +kernel) (by decide +kernel) (by decide +kernel) (by decide) (law_read C hI hB hl hi1 hi2 kk)
      | 3, _ => exact lv_tableIn (off := 177) (tgt := 209) hx hb dL_law_32 (by decide +kernel) (by decide +kernel) (by decide +kernel) (by decide) (law_write C hI hB hl hi1 hi2 hi3 kk)
      | 4, _ => exact lv_tableIn (off := 220) (tgt := 252) hx hb dL_law_32 (by decide +kernel) (by decide +kernel) (by decide +kernel) (by decide) (law_commit C hI hB hl hi1 kk)
      | 5, _ => exact lv_tableIn (off := 243) (tgt := 275) hx hb dL_law_32 (by decide +kernel) (by decide +kernel) (by decide +kernel) (by decide) (law_abort C hI hB hl hi1 kk)
      | 6, _ => exact lv_tableIn (off := 266) (tgt := 298) hx hb dL_law_32 (by decide +kernel) (by decide +kernel) (by decide +kernel) (by decide) (law_value C hI hB hl hi1 kk)
      | 7, _ => exact lv_tableIn (off := 289) (tgt := 321) hx hb dL_law_32 (by decide +kernel) (by decide +kernel) (by decide +kernel) (by decide) (law_of C hI hB hl hi1 hi2 kk)
      | 8, _ => exact lv_tableIn (off := 322) (tgt := 354) hx hb dL_law_32 (by decide +kernel) (by decide +kernel) (by decide +kernel) (by decide) (law_edge C hI hB hl hi1 hi2 kk)
      | 9, _ => exact lv_tableIn (off := 355) (tgt := 387) hx hb dL_law_32 (by decide +kernel) (by decide +kernel) (by decide +kernel) (by decide) (law_over C hI hB hl hi1 hi2 kk)
      | 10, _ => exact lv_tableIn (off := 388) (tgt := 420) hx hb dL_law_32 (by decide +kernel) (by decide +kernel) (by decide +kernel) (by decide) (law_count C hI hB hl hi1 kk)
      | 11, _ => exact lv_tableIn (off := 411) (tgt := 443) hx hb dL_law_32 (by decide +kernel) (by decide +kernel) (by decide +kernel) (by decide) (law_order C hI hB hl hi1 kk)
      | 12, _ => exact lv_tableIn (off := 434) (tgt := 466) hx hb dL_law_32 (by decide +kernel) (by decide +kernel) (by decide +kernel) (by decide) (law_sees C hI hB hl hi1 hi2 kk)
      | 13, _ => exact lv_tableIn (off := 467) (tgt := 499) hx hb dL_law_32 (by decide +kernel) (by decide +kernel) (by decide +kernel) (by decide) (law_would C hI hB hl hi1 kk)
      | 14, _ => exact lv_tableIn (off := 490) (tgt := 522) hx hb dL_law_32 (by decide +kernel) (by decide +kernel) (by decide +kernel) (by decide) (law_triple C hI hB hl hi1 hi2 kk)
      | 15, _ => exact lv_tableIn (off := 523) (tgt := 555) hx hb dL_law_32 (by decide +kernel) (by decide +kernel) (by decide +kernel) (by decide) (law_doomed C hI hB hl hi1 kk)
      | 16, _ => exact lv_tableIn (off := 546) (tgt := 578) hx hb dL_law_32 (by decide +kernel) (by decide +kernel) (by decide +kernel) (by decide) (law_put C hI hB hl hi1 hi2 kk)
      | 17, _ => exact lv_tableIn (off := 599) (tgt := 631) hx hb dL_law_32 (by decide +kernel) (by decide +kernel) (by decide +kernel) (by decide) (law_wipe C hI hB hl kk)
      | 18, _ => exact lv_tableIn (off := 612) (tgt := 644) hx hb dL_law_32 (by decide +kernel) (by decide +kernel) (by decide +kernel) (by decide) (law_fault C hI hB hl kk)
      | 19, _ => exact lv_tableIn (off := 625) (tgt := 657) hx hb dL_law_32 (by decide +kernel) (by decide +kernel) (by decide +kernel) (by decide) (law_carryOut C hI hB hl kk)
      | 20, _ => exact lv_tableIn (off := 638) (tgt := 670) hx hb dL_law_32 (by decide +kernel) (by decide +kernel) (by decide +kernel) (by decide) (law_undo C hI hB hl kk)
      | 21, _ => exact lv_tableIn (off := 651) (tgt := 683) hx hb dL_law_32 (by decide +kernel) (by decide +kernel) (by decide +kernel) (by decide) (law_save C hI hB hl hi1 kk)
      | 22, _ => exact lv_tableIn (off := 674) (tgt := 706) hx hb dL_law_32 (by decide +kernel) (by decide +kernel) (by decide +kernel) (by decide) (law_restore C hI hB hl hi1 kk)
      | k + 23, q => exact absurd q (by omega)
    · exact lv_tableOut (tgt := 729) hx hb dL_law_32 (Or.inr (by rw [nI_toInt (by omega)]; omega)) (by decide) (kk _ S u H locs (by omega) hI)
