set_option maxHeartbeats 4000000 in
set_option maxRecDepth 100000 in
theorem law_E {p : Program} {l : Launch} {e : Env} {s : State} {m : MethodId} {below : List Frame} {meth : Method} {c : Code} {b L : Nat} {xs : Nat → Int32} {E : kE} {ad ra : Nat → Nat} {qa : Nat} {Q : State → Prop} {n mm ρ i0 : Nat} {bb cc : Nat → Nat} {S : kS} {z w : Nat → Int32} {H : Heap} {locs : List Loc} {ls : Array Slot} {k t : Nat} {G : Int32} (C : LC p s m meth c b L xs E ad ra qa) (hI : LI s E ad ra qa n mm bb cc ρ S z w H locs) (hmm : mm ≤ i0) (hi0 : i0 < 52) (hk : k < 5) (ht : t < n) (ht0 : S 0 1 t = 0) (hl : lv_has ls 15 [(9, .int (nI k)), (8, .int (nI t)), (6, .int G), (5, .int (nI i0)), (0, .ref b), (1, .ref (ad 80)), (2, .ref (ra 0)), (3, .ref qa), (4, .int (nI ρ))]) (kk : ∀ (n mm : Nat) (bb cc : Nat → Nat) (S : kS) (z w : Nat → Int32) (H : Heap) (locs : List Loc) (ls : Array Slot), mm ≤ i0 + 1 → LI s E ad ra qa n mm bb cc ρ S z w H locs → lv_has ls 15 [(5, .int (nI (i0 + 1))), (0, .ref b), (1, .ref (ad 80)), (2, .ref (ra 0)), (3, .ref qa), (4, .int (nI ρ))] → W p l e room_1 s m #[Value.ref b] below meth c H locs 92 2996 Q (F0 m 52 ls [])) : W p l e room_1 s m #[Value.ref b] below meth c H locs 92 2996 Q (F0 m 538 ls []) := by
  have C0 := C
  have hI0 := hI
  obtain ⟨hx, hb, hml, hown, hts, hX, hL, hbl, hK, hs, hA, hra, hqa, hap, hapq, hrq⟩ := C
  obtain ⟨hY, hR, hV, hS, hlt, hrl, hh, hQ⟩ := hI
  have hn12 := hQ.1.1
  have h2 := hQ.2.1
  have hI := hQ.2.2.1
  have hm30 := hI.2.1
  have hno : nOK (S 0 0 2) := ⟨n, hn12, h2⟩
  have hnr : nOK ((fun _ => z : kG) 0 49) := ⟨n, hn12, hQ.1.2.1⟩
  obtain ⟨_, _, _, h48, hB, hZ, hρ, hρ4, hW7, hF, hN, h0⟩ := id hQ
  refine lv_aload_n hx hb dL_law_538 rfl (lv_at hl 6 rfl) ?_
  refine lv_iload hx hb dL_law_539 (lv_at hl 8 rfl) ?_
  refine lv_iload hx hb dL_law_541 (lv_at hl 1 rfl) ?_
  refine kCallWi (va_runS (As := [.ref (ra 0), .int (nI ρ), .int (nI t)]) (rest := []) ⟨hx, hb, hml, hown, hts⟩ (c_L_reason l E ra (fun _ => z) (fun i j h1 h2 _ => by omega) (nI ρ) (nI t) hnr (tOK.nI (by omega)) _ rfl) (va_cwS 3 hts gL_law_L_reason rfl rfl rfl (by decide +kernel) ⟨Nat.le_of_ble_eq_true rfl, Nat.le_of_ble_eq_true rfl⟩) (kPreS hK hR) rfl rfl hl.1 rfl (lv_room (Nat.le_of_ble_eq_true rfl)) dL_law_543 ⟨Nat.le_of_ble_eq_true rfl, Nat.le_of_ble_eq_true rfl⟩) hS (fun q h => by obtain ⟨i, hi, e⟩ := h; rw [e, show i = 0 by omega]; exact hra) (fun H1 locs1 hR hsz hkp hS => ?_)
  have hY := hY.keptA (A := kA ra 1) hs hkp hap
  have hV := kP_kept (A := fun q => q = qa) hV (kD1 rfl) (fun q (h : q = qa) y => by obtain ⟨i, hi, e⟩ := y; exact hrq (by rw [show i = 0 by omega] at e; exact e.symm.trans h)) hkp
  have hlt : ∀ x, kA ad 90 x → x < H1.size := fun x hx => Nat.lt_of_lt_of_le (hlt x hx) hsz
  have hrl : ra 0 < H1.size := Nat.lt_of_lt_of_le hrl hsz
  have hr1 := reas_R (r := (fun _ => z)) (ρ := ρ) hQ.1 hI h48 hρ4 ht ht0
  refine kGen (mL_reason (fun _ => z) (nI ρ) (nI t)) (fun d1 hd1 => ?_)
  rw [hd1] at hR hr1 ⊢
  rw [hr1.1] at hR
  refine lv_istore (lv' := [(12, .int (d1.1)), (9, .int (nI k)), (8, .int (nI t)), (6, .int G), (5, .int (nI i0)), (0, .ref b), (1, .ref (ad 80)), (2, .ref (ra 0)), (3, .ref qa), (4, .int (nI ρ))]) hx hb dL_law_546 hl (by decide) rfl (fun ls hl => ?_)
  have hcl := refu_R (v := S 0) (ρ := ρ) hn12 h2 hI hρ4 ht ht0
  have hdu := hr1.2.uniq hcl
  have hRS := hr1.2
  rcases hr1.2 with ⟨e1, _⟩ | ⟨_, ⟨e1, _⟩ | ⟨e1, _⟩⟩
  · have hdue : mX0_refusal (S 0) (nI t) (nI ρ) = 1 := by rw [← hdu, e1]
    rw [e1] at hl hRS
    refine lv_iload hx hb dL_law_548 (lv_at hl 3 rfl) ?_
    refine lv_bipush (v := 16) hx hb dL_law_550 (by decide) ?_
    refine lv_ishr hx hb dL_law_552 ?_
    refine lv_iconst (v := 4) hx hb dL_law_553 (by decide) ?_
    refine kCallRi (va_runS (As := [.int (G >>> (16 &&& 31)), .int 4]) (rest := []) ⟨hx, hb, hml, hown, hts⟩ (c_L_low l E (G >>> (16 &&& 31)) 4 (by decide) _ rfl) (va_cwS 2 hts gL_law_L_low rfl rfl rfl (by decide +kernel) ⟨Nat.le_of_ble_eq_true rfl, Nat.le_of_ble_eq_true rfl⟩) (kPreS hK kP0) rfl rfl hl.1 rfl (lv_room (Nat.le_of_ble_eq_true rfl)) dL_law_554 ⟨Nat.le_of_ble_eq_true rfl, Nat.le_of_ble_eq_true rfl⟩) ?_
    obtain ⟨o, ho, eo⟩ := low_lt (G >>> (16 &&& 31)) (a := 4) (by decide) (by decide)
    refine W.eq (g2 := F0 m 557 ls [.int (nI o)]) (by rw [show mL_low (G >>> (16 &&& 31)) 4 = nI o from eo]) ?_
    refine lv_istore (lv' := [(13, .int (nI o)), (12, .int 1), (9, .int (nI k)), (8, .int (nI t)), (6, .int G), (5, .int (nI i0)), (0, .ref b), (1, .ref (ad 80)), (2, .ref (ra 0)), (3, .ref qa), (4, .int (nI ρ))]) hx hb dL_law_557 hl (by decide) rfl (fun ls hl => ?_)
    refine lv_aload_n hx hb dL_law_559 rfl (lv_at hl 8 rfl) ?_
    refine lv_iload hx hb dL_law_560 (lv_at hl 0 rfl) ?_
    refine lv_iload hx hb dL_law_562 (lv_at hl 3 rfl) ?_
    refine kCallWi (va_runS (As := [.ref (ra 0), .int (nI o), .int (nI t)]) (rest := []) ⟨hx, hb, hml, hown, hts⟩ (c_L_reason l E ra (fun _ => z) (fun i j h1 h2 _ => by omega) (nI o) (nI t) hnr (tOK.nI (by omega)) _ rfl) (va_cwS 3 hts gL_law_L_reason rfl rfl rfl (by decide +kernel) ⟨Nat.le_of_ble_eq_true rfl, Nat.le_of_ble_eq_true rfl⟩) (kPreS hK hR) rfl rfl hl.1 rfl (lv_room (Nat.le_of_ble_eq_true rfl)) dL_law_564 ⟨Nat.le_of_ble_eq_true rfl, Nat.le_of_ble_eq_true rfl⟩) hS (fun q h => by obtain ⟨i, hi, e⟩ := h; rw [e, show i = 0 by omega]; exact hra) (fun H1 locs1 hR hsz hkp hS => ?_)
    have hY := hY.keptA (A := kA ra 1) hs hkp hap
    have hV := kP_kept (A := fun q => q = qa) hV (kD1 rfl) (fun q (h : q = qa) y => by obtain ⟨i, hi, e⟩ := y; exact hrq (by rw [show i = 0 by omega] at e; exact e.symm.trans h)) hkp
    have hlt : ∀ x, kA ad 90 x → x < H1.size := fun x hx => Nat.lt_of_lt_of_le (hlt x hx) hsz
    have hrl : ra 0 < H1.size := Nat.lt_of_lt_of_le hrl hsz
    have hr2 := reas_R (r := (fun _ => z)) (ρ := o) hQ.1 hI h48 ho ht ht0
    refine kGen (mL_reason (fun _ => z) (nI o) (nI t)) (fun d2 hd2 => ?_)
    rw [hd2] at hR hr2 ⊢
    rw [hr2.1] at hR
    refine lv_if_le (tgt := 574) hx hb dL_law_567 (by decide) (fun c_51 => ?_) (fun c_51 => ?_)
    · have hF_ : mX0_refusal (S 0) (nI t) (nI o) = 0 := by
        have e := hr2.2.uniq (refu_R (v := S 0) (ρ := o) hn12 h2 hI ho ht ht0)
        rcases hr2.2 with ⟨e1, _⟩ | ⟨_, ⟨e1, _⟩ | ⟨e1, _⟩⟩
        · rw [e1] at c_51; exact absurd c_51 (by decide)
        · rw [e1] at c_51; exact absurd c_51 (by decide)
        · rw [← e, e1]
      refine lv_iconst (v := 0) hx hb dL_law_574 (by decide) ?_
      refine lv_istore (lv' := [(14, .int 0), (13, .int (nI o)), (12, .int 1), (9, .int (nI k)), (8, .int (nI t)), (6, .int G), (5, .int (nI i0)), (0, .ref b), (1, .ref (ad 80)), (2, .ref (ra 0)), (3, .ref qa), (4, .int (nI ρ))]) hx hb dL_law_575 hl (by decide) rfl (fun ls hl => ?_)
      refine lv_aload_n hx hb dL_law_577 rfl (lv_at hl 8 rfl) ?_
      refine lv_iload hx hb dL_law_578 (lv_at hl 1 rfl) ?_
      refine kCallRi (va_runV (As := [.int (nI o)]) (rest := []) ⟨hx, hb, hml, hown, hts⟩ (c_X5_doomed l E ad S hs (nI o) hno _ rfl) (cwV 1 hts gL_law_X5_doomed rfl rfl rfl (by decide +kernel) ⟨Nat.le_of_ble_eq_true rfl, Nat.le_of_ble_eq_true rfl⟩) (kPreYV hK hY.2.1 hY (q0 := 0) rfl rfl) rfl rfl hl.1 rfl (lv_room (Nat.le_of_ble_eq_true rfl)) dL_law_580 ⟨Nat.le_of_ble_eq_true rfl, Nat.le_of_ble_eq_true rfl⟩) ?_
      refine lv_iload hx hb dL_law_583 (lv_at hl 4 rfl) ?_
      refine lv_ishr hx hb dL_law_585 ?_
      refine lv_iconst (v := 1) hx hb dL_law_586 (by decide) ?_
      refine lv_iand hx hb dL_law_587 ?_
      refine lv_iload hx hb dL_law_588 (lv_at hl 0 rfl) ?_
      refine lv_if_eq (tgt := 597) hx hb dL_law_590 (by decide) (fun _ => ?_) (fun c => absurd (by decide) c)
      refine lv_iconst (v := 0) hx hb dL_law_597 (by decide) ?_
      refine lv_icmp_ne (tgt := 674) hx hb dL_law_598 (by decide) (fun c => absurd (by first | exact (doom_A (S := S) hn12 h2 ho ht ht0).trans (if_pos hF_) | exact (doom_A (S := S) hn12 h2 ho ht ht0).trans (if_neg hF_)) c) (fun _ => ?_)
      refine lv_aload_n hx hb dL_law_601 rfl (lv_at hl 8 rfl) ?_
      refine lv_iload hx hb dL_law_602 (lv_at hl 4 rfl) ?_
      refine kCallRi (va_runV (As := [.int (nI t)]) (rest := []) ⟨hx, hb, hml, hown, hts⟩ (c_X5_would l E ad S hs (nI t) hno _ rfl) (cwV 1 hts gL_law_X5_would rfl rfl rfl (by decide +kernel) ⟨Nat.le_of_ble_eq_true rfl, Nat.le_of_ble_eq_true rfl⟩) (kPreYV hK hY.2.1 hY (q0 := 0) rfl rfl) rfl rfl hl.1 rfl (lv_room (Nat.le_of_ble_eq_true rfl)) dL_law_604 ⟨Nat.le_of_ble_eq_true rfl, Nat.le_of_ble_eq_true rfl⟩) ?_
      refine lv_iload hx hb dL_law_607 (lv_at hl 2 rfl) ?_
      refine lv_icmp_ne (tgt := 674) hx hb dL_law_609 (by decide) (fun c => absurd ((would_A (S := S) hn12 h2 ht ht0 hρ).trans hdue) c) (fun _ => ?_)
      refine lv_aload_n hx hb dL_law_612 rfl (lv_at hl 8 rfl) ?_
      refine lv_iload hx hb dL_law_613 (lv_at hl 4 rfl) ?_
      refine lv_iconst (v := 0) hx hb dL_law_615 (by decide) ?_
      refine kCallRi (va_runV (As := [.int (nI t), .int 0]) (rest := []) ⟨hx, hb, hml, hown, hts⟩ (c_X5_triple l E ad S hs (nI t) 0 hno _ rfl) (cwV 2 hts gL_law_X5_triple rfl rfl rfl (by decide +kernel) ⟨Nat.le_of_ble_eq_true rfl, Nat.le_of_ble_eq_true rfl⟩) (kPreYV hK hY.2.1 hY (q0 := 0) rfl rfl) rfl rfl hl.1 rfl (lv_room (Nat.le_of_ble_eq_true rfl)) dL_law_616 ⟨Nat.le_of_ble_eq_true rfl, Nat.le_of_ble_eq_true rfl⟩) ?_
      refine lv_if_lt (tgt := 626) hx hb dL_law_619 (by decide) (fun _ => ?_) (fun c => absurd (by rw [trip_A (S := S) hn12 h2 hI hρ4 ht ht0 hρ, hdue]; decide) c)
      refine lv_iconst (v := 0) hx hb dL_law_626 (by decide) ?_
      refine lv_iload hx hb dL_law_627 (lv_at hl 2 rfl) ?_
      refine lv_iconst (v := 2) hx hb dL_law_629 (by decide) ?_
      refine lv_icmp_ne (tgt := 637) hx hb dL_law_630 (by decide) (fun _ => ?_) (fun c => absurd c (by decide))
      refine lv_iconst (v := 0) hx hb dL_law_637 (by decide) ?_
      refine lv_icmp_ne (tgt := 674) hx hb dL_law_638 (by decide) (fun c => absurd (by decide) c) (fun _ => ?_)
      refine lv_aload_n hx hb dL_law_641 rfl (lv_at hl 8 rfl) ?_
      refine lv_iload hx hb dL_law_642 (lv_at hl 4 rfl) ?_
      refine kCallYi (va_runV (As := [.int (nI t)]) (rest := []) ⟨hx, hb, hml, hown, hts⟩ (c_X5_commit l E ad S hs (nI t) hh hno _ rfl) (cwV 1 hts gL_law_X5_commit rfl rfl rfl (by decide +kernel) ⟨Nat.le_of_ble_eq_true rfl, Nat.le_of_ble_eq_true rfl⟩) (kPreYV hK hY.2.1 hY (q0 := 0) rfl rfl) rfl rfl hl.1 rfl (lv_room (Nat.le_of_ble_eq_true rfl)) dL_law_644 ⟨Nat.le_of_ble_eq_true rfl, Nat.le_of_ble_eq_true rfl⟩) hS (fun q h => hA q h) (fun H1 locs1 hY hsz hkp hS => ?_)
      have hR := kP_kept hR (dR (fun i j h1 h2 _ => by omega) _) (fun q z y => hap q y z) hkp
      have hV := kP_kept (A := fun q => q = qa) hV (kD1 rfl) (fun q (h : q = qa) y => hapq q y h) hkp
      have hlt : ∀ x, kA ad 90 x → x < H1.size := fun x hx => Nat.lt_of_lt_of_le (hlt x hx) hsz
      have hrl : ra 0 < H1.size := Nat.lt_of_lt_of_le hrl hsz
      have hAn := commit_no (S := S) hn12 h2 hh ht ht0 hρ hdue (by decide)
      refine kGen (mX5_commit S (nI t)) (fun g1 hg1 => ?_)
      rw [hg1] at hY hAn ⊢
      have hn1 : nOK (g1.2 0 0 2) := by rw [hAn.2.1 0 (by decide) (by decide)]; exact hno
      have h21 : g1.2 0 0 2 = nI n := by rw [hAn.2.1 0 (by decide) (by decide)]; exact h2
      refine lv_iload hx hb dL_law_647 (lv_at hl 2 rfl) ?_
      refine lv_icmp_ne (tgt := 674) hx hb dL_law_649 (by decide) (fun c => absurd hAn.1 c) (fun _ => ?_)
      refine lv_iload hx hb dL_law_652 (lv_at hl 2 rfl) ?_
      refine lv_if_eq (tgt := 670) hx hb dL_law_654 (by decide) (fun c => absurd c (by decide)) (fun _ => ?_)
      refine lv_aload_n hx hb dL_law_657 rfl (lv_at hl 8 rfl) ?_
      refine lv_iload hx hb dL_law_658 (lv_at hl 4 rfl) ?_
      refine lv_bipush (v := 7) hx hb dL_law_660 (by decide) ?_
      refine kCallRi (va_runV (As := [.int (nI t), .int 7]) (rest := []) ⟨hx, hb, hml, hown, hts⟩ (c_X5_of l E ad (g1.2) hs (nI t) 7 hn1 _ rfl) (cwV 2 hts gL_law_X5_of rfl rfl rfl (by decide +kernel) ⟨Nat.le_of_ble_eq_true rfl, Nat.le_of_ble_eq_true rfl⟩) (kPreYV hK hY.2.1 hY (q0 := 0) rfl rfl) rfl rfl hl.1 rfl (lv_room (Nat.le_of_ble_eq_true rfl)) dL_law_662 ⟨Nat.le_of_ble_eq_true rfl, Nat.le_of_ble_eq_true rfl⟩) ?_
      refine lv_iload hx hb dL_law_665 (lv_at hl 2 rfl) ?_
      refine lv_icmp_ne (tgt := 674) hx hb dL_law_667 (by decide) (fun c => absurd ((of_0 (S := g1.2) hn12 h21 ht).2.2.2.2.2.2.2.1.trans (by rw [hAn.2.2.2.1, pk_us])) c) (fun _ => ?_)
      refine lv_iconst (v := 1) hx hb dL_law_670 (by decide) ?_
      refine lv_goto (tgt := 675) hx hb dL_law_671 (by decide) ?_
      refine lv_istore (lv' := [(11, .int 1), (14, .int 0), (13, .int (nI o)), (12, .int 1), (9, .int (nI k)), (8, .int (nI t)), (6, .int G), (5, .int (nI i0)), (0, .ref b), (1, .ref (ad 80)), (2, .ref (ra 0)), (3, .ref qa), (4, .int (nI ρ))]) hx hb dL_law_675 hl (by decide) rfl (fun ls hl => ?_)
      refine lv_aload_n hx hb dL_law_677 rfl (lv_at hl 10 rfl) ?_
      refine lv_bipush (v := 48) hx hb dL_law_678 (by decide) ?_
      refine lv_dup2_11 hx hb dL_law_680 rfl rfl ?_
      refine va_iald (D := E.1) hx hb hK.1 hR 0 0 rfl rfl (vp_in_nI (n := 48) (by decide) (by decide)) dL_law_681 ?_
      refine W.eq (g2 := F0 m 682 ls [.int (z 48), .int 48, .ref (ra 0)]) rfl ?_
      refine lv_iload hx hb dL_law_682 (lv_at hl 3 rfl) ?_
      refine lv_if_ne (tgt := 691) hx hb dL_law_684 (by decide) (fun _ => ?_) (fun c => absurd c (by decide))
      refine lv_iconst (v := 0) hx hb dL_law_691 (by decide) ?_
      refine lv_iadd hx hb dL_law_692 ?_
      refine kSto hx hb hK hR hra hS (vp_in_nI (n := 48) (by decide) (by decide)) dL_law_693 (fun H1 locs1 hN1 ho hS1 hz1 => ?_)
      have hY := hY.keptA (A := fun q => q = ra 0) hs (fun q _ h2 => ho q h2) (fun q hq (h : q = ra 0) => hap q hq ⟨0, by omega, h⟩)
      have hV := kP1 hV (ho _ (show qa ≠ ra 0 from Ne.symm hrq))
      have hR : va_P E.1 vwCl (wRx E ra (upd z 48 ((z 48) + 0))) H1 := hN1
      have hS := hS1
      have hlt : ∀ x, kA ad 90 x → x < H1.size := fun x hx => by rw [hz1]; exact hlt x hx
      have hrl : ra 0 < H1.size := by rw [hz1]; exact hrl
      refine lv_aload_n hx hb dL_law_694 rfl (lv_at hl 10 rfl) ?_
      refine lv_bipush (v := 12) hx hb dL_law_695 (by decide) ?_
      refine lv_iload hx hb dL_law_697 (lv_at hl 5 rfl) ?_
      refine lv_iadd hx hb dL_law_699 ?_
      refine lv_iload hx hb dL_law_700 (lv_at hl 3 rfl) ?_
      refine lv_if_ne (tgt := 712) hx hb dL_law_702 (by decide) (fun _ => ?_) (fun c => absurd c (by decide))
      refine lv_iconst (v := (-1)) hx hb dL_law_712 (by decide) ?_
      refine kSto hx hb hK hR hra hS (rIn 12 (by decide) (by first | assumption | exact tOK.nI (by omega))) dL_law_713 (fun H1 locs1 hN1 ho hS1 hz1 => ?_)
      have hY := hY.keptA (A := fun q => q = ra 0) hs (fun q _ h2 => ho q h2) (fun q hq (h : q = ra 0) => hap q hq ⟨0, by omega, h⟩)
      have hV := kP1 hV (ho _ (show qa ≠ ra 0 from Ne.symm hrq))
      rw [rA12 (t := t) (by omega)] at hN1
      have hR : va_P E.1 vwCl (wRx E ra (upd (upd z 48 ((z 48) + 0)) (12 + t) (-1))) H1 := hN1
      have hS := hS1
      have hlt : ∀ x, kA ad 90 x → x < H1.size := fun x hx => by rw [hz1]; exact hlt x hx
      have hrl : ra 0 < H1.size := by rw [hz1]; exact hrl
      refine lv_goto (tgt := 795) hx hb dL_law_714 (by decide) ?_
      exact law_tail C0 (n := n) (mm := mm) (bb := bb) (cc := cc) (S := (g1.2)) (z := (upd (upd z 48 ((z 48) + 0)) (12 + t) (-1))) (w := w) ⟨hY, hR, hV, hS, hlt, hrl, hAn.2.2.2.2, (hQ.abort (x := 1) ht ht0 (by decide) hAn.2.1 hAn.2.2.1 hAn.2.2.2.1 (by rw [Int32.add_zero, upd_same]))⟩ (by omega) hi0 hk (lv_sub hl [0, 4, 7, 8, 9, 10, 11, 12] rfl) kk
    · have hF_ : ¬ mX0_refusal (S 0) (nI t) (nI o) = 0 := by
        have e := hr2.2.uniq (refu_R (v := S 0) (ρ := o) hn12 h2 hI ho ht ht0)
        intro y
        rw [← e] at y
        rw [y] at c_51; exact c_51 (by decide)
      refine lv_iconst (v := 1) hx hb dL_law_570 (by decide) ?_
      refine lv_goto (tgt := 575) hx hb dL_law_571 (by decide) ?_
      refine lv_istore (lv' := [(14, .int 1), (13, .int (nI o)), (12, .int 1), (9, .int (nI k)), (8, .int (nI t)), (6, .int G), (5, .int (nI i0)), (0, .ref b), (1, .ref (ad 80)), (2, .ref (ra 0)), (3, .ref qa), (4, .int (nI ρ))]) hx hb dL_law_575 hl (by decide) rfl (fun ls hl => ?_)
      refine lv_aload_n hx hb dL_law_577 rfl (lv_at hl 8 rfl) ?_
      refine lv_iload hx hb dL_law_578 (lv_at hl 1 rfl) ?_
      refine kCallRi (va_runV (As := [.int (nI o)]) (rest := []) ⟨hx, hb, hml, hown, hts⟩ (c_X5_doomed l E ad S hs (nI o) hno _ rfl) (cwV 1 hts gL_law_X5_doomed rfl rfl rfl (by decide +kernel) ⟨Nat.le_of_ble_eq_true rfl, Nat.le_of_ble_eq_true rfl⟩) (kPreYV hK hY.2.1 hY (q0 := 0) rfl rfl) rfl rfl hl.1 rfl (lv_room (Nat.le_of_ble_eq_true rfl)) dL_law_580 ⟨Nat.le_of_ble_eq_true rfl, Nat.le_of_ble_eq_true rfl⟩) ?_
      refine lv_iload hx hb dL_law_583 (lv_at hl 4 rfl) ?_
      refine lv_ishr hx hb dL_law_585 ?_
      refine lv_iconst (v := 1) hx hb dL_law_586 (by decide) ?_
      refine lv_iand hx hb dL_law_587 ?_
      refine lv_iload hx hb dL_law_588 (lv_at hl 0 rfl) ?_
      refine lv_if_eq (tgt := 597) hx hb dL_law_590 (by decide) (fun c => absurd c (by decide)) (fun _ => ?_)
      refine lv_iconst (v := 1) hx hb dL_law_593 (by decide) ?_
      refine lv_goto (tgt := 598) hx hb dL_law_594 (by decide) ?_
      refine lv_icmp_ne (tgt := 674) hx hb dL_law_598 (by decide) (fun c => absurd (by first | exact (doom_A (S := S) hn12 h2 ho ht ht0).trans (if_pos hF_) | exact (doom_A (S := S) hn12 h2 ho ht ht0).trans (if_neg hF_)) c) (fun _ => ?_)
      refine lv_aload_n hx hb dL_law_601 rfl (lv_at hl 8 rfl) ?_
      refine lv_iload hx hb dL_law_602 (lv_at hl 4 rfl) ?_
      refine kCallRi (va_runV (As := [.int (nI t)]) (rest := []) ⟨hx, hb, hml, hown, hts⟩ (c_X5_would l E ad S hs (nI t) hno _ rfl) (cwV 1 hts gL_law_X5_would rfl rfl rfl (by decide +kernel) ⟨Nat.le_of_ble_eq_true rfl, Nat.le_of_ble_eq_true rfl⟩) (kPreYV hK hY.2.1 hY (q0 := 0) rfl rfl) rfl rfl hl.1 rfl (lv_room (Nat.le_of_ble_eq_true rfl)) dL_law_604 ⟨Nat.le_of_ble_eq_true rfl, Nat.le_of_ble_eq_true rfl⟩) ?_
      refine lv_iload hx hb dL_law_607 (lv_at hl 2 rfl) ?_
      refine lv_icmp_ne (tgt := 674) hx hb dL_law_609 (by decide) (fun c => absurd ((would_A (S := S) hn12 h2 ht ht0 hρ).trans hdue) c) (fun _ => ?_)
      refine lv_aload_n hx hb dL_law_612 rfl (lv_at hl 8 rfl) ?_
      refine lv_iload hx hb dL_law_613 (lv_at hl 4 rfl) ?_
      refine lv_iconst (v := 0) hx hb dL_law_615 (by decide) ?_
      refine kCallRi (va_runV (As := [.int (nI t), .int 0]) (rest := []) ⟨hx, hb, hml, hown, hts⟩ (c_X5_triple l E ad S hs (nI t) 0 hno _ rfl) (cwV 2 hts gL_law_X5_triple rfl rfl rfl (by decide +kernel) ⟨Nat.le_of_ble_eq_true rfl, Nat.le_of_ble_eq_true rfl⟩) (kPreYV hK hY.2.1 hY (q0 := 0) rfl rfl) rfl rfl hl.1 rfl (lv_room (Nat.le_of_ble_eq_true rfl)) dL_law_616 ⟨Nat.le_of_ble_eq_true rfl, Nat.le_of_ble_eq_true rfl⟩) ?_
      refine lv_if_lt (tgt := 626) hx hb dL_law_619 (by decide) (fun _ => ?_) (fun c => absurd (by rw [trip_A (S := S) hn12 h2 hI hρ4 ht ht0 hρ, hdue]; decide) c)
      refine lv_iconst (v := 0) hx hb dL_law_626 (by decide) ?_
      refine lv_iload hx hb dL_law_627 (lv_at hl 2 rfl) ?_
      refine lv_iconst (v := 2) hx hb dL_law_629 (by decide) ?_
      refine lv_icmp_ne (tgt := 637) hx hb dL_law_630 (by decide) (fun _ => ?_) (fun c => absurd c (by decide))
      refine lv_iconst (v := 0) hx hb dL_law_637 (by decide) ?_
      refine lv_icmp_ne (tgt := 674) hx hb dL_law_638 (by decide) (fun c => absurd (by decide) c) (fun _ => ?_)
      refine lv_aload_n hx hb dL_law_641 rfl (lv_at hl 8 rfl) ?_
      refine lv_iload hx hb dL_law_642 (lv_at hl 4 rfl) ?_
      refine kCallYi (va_runV (As := [.int (nI t)]) (rest := []) ⟨hx, hb, hml, hown, hts⟩ (c_X5_commit l E ad S hs (nI t) hh hno _ rfl) (cwV 1 hts gL_law_X5_commit rfl rfl rfl (by decide +kernel) ⟨Nat.le_of_ble_eq_true rfl, Nat.le_of_ble_eq_true rfl⟩) (kPreYV hK hY.2.1 hY (q0 := 0) rfl rfl) rfl rfl hl.1 rfl (lv_room (Nat.le_of_ble_eq_true rfl)) dL_law_644 ⟨Nat.le_of_ble_eq_true rfl, Nat.le_of_ble_eq_true rfl⟩) hS (fun q h => hA q h) (fun H1 locs1 hY hsz hkp hS => ?_)
      have hR := kP_kept hR (dR (fun i j h1 h2 _ => by omega) _) (fun q z y => hap q y z) hkp
      have hV := kP_kept (A := fun q => q = qa) hV (kD1 rfl) (fun q (h : q = qa) y => hapq q y h) hkp
      have hlt : ∀ x, kA ad 90 x → x < H1.size := fun x hx => Nat.lt_of_lt_of_le (hlt x hx) hsz
      have hrl : ra 0 < H1.size := Nat.lt_of_lt_of_le hrl hsz
      have hAn := commit_no (S := S) hn12 h2 hh ht ht0 hρ hdue (by decide)
      refine kGen (mX5_commit S (nI t)) (fun g1 hg1 => ?_)
      rw [hg1] at hY hAn ⊢
      have hn1 : nOK (g1.2 0 0 2) := by rw [hAn.2.1 0 (by decide) (by decide)]; exact hno
      have h21 : g1.2 0 0 2 = nI n := by rw [hAn.2.1 0 (by decide) (by decide)]; exact h2
      refine lv_iload hx hb dL_law_647 (lv_at hl 2 rfl) ?_
      refine lv_icmp_ne (tgt := 674) hx hb dL_law_649 (by decide) (fun c => absurd hAn.1 c) (fun _ => ?_)
      refine lv_iload hx hb dL_law_652 (lv_at hl 2 rfl) ?_
      refine lv_if_eq (tgt := 670) hx hb dL_law_654 (by decide) (fun c => absurd c (by decide)) (fun _ => ?_)
      refine lv_aload_n hx hb dL_law_657 rfl (lv_at hl 8 rfl) ?_
      refine lv_iload hx hb dL_law_658 (lv_at hl 4 rfl) ?_
      refine lv_bipush (v := 7) hx hb dL_law_660 (by decide) ?_
      refine kCallRi (va_runV (As := [.int (nI t), .int 7]) (rest := []) ⟨hx, hb, hml, hown, hts⟩ (c_X5_of l E ad (g1.2) hs (nI t) 7 hn1 _ rfl) (cwV 2 hts gL_law_X5_of rfl rfl rfl (by decide +kernel) ⟨Nat.le_of_ble_eq_true rfl, Nat.le_of_ble_eq_true rfl⟩) (kPreYV hK hY.2.1 hY (q0 := 0) rfl rfl) rfl rfl hl.1 rfl (lv_room (Nat.le_of_ble_eq_true rfl)) dL_law_662 ⟨Nat.le_of_ble_eq_true rfl, Nat.le_of_ble_eq_true rfl⟩) ?_
      refine lv_iload hx hb dL_law_665 (lv_at hl 2 rfl) ?_
      refine lv_icmp_ne (tgt := 674) hx hb dL_law_667 (by decide) (fun c => absurd ((of_0 (S := g1.2) hn12 h21 ht).2.2.2.2.2.2.2.1.trans (by rw [hAn.2.2.2.1, pk_us])) c) (fun _ => ?_)
      refine lv_iconst (v := 1) hx hb dL_law_670 (by decide) ?_
      refine lv_goto (tgt := 675) hx hb dL_law_671 (by decide) ?_
      refine lv_istore (lv' := [(11, .int 1), (14, .int 1), (13, .int (nI o)), (12, .int 1), (9, .int (nI k)), (8, .int (nI t)), (6, .int G), (5, .int (nI i0)), (0, .ref b), (1, .ref (ad 80)), (2, .ref (ra 0)), (3, .ref qa), (4, .int (nI ρ))]) hx hb dL_law_675 hl (by decide) rfl (fun ls hl => ?_)
      refine lv_aload_n hx hb dL_law_677 rfl (lv_at hl 10 rfl) ?_
      refine lv_bipush (v := 48) hx hb dL_law_678 (by decide) ?_
      refine lv_dup2_11 hx hb dL_law_680 rfl rfl ?_
      refine va_iald (D := E.1) hx hb hK.1 hR 0 0 rfl rfl (vp_in_nI (n := 48) (by decide) (by decide)) dL_law_681 ?_
      refine W.eq (g2 := F0 m 682 ls [.int (z 48), .int 48, .ref (ra 0)]) rfl ?_
      refine lv_iload hx hb dL_law_682 (lv_at hl 3 rfl) ?_
      refine lv_if_ne (tgt := 691) hx hb dL_law_684 (by decide) (fun _ => ?_) (fun c => absurd c (by decide))
      refine lv_iconst (v := 0) hx hb dL_law_691 (by decide) ?_
      refine lv_iadd hx hb dL_law_692 ?_
      refine kSto hx hb hK hR hra hS (vp_in_nI (n := 48) (by decide) (by decide)) dL_law_693 (fun H1 locs1 hN1 ho hS1 hz1 => ?_)
      have hY := hY.keptA (A := fun q => q = ra 0) hs (fun q _ h2 => ho q h2) (fun q hq (h : q = ra 0) => hap q hq ⟨0, by omega, h⟩)
      have hV := kP1 hV (ho _ (show qa ≠ ra 0 from Ne.symm hrq))
      have hR : va_P E.1 vwCl (wRx E ra (upd z 48 ((z 48) + 0))) H1 := hN1
      have hS := hS1
      have hlt : ∀ x, kA ad 90 x → x < H1.size := fun x hx => by rw [hz1]; exact hlt x hx
      have hrl : ra 0 < H1.size := by rw [hz1]; exact hrl
      refine lv_aload_n hx hb dL_law_694 rfl (lv_at hl 10 rfl) ?_
      refine lv_bipush (v := 12) hx hb dL_law_695 (by decide) ?_
      refine lv_iload hx hb dL_law_697 (lv_at hl 5 rfl) ?_
      refine lv_iadd hx hb dL_law_699 ?_
      refine lv_iload hx hb dL_law_700 (lv_at hl 3 rfl) ?_
      refine lv_if_ne (tgt := 712) hx hb dL_law_702 (by decide) (fun _ => ?_) (fun c => absurd c (by decide))
      refine lv_iconst (v := (-1)) hx hb dL_law_712 (by decide) ?_
      refine kSto hx hb hK hR hra hS (rIn 12 (by decide) (by first | assumption | exact tOK.nI (by omega))) dL_law_713 (fun H1 locs1 hN1 ho hS1 hz1 => ?_)
      have hY := hY.keptA (A := fun q => q = ra 0) hs (fun q _ h2 => ho q h2) (fun q hq (h : q = ra 0) => hap q hq ⟨0, by omega, h⟩)
      have hV := kP1 hV (ho _ (show qa ≠ ra 0 from Ne.symm hrq))
      rw [rA12 (t := t) (by omega)] at hN1
      have hR : va_P E.1 vwCl (wRx E ra (upd (upd z 48 ((z 48) + 0)) (12 + t) (-1))) H1 := hN1
      have hS := hS1
      have hlt : ∀ x, kA ad 90 x → x < H1.size := fun x hx => by rw [hz1]; exact hlt x hx
      have hrl : ra 0 < H1.size := by rw [hz1]; exact hrl
      refine lv_goto (tgt := 795) hx hb dL_law_714 (by decide) ?_
      exact law_tail C0 (n := n) (mm := mm) (bb := bb) (cc := cc) (S := (g1.2)) (z := (upd (upd z 48 ((z 48) + 0)) (12 + t) (-1))) (w := w) ⟨hY, hR, hV, hS, hlt, hrl, hAn.2.2.2.2, (hQ.abort (x := 1) ht ht0 (by decide) hAn.2.1 hAn.2.2.1 hAn.2.2.2.1 (by rw [Int32.add_zero, upd_same]))⟩ (by omega) hi0 hk (lv_sub hl [0, 4, 7, 8, 9, 10, 11, 12] rfl) kk
  · have hdue : mX0_refusal (S 0) (nI t) (nI ρ) = 2 := by rw [← hdu, e1]
    rw [e1] at hl hRS
    refine lv_iload hx hb dL_law_548 (lv_at hl 3 rfl) ?_
    refine lv_bipush (v := 16) hx hb dL_law_550 (by decide) ?_
    refine lv_ishr hx hb dL_law_552 ?_
    refine lv_iconst (v := 4) hx hb dL_law_553 (by decide) ?_
    refine kCallRi (va_runS (As := [.int (G >>> (16 &&& 31)), .int 4]) (rest := []) ⟨hx, hb, hml, hown, hts⟩ (c_L_low l E (G >>> (16 &&& 31)) 4 (by decide) _ rfl) (va_cwS 2 hts gL_law_L_low rfl rfl rfl (by decide +kernel) ⟨Nat.le_of_ble_eq_true rfl, Nat.le_of_ble_eq_true rfl⟩) (kPreS hK kP0) rfl rfl hl.1 rfl (lv_room (Nat.le_of_ble_eq_true rfl)) dL_law_554 ⟨Nat.le_of_ble_eq_true rfl, Nat.le_of_ble_eq_true rfl⟩) ?_
    obtain ⟨o, ho, eo⟩ := low_lt (G >>> (16 &&& 31)) (a := 4) (by decide) (by decide)
    refine W.eq (g2 := F0 m 557 ls [.int (nI o)]) (by rw [show mL_low (G >>> (16 &&& 31)) 4 = nI o from eo]) ?_
    refine lv_istore (lv' := [(13, .int (nI o)), (12, .int 2), (9, .int (nI k)), (8, .int (nI t)), (6, .int G), (5, .int (nI i0)), (0, .ref b), (1, .ref (ad 80)), (2, .ref (ra 0)), (3, .ref qa), (4, .int (nI ρ))]) hx hb dL_law_557 hl (by decide) rfl (fun ls hl => ?_)
    refine lv_aload_n hx hb dL_law_559 rfl (lv_at hl 8 rfl) ?_
    refine lv_iload hx hb dL_law_560 (lv_at hl 0 rfl) ?_
    refine lv_iload hx hb dL_law_562 (lv_at hl 3 rfl) ?_
    refine kCallWi (va_runS (As := [.ref (ra 0), .int (nI o), .int (nI t)]) (rest := []) ⟨hx, hb, hml, hown, hts⟩ (c_L_reason l E ra (fun _ => z) (fun i j h1 h2 _ => by omega) (nI o) (nI t) hnr (tOK.nI (by omega)) _ rfl) (va_cwS 3 hts gL_law_L_reason rfl rfl rfl (by decide +kernel) ⟨Nat.le_of_ble_eq_true rfl, Nat.le_of_ble_eq_true rfl⟩) (kPreS hK hR) rfl rfl hl.1 rfl (lv_room (Nat.le_of_ble_eq_true rfl)) dL_law_564 ⟨Nat.le_of_ble_eq_true rfl, Nat.le_of_ble_eq_true rfl⟩) hS (fun q h => by obtain ⟨i, hi, e⟩ := h; rw [e, show i = 0 by omega]; exact hra) (fun H1 locs1 hR hsz hkp hS => ?_)
    have hY := hY.keptA (A := kA ra 1) hs hkp hap
    have hV := kP_kept (A := fun q => q = qa) hV (kD1 rfl) (fun q (h : q = qa) y => by obtain ⟨i, hi, e⟩ := y; exact hrq (by rw [show i = 0 by omega] at e; exact e.symm.trans h)) hkp
    have hlt : ∀ x, kA ad 90 x → x < H1.size := fun x hx => Nat.lt_of_lt_of_le (hlt x hx) hsz
    have hrl : ra 0 < H1.size := Nat.lt_of_lt_of_le hrl hsz
    have hr2 := reas_R (r := (fun _ => z)) (ρ := o) hQ.1 hI h48 ho ht ht0
    refine kGen (mL_reason (fun _ => z) (nI o) (nI t)) (fun d2 hd2 => ?_)
    rw [hd2] at hR hr2 ⊢
    rw [hr2.1] at hR
    refine lv_if_le (tgt := 574) hx hb dL_law_567 (by decide) (fun c_51 => ?_) (fun c_51 => ?_)
    · have hF_ : mX0_refusal (S 0) (nI t) (nI o) = 0 := by
        have e := hr2.2.uniq (refu_R (v := S 0) (ρ := o) hn12 h2 hI ho ht ht0)
        rcases hr2.2 with ⟨e1, _⟩ | ⟨_, ⟨e1, _⟩ | ⟨e1, _⟩⟩
        · rw [e1] at c_51; exact absurd c_51 (by decide)
        · rw [e1] at c_51; exact absurd c_51 (by decide)
        · rw [← e, e1]
      refine lv_iconst (v := 0) hx hb dL_law_574 (by decide) ?_
      refine lv_istore (lv' := [(14, .int 0), (13, .int (nI o)), (12, .int 2), (9, .int (nI k)), (8, .int (nI t)), (6, .int G), (5, .int (nI i0)), (0, .ref b), (1, .ref (ad 80)), (2, .ref (ra 0)), (3, .ref qa), (4, .int (nI ρ))]) hx hb dL_law_575 hl (by decide) rfl (fun ls hl => ?_)
      refine lv_aload_n hx hb dL_law_577 rfl (lv_at hl 8 rfl) ?_
      refine lv_iload hx hb dL_law_578 (lv_at hl 1 rfl) ?_
      refine kCallRi (va_runV (As := [.int (nI o)]) (rest := []) ⟨hx, hb, hml, hown, hts⟩ (c_X5_doomed l E ad S hs (nI o) hno _ rfl) (cwV 1 hts gL_law_X5_doomed rfl rfl rfl (by decide +kernel) ⟨Nat.le_of_ble_eq_true rfl, Nat.le_of_ble_eq_true rfl⟩) (kPreYV hK hY.2.1 hY (q0 := 0) rfl rfl) rfl rfl hl.1 rfl (lv_room (Nat.le_of_ble_eq_true rfl)) dL_law_580 ⟨Nat.le_of_ble_eq_true rfl, Nat.le_of_ble_eq_true rfl⟩) ?_
      refine lv_iload hx hb dL_law_583 (lv_at hl 4 rfl) ?_
      refine lv_ishr hx hb dL_law_585 ?_
      refine lv_iconst (v := 1) hx hb dL_law_586 (by decide) ?_
      refine lv_iand hx hb dL_law_587 ?_
      refine lv_iload hx hb dL_law_588 (lv_at hl 0 rfl) ?_
      refine lv_if_eq (tgt := 597) hx hb dL_law_590 (by decide) (fun _ => ?_) (fun c => absurd (by decide) c)
      refine lv_iconst (v := 0) hx hb dL_law_597 (by decide) ?_
      refine lv_icmp_ne (tgt := 674) hx hb dL_law_598 (by decide) (fun c => absurd (by first | exact (doom_A (S := S) hn12 h2 ho ht ht0).trans (if_pos hF_) | exact (doom_A (S := S) hn12 h2 ho ht ht0).trans (if_neg hF_)) c) (fun _ => ?_)
      refine lv_aload_n hx hb dL_law_601 rfl (lv_at hl 8 rfl) ?_
      refine lv_iload hx hb dL_law_602 (lv_at hl 4 rfl) ?_
      refine kCallRi (va_runV (As := [.int (nI t)]) (rest := []) ⟨hx, hb, hml, hown, hts⟩ (c_X5_would l E ad S hs (nI t) hno _ rfl) (cwV 1 hts gL_law_X5_would rfl rfl rfl (by decide +kernel) ⟨Nat.le_of_ble_eq_true rfl, Nat.le_of_ble_eq_true rfl⟩) (kPreYV hK hY.2.1 hY (q0 := 0) rfl rfl) rfl rfl hl.1 rfl (lv_room (Nat.le_of_ble_eq_true rfl)) dL_law_604 ⟨Nat.le_of_ble_eq_true rfl, Nat.le_of_ble_eq_true rfl⟩) ?_
      refine lv_iload hx hb dL_law_607 (lv_at hl 2 rfl) ?_
      refine lv_icmp_ne (tgt := 674) hx hb dL_law_609 (by decide) (fun c => absurd ((would_A (S := S) hn12 h2 ht ht0 hρ).trans hdue) c) (fun _ => ?_)
      refine lv_aload_n hx hb dL_law_612 rfl (lv_at hl 8 rfl) ?_
      refine lv_iload hx hb dL_law_613 (lv_at hl 4 rfl) ?_
      refine lv_iconst (v := 0) hx hb dL_law_615 (by decide) ?_
      refine kCallRi (va_runV (As := [.int (nI t), .int 0]) (rest := []) ⟨hx, hb, hml, hown, hts⟩ (c_X5_triple l E ad S hs (nI t) 0 hno _ rfl) (cwV 2 hts gL_law_X5_triple rfl rfl rfl (by decide +kernel) ⟨Nat.le_of_ble_eq_true rfl, Nat.le_of_ble_eq_true rfl⟩) (kPreYV hK hY.2.1 hY (q0 := 0) rfl rfl) rfl rfl hl.1 rfl (lv_room (Nat.le_of_ble_eq_true rfl)) dL_law_616 ⟨Nat.le_of_ble_eq_true rfl, Nat.le_of_ble_eq_true rfl⟩) ?_
      refine lv_if_lt (tgt := 626) hx hb dL_law_619 (by decide) (fun c => absurd c (by rw [trip_A (S := S) hn12 h2 hI hρ4 ht ht0 hρ]; exact fun y => y hdue)) (fun _ => ?_)
      refine lv_iconst (v := 1) hx hb dL_law_622 (by decide) ?_
      refine lv_goto (tgt := 627) hx hb dL_law_623 (by decide) ?_
      refine lv_iload hx hb dL_law_627 (lv_at hl 2 rfl) ?_
      refine lv_iconst (v := 2) hx hb dL_law_629 (by decide) ?_
      refine lv_icmp_ne (tgt := 637) hx hb dL_law_630 (by decide) (fun c => absurd (by decide) c) (fun _ => ?_)
      refine lv_iconst (v := 1) hx hb dL_law_633 (by decide) ?_
      refine lv_goto (tgt := 638) hx hb dL_law_634 (by decide) ?_
      refine lv_icmp_ne (tgt := 674) hx hb dL_law_638 (by decide) (fun c => absurd (by decide) c) (fun _ => ?_)
      refine lv_aload_n hx hb dL_law_641 rfl (lv_at hl 8 rfl) ?_
      refine lv_iload hx hb dL_law_642 (lv_at hl 4 rfl) ?_
      refine kCallYi (va_runV (As := [.int (nI t)]) (rest := []) ⟨hx, hb, hml, hown, hts⟩ (c_X5_commit l E ad S hs (nI t) hh hno _ rfl) (cwV 1 hts gL_law_X5_commit rfl rfl rfl (by decide +kernel) ⟨Nat.le_of_ble_eq_true rfl, Nat.le_of_ble_eq_true rfl⟩) (kPreYV hK hY.2.1 hY (q0 := 0) rfl rfl) rfl rfl hl.1 rfl (lv_room (Nat.le_of_ble_eq_true rfl)) dL_law_644 ⟨Nat.le_of_ble_eq_true rfl, Nat.le_of_ble_eq_true rfl⟩) hS (fun q h => hA q h) (fun H1 locs1 hY hsz hkp hS => ?_)
      have hR := kP_kept hR (dR (fun i j h1 h2 _ => by omega) _) (fun q z y => hap q y z) hkp
      have hV := kP_kept (A := fun q => q = qa) hV (kD1 rfl) (fun q (h : q = qa) y => hapq q y h) hkp
      have hlt : ∀ x, kA ad 90 x → x < H1.size := fun x hx => Nat.lt_of_lt_of_le (hlt x hx) hsz
      have hrl : ra 0 < H1.size := Nat.lt_of_lt_of_le hrl hsz
      have hAn := commit_no (S := S) hn12 h2 hh ht ht0 hρ hdue (by decide)
      refine kGen (mX5_commit S (nI t)) (fun g1 hg1 => ?_)
      rw [hg1] at hY hAn ⊢
      have hn1 : nOK (g1.2 0 0 2) := by rw [hAn.2.1 0 (by decide) (by decide)]; exact hno
      have h21 : g1.2 0 0 2 = nI n := by rw [hAn.2.1 0 (by decide) (by decide)]; exact h2
      refine lv_iload hx hb dL_law_647 (lv_at hl 2 rfl) ?_
      refine lv_icmp_ne (tgt := 674) hx hb dL_law_649 (by decide) (fun c => absurd hAn.1 c) (fun _ => ?_)
      refine lv_iload hx hb dL_law_652 (lv_at hl 2 rfl) ?_
      refine lv_if_eq (tgt := 670) hx hb dL_law_654 (by decide) (fun c => absurd c (by decide)) (fun _ => ?_)
      refine lv_aload_n hx hb dL_law_657 rfl (lv_at hl 8 rfl) ?_
      refine lv_iload hx hb dL_law_658 (lv_at hl 4 rfl) ?_
      refine lv_bipush (v := 7) hx hb dL_law_660 (by decide) ?_
      refine kCallRi (va_runV (As := [.int (nI t), .int 7]) (rest := []) ⟨hx, hb, hml, hown, hts⟩ (c_X5_of l E ad (g1.2) hs (nI t) 7 hn1 _ rfl) (cwV 2 hts gL_law_X5_of rfl rfl rfl (by decide +kernel) ⟨Nat.le_of_ble_eq_true rfl, Nat.le_of_ble_eq_true rfl⟩) (kPreYV hK hY.2.1 hY (q0 := 0) rfl rfl) rfl rfl hl.1 rfl (lv_room (Nat.le_of_ble_eq_true rfl)) dL_law_662 ⟨Nat.le_of_ble_eq_true rfl, Nat.le_of_ble_eq_true rfl⟩) ?_
      refine lv_iload hx hb dL_law_665 (lv_at hl 2 rfl) ?_
      refine lv_icmp_ne (tgt := 674) hx hb dL_law_667 (by decide) (fun c => absurd ((of_0 (S := g1.2) hn12 h21 ht).2.2.2.2.2.2.2.1.trans (by rw [hAn.2.2.2.1, pk_us])) c) (fun _ => ?_)
      refine lv_iconst (v := 1) hx hb dL_law_670 (by decide) ?_
      refine lv_goto (tgt := 675) hx hb dL_law_671 (by decide) ?_
      refine lv_istore (lv' := [(11, .int 1), (14, .int 0), (13, .int (nI o)), (12, .int 2), (9, .int (nI k)), (8, .int (nI t)), (6, .int G), (5, .int (nI i0)), (0, .ref b), (1, .ref (ad 80)), (2, .ref (ra 0)), (3, .ref qa), (4, .int (nI ρ))]) hx hb dL_law_675 hl (by decide) rfl (fun ls hl => ?_)
      refine lv_aload_n hx hb dL_law_677 rfl (lv_at hl 10 rfl) ?_
      refine lv_bipush (v := 48) hx hb dL_law_678 (by decide) ?_
      refine lv_dup2_11 hx hb dL_law_680 rfl rfl ?_
      refine va_iald (D := E.1) hx hb hK.1 hR 0 0 rfl rfl (vp_in_nI (n := 48) (by decide) (by decide)) dL_law_681 ?_
      refine W.eq (g2 := F0 m 682 ls [.int (z 48), .int 48, .ref (ra 0)]) rfl ?_
      refine lv_iload hx hb dL_law_682 (lv_at hl 3 rfl) ?_
      refine lv_if_ne (tgt := 691) hx hb dL_law_684 (by decide) (fun _ => ?_) (fun c => absurd c (by decide))
      refine lv_iconst (v := 0) hx hb dL_law_691 (by decide) ?_
      refine lv_iadd hx hb dL_law_692 ?_
      refine kSto hx hb hK hR hra hS (vp_in_nI (n := 48) (by decide) (by decide)) dL_law_693 (fun H1 locs1 hN1 ho hS1 hz1 => ?_)
      have hY := hY.keptA (A := fun q => q = ra 0) hs (fun q _ h2 => ho q h2) (fun q hq (h : q = ra 0) => hap q hq ⟨0, by omega, h⟩)
      have hV := kP1 hV (ho _ (show qa ≠ ra 0 from Ne.symm hrq))
      have hR : va_P E.1 vwCl (wRx E ra (upd z 48 ((z 48) + 0))) H1 := hN1
      have hS := hS1
      have hlt : ∀ x, kA ad 90 x → x < H1.size := fun x hx => by rw [hz1]; exact hlt x hx
      have hrl : ra 0 < H1.size := by rw [hz1]; exact hrl
      refine lv_aload_n hx hb dL_law_694 rfl (lv_at hl 10 rfl) ?_
      refine lv_bipush (v := 12) hx hb dL_law_695 (by decide) ?_
      refine lv_iload hx hb dL_law_697 (lv_at hl 5 rfl) ?_
      refine lv_iadd hx hb dL_law_699 ?_
      refine lv_iload hx hb dL_law_700 (lv_at hl 3 rfl) ?_
      refine lv_if_ne (tgt := 712) hx hb dL_law_702 (by decide) (fun _ => ?_) (fun c => absurd c (by decide))
      refine lv_iconst (v := (-1)) hx hb dL_law_712 (by decide) ?_
      refine kSto hx hb hK hR hra hS (rIn 12 (by decide) (by first | assumption | exact tOK.nI (by omega))) dL_law_713 (fun H1 locs1 hN1 ho hS1 hz1 => ?_)
      have hY := hY.keptA (A := fun q => q = ra 0) hs (fun q _ h2 => ho q h2) (fun q hq (h : q = ra 0) => hap q hq ⟨0, by omega, h⟩)
      have hV := kP1 hV (ho _ (show qa ≠ ra 0 from Ne.symm hrq))
      rw [rA12 (t := t) (by omega)] at hN1
      have hR : va_P E.1 vwCl (wRx E ra (upd (upd z 48 ((z 48) + 0)) (12 + t) (-1))) H1 := hN1
      have hS := hS1
      have hlt : ∀ x, kA ad 90 x → x < H1.size := fun x hx => by rw [hz1]; exact hlt x hx
      have hrl : ra 0 < H1.size := by rw [hz1]; exact hrl
      refine lv_goto (tgt := 795) hx hb dL_law_714 (by decide) ?_
      exact law_tail C0 (n := n) (mm := mm) (bb := bb) (cc := cc) (S := (g1.2)) (z := (upd (upd z 48 ((z 48) + 0)) (12 + t) (-1))) (w := w) ⟨hY, hR, hV, hS, hlt, hrl, hAn.2.2.2.2, (hQ.abort (x := 2) ht ht0 (by decide) hAn.2.1 hAn.2.2.1 hAn.2.2.2.1 (by rw [Int32.add_zero, upd_same]))⟩ (by omega) hi0 hk (lv_sub hl [0, 4, 7, 8, 9, 10, 11, 12] rfl) kk
    · have hF_ : ¬ mX0_refusal (S 0) (nI t) (nI o) = 0 := by
        have e := hr2.2.uniq (refu_R (v := S 0) (ρ := o) hn12 h2 hI ho ht ht0)
        intro y
        rw [← e] at y
        rw [y] at c_51; exact c_51 (by decide)
      refine lv_iconst (v := 1) hx hb dL_law_570 (by decide) ?_
      refine lv_goto (tgt := 575) hx hb dL_law_571 (by decide) ?_
      refine lv_istore (lv' := [(14, .int 1), (13, .int (nI o)), (12, .int 2), (9, .int (nI k)), (8, .int (nI t)), (6, .int G), (5, .int (nI i0)), (0, .ref b), (1, .ref (ad 80)), (2, .ref (ra 0)), (3, .ref qa), (4, .int (nI ρ))]) hx hb dL_law_575 hl (by decide) rfl (fun ls hl => ?_)
      refine lv_aload_n hx hb dL_law_577 rfl (lv_at hl 8 rfl) ?_
      refine lv_iload hx hb dL_law_578 (lv_at hl 1 rfl) ?_
      refine kCallRi (va_runV (As := [.int (nI o)]) (rest := []) ⟨hx, hb, hml, hown, hts⟩ (c_X5_doomed l E ad S hs (nI o) hno _ rfl) (cwV 1 hts gL_law_X5_doomed rfl rfl rfl (by decide +kernel) ⟨Nat.le_of_ble_eq_true rfl, Nat.le_of_ble_eq_true rfl⟩) (kPreYV hK hY.2.1 hY (q0 := 0) rfl rfl) rfl rfl hl.1 rfl (lv_room (Nat.le_of_ble_eq_true rfl)) dL_law_580 ⟨Nat.le_of_ble_eq_true rfl, Nat.le_of_ble_eq_true rfl⟩) ?_
      refine lv_iload hx hb dL_law_583 (lv_at hl 4 rfl) ?_
      refine lv_ishr hx hb dL_law_585 ?_
      refine lv_iconst (v := 1) hx hb dL_law_586 (by decide) ?_
      refine lv_iand hx hb dL_law_587 ?_
      refine lv_iload hx hb dL_law_588 (lv_at hl 0 rfl) ?_
      refine lv_if_eq (tgt := 597) hx hb dL_law_590 (by decide) (fun c => absurd c (by decide)) (fun _ => ?_)
      refine lv_iconst (v := 1) hx hb dL_law_593 (by decide) ?_
      refine lv_goto (tgt := 598) hx hb dL_law_594 (by decide) ?_
      refine lv_icmp_ne (tgt := 674) hx hb dL_law_598 (by decide) (fun c => absurd (by first | exact (doom_A (S := S) hn12 h2 ho ht ht0).trans (if_pos hF_) | exact (doom_A (S := S) hn12 h2 ho ht ht0).trans (if_neg hF_)) c) (fun _ => ?_)
      refine lv_aload_n hx hb dL_law_601 rfl (lv_at hl 8 rfl) ?_
      refine lv_iload hx hb dL_law_602 (lv_at hl 4 rfl) ?_
      refine kCallRi (va_runV (As := [.int (nI t)]) (rest := []) ⟨hx, hb, hml, hown, hts⟩ (c_X5_would l E ad S hs (nI t) hno _ rfl) (cwV 1 hts gL_law_X5_would rfl rfl rfl (by decide +kernel) ⟨Nat.le_of_ble_eq_true rfl, Nat.le_of_ble_eq_true rfl⟩) (kPreYV hK hY.2.1 hY (q0 := 0) rfl rfl) rfl rfl hl.1 rfl (lv_room (Nat.le_of_ble_eq_true rfl)) dL_law_604 ⟨Nat.le_of_ble_eq_true rfl, Nat.le_of_ble_eq_true rfl⟩) ?_
      refine lv_iload hx hb dL_law_607 (lv_at hl 2 rfl) ?_
      refine lv_icmp_ne (tgt := 674) hx hb dL_law_609 (by decide) (fun c => absurd ((would_A (S := S) hn12 h2 ht ht0 hρ).trans hdue) c) (fun _ => ?_)
      refine lv_aload_n hx hb dL_law_612 rfl (lv_at hl 8 rfl) ?_
      refine lv_iload hx hb dL_law_613 (lv_at hl 4 rfl) ?_
      refine lv_iconst (v := 0) hx hb dL_law_615 (by decide) ?_
      refine kCallRi (va_runV (As := [.int (nI t), .int 0]) (rest := []) ⟨hx, hb, hml, hown, hts⟩ (c_X5_triple l E ad S hs (nI t) 0 hno _ rfl) (cwV 2 hts gL_law_X5_triple rfl rfl rfl (by decide +kernel) ⟨Nat.le_of_ble_eq_true rfl, Nat.le_of_ble_eq_true rfl⟩) (kPreYV hK hY.2.1 hY (q0 := 0) rfl rfl) rfl rfl hl.1 rfl (lv_room (Nat.le_of_ble_eq_true rfl)) dL_law_616 ⟨Nat.le_of_ble_eq_true rfl, Nat.le_of_ble_eq_true rfl⟩) ?_
      refine lv_if_lt (tgt := 626) hx hb dL_law_619 (by decide) (fun c => absurd c (by rw [trip_A (S := S) hn12 h2 hI hρ4 ht ht0 hρ]; exact fun y => y hdue)) (fun _ => ?_)
      refine lv_iconst (v := 1) hx hb dL_law_622 (by decide) ?_
      refine lv_goto (tgt := 627) hx hb dL_law_623 (by decide) ?_
      refine lv_iload hx hb dL_law_627 (lv_at hl 2 rfl) ?_
      refine lv_iconst (v := 2) hx hb dL_law_629 (by decide) ?_
      refine lv_icmp_ne (tgt := 637) hx hb dL_law_630 (by decide) (fun c => absurd (by decide) c) (fun _ => ?_)
      refine lv_iconst (v := 1) hx hb dL_law_633 (by decide) ?_
      refine lv_goto (tgt := 638) hx hb dL_law_634 (by decide) ?_
      refine lv_icmp_ne (tgt := 674) hx hb dL_law_638 (by decide) (fun c => absurd (by decide) c) (fun _ => ?_)
      refine lv_aload_n hx hb dL_law_641 rfl (lv_at hl 8 rfl) ?_
      refine lv_iload hx hb dL_law_642 (lv_at hl 4 rfl) ?_
      refine kCallYi (va_runV (As := [.int (nI t)]) (rest := []) ⟨hx, hb, hml, hown, hts⟩ (c_X5_commit l E ad S hs (nI t) hh hno _ rfl) (cwV 1 hts gL_law_X5_commit rfl rfl rfl (by decide +kernel) ⟨Nat.le_of_ble_eq_true rfl, Nat.le_of_ble_eq_true rfl⟩) (kPreYV hK hY.2.1 hY (q0 := 0) rfl rfl) rfl rfl hl.1 rfl (lv_room (Nat.le_of_ble_eq_true rfl)) dL_law_644 ⟨Nat.le_of_ble_eq_true rfl, Nat.le_of_ble_eq_true rfl⟩) hS (fun q h => hA q h) (fun H1 locs1 hY hsz hkp hS => ?_)
      have hR := kP_kept hR (dR (fun i j h1 h2 _ => by omega) _) (fun q z y => hap q y z) hkp
      have hV := kP_kept (A := fun q => q = qa) hV (kD1 rfl) (fun q (h : q = qa) y => hapq q y h) hkp
      have hlt : ∀ x, kA ad 90 x → x < H1.size := fun x hx => Nat.lt_of_lt_of_le (hlt x hx) hsz
      have hrl : ra 0 < H1.size := Nat.lt_of_lt_of_le hrl hsz
      have hAn := commit_no (S := S) hn12 h2 hh ht ht0 hρ hdue (by decide)
      refine kGen (mX5_commit S (nI t)) (fun g1 hg1 => ?_)
      rw [hg1] at hY hAn ⊢
      have hn1 : nOK (g1.2 0 0 2) := by rw [hAn.2.1 0 (by decide) (by decide)]; exact hno
      have h21 : g1.2 0 0 2 = nI n := by rw [hAn.2.1 0 (by decide) (by decide)]; exact h2
      refine lv_iload hx hb dL_law_647 (lv_at hl 2 rfl) ?_
      refine lv_icmp_ne (tgt := 674) hx hb dL_law_649 (by decide) (fun c => absurd hAn.1 c) (fun _ => ?_)
      refine lv_iload hx hb dL_law_652 (lv_at hl 2 rfl) ?_
      refine lv_if_eq (tgt := 670) hx hb dL_law_654 (by decide) (fun c => absurd c (by decide)) (fun _ => ?_)
      refine lv_aload_n hx hb dL_law_657 rfl (lv_at hl 8 rfl) ?_
      refine lv_iload hx hb dL_law_658 (lv_at hl 4 rfl) ?_
      refine lv_bipush (v := 7) hx hb dL_law_660 (by decide) ?_
      refine kCallRi (va_runV (As := [.int (nI t), .int 7]) (rest := []) ⟨hx, hb, hml, hown, hts⟩ (c_X5_of l E ad (g1.2) hs (nI t) 7 hn1 _ rfl) (cwV 2 hts gL_law_X5_of rfl rfl rfl (by decide +kernel) ⟨Nat.le_of_ble_eq_true rfl, Nat.le_of_ble_eq_true rfl⟩) (kPreYV hK hY.2.1 hY (q0 := 0) rfl rfl) rfl rfl hl.1 rfl (lv_room (Nat.le_of_ble_eq_true rfl)) dL_law_662 ⟨Nat.le_of_ble_eq_true rfl, Nat.le_of_ble_eq_true rfl⟩) ?_
      refine lv_iload hx hb dL_law_665 (lv_at hl 2 rfl) ?_
      refine lv_icmp_ne (tgt := 674) hx hb dL_law_667 (by decide) (fun c => absurd ((of_0 (S := g1.2) hn12 h21 ht).2.2.2.2.2.2.2.1.trans (by rw [hAn.2.2.2.1, pk_us])) c) (fun _ => ?_)
      refine lv_iconst (v := 1) hx hb dL_law_670 (by decide) ?_
      refine lv_goto (tgt := 675) hx hb dL_law_671 (by decide) ?_
      refine lv_istore (lv' := [(11, .int 1), (14, .int 1), (13, .int (nI o)), (12, .int 2), (9, .int (nI k)), (8, .int (nI t)), (6, .int G), (5, .int (nI i0)), (0, .ref b), (1, .ref (ad 80)), (2, .ref (ra 0)), (3, .ref qa), (4, .int (nI ρ))]) hx hb dL_law_675 hl (by decide) rfl (fun ls hl => ?_)
      refine lv_aload_n hx hb dL_law_677 rfl (lv_at hl 10 rfl) ?_
      refine lv_bipush (v := 48) hx hb dL_law_678 (by decide) ?_
      refine lv_dup2_11 hx hb dL_law_680 rfl rfl ?_
      refine va_iald (D := E.1) hx hb hK.1 hR 0 0 rfl rfl (vp_in_nI (n := 48) (by decide) (by decide)) dL_law_681 ?_
      refine W.eq (g2 := F0 m 682 ls [.int (z 48), .int 48, .ref (ra 0)]) rfl ?_
      refine lv_iload hx hb dL_law_682 (lv_at hl 3 rfl) ?_
      refine lv_if_ne (tgt := 691) hx hb dL_law_684 (by decide) (fun _ => ?_) (fun c => absurd c (by decide))
      refine lv_iconst (v := 0) hx hb dL_law_691 (by decide) ?_
      refine lv_iadd hx hb dL_law_692 ?_
      refine kSto hx hb hK hR hra hS (vp_in_nI (n := 48) (by decide) (by decide)) dL_law_693 (fun H1 locs1 hN1 ho hS1 hz1 => ?_)
      have hY := hY.keptA (A := fun q => q = ra 0) hs (fun q _ h2 => ho q h2) (fun q hq (h : q = ra 0) => hap q hq ⟨0, by omega, h⟩)
      have hV := kP1 hV (ho _ (show qa ≠ ra 0 from Ne.symm hrq))
      have hR : va_P E.1 vwCl (wRx E ra (upd z 48 ((z 48) + 0))) H1 := hN1
      have hS := hS1
      have hlt : ∀ x, kA ad 90 x → x < H1.size := fun x hx => by rw [hz1]; exact hlt x hx
      have hrl : ra 0 < H1.size := by rw [hz1]; exact hrl
      refine lv_aload_n hx hb dL_law_694 rfl (lv_at hl 10 rfl) ?_
      refine lv_bipush (v := 12) hx hb dL_law_695 (by decide) ?_
      refine lv_iload hx hb dL_law_697 (lv_at hl 5 rfl) ?_
      refine lv_iadd hx hb dL_law_699 ?_
      refine lv_iload hx hb dL_law_700 (lv_at hl 3 rfl) ?_
      refine lv_if_ne (tgt := 712) hx hb dL_law_702 (by decide) (fun _ => ?_) (fun c => absurd c (by decide))
      refine lv_iconst (v := (-1)) hx hb dL_law_712 (by decide) ?_
      refine kSto hx hb hK hR hra hS (rIn 12 (by decide) (by first | assumption | exact tOK.nI (by omega))) dL_law_713 (fun H1 locs1 hN1 ho hS1 hz1 => ?_)
      have hY := hY.keptA (A := fun q => q = ra 0) hs (fun q _ h2 => ho q h2) (fun q hq (h : q = ra 0) => hap q hq ⟨0, by omega, h⟩)
      have hV := kP1 hV (ho _ (show qa ≠ ra 0 from Ne.symm hrq))
      rw [rA12 (t := t) (by omega)] at hN1
      have hR : va_P E.1 vwCl (wRx E ra (upd (upd z 48 ((z 48) + 0)) (12 + t) (-1))) H1 := hN1
      have hS := hS1
      have hlt : ∀ x, kA ad 90 x → x < H1.size := fun x hx => by rw [hz1]; exact hlt x hx
      have hrl : ra 0 < H1.size := by rw [hz1]; exact hrl
      refine lv_goto (tgt := 795) hx hb dL_law_714 (by decide) ?_
      exact law_tail C0 (n := n) (mm := mm) (bb := bb) (cc := cc) (S := (g1.2)) (z := (upd (upd z 48 ((z 48) + 0)) (12 + t) (-1))) (w := w) ⟨hY, hR, hV, hS, hlt, hrl, hAn.2.2.2.2, (hQ.abort (x := 2) ht ht0 (by decide) hAn.2.1 hAn.2.2.1 hAn.2.2.2.1 (by rw [Int32.add_zero, upd_same]))⟩ (by omega) hi0 hk (lv_sub hl [0, 4, 7, 8, 9, 10, 11, 12] rfl) kk
  · have hdue : mX0_refusal (S 0) (nI t) (nI ρ) = 0 := by rw [← hdu, e1]
    rw [e1] at hl hRS
    refine lv_iload hx hb dL_law_548 (lv_at hl 3 rfl) ?_
    refine lv_bipush (v := 16) hx hb dL_law_550 (by decide) ?_
    refine lv_ishr hx hb dL_law_552 ?_
    refine lv_iconst (v := 4) hx hb dL_law_553 (by decide) ?_
    refine kCallRi (va_runS (As := [.int (G >>> (16 &&& 31)), .int 4]) (rest := []) ⟨hx, hb, hml, hown, hts⟩ (c_L_low l E (G >>> (16 &&& 31)) 4 (by decide) _ rfl) (va_cwS 2 hts gL_law_L_low rfl rfl rfl (by decide +kernel) ⟨Nat.le_of_ble_eq_true rfl, Nat.le_of_ble_eq_true rfl⟩) (kPreS hK kP0) rfl rfl hl.1 rfl (lv_room (Nat.le_of_ble_eq_true rfl)) dL_law_554 ⟨Nat.le_of_ble_eq_true rfl, Nat.le_of_ble_eq_true rfl⟩) ?_
    obtain ⟨o, ho, eo⟩ := low_lt (G >>> (16 &&& 31)) (a := 4) (by decide) (by decide)
    refine W.eq (g2 := F0 m 557 ls [.int (nI o)]) (by rw [show mL_low (G >>> (16 &&& 31)) 4 = nI o from eo]) ?_
    refine lv_istore (lv' := [(13, .int (nI o)), (12, .int 0), (9, .int (nI k)), (8, .int (nI t)), (6, .int G), (5, .int (nI i0)), (0, .ref b), (1, .ref (ad 80)), (2, .ref (ra 0)), (3, .ref qa), (4, .int (nI ρ))]) hx hb dL_law_557 hl (by decide) rfl (fun ls hl => ?_)
    refine lv_aload_n hx hb dL_law_559 rfl (lv_at hl 8 rfl) ?_
    refine lv_iload hx hb dL_law_560 (lv_at hl 0 rfl) ?_
    refine lv_iload hx hb dL_law_562 (lv_at hl 3 rfl) ?_
    refine kCallWi (va_runS (As := [.ref (ra 0), .int (nI o), .int (nI t)]) (rest := []) ⟨hx, hb, hml, hown, hts⟩ (c_L_reason l E ra (fun _ => z) (fun i j h1 h2 _ => by omega) (nI o) (nI t) hnr (tOK.nI (by omega)) _ rfl) (va_cwS 3 hts gL_law_L_reason rfl rfl rfl (by decide +kernel) ⟨Nat.le_of_ble_eq_true rfl, Nat.le_of_ble_eq_true rfl⟩) (kPreS hK hR) rfl rfl hl.1 rfl (lv_room (Nat.le_of_ble_eq_true rfl)) dL_law_564 ⟨Nat.le_of_ble_eq_true rfl, Nat.le_of_ble_eq_true rfl⟩) hS (fun q h => by obtain ⟨i, hi, e⟩ := h; rw [e, show i = 0 by omega]; exact hra) (fun H1 locs1 hR hsz hkp hS => ?_)
    have hY := hY.keptA (A := kA ra 1) hs hkp hap
    have hV := kP_kept (A := fun q => q = qa) hV (kD1 rfl) (fun q (h : q = qa) y => by obtain ⟨i, hi, e⟩ := y; exact hrq (by rw [show i = 0 by omega] at e; exact e.symm.trans h)) hkp
    have hlt : ∀ x, kA ad 90 x → x < H1.size := fun x hx => Nat.lt_of_lt_of_le (hlt x hx) hsz
    have hrl : ra 0 < H1.size := Nat.lt_of_lt_of_le hrl hsz
    have hr2 := reas_R (r := (fun _ => z)) (ρ := o) hQ.1 hI h48 ho ht ht0
    refine kGen (mL_reason (fun _ => z) (nI o) (nI t)) (fun d2 hd2 => ?_)
    rw [hd2] at hR hr2 ⊢
    rw [hr2.1] at hR
    refine lv_if_le (tgt := 574) hx hb dL_law_567 (by decide) (fun c_51 => ?_) (fun c_51 => ?_)
    · have hF_ : mX0_refusal (S 0) (nI t) (nI o) = 0 := by
        have e := hr2.2.uniq (refu_R (v := S 0) (ρ := o) hn12 h2 hI ho ht ht0)
        rcases hr2.2 with ⟨e1, _⟩ | ⟨_, ⟨e1, _⟩ | ⟨e1, _⟩⟩
        · rw [e1] at c_51; exact absurd c_51 (by decide)
        · rw [e1] at c_51; exact absurd c_51 (by decide)
        · rw [← e, e1]
      refine lv_iconst (v := 0) hx hb dL_law_574 (by decide) ?_
      refine lv_istore (lv' := [(14, .int 0), (13, .int (nI o)), (12, .int 0), (9, .int (nI k)), (8, .int (nI t)), (6, .int G), (5, .int (nI i0)), (0, .ref b), (1, .ref (ad 80)), (2, .ref (ra 0)), (3, .ref qa), (4, .int (nI ρ))]) hx hb dL_law_575 hl (by decide) rfl (fun ls hl => ?_)
      refine lv_aload_n hx hb dL_law_577 rfl (lv_at hl 8 rfl) ?_
      refine lv_iload hx hb dL_law_578 (lv_at hl 1 rfl) ?_
      refine kCallRi (va_runV (As := [.int (nI o)]) (rest := []) ⟨hx, hb, hml, hown, hts⟩ (c_X5_doomed l E ad S hs (nI o) hno _ rfl) (cwV 1 hts gL_law_X5_doomed rfl rfl rfl (by decide +kernel) ⟨Nat.le_of_ble_eq_true rfl, Nat.le_of_ble_eq_true rfl⟩) (kPreYV hK hY.2.1 hY (q0 := 0) rfl rfl) rfl rfl hl.1 rfl (lv_room (Nat.le_of_ble_eq_true rfl)) dL_law_580 ⟨Nat.le_of_ble_eq_true rfl, Nat.le_of_ble_eq_true rfl⟩) ?_
      refine lv_iload hx hb dL_law_583 (lv_at hl 4 rfl) ?_
      refine lv_ishr hx hb dL_law_585 ?_
      refine lv_iconst (v := 1) hx hb dL_law_586 (by decide) ?_
      refine lv_iand hx hb dL_law_587 ?_
      refine lv_iload hx hb dL_law_588 (lv_at hl 0 rfl) ?_
      refine lv_if_eq (tgt := 597) hx hb dL_law_590 (by decide) (fun _ => ?_) (fun c => absurd (by decide) c)
      refine lv_iconst (v := 0) hx hb dL_law_597 (by decide) ?_
      refine lv_icmp_ne (tgt := 674) hx hb dL_law_598 (by decide) (fun c => absurd (by first | exact (doom_A (S := S) hn12 h2 ho ht ht0).trans (if_pos hF_) | exact (doom_A (S := S) hn12 h2 ho ht ht0).trans (if_neg hF_)) c) (fun _ => ?_)
      refine lv_aload_n hx hb dL_law_601 rfl (lv_at hl 8 rfl) ?_
      refine lv_iload hx hb dL_law_602 (lv_at hl 4 rfl) ?_
      refine kCallRi (va_runV (As := [.int (nI t)]) (rest := []) ⟨hx, hb, hml, hown, hts⟩ (c_X5_would l E ad S hs (nI t) hno _ rfl) (cwV 1 hts gL_law_X5_would rfl rfl rfl (by decide +kernel) ⟨Nat.le_of_ble_eq_true rfl, Nat.le_of_ble_eq_true rfl⟩) (kPreYV hK hY.2.1 hY (q0 := 0) rfl rfl) rfl rfl hl.1 rfl (lv_room (Nat.le_of_ble_eq_true rfl)) dL_law_604 ⟨Nat.le_of_ble_eq_true rfl, Nat.le_of_ble_eq_true rfl⟩) ?_
      refine lv_iload hx hb dL_law_607 (lv_at hl 2 rfl) ?_
      refine lv_icmp_ne (tgt := 674) hx hb dL_law_609 (by decide) (fun c => absurd ((would_A (S := S) hn12 h2 ht ht0 hρ).trans hdue) c) (fun _ => ?_)
      refine lv_aload_n hx hb dL_law_612 rfl (lv_at hl 8 rfl) ?_
      refine lv_iload hx hb dL_law_613 (lv_at hl 4 rfl) ?_
      refine lv_iconst (v := 0) hx hb dL_law_615 (by decide) ?_
      refine kCallRi (va_runV (As := [.int (nI t), .int 0]) (rest := []) ⟨hx, hb, hml, hown, hts⟩ (c_X5_triple l E ad S hs (nI t) 0 hno _ rfl) (cwV 2 hts gL_law_X5_triple rfl rfl rfl (by decide +kernel) ⟨Nat.le_of_ble_eq_true rfl, Nat.le_of_ble_eq_true rfl⟩) (kPreYV hK hY.2.1 hY (q0 := 0) rfl rfl) rfl rfl hl.1 rfl (lv_room (Nat.le_of_ble_eq_true rfl)) dL_law_616 ⟨Nat.le_of_ble_eq_true rfl, Nat.le_of_ble_eq_true rfl⟩) ?_
      refine lv_if_lt (tgt := 626) hx hb dL_law_619 (by decide) (fun _ => ?_) (fun c => absurd (by rw [trip_A (S := S) hn12 h2 hI hρ4 ht ht0 hρ, hdue]; decide) c)
      refine lv_iconst (v := 0) hx hb dL_law_626 (by decide) ?_
      refine lv_iload hx hb dL_law_627 (lv_at hl 2 rfl) ?_
      refine lv_iconst (v := 2) hx hb dL_law_629 (by decide) ?_
      refine lv_icmp_ne (tgt := 637) hx hb dL_law_630 (by decide) (fun _ => ?_) (fun c => absurd c (by decide))
      refine lv_iconst (v := 0) hx hb dL_law_637 (by decide) ?_
      refine lv_icmp_ne (tgt := 674) hx hb dL_law_638 (by decide) (fun c => absurd (by decide) c) (fun _ => ?_)
      refine lv_aload_n hx hb dL_law_641 rfl (lv_at hl 8 rfl) ?_
      refine lv_iload hx hb dL_law_642 (lv_at hl 4 rfl) ?_
      refine kCallYi (va_runV (As := [.int (nI t)]) (rest := []) ⟨hx, hb, hml, hown, hts⟩ (c_X5_commit l E ad S hs (nI t) hh hno _ rfl) (cwV 1 hts gL_law_X5_commit rfl rfl rfl (by decide +kernel) ⟨Nat.le_of_ble_eq_true rfl, Nat.le_of_ble_eq_true rfl⟩) (kPreYV hK hY.2.1 hY (q0 := 0) rfl rfl) rfl rfl hl.1 rfl (lv_room (Nat.le_of_ble_eq_true rfl)) dL_law_644 ⟨Nat.le_of_ble_eq_true rfl, Nat.le_of_ble_eq_true rfl⟩) hS (fun q h => hA q h) (fun H1 locs1 hY hsz hkp hS => ?_)
      have hR := kP_kept hR (dR (fun i j h1 h2 _ => by omega) _) (fun q z y => hap q y z) hkp
      have hV := kP_kept (A := fun q => q = qa) hV (kD1 rfl) (fun q (h : q = qa) y => hapq q y h) hkp
      have hlt : ∀ x, kA ad 90 x → x < H1.size := fun x hx => Nat.lt_of_lt_of_le (hlt x hx) hsz
      have hrl : ra 0 < H1.size := Nat.lt_of_lt_of_le hrl hsz
      have hAn := commit_A (S := S) hn12 h2 hh ht ht0 hρ hdue
      refine kGen (mX5_commit S (nI t)) (fun g1 hg1 => ?_)
      rw [hg1] at hY hAn ⊢
      have hn1 : nOK (g1.2 0 0 2) := by rw [hAn.2.2.2.1]; exact hno
      refine lv_iload hx hb dL_law_647 (lv_at hl 2 rfl) ?_
      refine lv_icmp_ne (tgt := 674) hx hb dL_law_649 (by decide) (fun c => absurd hAn.1 c) (fun _ => ?_)
      refine lv_iload hx hb dL_law_652 (lv_at hl 2 rfl) ?_
      refine lv_if_eq (tgt := 670) hx hb dL_law_654 (by decide) (fun _ => ?_) (fun c => absurd (by decide) c)
      refine lv_iconst (v := 1) hx hb dL_law_670 (by decide) ?_
      refine lv_goto (tgt := 675) hx hb dL_law_671 (by decide) ?_
      refine lv_istore (lv' := [(11, .int 1), (14, .int 0), (13, .int (nI o)), (12, .int 0), (9, .int (nI k)), (8, .int (nI t)), (6, .int G), (5, .int (nI i0)), (0, .ref b), (1, .ref (ad 80)), (2, .ref (ra 0)), (3, .ref qa), (4, .int (nI ρ))]) hx hb dL_law_675 hl (by decide) rfl (fun ls hl => ?_)
      refine lv_aload_n hx hb dL_law_677 rfl (lv_at hl 10 rfl) ?_
      refine lv_bipush (v := 48) hx hb dL_law_678 (by decide) ?_
      refine lv_dup2_11 hx hb dL_law_680 rfl rfl ?_
      refine va_iald (D := E.1) hx hb hK.1 hR 0 0 rfl rfl (vp_in_nI (n := 48) (by decide) (by decide)) dL_law_681 ?_
      refine W.eq (g2 := F0 m 682 ls [.int (z 48), .int 48, .ref (ra 0)]) rfl ?_
      refine lv_iload hx hb dL_law_682 (lv_at hl 3 rfl) ?_
      refine lv_if_ne (tgt := 691) hx hb dL_law_684 (by decide) (fun c => absurd (by decide) c) (fun _ => ?_)
      refine lv_iconst (v := 1) hx hb dL_law_687 (by decide) ?_
      refine lv_goto (tgt := 692) hx hb dL_law_688 (by decide) ?_
      refine lv_iadd hx hb dL_law_692 ?_
      refine kSto hx hb hK hR hra hS (vp_in_nI (n := 48) (by decide) (by decide)) dL_law_693 (fun H1 locs1 hN1 ho hS1 hz1 => ?_)
      have hY := hY.keptA (A := fun q => q = ra 0) hs (fun q _ h2 => ho q h2) (fun q hq (h : q = ra 0) => hap q hq ⟨0, by omega, h⟩)
      have hV := kP1 hV (ho _ (show qa ≠ ra 0 from Ne.symm hrq))
      have hR : va_P E.1 vwCl (wRx E ra (upd z 48 ((z 48) + 1))) H1 := hN1
      have hS := hS1
      have hlt : ∀ x, kA ad 90 x → x < H1.size := fun x hx => by rw [hz1]; exact hlt x hx
      have hrl : ra 0 < H1.size := by rw [hz1]; exact hrl
      refine lv_aload_n hx hb dL_law_694 rfl (lv_at hl 10 rfl) ?_
      refine lv_bipush (v := 12) hx hb dL_law_695 (by decide) ?_
      refine lv_iload hx hb dL_law_697 (lv_at hl 5 rfl) ?_
      refine lv_iadd hx hb dL_law_699 ?_
      refine lv_iload hx hb dL_law_700 (lv_at hl 3 rfl) ?_
      refine lv_if_ne (tgt := 712) hx hb dL_law_702 (by decide) (fun c => absurd (by decide) c) (fun _ => ?_)
      refine lv_aload_n hx hb dL_law_705 rfl (lv_at hl 10 rfl) ?_
      refine lv_bipush (v := 48) hx hb dL_law_706 (by decide) ?_
      refine va_iald (D := E.1) hx hb hK.1 hR 0 0 rfl rfl (vp_in_nI (n := 48) (by decide) (by decide)) dL_law_708 ?_
      refine W.eq (g2 := F0 m 709 ls [.int ((upd z 48 ((z 48) + 1)) 48), .int (12 + (nI t)), .ref (ra 0)]) rfl ?_
      refine W.eq (g2 := F0 m 709 ls [.int ((z 48) + 1), .int (12 + (nI t)), .ref (ra 0)]) (by rw [show (upd z 48 ((z 48) + 1)) 48 = z 48 + 1 from pk_us]) ?_
      refine lv_goto (tgt := 713) hx hb dL_law_709 (by decide) ?_
      refine kSto hx hb hK hR hra hS (rIn 12 (by decide) (by first | assumption | exact tOK.nI (by omega))) dL_law_713 (fun H1 locs1 hN1 ho hS1 hz1 => ?_)
      have hY := hY.keptA (A := fun q => q = ra 0) hs (fun q _ h2 => ho q h2) (fun q hq (h : q = ra 0) => hap q hq ⟨0, by omega, h⟩)
      have hV := kP1 hV (ho _ (show qa ≠ ra 0 from Ne.symm hrq))
      rw [rA12 (t := t) (by omega)] at hN1
      have hR : va_P E.1 vwCl (wRx E ra (upd (upd z 48 ((z 48) + 1)) (12 + t) ((z 48) + 1))) H1 := hN1
      have hS := hS1
      have hlt : ∀ x, kA ad 90 x → x < H1.size := fun x hx => by rw [hz1]; exact hlt x hx
      have hrl : ra 0 < H1.size := by rw [hz1]; exact hrl
      refine lv_goto (tgt := 795) hx hb dL_law_714 (by decide) ?_
      exact law_tail C0 (n := n) (mm := (mm + 1)) (bb := bb) (cc := (cC cc t mm)) (S := (g1.2)) (z := (upd (upd z 48 ((z 48) + 1)) (12 + t) ((z 48) + 1))) (w := w) ⟨hY, hR, hV, hS, hlt, hrl, hAn.2.2.2.2.2.2.2, (hQ.commit (by omega) ht ht0 hRS hAn.2.1 hAn.2.2.1 hAn.2.2.2.1 hAn.2.2.2.2.1 hAn.2.2.2.2.2.1 hAn.2.2.2.2.2.2.1 rfl)⟩ (by omega) hi0 hk (lv_sub hl [0, 4, 7, 8, 9, 10, 11, 12] rfl) kk
    · have hF_ : ¬ mX0_refusal (S 0) (nI t) (nI o) = 0 := by
        have e := hr2.2.uniq (refu_R (v := S 0) (ρ := o) hn12 h2 hI ho ht ht0)
        intro y
        rw [← e] at y
        rw [y] at c_51; exact c_51 (by decide)
      refine lv_iconst (v := 1) hx hb dL_law_570 (by decide) ?_
      refine lv_goto (tgt := 575) hx hb dL_law_571 (by decide) ?_
      refine lv_istore (lv' := [(14, .int 1), (13, .int (nI o)), (12, .int 0), (9, .int (nI k)), (8, .int (nI t)), (6, .int G), (5, .int (nI i0)), (0, .ref b), (1, .ref (ad 80)), (2, .ref (ra 0)), (3, .ref qa), (4, .int (nI ρ))]) hx hb dL_law_575 hl (by decide) rfl (fun ls hl => ?_)
      refine lv_aload_n hx hb dL_law_577 rfl (lv_at hl 8 rfl) ?_
      refine lv_iload hx hb dL_law_578 (lv_at hl 1 rfl) ?_
      refine kCallRi (va_runV (As := [.int (nI o)]) (rest := []) ⟨hx, hb, hml, hown, hts⟩ (c_X5_doomed l E ad S hs (nI o) hno _ rfl) (cwV 1 hts gL_law_X5_doomed rfl rfl rfl (by decide +kernel) ⟨Nat.le_of_ble_eq_true rfl, Nat.le_of_ble_eq_true rfl⟩) (kPreYV hK hY.2.1 hY (q0 := 0) rfl rfl) rfl rfl hl.1 rfl (lv_room (Nat.le_of_ble_eq_true rfl)) dL_law_580 ⟨Nat.le_of_ble_eq_true rfl, Nat.le_of_ble_eq_true rfl⟩) ?_
      refine lv_iload hx hb dL_law_583 (lv_at hl 4 rfl) ?_
      refine lv_ishr hx hb dL_law_585 ?_
      refine lv_iconst (v := 1) hx hb dL_law_586 (by decide) ?_
      refine lv_iand hx hb dL_law_587 ?_
      refine lv_iload hx hb dL_law_588 (lv_at hl 0 rfl) ?_
      refine lv_if_eq (tgt := 597) hx hb dL_law_590 (by decide) (fun c => absurd c (by decide)) (fun _ => ?_)
      refine lv_iconst (v := 1) hx hb dL_law_593 (by decide) ?_
      refine lv_goto (tgt := 598) hx hb dL_law_594 (by decide) ?_
      refine lv_icmp_ne (tgt := 674) hx hb dL_law_598 (by decide) (fun c => absurd (by first | exact (doom_A (S := S) hn12 h2 ho ht ht0).trans (if_pos hF_) | exact (doom_A (S := S) hn12 h2 ho ht ht0).trans (if_neg hF_)) c) (fun _ => ?_)
      refine lv_aload_n hx hb dL_law_601 rfl (lv_at hl 8 rfl) ?_
      refine lv_iload hx hb dL_law_602 (lv_at hl 4 rfl) ?_
      refine kCallRi (va_runV (As := [.int (nI t)]) (rest := []) ⟨hx, hb, hml, hown, hts⟩ (c_X5_would l E ad S hs (nI t) hno _ rfl) (cwV 1 hts gL_law_X5_would rfl rfl rfl (by decide +kernel) ⟨Nat.le_of_ble_eq_true rfl, Nat.le_of_ble_eq_true rfl⟩) (kPreYV hK hY.2.1 hY (q0 := 0) rfl rfl) rfl rfl hl.1 rfl (lv_room (Nat.le_of_ble_eq_true rfl)) dL_law_604 ⟨Nat.le_of_ble_eq_true rfl, Nat.le_of_ble_eq_true rfl⟩) ?_
      refine lv_iload hx hb dL_law_607 (lv_at hl 2 rfl) ?_
      refine lv_icmp_ne (tgt := 674) hx hb dL_law_609 (by decide) (fun c => absurd ((would_A (S := S) hn12 h2 ht ht0 hρ).trans hdue) c) (fun _ => ?_)
      refine lv_aload_n hx hb dL_law_612 rfl (lv_at hl 8 rfl) ?_
      refine lv_iload hx hb dL_law_613 (lv_at hl 4 rfl) ?_
      refine lv_iconst (v := 0) hx hb dL_law_615 (by decide) ?_
      refine kCallRi (va_runV (As := [.int (nI t), .int 0]) (rest := []) ⟨hx, hb, hml, hown, hts⟩ (c_X5_triple l E ad S hs (nI t) 0 hno _ rfl) (cwV 2 hts gL_law_X5_triple rfl rfl rfl (by decide +kernel) ⟨Nat.le_of_ble_eq_true rfl, Nat.le_of_ble_eq_true rfl⟩) (kPreYV hK hY.2.1 hY (q0 := 0) rfl rfl) rfl rfl hl.1 rfl (lv_room (Nat.le_of_ble_eq_true rfl)) dL_law_616 ⟨Nat.le_of_ble_eq_true rfl, Nat.le_of_ble_eq_true rfl⟩) ?_
      refine lv_if_lt (tgt := 626) hx hb dL_law_619 (by decide) (fun _ => ?_) (fun c => absurd (by rw [trip_A (S := S) hn12 h2 hI hρ4 ht ht0 hρ, hdue]; decide) c)
      refine lv_iconst (v := 0) hx hb dL_law_626 (by decide) ?_
      refine lv_iload hx hb dL_law_627 (lv_at hl 2 rfl) ?_
      refine lv_iconst (v := 2) hx hb dL_law_629 (by decide) ?_
      refine lv_icmp_ne (tgt := 637) hx hb dL_law_630 (by decide) (fun _ => ?_) (fun c => absurd c (by decide))
      refine lv_iconst (v := 0) hx hb dL_law_637 (by decide) ?_
      refine lv_icmp_ne (tgt := 674) hx hb dL_law_638 (by decide) (fun c => absurd (by decide) c) (fun _ => ?_)
      refine lv_aload_n hx hb dL_law_641 rfl (lv_at hl 8 rfl) ?_
      refine lv_iload hx hb dL_law_642 (lv_at hl 4 rfl) ?_
      refine kCallYi (va_runV (As := [.int (nI t)]) (rest := []) ⟨hx, hb, hml, hown, hts⟩ (c_X5_commit l E ad S hs (nI t) hh hno _ rfl) (cwV 1 hts gL_law_X5_commit rfl rfl rfl (by decide +kernel) ⟨Nat.le_of_ble_eq_true rfl, Nat.le_of_ble_eq_true rfl⟩) (kPreYV hK hY.2.1 hY (q0 := 0) rfl rfl) rfl rfl hl.1 rfl (lv_room (Nat.le_of_ble_eq_true rfl)) dL_law_644 ⟨Nat.le_of_ble_eq_true rfl, Nat.le_of_ble_eq_true rfl⟩) hS (fun q h => hA q h) (fun H1 locs1 hY hsz hkp hS => ?_)
      have hR := kP_kept hR (dR (fun i j h1 h2 _ => by omega) _) (fun q z y => hap q y z) hkp
      have hV := kP_kept (A := fun q => q = qa) hV (kD1 rfl) (fun q (h : q = qa) y => hapq q y h) hkp
      have hlt : ∀ x, kA ad 90 x → x < H1.size := fun x hx => Nat.lt_of_lt_of_le (hlt x hx) hsz
      have hrl : ra 0 < H1.size := Nat.lt_of_lt_of_le hrl hsz
      have hAn := commit_A (S := S) hn12 h2 hh ht ht0 hρ hdue
      refine kGen (mX5_commit S (nI t)) (fun g1 hg1 => ?_)
      rw [hg1] at hY hAn ⊢
      have hn1 : nOK (g1.2 0 0 2) := by rw [hAn.2.2.2.1]; exact hno
      refine lv_iload hx hb dL_law_647 (lv_at hl 2 rfl) ?_
      refine lv_icmp_ne (tgt := 674) hx hb dL_law_649 (by decide) (fun c => absurd hAn.1 c) (fun _ => ?_)
      refine lv_iload hx hb dL_law_652 (lv_at hl 2 rfl) ?_
      refine lv_if_eq (tgt := 670) hx hb dL_law_654 (by decide) (fun _ => ?_) (fun c => absurd (by decide) c)
      refine lv_iconst (v := 1) hx hb dL_law_670 (by decide) ?_
      refine lv_goto (tgt := 675) hx hb dL_law_671 (by decide) ?_
      refine lv_istore (lv' := [(11, .int 1), (14, .int 1), (13, .int (nI o)), (12, .int 0), (9, .int (nI k)), (8, .int (nI t)), (6, .int G), (5, .int (nI i0)), (0, .ref b), (1, .ref (ad 80)), (2, .ref (ra 0)), (3, .ref qa), (4, .int (nI ρ))]) hx hb dL_law_675 hl (by decide) rfl (fun ls hl => ?_)
      refine lv_aload_n hx hb dL_law_677 rfl (lv_at hl 10 rfl) ?_
      refine lv_bipush (v := 48) hx hb dL_law_678 (by decide) ?_
      refine lv_dup2_11 hx hb dL_law_680 rfl rfl ?_
      refine va_iald (D := E.1) hx hb hK.1 hR 0 0 rfl rfl (vp_in_nI (n := 48) (by decide) (by decide)) dL_law_681 ?_
      refine W.eq (g2 := F0 m 682 ls [.int (z 48), .int 48, .ref (ra 0)]) rfl ?_
      refine lv_iload hx hb dL_law_682 (lv_at hl 3 rfl) ?_
      refine lv_if_ne (tgt := 691) hx hb dL_law_684 (by decide) (fun c => absurd (by decide) c) (fun _ => ?_)
      refine lv_iconst (v := 1) hx hb dL_law_687 (by decide) ?_
      refine lv_goto (tgt := 692) hx hb dL_law_688 (by decide) ?_
      refine lv_iadd hx hb dL_law_692 ?_
      refine kSto hx hb hK hR hra hS (vp_in_nI (n := 48) (by decide) (by decide)) dL_law_693 (fun H1 locs1 hN1 ho hS1 hz1 => ?_)
      have hY := hY.keptA (A := fun q => q = ra 0) hs (fun q _ h2 => ho q h2) (fun q hq (h : q = ra 0) => hap q hq ⟨0, by omega, h⟩)
      have hV := kP1 hV (ho _ (show qa ≠ ra 0 from Ne.symm hrq))
      have hR : va_P E.1 vwCl (wRx E ra (upd z 48 ((z 48) + 1))) H1 := hN1
      have hS := hS1
      have hlt : ∀ x, kA ad 90 x → x < H1.size := fun x hx => by rw [hz1]; exact hlt x hx
      have hrl : ra 0 < H1.size := by rw [hz1]; exact hrl
      refine lv_aload_n hx hb dL_law_694 rfl (lv_at hl 10 rfl) ?_
      refine lv_bipush (v := 12) hx hb dL_law_695 (by decide) ?_
      refine lv_iload hx hb dL_law_697 (lv_at hl 5 rfl) ?_
      refine lv_iadd hx hb dL_law_699 ?_
      refine lv_iload hx hb dL_law_700 (lv_at hl 3 rfl) ?_
      refine lv_if_ne (tgt := 712) hx hb dL_law_702 (by decide) (fun c => absurd (by decide) c) (fun _ => ?_)
      refine lv_aload_n hx hb dL_law_705 rfl (lv_at hl 10 rfl) ?_
      refine lv_bipush (v := 48) hx hb dL_law_706 (by decide) ?_
      refine va_iald (D := E.1) hx hb hK.1 hR 0 0 rfl rfl (vp_in_nI (n := 48) (by decide) (by decide)) dL_law_708 ?_
      refine W.eq (g2 := F0 m 709 ls [.int ((upd z 48 ((z 48) + 1)) 48), .int (12 + (nI t)), .ref (ra 0)]) rfl ?_
      refine W.eq (g2 := F0 m 709 ls [.int ((z 48) + 1), .int (12 + (nI t)), .ref (ra 0)]) (by rw [show (upd z 48 ((z 48) + 1)) 48 = z 48 + 1 from pk_us]) ?_
      refine lv_goto (tgt := 713) hx hb dL_law_709 (by decide) ?_
      refine kSto hx hb hK hR hra hS (rIn 12 (by decide) (by first | assumption | exact tOK.nI (by omega))) dL_law_713 (fun H1 locs1 hN1 ho hS1 hz1 => ?_)
      have hY := hY.keptA (A := fun q => q = ra 0) hs (fun q _ h2 => ho q h2) (fun q hq (h : q = ra 0) => hap q hq ⟨0, by omega, h⟩)
      have hV := kP1 hV (ho _ (show qa ≠ ra 0 from Ne.symm hrq))
      rw [rA12 (t := t) (by omega)] at hN1
      have hR : va_P E.1 vwCl (wRx E ra (upd (upd z 48 ((z 48) + 1)) (12 + t) ((z 48) + 1))) H1 := hN1
      have hS := hS1
      have hlt : ∀ x, kA ad 90 x → x < H1.size := fun x hx => by rw [hz1]; exact hlt x hx
      have hrl : ra 0 < H1.size := by rw [hz1]; exact hrl
      refine lv_goto (tgt := 795) hx hb dL_law_714 (by decide) ?_
      exact law_tail C0 (n := n) (mm := (mm + 1)) (bb := bb) (cc := (cC cc t mm)) (S := (g1.2)) (z := (upd (upd z 48 ((z 48) + 1)) (12 + t) ((z 48) + 1))) (w := w) ⟨hY, hR, hV, hS, hlt, hrl, hAn.2.2.2.2.2.2.2, (hQ.commit (by omega) ht ht0 hRS hAn.2.1 hAn.2.2.1 hAn.2.2.2.1 hAn.2.2.2.2.1 hAn.2.2.2.2.2.1 hAn.2.2.2.2.2.2.1 rfl)⟩ (by omega) hi0 hk (lv_sub hl [0, 4, 7, 8, 9, 10, 11, 12] rfl) kk
