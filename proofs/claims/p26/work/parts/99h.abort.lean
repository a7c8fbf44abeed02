set_option maxHeartbeats 4000000 in
set_option maxRecDepth 100000 in
theorem law_cnt {p : Program} {l : Launch} {e : Env} {s : State} {m : MethodId} {below : List Frame} {meth : Method} {c : Code} {b L : Nat} {xs : Nat → Int32} {E : kE} {ad ra : Nat → Nat} {qa : Nat} {Q : State → Prop} {n ρ i0 : Nat} {H : Heap} {locs : List Loc} {k t : Nat} {z1 : Nat → Int32} {P : Nat → Bool} (C : LC p s m meth c b L xs E ad ra qa) (hR : va_P E.1 vwCl (wRx E ra z1) H) (hn12 : n ≤ 12) (hz49 : z1 49 = nI n) (hzP : ∀ u, u < n → (z1 (12 + u) = 0) = (P u = true)) (k766 : ∀ (ls : Array Slot), lv_has ls 15 [(13, .int (nI n)), (12, .int (nI (cn P n))), (9, .int (nI k)), (8, .int (nI t)), (5, .int (nI i0)), (0, .ref b), (1, .ref (ad 80)), (2, .ref (ra 0)), (3, .ref qa), (4, .int (nI ρ))] → W p l e room_1 s m #[Value.ref b] below meth c H locs 92 2996 Q (F0 m 766 ls [])) : ∀ f i, i ≤ n → n < f + i → ∀ ls : Array Slot, lv_has ls 15 [(13, .int (nI i)), (12, .int (nI (cn P i))), (9, .int (nI k)), (8, .int (nI t)), (5, .int (nI i0)), (0, .ref b), (1, .ref (ad 80)), (2, .ref (ra 0)), (3, .ref qa), (4, .int (nI ρ))] → W p l e room_1 s m #[Value.ref b] below meth c H locs 92 2996 Q (F0 m 731 ls []) := by
  obtain ⟨hx, hb, hml, hown, hts, hX, hL, hbl, hK, hs, hA, hra, hqa, hap, hapq, hrq⟩ := C
  intro f
  induction f with
  | zero => intro i h1 h3; omega
  | succ f ih =>
    intro i h1 h3 ls hl
    refine lv_iload hx hb dL_law_731 (lv_at hl 0 rfl) ?_
    refine lv_aload_n hx hb dL_law_733 rfl (lv_at hl 7 rfl) ?_
    refine lv_bipush (v := 49) hx hb dL_law_734 (by decide) ?_
    refine va_iald (D := E.1) hx hb hK.1 hR 0 0 rfl rfl (vp_in_nI (n := 49) (by decide) (by decide)) dL_law_736 ?_
    refine W.eq (g2 := F0 m 737 ls [.int (z1 49), .int (nI i)]) rfl ?_
    refine W.eq (g2 := F0 m 737 ls [.int (nI n), .int (nI i)]) (by rw [show z1 49 = nI n from hz49]) ?_
    refine lv_icmp_ge (tgt := 766) hx hb dL_law_737 (by decide) (fun c_1 => ?_) (fun c_1 => ?_)
    · have hin : i = n := by rw [nI_leI (by omega) (by omega)] at c_1; omega
      subst hin
      exact k766 ls hl
    · have hb_ : i < n := by rw [nI_leI (by omega) (by omega)] at c_1; omega
      refine lv_iload hx hb dL_law_740 (lv_at hl 1 rfl) ?_
      refine lv_aload_n hx hb dL_law_742 rfl (lv_at hl 7 rfl) ?_
      refine lv_bipush (v := 12) hx hb dL_law_743 (by decide) ?_
      refine lv_iload hx hb dL_law_745 (lv_at hl 0 rfl) ?_
      refine lv_iadd hx hb dL_law_747 ?_
      refine va_iald (D := E.1) hx hb hK.1 hR 0 0 rfl rfl (rIn 12 (by decide) (by first | assumption | exact tOK.nI (by omega))) dL_law_748 ?_
      refine W.eq (g2 := F0 m 749 ls [.int (z1 (12 + i)), .int (nI (cn P i))]) (by rw [rA12 (t := i) (by omega)]) ?_
      refine lv_if_ne (tgt := 756) hx hb dL_law_749 (by decide) (fun c_2 => ?_) (fun c_2 => ?_)
      · have hz : ¬ P i = true := by rw [← hzP i hb_]; exact c_2
        refine lv_iconst (v := 0) hx hb dL_law_756 (by decide) ?_
        refine lv_iadd hx hb dL_law_757 ?_
        refine W.eq (g2 := F0 m 758 ls [.int (nI (cn P (i + 1)))]) (by first | (rw [nI_1, show cn P (i + 1) = cn P i + 1 from by show cn P i + (if P i = true then 1 else 0) = _; rw [if_pos hz]]) | (rw [Int32.add_zero, show cn P (i + 1) = cn P i from by show cn P i + (if P i = true then 1 else 0) = _; rw [if_neg hz, Nat.add_zero]])) ?_
        refine lv_istore (lv' := [(12, .int (nI (cn P (i + 1)))), (13, .int (nI i)), (9, .int (nI k)), (8, .int (nI t)), (5, .int (nI i0)), (0, .ref b), (1, .ref (ad 80)), (2, .ref (ra 0)), (3, .ref qa), (4, .int (nI ρ))]) hx hb dL_law_758 hl (by decide) rfl (fun ls hl => ?_)
        refine lv_iinc (v := (nI (i + 1))) (lv' := [(13, .int (nI (i + 1))), (12, .int (nI (cn P (i + 1)))), (9, .int (nI k)), (8, .int (nI t)), (5, .int (nI i0)), (0, .ref b), (1, .ref (ad 80)), (2, .ref (ra 0)), (3, .ref qa), (4, .int (nI ρ))]) hx hb dL_law_760 hl (k := 1) rfl (nI_1 i) (by decide) rfl (fun ls hl => ?_)
        refine lv_goto (tgt := 731) hx hb dL_law_763 (by decide) ?_
        exact ih (i + 1) (by omega) (by omega) ls (lv_sub hl [0, 1, 2, 3, 4, 5, 6, 7, 8, 9] rfl)
      · have hz : P i = true := by rw [← hzP i hb_]; exact c_2
        refine lv_iconst (v := 1) hx hb dL_law_752 (by decide) ?_
        refine lv_goto (tgt := 757) hx hb dL_law_753 (by decide) ?_
        refine lv_iadd hx hb dL_law_757 ?_
        refine W.eq (g2 := F0 m 758 ls [.int (nI (cn P (i + 1)))]) (by first | (rw [nI_1, show cn P (i + 1) = cn P i + 1 from by show cn P i + (if P i = true then 1 else 0) = _; rw [if_pos hz]]) | (rw [Int32.add_zero, show cn P (i + 1) = cn P i from by show cn P i + (if P i = true then 1 else 0) = _; rw [if_neg hz, Nat.add_zero]])) ?_
        refine lv_istore (lv' := [(12, .int (nI (cn P (i + 1)))), (13, .int (nI i)), (9, .int (nI k)), (8, .int (nI t)), (5, .int (nI i0)), (0, .ref b), (1, .ref (ad 80)), (2, .ref (ra 0)), (3, .ref qa), (4, .int (nI ρ))]) hx hb dL_law_758 hl (by decide) rfl (fun ls hl => ?_)
        refine lv_iinc (v := (nI (i + 1))) (lv' := [(13, .int (nI (i + 1))), (12, .int (nI (cn P (i + 1)))), (9, .int (nI k)), (8, .int (nI t)), (5, .int (nI i0)), (0, .ref b), (1, .ref (ad 80)), (2, .ref (ra 0)), (3, .ref qa), (4, .int (nI ρ))]) hx hb dL_law_760 hl (k := 1) rfl (nI_1 i) (by decide) rfl (fun ls hl => ?_)
        refine lv_goto (tgt := 731) hx hb dL_law_763 (by decide) ?_
        exact ih (i + 1) (by omega) (by omega) ls (lv_sub hl [0, 1, 2, 3, 4, 5, 6, 7, 8, 9] rfl)
set_option maxHeartbeats 4000000 in
set_option maxRecDepth 100000 in
theorem law_F {p : Program} {l : Launch} {e : Env} {s : State} {m : MethodId} {below : List Frame} {meth : Method} {c : Code} {b L : Nat} {xs : Nat → Int32} {E : kE} {ad ra : Nat → Nat} {qa : Nat} {Q : State → Prop} {n mm ρ i0 : Nat} {bb cc : Nat → Nat} {S : kS} {z w : Nat → Int32} {H : Heap} {locs : List Loc} {ls : Array Slot} {k t : Nat} {G : Int32} (C : LC p s m meth c b L xs E ad ra qa) (hI : LI s E ad ra qa n mm bb cc ρ S z w H locs) (hmm : mm ≤ i0) (hi0 : i0 < 52) (hk : k < 5) (ht : t < n) (ht0 : S 0 1 t = 0) (hl : lv_has ls 15 [(9, .int (nI k)), (8, .int (nI t)), (6, .int G), (5, .int (nI i0)), (0, .ref b), (1, .ref (ad 80)), (2, .ref (ra 0)), (3, .ref qa), (4, .int (nI ρ))]) (kk : ∀ (n mm : Nat) (bb cc : Nat → Nat) (S : kS) (z w : Nat → Int32) (H : Heap) (locs : List Loc) (ls : Array Slot), mm ≤ i0 + 1 → LI s E ad ra qa n mm bb cc ρ S z w H locs → lv_has ls 15 [(5, .int (nI (i0 + 1))), (0, .ref b), (1, .ref (ad 80)), (2, .ref (ra 0)), (3, .ref qa), (4, .int (nI ρ))] → W p l e room_1 s m #[Value.ref b] below meth c H locs 92 2996 Q (F0 m 52 ls [])) : W p l e room_1 s m #[Value.ref b] below meth c H locs 92 2996 Q (F0 m 717 ls []) := by
  have C0 := C
  have hI0 := hI
  obtain ⟨hx, hb, hml, hown, hts, hX, hL, hbl, hK, hs, hA, hra, hqa, hap, hapq, hrq⟩ := C
  obtain ⟨hY, hR, hV, hS, hlt, hrl, hh, hQ⟩ := hI
  have hn12 := hQ.1.1
  have h2 := hQ.2.1
  have hI := hQ.2.2.1
  have hm30 := hI.2.1
  have hno : nOK (S 0 0 2) := ⟨n, hn12, h2⟩
  have hnr : nOK ((fun _ => z : kG) 0 49) := ⟨n, hn12, hQ.1.2.1⟩
  obtain ⟨_, _, _, h48, hB, hZ, hρ, hρ4, hW7, hF, hN, h0⟩ := id hQ
  refine lv_aload_n hx hb dL_law_717 rfl (lv_at hl 6 rfl) ?_
  refine lv_bipush (v := 12) hx hb dL_law_718 (by decide) ?_
  refine lv_iload hx hb dL_law_720 (lv_at hl 1 rfl) ?_
  refine lv_iadd hx hb dL_law_722 ?_
  refine lv_iconst (v := (-1)) hx hb dL_law_723 (by decide) ?_
  refine kSto hx hb hK hR hra hS (rIn 12 (by decide) (by first | assumption | exact tOK.nI (by omega))) dL_law_724 (fun H1 locs1 hN1 ho hS1 hz1 => ?_)
  have hY := hY.keptA (A := fun q => q = ra 0) hs (fun q _ h2 => ho q h2) (fun q hq (h : q = ra 0) => hap q hq ⟨0, by omega, h⟩)
  have hV := kP1 hV (ho _ (show qa ≠ ra 0 from Ne.symm hrq))
  rw [rA12 (t := t) (by omega)] at hN1
  have hR : va_P E.1 vwCl (wRx E ra (upd z (12 + t) (-1))) H1 := hN1
  have hS := hS1
  have hlt : ∀ x, kA ad 90 x → x < H1.size := fun x hx => by rw [hz1]; exact hlt x hx
  have hrl : ra 0 < H1.size := by rw [hz1]; exact hrl
  refine lv_iconst (v := 0) hx hb dL_law_725 (by decide) ?_
  refine lv_istore (lv' := [(12, .int 0), (9, .int (nI k)), (8, .int (nI t)), (6, .int G), (5, .int (nI i0)), (0, .ref b), (1, .ref (ad 80)), (2, .ref (ra 0)), (3, .ref qa), (4, .int (nI ρ))]) hx hb dL_law_726 hl (by decide) rfl (fun ls hl => ?_)
  refine lv_iconst (v := 0) hx hb dL_law_728 (by decide) ?_
  refine lv_istore (lv' := [(13, .int 0), (12, .int 0), (9, .int (nI k)), (8, .int (nI t)), (6, .int G), (5, .int (nI i0)), (0, .ref b), (1, .ref (ad 80)), (2, .ref (ra 0)), (3, .ref qa), (4, .int (nI ρ))]) hx hb dL_law_729 hl (by decide) rfl (fun ls hl => ?_)
  have hzP : ∀ u, u < n → ((upd z (12 + t) (-1)) (12 + u) = 0) = ((fun u => decide (upd (S 0 1) t 2 u = 0)) u = true) := fun u hu => by
    show ((upd z (12 + t) (-1)) (12 + u) = 0) = (decide (upd (S 0 1) t 2 u = 0) = true)
    by_cases q : u = t
    · rw [q, pk_us, pk_us]; exact propext ⟨fun y => absurd y (by decide), fun y => absurd y (by decide)⟩
    · rw [pk_un (show 12 + u ≠ 12 + t by omega), pk_un q, hQ.1.zero (r := fun _ => z) hu]; simp
  refine law_cnt (P := (fun u => decide (upd (S 0 1) t 2 u = 0))) (z1 := (upd z (12 + t) (-1))) (k := k) (t := t) (ρ := ρ) (i0 := i0) C0 hR hn12 ((pk_un (show 49 ≠ 12 + t by omega)).trans hQ.1.2.1) hzP (fun ls hl => ?_) 13 0 (Nat.zero_le _) (by omega) ls (lv_sub hl [0, 1, 2, 3, 5, 6, 7, 8, 9, 10] rfl)
  refine lv_aload_n hx hb dL_law_766 rfl (lv_at hl 6 rfl) ?_
  refine lv_iload hx hb dL_law_767 (lv_at hl 3 rfl) ?_
  refine kCallYi (va_runV (As := [.int (nI t)]) (rest := []) ⟨hx, hb, hml, hown, hts⟩ (c_X5_abort l E ad S hs (nI t) hh hno _ rfl) (cwV 1 hts gL_law_X5_abort rfl rfl rfl (by decide +kernel) ⟨Nat.le_of_ble_eq_true rfl, Nat.le_of_ble_eq_true rfl⟩) (kPreYV hK hY.2.1 hY (q0 := 0) rfl rfl) rfl rfl hl.1 rfl (lv_room (Nat.le_of_ble_eq_true rfl)) dL_law_769 ⟨Nat.le_of_ble_eq_true rfl, Nat.le_of_ble_eq_true rfl⟩) hS (fun q h => hA q h) (fun H1 locs1 hY hsz hkp hS => ?_)
  have hR := kP_kept hR (dR (fun i j h1 h2 _ => by omega) _) (fun q z y => hap q y z) hkp
  have hV := kP_kept (A := fun q => q = qa) hV (kD1 rfl) (fun q (h : q = qa) y => hapq q y h) hkp
  have hlt : ∀ x, kA ad 90 x → x < H1.size := fun x hx => Nat.lt_of_lt_of_le (hlt x hx) hsz
  have hrl : ra 0 < H1.size := Nat.lt_of_lt_of_le hrl hsz
  have hAn := abort_A (S := S) hn12 h2 hh ht ht0
  refine kGen (mX5_abort S (nI t)) (fun g1 hg1 => ?_)
  rw [hg1] at hY hAn ⊢
  have hn1 : nOK (g1.2 0 0 2) := by rw [hAn.2.1 0 (by decide) (by decide)]; exact hno
  have h21 : g1.2 0 0 2 = nI n := by rw [hAn.2.1 0 (by decide) (by decide)]; exact h2
  refine lv_iload hx hb dL_law_772 (lv_at hl 1 rfl) ?_
  refine lv_icmp_ne (tgt := 792) hx hb dL_law_774 (by decide) (fun c => absurd hAn.1 c) (fun _ => ?_)
  refine lv_aload_n hx hb dL_law_777 rfl (lv_at hl 6 rfl) ?_
  refine lv_iload hx hb dL_law_778 (lv_at hl 3 rfl) ?_
  refine lv_bipush (v := 7) hx hb dL_law_780 (by decide) ?_
  refine kCallRi (va_runV (As := [.int (nI t), .int 7]) (rest := []) ⟨hx, hb, hml, hown, hts⟩ (c_X5_of l E ad (g1.2) hs (nI t) 7 hn1 _ rfl) (cwV 2 hts gL_law_X5_of rfl rfl rfl (by decide +kernel) ⟨Nat.le_of_ble_eq_true rfl, Nat.le_of_ble_eq_true rfl⟩) (kPreYV hK hY.2.1 hY (q0 := 0) rfl rfl) rfl rfl hl.1 rfl (lv_room (Nat.le_of_ble_eq_true rfl)) dL_law_782 ⟨Nat.le_of_ble_eq_true rfl, Nat.le_of_ble_eq_true rfl⟩) ?_
  refine lv_if_ne (tgt := 792) hx hb dL_law_785 (by decide) (fun c => absurd ((of_0 (S := g1.2) hn12 h21 ht).2.2.2.2.2.2.2.1.trans (by rw [hAn.2.2.2.1, pk_us])) c) (fun _ => ?_)
  refine lv_iconst (v := 1) hx hb dL_law_788 (by decide) ?_
  refine lv_goto (tgt := 793) hx hb dL_law_789 (by decide) ?_
  refine lv_istore (lv' := [(11, .int 1), (13, .int (nI n)), (12, .int (nI (cn (fun u => decide (upd (S 0 1) t 2 u = 0)) n))), (9, .int (nI k)), (8, .int (nI t)), (5, .int (nI i0)), (0, .ref b), (1, .ref (ad 80)), (2, .ref (ra 0)), (3, .ref qa), (4, .int (nI ρ))]) hx hb dL_law_793 hl (by decide) rfl (fun ls hl => ?_)
  exact law_tail C0 (n := n) (mm := mm) (bb := bb) (cc := cc) (S := (g1.2)) (z := (upd z (12 + t) (-1))) (w := w) ⟨hY, hR, hV, hS, hlt, hrl, hAn.2.2.2.2, (hQ.abort (x := 0) ht ht0 (by decide) hAn.2.1 hAn.2.2.1 hAn.2.2.2.1 rfl)⟩ (by omega) hi0 hk (lv_sub hl [0, 3, 5, 6, 7, 8, 9, 10] rfl) kk
