set_option maxHeartbeats 4000000 in
set_option maxRecDepth 100000 in
theorem law_tail {p : Program} {l : Launch} {e : Env} {s : State} {m : MethodId} {below : List Frame} {meth : Method} {c : Code} {b L : Nat} {xs : Nat → Int32} {E : kE} {ad ra : Nat → Nat} {qa : Nat} {Q : State → Prop} {n mm ρ i0 : Nat} {bb cc : Nat → Nat} {S : kS} {z w : Nat → Int32} {H : Heap} {locs : List Loc} {ls : Array Slot} {k : Nat} (C : LC p s m meth c b L xs E ad ra qa) (hI : LI s E ad ra qa n mm bb cc ρ S z w H locs) (hmm : mm ≤ i0 + 1) (hi0 : i0 < 52) (hk : k < 5) (hl : lv_has ls 15 [(11, .int 1), (9, .int (nI k)), (5, .int (nI i0)), (0, .ref b), (1, .ref (ad 80)), (2, .ref (ra 0)), (3, .ref qa), (4, .int (nI ρ))]) (kk : ∀ (n mm : Nat) (bb cc : Nat → Nat) (S : kS) (z w : Nat → Int32) (H : Heap) (locs : List Loc) (ls : Array Slot), mm ≤ i0 + 1 → LI s E ad ra qa n mm bb cc ρ S z w H locs → lv_has ls 15 [(5, .int (nI (i0 + 1))), (0, .ref b), (1, .ref (ad 80)), (2, .ref (ra 0)), (3, .ref qa), (4, .int (nI ρ))] → W p l e room_1 s m #[Value.ref b] below meth c H locs 92 2996 Q (F0 m 52 ls [])) : W p l e room_1 s m #[Value.ref b] below meth c H locs 92 2996 Q (F0 m 795 ls []) := by
  have C0 := C
  have hI0 := hI
  obtain ⟨hx, hb, hml, hown, hts, hX, hL, hbl, hK, hs, hA, hra, hqa, hap, hapq, hrq⟩ := C
  obtain ⟨hY, hR, hV, hS, hlt, hrl, hh, hQ⟩ := hI
  have hn12 := hQ.1.1
  have h2 := hQ.2.1
  have hI := hQ.2.2.1
  have hm30 := hI.2.1
  have hno : nOK (S 0 0 2) := ⟨n, hn12, h2⟩
  have hnr : nOK ((fun _ => z : kG) 0 49) := ⟨n, hn12, hQ.1.2.1⟩
  obtain ⟨_, _, _, h48, hB, hZ, hρ, hρ4, hW7, hF, hN, h0⟩ := id hQ
  refine lv_iload hx hb dL_law_795 (lv_at hl 0 rfl) ?_
  refine lv_if_eq (tgt := 816) hx hb dL_law_797 (by decide) (fun c => absurd c (by decide)) (fun _ => ?_)
  refine lv_iload hx hb dL_law_800 (lv_at hl 2 rfl) ?_
  refine lv_iconst (v := 4) hx hb dL_law_802 (by decide) ?_
  refine lv_irem hx hb dL_law_803 (by decide) ?_
  refine W.eq (g2 := F0 m 804 ls [.int (nI (i0 % 4))]) (by rw [show (4 : Int32) = nI 4 from rfl, kremI (by omega) (by omega)]) ?_
  refine lv_iconst (v := 3) hx hb dL_law_804 (by decide) ?_
  refine lv_icmp_ne (tgt := 818) hx hb dL_law_805 (by decide) (fun c_1 => ?_) (fun c_1 => ?_)
  · refine lv_aload_n hx hb dL_law_818 rfl (lv_at hl 5 rfl) ?_
    refine lv_iload hx hb dL_law_819 (lv_at hl 1 rfl) ?_
    refine lv_aload_n hx hb dL_law_821 rfl (lv_at hl 5 rfl) ?_
    refine lv_bipush (v := 48) hx hb dL_law_822 (by decide) ?_
    refine va_iald (D := E.1) hx hb hK.1 hR 0 0 rfl rfl (vp_in_nI (n := 48) (by decide) (by decide)) dL_law_824 ?_
    refine W.eq (g2 := F0 m 825 ls [.int (z 48), .int (nI k), .ref (ra 0)]) rfl ?_
    refine W.eq (g2 := F0 m 825 ls [.int (nI mm), .int (nI k), .ref (ra 0)]) (by rw [show z 48 = nI mm from h48]) ?_
    refine lv_iconst (v := 1) hx hb dL_law_825 (by decide) ?_
    refine lv_iadd hx hb dL_law_826 ?_
    refine W.eq (g2 := F0 m 827 ls [.int (nI (mm + 1)), .int (nI k), .ref (ra 0)]) (by rw [nI_1]) ?_
    refine kCallRi (va_runS (As := [.ref (ra 0), .int (nI k), .int (nI (mm + 1))]) (rest := []) ⟨hx, hb, hml, hown, hts⟩ (c_L_writer l E ra (fun _ => z) (nI k) (nI (mm + 1)) hnr _ rfl) (va_cwS 3 hts gL_law_L_writer rfl rfl rfl (by decide +kernel) ⟨Nat.le_of_ble_eq_true rfl, Nat.le_of_ble_eq_true rfl⟩) (kPreS hK hR) rfl rfl hl.1 rfl (lv_room (Nat.le_of_ble_eq_true rfl)) dL_law_827 ⟨Nat.le_of_ble_eq_true rfl, Nat.le_of_ble_eq_true rfl⟩) ?_
    have hW : WL (S 0) n cc k (mm + 1) (mL_writer (fun _ => z) (nI k) (nI (mm + 1))) := writer_W (r := (fun _ => z)) hQ.1 hI (Nat.le_refl _)
    refine kGen (mL_writer (fun _ => z) (nI k) (nI (mm + 1))) (fun y hy => ?_)
    rw [hy] at hW ⊢
    refine lv_istore (lv' := [(12, .int y), (11, .int 1), (9, .int (nI k)), (5, .int (nI i0)), (0, .ref b), (1, .ref (ad 80)), (2, .ref (ra 0)), (3, .ref qa), (4, .int (nI ρ))]) hx hb dL_law_830 hl (by decide) rfl (fun ls hl => ?_)
    rcases value_A (S := S) hn12 h2 hI (show k < 16 by omega) hW with ⟨ey, ev⟩ | ⟨j, hj, ey, hjw, ev⟩
    · subst ey
      refine lv_aload_n hx hb dL_law_832 rfl (lv_at hl 5 rfl) ?_
      refine lv_iload hx hb dL_law_833 (lv_at hl 2 rfl) ?_
      refine kCallRi (va_runV (As := [.int (nI k)]) (rest := []) ⟨hx, hb, hml, hown, hts⟩ (c_X5_value l E ad S hs (nI k) hno _ rfl) (cwV 1 hts gL_law_X5_value rfl rfl rfl (by decide +kernel) ⟨Nat.le_of_ble_eq_true rfl, Nat.le_of_ble_eq_true rfl⟩) (kPreYV hK hY.2.1 hY (q0 := 0) rfl rfl) rfl rfl hl.1 rfl (lv_room (Nat.le_of_ble_eq_true rfl)) dL_law_835 ⟨Nat.le_of_ble_eq_true rfl, Nat.le_of_ble_eq_true rfl⟩) ?_
      refine lv_iload hx hb dL_law_838 (lv_at hl 0 rfl) ?_
      refine lv_if_ge (tgt := 847) hx hb dL_law_840 (by decide) (fun c => absurd c (by decide)) (fun _ => ?_)
      refine lv_iconst (v := 0) hx hb dL_law_843 (by decide) ?_
      refine lv_goto (tgt := 856) hx hb dL_law_844 (by decide) ?_
      refine lv_icmp_eq (tgt := 861) hx hb dL_law_856 (by decide) (fun _ => ?_) (fun c => absurd ev c)
      refine lv_iinc (v := (nI (i0 + 1))) (lv' := [(5, .int (nI (i0 + 1))), (12, .int (-1)), (11, .int 1), (9, .int (nI k)), (0, .ref b), (1, .ref (ad 80)), (2, .ref (ra 0)), (3, .ref qa), (4, .int (nI ρ))]) hx hb dL_law_861 hl (k := 3) rfl (nI_1 i0) (by decide) rfl (fun ls hl => ?_)
      refine lv_goto (tgt := 52) hx hb dL_law_864 (by decide) ?_
      exact kk n mm bb cc S z w _ _ ls hmm ⟨hY, hR, hV, hS, hlt, hrl, hh, hQ⟩ (lv_sub hl [0, 4, 5, 6, 7, 8] rfl)
    · subst ey
      refine lv_aload_n hx hb dL_law_832 rfl (lv_at hl 5 rfl) ?_
      refine lv_iload hx hb dL_law_833 (lv_at hl 2 rfl) ?_
      refine kCallRi (va_runV (As := [.int (nI k)]) (rest := []) ⟨hx, hb, hml, hown, hts⟩ (c_X5_value l E ad S hs (nI k) hno _ rfl) (cwV 1 hts gL_law_X5_value rfl rfl rfl (by decide +kernel) ⟨Nat.le_of_ble_eq_true rfl, Nat.le_of_ble_eq_true rfl⟩) (kPreYV hK hY.2.1 hY (q0 := 0) rfl rfl) rfl rfl hl.1 rfl (lv_room (Nat.le_of_ble_eq_true rfl)) dL_law_835 ⟨Nat.le_of_ble_eq_true rfl, Nat.le_of_ble_eq_true rfl⟩) ?_
      refine lv_iload hx hb dL_law_838 (lv_at hl 0 rfl) ?_
      refine lv_if_ge (tgt := 847) hx hb dL_law_840 (by decide) (fun _ => ?_) (fun c => absurd (Int32.not_lt.mp (nI_pos (by omega))) c)
      refine lv_aload_n hx hb dL_law_847 rfl (lv_at hl 7 rfl) ?_
      refine lv_iconst (v := 5) hx hb dL_law_848 (by decide) ?_
      refine lv_iload hx hb dL_law_849 (lv_at hl 0 rfl) ?_
      refine lv_imul hx hb dL_law_851 ?_
      refine lv_iload hx hb dL_law_852 (lv_at hl 2 rfl) ?_
      refine lv_iadd hx hb dL_law_854 ?_
      refine W.eq (g2 := F0 m 855 ls [.int (nI (5 * j + k)), .ref qa, .int (mX5_value S (nI k))]) (by rw [show (5 : Int32) = nI 5 from rfl, kmulI, nI_add]) ?_
      refine va_iald (D := E.1) hx hb hK.1 hV 0 0 rfl rfl (vp_in_nI (by omega) (by omega)) dL_law_855 ?_
      refine W.eq (g2 := F0 m 856 ls [.int (w (5 * j + k)), .int (mX5_value S (nI k))]) (by rw [nI_clamp (show 5 * j + k < 2 ^ 31 by omega)]) ?_
      refine lv_icmp_eq (tgt := 861) hx hb dL_law_856 (by decide) (fun _ => ?_) (fun c => absurd (ev.trans (hW7 j k hj hk hjw).symm) c)
      refine lv_iinc (v := (nI (i0 + 1))) (lv' := [(5, .int (nI (i0 + 1))), (12, .int (nI j)), (11, .int 1), (9, .int (nI k)), (0, .ref b), (1, .ref (ad 80)), (2, .ref (ra 0)), (3, .ref qa), (4, .int (nI ρ))]) hx hb dL_law_861 hl (k := 3) rfl (nI_1 i0) (by decide) rfl (fun ls hl => ?_)
      refine lv_goto (tgt := 52) hx hb dL_law_864 (by decide) ?_
      exact kk n mm bb cc S z w _ _ ls hmm ⟨hY, hR, hV, hS, hlt, hrl, hh, hQ⟩ (lv_sub hl [0, 4, 5, 6, 7, 8] rfl)
  · refine lv_aload_n hx hb dL_law_808 rfl (lv_at hl 4 rfl) ?_
    refine lv_aload_n hx hb dL_law_809 rfl (lv_at hl 5 rfl) ?_
    refine kCallYi (va_runS (As := [.ref (ad 80), .ref (ra 0)]) (rest := []) ⟨hx, hb, hml, hown, hts⟩ (c_L_tells l E ad S hs ra (fun _ => z) hap hno hnr _ rfl) (va_cwS 2 hts gL_law_L_tells rfl rfl rfl (by decide +kernel) ⟨Nat.le_of_ble_eq_true rfl, Nat.le_of_ble_eq_true rfl⟩) (kPreTS hK hY hR) rfl rfl hl.1 rfl (lv_room (Nat.le_of_ble_eq_true rfl)) dL_law_810 ⟨Nat.le_of_ble_eq_true rfl, Nat.le_of_ble_eq_true rfl⟩) hS (fun q h => hA q h) (fun H1 locs1 hY hsz hkp hS => ?_)
    have hR := kP_kept hR (dR (fun i j h1 h2 _ => by omega) _) (fun q z y => hap q y z) hkp
    have hV := kP_kept (A := fun q => q = qa) hV (kD1 rfl) (fun q (h : q = qa) y => hapq q y h) hkp
    have hlt : ∀ x, kA ad 90 x → x < H1.size := fun x hx => Nat.lt_of_lt_of_le (hlt x hx) hsz
    have hrl : ra 0 < H1.size := Nat.lt_of_lt_of_le hrl hsz
    have htl : (mL_tells S (fun _ => z)) = (1, S) := tells_1 (r := (fun _ => z)) hQ.1 h2 hI h48 hB hZ
    rw [htl] at hY ⊢
    dsimp only at hY ⊢
    refine lv_if_ne (tgt := 818) hx hb dL_law_813 (by decide) (fun _ => ?_) (fun c => absurd c (by decide))
    refine lv_aload_n hx hb dL_law_818 rfl (lv_at hl 5 rfl) ?_
    refine lv_iload hx hb dL_law_819 (lv_at hl 1 rfl) ?_
    refine lv_aload_n hx hb dL_law_821 rfl (lv_at hl 5 rfl) ?_
    refine lv_bipush (v := 48) hx hb dL_law_822 (by decide) ?_
    refine va_iald (D := E.1) hx hb hK.1 hR 0 0 rfl rfl (vp_in_nI (n := 48) (by decide) (by decide)) dL_law_824 ?_
    refine W.eq (g2 := F0 m 825 ls [.int (z 48), .int (nI k), .ref (ra 0)]) rfl ?_
    refine W.eq (g2 := F0 m 825 ls [.int (nI mm), .int (nI k), .ref (ra 0)]) (by rw [show z 48 = nI mm from h48]) ?_
    refine lv_iconst (v := 1) hx hb dL_law_825 (by decide) ?_
    refine lv_iadd hx hb dL_law_826 ?_
    refine W.eq (g2 := F0 m 827 ls [.int (nI (mm + 1)), .int (nI k), .ref (ra 0)]) (by rw [nI_1]) ?_
    refine kCallRi (va_runS (As := [.ref (ra 0), .int (nI k), .int (nI (mm + 1))]) (rest := []) ⟨hx, hb, hml, hown, hts⟩ (c_L_writer l E ra (fun _ => z) (nI k) (nI (mm + 1)) hnr _ rfl) (va_cwS 3 hts gL_law_L_writer rfl rfl rfl (by decide +kernel) ⟨Nat.le_of_ble_eq_true rfl, Nat.le_of_ble_eq_true rfl⟩) (kPreS hK hR) rfl rfl hl.1 rfl (lv_room (Nat.le_of_ble_eq_true rfl)) dL_law_827 ⟨Nat.le_of_ble_eq_true rfl, Nat.le_of_ble_eq_true rfl⟩) ?_
    have hW : WL (S 0) n cc k (mm + 1) (mL_writer (fun _ => z) (nI k) (nI (mm + 1))) := writer_W (r := (fun _ => z)) hQ.1 hI (Nat.le_refl _)
    refine kGen (mL_writer (fun _ => z) (nI k) (nI (mm + 1))) (fun y hy => ?_)
    rw [hy] at hW ⊢
    refine lv_istore (lv' := [(12, .int y), (11, .int 1), (9, .int (nI k)), (5, .int (nI i0)), (0, .ref b), (1, .ref (ad 80)), (2, .ref (ra 0)), (3, .ref qa), (4, .int (nI ρ))]) hx hb dL_law_830 hl (by decide) rfl (fun ls hl => ?_)
    rcases value_A (S := S) hn12 h2 hI (show k < 16 by omega) hW with ⟨ey, ev⟩ | ⟨j, hj, ey, hjw, ev⟩
    · subst ey
      refine lv_aload_n hx hb dL_law_832 rfl (lv_at hl 5 rfl) ?_
      refine lv_iload hx hb dL_law_833 (lv_at hl 2 rfl) ?_
      refine kCallRi (va_runV (As := [.int (nI k)]) (rest := []) ⟨hx, hb, hml, hown, hts⟩ (c_X5_value l E ad S hs (nI k) hno _ rfl) (cwV 1 hts gL_law_X5_value rfl rfl rfl (by decide +kernel) ⟨Nat.le_of_ble_eq_true rfl, Nat.le_of_ble_eq_true rfl⟩) (kPreYV hK hY.2.1 hY (q0 := 0) rfl rfl) rfl rfl hl.1 rfl (lv_room (Nat.le_of_ble_eq_true rfl)) dL_law_835 ⟨Nat.le_of_ble_eq_true rfl, Nat.le_of_ble_eq_true rfl⟩) ?_
      refine lv_iload hx hb dL_law_838 (lv_at hl 0 rfl) ?_
      refine lv_if_ge (tgt := 847) hx hb dL_law_840 (by decide) (fun c => absurd c (by decide)) (fun _ => ?_)
      refine lv_iconst (v := 0) hx hb dL_law_843 (by decide) ?_
      refine lv_goto (tgt := 856) hx hb dL_law_844 (by decide) ?_
      refine lv_icmp_eq (tgt := 861) hx hb dL_law_856 (by decide) (fun _ => ?_) (fun c => absurd ev c)
      refine lv_iinc (v := (nI (i0 + 1))) (lv' := [(5, .int (nI (i0 + 1))), (12, .int (-1)), (11, .int 1), (9, .int (nI k)), (0, .ref b), (1, .ref (ad 80)), (2, .ref (ra 0)), (3, .ref qa), (4, .int (nI ρ))]) hx hb dL_law_861 hl (k := 3) rfl (nI_1 i0) (by decide) rfl (fun ls hl => ?_)
      refine lv_goto (tgt := 52) hx hb dL_law_864 (by decide) ?_
      exact kk n mm bb cc S z w _ _ ls hmm ⟨hY, hR, hV, hS, hlt, hrl, hh, hQ⟩ (lv_sub hl [0, 4, 5, 6, 7, 8] rfl)
    · subst ey
      refine lv_aload_n hx hb dL_law_832 rfl (lv_at hl 5 rfl) ?_
      refine lv_iload hx hb dL_law_833 (lv_at hl 2 rfl) ?_
      refine kCallRi (va_runV (As := [.int (nI k)]) (rest := []) ⟨hx, hb, hml, hown, hts⟩ (c_X5_value l E ad S hs (nI k) hno _ rfl) (cwV 1 hts gL_law_X5_value rfl rfl rfl (by decide +kernel) ⟨Nat.le_of_ble_eq_true rfl, Nat.le_of_ble_eq_true rfl⟩) (kPreYV hK hY.2.1 hY (q0 := 0) rfl rfl) rfl rfl hl.1 rfl (lv_room (Nat.le_of_ble_eq_true rfl)) dL_law_835 ⟨Nat.le_of_ble_eq_true rfl, Nat.le_of_ble_eq_true rfl⟩) ?_
      refine lv_iload hx hb dL_law_838 (lv_at hl 0 rfl) ?_
      refine lv_if_ge (tgt := 847) hx hb dL_law_840 (by decide) (fun _ => ?_) (fun c => absurd (Int32.not_lt.mp (nI_pos (by omega))) c)
      refine lv_aload_n hx hb dL_law_847 rfl (lv_at hl 7 rfl) ?_
      refine lv_iconst (v := 5) hx hb dL_law_848 (by decide) ?_
      refine lv_iload hx hb dL_law_849 (lv_at hl 0 rfl) ?_
      refine lv_imul hx hb dL_law_851 ?_
      refine lv_iload hx hb dL_law_852 (lv_at hl 2 rfl) ?_
      refine lv_iadd hx hb dL_law_854 ?_
      refine W.eq (g2 := F0 m 855 ls [.int (nI (5 * j + k)), .ref qa, .int (mX5_value S (nI k))]) (by rw [show (5 : Int32) = nI 5 from rfl, kmulI, nI_add]) ?_
      refine va_iald (D := E.1) hx hb hK.1 hV 0 0 rfl rfl (vp_in_nI (by omega) (by omega)) dL_law_855 ?_
      refine W.eq (g2 := F0 m 856 ls [.int (w (5 * j + k)), .int (mX5_value S (nI k))]) (by rw [nI_clamp (show 5 * j + k < 2 ^ 31 by omega)]) ?_
      refine lv_icmp_eq (tgt := 861) hx hb dL_law_856 (by decide) (fun _ => ?_) (fun c => absurd (ev.trans (hW7 j k hj hk hjw).symm) c)
      refine lv_iinc (v := (nI (i0 + 1))) (lv' := [(5, .int (nI (i0 + 1))), (12, .int (nI j)), (11, .int 1), (9, .int (nI k)), (0, .ref b), (1, .ref (ad 80)), (2, .ref (ra 0)), (3, .ref qa), (4, .int (nI ρ))]) hx hb dL_law_861 hl (k := 3) rfl (nI_1 i0) (by decide) rfl (fun ls hl => ?_)
      refine lv_goto (tgt := 52) hx hb dL_law_864 (by decide) ?_
      exact kk n mm bb cc S z w _ _ ls hmm ⟨hY, hR, hV, hS, hlt, hrl, hh, hQ⟩ (lv_sub hl [0, 4, 5, 6, 7, 8] rfl)
