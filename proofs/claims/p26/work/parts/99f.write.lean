set_option maxHeartbeats 4000000 in
set_option maxRecDepth 100000 in
theorem law_D {p : Program} {l : Launch} {e : Env} {s : State} {m : MethodId} {below : List Frame} {meth : Method} {c : Code} {b L : Nat} {xs : Nat → Int32} {E : kE} {ad ra : Nat → Nat} {qa : Nat} {Q : State → Prop} {n mm ρ i0 : Nat} {bb cc : Nat → Nat} {S : kS} {z w : Nat → Int32} {H : Heap} {locs : List Loc} {ls : Array Slot} {k t : Nat} {G : Int32} (C : LC p s m meth c b L xs E ad ra qa) (hI : LI s E ad ra qa n mm bb cc ρ S z w H locs) (hmm : mm ≤ i0) (hi0 : i0 < 52) (hk : k < 5) (ht : t < n) (ht0 : S 0 1 t = 0) (hl : lv_has ls 15 [(9, .int (nI k)), (8, .int (nI t)), (6, .int G), (5, .int (nI i0)), (0, .ref b), (1, .ref (ad 80)), (2, .ref (ra 0)), (3, .ref qa), (4, .int (nI ρ))]) (kk : ∀ (n mm : Nat) (bb cc : Nat → Nat) (S : kS) (z w : Nat → Int32) (H : Heap) (locs : List Loc) (ls : Array Slot), mm ≤ i0 + 1 → LI s E ad ra qa n mm bb cc ρ S z w H locs → lv_has ls 15 [(5, .int (nI (i0 + 1))), (0, .ref b), (1, .ref (ad 80)), (2, .ref (ra 0)), (3, .ref qa), (4, .int (nI ρ))] → W p l e room_1 s m #[Value.ref b] below meth c H locs 92 2996 Q (F0 m 52 ls [])) : W p l e room_1 s m #[Value.ref b] below meth c H locs 92 2996 Q (F0 m 448 ls []) := by
  have C0 := C
  have hI0 := hI
  obtain ⟨hx, hb, hml, hown, hts, hX, hL, hbl, hK, hs, hA, hra, hqa, hap, hapq, hrq⟩ := C
  obtain ⟨hY, hR, hV, hS, hlt, hrl, hh, hQ⟩ := hI
  have hn12 := hQ.1.1
  have h2 := hQ.2.1
  have hI := hQ.2.2.1
  have hm30 := hI.2.1
  have hno : nOK (S 0 0 2) := ⟨n, hn12, h2⟩
  have hnr : nOK ((fun _ => z : kG) 0 49) := ⟨n, hn12, hQ.1.2.1⟩
  obtain ⟨_, _, _, h48, hB, hZ, hρ, hρ4, hW7, hF, hN, h0⟩ := id hQ
  refine lv_aload_n hx hb dL_law_448 rfl (lv_at hl 7 rfl) ?_
  refine lv_iconst (v := 5) hx hb dL_law_449 (by decide) ?_
  refine lv_iload hx hb dL_law_450 (lv_at hl 1 rfl) ?_
  refine lv_imul hx hb dL_law_452 ?_
  refine lv_iload hx hb dL_law_453 (lv_at hl 0 rfl) ?_
  refine lv_iadd hx hb dL_law_455 ?_
  refine W.eq (g2 := F0 m 456 ls [.int (nI (5 * t + k)), .ref qa]) (by rw [show (5 : Int32) = nI 5 from rfl, kmulI, nI_add]) ?_
  refine lv_iload hx hb dL_law_456 (lv_at hl 2 rfl) ?_
  refine lv_bipush (v := 12) hx hb dL_law_458 (by decide) ?_
  refine lv_ishr hx hb dL_law_460 ?_
  refine lv_sipush (v := 1000) hx hb dL_law_461 (by decide) ?_
  refine kCallRi (va_runS (As := [.int (G >>> (12 &&& 31)), .int 1000]) (rest := [.int (nI (5 * t + k)), .ref qa]) ⟨hx, hb, hml, hown, hts⟩ (c_L_low l E (G >>> (12 &&& 31)) 1000 (by decide) _ rfl) (va_cwS 2 hts gL_law_L_low rfl rfl rfl (by decide +kernel) ⟨Nat.le_of_ble_eq_true rfl, Nat.le_of_ble_eq_true rfl⟩) (kPreS hK kP0) rfl rfl hl.1 rfl (lv_room (Nat.le_of_ble_eq_true rfl)) dL_law_464 ⟨Nat.le_of_ble_eq_true rfl, Nat.le_of_ble_eq_true rfl⟩) ?_
  obtain ⟨x, hx_, ex⟩ := low_lt (G >>> (12 &&& 31)) (a := 1000) (by decide) (by decide)
  refine W.eq (g2 := F0 m 467 ls [.int (nI x), .int (nI (5 * t + k)), .ref qa]) (by rw [show mL_low (G >>> (12 &&& 31)) 1000 = nI x from ex]) ?_
  refine kSto hx hb hK hV hqa hS (vp_in_nI (by omega) (by omega)) dL_law_467 (fun H1 locs1 hN1 ho hS1 hz1 => ?_)
  have hY := hY.keptA (A := fun q => q = qa) hs (fun q _ h2 => ho q h2) (fun q hq (h : q = qa) => hapq q hq h)
  have hR := kP1 hR (ho _ (show ra 0 ≠ qa from hrq))
  rw [nI_clamp (show 5 * t + k < 2 ^ 31 by omega)] at hN1
  have hV : va_P E.1 vwCl (wVx E qa (upd w (5 * t + k) (nI x))) H1 := hN1
  have hS := hS1
  have hlt : ∀ x, kA ad 90 x → x < H1.size := fun x hx => by rw [hz1]; exact hlt x hx
  have hrl : ra 0 < H1.size := by rw [hz1]; exact hrl
  refine lv_aload_n hx hb dL_law_468 rfl (lv_at hl 6 rfl) ?_
  refine lv_bipush (v := 36) hx hb dL_law_469 (by decide) ?_
  refine lv_iload hx hb dL_law_471 (lv_at hl 1 rfl) ?_
  refine lv_iadd hx hb dL_law_473 ?_
  refine lv_dup2_11 hx hb dL_law_474 rfl rfl ?_
  refine va_iald (D := E.1) hx hb hK.1 hR 0 0 rfl rfl (rIn 36 (by decide) (by first | assumption | exact tOK.nI (by omega))) dL_law_475 ?_
  refine W.eq (g2 := F0 m 476 ls [.int (z (36 + t)), .int (36 + (nI t)), .ref (ra 0)]) (by rw [rA36 (t := t) (by omega)]) ?_
  refine lv_iconst (v := 1) hx hb dL_law_476 (by decide) ?_
  refine lv_iload hx hb dL_law_477 (lv_at hl 0 rfl) ?_
  refine lv_ishl hx hb dL_law_479 ?_
  refine lv_ior hx hb dL_law_480 ?_
  refine kSto hx hb hK hR hra hS (rIn 36 (by decide) (by first | assumption | exact tOK.nI (by omega))) dL_law_481 (fun H1 locs1 hN1 ho hS1 hz1 => ?_)
  have hY := hY.keptA (A := fun q => q = ra 0) hs (fun q _ h2 => ho q h2) (fun q hq (h : q = ra 0) => hap q hq ⟨0, by omega, h⟩)
  have hV := kP1 hV (ho _ (show qa ≠ ra 0 from Ne.symm hrq))
  rw [rA36 (t := t) (by omega)] at hN1
  have hR : va_P E.1 vwCl (wRx E ra (upd z (36 + t) ((z (36 + t)) ||| (1 <<< ((nI k) &&& 31))))) H1 := hN1
  have hS := hS1
  have hlt : ∀ x, kA ad 90 x → x < H1.size := fun x hx => by rw [hz1]; exact hlt x hx
  have hrl : ra 0 < H1.size := by rw [hz1]; exact hrl
  refine lv_aload_n hx hb dL_law_482 rfl (lv_at hl 5 rfl) ?_
  refine lv_iload hx hb dL_law_483 (lv_at hl 1 rfl) ?_
  refine lv_iload hx hb dL_law_485 (lv_at hl 0 rfl) ?_
  refine lv_aload_n hx hb dL_law_487 rfl (lv_at hl 7 rfl) ?_
  refine lv_iconst (v := 5) hx hb dL_law_488 (by decide) ?_
  refine lv_iload hx hb dL_law_489 (lv_at hl 1 rfl) ?_
  refine lv_imul hx hb dL_law_491 ?_
  refine lv_iload hx hb dL_law_492 (lv_at hl 0 rfl) ?_
  refine lv_iadd hx hb dL_law_494 ?_
  refine W.eq (g2 := F0 m 495 ls [.int (nI (5 * t + k)), .ref qa, .int (nI k), .int (nI t), .ref (ad 80)]) (by rw [show (5 : Int32) = nI 5 from rfl, kmulI, nI_add]) ?_
  refine va_iald (D := E.1) hx hb hK.1 hV 0 0 rfl rfl (vp_in_nI (by omega) (by omega)) dL_law_495 ?_
  refine W.eq (g2 := F0 m 496 ls [.int (nI x), .int (nI k), .int (nI t), .ref (ad 80)]) (by rw [nI_clamp (show 5 * t + k < 2 ^ 31 by omega), pk_us]) ?_
  refine kCallYi (va_runV (As := [.int (nI t), .int (nI k), .int (nI x)]) (rest := []) ⟨hx, hb, hml, hown, hts⟩ (c_X5_write l E ad S hs (nI t) (nI k) (nI x) hh hno _ rfl) (cwV 3 hts gL_law_X5_write rfl rfl rfl (by decide +kernel) ⟨Nat.le_of_ble_eq_true rfl, Nat.le_of_ble_eq_true rfl⟩) (kPreYV hK hY.2.1 hY (q0 := 0) rfl rfl) rfl rfl hl.1 rfl (lv_room (Nat.le_of_ble_eq_true rfl)) dL_law_496 ⟨Nat.le_of_ble_eq_true rfl, Nat.le_of_ble_eq_true rfl⟩) hS (fun q h => hA q h) (fun H1 locs1 hY hsz hkp hS => ?_)
  have hR := kP_kept hR (dR (fun i j h1 h2 _ => by omega) _) (fun q z y => hap q y z) hkp
  have hV := kP_kept (A := fun q => q = qa) hV (kD1 rfl) (fun q (h : q = qa) y => hapq q y h) hkp
  have hlt : ∀ x, kA ad 90 x → x < H1.size := fun x hx => Nat.lt_of_lt_of_le (hlt x hx) hsz
  have hrl : ra 0 < H1.size := Nat.lt_of_lt_of_le hrl hsz
  have hAn := write_A (S := S) hn12 h2 hh ht ht0 (show k < 16 by omega) hx_
  refine kGen (mX5_write S (nI t) (nI k) (nI x)) (fun g1 hg1 => ?_)
  rw [hg1] at hY hAn ⊢
  refine lv_aload_n hx hb dL_law_499 rfl (lv_at hl 6 rfl) ?_
  refine lv_bipush (v := 36) hx hb dL_law_500 (by decide) ?_
  refine lv_iload hx hb dL_law_502 (lv_at hl 1 rfl) ?_
  refine lv_iadd hx hb dL_law_504 ?_
  refine va_iald (D := E.1) hx hb hK.1 hR 0 0 rfl rfl (rIn 36 (by decide) (by first | assumption | exact tOK.nI (by omega))) dL_law_505 ?_
  refine W.eq (g2 := F0 m 506 ls [.int ((S 0 5 t) ||| (1 <<< ((nI k) &&& 31))), .int (g1.1)]) (by rw [rA36 (t := t) (by omega), pk_us, (hQ.1.2.2 t ht).2.2.1]) ?_
  refine lv_icmp_ne (tgt := 513) hx hb dL_law_506 (by decide) (fun c => absurd hAn.1 c) (fun _ => ?_)
  refine lv_iconst (v := 1) hx hb dL_law_509 (by decide) ?_
  refine lv_goto (tgt := 514) hx hb dL_law_510 (by decide) ?_
  refine lv_istore (lv' := [(11, .int 1), (9, .int (nI k)), (8, .int (nI t)), (6, .int G), (5, .int (nI i0)), (0, .ref b), (1, .ref (ad 80)), (2, .ref (ra 0)), (3, .ref qa), (4, .int (nI ρ))]) hx hb dL_law_514 hl (by decide) rfl (fun ls hl => ?_)
  refine lv_goto (tgt := 795) hx hb dL_law_516 (by decide) ?_
  exact law_tail C0 (n := n) (mm := mm) (bb := bb) (cc := cc) (S := (g1.2)) (z := (upd z (36 + t) ((z (36 + t)) ||| (1 <<< ((nI k) &&& 31))))) (w := (upd w (5 * t + k) (nI x))) ⟨hY, hR, hV, hS, hlt, hrl, hAn.2.2.2.2, (hQ.write ht ht0 hk hAn.2.1 hAn.2.2.1 hAn.2.2.2.1 rfl rfl)⟩ (by omega) hi0 hk (lv_sub hl [0, 1, 4, 5, 6, 7, 8, 9] rfl) kk
