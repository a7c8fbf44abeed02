set_option maxHeartbeats 4000000 in
set_option maxRecDepth 100000 in
theorem law_C {p : Program} {l : Launch} {e : Env} {s : State} {m : MethodId} {below : List Frame} {meth : Method} {c : Code} {b L : Nat} {xs : Nat → Int32} {E : kE} {ad ra : Nat → Nat} {qa : Nat} {Q : State → Prop} {n mm ρ i0 : Nat} {bb cc : Nat → Nat} {S : kS} {z w : Nat → Int32} {H : Heap} {locs : List Loc} {ls : Array Slot} {k t : Nat} {G : Int32} (C : LC p s m meth c b L xs E ad ra qa) (hI : LI s E ad ra qa n mm bb cc ρ S z w H locs) (hmm : mm ≤ i0) (hi0 : i0 < 52) (hk : k < 5) (ht : t < n) (ht0 : S 0 1 t = 0) (hl : lv_has ls 15 [(9, .int (nI k)), (8, .int (nI t)), (6, .int G), (5, .int (nI i0)), (0, .ref b), (1, .ref (ad 80)), (2, .ref (ra 0)), (3, .ref qa), (4, .int (nI ρ))]) (kk : ∀ (n mm : Nat) (bb cc : Nat → Nat) (S : kS) (z w : Nat → Int32) (H : Heap) (locs : List Loc) (ls : Array Slot), mm ≤ i0 + 1 → LI s E ad ra qa n mm bb cc ρ S z w H locs → lv_has ls 15 [(5, .int (nI (i0 + 1))), (0, .ref b), (1, .ref (ad 80)), (2, .ref (ra 0)), (3, .ref qa), (4, .int (nI ρ))] → W p l e room_1 s m #[Value.ref b] below meth c H locs 92 2996 Q (F0 m 52 ls [])) : W p l e room_1 s m #[Value.ref b] below meth c H locs 92 2996 Q (F0 m 311 ls []) := by
  have C0 := C
  have hI0 := hI
  obtain ⟨hx, hb, hml, hown, hts, hX, hL, hbl, hK, hs, hA, hra, hqa, hap, hapq, hrq⟩ := C
  obtain ⟨hY, hR, hV, hS, hlt, hrl, hh, hQ⟩ := hI
  have hn12 := hQ.1.1
  have h2 := hQ.2.1
  have hI := hQ.2.2.1
  have hm30 := hI.2.1
  have hno : nOK (S 0 0 2) := ⟨n, hn12, h2⟩
  have hnr : nOK ((fun _ => z : kG) 0 49) := ⟨n, hn12, hQ.1.2.1⟩
  obtain ⟨_, _, _, h48, hB, hZ, hρ, hρ4, hW7, hF, hN, h0⟩ := id hQ
  refine lv_aload_n hx hb dL_law_311 rfl (lv_at hl 6 rfl) ?_
  refine lv_bipush (v := 36) hx hb dL_law_312 (by decide) ?_
  refine lv_iload hx hb dL_law_314 (lv_at hl 1 rfl) ?_
  refine lv_iadd hx hb dL_law_316 ?_
  refine va_iald (D := E.1) hx hb hK.1 hR 0 0 rfl rfl (rIn 36 (by decide) (by first | assumption | exact tOK.nI (by omega))) dL_law_317 ?_
  refine W.eq (g2 := F0 m 318 ls [.int (S 0 5 t)]) (by rw [rA36 (t := t) (by omega), (hQ.1.2.2 t ht).2.2.1]) ?_
  refine lv_iload hx hb dL_law_318 (lv_at hl 0 rfl) ?_
  refine lv_ishr hx hb dL_law_320 ?_
  refine lv_iconst (v := 1) hx hb dL_law_321 (by decide) ?_
  refine lv_iand hx hb dL_law_322 ?_
  refine lv_iconst (v := 1) hx hb dL_law_323 (by decide) ?_
  refine lv_icmp_ne (tgt := 331) hx hb dL_law_324 (by decide) (fun c_1 => ?_) (fun c_1 => ?_)
  · have hw : ¬ WRk (S 0) t k := fun y => c_1 (by rw [bitC]; exact y)
    have hbm : bb t ≤ mm + 1 := by have := (hI.bg ht).2.2; omega
    refine lv_iconst (v := 0) hx hb dL_law_331 (by decide) ?_
    refine lv_istore (lv' := [(12, .int 0), (9, .int (nI k)), (8, .int (nI t)), (6, .int G), (5, .int (nI i0)), (0, .ref b), (1, .ref (ad 80)), (2, .ref (ra 0)), (3, .ref qa), (4, .int (nI ρ))]) hx hb dL_law_332 hl (by decide) rfl (fun ls hl => ?_)
    refine lv_iload hx hb dL_law_334 (lv_at hl 0 rfl) ?_
    refine lv_if_eq (tgt := 344) hx hb dL_law_336 (by decide) (fun _ => ?_) (fun c => absurd (by decide) c)
    refine lv_aload_n hx hb dL_law_344 rfl (lv_at hl 7 rfl) ?_
    refine lv_iload hx hb dL_law_345 (lv_at hl 1 rfl) ?_
    refine lv_aload_n hx hb dL_law_347 rfl (lv_at hl 7 rfl) ?_
    refine lv_iload hx hb dL_law_348 (lv_at hl 2 rfl) ?_
    refine va_iald (D := E.1) hx hb hK.1 hR 0 0 rfl rfl (rIn0 (by first | assumption | exact tOK.nI (by omega))) dL_law_350 ?_
    refine W.eq (g2 := F0 m 351 ls [.int (nI (bb t)), .int (nI k), .ref (ra 0)]) (by rw [rA0 (t := t) (by omega), (hQ.1.2.2 t ht).1, (hI.bg ht).1]) ?_
    refine kCallRi (va_runS (As := [.ref (ra 0), .int (nI k), .int (nI (bb t))]) (rest := []) ⟨hx, hb, hml, hown, hts⟩ (c_L_writer l E ra (fun _ => z) (nI k) (nI (bb t)) hnr _ rfl) (va_cwS 3 hts gL_law_L_writer rfl rfl rfl (by decide +kernel) ⟨Nat.le_of_ble_eq_true rfl, Nat.le_of_ble_eq_true rfl⟩) (kPreS hK hR) rfl rfl hl.1 rfl (lv_room (Nat.le_of_ble_eq_true rfl)) dL_law_351 ⟨Nat.le_of_ble_eq_true rfl, Nat.le_of_ble_eq_true rfl⟩) ?_
    have hWl : WL (S 0) n cc k (bb t) (mL_writer (fun _ => z) (nI k) (nI (bb t))) := writer_W (r := (fun _ => z)) hQ.1 hI hbm
    refine kGen (mL_writer (fun _ => z) (nI k) (nI (bb t))) (fun y hy => ?_)
    rw [hy] at hWl ⊢
    refine lv_istore (lv' := [(13, .int y), (12, .int 0), (9, .int (nI k)), (8, .int (nI t)), (6, .int G), (5, .int (nI i0)), (0, .ref b), (1, .ref (ad 80)), (2, .ref (ra 0)), (3, .ref qa), (4, .int (nI ρ))]) hx hb dL_law_354 hl (by decide) rfl (fun ls hl => ?_)
    rcases WL_WA hn12 h2 hI hbm hWl with ⟨ey, ev⟩ | ⟨j, hj, ey, ev, hjw⟩
    · subst ey
      refine lv_aload_n hx hb dL_law_356 rfl (lv_at hl 7 rfl) ?_
      refine lv_iload hx hb dL_law_357 (lv_at hl 3 rfl) ?_
      refine lv_iload hx hb dL_law_359 (lv_at hl 2 rfl) ?_
      refine kCallRi (va_runV (As := [.int (nI t), .int (nI k)]) (rest := []) ⟨hx, hb, hml, hown, hts⟩ (c_X5_sees l E ad S hs (nI t) (nI k) hno _ rfl) (cwV 2 hts gL_law_X5_sees rfl rfl rfl (by decide +kernel) ⟨Nat.le_of_ble_eq_true rfl, Nat.le_of_ble_eq_true rfl⟩) (kPreYV hK hY.2.1 hY (q0 := 0) rfl rfl) rfl rfl hl.1 rfl (lv_room (Nat.le_of_ble_eq_true rfl)) dL_law_361 ⟨Nat.le_of_ble_eq_true rfl, Nat.le_of_ble_eq_true rfl⟩) ?_
      refine lv_iload hx hb dL_law_364 (lv_at hl 0 rfl) ?_
      refine lv_if_ge (tgt := 374) hx hb dL_law_366 (by decide) (fun c => absurd c (by decide)) (fun _ => ?_)
      refine lv_bipush (v := (-6)) hx hb dL_law_369 (by decide) ?_
      refine lv_goto (tgt := 376) hx hb dL_law_371 (by decide) ?_
      refine lv_icmp_ne (tgt := 412) hx hb dL_law_376 (by decide) (fun c => absurd ((sees_A (S := S) hn12 h2 hI ht (show k < 16 by omega) hw).trans ev) c) (fun _ => ?_)
      refine lv_aload_n hx hb dL_law_379 rfl (lv_at hl 7 rfl) ?_
      refine lv_iload hx hb dL_law_380 (lv_at hl 3 rfl) ?_
      refine lv_iload hx hb dL_law_382 (lv_at hl 2 rfl) ?_
      refine kCallYi (va_runV (As := [.int (nI t), .int (nI k)]) (rest := []) ⟨hx, hb, hml, hown, hts⟩ (c_X5_read l E ad S hs (nI t) (nI k) hh hno _ rfl) (cwV 2 hts gL_law_X5_read rfl rfl rfl (by decide +kernel) ⟨Nat.le_of_ble_eq_true rfl, Nat.le_of_ble_eq_true rfl⟩) (kPreYV hK hY.2.1 hY (q0 := 0) rfl rfl) rfl rfl hl.1 rfl (lv_room (Nat.le_of_ble_eq_true rfl)) dL_law_384 ⟨Nat.le_of_ble_eq_true rfl, Nat.le_of_ble_eq_true rfl⟩) hS (fun q h => hA q h) (fun H1 locs1 hY hsz hkp hS => ?_)
      have hR := kP_kept hR (dR (fun i j h1 h2 _ => by omega) _) (fun q z y => hap q y z) hkp
      have hV := kP_kept (A := fun q => q = qa) hV (kD1 rfl) (fun q (h : q = qa) y => hapq q y h) hkp
      have hlt : ∀ x, kA ad 90 x → x < H1.size := fun x hx => Nat.lt_of_lt_of_le (hlt x hx) hsz
      have hrl : ra 0 < H1.size := Nat.lt_of_lt_of_le hrl hsz
      have hAn := read_A (S := S) hn12 h2 hI hh ht ht0 (show k < 16 by omega) hw
      refine kGen (mX5_read S (nI t) (nI k)) (fun g1 hg1 => ?_)
      rw [hg1] at hY hAn ⊢
      refine lv_iload hx hb dL_law_387 (lv_at hl 0 rfl) ?_
      refine lv_if_ge (tgt := 396) hx hb dL_law_389 (by decide) (fun c => absurd c (by decide)) (fun _ => ?_)
      refine lv_iconst (v := 0) hx hb dL_law_392 (by decide) ?_
      refine lv_goto (tgt := 405) hx hb dL_law_393 (by decide) ?_
      refine lv_icmp_ne (tgt := 412) hx hb dL_law_405 (by decide) (fun c => absurd (hAn.1.trans (by rw [ev]; exact val_n _ _)) c) (fun _ => ?_)
      refine lv_iconst (v := 1) hx hb dL_law_408 (by decide) ?_
      refine lv_goto (tgt := 413) hx hb dL_law_409 (by decide) ?_
      refine lv_istore (lv' := [(11, .int 1), (13, .int (-1)), (12, .int 0), (9, .int (nI k)), (8, .int (nI t)), (6, .int G), (5, .int (nI i0)), (0, .ref b), (1, .ref (ad 80)), (2, .ref (ra 0)), (3, .ref qa), (4, .int (nI ρ))]) hx hb dL_law_413 hl (by decide) rfl (fun ls hl => ?_)
      refine lv_aload_n hx hb dL_law_415 rfl (lv_at hl 9 rfl) ?_
      refine lv_bipush (v := 24) hx hb dL_law_416 (by decide) ?_
      refine lv_iload hx hb dL_law_418 (lv_at hl 4 rfl) ?_
      refine lv_iadd hx hb dL_law_420 ?_
      refine lv_dup2_11 hx hb dL_law_421 rfl rfl ?_
      refine va_iald (D := E.1) hx hb hK.1 hR 0 0 rfl rfl (rIn 24 (by decide) (by first | assumption | exact tOK.nI (by omega))) dL_law_422 ?_
      refine W.eq (g2 := F0 m 423 ls [.int (z (24 + t)), .int (24 + (nI t)), .ref (ra 0)]) (by rw [rA24 (t := t) (by omega)]) ?_
      refine lv_iload hx hb dL_law_423 (lv_at hl 2 rfl) ?_
      refine lv_if_eq (tgt := 432) hx hb dL_law_425 (by decide) (fun _ => ?_) (fun c => absurd (by decide) c)
      refine lv_iconst (v := 1) hx hb dL_law_432 (by decide) ?_
      refine lv_iload hx hb dL_law_433 (lv_at hl 3 rfl) ?_
      refine lv_ishl hx hb dL_law_435 ?_
      refine lv_ior hx hb dL_law_436 ?_
      refine kSto hx hb hK hR hra hS (rIn 24 (by decide) (by first | assumption | exact tOK.nI (by omega))) dL_law_437 (fun H1 locs1 hN1 ho hS1 hz1 => ?_)
      have hY := hY.keptA (A := fun q => q = ra 0) hs (fun q _ h2 => ho q h2) (fun q hq (h : q = ra 0) => hap q hq ⟨0, by omega, h⟩)
      have hV := kP1 hV (ho _ (show qa ≠ ra 0 from Ne.symm hrq))
      rw [rA24 (t := t) (by omega)] at hN1
      have hR : va_P E.1 vwCl (wRx E ra (upd z (24 + t) ((z (24 + t)) ||| (1 <<< ((nI k) &&& 31))))) H1 := hN1
      have hS := hS1
      have hlt : ∀ x, kA ad 90 x → x < H1.size := fun x hx => by rw [hz1]; exact hlt x hx
      have hrl : ra 0 < H1.size := by rw [hz1]; exact hrl
      refine lv_goto (tgt := 795) hx hb dL_law_438 (by decide) ?_
      exact law_tail C0 (n := n) (mm := mm) (bb := bb) (cc := cc) (S := (g1.2)) (z := (upd z (24 + t) ((z (24 + t)) ||| (1 <<< ((nI k) &&& 31))))) (w := w) ⟨hY, hR, hV, hS, hlt, hrl, hAn.2.2.2, (hQ.read ht ht0 hk hAn.2.1 hAn.2.2.1 rfl)⟩ (by omega) hi0 hk (lv_sub hl [0, 3, 6, 7, 8, 9, 10, 11] rfl) kk
    · subst ey
      refine lv_aload_n hx hb dL_law_356 rfl (lv_at hl 7 rfl) ?_
      refine lv_iload hx hb dL_law_357 (lv_at hl 3 rfl) ?_
      refine lv_iload hx hb dL_law_359 (lv_at hl 2 rfl) ?_
      refine kCallRi (va_runV (As := [.int (nI t), .int (nI k)]) (rest := []) ⟨hx, hb, hml, hown, hts⟩ (c_X5_sees l E ad S hs (nI t) (nI k) hno _ rfl) (cwV 2 hts gL_law_X5_sees rfl rfl rfl (by decide +kernel) ⟨Nat.le_of_ble_eq_true rfl, Nat.le_of_ble_eq_true rfl⟩) (kPreYV hK hY.2.1 hY (q0 := 0) rfl rfl) rfl rfl hl.1 rfl (lv_room (Nat.le_of_ble_eq_true rfl)) dL_law_361 ⟨Nat.le_of_ble_eq_true rfl, Nat.le_of_ble_eq_true rfl⟩) ?_
      refine lv_iload hx hb dL_law_364 (lv_at hl 0 rfl) ?_
      refine lv_if_ge (tgt := 374) hx hb dL_law_366 (by decide) (fun _ => ?_) (fun c => absurd (Int32.not_lt.mp (nI_pos (by omega))) c)
      refine lv_iload hx hb dL_law_374 (lv_at hl 0 rfl) ?_
      refine lv_icmp_ne (tgt := 412) hx hb dL_law_376 (by decide) (fun c => absurd ((sees_A (S := S) hn12 h2 hI ht (show k < 16 by omega) hw).trans ev) c) (fun _ => ?_)
      refine lv_aload_n hx hb dL_law_379 rfl (lv_at hl 7 rfl) ?_
      refine lv_iload hx hb dL_law_380 (lv_at hl 3 rfl) ?_
      refine lv_iload hx hb dL_law_382 (lv_at hl 2 rfl) ?_
      refine kCallYi (va_runV (As := [.int (nI t), .int (nI k)]) (rest := []) ⟨hx, hb, hml, hown, hts⟩ (c_X5_read l E ad S hs (nI t) (nI k) hh hno _ rfl) (cwV 2 hts gL_law_X5_read rfl rfl rfl (by decide +kernel) ⟨Nat.le_of_ble_eq_true rfl, Nat.le_of_ble_eq_true rfl⟩) (kPreYV hK hY.2.1 hY (q0 := 0) rfl rfl) rfl rfl hl.1 rfl (lv_room (Nat.le_of_ble_eq_true rfl)) dL_law_384 ⟨Nat.le_of_ble_eq_true rfl, Nat.le_of_ble_eq_true rfl⟩) hS (fun q h => hA q h) (fun H1 locs1 hY hsz hkp hS => ?_)
      have hR := kP_kept hR (dR (fun i j h1 h2 _ => by omega) _) (fun q z y => hap q y z) hkp
      have hV := kP_kept (A := fun q => q = qa) hV (kD1 rfl) (fun q (h : q = qa) y => hapq q y h) hkp
      have hlt : ∀ x, kA ad 90 x → x < H1.size := fun x hx => Nat.lt_of_lt_of_le (hlt x hx) hsz
      have hrl : ra 0 < H1.size := Nat.lt_of_lt_of_le hrl hsz
      have hAn := read_A (S := S) hn12 h2 hI hh ht ht0 (show k < 16 by omega) hw
      refine kGen (mX5_read S (nI t) (nI k)) (fun g1 hg1 => ?_)
      rw [hg1] at hY hAn ⊢
      refine lv_iload hx hb dL_law_387 (lv_at hl 0 rfl) ?_
      refine lv_if_ge (tgt := 396) hx hb dL_law_389 (by decide) (fun _ => ?_) (fun c => absurd (Int32.not_lt.mp (nI_pos (by omega))) c)
      refine lv_aload_n hx hb dL_law_396 rfl (lv_at hl 9 rfl) ?_
      refine lv_iconst (v := 5) hx hb dL_law_397 (by decide) ?_
      refine lv_iload hx hb dL_law_398 (lv_at hl 0 rfl) ?_
      refine lv_imul hx hb dL_law_400 ?_
      refine lv_iload hx hb dL_law_401 (lv_at hl 2 rfl) ?_
      refine lv_iadd hx hb dL_law_403 ?_
      refine W.eq (g2 := F0 m 404 ls [.int (nI (5 * j + k)), .ref qa, .int (g1.1)]) (by rw [show (5 : Int32) = nI 5 from rfl, kmulI, nI_add]) ?_
      refine va_iald (D := E.1) hx hb hK.1 hV 0 0 rfl rfl (vp_in_nI (by omega) (by omega)) dL_law_404 ?_
      refine W.eq (g2 := F0 m 405 ls [.int (w (5 * j + k)), .int (g1.1)]) (by rw [nI_clamp (show 5 * j + k < 2 ^ 31 by omega)]) ?_
      refine lv_icmp_ne (tgt := 412) hx hb dL_law_405 (by decide) (fun c => absurd (hAn.1.trans (by rw [ev, val_0 hn12 h2 hj (show k < 16 by omega)]; exact (hW7 j k hj hk hjw).symm)) c) (fun _ => ?_)
      refine lv_iconst (v := 1) hx hb dL_law_408 (by decide) ?_
      refine lv_goto (tgt := 413) hx hb dL_law_409 (by decide) ?_
      refine lv_istore (lv' := [(11, .int 1), (13, .int (nI j)), (12, .int 0), (9, .int (nI k)), (8, .int (nI t)), (6, .int G), (5, .int (nI i0)), (0, .ref b), (1, .ref (ad 80)), (2, .ref (ra 0)), (3, .ref qa), (4, .int (nI ρ))]) hx hb dL_law_413 hl (by decide) rfl (fun ls hl => ?_)
      refine lv_aload_n hx hb dL_law_415 rfl (lv_at hl 9 rfl) ?_
      refine lv_bipush (v := 24) hx hb dL_law_416 (by decide) ?_
      refine lv_iload hx hb dL_law_418 (lv_at hl 4 rfl) ?_
      refine lv_iadd hx hb dL_law_420 ?_
      refine lv_dup2_11 hx hb dL_law_421 rfl rfl ?_
      refine va_iald (D := E.1) hx hb hK.1 hR 0 0 rfl rfl (rIn 24 (by decide) (by first | assumption | exact tOK.nI (by omega))) dL_law_422 ?_
      refine W.eq (g2 := F0 m 423 ls [.int (z (24 + t)), .int (24 + (nI t)), .ref (ra 0)]) (by rw [rA24 (t := t) (by omega)]) ?_
      refine lv_iload hx hb dL_law_423 (lv_at hl 2 rfl) ?_
      refine lv_if_eq (tgt := 432) hx hb dL_law_425 (by decide) (fun _ => ?_) (fun c => absurd (by decide) c)
      refine lv_iconst (v := 1) hx hb dL_law_432 (by decide) ?_
      refine lv_iload hx hb dL_law_433 (lv_at hl 3 rfl) ?_
      refine lv_ishl hx hb dL_law_435 ?_
      refine lv_ior hx hb dL_law_436 ?_
      refine kSto hx hb hK hR hra hS (rIn 24 (by decide) (by first | assumption | exact tOK.nI (by omega))) dL_law_437 (fun H1 locs1 hN1 ho hS1 hz1 => ?_)
      have hY := hY.keptA (A := fun q => q = ra 0) hs (fun q _ h2 => ho q h2) (fun q hq (h : q = ra 0) => hap q hq ⟨0, by omega, h⟩)
      have hV := kP1 hV (ho _ (show qa ≠ ra 0 from Ne.symm hrq))
      rw [rA24 (t := t) (by omega)] at hN1
      have hR : va_P E.1 vwCl (wRx E ra (upd z (24 + t) ((z (24 + t)) ||| (1 <<< ((nI k) &&& 31))))) H1 := hN1
      have hS := hS1
      have hlt : ∀ x, kA ad 90 x → x < H1.size := fun x hx => by rw [hz1]; exact hlt x hx
      have hrl : ra 0 < H1.size := by rw [hz1]; exact hrl
      refine lv_goto (tgt := 795) hx hb dL_law_438 (by decide) ?_
      exact law_tail C0 (n := n) (mm := mm) (bb := bb) (cc := cc) (S := (g1.2)) (z := (upd z (24 + t) ((z (24 + t)) ||| (1 <<< ((nI k) &&& 31))))) (w := w) ⟨hY, hR, hV, hS, hlt, hrl, hAn.2.2.2, (hQ.read ht ht0 hk hAn.2.1 hAn.2.2.1 rfl)⟩ (by omega) hi0 hk (lv_sub hl [0, 3, 6, 7, 8, 9, 10, 11] rfl) kk
  · have hw : WRk (S 0) t k := by rw [bitC] at c_1; exact c_1
    refine lv_iconst (v := 1) hx hb dL_law_327 (by decide) ?_
    refine lv_goto (tgt := 332) hx hb dL_law_328 (by decide) ?_
    refine lv_istore (lv' := [(12, .int 1), (9, .int (nI k)), (8, .int (nI t)), (6, .int G), (5, .int (nI i0)), (0, .ref b), (1, .ref (ad 80)), (2, .ref (ra 0)), (3, .ref qa), (4, .int (nI ρ))]) hx hb dL_law_332 hl (by decide) rfl (fun ls hl => ?_)
    refine lv_iload hx hb dL_law_334 (lv_at hl 0 rfl) ?_
    refine lv_if_eq (tgt := 344) hx hb dL_law_336 (by decide) (fun c => absurd c (by decide)) (fun _ => ?_)
    refine lv_iload hx hb dL_law_339 (lv_at hl 2 rfl) ?_
    refine lv_goto (tgt := 354) hx hb dL_law_341 (by decide) ?_
    refine lv_istore (lv' := [(13, .int (nI t)), (12, .int 1), (9, .int (nI k)), (8, .int (nI t)), (6, .int G), (5, .int (nI i0)), (0, .ref b), (1, .ref (ad 80)), (2, .ref (ra 0)), (3, .ref qa), (4, .int (nI ρ))]) hx hb dL_law_354 hl (by decide) rfl (fun ls hl => ?_)
    refine lv_aload_n hx hb dL_law_356 rfl (lv_at hl 7 rfl) ?_
    refine lv_iload hx hb dL_law_357 (lv_at hl 3 rfl) ?_
    refine lv_iload hx hb dL_law_359 (lv_at hl 2 rfl) ?_
    refine kCallRi (va_runV (As := [.int (nI t), .int (nI k)]) (rest := []) ⟨hx, hb, hml, hown, hts⟩ (c_X5_sees l E ad S hs (nI t) (nI k) hno _ rfl) (cwV 2 hts gL_law_X5_sees rfl rfl rfl (by decide +kernel) ⟨Nat.le_of_ble_eq_true rfl, Nat.le_of_ble_eq_true rfl⟩) (kPreYV hK hY.2.1 hY (q0 := 0) rfl rfl) rfl rfl hl.1 rfl (lv_room (Nat.le_of_ble_eq_true rfl)) dL_law_361 ⟨Nat.le_of_ble_eq_true rfl, Nat.le_of_ble_eq_true rfl⟩) ?_
    refine lv_iload hx hb dL_law_364 (lv_at hl 0 rfl) ?_
    refine lv_if_ge (tgt := 374) hx hb dL_law_366 (by decide) (fun _ => ?_) (fun c => absurd (Int32.not_lt.mp (nI_pos (by omega))) c)
    refine lv_iload hx hb dL_law_374 (lv_at hl 0 rfl) ?_
    refine lv_icmp_ne (tgt := 412) hx hb dL_law_376 (by decide) (fun c => absurd (sees_own (S := S) hn12 h2 ht (show k < 16 by omega) hw) c) (fun _ => ?_)
    refine lv_aload_n hx hb dL_law_379 rfl (lv_at hl 7 rfl) ?_
    refine lv_iload hx hb dL_law_380 (lv_at hl 3 rfl) ?_
    refine lv_iload hx hb dL_law_382 (lv_at hl 2 rfl) ?_
    refine kCallYi (va_runV (As := [.int (nI t), .int (nI k)]) (rest := []) ⟨hx, hb, hml, hown, hts⟩ (c_X5_read l E ad S hs (nI t) (nI k) hh hno _ rfl) (cwV 2 hts gL_law_X5_read rfl rfl rfl (by decide +kernel) ⟨Nat.le_of_ble_eq_true rfl, Nat.le_of_ble_eq_true rfl⟩) (kPreYV hK hY.2.1 hY (q0 := 0) rfl rfl) rfl rfl hl.1 rfl (lv_room (Nat.le_of_ble_eq_true rfl)) dL_law_384 ⟨Nat.le_of_ble_eq_true rfl, Nat.le_of_ble_eq_true rfl⟩) hS (fun q h => hA q h) (fun H1 locs1 hY hsz hkp hS => ?_)
    have hR := kP_kept hR (dR (fun i j h1 h2 _ => by omega) _) (fun q z y => hap q y z) hkp
    have hV := kP_kept (A := fun q => q = qa) hV (kD1 rfl) (fun q (h : q = qa) y => hapq q y h) hkp
    have hlt : ∀ x, kA ad 90 x → x < H1.size := fun x hx => Nat.lt_of_lt_of_le (hlt x hx) hsz
    have hrl : ra 0 < H1.size := Nat.lt_of_lt_of_le hrl hsz
    have hAn := read_own (S := S) hn12 h2 hh ht ht0 (show k < 16 by omega) hw
    refine kGen (mX5_read S (nI t) (nI k)) (fun g1 hg1 => ?_)
    rw [hg1] at hY hAn ⊢
    have e0 : g1.2 0 = S 0 := funext hAn.2.1
    refine lv_iload hx hb dL_law_387 (lv_at hl 0 rfl) ?_
    refine lv_if_ge (tgt := 396) hx hb dL_law_389 (by decide) (fun _ => ?_) (fun c => absurd (Int32.not_lt.mp (nI_pos (by omega))) c)
    refine lv_aload_n hx hb dL_law_396 rfl (lv_at hl 9 rfl) ?_
    refine lv_iconst (v := 5) hx hb dL_law_397 (by decide) ?_
    refine lv_iload hx hb dL_law_398 (lv_at hl 0 rfl) ?_
    refine lv_imul hx hb dL_law_400 ?_
    refine lv_iload hx hb dL_law_401 (lv_at hl 2 rfl) ?_
    refine lv_iadd hx hb dL_law_403 ?_
    refine W.eq (g2 := F0 m 404 ls [.int (nI (5 * t + k)), .ref qa, .int (g1.1)]) (by rw [show (5 : Int32) = nI 5 from rfl, kmulI, nI_add]) ?_
    refine va_iald (D := E.1) hx hb hK.1 hV 0 0 rfl rfl (vp_in_nI (by omega) (by omega)) dL_law_404 ?_
    refine W.eq (g2 := F0 m 405 ls [.int (w (5 * t + k)), .int (g1.1)]) (by rw [nI_clamp (show 5 * t + k < 2 ^ 31 by omega)]) ?_
    refine lv_icmp_ne (tgt := 412) hx hb dL_law_405 (by decide) (fun c => absurd (hAn.1.trans (hW7 t k ht hk hw).symm) c) (fun _ => ?_)
    refine lv_iconst (v := 1) hx hb dL_law_408 (by decide) ?_
    refine lv_goto (tgt := 413) hx hb dL_law_409 (by decide) ?_
    refine lv_istore (lv' := [(11, .int 1), (13, .int (nI t)), (12, .int 1), (9, .int (nI k)), (8, .int (nI t)), (6, .int G), (5, .int (nI i0)), (0, .ref b), (1, .ref (ad 80)), (2, .ref (ra 0)), (3, .ref qa), (4, .int (nI ρ))]) hx hb dL_law_413 hl (by decide) rfl (fun ls hl => ?_)
    refine lv_aload_n hx hb dL_law_415 rfl (lv_at hl 9 rfl) ?_
    refine lv_bipush (v := 24) hx hb dL_law_416 (by decide) ?_
    refine lv_iload hx hb dL_law_418 (lv_at hl 4 rfl) ?_
    refine lv_iadd hx hb dL_law_420 ?_
    refine lv_dup2_11 hx hb dL_law_421 rfl rfl ?_
    refine va_iald (D := E.1) hx hb hK.1 hR 0 0 rfl rfl (rIn 24 (by decide) (by first | assumption | exact tOK.nI (by omega))) dL_law_422 ?_
    refine W.eq (g2 := F0 m 423 ls [.int (z (24 + t)), .int (24 + (nI t)), .ref (ra 0)]) (by rw [rA24 (t := t) (by omega)]) ?_
    refine lv_iload hx hb dL_law_423 (lv_at hl 2 rfl) ?_
    refine lv_if_eq (tgt := 432) hx hb dL_law_425 (by decide) (fun c => absurd c (by decide)) (fun _ => ?_)
    refine lv_iconst (v := 0) hx hb dL_law_428 (by decide) ?_
    refine lv_goto (tgt := 436) hx hb dL_law_429 (by decide) ?_
    refine lv_ior hx hb dL_law_436 ?_
    refine kSto hx hb hK hR hra hS (rIn 24 (by decide) (by first | assumption | exact tOK.nI (by omega))) dL_law_437 (fun H1 locs1 hN1 ho hS1 hz1 => ?_)
    have hY := hY.keptA (A := fun q => q = ra 0) hs (fun q _ h2 => ho q h2) (fun q hq (h : q = ra 0) => hap q hq ⟨0, by omega, h⟩)
    have hV := kP1 hV (ho _ (show qa ≠ ra 0 from Ne.symm hrq))
    rw [rA24 (t := t) (by omega)] at hN1
    have hR : va_P E.1 vwCl (wRx E ra (upd z (24 + t) ((z (24 + t)) ||| 0))) H1 := hN1
    have hS := hS1
    have hlt : ∀ x, kA ad 90 x → x < H1.size := fun x hx => by rw [hz1]; exact hlt x hx
    have hrl : ra 0 < H1.size := by rw [hz1]; exact hrl
    refine lv_goto (tgt := 795) hx hb dL_law_438 (by decide) ?_
    exact law_tail C0 (n := n) (mm := mm) (bb := bb) (cc := cc) (S := (g1.2)) (z := (upd z (24 + t) ((z (24 + t)) ||| 0))) (w := w) ⟨hY, hR, hV, hS, hlt, hrl, hAn.2.2, (by rw [Int32.or_zero, upd_same, e0]; exact hQ)⟩ (by omega) hi0 hk (lv_sub hl [0, 3, 6, 7, 8, 9, 10, 11] rfl) kk
