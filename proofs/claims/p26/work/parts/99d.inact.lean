set_option maxHeartbeats 4000000 in
set_option maxRecDepth 100000 in
theorem law_B {p : Program} {l : Launch} {e : Env} {s : State} {m : MethodId} {below : List Frame} {meth : Method} {c : Code} {b L : Nat} {xs : Nat → Int32} {E : kE} {ad ra : Nat → Nat} {qa : Nat} {Q : State → Prop} {n mm ρ i0 : Nat} {bb cc : Nat → Nat} {S : kS} {z w : Nat → Int32} {H : Heap} {locs : List Loc} {ls : Array Slot} {k t : Nat} {G : Int32} (C : LC p s m meth c b L xs E ad ra qa) (hI : LI s E ad ra qa n mm bb cc ρ S z w H locs) (hmm : mm ≤ i0) (hi0 : i0 < 52) (hk : k < 5) (ht : t < n) (hact : ¬ S 0 1 t = 0) (hl : lv_has ls 15 [(9, .int (nI k)), (8, .int (nI t)), (6, .int G), (5, .int (nI i0)), (0, .ref b), (1, .ref (ad 80)), (2, .ref (ra 0)), (3, .ref qa), (4, .int (nI ρ))]) (kk : ∀ (n mm : Nat) (bb cc : Nat → Nat) (S : kS) (z w : Nat → Int32) (H : Heap) (locs : List Loc) (ls : Array Slot), mm ≤ i0 + 1 → LI s E ad ra qa n mm bb cc ρ S z w H locs → lv_has ls 15 [(5, .int (nI (i0 + 1))), (0, .ref b), (1, .ref (ad 80)), (2, .ref (ra 0)), (3, .ref qa), (4, .int (nI ρ))] → W p l e room_1 s m #[Value.ref b] below meth c H locs 92 2996 Q (F0 m 52 ls [])) : W p l e room_1 s m #[Value.ref b] below meth c H locs 92 2996 Q (F0 m 271 ls []) := by
  have C0 := C
  have hI0 := hI
  obtain ⟨hx, hb, hml, hown, hts, hX, hL, hbl, hK, hs, hA, hra, hqa, hap, hapq, hrq⟩ := C
  obtain ⟨hY, hR, hV, hS, hlt, hrl, hh, hQ⟩ := hI
  have hn12 := hQ.1.1
  have h2 := hQ.2.1
  have hI := hQ.2.2.1
  have hm30 := hI.2.1
  have hno : nOK (S 0 0 2) := ⟨n, hn12, h2⟩
  have hnr : nOK ((fun _ => z : kG) 0 49) := ⟨n, hn12, hQ.1.2.1⟩
  obtain ⟨_, _, _, h48, hB, hZ, hρ, hρ4, hW7, hF, hN, h0⟩ := id hQ
  refine lv_aload_n hx hb dL_law_271 rfl (lv_at hl 5 rfl) ?_
  refine lv_iload hx hb dL_law_272 (lv_at hl 1 rfl) ?_
  refine lv_iload hx hb dL_law_274 (lv_at hl 0 rfl) ?_
  refine kCallYi (va_runV (As := [.int (nI t), .int (nI k)]) (rest := []) ⟨hx, hb, hml, hown, hts⟩ (c_X5_read l E ad S hs (nI t) (nI k) hh hno _ rfl) (cwV 2 hts gL_law_X5_read rfl rfl rfl (by decide +kernel) ⟨Nat.le_of_ble_eq_true rfl, Nat.le_of_ble_eq_true rfl⟩) (kPreYV hK hY.2.1 hY (q0 := 0) rfl rfl) rfl rfl hl.1 rfl (lv_room (Nat.le_of_ble_eq_true rfl)) dL_law_276 ⟨Nat.le_of_ble_eq_true rfl, Nat.le_of_ble_eq_true rfl⟩) hS (fun q h => hA q h) (fun H1 locs1 hY hsz hkp hS => ?_)
  have hR := kP_kept hR (dR (fun i j h1 h2 _ => by omega) _) (fun q z y => hap q y z) hkp
  have hV := kP_kept (A := fun q => q = qa) hV (kD1 rfl) (fun q (h : q = qa) y => hapq q y h) hkp
  have hlt : ∀ x, kA ad 90 x → x < H1.size := fun x hx => Nat.lt_of_lt_of_le (hlt x hx) hsz
  have hrl : ra 0 < H1.size := Nat.lt_of_lt_of_le hrl hsz
  have hAn := read_no (S := S) hn12 h2 hh ht hact (show k < 16 by omega)
  refine kGen (mX5_read S (nI t) (nI k)) (fun g1 hg1 => ?_)
  rw [hg1] at hY hAn ⊢
  have e0 : g1.2 0 = S 0 := funext hAn.2.1
  have hn1 : nOK (g1.2 0 0 2) := by rw [e0]; exact hno
  refine lv_bipush (v := (-5)) hx hb dL_law_279 (by decide) ?_
  refine lv_icmp_ne (tgt := 299) hx hb dL_law_281 (by decide) (fun c => absurd hAn.1 c) (fun _ => ?_)
  refine lv_aload_n hx hb dL_law_284 rfl (lv_at hl 5 rfl) ?_
  refine lv_iload hx hb dL_law_285 (lv_at hl 1 rfl) ?_
  refine kCallRi (va_runV (As := [.int (nI t)]) (rest := []) ⟨hx, hb, hml, hown, hts⟩ (c_X5_would l E ad (g1.2) hs (nI t) hn1 _ rfl) (cwV 1 hts gL_law_X5_would rfl rfl rfl (by decide +kernel) ⟨Nat.le_of_ble_eq_true rfl, Nat.le_of_ble_eq_true rfl⟩) (kPreYV hK hY.2.1 hY (q0 := 0) rfl rfl) rfl rfl hl.1 rfl (lv_room (Nat.le_of_ble_eq_true rfl)) dL_law_287 ⟨Nat.le_of_ble_eq_true rfl, Nat.le_of_ble_eq_true rfl⟩) ?_
  refine lv_bipush (v := (-5)) hx hb dL_law_290 (by decide) ?_
  refine lv_icmp_ne (tgt := 299) hx hb dL_law_292 (by decide) (fun c => absurd (would_no (S := g1.2) hn12 (by rw [e0]; exact h2) ht (by rw [e0]; exact hact)) c) (fun _ => ?_)
  refine lv_iconst (v := 1) hx hb dL_law_295 (by decide) ?_
  refine lv_goto (tgt := 300) hx hb dL_law_296 (by decide) ?_
  refine lv_istore (lv' := [(11, .int 1), (9, .int (nI k)), (8, .int (nI t)), (6, .int G), (5, .int (nI i0)), (0, .ref b), (1, .ref (ad 80)), (2, .ref (ra 0)), (3, .ref qa), (4, .int (nI ρ))]) hx hb dL_law_300 hl (by decide) rfl (fun ls hl => ?_)
  refine lv_goto (tgt := 795) hx hb dL_law_302 (by decide) ?_
  exact law_tail C0 (n := n) (mm := mm) (bb := bb) (cc := cc) (S := (g1.2)) (z := z) (w := w) ⟨hY, hR, hV, hS, hlt, hrl, hAn.2.2, (by rw [e0]; exact hQ)⟩ (by omega) hi0 hk (lv_sub hl [0, 1, 4, 5, 6, 7, 8, 9] rfl) kk
