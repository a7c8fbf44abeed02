/-! the law's end: all is told once more, then the order -/
theorem kCallTi {p : Program} {l : Launch} {e : Env} {R : Room} {s : State} {m : MethodId} {args : Array Value} {below : List Frame} {meth : Method} {c : Code} {H : Heap} {locs : List Loc} {cells slots mc ms : Nat} {Q : State → Prop} {pc : Nat} {ls : Array Slot} {rest st0 : List Value} {a : Array Value} {A : Nat → Prop} {H0 : Heap} {E : kE} {r : Int32} {ad : Nat → Nat} {S : kS} {sz : Nat}
    (hr : va_Run p l e R s m args below meth c H locs cells slots mc ms (F0 m pc ls st0) rest (kTi E r ad S sz a) (fun q => kA ad 90 q ∨ sz ≤ q)) (hS : va_S A H0 H locs) (hA : ∀ q, (kA ad 90 q ∨ sz ≤ q) → A q)
    (kk : ∀ (H1 : Heap) (locs1 : List Loc), Sys E ad S H1 → va_S A H0 H1 locs1 → W p l e R s m args below meth c H1 locs1 (cells + mc) (slots + ms) Q (F0 m (pc + 3) ls (.int r :: rest))) : W p l e R s m args below meth c H locs cells slots Q (F0 m pc ls st0) := by
  intro T hT X
  obtain ⟨v, st₀, t, T', Lx, h0, X', hL, e1, e2, ⟨hv, hp, hz, hk⟩, st⟩ := hr T hT X
  cases hv
  rw [h0] at hz hk
  obtain ⟨t2, a1, b1⟩ := kk T'.heap (locs ++ Lx) (by rw [e1]; exact hp)
    ⟨Nat.le_trans hS.1 (by rw [e1]; exact hz), fun q h1 h2 => by rw [e1, hk q (Nat.lt_of_lt_of_le h1 hS.1) (fun z => h2 (hA q z))]; exact hS.2.1 q h1 h2, fun q hq => by
      rcases List.mem_append.mp hq with h | h
      · exact hS.2.2 q h
      · exact hA _ (hL q h)⟩ T' rfl X'
  exact ⟨t2, st t2 a1, b1⟩
set_option maxHeartbeats 4000000 in
theorem law_end {p : Program} {l : Launch} {e : Env} {s : State} {m : MethodId} {below : List Frame} {meth : Method} {c : Code} {b L : Nat} {xs : Nat → Int32} {E : kE} {ad ra : Nat → Nat} {qa : Nat} {Q : State → Prop} {ρ : Nat} {n mm : Nat} {bb cc : Nat → Nat} {S : kS} {z w : Nat → Int32} {H : Heap} {locs : List Loc} {ls : Array Slot} (C : LC p s m meth c b L xs E ad ra qa) (hI : LI s E ad ra qa n mm bb cc ρ S z w H locs) (hl : lv_has ls 15 [(0, .ref b), (1, .ref (ad 80)), (2, .ref (ra 0)), (3, .ref qa), (4, .int (nI ρ))]) (kend : ∀ (H : Heap) (locs : List Loc) (ls : Array Slot), va_S (lFr s) s.heap H locs → W p l e room_1 s m #[Value.ref b] below meth c H locs 93 3001 Q (F0 m 904 ls [.int 1])) : W p l e room_1 s m #[Value.ref b] below meth c H locs 92 2996 Q (F0 m 867 ls []) := by
  have C0 := C
  have hI0 := hI
  obtain ⟨hx, hb, hml, hown, hts, hX, hL, hbl, hK, hs, hA, hra, hqa, hap, hapq, hrq⟩ := C
  obtain ⟨hY, hR, hV, hS, hlt, hrl, hh, hQ⟩ := hI
  have hn12 := hQ.1.1
  have h2 := hQ.2.1
  have hI := hQ.2.2.1
  have hm30 := hI.2.1
  have hno : nOK (S 0 0 2) := ⟨n, hn12, h2⟩
  have hnr : nOK ((fun _ => z : kG) 0 49) := ⟨n, hn12, hQ.1.2.1⟩
  obtain ⟨_, _, _, h48, hB, hZ, hρ, hρ4, hW7, hF, hN, h0⟩ := id hQ
  refine lv_aload_n hx hb dL_law_867 rfl (lv_at hl 1 rfl) ?_
  refine lv_aload_n hx hb dL_law_868 rfl (lv_at hl 2 rfl) ?_
  refine kCallYi (va_runS (As := [.ref (ad 80), .ref (ra 0)]) (rest := []) ⟨hx, hb, hml, hown, hts⟩ (c_L_tells l E ad S hs ra (fun _ => z) hap hno hnr _ rfl) (va_cwS 2 hts gL_law_L_tells rfl rfl rfl (by decide +kernel) ⟨Nat.le_of_ble_eq_true rfl, Nat.le_of_ble_eq_true rfl⟩) (kPreTS hK hY hR) rfl rfl hl.1 rfl (lv_room (Nat.le_of_ble_eq_true rfl)) dL_law_869 ⟨Nat.le_of_ble_eq_true rfl, Nat.le_of_ble_eq_true rfl⟩) hS (fun q h => hA q h) (fun H1 locs1 hY hsz hk hS => ?_)
  have hR := kP_kept hR (dR (fun i j h1 h2 _ => by omega) _) (fun q z y => hap q y z) hk
  have hlt : ∀ x, kA ad 90 x → x < H1.size := fun x hx => Nat.lt_of_lt_of_le (hlt x hx) hsz
  have hrl : ra 0 < H1.size := Nat.lt_of_lt_of_le hrl hsz
  have htl : (mL_tells S (fun _ => z)) = (1, S) := tells_1 (r := (fun _ => z)) hQ.1 h2 hI h48 hB hZ
  rw [htl] at hY ⊢
  dsimp only at hY ⊢
  refine lv_if_eq (tgt := 903) hx hb dL_law_872 (by decide) (fun c => absurd c (by decide)) (fun _ => ?_)
  refine lv_aload_n hx hb dL_law_875 rfl (lv_at hl 1 rfl) ?_
  refine lv_aload_n hx hb dL_law_876 rfl (lv_at hl 2 rfl) ?_
  obtain ⟨sz, esz⟩ : ∃ sz, sz = H1.size := ⟨_, rfl⟩
  refine kCallTi (va_runS (As := [.ref (ad 80), .ref (ra 0)]) (rest := []) ⟨hx, hb, hml, hown, hts⟩ (c_L_isOrder l E ad S hs ra (fun _ => z) hap sz (fun q hq => by rw [esz]; exact hlt q hq) (by rw [esz]; exact hrl) hno hnr (fun x => ord_T hn12 h2 hI x) _ rfl) (va_cwS 2 hts gL_law_L_isOrder rfl rfl rfl (by decide +kernel) ⟨Nat.le_of_ble_eq_true rfl, Nat.le_of_ble_eq_true rfl⟩) (kPreTsS hK hY hR esz.symm) rfl rfl hl.1 rfl (lv_room (Nat.le_of_ble_eq_true rfl)) dL_law_877 ⟨Nat.le_of_ble_eq_true rfl, Nat.le_of_ble_eq_true rfl⟩) hS (fun q h => h.elim (hA q) (fun y => Nat.le_trans hS.1 (by rw [← esz]; exact y))) (fun H2 locs2 hY hS => ?_)
  have hio := isOrder_1 (r := (fun _ => z)) hQ.1 h2 hI
  refine kGen (mL_isOrder S (fun _ => z)) (fun g hg => ?_)
  rw [hg] at hY hio ⊢
  refine lv_if_eq (tgt := 903) hx hb dL_law_880 (by decide) (fun c => absurd c (by rw [hio.1]; decide)) (fun _ => ?_)
  refine lv_iload hx hb dL_law_883 (lv_at hl 4 rfl) ?_
  refine lv_iconst (v := 3) hx hb dL_law_885 (by decide) ?_
  refine lv_icmp_eq (tgt := 899) hx hb dL_law_886 (by decide) (fun _ => ?_) (fun c3 => ?_)
  · refine lv_iconst (v := 1) hx hb dL_law_899 (by decide) ?_
    refine lv_goto (tgt := 904) hx hb dL_law_900 (by decide) ?_
    exact kend H2 locs2 ls hS
  · have hr3 : ρ < 3 := by
      rcases Nat.lt_or_ge ρ 3 with y | y
      · exact y
      · exact absurd (show nI ρ = 3 by rw [show ρ = 3 by omega]; rfl) c3
    have hn2 : nOK (g.2 0 0 2) := by rw [hio.2]; exact hno
    refine lv_aload_n hx hb dL_law_889 rfl (lv_at hl 1 rfl) ?_
    refine lv_bipush (v := 9) hx hb dL_law_890 (by decide) ?_
    refine kCallYi (va_runV (As := [.int 9]) (rest := []) ⟨hx, hb, hml, hown, hts⟩ (c_X5_count l E ad g.2 hs 9 hn2 _ rfl) (cwV 1 hts gL_law_X5_count rfl rfl rfl (by decide +kernel) ⟨Nat.le_of_ble_eq_true rfl, Nat.le_of_ble_eq_true rfl⟩) (kPreYV hK hY.2.1 hY (q0 := 0) rfl rfl) rfl rfl hl.1 rfl (lv_room (Nat.le_of_ble_eq_true rfl)) dL_law_892 ⟨Nat.le_of_ble_eq_true rfl, Nat.le_of_ble_eq_true rfl⟩) hS (fun q h => hA q h) (fun H3 locs3 hY hsz hk hS => ?_)
    have hc := serial_1 (S := g.2) (ρ := ρ) hr3 hn12 (by rw [hio.2]; exact h2) (by rw [hio.2]; exact hI) (by rw [hio.2]; exact hF) (by rw [hio.2]; exact hN)
    refine kGen (mX5_count g.2 9) (fun g3 hg3 => ?_)
    rw [hg3] at hc ⊢
    refine lv_iconst (v := 1) hx hb dL_law_895 (by decide) ?_
    refine lv_icmp_ne (tgt := 903) hx hb dL_law_896 (by decide) (fun c => absurd hc c) (fun _ => ?_)
    refine lv_iconst (v := 1) hx hb dL_law_899 (by decide) ?_
    refine lv_goto (tgt := 904) hx hb dL_law_900 (by decide) ?_
    exact kend H3 locs3 ls hS

