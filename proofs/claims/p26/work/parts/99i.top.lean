set_option maxHeartbeats 4000000 in
set_option maxRecDepth 100000 in
theorem law_top {p : Program} {l : Launch} {e : Env} {s : State} {m : MethodId} {below : List Frame} {meth : Method} {c : Code} {b L : Nat} {xs : Nat → Int32} {E : kE} {ad ra : Nat → Nat} {qa : Nat} {Q : State → Prop} {n mm ρ i0 : Nat} {bb cc : Nat → Nat} {S : kS} {z w : Nat → Int32} {H : Heap} {locs : List Loc} {ls : Array Slot} (C : LC p s m meth c b L xs E ad ra qa) (hI : LI s E ad ra qa n mm bb cc ρ S z w H locs) (hmm : mm ≤ i0) (hi0 : i0 < 52) (hl : lv_has ls 15 [(5, .int (nI i0)), (0, .ref b), (1, .ref (ad 80)), (2, .ref (ra 0)), (3, .ref qa), (4, .int (nI ρ))]) (kk : ∀ (n mm : Nat) (bb cc : Nat → Nat) (S : kS) (z w : Nat → Int32) (H : Heap) (locs : List Loc) (ls : Array Slot), mm ≤ i0 + 1 → LI s E ad ra qa n mm bb cc ρ S z w H locs → lv_has ls 15 [(5, .int (nI (i0 + 1))), (0, .ref b), (1, .ref (ad 80)), (2, .ref (ra 0)), (3, .ref qa), (4, .int (nI ρ))] → W p l e room_1 s m #[Value.ref b] below meth c H locs 92 2996 Q (F0 m 52 ls [])) : W p l e room_1 s m #[Value.ref b] below meth c H locs 92 2996 Q (F0 m 59 ls []) := by
  have C0 := C
  have hI0 := hI
  obtain ⟨hx, hb, hml, hown, hts, hX, hL, hbl, hK, hs, hA, hra, hqa, hap, hapq, hrq⟩ := C
  obtain ⟨hY, hR, hV, hS, hlt, hrl, hh, hQ⟩ := hI
  have hn12 := hQ.1.1
  have h2 := hQ.2.1
  have hI := hQ.2.2.1
  have hm30 := hI.2.1
  have hno : nOK (S 0 0 2) := ⟨n, hn12, h2⟩
  have hnr : nOK ((fun _ => z : kG) 0 49) := ⟨n, hn12, hQ.1.2.1⟩
  obtain ⟨_, _, _, h48, hB, hZ, hρ, hρ4, hW7, hF, hN, h0⟩ := id hQ
  refine lv_aload_n hx hb dL_law_59 rfl (lv_at hl 1 rfl) ?_
  refine lv_iconst (v := 1) hx hb dL_law_60 (by decide) ?_
  refine lv_iload hx hb dL_law_61 (lv_at hl 0 rfl) ?_
  refine lv_iadd hx hb dL_law_63 ?_
  refine W.eq (g2 := F0 m 64 ls [.int (nI (1 + i0)), .ref b]) (by rw [show (1 : Int32) = nI 1 from rfl, nI_add]) ?_
  refine kCallRi (va_runS (As := [.ref b, .int (nI (1 + i0))]) (rest := []) ⟨hx, hb, hml, hown, hts⟩ (c_L_cell l b L xs hL (nI (1 + i0)) (nI_pos (by omega)) _ rfl) (va_cwS 2 hts gL_law_L_cell rfl rfl rfl (by decide +kernel) ⟨Nat.le_of_ble_eq_true rfl, Nat.le_of_ble_eq_true rfl⟩) (kPreXS hX hbl (Nat.not_le.mpr hbl) hS) rfl rfl hl.1 rfl (lv_room (Nat.le_of_ble_eq_true rfl)) dL_law_64 ⟨Nat.le_of_ble_eq_true rfl, Nat.le_of_ble_eq_true rfl⟩) ?_
  refine kGen (mL_cell xs L (nI (1 + i0))) (fun G hG => ?_)
  rw [hG]
  refine lv_istore (lv' := [(6, .int G), (5, .int (nI i0)), (0, .ref b), (1, .ref (ad 80)), (2, .ref (ra 0)), (3, .ref qa), (4, .int (nI ρ))]) hx hb dL_law_67 hl (by decide) rfl (fun ls hl => ?_)
  refine lv_iload hx hb dL_law_69 (lv_at hl 0 rfl) ?_
  refine lv_bipush (v := 10) hx hb dL_law_71 (by decide) ?_
  refine kCallRi (va_runS (As := [.int G, .int 10]) (rest := []) ⟨hx, hb, hml, hown, hts⟩ (c_L_low l E G 10 (by decide) _ rfl) (va_cwS 2 hts gL_law_L_low rfl rfl rfl (by decide +kernel) ⟨Nat.le_of_ble_eq_true rfl, Nat.le_of_ble_eq_true rfl⟩) (kPreS hK kP0) rfl rfl hl.1 rfl (lv_room (Nat.le_of_ble_eq_true rfl)) dL_law_73 ⟨Nat.le_of_ble_eq_true rfl, Nat.le_of_ble_eq_true rfl⟩) ?_
  obtain ⟨κ, hκ, eκ⟩ := low_lt G (a := 10) (by decide) (by decide)
  refine W.eq (g2 := F0 m 76 ls [.int (nI κ)]) (by rw [show mL_low G 10 = nI κ from eκ]) ?_
  refine lv_istore (lv' := [(7, .int (nI κ)), (6, .int G), (5, .int (nI i0)), (0, .ref b), (1, .ref (ad 80)), (2, .ref (ra 0)), (3, .ref qa), (4, .int (nI ρ))]) hx hb dL_law_76 hl (by decide) rfl (fun ls hl => ?_)
  refine lv_aload_n hx hb dL_law_78 rfl (lv_at hl 5 rfl) ?_
  refine lv_bipush (v := 49) hx hb dL_law_79 (by decide) ?_
  refine va_iald (D := E.1) hx hb hK.1 hR 0 0 rfl rfl (vp_in_nI (n := 49) (by decide) (by decide)) dL_law_81 ?_
  refine W.eq (g2 := F0 m 82 ls [.int (z 49)]) rfl ?_
  refine W.eq (g2 := F0 m 82 ls [.int (nI n)]) (by rw [show z 49 = nI n from hQ.1.2.1]) ?_
  refine lv_if_ne (tgt := 89) hx hb dL_law_82 (by decide) (fun c_1 => ?_) (fun c_1 => ?_)
  · have hn0 : 0 < n := Nat.pos_of_ne_zero (fun y => c_1 (by rw [y]; rfl))
    refine lv_iload hx hb dL_law_89 (lv_at hl 1 rfl) ?_
    refine lv_iconst (v := 4) hx hb dL_law_91 (by decide) ?_
    refine lv_ishr hx hb dL_law_92 ?_
    refine lv_aload_n hx hb dL_law_93 rfl (lv_at hl 5 rfl) ?_
    refine lv_bipush (v := 49) hx hb dL_law_94 (by decide) ?_
    refine va_iald (D := E.1) hx hb hK.1 hR 0 0 rfl rfl (vp_in_nI (n := 49) (by decide) (by decide)) dL_law_96 ?_
    refine W.eq (g2 := F0 m 97 ls [.int (z 49), .int (G >>> (4 &&& 31))]) rfl ?_
    refine W.eq (g2 := F0 m 97 ls [.int (nI n), .int (G >>> (4 &&& 31))]) (by rw [show z 49 = nI n from hQ.1.2.1]) ?_
    refine kCallRi (va_runS (As := [.int (G >>> (4 &&& 31)), .int (nI n)]) (rest := []) ⟨hx, hb, hml, hown, hts⟩ (c_L_low l E (G >>> (4 &&& 31)) (nI n) (fun y => by rw [nI_eq0 (by omega)] at y; omega) _ rfl) (va_cwS 2 hts gL_law_L_low rfl rfl rfl (by decide +kernel) ⟨Nat.le_of_ble_eq_true rfl, Nat.le_of_ble_eq_true rfl⟩) (kPreS hK kP0) rfl rfl hl.1 rfl (lv_room (Nat.le_of_ble_eq_true rfl)) dL_law_97 ⟨Nat.le_of_ble_eq_true rfl, Nat.le_of_ble_eq_true rfl⟩) ?_
    obtain ⟨t, ht, et⟩ := low_lt (G >>> (4 &&& 31)) (a := n) hn0 (by omega)
    refine W.eq (g2 := F0 m 100 ls [.int (nI t)]) (by rw [et]) ?_
    refine lv_istore (lv' := [(8, .int (nI t)), (7, .int (nI κ)), (6, .int G), (5, .int (nI i0)), (0, .ref b), (1, .ref (ad 80)), (2, .ref (ra 0)), (3, .ref qa), (4, .int (nI ρ))]) hx hb dL_law_100 hl (by decide) rfl (fun ls hl => ?_)
    refine lv_iload hx hb dL_law_102 (lv_at hl 2 rfl) ?_
    refine lv_bipush (v := 8) hx hb dL_law_104 (by decide) ?_
    refine lv_ishr hx hb dL_law_106 ?_
    refine lv_iconst (v := 5) hx hb dL_law_107 (by decide) ?_
    refine kCallRi (va_runS (As := [.int (G >>> (8 &&& 31)), .int 5]) (rest := []) ⟨hx, hb, hml, hown, hts⟩ (c_L_low l E (G >>> (8 &&& 31)) 5 (by decide) _ rfl) (va_cwS 2 hts gL_law_L_low rfl rfl rfl (by decide +kernel) ⟨Nat.le_of_ble_eq_true rfl, Nat.le_of_ble_eq_true rfl⟩) (kPreS hK kP0) rfl rfl hl.1 rfl (lv_room (Nat.le_of_ble_eq_true rfl)) dL_law_108 ⟨Nat.le_of_ble_eq_true rfl, Nat.le_of_ble_eq_true rfl⟩) ?_
    obtain ⟨k, hk, ek⟩ := low_lt (G >>> (8 &&& 31)) (a := 5) (by decide) (by decide)
    refine W.eq (g2 := F0 m 111 ls [.int (nI k)]) (by rw [show mL_low (G >>> (8 &&& 31)) 5 = nI k from ek]) ?_
    refine lv_istore (lv' := [(9, .int (nI k)), (8, .int (nI t)), (7, .int (nI κ)), (6, .int G), (5, .int (nI i0)), (0, .ref b), (1, .ref (ad 80)), (2, .ref (ra 0)), (3, .ref qa), (4, .int (nI ρ))]) hx hb dL_law_111 hl (by decide) rfl (fun ls hl => ?_)
    refine lv_aload_n hx hb dL_law_113 rfl (lv_at hl 7 rfl) ?_
    refine lv_bipush (v := 49) hx hb dL_law_114 (by decide) ?_
    refine va_iald (D := E.1) hx hb hK.1 hR 0 0 rfl rfl (vp_in_nI (n := 49) (by decide) (by decide)) dL_law_116 ?_
    refine W.eq (g2 := F0 m 117 ls [.int (z 49)]) rfl ?_
    refine W.eq (g2 := F0 m 117 ls [.int (nI n)]) (by rw [show z 49 = nI n from hQ.1.2.1]) ?_
    refine lv_if_le (tgt := 134) hx hb dL_law_117 (by decide) (fun c => absurd c (by rw [show (0 : Int32) = nI 0 from rfl]; exact nI_ge hn0 (by omega))) (fun _ => ?_)
    refine lv_aload_n hx hb dL_law_120 rfl (lv_at hl 7 rfl) ?_
    refine lv_bipush (v := 12) hx hb dL_law_121 (by decide) ?_
    refine lv_iload hx hb dL_law_123 (lv_at hl 1 rfl) ?_
    refine lv_iadd hx hb dL_law_125 ?_
    refine va_iald (D := E.1) hx hb hK.1 hR 0 0 rfl rfl (rIn 12 (by decide) (by first | assumption | exact tOK.nI (by omega))) dL_law_126 ?_
    refine W.eq (g2 := F0 m 127 ls [.int (z (12 + t))]) (by rw [rA12 (t := t) (by omega)]) ?_
    refine lv_if_ne (tgt := 134) hx hb dL_law_127 (by decide) (fun c_2 => ?_) (fun c_2 => ?_)
    · have hact : ¬ S 0 1 t = 0 := by rw [← hQ.1.zero (r := fun _ => z) ht]; exact c_2
      refine lv_iconst (v := 0) hx hb dL_law_134 (by decide) ?_
      refine lv_istore (lv' := [(10, .int 0), (9, .int (nI k)), (8, .int (nI t)), (7, .int (nI κ)), (6, .int G), (5, .int (nI i0)), (0, .ref b), (1, .ref (ad 80)), (2, .ref (ra 0)), (3, .ref qa), (4, .int (nI ρ))]) hx hb dL_law_135 hl (by decide) rfl (fun ls hl => ?_)
      refine lv_iconst (v := 1) hx hb dL_law_137 (by decide) ?_
      refine lv_istore (lv' := [(11, .int 1), (10, .int 0), (9, .int (nI k)), (8, .int (nI t)), (7, .int (nI κ)), (6, .int G), (5, .int (nI i0)), (0, .ref b), (1, .ref (ad 80)), (2, .ref (ra 0)), (3, .ref qa), (4, .int (nI ρ))]) hx hb dL_law_138 hl (by decide) rfl (fun ls hl => ?_)
      refine lv_aload_n hx hb dL_law_140 rfl (lv_at hl 9 rfl) ?_
      refine lv_bipush (v := 49) hx hb dL_law_141 (by decide) ?_
      refine va_iald (D := E.1) hx hb hK.1 hR 0 0 rfl rfl (vp_in_nI (n := 49) (by decide) (by decide)) dL_law_143 ?_
      refine W.eq (g2 := F0 m 144 ls [.int (z 49)]) rfl ?_
      refine W.eq (g2 := F0 m 144 ls [.int (nI n)]) (by rw [show z 49 = nI n from hQ.1.2.1]) ?_
      refine lv_bipush (v := 12) hx hb dL_law_144 (by decide) ?_
      refine lv_icmp_ge (tgt := 266) hx hb dL_law_146 (by decide) (fun c_3 => ?_) (fun c_3 => ?_)
      · refine lv_iload hx hb dL_law_266 (lv_at hl 1 rfl) ?_
        refine lv_if_ne (tgt := 305) hx hb dL_law_268 (by decide) (fun c => absurd (by decide) c) (fun _ => ?_)
        exact law_B C0 hI0 hmm hi0 hk ht hact (lv_sub hl [2, 3, 5, 6, 7, 8, 9, 10, 11] rfl) kk
      · have hn_ : n < 12 := Classical.byContradiction (fun y => c_3 (k12le (Nat.not_lt.mp y) hn12))
        refine lv_iload hx hb dL_law_149 (lv_at hl 4 rfl) ?_
        refine lv_iconst (v := 2) hx hb dL_law_151 (by decide) ?_
        refine lv_icmp_lt (tgt := 162) hx hb dL_law_152 (by decide) (fun c_4 => ?_) (fun c_4 => ?_)
        · exact law_A C0 hI0 hmm hi0 hk hn_ (lv_sub hl [2, 6, 7, 8, 9, 10, 11] rfl) kk
        · refine lv_aload_n hx hb dL_law_155 rfl (lv_at hl 9 rfl) ?_
          refine lv_bipush (v := 49) hx hb dL_law_156 (by decide) ?_
          refine va_iald (D := E.1) hx hb hK.1 hR 0 0 rfl rfl (vp_in_nI (n := 49) (by decide) (by decide)) dL_law_158 ?_
          refine W.eq (g2 := F0 m 159 ls [.int (z 49)]) rfl ?_
          refine W.eq (g2 := F0 m 159 ls [.int (nI n)]) (by rw [show z 49 = nI n from hQ.1.2.1]) ?_
          refine lv_if_ne (tgt := 266) hx hb dL_law_159 (by decide) (fun _ => ?_) (fun c => absurd c (fun y => by rw [nI_eq0 (by omega)] at y; omega))
          refine lv_iload hx hb dL_law_266 (lv_at hl 1 rfl) ?_
          refine lv_if_ne (tgt := 305) hx hb dL_law_268 (by decide) (fun c => absurd (by decide) c) (fun _ => ?_)
          exact law_B C0 hI0 hmm hi0 hk ht hact (lv_sub hl [2, 3, 5, 6, 7, 8, 9, 10, 11] rfl) kk
    · have ht0 : S 0 1 t = 0 := by rw [← hQ.1.zero (r := fun _ => z) ht]; exact c_2
      refine lv_iconst (v := 1) hx hb dL_law_130 (by decide) ?_
      refine lv_goto (tgt := 135) hx hb dL_law_131 (by decide) ?_
      refine lv_istore (lv' := [(10, .int 1), (9, .int (nI k)), (8, .int (nI t)), (7, .int (nI κ)), (6, .int G), (5, .int (nI i0)), (0, .ref b), (1, .ref (ad 80)), (2, .ref (ra 0)), (3, .ref qa), (4, .int (nI ρ))]) hx hb dL_law_135 hl (by decide) rfl (fun ls hl => ?_)
      refine lv_iconst (v := 1) hx hb dL_law_137 (by decide) ?_
      refine lv_istore (lv' := [(11, .int 1), (10, .int 1), (9, .int (nI k)), (8, .int (nI t)), (7, .int (nI κ)), (6, .int G), (5, .int (nI i0)), (0, .ref b), (1, .ref (ad 80)), (2, .ref (ra 0)), (3, .ref qa), (4, .int (nI ρ))]) hx hb dL_law_138 hl (by decide) rfl (fun ls hl => ?_)
      refine lv_aload_n hx hb dL_law_140 rfl (lv_at hl 9 rfl) ?_
      refine lv_bipush (v := 49) hx hb dL_law_141 (by decide) ?_
      refine va_iald (D := E.1) hx hb hK.1 hR 0 0 rfl rfl (vp_in_nI (n := 49) (by decide) (by decide)) dL_law_143 ?_
      refine W.eq (g2 := F0 m 144 ls [.int (z 49)]) rfl ?_
      refine W.eq (g2 := F0 m 144 ls [.int (nI n)]) (by rw [show z 49 = nI n from hQ.1.2.1]) ?_
      refine lv_bipush (v := 12) hx hb dL_law_144 (by decide) ?_
      refine lv_icmp_ge (tgt := 266) hx hb dL_law_146 (by decide) (fun c_5 => ?_) (fun c_5 => ?_)
      · refine lv_iload hx hb dL_law_266 (lv_at hl 1 rfl) ?_
        refine lv_if_ne (tgt := 305) hx hb dL_law_268 (by decide) (fun _ => ?_) (fun c => absurd c (by decide))
        refine lv_iload hx hb dL_law_305 (lv_at hl 4 rfl) ?_
        refine lv_iconst (v := 5) hx hb dL_law_307 (by decide) ?_
        refine lv_icmp_ge (tgt := 441) hx hb dL_law_308 (by decide) (fun c_6 => ?_) (fun c_6 => ?_)
        · refine lv_iload hx hb dL_law_441 (lv_at hl 4 rfl) ?_
          refine lv_bipush (v := 8) hx hb dL_law_443 (by decide) ?_
          refine lv_icmp_ge (tgt := 519) hx hb dL_law_445 (by decide) (fun c_7 => ?_) (fun c_7 => ?_)
          · refine lv_iload hx hb dL_law_519 (lv_at hl 4 rfl) ?_
            refine lv_bipush (v := 8) hx hb dL_law_521 (by decide) ?_
            refine lv_icmp_eq (tgt := 538) hx hb dL_law_523 (by decide) (fun c_8 => ?_) (fun c_8 => ?_)
            · exact law_E C0 hI0 hmm hi0 hk ht ht0 (lv_sub hl [2, 3, 5, 6, 7, 8, 9, 10, 11] rfl) kk
            · refine lv_iload hx hb dL_law_526 (lv_at hl 5 rfl) ?_
              refine lv_bipush (v := 12) hx hb dL_law_528 (by decide) ?_
              refine lv_ishr hx hb dL_law_530 ?_
              refine lv_iconst (v := 4) hx hb dL_law_531 (by decide) ?_
              refine kCallRi (va_runS (As := [.int (G >>> (12 &&& 31)), .int 4]) (rest := []) ⟨hx, hb, hml, hown, hts⟩ (c_L_low l E (G >>> (12 &&& 31)) 4 (by decide) _ rfl) (va_cwS 2 hts gL_law_L_low rfl rfl rfl (by decide +kernel) ⟨Nat.le_of_ble_eq_true rfl, Nat.le_of_ble_eq_true rfl⟩) (kPreS hK kP0) rfl rfl hl.1 rfl (lv_room (Nat.le_of_ble_eq_true rfl)) dL_law_532 ⟨Nat.le_of_ble_eq_true rfl, Nat.le_of_ble_eq_true rfl⟩) ?_
              obtain ⟨o, ho, eo⟩ := low_lt (G >>> (12 &&& 31)) (a := 4) (by decide) (by decide)
              refine W.eq (g2 := F0 m 535 ls [.int (nI o)]) (by rw [show mL_low (G >>> (12 &&& 31)) 4 = nI o from eo]) ?_
              refine lv_if_le (tgt := 717) hx hb dL_law_535 (by decide) (fun c_9 => ?_) (fun c_9 => ?_)
              · exact law_F C0 hI0 hmm hi0 hk ht ht0 (lv_sub hl [2, 3, 5, 6, 7, 8, 9, 10, 11] rfl) kk
              · exact law_E C0 hI0 hmm hi0 hk ht ht0 (lv_sub hl [2, 3, 5, 6, 7, 8, 9, 10, 11] rfl) kk
          · exact law_D C0 hI0 hmm hi0 hk ht ht0 (lv_sub hl [2, 3, 5, 6, 7, 8, 9, 10, 11] rfl) kk
        · exact law_C C0 hI0 hmm hi0 hk ht ht0 (lv_sub hl [2, 3, 5, 6, 7, 8, 9, 10, 11] rfl) kk
      · have hn_ : n < 12 := Classical.byContradiction (fun y => c_5 (k12le (Nat.not_lt.mp y) hn12))
        refine lv_iload hx hb dL_law_149 (lv_at hl 4 rfl) ?_
        refine lv_iconst (v := 2) hx hb dL_law_151 (by decide) ?_
        refine lv_icmp_lt (tgt := 162) hx hb dL_law_152 (by decide) (fun c_10 => ?_) (fun c_10 => ?_)
        · exact law_A C0 hI0 hmm hi0 hk hn_ (lv_sub hl [2, 6, 7, 8, 9, 10, 11] rfl) kk
        · refine lv_aload_n hx hb dL_law_155 rfl (lv_at hl 9 rfl) ?_
          refine lv_bipush (v := 49) hx hb dL_law_156 (by decide) ?_
          refine va_iald (D := E.1) hx hb hK.1 hR 0 0 rfl rfl (vp_in_nI (n := 49) (by decide) (by decide)) dL_law_158 ?_
          refine W.eq (g2 := F0 m 159 ls [.int (z 49)]) rfl ?_
          refine W.eq (g2 := F0 m 159 ls [.int (nI n)]) (by rw [show z 49 = nI n from hQ.1.2.1]) ?_
          refine lv_if_ne (tgt := 266) hx hb dL_law_159 (by decide) (fun _ => ?_) (fun c => absurd c (fun y => by rw [nI_eq0 (by omega)] at y; omega))
          refine lv_iload hx hb dL_law_266 (lv_at hl 1 rfl) ?_
          refine lv_if_ne (tgt := 305) hx hb dL_law_268 (by decide) (fun _ => ?_) (fun c => absurd c (by decide))
          refine lv_iload hx hb dL_law_305 (lv_at hl 4 rfl) ?_
          refine lv_iconst (v := 5) hx hb dL_law_307 (by decide) ?_
          refine lv_icmp_ge (tgt := 441) hx hb dL_law_308 (by decide) (fun c_11 => ?_) (fun c_11 => ?_)
          · refine lv_iload hx hb dL_law_441 (lv_at hl 4 rfl) ?_
            refine lv_bipush (v := 8) hx hb dL_law_443 (by decide) ?_
            refine lv_icmp_ge (tgt := 519) hx hb dL_law_445 (by decide) (fun c_12 => ?_) (fun c_12 => ?_)
            · refine lv_iload hx hb dL_law_519 (lv_at hl 4 rfl) ?_
              refine lv_bipush (v := 8) hx hb dL_law_521 (by decide) ?_
              refine lv_icmp_eq (tgt := 538) hx hb dL_law_523 (by decide) (fun c_13 => ?_) (fun c_13 => ?_)
              · exact law_E C0 hI0 hmm hi0 hk ht ht0 (lv_sub hl [2, 3, 5, 6, 7, 8, 9, 10, 11] rfl) kk
              · refine lv_iload hx hb dL_law_526 (lv_at hl 5 rfl) ?_
                refine lv_bipush (v := 12) hx hb dL_law_528 (by decide) ?_
                refine lv_ishr hx hb dL_law_530 ?_
                refine lv_iconst (v := 4) hx hb dL_law_531 (by decide) ?_
                refine kCallRi (va_runS (As := [.int (G >>> (12 &&& 31)), .int 4]) (rest := []) ⟨hx, hb, hml, hown, hts⟩ (c_L_low l E (G >>> (12 &&& 31)) 4 (by decide) _ rfl) (va_cwS 2 hts gL_law_L_low rfl rfl rfl (by decide +kernel) ⟨Nat.le_of_ble_eq_true rfl, Nat.le_of_ble_eq_true rfl⟩) (kPreS hK kP0) rfl rfl hl.1 rfl (lv_room (Nat.le_of_ble_eq_true rfl)) dL_law_532 ⟨Nat.le_of_ble_eq_true rfl, Nat.le_of_ble_eq_true rfl⟩) ?_
                obtain ⟨o, ho, eo⟩ := low_lt (G >>> (12 &&& 31)) (a := 4) (by decide) (by decide)
                refine W.eq (g2 := F0 m 535 ls [.int (nI o)]) (by rw [show mL_low (G >>> (12 &&& 31)) 4 = nI o from eo]) ?_
                refine lv_if_le (tgt := 717) hx hb dL_law_535 (by decide) (fun c_14 => ?_) (fun c_14 => ?_)
                · exact law_F C0 hI0 hmm hi0 hk ht ht0 (lv_sub hl [2, 3, 5, 6, 7, 8, 9, 10, 11] rfl) kk
                · exact law_E C0 hI0 hmm hi0 hk ht ht0 (lv_sub hl [2, 3, 5, 6, 7, 8, 9, 10, 11] rfl) kk
            · exact law_D C0 hI0 hmm hi0 hk ht ht0 (lv_sub hl [2, 3, 5, 6, 7, 8, 9, 10, 11] rfl) kk
          · exact law_C C0 hI0 hmm hi0 hk ht ht0 (lv_sub hl [2, 3, 5, 6, 7, 8, 9, 10, 11] rfl) kk
  · have hn0 : n = 0 := by rw [nI_eq0 (by omega)] at c_1; exact c_1
    have hn_ : n < 12 := by omega
    refine lv_iconst (v := 0) hx hb dL_law_85 (by decide) ?_
    refine lv_goto (tgt := 100) hx hb dL_law_86 (by decide) ?_
    refine lv_istore (lv' := [(8, .int 0), (7, .int (nI κ)), (6, .int G), (5, .int (nI i0)), (0, .ref b), (1, .ref (ad 80)), (2, .ref (ra 0)), (3, .ref qa), (4, .int (nI ρ))]) hx hb dL_law_100 hl (by decide) rfl (fun ls hl => ?_)
    refine lv_iload hx hb dL_law_102 (lv_at hl 2 rfl) ?_
    refine lv_bipush (v := 8) hx hb dL_law_104 (by decide) ?_
    refine lv_ishr hx hb dL_law_106 ?_
    refine lv_iconst (v := 5) hx hb dL_law_107 (by decide) ?_
    refine kCallRi (va_runS (As := [.int (G >>> (8 &&& 31)), .int 5]) (rest := []) ⟨hx, hb, hml, hown, hts⟩ (c_L_low l E (G >>> (8 &&& 31)) 5 (by decide) _ rfl) (va_cwS 2 hts gL_law_L_low rfl rfl rfl (by decide +kernel) ⟨Nat.le_of_ble_eq_true rfl, Nat.le_of_ble_eq_true rfl⟩) (kPreS hK kP0) rfl rfl hl.1 rfl (lv_room (Nat.le_of_ble_eq_true rfl)) dL_law_108 ⟨Nat.le_of_ble_eq_true rfl, Nat.le_of_ble_eq_true rfl⟩) ?_
    obtain ⟨k, hk, ek⟩ := low_lt (G >>> (8 &&& 31)) (a := 5) (by decide) (by decide)
    refine W.eq (g2 := F0 m 111 ls [.int (nI k)]) (by rw [show mL_low (G >>> (8 &&& 31)) 5 = nI k from ek]) ?_
    refine lv_istore (lv' := [(9, .int (nI k)), (8, .int 0), (7, .int (nI κ)), (6, .int G), (5, .int (nI i0)), (0, .ref b), (1, .ref (ad 80)), (2, .ref (ra 0)), (3, .ref qa), (4, .int (nI ρ))]) hx hb dL_law_111 hl (by decide) rfl (fun ls hl => ?_)
    refine lv_aload_n hx hb dL_law_113 rfl (lv_at hl 7 rfl) ?_
    refine lv_bipush (v := 49) hx hb dL_law_114 (by decide) ?_
    refine va_iald (D := E.1) hx hb hK.1 hR 0 0 rfl rfl (vp_in_nI (n := 49) (by decide) (by decide)) dL_law_116 ?_
    refine W.eq (g2 := F0 m 117 ls [.int (z 49)]) rfl ?_
    refine W.eq (g2 := F0 m 117 ls [.int (nI n)]) (by rw [show z 49 = nI n from hQ.1.2.1]) ?_
    refine lv_if_le (tgt := 134) hx hb dL_law_117 (by decide) (fun _ => ?_) (fun c => absurd (by rw [hn0]; decide) c)
    refine lv_iconst (v := 0) hx hb dL_law_134 (by decide) ?_
    refine lv_istore (lv' := [(10, .int 0), (9, .int (nI k)), (8, .int 0), (7, .int (nI κ)), (6, .int G), (5, .int (nI i0)), (0, .ref b), (1, .ref (ad 80)), (2, .ref (ra 0)), (3, .ref qa), (4, .int (nI ρ))]) hx hb dL_law_135 hl (by decide) rfl (fun ls hl => ?_)
    refine lv_iconst (v := 1) hx hb dL_law_137 (by decide) ?_
    refine lv_istore (lv' := [(11, .int 1), (10, .int 0), (9, .int (nI k)), (8, .int 0), (7, .int (nI κ)), (6, .int G), (5, .int (nI i0)), (0, .ref b), (1, .ref (ad 80)), (2, .ref (ra 0)), (3, .ref qa), (4, .int (nI ρ))]) hx hb dL_law_138 hl (by decide) rfl (fun ls hl => ?_)
    refine lv_aload_n hx hb dL_law_140 rfl (lv_at hl 9 rfl) ?_
    refine lv_bipush (v := 49) hx hb dL_law_141 (by decide) ?_
    refine va_iald (D := E.1) hx hb hK.1 hR 0 0 rfl rfl (vp_in_nI (n := 49) (by decide) (by decide)) dL_law_143 ?_
    refine W.eq (g2 := F0 m 144 ls [.int (z 49)]) rfl ?_
    refine W.eq (g2 := F0 m 144 ls [.int (nI n)]) (by rw [show z 49 = nI n from hQ.1.2.1]) ?_
    refine lv_bipush (v := 12) hx hb dL_law_144 (by decide) ?_
    refine lv_icmp_ge (tgt := 266) hx hb dL_law_146 (by decide) (fun c => absurd c (k12ge hn_)) (fun _ => ?_)
    refine lv_iload hx hb dL_law_149 (lv_at hl 4 rfl) ?_
    refine lv_iconst (v := 2) hx hb dL_law_151 (by decide) ?_
    refine lv_icmp_lt (tgt := 162) hx hb dL_law_152 (by decide) (fun c_15 => ?_) (fun c_15 => ?_)
    · exact law_A C0 hI0 hmm hi0 hk hn_ (lv_sub hl [2, 6, 7, 8, 9, 10, 11] rfl) kk
    · refine lv_aload_n hx hb dL_law_155 rfl (lv_at hl 9 rfl) ?_
      refine lv_bipush (v := 49) hx hb dL_law_156 (by decide) ?_
      refine va_iald (D := E.1) hx hb hK.1 hR 0 0 rfl rfl (vp_in_nI (n := 49) (by decide) (by decide)) dL_law_158 ?_
      refine W.eq (g2 := F0 m 159 ls [.int (z 49)]) rfl ?_
      refine W.eq (g2 := F0 m 159 ls [.int (nI n)]) (by rw [show z 49 = nI n from hQ.1.2.1]) ?_
      refine lv_if_ne (tgt := 266) hx hb dL_law_159 (by decide) (fun c => absurd (by rw [hn0]; rfl) c) (fun _ => ?_)
      exact law_A C0 hI0 hmm hi0 hk hn_ (lv_sub hl [2, 6, 7, 8, 9, 10, 11] rfl) kk
