def mX3_firstFault_L6 (v : kG) (g_1 : (Int32)) : Nat → Nat → Int32 → Int32 → Int32 → Int32 → Int32 → Int32 → (Int32 × Int32 × Int32 × Int32 × Int32 × Int32 × Int32)
  | 0, _, _, _, _, _, _, _ => (0, 0, 0, 0, 0, 0, 0)
  | n6 + 1, i6, q6_0_1, q6_0_2, q6_0_3, q6_0_4, q6_0_5, q6_0_6 =>
    if 80 ≤ (nI i6) then
      (q6_0_5, q6_0_1, q6_0_2, q6_0_3, q6_0_4, q6_0_5, q6_0_6)
    else
      (fun (g_3 : Int32 × Int32 × Int32 × Int32 × Int32 × Int32 × Int32) =>
        if (g_3.1) = 0 then
          ((g_3.2.2.2.2.2.1), (g_3.2.1), (g_3.2.2.1), (g_3.2.2.2.1), (g_3.2.2.2.2.1), (g_3.2.2.2.2.2.1), (g_3.2.2.2.2.2.2))
        else
          if (g_3.2.2.2.2.2.1) = (v 0 0) then
            ((-6), (g_3.2.1), (g_3.2.2.1), (g_3.2.2.2.1), (g_3.2.2.2.2.1), (g_3.2.2.2.2.2.1), (g_3.2.2.2.2.2.2))
          else
            (fun (g_6 : Int32 × Int32) =>
              if (g_6.1) = 0 then
                ((g_6.2), (g_3.2.1), (g_3.2.2.1), (g_3.2.2.2.1), (g_3.2.2.2.2.1), (g_6.2), (g_3.2.2.2.2.2.2))
              else
                mX3_firstFault_L6 v g_1 n6 (i6 + 1) (g_3.2.1) (g_3.2.2.1) (g_3.2.2.2.1) (g_3.2.2.2.2.1) (g_6.2) (g_3.2.2.2.2.2.2))
              (mX3_passSign (rset v 0 (upd (upd (upd (upd (upd (upd (v 0) 1 (g_3.2.1)) 2 (g_3.2.2.1)) 3 (g_3.2.2.2.1)) 4 (g_3.2.2.2.2.1)) 5 (g_3.2.2.2.2.2.1)) 6 (g_3.2.2.2.2.2.2))) 59))
        (mX3_passOrder (rset v 0 (upd (upd (upd (upd (upd (upd (v 0) 1 q6_0_1) 2 q6_0_2) 3 q6_0_3) 4 q6_0_4) 5 q6_0_5) 6 q6_0_6)))
theorem mX3_firstFault_L6_s {v : kG} {g_1 : (Int32)} {n6 : Nat} {i6 : Nat} {q6_0_1 : Int32} {q6_0_2 : Int32} {q6_0_3 : Int32} {q6_0_4 : Int32} {q6_0_5 : Int32} {q6_0_6 : Int32} : mX3_firstFault_L6 v g_1 (n6 + 1) i6 q6_0_1 q6_0_2 q6_0_3 q6_0_4 q6_0_5 q6_0_6 = (
    if 80 ≤ (nI i6) then
      (q6_0_5, q6_0_1, q6_0_2, q6_0_3, q6_0_4, q6_0_5, q6_0_6)
    else
      (fun (g_3 : Int32 × Int32 × Int32 × Int32 × Int32 × Int32 × Int32) =>
        if (g_3.1) = 0 then
          ((g_3.2.2.2.2.2.1), (g_3.2.1), (g_3.2.2.1), (g_3.2.2.2.1), (g_3.2.2.2.2.1), (g_3.2.2.2.2.2.1), (g_3.2.2.2.2.2.2))
        else
          if (g_3.2.2.2.2.2.1) = (v 0 0) then
            ((-6), (g_3.2.1), (g_3.2.2.1), (g_3.2.2.2.1), (g_3.2.2.2.2.1), (g_3.2.2.2.2.2.1), (g_3.2.2.2.2.2.2))
          else
            (fun (g_6 : Int32 × Int32) =>
              if (g_6.1) = 0 then
                ((g_6.2), (g_3.2.1), (g_3.2.2.1), (g_3.2.2.2.1), (g_3.2.2.2.2.1), (g_6.2), (g_3.2.2.2.2.2.2))
              else
                mX3_firstFault_L6 v g_1 n6 (i6 + 1) (g_3.2.1) (g_3.2.2.1) (g_3.2.2.2.1) (g_3.2.2.2.2.1) (g_6.2) (g_3.2.2.2.2.2.2))
              (mX3_passSign (rset v 0 (upd (upd (upd (upd (upd (upd (v 0) 1 (g_3.2.1)) 2 (g_3.2.2.1)) 3 (g_3.2.2.2.1)) 4 (g_3.2.2.2.2.1)) 5 (g_3.2.2.2.2.2.1)) 6 (g_3.2.2.2.2.2.2))) 59))
        (mX3_passOrder (rset v 0 (upd (upd (upd (upd (upd (upd (v 0) 1 q6_0_1) 2 q6_0_2) 3 q6_0_3) 4 q6_0_4) 5 q6_0_5) 6 q6_0_6))) : Int32 × Int32 × Int32 × Int32 × Int32 × Int32 × Int32) := rfl
def mX3_firstFault (v : kG) : Int32 × Int32 × Int32 × Int32 × Int32 × Int32 × Int32 :=
  (fun (g_1 : Int32) =>
    mX3_firstFault_L6 v g_1 81 0 (v 0 1) (v 0 2) (v 0 3) (v 0 4) g_1 (v 0 6))
    (mX3_rewind v)
theorem mX3_firstFault_s {v : kG} : mX3_firstFault v = (
  (fun (g_1 : Int32) =>
    mX3_firstFault_L6 v g_1 81 0 (v 0 1) (v 0 2) (v 0 3) (v 0 4) g_1 (v 0 6))
    (mX3_rewind v) : Int32 × Int32 × Int32 × Int32 × Int32 × Int32 × Int32) := rfl
set_option maxHeartbeats 400000 in
set_option maxRecDepth 100000 in
theorem c_X3_firstFault (l : Launch) (E : kE) (a : Nat → Nat) (v : kG) (hj : kInj a 2) (hp : pLn (v 0 0)) (R : Int32 × Int32 × Int32 × Int32 × Int32 × Int32 × Int32) (hE : R = mX3_firstFault v) : Met l yX3_firstFault wsX3_firstFault ({ frames := 4, cells := 0, slots := 0, locals := 82 }) (kPre E [.ref (a 0)] (wPadx E a (v 0 0) (v 0 1) (v 0 2) (v 0 3) (v 0 4) (v 0 5) (v 0 6) (v 1))) (kWi E R.1 (wPadx E a (v 0 0) R.2.1 R.2.2.1 R.2.2.2.1 R.2.2.2.2.1 R.2.2.2.2.2.1 R.2.2.2.2.2.2 (v 1)) (kA a 2)) 0 0 (kA a 2) := by
  refine Met.ofW (cc := cX3_firstFault) (maxL := 2) (ret := (some .int)) (by decide) rfl ?_
  intro p e s m args below meth c s₁ B hml hv
  obtain ⟨rfl, hK, hP⟩ := hv
  have hx := B.exec
  have hb := B.bytes
  have hr := B.returns
  have hts := atoms_spec (ws := wsX3_firstFault) B.pre
  have hown : s.vm.findClass RX3 = some m.cls := findClass_of_methodNamed B.named
  have hlocks := B.notSynchronized
  have hiX3 : ∀ w ∈ wsX30, w ∈ wsX3_firstFault := by decide +kernel
  have hf21 := hts (.fieldLink RX3 21 "SkewEdges$Pad" "length" "I") (by decide +kernel)
  have hf25 := hts (.fieldLink RX3 25 "SkewEdges$Pad" "at" "I") (by decide +kernel)
  have hS : va_S (kA a 2) s.heap s.heap [] := va_S.rf
  have hP : va_P E.1 vwCl (wPadx E a (v 0 0) (v 0 1) (v 0 2) (v 0 3) (v 0 4) (v 0 5) (v 0 6) (v 1)) s.heap := hP
  have hD := dPad (E := E) hj (v 0 0) (v 0 1) (v 0 2) (v 0 3) (v 0 4) (v 0 5) (v 0 6) (v 1)
  have hl := lv_entry ([.ref (a 0)]) (n := 2) (Nat.le_of_ble_eq_true rfl)
  rw [lg_entry_eq]
  generalize (lg_sl ([.ref (a 0)]) ++ List.replicate (2 - (lg_sl ([.ref (a 0)])).length) Slot.unset).toArray = ls at hl ⊢
  have hl : lv_has ls 2 [(0, .ref (a 0))] := hl
  replace hE := hE.trans mX3_firstFault_s
  refine lv_aload_n hx hb dX3_firstFault_0 rfl (lv_at hl 0 rfl) ?_
  refine kCallWv (va_runV (As := []) (rest := []) ⟨hx, hb, hml, hown, hts⟩ (c_X3_rewind l E a v hj _ rfl) (cwV 0 hts gX3_firstFault_X3_rewind rfl rfl rfl (by decide +kernel) ⟨Nat.le_of_ble_eq_true rfl, Nat.le_of_ble_eq_true rfl⟩) (kPreV hK hP hP (q0 := 0) rfl rfl) rfl rfl hl.1 rfl (lv_room (Nat.le_of_ble_eq_true rfl)) dX3_firstFault_1 ⟨Nat.zero_le _, Nat.zero_le _⟩) hS (fun _ h => h) (fun H locs hP _ _ hS => ?_)
  have hr0 : pOK (v 0 0) (mX3_rewind v) := hp.zero
  refine kGen (mX3_rewind v) (fun g_1 hg_1 => ?_)
  rw [hg_1] at hE hP hr0
  try dsimp only at hE
  have hP : va_P E.1 vwCl (wPadx E a (v 0 0) (v 0 1) (v 0 2) (v 0 3) (v 0 4) g_1 (v 0 6) (v 1)) H := hP
  have hD := dPad (E := E) hj (v 0 0) (v 0 1) (v 0 2) (v 0 3) (v 0 4) g_1 (v 0 6) (v 1)
  refine lv_iconst (v := 0) hx hb dX3_firstFault_4 (by decide) ?_
  refine lv_istore_n (lv' := [(1, .int 0), (0, .ref (a 0))]) hx hb dX3_firstFault_5 rfl hl (by decide) rfl (fun ls hl => ?_)
  have lp6 : ∀ (n6 : Nat) (i6 : Nat) (q6_0_1 : Int32) (q6_0_2 : Int32) (q6_0_3 : Int32) (q6_0_4 : Int32) (q6_0_5 : Int32) (q6_0_6 : Int32) (H : Heap) (locs : List Loc), (80 < i6 + n6) → (i6 ≤ 80) → (pOK (v 0 0) q6_0_5) → va_P E.1 vwCl (wPadx E a (v 0 0) q6_0_1 q6_0_2 q6_0_3 q6_0_4 q6_0_5 q6_0_6 (v 1)) H → va_S (kA a 2) s.heap H locs → ∀ ls : Array Slot, lv_has ls 2 [(1, .int (nI i6)), (0, .ref (a 0))] → R = mX3_firstFault_L6 v g_1 n6 i6 q6_0_1 q6_0_2 q6_0_3 q6_0_4 q6_0_5 q6_0_6 → W p l e ({ frames := 4, cells := 0, slots := 0, locals := 82 }) s m ([.ref (a 0)] : List Value).toArray below meth c H locs 0 0 (MQ below (kWi E R.1 (wPadx E a (v 0 0) R.2.1 R.2.2.1 R.2.2.2.1 R.2.2.2.2.1 R.2.2.2.2.2.1 R.2.2.2.2.2.2 (v 1)) (kA a 2)) ([.ref (a 0)] : List Value).toArray s 0 0 (kA a 2)) (F0 m 6 ls []) := by
    clear hE
    intro n6
    induction n6 with
    | zero =>
      intro i6 q6_0_1 q6_0_2 q6_0_3 q6_0_4 q6_0_5 q6_0_6 H locs hm6 hi6 hpl hP hS ls hl hE
      exact absurd hm6 (by omega)
    | succ n6 ih6 =>
      intro i6 q6_0_1 q6_0_2 q6_0_3 q6_0_4 q6_0_5 q6_0_6 H locs hm6 hi6 hpl hP hS ls hl hE
      have hD := dPad (E := E) hj (v 0 0) q6_0_1 q6_0_2 q6_0_3 q6_0_4 q6_0_5 q6_0_6 (v 1)
      replace hE := hE.trans mX3_firstFault_L6_s
      refine lv_iload_n hx hb dX3_firstFault_6 rfl (lv_at hl 0 rfl) ?_
      refine lv_bipush (v := 80) hx hb dX3_firstFault_7 (by decide) ?_
      refine lv_icmp_ge (tgt := 53) hx hb dX3_firstFault_9 (by decide) (fun c_2 => ?_) (fun c_2 => ?_)
      · replace hE := hE.trans (if_pos c_2)
        refine lv_aload_n hx hb dX3_firstFault_53 rfl (lv_at hl 1 rfl) ?_
        refine va_get (D := E.1) (ci := 2) (v := .int q6_0_5) (C := RX3) (T := TX3) (N := 8) hx hb hts hiX3 hown hK.1 hP 0 rfl rfl 5 (by decide) hf25 (fun _ h9 => h9) rfl dX3_firstFault_54 ?_
        subst R
        exact W.iret (v := q6_0_5) hx hb hr (fun t ht hW => ⟨rfl, by rw [ht]; exact hP, hS.F ht⟩) hS.2.2 dX3_firstFault_57
      · replace hE := hE.trans (if_neg c_2)
        have hbc_2 : i6 < 80 := nI_nle_lt ⟨by omega, by omega⟩ c_2
        refine lv_aload_n hx hb dX3_firstFault_12 rfl (lv_at hl 1 rfl) ?_
        refine kCallWi (va_runV (As := []) (rest := []) ⟨hx, hb, hml, hown, hts⟩ (c_X3_passOrder l E a (rset v 0 (upd (upd (upd (upd (upd (upd (v 0) 1 q6_0_1) 2 q6_0_2) 3 q6_0_3) 4 q6_0_4) 5 q6_0_5) 6 q6_0_6)) hj hpl _ rfl) (cwV 0 hts gX3_firstFault_X3_passOrder rfl rfl rfl (by decide +kernel) ⟨Nat.le_of_ble_eq_true rfl, Nat.le_of_ble_eq_true rfl⟩) (kPreV hK hP hP (q0 := 0) rfl rfl) rfl rfl hl.1 rfl (lv_room (Nat.le_of_ble_eq_true rfl)) dX3_firstFault_13 ⟨Nat.zero_le _, Nat.zero_le _⟩) hS (fun _ h => h) (fun H locs hP _ _ hS => ?_)
        have ho : pOK (v 0 0) (mX3_passOrder (rset v 0 (upd (upd (upd (upd (upd (upd (v 0) 1 q6_0_1) 2 q6_0_2) 3 q6_0_3) 4 q6_0_4) 5 q6_0_5) 6 q6_0_6))).2.2.2.2.2.1 := passOrder_ok (v := (rset v 0 (upd (upd (upd (upd (upd (upd (v 0) 1 q6_0_1) 2 q6_0_2) 3 q6_0_3) 4 q6_0_4) 5 q6_0_5) 6 q6_0_6))) hpl
        refine kGen (mX3_passOrder (rset v 0 (upd (upd (upd (upd (upd (upd (v 0) 1 q6_0_1) 2 q6_0_2) 3 q6_0_3) 4 q6_0_4) 5 q6_0_5) 6 q6_0_6))) (fun g_3 hg_3 => ?_)
        rw [hg_3] at hE hP ho ⊢
        try dsimp only at hE
        have hP : va_P E.1 vwCl (wPadx E a (v 0 0) (g_3.2.1) (g_3.2.2.1) (g_3.2.2.2.1) (g_3.2.2.2.2.1) (g_3.2.2.2.2.2.1) (g_3.2.2.2.2.2.2) (v 1)) H := hP
        have hD := dPad (E := E) hj (v 0 0) (g_3.2.1) (g_3.2.2.1) (g_3.2.2.2.1) (g_3.2.2.2.2.1) (g_3.2.2.2.2.2.1) (g_3.2.2.2.2.2.2) (v 1)
        refine lv_if_eq (tgt := 53) hx hb dX3_firstFault_16 (by decide) (fun c_4 => ?_) (fun c_4 => ?_)
        · replace hE := hE.trans (if_pos c_4)
          refine lv_aload_n hx hb dX3_firstFault_53 rfl (lv_at hl 1 rfl) ?_
          refine va_get (D := E.1) (ci := 2) (v := .int (g_3.2.2.2.2.2.1)) (C := RX3) (T := TX3) (N := 8) hx hb hts hiX3 hown hK.1 hP 0 rfl rfl 5 (by decide) hf25 (fun _ h9 => h9) rfl dX3_firstFault_54 ?_
          subst R
          exact W.iret (v := (g_3.2.2.2.2.2.1)) hx hb hr (fun t ht hW => ⟨rfl, by rw [ht]; exact hP, hS.F ht⟩) hS.2.2 dX3_firstFault_57
        · replace hE := hE.trans (if_neg c_4)
          refine lv_aload_n hx hb dX3_firstFault_19 rfl (lv_at hl 1 rfl) ?_
          refine va_get (D := E.1) (ci := 2) (v := .int (g_3.2.2.2.2.2.1)) (C := RX3) (T := TX3) (N := 8) hx hb hts hiX3 hown hK.1 hP 0 rfl rfl 5 (by decide) hf25 (fun _ h9 => h9) rfl dX3_firstFault_20 ?_
          refine lv_aload_n hx hb dX3_firstFault_23 rfl (lv_at hl 1 rfl) ?_
          refine va_get (D := E.1) (ci := 2) (v := .int (v 0 0)) (C := RX3) (T := TX3) (N := 8) hx hb hts hiX3 hown hK.1 hP 0 rfl rfl 0 (by decide) hf21 (fun _ h9 => h9) rfl dX3_firstFault_24 ?_
          refine lv_icmp_ne (tgt := 33) hx hb dX3_firstFault_27 (by decide) (fun c_5 => ?_) (fun c_5 => ?_)
          · replace hE := hE.trans (if_neg c_5)
            refine lv_aload_n hx hb dX3_firstFault_33 rfl (lv_at hl 1 rfl) ?_
            refine lv_bipush (v := 59) hx hb dX3_firstFault_34 (by decide) ?_
            refine kCallWi (va_runV (As := [.int 59]) (rest := []) ⟨hx, hb, hml, hown, hts⟩ (c_X3_passSign l E a (rset v 0 (upd (upd (upd (upd (upd (upd (v 0) 1 (g_3.2.1)) 2 (g_3.2.2.1)) 3 (g_3.2.2.2.1)) 4 (g_3.2.2.2.2.1)) 5 (g_3.2.2.2.2.2.1)) 6 (g_3.2.2.2.2.2.2))) hj 59 ho _ rfl) (cwV 1 hts gX3_firstFault_X3_passSign rfl rfl rfl (by decide +kernel) ⟨Nat.le_of_ble_eq_true rfl, Nat.le_of_ble_eq_true rfl⟩) (kPreV hK hP hP (q0 := 0) rfl rfl) rfl rfl hl.1 rfl (lv_room (Nat.le_of_ble_eq_true rfl)) dX3_firstFault_36 ⟨Nat.zero_le _, Nat.zero_le _⟩) hS (fun _ h => h) (fun H locs hP _ _ hS => ?_)
            have hs1 : pOK (v 0 0) (mX3_passSign (rset v 0 (upd (upd (upd (upd (upd (upd (v 0) 1 (g_3.2.1)) 2 (g_3.2.2.1)) 3 (g_3.2.2.2.1)) 4 (g_3.2.2.2.2.1)) 5 (g_3.2.2.2.2.2.1)) 6 (g_3.2.2.2.2.2.2))) 59).2 := passSign_ok (v := (rset v 0 (upd (upd (upd (upd (upd (upd (v 0) 1 (g_3.2.1)) 2 (g_3.2.2.1)) 3 (g_3.2.2.2.1)) 4 (g_3.2.2.2.2.1)) 5 (g_3.2.2.2.2.2.1)) 6 (g_3.2.2.2.2.2.2)))) ho
            refine kGen (mX3_passSign (rset v 0 (upd (upd (upd (upd (upd (upd (v 0) 1 (g_3.2.1)) 2 (g_3.2.2.1)) 3 (g_3.2.2.2.1)) 4 (g_3.2.2.2.2.1)) 5 (g_3.2.2.2.2.2.1)) 6 (g_3.2.2.2.2.2.2))) 59) (fun g_6 hg_6 => ?_)
            rw [hg_6] at hE hP hs1 ⊢
            try dsimp only at hE
            have hP : va_P E.1 vwCl (wPadx E a (v 0 0) (g_3.2.1) (g_3.2.2.1) (g_3.2.2.2.1) (g_3.2.2.2.2.1) (g_6.2) (g_3.2.2.2.2.2.2) (v 1)) H := hP
            have hD := dPad (E := E) hj (v 0 0) (g_3.2.1) (g_3.2.2.1) (g_3.2.2.2.1) (g_3.2.2.2.2.1) (g_6.2) (g_3.2.2.2.2.2.2) (v 1)
            refine lv_if_ne (tgt := 47) hx hb dX3_firstFault_39 (by decide) (fun c_7 => ?_) (fun c_7 => ?_)
            · replace hE := hE.trans (if_neg c_7)
              refine lv_iinc (v := (nI (i6 + 1))) (lv' := [(1, .int (nI (i6 + 1))), (0, .ref (a 0))]) hx hb dX3_firstFault_47 hl (k := 0) rfl (nI_1 i6) (by decide) rfl (fun ls hl => ?_)
              refine lv_goto (tgt := 6) hx hb dX3_firstFault_50 (by decide) ?_
              exact ih6 (i6 + 1) (g_3.2.1) (g_3.2.2.1) (g_3.2.2.2.1) (g_3.2.2.2.2.1) (g_6.2) (g_3.2.2.2.2.2.2) _ _ (by omega) (by omega) hs1 hP hS ls (lv_sub hl [0, 1] rfl) hE
            · replace hE := hE.trans (if_pos c_7)
              refine lv_aload_n hx hb dX3_firstFault_42 rfl (lv_at hl 1 rfl) ?_
              refine va_get (D := E.1) (ci := 2) (v := .int (g_6.2)) (C := RX3) (T := TX3) (N := 8) hx hb hts hiX3 hown hK.1 hP 0 rfl rfl 5 (by decide) hf25 (fun _ h9 => h9) rfl dX3_firstFault_43 ?_
              subst R
              exact W.iret (v := (g_6.2)) hx hb hr (fun t ht hW => ⟨rfl, by rw [ht]; exact hP, hS.F ht⟩) hS.2.2 dX3_firstFault_46
          · replace hE := hE.trans (if_pos c_5)
            refine lv_bipush (v := (-6)) hx hb dX3_firstFault_30 (by decide) ?_
            subst R
            exact W.iret (v := (-6)) hx hb hr (fun t ht hW => ⟨rfl, by rw [ht]; exact hP, hS.F ht⟩) hS.2.2 dX3_firstFault_32
  exact lp6 81 0 (v 0 1) (v 0 2) (v 0 3) (v 0 4) g_1 (v 0 6) _ _ (by omega) (by omega) hr0 hP hS ls (lv_sub hl [0, 1] rfl) hE
