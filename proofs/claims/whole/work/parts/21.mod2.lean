def mX6_writerAhead_L6 (u : kG) (x1 : Int32) (x2 : Int32) : Nat → Int32 → Nat → (Int32)
  | 0, _, _ => 0
  | n6 + 1, x6_3, i6 =>
    if ((u 1) 2) ≤ (nI i6) then
      x6_3
    else
      if (mX6_isIn u (nI i6) 1) = 0 then
        mX6_writerAhead_L6 u x1 x2 n6 x6_3 (i6 + 1)
      else
        if (mX6_wrote u (nI i6) x1) = 0 then
          mX6_writerAhead_L6 u x1 x2 n6 x6_3 (i6 + 1)
        else
          if x2 ≤ (mX6_its u (nI i6) 2) then
            mX6_writerAhead_L6 u x1 x2 n6 x6_3 (i6 + 1)
          else
            if x6_3 = (-6) then
              mX6_writerAhead_L6 u x1 x2 n6 (nI i6) (i6 + 1)
            else
              if (mX6_its u (nI i6) 2) ≤ (mX6_its u x6_3 2) then
                mX6_writerAhead_L6 u x1 x2 n6 x6_3 (i6 + 1)
              else
                mX6_writerAhead_L6 u x1 x2 n6 (nI i6) (i6 + 1)
theorem mX6_writerAhead_L6_s {u : kG} {x1 : Int32} {x2 : Int32} {n6 : Nat} {x6_3 : Int32} {i6 : Nat} : mX6_writerAhead_L6 u x1 x2 (n6 + 1) x6_3 i6 = (
    if ((u 1) 2) ≤ (nI i6) then
      x6_3
    else
      if (mX6_isIn u (nI i6) 1) = 0 then
        mX6_writerAhead_L6 u x1 x2 n6 x6_3 (i6 + 1)
      else
        if (mX6_wrote u (nI i6) x1) = 0 then
          mX6_writerAhead_L6 u x1 x2 n6 x6_3 (i6 + 1)
        else
          if x2 ≤ (mX6_its u (nI i6) 2) then
            mX6_writerAhead_L6 u x1 x2 n6 x6_3 (i6 + 1)
          else
            if x6_3 = (-6) then
              mX6_writerAhead_L6 u x1 x2 n6 (nI i6) (i6 + 1)
            else
              if (mX6_its u (nI i6) 2) ≤ (mX6_its u x6_3 2) then
                mX6_writerAhead_L6 u x1 x2 n6 x6_3 (i6 + 1)
              else
                mX6_writerAhead_L6 u x1 x2 n6 (nI i6) (i6 + 1) : Int32) := rfl
def mX6_writerAhead (u : kG) (x1 : Int32) (x2 : Int32) : Int32 :=
  mX6_writerAhead_L6 u x1 x2 13 (-6) 0
theorem mX6_writerAhead_s {u : kG} {x1 : Int32} {x2 : Int32} : mX6_writerAhead u x1 x2 = (
  mX6_writerAhead_L6 u x1 x2 13 (-6) 0 : Int32) := rfl
set_option maxHeartbeats 400000 in
set_option maxRecDepth 100000 in
theorem c_X6_writerAhead (l : Launch) (E : kE) (b : Nat → Nat) (u : kG) (x1 : Int32) (x2 : Int32) (hm : nOK (u 1 2)) (R : Int32) (hE : R = mX6_writerAhead u x1 x2) : Met l yX6_writerAhead wsX6_writerAhead ({ frames := 2, cells := 0, slots := 0, locals := 44 }) (kPre E [.ref (b 0), .int x1, .int x2] (wModx E b (u 0 0) (u 0 1) (u 0 2) (u 0 3) (u 0 4) (u 0 5) (u 0 6) (u 0 7) (u 1) (u 2) (u 3) (u 4) (u 5) (u 6) (u 7) (u 8))) (kRi R) 0 0 (fun _ => False) := by
  refine Met.ofW (cc := cX6_writerAhead) (maxL := 6) (ret := (some .int)) (by decide) rfl ?_
  intro p e s m args below meth c s₁ B hml hv
  obtain ⟨rfl, hK, hP⟩ := hv
  have hx := B.exec
  have hb := B.bytes
  have hr := B.returns
  have hts := atoms_spec (ws := wsX6_writerAhead) B.pre
  have hown : s.vm.findClass RX6 = some m.cls := findClass_of_methodNamed B.named
  have hlocks := B.notSynchronized
  have hiX6 : ∀ w ∈ wsX60, w ∈ wsX6_writerAhead := by decide +kernel
  have hf7 := hts (.fieldLink RX6 7 "SkewEdgesModel" "z" "[I") (by decide +kernel)
  have hP : va_P E.1 vwCl (wModx E b (u 0 0) (u 0 1) (u 0 2) (u 0 3) (u 0 4) (u 0 5) (u 0 6) (u 0 7) (u 1) (u 2) (u 3) (u 4) (u 5) (u 6) (u 7) (u 8)) s.heap := hP
  have hl := lv_entry ([.ref (b 0), .int x1, .int x2]) (n := 6) (Nat.le_of_ble_eq_true rfl)
  rw [lg_entry_eq]
  generalize (lg_sl ([.ref (b 0), .int x1, .int x2]) ++ List.replicate (6 - (lg_sl ([.ref (b 0), .int x1, .int x2])).length) Slot.unset).toArray = ls at hl ⊢
  have hl : lv_has ls 6 [(0, .ref (b 0)), (1, .int x1), (2, .int x2)] := hl
  replace hE := hE.trans mX6_writerAhead_s
  refine lv_bipush (v := (-6)) hx hb dX6_writerAhead_0 (by decide) ?_
  refine lv_istore_n (lv' := [(3, .int (-6)), (0, .ref (b 0)), (1, .int x1), (2, .int x2)]) hx hb dX6_writerAhead_2 rfl hl (by decide) rfl (fun ls hl => ?_)
  refine lv_iconst (v := 0) hx hb dX6_writerAhead_3 (by decide) ?_
  refine lv_istore (lv' := [(4, .int 0), (3, .int (-6)), (0, .ref (b 0)), (1, .int x1), (2, .int x2)]) hx hb dX6_writerAhead_4 hl (by decide) rfl (fun ls hl => ?_)
  have lp6 : ∀ (n6 : Nat) (x6_3 : Int32) (i6 : Nat), (12 < i6 + n6) → (i6 ≤ 12) → (x6_3 = (-6) ∨ tOK x6_3) → ∀ ls : Array Slot, lv_has ls 6 [(4, .int (nI i6)), (3, .int x6_3), (0, .ref (b 0)), (1, .int x1), (2, .int x2)] → R = mX6_writerAhead_L6 u x1 x2 n6 x6_3 i6 → W p l e ({ frames := 2, cells := 0, slots := 0, locals := 44 }) s m ([.ref (b 0), .int x1, .int x2] : List Value).toArray below meth c s.heap [] 0 0 (MQ below (kRi R) ([.ref (b 0), .int x1, .int x2] : List Value).toArray s 0 0 (fun _ => False)) (F0 m 6 ls []) := by
    clear hE
    intro n6
    induction n6 with
    | zero =>
      intro x6_3 i6 hm6 hi6 hb6 ls hl hE
      exact absurd hm6 (by omega)
    | succ n6 ih6 =>
      intro x6_3 i6 hm6 hi6 hb6 ls hl hE
      replace hE := hE.trans mX6_writerAhead_L6_s
      refine lv_iload hx hb dX6_writerAhead_6 (lv_at hl 0 rfl) ?_
      refine lv_aload_n hx hb dX6_writerAhead_8 rfl (lv_at hl 2 rfl) ?_
      refine va_get (D := E.1) (ci := 5) (v := .ref (b 1)) (C := RX6) (T := TX6) (N := 16) hx hb hts hiX6 hown hK.1 hP 0 rfl rfl 0 (by decide) hf7 (fun _ h9 => h9) rfl dX6_writerAhead_9 ?_
      refine lv_iconst (v := 2) hx hb dX6_writerAhead_12 (by decide) ?_
      refine va_iald (D := E.1) hx hb hK.1 hP 1 0 rfl rfl (vp_in_nI (n := 2) (by decide) (by decide)) dX6_writerAhead_13 ?_
      refine W.eq (g2 := F0 m 14 ls [.int ((u 1) 2), .int (nI i6)]) rfl ?_
      refine lv_icmp_ge (tgt := 95) hx hb dX6_writerAhead_14 (by decide) (fun c_1 => ?_) (fun c_1 => ?_)
      · replace hE := hE.trans (if_pos c_1)
        refine lv_iload_n hx hb dX6_writerAhead_95 rfl (lv_at hl 1 rfl) ?_
        subst R
        exact W.iret (v := x6_3) hx hb hr (fun t ht hW => ⟨rfl, ht⟩) (fun _ h => by cases h) dX6_writerAhead_96
      · replace hE := hE.trans (if_neg c_1)
        have hbc_1 : i6 < 12 := nOK.lt (by assumption) (by omega) c_1
        refine lv_aload_n hx hb dX6_writerAhead_17 rfl (lv_at hl 2 rfl) ?_
        refine lv_iload hx hb dX6_writerAhead_18 (lv_at hl 0 rfl) ?_
        refine lv_iconst (v := 1) hx hb dX6_writerAhead_20 (by decide) ?_
        refine kCallRi (va_runV (As := [.int (nI i6), .int 1]) (rest := []) ⟨hx, hb, hml, hown, hts⟩ (c_X6_isIn l E b u (nI i6) 1 (tOK.nI (by omega)) _ rfl) (cwV 2 hts gX6_writerAhead_X6_isIn rfl rfl rfl (by decide +kernel) ⟨Nat.le_of_ble_eq_true rfl, Nat.le_of_ble_eq_true rfl⟩) (kPreV hK hP hP (q0 := 0) rfl rfl) rfl rfl hl.1 rfl (lv_room (Nat.le_of_ble_eq_true rfl)) dX6_writerAhead_21 ⟨Nat.zero_le _, Nat.zero_le _⟩) ?_
        refine lv_if_eq (tgt := 52) hx hb dX6_writerAhead_24 (by decide) (fun c_2 => ?_) (fun c_2 => ?_)
        · replace hE := hE.trans (if_pos c_2)
          refine lv_iconst (v := 0) hx hb dX6_writerAhead_52 (by decide) ?_
          refine lv_istore (lv' := [(5, .int 0), (4, .int (nI i6)), (3, .int x6_3), (0, .ref (b 0)), (1, .int x1), (2, .int x2)]) hx hb dX6_writerAhead_53 hl (by decide) rfl (fun ls hl => ?_)
          refine lv_iload hx hb dX6_writerAhead_55 (lv_at hl 0 rfl) ?_
          refine lv_if_eq (tgt := 87) hx hb dX6_writerAhead_57 (by decide) (fun _ => ?_) (fun c => absurd (by decide) c)
          refine lv_iload_n hx hb dX6_writerAhead_87 rfl (lv_at hl 2 rfl) ?_
          refine lv_istore_n (lv' := [(3, .int x6_3), (5, .int 0), (4, .int (nI i6)), (0, .ref (b 0)), (1, .int x1), (2, .int x2)]) hx hb dX6_writerAhead_88 rfl hl (by decide) rfl (fun ls hl => ?_)
          refine lv_iinc (v := (nI (i6 + 1))) (lv' := [(4, .int (nI (i6 + 1))), (3, .int x6_3), (5, .int 0), (0, .ref (b 0)), (1, .int x1), (2, .int x2)]) hx hb dX6_writerAhead_89 hl (k := 2) rfl (nI_1 i6) (by decide) rfl (fun ls hl => ?_)
          refine lv_goto (tgt := 6) hx hb dX6_writerAhead_92 (by decide) ?_
          exact ih6 x6_3 (i6 + 1) (by omega) (by omega) (by first | assumption | exact Or.inr (tOK.nI (by omega))) ls (lv_sub hl [0, 1, 3, 4, 5] rfl) hE
        · replace hE := hE.trans (if_neg c_2)
          refine lv_aload_n hx hb dX6_writerAhead_27 rfl (lv_at hl 2 rfl) ?_
          refine lv_iload hx hb dX6_writerAhead_28 (lv_at hl 0 rfl) ?_
          refine lv_iload_n hx hb dX6_writerAhead_30 rfl (lv_at hl 3 rfl) ?_
          refine kCallRi (va_runV (As := [.int (nI i6), .int x1]) (rest := []) ⟨hx, hb, hml, hown, hts⟩ (c_X6_wrote l E b u (nI i6) x1 (tOK.nI (by omega)) _ rfl) (cwV 2 hts gX6_writerAhead_X6_wrote rfl rfl rfl (by decide +kernel) ⟨Nat.le_of_ble_eq_true rfl, Nat.le_of_ble_eq_true rfl⟩) (kPreV hK hP hP (q0 := 0) rfl rfl) rfl rfl hl.1 rfl (lv_room (Nat.le_of_ble_eq_true rfl)) dX6_writerAhead_31 ⟨Nat.zero_le _, Nat.zero_le _⟩) ?_
          refine lv_if_eq (tgt := 52) hx hb dX6_writerAhead_34 (by decide) (fun c_3 => ?_) (fun c_3 => ?_)
          · replace hE := hE.trans (if_pos c_3)
            refine lv_iconst (v := 0) hx hb dX6_writerAhead_52 (by decide) ?_
            refine lv_istore (lv' := [(5, .int 0), (4, .int (nI i6)), (3, .int x6_3), (0, .ref (b 0)), (1, .int x1), (2, .int x2)]) hx hb dX6_writerAhead_53 hl (by decide) rfl (fun ls hl => ?_)
            refine lv_iload hx hb dX6_writerAhead_55 (lv_at hl 0 rfl) ?_
            refine lv_if_eq (tgt := 87) hx hb dX6_writerAhead_57 (by decide) (fun _ => ?_) (fun c => absurd (by decide) c)
            refine lv_iload_n hx hb dX6_writerAhead_87 rfl (lv_at hl 2 rfl) ?_
            refine lv_istore_n (lv' := [(3, .int x6_3), (5, .int 0), (4, .int (nI i6)), (0, .ref (b 0)), (1, .int x1), (2, .int x2)]) hx hb dX6_writerAhead_88 rfl hl (by decide) rfl (fun ls hl => ?_)
            refine lv_iinc (v := (nI (i6 + 1))) (lv' := [(4, .int (nI (i6 + 1))), (3, .int x6_3), (5, .int 0), (0, .ref (b 0)), (1, .int x1), (2, .int x2)]) hx hb dX6_writerAhead_89 hl (k := 2) rfl (nI_1 i6) (by decide) rfl (fun ls hl => ?_)
            refine lv_goto (tgt := 6) hx hb dX6_writerAhead_92 (by decide) ?_
            exact ih6 x6_3 (i6 + 1) (by omega) (by omega) (by first | assumption | exact Or.inr (tOK.nI (by omega))) ls (lv_sub hl [0, 1, 3, 4, 5] rfl) hE
          · replace hE := hE.trans (if_neg c_3)
            refine lv_aload_n hx hb dX6_writerAhead_37 rfl (lv_at hl 2 rfl) ?_
            refine lv_iload hx hb dX6_writerAhead_38 (lv_at hl 0 rfl) ?_
            refine lv_iconst (v := 2) hx hb dX6_writerAhead_40 (by decide) ?_
            refine kCallRi (va_runV (As := [.int (nI i6), .int 2]) (rest := []) ⟨hx, hb, hml, hown, hts⟩ (c_X6_its l E b u (nI i6) 2 (tOK.nI (by omega)) ⟨2, by decide, rfl⟩ _ rfl) (cwV 2 hts gX6_writerAhead_X6_its rfl rfl rfl (by decide +kernel) ⟨Nat.le_of_ble_eq_true rfl, Nat.le_of_ble_eq_true rfl⟩) (kPreV hK hP hP (q0 := 0) rfl rfl) rfl rfl hl.1 rfl (lv_room (Nat.le_of_ble_eq_true rfl)) dX6_writerAhead_41 ⟨Nat.zero_le _, Nat.zero_le _⟩) ?_
            refine lv_iload_n hx hb dX6_writerAhead_44 rfl (lv_at hl 4 rfl) ?_
            refine lv_icmp_ge (tgt := 52) hx hb dX6_writerAhead_45 (by decide) (fun c_4 => ?_) (fun c_4 => ?_)
            · replace hE := hE.trans (if_pos c_4)
              refine lv_iconst (v := 0) hx hb dX6_writerAhead_52 (by decide) ?_
              refine lv_istore (lv' := [(5, .int 0), (4, .int (nI i6)), (3, .int x6_3), (0, .ref (b 0)), (1, .int x1), (2, .int x2)]) hx hb dX6_writerAhead_53 hl (by decide) rfl (fun ls hl => ?_)
              refine lv_iload hx hb dX6_writerAhead_55 (lv_at hl 0 rfl) ?_
              refine lv_if_eq (tgt := 87) hx hb dX6_writerAhead_57 (by decide) (fun _ => ?_) (fun c => absurd (by decide) c)
              refine lv_iload_n hx hb dX6_writerAhead_87 rfl (lv_at hl 2 rfl) ?_
              refine lv_istore_n (lv' := [(3, .int x6_3), (5, .int 0), (4, .int (nI i6)), (0, .ref (b 0)), (1, .int x1), (2, .int x2)]) hx hb dX6_writerAhead_88 rfl hl (by decide) rfl (fun ls hl => ?_)
              refine lv_iinc (v := (nI (i6 + 1))) (lv' := [(4, .int (nI (i6 + 1))), (3, .int x6_3), (5, .int 0), (0, .ref (b 0)), (1, .int x1), (2, .int x2)]) hx hb dX6_writerAhead_89 hl (k := 2) rfl (nI_1 i6) (by decide) rfl (fun ls hl => ?_)
              refine lv_goto (tgt := 6) hx hb dX6_writerAhead_92 (by decide) ?_
              exact ih6 x6_3 (i6 + 1) (by omega) (by omega) (by first | assumption | exact Or.inr (tOK.nI (by omega))) ls (lv_sub hl [0, 1, 3, 4, 5] rfl) hE
            · replace hE := hE.trans (if_neg c_4)
              refine lv_iconst (v := 1) hx hb dX6_writerAhead_48 (by decide) ?_
              refine lv_goto (tgt := 53) hx hb dX6_writerAhead_49 (by decide) ?_
              refine lv_istore (lv' := [(5, .int 1), (4, .int (nI i6)), (3, .int x6_3), (0, .ref (b 0)), (1, .int x1), (2, .int x2)]) hx hb dX6_writerAhead_53 hl (by decide) rfl (fun ls hl => ?_)
              refine lv_iload hx hb dX6_writerAhead_55 (lv_at hl 0 rfl) ?_
              refine lv_if_eq (tgt := 87) hx hb dX6_writerAhead_57 (by decide) (fun c => absurd c (by decide)) (fun _ => ?_)
              refine lv_iload_n hx hb dX6_writerAhead_60 rfl (lv_at hl 2 rfl) ?_
              refine lv_bipush (v := (-6)) hx hb dX6_writerAhead_61 (by decide) ?_
              refine lv_icmp_eq (tgt := 82) hx hb dX6_writerAhead_63 (by decide) (fun c_5 => ?_) (fun c_5 => ?_)
              · replace hE := hE.trans (if_pos c_5)
                refine lv_iload hx hb dX6_writerAhead_82 (lv_at hl 1 rfl) ?_
                refine lv_goto (tgt := 88) hx hb dX6_writerAhead_84 (by decide) ?_
                refine lv_istore_n (lv' := [(3, .int (nI i6)), (5, .int 1), (4, .int (nI i6)), (0, .ref (b 0)), (1, .int x1), (2, .int x2)]) hx hb dX6_writerAhead_88 rfl hl (by decide) rfl (fun ls hl => ?_)
                refine lv_iinc (v := (nI (i6 + 1))) (lv' := [(4, .int (nI (i6 + 1))), (3, .int (nI i6)), (5, .int 1), (0, .ref (b 0)), (1, .int x1), (2, .int x2)]) hx hb dX6_writerAhead_89 hl (k := 2) rfl (nI_1 i6) (by decide) rfl (fun ls hl => ?_)
                refine lv_goto (tgt := 6) hx hb dX6_writerAhead_92 (by decide) ?_
                exact ih6 (nI i6) (i6 + 1) (by omega) (by omega) (by first | assumption | exact Or.inr (tOK.nI (by omega))) ls (lv_sub hl [0, 1, 3, 4, 5] rfl) hE
              · replace hE := hE.trans (if_neg c_5)
                refine lv_aload_n hx hb dX6_writerAhead_66 rfl (lv_at hl 3 rfl) ?_
                refine lv_iload hx hb dX6_writerAhead_67 (lv_at hl 1 rfl) ?_
                refine lv_iconst (v := 2) hx hb dX6_writerAhead_69 (by decide) ?_
                refine kCallRi (va_runV (As := [.int (nI i6), .int 2]) (rest := []) ⟨hx, hb, hml, hown, hts⟩ (c_X6_its l E b u (nI i6) 2 (tOK.nI (by omega)) ⟨2, by decide, rfl⟩ _ rfl) (cwV 2 hts gX6_writerAhead_X6_its rfl rfl rfl (by decide +kernel) ⟨Nat.le_of_ble_eq_true rfl, Nat.le_of_ble_eq_true rfl⟩) (kPreV hK hP hP (q0 := 0) rfl rfl) rfl rfl hl.1 rfl (lv_room (Nat.le_of_ble_eq_true rfl)) dX6_writerAhead_70 ⟨Nat.zero_le _, Nat.zero_le _⟩) ?_
                refine lv_aload_n hx hb dX6_writerAhead_73 rfl (lv_at hl 3 rfl) ?_
                refine lv_iload_n hx hb dX6_writerAhead_74 rfl (lv_at hl 2 rfl) ?_
                refine lv_iconst (v := 2) hx hb dX6_writerAhead_75 (by decide) ?_
                refine kCallRi (va_runV (As := [.int x6_3, .int 2]) (rest := [.int (mX6_its u (nI i6) 2)]) ⟨hx, hb, hml, hown, hts⟩ (c_X6_its l E b u x6_3 2 (kor hb6 (by assumption)) ⟨2, by decide, rfl⟩ _ rfl) (cwV 2 hts gX6_writerAhead_X6_its rfl rfl rfl (by decide +kernel) ⟨Nat.le_of_ble_eq_true rfl, Nat.le_of_ble_eq_true rfl⟩) (kPreV hK hP hP (q0 := 0) rfl rfl) rfl rfl hl.1 rfl (lv_room (Nat.le_of_ble_eq_true rfl)) dX6_writerAhead_76 ⟨Nat.zero_le _, Nat.zero_le _⟩) ?_
                refine lv_icmp_le (tgt := 87) hx hb dX6_writerAhead_79 (by decide) (fun c_6 => ?_) (fun c_6 => ?_)
                · replace hE := hE.trans (if_pos c_6)
                  refine lv_iload_n hx hb dX6_writerAhead_87 rfl (lv_at hl 2 rfl) ?_
                  refine lv_istore_n (lv' := [(3, .int x6_3), (5, .int 1), (4, .int (nI i6)), (0, .ref (b 0)), (1, .int x1), (2, .int x2)]) hx hb dX6_writerAhead_88 rfl hl (by decide) rfl (fun ls hl => ?_)
                  refine lv_iinc (v := (nI (i6 + 1))) (lv' := [(4, .int (nI (i6 + 1))), (3, .int x6_3), (5, .int 1), (0, .ref (b 0)), (1, .int x1), (2, .int x2)]) hx hb dX6_writerAhead_89 hl (k := 2) rfl (nI_1 i6) (by decide) rfl (fun ls hl => ?_)
                  refine lv_goto (tgt := 6) hx hb dX6_writerAhead_92 (by decide) ?_
                  exact ih6 x6_3 (i6 + 1) (by omega) (by omega) (by first | assumption | exact Or.inr (tOK.nI (by omega))) ls (lv_sub hl [0, 1, 3, 4, 5] rfl) hE
                · replace hE := hE.trans (if_neg c_6)
                  refine lv_iload hx hb dX6_writerAhead_82 (lv_at hl 1 rfl) ?_
                  refine lv_goto (tgt := 88) hx hb dX6_writerAhead_84 (by decide) ?_
                  refine lv_istore_n (lv' := [(3, .int (nI i6)), (5, .int 1), (4, .int (nI i6)), (0, .ref (b 0)), (1, .int x1), (2, .int x2)]) hx hb dX6_writerAhead_88 rfl hl (by decide) rfl (fun ls hl => ?_)
                  refine lv_iinc (v := (nI (i6 + 1))) (lv' := [(4, .int (nI (i6 + 1))), (3, .int (nI i6)), (5, .int 1), (0, .ref (b 0)), (1, .int x1), (2, .int x2)]) hx hb dX6_writerAhead_89 hl (k := 2) rfl (nI_1 i6) (by decide) rfl (fun ls hl => ?_)
                  refine lv_goto (tgt := 6) hx hb dX6_writerAhead_92 (by decide) ?_
                  exact ih6 (nI i6) (i6 + 1) (by omega) (by omega) (by first | assumption | exact Or.inr (tOK.nI (by omega))) ls (lv_sub hl [0, 1, 3, 4, 5] rfl) hE
  exact lp6 13 (-6) 0 (by omega) (by omega) (Or.inl rfl) ls (lv_sub hl [0, 1, 2, 3, 4] rfl) hE
theorem writerAhead_Lt {u : kG} {k b : Int32} (hm : nOK (u 1 2)) : ∀ (n : Nat) (x : Int32) (i : Nat), i ≤ 12 → 12 < i + n → (x = (-6) ∨ tOK x) → (mX6_writerAhead_L6 u k b n x i = (-6) ∨ tOK (mX6_writerAhead_L6 u k b n x i)) := by
  intro n
  induction n with
  | zero => intro x i h1 h2; omega
  | succ n ih =>
    intro x i h1 h2 hx
    rw [mX6_writerAhead_L6_s]
    by_cases c : (u 1 2) ≤ nI i
    · rw [if_pos c]; exact hx
    · rw [if_neg c]
      have hi := nOK.lt hm h1 c
      have a1 := ih x (i + 1) (by omega) (by omega) hx
      have a2 := ih (nI i) (i + 1) (by omega) (by omega) (Or.inr (tOK.nI hi))
      repeat' split
      all_goals first | exact a1 | exact a2
theorem writerAhead_t {u : kG} (hm : nOK (u 1 2)) (k b : Int32) : mX6_writerAhead u k b = (-6) ∨ tOK (mX6_writerAhead u k b) := writerAhead_Lt hm _ _ _ (by omega) (by omega) (Or.inl rfl)
def mX6_writerBehind_L6 (u : kG) (x1 : Int32) (x2 : Int32) : Nat → Int32 → Nat → (Int32)
  | 0, _, _ => 0
  | n6 + 1, x6_3, i6 =>
    if ((u 1) 2) ≤ (nI i6) then
      x6_3
    else
      if (mX6_isIn u (nI i6) 1) = 0 then
        mX6_writerBehind_L6 u x1 x2 n6 x6_3 (i6 + 1)
      else
        if (mX6_wrote u (nI i6) x1) = 0 then
          mX6_writerBehind_L6 u x1 x2 n6 x6_3 (i6 + 1)
        else
          if (mX6_its u (nI i6) 2) ≤ x2 then
            mX6_writerBehind_L6 u x1 x2 n6 x6_3 (i6 + 1)
          else
            if x6_3 = (-6) then
              mX6_writerBehind_L6 u x1 x2 n6 (nI i6) (i6 + 1)
            else
              if (mX6_its u x6_3 2) ≤ (mX6_its u (nI i6) 2) then
                mX6_writerBehind_L6 u x1 x2 n6 x6_3 (i6 + 1)
              else
                mX6_writerBehind_L6 u x1 x2 n6 (nI i6) (i6 + 1)
theorem mX6_writerBehind_L6_s {u : kG} {x1 : Int32} {x2 : Int32} {n6 : Nat} {x6_3 : Int32} {i6 : Nat} : mX6_writerBehind_L6 u x1 x2 (n6 + 1) x6_3 i6 = (
    if ((u 1) 2) ≤ (nI i6) then
      x6_3
    else
      if (mX6_isIn u (nI i6) 1) = 0 then
        mX6_writerBehind_L6 u x1 x2 n6 x6_3 (i6 + 1)
      else
        if (mX6_wrote u (nI i6) x1) = 0 then
          mX6_writerBehind_L6 u x1 x2 n6 x6_3 (i6 + 1)
        else
          if (mX6_its u (nI i6) 2) ≤ x2 then
            mX6_writerBehind_L6 u x1 x2 n6 x6_3 (i6 + 1)
          else
            if x6_3 = (-6) then
              mX6_writerBehind_L6 u x1 x2 n6 (nI i6) (i6 + 1)
            else
              if (mX6_its u x6_3 2) ≤ (mX6_its u (nI i6) 2) then
                mX6_writerBehind_L6 u x1 x2 n6 x6_3 (i6 + 1)
              else
                mX6_writerBehind_L6 u x1 x2 n6 (nI i6) (i6 + 1) : Int32) := rfl
def mX6_writerBehind (u : kG) (x1 : Int32) (x2 : Int32) : Int32 :=
  mX6_writerBehind_L6 u x1 x2 13 (-6) 0
theorem mX6_writerBehind_s {u : kG} {x1 : Int32} {x2 : Int32} : mX6_writerBehind u x1 x2 = (
  mX6_writerBehind_L6 u x1 x2 13 (-6) 0 : Int32) := rfl
set_option maxHeartbeats 400000 in
set_option maxRecDepth 100000 in
theorem c_X6_writerBehind (l : Launch) (E : kE) (b : Nat → Nat) (u : kG) (x1 : Int32) (x2 : Int32) (hm : nOK (u 1 2)) (R : Int32) (hE : R = mX6_writerBehind u x1 x2) : Met l yX6_writerBehind wsX6_writerBehind ({ frames := 2, cells := 0, slots := 0, locals := 44 }) (kPre E [.ref (b 0), .int x1, .int x2] (wModx E b (u 0 0) (u 0 1) (u 0 2) (u 0 3) (u 0 4) (u 0 5) (u 0 6) (u 0 7) (u 1) (u 2) (u 3) (u 4) (u 5) (u 6) (u 7) (u 8))) (kRi R) 0 0 (fun _ => False) := by
  refine Met.ofW (cc := cX6_writerBehind) (maxL := 6) (ret := (some .int)) (by decide) rfl ?_
  intro p e s m args below meth c s₁ B hml hv
  obtain ⟨rfl, hK, hP⟩ := hv
  have hx := B.exec
  have hb := B.bytes
  have hr := B.returns
  have hts := atoms_spec (ws := wsX6_writerBehind) B.pre
  have hown : s.vm.findClass RX6 = some m.cls := findClass_of_methodNamed B.named
  have hlocks := B.notSynchronized
  have hiX6 : ∀ w ∈ wsX60, w ∈ wsX6_writerBehind := by decide +kernel
  have hf7 := hts (.fieldLink RX6 7 "SkewEdgesModel" "z" "[I") (by decide +kernel)
  have hP : va_P E.1 vwCl (wModx E b (u 0 0) (u 0 1) (u 0 2) (u 0 3) (u 0 4) (u 0 5) (u 0 6) (u 0 7) (u 1) (u 2) (u 3) (u 4) (u 5) (u 6) (u 7) (u 8)) s.heap := hP
  have hl := lv_entry ([.ref (b 0), .int x1, .int x2]) (n := 6) (Nat.le_of_ble_eq_true rfl)
  rw [lg_entry_eq]
  generalize (lg_sl ([.ref (b 0), .int x1, .int x2]) ++ List.replicate (6 - (lg_sl ([.ref (b 0), .int x1, .int x2])).length) Slot.unset).toArray = ls at hl ⊢
  have hl : lv_has ls 6 [(0, .ref (b 0)), (1, .int x1), (2, .int x2)] := hl
  replace hE := hE.trans mX6_writerBehind_s
  refine lv_bipush (v := (-6)) hx hb dX6_writerBehind_0 (by decide) ?_
  refine lv_istore_n (lv' := [(3, .int (-6)), (0, .ref (b 0)), (1, .int x1), (2, .int x2)]) hx hb dX6_writerBehind_2 rfl hl (by decide) rfl (fun ls hl => ?_)
  refine lv_iconst (v := 0) hx hb dX6_writerBehind_3 (by decide) ?_
  refine lv_istore (lv' := [(4, .int 0), (3, .int (-6)), (0, .ref (b 0)), (1, .int x1), (2, .int x2)]) hx hb dX6_writerBehind_4 hl (by decide) rfl (fun ls hl => ?_)
  have lp6 : ∀ (n6 : Nat) (x6_3 : Int32) (i6 : Nat), (12 < i6 + n6) → (i6 ≤ 12) → (x6_3 = (-6) ∨ tOK x6_3) → ∀ ls : Array Slot, lv_has ls 6 [(4, .int (nI i6)), (3, .int x6_3), (0, .ref (b 0)), (1, .int x1), (2, .int x2)] → R = mX6_writerBehind_L6 u x1 x2 n6 x6_3 i6 → W p l e ({ frames := 2, cells := 0, slots := 0, locals := 44 }) s m ([.ref (b 0), .int x1, .int x2] : List Value).toArray below meth c s.heap [] 0 0 (MQ below (kRi R) ([.ref (b 0), .int x1, .int x2] : List Value).toArray s 0 0 (fun _ => False)) (F0 m 6 ls []) := by
    clear hE
    intro n6
    induction n6 with
    | zero =>
      intro x6_3 i6 hm6 hi6 hb6 ls hl hE
      exact absurd hm6 (by omega)
    | succ n6 ih6 =>
      intro x6_3 i6 hm6 hi6 hb6 ls hl hE
      replace hE := hE.trans mX6_writerBehind_L6_s
      refine lv_iload hx hb dX6_writerBehind_6 (lv_at hl 0 rfl) ?_
      refine lv_aload_n hx hb dX6_writerBehind_8 rfl (lv_at hl 2 rfl) ?_
      refine va_get (D := E.1) (ci := 5) (v := .ref (b 1)) (C := RX6) (T := TX6) (N := 16) hx hb hts hiX6 hown hK.1 hP 0 rfl rfl 0 (by decide) hf7 (fun _ h9 => h9) rfl dX6_writerBehind_9 ?_
      refine lv_iconst (v := 2) hx hb dX6_writerBehind_12 (by decide) ?_
      refine va_iald (D := E.1) hx hb hK.1 hP 1 0 rfl rfl (vp_in_nI (n := 2) (by decide) (by decide)) dX6_writerBehind_13 ?_
      refine W.eq (g2 := F0 m 14 ls [.int ((u 1) 2), .int (nI i6)]) rfl ?_
      refine lv_icmp_ge (tgt := 95) hx hb dX6_writerBehind_14 (by decide) (fun c_1 => ?_) (fun c_1 => ?_)
      · replace hE := hE.trans (if_pos c_1)
        refine lv_iload_n hx hb dX6_writerBehind_95 rfl (lv_at hl 1 rfl) ?_
        subst R
        exact W.iret (v := x6_3) hx hb hr (fun t ht hW => ⟨rfl, ht⟩) (fun _ h => by cases h) dX6_writerBehind_96
      · replace hE := hE.trans (if_neg c_1)
        have hbc_1 : i6 < 12 := nOK.lt (by assumption) (by omega) c_1
        refine lv_aload_n hx hb dX6_writerBehind_17 rfl (lv_at hl 2 rfl) ?_
        refine lv_iload hx hb dX6_writerBehind_18 (lv_at hl 0 rfl) ?_
        refine lv_iconst (v := 1) hx hb dX6_writerBehind_20 (by decide) ?_
        refine kCallRi (va_runV (As := [.int (nI i6), .int 1]) (rest := []) ⟨hx, hb, hml, hown, hts⟩ (c_X6_isIn l E b u (nI i6) 1 (tOK.nI (by omega)) _ rfl) (cwV 2 hts gX6_writerBehind_X6_isIn rfl rfl rfl (by decide +kernel) ⟨Nat.le_of_ble_eq_true rfl, Nat.le_of_ble_eq_true rfl⟩) (kPreV hK hP hP (q0 := 0) rfl rfl) rfl rfl hl.1 rfl (lv_room (Nat.le_of_ble_eq_true rfl)) dX6_writerBehind_21 ⟨Nat.zero_le _, Nat.zero_le _⟩) ?_
        refine lv_if_eq (tgt := 52) hx hb dX6_writerBehind_24 (by decide) (fun c_2 => ?_) (fun c_2 => ?_)
        · replace hE := hE.trans (if_pos c_2)
          refine lv_iconst (v := 0) hx hb dX6_writerBehind_52 (by decide) ?_
          refine lv_istore (lv' := [(5, .int 0), (4, .int (nI i6)), (3, .int x6_3), (0, .ref (b 0)), (1, .int x1), (2, .int x2)]) hx hb dX6_writerBehind_53 hl (by decide) rfl (fun ls hl => ?_)
          refine lv_iload hx hb dX6_writerBehind_55 (lv_at hl 0 rfl) ?_
          refine lv_if_eq (tgt := 87) hx hb dX6_writerBehind_57 (by decide) (fun _ => ?_) (fun c => absurd (by decide) c)
          refine lv_iload_n hx hb dX6_writerBehind_87 rfl (lv_at hl 2 rfl) ?_
          refine lv_istore_n (lv' := [(3, .int x6_3), (5, .int 0), (4, .int (nI i6)), (0, .ref (b 0)), (1, .int x1), (2, .int x2)]) hx hb dX6_writerBehind_88 rfl hl (by decide) rfl (fun ls hl => ?_)
          refine lv_iinc (v := (nI (i6 + 1))) (lv' := [(4, .int (nI (i6 + 1))), (3, .int x6_3), (5, .int 0), (0, .ref (b 0)), (1, .int x1), (2, .int x2)]) hx hb dX6_writerBehind_89 hl (k := 2) rfl (nI_1 i6) (by decide) rfl (fun ls hl => ?_)
          refine lv_goto (tgt := 6) hx hb dX6_writerBehind_92 (by decide) ?_
          exact ih6 x6_3 (i6 + 1) (by omega) (by omega) (by first | assumption | exact Or.inr (tOK.nI (by omega))) ls (lv_sub hl [0, 1, 3, 4, 5] rfl) hE
        · replace hE := hE.trans (if_neg c_2)
          refine lv_aload_n hx hb dX6_writerBehind_27 rfl (lv_at hl 2 rfl) ?_
          refine lv_iload hx hb dX6_writerBehind_28 (lv_at hl 0 rfl) ?_
          refine lv_iload_n hx hb dX6_writerBehind_30 rfl (lv_at hl 3 rfl) ?_
          refine kCallRi (va_runV (As := [.int (nI i6), .int x1]) (rest := []) ⟨hx, hb, hml, hown, hts⟩ (c_X6_wrote l E b u (nI i6) x1 (tOK.nI (by omega)) _ rfl) (cwV 2 hts gX6_writerBehind_X6_wrote rfl rfl rfl (by decide +kernel) ⟨Nat.le_of_ble_eq_true rfl, Nat.le_of_ble_eq_true rfl⟩) (kPreV hK hP hP (q0 := 0) rfl rfl) rfl rfl hl.1 rfl (lv_room (Nat.le_of_ble_eq_true rfl)) dX6_writerBehind_31 ⟨Nat.zero_le _, Nat.zero_le _⟩) ?_
          refine lv_if_eq (tgt := 52) hx hb dX6_writerBehind_34 (by decide) (fun c_3 => ?_) (fun c_3 => ?_)
          · replace hE := hE.trans (if_pos c_3)
            refine lv_iconst (v := 0) hx hb dX6_writerBehind_52 (by decide) ?_
            refine lv_istore (lv' := [(5, .int 0), (4, .int (nI i6)), (3, .int x6_3), (0, .ref (b 0)), (1, .int x1), (2, .int x2)]) hx hb dX6_writerBehind_53 hl (by decide) rfl (fun ls hl => ?_)
            refine lv_iload hx hb dX6_writerBehind_55 (lv_at hl 0 rfl) ?_
            refine lv_if_eq (tgt := 87) hx hb dX6_writerBehind_57 (by decide) (fun _ => ?_) (fun c => absurd (by decide) c)
            refine lv_iload_n hx hb dX6_writerBehind_87 rfl (lv_at hl 2 rfl) ?_
            refine lv_istore_n (lv' := [(3, .int x6_3), (5, .int 0), (4, .int (nI i6)), (0, .ref (b 0)), (1, .int x1), (2, .int x2)]) hx hb dX6_writerBehind_88 rfl hl (by decide) rfl (fun ls hl => ?_)
            refine lv_iinc (v := (nI (i6 + 1))) (lv' := [(4, .int (nI (i6 + 1))), (3, .int x6_3), (5, .int 0), (0, .ref (b 0)), (1, .int x1), (2, .int x2)]) hx hb dX6_writerBehind_89 hl (k := 2) rfl (nI_1 i6) (by decide) rfl (fun ls hl => ?_)
            refine lv_goto (tgt := 6) hx hb dX6_writerBehind_92 (by decide) ?_
            exact ih6 x6_3 (i6 + 1) (by omega) (by omega) (by first | assumption | exact Or.inr (tOK.nI (by omega))) ls (lv_sub hl [0, 1, 3, 4, 5] rfl) hE
          · replace hE := hE.trans (if_neg c_3)
            refine lv_aload_n hx hb dX6_writerBehind_37 rfl (lv_at hl 2 rfl) ?_
            refine lv_iload hx hb dX6_writerBehind_38 (lv_at hl 0 rfl) ?_
            refine lv_iconst (v := 2) hx hb dX6_writerBehind_40 (by decide) ?_
            refine kCallRi (va_runV (As := [.int (nI i6), .int 2]) (rest := []) ⟨hx, hb, hml, hown, hts⟩ (c_X6_its l E b u (nI i6) 2 (tOK.nI (by omega)) ⟨2, by decide, rfl⟩ _ rfl) (cwV 2 hts gX6_writerBehind_X6_its rfl rfl rfl (by decide +kernel) ⟨Nat.le_of_ble_eq_true rfl, Nat.le_of_ble_eq_true rfl⟩) (kPreV hK hP hP (q0 := 0) rfl rfl) rfl rfl hl.1 rfl (lv_room (Nat.le_of_ble_eq_true rfl)) dX6_writerBehind_41 ⟨Nat.zero_le _, Nat.zero_le _⟩) ?_
            refine lv_iload_n hx hb dX6_writerBehind_44 rfl (lv_at hl 4 rfl) ?_
            refine lv_icmp_le (tgt := 52) hx hb dX6_writerBehind_45 (by decide) (fun c_4 => ?_) (fun c_4 => ?_)
            · replace hE := hE.trans (if_pos c_4)
              refine lv_iconst (v := 0) hx hb dX6_writerBehind_52 (by decide) ?_
              refine lv_istore (lv' := [(5, .int 0), (4, .int (nI i6)), (3, .int x6_3), (0, .ref (b 0)), (1, .int x1), (2, .int x2)]) hx hb dX6_writerBehind_53 hl (by decide) rfl (fun ls hl => ?_)
              refine lv_iload hx hb dX6_writerBehind_55 (lv_at hl 0 rfl) ?_
              refine lv_if_eq (tgt := 87) hx hb dX6_writerBehind_57 (by decide) (fun _ => ?_) (fun c => absurd (by decide) c)
              refine lv_iload_n hx hb dX6_writerBehind_87 rfl (lv_at hl 2 rfl) ?_
              refine lv_istore_n (lv' := [(3, .int x6_3), (5, .int 0), (4, .int (nI i6)), (0, .ref (b 0)), (1, .int x1), (2, .int x2)]) hx hb dX6_writerBehind_88 rfl hl (by decide) rfl (fun ls hl => ?_)
              refine lv_iinc (v := (nI (i6 + 1))) (lv' := [(4, .int (nI (i6 + 1))), (3, .int x6_3), (5, .int 0), (0, .ref (b 0)), (1, .int x1), (2, .int x2)]) hx hb dX6_writerBehind_89 hl (k := 2) rfl (nI_1 i6) (by decide) rfl (fun ls hl => ?_)
              refine lv_goto (tgt := 6) hx hb dX6_writerBehind_92 (by decide) ?_
              exact ih6 x6_3 (i6 + 1) (by omega) (by omega) (by first | assumption | exact Or.inr (tOK.nI (by omega))) ls (lv_sub hl [0, 1, 3, 4, 5] rfl) hE
            · replace hE := hE.trans (if_neg c_4)
              refine lv_iconst (v := 1) hx hb dX6_writerBehind_48 (by decide) ?_
              refine lv_goto (tgt := 53) hx hb dX6_writerBehind_49 (by decide) ?_
              refine lv_istore (lv' := [(5, .int 1), (4, .int (nI i6)), (3, .int x6_3), (0, .ref (b 0)), (1, .int x1), (2, .int x2)]) hx hb dX6_writerBehind_53 hl (by decide) rfl (fun ls hl => ?_)
              refine lv_iload hx hb dX6_writerBehind_55 (lv_at hl 0 rfl) ?_
              refine lv_if_eq (tgt := 87) hx hb dX6_writerBehind_57 (by decide) (fun c => absurd c (by decide)) (fun _ => ?_)
              refine lv_iload_n hx hb dX6_writerBehind_60 rfl (lv_at hl 2 rfl) ?_
              refine lv_bipush (v := (-6)) hx hb dX6_writerBehind_61 (by decide) ?_
              refine lv_icmp_eq (tgt := 82) hx hb dX6_writerBehind_63 (by decide) (fun c_5 => ?_) (fun c_5 => ?_)
              · replace hE := hE.trans (if_pos c_5)
                refine lv_iload hx hb dX6_writerBehind_82 (lv_at hl 1 rfl) ?_
                refine lv_goto (tgt := 88) hx hb dX6_writerBehind_84 (by decide) ?_
                refine lv_istore_n (lv' := [(3, .int (nI i6)), (5, .int 1), (4, .int (nI i6)), (0, .ref (b 0)), (1, .int x1), (2, .int x2)]) hx hb dX6_writerBehind_88 rfl hl (by decide) rfl (fun ls hl => ?_)
                refine lv_iinc (v := (nI (i6 + 1))) (lv' := [(4, .int (nI (i6 + 1))), (3, .int (nI i6)), (5, .int 1), (0, .ref (b 0)), (1, .int x1), (2, .int x2)]) hx hb dX6_writerBehind_89 hl (k := 2) rfl (nI_1 i6) (by decide) rfl (fun ls hl => ?_)
                refine lv_goto (tgt := 6) hx hb dX6_writerBehind_92 (by decide) ?_
                exact ih6 (nI i6) (i6 + 1) (by omega) (by omega) (by first | assumption | exact Or.inr (tOK.nI (by omega))) ls (lv_sub hl [0, 1, 3, 4, 5] rfl) hE
              · replace hE := hE.trans (if_neg c_5)
                refine lv_aload_n hx hb dX6_writerBehind_66 rfl (lv_at hl 3 rfl) ?_
                refine lv_iload hx hb dX6_writerBehind_67 (lv_at hl 1 rfl) ?_
                refine lv_iconst (v := 2) hx hb dX6_writerBehind_69 (by decide) ?_
                refine kCallRi (va_runV (As := [.int (nI i6), .int 2]) (rest := []) ⟨hx, hb, hml, hown, hts⟩ (c_X6_its l E b u (nI i6) 2 (tOK.nI (by omega)) ⟨2, by decide, rfl⟩ _ rfl) (cwV 2 hts gX6_writerBehind_X6_its rfl rfl rfl (by decide +kernel) ⟨Nat.le_of_ble_eq_true rfl, Nat.le_of_ble_eq_true rfl⟩) (kPreV hK hP hP (q0 := 0) rfl rfl) rfl rfl hl.1 rfl (lv_room (Nat.le_of_ble_eq_true rfl)) dX6_writerBehind_70 ⟨Nat.zero_le _, Nat.zero_le _⟩) ?_
                refine lv_aload_n hx hb dX6_writerBehind_73 rfl (lv_at hl 3 rfl) ?_
                refine lv_iload_n hx hb dX6_writerBehind_74 rfl (lv_at hl 2 rfl) ?_
                refine lv_iconst (v := 2) hx hb dX6_writerBehind_75 (by decide) ?_
                refine kCallRi (va_runV (As := [.int x6_3, .int 2]) (rest := [.int (mX6_its u (nI i6) 2)]) ⟨hx, hb, hml, hown, hts⟩ (c_X6_its l E b u x6_3 2 (kor hb6 (by assumption)) ⟨2, by decide, rfl⟩ _ rfl) (cwV 2 hts gX6_writerBehind_X6_its rfl rfl rfl (by decide +kernel) ⟨Nat.le_of_ble_eq_true rfl, Nat.le_of_ble_eq_true rfl⟩) (kPreV hK hP hP (q0 := 0) rfl rfl) rfl rfl hl.1 rfl (lv_room (Nat.le_of_ble_eq_true rfl)) dX6_writerBehind_76 ⟨Nat.zero_le _, Nat.zero_le _⟩) ?_
                refine lv_icmp_ge (tgt := 87) hx hb dX6_writerBehind_79 (by decide) (fun c_6 => ?_) (fun c_6 => ?_)
                · replace hE := hE.trans (if_pos c_6)
                  refine lv_iload_n hx hb dX6_writerBehind_87 rfl (lv_at hl 2 rfl) ?_
                  refine lv_istore_n (lv' := [(3, .int x6_3), (5, .int 1), (4, .int (nI i6)), (0, .ref (b 0)), (1, .int x1), (2, .int x2)]) hx hb dX6_writerBehind_88 rfl hl (by decide) rfl (fun ls hl => ?_)
                  refine lv_iinc (v := (nI (i6 + 1))) (lv' := [(4, .int (nI (i6 + 1))), (3, .int x6_3), (5, .int 1), (0, .ref (b 0)), (1, .int x1), (2, .int x2)]) hx hb dX6_writerBehind_89 hl (k := 2) rfl (nI_1 i6) (by decide) rfl (fun ls hl => ?_)
                  refine lv_goto (tgt := 6) hx hb dX6_writerBehind_92 (by decide) ?_
                  exact ih6 x6_3 (i6 + 1) (by omega) (by omega) (by first | assumption | exact Or.inr (tOK.nI (by omega))) ls (lv_sub hl [0, 1, 3, 4, 5] rfl) hE
                · replace hE := hE.trans (if_neg c_6)
                  refine lv_iload hx hb dX6_writerBehind_82 (lv_at hl 1 rfl) ?_
                  refine lv_goto (tgt := 88) hx hb dX6_writerBehind_84 (by decide) ?_
                  refine lv_istore_n (lv' := [(3, .int (nI i6)), (5, .int 1), (4, .int (nI i6)), (0, .ref (b 0)), (1, .int x1), (2, .int x2)]) hx hb dX6_writerBehind_88 rfl hl (by decide) rfl (fun ls hl => ?_)
                  refine lv_iinc (v := (nI (i6 + 1))) (lv' := [(4, .int (nI (i6 + 1))), (3, .int (nI i6)), (5, .int 1), (0, .ref (b 0)), (1, .int x1), (2, .int x2)]) hx hb dX6_writerBehind_89 hl (k := 2) rfl (nI_1 i6) (by decide) rfl (fun ls hl => ?_)
                  refine lv_goto (tgt := 6) hx hb dX6_writerBehind_92 (by decide) ?_
                  exact ih6 (nI i6) (i6 + 1) (by omega) (by omega) (by first | assumption | exact Or.inr (tOK.nI (by omega))) ls (lv_sub hl [0, 1, 3, 4, 5] rfl) hE
  exact lp6 13 (-6) 0 (by omega) (by omega) (Or.inl rfl) ls (lv_sub hl [0, 1, 2, 3, 4] rfl) hE
theorem writerBehind_Lt {u : kG} {k b : Int32} (hm : nOK (u 1 2)) : ∀ (n : Nat) (x : Int32) (i : Nat), i ≤ 12 → 12 < i + n → (x = (-6) ∨ tOK x) → (mX6_writerBehind_L6 u k b n x i = (-6) ∨ tOK (mX6_writerBehind_L6 u k b n x i)) := by
  intro n
  induction n with
  | zero => intro x i h1 h2; omega
  | succ n ih =>
    intro x i h1 h2 hx
    rw [mX6_writerBehind_L6_s]
    by_cases c : (u 1 2) ≤ nI i
    · rw [if_pos c]; exact hx
    · rw [if_neg c]
      have hi := nOK.lt hm h1 c
      have a1 := ih x (i + 1) (by omega) (by omega) hx
      have a2 := ih (nI i) (i + 1) (by omega) (by omega) (Or.inr (tOK.nI hi))
      repeat' split
      all_goals first | exact a1 | exact a2
theorem writerBehind_t {u : kG} (hm : nOK (u 1 2)) (k b : Int32) : mX6_writerBehind u k b = (-6) ∨ tOK (mX6_writerBehind u k b) := writerBehind_Lt hm _ _ _ (by omega) (by omega) (Or.inl rfl)
def mX6_isCommittedAhead (u : kG) (x1 : Int32) (x2 : Int32) : Int32 :=
  if (mX6_isIn u x1 1) = 0 then
    0
  else
    if x2 ≤ (mX6_its u x1 2) then
      0
    else
      1
theorem mX6_isCommittedAhead_s {u : kG} {x1 : Int32} {x2 : Int32} : mX6_isCommittedAhead u x1 x2 = (
  if (mX6_isIn u x1 1) = 0 then
    0
  else
    if x2 ≤ (mX6_its u x1 2) then
      0
    else
      1 : Int32) := rfl
set_option maxHeartbeats 400000 in
set_option maxRecDepth 100000 in
theorem c_X6_isCommittedAhead (l : Launch) (E : kE) (b : Nat → Nat) (u : kG) (x1 : Int32) (x2 : Int32) (ht : tOK x1) (R : Int32) (hE : R = mX6_isCommittedAhead u x1 x2) : Met l yX6_isCommittedAhead wsX6_isCommittedAhead ({ frames := 2, cells := 0, slots := 0, locals := 44 }) (kPre E [.ref (b 0), .int x1, .int x2] (wModx E b (u 0 0) (u 0 1) (u 0 2) (u 0 3) (u 0 4) (u 0 5) (u 0 6) (u 0 7) (u 1) (u 2) (u 3) (u 4) (u 5) (u 6) (u 7) (u 8))) (kRi R) 0 0 (fun _ => False) := by
  refine Met.ofW (cc := cX6_isCommittedAhead) (maxL := 3) (ret := (some .boolean)) (by decide) rfl ?_
  intro p e s m args below meth c s₁ B hml hv
  obtain ⟨rfl, hK, hP⟩ := hv
  have hx := B.exec
  have hb := B.bytes
  have hr := B.returns
  have hts := atoms_spec (ws := wsX6_isCommittedAhead) B.pre
  have hown : s.vm.findClass RX6 = some m.cls := findClass_of_methodNamed B.named
  have hlocks := B.notSynchronized
  have hP : va_P E.1 vwCl (wModx E b (u 0 0) (u 0 1) (u 0 2) (u 0 3) (u 0 4) (u 0 5) (u 0 6) (u 0 7) (u 1) (u 2) (u 3) (u 4) (u 5) (u 6) (u 7) (u 8)) s.heap := hP
  have hl := lv_entry ([.ref (b 0), .int x1, .int x2]) (n := 3) (Nat.le_of_ble_eq_true rfl)
  rw [lg_entry_eq]
  generalize (lg_sl ([.ref (b 0), .int x1, .int x2]) ++ List.replicate (3 - (lg_sl ([.ref (b 0), .int x1, .int x2])).length) Slot.unset).toArray = ls at hl ⊢
  have hl : lv_has ls 3 [(0, .ref (b 0)), (1, .int x1), (2, .int x2)] := hl
  replace hE := hE.trans mX6_isCommittedAhead_s
  refine lv_aload_n hx hb dX6_isCommittedAhead_0 rfl (lv_at hl 0 rfl) ?_
  refine lv_iload_n hx hb dX6_isCommittedAhead_1 rfl (lv_at hl 1 rfl) ?_
  refine lv_iconst (v := 1) hx hb dX6_isCommittedAhead_2 (by decide) ?_
  refine kCallRi (va_runV (As := [.int x1, .int 1]) (rest := []) ⟨hx, hb, hml, hown, hts⟩ (c_X6_isIn l E b u x1 1 (by assumption) _ rfl) (cwV 2 hts gX6_isCommittedAhead_X6_isIn rfl rfl rfl (by decide +kernel) ⟨Nat.le_of_ble_eq_true rfl, Nat.le_of_ble_eq_true rfl⟩) (kPreV hK hP hP (q0 := 0) rfl rfl) rfl rfl hl.1 rfl (lv_room (Nat.le_of_ble_eq_true rfl)) dX6_isCommittedAhead_3 ⟨Nat.zero_le _, Nat.zero_le _⟩) ?_
  refine lv_if_eq (tgt := 23) hx hb dX6_isCommittedAhead_6 (by decide) (fun c_1 => ?_) (fun c_1 => ?_)
  · replace hE := hE.trans (if_pos c_1)
    refine lv_iconst (v := 0) hx hb dX6_isCommittedAhead_23 (by decide) ?_
    subst R
    exact W.zret (v := 0) (ty := .boolean) hx hb hr rfl (fun t ht hW => ⟨rfl, ht⟩) (fun _ h => by cases h) dX6_isCommittedAhead_24
  · replace hE := hE.trans (if_neg c_1)
    refine lv_aload_n hx hb dX6_isCommittedAhead_9 rfl (lv_at hl 0 rfl) ?_
    refine lv_iload_n hx hb dX6_isCommittedAhead_10 rfl (lv_at hl 1 rfl) ?_
    refine lv_iconst (v := 2) hx hb dX6_isCommittedAhead_11 (by decide) ?_
    refine kCallRi (va_runV (As := [.int x1, .int 2]) (rest := []) ⟨hx, hb, hml, hown, hts⟩ (c_X6_its l E b u x1 2 (by assumption) ⟨2, by decide, rfl⟩ _ rfl) (cwV 2 hts gX6_isCommittedAhead_X6_its rfl rfl rfl (by decide +kernel) ⟨Nat.le_of_ble_eq_true rfl, Nat.le_of_ble_eq_true rfl⟩) (kPreV hK hP hP (q0 := 0) rfl rfl) rfl rfl hl.1 rfl (lv_room (Nat.le_of_ble_eq_true rfl)) dX6_isCommittedAhead_12 ⟨Nat.zero_le _, Nat.zero_le _⟩) ?_
    refine lv_iload_n hx hb dX6_isCommittedAhead_15 rfl (lv_at hl 2 rfl) ?_
    refine lv_icmp_ge (tgt := 23) hx hb dX6_isCommittedAhead_16 (by decide) (fun c_2 => ?_) (fun c_2 => ?_)
    · replace hE := hE.trans (if_pos c_2)
      refine lv_iconst (v := 0) hx hb dX6_isCommittedAhead_23 (by decide) ?_
      subst R
      exact W.zret (v := 0) (ty := .boolean) hx hb hr rfl (fun t ht hW => ⟨rfl, ht⟩) (fun _ h => by cases h) dX6_isCommittedAhead_24
    · replace hE := hE.trans (if_neg c_2)
      refine lv_iconst (v := 1) hx hb dX6_isCommittedAhead_19 (by decide) ?_
      refine lv_goto (tgt := 24) hx hb dX6_isCommittedAhead_20 (by decide) ?_
      subst R
      exact W.zret (v := 1) (ty := .boolean) hx hb hr rfl (fun t ht hW => ⟨rfl, ht⟩) (fun _ h => by cases h) dX6_isCommittedAhead_24
def mX6_overlap (u : kG) (x1 : Int32) (x2 : Int32) : Int32 :=
  if (mX6_isIn u x1 2) = 0 then
    if (mX6_isIn u x2 2) = 0 then
      if (mX6_isCommittedAhead u x1 (mX6_its u x2 1)) = 0 then
        if (mX6_isCommittedAhead u x2 (mX6_its u x1 1)) = 0 then
          1
        else
          0
      else
        0
    else
      0
  else
    0
theorem mX6_overlap_s {u : kG} {x1 : Int32} {x2 : Int32} : mX6_overlap u x1 x2 = (
  if (mX6_isIn u x1 2) = 0 then
    if (mX6_isIn u x2 2) = 0 then
      if (mX6_isCommittedAhead u x1 (mX6_its u x2 1)) = 0 then
        if (mX6_isCommittedAhead u x2 (mX6_its u x1 1)) = 0 then
          1
        else
          0
      else
        0
    else
      0
  else
    0 : Int32) := rfl
set_option maxHeartbeats 400000 in
set_option maxRecDepth 100000 in
theorem c_X6_overlap (l : Launch) (E : kE) (b : Nat → Nat) (u : kG) (x1 : Int32) (x2 : Int32) (ht : tOK x1) (ht2 : tOK x2) (R : Int32) (hE : R = mX6_overlap u x1 x2) : Met l yX6_overlap wsX6_overlap ({ frames := 3, cells := 0, slots := 0, locals := 66 }) (kPre E [.ref (b 0), .int x1, .int x2] (wModx E b (u 0 0) (u 0 1) (u 0 2) (u 0 3) (u 0 4) (u 0 5) (u 0 6) (u 0 7) (u 1) (u 2) (u 3) (u 4) (u 5) (u 6) (u 7) (u 8))) (kRi R) 0 0 (fun _ => False) := by
  refine Met.ofW (cc := cX6_overlap) (maxL := 4) (ret := (some .boolean)) (by decide) rfl ?_
  intro p e s m args below meth c s₁ B hml hv
  obtain ⟨rfl, hK, hP⟩ := hv
  have hx := B.exec
  have hb := B.bytes
  have hr := B.returns
  have hts := atoms_spec (ws := wsX6_overlap) B.pre
  have hown : s.vm.findClass RX6 = some m.cls := findClass_of_methodNamed B.named
  have hlocks := B.notSynchronized
  have hP : va_P E.1 vwCl (wModx E b (u 0 0) (u 0 1) (u 0 2) (u 0 3) (u 0 4) (u 0 5) (u 0 6) (u 0 7) (u 1) (u 2) (u 3) (u 4) (u 5) (u 6) (u 7) (u 8)) s.heap := hP
  have hl := lv_entry ([.ref (b 0), .int x1, .int x2]) (n := 4) (Nat.le_of_ble_eq_true rfl)
  rw [lg_entry_eq]
  generalize (lg_sl ([.ref (b 0), .int x1, .int x2]) ++ List.replicate (4 - (lg_sl ([.ref (b 0), .int x1, .int x2])).length) Slot.unset).toArray = ls at hl ⊢
  have hl : lv_has ls 4 [(0, .ref (b 0)), (1, .int x1), (2, .int x2)] := hl
  replace hE := hE.trans mX6_overlap_s
  refine lv_aload_n hx hb dX6_overlap_0 rfl (lv_at hl 0 rfl) ?_
  refine lv_iload_n hx hb dX6_overlap_1 rfl (lv_at hl 1 rfl) ?_
  refine lv_iconst (v := 2) hx hb dX6_overlap_2 (by decide) ?_
  refine kCallRi (va_runV (As := [.int x1, .int 2]) (rest := []) ⟨hx, hb, hml, hown, hts⟩ (c_X6_isIn l E b u x1 2 (by assumption) _ rfl) (cwV 2 hts gX6_overlap_X6_isIn rfl rfl rfl (by decide +kernel) ⟨Nat.le_of_ble_eq_true rfl, Nat.le_of_ble_eq_true rfl⟩) (kPreV hK hP hP (q0 := 0) rfl rfl) rfl rfl hl.1 rfl (lv_room (Nat.le_of_ble_eq_true rfl)) dX6_overlap_3 ⟨Nat.zero_le _, Nat.zero_le _⟩) ?_
  refine lv_if_ne (tgt := 18) hx hb dX6_overlap_6 (by decide) (fun c_1 => ?_) (fun c_1 => ?_)
  · replace hE := hE.trans (if_neg c_1)
    refine lv_iconst (v := 1) hx hb dX6_overlap_18 (by decide) ?_
    refine lv_goto (tgt := 23) hx hb dX6_overlap_19 (by decide) ?_
    refine lv_istore_n (lv' := [(3, .int 1), (0, .ref (b 0)), (1, .int x1), (2, .int x2)]) hx hb dX6_overlap_23 rfl hl (by decide) rfl (fun ls hl => ?_)
    refine lv_iload_n hx hb dX6_overlap_24 rfl (lv_at hl 0 rfl) ?_
    refine lv_if_ne (tgt := 60) hx hb dX6_overlap_25 (by decide) (fun _ => ?_) (fun c => absurd c (by decide))
    refine lv_iconst (v := 0) hx hb dX6_overlap_60 (by decide) ?_
    subst R
    exact W.zret (v := 0) (ty := .boolean) hx hb hr rfl (fun t ht hW => ⟨rfl, ht⟩) (fun _ h => by cases h) dX6_overlap_61
  · replace hE := hE.trans (if_pos c_1)
    refine lv_aload_n hx hb dX6_overlap_9 rfl (lv_at hl 0 rfl) ?_
    refine lv_iload_n hx hb dX6_overlap_10 rfl (lv_at hl 2 rfl) ?_
    refine lv_iconst (v := 2) hx hb dX6_overlap_11 (by decide) ?_
    refine kCallRi (va_runV (As := [.int x2, .int 2]) (rest := []) ⟨hx, hb, hml, hown, hts⟩ (c_X6_isIn l E b u x2 2 (by assumption) _ rfl) (cwV 2 hts gX6_overlap_X6_isIn rfl rfl rfl (by decide +kernel) ⟨Nat.le_of_ble_eq_true rfl, Nat.le_of_ble_eq_true rfl⟩) (kPreV hK hP hP (q0 := 0) rfl rfl) rfl rfl hl.1 rfl (lv_room (Nat.le_of_ble_eq_true rfl)) dX6_overlap_12 ⟨Nat.zero_le _, Nat.zero_le _⟩) ?_
    refine lv_if_eq (tgt := 22) hx hb dX6_overlap_15 (by decide) (fun c_2 => ?_) (fun c_2 => ?_)
    · replace hE := hE.trans (if_pos c_2)
      refine lv_iconst (v := 0) hx hb dX6_overlap_22 (by decide) ?_
      refine lv_istore_n (lv' := [(3, .int 0), (0, .ref (b 0)), (1, .int x1), (2, .int x2)]) hx hb dX6_overlap_23 rfl hl (by decide) rfl (fun ls hl => ?_)
      refine lv_iload_n hx hb dX6_overlap_24 rfl (lv_at hl 0 rfl) ?_
      refine lv_if_ne (tgt := 60) hx hb dX6_overlap_25 (by decide) (fun c => absurd rfl c) (fun _ => ?_)
      refine lv_aload_n hx hb dX6_overlap_28 rfl (lv_at hl 1 rfl) ?_
      refine lv_iload_n hx hb dX6_overlap_29 rfl (lv_at hl 2 rfl) ?_
      refine lv_aload_n hx hb dX6_overlap_30 rfl (lv_at hl 1 rfl) ?_
      refine lv_iload_n hx hb dX6_overlap_31 rfl (lv_at hl 3 rfl) ?_
      refine lv_iconst (v := 1) hx hb dX6_overlap_32 (by decide) ?_
      refine kCallRi (va_runV (As := [.int x2, .int 1]) (rest := [.int x1, .ref (b 0)]) ⟨hx, hb, hml, hown, hts⟩ (c_X6_its l E b u x2 1 (by assumption) ⟨1, by decide, rfl⟩ _ rfl) (cwV 2 hts gX6_overlap_X6_its rfl rfl rfl (by decide +kernel) ⟨Nat.le_of_ble_eq_true rfl, Nat.le_of_ble_eq_true rfl⟩) (kPreV hK hP hP (q0 := 0) rfl rfl) rfl rfl hl.1 rfl (lv_room (Nat.le_of_ble_eq_true rfl)) dX6_overlap_33 ⟨Nat.zero_le _, Nat.zero_le _⟩) ?_
      refine kCallRi (va_runV (As := [.int x1, .int (mX6_its u x2 1)]) (rest := []) ⟨hx, hb, hml, hown, hts⟩ (c_X6_isCommittedAhead l E b u x1 (mX6_its u x2 1) (by assumption) _ rfl) (cwV 2 hts gX6_overlap_X6_isCommittedAhead rfl rfl rfl (by decide +kernel) ⟨Nat.le_of_ble_eq_true rfl, Nat.le_of_ble_eq_true rfl⟩) (kPreV hK hP hP (q0 := 0) rfl rfl) rfl rfl hl.1 rfl (lv_room (Nat.le_of_ble_eq_true rfl)) dX6_overlap_36 ⟨Nat.zero_le _, Nat.zero_le _⟩) ?_
      refine lv_if_ne (tgt := 60) hx hb dX6_overlap_39 (by decide) (fun c_3 => ?_) (fun c_3 => ?_)
      · replace hE := hE.trans (if_neg c_3)
        refine lv_iconst (v := 0) hx hb dX6_overlap_60 (by decide) ?_
        subst R
        exact W.zret (v := 0) (ty := .boolean) hx hb hr rfl (fun t ht hW => ⟨rfl, ht⟩) (fun _ h => by cases h) dX6_overlap_61
      · replace hE := hE.trans (if_pos c_3)
        refine lv_aload_n hx hb dX6_overlap_42 rfl (lv_at hl 1 rfl) ?_
        refine lv_iload_n hx hb dX6_overlap_43 rfl (lv_at hl 3 rfl) ?_
        refine lv_aload_n hx hb dX6_overlap_44 rfl (lv_at hl 1 rfl) ?_
        refine lv_iload_n hx hb dX6_overlap_45 rfl (lv_at hl 2 rfl) ?_
        refine lv_iconst (v := 1) hx hb dX6_overlap_46 (by decide) ?_
        refine kCallRi (va_runV (As := [.int x1, .int 1]) (rest := [.int x2, .ref (b 0)]) ⟨hx, hb, hml, hown, hts⟩ (c_X6_its l E b u x1 1 (by assumption) ⟨1, by decide, rfl⟩ _ rfl) (cwV 2 hts gX6_overlap_X6_its rfl rfl rfl (by decide +kernel) ⟨Nat.le_of_ble_eq_true rfl, Nat.le_of_ble_eq_true rfl⟩) (kPreV hK hP hP (q0 := 0) rfl rfl) rfl rfl hl.1 rfl (lv_room (Nat.le_of_ble_eq_true rfl)) dX6_overlap_47 ⟨Nat.zero_le _, Nat.zero_le _⟩) ?_
        refine kCallRi (va_runV (As := [.int x2, .int (mX6_its u x1 1)]) (rest := []) ⟨hx, hb, hml, hown, hts⟩ (c_X6_isCommittedAhead l E b u x2 (mX6_its u x1 1) (by assumption) _ rfl) (cwV 2 hts gX6_overlap_X6_isCommittedAhead rfl rfl rfl (by decide +kernel) ⟨Nat.le_of_ble_eq_true rfl, Nat.le_of_ble_eq_true rfl⟩) (kPreV hK hP hP (q0 := 0) rfl rfl) rfl rfl hl.1 rfl (lv_room (Nat.le_of_ble_eq_true rfl)) dX6_overlap_50 ⟨Nat.zero_le _, Nat.zero_le _⟩) ?_
        refine lv_if_ne (tgt := 60) hx hb dX6_overlap_53 (by decide) (fun c_4 => ?_) (fun c_4 => ?_)
        · replace hE := hE.trans (if_neg c_4)
          refine lv_iconst (v := 0) hx hb dX6_overlap_60 (by decide) ?_
          subst R
          exact W.zret (v := 0) (ty := .boolean) hx hb hr rfl (fun t ht hW => ⟨rfl, ht⟩) (fun _ h => by cases h) dX6_overlap_61
        · replace hE := hE.trans (if_pos c_4)
          refine lv_iconst (v := 1) hx hb dX6_overlap_56 (by decide) ?_
          refine lv_goto (tgt := 61) hx hb dX6_overlap_57 (by decide) ?_
          subst R
          exact W.zret (v := 1) (ty := .boolean) hx hb hr rfl (fun t ht hW => ⟨rfl, ht⟩) (fun _ h => by cases h) dX6_overlap_61
    · replace hE := hE.trans (if_neg c_2)
      refine lv_iconst (v := 1) hx hb dX6_overlap_18 (by decide) ?_
      refine lv_goto (tgt := 23) hx hb dX6_overlap_19 (by decide) ?_
      refine lv_istore_n (lv' := [(3, .int 1), (0, .ref (b 0)), (1, .int x1), (2, .int x2)]) hx hb dX6_overlap_23 rfl hl (by decide) rfl (fun ls hl => ?_)
      refine lv_iload_n hx hb dX6_overlap_24 rfl (lv_at hl 0 rfl) ?_
      refine lv_if_ne (tgt := 60) hx hb dX6_overlap_25 (by decide) (fun _ => ?_) (fun c => absurd c (by decide))
      refine lv_iconst (v := 0) hx hb dX6_overlap_60 (by decide) ?_
      subst R
      exact W.zret (v := 0) (ty := .boolean) hx hb hr rfl (fun t ht hW => ⟨rfl, ht⟩) (fun _ h => by cases h) dX6_overlap_61
def mX6_isEdge (u : kG) (x1 : Int32) (x2 : Int32) : Int32 :=
  if x1 = x2 then
    0
  else
    if ((mX6_its u x1 3) &&& (mX6_its u x2 4)) = 0 then
      0
    else
      if (mX6_overlap u x1 x2) = 0 then
        0
      else
        1
theorem mX6_isEdge_s {u : kG} {x1 : Int32} {x2 : Int32} : mX6_isEdge u x1 x2 = (
  if x1 = x2 then
    0
  else
    if ((mX6_its u x1 3) &&& (mX6_its u x2 4)) = 0 then
      0
    else
      if (mX6_overlap u x1 x2) = 0 then
        0
      else
        1 : Int32) := rfl
set_option maxHeartbeats 400000 in
set_option maxRecDepth 100000 in
theorem c_X6_isEdge (l : Launch) (E : kE) (b : Nat → Nat) (u : kG) (x1 : Int32) (x2 : Int32) (ht : tOK x1) (ht2 : tOK x2) (R : Int32) (hE : R = mX6_isEdge u x1 x2) : Met l yX6_isEdge wsX6_isEdge ({ frames := 4, cells := 0, slots := 0, locals := 89 }) (kPre E [.ref (b 0), .int x1, .int x2] (wModx E b (u 0 0) (u 0 1) (u 0 2) (u 0 3) (u 0 4) (u 0 5) (u 0 6) (u 0 7) (u 1) (u 2) (u 3) (u 4) (u 5) (u 6) (u 7) (u 8))) (kRi R) 0 0 (fun _ => False) := by
  refine Met.ofW (cc := cX6_isEdge) (maxL := 3) (ret := (some .boolean)) (by decide) rfl ?_
  intro p e s m args below meth c s₁ B hml hv
  obtain ⟨rfl, hK, hP⟩ := hv
  have hx := B.exec
  have hb := B.bytes
  have hr := B.returns
  have hts := atoms_spec (ws := wsX6_isEdge) B.pre
  have hown : s.vm.findClass RX6 = some m.cls := findClass_of_methodNamed B.named
  have hlocks := B.notSynchronized
  have hP : va_P E.1 vwCl (wModx E b (u 0 0) (u 0 1) (u 0 2) (u 0 3) (u 0 4) (u 0 5) (u 0 6) (u 0 7) (u 1) (u 2) (u 3) (u 4) (u 5) (u 6) (u 7) (u 8)) s.heap := hP
  have hl := lv_entry ([.ref (b 0), .int x1, .int x2]) (n := 3) (Nat.le_of_ble_eq_true rfl)
  rw [lg_entry_eq]
  generalize (lg_sl ([.ref (b 0), .int x1, .int x2]) ++ List.replicate (3 - (lg_sl ([.ref (b 0), .int x1, .int x2])).length) Slot.unset).toArray = ls at hl ⊢
  have hl : lv_has ls 3 [(0, .ref (b 0)), (1, .int x1), (2, .int x2)] := hl
  replace hE := hE.trans mX6_isEdge_s
  refine lv_iload_n hx hb dX6_isEdge_0 rfl (lv_at hl 1 rfl) ?_
  refine lv_iload_n hx hb dX6_isEdge_1 rfl (lv_at hl 2 rfl) ?_
  refine lv_icmp_eq (tgt := 34) hx hb dX6_isEdge_2 (by decide) (fun c_1 => ?_) (fun c_1 => ?_)
  · replace hE := hE.trans (if_pos c_1)
    refine lv_iconst (v := 0) hx hb dX6_isEdge_34 (by decide) ?_
    subst R
    exact W.zret (v := 0) (ty := .boolean) hx hb hr rfl (fun t ht hW => ⟨rfl, ht⟩) (fun _ h => by cases h) dX6_isEdge_35
  · replace hE := hE.trans (if_neg c_1)
    refine lv_aload_n hx hb dX6_isEdge_5 rfl (lv_at hl 0 rfl) ?_
    refine lv_iload_n hx hb dX6_isEdge_6 rfl (lv_at hl 1 rfl) ?_
    refine lv_iconst (v := 3) hx hb dX6_isEdge_7 (by decide) ?_
    refine kCallRi (va_runV (As := [.int x1, .int 3]) (rest := []) ⟨hx, hb, hml, hown, hts⟩ (c_X6_its l E b u x1 3 (by assumption) ⟨3, by decide, rfl⟩ _ rfl) (cwV 2 hts gX6_isEdge_X6_its rfl rfl rfl (by decide +kernel) ⟨Nat.le_of_ble_eq_true rfl, Nat.le_of_ble_eq_true rfl⟩) (kPreV hK hP hP (q0 := 0) rfl rfl) rfl rfl hl.1 rfl (lv_room (Nat.le_of_ble_eq_true rfl)) dX6_isEdge_8 ⟨Nat.zero_le _, Nat.zero_le _⟩) ?_
    refine lv_aload_n hx hb dX6_isEdge_11 rfl (lv_at hl 0 rfl) ?_
    refine lv_iload_n hx hb dX6_isEdge_12 rfl (lv_at hl 2 rfl) ?_
    refine lv_iconst (v := 4) hx hb dX6_isEdge_13 (by decide) ?_
    refine kCallRi (va_runV (As := [.int x2, .int 4]) (rest := [.int (mX6_its u x1 3)]) ⟨hx, hb, hml, hown, hts⟩ (c_X6_its l E b u x2 4 (by assumption) ⟨4, by decide, rfl⟩ _ rfl) (cwV 2 hts gX6_isEdge_X6_its rfl rfl rfl (by decide +kernel) ⟨Nat.le_of_ble_eq_true rfl, Nat.le_of_ble_eq_true rfl⟩) (kPreV hK hP hP (q0 := 0) rfl rfl) rfl rfl hl.1 rfl (lv_room (Nat.le_of_ble_eq_true rfl)) dX6_isEdge_14 ⟨Nat.zero_le _, Nat.zero_le _⟩) ?_
    refine lv_iand hx hb dX6_isEdge_17 ?_
    refine lv_if_eq (tgt := 34) hx hb dX6_isEdge_18 (by decide) (fun c_2 => ?_) (fun c_2 => ?_)
    · replace hE := hE.trans (if_pos c_2)
      refine lv_iconst (v := 0) hx hb dX6_isEdge_34 (by decide) ?_
      subst R
      exact W.zret (v := 0) (ty := .boolean) hx hb hr rfl (fun t ht hW => ⟨rfl, ht⟩) (fun _ h => by cases h) dX6_isEdge_35
    · replace hE := hE.trans (if_neg c_2)
      refine lv_aload_n hx hb dX6_isEdge_21 rfl (lv_at hl 0 rfl) ?_
      refine lv_iload_n hx hb dX6_isEdge_22 rfl (lv_at hl 1 rfl) ?_
      refine lv_iload_n hx hb dX6_isEdge_23 rfl (lv_at hl 2 rfl) ?_
      refine kCallRi (va_runV (As := [.int x1, .int x2]) (rest := []) ⟨hx, hb, hml, hown, hts⟩ (c_X6_overlap l E b u x1 x2 (by assumption) (by assumption) _ rfl) (cwV 2 hts gX6_isEdge_X6_overlap rfl rfl rfl (by decide +kernel) ⟨Nat.le_of_ble_eq_true rfl, Nat.le_of_ble_eq_true rfl⟩) (kPreV hK hP hP (q0 := 0) rfl rfl) rfl rfl hl.1 rfl (lv_room (Nat.le_of_ble_eq_true rfl)) dX6_isEdge_24 ⟨Nat.zero_le _, Nat.zero_le _⟩) ?_
      refine lv_if_eq (tgt := 34) hx hb dX6_isEdge_27 (by decide) (fun c_3 => ?_) (fun c_3 => ?_)
      · replace hE := hE.trans (if_pos c_3)
        refine lv_iconst (v := 0) hx hb dX6_isEdge_34 (by decide) ?_
        subst R
        exact W.zret (v := 0) (ty := .boolean) hx hb hr rfl (fun t ht hW => ⟨rfl, ht⟩) (fun _ h => by cases h) dX6_isEdge_35
      · replace hE := hE.trans (if_neg c_3)
        refine lv_iconst (v := 1) hx hb dX6_isEdge_30 (by decide) ?_
        refine lv_goto (tgt := 35) hx hb dX6_isEdge_31 (by decide) ?_
        subst R
        exact W.zret (v := 1) (ty := .boolean) hx hb hr rfl (fun t ht hW => ⟨rfl, ht⟩) (fun _ h => by cases h) dX6_isEdge_35
def mX6_isTriple (u : kG) (x1 : Int32) (x2 : Int32) (x3 : Int32) : Int32 :=
  if (mX6_isEdge u x1 x2) = 0 then
    0
  else
    if (mX6_isEdge u x2 x3) = 0 then
      0
    else
      1
theorem mX6_isTriple_s {u : kG} {x1 : Int32} {x2 : Int32} {x3 : Int32} : mX6_isTriple u x1 x2 x3 = (
  if (mX6_isEdge u x1 x2) = 0 then
    0
  else
    if (mX6_isEdge u x2 x3) = 0 then
      0
    else
      1 : Int32) := rfl
set_option maxHeartbeats 400000 in
set_option maxRecDepth 100000 in
theorem c_X6_isTriple (l : Launch) (E : kE) (b : Nat → Nat) (u : kG) (x1 : Int32) (x2 : Int32) (x3 : Int32) (ht : tOK x1) (ht2 : tOK x2) (ht3 : tOK x3) (R : Int32) (hE : R = mX6_isTriple u x1 x2 x3) : Met l yX6_isTriple wsX6_isTriple ({ frames := 5, cells := 0, slots := 0, locals := 111 }) (kPre E [.ref (b 0), .int x1, .int x2, .int x3] (wModx E b (u 0 0) (u 0 1) (u 0 2) (u 0 3) (u 0 4) (u 0 5) (u 0 6) (u 0 7) (u 1) (u 2) (u 3) (u 4) (u 5) (u 6) (u 7) (u 8))) (kRi R) 0 0 (fun _ => False) := by
  refine Met.ofW (cc := cX6_isTriple) (maxL := 4) (ret := (some .boolean)) (by decide) rfl ?_
  intro p e s m args below meth c s₁ B hml hv
  obtain ⟨rfl, hK, hP⟩ := hv
  have hx := B.exec
  have hb := B.bytes
  have hr := B.returns
  have hts := atoms_spec (ws := wsX6_isTriple) B.pre
  have hown : s.vm.findClass RX6 = some m.cls := findClass_of_methodNamed B.named
  have hlocks := B.notSynchronized
  have hP : va_P E.1 vwCl (wModx E b (u 0 0) (u 0 1) (u 0 2) (u 0 3) (u 0 4) (u 0 5) (u 0 6) (u 0 7) (u 1) (u 2) (u 3) (u 4) (u 5) (u 6) (u 7) (u 8)) s.heap := hP
  have hl := lv_entry ([.ref (b 0), .int x1, .int x2, .int x3]) (n := 4) (Nat.le_of_ble_eq_true rfl)
  rw [lg_entry_eq]
  generalize (lg_sl ([.ref (b 0), .int x1, .int x2, .int x3]) ++ List.replicate (4 - (lg_sl ([.ref (b 0), .int x1, .int x2, .int x3])).length) Slot.unset).toArray = ls at hl ⊢
  have hl : lv_has ls 4 [(0, .ref (b 0)), (1, .int x1), (2, .int x2), (3, .int x3)] := hl
  replace hE := hE.trans mX6_isTriple_s
  refine lv_aload_n hx hb dX6_isTriple_0 rfl (lv_at hl 0 rfl) ?_
  refine lv_iload_n hx hb dX6_isTriple_1 rfl (lv_at hl 1 rfl) ?_
  refine lv_iload_n hx hb dX6_isTriple_2 rfl (lv_at hl 2 rfl) ?_
  refine kCallRi (va_runV (As := [.int x1, .int x2]) (rest := []) ⟨hx, hb, hml, hown, hts⟩ (c_X6_isEdge l E b u x1 x2 (by assumption) (by assumption) _ rfl) (cwV 2 hts gX6_isTriple_X6_isEdge rfl rfl rfl (by decide +kernel) ⟨Nat.le_of_ble_eq_true rfl, Nat.le_of_ble_eq_true rfl⟩) (kPreV hK hP hP (q0 := 0) rfl rfl) rfl rfl hl.1 rfl (lv_room (Nat.le_of_ble_eq_true rfl)) dX6_isTriple_3 ⟨Nat.zero_le _, Nat.zero_le _⟩) ?_
  refine lv_if_eq (tgt := 22) hx hb dX6_isTriple_6 (by decide) (fun c_1 => ?_) (fun c_1 => ?_)
  · replace hE := hE.trans (if_pos c_1)
    refine lv_iconst (v := 0) hx hb dX6_isTriple_22 (by decide) ?_
    subst R
    exact W.zret (v := 0) (ty := .boolean) hx hb hr rfl (fun t ht hW => ⟨rfl, ht⟩) (fun _ h => by cases h) dX6_isTriple_23
  · replace hE := hE.trans (if_neg c_1)
    refine lv_aload_n hx hb dX6_isTriple_9 rfl (lv_at hl 0 rfl) ?_
    refine lv_iload_n hx hb dX6_isTriple_10 rfl (lv_at hl 2 rfl) ?_
    refine lv_iload_n hx hb dX6_isTriple_11 rfl (lv_at hl 3 rfl) ?_
    refine kCallRi (va_runV (As := [.int x2, .int x3]) (rest := []) ⟨hx, hb, hml, hown, hts⟩ (c_X6_isEdge l E b u x2 x3 (by assumption) (by assumption) _ rfl) (cwV 2 hts gX6_isTriple_X6_isEdge rfl rfl rfl (by decide +kernel) ⟨Nat.le_of_ble_eq_true rfl, Nat.le_of_ble_eq_true rfl⟩) (kPreV hK hP hP (q0 := 0) rfl rfl) rfl rfl hl.1 rfl (lv_room (Nat.le_of_ble_eq_true rfl)) dX6_isTriple_12 ⟨Nat.zero_le _, Nat.zero_le _⟩) ?_
    refine lv_if_eq (tgt := 22) hx hb dX6_isTriple_15 (by decide) (fun c_2 => ?_) (fun c_2 => ?_)
    · replace hE := hE.trans (if_pos c_2)
      refine lv_iconst (v := 0) hx hb dX6_isTriple_22 (by decide) ?_
      subst R
      exact W.zret (v := 0) (ty := .boolean) hx hb hr rfl (fun t ht hW => ⟨rfl, ht⟩) (fun _ h => by cases h) dX6_isTriple_23
    · replace hE := hE.trans (if_neg c_2)
      refine lv_iconst (v := 1) hx hb dX6_isTriple_18 (by decide) ?_
      refine lv_goto (tgt := 23) hx hb dX6_isTriple_19 (by decide) ?_
      subst R
      exact W.zret (v := 1) (ty := .boolean) hx hb hr rfl (fun t ht hW => ⟨rfl, ht⟩) (fun _ h => by cases h) dX6_isTriple_23
def mX6_counts (u : kG) (x1 : Int32) (x2 : Int32) (x3 : Int32) (x4 : Int32) : Int32 :=
  if x1 = 0 then
    if x1 = 0 then
      1
    else
      0
  else
    if x1 = 3 then
      if x1 = 0 then
        1
      else
        0
    else
      if (mX6_its u x3 2) ≤ (mX6_its u x4 2) then
        0
      else
        if x4 = x2 then
          if x1 = 1 then
            1
          else
            if (mX6_its u x2 4) = 0 then
              if (mX6_its u x2 1) ≤ (mX6_its u x4 2) then
                0
              else
                1
            else
              1
        else
          if (mX6_its u x2 2) ≤ (mX6_its u x4 2) then
            0
          else
            if x1 = 1 then
              1
            else
              if (mX6_its u x2 4) = 0 then
                if (mX6_its u x2 1) ≤ (mX6_its u x4 2) then
                  0
                else
                  1
              else
                1
theorem mX6_counts_s {u : kG} {x1 : Int32} {x2 : Int32} {x3 : Int32} {x4 : Int32} : mX6_counts u x1 x2 x3 x4 = (
  if x1 = 0 then
    if x1 = 0 then
      1
    else
      0
  else
    if x1 = 3 then
      if x1 = 0 then
        1
      else
        0
    else
      if (mX6_its u x3 2) ≤ (mX6_its u x4 2) then
        0
      else
        if x4 = x2 then
          if x1 = 1 then
            1
          else
            if (mX6_its u x2 4) = 0 then
              if (mX6_its u x2 1) ≤ (mX6_its u x4 2) then
                0
              else
                1
            else
              1
        else
          if (mX6_its u x2 2) ≤ (mX6_its u x4 2) then
            0
          else
            if x1 = 1 then
              1
            else
              if (mX6_its u x2 4) = 0 then
                if (mX6_its u x2 1) ≤ (mX6_its u x4 2) then
                  0
                else
                  1
              else
                1 : Int32) := rfl
set_option maxHeartbeats 400000 in
set_option maxRecDepth 100000 in
theorem c_X6_counts (l : Launch) (E : kE) (b : Nat → Nat) (u : kG) (x1 : Int32) (x2 : Int32) (x3 : Int32) (x4 : Int32) (ht : tOK x2) (ht2 : tOK x3) (ht3 : tOK x4) (R : Int32) (hE : R = mX6_counts u x1 x2 x3 x4) : Met l yX6_counts wsX6_counts ({ frames := 1, cells := 0, slots := 0, locals := 22 }) (kPre E [.ref (b 0), .int x1, .int x2, .int x3, .int x4] (wModx E b (u 0 0) (u 0 1) (u 0 2) (u 0 3) (u 0 4) (u 0 5) (u 0 6) (u 0 7) (u 1) (u 2) (u 3) (u 4) (u 5) (u 6) (u 7) (u 8))) (kRi R) 0 0 (fun _ => False) := by
  refine Met.ofW (cc := cX6_counts) (maxL := 7) (ret := (some .boolean)) (by decide) rfl ?_
  intro p e s m args below meth c s₁ B hml hv
  obtain ⟨rfl, hK, hP⟩ := hv
  have hx := B.exec
  have hb := B.bytes
  have hr := B.returns
  have hts := atoms_spec (ws := wsX6_counts) B.pre
  have hown : s.vm.findClass RX6 = some m.cls := findClass_of_methodNamed B.named
  have hlocks := B.notSynchronized
  have hP : va_P E.1 vwCl (wModx E b (u 0 0) (u 0 1) (u 0 2) (u 0 3) (u 0 4) (u 0 5) (u 0 6) (u 0 7) (u 1) (u 2) (u 3) (u 4) (u 5) (u 6) (u 7) (u 8)) s.heap := hP
  have hl := lv_entry ([.ref (b 0), .int x1, .int x2, .int x3, .int x4]) (n := 7) (Nat.le_of_ble_eq_true rfl)
  rw [lg_entry_eq]
  generalize (lg_sl ([.ref (b 0), .int x1, .int x2, .int x3, .int x4]) ++ List.replicate (7 - (lg_sl ([.ref (b 0), .int x1, .int x2, .int x3, .int x4])).length) Slot.unset).toArray = ls at hl ⊢
  have hl : lv_has ls 7 [(0, .ref (b 0)), (1, .int x1), (2, .int x2), (3, .int x3), (4, .int x4)] := hl
  replace hE := hE.trans mX6_counts_s
  refine lv_iload_n hx hb dX6_counts_0 rfl (lv_at hl 1 rfl) ?_
  refine lv_if_eq (tgt := 9) hx hb dX6_counts_1 (by decide) (fun c_1 => ?_) (fun c_1 => ?_)
  · replace hE := hE.trans (if_pos c_1)
    refine lv_iload_n hx hb dX6_counts_9 rfl (lv_at hl 1 rfl) ?_
    refine lv_if_ne (tgt := 17) hx hb dX6_counts_10 (by decide) (fun c_2 => ?_) (fun c_2 => ?_)
    · replace hE := hE.trans (if_neg c_2)
      refine lv_iconst (v := 0) hx hb dX6_counts_17 (by decide) ?_
      subst R
      exact W.zret (v := 0) (ty := .boolean) hx hb hr rfl (fun t ht hW => ⟨rfl, ht⟩) (fun _ h => by cases h) dX6_counts_18
    · replace hE := hE.trans (if_pos c_2)
      refine lv_iconst (v := 1) hx hb dX6_counts_13 (by decide) ?_
      refine lv_goto (tgt := 18) hx hb dX6_counts_14 (by decide) ?_
      subst R
      exact W.zret (v := 1) (ty := .boolean) hx hb hr rfl (fun t ht hW => ⟨rfl, ht⟩) (fun _ h => by cases h) dX6_counts_18
  · replace hE := hE.trans (if_neg c_1)
    refine lv_iload_n hx hb dX6_counts_4 rfl (lv_at hl 1 rfl) ?_
    refine lv_iconst (v := 3) hx hb dX6_counts_5 (by decide) ?_
    refine lv_icmp_ne (tgt := 19) hx hb dX6_counts_6 (by decide) (fun c_3 => ?_) (fun c_3 => ?_)
    · replace hE := hE.trans (if_neg c_3)
      refine lv_aload_n hx hb dX6_counts_19 rfl (lv_at hl 0 rfl) ?_
      refine lv_iload hx hb dX6_counts_20 (lv_at hl 4 rfl) ?_
      refine lv_iconst (v := 2) hx hb dX6_counts_22 (by decide) ?_
      refine kCallRi (va_runV (As := [.int x4, .int 2]) (rest := []) ⟨hx, hb, hml, hown, hts⟩ (c_X6_its l E b u x4 2 (by assumption) ⟨2, by decide, rfl⟩ _ rfl) (cwV 2 hts gX6_counts_X6_its rfl rfl rfl (by decide +kernel) ⟨Nat.le_of_ble_eq_true rfl, Nat.le_of_ble_eq_true rfl⟩) (kPreV hK hP hP (q0 := 0) rfl rfl) rfl rfl hl.1 rfl (lv_room (Nat.le_of_ble_eq_true rfl)) dX6_counts_23 ⟨Nat.zero_le _, Nat.zero_le _⟩) ?_
      refine lv_istore (lv' := [(5, .int (mX6_its u x4 2)), (0, .ref (b 0)), (1, .int x1), (2, .int x2), (3, .int x3), (4, .int x4)]) hx hb dX6_counts_26 hl (by decide) rfl (fun ls hl => ?_)
      refine lv_iload hx hb dX6_counts_28 (lv_at hl 0 rfl) ?_
      refine lv_aload_n hx hb dX6_counts_30 rfl (lv_at hl 1 rfl) ?_
      refine lv_iload_n hx hb dX6_counts_31 rfl (lv_at hl 4 rfl) ?_
      refine lv_iconst (v := 2) hx hb dX6_counts_32 (by decide) ?_
      refine kCallRi (va_runV (As := [.int x3, .int 2]) (rest := [.int (mX6_its u x4 2)]) ⟨hx, hb, hml, hown, hts⟩ (c_X6_its l E b u x3 2 (by assumption) ⟨2, by decide, rfl⟩ _ rfl) (cwV 2 hts gX6_counts_X6_its rfl rfl rfl (by decide +kernel) ⟨Nat.le_of_ble_eq_true rfl, Nat.le_of_ble_eq_true rfl⟩) (kPreV hK hP hP (q0 := 0) rfl rfl) rfl rfl hl.1 rfl (lv_room (Nat.le_of_ble_eq_true rfl)) dX6_counts_33 ⟨Nat.zero_le _, Nat.zero_le _⟩) ?_
      refine lv_icmp_ge (tgt := 60) hx hb dX6_counts_36 (by decide) (fun c_4 => ?_) (fun c_4 => ?_)
      · replace hE := hE.trans (if_pos c_4)
        refine lv_iconst (v := 0) hx hb dX6_counts_60 (by decide) ?_
        refine lv_istore (lv' := [(6, .int 0), (5, .int (mX6_its u x4 2)), (0, .ref (b 0)), (1, .int x1), (2, .int x2), (3, .int x3), (4, .int x4)]) hx hb dX6_counts_61 hl (by decide) rfl (fun ls hl => ?_)
        refine lv_iload hx hb dX6_counts_63 (lv_at hl 0 rfl) ?_
        refine lv_if_eq (tgt := 97) hx hb dX6_counts_65 (by decide) (fun _ => ?_) (fun c => absurd (by decide) c)
        refine lv_iconst (v := 0) hx hb dX6_counts_97 (by decide) ?_
        subst R
        exact W.zret (v := 0) (ty := .boolean) hx hb hr rfl (fun t ht hW => ⟨rfl, ht⟩) (fun _ h => by cases h) dX6_counts_98
      · replace hE := hE.trans (if_neg c_4)
        refine lv_iload hx hb dX6_counts_39 (lv_at hl 5 rfl) ?_
        refine lv_iload_n hx hb dX6_counts_41 rfl (lv_at hl 3 rfl) ?_
        refine lv_icmp_eq (tgt := 56) hx hb dX6_counts_42 (by decide) (fun c_5 => ?_) (fun c_5 => ?_)
        · replace hE := hE.trans (if_pos c_5)
          refine lv_iconst (v := 1) hx hb dX6_counts_56 (by decide) ?_
          refine lv_goto (tgt := 61) hx hb dX6_counts_57 (by decide) ?_
          refine lv_istore (lv' := [(6, .int 1), (5, .int (mX6_its u x4 2)), (0, .ref (b 0)), (1, .int x1), (2, .int x2), (3, .int x3), (4, .int x4)]) hx hb dX6_counts_61 hl (by decide) rfl (fun ls hl => ?_)
          refine lv_iload hx hb dX6_counts_63 (lv_at hl 0 rfl) ?_
          refine lv_if_eq (tgt := 97) hx hb dX6_counts_65 (by decide) (fun c => absurd c (by decide)) (fun _ => ?_)
          refine lv_iload_n hx hb dX6_counts_68 rfl (lv_at hl 3 rfl) ?_
          refine lv_iconst (v := 1) hx hb dX6_counts_69 (by decide) ?_
          refine lv_icmp_eq (tgt := 93) hx hb dX6_counts_70 (by decide) (fun c_6 => ?_) (fun c_6 => ?_)
          · replace hE := hE.trans (if_pos c_6)
            refine lv_iconst (v := 1) hx hb dX6_counts_93 (by decide) ?_
            refine lv_goto (tgt := 98) hx hb dX6_counts_94 (by decide) ?_
            subst R
            exact W.zret (v := 1) (ty := .boolean) hx hb hr rfl (fun t ht hW => ⟨rfl, ht⟩) (fun _ h => by cases h) dX6_counts_98
          · replace hE := hE.trans (if_neg c_6)
            refine lv_aload_n hx hb dX6_counts_73 rfl (lv_at hl 2 rfl) ?_
            refine lv_iload_n hx hb dX6_counts_74 rfl (lv_at hl 4 rfl) ?_
            refine lv_iconst (v := 4) hx hb dX6_counts_75 (by decide) ?_
            refine kCallRi (va_runV (As := [.int x2, .int 4]) (rest := []) ⟨hx, hb, hml, hown, hts⟩ (c_X6_its l E b u x2 4 (by assumption) ⟨4, by decide, rfl⟩ _ rfl) (cwV 2 hts gX6_counts_X6_its rfl rfl rfl (by decide +kernel) ⟨Nat.le_of_ble_eq_true rfl, Nat.le_of_ble_eq_true rfl⟩) (kPreV hK hP hP (q0 := 0) rfl rfl) rfl rfl hl.1 rfl (lv_room (Nat.le_of_ble_eq_true rfl)) dX6_counts_76 ⟨Nat.zero_le _, Nat.zero_le _⟩) ?_
            refine lv_if_ne (tgt := 93) hx hb dX6_counts_79 (by decide) (fun c_7 => ?_) (fun c_7 => ?_)
            · replace hE := hE.trans (if_neg c_7)
              refine lv_iconst (v := 1) hx hb dX6_counts_93 (by decide) ?_
              refine lv_goto (tgt := 98) hx hb dX6_counts_94 (by decide) ?_
              subst R
              exact W.zret (v := 1) (ty := .boolean) hx hb hr rfl (fun t ht hW => ⟨rfl, ht⟩) (fun _ h => by cases h) dX6_counts_98
            · replace hE := hE.trans (if_pos c_7)
              refine lv_iload hx hb dX6_counts_82 (lv_at hl 1 rfl) ?_
              refine lv_aload_n hx hb dX6_counts_84 rfl (lv_at hl 2 rfl) ?_
              refine lv_iload_n hx hb dX6_counts_85 rfl (lv_at hl 4 rfl) ?_
              refine lv_iconst (v := 1) hx hb dX6_counts_86 (by decide) ?_
              refine kCallRi (va_runV (As := [.int x2, .int 1]) (rest := [.int (mX6_its u x4 2)]) ⟨hx, hb, hml, hown, hts⟩ (c_X6_its l E b u x2 1 (by assumption) ⟨1, by decide, rfl⟩ _ rfl) (cwV 2 hts gX6_counts_X6_its rfl rfl rfl (by decide +kernel) ⟨Nat.le_of_ble_eq_true rfl, Nat.le_of_ble_eq_true rfl⟩) (kPreV hK hP hP (q0 := 0) rfl rfl) rfl rfl hl.1 rfl (lv_room (Nat.le_of_ble_eq_true rfl)) dX6_counts_87 ⟨Nat.zero_le _, Nat.zero_le _⟩) ?_
              refine lv_icmp_ge (tgt := 97) hx hb dX6_counts_90 (by decide) (fun c_8 => ?_) (fun c_8 => ?_)
              · replace hE := hE.trans (if_pos c_8)
                refine lv_iconst (v := 0) hx hb dX6_counts_97 (by decide) ?_
                subst R
                exact W.zret (v := 0) (ty := .boolean) hx hb hr rfl (fun t ht hW => ⟨rfl, ht⟩) (fun _ h => by cases h) dX6_counts_98
              · replace hE := hE.trans (if_neg c_8)
                refine lv_iconst (v := 1) hx hb dX6_counts_93 (by decide) ?_
                refine lv_goto (tgt := 98) hx hb dX6_counts_94 (by decide) ?_
                subst R
                exact W.zret (v := 1) (ty := .boolean) hx hb hr rfl (fun t ht hW => ⟨rfl, ht⟩) (fun _ h => by cases h) dX6_counts_98
        · replace hE := hE.trans (if_neg c_5)
          refine lv_iload hx hb dX6_counts_45 (lv_at hl 0 rfl) ?_
          refine lv_aload_n hx hb dX6_counts_47 rfl (lv_at hl 1 rfl) ?_
          refine lv_iload_n hx hb dX6_counts_48 rfl (lv_at hl 3 rfl) ?_
          refine lv_iconst (v := 2) hx hb dX6_counts_49 (by decide) ?_
          refine kCallRi (va_runV (As := [.int x2, .int 2]) (rest := [.int (mX6_its u x4 2)]) ⟨hx, hb, hml, hown, hts⟩ (c_X6_its l E b u x2 2 (by assumption) ⟨2, by decide, rfl⟩ _ rfl) (cwV 2 hts gX6_counts_X6_its rfl rfl rfl (by decide +kernel) ⟨Nat.le_of_ble_eq_true rfl, Nat.le_of_ble_eq_true rfl⟩) (kPreV hK hP hP (q0 := 0) rfl rfl) rfl rfl hl.1 rfl (lv_room (Nat.le_of_ble_eq_true rfl)) dX6_counts_50 ⟨Nat.zero_le _, Nat.zero_le _⟩) ?_
          refine lv_icmp_ge (tgt := 60) hx hb dX6_counts_53 (by decide) (fun c_9 => ?_) (fun c_9 => ?_)
          · replace hE := hE.trans (if_pos c_9)
            refine lv_iconst (v := 0) hx hb dX6_counts_60 (by decide) ?_
            refine lv_istore (lv' := [(6, .int 0), (5, .int (mX6_its u x4 2)), (0, .ref (b 0)), (1, .int x1), (2, .int x2), (3, .int x3), (4, .int x4)]) hx hb dX6_counts_61 hl (by decide) rfl (fun ls hl => ?_)
            refine lv_iload hx hb dX6_counts_63 (lv_at hl 0 rfl) ?_
            refine lv_if_eq (tgt := 97) hx hb dX6_counts_65 (by decide) (fun _ => ?_) (fun c => absurd (by decide) c)
            refine lv_iconst (v := 0) hx hb dX6_counts_97 (by decide) ?_
            subst R
            exact W.zret (v := 0) (ty := .boolean) hx hb hr rfl (fun t ht hW => ⟨rfl, ht⟩) (fun _ h => by cases h) dX6_counts_98
          · replace hE := hE.trans (if_neg c_9)
            refine lv_iconst (v := 1) hx hb dX6_counts_56 (by decide) ?_
            refine lv_goto (tgt := 61) hx hb dX6_counts_57 (by decide) ?_
            refine lv_istore (lv' := [(6, .int 1), (5, .int (mX6_its u x4 2)), (0, .ref (b 0)), (1, .int x1), (2, .int x2), (3, .int x3), (4, .int x4)]) hx hb dX6_counts_61 hl (by decide) rfl (fun ls hl => ?_)
            refine lv_iload hx hb dX6_counts_63 (lv_at hl 0 rfl) ?_
            refine lv_if_eq (tgt := 97) hx hb dX6_counts_65 (by decide) (fun c => absurd c (by decide)) (fun _ => ?_)
            refine lv_iload_n hx hb dX6_counts_68 rfl (lv_at hl 3 rfl) ?_
            refine lv_iconst (v := 1) hx hb dX6_counts_69 (by decide) ?_
            refine lv_icmp_eq (tgt := 93) hx hb dX6_counts_70 (by decide) (fun c_10 => ?_) (fun c_10 => ?_)
            · replace hE := hE.trans (if_pos c_10)
              refine lv_iconst (v := 1) hx hb dX6_counts_93 (by decide) ?_
              refine lv_goto (tgt := 98) hx hb dX6_counts_94 (by decide) ?_
              subst R
              exact W.zret (v := 1) (ty := .boolean) hx hb hr rfl (fun t ht hW => ⟨rfl, ht⟩) (fun _ h => by cases h) dX6_counts_98
            · replace hE := hE.trans (if_neg c_10)
              refine lv_aload_n hx hb dX6_counts_73 rfl (lv_at hl 2 rfl) ?_
              refine lv_iload_n hx hb dX6_counts_74 rfl (lv_at hl 4 rfl) ?_
              refine lv_iconst (v := 4) hx hb dX6_counts_75 (by decide) ?_
              refine kCallRi (va_runV (As := [.int x2, .int 4]) (rest := []) ⟨hx, hb, hml, hown, hts⟩ (c_X6_its l E b u x2 4 (by assumption) ⟨4, by decide, rfl⟩ _ rfl) (cwV 2 hts gX6_counts_X6_its rfl rfl rfl (by decide +kernel) ⟨Nat.le_of_ble_eq_true rfl, Nat.le_of_ble_eq_true rfl⟩) (kPreV hK hP hP (q0 := 0) rfl rfl) rfl rfl hl.1 rfl (lv_room (Nat.le_of_ble_eq_true rfl)) dX6_counts_76 ⟨Nat.zero_le _, Nat.zero_le _⟩) ?_
              refine lv_if_ne (tgt := 93) hx hb dX6_counts_79 (by decide) (fun c_11 => ?_) (fun c_11 => ?_)
              · replace hE := hE.trans (if_neg c_11)
                refine lv_iconst (v := 1) hx hb dX6_counts_93 (by decide) ?_
                refine lv_goto (tgt := 98) hx hb dX6_counts_94 (by decide) ?_
                subst R
                exact W.zret (v := 1) (ty := .boolean) hx hb hr rfl (fun t ht hW => ⟨rfl, ht⟩) (fun _ h => by cases h) dX6_counts_98
              · replace hE := hE.trans (if_pos c_11)
                refine lv_iload hx hb dX6_counts_82 (lv_at hl 1 rfl) ?_
                refine lv_aload_n hx hb dX6_counts_84 rfl (lv_at hl 2 rfl) ?_
                refine lv_iload_n hx hb dX6_counts_85 rfl (lv_at hl 4 rfl) ?_
                refine lv_iconst (v := 1) hx hb dX6_counts_86 (by decide) ?_
                refine kCallRi (va_runV (As := [.int x2, .int 1]) (rest := [.int (mX6_its u x4 2)]) ⟨hx, hb, hml, hown, hts⟩ (c_X6_its l E b u x2 1 (by assumption) ⟨1, by decide, rfl⟩ _ rfl) (cwV 2 hts gX6_counts_X6_its rfl rfl rfl (by decide +kernel) ⟨Nat.le_of_ble_eq_true rfl, Nat.le_of_ble_eq_true rfl⟩) (kPreV hK hP hP (q0 := 0) rfl rfl) rfl rfl hl.1 rfl (lv_room (Nat.le_of_ble_eq_true rfl)) dX6_counts_87 ⟨Nat.zero_le _, Nat.zero_le _⟩) ?_
                refine lv_icmp_ge (tgt := 97) hx hb dX6_counts_90 (by decide) (fun c_12 => ?_) (fun c_12 => ?_)
                · replace hE := hE.trans (if_pos c_12)
                  refine lv_iconst (v := 0) hx hb dX6_counts_97 (by decide) ?_
                  subst R
                  exact W.zret (v := 0) (ty := .boolean) hx hb hr rfl (fun t ht hW => ⟨rfl, ht⟩) (fun _ h => by cases h) dX6_counts_98
                · replace hE := hE.trans (if_neg c_12)
                  refine lv_iconst (v := 1) hx hb dX6_counts_93 (by decide) ?_
                  refine lv_goto (tgt := 98) hx hb dX6_counts_94 (by decide) ?_
                  subst R
                  exact W.zret (v := 1) (ty := .boolean) hx hb hr rfl (fun t ht hW => ⟨rfl, ht⟩) (fun _ h => by cases h) dX6_counts_98
    · replace hE := hE.trans (if_pos c_3)
      refine lv_iload_n hx hb dX6_counts_9 rfl (lv_at hl 1 rfl) ?_
      refine lv_if_ne (tgt := 17) hx hb dX6_counts_10 (by decide) (fun c_13 => ?_) (fun c_13 => ?_)
      · replace hE := hE.trans (if_neg c_13)
        refine lv_iconst (v := 0) hx hb dX6_counts_17 (by decide) ?_
        subst R
        exact W.zret (v := 0) (ty := .boolean) hx hb hr rfl (fun t ht hW => ⟨rfl, ht⟩) (fun _ h => by cases h) dX6_counts_18
      · replace hE := hE.trans (if_pos c_13)
        refine lv_iconst (v := 1) hx hb dX6_counts_13 (by decide) ?_
        refine lv_goto (tgt := 18) hx hb dX6_counts_14 (by decide) ?_
        subst R
        exact W.zret (v := 1) (ty := .boolean) hx hb hr rfl (fun t ht hW => ⟨rfl, ht⟩) (fun _ h => by cases h) dX6_counts_18
def mX6_findTriple_K29 (u : kG) (x1 : Int32) (x2 : Int32) (i2 : Nat) (i15 : Nat) (rec : Nat → (Int32 × Int32 × Int32 × Int32)) (i29 : Nat) : Int32 × Int32 × Int32 × Int32 :=
  rec (i15 + 1)
theorem mX6_findTriple_K29_s {u : kG} {x1 : Int32} {x2 : Int32} {i2 : Nat} {i15 : Nat} {rec : Nat → (Int32 × Int32 × Int32 × Int32)} {i29 : Nat} : mX6_findTriple_K29 u x1 x2 i2 i15 rec i29 = (
  rec (i15 + 1) : Int32 × Int32 × Int32 × Int32) := rfl
def mX6_findTriple_L29 (u : kG) (x1 : Int32) (x2 : Int32) (i2 : Nat) (i15 : Nat) (kk : Nat → (Int32 × Int32 × Int32 × Int32)) : Nat → Nat → (Int32 × Int32 × Int32 × Int32)
  | 0, _ => (0, 0, 0, 0)
  | n29 + 1, i29 =>
    if ((u 1) 2) ≤ (nI i29) then
      kk i29
    else
      if (mX6_isIn u (nI i15) 1) = 0 then
        mX6_findTriple_L29 u x1 x2 i2 i15 kk n29 (i29 + 1)
      else
        if (mX6_isIn u (nI i2) 1) = 0 then
          mX6_findTriple_L29 u x1 x2 i2 i15 kk n29 (i29 + 1)
        else
          if (mX6_isIn u (nI i29) 1) = 0 then
            mX6_findTriple_L29 u x1 x2 i2 i15 kk n29 (i29 + 1)
          else
            if (nI i15) = x1 then
              if (mX6_isTriple u (nI i15) (nI i2) (nI i29)) = 0 then
                mX6_findTriple_L29 u x1 x2 i2 i15 kk n29 (i29 + 1)
              else
                if (mX6_counts u x2 (nI i15) (nI i2) (nI i29)) = 0 then
                  mX6_findTriple_L29 u x1 x2 i2 i15 kk n29 (i29 + 1)
                else
                  (1, (nI i15), (nI i2), (nI i29))
            else
              if (nI i2) = x1 then
                if (mX6_isTriple u (nI i15) (nI i2) (nI i29)) = 0 then
                  mX6_findTriple_L29 u x1 x2 i2 i15 kk n29 (i29 + 1)
                else
                  if (mX6_counts u x2 (nI i15) (nI i2) (nI i29)) = 0 then
                    mX6_findTriple_L29 u x1 x2 i2 i15 kk n29 (i29 + 1)
                  else
                    (1, (nI i15), (nI i2), (nI i29))
              else
                if (nI i29) = x1 then
                  if (mX6_isTriple u (nI i15) (nI i2) (nI i29)) = 0 then
                    mX6_findTriple_L29 u x1 x2 i2 i15 kk n29 (i29 + 1)
                  else
                    if (mX6_counts u x2 (nI i15) (nI i2) (nI i29)) = 0 then
                      mX6_findTriple_L29 u x1 x2 i2 i15 kk n29 (i29 + 1)
                    else
                      (1, (nI i15), (nI i2), (nI i29))
                else
                  mX6_findTriple_L29 u x1 x2 i2 i15 kk n29 (i29 + 1)
theorem mX6_findTriple_L29_s {u : kG} {x1 : Int32} {x2 : Int32} {i2 : Nat} {i15 : Nat} {kk : Nat → (Int32 × Int32 × Int32 × Int32)} {n29 : Nat} {i29 : Nat} : mX6_findTriple_L29 u x1 x2 i2 i15 kk (n29 + 1) i29 = (
    if ((u 1) 2) ≤ (nI i29) then
      kk i29
    else
      if (mX6_isIn u (nI i15) 1) = 0 then
        mX6_findTriple_L29 u x1 x2 i2 i15 kk n29 (i29 + 1)
      else
        if (mX6_isIn u (nI i2) 1) = 0 then
          mX6_findTriple_L29 u x1 x2 i2 i15 kk n29 (i29 + 1)
        else
          if (mX6_isIn u (nI i29) 1) = 0 then
            mX6_findTriple_L29 u x1 x2 i2 i15 kk n29 (i29 + 1)
          else
            if (nI i15) = x1 then
              if (mX6_isTriple u (nI i15) (nI i2) (nI i29)) = 0 then
                mX6_findTriple_L29 u x1 x2 i2 i15 kk n29 (i29 + 1)
              else
                if (mX6_counts u x2 (nI i15) (nI i2) (nI i29)) = 0 then
                  mX6_findTriple_L29 u x1 x2 i2 i15 kk n29 (i29 + 1)
                else
                  (1, (nI i15), (nI i2), (nI i29))
            else
              if (nI i2) = x1 then
                if (mX6_isTriple u (nI i15) (nI i2) (nI i29)) = 0 then
                  mX6_findTriple_L29 u x1 x2 i2 i15 kk n29 (i29 + 1)
                else
                  if (mX6_counts u x2 (nI i15) (nI i2) (nI i29)) = 0 then
                    mX6_findTriple_L29 u x1 x2 i2 i15 kk n29 (i29 + 1)
                  else
                    (1, (nI i15), (nI i2), (nI i29))
              else
                if (nI i29) = x1 then
                  if (mX6_isTriple u (nI i15) (nI i2) (nI i29)) = 0 then
                    mX6_findTriple_L29 u x1 x2 i2 i15 kk n29 (i29 + 1)
                  else
                    if (mX6_counts u x2 (nI i15) (nI i2) (nI i29)) = 0 then
                      mX6_findTriple_L29 u x1 x2 i2 i15 kk n29 (i29 + 1)
                    else
                      (1, (nI i15), (nI i2), (nI i29))
                else
                  mX6_findTriple_L29 u x1 x2 i2 i15 kk n29 (i29 + 1) : Int32 × Int32 × Int32 × Int32) := rfl
def mX6_findTriple_K15 (u : kG) (x1 : Int32) (x2 : Int32) (i2 : Nat) (rec : Nat → (Int32 × Int32 × Int32 × Int32)) (i15 : Nat) : Int32 × Int32 × Int32 × Int32 :=
  rec (i2 + 1)
theorem mX6_findTriple_K15_s {u : kG} {x1 : Int32} {x2 : Int32} {i2 : Nat} {rec : Nat → (Int32 × Int32 × Int32 × Int32)} {i15 : Nat} : mX6_findTriple_K15 u x1 x2 i2 rec i15 = (
  rec (i2 + 1) : Int32 × Int32 × Int32 × Int32) := rfl
def mX6_findTriple_L15 (u : kG) (x1 : Int32) (x2 : Int32) (i2 : Nat) (kk : Nat → (Int32 × Int32 × Int32 × Int32)) : Nat → Nat → (Int32 × Int32 × Int32 × Int32)
  | 0, _ => (0, 0, 0, 0)
  | n15 + 1, i15 =>
    if ((u 1) 2) ≤ (nI i15) then
      kk i15
    else
      mX6_findTriple_L29 u x1 x2 i2 i15 (mX6_findTriple_K29 u x1 x2 i2 i15 (mX6_findTriple_L15 u x1 x2 i2 kk n15)) 13 0
theorem mX6_findTriple_L15_s {u : kG} {x1 : Int32} {x2 : Int32} {i2 : Nat} {kk : Nat → (Int32 × Int32 × Int32 × Int32)} {n15 : Nat} {i15 : Nat} : mX6_findTriple_L15 u x1 x2 i2 kk (n15 + 1) i15 = (
    if ((u 1) 2) ≤ (nI i15) then
      kk i15
    else
      mX6_findTriple_L29 u x1 x2 i2 i15 (mX6_findTriple_K29 u x1 x2 i2 i15 (mX6_findTriple_L15 u x1 x2 i2 kk n15)) 13 0 : Int32 × Int32 × Int32 × Int32) := rfl
def mX6_findTriple_L2 (u : kG) (x1 : Int32) (x2 : Int32) : Nat → Nat → (Int32 × Int32 × Int32 × Int32)
  | 0, _ => (0, 0, 0, 0)
  | n2 + 1, i2 =>
    if ((u 1) 2) ≤ (nI i2) then
      (0, (u 0 2), (u 0 3), (u 0 4))
    else
      mX6_findTriple_L15 u x1 x2 i2 (mX6_findTriple_K15 u x1 x2 i2 (mX6_findTriple_L2 u x1 x2 n2)) 13 0
theorem mX6_findTriple_L2_s {u : kG} {x1 : Int32} {x2 : Int32} {n2 : Nat} {i2 : Nat} : mX6_findTriple_L2 u x1 x2 (n2 + 1) i2 = (
    if ((u 1) 2) ≤ (nI i2) then
      (0, (u 0 2), (u 0 3), (u 0 4))
    else
      mX6_findTriple_L15 u x1 x2 i2 (mX6_findTriple_K15 u x1 x2 i2 (mX6_findTriple_L2 u x1 x2 n2)) 13 0 : Int32 × Int32 × Int32 × Int32) := rfl
def mX6_findTriple (u : kG) (x1 : Int32) (x2 : Int32) : Int32 × Int32 × Int32 × Int32 :=
  mX6_findTriple_L2 u x1 x2 13 0
theorem mX6_findTriple_s {u : kG} {x1 : Int32} {x2 : Int32} : mX6_findTriple u x1 x2 = (
  mX6_findTriple_L2 u x1 x2 13 0 : Int32 × Int32 × Int32 × Int32) := rfl
set_option maxHeartbeats 400000 in
set_option maxRecDepth 100000 in
theorem c_X6_findTriple (l : Launch) (E : kE) (b : Nat → Nat) (u : kG) (hj : kInj b 9) (x1 : Int32) (x2 : Int32) (hm : nOK (u 1 2)) (R : Int32 × Int32 × Int32 × Int32) (hE : R = mX6_findTriple u x1 x2) : Met l yX6_findTriple wsX6_findTriple ({ frames := 6, cells := 0, slots := 0, locals := 134 }) (kPre E [.ref (b 0), .int x1, .int x2] (wModx E b (u 0 0) (u 0 1) (u 0 2) (u 0 3) (u 0 4) (u 0 5) (u 0 6) (u 0 7) (u 1) (u 2) (u 3) (u 4) (u 5) (u 6) (u 7) (u 8))) (kWi E R.1 (wModx E b (u 0 0) (u 0 1) R.2.1 R.2.2.1 R.2.2.2 (u 0 5) (u 0 6) (u 0 7) (u 1) (u 2) (u 3) (u 4) (u 5) (u 6) (u 7) (u 8)) (kA b 9)) 0 0 (kA b 9) := by
  refine Met.ofW (cc := cX6_findTriple) (maxL := 7) (ret := (some .boolean)) (by decide) rfl ?_
  intro p e s m args below meth c s₁ B hml hv
  obtain ⟨rfl, hK, hP⟩ := hv
  have hx := B.exec
  have hb := B.bytes
  have hr := B.returns
  have hts := atoms_spec (ws := wsX6_findTriple) B.pre
  have hown : s.vm.findClass RX6 = some m.cls := findClass_of_methodNamed B.named
  have hlocks := B.notSynchronized
  have hiX6 : ∀ w ∈ wsX60, w ∈ wsX6_findTriple := by decide +kernel
  have hf7 := hts (.fieldLink RX6 7 "SkewEdgesModel" "z" "[I") (by decide +kernel)
  have hf74 := hts (.fieldLink RX6 74 "SkewEdgesModel" "tripleA" "I") (by decide +kernel)
  have hf77 := hts (.fieldLink RX6 77 "SkewEdgesModel" "tripleP" "I") (by decide +kernel)
  have hf80 := hts (.fieldLink RX6 80 "SkewEdgesModel" "tripleC" "I") (by decide +kernel)
  have hS : va_S (kA b 9) s.heap s.heap [] := va_S.rf
  have hP : va_P E.1 vwCl (wModx E b (u 0 0) (u 0 1) (u 0 2) (u 0 3) (u 0 4) (u 0 5) (u 0 6) (u 0 7) (u 1) (u 2) (u 3) (u 4) (u 5) (u 6) (u 7) (u 8)) s.heap := hP
  have hD := dMod (E := E) hj (u 0 0) (u 0 1) (u 0 2) (u 0 3) (u 0 4) (u 0 5) (u 0 6) (u 0 7) (u 1) (u 2) (u 3) (u 4) (u 5) (u 6) (u 7) (u 8)
  have hl := lv_entry ([.ref (b 0), .int x1, .int x2]) (n := 7) (Nat.le_of_ble_eq_true rfl)
  rw [lg_entry_eq]
  generalize (lg_sl ([.ref (b 0), .int x1, .int x2]) ++ List.replicate (7 - (lg_sl ([.ref (b 0), .int x1, .int x2])).length) Slot.unset).toArray = ls at hl ⊢
  have hl : lv_has ls 7 [(0, .ref (b 0)), (1, .int x1), (2, .int x2)] := hl
  replace hE := hE.trans mX6_findTriple_s
  refine lv_iconst (v := 0) hx hb dX6_findTriple_0 (by decide) ?_
  refine lv_istore_n (lv' := [(3, .int 0), (0, .ref (b 0)), (1, .int x1), (2, .int x2)]) hx hb dX6_findTriple_1 rfl hl (by decide) rfl (fun ls hl => ?_)
  have lp2 : ∀ (n2 : Nat) (i2 : Nat) (H : Heap) (locs : List Loc), (12 < i2 + n2) → (i2 ≤ 12) → va_P E.1 vwCl (wModx E b (u 0 0) (u 0 1) (u 0 2) (u 0 3) (u 0 4) (u 0 5) (u 0 6) (u 0 7) (u 1) (u 2) (u 3) (u 4) (u 5) (u 6) (u 7) (u 8)) H → va_S (kA b 9) s.heap H locs → ∀ ls : Array Slot, lv_has ls 7 [(3, .int (nI i2)), (0, .ref (b 0)), (1, .int x1), (2, .int x2)] → R = mX6_findTriple_L2 u x1 x2 n2 i2 → W p l e ({ frames := 6, cells := 0, slots := 0, locals := 134 }) s m ([.ref (b 0), .int x1, .int x2] : List Value).toArray below meth c H locs 0 0 (MQ below (kWi E R.1 (wModx E b (u 0 0) (u 0 1) R.2.1 R.2.2.1 R.2.2.2 (u 0 5) (u 0 6) (u 0 7) (u 1) (u 2) (u 3) (u 4) (u 5) (u 6) (u 7) (u 8)) (kA b 9)) ([.ref (b 0), .int x1, .int x2] : List Value).toArray s 0 0 (kA b 9)) (F0 m 2 ls []) := by
    clear hE
    intro n2
    induction n2 with
    | zero =>
      intro i2 H locs hm2 hi2 hP hS ls hl hE
      exact absurd hm2 (by omega)
    | succ n2 ih2 =>
      intro i2 H locs hm2 hi2 hP hS ls hl hE
      have hD := dMod (E := E) hj (u 0 0) (u 0 1) (u 0 2) (u 0 3) (u 0 4) (u 0 5) (u 0 6) (u 0 7) (u 1) (u 2) (u 3) (u 4) (u 5) (u 6) (u 7) (u 8)
      replace hE := hE.trans mX6_findTriple_L2_s
      refine lv_iload_n hx hb dX6_findTriple_2 rfl (lv_at hl 0 rfl) ?_
      refine lv_aload_n hx hb dX6_findTriple_3 rfl (lv_at hl 1 rfl) ?_
      refine va_get (D := E.1) (ci := 5) (v := .ref (b 1)) (C := RX6) (T := TX6) (N := 16) hx hb hts hiX6 hown hK.1 hP 0 rfl rfl 0 (by decide) hf7 (fun _ h9 => h9) rfl dX6_findTriple_4 ?_
      refine lv_iconst (v := 2) hx hb dX6_findTriple_7 (by decide) ?_
      refine va_iald (D := E.1) hx hb hK.1 hP 1 0 rfl rfl (vp_in_nI (n := 2) (by decide) (by decide)) dX6_findTriple_8 ?_
      refine W.eq (g2 := F0 m 9 ls [.int ((u 1) 2), .int (nI i2)]) rfl ?_
      refine lv_icmp_ge (tgt := 160) hx hb dX6_findTriple_9 (by decide) (fun c_1 => ?_) (fun c_1 => ?_)
      · replace hE := hE.trans (if_pos c_1)
        refine lv_iconst (v := 0) hx hb dX6_findTriple_160 (by decide) ?_
        subst R
        exact W.zret (v := 0) (ty := .boolean) hx hb hr rfl (fun t ht hW => ⟨rfl, by rw [ht]; exact hP, hS.F ht⟩) hS.2.2 dX6_findTriple_161
      · replace hE := hE.trans (if_neg c_1)
        have hbc_1 : i2 < 12 := nOK.lt (by assumption) (by omega) c_1
        refine lv_iconst (v := 0) hx hb dX6_findTriple_12 (by decide) ?_
        refine lv_istore (lv' := [(4, .int 0), (3, .int (nI i2)), (0, .ref (b 0)), (1, .int x1), (2, .int x2)]) hx hb dX6_findTriple_13 hl (by decide) rfl (fun ls hl => ?_)
        have lp15 : ∀ (n15 : Nat) (i15 : Nat) (H : Heap) (locs : List Loc), (12 < i15 + n15) → (i15 ≤ 12) → va_P E.1 vwCl (wModx E b (u 0 0) (u 0 1) (u 0 2) (u 0 3) (u 0 4) (u 0 5) (u 0 6) (u 0 7) (u 1) (u 2) (u 3) (u 4) (u 5) (u 6) (u 7) (u 8)) H → va_S (kA b 9) s.heap H locs → ∀ ls : Array Slot, lv_has ls 7 [(4, .int (nI i15)), (3, .int (nI i2)), (0, .ref (b 0)), (1, .int x1), (2, .int x2)] → R = mX6_findTriple_L15 u x1 x2 i2 (mX6_findTriple_K15 u x1 x2 i2 (mX6_findTriple_L2 u x1 x2 n2)) n15 i15 → W p l e ({ frames := 6, cells := 0, slots := 0, locals := 134 }) s m ([.ref (b 0), .int x1, .int x2] : List Value).toArray below meth c H locs 0 0 (MQ below (kWi E R.1 (wModx E b (u 0 0) (u 0 1) R.2.1 R.2.2.1 R.2.2.2 (u 0 5) (u 0 6) (u 0 7) (u 1) (u 2) (u 3) (u 4) (u 5) (u 6) (u 7) (u 8)) (kA b 9)) ([.ref (b 0), .int x1, .int x2] : List Value).toArray s 0 0 (kA b 9)) (F0 m 15 ls []) := by
          clear hE
          intro n15
          induction n15 with
          | zero =>
            intro i15 H locs hm15 hi15 hP hS ls hl hE
            exact absurd hm15 (by omega)
          | succ n15 ih15 =>
            intro i15 H locs hm15 hi15 hP hS ls hl hE
            have hD := dMod (E := E) hj (u 0 0) (u 0 1) (u 0 2) (u 0 3) (u 0 4) (u 0 5) (u 0 6) (u 0 7) (u 1) (u 2) (u 3) (u 4) (u 5) (u 6) (u 7) (u 8)
            replace hE := hE.trans mX6_findTriple_L15_s
            refine lv_iload hx hb dX6_findTriple_15 (lv_at hl 0 rfl) ?_
            refine lv_aload_n hx hb dX6_findTriple_17 rfl (lv_at hl 2 rfl) ?_
            refine va_get (D := E.1) (ci := 5) (v := .ref (b 1)) (C := RX6) (T := TX6) (N := 16) hx hb hts hiX6 hown hK.1 hP 0 rfl rfl 0 (by decide) hf7 (fun _ h9 => h9) rfl dX6_findTriple_18 ?_
            refine lv_iconst (v := 2) hx hb dX6_findTriple_21 (by decide) ?_
            refine va_iald (D := E.1) hx hb hK.1 hP 1 0 rfl rfl (vp_in_nI (n := 2) (by decide) (by decide)) dX6_findTriple_22 ?_
            refine W.eq (g2 := F0 m 23 ls [.int ((u 1) 2), .int (nI i15)]) rfl ?_
            refine lv_icmp_ge (tgt := 154) hx hb dX6_findTriple_23 (by decide) (fun c_2 => ?_) (fun c_2 => ?_)
            · replace hE := hE.trans (if_pos c_2)
              replace hE := hE.trans mX6_findTriple_K15_s
              refine lv_iinc (v := (nI (i2 + 1))) (lv' := [(3, .int (nI (i2 + 1))), (4, .int (nI i15)), (0, .ref (b 0)), (1, .int x1), (2, .int x2)]) hx hb dX6_findTriple_154 hl (k := 1) rfl (nI_1 i2) (by decide) rfl (fun ls hl => ?_)
              refine lv_goto (tgt := 2) hx hb dX6_findTriple_157 (by decide) ?_
              exact ih2 (i2 + 1) _ _ (by omega) (by omega) hP hS ls (lv_sub hl [0, 2, 3, 4] rfl) hE
            · replace hE := hE.trans (if_neg c_2)
              have hbc_2 : i15 < 12 := nOK.lt (by assumption) (by omega) c_2
              refine lv_iconst (v := 0) hx hb dX6_findTriple_26 (by decide) ?_
              refine lv_istore (lv' := [(5, .int 0), (4, .int (nI i15)), (3, .int (nI i2)), (0, .ref (b 0)), (1, .int x1), (2, .int x2)]) hx hb dX6_findTriple_27 hl (by decide) rfl (fun ls hl => ?_)
              have lp29 : ∀ (n29 : Nat) (i29 : Nat) (H : Heap) (locs : List Loc), (12 < i29 + n29) → (i29 ≤ 12) → va_P E.1 vwCl (wModx E b (u 0 0) (u 0 1) (u 0 2) (u 0 3) (u 0 4) (u 0 5) (u 0 6) (u 0 7) (u 1) (u 2) (u 3) (u 4) (u 5) (u 6) (u 7) (u 8)) H → va_S (kA b 9) s.heap H locs → ∀ ls : Array Slot, lv_has ls 7 [(5, .int (nI i29)), (4, .int (nI i15)), (3, .int (nI i2)), (0, .ref (b 0)), (1, .int x1), (2, .int x2)] → R = mX6_findTriple_L29 u x1 x2 i2 i15 (mX6_findTriple_K29 u x1 x2 i2 i15 (mX6_findTriple_L15 u x1 x2 i2 (mX6_findTriple_K15 u x1 x2 i2 (mX6_findTriple_L2 u x1 x2 n2)) n15)) n29 i29 → W p l e ({ frames := 6, cells := 0, slots := 0, locals := 134 }) s m ([.ref (b 0), .int x1, .int x2] : List Value).toArray below meth c H locs 0 0 (MQ below (kWi E R.1 (wModx E b (u 0 0) (u 0 1) R.2.1 R.2.2.1 R.2.2.2 (u 0 5) (u 0 6) (u 0 7) (u 1) (u 2) (u 3) (u 4) (u 5) (u 6) (u 7) (u 8)) (kA b 9)) ([.ref (b 0), .int x1, .int x2] : List Value).toArray s 0 0 (kA b 9)) (F0 m 29 ls []) := by
                clear hE
                intro n29
                induction n29 with
                | zero =>
                  intro i29 H locs hm29 hi29 hP hS ls hl hE
                  exact absurd hm29 (by omega)
                | succ n29 ih29 =>
                  intro i29 H locs hm29 hi29 hP hS ls hl hE
                  have hD := dMod (E := E) hj (u 0 0) (u 0 1) (u 0 2) (u 0 3) (u 0 4) (u 0 5) (u 0 6) (u 0 7) (u 1) (u 2) (u 3) (u 4) (u 5) (u 6) (u 7) (u 8)
                  replace hE := hE.trans mX6_findTriple_L29_s
                  refine lv_iload hx hb dX6_findTriple_29 (lv_at hl 0 rfl) ?_
                  refine lv_aload_n hx hb dX6_findTriple_31 rfl (lv_at hl 3 rfl) ?_
                  refine va_get (D := E.1) (ci := 5) (v := .ref (b 1)) (C := RX6) (T := TX6) (N := 16) hx hb hts hiX6 hown hK.1 hP 0 rfl rfl 0 (by decide) hf7 (fun _ h9 => h9) rfl dX6_findTriple_32 ?_
                  refine lv_iconst (v := 2) hx hb dX6_findTriple_35 (by decide) ?_
                  refine va_iald (D := E.1) hx hb hK.1 hP 1 0 rfl rfl (vp_in_nI (n := 2) (by decide) (by decide)) dX6_findTriple_36 ?_
                  refine W.eq (g2 := F0 m 37 ls [.int ((u 1) 2), .int (nI i29)]) rfl ?_
                  refine lv_icmp_ge (tgt := 148) hx hb dX6_findTriple_37 (by decide) (fun c_3 => ?_) (fun c_3 => ?_)
                  · replace hE := hE.trans (if_pos c_3)
                    replace hE := hE.trans mX6_findTriple_K29_s
                    refine lv_iinc (v := (nI (i15 + 1))) (lv' := [(4, .int (nI (i15 + 1))), (5, .int (nI i29)), (3, .int (nI i2)), (0, .ref (b 0)), (1, .int x1), (2, .int x2)]) hx hb dX6_findTriple_148 hl (k := 1) rfl (nI_1 i15) (by decide) rfl (fun ls hl => ?_)
                    refine lv_goto (tgt := 15) hx hb dX6_findTriple_151 (by decide) ?_
                    exact ih15 (i15 + 1) _ _ (by omega) (by omega) hP hS ls (lv_sub hl [0, 2, 3, 4, 5] rfl) hE
                  · replace hE := hE.trans (if_neg c_3)
                    have hbc_3 : i29 < 12 := nOK.lt (by assumption) (by omega) c_3
                    refine lv_aload_n hx hb dX6_findTriple_40 rfl (lv_at hl 3 rfl) ?_
                    refine lv_iload hx hb dX6_findTriple_41 (lv_at hl 1 rfl) ?_
                    refine lv_iconst (v := 1) hx hb dX6_findTriple_43 (by decide) ?_
                    refine kCallRi (va_runV (As := [.int (nI i15), .int 1]) (rest := []) ⟨hx, hb, hml, hown, hts⟩ (c_X6_isIn l E b u (nI i15) 1 (tOK.nI (by omega)) _ rfl) (cwV 2 hts gX6_findTriple_X6_isIn rfl rfl rfl (by decide +kernel) ⟨Nat.le_of_ble_eq_true rfl, Nat.le_of_ble_eq_true rfl⟩) (kPreV hK hP hP (q0 := 0) rfl rfl) rfl rfl hl.1 rfl (lv_room (Nat.le_of_ble_eq_true rfl)) dX6_findTriple_44 ⟨Nat.zero_le _, Nat.zero_le _⟩) ?_
                    refine lv_if_eq (tgt := 90) hx hb dX6_findTriple_47 (by decide) (fun c_4 => ?_) (fun c_4 => ?_)
                    · replace hE := hE.trans (if_pos c_4)
                      refine lv_iconst (v := 0) hx hb dX6_findTriple_90 (by decide) ?_
                      refine lv_istore (lv' := [(6, .int 0), (5, .int (nI i29)), (4, .int (nI i15)), (3, .int (nI i2)), (0, .ref (b 0)), (1, .int x1), (2, .int x2)]) hx hb dX6_findTriple_91 hl (by decide) rfl (fun ls hl => ?_)
                      refine lv_iload hx hb dX6_findTriple_93 (lv_at hl 0 rfl) ?_
                      refine lv_if_eq (tgt := 142) hx hb dX6_findTriple_95 (by decide) (fun _ => ?_) (fun c => absurd (by decide) c)
                      refine lv_iinc (v := (nI (i29 + 1))) (lv' := [(5, .int (nI (i29 + 1))), (6, .int 0), (4, .int (nI i15)), (3, .int (nI i2)), (0, .ref (b 0)), (1, .int x1), (2, .int x2)]) hx hb dX6_findTriple_142 hl (k := 1) rfl (nI_1 i29) (by decide) rfl (fun ls hl => ?_)
                      refine lv_goto (tgt := 29) hx hb dX6_findTriple_145 (by decide) ?_
                      exact ih29 (i29 + 1) _ _ (by omega) (by omega) hP hS ls (lv_sub hl [0, 2, 3, 4, 5, 6] rfl) hE
                    · replace hE := hE.trans (if_neg c_4)
                      refine lv_aload_n hx hb dX6_findTriple_50 rfl (lv_at hl 3 rfl) ?_
                      refine lv_iload_n hx hb dX6_findTriple_51 rfl (lv_at hl 2 rfl) ?_
                      refine lv_iconst (v := 1) hx hb dX6_findTriple_52 (by decide) ?_
                      refine kCallRi (va_runV (As := [.int (nI i2), .int 1]) (rest := []) ⟨hx, hb, hml, hown, hts⟩ (c_X6_isIn l E b u (nI i2) 1 (tOK.nI (by omega)) _ rfl) (cwV 2 hts gX6_findTriple_X6_isIn rfl rfl rfl (by decide +kernel) ⟨Nat.le_of_ble_eq_true rfl, Nat.le_of_ble_eq_true rfl⟩) (kPreV hK hP hP (q0 := 0) rfl rfl) rfl rfl hl.1 rfl (lv_room (Nat.le_of_ble_eq_true rfl)) dX6_findTriple_53 ⟨Nat.zero_le _, Nat.zero_le _⟩) ?_
                      refine lv_if_eq (tgt := 90) hx hb dX6_findTriple_56 (by decide) (fun c_5 => ?_) (fun c_5 => ?_)
                      · replace hE := hE.trans (if_pos c_5)
                        refine lv_iconst (v := 0) hx hb dX6_findTriple_90 (by decide) ?_
                        refine lv_istore (lv' := [(6, .int 0), (5, .int (nI i29)), (4, .int (nI i15)), (3, .int (nI i2)), (0, .ref (b 0)), (1, .int x1), (2, .int x2)]) hx hb dX6_findTriple_91 hl (by decide) rfl (fun ls hl => ?_)
                        refine lv_iload hx hb dX6_findTriple_93 (lv_at hl 0 rfl) ?_
                        refine lv_if_eq (tgt := 142) hx hb dX6_findTriple_95 (by decide) (fun _ => ?_) (fun c => absurd (by decide) c)
                        refine lv_iinc (v := (nI (i29 + 1))) (lv' := [(5, .int (nI (i29 + 1))), (6, .int 0), (4, .int (nI i15)), (3, .int (nI i2)), (0, .ref (b 0)), (1, .int x1), (2, .int x2)]) hx hb dX6_findTriple_142 hl (k := 1) rfl (nI_1 i29) (by decide) rfl (fun ls hl => ?_)
                        refine lv_goto (tgt := 29) hx hb dX6_findTriple_145 (by decide) ?_
                        exact ih29 (i29 + 1) _ _ (by omega) (by omega) hP hS ls (lv_sub hl [0, 2, 3, 4, 5, 6] rfl) hE
                      · replace hE := hE.trans (if_neg c_5)
                        refine lv_aload_n hx hb dX6_findTriple_59 rfl (lv_at hl 3 rfl) ?_
                        refine lv_iload hx hb dX6_findTriple_60 (lv_at hl 0 rfl) ?_
                        refine lv_iconst (v := 1) hx hb dX6_findTriple_62 (by decide) ?_
                        refine kCallRi (va_runV (As := [.int (nI i29), .int 1]) (rest := []) ⟨hx, hb, hml, hown, hts⟩ (c_X6_isIn l E b u (nI i29) 1 (tOK.nI (by omega)) _ rfl) (cwV 2 hts gX6_findTriple_X6_isIn rfl rfl rfl (by decide +kernel) ⟨Nat.le_of_ble_eq_true rfl, Nat.le_of_ble_eq_true rfl⟩) (kPreV hK hP hP (q0 := 0) rfl rfl) rfl rfl hl.1 rfl (lv_room (Nat.le_of_ble_eq_true rfl)) dX6_findTriple_63 ⟨Nat.zero_le _, Nat.zero_le _⟩) ?_
                        refine lv_if_eq (tgt := 90) hx hb dX6_findTriple_66 (by decide) (fun c_6 => ?_) (fun c_6 => ?_)
                        · replace hE := hE.trans (if_pos c_6)
                          refine lv_iconst (v := 0) hx hb dX6_findTriple_90 (by decide) ?_
                          refine lv_istore (lv' := [(6, .int 0), (5, .int (nI i29)), (4, .int (nI i15)), (3, .int (nI i2)), (0, .ref (b 0)), (1, .int x1), (2, .int x2)]) hx hb dX6_findTriple_91 hl (by decide) rfl (fun ls hl => ?_)
                          refine lv_iload hx hb dX6_findTriple_93 (lv_at hl 0 rfl) ?_
                          refine lv_if_eq (tgt := 142) hx hb dX6_findTriple_95 (by decide) (fun _ => ?_) (fun c => absurd (by decide) c)
                          refine lv_iinc (v := (nI (i29 + 1))) (lv' := [(5, .int (nI (i29 + 1))), (6, .int 0), (4, .int (nI i15)), (3, .int (nI i2)), (0, .ref (b 0)), (1, .int x1), (2, .int x2)]) hx hb dX6_findTriple_142 hl (k := 1) rfl (nI_1 i29) (by decide) rfl (fun ls hl => ?_)
                          refine lv_goto (tgt := 29) hx hb dX6_findTriple_145 (by decide) ?_
                          exact ih29 (i29 + 1) _ _ (by omega) (by omega) hP hS ls (lv_sub hl [0, 2, 3, 4, 5, 6] rfl) hE
                        · replace hE := hE.trans (if_neg c_6)
                          refine lv_iload hx hb dX6_findTriple_69 (lv_at hl 1 rfl) ?_
                          refine lv_iload_n hx hb dX6_findTriple_71 rfl (lv_at hl 4 rfl) ?_
                          refine lv_icmp_eq (tgt := 86) hx hb dX6_findTriple_72 (by decide) (fun c_7 => ?_) (fun c_7 => ?_)
                          · replace hE := hE.trans (if_pos c_7)
                            refine lv_iconst (v := 1) hx hb dX6_findTriple_86 (by decide) ?_
                            refine lv_goto (tgt := 91) hx hb dX6_findTriple_87 (by decide) ?_
                            refine lv_istore (lv' := [(6, .int 1), (5, .int (nI i29)), (4, .int (nI i15)), (3, .int (nI i2)), (0, .ref (b 0)), (1, .int x1), (2, .int x2)]) hx hb dX6_findTriple_91 hl (by decide) rfl (fun ls hl => ?_)
                            refine lv_iload hx hb dX6_findTriple_93 (lv_at hl 0 rfl) ?_
                            refine lv_if_eq (tgt := 142) hx hb dX6_findTriple_95 (by decide) (fun c => absurd c (by decide)) (fun _ => ?_)
                            refine lv_aload_n hx hb dX6_findTriple_98 rfl (lv_at hl 4 rfl) ?_
                            refine lv_iload hx hb dX6_findTriple_99 (lv_at hl 2 rfl) ?_
                            refine lv_iload_n hx hb dX6_findTriple_101 rfl (lv_at hl 3 rfl) ?_
                            refine lv_iload hx hb dX6_findTriple_102 (lv_at hl 1 rfl) ?_
                            refine kCallRi (va_runV (As := [.int (nI i15), .int (nI i2), .int (nI i29)]) (rest := []) ⟨hx, hb, hml, hown, hts⟩ (c_X6_isTriple l E b u (nI i15) (nI i2) (nI i29) (tOK.nI (by omega)) (tOK.nI (by omega)) (tOK.nI (by omega)) _ rfl) (cwV 3 hts gX6_findTriple_X6_isTriple rfl rfl rfl (by decide +kernel) ⟨Nat.le_of_ble_eq_true rfl, Nat.le_of_ble_eq_true rfl⟩) (kPreV hK hP hP (q0 := 0) rfl rfl) rfl rfl hl.1 rfl (lv_room (Nat.le_of_ble_eq_true rfl)) dX6_findTriple_104 ⟨Nat.zero_le _, Nat.zero_le _⟩) ?_
                            refine lv_if_eq (tgt := 142) hx hb dX6_findTriple_107 (by decide) (fun c_8 => ?_) (fun c_8 => ?_)
                            · replace hE := hE.trans (if_pos c_8)
                              refine lv_iinc (v := (nI (i29 + 1))) (lv' := [(5, .int (nI (i29 + 1))), (6, .int 1), (4, .int (nI i15)), (3, .int (nI i2)), (0, .ref (b 0)), (1, .int x1), (2, .int x2)]) hx hb dX6_findTriple_142 hl (k := 1) rfl (nI_1 i29) (by decide) rfl (fun ls hl => ?_)
                              refine lv_goto (tgt := 29) hx hb dX6_findTriple_145 (by decide) ?_
                              exact ih29 (i29 + 1) _ _ (by omega) (by omega) hP hS ls (lv_sub hl [0, 2, 3, 4, 5, 6] rfl) hE
                            · replace hE := hE.trans (if_neg c_8)
                              refine lv_aload_n hx hb dX6_findTriple_110 rfl (lv_at hl 4 rfl) ?_
                              refine lv_iload_n hx hb dX6_findTriple_111 rfl (lv_at hl 6 rfl) ?_
                              refine lv_iload hx hb dX6_findTriple_112 (lv_at hl 2 rfl) ?_
                              refine lv_iload_n hx hb dX6_findTriple_114 rfl (lv_at hl 3 rfl) ?_
                              refine lv_iload hx hb dX6_findTriple_115 (lv_at hl 1 rfl) ?_
                              refine kCallRi (va_runV (As := [.int x2, .int (nI i15), .int (nI i2), .int (nI i29)]) (rest := []) ⟨hx, hb, hml, hown, hts⟩ (c_X6_counts l E b u x2 (nI i15) (nI i2) (nI i29) (tOK.nI (by omega)) (tOK.nI (by omega)) (tOK.nI (by omega)) _ rfl) (cwV 4 hts gX6_findTriple_X6_counts rfl rfl rfl (by decide +kernel) ⟨Nat.le_of_ble_eq_true rfl, Nat.le_of_ble_eq_true rfl⟩) (kPreV hK hP hP (q0 := 0) rfl rfl) rfl rfl hl.1 rfl (lv_room (Nat.le_of_ble_eq_true rfl)) dX6_findTriple_117 ⟨Nat.zero_le _, Nat.zero_le _⟩) ?_
                              refine lv_if_eq (tgt := 142) hx hb dX6_findTriple_120 (by decide) (fun c_9 => ?_) (fun c_9 => ?_)
                              · replace hE := hE.trans (if_pos c_9)
                                refine lv_iinc (v := (nI (i29 + 1))) (lv' := [(5, .int (nI (i29 + 1))), (6, .int 1), (4, .int (nI i15)), (3, .int (nI i2)), (0, .ref (b 0)), (1, .int x1), (2, .int x2)]) hx hb dX6_findTriple_142 hl (k := 1) rfl (nI_1 i29) (by decide) rfl (fun ls hl => ?_)
                                refine lv_goto (tgt := 29) hx hb dX6_findTriple_145 (by decide) ?_
                                exact ih29 (i29 + 1) _ _ (by omega) (by omega) hP hS ls (lv_sub hl [0, 2, 3, 4, 5, 6] rfl) hE
                              · replace hE := hE.trans (if_neg c_9)
                                refine lv_aload_n hx hb dX6_findTriple_123 rfl (lv_at hl 4 rfl) ?_
                                refine lv_iload hx hb dX6_findTriple_124 (lv_at hl 2 rfl) ?_
                                refine va_put (D := E.1) (ci := 5) (v := .int (nI i15)) (ty := .int) (C := RX6) (T := TX6) (N := 16) hx hb hts hiX6 tyX6 tyX6_ok nmX6 hown hK.1 hP hD hS 0 rfl rfl 7 (by decide) hf74 (fun _ h9 => h9) rfl (by decide +kernel) rfl rfl (Nat.le_of_ble_eq_true rfl) dX6_findTriple_126 (fun H locs hP _ hS => ?_)
                                have hP : va_P E.1 vwCl (wModx E b (u 0 0) (u 0 1) (nI i15) (u 0 3) (u 0 4) (u 0 5) (u 0 6) (u 0 7) (u 1) (u 2) (u 3) (u 4) (u 5) (u 6) (u 7) (u 8)) H := hP
                                have hD := dMod (E := E) hj (u 0 0) (u 0 1) (nI i15) (u 0 3) (u 0 4) (u 0 5) (u 0 6) (u 0 7) (u 1) (u 2) (u 3) (u 4) (u 5) (u 6) (u 7) (u 8)
                                refine lv_aload_n hx hb dX6_findTriple_129 rfl (lv_at hl 4 rfl) ?_
                                refine lv_iload_n hx hb dX6_findTriple_130 rfl (lv_at hl 3 rfl) ?_
                                refine va_put (D := E.1) (ci := 5) (v := .int (nI i2)) (ty := .int) (C := RX6) (T := TX6) (N := 16) hx hb hts hiX6 tyX6 tyX6_ok nmX6 hown hK.1 hP hD hS 0 rfl rfl 8 (by decide) hf77 (fun _ h9 => h9) rfl (by decide +kernel) rfl rfl (Nat.le_of_ble_eq_true rfl) dX6_findTriple_131 (fun H locs hP _ hS => ?_)
                                have hP : va_P E.1 vwCl (wModx E b (u 0 0) (u 0 1) (nI i15) (nI i2) (u 0 4) (u 0 5) (u 0 6) (u 0 7) (u 1) (u 2) (u 3) (u 4) (u 5) (u 6) (u 7) (u 8)) H := hP
                                have hD := dMod (E := E) hj (u 0 0) (u 0 1) (nI i15) (nI i2) (u 0 4) (u 0 5) (u 0 6) (u 0 7) (u 1) (u 2) (u 3) (u 4) (u 5) (u 6) (u 7) (u 8)
                                refine lv_aload_n hx hb dX6_findTriple_134 rfl (lv_at hl 4 rfl) ?_
                                refine lv_iload hx hb dX6_findTriple_135 (lv_at hl 1 rfl) ?_
                                refine va_put (D := E.1) (ci := 5) (v := .int (nI i29)) (ty := .int) (C := RX6) (T := TX6) (N := 16) hx hb hts hiX6 tyX6 tyX6_ok nmX6 hown hK.1 hP hD hS 0 rfl rfl 9 (by decide) hf80 (fun _ h9 => h9) rfl (by decide +kernel) rfl rfl (Nat.le_of_ble_eq_true rfl) dX6_findTriple_137 (fun H locs hP _ hS => ?_)
                                have hP : va_P E.1 vwCl (wModx E b (u 0 0) (u 0 1) (nI i15) (nI i2) (nI i29) (u 0 5) (u 0 6) (u 0 7) (u 1) (u 2) (u 3) (u 4) (u 5) (u 6) (u 7) (u 8)) H := hP
                                have hD := dMod (E := E) hj (u 0 0) (u 0 1) (nI i15) (nI i2) (nI i29) (u 0 5) (u 0 6) (u 0 7) (u 1) (u 2) (u 3) (u 4) (u 5) (u 6) (u 7) (u 8)
                                refine lv_iconst (v := 1) hx hb dX6_findTriple_140 (by decide) ?_
                                subst R
                                exact W.zret (v := 1) (ty := .boolean) hx hb hr rfl (fun t ht hW => ⟨rfl, by rw [ht]; exact hP, hS.F ht⟩) hS.2.2 dX6_findTriple_141
                          · replace hE := hE.trans (if_neg c_7)
                            refine lv_iload_n hx hb dX6_findTriple_75 rfl (lv_at hl 2 rfl) ?_
                            refine lv_iload_n hx hb dX6_findTriple_76 rfl (lv_at hl 4 rfl) ?_
                            refine lv_icmp_eq (tgt := 86) hx hb dX6_findTriple_77 (by decide) (fun c_10 => ?_) (fun c_10 => ?_)
                            · replace hE := hE.trans (if_pos c_10)
                              refine lv_iconst (v := 1) hx hb dX6_findTriple_86 (by decide) ?_
                              refine lv_goto (tgt := 91) hx hb dX6_findTriple_87 (by decide) ?_
                              refine lv_istore (lv' := [(6, .int 1), (5, .int (nI i29)), (4, .int (nI i15)), (3, .int (nI i2)), (0, .ref (b 0)), (1, .int x1), (2, .int x2)]) hx hb dX6_findTriple_91 hl (by decide) rfl (fun ls hl => ?_)
                              refine lv_iload hx hb dX6_findTriple_93 (lv_at hl 0 rfl) ?_
                              refine lv_if_eq (tgt := 142) hx hb dX6_findTriple_95 (by decide) (fun c => absurd c (by decide)) (fun _ => ?_)
                              refine lv_aload_n hx hb dX6_findTriple_98 rfl (lv_at hl 4 rfl) ?_
                              refine lv_iload hx hb dX6_findTriple_99 (lv_at hl 2 rfl) ?_
                              refine lv_iload_n hx hb dX6_findTriple_101 rfl (lv_at hl 3 rfl) ?_
                              refine lv_iload hx hb dX6_findTriple_102 (lv_at hl 1 rfl) ?_
                              refine kCallRi (va_runV (As := [.int (nI i15), .int (nI i2), .int (nI i29)]) (rest := []) ⟨hx, hb, hml, hown, hts⟩ (c_X6_isTriple l E b u (nI i15) (nI i2) (nI i29) (tOK.nI (by omega)) (tOK.nI (by omega)) (tOK.nI (by omega)) _ rfl) (cwV 3 hts gX6_findTriple_X6_isTriple rfl rfl rfl (by decide +kernel) ⟨Nat.le_of_ble_eq_true rfl, Nat.le_of_ble_eq_true rfl⟩) (kPreV hK hP hP (q0 := 0) rfl rfl) rfl rfl hl.1 rfl (lv_room (Nat.le_of_ble_eq_true rfl)) dX6_findTriple_104 ⟨Nat.zero_le _, Nat.zero_le _⟩) ?_
                              refine lv_if_eq (tgt := 142) hx hb dX6_findTriple_107 (by decide) (fun c_11 => ?_) (fun c_11 => ?_)
                              · replace hE := hE.trans (if_pos c_11)
                                refine lv_iinc (v := (nI (i29 + 1))) (lv' := [(5, .int (nI (i29 + 1))), (6, .int 1), (4, .int (nI i15)), (3, .int (nI i2)), (0, .ref (b 0)), (1, .int x1), (2, .int x2)]) hx hb dX6_findTriple_142 hl (k := 1) rfl (nI_1 i29) (by decide) rfl (fun ls hl => ?_)
                                refine lv_goto (tgt := 29) hx hb dX6_findTriple_145 (by decide) ?_
                                exact ih29 (i29 + 1) _ _ (by omega) (by omega) hP hS ls (lv_sub hl [0, 2, 3, 4, 5, 6] rfl) hE
                              · replace hE := hE.trans (if_neg c_11)
                                refine lv_aload_n hx hb dX6_findTriple_110 rfl (lv_at hl 4 rfl) ?_
                                refine lv_iload_n hx hb dX6_findTriple_111 rfl (lv_at hl 6 rfl) ?_
                                refine lv_iload hx hb dX6_findTriple_112 (lv_at hl 2 rfl) ?_
                                refine lv_iload_n hx hb dX6_findTriple_114 rfl (lv_at hl 3 rfl) ?_
                                refine lv_iload hx hb dX6_findTriple_115 (lv_at hl 1 rfl) ?_
                                refine kCallRi (va_runV (As := [.int x2, .int (nI i15), .int (nI i2), .int (nI i29)]) (rest := []) ⟨hx, hb, hml, hown, hts⟩ (c_X6_counts l E b u x2 (nI i15) (nI i2) (nI i29) (tOK.nI (by omega)) (tOK.nI (by omega)) (tOK.nI (by omega)) _ rfl) (cwV 4 hts gX6_findTriple_X6_counts rfl rfl rfl (by decide +kernel) ⟨Nat.le_of_ble_eq_true rfl, Nat.le_of_ble_eq_true rfl⟩) (kPreV hK hP hP (q0 := 0) rfl rfl) rfl rfl hl.1 rfl (lv_room (Nat.le_of_ble_eq_true rfl)) dX6_findTriple_117 ⟨Nat.zero_le _, Nat.zero_le _⟩) ?_
                                refine lv_if_eq (tgt := 142) hx hb dX6_findTriple_120 (by decide) (fun c_12 => ?_) (fun c_12 => ?_)
                                · replace hE := hE.trans (if_pos c_12)
                                  refine lv_iinc (v := (nI (i29 + 1))) (lv' := [(5, .int (nI (i29 + 1))), (6, .int 1), (4, .int (nI i15)), (3, .int (nI i2)), (0, .ref (b 0)), (1, .int x1), (2, .int x2)]) hx hb dX6_findTriple_142 hl (k := 1) rfl (nI_1 i29) (by decide) rfl (fun ls hl => ?_)
                                  refine lv_goto (tgt := 29) hx hb dX6_findTriple_145 (by decide) ?_
                                  exact ih29 (i29 + 1) _ _ (by omega) (by omega) hP hS ls (lv_sub hl [0, 2, 3, 4, 5, 6] rfl) hE
                                · replace hE := hE.trans (if_neg c_12)
                                  refine lv_aload_n hx hb dX6_findTriple_123 rfl (lv_at hl 4 rfl) ?_
                                  refine lv_iload hx hb dX6_findTriple_124 (lv_at hl 2 rfl) ?_
                                  refine va_put (D := E.1) (ci := 5) (v := .int (nI i15)) (ty := .int) (C := RX6) (T := TX6) (N := 16) hx hb hts hiX6 tyX6 tyX6_ok nmX6 hown hK.1 hP hD hS 0 rfl rfl 7 (by decide) hf74 (fun _ h9 => h9) rfl (by decide +kernel) rfl rfl (Nat.le_of_ble_eq_true rfl) dX6_findTriple_126 (fun H locs hP _ hS => ?_)
                                  have hP : va_P E.1 vwCl (wModx E b (u 0 0) (u 0 1) (nI i15) (u 0 3) (u 0 4) (u 0 5) (u 0 6) (u 0 7) (u 1) (u 2) (u 3) (u 4) (u 5) (u 6) (u 7) (u 8)) H := hP
                                  have hD := dMod (E := E) hj (u 0 0) (u 0 1) (nI i15) (u 0 3) (u 0 4) (u 0 5) (u 0 6) (u 0 7) (u 1) (u 2) (u 3) (u 4) (u 5) (u 6) (u 7) (u 8)
                                  refine lv_aload_n hx hb dX6_findTriple_129 rfl (lv_at hl 4 rfl) ?_
                                  refine lv_iload_n hx hb dX6_findTriple_130 rfl (lv_at hl 3 rfl) ?_
                                  refine va_put (D := E.1) (ci := 5) (v := .int (nI i2)) (ty := .int) (C := RX6) (T := TX6) (N := 16) hx hb hts hiX6 tyX6 tyX6_ok nmX6 hown hK.1 hP hD hS 0 rfl rfl 8 (by decide) hf77 (fun _ h9 => h9) rfl (by decide +kernel) rfl rfl (Nat.le_of_ble_eq_true rfl) dX6_findTriple_131 (fun H locs hP _ hS => ?_)
                                  have hP : va_P E.1 vwCl (wModx E b (u 0 0) (u 0 1) (nI i15) (nI i2) (u 0 4) (u 0 5) (u 0 6) (u 0 7) (u 1) (u 2) (u 3) (u 4) (u 5) (u 6) (u 7) (u 8)) H := hP
                                  have hD := dMod (E := E) hj (u 0 0) (u 0 1) (nI i15) (nI i2) (u 0 4) (u 0 5) (u 0 6) (u 0 7) (u 1) (u 2) (u 3) (u 4) (u 5) (u 6) (u 7) (u 8)
                                  refine lv_aload_n hx hb dX6_findTriple_134 rfl (lv_at hl 4 rfl) ?_
                                  refine lv_iload hx hb dX6_findTriple_135 (lv_at hl 1 rfl) ?_
                                  refine va_put (D := E.1) (ci := 5) (v := .int (nI i29)) (ty := .int) (C := RX6) (T := TX6) (N := 16) hx hb hts hiX6 tyX6 tyX6_ok nmX6 hown hK.1 hP hD hS 0 rfl rfl 9 (by decide) hf80 (fun _ h9 => h9) rfl (by decide +kernel) rfl rfl (Nat.le_of_ble_eq_true rfl) dX6_findTriple_137 (fun H locs hP _ hS => ?_)
                                  have hP : va_P E.1 vwCl (wModx E b (u 0 0) (u 0 1) (nI i15) (nI i2) (nI i29) (u 0 5) (u 0 6) (u 0 7) (u 1) (u 2) (u 3) (u 4) (u 5) (u 6) (u 7) (u 8)) H := hP
                                  have hD := dMod (E := E) hj (u 0 0) (u 0 1) (nI i15) (nI i2) (nI i29) (u 0 5) (u 0 6) (u 0 7) (u 1) (u 2) (u 3) (u 4) (u 5) (u 6) (u 7) (u 8)
                                  refine lv_iconst (v := 1) hx hb dX6_findTriple_140 (by decide) ?_
                                  subst R
                                  exact W.zret (v := 1) (ty := .boolean) hx hb hr rfl (fun t ht hW => ⟨rfl, by rw [ht]; exact hP, hS.F ht⟩) hS.2.2 dX6_findTriple_141
                            · replace hE := hE.trans (if_neg c_10)
                              refine lv_iload hx hb dX6_findTriple_80 (lv_at hl 0 rfl) ?_
                              refine lv_iload_n hx hb dX6_findTriple_82 rfl (lv_at hl 4 rfl) ?_
                              refine lv_icmp_ne (tgt := 90) hx hb dX6_findTriple_83 (by decide) (fun c_13 => ?_) (fun c_13 => ?_)
                              · replace hE := hE.trans (if_neg c_13)
                                refine lv_iconst (v := 0) hx hb dX6_findTriple_90 (by decide) ?_
                                refine lv_istore (lv' := [(6, .int 0), (5, .int (nI i29)), (4, .int (nI i15)), (3, .int (nI i2)), (0, .ref (b 0)), (1, .int x1), (2, .int x2)]) hx hb dX6_findTriple_91 hl (by decide) rfl (fun ls hl => ?_)
                                refine lv_iload hx hb dX6_findTriple_93 (lv_at hl 0 rfl) ?_
                                refine lv_if_eq (tgt := 142) hx hb dX6_findTriple_95 (by decide) (fun _ => ?_) (fun c => absurd (by decide) c)
                                refine lv_iinc (v := (nI (i29 + 1))) (lv' := [(5, .int (nI (i29 + 1))), (6, .int 0), (4, .int (nI i15)), (3, .int (nI i2)), (0, .ref (b 0)), (1, .int x1), (2, .int x2)]) hx hb dX6_findTriple_142 hl (k := 1) rfl (nI_1 i29) (by decide) rfl (fun ls hl => ?_)
                                refine lv_goto (tgt := 29) hx hb dX6_findTriple_145 (by decide) ?_
                                exact ih29 (i29 + 1) _ _ (by omega) (by omega) hP hS ls (lv_sub hl [0, 2, 3, 4, 5, 6] rfl) hE
                              · replace hE := hE.trans (if_pos c_13)
                                refine lv_iconst (v := 1) hx hb dX6_findTriple_86 (by decide) ?_
                                refine lv_goto (tgt := 91) hx hb dX6_findTriple_87 (by decide) ?_
                                refine lv_istore (lv' := [(6, .int 1), (5, .int (nI i29)), (4, .int (nI i15)), (3, .int (nI i2)), (0, .ref (b 0)), (1, .int x1), (2, .int x2)]) hx hb dX6_findTriple_91 hl (by decide) rfl (fun ls hl => ?_)
                                refine lv_iload hx hb dX6_findTriple_93 (lv_at hl 0 rfl) ?_
                                refine lv_if_eq (tgt := 142) hx hb dX6_findTriple_95 (by decide) (fun c => absurd c (by decide)) (fun _ => ?_)
                                refine lv_aload_n hx hb dX6_findTriple_98 rfl (lv_at hl 4 rfl) ?_
                                refine lv_iload hx hb dX6_findTriple_99 (lv_at hl 2 rfl) ?_
                                refine lv_iload_n hx hb dX6_findTriple_101 rfl (lv_at hl 3 rfl) ?_
                                refine lv_iload hx hb dX6_findTriple_102 (lv_at hl 1 rfl) ?_
                                refine kCallRi (va_runV (As := [.int (nI i15), .int (nI i2), .int (nI i29)]) (rest := []) ⟨hx, hb, hml, hown, hts⟩ (c_X6_isTriple l E b u (nI i15) (nI i2) (nI i29) (tOK.nI (by omega)) (tOK.nI (by omega)) (tOK.nI (by omega)) _ rfl) (cwV 3 hts gX6_findTriple_X6_isTriple rfl rfl rfl (by decide +kernel) ⟨Nat.le_of_ble_eq_true rfl, Nat.le_of_ble_eq_true rfl⟩) (kPreV hK hP hP (q0 := 0) rfl rfl) rfl rfl hl.1 rfl (lv_room (Nat.le_of_ble_eq_true rfl)) dX6_findTriple_104 ⟨Nat.zero_le _, Nat.zero_le _⟩) ?_
                                refine lv_if_eq (tgt := 142) hx hb dX6_findTriple_107 (by decide) (fun c_14 => ?_) (fun c_14 => ?_)
                                · replace hE := hE.trans (if_pos c_14)
                                  refine lv_iinc (v := (nI (i29 + 1))) (lv' := [(5, .int (nI (i29 + 1))), (6, .int 1), (4, .int (nI i15)), (3, .int (nI i2)), (0, .ref (b 0)), (1, .int x1), (2, .int x2)]) hx hb dX6_findTriple_142 hl (k := 1) rfl (nI_1 i29) (by decide) rfl (fun ls hl => ?_)
                                  refine lv_goto (tgt := 29) hx hb dX6_findTriple_145 (by decide) ?_
                                  exact ih29 (i29 + 1) _ _ (by omega) (by omega) hP hS ls (lv_sub hl [0, 2, 3, 4, 5, 6] rfl) hE
                                · replace hE := hE.trans (if_neg c_14)
                                  refine lv_aload_n hx hb dX6_findTriple_110 rfl (lv_at hl 4 rfl) ?_
                                  refine lv_iload_n hx hb dX6_findTriple_111 rfl (lv_at hl 6 rfl) ?_
                                  refine lv_iload hx hb dX6_findTriple_112 (lv_at hl 2 rfl) ?_
                                  refine lv_iload_n hx hb dX6_findTriple_114 rfl (lv_at hl 3 rfl) ?_
                                  refine lv_iload hx hb dX6_findTriple_115 (lv_at hl 1 rfl) ?_
                                  refine kCallRi (va_runV (As := [.int x2, .int (nI i15), .int (nI i2), .int (nI i29)]) (rest := []) ⟨hx, hb, hml, hown, hts⟩ (c_X6_counts l E b u x2 (nI i15) (nI i2) (nI i29) (tOK.nI (by omega)) (tOK.nI (by omega)) (tOK.nI (by omega)) _ rfl) (cwV 4 hts gX6_findTriple_X6_counts rfl rfl rfl (by decide +kernel) ⟨Nat.le_of_ble_eq_true rfl, Nat.le_of_ble_eq_true rfl⟩) (kPreV hK hP hP (q0 := 0) rfl rfl) rfl rfl hl.1 rfl (lv_room (Nat.le_of_ble_eq_true rfl)) dX6_findTriple_117 ⟨Nat.zero_le _, Nat.zero_le _⟩) ?_
                                  refine lv_if_eq (tgt := 142) hx hb dX6_findTriple_120 (by decide) (fun c_15 => ?_) (fun c_15 => ?_)
                                  · replace hE := hE.trans (if_pos c_15)
                                    refine lv_iinc (v := (nI (i29 + 1))) (lv' := [(5, .int (nI (i29 + 1))), (6, .int 1), (4, .int (nI i15)), (3, .int (nI i2)), (0, .ref (b 0)), (1, .int x1), (2, .int x2)]) hx hb dX6_findTriple_142 hl (k := 1) rfl (nI_1 i29) (by decide) rfl (fun ls hl => ?_)
                                    refine lv_goto (tgt := 29) hx hb dX6_findTriple_145 (by decide) ?_
                                    exact ih29 (i29 + 1) _ _ (by omega) (by omega) hP hS ls (lv_sub hl [0, 2, 3, 4, 5, 6] rfl) hE
                                  · replace hE := hE.trans (if_neg c_15)
                                    refine lv_aload_n hx hb dX6_findTriple_123 rfl (lv_at hl 4 rfl) ?_
                                    refine lv_iload hx hb dX6_findTriple_124 (lv_at hl 2 rfl) ?_
                                    refine va_put (D := E.1) (ci := 5) (v := .int (nI i15)) (ty := .int) (C := RX6) (T := TX6) (N := 16) hx hb hts hiX6 tyX6 tyX6_ok nmX6 hown hK.1 hP hD hS 0 rfl rfl 7 (by decide) hf74 (fun _ h9 => h9) rfl (by decide +kernel) rfl rfl (Nat.le_of_ble_eq_true rfl) dX6_findTriple_126 (fun H locs hP _ hS => ?_)
                                    have hP : va_P E.1 vwCl (wModx E b (u 0 0) (u 0 1) (nI i15) (u 0 3) (u 0 4) (u 0 5) (u 0 6) (u 0 7) (u 1) (u 2) (u 3) (u 4) (u 5) (u 6) (u 7) (u 8)) H := hP
                                    have hD := dMod (E := E) hj (u 0 0) (u 0 1) (nI i15) (u 0 3) (u 0 4) (u 0 5) (u 0 6) (u 0 7) (u 1) (u 2) (u 3) (u 4) (u 5) (u 6) (u 7) (u 8)
                                    refine lv_aload_n hx hb dX6_findTriple_129 rfl (lv_at hl 4 rfl) ?_
                                    refine lv_iload_n hx hb dX6_findTriple_130 rfl (lv_at hl 3 rfl) ?_
                                    refine va_put (D := E.1) (ci := 5) (v := .int (nI i2)) (ty := .int) (C := RX6) (T := TX6) (N := 16) hx hb hts hiX6 tyX6 tyX6_ok nmX6 hown hK.1 hP hD hS 0 rfl rfl 8 (by decide) hf77 (fun _ h9 => h9) rfl (by decide +kernel) rfl rfl (Nat.le_of_ble_eq_true rfl) dX6_findTriple_131 (fun H locs hP _ hS => ?_)
                                    have hP : va_P E.1 vwCl (wModx E b (u 0 0) (u 0 1) (nI i15) (nI i2) (u 0 4) (u 0 5) (u 0 6) (u 0 7) (u 1) (u 2) (u 3) (u 4) (u 5) (u 6) (u 7) (u 8)) H := hP
                                    have hD := dMod (E := E) hj (u 0 0) (u 0 1) (nI i15) (nI i2) (u 0 4) (u 0 5) (u 0 6) (u 0 7) (u 1) (u 2) (u 3) (u 4) (u 5) (u 6) (u 7) (u 8)
                                    refine lv_aload_n hx hb dX6_findTriple_134 rfl (lv_at hl 4 rfl) ?_
                                    refine lv_iload hx hb dX6_findTriple_135 (lv_at hl 1 rfl) ?_
                                    refine va_put (D := E.1) (ci := 5) (v := .int (nI i29)) (ty := .int) (C := RX6) (T := TX6) (N := 16) hx hb hts hiX6 tyX6 tyX6_ok nmX6 hown hK.1 hP hD hS 0 rfl rfl 9 (by decide) hf80 (fun _ h9 => h9) rfl (by decide +kernel) rfl rfl (Nat.le_of_ble_eq_true rfl) dX6_findTriple_137 (fun H locs hP _ hS => ?_)
                                    have hP : va_P E.1 vwCl (wModx E b (u 0 0) (u 0 1) (nI i15) (nI i2) (nI i29) (u 0 5) (u 0 6) (u 0 7) (u 1) (u 2) (u 3) (u 4) (u 5) (u 6) (u 7) (u 8)) H := hP
                                    have hD := dMod (E := E) hj (u 0 0) (u 0 1) (nI i15) (nI i2) (nI i29) (u 0 5) (u 0 6) (u 0 7) (u 1) (u 2) (u 3) (u 4) (u 5) (u 6) (u 7) (u 8)
                                    refine lv_iconst (v := 1) hx hb dX6_findTriple_140 (by decide) ?_
                                    subst R
                                    exact W.zret (v := 1) (ty := .boolean) hx hb hr rfl (fun t ht hW => ⟨rfl, by rw [ht]; exact hP, hS.F ht⟩) hS.2.2 dX6_findTriple_141
              exact lp29 13 0 _ _ (by omega) (by omega) hP hS ls (lv_sub hl [0, 1, 2, 3, 4, 5] rfl) hE
        exact lp15 13 0 _ _ (by omega) (by omega) hP hS ls (lv_sub hl [0, 1, 2, 3, 4] rfl) hE
  exact lp2 13 0 _ _ (by omega) (by omega) hP hS ls (lv_sub hl [0, 1, 2, 3] rfl) hE
def mX6_setOf_L4 (u : kG) (x1 : Int32) : Nat → Int32 → Nat → (Int32)
  | 0, _, _ => 0
  | n4 + 1, x4_2, i4 =>
    if ((u 1) 2) ≤ (nI i4) then
      x4_2
    else
      if (mX6_isIn u (nI i4) x1) = 0 then
        mX6_setOf_L4 u x1 n4 (x4_2 ||| 0) (i4 + 1)
      else
        mX6_setOf_L4 u x1 n4 (x4_2 ||| (1 <<< ((nI i4) &&& 31))) (i4 + 1)
theorem mX6_setOf_L4_s {u : kG} {x1 : Int32} {n4 : Nat} {x4_2 : Int32} {i4 : Nat} : mX6_setOf_L4 u x1 (n4 + 1) x4_2 i4 = (
    if ((u 1) 2) ≤ (nI i4) then
      x4_2
    else
      if (mX6_isIn u (nI i4) x1) = 0 then
        mX6_setOf_L4 u x1 n4 (x4_2 ||| 0) (i4 + 1)
      else
        mX6_setOf_L4 u x1 n4 (x4_2 ||| (1 <<< ((nI i4) &&& 31))) (i4 + 1) : Int32) := rfl
def mX6_setOf (u : kG) (x1 : Int32) : Int32 :=
  mX6_setOf_L4 u x1 13 0 0
theorem mX6_setOf_s {u : kG} {x1 : Int32} : mX6_setOf u x1 = (
  mX6_setOf_L4 u x1 13 0 0 : Int32) := rfl
set_option maxHeartbeats 400000 in
set_option maxRecDepth 100000 in
theorem c_X6_setOf (l : Launch) (E : kE) (b : Nat → Nat) (u : kG) (x1 : Int32) (hm : nOK (u 1 2)) (R : Int32) (hE : R = mX6_setOf u x1) : Met l yX6_setOf wsX6_setOf ({ frames := 2, cells := 0, slots := 0, locals := 44 }) (kPre E [.ref (b 0), .int x1] (wModx E b (u 0 0) (u 0 1) (u 0 2) (u 0 3) (u 0 4) (u 0 5) (u 0 6) (u 0 7) (u 1) (u 2) (u 3) (u 4) (u 5) (u 6) (u 7) (u 8))) (kRi R) 0 0 (fun _ => False) := by
  refine Met.ofW (cc := cX6_setOf) (maxL := 4) (ret := (some .int)) (by decide) rfl ?_
  intro p e s m args below meth c s₁ B hml hv
  obtain ⟨rfl, hK, hP⟩ := hv
  have hx := B.exec
  have hb := B.bytes
  have hr := B.returns
  have hts := atoms_spec (ws := wsX6_setOf) B.pre
  have hown : s.vm.findClass RX6 = some m.cls := findClass_of_methodNamed B.named
  have hlocks := B.notSynchronized
  have hiX6 : ∀ w ∈ wsX60, w ∈ wsX6_setOf := by decide +kernel
  have hf7 := hts (.fieldLink RX6 7 "SkewEdgesModel" "z" "[I") (by decide +kernel)
  have hP : va_P E.1 vwCl (wModx E b (u 0 0) (u 0 1) (u 0 2) (u 0 3) (u 0 4) (u 0 5) (u 0 6) (u 0 7) (u 1) (u 2) (u 3) (u 4) (u 5) (u 6) (u 7) (u 8)) s.heap := hP
  have hl := lv_entry ([.ref (b 0), .int x1]) (n := 4) (Nat.le_of_ble_eq_true rfl)
  rw [lg_entry_eq]
  generalize (lg_sl ([.ref (b 0), .int x1]) ++ List.replicate (4 - (lg_sl ([.ref (b 0), .int x1])).length) Slot.unset).toArray = ls at hl ⊢
  have hl : lv_has ls 4 [(0, .ref (b 0)), (1, .int x1)] := hl
  replace hE := hE.trans mX6_setOf_s
  refine lv_iconst (v := 0) hx hb dX6_setOf_0 (by decide) ?_
  refine lv_istore_n (lv' := [(2, .int 0), (0, .ref (b 0)), (1, .int x1)]) hx hb dX6_setOf_1 rfl hl (by decide) rfl (fun ls hl => ?_)
  refine lv_iconst (v := 0) hx hb dX6_setOf_2 (by decide) ?_
  refine lv_istore_n (lv' := [(3, .int 0), (2, .int 0), (0, .ref (b 0)), (1, .int x1)]) hx hb dX6_setOf_3 rfl hl (by decide) rfl (fun ls hl => ?_)
  have lp4 : ∀ (n4 : Nat) (x4_2 : Int32) (i4 : Nat), (12 < i4 + n4) → (i4 ≤ 12) → ∀ ls : Array Slot, lv_has ls 4 [(3, .int (nI i4)), (2, .int x4_2), (0, .ref (b 0)), (1, .int x1)] → R = mX6_setOf_L4 u x1 n4 x4_2 i4 → W p l e ({ frames := 2, cells := 0, slots := 0, locals := 44 }) s m ([.ref (b 0), .int x1] : List Value).toArray below meth c s.heap [] 0 0 (MQ below (kRi R) ([.ref (b 0), .int x1] : List Value).toArray s 0 0 (fun _ => False)) (F0 m 4 ls []) := by
    clear hE
    intro n4
    induction n4 with
    | zero =>
      intro x4_2 i4 hm4 hi4 ls hl hE
      exact absurd hm4 (by omega)
    | succ n4 ih4 =>
      intro x4_2 i4 hm4 hi4 ls hl hE
      replace hE := hE.trans mX6_setOf_L4_s
      refine lv_iload_n hx hb dX6_setOf_4 rfl (lv_at hl 0 rfl) ?_
      refine lv_aload_n hx hb dX6_setOf_5 rfl (lv_at hl 2 rfl) ?_
      refine va_get (D := E.1) (ci := 5) (v := .ref (b 1)) (C := RX6) (T := TX6) (N := 16) hx hb hts hiX6 hown hK.1 hP 0 rfl rfl 0 (by decide) hf7 (fun _ h9 => h9) rfl dX6_setOf_6 ?_
      refine lv_iconst (v := 2) hx hb dX6_setOf_9 (by decide) ?_
      refine va_iald (D := E.1) hx hb hK.1 hP 1 0 rfl rfl (vp_in_nI (n := 2) (by decide) (by decide)) dX6_setOf_10 ?_
      refine W.eq (g2 := F0 m 11 ls [.int ((u 1) 2), .int (nI i4)]) rfl ?_
      refine lv_icmp_ge (tgt := 39) hx hb dX6_setOf_11 (by decide) (fun c_1 => ?_) (fun c_1 => ?_)
      · replace hE := hE.trans (if_pos c_1)
        refine lv_iload_n hx hb dX6_setOf_39 rfl (lv_at hl 1 rfl) ?_
        subst R
        exact W.iret (v := x4_2) hx hb hr (fun t ht hW => ⟨rfl, ht⟩) (fun _ h => by cases h) dX6_setOf_40
      · replace hE := hE.trans (if_neg c_1)
        have hbc_1 : i4 < 12 := nOK.lt (by assumption) (by omega) c_1
        refine lv_iload_n hx hb dX6_setOf_14 rfl (lv_at hl 1 rfl) ?_
        refine lv_aload_n hx hb dX6_setOf_15 rfl (lv_at hl 2 rfl) ?_
        refine lv_iload_n hx hb dX6_setOf_16 rfl (lv_at hl 0 rfl) ?_
        refine lv_iload_n hx hb dX6_setOf_17 rfl (lv_at hl 3 rfl) ?_
        refine kCallRi (va_runV (As := [.int (nI i4), .int x1]) (rest := [.int x4_2]) ⟨hx, hb, hml, hown, hts⟩ (c_X6_isIn l E b u (nI i4) x1 (tOK.nI (by omega)) _ rfl) (cwV 2 hts gX6_setOf_X6_isIn rfl rfl rfl (by decide +kernel) ⟨Nat.le_of_ble_eq_true rfl, Nat.le_of_ble_eq_true rfl⟩) (kPreV hK hP hP (q0 := 0) rfl rfl) rfl rfl hl.1 rfl (lv_room (Nat.le_of_ble_eq_true rfl)) dX6_setOf_18 ⟨Nat.zero_le _, Nat.zero_le _⟩) ?_
        refine lv_if_eq (tgt := 30) hx hb dX6_setOf_21 (by decide) (fun c_2 => ?_) (fun c_2 => ?_)
        · replace hE := hE.trans (if_pos c_2)
          refine lv_iconst (v := 0) hx hb dX6_setOf_30 (by decide) ?_
          refine lv_ior hx hb dX6_setOf_31 ?_
          refine lv_istore_n (lv' := [(2, .int (x4_2 ||| 0)), (3, .int (nI i4)), (0, .ref (b 0)), (1, .int x1)]) hx hb dX6_setOf_32 rfl hl (by decide) rfl (fun ls hl => ?_)
          refine lv_iinc (v := (nI (i4 + 1))) (lv' := [(3, .int (nI (i4 + 1))), (2, .int (x4_2 ||| 0)), (0, .ref (b 0)), (1, .int x1)]) hx hb dX6_setOf_33 hl (k := 1) rfl (nI_1 i4) (by decide) rfl (fun ls hl => ?_)
          refine lv_goto (tgt := 4) hx hb dX6_setOf_36 (by decide) ?_
          exact ih4 (x4_2 ||| 0) (i4 + 1) (by omega) (by omega) ls (lv_sub hl [0, 1, 2, 3] rfl) hE
        · replace hE := hE.trans (if_neg c_2)
          refine lv_iconst (v := 1) hx hb dX6_setOf_24 (by decide) ?_
          refine lv_iload_n hx hb dX6_setOf_25 rfl (lv_at hl 0 rfl) ?_
          refine lv_ishl hx hb dX6_setOf_26 ?_
          refine lv_goto (tgt := 31) hx hb dX6_setOf_27 (by decide) ?_
          refine lv_ior hx hb dX6_setOf_31 ?_
          refine lv_istore_n (lv' := [(2, .int (x4_2 ||| (1 <<< ((nI i4) &&& 31)))), (3, .int (nI i4)), (0, .ref (b 0)), (1, .int x1)]) hx hb dX6_setOf_32 rfl hl (by decide) rfl (fun ls hl => ?_)
          refine lv_iinc (v := (nI (i4 + 1))) (lv' := [(3, .int (nI (i4 + 1))), (2, .int (x4_2 ||| (1 <<< ((nI i4) &&& 31)))), (0, .ref (b 0)), (1, .int x1)]) hx hb dX6_setOf_33 hl (k := 1) rfl (nI_1 i4) (by decide) rfl (fun ls hl => ?_)
          refine lv_goto (tgt := 4) hx hb dX6_setOf_36 (by decide) ?_
          exact ih4 (x4_2 ||| (1 <<< ((nI i4) &&& 31))) (i4 + 1) (by omega) (by omega) ls (lv_sub hl [0, 1, 2, 3] rfl) hE
  exact lp4 13 0 0 (by omega) (by omega) ls (lv_sub hl [0, 1, 2, 3] rfl) hE
def mX6_bits_L4 (x1 : Int32) : Nat → Nat → Int32 → (Int32)
  | 0, _, _ => 0
  | n4 + 1, i4, x4_2 =>
    if x4_2 = 0 then
      (nI i4)
    else
      mX6_bits_L4 x1 n4 (i4 + 1) (x4_2 &&& (x4_2 - 1))
theorem mX6_bits_L4_s {x1 : Int32} {n4 : Nat} {i4 : Nat} {x4_2 : Int32} : mX6_bits_L4 x1 (n4 + 1) i4 x4_2 = (
    if x4_2 = 0 then
      (nI i4)
    else
      mX6_bits_L4 x1 n4 (i4 + 1) (x4_2 &&& (x4_2 - 1)) : Int32) := rfl
def mX6_bits (x1 : Int32) : Int32 :=
  mX6_bits_L4 x1 17 0 x1
theorem mX6_bits_s {x1 : Int32} : mX6_bits x1 = (
  mX6_bits_L4 x1 17 0 x1 : Int32) := rfl
set_option maxHeartbeats 400000 in
set_option maxRecDepth 100000 in
theorem c_X6_bits (l : Launch) (E : kE) (x1 : Int32) (hb9 : bOK 65535 x1) (R : Int32) (hE : R = mX6_bits x1) : Met l yX6_bits wsX6_bits ({ frames := 0, cells := 0, slots := 0, locals := 0 }) (kPre E [.int x1] []) (kRi R) 0 0 (fun _ => False) := by
  refine Met.ofW (cc := cX6_bits) (maxL := 3) (ret := (some .int)) (by decide) rfl ?_
  intro p e s m args below meth c s₁ B hml hv
  obtain ⟨rfl, hK, hP⟩ := hv
  have hx := B.exec
  have hb := B.bytes
  have hr := B.returns
  have hts := atoms_spec (ws := wsX6_bits) B.pre
  have hown : s.vm.findClass RX6 = some m.cls := findClass_of_methodNamed B.named
  have hlocks := B.notSynchronized
  have hl := lv_entry ([.int x1]) (n := 3) (Nat.le_of_ble_eq_true rfl)
  rw [lg_entry_eq]
  generalize (lg_sl ([.int x1]) ++ List.replicate (3 - (lg_sl ([.int x1])).length) Slot.unset).toArray = ls at hl ⊢
  have hl : lv_has ls 3 [(0, .int x1)] := hl
  replace hE := hE.trans mX6_bits_s
  refine lv_iconst (v := 0) hx hb dX6_bits_0 (by decide) ?_
  refine lv_istore_n (lv' := [(1, .int 0), (0, .int x1)]) hx hb dX6_bits_1 rfl hl (by decide) rfl (fun ls hl => ?_)
  refine lv_iload_n hx hb dX6_bits_2 rfl (lv_at hl 1 rfl) ?_
  refine lv_istore_n (lv' := [(2, .int x1), (1, .int 0), (0, .int x1)]) hx hb dX6_bits_3 rfl hl (by decide) rfl (fun ls hl => ?_)
  have lp4 : ∀ (n4 : Nat) (i4 : Nat) (x4_2 : Int32), (bMe x4_2 n4) → ∀ ls : Array Slot, lv_has ls 3 [(2, .int x4_2), (1, .int (nI i4)), (0, .int x1)] → R = mX6_bits_L4 x1 n4 i4 x4_2 → W p l e ({ frames := 0, cells := 0, slots := 0, locals := 0 }) s m ([.int x1] : List Value).toArray below meth c s.heap [] 0 0 (MQ below (kRi R) ([.int x1] : List Value).toArray s 0 0 (fun _ => False)) (F0 m 4 ls []) := by
    clear hE
    intro n4
    induction n4 with
    | zero =>
      intro i4 x4_2 hm4  ls hl hE
      exact hm4.no.elim
    | succ n4 ih4 =>
      intro i4 x4_2 hm4  ls hl hE
      replace hE := hE.trans mX6_bits_L4_s
      refine lv_iload_n hx hb dX6_bits_4 rfl (lv_at hl 0 rfl) ?_
      refine lv_if_eq (tgt := 20) hx hb dX6_bits_5 (by decide) (fun c_1 => ?_) (fun c_1 => ?_)
      · replace hE := hE.trans (if_pos c_1)
        refine lv_iload_n hx hb dX6_bits_20 rfl (lv_at hl 1 rfl) ?_
        subst R
        exact W.iret (v := (nI i4)) hx hb hr (fun t ht hW => ⟨rfl, ht⟩) (fun _ h => by cases h) dX6_bits_21
      · replace hE := hE.trans (if_neg c_1)
        refine lv_iinc (v := (nI (i4 + 1))) (lv' := [(1, .int (nI (i4 + 1))), (2, .int x4_2), (0, .int x1)]) hx hb dX6_bits_8 hl (k := 1) rfl (nI_1 i4) (by decide) rfl (fun ls hl => ?_)
        refine lv_iload_n hx hb dX6_bits_11 rfl (lv_at hl 1 rfl) ?_
        refine lv_iload_n hx hb dX6_bits_12 rfl (lv_at hl 1 rfl) ?_
        refine lv_iconst (v := 1) hx hb dX6_bits_13 (by decide) ?_
        refine lv_isub hx hb dX6_bits_14 ?_
        refine lv_iand hx hb dX6_bits_15 ?_
        refine lv_istore_n (lv' := [(2, .int (x4_2 &&& (x4_2 - 1))), (1, .int (nI (i4 + 1))), (0, .int x1)]) hx hb dX6_bits_16 rfl hl (by decide) rfl (fun ls hl => ?_)
        refine lv_goto (tgt := 4) hx hb dX6_bits_17 (by decide) ?_
        exact ih4 (i4 + 1) (x4_2 &&& (x4_2 - 1)) (hm4.step (by assumption)) ls (lv_sub hl [0, 1, 2] rfl) hE
  exact lp4 17 0 x1 (bMe.init hb9) ls (lv_sub hl [0, 1, 2] rfl) hE
