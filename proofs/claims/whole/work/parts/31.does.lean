def mX6_does (u : kG) (x1 : Int32) : Int32 × Int32 × Int32 × Int32 × (Nat → Int32) :=
  if ((u 8) ((4 * x1)).toNatClampNeg) = 98 then
    if ((u 1) 2) = 12 then
      ((-4), (u 0 2), (u 0 3), (u 0 4), (u 1))
    else
      (fun (g_3 : Int32 × (Nat → Int32)) =>
        ((g_3.1), (u 0 2), (u 0 3), (u 0 4), (g_3.2)))
        (mX6_beginOne u)
  else
    if ((u 8) ((4 * x1)).toNatClampNeg) = 99 then
      if 0 ≤ (mX6_whyNotEnd u ((u 8) (((4 * x1) + 1)).toNatClampNeg)) then
        (fun (g_6 : Int32 × Int32 × Int32 × Int32 × (Nat → Int32)) =>
          ((g_6.1), (g_6.2.1), (g_6.2.2.1), (g_6.2.2.2.1), (g_6.2.2.2.2)))
          (mX6_commitOne u ((u 8) (((4 * x1) + 1)).toNatClampNeg))
      else
        ((mX6_whyNotEnd u ((u 8) (((4 * x1) + 1)).toNatClampNeg)), (u 0 2), (u 0 3), (u 0 4), (u 1))
    else
      if ((u 8) ((4 * x1)).toNatClampNeg) = 114 then
        if 0 ≤ (mX6_whyNotRead u ((u 8) (((4 * x1) + 1)).toNatClampNeg) ((u 8) (((4 * x1) + 2)).toNatClampNeg)) then
          (fun (g_9 : Int32 × (Nat → Int32)) =>
            ((g_9.1), (u 0 2), (u 0 3), (u 0 4), (g_9.2)))
            (mX6_readOne u ((u 8) (((4 * x1) + 1)).toNatClampNeg) ((u 8) (((4 * x1) + 2)).toNatClampNeg))
        else
          ((mX6_whyNotRead u ((u 8) (((4 * x1) + 1)).toNatClampNeg) ((u 8) (((4 * x1) + 2)).toNatClampNeg)), (u 0 2), (u 0 3), (u 0 4), (u 1))
      else
        if ((u 8) ((4 * x1)).toNatClampNeg) = 119 then
          if 0 ≤ (mX6_whyNotWrite u ((u 8) (((4 * x1) + 1)).toNatClampNeg) ((u 8) (((4 * x1) + 2)).toNatClampNeg) ((u 8) (((4 * x1) + 3)).toNatClampNeg)) then
            (fun (g_12 : Int32 × (Nat → Int32)) =>
              ((g_12.1), (u 0 2), (u 0 3), (u 0 4), (g_12.2)))
              (mX6_writeOne u ((u 8) (((4 * x1) + 1)).toNatClampNeg) ((u 8) (((4 * x1) + 2)).toNatClampNeg) ((u 8) (((4 * x1) + 3)).toNatClampNeg))
          else
            ((mX6_whyNotWrite u ((u 8) (((4 * x1) + 1)).toNatClampNeg) ((u 8) (((4 * x1) + 2)).toNatClampNeg) ((u 8) (((4 * x1) + 3)).toNatClampNeg)), (u 0 2), (u 0 3), (u 0 4), (u 1))
        else
          if (mX6_whyNotEnd u ((u 8) (((4 * x1) + 1)).toNatClampNeg)) = 0 then
            (fun (g_14 : (Nat → Int32)) =>
              ((mX6_whyNotEnd u ((u 8) (((4 * x1) + 1)).toNatClampNeg)), (u 0 2), (u 0 3), (u 0 4), g_14))
              (mX6_abortOne u ((u 8) (((4 * x1) + 1)).toNatClampNeg) 0)
          else
            ((mX6_whyNotEnd u ((u 8) (((4 * x1) + 1)).toNatClampNeg)), (u 0 2), (u 0 3), (u 0 4), (u 1))
theorem mX6_does_s {u : kG} {x1 : Int32} : mX6_does u x1 = (
  if ((u 8) ((4 * x1)).toNatClampNeg) = 98 then
    if ((u 1) 2) = 12 then
      ((-4), (u 0 2), (u 0 3), (u 0 4), (u 1))
    else
      (fun (g_3 : Int32 × (Nat → Int32)) =>
        ((g_3.1), (u 0 2), (u 0 3), (u 0 4), (g_3.2)))
        (mX6_beginOne u)
  else
    if ((u 8) ((4 * x1)).toNatClampNeg) = 99 then
      if 0 ≤ (mX6_whyNotEnd u ((u 8) (((4 * x1) + 1)).toNatClampNeg)) then
        (fun (g_6 : Int32 × Int32 × Int32 × Int32 × (Nat → Int32)) =>
          ((g_6.1), (g_6.2.1), (g_6.2.2.1), (g_6.2.2.2.1), (g_6.2.2.2.2)))
          (mX6_commitOne u ((u 8) (((4 * x1) + 1)).toNatClampNeg))
      else
        ((mX6_whyNotEnd u ((u 8) (((4 * x1) + 1)).toNatClampNeg)), (u 0 2), (u 0 3), (u 0 4), (u 1))
    else
      if ((u 8) ((4 * x1)).toNatClampNeg) = 114 then
        if 0 ≤ (mX6_whyNotRead u ((u 8) (((4 * x1) + 1)).toNatClampNeg) ((u 8) (((4 * x1) + 2)).toNatClampNeg)) then
          (fun (g_9 : Int32 × (Nat → Int32)) =>
            ((g_9.1), (u 0 2), (u 0 3), (u 0 4), (g_9.2)))
            (mX6_readOne u ((u 8) (((4 * x1) + 1)).toNatClampNeg) ((u 8) (((4 * x1) + 2)).toNatClampNeg))
        else
          ((mX6_whyNotRead u ((u 8) (((4 * x1) + 1)).toNatClampNeg) ((u 8) (((4 * x1) + 2)).toNatClampNeg)), (u 0 2), (u 0 3), (u 0 4), (u 1))
      else
        if ((u 8) ((4 * x1)).toNatClampNeg) = 119 then
          if 0 ≤ (mX6_whyNotWrite u ((u 8) (((4 * x1) + 1)).toNatClampNeg) ((u 8) (((4 * x1) + 2)).toNatClampNeg) ((u 8) (((4 * x1) + 3)).toNatClampNeg)) then
            (fun (g_12 : Int32 × (Nat → Int32)) =>
              ((g_12.1), (u 0 2), (u 0 3), (u 0 4), (g_12.2)))
              (mX6_writeOne u ((u 8) (((4 * x1) + 1)).toNatClampNeg) ((u 8) (((4 * x1) + 2)).toNatClampNeg) ((u 8) (((4 * x1) + 3)).toNatClampNeg))
          else
            ((mX6_whyNotWrite u ((u 8) (((4 * x1) + 1)).toNatClampNeg) ((u 8) (((4 * x1) + 2)).toNatClampNeg) ((u 8) (((4 * x1) + 3)).toNatClampNeg)), (u 0 2), (u 0 3), (u 0 4), (u 1))
        else
          if (mX6_whyNotEnd u ((u 8) (((4 * x1) + 1)).toNatClampNeg)) = 0 then
            (fun (g_14 : (Nat → Int32)) =>
              ((mX6_whyNotEnd u ((u 8) (((4 * x1) + 1)).toNatClampNeg)), (u 0 2), (u 0 3), (u 0 4), g_14))
              (mX6_abortOne u ((u 8) (((4 * x1) + 1)).toNatClampNeg) 0)
          else
            ((mX6_whyNotEnd u ((u 8) (((4 * x1) + 1)).toNatClampNeg)), (u 0 2), (u 0 3), (u 0 4), (u 1)) : Int32 × Int32 × Int32 × Int32 × (Nat → Int32)) := rfl
set_option maxHeartbeats 400000 in
set_option maxRecDepth 100000 in
theorem c_X6_does (l : Launch) (E : kE) (b : Nat → Nat) (u : kG) (hj : kInj b 9) (x1 : Int32) (hm : nOK (u 1 2)) (hk : oOK x1) (R : Int32 × Int32 × Int32 × Int32 × (Nat → Int32)) (hE : R = mX6_does u x1) : Met l yX6_does wsX6_does ({ frames := 9, cells := 0, slots := 0, locals := 205 }) (kPre E [.ref (b 0), .int x1] (wModx E b (u 0 0) (u 0 1) (u 0 2) (u 0 3) (u 0 4) (u 0 5) (u 0 6) (u 0 7) (u 1) (u 2) (u 3) (u 4) (u 5) (u 6) (u 7) (u 8))) (kWi E R.1 (wModx E b (u 0 0) (u 0 1) R.2.1 R.2.2.1 R.2.2.2.1 (u 0 5) (u 0 6) (u 0 7) R.2.2.2.2 (u 2) (u 3) (u 4) (u 5) (u 6) (u 7) (u 8)) (kA b 9)) 0 0 (kA b 9) := by
  refine Met.ofW (cc := cX6_does) (maxL := 6) (ret := (some .int)) (by decide) rfl ?_
  intro p e s m args below meth c s₁ B hml hv
  obtain ⟨rfl, hK, hP⟩ := hv
  have hx := B.exec
  have hb := B.bytes
  have hr := B.returns
  have hts := atoms_spec (ws := wsX6_does) B.pre
  have hown : s.vm.findClass RX6 = some m.cls := findClass_of_methodNamed B.named
  have hlocks := B.notSynchronized
  have hiX6 : ∀ w ∈ wsX60, w ∈ wsX6_does := by decide +kernel
  have hf7 := hts (.fieldLink RX6 7 "SkewEdgesModel" "z" "[I") (by decide +kernel)
  have hf33 := hts (.fieldLink RX6 33 "SkewEdgesModel" "orders" "[I") (by decide +kernel)
  have hS : va_S (kA b 9) s.heap s.heap [] := va_S.rf
  have hP : va_P E.1 vwCl (wModx E b (u 0 0) (u 0 1) (u 0 2) (u 0 3) (u 0 4) (u 0 5) (u 0 6) (u 0 7) (u 1) (u 2) (u 3) (u 4) (u 5) (u 6) (u 7) (u 8)) s.heap := hP
  have hD := dMod (E := E) hj (u 0 0) (u 0 1) (u 0 2) (u 0 3) (u 0 4) (u 0 5) (u 0 6) (u 0 7) (u 1) (u 2) (u 3) (u 4) (u 5) (u 6) (u 7) (u 8)
  have hl := lv_entry ([.ref (b 0), .int x1]) (n := 6) (Nat.le_of_ble_eq_true rfl)
  rw [lg_entry_eq]
  generalize (lg_sl ([.ref (b 0), .int x1]) ++ List.replicate (6 - (lg_sl ([.ref (b 0), .int x1])).length) Slot.unset).toArray = ls at hl ⊢
  have hl : lv_has ls 6 [(0, .ref (b 0)), (1, .int x1)] := hl
  replace hE := hE.trans mX6_does_s
  refine lv_aload_n hx hb dX6_does_0 rfl (lv_at hl 0 rfl) ?_
  refine va_get (D := E.1) (ci := 5) (v := .ref (b 8)) (C := RX6) (T := TX6) (N := 16) hx hb hts hiX6 hown hK.1 hP 0 rfl rfl 12 (by decide) hf33 (fun _ h9 => h9) rfl dX6_does_1 ?_
  refine lv_iconst (v := 4) hx hb dX6_does_4 (by decide) ?_
  refine lv_iload_n hx hb dX6_does_5 rfl (lv_at hl 1 rfl) ?_
  refine lv_imul hx hb dX6_does_6 ?_
  refine lv_iconst (v := 1) hx hb dX6_does_7 (by decide) ?_
  refine lv_iadd hx hb dX6_does_8 ?_
  refine va_iald (D := E.1) hx hb hK.1 hP 8 0 rfl rfl (hk.in 1 (by omega)) dX6_does_9 ?_
  refine lv_istore_n (lv' := [(2, .int ((u 8) (((4 * x1) + 1)).toNatClampNeg)), (0, .ref (b 0)), (1, .int x1)]) hx hb dX6_does_10 rfl hl (by decide) rfl (fun ls hl => ?_)
  refine lv_aload_n hx hb dX6_does_11 rfl (lv_at hl 1 rfl) ?_
  refine va_get (D := E.1) (ci := 5) (v := .ref (b 8)) (C := RX6) (T := TX6) (N := 16) hx hb hts hiX6 hown hK.1 hP 0 rfl rfl 12 (by decide) hf33 (fun _ h9 => h9) rfl dX6_does_12 ?_
  refine lv_iconst (v := 4) hx hb dX6_does_15 (by decide) ?_
  refine lv_iload_n hx hb dX6_does_16 rfl (lv_at hl 2 rfl) ?_
  refine lv_imul hx hb dX6_does_17 ?_
  refine lv_iconst (v := 2) hx hb dX6_does_18 (by decide) ?_
  refine lv_iadd hx hb dX6_does_19 ?_
  refine va_iald (D := E.1) hx hb hK.1 hP 8 0 rfl rfl (hk.in 2 (by omega)) dX6_does_20 ?_
  refine lv_istore_n (lv' := [(3, .int ((u 8) (((4 * x1) + 2)).toNatClampNeg)), (2, .int ((u 8) (((4 * x1) + 1)).toNatClampNeg)), (0, .ref (b 0)), (1, .int x1)]) hx hb dX6_does_21 rfl hl (by decide) rfl (fun ls hl => ?_)
  refine lv_aload_n hx hb dX6_does_22 rfl (lv_at hl 2 rfl) ?_
  refine va_get (D := E.1) (ci := 5) (v := .ref (b 8)) (C := RX6) (T := TX6) (N := 16) hx hb hts hiX6 hown hK.1 hP 0 rfl rfl 12 (by decide) hf33 (fun _ h9 => h9) rfl dX6_does_23 ?_
  refine lv_iconst (v := 4) hx hb dX6_does_26 (by decide) ?_
  refine lv_iload_n hx hb dX6_does_27 rfl (lv_at hl 3 rfl) ?_
  refine lv_imul hx hb dX6_does_28 ?_
  refine lv_iconst (v := 3) hx hb dX6_does_29 (by decide) ?_
  refine lv_iadd hx hb dX6_does_30 ?_
  refine va_iald (D := E.1) hx hb hK.1 hP 8 0 rfl rfl (hk.in 3 (by omega)) dX6_does_31 ?_
  refine lv_istore (lv' := [(4, .int ((u 8) (((4 * x1) + 3)).toNatClampNeg)), (3, .int ((u 8) (((4 * x1) + 2)).toNatClampNeg)), (2, .int ((u 8) (((4 * x1) + 1)).toNatClampNeg)), (0, .ref (b 0)), (1, .int x1)]) hx hb dX6_does_32 hl (by decide) rfl (fun ls hl => ?_)
  refine lv_aload_n hx hb dX6_does_34 rfl (lv_at hl 3 rfl) ?_
  refine va_get (D := E.1) (ci := 5) (v := .ref (b 8)) (C := RX6) (T := TX6) (N := 16) hx hb hts hiX6 hown hK.1 hP 0 rfl rfl 12 (by decide) hf33 (fun _ h9 => h9) rfl dX6_does_35 ?_
  refine lv_iconst (v := 4) hx hb dX6_does_38 (by decide) ?_
  refine lv_iload_n hx hb dX6_does_39 rfl (lv_at hl 4 rfl) ?_
  refine lv_imul hx hb dX6_does_40 ?_
  refine va_iald (D := E.1) hx hb hK.1 hP 8 0 rfl rfl hk.in0 dX6_does_41 ?_
  by_cases c_1 : ((u 8) ((4 * x1)).toNatClampNeg) = 98
  · replace hE := hE.trans (if_pos c_1)
    refine W.eq (g2 := F0 m 42 ls ([.int 98])) (by rw [c_1]) ?_
    refine lv_lookup (tgt := 84) (off := 42) hx hb dX6_does_42 (by decide) (by decide) (by decide) ?_
    refine lv_aload_n hx hb dX6_does_84 rfl (lv_at hl 3 rfl) ?_
    refine va_get (D := E.1) (ci := 5) (v := .ref (b 1)) (C := RX6) (T := TX6) (N := 16) hx hb hts hiX6 hown hK.1 hP 0 rfl rfl 0 (by decide) hf7 (fun _ h9 => h9) rfl dX6_does_85 ?_
    refine lv_iconst (v := 2) hx hb dX6_does_88 (by decide) ?_
    refine va_iald (D := E.1) hx hb hK.1 hP 1 0 rfl rfl (vp_in_nI (n := 2) (by decide) (by decide)) dX6_does_89 ?_
    refine W.eq (g2 := F0 m 90 ls [.int ((u 1) 2)]) rfl ?_
    refine lv_bipush (v := 12) hx hb dX6_does_90 (by decide) ?_
    refine lv_icmp_ne (tgt := 100) hx hb dX6_does_92 (by decide) (fun c_2 => ?_) (fun c_2 => ?_)
    · replace hE := hE.trans (if_neg c_2)
      have ht := nOK.ne12 hm c_2
      refine lv_aload_n hx hb dX6_does_100 rfl (lv_at hl 3 rfl) ?_
      refine kCallWi (va_runV (As := []) (rest := []) ⟨hx, hb, hml, hown, hts⟩ (c_X6_beginOne l E b u hj ht _ rfl) (cwV 0 hts gX6_does_X6_beginOne rfl rfl rfl (by decide +kernel) ⟨Nat.le_of_ble_eq_true rfl, Nat.le_of_ble_eq_true rfl⟩) (kPreV hK hP hP (q0 := 0) rfl rfl) rfl rfl hl.1 rfl (lv_room (Nat.le_of_ble_eq_true rfl)) dX6_does_101 ⟨Nat.zero_le _, Nat.zero_le _⟩) hS (fun _ h => h) (fun H locs hP _ _ hS => ?_)
      refine kGen (mX6_beginOne u) (fun g_3 hg_3 => ?_)
      rw [hg_3] at hE hP ⊢
      try dsimp only at hE
      have hP : va_P E.1 vwCl (wModx E b (u 0 0) (u 0 1) (u 0 2) (u 0 3) (u 0 4) (u 0 5) (u 0 6) (u 0 7) (g_3.2) (u 2) (u 3) (u 4) (u 5) (u 6) (u 7) (u 8)) H := hP
      have hD := dMod (E := E) hj (u 0 0) (u 0 1) (u 0 2) (u 0 3) (u 0 4) (u 0 5) (u 0 6) (u 0 7) (g_3.2) (u 2) (u 3) (u 4) (u 5) (u 6) (u 7) (u 8)
      subst R
      exact W.iret (v := (g_3.1)) hx hb hr (fun t ht hW => ⟨rfl, by rw [ht]; exact hP, hS.F ht⟩) hS.2.2 dX6_does_104
    · replace hE := hE.trans (if_pos c_2)
      refine lv_bipush (v := (-4)) hx hb dX6_does_95 (by decide) ?_
      refine lv_goto (tgt := 104) hx hb dX6_does_97 (by decide) ?_
      subst R
      exact W.iret (v := (-4)) hx hb hr (fun t ht hW => ⟨rfl, by rw [ht]; exact hP, hS.F ht⟩) hS.2.2 dX6_does_104
  · replace hE := hE.trans (if_neg c_1)
    by_cases c_4 : ((u 8) ((4 * x1)).toNatClampNeg) = 99
    · replace hE := hE.trans (if_pos c_4)
      refine W.eq (g2 := F0 m 42 ls ([.int 99])) (by rw [c_4]) ?_
      refine lv_lookup (tgt := 159) (off := 117) hx hb dX6_does_42 (by decide) (by decide) (by decide) ?_
      refine lv_aload_n hx hb dX6_does_159 rfl (lv_at hl 3 rfl) ?_
      refine lv_iload_n hx hb dX6_does_160 rfl (lv_at hl 2 rfl) ?_
      refine kCallRi (va_runV (As := [.int ((u 8) (((4 * x1) + 1)).toNatClampNeg)]) (rest := []) ⟨hx, hb, hml, hown, hts⟩ (c_X6_whyNotEnd l E b u ((u 8) (((4 * x1) + 1)).toNatClampNeg) (by assumption) _ rfl) (cwV 1 hts gX6_does_X6_whyNotEnd rfl rfl rfl (by decide +kernel) ⟨Nat.le_of_ble_eq_true rfl, Nat.le_of_ble_eq_true rfl⟩) (kPreV hK hP hP (q0 := 0) rfl rfl) rfl rfl hl.1 rfl (lv_room (Nat.le_of_ble_eq_true rfl)) dX6_does_161 ⟨Nat.zero_le _, Nat.zero_le _⟩) ?_
      refine lv_istore (lv' := [(5, .int (mX6_whyNotEnd u ((u 8) (((4 * x1) + 1)).toNatClampNeg))), (4, .int ((u 8) (((4 * x1) + 3)).toNatClampNeg)), (3, .int ((u 8) (((4 * x1) + 2)).toNatClampNeg)), (2, .int ((u 8) (((4 * x1) + 1)).toNatClampNeg)), (0, .ref (b 0)), (1, .int x1)]) hx hb dX6_does_164 hl (by decide) rfl (fun ls hl => ?_)
      refine lv_iload hx hb dX6_does_166 (lv_at hl 0 rfl) ?_
      refine lv_if_ge (tgt := 176) hx hb dX6_does_168 (by decide) (fun c_5 => ?_) (fun c_5 => ?_)
      · replace hE := hE.trans (if_pos c_5)
        have ht := wne_ok hm c_5
        refine lv_aload_n hx hb dX6_does_176 rfl (lv_at hl 4 rfl) ?_
        refine lv_iload_n hx hb dX6_does_177 rfl (lv_at hl 3 rfl) ?_
        refine kCallWi (va_runV (As := [.int ((u 8) (((4 * x1) + 1)).toNatClampNeg)]) (rest := []) ⟨hx, hb, hml, hown, hts⟩ (c_X6_commitOne l E b u hj ((u 8) (((4 * x1) + 1)).toNatClampNeg) hm ht _ rfl) (cwV 1 hts gX6_does_X6_commitOne rfl rfl rfl (by decide +kernel) ⟨Nat.le_of_ble_eq_true rfl, Nat.le_of_ble_eq_true rfl⟩) (kPreV hK hP hP (q0 := 0) rfl rfl) rfl rfl hl.1 rfl (lv_room (Nat.le_of_ble_eq_true rfl)) dX6_does_178 ⟨Nat.zero_le _, Nat.zero_le _⟩) hS (fun _ h => h) (fun H locs hP _ _ hS => ?_)
        refine kGen (mX6_commitOne u ((u 8) (((4 * x1) + 1)).toNatClampNeg)) (fun g_6 hg_6 => ?_)
        rw [hg_6] at hE hP ⊢
        try dsimp only at hE
        have hP : va_P E.1 vwCl (wModx E b (u 0 0) (u 0 1) (g_6.2.1) (g_6.2.2.1) (g_6.2.2.2.1) (u 0 5) (u 0 6) (u 0 7) (g_6.2.2.2.2) (u 2) (u 3) (u 4) (u 5) (u 6) (u 7) (u 8)) H := hP
        have hD := dMod (E := E) hj (u 0 0) (u 0 1) (g_6.2.1) (g_6.2.2.1) (g_6.2.2.2.1) (u 0 5) (u 0 6) (u 0 7) (g_6.2.2.2.2) (u 2) (u 3) (u 4) (u 5) (u 6) (u 7) (u 8)
        subst R
        exact W.iret (v := (g_6.1)) hx hb hr (fun t ht hW => ⟨rfl, by rw [ht]; exact hP, hS.F ht⟩) hS.2.2 dX6_does_181
      · replace hE := hE.trans (if_neg c_5)
        refine lv_iload hx hb dX6_does_171 (lv_at hl 0 rfl) ?_
        refine lv_goto (tgt := 181) hx hb dX6_does_173 (by decide) ?_
        subst R
        exact W.iret (v := (mX6_whyNotEnd u ((u 8) (((4 * x1) + 1)).toNatClampNeg))) hx hb hr (fun t ht hW => ⟨rfl, by rw [ht]; exact hP, hS.F ht⟩) hS.2.2 dX6_does_181
    · replace hE := hE.trans (if_neg c_4)
      by_cases c_7 : ((u 8) ((4 * x1)).toNatClampNeg) = 114
      · replace hE := hE.trans (if_pos c_7)
        refine W.eq (g2 := F0 m 42 ls ([.int 114])) (by rw [c_7]) ?_
        refine lv_lookup (tgt := 105) (off := 63) hx hb dX6_does_42 (by decide) (by decide) (by decide) ?_
        refine lv_aload_n hx hb dX6_does_105 rfl (lv_at hl 3 rfl) ?_
        refine lv_iload_n hx hb dX6_does_106 rfl (lv_at hl 2 rfl) ?_
        refine lv_iload_n hx hb dX6_does_107 rfl (lv_at hl 1 rfl) ?_
        refine kCallRi (va_runV (As := [.int ((u 8) (((4 * x1) + 1)).toNatClampNeg), .int ((u 8) (((4 * x1) + 2)).toNatClampNeg)]) (rest := []) ⟨hx, hb, hml, hown, hts⟩ (c_X6_whyNotRead l E b u ((u 8) (((4 * x1) + 1)).toNatClampNeg) ((u 8) (((4 * x1) + 2)).toNatClampNeg) (by assumption) _ rfl) (cwV 2 hts gX6_does_X6_whyNotRead rfl rfl rfl (by decide +kernel) ⟨Nat.le_of_ble_eq_true rfl, Nat.le_of_ble_eq_true rfl⟩) (kPreV hK hP hP (q0 := 0) rfl rfl) rfl rfl hl.1 rfl (lv_room (Nat.le_of_ble_eq_true rfl)) dX6_does_108 ⟨Nat.zero_le _, Nat.zero_le _⟩) ?_
        refine lv_istore (lv' := [(5, .int (mX6_whyNotRead u ((u 8) (((4 * x1) + 1)).toNatClampNeg) ((u 8) (((4 * x1) + 2)).toNatClampNeg))), (4, .int ((u 8) (((4 * x1) + 3)).toNatClampNeg)), (3, .int ((u 8) (((4 * x1) + 2)).toNatClampNeg)), (2, .int ((u 8) (((4 * x1) + 1)).toNatClampNeg)), (0, .ref (b 0)), (1, .int x1)]) hx hb dX6_does_111 hl (by decide) rfl (fun ls hl => ?_)
        refine lv_iload hx hb dX6_does_113 (lv_at hl 0 rfl) ?_
        refine lv_if_ge (tgt := 123) hx hb dX6_does_115 (by decide) (fun c_8 => ?_) (fun c_8 => ?_)
        · replace hE := hE.trans (if_pos c_8)
          obtain ⟨ht, hk2⟩ := wnr_ok hm c_8
          refine lv_aload_n hx hb dX6_does_123 rfl (lv_at hl 4 rfl) ?_
          refine lv_iload_n hx hb dX6_does_124 rfl (lv_at hl 3 rfl) ?_
          refine lv_iload_n hx hb dX6_does_125 rfl (lv_at hl 2 rfl) ?_
          refine kCallWi (va_runV (As := [.int ((u 8) (((4 * x1) + 1)).toNatClampNeg), .int ((u 8) (((4 * x1) + 2)).toNatClampNeg)]) (rest := []) ⟨hx, hb, hml, hown, hts⟩ (c_X6_readOne l E b u hj ((u 8) (((4 * x1) + 1)).toNatClampNeg) ((u 8) (((4 * x1) + 2)).toNatClampNeg) hm ht hk2 _ rfl) (cwV 2 hts gX6_does_X6_readOne rfl rfl rfl (by decide +kernel) ⟨Nat.le_of_ble_eq_true rfl, Nat.le_of_ble_eq_true rfl⟩) (kPreV hK hP hP (q0 := 0) rfl rfl) rfl rfl hl.1 rfl (lv_room (Nat.le_of_ble_eq_true rfl)) dX6_does_126 ⟨Nat.zero_le _, Nat.zero_le _⟩) hS (fun _ h => h) (fun H locs hP _ _ hS => ?_)
          refine kGen (mX6_readOne u ((u 8) (((4 * x1) + 1)).toNatClampNeg) ((u 8) (((4 * x1) + 2)).toNatClampNeg)) (fun g_9 hg_9 => ?_)
          rw [hg_9] at hE hP ⊢
          try dsimp only at hE
          have hP : va_P E.1 vwCl (wModx E b (u 0 0) (u 0 1) (u 0 2) (u 0 3) (u 0 4) (u 0 5) (u 0 6) (u 0 7) (g_9.2) (u 2) (u 3) (u 4) (u 5) (u 6) (u 7) (u 8)) H := hP
          have hD := dMod (E := E) hj (u 0 0) (u 0 1) (u 0 2) (u 0 3) (u 0 4) (u 0 5) (u 0 6) (u 0 7) (g_9.2) (u 2) (u 3) (u 4) (u 5) (u 6) (u 7) (u 8)
          subst R
          exact W.iret (v := (g_9.1)) hx hb hr (fun t ht hW => ⟨rfl, by rw [ht]; exact hP, hS.F ht⟩) hS.2.2 dX6_does_129
        · replace hE := hE.trans (if_neg c_8)
          refine lv_iload hx hb dX6_does_118 (lv_at hl 0 rfl) ?_
          refine lv_goto (tgt := 129) hx hb dX6_does_120 (by decide) ?_
          subst R
          exact W.iret (v := (mX6_whyNotRead u ((u 8) (((4 * x1) + 1)).toNatClampNeg) ((u 8) (((4 * x1) + 2)).toNatClampNeg))) hx hb hr (fun t ht hW => ⟨rfl, by rw [ht]; exact hP, hS.F ht⟩) hS.2.2 dX6_does_129
      · replace hE := hE.trans (if_neg c_7)
        by_cases c_10 : ((u 8) ((4 * x1)).toNatClampNeg) = 119
        · replace hE := hE.trans (if_pos c_10)
          refine W.eq (g2 := F0 m 42 ls ([.int 119])) (by rw [c_10]) ?_
          refine lv_lookup (tgt := 130) (off := 88) hx hb dX6_does_42 (by decide) (by decide) (by decide) ?_
          refine lv_aload_n hx hb dX6_does_130 rfl (lv_at hl 3 rfl) ?_
          refine lv_iload_n hx hb dX6_does_131 rfl (lv_at hl 2 rfl) ?_
          refine lv_iload_n hx hb dX6_does_132 rfl (lv_at hl 1 rfl) ?_
          refine lv_iload hx hb dX6_does_133 (lv_at hl 0 rfl) ?_
          refine kCallRi (va_runV (As := [.int ((u 8) (((4 * x1) + 1)).toNatClampNeg), .int ((u 8) (((4 * x1) + 2)).toNatClampNeg), .int ((u 8) (((4 * x1) + 3)).toNatClampNeg)]) (rest := []) ⟨hx, hb, hml, hown, hts⟩ (c_X6_whyNotWrite l E b u ((u 8) (((4 * x1) + 1)).toNatClampNeg) ((u 8) (((4 * x1) + 2)).toNatClampNeg) ((u 8) (((4 * x1) + 3)).toNatClampNeg) (by assumption) _ rfl) (cwV 3 hts gX6_does_X6_whyNotWrite rfl rfl rfl (by decide +kernel) ⟨Nat.le_of_ble_eq_true rfl, Nat.le_of_ble_eq_true rfl⟩) (kPreV hK hP hP (q0 := 0) rfl rfl) rfl rfl hl.1 rfl (lv_room (Nat.le_of_ble_eq_true rfl)) dX6_does_135 ⟨Nat.zero_le _, Nat.zero_le _⟩) ?_
          refine lv_istore (lv' := [(5, .int (mX6_whyNotWrite u ((u 8) (((4 * x1) + 1)).toNatClampNeg) ((u 8) (((4 * x1) + 2)).toNatClampNeg) ((u 8) (((4 * x1) + 3)).toNatClampNeg))), (4, .int ((u 8) (((4 * x1) + 3)).toNatClampNeg)), (3, .int ((u 8) (((4 * x1) + 2)).toNatClampNeg)), (2, .int ((u 8) (((4 * x1) + 1)).toNatClampNeg)), (0, .ref (b 0)), (1, .int x1)]) hx hb dX6_does_138 hl (by decide) rfl (fun ls hl => ?_)
          refine lv_iload hx hb dX6_does_140 (lv_at hl 0 rfl) ?_
          refine lv_if_ge (tgt := 150) hx hb dX6_does_142 (by decide) (fun c_11 => ?_) (fun c_11 => ?_)
          · replace hE := hE.trans (if_pos c_11)
            obtain ⟨ht, hk2⟩ := wnw_ok hm c_11
            refine lv_aload_n hx hb dX6_does_150 rfl (lv_at hl 4 rfl) ?_
            refine lv_iload_n hx hb dX6_does_151 rfl (lv_at hl 3 rfl) ?_
            refine lv_iload_n hx hb dX6_does_152 rfl (lv_at hl 2 rfl) ?_
            refine lv_iload hx hb dX6_does_153 (lv_at hl 1 rfl) ?_
            refine kCallWi (va_runV (As := [.int ((u 8) (((4 * x1) + 1)).toNatClampNeg), .int ((u 8) (((4 * x1) + 2)).toNatClampNeg), .int ((u 8) (((4 * x1) + 3)).toNatClampNeg)]) (rest := []) ⟨hx, hb, hml, hown, hts⟩ (c_X6_writeOne l E b u hj ((u 8) (((4 * x1) + 1)).toNatClampNeg) ((u 8) (((4 * x1) + 2)).toNatClampNeg) ((u 8) (((4 * x1) + 3)).toNatClampNeg) ht hk2 _ rfl) (cwV 3 hts gX6_does_X6_writeOne rfl rfl rfl (by decide +kernel) ⟨Nat.le_of_ble_eq_true rfl, Nat.le_of_ble_eq_true rfl⟩) (kPreV hK hP hP (q0 := 0) rfl rfl) rfl rfl hl.1 rfl (lv_room (Nat.le_of_ble_eq_true rfl)) dX6_does_155 ⟨Nat.zero_le _, Nat.zero_le _⟩) hS (fun _ h => h) (fun H locs hP _ _ hS => ?_)
            refine kGen (mX6_writeOne u ((u 8) (((4 * x1) + 1)).toNatClampNeg) ((u 8) (((4 * x1) + 2)).toNatClampNeg) ((u 8) (((4 * x1) + 3)).toNatClampNeg)) (fun g_12 hg_12 => ?_)
            rw [hg_12] at hE hP ⊢
            try dsimp only at hE
            have hP : va_P E.1 vwCl (wModx E b (u 0 0) (u 0 1) (u 0 2) (u 0 3) (u 0 4) (u 0 5) (u 0 6) (u 0 7) (g_12.2) (u 2) (u 3) (u 4) (u 5) (u 6) (u 7) (u 8)) H := hP
            have hD := dMod (E := E) hj (u 0 0) (u 0 1) (u 0 2) (u 0 3) (u 0 4) (u 0 5) (u 0 6) (u 0 7) (g_12.2) (u 2) (u 3) (u 4) (u 5) (u 6) (u 7) (u 8)
            subst R
            exact W.iret (v := (g_12.1)) hx hb hr (fun t ht hW => ⟨rfl, by rw [ht]; exact hP, hS.F ht⟩) hS.2.2 dX6_does_158
          · replace hE := hE.trans (if_neg c_11)
            refine lv_iload hx hb dX6_does_145 (lv_at hl 0 rfl) ?_
            refine lv_goto (tgt := 158) hx hb dX6_does_147 (by decide) ?_
            subst R
            exact W.iret (v := (mX6_whyNotWrite u ((u 8) (((4 * x1) + 1)).toNatClampNeg) ((u 8) (((4 * x1) + 2)).toNatClampNeg) ((u 8) (((4 * x1) + 3)).toNatClampNeg))) hx hb hr (fun t ht hW => ⟨rfl, by rw [ht]; exact hP, hS.F ht⟩) hS.2.2 dX6_does_158
        · replace hE := hE.trans (if_neg c_10)
          refine lv_lookup (tgt := 182) (off := 140) hx hb dX6_does_42 (by decide) (klook4 (k0 := 98) (k1 := 99) (k2 := 114) (k3 := 119) rfl rfl rfl rfl c_1 c_4 c_7 c_10) (by decide) ?_
          refine lv_aload_n hx hb dX6_does_182 rfl (lv_at hl 3 rfl) ?_
          refine lv_iload_n hx hb dX6_does_183 rfl (lv_at hl 2 rfl) ?_
          refine kCallRi (va_runV (As := [.int ((u 8) (((4 * x1) + 1)).toNatClampNeg)]) (rest := []) ⟨hx, hb, hml, hown, hts⟩ (c_X6_whyNotEnd l E b u ((u 8) (((4 * x1) + 1)).toNatClampNeg) (by assumption) _ rfl) (cwV 1 hts gX6_does_X6_whyNotEnd rfl rfl rfl (by decide +kernel) ⟨Nat.le_of_ble_eq_true rfl, Nat.le_of_ble_eq_true rfl⟩) (kPreV hK hP hP (q0 := 0) rfl rfl) rfl rfl hl.1 rfl (lv_room (Nat.le_of_ble_eq_true rfl)) dX6_does_184 ⟨Nat.zero_le _, Nat.zero_le _⟩) ?_
          refine lv_istore (lv' := [(5, .int (mX6_whyNotEnd u ((u 8) (((4 * x1) + 1)).toNatClampNeg))), (4, .int ((u 8) (((4 * x1) + 3)).toNatClampNeg)), (3, .int ((u 8) (((4 * x1) + 2)).toNatClampNeg)), (2, .int ((u 8) (((4 * x1) + 1)).toNatClampNeg)), (0, .ref (b 0)), (1, .int x1)]) hx hb dX6_does_187 hl (by decide) rfl (fun ls hl => ?_)
          refine lv_iload hx hb dX6_does_189 (lv_at hl 0 rfl) ?_
          refine lv_if_ne (tgt := 200) hx hb dX6_does_191 (by decide) (fun c_13 => ?_) (fun c_13 => ?_)
          · replace hE := hE.trans (if_neg c_13)
            refine lv_iload hx hb dX6_does_200 (lv_at hl 0 rfl) ?_
            subst R
            exact W.iret (v := (mX6_whyNotEnd u ((u 8) (((4 * x1) + 1)).toNatClampNeg))) hx hb hr (fun t ht hW => ⟨rfl, by rw [ht]; exact hP, hS.F ht⟩) hS.2.2 dX6_does_202
          · replace hE := hE.trans (if_pos c_13)
            have ht := wne_ok hm (by rw [c_13]; decide)
            refine lv_aload_n hx hb dX6_does_194 rfl (lv_at hl 4 rfl) ?_
            refine lv_iload_n hx hb dX6_does_195 rfl (lv_at hl 3 rfl) ?_
            refine lv_iconst (v := 0) hx hb dX6_does_196 (by decide) ?_
            refine kCallWv (va_runV (As := [.int ((u 8) (((4 * x1) + 1)).toNatClampNeg), .int 0]) (rest := []) ⟨hx, hb, hml, hown, hts⟩ (c_X6_abortOne l E b u hj ((u 8) (((4 * x1) + 1)).toNatClampNeg) 0 ht _ rfl) (cwV 2 hts gX6_does_X6_abortOne rfl rfl rfl (by decide +kernel) ⟨Nat.le_of_ble_eq_true rfl, Nat.le_of_ble_eq_true rfl⟩) (kPreV hK hP hP (q0 := 0) rfl rfl) rfl rfl hl.1 rfl (lv_room (Nat.le_of_ble_eq_true rfl)) dX6_does_197 ⟨Nat.zero_le _, Nat.zero_le _⟩) hS (fun _ h => h) (fun H locs hP _ _ hS => ?_)
            refine kGen (mX6_abortOne u ((u 8) (((4 * x1) + 1)).toNatClampNeg) 0) (fun g_14 hg_14 => ?_)
            rw [hg_14] at hE hP
            try dsimp only at hE
            have hP : va_P E.1 vwCl (wModx E b (u 0 0) (u 0 1) (u 0 2) (u 0 3) (u 0 4) (u 0 5) (u 0 6) (u 0 7) g_14 (u 2) (u 3) (u 4) (u 5) (u 6) (u 7) (u 8)) H := hP
            have hD := dMod (E := E) hj (u 0 0) (u 0 1) (u 0 2) (u 0 3) (u 0 4) (u 0 5) (u 0 6) (u 0 7) g_14 (u 2) (u 3) (u 4) (u 5) (u 6) (u 7) (u 8)
            refine lv_iload hx hb dX6_does_200 (lv_at hl 0 rfl) ?_
            subst R
            exact W.iret (v := (mX6_whyNotEnd u ((u 8) (((4 * x1) + 1)).toNatClampNeg))) hx hb hr (fun t ht hW => ⟨rfl, by rw [ht]; exact hP, hS.F ht⟩) hS.2.2 dX6_does_202
theorem does_n {u : kG} {x1 : Int32} (hm : nOK (u 1 2)) : nOK ((mX6_does u x1).2.2.2.2 2) := by
  rw [mX6_does_s]
  by_cases k_1 : ((u 8) ((4 * x1)).toNatClampNeg) = 98
  · rewrite [if_pos k_1]
    by_cases k_2 : ((u 1) 2) = 12
    · rewrite [if_pos k_2]
      first | exact hz | exact hm
    · rewrite [if_neg k_2]
      have ht := nOK.ne12 hm k_2
      have hz : nOK ((mX6_beginOne u).2 2) := beginOne_n (u := u) ht
      refine kGen (mX6_beginOne u) (fun g_3 eg_3 => ?_)
      rewrite [eg_3] at hz
      try rewrite [eg_3]
      try dsimp only
      first | exact hz | exact hm
  · rewrite [if_neg k_1]
    by_cases k_3 : ((u 8) ((4 * x1)).toNatClampNeg) = 99
    · rewrite [if_pos k_3]
      by_cases k_4 : 0 ≤ (mX6_whyNotEnd u ((u 8) (((4 * x1) + 1)).toNatClampNeg))
      · rewrite [if_pos k_4]
        have ht := wne_ok hm k_4
        have hz : nOK ((mX6_commitOne u ((u 8) (((4 * x1) + 1)).toNatClampNeg)).2.2.2.2 2) := commitOne_n (u := u) hm ht
        refine kGen (mX6_commitOne u ((u 8) (((4 * x1) + 1)).toNatClampNeg)) (fun g_6 eg_6 => ?_)
        rewrite [eg_6] at hz
        try rewrite [eg_6]
        try dsimp only
        first | exact hz | exact hm
      · rewrite [if_neg k_4]
        first | exact hz | exact hm
    · rewrite [if_neg k_3]
      by_cases k_5 : ((u 8) ((4 * x1)).toNatClampNeg) = 114
      · rewrite [if_pos k_5]
        by_cases k_6 : 0 ≤ (mX6_whyNotRead u ((u 8) (((4 * x1) + 1)).toNatClampNeg) ((u 8) (((4 * x1) + 2)).toNatClampNeg))
        · rewrite [if_pos k_6]
          obtain ⟨ht, hk2⟩ := wnr_ok hm k_6
          have hz : nOK ((mX6_readOne u ((u 8) (((4 * x1) + 1)).toNatClampNeg) ((u 8) (((4 * x1) + 2)).toNatClampNeg)).2 2) := readOne_n (u := u) hm ht
          refine kGen (mX6_readOne u ((u 8) (((4 * x1) + 1)).toNatClampNeg) ((u 8) (((4 * x1) + 2)).toNatClampNeg)) (fun g_9 eg_9 => ?_)
          rewrite [eg_9] at hz
          try rewrite [eg_9]
          try dsimp only
          first | exact hz | exact hm
        · rewrite [if_neg k_6]
          first | exact hz | exact hm
      · rewrite [if_neg k_5]
        by_cases k_7 : ((u 8) ((4 * x1)).toNatClampNeg) = 119
        · rewrite [if_pos k_7]
          by_cases k_8 : 0 ≤ (mX6_whyNotWrite u ((u 8) (((4 * x1) + 1)).toNatClampNeg) ((u 8) (((4 * x1) + 2)).toNatClampNeg) ((u 8) (((4 * x1) + 3)).toNatClampNeg))
          · rewrite [if_pos k_8]
            obtain ⟨ht, hk2⟩ := wnw_ok hm k_8
            have hz : nOK ((mX6_writeOne u ((u 8) (((4 * x1) + 1)).toNatClampNeg) ((u 8) (((4 * x1) + 2)).toNatClampNeg) ((u 8) (((4 * x1) + 3)).toNatClampNeg)).2 2) := writeOne_n (u := u) hm ht hk2
            refine kGen (mX6_writeOne u ((u 8) (((4 * x1) + 1)).toNatClampNeg) ((u 8) (((4 * x1) + 2)).toNatClampNeg) ((u 8) (((4 * x1) + 3)).toNatClampNeg)) (fun g_12 eg_12 => ?_)
            rewrite [eg_12] at hz
            try rewrite [eg_12]
            try dsimp only
            first | exact hz | exact hm
          · rewrite [if_neg k_8]
            first | exact hz | exact hm
        · rewrite [if_neg k_7]
          by_cases k_9 : (mX6_whyNotEnd u ((u 8) (((4 * x1) + 1)).toNatClampNeg)) = 0
          · rewrite [if_pos k_9]
            have ht := wne_ok hm (by rw [k_9]; decide)
            have hz : nOK ((mX6_abortOne u ((u 8) (((4 * x1) + 1)).toNatClampNeg) 0) 2) := abortOne_n (u := u) hm ht
            refine kGen (mX6_abortOne u ((u 8) (((4 * x1) + 1)).toNatClampNeg) 0) (fun g_14 eg_14 => ?_)
            rewrite [eg_14] at hz
            try rewrite [eg_14]
            try dsimp only
            first | exact hz | exact hm
          · rewrite [if_neg k_9]
            first | exact hz | exact hm
def mX6_carryOut_L18 (u : kG) (g_1 : (Int32 × Int32 × Int32 × Int32 × (Nat → Int32))) (g_3 : (Int32 × (Nat → Int32))) : Nat → Nat → (Nat → Int32) → Int32 → Int32 → Int32 → (Int32 × Int32 × Int32 × Int32 × Int32 × Int32 × Int32 × Int32 × Int32 × (Nat → Int32) × (Nat → Int32) × (Nat → Int32))
  | 0, _, _, _, _, _ => (0, 0, 0, 0, 0, 0, 0, 0, 0, (fun _ => 0), (fun _ => 0), (fun _ => 0))
  | n18 + 1, i18, f18_0_1, q18_0_2, q18_0_3, q18_0_4 =>
    if (g_1.2.1) ≤ (nI i18) then
      ((nI i18), (g_3.1), 0, q18_0_2, q18_0_3, q18_0_4, (g_1.2.1), (g_1.2.2.1), (g_1.2.2.2.1), f18_0_1, (g_3.2), (g_1.2.2.2.2))
    else
      (fun (g_5 : Int32 × Int32 × Int32 × Int32 × (Nat → Int32)) =>
        if (g_5.1) < 0 then
          ((nI i18), (g_3.1), 0, (g_5.2.1), (g_5.2.2.1), (g_5.2.2.2.1), (g_1.2.1), (g_1.2.2.1), (g_1.2.2.2.1), (g_5.2.2.2.2), (g_3.2), (g_1.2.2.2.2))
        else
          mX6_carryOut_L18 u g_1 g_3 n18 (i18 + 1) (g_5.2.2.2.2) (g_5.2.1) (g_5.2.2.1) (g_5.2.2.2.1))
        (mX6_does (rset (rset (rset (rset u 1 f18_0_1) 2 (g_3.2)) 8 (g_1.2.2.2.2)) 0 (upd (upd (upd (upd (upd (upd (upd (u 0) 0 (g_3.1)) 2 q18_0_2) 3 q18_0_3) 4 q18_0_4) 5 (g_1.2.1)) 6 (g_1.2.2.1)) 7 (g_1.2.2.2.1))) (nI i18))
theorem mX6_carryOut_L18_s {u : kG} {g_1 : (Int32 × Int32 × Int32 × Int32 × (Nat → Int32))} {g_3 : (Int32 × (Nat → Int32))} {n18 : Nat} {i18 : Nat} {f18_0_1 : (Nat → Int32)} {q18_0_2 : Int32} {q18_0_3 : Int32} {q18_0_4 : Int32} : mX6_carryOut_L18 u g_1 g_3 (n18 + 1) i18 f18_0_1 q18_0_2 q18_0_3 q18_0_4 = (
    if (g_1.2.1) ≤ (nI i18) then
      ((nI i18), (g_3.1), 0, q18_0_2, q18_0_3, q18_0_4, (g_1.2.1), (g_1.2.2.1), (g_1.2.2.2.1), f18_0_1, (g_3.2), (g_1.2.2.2.2))
    else
      (fun (g_5 : Int32 × Int32 × Int32 × Int32 × (Nat → Int32)) =>
        if (g_5.1) < 0 then
          ((nI i18), (g_3.1), 0, (g_5.2.1), (g_5.2.2.1), (g_5.2.2.2.1), (g_1.2.1), (g_1.2.2.1), (g_1.2.2.2.1), (g_5.2.2.2.2), (g_3.2), (g_1.2.2.2.2))
        else
          mX6_carryOut_L18 u g_1 g_3 n18 (i18 + 1) (g_5.2.2.2.2) (g_5.2.1) (g_5.2.2.1) (g_5.2.2.2.1))
        (mX6_does (rset (rset (rset (rset u 1 f18_0_1) 2 (g_3.2)) 8 (g_1.2.2.2.2)) 0 (upd (upd (upd (upd (upd (upd (upd (u 0) 0 (g_3.1)) 2 q18_0_2) 3 q18_0_3) 4 q18_0_4) 5 (g_1.2.1)) 6 (g_1.2.2.1)) 7 (g_1.2.2.2.1))) (nI i18)) : Int32 × Int32 × Int32 × Int32 × Int32 × Int32 × Int32 × Int32 × Int32 × (Nat → Int32) × (Nat → Int32) × (Nat → Int32)) := rfl
def mX6_carryOut (u : kG) : Int32 × Int32 × Int32 × Int32 × Int32 × Int32 × Int32 × Int32 × Int32 × (Nat → Int32) × (Nat → Int32) × (Nat → Int32) :=
  (fun (g_1 : Int32 × Int32 × Int32 × Int32 × (Nat → Int32)) =>
    if (g_1.1) = (-6) then
      (fun (g_3 : Int32 × (Nat → Int32)) =>
        mX6_carryOut_L18 u g_1 g_3 42 0 (u 1) (u 0 2) (u 0 3) (u 0 4))
        (mX6_record (rset (rset u 8 (g_1.2.2.2.2)) 0 (upd (upd (upd (u 0) 5 (g_1.2.1)) 6 (g_1.2.2.1)) 7 (g_1.2.2.2.1))))
    else
      ((-3), (u 0 0), (u 0 1), (u 0 2), (u 0 3), (u 0 4), (g_1.2.1), (g_1.2.2.1), (g_1.2.2.2.1), (u 1), (u 2), (g_1.2.2.2.2)))
    (mX6_readPad u)
theorem mX6_carryOut_s {u : kG} : mX6_carryOut u = (
  (fun (g_1 : Int32 × Int32 × Int32 × Int32 × (Nat → Int32)) =>
    if (g_1.1) = (-6) then
      (fun (g_3 : Int32 × (Nat → Int32)) =>
        mX6_carryOut_L18 u g_1 g_3 42 0 (u 1) (u 0 2) (u 0 3) (u 0 4))
        (mX6_record (rset (rset u 8 (g_1.2.2.2.2)) 0 (upd (upd (upd (u 0) 5 (g_1.2.1)) 6 (g_1.2.2.1)) 7 (g_1.2.2.2.1))))
    else
      ((-3), (u 0 0), (u 0 1), (u 0 2), (u 0 3), (u 0 4), (g_1.2.1), (g_1.2.2.1), (g_1.2.2.2.1), (u 1), (u 2), (g_1.2.2.2.2)))
    (mX6_readPad u) : Int32 × Int32 × Int32 × Int32 × Int32 × Int32 × Int32 × Int32 × Int32 × (Nat → Int32) × (Nat → Int32) × (Nat → Int32)) := rfl
set_option maxHeartbeats 400000 in
set_option maxRecDepth 100000 in
theorem c_X6_carryOut (l : Launch) (E : kE) (b : Nat → Nat) (u : kG) (hj : kInj b 9) (hm : nOK (u 1 2)) (hpm : bOK 6 (u 0 0)) (hp : pLn (u 0 1)) (R : Int32 × Int32 × Int32 × Int32 × Int32 × Int32 × Int32 × Int32 × Int32 × (Nat → Int32) × (Nat → Int32) × (Nat → Int32)) (hE : R = mX6_carryOut u) : Met l yX6_carryOut wsX6_carryOut ({ frames := 10, cells := 0, slots := 0, locals := 230 }) (kPre E [.ref (b 0)] (wModx E b (u 0 0) (u 0 1) (u 0 2) (u 0 3) (u 0 4) (u 0 5) (u 0 6) (u 0 7) (u 1) (u 2) (u 3) (u 4) (u 5) (u 6) (u 7) (u 8))) (kWi E R.1 (wModx E b R.2.1 R.2.2.1 R.2.2.2.1 R.2.2.2.2.1 R.2.2.2.2.2.1 R.2.2.2.2.2.2.1 R.2.2.2.2.2.2.2.1 R.2.2.2.2.2.2.2.2.1 R.2.2.2.2.2.2.2.2.2.1 R.2.2.2.2.2.2.2.2.2.2.1 (u 3) (u 4) (u 5) (u 6) (u 7) R.2.2.2.2.2.2.2.2.2.2.2) (kA b 9)) 0 0 (kA b 9) := by
  refine Met.ofW (cc := cX6_carryOut) (maxL := 2) (ret := (some .int)) (by decide) rfl ?_
  intro p e s m args below meth c s₁ B hml hv
  obtain ⟨rfl, hK, hP⟩ := hv
  have hx := B.exec
  have hb := B.bytes
  have hr := B.returns
  have hts := atoms_spec (ws := wsX6_carryOut) B.pre
  have hown : s.vm.findClass RX6 = some m.cls := findClass_of_methodNamed B.named
  have hlocks := B.notSynchronized
  have hiX6 : ∀ w ∈ wsX60, w ∈ wsX6_carryOut := by decide +kernel
  have hf168 := hts (.fieldLink RX6 168 "SkewEdgesModel" "typed" "I") (by decide +kernel)
  have hf195 := hts (.fieldLink RX6 195 "SkewEdgesModel" "orderMany" "I") (by decide +kernel)
  have hS : va_S (kA b 9) s.heap s.heap [] := va_S.rf
  have hP : va_P E.1 vwCl (wModx E b (u 0 0) (u 0 1) (u 0 2) (u 0 3) (u 0 4) (u 0 5) (u 0 6) (u 0 7) (u 1) (u 2) (u 3) (u 4) (u 5) (u 6) (u 7) (u 8)) s.heap := hP
  have hD := dMod (E := E) hj (u 0 0) (u 0 1) (u 0 2) (u 0 3) (u 0 4) (u 0 5) (u 0 6) (u 0 7) (u 1) (u 2) (u 3) (u 4) (u 5) (u 6) (u 7) (u 8)
  have hl := lv_entry ([.ref (b 0)]) (n := 2) (Nat.le_of_ble_eq_true rfl)
  rw [lg_entry_eq]
  generalize (lg_sl ([.ref (b 0)]) ++ List.replicate (2 - (lg_sl ([.ref (b 0)])).length) Slot.unset).toArray = ls at hl ⊢
  have hl : lv_has ls 2 [(0, .ref (b 0))] := hl
  replace hE := hE.trans mX6_carryOut_s
  refine lv_aload_n hx hb dX6_carryOut_0 rfl (lv_at hl 0 rfl) ?_
  refine kCallWi (va_runV (As := []) (rest := []) ⟨hx, hb, hml, hown, hts⟩ (c_X6_readPad l E b u hj (by assumption) _ rfl) (cwV 0 hts gX6_carryOut_X6_readPad rfl rfl rfl (by decide +kernel) ⟨Nat.le_of_ble_eq_true rfl, Nat.le_of_ble_eq_true rfl⟩) (kPreV hK hP hP (q0 := 0) rfl rfl) rfl rfl hl.1 rfl (lv_room (Nat.le_of_ble_eq_true rfl)) dX6_carryOut_1 ⟨Nat.zero_le _, Nat.zero_le _⟩) hS (fun _ h => h) (fun H locs hP _ _ hS => ?_)
  have ho : ∃ m0 : Nat, m0 ≤ 41 ∧ (mX6_readPad u).2.1 = nI m0 := readPad_m (u := u) hp
  refine kGen (mX6_readPad u) (fun g_1 hg_1 => ?_)
  rw [hg_1] at hE hP ho ⊢
  try dsimp only at hE
  have hP : va_P E.1 vwCl (wModx E b (u 0 0) (u 0 1) (u 0 2) (u 0 3) (u 0 4) (g_1.2.1) (g_1.2.2.1) (g_1.2.2.2.1) (u 1) (u 2) (u 3) (u 4) (u 5) (u 6) (u 7) (g_1.2.2.2.2)) H := hP
  have hD := dMod (E := E) hj (u 0 0) (u 0 1) (u 0 2) (u 0 3) (u 0 4) (g_1.2.1) (g_1.2.2.1) (g_1.2.2.2.1) (u 1) (u 2) (u 3) (u 4) (u 5) (u 6) (u 7) (g_1.2.2.2.2)
  refine lv_bipush (v := (-6)) hx hb dX6_carryOut_4 (by decide) ?_
  refine lv_icmp_eq (tgt := 12) hx hb dX6_carryOut_6 (by decide) (fun c_2 => ?_) (fun c_2 => ?_)
  · replace hE := hE.trans (if_pos c_2)
    refine lv_aload_n hx hb dX6_carryOut_12 rfl (lv_at hl 0 rfl) ?_
    refine kCallWv (va_runV (As := []) (rest := []) ⟨hx, hb, hml, hown, hts⟩ (c_X6_record l E b (rset (rset u 8 (g_1.2.2.2.2)) 0 (upd (upd (upd (u 0) 5 (g_1.2.1)) 6 (g_1.2.2.1)) 7 (g_1.2.2.2.1))) hj (by first | assumption | exact tOK.nI (by omega)) _ rfl) (cwV 0 hts gX6_carryOut_X6_record rfl rfl rfl (by decide +kernel) ⟨Nat.le_of_ble_eq_true rfl, Nat.le_of_ble_eq_true rfl⟩) (kPreV hK hP hP (q0 := 0) rfl rfl) rfl rfl hl.1 rfl (lv_room (Nat.le_of_ble_eq_true rfl)) dX6_carryOut_13 ⟨Nat.zero_le _, Nat.zero_le _⟩) hS (fun _ h => h) (fun H locs hP _ _ hS => ?_)
    refine kGen (mX6_record (rset (rset u 8 (g_1.2.2.2.2)) 0 (upd (upd (upd (u 0) 5 (g_1.2.1)) 6 (g_1.2.2.1)) 7 (g_1.2.2.2.1)))) (fun g_3 hg_3 => ?_)
    rw [hg_3] at hE hP
    try dsimp only at hE
    have hP : va_P E.1 vwCl (wModx E b (g_3.1) (u 0 1) (u 0 2) (u 0 3) (u 0 4) (g_1.2.1) (g_1.2.2.1) (g_1.2.2.2.1) (u 1) (g_3.2) (u 3) (u 4) (u 5) (u 6) (u 7) (g_1.2.2.2.2)) H := hP
    have hD := dMod (E := E) hj (g_3.1) (u 0 1) (u 0 2) (u 0 3) (u 0 4) (g_1.2.1) (g_1.2.2.1) (g_1.2.2.2.1) (u 1) (g_3.2) (u 3) (u 4) (u 5) (u 6) (u 7) (g_1.2.2.2.2)
    refine lv_iconst (v := 0) hx hb dX6_carryOut_16 (by decide) ?_
    refine lv_istore_n (lv' := [(1, .int 0), (0, .ref (b 0))]) hx hb dX6_carryOut_17 rfl hl (by decide) rfl (fun ls hl => ?_)
    have lp18 : ∀ (n18 : Nat) (i18 : Nat) (f18_0_1 : (Nat → Int32)) (q18_0_2 : Int32) (q18_0_3 : Int32) (q18_0_4 : Int32) (H : Heap) (locs : List Loc), (41 < i18 + n18) → (i18 ≤ 41) → (nOK (f18_0_1 2)) → va_P E.1 vwCl (wModx E b (g_3.1) (u 0 1) q18_0_2 q18_0_3 q18_0_4 (g_1.2.1) (g_1.2.2.1) (g_1.2.2.2.1) f18_0_1 (g_3.2) (u 3) (u 4) (u 5) (u 6) (u 7) (g_1.2.2.2.2)) H → va_S (kA b 9) s.heap H locs → ∀ ls : Array Slot, lv_has ls 2 [(1, .int (nI i18)), (0, .ref (b 0))] → R = mX6_carryOut_L18 u g_1 g_3 n18 i18 f18_0_1 q18_0_2 q18_0_3 q18_0_4 → W p l e ({ frames := 10, cells := 0, slots := 0, locals := 230 }) s m ([.ref (b 0)] : List Value).toArray below meth c H locs 0 0 (MQ below (kWi E R.1 (wModx E b R.2.1 R.2.2.1 R.2.2.2.1 R.2.2.2.2.1 R.2.2.2.2.2.1 R.2.2.2.2.2.2.1 R.2.2.2.2.2.2.2.1 R.2.2.2.2.2.2.2.2.1 R.2.2.2.2.2.2.2.2.2.1 R.2.2.2.2.2.2.2.2.2.2.1 (u 3) (u 4) (u 5) (u 6) (u 7) R.2.2.2.2.2.2.2.2.2.2.2) (kA b 9)) ([.ref (b 0)] : List Value).toArray s 0 0 (kA b 9)) (F0 m 18 ls []) := by
      clear hE
      intro n18
      induction n18 with
      | zero =>
        intro i18 f18_0_1 q18_0_2 q18_0_3 q18_0_4 H locs hm18 hi18 hz hP hS ls hl hE
        exact absurd hm18 (by omega)
      | succ n18 ih18 =>
        intro i18 f18_0_1 q18_0_2 q18_0_3 q18_0_4 H locs hm18 hi18 hz hP hS ls hl hE
        have hD := dMod (E := E) hj (g_3.1) (u 0 1) q18_0_2 q18_0_3 q18_0_4 (g_1.2.1) (g_1.2.2.1) (g_1.2.2.2.1) f18_0_1 (g_3.2) (u 3) (u 4) (u 5) (u 6) (u 7) (g_1.2.2.2.2)
        replace hE := hE.trans mX6_carryOut_L18_s
        refine lv_iload_n hx hb dX6_carryOut_18 rfl (lv_at hl 0 rfl) ?_
        refine lv_aload_n hx hb dX6_carryOut_19 rfl (lv_at hl 1 rfl) ?_
        refine va_get (D := E.1) (ci := 5) (v := .int (g_1.2.1)) (C := RX6) (T := TX6) (N := 16) hx hb hts hiX6 hown hK.1 hP 0 rfl rfl 13 (by decide) hf195 (fun _ h9 => h9) rfl dX6_carryOut_20 ?_
        refine lv_icmp_ge (tgt := 40) hx hb dX6_carryOut_23 (by decide) (fun c_4 => ?_) (fun c_4 => ?_)
        · replace hE := hE.trans (if_pos c_4)
          refine lv_aload_n hx hb dX6_carryOut_40 rfl (lv_at hl 1 rfl) ?_
          refine lv_iconst (v := 0) hx hb dX6_carryOut_41 (by decide) ?_
          refine va_put (D := E.1) (ci := 5) (v := .int 0) (ty := .int) (C := RX6) (T := TX6) (N := 16) hx hb hts hiX6 tyX6 tyX6_ok nmX6 hown hK.1 hP hD hS 0 rfl rfl 6 (by decide) hf168 (fun _ h9 => h9) rfl (by decide +kernel) rfl rfl (Nat.le_of_ble_eq_true rfl) dX6_carryOut_42 (fun H locs hP _ hS => ?_)
          have hP : va_P E.1 vwCl (wModx E b (g_3.1) 0 q18_0_2 q18_0_3 q18_0_4 (g_1.2.1) (g_1.2.2.1) (g_1.2.2.2.1) f18_0_1 (g_3.2) (u 3) (u 4) (u 5) (u 6) (u 7) (g_1.2.2.2.2)) H := hP
          have hD := dMod (E := E) hj (g_3.1) 0 q18_0_2 q18_0_3 q18_0_4 (g_1.2.1) (g_1.2.2.1) (g_1.2.2.2.1) f18_0_1 (g_3.2) (u 3) (u 4) (u 5) (u 6) (u 7) (g_1.2.2.2.2)
          refine lv_iload_n hx hb dX6_carryOut_45 rfl (lv_at hl 0 rfl) ?_
          subst R
          exact W.iret (v := (nI i18)) hx hb hr (fun t ht hW => ⟨rfl, by rw [ht]; exact hP, hS.F ht⟩) hS.2.2 dX6_carryOut_46
        · replace hE := hE.trans (if_neg c_4)
          obtain ⟨hoo, hb18⟩ := mlt ho (by omega) c_4
          refine lv_aload_n hx hb dX6_carryOut_26 rfl (lv_at hl 1 rfl) ?_
          refine lv_iload_n hx hb dX6_carryOut_27 rfl (lv_at hl 0 rfl) ?_
          refine kCallWi (va_runV (As := [.int (nI i18)]) (rest := []) ⟨hx, hb, hml, hown, hts⟩ (c_X6_does l E b (rset (rset (rset (rset u 1 f18_0_1) 2 (g_3.2)) 8 (g_1.2.2.2.2)) 0 (upd (upd (upd (upd (upd (upd (upd (u 0) 0 (g_3.1)) 2 q18_0_2) 3 q18_0_3) 4 q18_0_4) 5 (g_1.2.1)) 6 (g_1.2.2.1)) 7 (g_1.2.2.2.1))) hj (nI i18) hz hoo _ rfl) (cwV 1 hts gX6_carryOut_X6_does rfl rfl rfl (by decide +kernel) ⟨Nat.le_of_ble_eq_true rfl, Nat.le_of_ble_eq_true rfl⟩) (kPreV hK hP hP (q0 := 0) rfl rfl) rfl rfl hl.1 rfl (lv_room (Nat.le_of_ble_eq_true rfl)) dX6_carryOut_28 ⟨Nat.zero_le _, Nat.zero_le _⟩) hS (fun _ h => h) (fun H locs hP _ _ hS => ?_)
          have hz2 : nOK ((mX6_does (rset (rset (rset (rset u 1 f18_0_1) 2 (g_3.2)) 8 (g_1.2.2.2.2)) 0 (upd (upd (upd (upd (upd (upd (upd (u 0) 0 (g_3.1)) 2 q18_0_2) 3 q18_0_3) 4 q18_0_4) 5 (g_1.2.1)) 6 (g_1.2.2.1)) 7 (g_1.2.2.2.1))) (nI i18)).2.2.2.2 2) := does_n (u := (rset (rset (rset (rset u 1 f18_0_1) 2 (g_3.2)) 8 (g_1.2.2.2.2)) 0 (upd (upd (upd (upd (upd (upd (upd (u 0) 0 (g_3.1)) 2 q18_0_2) 3 q18_0_3) 4 q18_0_4) 5 (g_1.2.1)) 6 (g_1.2.2.1)) 7 (g_1.2.2.2.1)))) hz
          refine kGen (mX6_does (rset (rset (rset (rset u 1 f18_0_1) 2 (g_3.2)) 8 (g_1.2.2.2.2)) 0 (upd (upd (upd (upd (upd (upd (upd (u 0) 0 (g_3.1)) 2 q18_0_2) 3 q18_0_3) 4 q18_0_4) 5 (g_1.2.1)) 6 (g_1.2.2.1)) 7 (g_1.2.2.2.1))) (nI i18)) (fun g_5 hg_5 => ?_)
          rw [hg_5] at hE hP hz2 ⊢
          try dsimp only at hE
          have hP : va_P E.1 vwCl (wModx E b (g_3.1) (u 0 1) (g_5.2.1) (g_5.2.2.1) (g_5.2.2.2.1) (g_1.2.1) (g_1.2.2.1) (g_1.2.2.2.1) (g_5.2.2.2.2) (g_3.2) (u 3) (u 4) (u 5) (u 6) (u 7) (g_1.2.2.2.2)) H := hP
          have hD := dMod (E := E) hj (g_3.1) (u 0 1) (g_5.2.1) (g_5.2.2.1) (g_5.2.2.2.1) (g_1.2.1) (g_1.2.2.1) (g_1.2.2.2.1) (g_5.2.2.2.2) (g_3.2) (u 3) (u 4) (u 5) (u 6) (u 7) (g_1.2.2.2.2)
          refine lv_if_lt (tgt := 40) hx hb dX6_carryOut_31 (by decide) (fun c_6 => ?_) (fun c_6 => ?_)
          · replace hE := hE.trans (if_pos c_6)
            refine lv_aload_n hx hb dX6_carryOut_40 rfl (lv_at hl 1 rfl) ?_
            refine lv_iconst (v := 0) hx hb dX6_carryOut_41 (by decide) ?_
            refine va_put (D := E.1) (ci := 5) (v := .int 0) (ty := .int) (C := RX6) (T := TX6) (N := 16) hx hb hts hiX6 tyX6 tyX6_ok nmX6 hown hK.1 hP hD hS 0 rfl rfl 6 (by decide) hf168 (fun _ h9 => h9) rfl (by decide +kernel) rfl rfl (Nat.le_of_ble_eq_true rfl) dX6_carryOut_42 (fun H locs hP _ hS => ?_)
            have hP : va_P E.1 vwCl (wModx E b (g_3.1) 0 (g_5.2.1) (g_5.2.2.1) (g_5.2.2.2.1) (g_1.2.1) (g_1.2.2.1) (g_1.2.2.2.1) (g_5.2.2.2.2) (g_3.2) (u 3) (u 4) (u 5) (u 6) (u 7) (g_1.2.2.2.2)) H := hP
            have hD := dMod (E := E) hj (g_3.1) 0 (g_5.2.1) (g_5.2.2.1) (g_5.2.2.2.1) (g_1.2.1) (g_1.2.2.1) (g_1.2.2.2.1) (g_5.2.2.2.2) (g_3.2) (u 3) (u 4) (u 5) (u 6) (u 7) (g_1.2.2.2.2)
            refine lv_iload_n hx hb dX6_carryOut_45 rfl (lv_at hl 0 rfl) ?_
            subst R
            exact W.iret (v := (nI i18)) hx hb hr (fun t ht hW => ⟨rfl, by rw [ht]; exact hP, hS.F ht⟩) hS.2.2 dX6_carryOut_46
          · replace hE := hE.trans (if_neg c_6)
            refine lv_iinc (v := (nI (i18 + 1))) (lv' := [(1, .int (nI (i18 + 1))), (0, .ref (b 0))]) hx hb dX6_carryOut_34 hl (k := 0) rfl (nI_1 i18) (by decide) rfl (fun ls hl => ?_)
            refine lv_goto (tgt := 18) hx hb dX6_carryOut_37 (by decide) ?_
            exact ih18 (i18 + 1) (g_5.2.2.2.2) (g_5.2.1) (g_5.2.2.1) (g_5.2.2.2.1) _ _ (by omega) (by omega) hz2 hP hS ls (lv_sub hl [0, 1] rfl) hE
    exact lp18 42 0 (u 1) (u 0 2) (u 0 3) (u 0 4) _ _ (by omega) (by omega) hm hP hS ls (lv_sub hl [0, 1] rfl) hE
  · replace hE := hE.trans (if_neg c_2)
    refine lv_bipush (v := (-3)) hx hb dX6_carryOut_9 (by decide) ?_
    subst R
    exact W.iret (v := (-3)) hx hb hr (fun t ht hW => ⟨rfl, by rw [ht]; exact hP, hS.F ht⟩) hS.2.2 dX6_carryOut_11
