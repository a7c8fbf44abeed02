def mX6_number_L27 (u : kG) (g_1 : (Int32 × Int32)) : Nat → Int32 → Int32 → Int32 → (Int32 × Int32 × Int32)
  | 0, _, _, _ => (0, 0, 0)
  | n27 + 1, x27_1, x27_2, q27_0_6 =>
    if (g_1.2) = (-6) then
      if x27_1 ≤ 0 then
        (x27_1, q27_0_6, (g_1.2))
      else
        if (mX6_in x27_2 0 9) = 0 then
          (x27_1, q27_0_6, (g_1.2))
        else
          if 999 < ((10 * x27_1) + x27_2) then
            (x27_1, q27_0_6, (g_1.2))
          else
            mX6_number_L27 u g_1 n27 ((10 * x27_1) + x27_2) ((mX6_letter (rset u 0 (upd (upd (u 0) 6 (q27_0_6 + 1)) 7 (g_1.2)))) - 48) (q27_0_6 + 1)
    else
      (x27_1, q27_0_6, (g_1.2))
theorem mX6_number_L27_s {u : kG} {g_1 : (Int32 × Int32)} {n27 : Nat} {x27_1 : Int32} {x27_2 : Int32} {q27_0_6 : Int32} : mX6_number_L27 u g_1 (n27 + 1) x27_1 x27_2 q27_0_6 = (
    if (g_1.2) = (-6) then
      if x27_1 ≤ 0 then
        (x27_1, q27_0_6, (g_1.2))
      else
        if (mX6_in x27_2 0 9) = 0 then
          (x27_1, q27_0_6, (g_1.2))
        else
          if 999 < ((10 * x27_1) + x27_2) then
            (x27_1, q27_0_6, (g_1.2))
          else
            mX6_number_L27 u g_1 n27 ((10 * x27_1) + x27_2) ((mX6_letter (rset u 0 (upd (upd (u 0) 6 (q27_0_6 + 1)) 7 (g_1.2)))) - 48) (q27_0_6 + 1)
    else
      (x27_1, q27_0_6, (g_1.2)) : Int32 × Int32 × Int32) := rfl
def mX6_number (u : kG) : Int32 × Int32 × Int32 :=
  (fun (g_1 : Int32 × Int32) =>
    mX6_number_L27 u g_1 83 ((mX6_letter u) - 48) ((mX6_letter (rset u 0 (upd (upd (u 0) 6 (g_1.1)) 7 (g_1.2)))) - 48) (g_1.1))
    (mX6_wants u (mX6_in ((mX6_letter u) - 48) 0 9))
theorem mX6_number_s {u : kG} : mX6_number u = (
  (fun (g_1 : Int32 × Int32) =>
    mX6_number_L27 u g_1 83 ((mX6_letter u) - 48) ((mX6_letter (rset u 0 (upd (upd (u 0) 6 (g_1.1)) 7 (g_1.2)))) - 48) (g_1.1))
    (mX6_wants u (mX6_in ((mX6_letter u) - 48) 0 9)) : Int32 × Int32 × Int32) := rfl
set_option maxHeartbeats 400000 in
set_option maxRecDepth 100000 in
theorem c_X6_number (l : Launch) (E : kE) (b : Nat → Nat) (u : kG) (hj : kInj b 9) (hq : qB (u 0 1) (u 0 6) (u 0 7) 0) (R : Int32 × Int32 × Int32) (hE : R = mX6_number u) : Met l yX6_number wsX6_number ({ frames := 1, cells := 0, slots := 0, locals := 22 }) (kPre E [.ref (b 0)] (wModx E b (u 0 0) (u 0 1) (u 0 2) (u 0 3) (u 0 4) (u 0 5) (u 0 6) (u 0 7) (u 1) (u 2) (u 3) (u 4) (u 5) (u 6) (u 7) (u 8))) (kWi E R.1 (wModx E b (u 0 0) (u 0 1) (u 0 2) (u 0 3) (u 0 4) (u 0 5) R.2.1 R.2.2 (u 1) (u 2) (u 3) (u 4) (u 5) (u 6) (u 7) (u 8)) (kA b 9)) 0 0 (kA b 9) := by
  refine Met.ofW (cc := cX6_number) (maxL := 3) (ret := (some .int)) (by decide) rfl ?_
  intro p e s m args below meth c s₁ B hml hv
  obtain ⟨rfl, hK, hP⟩ := hv
  have hx := B.exec
  have hb := B.bytes
  have hr := B.returns
  have hts := atoms_spec (ws := wsX6_number) B.pre
  have hown : s.vm.findClass RX6 = some m.cls := findClass_of_methodNamed B.named
  have hlocks := B.notSynchronized
  have hiX6 : ∀ w ∈ wsX60, w ∈ wsX6_number := by decide +kernel
  have hf182 := hts (.fieldLink RX6 182 "SkewEdgesModel" "spot" "I") (by decide +kernel)
  have hf185 := hts (.fieldLink RX6 185 "SkewEdgesModel" "wrong" "I") (by decide +kernel)
  have hS : va_S (kA b 9) s.heap s.heap [] := va_S.rf
  have hP : va_P E.1 vwCl (wModx E b (u 0 0) (u 0 1) (u 0 2) (u 0 3) (u 0 4) (u 0 5) (u 0 6) (u 0 7) (u 1) (u 2) (u 3) (u 4) (u 5) (u 6) (u 7) (u 8)) s.heap := hP
  have hD := dMod (E := E) hj (u 0 0) (u 0 1) (u 0 2) (u 0 3) (u 0 4) (u 0 5) (u 0 6) (u 0 7) (u 1) (u 2) (u 3) (u 4) (u 5) (u 6) (u 7) (u 8)
  have hl := lv_entry ([.ref (b 0)]) (n := 3) (Nat.le_of_ble_eq_true rfl)
  rw [lg_entry_eq]
  generalize (lg_sl ([.ref (b 0)]) ++ List.replicate (3 - (lg_sl ([.ref (b 0)])).length) Slot.unset).toArray = ls at hl ⊢
  have hl : lv_has ls 3 [(0, .ref (b 0))] := hl
  replace hE := hE.trans mX6_number_s
  refine lv_aload_n hx hb dX6_number_0 rfl (lv_at hl 0 rfl) ?_
  refine kCallRi (va_runV (As := []) (rest := []) ⟨hx, hb, hml, hown, hts⟩ (c_X6_letter l E b u hq.s _ rfl) (cwV 0 hts gX6_number_X6_letter rfl rfl rfl (by decide +kernel) ⟨Nat.le_of_ble_eq_true rfl, Nat.le_of_ble_eq_true rfl⟩) (kPreV hK hP hP (q0 := 0) rfl rfl) rfl rfl hl.1 rfl (lv_room (Nat.le_of_ble_eq_true rfl)) dX6_number_1 ⟨Nat.zero_le _, Nat.zero_le _⟩) ?_
  refine lv_bipush (v := 48) hx hb dX6_number_4 (by decide) ?_
  refine lv_isub hx hb dX6_number_6 ?_
  refine lv_istore_n (lv' := [(1, .int ((mX6_letter u) - 48)), (0, .ref (b 0))]) hx hb dX6_number_7 rfl hl (by decide) rfl (fun ls hl => ?_)
  refine lv_aload_n hx hb dX6_number_8 rfl (lv_at hl 1 rfl) ?_
  refine lv_iload_n hx hb dX6_number_9 rfl (lv_at hl 0 rfl) ?_
  refine lv_iconst (v := 0) hx hb dX6_number_10 (by decide) ?_
  refine lv_bipush (v := 9) hx hb dX6_number_11 (by decide) ?_
  refine kCallRi (va_runS (As := [.int ((mX6_letter u) - 48), .int 0, .int 9]) (rest := [.ref (b 0)]) ⟨hx, hb, hml, hown, hts⟩ (c_X6_in l E ((mX6_letter u) - 48) 0 9 _ rfl) (va_cwS 3 hts gX6_number_X6_in rfl rfl rfl (by decide +kernel) ⟨Nat.le_of_ble_eq_true rfl, Nat.le_of_ble_eq_true rfl⟩) (kPreS hK kP0) rfl rfl hl.1 rfl (lv_room (Nat.le_of_ble_eq_true rfl)) dX6_number_13 ⟨Nat.zero_le _, Nat.zero_le _⟩) ?_
  refine kCallWv (va_runV (As := [.int (mX6_in ((mX6_letter u) - 48) 0 9)]) (rest := []) ⟨hx, hb, hml, hown, hts⟩ (c_X6_wants l E b u hj (mX6_in ((mX6_letter u) - 48) 0 9) _ rfl) (cwV 1 hts gX6_number_X6_wants rfl rfl rfl (by decide +kernel) ⟨Nat.le_of_ble_eq_true rfl, Nat.le_of_ble_eq_true rfl⟩) (kPreV hK hP hP (q0 := 0) rfl rfl) rfl rfl hl.1 rfl (lv_room (Nat.le_of_ble_eq_true rfl)) dX6_number_16 ⟨Nat.zero_le _, Nat.zero_le _⟩) hS (fun _ h => h) (fun H locs hP _ _ hS => ?_)
  have hw1 : qB (u 0 1) (mX6_wants u (mX6_in ((mX6_letter u) - 48) 0 9)).1 (mX6_wants u (mX6_in ((mX6_letter u) - 48) 0 9)).2 (0 + 1) := wants_q (u := u) hq (fun c => dig_lt hq c)
  refine kGen (mX6_wants u (mX6_in ((mX6_letter u) - 48) 0 9)) (fun g_1 hg_1 => ?_)
  rw [hg_1] at hE hP hw1
  try dsimp only at hE
  have hP : va_P E.1 vwCl (wModx E b (u 0 0) (u 0 1) (u 0 2) (u 0 3) (u 0 4) (u 0 5) (g_1.1) (g_1.2) (u 1) (u 2) (u 3) (u 4) (u 5) (u 6) (u 7) (u 8)) H := hP
  have hD := dMod (E := E) hj (u 0 0) (u 0 1) (u 0 2) (u 0 3) (u 0 4) (u 0 5) (g_1.1) (g_1.2) (u 1) (u 2) (u 3) (u 4) (u 5) (u 6) (u 7) (u 8)
  refine lv_aload_n hx hb dX6_number_19 rfl (lv_at hl 1 rfl) ?_
  refine kCallRi (va_runV (As := []) (rest := []) ⟨hx, hb, hml, hown, hts⟩ (c_X6_letter l E b (rset u 0 (upd (upd (u 0) 6 (g_1.1)) 7 (g_1.2))) hw1.s _ rfl) (cwV 0 hts gX6_number_X6_letter rfl rfl rfl (by decide +kernel) ⟨Nat.le_of_ble_eq_true rfl, Nat.le_of_ble_eq_true rfl⟩) (kPreV hK hP hP (q0 := 0) rfl rfl) rfl rfl hl.1 rfl (lv_room (Nat.le_of_ble_eq_true rfl)) dX6_number_20 ⟨Nat.zero_le _, Nat.zero_le _⟩) ?_
  refine lv_bipush (v := 48) hx hb dX6_number_23 (by decide) ?_
  refine lv_isub hx hb dX6_number_25 ?_
  refine lv_istore_n (lv' := [(2, .int ((mX6_letter (rset u 0 (upd (upd (u 0) 6 (g_1.1)) 7 (g_1.2)))) - 48)), (1, .int ((mX6_letter u) - 48)), (0, .ref (b 0))]) hx hb dX6_number_26 rfl hl (by decide) rfl (fun ls hl => ?_)
  have lp27 : ∀ (n27 : Nat) (x27_1 : Int32) (x27_2 : Int32) (q27_0_6 : Int32) (H : Heap) (locs : List Loc), (qM (u 0 1) q27_0_6 n27) → (qB (u 0 1) q27_0_6 (g_1.2) 0) → (x27_2 = ((mX6_letter (rset u 0 (upd (upd (u 0) 6 q27_0_6) 7 (g_1.2)))) - 48)) → va_P E.1 vwCl (wModx E b (u 0 0) (u 0 1) (u 0 2) (u 0 3) (u 0 4) (u 0 5) q27_0_6 (g_1.2) (u 1) (u 2) (u 3) (u 4) (u 5) (u 6) (u 7) (u 8)) H → va_S (kA b 9) s.heap H locs → ∀ ls : Array Slot, lv_has ls 3 [(2, .int x27_2), (1, .int x27_1), (0, .ref (b 0))] → R = mX6_number_L27 u g_1 n27 x27_1 x27_2 q27_0_6 → W p l e ({ frames := 1, cells := 0, slots := 0, locals := 22 }) s m ([.ref (b 0)] : List Value).toArray below meth c H locs 0 0 (MQ below (kWi E R.1 (wModx E b (u 0 0) (u 0 1) (u 0 2) (u 0 3) (u 0 4) (u 0 5) R.2.1 R.2.2 (u 1) (u 2) (u 3) (u 4) (u 5) (u 6) (u 7) (u 8)) (kA b 9)) ([.ref (b 0)] : List Value).toArray s 0 0 (kA b 9)) (F0 m 27 ls []) := by
    clear hE
    intro n27
    induction n27 with
    | zero =>
      intro x27_1 x27_2 q27_0_6 H locs hm27 hql hmo hP hS ls hl hE
      exact hm27.no.elim
    | succ n27 ih27 =>
      intro x27_1 x27_2 q27_0_6 H locs hm27 hql hmo hP hS ls hl hE
      have hD := dMod (E := E) hj (u 0 0) (u 0 1) (u 0 2) (u 0 3) (u 0 4) (u 0 5) q27_0_6 (g_1.2) (u 1) (u 2) (u 3) (u 4) (u 5) (u 6) (u 7) (u 8)
      replace hE := hE.trans mX6_number_L27_s
      refine lv_aload_n hx hb dX6_number_27 rfl (lv_at hl 2 rfl) ?_
      refine va_get (D := E.1) (ci := 5) (v := .int (g_1.2)) (C := RX6) (T := TX6) (N := 16) hx hb hts hiX6 hown hK.1 hP 0 rfl rfl 15 (by decide) hf185 (fun _ h9 => h9) rfl dX6_number_28 ?_
      refine lv_bipush (v := (-6)) hx hb dX6_number_31 (by decide) ?_
      refine lv_icmp_ne (tgt := 90) hx hb dX6_number_33 (by decide) (fun c_2 => ?_) (fun c_2 => ?_)
      · replace hE := hE.trans (if_neg c_2)
        refine lv_iload_n hx hb dX6_number_90 rfl (lv_at hl 1 rfl) ?_
        subst R
        exact W.iret (v := x27_1) hx hb hr (fun t ht hW => ⟨rfl, by rw [ht]; exact hP, hS.F ht⟩) hS.2.2 dX6_number_91
      · replace hE := hE.trans (if_pos c_2)
        refine lv_iload_n hx hb dX6_number_36 rfl (lv_at hl 1 rfl) ?_
        refine lv_if_le (tgt := 90) hx hb dX6_number_37 (by decide) (fun c_3 => ?_) (fun c_3 => ?_)
        · replace hE := hE.trans (if_pos c_3)
          refine lv_iload_n hx hb dX6_number_90 rfl (lv_at hl 1 rfl) ?_
          subst R
          exact W.iret (v := x27_1) hx hb hr (fun t ht hW => ⟨rfl, by rw [ht]; exact hP, hS.F ht⟩) hS.2.2 dX6_number_91
        · replace hE := hE.trans (if_neg c_3)
          refine lv_iload_n hx hb dX6_number_40 rfl (lv_at hl 0 rfl) ?_
          refine lv_iconst (v := 0) hx hb dX6_number_41 (by decide) ?_
          refine lv_bipush (v := 9) hx hb dX6_number_42 (by decide) ?_
          refine kCallRi (va_runS (As := [.int x27_2, .int 0, .int 9]) (rest := []) ⟨hx, hb, hml, hown, hts⟩ (c_X6_in l E x27_2 0 9 _ rfl) (va_cwS 3 hts gX6_number_X6_in rfl rfl rfl (by decide +kernel) ⟨Nat.le_of_ble_eq_true rfl, Nat.le_of_ble_eq_true rfl⟩) (kPreS hK kP0) rfl rfl hl.1 rfl (lv_room (Nat.le_of_ble_eq_true rfl)) dX6_number_44 ⟨Nat.zero_le _, Nat.zero_le _⟩) ?_
          refine lv_if_eq (tgt := 90) hx hb dX6_number_47 (by decide) (fun c_4 => ?_) (fun c_4 => ?_)
          · replace hE := hE.trans (if_pos c_4)
            refine lv_iload_n hx hb dX6_number_90 rfl (lv_at hl 1 rfl) ?_
            subst R
            exact W.iret (v := x27_1) hx hb hr (fun t ht hW => ⟨rfl, by rw [ht]; exact hP, hS.F ht⟩) hS.2.2 dX6_number_91
          · replace hE := hE.trans (if_neg c_4)
            have hlt : qLt (u 0 1) q27_0_6 := dig_lt (u := rset u 0 (upd (upd (u 0) 6 q27_0_6) 7 (g_1.2))) hql (by rw [← hmo]; exact c_4)
            have hqn : qB (u 0 1) (q27_0_6 + 1) (g_1.2) 0 := hql.step hlt
            refine lv_bipush (v := 10) hx hb dX6_number_50 (by decide) ?_
            refine lv_iload_n hx hb dX6_number_52 rfl (lv_at hl 1 rfl) ?_
            refine lv_imul hx hb dX6_number_53 ?_
            refine lv_iload_n hx hb dX6_number_54 rfl (lv_at hl 0 rfl) ?_
            refine lv_iadd hx hb dX6_number_55 ?_
            refine lv_sipush (v := 999) hx hb dX6_number_56 (by decide) ?_
            refine lv_icmp_gt (tgt := 90) hx hb dX6_number_59 (by decide) (fun c_5 => ?_) (fun c_5 => ?_)
            · replace hE := hE.trans (if_pos c_5)
              refine lv_iload_n hx hb dX6_number_90 rfl (lv_at hl 1 rfl) ?_
              subst R
              exact W.iret (v := x27_1) hx hb hr (fun t ht hW => ⟨rfl, by rw [ht]; exact hP, hS.F ht⟩) hS.2.2 dX6_number_91
            · replace hE := hE.trans (if_neg c_5)
              refine lv_bipush (v := 10) hx hb dX6_number_62 (by decide) ?_
              refine lv_iload_n hx hb dX6_number_64 rfl (lv_at hl 1 rfl) ?_
              refine lv_imul hx hb dX6_number_65 ?_
              refine lv_iload_n hx hb dX6_number_66 rfl (lv_at hl 0 rfl) ?_
              refine lv_iadd hx hb dX6_number_67 ?_
              refine lv_istore_n (lv' := [(1, .int ((10 * x27_1) + x27_2)), (2, .int x27_2), (0, .ref (b 0))]) hx hb dX6_number_68 rfl hl (by decide) rfl (fun ls hl => ?_)
              refine lv_aload_n hx hb dX6_number_69 rfl (lv_at hl 2 rfl) ?_
              refine lv_dup hx hb dX6_number_70 rfl ?_
              refine va_get (D := E.1) (ci := 5) (v := .int q27_0_6) (C := RX6) (T := TX6) (N := 16) hx hb hts hiX6 hown hK.1 hP 0 rfl rfl 14 (by decide) hf182 (fun _ h9 => h9) rfl dX6_number_71 ?_
              refine lv_iconst (v := 1) hx hb dX6_number_74 (by decide) ?_
              refine lv_iadd hx hb dX6_number_75 ?_
              refine va_put (D := E.1) (ci := 5) (v := .int (q27_0_6 + 1)) (ty := .int) (C := RX6) (T := TX6) (N := 16) hx hb hts hiX6 tyX6 tyX6_ok nmX6 hown hK.1 hP hD hS 0 rfl rfl 14 (by decide) hf182 (fun _ h9 => h9) rfl (by decide +kernel) rfl rfl (Nat.le_of_ble_eq_true rfl) dX6_number_76 (fun H locs hP _ hS => ?_)
              have hP : va_P E.1 vwCl (wModx E b (u 0 0) (u 0 1) (u 0 2) (u 0 3) (u 0 4) (u 0 5) (q27_0_6 + 1) (g_1.2) (u 1) (u 2) (u 3) (u 4) (u 5) (u 6) (u 7) (u 8)) H := hP
              have hD := dMod (E := E) hj (u 0 0) (u 0 1) (u 0 2) (u 0 3) (u 0 4) (u 0 5) (q27_0_6 + 1) (g_1.2) (u 1) (u 2) (u 3) (u 4) (u 5) (u 6) (u 7) (u 8)
              refine lv_aload_n hx hb dX6_number_79 rfl (lv_at hl 2 rfl) ?_
              refine kCallRi (va_runV (As := []) (rest := []) ⟨hx, hb, hml, hown, hts⟩ (c_X6_letter l E b (rset u 0 (upd (upd (u 0) 6 (q27_0_6 + 1)) 7 (g_1.2))) hqn.s _ rfl) (cwV 0 hts gX6_number_X6_letter rfl rfl rfl (by decide +kernel) ⟨Nat.le_of_ble_eq_true rfl, Nat.le_of_ble_eq_true rfl⟩) (kPreV hK hP hP (q0 := 0) rfl rfl) rfl rfl hl.1 rfl (lv_room (Nat.le_of_ble_eq_true rfl)) dX6_number_80 ⟨Nat.zero_le _, Nat.zero_le _⟩) ?_
              refine lv_bipush (v := 48) hx hb dX6_number_83 (by decide) ?_
              refine lv_isub hx hb dX6_number_85 ?_
              refine lv_istore_n (lv' := [(2, .int ((mX6_letter (rset u 0 (upd (upd (u 0) 6 (q27_0_6 + 1)) 7 (g_1.2)))) - 48)), (1, .int ((10 * x27_1) + x27_2)), (0, .ref (b 0))]) hx hb dX6_number_86 rfl hl (by decide) rfl (fun ls hl => ?_)
              refine lv_goto (tgt := 27) hx hb dX6_number_87 (by decide) ?_
              exact ih27 ((10 * x27_1) + x27_2) ((mX6_letter (rset u 0 (upd (upd (u 0) 6 (q27_0_6 + 1)) 7 (g_1.2)))) - 48) (q27_0_6 + 1) _ _ (hm27.step hlt) hqn rfl hP hS ls (lv_sub hl [0, 1, 2] rfl) hE
  exact lp27 83 ((mX6_letter u) - 48) ((mX6_letter (rset u 0 (upd (upd (u 0) 6 (g_1.1)) 7 (g_1.2)))) - 48) (g_1.1) _ _ hw1.init (hw1.weak (by omega)) rfl hP hS ls (lv_sub hl [0, 1, 2] rfl) hE
