theorem lay_n {u : kG} {t w x : Int32} (hm : nOK (u 1 2)) (ht : tOK t) (hw : wOK w) : nOK (mX6_lay u t w x 2) := by
  rw [lay_lo ht hw 2 (by decide)]; exact hm
theorem sOK.b {x : Int32} (h : sOK x) : bOK 65535 x := by
  obtain ⟨n, hn, rfl⟩ := h
  exact ⟨n, by omega, rfl⟩
theorem setOf_Ls {u : kG} {w : Int32} (hv : nOK (u 1 2)) : ∀ (n : Nat) (x : Int32) (i : Nat), i ≤ 12 → sOK x → sOK (mX6_setOf_L4 u w n x i) := by
  intro n
  induction n with
  | zero => intro x i _ _; exact sOK.zero
  | succ n ih =>
    intro x i hi hx
    rw [mX6_setOf_L4_s]
    split
    · exact hx
    · rename_i c
      have hi2 := nOK.lt hv hi c
      split
      · exact ih _ _ (by omega) (hx.or sOK.zero)
      · exact ih _ _ (by omega) (hx.or (sOK.one hi2))
theorem setOf_s {u : kG} (hv : nOK (u 1 2)) (w : Int32) : sOK (mX6_setOf u w) := setOf_Ls hv _ _ _ (by omega) sOK.zero
theorem setOf_b {u : kG} (hv : nOK (u 1 2)) (w : Int32) : bOK 65535 (mX6_setOf u w) := (setOf_s hv w).b
def mX6_reasonFor_L2 (u : kG) (x1 : Int32) (x2 : Int32) : Nat → Nat → (Int32 × Int32 × Int32 × Int32 × (Nat → Int32))
  | 0, _ => (0, 0, 0, 0, (fun _ => 0))
  | n2 + 1, i2 =>
    if 16 ≤ (nI i2) then
      (fun (g_2 : (Nat → Int32)) =>
        (fun (g_3 : (Nat → Int32)) =>
          (fun (g_4 : Int32 × Int32 × Int32 × Int32) =>
            (fun (g_5 : (Nat → Int32)) =>
              (fun (g_6 : (Nat → Int32)) =>
                if (g_4.1) = 0 then
                  (0, (g_4.2.1), (g_4.2.2.1), (g_4.2.2.2), g_6)
                else
                  (2, (g_4.2.1), (g_4.2.2.1), (g_4.2.2.2), g_6))
                (mX6_lay (rset (rset u 1 g_5) 0 (upd (upd (upd (u 0) 2 (g_4.2.1)) 3 (g_4.2.2.1)) 4 (g_4.2.2.2))) x1 2 (-6)))
              (mX6_lay (rset (rset u 1 g_3) 0 (upd (upd (upd (u 0) 2 (g_4.2.1)) 3 (g_4.2.2.1)) 4 (g_4.2.2.2))) x1 0 0))
            (mX6_findTriple (rset u 1 g_3) x1 x2))
          (mX6_lay (rset u 1 g_2) x1 2 ((g_2 1) + 1)))
        (mX6_lay u x1 0 1)
    else
      if (mX6_wrote u x1 (nI i2)) = 0 then
        mX6_reasonFor_L2 u x1 x2 n2 (i2 + 1)
      else
        if (mX6_writerBehind u (nI i2) (mX6_its u x1 1)) = (-6) then
          mX6_reasonFor_L2 u x1 x2 n2 (i2 + 1)
        else
          (1, (u 0 2), (u 0 3), (u 0 4), (u 1))
theorem mX6_reasonFor_L2_s {u : kG} {x1 : Int32} {x2 : Int32} {n2 : Nat} {i2 : Nat} : mX6_reasonFor_L2 u x1 x2 (n2 + 1) i2 = (
    if 16 ≤ (nI i2) then
      (fun (g_2 : (Nat → Int32)) =>
        (fun (g_3 : (Nat → Int32)) =>
          (fun (g_4 : Int32 × Int32 × Int32 × Int32) =>
            (fun (g_5 : (Nat → Int32)) =>
              (fun (g_6 : (Nat → Int32)) =>
                if (g_4.1) = 0 then
                  (0, (g_4.2.1), (g_4.2.2.1), (g_4.2.2.2), g_6)
                else
                  (2, (g_4.2.1), (g_4.2.2.1), (g_4.2.2.2), g_6))
                (mX6_lay (rset (rset u 1 g_5) 0 (upd (upd (upd (u 0) 2 (g_4.2.1)) 3 (g_4.2.2.1)) 4 (g_4.2.2.2))) x1 2 (-6)))
              (mX6_lay (rset (rset u 1 g_3) 0 (upd (upd (upd (u 0) 2 (g_4.2.1)) 3 (g_4.2.2.1)) 4 (g_4.2.2.2))) x1 0 0))
            (mX6_findTriple (rset u 1 g_3) x1 x2))
          (mX6_lay (rset u 1 g_2) x1 2 ((g_2 1) + 1)))
        (mX6_lay u x1 0 1)
    else
      if (mX6_wrote u x1 (nI i2)) = 0 then
        mX6_reasonFor_L2 u x1 x2 n2 (i2 + 1)
      else
        if (mX6_writerBehind u (nI i2) (mX6_its u x1 1)) = (-6) then
          mX6_reasonFor_L2 u x1 x2 n2 (i2 + 1)
        else
          (1, (u 0 2), (u 0 3), (u 0 4), (u 1)) : Int32 × Int32 × Int32 × Int32 × (Nat → Int32)) := rfl
def mX6_reasonFor (u : kG) (x1 : Int32) (x2 : Int32) : Int32 × Int32 × Int32 × Int32 × (Nat → Int32) :=
  mX6_reasonFor_L2 u x1 x2 17 0
theorem mX6_reasonFor_s {u : kG} {x1 : Int32} {x2 : Int32} : mX6_reasonFor u x1 x2 = (
  mX6_reasonFor_L2 u x1 x2 17 0 : Int32 × Int32 × Int32 × Int32 × (Nat → Int32)) := rfl
set_option maxHeartbeats 400000 in
set_option maxRecDepth 100000 in
theorem c_X6_reasonFor (l : Launch) (E : kE) (b : Nat → Nat) (u : kG) (hj : kInj b 9) (x1 : Int32) (x2 : Int32) (hm : nOK (u 1 2)) (ht : tOK x1) (R : Int32 × Int32 × Int32 × Int32 × (Nat → Int32)) (hE : R = mX6_reasonFor u x1 x2) : Met l yX6_reasonFor wsX6_reasonFor ({ frames := 7, cells := 0, slots := 0, locals := 160 }) (kPre E [.ref (b 0), .int x1, .int x2] (wModx E b (u 0 0) (u 0 1) (u 0 2) (u 0 3) (u 0 4) (u 0 5) (u 0 6) (u 0 7) (u 1) (u 2) (u 3) (u 4) (u 5) (u 6) (u 7) (u 8))) (kWi E R.1 (wModx E b (u 0 0) (u 0 1) R.2.1 R.2.2.1 R.2.2.2.1 (u 0 5) (u 0 6) (u 0 7) R.2.2.2.2 (u 2) (u 3) (u 4) (u 5) (u 6) (u 7) (u 8)) (kA b 9)) 0 0 (kA b 9) := by
  refine Met.ofW (cc := cX6_reasonFor) (maxL := 4) (ret := (some .int)) (by decide) rfl ?_
  intro p e s m args below meth c s₁ B hml hv
  obtain ⟨rfl, hK, hP⟩ := hv
  have hx := B.exec
  have hb := B.bytes
  have hr := B.returns
  have hts := atoms_spec (ws := wsX6_reasonFor) B.pre
  have hown : s.vm.findClass RX6 = some m.cls := findClass_of_methodNamed B.named
  have hlocks := B.notSynchronized
  have hiX6 : ∀ w ∈ wsX60, w ∈ wsX6_reasonFor := by decide +kernel
  have hf7 := hts (.fieldLink RX6 7 "SkewEdgesModel" "z" "[I") (by decide +kernel)
  have hS : va_S (kA b 9) s.heap s.heap [] := va_S.rf
  have hP : va_P E.1 vwCl (wModx E b (u 0 0) (u 0 1) (u 0 2) (u 0 3) (u 0 4) (u 0 5) (u 0 6) (u 0 7) (u 1) (u 2) (u 3) (u 4) (u 5) (u 6) (u 7) (u 8)) s.heap := hP
  have hD := dMod (E := E) hj (u 0 0) (u 0 1) (u 0 2) (u 0 3) (u 0 4) (u 0 5) (u 0 6) (u 0 7) (u 1) (u 2) (u 3) (u 4) (u 5) (u 6) (u 7) (u 8)
  have hl := lv_entry ([.ref (b 0), .int x1, .int x2]) (n := 4) (Nat.le_of_ble_eq_true rfl)
  rw [lg_entry_eq]
  generalize (lg_sl ([.ref (b 0), .int x1, .int x2]) ++ List.replicate (4 - (lg_sl ([.ref (b 0), .int x1, .int x2])).length) Slot.unset).toArray = ls at hl ⊢
  have hl : lv_has ls 4 [(0, .ref (b 0)), (1, .int x1), (2, .int x2)] := hl
  replace hE := hE.trans mX6_reasonFor_s
  refine lv_iconst (v := 0) hx hb dX6_reasonFor_0 (by decide) ?_
  refine lv_istore_n (lv' := [(3, .int 0), (0, .ref (b 0)), (1, .int x1), (2, .int x2)]) hx hb dX6_reasonFor_1 rfl hl (by decide) rfl (fun ls hl => ?_)
  have lp2 : ∀ (n2 : Nat) (i2 : Nat) (H : Heap) (locs : List Loc), (16 < i2 + n2) → (i2 ≤ 16) → va_P E.1 vwCl (wModx E b (u 0 0) (u 0 1) (u 0 2) (u 0 3) (u 0 4) (u 0 5) (u 0 6) (u 0 7) (u 1) (u 2) (u 3) (u 4) (u 5) (u 6) (u 7) (u 8)) H → va_S (kA b 9) s.heap H locs → ∀ ls : Array Slot, lv_has ls 4 [(3, .int (nI i2)), (0, .ref (b 0)), (1, .int x1), (2, .int x2)] → R = mX6_reasonFor_L2 u x1 x2 n2 i2 → W p l e ({ frames := 7, cells := 0, slots := 0, locals := 160 }) s m ([.ref (b 0), .int x1, .int x2] : List Value).toArray below meth c H locs 0 0 (MQ below (kWi E R.1 (wModx E b (u 0 0) (u 0 1) R.2.1 R.2.2.1 R.2.2.2.1 (u 0 5) (u 0 6) (u 0 7) R.2.2.2.2 (u 2) (u 3) (u 4) (u 5) (u 6) (u 7) (u 8)) (kA b 9)) ([.ref (b 0), .int x1, .int x2] : List Value).toArray s 0 0 (kA b 9)) (F0 m 2 ls []) := by
    clear hE
    intro n2
    induction n2 with
    | zero =>
      intro i2 H locs hm2 hi2 hP hS ls hl hE
      exact absurd hm2 (by omega)
    | succ n2 ih2 =>
      intro i2 H locs hm2 hi2 hP hS ls hl hE
      have hD := dMod (E := E) hj (u 0 0) (u 0 1) (u 0 2) (u 0 3) (u 0 4) (u 0 5) (u 0 6) (u 0 7) (u 1) (u 2) (u 3) (u 4) (u 5) (u 6) (u 7) (u 8)
      replace hE := hE.trans mX6_reasonFor_L2_s
      refine lv_iload_n hx hb dX6_reasonFor_2 rfl (lv_at hl 0 rfl) ?_
      refine lv_bipush (v := 16) hx hb dX6_reasonFor_3 (by decide) ?_
      refine lv_icmp_ge (tgt := 41) hx hb dX6_reasonFor_5 (by decide) (fun c_1 => ?_) (fun c_1 => ?_)
      · replace hE := hE.trans (if_pos c_1)
        refine lv_aload_n hx hb dX6_reasonFor_41 rfl (lv_at hl 1 rfl) ?_
        refine lv_iload_n hx hb dX6_reasonFor_42 rfl (lv_at hl 2 rfl) ?_
        refine lv_iconst (v := 0) hx hb dX6_reasonFor_43 (by decide) ?_
        refine lv_iconst (v := 1) hx hb dX6_reasonFor_44 (by decide) ?_
        refine kCallWv (va_runV (As := [.int x1, .int 0, .int 1]) (rest := []) ⟨hx, hb, hml, hown, hts⟩ (c_X6_lay l E b u hj x1 0 1 (by assumption) ⟨0, by decide, rfl⟩ _ rfl) (cwV 3 hts gX6_reasonFor_X6_lay rfl rfl rfl (by decide +kernel) ⟨Nat.le_of_ble_eq_true rfl, Nat.le_of_ble_eq_true rfl⟩) (kPreV hK hP hP (q0 := 0) rfl rfl) rfl rfl hl.1 rfl (lv_room (Nat.le_of_ble_eq_true rfl)) dX6_reasonFor_45 ⟨Nat.zero_le _, Nat.zero_le _⟩) hS (fun _ h => h) (fun H locs hP _ _ hS => ?_)
        have hz0 : nOK ((mX6_lay u x1 0 1) 2) := lay_n (u := u) hm ht ⟨0, by decide, rfl⟩
        refine kGen (mX6_lay u x1 0 1) (fun g_2 hg_2 => ?_)
        rw [hg_2] at hE hP hz0
        try dsimp only at hE
        have hP : va_P E.1 vwCl (wModx E b (u 0 0) (u 0 1) (u 0 2) (u 0 3) (u 0 4) (u 0 5) (u 0 6) (u 0 7) g_2 (u 2) (u 3) (u 4) (u 5) (u 6) (u 7) (u 8)) H := hP
        have hD := dMod (E := E) hj (u 0 0) (u 0 1) (u 0 2) (u 0 3) (u 0 4) (u 0 5) (u 0 6) (u 0 7) g_2 (u 2) (u 3) (u 4) (u 5) (u 6) (u 7) (u 8)
        refine lv_aload_n hx hb dX6_reasonFor_48 rfl (lv_at hl 1 rfl) ?_
        refine lv_iload_n hx hb dX6_reasonFor_49 rfl (lv_at hl 2 rfl) ?_
        refine lv_iconst (v := 2) hx hb dX6_reasonFor_50 (by decide) ?_
        refine lv_aload_n hx hb dX6_reasonFor_51 rfl (lv_at hl 1 rfl) ?_
        refine va_get (D := E.1) (ci := 5) (v := .ref (b 1)) (C := RX6) (T := TX6) (N := 16) hx hb hts hiX6 hown hK.1 hP 0 rfl rfl 0 (by decide) hf7 (fun _ h9 => h9) rfl dX6_reasonFor_52 ?_
        refine lv_iconst (v := 1) hx hb dX6_reasonFor_55 (by decide) ?_
        refine va_iald (D := E.1) hx hb hK.1 hP 1 0 rfl rfl (vp_in_nI (n := 1) (by decide) (by decide)) dX6_reasonFor_56 ?_
        refine W.eq (g2 := F0 m 57 ls [.int (g_2 1), .int 2, .int x1, .ref (b 0)]) rfl ?_
        refine lv_iconst (v := 1) hx hb dX6_reasonFor_57 (by decide) ?_
        refine lv_iadd hx hb dX6_reasonFor_58 ?_
        refine kCallWv (va_runV (As := [.int x1, .int 2, .int ((g_2 1) + 1)]) (rest := []) ⟨hx, hb, hml, hown, hts⟩ (c_X6_lay l E b (rset u 1 g_2) hj x1 2 ((g_2 1) + 1) (by assumption) ⟨2, by decide, rfl⟩ _ rfl) (cwV 3 hts gX6_reasonFor_X6_lay rfl rfl rfl (by decide +kernel) ⟨Nat.le_of_ble_eq_true rfl, Nat.le_of_ble_eq_true rfl⟩) (kPreV hK hP hP (q0 := 0) rfl rfl) rfl rfl hl.1 rfl (lv_room (Nat.le_of_ble_eq_true rfl)) dX6_reasonFor_59 ⟨Nat.zero_le _, Nat.zero_le _⟩) hS (fun _ h => h) (fun H locs hP _ _ hS => ?_)
        have hz2 : nOK ((mX6_lay (rset u 1 g_2) x1 2 ((g_2 1) + 1)) 2) := lay_n (u := (rset u 1 g_2)) hz0 ht ⟨2, by decide, rfl⟩
        refine kGen (mX6_lay (rset u 1 g_2) x1 2 ((g_2 1) + 1)) (fun g_3 hg_3 => ?_)
        rw [hg_3] at hE hP hz2
        try dsimp only at hE
        have hP : va_P E.1 vwCl (wModx E b (u 0 0) (u 0 1) (u 0 2) (u 0 3) (u 0 4) (u 0 5) (u 0 6) (u 0 7) g_3 (u 2) (u 3) (u 4) (u 5) (u 6) (u 7) (u 8)) H := hP
        have hD := dMod (E := E) hj (u 0 0) (u 0 1) (u 0 2) (u 0 3) (u 0 4) (u 0 5) (u 0 6) (u 0 7) g_3 (u 2) (u 3) (u 4) (u 5) (u 6) (u 7) (u 8)
        refine lv_aload_n hx hb dX6_reasonFor_62 rfl (lv_at hl 1 rfl) ?_
        refine lv_iload_n hx hb dX6_reasonFor_63 rfl (lv_at hl 2 rfl) ?_
        refine lv_iload_n hx hb dX6_reasonFor_64 rfl (lv_at hl 3 rfl) ?_
        refine kCallWi (va_runV (As := [.int x1, .int x2]) (rest := []) ⟨hx, hb, hml, hown, hts⟩ (c_X6_findTriple l E b (rset u 1 g_3) hj x1 x2 hz2 _ rfl) (cwV 2 hts gX6_reasonFor_X6_findTriple rfl rfl rfl (by decide +kernel) ⟨Nat.le_of_ble_eq_true rfl, Nat.le_of_ble_eq_true rfl⟩) (kPreV hK hP hP (q0 := 0) rfl rfl) rfl rfl hl.1 rfl (lv_room (Nat.le_of_ble_eq_true rfl)) dX6_reasonFor_65 ⟨Nat.zero_le _, Nat.zero_le _⟩) hS (fun _ h => h) (fun H locs hP _ _ hS => ?_)
        refine kGen (mX6_findTriple (rset u 1 g_3) x1 x2) (fun g_4 hg_4 => ?_)
        rw [hg_4] at hE hP ⊢
        try dsimp only at hE
        have hP : va_P E.1 vwCl (wModx E b (u 0 0) (u 0 1) (g_4.2.1) (g_4.2.2.1) (g_4.2.2.2) (u 0 5) (u 0 6) (u 0 7) g_3 (u 2) (u 3) (u 4) (u 5) (u 6) (u 7) (u 8)) H := hP
        have hD := dMod (E := E) hj (u 0 0) (u 0 1) (g_4.2.1) (g_4.2.2.1) (g_4.2.2.2) (u 0 5) (u 0 6) (u 0 7) g_3 (u 2) (u 3) (u 4) (u 5) (u 6) (u 7) (u 8)
        refine lv_istore_n (lv' := [(3, .int (g_4.1)), (0, .ref (b 0)), (1, .int x1), (2, .int x2)]) hx hb dX6_reasonFor_68 rfl hl (by decide) rfl (fun ls hl => ?_)
        refine lv_aload_n hx hb dX6_reasonFor_69 rfl (lv_at hl 1 rfl) ?_
        refine lv_iload_n hx hb dX6_reasonFor_70 rfl (lv_at hl 2 rfl) ?_
        refine lv_iconst (v := 0) hx hb dX6_reasonFor_71 (by decide) ?_
        refine lv_iconst (v := 0) hx hb dX6_reasonFor_72 (by decide) ?_
        refine kCallWv (va_runV (As := [.int x1, .int 0, .int 0]) (rest := []) ⟨hx, hb, hml, hown, hts⟩ (c_X6_lay l E b (rset (rset u 1 g_3) 0 (upd (upd (upd (u 0) 2 (g_4.2.1)) 3 (g_4.2.2.1)) 4 (g_4.2.2.2))) hj x1 0 0 (by assumption) ⟨0, by decide, rfl⟩ _ rfl) (cwV 3 hts gX6_reasonFor_X6_lay rfl rfl rfl (by decide +kernel) ⟨Nat.le_of_ble_eq_true rfl, Nat.le_of_ble_eq_true rfl⟩) (kPreV hK hP hP (q0 := 0) rfl rfl) rfl rfl hl.1 rfl (lv_room (Nat.le_of_ble_eq_true rfl)) dX6_reasonFor_73 ⟨Nat.zero_le _, Nat.zero_le _⟩) hS (fun _ h => h) (fun H locs hP _ _ hS => ?_)
        refine kGen (mX6_lay (rset (rset u 1 g_3) 0 (upd (upd (upd (u 0) 2 (g_4.2.1)) 3 (g_4.2.2.1)) 4 (g_4.2.2.2))) x1 0 0) (fun g_5 hg_5 => ?_)
        rw [hg_5] at hE hP
        try dsimp only at hE
        have hP : va_P E.1 vwCl (wModx E b (u 0 0) (u 0 1) (g_4.2.1) (g_4.2.2.1) (g_4.2.2.2) (u 0 5) (u 0 6) (u 0 7) g_5 (u 2) (u 3) (u 4) (u 5) (u 6) (u 7) (u 8)) H := hP
        have hD := dMod (E := E) hj (u 0 0) (u 0 1) (g_4.2.1) (g_4.2.2.1) (g_4.2.2.2) (u 0 5) (u 0 6) (u 0 7) g_5 (u 2) (u 3) (u 4) (u 5) (u 6) (u 7) (u 8)
        refine lv_aload_n hx hb dX6_reasonFor_76 rfl (lv_at hl 1 rfl) ?_
        refine lv_iload_n hx hb dX6_reasonFor_77 rfl (lv_at hl 2 rfl) ?_
        refine lv_iconst (v := 2) hx hb dX6_reasonFor_78 (by decide) ?_
        refine lv_bipush (v := (-6)) hx hb dX6_reasonFor_79 (by decide) ?_
        refine kCallWv (va_runV (As := [.int x1, .int 2, .int (-6)]) (rest := []) ⟨hx, hb, hml, hown, hts⟩ (c_X6_lay l E b (rset (rset u 1 g_5) 0 (upd (upd (upd (u 0) 2 (g_4.2.1)) 3 (g_4.2.2.1)) 4 (g_4.2.2.2))) hj x1 2 (-6) (by assumption) ⟨2, by decide, rfl⟩ _ rfl) (cwV 3 hts gX6_reasonFor_X6_lay rfl rfl rfl (by decide +kernel) ⟨Nat.le_of_ble_eq_true rfl, Nat.le_of_ble_eq_true rfl⟩) (kPreV hK hP hP (q0 := 0) rfl rfl) rfl rfl hl.1 rfl (lv_room (Nat.le_of_ble_eq_true rfl)) dX6_reasonFor_81 ⟨Nat.zero_le _, Nat.zero_le _⟩) hS (fun _ h => h) (fun H locs hP _ _ hS => ?_)
        refine kGen (mX6_lay (rset (rset u 1 g_5) 0 (upd (upd (upd (u 0) 2 (g_4.2.1)) 3 (g_4.2.2.1)) 4 (g_4.2.2.2))) x1 2 (-6)) (fun g_6 hg_6 => ?_)
        rw [hg_6] at hE hP
        try dsimp only at hE
        have hP : va_P E.1 vwCl (wModx E b (u 0 0) (u 0 1) (g_4.2.1) (g_4.2.2.1) (g_4.2.2.2) (u 0 5) (u 0 6) (u 0 7) g_6 (u 2) (u 3) (u 4) (u 5) (u 6) (u 7) (u 8)) H := hP
        have hD := dMod (E := E) hj (u 0 0) (u 0 1) (g_4.2.1) (g_4.2.2.1) (g_4.2.2.2) (u 0 5) (u 0 6) (u 0 7) g_6 (u 2) (u 3) (u 4) (u 5) (u 6) (u 7) (u 8)
        refine lv_iload_n hx hb dX6_reasonFor_84 rfl (lv_at hl 0 rfl) ?_
        refine lv_if_eq (tgt := 92) hx hb dX6_reasonFor_85 (by decide) (fun c_7 => ?_) (fun c_7 => ?_)
        · replace hE := hE.trans (if_pos c_7)
          refine lv_iconst (v := 0) hx hb dX6_reasonFor_92 (by decide) ?_
          subst R
          exact W.iret (v := 0) hx hb hr (fun t ht hW => ⟨rfl, by rw [ht]; exact hP, hS.F ht⟩) hS.2.2 dX6_reasonFor_93
        · replace hE := hE.trans (if_neg c_7)
          refine lv_iconst (v := 2) hx hb dX6_reasonFor_88 (by decide) ?_
          refine lv_goto (tgt := 93) hx hb dX6_reasonFor_89 (by decide) ?_
          subst R
          exact W.iret (v := 2) hx hb hr (fun t ht hW => ⟨rfl, by rw [ht]; exact hP, hS.F ht⟩) hS.2.2 dX6_reasonFor_93
      · replace hE := hE.trans (if_neg c_1)
        have hbc_1 : i2 < 16 := nI_nle_lt ⟨by omega, by omega⟩ c_1
        refine lv_aload_n hx hb dX6_reasonFor_8 rfl (lv_at hl 1 rfl) ?_
        refine lv_iload_n hx hb dX6_reasonFor_9 rfl (lv_at hl 2 rfl) ?_
        refine lv_iload_n hx hb dX6_reasonFor_10 rfl (lv_at hl 0 rfl) ?_
        refine kCallRi (va_runV (As := [.int x1, .int (nI i2)]) (rest := []) ⟨hx, hb, hml, hown, hts⟩ (c_X6_wrote l E b u x1 (nI i2) (by assumption) _ rfl) (cwV 2 hts gX6_reasonFor_X6_wrote rfl rfl rfl (by decide +kernel) ⟨Nat.le_of_ble_eq_true rfl, Nat.le_of_ble_eq_true rfl⟩) (kPreV hK hP hP (q0 := 0) rfl rfl) rfl rfl hl.1 rfl (lv_room (Nat.le_of_ble_eq_true rfl)) dX6_reasonFor_11 ⟨Nat.zero_le _, Nat.zero_le _⟩) ?_
        refine lv_if_eq (tgt := 35) hx hb dX6_reasonFor_14 (by decide) (fun c_8 => ?_) (fun c_8 => ?_)
        · replace hE := hE.trans (if_pos c_8)
          refine lv_iinc (v := (nI (i2 + 1))) (lv' := [(3, .int (nI (i2 + 1))), (0, .ref (b 0)), (1, .int x1), (2, .int x2)]) hx hb dX6_reasonFor_35 hl (k := 0) rfl (nI_1 i2) (by decide) rfl (fun ls hl => ?_)
          refine lv_goto (tgt := 2) hx hb dX6_reasonFor_38 (by decide) ?_
          exact ih2 (i2 + 1) _ _ (by omega) (by omega) hP hS ls (lv_sub hl [0, 1, 2, 3] rfl) hE
        · replace hE := hE.trans (if_neg c_8)
          refine lv_aload_n hx hb dX6_reasonFor_17 rfl (lv_at hl 1 rfl) ?_
          refine lv_iload_n hx hb dX6_reasonFor_18 rfl (lv_at hl 0 rfl) ?_
          refine lv_aload_n hx hb dX6_reasonFor_19 rfl (lv_at hl 1 rfl) ?_
          refine lv_iload_n hx hb dX6_reasonFor_20 rfl (lv_at hl 2 rfl) ?_
          refine lv_iconst (v := 1) hx hb dX6_reasonFor_21 (by decide) ?_
          refine kCallRi (va_runV (As := [.int x1, .int 1]) (rest := [.int (nI i2), .ref (b 0)]) ⟨hx, hb, hml, hown, hts⟩ (c_X6_its l E b u x1 1 (by assumption) ⟨1, by decide, rfl⟩ _ rfl) (cwV 2 hts gX6_reasonFor_X6_its rfl rfl rfl (by decide +kernel) ⟨Nat.le_of_ble_eq_true rfl, Nat.le_of_ble_eq_true rfl⟩) (kPreV hK hP hP (q0 := 0) rfl rfl) rfl rfl hl.1 rfl (lv_room (Nat.le_of_ble_eq_true rfl)) dX6_reasonFor_22 ⟨Nat.zero_le _, Nat.zero_le _⟩) ?_
          refine kCallRi (va_runV (As := [.int (nI i2), .int (mX6_its u x1 1)]) (rest := []) ⟨hx, hb, hml, hown, hts⟩ (c_X6_writerBehind l E b u (nI i2) (mX6_its u x1 1) (by assumption) _ rfl) (cwV 2 hts gX6_reasonFor_X6_writerBehind rfl rfl rfl (by decide +kernel) ⟨Nat.le_of_ble_eq_true rfl, Nat.le_of_ble_eq_true rfl⟩) (kPreV hK hP hP (q0 := 0) rfl rfl) rfl rfl hl.1 rfl (lv_room (Nat.le_of_ble_eq_true rfl)) dX6_reasonFor_25 ⟨Nat.zero_le _, Nat.zero_le _⟩) ?_
          refine lv_bipush (v := (-6)) hx hb dX6_reasonFor_28 (by decide) ?_
          refine lv_icmp_eq (tgt := 35) hx hb dX6_reasonFor_30 (by decide) (fun c_9 => ?_) (fun c_9 => ?_)
          · replace hE := hE.trans (if_pos c_9)
            refine lv_iinc (v := (nI (i2 + 1))) (lv' := [(3, .int (nI (i2 + 1))), (0, .ref (b 0)), (1, .int x1), (2, .int x2)]) hx hb dX6_reasonFor_35 hl (k := 0) rfl (nI_1 i2) (by decide) rfl (fun ls hl => ?_)
            refine lv_goto (tgt := 2) hx hb dX6_reasonFor_38 (by decide) ?_
            exact ih2 (i2 + 1) _ _ (by omega) (by omega) hP hS ls (lv_sub hl [0, 1, 2, 3] rfl) hE
          · replace hE := hE.trans (if_neg c_9)
            refine lv_iconst (v := 1) hx hb dX6_reasonFor_33 (by decide) ?_
            subst R
            exact W.iret (v := 1) hx hb hr (fun t ht hW => ⟨rfl, by rw [ht]; exact hP, hS.F ht⟩) hS.2.2 dX6_reasonFor_34
  exact lp2 17 0 _ _ (by omega) (by omega) hP hS ls (lv_sub hl [0, 1, 2, 3] rfl) hE
theorem reasonFor_Ln {u : kG} {t r : Int32} (hm : nOK (u 1 2)) (ht : tOK t) : ∀ (n i : Nat), i ≤ 16 → 16 < i + n → nOK ((mX6_reasonFor_L2 u t r n i).2.2.2.2 2) := by
  intro n
  induction n with
  | zero => intro i h1 h2; omega
  | succ n ih =>
    intro i h1 h2
    rw [mX6_reasonFor_L2_s]
    by_cases c : (16 : Int32) ≤ nI i
    · rw [if_pos c]
      have z1 : nOK (mX6_lay u t 0 1 2) := lay_n hm ht ⟨0, by decide, rfl⟩
      refine kGen (mX6_lay u t 0 1) (fun g1 e1 => ?_)
      rw [e1] at z1 ⊢
      dsimp only
      have z2 : nOK (mX6_lay (rset u 1 g1) t 2 ((g1 1) + 1) 2) := lay_n (u := rset u 1 g1) z1 ht ⟨2, by decide, rfl⟩
      refine kGen (mX6_lay (rset u 1 g1) t 2 ((g1 1) + 1)) (fun g2 e2 => ?_)
      rw [e2] at z2 ⊢
      refine kGen (mX6_findTriple (rset u 1 g2) t r) (fun g3 e3 => ?_)
      rw [e3]
      have z4 : nOK (mX6_lay (rset (rset u 1 g2) 0 (upd (upd (upd (u 0) 2 (g3.2.1)) 3 (g3.2.2.1)) 4 (g3.2.2.2))) t 0 0 2) := lay_n (u := rset (rset u 1 g2) 0 (upd (upd (upd (u 0) 2 (g3.2.1)) 3 (g3.2.2.1)) 4 (g3.2.2.2))) z2 ht ⟨0, by decide, rfl⟩
      refine kGen (mX6_lay (rset (rset u 1 g2) 0 (upd (upd (upd (u 0) 2 (g3.2.1)) 3 (g3.2.2.1)) 4 (g3.2.2.2))) t 0 0) (fun g4 e4 => ?_)
      rw [e4] at z4 ⊢
      have z5 : nOK (mX6_lay (rset (rset u 1 g4) 0 (upd (upd (upd (u 0) 2 (g3.2.1)) 3 (g3.2.2.1)) 4 (g3.2.2.2))) t 2 (-6) 2) := lay_n (u := rset (rset u 1 g4) 0 (upd (upd (upd (u 0) 2 (g3.2.1)) 3 (g3.2.2.1)) 4 (g3.2.2.2))) z4 ht ⟨2, by decide, rfl⟩
      refine kGen (mX6_lay (rset (rset u 1 g4) 0 (upd (upd (upd (u 0) 2 (g3.2.1)) 3 (g3.2.2.1)) 4 (g3.2.2.2))) t 2 (-6)) (fun g5 e5 => ?_)
      rw [e5] at z5 ⊢
      by_cases q : g3.1 = 0
      · rw [if_pos q]; exact z5
      · rw [if_neg q]; exact z5
    · rw [if_neg c]
      have hi : i < 16 := nI_nle_lt ⟨by omega, by omega⟩ c
      have a1 := ih (i + 1) (by omega) (by omega)
      by_cases q : mX6_wrote u t (nI i) = 0
      · rw [if_pos q]; exact a1
      · rw [if_neg q]
        by_cases q2 : mX6_writerBehind u (nI i) (mX6_its u t 1) = (-6)
        · rw [if_pos q2]; exact a1
        · rw [if_neg q2]; exact hm
theorem reasonFor_n {u : kG} {t : Int32} (hm : nOK (u 1 2)) (ht : tOK t) (r : Int32) : nOK ((mX6_reasonFor u t r).2.2.2.2 2) := reasonFor_Ln hm ht _ _ (by omega) (by omega)

def mX6_rule (u : kG) (x1 : Int32) : Int32 × Int32 × (Nat → Int32) × (Nat → Int32) :=
  if (mX6_in x1 0 3) = 0 then
    ((-2), (u 0 0), (u 1), (u 2))
  else
    (fun (g_2 : Int32 × (Nat → Int32)) =>
      (((u 1) 0), (g_2.1), (upd (u 1) 0 x1), (g_2.2)))
      (mX6_record u)
theorem mX6_rule_s {u : kG} {x1 : Int32} : mX6_rule u x1 = (
  if (mX6_in x1 0 3) = 0 then
    ((-2), (u 0 0), (u 1), (u 2))
  else
    (fun (g_2 : Int32 × (Nat → Int32)) =>
      (((u 1) 0), (g_2.1), (upd (u 1) 0 x1), (g_2.2)))
      (mX6_record u) : Int32 × Int32 × (Nat → Int32) × (Nat → Int32)) := rfl
set_option maxHeartbeats 400000 in
set_option maxRecDepth 100000 in
theorem c_X6_rule (l : Launch) (E : kE) (b : Nat → Nat) (u : kG) (hj : kInj b 9) (x1 : Int32) (hpm : bOK 6 (u 0 0)) (R : Int32 × Int32 × (Nat → Int32) × (Nat → Int32)) (hE : R = mX6_rule u x1) : Met l yX6_rule wsX6_rule ({ frames := 1, cells := 0, slots := 0, locals := 22 }) (kPre E [.ref (b 0), .int x1] (wModx E b (u 0 0) (u 0 1) (u 0 2) (u 0 3) (u 0 4) (u 0 5) (u 0 6) (u 0 7) (u 1) (u 2) (u 3) (u 4) (u 5) (u 6) (u 7) (u 8))) (kWi E R.1 (wModx E b R.2.1 (u 0 1) (u 0 2) (u 0 3) (u 0 4) (u 0 5) (u 0 6) (u 0 7) R.2.2.1 R.2.2.2 (u 3) (u 4) (u 5) (u 6) (u 7) (u 8)) (kA b 9)) 0 0 (kA b 9) := by
  refine Met.ofW (cc := cX6_rule) (maxL := 3) (ret := (some .int)) (by decide) rfl ?_
  intro p e s m args below meth c s₁ B hml hv
  obtain ⟨rfl, hK, hP⟩ := hv
  have hx := B.exec
  have hb := B.bytes
  have hr := B.returns
  have hts := atoms_spec (ws := wsX6_rule) B.pre
  have hown : s.vm.findClass RX6 = some m.cls := findClass_of_methodNamed B.named
  have hlocks := B.notSynchronized
  have hiX6 : ∀ w ∈ wsX60, w ∈ wsX6_rule := by decide +kernel
  have hf7 := hts (.fieldLink RX6 7 "SkewEdgesModel" "z" "[I") (by decide +kernel)
  have hS : va_S (kA b 9) s.heap s.heap [] := va_S.rf
  have hP : va_P E.1 vwCl (wModx E b (u 0 0) (u 0 1) (u 0 2) (u 0 3) (u 0 4) (u 0 5) (u 0 6) (u 0 7) (u 1) (u 2) (u 3) (u 4) (u 5) (u 6) (u 7) (u 8)) s.heap := hP
  have hD := dMod (E := E) hj (u 0 0) (u 0 1) (u 0 2) (u 0 3) (u 0 4) (u 0 5) (u 0 6) (u 0 7) (u 1) (u 2) (u 3) (u 4) (u 5) (u 6) (u 7) (u 8)
  have hl := lv_entry ([.ref (b 0), .int x1]) (n := 3) (Nat.le_of_ble_eq_true rfl)
  rw [lg_entry_eq]
  generalize (lg_sl ([.ref (b 0), .int x1]) ++ List.replicate (3 - (lg_sl ([.ref (b 0), .int x1])).length) Slot.unset).toArray = ls at hl ⊢
  have hl : lv_has ls 3 [(0, .ref (b 0)), (1, .int x1)] := hl
  replace hE := hE.trans mX6_rule_s
  refine lv_iload_n hx hb dX6_rule_0 rfl (lv_at hl 1 rfl) ?_
  refine lv_iconst (v := 0) hx hb dX6_rule_1 (by decide) ?_
  refine lv_iconst (v := 3) hx hb dX6_rule_2 (by decide) ?_
  refine kCallRi (va_runS (As := [.int x1, .int 0, .int 3]) (rest := []) ⟨hx, hb, hml, hown, hts⟩ (c_X6_in l E x1 0 3 _ rfl) (va_cwS 3 hts gX6_rule_X6_in rfl rfl rfl (by decide +kernel) ⟨Nat.le_of_ble_eq_true rfl, Nat.le_of_ble_eq_true rfl⟩) (kPreS hK kP0) rfl rfl hl.1 rfl (lv_room (Nat.le_of_ble_eq_true rfl)) dX6_rule_3 ⟨Nat.zero_le _, Nat.zero_le _⟩) ?_
  refine lv_if_ne (tgt := 12) hx hb dX6_rule_6 (by decide) (fun c_1 => ?_) (fun c_1 => ?_)
  · replace hE := hE.trans (if_neg c_1)
    refine lv_aload_n hx hb dX6_rule_12 rfl (lv_at hl 0 rfl) ?_
    refine kCallWv (va_runV (As := []) (rest := []) ⟨hx, hb, hml, hown, hts⟩ (c_X6_record l E b u hj (by first | assumption | exact tOK.nI (by omega)) _ rfl) (cwV 0 hts gX6_rule_X6_record rfl rfl rfl (by decide +kernel) ⟨Nat.le_of_ble_eq_true rfl, Nat.le_of_ble_eq_true rfl⟩) (kPreV hK hP hP (q0 := 0) rfl rfl) rfl rfl hl.1 rfl (lv_room (Nat.le_of_ble_eq_true rfl)) dX6_rule_13 ⟨Nat.zero_le _, Nat.zero_le _⟩) hS (fun _ h => h) (fun H locs hP _ _ hS => ?_)
    refine kGen (mX6_record u) (fun g_2 hg_2 => ?_)
    rw [hg_2] at hE hP
    try dsimp only at hE
    have hP : va_P E.1 vwCl (wModx E b (g_2.1) (u 0 1) (u 0 2) (u 0 3) (u 0 4) (u 0 5) (u 0 6) (u 0 7) (u 1) (g_2.2) (u 3) (u 4) (u 5) (u 6) (u 7) (u 8)) H := hP
    have hD := dMod (E := E) hj (g_2.1) (u 0 1) (u 0 2) (u 0 3) (u 0 4) (u 0 5) (u 0 6) (u 0 7) (u 1) (g_2.2) (u 3) (u 4) (u 5) (u 6) (u 7) (u 8)
    refine lv_aload_n hx hb dX6_rule_16 rfl (lv_at hl 0 rfl) ?_
    refine va_get (D := E.1) (ci := 5) (v := .ref (b 1)) (C := RX6) (T := TX6) (N := 16) hx hb hts hiX6 hown hK.1 hP 0 rfl rfl 0 (by decide) hf7 (fun _ h9 => h9) rfl dX6_rule_17 ?_
    refine lv_iconst (v := 0) hx hb dX6_rule_20 (by decide) ?_
    refine va_iald (D := E.1) hx hb hK.1 hP 1 0 rfl rfl (vp_in_nI (n := 0) (by decide) (by decide)) dX6_rule_21 ?_
    refine W.eq (g2 := F0 m 22 ls [.int ((u 1) 0)]) rfl ?_
    refine lv_istore_n (lv' := [(2, .int ((u 1) 0)), (0, .ref (b 0)), (1, .int x1)]) hx hb dX6_rule_22 rfl hl (by decide) rfl (fun ls hl => ?_)
    refine lv_aload_n hx hb dX6_rule_23 rfl (lv_at hl 1 rfl) ?_
    refine va_get (D := E.1) (ci := 5) (v := .ref (b 1)) (C := RX6) (T := TX6) (N := 16) hx hb hts hiX6 hown hK.1 hP 0 rfl rfl 0 (by decide) hf7 (fun _ h9 => h9) rfl dX6_rule_24 ?_
    refine lv_iconst (v := 0) hx hb dX6_rule_27 (by decide) ?_
    refine lv_iload_n hx hb dX6_rule_28 rfl (lv_at hl 2 rfl) ?_
    refine va_iast (D := E.1) hx hb hK.1 hP hD hS 1 0 rfl rfl (vp_in_nI (n := 0) (by decide) (by decide)) dX6_rule_29 (fun H locs hP _ hS => ?_)
    have hP : va_P E.1 vwCl (wModx E b (g_2.1) (u 0 1) (u 0 2) (u 0 3) (u 0 4) (u 0 5) (u 0 6) (u 0 7) (upd (u 1) 0 x1) (g_2.2) (u 3) (u 4) (u 5) (u 6) (u 7) (u 8)) H := hP
    have hD := dMod (E := E) hj (g_2.1) (u 0 1) (u 0 2) (u 0 3) (u 0 4) (u 0 5) (u 0 6) (u 0 7) (upd (u 1) 0 x1) (g_2.2) (u 3) (u 4) (u 5) (u 6) (u 7) (u 8)
    refine lv_iload_n hx hb dX6_rule_30 rfl (lv_at hl 0 rfl) ?_
    subst R
    exact W.iret (v := ((u 1) 0)) hx hb hr (fun t ht hW => ⟨rfl, by rw [ht]; exact hP, hS.F ht⟩) hS.2.2 dX6_rule_31
  · replace hE := hE.trans (if_pos c_1)
    refine lv_bipush (v := (-2)) hx hb dX6_rule_9 (by decide) ?_
    subst R
    exact W.iret (v := (-2)) hx hb hr (fun t ht hW => ⟨rfl, by rw [ht]; exact hP, hS.F ht⟩) hS.2.2 dX6_rule_11
def mX6_beginOne_L35 (u : kG) : Nat → Nat → (Nat → Int32) → (Int32 × (Nat → Int32))
  | 0, _, _ => (0, (fun _ => 0))
  | n35 + 1, i35, f35_0_1 =>
    if 23 ≤ (nI i35) then
      (fun (g_2 : (Nat → Int32)) =>
        (fun (g_3 : (Nat → Int32)) =>
          (fun (g_4 : (Nat → Int32)) =>
            (fun (g_5 : (Nat → Int32)) =>
              (((u 1) 2), g_5))
              (mX6_lay (rset u 1 g_4) ((u 1) 2) 6 (mX6_setOf u 0)))
            (mX6_lay (rset u 1 g_3) ((u 1) 2) 5 (-6)))
          (mX6_lay (rset u 1 g_2) ((u 1) 2) 2 (-6)))
        (mX6_lay (rset u 1 f35_0_1) ((u 1) 2) 1 (f35_0_1 1))
    else
      (fun (g_6 : (Nat → Int32)) =>
        mX6_beginOne_L35 u n35 (i35 + 1) g_6)
        (mX6_lay (rset u 1 f35_0_1) ((u 1) 2) (nI i35) 0)
theorem mX6_beginOne_L35_s {u : kG} {n35 : Nat} {i35 : Nat} {f35_0_1 : (Nat → Int32)} : mX6_beginOne_L35 u (n35 + 1) i35 f35_0_1 = (
    if 23 ≤ (nI i35) then
      (fun (g_2 : (Nat → Int32)) =>
        (fun (g_3 : (Nat → Int32)) =>
          (fun (g_4 : (Nat → Int32)) =>
            (fun (g_5 : (Nat → Int32)) =>
              (((u 1) 2), g_5))
              (mX6_lay (rset u 1 g_4) ((u 1) 2) 6 (mX6_setOf u 0)))
            (mX6_lay (rset u 1 g_3) ((u 1) 2) 5 (-6)))
          (mX6_lay (rset u 1 g_2) ((u 1) 2) 2 (-6)))
        (mX6_lay (rset u 1 f35_0_1) ((u 1) 2) 1 (f35_0_1 1))
    else
      (fun (g_6 : (Nat → Int32)) =>
        mX6_beginOne_L35 u n35 (i35 + 1) g_6)
        (mX6_lay (rset u 1 f35_0_1) ((u 1) 2) (nI i35) 0) : Int32 × (Nat → Int32)) := rfl
def mX6_beginOne (u : kG) : Int32 × (Nat → Int32) :=
  mX6_beginOne_L35 u 24 0 (upd (upd (u 1) 1 (((u 1) 1) + 1)) 2 (((upd (u 1) 1 (((u 1) 1) + 1)) 2) + 1))
theorem mX6_beginOne_s {u : kG} : mX6_beginOne u = (
  mX6_beginOne_L35 u 24 0 (upd (upd (u 1) 1 (((u 1) 1) + 1)) 2 (((upd (u 1) 1 (((u 1) 1) + 1)) 2) + 1)) : Int32 × (Nat → Int32)) := rfl
set_option maxHeartbeats 400000 in
set_option maxRecDepth 100000 in
theorem c_X6_beginOne (l : Launch) (E : kE) (b : Nat → Nat) (u : kG) (hj : kInj b 9) (ht : tOK (u 1 2)) (R : Int32 × (Nat → Int32)) (hE : R = mX6_beginOne u) : Met l yX6_beginOne wsX6_beginOne ({ frames := 3, cells := 0, slots := 0, locals := 67 }) (kPre E [.ref (b 0)] (wModx E b (u 0 0) (u 0 1) (u 0 2) (u 0 3) (u 0 4) (u 0 5) (u 0 6) (u 0 7) (u 1) (u 2) (u 3) (u 4) (u 5) (u 6) (u 7) (u 8))) (kWi E R.1 (wModx E b (u 0 0) (u 0 1) (u 0 2) (u 0 3) (u 0 4) (u 0 5) (u 0 6) (u 0 7) R.2 (u 2) (u 3) (u 4) (u 5) (u 6) (u 7) (u 8)) (kA b 9)) 0 0 (kA b 9) := by
  refine Met.ofW (cc := cX6_beginOne) (maxL := 4) (ret := (some .int)) (by decide) rfl ?_
  intro p e s m args below meth c s₁ B hml hv
  obtain ⟨rfl, hK, hP⟩ := hv
  have hx := B.exec
  have hb := B.bytes
  have hr := B.returns
  have hts := atoms_spec (ws := wsX6_beginOne) B.pre
  have hown : s.vm.findClass RX6 = some m.cls := findClass_of_methodNamed B.named
  have hlocks := B.notSynchronized
  have hiX6 : ∀ w ∈ wsX60, w ∈ wsX6_beginOne := by decide +kernel
  have hf7 := hts (.fieldLink RX6 7 "SkewEdgesModel" "z" "[I") (by decide +kernel)
  have hS : va_S (kA b 9) s.heap s.heap [] := va_S.rf
  have hP : va_P E.1 vwCl (wModx E b (u 0 0) (u 0 1) (u 0 2) (u 0 3) (u 0 4) (u 0 5) (u 0 6) (u 0 7) (u 1) (u 2) (u 3) (u 4) (u 5) (u 6) (u 7) (u 8)) s.heap := hP
  have hD := dMod (E := E) hj (u 0 0) (u 0 1) (u 0 2) (u 0 3) (u 0 4) (u 0 5) (u 0 6) (u 0 7) (u 1) (u 2) (u 3) (u 4) (u 5) (u 6) (u 7) (u 8)
  have hl := lv_entry ([.ref (b 0)]) (n := 4) (Nat.le_of_ble_eq_true rfl)
  rw [lg_entry_eq]
  generalize (lg_sl ([.ref (b 0)]) ++ List.replicate (4 - (lg_sl ([.ref (b 0)])).length) Slot.unset).toArray = ls at hl ⊢
  have hl : lv_has ls 4 [(0, .ref (b 0))] := hl
  replace hE := hE.trans mX6_beginOne_s
  have hm := tOK.n ht
  refine lv_aload_n hx hb dX6_beginOne_0 rfl (lv_at hl 0 rfl) ?_
  refine va_get (D := E.1) (ci := 5) (v := .ref (b 1)) (C := RX6) (T := TX6) (N := 16) hx hb hts hiX6 hown hK.1 hP 0 rfl rfl 0 (by decide) hf7 (fun _ h9 => h9) rfl dX6_beginOne_1 ?_
  refine lv_iconst (v := 2) hx hb dX6_beginOne_4 (by decide) ?_
  refine va_iald (D := E.1) hx hb hK.1 hP 1 0 rfl rfl (vp_in_nI (n := 2) (by decide) (by decide)) dX6_beginOne_5 ?_
  refine W.eq (g2 := F0 m 6 ls [.int ((u 1) 2)]) rfl ?_
  refine lv_istore_n (lv' := [(1, .int ((u 1) 2)), (0, .ref (b 0))]) hx hb dX6_beginOne_6 rfl hl (by decide) rfl (fun ls hl => ?_)
  refine lv_aload_n hx hb dX6_beginOne_7 rfl (lv_at hl 1 rfl) ?_
  refine lv_iconst (v := 0) hx hb dX6_beginOne_8 (by decide) ?_
  refine kCallRi (va_runV (As := [.int 0]) (rest := []) ⟨hx, hb, hml, hown, hts⟩ (c_X6_setOf l E b u 0 (by assumption) _ rfl) (cwV 1 hts gX6_beginOne_X6_setOf rfl rfl rfl (by decide +kernel) ⟨Nat.le_of_ble_eq_true rfl, Nat.le_of_ble_eq_true rfl⟩) (kPreV hK hP hP (q0 := 0) rfl rfl) rfl rfl hl.1 rfl (lv_room (Nat.le_of_ble_eq_true rfl)) dX6_beginOne_9 ⟨Nat.zero_le _, Nat.zero_le _⟩) ?_
  refine lv_istore_n (lv' := [(2, .int (mX6_setOf u 0)), (1, .int ((u 1) 2)), (0, .ref (b 0))]) hx hb dX6_beginOne_12 rfl hl (by decide) rfl (fun ls hl => ?_)
  refine lv_aload_n hx hb dX6_beginOne_13 rfl (lv_at hl 2 rfl) ?_
  refine va_get (D := E.1) (ci := 5) (v := .ref (b 1)) (C := RX6) (T := TX6) (N := 16) hx hb hts hiX6 hown hK.1 hP 0 rfl rfl 0 (by decide) hf7 (fun _ h9 => h9) rfl dX6_beginOne_14 ?_
  refine lv_iconst (v := 1) hx hb dX6_beginOne_17 (by decide) ?_
  refine lv_dup2_11 hx hb dX6_beginOne_18 rfl rfl ?_
  refine va_iald (D := E.1) hx hb hK.1 hP 1 0 rfl rfl (vp_in_nI (n := 1) (by decide) (by decide)) dX6_beginOne_19 ?_
  refine W.eq (g2 := F0 m 20 ls [.int ((u 1) 1), .int 1, .ref (b 1)]) rfl ?_
  refine lv_iconst (v := 1) hx hb dX6_beginOne_20 (by decide) ?_
  refine lv_iadd hx hb dX6_beginOne_21 ?_
  refine va_iast (D := E.1) hx hb hK.1 hP hD hS 1 0 rfl rfl (vp_in_nI (n := 1) (by decide) (by decide)) dX6_beginOne_22 (fun H locs hP _ hS => ?_)
  have hP : va_P E.1 vwCl (wModx E b (u 0 0) (u 0 1) (u 0 2) (u 0 3) (u 0 4) (u 0 5) (u 0 6) (u 0 7) (upd (u 1) 1 (((u 1) 1) + 1)) (u 2) (u 3) (u 4) (u 5) (u 6) (u 7) (u 8)) H := hP
  have hD := dMod (E := E) hj (u 0 0) (u 0 1) (u 0 2) (u 0 3) (u 0 4) (u 0 5) (u 0 6) (u 0 7) (upd (u 1) 1 (((u 1) 1) + 1)) (u 2) (u 3) (u 4) (u 5) (u 6) (u 7) (u 8)
  refine lv_aload_n hx hb dX6_beginOne_23 rfl (lv_at hl 2 rfl) ?_
  refine va_get (D := E.1) (ci := 5) (v := .ref (b 1)) (C := RX6) (T := TX6) (N := 16) hx hb hts hiX6 hown hK.1 hP 0 rfl rfl 0 (by decide) hf7 (fun _ h9 => h9) rfl dX6_beginOne_24 ?_
  refine lv_iconst (v := 2) hx hb dX6_beginOne_27 (by decide) ?_
  refine lv_dup2_11 hx hb dX6_beginOne_28 rfl rfl ?_
  refine va_iald (D := E.1) hx hb hK.1 hP 1 0 rfl rfl (vp_in_nI (n := 2) (by decide) (by decide)) dX6_beginOne_29 ?_
  refine W.eq (g2 := F0 m 30 ls [.int ((upd (u 1) 1 (((u 1) 1) + 1)) 2), .int 2, .ref (b 1)]) rfl ?_
  refine lv_iconst (v := 1) hx hb dX6_beginOne_30 (by decide) ?_
  refine lv_iadd hx hb dX6_beginOne_31 ?_
  refine va_iast (D := E.1) hx hb hK.1 hP hD hS 1 0 rfl rfl (vp_in_nI (n := 2) (by decide) (by decide)) dX6_beginOne_32 (fun H locs hP _ hS => ?_)
  have hP : va_P E.1 vwCl (wModx E b (u 0 0) (u 0 1) (u 0 2) (u 0 3) (u 0 4) (u 0 5) (u 0 6) (u 0 7) (upd (upd (u 1) 1 (((u 1) 1) + 1)) 2 (((upd (u 1) 1 (((u 1) 1) + 1)) 2) + 1)) (u 2) (u 3) (u 4) (u 5) (u 6) (u 7) (u 8)) H := hP
  have hD := dMod (E := E) hj (u 0 0) (u 0 1) (u 0 2) (u 0 3) (u 0 4) (u 0 5) (u 0 6) (u 0 7) (upd (upd (u 1) 1 (((u 1) 1) + 1)) 2 (((upd (u 1) 1 (((u 1) 1) + 1)) 2) + 1)) (u 2) (u 3) (u 4) (u 5) (u 6) (u 7) (u 8)
  refine lv_iconst (v := 0) hx hb dX6_beginOne_33 (by decide) ?_
  refine lv_istore_n (lv' := [(3, .int 0), (2, .int (mX6_setOf u 0)), (1, .int ((u 1) 2)), (0, .ref (b 0))]) hx hb dX6_beginOne_34 rfl hl (by decide) rfl (fun ls hl => ?_)
  have lp35 : ∀ (n35 : Nat) (i35 : Nat) (f35_0_1 : (Nat → Int32)) (H : Heap) (locs : List Loc), (23 < i35 + n35) → (i35 ≤ 23) → va_P E.1 vwCl (wModx E b (u 0 0) (u 0 1) (u 0 2) (u 0 3) (u 0 4) (u 0 5) (u 0 6) (u 0 7) f35_0_1 (u 2) (u 3) (u 4) (u 5) (u 6) (u 7) (u 8)) H → va_S (kA b 9) s.heap H locs → ∀ ls : Array Slot, lv_has ls 4 [(3, .int (nI i35)), (2, .int (mX6_setOf u 0)), (1, .int ((u 1) 2)), (0, .ref (b 0))] → R = mX6_beginOne_L35 u n35 i35 f35_0_1 → W p l e ({ frames := 3, cells := 0, slots := 0, locals := 67 }) s m ([.ref (b 0)] : List Value).toArray below meth c H locs 0 0 (MQ below (kWi E R.1 (wModx E b (u 0 0) (u 0 1) (u 0 2) (u 0 3) (u 0 4) (u 0 5) (u 0 6) (u 0 7) R.2 (u 2) (u 3) (u 4) (u 5) (u 6) (u 7) (u 8)) (kA b 9)) ([.ref (b 0)] : List Value).toArray s 0 0 (kA b 9)) (F0 m 35 ls []) := by
    clear hE
    intro n35
    induction n35 with
    | zero =>
      intro i35 f35_0_1 H locs hm35 hi35 hP hS ls hl hE
      exact absurd hm35 (by omega)
    | succ n35 ih35 =>
      intro i35 f35_0_1 H locs hm35 hi35 hP hS ls hl hE
      have hD := dMod (E := E) hj (u 0 0) (u 0 1) (u 0 2) (u 0 3) (u 0 4) (u 0 5) (u 0 6) (u 0 7) f35_0_1 (u 2) (u 3) (u 4) (u 5) (u 6) (u 7) (u 8)
      replace hE := hE.trans mX6_beginOne_L35_s
      refine lv_iload_n hx hb dX6_beginOne_35 rfl (lv_at hl 0 rfl) ?_
      refine lv_bipush (v := 23) hx hb dX6_beginOne_36 (by decide) ?_
      refine lv_icmp_ge (tgt := 54) hx hb dX6_beginOne_38 (by decide) (fun c_1 => ?_) (fun c_1 => ?_)
      · replace hE := hE.trans (if_pos c_1)
        refine lv_aload_n hx hb dX6_beginOne_54 rfl (lv_at hl 3 rfl) ?_
        refine lv_iload_n hx hb dX6_beginOne_55 rfl (lv_at hl 2 rfl) ?_
        refine lv_iconst (v := 1) hx hb dX6_beginOne_56 (by decide) ?_
        refine lv_aload_n hx hb dX6_beginOne_57 rfl (lv_at hl 3 rfl) ?_
        refine va_get (D := E.1) (ci := 5) (v := .ref (b 1)) (C := RX6) (T := TX6) (N := 16) hx hb hts hiX6 hown hK.1 hP 0 rfl rfl 0 (by decide) hf7 (fun _ h9 => h9) rfl dX6_beginOne_58 ?_
        refine lv_iconst (v := 1) hx hb dX6_beginOne_61 (by decide) ?_
        refine va_iald (D := E.1) hx hb hK.1 hP 1 0 rfl rfl (vp_in_nI (n := 1) (by decide) (by decide)) dX6_beginOne_62 ?_
        refine W.eq (g2 := F0 m 63 ls [.int (f35_0_1 1), .int 1, .int ((u 1) 2), .ref (b 0)]) rfl ?_
        refine kCallWv (va_runV (As := [.int ((u 1) 2), .int 1, .int (f35_0_1 1)]) (rest := []) ⟨hx, hb, hml, hown, hts⟩ (c_X6_lay l E b (rset u 1 f35_0_1) hj ((u 1) 2) 1 (f35_0_1 1) (by assumption) ⟨1, by decide, rfl⟩ _ rfl) (cwV 3 hts gX6_beginOne_X6_lay rfl rfl rfl (by decide +kernel) ⟨Nat.le_of_ble_eq_true rfl, Nat.le_of_ble_eq_true rfl⟩) (kPreV hK hP hP (q0 := 0) rfl rfl) rfl rfl hl.1 rfl (lv_room (Nat.le_of_ble_eq_true rfl)) dX6_beginOne_63 ⟨Nat.zero_le _, Nat.zero_le _⟩) hS (fun _ h => h) (fun H locs hP _ _ hS => ?_)
        refine kGen (mX6_lay (rset u 1 f35_0_1) ((u 1) 2) 1 (f35_0_1 1)) (fun g_2 hg_2 => ?_)
        rw [hg_2] at hE hP
        try dsimp only at hE
        have hP : va_P E.1 vwCl (wModx E b (u 0 0) (u 0 1) (u 0 2) (u 0 3) (u 0 4) (u 0 5) (u 0 6) (u 0 7) g_2 (u 2) (u 3) (u 4) (u 5) (u 6) (u 7) (u 8)) H := hP
        have hD := dMod (E := E) hj (u 0 0) (u 0 1) (u 0 2) (u 0 3) (u 0 4) (u 0 5) (u 0 6) (u 0 7) g_2 (u 2) (u 3) (u 4) (u 5) (u 6) (u 7) (u 8)
        refine lv_aload_n hx hb dX6_beginOne_66 rfl (lv_at hl 3 rfl) ?_
        refine lv_iload_n hx hb dX6_beginOne_67 rfl (lv_at hl 2 rfl) ?_
        refine lv_iconst (v := 2) hx hb dX6_beginOne_68 (by decide) ?_
        refine lv_bipush (v := (-6)) hx hb dX6_beginOne_69 (by decide) ?_
        refine kCallWv (va_runV (As := [.int ((u 1) 2), .int 2, .int (-6)]) (rest := []) ⟨hx, hb, hml, hown, hts⟩ (c_X6_lay l E b (rset u 1 g_2) hj ((u 1) 2) 2 (-6) (by assumption) ⟨2, by decide, rfl⟩ _ rfl) (cwV 3 hts gX6_beginOne_X6_lay rfl rfl rfl (by decide +kernel) ⟨Nat.le_of_ble_eq_true rfl, Nat.le_of_ble_eq_true rfl⟩) (kPreV hK hP hP (q0 := 0) rfl rfl) rfl rfl hl.1 rfl (lv_room (Nat.le_of_ble_eq_true rfl)) dX6_beginOne_71 ⟨Nat.zero_le _, Nat.zero_le _⟩) hS (fun _ h => h) (fun H locs hP _ _ hS => ?_)
        refine kGen (mX6_lay (rset u 1 g_2) ((u 1) 2) 2 (-6)) (fun g_3 hg_3 => ?_)
        rw [hg_3] at hE hP
        try dsimp only at hE
        have hP : va_P E.1 vwCl (wModx E b (u 0 0) (u 0 1) (u 0 2) (u 0 3) (u 0 4) (u 0 5) (u 0 6) (u 0 7) g_3 (u 2) (u 3) (u 4) (u 5) (u 6) (u 7) (u 8)) H := hP
        have hD := dMod (E := E) hj (u 0 0) (u 0 1) (u 0 2) (u 0 3) (u 0 4) (u 0 5) (u 0 6) (u 0 7) g_3 (u 2) (u 3) (u 4) (u 5) (u 6) (u 7) (u 8)
        refine lv_aload_n hx hb dX6_beginOne_74 rfl (lv_at hl 3 rfl) ?_
        refine lv_iload_n hx hb dX6_beginOne_75 rfl (lv_at hl 2 rfl) ?_
        refine lv_iconst (v := 5) hx hb dX6_beginOne_76 (by decide) ?_
        refine lv_bipush (v := (-6)) hx hb dX6_beginOne_77 (by decide) ?_
        refine kCallWv (va_runV (As := [.int ((u 1) 2), .int 5, .int (-6)]) (rest := []) ⟨hx, hb, hml, hown, hts⟩ (c_X6_lay l E b (rset u 1 g_3) hj ((u 1) 2) 5 (-6) (by assumption) ⟨5, by decide, rfl⟩ _ rfl) (cwV 3 hts gX6_beginOne_X6_lay rfl rfl rfl (by decide +kernel) ⟨Nat.le_of_ble_eq_true rfl, Nat.le_of_ble_eq_true rfl⟩) (kPreV hK hP hP (q0 := 0) rfl rfl) rfl rfl hl.1 rfl (lv_room (Nat.le_of_ble_eq_true rfl)) dX6_beginOne_79 ⟨Nat.zero_le _, Nat.zero_le _⟩) hS (fun _ h => h) (fun H locs hP _ _ hS => ?_)
        refine kGen (mX6_lay (rset u 1 g_3) ((u 1) 2) 5 (-6)) (fun g_4 hg_4 => ?_)
        rw [hg_4] at hE hP
        try dsimp only at hE
        have hP : va_P E.1 vwCl (wModx E b (u 0 0) (u 0 1) (u 0 2) (u 0 3) (u 0 4) (u 0 5) (u 0 6) (u 0 7) g_4 (u 2) (u 3) (u 4) (u 5) (u 6) (u 7) (u 8)) H := hP
        have hD := dMod (E := E) hj (u 0 0) (u 0 1) (u 0 2) (u 0 3) (u 0 4) (u 0 5) (u 0 6) (u 0 7) g_4 (u 2) (u 3) (u 4) (u 5) (u 6) (u 7) (u 8)
        refine lv_aload_n hx hb dX6_beginOne_82 rfl (lv_at hl 3 rfl) ?_
        refine lv_iload_n hx hb dX6_beginOne_83 rfl (lv_at hl 2 rfl) ?_
        refine lv_bipush (v := 6) hx hb dX6_beginOne_84 (by decide) ?_
        refine lv_iload_n hx hb dX6_beginOne_86 rfl (lv_at hl 1 rfl) ?_
        refine kCallWv (va_runV (As := [.int ((u 1) 2), .int 6, .int (mX6_setOf u 0)]) (rest := []) ⟨hx, hb, hml, hown, hts⟩ (c_X6_lay l E b (rset u 1 g_4) hj ((u 1) 2) 6 (mX6_setOf u 0) (by assumption) ⟨6, by decide, rfl⟩ _ rfl) (cwV 3 hts gX6_beginOne_X6_lay rfl rfl rfl (by decide +kernel) ⟨Nat.le_of_ble_eq_true rfl, Nat.le_of_ble_eq_true rfl⟩) (kPreV hK hP hP (q0 := 0) rfl rfl) rfl rfl hl.1 rfl (lv_room (Nat.le_of_ble_eq_true rfl)) dX6_beginOne_87 ⟨Nat.zero_le _, Nat.zero_le _⟩) hS (fun _ h => h) (fun H locs hP _ _ hS => ?_)
        refine kGen (mX6_lay (rset u 1 g_4) ((u 1) 2) 6 (mX6_setOf u 0)) (fun g_5 hg_5 => ?_)
        rw [hg_5] at hE hP
        try dsimp only at hE
        have hP : va_P E.1 vwCl (wModx E b (u 0 0) (u 0 1) (u 0 2) (u 0 3) (u 0 4) (u 0 5) (u 0 6) (u 0 7) g_5 (u 2) (u 3) (u 4) (u 5) (u 6) (u 7) (u 8)) H := hP
        have hD := dMod (E := E) hj (u 0 0) (u 0 1) (u 0 2) (u 0 3) (u 0 4) (u 0 5) (u 0 6) (u 0 7) g_5 (u 2) (u 3) (u 4) (u 5) (u 6) (u 7) (u 8)
        refine lv_iload_n hx hb dX6_beginOne_90 rfl (lv_at hl 2 rfl) ?_
        subst R
        exact W.iret (v := ((u 1) 2)) hx hb hr (fun t ht hW => ⟨rfl, by rw [ht]; exact hP, hS.F ht⟩) hS.2.2 dX6_beginOne_91
      · replace hE := hE.trans (if_neg c_1)
        have hbc_1 : i35 < 23 := nI_nle_lt ⟨by omega, by omega⟩ c_1
        refine lv_aload_n hx hb dX6_beginOne_41 rfl (lv_at hl 3 rfl) ?_
        refine lv_iload_n hx hb dX6_beginOne_42 rfl (lv_at hl 2 rfl) ?_
        refine lv_iload_n hx hb dX6_beginOne_43 rfl (lv_at hl 0 rfl) ?_
        refine lv_iconst (v := 0) hx hb dX6_beginOne_44 (by decide) ?_
        refine kCallWv (va_runV (As := [.int ((u 1) 2), .int (nI i35), .int 0]) (rest := []) ⟨hx, hb, hml, hown, hts⟩ (c_X6_lay l E b (rset u 1 f35_0_1) hj ((u 1) 2) (nI i35) 0 (by assumption) ⟨i35, by omega, rfl⟩ _ rfl) (cwV 3 hts gX6_beginOne_X6_lay rfl rfl rfl (by decide +kernel) ⟨Nat.le_of_ble_eq_true rfl, Nat.le_of_ble_eq_true rfl⟩) (kPreV hK hP hP (q0 := 0) rfl rfl) rfl rfl hl.1 rfl (lv_room (Nat.le_of_ble_eq_true rfl)) dX6_beginOne_45 ⟨Nat.zero_le _, Nat.zero_le _⟩) hS (fun _ h => h) (fun H locs hP _ _ hS => ?_)
        refine kGen (mX6_lay (rset u 1 f35_0_1) ((u 1) 2) (nI i35) 0) (fun g_6 hg_6 => ?_)
        rw [hg_6] at hE hP
        try dsimp only at hE
        have hP : va_P E.1 vwCl (wModx E b (u 0 0) (u 0 1) (u 0 2) (u 0 3) (u 0 4) (u 0 5) (u 0 6) (u 0 7) g_6 (u 2) (u 3) (u 4) (u 5) (u 6) (u 7) (u 8)) H := hP
        have hD := dMod (E := E) hj (u 0 0) (u 0 1) (u 0 2) (u 0 3) (u 0 4) (u 0 5) (u 0 6) (u 0 7) g_6 (u 2) (u 3) (u 4) (u 5) (u 6) (u 7) (u 8)
        refine lv_iinc (v := (nI (i35 + 1))) (lv' := [(3, .int (nI (i35 + 1))), (2, .int (mX6_setOf u 0)), (1, .int ((u 1) 2)), (0, .ref (b 0))]) hx hb dX6_beginOne_48 hl (k := 0) rfl (nI_1 i35) (by decide) rfl (fun ls hl => ?_)
        refine lv_goto (tgt := 35) hx hb dX6_beginOne_51 (by decide) ?_
        exact ih35 (i35 + 1) g_6 _ _ (by omega) (by omega) hP hS ls (lv_sub hl [0, 1, 2, 3] rfl) hE
  exact lp35 24 0 (upd (upd (u 1) 1 (((u 1) 1) + 1)) 2 (((upd (u 1) 1 (((u 1) 1) + 1)) 2) + 1)) _ _ (by omega) (by omega) hP hS ls (lv_sub hl [0, 1, 2, 3] rfl) hE
theorem beginOne_Ln {u : kG} (ht : tOK (u 1 2)) : ∀ (n35 i35 : Nat) (f35_0_1 : Nat → Int32), i35 ≤ 23 → nOK (f35_0_1 2) → nOK ((mX6_beginOne_L35 u n35 i35 f35_0_1).2 2) := by
  intro n35
  induction n35 with
  | zero => intro i35 f35_0_1 h1 hf; exact ⟨0, by omega, rfl⟩
  | succ n35 ih =>
    intro i35 f35_0_1 h1 hf
    rw [mX6_beginOne_L35_s]
    by_cases k_1 : 23 ≤ (nI i35)
    · rewrite [if_pos k_1]
      have hz1 : nOK ((mX6_lay (rset u 1 f35_0_1) ((u 1) 2) 1 (f35_0_1 1)) 2) := lay_n (u := (rset u 1 f35_0_1)) hf ht ⟨1, by decide, rfl⟩
      refine kGen (mX6_lay (rset u 1 f35_0_1) ((u 1) 2) 1 (f35_0_1 1)) (fun g_2 eg_2 => ?_)
      rewrite [eg_2] at hz1
      try rewrite [eg_2]
      try dsimp only
      have hz2 : nOK ((mX6_lay (rset u 1 g_2) ((u 1) 2) 2 (-6)) 2) := lay_n (u := (rset u 1 g_2)) hz1 ht ⟨2, by decide, rfl⟩
      refine kGen (mX6_lay (rset u 1 g_2) ((u 1) 2) 2 (-6)) (fun g_3 eg_3 => ?_)
      rewrite [eg_3] at hz2
      try rewrite [eg_3]
      try dsimp only
      have hz5 : nOK ((mX6_lay (rset u 1 g_3) ((u 1) 2) 5 (-6)) 2) := lay_n (u := (rset u 1 g_3)) hz2 ht ⟨5, by decide, rfl⟩
      refine kGen (mX6_lay (rset u 1 g_3) ((u 1) 2) 5 (-6)) (fun g_4 eg_4 => ?_)
      rewrite [eg_4] at hz5
      try rewrite [eg_4]
      try dsimp only
      have hz6 : nOK ((mX6_lay (rset u 1 g_4) ((u 1) 2) 6 (mX6_setOf u 0)) 2) := lay_n (u := (rset u 1 g_4)) hz5 ht ⟨6, by decide, rfl⟩
      refine kGen (mX6_lay (rset u 1 g_4) ((u 1) 2) 6 (mX6_setOf u 0)) (fun g_5 eg_5 => ?_)
      rewrite [eg_5] at hz6
      try rewrite [eg_5]
      try dsimp only
      exact hz6
    · rewrite [if_neg k_1]
      have hb : i35 < 23 := nI_nle_lt ⟨by omega, by omega⟩ k_1
      have hz : nOK ((mX6_lay (rset u 1 f35_0_1) ((u 1) 2) (nI i35) 0) 2) := lay_n (u := (rset u 1 f35_0_1)) hf ht ⟨i35, hb, rfl⟩
      refine kGen (mX6_lay (rset u 1 f35_0_1) ((u 1) 2) (nI i35) 0) (fun g_6 eg_6 => ?_)
      rewrite [eg_6] at hz
      try rewrite [eg_6]
      try dsimp only
      exact ih _ _ (by omega) hz
theorem tOK.s {x : Int32} (h : tOK x) : nOK (x + 1) := by
  obtain ⟨i, hi, rfl⟩ := h; exact ⟨i + 1, by omega, nI_1 i⟩
theorem beginOne_n {u : kG} (ht : tOK (u 1 2)) : nOK ((mX6_beginOne u).2 2) := beginOne_Ln ht _ _ _ (by omega) (tOK.s ht)
def mX6_begin (u : kG) : Int32 × Int32 × (Nat → Int32) × (Nat → Int32) :=
  if ((u 1) 2) = 12 then
    ((-4), (u 0 0), (u 1), (u 2))
  else
    (fun (g_2 : Int32 × (Nat → Int32)) =>
      (fun (g_3 : Int32 × (Nat → Int32)) =>
        ((g_3.1), (g_2.1), (g_3.2), (g_2.2)))
        (mX6_beginOne (rset (rset u 2 (g_2.2)) 0 (upd (u 0) 0 (g_2.1)))))
      (mX6_record u)
theorem mX6_begin_s {u : kG} : mX6_begin u = (
  if ((u 1) 2) = 12 then
    ((-4), (u 0 0), (u 1), (u 2))
  else
    (fun (g_2 : Int32 × (Nat → Int32)) =>
      (fun (g_3 : Int32 × (Nat → Int32)) =>
        ((g_3.1), (g_2.1), (g_3.2), (g_2.2)))
        (mX6_beginOne (rset (rset u 2 (g_2.2)) 0 (upd (u 0) 0 (g_2.1)))))
      (mX6_record u) : Int32 × Int32 × (Nat → Int32) × (Nat → Int32)) := rfl
set_option maxHeartbeats 400000 in
set_option maxRecDepth 100000 in
theorem c_X6_begin (l : Launch) (E : kE) (b : Nat → Nat) (u : kG) (hj : kInj b 9) (hm : nOK (u 1 2)) (hpm : bOK 6 (u 0 0)) (R : Int32 × Int32 × (Nat → Int32) × (Nat → Int32)) (hE : R = mX6_begin u) : Met l yX6_begin wsX6_begin ({ frames := 4, cells := 0, slots := 0, locals := 90 }) (kPre E [.ref (b 0)] (wModx E b (u 0 0) (u 0 1) (u 0 2) (u 0 3) (u 0 4) (u 0 5) (u 0 6) (u 0 7) (u 1) (u 2) (u 3) (u 4) (u 5) (u 6) (u 7) (u 8))) (kWi E R.1 (wModx E b R.2.1 (u 0 1) (u 0 2) (u 0 3) (u 0 4) (u 0 5) (u 0 6) (u 0 7) R.2.2.1 R.2.2.2 (u 3) (u 4) (u 5) (u 6) (u 7) (u 8)) (kA b 9)) 0 0 (kA b 9) := by
  refine Met.ofW (cc := cX6_begin) (maxL := 1) (ret := (some .int)) (by decide) rfl ?_
  intro p e s m args below meth c s₁ B hml hv
  obtain ⟨rfl, hK, hP⟩ := hv
  have hx := B.exec
  have hb := B.bytes
  have hr := B.returns
  have hts := atoms_spec (ws := wsX6_begin) B.pre
  have hown : s.vm.findClass RX6 = some m.cls := findClass_of_methodNamed B.named
  have hlocks := B.notSynchronized
  have hiX6 : ∀ w ∈ wsX60, w ∈ wsX6_begin := by decide +kernel
  have hf7 := hts (.fieldLink RX6 7 "SkewEdgesModel" "z" "[I") (by decide +kernel)
  have hS : va_S (kA b 9) s.heap s.heap [] := va_S.rf
  have hP : va_P E.1 vwCl (wModx E b (u 0 0) (u 0 1) (u 0 2) (u 0 3) (u 0 4) (u 0 5) (u 0 6) (u 0 7) (u 1) (u 2) (u 3) (u 4) (u 5) (u 6) (u 7) (u 8)) s.heap := hP
  have hD := dMod (E := E) hj (u 0 0) (u 0 1) (u 0 2) (u 0 3) (u 0 4) (u 0 5) (u 0 6) (u 0 7) (u 1) (u 2) (u 3) (u 4) (u 5) (u 6) (u 7) (u 8)
  have hl := lv_entry ([.ref (b 0)]) (n := 1) (Nat.le_of_ble_eq_true rfl)
  rw [lg_entry_eq]
  generalize (lg_sl ([.ref (b 0)]) ++ List.replicate (1 - (lg_sl ([.ref (b 0)])).length) Slot.unset).toArray = ls at hl ⊢
  have hl : lv_has ls 1 [(0, .ref (b 0))] := hl
  replace hE := hE.trans mX6_begin_s
  refine lv_aload_n hx hb dX6_begin_0 rfl (lv_at hl 0 rfl) ?_
  refine va_get (D := E.1) (ci := 5) (v := .ref (b 1)) (C := RX6) (T := TX6) (N := 16) hx hb hts hiX6 hown hK.1 hP 0 rfl rfl 0 (by decide) hf7 (fun _ h9 => h9) rfl dX6_begin_1 ?_
  refine lv_iconst (v := 2) hx hb dX6_begin_4 (by decide) ?_
  refine va_iald (D := E.1) hx hb hK.1 hP 1 0 rfl rfl (vp_in_nI (n := 2) (by decide) (by decide)) dX6_begin_5 ?_
  refine W.eq (g2 := F0 m 6 ls [.int ((u 1) 2)]) rfl ?_
  refine lv_bipush (v := 12) hx hb dX6_begin_6 (by decide) ?_
  refine lv_icmp_ne (tgt := 14) hx hb dX6_begin_8 (by decide) (fun c_1 => ?_) (fun c_1 => ?_)
  · replace hE := hE.trans (if_neg c_1)
    have ht := nOK.ne12 hm c_1
    refine lv_aload_n hx hb dX6_begin_14 rfl (lv_at hl 0 rfl) ?_
    refine kCallWv (va_runV (As := []) (rest := []) ⟨hx, hb, hml, hown, hts⟩ (c_X6_record l E b u hj (by first | assumption | exact tOK.nI (by omega)) _ rfl) (cwV 0 hts gX6_begin_X6_record rfl rfl rfl (by decide +kernel) ⟨Nat.le_of_ble_eq_true rfl, Nat.le_of_ble_eq_true rfl⟩) (kPreV hK hP hP (q0 := 0) rfl rfl) rfl rfl hl.1 rfl (lv_room (Nat.le_of_ble_eq_true rfl)) dX6_begin_15 ⟨Nat.zero_le _, Nat.zero_le _⟩) hS (fun _ h => h) (fun H locs hP _ _ hS => ?_)
    refine kGen (mX6_record u) (fun g_2 hg_2 => ?_)
    rw [hg_2] at hE hP
    try dsimp only at hE
    have hP : va_P E.1 vwCl (wModx E b (g_2.1) (u 0 1) (u 0 2) (u 0 3) (u 0 4) (u 0 5) (u 0 6) (u 0 7) (u 1) (g_2.2) (u 3) (u 4) (u 5) (u 6) (u 7) (u 8)) H := hP
    have hD := dMod (E := E) hj (g_2.1) (u 0 1) (u 0 2) (u 0 3) (u 0 4) (u 0 5) (u 0 6) (u 0 7) (u 1) (g_2.2) (u 3) (u 4) (u 5) (u 6) (u 7) (u 8)
    refine lv_aload_n hx hb dX6_begin_18 rfl (lv_at hl 0 rfl) ?_
    refine kCallWi (va_runV (As := []) (rest := []) ⟨hx, hb, hml, hown, hts⟩ (c_X6_beginOne l E b (rset (rset u 2 (g_2.2)) 0 (upd (u 0) 0 (g_2.1))) hj ht _ rfl) (cwV 0 hts gX6_begin_X6_beginOne rfl rfl rfl (by decide +kernel) ⟨Nat.le_of_ble_eq_true rfl, Nat.le_of_ble_eq_true rfl⟩) (kPreV hK hP hP (q0 := 0) rfl rfl) rfl rfl hl.1 rfl (lv_room (Nat.le_of_ble_eq_true rfl)) dX6_begin_19 ⟨Nat.zero_le _, Nat.zero_le _⟩) hS (fun _ h => h) (fun H locs hP _ _ hS => ?_)
    refine kGen (mX6_beginOne (rset (rset u 2 (g_2.2)) 0 (upd (u 0) 0 (g_2.1)))) (fun g_3 hg_3 => ?_)
    rw [hg_3] at hE hP ⊢
    try dsimp only at hE
    have hP : va_P E.1 vwCl (wModx E b (g_2.1) (u 0 1) (u 0 2) (u 0 3) (u 0 4) (u 0 5) (u 0 6) (u 0 7) (g_3.2) (g_2.2) (u 3) (u 4) (u 5) (u 6) (u 7) (u 8)) H := hP
    have hD := dMod (E := E) hj (g_2.1) (u 0 1) (u 0 2) (u 0 3) (u 0 4) (u 0 5) (u 0 6) (u 0 7) (g_3.2) (g_2.2) (u 3) (u 4) (u 5) (u 6) (u 7) (u 8)
    subst R
    exact W.iret (v := (g_3.1)) hx hb hr (fun t ht hW => ⟨rfl, by rw [ht]; exact hP, hS.F ht⟩) hS.2.2 dX6_begin_22
  · replace hE := hE.trans (if_pos c_1)
    refine lv_bipush (v := (-4)) hx hb dX6_begin_11 (by decide) ?_
    subst R
    exact W.iret (v := (-4)) hx hb hr (fun t ht hW => ⟨rfl, by rw [ht]; exact hP, hS.F ht⟩) hS.2.2 dX6_begin_13
def mX6_whyNotRead (u : kG) (x1 : Int32) (x2 : Int32) : Int32 :=
  if (mX6_isTransaction u x1) = 0 then
    (-1)
  else
    if (mX6_isKey x2) = 0 then
      (-1)
    else
      if (mX6_isIn u x1 0) = 0 then
        (-5)
      else
        0
theorem mX6_whyNotRead_s {u : kG} {x1 : Int32} {x2 : Int32} : mX6_whyNotRead u x1 x2 = (
  if (mX6_isTransaction u x1) = 0 then
    (-1)
  else
    if (mX6_isKey x2) = 0 then
      (-1)
    else
      if (mX6_isIn u x1 0) = 0 then
        (-5)
      else
        0 : Int32) := rfl
set_option maxHeartbeats 400000 in
set_option maxRecDepth 100000 in
theorem c_X6_whyNotRead (l : Launch) (E : kE) (b : Nat → Nat) (u : kG) (x1 : Int32) (x2 : Int32) (hm : nOK (u 1 2)) (R : Int32) (hE : R = mX6_whyNotRead u x1 x2) : Met l yX6_whyNotRead wsX6_whyNotRead ({ frames := 2, cells := 0, slots := 0, locals := 44 }) (kPre E [.ref (b 0), .int x1, .int x2] (wModx E b (u 0 0) (u 0 1) (u 0 2) (u 0 3) (u 0 4) (u 0 5) (u 0 6) (u 0 7) (u 1) (u 2) (u 3) (u 4) (u 5) (u 6) (u 7) (u 8))) (kRi R) 0 0 (fun _ => False) := by
  refine Met.ofW (cc := cX6_whyNotRead) (maxL := 3) (ret := (some .int)) (by decide) rfl ?_
  intro p e s m args below meth c s₁ B hml hv
  obtain ⟨rfl, hK, hP⟩ := hv
  have hx := B.exec
  have hb := B.bytes
  have hr := B.returns
  have hts := atoms_spec (ws := wsX6_whyNotRead) B.pre
  have hown : s.vm.findClass RX6 = some m.cls := findClass_of_methodNamed B.named
  have hlocks := B.notSynchronized
  have hP : va_P E.1 vwCl (wModx E b (u 0 0) (u 0 1) (u 0 2) (u 0 3) (u 0 4) (u 0 5) (u 0 6) (u 0 7) (u 1) (u 2) (u 3) (u 4) (u 5) (u 6) (u 7) (u 8)) s.heap := hP
  have hl := lv_entry ([.ref (b 0), .int x1, .int x2]) (n := 3) (Nat.le_of_ble_eq_true rfl)
  rw [lg_entry_eq]
  generalize (lg_sl ([.ref (b 0), .int x1, .int x2]) ++ List.replicate (3 - (lg_sl ([.ref (b 0), .int x1, .int x2])).length) Slot.unset).toArray = ls at hl ⊢
  have hl : lv_has ls 3 [(0, .ref (b 0)), (1, .int x1), (2, .int x2)] := hl
  replace hE := hE.trans mX6_whyNotRead_s
  refine lv_aload_n hx hb dX6_whyNotRead_0 rfl (lv_at hl 0 rfl) ?_
  refine lv_iload_n hx hb dX6_whyNotRead_1 rfl (lv_at hl 1 rfl) ?_
  refine kCallRi (va_runV (As := [.int x1]) (rest := []) ⟨hx, hb, hml, hown, hts⟩ (c_X6_isTransaction l E b u x1 _ rfl) (cwV 1 hts gX6_whyNotRead_X6_isTransaction rfl rfl rfl (by decide +kernel) ⟨Nat.le_of_ble_eq_true rfl, Nat.le_of_ble_eq_true rfl⟩) (kPreV hK hP hP (q0 := 0) rfl rfl) rfl rfl hl.1 rfl (lv_room (Nat.le_of_ble_eq_true rfl)) dX6_whyNotRead_2 ⟨Nat.zero_le _, Nat.zero_le _⟩) ?_
  refine lv_if_eq (tgt := 15) hx hb dX6_whyNotRead_5 (by decide) (fun c_1 => ?_) (fun c_1 => ?_)
  · replace hE := hE.trans (if_pos c_1)
    refine lv_iconst (v := (-1)) hx hb dX6_whyNotRead_15 (by decide) ?_
    refine lv_goto (tgt := 34) hx hb dX6_whyNotRead_16 (by decide) ?_
    subst R
    exact W.iret (v := (-1)) hx hb hr (fun t ht hW => ⟨rfl, ht⟩) (fun _ h => by cases h) dX6_whyNotRead_34
  · replace hE := hE.trans (if_neg c_1)
    have hzc_1 := isTr_ok (by assumption) c_1
    refine lv_iload_n hx hb dX6_whyNotRead_8 rfl (lv_at hl 2 rfl) ?_
    refine kCallRi (va_runS (As := [.int x2]) (rest := []) ⟨hx, hb, hml, hown, hts⟩ (c_X6_isKey l E x2 _ rfl) (va_cwS 1 hts gX6_whyNotRead_X6_isKey rfl rfl rfl (by decide +kernel) ⟨Nat.le_of_ble_eq_true rfl, Nat.le_of_ble_eq_true rfl⟩) (kPreS hK kP0) rfl rfl hl.1 rfl (lv_room (Nat.le_of_ble_eq_true rfl)) dX6_whyNotRead_9 ⟨Nat.zero_le _, Nat.zero_le _⟩) ?_
    refine lv_if_ne (tgt := 19) hx hb dX6_whyNotRead_12 (by decide) (fun c_2 => ?_) (fun c_2 => ?_)
    · replace hE := hE.trans (if_neg c_2)
      have hzc_2 := in_key c_2
      refine lv_aload_n hx hb dX6_whyNotRead_19 rfl (lv_at hl 0 rfl) ?_
      refine lv_iload_n hx hb dX6_whyNotRead_20 rfl (lv_at hl 1 rfl) ?_
      refine lv_iconst (v := 0) hx hb dX6_whyNotRead_21 (by decide) ?_
      refine kCallRi (va_runV (As := [.int x1, .int 0]) (rest := []) ⟨hx, hb, hml, hown, hts⟩ (c_X6_isIn l E b u x1 0 (by assumption) _ rfl) (cwV 2 hts gX6_whyNotRead_X6_isIn rfl rfl rfl (by decide +kernel) ⟨Nat.le_of_ble_eq_true rfl, Nat.le_of_ble_eq_true rfl⟩) (kPreV hK hP hP (q0 := 0) rfl rfl) rfl rfl hl.1 rfl (lv_room (Nat.le_of_ble_eq_true rfl)) dX6_whyNotRead_22 ⟨Nat.zero_le _, Nat.zero_le _⟩) ?_
      refine lv_if_eq (tgt := 32) hx hb dX6_whyNotRead_25 (by decide) (fun c_3 => ?_) (fun c_3 => ?_)
      · replace hE := hE.trans (if_pos c_3)
        refine lv_bipush (v := (-5)) hx hb dX6_whyNotRead_32 (by decide) ?_
        subst R
        exact W.iret (v := (-5)) hx hb hr (fun t ht hW => ⟨rfl, ht⟩) (fun _ h => by cases h) dX6_whyNotRead_34
      · replace hE := hE.trans (if_neg c_3)
        refine lv_iconst (v := 0) hx hb dX6_whyNotRead_28 (by decide) ?_
        refine lv_goto (tgt := 34) hx hb dX6_whyNotRead_29 (by decide) ?_
        subst R
        exact W.iret (v := 0) hx hb hr (fun t ht hW => ⟨rfl, ht⟩) (fun _ h => by cases h) dX6_whyNotRead_34
    · replace hE := hE.trans (if_pos c_2)
      refine lv_iconst (v := (-1)) hx hb dX6_whyNotRead_15 (by decide) ?_
      refine lv_goto (tgt := 34) hx hb dX6_whyNotRead_16 (by decide) ?_
      subst R
      exact W.iret (v := (-1)) hx hb hr (fun t ht hW => ⟨rfl, ht⟩) (fun _ h => by cases h) dX6_whyNotRead_34
theorem wnr_ok {u : kG} {t k : Int32} (hm : nOK (u 1 2)) (c : 0 ≤ mX6_whyNotRead u t k) : tOK t ∧ yOK k := by
  unfold mX6_whyNotRead at c
  by_cases h1 : mX6_isTransaction u t = 0
  · rw [if_pos h1] at c; exact absurd c (by decide)
  · rw [if_neg h1] at c
    by_cases h2 : mX6_isKey k = 0
    · rw [if_pos h2] at c; exact absurd c (by decide)
    · exact ⟨isTr_ok hm h1, in_key h2⟩
def mX6_writerSeen (u : kG) (x1 : Int32) (x2 : Int32) : Int32 :=
  if (mX6_wrote u x1 x2) = 0 then
    (mX6_writerAhead u x2 (mX6_its u x1 1))
  else
    x1
theorem mX6_writerSeen_s {u : kG} {x1 : Int32} {x2 : Int32} : mX6_writerSeen u x1 x2 = (
  if (mX6_wrote u x1 x2) = 0 then
    (mX6_writerAhead u x2 (mX6_its u x1 1))
  else
    x1 : Int32) := rfl
set_option maxHeartbeats 400000 in
set_option maxRecDepth 100000 in
theorem c_X6_writerSeen (l : Launch) (E : kE) (b : Nat → Nat) (u : kG) (x1 : Int32) (x2 : Int32) (hm : nOK (u 1 2)) (ht : tOK x1) (R : Int32) (hE : R = mX6_writerSeen u x1 x2) : Met l yX6_writerSeen wsX6_writerSeen ({ frames := 3, cells := 0, slots := 0, locals := 69 }) (kPre E [.ref (b 0), .int x1, .int x2] (wModx E b (u 0 0) (u 0 1) (u 0 2) (u 0 3) (u 0 4) (u 0 5) (u 0 6) (u 0 7) (u 1) (u 2) (u 3) (u 4) (u 5) (u 6) (u 7) (u 8))) (kRi R) 0 0 (fun _ => False) := by
  refine Met.ofW (cc := cX6_writerSeen) (maxL := 3) (ret := (some .int)) (by decide) rfl ?_
  intro p e s m args below meth c s₁ B hml hv
  obtain ⟨rfl, hK, hP⟩ := hv
  have hx := B.exec
  have hb := B.bytes
  have hr := B.returns
  have hts := atoms_spec (ws := wsX6_writerSeen) B.pre
  have hown : s.vm.findClass RX6 = some m.cls := findClass_of_methodNamed B.named
  have hlocks := B.notSynchronized
  have hP : va_P E.1 vwCl (wModx E b (u 0 0) (u 0 1) (u 0 2) (u 0 3) (u 0 4) (u 0 5) (u 0 6) (u 0 7) (u 1) (u 2) (u 3) (u 4) (u 5) (u 6) (u 7) (u 8)) s.heap := hP
  have hl := lv_entry ([.ref (b 0), .int x1, .int x2]) (n := 3) (Nat.le_of_ble_eq_true rfl)
  rw [lg_entry_eq]
  generalize (lg_sl ([.ref (b 0), .int x1, .int x2]) ++ List.replicate (3 - (lg_sl ([.ref (b 0), .int x1, .int x2])).length) Slot.unset).toArray = ls at hl ⊢
  have hl : lv_has ls 3 [(0, .ref (b 0)), (1, .int x1), (2, .int x2)] := hl
  replace hE := hE.trans mX6_writerSeen_s
  refine lv_aload_n hx hb dX6_writerSeen_0 rfl (lv_at hl 0 rfl) ?_
  refine lv_iload_n hx hb dX6_writerSeen_1 rfl (lv_at hl 1 rfl) ?_
  refine lv_iload_n hx hb dX6_writerSeen_2 rfl (lv_at hl 2 rfl) ?_
  refine kCallRi (va_runV (As := [.int x1, .int x2]) (rest := []) ⟨hx, hb, hml, hown, hts⟩ (c_X6_wrote l E b u x1 x2 (by assumption) _ rfl) (cwV 2 hts gX6_writerSeen_X6_wrote rfl rfl rfl (by decide +kernel) ⟨Nat.le_of_ble_eq_true rfl, Nat.le_of_ble_eq_true rfl⟩) (kPreV hK hP hP (q0 := 0) rfl rfl) rfl rfl hl.1 rfl (lv_room (Nat.le_of_ble_eq_true rfl)) dX6_writerSeen_3 ⟨Nat.zero_le _, Nat.zero_le _⟩) ?_
  refine lv_if_eq (tgt := 13) hx hb dX6_writerSeen_6 (by decide) (fun c_1 => ?_) (fun c_1 => ?_)
  · replace hE := hE.trans (if_pos c_1)
    refine lv_aload_n hx hb dX6_writerSeen_13 rfl (lv_at hl 0 rfl) ?_
    refine lv_iload_n hx hb dX6_writerSeen_14 rfl (lv_at hl 2 rfl) ?_
    refine lv_aload_n hx hb dX6_writerSeen_15 rfl (lv_at hl 0 rfl) ?_
    refine lv_iload_n hx hb dX6_writerSeen_16 rfl (lv_at hl 1 rfl) ?_
    refine lv_iconst (v := 1) hx hb dX6_writerSeen_17 (by decide) ?_
    refine kCallRi (va_runV (As := [.int x1, .int 1]) (rest := [.int x2, .ref (b 0)]) ⟨hx, hb, hml, hown, hts⟩ (c_X6_its l E b u x1 1 (by assumption) ⟨1, by decide, rfl⟩ _ rfl) (cwV 2 hts gX6_writerSeen_X6_its rfl rfl rfl (by decide +kernel) ⟨Nat.le_of_ble_eq_true rfl, Nat.le_of_ble_eq_true rfl⟩) (kPreV hK hP hP (q0 := 0) rfl rfl) rfl rfl hl.1 rfl (lv_room (Nat.le_of_ble_eq_true rfl)) dX6_writerSeen_18 ⟨Nat.zero_le _, Nat.zero_le _⟩) ?_
    refine kCallRi (va_runV (As := [.int x2, .int (mX6_its u x1 1)]) (rest := []) ⟨hx, hb, hml, hown, hts⟩ (c_X6_writerAhead l E b u x2 (mX6_its u x1 1) (by assumption) _ rfl) (cwV 2 hts gX6_writerSeen_X6_writerAhead rfl rfl rfl (by decide +kernel) ⟨Nat.le_of_ble_eq_true rfl, Nat.le_of_ble_eq_true rfl⟩) (kPreV hK hP hP (q0 := 0) rfl rfl) rfl rfl hl.1 rfl (lv_room (Nat.le_of_ble_eq_true rfl)) dX6_writerSeen_21 ⟨Nat.zero_le _, Nat.zero_le _⟩) ?_
    subst R
    exact W.iret (v := (mX6_writerAhead u x2 (mX6_its u x1 1))) hx hb hr (fun t ht hW => ⟨rfl, ht⟩) (fun _ h => by cases h) dX6_writerSeen_24
  · replace hE := hE.trans (if_neg c_1)
    refine lv_iload_n hx hb dX6_writerSeen_9 rfl (lv_at hl 1 rfl) ?_
    refine lv_goto (tgt := 24) hx hb dX6_writerSeen_10 (by decide) ?_
    subst R
    exact W.iret (v := x1) hx hb hr (fun t ht hW => ⟨rfl, ht⟩) (fun _ h => by cases h) dX6_writerSeen_24
theorem writerSeen_t {u : kG} {t : Int32} (hm : nOK (u 1 2)) (ht : tOK t) (k : Int32) : mX6_writerSeen u t k = (-6) ∨ tOK (mX6_writerSeen u t k) := by
  unfold mX6_writerSeen
  split
  · exact writerAhead_t hm _ _
  · exact Or.inr ht
def mX6_readOne (u : kG) (x1 : Int32) (x2 : Int32) : Int32 × (Nat → Int32) :=
  if (mX6_wrote u x1 x2) = 0 then
    (fun (g_3 : (Nat → Int32)) =>
      if (mX6_writerSeen u x1 x2) = (-6) then
        (0, g_3)
      else
        ((mX6_its (rset u 1 g_3) (mX6_writerSeen u x1 x2) (7 + x2)), g_3))
      (mX6_lay u x1 3 ((mX6_its u x1 3) ||| (1 <<< (x2 &&& 31))))
  else
    if (mX6_writerSeen u x1 x2) = (-6) then
      (0, (u 1))
    else
      ((mX6_its u (mX6_writerSeen u x1 x2) (7 + x2)), (u 1))
theorem mX6_readOne_s {u : kG} {x1 : Int32} {x2 : Int32} : mX6_readOne u x1 x2 = (
  if (mX6_wrote u x1 x2) = 0 then
    (fun (g_3 : (Nat → Int32)) =>
      if (mX6_writerSeen u x1 x2) = (-6) then
        (0, g_3)
      else
        ((mX6_its (rset u 1 g_3) (mX6_writerSeen u x1 x2) (7 + x2)), g_3))
      (mX6_lay u x1 3 ((mX6_its u x1 3) ||| (1 <<< (x2 &&& 31))))
  else
    if (mX6_writerSeen u x1 x2) = (-6) then
      (0, (u 1))
    else
      ((mX6_its u (mX6_writerSeen u x1 x2) (7 + x2)), (u 1)) : Int32 × (Nat → Int32)) := rfl
set_option maxHeartbeats 400000 in
set_option maxRecDepth 100000 in
theorem c_X6_readOne (l : Launch) (E : kE) (b : Nat → Nat) (u : kG) (hj : kInj b 9) (x1 : Int32) (x2 : Int32) (hm : nOK (u 1 2)) (ht : tOK x1) (hk : yOK x2) (R : Int32 × (Nat → Int32)) (hE : R = mX6_readOne u x1 x2) : Met l yX6_readOne wsX6_readOne ({ frames := 4, cells := 0, slots := 0, locals := 91 }) (kPre E [.ref (b 0), .int x1, .int x2] (wModx E b (u 0 0) (u 0 1) (u 0 2) (u 0 3) (u 0 4) (u 0 5) (u 0 6) (u 0 7) (u 1) (u 2) (u 3) (u 4) (u 5) (u 6) (u 7) (u 8))) (kWi E R.1 (wModx E b (u 0 0) (u 0 1) (u 0 2) (u 0 3) (u 0 4) (u 0 5) (u 0 6) (u 0 7) R.2 (u 2) (u 3) (u 4) (u 5) (u 6) (u 7) (u 8)) (kA b 9)) 0 0 (kA b 9) := by
  refine Met.ofW (cc := cX6_readOne) (maxL := 4) (ret := (some .int)) (by decide) rfl ?_
  intro p e s m args below meth c s₁ B hml hv
  obtain ⟨rfl, hK, hP⟩ := hv
  have hx := B.exec
  have hb := B.bytes
  have hr := B.returns
  have hts := atoms_spec (ws := wsX6_readOne) B.pre
  have hown : s.vm.findClass RX6 = some m.cls := findClass_of_methodNamed B.named
  have hlocks := B.notSynchronized
  have hS : va_S (kA b 9) s.heap s.heap [] := va_S.rf
  have hP : va_P E.1 vwCl (wModx E b (u 0 0) (u 0 1) (u 0 2) (u 0 3) (u 0 4) (u 0 5) (u 0 6) (u 0 7) (u 1) (u 2) (u 3) (u 4) (u 5) (u 6) (u 7) (u 8)) s.heap := hP
  have hD := dMod (E := E) hj (u 0 0) (u 0 1) (u 0 2) (u 0 3) (u 0 4) (u 0 5) (u 0 6) (u 0 7) (u 1) (u 2) (u 3) (u 4) (u 5) (u 6) (u 7) (u 8)
  have hl := lv_entry ([.ref (b 0), .int x1, .int x2]) (n := 4) (Nat.le_of_ble_eq_true rfl)
  rw [lg_entry_eq]
  generalize (lg_sl ([.ref (b 0), .int x1, .int x2]) ++ List.replicate (4 - (lg_sl ([.ref (b 0), .int x1, .int x2])).length) Slot.unset).toArray = ls at hl ⊢
  have hl : lv_has ls 4 [(0, .ref (b 0)), (1, .int x1), (2, .int x2)] := hl
  replace hE := hE.trans mX6_readOne_s
  have hw := writerSeen_t hm ht x2
  refine lv_aload_n hx hb dX6_readOne_0 rfl (lv_at hl 0 rfl) ?_
  refine lv_iload_n hx hb dX6_readOne_1 rfl (lv_at hl 1 rfl) ?_
  refine lv_iload_n hx hb dX6_readOne_2 rfl (lv_at hl 2 rfl) ?_
  refine kCallRi (va_runV (As := [.int x1, .int x2]) (rest := []) ⟨hx, hb, hml, hown, hts⟩ (c_X6_writerSeen l E b u x1 x2 (by assumption) (by assumption) _ rfl) (cwV 2 hts gX6_readOne_X6_writerSeen rfl rfl rfl (by decide +kernel) ⟨Nat.le_of_ble_eq_true rfl, Nat.le_of_ble_eq_true rfl⟩) (kPreV hK hP hP (q0 := 0) rfl rfl) rfl rfl hl.1 rfl (lv_room (Nat.le_of_ble_eq_true rfl)) dX6_readOne_3 ⟨Nat.zero_le _, Nat.zero_le _⟩) ?_
  refine lv_istore_n (lv' := [(3, .int (mX6_writerSeen u x1 x2)), (0, .ref (b 0)), (1, .int x1), (2, .int x2)]) hx hb dX6_readOne_6 rfl hl (by decide) rfl (fun ls hl => ?_)
  refine lv_aload_n hx hb dX6_readOne_7 rfl (lv_at hl 1 rfl) ?_
  refine lv_iload_n hx hb dX6_readOne_8 rfl (lv_at hl 2 rfl) ?_
  refine lv_iload_n hx hb dX6_readOne_9 rfl (lv_at hl 3 rfl) ?_
  refine kCallRi (va_runV (As := [.int x1, .int x2]) (rest := []) ⟨hx, hb, hml, hown, hts⟩ (c_X6_wrote l E b u x1 x2 (by assumption) _ rfl) (cwV 2 hts gX6_readOne_X6_wrote rfl rfl rfl (by decide +kernel) ⟨Nat.le_of_ble_eq_true rfl, Nat.le_of_ble_eq_true rfl⟩) (kPreV hK hP hP (q0 := 0) rfl rfl) rfl rfl hl.1 rfl (lv_room (Nat.le_of_ble_eq_true rfl)) dX6_readOne_10 ⟨Nat.zero_le _, Nat.zero_le _⟩) ?_
  refine lv_if_ne (tgt := 32) hx hb dX6_readOne_13 (by decide) (fun c_1 => ?_) (fun c_1 => ?_)
  · replace hE := hE.trans (if_neg c_1)
    refine lv_iload_n hx hb dX6_readOne_32 rfl (lv_at hl 0 rfl) ?_
    refine lv_bipush (v := (-6)) hx hb dX6_readOne_33 (by decide) ?_
    refine lv_icmp_ne (tgt := 42) hx hb dX6_readOne_35 (by decide) (fun c_2 => ?_) (fun c_2 => ?_)
    · replace hE := hE.trans (if_neg c_2)
      refine lv_aload_n hx hb dX6_readOne_42 rfl (lv_at hl 1 rfl) ?_
      refine lv_iload_n hx hb dX6_readOne_43 rfl (lv_at hl 0 rfl) ?_
      refine lv_bipush (v := 7) hx hb dX6_readOne_44 (by decide) ?_
      refine lv_iload_n hx hb dX6_readOne_46 rfl (lv_at hl 3 rfl) ?_
      refine lv_iadd hx hb dX6_readOne_47 ?_
      refine kCallRi (va_runV (As := [.int (mX6_writerSeen u x1 x2), .int (7 + x2)]) (rest := []) ⟨hx, hb, hml, hown, hts⟩ (c_X6_its l E b u (mX6_writerSeen u x1 x2) (7 + x2) (kor hw (by assumption)) (wOK.val hk) _ rfl) (cwV 2 hts gX6_readOne_X6_its rfl rfl rfl (by decide +kernel) ⟨Nat.le_of_ble_eq_true rfl, Nat.le_of_ble_eq_true rfl⟩) (kPreV hK hP hP (q0 := 0) rfl rfl) rfl rfl hl.1 rfl (lv_room (Nat.le_of_ble_eq_true rfl)) dX6_readOne_48 ⟨Nat.zero_le _, Nat.zero_le _⟩) ?_
      subst R
      exact W.iret (v := (mX6_its u (mX6_writerSeen u x1 x2) (7 + x2))) hx hb hr (fun t ht hW => ⟨rfl, by rw [ht]; exact hP, hS.F ht⟩) hS.2.2 dX6_readOne_51
    · replace hE := hE.trans (if_pos c_2)
      refine lv_iconst (v := 0) hx hb dX6_readOne_38 (by decide) ?_
      refine lv_goto (tgt := 51) hx hb dX6_readOne_39 (by decide) ?_
      subst R
      exact W.iret (v := 0) hx hb hr (fun t ht hW => ⟨rfl, by rw [ht]; exact hP, hS.F ht⟩) hS.2.2 dX6_readOne_51
  · replace hE := hE.trans (if_pos c_1)
    refine lv_aload_n hx hb dX6_readOne_16 rfl (lv_at hl 1 rfl) ?_
    refine lv_iload_n hx hb dX6_readOne_17 rfl (lv_at hl 2 rfl) ?_
    refine lv_iconst (v := 3) hx hb dX6_readOne_18 (by decide) ?_
    refine lv_aload_n hx hb dX6_readOne_19 rfl (lv_at hl 1 rfl) ?_
    refine lv_iload_n hx hb dX6_readOne_20 rfl (lv_at hl 2 rfl) ?_
    refine lv_iconst (v := 3) hx hb dX6_readOne_21 (by decide) ?_
    refine kCallRi (va_runV (As := [.int x1, .int 3]) (rest := [.int 3, .int x1, .ref (b 0)]) ⟨hx, hb, hml, hown, hts⟩ (c_X6_its l E b u x1 3 (by assumption) ⟨3, by decide, rfl⟩ _ rfl) (cwV 2 hts gX6_readOne_X6_its rfl rfl rfl (by decide +kernel) ⟨Nat.le_of_ble_eq_true rfl, Nat.le_of_ble_eq_true rfl⟩) (kPreV hK hP hP (q0 := 0) rfl rfl) rfl rfl hl.1 rfl (lv_room (Nat.le_of_ble_eq_true rfl)) dX6_readOne_22 ⟨Nat.zero_le _, Nat.zero_le _⟩) ?_
    refine lv_iconst (v := 1) hx hb dX6_readOne_25 (by decide) ?_
    refine lv_iload_n hx hb dX6_readOne_26 rfl (lv_at hl 3 rfl) ?_
    refine lv_ishl hx hb dX6_readOne_27 ?_
    refine lv_ior hx hb dX6_readOne_28 ?_
    refine kCallWv (va_runV (As := [.int x1, .int 3, .int ((mX6_its u x1 3) ||| (1 <<< (x2 &&& 31)))]) (rest := []) ⟨hx, hb, hml, hown, hts⟩ (c_X6_lay l E b u hj x1 3 ((mX6_its u x1 3) ||| (1 <<< (x2 &&& 31))) (by assumption) ⟨3, by decide, rfl⟩ _ rfl) (cwV 3 hts gX6_readOne_X6_lay rfl rfl rfl (by decide +kernel) ⟨Nat.le_of_ble_eq_true rfl, Nat.le_of_ble_eq_true rfl⟩) (kPreV hK hP hP (q0 := 0) rfl rfl) rfl rfl hl.1 rfl (lv_room (Nat.le_of_ble_eq_true rfl)) dX6_readOne_29 ⟨Nat.zero_le _, Nat.zero_le _⟩) hS (fun _ h => h) (fun H locs hP _ _ hS => ?_)
    refine kGen (mX6_lay u x1 3 ((mX6_its u x1 3) ||| (1 <<< (x2 &&& 31)))) (fun g_3 hg_3 => ?_)
    rw [hg_3] at hE hP
    try dsimp only at hE
    have hP : va_P E.1 vwCl (wModx E b (u 0 0) (u 0 1) (u 0 2) (u 0 3) (u 0 4) (u 0 5) (u 0 6) (u 0 7) g_3 (u 2) (u 3) (u 4) (u 5) (u 6) (u 7) (u 8)) H := hP
    have hD := dMod (E := E) hj (u 0 0) (u 0 1) (u 0 2) (u 0 3) (u 0 4) (u 0 5) (u 0 6) (u 0 7) g_3 (u 2) (u 3) (u 4) (u 5) (u 6) (u 7) (u 8)
    refine lv_iload_n hx hb dX6_readOne_32 rfl (lv_at hl 0 rfl) ?_
    refine lv_bipush (v := (-6)) hx hb dX6_readOne_33 (by decide) ?_
    refine lv_icmp_ne (tgt := 42) hx hb dX6_readOne_35 (by decide) (fun c_4 => ?_) (fun c_4 => ?_)
    · replace hE := hE.trans (if_neg c_4)
      refine lv_aload_n hx hb dX6_readOne_42 rfl (lv_at hl 1 rfl) ?_
      refine lv_iload_n hx hb dX6_readOne_43 rfl (lv_at hl 0 rfl) ?_
      refine lv_bipush (v := 7) hx hb dX6_readOne_44 (by decide) ?_
      refine lv_iload_n hx hb dX6_readOne_46 rfl (lv_at hl 3 rfl) ?_
      refine lv_iadd hx hb dX6_readOne_47 ?_
      refine kCallRi (va_runV (As := [.int (mX6_writerSeen u x1 x2), .int (7 + x2)]) (rest := []) ⟨hx, hb, hml, hown, hts⟩ (c_X6_its l E b (rset u 1 g_3) (mX6_writerSeen u x1 x2) (7 + x2) (kor hw (by assumption)) (wOK.val hk) _ rfl) (cwV 2 hts gX6_readOne_X6_its rfl rfl rfl (by decide +kernel) ⟨Nat.le_of_ble_eq_true rfl, Nat.le_of_ble_eq_true rfl⟩) (kPreV hK hP hP (q0 := 0) rfl rfl) rfl rfl hl.1 rfl (lv_room (Nat.le_of_ble_eq_true rfl)) dX6_readOne_48 ⟨Nat.zero_le _, Nat.zero_le _⟩) ?_
      subst R
      exact W.iret (v := (mX6_its (rset u 1 g_3) (mX6_writerSeen u x1 x2) (7 + x2))) hx hb hr (fun t ht hW => ⟨rfl, by rw [ht]; exact hP, hS.F ht⟩) hS.2.2 dX6_readOne_51
    · replace hE := hE.trans (if_pos c_4)
      refine lv_iconst (v := 0) hx hb dX6_readOne_38 (by decide) ?_
      refine lv_goto (tgt := 51) hx hb dX6_readOne_39 (by decide) ?_
      subst R
      exact W.iret (v := 0) hx hb hr (fun t ht hW => ⟨rfl, by rw [ht]; exact hP, hS.F ht⟩) hS.2.2 dX6_readOne_51
theorem readOne_n {u : kG} {x1 x2 : Int32} (hm : nOK (u 1 2)) (ht : tOK x1) : nOK ((mX6_readOne u x1 x2).2 2) := by
  rw [mX6_readOne_s]
  by_cases k_1 : (mX6_wrote u x1 x2) = 0
  · rewrite [if_pos k_1]
    have hz : nOK ((mX6_lay u x1 3 ((mX6_its u x1 3) ||| (1 <<< (x2 &&& 31)))) 2) := lay_n (u := u) hm ht ⟨3, by decide, rfl⟩
    refine kGen (mX6_lay u x1 3 ((mX6_its u x1 3) ||| (1 <<< (x2 &&& 31)))) (fun g_3 eg_3 => ?_)
    rewrite [eg_3] at hz
    try rewrite [eg_3]
    try dsimp only
    by_cases k_2 : (mX6_writerSeen u x1 x2) = (-6)
    · rewrite [if_pos k_2]
      first | exact hz | exact hm
    · rewrite [if_neg k_2]
      first | exact hz | exact hm
  · rewrite [if_neg k_1]
    by_cases k_3 : (mX6_writerSeen u x1 x2) = (-6)
    · rewrite [if_pos k_3]
      first | exact hz | exact hm
    · rewrite [if_neg k_3]
      first | exact hz | exact hm
def mX6_read (u : kG) (x1 : Int32) (x2 : Int32) : Int32 × Int32 × (Nat → Int32) × (Nat → Int32) :=
  if 0 ≤ (mX6_whyNotRead u x1 x2) then
    (fun (g_2 : Int32 × (Nat → Int32)) =>
      (fun (g_3 : Int32 × (Nat → Int32)) =>
        ((g_3.1), (g_2.1), (g_3.2), (g_2.2)))
        (mX6_readOne (rset (rset u 2 (g_2.2)) 0 (upd (u 0) 0 (g_2.1))) x1 x2))
      (mX6_record u)
  else
    ((mX6_whyNotRead u x1 x2), (u 0 0), (u 1), (u 2))
theorem mX6_read_s {u : kG} {x1 : Int32} {x2 : Int32} : mX6_read u x1 x2 = (
  if 0 ≤ (mX6_whyNotRead u x1 x2) then
    (fun (g_2 : Int32 × (Nat → Int32)) =>
      (fun (g_3 : Int32 × (Nat → Int32)) =>
        ((g_3.1), (g_2.1), (g_3.2), (g_2.2)))
        (mX6_readOne (rset (rset u 2 (g_2.2)) 0 (upd (u 0) 0 (g_2.1))) x1 x2))
      (mX6_record u)
  else
    ((mX6_whyNotRead u x1 x2), (u 0 0), (u 1), (u 2)) : Int32 × Int32 × (Nat → Int32) × (Nat → Int32)) := rfl
set_option maxHeartbeats 400000 in
set_option maxRecDepth 100000 in
theorem c_X6_read (l : Launch) (E : kE) (b : Nat → Nat) (u : kG) (hj : kInj b 9) (x1 : Int32) (x2 : Int32) (hm : nOK (u 1 2)) (hpm : bOK 6 (u 0 0)) (R : Int32 × Int32 × (Nat → Int32) × (Nat → Int32)) (hE : R = mX6_read u x1 x2) : Met l yX6_read wsX6_read ({ frames := 5, cells := 0, slots := 0, locals := 114 }) (kPre E [.ref (b 0), .int x1, .int x2] (wModx E b (u 0 0) (u 0 1) (u 0 2) (u 0 3) (u 0 4) (u 0 5) (u 0 6) (u 0 7) (u 1) (u 2) (u 3) (u 4) (u 5) (u 6) (u 7) (u 8))) (kWi E R.1 (wModx E b R.2.1 (u 0 1) (u 0 2) (u 0 3) (u 0 4) (u 0 5) (u 0 6) (u 0 7) R.2.2.1 R.2.2.2 (u 3) (u 4) (u 5) (u 6) (u 7) (u 8)) (kA b 9)) 0 0 (kA b 9) := by
  refine Met.ofW (cc := cX6_read) (maxL := 4) (ret := (some .int)) (by decide) rfl ?_
  intro p e s m args below meth c s₁ B hml hv
  obtain ⟨rfl, hK, hP⟩ := hv
  have hx := B.exec
  have hb := B.bytes
  have hr := B.returns
  have hts := atoms_spec (ws := wsX6_read) B.pre
  have hown : s.vm.findClass RX6 = some m.cls := findClass_of_methodNamed B.named
  have hlocks := B.notSynchronized
  have hS : va_S (kA b 9) s.heap s.heap [] := va_S.rf
  have hP : va_P E.1 vwCl (wModx E b (u 0 0) (u 0 1) (u 0 2) (u 0 3) (u 0 4) (u 0 5) (u 0 6) (u 0 7) (u 1) (u 2) (u 3) (u 4) (u 5) (u 6) (u 7) (u 8)) s.heap := hP
  have hD := dMod (E := E) hj (u 0 0) (u 0 1) (u 0 2) (u 0 3) (u 0 4) (u 0 5) (u 0 6) (u 0 7) (u 1) (u 2) (u 3) (u 4) (u 5) (u 6) (u 7) (u 8)
  have hl := lv_entry ([.ref (b 0), .int x1, .int x2]) (n := 4) (Nat.le_of_ble_eq_true rfl)
  rw [lg_entry_eq]
  generalize (lg_sl ([.ref (b 0), .int x1, .int x2]) ++ List.replicate (4 - (lg_sl ([.ref (b 0), .int x1, .int x2])).length) Slot.unset).toArray = ls at hl ⊢
  have hl : lv_has ls 4 [(0, .ref (b 0)), (1, .int x1), (2, .int x2)] := hl
  replace hE := hE.trans mX6_read_s
  refine lv_aload_n hx hb dX6_read_0 rfl (lv_at hl 0 rfl) ?_
  refine lv_iload_n hx hb dX6_read_1 rfl (lv_at hl 1 rfl) ?_
  refine lv_iload_n hx hb dX6_read_2 rfl (lv_at hl 2 rfl) ?_
  refine kCallRi (va_runV (As := [.int x1, .int x2]) (rest := []) ⟨hx, hb, hml, hown, hts⟩ (c_X6_whyNotRead l E b u x1 x2 (by assumption) _ rfl) (cwV 2 hts gX6_read_X6_whyNotRead rfl rfl rfl (by decide +kernel) ⟨Nat.le_of_ble_eq_true rfl, Nat.le_of_ble_eq_true rfl⟩) (kPreV hK hP hP (q0 := 0) rfl rfl) rfl rfl hl.1 rfl (lv_room (Nat.le_of_ble_eq_true rfl)) dX6_read_3 ⟨Nat.zero_le _, Nat.zero_le _⟩) ?_
  refine lv_istore_n (lv' := [(3, .int (mX6_whyNotRead u x1 x2)), (0, .ref (b 0)), (1, .int x1), (2, .int x2)]) hx hb dX6_read_6 rfl hl (by decide) rfl (fun ls hl => ?_)
  refine lv_iload_n hx hb dX6_read_7 rfl (lv_at hl 0 rfl) ?_
  refine lv_if_ge (tgt := 13) hx hb dX6_read_8 (by decide) (fun c_1 => ?_) (fun c_1 => ?_)
  · replace hE := hE.trans (if_pos c_1)
    obtain ⟨ht, hk⟩ := wnr_ok hm c_1
    refine lv_aload_n hx hb dX6_read_13 rfl (lv_at hl 1 rfl) ?_
    refine kCallWv (va_runV (As := []) (rest := []) ⟨hx, hb, hml, hown, hts⟩ (c_X6_record l E b u hj (by first | assumption | exact tOK.nI (by omega)) _ rfl) (cwV 0 hts gX6_read_X6_record rfl rfl rfl (by decide +kernel) ⟨Nat.le_of_ble_eq_true rfl, Nat.le_of_ble_eq_true rfl⟩) (kPreV hK hP hP (q0 := 0) rfl rfl) rfl rfl hl.1 rfl (lv_room (Nat.le_of_ble_eq_true rfl)) dX6_read_14 ⟨Nat.zero_le _, Nat.zero_le _⟩) hS (fun _ h => h) (fun H locs hP _ _ hS => ?_)
    refine kGen (mX6_record u) (fun g_2 hg_2 => ?_)
    rw [hg_2] at hE hP
    try dsimp only at hE
    have hP : va_P E.1 vwCl (wModx E b (g_2.1) (u 0 1) (u 0 2) (u 0 3) (u 0 4) (u 0 5) (u 0 6) (u 0 7) (u 1) (g_2.2) (u 3) (u 4) (u 5) (u 6) (u 7) (u 8)) H := hP
    have hD := dMod (E := E) hj (g_2.1) (u 0 1) (u 0 2) (u 0 3) (u 0 4) (u 0 5) (u 0 6) (u 0 7) (u 1) (g_2.2) (u 3) (u 4) (u 5) (u 6) (u 7) (u 8)
    refine lv_aload_n hx hb dX6_read_17 rfl (lv_at hl 1 rfl) ?_
    refine lv_iload_n hx hb dX6_read_18 rfl (lv_at hl 2 rfl) ?_
    refine lv_iload_n hx hb dX6_read_19 rfl (lv_at hl 3 rfl) ?_
    refine kCallWi (va_runV (As := [.int x1, .int x2]) (rest := []) ⟨hx, hb, hml, hown, hts⟩ (c_X6_readOne l E b (rset (rset u 2 (g_2.2)) 0 (upd (u 0) 0 (g_2.1))) hj x1 x2 hm ht hk _ rfl) (cwV 2 hts gX6_read_X6_readOne rfl rfl rfl (by decide +kernel) ⟨Nat.le_of_ble_eq_true rfl, Nat.le_of_ble_eq_true rfl⟩) (kPreV hK hP hP (q0 := 0) rfl rfl) rfl rfl hl.1 rfl (lv_room (Nat.le_of_ble_eq_true rfl)) dX6_read_20 ⟨Nat.zero_le _, Nat.zero_le _⟩) hS (fun _ h => h) (fun H locs hP _ _ hS => ?_)
    refine kGen (mX6_readOne (rset (rset u 2 (g_2.2)) 0 (upd (u 0) 0 (g_2.1))) x1 x2) (fun g_3 hg_3 => ?_)
    rw [hg_3] at hE hP ⊢
    try dsimp only at hE
    have hP : va_P E.1 vwCl (wModx E b (g_2.1) (u 0 1) (u 0 2) (u 0 3) (u 0 4) (u 0 5) (u 0 6) (u 0 7) (g_3.2) (g_2.2) (u 3) (u 4) (u 5) (u 6) (u 7) (u 8)) H := hP
    have hD := dMod (E := E) hj (g_2.1) (u 0 1) (u 0 2) (u 0 3) (u 0 4) (u 0 5) (u 0 6) (u 0 7) (g_3.2) (g_2.2) (u 3) (u 4) (u 5) (u 6) (u 7) (u 8)
    subst R
    exact W.iret (v := (g_3.1)) hx hb hr (fun t ht hW => ⟨rfl, by rw [ht]; exact hP, hS.F ht⟩) hS.2.2 dX6_read_23
  · replace hE := hE.trans (if_neg c_1)
    refine lv_iload_n hx hb dX6_read_11 rfl (lv_at hl 0 rfl) ?_
    subst R
    exact W.iret (v := (mX6_whyNotRead u x1 x2)) hx hb hr (fun t ht hW => ⟨rfl, by rw [ht]; exact hP, hS.F ht⟩) hS.2.2 dX6_read_12
def mX6_whyNotWrite (u : kG) (x1 : Int32) (x2 : Int32) (x3 : Int32) : Int32 :=
  if (mX6_isTransaction u x1) = 0 then
    (-1)
  else
    if (mX6_isKey x2) = 0 then
      (-1)
    else
      if (mX6_in x3 0 999) = 0 then
        (-2)
      else
        if (mX6_isIn u x1 0) = 0 then
          (-5)
        else
          0
theorem mX6_whyNotWrite_s {u : kG} {x1 : Int32} {x2 : Int32} {x3 : Int32} : mX6_whyNotWrite u x1 x2 x3 = (
  if (mX6_isTransaction u x1) = 0 then
    (-1)
  else
    if (mX6_isKey x2) = 0 then
      (-1)
    else
      if (mX6_in x3 0 999) = 0 then
        (-2)
      else
        if (mX6_isIn u x1 0) = 0 then
          (-5)
        else
          0 : Int32) := rfl
set_option maxHeartbeats 400000 in
set_option maxRecDepth 100000 in
theorem c_X6_whyNotWrite (l : Launch) (E : kE) (b : Nat → Nat) (u : kG) (x1 : Int32) (x2 : Int32) (x3 : Int32) (hm : nOK (u 1 2)) (R : Int32) (hE : R = mX6_whyNotWrite u x1 x2 x3) : Met l yX6_whyNotWrite wsX6_whyNotWrite ({ frames := 2, cells := 0, slots := 0, locals := 44 }) (kPre E [.ref (b 0), .int x1, .int x2, .int x3] (wModx E b (u 0 0) (u 0 1) (u 0 2) (u 0 3) (u 0 4) (u 0 5) (u 0 6) (u 0 7) (u 1) (u 2) (u 3) (u 4) (u 5) (u 6) (u 7) (u 8))) (kRi R) 0 0 (fun _ => False) := by
  refine Met.ofW (cc := cX6_whyNotWrite) (maxL := 4) (ret := (some .int)) (by decide) rfl ?_
  intro p e s m args below meth c s₁ B hml hv
  obtain ⟨rfl, hK, hP⟩ := hv
  have hx := B.exec
  have hb := B.bytes
  have hr := B.returns
  have hts := atoms_spec (ws := wsX6_whyNotWrite) B.pre
  have hown : s.vm.findClass RX6 = some m.cls := findClass_of_methodNamed B.named
  have hlocks := B.notSynchronized
  have hP : va_P E.1 vwCl (wModx E b (u 0 0) (u 0 1) (u 0 2) (u 0 3) (u 0 4) (u 0 5) (u 0 6) (u 0 7) (u 1) (u 2) (u 3) (u 4) (u 5) (u 6) (u 7) (u 8)) s.heap := hP
  have hl := lv_entry ([.ref (b 0), .int x1, .int x2, .int x3]) (n := 4) (Nat.le_of_ble_eq_true rfl)
  rw [lg_entry_eq]
  generalize (lg_sl ([.ref (b 0), .int x1, .int x2, .int x3]) ++ List.replicate (4 - (lg_sl ([.ref (b 0), .int x1, .int x2, .int x3])).length) Slot.unset).toArray = ls at hl ⊢
  have hl : lv_has ls 4 [(0, .ref (b 0)), (1, .int x1), (2, .int x2), (3, .int x3)] := hl
  replace hE := hE.trans mX6_whyNotWrite_s
  refine lv_aload_n hx hb dX6_whyNotWrite_0 rfl (lv_at hl 0 rfl) ?_
  refine lv_iload_n hx hb dX6_whyNotWrite_1 rfl (lv_at hl 1 rfl) ?_
  refine kCallRi (va_runV (As := [.int x1]) (rest := []) ⟨hx, hb, hml, hown, hts⟩ (c_X6_isTransaction l E b u x1 _ rfl) (cwV 1 hts gX6_whyNotWrite_X6_isTransaction rfl rfl rfl (by decide +kernel) ⟨Nat.le_of_ble_eq_true rfl, Nat.le_of_ble_eq_true rfl⟩) (kPreV hK hP hP (q0 := 0) rfl rfl) rfl rfl hl.1 rfl (lv_room (Nat.le_of_ble_eq_true rfl)) dX6_whyNotWrite_2 ⟨Nat.zero_le _, Nat.zero_le _⟩) ?_
  refine lv_if_eq (tgt := 15) hx hb dX6_whyNotWrite_5 (by decide) (fun c_1 => ?_) (fun c_1 => ?_)
  · replace hE := hE.trans (if_pos c_1)
    refine lv_iconst (v := (-1)) hx hb dX6_whyNotWrite_15 (by decide) ?_
    subst R
    exact W.iret (v := (-1)) hx hb hr (fun t ht hW => ⟨rfl, ht⟩) (fun _ h => by cases h) dX6_whyNotWrite_16
  · replace hE := hE.trans (if_neg c_1)
    have hzc_1 := isTr_ok (by assumption) c_1
    refine lv_iload_n hx hb dX6_whyNotWrite_8 rfl (lv_at hl 2 rfl) ?_
    refine kCallRi (va_runS (As := [.int x2]) (rest := []) ⟨hx, hb, hml, hown, hts⟩ (c_X6_isKey l E x2 _ rfl) (va_cwS 1 hts gX6_whyNotWrite_X6_isKey rfl rfl rfl (by decide +kernel) ⟨Nat.le_of_ble_eq_true rfl, Nat.le_of_ble_eq_true rfl⟩) (kPreS hK kP0) rfl rfl hl.1 rfl (lv_room (Nat.le_of_ble_eq_true rfl)) dX6_whyNotWrite_9 ⟨Nat.zero_le _, Nat.zero_le _⟩) ?_
    refine lv_if_ne (tgt := 17) hx hb dX6_whyNotWrite_12 (by decide) (fun c_2 => ?_) (fun c_2 => ?_)
    · replace hE := hE.trans (if_neg c_2)
      have hzc_2 := in_key c_2
      refine lv_iload_n hx hb dX6_whyNotWrite_17 rfl (lv_at hl 3 rfl) ?_
      refine lv_iconst (v := 0) hx hb dX6_whyNotWrite_18 (by decide) ?_
      refine lv_sipush (v := 999) hx hb dX6_whyNotWrite_19 (by decide) ?_
      refine kCallRi (va_runS (As := [.int x3, .int 0, .int 999]) (rest := []) ⟨hx, hb, hml, hown, hts⟩ (c_X6_in l E x3 0 999 _ rfl) (va_cwS 3 hts gX6_whyNotWrite_X6_in rfl rfl rfl (by decide +kernel) ⟨Nat.le_of_ble_eq_true rfl, Nat.le_of_ble_eq_true rfl⟩) (kPreS hK kP0) rfl rfl hl.1 rfl (lv_room (Nat.le_of_ble_eq_true rfl)) dX6_whyNotWrite_22 ⟨Nat.zero_le _, Nat.zero_le _⟩) ?_
      refine lv_if_ne (tgt := 33) hx hb dX6_whyNotWrite_25 (by decide) (fun c_3 => ?_) (fun c_3 => ?_)
      · replace hE := hE.trans (if_neg c_3)
        refine lv_aload_n hx hb dX6_whyNotWrite_33 rfl (lv_at hl 0 rfl) ?_
        refine lv_iload_n hx hb dX6_whyNotWrite_34 rfl (lv_at hl 1 rfl) ?_
        refine lv_iconst (v := 0) hx hb dX6_whyNotWrite_35 (by decide) ?_
        refine kCallRi (va_runV (As := [.int x1, .int 0]) (rest := []) ⟨hx, hb, hml, hown, hts⟩ (c_X6_isIn l E b u x1 0 (by assumption) _ rfl) (cwV 2 hts gX6_whyNotWrite_X6_isIn rfl rfl rfl (by decide +kernel) ⟨Nat.le_of_ble_eq_true rfl, Nat.le_of_ble_eq_true rfl⟩) (kPreV hK hP hP (q0 := 0) rfl rfl) rfl rfl hl.1 rfl (lv_room (Nat.le_of_ble_eq_true rfl)) dX6_whyNotWrite_36 ⟨Nat.zero_le _, Nat.zero_le _⟩) ?_
        refine lv_if_eq (tgt := 46) hx hb dX6_whyNotWrite_39 (by decide) (fun c_4 => ?_) (fun c_4 => ?_)
        · replace hE := hE.trans (if_pos c_4)
          refine lv_bipush (v := (-5)) hx hb dX6_whyNotWrite_46 (by decide) ?_
          subst R
          exact W.iret (v := (-5)) hx hb hr (fun t ht hW => ⟨rfl, ht⟩) (fun _ h => by cases h) dX6_whyNotWrite_48
        · replace hE := hE.trans (if_neg c_4)
          refine lv_iconst (v := 0) hx hb dX6_whyNotWrite_42 (by decide) ?_
          refine lv_goto (tgt := 48) hx hb dX6_whyNotWrite_43 (by decide) ?_
          subst R
          exact W.iret (v := 0) hx hb hr (fun t ht hW => ⟨rfl, ht⟩) (fun _ h => by cases h) dX6_whyNotWrite_48
      · replace hE := hE.trans (if_pos c_3)
        refine lv_bipush (v := (-2)) hx hb dX6_whyNotWrite_28 (by decide) ?_
        refine lv_goto (tgt := 48) hx hb dX6_whyNotWrite_30 (by decide) ?_
        subst R
        exact W.iret (v := (-2)) hx hb hr (fun t ht hW => ⟨rfl, ht⟩) (fun _ h => by cases h) dX6_whyNotWrite_48
    · replace hE := hE.trans (if_pos c_2)
      refine lv_iconst (v := (-1)) hx hb dX6_whyNotWrite_15 (by decide) ?_
      subst R
      exact W.iret (v := (-1)) hx hb hr (fun t ht hW => ⟨rfl, ht⟩) (fun _ h => by cases h) dX6_whyNotWrite_16
theorem wnw_ok {u : kG} {t k x : Int32} (hm : nOK (u 1 2)) (c : 0 ≤ mX6_whyNotWrite u t k x) : tOK t ∧ yOK k := by
  unfold mX6_whyNotWrite at c
  by_cases h1 : mX6_isTransaction u t = 0
  · rw [if_pos h1] at c; exact absurd c (by decide)
  · rw [if_neg h1] at c
    by_cases h2 : mX6_isKey k = 0
    · rw [if_pos h2] at c; exact absurd c (by decide)
    · exact ⟨isTr_ok hm h1, in_key h2⟩
def mX6_writeOne (u : kG) (x1 : Int32) (x2 : Int32) (x3 : Int32) : Int32 × (Nat → Int32) :=
  (fun (g_1 : (Nat → Int32)) =>
    (fun (g_2 : (Nat → Int32)) =>
      ((mX6_its (rset u 1 g_2) x1 4), g_2))
      (mX6_lay (rset u 1 g_1) x1 (7 + x2) x3))
    (mX6_lay u x1 4 ((mX6_its u x1 4) ||| (1 <<< (x2 &&& 31))))
theorem mX6_writeOne_s {u : kG} {x1 : Int32} {x2 : Int32} {x3 : Int32} : mX6_writeOne u x1 x2 x3 = (
  (fun (g_1 : (Nat → Int32)) =>
    (fun (g_2 : (Nat → Int32)) =>
      ((mX6_its (rset u 1 g_2) x1 4), g_2))
      (mX6_lay (rset u 1 g_1) x1 (7 + x2) x3))
    (mX6_lay u x1 4 ((mX6_its u x1 4) ||| (1 <<< (x2 &&& 31)))) : Int32 × (Nat → Int32)) := rfl
set_option maxHeartbeats 400000 in
set_option maxRecDepth 100000 in
theorem c_X6_writeOne (l : Launch) (E : kE) (b : Nat → Nat) (u : kG) (hj : kInj b 9) (x1 : Int32) (x2 : Int32) (x3 : Int32) (ht : tOK x1) (hk : yOK x2) (R : Int32 × (Nat → Int32)) (hE : R = mX6_writeOne u x1 x2 x3) : Met l yX6_writeOne wsX6_writeOne ({ frames := 1, cells := 0, slots := 0, locals := 23 }) (kPre E [.ref (b 0), .int x1, .int x2, .int x3] (wModx E b (u 0 0) (u 0 1) (u 0 2) (u 0 3) (u 0 4) (u 0 5) (u 0 6) (u 0 7) (u 1) (u 2) (u 3) (u 4) (u 5) (u 6) (u 7) (u 8))) (kWi E R.1 (wModx E b (u 0 0) (u 0 1) (u 0 2) (u 0 3) (u 0 4) (u 0 5) (u 0 6) (u 0 7) R.2 (u 2) (u 3) (u 4) (u 5) (u 6) (u 7) (u 8)) (kA b 9)) 0 0 (kA b 9) := by
  refine Met.ofW (cc := cX6_writeOne) (maxL := 4) (ret := (some .int)) (by decide) rfl ?_
  intro p e s m args below meth c s₁ B hml hv
  obtain ⟨rfl, hK, hP⟩ := hv
  have hx := B.exec
  have hb := B.bytes
  have hr := B.returns
  have hts := atoms_spec (ws := wsX6_writeOne) B.pre
  have hown : s.vm.findClass RX6 = some m.cls := findClass_of_methodNamed B.named
  have hlocks := B.notSynchronized
  have hS : va_S (kA b 9) s.heap s.heap [] := va_S.rf
  have hP : va_P E.1 vwCl (wModx E b (u 0 0) (u 0 1) (u 0 2) (u 0 3) (u 0 4) (u 0 5) (u 0 6) (u 0 7) (u 1) (u 2) (u 3) (u 4) (u 5) (u 6) (u 7) (u 8)) s.heap := hP
  have hD := dMod (E := E) hj (u 0 0) (u 0 1) (u 0 2) (u 0 3) (u 0 4) (u 0 5) (u 0 6) (u 0 7) (u 1) (u 2) (u 3) (u 4) (u 5) (u 6) (u 7) (u 8)
  have hl := lv_entry ([.ref (b 0), .int x1, .int x2, .int x3]) (n := 4) (Nat.le_of_ble_eq_true rfl)
  rw [lg_entry_eq]
  generalize (lg_sl ([.ref (b 0), .int x1, .int x2, .int x3]) ++ List.replicate (4 - (lg_sl ([.ref (b 0), .int x1, .int x2, .int x3])).length) Slot.unset).toArray = ls at hl ⊢
  have hl : lv_has ls 4 [(0, .ref (b 0)), (1, .int x1), (2, .int x2), (3, .int x3)] := hl
  replace hE := hE.trans mX6_writeOne_s
  refine lv_aload_n hx hb dX6_writeOne_0 rfl (lv_at hl 0 rfl) ?_
  refine lv_iload_n hx hb dX6_writeOne_1 rfl (lv_at hl 1 rfl) ?_
  refine lv_iconst (v := 4) hx hb dX6_writeOne_2 (by decide) ?_
  refine lv_aload_n hx hb dX6_writeOne_3 rfl (lv_at hl 0 rfl) ?_
  refine lv_iload_n hx hb dX6_writeOne_4 rfl (lv_at hl 1 rfl) ?_
  refine lv_iconst (v := 4) hx hb dX6_writeOne_5 (by decide) ?_
  refine kCallRi (va_runV (As := [.int x1, .int 4]) (rest := [.int 4, .int x1, .ref (b 0)]) ⟨hx, hb, hml, hown, hts⟩ (c_X6_its l E b u x1 4 (by assumption) ⟨4, by decide, rfl⟩ _ rfl) (cwV 2 hts gX6_writeOne_X6_its rfl rfl rfl (by decide +kernel) ⟨Nat.le_of_ble_eq_true rfl, Nat.le_of_ble_eq_true rfl⟩) (kPreV hK hP hP (q0 := 0) rfl rfl) rfl rfl hl.1 rfl (lv_room (Nat.le_of_ble_eq_true rfl)) dX6_writeOne_6 ⟨Nat.zero_le _, Nat.zero_le _⟩) ?_
  refine lv_iconst (v := 1) hx hb dX6_writeOne_9 (by decide) ?_
  refine lv_iload_n hx hb dX6_writeOne_10 rfl (lv_at hl 2 rfl) ?_
  refine lv_ishl hx hb dX6_writeOne_11 ?_
  refine lv_ior hx hb dX6_writeOne_12 ?_
  refine kCallWv (va_runV (As := [.int x1, .int 4, .int ((mX6_its u x1 4) ||| (1 <<< (x2 &&& 31)))]) (rest := []) ⟨hx, hb, hml, hown, hts⟩ (c_X6_lay l E b u hj x1 4 ((mX6_its u x1 4) ||| (1 <<< (x2 &&& 31))) (by assumption) ⟨4, by decide, rfl⟩ _ rfl) (cwV 3 hts gX6_writeOne_X6_lay rfl rfl rfl (by decide +kernel) ⟨Nat.le_of_ble_eq_true rfl, Nat.le_of_ble_eq_true rfl⟩) (kPreV hK hP hP (q0 := 0) rfl rfl) rfl rfl hl.1 rfl (lv_room (Nat.le_of_ble_eq_true rfl)) dX6_writeOne_13 ⟨Nat.zero_le _, Nat.zero_le _⟩) hS (fun _ h => h) (fun H locs hP _ _ hS => ?_)
  refine kGen (mX6_lay u x1 4 ((mX6_its u x1 4) ||| (1 <<< (x2 &&& 31)))) (fun g_1 hg_1 => ?_)
  rw [hg_1] at hE hP
  try dsimp only at hE
  have hP : va_P E.1 vwCl (wModx E b (u 0 0) (u 0 1) (u 0 2) (u 0 3) (u 0 4) (u 0 5) (u 0 6) (u 0 7) g_1 (u 2) (u 3) (u 4) (u 5) (u 6) (u 7) (u 8)) H := hP
  have hD := dMod (E := E) hj (u 0 0) (u 0 1) (u 0 2) (u 0 3) (u 0 4) (u 0 5) (u 0 6) (u 0 7) g_1 (u 2) (u 3) (u 4) (u 5) (u 6) (u 7) (u 8)
  refine lv_aload_n hx hb dX6_writeOne_16 rfl (lv_at hl 0 rfl) ?_
  refine lv_iload_n hx hb dX6_writeOne_17 rfl (lv_at hl 1 rfl) ?_
  refine lv_bipush (v := 7) hx hb dX6_writeOne_18 (by decide) ?_
  refine lv_iload_n hx hb dX6_writeOne_20 rfl (lv_at hl 2 rfl) ?_
  refine lv_iadd hx hb dX6_writeOne_21 ?_
  refine lv_iload_n hx hb dX6_writeOne_22 rfl (lv_at hl 3 rfl) ?_
  refine kCallWv (va_runV (As := [.int x1, .int (7 + x2), .int x3]) (rest := []) ⟨hx, hb, hml, hown, hts⟩ (c_X6_lay l E b (rset u 1 g_1) hj x1 (7 + x2) x3 (by assumption) (wOK.val (by assumption)) _ rfl) (cwV 3 hts gX6_writeOne_X6_lay rfl rfl rfl (by decide +kernel) ⟨Nat.le_of_ble_eq_true rfl, Nat.le_of_ble_eq_true rfl⟩) (kPreV hK hP hP (q0 := 0) rfl rfl) rfl rfl hl.1 rfl (lv_room (Nat.le_of_ble_eq_true rfl)) dX6_writeOne_23 ⟨Nat.zero_le _, Nat.zero_le _⟩) hS (fun _ h => h) (fun H locs hP _ _ hS => ?_)
  refine kGen (mX6_lay (rset u 1 g_1) x1 (7 + x2) x3) (fun g_2 hg_2 => ?_)
  rw [hg_2] at hE hP
  try dsimp only at hE
  have hP : va_P E.1 vwCl (wModx E b (u 0 0) (u 0 1) (u 0 2) (u 0 3) (u 0 4) (u 0 5) (u 0 6) (u 0 7) g_2 (u 2) (u 3) (u 4) (u 5) (u 6) (u 7) (u 8)) H := hP
  have hD := dMod (E := E) hj (u 0 0) (u 0 1) (u 0 2) (u 0 3) (u 0 4) (u 0 5) (u 0 6) (u 0 7) g_2 (u 2) (u 3) (u 4) (u 5) (u 6) (u 7) (u 8)
  refine lv_aload_n hx hb dX6_writeOne_26 rfl (lv_at hl 0 rfl) ?_
  refine lv_iload_n hx hb dX6_writeOne_27 rfl (lv_at hl 1 rfl) ?_
  refine lv_iconst (v := 4) hx hb dX6_writeOne_28 (by decide) ?_
  refine kCallRi (va_runV (As := [.int x1, .int 4]) (rest := []) ⟨hx, hb, hml, hown, hts⟩ (c_X6_its l E b (rset u 1 g_2) x1 4 (by assumption) ⟨4, by decide, rfl⟩ _ rfl) (cwV 2 hts gX6_writeOne_X6_its rfl rfl rfl (by decide +kernel) ⟨Nat.le_of_ble_eq_true rfl, Nat.le_of_ble_eq_true rfl⟩) (kPreV hK hP hP (q0 := 0) rfl rfl) rfl rfl hl.1 rfl (lv_room (Nat.le_of_ble_eq_true rfl)) dX6_writeOne_29 ⟨Nat.zero_le _, Nat.zero_le _⟩) ?_
  subst R
  exact W.iret (v := (mX6_its (rset u 1 g_2) x1 4)) hx hb hr (fun t ht hW => ⟨rfl, by rw [ht]; exact hP, hS.F ht⟩) hS.2.2 dX6_writeOne_32
theorem writeOne_n {u : kG} {x1 x2 x3 : Int32} (hm : nOK (u 1 2)) (ht : tOK x1) (hk : yOK x2) : nOK ((mX6_writeOne u x1 x2 x3).2 2) := by
  rw [mX6_writeOne_s]
  have hz1 : nOK ((mX6_lay u x1 4 ((mX6_its u x1 4) ||| (1 <<< (x2 &&& 31)))) 2) := lay_n (u := u) hm ht ⟨4, by decide, rfl⟩
  refine kGen (mX6_lay u x1 4 ((mX6_its u x1 4) ||| (1 <<< (x2 &&& 31)))) (fun g_1 eg_1 => ?_)
  rewrite [eg_1] at hz1
  try rewrite [eg_1]
  try dsimp only
  have hz2 : nOK ((mX6_lay (rset u 1 g_1) x1 (7 + x2) x3) 2) := lay_n (u := (rset u 1 g_1)) hz1 ht (wOK.val hk)
  refine kGen (mX6_lay (rset u 1 g_1) x1 (7 + x2) x3) (fun g_2 eg_2 => ?_)
  rewrite [eg_2] at hz2
  try rewrite [eg_2]
  try dsimp only
  exact hz2
def mX6_write (u : kG) (x1 : Int32) (x2 : Int32) (x3 : Int32) : Int32 × Int32 × (Nat → Int32) × (Nat → Int32) :=
  if 0 ≤ (mX6_whyNotWrite u x1 x2 x3) then
    (fun (g_2 : Int32 × (Nat → Int32)) =>
      (fun (g_3 : Int32 × (Nat → Int32)) =>
        ((g_3.1), (g_2.1), (g_3.2), (g_2.2)))
        (mX6_writeOne (rset (rset u 2 (g_2.2)) 0 (upd (u 0) 0 (g_2.1))) x1 x2 x3))
      (mX6_record u)
  else
    ((mX6_whyNotWrite u x1 x2 x3), (u 0 0), (u 1), (u 2))
theorem mX6_write_s {u : kG} {x1 : Int32} {x2 : Int32} {x3 : Int32} : mX6_write u x1 x2 x3 = (
  if 0 ≤ (mX6_whyNotWrite u x1 x2 x3) then
    (fun (g_2 : Int32 × (Nat → Int32)) =>
      (fun (g_3 : Int32 × (Nat → Int32)) =>
        ((g_3.1), (g_2.1), (g_3.2), (g_2.2)))
        (mX6_writeOne (rset (rset u 2 (g_2.2)) 0 (upd (u 0) 0 (g_2.1))) x1 x2 x3))
      (mX6_record u)
  else
    ((mX6_whyNotWrite u x1 x2 x3), (u 0 0), (u 1), (u 2)) : Int32 × Int32 × (Nat → Int32) × (Nat → Int32)) := rfl
set_option maxHeartbeats 400000 in
set_option maxRecDepth 100000 in
theorem c_X6_write (l : Launch) (E : kE) (b : Nat → Nat) (u : kG) (hj : kInj b 9) (x1 : Int32) (x2 : Int32) (x3 : Int32) (hm : nOK (u 1 2)) (hpm : bOK 6 (u 0 0)) (R : Int32 × Int32 × (Nat → Int32) × (Nat → Int32)) (hE : R = mX6_write u x1 x2 x3) : Met l yX6_write wsX6_write ({ frames := 3, cells := 0, slots := 0, locals := 67 }) (kPre E [.ref (b 0), .int x1, .int x2, .int x3] (wModx E b (u 0 0) (u 0 1) (u 0 2) (u 0 3) (u 0 4) (u 0 5) (u 0 6) (u 0 7) (u 1) (u 2) (u 3) (u 4) (u 5) (u 6) (u 7) (u 8))) (kWi E R.1 (wModx E b R.2.1 (u 0 1) (u 0 2) (u 0 3) (u 0 4) (u 0 5) (u 0 6) (u 0 7) R.2.2.1 R.2.2.2 (u 3) (u 4) (u 5) (u 6) (u 7) (u 8)) (kA b 9)) 0 0 (kA b 9) := by
  refine Met.ofW (cc := cX6_write) (maxL := 5) (ret := (some .int)) (by decide) rfl ?_
  intro p e s m args below meth c s₁ B hml hv
  obtain ⟨rfl, hK, hP⟩ := hv
  have hx := B.exec
  have hb := B.bytes
  have hr := B.returns
  have hts := atoms_spec (ws := wsX6_write) B.pre
  have hown : s.vm.findClass RX6 = some m.cls := findClass_of_methodNamed B.named
  have hlocks := B.notSynchronized
  have hS : va_S (kA b 9) s.heap s.heap [] := va_S.rf
  have hP : va_P E.1 vwCl (wModx E b (u 0 0) (u 0 1) (u 0 2) (u 0 3) (u 0 4) (u 0 5) (u 0 6) (u 0 7) (u 1) (u 2) (u 3) (u 4) (u 5) (u 6) (u 7) (u 8)) s.heap := hP
  have hD := dMod (E := E) hj (u 0 0) (u 0 1) (u 0 2) (u 0 3) (u 0 4) (u 0 5) (u 0 6) (u 0 7) (u 1) (u 2) (u 3) (u 4) (u 5) (u 6) (u 7) (u 8)
  have hl := lv_entry ([.ref (b 0), .int x1, .int x2, .int x3]) (n := 5) (Nat.le_of_ble_eq_true rfl)
  rw [lg_entry_eq]
  generalize (lg_sl ([.ref (b 0), .int x1, .int x2, .int x3]) ++ List.replicate (5 - (lg_sl ([.ref (b 0), .int x1, .int x2, .int x3])).length) Slot.unset).toArray = ls at hl ⊢
  have hl : lv_has ls 5 [(0, .ref (b 0)), (1, .int x1), (2, .int x2), (3, .int x3)] := hl
  replace hE := hE.trans mX6_write_s
  refine lv_aload_n hx hb dX6_write_0 rfl (lv_at hl 0 rfl) ?_
  refine lv_iload_n hx hb dX6_write_1 rfl (lv_at hl 1 rfl) ?_
  refine lv_iload_n hx hb dX6_write_2 rfl (lv_at hl 2 rfl) ?_
  refine lv_iload_n hx hb dX6_write_3 rfl (lv_at hl 3 rfl) ?_
  refine kCallRi (va_runV (As := [.int x1, .int x2, .int x3]) (rest := []) ⟨hx, hb, hml, hown, hts⟩ (c_X6_whyNotWrite l E b u x1 x2 x3 (by assumption) _ rfl) (cwV 3 hts gX6_write_X6_whyNotWrite rfl rfl rfl (by decide +kernel) ⟨Nat.le_of_ble_eq_true rfl, Nat.le_of_ble_eq_true rfl⟩) (kPreV hK hP hP (q0 := 0) rfl rfl) rfl rfl hl.1 rfl (lv_room (Nat.le_of_ble_eq_true rfl)) dX6_write_4 ⟨Nat.zero_le _, Nat.zero_le _⟩) ?_
  refine lv_istore (lv' := [(4, .int (mX6_whyNotWrite u x1 x2 x3)), (0, .ref (b 0)), (1, .int x1), (2, .int x2), (3, .int x3)]) hx hb dX6_write_7 hl (by decide) rfl (fun ls hl => ?_)
  refine lv_iload hx hb dX6_write_9 (lv_at hl 0 rfl) ?_
  refine lv_if_ge (tgt := 17) hx hb dX6_write_11 (by decide) (fun c_1 => ?_) (fun c_1 => ?_)
  · replace hE := hE.trans (if_pos c_1)
    obtain ⟨ht, hk⟩ := wnw_ok hm c_1
    refine lv_aload_n hx hb dX6_write_17 rfl (lv_at hl 1 rfl) ?_
    refine kCallWv (va_runV (As := []) (rest := []) ⟨hx, hb, hml, hown, hts⟩ (c_X6_record l E b u hj (by first | assumption | exact tOK.nI (by omega)) _ rfl) (cwV 0 hts gX6_write_X6_record rfl rfl rfl (by decide +kernel) ⟨Nat.le_of_ble_eq_true rfl, Nat.le_of_ble_eq_true rfl⟩) (kPreV hK hP hP (q0 := 0) rfl rfl) rfl rfl hl.1 rfl (lv_room (Nat.le_of_ble_eq_true rfl)) dX6_write_18 ⟨Nat.zero_le _, Nat.zero_le _⟩) hS (fun _ h => h) (fun H locs hP _ _ hS => ?_)
    refine kGen (mX6_record u) (fun g_2 hg_2 => ?_)
    rw [hg_2] at hE hP
    try dsimp only at hE
    have hP : va_P E.1 vwCl (wModx E b (g_2.1) (u 0 1) (u 0 2) (u 0 3) (u 0 4) (u 0 5) (u 0 6) (u 0 7) (u 1) (g_2.2) (u 3) (u 4) (u 5) (u 6) (u 7) (u 8)) H := hP
    have hD := dMod (E := E) hj (g_2.1) (u 0 1) (u 0 2) (u 0 3) (u 0 4) (u 0 5) (u 0 6) (u 0 7) (u 1) (g_2.2) (u 3) (u 4) (u 5) (u 6) (u 7) (u 8)
    refine lv_aload_n hx hb dX6_write_21 rfl (lv_at hl 1 rfl) ?_
    refine lv_iload_n hx hb dX6_write_22 rfl (lv_at hl 2 rfl) ?_
    refine lv_iload_n hx hb dX6_write_23 rfl (lv_at hl 3 rfl) ?_
    refine lv_iload_n hx hb dX6_write_24 rfl (lv_at hl 4 rfl) ?_
    refine kCallWi (va_runV (As := [.int x1, .int x2, .int x3]) (rest := []) ⟨hx, hb, hml, hown, hts⟩ (c_X6_writeOne l E b (rset (rset u 2 (g_2.2)) 0 (upd (u 0) 0 (g_2.1))) hj x1 x2 x3 ht hk _ rfl) (cwV 3 hts gX6_write_X6_writeOne rfl rfl rfl (by decide +kernel) ⟨Nat.le_of_ble_eq_true rfl, Nat.le_of_ble_eq_true rfl⟩) (kPreV hK hP hP (q0 := 0) rfl rfl) rfl rfl hl.1 rfl (lv_room (Nat.le_of_ble_eq_true rfl)) dX6_write_25 ⟨Nat.zero_le _, Nat.zero_le _⟩) hS (fun _ h => h) (fun H locs hP _ _ hS => ?_)
    refine kGen (mX6_writeOne (rset (rset u 2 (g_2.2)) 0 (upd (u 0) 0 (g_2.1))) x1 x2 x3) (fun g_3 hg_3 => ?_)
    rw [hg_3] at hE hP ⊢
    try dsimp only at hE
    have hP : va_P E.1 vwCl (wModx E b (g_2.1) (u 0 1) (u 0 2) (u 0 3) (u 0 4) (u 0 5) (u 0 6) (u 0 7) (g_3.2) (g_2.2) (u 3) (u 4) (u 5) (u 6) (u 7) (u 8)) H := hP
    have hD := dMod (E := E) hj (g_2.1) (u 0 1) (u 0 2) (u 0 3) (u 0 4) (u 0 5) (u 0 6) (u 0 7) (g_3.2) (g_2.2) (u 3) (u 4) (u 5) (u 6) (u 7) (u 8)
    subst R
    exact W.iret (v := (g_3.1)) hx hb hr (fun t ht hW => ⟨rfl, by rw [ht]; exact hP, hS.F ht⟩) hS.2.2 dX6_write_28
  · replace hE := hE.trans (if_neg c_1)
    refine lv_iload hx hb dX6_write_14 (lv_at hl 0 rfl) ?_
    subst R
    exact W.iret (v := (mX6_whyNotWrite u x1 x2 x3)) hx hb hr (fun t ht hW => ⟨rfl, by rw [ht]; exact hP, hS.F ht⟩) hS.2.2 dX6_write_16
def mX6_whyNotEnd (u : kG) (x1 : Int32) : Int32 :=
  if (mX6_isTransaction u x1) = 0 then
    (-1)
  else
    if (mX6_isIn u x1 0) = 0 then
      (-5)
    else
      0
theorem mX6_whyNotEnd_s {u : kG} {x1 : Int32} : mX6_whyNotEnd u x1 = (
  if (mX6_isTransaction u x1) = 0 then
    (-1)
  else
    if (mX6_isIn u x1 0) = 0 then
      (-5)
    else
      0 : Int32) := rfl
set_option maxHeartbeats 400000 in
set_option maxRecDepth 100000 in
theorem c_X6_whyNotEnd (l : Launch) (E : kE) (b : Nat → Nat) (u : kG) (x1 : Int32) (hm : nOK (u 1 2)) (R : Int32) (hE : R = mX6_whyNotEnd u x1) : Met l yX6_whyNotEnd wsX6_whyNotEnd ({ frames := 2, cells := 0, slots := 0, locals := 44 }) (kPre E [.ref (b 0), .int x1] (wModx E b (u 0 0) (u 0 1) (u 0 2) (u 0 3) (u 0 4) (u 0 5) (u 0 6) (u 0 7) (u 1) (u 2) (u 3) (u 4) (u 5) (u 6) (u 7) (u 8))) (kRi R) 0 0 (fun _ => False) := by
  refine Met.ofW (cc := cX6_whyNotEnd) (maxL := 2) (ret := (some .int)) (by decide) rfl ?_
  intro p e s m args below meth c s₁ B hml hv
  obtain ⟨rfl, hK, hP⟩ := hv
  have hx := B.exec
  have hb := B.bytes
  have hr := B.returns
  have hts := atoms_spec (ws := wsX6_whyNotEnd) B.pre
  have hown : s.vm.findClass RX6 = some m.cls := findClass_of_methodNamed B.named
  have hlocks := B.notSynchronized
  have hP : va_P E.1 vwCl (wModx E b (u 0 0) (u 0 1) (u 0 2) (u 0 3) (u 0 4) (u 0 5) (u 0 6) (u 0 7) (u 1) (u 2) (u 3) (u 4) (u 5) (u 6) (u 7) (u 8)) s.heap := hP
  have hl := lv_entry ([.ref (b 0), .int x1]) (n := 2) (Nat.le_of_ble_eq_true rfl)
  rw [lg_entry_eq]
  generalize (lg_sl ([.ref (b 0), .int x1]) ++ List.replicate (2 - (lg_sl ([.ref (b 0), .int x1])).length) Slot.unset).toArray = ls at hl ⊢
  have hl : lv_has ls 2 [(0, .ref (b 0)), (1, .int x1)] := hl
  replace hE := hE.trans mX6_whyNotEnd_s
  refine lv_aload_n hx hb dX6_whyNotEnd_0 rfl (lv_at hl 0 rfl) ?_
  refine lv_iload_n hx hb dX6_whyNotEnd_1 rfl (lv_at hl 1 rfl) ?_
  refine kCallRi (va_runV (As := [.int x1]) (rest := []) ⟨hx, hb, hml, hown, hts⟩ (c_X6_isTransaction l E b u x1 _ rfl) (cwV 1 hts gX6_whyNotEnd_X6_isTransaction rfl rfl rfl (by decide +kernel) ⟨Nat.le_of_ble_eq_true rfl, Nat.le_of_ble_eq_true rfl⟩) (kPreV hK hP hP (q0 := 0) rfl rfl) rfl rfl hl.1 rfl (lv_room (Nat.le_of_ble_eq_true rfl)) dX6_whyNotEnd_2 ⟨Nat.zero_le _, Nat.zero_le _⟩) ?_
  refine lv_if_ne (tgt := 12) hx hb dX6_whyNotEnd_5 (by decide) (fun c_1 => ?_) (fun c_1 => ?_)
  · replace hE := hE.trans (if_neg c_1)
    have hzc_1 := isTr_ok (by assumption) c_1
    refine lv_aload_n hx hb dX6_whyNotEnd_12 rfl (lv_at hl 0 rfl) ?_
    refine lv_iload_n hx hb dX6_whyNotEnd_13 rfl (lv_at hl 1 rfl) ?_
    refine lv_iconst (v := 0) hx hb dX6_whyNotEnd_14 (by decide) ?_
    refine kCallRi (va_runV (As := [.int x1, .int 0]) (rest := []) ⟨hx, hb, hml, hown, hts⟩ (c_X6_isIn l E b u x1 0 (by assumption) _ rfl) (cwV 2 hts gX6_whyNotEnd_X6_isIn rfl rfl rfl (by decide +kernel) ⟨Nat.le_of_ble_eq_true rfl, Nat.le_of_ble_eq_true rfl⟩) (kPreV hK hP hP (q0 := 0) rfl rfl) rfl rfl hl.1 rfl (lv_room (Nat.le_of_ble_eq_true rfl)) dX6_whyNotEnd_15 ⟨Nat.zero_le _, Nat.zero_le _⟩) ?_
    refine lv_if_eq (tgt := 25) hx hb dX6_whyNotEnd_18 (by decide) (fun c_2 => ?_) (fun c_2 => ?_)
    · replace hE := hE.trans (if_pos c_2)
      refine lv_bipush (v := (-5)) hx hb dX6_whyNotEnd_25 (by decide) ?_
      subst R
      exact W.iret (v := (-5)) hx hb hr (fun t ht hW => ⟨rfl, ht⟩) (fun _ h => by cases h) dX6_whyNotEnd_27
    · replace hE := hE.trans (if_neg c_2)
      refine lv_iconst (v := 0) hx hb dX6_whyNotEnd_21 (by decide) ?_
      refine lv_goto (tgt := 27) hx hb dX6_whyNotEnd_22 (by decide) ?_
      subst R
      exact W.iret (v := 0) hx hb hr (fun t ht hW => ⟨rfl, ht⟩) (fun _ h => by cases h) dX6_whyNotEnd_27
  · replace hE := hE.trans (if_pos c_1)
    refine lv_iconst (v := (-1)) hx hb dX6_whyNotEnd_8 (by decide) ?_
    refine lv_goto (tgt := 27) hx hb dX6_whyNotEnd_9 (by decide) ?_
    subst R
    exact W.iret (v := (-1)) hx hb hr (fun t ht hW => ⟨rfl, ht⟩) (fun _ h => by cases h) dX6_whyNotEnd_27
theorem wne_ok {u : kG} {t : Int32} (hm : nOK (u 1 2)) (c : 0 ≤ mX6_whyNotEnd u t) : tOK t := by
  unfold mX6_whyNotEnd at c
  by_cases h1 : mX6_isTransaction u t = 0
  · rw [if_pos h1] at c; exact absurd c (by decide)
  · exact isTr_ok hm h1
def mX6_abortOne (u : kG) (x1 : Int32) (x2 : Int32) : (Nat → Int32) :=
  (fun (g_1 : (Nat → Int32)) =>
    (fun (g_2 : (Nat → Int32)) =>
      g_2)
      (mX6_lay (rset u 1 g_1) x1 5 x2))
    (mX6_lay u x1 0 2)
theorem mX6_abortOne_s {u : kG} {x1 : Int32} {x2 : Int32} : mX6_abortOne u x1 x2 = (
  (fun (g_1 : (Nat → Int32)) =>
    (fun (g_2 : (Nat → Int32)) =>
      g_2)
      (mX6_lay (rset u 1 g_1) x1 5 x2))
    (mX6_lay u x1 0 2) : (Nat → Int32)) := rfl
set_option maxHeartbeats 400000 in
set_option maxRecDepth 100000 in
theorem c_X6_abortOne (l : Launch) (E : kE) (b : Nat → Nat) (u : kG) (hj : kInj b 9) (x1 : Int32) (x2 : Int32) (ht : tOK x1) (R : (Nat → Int32)) (hE : R = mX6_abortOne u x1 x2) : Met l yX6_abortOne wsX6_abortOne ({ frames := 1, cells := 0, slots := 0, locals := 23 }) (kPre E [.ref (b 0), .int x1, .int x2] (wModx E b (u 0 0) (u 0 1) (u 0 2) (u 0 3) (u 0 4) (u 0 5) (u 0 6) (u 0 7) (u 1) (u 2) (u 3) (u 4) (u 5) (u 6) (u 7) (u 8))) (kWv E (wModx E b (u 0 0) (u 0 1) (u 0 2) (u 0 3) (u 0 4) (u 0 5) (u 0 6) (u 0 7) R (u 2) (u 3) (u 4) (u 5) (u 6) (u 7) (u 8)) (kA b 9)) 0 0 (kA b 9) := by
  refine Met.ofW (cc := cX6_abortOne) (maxL := 3) (ret := none) (by decide) rfl ?_
  intro p e s m args below meth c s₁ B hml hv
  obtain ⟨rfl, hK, hP⟩ := hv
  have hx := B.exec
  have hb := B.bytes
  have hr := B.returns
  have hts := atoms_spec (ws := wsX6_abortOne) B.pre
  have hown : s.vm.findClass RX6 = some m.cls := findClass_of_methodNamed B.named
  have hlocks := B.notSynchronized
  have hS : va_S (kA b 9) s.heap s.heap [] := va_S.rf
  have hP : va_P E.1 vwCl (wModx E b (u 0 0) (u 0 1) (u 0 2) (u 0 3) (u 0 4) (u 0 5) (u 0 6) (u 0 7) (u 1) (u 2) (u 3) (u 4) (u 5) (u 6) (u 7) (u 8)) s.heap := hP
  have hD := dMod (E := E) hj (u 0 0) (u 0 1) (u 0 2) (u 0 3) (u 0 4) (u 0 5) (u 0 6) (u 0 7) (u 1) (u 2) (u 3) (u 4) (u 5) (u 6) (u 7) (u 8)
  have hl := lv_entry ([.ref (b 0), .int x1, .int x2]) (n := 3) (Nat.le_of_ble_eq_true rfl)
  rw [lg_entry_eq]
  generalize (lg_sl ([.ref (b 0), .int x1, .int x2]) ++ List.replicate (3 - (lg_sl ([.ref (b 0), .int x1, .int x2])).length) Slot.unset).toArray = ls at hl ⊢
  have hl : lv_has ls 3 [(0, .ref (b 0)), (1, .int x1), (2, .int x2)] := hl
  replace hE := hE.trans mX6_abortOne_s
  refine lv_aload_n hx hb dX6_abortOne_0 rfl (lv_at hl 0 rfl) ?_
  refine lv_iload_n hx hb dX6_abortOne_1 rfl (lv_at hl 1 rfl) ?_
  refine lv_iconst (v := 0) hx hb dX6_abortOne_2 (by decide) ?_
  refine lv_iconst (v := 2) hx hb dX6_abortOne_3 (by decide) ?_
  refine kCallWv (va_runV (As := [.int x1, .int 0, .int 2]) (rest := []) ⟨hx, hb, hml, hown, hts⟩ (c_X6_lay l E b u hj x1 0 2 (by assumption) ⟨0, by decide, rfl⟩ _ rfl) (cwV 3 hts gX6_abortOne_X6_lay rfl rfl rfl (by decide +kernel) ⟨Nat.le_of_ble_eq_true rfl, Nat.le_of_ble_eq_true rfl⟩) (kPreV hK hP hP (q0 := 0) rfl rfl) rfl rfl hl.1 rfl (lv_room (Nat.le_of_ble_eq_true rfl)) dX6_abortOne_4 ⟨Nat.zero_le _, Nat.zero_le _⟩) hS (fun _ h => h) (fun H locs hP _ _ hS => ?_)
  refine kGen (mX6_lay u x1 0 2) (fun g_1 hg_1 => ?_)
  rw [hg_1] at hE hP
  try dsimp only at hE
  have hP : va_P E.1 vwCl (wModx E b (u 0 0) (u 0 1) (u 0 2) (u 0 3) (u 0 4) (u 0 5) (u 0 6) (u 0 7) g_1 (u 2) (u 3) (u 4) (u 5) (u 6) (u 7) (u 8)) H := hP
  have hD := dMod (E := E) hj (u 0 0) (u 0 1) (u 0 2) (u 0 3) (u 0 4) (u 0 5) (u 0 6) (u 0 7) g_1 (u 2) (u 3) (u 4) (u 5) (u 6) (u 7) (u 8)
  refine lv_aload_n hx hb dX6_abortOne_7 rfl (lv_at hl 0 rfl) ?_
  refine lv_iload_n hx hb dX6_abortOne_8 rfl (lv_at hl 1 rfl) ?_
  refine lv_iconst (v := 5) hx hb dX6_abortOne_9 (by decide) ?_
  refine lv_iload_n hx hb dX6_abortOne_10 rfl (lv_at hl 2 rfl) ?_
  refine kCallWv (va_runV (As := [.int x1, .int 5, .int x2]) (rest := []) ⟨hx, hb, hml, hown, hts⟩ (c_X6_lay l E b (rset u 1 g_1) hj x1 5 x2 (by assumption) ⟨5, by decide, rfl⟩ _ rfl) (cwV 3 hts gX6_abortOne_X6_lay rfl rfl rfl (by decide +kernel) ⟨Nat.le_of_ble_eq_true rfl, Nat.le_of_ble_eq_true rfl⟩) (kPreV hK hP hP (q0 := 0) rfl rfl) rfl rfl hl.1 rfl (lv_room (Nat.le_of_ble_eq_true rfl)) dX6_abortOne_11 ⟨Nat.zero_le _, Nat.zero_le _⟩) hS (fun _ h => h) (fun H locs hP _ _ hS => ?_)
  refine kGen (mX6_lay (rset u 1 g_1) x1 5 x2) (fun g_2 hg_2 => ?_)
  rw [hg_2] at hE hP
  try dsimp only at hE
  have hP : va_P E.1 vwCl (wModx E b (u 0 0) (u 0 1) (u 0 2) (u 0 3) (u 0 4) (u 0 5) (u 0 6) (u 0 7) g_2 (u 2) (u 3) (u 4) (u 5) (u 6) (u 7) (u 8)) H := hP
  have hD := dMod (E := E) hj (u 0 0) (u 0 1) (u 0 2) (u 0 3) (u 0 4) (u 0 5) (u 0 6) (u 0 7) g_2 (u 2) (u 3) (u 4) (u 5) (u 6) (u 7) (u 8)
  subst R
  exact W.vret hx hb hr (fun t ht hW => ⟨rfl, by rw [ht]; exact hP, hS.F ht⟩) hS.2.2 dX6_abortOne_14
theorem abortOne_n {u : kG} {t r : Int32} (hm : nOK (u 1 2)) (ht : tOK t) : nOK (mX6_abortOne u t r 2) :=
  lay_n (u := rset u 1 (mX6_lay u t 0 2)) (lay_n hm ht ⟨0, by decide, rfl⟩) ht ⟨5, by decide, rfl⟩
def mX6_commitOne (u : kG) (x1 : Int32) : Int32 × Int32 × Int32 × Int32 × (Nat → Int32) :=
  (fun (g_1 : Int32 × Int32 × Int32 × Int32 × (Nat → Int32)) =>
    if (g_1.1) ≤ 0 then
      (fun (g_3 : (Nat → Int32)) =>
        (fun (g_4 : (Nat → Int32)) =>
          ((g_1.1), (g_1.2.1), (g_1.2.2.1), (g_1.2.2.2.1), g_4))
          (mX6_lay (rset (rset u 1 g_3) 0 (upd (upd (upd (u 0) 2 (g_1.2.1)) 3 (g_1.2.2.1)) 4 (g_1.2.2.2.1))) x1 2 (g_3 1)))
        (mX6_lay (rset (rset u 1 (upd (g_1.2.2.2.2) 1 (((g_1.2.2.2.2) 1) + 1))) 0 (upd (upd (upd (u 0) 2 (g_1.2.1)) 3 (g_1.2.2.1)) 4 (g_1.2.2.2.1))) x1 0 1)
    else
      (fun (g_5 : (Nat → Int32)) =>
        ((g_1.1), (g_1.2.1), (g_1.2.2.1), (g_1.2.2.2.1), g_5))
        (mX6_abortOne (rset (rset u 1 (g_1.2.2.2.2)) 0 (upd (upd (upd (u 0) 2 (g_1.2.1)) 3 (g_1.2.2.1)) 4 (g_1.2.2.2.1))) x1 (g_1.1)))
    (mX6_reasonFor u x1 ((u 1) 0))
theorem mX6_commitOne_s {u : kG} {x1 : Int32} : mX6_commitOne u x1 = (
  (fun (g_1 : Int32 × Int32 × Int32 × Int32 × (Nat → Int32)) =>
    if (g_1.1) ≤ 0 then
      (fun (g_3 : (Nat → Int32)) =>
        (fun (g_4 : (Nat → Int32)) =>
          ((g_1.1), (g_1.2.1), (g_1.2.2.1), (g_1.2.2.2.1), g_4))
          (mX6_lay (rset (rset u 1 g_3) 0 (upd (upd (upd (u 0) 2 (g_1.2.1)) 3 (g_1.2.2.1)) 4 (g_1.2.2.2.1))) x1 2 (g_3 1)))
        (mX6_lay (rset (rset u 1 (upd (g_1.2.2.2.2) 1 (((g_1.2.2.2.2) 1) + 1))) 0 (upd (upd (upd (u 0) 2 (g_1.2.1)) 3 (g_1.2.2.1)) 4 (g_1.2.2.2.1))) x1 0 1)
    else
      (fun (g_5 : (Nat → Int32)) =>
        ((g_1.1), (g_1.2.1), (g_1.2.2.1), (g_1.2.2.2.1), g_5))
        (mX6_abortOne (rset (rset u 1 (g_1.2.2.2.2)) 0 (upd (upd (upd (u 0) 2 (g_1.2.1)) 3 (g_1.2.2.1)) 4 (g_1.2.2.2.1))) x1 (g_1.1)))
    (mX6_reasonFor u x1 ((u 1) 0)) : Int32 × Int32 × Int32 × Int32 × (Nat → Int32)) := rfl
set_option maxHeartbeats 400000 in
set_option maxRecDepth 100000 in
theorem c_X6_commitOne (l : Launch) (E : kE) (b : Nat → Nat) (u : kG) (hj : kInj b 9) (x1 : Int32) (hm : nOK (u 1 2)) (ht : tOK x1) (R : Int32 × Int32 × Int32 × Int32 × (Nat → Int32)) (hE : R = mX6_commitOne u x1) : Met l yX6_commitOne wsX6_commitOne ({ frames := 8, cells := 0, slots := 0, locals := 183 }) (kPre E [.ref (b 0), .int x1] (wModx E b (u 0 0) (u 0 1) (u 0 2) (u 0 3) (u 0 4) (u 0 5) (u 0 6) (u 0 7) (u 1) (u 2) (u 3) (u 4) (u 5) (u 6) (u 7) (u 8))) (kWi E R.1 (wModx E b (u 0 0) (u 0 1) R.2.1 R.2.2.1 R.2.2.2.1 (u 0 5) (u 0 6) (u 0 7) R.2.2.2.2 (u 2) (u 3) (u 4) (u 5) (u 6) (u 7) (u 8)) (kA b 9)) 0 0 (kA b 9) := by
  refine Met.ofW (cc := cX6_commitOne) (maxL := 3) (ret := (some .int)) (by decide) rfl ?_
  intro p e s m args below meth c s₁ B hml hv
  obtain ⟨rfl, hK, hP⟩ := hv
  have hx := B.exec
  have hb := B.bytes
  have hr := B.returns
  have hts := atoms_spec (ws := wsX6_commitOne) B.pre
  have hown : s.vm.findClass RX6 = some m.cls := findClass_of_methodNamed B.named
  have hlocks := B.notSynchronized
  have hiX6 : ∀ w ∈ wsX60, w ∈ wsX6_commitOne := by decide +kernel
  have hf7 := hts (.fieldLink RX6 7 "SkewEdgesModel" "z" "[I") (by decide +kernel)
  have hS : va_S (kA b 9) s.heap s.heap [] := va_S.rf
  have hP : va_P E.1 vwCl (wModx E b (u 0 0) (u 0 1) (u 0 2) (u 0 3) (u 0 4) (u 0 5) (u 0 6) (u 0 7) (u 1) (u 2) (u 3) (u 4) (u 5) (u 6) (u 7) (u 8)) s.heap := hP
  have hD := dMod (E := E) hj (u 0 0) (u 0 1) (u 0 2) (u 0 3) (u 0 4) (u 0 5) (u 0 6) (u 0 7) (u 1) (u 2) (u 3) (u 4) (u 5) (u 6) (u 7) (u 8)
  have hl := lv_entry ([.ref (b 0), .int x1]) (n := 3) (Nat.le_of_ble_eq_true rfl)
  rw [lg_entry_eq]
  generalize (lg_sl ([.ref (b 0), .int x1]) ++ List.replicate (3 - (lg_sl ([.ref (b 0), .int x1])).length) Slot.unset).toArray = ls at hl ⊢
  have hl : lv_has ls 3 [(0, .ref (b 0)), (1, .int x1)] := hl
  replace hE := hE.trans mX6_commitOne_s
  refine lv_aload_n hx hb dX6_commitOne_0 rfl (lv_at hl 0 rfl) ?_
  refine lv_iload_n hx hb dX6_commitOne_1 rfl (lv_at hl 1 rfl) ?_
  refine lv_aload_n hx hb dX6_commitOne_2 rfl (lv_at hl 0 rfl) ?_
  refine va_get (D := E.1) (ci := 5) (v := .ref (b 1)) (C := RX6) (T := TX6) (N := 16) hx hb hts hiX6 hown hK.1 hP 0 rfl rfl 0 (by decide) hf7 (fun _ h9 => h9) rfl dX6_commitOne_3 ?_
  refine lv_iconst (v := 0) hx hb dX6_commitOne_6 (by decide) ?_
  refine va_iald (D := E.1) hx hb hK.1 hP 1 0 rfl rfl (vp_in_nI (n := 0) (by decide) (by decide)) dX6_commitOne_7 ?_
  refine W.eq (g2 := F0 m 8 ls [.int ((u 1) 0), .int x1, .ref (b 0)]) rfl ?_
  refine kCallWi (va_runV (As := [.int x1, .int ((u 1) 0)]) (rest := []) ⟨hx, hb, hml, hown, hts⟩ (c_X6_reasonFor l E b u hj x1 ((u 1) 0) (by assumption) (by assumption) _ rfl) (cwV 2 hts gX6_commitOne_X6_reasonFor rfl rfl rfl (by decide +kernel) ⟨Nat.le_of_ble_eq_true rfl, Nat.le_of_ble_eq_true rfl⟩) (kPreV hK hP hP (q0 := 0) rfl rfl) rfl rfl hl.1 rfl (lv_room (Nat.le_of_ble_eq_true rfl)) dX6_commitOne_8 ⟨Nat.zero_le _, Nat.zero_le _⟩) hS (fun _ h => h) (fun H locs hP _ _ hS => ?_)
  refine kGen (mX6_reasonFor u x1 ((u 1) 0)) (fun g_1 hg_1 => ?_)
  rw [hg_1] at hE hP ⊢
  try dsimp only at hE
  have hP : va_P E.1 vwCl (wModx E b (u 0 0) (u 0 1) (g_1.2.1) (g_1.2.2.1) (g_1.2.2.2.1) (u 0 5) (u 0 6) (u 0 7) (g_1.2.2.2.2) (u 2) (u 3) (u 4) (u 5) (u 6) (u 7) (u 8)) H := hP
  have hD := dMod (E := E) hj (u 0 0) (u 0 1) (g_1.2.1) (g_1.2.2.1) (g_1.2.2.2.1) (u 0 5) (u 0 6) (u 0 7) (g_1.2.2.2.2) (u 2) (u 3) (u 4) (u 5) (u 6) (u 7) (u 8)
  refine lv_istore_n (lv' := [(2, .int (g_1.1)), (0, .ref (b 0)), (1, .int x1)]) hx hb dX6_commitOne_11 rfl hl (by decide) rfl (fun ls hl => ?_)
  refine lv_iload_n hx hb dX6_commitOne_12 rfl (lv_at hl 0 rfl) ?_
  refine lv_if_le (tgt := 25) hx hb dX6_commitOne_13 (by decide) (fun c_2 => ?_) (fun c_2 => ?_)
  · replace hE := hE.trans (if_pos c_2)
    refine lv_aload_n hx hb dX6_commitOne_25 rfl (lv_at hl 1 rfl) ?_
    refine va_get (D := E.1) (ci := 5) (v := .ref (b 1)) (C := RX6) (T := TX6) (N := 16) hx hb hts hiX6 hown hK.1 hP 0 rfl rfl 0 (by decide) hf7 (fun _ h9 => h9) rfl dX6_commitOne_26 ?_
    refine lv_iconst (v := 1) hx hb dX6_commitOne_29 (by decide) ?_
    refine lv_dup2_11 hx hb dX6_commitOne_30 rfl rfl ?_
    refine va_iald (D := E.1) hx hb hK.1 hP 1 0 rfl rfl (vp_in_nI (n := 1) (by decide) (by decide)) dX6_commitOne_31 ?_
    refine W.eq (g2 := F0 m 32 ls [.int ((g_1.2.2.2.2) 1), .int 1, .ref (b 1)]) rfl ?_
    refine lv_iconst (v := 1) hx hb dX6_commitOne_32 (by decide) ?_
    refine lv_iadd hx hb dX6_commitOne_33 ?_
    refine va_iast (D := E.1) hx hb hK.1 hP hD hS 1 0 rfl rfl (vp_in_nI (n := 1) (by decide) (by decide)) dX6_commitOne_34 (fun H locs hP _ hS => ?_)
    have hP : va_P E.1 vwCl (wModx E b (u 0 0) (u 0 1) (g_1.2.1) (g_1.2.2.1) (g_1.2.2.2.1) (u 0 5) (u 0 6) (u 0 7) (upd (g_1.2.2.2.2) 1 (((g_1.2.2.2.2) 1) + 1)) (u 2) (u 3) (u 4) (u 5) (u 6) (u 7) (u 8)) H := hP
    have hD := dMod (E := E) hj (u 0 0) (u 0 1) (g_1.2.1) (g_1.2.2.1) (g_1.2.2.2.1) (u 0 5) (u 0 6) (u 0 7) (upd (g_1.2.2.2.2) 1 (((g_1.2.2.2.2) 1) + 1)) (u 2) (u 3) (u 4) (u 5) (u 6) (u 7) (u 8)
    refine lv_aload_n hx hb dX6_commitOne_35 rfl (lv_at hl 1 rfl) ?_
    refine lv_iload_n hx hb dX6_commitOne_36 rfl (lv_at hl 2 rfl) ?_
    refine lv_iconst (v := 0) hx hb dX6_commitOne_37 (by decide) ?_
    refine lv_iconst (v := 1) hx hb dX6_commitOne_38 (by decide) ?_
    refine kCallWv (va_runV (As := [.int x1, .int 0, .int 1]) (rest := []) ⟨hx, hb, hml, hown, hts⟩ (c_X6_lay l E b (rset (rset u 1 (upd (g_1.2.2.2.2) 1 (((g_1.2.2.2.2) 1) + 1))) 0 (upd (upd (upd (u 0) 2 (g_1.2.1)) 3 (g_1.2.2.1)) 4 (g_1.2.2.2.1))) hj x1 0 1 (by assumption) ⟨0, by decide, rfl⟩ _ rfl) (cwV 3 hts gX6_commitOne_X6_lay rfl rfl rfl (by decide +kernel) ⟨Nat.le_of_ble_eq_true rfl, Nat.le_of_ble_eq_true rfl⟩) (kPreV hK hP hP (q0 := 0) rfl rfl) rfl rfl hl.1 rfl (lv_room (Nat.le_of_ble_eq_true rfl)) dX6_commitOne_39 ⟨Nat.zero_le _, Nat.zero_le _⟩) hS (fun _ h => h) (fun H locs hP _ _ hS => ?_)
    refine kGen (mX6_lay (rset (rset u 1 (upd (g_1.2.2.2.2) 1 (((g_1.2.2.2.2) 1) + 1))) 0 (upd (upd (upd (u 0) 2 (g_1.2.1)) 3 (g_1.2.2.1)) 4 (g_1.2.2.2.1))) x1 0 1) (fun g_3 hg_3 => ?_)
    rw [hg_3] at hE hP
    try dsimp only at hE
    have hP : va_P E.1 vwCl (wModx E b (u 0 0) (u 0 1) (g_1.2.1) (g_1.2.2.1) (g_1.2.2.2.1) (u 0 5) (u 0 6) (u 0 7) g_3 (u 2) (u 3) (u 4) (u 5) (u 6) (u 7) (u 8)) H := hP
    have hD := dMod (E := E) hj (u 0 0) (u 0 1) (g_1.2.1) (g_1.2.2.1) (g_1.2.2.2.1) (u 0 5) (u 0 6) (u 0 7) g_3 (u 2) (u 3) (u 4) (u 5) (u 6) (u 7) (u 8)
    refine lv_aload_n hx hb dX6_commitOne_42 rfl (lv_at hl 1 rfl) ?_
    refine lv_iload_n hx hb dX6_commitOne_43 rfl (lv_at hl 2 rfl) ?_
    refine lv_iconst (v := 2) hx hb dX6_commitOne_44 (by decide) ?_
    refine lv_aload_n hx hb dX6_commitOne_45 rfl (lv_at hl 1 rfl) ?_
    refine va_get (D := E.1) (ci := 5) (v := .ref (b 1)) (C := RX6) (T := TX6) (N := 16) hx hb hts hiX6 hown hK.1 hP 0 rfl rfl 0 (by decide) hf7 (fun _ h9 => h9) rfl dX6_commitOne_46 ?_
    refine lv_iconst (v := 1) hx hb dX6_commitOne_49 (by decide) ?_
    refine va_iald (D := E.1) hx hb hK.1 hP 1 0 rfl rfl (vp_in_nI (n := 1) (by decide) (by decide)) dX6_commitOne_50 ?_
    refine W.eq (g2 := F0 m 51 ls [.int (g_3 1), .int 2, .int x1, .ref (b 0)]) rfl ?_
    refine kCallWv (va_runV (As := [.int x1, .int 2, .int (g_3 1)]) (rest := []) ⟨hx, hb, hml, hown, hts⟩ (c_X6_lay l E b (rset (rset u 1 g_3) 0 (upd (upd (upd (u 0) 2 (g_1.2.1)) 3 (g_1.2.2.1)) 4 (g_1.2.2.2.1))) hj x1 2 (g_3 1) (by assumption) ⟨2, by decide, rfl⟩ _ rfl) (cwV 3 hts gX6_commitOne_X6_lay rfl rfl rfl (by decide +kernel) ⟨Nat.le_of_ble_eq_true rfl, Nat.le_of_ble_eq_true rfl⟩) (kPreV hK hP hP (q0 := 0) rfl rfl) rfl rfl hl.1 rfl (lv_room (Nat.le_of_ble_eq_true rfl)) dX6_commitOne_51 ⟨Nat.zero_le _, Nat.zero_le _⟩) hS (fun _ h => h) (fun H locs hP _ _ hS => ?_)
    refine kGen (mX6_lay (rset (rset u 1 g_3) 0 (upd (upd (upd (u 0) 2 (g_1.2.1)) 3 (g_1.2.2.1)) 4 (g_1.2.2.2.1))) x1 2 (g_3 1)) (fun g_4 hg_4 => ?_)
    rw [hg_4] at hE hP
    try dsimp only at hE
    have hP : va_P E.1 vwCl (wModx E b (u 0 0) (u 0 1) (g_1.2.1) (g_1.2.2.1) (g_1.2.2.2.1) (u 0 5) (u 0 6) (u 0 7) g_4 (u 2) (u 3) (u 4) (u 5) (u 6) (u 7) (u 8)) H := hP
    have hD := dMod (E := E) hj (u 0 0) (u 0 1) (g_1.2.1) (g_1.2.2.1) (g_1.2.2.2.1) (u 0 5) (u 0 6) (u 0 7) g_4 (u 2) (u 3) (u 4) (u 5) (u 6) (u 7) (u 8)
    refine lv_iload_n hx hb dX6_commitOne_54 rfl (lv_at hl 0 rfl) ?_
    subst R
    exact W.iret (v := (g_1.1)) hx hb hr (fun t ht hW => ⟨rfl, by rw [ht]; exact hP, hS.F ht⟩) hS.2.2 dX6_commitOne_55
  · replace hE := hE.trans (if_neg c_2)
    refine lv_aload_n hx hb dX6_commitOne_16 rfl (lv_at hl 1 rfl) ?_
    refine lv_iload_n hx hb dX6_commitOne_17 rfl (lv_at hl 2 rfl) ?_
    refine lv_iload_n hx hb dX6_commitOne_18 rfl (lv_at hl 0 rfl) ?_
    refine kCallWv (va_runV (As := [.int x1, .int (g_1.1)]) (rest := []) ⟨hx, hb, hml, hown, hts⟩ (c_X6_abortOne l E b (rset (rset u 1 (g_1.2.2.2.2)) 0 (upd (upd (upd (u 0) 2 (g_1.2.1)) 3 (g_1.2.2.1)) 4 (g_1.2.2.2.1))) hj x1 (g_1.1) (by assumption) _ rfl) (cwV 2 hts gX6_commitOne_X6_abortOne rfl rfl rfl (by decide +kernel) ⟨Nat.le_of_ble_eq_true rfl, Nat.le_of_ble_eq_true rfl⟩) (kPreV hK hP hP (q0 := 0) rfl rfl) rfl rfl hl.1 rfl (lv_room (Nat.le_of_ble_eq_true rfl)) dX6_commitOne_19 ⟨Nat.zero_le _, Nat.zero_le _⟩) hS (fun _ h => h) (fun H locs hP _ _ hS => ?_)
    refine kGen (mX6_abortOne (rset (rset u 1 (g_1.2.2.2.2)) 0 (upd (upd (upd (u 0) 2 (g_1.2.1)) 3 (g_1.2.2.1)) 4 (g_1.2.2.2.1))) x1 (g_1.1)) (fun g_5 hg_5 => ?_)
    rw [hg_5] at hE hP
    try dsimp only at hE
    have hP : va_P E.1 vwCl (wModx E b (u 0 0) (u 0 1) (g_1.2.1) (g_1.2.2.1) (g_1.2.2.2.1) (u 0 5) (u 0 6) (u 0 7) g_5 (u 2) (u 3) (u 4) (u 5) (u 6) (u 7) (u 8)) H := hP
    have hD := dMod (E := E) hj (u 0 0) (u 0 1) (g_1.2.1) (g_1.2.2.1) (g_1.2.2.2.1) (u 0 5) (u 0 6) (u 0 7) g_5 (u 2) (u 3) (u 4) (u 5) (u 6) (u 7) (u 8)
    refine lv_goto (tgt := 54) hx hb dX6_commitOne_22 (by decide) ?_
    refine lv_iload_n hx hb dX6_commitOne_54 rfl (lv_at hl 0 rfl) ?_
    subst R
    exact W.iret (v := (g_1.1)) hx hb hr (fun t ht hW => ⟨rfl, by rw [ht]; exact hP, hS.F ht⟩) hS.2.2 dX6_commitOne_55
theorem commitOne_n {u : kG} {x1 : Int32} (hm : nOK (u 1 2)) (ht : tOK x1) : nOK ((mX6_commitOne u x1).2.2.2.2 2) := by
  rw [mX6_commitOne_s]
  have hz1 : nOK ((mX6_reasonFor u x1 ((u 1) 0)).2.2.2.2 2) := reasonFor_n (u := u) hm ht _
  refine kGen (mX6_reasonFor u x1 ((u 1) 0)) (fun g_1 eg_1 => ?_)
  rewrite [eg_1] at hz1
  try rewrite [eg_1]
  try dsimp only
  by_cases k_1 : (g_1.1) ≤ 0
  · rewrite [if_pos k_1]
    have hz3 : nOK ((mX6_lay (rset (rset u 1 (upd (g_1.2.2.2.2) 1 (((g_1.2.2.2.2) 1) + 1))) 0 (upd (upd (upd (u 0) 2 (g_1.2.1)) 3 (g_1.2.2.1)) 4 (g_1.2.2.2.1))) x1 0 1) 2) := lay_n (u := (rset (rset u 1 (upd (g_1.2.2.2.2) 1 (((g_1.2.2.2.2) 1) + 1))) 0 (upd (upd (upd (u 0) 2 (g_1.2.1)) 3 (g_1.2.2.1)) 4 (g_1.2.2.2.1)))) hz1 ht ⟨0, by decide, rfl⟩
    refine kGen (mX6_lay (rset (rset u 1 (upd (g_1.2.2.2.2) 1 (((g_1.2.2.2.2) 1) + 1))) 0 (upd (upd (upd (u 0) 2 (g_1.2.1)) 3 (g_1.2.2.1)) 4 (g_1.2.2.2.1))) x1 0 1) (fun g_3 eg_3 => ?_)
    rewrite [eg_3] at hz3
    try rewrite [eg_3]
    try dsimp only
    have hz4 : nOK ((mX6_lay (rset (rset u 1 g_3) 0 (upd (upd (upd (u 0) 2 (g_1.2.1)) 3 (g_1.2.2.1)) 4 (g_1.2.2.2.1))) x1 2 (g_3 1)) 2) := lay_n (u := (rset (rset u 1 g_3) 0 (upd (upd (upd (u 0) 2 (g_1.2.1)) 3 (g_1.2.2.1)) 4 (g_1.2.2.2.1)))) hz3 ht ⟨2, by decide, rfl⟩
    refine kGen (mX6_lay (rset (rset u 1 g_3) 0 (upd (upd (upd (u 0) 2 (g_1.2.1)) 3 (g_1.2.2.1)) 4 (g_1.2.2.2.1))) x1 2 (g_3 1)) (fun g_4 eg_4 => ?_)
    rewrite [eg_4] at hz4
    try rewrite [eg_4]
    try dsimp only
    first | exact hz4 | exact hz2
  · rewrite [if_neg k_1]
    have hz2 : nOK ((mX6_abortOne (rset (rset u 1 (g_1.2.2.2.2)) 0 (upd (upd (upd (u 0) 2 (g_1.2.1)) 3 (g_1.2.2.1)) 4 (g_1.2.2.2.1))) x1 (g_1.1)) 2) := abortOne_n (u := (rset (rset u 1 (g_1.2.2.2.2)) 0 (upd (upd (upd (u 0) 2 (g_1.2.1)) 3 (g_1.2.2.1)) 4 (g_1.2.2.2.1)))) hz1 ht
    refine kGen (mX6_abortOne (rset (rset u 1 (g_1.2.2.2.2)) 0 (upd (upd (upd (u 0) 2 (g_1.2.1)) 3 (g_1.2.2.1)) 4 (g_1.2.2.2.1))) x1 (g_1.1)) (fun g_5 eg_5 => ?_)
    rewrite [eg_5] at hz2
    try rewrite [eg_5]
    try dsimp only
    first | exact hz4 | exact hz2
def mX6_commit (u : kG) (x1 : Int32) : Int32 × Int32 × Int32 × Int32 × Int32 × (Nat → Int32) × (Nat → Int32) :=
  if 0 ≤ (mX6_whyNotEnd u x1) then
    (fun (g_2 : Int32 × (Nat → Int32)) =>
      (fun (g_3 : Int32 × Int32 × Int32 × Int32 × (Nat → Int32)) =>
        ((g_3.1), (g_2.1), (g_3.2.1), (g_3.2.2.1), (g_3.2.2.2.1), (g_3.2.2.2.2), (g_2.2)))
        (mX6_commitOne (rset (rset u 2 (g_2.2)) 0 (upd (u 0) 0 (g_2.1))) x1))
      (mX6_record u)
  else
    ((mX6_whyNotEnd u x1), (u 0 0), (u 0 2), (u 0 3), (u 0 4), (u 1), (u 2))
theorem mX6_commit_s {u : kG} {x1 : Int32} : mX6_commit u x1 = (
  if 0 ≤ (mX6_whyNotEnd u x1) then
    (fun (g_2 : Int32 × (Nat → Int32)) =>
      (fun (g_3 : Int32 × Int32 × Int32 × Int32 × (Nat → Int32)) =>
        ((g_3.1), (g_2.1), (g_3.2.1), (g_3.2.2.1), (g_3.2.2.2.1), (g_3.2.2.2.2), (g_2.2)))
        (mX6_commitOne (rset (rset u 2 (g_2.2)) 0 (upd (u 0) 0 (g_2.1))) x1))
      (mX6_record u)
  else
    ((mX6_whyNotEnd u x1), (u 0 0), (u 0 2), (u 0 3), (u 0 4), (u 1), (u 2)) : Int32 × Int32 × Int32 × Int32 × Int32 × (Nat → Int32) × (Nat → Int32)) := rfl
set_option maxHeartbeats 400000 in
set_option maxRecDepth 100000 in
theorem c_X6_commit (l : Launch) (E : kE) (b : Nat → Nat) (u : kG) (hj : kInj b 9) (x1 : Int32) (hm : nOK (u 1 2)) (hpm : bOK 6 (u 0 0)) (R : Int32 × Int32 × Int32 × Int32 × Int32 × (Nat → Int32) × (Nat → Int32)) (hE : R = mX6_commit u x1) : Met l yX6_commit wsX6_commit ({ frames := 9, cells := 0, slots := 0, locals := 205 }) (kPre E [.ref (b 0), .int x1] (wModx E b (u 0 0) (u 0 1) (u 0 2) (u 0 3) (u 0 4) (u 0 5) (u 0 6) (u 0 7) (u 1) (u 2) (u 3) (u 4) (u 5) (u 6) (u 7) (u 8))) (kWi E R.1 (wModx E b R.2.1 (u 0 1) R.2.2.1 R.2.2.2.1 R.2.2.2.2.1 (u 0 5) (u 0 6) (u 0 7) R.2.2.2.2.2.1 R.2.2.2.2.2.2 (u 3) (u 4) (u 5) (u 6) (u 7) (u 8)) (kA b 9)) 0 0 (kA b 9) := by
  refine Met.ofW (cc := cX6_commit) (maxL := 3) (ret := (some .int)) (by decide) rfl ?_
  intro p e s m args below meth c s₁ B hml hv
  obtain ⟨rfl, hK, hP⟩ := hv
  have hx := B.exec
  have hb := B.bytes
  have hr := B.returns
  have hts := atoms_spec (ws := wsX6_commit) B.pre
  have hown : s.vm.findClass RX6 = some m.cls := findClass_of_methodNamed B.named
  have hlocks := B.notSynchronized
  have hS : va_S (kA b 9) s.heap s.heap [] := va_S.rf
  have hP : va_P E.1 vwCl (wModx E b (u 0 0) (u 0 1) (u 0 2) (u 0 3) (u 0 4) (u 0 5) (u 0 6) (u 0 7) (u 1) (u 2) (u 3) (u 4) (u 5) (u 6) (u 7) (u 8)) s.heap := hP
  have hD := dMod (E := E) hj (u 0 0) (u 0 1) (u 0 2) (u 0 3) (u 0 4) (u 0 5) (u 0 6) (u 0 7) (u 1) (u 2) (u 3) (u 4) (u 5) (u 6) (u 7) (u 8)
  have hl := lv_entry ([.ref (b 0), .int x1]) (n := 3) (Nat.le_of_ble_eq_true rfl)
  rw [lg_entry_eq]
  generalize (lg_sl ([.ref (b 0), .int x1]) ++ List.replicate (3 - (lg_sl ([.ref (b 0), .int x1])).length) Slot.unset).toArray = ls at hl ⊢
  have hl : lv_has ls 3 [(0, .ref (b 0)), (1, .int x1)] := hl
  replace hE := hE.trans mX6_commit_s
  refine lv_aload_n hx hb dX6_commit_0 rfl (lv_at hl 0 rfl) ?_
  refine lv_iload_n hx hb dX6_commit_1 rfl (lv_at hl 1 rfl) ?_
  refine kCallRi (va_runV (As := [.int x1]) (rest := []) ⟨hx, hb, hml, hown, hts⟩ (c_X6_whyNotEnd l E b u x1 (by assumption) _ rfl) (cwV 1 hts gX6_commit_X6_whyNotEnd rfl rfl rfl (by decide +kernel) ⟨Nat.le_of_ble_eq_true rfl, Nat.le_of_ble_eq_true rfl⟩) (kPreV hK hP hP (q0 := 0) rfl rfl) rfl rfl hl.1 rfl (lv_room (Nat.le_of_ble_eq_true rfl)) dX6_commit_2 ⟨Nat.zero_le _, Nat.zero_le _⟩) ?_
  refine lv_istore_n (lv' := [(2, .int (mX6_whyNotEnd u x1)), (0, .ref (b 0)), (1, .int x1)]) hx hb dX6_commit_5 rfl hl (by decide) rfl (fun ls hl => ?_)
  refine lv_iload_n hx hb dX6_commit_6 rfl (lv_at hl 0 rfl) ?_
  refine lv_if_ge (tgt := 12) hx hb dX6_commit_7 (by decide) (fun c_1 => ?_) (fun c_1 => ?_)
  · replace hE := hE.trans (if_pos c_1)
    have ht := wne_ok hm c_1
    refine lv_aload_n hx hb dX6_commit_12 rfl (lv_at hl 1 rfl) ?_
    refine kCallWv (va_runV (As := []) (rest := []) ⟨hx, hb, hml, hown, hts⟩ (c_X6_record l E b u hj (by first | assumption | exact tOK.nI (by omega)) _ rfl) (cwV 0 hts gX6_commit_X6_record rfl rfl rfl (by decide +kernel) ⟨Nat.le_of_ble_eq_true rfl, Nat.le_of_ble_eq_true rfl⟩) (kPreV hK hP hP (q0 := 0) rfl rfl) rfl rfl hl.1 rfl (lv_room (Nat.le_of_ble_eq_true rfl)) dX6_commit_13 ⟨Nat.zero_le _, Nat.zero_le _⟩) hS (fun _ h => h) (fun H locs hP _ _ hS => ?_)
    refine kGen (mX6_record u) (fun g_2 hg_2 => ?_)
    rw [hg_2] at hE hP
    try dsimp only at hE
    have hP : va_P E.1 vwCl (wModx E b (g_2.1) (u 0 1) (u 0 2) (u 0 3) (u 0 4) (u 0 5) (u 0 6) (u 0 7) (u 1) (g_2.2) (u 3) (u 4) (u 5) (u 6) (u 7) (u 8)) H := hP
    have hD := dMod (E := E) hj (g_2.1) (u 0 1) (u 0 2) (u 0 3) (u 0 4) (u 0 5) (u 0 6) (u 0 7) (u 1) (g_2.2) (u 3) (u 4) (u 5) (u 6) (u 7) (u 8)
    refine lv_aload_n hx hb dX6_commit_16 rfl (lv_at hl 1 rfl) ?_
    refine lv_iload_n hx hb dX6_commit_17 rfl (lv_at hl 2 rfl) ?_
    refine kCallWi (va_runV (As := [.int x1]) (rest := []) ⟨hx, hb, hml, hown, hts⟩ (c_X6_commitOne l E b (rset (rset u 2 (g_2.2)) 0 (upd (u 0) 0 (g_2.1))) hj x1 hm ht _ rfl) (cwV 1 hts gX6_commit_X6_commitOne rfl rfl rfl (by decide +kernel) ⟨Nat.le_of_ble_eq_true rfl, Nat.le_of_ble_eq_true rfl⟩) (kPreV hK hP hP (q0 := 0) rfl rfl) rfl rfl hl.1 rfl (lv_room (Nat.le_of_ble_eq_true rfl)) dX6_commit_18 ⟨Nat.zero_le _, Nat.zero_le _⟩) hS (fun _ h => h) (fun H locs hP _ _ hS => ?_)
    refine kGen (mX6_commitOne (rset (rset u 2 (g_2.2)) 0 (upd (u 0) 0 (g_2.1))) x1) (fun g_3 hg_3 => ?_)
    rw [hg_3] at hE hP ⊢
    try dsimp only at hE
    have hP : va_P E.1 vwCl (wModx E b (g_2.1) (u 0 1) (g_3.2.1) (g_3.2.2.1) (g_3.2.2.2.1) (u 0 5) (u 0 6) (u 0 7) (g_3.2.2.2.2) (g_2.2) (u 3) (u 4) (u 5) (u 6) (u 7) (u 8)) H := hP
    have hD := dMod (E := E) hj (g_2.1) (u 0 1) (g_3.2.1) (g_3.2.2.1) (g_3.2.2.2.1) (u 0 5) (u 0 6) (u 0 7) (g_3.2.2.2.2) (g_2.2) (u 3) (u 4) (u 5) (u 6) (u 7) (u 8)
    subst R
    exact W.iret (v := (g_3.1)) hx hb hr (fun t ht hW => ⟨rfl, by rw [ht]; exact hP, hS.F ht⟩) hS.2.2 dX6_commit_21
  · replace hE := hE.trans (if_neg c_1)
    refine lv_iload_n hx hb dX6_commit_10 rfl (lv_at hl 0 rfl) ?_
    subst R
    exact W.iret (v := (mX6_whyNotEnd u x1)) hx hb hr (fun t ht hW => ⟨rfl, by rw [ht]; exact hP, hS.F ht⟩) hS.2.2 dX6_commit_11
def mX6_abort (u : kG) (x1 : Int32) : Int32 × Int32 × (Nat → Int32) × (Nat → Int32) :=
  if 0 ≤ (mX6_whyNotEnd u x1) then
    (fun (g_2 : Int32 × (Nat → Int32)) =>
      (fun (g_3 : (Nat → Int32)) =>
        ((mX6_bits (mX6_setOf (rset (rset (rset u 1 g_3) 2 (g_2.2)) 0 (upd (u 0) 0 (g_2.1))) 0)), (g_2.1), g_3, (g_2.2)))
        (mX6_abortOne (rset (rset u 2 (g_2.2)) 0 (upd (u 0) 0 (g_2.1))) x1 0))
      (mX6_record u)
  else
    ((mX6_whyNotEnd u x1), (u 0 0), (u 1), (u 2))
theorem mX6_abort_s {u : kG} {x1 : Int32} : mX6_abort u x1 = (
  if 0 ≤ (mX6_whyNotEnd u x1) then
    (fun (g_2 : Int32 × (Nat → Int32)) =>
      (fun (g_3 : (Nat → Int32)) =>
        ((mX6_bits (mX6_setOf (rset (rset (rset u 1 g_3) 2 (g_2.2)) 0 (upd (u 0) 0 (g_2.1))) 0)), (g_2.1), g_3, (g_2.2)))
        (mX6_abortOne (rset (rset u 2 (g_2.2)) 0 (upd (u 0) 0 (g_2.1))) x1 0))
      (mX6_record u)
  else
    ((mX6_whyNotEnd u x1), (u 0 0), (u 1), (u 2)) : Int32 × Int32 × (Nat → Int32) × (Nat → Int32)) := rfl
set_option maxHeartbeats 400000 in
set_option maxRecDepth 100000 in
theorem c_X6_abort (l : Launch) (E : kE) (b : Nat → Nat) (u : kG) (hj : kInj b 9) (x1 : Int32) (hm : nOK (u 1 2)) (hpm : bOK 6 (u 0 0)) (R : Int32 × Int32 × (Nat → Int32) × (Nat → Int32)) (hE : R = mX6_abort u x1) : Met l yX6_abort wsX6_abort ({ frames := 3, cells := 0, slots := 0, locals := 67 }) (kPre E [.ref (b 0), .int x1] (wModx E b (u 0 0) (u 0 1) (u 0 2) (u 0 3) (u 0 4) (u 0 5) (u 0 6) (u 0 7) (u 1) (u 2) (u 3) (u 4) (u 5) (u 6) (u 7) (u 8))) (kWi E R.1 (wModx E b R.2.1 (u 0 1) (u 0 2) (u 0 3) (u 0 4) (u 0 5) (u 0 6) (u 0 7) R.2.2.1 R.2.2.2 (u 3) (u 4) (u 5) (u 6) (u 7) (u 8)) (kA b 9)) 0 0 (kA b 9) := by
  refine Met.ofW (cc := cX6_abort) (maxL := 3) (ret := (some .int)) (by decide) rfl ?_
  intro p e s m args below meth c s₁ B hml hv
  obtain ⟨rfl, hK, hP⟩ := hv
  have hx := B.exec
  have hb := B.bytes
  have hr := B.returns
  have hts := atoms_spec (ws := wsX6_abort) B.pre
  have hown : s.vm.findClass RX6 = some m.cls := findClass_of_methodNamed B.named
  have hlocks := B.notSynchronized
  have hS : va_S (kA b 9) s.heap s.heap [] := va_S.rf
  have hP : va_P E.1 vwCl (wModx E b (u 0 0) (u 0 1) (u 0 2) (u 0 3) (u 0 4) (u 0 5) (u 0 6) (u 0 7) (u 1) (u 2) (u 3) (u 4) (u 5) (u 6) (u 7) (u 8)) s.heap := hP
  have hD := dMod (E := E) hj (u 0 0) (u 0 1) (u 0 2) (u 0 3) (u 0 4) (u 0 5) (u 0 6) (u 0 7) (u 1) (u 2) (u 3) (u 4) (u 5) (u 6) (u 7) (u 8)
  have hl := lv_entry ([.ref (b 0), .int x1]) (n := 3) (Nat.le_of_ble_eq_true rfl)
  rw [lg_entry_eq]
  generalize (lg_sl ([.ref (b 0), .int x1]) ++ List.replicate (3 - (lg_sl ([.ref (b 0), .int x1])).length) Slot.unset).toArray = ls at hl ⊢
  have hl : lv_has ls 3 [(0, .ref (b 0)), (1, .int x1)] := hl
  replace hE := hE.trans mX6_abort_s
  refine lv_aload_n hx hb dX6_abort_0 rfl (lv_at hl 0 rfl) ?_
  refine lv_iload_n hx hb dX6_abort_1 rfl (lv_at hl 1 rfl) ?_
  refine kCallRi (va_runV (As := [.int x1]) (rest := []) ⟨hx, hb, hml, hown, hts⟩ (c_X6_whyNotEnd l E b u x1 (by assumption) _ rfl) (cwV 1 hts gX6_abort_X6_whyNotEnd rfl rfl rfl (by decide +kernel) ⟨Nat.le_of_ble_eq_true rfl, Nat.le_of_ble_eq_true rfl⟩) (kPreV hK hP hP (q0 := 0) rfl rfl) rfl rfl hl.1 rfl (lv_room (Nat.le_of_ble_eq_true rfl)) dX6_abort_2 ⟨Nat.zero_le _, Nat.zero_le _⟩) ?_
  refine lv_istore_n (lv' := [(2, .int (mX6_whyNotEnd u x1)), (0, .ref (b 0)), (1, .int x1)]) hx hb dX6_abort_5 rfl hl (by decide) rfl (fun ls hl => ?_)
  refine lv_iload_n hx hb dX6_abort_6 rfl (lv_at hl 0 rfl) ?_
  refine lv_if_ge (tgt := 12) hx hb dX6_abort_7 (by decide) (fun c_1 => ?_) (fun c_1 => ?_)
  · replace hE := hE.trans (if_pos c_1)
    have ht := wne_ok hm c_1
    refine lv_aload_n hx hb dX6_abort_12 rfl (lv_at hl 1 rfl) ?_
    refine kCallWv (va_runV (As := []) (rest := []) ⟨hx, hb, hml, hown, hts⟩ (c_X6_record l E b u hj (by first | assumption | exact tOK.nI (by omega)) _ rfl) (cwV 0 hts gX6_abort_X6_record rfl rfl rfl (by decide +kernel) ⟨Nat.le_of_ble_eq_true rfl, Nat.le_of_ble_eq_true rfl⟩) (kPreV hK hP hP (q0 := 0) rfl rfl) rfl rfl hl.1 rfl (lv_room (Nat.le_of_ble_eq_true rfl)) dX6_abort_13 ⟨Nat.zero_le _, Nat.zero_le _⟩) hS (fun _ h => h) (fun H locs hP _ _ hS => ?_)
    refine kGen (mX6_record u) (fun g_2 hg_2 => ?_)
    rw [hg_2] at hE hP
    try dsimp only at hE
    have hP : va_P E.1 vwCl (wModx E b (g_2.1) (u 0 1) (u 0 2) (u 0 3) (u 0 4) (u 0 5) (u 0 6) (u 0 7) (u 1) (g_2.2) (u 3) (u 4) (u 5) (u 6) (u 7) (u 8)) H := hP
    have hD := dMod (E := E) hj (g_2.1) (u 0 1) (u 0 2) (u 0 3) (u 0 4) (u 0 5) (u 0 6) (u 0 7) (u 1) (g_2.2) (u 3) (u 4) (u 5) (u 6) (u 7) (u 8)
    refine lv_aload_n hx hb dX6_abort_16 rfl (lv_at hl 1 rfl) ?_
    refine lv_iload_n hx hb dX6_abort_17 rfl (lv_at hl 2 rfl) ?_
    refine lv_iconst (v := 0) hx hb dX6_abort_18 (by decide) ?_
    refine kCallWv (va_runV (As := [.int x1, .int 0]) (rest := []) ⟨hx, hb, hml, hown, hts⟩ (c_X6_abortOne l E b (rset (rset u 2 (g_2.2)) 0 (upd (u 0) 0 (g_2.1))) hj x1 0 ht _ rfl) (cwV 2 hts gX6_abort_X6_abortOne rfl rfl rfl (by decide +kernel) ⟨Nat.le_of_ble_eq_true rfl, Nat.le_of_ble_eq_true rfl⟩) (kPreV hK hP hP (q0 := 0) rfl rfl) rfl rfl hl.1 rfl (lv_room (Nat.le_of_ble_eq_true rfl)) dX6_abort_19 ⟨Nat.zero_le _, Nat.zero_le _⟩) hS (fun _ h => h) (fun H locs hP _ _ hS => ?_)
    have hz : nOK ((mX6_abortOne (rset (rset u 2 (g_2.2)) 0 (upd (u 0) 0 (g_2.1))) x1 0) 2) := abortOne_n (u := (rset (rset u 2 (g_2.2)) 0 (upd (u 0) 0 (g_2.1)))) hm ht
    refine kGen (mX6_abortOne (rset (rset u 2 (g_2.2)) 0 (upd (u 0) 0 (g_2.1))) x1 0) (fun g_3 hg_3 => ?_)
    rw [hg_3] at hE hP hz
    try dsimp only at hE
    have hP : va_P E.1 vwCl (wModx E b (g_2.1) (u 0 1) (u 0 2) (u 0 3) (u 0 4) (u 0 5) (u 0 6) (u 0 7) g_3 (g_2.2) (u 3) (u 4) (u 5) (u 6) (u 7) (u 8)) H := hP
    have hD := dMod (E := E) hj (g_2.1) (u 0 1) (u 0 2) (u 0 3) (u 0 4) (u 0 5) (u 0 6) (u 0 7) g_3 (g_2.2) (u 3) (u 4) (u 5) (u 6) (u 7) (u 8)
    refine lv_aload_n hx hb dX6_abort_22 rfl (lv_at hl 1 rfl) ?_
    refine lv_iconst (v := 0) hx hb dX6_abort_23 (by decide) ?_
    refine kCallRi (va_runV (As := [.int 0]) (rest := []) ⟨hx, hb, hml, hown, hts⟩ (c_X6_setOf l E b (rset (rset (rset u 1 g_3) 2 (g_2.2)) 0 (upd (u 0) 0 (g_2.1))) 0 hz _ rfl) (cwV 1 hts gX6_abort_X6_setOf rfl rfl rfl (by decide +kernel) ⟨Nat.le_of_ble_eq_true rfl, Nat.le_of_ble_eq_true rfl⟩) (kPreV hK hP hP (q0 := 0) rfl rfl) rfl rfl hl.1 rfl (lv_room (Nat.le_of_ble_eq_true rfl)) dX6_abort_24 ⟨Nat.zero_le _, Nat.zero_le _⟩) ?_
    refine kCallRi (va_runS (As := [.int (mX6_setOf (rset (rset (rset u 1 g_3) 2 (g_2.2)) 0 (upd (u 0) 0 (g_2.1))) 0)]) (rest := []) ⟨hx, hb, hml, hown, hts⟩ (c_X6_bits l E (mX6_setOf (rset (rset (rset u 1 g_3) 2 (g_2.2)) 0 (upd (u 0) 0 (g_2.1))) 0) (setOf_b hz _) _ rfl) (va_cwS 1 hts gX6_abort_X6_bits rfl rfl rfl (by decide +kernel) ⟨Nat.le_of_ble_eq_true rfl, Nat.le_of_ble_eq_true rfl⟩) (kPreS hK kP0) rfl rfl hl.1 rfl (lv_room (Nat.le_of_ble_eq_true rfl)) dX6_abort_27 ⟨Nat.zero_le _, Nat.zero_le _⟩) ?_
    subst R
    exact W.iret (v := (mX6_bits (mX6_setOf (rset (rset (rset u 1 g_3) 2 (g_2.2)) 0 (upd (u 0) 0 (g_2.1))) 0))) hx hb hr (fun t ht hW => ⟨rfl, by rw [ht]; exact hP, hS.F ht⟩) hS.2.2 dX6_abort_30
  · replace hE := hE.trans (if_neg c_1)
    refine lv_iload_n hx hb dX6_abort_10 rfl (lv_at hl 0 rfl) ?_
    subst R
    exact W.iret (v := (mX6_whyNotEnd u x1)) hx hb hr (fun t ht hW => ⟨rfl, by rw [ht]; exact hP, hS.F ht⟩) hS.2.2 dX6_abort_11
def mX6_value (u : kG) (x1 : Int32) : Int32 :=
  if (mX6_isKey x1) = 0 then
    (-1)
  else
    if (mX6_writerAhead u x1 (((u 1) 1) + 1)) = (-6) then
      0
    else
      (mX6_its u (mX6_writerAhead u x1 (((u 1) 1) + 1)) (7 + x1))
theorem mX6_value_s {u : kG} {x1 : Int32} : mX6_value u x1 = (
  if (mX6_isKey x1) = 0 then
    (-1)
  else
    if (mX6_writerAhead u x1 (((u 1) 1) + 1)) = (-6) then
      0
    else
      (mX6_its u (mX6_writerAhead u x1 (((u 1) 1) + 1)) (7 + x1)) : Int32) := rfl
set_option maxHeartbeats 400000 in
set_option maxRecDepth 100000 in
theorem c_X6_value (l : Launch) (E : kE) (b : Nat → Nat) (u : kG) (x1 : Int32) (hm : nOK (u 1 2)) (R : Int32) (hE : R = mX6_value u x1) : Met l yX6_value wsX6_value ({ frames := 3, cells := 0, slots := 0, locals := 69 }) (kPre E [.ref (b 0), .int x1] (wModx E b (u 0 0) (u 0 1) (u 0 2) (u 0 3) (u 0 4) (u 0 5) (u 0 6) (u 0 7) (u 1) (u 2) (u 3) (u 4) (u 5) (u 6) (u 7) (u 8))) (kRi R) 0 0 (fun _ => False) := by
  refine Met.ofW (cc := cX6_value) (maxL := 3) (ret := (some .int)) (by decide) rfl ?_
  intro p e s m args below meth c s₁ B hml hv
  obtain ⟨rfl, hK, hP⟩ := hv
  have hx := B.exec
  have hb := B.bytes
  have hr := B.returns
  have hts := atoms_spec (ws := wsX6_value) B.pre
  have hown : s.vm.findClass RX6 = some m.cls := findClass_of_methodNamed B.named
  have hlocks := B.notSynchronized
  have hiX6 : ∀ w ∈ wsX60, w ∈ wsX6_value := by decide +kernel
  have hf7 := hts (.fieldLink RX6 7 "SkewEdgesModel" "z" "[I") (by decide +kernel)
  have hP : va_P E.1 vwCl (wModx E b (u 0 0) (u 0 1) (u 0 2) (u 0 3) (u 0 4) (u 0 5) (u 0 6) (u 0 7) (u 1) (u 2) (u 3) (u 4) (u 5) (u 6) (u 7) (u 8)) s.heap := hP
  have hl := lv_entry ([.ref (b 0), .int x1]) (n := 3) (Nat.le_of_ble_eq_true rfl)
  rw [lg_entry_eq]
  generalize (lg_sl ([.ref (b 0), .int x1]) ++ List.replicate (3 - (lg_sl ([.ref (b 0), .int x1])).length) Slot.unset).toArray = ls at hl ⊢
  have hl : lv_has ls 3 [(0, .ref (b 0)), (1, .int x1)] := hl
  replace hE := hE.trans mX6_value_s
  refine lv_iload_n hx hb dX6_value_0 rfl (lv_at hl 1 rfl) ?_
  refine kCallRi (va_runS (As := [.int x1]) (rest := []) ⟨hx, hb, hml, hown, hts⟩ (c_X6_isKey l E x1 _ rfl) (va_cwS 1 hts gX6_value_X6_isKey rfl rfl rfl (by decide +kernel) ⟨Nat.le_of_ble_eq_true rfl, Nat.le_of_ble_eq_true rfl⟩) (kPreS hK kP0) rfl rfl hl.1 rfl (lv_room (Nat.le_of_ble_eq_true rfl)) dX6_value_1 ⟨Nat.zero_le _, Nat.zero_le _⟩) ?_
  refine lv_if_ne (tgt := 9) hx hb dX6_value_4 (by decide) (fun c_1 => ?_) (fun c_1 => ?_)
  · replace hE := hE.trans (if_neg c_1)
    have hzc_1 := in_key c_1
    refine lv_aload_n hx hb dX6_value_9 rfl (lv_at hl 0 rfl) ?_
    refine lv_iload_n hx hb dX6_value_10 rfl (lv_at hl 1 rfl) ?_
    refine lv_aload_n hx hb dX6_value_11 rfl (lv_at hl 0 rfl) ?_
    refine va_get (D := E.1) (ci := 5) (v := .ref (b 1)) (C := RX6) (T := TX6) (N := 16) hx hb hts hiX6 hown hK.1 hP 0 rfl rfl 0 (by decide) hf7 (fun _ h9 => h9) rfl dX6_value_12 ?_
    refine lv_iconst (v := 1) hx hb dX6_value_15 (by decide) ?_
    refine va_iald (D := E.1) hx hb hK.1 hP 1 0 rfl rfl (vp_in_nI (n := 1) (by decide) (by decide)) dX6_value_16 ?_
    refine W.eq (g2 := F0 m 17 ls [.int ((u 1) 1), .int x1, .ref (b 0)]) rfl ?_
    refine lv_iconst (v := 1) hx hb dX6_value_17 (by decide) ?_
    refine lv_iadd hx hb dX6_value_18 ?_
    refine kCallRi (va_runV (As := [.int x1, .int (((u 1) 1) + 1)]) (rest := []) ⟨hx, hb, hml, hown, hts⟩ (c_X6_writerAhead l E b u x1 (((u 1) 1) + 1) (by assumption) _ rfl) (cwV 2 hts gX6_value_X6_writerAhead rfl rfl rfl (by decide +kernel) ⟨Nat.le_of_ble_eq_true rfl, Nat.le_of_ble_eq_true rfl⟩) (kPreV hK hP hP (q0 := 0) rfl rfl) rfl rfl hl.1 rfl (lv_room (Nat.le_of_ble_eq_true rfl)) dX6_value_19 ⟨Nat.zero_le _, Nat.zero_le _⟩) ?_
    refine lv_istore_n (lv' := [(2, .int (mX6_writerAhead u x1 (((u 1) 1) + 1))), (0, .ref (b 0)), (1, .int x1)]) hx hb dX6_value_22 rfl hl (by decide) rfl (fun ls hl => ?_)
    refine lv_iload_n hx hb dX6_value_23 rfl (lv_at hl 0 rfl) ?_
    refine lv_bipush (v := (-6)) hx hb dX6_value_24 (by decide) ?_
    refine lv_icmp_ne (tgt := 33) hx hb dX6_value_26 (by decide) (fun c_2 => ?_) (fun c_2 => ?_)
    · replace hE := hE.trans (if_neg c_2)
      refine lv_aload_n hx hb dX6_value_33 rfl (lv_at hl 1 rfl) ?_
      refine lv_iload_n hx hb dX6_value_34 rfl (lv_at hl 0 rfl) ?_
      refine lv_bipush (v := 7) hx hb dX6_value_35 (by decide) ?_
      refine lv_iload_n hx hb dX6_value_37 rfl (lv_at hl 2 rfl) ?_
      refine lv_iadd hx hb dX6_value_38 ?_
      refine kCallRi (va_runV (As := [.int (mX6_writerAhead u x1 (((u 1) 1) + 1)), .int (7 + x1)]) (rest := []) ⟨hx, hb, hml, hown, hts⟩ (c_X6_its l E b u (mX6_writerAhead u x1 (((u 1) 1) + 1)) (7 + x1) (kor (writerAhead_t hm _ _) (by assumption)) (wOK.val (by assumption)) _ rfl) (cwV 2 hts gX6_value_X6_its rfl rfl rfl (by decide +kernel) ⟨Nat.le_of_ble_eq_true rfl, Nat.le_of_ble_eq_true rfl⟩) (kPreV hK hP hP (q0 := 0) rfl rfl) rfl rfl hl.1 rfl (lv_room (Nat.le_of_ble_eq_true rfl)) dX6_value_39 ⟨Nat.zero_le _, Nat.zero_le _⟩) ?_
      subst R
      exact W.iret (v := (mX6_its u (mX6_writerAhead u x1 (((u 1) 1) + 1)) (7 + x1))) hx hb hr (fun t ht hW => ⟨rfl, ht⟩) (fun _ h => by cases h) dX6_value_42
    · replace hE := hE.trans (if_pos c_2)
      refine lv_iconst (v := 0) hx hb dX6_value_29 (by decide) ?_
      refine lv_goto (tgt := 42) hx hb dX6_value_30 (by decide) ?_
      subst R
      exact W.iret (v := 0) hx hb hr (fun t ht hW => ⟨rfl, ht⟩) (fun _ h => by cases h) dX6_value_42
  · replace hE := hE.trans (if_pos c_1)
    refine lv_iconst (v := (-1)) hx hb dX6_value_7 (by decide) ?_
    subst R
    exact W.iret (v := (-1)) hx hb hr (fun t ht hW => ⟨rfl, ht⟩) (fun _ h => by cases h) dX6_value_8
