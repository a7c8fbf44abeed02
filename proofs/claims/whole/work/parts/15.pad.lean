def mX3_empty (v : kG) : Int32 × Int32 :=
  ((v 0 0), 0)
theorem mX3_empty_s {v : kG} : mX3_empty v = (
  ((v 0 0), 0) : Int32 × Int32) := rfl
set_option maxHeartbeats 400000 in
set_option maxRecDepth 100000 in
theorem c_X3_empty (l : Launch) (E : kE) (a : Nat → Nat) (v : kG) (hj : kInj a 2) (R : Int32 × Int32) (hE : R = mX3_empty v) : Met l yX3_empty wsX3_empty ({ frames := 0, cells := 0, slots := 0, locals := 0 }) (kPre E [.ref (a 0)] (wPadx E a (v 0 0) (v 0 1) (v 0 2) (v 0 3) (v 0 4) (v 0 5) (v 0 6) (v 1))) (kWi E R.1 (wPadx E a R.2 (v 0 1) (v 0 2) (v 0 3) (v 0 4) (v 0 5) (v 0 6) (v 1)) (kA a 2)) 0 0 (kA a 2) := by
  refine Met.ofW (cc := cX3_empty) (maxL := 2) (ret := (some .int)) (by decide) rfl ?_
  intro p e s m args below meth c s₁ B hml hv
  obtain ⟨rfl, hK, hP⟩ := hv
  have hx := B.exec
  have hb := B.bytes
  have hr := B.returns
  have hts := atoms_spec (ws := wsX3_empty) B.pre
  have hown : s.vm.findClass RX3 = some m.cls := findClass_of_methodNamed B.named
  have hlocks := B.notSynchronized
  have hiX3 : ∀ w ∈ wsX30, w ∈ wsX3_empty := by decide +kernel
  have hf21 := hts (.fieldLink RX3 21 "SkewEdges$Pad" "length" "I") (by decide +kernel)
  have hS : va_S (kA a 2) s.heap s.heap [] := va_S.rf
  have hP : va_P E.1 vwCl (wPadx E a (v 0 0) (v 0 1) (v 0 2) (v 0 3) (v 0 4) (v 0 5) (v 0 6) (v 1)) s.heap := hP
  have hD := dPad (E := E) hj (v 0 0) (v 0 1) (v 0 2) (v 0 3) (v 0 4) (v 0 5) (v 0 6) (v 1)
  have hl := lv_entry ([.ref (a 0)]) (n := 2) (Nat.le_of_ble_eq_true rfl)
  rw [lg_entry_eq]
  generalize (lg_sl ([.ref (a 0)]) ++ List.replicate (2 - (lg_sl ([.ref (a 0)])).length) Slot.unset).toArray = ls at hl ⊢
  have hl : lv_has ls 2 [(0, .ref (a 0))] := hl
  replace hE := hE.trans mX3_empty_s
  refine lv_aload_n hx hb dX3_empty_0 rfl (lv_at hl 0 rfl) ?_
  refine va_get (D := E.1) (ci := 2) (v := .int (v 0 0)) (C := RX3) (T := TX3) (N := 8) hx hb hts hiX3 hown hK.1 hP 0 rfl rfl 0 (by decide) hf21 (fun _ h9 => h9) rfl dX3_empty_1 ?_
  refine lv_istore_n (lv' := [(1, .int (v 0 0)), (0, .ref (a 0))]) hx hb dX3_empty_4 rfl hl (by decide) rfl (fun ls hl => ?_)
  refine lv_aload_n hx hb dX3_empty_5 rfl (lv_at hl 1 rfl) ?_
  refine lv_iconst (v := 0) hx hb dX3_empty_6 (by decide) ?_
  refine va_put (D := E.1) (ci := 2) (v := .int 0) (ty := .int) (C := RX3) (T := TX3) (N := 8) hx hb hts hiX3 tyX3 tyX3_ok nmX3 hown hK.1 hP hD hS 0 rfl rfl 0 (by decide) hf21 (fun _ h9 => h9) rfl (by decide +kernel) rfl rfl (Nat.le_of_ble_eq_true rfl) dX3_empty_7 (fun H locs hP _ hS => ?_)
  have hP : va_P E.1 vwCl (wPadx E a 0 (v 0 1) (v 0 2) (v 0 3) (v 0 4) (v 0 5) (v 0 6) (v 1)) H := hP
  have hD := dPad (E := E) hj 0 (v 0 1) (v 0 2) (v 0 3) (v 0 4) (v 0 5) (v 0 6) (v 1)
  refine lv_iload_n hx hb dX3_empty_10 rfl (lv_at hl 0 rfl) ?_
  subst R
  exact W.iret (v := (v 0 0)) hx hb hr (fun t ht hW => ⟨rfl, by rw [ht]; exact hP, hS.F ht⟩) hS.2.2 dX3_empty_11
def mX3_rewind (v : kG) : Int32 :=
  0
theorem mX3_rewind_s {v : kG} : mX3_rewind v = (
  0 : Int32) := rfl
set_option maxHeartbeats 400000 in
set_option maxRecDepth 100000 in
theorem c_X3_rewind (l : Launch) (E : kE) (a : Nat → Nat) (v : kG) (hj : kInj a 2) (R : Int32) (hE : R = mX3_rewind v) : Met l yX3_rewind wsX3_rewind ({ frames := 0, cells := 0, slots := 0, locals := 0 }) (kPre E [.ref (a 0)] (wPadx E a (v 0 0) (v 0 1) (v 0 2) (v 0 3) (v 0 4) (v 0 5) (v 0 6) (v 1))) (kWv E (wPadx E a (v 0 0) (v 0 1) (v 0 2) (v 0 3) (v 0 4) R (v 0 6) (v 1)) (kA a 2)) 0 0 (kA a 2) := by
  refine Met.ofW (cc := cX3_rewind) (maxL := 1) (ret := none) (by decide) rfl ?_
  intro p e s m args below meth c s₁ B hml hv
  obtain ⟨rfl, hK, hP⟩ := hv
  have hx := B.exec
  have hb := B.bytes
  have hr := B.returns
  have hts := atoms_spec (ws := wsX3_rewind) B.pre
  have hown : s.vm.findClass RX3 = some m.cls := findClass_of_methodNamed B.named
  have hlocks := B.notSynchronized
  have hiX3 : ∀ w ∈ wsX30, w ∈ wsX3_rewind := by decide +kernel
  have hf25 := hts (.fieldLink RX3 25 "SkewEdges$Pad" "at" "I") (by decide +kernel)
  have hS : va_S (kA a 2) s.heap s.heap [] := va_S.rf
  have hP : va_P E.1 vwCl (wPadx E a (v 0 0) (v 0 1) (v 0 2) (v 0 3) (v 0 4) (v 0 5) (v 0 6) (v 1)) s.heap := hP
  have hD := dPad (E := E) hj (v 0 0) (v 0 1) (v 0 2) (v 0 3) (v 0 4) (v 0 5) (v 0 6) (v 1)
  have hl := lv_entry ([.ref (a 0)]) (n := 1) (Nat.le_of_ble_eq_true rfl)
  rw [lg_entry_eq]
  generalize (lg_sl ([.ref (a 0)]) ++ List.replicate (1 - (lg_sl ([.ref (a 0)])).length) Slot.unset).toArray = ls at hl ⊢
  have hl : lv_has ls 1 [(0, .ref (a 0))] := hl
  replace hE := hE.trans mX3_rewind_s
  refine lv_aload_n hx hb dX3_rewind_0 rfl (lv_at hl 0 rfl) ?_
  refine lv_iconst (v := 0) hx hb dX3_rewind_1 (by decide) ?_
  refine va_put (D := E.1) (ci := 2) (v := .int 0) (ty := .int) (C := RX3) (T := TX3) (N := 8) hx hb hts hiX3 tyX3 tyX3_ok nmX3 hown hK.1 hP hD hS 0 rfl rfl 5 (by decide) hf25 (fun _ h9 => h9) rfl (by decide +kernel) rfl rfl (Nat.le_of_ble_eq_true rfl) dX3_rewind_2 (fun H locs hP _ hS => ?_)
  have hP : va_P E.1 vwCl (wPadx E a (v 0 0) (v 0 1) (v 0 2) (v 0 3) (v 0 4) 0 (v 0 6) (v 1)) H := hP
  have hD := dPad (E := E) hj (v 0 0) (v 0 1) (v 0 2) (v 0 3) (v 0 4) 0 (v 0 6) (v 1)
  subst R
  exact W.vret hx hb hr (fun t ht hW => ⟨rfl, by rw [ht]; exact hP, hS.F ht⟩) hS.2.2 dX3_rewind_5
def mX3_append_L95 (v : kG) (x1 : Int64) (x5_3 : Int64) (i5 : Nat) : Nat → Int32 → (Nat → Int32) → Int32 → (Int32 × Int32 × (Nat → Int32))
  | 0, _, _, _ => (0, 0, (fun _ => 0))
  | n95 + 1, x95_6, f95_0_1, q95_0_0 =>
    if x95_6 < 0 then
      (q95_0_0, q95_0_0, f95_0_1)
    else
      mX3_append_L95 v x1 x5_3 i5 n95 (x95_6 + (-1)) (upd f95_0_1 (q95_0_0).toNatClampNeg (vp_nar .char (((((((((x1).toUInt64 >>> (((8 * x95_6) : Int32).toInt64.toUInt64 &&& Int64.toUInt64 63)).toInt64) &&& 255) : Int64).toInt32) : Int32).toUInt32 % 65536).toInt32))) (q95_0_0 + 1)
theorem mX3_append_L95_s {v : kG} {x1 : Int64} {x5_3 : Int64} {i5 : Nat} {n95 : Nat} {x95_6 : Int32} {f95_0_1 : (Nat → Int32)} {q95_0_0 : Int32} : mX3_append_L95 v x1 x5_3 i5 (n95 + 1) x95_6 f95_0_1 q95_0_0 = (
    if x95_6 < 0 then
      (q95_0_0, q95_0_0, f95_0_1)
    else
      mX3_append_L95 v x1 x5_3 i5 n95 (x95_6 + (-1)) (upd f95_0_1 (q95_0_0).toNatClampNeg (vp_nar .char (((((((((x1).toUInt64 >>> (((8 * x95_6) : Int32).toInt64.toUInt64 &&& Int64.toUInt64 63)).toInt64) &&& 255) : Int64).toInt32) : Int32).toUInt32 % 65536).toInt32))) (q95_0_0 + 1) : Int32 × Int32 × (Nat → Int32)) := rfl
def mX3_append_L5 (v : kG) (x1 : Int64) : Nat → Int64 → Nat → (Int32 × Int32 × (Nat → Int32))
  | 0, _, _ => (0, 0, (fun _ => 0))
  | n5 + 1, x5_3, i5 =>
    if 8 ≤ (nI i5) then
      if (nI i5) = 0 then
        ((-2), (v 0 0), (v 1))
      else
        if (lg_cmp x5_3 0) = 0 then
          if ((v 0 0) + (nI i5)) ≤ 80 then
            mX3_append_L95 v x1 x5_3 i5 9 ((nI i5) - 1) (v 1) (v 0 0)
          else
            ((-4), (v 0 0), (v 1))
        else
          ((-2), (v 0 0), (v 1))
    else
      if (lg_cmp (x5_3 &&& 255) 0) = 0 then
        if (nI i5) = 0 then
          ((-2), (v 0 0), (v 1))
        else
          if (lg_cmp x5_3 0) = 0 then
            if ((v 0 0) + (nI i5)) ≤ 80 then
              mX3_append_L95 v x1 x5_3 i5 9 ((nI i5) - 1) (v 1) (v 0 0)
            else
              ((-4), (v 0 0), (v 1))
          else
            ((-2), (v 0 0), (v 1))
      else
        if (lg_cmp (x5_3 &&& 255) 33) < 0 then
          ((-2), (v 0 0), (v 1))
        else
          if (lg_cmp (x5_3 &&& 255) 126) ≤ 0 then
            mX3_append_L5 v x1 n5 (((x5_3).toUInt64 >>> ((8 : Int32).toInt64.toUInt64 &&& Int64.toUInt64 63)).toInt64) (i5 + 1)
          else
            ((-2), (v 0 0), (v 1))
theorem mX3_append_L5_s {v : kG} {x1 : Int64} {n5 : Nat} {x5_3 : Int64} {i5 : Nat} : mX3_append_L5 v x1 (n5 + 1) x5_3 i5 = (
    if 8 ≤ (nI i5) then
      if (nI i5) = 0 then
        ((-2), (v 0 0), (v 1))
      else
        if (lg_cmp x5_3 0) = 0 then
          if ((v 0 0) + (nI i5)) ≤ 80 then
            mX3_append_L95 v x1 x5_3 i5 9 ((nI i5) - 1) (v 1) (v 0 0)
          else
            ((-4), (v 0 0), (v 1))
        else
          ((-2), (v 0 0), (v 1))
    else
      if (lg_cmp (x5_3 &&& 255) 0) = 0 then
        if (nI i5) = 0 then
          ((-2), (v 0 0), (v 1))
        else
          if (lg_cmp x5_3 0) = 0 then
            if ((v 0 0) + (nI i5)) ≤ 80 then
              mX3_append_L95 v x1 x5_3 i5 9 ((nI i5) - 1) (v 1) (v 0 0)
            else
              ((-4), (v 0 0), (v 1))
          else
            ((-2), (v 0 0), (v 1))
      else
        if (lg_cmp (x5_3 &&& 255) 33) < 0 then
          ((-2), (v 0 0), (v 1))
        else
          if (lg_cmp (x5_3 &&& 255) 126) ≤ 0 then
            mX3_append_L5 v x1 n5 (((x5_3).toUInt64 >>> ((8 : Int32).toInt64.toUInt64 &&& Int64.toUInt64 63)).toInt64) (i5 + 1)
          else
            ((-2), (v 0 0), (v 1)) : Int32 × Int32 × (Nat → Int32)) := rfl
def mX3_append (v : kG) (x1 : Int64) : Int32 × Int32 × (Nat → Int32) :=
  mX3_append_L5 v x1 9 x1 0
theorem mX3_append_s {v : kG} {x1 : Int64} : mX3_append v x1 = (
  mX3_append_L5 v x1 9 x1 0 : Int32 × Int32 × (Nat → Int32)) := rfl
set_option maxHeartbeats 400000 in
set_option maxRecDepth 100000 in
theorem c_X3_append (l : Launch) (E : kE) (a : Nat → Nat) (v : kG) (hj : kInj a 2) (x1 : Int64) (hp : pLn (v 0 0)) (R : Int32 × Int32 × (Nat → Int32)) (hE : R = mX3_append v x1) : Met l yX3_append wsX3_append ({ frames := 0, cells := 0, slots := 0, locals := 0 }) (kPre E [.ref (a 0), .long x1] (wPadx E a (v 0 0) (v 0 1) (v 0 2) (v 0 3) (v 0 4) (v 0 5) (v 0 6) (v 1))) (kWi E R.1 (wPadx E a R.2.1 (v 0 1) (v 0 2) (v 0 3) (v 0 4) (v 0 5) (v 0 6) R.2.2) (kA a 2)) 0 0 (kA a 2) := by
  refine Met.ofW (cc := cX3_append) (maxL := 7) (ret := (some .int)) (by decide) rfl ?_
  intro p e s m args below meth c s₁ B hml hv
  obtain ⟨rfl, hK, hP⟩ := hv
  have hx := B.exec
  have hb := B.bytes
  have hr := B.returns
  have hts := atoms_spec (ws := wsX3_append) B.pre
  have hown : s.vm.findClass RX3 = some m.cls := findClass_of_methodNamed B.named
  have hlocks := B.notSynchronized
  have hiX3 : ∀ w ∈ wsX30, w ∈ wsX3_append := by decide +kernel
  have hf9 := hts (.fieldLink RX3 9 "SkewEdges$Pad" "signs" "[C") (by decide +kernel)
  have hf21 := hts (.fieldLink RX3 21 "SkewEdges$Pad" "length" "I") (by decide +kernel)
  have hS : va_S (kA a 2) s.heap s.heap [] := va_S.rf
  have hP : va_P E.1 vwCl (wPadx E a (v 0 0) (v 0 1) (v 0 2) (v 0 3) (v 0 4) (v 0 5) (v 0 6) (v 1)) s.heap := hP
  have hD := dPad (E := E) hj (v 0 0) (v 0 1) (v 0 2) (v 0 3) (v 0 4) (v 0 5) (v 0 6) (v 1)
  have hl := lv_entry ([.ref (a 0), .long x1]) (n := 7) (Nat.le_of_ble_eq_true rfl)
  rw [lg_entry_eq]
  generalize (lg_sl ([.ref (a 0), .long x1]) ++ List.replicate (7 - (lg_sl ([.ref (a 0), .long x1])).length) Slot.unset).toArray = ls at hl ⊢
  have hl : lv_has ls 7 [(0, .ref (a 0)), (1, .long x1)] := hl
  replace hE := hE.trans mX3_append_s
  refine lv_lload_n hx hb dX3_append_0 rfl (lv_at hl 1 rfl) ?_
  refine lv_lstore_n (lv' := [(3, .long x1), (0, .ref (a 0)), (1, .long x1)]) hx hb dX3_append_1 rfl hl (by decide) rfl (fun ls hl => ?_)
  refine lv_iconst (v := 0) hx hb dX3_append_2 (by decide) ?_
  refine lv_istore (lv' := [(5, .int 0), (3, .long x1), (0, .ref (a 0)), (1, .long x1)]) hx hb dX3_append_3 hl (by decide) rfl (fun ls hl => ?_)
  have lp5 : ∀ (n5 : Nat) (x5_3 : Int64) (i5 : Nat) (H : Heap) (locs : List Loc), (8 < i5 + n5) → (i5 ≤ 8) → va_P E.1 vwCl (wPadx E a (v 0 0) (v 0 1) (v 0 2) (v 0 3) (v 0 4) (v 0 5) (v 0 6) (v 1)) H → va_S (kA a 2) s.heap H locs → ∀ ls : Array Slot, lv_has ls 7 [(5, .int (nI i5)), (3, .long x5_3), (0, .ref (a 0)), (1, .long x1)] → R = mX3_append_L5 v x1 n5 x5_3 i5 → W p l e ({ frames := 0, cells := 0, slots := 0, locals := 0 }) s m ([.ref (a 0), .long x1] : List Value).toArray below meth c H locs 0 0 (MQ below (kWi E R.1 (wPadx E a R.2.1 (v 0 1) (v 0 2) (v 0 3) (v 0 4) (v 0 5) (v 0 6) R.2.2) (kA a 2)) ([.ref (a 0), .long x1] : List Value).toArray s 0 0 (kA a 2)) (F0 m 5 ls []) := by
    clear hE
    intro n5
    induction n5 with
    | zero =>
      intro x5_3 i5 H locs hm5 hi5 hP hS ls hl hE
      exact absurd hm5 (by omega)
    | succ n5 ih5 =>
      intro x5_3 i5 H locs hm5 hi5 hP hS ls hl hE
      have hD := dPad (E := E) hj (v 0 0) (v 0 1) (v 0 2) (v 0 3) (v 0 4) (v 0 5) (v 0 6) (v 1)
      replace hE := hE.trans mX3_append_L5_s
      refine lv_iload hx hb dX3_append_5 (lv_at hl 0 rfl) ?_
      refine lv_bipush (v := 8) hx hb dX3_append_7 (by decide) ?_
      refine lv_icmp_ge (tgt := 60) hx hb dX3_append_9 (by decide) (fun c_1 => ?_) (fun c_1 => ?_)
      · replace hE := hE.trans (if_pos c_1)
        refine lv_iload hx hb dX3_append_60 (lv_at hl 0 rfl) ?_
        refine lv_if_eq (tgt := 71) hx hb dX3_append_62 (by decide) (fun c_2 => ?_) (fun c_2 => ?_)
        · replace hE := hE.trans (if_pos c_2)
          refine lv_bipush (v := (-2)) hx hb dX3_append_71 (by decide) ?_
          subst R
          exact W.iret (v := (-2)) hx hb hr (fun t ht hW => ⟨rfl, by rw [ht]; exact hP, hS.F ht⟩) hS.2.2 dX3_append_73
        · replace hE := hE.trans (if_neg c_2)
          refine lv_lload_n hx hb dX3_append_65 rfl (lv_at hl 1 rfl) ?_
          refine lv_lconst (v := 0) hx hb dX3_append_66 (by decide) ?_
          refine W.lcmp hx hb dX3_append_67 ?_
          refine lv_if_eq (tgt := 74) hx hb dX3_append_68 (by decide) (fun c_3 => ?_) (fun c_3 => ?_)
          · replace hE := hE.trans (if_pos c_3)
            refine lv_aload_n hx hb dX3_append_74 rfl (lv_at hl 2 rfl) ?_
            refine va_get (D := E.1) (ci := 2) (v := .int (v 0 0)) (C := RX3) (T := TX3) (N := 8) hx hb hts hiX3 hown hK.1 hP 0 rfl rfl 0 (by decide) hf21 (fun _ h9 => h9) rfl dX3_append_75 ?_
            refine lv_iload hx hb dX3_append_78 (lv_at hl 0 rfl) ?_
            refine lv_iadd hx hb dX3_append_80 ?_
            refine lv_bipush (v := 80) hx hb dX3_append_81 (by decide) ?_
            refine lv_icmp_le (tgt := 89) hx hb dX3_append_83 (by decide) (fun c_4 => ?_) (fun c_4 => ?_)
            · replace hE := hE.trans (if_pos c_4)
              refine lv_iload hx hb dX3_append_89 (lv_at hl 0 rfl) ?_
              refine lv_iconst (v := 1) hx hb dX3_append_91 (by decide) ?_
              refine lv_isub hx hb dX3_append_92 ?_
              refine lv_istore (lv' := [(6, .int ((nI i5) - 1)), (5, .int (nI i5)), (3, .long x5_3), (0, .ref (a 0)), (1, .long x1)]) hx hb dX3_append_93 hl (by decide) rfl (fun ls hl => ?_)
              have lp95 : ∀ (n95 : Nat) (x95_6 : Int32) (f95_0_1 : (Nat → Int32)) (q95_0_0 : Int32) (H : Heap) (locs : List Loc), (pAp x95_6 q95_0_0 n95) → va_P E.1 vwCl (wPadx E a q95_0_0 (v 0 1) (v 0 2) (v 0 3) (v 0 4) (v 0 5) (v 0 6) f95_0_1) H → va_S (kA a 2) s.heap H locs → ∀ ls : Array Slot, lv_has ls 7 [(6, .int x95_6), (5, .int (nI i5)), (3, .long x5_3), (0, .ref (a 0)), (1, .long x1)] → R = mX3_append_L95 v x1 x5_3 i5 n95 x95_6 f95_0_1 q95_0_0 → W p l e ({ frames := 0, cells := 0, slots := 0, locals := 0 }) s m ([.ref (a 0), .long x1] : List Value).toArray below meth c H locs 0 0 (MQ below (kWi E R.1 (wPadx E a R.2.1 (v 0 1) (v 0 2) (v 0 3) (v 0 4) (v 0 5) (v 0 6) R.2.2) (kA a 2)) ([.ref (a 0), .long x1] : List Value).toArray s 0 0 (kA a 2)) (F0 m 95 ls []) := by
                clear hE
                intro n95
                induction n95 with
                | zero =>
                  intro x95_6 f95_0_1 q95_0_0 H locs hm95  hP hS ls hl hE
                  exact hm95.no.elim
                | succ n95 ih95 =>
                  intro x95_6 f95_0_1 q95_0_0 H locs hm95  hP hS ls hl hE
                  have hD := dPad (E := E) hj q95_0_0 (v 0 1) (v 0 2) (v 0 3) (v 0 4) (v 0 5) (v 0 6) f95_0_1
                  replace hE := hE.trans mX3_append_L95_s
                  refine lv_iload hx hb dX3_append_95 (lv_at hl 0 rfl) ?_
                  refine lv_if_lt (tgt := 138) hx hb dX3_append_97 (by decide) (fun c_5 => ?_) (fun c_5 => ?_)
                  · replace hE := hE.trans (if_pos c_5)
                    refine lv_aload_n hx hb dX3_append_138 rfl (lv_at hl 3 rfl) ?_
                    refine va_get (D := E.1) (ci := 2) (v := .int q95_0_0) (C := RX3) (T := TX3) (N := 8) hx hb hts hiX3 hown hK.1 hP 0 rfl rfl 0 (by decide) hf21 (fun _ h9 => h9) rfl dX3_append_139 ?_
                    subst R
                    exact W.iret (v := q95_0_0) hx hb hr (fun t ht hW => ⟨rfl, by rw [ht]; exact hP, hS.F ht⟩) hS.2.2 dX3_append_142
                  · replace hE := hE.trans (if_neg c_5)
                    refine lv_aload_n hx hb dX3_append_100 rfl (lv_at hl 3 rfl) ?_
                    refine va_get (D := E.1) (ci := 2) (v := .ref (a 1)) (C := RX3) (T := TX3) (N := 8) hx hb hts hiX3 hown hK.1 hP 0 rfl rfl 7 (by decide) hf9 (fun _ h9 => h9) rfl dX3_append_101 ?_
                    refine lv_aload_n hx hb dX3_append_104 rfl (lv_at hl 3 rfl) ?_
                    refine va_get (D := E.1) (ci := 2) (v := .int q95_0_0) (C := RX3) (T := TX3) (N := 8) hx hb hts hiX3 hown hK.1 hP 0 rfl rfl 0 (by decide) hf21 (fun _ h9 => h9) rfl dX3_append_105 ?_
                    refine lv_lload_n hx hb dX3_append_108 rfl (lv_at hl 4 rfl) ?_
                    refine lv_bipush (v := 8) hx hb dX3_append_109 (by decide) ?_
                    refine lv_iload hx hb dX3_append_111 (lv_at hl 0 rfl) ?_
                    refine lv_imul hx hb dX3_append_113 ?_
                    refine lv_lushr (v := (((x1).toUInt64 >>> (((8 * x95_6) : Int32).toInt64.toUInt64 &&& Int64.toUInt64 63)).toInt64)) hx hb dX3_append_114 rfl ?_
                    refine lv_ldc2 (v := 255) hx hb hown (hts (.constantLong RX3 15 255) (by decide +kernel)) dX3_append_115 ?_
                    refine lv_land hx hb dX3_append_118 ?_
                    refine lv_l2i (v := ((((((x1).toUInt64 >>> (((8 * x95_6) : Int32).toInt64.toUInt64 &&& Int64.toUInt64 63)).toInt64) &&& 255) : Int64).toInt32)) hx hb dX3_append_119 rfl ?_
                    refine lv_i2c (v := (((((((((x1).toUInt64 >>> (((8 * x95_6) : Int32).toInt64.toUInt64 &&& Int64.toUInt64 63)).toInt64) &&& 255) : Int64).toInt32) : Int32).toUInt32 % 65536).toInt32)) hx hb dX3_append_120 rfl ?_
                    refine va_cast (D := E.1) hx hb hK.1 hP hD hS 1 2 rfl rfl (hm95.in80 (by assumption)) dX3_append_121 (fun H locs hP _ hS => ?_)
                    have hP : va_P E.1 vwCl (wPadx E a q95_0_0 (v 0 1) (v 0 2) (v 0 3) (v 0 4) (v 0 5) (v 0 6) (upd f95_0_1 (q95_0_0).toNatClampNeg (vp_nar .char (((((((((x1).toUInt64 >>> (((8 * x95_6) : Int32).toInt64.toUInt64 &&& Int64.toUInt64 63)).toInt64) &&& 255) : Int64).toInt32) : Int32).toUInt32 % 65536).toInt32)))) H := hP
                    have hD := dPad (E := E) hj q95_0_0 (v 0 1) (v 0 2) (v 0 3) (v 0 4) (v 0 5) (v 0 6) (upd f95_0_1 (q95_0_0).toNatClampNeg (vp_nar .char (((((((((x1).toUInt64 >>> (((8 * x95_6) : Int32).toInt64.toUInt64 &&& Int64.toUInt64 63)).toInt64) &&& 255) : Int64).toInt32) : Int32).toUInt32 % 65536).toInt32)))
                    refine lv_aload_n hx hb dX3_append_122 rfl (lv_at hl 3 rfl) ?_
                    refine lv_dup hx hb dX3_append_123 rfl ?_
                    refine va_get (D := E.1) (ci := 2) (v := .int q95_0_0) (C := RX3) (T := TX3) (N := 8) hx hb hts hiX3 hown hK.1 hP 0 rfl rfl 0 (by decide) hf21 (fun _ h9 => h9) rfl dX3_append_124 ?_
                    refine lv_iconst (v := 1) hx hb dX3_append_127 (by decide) ?_
                    refine lv_iadd hx hb dX3_append_128 ?_
                    refine va_put (D := E.1) (ci := 2) (v := .int (q95_0_0 + 1)) (ty := .int) (C := RX3) (T := TX3) (N := 8) hx hb hts hiX3 tyX3 tyX3_ok nmX3 hown hK.1 hP hD hS 0 rfl rfl 0 (by decide) hf21 (fun _ h9 => h9) rfl (by decide +kernel) rfl rfl (Nat.le_of_ble_eq_true rfl) dX3_append_129 (fun H locs hP _ hS => ?_)
                    have hP : va_P E.1 vwCl (wPadx E a (q95_0_0 + 1) (v 0 1) (v 0 2) (v 0 3) (v 0 4) (v 0 5) (v 0 6) (upd f95_0_1 (q95_0_0).toNatClampNeg (vp_nar .char (((((((((x1).toUInt64 >>> (((8 * x95_6) : Int32).toInt64.toUInt64 &&& Int64.toUInt64 63)).toInt64) &&& 255) : Int64).toInt32) : Int32).toUInt32 % 65536).toInt32)))) H := hP
                    have hD := dPad (E := E) hj (q95_0_0 + 1) (v 0 1) (v 0 2) (v 0 3) (v 0 4) (v 0 5) (v 0 6) (upd f95_0_1 (q95_0_0).toNatClampNeg (vp_nar .char (((((((((x1).toUInt64 >>> (((8 * x95_6) : Int32).toInt64.toUInt64 &&& Int64.toUInt64 63)).toInt64) &&& 255) : Int64).toInt32) : Int32).toUInt32 % 65536).toInt32)))
                    refine lv_iinc (v := (x95_6 + (-1))) (lv' := [(6, .int (x95_6 + (-1))), (5, .int (nI i5)), (3, .long x5_3), (0, .ref (a 0)), (1, .long x1)]) hx hb dX3_append_132 hl (k := 0) rfl rfl (by decide) rfl (fun ls hl => ?_)
                    refine lv_goto (tgt := 95) hx hb dX3_append_135 (by decide) ?_
                    exact ih95 (x95_6 + (-1)) (upd f95_0_1 (q95_0_0).toNatClampNeg (vp_nar .char (((((((((x1).toUInt64 >>> (((8 * x95_6) : Int32).toInt64.toUInt64 &&& Int64.toUInt64 63)).toInt64) &&& 255) : Int64).toInt32) : Int32).toUInt32 % 65536).toInt32))) (q95_0_0 + 1) _ _ (hm95.step (by assumption)) hP hS ls (lv_sub hl [0, 1, 2, 3, 4] rfl) hE
              exact lp95 9 ((nI i5) - 1) (v 1) (v 0 0) _ _ (pAp.init hp (by assumption) (by assumption)) hP hS ls (lv_sub hl [0, 1, 2, 3, 4] rfl) hE
            · replace hE := hE.trans (if_neg c_4)
              refine lv_bipush (v := (-4)) hx hb dX3_append_86 (by decide) ?_
              subst R
              exact W.iret (v := (-4)) hx hb hr (fun t ht hW => ⟨rfl, by rw [ht]; exact hP, hS.F ht⟩) hS.2.2 dX3_append_88
          · replace hE := hE.trans (if_neg c_3)
            refine lv_bipush (v := (-2)) hx hb dX3_append_71 (by decide) ?_
            subst R
            exact W.iret (v := (-2)) hx hb hr (fun t ht hW => ⟨rfl, by rw [ht]; exact hP, hS.F ht⟩) hS.2.2 dX3_append_73
      · replace hE := hE.trans (if_neg c_1)
        have hbc_1 : i5 < 8 := nI_nle_lt ⟨by omega, by omega⟩ c_1
        refine lv_lload_n hx hb dX3_append_12 rfl (lv_at hl 1 rfl) ?_
        refine lv_ldc2 (v := 255) hx hb hown (hts (.constantLong RX3 15 255) (by decide +kernel)) dX3_append_13 ?_
        refine lv_land hx hb dX3_append_16 ?_
        refine lv_lconst (v := 0) hx hb dX3_append_17 (by decide) ?_
        refine W.lcmp hx hb dX3_append_18 ?_
        refine lv_if_eq (tgt := 60) hx hb dX3_append_19 (by decide) (fun c_6 => ?_) (fun c_6 => ?_)
        · replace hE := hE.trans (if_pos c_6)
          refine lv_iload hx hb dX3_append_60 (lv_at hl 0 rfl) ?_
          refine lv_if_eq (tgt := 71) hx hb dX3_append_62 (by decide) (fun c_7 => ?_) (fun c_7 => ?_)
          · replace hE := hE.trans (if_pos c_7)
            refine lv_bipush (v := (-2)) hx hb dX3_append_71 (by decide) ?_
            subst R
            exact W.iret (v := (-2)) hx hb hr (fun t ht hW => ⟨rfl, by rw [ht]; exact hP, hS.F ht⟩) hS.2.2 dX3_append_73
          · replace hE := hE.trans (if_neg c_7)
            refine lv_lload_n hx hb dX3_append_65 rfl (lv_at hl 1 rfl) ?_
            refine lv_lconst (v := 0) hx hb dX3_append_66 (by decide) ?_
            refine W.lcmp hx hb dX3_append_67 ?_
            refine lv_if_eq (tgt := 74) hx hb dX3_append_68 (by decide) (fun c_8 => ?_) (fun c_8 => ?_)
            · replace hE := hE.trans (if_pos c_8)
              refine lv_aload_n hx hb dX3_append_74 rfl (lv_at hl 2 rfl) ?_
              refine va_get (D := E.1) (ci := 2) (v := .int (v 0 0)) (C := RX3) (T := TX3) (N := 8) hx hb hts hiX3 hown hK.1 hP 0 rfl rfl 0 (by decide) hf21 (fun _ h9 => h9) rfl dX3_append_75 ?_
              refine lv_iload hx hb dX3_append_78 (lv_at hl 0 rfl) ?_
              refine lv_iadd hx hb dX3_append_80 ?_
              refine lv_bipush (v := 80) hx hb dX3_append_81 (by decide) ?_
              refine lv_icmp_le (tgt := 89) hx hb dX3_append_83 (by decide) (fun c_9 => ?_) (fun c_9 => ?_)
              · replace hE := hE.trans (if_pos c_9)
                refine lv_iload hx hb dX3_append_89 (lv_at hl 0 rfl) ?_
                refine lv_iconst (v := 1) hx hb dX3_append_91 (by decide) ?_
                refine lv_isub hx hb dX3_append_92 ?_
                refine lv_istore (lv' := [(6, .int ((nI i5) - 1)), (5, .int (nI i5)), (3, .long x5_3), (0, .ref (a 0)), (1, .long x1)]) hx hb dX3_append_93 hl (by decide) rfl (fun ls hl => ?_)
                have lp95 : ∀ (n95 : Nat) (x95_6 : Int32) (f95_0_1 : (Nat → Int32)) (q95_0_0 : Int32) (H : Heap) (locs : List Loc), (pAp x95_6 q95_0_0 n95) → va_P E.1 vwCl (wPadx E a q95_0_0 (v 0 1) (v 0 2) (v 0 3) (v 0 4) (v 0 5) (v 0 6) f95_0_1) H → va_S (kA a 2) s.heap H locs → ∀ ls : Array Slot, lv_has ls 7 [(6, .int x95_6), (5, .int (nI i5)), (3, .long x5_3), (0, .ref (a 0)), (1, .long x1)] → R = mX3_append_L95 v x1 x5_3 i5 n95 x95_6 f95_0_1 q95_0_0 → W p l e ({ frames := 0, cells := 0, slots := 0, locals := 0 }) s m ([.ref (a 0), .long x1] : List Value).toArray below meth c H locs 0 0 (MQ below (kWi E R.1 (wPadx E a R.2.1 (v 0 1) (v 0 2) (v 0 3) (v 0 4) (v 0 5) (v 0 6) R.2.2) (kA a 2)) ([.ref (a 0), .long x1] : List Value).toArray s 0 0 (kA a 2)) (F0 m 95 ls []) := by
                  clear hE
                  intro n95
                  induction n95 with
                  | zero =>
                    intro x95_6 f95_0_1 q95_0_0 H locs hm95  hP hS ls hl hE
                    exact hm95.no.elim
                  | succ n95 ih95 =>
                    intro x95_6 f95_0_1 q95_0_0 H locs hm95  hP hS ls hl hE
                    have hD := dPad (E := E) hj q95_0_0 (v 0 1) (v 0 2) (v 0 3) (v 0 4) (v 0 5) (v 0 6) f95_0_1
                    replace hE := hE.trans mX3_append_L95_s
                    refine lv_iload hx hb dX3_append_95 (lv_at hl 0 rfl) ?_
                    refine lv_if_lt (tgt := 138) hx hb dX3_append_97 (by decide) (fun c_5 => ?_) (fun c_5 => ?_)
                    · replace hE := hE.trans (if_pos c_5)
                      refine lv_aload_n hx hb dX3_append_138 rfl (lv_at hl 3 rfl) ?_
                      refine va_get (D := E.1) (ci := 2) (v := .int q95_0_0) (C := RX3) (T := TX3) (N := 8) hx hb hts hiX3 hown hK.1 hP 0 rfl rfl 0 (by decide) hf21 (fun _ h9 => h9) rfl dX3_append_139 ?_
                      subst R
                      exact W.iret (v := q95_0_0) hx hb hr (fun t ht hW => ⟨rfl, by rw [ht]; exact hP, hS.F ht⟩) hS.2.2 dX3_append_142
                    · replace hE := hE.trans (if_neg c_5)
                      refine lv_aload_n hx hb dX3_append_100 rfl (lv_at hl 3 rfl) ?_
                      refine va_get (D := E.1) (ci := 2) (v := .ref (a 1)) (C := RX3) (T := TX3) (N := 8) hx hb hts hiX3 hown hK.1 hP 0 rfl rfl 7 (by decide) hf9 (fun _ h9 => h9) rfl dX3_append_101 ?_
                      refine lv_aload_n hx hb dX3_append_104 rfl (lv_at hl 3 rfl) ?_
                      refine va_get (D := E.1) (ci := 2) (v := .int q95_0_0) (C := RX3) (T := TX3) (N := 8) hx hb hts hiX3 hown hK.1 hP 0 rfl rfl 0 (by decide) hf21 (fun _ h9 => h9) rfl dX3_append_105 ?_
                      refine lv_lload_n hx hb dX3_append_108 rfl (lv_at hl 4 rfl) ?_
                      refine lv_bipush (v := 8) hx hb dX3_append_109 (by decide) ?_
                      refine lv_iload hx hb dX3_append_111 (lv_at hl 0 rfl) ?_
                      refine lv_imul hx hb dX3_append_113 ?_
                      refine lv_lushr (v := (((x1).toUInt64 >>> (((8 * x95_6) : Int32).toInt64.toUInt64 &&& Int64.toUInt64 63)).toInt64)) hx hb dX3_append_114 rfl ?_
                      refine lv_ldc2 (v := 255) hx hb hown (hts (.constantLong RX3 15 255) (by decide +kernel)) dX3_append_115 ?_
                      refine lv_land hx hb dX3_append_118 ?_
                      refine lv_l2i (v := ((((((x1).toUInt64 >>> (((8 * x95_6) : Int32).toInt64.toUInt64 &&& Int64.toUInt64 63)).toInt64) &&& 255) : Int64).toInt32)) hx hb dX3_append_119 rfl ?_
                      refine lv_i2c (v := (((((((((x1).toUInt64 >>> (((8 * x95_6) : Int32).toInt64.toUInt64 &&& Int64.toUInt64 63)).toInt64) &&& 255) : Int64).toInt32) : Int32).toUInt32 % 65536).toInt32)) hx hb dX3_append_120 rfl ?_
                      refine va_cast (D := E.1) hx hb hK.1 hP hD hS 1 2 rfl rfl (hm95.in80 (by assumption)) dX3_append_121 (fun H locs hP _ hS => ?_)
                      have hP : va_P E.1 vwCl (wPadx E a q95_0_0 (v 0 1) (v 0 2) (v 0 3) (v 0 4) (v 0 5) (v 0 6) (upd f95_0_1 (q95_0_0).toNatClampNeg (vp_nar .char (((((((((x1).toUInt64 >>> (((8 * x95_6) : Int32).toInt64.toUInt64 &&& Int64.toUInt64 63)).toInt64) &&& 255) : Int64).toInt32) : Int32).toUInt32 % 65536).toInt32)))) H := hP
                      have hD := dPad (E := E) hj q95_0_0 (v 0 1) (v 0 2) (v 0 3) (v 0 4) (v 0 5) (v 0 6) (upd f95_0_1 (q95_0_0).toNatClampNeg (vp_nar .char (((((((((x1).toUInt64 >>> (((8 * x95_6) : Int32).toInt64.toUInt64 &&& Int64.toUInt64 63)).toInt64) &&& 255) : Int64).toInt32) : Int32).toUInt32 % 65536).toInt32)))
                      refine lv_aload_n hx hb dX3_append_122 rfl (lv_at hl 3 rfl) ?_
                      refine lv_dup hx hb dX3_append_123 rfl ?_
                      refine va_get (D := E.1) (ci := 2) (v := .int q95_0_0) (C := RX3) (T := TX3) (N := 8) hx hb hts hiX3 hown hK.1 hP 0 rfl rfl 0 (by decide) hf21 (fun _ h9 => h9) rfl dX3_append_124 ?_
                      refine lv_iconst (v := 1) hx hb dX3_append_127 (by decide) ?_
                      refine lv_iadd hx hb dX3_append_128 ?_
                      refine va_put (D := E.1) (ci := 2) (v := .int (q95_0_0 + 1)) (ty := .int) (C := RX3) (T := TX3) (N := 8) hx hb hts hiX3 tyX3 tyX3_ok nmX3 hown hK.1 hP hD hS 0 rfl rfl 0 (by decide) hf21 (fun _ h9 => h9) rfl (by decide +kernel) rfl rfl (Nat.le_of_ble_eq_true rfl) dX3_append_129 (fun H locs hP _ hS => ?_)
                      have hP : va_P E.1 vwCl (wPadx E a (q95_0_0 + 1) (v 0 1) (v 0 2) (v 0 3) (v 0 4) (v 0 5) (v 0 6) (upd f95_0_1 (q95_0_0).toNatClampNeg (vp_nar .char (((((((((x1).toUInt64 >>> (((8 * x95_6) : Int32).toInt64.toUInt64 &&& Int64.toUInt64 63)).toInt64) &&& 255) : Int64).toInt32) : Int32).toUInt32 % 65536).toInt32)))) H := hP
                      have hD := dPad (E := E) hj (q95_0_0 + 1) (v 0 1) (v 0 2) (v 0 3) (v 0 4) (v 0 5) (v 0 6) (upd f95_0_1 (q95_0_0).toNatClampNeg (vp_nar .char (((((((((x1).toUInt64 >>> (((8 * x95_6) : Int32).toInt64.toUInt64 &&& Int64.toUInt64 63)).toInt64) &&& 255) : Int64).toInt32) : Int32).toUInt32 % 65536).toInt32)))
                      refine lv_iinc (v := (x95_6 + (-1))) (lv' := [(6, .int (x95_6 + (-1))), (5, .int (nI i5)), (3, .long x5_3), (0, .ref (a 0)), (1, .long x1)]) hx hb dX3_append_132 hl (k := 0) rfl rfl (by decide) rfl (fun ls hl => ?_)
                      refine lv_goto (tgt := 95) hx hb dX3_append_135 (by decide) ?_
                      exact ih95 (x95_6 + (-1)) (upd f95_0_1 (q95_0_0).toNatClampNeg (vp_nar .char (((((((((x1).toUInt64 >>> (((8 * x95_6) : Int32).toInt64.toUInt64 &&& Int64.toUInt64 63)).toInt64) &&& 255) : Int64).toInt32) : Int32).toUInt32 % 65536).toInt32))) (q95_0_0 + 1) _ _ (hm95.step (by assumption)) hP hS ls (lv_sub hl [0, 1, 2, 3, 4] rfl) hE
                exact lp95 9 ((nI i5) - 1) (v 1) (v 0 0) _ _ (pAp.init hp (by assumption) (by assumption)) hP hS ls (lv_sub hl [0, 1, 2, 3, 4] rfl) hE
              · replace hE := hE.trans (if_neg c_9)
                refine lv_bipush (v := (-4)) hx hb dX3_append_86 (by decide) ?_
                subst R
                exact W.iret (v := (-4)) hx hb hr (fun t ht hW => ⟨rfl, by rw [ht]; exact hP, hS.F ht⟩) hS.2.2 dX3_append_88
            · replace hE := hE.trans (if_neg c_8)
              refine lv_bipush (v := (-2)) hx hb dX3_append_71 (by decide) ?_
              subst R
              exact W.iret (v := (-2)) hx hb hr (fun t ht hW => ⟨rfl, by rw [ht]; exact hP, hS.F ht⟩) hS.2.2 dX3_append_73
        · replace hE := hE.trans (if_neg c_6)
          refine lv_lload_n hx hb dX3_append_22 rfl (lv_at hl 1 rfl) ?_
          refine lv_ldc2 (v := 255) hx hb hown (hts (.constantLong RX3 15 255) (by decide +kernel)) dX3_append_23 ?_
          refine lv_land hx hb dX3_append_26 ?_
          refine lv_ldc2 (v := 33) hx hb hown (hts (.constantLong RX3 17 33) (by decide +kernel)) dX3_append_27 ?_
          refine W.lcmp hx hb dX3_append_30 ?_
          refine lv_if_lt (tgt := 46) hx hb dX3_append_31 (by decide) (fun c_10 => ?_) (fun c_10 => ?_)
          · replace hE := hE.trans (if_pos c_10)
            refine lv_bipush (v := (-2)) hx hb dX3_append_46 (by decide) ?_
            subst R
            exact W.iret (v := (-2)) hx hb hr (fun t ht hW => ⟨rfl, by rw [ht]; exact hP, hS.F ht⟩) hS.2.2 dX3_append_48
          · replace hE := hE.trans (if_neg c_10)
            refine lv_lload_n hx hb dX3_append_34 rfl (lv_at hl 1 rfl) ?_
            refine lv_ldc2 (v := 255) hx hb hown (hts (.constantLong RX3 15 255) (by decide +kernel)) dX3_append_35 ?_
            refine lv_land hx hb dX3_append_38 ?_
            refine lv_ldc2 (v := 126) hx hb hown (hts (.constantLong RX3 19 126) (by decide +kernel)) dX3_append_39 ?_
            refine W.lcmp hx hb dX3_append_42 ?_
            refine lv_if_le (tgt := 49) hx hb dX3_append_43 (by decide) (fun c_11 => ?_) (fun c_11 => ?_)
            · replace hE := hE.trans (if_pos c_11)
              refine lv_lload_n hx hb dX3_append_49 rfl (lv_at hl 1 rfl) ?_
              refine lv_bipush (v := 8) hx hb dX3_append_50 (by decide) ?_
              refine lv_lushr (v := (((x5_3).toUInt64 >>> ((8 : Int32).toInt64.toUInt64 &&& Int64.toUInt64 63)).toInt64)) hx hb dX3_append_52 rfl ?_
              refine lv_lstore_n (lv' := [(3, .long (((x5_3).toUInt64 >>> ((8 : Int32).toInt64.toUInt64 &&& Int64.toUInt64 63)).toInt64)), (5, .int (nI i5)), (0, .ref (a 0)), (1, .long x1)]) hx hb dX3_append_53 rfl hl (by decide) rfl (fun ls hl => ?_)
              refine lv_iinc (v := (nI (i5 + 1))) (lv' := [(5, .int (nI (i5 + 1))), (3, .long (((x5_3).toUInt64 >>> ((8 : Int32).toInt64.toUInt64 &&& Int64.toUInt64 63)).toInt64)), (0, .ref (a 0)), (1, .long x1)]) hx hb dX3_append_54 hl (k := 1) rfl (nI_1 i5) (by decide) rfl (fun ls hl => ?_)
              refine lv_goto (tgt := 5) hx hb dX3_append_57 (by decide) ?_
              exact ih5 (((x5_3).toUInt64 >>> ((8 : Int32).toInt64.toUInt64 &&& Int64.toUInt64 63)).toInt64) (i5 + 1) _ _ (by omega) (by omega) hP hS ls (lv_sub hl [0, 1, 2, 3] rfl) hE
            · replace hE := hE.trans (if_neg c_11)
              refine lv_bipush (v := (-2)) hx hb dX3_append_46 (by decide) ?_
              subst R
              exact W.iret (v := (-2)) hx hb hr (fun t ht hW => ⟨rfl, by rw [ht]; exact hP, hS.F ht⟩) hS.2.2 dX3_append_48
  exact lp5 9 x1 0 _ _ (by omega) (by omega) hP hS ls (lv_sub hl [0, 1, 2, 3] rfl) hE
def mX3_isDigitNext (v : kG) : Int32 :=
  if (v 0 0) ≤ (v 0 5) then
    0
  else
    if ((v 1) ((v 0 5)).toNatClampNeg) < 48 then
      0
    else
      if 57 < ((v 1) ((v 0 5)).toNatClampNeg) then
        0
      else
        1
theorem mX3_isDigitNext_s {v : kG} : mX3_isDigitNext v = (
  if (v 0 0) ≤ (v 0 5) then
    0
  else
    if ((v 1) ((v 0 5)).toNatClampNeg) < 48 then
      0
    else
      if 57 < ((v 1) ((v 0 5)).toNatClampNeg) then
        0
      else
        1 : Int32) := rfl
set_option maxHeartbeats 400000 in
set_option maxRecDepth 100000 in
theorem c_X3_isDigitNext (l : Launch) (E : kE) (a : Nat → Nat) (v : kG) (hp : pOK (v 0 0) (v 0 5)) (R : Int32) (hE : R = mX3_isDigitNext v) : Met l yX3_isDigitNext wsX3_isDigitNext ({ frames := 0, cells := 0, slots := 0, locals := 0 }) (kPre E [.ref (a 0)] (wPadx E a (v 0 0) (v 0 1) (v 0 2) (v 0 3) (v 0 4) (v 0 5) (v 0 6) (v 1))) (kRi R) 0 0 (fun _ => False) := by
  refine Met.ofW (cc := cX3_isDigitNext) (maxL := 1) (ret := (some .boolean)) (by decide) rfl ?_
  intro p e s m args below meth c s₁ B hml hv
  obtain ⟨rfl, hK, hP⟩ := hv
  have hx := B.exec
  have hb := B.bytes
  have hr := B.returns
  have hts := atoms_spec (ws := wsX3_isDigitNext) B.pre
  have hown : s.vm.findClass RX3 = some m.cls := findClass_of_methodNamed B.named
  have hlocks := B.notSynchronized
  have hiX3 : ∀ w ∈ wsX30, w ∈ wsX3_isDigitNext := by decide +kernel
  have hf9 := hts (.fieldLink RX3 9 "SkewEdges$Pad" "signs" "[C") (by decide +kernel)
  have hf21 := hts (.fieldLink RX3 21 "SkewEdges$Pad" "length" "I") (by decide +kernel)
  have hf25 := hts (.fieldLink RX3 25 "SkewEdges$Pad" "at" "I") (by decide +kernel)
  have hP : va_P E.1 vwCl (wPadx E a (v 0 0) (v 0 1) (v 0 2) (v 0 3) (v 0 4) (v 0 5) (v 0 6) (v 1)) s.heap := hP
  have hl := lv_entry ([.ref (a 0)]) (n := 1) (Nat.le_of_ble_eq_true rfl)
  rw [lg_entry_eq]
  generalize (lg_sl ([.ref (a 0)]) ++ List.replicate (1 - (lg_sl ([.ref (a 0)])).length) Slot.unset).toArray = ls at hl ⊢
  have hl : lv_has ls 1 [(0, .ref (a 0))] := hl
  replace hE := hE.trans mX3_isDigitNext_s
  refine lv_aload_n hx hb dX3_isDigitNext_0 rfl (lv_at hl 0 rfl) ?_
  refine va_get (D := E.1) (ci := 2) (v := .int (v 0 5)) (C := RX3) (T := TX3) (N := 8) hx hb hts hiX3 hown hK.1 hP 0 rfl rfl 5 (by decide) hf25 (fun _ h9 => h9) rfl dX3_isDigitNext_1 ?_
  refine lv_aload_n hx hb dX3_isDigitNext_4 rfl (lv_at hl 0 rfl) ?_
  refine va_get (D := E.1) (ci := 2) (v := .int (v 0 0)) (C := RX3) (T := TX3) (N := 8) hx hb hts hiX3 hown hK.1 hP 0 rfl rfl 0 (by decide) hf21 (fun _ h9 => h9) rfl dX3_isDigitNext_5 ?_
  refine lv_icmp_ge (tgt := 43) hx hb dX3_isDigitNext_8 (by decide) (fun c_1 => ?_) (fun c_1 => ?_)
  · replace hE := hE.trans (if_pos c_1)
    refine lv_iconst (v := 0) hx hb dX3_isDigitNext_43 (by decide) ?_
    subst R
    exact W.zret (v := 0) (ty := .boolean) hx hb hr rfl (fun t ht hW => ⟨rfl, ht⟩) (fun _ h => by cases h) dX3_isDigitNext_44
  · replace hE := hE.trans (if_neg c_1)
    have hlt := hp.lt c_1
    refine lv_aload_n hx hb dX3_isDigitNext_11 rfl (lv_at hl 0 rfl) ?_
    refine va_get (D := E.1) (ci := 2) (v := .ref (a 1)) (C := RX3) (T := TX3) (N := 8) hx hb hts hiX3 hown hK.1 hP 0 rfl rfl 7 (by decide) hf9 (fun _ h9 => h9) rfl dX3_isDigitNext_12 ?_
    refine lv_aload_n hx hb dX3_isDigitNext_15 rfl (lv_at hl 0 rfl) ?_
    refine va_get (D := E.1) (ci := 2) (v := .int (v 0 5)) (C := RX3) (T := TX3) (N := 8) hx hb hts hiX3 hown hK.1 hP 0 rfl rfl 5 (by decide) hf25 (fun _ h9 => h9) rfl dX3_isDigitNext_16 ?_
    refine va_cald (D := E.1) hx hb hK.1 hP 1 2 rfl rfl hlt.in80 dX3_isDigitNext_19 ?_
    refine lv_bipush (v := 48) hx hb dX3_isDigitNext_20 (by decide) ?_
    refine lv_icmp_lt (tgt := 43) hx hb dX3_isDigitNext_22 (by decide) (fun c_2 => ?_) (fun c_2 => ?_)
    · replace hE := hE.trans (if_pos c_2)
      refine lv_iconst (v := 0) hx hb dX3_isDigitNext_43 (by decide) ?_
      subst R
      exact W.zret (v := 0) (ty := .boolean) hx hb hr rfl (fun t ht hW => ⟨rfl, ht⟩) (fun _ h => by cases h) dX3_isDigitNext_44
    · replace hE := hE.trans (if_neg c_2)
      refine lv_aload_n hx hb dX3_isDigitNext_25 rfl (lv_at hl 0 rfl) ?_
      refine va_get (D := E.1) (ci := 2) (v := .ref (a 1)) (C := RX3) (T := TX3) (N := 8) hx hb hts hiX3 hown hK.1 hP 0 rfl rfl 7 (by decide) hf9 (fun _ h9 => h9) rfl dX3_isDigitNext_26 ?_
      refine lv_aload_n hx hb dX3_isDigitNext_29 rfl (lv_at hl 0 rfl) ?_
      refine va_get (D := E.1) (ci := 2) (v := .int (v 0 5)) (C := RX3) (T := TX3) (N := 8) hx hb hts hiX3 hown hK.1 hP 0 rfl rfl 5 (by decide) hf25 (fun _ h9 => h9) rfl dX3_isDigitNext_30 ?_
      refine va_cald (D := E.1) hx hb hK.1 hP 1 2 rfl rfl hlt.in80 dX3_isDigitNext_33 ?_
      refine lv_bipush (v := 57) hx hb dX3_isDigitNext_34 (by decide) ?_
      refine lv_icmp_gt (tgt := 43) hx hb dX3_isDigitNext_36 (by decide) (fun c_3 => ?_) (fun c_3 => ?_)
      · replace hE := hE.trans (if_pos c_3)
        refine lv_iconst (v := 0) hx hb dX3_isDigitNext_43 (by decide) ?_
        subst R
        exact W.zret (v := 0) (ty := .boolean) hx hb hr rfl (fun t ht hW => ⟨rfl, ht⟩) (fun _ h => by cases h) dX3_isDigitNext_44
      · replace hE := hE.trans (if_neg c_3)
        refine lv_iconst (v := 1) hx hb dX3_isDigitNext_39 (by decide) ?_
        refine lv_goto (tgt := 44) hx hb dX3_isDigitNext_40 (by decide) ?_
        subst R
        exact W.zret (v := 1) (ty := .boolean) hx hb hr rfl (fun t ht hW => ⟨rfl, ht⟩) (fun _ h => by cases h) dX3_isDigitNext_44
theorem isDigit_ok {v : kG} (h : pOK (v 0 0) (v 0 5)) (c : ¬ mX3_isDigitNext v = 0) : pLT (v 0 0) (v 0 5) := by
  unfold mX3_isDigitNext at c
  split at c
  · exact absurd rfl c
  · rename_i h2
    exact h.lt h2
def mX3_passNumber_L7 (v : kG) : Nat → Nat → Int32 → Int32 → (Int32 × Int32 × Int32)
  | 0, _, _, _ => (0, 0, 0)
  | n7 + 1, i7, q7_0_5, q7_0_6 =>
    if (mX3_isDigitNext (rset v 0 (upd (upd (v 0) 5 q7_0_5) 6 q7_0_6))) = 0 then
      if (nI i7) ≤ 0 then
        (0, q7_0_5, q7_0_6)
      else
        (1, q7_0_5, q7_0_6)
    else
      if 3 ≤ (nI i7) then
        if (nI i7) ≤ 0 then
          (0, q7_0_5, q7_0_6)
        else
          (1, q7_0_5, q7_0_6)
      else
        if (nI i7) = 0 then
          mX3_passNumber_L7 v n7 (i7 + 1) (q7_0_5 + 1) ((q7_0_6 * 10) + (((v 1) (q7_0_5).toNatClampNeg) - 48))
        else
          if q7_0_6 ≤ 0 then
            if (nI i7) ≤ 0 then
              (0, q7_0_5, q7_0_6)
            else
              (1, q7_0_5, q7_0_6)
          else
            mX3_passNumber_L7 v n7 (i7 + 1) (q7_0_5 + 1) ((q7_0_6 * 10) + (((v 1) (q7_0_5).toNatClampNeg) - 48))
theorem mX3_passNumber_L7_s {v : kG} {n7 : Nat} {i7 : Nat} {q7_0_5 : Int32} {q7_0_6 : Int32} : mX3_passNumber_L7 v (n7 + 1) i7 q7_0_5 q7_0_6 = (
    if (mX3_isDigitNext (rset v 0 (upd (upd (v 0) 5 q7_0_5) 6 q7_0_6))) = 0 then
      if (nI i7) ≤ 0 then
        (0, q7_0_5, q7_0_6)
      else
        (1, q7_0_5, q7_0_6)
    else
      if 3 ≤ (nI i7) then
        if (nI i7) ≤ 0 then
          (0, q7_0_5, q7_0_6)
        else
          (1, q7_0_5, q7_0_6)
      else
        if (nI i7) = 0 then
          mX3_passNumber_L7 v n7 (i7 + 1) (q7_0_5 + 1) ((q7_0_6 * 10) + (((v 1) (q7_0_5).toNatClampNeg) - 48))
        else
          if q7_0_6 ≤ 0 then
            if (nI i7) ≤ 0 then
              (0, q7_0_5, q7_0_6)
            else
              (1, q7_0_5, q7_0_6)
          else
            mX3_passNumber_L7 v n7 (i7 + 1) (q7_0_5 + 1) ((q7_0_6 * 10) + (((v 1) (q7_0_5).toNatClampNeg) - 48)) : Int32 × Int32 × Int32) := rfl
def mX3_passNumber (v : kG) : Int32 × Int32 × Int32 :=
  mX3_passNumber_L7 v 4 0 (v 0 5) 0
theorem mX3_passNumber_s {v : kG} : mX3_passNumber v = (
  mX3_passNumber_L7 v 4 0 (v 0 5) 0 : Int32 × Int32 × Int32) := rfl
set_option maxHeartbeats 400000 in
set_option maxRecDepth 100000 in
theorem c_X3_passNumber (l : Launch) (E : kE) (a : Nat → Nat) (v : kG) (hj : kInj a 2) (hp : pOK (v 0 0) (v 0 5)) (R : Int32 × Int32 × Int32) (hE : R = mX3_passNumber v) : Met l yX3_passNumber wsX3_passNumber ({ frames := 1, cells := 0, slots := 0, locals := 20 }) (kPre E [.ref (a 0)] (wPadx E a (v 0 0) (v 0 1) (v 0 2) (v 0 3) (v 0 4) (v 0 5) (v 0 6) (v 1))) (kWi E R.1 (wPadx E a (v 0 0) (v 0 1) (v 0 2) (v 0 3) (v 0 4) R.2.1 R.2.2 (v 1)) (kA a 2)) 0 0 (kA a 2) := by
  refine Met.ofW (cc := cX3_passNumber) (maxL := 2) (ret := (some .boolean)) (by decide) rfl ?_
  intro p e s m args below meth c s₁ B hml hv
  obtain ⟨rfl, hK, hP⟩ := hv
  have hx := B.exec
  have hb := B.bytes
  have hr := B.returns
  have hts := atoms_spec (ws := wsX3_passNumber) B.pre
  have hown : s.vm.findClass RX3 = some m.cls := findClass_of_methodNamed B.named
  have hlocks := B.notSynchronized
  have hiX3 : ∀ w ∈ wsX30, w ∈ wsX3_passNumber := by decide +kernel
  have hf9 := hts (.fieldLink RX3 9 "SkewEdges$Pad" "signs" "[C") (by decide +kernel)
  have hf25 := hts (.fieldLink RX3 25 "SkewEdges$Pad" "at" "I") (by decide +kernel)
  have hf54 := hts (.fieldLink RX3 54 "SkewEdges$Pad" "number" "I") (by decide +kernel)
  have hS : va_S (kA a 2) s.heap s.heap [] := va_S.rf
  have hP : va_P E.1 vwCl (wPadx E a (v 0 0) (v 0 1) (v 0 2) (v 0 3) (v 0 4) (v 0 5) (v 0 6) (v 1)) s.heap := hP
  have hD := dPad (E := E) hj (v 0 0) (v 0 1) (v 0 2) (v 0 3) (v 0 4) (v 0 5) (v 0 6) (v 1)
  have hl := lv_entry ([.ref (a 0)]) (n := 2) (Nat.le_of_ble_eq_true rfl)
  rw [lg_entry_eq]
  generalize (lg_sl ([.ref (a 0)]) ++ List.replicate (2 - (lg_sl ([.ref (a 0)])).length) Slot.unset).toArray = ls at hl ⊢
  have hl : lv_has ls 2 [(0, .ref (a 0))] := hl
  replace hE := hE.trans mX3_passNumber_s
  refine lv_aload_n hx hb dX3_passNumber_0 rfl (lv_at hl 0 rfl) ?_
  refine lv_iconst (v := 0) hx hb dX3_passNumber_1 (by decide) ?_
  refine va_put (D := E.1) (ci := 2) (v := .int 0) (ty := .int) (C := RX3) (T := TX3) (N := 8) hx hb hts hiX3 tyX3 tyX3_ok nmX3 hown hK.1 hP hD hS 0 rfl rfl 6 (by decide) hf54 (fun _ h9 => h9) rfl (by decide +kernel) rfl rfl (Nat.le_of_ble_eq_true rfl) dX3_passNumber_2 (fun H locs hP _ hS => ?_)
  have hP : va_P E.1 vwCl (wPadx E a (v 0 0) (v 0 1) (v 0 2) (v 0 3) (v 0 4) (v 0 5) 0 (v 1)) H := hP
  have hD := dPad (E := E) hj (v 0 0) (v 0 1) (v 0 2) (v 0 3) (v 0 4) (v 0 5) 0 (v 1)
  refine lv_iconst (v := 0) hx hb dX3_passNumber_5 (by decide) ?_
  refine lv_istore_n (lv' := [(1, .int 0), (0, .ref (a 0))]) hx hb dX3_passNumber_6 rfl hl (by decide) rfl (fun ls hl => ?_)
  have lp7 : ∀ (n7 : Nat) (i7 : Nat) (q7_0_5 : Int32) (q7_0_6 : Int32) (H : Heap) (locs : List Loc), (3 < i7 + n7) → (i7 ≤ 3) → (pOK (v 0 0) q7_0_5) → va_P E.1 vwCl (wPadx E a (v 0 0) (v 0 1) (v 0 2) (v 0 3) (v 0 4) q7_0_5 q7_0_6 (v 1)) H → va_S (kA a 2) s.heap H locs → ∀ ls : Array Slot, lv_has ls 2 [(1, .int (nI i7)), (0, .ref (a 0))] → R = mX3_passNumber_L7 v n7 i7 q7_0_5 q7_0_6 → W p l e ({ frames := 1, cells := 0, slots := 0, locals := 20 }) s m ([.ref (a 0)] : List Value).toArray below meth c H locs 0 0 (MQ below (kWi E R.1 (wPadx E a (v 0 0) (v 0 1) (v 0 2) (v 0 3) (v 0 4) R.2.1 R.2.2 (v 1)) (kA a 2)) ([.ref (a 0)] : List Value).toArray s 0 0 (kA a 2)) (F0 m 7 ls []) := by
    clear hE
    intro n7
    induction n7 with
    | zero =>
      intro i7 q7_0_5 q7_0_6 H locs hm7 hi7 hpl hP hS ls hl hE
      exact absurd hm7 (by omega)
    | succ n7 ih7 =>
      intro i7 q7_0_5 q7_0_6 H locs hm7 hi7 hpl hP hS ls hl hE
      have hD := dPad (E := E) hj (v 0 0) (v 0 1) (v 0 2) (v 0 3) (v 0 4) q7_0_5 q7_0_6 (v 1)
      replace hE := hE.trans mX3_passNumber_L7_s
      refine lv_aload_n hx hb dX3_passNumber_7 rfl (lv_at hl 1 rfl) ?_
      refine kCallRi (va_runV (As := []) (rest := []) ⟨hx, hb, hml, hown, hts⟩ (c_X3_isDigitNext l E a (rset v 0 (upd (upd (v 0) 5 q7_0_5) 6 q7_0_6)) hpl _ rfl) (cwV 0 hts gX3_passNumber_X3_isDigitNext rfl rfl rfl (by decide +kernel) ⟨Nat.le_of_ble_eq_true rfl, Nat.le_of_ble_eq_true rfl⟩) (kPreV hK hP hP (q0 := 0) rfl rfl) rfl rfl hl.1 rfl (lv_room (Nat.le_of_ble_eq_true rfl)) dX3_passNumber_8 ⟨Nat.zero_le _, Nat.zero_le _⟩) ?_
      refine lv_if_eq (tgt := 70) hx hb dX3_passNumber_11 (by decide) (fun c_1 => ?_) (fun c_1 => ?_)
      · replace hE := hE.trans (if_pos c_1)
        refine lv_iload_n hx hb dX3_passNumber_70 rfl (lv_at hl 0 rfl) ?_
        refine lv_if_le (tgt := 78) hx hb dX3_passNumber_71 (by decide) (fun c_2 => ?_) (fun c_2 => ?_)
        · replace hE := hE.trans (if_pos c_2)
          refine lv_iconst (v := 0) hx hb dX3_passNumber_78 (by decide) ?_
          subst R
          exact W.zret (v := 0) (ty := .boolean) hx hb hr rfl (fun t ht hW => ⟨rfl, by rw [ht]; exact hP, hS.F ht⟩) hS.2.2 dX3_passNumber_79
        · replace hE := hE.trans (if_neg c_2)
          refine lv_iconst (v := 1) hx hb dX3_passNumber_74 (by decide) ?_
          refine lv_goto (tgt := 79) hx hb dX3_passNumber_75 (by decide) ?_
          subst R
          exact W.zret (v := 1) (ty := .boolean) hx hb hr rfl (fun t ht hW => ⟨rfl, by rw [ht]; exact hP, hS.F ht⟩) hS.2.2 dX3_passNumber_79
      · replace hE := hE.trans (if_neg c_1)
        have hzc_1 := isDigit_ok (by assumption) c_1
        have hlt : pLT (v 0 0) q7_0_5 := isDigit_ok (v := rset v 0 (upd (upd (v 0) 5 q7_0_5) 6 q7_0_6)) hpl c_1
        refine lv_iload_n hx hb dX3_passNumber_14 rfl (lv_at hl 0 rfl) ?_
        refine lv_iconst (v := 3) hx hb dX3_passNumber_15 (by decide) ?_
        refine lv_icmp_ge (tgt := 70) hx hb dX3_passNumber_16 (by decide) (fun c_3 => ?_) (fun c_3 => ?_)
        · replace hE := hE.trans (if_pos c_3)
          refine lv_iload_n hx hb dX3_passNumber_70 rfl (lv_at hl 0 rfl) ?_
          refine lv_if_le (tgt := 78) hx hb dX3_passNumber_71 (by decide) (fun c_4 => ?_) (fun c_4 => ?_)
          · replace hE := hE.trans (if_pos c_4)
            refine lv_iconst (v := 0) hx hb dX3_passNumber_78 (by decide) ?_
            subst R
            exact W.zret (v := 0) (ty := .boolean) hx hb hr rfl (fun t ht hW => ⟨rfl, by rw [ht]; exact hP, hS.F ht⟩) hS.2.2 dX3_passNumber_79
          · replace hE := hE.trans (if_neg c_4)
            refine lv_iconst (v := 1) hx hb dX3_passNumber_74 (by decide) ?_
            refine lv_goto (tgt := 79) hx hb dX3_passNumber_75 (by decide) ?_
            subst R
            exact W.zret (v := 1) (ty := .boolean) hx hb hr rfl (fun t ht hW => ⟨rfl, by rw [ht]; exact hP, hS.F ht⟩) hS.2.2 dX3_passNumber_79
        · replace hE := hE.trans (if_neg c_3)
          have hbc_3 : i7 < 3 := nI_nle_lt ⟨by omega, by omega⟩ c_3
          refine lv_iload_n hx hb dX3_passNumber_19 rfl (lv_at hl 0 rfl) ?_
          refine lv_if_eq (tgt := 30) hx hb dX3_passNumber_20 (by decide) (fun c_5 => ?_) (fun c_5 => ?_)
          · replace hE := hE.trans (if_pos c_5)
            refine lv_aload_n hx hb dX3_passNumber_30 rfl (lv_at hl 1 rfl) ?_
            refine lv_aload_n hx hb dX3_passNumber_31 rfl (lv_at hl 1 rfl) ?_
            refine va_get (D := E.1) (ci := 2) (v := .int q7_0_6) (C := RX3) (T := TX3) (N := 8) hx hb hts hiX3 hown hK.1 hP 0 rfl rfl 6 (by decide) hf54 (fun _ h9 => h9) rfl dX3_passNumber_32 ?_
            refine lv_bipush (v := 10) hx hb dX3_passNumber_35 (by decide) ?_
            refine lv_imul hx hb dX3_passNumber_37 ?_
            refine lv_aload_n hx hb dX3_passNumber_38 rfl (lv_at hl 1 rfl) ?_
            refine va_get (D := E.1) (ci := 2) (v := .ref (a 1)) (C := RX3) (T := TX3) (N := 8) hx hb hts hiX3 hown hK.1 hP 0 rfl rfl 7 (by decide) hf9 (fun _ h9 => h9) rfl dX3_passNumber_39 ?_
            refine lv_aload_n hx hb dX3_passNumber_42 rfl (lv_at hl 1 rfl) ?_
            refine va_get (D := E.1) (ci := 2) (v := .int q7_0_5) (C := RX3) (T := TX3) (N := 8) hx hb hts hiX3 hown hK.1 hP 0 rfl rfl 5 (by decide) hf25 (fun _ h9 => h9) rfl dX3_passNumber_43 ?_
            refine va_cald (D := E.1) hx hb hK.1 hP 1 2 rfl rfl hlt.in80 dX3_passNumber_46 ?_
            refine lv_bipush (v := 48) hx hb dX3_passNumber_47 (by decide) ?_
            refine lv_isub hx hb dX3_passNumber_49 ?_
            refine lv_iadd hx hb dX3_passNumber_50 ?_
            refine va_put (D := E.1) (ci := 2) (v := .int ((q7_0_6 * 10) + (((v 1) (q7_0_5).toNatClampNeg) - 48))) (ty := .int) (C := RX3) (T := TX3) (N := 8) hx hb hts hiX3 tyX3 tyX3_ok nmX3 hown hK.1 hP hD hS 0 rfl rfl 6 (by decide) hf54 (fun _ h9 => h9) rfl (by decide +kernel) rfl rfl (Nat.le_of_ble_eq_true rfl) dX3_passNumber_51 (fun H locs hP _ hS => ?_)
            have hP : va_P E.1 vwCl (wPadx E a (v 0 0) (v 0 1) (v 0 2) (v 0 3) (v 0 4) q7_0_5 ((q7_0_6 * 10) + (((v 1) (q7_0_5).toNatClampNeg) - 48)) (v 1)) H := hP
            have hD := dPad (E := E) hj (v 0 0) (v 0 1) (v 0 2) (v 0 3) (v 0 4) q7_0_5 ((q7_0_6 * 10) + (((v 1) (q7_0_5).toNatClampNeg) - 48)) (v 1)
            refine lv_aload_n hx hb dX3_passNumber_54 rfl (lv_at hl 1 rfl) ?_
            refine lv_dup hx hb dX3_passNumber_55 rfl ?_
            refine va_get (D := E.1) (ci := 2) (v := .int q7_0_5) (C := RX3) (T := TX3) (N := 8) hx hb hts hiX3 hown hK.1 hP 0 rfl rfl 5 (by decide) hf25 (fun _ h9 => h9) rfl dX3_passNumber_56 ?_
            refine lv_iconst (v := 1) hx hb dX3_passNumber_59 (by decide) ?_
            refine lv_iadd hx hb dX3_passNumber_60 ?_
            refine va_put (D := E.1) (ci := 2) (v := .int (q7_0_5 + 1)) (ty := .int) (C := RX3) (T := TX3) (N := 8) hx hb hts hiX3 tyX3 tyX3_ok nmX3 hown hK.1 hP hD hS 0 rfl rfl 5 (by decide) hf25 (fun _ h9 => h9) rfl (by decide +kernel) rfl rfl (Nat.le_of_ble_eq_true rfl) dX3_passNumber_61 (fun H locs hP _ hS => ?_)
            have hP : va_P E.1 vwCl (wPadx E a (v 0 0) (v 0 1) (v 0 2) (v 0 3) (v 0 4) (q7_0_5 + 1) ((q7_0_6 * 10) + (((v 1) (q7_0_5).toNatClampNeg) - 48)) (v 1)) H := hP
            have hD := dPad (E := E) hj (v 0 0) (v 0 1) (v 0 2) (v 0 3) (v 0 4) (q7_0_5 + 1) ((q7_0_6 * 10) + (((v 1) (q7_0_5).toNatClampNeg) - 48)) (v 1)
            refine lv_iinc (v := (nI (i7 + 1))) (lv' := [(1, .int (nI (i7 + 1))), (0, .ref (a 0))]) hx hb dX3_passNumber_64 hl (k := 0) rfl (nI_1 i7) (by decide) rfl (fun ls hl => ?_)
            refine lv_goto (tgt := 7) hx hb dX3_passNumber_67 (by decide) ?_
            exact ih7 (i7 + 1) (q7_0_5 + 1) ((q7_0_6 * 10) + (((v 1) (q7_0_5).toNatClampNeg) - 48)) _ _ (by omega) (by omega) hlt.next hP hS ls (lv_sub hl [0, 1] rfl) hE
          · replace hE := hE.trans (if_neg c_5)
            refine lv_aload_n hx hb dX3_passNumber_23 rfl (lv_at hl 1 rfl) ?_
            refine va_get (D := E.1) (ci := 2) (v := .int q7_0_6) (C := RX3) (T := TX3) (N := 8) hx hb hts hiX3 hown hK.1 hP 0 rfl rfl 6 (by decide) hf54 (fun _ h9 => h9) rfl dX3_passNumber_24 ?_
            refine lv_if_le (tgt := 70) hx hb dX3_passNumber_27 (by decide) (fun c_6 => ?_) (fun c_6 => ?_)
            · replace hE := hE.trans (if_pos c_6)
              refine lv_iload_n hx hb dX3_passNumber_70 rfl (lv_at hl 0 rfl) ?_
              refine lv_if_le (tgt := 78) hx hb dX3_passNumber_71 (by decide) (fun c_7 => ?_) (fun c_7 => ?_)
              · replace hE := hE.trans (if_pos c_7)
                refine lv_iconst (v := 0) hx hb dX3_passNumber_78 (by decide) ?_
                subst R
                exact W.zret (v := 0) (ty := .boolean) hx hb hr rfl (fun t ht hW => ⟨rfl, by rw [ht]; exact hP, hS.F ht⟩) hS.2.2 dX3_passNumber_79
              · replace hE := hE.trans (if_neg c_7)
                refine lv_iconst (v := 1) hx hb dX3_passNumber_74 (by decide) ?_
                refine lv_goto (tgt := 79) hx hb dX3_passNumber_75 (by decide) ?_
                subst R
                exact W.zret (v := 1) (ty := .boolean) hx hb hr rfl (fun t ht hW => ⟨rfl, by rw [ht]; exact hP, hS.F ht⟩) hS.2.2 dX3_passNumber_79
            · replace hE := hE.trans (if_neg c_6)
              refine lv_aload_n hx hb dX3_passNumber_30 rfl (lv_at hl 1 rfl) ?_
              refine lv_aload_n hx hb dX3_passNumber_31 rfl (lv_at hl 1 rfl) ?_
              refine va_get (D := E.1) (ci := 2) (v := .int q7_0_6) (C := RX3) (T := TX3) (N := 8) hx hb hts hiX3 hown hK.1 hP 0 rfl rfl 6 (by decide) hf54 (fun _ h9 => h9) rfl dX3_passNumber_32 ?_
              refine lv_bipush (v := 10) hx hb dX3_passNumber_35 (by decide) ?_
              refine lv_imul hx hb dX3_passNumber_37 ?_
              refine lv_aload_n hx hb dX3_passNumber_38 rfl (lv_at hl 1 rfl) ?_
              refine va_get (D := E.1) (ci := 2) (v := .ref (a 1)) (C := RX3) (T := TX3) (N := 8) hx hb hts hiX3 hown hK.1 hP 0 rfl rfl 7 (by decide) hf9 (fun _ h9 => h9) rfl dX3_passNumber_39 ?_
              refine lv_aload_n hx hb dX3_passNumber_42 rfl (lv_at hl 1 rfl) ?_
              refine va_get (D := E.1) (ci := 2) (v := .int q7_0_5) (C := RX3) (T := TX3) (N := 8) hx hb hts hiX3 hown hK.1 hP 0 rfl rfl 5 (by decide) hf25 (fun _ h9 => h9) rfl dX3_passNumber_43 ?_
              refine va_cald (D := E.1) hx hb hK.1 hP 1 2 rfl rfl hlt.in80 dX3_passNumber_46 ?_
              refine lv_bipush (v := 48) hx hb dX3_passNumber_47 (by decide) ?_
              refine lv_isub hx hb dX3_passNumber_49 ?_
              refine lv_iadd hx hb dX3_passNumber_50 ?_
              refine va_put (D := E.1) (ci := 2) (v := .int ((q7_0_6 * 10) + (((v 1) (q7_0_5).toNatClampNeg) - 48))) (ty := .int) (C := RX3) (T := TX3) (N := 8) hx hb hts hiX3 tyX3 tyX3_ok nmX3 hown hK.1 hP hD hS 0 rfl rfl 6 (by decide) hf54 (fun _ h9 => h9) rfl (by decide +kernel) rfl rfl (Nat.le_of_ble_eq_true rfl) dX3_passNumber_51 (fun H locs hP _ hS => ?_)
              have hP : va_P E.1 vwCl (wPadx E a (v 0 0) (v 0 1) (v 0 2) (v 0 3) (v 0 4) q7_0_5 ((q7_0_6 * 10) + (((v 1) (q7_0_5).toNatClampNeg) - 48)) (v 1)) H := hP
              have hD := dPad (E := E) hj (v 0 0) (v 0 1) (v 0 2) (v 0 3) (v 0 4) q7_0_5 ((q7_0_6 * 10) + (((v 1) (q7_0_5).toNatClampNeg) - 48)) (v 1)
              refine lv_aload_n hx hb dX3_passNumber_54 rfl (lv_at hl 1 rfl) ?_
              refine lv_dup hx hb dX3_passNumber_55 rfl ?_
              refine va_get (D := E.1) (ci := 2) (v := .int q7_0_5) (C := RX3) (T := TX3) (N := 8) hx hb hts hiX3 hown hK.1 hP 0 rfl rfl 5 (by decide) hf25 (fun _ h9 => h9) rfl dX3_passNumber_56 ?_
              refine lv_iconst (v := 1) hx hb dX3_passNumber_59 (by decide) ?_
              refine lv_iadd hx hb dX3_passNumber_60 ?_
              refine va_put (D := E.1) (ci := 2) (v := .int (q7_0_5 + 1)) (ty := .int) (C := RX3) (T := TX3) (N := 8) hx hb hts hiX3 tyX3 tyX3_ok nmX3 hown hK.1 hP hD hS 0 rfl rfl 5 (by decide) hf25 (fun _ h9 => h9) rfl (by decide +kernel) rfl rfl (Nat.le_of_ble_eq_true rfl) dX3_passNumber_61 (fun H locs hP _ hS => ?_)
              have hP : va_P E.1 vwCl (wPadx E a (v 0 0) (v 0 1) (v 0 2) (v 0 3) (v 0 4) (q7_0_5 + 1) ((q7_0_6 * 10) + (((v 1) (q7_0_5).toNatClampNeg) - 48)) (v 1)) H := hP
              have hD := dPad (E := E) hj (v 0 0) (v 0 1) (v 0 2) (v 0 3) (v 0 4) (q7_0_5 + 1) ((q7_0_6 * 10) + (((v 1) (q7_0_5).toNatClampNeg) - 48)) (v 1)
              refine lv_iinc (v := (nI (i7 + 1))) (lv' := [(1, .int (nI (i7 + 1))), (0, .ref (a 0))]) hx hb dX3_passNumber_64 hl (k := 0) rfl (nI_1 i7) (by decide) rfl (fun ls hl => ?_)
              refine lv_goto (tgt := 7) hx hb dX3_passNumber_67 (by decide) ?_
              exact ih7 (i7 + 1) (q7_0_5 + 1) ((q7_0_6 * 10) + (((v 1) (q7_0_5).toNatClampNeg) - 48)) _ _ (by omega) (by omega) hlt.next hP hS ls (lv_sub hl [0, 1] rfl) hE
  exact lp7 4 0 (v 0 5) 0 _ _ (by omega) (by omega) hp hP hS ls (lv_sub hl [0, 1] rfl) hE
theorem passNumber_L_ok {v : kG} : ∀ (n i : Nat) (q r : Int32), pOK (v 0 0) q → 3 < i + n → i ≤ 3 → pOK (v 0 0) (mX3_passNumber_L7 v n i q r).2.1 := by
  intro n
  induction n with
  | zero => intro i q r hq h1 h2; omega
  | succ n ih =>
    intro i q r hq h1 h2
    rw [mX3_passNumber_L7_s]
    by_cases c1 : mX3_isDigitNext (rset v 0 (upd (upd (v 0) 5 q) 6 r)) = 0
    · rw [if_pos c1]
      split <;> exact hq
    · rw [if_neg c1]
      have hlt : pLT (v 0 0) q := isDigit_ok (v := rset v 0 (upd (upd (v 0) 5 q) 6 r)) hq c1
      by_cases c2 : (3 : Int32) ≤ nI i
      · rw [if_pos c2]
        split <;> exact hq
      · rw [if_neg c2]
        have hi : i < 3 := nI_nle_lt ⟨by omega, by omega⟩ c2
        split
        · exact ih _ _ _ hlt.next (by omega) (by omega)
        · split
          · split <;> exact hq
          · exact ih _ _ _ hlt.next (by omega) (by omega)
theorem passNumber_ok {v : kG} (h : pOK (v 0 0) (v 0 5)) : pOK (v 0 0) (mX3_passNumber v).2.1 := passNumber_L_ok _ _ _ _ h (by omega) (by omega)
theorem passNumber_L_b {v : kG} : ∀ (n i : Nat) (q r : Int32), (mX3_passNumber_L7 v n i q r).1 = 0 ∨ (mX3_passNumber_L7 v n i q r).1 = 1 := by
  intro n
  induction n with
  | zero => intro i q r; exact Or.inl rfl
  | succ n ih =>
    intro i q r
    rw [mX3_passNumber_L7_s]
    split
    · split
      · exact Or.inl rfl
      · exact Or.inr rfl
    · split
      · split
        · exact Or.inl rfl
        · exact Or.inr rfl
      · split
        · exact ih _ _ _
        · split
          · split
            · exact Or.inl rfl
            · exact Or.inr rfl
          · exact ih _ _ _
theorem passNumber_b (v : kG) : (mX3_passNumber v).1 = 0 ∨ (mX3_passNumber v).1 = 1 := passNumber_L_b _ _ _ _
def mX3_passFirst (v : kG) : Int32 × Int32 × Int32 × Int32 :=
  (fun (g_1 : Int32 × Int32 × Int32) =>
    ((g_1.1), (g_1.2.2), (g_1.2.1), (g_1.2.2)))
    (mX3_passNumber v)
theorem mX3_passFirst_s {v : kG} : mX3_passFirst v = (
  (fun (g_1 : Int32 × Int32 × Int32) =>
    ((g_1.1), (g_1.2.2), (g_1.2.1), (g_1.2.2)))
    (mX3_passNumber v) : Int32 × Int32 × Int32 × Int32) := rfl
set_option maxHeartbeats 400000 in
set_option maxRecDepth 100000 in
theorem c_X3_passFirst (l : Launch) (E : kE) (a : Nat → Nat) (v : kG) (hj : kInj a 2) (hp : pOK (v 0 0) (v 0 5)) (R : Int32 × Int32 × Int32 × Int32) (hE : R = mX3_passFirst v) : Met l yX3_passFirst wsX3_passFirst ({ frames := 2, cells := 0, slots := 0, locals := 41 }) (kPre E [.ref (a 0)] (wPadx E a (v 0 0) (v 0 1) (v 0 2) (v 0 3) (v 0 4) (v 0 5) (v 0 6) (v 1))) (kWi E R.1 (wPadx E a (v 0 0) (v 0 1) R.2.1 (v 0 3) (v 0 4) R.2.2.1 R.2.2.2 (v 1)) (kA a 2)) 0 0 (kA a 2) := by
  refine Met.ofW (cc := cX3_passFirst) (maxL := 2) (ret := (some .boolean)) (by decide) rfl ?_
  intro p e s m args below meth c s₁ B hml hv
  obtain ⟨rfl, hK, hP⟩ := hv
  have hx := B.exec
  have hb := B.bytes
  have hr := B.returns
  have hts := atoms_spec (ws := wsX3_passFirst) B.pre
  have hown : s.vm.findClass RX3 = some m.cls := findClass_of_methodNamed B.named
  have hlocks := B.notSynchronized
  have hiX3 : ∀ w ∈ wsX30, w ∈ wsX3_passFirst := by decide +kernel
  have hf54 := hts (.fieldLink RX3 54 "SkewEdges$Pad" "number" "I") (by decide +kernel)
  have hf57 := hts (.fieldLink RX3 57 "SkewEdges$Pad" "first" "I") (by decide +kernel)
  have hS : va_S (kA a 2) s.heap s.heap [] := va_S.rf
  have hP : va_P E.1 vwCl (wPadx E a (v 0 0) (v 0 1) (v 0 2) (v 0 3) (v 0 4) (v 0 5) (v 0 6) (v 1)) s.heap := hP
  have hD := dPad (E := E) hj (v 0 0) (v 0 1) (v 0 2) (v 0 3) (v 0 4) (v 0 5) (v 0 6) (v 1)
  have hl := lv_entry ([.ref (a 0)]) (n := 2) (Nat.le_of_ble_eq_true rfl)
  rw [lg_entry_eq]
  generalize (lg_sl ([.ref (a 0)]) ++ List.replicate (2 - (lg_sl ([.ref (a 0)])).length) Slot.unset).toArray = ls at hl ⊢
  have hl : lv_has ls 2 [(0, .ref (a 0))] := hl
  replace hE := hE.trans mX3_passFirst_s
  refine lv_aload_n hx hb dX3_passFirst_0 rfl (lv_at hl 0 rfl) ?_
  refine kCallWi (va_runV (As := []) (rest := []) ⟨hx, hb, hml, hown, hts⟩ (c_X3_passNumber l E a v hj (by first | assumption | exact tOK.nI (by omega)) _ rfl) (cwV 0 hts gX3_passFirst_X3_passNumber rfl rfl rfl (by decide +kernel) ⟨Nat.le_of_ble_eq_true rfl, Nat.le_of_ble_eq_true rfl⟩) (kPreV hK hP hP (q0 := 0) rfl rfl) rfl rfl hl.1 rfl (lv_room (Nat.le_of_ble_eq_true rfl)) dX3_passFirst_1 ⟨Nat.zero_le _, Nat.zero_le _⟩) hS (fun _ h => h) (fun H locs hP _ _ hS => ?_)
  have hbool := kbool (passNumber_b v)
  refine kGen (mX3_passNumber v) (fun g_1 hg_1 => ?_)
  rw [hg_1] at hE hP hbool ⊢
  try dsimp only at hE
  have hP : va_P E.1 vwCl (wPadx E a (v 0 0) (v 0 1) (v 0 2) (v 0 3) (v 0 4) (g_1.2.1) (g_1.2.2) (v 1)) H := hP
  have hD := dPad (E := E) hj (v 0 0) (v 0 1) (v 0 2) (v 0 3) (v 0 4) (g_1.2.1) (g_1.2.2) (v 1)
  refine lv_istore_n (lv' := [(1, .int (g_1.1)), (0, .ref (a 0))]) hx hb dX3_passFirst_4 rfl hl (by decide) rfl (fun ls hl => ?_)
  refine lv_aload_n hx hb dX3_passFirst_5 rfl (lv_at hl 1 rfl) ?_
  refine lv_aload_n hx hb dX3_passFirst_6 rfl (lv_at hl 1 rfl) ?_
  refine va_get (D := E.1) (ci := 2) (v := .int (g_1.2.2)) (C := RX3) (T := TX3) (N := 8) hx hb hts hiX3 hown hK.1 hP 0 rfl rfl 6 (by decide) hf54 (fun _ h9 => h9) rfl dX3_passFirst_7 ?_
  refine va_put (D := E.1) (ci := 2) (v := .int (g_1.2.2)) (ty := .int) (C := RX3) (T := TX3) (N := 8) hx hb hts hiX3 tyX3 tyX3_ok nmX3 hown hK.1 hP hD hS 0 rfl rfl 2 (by decide) hf57 (fun _ h9 => h9) rfl (by decide +kernel) rfl rfl (Nat.le_of_ble_eq_true rfl) dX3_passFirst_10 (fun H locs hP _ hS => ?_)
  have hP : va_P E.1 vwCl (wPadx E a (v 0 0) (v 0 1) (g_1.2.2) (v 0 3) (v 0 4) (g_1.2.1) (g_1.2.2) (v 1)) H := hP
  have hD := dPad (E := E) hj (v 0 0) (v 0 1) (g_1.2.2) (v 0 3) (v 0 4) (g_1.2.1) (g_1.2.2) (v 1)
  refine lv_iload_n hx hb dX3_passFirst_13 rfl (lv_at hl 0 rfl) ?_
  subst R
  exact W.zret (v := (g_1.1)) (ty := .boolean) hx hb hr hbool (fun t ht hW => ⟨rfl, by rw [ht]; exact hP, hS.F ht⟩) hS.2.2 dX3_passFirst_14
theorem passFirst_ok {v : kG} (h : pOK (v 0 0) (v 0 5)) : pOK (v 0 0) (mX3_passFirst v).2.2.1 := passNumber_ok h
theorem passFirst_b (v : kG) : (mX3_passFirst v).1 = 0 ∨ (mX3_passFirst v).1 = 1 := passNumber_b v
def mX3_passSecond (v : kG) : Int32 × Int32 × Int32 × Int32 :=
  (fun (g_1 : Int32 × Int32 × Int32) =>
    ((g_1.1), (g_1.2.2), (g_1.2.1), (g_1.2.2)))
    (mX3_passNumber v)
theorem mX3_passSecond_s {v : kG} : mX3_passSecond v = (
  (fun (g_1 : Int32 × Int32 × Int32) =>
    ((g_1.1), (g_1.2.2), (g_1.2.1), (g_1.2.2)))
    (mX3_passNumber v) : Int32 × Int32 × Int32 × Int32) := rfl
set_option maxHeartbeats 400000 in
set_option maxRecDepth 100000 in
theorem c_X3_passSecond (l : Launch) (E : kE) (a : Nat → Nat) (v : kG) (hj : kInj a 2) (hp : pOK (v 0 0) (v 0 5)) (R : Int32 × Int32 × Int32 × Int32) (hE : R = mX3_passSecond v) : Met l yX3_passSecond wsX3_passSecond ({ frames := 2, cells := 0, slots := 0, locals := 41 }) (kPre E [.ref (a 0)] (wPadx E a (v 0 0) (v 0 1) (v 0 2) (v 0 3) (v 0 4) (v 0 5) (v 0 6) (v 1))) (kWi E R.1 (wPadx E a (v 0 0) (v 0 1) (v 0 2) R.2.1 (v 0 4) R.2.2.1 R.2.2.2 (v 1)) (kA a 2)) 0 0 (kA a 2) := by
  refine Met.ofW (cc := cX3_passSecond) (maxL := 2) (ret := (some .boolean)) (by decide) rfl ?_
  intro p e s m args below meth c s₁ B hml hv
  obtain ⟨rfl, hK, hP⟩ := hv
  have hx := B.exec
  have hb := B.bytes
  have hr := B.returns
  have hts := atoms_spec (ws := wsX3_passSecond) B.pre
  have hown : s.vm.findClass RX3 = some m.cls := findClass_of_methodNamed B.named
  have hlocks := B.notSynchronized
  have hiX3 : ∀ w ∈ wsX30, w ∈ wsX3_passSecond := by decide +kernel
  have hf54 := hts (.fieldLink RX3 54 "SkewEdges$Pad" "number" "I") (by decide +kernel)
  have hf60 := hts (.fieldLink RX3 60 "SkewEdges$Pad" "second" "I") (by decide +kernel)
  have hS : va_S (kA a 2) s.heap s.heap [] := va_S.rf
  have hP : va_P E.1 vwCl (wPadx E a (v 0 0) (v 0 1) (v 0 2) (v 0 3) (v 0 4) (v 0 5) (v 0 6) (v 1)) s.heap := hP
  have hD := dPad (E := E) hj (v 0 0) (v 0 1) (v 0 2) (v 0 3) (v 0 4) (v 0 5) (v 0 6) (v 1)
  have hl := lv_entry ([.ref (a 0)]) (n := 2) (Nat.le_of_ble_eq_true rfl)
  rw [lg_entry_eq]
  generalize (lg_sl ([.ref (a 0)]) ++ List.replicate (2 - (lg_sl ([.ref (a 0)])).length) Slot.unset).toArray = ls at hl ⊢
  have hl : lv_has ls 2 [(0, .ref (a 0))] := hl
  replace hE := hE.trans mX3_passSecond_s
  refine lv_aload_n hx hb dX3_passSecond_0 rfl (lv_at hl 0 rfl) ?_
  refine kCallWi (va_runV (As := []) (rest := []) ⟨hx, hb, hml, hown, hts⟩ (c_X3_passNumber l E a v hj (by first | assumption | exact tOK.nI (by omega)) _ rfl) (cwV 0 hts gX3_passSecond_X3_passNumber rfl rfl rfl (by decide +kernel) ⟨Nat.le_of_ble_eq_true rfl, Nat.le_of_ble_eq_true rfl⟩) (kPreV hK hP hP (q0 := 0) rfl rfl) rfl rfl hl.1 rfl (lv_room (Nat.le_of_ble_eq_true rfl)) dX3_passSecond_1 ⟨Nat.zero_le _, Nat.zero_le _⟩) hS (fun _ h => h) (fun H locs hP _ _ hS => ?_)
  have hbool := kbool (passNumber_b v)
  refine kGen (mX3_passNumber v) (fun g_1 hg_1 => ?_)
  rw [hg_1] at hE hP hbool ⊢
  try dsimp only at hE
  have hP : va_P E.1 vwCl (wPadx E a (v 0 0) (v 0 1) (v 0 2) (v 0 3) (v 0 4) (g_1.2.1) (g_1.2.2) (v 1)) H := hP
  have hD := dPad (E := E) hj (v 0 0) (v 0 1) (v 0 2) (v 0 3) (v 0 4) (g_1.2.1) (g_1.2.2) (v 1)
  refine lv_istore_n (lv' := [(1, .int (g_1.1)), (0, .ref (a 0))]) hx hb dX3_passSecond_4 rfl hl (by decide) rfl (fun ls hl => ?_)
  refine lv_aload_n hx hb dX3_passSecond_5 rfl (lv_at hl 1 rfl) ?_
  refine lv_aload_n hx hb dX3_passSecond_6 rfl (lv_at hl 1 rfl) ?_
  refine va_get (D := E.1) (ci := 2) (v := .int (g_1.2.2)) (C := RX3) (T := TX3) (N := 8) hx hb hts hiX3 hown hK.1 hP 0 rfl rfl 6 (by decide) hf54 (fun _ h9 => h9) rfl dX3_passSecond_7 ?_
  refine va_put (D := E.1) (ci := 2) (v := .int (g_1.2.2)) (ty := .int) (C := RX3) (T := TX3) (N := 8) hx hb hts hiX3 tyX3 tyX3_ok nmX3 hown hK.1 hP hD hS 0 rfl rfl 3 (by decide) hf60 (fun _ h9 => h9) rfl (by decide +kernel) rfl rfl (Nat.le_of_ble_eq_true rfl) dX3_passSecond_10 (fun H locs hP _ hS => ?_)
  have hP : va_P E.1 vwCl (wPadx E a (v 0 0) (v 0 1) (v 0 2) (g_1.2.2) (v 0 4) (g_1.2.1) (g_1.2.2) (v 1)) H := hP
  have hD := dPad (E := E) hj (v 0 0) (v 0 1) (v 0 2) (g_1.2.2) (v 0 4) (g_1.2.1) (g_1.2.2) (v 1)
  refine lv_iload_n hx hb dX3_passSecond_13 rfl (lv_at hl 0 rfl) ?_
  subst R
  exact W.zret (v := (g_1.1)) (ty := .boolean) hx hb hr hbool (fun t ht hW => ⟨rfl, by rw [ht]; exact hP, hS.F ht⟩) hS.2.2 dX3_passSecond_14
theorem passSecond_ok {v : kG} (h : pOK (v 0 0) (v 0 5)) : pOK (v 0 0) (mX3_passSecond v).2.2.1 := passNumber_ok h
theorem passSecond_b (v : kG) : (mX3_passSecond v).1 = 0 ∨ (mX3_passSecond v).1 = 1 := passNumber_b v
def mX3_passThird (v : kG) : Int32 × Int32 × Int32 × Int32 :=
  (fun (g_1 : Int32 × Int32 × Int32) =>
    ((g_1.1), (g_1.2.2), (g_1.2.1), (g_1.2.2)))
    (mX3_passNumber v)
theorem mX3_passThird_s {v : kG} : mX3_passThird v = (
  (fun (g_1 : Int32 × Int32 × Int32) =>
    ((g_1.1), (g_1.2.2), (g_1.2.1), (g_1.2.2)))
    (mX3_passNumber v) : Int32 × Int32 × Int32 × Int32) := rfl
set_option maxHeartbeats 400000 in
set_option maxRecDepth 100000 in
theorem c_X3_passThird (l : Launch) (E : kE) (a : Nat → Nat) (v : kG) (hj : kInj a 2) (hp : pOK (v 0 0) (v 0 5)) (R : Int32 × Int32 × Int32 × Int32) (hE : R = mX3_passThird v) : Met l yX3_passThird wsX3_passThird ({ frames := 2, cells := 0, slots := 0, locals := 41 }) (kPre E [.ref (a 0)] (wPadx E a (v 0 0) (v 0 1) (v 0 2) (v 0 3) (v 0 4) (v 0 5) (v 0 6) (v 1))) (kWi E R.1 (wPadx E a (v 0 0) (v 0 1) (v 0 2) (v 0 3) R.2.1 R.2.2.1 R.2.2.2 (v 1)) (kA a 2)) 0 0 (kA a 2) := by
  refine Met.ofW (cc := cX3_passThird) (maxL := 2) (ret := (some .boolean)) (by decide) rfl ?_
  intro p e s m args below meth c s₁ B hml hv
  obtain ⟨rfl, hK, hP⟩ := hv
  have hx := B.exec
  have hb := B.bytes
  have hr := B.returns
  have hts := atoms_spec (ws := wsX3_passThird) B.pre
  have hown : s.vm.findClass RX3 = some m.cls := findClass_of_methodNamed B.named
  have hlocks := B.notSynchronized
  have hiX3 : ∀ w ∈ wsX30, w ∈ wsX3_passThird := by decide +kernel
  have hf54 := hts (.fieldLink RX3 54 "SkewEdges$Pad" "number" "I") (by decide +kernel)
  have hf63 := hts (.fieldLink RX3 63 "SkewEdges$Pad" "third" "I") (by decide +kernel)
  have hS : va_S (kA a 2) s.heap s.heap [] := va_S.rf
  have hP : va_P E.1 vwCl (wPadx E a (v 0 0) (v 0 1) (v 0 2) (v 0 3) (v 0 4) (v 0 5) (v 0 6) (v 1)) s.heap := hP
  have hD := dPad (E := E) hj (v 0 0) (v 0 1) (v 0 2) (v 0 3) (v 0 4) (v 0 5) (v 0 6) (v 1)
  have hl := lv_entry ([.ref (a 0)]) (n := 2) (Nat.le_of_ble_eq_true rfl)
  rw [lg_entry_eq]
  generalize (lg_sl ([.ref (a 0)]) ++ List.replicate (2 - (lg_sl ([.ref (a 0)])).length) Slot.unset).toArray = ls at hl ⊢
  have hl : lv_has ls 2 [(0, .ref (a 0))] := hl
  replace hE := hE.trans mX3_passThird_s
  refine lv_aload_n hx hb dX3_passThird_0 rfl (lv_at hl 0 rfl) ?_
  refine kCallWi (va_runV (As := []) (rest := []) ⟨hx, hb, hml, hown, hts⟩ (c_X3_passNumber l E a v hj (by first | assumption | exact tOK.nI (by omega)) _ rfl) (cwV 0 hts gX3_passThird_X3_passNumber rfl rfl rfl (by decide +kernel) ⟨Nat.le_of_ble_eq_true rfl, Nat.le_of_ble_eq_true rfl⟩) (kPreV hK hP hP (q0 := 0) rfl rfl) rfl rfl hl.1 rfl (lv_room (Nat.le_of_ble_eq_true rfl)) dX3_passThird_1 ⟨Nat.zero_le _, Nat.zero_le _⟩) hS (fun _ h => h) (fun H locs hP _ _ hS => ?_)
  have hbool := kbool (passNumber_b v)
  refine kGen (mX3_passNumber v) (fun g_1 hg_1 => ?_)
  rw [hg_1] at hE hP hbool ⊢
  try dsimp only at hE
  have hP : va_P E.1 vwCl (wPadx E a (v 0 0) (v 0 1) (v 0 2) (v 0 3) (v 0 4) (g_1.2.1) (g_1.2.2) (v 1)) H := hP
  have hD := dPad (E := E) hj (v 0 0) (v 0 1) (v 0 2) (v 0 3) (v 0 4) (g_1.2.1) (g_1.2.2) (v 1)
  refine lv_istore_n (lv' := [(1, .int (g_1.1)), (0, .ref (a 0))]) hx hb dX3_passThird_4 rfl hl (by decide) rfl (fun ls hl => ?_)
  refine lv_aload_n hx hb dX3_passThird_5 rfl (lv_at hl 1 rfl) ?_
  refine lv_aload_n hx hb dX3_passThird_6 rfl (lv_at hl 1 rfl) ?_
  refine va_get (D := E.1) (ci := 2) (v := .int (g_1.2.2)) (C := RX3) (T := TX3) (N := 8) hx hb hts hiX3 hown hK.1 hP 0 rfl rfl 6 (by decide) hf54 (fun _ h9 => h9) rfl dX3_passThird_7 ?_
  refine va_put (D := E.1) (ci := 2) (v := .int (g_1.2.2)) (ty := .int) (C := RX3) (T := TX3) (N := 8) hx hb hts hiX3 tyX3 tyX3_ok nmX3 hown hK.1 hP hD hS 0 rfl rfl 4 (by decide) hf63 (fun _ h9 => h9) rfl (by decide +kernel) rfl rfl (Nat.le_of_ble_eq_true rfl) dX3_passThird_10 (fun H locs hP _ hS => ?_)
  have hP : va_P E.1 vwCl (wPadx E a (v 0 0) (v 0 1) (v 0 2) (v 0 3) (g_1.2.2) (g_1.2.1) (g_1.2.2) (v 1)) H := hP
  have hD := dPad (E := E) hj (v 0 0) (v 0 1) (v 0 2) (v 0 3) (g_1.2.2) (g_1.2.1) (g_1.2.2) (v 1)
  refine lv_iload_n hx hb dX3_passThird_13 rfl (lv_at hl 0 rfl) ?_
  subst R
  exact W.zret (v := (g_1.1)) (ty := .boolean) hx hb hr hbool (fun t ht hW => ⟨rfl, by rw [ht]; exact hP, hS.F ht⟩) hS.2.2 dX3_passThird_14
theorem passThird_ok {v : kG} (h : pOK (v 0 0) (v 0 5)) : pOK (v 0 0) (mX3_passThird v).2.2.1 := passNumber_ok h
theorem passThird_b (v : kG) : (mX3_passThird v).1 = 0 ∨ (mX3_passThird v).1 = 1 := passNumber_b v
def mX3_passSign (v : kG) (x1 : Int32) : Int32 × Int32 :=
  if (v 0 0) ≤ (v 0 5) then
    (0, (v 0 5))
  else
    if ((v 1) ((v 0 5)).toNatClampNeg) = x1 then
      (1, ((v 0 5) + 1))
    else
      (0, (v 0 5))
theorem mX3_passSign_s {v : kG} {x1 : Int32} : mX3_passSign v x1 = (
  if (v 0 0) ≤ (v 0 5) then
    (0, (v 0 5))
  else
    if ((v 1) ((v 0 5)).toNatClampNeg) = x1 then
      (1, ((v 0 5) + 1))
    else
      (0, (v 0 5)) : Int32 × Int32) := rfl
set_option maxHeartbeats 400000 in
set_option maxRecDepth 100000 in
theorem c_X3_passSign (l : Launch) (E : kE) (a : Nat → Nat) (v : kG) (hj : kInj a 2) (x1 : Int32) (hp : pOK (v 0 0) (v 0 5)) (R : Int32 × Int32) (hE : R = mX3_passSign v x1) : Met l yX3_passSign wsX3_passSign ({ frames := 0, cells := 0, slots := 0, locals := 0 }) (kPre E [.ref (a 0), .int x1] (wPadx E a (v 0 0) (v 0 1) (v 0 2) (v 0 3) (v 0 4) (v 0 5) (v 0 6) (v 1))) (kWi E R.1 (wPadx E a (v 0 0) (v 0 1) (v 0 2) (v 0 3) (v 0 4) R.2 (v 0 6) (v 1)) (kA a 2)) 0 0 (kA a 2) := by
  refine Met.ofW (cc := cX3_passSign) (maxL := 2) (ret := (some .boolean)) (by decide) rfl ?_
  intro p e s m args below meth c s₁ B hml hv
  obtain ⟨rfl, hK, hP⟩ := hv
  have hx := B.exec
  have hb := B.bytes
  have hr := B.returns
  have hts := atoms_spec (ws := wsX3_passSign) B.pre
  have hown : s.vm.findClass RX3 = some m.cls := findClass_of_methodNamed B.named
  have hlocks := B.notSynchronized
  have hiX3 : ∀ w ∈ wsX30, w ∈ wsX3_passSign := by decide +kernel
  have hf9 := hts (.fieldLink RX3 9 "SkewEdges$Pad" "signs" "[C") (by decide +kernel)
  have hf21 := hts (.fieldLink RX3 21 "SkewEdges$Pad" "length" "I") (by decide +kernel)
  have hf25 := hts (.fieldLink RX3 25 "SkewEdges$Pad" "at" "I") (by decide +kernel)
  have hS : va_S (kA a 2) s.heap s.heap [] := va_S.rf
  have hP : va_P E.1 vwCl (wPadx E a (v 0 0) (v 0 1) (v 0 2) (v 0 3) (v 0 4) (v 0 5) (v 0 6) (v 1)) s.heap := hP
  have hD := dPad (E := E) hj (v 0 0) (v 0 1) (v 0 2) (v 0 3) (v 0 4) (v 0 5) (v 0 6) (v 1)
  have hl := lv_entry ([.ref (a 0), .int x1]) (n := 2) (Nat.le_of_ble_eq_true rfl)
  rw [lg_entry_eq]
  generalize (lg_sl ([.ref (a 0), .int x1]) ++ List.replicate (2 - (lg_sl ([.ref (a 0), .int x1])).length) Slot.unset).toArray = ls at hl ⊢
  have hl : lv_has ls 2 [(0, .ref (a 0)), (1, .int x1)] := hl
  replace hE := hE.trans mX3_passSign_s
  refine lv_aload_n hx hb dX3_passSign_0 rfl (lv_at hl 0 rfl) ?_
  refine va_get (D := E.1) (ci := 2) (v := .int (v 0 5)) (C := RX3) (T := TX3) (N := 8) hx hb hts hiX3 hown hK.1 hP 0 rfl rfl 5 (by decide) hf25 (fun _ h9 => h9) rfl dX3_passSign_1 ?_
  refine lv_aload_n hx hb dX3_passSign_4 rfl (lv_at hl 0 rfl) ?_
  refine va_get (D := E.1) (ci := 2) (v := .int (v 0 0)) (C := RX3) (T := TX3) (N := 8) hx hb hts hiX3 hown hK.1 hP 0 rfl rfl 0 (by decide) hf21 (fun _ h9 => h9) rfl dX3_passSign_5 ?_
  refine lv_icmp_ge (tgt := 24) hx hb dX3_passSign_8 (by decide) (fun c_1 => ?_) (fun c_1 => ?_)
  · replace hE := hE.trans (if_pos c_1)
    refine lv_iconst (v := 0) hx hb dX3_passSign_24 (by decide) ?_
    subst R
    exact W.zret (v := 0) (ty := .boolean) hx hb hr rfl (fun t ht hW => ⟨rfl, by rw [ht]; exact hP, hS.F ht⟩) hS.2.2 dX3_passSign_25
  · replace hE := hE.trans (if_neg c_1)
    have hlt := hp.lt c_1
    refine lv_aload_n hx hb dX3_passSign_11 rfl (lv_at hl 0 rfl) ?_
    refine va_get (D := E.1) (ci := 2) (v := .ref (a 1)) (C := RX3) (T := TX3) (N := 8) hx hb hts hiX3 hown hK.1 hP 0 rfl rfl 7 (by decide) hf9 (fun _ h9 => h9) rfl dX3_passSign_12 ?_
    refine lv_aload_n hx hb dX3_passSign_15 rfl (lv_at hl 0 rfl) ?_
    refine va_get (D := E.1) (ci := 2) (v := .int (v 0 5)) (C := RX3) (T := TX3) (N := 8) hx hb hts hiX3 hown hK.1 hP 0 rfl rfl 5 (by decide) hf25 (fun _ h9 => h9) rfl dX3_passSign_16 ?_
    refine va_cald (D := E.1) hx hb hK.1 hP 1 2 rfl rfl hlt.in80 dX3_passSign_19 ?_
    refine lv_iload_n hx hb dX3_passSign_20 rfl (lv_at hl 1 rfl) ?_
    refine lv_icmp_eq (tgt := 26) hx hb dX3_passSign_21 (by decide) (fun c_2 => ?_) (fun c_2 => ?_)
    · replace hE := hE.trans (if_pos c_2)
      refine lv_aload_n hx hb dX3_passSign_26 rfl (lv_at hl 0 rfl) ?_
      refine lv_dup hx hb dX3_passSign_27 rfl ?_
      refine va_get (D := E.1) (ci := 2) (v := .int (v 0 5)) (C := RX3) (T := TX3) (N := 8) hx hb hts hiX3 hown hK.1 hP 0 rfl rfl 5 (by decide) hf25 (fun _ h9 => h9) rfl dX3_passSign_28 ?_
      refine lv_iconst (v := 1) hx hb dX3_passSign_31 (by decide) ?_
      refine lv_iadd hx hb dX3_passSign_32 ?_
      refine va_put (D := E.1) (ci := 2) (v := .int ((v 0 5) + 1)) (ty := .int) (C := RX3) (T := TX3) (N := 8) hx hb hts hiX3 tyX3 tyX3_ok nmX3 hown hK.1 hP hD hS 0 rfl rfl 5 (by decide) hf25 (fun _ h9 => h9) rfl (by decide +kernel) rfl rfl (Nat.le_of_ble_eq_true rfl) dX3_passSign_33 (fun H locs hP _ hS => ?_)
      have hP : va_P E.1 vwCl (wPadx E a (v 0 0) (v 0 1) (v 0 2) (v 0 3) (v 0 4) ((v 0 5) + 1) (v 0 6) (v 1)) H := hP
      have hD := dPad (E := E) hj (v 0 0) (v 0 1) (v 0 2) (v 0 3) (v 0 4) ((v 0 5) + 1) (v 0 6) (v 1)
      refine lv_iconst (v := 1) hx hb dX3_passSign_36 (by decide) ?_
      subst R
      exact W.zret (v := 1) (ty := .boolean) hx hb hr rfl (fun t ht hW => ⟨rfl, by rw [ht]; exact hP, hS.F ht⟩) hS.2.2 dX3_passSign_37
    · replace hE := hE.trans (if_neg c_2)
      refine lv_iconst (v := 0) hx hb dX3_passSign_24 (by decide) ?_
      subst R
      exact W.zret (v := 0) (ty := .boolean) hx hb hr rfl (fun t ht hW => ⟨rfl, by rw [ht]; exact hP, hS.F ht⟩) hS.2.2 dX3_passSign_25
theorem passSign_ok {v : kG} {x : Int32} (h : pOK (v 0 0) (v 0 5)) : pOK (v 0 0) (mX3_passSign v x).2 := by
  unfold mX3_passSign
  split
  · exact h
  · rename_i c
    split
    · exact (h.lt c).next
    · exact h
