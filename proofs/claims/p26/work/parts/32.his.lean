def wHisx (E : kE) (a : Nat → Nat) (q0 q1 : Int32) : va_W := [(a 0, .inr (0, [.int q0, .int q1, .ref (a 1)]))]
abbrev wHis (E : kE) (a : Nat → Nat) (v : kG) : va_W := wHisx E a (v 0 0) (v 0 1)
theorem dHis {E : kE} {a : Nat → Nat} (h : kInj a 1) (q0 q1 : Int32) : va_D (kA a 1) (wHisx E a q0 q1) := kD_of h rfl
def mX1_keepUnlessError (v : kG) (x1 : Int32) : Int32 × Int32 × Int32 :=
  if x1 < 0 then
    (x1, (v 0 0), (v 0 1))
  else
    if 7 ≤ ((v 0 1) + 1) then
      (x1, (if 6 < ((v 0 0) + 1) then 6 else ((v 0 0) + 1)), 0)
    else
      (x1, (if 6 < ((v 0 0) + 1) then 6 else ((v 0 0) + 1)), ((v 0 1) + 1))
theorem mX1_keepUnlessError_s {v : kG} {x1 : Int32} : mX1_keepUnlessError v x1 = (
  if x1 < 0 then
    (x1, (v 0 0), (v 0 1))
  else
    if 7 ≤ ((v 0 1) + 1) then
      (x1, (if 6 < ((v 0 0) + 1) then 6 else ((v 0 0) + 1)), 0)
    else
      (x1, (if 6 < ((v 0 0) + 1) then 6 else ((v 0 0) + 1)), ((v 0 1) + 1)) : Int32 × Int32 × Int32) := rfl
set_option maxHeartbeats 400000 in
set_option maxRecDepth 100000 in
theorem c_X1_keepUnlessError (l : Launch) (E : kE) (a : Nat → Nat) (v : kG) (hj : kInj a 1) (x1 : Int32) (R : Int32 × Int32 × Int32) (hE : R = mX1_keepUnlessError v x1) : Met l yX1_keepUnlessError wsX1_keepUnlessError ({ frames := 1, cells := 0, slots := 0, locals := 21 }) (kPre E [.ref (a 0), .int x1] (wHisx E a (v 0 0) (v 0 1))) (kWi E R.1 (wHisx E a R.2.1 R.2.2) (kA a 1)) 0 0 (kA a 1) := by
  refine Met.ofW (cc := cX1_keepUnlessError) (maxL := 2) (ret := (some .int)) (by decide) rfl ?_
  intro p e s m args below meth c s₁ B hml hv
  obtain ⟨rfl, hK, hP⟩ := hv
  have hx := B.exec
  have hb := B.bytes
  have hr := B.returns
  have hts := atoms_spec (ws := wsX1_keepUnlessError) B.pre
  have hown : s.vm.findClass RX1 = some m.cls := findClass_of_methodNamed B.named
  have hlocks := B.notSynchronized
  have hiX1 : ∀ w ∈ wsX10, w ∈ wsX1_keepUnlessError := by decide +kernel
  have hf9 := hts (.fieldLink RX1 9 "SkewEdges$History" "kept" "I") (by decide +kernel)
  have hf15 := hts (.fieldLink RX1 15 "SkewEdges$History" "next" "I") (by decide +kernel)
  have hS : va_S (kA a 1) s.heap s.heap [] := va_S.rf
  have hP : va_P E.1 vwCl (wHisx E a (v 0 0) (v 0 1)) s.heap := hP
  have hD := dHis (E := E) hj (v 0 0) (v 0 1)
  have hl := lv_entry ([.ref (a 0), .int x1]) (n := 2) (Nat.le_of_ble_eq_true rfl)
  rw [lg_entry_eq]
  generalize (lg_sl ([.ref (a 0), .int x1]) ++ List.replicate (2 - (lg_sl ([.ref (a 0), .int x1])).length) Slot.unset).toArray = ls at hl ⊢
  have hl : lv_has ls 2 [(0, .ref (a 0)), (1, .int x1)] := hl
  replace hE := hE.trans mX1_keepUnlessError_s
  refine lv_iload_n hx hb dX1_keepUnlessError_0 rfl (lv_at hl 1 rfl) ?_
  refine lv_if_lt (tgt := 44) hx hb dX1_keepUnlessError_1 (by decide) (fun c_1 => ?_) (fun c_1 => ?_)
  · replace hE := hE.trans (if_pos c_1)
    refine lv_iload_n hx hb dX1_keepUnlessError_44 rfl (lv_at hl 1 rfl) ?_
    subst R
    exact W.iret (v := x1) hx hb hr (fun t ht hW => ⟨rfl, by rw [ht]; exact hP, hS.F ht⟩) hS.2.2 dX1_keepUnlessError_45
  · replace hE := hE.trans (if_neg c_1)
    refine lv_aload_n hx hb dX1_keepUnlessError_4 rfl (lv_at hl 0 rfl) ?_
    refine lv_aload_n hx hb dX1_keepUnlessError_5 rfl (lv_at hl 0 rfl) ?_
    refine va_get (D := E.1) (ci := 0) (v := .int (v 0 1)) (C := RX1) (T := TX1) (N := 3) hx hb hts hiX1 hown hK.1 hP 0 rfl rfl 1 (by decide) hf15 (fun _ h9 => h9) rfl dX1_keepUnlessError_6 ?_
    refine lv_iconst (v := 1) hx hb dX1_keepUnlessError_9 (by decide) ?_
    refine lv_iadd hx hb dX1_keepUnlessError_10 ?_
    refine lv_bipush (v := 7) hx hb dX1_keepUnlessError_11 (by decide) ?_
    refine lv_icmp_ge (tgt := 25) hx hb dX1_keepUnlessError_13 (by decide) (fun c_2 => ?_) (fun c_2 => ?_)
    · replace hE := hE.trans (if_pos c_2)
      refine lv_iconst (v := 0) hx hb dX1_keepUnlessError_25 (by decide) ?_
      refine va_put (D := E.1) (ci := 0) (v := .int 0) (ty := .int) (C := RX1) (T := TX1) (N := 3) hx hb hts hiX1 tyX1 tyX1_ok nmX1 hown hK.1 hP hD hS 0 rfl rfl 1 (by decide) hf15 (fun _ h9 => h9) rfl (by decide +kernel) rfl rfl (Nat.le_of_ble_eq_true rfl) dX1_keepUnlessError_26 (fun H locs hP _ hS => ?_)
      have hP : va_P E.1 vwCl (wHisx E a (v 0 0) 0) H := hP
      have hD := dHis (E := E) hj (v 0 0) 0
      refine lv_aload_n hx hb dX1_keepUnlessError_29 rfl (lv_at hl 0 rfl) ?_
      refine lv_aload_n hx hb dX1_keepUnlessError_30 rfl (lv_at hl 0 rfl) ?_
      refine va_get (D := E.1) (ci := 0) (v := .int (v 0 0)) (C := RX1) (T := TX1) (N := 3) hx hb hts hiX1 hown hK.1 hP 0 rfl rfl 0 (by decide) hf9 (fun _ h9 => h9) rfl dX1_keepUnlessError_31 ?_
      refine lv_iconst (v := 1) hx hb dX1_keepUnlessError_34 (by decide) ?_
      refine lv_iadd hx hb dX1_keepUnlessError_35 ?_
      refine lv_bipush (v := 6) hx hb dX1_keepUnlessError_36 (by decide) ?_
      refine va_mmin hx hb (hml.trans hl.1.symm) hown (hts (.methodLink RX1 29 Lib.Math.min.name) (by decide +kernel)) (hts (.static Lib.Math.min.name) (by decide +kernel)) (hts (.initialized "java/lang/Math") (by decide +kernel)) (hts (.code Lib.Math.min.name Lib.Math.min.code 2 (some .int)) (by decide +kernel)) (Nat.le_of_ble_eq_true rfl) (Nat.le_of_ble_eq_true rfl) (Nat.zero_le _) (Nat.zero_le _) dX1_keepUnlessError_38 ?_
      refine va_put (D := E.1) (ci := 0) (v := .int (if 6 < ((v 0 0) + 1) then 6 else ((v 0 0) + 1))) (ty := .int) (C := RX1) (T := TX1) (N := 3) hx hb hts hiX1 tyX1 tyX1_ok nmX1 hown hK.1 hP hD hS 0 rfl rfl 0 (by decide) hf9 (fun _ h9 => h9) rfl (by decide +kernel) rfl rfl (Nat.le_of_ble_eq_true rfl) dX1_keepUnlessError_41 (fun H locs hP _ hS => ?_)
      have hP : va_P E.1 vwCl (wHisx E a (if 6 < ((v 0 0) + 1) then 6 else ((v 0 0) + 1)) 0) H := hP
      have hD := dHis (E := E) hj (if 6 < ((v 0 0) + 1) then 6 else ((v 0 0) + 1)) 0
      refine lv_iload_n hx hb dX1_keepUnlessError_44 rfl (lv_at hl 1 rfl) ?_
      subst R
      exact W.iret (v := x1) hx hb hr (fun t ht hW => ⟨rfl, by rw [ht]; exact hP, hS.F ht⟩) hS.2.2 dX1_keepUnlessError_45
    · replace hE := hE.trans (if_neg c_2)
      refine lv_aload_n hx hb dX1_keepUnlessError_16 rfl (lv_at hl 0 rfl) ?_
      refine va_get (D := E.1) (ci := 0) (v := .int (v 0 1)) (C := RX1) (T := TX1) (N := 3) hx hb hts hiX1 hown hK.1 hP 0 rfl rfl 1 (by decide) hf15 (fun _ h9 => h9) rfl dX1_keepUnlessError_17 ?_
      refine lv_iconst (v := 1) hx hb dX1_keepUnlessError_20 (by decide) ?_
      refine lv_iadd hx hb dX1_keepUnlessError_21 ?_
      refine lv_goto (tgt := 26) hx hb dX1_keepUnlessError_22 (by decide) ?_
      refine va_put (D := E.1) (ci := 0) (v := .int ((v 0 1) + 1)) (ty := .int) (C := RX1) (T := TX1) (N := 3) hx hb hts hiX1 tyX1 tyX1_ok nmX1 hown hK.1 hP hD hS 0 rfl rfl 1 (by decide) hf15 (fun _ h9 => h9) rfl (by decide +kernel) rfl rfl (Nat.le_of_ble_eq_true rfl) dX1_keepUnlessError_26 (fun H locs hP _ hS => ?_)
      have hP : va_P E.1 vwCl (wHisx E a (v 0 0) ((v 0 1) + 1)) H := hP
      have hD := dHis (E := E) hj (v 0 0) ((v 0 1) + 1)
      refine lv_aload_n hx hb dX1_keepUnlessError_29 rfl (lv_at hl 0 rfl) ?_
      refine lv_aload_n hx hb dX1_keepUnlessError_30 rfl (lv_at hl 0 rfl) ?_
      refine va_get (D := E.1) (ci := 0) (v := .int (v 0 0)) (C := RX1) (T := TX1) (N := 3) hx hb hts hiX1 hown hK.1 hP 0 rfl rfl 0 (by decide) hf9 (fun _ h9 => h9) rfl dX1_keepUnlessError_31 ?_
      refine lv_iconst (v := 1) hx hb dX1_keepUnlessError_34 (by decide) ?_
      refine lv_iadd hx hb dX1_keepUnlessError_35 ?_
      refine lv_bipush (v := 6) hx hb dX1_keepUnlessError_36 (by decide) ?_
      refine va_mmin hx hb (hml.trans hl.1.symm) hown (hts (.methodLink RX1 29 Lib.Math.min.name) (by decide +kernel)) (hts (.static Lib.Math.min.name) (by decide +kernel)) (hts (.initialized "java/lang/Math") (by decide +kernel)) (hts (.code Lib.Math.min.name Lib.Math.min.code 2 (some .int)) (by decide +kernel)) (Nat.le_of_ble_eq_true rfl) (Nat.le_of_ble_eq_true rfl) (Nat.zero_le _) (Nat.zero_le _) dX1_keepUnlessError_38 ?_
      refine va_put (D := E.1) (ci := 0) (v := .int (if 6 < ((v 0 0) + 1) then 6 else ((v 0 0) + 1))) (ty := .int) (C := RX1) (T := TX1) (N := 3) hx hb hts hiX1 tyX1 tyX1_ok nmX1 hown hK.1 hP hD hS 0 rfl rfl 0 (by decide) hf9 (fun _ h9 => h9) rfl (by decide +kernel) rfl rfl (Nat.le_of_ble_eq_true rfl) dX1_keepUnlessError_41 (fun H locs hP _ hS => ?_)
      have hP : va_P E.1 vwCl (wHisx E a (if 6 < ((v 0 0) + 1) then 6 else ((v 0 0) + 1)) ((v 0 1) + 1)) H := hP
      have hD := dHis (E := E) hj (if 6 < ((v 0 0) + 1) then 6 else ((v 0 0) + 1)) ((v 0 1) + 1)
      refine lv_iload_n hx hb dX1_keepUnlessError_44 rfl (lv_at hl 1 rfl) ?_
      subst R
      exact W.iret (v := x1) hx hb hr (fun t ht hW => ⟨rfl, by rw [ht]; exact hP, hS.F ht⟩) hS.2.2 dX1_keepUnlessError_45
def mX2_copyFrom (v : kG) (w : kG) : Int32 × Int32 × Int32 × (Nat → Int32) × (Nat → Int32) × (Nat → Int32) × (Nat → Int32) × (Nat → Int32) × (Nat → Int32) × (Nat → Int32) :=
  ((w 0 0), (w 0 1), (w 0 2), (va_cpy (w 1) (v 1) 0 0 12), (va_cpy (w 2) (v 2) 0 0 12), (va_cpy (w 3) (v 3) 0 0 12), (va_cpy (w 4) (v 4) 0 0 12), (va_cpy (w 5) (v 5) 0 0 12), (va_cpy (w 6) (v 6) 0 0 12), (va_cpy (w 7) (v 7) 0 0 192))
theorem mX2_copyFrom_s {v : kG} {w : kG} : mX2_copyFrom v w = (
  ((w 0 0), (w 0 1), (w 0 2), (va_cpy (w 1) (v 1) 0 0 12), (va_cpy (w 2) (v 2) 0 0 12), (va_cpy (w 3) (v 3) 0 0 12), (va_cpy (w 4) (v 4) 0 0 12), (va_cpy (w 5) (v 5) 0 0 12), (va_cpy (w 6) (v 6) 0 0 12), (va_cpy (w 7) (v 7) 0 0 192)) : Int32 × Int32 × Int32 × (Nat → Int32) × (Nat → Int32) × (Nat → Int32) × (Nat → Int32) × (Nat → Int32) × (Nat → Int32) × (Nat → Int32)) := rfl
set_option maxHeartbeats 400000 in
set_option maxRecDepth 100000 in
theorem c_X2_copyFrom (l : Launch) (E : kE) (a : Nat → Nat) (b : Nat → Nat) (v : kG) (w : kG) (hj : kInj a 8) (hj2 : kInj b 8) (hap : kAp a 8 b 8) (R : Int32 × Int32 × Int32 × (Nat → Int32) × (Nat → Int32) × (Nat → Int32) × (Nat → Int32) × (Nat → Int32) × (Nat → Int32) × (Nat → Int32)) (hE : R = mX2_copyFrom v w) : Met l yX2_copyFrom wsX2_copyFrom ({ frames := 1, cells := 0, slots := 0, locals := 26 }) (kPre E [.ref (a 0), .ref (b 0)] (wLedx E a (v 0 0) (v 0 1) (v 0 2) (v 1) (v 2) (v 3) (v 4) (v 5) (v 6) (v 7) ++ wLedx E b (w 0 0) (w 0 1) (w 0 2) (w 1) (w 2) (w 3) (w 4) (w 5) (w 6) (w 7))) (kWv E (wLedx E a R.1 R.2.1 R.2.2.1 R.2.2.2.1 R.2.2.2.2.1 R.2.2.2.2.2.1 R.2.2.2.2.2.2.1 R.2.2.2.2.2.2.2.1 R.2.2.2.2.2.2.2.2.1 R.2.2.2.2.2.2.2.2.2 ++ wLedx E b (w 0 0) (w 0 1) (w 0 2) (w 1) (w 2) (w 3) (w 4) (w 5) (w 6) (w 7)) (fun q => kA a 8 q ∨ kA b 8 q)) 0 0 (fun q => kA a 8 q ∨ kA b 8 q) := by
  refine Met.ofW (cc := cX2_copyFrom) (maxL := 2) (ret := none) (by decide) rfl ?_
  intro p e s m args below meth c s₁ B hml hv
  obtain ⟨rfl, hK, hP⟩ := hv
  have hx := B.exec
  have hb := B.bytes
  have hr := B.returns
  have hts := atoms_spec (ws := wsX2_copyFrom) B.pre
  have hown : s.vm.findClass RX2 = some m.cls := findClass_of_methodNamed B.named
  have hlocks := B.notSynchronized
  have hiX2 : ∀ w ∈ wsX20, w ∈ wsX2_copyFrom := by decide +kernel
  have hf9 := hts (.fieldLink RX2 9 "SkewEdges$Ledger" "rule" "I") (by decide +kernel)
  have hf15 := hts (.fieldLink RX2 15 "SkewEdges$Ledger" "moment" "I") (by decide +kernel)
  have hf18 := hts (.fieldLink RX2 18 "SkewEdges$Ledger" "total" "I") (by decide +kernel)
  have hf21 := hts (.fieldLink RX2 21 "SkewEdges$Ledger" "phase" "[I") (by decide +kernel)
  have hf25 := hts (.fieldLink RX2 25 "SkewEdges$Ledger" "beganAt" "[I") (by decide +kernel)
  have hf28 := hts (.fieldLink RX2 28 "SkewEdges$Ledger" "committedAt" "[I") (by decide +kernel)
  have hf31 := hts (.fieldLink RX2 31 "SkewEdges$Ledger" "readKeys" "[I") (by decide +kernel)
  have hf34 := hts (.fieldLink RX2 34 "SkewEdges$Ledger" "writtenKeys" "[I") (by decide +kernel)
  have hf37 := hts (.fieldLink RX2 37 "SkewEdges$Ledger" "reason" "[I") (by decide +kernel)
  have hf40 := hts (.fieldLink RX2 40 "SkewEdges$Ledger" "values" "[I") (by decide +kernel)
  have hS : va_S (fun q => kA a 8 q ∨ kA b 8 q) s.heap s.heap [] := va_S.rf
  have hP : va_P E.1 vwCl (wLedx E a (v 0 0) (v 0 1) (v 0 2) (v 1) (v 2) (v 3) (v 4) (v 5) (v 6) (v 7) ++ wLedx E b (w 0 0) (w 0 1) (w 0 2) (w 1) (w 2) (w 3) (w 4) (w 5) (w 6) (w 7)) s.heap := hP
  have hD := kD_app (dLed (E := E) hj (v 0 0) (v 0 1) (v 0 2) (v 1) (v 2) (v 3) (v 4) (v 5) (v 6) (v 7)) (dLed (E := E) hj2 (w 0 0) (w 0 1) (w 0 2) (w 1) (w 2) (w 3) (w 4) (w 5) (w 6) (w 7)) hap
  have hl := lv_entry ([.ref (a 0), .ref (b 0)]) (n := 2) (Nat.le_of_ble_eq_true rfl)
  rw [lg_entry_eq]
  generalize (lg_sl ([.ref (a 0), .ref (b 0)]) ++ List.replicate (2 - (lg_sl ([.ref (a 0), .ref (b 0)])).length) Slot.unset).toArray = ls at hl ⊢
  have hl : lv_has ls 2 [(0, .ref (a 0)), (1, .ref (b 0))] := hl
  replace hE := hE.trans mX2_copyFrom_s
  refine lv_aload_n hx hb dX2_copyFrom_0 rfl (lv_at hl 0 rfl) ?_
  refine lv_aload_n hx hb dX2_copyFrom_1 rfl (lv_at hl 1 rfl) ?_
  refine va_get (D := E.1) (ci := 1) (v := .int (w 0 0)) (C := RX2) (T := TX2) (N := 10) hx hb hts hiX2 hown hK.1 hP 8 rfl rfl 0 (by decide) hf9 (fun _ h9 => h9) rfl dX2_copyFrom_2 ?_
  refine va_put (D := E.1) (ci := 1) (v := .int (w 0 0)) (ty := .int) (C := RX2) (T := TX2) (N := 10) hx hb hts hiX2 tyX2 tyX2_ok nmX2 hown hK.1 hP hD hS 0 rfl rfl 0 (by decide) hf9 (fun _ h9 => h9) rfl (by decide +kernel) rfl rfl (Nat.le_of_ble_eq_true rfl) dX2_copyFrom_5 (fun H locs hP _ hS => ?_)
  have hP : va_P E.1 vwCl (wLedx E a (w 0 0) (v 0 1) (v 0 2) (v 1) (v 2) (v 3) (v 4) (v 5) (v 6) (v 7) ++ wLedx E b (w 0 0) (w 0 1) (w 0 2) (w 1) (w 2) (w 3) (w 4) (w 5) (w 6) (w 7)) H := hP
  have hD := kD_app (dLed (E := E) hj (w 0 0) (v 0 1) (v 0 2) (v 1) (v 2) (v 3) (v 4) (v 5) (v 6) (v 7)) (dLed (E := E) hj2 (w 0 0) (w 0 1) (w 0 2) (w 1) (w 2) (w 3) (w 4) (w 5) (w 6) (w 7)) hap
  refine lv_aload_n hx hb dX2_copyFrom_8 rfl (lv_at hl 0 rfl) ?_
  refine lv_aload_n hx hb dX2_copyFrom_9 rfl (lv_at hl 1 rfl) ?_
  refine va_get (D := E.1) (ci := 1) (v := .int (w 0 1)) (C := RX2) (T := TX2) (N := 10) hx hb hts hiX2 hown hK.1 hP 8 rfl rfl 1 (by decide) hf15 (fun _ h9 => h9) rfl dX2_copyFrom_10 ?_
  refine va_put (D := E.1) (ci := 1) (v := .int (w 0 1)) (ty := .int) (C := RX2) (T := TX2) (N := 10) hx hb hts hiX2 tyX2 tyX2_ok nmX2 hown hK.1 hP hD hS 0 rfl rfl 1 (by decide) hf15 (fun _ h9 => h9) rfl (by decide +kernel) rfl rfl (Nat.le_of_ble_eq_true rfl) dX2_copyFrom_13 (fun H locs hP _ hS => ?_)
  have hP : va_P E.1 vwCl (wLedx E a (w 0 0) (w 0 1) (v 0 2) (v 1) (v 2) (v 3) (v 4) (v 5) (v 6) (v 7) ++ wLedx E b (w 0 0) (w 0 1) (w 0 2) (w 1) (w 2) (w 3) (w 4) (w 5) (w 6) (w 7)) H := hP
  have hD := kD_app (dLed (E := E) hj (w 0 0) (w 0 1) (v 0 2) (v 1) (v 2) (v 3) (v 4) (v 5) (v 6) (v 7)) (dLed (E := E) hj2 (w 0 0) (w 0 1) (w 0 2) (w 1) (w 2) (w 3) (w 4) (w 5) (w 6) (w 7)) hap
  refine lv_aload_n hx hb dX2_copyFrom_16 rfl (lv_at hl 0 rfl) ?_
  refine lv_aload_n hx hb dX2_copyFrom_17 rfl (lv_at hl 1 rfl) ?_
  refine va_get (D := E.1) (ci := 1) (v := .int (w 0 2)) (C := RX2) (T := TX2) (N := 10) hx hb hts hiX2 hown hK.1 hP 8 rfl rfl 2 (by decide) hf18 (fun _ h9 => h9) rfl dX2_copyFrom_18 ?_
  refine va_put (D := E.1) (ci := 1) (v := .int (w 0 2)) (ty := .int) (C := RX2) (T := TX2) (N := 10) hx hb hts hiX2 tyX2 tyX2_ok nmX2 hown hK.1 hP hD hS 0 rfl rfl 2 (by decide) hf18 (fun _ h9 => h9) rfl (by decide +kernel) rfl rfl (Nat.le_of_ble_eq_true rfl) dX2_copyFrom_21 (fun H locs hP _ hS => ?_)
  have hP : va_P E.1 vwCl (wLedx E a (w 0 0) (w 0 1) (w 0 2) (v 1) (v 2) (v 3) (v 4) (v 5) (v 6) (v 7) ++ wLedx E b (w 0 0) (w 0 1) (w 0 2) (w 1) (w 2) (w 3) (w 4) (w 5) (w 6) (w 7)) H := hP
  have hD := kD_app (dLed (E := E) hj (w 0 0) (w 0 1) (w 0 2) (v 1) (v 2) (v 3) (v 4) (v 5) (v 6) (v 7)) (dLed (E := E) hj2 (w 0 0) (w 0 1) (w 0 2) (w 1) (w 2) (w 3) (w 4) (w 5) (w 6) (w 7)) hap
  refine lv_aload_n hx hb dX2_copyFrom_24 rfl (lv_at hl 1 rfl) ?_
  refine va_get (D := E.1) (ci := 1) (v := .ref (b 1)) (C := RX2) (T := TX2) (N := 10) hx hb hts hiX2 hown hK.1 hP 8 rfl rfl 3 (by decide) hf21 (fun _ h9 => h9) rfl dX2_copyFrom_25 ?_
  refine lv_iconst (v := 0) hx hb dX2_copyFrom_28 (by decide) ?_
  refine lv_aload_n hx hb dX2_copyFrom_29 rfl (lv_at hl 0 rfl) ?_
  refine va_get (D := E.1) (ci := 1) (v := .ref (a 1)) (C := RX2) (T := TX2) (N := 10) hx hb hts hiX2 hown hK.1 hP 0 rfl rfl 3 (by decide) hf21 (fun _ h9 => h9) rfl dX2_copyFrom_30 ?_
  refine lv_iconst (v := 0) hx hb dX2_copyFrom_33 (by decide) ?_
  refine lv_bipush (v := 12) hx hb dX2_copyFrom_34 (by decide) ?_
  refine va_copyi (D := E.1) hx hb (hml.trans hl.1.symm) hown (hts (.methodLink RX2 43 arraycopyName) (by decide +kernel)) (hts (.native arraycopyName) (by decide +kernel)) (hts (.static arraycopyName) (by decide +kernel)) (hts (.initialized "java/lang/System") (by decide +kernel)) hK.1 hP hD hS 9 1 0 0 rfl rfl rfl rfl rfl (by decide) (by decide) (by decide) (Nat.le_of_ble_eq_true rfl) (Nat.le_of_ble_eq_true rfl) (fun _ _ => rfl) (Nat.le_of_ble_eq_true rfl) (Nat.le_of_ble_eq_true rfl) dX2_copyFrom_36 (fun H locs hP _ hS => ?_)
  have hP : va_P E.1 vwCl (wLedx E a (w 0 0) (w 0 1) (w 0 2) (va_cpy (w 1) (v 1) 0 0 12) (v 2) (v 3) (v 4) (v 5) (v 6) (v 7) ++ wLedx E b (w 0 0) (w 0 1) (w 0 2) (w 1) (w 2) (w 3) (w 4) (w 5) (w 6) (w 7)) H := hP
  have hD := kD_app (dLed (E := E) hj (w 0 0) (w 0 1) (w 0 2) (va_cpy (w 1) (v 1) 0 0 12) (v 2) (v 3) (v 4) (v 5) (v 6) (v 7)) (dLed (E := E) hj2 (w 0 0) (w 0 1) (w 0 2) (w 1) (w 2) (w 3) (w 4) (w 5) (w 6) (w 7)) hap
  refine lv_aload_n hx hb dX2_copyFrom_39 rfl (lv_at hl 1 rfl) ?_
  refine va_get (D := E.1) (ci := 1) (v := .ref (b 2)) (C := RX2) (T := TX2) (N := 10) hx hb hts hiX2 hown hK.1 hP 8 rfl rfl 4 (by decide) hf25 (fun _ h9 => h9) rfl dX2_copyFrom_40 ?_
  refine lv_iconst (v := 0) hx hb dX2_copyFrom_43 (by decide) ?_
  refine lv_aload_n hx hb dX2_copyFrom_44 rfl (lv_at hl 0 rfl) ?_
  refine va_get (D := E.1) (ci := 1) (v := .ref (a 2)) (C := RX2) (T := TX2) (N := 10) hx hb hts hiX2 hown hK.1 hP 0 rfl rfl 4 (by decide) hf25 (fun _ h9 => h9) rfl dX2_copyFrom_45 ?_
  refine lv_iconst (v := 0) hx hb dX2_copyFrom_48 (by decide) ?_
  refine lv_bipush (v := 12) hx hb dX2_copyFrom_49 (by decide) ?_
  refine va_copyi (D := E.1) hx hb (hml.trans hl.1.symm) hown (hts (.methodLink RX2 43 arraycopyName) (by decide +kernel)) (hts (.native arraycopyName) (by decide +kernel)) (hts (.static arraycopyName) (by decide +kernel)) (hts (.initialized "java/lang/System") (by decide +kernel)) hK.1 hP hD hS 10 2 0 0 rfl rfl rfl rfl rfl (by decide) (by decide) (by decide) (Nat.le_of_ble_eq_true rfl) (Nat.le_of_ble_eq_true rfl) (fun _ _ => rfl) (Nat.le_of_ble_eq_true rfl) (Nat.le_of_ble_eq_true rfl) dX2_copyFrom_51 (fun H locs hP _ hS => ?_)
  have hP : va_P E.1 vwCl (wLedx E a (w 0 0) (w 0 1) (w 0 2) (va_cpy (w 1) (v 1) 0 0 12) (va_cpy (w 2) (v 2) 0 0 12) (v 3) (v 4) (v 5) (v 6) (v 7) ++ wLedx E b (w 0 0) (w 0 1) (w 0 2) (w 1) (w 2) (w 3) (w 4) (w 5) (w 6) (w 7)) H := hP
  have hD := kD_app (dLed (E := E) hj (w 0 0) (w 0 1) (w 0 2) (va_cpy (w 1) (v 1) 0 0 12) (va_cpy (w 2) (v 2) 0 0 12) (v 3) (v 4) (v 5) (v 6) (v 7)) (dLed (E := E) hj2 (w 0 0) (w 0 1) (w 0 2) (w 1) (w 2) (w 3) (w 4) (w 5) (w 6) (w 7)) hap
  refine lv_aload_n hx hb dX2_copyFrom_54 rfl (lv_at hl 1 rfl) ?_
  refine va_get (D := E.1) (ci := 1) (v := .ref (b 3)) (C := RX2) (T := TX2) (N := 10) hx hb hts hiX2 hown hK.1 hP 8 rfl rfl 5 (by decide) hf28 (fun _ h9 => h9) rfl dX2_copyFrom_55 ?_
  refine lv_iconst (v := 0) hx hb dX2_copyFrom_58 (by decide) ?_
  refine lv_aload_n hx hb dX2_copyFrom_59 rfl (lv_at hl 0 rfl) ?_
  refine va_get (D := E.1) (ci := 1) (v := .ref (a 3)) (C := RX2) (T := TX2) (N := 10) hx hb hts hiX2 hown hK.1 hP 0 rfl rfl 5 (by decide) hf28 (fun _ h9 => h9) rfl dX2_copyFrom_60 ?_
  refine lv_iconst (v := 0) hx hb dX2_copyFrom_63 (by decide) ?_
  refine lv_bipush (v := 12) hx hb dX2_copyFrom_64 (by decide) ?_
  refine va_copyi (D := E.1) hx hb (hml.trans hl.1.symm) hown (hts (.methodLink RX2 43 arraycopyName) (by decide +kernel)) (hts (.native arraycopyName) (by decide +kernel)) (hts (.static arraycopyName) (by decide +kernel)) (hts (.initialized "java/lang/System") (by decide +kernel)) hK.1 hP hD hS 11 3 0 0 rfl rfl rfl rfl rfl (by decide) (by decide) (by decide) (Nat.le_of_ble_eq_true rfl) (Nat.le_of_ble_eq_true rfl) (fun _ _ => rfl) (Nat.le_of_ble_eq_true rfl) (Nat.le_of_ble_eq_true rfl) dX2_copyFrom_66 (fun H locs hP _ hS => ?_)
  have hP : va_P E.1 vwCl (wLedx E a (w 0 0) (w 0 1) (w 0 2) (va_cpy (w 1) (v 1) 0 0 12) (va_cpy (w 2) (v 2) 0 0 12) (va_cpy (w 3) (v 3) 0 0 12) (v 4) (v 5) (v 6) (v 7) ++ wLedx E b (w 0 0) (w 0 1) (w 0 2) (w 1) (w 2) (w 3) (w 4) (w 5) (w 6) (w 7)) H := hP
  have hD := kD_app (dLed (E := E) hj (w 0 0) (w 0 1) (w 0 2) (va_cpy (w 1) (v 1) 0 0 12) (va_cpy (w 2) (v 2) 0 0 12) (va_cpy (w 3) (v 3) 0 0 12) (v 4) (v 5) (v 6) (v 7)) (dLed (E := E) hj2 (w 0 0) (w 0 1) (w 0 2) (w 1) (w 2) (w 3) (w 4) (w 5) (w 6) (w 7)) hap
  refine lv_aload_n hx hb dX2_copyFrom_69 rfl (lv_at hl 1 rfl) ?_
  refine va_get (D := E.1) (ci := 1) (v := .ref (b 4)) (C := RX2) (T := TX2) (N := 10) hx hb hts hiX2 hown hK.1 hP 8 rfl rfl 6 (by decide) hf31 (fun _ h9 => h9) rfl dX2_copyFrom_70 ?_
  refine lv_iconst (v := 0) hx hb dX2_copyFrom_73 (by decide) ?_
  refine lv_aload_n hx hb dX2_copyFrom_74 rfl (lv_at hl 0 rfl) ?_
  refine va_get (D := E.1) (ci := 1) (v := .ref (a 4)) (C := RX2) (T := TX2) (N := 10) hx hb hts hiX2 hown hK.1 hP 0 rfl rfl 6 (by decide) hf31 (fun _ h9 => h9) rfl dX2_copyFrom_75 ?_
  refine lv_iconst (v := 0) hx hb dX2_copyFrom_78 (by decide) ?_
  refine lv_bipush (v := 12) hx hb dX2_copyFrom_79 (by decide) ?_
  refine va_copyi (D := E.1) hx hb (hml.trans hl.1.symm) hown (hts (.methodLink RX2 43 arraycopyName) (by decide +kernel)) (hts (.native arraycopyName) (by decide +kernel)) (hts (.static arraycopyName) (by decide +kernel)) (hts (.initialized "java/lang/System") (by decide +kernel)) hK.1 hP hD hS 12 4 0 0 rfl rfl rfl rfl rfl (by decide) (by decide) (by decide) (Nat.le_of_ble_eq_true rfl) (Nat.le_of_ble_eq_true rfl) (fun _ _ => rfl) (Nat.le_of_ble_eq_true rfl) (Nat.le_of_ble_eq_true rfl) dX2_copyFrom_81 (fun H locs hP _ hS => ?_)
  have hP : va_P E.1 vwCl (wLedx E a (w 0 0) (w 0 1) (w 0 2) (va_cpy (w 1) (v 1) 0 0 12) (va_cpy (w 2) (v 2) 0 0 12) (va_cpy (w 3) (v 3) 0 0 12) (va_cpy (w 4) (v 4) 0 0 12) (v 5) (v 6) (v 7) ++ wLedx E b (w 0 0) (w 0 1) (w 0 2) (w 1) (w 2) (w 3) (w 4) (w 5) (w 6) (w 7)) H := hP
  have hD := kD_app (dLed (E := E) hj (w 0 0) (w 0 1) (w 0 2) (va_cpy (w 1) (v 1) 0 0 12) (va_cpy (w 2) (v 2) 0 0 12) (va_cpy (w 3) (v 3) 0 0 12) (va_cpy (w 4) (v 4) 0 0 12) (v 5) (v 6) (v 7)) (dLed (E := E) hj2 (w 0 0) (w 0 1) (w 0 2) (w 1) (w 2) (w 3) (w 4) (w 5) (w 6) (w 7)) hap
  refine lv_aload_n hx hb dX2_copyFrom_84 rfl (lv_at hl 1 rfl) ?_
  refine va_get (D := E.1) (ci := 1) (v := .ref (b 5)) (C := RX2) (T := TX2) (N := 10) hx hb hts hiX2 hown hK.1 hP 8 rfl rfl 7 (by decide) hf34 (fun _ h9 => h9) rfl dX2_copyFrom_85 ?_
  refine lv_iconst (v := 0) hx hb dX2_copyFrom_88 (by decide) ?_
  refine lv_aload_n hx hb dX2_copyFrom_89 rfl (lv_at hl 0 rfl) ?_
  refine va_get (D := E.1) (ci := 1) (v := .ref (a 5)) (C := RX2) (T := TX2) (N := 10) hx hb hts hiX2 hown hK.1 hP 0 rfl rfl 7 (by decide) hf34 (fun _ h9 => h9) rfl dX2_copyFrom_90 ?_
  refine lv_iconst (v := 0) hx hb dX2_copyFrom_93 (by decide) ?_
  refine lv_bipush (v := 12) hx hb dX2_copyFrom_94 (by decide) ?_
  refine va_copyi (D := E.1) hx hb (hml.trans hl.1.symm) hown (hts (.methodLink RX2 43 arraycopyName) (by decide +kernel)) (hts (.native arraycopyName) (by decide +kernel)) (hts (.static arraycopyName) (by decide +kernel)) (hts (.initialized "java/lang/System") (by decide +kernel)) hK.1 hP hD hS 13 5 0 0 rfl rfl rfl rfl rfl (by decide) (by decide) (by decide) (Nat.le_of_ble_eq_true rfl) (Nat.le_of_ble_eq_true rfl) (fun _ _ => rfl) (Nat.le_of_ble_eq_true rfl) (Nat.le_of_ble_eq_true rfl) dX2_copyFrom_96 (fun H locs hP _ hS => ?_)
  have hP : va_P E.1 vwCl (wLedx E a (w 0 0) (w 0 1) (w 0 2) (va_cpy (w 1) (v 1) 0 0 12) (va_cpy (w 2) (v 2) 0 0 12) (va_cpy (w 3) (v 3) 0 0 12) (va_cpy (w 4) (v 4) 0 0 12) (va_cpy (w 5) (v 5) 0 0 12) (v 6) (v 7) ++ wLedx E b (w 0 0) (w 0 1) (w 0 2) (w 1) (w 2) (w 3) (w 4) (w 5) (w 6) (w 7)) H := hP
  have hD := kD_app (dLed (E := E) hj (w 0 0) (w 0 1) (w 0 2) (va_cpy (w 1) (v 1) 0 0 12) (va_cpy (w 2) (v 2) 0 0 12) (va_cpy (w 3) (v 3) 0 0 12) (va_cpy (w 4) (v 4) 0 0 12) (va_cpy (w 5) (v 5) 0 0 12) (v 6) (v 7)) (dLed (E := E) hj2 (w 0 0) (w 0 1) (w 0 2) (w 1) (w 2) (w 3) (w 4) (w 5) (w 6) (w 7)) hap
  refine lv_aload_n hx hb dX2_copyFrom_99 rfl (lv_at hl 1 rfl) ?_
  refine va_get (D := E.1) (ci := 1) (v := .ref (b 6)) (C := RX2) (T := TX2) (N := 10) hx hb hts hiX2 hown hK.1 hP 8 rfl rfl 8 (by decide) hf37 (fun _ h9 => h9) rfl dX2_copyFrom_100 ?_
  refine lv_iconst (v := 0) hx hb dX2_copyFrom_103 (by decide) ?_
  refine lv_aload_n hx hb dX2_copyFrom_104 rfl (lv_at hl 0 rfl) ?_
  refine va_get (D := E.1) (ci := 1) (v := .ref (a 6)) (C := RX2) (T := TX2) (N := 10) hx hb hts hiX2 hown hK.1 hP 0 rfl rfl 8 (by decide) hf37 (fun _ h9 => h9) rfl dX2_copyFrom_105 ?_
  refine lv_iconst (v := 0) hx hb dX2_copyFrom_108 (by decide) ?_
  refine lv_bipush (v := 12) hx hb dX2_copyFrom_109 (by decide) ?_
  refine va_copyi (D := E.1) hx hb (hml.trans hl.1.symm) hown (hts (.methodLink RX2 43 arraycopyName) (by decide +kernel)) (hts (.native arraycopyName) (by decide +kernel)) (hts (.static arraycopyName) (by decide +kernel)) (hts (.initialized "java/lang/System") (by decide +kernel)) hK.1 hP hD hS 14 6 0 0 rfl rfl rfl rfl rfl (by decide) (by decide) (by decide) (Nat.le_of_ble_eq_true rfl) (Nat.le_of_ble_eq_true rfl) (fun _ _ => rfl) (Nat.le_of_ble_eq_true rfl) (Nat.le_of_ble_eq_true rfl) dX2_copyFrom_111 (fun H locs hP _ hS => ?_)
  have hP : va_P E.1 vwCl (wLedx E a (w 0 0) (w 0 1) (w 0 2) (va_cpy (w 1) (v 1) 0 0 12) (va_cpy (w 2) (v 2) 0 0 12) (va_cpy (w 3) (v 3) 0 0 12) (va_cpy (w 4) (v 4) 0 0 12) (va_cpy (w 5) (v 5) 0 0 12) (va_cpy (w 6) (v 6) 0 0 12) (v 7) ++ wLedx E b (w 0 0) (w 0 1) (w 0 2) (w 1) (w 2) (w 3) (w 4) (w 5) (w 6) (w 7)) H := hP
  have hD := kD_app (dLed (E := E) hj (w 0 0) (w 0 1) (w 0 2) (va_cpy (w 1) (v 1) 0 0 12) (va_cpy (w 2) (v 2) 0 0 12) (va_cpy (w 3) (v 3) 0 0 12) (va_cpy (w 4) (v 4) 0 0 12) (va_cpy (w 5) (v 5) 0 0 12) (va_cpy (w 6) (v 6) 0 0 12) (v 7)) (dLed (E := E) hj2 (w 0 0) (w 0 1) (w 0 2) (w 1) (w 2) (w 3) (w 4) (w 5) (w 6) (w 7)) hap
  refine lv_aload_n hx hb dX2_copyFrom_114 rfl (lv_at hl 1 rfl) ?_
  refine va_get (D := E.1) (ci := 1) (v := .ref (b 7)) (C := RX2) (T := TX2) (N := 10) hx hb hts hiX2 hown hK.1 hP 8 rfl rfl 9 (by decide) hf40 (fun _ h9 => h9) rfl dX2_copyFrom_115 ?_
  refine lv_iconst (v := 0) hx hb dX2_copyFrom_118 (by decide) ?_
  refine lv_aload_n hx hb dX2_copyFrom_119 rfl (lv_at hl 0 rfl) ?_
  refine va_get (D := E.1) (ci := 1) (v := .ref (a 7)) (C := RX2) (T := TX2) (N := 10) hx hb hts hiX2 hown hK.1 hP 0 rfl rfl 9 (by decide) hf40 (fun _ h9 => h9) rfl dX2_copyFrom_120 ?_
  refine lv_iconst (v := 0) hx hb dX2_copyFrom_123 (by decide) ?_
  refine lv_sipush (v := 192) hx hb dX2_copyFrom_124 (by decide) ?_
  refine va_copyi (D := E.1) hx hb (hml.trans hl.1.symm) hown (hts (.methodLink RX2 43 arraycopyName) (by decide +kernel)) (hts (.native arraycopyName) (by decide +kernel)) (hts (.static arraycopyName) (by decide +kernel)) (hts (.initialized "java/lang/System") (by decide +kernel)) hK.1 hP hD hS 15 7 0 0 rfl rfl rfl rfl rfl (by decide) (by decide) (by decide) (Nat.le_of_ble_eq_true rfl) (Nat.le_of_ble_eq_true rfl) (fun _ _ => rfl) (Nat.le_of_ble_eq_true rfl) (Nat.le_of_ble_eq_true rfl) dX2_copyFrom_127 (fun H locs hP _ hS => ?_)
  have hP : va_P E.1 vwCl (wLedx E a (w 0 0) (w 0 1) (w 0 2) (va_cpy (w 1) (v 1) 0 0 12) (va_cpy (w 2) (v 2) 0 0 12) (va_cpy (w 3) (v 3) 0 0 12) (va_cpy (w 4) (v 4) 0 0 12) (va_cpy (w 5) (v 5) 0 0 12) (va_cpy (w 6) (v 6) 0 0 12) (va_cpy (w 7) (v 7) 0 0 192) ++ wLedx E b (w 0 0) (w 0 1) (w 0 2) (w 1) (w 2) (w 3) (w 4) (w 5) (w 6) (w 7)) H := hP
  have hD := kD_app (dLed (E := E) hj (w 0 0) (w 0 1) (w 0 2) (va_cpy (w 1) (v 1) 0 0 12) (va_cpy (w 2) (v 2) 0 0 12) (va_cpy (w 3) (v 3) 0 0 12) (va_cpy (w 4) (v 4) 0 0 12) (va_cpy (w 5) (v 5) 0 0 12) (va_cpy (w 6) (v 6) 0 0 12) (va_cpy (w 7) (v 7) 0 0 192)) (dLed (E := E) hj2 (w 0 0) (w 0 1) (w 0 2) (w 1) (w 2) (w 3) (w 4) (w 5) (w 6) (w 7)) hap
  subst R
  exact W.vret hx hb hr (fun t ht hW => ⟨rfl, by rw [ht]; exact hP, hS.F ht⟩) hS.2.2 dX2_copyFrom_130
