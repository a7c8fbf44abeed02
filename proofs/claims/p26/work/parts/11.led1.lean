def mX2_exists (v : kG) (x1 : Int32) : Int32 :=
  if x1 < 0 then
    0
  else
    if (v 0 2) ≤ x1 then
      0
    else
      1
theorem mX2_exists_s {v : kG} {x1 : Int32} : mX2_exists v x1 = (
  if x1 < 0 then
    0
  else
    if (v 0 2) ≤ x1 then
      0
    else
      1 : Int32) := rfl
set_option maxHeartbeats 400000 in
set_option maxRecDepth 100000 in
theorem c_X2_exists (l : Launch) (E : kE) (a : Nat → Nat) (v : kG) (x1 : Int32) (R : Int32) (hE : R = mX2_exists v x1) : Met l yX2_exists wsX2_exists ({ frames := 0, cells := 0, slots := 0, locals := 0 }) (kPre E [.ref (a 0), .int x1] (wLedx E a (v 0 0) (v 0 1) (v 0 2) (v 1) (v 2) (v 3) (v 4) (v 5) (v 6) (v 7))) (kRi R) 0 0 (fun _ => False) := by
  refine Met.ofW (cc := cX2_exists) (maxL := 2) (ret := (some .boolean)) (by decide) rfl ?_
  intro p e s m args below meth c s₁ B hml hv
  obtain ⟨rfl, hK, hP⟩ := hv
  have hx := B.exec
  have hb := B.bytes
  have hr := B.returns
  have hts := atoms_spec (ws := wsX2_exists) B.pre
  have hown : s.vm.findClass RX2 = some m.cls := findClass_of_methodNamed B.named
  have hlocks := B.notSynchronized
  have hiX2 : ∀ w ∈ wsX20, w ∈ wsX2_exists := by decide +kernel
  have hf18 := hts (.fieldLink RX2 18 "SkewEdges$Ledger" "total" "I") (by decide +kernel)
  have hP : va_P E.1 vwCl (wLedx E a (v 0 0) (v 0 1) (v 0 2) (v 1) (v 2) (v 3) (v 4) (v 5) (v 6) (v 7)) s.heap := hP
  have hl := lv_entry ([.ref (a 0), .int x1]) (n := 2) (Nat.le_of_ble_eq_true rfl)
  rw [lg_entry_eq]
  generalize (lg_sl ([.ref (a 0), .int x1]) ++ List.replicate (2 - (lg_sl ([.ref (a 0), .int x1])).length) Slot.unset).toArray = ls at hl ⊢
  have hl : lv_has ls 2 [(0, .ref (a 0)), (1, .int x1)] := hl
  replace hE := hE.trans mX2_exists_s
  refine lv_iload_n hx hb dX2_exists_0 rfl (lv_at hl 1 rfl) ?_
  refine lv_if_lt (tgt := 16) hx hb dX2_exists_1 (by decide) (fun c_1 => ?_) (fun c_1 => ?_)
  · replace hE := hE.trans (if_pos c_1)
    refine lv_iconst (v := 0) hx hb dX2_exists_16 (by decide) ?_
    subst R
    exact W.zret (v := 0) (ty := .boolean) hx hb hr rfl (fun t ht hW => ⟨rfl, ht⟩) (fun _ h => by cases h) dX2_exists_17
  · replace hE := hE.trans (if_neg c_1)
    refine lv_iload_n hx hb dX2_exists_4 rfl (lv_at hl 1 rfl) ?_
    refine lv_aload_n hx hb dX2_exists_5 rfl (lv_at hl 0 rfl) ?_
    refine va_get (D := E.1) (ci := 1) (v := .int (v 0 2)) (C := RX2) (T := TX2) (N := 10) hx hb hts hiX2 hown hK.1 hP 0 rfl rfl 2 (by decide) hf18 (fun _ h9 => h9) rfl dX2_exists_6 ?_
    refine lv_icmp_ge (tgt := 16) hx hb dX2_exists_9 (by decide) (fun c_2 => ?_) (fun c_2 => ?_)
    · replace hE := hE.trans (if_pos c_2)
      refine lv_iconst (v := 0) hx hb dX2_exists_16 (by decide) ?_
      subst R
      exact W.zret (v := 0) (ty := .boolean) hx hb hr rfl (fun t ht hW => ⟨rfl, ht⟩) (fun _ h => by cases h) dX2_exists_17
    · replace hE := hE.trans (if_neg c_2)
      refine lv_iconst (v := 1) hx hb dX2_exists_12 (by decide) ?_
      refine lv_goto (tgt := 17) hx hb dX2_exists_13 (by decide) ?_
      subst R
      exact W.zret (v := 1) (ty := .boolean) hx hb hr rfl (fun t ht hW => ⟨rfl, ht⟩) (fun _ h => by cases h) dX2_exists_17
theorem exists_ok {v : kG} {t : Int32} (h : nOK (v 0 2)) (c : ¬ mX2_exists v t = 0) : tOK t := by
  unfold mX2_exists at c
  split at c
  · exact absurd rfl c
  · rename_i h0
    split at c
    · exact absurd rfl c
    · rename_i h2
      exact nOK.t h h0 h2
def mX2_changeRule (v : kG) (x1 : Int32) : Int32 × Int32 :=
  if (mX5_isRule x1) = 0 then
    ((-2), (v 0 0))
  else
    ((v 0 0), x1)
theorem mX2_changeRule_s {v : kG} {x1 : Int32} : mX2_changeRule v x1 = (
  if (mX5_isRule x1) = 0 then
    ((-2), (v 0 0))
  else
    ((v 0 0), x1) : Int32 × Int32) := rfl
set_option maxHeartbeats 400000 in
set_option maxRecDepth 100000 in
theorem c_X2_changeRule (l : Launch) (E : kE) (a : Nat → Nat) (v : kG) (hj : kInj a 8) (x1 : Int32) (R : Int32 × Int32) (hE : R = mX2_changeRule v x1) : Met l yX2_changeRule wsX2_changeRule ({ frames := 1, cells := 0, slots := 0, locals := 20 }) (kPre E [.ref (a 0), .int x1] (wLedx E a (v 0 0) (v 0 1) (v 0 2) (v 1) (v 2) (v 3) (v 4) (v 5) (v 6) (v 7))) (kWi E R.1 (wLedx E a R.2 (v 0 1) (v 0 2) (v 1) (v 2) (v 3) (v 4) (v 5) (v 6) (v 7)) (kA a 8)) 0 0 (kA a 8) := by
  refine Met.ofW (cc := cX2_changeRule) (maxL := 3) (ret := (some .int)) (by decide) rfl ?_
  intro p e s m args below meth c s₁ B hml hv
  obtain ⟨rfl, hK, hP⟩ := hv
  have hx := B.exec
  have hb := B.bytes
  have hr := B.returns
  have hts := atoms_spec (ws := wsX2_changeRule) B.pre
  have hown : s.vm.findClass RX2 = some m.cls := findClass_of_methodNamed B.named
  have hlocks := B.notSynchronized
  have hiX2 : ∀ w ∈ wsX20, w ∈ wsX2_changeRule := by decide +kernel
  have hf9 := hts (.fieldLink RX2 9 "SkewEdges$Ledger" "rule" "I") (by decide +kernel)
  have hS : va_S (kA a 8) s.heap s.heap [] := va_S.rf
  have hP : va_P E.1 vwCl (wLedx E a (v 0 0) (v 0 1) (v 0 2) (v 1) (v 2) (v 3) (v 4) (v 5) (v 6) (v 7)) s.heap := hP
  have hD := dLed (E := E) hj (v 0 0) (v 0 1) (v 0 2) (v 1) (v 2) (v 3) (v 4) (v 5) (v 6) (v 7)
  have hl := lv_entry ([.ref (a 0), .int x1]) (n := 3) (Nat.le_of_ble_eq_true rfl)
  rw [lg_entry_eq]
  generalize (lg_sl ([.ref (a 0), .int x1]) ++ List.replicate (3 - (lg_sl ([.ref (a 0), .int x1])).length) Slot.unset).toArray = ls at hl ⊢
  have hl : lv_has ls 3 [(0, .ref (a 0)), (1, .int x1)] := hl
  replace hE := hE.trans mX2_changeRule_s
  refine lv_iload_n hx hb dX2_changeRule_0 rfl (lv_at hl 1 rfl) ?_
  refine kCallRi (va_runSN (As := [.int x1]) (rest := []) ⟨hx, hb, hml, hown, hts⟩ (c_X5_isRule l E x1 _ rfl) ⟨va_cnB 1 hts gX2_changeRule_X5_isRule_n49 rfl rfl rfl (hK.nest 1 rfl) (hts (.initialized RX5) (by decide +kernel)) (by decide +kernel) ⟨Nat.le_of_ble_eq_true rfl, Nat.le_of_ble_eq_true rfl⟩, hts (.static yX5_isRule) (by decide +kernel), trivial⟩ (kPreS hK kP0) rfl rfl hl.1 rfl (lv_room (Nat.le_of_ble_eq_true rfl)) dX2_changeRule_1 ⟨Nat.zero_le _, Nat.zero_le _⟩) ?_
  refine lv_if_ne (tgt := 10) hx hb dX2_changeRule_4 (by decide) (fun c_1 => ?_) (fun c_1 => ?_)
  · replace hE := hE.trans (if_neg c_1)
    refine lv_aload_n hx hb dX2_changeRule_10 rfl (lv_at hl 0 rfl) ?_
    refine va_get (D := E.1) (ci := 1) (v := .int (v 0 0)) (C := RX2) (T := TX2) (N := 10) hx hb hts hiX2 hown hK.1 hP 0 rfl rfl 0 (by decide) hf9 (fun _ h9 => h9) rfl dX2_changeRule_11 ?_
    refine lv_istore_n (lv' := [(2, .int (v 0 0)), (0, .ref (a 0)), (1, .int x1)]) hx hb dX2_changeRule_14 rfl hl (by decide) rfl (fun ls hl => ?_)
    refine lv_aload_n hx hb dX2_changeRule_15 rfl (lv_at hl 1 rfl) ?_
    refine lv_iload_n hx hb dX2_changeRule_16 rfl (lv_at hl 2 rfl) ?_
    refine va_put (D := E.1) (ci := 1) (v := .int x1) (ty := .int) (C := RX2) (T := TX2) (N := 10) hx hb hts hiX2 tyX2 tyX2_ok nmX2 hown hK.1 hP hD hS 0 rfl rfl 0 (by decide) hf9 (fun _ h9 => h9) rfl (by decide +kernel) rfl rfl (Nat.le_of_ble_eq_true rfl) dX2_changeRule_17 (fun H locs hP _ hS => ?_)
    have hP : va_P E.1 vwCl (wLedx E a x1 (v 0 1) (v 0 2) (v 1) (v 2) (v 3) (v 4) (v 5) (v 6) (v 7)) H := hP
    have hD := dLed (E := E) hj x1 (v 0 1) (v 0 2) (v 1) (v 2) (v 3) (v 4) (v 5) (v 6) (v 7)
    refine lv_iload_n hx hb dX2_changeRule_20 rfl (lv_at hl 0 rfl) ?_
    subst R
    exact W.iret (v := (v 0 0)) hx hb hr (fun t ht hW => ⟨rfl, by rw [ht]; exact hP, hS.F ht⟩) hS.2.2 dX2_changeRule_21
  · replace hE := hE.trans (if_pos c_1)
    refine lv_bipush (v := (-2)) hx hb dX2_changeRule_7 (by decide) ?_
    subst R
    exact W.iret (v := (-2)) hx hb hr (fun t ht hW => ⟨rfl, by rw [ht]; exact hP, hS.F ht⟩) hS.2.2 dX2_changeRule_9
def mX2_start (v : kG) : Int32 × Int32 × Int32 × (Nat → Int32) × (Nat → Int32) × (Nat → Int32) × (Nat → Int32) × (Nat → Int32) × (Nat → Int32) :=
  if (v 0 2) < 12 then
    ((v 0 2), ((v 0 1) + 1), ((v 0 2) + 1), (upd (v 1) ((v 0 2)).toNatClampNeg 0), (upd (v 2) ((v 0 2)).toNatClampNeg ((v 0 1) + 1)), (upd (v 3) ((v 0 2)).toNatClampNeg (-6)), (upd (v 4) ((v 0 2)).toNatClampNeg 0), (upd (v 5) ((v 0 2)).toNatClampNeg 0), (upd (v 6) ((v 0 2)).toNatClampNeg (-6)))
  else
    ((-4), (v 0 1), (v 0 2), (v 1), (v 2), (v 3), (v 4), (v 5), (v 6))
theorem mX2_start_s {v : kG} : mX2_start v = (
  if (v 0 2) < 12 then
    ((v 0 2), ((v 0 1) + 1), ((v 0 2) + 1), (upd (v 1) ((v 0 2)).toNatClampNeg 0), (upd (v 2) ((v 0 2)).toNatClampNeg ((v 0 1) + 1)), (upd (v 3) ((v 0 2)).toNatClampNeg (-6)), (upd (v 4) ((v 0 2)).toNatClampNeg 0), (upd (v 5) ((v 0 2)).toNatClampNeg 0), (upd (v 6) ((v 0 2)).toNatClampNeg (-6)))
  else
    ((-4), (v 0 1), (v 0 2), (v 1), (v 2), (v 3), (v 4), (v 5), (v 6)) : Int32 × Int32 × Int32 × (Nat → Int32) × (Nat → Int32) × (Nat → Int32) × (Nat → Int32) × (Nat → Int32) × (Nat → Int32)) := rfl
set_option maxHeartbeats 400000 in
set_option maxRecDepth 100000 in
theorem c_X2_start (l : Launch) (E : kE) (a : Nat → Nat) (v : kG) (hj : kInj a 8) (hn : nOK (v 0 2)) (R : Int32 × Int32 × Int32 × (Nat → Int32) × (Nat → Int32) × (Nat → Int32) × (Nat → Int32) × (Nat → Int32) × (Nat → Int32)) (hE : R = mX2_start v) : Met l yX2_start wsX2_start ({ frames := 0, cells := 0, slots := 0, locals := 0 }) (kPre E [.ref (a 0)] (wLedx E a (v 0 0) (v 0 1) (v 0 2) (v 1) (v 2) (v 3) (v 4) (v 5) (v 6) (v 7))) (kWi E R.1 (wLedx E a (v 0 0) R.2.1 R.2.2.1 R.2.2.2.1 R.2.2.2.2.1 R.2.2.2.2.2.1 R.2.2.2.2.2.2.1 R.2.2.2.2.2.2.2.1 R.2.2.2.2.2.2.2.2 (v 7)) (kA a 8)) 0 0 (kA a 8) := by
  refine Met.ofW (cc := cX2_start) (maxL := 2) (ret := (some .int)) (by decide) rfl ?_
  intro p e s m args below meth c s₁ B hml hv
  obtain ⟨rfl, hK, hP⟩ := hv
  have hx := B.exec
  have hb := B.bytes
  have hr := B.returns
  have hts := atoms_spec (ws := wsX2_start) B.pre
  have hown : s.vm.findClass RX2 = some m.cls := findClass_of_methodNamed B.named
  have hlocks := B.notSynchronized
  have hiX2 : ∀ w ∈ wsX20, w ∈ wsX2_start := by decide +kernel
  have hf15 := hts (.fieldLink RX2 15 "SkewEdges$Ledger" "moment" "I") (by decide +kernel)
  have hf18 := hts (.fieldLink RX2 18 "SkewEdges$Ledger" "total" "I") (by decide +kernel)
  have hf21 := hts (.fieldLink RX2 21 "SkewEdges$Ledger" "phase" "[I") (by decide +kernel)
  have hf25 := hts (.fieldLink RX2 25 "SkewEdges$Ledger" "beganAt" "[I") (by decide +kernel)
  have hf28 := hts (.fieldLink RX2 28 "SkewEdges$Ledger" "committedAt" "[I") (by decide +kernel)
  have hf31 := hts (.fieldLink RX2 31 "SkewEdges$Ledger" "readKeys" "[I") (by decide +kernel)
  have hf34 := hts (.fieldLink RX2 34 "SkewEdges$Ledger" "writtenKeys" "[I") (by decide +kernel)
  have hf37 := hts (.fieldLink RX2 37 "SkewEdges$Ledger" "reason" "[I") (by decide +kernel)
  have hS : va_S (kA a 8) s.heap s.heap [] := va_S.rf
  have hP : va_P E.1 vwCl (wLedx E a (v 0 0) (v 0 1) (v 0 2) (v 1) (v 2) (v 3) (v 4) (v 5) (v 6) (v 7)) s.heap := hP
  have hD := dLed (E := E) hj (v 0 0) (v 0 1) (v 0 2) (v 1) (v 2) (v 3) (v 4) (v 5) (v 6) (v 7)
  have hl := lv_entry ([.ref (a 0)]) (n := 2) (Nat.le_of_ble_eq_true rfl)
  rw [lg_entry_eq]
  generalize (lg_sl ([.ref (a 0)]) ++ List.replicate (2 - (lg_sl ([.ref (a 0)])).length) Slot.unset).toArray = ls at hl ⊢
  have hl : lv_has ls 2 [(0, .ref (a 0))] := hl
  replace hE := hE.trans mX2_start_s
  refine lv_aload_n hx hb dX2_start_0 rfl (lv_at hl 0 rfl) ?_
  refine va_get (D := E.1) (ci := 1) (v := .int (v 0 2)) (C := RX2) (T := TX2) (N := 10) hx hb hts hiX2 hown hK.1 hP 0 rfl rfl 2 (by decide) hf18 (fun _ h9 => h9) rfl dX2_start_1 ?_
  refine lv_bipush (v := 12) hx hb dX2_start_4 (by decide) ?_
  refine lv_icmp_lt (tgt := 12) hx hb dX2_start_6 (by decide) (fun c_1 => ?_) (fun c_1 => ?_)
  · replace hE := hE.trans (if_pos c_1)
    have ht := nOK.tl hn c_1
    refine lv_aload_n hx hb dX2_start_12 rfl (lv_at hl 0 rfl) ?_
    refine va_get (D := E.1) (ci := 1) (v := .int (v 0 2)) (C := RX2) (T := TX2) (N := 10) hx hb hts hiX2 hown hK.1 hP 0 rfl rfl 2 (by decide) hf18 (fun _ h9 => h9) rfl dX2_start_13 ?_
    refine lv_istore_n (lv' := [(1, .int (v 0 2)), (0, .ref (a 0))]) hx hb dX2_start_16 rfl hl (by decide) rfl (fun ls hl => ?_)
    refine lv_aload_n hx hb dX2_start_17 rfl (lv_at hl 1 rfl) ?_
    refine lv_dup hx hb dX2_start_18 rfl ?_
    refine va_get (D := E.1) (ci := 1) (v := .int (v 0 2)) (C := RX2) (T := TX2) (N := 10) hx hb hts hiX2 hown hK.1 hP 0 rfl rfl 2 (by decide) hf18 (fun _ h9 => h9) rfl dX2_start_19 ?_
    refine lv_iconst (v := 1) hx hb dX2_start_22 (by decide) ?_
    refine lv_iadd hx hb dX2_start_23 ?_
    refine va_put (D := E.1) (ci := 1) (v := .int ((v 0 2) + 1)) (ty := .int) (C := RX2) (T := TX2) (N := 10) hx hb hts hiX2 tyX2 tyX2_ok nmX2 hown hK.1 hP hD hS 0 rfl rfl 2 (by decide) hf18 (fun _ h9 => h9) rfl (by decide +kernel) rfl rfl (Nat.le_of_ble_eq_true rfl) dX2_start_24 (fun H locs hP _ hS => ?_)
    have hP : va_P E.1 vwCl (wLedx E a (v 0 0) (v 0 1) ((v 0 2) + 1) (v 1) (v 2) (v 3) (v 4) (v 5) (v 6) (v 7)) H := hP
    have hD := dLed (E := E) hj (v 0 0) (v 0 1) ((v 0 2) + 1) (v 1) (v 2) (v 3) (v 4) (v 5) (v 6) (v 7)
    refine lv_aload_n hx hb dX2_start_27 rfl (lv_at hl 1 rfl) ?_
    refine lv_dup hx hb dX2_start_28 rfl ?_
    refine va_get (D := E.1) (ci := 1) (v := .int (v 0 1)) (C := RX2) (T := TX2) (N := 10) hx hb hts hiX2 hown hK.1 hP 0 rfl rfl 1 (by decide) hf15 (fun _ h9 => h9) rfl dX2_start_29 ?_
    refine lv_iconst (v := 1) hx hb dX2_start_32 (by decide) ?_
    refine lv_iadd hx hb dX2_start_33 ?_
    refine va_put (D := E.1) (ci := 1) (v := .int ((v 0 1) + 1)) (ty := .int) (C := RX2) (T := TX2) (N := 10) hx hb hts hiX2 tyX2 tyX2_ok nmX2 hown hK.1 hP hD hS 0 rfl rfl 1 (by decide) hf15 (fun _ h9 => h9) rfl (by decide +kernel) rfl rfl (Nat.le_of_ble_eq_true rfl) dX2_start_34 (fun H locs hP _ hS => ?_)
    have hP : va_P E.1 vwCl (wLedx E a (v 0 0) ((v 0 1) + 1) ((v 0 2) + 1) (v 1) (v 2) (v 3) (v 4) (v 5) (v 6) (v 7)) H := hP
    have hD := dLed (E := E) hj (v 0 0) ((v 0 1) + 1) ((v 0 2) + 1) (v 1) (v 2) (v 3) (v 4) (v 5) (v 6) (v 7)
    refine lv_aload_n hx hb dX2_start_37 rfl (lv_at hl 1 rfl) ?_
    refine va_get (D := E.1) (ci := 1) (v := .ref (a 1)) (C := RX2) (T := TX2) (N := 10) hx hb hts hiX2 hown hK.1 hP 0 rfl rfl 3 (by decide) hf21 (fun _ h9 => h9) rfl dX2_start_38 ?_
    refine lv_iload_n hx hb dX2_start_41 rfl (lv_at hl 0 rfl) ?_
    refine lv_iconst (v := 0) hx hb dX2_start_42 (by decide) ?_
    refine va_iast (D := E.1) hx hb hK.1 hP hD hS 1 0 rfl rfl (tOK.in12 (by assumption)) dX2_start_43 (fun H locs hP _ hS => ?_)
    have hP : va_P E.1 vwCl (wLedx E a (v 0 0) ((v 0 1) + 1) ((v 0 2) + 1) (upd (v 1) ((v 0 2)).toNatClampNeg 0) (v 2) (v 3) (v 4) (v 5) (v 6) (v 7)) H := hP
    have hD := dLed (E := E) hj (v 0 0) ((v 0 1) + 1) ((v 0 2) + 1) (upd (v 1) ((v 0 2)).toNatClampNeg 0) (v 2) (v 3) (v 4) (v 5) (v 6) (v 7)
    refine lv_aload_n hx hb dX2_start_44 rfl (lv_at hl 1 rfl) ?_
    refine va_get (D := E.1) (ci := 1) (v := .ref (a 2)) (C := RX2) (T := TX2) (N := 10) hx hb hts hiX2 hown hK.1 hP 0 rfl rfl 4 (by decide) hf25 (fun _ h9 => h9) rfl dX2_start_45 ?_
    refine lv_iload_n hx hb dX2_start_48 rfl (lv_at hl 0 rfl) ?_
    refine lv_aload_n hx hb dX2_start_49 rfl (lv_at hl 1 rfl) ?_
    refine va_get (D := E.1) (ci := 1) (v := .int ((v 0 1) + 1)) (C := RX2) (T := TX2) (N := 10) hx hb hts hiX2 hown hK.1 hP 0 rfl rfl 1 (by decide) hf15 (fun _ h9 => h9) rfl dX2_start_50 ?_
    refine va_iast (D := E.1) hx hb hK.1 hP hD hS 2 0 rfl rfl (tOK.in12 (by assumption)) dX2_start_53 (fun H locs hP _ hS => ?_)
    have hP : va_P E.1 vwCl (wLedx E a (v 0 0) ((v 0 1) + 1) ((v 0 2) + 1) (upd (v 1) ((v 0 2)).toNatClampNeg 0) (upd (v 2) ((v 0 2)).toNatClampNeg ((v 0 1) + 1)) (v 3) (v 4) (v 5) (v 6) (v 7)) H := hP
    have hD := dLed (E := E) hj (v 0 0) ((v 0 1) + 1) ((v 0 2) + 1) (upd (v 1) ((v 0 2)).toNatClampNeg 0) (upd (v 2) ((v 0 2)).toNatClampNeg ((v 0 1) + 1)) (v 3) (v 4) (v 5) (v 6) (v 7)
    refine lv_aload_n hx hb dX2_start_54 rfl (lv_at hl 1 rfl) ?_
    refine va_get (D := E.1) (ci := 1) (v := .ref (a 3)) (C := RX2) (T := TX2) (N := 10) hx hb hts hiX2 hown hK.1 hP 0 rfl rfl 5 (by decide) hf28 (fun _ h9 => h9) rfl dX2_start_55 ?_
    refine lv_iload_n hx hb dX2_start_58 rfl (lv_at hl 0 rfl) ?_
    refine lv_bipush (v := (-6)) hx hb dX2_start_59 (by decide) ?_
    refine va_iast (D := E.1) hx hb hK.1 hP hD hS 3 0 rfl rfl (tOK.in12 (by assumption)) dX2_start_61 (fun H locs hP _ hS => ?_)
    have hP : va_P E.1 vwCl (wLedx E a (v 0 0) ((v 0 1) + 1) ((v 0 2) + 1) (upd (v 1) ((v 0 2)).toNatClampNeg 0) (upd (v 2) ((v 0 2)).toNatClampNeg ((v 0 1) + 1)) (upd (v 3) ((v 0 2)).toNatClampNeg (-6)) (v 4) (v 5) (v 6) (v 7)) H := hP
    have hD := dLed (E := E) hj (v 0 0) ((v 0 1) + 1) ((v 0 2) + 1) (upd (v 1) ((v 0 2)).toNatClampNeg 0) (upd (v 2) ((v 0 2)).toNatClampNeg ((v 0 1) + 1)) (upd (v 3) ((v 0 2)).toNatClampNeg (-6)) (v 4) (v 5) (v 6) (v 7)
    refine lv_aload_n hx hb dX2_start_62 rfl (lv_at hl 1 rfl) ?_
    refine va_get (D := E.1) (ci := 1) (v := .ref (a 4)) (C := RX2) (T := TX2) (N := 10) hx hb hts hiX2 hown hK.1 hP 0 rfl rfl 6 (by decide) hf31 (fun _ h9 => h9) rfl dX2_start_63 ?_
    refine lv_iload_n hx hb dX2_start_66 rfl (lv_at hl 0 rfl) ?_
    refine lv_iconst (v := 0) hx hb dX2_start_67 (by decide) ?_
    refine va_iast (D := E.1) hx hb hK.1 hP hD hS 4 0 rfl rfl (tOK.in12 (by assumption)) dX2_start_68 (fun H locs hP _ hS => ?_)
    have hP : va_P E.1 vwCl (wLedx E a (v 0 0) ((v 0 1) + 1) ((v 0 2) + 1) (upd (v 1) ((v 0 2)).toNatClampNeg 0) (upd (v 2) ((v 0 2)).toNatClampNeg ((v 0 1) + 1)) (upd (v 3) ((v 0 2)).toNatClampNeg (-6)) (upd (v 4) ((v 0 2)).toNatClampNeg 0) (v 5) (v 6) (v 7)) H := hP
    have hD := dLed (E := E) hj (v 0 0) ((v 0 1) + 1) ((v 0 2) + 1) (upd (v 1) ((v 0 2)).toNatClampNeg 0) (upd (v 2) ((v 0 2)).toNatClampNeg ((v 0 1) + 1)) (upd (v 3) ((v 0 2)).toNatClampNeg (-6)) (upd (v 4) ((v 0 2)).toNatClampNeg 0) (v 5) (v 6) (v 7)
    refine lv_aload_n hx hb dX2_start_69 rfl (lv_at hl 1 rfl) ?_
    refine va_get (D := E.1) (ci := 1) (v := .ref (a 5)) (C := RX2) (T := TX2) (N := 10) hx hb hts hiX2 hown hK.1 hP 0 rfl rfl 7 (by decide) hf34 (fun _ h9 => h9) rfl dX2_start_70 ?_
    refine lv_iload_n hx hb dX2_start_73 rfl (lv_at hl 0 rfl) ?_
    refine lv_iconst (v := 0) hx hb dX2_start_74 (by decide) ?_
    refine va_iast (D := E.1) hx hb hK.1 hP hD hS 5 0 rfl rfl (tOK.in12 (by assumption)) dX2_start_75 (fun H locs hP _ hS => ?_)
    have hP : va_P E.1 vwCl (wLedx E a (v 0 0) ((v 0 1) + 1) ((v 0 2) + 1) (upd (v 1) ((v 0 2)).toNatClampNeg 0) (upd (v 2) ((v 0 2)).toNatClampNeg ((v 0 1) + 1)) (upd (v 3) ((v 0 2)).toNatClampNeg (-6)) (upd (v 4) ((v 0 2)).toNatClampNeg 0) (upd (v 5) ((v 0 2)).toNatClampNeg 0) (v 6) (v 7)) H := hP
    have hD := dLed (E := E) hj (v 0 0) ((v 0 1) + 1) ((v 0 2) + 1) (upd (v 1) ((v 0 2)).toNatClampNeg 0) (upd (v 2) ((v 0 2)).toNatClampNeg ((v 0 1) + 1)) (upd (v 3) ((v 0 2)).toNatClampNeg (-6)) (upd (v 4) ((v 0 2)).toNatClampNeg 0) (upd (v 5) ((v 0 2)).toNatClampNeg 0) (v 6) (v 7)
    refine lv_aload_n hx hb dX2_start_76 rfl (lv_at hl 1 rfl) ?_
    refine va_get (D := E.1) (ci := 1) (v := .ref (a 6)) (C := RX2) (T := TX2) (N := 10) hx hb hts hiX2 hown hK.1 hP 0 rfl rfl 8 (by decide) hf37 (fun _ h9 => h9) rfl dX2_start_77 ?_
    refine lv_iload_n hx hb dX2_start_80 rfl (lv_at hl 0 rfl) ?_
    refine lv_bipush (v := (-6)) hx hb dX2_start_81 (by decide) ?_
    refine va_iast (D := E.1) hx hb hK.1 hP hD hS 6 0 rfl rfl (tOK.in12 (by assumption)) dX2_start_83 (fun H locs hP _ hS => ?_)
    have hP : va_P E.1 vwCl (wLedx E a (v 0 0) ((v 0 1) + 1) ((v 0 2) + 1) (upd (v 1) ((v 0 2)).toNatClampNeg 0) (upd (v 2) ((v 0 2)).toNatClampNeg ((v 0 1) + 1)) (upd (v 3) ((v 0 2)).toNatClampNeg (-6)) (upd (v 4) ((v 0 2)).toNatClampNeg 0) (upd (v 5) ((v 0 2)).toNatClampNeg 0) (upd (v 6) ((v 0 2)).toNatClampNeg (-6)) (v 7)) H := hP
    have hD := dLed (E := E) hj (v 0 0) ((v 0 1) + 1) ((v 0 2) + 1) (upd (v 1) ((v 0 2)).toNatClampNeg 0) (upd (v 2) ((v 0 2)).toNatClampNeg ((v 0 1) + 1)) (upd (v 3) ((v 0 2)).toNatClampNeg (-6)) (upd (v 4) ((v 0 2)).toNatClampNeg 0) (upd (v 5) ((v 0 2)).toNatClampNeg 0) (upd (v 6) ((v 0 2)).toNatClampNeg (-6)) (v 7)
    refine lv_iload_n hx hb dX2_start_84 rfl (lv_at hl 0 rfl) ?_
    subst R
    exact W.iret (v := (v 0 2)) hx hb hr (fun t ht hW => ⟨rfl, by rw [ht]; exact hP, hS.F ht⟩) hS.2.2 dX2_start_85
  · replace hE := hE.trans (if_neg c_1)
    refine lv_bipush (v := (-4)) hx hb dX2_start_9 (by decide) ?_
    subst R
    exact W.iret (v := (-4)) hx hb hr (fun t ht hW => ⟨rfl, by rw [ht]; exact hP, hS.F ht⟩) hS.2.2 dX2_start_11
def mX2_inPhase_L4 (v : kG) (x1 : Int32) : Nat → Int32 → Nat → (Int32)
  | 0, _, _ => 0
  | n4 + 1, x4_2, i4 =>
    if (v 0 2) ≤ (nI i4) then
      x4_2
    else
      if ((v 1) ((nI i4)).toNatClampNeg) = x1 then
        mX2_inPhase_L4 v x1 n4 (x4_2 ||| (1 <<< ((nI i4) &&& 31))) (i4 + 1)
      else
        mX2_inPhase_L4 v x1 n4 x4_2 (i4 + 1)
theorem mX2_inPhase_L4_s {v : kG} {x1 : Int32} {n4 : Nat} {x4_2 : Int32} {i4 : Nat} : mX2_inPhase_L4 v x1 (n4 + 1) x4_2 i4 = (
    if (v 0 2) ≤ (nI i4) then
      x4_2
    else
      if ((v 1) ((nI i4)).toNatClampNeg) = x1 then
        mX2_inPhase_L4 v x1 n4 (x4_2 ||| (1 <<< ((nI i4) &&& 31))) (i4 + 1)
      else
        mX2_inPhase_L4 v x1 n4 x4_2 (i4 + 1) : Int32) := rfl
def mX2_inPhase (v : kG) (x1 : Int32) : Int32 :=
  mX2_inPhase_L4 v x1 13 0 0
theorem mX2_inPhase_s {v : kG} {x1 : Int32} : mX2_inPhase v x1 = (
  mX2_inPhase_L4 v x1 13 0 0 : Int32) := rfl
set_option maxHeartbeats 400000 in
set_option maxRecDepth 100000 in
theorem c_X2_inPhase (l : Launch) (E : kE) (a : Nat → Nat) (v : kG) (x1 : Int32) (hn : nOK (v 0 2)) (R : Int32) (hE : R = mX2_inPhase v x1) : Met l yX2_inPhase wsX2_inPhase ({ frames := 0, cells := 0, slots := 0, locals := 0 }) (kPre E [.ref (a 0), .int x1] (wLedx E a (v 0 0) (v 0 1) (v 0 2) (v 1) (v 2) (v 3) (v 4) (v 5) (v 6) (v 7))) (kRi R) 0 0 (fun _ => False) := by
  refine Met.ofW (cc := cX2_inPhase) (maxL := 4) (ret := (some .int)) (by decide) rfl ?_
  intro p e s m args below meth c s₁ B hml hv
  obtain ⟨rfl, hK, hP⟩ := hv
  have hx := B.exec
  have hb := B.bytes
  have hr := B.returns
  have hts := atoms_spec (ws := wsX2_inPhase) B.pre
  have hown : s.vm.findClass RX2 = some m.cls := findClass_of_methodNamed B.named
  have hlocks := B.notSynchronized
  have hiX2 : ∀ w ∈ wsX20, w ∈ wsX2_inPhase := by decide +kernel
  have hf18 := hts (.fieldLink RX2 18 "SkewEdges$Ledger" "total" "I") (by decide +kernel)
  have hf21 := hts (.fieldLink RX2 21 "SkewEdges$Ledger" "phase" "[I") (by decide +kernel)
  have hP : va_P E.1 vwCl (wLedx E a (v 0 0) (v 0 1) (v 0 2) (v 1) (v 2) (v 3) (v 4) (v 5) (v 6) (v 7)) s.heap := hP
  have hl := lv_entry ([.ref (a 0), .int x1]) (n := 4) (Nat.le_of_ble_eq_true rfl)
  rw [lg_entry_eq]
  generalize (lg_sl ([.ref (a 0), .int x1]) ++ List.replicate (4 - (lg_sl ([.ref (a 0), .int x1])).length) Slot.unset).toArray = ls at hl ⊢
  have hl : lv_has ls 4 [(0, .ref (a 0)), (1, .int x1)] := hl
  replace hE := hE.trans mX2_inPhase_s
  refine lv_iconst (v := 0) hx hb dX2_inPhase_0 (by decide) ?_
  refine lv_istore_n (lv' := [(2, .int 0), (0, .ref (a 0)), (1, .int x1)]) hx hb dX2_inPhase_1 rfl hl (by decide) rfl (fun ls hl => ?_)
  refine lv_iconst (v := 0) hx hb dX2_inPhase_2 (by decide) ?_
  refine lv_istore_n (lv' := [(3, .int 0), (2, .int 0), (0, .ref (a 0)), (1, .int x1)]) hx hb dX2_inPhase_3 rfl hl (by decide) rfl (fun ls hl => ?_)
  have lp4 : ∀ (n4 : Nat) (x4_2 : Int32) (i4 : Nat), (12 < i4 + n4) → (i4 ≤ 12) → ∀ ls : Array Slot, lv_has ls 4 [(3, .int (nI i4)), (2, .int x4_2), (0, .ref (a 0)), (1, .int x1)] → R = mX2_inPhase_L4 v x1 n4 x4_2 i4 → W p l e ({ frames := 0, cells := 0, slots := 0, locals := 0 }) s m ([.ref (a 0), .int x1] : List Value).toArray below meth c s.heap [] 0 0 (MQ below (kRi R) ([.ref (a 0), .int x1] : List Value).toArray s 0 0 (fun _ => False)) (F0 m 4 ls []) := by
    clear hE
    intro n4
    induction n4 with
    | zero =>
      intro x4_2 i4 hm4 hi4 ls hl hE
      exact absurd hm4 (by omega)
    | succ n4 ih4 =>
      intro x4_2 i4 hm4 hi4 ls hl hE
      replace hE := hE.trans mX2_inPhase_L4_s
      refine lv_iload_n hx hb dX2_inPhase_4 rfl (lv_at hl 0 rfl) ?_
      refine lv_aload_n hx hb dX2_inPhase_5 rfl (lv_at hl 2 rfl) ?_
      refine va_get (D := E.1) (ci := 1) (v := .int (v 0 2)) (C := RX2) (T := TX2) (N := 10) hx hb hts hiX2 hown hK.1 hP 0 rfl rfl 2 (by decide) hf18 (fun _ h9 => h9) rfl dX2_inPhase_6 ?_
      refine lv_icmp_ge (tgt := 34) hx hb dX2_inPhase_9 (by decide) (fun c_1 => ?_) (fun c_1 => ?_)
      · replace hE := hE.trans (if_pos c_1)
        refine lv_iload_n hx hb dX2_inPhase_34 rfl (lv_at hl 1 rfl) ?_
        subst R
        exact W.iret (v := x4_2) hx hb hr (fun t ht hW => ⟨rfl, ht⟩) (fun _ h => by cases h) dX2_inPhase_35
      · replace hE := hE.trans (if_neg c_1)
        have hbc_1 : i4 < 12 := nOK.lt (by assumption) (by omega) c_1
        refine lv_aload_n hx hb dX2_inPhase_12 rfl (lv_at hl 2 rfl) ?_
        refine va_get (D := E.1) (ci := 1) (v := .ref (a 1)) (C := RX2) (T := TX2) (N := 10) hx hb hts hiX2 hown hK.1 hP 0 rfl rfl 3 (by decide) hf21 (fun _ h9 => h9) rfl dX2_inPhase_13 ?_
        refine lv_iload_n hx hb dX2_inPhase_16 rfl (lv_at hl 0 rfl) ?_
        refine va_iald (D := E.1) hx hb hK.1 hP 1 0 rfl rfl (vp_in_nI (by omega) (by omega)) dX2_inPhase_17 ?_
        refine lv_iload_n hx hb dX2_inPhase_18 rfl (lv_at hl 3 rfl) ?_
        refine lv_icmp_ne (tgt := 28) hx hb dX2_inPhase_19 (by decide) (fun c_2 => ?_) (fun c_2 => ?_)
        · replace hE := hE.trans (if_neg c_2)
          refine lv_iinc (v := (nI (i4 + 1))) (lv' := [(3, .int (nI (i4 + 1))), (2, .int x4_2), (0, .ref (a 0)), (1, .int x1)]) hx hb dX2_inPhase_28 hl (k := 0) rfl (nI_1 i4) (by decide) rfl (fun ls hl => ?_)
          refine lv_goto (tgt := 4) hx hb dX2_inPhase_31 (by decide) ?_
          exact ih4 x4_2 (i4 + 1) (by omega) (by omega) ls (lv_sub hl [0, 1, 2, 3] rfl) hE
        · replace hE := hE.trans (if_pos c_2)
          refine lv_iload_n hx hb dX2_inPhase_22 rfl (lv_at hl 1 rfl) ?_
          refine lv_iconst (v := 1) hx hb dX2_inPhase_23 (by decide) ?_
          refine lv_iload_n hx hb dX2_inPhase_24 rfl (lv_at hl 0 rfl) ?_
          refine lv_ishl hx hb dX2_inPhase_25 ?_
          refine lv_ior hx hb dX2_inPhase_26 ?_
          refine lv_istore_n (lv' := [(2, .int (x4_2 ||| (1 <<< ((nI i4) &&& 31)))), (3, .int (nI i4)), (0, .ref (a 0)), (1, .int x1)]) hx hb dX2_inPhase_27 rfl hl (by decide) rfl (fun ls hl => ?_)
          refine lv_iinc (v := (nI (i4 + 1))) (lv' := [(3, .int (nI (i4 + 1))), (2, .int (x4_2 ||| (1 <<< ((nI i4) &&& 31)))), (0, .ref (a 0)), (1, .int x1)]) hx hb dX2_inPhase_28 hl (k := 1) rfl (nI_1 i4) (by decide) rfl (fun ls hl => ?_)
          refine lv_goto (tgt := 4) hx hb dX2_inPhase_31 (by decide) ?_
          exact ih4 (x4_2 ||| (1 <<< ((nI i4) &&& 31))) (i4 + 1) (by omega) (by omega) ls (lv_sub hl [0, 1, 2, 3] rfl) hE
  exact lp4 13 0 0 (by omega) (by omega) ls (lv_sub hl [0, 1, 2, 3] rfl) hE
def mX2_writerAhead_L9 (v : kG) (x1 : Int32) (x2 : Int32) : Nat → Int32 → Int32 → Nat → (Int32)
  | 0, _, _, _ => 0
  | n9 + 1, x9_3, x9_4, i9 =>
    if (v 0 2) ≤ (nI i9) then
      x9_3
    else
      if ((v 1) ((nI i9)).toNatClampNeg) = 1 then
        if (mX5_contains ((v 5) ((nI i9)).toNatClampNeg) x1) = 0 then
          mX2_writerAhead_L9 v x1 x2 n9 x9_3 x9_4 (i9 + 1)
        else
          if x2 ≤ ((v 3) ((nI i9)).toNatClampNeg) then
            mX2_writerAhead_L9 v x1 x2 n9 x9_3 x9_4 (i9 + 1)
          else
            if ((v 3) ((nI i9)).toNatClampNeg) ≤ x9_4 then
              mX2_writerAhead_L9 v x1 x2 n9 x9_3 x9_4 (i9 + 1)
            else
              mX2_writerAhead_L9 v x1 x2 n9 (nI i9) ((v 3) ((nI i9)).toNatClampNeg) (i9 + 1)
      else
        mX2_writerAhead_L9 v x1 x2 n9 x9_3 x9_4 (i9 + 1)
theorem mX2_writerAhead_L9_s {v : kG} {x1 : Int32} {x2 : Int32} {n9 : Nat} {x9_3 : Int32} {x9_4 : Int32} {i9 : Nat} : mX2_writerAhead_L9 v x1 x2 (n9 + 1) x9_3 x9_4 i9 = (
    if (v 0 2) ≤ (nI i9) then
      x9_3
    else
      if ((v 1) ((nI i9)).toNatClampNeg) = 1 then
        if (mX5_contains ((v 5) ((nI i9)).toNatClampNeg) x1) = 0 then
          mX2_writerAhead_L9 v x1 x2 n9 x9_3 x9_4 (i9 + 1)
        else
          if x2 ≤ ((v 3) ((nI i9)).toNatClampNeg) then
            mX2_writerAhead_L9 v x1 x2 n9 x9_3 x9_4 (i9 + 1)
          else
            if ((v 3) ((nI i9)).toNatClampNeg) ≤ x9_4 then
              mX2_writerAhead_L9 v x1 x2 n9 x9_3 x9_4 (i9 + 1)
            else
              mX2_writerAhead_L9 v x1 x2 n9 (nI i9) ((v 3) ((nI i9)).toNatClampNeg) (i9 + 1)
      else
        mX2_writerAhead_L9 v x1 x2 n9 x9_3 x9_4 (i9 + 1) : Int32) := rfl
def mX2_writerAhead (v : kG) (x1 : Int32) (x2 : Int32) : Int32 :=
  mX2_writerAhead_L9 v x1 x2 13 (-6) 0 0
theorem mX2_writerAhead_s {v : kG} {x1 : Int32} {x2 : Int32} : mX2_writerAhead v x1 x2 = (
  mX2_writerAhead_L9 v x1 x2 13 (-6) 0 0 : Int32) := rfl
set_option maxHeartbeats 400000 in
set_option maxRecDepth 100000 in
theorem c_X2_writerAhead (l : Launch) (E : kE) (a : Nat → Nat) (v : kG) (x1 : Int32) (x2 : Int32) (hn : nOK (v 0 2)) (R : Int32) (hE : R = mX2_writerAhead v x1 x2) : Met l yX2_writerAhead wsX2_writerAhead ({ frames := 1, cells := 0, slots := 0, locals := 21 }) (kPre E [.ref (a 0), .int x1, .int x2] (wLedx E a (v 0 0) (v 0 1) (v 0 2) (v 1) (v 2) (v 3) (v 4) (v 5) (v 6) (v 7))) (kRi R) 0 0 (fun _ => False) := by
  refine Met.ofW (cc := cX2_writerAhead) (maxL := 6) (ret := (some .int)) (by decide) rfl ?_
  intro p e s m args below meth c s₁ B hml hv
  obtain ⟨rfl, hK, hP⟩ := hv
  have hx := B.exec
  have hb := B.bytes
  have hr := B.returns
  have hts := atoms_spec (ws := wsX2_writerAhead) B.pre
  have hown : s.vm.findClass RX2 = some m.cls := findClass_of_methodNamed B.named
  have hlocks := B.notSynchronized
  have hiX2 : ∀ w ∈ wsX20, w ∈ wsX2_writerAhead := by decide +kernel
  have hf18 := hts (.fieldLink RX2 18 "SkewEdges$Ledger" "total" "I") (by decide +kernel)
  have hf21 := hts (.fieldLink RX2 21 "SkewEdges$Ledger" "phase" "[I") (by decide +kernel)
  have hf28 := hts (.fieldLink RX2 28 "SkewEdges$Ledger" "committedAt" "[I") (by decide +kernel)
  have hf34 := hts (.fieldLink RX2 34 "SkewEdges$Ledger" "writtenKeys" "[I") (by decide +kernel)
  have hP : va_P E.1 vwCl (wLedx E a (v 0 0) (v 0 1) (v 0 2) (v 1) (v 2) (v 3) (v 4) (v 5) (v 6) (v 7)) s.heap := hP
  have hl := lv_entry ([.ref (a 0), .int x1, .int x2]) (n := 6) (Nat.le_of_ble_eq_true rfl)
  rw [lg_entry_eq]
  generalize (lg_sl ([.ref (a 0), .int x1, .int x2]) ++ List.replicate (6 - (lg_sl ([.ref (a 0), .int x1, .int x2])).length) Slot.unset).toArray = ls at hl ⊢
  have hl : lv_has ls 6 [(0, .ref (a 0)), (1, .int x1), (2, .int x2)] := hl
  replace hE := hE.trans mX2_writerAhead_s
  refine lv_bipush (v := (-6)) hx hb dX2_writerAhead_0 (by decide) ?_
  refine lv_istore_n (lv' := [(3, .int (-6)), (0, .ref (a 0)), (1, .int x1), (2, .int x2)]) hx hb dX2_writerAhead_2 rfl hl (by decide) rfl (fun ls hl => ?_)
  refine lv_iconst (v := 0) hx hb dX2_writerAhead_3 (by decide) ?_
  refine lv_istore (lv' := [(4, .int 0), (3, .int (-6)), (0, .ref (a 0)), (1, .int x1), (2, .int x2)]) hx hb dX2_writerAhead_4 hl (by decide) rfl (fun ls hl => ?_)
  refine lv_iconst (v := 0) hx hb dX2_writerAhead_6 (by decide) ?_
  refine lv_istore (lv' := [(5, .int 0), (4, .int 0), (3, .int (-6)), (0, .ref (a 0)), (1, .int x1), (2, .int x2)]) hx hb dX2_writerAhead_7 hl (by decide) rfl (fun ls hl => ?_)
  have lp9 : ∀ (n9 : Nat) (x9_3 : Int32) (x9_4 : Int32) (i9 : Nat), (12 < i9 + n9) → (i9 ≤ 12) → ∀ ls : Array Slot, lv_has ls 6 [(5, .int (nI i9)), (4, .int x9_4), (3, .int x9_3), (0, .ref (a 0)), (1, .int x1), (2, .int x2)] → R = mX2_writerAhead_L9 v x1 x2 n9 x9_3 x9_4 i9 → W p l e ({ frames := 1, cells := 0, slots := 0, locals := 21 }) s m ([.ref (a 0), .int x1, .int x2] : List Value).toArray below meth c s.heap [] 0 0 (MQ below (kRi R) ([.ref (a 0), .int x1, .int x2] : List Value).toArray s 0 0 (fun _ => False)) (F0 m 9 ls []) := by
    clear hE
    intro n9
    induction n9 with
    | zero =>
      intro x9_3 x9_4 i9 hm9 hi9 ls hl hE
      exact absurd hm9 (by omega)
    | succ n9 ih9 =>
      intro x9_3 x9_4 i9 hm9 hi9 ls hl hE
      replace hE := hE.trans mX2_writerAhead_L9_s
      refine lv_iload hx hb dX2_writerAhead_9 (lv_at hl 0 rfl) ?_
      refine lv_aload_n hx hb dX2_writerAhead_11 rfl (lv_at hl 3 rfl) ?_
      refine va_get (D := E.1) (ci := 1) (v := .int (v 0 2)) (C := RX2) (T := TX2) (N := 10) hx hb hts hiX2 hown hK.1 hP 0 rfl rfl 2 (by decide) hf18 (fun _ h9 => h9) rfl dX2_writerAhead_12 ?_
      refine lv_icmp_ge (tgt := 84) hx hb dX2_writerAhead_15 (by decide) (fun c_1 => ?_) (fun c_1 => ?_)
      · replace hE := hE.trans (if_pos c_1)
        refine lv_iload_n hx hb dX2_writerAhead_84 rfl (lv_at hl 2 rfl) ?_
        subst R
        exact W.iret (v := x9_3) hx hb hr (fun t ht hW => ⟨rfl, ht⟩) (fun _ h => by cases h) dX2_writerAhead_85
      · replace hE := hE.trans (if_neg c_1)
        have hbc_1 : i9 < 12 := nOK.lt (by assumption) (by omega) c_1
        refine lv_aload_n hx hb dX2_writerAhead_18 rfl (lv_at hl 3 rfl) ?_
        refine va_get (D := E.1) (ci := 1) (v := .ref (a 1)) (C := RX2) (T := TX2) (N := 10) hx hb hts hiX2 hown hK.1 hP 0 rfl rfl 3 (by decide) hf21 (fun _ h9 => h9) rfl dX2_writerAhead_19 ?_
        refine lv_iload hx hb dX2_writerAhead_22 (lv_at hl 0 rfl) ?_
        refine va_iald (D := E.1) hx hb hK.1 hP 1 0 rfl rfl (vp_in_nI (by omega) (by omega)) dX2_writerAhead_24 ?_
        refine lv_iconst (v := 1) hx hb dX2_writerAhead_25 (by decide) ?_
        refine lv_icmp_ne (tgt := 78) hx hb dX2_writerAhead_26 (by decide) (fun c_2 => ?_) (fun c_2 => ?_)
        · replace hE := hE.trans (if_neg c_2)
          refine lv_iinc (v := (nI (i9 + 1))) (lv' := [(5, .int (nI (i9 + 1))), (4, .int x9_4), (3, .int x9_3), (0, .ref (a 0)), (1, .int x1), (2, .int x2)]) hx hb dX2_writerAhead_78 hl (k := 0) rfl (nI_1 i9) (by decide) rfl (fun ls hl => ?_)
          refine lv_goto (tgt := 9) hx hb dX2_writerAhead_81 (by decide) ?_
          exact ih9 x9_3 x9_4 (i9 + 1) (by omega) (by omega) ls (lv_sub hl [0, 1, 2, 3, 4, 5] rfl) hE
        · replace hE := hE.trans (if_pos c_2)
          refine lv_aload_n hx hb dX2_writerAhead_29 rfl (lv_at hl 3 rfl) ?_
          refine va_get (D := E.1) (ci := 1) (v := .ref (a 5)) (C := RX2) (T := TX2) (N := 10) hx hb hts hiX2 hown hK.1 hP 0 rfl rfl 7 (by decide) hf34 (fun _ h9 => h9) rfl dX2_writerAhead_30 ?_
          refine lv_iload hx hb dX2_writerAhead_33 (lv_at hl 0 rfl) ?_
          refine va_iald (D := E.1) hx hb hK.1 hP 5 0 rfl rfl (vp_in_nI (by omega) (by omega)) dX2_writerAhead_35 ?_
          refine lv_iload_n hx hb dX2_writerAhead_36 rfl (lv_at hl 4 rfl) ?_
          refine kCallRi (va_runSN (As := [.int ((v 5) ((nI i9)).toNatClampNeg), .int x1]) (rest := []) ⟨hx, hb, hml, hown, hts⟩ (c_X5_contains l E ((v 5) ((nI i9)).toNatClampNeg) x1 _ rfl) ⟨va_cnB 2 hts gX2_writerAhead_X5_contains_n59 rfl rfl rfl (hK.nest 3 rfl) (hts (.initialized RX5) (by decide +kernel)) (by decide +kernel) ⟨Nat.le_of_ble_eq_true rfl, Nat.le_of_ble_eq_true rfl⟩, hts (.static yX5_contains) (by decide +kernel), trivial⟩ (kPreS hK kP0) rfl rfl hl.1 rfl (lv_room (Nat.le_of_ble_eq_true rfl)) dX2_writerAhead_37 ⟨Nat.zero_le _, Nat.zero_le _⟩) ?_
          refine lv_if_eq (tgt := 78) hx hb dX2_writerAhead_40 (by decide) (fun c_3 => ?_) (fun c_3 => ?_)
          · replace hE := hE.trans (if_pos c_3)
            refine lv_iinc (v := (nI (i9 + 1))) (lv' := [(5, .int (nI (i9 + 1))), (4, .int x9_4), (3, .int x9_3), (0, .ref (a 0)), (1, .int x1), (2, .int x2)]) hx hb dX2_writerAhead_78 hl (k := 0) rfl (nI_1 i9) (by decide) rfl (fun ls hl => ?_)
            refine lv_goto (tgt := 9) hx hb dX2_writerAhead_81 (by decide) ?_
            exact ih9 x9_3 x9_4 (i9 + 1) (by omega) (by omega) ls (lv_sub hl [0, 1, 2, 3, 4, 5] rfl) hE
          · replace hE := hE.trans (if_neg c_3)
            refine lv_aload_n hx hb dX2_writerAhead_43 rfl (lv_at hl 3 rfl) ?_
            refine va_get (D := E.1) (ci := 1) (v := .ref (a 3)) (C := RX2) (T := TX2) (N := 10) hx hb hts hiX2 hown hK.1 hP 0 rfl rfl 5 (by decide) hf28 (fun _ h9 => h9) rfl dX2_writerAhead_44 ?_
            refine lv_iload hx hb dX2_writerAhead_47 (lv_at hl 0 rfl) ?_
            refine va_iald (D := E.1) hx hb hK.1 hP 3 0 rfl rfl (vp_in_nI (by omega) (by omega)) dX2_writerAhead_49 ?_
            refine lv_iload_n hx hb dX2_writerAhead_50 rfl (lv_at hl 5 rfl) ?_
            refine lv_icmp_ge (tgt := 78) hx hb dX2_writerAhead_51 (by decide) (fun c_4 => ?_) (fun c_4 => ?_)
            · replace hE := hE.trans (if_pos c_4)
              refine lv_iinc (v := (nI (i9 + 1))) (lv' := [(5, .int (nI (i9 + 1))), (4, .int x9_4), (3, .int x9_3), (0, .ref (a 0)), (1, .int x1), (2, .int x2)]) hx hb dX2_writerAhead_78 hl (k := 0) rfl (nI_1 i9) (by decide) rfl (fun ls hl => ?_)
              refine lv_goto (tgt := 9) hx hb dX2_writerAhead_81 (by decide) ?_
              exact ih9 x9_3 x9_4 (i9 + 1) (by omega) (by omega) ls (lv_sub hl [0, 1, 2, 3, 4, 5] rfl) hE
            · replace hE := hE.trans (if_neg c_4)
              refine lv_aload_n hx hb dX2_writerAhead_54 rfl (lv_at hl 3 rfl) ?_
              refine va_get (D := E.1) (ci := 1) (v := .ref (a 3)) (C := RX2) (T := TX2) (N := 10) hx hb hts hiX2 hown hK.1 hP 0 rfl rfl 5 (by decide) hf28 (fun _ h9 => h9) rfl dX2_writerAhead_55 ?_
              refine lv_iload hx hb dX2_writerAhead_58 (lv_at hl 0 rfl) ?_
              refine va_iald (D := E.1) hx hb hK.1 hP 3 0 rfl rfl (vp_in_nI (by omega) (by omega)) dX2_writerAhead_60 ?_
              refine lv_iload hx hb dX2_writerAhead_61 (lv_at hl 1 rfl) ?_
              refine lv_icmp_le (tgt := 78) hx hb dX2_writerAhead_63 (by decide) (fun c_5 => ?_) (fun c_5 => ?_)
              · replace hE := hE.trans (if_pos c_5)
                refine lv_iinc (v := (nI (i9 + 1))) (lv' := [(5, .int (nI (i9 + 1))), (4, .int x9_4), (3, .int x9_3), (0, .ref (a 0)), (1, .int x1), (2, .int x2)]) hx hb dX2_writerAhead_78 hl (k := 0) rfl (nI_1 i9) (by decide) rfl (fun ls hl => ?_)
                refine lv_goto (tgt := 9) hx hb dX2_writerAhead_81 (by decide) ?_
                exact ih9 x9_3 x9_4 (i9 + 1) (by omega) (by omega) ls (lv_sub hl [0, 1, 2, 3, 4, 5] rfl) hE
              · replace hE := hE.trans (if_neg c_5)
                refine lv_iload hx hb dX2_writerAhead_66 (lv_at hl 0 rfl) ?_
                refine lv_istore_n (lv' := [(3, .int (nI i9)), (5, .int (nI i9)), (4, .int x9_4), (0, .ref (a 0)), (1, .int x1), (2, .int x2)]) hx hb dX2_writerAhead_68 rfl hl (by decide) rfl (fun ls hl => ?_)
                refine lv_aload_n hx hb dX2_writerAhead_69 rfl (lv_at hl 3 rfl) ?_
                refine va_get (D := E.1) (ci := 1) (v := .ref (a 3)) (C := RX2) (T := TX2) (N := 10) hx hb hts hiX2 hown hK.1 hP 0 rfl rfl 5 (by decide) hf28 (fun _ h9 => h9) rfl dX2_writerAhead_70 ?_
                refine lv_iload hx hb dX2_writerAhead_73 (lv_at hl 1 rfl) ?_
                refine va_iald (D := E.1) hx hb hK.1 hP 3 0 rfl rfl (vp_in_nI (by omega) (by omega)) dX2_writerAhead_75 ?_
                refine lv_istore (lv' := [(4, .int ((v 3) ((nI i9)).toNatClampNeg)), (3, .int (nI i9)), (5, .int (nI i9)), (0, .ref (a 0)), (1, .int x1), (2, .int x2)]) hx hb dX2_writerAhead_76 hl (by decide) rfl (fun ls hl => ?_)
                refine lv_iinc (v := (nI (i9 + 1))) (lv' := [(5, .int (nI (i9 + 1))), (4, .int ((v 3) ((nI i9)).toNatClampNeg)), (3, .int (nI i9)), (0, .ref (a 0)), (1, .int x1), (2, .int x2)]) hx hb dX2_writerAhead_78 hl (k := 2) rfl (nI_1 i9) (by decide) rfl (fun ls hl => ?_)
                refine lv_goto (tgt := 9) hx hb dX2_writerAhead_81 (by decide) ?_
                exact ih9 (nI i9) ((v 3) ((nI i9)).toNatClampNeg) (i9 + 1) (by omega) (by omega) ls (lv_sub hl [0, 1, 2, 3, 4, 5] rfl) hE
  exact lp9 13 (-6) 0 0 (by omega) (by omega) ls (lv_sub hl [0, 1, 2, 3, 4, 5] rfl) hE
def mX2_writerBehind_L14 (v : kG) (x1 : Int32) (x2 : Int32) : Nat → Int32 → Int32 → Nat → (Int32)
  | 0, _, _, _ => 0
  | n14 + 1, x14_3, x14_4, i14 =>
    if (v 0 2) ≤ (nI i14) then
      x14_3
    else
      if ((v 1) ((nI i14)).toNatClampNeg) = 1 then
        if (mX5_contains ((v 5) ((nI i14)).toNatClampNeg) x1) = 0 then
          mX2_writerBehind_L14 v x1 x2 n14 x14_3 x14_4 (i14 + 1)
        else
          if ((v 3) ((nI i14)).toNatClampNeg) ≤ x2 then
            mX2_writerBehind_L14 v x1 x2 n14 x14_3 x14_4 (i14 + 1)
          else
            if x14_4 ≤ ((v 3) ((nI i14)).toNatClampNeg) then
              mX2_writerBehind_L14 v x1 x2 n14 x14_3 x14_4 (i14 + 1)
            else
              mX2_writerBehind_L14 v x1 x2 n14 (nI i14) ((v 3) ((nI i14)).toNatClampNeg) (i14 + 1)
      else
        mX2_writerBehind_L14 v x1 x2 n14 x14_3 x14_4 (i14 + 1)
theorem mX2_writerBehind_L14_s {v : kG} {x1 : Int32} {x2 : Int32} {n14 : Nat} {x14_3 : Int32} {x14_4 : Int32} {i14 : Nat} : mX2_writerBehind_L14 v x1 x2 (n14 + 1) x14_3 x14_4 i14 = (
    if (v 0 2) ≤ (nI i14) then
      x14_3
    else
      if ((v 1) ((nI i14)).toNatClampNeg) = 1 then
        if (mX5_contains ((v 5) ((nI i14)).toNatClampNeg) x1) = 0 then
          mX2_writerBehind_L14 v x1 x2 n14 x14_3 x14_4 (i14 + 1)
        else
          if ((v 3) ((nI i14)).toNatClampNeg) ≤ x2 then
            mX2_writerBehind_L14 v x1 x2 n14 x14_3 x14_4 (i14 + 1)
          else
            if x14_4 ≤ ((v 3) ((nI i14)).toNatClampNeg) then
              mX2_writerBehind_L14 v x1 x2 n14 x14_3 x14_4 (i14 + 1)
            else
              mX2_writerBehind_L14 v x1 x2 n14 (nI i14) ((v 3) ((nI i14)).toNatClampNeg) (i14 + 1)
      else
        mX2_writerBehind_L14 v x1 x2 n14 x14_3 x14_4 (i14 + 1) : Int32) := rfl
def mX2_writerBehind (v : kG) (x1 : Int32) (x2 : Int32) : Int32 :=
  mX2_writerBehind_L14 v x1 x2 13 (-6) ((v 0 1) + 1) 0
theorem mX2_writerBehind_s {v : kG} {x1 : Int32} {x2 : Int32} : mX2_writerBehind v x1 x2 = (
  mX2_writerBehind_L14 v x1 x2 13 (-6) ((v 0 1) + 1) 0 : Int32) := rfl
set_option maxHeartbeats 400000 in
set_option maxRecDepth 100000 in
theorem c_X2_writerBehind (l : Launch) (E : kE) (a : Nat → Nat) (v : kG) (x1 : Int32) (x2 : Int32) (hn : nOK (v 0 2)) (R : Int32) (hE : R = mX2_writerBehind v x1 x2) : Met l yX2_writerBehind wsX2_writerBehind ({ frames := 1, cells := 0, slots := 0, locals := 21 }) (kPre E [.ref (a 0), .int x1, .int x2] (wLedx E a (v 0 0) (v 0 1) (v 0 2) (v 1) (v 2) (v 3) (v 4) (v 5) (v 6) (v 7))) (kRi R) 0 0 (fun _ => False) := by
  refine Met.ofW (cc := cX2_writerBehind) (maxL := 6) (ret := (some .int)) (by decide) rfl ?_
  intro p e s m args below meth c s₁ B hml hv
  obtain ⟨rfl, hK, hP⟩ := hv
  have hx := B.exec
  have hb := B.bytes
  have hr := B.returns
  have hts := atoms_spec (ws := wsX2_writerBehind) B.pre
  have hown : s.vm.findClass RX2 = some m.cls := findClass_of_methodNamed B.named
  have hlocks := B.notSynchronized
  have hiX2 : ∀ w ∈ wsX20, w ∈ wsX2_writerBehind := by decide +kernel
  have hf15 := hts (.fieldLink RX2 15 "SkewEdges$Ledger" "moment" "I") (by decide +kernel)
  have hf18 := hts (.fieldLink RX2 18 "SkewEdges$Ledger" "total" "I") (by decide +kernel)
  have hf21 := hts (.fieldLink RX2 21 "SkewEdges$Ledger" "phase" "[I") (by decide +kernel)
  have hf28 := hts (.fieldLink RX2 28 "SkewEdges$Ledger" "committedAt" "[I") (by decide +kernel)
  have hf34 := hts (.fieldLink RX2 34 "SkewEdges$Ledger" "writtenKeys" "[I") (by decide +kernel)
  have hP : va_P E.1 vwCl (wLedx E a (v 0 0) (v 0 1) (v 0 2) (v 1) (v 2) (v 3) (v 4) (v 5) (v 6) (v 7)) s.heap := hP
  have hl := lv_entry ([.ref (a 0), .int x1, .int x2]) (n := 6) (Nat.le_of_ble_eq_true rfl)
  rw [lg_entry_eq]
  generalize (lg_sl ([.ref (a 0), .int x1, .int x2]) ++ List.replicate (6 - (lg_sl ([.ref (a 0), .int x1, .int x2])).length) Slot.unset).toArray = ls at hl ⊢
  have hl : lv_has ls 6 [(0, .ref (a 0)), (1, .int x1), (2, .int x2)] := hl
  replace hE := hE.trans mX2_writerBehind_s
  refine lv_bipush (v := (-6)) hx hb dX2_writerBehind_0 (by decide) ?_
  refine lv_istore_n (lv' := [(3, .int (-6)), (0, .ref (a 0)), (1, .int x1), (2, .int x2)]) hx hb dX2_writerBehind_2 rfl hl (by decide) rfl (fun ls hl => ?_)
  refine lv_aload_n hx hb dX2_writerBehind_3 rfl (lv_at hl 1 rfl) ?_
  refine va_get (D := E.1) (ci := 1) (v := .int (v 0 1)) (C := RX2) (T := TX2) (N := 10) hx hb hts hiX2 hown hK.1 hP 0 rfl rfl 1 (by decide) hf15 (fun _ h9 => h9) rfl dX2_writerBehind_4 ?_
  refine lv_iconst (v := 1) hx hb dX2_writerBehind_7 (by decide) ?_
  refine lv_iadd hx hb dX2_writerBehind_8 ?_
  refine lv_istore (lv' := [(4, .int ((v 0 1) + 1)), (3, .int (-6)), (0, .ref (a 0)), (1, .int x1), (2, .int x2)]) hx hb dX2_writerBehind_9 hl (by decide) rfl (fun ls hl => ?_)
  refine lv_iconst (v := 0) hx hb dX2_writerBehind_11 (by decide) ?_
  refine lv_istore (lv' := [(5, .int 0), (4, .int ((v 0 1) + 1)), (3, .int (-6)), (0, .ref (a 0)), (1, .int x1), (2, .int x2)]) hx hb dX2_writerBehind_12 hl (by decide) rfl (fun ls hl => ?_)
  have lp14 : ∀ (n14 : Nat) (x14_3 : Int32) (x14_4 : Int32) (i14 : Nat), (12 < i14 + n14) → (i14 ≤ 12) → ∀ ls : Array Slot, lv_has ls 6 [(5, .int (nI i14)), (4, .int x14_4), (3, .int x14_3), (0, .ref (a 0)), (1, .int x1), (2, .int x2)] → R = mX2_writerBehind_L14 v x1 x2 n14 x14_3 x14_4 i14 → W p l e ({ frames := 1, cells := 0, slots := 0, locals := 21 }) s m ([.ref (a 0), .int x1, .int x2] : List Value).toArray below meth c s.heap [] 0 0 (MQ below (kRi R) ([.ref (a 0), .int x1, .int x2] : List Value).toArray s 0 0 (fun _ => False)) (F0 m 14 ls []) := by
    clear hE
    intro n14
    induction n14 with
    | zero =>
      intro x14_3 x14_4 i14 hm14 hi14 ls hl hE
      exact absurd hm14 (by omega)
    | succ n14 ih14 =>
      intro x14_3 x14_4 i14 hm14 hi14 ls hl hE
      replace hE := hE.trans mX2_writerBehind_L14_s
      refine lv_iload hx hb dX2_writerBehind_14 (lv_at hl 0 rfl) ?_
      refine lv_aload_n hx hb dX2_writerBehind_16 rfl (lv_at hl 3 rfl) ?_
      refine va_get (D := E.1) (ci := 1) (v := .int (v 0 2)) (C := RX2) (T := TX2) (N := 10) hx hb hts hiX2 hown hK.1 hP 0 rfl rfl 2 (by decide) hf18 (fun _ h9 => h9) rfl dX2_writerBehind_17 ?_
      refine lv_icmp_ge (tgt := 89) hx hb dX2_writerBehind_20 (by decide) (fun c_1 => ?_) (fun c_1 => ?_)
      · replace hE := hE.trans (if_pos c_1)
        refine lv_iload_n hx hb dX2_writerBehind_89 rfl (lv_at hl 2 rfl) ?_
        subst R
        exact W.iret (v := x14_3) hx hb hr (fun t ht hW => ⟨rfl, ht⟩) (fun _ h => by cases h) dX2_writerBehind_90
      · replace hE := hE.trans (if_neg c_1)
        have hbc_1 : i14 < 12 := nOK.lt (by assumption) (by omega) c_1
        refine lv_aload_n hx hb dX2_writerBehind_23 rfl (lv_at hl 3 rfl) ?_
        refine va_get (D := E.1) (ci := 1) (v := .ref (a 1)) (C := RX2) (T := TX2) (N := 10) hx hb hts hiX2 hown hK.1 hP 0 rfl rfl 3 (by decide) hf21 (fun _ h9 => h9) rfl dX2_writerBehind_24 ?_
        refine lv_iload hx hb dX2_writerBehind_27 (lv_at hl 0 rfl) ?_
        refine va_iald (D := E.1) hx hb hK.1 hP 1 0 rfl rfl (vp_in_nI (by omega) (by omega)) dX2_writerBehind_29 ?_
        refine lv_iconst (v := 1) hx hb dX2_writerBehind_30 (by decide) ?_
        refine lv_icmp_ne (tgt := 83) hx hb dX2_writerBehind_31 (by decide) (fun c_2 => ?_) (fun c_2 => ?_)
        · replace hE := hE.trans (if_neg c_2)
          refine lv_iinc (v := (nI (i14 + 1))) (lv' := [(5, .int (nI (i14 + 1))), (4, .int x14_4), (3, .int x14_3), (0, .ref (a 0)), (1, .int x1), (2, .int x2)]) hx hb dX2_writerBehind_83 hl (k := 0) rfl (nI_1 i14) (by decide) rfl (fun ls hl => ?_)
          refine lv_goto (tgt := 14) hx hb dX2_writerBehind_86 (by decide) ?_
          exact ih14 x14_3 x14_4 (i14 + 1) (by omega) (by omega) ls (lv_sub hl [0, 1, 2, 3, 4, 5] rfl) hE
        · replace hE := hE.trans (if_pos c_2)
          refine lv_aload_n hx hb dX2_writerBehind_34 rfl (lv_at hl 3 rfl) ?_
          refine va_get (D := E.1) (ci := 1) (v := .ref (a 5)) (C := RX2) (T := TX2) (N := 10) hx hb hts hiX2 hown hK.1 hP 0 rfl rfl 7 (by decide) hf34 (fun _ h9 => h9) rfl dX2_writerBehind_35 ?_
          refine lv_iload hx hb dX2_writerBehind_38 (lv_at hl 0 rfl) ?_
          refine va_iald (D := E.1) hx hb hK.1 hP 5 0 rfl rfl (vp_in_nI (by omega) (by omega)) dX2_writerBehind_40 ?_
          refine lv_iload_n hx hb dX2_writerBehind_41 rfl (lv_at hl 4 rfl) ?_
          refine kCallRi (va_runSN (As := [.int ((v 5) ((nI i14)).toNatClampNeg), .int x1]) (rest := []) ⟨hx, hb, hml, hown, hts⟩ (c_X5_contains l E ((v 5) ((nI i14)).toNatClampNeg) x1 _ rfl) ⟨va_cnB 2 hts gX2_writerBehind_X5_contains_n59 rfl rfl rfl (hK.nest 3 rfl) (hts (.initialized RX5) (by decide +kernel)) (by decide +kernel) ⟨Nat.le_of_ble_eq_true rfl, Nat.le_of_ble_eq_true rfl⟩, hts (.static yX5_contains) (by decide +kernel), trivial⟩ (kPreS hK kP0) rfl rfl hl.1 rfl (lv_room (Nat.le_of_ble_eq_true rfl)) dX2_writerBehind_42 ⟨Nat.zero_le _, Nat.zero_le _⟩) ?_
          refine lv_if_eq (tgt := 83) hx hb dX2_writerBehind_45 (by decide) (fun c_3 => ?_) (fun c_3 => ?_)
          · replace hE := hE.trans (if_pos c_3)
            refine lv_iinc (v := (nI (i14 + 1))) (lv' := [(5, .int (nI (i14 + 1))), (4, .int x14_4), (3, .int x14_3), (0, .ref (a 0)), (1, .int x1), (2, .int x2)]) hx hb dX2_writerBehind_83 hl (k := 0) rfl (nI_1 i14) (by decide) rfl (fun ls hl => ?_)
            refine lv_goto (tgt := 14) hx hb dX2_writerBehind_86 (by decide) ?_
            exact ih14 x14_3 x14_4 (i14 + 1) (by omega) (by omega) ls (lv_sub hl [0, 1, 2, 3, 4, 5] rfl) hE
          · replace hE := hE.trans (if_neg c_3)
            refine lv_aload_n hx hb dX2_writerBehind_48 rfl (lv_at hl 3 rfl) ?_
            refine va_get (D := E.1) (ci := 1) (v := .ref (a 3)) (C := RX2) (T := TX2) (N := 10) hx hb hts hiX2 hown hK.1 hP 0 rfl rfl 5 (by decide) hf28 (fun _ h9 => h9) rfl dX2_writerBehind_49 ?_
            refine lv_iload hx hb dX2_writerBehind_52 (lv_at hl 0 rfl) ?_
            refine va_iald (D := E.1) hx hb hK.1 hP 3 0 rfl rfl (vp_in_nI (by omega) (by omega)) dX2_writerBehind_54 ?_
            refine lv_iload_n hx hb dX2_writerBehind_55 rfl (lv_at hl 5 rfl) ?_
            refine lv_icmp_le (tgt := 83) hx hb dX2_writerBehind_56 (by decide) (fun c_4 => ?_) (fun c_4 => ?_)
            · replace hE := hE.trans (if_pos c_4)
              refine lv_iinc (v := (nI (i14 + 1))) (lv' := [(5, .int (nI (i14 + 1))), (4, .int x14_4), (3, .int x14_3), (0, .ref (a 0)), (1, .int x1), (2, .int x2)]) hx hb dX2_writerBehind_83 hl (k := 0) rfl (nI_1 i14) (by decide) rfl (fun ls hl => ?_)
              refine lv_goto (tgt := 14) hx hb dX2_writerBehind_86 (by decide) ?_
              exact ih14 x14_3 x14_4 (i14 + 1) (by omega) (by omega) ls (lv_sub hl [0, 1, 2, 3, 4, 5] rfl) hE
            · replace hE := hE.trans (if_neg c_4)
              refine lv_aload_n hx hb dX2_writerBehind_59 rfl (lv_at hl 3 rfl) ?_
              refine va_get (D := E.1) (ci := 1) (v := .ref (a 3)) (C := RX2) (T := TX2) (N := 10) hx hb hts hiX2 hown hK.1 hP 0 rfl rfl 5 (by decide) hf28 (fun _ h9 => h9) rfl dX2_writerBehind_60 ?_
              refine lv_iload hx hb dX2_writerBehind_63 (lv_at hl 0 rfl) ?_
              refine va_iald (D := E.1) hx hb hK.1 hP 3 0 rfl rfl (vp_in_nI (by omega) (by omega)) dX2_writerBehind_65 ?_
              refine lv_iload hx hb dX2_writerBehind_66 (lv_at hl 1 rfl) ?_
              refine lv_icmp_ge (tgt := 83) hx hb dX2_writerBehind_68 (by decide) (fun c_5 => ?_) (fun c_5 => ?_)
              · replace hE := hE.trans (if_pos c_5)
                refine lv_iinc (v := (nI (i14 + 1))) (lv' := [(5, .int (nI (i14 + 1))), (4, .int x14_4), (3, .int x14_3), (0, .ref (a 0)), (1, .int x1), (2, .int x2)]) hx hb dX2_writerBehind_83 hl (k := 0) rfl (nI_1 i14) (by decide) rfl (fun ls hl => ?_)
                refine lv_goto (tgt := 14) hx hb dX2_writerBehind_86 (by decide) ?_
                exact ih14 x14_3 x14_4 (i14 + 1) (by omega) (by omega) ls (lv_sub hl [0, 1, 2, 3, 4, 5] rfl) hE
              · replace hE := hE.trans (if_neg c_5)
                refine lv_iload hx hb dX2_writerBehind_71 (lv_at hl 0 rfl) ?_
                refine lv_istore_n (lv' := [(3, .int (nI i14)), (5, .int (nI i14)), (4, .int x14_4), (0, .ref (a 0)), (1, .int x1), (2, .int x2)]) hx hb dX2_writerBehind_73 rfl hl (by decide) rfl (fun ls hl => ?_)
                refine lv_aload_n hx hb dX2_writerBehind_74 rfl (lv_at hl 3 rfl) ?_
                refine va_get (D := E.1) (ci := 1) (v := .ref (a 3)) (C := RX2) (T := TX2) (N := 10) hx hb hts hiX2 hown hK.1 hP 0 rfl rfl 5 (by decide) hf28 (fun _ h9 => h9) rfl dX2_writerBehind_75 ?_
                refine lv_iload hx hb dX2_writerBehind_78 (lv_at hl 1 rfl) ?_
                refine va_iald (D := E.1) hx hb hK.1 hP 3 0 rfl rfl (vp_in_nI (by omega) (by omega)) dX2_writerBehind_80 ?_
                refine lv_istore (lv' := [(4, .int ((v 3) ((nI i14)).toNatClampNeg)), (3, .int (nI i14)), (5, .int (nI i14)), (0, .ref (a 0)), (1, .int x1), (2, .int x2)]) hx hb dX2_writerBehind_81 hl (by decide) rfl (fun ls hl => ?_)
                refine lv_iinc (v := (nI (i14 + 1))) (lv' := [(5, .int (nI (i14 + 1))), (4, .int ((v 3) ((nI i14)).toNatClampNeg)), (3, .int (nI i14)), (0, .ref (a 0)), (1, .int x1), (2, .int x2)]) hx hb dX2_writerBehind_83 hl (k := 2) rfl (nI_1 i14) (by decide) rfl (fun ls hl => ?_)
                refine lv_goto (tgt := 14) hx hb dX2_writerBehind_86 (by decide) ?_
                exact ih14 (nI i14) ((v 3) ((nI i14)).toNatClampNeg) (i14 + 1) (by omega) (by omega) ls (lv_sub hl [0, 1, 2, 3, 4, 5] rfl) hE
  exact lp14 13 (-6) ((v 0 1) + 1) 0 (by omega) (by omega) ls (lv_sub hl [0, 1, 2, 3, 4, 5] rfl) hE
def mX2_seenWriter (v : kG) (x1 : Int32) (x2 : Int32) : Int32 :=
  if (mX5_contains ((v 5) (x1).toNatClampNeg) x2) = 0 then
    (mX2_writerAhead v x2 ((v 2) (x1).toNatClampNeg))
  else
    x1
theorem mX2_seenWriter_s {v : kG} {x1 : Int32} {x2 : Int32} : mX2_seenWriter v x1 x2 = (
  if (mX5_contains ((v 5) (x1).toNatClampNeg) x2) = 0 then
    (mX2_writerAhead v x2 ((v 2) (x1).toNatClampNeg))
  else
    x1 : Int32) := rfl
set_option maxHeartbeats 400000 in
set_option maxRecDepth 100000 in
theorem c_X2_seenWriter (l : Launch) (E : kE) (a : Nat → Nat) (v : kG) (x1 : Int32) (x2 : Int32) (hn : nOK (v 0 2)) (ht : tOK x1) (R : Int32) (hE : R = mX2_seenWriter v x1 x2) : Met l yX2_seenWriter wsX2_seenWriter ({ frames := 2, cells := 0, slots := 0, locals := 46 }) (kPre E [.ref (a 0), .int x1, .int x2] (wLedx E a (v 0 0) (v 0 1) (v 0 2) (v 1) (v 2) (v 3) (v 4) (v 5) (v 6) (v 7))) (kRi R) 0 0 (fun _ => False) := by
  refine Met.ofW (cc := cX2_seenWriter) (maxL := 3) (ret := (some .int)) (by decide) rfl ?_
  intro p e s m args below meth c s₁ B hml hv
  obtain ⟨rfl, hK, hP⟩ := hv
  have hx := B.exec
  have hb := B.bytes
  have hr := B.returns
  have hts := atoms_spec (ws := wsX2_seenWriter) B.pre
  have hown : s.vm.findClass RX2 = some m.cls := findClass_of_methodNamed B.named
  have hlocks := B.notSynchronized
  have hiX2 : ∀ w ∈ wsX20, w ∈ wsX2_seenWriter := by decide +kernel
  have hf25 := hts (.fieldLink RX2 25 "SkewEdges$Ledger" "beganAt" "[I") (by decide +kernel)
  have hf34 := hts (.fieldLink RX2 34 "SkewEdges$Ledger" "writtenKeys" "[I") (by decide +kernel)
  have hP : va_P E.1 vwCl (wLedx E a (v 0 0) (v 0 1) (v 0 2) (v 1) (v 2) (v 3) (v 4) (v 5) (v 6) (v 7)) s.heap := hP
  have hl := lv_entry ([.ref (a 0), .int x1, .int x2]) (n := 3) (Nat.le_of_ble_eq_true rfl)
  rw [lg_entry_eq]
  generalize (lg_sl ([.ref (a 0), .int x1, .int x2]) ++ List.replicate (3 - (lg_sl ([.ref (a 0), .int x1, .int x2])).length) Slot.unset).toArray = ls at hl ⊢
  have hl : lv_has ls 3 [(0, .ref (a 0)), (1, .int x1), (2, .int x2)] := hl
  replace hE := hE.trans mX2_seenWriter_s
  refine lv_aload_n hx hb dX2_seenWriter_0 rfl (lv_at hl 0 rfl) ?_
  refine va_get (D := E.1) (ci := 1) (v := .ref (a 5)) (C := RX2) (T := TX2) (N := 10) hx hb hts hiX2 hown hK.1 hP 0 rfl rfl 7 (by decide) hf34 (fun _ h9 => h9) rfl dX2_seenWriter_1 ?_
  refine lv_iload_n hx hb dX2_seenWriter_4 rfl (lv_at hl 1 rfl) ?_
  refine va_iald (D := E.1) hx hb hK.1 hP 5 0 rfl rfl (tOK.in12 (by assumption)) dX2_seenWriter_5 ?_
  refine lv_iload_n hx hb dX2_seenWriter_6 rfl (lv_at hl 2 rfl) ?_
  refine kCallRi (va_runSN (As := [.int ((v 5) (x1).toNatClampNeg), .int x2]) (rest := []) ⟨hx, hb, hml, hown, hts⟩ (c_X5_contains l E ((v 5) (x1).toNatClampNeg) x2 _ rfl) ⟨va_cnB 2 hts gX2_seenWriter_X5_contains_n59 rfl rfl rfl (hK.nest 3 rfl) (hts (.initialized RX5) (by decide +kernel)) (by decide +kernel) ⟨Nat.le_of_ble_eq_true rfl, Nat.le_of_ble_eq_true rfl⟩, hts (.static yX5_contains) (by decide +kernel), trivial⟩ (kPreS hK kP0) rfl rfl hl.1 rfl (lv_room (Nat.le_of_ble_eq_true rfl)) dX2_seenWriter_7 ⟨Nat.zero_le _, Nat.zero_le _⟩) ?_
  refine lv_if_eq (tgt := 15) hx hb dX2_seenWriter_10 (by decide) (fun c_1 => ?_) (fun c_1 => ?_)
  · replace hE := hE.trans (if_pos c_1)
    refine lv_aload_n hx hb dX2_seenWriter_15 rfl (lv_at hl 0 rfl) ?_
    refine lv_iload_n hx hb dX2_seenWriter_16 rfl (lv_at hl 2 rfl) ?_
    refine lv_aload_n hx hb dX2_seenWriter_17 rfl (lv_at hl 0 rfl) ?_
    refine va_get (D := E.1) (ci := 1) (v := .ref (a 2)) (C := RX2) (T := TX2) (N := 10) hx hb hts hiX2 hown hK.1 hP 0 rfl rfl 4 (by decide) hf25 (fun _ h9 => h9) rfl dX2_seenWriter_18 ?_
    refine lv_iload_n hx hb dX2_seenWriter_21 rfl (lv_at hl 1 rfl) ?_
    refine va_iald (D := E.1) hx hb hK.1 hP 2 0 rfl rfl (tOK.in12 (by assumption)) dX2_seenWriter_22 ?_
    refine kCallRi (va_runV (As := [.int x2, .int ((v 2) (x1).toNatClampNeg)]) (rest := []) ⟨hx, hb, hml, hown, hts⟩ (c_X2_writerAhead l E a v x2 ((v 2) (x1).toNatClampNeg) (by first | assumption | exact tOK.nI (by omega)) _ rfl) (cwV 2 hts gX2_seenWriter_X2_writerAhead rfl rfl rfl (by decide +kernel) ⟨Nat.le_of_ble_eq_true rfl, Nat.le_of_ble_eq_true rfl⟩) (kPreV hK hP hP (q0 := 0) rfl rfl) rfl rfl hl.1 rfl (lv_room (Nat.le_of_ble_eq_true rfl)) dX2_seenWriter_23 ⟨Nat.zero_le _, Nat.zero_le _⟩) ?_
    subst R
    exact W.iret (v := (mX2_writerAhead v x2 ((v 2) (x1).toNatClampNeg))) hx hb hr (fun t ht hW => ⟨rfl, ht⟩) (fun _ h => by cases h) dX2_seenWriter_26
  · replace hE := hE.trans (if_neg c_1)
    refine lv_iload_n hx hb dX2_seenWriter_13 rfl (lv_at hl 1 rfl) ?_
    subst R
    exact W.iret (v := x1) hx hb hr (fun t ht hW => ⟨rfl, ht⟩) (fun _ h => by cases h) dX2_seenWriter_14
def mX2_valueOfVersion (v : kG) (x1 : Int32) (x2 : Int32) : Int32 :=
  if (mX2_exists v x1) = 0 then
    0
  else
    ((v 7) (((x1 * 16) + x2)).toNatClampNeg)
theorem mX2_valueOfVersion_s {v : kG} {x1 : Int32} {x2 : Int32} : mX2_valueOfVersion v x1 x2 = (
  if (mX2_exists v x1) = 0 then
    0
  else
    ((v 7) (((x1 * 16) + x2)).toNatClampNeg) : Int32) := rfl
set_option maxHeartbeats 400000 in
set_option maxRecDepth 100000 in
theorem c_X2_valueOfVersion (l : Launch) (E : kE) (a : Nat → Nat) (v : kG) (x1 : Int32) (x2 : Int32) (hn : nOK (v 0 2)) (hk : yOK x2) (R : Int32) (hE : R = mX2_valueOfVersion v x1 x2) : Met l yX2_valueOfVersion wsX2_valueOfVersion ({ frames := 1, cells := 0, slots := 0, locals := 21 }) (kPre E [.ref (a 0), .int x1, .int x2] (wLedx E a (v 0 0) (v 0 1) (v 0 2) (v 1) (v 2) (v 3) (v 4) (v 5) (v 6) (v 7))) (kRi R) 0 0 (fun _ => False) := by
  refine Met.ofW (cc := cX2_valueOfVersion) (maxL := 3) (ret := (some .int)) (by decide) rfl ?_
  intro p e s m args below meth c s₁ B hml hv
  obtain ⟨rfl, hK, hP⟩ := hv
  have hx := B.exec
  have hb := B.bytes
  have hr := B.returns
  have hts := atoms_spec (ws := wsX2_valueOfVersion) B.pre
  have hown : s.vm.findClass RX2 = some m.cls := findClass_of_methodNamed B.named
  have hlocks := B.notSynchronized
  have hiX2 : ∀ w ∈ wsX20, w ∈ wsX2_valueOfVersion := by decide +kernel
  have hf40 := hts (.fieldLink RX2 40 "SkewEdges$Ledger" "values" "[I") (by decide +kernel)
  have hP : va_P E.1 vwCl (wLedx E a (v 0 0) (v 0 1) (v 0 2) (v 1) (v 2) (v 3) (v 4) (v 5) (v 6) (v 7)) s.heap := hP
  have hl := lv_entry ([.ref (a 0), .int x1, .int x2]) (n := 3) (Nat.le_of_ble_eq_true rfl)
  rw [lg_entry_eq]
  generalize (lg_sl ([.ref (a 0), .int x1, .int x2]) ++ List.replicate (3 - (lg_sl ([.ref (a 0), .int x1, .int x2])).length) Slot.unset).toArray = ls at hl ⊢
  have hl : lv_has ls 3 [(0, .ref (a 0)), (1, .int x1), (2, .int x2)] := hl
  replace hE := hE.trans mX2_valueOfVersion_s
  refine lv_aload_n hx hb dX2_valueOfVersion_0 rfl (lv_at hl 0 rfl) ?_
  refine lv_iload_n hx hb dX2_valueOfVersion_1 rfl (lv_at hl 1 rfl) ?_
  refine kCallRi (va_runV (As := [.int x1]) (rest := []) ⟨hx, hb, hml, hown, hts⟩ (c_X2_exists l E a v x1 _ rfl) (cwV 1 hts gX2_valueOfVersion_X2_exists rfl rfl rfl (by decide +kernel) ⟨Nat.le_of_ble_eq_true rfl, Nat.le_of_ble_eq_true rfl⟩) (kPreV hK hP hP (q0 := 0) rfl rfl) rfl rfl hl.1 rfl (lv_room (Nat.le_of_ble_eq_true rfl)) dX2_valueOfVersion_2 ⟨Nat.zero_le _, Nat.zero_le _⟩) ?_
  refine lv_if_eq (tgt := 22) hx hb dX2_valueOfVersion_5 (by decide) (fun c_1 => ?_) (fun c_1 => ?_)
  · replace hE := hE.trans (if_pos c_1)
    refine lv_iconst (v := 0) hx hb dX2_valueOfVersion_22 (by decide) ?_
    subst R
    exact W.iret (v := 0) hx hb hr (fun t ht hW => ⟨rfl, ht⟩) (fun _ h => by cases h) dX2_valueOfVersion_23
  · replace hE := hE.trans (if_neg c_1)
    have hzc_1 := exists_ok (by assumption) c_1
    refine lv_aload_n hx hb dX2_valueOfVersion_8 rfl (lv_at hl 0 rfl) ?_
    refine va_get (D := E.1) (ci := 1) (v := .ref (a 7)) (C := RX2) (T := TX2) (N := 10) hx hb hts hiX2 hown hK.1 hP 0 rfl rfl 9 (by decide) hf40 (fun _ h9 => h9) rfl dX2_valueOfVersion_9 ?_
    refine lv_iload_n hx hb dX2_valueOfVersion_12 rfl (lv_at hl 1 rfl) ?_
    refine lv_bipush (v := 16) hx hb dX2_valueOfVersion_13 (by decide) ?_
    refine lv_imul hx hb dX2_valueOfVersion_15 ?_
    refine lv_iload_n hx hb dX2_valueOfVersion_16 rfl (lv_at hl 2 rfl) ?_
    refine lv_iadd hx hb dX2_valueOfVersion_17 ?_
    refine va_iald (D := E.1) hx hb hK.1 hP 7 0 rfl rfl (vIn (by assumption) (by assumption)) dX2_valueOfVersion_18 ?_
    refine lv_goto (tgt := 23) hx hb dX2_valueOfVersion_19 (by decide) ?_
    subst R
    exact W.iret (v := ((v 7) (((x1 * 16) + x2)).toNatClampNeg)) hx hb hr (fun t ht hW => ⟨rfl, ht⟩) (fun _ h => by cases h) dX2_valueOfVersion_23
def mX2_look (v : kG) (x1 : Int32) (x2 : Int32) : Int32 × (Nat → Int32) :=
  if (mX2_exists v x1) = 0 then
    ((-1), (v 4))
  else
    if (mX5_isKey x2) = 0 then
      ((-1), (v 4))
    else
      if ((v 1) (x1).toNatClampNeg) = 0 then
        if (mX5_contains ((v 5) (x1).toNatClampNeg) x2) = 0 then
          ((mX2_valueOfVersion (rset v 4 (upd (v 4) (x1).toNatClampNeg (((v 4) (x1).toNatClampNeg) ||| (1 <<< (x2 &&& 31))))) (mX2_seenWriter (rset v 4 (upd (v 4) (x1).toNatClampNeg (((v 4) (x1).toNatClampNeg) ||| (1 <<< (x2 &&& 31))))) x1 x2) x2), (upd (v 4) (x1).toNatClampNeg (((v 4) (x1).toNatClampNeg) ||| (1 <<< (x2 &&& 31)))))
        else
          ((mX2_valueOfVersion v (mX2_seenWriter v x1 x2) x2), (v 4))
      else
        ((-5), (v 4))
theorem mX2_look_s {v : kG} {x1 : Int32} {x2 : Int32} : mX2_look v x1 x2 = (
  if (mX2_exists v x1) = 0 then
    ((-1), (v 4))
  else
    if (mX5_isKey x2) = 0 then
      ((-1), (v 4))
    else
      if ((v 1) (x1).toNatClampNeg) = 0 then
        if (mX5_contains ((v 5) (x1).toNatClampNeg) x2) = 0 then
          ((mX2_valueOfVersion (rset v 4 (upd (v 4) (x1).toNatClampNeg (((v 4) (x1).toNatClampNeg) ||| (1 <<< (x2 &&& 31))))) (mX2_seenWriter (rset v 4 (upd (v 4) (x1).toNatClampNeg (((v 4) (x1).toNatClampNeg) ||| (1 <<< (x2 &&& 31))))) x1 x2) x2), (upd (v 4) (x1).toNatClampNeg (((v 4) (x1).toNatClampNeg) ||| (1 <<< (x2 &&& 31)))))
        else
          ((mX2_valueOfVersion v (mX2_seenWriter v x1 x2) x2), (v 4))
      else
        ((-5), (v 4)) : Int32 × (Nat → Int32)) := rfl
set_option maxHeartbeats 400000 in
set_option maxRecDepth 100000 in
theorem c_X2_look (l : Launch) (E : kE) (a : Nat → Nat) (v : kG) (hj : kInj a 8) (x1 : Int32) (x2 : Int32) (hn : nOK (v 0 2)) (R : Int32 × (Nat → Int32)) (hE : R = mX2_look v x1 x2) : Met l yX2_look wsX2_look ({ frames := 3, cells := 0, slots := 0, locals := 68 }) (kPre E [.ref (a 0), .int x1, .int x2] (wLedx E a (v 0 0) (v 0 1) (v 0 2) (v 1) (v 2) (v 3) (v 4) (v 5) (v 6) (v 7))) (kWi E R.1 (wLedx E a (v 0 0) (v 0 1) (v 0 2) (v 1) (v 2) (v 3) R.2 (v 5) (v 6) (v 7)) (kA a 8)) 0 0 (kA a 8) := by
  refine Met.ofW (cc := cX2_look) (maxL := 3) (ret := (some .int)) (by decide) rfl ?_
  intro p e s m args below meth c s₁ B hml hv
  obtain ⟨rfl, hK, hP⟩ := hv
  have hx := B.exec
  have hb := B.bytes
  have hr := B.returns
  have hts := atoms_spec (ws := wsX2_look) B.pre
  have hown : s.vm.findClass RX2 = some m.cls := findClass_of_methodNamed B.named
  have hlocks := B.notSynchronized
  have hiX2 : ∀ w ∈ wsX20, w ∈ wsX2_look := by decide +kernel
  have hf21 := hts (.fieldLink RX2 21 "SkewEdges$Ledger" "phase" "[I") (by decide +kernel)
  have hf31 := hts (.fieldLink RX2 31 "SkewEdges$Ledger" "readKeys" "[I") (by decide +kernel)
  have hf34 := hts (.fieldLink RX2 34 "SkewEdges$Ledger" "writtenKeys" "[I") (by decide +kernel)
  have hS : va_S (kA a 8) s.heap s.heap [] := va_S.rf
  have hP : va_P E.1 vwCl (wLedx E a (v 0 0) (v 0 1) (v 0 2) (v 1) (v 2) (v 3) (v 4) (v 5) (v 6) (v 7)) s.heap := hP
  have hD := dLed (E := E) hj (v 0 0) (v 0 1) (v 0 2) (v 1) (v 2) (v 3) (v 4) (v 5) (v 6) (v 7)
  have hl := lv_entry ([.ref (a 0), .int x1, .int x2]) (n := 3) (Nat.le_of_ble_eq_true rfl)
  rw [lg_entry_eq]
  generalize (lg_sl ([.ref (a 0), .int x1, .int x2]) ++ List.replicate (3 - (lg_sl ([.ref (a 0), .int x1, .int x2])).length) Slot.unset).toArray = ls at hl ⊢
  have hl : lv_has ls 3 [(0, .ref (a 0)), (1, .int x1), (2, .int x2)] := hl
  replace hE := hE.trans mX2_look_s
  refine lv_aload_n hx hb dX2_look_0 rfl (lv_at hl 0 rfl) ?_
  refine lv_iload_n hx hb dX2_look_1 rfl (lv_at hl 1 rfl) ?_
  refine kCallRi (va_runV (As := [.int x1]) (rest := []) ⟨hx, hb, hml, hown, hts⟩ (c_X2_exists l E a v x1 _ rfl) (cwV 1 hts gX2_look_X2_exists rfl rfl rfl (by decide +kernel) ⟨Nat.le_of_ble_eq_true rfl, Nat.le_of_ble_eq_true rfl⟩) (kPreV hK hP hP (q0 := 0) rfl rfl) rfl rfl hl.1 rfl (lv_room (Nat.le_of_ble_eq_true rfl)) dX2_look_2 ⟨Nat.zero_le _, Nat.zero_le _⟩) ?_
  refine lv_if_eq (tgt := 15) hx hb dX2_look_5 (by decide) (fun c_1 => ?_) (fun c_1 => ?_)
  · replace hE := hE.trans (if_pos c_1)
    refine lv_iconst (v := (-1)) hx hb dX2_look_15 (by decide) ?_
    subst R
    exact W.iret (v := (-1)) hx hb hr (fun t ht hW => ⟨rfl, by rw [ht]; exact hP, hS.F ht⟩) hS.2.2 dX2_look_16
  · replace hE := hE.trans (if_neg c_1)
    have hzc_1 := exists_ok (by assumption) c_1
    refine lv_iload_n hx hb dX2_look_8 rfl (lv_at hl 2 rfl) ?_
    refine kCallRi (va_runSN (As := [.int x2]) (rest := []) ⟨hx, hb, hml, hown, hts⟩ (c_X5_isKey l E x2 _ rfl) ⟨va_cnB 1 hts gX2_look_X5_isKey_n56 rfl rfl rfl (hK.nest 2 rfl) (hts (.initialized RX5) (by decide +kernel)) (by decide +kernel) ⟨Nat.le_of_ble_eq_true rfl, Nat.le_of_ble_eq_true rfl⟩, hts (.static yX5_isKey) (by decide +kernel), trivial⟩ (kPreS hK kP0) rfl rfl hl.1 rfl (lv_room (Nat.le_of_ble_eq_true rfl)) dX2_look_9 ⟨Nat.zero_le _, Nat.zero_le _⟩) ?_
    refine lv_if_ne (tgt := 17) hx hb dX2_look_12 (by decide) (fun c_2 => ?_) (fun c_2 => ?_)
    · replace hE := hE.trans (if_neg c_2)
      have hzc_2 := isKey_ok c_2
      refine lv_aload_n hx hb dX2_look_17 rfl (lv_at hl 0 rfl) ?_
      refine va_get (D := E.1) (ci := 1) (v := .ref (a 1)) (C := RX2) (T := TX2) (N := 10) hx hb hts hiX2 hown hK.1 hP 0 rfl rfl 3 (by decide) hf21 (fun _ h9 => h9) rfl dX2_look_18 ?_
      refine lv_iload_n hx hb dX2_look_21 rfl (lv_at hl 1 rfl) ?_
      refine va_iald (D := E.1) hx hb hK.1 hP 1 0 rfl rfl (tOK.in12 (by assumption)) dX2_look_22 ?_
      refine lv_if_eq (tgt := 29) hx hb dX2_look_23 (by decide) (fun c_3 => ?_) (fun c_3 => ?_)
      · replace hE := hE.trans (if_pos c_3)
        refine lv_aload_n hx hb dX2_look_29 rfl (lv_at hl 0 rfl) ?_
        refine va_get (D := E.1) (ci := 1) (v := .ref (a 5)) (C := RX2) (T := TX2) (N := 10) hx hb hts hiX2 hown hK.1 hP 0 rfl rfl 7 (by decide) hf34 (fun _ h9 => h9) rfl dX2_look_30 ?_
        refine lv_iload_n hx hb dX2_look_33 rfl (lv_at hl 1 rfl) ?_
        refine va_iald (D := E.1) hx hb hK.1 hP 5 0 rfl rfl (tOK.in12 (by assumption)) dX2_look_34 ?_
        refine lv_iload_n hx hb dX2_look_35 rfl (lv_at hl 2 rfl) ?_
        refine kCallRi (va_runSN (As := [.int ((v 5) (x1).toNatClampNeg), .int x2]) (rest := []) ⟨hx, hb, hml, hown, hts⟩ (c_X5_contains l E ((v 5) (x1).toNatClampNeg) x2 _ rfl) ⟨va_cnB 2 hts gX2_look_X5_contains_n59 rfl rfl rfl (hK.nest 3 rfl) (hts (.initialized RX5) (by decide +kernel)) (by decide +kernel) ⟨Nat.le_of_ble_eq_true rfl, Nat.le_of_ble_eq_true rfl⟩, hts (.static yX5_contains) (by decide +kernel), trivial⟩ (kPreS hK kP0) rfl rfl hl.1 rfl (lv_room (Nat.le_of_ble_eq_true rfl)) dX2_look_36 ⟨Nat.zero_le _, Nat.zero_le _⟩) ?_
        refine lv_if_ne (tgt := 54) hx hb dX2_look_39 (by decide) (fun c_4 => ?_) (fun c_4 => ?_)
        · replace hE := hE.trans (if_neg c_4)
          refine lv_aload_n hx hb dX2_look_54 rfl (lv_at hl 0 rfl) ?_
          refine lv_aload_n hx hb dX2_look_55 rfl (lv_at hl 0 rfl) ?_
          refine lv_iload_n hx hb dX2_look_56 rfl (lv_at hl 1 rfl) ?_
          refine lv_iload_n hx hb dX2_look_57 rfl (lv_at hl 2 rfl) ?_
          refine kCallRi (va_runV (As := [.int x1, .int x2]) (rest := [.ref (a 0)]) ⟨hx, hb, hml, hown, hts⟩ (c_X2_seenWriter l E a v x1 x2 (by first | assumption | exact tOK.nI (by omega)) (by first | assumption | exact tOK.nI (by omega)) _ rfl) (cwV 2 hts gX2_look_X2_seenWriter rfl rfl rfl (by decide +kernel) ⟨Nat.le_of_ble_eq_true rfl, Nat.le_of_ble_eq_true rfl⟩) (kPreV hK hP hP (q0 := 0) rfl rfl) rfl rfl hl.1 rfl (lv_room (Nat.le_of_ble_eq_true rfl)) dX2_look_58 ⟨Nat.zero_le _, Nat.zero_le _⟩) ?_
          refine lv_iload_n hx hb dX2_look_61 rfl (lv_at hl 2 rfl) ?_
          refine kCallRi (va_runV (As := [.int (mX2_seenWriter v x1 x2), .int x2]) (rest := []) ⟨hx, hb, hml, hown, hts⟩ (c_X2_valueOfVersion l E a v (mX2_seenWriter v x1 x2) x2 (by first | assumption | exact tOK.nI (by omega)) (by first | assumption | exact tOK.nI (by omega)) _ rfl) (cwV 2 hts gX2_look_X2_valueOfVersion rfl rfl rfl (by decide +kernel) ⟨Nat.le_of_ble_eq_true rfl, Nat.le_of_ble_eq_true rfl⟩) (kPreV hK hP hP (q0 := 0) rfl rfl) rfl rfl hl.1 rfl (lv_room (Nat.le_of_ble_eq_true rfl)) dX2_look_62 ⟨Nat.zero_le _, Nat.zero_le _⟩) ?_
          subst R
          exact W.iret (v := (mX2_valueOfVersion v (mX2_seenWriter v x1 x2) x2)) hx hb hr (fun t ht hW => ⟨rfl, by rw [ht]; exact hP, hS.F ht⟩) hS.2.2 dX2_look_65
        · replace hE := hE.trans (if_pos c_4)
          refine lv_aload_n hx hb dX2_look_42 rfl (lv_at hl 0 rfl) ?_
          refine va_get (D := E.1) (ci := 1) (v := .ref (a 4)) (C := RX2) (T := TX2) (N := 10) hx hb hts hiX2 hown hK.1 hP 0 rfl rfl 6 (by decide) hf31 (fun _ h9 => h9) rfl dX2_look_43 ?_
          refine lv_iload_n hx hb dX2_look_46 rfl (lv_at hl 1 rfl) ?_
          refine lv_dup2_11 hx hb dX2_look_47 rfl rfl ?_
          refine va_iald (D := E.1) hx hb hK.1 hP 4 0 rfl rfl (tOK.in12 (by assumption)) dX2_look_48 ?_
          refine lv_iconst (v := 1) hx hb dX2_look_49 (by decide) ?_
          refine lv_iload_n hx hb dX2_look_50 rfl (lv_at hl 2 rfl) ?_
          refine lv_ishl hx hb dX2_look_51 ?_
          refine lv_ior hx hb dX2_look_52 ?_
          refine va_iast (D := E.1) hx hb hK.1 hP hD hS 4 0 rfl rfl (tOK.in12 (by assumption)) dX2_look_53 (fun H locs hP _ hS => ?_)
          have hP : va_P E.1 vwCl (wLedx E a (v 0 0) (v 0 1) (v 0 2) (v 1) (v 2) (v 3) (upd (v 4) (x1).toNatClampNeg (((v 4) (x1).toNatClampNeg) ||| (1 <<< (x2 &&& 31)))) (v 5) (v 6) (v 7)) H := hP
          have hD := dLed (E := E) hj (v 0 0) (v 0 1) (v 0 2) (v 1) (v 2) (v 3) (upd (v 4) (x1).toNatClampNeg (((v 4) (x1).toNatClampNeg) ||| (1 <<< (x2 &&& 31)))) (v 5) (v 6) (v 7)
          refine lv_aload_n hx hb dX2_look_54 rfl (lv_at hl 0 rfl) ?_
          refine lv_aload_n hx hb dX2_look_55 rfl (lv_at hl 0 rfl) ?_
          refine lv_iload_n hx hb dX2_look_56 rfl (lv_at hl 1 rfl) ?_
          refine lv_iload_n hx hb dX2_look_57 rfl (lv_at hl 2 rfl) ?_
          refine kCallRi (va_runV (As := [.int x1, .int x2]) (rest := [.ref (a 0)]) ⟨hx, hb, hml, hown, hts⟩ (c_X2_seenWriter l E a (rset v 4 (upd (v 4) (x1).toNatClampNeg (((v 4) (x1).toNatClampNeg) ||| (1 <<< (x2 &&& 31))))) x1 x2 (by first | assumption | exact tOK.nI (by omega)) (by first | assumption | exact tOK.nI (by omega)) _ rfl) (cwV 2 hts gX2_look_X2_seenWriter rfl rfl rfl (by decide +kernel) ⟨Nat.le_of_ble_eq_true rfl, Nat.le_of_ble_eq_true rfl⟩) (kPreV hK hP hP (q0 := 0) rfl rfl) rfl rfl hl.1 rfl (lv_room (Nat.le_of_ble_eq_true rfl)) dX2_look_58 ⟨Nat.zero_le _, Nat.zero_le _⟩) ?_
          refine lv_iload_n hx hb dX2_look_61 rfl (lv_at hl 2 rfl) ?_
          refine kCallRi (va_runV (As := [.int (mX2_seenWriter (rset v 4 (upd (v 4) (x1).toNatClampNeg (((v 4) (x1).toNatClampNeg) ||| (1 <<< (x2 &&& 31))))) x1 x2), .int x2]) (rest := []) ⟨hx, hb, hml, hown, hts⟩ (c_X2_valueOfVersion l E a (rset v 4 (upd (v 4) (x1).toNatClampNeg (((v 4) (x1).toNatClampNeg) ||| (1 <<< (x2 &&& 31))))) (mX2_seenWriter (rset v 4 (upd (v 4) (x1).toNatClampNeg (((v 4) (x1).toNatClampNeg) ||| (1 <<< (x2 &&& 31))))) x1 x2) x2 (by first | assumption | exact tOK.nI (by omega)) (by first | assumption | exact tOK.nI (by omega)) _ rfl) (cwV 2 hts gX2_look_X2_valueOfVersion rfl rfl rfl (by decide +kernel) ⟨Nat.le_of_ble_eq_true rfl, Nat.le_of_ble_eq_true rfl⟩) (kPreV hK hP hP (q0 := 0) rfl rfl) rfl rfl hl.1 rfl (lv_room (Nat.le_of_ble_eq_true rfl)) dX2_look_62 ⟨Nat.zero_le _, Nat.zero_le _⟩) ?_
          subst R
          exact W.iret (v := (mX2_valueOfVersion (rset v 4 (upd (v 4) (x1).toNatClampNeg (((v 4) (x1).toNatClampNeg) ||| (1 <<< (x2 &&& 31))))) (mX2_seenWriter (rset v 4 (upd (v 4) (x1).toNatClampNeg (((v 4) (x1).toNatClampNeg) ||| (1 <<< (x2 &&& 31))))) x1 x2) x2)) hx hb hr (fun t ht hW => ⟨rfl, by rw [ht]; exact hP, hS.F ht⟩) hS.2.2 dX2_look_65
      · replace hE := hE.trans (if_neg c_3)
        refine lv_bipush (v := (-5)) hx hb dX2_look_26 (by decide) ?_
        subst R
        exact W.iret (v := (-5)) hx hb hr (fun t ht hW => ⟨rfl, by rw [ht]; exact hP, hS.F ht⟩) hS.2.2 dX2_look_28
    · replace hE := hE.trans (if_pos c_2)
      refine lv_iconst (v := (-1)) hx hb dX2_look_15 (by decide) ?_
      subst R
      exact W.iret (v := (-1)) hx hb hr (fun t ht hW => ⟨rfl, by rw [ht]; exact hP, hS.F ht⟩) hS.2.2 dX2_look_16
def mX2_enter (v : kG) (x1 : Int32) (x2 : Int32) (x3 : Int32) : Int32 × (Nat → Int32) × (Nat → Int32) :=
  if (mX2_exists v x1) = 0 then
    ((-1), (v 5), (v 7))
  else
    if (mX5_isKey x2) = 0 then
      ((-1), (v 5), (v 7))
    else
      if x3 < 0 then
        ((-2), (v 5), (v 7))
      else
        if x3 < 1000 then
          if ((v 1) (x1).toNatClampNeg) = 0 then
            (((upd (v 5) (x1).toNatClampNeg (((v 5) (x1).toNatClampNeg) ||| (1 <<< (x2 &&& 31)))) (x1).toNatClampNeg), (upd (v 5) (x1).toNatClampNeg (((v 5) (x1).toNatClampNeg) ||| (1 <<< (x2 &&& 31)))), (upd (v 7) (((x1 * 16) + x2)).toNatClampNeg x3))
          else
            ((-5), (v 5), (v 7))
        else
          ((-2), (v 5), (v 7))
theorem mX2_enter_s {v : kG} {x1 : Int32} {x2 : Int32} {x3 : Int32} : mX2_enter v x1 x2 x3 = (
  if (mX2_exists v x1) = 0 then
    ((-1), (v 5), (v 7))
  else
    if (mX5_isKey x2) = 0 then
      ((-1), (v 5), (v 7))
    else
      if x3 < 0 then
        ((-2), (v 5), (v 7))
      else
        if x3 < 1000 then
          if ((v 1) (x1).toNatClampNeg) = 0 then
            (((upd (v 5) (x1).toNatClampNeg (((v 5) (x1).toNatClampNeg) ||| (1 <<< (x2 &&& 31)))) (x1).toNatClampNeg), (upd (v 5) (x1).toNatClampNeg (((v 5) (x1).toNatClampNeg) ||| (1 <<< (x2 &&& 31)))), (upd (v 7) (((x1 * 16) + x2)).toNatClampNeg x3))
          else
            ((-5), (v 5), (v 7))
        else
          ((-2), (v 5), (v 7)) : Int32 × (Nat → Int32) × (Nat → Int32)) := rfl
set_option maxHeartbeats 400000 in
set_option maxRecDepth 100000 in
theorem c_X2_enter (l : Launch) (E : kE) (a : Nat → Nat) (v : kG) (hj : kInj a 8) (x1 : Int32) (x2 : Int32) (x3 : Int32) (hn : nOK (v 0 2)) (R : Int32 × (Nat → Int32) × (Nat → Int32)) (hE : R = mX2_enter v x1 x2 x3) : Met l yX2_enter wsX2_enter ({ frames := 1, cells := 0, slots := 0, locals := 21 }) (kPre E [.ref (a 0), .int x1, .int x2, .int x3] (wLedx E a (v 0 0) (v 0 1) (v 0 2) (v 1) (v 2) (v 3) (v 4) (v 5) (v 6) (v 7))) (kWi E R.1 (wLedx E a (v 0 0) (v 0 1) (v 0 2) (v 1) (v 2) (v 3) (v 4) R.2.1 (v 6) R.2.2) (kA a 8)) 0 0 (kA a 8) := by
  refine Met.ofW (cc := cX2_enter) (maxL := 4) (ret := (some .int)) (by decide) rfl ?_
  intro p e s m args below meth c s₁ B hml hv
  obtain ⟨rfl, hK, hP⟩ := hv
  have hx := B.exec
  have hb := B.bytes
  have hr := B.returns
  have hts := atoms_spec (ws := wsX2_enter) B.pre
  have hown : s.vm.findClass RX2 = some m.cls := findClass_of_methodNamed B.named
  have hlocks := B.notSynchronized
  have hiX2 : ∀ w ∈ wsX20, w ∈ wsX2_enter := by decide +kernel
  have hf21 := hts (.fieldLink RX2 21 "SkewEdges$Ledger" "phase" "[I") (by decide +kernel)
  have hf34 := hts (.fieldLink RX2 34 "SkewEdges$Ledger" "writtenKeys" "[I") (by decide +kernel)
  have hf40 := hts (.fieldLink RX2 40 "SkewEdges$Ledger" "values" "[I") (by decide +kernel)
  have hS : va_S (kA a 8) s.heap s.heap [] := va_S.rf
  have hP : va_P E.1 vwCl (wLedx E a (v 0 0) (v 0 1) (v 0 2) (v 1) (v 2) (v 3) (v 4) (v 5) (v 6) (v 7)) s.heap := hP
  have hD := dLed (E := E) hj (v 0 0) (v 0 1) (v 0 2) (v 1) (v 2) (v 3) (v 4) (v 5) (v 6) (v 7)
  have hl := lv_entry ([.ref (a 0), .int x1, .int x2, .int x3]) (n := 4) (Nat.le_of_ble_eq_true rfl)
  rw [lg_entry_eq]
  generalize (lg_sl ([.ref (a 0), .int x1, .int x2, .int x3]) ++ List.replicate (4 - (lg_sl ([.ref (a 0), .int x1, .int x2, .int x3])).length) Slot.unset).toArray = ls at hl ⊢
  have hl : lv_has ls 4 [(0, .ref (a 0)), (1, .int x1), (2, .int x2), (3, .int x3)] := hl
  replace hE := hE.trans mX2_enter_s
  refine lv_aload_n hx hb dX2_enter_0 rfl (lv_at hl 0 rfl) ?_
  refine lv_iload_n hx hb dX2_enter_1 rfl (lv_at hl 1 rfl) ?_
  refine kCallRi (va_runV (As := [.int x1]) (rest := []) ⟨hx, hb, hml, hown, hts⟩ (c_X2_exists l E a v x1 _ rfl) (cwV 1 hts gX2_enter_X2_exists rfl rfl rfl (by decide +kernel) ⟨Nat.le_of_ble_eq_true rfl, Nat.le_of_ble_eq_true rfl⟩) (kPreV hK hP hP (q0 := 0) rfl rfl) rfl rfl hl.1 rfl (lv_room (Nat.le_of_ble_eq_true rfl)) dX2_enter_2 ⟨Nat.zero_le _, Nat.zero_le _⟩) ?_
  refine lv_if_eq (tgt := 15) hx hb dX2_enter_5 (by decide) (fun c_1 => ?_) (fun c_1 => ?_)
  · replace hE := hE.trans (if_pos c_1)
    refine lv_iconst (v := (-1)) hx hb dX2_enter_15 (by decide) ?_
    subst R
    exact W.iret (v := (-1)) hx hb hr (fun t ht hW => ⟨rfl, by rw [ht]; exact hP, hS.F ht⟩) hS.2.2 dX2_enter_16
  · replace hE := hE.trans (if_neg c_1)
    have hzc_1 := exists_ok (by assumption) c_1
    refine lv_iload_n hx hb dX2_enter_8 rfl (lv_at hl 2 rfl) ?_
    refine kCallRi (va_runSN (As := [.int x2]) (rest := []) ⟨hx, hb, hml, hown, hts⟩ (c_X5_isKey l E x2 _ rfl) ⟨va_cnB 1 hts gX2_enter_X5_isKey_n56 rfl rfl rfl (hK.nest 2 rfl) (hts (.initialized RX5) (by decide +kernel)) (by decide +kernel) ⟨Nat.le_of_ble_eq_true rfl, Nat.le_of_ble_eq_true rfl⟩, hts (.static yX5_isKey) (by decide +kernel), trivial⟩ (kPreS hK kP0) rfl rfl hl.1 rfl (lv_room (Nat.le_of_ble_eq_true rfl)) dX2_enter_9 ⟨Nat.zero_le _, Nat.zero_le _⟩) ?_
    refine lv_if_ne (tgt := 17) hx hb dX2_enter_12 (by decide) (fun c_2 => ?_) (fun c_2 => ?_)
    · replace hE := hE.trans (if_neg c_2)
      have hzc_2 := isKey_ok c_2
      refine lv_iload_n hx hb dX2_enter_17 rfl (lv_at hl 3 rfl) ?_
      refine lv_if_lt (tgt := 28) hx hb dX2_enter_18 (by decide) (fun c_3 => ?_) (fun c_3 => ?_)
      · replace hE := hE.trans (if_pos c_3)
        refine lv_bipush (v := (-2)) hx hb dX2_enter_28 (by decide) ?_
        subst R
        exact W.iret (v := (-2)) hx hb hr (fun t ht hW => ⟨rfl, by rw [ht]; exact hP, hS.F ht⟩) hS.2.2 dX2_enter_30
      · replace hE := hE.trans (if_neg c_3)
        refine lv_iload_n hx hb dX2_enter_21 rfl (lv_at hl 3 rfl) ?_
        refine lv_sipush (v := 1000) hx hb dX2_enter_22 (by decide) ?_
        refine lv_icmp_lt (tgt := 31) hx hb dX2_enter_25 (by decide) (fun c_4 => ?_) (fun c_4 => ?_)
        · replace hE := hE.trans (if_pos c_4)
          refine lv_aload_n hx hb dX2_enter_31 rfl (lv_at hl 0 rfl) ?_
          refine va_get (D := E.1) (ci := 1) (v := .ref (a 1)) (C := RX2) (T := TX2) (N := 10) hx hb hts hiX2 hown hK.1 hP 0 rfl rfl 3 (by decide) hf21 (fun _ h9 => h9) rfl dX2_enter_32 ?_
          refine lv_iload_n hx hb dX2_enter_35 rfl (lv_at hl 1 rfl) ?_
          refine va_iald (D := E.1) hx hb hK.1 hP 1 0 rfl rfl (tOK.in12 (by assumption)) dX2_enter_36 ?_
          refine lv_if_eq (tgt := 43) hx hb dX2_enter_37 (by decide) (fun c_5 => ?_) (fun c_5 => ?_)
          · replace hE := hE.trans (if_pos c_5)
            refine lv_aload_n hx hb dX2_enter_43 rfl (lv_at hl 0 rfl) ?_
            refine va_get (D := E.1) (ci := 1) (v := .ref (a 5)) (C := RX2) (T := TX2) (N := 10) hx hb hts hiX2 hown hK.1 hP 0 rfl rfl 7 (by decide) hf34 (fun _ h9 => h9) rfl dX2_enter_44 ?_
            refine lv_iload_n hx hb dX2_enter_47 rfl (lv_at hl 1 rfl) ?_
            refine lv_dup2_11 hx hb dX2_enter_48 rfl rfl ?_
            refine va_iald (D := E.1) hx hb hK.1 hP 5 0 rfl rfl (tOK.in12 (by assumption)) dX2_enter_49 ?_
            refine lv_iconst (v := 1) hx hb dX2_enter_50 (by decide) ?_
            refine lv_iload_n hx hb dX2_enter_51 rfl (lv_at hl 2 rfl) ?_
            refine lv_ishl hx hb dX2_enter_52 ?_
            refine lv_ior hx hb dX2_enter_53 ?_
            refine va_iast (D := E.1) hx hb hK.1 hP hD hS 5 0 rfl rfl (tOK.in12 (by assumption)) dX2_enter_54 (fun H locs hP _ hS => ?_)
            have hP : va_P E.1 vwCl (wLedx E a (v 0 0) (v 0 1) (v 0 2) (v 1) (v 2) (v 3) (v 4) (upd (v 5) (x1).toNatClampNeg (((v 5) (x1).toNatClampNeg) ||| (1 <<< (x2 &&& 31)))) (v 6) (v 7)) H := hP
            have hD := dLed (E := E) hj (v 0 0) (v 0 1) (v 0 2) (v 1) (v 2) (v 3) (v 4) (upd (v 5) (x1).toNatClampNeg (((v 5) (x1).toNatClampNeg) ||| (1 <<< (x2 &&& 31)))) (v 6) (v 7)
            refine lv_aload_n hx hb dX2_enter_55 rfl (lv_at hl 0 rfl) ?_
            refine va_get (D := E.1) (ci := 1) (v := .ref (a 7)) (C := RX2) (T := TX2) (N := 10) hx hb hts hiX2 hown hK.1 hP 0 rfl rfl 9 (by decide) hf40 (fun _ h9 => h9) rfl dX2_enter_56 ?_
            refine lv_iload_n hx hb dX2_enter_59 rfl (lv_at hl 1 rfl) ?_
            refine lv_bipush (v := 16) hx hb dX2_enter_60 (by decide) ?_
            refine lv_imul hx hb dX2_enter_62 ?_
            refine lv_iload_n hx hb dX2_enter_63 rfl (lv_at hl 2 rfl) ?_
            refine lv_iadd hx hb dX2_enter_64 ?_
            refine lv_iload_n hx hb dX2_enter_65 rfl (lv_at hl 3 rfl) ?_
            refine va_iast (D := E.1) hx hb hK.1 hP hD hS 7 0 rfl rfl (vIn (by assumption) (by assumption)) dX2_enter_66 (fun H locs hP _ hS => ?_)
            have hP : va_P E.1 vwCl (wLedx E a (v 0 0) (v 0 1) (v 0 2) (v 1) (v 2) (v 3) (v 4) (upd (v 5) (x1).toNatClampNeg (((v 5) (x1).toNatClampNeg) ||| (1 <<< (x2 &&& 31)))) (v 6) (upd (v 7) (((x1 * 16) + x2)).toNatClampNeg x3)) H := hP
            have hD := dLed (E := E) hj (v 0 0) (v 0 1) (v 0 2) (v 1) (v 2) (v 3) (v 4) (upd (v 5) (x1).toNatClampNeg (((v 5) (x1).toNatClampNeg) ||| (1 <<< (x2 &&& 31)))) (v 6) (upd (v 7) (((x1 * 16) + x2)).toNatClampNeg x3)
            refine lv_aload_n hx hb dX2_enter_67 rfl (lv_at hl 0 rfl) ?_
            refine va_get (D := E.1) (ci := 1) (v := .ref (a 5)) (C := RX2) (T := TX2) (N := 10) hx hb hts hiX2 hown hK.1 hP 0 rfl rfl 7 (by decide) hf34 (fun _ h9 => h9) rfl dX2_enter_68 ?_
            refine lv_iload_n hx hb dX2_enter_71 rfl (lv_at hl 1 rfl) ?_
            refine va_iald (D := E.1) hx hb hK.1 hP 5 0 rfl rfl (tOK.in12 (by assumption)) dX2_enter_72 ?_
            subst R
            exact W.iret (v := ((upd (v 5) (x1).toNatClampNeg (((v 5) (x1).toNatClampNeg) ||| (1 <<< (x2 &&& 31)))) (x1).toNatClampNeg)) hx hb hr (fun t ht hW => ⟨rfl, by rw [ht]; exact hP, hS.F ht⟩) hS.2.2 dX2_enter_73
          · replace hE := hE.trans (if_neg c_5)
            refine lv_bipush (v := (-5)) hx hb dX2_enter_40 (by decide) ?_
            subst R
            exact W.iret (v := (-5)) hx hb hr (fun t ht hW => ⟨rfl, by rw [ht]; exact hP, hS.F ht⟩) hS.2.2 dX2_enter_42
        · replace hE := hE.trans (if_neg c_4)
          refine lv_bipush (v := (-2)) hx hb dX2_enter_28 (by decide) ?_
          subst R
          exact W.iret (v := (-2)) hx hb hr (fun t ht hW => ⟨rfl, by rw [ht]; exact hP, hS.F ht⟩) hS.2.2 dX2_enter_30
    · replace hE := hE.trans (if_pos c_2)
      refine lv_iconst (v := (-1)) hx hb dX2_enter_15 (by decide) ?_
      subst R
      exact W.iret (v := (-1)) hx hb hr (fun t ht hW => ⟨rfl, by rw [ht]; exact hP, hS.F ht⟩) hS.2.2 dX2_enter_16
def mX2_giveUp (v : kG) (x1 : Int32) : Int32 × (Nat → Int32) × (Nat → Int32) :=
  if (mX2_exists v x1) = 0 then
    ((-1), (v 1), (v 6))
  else
    if ((v 1) (x1).toNatClampNeg) = 0 then
      ((mJ6_bitCount_0f7a4 (mX2_inPhase (rset (rset v 1 (upd (v 1) (x1).toNatClampNeg 2)) 6 (upd (v 6) (x1).toNatClampNeg 0)) 0)), (upd (v 1) (x1).toNatClampNeg 2), (upd (v 6) (x1).toNatClampNeg 0))
    else
      ((-5), (v 1), (v 6))
theorem mX2_giveUp_s {v : kG} {x1 : Int32} : mX2_giveUp v x1 = (
  if (mX2_exists v x1) = 0 then
    ((-1), (v 1), (v 6))
  else
    if ((v 1) (x1).toNatClampNeg) = 0 then
      ((mJ6_bitCount_0f7a4 (mX2_inPhase (rset (rset v 1 (upd (v 1) (x1).toNatClampNeg 2)) 6 (upd (v 6) (x1).toNatClampNeg 0)) 0)), (upd (v 1) (x1).toNatClampNeg 2), (upd (v 6) (x1).toNatClampNeg 0))
    else
      ((-5), (v 1), (v 6)) : Int32 × (Nat → Int32) × (Nat → Int32)) := rfl
set_option maxHeartbeats 400000 in
set_option maxRecDepth 100000 in
theorem c_X2_giveUp (l : Launch) (E : kE) (a : Nat → Nat) (v : kG) (hj : kInj a 8) (x1 : Int32) (hn : nOK (v 0 2)) (R : Int32 × (Nat → Int32) × (Nat → Int32)) (hE : R = mX2_giveUp v x1) : Met l yX2_giveUp wsX2_giveUp ({ frames := 1, cells := 0, slots := 0, locals := 23 }) (kPre E [.ref (a 0), .int x1] (wLedx E a (v 0 0) (v 0 1) (v 0 2) (v 1) (v 2) (v 3) (v 4) (v 5) (v 6) (v 7))) (kWi E R.1 (wLedx E a (v 0 0) (v 0 1) (v 0 2) R.2.1 (v 2) (v 3) (v 4) (v 5) R.2.2 (v 7)) (kA a 8)) 0 0 (kA a 8) := by
  refine Met.ofW (cc := cX2_giveUp) (maxL := 2) (ret := (some .int)) (by decide) rfl ?_
  intro p e s m args below meth c s₁ B hml hv
  obtain ⟨rfl, hK, hP⟩ := hv
  have hx := B.exec
  have hb := B.bytes
  have hr := B.returns
  have hts := atoms_spec (ws := wsX2_giveUp) B.pre
  have hown : s.vm.findClass RX2 = some m.cls := findClass_of_methodNamed B.named
  have hlocks := B.notSynchronized
  have hiX2 : ∀ w ∈ wsX20, w ∈ wsX2_giveUp := by decide +kernel
  have hf21 := hts (.fieldLink RX2 21 "SkewEdges$Ledger" "phase" "[I") (by decide +kernel)
  have hf37 := hts (.fieldLink RX2 37 "SkewEdges$Ledger" "reason" "[I") (by decide +kernel)
  have hS : va_S (kA a 8) s.heap s.heap [] := va_S.rf
  have hP : va_P E.1 vwCl (wLedx E a (v 0 0) (v 0 1) (v 0 2) (v 1) (v 2) (v 3) (v 4) (v 5) (v 6) (v 7)) s.heap := hP
  have hD := dLed (E := E) hj (v 0 0) (v 0 1) (v 0 2) (v 1) (v 2) (v 3) (v 4) (v 5) (v 6) (v 7)
  have hl := lv_entry ([.ref (a 0), .int x1]) (n := 2) (Nat.le_of_ble_eq_true rfl)
  rw [lg_entry_eq]
  generalize (lg_sl ([.ref (a 0), .int x1]) ++ List.replicate (2 - (lg_sl ([.ref (a 0), .int x1])).length) Slot.unset).toArray = ls at hl ⊢
  have hl : lv_has ls 2 [(0, .ref (a 0)), (1, .int x1)] := hl
  replace hE := hE.trans mX2_giveUp_s
  refine lv_aload_n hx hb dX2_giveUp_0 rfl (lv_at hl 0 rfl) ?_
  refine lv_iload_n hx hb dX2_giveUp_1 rfl (lv_at hl 1 rfl) ?_
  refine kCallRi (va_runV (As := [.int x1]) (rest := []) ⟨hx, hb, hml, hown, hts⟩ (c_X2_exists l E a v x1 _ rfl) (cwV 1 hts gX2_giveUp_X2_exists rfl rfl rfl (by decide +kernel) ⟨Nat.le_of_ble_eq_true rfl, Nat.le_of_ble_eq_true rfl⟩) (kPreV hK hP hP (q0 := 0) rfl rfl) rfl rfl hl.1 rfl (lv_room (Nat.le_of_ble_eq_true rfl)) dX2_giveUp_2 ⟨Nat.zero_le _, Nat.zero_le _⟩) ?_
  refine lv_if_ne (tgt := 10) hx hb dX2_giveUp_5 (by decide) (fun c_1 => ?_) (fun c_1 => ?_)
  · replace hE := hE.trans (if_neg c_1)
    have hzc_1 := exists_ok (by assumption) c_1
    refine lv_aload_n hx hb dX2_giveUp_10 rfl (lv_at hl 0 rfl) ?_
    refine va_get (D := E.1) (ci := 1) (v := .ref (a 1)) (C := RX2) (T := TX2) (N := 10) hx hb hts hiX2 hown hK.1 hP 0 rfl rfl 3 (by decide) hf21 (fun _ h9 => h9) rfl dX2_giveUp_11 ?_
    refine lv_iload_n hx hb dX2_giveUp_14 rfl (lv_at hl 1 rfl) ?_
    refine va_iald (D := E.1) hx hb hK.1 hP 1 0 rfl rfl (tOK.in12 (by assumption)) dX2_giveUp_15 ?_
    refine lv_if_eq (tgt := 22) hx hb dX2_giveUp_16 (by decide) (fun c_2 => ?_) (fun c_2 => ?_)
    · replace hE := hE.trans (if_pos c_2)
      refine lv_aload_n hx hb dX2_giveUp_22 rfl (lv_at hl 0 rfl) ?_
      refine va_get (D := E.1) (ci := 1) (v := .ref (a 1)) (C := RX2) (T := TX2) (N := 10) hx hb hts hiX2 hown hK.1 hP 0 rfl rfl 3 (by decide) hf21 (fun _ h9 => h9) rfl dX2_giveUp_23 ?_
      refine lv_iload_n hx hb dX2_giveUp_26 rfl (lv_at hl 1 rfl) ?_
      refine lv_iconst (v := 2) hx hb dX2_giveUp_27 (by decide) ?_
      refine va_iast (D := E.1) hx hb hK.1 hP hD hS 1 0 rfl rfl (tOK.in12 (by assumption)) dX2_giveUp_28 (fun H locs hP _ hS => ?_)
      have hP : va_P E.1 vwCl (wLedx E a (v 0 0) (v 0 1) (v 0 2) (upd (v 1) (x1).toNatClampNeg 2) (v 2) (v 3) (v 4) (v 5) (v 6) (v 7)) H := hP
      have hD := dLed (E := E) hj (v 0 0) (v 0 1) (v 0 2) (upd (v 1) (x1).toNatClampNeg 2) (v 2) (v 3) (v 4) (v 5) (v 6) (v 7)
      refine lv_aload_n hx hb dX2_giveUp_29 rfl (lv_at hl 0 rfl) ?_
      refine va_get (D := E.1) (ci := 1) (v := .ref (a 6)) (C := RX2) (T := TX2) (N := 10) hx hb hts hiX2 hown hK.1 hP 0 rfl rfl 8 (by decide) hf37 (fun _ h9 => h9) rfl dX2_giveUp_30 ?_
      refine lv_iload_n hx hb dX2_giveUp_33 rfl (lv_at hl 1 rfl) ?_
      refine lv_iconst (v := 0) hx hb dX2_giveUp_34 (by decide) ?_
      refine va_iast (D := E.1) hx hb hK.1 hP hD hS 6 0 rfl rfl (tOK.in12 (by assumption)) dX2_giveUp_35 (fun H locs hP _ hS => ?_)
      have hP : va_P E.1 vwCl (wLedx E a (v 0 0) (v 0 1) (v 0 2) (upd (v 1) (x1).toNatClampNeg 2) (v 2) (v 3) (v 4) (v 5) (upd (v 6) (x1).toNatClampNeg 0) (v 7)) H := hP
      have hD := dLed (E := E) hj (v 0 0) (v 0 1) (v 0 2) (upd (v 1) (x1).toNatClampNeg 2) (v 2) (v 3) (v 4) (v 5) (upd (v 6) (x1).toNatClampNeg 0) (v 7)
      refine lv_aload_n hx hb dX2_giveUp_36 rfl (lv_at hl 0 rfl) ?_
      refine lv_iconst (v := 0) hx hb dX2_giveUp_37 (by decide) ?_
      refine kCallRi (va_runV (As := [.int 0]) (rest := []) ⟨hx, hb, hml, hown, hts⟩ (c_X2_inPhase l E a (rset (rset v 1 (upd (v 1) (x1).toNatClampNeg 2)) 6 (upd (v 6) (x1).toNatClampNeg 0)) 0 (by first | assumption | exact tOK.nI (by omega)) _ rfl) (cwV 1 hts gX2_giveUp_X2_inPhase rfl rfl rfl (by decide +kernel) ⟨Nat.le_of_ble_eq_true rfl, Nat.le_of_ble_eq_true rfl⟩) (kPreV hK hP hP (q0 := 0) rfl rfl) rfl rfl hl.1 rfl (lv_room (Nat.le_of_ble_eq_true rfl)) dX2_giveUp_38 ⟨Nat.zero_le _, Nat.zero_le _⟩) ?_
      refine kCallRi (va_runS (As := [.int (mX2_inPhase (rset (rset v 1 (upd (v 1) (x1).toNatClampNeg 2)) 6 (upd (v 6) (x1).toNatClampNeg 0)) 0)]) (rest := []) ⟨hx, hb, hml, hown, hts⟩ (c_J6_bitCount_0f7a4 l E (mX2_inPhase (rset (rset v 1 (upd (v 1) (x1).toNatClampNeg 2)) 6 (upd (v 6) (x1).toNatClampNeg 0)) 0) _ rfl) (va_cwS 1 hts gX2_giveUp_J6_bitCount_0f7a4 rfl rfl rfl (by decide +kernel) ⟨Nat.le_of_ble_eq_true rfl, Nat.le_of_ble_eq_true rfl⟩) (kPreS hK kP0) rfl rfl hl.1 rfl (lv_room (Nat.le_of_ble_eq_true rfl)) dX2_giveUp_41 ⟨Nat.zero_le _, Nat.zero_le _⟩) ?_
      subst R
      exact W.iret (v := (mJ6_bitCount_0f7a4 (mX2_inPhase (rset (rset v 1 (upd (v 1) (x1).toNatClampNeg 2)) 6 (upd (v 6) (x1).toNatClampNeg 0)) 0))) hx hb hr (fun t ht hW => ⟨rfl, by rw [ht]; exact hP, hS.F ht⟩) hS.2.2 dX2_giveUp_44
    · replace hE := hE.trans (if_neg c_2)
      refine lv_bipush (v := (-5)) hx hb dX2_giveUp_19 (by decide) ?_
      subst R
      exact W.iret (v := (-5)) hx hb hr (fun t ht hW => ⟨rfl, by rw [ht]; exact hP, hS.F ht⟩) hS.2.2 dX2_giveUp_21
  · replace hE := hE.trans (if_pos c_1)
    refine lv_iconst (v := (-1)) hx hb dX2_giveUp_8 (by decide) ?_
    subst R
    exact W.iret (v := (-1)) hx hb hr (fun t ht hW => ⟨rfl, by rw [ht]; exact hP, hS.F ht⟩) hS.2.2 dX2_giveUp_9
def mX2_edgeKeys (v : kG) (x1 : Int32) (x2 : Int32) : Int32 :=
  if x1 = x2 then
    0
  else
    if ((v 1) (x1).toNatClampNeg) = 2 then
      0
    else
      if ((v 1) (x2).toNatClampNeg) = 2 then
        0
      else
        if ((v 1) (x1).toNatClampNeg) = 1 then
          if ((v 2) (x2).toNatClampNeg) ≤ ((v 3) (x1).toNatClampNeg) then
            if ((v 1) (x2).toNatClampNeg) = 1 then
              if ((v 2) (x1).toNatClampNeg) ≤ ((v 3) (x2).toNatClampNeg) then
                (((v 4) (x1).toNatClampNeg) &&& ((v 5) (x2).toNatClampNeg))
              else
                0
            else
              (((v 4) (x1).toNatClampNeg) &&& ((v 5) (x2).toNatClampNeg))
          else
            0
        else
          if ((v 1) (x2).toNatClampNeg) = 1 then
            if ((v 2) (x1).toNatClampNeg) ≤ ((v 3) (x2).toNatClampNeg) then
              (((v 4) (x1).toNatClampNeg) &&& ((v 5) (x2).toNatClampNeg))
            else
              0
          else
            (((v 4) (x1).toNatClampNeg) &&& ((v 5) (x2).toNatClampNeg))
theorem mX2_edgeKeys_s {v : kG} {x1 : Int32} {x2 : Int32} : mX2_edgeKeys v x1 x2 = (
  if x1 = x2 then
    0
  else
    if ((v 1) (x1).toNatClampNeg) = 2 then
      0
    else
      if ((v 1) (x2).toNatClampNeg) = 2 then
        0
      else
        if ((v 1) (x1).toNatClampNeg) = 1 then
          if ((v 2) (x2).toNatClampNeg) ≤ ((v 3) (x1).toNatClampNeg) then
            if ((v 1) (x2).toNatClampNeg) = 1 then
              if ((v 2) (x1).toNatClampNeg) ≤ ((v 3) (x2).toNatClampNeg) then
                (((v 4) (x1).toNatClampNeg) &&& ((v 5) (x2).toNatClampNeg))
              else
                0
            else
              (((v 4) (x1).toNatClampNeg) &&& ((v 5) (x2).toNatClampNeg))
          else
            0
        else
          if ((v 1) (x2).toNatClampNeg) = 1 then
            if ((v 2) (x1).toNatClampNeg) ≤ ((v 3) (x2).toNatClampNeg) then
              (((v 4) (x1).toNatClampNeg) &&& ((v 5) (x2).toNatClampNeg))
            else
              0
          else
            (((v 4) (x1).toNatClampNeg) &&& ((v 5) (x2).toNatClampNeg)) : Int32) := rfl
set_option maxHeartbeats 400000 in
set_option maxRecDepth 100000 in
theorem c_X2_edgeKeys (l : Launch) (E : kE) (a : Nat → Nat) (v : kG) (x1 : Int32) (x2 : Int32) (ht : tOK x1) (ht2 : tOK x2) (R : Int32) (hE : R = mX2_edgeKeys v x1 x2) : Met l yX2_edgeKeys wsX2_edgeKeys ({ frames := 0, cells := 0, slots := 0, locals := 0 }) (kPre E [.ref (a 0), .int x1, .int x2] (wLedx E a (v 0 0) (v 0 1) (v 0 2) (v 1) (v 2) (v 3) (v 4) (v 5) (v 6) (v 7))) (kRi R) 0 0 (fun _ => False) := by
  refine Met.ofW (cc := cX2_edgeKeys) (maxL := 3) (ret := (some .int)) (by decide) rfl ?_
  intro p e s m args below meth c s₁ B hml hv
  obtain ⟨rfl, hK, hP⟩ := hv
  have hx := B.exec
  have hb := B.bytes
  have hr := B.returns
  have hts := atoms_spec (ws := wsX2_edgeKeys) B.pre
  have hown : s.vm.findClass RX2 = some m.cls := findClass_of_methodNamed B.named
  have hlocks := B.notSynchronized
  have hiX2 : ∀ w ∈ wsX20, w ∈ wsX2_edgeKeys := by decide +kernel
  have hf21 := hts (.fieldLink RX2 21 "SkewEdges$Ledger" "phase" "[I") (by decide +kernel)
  have hf25 := hts (.fieldLink RX2 25 "SkewEdges$Ledger" "beganAt" "[I") (by decide +kernel)
  have hf28 := hts (.fieldLink RX2 28 "SkewEdges$Ledger" "committedAt" "[I") (by decide +kernel)
  have hf31 := hts (.fieldLink RX2 31 "SkewEdges$Ledger" "readKeys" "[I") (by decide +kernel)
  have hf34 := hts (.fieldLink RX2 34 "SkewEdges$Ledger" "writtenKeys" "[I") (by decide +kernel)
  have hP : va_P E.1 vwCl (wLedx E a (v 0 0) (v 0 1) (v 0 2) (v 1) (v 2) (v 3) (v 4) (v 5) (v 6) (v 7)) s.heap := hP
  have hl := lv_entry ([.ref (a 0), .int x1, .int x2]) (n := 3) (Nat.le_of_ble_eq_true rfl)
  rw [lg_entry_eq]
  generalize (lg_sl ([.ref (a 0), .int x1, .int x2]) ++ List.replicate (3 - (lg_sl ([.ref (a 0), .int x1, .int x2])).length) Slot.unset).toArray = ls at hl ⊢
  have hl : lv_has ls 3 [(0, .ref (a 0)), (1, .int x1), (2, .int x2)] := hl
  replace hE := hE.trans mX2_edgeKeys_s
  refine lv_iload_n hx hb dX2_edgeKeys_0 rfl (lv_at hl 1 rfl) ?_
  refine lv_iload_n hx hb dX2_edgeKeys_1 rfl (lv_at hl 2 rfl) ?_
  refine lv_icmp_eq (tgt := 25) hx hb dX2_edgeKeys_2 (by decide) (fun c_1 => ?_) (fun c_1 => ?_)
  · replace hE := hE.trans (if_pos c_1)
    refine lv_iconst (v := 0) hx hb dX2_edgeKeys_25 (by decide) ?_
    subst R
    exact W.iret (v := 0) hx hb hr (fun t ht hW => ⟨rfl, ht⟩) (fun _ h => by cases h) dX2_edgeKeys_26
  · replace hE := hE.trans (if_neg c_1)
    refine lv_aload_n hx hb dX2_edgeKeys_5 rfl (lv_at hl 0 rfl) ?_
    refine va_get (D := E.1) (ci := 1) (v := .ref (a 1)) (C := RX2) (T := TX2) (N := 10) hx hb hts hiX2 hown hK.1 hP 0 rfl rfl 3 (by decide) hf21 (fun _ h9 => h9) rfl dX2_edgeKeys_6 ?_
    refine lv_iload_n hx hb dX2_edgeKeys_9 rfl (lv_at hl 1 rfl) ?_
    refine va_iald (D := E.1) hx hb hK.1 hP 1 0 rfl rfl (tOK.in12 (by assumption)) dX2_edgeKeys_10 ?_
    refine lv_iconst (v := 2) hx hb dX2_edgeKeys_11 (by decide) ?_
    refine lv_icmp_eq (tgt := 25) hx hb dX2_edgeKeys_12 (by decide) (fun c_2 => ?_) (fun c_2 => ?_)
    · replace hE := hE.trans (if_pos c_2)
      refine lv_iconst (v := 0) hx hb dX2_edgeKeys_25 (by decide) ?_
      subst R
      exact W.iret (v := 0) hx hb hr (fun t ht hW => ⟨rfl, ht⟩) (fun _ h => by cases h) dX2_edgeKeys_26
    · replace hE := hE.trans (if_neg c_2)
      refine lv_aload_n hx hb dX2_edgeKeys_15 rfl (lv_at hl 0 rfl) ?_
      refine va_get (D := E.1) (ci := 1) (v := .ref (a 1)) (C := RX2) (T := TX2) (N := 10) hx hb hts hiX2 hown hK.1 hP 0 rfl rfl 3 (by decide) hf21 (fun _ h9 => h9) rfl dX2_edgeKeys_16 ?_
      refine lv_iload_n hx hb dX2_edgeKeys_19 rfl (lv_at hl 2 rfl) ?_
      refine va_iald (D := E.1) hx hb hK.1 hP 1 0 rfl rfl (tOK.in12 (by assumption)) dX2_edgeKeys_20 ?_
      refine lv_iconst (v := 2) hx hb dX2_edgeKeys_21 (by decide) ?_
      refine lv_icmp_ne (tgt := 27) hx hb dX2_edgeKeys_22 (by decide) (fun c_3 => ?_) (fun c_3 => ?_)
      · replace hE := hE.trans (if_neg c_3)
        refine lv_aload_n hx hb dX2_edgeKeys_27 rfl (lv_at hl 0 rfl) ?_
        refine va_get (D := E.1) (ci := 1) (v := .ref (a 1)) (C := RX2) (T := TX2) (N := 10) hx hb hts hiX2 hown hK.1 hP 0 rfl rfl 3 (by decide) hf21 (fun _ h9 => h9) rfl dX2_edgeKeys_28 ?_
        refine lv_iload_n hx hb dX2_edgeKeys_31 rfl (lv_at hl 1 rfl) ?_
        refine va_iald (D := E.1) hx hb hK.1 hP 1 0 rfl rfl (tOK.in12 (by assumption)) dX2_edgeKeys_32 ?_
        refine lv_iconst (v := 1) hx hb dX2_edgeKeys_33 (by decide) ?_
        refine lv_icmp_ne (tgt := 54) hx hb dX2_edgeKeys_34 (by decide) (fun c_4 => ?_) (fun c_4 => ?_)
        · replace hE := hE.trans (if_neg c_4)
          refine lv_aload_n hx hb dX2_edgeKeys_54 rfl (lv_at hl 0 rfl) ?_
          refine va_get (D := E.1) (ci := 1) (v := .ref (a 1)) (C := RX2) (T := TX2) (N := 10) hx hb hts hiX2 hown hK.1 hP 0 rfl rfl 3 (by decide) hf21 (fun _ h9 => h9) rfl dX2_edgeKeys_55 ?_
          refine lv_iload_n hx hb dX2_edgeKeys_58 rfl (lv_at hl 2 rfl) ?_
          refine va_iald (D := E.1) hx hb hK.1 hP 1 0 rfl rfl (tOK.in12 (by assumption)) dX2_edgeKeys_59 ?_
          refine lv_iconst (v := 1) hx hb dX2_edgeKeys_60 (by decide) ?_
          refine lv_icmp_ne (tgt := 81) hx hb dX2_edgeKeys_61 (by decide) (fun c_5 => ?_) (fun c_5 => ?_)
          · replace hE := hE.trans (if_neg c_5)
            refine lv_aload_n hx hb dX2_edgeKeys_81 rfl (lv_at hl 0 rfl) ?_
            refine va_get (D := E.1) (ci := 1) (v := .ref (a 4)) (C := RX2) (T := TX2) (N := 10) hx hb hts hiX2 hown hK.1 hP 0 rfl rfl 6 (by decide) hf31 (fun _ h9 => h9) rfl dX2_edgeKeys_82 ?_
            refine lv_iload_n hx hb dX2_edgeKeys_85 rfl (lv_at hl 1 rfl) ?_
            refine va_iald (D := E.1) hx hb hK.1 hP 4 0 rfl rfl (tOK.in12 (by assumption)) dX2_edgeKeys_86 ?_
            refine lv_aload_n hx hb dX2_edgeKeys_87 rfl (lv_at hl 0 rfl) ?_
            refine va_get (D := E.1) (ci := 1) (v := .ref (a 5)) (C := RX2) (T := TX2) (N := 10) hx hb hts hiX2 hown hK.1 hP 0 rfl rfl 7 (by decide) hf34 (fun _ h9 => h9) rfl dX2_edgeKeys_88 ?_
            refine lv_iload_n hx hb dX2_edgeKeys_91 rfl (lv_at hl 2 rfl) ?_
            refine va_iald (D := E.1) hx hb hK.1 hP 5 0 rfl rfl (tOK.in12 (by assumption)) dX2_edgeKeys_92 ?_
            refine lv_iand hx hb dX2_edgeKeys_93 ?_
            subst R
            exact W.iret (v := (((v 4) (x1).toNatClampNeg) &&& ((v 5) (x2).toNatClampNeg))) hx hb hr (fun t ht hW => ⟨rfl, ht⟩) (fun _ h => by cases h) dX2_edgeKeys_94
          · replace hE := hE.trans (if_pos c_5)
            refine lv_aload_n hx hb dX2_edgeKeys_64 rfl (lv_at hl 0 rfl) ?_
            refine va_get (D := E.1) (ci := 1) (v := .ref (a 3)) (C := RX2) (T := TX2) (N := 10) hx hb hts hiX2 hown hK.1 hP 0 rfl rfl 5 (by decide) hf28 (fun _ h9 => h9) rfl dX2_edgeKeys_65 ?_
            refine lv_iload_n hx hb dX2_edgeKeys_68 rfl (lv_at hl 2 rfl) ?_
            refine va_iald (D := E.1) hx hb hK.1 hP 3 0 rfl rfl (tOK.in12 (by assumption)) dX2_edgeKeys_69 ?_
            refine lv_aload_n hx hb dX2_edgeKeys_70 rfl (lv_at hl 0 rfl) ?_
            refine va_get (D := E.1) (ci := 1) (v := .ref (a 2)) (C := RX2) (T := TX2) (N := 10) hx hb hts hiX2 hown hK.1 hP 0 rfl rfl 4 (by decide) hf25 (fun _ h9 => h9) rfl dX2_edgeKeys_71 ?_
            refine lv_iload_n hx hb dX2_edgeKeys_74 rfl (lv_at hl 1 rfl) ?_
            refine va_iald (D := E.1) hx hb hK.1 hP 2 0 rfl rfl (tOK.in12 (by assumption)) dX2_edgeKeys_75 ?_
            refine lv_icmp_ge (tgt := 81) hx hb dX2_edgeKeys_76 (by decide) (fun c_6 => ?_) (fun c_6 => ?_)
            · replace hE := hE.trans (if_pos c_6)
              refine lv_aload_n hx hb dX2_edgeKeys_81 rfl (lv_at hl 0 rfl) ?_
              refine va_get (D := E.1) (ci := 1) (v := .ref (a 4)) (C := RX2) (T := TX2) (N := 10) hx hb hts hiX2 hown hK.1 hP 0 rfl rfl 6 (by decide) hf31 (fun _ h9 => h9) rfl dX2_edgeKeys_82 ?_
              refine lv_iload_n hx hb dX2_edgeKeys_85 rfl (lv_at hl 1 rfl) ?_
              refine va_iald (D := E.1) hx hb hK.1 hP 4 0 rfl rfl (tOK.in12 (by assumption)) dX2_edgeKeys_86 ?_
              refine lv_aload_n hx hb dX2_edgeKeys_87 rfl (lv_at hl 0 rfl) ?_
              refine va_get (D := E.1) (ci := 1) (v := .ref (a 5)) (C := RX2) (T := TX2) (N := 10) hx hb hts hiX2 hown hK.1 hP 0 rfl rfl 7 (by decide) hf34 (fun _ h9 => h9) rfl dX2_edgeKeys_88 ?_
              refine lv_iload_n hx hb dX2_edgeKeys_91 rfl (lv_at hl 2 rfl) ?_
              refine va_iald (D := E.1) hx hb hK.1 hP 5 0 rfl rfl (tOK.in12 (by assumption)) dX2_edgeKeys_92 ?_
              refine lv_iand hx hb dX2_edgeKeys_93 ?_
              subst R
              exact W.iret (v := (((v 4) (x1).toNatClampNeg) &&& ((v 5) (x2).toNatClampNeg))) hx hb hr (fun t ht hW => ⟨rfl, ht⟩) (fun _ h => by cases h) dX2_edgeKeys_94
            · replace hE := hE.trans (if_neg c_6)
              refine lv_iconst (v := 0) hx hb dX2_edgeKeys_79 (by decide) ?_
              subst R
              exact W.iret (v := 0) hx hb hr (fun t ht hW => ⟨rfl, ht⟩) (fun _ h => by cases h) dX2_edgeKeys_80
        · replace hE := hE.trans (if_pos c_4)
          refine lv_aload_n hx hb dX2_edgeKeys_37 rfl (lv_at hl 0 rfl) ?_
          refine va_get (D := E.1) (ci := 1) (v := .ref (a 3)) (C := RX2) (T := TX2) (N := 10) hx hb hts hiX2 hown hK.1 hP 0 rfl rfl 5 (by decide) hf28 (fun _ h9 => h9) rfl dX2_edgeKeys_38 ?_
          refine lv_iload_n hx hb dX2_edgeKeys_41 rfl (lv_at hl 1 rfl) ?_
          refine va_iald (D := E.1) hx hb hK.1 hP 3 0 rfl rfl (tOK.in12 (by assumption)) dX2_edgeKeys_42 ?_
          refine lv_aload_n hx hb dX2_edgeKeys_43 rfl (lv_at hl 0 rfl) ?_
          refine va_get (D := E.1) (ci := 1) (v := .ref (a 2)) (C := RX2) (T := TX2) (N := 10) hx hb hts hiX2 hown hK.1 hP 0 rfl rfl 4 (by decide) hf25 (fun _ h9 => h9) rfl dX2_edgeKeys_44 ?_
          refine lv_iload_n hx hb dX2_edgeKeys_47 rfl (lv_at hl 2 rfl) ?_
          refine va_iald (D := E.1) hx hb hK.1 hP 2 0 rfl rfl (tOK.in12 (by assumption)) dX2_edgeKeys_48 ?_
          refine lv_icmp_ge (tgt := 54) hx hb dX2_edgeKeys_49 (by decide) (fun c_7 => ?_) (fun c_7 => ?_)
          · replace hE := hE.trans (if_pos c_7)
            refine lv_aload_n hx hb dX2_edgeKeys_54 rfl (lv_at hl 0 rfl) ?_
            refine va_get (D := E.1) (ci := 1) (v := .ref (a 1)) (C := RX2) (T := TX2) (N := 10) hx hb hts hiX2 hown hK.1 hP 0 rfl rfl 3 (by decide) hf21 (fun _ h9 => h9) rfl dX2_edgeKeys_55 ?_
            refine lv_iload_n hx hb dX2_edgeKeys_58 rfl (lv_at hl 2 rfl) ?_
            refine va_iald (D := E.1) hx hb hK.1 hP 1 0 rfl rfl (tOK.in12 (by assumption)) dX2_edgeKeys_59 ?_
            refine lv_iconst (v := 1) hx hb dX2_edgeKeys_60 (by decide) ?_
            refine lv_icmp_ne (tgt := 81) hx hb dX2_edgeKeys_61 (by decide) (fun c_8 => ?_) (fun c_8 => ?_)
            · replace hE := hE.trans (if_neg c_8)
              refine lv_aload_n hx hb dX2_edgeKeys_81 rfl (lv_at hl 0 rfl) ?_
              refine va_get (D := E.1) (ci := 1) (v := .ref (a 4)) (C := RX2) (T := TX2) (N := 10) hx hb hts hiX2 hown hK.1 hP 0 rfl rfl 6 (by decide) hf31 (fun _ h9 => h9) rfl dX2_edgeKeys_82 ?_
              refine lv_iload_n hx hb dX2_edgeKeys_85 rfl (lv_at hl 1 rfl) ?_
              refine va_iald (D := E.1) hx hb hK.1 hP 4 0 rfl rfl (tOK.in12 (by assumption)) dX2_edgeKeys_86 ?_
              refine lv_aload_n hx hb dX2_edgeKeys_87 rfl (lv_at hl 0 rfl) ?_
              refine va_get (D := E.1) (ci := 1) (v := .ref (a 5)) (C := RX2) (T := TX2) (N := 10) hx hb hts hiX2 hown hK.1 hP 0 rfl rfl 7 (by decide) hf34 (fun _ h9 => h9) rfl dX2_edgeKeys_88 ?_
              refine lv_iload_n hx hb dX2_edgeKeys_91 rfl (lv_at hl 2 rfl) ?_
              refine va_iald (D := E.1) hx hb hK.1 hP 5 0 rfl rfl (tOK.in12 (by assumption)) dX2_edgeKeys_92 ?_
              refine lv_iand hx hb dX2_edgeKeys_93 ?_
              subst R
              exact W.iret (v := (((v 4) (x1).toNatClampNeg) &&& ((v 5) (x2).toNatClampNeg))) hx hb hr (fun t ht hW => ⟨rfl, ht⟩) (fun _ h => by cases h) dX2_edgeKeys_94
            · replace hE := hE.trans (if_pos c_8)
              refine lv_aload_n hx hb dX2_edgeKeys_64 rfl (lv_at hl 0 rfl) ?_
              refine va_get (D := E.1) (ci := 1) (v := .ref (a 3)) (C := RX2) (T := TX2) (N := 10) hx hb hts hiX2 hown hK.1 hP 0 rfl rfl 5 (by decide) hf28 (fun _ h9 => h9) rfl dX2_edgeKeys_65 ?_
              refine lv_iload_n hx hb dX2_edgeKeys_68 rfl (lv_at hl 2 rfl) ?_
              refine va_iald (D := E.1) hx hb hK.1 hP 3 0 rfl rfl (tOK.in12 (by assumption)) dX2_edgeKeys_69 ?_
              refine lv_aload_n hx hb dX2_edgeKeys_70 rfl (lv_at hl 0 rfl) ?_
              refine va_get (D := E.1) (ci := 1) (v := .ref (a 2)) (C := RX2) (T := TX2) (N := 10) hx hb hts hiX2 hown hK.1 hP 0 rfl rfl 4 (by decide) hf25 (fun _ h9 => h9) rfl dX2_edgeKeys_71 ?_
              refine lv_iload_n hx hb dX2_edgeKeys_74 rfl (lv_at hl 1 rfl) ?_
              refine va_iald (D := E.1) hx hb hK.1 hP 2 0 rfl rfl (tOK.in12 (by assumption)) dX2_edgeKeys_75 ?_
              refine lv_icmp_ge (tgt := 81) hx hb dX2_edgeKeys_76 (by decide) (fun c_9 => ?_) (fun c_9 => ?_)
              · replace hE := hE.trans (if_pos c_9)
                refine lv_aload_n hx hb dX2_edgeKeys_81 rfl (lv_at hl 0 rfl) ?_
                refine va_get (D := E.1) (ci := 1) (v := .ref (a 4)) (C := RX2) (T := TX2) (N := 10) hx hb hts hiX2 hown hK.1 hP 0 rfl rfl 6 (by decide) hf31 (fun _ h9 => h9) rfl dX2_edgeKeys_82 ?_
                refine lv_iload_n hx hb dX2_edgeKeys_85 rfl (lv_at hl 1 rfl) ?_
                refine va_iald (D := E.1) hx hb hK.1 hP 4 0 rfl rfl (tOK.in12 (by assumption)) dX2_edgeKeys_86 ?_
                refine lv_aload_n hx hb dX2_edgeKeys_87 rfl (lv_at hl 0 rfl) ?_
                refine va_get (D := E.1) (ci := 1) (v := .ref (a 5)) (C := RX2) (T := TX2) (N := 10) hx hb hts hiX2 hown hK.1 hP 0 rfl rfl 7 (by decide) hf34 (fun _ h9 => h9) rfl dX2_edgeKeys_88 ?_
                refine lv_iload_n hx hb dX2_edgeKeys_91 rfl (lv_at hl 2 rfl) ?_
                refine va_iald (D := E.1) hx hb hK.1 hP 5 0 rfl rfl (tOK.in12 (by assumption)) dX2_edgeKeys_92 ?_
                refine lv_iand hx hb dX2_edgeKeys_93 ?_
                subst R
                exact W.iret (v := (((v 4) (x1).toNatClampNeg) &&& ((v 5) (x2).toNatClampNeg))) hx hb hr (fun t ht hW => ⟨rfl, ht⟩) (fun _ h => by cases h) dX2_edgeKeys_94
              · replace hE := hE.trans (if_neg c_9)
                refine lv_iconst (v := 0) hx hb dX2_edgeKeys_79 (by decide) ?_
                subst R
                exact W.iret (v := 0) hx hb hr (fun t ht hW => ⟨rfl, ht⟩) (fun _ h => by cases h) dX2_edgeKeys_80
          · replace hE := hE.trans (if_neg c_7)
            refine lv_iconst (v := 0) hx hb dX2_edgeKeys_52 (by decide) ?_
            subst R
            exact W.iret (v := 0) hx hb hr (fun t ht hW => ⟨rfl, ht⟩) (fun _ h => by cases h) dX2_edgeKeys_53
      · replace hE := hE.trans (if_pos c_3)
        refine lv_iconst (v := 0) hx hb dX2_edgeKeys_25 (by decide) ?_
        subst R
        exact W.iret (v := 0) hx hb hr (fun t ht hW => ⟨rfl, ht⟩) (fun _ h => by cases h) dX2_edgeKeys_26
def mX2_edgesFrom_L4 (v : kG) (x1 : Int32) : Nat → Int32 → Nat → (Int32)
  | 0, _, _ => 0
  | n4 + 1, x4_2, i4 =>
    if (v 0 2) ≤ (nI i4) then
      x4_2
    else
      if (mX2_edgeKeys v x1 (nI i4)) = 0 then
        mX2_edgesFrom_L4 v x1 n4 x4_2 (i4 + 1)
      else
        mX2_edgesFrom_L4 v x1 n4 (x4_2 ||| (1 <<< ((nI i4) &&& 31))) (i4 + 1)
theorem mX2_edgesFrom_L4_s {v : kG} {x1 : Int32} {n4 : Nat} {x4_2 : Int32} {i4 : Nat} : mX2_edgesFrom_L4 v x1 (n4 + 1) x4_2 i4 = (
    if (v 0 2) ≤ (nI i4) then
      x4_2
    else
      if (mX2_edgeKeys v x1 (nI i4)) = 0 then
        mX2_edgesFrom_L4 v x1 n4 x4_2 (i4 + 1)
      else
        mX2_edgesFrom_L4 v x1 n4 (x4_2 ||| (1 <<< ((nI i4) &&& 31))) (i4 + 1) : Int32) := rfl
def mX2_edgesFrom (v : kG) (x1 : Int32) : Int32 :=
  mX2_edgesFrom_L4 v x1 13 0 0
theorem mX2_edgesFrom_s {v : kG} {x1 : Int32} : mX2_edgesFrom v x1 = (
  mX2_edgesFrom_L4 v x1 13 0 0 : Int32) := rfl
set_option maxHeartbeats 400000 in
set_option maxRecDepth 100000 in
theorem c_X2_edgesFrom (l : Launch) (E : kE) (a : Nat → Nat) (v : kG) (x1 : Int32) (hn : nOK (v 0 2)) (ht : tOK x1) (R : Int32) (hE : R = mX2_edgesFrom v x1) : Met l yX2_edgesFrom wsX2_edgesFrom ({ frames := 1, cells := 0, slots := 0, locals := 22 }) (kPre E [.ref (a 0), .int x1] (wLedx E a (v 0 0) (v 0 1) (v 0 2) (v 1) (v 2) (v 3) (v 4) (v 5) (v 6) (v 7))) (kRi R) 0 0 (fun _ => False) := by
  refine Met.ofW (cc := cX2_edgesFrom) (maxL := 4) (ret := (some .int)) (by decide) rfl ?_
  intro p e s m args below meth c s₁ B hml hv
  obtain ⟨rfl, hK, hP⟩ := hv
  have hx := B.exec
  have hb := B.bytes
  have hr := B.returns
  have hts := atoms_spec (ws := wsX2_edgesFrom) B.pre
  have hown : s.vm.findClass RX2 = some m.cls := findClass_of_methodNamed B.named
  have hlocks := B.notSynchronized
  have hiX2 : ∀ w ∈ wsX20, w ∈ wsX2_edgesFrom := by decide +kernel
  have hf18 := hts (.fieldLink RX2 18 "SkewEdges$Ledger" "total" "I") (by decide +kernel)
  have hP : va_P E.1 vwCl (wLedx E a (v 0 0) (v 0 1) (v 0 2) (v 1) (v 2) (v 3) (v 4) (v 5) (v 6) (v 7)) s.heap := hP
  have hl := lv_entry ([.ref (a 0), .int x1]) (n := 4) (Nat.le_of_ble_eq_true rfl)
  rw [lg_entry_eq]
  generalize (lg_sl ([.ref (a 0), .int x1]) ++ List.replicate (4 - (lg_sl ([.ref (a 0), .int x1])).length) Slot.unset).toArray = ls at hl ⊢
  have hl : lv_has ls 4 [(0, .ref (a 0)), (1, .int x1)] := hl
  replace hE := hE.trans mX2_edgesFrom_s
  refine lv_iconst (v := 0) hx hb dX2_edgesFrom_0 (by decide) ?_
  refine lv_istore_n (lv' := [(2, .int 0), (0, .ref (a 0)), (1, .int x1)]) hx hb dX2_edgesFrom_1 rfl hl (by decide) rfl (fun ls hl => ?_)
  refine lv_iconst (v := 0) hx hb dX2_edgesFrom_2 (by decide) ?_
  refine lv_istore_n (lv' := [(3, .int 0), (2, .int 0), (0, .ref (a 0)), (1, .int x1)]) hx hb dX2_edgesFrom_3 rfl hl (by decide) rfl (fun ls hl => ?_)
  have lp4 : ∀ (n4 : Nat) (x4_2 : Int32) (i4 : Nat), (12 < i4 + n4) → (i4 ≤ 12) → ∀ ls : Array Slot, lv_has ls 4 [(3, .int (nI i4)), (2, .int x4_2), (0, .ref (a 0)), (1, .int x1)] → R = mX2_edgesFrom_L4 v x1 n4 x4_2 i4 → W p l e ({ frames := 1, cells := 0, slots := 0, locals := 22 }) s m ([.ref (a 0), .int x1] : List Value).toArray below meth c s.heap [] 0 0 (MQ below (kRi R) ([.ref (a 0), .int x1] : List Value).toArray s 0 0 (fun _ => False)) (F0 m 4 ls []) := by
    clear hE
    intro n4
    induction n4 with
    | zero =>
      intro x4_2 i4 hm4 hi4 ls hl hE
      exact absurd hm4 (by omega)
    | succ n4 ih4 =>
      intro x4_2 i4 hm4 hi4 ls hl hE
      replace hE := hE.trans mX2_edgesFrom_L4_s
      refine lv_iload_n hx hb dX2_edgesFrom_4 rfl (lv_at hl 0 rfl) ?_
      refine lv_aload_n hx hb dX2_edgesFrom_5 rfl (lv_at hl 2 rfl) ?_
      refine va_get (D := E.1) (ci := 1) (v := .int (v 0 2)) (C := RX2) (T := TX2) (N := 10) hx hb hts hiX2 hown hK.1 hP 0 rfl rfl 2 (by decide) hf18 (fun _ h9 => h9) rfl dX2_edgesFrom_6 ?_
      refine lv_icmp_ge (tgt := 33) hx hb dX2_edgesFrom_9 (by decide) (fun c_1 => ?_) (fun c_1 => ?_)
      · replace hE := hE.trans (if_pos c_1)
        refine lv_iload_n hx hb dX2_edgesFrom_33 rfl (lv_at hl 1 rfl) ?_
        subst R
        exact W.iret (v := x4_2) hx hb hr (fun t ht hW => ⟨rfl, ht⟩) (fun _ h => by cases h) dX2_edgesFrom_34
      · replace hE := hE.trans (if_neg c_1)
        have hbc_1 : i4 < 12 := nOK.lt (by assumption) (by omega) c_1
        refine lv_aload_n hx hb dX2_edgesFrom_12 rfl (lv_at hl 2 rfl) ?_
        refine lv_iload_n hx hb dX2_edgesFrom_13 rfl (lv_at hl 3 rfl) ?_
        refine lv_iload_n hx hb dX2_edgesFrom_14 rfl (lv_at hl 0 rfl) ?_
        refine kCallRi (va_runV (As := [.int x1, .int (nI i4)]) (rest := []) ⟨hx, hb, hml, hown, hts⟩ (c_X2_edgeKeys l E a v x1 (nI i4) (by first | assumption | exact tOK.nI (by omega)) (by first | assumption | exact tOK.nI (by omega)) _ rfl) (cwV 2 hts gX2_edgesFrom_X2_edgeKeys rfl rfl rfl (by decide +kernel) ⟨Nat.le_of_ble_eq_true rfl, Nat.le_of_ble_eq_true rfl⟩) (kPreV hK hP hP (q0 := 0) rfl rfl) rfl rfl hl.1 rfl (lv_room (Nat.le_of_ble_eq_true rfl)) dX2_edgesFrom_15 ⟨Nat.zero_le _, Nat.zero_le _⟩) ?_
        refine lv_if_eq (tgt := 27) hx hb dX2_edgesFrom_18 (by decide) (fun c_2 => ?_) (fun c_2 => ?_)
        · replace hE := hE.trans (if_pos c_2)
          refine lv_iinc (v := (nI (i4 + 1))) (lv' := [(3, .int (nI (i4 + 1))), (2, .int x4_2), (0, .ref (a 0)), (1, .int x1)]) hx hb dX2_edgesFrom_27 hl (k := 0) rfl (nI_1 i4) (by decide) rfl (fun ls hl => ?_)
          refine lv_goto (tgt := 4) hx hb dX2_edgesFrom_30 (by decide) ?_
          exact ih4 x4_2 (i4 + 1) (by omega) (by omega) ls (lv_sub hl [0, 1, 2, 3] rfl) hE
        · replace hE := hE.trans (if_neg c_2)
          refine lv_iload_n hx hb dX2_edgesFrom_21 rfl (lv_at hl 1 rfl) ?_
          refine lv_iconst (v := 1) hx hb dX2_edgesFrom_22 (by decide) ?_
          refine lv_iload_n hx hb dX2_edgesFrom_23 rfl (lv_at hl 0 rfl) ?_
          refine lv_ishl hx hb dX2_edgesFrom_24 ?_
          refine lv_ior hx hb dX2_edgesFrom_25 ?_
          refine lv_istore_n (lv' := [(2, .int (x4_2 ||| (1 <<< ((nI i4) &&& 31)))), (3, .int (nI i4)), (0, .ref (a 0)), (1, .int x1)]) hx hb dX2_edgesFrom_26 rfl hl (by decide) rfl (fun ls hl => ?_)
          refine lv_iinc (v := (nI (i4 + 1))) (lv' := [(3, .int (nI (i4 + 1))), (2, .int (x4_2 ||| (1 <<< ((nI i4) &&& 31)))), (0, .ref (a 0)), (1, .int x1)]) hx hb dX2_edgesFrom_27 hl (k := 1) rfl (nI_1 i4) (by decide) rfl (fun ls hl => ?_)
          refine lv_goto (tgt := 4) hx hb dX2_edgesFrom_30 (by decide) ?_
          exact ih4 (x4_2 ||| (1 <<< ((nI i4) &&& 31))) (i4 + 1) (by omega) (by omega) ls (lv_sub hl [0, 1, 2, 3] rfl) hE
  exact lp4 13 0 0 (by omega) (by omega) ls (lv_sub hl [0, 1, 2, 3] rfl) hE
def mX2_edgesTo_L4 (v : kG) (x1 : Int32) : Nat → Int32 → Nat → (Int32)
  | 0, _, _ => 0
  | n4 + 1, x4_2, i4 =>
    if (v 0 2) ≤ (nI i4) then
      x4_2
    else
      if (mX2_edgeKeys v (nI i4) x1) = 0 then
        mX2_edgesTo_L4 v x1 n4 x4_2 (i4 + 1)
      else
        mX2_edgesTo_L4 v x1 n4 (x4_2 ||| (1 <<< ((nI i4) &&& 31))) (i4 + 1)
theorem mX2_edgesTo_L4_s {v : kG} {x1 : Int32} {n4 : Nat} {x4_2 : Int32} {i4 : Nat} : mX2_edgesTo_L4 v x1 (n4 + 1) x4_2 i4 = (
    if (v 0 2) ≤ (nI i4) then
      x4_2
    else
      if (mX2_edgeKeys v (nI i4) x1) = 0 then
        mX2_edgesTo_L4 v x1 n4 x4_2 (i4 + 1)
      else
        mX2_edgesTo_L4 v x1 n4 (x4_2 ||| (1 <<< ((nI i4) &&& 31))) (i4 + 1) : Int32) := rfl
def mX2_edgesTo (v : kG) (x1 : Int32) : Int32 :=
  mX2_edgesTo_L4 v x1 13 0 0
theorem mX2_edgesTo_s {v : kG} {x1 : Int32} : mX2_edgesTo v x1 = (
  mX2_edgesTo_L4 v x1 13 0 0 : Int32) := rfl
set_option maxHeartbeats 400000 in
set_option maxRecDepth 100000 in
theorem c_X2_edgesTo (l : Launch) (E : kE) (a : Nat → Nat) (v : kG) (x1 : Int32) (hn : nOK (v 0 2)) (ht : tOK x1) (R : Int32) (hE : R = mX2_edgesTo v x1) : Met l yX2_edgesTo wsX2_edgesTo ({ frames := 1, cells := 0, slots := 0, locals := 22 }) (kPre E [.ref (a 0), .int x1] (wLedx E a (v 0 0) (v 0 1) (v 0 2) (v 1) (v 2) (v 3) (v 4) (v 5) (v 6) (v 7))) (kRi R) 0 0 (fun _ => False) := by
  refine Met.ofW (cc := cX2_edgesTo) (maxL := 4) (ret := (some .int)) (by decide) rfl ?_
  intro p e s m args below meth c s₁ B hml hv
  obtain ⟨rfl, hK, hP⟩ := hv
  have hx := B.exec
  have hb := B.bytes
  have hr := B.returns
  have hts := atoms_spec (ws := wsX2_edgesTo) B.pre
  have hown : s.vm.findClass RX2 = some m.cls := findClass_of_methodNamed B.named
  have hlocks := B.notSynchronized
  have hiX2 : ∀ w ∈ wsX20, w ∈ wsX2_edgesTo := by decide +kernel
  have hf18 := hts (.fieldLink RX2 18 "SkewEdges$Ledger" "total" "I") (by decide +kernel)
  have hP : va_P E.1 vwCl (wLedx E a (v 0 0) (v 0 1) (v 0 2) (v 1) (v 2) (v 3) (v 4) (v 5) (v 6) (v 7)) s.heap := hP
  have hl := lv_entry ([.ref (a 0), .int x1]) (n := 4) (Nat.le_of_ble_eq_true rfl)
  rw [lg_entry_eq]
  generalize (lg_sl ([.ref (a 0), .int x1]) ++ List.replicate (4 - (lg_sl ([.ref (a 0), .int x1])).length) Slot.unset).toArray = ls at hl ⊢
  have hl : lv_has ls 4 [(0, .ref (a 0)), (1, .int x1)] := hl
  replace hE := hE.trans mX2_edgesTo_s
  refine lv_iconst (v := 0) hx hb dX2_edgesTo_0 (by decide) ?_
  refine lv_istore_n (lv' := [(2, .int 0), (0, .ref (a 0)), (1, .int x1)]) hx hb dX2_edgesTo_1 rfl hl (by decide) rfl (fun ls hl => ?_)
  refine lv_iconst (v := 0) hx hb dX2_edgesTo_2 (by decide) ?_
  refine lv_istore_n (lv' := [(3, .int 0), (2, .int 0), (0, .ref (a 0)), (1, .int x1)]) hx hb dX2_edgesTo_3 rfl hl (by decide) rfl (fun ls hl => ?_)
  have lp4 : ∀ (n4 : Nat) (x4_2 : Int32) (i4 : Nat), (12 < i4 + n4) → (i4 ≤ 12) → ∀ ls : Array Slot, lv_has ls 4 [(3, .int (nI i4)), (2, .int x4_2), (0, .ref (a 0)), (1, .int x1)] → R = mX2_edgesTo_L4 v x1 n4 x4_2 i4 → W p l e ({ frames := 1, cells := 0, slots := 0, locals := 22 }) s m ([.ref (a 0), .int x1] : List Value).toArray below meth c s.heap [] 0 0 (MQ below (kRi R) ([.ref (a 0), .int x1] : List Value).toArray s 0 0 (fun _ => False)) (F0 m 4 ls []) := by
    clear hE
    intro n4
    induction n4 with
    | zero =>
      intro x4_2 i4 hm4 hi4 ls hl hE
      exact absurd hm4 (by omega)
    | succ n4 ih4 =>
      intro x4_2 i4 hm4 hi4 ls hl hE
      replace hE := hE.trans mX2_edgesTo_L4_s
      refine lv_iload_n hx hb dX2_edgesTo_4 rfl (lv_at hl 0 rfl) ?_
      refine lv_aload_n hx hb dX2_edgesTo_5 rfl (lv_at hl 2 rfl) ?_
      refine va_get (D := E.1) (ci := 1) (v := .int (v 0 2)) (C := RX2) (T := TX2) (N := 10) hx hb hts hiX2 hown hK.1 hP 0 rfl rfl 2 (by decide) hf18 (fun _ h9 => h9) rfl dX2_edgesTo_6 ?_
      refine lv_icmp_ge (tgt := 33) hx hb dX2_edgesTo_9 (by decide) (fun c_1 => ?_) (fun c_1 => ?_)
      · replace hE := hE.trans (if_pos c_1)
        refine lv_iload_n hx hb dX2_edgesTo_33 rfl (lv_at hl 1 rfl) ?_
        subst R
        exact W.iret (v := x4_2) hx hb hr (fun t ht hW => ⟨rfl, ht⟩) (fun _ h => by cases h) dX2_edgesTo_34
      · replace hE := hE.trans (if_neg c_1)
        have hbc_1 : i4 < 12 := nOK.lt (by assumption) (by omega) c_1
        refine lv_aload_n hx hb dX2_edgesTo_12 rfl (lv_at hl 2 rfl) ?_
        refine lv_iload_n hx hb dX2_edgesTo_13 rfl (lv_at hl 0 rfl) ?_
        refine lv_iload_n hx hb dX2_edgesTo_14 rfl (lv_at hl 3 rfl) ?_
        refine kCallRi (va_runV (As := [.int (nI i4), .int x1]) (rest := []) ⟨hx, hb, hml, hown, hts⟩ (c_X2_edgeKeys l E a v (nI i4) x1 (by first | assumption | exact tOK.nI (by omega)) (by first | assumption | exact tOK.nI (by omega)) _ rfl) (cwV 2 hts gX2_edgesTo_X2_edgeKeys rfl rfl rfl (by decide +kernel) ⟨Nat.le_of_ble_eq_true rfl, Nat.le_of_ble_eq_true rfl⟩) (kPreV hK hP hP (q0 := 0) rfl rfl) rfl rfl hl.1 rfl (lv_room (Nat.le_of_ble_eq_true rfl)) dX2_edgesTo_15 ⟨Nat.zero_le _, Nat.zero_le _⟩) ?_
        refine lv_if_eq (tgt := 27) hx hb dX2_edgesTo_18 (by decide) (fun c_2 => ?_) (fun c_2 => ?_)
        · replace hE := hE.trans (if_pos c_2)
          refine lv_iinc (v := (nI (i4 + 1))) (lv' := [(3, .int (nI (i4 + 1))), (2, .int x4_2), (0, .ref (a 0)), (1, .int x1)]) hx hb dX2_edgesTo_27 hl (k := 0) rfl (nI_1 i4) (by decide) rfl (fun ls hl => ?_)
          refine lv_goto (tgt := 4) hx hb dX2_edgesTo_30 (by decide) ?_
          exact ih4 x4_2 (i4 + 1) (by omega) (by omega) ls (lv_sub hl [0, 1, 2, 3] rfl) hE
        · replace hE := hE.trans (if_neg c_2)
          refine lv_iload_n hx hb dX2_edgesTo_21 rfl (lv_at hl 1 rfl) ?_
          refine lv_iconst (v := 1) hx hb dX2_edgesTo_22 (by decide) ?_
          refine lv_iload_n hx hb dX2_edgesTo_23 rfl (lv_at hl 0 rfl) ?_
          refine lv_ishl hx hb dX2_edgesTo_24 ?_
          refine lv_ior hx hb dX2_edgesTo_25 ?_
          refine lv_istore_n (lv' := [(2, .int (x4_2 ||| (1 <<< ((nI i4) &&& 31)))), (3, .int (nI i4)), (0, .ref (a 0)), (1, .int x1)]) hx hb dX2_edgesTo_26 rfl hl (by decide) rfl (fun ls hl => ?_)
          refine lv_iinc (v := (nI (i4 + 1))) (lv' := [(3, .int (nI (i4 + 1))), (2, .int (x4_2 ||| (1 <<< ((nI i4) &&& 31)))), (0, .ref (a 0)), (1, .int x1)]) hx hb dX2_edgesTo_27 hl (k := 1) rfl (nI_1 i4) (by decide) rfl (fun ls hl => ?_)
          refine lv_goto (tgt := 4) hx hb dX2_edgesTo_30 (by decide) ?_
          exact ih4 (x4_2 ||| (1 <<< ((nI i4) &&& 31))) (i4 + 1) (by omega) (by omega) ls (lv_sub hl [0, 1, 2, 3] rfl) hE
  exact lp4 13 0 0 (by omega) (by omega) ls (lv_sub hl [0, 1, 2, 3] rfl) hE
def mX2_edgeTotal_L4 (v : kG) : Nat → Int32 → Nat → (Int32)
  | 0, _, _ => 0
  | n4 + 1, x4_1, i4 =>
    if (v 0 2) ≤ (nI i4) then
      x4_1
    else
      mX2_edgeTotal_L4 v n4 (x4_1 + (mJ6_bitCount_0f7a4 (mX2_edgesFrom v (nI i4)))) (i4 + 1)
theorem mX2_edgeTotal_L4_s {v : kG} {n4 : Nat} {x4_1 : Int32} {i4 : Nat} : mX2_edgeTotal_L4 v (n4 + 1) x4_1 i4 = (
    if (v 0 2) ≤ (nI i4) then
      x4_1
    else
      mX2_edgeTotal_L4 v n4 (x4_1 + (mJ6_bitCount_0f7a4 (mX2_edgesFrom v (nI i4)))) (i4 + 1) : Int32) := rfl
def mX2_edgeTotal (v : kG) : Int32 :=
  mX2_edgeTotal_L4 v 13 0 0
theorem mX2_edgeTotal_s {v : kG} : mX2_edgeTotal v = (
  mX2_edgeTotal_L4 v 13 0 0 : Int32) := rfl
set_option maxHeartbeats 400000 in
set_option maxRecDepth 100000 in
theorem c_X2_edgeTotal (l : Launch) (E : kE) (a : Nat → Nat) (v : kG) (hn : nOK (v 0 2)) (R : Int32) (hE : R = mX2_edgeTotal v) : Met l yX2_edgeTotal wsX2_edgeTotal ({ frames := 2, cells := 0, slots := 0, locals := 45 }) (kPre E [.ref (a 0)] (wLedx E a (v 0 0) (v 0 1) (v 0 2) (v 1) (v 2) (v 3) (v 4) (v 5) (v 6) (v 7))) (kRi R) 0 0 (fun _ => False) := by
  refine Met.ofW (cc := cX2_edgeTotal) (maxL := 3) (ret := (some .int)) (by decide) rfl ?_
  intro p e s m args below meth c s₁ B hml hv
  obtain ⟨rfl, hK, hP⟩ := hv
  have hx := B.exec
  have hb := B.bytes
  have hr := B.returns
  have hts := atoms_spec (ws := wsX2_edgeTotal) B.pre
  have hown : s.vm.findClass RX2 = some m.cls := findClass_of_methodNamed B.named
  have hlocks := B.notSynchronized
  have hiX2 : ∀ w ∈ wsX20, w ∈ wsX2_edgeTotal := by decide +kernel
  have hf18 := hts (.fieldLink RX2 18 "SkewEdges$Ledger" "total" "I") (by decide +kernel)
  have hP : va_P E.1 vwCl (wLedx E a (v 0 0) (v 0 1) (v 0 2) (v 1) (v 2) (v 3) (v 4) (v 5) (v 6) (v 7)) s.heap := hP
  have hl := lv_entry ([.ref (a 0)]) (n := 3) (Nat.le_of_ble_eq_true rfl)
  rw [lg_entry_eq]
  generalize (lg_sl ([.ref (a 0)]) ++ List.replicate (3 - (lg_sl ([.ref (a 0)])).length) Slot.unset).toArray = ls at hl ⊢
  have hl : lv_has ls 3 [(0, .ref (a 0))] := hl
  replace hE := hE.trans mX2_edgeTotal_s
  refine lv_iconst (v := 0) hx hb dX2_edgeTotal_0 (by decide) ?_
  refine lv_istore_n (lv' := [(1, .int 0), (0, .ref (a 0))]) hx hb dX2_edgeTotal_1 rfl hl (by decide) rfl (fun ls hl => ?_)
  refine lv_iconst (v := 0) hx hb dX2_edgeTotal_2 (by decide) ?_
  refine lv_istore_n (lv' := [(2, .int 0), (1, .int 0), (0, .ref (a 0))]) hx hb dX2_edgeTotal_3 rfl hl (by decide) rfl (fun ls hl => ?_)
  have lp4 : ∀ (n4 : Nat) (x4_1 : Int32) (i4 : Nat), (12 < i4 + n4) → (i4 ≤ 12) → ∀ ls : Array Slot, lv_has ls 3 [(2, .int (nI i4)), (1, .int x4_1), (0, .ref (a 0))] → R = mX2_edgeTotal_L4 v n4 x4_1 i4 → W p l e ({ frames := 2, cells := 0, slots := 0, locals := 45 }) s m ([.ref (a 0)] : List Value).toArray below meth c s.heap [] 0 0 (MQ below (kRi R) ([.ref (a 0)] : List Value).toArray s 0 0 (fun _ => False)) (F0 m 4 ls []) := by
    clear hE
    intro n4
    induction n4 with
    | zero =>
      intro x4_1 i4 hm4 hi4 ls hl hE
      exact absurd hm4 (by omega)
    | succ n4 ih4 =>
      intro x4_1 i4 hm4 hi4 ls hl hE
      replace hE := hE.trans mX2_edgeTotal_L4_s
      refine lv_iload_n hx hb dX2_edgeTotal_4 rfl (lv_at hl 0 rfl) ?_
      refine lv_aload_n hx hb dX2_edgeTotal_5 rfl (lv_at hl 2 rfl) ?_
      refine va_get (D := E.1) (ci := 1) (v := .int (v 0 2)) (C := RX2) (T := TX2) (N := 10) hx hb hts hiX2 hown hK.1 hP 0 rfl rfl 2 (by decide) hf18 (fun _ h9 => h9) rfl dX2_edgeTotal_6 ?_
      refine lv_icmp_ge (tgt := 29) hx hb dX2_edgeTotal_9 (by decide) (fun c_1 => ?_) (fun c_1 => ?_)
      · replace hE := hE.trans (if_pos c_1)
        refine lv_iload_n hx hb dX2_edgeTotal_29 rfl (lv_at hl 1 rfl) ?_
        subst R
        exact W.iret (v := x4_1) hx hb hr (fun t ht hW => ⟨rfl, ht⟩) (fun _ h => by cases h) dX2_edgeTotal_30
      · replace hE := hE.trans (if_neg c_1)
        have hbc_1 : i4 < 12 := nOK.lt (by assumption) (by omega) c_1
        refine lv_iload_n hx hb dX2_edgeTotal_12 rfl (lv_at hl 1 rfl) ?_
        refine lv_aload_n hx hb dX2_edgeTotal_13 rfl (lv_at hl 2 rfl) ?_
        refine lv_iload_n hx hb dX2_edgeTotal_14 rfl (lv_at hl 0 rfl) ?_
        refine kCallRi (va_runV (As := [.int (nI i4)]) (rest := [.int x4_1]) ⟨hx, hb, hml, hown, hts⟩ (c_X2_edgesFrom l E a v (nI i4) (by first | assumption | exact tOK.nI (by omega)) (by first | assumption | exact tOK.nI (by omega)) _ rfl) (cwV 1 hts gX2_edgeTotal_X2_edgesFrom rfl rfl rfl (by decide +kernel) ⟨Nat.le_of_ble_eq_true rfl, Nat.le_of_ble_eq_true rfl⟩) (kPreV hK hP hP (q0 := 0) rfl rfl) rfl rfl hl.1 rfl (lv_room (Nat.le_of_ble_eq_true rfl)) dX2_edgeTotal_15 ⟨Nat.zero_le _, Nat.zero_le _⟩) ?_
        refine kCallRi (va_runS (As := [.int (mX2_edgesFrom v (nI i4))]) (rest := [.int x4_1]) ⟨hx, hb, hml, hown, hts⟩ (c_J6_bitCount_0f7a4 l E (mX2_edgesFrom v (nI i4)) _ rfl) (va_cwS 1 hts gX2_edgeTotal_J6_bitCount_0f7a4 rfl rfl rfl (by decide +kernel) ⟨Nat.le_of_ble_eq_true rfl, Nat.le_of_ble_eq_true rfl⟩) (kPreS hK kP0) rfl rfl hl.1 rfl (lv_room (Nat.le_of_ble_eq_true rfl)) dX2_edgeTotal_18 ⟨Nat.zero_le _, Nat.zero_le _⟩) ?_
        refine lv_iadd hx hb dX2_edgeTotal_21 ?_
        refine lv_istore_n (lv' := [(1, .int (x4_1 + (mJ6_bitCount_0f7a4 (mX2_edgesFrom v (nI i4))))), (2, .int (nI i4)), (0, .ref (a 0))]) hx hb dX2_edgeTotal_22 rfl hl (by decide) rfl (fun ls hl => ?_)
        refine lv_iinc (v := (nI (i4 + 1))) (lv' := [(2, .int (nI (i4 + 1))), (1, .int (x4_1 + (mJ6_bitCount_0f7a4 (mX2_edgesFrom v (nI i4))))), (0, .ref (a 0))]) hx hb dX2_edgeTotal_23 hl (k := 1) rfl (nI_1 i4) (by decide) rfl (fun ls hl => ?_)
        refine lv_goto (tgt := 4) hx hb dX2_edgeTotal_26 (by decide) ?_
        exact ih4 (x4_1 + (mJ6_bitCount_0f7a4 (mX2_edgesFrom v (nI i4)))) (i4 + 1) (by omega) (by omega) ls (lv_sub hl [0, 1, 2] rfl) hE
  exact lp4 13 0 0 (by omega) (by omega) ls (lv_sub hl [0, 1, 2] rfl) hE
def mX2_pivots_L4 (v : kG) : Nat → Int32 → Nat → (Int32)
  | 0, _, _ => 0
  | n4 + 1, x4_1, i4 =>
    if (v 0 2) ≤ (nI i4) then
      x4_1
    else
      if (mX2_edgesTo v (nI i4)) = 0 then
        mX2_pivots_L4 v n4 x4_1 (i4 + 1)
      else
        if (mX2_edgesFrom v (nI i4)) = 0 then
          mX2_pivots_L4 v n4 x4_1 (i4 + 1)
        else
          mX2_pivots_L4 v n4 (x4_1 ||| (1 <<< ((nI i4) &&& 31))) (i4 + 1)
theorem mX2_pivots_L4_s {v : kG} {n4 : Nat} {x4_1 : Int32} {i4 : Nat} : mX2_pivots_L4 v (n4 + 1) x4_1 i4 = (
    if (v 0 2) ≤ (nI i4) then
      x4_1
    else
      if (mX2_edgesTo v (nI i4)) = 0 then
        mX2_pivots_L4 v n4 x4_1 (i4 + 1)
      else
        if (mX2_edgesFrom v (nI i4)) = 0 then
          mX2_pivots_L4 v n4 x4_1 (i4 + 1)
        else
          mX2_pivots_L4 v n4 (x4_1 ||| (1 <<< ((nI i4) &&& 31))) (i4 + 1) : Int32) := rfl
def mX2_pivots (v : kG) : Int32 :=
  mX2_pivots_L4 v 13 0 0
theorem mX2_pivots_s {v : kG} : mX2_pivots v = (
  mX2_pivots_L4 v 13 0 0 : Int32) := rfl
set_option maxHeartbeats 400000 in
set_option maxRecDepth 100000 in
theorem c_X2_pivots (l : Launch) (E : kE) (a : Nat → Nat) (v : kG) (hn : nOK (v 0 2)) (R : Int32) (hE : R = mX2_pivots v) : Met l yX2_pivots wsX2_pivots ({ frames := 2, cells := 0, slots := 0, locals := 45 }) (kPre E [.ref (a 0)] (wLedx E a (v 0 0) (v 0 1) (v 0 2) (v 1) (v 2) (v 3) (v 4) (v 5) (v 6) (v 7))) (kRi R) 0 0 (fun _ => False) := by
  refine Met.ofW (cc := cX2_pivots) (maxL := 3) (ret := (some .int)) (by decide) rfl ?_
  intro p e s m args below meth c s₁ B hml hv
  obtain ⟨rfl, hK, hP⟩ := hv
  have hx := B.exec
  have hb := B.bytes
  have hr := B.returns
  have hts := atoms_spec (ws := wsX2_pivots) B.pre
  have hown : s.vm.findClass RX2 = some m.cls := findClass_of_methodNamed B.named
  have hlocks := B.notSynchronized
  have hiX2 : ∀ w ∈ wsX20, w ∈ wsX2_pivots := by decide +kernel
  have hf18 := hts (.fieldLink RX2 18 "SkewEdges$Ledger" "total" "I") (by decide +kernel)
  have hP : va_P E.1 vwCl (wLedx E a (v 0 0) (v 0 1) (v 0 2) (v 1) (v 2) (v 3) (v 4) (v 5) (v 6) (v 7)) s.heap := hP
  have hl := lv_entry ([.ref (a 0)]) (n := 3) (Nat.le_of_ble_eq_true rfl)
  rw [lg_entry_eq]
  generalize (lg_sl ([.ref (a 0)]) ++ List.replicate (3 - (lg_sl ([.ref (a 0)])).length) Slot.unset).toArray = ls at hl ⊢
  have hl : lv_has ls 3 [(0, .ref (a 0))] := hl
  replace hE := hE.trans mX2_pivots_s
  refine lv_iconst (v := 0) hx hb dX2_pivots_0 (by decide) ?_
  refine lv_istore_n (lv' := [(1, .int 0), (0, .ref (a 0))]) hx hb dX2_pivots_1 rfl hl (by decide) rfl (fun ls hl => ?_)
  refine lv_iconst (v := 0) hx hb dX2_pivots_2 (by decide) ?_
  refine lv_istore_n (lv' := [(2, .int 0), (1, .int 0), (0, .ref (a 0))]) hx hb dX2_pivots_3 rfl hl (by decide) rfl (fun ls hl => ?_)
  have lp4 : ∀ (n4 : Nat) (x4_1 : Int32) (i4 : Nat), (12 < i4 + n4) → (i4 ≤ 12) → ∀ ls : Array Slot, lv_has ls 3 [(2, .int (nI i4)), (1, .int x4_1), (0, .ref (a 0))] → R = mX2_pivots_L4 v n4 x4_1 i4 → W p l e ({ frames := 2, cells := 0, slots := 0, locals := 45 }) s m ([.ref (a 0)] : List Value).toArray below meth c s.heap [] 0 0 (MQ below (kRi R) ([.ref (a 0)] : List Value).toArray s 0 0 (fun _ => False)) (F0 m 4 ls []) := by
    clear hE
    intro n4
    induction n4 with
    | zero =>
      intro x4_1 i4 hm4 hi4 ls hl hE
      exact absurd hm4 (by omega)
    | succ n4 ih4 =>
      intro x4_1 i4 hm4 hi4 ls hl hE
      replace hE := hE.trans mX2_pivots_L4_s
      refine lv_iload_n hx hb dX2_pivots_4 rfl (lv_at hl 0 rfl) ?_
      refine lv_aload_n hx hb dX2_pivots_5 rfl (lv_at hl 2 rfl) ?_
      refine va_get (D := E.1) (ci := 1) (v := .int (v 0 2)) (C := RX2) (T := TX2) (N := 10) hx hb hts hiX2 hown hK.1 hP 0 rfl rfl 2 (by decide) hf18 (fun _ h9 => h9) rfl dX2_pivots_6 ?_
      refine lv_icmp_ge (tgt := 40) hx hb dX2_pivots_9 (by decide) (fun c_1 => ?_) (fun c_1 => ?_)
      · replace hE := hE.trans (if_pos c_1)
        refine lv_iload_n hx hb dX2_pivots_40 rfl (lv_at hl 1 rfl) ?_
        subst R
        exact W.iret (v := x4_1) hx hb hr (fun t ht hW => ⟨rfl, ht⟩) (fun _ h => by cases h) dX2_pivots_41
      · replace hE := hE.trans (if_neg c_1)
        have hbc_1 : i4 < 12 := nOK.lt (by assumption) (by omega) c_1
        refine lv_aload_n hx hb dX2_pivots_12 rfl (lv_at hl 2 rfl) ?_
        refine lv_iload_n hx hb dX2_pivots_13 rfl (lv_at hl 0 rfl) ?_
        refine kCallRi (va_runV (As := [.int (nI i4)]) (rest := []) ⟨hx, hb, hml, hown, hts⟩ (c_X2_edgesTo l E a v (nI i4) (by first | assumption | exact tOK.nI (by omega)) (by first | assumption | exact tOK.nI (by omega)) _ rfl) (cwV 1 hts gX2_pivots_X2_edgesTo rfl rfl rfl (by decide +kernel) ⟨Nat.le_of_ble_eq_true rfl, Nat.le_of_ble_eq_true rfl⟩) (kPreV hK hP hP (q0 := 0) rfl rfl) rfl rfl hl.1 rfl (lv_room (Nat.le_of_ble_eq_true rfl)) dX2_pivots_14 ⟨Nat.zero_le _, Nat.zero_le _⟩) ?_
        refine lv_if_eq (tgt := 34) hx hb dX2_pivots_17 (by decide) (fun c_2 => ?_) (fun c_2 => ?_)
        · replace hE := hE.trans (if_pos c_2)
          refine lv_iinc (v := (nI (i4 + 1))) (lv' := [(2, .int (nI (i4 + 1))), (1, .int x4_1), (0, .ref (a 0))]) hx hb dX2_pivots_34 hl (k := 0) rfl (nI_1 i4) (by decide) rfl (fun ls hl => ?_)
          refine lv_goto (tgt := 4) hx hb dX2_pivots_37 (by decide) ?_
          exact ih4 x4_1 (i4 + 1) (by omega) (by omega) ls (lv_sub hl [0, 1, 2] rfl) hE
        · replace hE := hE.trans (if_neg c_2)
          refine lv_aload_n hx hb dX2_pivots_20 rfl (lv_at hl 2 rfl) ?_
          refine lv_iload_n hx hb dX2_pivots_21 rfl (lv_at hl 0 rfl) ?_
          refine kCallRi (va_runV (As := [.int (nI i4)]) (rest := []) ⟨hx, hb, hml, hown, hts⟩ (c_X2_edgesFrom l E a v (nI i4) (by first | assumption | exact tOK.nI (by omega)) (by first | assumption | exact tOK.nI (by omega)) _ rfl) (cwV 1 hts gX2_pivots_X2_edgesFrom rfl rfl rfl (by decide +kernel) ⟨Nat.le_of_ble_eq_true rfl, Nat.le_of_ble_eq_true rfl⟩) (kPreV hK hP hP (q0 := 0) rfl rfl) rfl rfl hl.1 rfl (lv_room (Nat.le_of_ble_eq_true rfl)) dX2_pivots_22 ⟨Nat.zero_le _, Nat.zero_le _⟩) ?_
          refine lv_if_eq (tgt := 34) hx hb dX2_pivots_25 (by decide) (fun c_3 => ?_) (fun c_3 => ?_)
          · replace hE := hE.trans (if_pos c_3)
            refine lv_iinc (v := (nI (i4 + 1))) (lv' := [(2, .int (nI (i4 + 1))), (1, .int x4_1), (0, .ref (a 0))]) hx hb dX2_pivots_34 hl (k := 0) rfl (nI_1 i4) (by decide) rfl (fun ls hl => ?_)
            refine lv_goto (tgt := 4) hx hb dX2_pivots_37 (by decide) ?_
            exact ih4 x4_1 (i4 + 1) (by omega) (by omega) ls (lv_sub hl [0, 1, 2] rfl) hE
          · replace hE := hE.trans (if_neg c_3)
            refine lv_iload_n hx hb dX2_pivots_28 rfl (lv_at hl 1 rfl) ?_
            refine lv_iconst (v := 1) hx hb dX2_pivots_29 (by decide) ?_
            refine lv_iload_n hx hb dX2_pivots_30 rfl (lv_at hl 0 rfl) ?_
            refine lv_ishl hx hb dX2_pivots_31 ?_
            refine lv_ior hx hb dX2_pivots_32 ?_
            refine lv_istore_n (lv' := [(1, .int (x4_1 ||| (1 <<< ((nI i4) &&& 31)))), (2, .int (nI i4)), (0, .ref (a 0))]) hx hb dX2_pivots_33 rfl hl (by decide) rfl (fun ls hl => ?_)
            refine lv_iinc (v := (nI (i4 + 1))) (lv' := [(2, .int (nI (i4 + 1))), (1, .int (x4_1 ||| (1 <<< ((nI i4) &&& 31)))), (0, .ref (a 0))]) hx hb dX2_pivots_34 hl (k := 1) rfl (nI_1 i4) (by decide) rfl (fun ls hl => ?_)
            refine lv_goto (tgt := 4) hx hb dX2_pivots_37 (by decide) ?_
            exact ih4 (x4_1 ||| (1 <<< ((nI i4) &&& 31))) (i4 + 1) (by omega) (by omega) ls (lv_sub hl [0, 1, 2] rfl) hE
  exact lp4 13 0 0 (by omega) (by omega) ls (lv_sub hl [0, 1, 2] rfl) hE
def mX2_tripleTotal_L4 (v : kG) : Nat → Int32 → Nat → (Int32)
  | 0, _, _ => 0
  | n4 + 1, x4_1, i4 =>
    if (v 0 2) ≤ (nI i4) then
      x4_1
    else
      mX2_tripleTotal_L4 v n4 (x4_1 + ((mJ6_bitCount_0f7a4 (mX2_edgesTo v (nI i4))) * (mJ6_bitCount_0f7a4 (mX2_edgesFrom v (nI i4))))) (i4 + 1)
theorem mX2_tripleTotal_L4_s {v : kG} {n4 : Nat} {x4_1 : Int32} {i4 : Nat} : mX2_tripleTotal_L4 v (n4 + 1) x4_1 i4 = (
    if (v 0 2) ≤ (nI i4) then
      x4_1
    else
      mX2_tripleTotal_L4 v n4 (x4_1 + ((mJ6_bitCount_0f7a4 (mX2_edgesTo v (nI i4))) * (mJ6_bitCount_0f7a4 (mX2_edgesFrom v (nI i4))))) (i4 + 1) : Int32) := rfl
def mX2_tripleTotal (v : kG) : Int32 :=
  mX2_tripleTotal_L4 v 13 0 0
theorem mX2_tripleTotal_s {v : kG} : mX2_tripleTotal v = (
  mX2_tripleTotal_L4 v 13 0 0 : Int32) := rfl
set_option maxHeartbeats 400000 in
set_option maxRecDepth 100000 in
theorem c_X2_tripleTotal (l : Launch) (E : kE) (a : Nat → Nat) (v : kG) (hn : nOK (v 0 2)) (R : Int32) (hE : R = mX2_tripleTotal v) : Met l yX2_tripleTotal wsX2_tripleTotal ({ frames := 2, cells := 0, slots := 0, locals := 45 }) (kPre E [.ref (a 0)] (wLedx E a (v 0 0) (v 0 1) (v 0 2) (v 1) (v 2) (v 3) (v 4) (v 5) (v 6) (v 7))) (kRi R) 0 0 (fun _ => False) := by
  refine Met.ofW (cc := cX2_tripleTotal) (maxL := 3) (ret := (some .int)) (by decide) rfl ?_
  intro p e s m args below meth c s₁ B hml hv
  obtain ⟨rfl, hK, hP⟩ := hv
  have hx := B.exec
  have hb := B.bytes
  have hr := B.returns
  have hts := atoms_spec (ws := wsX2_tripleTotal) B.pre
  have hown : s.vm.findClass RX2 = some m.cls := findClass_of_methodNamed B.named
  have hlocks := B.notSynchronized
  have hiX2 : ∀ w ∈ wsX20, w ∈ wsX2_tripleTotal := by decide +kernel
  have hf18 := hts (.fieldLink RX2 18 "SkewEdges$Ledger" "total" "I") (by decide +kernel)
  have hP : va_P E.1 vwCl (wLedx E a (v 0 0) (v 0 1) (v 0 2) (v 1) (v 2) (v 3) (v 4) (v 5) (v 6) (v 7)) s.heap := hP
  have hl := lv_entry ([.ref (a 0)]) (n := 3) (Nat.le_of_ble_eq_true rfl)
  rw [lg_entry_eq]
  generalize (lg_sl ([.ref (a 0)]) ++ List.replicate (3 - (lg_sl ([.ref (a 0)])).length) Slot.unset).toArray = ls at hl ⊢
  have hl : lv_has ls 3 [(0, .ref (a 0))] := hl
  replace hE := hE.trans mX2_tripleTotal_s
  refine lv_iconst (v := 0) hx hb dX2_tripleTotal_0 (by decide) ?_
  refine lv_istore_n (lv' := [(1, .int 0), (0, .ref (a 0))]) hx hb dX2_tripleTotal_1 rfl hl (by decide) rfl (fun ls hl => ?_)
  refine lv_iconst (v := 0) hx hb dX2_tripleTotal_2 (by decide) ?_
  refine lv_istore_n (lv' := [(2, .int 0), (1, .int 0), (0, .ref (a 0))]) hx hb dX2_tripleTotal_3 rfl hl (by decide) rfl (fun ls hl => ?_)
  have lp4 : ∀ (n4 : Nat) (x4_1 : Int32) (i4 : Nat), (12 < i4 + n4) → (i4 ≤ 12) → ∀ ls : Array Slot, lv_has ls 3 [(2, .int (nI i4)), (1, .int x4_1), (0, .ref (a 0))] → R = mX2_tripleTotal_L4 v n4 x4_1 i4 → W p l e ({ frames := 2, cells := 0, slots := 0, locals := 45 }) s m ([.ref (a 0)] : List Value).toArray below meth c s.heap [] 0 0 (MQ below (kRi R) ([.ref (a 0)] : List Value).toArray s 0 0 (fun _ => False)) (F0 m 4 ls []) := by
    clear hE
    intro n4
    induction n4 with
    | zero =>
      intro x4_1 i4 hm4 hi4 ls hl hE
      exact absurd hm4 (by omega)
    | succ n4 ih4 =>
      intro x4_1 i4 hm4 hi4 ls hl hE
      replace hE := hE.trans mX2_tripleTotal_L4_s
      refine lv_iload_n hx hb dX2_tripleTotal_4 rfl (lv_at hl 0 rfl) ?_
      refine lv_aload_n hx hb dX2_tripleTotal_5 rfl (lv_at hl 2 rfl) ?_
      refine va_get (D := E.1) (ci := 1) (v := .int (v 0 2)) (C := RX2) (T := TX2) (N := 10) hx hb hts hiX2 hown hK.1 hP 0 rfl rfl 2 (by decide) hf18 (fun _ h9 => h9) rfl dX2_tripleTotal_6 ?_
      refine lv_icmp_ge (tgt := 38) hx hb dX2_tripleTotal_9 (by decide) (fun c_1 => ?_) (fun c_1 => ?_)
      · replace hE := hE.trans (if_pos c_1)
        refine lv_iload_n hx hb dX2_tripleTotal_38 rfl (lv_at hl 1 rfl) ?_
        subst R
        exact W.iret (v := x4_1) hx hb hr (fun t ht hW => ⟨rfl, ht⟩) (fun _ h => by cases h) dX2_tripleTotal_39
      · replace hE := hE.trans (if_neg c_1)
        have hbc_1 : i4 < 12 := nOK.lt (by assumption) (by omega) c_1
        refine lv_iload_n hx hb dX2_tripleTotal_12 rfl (lv_at hl 1 rfl) ?_
        refine lv_aload_n hx hb dX2_tripleTotal_13 rfl (lv_at hl 2 rfl) ?_
        refine lv_iload_n hx hb dX2_tripleTotal_14 rfl (lv_at hl 0 rfl) ?_
        refine kCallRi (va_runV (As := [.int (nI i4)]) (rest := [.int x4_1]) ⟨hx, hb, hml, hown, hts⟩ (c_X2_edgesTo l E a v (nI i4) (by first | assumption | exact tOK.nI (by omega)) (by first | assumption | exact tOK.nI (by omega)) _ rfl) (cwV 1 hts gX2_tripleTotal_X2_edgesTo rfl rfl rfl (by decide +kernel) ⟨Nat.le_of_ble_eq_true rfl, Nat.le_of_ble_eq_true rfl⟩) (kPreV hK hP hP (q0 := 0) rfl rfl) rfl rfl hl.1 rfl (lv_room (Nat.le_of_ble_eq_true rfl)) dX2_tripleTotal_15 ⟨Nat.zero_le _, Nat.zero_le _⟩) ?_
        refine kCallRi (va_runS (As := [.int (mX2_edgesTo v (nI i4))]) (rest := [.int x4_1]) ⟨hx, hb, hml, hown, hts⟩ (c_J6_bitCount_0f7a4 l E (mX2_edgesTo v (nI i4)) _ rfl) (va_cwS 1 hts gX2_tripleTotal_J6_bitCount_0f7a4 rfl rfl rfl (by decide +kernel) ⟨Nat.le_of_ble_eq_true rfl, Nat.le_of_ble_eq_true rfl⟩) (kPreS hK kP0) rfl rfl hl.1 rfl (lv_room (Nat.le_of_ble_eq_true rfl)) dX2_tripleTotal_18 ⟨Nat.zero_le _, Nat.zero_le _⟩) ?_
        refine lv_aload_n hx hb dX2_tripleTotal_21 rfl (lv_at hl 2 rfl) ?_
        refine lv_iload_n hx hb dX2_tripleTotal_22 rfl (lv_at hl 0 rfl) ?_
        refine kCallRi (va_runV (As := [.int (nI i4)]) (rest := [.int (mJ6_bitCount_0f7a4 (mX2_edgesTo v (nI i4))), .int x4_1]) ⟨hx, hb, hml, hown, hts⟩ (c_X2_edgesFrom l E a v (nI i4) (by first | assumption | exact tOK.nI (by omega)) (by first | assumption | exact tOK.nI (by omega)) _ rfl) (cwV 1 hts gX2_tripleTotal_X2_edgesFrom rfl rfl rfl (by decide +kernel) ⟨Nat.le_of_ble_eq_true rfl, Nat.le_of_ble_eq_true rfl⟩) (kPreV hK hP hP (q0 := 0) rfl rfl) rfl rfl hl.1 rfl (lv_room (Nat.le_of_ble_eq_true rfl)) dX2_tripleTotal_23 ⟨Nat.zero_le _, Nat.zero_le _⟩) ?_
        refine kCallRi (va_runS (As := [.int (mX2_edgesFrom v (nI i4))]) (rest := [.int (mJ6_bitCount_0f7a4 (mX2_edgesTo v (nI i4))), .int x4_1]) ⟨hx, hb, hml, hown, hts⟩ (c_J6_bitCount_0f7a4 l E (mX2_edgesFrom v (nI i4)) _ rfl) (va_cwS 1 hts gX2_tripleTotal_J6_bitCount_0f7a4 rfl rfl rfl (by decide +kernel) ⟨Nat.le_of_ble_eq_true rfl, Nat.le_of_ble_eq_true rfl⟩) (kPreS hK kP0) rfl rfl hl.1 rfl (lv_room (Nat.le_of_ble_eq_true rfl)) dX2_tripleTotal_26 ⟨Nat.zero_le _, Nat.zero_le _⟩) ?_
        refine lv_imul hx hb dX2_tripleTotal_29 ?_
        refine lv_iadd hx hb dX2_tripleTotal_30 ?_
        refine lv_istore_n (lv' := [(1, .int (x4_1 + ((mJ6_bitCount_0f7a4 (mX2_edgesTo v (nI i4))) * (mJ6_bitCount_0f7a4 (mX2_edgesFrom v (nI i4)))))), (2, .int (nI i4)), (0, .ref (a 0))]) hx hb dX2_tripleTotal_31 rfl hl (by decide) rfl (fun ls hl => ?_)
        refine lv_iinc (v := (nI (i4 + 1))) (lv' := [(2, .int (nI (i4 + 1))), (1, .int (x4_1 + ((mJ6_bitCount_0f7a4 (mX2_edgesTo v (nI i4))) * (mJ6_bitCount_0f7a4 (mX2_edgesFrom v (nI i4)))))), (0, .ref (a 0))]) hx hb dX2_tripleTotal_32 hl (k := 1) rfl (nI_1 i4) (by decide) rfl (fun ls hl => ?_)
        refine lv_goto (tgt := 4) hx hb dX2_tripleTotal_35 (by decide) ?_
        exact ih4 (x4_1 + ((mJ6_bitCount_0f7a4 (mX2_edgesTo v (nI i4))) * (mJ6_bitCount_0f7a4 (mX2_edgesFrom v (nI i4))))) (i4 + 1) (by omega) (by omega) ls (lv_sub hl [0, 1, 2] rfl) hE
  exact lp4 13 0 0 (by omega) (by omega) ls (lv_sub hl [0, 1, 2] rfl) hE
def mX2_spoils_L31 (v : kG) (x1 : Int32) (x2 : Int32) : Nat → Nat → (Int32)
  | 0, _ => 0
  | n31 + 1, i31 =>
    if (v 0 2) ≤ (nI i31) then
      0
    else
      if (mX5_contains (mX2_edgesFrom v x1) (nI i31)) = 0 then
        mX2_spoils_L31 v x1 x2 n31 (i31 + 1)
      else
        if ((v 1) ((nI i31)).toNatClampNeg) = 1 then
          if x2 ≤ ((v 3) ((nI i31)).toNatClampNeg) then
            mX2_spoils_L31 v x1 x2 n31 (i31 + 1)
          else
            1
        else
          mX2_spoils_L31 v x1 x2 n31 (i31 + 1)
theorem mX2_spoils_L31_s {v : kG} {x1 : Int32} {x2 : Int32} {n31 : Nat} {i31 : Nat} : mX2_spoils_L31 v x1 x2 (n31 + 1) i31 = (
    if (v 0 2) ≤ (nI i31) then
      0
    else
      if (mX5_contains (mX2_edgesFrom v x1) (nI i31)) = 0 then
        mX2_spoils_L31 v x1 x2 n31 (i31 + 1)
      else
        if ((v 1) ((nI i31)).toNatClampNeg) = 1 then
          if x2 ≤ ((v 3) ((nI i31)).toNatClampNeg) then
            mX2_spoils_L31 v x1 x2 n31 (i31 + 1)
          else
            1
        else
          mX2_spoils_L31 v x1 x2 n31 (i31 + 1) : Int32) := rfl
def mX2_spoils (v : kG) (x1 : Int32) (x2 : Int32) : Int32 :=
  if ((v 1) (x1).toNatClampNeg) = 1 then
    if x2 ≤ ((v 3) (x1).toNatClampNeg) then
      mX2_spoils_L31 v x1 x2 13 0
    else
      0
  else
    0
theorem mX2_spoils_s {v : kG} {x1 : Int32} {x2 : Int32} : mX2_spoils v x1 x2 = (
  if ((v 1) (x1).toNatClampNeg) = 1 then
    if x2 ≤ ((v 3) (x1).toNatClampNeg) then
      mX2_spoils_L31 v x1 x2 13 0
    else
      0
  else
    0 : Int32) := rfl
set_option maxHeartbeats 400000 in
set_option maxRecDepth 100000 in
theorem c_X2_spoils (l : Launch) (E : kE) (a : Nat → Nat) (v : kG) (x1 : Int32) (x2 : Int32) (hn : nOK (v 0 2)) (ht : tOK x1) (R : Int32) (hE : R = mX2_spoils v x1 x2) : Met l yX2_spoils wsX2_spoils ({ frames := 2, cells := 0, slots := 0, locals := 45 }) (kPre E [.ref (a 0), .int x1, .int x2] (wLedx E a (v 0 0) (v 0 1) (v 0 2) (v 1) (v 2) (v 3) (v 4) (v 5) (v 6) (v 7))) (kRi R) 0 0 (fun _ => False) := by
  refine Met.ofW (cc := cX2_spoils) (maxL := 5) (ret := (some .boolean)) (by decide) rfl ?_
  intro p e s m args below meth c s₁ B hml hv
  obtain ⟨rfl, hK, hP⟩ := hv
  have hx := B.exec
  have hb := B.bytes
  have hr := B.returns
  have hts := atoms_spec (ws := wsX2_spoils) B.pre
  have hown : s.vm.findClass RX2 = some m.cls := findClass_of_methodNamed B.named
  have hlocks := B.notSynchronized
  have hiX2 : ∀ w ∈ wsX20, w ∈ wsX2_spoils := by decide +kernel
  have hf18 := hts (.fieldLink RX2 18 "SkewEdges$Ledger" "total" "I") (by decide +kernel)
  have hf21 := hts (.fieldLink RX2 21 "SkewEdges$Ledger" "phase" "[I") (by decide +kernel)
  have hf28 := hts (.fieldLink RX2 28 "SkewEdges$Ledger" "committedAt" "[I") (by decide +kernel)
  have hP : va_P E.1 vwCl (wLedx E a (v 0 0) (v 0 1) (v 0 2) (v 1) (v 2) (v 3) (v 4) (v 5) (v 6) (v 7)) s.heap := hP
  have hl := lv_entry ([.ref (a 0), .int x1, .int x2]) (n := 5) (Nat.le_of_ble_eq_true rfl)
  rw [lg_entry_eq]
  generalize (lg_sl ([.ref (a 0), .int x1, .int x2]) ++ List.replicate (5 - (lg_sl ([.ref (a 0), .int x1, .int x2])).length) Slot.unset).toArray = ls at hl ⊢
  have hl : lv_has ls 5 [(0, .ref (a 0)), (1, .int x1), (2, .int x2)] := hl
  replace hE := hE.trans mX2_spoils_s
  refine lv_aload_n hx hb dX2_spoils_0 rfl (lv_at hl 0 rfl) ?_
  refine va_get (D := E.1) (ci := 1) (v := .ref (a 1)) (C := RX2) (T := TX2) (N := 10) hx hb hts hiX2 hown hK.1 hP 0 rfl rfl 3 (by decide) hf21 (fun _ h9 => h9) rfl dX2_spoils_1 ?_
  refine lv_iload_n hx hb dX2_spoils_4 rfl (lv_at hl 1 rfl) ?_
  refine va_iald (D := E.1) hx hb hK.1 hP 1 0 rfl rfl (tOK.in12 (by assumption)) dX2_spoils_5 ?_
  refine lv_iconst (v := 1) hx hb dX2_spoils_6 (by decide) ?_
  refine lv_icmp_ne (tgt := 20) hx hb dX2_spoils_7 (by decide) (fun c_1 => ?_) (fun c_1 => ?_)
  · replace hE := hE.trans (if_neg c_1)
    refine lv_iconst (v := 0) hx hb dX2_spoils_20 (by decide) ?_
    subst R
    exact W.zret (v := 0) (ty := .boolean) hx hb hr rfl (fun t ht hW => ⟨rfl, ht⟩) (fun _ h => by cases h) dX2_spoils_21
  · replace hE := hE.trans (if_pos c_1)
    refine lv_aload_n hx hb dX2_spoils_10 rfl (lv_at hl 0 rfl) ?_
    refine va_get (D := E.1) (ci := 1) (v := .ref (a 3)) (C := RX2) (T := TX2) (N := 10) hx hb hts hiX2 hown hK.1 hP 0 rfl rfl 5 (by decide) hf28 (fun _ h9 => h9) rfl dX2_spoils_11 ?_
    refine lv_iload_n hx hb dX2_spoils_14 rfl (lv_at hl 1 rfl) ?_
    refine va_iald (D := E.1) hx hb hK.1 hP 3 0 rfl rfl (tOK.in12 (by assumption)) dX2_spoils_15 ?_
    refine lv_iload_n hx hb dX2_spoils_16 rfl (lv_at hl 2 rfl) ?_
    refine lv_icmp_ge (tgt := 22) hx hb dX2_spoils_17 (by decide) (fun c_2 => ?_) (fun c_2 => ?_)
    · replace hE := hE.trans (if_pos c_2)
      refine lv_aload_n hx hb dX2_spoils_22 rfl (lv_at hl 0 rfl) ?_
      refine lv_iload_n hx hb dX2_spoils_23 rfl (lv_at hl 1 rfl) ?_
      refine kCallRi (va_runV (As := [.int x1]) (rest := []) ⟨hx, hb, hml, hown, hts⟩ (c_X2_edgesFrom l E a v x1 (by first | assumption | exact tOK.nI (by omega)) (by first | assumption | exact tOK.nI (by omega)) _ rfl) (cwV 1 hts gX2_spoils_X2_edgesFrom rfl rfl rfl (by decide +kernel) ⟨Nat.le_of_ble_eq_true rfl, Nat.le_of_ble_eq_true rfl⟩) (kPreV hK hP hP (q0 := 0) rfl rfl) rfl rfl hl.1 rfl (lv_room (Nat.le_of_ble_eq_true rfl)) dX2_spoils_24 ⟨Nat.zero_le _, Nat.zero_le _⟩) ?_
      refine lv_istore_n (lv' := [(3, .int (mX2_edgesFrom v x1)), (0, .ref (a 0)), (1, .int x1), (2, .int x2)]) hx hb dX2_spoils_27 rfl hl (by decide) rfl (fun ls hl => ?_)
      refine lv_iconst (v := 0) hx hb dX2_spoils_28 (by decide) ?_
      refine lv_istore (lv' := [(4, .int 0), (3, .int (mX2_edgesFrom v x1)), (0, .ref (a 0)), (1, .int x1), (2, .int x2)]) hx hb dX2_spoils_29 hl (by decide) rfl (fun ls hl => ?_)
      have lp31 : ∀ (n31 : Nat) (i31 : Nat), (12 < i31 + n31) → (i31 ≤ 12) → ∀ ls : Array Slot, lv_has ls 5 [(4, .int (nI i31)), (3, .int (mX2_edgesFrom v x1)), (0, .ref (a 0)), (1, .int x1), (2, .int x2)] → R = mX2_spoils_L31 v x1 x2 n31 i31 → W p l e ({ frames := 2, cells := 0, slots := 0, locals := 45 }) s m ([.ref (a 0), .int x1, .int x2] : List Value).toArray below meth c s.heap [] 0 0 (MQ below (kRi R) ([.ref (a 0), .int x1, .int x2] : List Value).toArray s 0 0 (fun _ => False)) (F0 m 31 ls []) := by
        clear hE
        intro n31
        induction n31 with
        | zero =>
          intro i31 hm31 hi31 ls hl hE
          exact absurd hm31 (by omega)
        | succ n31 ih31 =>
          intro i31 hm31 hi31 ls hl hE
          replace hE := hE.trans mX2_spoils_L31_s
          refine lv_iload hx hb dX2_spoils_31 (lv_at hl 0 rfl) ?_
          refine lv_aload_n hx hb dX2_spoils_33 rfl (lv_at hl 2 rfl) ?_
          refine va_get (D := E.1) (ci := 1) (v := .int (v 0 2)) (C := RX2) (T := TX2) (N := 10) hx hb hts hiX2 hown hK.1 hP 0 rfl rfl 2 (by decide) hf18 (fun _ h9 => h9) rfl dX2_spoils_34 ?_
          refine lv_icmp_ge (tgt := 79) hx hb dX2_spoils_37 (by decide) (fun c_3 => ?_) (fun c_3 => ?_)
          · replace hE := hE.trans (if_pos c_3)
            refine lv_iconst (v := 0) hx hb dX2_spoils_79 (by decide) ?_
            subst R
            exact W.zret (v := 0) (ty := .boolean) hx hb hr rfl (fun t ht hW => ⟨rfl, ht⟩) (fun _ h => by cases h) dX2_spoils_80
          · replace hE := hE.trans (if_neg c_3)
            have hbc_3 : i31 < 12 := nOK.lt (by assumption) (by omega) c_3
            refine lv_iload_n hx hb dX2_spoils_40 rfl (lv_at hl 1 rfl) ?_
            refine lv_iload hx hb dX2_spoils_41 (lv_at hl 0 rfl) ?_
            refine kCallRi (va_runSN (As := [.int (mX2_edgesFrom v x1), .int (nI i31)]) (rest := []) ⟨hx, hb, hml, hown, hts⟩ (c_X5_contains l E (mX2_edgesFrom v x1) (nI i31) _ rfl) ⟨va_cnB 2 hts gX2_spoils_X5_contains_n59 rfl rfl rfl (hK.nest 3 rfl) (hts (.initialized RX5) (by decide +kernel)) (by decide +kernel) ⟨Nat.le_of_ble_eq_true rfl, Nat.le_of_ble_eq_true rfl⟩, hts (.static yX5_contains) (by decide +kernel), trivial⟩ (kPreS hK kP0) rfl rfl hl.1 rfl (lv_room (Nat.le_of_ble_eq_true rfl)) dX2_spoils_43 ⟨Nat.zero_le _, Nat.zero_le _⟩) ?_
            refine lv_if_eq (tgt := 73) hx hb dX2_spoils_46 (by decide) (fun c_4 => ?_) (fun c_4 => ?_)
            · replace hE := hE.trans (if_pos c_4)
              refine lv_iinc (v := (nI (i31 + 1))) (lv' := [(4, .int (nI (i31 + 1))), (3, .int (mX2_edgesFrom v x1)), (0, .ref (a 0)), (1, .int x1), (2, .int x2)]) hx hb dX2_spoils_73 hl (k := 0) rfl (nI_1 i31) (by decide) rfl (fun ls hl => ?_)
              refine lv_goto (tgt := 31) hx hb dX2_spoils_76 (by decide) ?_
              exact ih31 (i31 + 1) (by omega) (by omega) ls (lv_sub hl [0, 1, 2, 3, 4] rfl) hE
            · replace hE := hE.trans (if_neg c_4)
              refine lv_aload_n hx hb dX2_spoils_49 rfl (lv_at hl 2 rfl) ?_
              refine va_get (D := E.1) (ci := 1) (v := .ref (a 1)) (C := RX2) (T := TX2) (N := 10) hx hb hts hiX2 hown hK.1 hP 0 rfl rfl 3 (by decide) hf21 (fun _ h9 => h9) rfl dX2_spoils_50 ?_
              refine lv_iload hx hb dX2_spoils_53 (lv_at hl 0 rfl) ?_
              refine va_iald (D := E.1) hx hb hK.1 hP 1 0 rfl rfl (vp_in_nI (by omega) (by omega)) dX2_spoils_55 ?_
              refine lv_iconst (v := 1) hx hb dX2_spoils_56 (by decide) ?_
              refine lv_icmp_ne (tgt := 73) hx hb dX2_spoils_57 (by decide) (fun c_5 => ?_) (fun c_5 => ?_)
              · replace hE := hE.trans (if_neg c_5)
                refine lv_iinc (v := (nI (i31 + 1))) (lv' := [(4, .int (nI (i31 + 1))), (3, .int (mX2_edgesFrom v x1)), (0, .ref (a 0)), (1, .int x1), (2, .int x2)]) hx hb dX2_spoils_73 hl (k := 0) rfl (nI_1 i31) (by decide) rfl (fun ls hl => ?_)
                refine lv_goto (tgt := 31) hx hb dX2_spoils_76 (by decide) ?_
                exact ih31 (i31 + 1) (by omega) (by omega) ls (lv_sub hl [0, 1, 2, 3, 4] rfl) hE
              · replace hE := hE.trans (if_pos c_5)
                refine lv_aload_n hx hb dX2_spoils_60 rfl (lv_at hl 2 rfl) ?_
                refine va_get (D := E.1) (ci := 1) (v := .ref (a 3)) (C := RX2) (T := TX2) (N := 10) hx hb hts hiX2 hown hK.1 hP 0 rfl rfl 5 (by decide) hf28 (fun _ h9 => h9) rfl dX2_spoils_61 ?_
                refine lv_iload hx hb dX2_spoils_64 (lv_at hl 0 rfl) ?_
                refine va_iald (D := E.1) hx hb hK.1 hP 3 0 rfl rfl (vp_in_nI (by omega) (by omega)) dX2_spoils_66 ?_
                refine lv_iload_n hx hb dX2_spoils_67 rfl (lv_at hl 4 rfl) ?_
                refine lv_icmp_ge (tgt := 73) hx hb dX2_spoils_68 (by decide) (fun c_6 => ?_) (fun c_6 => ?_)
                · replace hE := hE.trans (if_pos c_6)
                  refine lv_iinc (v := (nI (i31 + 1))) (lv' := [(4, .int (nI (i31 + 1))), (3, .int (mX2_edgesFrom v x1)), (0, .ref (a 0)), (1, .int x1), (2, .int x2)]) hx hb dX2_spoils_73 hl (k := 0) rfl (nI_1 i31) (by decide) rfl (fun ls hl => ?_)
                  refine lv_goto (tgt := 31) hx hb dX2_spoils_76 (by decide) ?_
                  exact ih31 (i31 + 1) (by omega) (by omega) ls (lv_sub hl [0, 1, 2, 3, 4] rfl) hE
                · replace hE := hE.trans (if_neg c_6)
                  refine lv_iconst (v := 1) hx hb dX2_spoils_71 (by decide) ?_
                  subst R
                  exact W.zret (v := 1) (ty := .boolean) hx hb hr rfl (fun t ht hW => ⟨rfl, ht⟩) (fun _ h => by cases h) dX2_spoils_72
      exact lp31 13 0 (by omega) (by omega) ls (lv_sub hl [0, 1, 2, 3, 4] rfl) hE
    · replace hE := hE.trans (if_neg c_2)
      refine lv_iconst (v := 0) hx hb dX2_spoils_20 (by decide) ?_
      subst R
      exact W.zret (v := 0) (ty := .boolean) hx hb hr rfl (fun t ht hW => ⟨rfl, ht⟩) (fun _ h => by cases h) dX2_spoils_21
def mX2_snapshot_L26 (v : kG) (x1 : Int32) : Nat → Int32 → Nat → (Int32)
  | 0, _, _ => 0
  | n26 + 1, x26_2, i26 =>
    if x1 ≤ (nI i26) then
      if x26_2 = 0 then
        1
      else
        2
    else
      if ((v 1) ((nI i26)).toNatClampNeg) = 0 then
        mX2_snapshot_L26 v x1 n26 1 (i26 + 1)
      else
        if (mX2_spoils v (nI i26) ((v 2) (x1).toNatClampNeg)) = 0 then
          mX2_snapshot_L26 v x1 n26 x26_2 (i26 + 1)
        else
          0
theorem mX2_snapshot_L26_s {v : kG} {x1 : Int32} {n26 : Nat} {x26_2 : Int32} {i26 : Nat} : mX2_snapshot_L26 v x1 (n26 + 1) x26_2 i26 = (
    if x1 ≤ (nI i26) then
      if x26_2 = 0 then
        1
      else
        2
    else
      if ((v 1) ((nI i26)).toNatClampNeg) = 0 then
        mX2_snapshot_L26 v x1 n26 1 (i26 + 1)
      else
        if (mX2_spoils v (nI i26) ((v 2) (x1).toNatClampNeg)) = 0 then
          mX2_snapshot_L26 v x1 n26 x26_2 (i26 + 1)
        else
          0 : Int32) := rfl
def mX2_snapshot (v : kG) (x1 : Int32) : Int32 :=
  if ((v 5) (x1).toNatClampNeg) = 0 then
    if ((v 1) (x1).toNatClampNeg) = 2 then
      (-6)
    else
      mX2_snapshot_L26 v x1 13 0 0
  else
    (-6)
theorem mX2_snapshot_s {v : kG} {x1 : Int32} : mX2_snapshot v x1 = (
  if ((v 5) (x1).toNatClampNeg) = 0 then
    if ((v 1) (x1).toNatClampNeg) = 2 then
      (-6)
    else
      mX2_snapshot_L26 v x1 13 0 0
  else
    (-6) : Int32) := rfl
set_option maxHeartbeats 400000 in
set_option maxRecDepth 100000 in
theorem c_X2_snapshot (l : Launch) (E : kE) (a : Nat → Nat) (v : kG) (x1 : Int32) (hn : nOK (v 0 2)) (ht : tOK x1) (R : Int32) (hE : R = mX2_snapshot v x1) : Met l yX2_snapshot wsX2_snapshot ({ frames := 3, cells := 0, slots := 0, locals := 69 }) (kPre E [.ref (a 0), .int x1] (wLedx E a (v 0 0) (v 0 1) (v 0 2) (v 1) (v 2) (v 3) (v 4) (v 5) (v 6) (v 7))) (kRi R) 0 0 (fun _ => False) := by
  refine Met.ofW (cc := cX2_snapshot) (maxL := 4) (ret := (some .int)) (by decide) rfl ?_
  intro p e s m args below meth c s₁ B hml hv
  obtain ⟨rfl, hK, hP⟩ := hv
  have hx := B.exec
  have hb := B.bytes
  have hr := B.returns
  have hts := atoms_spec (ws := wsX2_snapshot) B.pre
  have hown : s.vm.findClass RX2 = some m.cls := findClass_of_methodNamed B.named
  have hlocks := B.notSynchronized
  have hiX2 : ∀ w ∈ wsX20, w ∈ wsX2_snapshot := by decide +kernel
  have hf21 := hts (.fieldLink RX2 21 "SkewEdges$Ledger" "phase" "[I") (by decide +kernel)
  have hf25 := hts (.fieldLink RX2 25 "SkewEdges$Ledger" "beganAt" "[I") (by decide +kernel)
  have hf34 := hts (.fieldLink RX2 34 "SkewEdges$Ledger" "writtenKeys" "[I") (by decide +kernel)
  have hP : va_P E.1 vwCl (wLedx E a (v 0 0) (v 0 1) (v 0 2) (v 1) (v 2) (v 3) (v 4) (v 5) (v 6) (v 7)) s.heap := hP
  have hl := lv_entry ([.ref (a 0), .int x1]) (n := 4) (Nat.le_of_ble_eq_true rfl)
  rw [lg_entry_eq]
  generalize (lg_sl ([.ref (a 0), .int x1]) ++ List.replicate (4 - (lg_sl ([.ref (a 0), .int x1])).length) Slot.unset).toArray = ls at hl ⊢
  have hl : lv_has ls 4 [(0, .ref (a 0)), (1, .int x1)] := hl
  replace hE := hE.trans mX2_snapshot_s
  have hnt := tOK.n ht
  refine lv_aload_n hx hb dX2_snapshot_0 rfl (lv_at hl 0 rfl) ?_
  refine va_get (D := E.1) (ci := 1) (v := .ref (a 5)) (C := RX2) (T := TX2) (N := 10) hx hb hts hiX2 hown hK.1 hP 0 rfl rfl 7 (by decide) hf34 (fun _ h9 => h9) rfl dX2_snapshot_1 ?_
  refine lv_iload_n hx hb dX2_snapshot_4 rfl (lv_at hl 1 rfl) ?_
  refine va_iald (D := E.1) hx hb hK.1 hP 5 0 rfl rfl (tOK.in12 (by assumption)) dX2_snapshot_5 ?_
  refine lv_if_ne (tgt := 19) hx hb dX2_snapshot_6 (by decide) (fun c_1 => ?_) (fun c_1 => ?_)
  · replace hE := hE.trans (if_neg c_1)
    refine lv_bipush (v := (-6)) hx hb dX2_snapshot_19 (by decide) ?_
    subst R
    exact W.iret (v := (-6)) hx hb hr (fun t ht hW => ⟨rfl, ht⟩) (fun _ h => by cases h) dX2_snapshot_21
  · replace hE := hE.trans (if_pos c_1)
    refine lv_aload_n hx hb dX2_snapshot_9 rfl (lv_at hl 0 rfl) ?_
    refine va_get (D := E.1) (ci := 1) (v := .ref (a 1)) (C := RX2) (T := TX2) (N := 10) hx hb hts hiX2 hown hK.1 hP 0 rfl rfl 3 (by decide) hf21 (fun _ h9 => h9) rfl dX2_snapshot_10 ?_
    refine lv_iload_n hx hb dX2_snapshot_13 rfl (lv_at hl 1 rfl) ?_
    refine va_iald (D := E.1) hx hb hK.1 hP 1 0 rfl rfl (tOK.in12 (by assumption)) dX2_snapshot_14 ?_
    refine lv_iconst (v := 2) hx hb dX2_snapshot_15 (by decide) ?_
    refine lv_icmp_ne (tgt := 22) hx hb dX2_snapshot_16 (by decide) (fun c_2 => ?_) (fun c_2 => ?_)
    · replace hE := hE.trans (if_neg c_2)
      refine lv_iconst (v := 0) hx hb dX2_snapshot_22 (by decide) ?_
      refine lv_istore_n (lv' := [(2, .int 0), (0, .ref (a 0)), (1, .int x1)]) hx hb dX2_snapshot_23 rfl hl (by decide) rfl (fun ls hl => ?_)
      refine lv_iconst (v := 0) hx hb dX2_snapshot_24 (by decide) ?_
      refine lv_istore_n (lv' := [(3, .int 0), (2, .int 0), (0, .ref (a 0)), (1, .int x1)]) hx hb dX2_snapshot_25 rfl hl (by decide) rfl (fun ls hl => ?_)
      have lp26 : ∀ (n26 : Nat) (x26_2 : Int32) (i26 : Nat), (12 < i26 + n26) → (i26 ≤ 12) → ∀ ls : Array Slot, lv_has ls 4 [(3, .int (nI i26)), (2, .int x26_2), (0, .ref (a 0)), (1, .int x1)] → R = mX2_snapshot_L26 v x1 n26 x26_2 i26 → W p l e ({ frames := 3, cells := 0, slots := 0, locals := 69 }) s m ([.ref (a 0), .int x1] : List Value).toArray below meth c s.heap [] 0 0 (MQ below (kRi R) ([.ref (a 0), .int x1] : List Value).toArray s 0 0 (fun _ => False)) (F0 m 26 ls []) := by
        clear hE
        intro n26
        induction n26 with
        | zero =>
          intro x26_2 i26 hm26 hi26 ls hl hE
          exact absurd hm26 (by omega)
        | succ n26 ih26 =>
          intro x26_2 i26 hm26 hi26 ls hl hE
          replace hE := hE.trans mX2_snapshot_L26_s
          refine lv_iload_n hx hb dX2_snapshot_26 rfl (lv_at hl 0 rfl) ?_
          refine lv_iload_n hx hb dX2_snapshot_27 rfl (lv_at hl 3 rfl) ?_
          refine lv_icmp_ge (tgt := 67) hx hb dX2_snapshot_28 (by decide) (fun c_3 => ?_) (fun c_3 => ?_)
          · replace hE := hE.trans (if_pos c_3)
            refine lv_iload_n hx hb dX2_snapshot_67 rfl (lv_at hl 1 rfl) ?_
            refine lv_if_eq (tgt := 75) hx hb dX2_snapshot_68 (by decide) (fun c_4 => ?_) (fun c_4 => ?_)
            · replace hE := hE.trans (if_pos c_4)
              refine lv_iconst (v := 1) hx hb dX2_snapshot_75 (by decide) ?_
              subst R
              exact W.iret (v := 1) hx hb hr (fun t ht hW => ⟨rfl, ht⟩) (fun _ h => by cases h) dX2_snapshot_76
            · replace hE := hE.trans (if_neg c_4)
              refine lv_iconst (v := 2) hx hb dX2_snapshot_71 (by decide) ?_
              refine lv_goto (tgt := 76) hx hb dX2_snapshot_72 (by decide) ?_
              subst R
              exact W.iret (v := 2) hx hb hr (fun t ht hW => ⟨rfl, ht⟩) (fun _ h => by cases h) dX2_snapshot_76
          · replace hE := hE.trans (if_neg c_3)
            have hbc_3 : i26 < 12 := nOK.lt (by assumption) (by omega) c_3
            refine lv_aload_n hx hb dX2_snapshot_31 rfl (lv_at hl 2 rfl) ?_
            refine va_get (D := E.1) (ci := 1) (v := .ref (a 1)) (C := RX2) (T := TX2) (N := 10) hx hb hts hiX2 hown hK.1 hP 0 rfl rfl 3 (by decide) hf21 (fun _ h9 => h9) rfl dX2_snapshot_32 ?_
            refine lv_iload_n hx hb dX2_snapshot_35 rfl (lv_at hl 0 rfl) ?_
            refine va_iald (D := E.1) hx hb hK.1 hP 1 0 rfl rfl (vp_in_nI (by omega) (by omega)) dX2_snapshot_36 ?_
            refine lv_if_ne (tgt := 45) hx hb dX2_snapshot_37 (by decide) (fun c_5 => ?_) (fun c_5 => ?_)
            · replace hE := hE.trans (if_neg c_5)
              refine lv_aload_n hx hb dX2_snapshot_45 rfl (lv_at hl 2 rfl) ?_
              refine lv_iload_n hx hb dX2_snapshot_46 rfl (lv_at hl 0 rfl) ?_
              refine lv_aload_n hx hb dX2_snapshot_47 rfl (lv_at hl 2 rfl) ?_
              refine va_get (D := E.1) (ci := 1) (v := .ref (a 2)) (C := RX2) (T := TX2) (N := 10) hx hb hts hiX2 hown hK.1 hP 0 rfl rfl 4 (by decide) hf25 (fun _ h9 => h9) rfl dX2_snapshot_48 ?_
              refine lv_iload_n hx hb dX2_snapshot_51 rfl (lv_at hl 3 rfl) ?_
              refine va_iald (D := E.1) hx hb hK.1 hP 2 0 rfl rfl (tOK.in12 (by assumption)) dX2_snapshot_52 ?_
              refine kCallRi (va_runV (As := [.int (nI i26), .int ((v 2) (x1).toNatClampNeg)]) (rest := []) ⟨hx, hb, hml, hown, hts⟩ (c_X2_spoils l E a v (nI i26) ((v 2) (x1).toNatClampNeg) (by first | assumption | exact tOK.nI (by omega)) (by first | assumption | exact tOK.nI (by omega)) _ rfl) (cwV 2 hts gX2_snapshot_X2_spoils rfl rfl rfl (by decide +kernel) ⟨Nat.le_of_ble_eq_true rfl, Nat.le_of_ble_eq_true rfl⟩) (kPreV hK hP hP (q0 := 0) rfl rfl) rfl rfl hl.1 rfl (lv_room (Nat.le_of_ble_eq_true rfl)) dX2_snapshot_53 ⟨Nat.zero_le _, Nat.zero_le _⟩) ?_
              refine lv_if_eq (tgt := 61) hx hb dX2_snapshot_56 (by decide) (fun c_6 => ?_) (fun c_6 => ?_)
              · replace hE := hE.trans (if_pos c_6)
                refine lv_iinc (v := (nI (i26 + 1))) (lv' := [(3, .int (nI (i26 + 1))), (2, .int x26_2), (0, .ref (a 0)), (1, .int x1)]) hx hb dX2_snapshot_61 hl (k := 0) rfl (nI_1 i26) (by decide) rfl (fun ls hl => ?_)
                refine lv_goto (tgt := 26) hx hb dX2_snapshot_64 (by decide) ?_
                exact ih26 x26_2 (i26 + 1) (by omega) (by omega) ls (lv_sub hl [0, 1, 2, 3] rfl) hE
              · replace hE := hE.trans (if_neg c_6)
                refine lv_iconst (v := 0) hx hb dX2_snapshot_59 (by decide) ?_
                subst R
                exact W.iret (v := 0) hx hb hr (fun t ht hW => ⟨rfl, ht⟩) (fun _ h => by cases h) dX2_snapshot_60
            · replace hE := hE.trans (if_pos c_5)
              refine lv_iconst (v := 1) hx hb dX2_snapshot_40 (by decide) ?_
              refine lv_istore_n (lv' := [(2, .int 1), (3, .int (nI i26)), (0, .ref (a 0)), (1, .int x1)]) hx hb dX2_snapshot_41 rfl hl (by decide) rfl (fun ls hl => ?_)
              refine lv_goto (tgt := 61) hx hb dX2_snapshot_42 (by decide) ?_
              refine lv_iinc (v := (nI (i26 + 1))) (lv' := [(3, .int (nI (i26 + 1))), (2, .int 1), (0, .ref (a 0)), (1, .int x1)]) hx hb dX2_snapshot_61 hl (k := 1) rfl (nI_1 i26) (by decide) rfl (fun ls hl => ?_)
              refine lv_goto (tgt := 26) hx hb dX2_snapshot_64 (by decide) ?_
              exact ih26 1 (i26 + 1) (by omega) (by omega) ls (lv_sub hl [0, 1, 2, 3] rfl) hE
      exact lp26 13 0 0 (by omega) (by omega) ls (lv_sub hl [0, 1, 2, 3] rfl) hE
    · replace hE := hE.trans (if_pos c_2)
      refine lv_bipush (v := (-6)) hx hb dX2_snapshot_19 (by decide) ?_
      subst R
      exact W.iret (v := (-6)) hx hb hr (fun t ht hW => ⟨rfl, ht⟩) (fun _ h => by cases h) dX2_snapshot_21
