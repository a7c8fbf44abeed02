def mX2_exists (v : kG) (x1 : Int32) : Int32 :=
  if x1 < 0 then
    0
  else
    if (v 0 2) ≤ x1 then
      0
    else
      1
theorem mX2_exists_s {v : kG} {x1 : Int32} : mX2_exists v x1 =
  if x1 < 0 then
    0
  else
    if (v 0 2) ≤ x1 then
      0
    else
      1 := rfl
set_option maxHeartbeats 4000000 in
set_option maxRecDepth 100000 in
theorem c_X2_exists (l : Launch) (E : kE) (a : Nat → Nat) (v : kG) (x1 : Int32) (R : Int32) (hE : R = mX2_exists v x1) : Met l yX2_exists wsX2_exists ({ frames := 0, cells := 0, slots := 0, locals := 0 }) (kPre E [.ref (a 0), .int x1] (wLed E a v)) (kRi R) 0 0 (fun _ => False) := by
  refine Met.ofW (cc := cX2_exists) (maxL := 2) (ret := (some .boolean)) (by decide) rfl ?_
  intro p e s m args below meth c s₁ B hml hv
  obtain ⟨rfl, hK, hP⟩ := hv
  have hx := B.exec
  have hb := B.bytes
  have hr := B.returns
  have hts := atoms_spec (ws := wsX2_exists) B.pre
  have hown : s.vm.findClass RX2 = some m.cls := findClass_of_methodNamed B.named
  have hlocks := B.notSynchronized
  have hiX2 : ∀ w ∈ wsX20, w ∈ wsX2_exists := by decide +kernel
  have hf18 := hts (.fieldLink RX2 18 "SkewEdges$Ledger" "total" "I") (by decide +kernel)
  have hP : va_P E.1 vwCl (wLed E a v) s.heap := hP
  have hl := lv_entry ([.ref (a 0), .int x1]) (n := 2) (Nat.le_of_ble_eq_true rfl)
  rw [lg_entry_eq]
  generalize (lg_sl ([.ref (a 0), .int x1]) ++ List.replicate (2 - (lg_sl ([.ref (a 0), .int x1])).length) Slot.unset).toArray = ls at hl ⊢
  have hl : lv_has ls 2 [(0, .ref (a 0)), (1, .int x1)] := hl
  have hE := hE.trans mX2_exists_s
  refine lv_iload_n hx hb dX2_exists_0 rfl (lv_at hl 1 rfl) ?_
  refine lv_if_lt (tgt := 16) hx hb dX2_exists_1 (by decide) (fun c_1 => ?_) (fun c_1 => ?_)
  · have hE := hE.trans (if_pos c_1)
    refine lv_iconst (v := 0) hx hb dX2_exists_16 (by decide) ?_
    subst hE
    exact W.zret (v := 0) (ty := .boolean) hx hb hr rfl (fun t ht hW => ⟨rfl, ht⟩) (fun _ h => by cases h) dX2_exists_17
  · have hE := hE.trans (if_neg c_1)
    refine lv_iload_n hx hb dX2_exists_4 rfl (lv_at hl 1 rfl) ?_
    refine lv_aload_n hx hb dX2_exists_5 rfl (lv_at hl 0 rfl) ?_
    refine va_get (D := E.1) (ci := 1) (v := .int (v 0 2)) (C := RX2) (T := TX2) (N := 10) hx hb hts hiX2 hown hK.1 hP 0 rfl rfl 2 (by decide) hf18 (fun _ h9 => h9) rfl dX2_exists_6 ?_
    refine lv_icmp_ge (tgt := 16) hx hb dX2_exists_9 (by decide) (fun c_2 => ?_) (fun c_2 => ?_)
    · have hE := hE.trans (if_pos c_2)
      refine lv_iconst (v := 0) hx hb dX2_exists_16 (by decide) ?_
      subst hE
      exact W.zret (v := 0) (ty := .boolean) hx hb hr rfl (fun t ht hW => ⟨rfl, ht⟩) (fun _ h => by cases h) dX2_exists_17
    · have hE := hE.trans (if_neg c_2)
      refine lv_iconst (v := 1) hx hb dX2_exists_12 (by decide) ?_
      refine lv_goto (tgt := 17) hx hb dX2_exists_13 (by decide) ?_
      subst hE
      exact W.zret (v := 1) (ty := .boolean) hx hb hr rfl (fun t ht hW => ⟨rfl, ht⟩) (fun _ h => by cases h) dX2_exists_17
theorem exists_ok {v : kG} {t : Int32} (h : nOK (v 0 2)) (c : ¬ mX2_exists v t = 0) : tOK t := by
  unfold mX2_exists at c
  split at c
  · exact absurd rfl c
  · rename_i h0
    split at c
    · exact absurd rfl c
    · rename_i h2
      exact nOK.t h h0 h2
def mX2_changeRule (v : kG) (x1 : Int32) : Int32 × Int32 :=
  if ¬ (mX5_isRule x1) = 0 then
    ((v 0 0), x1)
  else
    ((-2), (v 0 0))
theorem mX2_changeRule_s {v : kG} {x1 : Int32} : mX2_changeRule v x1 =
  if ¬ (mX5_isRule x1) = 0 then
    ((v 0 0), x1)
  else
    ((-2), (v 0 0)) := rfl
set_option maxHeartbeats 4000000 in
set_option maxRecDepth 100000 in
theorem c_X2_changeRule (l : Launch) (E : kE) (a : Nat → Nat) (v : kG) (hj : kInj a 8) (x1 : Int32) (R : Int32 × Int32) (hE : R = mX2_changeRule v x1) : Met l yX2_changeRule wsX2_changeRule ({ frames := 1, cells := 0, slots := 0, locals := 20 }) (kPre E [.ref (a 0), .int x1] (wLed E a v)) (kWi E R.1 (wLed E a (rset v 0 (upd (v 0) 0 R.2))) (kA a 8)) 0 0 (kA a 8) := by
  refine Met.ofW (cc := cX2_changeRule) (maxL := 3) (ret := (some .int)) (by decide) rfl ?_
  intro p e s m args below meth c s₁ B hml hv
  obtain ⟨rfl, hK, hP⟩ := hv
  have hx := B.exec
  have hb := B.bytes
  have hr := B.returns
  have hts := atoms_spec (ws := wsX2_changeRule) B.pre
  have hown : s.vm.findClass RX2 = some m.cls := findClass_of_methodNamed B.named
  have hlocks := B.notSynchronized
  have hiX2 : ∀ w ∈ wsX20, w ∈ wsX2_changeRule := by decide +kernel
  have hf9 := hts (.fieldLink RX2 9 "SkewEdges$Ledger" "rule" "I") (by decide +kernel)
  have hS : va_S (kA a 8) s.heap s.heap [] := va_S.rf
  have hP : va_P E.1 vwCl (wLed E a v) s.heap := hP
  have hD := dLed hj v
  have hl := lv_entry ([.ref (a 0), .int x1]) (n := 3) (Nat.le_of_ble_eq_true rfl)
  rw [lg_entry_eq]
  generalize (lg_sl ([.ref (a 0), .int x1]) ++ List.replicate (3 - (lg_sl ([.ref (a 0), .int x1])).length) Slot.unset).toArray = ls at hl ⊢
  have hl : lv_has ls 3 [(0, .ref (a 0)), (1, .int x1)] := hl
  have hE := hE.trans mX2_changeRule_s
  refine lv_iload_n hx hb dX2_changeRule_0 rfl (lv_at hl 1 rfl) ?_
  refine kCallRi (va_runSN (As := [.int x1]) (rest := []) ⟨hx, hb, hml, hown, hts⟩ (c_X5_isRule l E x1 _ rfl) ⟨va_cnB 1 hts gX2_changeRule_X5_isRule_n49 rfl rfl rfl (hK.nest 1 rfl) (hts (.initialized RX5) (by decide +kernel)) (by decide +kernel) ⟨Nat.le_of_ble_eq_true rfl, Nat.le_of_ble_eq_true rfl⟩, hts (.static yX5_isRule) (by decide +kernel), trivial⟩ (kPreS hK kP0) rfl rfl hl.1 rfl (lv_room (Nat.le_of_ble_eq_true rfl)) dX2_changeRule_1 ⟨Nat.zero_le _, Nat.zero_le _⟩) ?_
  refine lv_if_ne (tgt := 10) hx hb dX2_changeRule_4 (by decide) (fun c_1 => ?_) (fun c_1 => ?_)
  · have hE := hE.trans (if_pos c_1)
    refine lv_aload_n hx hb dX2_changeRule_10 rfl (lv_at hl 0 rfl) ?_
    refine va_get (D := E.1) (ci := 1) (v := .int (v 0 0)) (C := RX2) (T := TX2) (N := 10) hx hb hts hiX2 hown hK.1 hP 0 rfl rfl 0 (by decide) hf9 (fun _ h9 => h9) rfl dX2_changeRule_11 ?_
    refine lv_istore_n (lv' := [(2, .int (v 0 0)), (0, .ref (a 0)), (1, .int x1)]) hx hb dX2_changeRule_14 rfl hl (by decide) rfl (fun ls hl => ?_)
    refine lv_aload_n hx hb dX2_changeRule_15 rfl (lv_at hl 1 rfl) ?_
    refine lv_iload_n hx hb dX2_changeRule_16 rfl (lv_at hl 2 rfl) ?_
    refine va_put (D := E.1) (ci := 1) (v := .int x1) (ty := .int) (C := RX2) (T := TX2) (N := 10) hx hb hts hiX2 tyX2 tyX2_ok nmX2 hown hK.1 hP hD hS 0 rfl rfl 0 (by decide) hf9 (fun _ h9 => h9) rfl (by decide +kernel) rfl rfl (Nat.le_of_ble_eq_true rfl) dX2_changeRule_17 (fun H locs hP _ hS => ?_)
    have hP : va_P E.1 vwCl (wLed E a (rset v 0 (upd (v 0) 0 x1))) H := hP
    have hD := dLed hj (rset v 0 (upd (v 0) 0 x1))
    refine lv_iload_n hx hb dX2_changeRule_20 rfl (lv_at hl 0 rfl) ?_
    subst hE
    exact W.iret (v := (v 0 0)) hx hb hr (fun t ht hW => ⟨rfl, by rw [ht]; exact hP, hS.F ht⟩) hS.2.2 dX2_changeRule_21
  · have hE := hE.trans (if_neg c_1)
    refine lv_bipush (v := (-2)) hx hb dX2_changeRule_7 (by decide) ?_
    subst hE
    exact W.iret (v := (-2)) hx hb hr (fun t ht hW => ⟨rfl, by rw [ht]; exact hP, hS.F ht⟩) hS.2.2 dX2_changeRule_9
def mX2_start (v : kG) : Int32 × Int32 × Int32 × (Nat → Int32) × (Nat → Int32) × (Nat → Int32) × (Nat → Int32) × (Nat → Int32) × (Nat → Int32) :=
  if (v 0 2) < 12 then
    ((v 0 2), ((v 0 1) + 1), ((v 0 2) + 1), (upd (v 1) ((v 0 2)).toNatClampNeg 0), (upd (v 2) ((v 0 2)).toNatClampNeg ((v 0 1) + 1)), (upd (v 3) ((v 0 2)).toNatClampNeg (-6)), (upd (v 4) ((v 0 2)).toNatClampNeg 0), (upd (v 5) ((v 0 2)).toNatClampNeg 0), (upd (v 6) ((v 0 2)).toNatClampNeg (-6)))
  else
    ((-4), (v 0 1), (v 0 2), (v 1), (v 2), (v 3), (v 4), (v 5), (v 6))
theorem mX2_start_s {v : kG} : mX2_start v =
  if (v 0 2) < 12 then
    ((v 0 2), ((v 0 1) + 1), ((v 0 2) + 1), (upd (v 1) ((v 0 2)).toNatClampNeg 0), (upd (v 2) ((v 0 2)).toNatClampNeg ((v 0 1) + 1)), (upd (v 3) ((v 0 2)).toNatClampNeg (-6)), (upd (v 4) ((v 0 2)).toNatClampNeg 0), (upd (v 5) ((v 0 2)).toNatClampNeg 0), (upd (v 6) ((v 0 2)).toNatClampNeg (-6)))
  else
    ((-4), (v 0 1), (v 0 2), (v 1), (v 2), (v 3), (v 4), (v 5), (v 6)) := rfl
set_option maxHeartbeats 4000000 in
set_option maxRecDepth 100000 in
theorem c_X2_start (l : Launch) (E : kE) (a : Nat → Nat) (v : kG) (hj : kInj a 8) (hn : nOK (v 0 2)) (R : Int32 × Int32 × Int32 × (Nat → Int32) × (Nat → Int32) × (Nat → Int32) × (Nat → Int32) × (Nat → Int32) × (Nat → Int32)) (hE : R = mX2_start v) : Met l yX2_start wsX2_start ({ frames := 0, cells := 0, slots := 0, locals := 0 }) (kPre E [.ref (a 0)] (wLed E a v)) (kWi E R.1 (wLed E a (rset (rset (rset (rset (rset (rset (rset v 1 R.2.2.2.1) 2 R.2.2.2.2.1) 3 R.2.2.2.2.2.1) 4 R.2.2.2.2.2.2.1) 5 R.2.2.2.2.2.2.2.1) 6 R.2.2.2.2.2.2.2.2) 0 (upd (upd (v 0) 1 R.2.1) 2 R.2.2.1))) (kA a 8)) 0 0 (kA a 8) := by
  refine Met.ofW (cc := cX2_start) (maxL := 2) (ret := (some .int)) (by decide) rfl ?_
  intro p e s m args below meth c s₁ B hml hv
  obtain ⟨rfl, hK, hP⟩ := hv
  have hx := B.exec
  have hb := B.bytes
  have hr := B.returns
  have hts := atoms_spec (ws := wsX2_start) B.pre
  have hown : s.vm.findClass RX2 = some m.cls := findClass_of_methodNamed B.named
  have hlocks := B.notSynchronized
  have hiX2 : ∀ w ∈ wsX20, w ∈ wsX2_start := by decide +kernel
  have hf15 := hts (.fieldLink RX2 15 "SkewEdges$Ledger" "moment" "I") (by decide +kernel)
  have hf18 := hts (.fieldLink RX2 18 "SkewEdges$Ledger" "total" "I") (by decide +kernel)
  have hf21 := hts (.fieldLink RX2 21 "SkewEdges$Ledger" "phase" "[I") (by decide +kernel)
  have hf25 := hts (.fieldLink RX2 25 "SkewEdges$Ledger" "beganAt" "[I") (by decide +kernel)
  have hf28 := hts (.fieldLink RX2 28 "SkewEdges$Ledger" "committedAt" "[I") (by decide +kernel)
  have hf31 := hts (.fieldLink RX2 31 "SkewEdges$Ledger" "readKeys" "[I") (by decide +kernel)
  have hf34 := hts (.fieldLink RX2 34 "SkewEdges$Ledger" "writtenKeys" "[I") (by decide +kernel)
  have hf37 := hts (.fieldLink RX2 37 "SkewEdges$Ledger" "reason" "[I") (by decide +kernel)
  have hS : va_S (kA a 8) s.heap s.heap [] := va_S.rf
  have hP : va_P E.1 vwCl (wLed E a v) s.heap := hP
  have hD := dLed hj v
  have hl := lv_entry ([.ref (a 0)]) (n := 2) (Nat.le_of_ble_eq_true rfl)
  rw [lg_entry_eq]
  generalize (lg_sl ([.ref (a 0)]) ++ List.replicate (2 - (lg_sl ([.ref (a 0)])).length) Slot.unset).toArray = ls at hl ⊢
  have hl : lv_has ls 2 [(0, .ref (a 0))] := hl
  have hE := hE.trans mX2_start_s
  refine lv_aload_n hx hb dX2_start_0 rfl (lv_at hl 0 rfl) ?_
  refine va_get (D := E.1) (ci := 1) (v := .int (v 0 2)) (C := RX2) (T := TX2) (N := 10) hx hb hts hiX2 hown hK.1 hP 0 rfl rfl 2 (by decide) hf18 (fun _ h9 => h9) rfl dX2_start_1 ?_
  refine lv_bipush (v := 12) hx hb dX2_start_4 (by decide) ?_
  refine lv_icmp_lt (tgt := 12) hx hb dX2_start_6 (by decide) (fun c_1 => ?_) (fun c_1 => ?_)
  · have hE := hE.trans (if_pos c_1)
    refine lv_aload_n hx hb dX2_start_12 rfl (lv_at hl 0 rfl) ?_
    refine va_get (D := E.1) (ci := 1) (v := .int (v 0 2)) (C := RX2) (T := TX2) (N := 10) hx hb hts hiX2 hown hK.1 hP 0 rfl rfl 2 (by decide) hf18 (fun _ h9 => h9) rfl dX2_start_13 ?_
    refine lv_istore_n (lv' := [(1, .int (v 0 2)), (0, .ref (a 0))]) hx hb dX2_start_16 rfl hl (by decide) rfl (fun ls hl => ?_)
    refine lv_aload_n hx hb dX2_start_17 rfl (lv_at hl 1 rfl) ?_
    refine lv_dup hx hb dX2_start_18 rfl ?_
    refine va_get (D := E.1) (ci := 1) (v := .int (v 0 2)) (C := RX2) (T := TX2) (N := 10) hx hb hts hiX2 hown hK.1 hP 0 rfl rfl 2 (by decide) hf18 (fun _ h9 => h9) rfl dX2_start_19 ?_
    refine lv_iconst (v := 1) hx hb dX2_start_22 (by decide) ?_
    refine lv_iadd hx hb dX2_start_23 ?_
    refine va_put (D := E.1) (ci := 1) (v := .int ((v 0 2) + 1)) (ty := .int) (C := RX2) (T := TX2) (N := 10) hx hb hts hiX2 tyX2 tyX2_ok nmX2 hown hK.1 hP hD hS 0 rfl rfl 2 (by decide) hf18 (fun _ h9 => h9) rfl (by decide +kernel) rfl rfl (Nat.le_of_ble_eq_true rfl) dX2_start_24 (fun H locs hP _ hS => ?_)
    have hP : va_P E.1 vwCl (wLed E a (rset v 0 (upd (v 0) 2 ((v 0 2) + 1)))) H := hP
    have hD := dLed hj (rset v 0 (upd (v 0) 2 ((v 0 2) + 1)))
    refine lv_aload_n hx hb dX2_start_27 rfl (lv_at hl 1 rfl) ?_
    refine lv_dup hx hb dX2_start_28 rfl ?_
    refine va_get (D := E.1) (ci := 1) (v := .int (v 0 1)) (C := RX2) (T := TX2) (N := 10) hx hb hts hiX2 hown hK.1 hP 0 rfl rfl 1 (by decide) hf15 (fun _ h9 => h9) rfl dX2_start_29 ?_
    refine lv_iconst (v := 1) hx hb dX2_start_32 (by decide) ?_
    refine lv_iadd hx hb dX2_start_33 ?_
    refine va_put (D := E.1) (ci := 1) (v := .int ((v 0 1) + 1)) (ty := .int) (C := RX2) (T := TX2) (N := 10) hx hb hts hiX2 tyX2 tyX2_ok nmX2 hown hK.1 hP hD hS 0 rfl rfl 1 (by decide) hf15 (fun _ h9 => h9) rfl (by decide +kernel) rfl rfl (Nat.le_of_ble_eq_true rfl) dX2_start_34 (fun H locs hP _ hS => ?_)
    have hP : va_P E.1 vwCl (wLed E a (rset v 0 (upd (upd (v 0) 1 ((v 0 1) + 1)) 2 ((v 0 2) + 1)))) H := hP
    have hD := dLed hj (rset v 0 (upd (upd (v 0) 1 ((v 0 1) + 1)) 2 ((v 0 2) + 1)))
    refine lv_aload_n hx hb dX2_start_37 rfl (lv_at hl 1 rfl) ?_
    refine va_get (D := E.1) (ci := 1) (v := .ref (a 1)) (C := RX2) (T := TX2) (N := 10) hx hb hts hiX2 hown hK.1 hP 0 rfl rfl 3 (by decide) hf21 (fun _ h9 => h9) rfl dX2_start_38 ?_
    refine lv_iload_n hx hb dX2_start_41 rfl (lv_at hl 0 rfl) ?_
    refine lv_iconst (v := 0) hx hb dX2_start_42 (by decide) ?_
    refine va_iast (D := E.1) hx hb hK.1 hP hD hS 1 0 rfl rfl (by first | assumption | exact tOK.in12 (by assumption) | exact vp_in_nI (by omega) (by omega)) dX2_start_43 (fun H locs hP _ hS => ?_)
    have hP : va_P E.1 vwCl (wLed E a (rset (rset v 1 (upd (v 1) ((v 0 2)).toNatClampNeg 0)) 0 (upd (upd (v 0) 1 ((v 0 1) + 1)) 2 ((v 0 2) + 1)))) H := hP
    have hD := dLed hj (rset (rset v 1 (upd (v 1) ((v 0 2)).toNatClampNeg 0)) 0 (upd (upd (v 0) 1 ((v 0 1) + 1)) 2 ((v 0 2) + 1)))
    refine lv_aload_n hx hb dX2_start_44 rfl (lv_at hl 1 rfl) ?_
    refine va_get (D := E.1) (ci := 1) (v := .ref (a 2)) (C := RX2) (T := TX2) (N := 10) hx hb hts hiX2 hown hK.1 hP 0 rfl rfl 4 (by decide) hf25 (fun _ h9 => h9) rfl dX2_start_45 ?_
    refine lv_iload_n hx hb dX2_start_48 rfl (lv_at hl 0 rfl) ?_
    refine lv_aload_n hx hb dX2_start_49 rfl (lv_at hl 1 rfl) ?_
    refine va_get (D := E.1) (ci := 1) (v := .int ((v 0 1) + 1)) (C := RX2) (T := TX2) (N := 10) hx hb hts hiX2 hown hK.1 hP 0 rfl rfl 1 (by decide) hf15 (fun _ h9 => h9) rfl dX2_start_50 ?_
    refine va_iast (D := E.1) hx hb hK.1 hP hD hS 2 0 rfl rfl (by first | assumption | exact tOK.in12 (by assumption) | exact vp_in_nI (by omega) (by omega)) dX2_start_53 (fun H locs hP _ hS => ?_)
    have hP : va_P E.1 vwCl (wLed E a (rset (rset (rset v 1 (upd (v 1) ((v 0 2)).toNatClampNeg 0)) 2 (upd (v 2) ((v 0 2)).toNatClampNeg ((v 0 1) + 1))) 0 (upd (upd (v 0) 1 ((v 0 1) + 1)) 2 ((v 0 2) + 1)))) H := hP
    have hD := dLed hj (rset (rset (rset v 1 (upd (v 1) ((v 0 2)).toNatClampNeg 0)) 2 (upd (v 2) ((v 0 2)).toNatClampNeg ((v 0 1) + 1))) 0 (upd (upd (v 0) 1 ((v 0 1) + 1)) 2 ((v 0 2) + 1)))
    refine lv_aload_n hx hb dX2_start_54 rfl (lv_at hl 1 rfl) ?_
    refine va_get (D := E.1) (ci := 1) (v := .ref (a 3)) (C := RX2) (T := TX2) (N := 10) hx hb hts hiX2 hown hK.1 hP 0 rfl rfl 5 (by decide) hf28 (fun _ h9 => h9) rfl dX2_start_55 ?_
    refine lv_iload_n hx hb dX2_start_58 rfl (lv_at hl 0 rfl) ?_
    refine lv_bipush (v := (-6)) hx hb dX2_start_59 (by decide) ?_
    refine va_iast (D := E.1) hx hb hK.1 hP hD hS 3 0 rfl rfl (by first | assumption | exact tOK.in12 (by assumption) | exact vp_in_nI (by omega) (by omega)) dX2_start_61 (fun H locs hP _ hS => ?_)
    have hP : va_P E.1 vwCl (wLed E a (rset (rset (rset (rset v 1 (upd (v 1) ((v 0 2)).toNatClampNeg 0)) 2 (upd (v 2) ((v 0 2)).toNatClampNeg ((v 0 1) + 1))) 3 (upd (v 3) ((v 0 2)).toNatClampNeg (-6))) 0 (upd (upd (v 0) 1 ((v 0 1) + 1)) 2 ((v 0 2) + 1)))) H := hP
    have hD := dLed hj (rset (rset (rset (rset v 1 (upd (v 1) ((v 0 2)).toNatClampNeg 0)) 2 (upd (v 2) ((v 0 2)).toNatClampNeg ((v 0 1) + 1))) 3 (upd (v 3) ((v 0 2)).toNatClampNeg (-6))) 0 (upd (upd (v 0) 1 ((v 0 1) + 1)) 2 ((v 0 2) + 1)))
    refine lv_aload_n hx hb dX2_start_62 rfl (lv_at hl 1 rfl) ?_
    refine va_get (D := E.1) (ci := 1) (v := .ref (a 4)) (C := RX2) (T := TX2) (N := 10) hx hb hts hiX2 hown hK.1 hP 0 rfl rfl 6 (by decide) hf31 (fun _ h9 => h9) rfl dX2_start_63 ?_
    refine lv_iload_n hx hb dX2_start_66 rfl (lv_at hl 0 rfl) ?_
    refine lv_iconst (v := 0) hx hb dX2_start_67 (by decide) ?_
    refine va_iast (D := E.1) hx hb hK.1 hP hD hS 4 0 rfl rfl (by first | assumption | exact tOK.in12 (by assumption) | exact vp_in_nI (by omega) (by omega)) dX2_start_68 (fun H locs hP _ hS => ?_)
    have hP : va_P E.1 vwCl (wLed E a (rset (rset (rset (rset (rset v 1 (upd (v 1) ((v 0 2)).toNatClampNeg 0)) 2 (upd (v 2) ((v 0 2)).toNatClampNeg ((v 0 1) + 1))) 3 (upd (v 3) ((v 0 2)).toNatClampNeg (-6))) 4 (upd (v 4) ((v 0 2)).toNatClampNeg 0)) 0 (upd (upd (v 0) 1 ((v 0 1) + 1)) 2 ((v 0 2) + 1)))) H := hP
    have hD := dLed hj (rset (rset (rset (rset (rset v 1 (upd (v 1) ((v 0 2)).toNatClampNeg 0)) 2 (upd (v 2) ((v 0 2)).toNatClampNeg ((v 0 1) + 1))) 3 (upd (v 3) ((v 0 2)).toNatClampNeg (-6))) 4 (upd (v 4) ((v 0 2)).toNatClampNeg 0)) 0 (upd (upd (v 0) 1 ((v 0 1) + 1)) 2 ((v 0 2) + 1)))
    refine lv_aload_n hx hb dX2_start_69 rfl (lv_at hl 1 rfl) ?_
    refine va_get (D := E.1) (ci := 1) (v := .ref (a 5)) (C := RX2) (T := TX2) (N := 10) hx hb hts hiX2 hown hK.1 hP 0 rfl rfl 7 (by decide) hf34 (fun _ h9 => h9) rfl dX2_start_70 ?_
    refine lv_iload_n hx hb dX2_start_73 rfl (lv_at hl 0 rfl) ?_
    refine lv_iconst (v := 0) hx hb dX2_start_74 (by decide) ?_
    refine va_iast (D := E.1) hx hb hK.1 hP hD hS 5 0 rfl rfl (by first | assumption | exact tOK.in12 (by assumption) | exact vp_in_nI (by omega) (by omega)) dX2_start_75 (fun H locs hP _ hS => ?_)
    have hP : va_P E.1 vwCl (wLed E a (rset (rset (rset (rset (rset (rset v 1 (upd (v 1) ((v 0 2)).toNatClampNeg 0)) 2 (upd (v 2) ((v 0 2)).toNatClampNeg ((v 0 1) + 1))) 3 (upd (v 3) ((v 0 2)).toNatClampNeg (-6))) 4 (upd (v 4) ((v 0 2)).toNatClampNeg 0)) 5 (upd (v 5) ((v 0 2)).toNatClampNeg 0)) 0 (upd (upd (v 0) 1 ((v 0 1) + 1)) 2 ((v 0 2) + 1)))) H := hP
    have hD := dLed hj (rset (rset (rset (rset (rset (rset v 1 (upd (v 1) ((v 0 2)).toNatClampNeg 0)) 2 (upd (v 2) ((v 0 2)).toNatClampNeg ((v 0 1) + 1))) 3 (upd (v 3) ((v 0 2)).toNatClampNeg (-6))) 4 (upd (v 4) ((v 0 2)).toNatClampNeg 0)) 5 (upd (v 5) ((v 0 2)).toNatClampNeg 0)) 0 (upd (upd (v 0) 1 ((v 0 1) + 1)) 2 ((v 0 2) + 1)))
    refine lv_aload_n hx hb dX2_start_76 rfl (lv_at hl 1 rfl) ?_
    refine va_get (D := E.1) (ci := 1) (v := .ref (a 6)) (C := RX2) (T := TX2) (N := 10) hx hb hts hiX2 hown hK.1 hP 0 rfl rfl 8 (by decide) hf37 (fun _ h9 => h9) rfl dX2_start_77 ?_
    refine lv_iload_n hx hb dX2_start_80 rfl (lv_at hl 0 rfl) ?_
    refine lv_bipush (v := (-6)) hx hb dX2_start_81 (by decide) ?_
    refine va_iast (D := E.1) hx hb hK.1 hP hD hS 6 0 rfl rfl (by first | assumption | exact tOK.in12 (by assumption) | exact vp_in_nI (by omega) (by omega)) dX2_start_83 (fun H locs hP _ hS => ?_)
    have hP : va_P E.1 vwCl (wLed E a (rset (rset (rset (rset (rset (rset (rset v 1 (upd (v 1) ((v 0 2)).toNatClampNeg 0)) 2 (upd (v 2) ((v 0 2)).toNatClampNeg ((v 0 1) + 1))) 3 (upd (v 3) ((v 0 2)).toNatClampNeg (-6))) 4 (upd (v 4) ((v 0 2)).toNatClampNeg 0)) 5 (upd (v 5) ((v 0 2)).toNatClampNeg 0)) 6 (upd (v 6) ((v 0 2)).toNatClampNeg (-6))) 0 (upd (upd (v 0) 1 ((v 0 1) + 1)) 2 ((v 0 2) + 1)))) H := hP
    have hD := dLed hj (rset (rset (rset (rset (rset (rset (rset v 1 (upd (v 1) ((v 0 2)).toNatClampNeg 0)) 2 (upd (v 2) ((v 0 2)).toNatClampNeg ((v 0 1) + 1))) 3 (upd (v 3) ((v 0 2)).toNatClampNeg (-6))) 4 (upd (v 4) ((v 0 2)).toNatClampNeg 0)) 5 (upd (v 5) ((v 0 2)).toNatClampNeg 0)) 6 (upd (v 6) ((v 0 2)).toNatClampNeg (-6))) 0 (upd (upd (v 0) 1 ((v 0 1) + 1)) 2 ((v 0 2) + 1)))
    refine lv_iload_n hx hb dX2_start_84 rfl (lv_at hl 0 rfl) ?_
    subst hE
    exact W.iret (v := (v 0 2)) hx hb hr (fun t ht hW => ⟨rfl, by rw [ht]; exact hP, hS.F ht⟩) hS.2.2 dX2_start_85
  · have hE := hE.trans (if_neg c_1)
    refine lv_bipush (v := (-4)) hx hb dX2_start_9 (by decide) ?_
    subst hE
    exact W.iret (v := (-4)) hx hb hr (fun t ht hW => ⟨rfl, by rw [ht]; exact hP, hS.F ht⟩) hS.2.2 dX2_start_11
def mX2_inPhase_L4 (v : kG) (x1 : Int32) : Nat → Int32 → Nat → (Int32)
  | 0, _, _ => 0
  | n4 + 1, x4_2, i4 =>
    if (v 0 2) ≤ (nI i4) then
      x4_2
    else
      if ¬ ((v 1) ((nI i4)).toNatClampNeg) = x1 then
        mX2_inPhase_L4 v x1 n4 x4_2 (i4 + 1)
      else
        mX2_inPhase_L4 v x1 n4 (x4_2 ||| (1 <<< ((nI i4) &&& 31))) (i4 + 1)
theorem mX2_inPhase_L4_s {v : kG} {x1 : Int32} {n4 : Nat} {x4_2 : Int32} {i4 : Nat} : mX2_inPhase_L4 v x1 (n4 + 1) x4_2 i4 =
    if (v 0 2) ≤ (nI i4) then
      x4_2
    else
      if ¬ ((v 1) ((nI i4)).toNatClampNeg) = x1 then
        mX2_inPhase_L4 v x1 n4 x4_2 (i4 + 1)
      else
        mX2_inPhase_L4 v x1 n4 (x4_2 ||| (1 <<< ((nI i4) &&& 31))) (i4 + 1) := rfl
def mX2_inPhase (v : kG) (x1 : Int32) : Int32 :=
  mX2_inPhase_L4 v x1 13 0 0
theorem mX2_inPhase_s {v : kG} {x1 : Int32} : mX2_inPhase v x1 =
  mX2_inPhase_L4 v x1 13 0 0 := rfl
set_option maxHeartbeats 4000000 in
set_option maxRecDepth 100000 in
theorem c_X2_inPhase (l : Launch) (E : kE) (a : Nat → Nat) (v : kG) (x1 : Int32) (hn : nOK (v 0 2)) (R : Int32) (hE : R = mX2_inPhase v x1) : Met l yX2_inPhase wsX2_inPhase ({ frames := 0, cells := 0, slots := 0, locals := 0 }) (kPre E [.ref (a 0), .int x1] (wLed E a v)) (kRi R) 0 0 (fun _ => False) := by
  refine Met.ofW (cc := cX2_inPhase) (maxL := 4) (ret := (some .int)) (by decide) rfl ?_
  intro p e s m args below meth c s₁ B hml hv
  obtain ⟨rfl, hK, hP⟩ := hv
  have hx := B.exec
  have hb := B.bytes
  have hr := B.returns
  have hts := atoms_spec (ws := wsX2_inPhase) B.pre
  have hown : s.vm.findClass RX2 = some m.cls := findClass_of_methodNamed B.named
  have hlocks := B.notSynchronized
  have hiX2 : ∀ w ∈ wsX20, w ∈ wsX2_inPhase := by decide +kernel
  have hf18 := hts (.fieldLink RX2 18 "SkewEdges$Ledger" "total" "I") (by decide +kernel)
  have hf21 := hts (.fieldLink RX2 21 "SkewEdges$Ledger" "phase" "[I") (by decide +kernel)
  have hP : va_P E.1 vwCl (wLed E a v) s.heap := hP
  have hl := lv_entry ([.ref (a 0), .int x1]) (n := 4) (Nat.le_of_ble_eq_true rfl)
  rw [lg_entry_eq]
  generalize (lg_sl ([.ref (a 0), .int x1]) ++ List.replicate (4 - (lg_sl ([.ref (a 0), .int x1])).length) Slot.unset).toArray = ls at hl ⊢
  have hl : lv_has ls 4 [(0, .ref (a 0)), (1, .int x1)] := hl
  have hE := hE.trans mX2_inPhase_s
  refine lv_iconst (v := 0) hx hb dX2_inPhase_0 (by decide) ?_
  refine lv_istore_n (lv' := [(2, .int 0), (0, .ref (a 0)), (1, .int x1)]) hx hb dX2_inPhase_1 rfl hl (by decide) rfl (fun ls hl => ?_)
  refine lv_iconst (v := 0) hx hb dX2_inPhase_2 (by decide) ?_
  refine lv_istore_n (lv' := [(3, .int 0), (2, .int 0), (0, .ref (a 0)), (1, .int x1)]) hx hb dX2_inPhase_3 rfl hl (by decide) rfl (fun ls hl => ?_)
  have lp4 : ∀ (n4 : Nat) (x4_2 : Int32) (i4 : Nat), 12 < i4 + n4 → i4 ≤ 12 → ∀ ls : Array Slot, lv_has ls 4 [(3, .int (nI i4)), (2, .int x4_2), (0, .ref (a 0)), (1, .int x1)] → R = mX2_inPhase_L4 v x1 n4 x4_2 i4 → W p l e ({ frames := 0, cells := 0, slots := 0, locals := 0 }) s m ([.ref (a 0), .int x1] : List Value).toArray below meth c s.heap [] 0 0 (MQ below (kRi R) ([.ref (a 0), .int x1] : List Value).toArray s 0 0 (fun _ => False)) (F0 m 4 ls []) := by
    intro n4
    induction n4 with
    | zero =>
      intro x4_2 i4 hm4 hi4 ls hl hE
      exact absurd hm4 (by omega)
    | succ n4 ih4 =>
      intro x4_2 i4 hm4 hi4 ls hl hE
      have hE := hE.trans mX2_inPhase_L4_s
      refine lv_iload_n hx hb dX2_inPhase_4 rfl (lv_at hl 0 rfl) ?_
      refine lv_aload_n hx hb dX2_inPhase_5 rfl (lv_at hl 2 rfl) ?_
      refine va_get (D := E.1) (ci := 1) (v := .int (v 0 2)) (C := RX2) (T := TX2) (N := 10) hx hb hts hiX2 hown hK.1 hP 0 rfl rfl 2 (by decide) hf18 (fun _ h9 => h9) rfl dX2_inPhase_6 ?_
      refine lv_icmp_ge (tgt := 34) hx hb dX2_inPhase_9 (by decide) (fun c_1 => ?_) (fun c_1 => ?_)
      · have hE := hE.trans (if_pos c_1)
        refine lv_iload_n hx hb dX2_inPhase_34 rfl (lv_at hl 1 rfl) ?_
        subst hE
        exact W.iret (v := x4_2) hx hb hr (fun t ht hW => ⟨rfl, ht⟩) (fun _ h => by cases h) dX2_inPhase_35
      · have hE := hE.trans (if_neg c_1)
        have hbc_1 : i4 < 12 := nOK.lt (by assumption) (by omega) c_1
        refine lv_aload_n hx hb dX2_inPhase_12 rfl (lv_at hl 2 rfl) ?_
        refine va_get (D := E.1) (ci := 1) (v := .ref (a 1)) (C := RX2) (T := TX2) (N := 10) hx hb hts hiX2 hown hK.1 hP 0 rfl rfl 3 (by decide) hf21 (fun _ h9 => h9) rfl dX2_inPhase_13 ?_
        refine lv_iload_n hx hb dX2_inPhase_16 rfl (lv_at hl 0 rfl) ?_
        refine va_iald (D := E.1) hx hb hK.1 hP 1 0 rfl rfl (by first | assumption | exact tOK.in12 (by assumption) | exact vp_in_nI (by omega) (by omega)) dX2_inPhase_17 ?_
        refine lv_iload_n hx hb dX2_inPhase_18 rfl (lv_at hl 3 rfl) ?_
        refine lv_icmp_ne (tgt := 28) hx hb dX2_inPhase_19 (by decide) (fun c_2 => ?_) (fun c_2 => ?_)
        · have hE := hE.trans (if_pos c_2)
          refine lv_iinc (v := (nI (i4 + 1))) (lv' := [(3, .int (nI (i4 + 1))), (2, .int x4_2), (0, .ref (a 0)), (1, .int x1)]) hx hb dX2_inPhase_28 hl (k := 0) rfl (nI_1 i4) (by decide) rfl (fun ls hl => ?_)
          refine lv_goto (tgt := 4) hx hb dX2_inPhase_31 (by decide) ?_
          exact ih4 x4_2 (i4 + 1) (by omega) (by omega) ls (lv_sub hl [0, 1, 2, 3] rfl) hE
        · have hE := hE.trans (if_neg c_2)
          refine lv_iload_n hx hb dX2_inPhase_22 rfl (lv_at hl 1 rfl) ?_
          refine lv_iconst (v := 1) hx hb dX2_inPhase_23 (by decide) ?_
          refine lv_iload_n hx hb dX2_inPhase_24 rfl (lv_at hl 0 rfl) ?_
          refine lv_ishl hx hb dX2_inPhase_25 ?_
          refine lv_ior hx hb dX2_inPhase_26 ?_
          refine lv_istore_n (lv' := [(2, .int (x4_2 ||| (1 <<< ((nI i4) &&& 31)))), (3, .int (nI i4)), (0, .ref (a 0)), (1, .int x1)]) hx hb dX2_inPhase_27 rfl hl (by decide) rfl (fun ls hl => ?_)
          refine lv_iinc (v := (nI (i4 + 1))) (lv' := [(3, .int (nI (i4 + 1))), (2, .int (x4_2 ||| (1 <<< ((nI i4) &&& 31)))), (0, .ref (a 0)), (1, .int x1)]) hx hb dX2_inPhase_28 hl (k := 1) rfl (nI_1 i4) (by decide) rfl (fun ls hl => ?_)
          refine lv_goto (tgt := 4) hx hb dX2_inPhase_31 (by decide) ?_
          exact ih4 (x4_2 ||| (1 <<< ((nI i4) &&& 31))) (i4 + 1) (by omega) (by omega) ls (lv_sub hl [0, 1, 2, 3] rfl) hE
  exact lp4 13 0 0 (by omega) (by omega) ls (lv_sub hl [0, 1, 2, 3] rfl) hE
def mX2_writerAhead_L9 (v : kG) (x1 : Int32) (x2 : Int32) : Nat → Int32 → Int32 → Nat → (Int32)
  | 0, _, _, _ => 0
  | n9 + 1, x9_3, x9_4, i9 =>
    if (v 0 2) ≤ (nI i9) then
      x9_3
    else
      if ¬ ((v 1) ((nI i9)).toNatClampNeg) = 1 then
        mX2_writerAhead_L9 v x1 x2 n9 x9_3 x9_4 (i9 + 1)
      else
        if (mX5_contains ((v 5) ((nI i9)).toNatClampNeg) x1) = 0 then
          mX2_writerAhead_L9 v x1 x2 n9 x9_3 x9_4 (i9 + 1)
        else
          if x2 ≤ ((v 3) ((nI i9)).toNatClampNeg) then
            mX2_writerAhead_L9 v x1 x2 n9 x9_3 x9_4 (i9 + 1)
          else
            if ((v 3) ((nI i9)).toNatClampNeg) ≤ x9_4 then
              mX2_writerAhead_L9 v x1 x2 n9 x9_3 x9_4 (i9 + 1)
            else
              mX2_writerAhead_L9 v x1 x2 n9 (nI i9) ((v 3) ((nI i9)).toNatClampNeg) (i9 + 1)
theorem mX2_writerAhead_L9_s {v : kG} {x1 : Int32} {x2 : Int32} {n9 : Nat} {x9_3 : Int32} {x9_4 : Int32} {i9 : Nat} : mX2_writerAhead_L9 v x1 x2 (n9 + 1) x9_3 x9_4 i9 =
    if (v 0 2) ≤ (nI i9) then
      x9_3
    else
      if ¬ ((v 1) ((nI i9)).toNatClampNeg) = 1 then
        mX2_writerAhead_L9 v x1 x2 n9 x9_3 x9_4 (i9 + 1)
      else
        if (mX5_contains ((v 5) ((nI i9)).toNatClampNeg) x1) = 0 then
          mX2_writerAhead_L9 v x1 x2 n9 x9_3 x9_4 (i9 + 1)
        else
          if x2 ≤ ((v 3) ((nI i9)).toNatClampNeg) then
            mX2_writerAhead_L9 v x1 x2 n9 x9_3 x9_4 (i9 + 1)
          else
            if ((v 3) ((nI i9)).toNatClampNeg) ≤ x9_4 then
              mX2_writerAhead_L9 v x1 x2 n9 x9_3 x9_4 (i9 + 1)
            else
              mX2_writerAhead_L9 v x1 x2 n9 (nI i9) ((v 3) ((nI i9)).toNatClampNeg) (i9 + 1) := rfl
def mX2_writerAhead (v : kG) (x1 : Int32) (x2 : Int32) : Int32 :=
  mX2_writerAhead_L9 v x1 x2 13 (-6) 0 0
theorem mX2_writerAhead_s {v : kG} {x1 : Int32} {x2 : Int32} : mX2_writerAhead v x1 x2 =
  mX2_writerAhead_L9 v x1 x2 13 (-6) 0 0 := rfl
set_option maxHeartbeats 4000000 in
set_option maxRecDepth 100000 in
theorem c_X2_writerAhead (l : Launch) (E : kE) (a : Nat → Nat) (v : kG) (x1 : Int32) (x2 : Int32) (hn : nOK (v 0 2)) (R : Int32) (hE : R = mX2_writerAhead v x1 x2) : Met l yX2_writerAhead wsX2_writerAhead ({ frames := 1, cells := 0, slots := 0, locals := 21 }) (kPre E [.ref (a 0), .int x1, .int x2] (wLed E a v)) (kRi R) 0 0 (fun _ => False) := by
  refine Met.ofW (cc := cX2_writerAhead) (maxL := 6) (ret := (some .int)) (by decide) rfl ?_
  intro p e s m args below meth c s₁ B hml hv
  obtain ⟨rfl, hK, hP⟩ := hv
  have hx := B.exec
  have hb := B.bytes
  have hr := B.returns
  have hts := atoms_spec (ws := wsX2_writerAhead) B.pre
  have hown : s.vm.findClass RX2 = some m.cls := findClass_of_methodNamed B.named
  have hlocks := B.notSynchronized
  have hiX2 : ∀ w ∈ wsX20, w ∈ wsX2_writerAhead := by decide +kernel
  have hf18 := hts (.fieldLink RX2 18 "SkewEdges$Ledger" "total" "I") (by decide +kernel)
  have hf21 := hts (.fieldLink RX2 21 "SkewEdges$Ledger" "phase" "[I") (by decide +kernel)
  have hf28 := hts (.fieldLink RX2 28 "SkewEdges$Ledger" "committedAt" "[I") (by decide +kernel)
  have hf34 := hts (.fieldLink RX2 34 "SkewEdges$Ledger" "writtenKeys" "[I") (by decide +kernel)
  have hP : va_P E.1 vwCl (wLed E a v) s.heap := hP
  have hl := lv_entry ([.ref (a 0), .int x1, .int x2]) (n := 6) (Nat.le_of_ble_eq_true rfl)
  rw [lg_entry_eq]
  generalize (lg_sl ([.ref (a 0), .int x1, .int x2]) ++ List.replicate (6 - (lg_sl ([.ref (a 0), .int x1, .int x2])).length) Slot.unset).toArray = ls at hl ⊢
  have hl : lv_has ls 6 [(0, .ref (a 0)), (1, .int x1), (2, .int x2)] := hl
  have hE := hE.trans mX2_writerAhead_s
  refine lv_bipush (v := (-6)) hx hb dX2_writerAhead_0 (by decide) ?_
  refine lv_istore_n (lv' := [(3, .int (-6)), (0, .ref (a 0)), (1, .int x1), (2, .int x2)]) hx hb dX2_writerAhead_2 rfl hl (by decide) rfl (fun ls hl => ?_)
  refine lv_iconst (v := 0) hx hb dX2_writerAhead_3 (by decide) ?_
  refine lv_istore (lv' := [(4, .int 0), (3, .int (-6)), (0, .ref (a 0)), (1, .int x1), (2, .int x2)]) hx hb dX2_writerAhead_4 hl (by decide) rfl (fun ls hl => ?_)
  refine lv_iconst (v := 0) hx hb dX2_writerAhead_6 (by decide) ?_
  refine lv_istore (lv' := [(5, .int 0), (4, .int 0), (3, .int (-6)), (0, .ref (a 0)), (1, .int x1), (2, .int x2)]) hx hb dX2_writerAhead_7 hl (by decide) rfl (fun ls hl => ?_)
  have lp9 : ∀ (n9 : Nat) (x9_3 : Int32) (x9_4 : Int32) (i9 : Nat), 12 < i9 + n9 → i9 ≤ 12 → ∀ ls : Array Slot, lv_has ls 6 [(5, .int (nI i9)), (4, .int x9_4), (3, .int x9_3), (0, .ref (a 0)), (1, .int x1), (2, .int x2)] → R = mX2_writerAhead_L9 v x1 x2 n9 x9_3 x9_4 i9 → W p l e ({ frames := 1, cells := 0, slots := 0, locals := 21 }) s m ([.ref (a 0), .int x1, .int x2] : List Value).toArray below meth c s.heap [] 0 0 (MQ below (kRi R) ([.ref (a 0), .int x1, .int x2] : List Value).toArray s 0 0 (fun _ => False)) (F0 m 9 ls []) := by
    intro n9
    induction n9 with
    | zero =>
      intro x9_3 x9_4 i9 hm9 hi9 ls hl hE
      exact absurd hm9 (by omega)
    | succ n9 ih9 =>
      intro x9_3 x9_4 i9 hm9 hi9 ls hl hE
      have hE := hE.trans mX2_writerAhead_L9_s
      refine lv_iload hx hb dX2_writerAhead_9 (lv_at hl 0 rfl) ?_
      refine lv_aload_n hx hb dX2_writerAhead_11 rfl (lv_at hl 3 rfl) ?_
      refine va_get (D := E.1) (ci := 1) (v := .int (v 0 2)) (C := RX2) (T := TX2) (N := 10) hx hb hts hiX2 hown hK.1 hP 0 rfl rfl 2 (by decide) hf18 (fun _ h9 => h9) rfl dX2_writerAhead_12 ?_
      refine lv_icmp_ge (tgt := 84) hx hb dX2_writerAhead_15 (by decide) (fun c_1 => ?_) (fun c_1 => ?_)
      · have hE := hE.trans (if_pos c_1)
        refine lv_iload_n hx hb dX2_writerAhead_84 rfl (lv_at hl 2 rfl) ?_
        subst hE
        exact W.iret (v := x9_3) hx hb hr (fun t ht hW => ⟨rfl, ht⟩) (fun _ h => by cases h) dX2_writerAhead_85
      · have hE := hE.trans (if_neg c_1)
        have hbc_1 : i9 < 12 := nOK.lt (by assumption) (by omega) c_1
        refine lv_aload_n hx hb dX2_writerAhead_18 rfl (lv_at hl 3 rfl) ?_
        refine va_get (D := E.1) (ci := 1) (v := .ref (a 1)) (C := RX2) (T := TX2) (N := 10) hx hb hts hiX2 hown hK.1 hP 0 rfl rfl 3 (by decide) hf21 (fun _ h9 => h9) rfl dX2_writerAhead_19 ?_
        refine lv_iload hx hb dX2_writerAhead_22 (lv_at hl 0 rfl) ?_
        refine va_iald (D := E.1) hx hb hK.1 hP 1 0 rfl rfl (by first | assumption | exact tOK.in12 (by assumption) | exact vp_in_nI (by omega) (by omega)) dX2_writerAhead_24 ?_
        refine lv_iconst (v := 1) hx hb dX2_writerAhead_25 (by decide) ?_
        refine lv_icmp_ne (tgt := 78) hx hb dX2_writerAhead_26 (by decide) (fun c_2 => ?_) (fun c_2 => ?_)
        · have hE := hE.trans (if_pos c_2)
          refine lv_iinc (v := (nI (i9 + 1))) (lv' := [(5, .int (nI (i9 + 1))), (4, .int x9_4), (3, .int x9_3), (0, .ref (a 0)), (1, .int x1), (2, .int x2)]) hx hb dX2_writerAhead_78 hl (k := 0) rfl (nI_1 i9) (by decide) rfl (fun ls hl => ?_)
          refine lv_goto (tgt := 9) hx hb dX2_writerAhead_81 (by decide) ?_
          exact ih9 x9_3 x9_4 (i9 + 1) (by omega) (by omega) ls (lv_sub hl [0, 1, 2, 3, 4, 5] rfl) hE
        · have hE := hE.trans (if_neg c_2)
          refine lv_aload_n hx hb dX2_writerAhead_29 rfl (lv_at hl 3 rfl) ?_
          refine va_get (D := E.1) (ci := 1) (v := .ref (a 5)) (C := RX2) (T := TX2) (N := 10) hx hb hts hiX2 hown hK.1 hP 0 rfl rfl 7 (by decide) hf34 (fun _ h9 => h9) rfl dX2_writerAhead_30 ?_
          refine lv_iload hx hb dX2_writerAhead_33 (lv_at hl 0 rfl) ?_
          refine va_iald (D := E.1) hx hb hK.1 hP 5 0 rfl rfl (by first | assumption | exact tOK.in12 (by assumption) | exact vp_in_nI (by omega) (by omega)) dX2_writerAhead_35 ?_
          refine lv_iload_n hx hb dX2_writerAhead_36 rfl (lv_at hl 4 rfl) ?_
          refine kCallRi (va_runSN (As := [.int ((v 5) ((nI i9)).toNatClampNeg), .int x1]) (rest := []) ⟨hx, hb, hml, hown, hts⟩ (c_X5_contains l E ((v 5) ((nI i9)).toNatClampNeg) x1 _ rfl) ⟨va_cnB 2 hts gX2_writerAhead_X5_contains_n59 rfl rfl rfl (hK.nest 3 rfl) (hts (.initialized RX5) (by decide +kernel)) (by decide +kernel) ⟨Nat.le_of_ble_eq_true rfl, Nat.le_of_ble_eq_true rfl⟩, hts (.static yX5_contains) (by decide +kernel), trivial⟩ (kPreS hK kP0) rfl rfl hl.1 rfl (lv_room (Nat.le_of_ble_eq_true rfl)) dX2_writerAhead_37 ⟨Nat.zero_le _, Nat.zero_le _⟩) ?_
          refine lv_if_eq (tgt := 78) hx hb dX2_writerAhead_40 (by decide) (fun c_3 => ?_) (fun c_3 => ?_)
          · have hE := hE.trans (if_pos c_3)
            refine lv_iinc (v := (nI (i9 + 1))) (lv' := [(5, .int (nI (i9 + 1))), (4, .int x9_4), (3, .int x9_3), (0, .ref (a 0)), (1, .int x1), (2, .int x2)]) hx hb dX2_writerAhead_78 hl (k := 0) rfl (nI_1 i9) (by decide) rfl (fun ls hl => ?_)
            refine lv_goto (tgt := 9) hx hb dX2_writerAhead_81 (by decide) ?_
            exact ih9 x9_3 x9_4 (i9 + 1) (by omega) (by omega) ls (lv_sub hl [0, 1, 2, 3, 4, 5] rfl) hE
          · have hE := hE.trans (if_neg c_3)
            refine lv_aload_n hx hb dX2_writerAhead_43 rfl (lv_at hl 3 rfl) ?_
            refine va_get (D := E.1) (ci := 1) (v := .ref (a 3)) (C := RX2) (T := TX2) (N := 10) hx hb hts hiX2 hown hK.1 hP 0 rfl rfl 5 (by decide) hf28 (fun _ h9 => h9) rfl dX2_writerAhead_44 ?_
            refine lv_iload hx hb dX2_writerAhead_47 (lv_at hl 0 rfl) ?_
            refine va_iald (D := E.1) hx hb hK.1 hP 3 0 rfl rfl (by first | assumption | exact tOK.in12 (by assumption) | exact vp_in_nI (by omega) (by omega)) dX2_writerAhead_49 ?_
            refine lv_iload_n hx hb dX2_writerAhead_50 rfl (lv_at hl 5 rfl) ?_
            refine lv_icmp_ge (tgt := 78) hx hb dX2_writerAhead_51 (by decide) (fun c_4 => ?_) (fun c_4 => ?_)
            · have hE := hE.trans (if_pos c_4)
              refine lv_iinc (v := (nI (i9 + 1))) (lv' := [(5, .int (nI (i9 + 1))), (4, .int x9_4), (3, .int x9_3), (0, .ref (a 0)), (1, .int x1), (2, .int x2)]) hx hb dX2_writerAhead_78 hl (k := 0) rfl (nI_1 i9) (by decide) rfl (fun ls hl => ?_)
              refine lv_goto (tgt := 9) hx hb dX2_writerAhead_81 (by decide) ?_
              exact ih9 x9_3 x9_4 (i9 + 1) (by omega) (by omega) ls (lv_sub hl [0, 1, 2, 3, 4, 5] rfl) hE
            · have hE := hE.trans (if_neg c_4)
              refine lv_aload_n hx hb dX2_writerAhead_54 rfl (lv_at hl 3 rfl) ?_
              refine va_get (D := E.1) (ci := 1) (v := .ref (a 3)) (C := RX2) (T := TX2) (N := 10) hx hb hts hiX2 hown hK.1 hP 0 rfl rfl 5 (by decide) hf28 (fun _ h9 => h9) rfl dX2_writerAhead_55 ?_
              refine lv_iload hx hb dX2_writerAhead_58 (lv_at hl 0 rfl) ?_
              refine va_iald (D := E.1) hx hb hK.1 hP 3 0 rfl rfl (by first | assumption | exact tOK.in12 (by assumption) | exact vp_in_nI (by omega) (by omega)) dX2_writerAhead_60 ?_
              refine lv_iload hx hb dX2_writerAhead_61 (lv_at hl 1 rfl) ?_
              refine lv_icmp_le (tgt := 78) hx hb dX2_writerAhead_63 (by decide) (fun c_5 => ?_) (fun c_5 => ?_)
              · have hE := hE.trans (if_pos c_5)
                refine lv_iinc (v := (nI (i9 + 1))) (lv' := [(5, .int (nI (i9 + 1))), (4, .int x9_4), (3, .int x9_3), (0, .ref (a 0)), (1, .int x1), (2, .int x2)]) hx hb dX2_writerAhead_78 hl (k := 0) rfl (nI_1 i9) (by decide) rfl (fun ls hl => ?_)
                refine lv_goto (tgt := 9) hx hb dX2_writerAhead_81 (by decide) ?_
                exact ih9 x9_3 x9_4 (i9 + 1) (by omega) (by omega) ls (lv_sub hl [0, 1, 2, 3, 4, 5] rfl) hE
              · have hE := hE.trans (if_neg c_5)
                refine lv_iload hx hb dX2_writerAhead_66 (lv_at hl 0 rfl) ?_
                refine lv_istore_n (lv' := [(3, .int (nI i9)), (5, .int (nI i9)), (4, .int x9_4), (0, .ref (a 0)), (1, .int x1), (2, .int x2)]) hx hb dX2_writerAhead_68 rfl hl (by decide) rfl (fun ls hl => ?_)
                refine lv_aload_n hx hb dX2_writerAhead_69 rfl (lv_at hl 3 rfl) ?_
                refine va_get (D := E.1) (ci := 1) (v := .ref (a 3)) (C := RX2) (T := TX2) (N := 10) hx hb hts hiX2 hown hK.1 hP 0 rfl rfl 5 (by decide) hf28 (fun _ h9 => h9) rfl dX2_writerAhead_70 ?_
                refine lv_iload hx hb dX2_writerAhead_73 (lv_at hl 1 rfl) ?_
                refine va_iald (D := E.1) hx hb hK.1 hP 3 0 rfl rfl (by first | assumption | exact tOK.in12 (by assumption) | exact vp_in_nI (by omega) (by omega)) dX2_writerAhead_75 ?_
                refine lv_istore (lv' := [(4, .int ((v 3) ((nI i9)).toNatClampNeg)), (3, .int (nI i9)), (5, .int (nI i9)), (0, .ref (a 0)), (1, .int x1), (2, .int x2)]) hx hb dX2_writerAhead_76 hl (by decide) rfl (fun ls hl => ?_)
                refine lv_iinc (v := (nI (i9 + 1))) (lv' := [(5, .int (nI (i9 + 1))), (4, .int ((v 3) ((nI i9)).toNatClampNeg)), (3, .int (nI i9)), (0, .ref (a 0)), (1, .int x1), (2, .int x2)]) hx hb dX2_writerAhead_78 hl (k := 2) rfl (nI_1 i9) (by decide) rfl (fun ls hl => ?_)
                refine lv_goto (tgt := 9) hx hb dX2_writerAhead_81 (by decide) ?_
                exact ih9 (nI i9) ((v 3) ((nI i9)).toNatClampNeg) (i9 + 1) (by omega) (by omega) ls (lv_sub hl [0, 1, 2, 3, 4, 5] rfl) hE
  exact lp9 13 (-6) 0 0 (by omega) (by omega) ls (lv_sub hl [0, 1, 2, 3, 4, 5] rfl) hE
