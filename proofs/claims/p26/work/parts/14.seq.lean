def mX4_depend (u : kG) (v : kG) (x1 : Int32) (x2 : Int32) : (Nat → Int32) :=
  if x1 < 0 then
    (u 1)
  else
    if x2 < 0 then
      (u 1)
    else
      if 12 ≤ x2 then
        (u 1)
      else
        if x1 = x2 then
          (u 1)
        else
          (upd (u 1) (x2).toNatClampNeg (((u 1) (x2).toNatClampNeg) ||| (1 <<< (x1 &&& 31))))
theorem mX4_depend_s {u : kG} {v : kG} {x1 : Int32} {x2 : Int32} : mX4_depend u v x1 x2 = (
  if x1 < 0 then
    (u 1)
  else
    if x2 < 0 then
      (u 1)
    else
      if 12 ≤ x2 then
        (u 1)
      else
        if x1 = x2 then
          (u 1)
        else
          (upd (u 1) (x2).toNatClampNeg (((u 1) (x2).toNatClampNeg) ||| (1 <<< (x1 &&& 31)))) : (Nat → Int32)) := rfl
set_option maxHeartbeats 400000 in
set_option maxRecDepth 100000 in
theorem c_X4_depend (l : Launch) (E : kE) (b : Nat → Nat) (a : Nat → Nat) (u : kG) (v : kG) (hj : kInj b 3) (hj2 : kInj a 8) (hap : kAp b 3 a 8) (x1 : Int32) (x2 : Int32) (R : (Nat → Int32)) (hE : R = mX4_depend u v x1 x2) : Met l yX4_depend wsX4_depend ({ frames := 0, cells := 0, slots := 0, locals := 0 }) (kPre E [.ref (b 0), .int x1, .int x2] (wSeqx E b (u 1) (u 2) ++ wLedx E a (v 0 0) (v 0 1) (v 0 2) (v 1) (v 2) (v 3) (v 4) (v 5) (v 6) (v 7))) (kWv E (wSeqx E b R (u 2) ++ wLedx E a (v 0 0) (v 0 1) (v 0 2) (v 1) (v 2) (v 3) (v 4) (v 5) (v 6) (v 7)) (fun q => kA b 3 q ∨ kA a 8 q)) 0 0 (fun q => kA b 3 q ∨ kA a 8 q) := by
  refine Met.ofW (cc := cX4_depend) (maxL := 3) (ret := none) (by decide) rfl ?_
  intro p e s m args below meth c s₁ B hml hv
  obtain ⟨rfl, hK, hP⟩ := hv
  have hx := B.exec
  have hb := B.bytes
  have hr := B.returns
  have hts := atoms_spec (ws := wsX4_depend) B.pre
  have hown : s.vm.findClass RX4 = some m.cls := findClass_of_methodNamed B.named
  have hlocks := B.notSynchronized
  have hiX4 : ∀ w ∈ wsX40, w ∈ wsX4_depend := by decide +kernel
  have hf9 := hts (.fieldLink RX4 9 "SkewEdges$Sequence" "ahead" "[I") (by decide +kernel)
  have hS : va_S (fun q => kA b 3 q ∨ kA a 8 q) s.heap s.heap [] := va_S.rf
  have hP : va_P E.1 vwCl (wSeqx E b (u 1) (u 2) ++ wLedx E a (v 0 0) (v 0 1) (v 0 2) (v 1) (v 2) (v 3) (v 4) (v 5) (v 6) (v 7)) s.heap := hP
  have hD := kD_app (dSeq (E := E) hj (u 1) (u 2)) (dLed (E := E) hj2 (v 0 0) (v 0 1) (v 0 2) (v 1) (v 2) (v 3) (v 4) (v 5) (v 6) (v 7)) hap
  have hl := lv_entry ([.ref (b 0), .int x1, .int x2]) (n := 3) (Nat.le_of_ble_eq_true rfl)
  rw [lg_entry_eq]
  generalize (lg_sl ([.ref (b 0), .int x1, .int x2]) ++ List.replicate (3 - (lg_sl ([.ref (b 0), .int x1, .int x2])).length) Slot.unset).toArray = ls at hl ⊢
  have hl : lv_has ls 3 [(0, .ref (b 0)), (1, .int x1), (2, .int x2)] := hl
  replace hE := hE.trans mX4_depend_s
  refine lv_iload_n hx hb dX4_depend_0 rfl (lv_at hl 1 rfl) ?_
  refine lv_if_lt (tgt := 31) hx hb dX4_depend_1 (by decide) (fun c_1 => ?_) (fun c_1 => ?_)
  · replace hE := hE.trans (if_pos c_1)
    subst R
    exact W.vret hx hb hr (fun t ht hW => ⟨rfl, by rw [ht]; exact hP, hS.F ht⟩) hS.2.2 dX4_depend_31
  · replace hE := hE.trans (if_neg c_1)
    refine lv_iload_n hx hb dX4_depend_4 rfl (lv_at hl 2 rfl) ?_
    refine lv_if_lt (tgt := 31) hx hb dX4_depend_5 (by decide) (fun c_2 => ?_) (fun c_2 => ?_)
    · replace hE := hE.trans (if_pos c_2)
      subst R
      exact W.vret hx hb hr (fun t ht hW => ⟨rfl, by rw [ht]; exact hP, hS.F ht⟩) hS.2.2 dX4_depend_31
    · replace hE := hE.trans (if_neg c_2)
      refine lv_iload_n hx hb dX4_depend_8 rfl (lv_at hl 2 rfl) ?_
      refine lv_bipush (v := 12) hx hb dX4_depend_9 (by decide) ?_
      refine lv_icmp_ge (tgt := 31) hx hb dX4_depend_11 (by decide) (fun c_3 => ?_) (fun c_3 => ?_)
      · replace hE := hE.trans (if_pos c_3)
        subst R
        exact W.vret hx hb hr (fun t ht hW => ⟨rfl, by rw [ht]; exact hP, hS.F ht⟩) hS.2.2 dX4_depend_31
      · replace hE := hE.trans (if_neg c_3)
        refine lv_iload_n hx hb dX4_depend_14 rfl (lv_at hl 1 rfl) ?_
        refine lv_iload_n hx hb dX4_depend_15 rfl (lv_at hl 2 rfl) ?_
        refine lv_icmp_eq (tgt := 31) hx hb dX4_depend_16 (by decide) (fun c_4 => ?_) (fun c_4 => ?_)
        · replace hE := hE.trans (if_pos c_4)
          subst R
          exact W.vret hx hb hr (fun t ht hW => ⟨rfl, by rw [ht]; exact hP, hS.F ht⟩) hS.2.2 dX4_depend_31
        · replace hE := hE.trans (if_neg c_4)
          refine lv_aload_n hx hb dX4_depend_19 rfl (lv_at hl 0 rfl) ?_
          refine va_get (D := E.1) (ci := 3) (v := .ref (b 1)) (C := RX4) (T := TX4) (N := 2) hx hb hts hiX4 hown hK.1 hP 0 rfl rfl 0 (by decide) hf9 (fun _ h9 => h9) rfl dX4_depend_20 ?_
          refine lv_iload_n hx hb dX4_depend_23 rfl (lv_at hl 2 rfl) ?_
          refine lv_dup2_11 hx hb dX4_depend_24 rfl rfl ?_
          refine va_iald (D := E.1) hx hb hK.1 hP 1 0 rfl rfl (kin12 (by assumption) (by assumption)) dX4_depend_25 ?_
          refine lv_iconst (v := 1) hx hb dX4_depend_26 (by decide) ?_
          refine lv_iload_n hx hb dX4_depend_27 rfl (lv_at hl 1 rfl) ?_
          refine lv_ishl hx hb dX4_depend_28 ?_
          refine lv_ior hx hb dX4_depend_29 ?_
          refine va_iast (D := E.1) hx hb hK.1 hP hD hS 1 0 rfl rfl (kin12 (by assumption) (by assumption)) dX4_depend_30 (fun H locs hP _ hS => ?_)
          have hP : va_P E.1 vwCl (wSeqx E b (upd (u 1) (x2).toNatClampNeg (((u 1) (x2).toNatClampNeg) ||| (1 <<< (x1 &&& 31)))) (u 2) ++ wLedx E a (v 0 0) (v 0 1) (v 0 2) (v 1) (v 2) (v 3) (v 4) (v 5) (v 6) (v 7)) H := hP
          have hD := kD_app (dSeq (E := E) hj (upd (u 1) (x2).toNatClampNeg (((u 1) (x2).toNatClampNeg) ||| (1 <<< (x1 &&& 31)))) (u 2)) (dLed (E := E) hj2 (v 0 0) (v 0 1) (v 0 2) (v 1) (v 2) (v 3) (v 4) (v 5) (v 6) (v 7)) hap
          subst R
          exact W.vret hx hb hr (fun t ht hW => ⟨rfl, by rw [ht]; exact hP, hS.F ht⟩) hS.2.2 dX4_depend_31
def mX4_at (u : kG) (x1 : Int32) : Int32 :=
  if x1 < 0 then
    (-6)
  else
    if 12 ≤ x1 then
      (-6)
    else
      ((u 2) (x1).toNatClampNeg)
theorem mX4_at_s {u : kG} {x1 : Int32} : mX4_at u x1 = (
  if x1 < 0 then
    (-6)
  else
    if 12 ≤ x1 then
      (-6)
    else
      ((u 2) (x1).toNatClampNeg) : Int32) := rfl
set_option maxHeartbeats 400000 in
set_option maxRecDepth 100000 in
theorem c_X4_at (l : Launch) (E : kE) (b : Nat → Nat) (u : kG) (x1 : Int32) (R : Int32) (hE : R = mX4_at u x1) : Met l yX4_at wsX4_at ({ frames := 0, cells := 0, slots := 0, locals := 0 }) (kPre E [.ref (b 0), .int x1] (wSeqx E b (u 1) (u 2))) (kRi R) 0 0 (fun _ => False) := by
  refine Met.ofW (cc := cX4_at) (maxL := 2) (ret := (some .int)) (by decide) rfl ?_
  intro p e s m args below meth c s₁ B hml hv
  obtain ⟨rfl, hK, hP⟩ := hv
  have hx := B.exec
  have hb := B.bytes
  have hr := B.returns
  have hts := atoms_spec (ws := wsX4_at) B.pre
  have hown : s.vm.findClass RX4 = some m.cls := findClass_of_methodNamed B.named
  have hlocks := B.notSynchronized
  have hiX4 : ∀ w ∈ wsX40, w ∈ wsX4_at := by decide +kernel
  have hf15 := hts (.fieldLink RX4 15 "SkewEdges$Sequence" "places" "[I") (by decide +kernel)
  have hP : va_P E.1 vwCl (wSeqx E b (u 1) (u 2)) s.heap := hP
  have hl := lv_entry ([.ref (b 0), .int x1]) (n := 2) (Nat.le_of_ble_eq_true rfl)
  rw [lg_entry_eq]
  generalize (lg_sl ([.ref (b 0), .int x1]) ++ List.replicate (2 - (lg_sl ([.ref (b 0), .int x1])).length) Slot.unset).toArray = ls at hl ⊢
  have hl : lv_has ls 2 [(0, .ref (b 0)), (1, .int x1)] := hl
  replace hE := hE.trans mX4_at_s
  refine lv_iload_n hx hb dX4_at_0 rfl (lv_at hl 1 rfl) ?_
  refine lv_if_lt (tgt := 19) hx hb dX4_at_1 (by decide) (fun c_1 => ?_) (fun c_1 => ?_)
  · replace hE := hE.trans (if_pos c_1)
    refine lv_bipush (v := (-6)) hx hb dX4_at_19 (by decide) ?_
    subst R
    exact W.iret (v := (-6)) hx hb hr (fun t ht hW => ⟨rfl, ht⟩) (fun _ h => by cases h) dX4_at_21
  · replace hE := hE.trans (if_neg c_1)
    refine lv_iload_n hx hb dX4_at_4 rfl (lv_at hl 1 rfl) ?_
    refine lv_bipush (v := 12) hx hb dX4_at_5 (by decide) ?_
    refine lv_icmp_ge (tgt := 19) hx hb dX4_at_7 (by decide) (fun c_2 => ?_) (fun c_2 => ?_)
    · replace hE := hE.trans (if_pos c_2)
      refine lv_bipush (v := (-6)) hx hb dX4_at_19 (by decide) ?_
      subst R
      exact W.iret (v := (-6)) hx hb hr (fun t ht hW => ⟨rfl, ht⟩) (fun _ h => by cases h) dX4_at_21
    · replace hE := hE.trans (if_neg c_2)
      refine lv_aload_n hx hb dX4_at_10 rfl (lv_at hl 0 rfl) ?_
      refine va_get (D := E.1) (ci := 3) (v := .ref (b 2)) (C := RX4) (T := TX4) (N := 2) hx hb hts hiX4 hown hK.1 hP 0 rfl rfl 1 (by decide) hf15 (fun _ h9 => h9) rfl dX4_at_11 ?_
      refine lv_iload_n hx hb dX4_at_14 rfl (lv_at hl 1 rfl) ?_
      refine va_iald (D := E.1) hx hb hK.1 hP 2 0 rfl rfl (kin12 (by assumption) (by assumption)) dX4_at_15 ?_
      refine lv_goto (tgt := 21) hx hb dX4_at_16 (by decide) ?_
      subst R
      exact W.iret (v := ((u 2) (x1).toNatClampNeg)) hx hb hr (fun t ht hW => ⟨rfl, ht⟩) (fun _ h => by cases h) dX4_at_21
def mX4_lowestFree_L2 (u : kG) (x1 : Int32) : Nat → Nat → (Int32)
  | 0, _ => 0
  | n2 + 1, i2 =>
    if 12 ≤ (nI i2) then
      (-6)
    else
      if (mX5_contains x1 (nI i2)) = 0 then
        mX4_lowestFree_L2 u x1 n2 (i2 + 1)
      else
        if (((u 1) ((nI i2)).toNatClampNeg) &&& x1) = 0 then
          (nI i2)
        else
          mX4_lowestFree_L2 u x1 n2 (i2 + 1)
theorem mX4_lowestFree_L2_s {u : kG} {x1 : Int32} {n2 : Nat} {i2 : Nat} : mX4_lowestFree_L2 u x1 (n2 + 1) i2 = (
    if 12 ≤ (nI i2) then
      (-6)
    else
      if (mX5_contains x1 (nI i2)) = 0 then
        mX4_lowestFree_L2 u x1 n2 (i2 + 1)
      else
        if (((u 1) ((nI i2)).toNatClampNeg) &&& x1) = 0 then
          (nI i2)
        else
          mX4_lowestFree_L2 u x1 n2 (i2 + 1) : Int32) := rfl
def mX4_lowestFree (u : kG) (x1 : Int32) : Int32 :=
  mX4_lowestFree_L2 u x1 13 0
theorem mX4_lowestFree_s {u : kG} {x1 : Int32} : mX4_lowestFree u x1 = (
  mX4_lowestFree_L2 u x1 13 0 : Int32) := rfl
set_option maxHeartbeats 400000 in
set_option maxRecDepth 100000 in
theorem c_X4_lowestFree (l : Launch) (E : kE) (b : Nat → Nat) (u : kG) (x1 : Int32) (R : Int32) (hE : R = mX4_lowestFree u x1) : Met l yX4_lowestFree wsX4_lowestFree ({ frames := 1, cells := 0, slots := 0, locals := 21 }) (kPre E [.ref (b 0), .int x1] (wSeqx E b (u 1) (u 2))) (kRi R) 0 0 (fun _ => False) := by
  refine Met.ofW (cc := cX4_lowestFree) (maxL := 3) (ret := (some .int)) (by decide) rfl ?_
  intro p e s m args below meth c s₁ B hml hv
  obtain ⟨rfl, hK, hP⟩ := hv
  have hx := B.exec
  have hb := B.bytes
  have hr := B.returns
  have hts := atoms_spec (ws := wsX4_lowestFree) B.pre
  have hown : s.vm.findClass RX4 = some m.cls := findClass_of_methodNamed B.named
  have hlocks := B.notSynchronized
  have hiX4 : ∀ w ∈ wsX40, w ∈ wsX4_lowestFree := by decide +kernel
  have hf9 := hts (.fieldLink RX4 9 "SkewEdges$Sequence" "ahead" "[I") (by decide +kernel)
  have hP : va_P E.1 vwCl (wSeqx E b (u 1) (u 2)) s.heap := hP
  have hl := lv_entry ([.ref (b 0), .int x1]) (n := 3) (Nat.le_of_ble_eq_true rfl)
  rw [lg_entry_eq]
  generalize (lg_sl ([.ref (b 0), .int x1]) ++ List.replicate (3 - (lg_sl ([.ref (b 0), .int x1])).length) Slot.unset).toArray = ls at hl ⊢
  have hl : lv_has ls 3 [(0, .ref (b 0)), (1, .int x1)] := hl
  replace hE := hE.trans mX4_lowestFree_s
  refine lv_iconst (v := 0) hx hb dX4_lowestFree_0 (by decide) ?_
  refine lv_istore_n (lv' := [(2, .int 0), (0, .ref (b 0)), (1, .int x1)]) hx hb dX4_lowestFree_1 rfl hl (by decide) rfl (fun ls hl => ?_)
  have lp2 : ∀ (n2 : Nat) (i2 : Nat), (12 < i2 + n2) → (i2 ≤ 12) → ∀ ls : Array Slot, lv_has ls 3 [(2, .int (nI i2)), (0, .ref (b 0)), (1, .int x1)] → R = mX4_lowestFree_L2 u x1 n2 i2 → W p l e ({ frames := 1, cells := 0, slots := 0, locals := 21 }) s m ([.ref (b 0), .int x1] : List Value).toArray below meth c s.heap [] 0 0 (MQ below (kRi R) ([.ref (b 0), .int x1] : List Value).toArray s 0 0 (fun _ => False)) (F0 m 2 ls []) := by
    clear hE
    intro n2
    induction n2 with
    | zero =>
      intro i2 hm2 hi2 ls hl hE
      exact absurd hm2 (by omega)
    | succ n2 ih2 =>
      intro i2 hm2 hi2 ls hl hE
      replace hE := hE.trans mX4_lowestFree_L2_s
      refine lv_iload_n hx hb dX4_lowestFree_2 rfl (lv_at hl 0 rfl) ?_
      refine lv_bipush (v := 12) hx hb dX4_lowestFree_3 (by decide) ?_
      refine lv_icmp_ge (tgt := 35) hx hb dX4_lowestFree_5 (by decide) (fun c_1 => ?_) (fun c_1 => ?_)
      · replace hE := hE.trans (if_pos c_1)
        refine lv_bipush (v := (-6)) hx hb dX4_lowestFree_35 (by decide) ?_
        subst R
        exact W.iret (v := (-6)) hx hb hr (fun t ht hW => ⟨rfl, ht⟩) (fun _ h => by cases h) dX4_lowestFree_37
      · replace hE := hE.trans (if_neg c_1)
        have hbc_1 : i2 < 12 := nI_nle_lt ⟨by omega, by omega⟩ c_1
        refine lv_iload_n hx hb dX4_lowestFree_8 rfl (lv_at hl 2 rfl) ?_
        refine lv_iload_n hx hb dX4_lowestFree_9 rfl (lv_at hl 0 rfl) ?_
        refine kCallRi (va_runSN (As := [.int x1, .int (nI i2)]) (rest := []) ⟨hx, hb, hml, hown, hts⟩ (c_X5_contains l E x1 (nI i2) _ rfl) ⟨va_cnB 2 hts gX4_lowestFree_X5_contains_n36 rfl rfl rfl (hK.nest 4 rfl) (hts (.initialized RX5) (by decide +kernel)) (by decide +kernel) ⟨Nat.le_of_ble_eq_true rfl, Nat.le_of_ble_eq_true rfl⟩, hts (.static yX5_contains) (by decide +kernel), trivial⟩ (kPreS hK kP0) rfl rfl hl.1 rfl (lv_room (Nat.le_of_ble_eq_true rfl)) dX4_lowestFree_10 ⟨Nat.zero_le _, Nat.zero_le _⟩) ?_
        refine lv_if_eq (tgt := 29) hx hb dX4_lowestFree_13 (by decide) (fun c_2 => ?_) (fun c_2 => ?_)
        · replace hE := hE.trans (if_pos c_2)
          refine lv_iinc (v := (nI (i2 + 1))) (lv' := [(2, .int (nI (i2 + 1))), (0, .ref (b 0)), (1, .int x1)]) hx hb dX4_lowestFree_29 hl (k := 0) rfl (nI_1 i2) (by decide) rfl (fun ls hl => ?_)
          refine lv_goto (tgt := 2) hx hb dX4_lowestFree_32 (by decide) ?_
          exact ih2 (i2 + 1) (by omega) (by omega) ls (lv_sub hl [0, 1, 2] rfl) hE
        · replace hE := hE.trans (if_neg c_2)
          refine lv_aload_n hx hb dX4_lowestFree_16 rfl (lv_at hl 1 rfl) ?_
          refine va_get (D := E.1) (ci := 3) (v := .ref (b 1)) (C := RX4) (T := TX4) (N := 2) hx hb hts hiX4 hown hK.1 hP 0 rfl rfl 0 (by decide) hf9 (fun _ h9 => h9) rfl dX4_lowestFree_17 ?_
          refine lv_iload_n hx hb dX4_lowestFree_20 rfl (lv_at hl 0 rfl) ?_
          refine va_iald (D := E.1) hx hb hK.1 hP 1 0 rfl rfl (vp_in_nI (by omega) (by omega)) dX4_lowestFree_21 ?_
          refine lv_iload_n hx hb dX4_lowestFree_22 rfl (lv_at hl 2 rfl) ?_
          refine lv_iand hx hb dX4_lowestFree_23 ?_
          refine lv_if_ne (tgt := 29) hx hb dX4_lowestFree_24 (by decide) (fun c_3 => ?_) (fun c_3 => ?_)
          · replace hE := hE.trans (if_neg c_3)
            refine lv_iinc (v := (nI (i2 + 1))) (lv' := [(2, .int (nI (i2 + 1))), (0, .ref (b 0)), (1, .int x1)]) hx hb dX4_lowestFree_29 hl (k := 0) rfl (nI_1 i2) (by decide) rfl (fun ls hl => ?_)
            refine lv_goto (tgt := 2) hx hb dX4_lowestFree_32 (by decide) ?_
            exact ih2 (i2 + 1) (by omega) (by omega) ls (lv_sub hl [0, 1, 2] rfl) hE
          · replace hE := hE.trans (if_pos c_3)
            refine lv_iload_n hx hb dX4_lowestFree_27 rfl (lv_at hl 0 rfl) ?_
            subst R
            exact W.iret (v := (nI i2)) hx hb hr (fun t ht hW => ⟨rfl, ht⟩) (fun _ h => by cases h) dX4_lowestFree_28
  exact lp2 13 0 (by omega) (by omega) ls (lv_sub hl [0, 1, 2] rfl) hE
def mX4_gatherOverKey (u : kG) (v : kG) (x2 : Int32) (x3 : Int32) : (Nat → Int32) :=
  if (mX5_contains ((v 5) (x2).toNatClampNeg) x3) = 0 then
    if (mX5_contains ((v 4) (x2).toNatClampNeg) x3) = 0 then
      (u 1)
    else
      (fun (g_3 : (Nat → Int32)) =>
        (fun (g_4 : (Nat → Int32)) =>
          g_4)
          (mX4_depend (rset u 1 g_3) v x2 (mX2_writerBehind v x3 ((v 2) (x2).toNatClampNeg))))
        (mX4_depend u v (mX2_writerAhead v x3 ((v 2) (x2).toNatClampNeg)) x2)
  else
    (fun (g_5 : (Nat → Int32)) =>
      if (mX5_contains ((v 4) (x2).toNatClampNeg) x3) = 0 then
        g_5
      else
        (fun (g_7 : (Nat → Int32)) =>
          (fun (g_8 : (Nat → Int32)) =>
            g_8)
            (mX4_depend (rset u 1 g_7) v x2 (mX2_writerBehind v x3 ((v 2) (x2).toNatClampNeg))))
          (mX4_depend (rset u 1 g_5) v (mX2_writerAhead v x3 ((v 2) (x2).toNatClampNeg)) x2))
      (mX4_depend u v x2 (mX2_writerBehind v x3 ((v 3) (x2).toNatClampNeg)))
theorem mX4_gatherOverKey_s {u : kG} {v : kG} {x2 : Int32} {x3 : Int32} : mX4_gatherOverKey u v x2 x3 = (
  if (mX5_contains ((v 5) (x2).toNatClampNeg) x3) = 0 then
    if (mX5_contains ((v 4) (x2).toNatClampNeg) x3) = 0 then
      (u 1)
    else
      (fun (g_3 : (Nat → Int32)) =>
        (fun (g_4 : (Nat → Int32)) =>
          g_4)
          (mX4_depend (rset u 1 g_3) v x2 (mX2_writerBehind v x3 ((v 2) (x2).toNatClampNeg))))
        (mX4_depend u v (mX2_writerAhead v x3 ((v 2) (x2).toNatClampNeg)) x2)
  else
    (fun (g_5 : (Nat → Int32)) =>
      if (mX5_contains ((v 4) (x2).toNatClampNeg) x3) = 0 then
        g_5
      else
        (fun (g_7 : (Nat → Int32)) =>
          (fun (g_8 : (Nat → Int32)) =>
            g_8)
            (mX4_depend (rset u 1 g_7) v x2 (mX2_writerBehind v x3 ((v 2) (x2).toNatClampNeg))))
          (mX4_depend (rset u 1 g_5) v (mX2_writerAhead v x3 ((v 2) (x2).toNatClampNeg)) x2))
      (mX4_depend u v x2 (mX2_writerBehind v x3 ((v 3) (x2).toNatClampNeg))) : (Nat → Int32)) := rfl
set_option maxHeartbeats 400000 in
set_option maxRecDepth 100000 in
theorem c_X4_gatherOverKey (l : Launch) (E : kE) (b : Nat → Nat) (a : Nat → Nat) (u : kG) (v : kG) (hj : kInj b 3) (hj2 : kInj a 8) (hap : kAp b 3 a 8) (x2 : Int32) (x3 : Int32) (hn : nOK (v 0 2)) (ht : tOK x2) (R : (Nat → Int32)) (hE : R = mX4_gatherOverKey u v x2 x3) : Met l yX4_gatherOverKey wsX4_gatherOverKey ({ frames := 2, cells := 0, slots := 0, locals := 46 }) (kPre E [.ref (b 0), .ref (a 0), .int x2, .int x3] (wSeqx E b (u 1) (u 2) ++ wLedx E a (v 0 0) (v 0 1) (v 0 2) (v 1) (v 2) (v 3) (v 4) (v 5) (v 6) (v 7))) (kWv E (wSeqx E b R (u 2) ++ wLedx E a (v 0 0) (v 0 1) (v 0 2) (v 1) (v 2) (v 3) (v 4) (v 5) (v 6) (v 7)) (fun q => kA b 3 q ∨ kA a 8 q)) 0 0 (fun q => kA b 3 q ∨ kA a 8 q) := by
  refine Met.ofW (cc := cX4_gatherOverKey) (maxL := 4) (ret := none) (by decide) rfl ?_
  intro p e s m args below meth c s₁ B hml hv
  obtain ⟨rfl, hK, hP⟩ := hv
  have hx := B.exec
  have hb := B.bytes
  have hr := B.returns
  have hts := atoms_spec (ws := wsX4_gatherOverKey) B.pre
  have hown : s.vm.findClass RX4 = some m.cls := findClass_of_methodNamed B.named
  have hlocks := B.notSynchronized
  have hiX2 : ∀ w ∈ wsX20, w ∈ wsX4_gatherOverKey := by decide +kernel
  have hf51 := hts (.fieldLink RX4 51 "SkewEdges$Ledger" "writtenKeys" "[I") (by decide +kernel)
  have hf54 := hts (.fieldLink RX4 54 "SkewEdges$Ledger" "committedAt" "[I") (by decide +kernel)
  have hf65 := hts (.fieldLink RX4 65 "SkewEdges$Ledger" "readKeys" "[I") (by decide +kernel)
  have hf68 := hts (.fieldLink RX4 68 "SkewEdges$Ledger" "beganAt" "[I") (by decide +kernel)
  have hS : va_S (fun q => kA b 3 q ∨ kA a 8 q) s.heap s.heap [] := va_S.rf
  have hP : va_P E.1 vwCl (wSeqx E b (u 1) (u 2) ++ wLedx E a (v 0 0) (v 0 1) (v 0 2) (v 1) (v 2) (v 3) (v 4) (v 5) (v 6) (v 7)) s.heap := hP
  have hD := kD_app (dSeq (E := E) hj (u 1) (u 2)) (dLed (E := E) hj2 (v 0 0) (v 0 1) (v 0 2) (v 1) (v 2) (v 3) (v 4) (v 5) (v 6) (v 7)) hap
  have hl := lv_entry ([.ref (b 0), .ref (a 0), .int x2, .int x3]) (n := 4) (Nat.le_of_ble_eq_true rfl)
  rw [lg_entry_eq]
  generalize (lg_sl ([.ref (b 0), .ref (a 0), .int x2, .int x3]) ++ List.replicate (4 - (lg_sl ([.ref (b 0), .ref (a 0), .int x2, .int x3])).length) Slot.unset).toArray = ls at hl ⊢
  have hl : lv_has ls 4 [(0, .ref (b 0)), (1, .ref (a 0)), (2, .int x2), (3, .int x3)] := hl
  replace hE := hE.trans mX4_gatherOverKey_s
  refine lv_aload_n hx hb dX4_gatherOverKey_0 rfl (lv_at hl 1 rfl) ?_
  refine va_get (D := E.1) (ci := 1) (v := .ref (a 5)) (C := RX2) (T := TX2) (N := 10) hx hb hts hiX2 hown hK.1 hP 3 rfl rfl 7 (by decide) hf51 (fun _ h9 => h9) rfl dX4_gatherOverKey_1 ?_
  refine lv_iload_n hx hb dX4_gatherOverKey_4 rfl (lv_at hl 2 rfl) ?_
  refine va_iald (D := E.1) hx hb hK.1 hP 8 0 rfl rfl (tOK.in12 (by assumption)) dX4_gatherOverKey_5 ?_
  refine lv_iload_n hx hb dX4_gatherOverKey_6 rfl (lv_at hl 3 rfl) ?_
  refine kCallRi (va_runSN (As := [.int ((v 5) (x2).toNatClampNeg), .int x3]) (rest := []) ⟨hx, hb, hml, hown, hts⟩ (c_X5_contains l E ((v 5) (x2).toNatClampNeg) x3 _ rfl) ⟨va_cnB 2 hts gX4_gatherOverKey_X5_contains_n36 rfl rfl rfl (hK.nest 4 rfl) (hts (.initialized RX5) (by decide +kernel)) (by decide +kernel) ⟨Nat.le_of_ble_eq_true rfl, Nat.le_of_ble_eq_true rfl⟩, hts (.static yX5_contains) (by decide +kernel), trivial⟩ (kPreS hK kP0) rfl rfl hl.1 rfl (lv_room (Nat.le_of_ble_eq_true rfl)) dX4_gatherOverKey_7 ⟨Nat.zero_le _, Nat.zero_le _⟩) ?_
  refine lv_if_eq (tgt := 29) hx hb dX4_gatherOverKey_10 (by decide) (fun c_1 => ?_) (fun c_1 => ?_)
  · replace hE := hE.trans (if_pos c_1)
    refine lv_aload_n hx hb dX4_gatherOverKey_29 rfl (lv_at hl 1 rfl) ?_
    refine va_get (D := E.1) (ci := 1) (v := .ref (a 4)) (C := RX2) (T := TX2) (N := 10) hx hb hts hiX2 hown hK.1 hP 3 rfl rfl 6 (by decide) hf65 (fun _ h9 => h9) rfl dX4_gatherOverKey_30 ?_
    refine lv_iload_n hx hb dX4_gatherOverKey_33 rfl (lv_at hl 2 rfl) ?_
    refine va_iald (D := E.1) hx hb hK.1 hP 7 0 rfl rfl (tOK.in12 (by assumption)) dX4_gatherOverKey_34 ?_
    refine lv_iload_n hx hb dX4_gatherOverKey_35 rfl (lv_at hl 3 rfl) ?_
    refine kCallRi (va_runSN (As := [.int ((v 4) (x2).toNatClampNeg), .int x3]) (rest := []) ⟨hx, hb, hml, hown, hts⟩ (c_X5_contains l E ((v 4) (x2).toNatClampNeg) x3 _ rfl) ⟨va_cnB 2 hts gX4_gatherOverKey_X5_contains_n36 rfl rfl rfl (hK.nest 4 rfl) (hts (.initialized RX5) (by decide +kernel)) (by decide +kernel) ⟨Nat.le_of_ble_eq_true rfl, Nat.le_of_ble_eq_true rfl⟩, hts (.static yX5_contains) (by decide +kernel), trivial⟩ (kPreS hK kP0) rfl rfl hl.1 rfl (lv_room (Nat.le_of_ble_eq_true rfl)) dX4_gatherOverKey_36 ⟨Nat.zero_le _, Nat.zero_le _⟩) ?_
    refine lv_if_eq (tgt := 74) hx hb dX4_gatherOverKey_39 (by decide) (fun c_2 => ?_) (fun c_2 => ?_)
    · replace hE := hE.trans (if_pos c_2)
      subst R
      exact W.vret hx hb hr (fun t ht hW => ⟨rfl, by rw [ht]; exact hP, hS.F ht⟩) hS.2.2 dX4_gatherOverKey_74
    · replace hE := hE.trans (if_neg c_2)
      refine lv_aload_n hx hb dX4_gatherOverKey_42 rfl (lv_at hl 0 rfl) ?_
      refine lv_aload_n hx hb dX4_gatherOverKey_43 rfl (lv_at hl 1 rfl) ?_
      refine lv_iload_n hx hb dX4_gatherOverKey_44 rfl (lv_at hl 3 rfl) ?_
      refine lv_aload_n hx hb dX4_gatherOverKey_45 rfl (lv_at hl 1 rfl) ?_
      refine va_get (D := E.1) (ci := 1) (v := .ref (a 2)) (C := RX2) (T := TX2) (N := 10) hx hb hts hiX2 hown hK.1 hP 3 rfl rfl 4 (by decide) hf68 (fun _ h9 => h9) rfl dX4_gatherOverKey_46 ?_
      refine lv_iload_n hx hb dX4_gatherOverKey_49 rfl (lv_at hl 2 rfl) ?_
      refine va_iald (D := E.1) hx hb hK.1 hP 5 0 rfl rfl (tOK.in12 (by assumption)) dX4_gatherOverKey_50 ?_
      refine kCallRi (va_runV (As := [.int x3, .int ((v 2) (x2).toNatClampNeg)]) (rest := [.ref (b 0)]) ⟨hx, hb, hml, hown, hts⟩ (c_X2_writerAhead l E a v x3 ((v 2) (x2).toNatClampNeg) (by first | assumption | exact tOK.nI (by omega)) _ rfl) (cwV 2 hts gX4_gatherOverKey_X2_writerAhead rfl rfl rfl (by decide +kernel) ⟨Nat.le_of_ble_eq_true rfl, Nat.le_of_ble_eq_true rfl⟩) (kPreV hK hP (kP_r hP) (q0 := 3) rfl rfl) rfl rfl hl.1 rfl (lv_room (Nat.le_of_ble_eq_true rfl)) dX4_gatherOverKey_51 ⟨Nat.zero_le _, Nat.zero_le _⟩) ?_
      refine lv_iload_n hx hb dX4_gatherOverKey_54 rfl (lv_at hl 2 rfl) ?_
      refine kCallWv (va_runV (As := [.int (mX2_writerAhead v x3 ((v 2) (x2).toNatClampNeg)), .int x2]) (rest := []) ⟨hx, hb, hml, hown, hts⟩ (c_X4_depend l E b a u v hj hj2 hap (mX2_writerAhead v x3 ((v 2) (x2).toNatClampNeg)) x2 _ rfl) (cwV 2 hts gX4_gatherOverKey_X4_depend rfl rfl rfl (by decide +kernel) ⟨Nat.le_of_ble_eq_true rfl, Nat.le_of_ble_eq_true rfl⟩) (kPreV hK hP hP (q0 := 0) rfl rfl) rfl rfl hl.1 rfl (lv_room (Nat.le_of_ble_eq_true rfl)) dX4_gatherOverKey_55 ⟨Nat.zero_le _, Nat.zero_le _⟩) hS (fun _ h => h) (fun H locs hP _ _ hS => ?_)
      refine kGen (mX4_depend u v (mX2_writerAhead v x3 ((v 2) (x2).toNatClampNeg)) x2) (fun g_3 hg_3 => ?_)
      rw [hg_3] at hE hP
      try dsimp only at hE
      have hP : va_P E.1 vwCl (wSeqx E b g_3 (u 2) ++ wLedx E a (v 0 0) (v 0 1) (v 0 2) (v 1) (v 2) (v 3) (v 4) (v 5) (v 6) (v 7)) H := hP
      have hD := kD_app (dSeq (E := E) hj g_3 (u 2)) (dLed (E := E) hj2 (v 0 0) (v 0 1) (v 0 2) (v 1) (v 2) (v 3) (v 4) (v 5) (v 6) (v 7)) hap
      refine lv_aload_n hx hb dX4_gatherOverKey_58 rfl (lv_at hl 0 rfl) ?_
      refine lv_iload_n hx hb dX4_gatherOverKey_59 rfl (lv_at hl 2 rfl) ?_
      refine lv_aload_n hx hb dX4_gatherOverKey_60 rfl (lv_at hl 1 rfl) ?_
      refine lv_iload_n hx hb dX4_gatherOverKey_61 rfl (lv_at hl 3 rfl) ?_
      refine lv_aload_n hx hb dX4_gatherOverKey_62 rfl (lv_at hl 1 rfl) ?_
      refine va_get (D := E.1) (ci := 1) (v := .ref (a 2)) (C := RX2) (T := TX2) (N := 10) hx hb hts hiX2 hown hK.1 hP 3 rfl rfl 4 (by decide) hf68 (fun _ h9 => h9) rfl dX4_gatherOverKey_63 ?_
      refine lv_iload_n hx hb dX4_gatherOverKey_66 rfl (lv_at hl 2 rfl) ?_
      refine va_iald (D := E.1) hx hb hK.1 hP 5 0 rfl rfl (tOK.in12 (by assumption)) dX4_gatherOverKey_67 ?_
      refine kCallRi (va_runV (As := [.int x3, .int ((v 2) (x2).toNatClampNeg)]) (rest := [.int x2, .ref (b 0)]) ⟨hx, hb, hml, hown, hts⟩ (c_X2_writerBehind l E a v x3 ((v 2) (x2).toNatClampNeg) (by first | assumption | exact tOK.nI (by omega)) _ rfl) (cwV 2 hts gX4_gatherOverKey_X2_writerBehind rfl rfl rfl (by decide +kernel) ⟨Nat.le_of_ble_eq_true rfl, Nat.le_of_ble_eq_true rfl⟩) (kPreV hK hP (kP_r hP) (q0 := 3) rfl rfl) rfl rfl hl.1 rfl (lv_room (Nat.le_of_ble_eq_true rfl)) dX4_gatherOverKey_68 ⟨Nat.zero_le _, Nat.zero_le _⟩) ?_
      refine kCallWv (va_runV (As := [.int x2, .int (mX2_writerBehind v x3 ((v 2) (x2).toNatClampNeg))]) (rest := []) ⟨hx, hb, hml, hown, hts⟩ (c_X4_depend l E b a (rset u 1 g_3) v hj hj2 hap x2 (mX2_writerBehind v x3 ((v 2) (x2).toNatClampNeg)) _ rfl) (cwV 2 hts gX4_gatherOverKey_X4_depend rfl rfl rfl (by decide +kernel) ⟨Nat.le_of_ble_eq_true rfl, Nat.le_of_ble_eq_true rfl⟩) (kPreV hK hP hP (q0 := 0) rfl rfl) rfl rfl hl.1 rfl (lv_room (Nat.le_of_ble_eq_true rfl)) dX4_gatherOverKey_71 ⟨Nat.zero_le _, Nat.zero_le _⟩) hS (fun _ h => h) (fun H locs hP _ _ hS => ?_)
      refine kGen (mX4_depend (rset u 1 g_3) v x2 (mX2_writerBehind v x3 ((v 2) (x2).toNatClampNeg))) (fun g_4 hg_4 => ?_)
      rw [hg_4] at hE hP
      try dsimp only at hE
      have hP : va_P E.1 vwCl (wSeqx E b g_4 (u 2) ++ wLedx E a (v 0 0) (v 0 1) (v 0 2) (v 1) (v 2) (v 3) (v 4) (v 5) (v 6) (v 7)) H := hP
      have hD := kD_app (dSeq (E := E) hj g_4 (u 2)) (dLed (E := E) hj2 (v 0 0) (v 0 1) (v 0 2) (v 1) (v 2) (v 3) (v 4) (v 5) (v 6) (v 7)) hap
      subst R
      exact W.vret hx hb hr (fun t ht hW => ⟨rfl, by rw [ht]; exact hP, hS.F ht⟩) hS.2.2 dX4_gatherOverKey_74
  · replace hE := hE.trans (if_neg c_1)
    refine lv_aload_n hx hb dX4_gatherOverKey_13 rfl (lv_at hl 0 rfl) ?_
    refine lv_iload_n hx hb dX4_gatherOverKey_14 rfl (lv_at hl 2 rfl) ?_
    refine lv_aload_n hx hb dX4_gatherOverKey_15 rfl (lv_at hl 1 rfl) ?_
    refine lv_iload_n hx hb dX4_gatherOverKey_16 rfl (lv_at hl 3 rfl) ?_
    refine lv_aload_n hx hb dX4_gatherOverKey_17 rfl (lv_at hl 1 rfl) ?_
    refine va_get (D := E.1) (ci := 1) (v := .ref (a 3)) (C := RX2) (T := TX2) (N := 10) hx hb hts hiX2 hown hK.1 hP 3 rfl rfl 5 (by decide) hf54 (fun _ h9 => h9) rfl dX4_gatherOverKey_18 ?_
    refine lv_iload_n hx hb dX4_gatherOverKey_21 rfl (lv_at hl 2 rfl) ?_
    refine va_iald (D := E.1) hx hb hK.1 hP 6 0 rfl rfl (tOK.in12 (by assumption)) dX4_gatherOverKey_22 ?_
    refine kCallRi (va_runV (As := [.int x3, .int ((v 3) (x2).toNatClampNeg)]) (rest := [.int x2, .ref (b 0)]) ⟨hx, hb, hml, hown, hts⟩ (c_X2_writerBehind l E a v x3 ((v 3) (x2).toNatClampNeg) (by first | assumption | exact tOK.nI (by omega)) _ rfl) (cwV 2 hts gX4_gatherOverKey_X2_writerBehind rfl rfl rfl (by decide +kernel) ⟨Nat.le_of_ble_eq_true rfl, Nat.le_of_ble_eq_true rfl⟩) (kPreV hK hP (kP_r hP) (q0 := 3) rfl rfl) rfl rfl hl.1 rfl (lv_room (Nat.le_of_ble_eq_true rfl)) dX4_gatherOverKey_23 ⟨Nat.zero_le _, Nat.zero_le _⟩) ?_
    refine kCallWv (va_runV (As := [.int x2, .int (mX2_writerBehind v x3 ((v 3) (x2).toNatClampNeg))]) (rest := []) ⟨hx, hb, hml, hown, hts⟩ (c_X4_depend l E b a u v hj hj2 hap x2 (mX2_writerBehind v x3 ((v 3) (x2).toNatClampNeg)) _ rfl) (cwV 2 hts gX4_gatherOverKey_X4_depend rfl rfl rfl (by decide +kernel) ⟨Nat.le_of_ble_eq_true rfl, Nat.le_of_ble_eq_true rfl⟩) (kPreV hK hP hP (q0 := 0) rfl rfl) rfl rfl hl.1 rfl (lv_room (Nat.le_of_ble_eq_true rfl)) dX4_gatherOverKey_26 ⟨Nat.zero_le _, Nat.zero_le _⟩) hS (fun _ h => h) (fun H locs hP _ _ hS => ?_)
    refine kGen (mX4_depend u v x2 (mX2_writerBehind v x3 ((v 3) (x2).toNatClampNeg))) (fun g_5 hg_5 => ?_)
    rw [hg_5] at hE hP
    try dsimp only at hE
    have hP : va_P E.1 vwCl (wSeqx E b g_5 (u 2) ++ wLedx E a (v 0 0) (v 0 1) (v 0 2) (v 1) (v 2) (v 3) (v 4) (v 5) (v 6) (v 7)) H := hP
    have hD := kD_app (dSeq (E := E) hj g_5 (u 2)) (dLed (E := E) hj2 (v 0 0) (v 0 1) (v 0 2) (v 1) (v 2) (v 3) (v 4) (v 5) (v 6) (v 7)) hap
    refine lv_aload_n hx hb dX4_gatherOverKey_29 rfl (lv_at hl 1 rfl) ?_
    refine va_get (D := E.1) (ci := 1) (v := .ref (a 4)) (C := RX2) (T := TX2) (N := 10) hx hb hts hiX2 hown hK.1 hP 3 rfl rfl 6 (by decide) hf65 (fun _ h9 => h9) rfl dX4_gatherOverKey_30 ?_
    refine lv_iload_n hx hb dX4_gatherOverKey_33 rfl (lv_at hl 2 rfl) ?_
    refine va_iald (D := E.1) hx hb hK.1 hP 7 0 rfl rfl (tOK.in12 (by assumption)) dX4_gatherOverKey_34 ?_
    refine lv_iload_n hx hb dX4_gatherOverKey_35 rfl (lv_at hl 3 rfl) ?_
    refine kCallRi (va_runSN (As := [.int ((v 4) (x2).toNatClampNeg), .int x3]) (rest := []) ⟨hx, hb, hml, hown, hts⟩ (c_X5_contains l E ((v 4) (x2).toNatClampNeg) x3 _ rfl) ⟨va_cnB 2 hts gX4_gatherOverKey_X5_contains_n36 rfl rfl rfl (hK.nest 4 rfl) (hts (.initialized RX5) (by decide +kernel)) (by decide +kernel) ⟨Nat.le_of_ble_eq_true rfl, Nat.le_of_ble_eq_true rfl⟩, hts (.static yX5_contains) (by decide +kernel), trivial⟩ (kPreS hK kP0) rfl rfl hl.1 rfl (lv_room (Nat.le_of_ble_eq_true rfl)) dX4_gatherOverKey_36 ⟨Nat.zero_le _, Nat.zero_le _⟩) ?_
    refine lv_if_eq (tgt := 74) hx hb dX4_gatherOverKey_39 (by decide) (fun c_6 => ?_) (fun c_6 => ?_)
    · replace hE := hE.trans (if_pos c_6)
      subst R
      exact W.vret hx hb hr (fun t ht hW => ⟨rfl, by rw [ht]; exact hP, hS.F ht⟩) hS.2.2 dX4_gatherOverKey_74
    · replace hE := hE.trans (if_neg c_6)
      refine lv_aload_n hx hb dX4_gatherOverKey_42 rfl (lv_at hl 0 rfl) ?_
      refine lv_aload_n hx hb dX4_gatherOverKey_43 rfl (lv_at hl 1 rfl) ?_
      refine lv_iload_n hx hb dX4_gatherOverKey_44 rfl (lv_at hl 3 rfl) ?_
      refine lv_aload_n hx hb dX4_gatherOverKey_45 rfl (lv_at hl 1 rfl) ?_
      refine va_get (D := E.1) (ci := 1) (v := .ref (a 2)) (C := RX2) (T := TX2) (N := 10) hx hb hts hiX2 hown hK.1 hP 3 rfl rfl 4 (by decide) hf68 (fun _ h9 => h9) rfl dX4_gatherOverKey_46 ?_
      refine lv_iload_n hx hb dX4_gatherOverKey_49 rfl (lv_at hl 2 rfl) ?_
      refine va_iald (D := E.1) hx hb hK.1 hP 5 0 rfl rfl (tOK.in12 (by assumption)) dX4_gatherOverKey_50 ?_
      refine kCallRi (va_runV (As := [.int x3, .int ((v 2) (x2).toNatClampNeg)]) (rest := [.ref (b 0)]) ⟨hx, hb, hml, hown, hts⟩ (c_X2_writerAhead l E a v x3 ((v 2) (x2).toNatClampNeg) (by first | assumption | exact tOK.nI (by omega)) _ rfl) (cwV 2 hts gX4_gatherOverKey_X2_writerAhead rfl rfl rfl (by decide +kernel) ⟨Nat.le_of_ble_eq_true rfl, Nat.le_of_ble_eq_true rfl⟩) (kPreV hK hP (kP_r hP) (q0 := 3) rfl rfl) rfl rfl hl.1 rfl (lv_room (Nat.le_of_ble_eq_true rfl)) dX4_gatherOverKey_51 ⟨Nat.zero_le _, Nat.zero_le _⟩) ?_
      refine lv_iload_n hx hb dX4_gatherOverKey_54 rfl (lv_at hl 2 rfl) ?_
      refine kCallWv (va_runV (As := [.int (mX2_writerAhead v x3 ((v 2) (x2).toNatClampNeg)), .int x2]) (rest := []) ⟨hx, hb, hml, hown, hts⟩ (c_X4_depend l E b a (rset u 1 g_5) v hj hj2 hap (mX2_writerAhead v x3 ((v 2) (x2).toNatClampNeg)) x2 _ rfl) (cwV 2 hts gX4_gatherOverKey_X4_depend rfl rfl rfl (by decide +kernel) ⟨Nat.le_of_ble_eq_true rfl, Nat.le_of_ble_eq_true rfl⟩) (kPreV hK hP hP (q0 := 0) rfl rfl) rfl rfl hl.1 rfl (lv_room (Nat.le_of_ble_eq_true rfl)) dX4_gatherOverKey_55 ⟨Nat.zero_le _, Nat.zero_le _⟩) hS (fun _ h => h) (fun H locs hP _ _ hS => ?_)
      refine kGen (mX4_depend (rset u 1 g_5) v (mX2_writerAhead v x3 ((v 2) (x2).toNatClampNeg)) x2) (fun g_7 hg_7 => ?_)
      rw [hg_7] at hE hP
      try dsimp only at hE
      have hP : va_P E.1 vwCl (wSeqx E b g_7 (u 2) ++ wLedx E a (v 0 0) (v 0 1) (v 0 2) (v 1) (v 2) (v 3) (v 4) (v 5) (v 6) (v 7)) H := hP
      have hD := kD_app (dSeq (E := E) hj g_7 (u 2)) (dLed (E := E) hj2 (v 0 0) (v 0 1) (v 0 2) (v 1) (v 2) (v 3) (v 4) (v 5) (v 6) (v 7)) hap
      refine lv_aload_n hx hb dX4_gatherOverKey_58 rfl (lv_at hl 0 rfl) ?_
      refine lv_iload_n hx hb dX4_gatherOverKey_59 rfl (lv_at hl 2 rfl) ?_
      refine lv_aload_n hx hb dX4_gatherOverKey_60 rfl (lv_at hl 1 rfl) ?_
      refine lv_iload_n hx hb dX4_gatherOverKey_61 rfl (lv_at hl 3 rfl) ?_
      refine lv_aload_n hx hb dX4_gatherOverKey_62 rfl (lv_at hl 1 rfl) ?_
      refine va_get (D := E.1) (ci := 1) (v := .ref (a 2)) (C := RX2) (T := TX2) (N := 10) hx hb hts hiX2 hown hK.1 hP 3 rfl rfl 4 (by decide) hf68 (fun _ h9 => h9) rfl dX4_gatherOverKey_63 ?_
      refine lv_iload_n hx hb dX4_gatherOverKey_66 rfl (lv_at hl 2 rfl) ?_
      refine va_iald (D := E.1) hx hb hK.1 hP 5 0 rfl rfl (tOK.in12 (by assumption)) dX4_gatherOverKey_67 ?_
      refine kCallRi (va_runV (As := [.int x3, .int ((v 2) (x2).toNatClampNeg)]) (rest := [.int x2, .ref (b 0)]) ⟨hx, hb, hml, hown, hts⟩ (c_X2_writerBehind l E a v x3 ((v 2) (x2).toNatClampNeg) (by first | assumption | exact tOK.nI (by omega)) _ rfl) (cwV 2 hts gX4_gatherOverKey_X2_writerBehind rfl rfl rfl (by decide +kernel) ⟨Nat.le_of_ble_eq_true rfl, Nat.le_of_ble_eq_true rfl⟩) (kPreV hK hP (kP_r hP) (q0 := 3) rfl rfl) rfl rfl hl.1 rfl (lv_room (Nat.le_of_ble_eq_true rfl)) dX4_gatherOverKey_68 ⟨Nat.zero_le _, Nat.zero_le _⟩) ?_
      refine kCallWv (va_runV (As := [.int x2, .int (mX2_writerBehind v x3 ((v 2) (x2).toNatClampNeg))]) (rest := []) ⟨hx, hb, hml, hown, hts⟩ (c_X4_depend l E b a (rset u 1 g_7) v hj hj2 hap x2 (mX2_writerBehind v x3 ((v 2) (x2).toNatClampNeg)) _ rfl) (cwV 2 hts gX4_gatherOverKey_X4_depend rfl rfl rfl (by decide +kernel) ⟨Nat.le_of_ble_eq_true rfl, Nat.le_of_ble_eq_true rfl⟩) (kPreV hK hP hP (q0 := 0) rfl rfl) rfl rfl hl.1 rfl (lv_room (Nat.le_of_ble_eq_true rfl)) dX4_gatherOverKey_71 ⟨Nat.zero_le _, Nat.zero_le _⟩) hS (fun _ h => h) (fun H locs hP _ _ hS => ?_)
      refine kGen (mX4_depend (rset u 1 g_7) v x2 (mX2_writerBehind v x3 ((v 2) (x2).toNatClampNeg))) (fun g_8 hg_8 => ?_)
      rw [hg_8] at hE hP
      try dsimp only at hE
      have hP : va_P E.1 vwCl (wSeqx E b g_8 (u 2) ++ wLedx E a (v 0 0) (v 0 1) (v 0 2) (v 1) (v 2) (v 3) (v 4) (v 5) (v 6) (v 7)) H := hP
      have hD := kD_app (dSeq (E := E) hj g_8 (u 2)) (dLed (E := E) hj2 (v 0 0) (v 0 1) (v 0 2) (v 1) (v 2) (v 3) (v 4) (v 5) (v 6) (v 7)) hap
      subst R
      exact W.vret hx hb hr (fun t ht hW => ⟨rfl, by rw [ht]; exact hP, hS.F ht⟩) hS.2.2 dX4_gatherOverKey_74
def mX4_gather_K43 (u : kG) (v : kG) (i2 : Nat) (f2_0_1 : (Nat → Int32)) (i23 : Nat) (f23_0_1 : (Nat → Int32)) (rec : Nat → (Nat → Int32) → ((Nat → Int32))) (i43 : Nat) (f43_0_1 : (Nat → Int32)) : (Nat → Int32) :=
  rec (i23 + 1) f43_0_1
theorem mX4_gather_K43_s {u : kG} {v : kG} {i2 : Nat} {f2_0_1 : (Nat → Int32)} {i23 : Nat} {f23_0_1 : (Nat → Int32)} {rec : Nat → (Nat → Int32) → ((Nat → Int32))} {i43 : Nat} {f43_0_1 : (Nat → Int32)} : mX4_gather_K43 u v i2 f2_0_1 i23 f23_0_1 rec i43 f43_0_1 = (
  rec (i23 + 1) f43_0_1 : (Nat → Int32)) := rfl
def mX4_gather_L43 (u : kG) (v : kG) (i2 : Nat) (f2_0_1 : (Nat → Int32)) (i23 : Nat) (f23_0_1 : (Nat → Int32)) (kk : Nat → (Nat → Int32) → ((Nat → Int32))) : Nat → Nat → (Nat → Int32) → ((Nat → Int32))
  | 0, _, _ => (fun _ => 0)
  | n43 + 1, i43, f43_0_1 =>
    if 16 ≤ (nI i43) then
      kk i43 f43_0_1
    else
      (fun (g_5 : (Nat → Int32)) =>
        mX4_gather_L43 u v i2 f2_0_1 i23 f23_0_1 kk n43 (i43 + 1) g_5)
        (mX4_gatherOverKey (rset u 1 f43_0_1) v (nI i23) (nI i43))
theorem mX4_gather_L43_s {u : kG} {v : kG} {i2 : Nat} {f2_0_1 : (Nat → Int32)} {i23 : Nat} {f23_0_1 : (Nat → Int32)} {kk : Nat → (Nat → Int32) → ((Nat → Int32))} {n43 : Nat} {i43 : Nat} {f43_0_1 : (Nat → Int32)} : mX4_gather_L43 u v i2 f2_0_1 i23 f23_0_1 kk (n43 + 1) i43 f43_0_1 = (
    if 16 ≤ (nI i43) then
      kk i43 f43_0_1
    else
      (fun (g_5 : (Nat → Int32)) =>
        mX4_gather_L43 u v i2 f2_0_1 i23 f23_0_1 kk n43 (i43 + 1) g_5)
        (mX4_gatherOverKey (rset u 1 f43_0_1) v (nI i23) (nI i43)) : (Nat → Int32)) := rfl
def mX4_gather_L23 (u : kG) (v : kG) (i2 : Nat) (f2_0_1 : (Nat → Int32)) : Nat → Nat → (Nat → Int32) → ((Nat → Int32))
  | 0, _, _ => (fun _ => 0)
  | n23 + 1, i23, f23_0_1 =>
    if (v 0 2) ≤ (nI i23) then
      f23_0_1
    else
      if ((v 1) ((nI i23)).toNatClampNeg) = 1 then
        mX4_gather_L43 u v i2 f2_0_1 i23 f23_0_1 (mX4_gather_K43 u v i2 f2_0_1 i23 f23_0_1 (mX4_gather_L23 u v i2 f2_0_1 n23)) 17 0 f23_0_1
      else
        mX4_gather_L23 u v i2 f2_0_1 n23 (i23 + 1) f23_0_1
theorem mX4_gather_L23_s {u : kG} {v : kG} {i2 : Nat} {f2_0_1 : (Nat → Int32)} {n23 : Nat} {i23 : Nat} {f23_0_1 : (Nat → Int32)} : mX4_gather_L23 u v i2 f2_0_1 (n23 + 1) i23 f23_0_1 = (
    if (v 0 2) ≤ (nI i23) then
      f23_0_1
    else
      if ((v 1) ((nI i23)).toNatClampNeg) = 1 then
        mX4_gather_L43 u v i2 f2_0_1 i23 f23_0_1 (mX4_gather_K43 u v i2 f2_0_1 i23 f23_0_1 (mX4_gather_L23 u v i2 f2_0_1 n23)) 17 0 f23_0_1
      else
        mX4_gather_L23 u v i2 f2_0_1 n23 (i23 + 1) f23_0_1 : (Nat → Int32)) := rfl
def mX4_gather_L2 (u : kG) (v : kG) : Nat → Nat → (Nat → Int32) → ((Nat → Int32))
  | 0, _, _ => (fun _ => 0)
  | n2 + 1, i2, f2_0_1 =>
    if 12 ≤ (nI i2) then
      mX4_gather_L23 u v i2 f2_0_1 13 0 f2_0_1
    else
      mX4_gather_L2 u v n2 (i2 + 1) (upd f2_0_1 ((nI i2)).toNatClampNeg 0)
theorem mX4_gather_L2_s {u : kG} {v : kG} {n2 : Nat} {i2 : Nat} {f2_0_1 : (Nat → Int32)} : mX4_gather_L2 u v (n2 + 1) i2 f2_0_1 = (
    if 12 ≤ (nI i2) then
      mX4_gather_L23 u v i2 f2_0_1 13 0 f2_0_1
    else
      mX4_gather_L2 u v n2 (i2 + 1) (upd f2_0_1 ((nI i2)).toNatClampNeg 0) : (Nat → Int32)) := rfl
def mX4_gather (u : kG) (v : kG) : (Nat → Int32) :=
  mX4_gather_L2 u v 13 0 (u 1)
theorem mX4_gather_s {u : kG} {v : kG} : mX4_gather u v = (
  mX4_gather_L2 u v 13 0 (u 1) : (Nat → Int32)) := rfl
set_option maxHeartbeats 400000 in
set_option maxRecDepth 100000 in
theorem c_X4_gather (l : Launch) (E : kE) (b : Nat → Nat) (a : Nat → Nat) (u : kG) (v : kG) (hj : kInj b 3) (hj2 : kInj a 8) (hap : kAp b 3 a 8) (hn : nOK (v 0 2)) (R : (Nat → Int32)) (hE : R = mX4_gather u v) : Met l yX4_gather wsX4_gather ({ frames := 3, cells := 0, slots := 0, locals := 69 }) (kPre E [.ref (b 0), .ref (a 0)] (wSeqx E b (u 1) (u 2) ++ wLedx E a (v 0 0) (v 0 1) (v 0 2) (v 1) (v 2) (v 3) (v 4) (v 5) (v 6) (v 7))) (kWv E (wSeqx E b R (u 2) ++ wLedx E a (v 0 0) (v 0 1) (v 0 2) (v 1) (v 2) (v 3) (v 4) (v 5) (v 6) (v 7)) (fun q => kA b 3 q ∨ kA a 8 q)) 0 0 (fun q => kA b 3 q ∨ kA a 8 q) := by
  refine Met.ofW (cc := cX4_gather) (maxL := 4) (ret := none) (by decide) rfl ?_
  intro p e s m args below meth c s₁ B hml hv
  obtain ⟨rfl, hK, hP⟩ := hv
  have hx := B.exec
  have hb := B.bytes
  have hr := B.returns
  have hts := atoms_spec (ws := wsX4_gather) B.pre
  have hown : s.vm.findClass RX4 = some m.cls := findClass_of_methodNamed B.named
  have hlocks := B.notSynchronized
  have hiX2 : ∀ w ∈ wsX20, w ∈ wsX4_gather := by decide +kernel
  have hiX4 : ∀ w ∈ wsX40, w ∈ wsX4_gather := by decide +kernel
  have hf9 := hts (.fieldLink RX4 9 "SkewEdges$Sequence" "ahead" "[I") (by decide +kernel)
  have hf40 := hts (.fieldLink RX4 40 "SkewEdges$Ledger" "total" "I") (by decide +kernel)
  have hf44 := hts (.fieldLink RX4 44 "SkewEdges$Ledger" "phase" "[I") (by decide +kernel)
  have hS : va_S (fun q => kA b 3 q ∨ kA a 8 q) s.heap s.heap [] := va_S.rf
  have hP : va_P E.1 vwCl (wSeqx E b (u 1) (u 2) ++ wLedx E a (v 0 0) (v 0 1) (v 0 2) (v 1) (v 2) (v 3) (v 4) (v 5) (v 6) (v 7)) s.heap := hP
  have hD := kD_app (dSeq (E := E) hj (u 1) (u 2)) (dLed (E := E) hj2 (v 0 0) (v 0 1) (v 0 2) (v 1) (v 2) (v 3) (v 4) (v 5) (v 6) (v 7)) hap
  have hl := lv_entry ([.ref (b 0), .ref (a 0)]) (n := 4) (Nat.le_of_ble_eq_true rfl)
  rw [lg_entry_eq]
  generalize (lg_sl ([.ref (b 0), .ref (a 0)]) ++ List.replicate (4 - (lg_sl ([.ref (b 0), .ref (a 0)])).length) Slot.unset).toArray = ls at hl ⊢
  have hl : lv_has ls 4 [(0, .ref (b 0)), (1, .ref (a 0))] := hl
  replace hE := hE.trans mX4_gather_s
  refine lv_iconst (v := 0) hx hb dX4_gather_0 (by decide) ?_
  refine lv_istore_n (lv' := [(2, .int 0), (0, .ref (b 0)), (1, .ref (a 0))]) hx hb dX4_gather_1 rfl hl (by decide) rfl (fun ls hl => ?_)
  have lp2 : ∀ (n2 : Nat) (i2 : Nat) (f2_0_1 : (Nat → Int32)) (H : Heap) (locs : List Loc), (12 < i2 + n2) → (i2 ≤ 12) → va_P E.1 vwCl (wSeqx E b f2_0_1 (u 2) ++ wLedx E a (v 0 0) (v 0 1) (v 0 2) (v 1) (v 2) (v 3) (v 4) (v 5) (v 6) (v 7)) H → va_S (fun q => kA b 3 q ∨ kA a 8 q) s.heap H locs → ∀ ls : Array Slot, lv_has ls 4 [(2, .int (nI i2)), (0, .ref (b 0)), (1, .ref (a 0))] → R = mX4_gather_L2 u v n2 i2 f2_0_1 → W p l e ({ frames := 3, cells := 0, slots := 0, locals := 69 }) s m ([.ref (b 0), .ref (a 0)] : List Value).toArray below meth c H locs 0 0 (MQ below (kWv E (wSeqx E b R (u 2) ++ wLedx E a (v 0 0) (v 0 1) (v 0 2) (v 1) (v 2) (v 3) (v 4) (v 5) (v 6) (v 7)) (fun q => kA b 3 q ∨ kA a 8 q)) ([.ref (b 0), .ref (a 0)] : List Value).toArray s 0 0 (fun q => kA b 3 q ∨ kA a 8 q)) (F0 m 2 ls []) := by
    clear hE
    intro n2
    induction n2 with
    | zero =>
      intro i2 f2_0_1 H locs hm2 hi2 hP hS ls hl hE
      exact absurd hm2 (by omega)
    | succ n2 ih2 =>
      intro i2 f2_0_1 H locs hm2 hi2 hP hS ls hl hE
      have hD := kD_app (dSeq (E := E) hj f2_0_1 (u 2)) (dLed (E := E) hj2 (v 0 0) (v 0 1) (v 0 2) (v 1) (v 2) (v 3) (v 4) (v 5) (v 6) (v 7)) hap
      replace hE := hE.trans mX4_gather_L2_s
      refine lv_iload_n hx hb dX4_gather_2 rfl (lv_at hl 0 rfl) ?_
      refine lv_bipush (v := 12) hx hb dX4_gather_3 (by decide) ?_
      refine lv_icmp_ge (tgt := 21) hx hb dX4_gather_5 (by decide) (fun c_1 => ?_) (fun c_1 => ?_)
      · replace hE := hE.trans (if_pos c_1)
        refine lv_iconst (v := 0) hx hb dX4_gather_21 (by decide) ?_
        refine lv_istore_n (lv' := [(2, .int 0), (0, .ref (b 0)), (1, .ref (a 0))]) hx hb dX4_gather_22 rfl hl (by decide) rfl (fun ls hl => ?_)
        have lp23 : ∀ (n23 : Nat) (i23 : Nat) (f23_0_1 : (Nat → Int32)) (H : Heap) (locs : List Loc), (12 < i23 + n23) → (i23 ≤ 12) → va_P E.1 vwCl (wSeqx E b f23_0_1 (u 2) ++ wLedx E a (v 0 0) (v 0 1) (v 0 2) (v 1) (v 2) (v 3) (v 4) (v 5) (v 6) (v 7)) H → va_S (fun q => kA b 3 q ∨ kA a 8 q) s.heap H locs → ∀ ls : Array Slot, lv_has ls 4 [(2, .int (nI i23)), (0, .ref (b 0)), (1, .ref (a 0))] → R = mX4_gather_L23 u v i2 f2_0_1 n23 i23 f23_0_1 → W p l e ({ frames := 3, cells := 0, slots := 0, locals := 69 }) s m ([.ref (b 0), .ref (a 0)] : List Value).toArray below meth c H locs 0 0 (MQ below (kWv E (wSeqx E b R (u 2) ++ wLedx E a (v 0 0) (v 0 1) (v 0 2) (v 1) (v 2) (v 3) (v 4) (v 5) (v 6) (v 7)) (fun q => kA b 3 q ∨ kA a 8 q)) ([.ref (b 0), .ref (a 0)] : List Value).toArray s 0 0 (fun q => kA b 3 q ∨ kA a 8 q)) (F0 m 23 ls []) := by
          clear hE
          intro n23
          induction n23 with
          | zero =>
            intro i23 f23_0_1 H locs hm23 hi23 hP hS ls hl hE
            exact absurd hm23 (by omega)
          | succ n23 ih23 =>
            intro i23 f23_0_1 H locs hm23 hi23 hP hS ls hl hE
            have hD := kD_app (dSeq (E := E) hj f23_0_1 (u 2)) (dLed (E := E) hj2 (v 0 0) (v 0 1) (v 0 2) (v 1) (v 2) (v 3) (v 4) (v 5) (v 6) (v 7)) hap
            replace hE := hE.trans mX4_gather_L23_s
            refine lv_iload_n hx hb dX4_gather_23 rfl (lv_at hl 0 rfl) ?_
            refine lv_aload_n hx hb dX4_gather_24 rfl (lv_at hl 2 rfl) ?_
            refine va_get (D := E.1) (ci := 1) (v := .int (v 0 2)) (C := RX2) (T := TX2) (N := 10) hx hb hts hiX2 hown hK.1 hP 3 rfl rfl 2 (by decide) hf40 (fun _ h9 => h9) rfl dX4_gather_25 ?_
            refine lv_icmp_ge (tgt := 68) hx hb dX4_gather_28 (by decide) (fun c_2 => ?_) (fun c_2 => ?_)
            · replace hE := hE.trans (if_pos c_2)
              subst R
              exact W.vret hx hb hr (fun t ht hW => ⟨rfl, by rw [ht]; exact hP, hS.F ht⟩) hS.2.2 dX4_gather_68
            · replace hE := hE.trans (if_neg c_2)
              have hbc_2 : i23 < 12 := nOK.lt (by assumption) (by omega) c_2
              refine lv_aload_n hx hb dX4_gather_31 rfl (lv_at hl 2 rfl) ?_
              refine va_get (D := E.1) (ci := 1) (v := .ref (a 1)) (C := RX2) (T := TX2) (N := 10) hx hb hts hiX2 hown hK.1 hP 3 rfl rfl 3 (by decide) hf44 (fun _ h9 => h9) rfl dX4_gather_32 ?_
              refine lv_iload_n hx hb dX4_gather_35 rfl (lv_at hl 0 rfl) ?_
              refine va_iald (D := E.1) hx hb hK.1 hP 4 0 rfl rfl (vp_in_nI (by omega) (by omega)) dX4_gather_36 ?_
              refine lv_iconst (v := 1) hx hb dX4_gather_37 (by decide) ?_
              refine lv_icmp_ne (tgt := 62) hx hb dX4_gather_38 (by decide) (fun c_3 => ?_) (fun c_3 => ?_)
              · replace hE := hE.trans (if_neg c_3)
                refine lv_iinc (v := (nI (i23 + 1))) (lv' := [(2, .int (nI (i23 + 1))), (0, .ref (b 0)), (1, .ref (a 0))]) hx hb dX4_gather_62 hl (k := 0) rfl (nI_1 i23) (by decide) rfl (fun ls hl => ?_)
                refine lv_goto (tgt := 23) hx hb dX4_gather_65 (by decide) ?_
                exact ih23 (i23 + 1) f23_0_1 _ _ (by omega) (by omega) hP hS ls (lv_sub hl [0, 1, 2] rfl) hE
              · replace hE := hE.trans (if_pos c_3)
                refine lv_iconst (v := 0) hx hb dX4_gather_41 (by decide) ?_
                refine lv_istore_n (lv' := [(3, .int 0), (2, .int (nI i23)), (0, .ref (b 0)), (1, .ref (a 0))]) hx hb dX4_gather_42 rfl hl (by decide) rfl (fun ls hl => ?_)
                have lp43 : ∀ (n43 : Nat) (i43 : Nat) (f43_0_1 : (Nat → Int32)) (H : Heap) (locs : List Loc), (16 < i43 + n43) → (i43 ≤ 16) → va_P E.1 vwCl (wSeqx E b f43_0_1 (u 2) ++ wLedx E a (v 0 0) (v 0 1) (v 0 2) (v 1) (v 2) (v 3) (v 4) (v 5) (v 6) (v 7)) H → va_S (fun q => kA b 3 q ∨ kA a 8 q) s.heap H locs → ∀ ls : Array Slot, lv_has ls 4 [(3, .int (nI i43)), (2, .int (nI i23)), (0, .ref (b 0)), (1, .ref (a 0))] → R = mX4_gather_L43 u v i2 f2_0_1 i23 f23_0_1 (mX4_gather_K43 u v i2 f2_0_1 i23 f23_0_1 (mX4_gather_L23 u v i2 f2_0_1 n23)) n43 i43 f43_0_1 → W p l e ({ frames := 3, cells := 0, slots := 0, locals := 69 }) s m ([.ref (b 0), .ref (a 0)] : List Value).toArray below meth c H locs 0 0 (MQ below (kWv E (wSeqx E b R (u 2) ++ wLedx E a (v 0 0) (v 0 1) (v 0 2) (v 1) (v 2) (v 3) (v 4) (v 5) (v 6) (v 7)) (fun q => kA b 3 q ∨ kA a 8 q)) ([.ref (b 0), .ref (a 0)] : List Value).toArray s 0 0 (fun q => kA b 3 q ∨ kA a 8 q)) (F0 m 43 ls []) := by
                  clear hE
                  intro n43
                  induction n43 with
                  | zero =>
                    intro i43 f43_0_1 H locs hm43 hi43 hP hS ls hl hE
                    exact absurd hm43 (by omega)
                  | succ n43 ih43 =>
                    intro i43 f43_0_1 H locs hm43 hi43 hP hS ls hl hE
                    have hD := kD_app (dSeq (E := E) hj f43_0_1 (u 2)) (dLed (E := E) hj2 (v 0 0) (v 0 1) (v 0 2) (v 1) (v 2) (v 3) (v 4) (v 5) (v 6) (v 7)) hap
                    replace hE := hE.trans mX4_gather_L43_s
                    refine lv_iload_n hx hb dX4_gather_43 rfl (lv_at hl 0 rfl) ?_
                    refine lv_bipush (v := 16) hx hb dX4_gather_44 (by decide) ?_
                    refine lv_icmp_ge (tgt := 62) hx hb dX4_gather_46 (by decide) (fun c_4 => ?_) (fun c_4 => ?_)
                    · replace hE := hE.trans (if_pos c_4)
                      replace hE := hE.trans mX4_gather_K43_s
                      refine lv_iinc (v := (nI (i23 + 1))) (lv' := [(2, .int (nI (i23 + 1))), (3, .int (nI i43)), (0, .ref (b 0)), (1, .ref (a 0))]) hx hb dX4_gather_62 hl (k := 1) rfl (nI_1 i23) (by decide) rfl (fun ls hl => ?_)
                      refine lv_goto (tgt := 23) hx hb dX4_gather_65 (by decide) ?_
                      exact ih23 (i23 + 1) f43_0_1 _ _ (by omega) (by omega) hP hS ls (lv_sub hl [0, 2, 3] rfl) hE
                    · replace hE := hE.trans (if_neg c_4)
                      have hbc_4 : i43 < 16 := nI_nle_lt ⟨by omega, by omega⟩ c_4
                      refine lv_aload_n hx hb dX4_gather_49 rfl (lv_at hl 2 rfl) ?_
                      refine lv_aload_n hx hb dX4_gather_50 rfl (lv_at hl 3 rfl) ?_
                      refine lv_iload_n hx hb dX4_gather_51 rfl (lv_at hl 1 rfl) ?_
                      refine lv_iload_n hx hb dX4_gather_52 rfl (lv_at hl 0 rfl) ?_
                      refine kCallWv (va_runV (As := [.ref (a 0), .int (nI i23), .int (nI i43)]) (rest := []) ⟨hx, hb, hml, hown, hts⟩ (c_X4_gatherOverKey l E b a (rset u 1 f43_0_1) v hj hj2 hap (nI i23) (nI i43) (by first | assumption | exact tOK.nI (by omega)) (by first | assumption | exact tOK.nI (by omega)) _ rfl) (cwV 3 hts gX4_gather_X4_gatherOverKey rfl rfl rfl (by decide +kernel) ⟨Nat.le_of_ble_eq_true rfl, Nat.le_of_ble_eq_true rfl⟩) (kPreV hK hP hP (q0 := 0) rfl rfl) rfl rfl hl.1 rfl (lv_room (Nat.le_of_ble_eq_true rfl)) dX4_gather_53 ⟨Nat.zero_le _, Nat.zero_le _⟩) hS (fun _ h => h) (fun H locs hP _ _ hS => ?_)
                      refine kGen (mX4_gatherOverKey (rset u 1 f43_0_1) v (nI i23) (nI i43)) (fun g_5 hg_5 => ?_)
                      rw [hg_5] at hE hP
                      try dsimp only at hE
                      have hP : va_P E.1 vwCl (wSeqx E b g_5 (u 2) ++ wLedx E a (v 0 0) (v 0 1) (v 0 2) (v 1) (v 2) (v 3) (v 4) (v 5) (v 6) (v 7)) H := hP
                      have hD := kD_app (dSeq (E := E) hj g_5 (u 2)) (dLed (E := E) hj2 (v 0 0) (v 0 1) (v 0 2) (v 1) (v 2) (v 3) (v 4) (v 5) (v 6) (v 7)) hap
                      refine lv_iinc (v := (nI (i43 + 1))) (lv' := [(3, .int (nI (i43 + 1))), (2, .int (nI i23)), (0, .ref (b 0)), (1, .ref (a 0))]) hx hb dX4_gather_56 hl (k := 0) rfl (nI_1 i43) (by decide) rfl (fun ls hl => ?_)
                      refine lv_goto (tgt := 43) hx hb dX4_gather_59 (by decide) ?_
                      exact ih43 (i43 + 1) g_5 _ _ (by omega) (by omega) hP hS ls (lv_sub hl [0, 1, 2, 3] rfl) hE
                exact lp43 17 0 f23_0_1 _ _ (by omega) (by omega) hP hS ls (lv_sub hl [0, 1, 2, 3] rfl) hE
        exact lp23 13 0 f2_0_1 _ _ (by omega) (by omega) hP hS ls (lv_sub hl [0, 1, 2] rfl) hE
      · replace hE := hE.trans (if_neg c_1)
        have hbc_1 : i2 < 12 := nI_nle_lt ⟨by omega, by omega⟩ c_1
        refine lv_aload_n hx hb dX4_gather_8 rfl (lv_at hl 1 rfl) ?_
        refine va_get (D := E.1) (ci := 3) (v := .ref (b 1)) (C := RX4) (T := TX4) (N := 2) hx hb hts hiX4 hown hK.1 hP 0 rfl rfl 0 (by decide) hf9 (fun _ h9 => h9) rfl dX4_gather_9 ?_
        refine lv_iload_n hx hb dX4_gather_12 rfl (lv_at hl 0 rfl) ?_
        refine lv_iconst (v := 0) hx hb dX4_gather_13 (by decide) ?_
        refine va_iast (D := E.1) hx hb hK.1 hP hD hS 1 0 rfl rfl (vp_in_nI (by omega) (by omega)) dX4_gather_14 (fun H locs hP _ hS => ?_)
        have hP : va_P E.1 vwCl (wSeqx E b (upd f2_0_1 ((nI i2)).toNatClampNeg 0) (u 2) ++ wLedx E a (v 0 0) (v 0 1) (v 0 2) (v 1) (v 2) (v 3) (v 4) (v 5) (v 6) (v 7)) H := hP
        have hD := kD_app (dSeq (E := E) hj (upd f2_0_1 ((nI i2)).toNatClampNeg 0) (u 2)) (dLed (E := E) hj2 (v 0 0) (v 0 1) (v 0 2) (v 1) (v 2) (v 3) (v 4) (v 5) (v 6) (v 7)) hap
        refine lv_iinc (v := (nI (i2 + 1))) (lv' := [(2, .int (nI (i2 + 1))), (0, .ref (b 0)), (1, .ref (a 0))]) hx hb dX4_gather_15 hl (k := 0) rfl (nI_1 i2) (by decide) rfl (fun ls hl => ?_)
        refine lv_goto (tgt := 2) hx hb dX4_gather_18 (by decide) ?_
        exact ih2 (i2 + 1) (upd f2_0_1 ((nI i2)).toNatClampNeg 0) _ _ (by omega) (by omega) hP hS ls (lv_sub hl [0, 1, 2] rfl) hE
  exact lp2 13 0 (u 1) _ _ (by omega) (by omega) hP hS ls (lv_sub hl [0, 1, 2] rfl) hE
def mX4_arrange_L19 (u : kG) (v : kG) (g_1 : ((Nat → Int32))) : Nat → Int32 → Nat → (Nat → Int32) → (Int32 × (Nat → Int32) × (Nat → Int32))
  | 0, _, _, _ => (0, (fun _ => 0), (fun _ => 0))
  | n19 + 1, x19_2, i19, f19_0_2 =>
    if (mJ6_bitCount_0f7a4 (mX2_inPhase v 1)) ≤ (nI i19) then
      (1, g_1, f19_0_2)
    else
      if (mX4_lowestFree (rset (rset u 1 g_1) 2 f19_0_2) x19_2) = (-6) then
        (0, g_1, f19_0_2)
      else
        mX4_arrange_L19 u v g_1 n19 (x19_2 &&& ((1 <<< ((mX4_lowestFree (rset (rset u 1 g_1) 2 f19_0_2) x19_2) &&& 31)) ^^^ (-1))) (i19 + 1) (upd f19_0_2 ((nI i19)).toNatClampNeg (mX4_lowestFree (rset (rset u 1 g_1) 2 f19_0_2) x19_2))
theorem mX4_arrange_L19_s {u : kG} {v : kG} {g_1 : ((Nat → Int32))} {n19 : Nat} {x19_2 : Int32} {i19 : Nat} {f19_0_2 : (Nat → Int32)} : mX4_arrange_L19 u v g_1 (n19 + 1) x19_2 i19 f19_0_2 = (
    if (mJ6_bitCount_0f7a4 (mX2_inPhase v 1)) ≤ (nI i19) then
      (1, g_1, f19_0_2)
    else
      if (mX4_lowestFree (rset (rset u 1 g_1) 2 f19_0_2) x19_2) = (-6) then
        (0, g_1, f19_0_2)
      else
        mX4_arrange_L19 u v g_1 n19 (x19_2 &&& ((1 <<< ((mX4_lowestFree (rset (rset u 1 g_1) 2 f19_0_2) x19_2) &&& 31)) ^^^ (-1))) (i19 + 1) (upd f19_0_2 ((nI i19)).toNatClampNeg (mX4_lowestFree (rset (rset u 1 g_1) 2 f19_0_2) x19_2)) : Int32 × (Nat → Int32) × (Nat → Int32)) := rfl
def mX4_arrange (u : kG) (v : kG) : Int32 × (Nat → Int32) × (Nat → Int32) :=
  (fun (g_1 : (Nat → Int32)) =>
    mX4_arrange_L19 u v g_1 13 (mX2_inPhase v 1) 0 (u 2))
    (mX4_gather u v)
theorem mX4_arrange_s {u : kG} {v : kG} : mX4_arrange u v = (
  (fun (g_1 : (Nat → Int32)) =>
    mX4_arrange_L19 u v g_1 13 (mX2_inPhase v 1) 0 (u 2))
    (mX4_gather u v) : Int32 × (Nat → Int32) × (Nat → Int32)) := rfl
set_option maxHeartbeats 400000 in
set_option maxRecDepth 100000 in
theorem c_X4_arrange (l : Launch) (E : kE) (b : Nat → Nat) (a : Nat → Nat) (u : kG) (v : kG) (hj : kInj b 3) (hj2 : kInj a 8) (hap : kAp b 3 a 8) (hn : nOK (v 0 2)) (R : Int32 × (Nat → Int32) × (Nat → Int32)) (hE : R = mX4_arrange u v) : Met l yX4_arrange wsX4_arrange ({ frames := 4, cells := 0, slots := 0, locals := 92 }) (kPre E [.ref (b 0), .ref (a 0)] (wSeqx E b (u 1) (u 2) ++ wLedx E a (v 0 0) (v 0 1) (v 0 2) (v 1) (v 2) (v 3) (v 4) (v 5) (v 6) (v 7))) (kWi E R.1 (wSeqx E b R.2.1 R.2.2 ++ wLedx E a (v 0 0) (v 0 1) (v 0 2) (v 1) (v 2) (v 3) (v 4) (v 5) (v 6) (v 7)) (fun q => kA b 3 q ∨ kA a 8 q)) 0 0 (fun q => kA b 3 q ∨ kA a 8 q) := by
  refine Met.ofW (cc := cX4_arrange) (maxL := 6) (ret := (some .boolean)) (by decide) rfl ?_
  intro p e s m args below meth c s₁ B hml hv
  obtain ⟨rfl, hK, hP⟩ := hv
  have hx := B.exec
  have hb := B.bytes
  have hr := B.returns
  have hts := atoms_spec (ws := wsX4_arrange) B.pre
  have hown : s.vm.findClass RX4 = some m.cls := findClass_of_methodNamed B.named
  have hlocks := B.notSynchronized
  have hiX4 : ∀ w ∈ wsX40, w ∈ wsX4_arrange := by decide +kernel
  have hf15 := hts (.fieldLink RX4 15 "SkewEdges$Sequence" "places" "[I") (by decide +kernel)
  have hS : va_S (fun q => kA b 3 q ∨ kA a 8 q) s.heap s.heap [] := va_S.rf
  have hP : va_P E.1 vwCl (wSeqx E b (u 1) (u 2) ++ wLedx E a (v 0 0) (v 0 1) (v 0 2) (v 1) (v 2) (v 3) (v 4) (v 5) (v 6) (v 7)) s.heap := hP
  have hD := kD_app (dSeq (E := E) hj (u 1) (u 2)) (dLed (E := E) hj2 (v 0 0) (v 0 1) (v 0 2) (v 1) (v 2) (v 3) (v 4) (v 5) (v 6) (v 7)) hap
  have hl := lv_entry ([.ref (b 0), .ref (a 0)]) (n := 6) (Nat.le_of_ble_eq_true rfl)
  rw [lg_entry_eq]
  generalize (lg_sl ([.ref (b 0), .ref (a 0)]) ++ List.replicate (6 - (lg_sl ([.ref (b 0), .ref (a 0)])).length) Slot.unset).toArray = ls at hl ⊢
  have hl : lv_has ls 6 [(0, .ref (b 0)), (1, .ref (a 0))] := hl
  replace hE := hE.trans mX4_arrange_s
  have hall := (inPhase_set hn 1).bc
  refine lv_aload_n hx hb dX4_arrange_0 rfl (lv_at hl 0 rfl) ?_
  refine lv_aload_n hx hb dX4_arrange_1 rfl (lv_at hl 1 rfl) ?_
  refine kCallWv (va_runV (As := [.ref (a 0)]) (rest := []) ⟨hx, hb, hml, hown, hts⟩ (c_X4_gather l E b a u v hj hj2 hap (by first | assumption | exact tOK.nI (by omega)) _ rfl) (cwV 1 hts gX4_arrange_X4_gather rfl rfl rfl (by decide +kernel) ⟨Nat.le_of_ble_eq_true rfl, Nat.le_of_ble_eq_true rfl⟩) (kPreV hK hP hP (q0 := 0) rfl rfl) rfl rfl hl.1 rfl (lv_room (Nat.le_of_ble_eq_true rfl)) dX4_arrange_2 ⟨Nat.zero_le _, Nat.zero_le _⟩) hS (fun _ h => h) (fun H locs hP _ _ hS => ?_)
  refine kGen (mX4_gather u v) (fun g_1 hg_1 => ?_)
  rw [hg_1] at hE hP
  try dsimp only at hE
  have hP : va_P E.1 vwCl (wSeqx E b g_1 (u 2) ++ wLedx E a (v 0 0) (v 0 1) (v 0 2) (v 1) (v 2) (v 3) (v 4) (v 5) (v 6) (v 7)) H := hP
  have hD := kD_app (dSeq (E := E) hj g_1 (u 2)) (dLed (E := E) hj2 (v 0 0) (v 0 1) (v 0 2) (v 1) (v 2) (v 3) (v 4) (v 5) (v 6) (v 7)) hap
  refine lv_aload_n hx hb dX4_arrange_5 rfl (lv_at hl 1 rfl) ?_
  refine lv_iconst (v := 1) hx hb dX4_arrange_6 (by decide) ?_
  refine kCallRi (va_runV (As := [.int 1]) (rest := []) ⟨hx, hb, hml, hown, hts⟩ (c_X2_inPhase l E a v 1 (by first | assumption | exact tOK.nI (by omega)) _ rfl) (cwV 1 hts gX4_arrange_X2_inPhase rfl rfl rfl (by decide +kernel) ⟨Nat.le_of_ble_eq_true rfl, Nat.le_of_ble_eq_true rfl⟩) (kPreV hK hP (kP_r hP) (q0 := 3) rfl rfl) rfl rfl hl.1 rfl (lv_room (Nat.le_of_ble_eq_true rfl)) dX4_arrange_7 ⟨Nat.zero_le _, Nat.zero_le _⟩) ?_
  refine lv_istore_n (lv' := [(2, .int (mX2_inPhase v 1)), (0, .ref (b 0)), (1, .ref (a 0))]) hx hb dX4_arrange_10 rfl hl (by decide) rfl (fun ls hl => ?_)
  refine lv_iload_n hx hb dX4_arrange_11 rfl (lv_at hl 0 rfl) ?_
  refine kCallRi (va_runS (As := [.int (mX2_inPhase v 1)]) (rest := []) ⟨hx, hb, hml, hown, hts⟩ (c_J6_bitCount_0f7a4 l E (mX2_inPhase v 1) _ rfl) (va_cwS 1 hts gX4_arrange_J6_bitCount_0f7a4 rfl rfl rfl (by decide +kernel) ⟨Nat.le_of_ble_eq_true rfl, Nat.le_of_ble_eq_true rfl⟩) (kPreS hK kP0) rfl rfl hl.1 rfl (lv_room (Nat.le_of_ble_eq_true rfl)) dX4_arrange_12 ⟨Nat.zero_le _, Nat.zero_le _⟩) ?_
  refine lv_istore_n (lv' := [(3, .int (mJ6_bitCount_0f7a4 (mX2_inPhase v 1))), (2, .int (mX2_inPhase v 1)), (0, .ref (b 0)), (1, .ref (a 0))]) hx hb dX4_arrange_15 rfl hl (by decide) rfl (fun ls hl => ?_)
  refine lv_iconst (v := 0) hx hb dX4_arrange_16 (by decide) ?_
  refine lv_istore (lv' := [(4, .int 0), (3, .int (mJ6_bitCount_0f7a4 (mX2_inPhase v 1))), (2, .int (mX2_inPhase v 1)), (0, .ref (b 0)), (1, .ref (a 0))]) hx hb dX4_arrange_17 hl (by decide) rfl (fun ls hl => ?_)
  have lp19 : ∀ (n19 : Nat) (x19_2 : Int32) (i19 : Nat) (f19_0_2 : (Nat → Int32)) (H : Heap) (locs : List Loc), (12 < i19 + n19) → (i19 ≤ 12) → va_P E.1 vwCl (wSeqx E b g_1 f19_0_2 ++ wLedx E a (v 0 0) (v 0 1) (v 0 2) (v 1) (v 2) (v 3) (v 4) (v 5) (v 6) (v 7)) H → va_S (fun q => kA b 3 q ∨ kA a 8 q) s.heap H locs → ∀ ls : Array Slot, lv_has ls 6 [(4, .int (nI i19)), (3, .int (mJ6_bitCount_0f7a4 (mX2_inPhase v 1))), (2, .int x19_2), (0, .ref (b 0)), (1, .ref (a 0))] → R = mX4_arrange_L19 u v g_1 n19 x19_2 i19 f19_0_2 → W p l e ({ frames := 4, cells := 0, slots := 0, locals := 92 }) s m ([.ref (b 0), .ref (a 0)] : List Value).toArray below meth c H locs 0 0 (MQ below (kWi E R.1 (wSeqx E b R.2.1 R.2.2 ++ wLedx E a (v 0 0) (v 0 1) (v 0 2) (v 1) (v 2) (v 3) (v 4) (v 5) (v 6) (v 7)) (fun q => kA b 3 q ∨ kA a 8 q)) ([.ref (b 0), .ref (a 0)] : List Value).toArray s 0 0 (fun q => kA b 3 q ∨ kA a 8 q)) (F0 m 19 ls []) := by
    clear hE
    intro n19
    induction n19 with
    | zero =>
      intro x19_2 i19 f19_0_2 H locs hm19 hi19 hP hS ls hl hE
      exact absurd hm19 (by omega)
    | succ n19 ih19 =>
      intro x19_2 i19 f19_0_2 H locs hm19 hi19 hP hS ls hl hE
      have hD := kD_app (dSeq (E := E) hj g_1 f19_0_2) (dLed (E := E) hj2 (v 0 0) (v 0 1) (v 0 2) (v 1) (v 2) (v 3) (v 4) (v 5) (v 6) (v 7)) hap
      replace hE := hE.trans mX4_arrange_L19_s
      refine lv_iload hx hb dX4_arrange_19 (lv_at hl 0 rfl) ?_
      refine lv_iload_n hx hb dX4_arrange_21 rfl (lv_at hl 1 rfl) ?_
      refine lv_icmp_ge (tgt := 65) hx hb dX4_arrange_22 (by decide) (fun c_2 => ?_) (fun c_2 => ?_)
      · replace hE := hE.trans (if_pos c_2)
        refine lv_iconst (v := 1) hx hb dX4_arrange_65 (by decide) ?_
        subst R
        exact W.zret (v := 1) (ty := .boolean) hx hb hr rfl (fun t ht hW => ⟨rfl, by rw [ht]; exact hP, hS.F ht⟩) hS.2.2 dX4_arrange_66
      · replace hE := hE.trans (if_neg c_2)
        have hbc_2 : i19 < 12 := nOK.lt (by assumption) (by omega) c_2
        refine lv_aload_n hx hb dX4_arrange_25 rfl (lv_at hl 3 rfl) ?_
        refine lv_iload_n hx hb dX4_arrange_26 rfl (lv_at hl 2 rfl) ?_
        refine kCallRi (va_runV (As := [.int x19_2]) (rest := []) ⟨hx, hb, hml, hown, hts⟩ (c_X4_lowestFree l E b (rset (rset u 1 g_1) 2 f19_0_2) x19_2 _ rfl) (cwV 1 hts gX4_arrange_X4_lowestFree rfl rfl rfl (by decide +kernel) ⟨Nat.le_of_ble_eq_true rfl, Nat.le_of_ble_eq_true rfl⟩) (kPreV hK hP (kP_l hP) (q0 := 0) rfl rfl) rfl rfl hl.1 rfl (lv_room (Nat.le_of_ble_eq_true rfl)) dX4_arrange_27 ⟨Nat.zero_le _, Nat.zero_le _⟩) ?_
        refine lv_istore (lv' := [(5, .int (mX4_lowestFree (rset (rset u 1 g_1) 2 f19_0_2) x19_2)), (4, .int (nI i19)), (3, .int (mJ6_bitCount_0f7a4 (mX2_inPhase v 1))), (2, .int x19_2), (0, .ref (b 0)), (1, .ref (a 0))]) hx hb dX4_arrange_30 hl (by decide) rfl (fun ls hl => ?_)
        refine lv_iload hx hb dX4_arrange_32 (lv_at hl 0 rfl) ?_
        refine lv_bipush (v := (-6)) hx hb dX4_arrange_34 (by decide) ?_
        refine lv_icmp_ne (tgt := 41) hx hb dX4_arrange_36 (by decide) (fun c_3 => ?_) (fun c_3 => ?_)
        · replace hE := hE.trans (if_neg c_3)
          refine lv_aload_n hx hb dX4_arrange_41 rfl (lv_at hl 4 rfl) ?_
          refine va_get (D := E.1) (ci := 3) (v := .ref (b 2)) (C := RX4) (T := TX4) (N := 2) hx hb hts hiX4 hown hK.1 hP 0 rfl rfl 1 (by decide) hf15 (fun _ h9 => h9) rfl dX4_arrange_42 ?_
          refine lv_iload hx hb dX4_arrange_45 (lv_at hl 1 rfl) ?_
          refine lv_iload hx hb dX4_arrange_47 (lv_at hl 0 rfl) ?_
          refine va_iast (D := E.1) hx hb hK.1 hP hD hS 2 0 rfl rfl (vp_in_nI (by omega) (by omega)) dX4_arrange_49 (fun H locs hP _ hS => ?_)
          have hP : va_P E.1 vwCl (wSeqx E b g_1 (upd f19_0_2 ((nI i19)).toNatClampNeg (mX4_lowestFree (rset (rset u 1 g_1) 2 f19_0_2) x19_2)) ++ wLedx E a (v 0 0) (v 0 1) (v 0 2) (v 1) (v 2) (v 3) (v 4) (v 5) (v 6) (v 7)) H := hP
          have hD := kD_app (dSeq (E := E) hj g_1 (upd f19_0_2 ((nI i19)).toNatClampNeg (mX4_lowestFree (rset (rset u 1 g_1) 2 f19_0_2) x19_2))) (dLed (E := E) hj2 (v 0 0) (v 0 1) (v 0 2) (v 1) (v 2) (v 3) (v 4) (v 5) (v 6) (v 7)) hap
          refine lv_iload_n hx hb dX4_arrange_50 rfl (lv_at hl 3 rfl) ?_
          refine lv_iconst (v := 1) hx hb dX4_arrange_51 (by decide) ?_
          refine lv_iload hx hb dX4_arrange_52 (lv_at hl 0 rfl) ?_
          refine lv_ishl hx hb dX4_arrange_54 ?_
          refine lv_iconst (v := (-1)) hx hb dX4_arrange_55 (by decide) ?_
          refine lv_ixor hx hb dX4_arrange_56 ?_
          refine lv_iand hx hb dX4_arrange_57 ?_
          refine lv_istore_n (lv' := [(2, .int (x19_2 &&& ((1 <<< ((mX4_lowestFree (rset (rset u 1 g_1) 2 f19_0_2) x19_2) &&& 31)) ^^^ (-1)))), (5, .int (mX4_lowestFree (rset (rset u 1 g_1) 2 f19_0_2) x19_2)), (4, .int (nI i19)), (3, .int (mJ6_bitCount_0f7a4 (mX2_inPhase v 1))), (0, .ref (b 0)), (1, .ref (a 0))]) hx hb dX4_arrange_58 rfl hl (by decide) rfl (fun ls hl => ?_)
          refine lv_iinc (v := (nI (i19 + 1))) (lv' := [(4, .int (nI (i19 + 1))), (2, .int (x19_2 &&& ((1 <<< ((mX4_lowestFree (rset (rset u 1 g_1) 2 f19_0_2) x19_2) &&& 31)) ^^^ (-1)))), (5, .int (mX4_lowestFree (rset (rset u 1 g_1) 2 f19_0_2) x19_2)), (3, .int (mJ6_bitCount_0f7a4 (mX2_inPhase v 1))), (0, .ref (b 0)), (1, .ref (a 0))]) hx hb dX4_arrange_59 hl (k := 2) rfl (nI_1 i19) (by decide) rfl (fun ls hl => ?_)
          refine lv_goto (tgt := 19) hx hb dX4_arrange_62 (by decide) ?_
          exact ih19 (x19_2 &&& ((1 <<< ((mX4_lowestFree (rset (rset u 1 g_1) 2 f19_0_2) x19_2) &&& 31)) ^^^ (-1))) (i19 + 1) (upd f19_0_2 ((nI i19)).toNatClampNeg (mX4_lowestFree (rset (rset u 1 g_1) 2 f19_0_2) x19_2)) _ _ (by omega) (by omega) hP hS ls (lv_sub hl [0, 3, 1, 4, 5] rfl) hE
        · replace hE := hE.trans (if_pos c_3)
          refine lv_iconst (v := 0) hx hb dX4_arrange_39 (by decide) ?_
          subst R
          exact W.zret (v := 0) (ty := .boolean) hx hb hr rfl (fun t ht hW => ⟨rfl, by rw [ht]; exact hP, hS.F ht⟩) hS.2.2 dX4_arrange_40
  exact lp19 13 (mX2_inPhase v 1) 0 (u 2) _ _ (by omega) (by omega) hP hS ls (lv_sub hl [0, 1, 2, 3, 4] rfl) hE
