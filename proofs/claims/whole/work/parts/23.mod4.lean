def mX6_edgesFrom_L4 (u : kG) (x1 : Int32) : Nat → Int32 → Nat → (Int32)
  | 0, _, _ => 0
  | n4 + 1, x4_2, i4 =>
    if ((u 1) 2) ≤ (nI i4) then
      x4_2
    else
      if (mX6_isEdge u x1 (nI i4)) = 0 then
        mX6_edgesFrom_L4 u x1 n4 (x4_2 ||| 0) (i4 + 1)
      else
        mX6_edgesFrom_L4 u x1 n4 (x4_2 ||| (1 <<< ((nI i4) &&& 31))) (i4 + 1)
theorem mX6_edgesFrom_L4_s {u : kG} {x1 : Int32} {n4 : Nat} {x4_2 : Int32} {i4 : Nat} : mX6_edgesFrom_L4 u x1 (n4 + 1) x4_2 i4 = (
    if ((u 1) 2) ≤ (nI i4) then
      x4_2
    else
      if (mX6_isEdge u x1 (nI i4)) = 0 then
        mX6_edgesFrom_L4 u x1 n4 (x4_2 ||| 0) (i4 + 1)
      else
        mX6_edgesFrom_L4 u x1 n4 (x4_2 ||| (1 <<< ((nI i4) &&& 31))) (i4 + 1) : Int32) := rfl
def mX6_edgesFrom (u : kG) (x1 : Int32) : Int32 :=
  mX6_edgesFrom_L4 u x1 13 0 0
theorem mX6_edgesFrom_s {u : kG} {x1 : Int32} : mX6_edgesFrom u x1 = (
  mX6_edgesFrom_L4 u x1 13 0 0 : Int32) := rfl
set_option maxHeartbeats 400000 in
set_option maxRecDepth 100000 in
theorem c_X6_edgesFrom (l : Launch) (E : kE) (b : Nat → Nat) (u : kG) (x1 : Int32) (hm : nOK (u 1 2)) (ht : tOK x1) (R : Int32) (hE : R = mX6_edgesFrom u x1) : Met l yX6_edgesFrom wsX6_edgesFrom ({ frames := 5, cells := 0, slots := 0, locals := 111 }) (kPre E [.ref (b 0), .int x1] (wModx E b (u 0 0) (u 0 1) (u 0 2) (u 0 3) (u 0 4) (u 0 5) (u 0 6) (u 0 7) (u 1) (u 2) (u 3) (u 4) (u 5) (u 6) (u 7) (u 8))) (kRi R) 0 0 (fun _ => False) := by
  refine Met.ofW (cc := cX6_edgesFrom) (maxL := 4) (ret := (some .int)) (by decide) rfl ?_
  intro p e s m args below meth c s₁ B hml hv
  obtain ⟨rfl, hK, hP⟩ := hv
  have hx := B.exec
  have hb := B.bytes
  have hr := B.returns
  have hts := atoms_spec (ws := wsX6_edgesFrom) B.pre
  have hown : s.vm.findClass RX6 = some m.cls := findClass_of_methodNamed B.named
  have hlocks := B.notSynchronized
  have hiX6 : ∀ w ∈ wsX60, w ∈ wsX6_edgesFrom := by decide +kernel
  have hf7 := hts (.fieldLink RX6 7 "SkewEdgesModel" "z" "[I") (by decide +kernel)
  have hP : va_P E.1 vwCl (wModx E b (u 0 0) (u 0 1) (u 0 2) (u 0 3) (u 0 4) (u 0 5) (u 0 6) (u 0 7) (u 1) (u 2) (u 3) (u 4) (u 5) (u 6) (u 7) (u 8)) s.heap := hP
  have hl := lv_entry ([.ref (b 0), .int x1]) (n := 4) (Nat.le_of_ble_eq_true rfl)
  rw [lg_entry_eq]
  generalize (lg_sl ([.ref (b 0), .int x1]) ++ List.replicate (4 - (lg_sl ([.ref (b 0), .int x1])).length) Slot.unset).toArray = ls at hl ⊢
  have hl : lv_has ls 4 [(0, .ref (b 0)), (1, .int x1)] := hl
  replace hE := hE.trans mX6_edgesFrom_s
  refine lv_iconst (v := 0) hx hb dX6_edgesFrom_0 (by decide) ?_
  refine lv_istore_n (lv' := [(2, .int 0), (0, .ref (b 0)), (1, .int x1)]) hx hb dX6_edgesFrom_1 rfl hl (by decide) rfl (fun ls hl => ?_)
  refine lv_iconst (v := 0) hx hb dX6_edgesFrom_2 (by decide) ?_
  refine lv_istore_n (lv' := [(3, .int 0), (2, .int 0), (0, .ref (b 0)), (1, .int x1)]) hx hb dX6_edgesFrom_3 rfl hl (by decide) rfl (fun ls hl => ?_)
  have lp4 : ∀ (n4 : Nat) (x4_2 : Int32) (i4 : Nat), (12 < i4 + n4) → (i4 ≤ 12) → ∀ ls : Array Slot, lv_has ls 4 [(3, .int (nI i4)), (2, .int x4_2), (0, .ref (b 0)), (1, .int x1)] → R = mX6_edgesFrom_L4 u x1 n4 x4_2 i4 → W p l e ({ frames := 5, cells := 0, slots := 0, locals := 111 }) s m ([.ref (b 0), .int x1] : List Value).toArray below meth c s.heap [] 0 0 (MQ below (kRi R) ([.ref (b 0), .int x1] : List Value).toArray s 0 0 (fun _ => False)) (F0 m 4 ls []) := by
    clear hE
    intro n4
    induction n4 with
    | zero =>
      intro x4_2 i4 hm4 hi4 ls hl hE
      exact absurd hm4 (by omega)
    | succ n4 ih4 =>
      intro x4_2 i4 hm4 hi4 ls hl hE
      replace hE := hE.trans mX6_edgesFrom_L4_s
      refine lv_iload_n hx hb dX6_edgesFrom_4 rfl (lv_at hl 0 rfl) ?_
      refine lv_aload_n hx hb dX6_edgesFrom_5 rfl (lv_at hl 2 rfl) ?_
      refine va_get (D := E.1) (ci := 5) (v := .ref (b 1)) (C := RX6) (T := TX6) (N := 16) hx hb hts hiX6 hown hK.1 hP 0 rfl rfl 0 (by decide) hf7 (fun _ h9 => h9) rfl dX6_edgesFrom_6 ?_
      refine lv_iconst (v := 2) hx hb dX6_edgesFrom_9 (by decide) ?_
      refine va_iald (D := E.1) hx hb hK.1 hP 1 0 rfl rfl (vp_in_nI (n := 2) (by decide) (by decide)) dX6_edgesFrom_10 ?_
      refine W.eq (g2 := F0 m 11 ls [.int ((u 1) 2), .int (nI i4)]) rfl ?_
      refine lv_icmp_ge (tgt := 39) hx hb dX6_edgesFrom_11 (by decide) (fun c_1 => ?_) (fun c_1 => ?_)
      · replace hE := hE.trans (if_pos c_1)
        refine lv_iload_n hx hb dX6_edgesFrom_39 rfl (lv_at hl 1 rfl) ?_
        subst R
        exact W.iret (v := x4_2) hx hb hr (fun t ht hW => ⟨rfl, ht⟩) (fun _ h => by cases h) dX6_edgesFrom_40
      · replace hE := hE.trans (if_neg c_1)
        have hbc_1 : i4 < 12 := nOK.lt (by assumption) (by omega) c_1
        refine lv_iload_n hx hb dX6_edgesFrom_14 rfl (lv_at hl 1 rfl) ?_
        refine lv_aload_n hx hb dX6_edgesFrom_15 rfl (lv_at hl 2 rfl) ?_
        refine lv_iload_n hx hb dX6_edgesFrom_16 rfl (lv_at hl 3 rfl) ?_
        refine lv_iload_n hx hb dX6_edgesFrom_17 rfl (lv_at hl 0 rfl) ?_
        refine kCallRi (va_runV (As := [.int x1, .int (nI i4)]) (rest := [.int x4_2]) ⟨hx, hb, hml, hown, hts⟩ (c_X6_isEdge l E b u x1 (nI i4) (by assumption) (tOK.nI (by omega)) _ rfl) (cwV 2 hts gX6_edgesFrom_X6_isEdge rfl rfl rfl (by decide +kernel) ⟨Nat.le_of_ble_eq_true rfl, Nat.le_of_ble_eq_true rfl⟩) (kPreV hK hP hP (q0 := 0) rfl rfl) rfl rfl hl.1 rfl (lv_room (Nat.le_of_ble_eq_true rfl)) dX6_edgesFrom_18 ⟨Nat.zero_le _, Nat.zero_le _⟩) ?_
        refine lv_if_eq (tgt := 30) hx hb dX6_edgesFrom_21 (by decide) (fun c_2 => ?_) (fun c_2 => ?_)
        · replace hE := hE.trans (if_pos c_2)
          refine lv_iconst (v := 0) hx hb dX6_edgesFrom_30 (by decide) ?_
          refine lv_ior hx hb dX6_edgesFrom_31 ?_
          refine lv_istore_n (lv' := [(2, .int (x4_2 ||| 0)), (3, .int (nI i4)), (0, .ref (b 0)), (1, .int x1)]) hx hb dX6_edgesFrom_32 rfl hl (by decide) rfl (fun ls hl => ?_)
          refine lv_iinc (v := (nI (i4 + 1))) (lv' := [(3, .int (nI (i4 + 1))), (2, .int (x4_2 ||| 0)), (0, .ref (b 0)), (1, .int x1)]) hx hb dX6_edgesFrom_33 hl (k := 1) rfl (nI_1 i4) (by decide) rfl (fun ls hl => ?_)
          refine lv_goto (tgt := 4) hx hb dX6_edgesFrom_36 (by decide) ?_
          exact ih4 (x4_2 ||| 0) (i4 + 1) (by omega) (by omega) ls (lv_sub hl [0, 1, 2, 3] rfl) hE
        · replace hE := hE.trans (if_neg c_2)
          refine lv_iconst (v := 1) hx hb dX6_edgesFrom_24 (by decide) ?_
          refine lv_iload_n hx hb dX6_edgesFrom_25 rfl (lv_at hl 0 rfl) ?_
          refine lv_ishl hx hb dX6_edgesFrom_26 ?_
          refine lv_goto (tgt := 31) hx hb dX6_edgesFrom_27 (by decide) ?_
          refine lv_ior hx hb dX6_edgesFrom_31 ?_
          refine lv_istore_n (lv' := [(2, .int (x4_2 ||| (1 <<< ((nI i4) &&& 31)))), (3, .int (nI i4)), (0, .ref (b 0)), (1, .int x1)]) hx hb dX6_edgesFrom_32 rfl hl (by decide) rfl (fun ls hl => ?_)
          refine lv_iinc (v := (nI (i4 + 1))) (lv' := [(3, .int (nI (i4 + 1))), (2, .int (x4_2 ||| (1 <<< ((nI i4) &&& 31)))), (0, .ref (b 0)), (1, .int x1)]) hx hb dX6_edgesFrom_33 hl (k := 1) rfl (nI_1 i4) (by decide) rfl (fun ls hl => ?_)
          refine lv_goto (tgt := 4) hx hb dX6_edgesFrom_36 (by decide) ?_
          exact ih4 (x4_2 ||| (1 <<< ((nI i4) &&& 31))) (i4 + 1) (by omega) (by omega) ls (lv_sub hl [0, 1, 2, 3] rfl) hE
  exact lp4 13 0 0 (by omega) (by omega) ls (lv_sub hl [0, 1, 2, 3] rfl) hE
theorem edgesFrom_Ls {u : kG} {w : Int32} (hv : nOK (u 1 2)) : ∀ (n : Nat) (x : Int32) (i : Nat), i ≤ 12 → sOK x → sOK (mX6_edgesFrom_L4 u w n x i) := by
  intro n
  induction n with
  | zero => intro x i _ _; exact sOK.zero
  | succ n ih =>
    intro x i hi hx
    rw [mX6_edgesFrom_L4_s]
    split
    · exact hx
    · rename_i c
      have hi2 := nOK.lt hv hi c
      split
      · exact ih _ _ (by omega) (hx.or sOK.zero)
      · exact ih _ _ (by omega) (hx.or (sOK.one hi2))
theorem edgesFrom_b {u : kG} (hv : nOK (u 1 2)) (w : Int32) : bOK 65535 (mX6_edgesFrom u w) := (edgesFrom_Ls hv _ _ _ (by omega) sOK.zero).b
def mX6_edgesTo_L4 (u : kG) (x1 : Int32) : Nat → Int32 → Nat → (Int32)
  | 0, _, _ => 0
  | n4 + 1, x4_2, i4 =>
    if ((u 1) 2) ≤ (nI i4) then
      x4_2
    else
      if (mX6_isEdge u (nI i4) x1) = 0 then
        mX6_edgesTo_L4 u x1 n4 (x4_2 ||| 0) (i4 + 1)
      else
        mX6_edgesTo_L4 u x1 n4 (x4_2 ||| (1 <<< ((nI i4) &&& 31))) (i4 + 1)
theorem mX6_edgesTo_L4_s {u : kG} {x1 : Int32} {n4 : Nat} {x4_2 : Int32} {i4 : Nat} : mX6_edgesTo_L4 u x1 (n4 + 1) x4_2 i4 = (
    if ((u 1) 2) ≤ (nI i4) then
      x4_2
    else
      if (mX6_isEdge u (nI i4) x1) = 0 then
        mX6_edgesTo_L4 u x1 n4 (x4_2 ||| 0) (i4 + 1)
      else
        mX6_edgesTo_L4 u x1 n4 (x4_2 ||| (1 <<< ((nI i4) &&& 31))) (i4 + 1) : Int32) := rfl
def mX6_edgesTo (u : kG) (x1 : Int32) : Int32 :=
  mX6_edgesTo_L4 u x1 13 0 0
theorem mX6_edgesTo_s {u : kG} {x1 : Int32} : mX6_edgesTo u x1 = (
  mX6_edgesTo_L4 u x1 13 0 0 : Int32) := rfl
set_option maxHeartbeats 400000 in
set_option maxRecDepth 100000 in
theorem c_X6_edgesTo (l : Launch) (E : kE) (b : Nat → Nat) (u : kG) (x1 : Int32) (hm : nOK (u 1 2)) (ht : tOK x1) (R : Int32) (hE : R = mX6_edgesTo u x1) : Met l yX6_edgesTo wsX6_edgesTo ({ frames := 5, cells := 0, slots := 0, locals := 111 }) (kPre E [.ref (b 0), .int x1] (wModx E b (u 0 0) (u 0 1) (u 0 2) (u 0 3) (u 0 4) (u 0 5) (u 0 6) (u 0 7) (u 1) (u 2) (u 3) (u 4) (u 5) (u 6) (u 7) (u 8))) (kRi R) 0 0 (fun _ => False) := by
  refine Met.ofW (cc := cX6_edgesTo) (maxL := 4) (ret := (some .int)) (by decide) rfl ?_
  intro p e s m args below meth c s₁ B hml hv
  obtain ⟨rfl, hK, hP⟩ := hv
  have hx := B.exec
  have hb := B.bytes
  have hr := B.returns
  have hts := atoms_spec (ws := wsX6_edgesTo) B.pre
  have hown : s.vm.findClass RX6 = some m.cls := findClass_of_methodNamed B.named
  have hlocks := B.notSynchronized
  have hiX6 : ∀ w ∈ wsX60, w ∈ wsX6_edgesTo := by decide +kernel
  have hf7 := hts (.fieldLink RX6 7 "SkewEdgesModel" "z" "[I") (by decide +kernel)
  have hP : va_P E.1 vwCl (wModx E b (u 0 0) (u 0 1) (u 0 2) (u 0 3) (u 0 4) (u 0 5) (u 0 6) (u 0 7) (u 1) (u 2) (u 3) (u 4) (u 5) (u 6) (u 7) (u 8)) s.heap := hP
  have hl := lv_entry ([.ref (b 0), .int x1]) (n := 4) (Nat.le_of_ble_eq_true rfl)
  rw [lg_entry_eq]
  generalize (lg_sl ([.ref (b 0), .int x1]) ++ List.replicate (4 - (lg_sl ([.ref (b 0), .int x1])).length) Slot.unset).toArray = ls at hl ⊢
  have hl : lv_has ls 4 [(0, .ref (b 0)), (1, .int x1)] := hl
  replace hE := hE.trans mX6_edgesTo_s
  refine lv_iconst (v := 0) hx hb dX6_edgesTo_0 (by decide) ?_
  refine lv_istore_n (lv' := [(2, .int 0), (0, .ref (b 0)), (1, .int x1)]) hx hb dX6_edgesTo_1 rfl hl (by decide) rfl (fun ls hl => ?_)
  refine lv_iconst (v := 0) hx hb dX6_edgesTo_2 (by decide) ?_
  refine lv_istore_n (lv' := [(3, .int 0), (2, .int 0), (0, .ref (b 0)), (1, .int x1)]) hx hb dX6_edgesTo_3 rfl hl (by decide) rfl (fun ls hl => ?_)
  have lp4 : ∀ (n4 : Nat) (x4_2 : Int32) (i4 : Nat), (12 < i4 + n4) → (i4 ≤ 12) → ∀ ls : Array Slot, lv_has ls 4 [(3, .int (nI i4)), (2, .int x4_2), (0, .ref (b 0)), (1, .int x1)] → R = mX6_edgesTo_L4 u x1 n4 x4_2 i4 → W p l e ({ frames := 5, cells := 0, slots := 0, locals := 111 }) s m ([.ref (b 0), .int x1] : List Value).toArray below meth c s.heap [] 0 0 (MQ below (kRi R) ([.ref (b 0), .int x1] : List Value).toArray s 0 0 (fun _ => False)) (F0 m 4 ls []) := by
    clear hE
    intro n4
    induction n4 with
    | zero =>
      intro x4_2 i4 hm4 hi4 ls hl hE
      exact absurd hm4 (by omega)
    | succ n4 ih4 =>
      intro x4_2 i4 hm4 hi4 ls hl hE
      replace hE := hE.trans mX6_edgesTo_L4_s
      refine lv_iload_n hx hb dX6_edgesTo_4 rfl (lv_at hl 0 rfl) ?_
      refine lv_aload_n hx hb dX6_edgesTo_5 rfl (lv_at hl 2 rfl) ?_
      refine va_get (D := E.1) (ci := 5) (v := .ref (b 1)) (C := RX6) (T := TX6) (N := 16) hx hb hts hiX6 hown hK.1 hP 0 rfl rfl 0 (by decide) hf7 (fun _ h9 => h9) rfl dX6_edgesTo_6 ?_
      refine lv_iconst (v := 2) hx hb dX6_edgesTo_9 (by decide) ?_
      refine va_iald (D := E.1) hx hb hK.1 hP 1 0 rfl rfl (vp_in_nI (n := 2) (by decide) (by decide)) dX6_edgesTo_10 ?_
      refine W.eq (g2 := F0 m 11 ls [.int ((u 1) 2), .int (nI i4)]) rfl ?_
      refine lv_icmp_ge (tgt := 39) hx hb dX6_edgesTo_11 (by decide) (fun c_1 => ?_) (fun c_1 => ?_)
      · replace hE := hE.trans (if_pos c_1)
        refine lv_iload_n hx hb dX6_edgesTo_39 rfl (lv_at hl 1 rfl) ?_
        subst R
        exact W.iret (v := x4_2) hx hb hr (fun t ht hW => ⟨rfl, ht⟩) (fun _ h => by cases h) dX6_edgesTo_40
      · replace hE := hE.trans (if_neg c_1)
        have hbc_1 : i4 < 12 := nOK.lt (by assumption) (by omega) c_1
        refine lv_iload_n hx hb dX6_edgesTo_14 rfl (lv_at hl 1 rfl) ?_
        refine lv_aload_n hx hb dX6_edgesTo_15 rfl (lv_at hl 2 rfl) ?_
        refine lv_iload_n hx hb dX6_edgesTo_16 rfl (lv_at hl 0 rfl) ?_
        refine lv_iload_n hx hb dX6_edgesTo_17 rfl (lv_at hl 3 rfl) ?_
        refine kCallRi (va_runV (As := [.int (nI i4), .int x1]) (rest := [.int x4_2]) ⟨hx, hb, hml, hown, hts⟩ (c_X6_isEdge l E b u (nI i4) x1 (tOK.nI (by omega)) (by assumption) _ rfl) (cwV 2 hts gX6_edgesTo_X6_isEdge rfl rfl rfl (by decide +kernel) ⟨Nat.le_of_ble_eq_true rfl, Nat.le_of_ble_eq_true rfl⟩) (kPreV hK hP hP (q0 := 0) rfl rfl) rfl rfl hl.1 rfl (lv_room (Nat.le_of_ble_eq_true rfl)) dX6_edgesTo_18 ⟨Nat.zero_le _, Nat.zero_le _⟩) ?_
        refine lv_if_eq (tgt := 30) hx hb dX6_edgesTo_21 (by decide) (fun c_2 => ?_) (fun c_2 => ?_)
        · replace hE := hE.trans (if_pos c_2)
          refine lv_iconst (v := 0) hx hb dX6_edgesTo_30 (by decide) ?_
          refine lv_ior hx hb dX6_edgesTo_31 ?_
          refine lv_istore_n (lv' := [(2, .int (x4_2 ||| 0)), (3, .int (nI i4)), (0, .ref (b 0)), (1, .int x1)]) hx hb dX6_edgesTo_32 rfl hl (by decide) rfl (fun ls hl => ?_)
          refine lv_iinc (v := (nI (i4 + 1))) (lv' := [(3, .int (nI (i4 + 1))), (2, .int (x4_2 ||| 0)), (0, .ref (b 0)), (1, .int x1)]) hx hb dX6_edgesTo_33 hl (k := 1) rfl (nI_1 i4) (by decide) rfl (fun ls hl => ?_)
          refine lv_goto (tgt := 4) hx hb dX6_edgesTo_36 (by decide) ?_
          exact ih4 (x4_2 ||| 0) (i4 + 1) (by omega) (by omega) ls (lv_sub hl [0, 1, 2, 3] rfl) hE
        · replace hE := hE.trans (if_neg c_2)
          refine lv_iconst (v := 1) hx hb dX6_edgesTo_24 (by decide) ?_
          refine lv_iload_n hx hb dX6_edgesTo_25 rfl (lv_at hl 0 rfl) ?_
          refine lv_ishl hx hb dX6_edgesTo_26 ?_
          refine lv_goto (tgt := 31) hx hb dX6_edgesTo_27 (by decide) ?_
          refine lv_ior hx hb dX6_edgesTo_31 ?_
          refine lv_istore_n (lv' := [(2, .int (x4_2 ||| (1 <<< ((nI i4) &&& 31)))), (3, .int (nI i4)), (0, .ref (b 0)), (1, .int x1)]) hx hb dX6_edgesTo_32 rfl hl (by decide) rfl (fun ls hl => ?_)
          refine lv_iinc (v := (nI (i4 + 1))) (lv' := [(3, .int (nI (i4 + 1))), (2, .int (x4_2 ||| (1 <<< ((nI i4) &&& 31)))), (0, .ref (b 0)), (1, .int x1)]) hx hb dX6_edgesTo_33 hl (k := 1) rfl (nI_1 i4) (by decide) rfl (fun ls hl => ?_)
          refine lv_goto (tgt := 4) hx hb dX6_edgesTo_36 (by decide) ?_
          exact ih4 (x4_2 ||| (1 <<< ((nI i4) &&& 31))) (i4 + 1) (by omega) (by omega) ls (lv_sub hl [0, 1, 2, 3] rfl) hE
  exact lp4 13 0 0 (by omega) (by omega) ls (lv_sub hl [0, 1, 2, 3] rfl) hE
theorem edgesTo_Ls {u : kG} {w : Int32} (hv : nOK (u 1 2)) : ∀ (n : Nat) (x : Int32) (i : Nat), i ≤ 12 → sOK x → sOK (mX6_edgesTo_L4 u w n x i) := by
  intro n
  induction n with
  | zero => intro x i _ _; exact sOK.zero
  | succ n ih =>
    intro x i hi hx
    rw [mX6_edgesTo_L4_s]
    split
    · exact hx
    · rename_i c
      have hi2 := nOK.lt hv hi c
      split
      · exact ih _ _ (by omega) (hx.or sOK.zero)
      · exact ih _ _ (by omega) (hx.or (sOK.one hi2))
theorem edgesTo_b {u : kG} (hv : nOK (u 1 2)) (w : Int32) : bOK 65535 (mX6_edgesTo u w) := (edgesTo_Ls hv _ _ _ (by omega) sOK.zero).b
def mX6_endangers_L5 (u : kG) (x1 : Int32) (x2 : Int32) : Nat → Int32 → Nat → (Int32)
  | 0, _, _ => 0
  | n5 + 1, x5_3, i5 =>
    if ((u 1) 2) ≤ (nI i5) then
      x5_3
    else
      if x5_3 = 0 then
        if (mX6_isIn u x1 1) = 0 then
          mX6_endangers_L5 u x1 x2 n5 0 (i5 + 1)
        else
          if (mX6_isEdge u x1 (nI i5)) = 0 then
            mX6_endangers_L5 u x1 x2 n5 0 (i5 + 1)
          else
            if (mX6_isCommittedAhead u (nI i5) x2) = 0 then
              mX6_endangers_L5 u x1 x2 n5 0 (i5 + 1)
            else
              mX6_endangers_L5 u x1 x2 n5 1 (i5 + 1)
      else
        mX6_endangers_L5 u x1 x2 n5 1 (i5 + 1)
theorem mX6_endangers_L5_s {u : kG} {x1 : Int32} {x2 : Int32} {n5 : Nat} {x5_3 : Int32} {i5 : Nat} : mX6_endangers_L5 u x1 x2 (n5 + 1) x5_3 i5 = (
    if ((u 1) 2) ≤ (nI i5) then
      x5_3
    else
      if x5_3 = 0 then
        if (mX6_isIn u x1 1) = 0 then
          mX6_endangers_L5 u x1 x2 n5 0 (i5 + 1)
        else
          if (mX6_isEdge u x1 (nI i5)) = 0 then
            mX6_endangers_L5 u x1 x2 n5 0 (i5 + 1)
          else
            if (mX6_isCommittedAhead u (nI i5) x2) = 0 then
              mX6_endangers_L5 u x1 x2 n5 0 (i5 + 1)
            else
              mX6_endangers_L5 u x1 x2 n5 1 (i5 + 1)
      else
        mX6_endangers_L5 u x1 x2 n5 1 (i5 + 1) : Int32) := rfl
def mX6_endangers (u : kG) (x1 : Int32) (x2 : Int32) : Int32 :=
  mX6_endangers_L5 u x1 x2 13 0 0
theorem mX6_endangers_s {u : kG} {x1 : Int32} {x2 : Int32} : mX6_endangers u x1 x2 = (
  mX6_endangers_L5 u x1 x2 13 0 0 : Int32) := rfl
set_option maxHeartbeats 400000 in
set_option maxRecDepth 100000 in
theorem c_X6_endangers (l : Launch) (E : kE) (b : Nat → Nat) (u : kG) (x1 : Int32) (x2 : Int32) (hm : nOK (u 1 2)) (ht : tOK x1) (R : Int32) (hE : R = mX6_endangers u x1 x2) : Met l yX6_endangers wsX6_endangers ({ frames := 5, cells := 0, slots := 0, locals := 111 }) (kPre E [.ref (b 0), .int x1, .int x2] (wModx E b (u 0 0) (u 0 1) (u 0 2) (u 0 3) (u 0 4) (u 0 5) (u 0 6) (u 0 7) (u 1) (u 2) (u 3) (u 4) (u 5) (u 6) (u 7) (u 8))) (kRi R) 0 0 (fun _ => False) := by
  refine Met.ofW (cc := cX6_endangers) (maxL := 5) (ret := (some .boolean)) (by decide) rfl ?_
  intro p e s m args below meth c s₁ B hml hv
  obtain ⟨rfl, hK, hP⟩ := hv
  have hx := B.exec
  have hb := B.bytes
  have hr := B.returns
  have hts := atoms_spec (ws := wsX6_endangers) B.pre
  have hown : s.vm.findClass RX6 = some m.cls := findClass_of_methodNamed B.named
  have hlocks := B.notSynchronized
  have hiX6 : ∀ w ∈ wsX60, w ∈ wsX6_endangers := by decide +kernel
  have hf7 := hts (.fieldLink RX6 7 "SkewEdgesModel" "z" "[I") (by decide +kernel)
  have hP : va_P E.1 vwCl (wModx E b (u 0 0) (u 0 1) (u 0 2) (u 0 3) (u 0 4) (u 0 5) (u 0 6) (u 0 7) (u 1) (u 2) (u 3) (u 4) (u 5) (u 6) (u 7) (u 8)) s.heap := hP
  have hl := lv_entry ([.ref (b 0), .int x1, .int x2]) (n := 5) (Nat.le_of_ble_eq_true rfl)
  rw [lg_entry_eq]
  generalize (lg_sl ([.ref (b 0), .int x1, .int x2]) ++ List.replicate (5 - (lg_sl ([.ref (b 0), .int x1, .int x2])).length) Slot.unset).toArray = ls at hl ⊢
  have hl : lv_has ls 5 [(0, .ref (b 0)), (1, .int x1), (2, .int x2)] := hl
  replace hE := hE.trans mX6_endangers_s
  refine lv_iconst (v := 0) hx hb dX6_endangers_0 (by decide) ?_
  refine lv_istore_n (lv' := [(3, .int 0), (0, .ref (b 0)), (1, .int x1), (2, .int x2)]) hx hb dX6_endangers_1 rfl hl (by decide) rfl (fun ls hl => ?_)
  refine lv_iconst (v := 0) hx hb dX6_endangers_2 (by decide) ?_
  refine lv_istore (lv' := [(4, .int 0), (3, .int 0), (0, .ref (b 0)), (1, .int x1), (2, .int x2)]) hx hb dX6_endangers_3 hl (by decide) rfl (fun ls hl => ?_)
  have lp5 : ∀ (n5 : Nat) (x5_3 : Int32) (i5 : Nat), (12 < i5 + n5) → (i5 ≤ 12) → (x5_3 = 0 ∨ x5_3 = 1) → ∀ ls : Array Slot, lv_has ls 5 [(4, .int (nI i5)), (3, .int x5_3), (0, .ref (b 0)), (1, .int x1), (2, .int x2)] → R = mX6_endangers_L5 u x1 x2 n5 x5_3 i5 → W p l e ({ frames := 5, cells := 0, slots := 0, locals := 111 }) s m ([.ref (b 0), .int x1, .int x2] : List Value).toArray below meth c s.heap [] 0 0 (MQ below (kRi R) ([.ref (b 0), .int x1, .int x2] : List Value).toArray s 0 0 (fun _ => False)) (F0 m 5 ls []) := by
    clear hE
    intro n5
    induction n5 with
    | zero =>
      intro x5_3 i5 hm5 hi5 hbe ls hl hE
      exact absurd hm5 (by omega)
    | succ n5 ih5 =>
      intro x5_3 i5 hm5 hi5 hbe ls hl hE
      replace hE := hE.trans mX6_endangers_L5_s
      refine lv_iload hx hb dX6_endangers_5 (lv_at hl 0 rfl) ?_
      refine lv_aload_n hx hb dX6_endangers_7 rfl (lv_at hl 2 rfl) ?_
      refine va_get (D := E.1) (ci := 5) (v := .ref (b 1)) (C := RX6) (T := TX6) (N := 16) hx hb hts hiX6 hown hK.1 hP 0 rfl rfl 0 (by decide) hf7 (fun _ h9 => h9) rfl dX6_endangers_8 ?_
      refine lv_iconst (v := 2) hx hb dX6_endangers_11 (by decide) ?_
      refine va_iald (D := E.1) hx hb hK.1 hP 1 0 rfl rfl (vp_in_nI (n := 2) (by decide) (by decide)) dX6_endangers_12 ?_
      refine W.eq (g2 := F0 m 13 ls [.int ((u 1) 2), .int (nI i5)]) rfl ?_
      refine lv_icmp_ge (tgt := 61) hx hb dX6_endangers_13 (by decide) (fun c_1 => ?_) (fun c_1 => ?_)
      · replace hE := hE.trans (if_pos c_1)
        refine lv_iload_n hx hb dX6_endangers_61 rfl (lv_at hl 1 rfl) ?_
        subst R
        exact W.zret (v := x5_3) (ty := .boolean) hx hb hr (kbool hbe) (fun t ht hW => ⟨rfl, ht⟩) (fun _ h => by cases h) dX6_endangers_62
      · replace hE := hE.trans (if_neg c_1)
        have hbc_1 : i5 < 12 := nOK.lt (by assumption) (by omega) c_1
        refine lv_iload_n hx hb dX6_endangers_16 rfl (lv_at hl 1 rfl) ?_
        refine lv_if_ne (tgt := 49) hx hb dX6_endangers_17 (by decide) (fun c_2 => ?_) (fun c_2 => ?_)
        · replace hE := hE.trans (if_neg c_2)
          refine lv_iconst (v := 1) hx hb dX6_endangers_49 (by decide) ?_
          refine lv_goto (tgt := 54) hx hb dX6_endangers_50 (by decide) ?_
          refine lv_istore_n (lv' := [(3, .int 1), (4, .int (nI i5)), (0, .ref (b 0)), (1, .int x1), (2, .int x2)]) hx hb dX6_endangers_54 rfl hl (by decide) rfl (fun ls hl => ?_)
          refine lv_iinc (v := (nI (i5 + 1))) (lv' := [(4, .int (nI (i5 + 1))), (3, .int 1), (0, .ref (b 0)), (1, .int x1), (2, .int x2)]) hx hb dX6_endangers_55 hl (k := 1) rfl (nI_1 i5) (by decide) rfl (fun ls hl => ?_)
          refine lv_goto (tgt := 5) hx hb dX6_endangers_58 (by decide) ?_
          exact ih5 1 (i5 + 1) (by omega) (by omega) (by first | exact Or.inl rfl | exact Or.inr rfl | assumption) ls (lv_sub hl [0, 1, 2, 3, 4] rfl) hE
        · replace hE := hE.trans (if_pos c_2)
          refine lv_aload_n hx hb dX6_endangers_20 rfl (lv_at hl 2 rfl) ?_
          refine lv_iload_n hx hb dX6_endangers_21 rfl (lv_at hl 3 rfl) ?_
          refine lv_iconst (v := 1) hx hb dX6_endangers_22 (by decide) ?_
          refine kCallRi (va_runV (As := [.int x1, .int 1]) (rest := []) ⟨hx, hb, hml, hown, hts⟩ (c_X6_isIn l E b u x1 1 (by assumption) _ rfl) (cwV 2 hts gX6_endangers_X6_isIn rfl rfl rfl (by decide +kernel) ⟨Nat.le_of_ble_eq_true rfl, Nat.le_of_ble_eq_true rfl⟩) (kPreV hK hP hP (q0 := 0) rfl rfl) rfl rfl hl.1 rfl (lv_room (Nat.le_of_ble_eq_true rfl)) dX6_endangers_23 ⟨Nat.zero_le _, Nat.zero_le _⟩) ?_
          refine lv_if_eq (tgt := 53) hx hb dX6_endangers_26 (by decide) (fun c_3 => ?_) (fun c_3 => ?_)
          · replace hE := hE.trans (if_pos c_3)
            refine lv_iconst (v := 0) hx hb dX6_endangers_53 (by decide) ?_
            refine lv_istore_n (lv' := [(3, .int 0), (4, .int (nI i5)), (0, .ref (b 0)), (1, .int x1), (2, .int x2)]) hx hb dX6_endangers_54 rfl hl (by decide) rfl (fun ls hl => ?_)
            refine lv_iinc (v := (nI (i5 + 1))) (lv' := [(4, .int (nI (i5 + 1))), (3, .int 0), (0, .ref (b 0)), (1, .int x1), (2, .int x2)]) hx hb dX6_endangers_55 hl (k := 1) rfl (nI_1 i5) (by decide) rfl (fun ls hl => ?_)
            refine lv_goto (tgt := 5) hx hb dX6_endangers_58 (by decide) ?_
            exact ih5 0 (i5 + 1) (by omega) (by omega) (by first | exact Or.inl rfl | exact Or.inr rfl | assumption) ls (lv_sub hl [0, 1, 2, 3, 4] rfl) hE
          · replace hE := hE.trans (if_neg c_3)
            refine lv_aload_n hx hb dX6_endangers_29 rfl (lv_at hl 2 rfl) ?_
            refine lv_iload_n hx hb dX6_endangers_30 rfl (lv_at hl 3 rfl) ?_
            refine lv_iload hx hb dX6_endangers_31 (lv_at hl 0 rfl) ?_
            refine kCallRi (va_runV (As := [.int x1, .int (nI i5)]) (rest := []) ⟨hx, hb, hml, hown, hts⟩ (c_X6_isEdge l E b u x1 (nI i5) (by assumption) (tOK.nI (by omega)) _ rfl) (cwV 2 hts gX6_endangers_X6_isEdge rfl rfl rfl (by decide +kernel) ⟨Nat.le_of_ble_eq_true rfl, Nat.le_of_ble_eq_true rfl⟩) (kPreV hK hP hP (q0 := 0) rfl rfl) rfl rfl hl.1 rfl (lv_room (Nat.le_of_ble_eq_true rfl)) dX6_endangers_33 ⟨Nat.zero_le _, Nat.zero_le _⟩) ?_
            refine lv_if_eq (tgt := 53) hx hb dX6_endangers_36 (by decide) (fun c_4 => ?_) (fun c_4 => ?_)
            · replace hE := hE.trans (if_pos c_4)
              refine lv_iconst (v := 0) hx hb dX6_endangers_53 (by decide) ?_
              refine lv_istore_n (lv' := [(3, .int 0), (4, .int (nI i5)), (0, .ref (b 0)), (1, .int x1), (2, .int x2)]) hx hb dX6_endangers_54 rfl hl (by decide) rfl (fun ls hl => ?_)
              refine lv_iinc (v := (nI (i5 + 1))) (lv' := [(4, .int (nI (i5 + 1))), (3, .int 0), (0, .ref (b 0)), (1, .int x1), (2, .int x2)]) hx hb dX6_endangers_55 hl (k := 1) rfl (nI_1 i5) (by decide) rfl (fun ls hl => ?_)
              refine lv_goto (tgt := 5) hx hb dX6_endangers_58 (by decide) ?_
              exact ih5 0 (i5 + 1) (by omega) (by omega) (by first | exact Or.inl rfl | exact Or.inr rfl | assumption) ls (lv_sub hl [0, 1, 2, 3, 4] rfl) hE
            · replace hE := hE.trans (if_neg c_4)
              refine lv_aload_n hx hb dX6_endangers_39 rfl (lv_at hl 2 rfl) ?_
              refine lv_iload hx hb dX6_endangers_40 (lv_at hl 0 rfl) ?_
              refine lv_iload_n hx hb dX6_endangers_42 rfl (lv_at hl 4 rfl) ?_
              refine kCallRi (va_runV (As := [.int (nI i5), .int x2]) (rest := []) ⟨hx, hb, hml, hown, hts⟩ (c_X6_isCommittedAhead l E b u (nI i5) x2 (tOK.nI (by omega)) _ rfl) (cwV 2 hts gX6_endangers_X6_isCommittedAhead rfl rfl rfl (by decide +kernel) ⟨Nat.le_of_ble_eq_true rfl, Nat.le_of_ble_eq_true rfl⟩) (kPreV hK hP hP (q0 := 0) rfl rfl) rfl rfl hl.1 rfl (lv_room (Nat.le_of_ble_eq_true rfl)) dX6_endangers_43 ⟨Nat.zero_le _, Nat.zero_le _⟩) ?_
              refine lv_if_eq (tgt := 53) hx hb dX6_endangers_46 (by decide) (fun c_5 => ?_) (fun c_5 => ?_)
              · replace hE := hE.trans (if_pos c_5)
                refine lv_iconst (v := 0) hx hb dX6_endangers_53 (by decide) ?_
                refine lv_istore_n (lv' := [(3, .int 0), (4, .int (nI i5)), (0, .ref (b 0)), (1, .int x1), (2, .int x2)]) hx hb dX6_endangers_54 rfl hl (by decide) rfl (fun ls hl => ?_)
                refine lv_iinc (v := (nI (i5 + 1))) (lv' := [(4, .int (nI (i5 + 1))), (3, .int 0), (0, .ref (b 0)), (1, .int x1), (2, .int x2)]) hx hb dX6_endangers_55 hl (k := 1) rfl (nI_1 i5) (by decide) rfl (fun ls hl => ?_)
                refine lv_goto (tgt := 5) hx hb dX6_endangers_58 (by decide) ?_
                exact ih5 0 (i5 + 1) (by omega) (by omega) (by first | exact Or.inl rfl | exact Or.inr rfl | assumption) ls (lv_sub hl [0, 1, 2, 3, 4] rfl) hE
              · replace hE := hE.trans (if_neg c_5)
                refine lv_iconst (v := 1) hx hb dX6_endangers_49 (by decide) ?_
                refine lv_goto (tgt := 54) hx hb dX6_endangers_50 (by decide) ?_
                refine lv_istore_n (lv' := [(3, .int 1), (4, .int (nI i5)), (0, .ref (b 0)), (1, .int x1), (2, .int x2)]) hx hb dX6_endangers_54 rfl hl (by decide) rfl (fun ls hl => ?_)
                refine lv_iinc (v := (nI (i5 + 1))) (lv' := [(4, .int (nI (i5 + 1))), (3, .int 1), (0, .ref (b 0)), (1, .int x1), (2, .int x2)]) hx hb dX6_endangers_55 hl (k := 1) rfl (nI_1 i5) (by decide) rfl (fun ls hl => ?_)
                refine lv_goto (tgt := 5) hx hb dX6_endangers_58 (by decide) ?_
                exact ih5 1 (i5 + 1) (by omega) (by omega) (by first | exact Or.inl rfl | exact Or.inr rfl | assumption) ls (lv_sub hl [0, 1, 2, 3, 4] rfl) hE
  exact lp5 13 0 0 (by omega) (by omega) (Or.inl rfl) ls (lv_sub hl [0, 1, 2, 3, 4] rfl) hE
def mX6_safety_L25 (u : kG) (x1 : Int32) : Nat → Int32 → Nat → (Int32)
  | 0, _, _ => 0
  | n25 + 1, x25_2, i25 =>
    if ((u 1) 2) ≤ (nI i25) then
      if x25_2 = 0 then
        2
      else
        1
    else
      if (((mX6_its u x1 6) >>> ((nI i25) &&& 31)) &&& 1) = 1 then
        if (mX6_endangers u (nI i25) (mX6_its u x1 1)) = 0 then
          if x25_2 = 0 then
            mX6_safety_L25 u x1 n25 0 (i25 + 1)
          else
            if (mX6_isIn u (nI i25) 0) = 0 then
              mX6_safety_L25 u x1 n25 1 (i25 + 1)
            else
              mX6_safety_L25 u x1 n25 0 (i25 + 1)
        else
          0
      else
        mX6_safety_L25 u x1 n25 x25_2 (i25 + 1)
theorem mX6_safety_L25_s {u : kG} {x1 : Int32} {n25 : Nat} {x25_2 : Int32} {i25 : Nat} : mX6_safety_L25 u x1 (n25 + 1) x25_2 i25 = (
    if ((u 1) 2) ≤ (nI i25) then
      if x25_2 = 0 then
        2
      else
        1
    else
      if (((mX6_its u x1 6) >>> ((nI i25) &&& 31)) &&& 1) = 1 then
        if (mX6_endangers u (nI i25) (mX6_its u x1 1)) = 0 then
          if x25_2 = 0 then
            mX6_safety_L25 u x1 n25 0 (i25 + 1)
          else
            if (mX6_isIn u (nI i25) 0) = 0 then
              mX6_safety_L25 u x1 n25 1 (i25 + 1)
            else
              mX6_safety_L25 u x1 n25 0 (i25 + 1)
        else
          0
      else
        mX6_safety_L25 u x1 n25 x25_2 (i25 + 1) : Int32) := rfl
def mX6_safety (u : kG) (x1 : Int32) : Int32 :=
  if (mX6_isIn u x1 2) = 0 then
    if (mX6_its u x1 4) = 0 then
      mX6_safety_L25 u x1 13 1 0
    else
      (-6)
  else
    (-6)
theorem mX6_safety_s {u : kG} {x1 : Int32} : mX6_safety u x1 = (
  if (mX6_isIn u x1 2) = 0 then
    if (mX6_its u x1 4) = 0 then
      mX6_safety_L25 u x1 13 1 0
    else
      (-6)
  else
    (-6) : Int32) := rfl
set_option maxHeartbeats 400000 in
set_option maxRecDepth 100000 in
theorem c_X6_safety (l : Launch) (E : kE) (b : Nat → Nat) (u : kG) (x1 : Int32) (hm : nOK (u 1 2)) (ht : tOK x1) (R : Int32) (hE : R = mX6_safety u x1) : Met l yX6_safety wsX6_safety ({ frames := 6, cells := 0, slots := 0, locals := 135 }) (kPre E [.ref (b 0), .int x1] (wModx E b (u 0 0) (u 0 1) (u 0 2) (u 0 3) (u 0 4) (u 0 5) (u 0 6) (u 0 7) (u 1) (u 2) (u 3) (u 4) (u 5) (u 6) (u 7) (u 8))) (kRi R) 0 0 (fun _ => False) := by
  refine Met.ofW (cc := cX6_safety) (maxL := 4) (ret := (some .int)) (by decide) rfl ?_
  intro p e s m args below meth c s₁ B hml hv
  obtain ⟨rfl, hK, hP⟩ := hv
  have hx := B.exec
  have hb := B.bytes
  have hr := B.returns
  have hts := atoms_spec (ws := wsX6_safety) B.pre
  have hown : s.vm.findClass RX6 = some m.cls := findClass_of_methodNamed B.named
  have hlocks := B.notSynchronized
  have hiX6 : ∀ w ∈ wsX60, w ∈ wsX6_safety := by decide +kernel
  have hf7 := hts (.fieldLink RX6 7 "SkewEdgesModel" "z" "[I") (by decide +kernel)
  have hP : va_P E.1 vwCl (wModx E b (u 0 0) (u 0 1) (u 0 2) (u 0 3) (u 0 4) (u 0 5) (u 0 6) (u 0 7) (u 1) (u 2) (u 3) (u 4) (u 5) (u 6) (u 7) (u 8)) s.heap := hP
  have hl := lv_entry ([.ref (b 0), .int x1]) (n := 4) (Nat.le_of_ble_eq_true rfl)
  rw [lg_entry_eq]
  generalize (lg_sl ([.ref (b 0), .int x1]) ++ List.replicate (4 - (lg_sl ([.ref (b 0), .int x1])).length) Slot.unset).toArray = ls at hl ⊢
  have hl : lv_has ls 4 [(0, .ref (b 0)), (1, .int x1)] := hl
  replace hE := hE.trans mX6_safety_s
  refine lv_aload_n hx hb dX6_safety_0 rfl (lv_at hl 0 rfl) ?_
  refine lv_iload_n hx hb dX6_safety_1 rfl (lv_at hl 1 rfl) ?_
  refine lv_iconst (v := 2) hx hb dX6_safety_2 (by decide) ?_
  refine kCallRi (va_runV (As := [.int x1, .int 2]) (rest := []) ⟨hx, hb, hml, hown, hts⟩ (c_X6_isIn l E b u x1 2 (by assumption) _ rfl) (cwV 2 hts gX6_safety_X6_isIn rfl rfl rfl (by decide +kernel) ⟨Nat.le_of_ble_eq_true rfl, Nat.le_of_ble_eq_true rfl⟩) (kPreV hK hP hP (q0 := 0) rfl rfl) rfl rfl hl.1 rfl (lv_room (Nat.le_of_ble_eq_true rfl)) dX6_safety_3 ⟨Nat.zero_le _, Nat.zero_le _⟩) ?_
  refine lv_if_ne (tgt := 18) hx hb dX6_safety_6 (by decide) (fun c_1 => ?_) (fun c_1 => ?_)
  · replace hE := hE.trans (if_neg c_1)
    refine lv_bipush (v := (-6)) hx hb dX6_safety_18 (by decide) ?_
    subst R
    exact W.iret (v := (-6)) hx hb hr (fun t ht hW => ⟨rfl, ht⟩) (fun _ h => by cases h) dX6_safety_20
  · replace hE := hE.trans (if_pos c_1)
    refine lv_aload_n hx hb dX6_safety_9 rfl (lv_at hl 0 rfl) ?_
    refine lv_iload_n hx hb dX6_safety_10 rfl (lv_at hl 1 rfl) ?_
    refine lv_iconst (v := 4) hx hb dX6_safety_11 (by decide) ?_
    refine kCallRi (va_runV (As := [.int x1, .int 4]) (rest := []) ⟨hx, hb, hml, hown, hts⟩ (c_X6_its l E b u x1 4 (by assumption) ⟨4, by decide, rfl⟩ _ rfl) (cwV 2 hts gX6_safety_X6_its rfl rfl rfl (by decide +kernel) ⟨Nat.le_of_ble_eq_true rfl, Nat.le_of_ble_eq_true rfl⟩) (kPreV hK hP hP (q0 := 0) rfl rfl) rfl rfl hl.1 rfl (lv_room (Nat.le_of_ble_eq_true rfl)) dX6_safety_12 ⟨Nat.zero_le _, Nat.zero_le _⟩) ?_
    refine lv_if_eq (tgt := 21) hx hb dX6_safety_15 (by decide) (fun c_2 => ?_) (fun c_2 => ?_)
    · replace hE := hE.trans (if_pos c_2)
      refine lv_iconst (v := 1) hx hb dX6_safety_21 (by decide) ?_
      refine lv_istore_n (lv' := [(2, .int 1), (0, .ref (b 0)), (1, .int x1)]) hx hb dX6_safety_22 rfl hl (by decide) rfl (fun ls hl => ?_)
      refine lv_iconst (v := 0) hx hb dX6_safety_23 (by decide) ?_
      refine lv_istore_n (lv' := [(3, .int 0), (2, .int 1), (0, .ref (b 0)), (1, .int x1)]) hx hb dX6_safety_24 rfl hl (by decide) rfl (fun ls hl => ?_)
      have lp25 : ∀ (n25 : Nat) (x25_2 : Int32) (i25 : Nat), (12 < i25 + n25) → (i25 ≤ 12) → ∀ ls : Array Slot, lv_has ls 4 [(3, .int (nI i25)), (2, .int x25_2), (0, .ref (b 0)), (1, .int x1)] → R = mX6_safety_L25 u x1 n25 x25_2 i25 → W p l e ({ frames := 6, cells := 0, slots := 0, locals := 135 }) s m ([.ref (b 0), .int x1] : List Value).toArray below meth c s.heap [] 0 0 (MQ below (kRi R) ([.ref (b 0), .int x1] : List Value).toArray s 0 0 (fun _ => False)) (F0 m 25 ls []) := by
        clear hE
        intro n25
        induction n25 with
        | zero =>
          intro x25_2 i25 hm25 hi25 ls hl hE
          exact absurd hm25 (by omega)
        | succ n25 ih25 =>
          intro x25_2 i25 hm25 hi25 ls hl hE
          replace hE := hE.trans mX6_safety_L25_s
          refine lv_iload_n hx hb dX6_safety_25 rfl (lv_at hl 0 rfl) ?_
          refine lv_aload_n hx hb dX6_safety_26 rfl (lv_at hl 2 rfl) ?_
          refine va_get (D := E.1) (ci := 5) (v := .ref (b 1)) (C := RX6) (T := TX6) (N := 16) hx hb hts hiX6 hown hK.1 hP 0 rfl rfl 0 (by decide) hf7 (fun _ h9 => h9) rfl dX6_safety_27 ?_
          refine lv_iconst (v := 2) hx hb dX6_safety_30 (by decide) ?_
          refine va_iald (D := E.1) hx hb hK.1 hP 1 0 rfl rfl (vp_in_nI (n := 2) (by decide) (by decide)) dX6_safety_31 ?_
          refine W.eq (g2 := F0 m 32 ls [.int ((u 1) 2), .int (nI i25)]) rfl ?_
          refine lv_icmp_ge (tgt := 91) hx hb dX6_safety_32 (by decide) (fun c_3 => ?_) (fun c_3 => ?_)
          · replace hE := hE.trans (if_pos c_3)
            refine lv_iload_n hx hb dX6_safety_91 rfl (lv_at hl 1 rfl) ?_
            refine lv_if_eq (tgt := 99) hx hb dX6_safety_92 (by decide) (fun c_4 => ?_) (fun c_4 => ?_)
            · replace hE := hE.trans (if_pos c_4)
              refine lv_iconst (v := 2) hx hb dX6_safety_99 (by decide) ?_
              subst R
              exact W.iret (v := 2) hx hb hr (fun t ht hW => ⟨rfl, ht⟩) (fun _ h => by cases h) dX6_safety_100
            · replace hE := hE.trans (if_neg c_4)
              refine lv_iconst (v := 1) hx hb dX6_safety_95 (by decide) ?_
              refine lv_goto (tgt := 100) hx hb dX6_safety_96 (by decide) ?_
              subst R
              exact W.iret (v := 1) hx hb hr (fun t ht hW => ⟨rfl, ht⟩) (fun _ h => by cases h) dX6_safety_100
          · replace hE := hE.trans (if_neg c_3)
            have hbc_3 : i25 < 12 := nOK.lt (by assumption) (by omega) c_3
            refine lv_aload_n hx hb dX6_safety_35 rfl (lv_at hl 2 rfl) ?_
            refine lv_iload_n hx hb dX6_safety_36 rfl (lv_at hl 3 rfl) ?_
            refine lv_bipush (v := 6) hx hb dX6_safety_37 (by decide) ?_
            refine kCallRi (va_runV (As := [.int x1, .int 6]) (rest := []) ⟨hx, hb, hml, hown, hts⟩ (c_X6_its l E b u x1 6 (by assumption) ⟨6, by decide, rfl⟩ _ rfl) (cwV 2 hts gX6_safety_X6_its rfl rfl rfl (by decide +kernel) ⟨Nat.le_of_ble_eq_true rfl, Nat.le_of_ble_eq_true rfl⟩) (kPreV hK hP hP (q0 := 0) rfl rfl) rfl rfl hl.1 rfl (lv_room (Nat.le_of_ble_eq_true rfl)) dX6_safety_39 ⟨Nat.zero_le _, Nat.zero_le _⟩) ?_
            refine lv_iload_n hx hb dX6_safety_42 rfl (lv_at hl 0 rfl) ?_
            refine lv_ishr hx hb dX6_safety_43 ?_
            refine lv_iconst (v := 1) hx hb dX6_safety_44 (by decide) ?_
            refine lv_iand hx hb dX6_safety_45 ?_
            refine lv_iconst (v := 1) hx hb dX6_safety_46 (by decide) ?_
            refine lv_icmp_ne (tgt := 85) hx hb dX6_safety_47 (by decide) (fun c_5 => ?_) (fun c_5 => ?_)
            · replace hE := hE.trans (if_neg c_5)
              refine lv_iinc (v := (nI (i25 + 1))) (lv' := [(3, .int (nI (i25 + 1))), (2, .int x25_2), (0, .ref (b 0)), (1, .int x1)]) hx hb dX6_safety_85 hl (k := 0) rfl (nI_1 i25) (by decide) rfl (fun ls hl => ?_)
              refine lv_goto (tgt := 25) hx hb dX6_safety_88 (by decide) ?_
              exact ih25 x25_2 (i25 + 1) (by omega) (by omega) ls (lv_sub hl [0, 1, 2, 3] rfl) hE
            · replace hE := hE.trans (if_pos c_5)
              refine lv_aload_n hx hb dX6_safety_50 rfl (lv_at hl 2 rfl) ?_
              refine lv_iload_n hx hb dX6_safety_51 rfl (lv_at hl 0 rfl) ?_
              refine lv_aload_n hx hb dX6_safety_52 rfl (lv_at hl 2 rfl) ?_
              refine lv_iload_n hx hb dX6_safety_53 rfl (lv_at hl 3 rfl) ?_
              refine lv_iconst (v := 1) hx hb dX6_safety_54 (by decide) ?_
              refine kCallRi (va_runV (As := [.int x1, .int 1]) (rest := [.int (nI i25), .ref (b 0)]) ⟨hx, hb, hml, hown, hts⟩ (c_X6_its l E b u x1 1 (by assumption) ⟨1, by decide, rfl⟩ _ rfl) (cwV 2 hts gX6_safety_X6_its rfl rfl rfl (by decide +kernel) ⟨Nat.le_of_ble_eq_true rfl, Nat.le_of_ble_eq_true rfl⟩) (kPreV hK hP hP (q0 := 0) rfl rfl) rfl rfl hl.1 rfl (lv_room (Nat.le_of_ble_eq_true rfl)) dX6_safety_55 ⟨Nat.zero_le _, Nat.zero_le _⟩) ?_
              refine kCallRi (va_runV (As := [.int (nI i25), .int (mX6_its u x1 1)]) (rest := []) ⟨hx, hb, hml, hown, hts⟩ (c_X6_endangers l E b u (nI i25) (mX6_its u x1 1) (by assumption) (tOK.nI (by omega)) _ rfl) (cwV 2 hts gX6_safety_X6_endangers rfl rfl rfl (by decide +kernel) ⟨Nat.le_of_ble_eq_true rfl, Nat.le_of_ble_eq_true rfl⟩) (kPreV hK hP hP (q0 := 0) rfl rfl) rfl rfl hl.1 rfl (lv_room (Nat.le_of_ble_eq_true rfl)) dX6_safety_58 ⟨Nat.zero_le _, Nat.zero_le _⟩) ?_
              refine lv_if_eq (tgt := 66) hx hb dX6_safety_61 (by decide) (fun c_6 => ?_) (fun c_6 => ?_)
              · replace hE := hE.trans (if_pos c_6)
                refine lv_iload_n hx hb dX6_safety_66 rfl (lv_at hl 1 rfl) ?_
                refine lv_if_eq (tgt := 83) hx hb dX6_safety_67 (by decide) (fun c_7 => ?_) (fun c_7 => ?_)
                · replace hE := hE.trans (if_pos c_7)
                  refine lv_iconst (v := 0) hx hb dX6_safety_83 (by decide) ?_
                  refine lv_istore_n (lv' := [(2, .int 0), (3, .int (nI i25)), (0, .ref (b 0)), (1, .int x1)]) hx hb dX6_safety_84 rfl hl (by decide) rfl (fun ls hl => ?_)
                  refine lv_iinc (v := (nI (i25 + 1))) (lv' := [(3, .int (nI (i25 + 1))), (2, .int 0), (0, .ref (b 0)), (1, .int x1)]) hx hb dX6_safety_85 hl (k := 1) rfl (nI_1 i25) (by decide) rfl (fun ls hl => ?_)
                  refine lv_goto (tgt := 25) hx hb dX6_safety_88 (by decide) ?_
                  exact ih25 0 (i25 + 1) (by omega) (by omega) ls (lv_sub hl [0, 1, 2, 3] rfl) hE
                · replace hE := hE.trans (if_neg c_7)
                  refine lv_aload_n hx hb dX6_safety_70 rfl (lv_at hl 2 rfl) ?_
                  refine lv_iload_n hx hb dX6_safety_71 rfl (lv_at hl 0 rfl) ?_
                  refine lv_iconst (v := 0) hx hb dX6_safety_72 (by decide) ?_
                  refine kCallRi (va_runV (As := [.int (nI i25), .int 0]) (rest := []) ⟨hx, hb, hml, hown, hts⟩ (c_X6_isIn l E b u (nI i25) 0 (tOK.nI (by omega)) _ rfl) (cwV 2 hts gX6_safety_X6_isIn rfl rfl rfl (by decide +kernel) ⟨Nat.le_of_ble_eq_true rfl, Nat.le_of_ble_eq_true rfl⟩) (kPreV hK hP hP (q0 := 0) rfl rfl) rfl rfl hl.1 rfl (lv_room (Nat.le_of_ble_eq_true rfl)) dX6_safety_73 ⟨Nat.zero_le _, Nat.zero_le _⟩) ?_
                  refine lv_if_ne (tgt := 83) hx hb dX6_safety_76 (by decide) (fun c_8 => ?_) (fun c_8 => ?_)
                  · replace hE := hE.trans (if_neg c_8)
                    refine lv_iconst (v := 0) hx hb dX6_safety_83 (by decide) ?_
                    refine lv_istore_n (lv' := [(2, .int 0), (3, .int (nI i25)), (0, .ref (b 0)), (1, .int x1)]) hx hb dX6_safety_84 rfl hl (by decide) rfl (fun ls hl => ?_)
                    refine lv_iinc (v := (nI (i25 + 1))) (lv' := [(3, .int (nI (i25 + 1))), (2, .int 0), (0, .ref (b 0)), (1, .int x1)]) hx hb dX6_safety_85 hl (k := 1) rfl (nI_1 i25) (by decide) rfl (fun ls hl => ?_)
                    refine lv_goto (tgt := 25) hx hb dX6_safety_88 (by decide) ?_
                    exact ih25 0 (i25 + 1) (by omega) (by omega) ls (lv_sub hl [0, 1, 2, 3] rfl) hE
                  · replace hE := hE.trans (if_pos c_8)
                    refine lv_iconst (v := 1) hx hb dX6_safety_79 (by decide) ?_
                    refine lv_goto (tgt := 84) hx hb dX6_safety_80 (by decide) ?_
                    refine lv_istore_n (lv' := [(2, .int 1), (3, .int (nI i25)), (0, .ref (b 0)), (1, .int x1)]) hx hb dX6_safety_84 rfl hl (by decide) rfl (fun ls hl => ?_)
                    refine lv_iinc (v := (nI (i25 + 1))) (lv' := [(3, .int (nI (i25 + 1))), (2, .int 1), (0, .ref (b 0)), (1, .int x1)]) hx hb dX6_safety_85 hl (k := 1) rfl (nI_1 i25) (by decide) rfl (fun ls hl => ?_)
                    refine lv_goto (tgt := 25) hx hb dX6_safety_88 (by decide) ?_
                    exact ih25 1 (i25 + 1) (by omega) (by omega) ls (lv_sub hl [0, 1, 2, 3] rfl) hE
              · replace hE := hE.trans (if_neg c_6)
                refine lv_iconst (v := 0) hx hb dX6_safety_64 (by decide) ?_
                subst R
                exact W.iret (v := 0) hx hb hr (fun t ht hW => ⟨rfl, ht⟩) (fun _ h => by cases h) dX6_safety_65
      exact lp25 13 1 0 (by omega) (by omega) ls (lv_sub hl [0, 1, 2, 3] rfl) hE
    · replace hE := hE.trans (if_neg c_2)
      refine lv_bipush (v := (-6)) hx hb dX6_safety_18 (by decide) ?_
      subst R
      exact W.iret (v := (-6)) hx hb hr (fun t ht hW => ⟨rfl, ht⟩) (fun _ h => by cases h) dX6_safety_20
def mX6_edge (u : kG) (x1 : Int32) (x2 : Int32) : Int32 :=
  if (mX6_isTransaction u x1) = 0 then
    (-1)
  else
    if (mX6_isTransaction u x2) = 0 then
      (-1)
    else
      if (mX6_isEdge u x1 x2) = 0 then
        0
      else
        1
theorem mX6_edge_s {u : kG} {x1 : Int32} {x2 : Int32} : mX6_edge u x1 x2 = (
  if (mX6_isTransaction u x1) = 0 then
    (-1)
  else
    if (mX6_isTransaction u x2) = 0 then
      (-1)
    else
      if (mX6_isEdge u x1 x2) = 0 then
        0
      else
        1 : Int32) := rfl
set_option maxHeartbeats 400000 in
set_option maxRecDepth 100000 in
theorem c_X6_edge (l : Launch) (E : kE) (b : Nat → Nat) (u : kG) (x1 : Int32) (x2 : Int32) (hm : nOK (u 1 2)) (R : Int32) (hE : R = mX6_edge u x1 x2) : Met l yX6_edge wsX6_edge ({ frames := 5, cells := 0, slots := 0, locals := 111 }) (kPre E [.ref (b 0), .int x1, .int x2] (wModx E b (u 0 0) (u 0 1) (u 0 2) (u 0 3) (u 0 4) (u 0 5) (u 0 6) (u 0 7) (u 1) (u 2) (u 3) (u 4) (u 5) (u 6) (u 7) (u 8))) (kRi R) 0 0 (fun _ => False) := by
  refine Met.ofW (cc := cX6_edge) (maxL := 3) (ret := (some .int)) (by decide) rfl ?_
  intro p e s m args below meth c s₁ B hml hv
  obtain ⟨rfl, hK, hP⟩ := hv
  have hx := B.exec
  have hb := B.bytes
  have hr := B.returns
  have hts := atoms_spec (ws := wsX6_edge) B.pre
  have hown : s.vm.findClass RX6 = some m.cls := findClass_of_methodNamed B.named
  have hlocks := B.notSynchronized
  have hP : va_P E.1 vwCl (wModx E b (u 0 0) (u 0 1) (u 0 2) (u 0 3) (u 0 4) (u 0 5) (u 0 6) (u 0 7) (u 1) (u 2) (u 3) (u 4) (u 5) (u 6) (u 7) (u 8)) s.heap := hP
  have hl := lv_entry ([.ref (b 0), .int x1, .int x2]) (n := 3) (Nat.le_of_ble_eq_true rfl)
  rw [lg_entry_eq]
  generalize (lg_sl ([.ref (b 0), .int x1, .int x2]) ++ List.replicate (3 - (lg_sl ([.ref (b 0), .int x1, .int x2])).length) Slot.unset).toArray = ls at hl ⊢
  have hl : lv_has ls 3 [(0, .ref (b 0)), (1, .int x1), (2, .int x2)] := hl
  replace hE := hE.trans mX6_edge_s
  refine lv_aload_n hx hb dX6_edge_0 rfl (lv_at hl 0 rfl) ?_
  refine lv_iload_n hx hb dX6_edge_1 rfl (lv_at hl 1 rfl) ?_
  refine kCallRi (va_runV (As := [.int x1]) (rest := []) ⟨hx, hb, hml, hown, hts⟩ (c_X6_isTransaction l E b u x1 _ rfl) (cwV 1 hts gX6_edge_X6_isTransaction rfl rfl rfl (by decide +kernel) ⟨Nat.le_of_ble_eq_true rfl, Nat.le_of_ble_eq_true rfl⟩) (kPreV hK hP hP (q0 := 0) rfl rfl) rfl rfl hl.1 rfl (lv_room (Nat.le_of_ble_eq_true rfl)) dX6_edge_2 ⟨Nat.zero_le _, Nat.zero_le _⟩) ?_
  refine lv_if_eq (tgt := 16) hx hb dX6_edge_5 (by decide) (fun c_1 => ?_) (fun c_1 => ?_)
  · replace hE := hE.trans (if_pos c_1)
    refine lv_iconst (v := (-1)) hx hb dX6_edge_16 (by decide) ?_
    subst R
    exact W.iret (v := (-1)) hx hb hr (fun t ht hW => ⟨rfl, ht⟩) (fun _ h => by cases h) dX6_edge_17
  · replace hE := hE.trans (if_neg c_1)
    have hzc_1 := isTr_ok (by assumption) c_1
    refine lv_aload_n hx hb dX6_edge_8 rfl (lv_at hl 0 rfl) ?_
    refine lv_iload_n hx hb dX6_edge_9 rfl (lv_at hl 2 rfl) ?_
    refine kCallRi (va_runV (As := [.int x2]) (rest := []) ⟨hx, hb, hml, hown, hts⟩ (c_X6_isTransaction l E b u x2 _ rfl) (cwV 1 hts gX6_edge_X6_isTransaction rfl rfl rfl (by decide +kernel) ⟨Nat.le_of_ble_eq_true rfl, Nat.le_of_ble_eq_true rfl⟩) (kPreV hK hP hP (q0 := 0) rfl rfl) rfl rfl hl.1 rfl (lv_room (Nat.le_of_ble_eq_true rfl)) dX6_edge_10 ⟨Nat.zero_le _, Nat.zero_le _⟩) ?_
    refine lv_if_ne (tgt := 18) hx hb dX6_edge_13 (by decide) (fun c_2 => ?_) (fun c_2 => ?_)
    · replace hE := hE.trans (if_neg c_2)
      have hzc_2 := isTr_ok (by assumption) c_2
      refine lv_aload_n hx hb dX6_edge_18 rfl (lv_at hl 0 rfl) ?_
      refine lv_iload_n hx hb dX6_edge_19 rfl (lv_at hl 1 rfl) ?_
      refine lv_iload_n hx hb dX6_edge_20 rfl (lv_at hl 2 rfl) ?_
      refine kCallRi (va_runV (As := [.int x1, .int x2]) (rest := []) ⟨hx, hb, hml, hown, hts⟩ (c_X6_isEdge l E b u x1 x2 (by assumption) (by assumption) _ rfl) (cwV 2 hts gX6_edge_X6_isEdge rfl rfl rfl (by decide +kernel) ⟨Nat.le_of_ble_eq_true rfl, Nat.le_of_ble_eq_true rfl⟩) (kPreV hK hP hP (q0 := 0) rfl rfl) rfl rfl hl.1 rfl (lv_room (Nat.le_of_ble_eq_true rfl)) dX6_edge_21 ⟨Nat.zero_le _, Nat.zero_le _⟩) ?_
      refine lv_if_eq (tgt := 31) hx hb dX6_edge_24 (by decide) (fun c_3 => ?_) (fun c_3 => ?_)
      · replace hE := hE.trans (if_pos c_3)
        refine lv_iconst (v := 0) hx hb dX6_edge_31 (by decide) ?_
        subst R
        exact W.iret (v := 0) hx hb hr (fun t ht hW => ⟨rfl, ht⟩) (fun _ h => by cases h) dX6_edge_32
      · replace hE := hE.trans (if_neg c_3)
        refine lv_iconst (v := 1) hx hb dX6_edge_27 (by decide) ?_
        refine lv_goto (tgt := 32) hx hb dX6_edge_28 (by decide) ?_
        subst R
        exact W.iret (v := 1) hx hb hr (fun t ht hW => ⟨rfl, ht⟩) (fun _ h => by cases h) dX6_edge_32
    · replace hE := hE.trans (if_pos c_2)
      refine lv_iconst (v := (-1)) hx hb dX6_edge_16 (by decide) ?_
      subst R
      exact W.iret (v := (-1)) hx hb hr (fun t ht hW => ⟨rfl, ht⟩) (fun _ h => by cases h) dX6_edge_17
def mX6_over (u : kG) (x1 : Int32) (x2 : Int32) : Int32 :=
  if (mX6_isTransaction u x1) = 0 then
    (-1)
  else
    if (mX6_isTransaction u x2) = 0 then
      (-1)
    else
      if (mX6_isEdge u x1 x2) = 0 then
        (-6)
      else
        (mX6_bits ((((mX6_its u x1 3) &&& (mX6_its u x2 4)) &&& (-((mX6_its u x1 3) &&& (mX6_its u x2 4)))) - 1))
theorem mX6_over_s {u : kG} {x1 : Int32} {x2 : Int32} : mX6_over u x1 x2 = (
  if (mX6_isTransaction u x1) = 0 then
    (-1)
  else
    if (mX6_isTransaction u x2) = 0 then
      (-1)
    else
      if (mX6_isEdge u x1 x2) = 0 then
        (-6)
      else
        (mX6_bits ((((mX6_its u x1 3) &&& (mX6_its u x2 4)) &&& (-((mX6_its u x1 3) &&& (mX6_its u x2 4)))) - 1)) : Int32) := rfl
set_option maxHeartbeats 400000 in
set_option maxRecDepth 100000 in
theorem c_X6_over (l : Launch) (E : kE) (b : Nat → Nat) (u : kG) (x1 : Int32) (x2 : Int32) (hm : nOK (u 1 2)) (hrw9 : ¬ mX6_isTransaction u x1 = 0 → ¬ mX6_isTransaction u x2 = 0 → bOK 65535 ((mX6_its u x1 3) &&& (mX6_its u x2 4))) (R : Int32) (hE : R = mX6_over u x1 x2) : Met l yX6_over wsX6_over ({ frames := 5, cells := 0, slots := 0, locals := 111 }) (kPre E [.ref (b 0), .int x1, .int x2] (wModx E b (u 0 0) (u 0 1) (u 0 2) (u 0 3) (u 0 4) (u 0 5) (u 0 6) (u 0 7) (u 1) (u 2) (u 3) (u 4) (u 5) (u 6) (u 7) (u 8))) (kRi R) 0 0 (fun _ => False) := by
  refine Met.ofW (cc := cX6_over) (maxL := 4) (ret := (some .int)) (by decide) rfl ?_
  intro p e s m args below meth c s₁ B hml hv
  obtain ⟨rfl, hK, hP⟩ := hv
  have hx := B.exec
  have hb := B.bytes
  have hr := B.returns
  have hts := atoms_spec (ws := wsX6_over) B.pre
  have hown : s.vm.findClass RX6 = some m.cls := findClass_of_methodNamed B.named
  have hlocks := B.notSynchronized
  have hP : va_P E.1 vwCl (wModx E b (u 0 0) (u 0 1) (u 0 2) (u 0 3) (u 0 4) (u 0 5) (u 0 6) (u 0 7) (u 1) (u 2) (u 3) (u 4) (u 5) (u 6) (u 7) (u 8)) s.heap := hP
  have hl := lv_entry ([.ref (b 0), .int x1, .int x2]) (n := 4) (Nat.le_of_ble_eq_true rfl)
  rw [lg_entry_eq]
  generalize (lg_sl ([.ref (b 0), .int x1, .int x2]) ++ List.replicate (4 - (lg_sl ([.ref (b 0), .int x1, .int x2])).length) Slot.unset).toArray = ls at hl ⊢
  have hl : lv_has ls 4 [(0, .ref (b 0)), (1, .int x1), (2, .int x2)] := hl
  replace hE := hE.trans mX6_over_s
  refine lv_aload_n hx hb dX6_over_0 rfl (lv_at hl 0 rfl) ?_
  refine lv_iload_n hx hb dX6_over_1 rfl (lv_at hl 1 rfl) ?_
  refine kCallRi (va_runV (As := [.int x1]) (rest := []) ⟨hx, hb, hml, hown, hts⟩ (c_X6_isTransaction l E b u x1 _ rfl) (cwV 1 hts gX6_over_X6_isTransaction rfl rfl rfl (by decide +kernel) ⟨Nat.le_of_ble_eq_true rfl, Nat.le_of_ble_eq_true rfl⟩) (kPreV hK hP hP (q0 := 0) rfl rfl) rfl rfl hl.1 rfl (lv_room (Nat.le_of_ble_eq_true rfl)) dX6_over_2 ⟨Nat.zero_le _, Nat.zero_le _⟩) ?_
  refine lv_if_eq (tgt := 16) hx hb dX6_over_5 (by decide) (fun c_1 => ?_) (fun c_1 => ?_)
  · replace hE := hE.trans (if_pos c_1)
    refine lv_iconst (v := (-1)) hx hb dX6_over_16 (by decide) ?_
    subst R
    exact W.iret (v := (-1)) hx hb hr (fun t ht hW => ⟨rfl, ht⟩) (fun _ h => by cases h) dX6_over_17
  · replace hE := hE.trans (if_neg c_1)
    have hzc_1 := isTr_ok (by assumption) c_1
    refine lv_aload_n hx hb dX6_over_8 rfl (lv_at hl 0 rfl) ?_
    refine lv_iload_n hx hb dX6_over_9 rfl (lv_at hl 2 rfl) ?_
    refine kCallRi (va_runV (As := [.int x2]) (rest := []) ⟨hx, hb, hml, hown, hts⟩ (c_X6_isTransaction l E b u x2 _ rfl) (cwV 1 hts gX6_over_X6_isTransaction rfl rfl rfl (by decide +kernel) ⟨Nat.le_of_ble_eq_true rfl, Nat.le_of_ble_eq_true rfl⟩) (kPreV hK hP hP (q0 := 0) rfl rfl) rfl rfl hl.1 rfl (lv_room (Nat.le_of_ble_eq_true rfl)) dX6_over_10 ⟨Nat.zero_le _, Nat.zero_le _⟩) ?_
    refine lv_if_ne (tgt := 18) hx hb dX6_over_13 (by decide) (fun c_2 => ?_) (fun c_2 => ?_)
    · replace hE := hE.trans (if_neg c_2)
      have hzc_2 := isTr_ok (by assumption) c_2
      refine lv_aload_n hx hb dX6_over_18 rfl (lv_at hl 0 rfl) ?_
      refine lv_iload_n hx hb dX6_over_19 rfl (lv_at hl 1 rfl) ?_
      refine lv_iload_n hx hb dX6_over_20 rfl (lv_at hl 2 rfl) ?_
      refine kCallRi (va_runV (As := [.int x1, .int x2]) (rest := []) ⟨hx, hb, hml, hown, hts⟩ (c_X6_isEdge l E b u x1 x2 (by assumption) (by assumption) _ rfl) (cwV 2 hts gX6_over_X6_isEdge rfl rfl rfl (by decide +kernel) ⟨Nat.le_of_ble_eq_true rfl, Nat.le_of_ble_eq_true rfl⟩) (kPreV hK hP hP (q0 := 0) rfl rfl) rfl rfl hl.1 rfl (lv_room (Nat.le_of_ble_eq_true rfl)) dX6_over_21 ⟨Nat.zero_le _, Nat.zero_le _⟩) ?_
      refine lv_if_ne (tgt := 30) hx hb dX6_over_24 (by decide) (fun c_3 => ?_) (fun c_3 => ?_)
      · replace hE := hE.trans (if_neg c_3)
        refine lv_aload_n hx hb dX6_over_30 rfl (lv_at hl 0 rfl) ?_
        refine lv_iload_n hx hb dX6_over_31 rfl (lv_at hl 1 rfl) ?_
        refine lv_iconst (v := 3) hx hb dX6_over_32 (by decide) ?_
        refine kCallRi (va_runV (As := [.int x1, .int 3]) (rest := []) ⟨hx, hb, hml, hown, hts⟩ (c_X6_its l E b u x1 3 (by assumption) ⟨3, by decide, rfl⟩ _ rfl) (cwV 2 hts gX6_over_X6_its rfl rfl rfl (by decide +kernel) ⟨Nat.le_of_ble_eq_true rfl, Nat.le_of_ble_eq_true rfl⟩) (kPreV hK hP hP (q0 := 0) rfl rfl) rfl rfl hl.1 rfl (lv_room (Nat.le_of_ble_eq_true rfl)) dX6_over_33 ⟨Nat.zero_le _, Nat.zero_le _⟩) ?_
        refine lv_aload_n hx hb dX6_over_36 rfl (lv_at hl 0 rfl) ?_
        refine lv_iload_n hx hb dX6_over_37 rfl (lv_at hl 2 rfl) ?_
        refine lv_iconst (v := 4) hx hb dX6_over_38 (by decide) ?_
        refine kCallRi (va_runV (As := [.int x2, .int 4]) (rest := [.int (mX6_its u x1 3)]) ⟨hx, hb, hml, hown, hts⟩ (c_X6_its l E b u x2 4 (by assumption) ⟨4, by decide, rfl⟩ _ rfl) (cwV 2 hts gX6_over_X6_its rfl rfl rfl (by decide +kernel) ⟨Nat.le_of_ble_eq_true rfl, Nat.le_of_ble_eq_true rfl⟩) (kPreV hK hP hP (q0 := 0) rfl rfl) rfl rfl hl.1 rfl (lv_room (Nat.le_of_ble_eq_true rfl)) dX6_over_39 ⟨Nat.zero_le _, Nat.zero_le _⟩) ?_
        refine lv_iand hx hb dX6_over_42 ?_
        refine lv_istore_n (lv' := [(3, .int ((mX6_its u x1 3) &&& (mX6_its u x2 4))), (0, .ref (b 0)), (1, .int x1), (2, .int x2)]) hx hb dX6_over_43 rfl hl (by decide) rfl (fun ls hl => ?_)
        refine lv_iload_n hx hb dX6_over_44 rfl (lv_at hl 0 rfl) ?_
        refine lv_iload_n hx hb dX6_over_45 rfl (lv_at hl 0 rfl) ?_
        refine lv_ineg hx hb dX6_over_46 ?_
        refine lv_iand hx hb dX6_over_47 ?_
        refine lv_iconst (v := 1) hx hb dX6_over_48 (by decide) ?_
        refine lv_isub hx hb dX6_over_49 ?_
        refine kCallRi (va_runS (As := [.int ((((mX6_its u x1 3) &&& (mX6_its u x2 4)) &&& (-((mX6_its u x1 3) &&& (mX6_its u x2 4)))) - 1)]) (rest := []) ⟨hx, hb, hml, hown, hts⟩ (c_X6_bits l E ((((mX6_its u x1 3) &&& (mX6_its u x2 4)) &&& (-((mX6_its u x1 3) &&& (mX6_its u x2 4)))) - 1) ((hrw9 (by assumption) (by assumption)).low (isEdge_ne (by assumption))) _ rfl) (va_cwS 1 hts gX6_over_X6_bits rfl rfl rfl (by decide +kernel) ⟨Nat.le_of_ble_eq_true rfl, Nat.le_of_ble_eq_true rfl⟩) (kPreS hK kP0) rfl rfl hl.1 rfl (lv_room (Nat.le_of_ble_eq_true rfl)) dX6_over_50 ⟨Nat.zero_le _, Nat.zero_le _⟩) ?_
        subst R
        exact W.iret (v := (mX6_bits ((((mX6_its u x1 3) &&& (mX6_its u x2 4)) &&& (-((mX6_its u x1 3) &&& (mX6_its u x2 4)))) - 1))) hx hb hr (fun t ht hW => ⟨rfl, ht⟩) (fun _ h => by cases h) dX6_over_53
      · replace hE := hE.trans (if_pos c_3)
        refine lv_bipush (v := (-6)) hx hb dX6_over_27 (by decide) ?_
        subst R
        exact W.iret (v := (-6)) hx hb hr (fun t ht hW => ⟨rfl, ht⟩) (fun _ h => by cases h) dX6_over_29
    · replace hE := hE.trans (if_pos c_2)
      refine lv_iconst (v := (-1)) hx hb dX6_over_16 (by decide) ?_
      subst R
      exact W.iret (v := (-1)) hx hb hr (fun t ht hW => ⟨rfl, ht⟩) (fun _ h => by cases h) dX6_over_17
def mX6_edges_L4 (u : kG) : Nat → Int32 → Nat → (Int32)
  | 0, _, _ => 0
  | n4 + 1, x4_1, i4 =>
    if ((u 1) 2) ≤ (nI i4) then
      x4_1
    else
      mX6_edges_L4 u n4 (x4_1 + (mX6_bits (mX6_edgesFrom u (nI i4)))) (i4 + 1)
theorem mX6_edges_L4_s {u : kG} {n4 : Nat} {x4_1 : Int32} {i4 : Nat} : mX6_edges_L4 u (n4 + 1) x4_1 i4 = (
    if ((u 1) 2) ≤ (nI i4) then
      x4_1
    else
      mX6_edges_L4 u n4 (x4_1 + (mX6_bits (mX6_edgesFrom u (nI i4)))) (i4 + 1) : Int32) := rfl
def mX6_edges (u : kG) : Int32 :=
  mX6_edges_L4 u 13 0 0
theorem mX6_edges_s {u : kG} : mX6_edges u = (
  mX6_edges_L4 u 13 0 0 : Int32) := rfl
set_option maxHeartbeats 400000 in
set_option maxRecDepth 100000 in
theorem c_X6_edges (l : Launch) (E : kE) (b : Nat → Nat) (u : kG) (hm : nOK (u 1 2)) (R : Int32) (hE : R = mX6_edges u) : Met l yX6_edges wsX6_edges ({ frames := 6, cells := 0, slots := 0, locals := 134 }) (kPre E [.ref (b 0)] (wModx E b (u 0 0) (u 0 1) (u 0 2) (u 0 3) (u 0 4) (u 0 5) (u 0 6) (u 0 7) (u 1) (u 2) (u 3) (u 4) (u 5) (u 6) (u 7) (u 8))) (kRi R) 0 0 (fun _ => False) := by
  refine Met.ofW (cc := cX6_edges) (maxL := 3) (ret := (some .int)) (by decide) rfl ?_
  intro p e s m args below meth c s₁ B hml hv
  obtain ⟨rfl, hK, hP⟩ := hv
  have hx := B.exec
  have hb := B.bytes
  have hr := B.returns
  have hts := atoms_spec (ws := wsX6_edges) B.pre
  have hown : s.vm.findClass RX6 = some m.cls := findClass_of_methodNamed B.named
  have hlocks := B.notSynchronized
  have hiX6 : ∀ w ∈ wsX60, w ∈ wsX6_edges := by decide +kernel
  have hf7 := hts (.fieldLink RX6 7 "SkewEdgesModel" "z" "[I") (by decide +kernel)
  have hP : va_P E.1 vwCl (wModx E b (u 0 0) (u 0 1) (u 0 2) (u 0 3) (u 0 4) (u 0 5) (u 0 6) (u 0 7) (u 1) (u 2) (u 3) (u 4) (u 5) (u 6) (u 7) (u 8)) s.heap := hP
  have hl := lv_entry ([.ref (b 0)]) (n := 3) (Nat.le_of_ble_eq_true rfl)
  rw [lg_entry_eq]
  generalize (lg_sl ([.ref (b 0)]) ++ List.replicate (3 - (lg_sl ([.ref (b 0)])).length) Slot.unset).toArray = ls at hl ⊢
  have hl : lv_has ls 3 [(0, .ref (b 0))] := hl
  replace hE := hE.trans mX6_edges_s
  refine lv_iconst (v := 0) hx hb dX6_edges_0 (by decide) ?_
  refine lv_istore_n (lv' := [(1, .int 0), (0, .ref (b 0))]) hx hb dX6_edges_1 rfl hl (by decide) rfl (fun ls hl => ?_)
  refine lv_iconst (v := 0) hx hb dX6_edges_2 (by decide) ?_
  refine lv_istore_n (lv' := [(2, .int 0), (1, .int 0), (0, .ref (b 0))]) hx hb dX6_edges_3 rfl hl (by decide) rfl (fun ls hl => ?_)
  have lp4 : ∀ (n4 : Nat) (x4_1 : Int32) (i4 : Nat), (12 < i4 + n4) → (i4 ≤ 12) → ∀ ls : Array Slot, lv_has ls 3 [(2, .int (nI i4)), (1, .int x4_1), (0, .ref (b 0))] → R = mX6_edges_L4 u n4 x4_1 i4 → W p l e ({ frames := 6, cells := 0, slots := 0, locals := 134 }) s m ([.ref (b 0)] : List Value).toArray below meth c s.heap [] 0 0 (MQ below (kRi R) ([.ref (b 0)] : List Value).toArray s 0 0 (fun _ => False)) (F0 m 4 ls []) := by
    clear hE
    intro n4
    induction n4 with
    | zero =>
      intro x4_1 i4 hm4 hi4 ls hl hE
      exact absurd hm4 (by omega)
    | succ n4 ih4 =>
      intro x4_1 i4 hm4 hi4 ls hl hE
      replace hE := hE.trans mX6_edges_L4_s
      refine lv_iload_n hx hb dX6_edges_4 rfl (lv_at hl 0 rfl) ?_
      refine lv_aload_n hx hb dX6_edges_5 rfl (lv_at hl 2 rfl) ?_
      refine va_get (D := E.1) (ci := 5) (v := .ref (b 1)) (C := RX6) (T := TX6) (N := 16) hx hb hts hiX6 hown hK.1 hP 0 rfl rfl 0 (by decide) hf7 (fun _ h9 => h9) rfl dX6_edges_6 ?_
      refine lv_iconst (v := 2) hx hb dX6_edges_9 (by decide) ?_
      refine va_iald (D := E.1) hx hb hK.1 hP 1 0 rfl rfl (vp_in_nI (n := 2) (by decide) (by decide)) dX6_edges_10 ?_
      refine W.eq (g2 := F0 m 11 ls [.int ((u 1) 2), .int (nI i4)]) rfl ?_
      refine lv_icmp_ge (tgt := 31) hx hb dX6_edges_11 (by decide) (fun c_1 => ?_) (fun c_1 => ?_)
      · replace hE := hE.trans (if_pos c_1)
        refine lv_iload_n hx hb dX6_edges_31 rfl (lv_at hl 1 rfl) ?_
        subst R
        exact W.iret (v := x4_1) hx hb hr (fun t ht hW => ⟨rfl, ht⟩) (fun _ h => by cases h) dX6_edges_32
      · replace hE := hE.trans (if_neg c_1)
        have hbc_1 : i4 < 12 := nOK.lt (by assumption) (by omega) c_1
        refine lv_iload_n hx hb dX6_edges_14 rfl (lv_at hl 1 rfl) ?_
        refine lv_aload_n hx hb dX6_edges_15 rfl (lv_at hl 2 rfl) ?_
        refine lv_iload_n hx hb dX6_edges_16 rfl (lv_at hl 0 rfl) ?_
        refine kCallRi (va_runV (As := [.int (nI i4)]) (rest := [.int x4_1]) ⟨hx, hb, hml, hown, hts⟩ (c_X6_edgesFrom l E b u (nI i4) (by assumption) (tOK.nI (by omega)) _ rfl) (cwV 1 hts gX6_edges_X6_edgesFrom rfl rfl rfl (by decide +kernel) ⟨Nat.le_of_ble_eq_true rfl, Nat.le_of_ble_eq_true rfl⟩) (kPreV hK hP hP (q0 := 0) rfl rfl) rfl rfl hl.1 rfl (lv_room (Nat.le_of_ble_eq_true rfl)) dX6_edges_17 ⟨Nat.zero_le _, Nat.zero_le _⟩) ?_
        refine kCallRi (va_runS (As := [.int (mX6_edgesFrom u (nI i4))]) (rest := [.int x4_1]) ⟨hx, hb, hml, hown, hts⟩ (c_X6_bits l E (mX6_edgesFrom u (nI i4)) (edgesFrom_b hm _) _ rfl) (va_cwS 1 hts gX6_edges_X6_bits rfl rfl rfl (by decide +kernel) ⟨Nat.le_of_ble_eq_true rfl, Nat.le_of_ble_eq_true rfl⟩) (kPreS hK kP0) rfl rfl hl.1 rfl (lv_room (Nat.le_of_ble_eq_true rfl)) dX6_edges_20 ⟨Nat.zero_le _, Nat.zero_le _⟩) ?_
        refine lv_iadd hx hb dX6_edges_23 ?_
        refine lv_istore_n (lv' := [(1, .int (x4_1 + (mX6_bits (mX6_edgesFrom u (nI i4))))), (2, .int (nI i4)), (0, .ref (b 0))]) hx hb dX6_edges_24 rfl hl (by decide) rfl (fun ls hl => ?_)
        refine lv_iinc (v := (nI (i4 + 1))) (lv' := [(2, .int (nI (i4 + 1))), (1, .int (x4_1 + (mX6_bits (mX6_edgesFrom u (nI i4))))), (0, .ref (b 0))]) hx hb dX6_edges_25 hl (k := 1) rfl (nI_1 i4) (by decide) rfl (fun ls hl => ?_)
        refine lv_goto (tgt := 4) hx hb dX6_edges_28 (by decide) ?_
        exact ih4 (x4_1 + (mX6_bits (mX6_edgesFrom u (nI i4)))) (i4 + 1) (by omega) (by omega) ls (lv_sub hl [0, 1, 2] rfl) hE
  exact lp4 13 0 0 (by omega) (by omega) ls (lv_sub hl [0, 1, 2] rfl) hE
def mX6_pivots_L4 (u : kG) : Nat → Int32 → Nat → (Int32)
  | 0, _, _ => 0
  | n4 + 1, x4_1, i4 =>
    if ((u 1) 2) ≤ (nI i4) then
      x4_1
    else
      if (mX6_edgesFrom u (nI i4)) = 0 then
        mX6_pivots_L4 u n4 (x4_1 ||| 0) (i4 + 1)
      else
        if (mX6_edgesTo u (nI i4)) = 0 then
          mX6_pivots_L4 u n4 (x4_1 ||| 0) (i4 + 1)
        else
          mX6_pivots_L4 u n4 (x4_1 ||| (1 <<< ((nI i4) &&& 31))) (i4 + 1)
theorem mX6_pivots_L4_s {u : kG} {n4 : Nat} {x4_1 : Int32} {i4 : Nat} : mX6_pivots_L4 u (n4 + 1) x4_1 i4 = (
    if ((u 1) 2) ≤ (nI i4) then
      x4_1
    else
      if (mX6_edgesFrom u (nI i4)) = 0 then
        mX6_pivots_L4 u n4 (x4_1 ||| 0) (i4 + 1)
      else
        if (mX6_edgesTo u (nI i4)) = 0 then
          mX6_pivots_L4 u n4 (x4_1 ||| 0) (i4 + 1)
        else
          mX6_pivots_L4 u n4 (x4_1 ||| (1 <<< ((nI i4) &&& 31))) (i4 + 1) : Int32) := rfl
def mX6_pivots (u : kG) : Int32 :=
  mX6_pivots_L4 u 13 0 0
theorem mX6_pivots_s {u : kG} : mX6_pivots u = (
  mX6_pivots_L4 u 13 0 0 : Int32) := rfl
set_option maxHeartbeats 400000 in
set_option maxRecDepth 100000 in
theorem c_X6_pivots (l : Launch) (E : kE) (b : Nat → Nat) (u : kG) (hm : nOK (u 1 2)) (R : Int32) (hE : R = mX6_pivots u) : Met l yX6_pivots wsX6_pivots ({ frames := 6, cells := 0, slots := 0, locals := 134 }) (kPre E [.ref (b 0)] (wModx E b (u 0 0) (u 0 1) (u 0 2) (u 0 3) (u 0 4) (u 0 5) (u 0 6) (u 0 7) (u 1) (u 2) (u 3) (u 4) (u 5) (u 6) (u 7) (u 8))) (kRi R) 0 0 (fun _ => False) := by
  refine Met.ofW (cc := cX6_pivots) (maxL := 3) (ret := (some .int)) (by decide) rfl ?_
  intro p e s m args below meth c s₁ B hml hv
  obtain ⟨rfl, hK, hP⟩ := hv
  have hx := B.exec
  have hb := B.bytes
  have hr := B.returns
  have hts := atoms_spec (ws := wsX6_pivots) B.pre
  have hown : s.vm.findClass RX6 = some m.cls := findClass_of_methodNamed B.named
  have hlocks := B.notSynchronized
  have hiX6 : ∀ w ∈ wsX60, w ∈ wsX6_pivots := by decide +kernel
  have hf7 := hts (.fieldLink RX6 7 "SkewEdgesModel" "z" "[I") (by decide +kernel)
  have hP : va_P E.1 vwCl (wModx E b (u 0 0) (u 0 1) (u 0 2) (u 0 3) (u 0 4) (u 0 5) (u 0 6) (u 0 7) (u 1) (u 2) (u 3) (u 4) (u 5) (u 6) (u 7) (u 8)) s.heap := hP
  have hl := lv_entry ([.ref (b 0)]) (n := 3) (Nat.le_of_ble_eq_true rfl)
  rw [lg_entry_eq]
  generalize (lg_sl ([.ref (b 0)]) ++ List.replicate (3 - (lg_sl ([.ref (b 0)])).length) Slot.unset).toArray = ls at hl ⊢
  have hl : lv_has ls 3 [(0, .ref (b 0))] := hl
  replace hE := hE.trans mX6_pivots_s
  refine lv_iconst (v := 0) hx hb dX6_pivots_0 (by decide) ?_
  refine lv_istore_n (lv' := [(1, .int 0), (0, .ref (b 0))]) hx hb dX6_pivots_1 rfl hl (by decide) rfl (fun ls hl => ?_)
  refine lv_iconst (v := 0) hx hb dX6_pivots_2 (by decide) ?_
  refine lv_istore_n (lv' := [(2, .int 0), (1, .int 0), (0, .ref (b 0))]) hx hb dX6_pivots_3 rfl hl (by decide) rfl (fun ls hl => ?_)
  have lp4 : ∀ (n4 : Nat) (x4_1 : Int32) (i4 : Nat), (12 < i4 + n4) → (i4 ≤ 12) → ∀ ls : Array Slot, lv_has ls 3 [(2, .int (nI i4)), (1, .int x4_1), (0, .ref (b 0))] → R = mX6_pivots_L4 u n4 x4_1 i4 → W p l e ({ frames := 6, cells := 0, slots := 0, locals := 134 }) s m ([.ref (b 0)] : List Value).toArray below meth c s.heap [] 0 0 (MQ below (kRi R) ([.ref (b 0)] : List Value).toArray s 0 0 (fun _ => False)) (F0 m 4 ls []) := by
    clear hE
    intro n4
    induction n4 with
    | zero =>
      intro x4_1 i4 hm4 hi4 ls hl hE
      exact absurd hm4 (by omega)
    | succ n4 ih4 =>
      intro x4_1 i4 hm4 hi4 ls hl hE
      replace hE := hE.trans mX6_pivots_L4_s
      refine lv_iload_n hx hb dX6_pivots_4 rfl (lv_at hl 0 rfl) ?_
      refine lv_aload_n hx hb dX6_pivots_5 rfl (lv_at hl 2 rfl) ?_
      refine va_get (D := E.1) (ci := 5) (v := .ref (b 1)) (C := RX6) (T := TX6) (N := 16) hx hb hts hiX6 hown hK.1 hP 0 rfl rfl 0 (by decide) hf7 (fun _ h9 => h9) rfl dX6_pivots_6 ?_
      refine lv_iconst (v := 2) hx hb dX6_pivots_9 (by decide) ?_
      refine va_iald (D := E.1) hx hb hK.1 hP 1 0 rfl rfl (vp_in_nI (n := 2) (by decide) (by decide)) dX6_pivots_10 ?_
      refine W.eq (g2 := F0 m 11 ls [.int ((u 1) 2), .int (nI i4)]) rfl ?_
      refine lv_icmp_ge (tgt := 46) hx hb dX6_pivots_11 (by decide) (fun c_1 => ?_) (fun c_1 => ?_)
      · replace hE := hE.trans (if_pos c_1)
        refine lv_iload_n hx hb dX6_pivots_46 rfl (lv_at hl 1 rfl) ?_
        subst R
        exact W.iret (v := x4_1) hx hb hr (fun t ht hW => ⟨rfl, ht⟩) (fun _ h => by cases h) dX6_pivots_47
      · replace hE := hE.trans (if_neg c_1)
        have hbc_1 : i4 < 12 := nOK.lt (by assumption) (by omega) c_1
        refine lv_iload_n hx hb dX6_pivots_14 rfl (lv_at hl 1 rfl) ?_
        refine lv_aload_n hx hb dX6_pivots_15 rfl (lv_at hl 2 rfl) ?_
        refine lv_iload_n hx hb dX6_pivots_16 rfl (lv_at hl 0 rfl) ?_
        refine kCallRi (va_runV (As := [.int (nI i4)]) (rest := [.int x4_1]) ⟨hx, hb, hml, hown, hts⟩ (c_X6_edgesFrom l E b u (nI i4) (by assumption) (tOK.nI (by omega)) _ rfl) (cwV 1 hts gX6_pivots_X6_edgesFrom rfl rfl rfl (by decide +kernel) ⟨Nat.le_of_ble_eq_true rfl, Nat.le_of_ble_eq_true rfl⟩) (kPreV hK hP hP (q0 := 0) rfl rfl) rfl rfl hl.1 rfl (lv_room (Nat.le_of_ble_eq_true rfl)) dX6_pivots_17 ⟨Nat.zero_le _, Nat.zero_le _⟩) ?_
        refine lv_if_eq (tgt := 37) hx hb dX6_pivots_20 (by decide) (fun c_2 => ?_) (fun c_2 => ?_)
        · replace hE := hE.trans (if_pos c_2)
          refine lv_iconst (v := 0) hx hb dX6_pivots_37 (by decide) ?_
          refine lv_ior hx hb dX6_pivots_38 ?_
          refine lv_istore_n (lv' := [(1, .int (x4_1 ||| 0)), (2, .int (nI i4)), (0, .ref (b 0))]) hx hb dX6_pivots_39 rfl hl (by decide) rfl (fun ls hl => ?_)
          refine lv_iinc (v := (nI (i4 + 1))) (lv' := [(2, .int (nI (i4 + 1))), (1, .int (x4_1 ||| 0)), (0, .ref (b 0))]) hx hb dX6_pivots_40 hl (k := 1) rfl (nI_1 i4) (by decide) rfl (fun ls hl => ?_)
          refine lv_goto (tgt := 4) hx hb dX6_pivots_43 (by decide) ?_
          exact ih4 (x4_1 ||| 0) (i4 + 1) (by omega) (by omega) ls (lv_sub hl [0, 1, 2] rfl) hE
        · replace hE := hE.trans (if_neg c_2)
          refine lv_aload_n hx hb dX6_pivots_23 rfl (lv_at hl 2 rfl) ?_
          refine lv_iload_n hx hb dX6_pivots_24 rfl (lv_at hl 0 rfl) ?_
          refine kCallRi (va_runV (As := [.int (nI i4)]) (rest := [.int x4_1]) ⟨hx, hb, hml, hown, hts⟩ (c_X6_edgesTo l E b u (nI i4) (by assumption) (tOK.nI (by omega)) _ rfl) (cwV 1 hts gX6_pivots_X6_edgesTo rfl rfl rfl (by decide +kernel) ⟨Nat.le_of_ble_eq_true rfl, Nat.le_of_ble_eq_true rfl⟩) (kPreV hK hP hP (q0 := 0) rfl rfl) rfl rfl hl.1 rfl (lv_room (Nat.le_of_ble_eq_true rfl)) dX6_pivots_25 ⟨Nat.zero_le _, Nat.zero_le _⟩) ?_
          refine lv_if_eq (tgt := 37) hx hb dX6_pivots_28 (by decide) (fun c_3 => ?_) (fun c_3 => ?_)
          · replace hE := hE.trans (if_pos c_3)
            refine lv_iconst (v := 0) hx hb dX6_pivots_37 (by decide) ?_
            refine lv_ior hx hb dX6_pivots_38 ?_
            refine lv_istore_n (lv' := [(1, .int (x4_1 ||| 0)), (2, .int (nI i4)), (0, .ref (b 0))]) hx hb dX6_pivots_39 rfl hl (by decide) rfl (fun ls hl => ?_)
            refine lv_iinc (v := (nI (i4 + 1))) (lv' := [(2, .int (nI (i4 + 1))), (1, .int (x4_1 ||| 0)), (0, .ref (b 0))]) hx hb dX6_pivots_40 hl (k := 1) rfl (nI_1 i4) (by decide) rfl (fun ls hl => ?_)
            refine lv_goto (tgt := 4) hx hb dX6_pivots_43 (by decide) ?_
            exact ih4 (x4_1 ||| 0) (i4 + 1) (by omega) (by omega) ls (lv_sub hl [0, 1, 2] rfl) hE
          · replace hE := hE.trans (if_neg c_3)
            refine lv_iconst (v := 1) hx hb dX6_pivots_31 (by decide) ?_
            refine lv_iload_n hx hb dX6_pivots_32 rfl (lv_at hl 0 rfl) ?_
            refine lv_ishl hx hb dX6_pivots_33 ?_
            refine lv_goto (tgt := 38) hx hb dX6_pivots_34 (by decide) ?_
            refine lv_ior hx hb dX6_pivots_38 ?_
            refine lv_istore_n (lv' := [(1, .int (x4_1 ||| (1 <<< ((nI i4) &&& 31)))), (2, .int (nI i4)), (0, .ref (b 0))]) hx hb dX6_pivots_39 rfl hl (by decide) rfl (fun ls hl => ?_)
            refine lv_iinc (v := (nI (i4 + 1))) (lv' := [(2, .int (nI (i4 + 1))), (1, .int (x4_1 ||| (1 <<< ((nI i4) &&& 31)))), (0, .ref (b 0))]) hx hb dX6_pivots_40 hl (k := 1) rfl (nI_1 i4) (by decide) rfl (fun ls hl => ?_)
            refine lv_goto (tgt := 4) hx hb dX6_pivots_43 (by decide) ?_
            exact ih4 (x4_1 ||| (1 <<< ((nI i4) &&& 31))) (i4 + 1) (by omega) (by omega) ls (lv_sub hl [0, 1, 2] rfl) hE
  exact lp4 13 0 0 (by omega) (by omega) ls (lv_sub hl [0, 1, 2] rfl) hE
def mX6_triples_L4 (u : kG) : Nat → Int32 → Nat → (Int32)
  | 0, _, _ => 0
  | n4 + 1, x4_1, i4 =>
    if ((u 1) 2) ≤ (nI i4) then
      x4_1
    else
      mX6_triples_L4 u n4 (x4_1 + ((mX6_bits (mX6_edgesFrom u (nI i4))) * (mX6_bits (mX6_edgesTo u (nI i4))))) (i4 + 1)
theorem mX6_triples_L4_s {u : kG} {n4 : Nat} {x4_1 : Int32} {i4 : Nat} : mX6_triples_L4 u (n4 + 1) x4_1 i4 = (
    if ((u 1) 2) ≤ (nI i4) then
      x4_1
    else
      mX6_triples_L4 u n4 (x4_1 + ((mX6_bits (mX6_edgesFrom u (nI i4))) * (mX6_bits (mX6_edgesTo u (nI i4))))) (i4 + 1) : Int32) := rfl
def mX6_triples (u : kG) : Int32 :=
  mX6_triples_L4 u 13 0 0
theorem mX6_triples_s {u : kG} : mX6_triples u = (
  mX6_triples_L4 u 13 0 0 : Int32) := rfl
set_option maxHeartbeats 400000 in
set_option maxRecDepth 100000 in
theorem c_X6_triples (l : Launch) (E : kE) (b : Nat → Nat) (u : kG) (hm : nOK (u 1 2)) (R : Int32) (hE : R = mX6_triples u) : Met l yX6_triples wsX6_triples ({ frames := 6, cells := 0, slots := 0, locals := 134 }) (kPre E [.ref (b 0)] (wModx E b (u 0 0) (u 0 1) (u 0 2) (u 0 3) (u 0 4) (u 0 5) (u 0 6) (u 0 7) (u 1) (u 2) (u 3) (u 4) (u 5) (u 6) (u 7) (u 8))) (kRi R) 0 0 (fun _ => False) := by
  refine Met.ofW (cc := cX6_triples) (maxL := 3) (ret := (some .int)) (by decide) rfl ?_
  intro p e s m args below meth c s₁ B hml hv
  obtain ⟨rfl, hK, hP⟩ := hv
  have hx := B.exec
  have hb := B.bytes
  have hr := B.returns
  have hts := atoms_spec (ws := wsX6_triples) B.pre
  have hown : s.vm.findClass RX6 = some m.cls := findClass_of_methodNamed B.named
  have hlocks := B.notSynchronized
  have hiX6 : ∀ w ∈ wsX60, w ∈ wsX6_triples := by decide +kernel
  have hf7 := hts (.fieldLink RX6 7 "SkewEdgesModel" "z" "[I") (by decide +kernel)
  have hP : va_P E.1 vwCl (wModx E b (u 0 0) (u 0 1) (u 0 2) (u 0 3) (u 0 4) (u 0 5) (u 0 6) (u 0 7) (u 1) (u 2) (u 3) (u 4) (u 5) (u 6) (u 7) (u 8)) s.heap := hP
  have hl := lv_entry ([.ref (b 0)]) (n := 3) (Nat.le_of_ble_eq_true rfl)
  rw [lg_entry_eq]
  generalize (lg_sl ([.ref (b 0)]) ++ List.replicate (3 - (lg_sl ([.ref (b 0)])).length) Slot.unset).toArray = ls at hl ⊢
  have hl : lv_has ls 3 [(0, .ref (b 0))] := hl
  replace hE := hE.trans mX6_triples_s
  refine lv_iconst (v := 0) hx hb dX6_triples_0 (by decide) ?_
  refine lv_istore_n (lv' := [(1, .int 0), (0, .ref (b 0))]) hx hb dX6_triples_1 rfl hl (by decide) rfl (fun ls hl => ?_)
  refine lv_iconst (v := 0) hx hb dX6_triples_2 (by decide) ?_
  refine lv_istore_n (lv' := [(2, .int 0), (1, .int 0), (0, .ref (b 0))]) hx hb dX6_triples_3 rfl hl (by decide) rfl (fun ls hl => ?_)
  have lp4 : ∀ (n4 : Nat) (x4_1 : Int32) (i4 : Nat), (12 < i4 + n4) → (i4 ≤ 12) → ∀ ls : Array Slot, lv_has ls 3 [(2, .int (nI i4)), (1, .int x4_1), (0, .ref (b 0))] → R = mX6_triples_L4 u n4 x4_1 i4 → W p l e ({ frames := 6, cells := 0, slots := 0, locals := 134 }) s m ([.ref (b 0)] : List Value).toArray below meth c s.heap [] 0 0 (MQ below (kRi R) ([.ref (b 0)] : List Value).toArray s 0 0 (fun _ => False)) (F0 m 4 ls []) := by
    clear hE
    intro n4
    induction n4 with
    | zero =>
      intro x4_1 i4 hm4 hi4 ls hl hE
      exact absurd hm4 (by omega)
    | succ n4 ih4 =>
      intro x4_1 i4 hm4 hi4 ls hl hE
      replace hE := hE.trans mX6_triples_L4_s
      refine lv_iload_n hx hb dX6_triples_4 rfl (lv_at hl 0 rfl) ?_
      refine lv_aload_n hx hb dX6_triples_5 rfl (lv_at hl 2 rfl) ?_
      refine va_get (D := E.1) (ci := 5) (v := .ref (b 1)) (C := RX6) (T := TX6) (N := 16) hx hb hts hiX6 hown hK.1 hP 0 rfl rfl 0 (by decide) hf7 (fun _ h9 => h9) rfl dX6_triples_6 ?_
      refine lv_iconst (v := 2) hx hb dX6_triples_9 (by decide) ?_
      refine va_iald (D := E.1) hx hb hK.1 hP 1 0 rfl rfl (vp_in_nI (n := 2) (by decide) (by decide)) dX6_triples_10 ?_
      refine W.eq (g2 := F0 m 11 ls [.int ((u 1) 2), .int (nI i4)]) rfl ?_
      refine lv_icmp_ge (tgt := 40) hx hb dX6_triples_11 (by decide) (fun c_1 => ?_) (fun c_1 => ?_)
      · replace hE := hE.trans (if_pos c_1)
        refine lv_iload_n hx hb dX6_triples_40 rfl (lv_at hl 1 rfl) ?_
        subst R
        exact W.iret (v := x4_1) hx hb hr (fun t ht hW => ⟨rfl, ht⟩) (fun _ h => by cases h) dX6_triples_41
      · replace hE := hE.trans (if_neg c_1)
        have hbc_1 : i4 < 12 := nOK.lt (by assumption) (by omega) c_1
        refine lv_iload_n hx hb dX6_triples_14 rfl (lv_at hl 1 rfl) ?_
        refine lv_aload_n hx hb dX6_triples_15 rfl (lv_at hl 2 rfl) ?_
        refine lv_iload_n hx hb dX6_triples_16 rfl (lv_at hl 0 rfl) ?_
        refine kCallRi (va_runV (As := [.int (nI i4)]) (rest := [.int x4_1]) ⟨hx, hb, hml, hown, hts⟩ (c_X6_edgesFrom l E b u (nI i4) (by assumption) (tOK.nI (by omega)) _ rfl) (cwV 1 hts gX6_triples_X6_edgesFrom rfl rfl rfl (by decide +kernel) ⟨Nat.le_of_ble_eq_true rfl, Nat.le_of_ble_eq_true rfl⟩) (kPreV hK hP hP (q0 := 0) rfl rfl) rfl rfl hl.1 rfl (lv_room (Nat.le_of_ble_eq_true rfl)) dX6_triples_17 ⟨Nat.zero_le _, Nat.zero_le _⟩) ?_
        refine kCallRi (va_runS (As := [.int (mX6_edgesFrom u (nI i4))]) (rest := [.int x4_1]) ⟨hx, hb, hml, hown, hts⟩ (c_X6_bits l E (mX6_edgesFrom u (nI i4)) (edgesFrom_b hm _) _ rfl) (va_cwS 1 hts gX6_triples_X6_bits rfl rfl rfl (by decide +kernel) ⟨Nat.le_of_ble_eq_true rfl, Nat.le_of_ble_eq_true rfl⟩) (kPreS hK kP0) rfl rfl hl.1 rfl (lv_room (Nat.le_of_ble_eq_true rfl)) dX6_triples_20 ⟨Nat.zero_le _, Nat.zero_le _⟩) ?_
        refine lv_aload_n hx hb dX6_triples_23 rfl (lv_at hl 2 rfl) ?_
        refine lv_iload_n hx hb dX6_triples_24 rfl (lv_at hl 0 rfl) ?_
        refine kCallRi (va_runV (As := [.int (nI i4)]) (rest := [.int (mX6_bits (mX6_edgesFrom u (nI i4))), .int x4_1]) ⟨hx, hb, hml, hown, hts⟩ (c_X6_edgesTo l E b u (nI i4) (by assumption) (tOK.nI (by omega)) _ rfl) (cwV 1 hts gX6_triples_X6_edgesTo rfl rfl rfl (by decide +kernel) ⟨Nat.le_of_ble_eq_true rfl, Nat.le_of_ble_eq_true rfl⟩) (kPreV hK hP hP (q0 := 0) rfl rfl) rfl rfl hl.1 rfl (lv_room (Nat.le_of_ble_eq_true rfl)) dX6_triples_25 ⟨Nat.zero_le _, Nat.zero_le _⟩) ?_
        refine kCallRi (va_runS (As := [.int (mX6_edgesTo u (nI i4))]) (rest := [.int (mX6_bits (mX6_edgesFrom u (nI i4))), .int x4_1]) ⟨hx, hb, hml, hown, hts⟩ (c_X6_bits l E (mX6_edgesTo u (nI i4)) (edgesTo_b hm _) _ rfl) (va_cwS 1 hts gX6_triples_X6_bits rfl rfl rfl (by decide +kernel) ⟨Nat.le_of_ble_eq_true rfl, Nat.le_of_ble_eq_true rfl⟩) (kPreS hK kP0) rfl rfl hl.1 rfl (lv_room (Nat.le_of_ble_eq_true rfl)) dX6_triples_28 ⟨Nat.zero_le _, Nat.zero_le _⟩) ?_
        refine lv_imul hx hb dX6_triples_31 ?_
        refine lv_iadd hx hb dX6_triples_32 ?_
        refine lv_istore_n (lv' := [(1, .int (x4_1 + ((mX6_bits (mX6_edgesFrom u (nI i4))) * (mX6_bits (mX6_edgesTo u (nI i4)))))), (2, .int (nI i4)), (0, .ref (b 0))]) hx hb dX6_triples_33 rfl hl (by decide) rfl (fun ls hl => ?_)
        refine lv_iinc (v := (nI (i4 + 1))) (lv' := [(2, .int (nI (i4 + 1))), (1, .int (x4_1 + ((mX6_bits (mX6_edgesFrom u (nI i4))) * (mX6_bits (mX6_edgesTo u (nI i4)))))), (0, .ref (b 0))]) hx hb dX6_triples_34 hl (k := 1) rfl (nI_1 i4) (by decide) rfl (fun ls hl => ?_)
        refine lv_goto (tgt := 4) hx hb dX6_triples_37 (by decide) ?_
        exact ih4 (x4_1 + ((mX6_bits (mX6_edgesFrom u (nI i4))) * (mX6_bits (mX6_edgesTo u (nI i4))))) (i4 + 1) (by omega) (by omega) ls (lv_sub hl [0, 1, 2] rfl) hE
  exact lp4 13 0 0 (by omega) (by omega) ls (lv_sub hl [0, 1, 2] rfl) hE
def mX6_of (u : kG) (x1 : Int32) (x2 : Int32) : Int32 :=
  if (mX6_isTransaction u x1) = 0 then
    (-1)
  else
    if x2 = 0 then
      (mX6_its u x1 x2)
    else
      if x2 = 1 then
        (mX6_its u x1 x2)
      else
        if x2 = 2 then
          (mX6_its u x1 x2)
        else
          if x2 = 3 then
            (mX6_its u x1 x2)
          else
            if x2 = 4 then
              (mX6_its u x1 x2)
            else
              if x2 = 5 then
                (mX6_edgesFrom u x1)
              else
                if x2 = 6 then
                  (mX6_edgesTo u x1)
                else
                  if x2 = 7 then
                    (mX6_its u x1 5)
                  else
                    if x2 = 8 then
                      (mX6_safety u x1)
                    else
                      (-2)
theorem mX6_of_s {u : kG} {x1 : Int32} {x2 : Int32} : mX6_of u x1 x2 = (
  if (mX6_isTransaction u x1) = 0 then
    (-1)
  else
    if x2 = 0 then
      (mX6_its u x1 x2)
    else
      if x2 = 1 then
        (mX6_its u x1 x2)
      else
        if x2 = 2 then
          (mX6_its u x1 x2)
        else
          if x2 = 3 then
            (mX6_its u x1 x2)
          else
            if x2 = 4 then
              (mX6_its u x1 x2)
            else
              if x2 = 5 then
                (mX6_edgesFrom u x1)
              else
                if x2 = 6 then
                  (mX6_edgesTo u x1)
                else
                  if x2 = 7 then
                    (mX6_its u x1 5)
                  else
                    if x2 = 8 then
                      (mX6_safety u x1)
                    else
                      (-2) : Int32) := rfl
set_option maxHeartbeats 400000 in
set_option maxRecDepth 100000 in
theorem c_X6_of (l : Launch) (E : kE) (b : Nat → Nat) (u : kG) (x1 : Int32) (x2 : Int32) (hm : nOK (u 1 2)) (R : Int32) (hE : R = mX6_of u x1 x2) : Met l yX6_of wsX6_of ({ frames := 7, cells := 0, slots := 0, locals := 158 }) (kPre E [.ref (b 0), .int x1, .int x2] (wModx E b (u 0 0) (u 0 1) (u 0 2) (u 0 3) (u 0 4) (u 0 5) (u 0 6) (u 0 7) (u 1) (u 2) (u 3) (u 4) (u 5) (u 6) (u 7) (u 8))) (kRi R) 0 0 (fun _ => False) := by
  refine Met.ofW (cc := cX6_of) (maxL := 3) (ret := (some .int)) (by decide) rfl ?_
  intro p e s m args below meth c s₁ B hml hv
  obtain ⟨rfl, hK, hP⟩ := hv
  have hx := B.exec
  have hb := B.bytes
  have hr := B.returns
  have hts := atoms_spec (ws := wsX6_of) B.pre
  have hown : s.vm.findClass RX6 = some m.cls := findClass_of_methodNamed B.named
  have hlocks := B.notSynchronized
  have hP : va_P E.1 vwCl (wModx E b (u 0 0) (u 0 1) (u 0 2) (u 0 3) (u 0 4) (u 0 5) (u 0 6) (u 0 7) (u 1) (u 2) (u 3) (u 4) (u 5) (u 6) (u 7) (u 8)) s.heap := hP
  have hl := lv_entry ([.ref (b 0), .int x1, .int x2]) (n := 3) (Nat.le_of_ble_eq_true rfl)
  rw [lg_entry_eq]
  generalize (lg_sl ([.ref (b 0), .int x1, .int x2]) ++ List.replicate (3 - (lg_sl ([.ref (b 0), .int x1, .int x2])).length) Slot.unset).toArray = ls at hl ⊢
  have hl : lv_has ls 3 [(0, .ref (b 0)), (1, .int x1), (2, .int x2)] := hl
  replace hE := hE.trans mX6_of_s
  refine lv_aload_n hx hb dX6_of_0 rfl (lv_at hl 0 rfl) ?_
  refine lv_iload_n hx hb dX6_of_1 rfl (lv_at hl 1 rfl) ?_
  refine kCallRi (va_runV (As := [.int x1]) (rest := []) ⟨hx, hb, hml, hown, hts⟩ (c_X6_isTransaction l E b u x1 _ rfl) (cwV 1 hts gX6_of_X6_isTransaction rfl rfl rfl (by decide +kernel) ⟨Nat.le_of_ble_eq_true rfl, Nat.le_of_ble_eq_true rfl⟩) (kPreV hK hP hP (q0 := 0) rfl rfl) rfl rfl hl.1 rfl (lv_room (Nat.le_of_ble_eq_true rfl)) dX6_of_2 ⟨Nat.zero_le _, Nat.zero_le _⟩) ?_
  refine lv_if_ne (tgt := 10) hx hb dX6_of_5 (by decide) (fun c_1 => ?_) (fun c_1 => ?_)
  · replace hE := hE.trans (if_neg c_1)
    have hzc_1 := isTr_ok (by assumption) c_1
    refine lv_iload_n hx hb dX6_of_10 rfl (lv_at hl 2 rfl) ?_
    by_cases c_2 : x2 = 0
    · replace hE := hE.trans (if_pos c_2)
      refine W.eq (g2 := F0 m 11 ls ([.int 0])) (by rw [c_2]) ?_
      refine lv_tableIn (tgt := 60) hx hb dX6_of_11 (by decide) (by decide) rfl (by decide) ?_
      refine lv_aload_n hx hb dX6_of_60 rfl (lv_at hl 0 rfl) ?_
      refine lv_iload_n hx hb dX6_of_61 rfl (lv_at hl 1 rfl) ?_
      refine lv_iload_n hx hb dX6_of_62 rfl (lv_at hl 2 rfl) ?_
      refine kCallRi (va_runV (As := [.int x1, .int x2]) (rest := []) ⟨hx, hb, hml, hown, hts⟩ (c_X6_its l E b u x1 x2 (by assumption) (by first | exact wOK.eq (k := 0) (by assumption) (by decide) | exact wOK.eq (k := 1) (by assumption) (by decide) | exact wOK.eq (k := 2) (by assumption) (by decide) | exact wOK.eq (k := 3) (by assumption) (by decide) | exact wOK.eq (k := 4) (by assumption) (by decide)) _ rfl) (cwV 2 hts gX6_of_X6_its rfl rfl rfl (by decide +kernel) ⟨Nat.le_of_ble_eq_true rfl, Nat.le_of_ble_eq_true rfl⟩) (kPreV hK hP hP (q0 := 0) rfl rfl) rfl rfl hl.1 rfl (lv_room (Nat.le_of_ble_eq_true rfl)) dX6_of_63 ⟨Nat.zero_le _, Nat.zero_le _⟩) ?_
      subst R
      exact W.iret (v := (mX6_its u x1 x2)) hx hb hr (fun t ht hW => ⟨rfl, ht⟩) (fun _ h => by cases h) dX6_of_66
    · replace hE := hE.trans (if_neg c_2)
      by_cases c_3 : x2 = 1
      · replace hE := hE.trans (if_pos c_3)
        refine W.eq (g2 := F0 m 11 ls ([.int 1])) (by rw [c_3]) ?_
        refine lv_tableIn (tgt := 60) hx hb dX6_of_11 (by decide) (by decide) rfl (by decide) ?_
        refine lv_aload_n hx hb dX6_of_60 rfl (lv_at hl 0 rfl) ?_
        refine lv_iload_n hx hb dX6_of_61 rfl (lv_at hl 1 rfl) ?_
        refine lv_iload_n hx hb dX6_of_62 rfl (lv_at hl 2 rfl) ?_
        refine kCallRi (va_runV (As := [.int x1, .int x2]) (rest := []) ⟨hx, hb, hml, hown, hts⟩ (c_X6_its l E b u x1 x2 (by assumption) (by first | exact wOK.eq (k := 0) (by assumption) (by decide) | exact wOK.eq (k := 1) (by assumption) (by decide) | exact wOK.eq (k := 2) (by assumption) (by decide) | exact wOK.eq (k := 3) (by assumption) (by decide) | exact wOK.eq (k := 4) (by assumption) (by decide)) _ rfl) (cwV 2 hts gX6_of_X6_its rfl rfl rfl (by decide +kernel) ⟨Nat.le_of_ble_eq_true rfl, Nat.le_of_ble_eq_true rfl⟩) (kPreV hK hP hP (q0 := 0) rfl rfl) rfl rfl hl.1 rfl (lv_room (Nat.le_of_ble_eq_true rfl)) dX6_of_63 ⟨Nat.zero_le _, Nat.zero_le _⟩) ?_
        subst R
        exact W.iret (v := (mX6_its u x1 x2)) hx hb hr (fun t ht hW => ⟨rfl, ht⟩) (fun _ h => by cases h) dX6_of_66
      · replace hE := hE.trans (if_neg c_3)
        by_cases c_4 : x2 = 2
        · replace hE := hE.trans (if_pos c_4)
          refine W.eq (g2 := F0 m 11 ls ([.int 2])) (by rw [c_4]) ?_
          refine lv_tableIn (tgt := 60) hx hb dX6_of_11 (by decide) (by decide) rfl (by decide) ?_
          refine lv_aload_n hx hb dX6_of_60 rfl (lv_at hl 0 rfl) ?_
          refine lv_iload_n hx hb dX6_of_61 rfl (lv_at hl 1 rfl) ?_
          refine lv_iload_n hx hb dX6_of_62 rfl (lv_at hl 2 rfl) ?_
          refine kCallRi (va_runV (As := [.int x1, .int x2]) (rest := []) ⟨hx, hb, hml, hown, hts⟩ (c_X6_its l E b u x1 x2 (by assumption) (by first | exact wOK.eq (k := 0) (by assumption) (by decide) | exact wOK.eq (k := 1) (by assumption) (by decide) | exact wOK.eq (k := 2) (by assumption) (by decide) | exact wOK.eq (k := 3) (by assumption) (by decide) | exact wOK.eq (k := 4) (by assumption) (by decide)) _ rfl) (cwV 2 hts gX6_of_X6_its rfl rfl rfl (by decide +kernel) ⟨Nat.le_of_ble_eq_true rfl, Nat.le_of_ble_eq_true rfl⟩) (kPreV hK hP hP (q0 := 0) rfl rfl) rfl rfl hl.1 rfl (lv_room (Nat.le_of_ble_eq_true rfl)) dX6_of_63 ⟨Nat.zero_le _, Nat.zero_le _⟩) ?_
          subst R
          exact W.iret (v := (mX6_its u x1 x2)) hx hb hr (fun t ht hW => ⟨rfl, ht⟩) (fun _ h => by cases h) dX6_of_66
        · replace hE := hE.trans (if_neg c_4)
          by_cases c_5 : x2 = 3
          · replace hE := hE.trans (if_pos c_5)
            refine W.eq (g2 := F0 m 11 ls ([.int 3])) (by rw [c_5]) ?_
            refine lv_tableIn (tgt := 60) hx hb dX6_of_11 (by decide) (by decide) rfl (by decide) ?_
            refine lv_aload_n hx hb dX6_of_60 rfl (lv_at hl 0 rfl) ?_
            refine lv_iload_n hx hb dX6_of_61 rfl (lv_at hl 1 rfl) ?_
            refine lv_iload_n hx hb dX6_of_62 rfl (lv_at hl 2 rfl) ?_
            refine kCallRi (va_runV (As := [.int x1, .int x2]) (rest := []) ⟨hx, hb, hml, hown, hts⟩ (c_X6_its l E b u x1 x2 (by assumption) (by first | exact wOK.eq (k := 0) (by assumption) (by decide) | exact wOK.eq (k := 1) (by assumption) (by decide) | exact wOK.eq (k := 2) (by assumption) (by decide) | exact wOK.eq (k := 3) (by assumption) (by decide) | exact wOK.eq (k := 4) (by assumption) (by decide)) _ rfl) (cwV 2 hts gX6_of_X6_its rfl rfl rfl (by decide +kernel) ⟨Nat.le_of_ble_eq_true rfl, Nat.le_of_ble_eq_true rfl⟩) (kPreV hK hP hP (q0 := 0) rfl rfl) rfl rfl hl.1 rfl (lv_room (Nat.le_of_ble_eq_true rfl)) dX6_of_63 ⟨Nat.zero_le _, Nat.zero_le _⟩) ?_
            subst R
            exact W.iret (v := (mX6_its u x1 x2)) hx hb hr (fun t ht hW => ⟨rfl, ht⟩) (fun _ h => by cases h) dX6_of_66
          · replace hE := hE.trans (if_neg c_5)
            by_cases c_6 : x2 = 4
            · replace hE := hE.trans (if_pos c_6)
              refine W.eq (g2 := F0 m 11 ls ([.int 4])) (by rw [c_6]) ?_
              refine lv_tableIn (tgt := 60) hx hb dX6_of_11 (by decide) (by decide) rfl (by decide) ?_
              refine lv_aload_n hx hb dX6_of_60 rfl (lv_at hl 0 rfl) ?_
              refine lv_iload_n hx hb dX6_of_61 rfl (lv_at hl 1 rfl) ?_
              refine lv_iload_n hx hb dX6_of_62 rfl (lv_at hl 2 rfl) ?_
              refine kCallRi (va_runV (As := [.int x1, .int x2]) (rest := []) ⟨hx, hb, hml, hown, hts⟩ (c_X6_its l E b u x1 x2 (by assumption) (by first | exact wOK.eq (k := 0) (by assumption) (by decide) | exact wOK.eq (k := 1) (by assumption) (by decide) | exact wOK.eq (k := 2) (by assumption) (by decide) | exact wOK.eq (k := 3) (by assumption) (by decide) | exact wOK.eq (k := 4) (by assumption) (by decide)) _ rfl) (cwV 2 hts gX6_of_X6_its rfl rfl rfl (by decide +kernel) ⟨Nat.le_of_ble_eq_true rfl, Nat.le_of_ble_eq_true rfl⟩) (kPreV hK hP hP (q0 := 0) rfl rfl) rfl rfl hl.1 rfl (lv_room (Nat.le_of_ble_eq_true rfl)) dX6_of_63 ⟨Nat.zero_le _, Nat.zero_le _⟩) ?_
              subst R
              exact W.iret (v := (mX6_its u x1 x2)) hx hb hr (fun t ht hW => ⟨rfl, ht⟩) (fun _ h => by cases h) dX6_of_66
            · replace hE := hE.trans (if_neg c_6)
              by_cases c_7 : x2 = 5
              · replace hE := hE.trans (if_pos c_7)
                refine W.eq (g2 := F0 m 11 ls ([.int 5])) (by rw [c_7]) ?_
                refine lv_tableIn (tgt := 67) hx hb dX6_of_11 (by decide) (by decide) rfl (by decide) ?_
                refine lv_aload_n hx hb dX6_of_67 rfl (lv_at hl 0 rfl) ?_
                refine lv_iload_n hx hb dX6_of_68 rfl (lv_at hl 1 rfl) ?_
                refine kCallRi (va_runV (As := [.int x1]) (rest := []) ⟨hx, hb, hml, hown, hts⟩ (c_X6_edgesFrom l E b u x1 (by assumption) (by assumption) _ rfl) (cwV 1 hts gX6_of_X6_edgesFrom rfl rfl rfl (by decide +kernel) ⟨Nat.le_of_ble_eq_true rfl, Nat.le_of_ble_eq_true rfl⟩) (kPreV hK hP hP (q0 := 0) rfl rfl) rfl rfl hl.1 rfl (lv_room (Nat.le_of_ble_eq_true rfl)) dX6_of_69 ⟨Nat.zero_le _, Nat.zero_le _⟩) ?_
                subst R
                exact W.iret (v := (mX6_edgesFrom u x1)) hx hb hr (fun t ht hW => ⟨rfl, ht⟩) (fun _ h => by cases h) dX6_of_72
              · replace hE := hE.trans (if_neg c_7)
                by_cases c_8 : x2 = 6
                · replace hE := hE.trans (if_pos c_8)
                  refine W.eq (g2 := F0 m 11 ls ([.int 6])) (by rw [c_8]) ?_
                  refine lv_tableIn (tgt := 73) hx hb dX6_of_11 (by decide) (by decide) rfl (by decide) ?_
                  refine lv_aload_n hx hb dX6_of_73 rfl (lv_at hl 0 rfl) ?_
                  refine lv_iload_n hx hb dX6_of_74 rfl (lv_at hl 1 rfl) ?_
                  refine kCallRi (va_runV (As := [.int x1]) (rest := []) ⟨hx, hb, hml, hown, hts⟩ (c_X6_edgesTo l E b u x1 (by assumption) (by assumption) _ rfl) (cwV 1 hts gX6_of_X6_edgesTo rfl rfl rfl (by decide +kernel) ⟨Nat.le_of_ble_eq_true rfl, Nat.le_of_ble_eq_true rfl⟩) (kPreV hK hP hP (q0 := 0) rfl rfl) rfl rfl hl.1 rfl (lv_room (Nat.le_of_ble_eq_true rfl)) dX6_of_75 ⟨Nat.zero_le _, Nat.zero_le _⟩) ?_
                  subst R
                  exact W.iret (v := (mX6_edgesTo u x1)) hx hb hr (fun t ht hW => ⟨rfl, ht⟩) (fun _ h => by cases h) dX6_of_78
                · replace hE := hE.trans (if_neg c_8)
                  by_cases c_9 : x2 = 7
                  · replace hE := hE.trans (if_pos c_9)
                    refine W.eq (g2 := F0 m 11 ls ([.int 7])) (by rw [c_9]) ?_
                    refine lv_tableIn (tgt := 79) hx hb dX6_of_11 (by decide) (by decide) rfl (by decide) ?_
                    refine lv_aload_n hx hb dX6_of_79 rfl (lv_at hl 0 rfl) ?_
                    refine lv_iload_n hx hb dX6_of_80 rfl (lv_at hl 1 rfl) ?_
                    refine lv_iconst (v := 5) hx hb dX6_of_81 (by decide) ?_
                    refine kCallRi (va_runV (As := [.int x1, .int 5]) (rest := []) ⟨hx, hb, hml, hown, hts⟩ (c_X6_its l E b u x1 5 (by assumption) ⟨5, by decide, rfl⟩ _ rfl) (cwV 2 hts gX6_of_X6_its rfl rfl rfl (by decide +kernel) ⟨Nat.le_of_ble_eq_true rfl, Nat.le_of_ble_eq_true rfl⟩) (kPreV hK hP hP (q0 := 0) rfl rfl) rfl rfl hl.1 rfl (lv_room (Nat.le_of_ble_eq_true rfl)) dX6_of_82 ⟨Nat.zero_le _, Nat.zero_le _⟩) ?_
                    subst R
                    exact W.iret (v := (mX6_its u x1 5)) hx hb hr (fun t ht hW => ⟨rfl, ht⟩) (fun _ h => by cases h) dX6_of_85
                  · replace hE := hE.trans (if_neg c_9)
                    by_cases c_10 : x2 = 8
                    · replace hE := hE.trans (if_pos c_10)
                      refine W.eq (g2 := F0 m 11 ls ([.int 8])) (by rw [c_10]) ?_
                      refine lv_tableIn (tgt := 86) hx hb dX6_of_11 (by decide) (by decide) rfl (by decide) ?_
                      refine lv_aload_n hx hb dX6_of_86 rfl (lv_at hl 0 rfl) ?_
                      refine lv_iload_n hx hb dX6_of_87 rfl (lv_at hl 1 rfl) ?_
                      refine kCallRi (va_runV (As := [.int x1]) (rest := []) ⟨hx, hb, hml, hown, hts⟩ (c_X6_safety l E b u x1 (by assumption) (by assumption) _ rfl) (cwV 1 hts gX6_of_X6_safety rfl rfl rfl (by decide +kernel) ⟨Nat.le_of_ble_eq_true rfl, Nat.le_of_ble_eq_true rfl⟩) (kPreV hK hP hP (q0 := 0) rfl rfl) rfl rfl hl.1 rfl (lv_room (Nat.le_of_ble_eq_true rfl)) dX6_of_88 ⟨Nat.zero_le _, Nat.zero_le _⟩) ?_
                      subst R
                      exact W.iret (v := (mX6_safety u x1)) hx hb hr (fun t ht hW => ⟨rfl, ht⟩) (fun _ h => by cases h) dX6_of_91
                    · replace hE := hE.trans (if_neg c_10)
                      have hout : (x2).toInt < 0 ∨ 8 < (x2).toInt := kout0_8 c_2 c_3 c_4 c_5 c_6 c_7 c_8 c_9 c_10
                      refine lv_tableOut (tgt := 92) hx hb dX6_of_11 hout (by decide) ?_
                      refine lv_bipush (v := (-2)) hx hb dX6_of_92 (by decide) ?_
                      subst R
                      exact W.iret (v := (-2)) hx hb hr (fun t ht hW => ⟨rfl, ht⟩) (fun _ h => by cases h) dX6_of_94
  · replace hE := hE.trans (if_pos c_1)
    refine lv_iconst (v := (-1)) hx hb dX6_of_8 (by decide) ?_
    subst R
    exact W.iret (v := (-1)) hx hb hr (fun t ht hW => ⟨rfl, ht⟩) (fun _ h => by cases h) dX6_of_9
def mX6_sees (u : kG) (x1 : Int32) (x2 : Int32) : Int32 :=
  if (mX6_isTransaction u x1) = 0 then
    (-1)
  else
    if (mX6_isKey x2) = 0 then
      (-1)
    else
      (mX6_writerSeen u x1 x2)
theorem mX6_sees_s {u : kG} {x1 : Int32} {x2 : Int32} : mX6_sees u x1 x2 = (
  if (mX6_isTransaction u x1) = 0 then
    (-1)
  else
    if (mX6_isKey x2) = 0 then
      (-1)
    else
      (mX6_writerSeen u x1 x2) : Int32) := rfl
set_option maxHeartbeats 400000 in
set_option maxRecDepth 100000 in
theorem c_X6_sees (l : Launch) (E : kE) (b : Nat → Nat) (u : kG) (x1 : Int32) (x2 : Int32) (hm : nOK (u 1 2)) (R : Int32) (hE : R = mX6_sees u x1 x2) : Met l yX6_sees wsX6_sees ({ frames := 4, cells := 0, slots := 0, locals := 91 }) (kPre E [.ref (b 0), .int x1, .int x2] (wModx E b (u 0 0) (u 0 1) (u 0 2) (u 0 3) (u 0 4) (u 0 5) (u 0 6) (u 0 7) (u 1) (u 2) (u 3) (u 4) (u 5) (u 6) (u 7) (u 8))) (kRi R) 0 0 (fun _ => False) := by
  refine Met.ofW (cc := cX6_sees) (maxL := 3) (ret := (some .int)) (by decide) rfl ?_
  intro p e s m args below meth c s₁ B hml hv
  obtain ⟨rfl, hK, hP⟩ := hv
  have hx := B.exec
  have hb := B.bytes
  have hr := B.returns
  have hts := atoms_spec (ws := wsX6_sees) B.pre
  have hown : s.vm.findClass RX6 = some m.cls := findClass_of_methodNamed B.named
  have hlocks := B.notSynchronized
  have hP : va_P E.1 vwCl (wModx E b (u 0 0) (u 0 1) (u 0 2) (u 0 3) (u 0 4) (u 0 5) (u 0 6) (u 0 7) (u 1) (u 2) (u 3) (u 4) (u 5) (u 6) (u 7) (u 8)) s.heap := hP
  have hl := lv_entry ([.ref (b 0), .int x1, .int x2]) (n := 3) (Nat.le_of_ble_eq_true rfl)
  rw [lg_entry_eq]
  generalize (lg_sl ([.ref (b 0), .int x1, .int x2]) ++ List.replicate (3 - (lg_sl ([.ref (b 0), .int x1, .int x2])).length) Slot.unset).toArray = ls at hl ⊢
  have hl : lv_has ls 3 [(0, .ref (b 0)), (1, .int x1), (2, .int x2)] := hl
  replace hE := hE.trans mX6_sees_s
  refine lv_aload_n hx hb dX6_sees_0 rfl (lv_at hl 0 rfl) ?_
  refine lv_iload_n hx hb dX6_sees_1 rfl (lv_at hl 1 rfl) ?_
  refine kCallRi (va_runV (As := [.int x1]) (rest := []) ⟨hx, hb, hml, hown, hts⟩ (c_X6_isTransaction l E b u x1 _ rfl) (cwV 1 hts gX6_sees_X6_isTransaction rfl rfl rfl (by decide +kernel) ⟨Nat.le_of_ble_eq_true rfl, Nat.le_of_ble_eq_true rfl⟩) (kPreV hK hP hP (q0 := 0) rfl rfl) rfl rfl hl.1 rfl (lv_room (Nat.le_of_ble_eq_true rfl)) dX6_sees_2 ⟨Nat.zero_le _, Nat.zero_le _⟩) ?_
  refine lv_if_eq (tgt := 15) hx hb dX6_sees_5 (by decide) (fun c_1 => ?_) (fun c_1 => ?_)
  · replace hE := hE.trans (if_pos c_1)
    refine lv_iconst (v := (-1)) hx hb dX6_sees_15 (by decide) ?_
    subst R
    exact W.iret (v := (-1)) hx hb hr (fun t ht hW => ⟨rfl, ht⟩) (fun _ h => by cases h) dX6_sees_16
  · replace hE := hE.trans (if_neg c_1)
    have hzc_1 := isTr_ok (by assumption) c_1
    refine lv_iload_n hx hb dX6_sees_8 rfl (lv_at hl 2 rfl) ?_
    refine kCallRi (va_runS (As := [.int x2]) (rest := []) ⟨hx, hb, hml, hown, hts⟩ (c_X6_isKey l E x2 _ rfl) (va_cwS 1 hts gX6_sees_X6_isKey rfl rfl rfl (by decide +kernel) ⟨Nat.le_of_ble_eq_true rfl, Nat.le_of_ble_eq_true rfl⟩) (kPreS hK kP0) rfl rfl hl.1 rfl (lv_room (Nat.le_of_ble_eq_true rfl)) dX6_sees_9 ⟨Nat.zero_le _, Nat.zero_le _⟩) ?_
    refine lv_if_ne (tgt := 17) hx hb dX6_sees_12 (by decide) (fun c_2 => ?_) (fun c_2 => ?_)
    · replace hE := hE.trans (if_neg c_2)
      have hzc_2 := in_key c_2
      refine lv_aload_n hx hb dX6_sees_17 rfl (lv_at hl 0 rfl) ?_
      refine lv_iload_n hx hb dX6_sees_18 rfl (lv_at hl 1 rfl) ?_
      refine lv_iload_n hx hb dX6_sees_19 rfl (lv_at hl 2 rfl) ?_
      refine kCallRi (va_runV (As := [.int x1, .int x2]) (rest := []) ⟨hx, hb, hml, hown, hts⟩ (c_X6_writerSeen l E b u x1 x2 (by assumption) (by assumption) _ rfl) (cwV 2 hts gX6_sees_X6_writerSeen rfl rfl rfl (by decide +kernel) ⟨Nat.le_of_ble_eq_true rfl, Nat.le_of_ble_eq_true rfl⟩) (kPreV hK hP hP (q0 := 0) rfl rfl) rfl rfl hl.1 rfl (lv_room (Nat.le_of_ble_eq_true rfl)) dX6_sees_20 ⟨Nat.zero_le _, Nat.zero_le _⟩) ?_
      subst R
      exact W.iret (v := (mX6_writerSeen u x1 x2)) hx hb hr (fun t ht hW => ⟨rfl, ht⟩) (fun _ h => by cases h) dX6_sees_23
    · replace hE := hE.trans (if_pos c_2)
      refine lv_iconst (v := (-1)) hx hb dX6_sees_15 (by decide) ?_
      subst R
      exact W.iret (v := (-1)) hx hb hr (fun t ht hW => ⟨rfl, ht⟩) (fun _ h => by cases h) dX6_sees_16
