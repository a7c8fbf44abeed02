def mX6_depend (u : kG) (x1 : Int32) (x2 : Int32) : (Nat → Int32) :=
  if x1 = (-6) then
    (u 6)
  else
    if x2 = (-6) then
      (u 6)
    else
      if x1 = x2 then
        (u 6)
      else
        (upd (u 6) (x2).toNatClampNeg (((u 6) (x2).toNatClampNeg) ||| (1 <<< (x1 &&& 31))))
theorem mX6_depend_s {u : kG} {x1 : Int32} {x2 : Int32} : mX6_depend u x1 x2 = (
  if x1 = (-6) then
    (u 6)
  else
    if x2 = (-6) then
      (u 6)
    else
      if x1 = x2 then
        (u 6)
      else
        (upd (u 6) (x2).toNatClampNeg (((u 6) (x2).toNatClampNeg) ||| (1 <<< (x1 &&& 31)))) : (Nat → Int32)) := rfl
set_option maxHeartbeats 400000 in
set_option maxRecDepth 100000 in
theorem c_X6_depend (l : Launch) (E : kE) (b : Nat → Nat) (u : kG) (hj : kInj b 9) (x1 : Int32) (x2 : Int32) (h1 : x1 = (-6) ∨ tOK x1) (h2 : x2 = (-6) ∨ tOK x2) (R : (Nat → Int32)) (hE : R = mX6_depend u x1 x2) : Met l yX6_depend wsX6_depend ({ frames := 0, cells := 0, slots := 0, locals := 0 }) (kPre E [.ref (b 0), .int x1, .int x2] (wModx E b (u 0 0) (u 0 1) (u 0 2) (u 0 3) (u 0 4) (u 0 5) (u 0 6) (u 0 7) (u 1) (u 2) (u 3) (u 4) (u 5) (u 6) (u 7) (u 8))) (kWv E (wModx E b (u 0 0) (u 0 1) (u 0 2) (u 0 3) (u 0 4) (u 0 5) (u 0 6) (u 0 7) (u 1) (u 2) (u 3) (u 4) (u 5) R (u 7) (u 8)) (kA b 9)) 0 0 (kA b 9) := by
  refine Met.ofW (cc := cX6_depend) (maxL := 3) (ret := none) (by decide) rfl ?_
  intro p e s m args below meth c s₁ B hml hv
  obtain ⟨rfl, hK, hP⟩ := hv
  have hx := B.exec
  have hb := B.bytes
  have hr := B.returns
  have hts := atoms_spec (ws := wsX6_depend) B.pre
  have hown : s.vm.findClass RX6 = some m.cls := findClass_of_methodNamed B.named
  have hlocks := B.notSynchronized
  have hiX6 : ∀ w ∈ wsX60, w ∈ wsX6_depend := by decide +kernel
  have hf27 := hts (.fieldLink RX6 27 "SkewEdgesModel" "ahead" "[I") (by decide +kernel)
  have hS : va_S (kA b 9) s.heap s.heap [] := va_S.rf
  have hP : va_P E.1 vwCl (wModx E b (u 0 0) (u 0 1) (u 0 2) (u 0 3) (u 0 4) (u 0 5) (u 0 6) (u 0 7) (u 1) (u 2) (u 3) (u 4) (u 5) (u 6) (u 7) (u 8)) s.heap := hP
  have hD := dMod (E := E) hj (u 0 0) (u 0 1) (u 0 2) (u 0 3) (u 0 4) (u 0 5) (u 0 6) (u 0 7) (u 1) (u 2) (u 3) (u 4) (u 5) (u 6) (u 7) (u 8)
  have hl := lv_entry ([.ref (b 0), .int x1, .int x2]) (n := 3) (Nat.le_of_ble_eq_true rfl)
  rw [lg_entry_eq]
  generalize (lg_sl ([.ref (b 0), .int x1, .int x2]) ++ List.replicate (3 - (lg_sl ([.ref (b 0), .int x1, .int x2])).length) Slot.unset).toArray = ls at hl ⊢
  have hl : lv_has ls 3 [(0, .ref (b 0)), (1, .int x1), (2, .int x2)] := hl
  replace hE := hE.trans mX6_depend_s
  refine lv_iload_n hx hb dX6_depend_0 rfl (lv_at hl 1 rfl) ?_
  refine lv_bipush (v := (-6)) hx hb dX6_depend_1 (by decide) ?_
  refine lv_icmp_eq (tgt := 29) hx hb dX6_depend_3 (by decide) (fun c_1 => ?_) (fun c_1 => ?_)
  · replace hE := hE.trans (if_pos c_1)
    subst R
    exact W.vret hx hb hr (fun t ht hW => ⟨rfl, by rw [ht]; exact hP, hS.F ht⟩) hS.2.2 dX6_depend_29
  · replace hE := hE.trans (if_neg c_1)
    refine lv_iload_n hx hb dX6_depend_6 rfl (lv_at hl 2 rfl) ?_
    refine lv_bipush (v := (-6)) hx hb dX6_depend_7 (by decide) ?_
    refine lv_icmp_eq (tgt := 29) hx hb dX6_depend_9 (by decide) (fun c_2 => ?_) (fun c_2 => ?_)
    · replace hE := hE.trans (if_pos c_2)
      subst R
      exact W.vret hx hb hr (fun t ht hW => ⟨rfl, by rw [ht]; exact hP, hS.F ht⟩) hS.2.2 dX6_depend_29
    · replace hE := hE.trans (if_neg c_2)
      refine lv_iload_n hx hb dX6_depend_12 rfl (lv_at hl 1 rfl) ?_
      refine lv_iload_n hx hb dX6_depend_13 rfl (lv_at hl 2 rfl) ?_
      refine lv_icmp_eq (tgt := 29) hx hb dX6_depend_14 (by decide) (fun c_3 => ?_) (fun c_3 => ?_)
      · replace hE := hE.trans (if_pos c_3)
        subst R
        exact W.vret hx hb hr (fun t ht hW => ⟨rfl, by rw [ht]; exact hP, hS.F ht⟩) hS.2.2 dX6_depend_29
      · replace hE := hE.trans (if_neg c_3)
        refine lv_aload_n hx hb dX6_depend_17 rfl (lv_at hl 0 rfl) ?_
        refine va_get (D := E.1) (ci := 5) (v := .ref (b 6)) (C := RX6) (T := TX6) (N := 16) hx hb hts hiX6 hown hK.1 hP 0 rfl rfl 10 (by decide) hf27 (fun _ h9 => h9) rfl dX6_depend_18 ?_
        refine lv_iload_n hx hb dX6_depend_21 rfl (lv_at hl 2 rfl) ?_
        refine lv_dup2_11 hx hb dX6_depend_22 rfl rfl ?_
        refine va_iald (D := E.1) hx hb hK.1 hP 6 0 rfl rfl (kor h2 (by assumption)).in12 dX6_depend_23 ?_
        refine lv_iconst (v := 1) hx hb dX6_depend_24 (by decide) ?_
        refine lv_iload_n hx hb dX6_depend_25 rfl (lv_at hl 1 rfl) ?_
        refine lv_ishl hx hb dX6_depend_26 ?_
        refine lv_ior hx hb dX6_depend_27 ?_
        refine va_iast (D := E.1) hx hb hK.1 hP hD hS 6 0 rfl rfl (kor h2 (by assumption)).in12 dX6_depend_28 (fun H locs hP _ hS => ?_)
        have hP : va_P E.1 vwCl (wModx E b (u 0 0) (u 0 1) (u 0 2) (u 0 3) (u 0 4) (u 0 5) (u 0 6) (u 0 7) (u 1) (u 2) (u 3) (u 4) (u 5) (upd (u 6) (x2).toNatClampNeg (((u 6) (x2).toNatClampNeg) ||| (1 <<< (x1 &&& 31)))) (u 7) (u 8)) H := hP
        have hD := dMod (E := E) hj (u 0 0) (u 0 1) (u 0 2) (u 0 3) (u 0 4) (u 0 5) (u 0 6) (u 0 7) (u 1) (u 2) (u 3) (u 4) (u 5) (upd (u 6) (x2).toNatClampNeg (((u 6) (x2).toNatClampNeg) ||| (1 <<< (x1 &&& 31)))) (u 7) (u 8)
        subst R
        exact W.vret hx hb hr (fun t ht hW => ⟨rfl, by rw [ht]; exact hP, hS.F ht⟩) hS.2.2 dX6_depend_29
def mX6_layAhead_K35 (u : kG) (i2 : Nat) (f2_0_6 : (Nat → Int32)) (i23 : Nat) (f23_0_6 : (Nat → Int32)) (rec : Nat → (Nat → Int32) → ((Nat → Int32))) (i35 : Nat) (f35_0_6 : (Nat → Int32)) : (Nat → Int32) :=
  rec (i23 + 1) f35_0_6
theorem mX6_layAhead_K35_s {u : kG} {i2 : Nat} {f2_0_6 : (Nat → Int32)} {i23 : Nat} {f23_0_6 : (Nat → Int32)} {rec : Nat → (Nat → Int32) → ((Nat → Int32))} {i35 : Nat} {f35_0_6 : (Nat → Int32)} : mX6_layAhead_K35 u i2 f2_0_6 i23 f23_0_6 rec i35 f35_0_6 = (
  rec (i23 + 1) f35_0_6 : (Nat → Int32)) := rfl
def mX6_layAhead_L35 (u : kG) (i2 : Nat) (f2_0_6 : (Nat → Int32)) (i23 : Nat) (f23_0_6 : (Nat → Int32)) (kk : Nat → (Nat → Int32) → ((Nat → Int32))) : Nat → Nat → (Nat → Int32) → ((Nat → Int32))
  | 0, _, _ => (fun _ => 0)
  | n35 + 1, i35, f35_0_6 =>
    if 16 ≤ (nI i35) then
      kk i35 f35_0_6
    else
      if (mX6_isIn (rset u 6 f35_0_6) (nI i23) 1) = 0 then
        kk i35 f35_0_6
      else
        if (mX6_wrote (rset u 6 f35_0_6) (nI i23) (nI i35)) = 0 then
          if (((mX6_its (rset u 6 f35_0_6) (nI i23) 3) >>> ((nI i35) &&& 31)) &&& 1) = 1 then
            (fun (g_7 : (Nat → Int32)) =>
              if (mX6_writerAhead (rset u 6 f35_0_6) (nI i35) (mX6_its (rset u 6 f35_0_6) (nI i23) 1)) = (-6) then
                (fun (g_10 : (Nat → Int32)) =>
                  mX6_layAhead_L35 u i2 f2_0_6 i23 f23_0_6 kk n35 (i35 + 1) g_10)
                  (mX6_depend (rset u 6 g_7) (nI i23) (mX6_writerBehind (rset u 6 g_7) (nI i35) 0))
              else
                (fun (g_9 : (Nat → Int32)) =>
                  mX6_layAhead_L35 u i2 f2_0_6 i23 f23_0_6 kk n35 (i35 + 1) g_9)
                  (mX6_depend (rset u 6 g_7) (nI i23) (mX6_writerBehind (rset u 6 g_7) (nI i35) (mX6_its (rset u 6 g_7) (mX6_writerAhead (rset u 6 f35_0_6) (nI i35) (mX6_its (rset u 6 f35_0_6) (nI i23) 1)) 2))))
              (mX6_depend (rset u 6 f35_0_6) (mX6_writerAhead (rset u 6 f35_0_6) (nI i35) (mX6_its (rset u 6 f35_0_6) (nI i23) 1)) (nI i23))
          else
            mX6_layAhead_L35 u i2 f2_0_6 i23 f23_0_6 kk n35 (i35 + 1) f35_0_6
        else
          (fun (g_11 : (Nat → Int32)) =>
            if (((mX6_its (rset u 6 g_11) (nI i23) 3) >>> ((nI i35) &&& 31)) &&& 1) = 1 then
              (fun (g_13 : (Nat → Int32)) =>
                if (mX6_writerAhead (rset u 6 g_11) (nI i35) (mX6_its (rset u 6 g_11) (nI i23) 1)) = (-6) then
                  (fun (g_16 : (Nat → Int32)) =>
                    mX6_layAhead_L35 u i2 f2_0_6 i23 f23_0_6 kk n35 (i35 + 1) g_16)
                    (mX6_depend (rset u 6 g_13) (nI i23) (mX6_writerBehind (rset u 6 g_13) (nI i35) 0))
                else
                  (fun (g_15 : (Nat → Int32)) =>
                    mX6_layAhead_L35 u i2 f2_0_6 i23 f23_0_6 kk n35 (i35 + 1) g_15)
                    (mX6_depend (rset u 6 g_13) (nI i23) (mX6_writerBehind (rset u 6 g_13) (nI i35) (mX6_its (rset u 6 g_13) (mX6_writerAhead (rset u 6 g_11) (nI i35) (mX6_its (rset u 6 g_11) (nI i23) 1)) 2))))
                (mX6_depend (rset u 6 g_11) (mX6_writerAhead (rset u 6 g_11) (nI i35) (mX6_its (rset u 6 g_11) (nI i23) 1)) (nI i23))
            else
              mX6_layAhead_L35 u i2 f2_0_6 i23 f23_0_6 kk n35 (i35 + 1) g_11)
            (mX6_depend (rset u 6 f35_0_6) (nI i23) (mX6_writerBehind (rset u 6 f35_0_6) (nI i35) (mX6_its (rset u 6 f35_0_6) (nI i23) 2)))
theorem mX6_layAhead_L35_s {u : kG} {i2 : Nat} {f2_0_6 : (Nat → Int32)} {i23 : Nat} {f23_0_6 : (Nat → Int32)} {kk : Nat → (Nat → Int32) → ((Nat → Int32))} {n35 : Nat} {i35 : Nat} {f35_0_6 : (Nat → Int32)} : mX6_layAhead_L35 u i2 f2_0_6 i23 f23_0_6 kk (n35 + 1) i35 f35_0_6 = (
    if 16 ≤ (nI i35) then
      kk i35 f35_0_6
    else
      if (mX6_isIn (rset u 6 f35_0_6) (nI i23) 1) = 0 then
        kk i35 f35_0_6
      else
        if (mX6_wrote (rset u 6 f35_0_6) (nI i23) (nI i35)) = 0 then
          if (((mX6_its (rset u 6 f35_0_6) (nI i23) 3) >>> ((nI i35) &&& 31)) &&& 1) = 1 then
            (fun (g_7 : (Nat → Int32)) =>
              if (mX6_writerAhead (rset u 6 f35_0_6) (nI i35) (mX6_its (rset u 6 f35_0_6) (nI i23) 1)) = (-6) then
                (fun (g_10 : (Nat → Int32)) =>
                  mX6_layAhead_L35 u i2 f2_0_6 i23 f23_0_6 kk n35 (i35 + 1) g_10)
                  (mX6_depend (rset u 6 g_7) (nI i23) (mX6_writerBehind (rset u 6 g_7) (nI i35) 0))
              else
                (fun (g_9 : (Nat → Int32)) =>
                  mX6_layAhead_L35 u i2 f2_0_6 i23 f23_0_6 kk n35 (i35 + 1) g_9)
                  (mX6_depend (rset u 6 g_7) (nI i23) (mX6_writerBehind (rset u 6 g_7) (nI i35) (mX6_its (rset u 6 g_7) (mX6_writerAhead (rset u 6 f35_0_6) (nI i35) (mX6_its (rset u 6 f35_0_6) (nI i23) 1)) 2))))
              (mX6_depend (rset u 6 f35_0_6) (mX6_writerAhead (rset u 6 f35_0_6) (nI i35) (mX6_its (rset u 6 f35_0_6) (nI i23) 1)) (nI i23))
          else
            mX6_layAhead_L35 u i2 f2_0_6 i23 f23_0_6 kk n35 (i35 + 1) f35_0_6
        else
          (fun (g_11 : (Nat → Int32)) =>
            if (((mX6_its (rset u 6 g_11) (nI i23) 3) >>> ((nI i35) &&& 31)) &&& 1) = 1 then
              (fun (g_13 : (Nat → Int32)) =>
                if (mX6_writerAhead (rset u 6 g_11) (nI i35) (mX6_its (rset u 6 g_11) (nI i23) 1)) = (-6) then
                  (fun (g_16 : (Nat → Int32)) =>
                    mX6_layAhead_L35 u i2 f2_0_6 i23 f23_0_6 kk n35 (i35 + 1) g_16)
                    (mX6_depend (rset u 6 g_13) (nI i23) (mX6_writerBehind (rset u 6 g_13) (nI i35) 0))
                else
                  (fun (g_15 : (Nat → Int32)) =>
                    mX6_layAhead_L35 u i2 f2_0_6 i23 f23_0_6 kk n35 (i35 + 1) g_15)
                    (mX6_depend (rset u 6 g_13) (nI i23) (mX6_writerBehind (rset u 6 g_13) (nI i35) (mX6_its (rset u 6 g_13) (mX6_writerAhead (rset u 6 g_11) (nI i35) (mX6_its (rset u 6 g_11) (nI i23) 1)) 2))))
                (mX6_depend (rset u 6 g_11) (mX6_writerAhead (rset u 6 g_11) (nI i35) (mX6_its (rset u 6 g_11) (nI i23) 1)) (nI i23))
            else
              mX6_layAhead_L35 u i2 f2_0_6 i23 f23_0_6 kk n35 (i35 + 1) g_11)
            (mX6_depend (rset u 6 f35_0_6) (nI i23) (mX6_writerBehind (rset u 6 f35_0_6) (nI i35) (mX6_its (rset u 6 f35_0_6) (nI i23) 2))) : (Nat → Int32)) := rfl
def mX6_layAhead_L23 (u : kG) (i2 : Nat) (f2_0_6 : (Nat → Int32)) : Nat → Nat → (Nat → Int32) → ((Nat → Int32))
  | 0, _, _ => (fun _ => 0)
  | n23 + 1, i23, f23_0_6 =>
    if ((u 1) 2) ≤ (nI i23) then
      f23_0_6
    else
      mX6_layAhead_L35 u i2 f2_0_6 i23 f23_0_6 (mX6_layAhead_K35 u i2 f2_0_6 i23 f23_0_6 (mX6_layAhead_L23 u i2 f2_0_6 n23)) 17 0 f23_0_6
theorem mX6_layAhead_L23_s {u : kG} {i2 : Nat} {f2_0_6 : (Nat → Int32)} {n23 : Nat} {i23 : Nat} {f23_0_6 : (Nat → Int32)} : mX6_layAhead_L23 u i2 f2_0_6 (n23 + 1) i23 f23_0_6 = (
    if ((u 1) 2) ≤ (nI i23) then
      f23_0_6
    else
      mX6_layAhead_L35 u i2 f2_0_6 i23 f23_0_6 (mX6_layAhead_K35 u i2 f2_0_6 i23 f23_0_6 (mX6_layAhead_L23 u i2 f2_0_6 n23)) 17 0 f23_0_6 : (Nat → Int32)) := rfl
def mX6_layAhead_L2 (u : kG) : Nat → Nat → (Nat → Int32) → ((Nat → Int32))
  | 0, _, _ => (fun _ => 0)
  | n2 + 1, i2, f2_0_6 =>
    if 12 ≤ (nI i2) then
      mX6_layAhead_L23 u i2 f2_0_6 13 0 f2_0_6
    else
      mX6_layAhead_L2 u n2 (i2 + 1) (upd f2_0_6 ((nI i2)).toNatClampNeg 0)
theorem mX6_layAhead_L2_s {u : kG} {n2 : Nat} {i2 : Nat} {f2_0_6 : (Nat → Int32)} : mX6_layAhead_L2 u (n2 + 1) i2 f2_0_6 = (
    if 12 ≤ (nI i2) then
      mX6_layAhead_L23 u i2 f2_0_6 13 0 f2_0_6
    else
      mX6_layAhead_L2 u n2 (i2 + 1) (upd f2_0_6 ((nI i2)).toNatClampNeg 0) : (Nat → Int32)) := rfl
def mX6_layAhead (u : kG) : (Nat → Int32) :=
  mX6_layAhead_L2 u 13 0 (u 6)
theorem mX6_layAhead_s {u : kG} : mX6_layAhead u = (
  mX6_layAhead_L2 u 13 0 (u 6) : (Nat → Int32)) := rfl
set_option maxHeartbeats 400000 in
set_option maxRecDepth 100000 in
theorem c_X6_layAhead (l : Launch) (E : kE) (b : Nat → Nat) (u : kG) (hj : kInj b 9) (hm : nOK (u 1 2)) (R : (Nat → Int32)) (hE : R = mX6_layAhead u) : Met l yX6_layAhead wsX6_layAhead ({ frames := 3, cells := 0, slots := 0, locals := 69 }) (kPre E [.ref (b 0)] (wModx E b (u 0 0) (u 0 1) (u 0 2) (u 0 3) (u 0 4) (u 0 5) (u 0 6) (u 0 7) (u 1) (u 2) (u 3) (u 4) (u 5) (u 6) (u 7) (u 8))) (kWv E (wModx E b (u 0 0) (u 0 1) (u 0 2) (u 0 3) (u 0 4) (u 0 5) (u 0 6) (u 0 7) (u 1) (u 2) (u 3) (u 4) (u 5) R (u 7) (u 8)) (kA b 9)) 0 0 (kA b 9) := by
  refine Met.ofW (cc := cX6_layAhead) (maxL := 4) (ret := none) (by decide) rfl ?_
  intro p e s m args below meth c s₁ B hml hv
  obtain ⟨rfl, hK, hP⟩ := hv
  have hx := B.exec
  have hb := B.bytes
  have hr := B.returns
  have hts := atoms_spec (ws := wsX6_layAhead) B.pre
  have hown : s.vm.findClass RX6 = some m.cls := findClass_of_methodNamed B.named
  have hlocks := B.notSynchronized
  have hiX6 : ∀ w ∈ wsX60, w ∈ wsX6_layAhead := by decide +kernel
  have hf7 := hts (.fieldLink RX6 7 "SkewEdgesModel" "z" "[I") (by decide +kernel)
  have hf27 := hts (.fieldLink RX6 27 "SkewEdgesModel" "ahead" "[I") (by decide +kernel)
  have hS : va_S (kA b 9) s.heap s.heap [] := va_S.rf
  have hP : va_P E.1 vwCl (wModx E b (u 0 0) (u 0 1) (u 0 2) (u 0 3) (u 0 4) (u 0 5) (u 0 6) (u 0 7) (u 1) (u 2) (u 3) (u 4) (u 5) (u 6) (u 7) (u 8)) s.heap := hP
  have hD := dMod (E := E) hj (u 0 0) (u 0 1) (u 0 2) (u 0 3) (u 0 4) (u 0 5) (u 0 6) (u 0 7) (u 1) (u 2) (u 3) (u 4) (u 5) (u 6) (u 7) (u 8)
  have hl := lv_entry ([.ref (b 0)]) (n := 4) (Nat.le_of_ble_eq_true rfl)
  rw [lg_entry_eq]
  generalize (lg_sl ([.ref (b 0)]) ++ List.replicate (4 - (lg_sl ([.ref (b 0)])).length) Slot.unset).toArray = ls at hl ⊢
  have hl : lv_has ls 4 [(0, .ref (b 0))] := hl
  replace hE := hE.trans mX6_layAhead_s
  refine lv_iconst (v := 0) hx hb dX6_layAhead_0 (by decide) ?_
  refine lv_istore_n (lv' := [(1, .int 0), (0, .ref (b 0))]) hx hb dX6_layAhead_1 rfl hl (by decide) rfl (fun ls hl => ?_)
  have lp2 : ∀ (n2 : Nat) (i2 : Nat) (f2_0_6 : (Nat → Int32)) (H : Heap) (locs : List Loc), (12 < i2 + n2) → (i2 ≤ 12) → va_P E.1 vwCl (wModx E b (u 0 0) (u 0 1) (u 0 2) (u 0 3) (u 0 4) (u 0 5) (u 0 6) (u 0 7) (u 1) (u 2) (u 3) (u 4) (u 5) f2_0_6 (u 7) (u 8)) H → va_S (kA b 9) s.heap H locs → ∀ ls : Array Slot, lv_has ls 4 [(1, .int (nI i2)), (0, .ref (b 0))] → R = mX6_layAhead_L2 u n2 i2 f2_0_6 → W p l e ({ frames := 3, cells := 0, slots := 0, locals := 69 }) s m ([.ref (b 0)] : List Value).toArray below meth c H locs 0 0 (MQ below (kWv E (wModx E b (u 0 0) (u 0 1) (u 0 2) (u 0 3) (u 0 4) (u 0 5) (u 0 6) (u 0 7) (u 1) (u 2) (u 3) (u 4) (u 5) R (u 7) (u 8)) (kA b 9)) ([.ref (b 0)] : List Value).toArray s 0 0 (kA b 9)) (F0 m 2 ls []) := by
    clear hE
    intro n2
    induction n2 with
    | zero =>
      intro i2 f2_0_6 H locs hm2 hi2 hP hS ls hl hE
      exact absurd hm2 (by omega)
    | succ n2 ih2 =>
      intro i2 f2_0_6 H locs hm2 hi2 hP hS ls hl hE
      have hD := dMod (E := E) hj (u 0 0) (u 0 1) (u 0 2) (u 0 3) (u 0 4) (u 0 5) (u 0 6) (u 0 7) (u 1) (u 2) (u 3) (u 4) (u 5) f2_0_6 (u 7) (u 8)
      replace hE := hE.trans mX6_layAhead_L2_s
      refine lv_iload_n hx hb dX6_layAhead_2 rfl (lv_at hl 0 rfl) ?_
      refine lv_bipush (v := 12) hx hb dX6_layAhead_3 (by decide) ?_
      refine lv_icmp_ge (tgt := 21) hx hb dX6_layAhead_5 (by decide) (fun c_1 => ?_) (fun c_1 => ?_)
      · replace hE := hE.trans (if_pos c_1)
        refine lv_iconst (v := 0) hx hb dX6_layAhead_21 (by decide) ?_
        refine lv_istore_n (lv' := [(1, .int 0), (0, .ref (b 0))]) hx hb dX6_layAhead_22 rfl hl (by decide) rfl (fun ls hl => ?_)
        have lp23 : ∀ (n23 : Nat) (i23 : Nat) (f23_0_6 : (Nat → Int32)) (H : Heap) (locs : List Loc), (12 < i23 + n23) → (i23 ≤ 12) → va_P E.1 vwCl (wModx E b (u 0 0) (u 0 1) (u 0 2) (u 0 3) (u 0 4) (u 0 5) (u 0 6) (u 0 7) (u 1) (u 2) (u 3) (u 4) (u 5) f23_0_6 (u 7) (u 8)) H → va_S (kA b 9) s.heap H locs → ∀ ls : Array Slot, lv_has ls 4 [(1, .int (nI i23)), (0, .ref (b 0))] → R = mX6_layAhead_L23 u i2 f2_0_6 n23 i23 f23_0_6 → W p l e ({ frames := 3, cells := 0, slots := 0, locals := 69 }) s m ([.ref (b 0)] : List Value).toArray below meth c H locs 0 0 (MQ below (kWv E (wModx E b (u 0 0) (u 0 1) (u 0 2) (u 0 3) (u 0 4) (u 0 5) (u 0 6) (u 0 7) (u 1) (u 2) (u 3) (u 4) (u 5) R (u 7) (u 8)) (kA b 9)) ([.ref (b 0)] : List Value).toArray s 0 0 (kA b 9)) (F0 m 23 ls []) := by
          clear hE
          intro n23
          induction n23 with
          | zero =>
            intro i23 f23_0_6 H locs hm23 hi23 hP hS ls hl hE
            exact absurd hm23 (by omega)
          | succ n23 ih23 =>
            intro i23 f23_0_6 H locs hm23 hi23 hP hS ls hl hE
            have hD := dMod (E := E) hj (u 0 0) (u 0 1) (u 0 2) (u 0 3) (u 0 4) (u 0 5) (u 0 6) (u 0 7) (u 1) (u 2) (u 3) (u 4) (u 5) f23_0_6 (u 7) (u 8)
            replace hE := hE.trans mX6_layAhead_L23_s
            refine lv_iload_n hx hb dX6_layAhead_23 rfl (lv_at hl 0 rfl) ?_
            refine lv_aload_n hx hb dX6_layAhead_24 rfl (lv_at hl 1 rfl) ?_
            refine va_get (D := E.1) (ci := 5) (v := .ref (b 1)) (C := RX6) (T := TX6) (N := 16) hx hb hts hiX6 hown hK.1 hP 0 rfl rfl 0 (by decide) hf7 (fun _ h9 => h9) rfl dX6_layAhead_25 ?_
            refine lv_iconst (v := 2) hx hb dX6_layAhead_28 (by decide) ?_
            refine va_iald (D := E.1) hx hb hK.1 hP 1 0 rfl rfl (vp_in_nI (n := 2) (by decide) (by decide)) dX6_layAhead_29 ?_
            refine W.eq (g2 := F0 m 30 ls [.int ((u 1) 2), .int (nI i23)]) rfl ?_
            refine lv_icmp_ge (tgt := 145) hx hb dX6_layAhead_30 (by decide) (fun c_2 => ?_) (fun c_2 => ?_)
            · replace hE := hE.trans (if_pos c_2)
              subst R
              exact W.vret hx hb hr (fun t ht hW => ⟨rfl, by rw [ht]; exact hP, hS.F ht⟩) hS.2.2 dX6_layAhead_145
            · replace hE := hE.trans (if_neg c_2)
              have hbc_2 : i23 < 12 := nOK.lt (by assumption) (by omega) c_2
              refine lv_iconst (v := 0) hx hb dX6_layAhead_33 (by decide) ?_
              refine lv_istore_n (lv' := [(2, .int 0), (1, .int (nI i23)), (0, .ref (b 0))]) hx hb dX6_layAhead_34 rfl hl (by decide) rfl (fun ls hl => ?_)
              have lp35 : ∀ (n35 : Nat) (i35 : Nat) (f35_0_6 : (Nat → Int32)) (H : Heap) (locs : List Loc), (16 < i35 + n35) → (i35 ≤ 16) → va_P E.1 vwCl (wModx E b (u 0 0) (u 0 1) (u 0 2) (u 0 3) (u 0 4) (u 0 5) (u 0 6) (u 0 7) (u 1) (u 2) (u 3) (u 4) (u 5) f35_0_6 (u 7) (u 8)) H → va_S (kA b 9) s.heap H locs → ∀ ls : Array Slot, lv_has ls 4 [(2, .int (nI i35)), (1, .int (nI i23)), (0, .ref (b 0))] → R = mX6_layAhead_L35 u i2 f2_0_6 i23 f23_0_6 (mX6_layAhead_K35 u i2 f2_0_6 i23 f23_0_6 (mX6_layAhead_L23 u i2 f2_0_6 n23)) n35 i35 f35_0_6 → W p l e ({ frames := 3, cells := 0, slots := 0, locals := 69 }) s m ([.ref (b 0)] : List Value).toArray below meth c H locs 0 0 (MQ below (kWv E (wModx E b (u 0 0) (u 0 1) (u 0 2) (u 0 3) (u 0 4) (u 0 5) (u 0 6) (u 0 7) (u 1) (u 2) (u 3) (u 4) (u 5) R (u 7) (u 8)) (kA b 9)) ([.ref (b 0)] : List Value).toArray s 0 0 (kA b 9)) (F0 m 35 ls []) := by
                clear hE
                intro n35
                induction n35 with
                | zero =>
                  intro i35 f35_0_6 H locs hm35 hi35 hP hS ls hl hE
                  exact absurd hm35 (by omega)
                | succ n35 ih35 =>
                  intro i35 f35_0_6 H locs hm35 hi35 hP hS ls hl hE
                  have hD := dMod (E := E) hj (u 0 0) (u 0 1) (u 0 2) (u 0 3) (u 0 4) (u 0 5) (u 0 6) (u 0 7) (u 1) (u 2) (u 3) (u 4) (u 5) f35_0_6 (u 7) (u 8)
                  replace hE := hE.trans mX6_layAhead_L35_s
                  refine lv_iload_n hx hb dX6_layAhead_35 rfl (lv_at hl 0 rfl) ?_
                  refine lv_bipush (v := 16) hx hb dX6_layAhead_36 (by decide) ?_
                  refine lv_icmp_ge (tgt := 139) hx hb dX6_layAhead_38 (by decide) (fun c_3 => ?_) (fun c_3 => ?_)
                  · replace hE := hE.trans (if_pos c_3)
                    replace hE := hE.trans mX6_layAhead_K35_s
                    refine lv_iinc (v := (nI (i23 + 1))) (lv' := [(1, .int (nI (i23 + 1))), (2, .int (nI i35)), (0, .ref (b 0))]) hx hb dX6_layAhead_139 hl (k := 1) rfl (nI_1 i23) (by decide) rfl (fun ls hl => ?_)
                    refine lv_goto (tgt := 23) hx hb dX6_layAhead_142 (by decide) ?_
                    exact ih23 (i23 + 1) f35_0_6 _ _ (by omega) (by omega) hP hS ls (lv_sub hl [0, 2] rfl) hE
                  · replace hE := hE.trans (if_neg c_3)
                    have hbc_3 : i35 < 16 := nI_nle_lt ⟨by omega, by omega⟩ c_3
                    refine lv_aload_n hx hb dX6_layAhead_41 rfl (lv_at hl 2 rfl) ?_
                    refine lv_iload_n hx hb dX6_layAhead_42 rfl (lv_at hl 1 rfl) ?_
                    refine lv_iconst (v := 1) hx hb dX6_layAhead_43 (by decide) ?_
                    refine kCallRi (va_runV (As := [.int (nI i23), .int 1]) (rest := []) ⟨hx, hb, hml, hown, hts⟩ (c_X6_isIn l E b (rset u 6 f35_0_6) (nI i23) 1 (tOK.nI (by omega)) _ rfl) (cwV 2 hts gX6_layAhead_X6_isIn rfl rfl rfl (by decide +kernel) ⟨Nat.le_of_ble_eq_true rfl, Nat.le_of_ble_eq_true rfl⟩) (kPreV hK hP hP (q0 := 0) rfl rfl) rfl rfl hl.1 rfl (lv_room (Nat.le_of_ble_eq_true rfl)) dX6_layAhead_44 ⟨Nat.zero_le _, Nat.zero_le _⟩) ?_
                    refine lv_if_eq (tgt := 139) hx hb dX6_layAhead_47 (by decide) (fun c_4 => ?_) (fun c_4 => ?_)
                    · replace hE := hE.trans (if_pos c_4)
                      replace hE := hE.trans mX6_layAhead_K35_s
                      refine lv_iinc (v := (nI (i23 + 1))) (lv' := [(1, .int (nI (i23 + 1))), (2, .int (nI i35)), (0, .ref (b 0))]) hx hb dX6_layAhead_139 hl (k := 1) rfl (nI_1 i23) (by decide) rfl (fun ls hl => ?_)
                      refine lv_goto (tgt := 23) hx hb dX6_layAhead_142 (by decide) ?_
                      exact ih23 (i23 + 1) f35_0_6 _ _ (by omega) (by omega) hP hS ls (lv_sub hl [0, 2] rfl) hE
                    · replace hE := hE.trans (if_neg c_4)
                      refine lv_aload_n hx hb dX6_layAhead_50 rfl (lv_at hl 2 rfl) ?_
                      refine lv_iload_n hx hb dX6_layAhead_51 rfl (lv_at hl 1 rfl) ?_
                      refine lv_iload_n hx hb dX6_layAhead_52 rfl (lv_at hl 0 rfl) ?_
                      refine kCallRi (va_runV (As := [.int (nI i23), .int (nI i35)]) (rest := []) ⟨hx, hb, hml, hown, hts⟩ (c_X6_wrote l E b (rset u 6 f35_0_6) (nI i23) (nI i35) (tOK.nI (by omega)) _ rfl) (cwV 2 hts gX6_layAhead_X6_wrote rfl rfl rfl (by decide +kernel) ⟨Nat.le_of_ble_eq_true rfl, Nat.le_of_ble_eq_true rfl⟩) (kPreV hK hP hP (q0 := 0) rfl rfl) rfl rfl hl.1 rfl (lv_room (Nat.le_of_ble_eq_true rfl)) dX6_layAhead_53 ⟨Nat.zero_le _, Nat.zero_le _⟩) ?_
                      refine lv_if_eq (tgt := 75) hx hb dX6_layAhead_56 (by decide) (fun c_5 => ?_) (fun c_5 => ?_)
                      · replace hE := hE.trans (if_pos c_5)
                        refine lv_aload_n hx hb dX6_layAhead_75 rfl (lv_at hl 2 rfl) ?_
                        refine lv_iload_n hx hb dX6_layAhead_76 rfl (lv_at hl 1 rfl) ?_
                        refine lv_iconst (v := 3) hx hb dX6_layAhead_77 (by decide) ?_
                        refine kCallRi (va_runV (As := [.int (nI i23), .int 3]) (rest := []) ⟨hx, hb, hml, hown, hts⟩ (c_X6_its l E b (rset u 6 f35_0_6) (nI i23) 3 (tOK.nI (by omega)) ⟨3, by decide, rfl⟩ _ rfl) (cwV 2 hts gX6_layAhead_X6_its rfl rfl rfl (by decide +kernel) ⟨Nat.le_of_ble_eq_true rfl, Nat.le_of_ble_eq_true rfl⟩) (kPreV hK hP hP (q0 := 0) rfl rfl) rfl rfl hl.1 rfl (lv_room (Nat.le_of_ble_eq_true rfl)) dX6_layAhead_78 ⟨Nat.zero_le _, Nat.zero_le _⟩) ?_
                        refine lv_iload_n hx hb dX6_layAhead_81 rfl (lv_at hl 0 rfl) ?_
                        refine lv_ishr hx hb dX6_layAhead_82 ?_
                        refine lv_iconst (v := 1) hx hb dX6_layAhead_83 (by decide) ?_
                        refine lv_iand hx hb dX6_layAhead_84 ?_
                        refine lv_iconst (v := 1) hx hb dX6_layAhead_85 (by decide) ?_
                        refine lv_icmp_ne (tgt := 133) hx hb dX6_layAhead_86 (by decide) (fun c_6 => ?_) (fun c_6 => ?_)
                        · replace hE := hE.trans (if_neg c_6)
                          refine lv_iinc (v := (nI (i35 + 1))) (lv' := [(2, .int (nI (i35 + 1))), (1, .int (nI i23)), (0, .ref (b 0))]) hx hb dX6_layAhead_133 hl (k := 0) rfl (nI_1 i35) (by decide) rfl (fun ls hl => ?_)
                          refine lv_goto (tgt := 35) hx hb dX6_layAhead_136 (by decide) ?_
                          exact ih35 (i35 + 1) f35_0_6 _ _ (by omega) (by omega) hP hS ls (lv_sub hl [0, 1, 2] rfl) hE
                        · replace hE := hE.trans (if_pos c_6)
                          refine lv_aload_n hx hb dX6_layAhead_89 rfl (lv_at hl 2 rfl) ?_
                          refine lv_iload_n hx hb dX6_layAhead_90 rfl (lv_at hl 0 rfl) ?_
                          refine lv_aload_n hx hb dX6_layAhead_91 rfl (lv_at hl 2 rfl) ?_
                          refine lv_iload_n hx hb dX6_layAhead_92 rfl (lv_at hl 1 rfl) ?_
                          refine lv_iconst (v := 1) hx hb dX6_layAhead_93 (by decide) ?_
                          refine kCallRi (va_runV (As := [.int (nI i23), .int 1]) (rest := [.int (nI i35), .ref (b 0)]) ⟨hx, hb, hml, hown, hts⟩ (c_X6_its l E b (rset u 6 f35_0_6) (nI i23) 1 (tOK.nI (by omega)) ⟨1, by decide, rfl⟩ _ rfl) (cwV 2 hts gX6_layAhead_X6_its rfl rfl rfl (by decide +kernel) ⟨Nat.le_of_ble_eq_true rfl, Nat.le_of_ble_eq_true rfl⟩) (kPreV hK hP hP (q0 := 0) rfl rfl) rfl rfl hl.1 rfl (lv_room (Nat.le_of_ble_eq_true rfl)) dX6_layAhead_94 ⟨Nat.zero_le _, Nat.zero_le _⟩) ?_
                          refine kCallRi (va_runV (As := [.int (nI i35), .int (mX6_its (rset u 6 f35_0_6) (nI i23) 1)]) (rest := []) ⟨hx, hb, hml, hown, hts⟩ (c_X6_writerAhead l E b (rset u 6 f35_0_6) (nI i35) (mX6_its (rset u 6 f35_0_6) (nI i23) 1) (by assumption) _ rfl) (cwV 2 hts gX6_layAhead_X6_writerAhead rfl rfl rfl (by decide +kernel) ⟨Nat.le_of_ble_eq_true rfl, Nat.le_of_ble_eq_true rfl⟩) (kPreV hK hP hP (q0 := 0) rfl rfl) rfl rfl hl.1 rfl (lv_room (Nat.le_of_ble_eq_true rfl)) dX6_layAhead_97 ⟨Nat.zero_le _, Nat.zero_le _⟩) ?_
                          refine lv_istore_n (lv' := [(3, .int (mX6_writerAhead (rset u 6 f35_0_6) (nI i35) (mX6_its (rset u 6 f35_0_6) (nI i23) 1))), (2, .int (nI i35)), (1, .int (nI i23)), (0, .ref (b 0))]) hx hb dX6_layAhead_100 rfl hl (by decide) rfl (fun ls hl => ?_)
                          refine lv_aload_n hx hb dX6_layAhead_101 rfl (lv_at hl 3 rfl) ?_
                          refine lv_iload_n hx hb dX6_layAhead_102 rfl (lv_at hl 0 rfl) ?_
                          refine lv_iload_n hx hb dX6_layAhead_103 rfl (lv_at hl 2 rfl) ?_
                          refine kCallWv (va_runV (As := [.int (mX6_writerAhead (rset u 6 f35_0_6) (nI i35) (mX6_its (rset u 6 f35_0_6) (nI i23) 1)), .int (nI i23)]) (rest := []) ⟨hx, hb, hml, hown, hts⟩ (c_X6_depend l E b (rset u 6 f35_0_6) hj (mX6_writerAhead (rset u 6 f35_0_6) (nI i35) (mX6_its (rset u 6 f35_0_6) (nI i23) 1)) (nI i23) (writerAhead_t (by assumption) _ _) (Or.inr (tOK.nI (by omega))) _ rfl) (cwV 2 hts gX6_layAhead_X6_depend rfl rfl rfl (by decide +kernel) ⟨Nat.le_of_ble_eq_true rfl, Nat.le_of_ble_eq_true rfl⟩) (kPreV hK hP hP (q0 := 0) rfl rfl) rfl rfl hl.1 rfl (lv_room (Nat.le_of_ble_eq_true rfl)) dX6_layAhead_104 ⟨Nat.zero_le _, Nat.zero_le _⟩) hS (fun _ h => h) (fun H locs hP _ _ hS => ?_)
                          refine kGen (mX6_depend (rset u 6 f35_0_6) (mX6_writerAhead (rset u 6 f35_0_6) (nI i35) (mX6_its (rset u 6 f35_0_6) (nI i23) 1)) (nI i23)) (fun g_7 hg_7 => ?_)
                          rw [hg_7] at hE hP
                          try dsimp only at hE
                          have hP : va_P E.1 vwCl (wModx E b (u 0 0) (u 0 1) (u 0 2) (u 0 3) (u 0 4) (u 0 5) (u 0 6) (u 0 7) (u 1) (u 2) (u 3) (u 4) (u 5) g_7 (u 7) (u 8)) H := hP
                          have hD := dMod (E := E) hj (u 0 0) (u 0 1) (u 0 2) (u 0 3) (u 0 4) (u 0 5) (u 0 6) (u 0 7) (u 1) (u 2) (u 3) (u 4) (u 5) g_7 (u 7) (u 8)
                          refine lv_aload_n hx hb dX6_layAhead_107 rfl (lv_at hl 3 rfl) ?_
                          refine lv_iload_n hx hb dX6_layAhead_108 rfl (lv_at hl 2 rfl) ?_
                          refine lv_aload_n hx hb dX6_layAhead_109 rfl (lv_at hl 3 rfl) ?_
                          refine lv_iload_n hx hb dX6_layAhead_110 rfl (lv_at hl 1 rfl) ?_
                          refine lv_iload_n hx hb dX6_layAhead_111 rfl (lv_at hl 0 rfl) ?_
                          refine lv_bipush (v := (-6)) hx hb dX6_layAhead_112 (by decide) ?_
                          refine lv_icmp_ne (tgt := 121) hx hb dX6_layAhead_114 (by decide) (fun c_8 => ?_) (fun c_8 => ?_)
                          · replace hE := hE.trans (if_neg c_8)
                            refine lv_aload_n hx hb dX6_layAhead_121 rfl (lv_at hl 3 rfl) ?_
                            refine lv_iload_n hx hb dX6_layAhead_122 rfl (lv_at hl 0 rfl) ?_
                            refine lv_iconst (v := 2) hx hb dX6_layAhead_123 (by decide) ?_
                            refine kCallRi (va_runV (As := [.int (mX6_writerAhead (rset u 6 f35_0_6) (nI i35) (mX6_its (rset u 6 f35_0_6) (nI i23) 1)), .int 2]) (rest := [.int (nI i35), .ref (b 0), .int (nI i23), .ref (b 0)]) ⟨hx, hb, hml, hown, hts⟩ (c_X6_its l E b (rset u 6 g_7) (mX6_writerAhead (rset u 6 f35_0_6) (nI i35) (mX6_its (rset u 6 f35_0_6) (nI i23) 1)) 2 (kor (writerAhead_t hm _ _) (by assumption)) ⟨2, by decide, rfl⟩ _ rfl) (cwV 2 hts gX6_layAhead_X6_its rfl rfl rfl (by decide +kernel) ⟨Nat.le_of_ble_eq_true rfl, Nat.le_of_ble_eq_true rfl⟩) (kPreV hK hP hP (q0 := 0) rfl rfl) rfl rfl hl.1 rfl (lv_room (Nat.le_of_ble_eq_true rfl)) dX6_layAhead_124 ⟨Nat.zero_le _, Nat.zero_le _⟩) ?_
                            refine kCallRi (va_runV (As := [.int (nI i35), .int (mX6_its (rset u 6 g_7) (mX6_writerAhead (rset u 6 f35_0_6) (nI i35) (mX6_its (rset u 6 f35_0_6) (nI i23) 1)) 2)]) (rest := [.int (nI i23), .ref (b 0)]) ⟨hx, hb, hml, hown, hts⟩ (c_X6_writerBehind l E b (rset u 6 g_7) (nI i35) (mX6_its (rset u 6 g_7) (mX6_writerAhead (rset u 6 f35_0_6) (nI i35) (mX6_its (rset u 6 f35_0_6) (nI i23) 1)) 2) (by assumption) _ rfl) (cwV 2 hts gX6_layAhead_X6_writerBehind rfl rfl rfl (by decide +kernel) ⟨Nat.le_of_ble_eq_true rfl, Nat.le_of_ble_eq_true rfl⟩) (kPreV hK hP hP (q0 := 0) rfl rfl) rfl rfl hl.1 rfl (lv_room (Nat.le_of_ble_eq_true rfl)) dX6_layAhead_127 ⟨Nat.zero_le _, Nat.zero_le _⟩) ?_
                            refine kCallWv (va_runV (As := [.int (nI i23), .int (mX6_writerBehind (rset u 6 g_7) (nI i35) (mX6_its (rset u 6 g_7) (mX6_writerAhead (rset u 6 f35_0_6) (nI i35) (mX6_its (rset u 6 f35_0_6) (nI i23) 1)) 2))]) (rest := []) ⟨hx, hb, hml, hown, hts⟩ (c_X6_depend l E b (rset u 6 g_7) hj (nI i23) (mX6_writerBehind (rset u 6 g_7) (nI i35) (mX6_its (rset u 6 g_7) (mX6_writerAhead (rset u 6 f35_0_6) (nI i35) (mX6_its (rset u 6 f35_0_6) (nI i23) 1)) 2)) (Or.inr (tOK.nI (by omega))) (writerBehind_t (by assumption) _ _) _ rfl) (cwV 2 hts gX6_layAhead_X6_depend rfl rfl rfl (by decide +kernel) ⟨Nat.le_of_ble_eq_true rfl, Nat.le_of_ble_eq_true rfl⟩) (kPreV hK hP hP (q0 := 0) rfl rfl) rfl rfl hl.1 rfl (lv_room (Nat.le_of_ble_eq_true rfl)) dX6_layAhead_130 ⟨Nat.zero_le _, Nat.zero_le _⟩) hS (fun _ h => h) (fun H locs hP _ _ hS => ?_)
                            refine kGen (mX6_depend (rset u 6 g_7) (nI i23) (mX6_writerBehind (rset u 6 g_7) (nI i35) (mX6_its (rset u 6 g_7) (mX6_writerAhead (rset u 6 f35_0_6) (nI i35) (mX6_its (rset u 6 f35_0_6) (nI i23) 1)) 2))) (fun g_9 hg_9 => ?_)
                            rw [hg_9] at hE hP
                            try dsimp only at hE
                            have hP : va_P E.1 vwCl (wModx E b (u 0 0) (u 0 1) (u 0 2) (u 0 3) (u 0 4) (u 0 5) (u 0 6) (u 0 7) (u 1) (u 2) (u 3) (u 4) (u 5) g_9 (u 7) (u 8)) H := hP
                            have hD := dMod (E := E) hj (u 0 0) (u 0 1) (u 0 2) (u 0 3) (u 0 4) (u 0 5) (u 0 6) (u 0 7) (u 1) (u 2) (u 3) (u 4) (u 5) g_9 (u 7) (u 8)
                            refine lv_iinc (v := (nI (i35 + 1))) (lv' := [(2, .int (nI (i35 + 1))), (3, .int (mX6_writerAhead (rset u 6 f35_0_6) (nI i35) (mX6_its (rset u 6 f35_0_6) (nI i23) 1))), (1, .int (nI i23)), (0, .ref (b 0))]) hx hb dX6_layAhead_133 hl (k := 1) rfl (nI_1 i35) (by decide) rfl (fun ls hl => ?_)
                            refine lv_goto (tgt := 35) hx hb dX6_layAhead_136 (by decide) ?_
                            exact ih35 (i35 + 1) g_9 _ _ (by omega) (by omega) hP hS ls (lv_sub hl [0, 2, 3] rfl) hE
                          · replace hE := hE.trans (if_pos c_8)
                            refine lv_iconst (v := 0) hx hb dX6_layAhead_117 (by decide) ?_
                            refine lv_goto (tgt := 127) hx hb dX6_layAhead_118 (by decide) ?_
                            refine kCallRi (va_runV (As := [.int (nI i35), .int 0]) (rest := [.int (nI i23), .ref (b 0)]) ⟨hx, hb, hml, hown, hts⟩ (c_X6_writerBehind l E b (rset u 6 g_7) (nI i35) 0 (by assumption) _ rfl) (cwV 2 hts gX6_layAhead_X6_writerBehind rfl rfl rfl (by decide +kernel) ⟨Nat.le_of_ble_eq_true rfl, Nat.le_of_ble_eq_true rfl⟩) (kPreV hK hP hP (q0 := 0) rfl rfl) rfl rfl hl.1 rfl (lv_room (Nat.le_of_ble_eq_true rfl)) dX6_layAhead_127 ⟨Nat.zero_le _, Nat.zero_le _⟩) ?_
                            refine kCallWv (va_runV (As := [.int (nI i23), .int (mX6_writerBehind (rset u 6 g_7) (nI i35) 0)]) (rest := []) ⟨hx, hb, hml, hown, hts⟩ (c_X6_depend l E b (rset u 6 g_7) hj (nI i23) (mX6_writerBehind (rset u 6 g_7) (nI i35) 0) (Or.inr (tOK.nI (by omega))) (writerBehind_t (by assumption) _ _) _ rfl) (cwV 2 hts gX6_layAhead_X6_depend rfl rfl rfl (by decide +kernel) ⟨Nat.le_of_ble_eq_true rfl, Nat.le_of_ble_eq_true rfl⟩) (kPreV hK hP hP (q0 := 0) rfl rfl) rfl rfl hl.1 rfl (lv_room (Nat.le_of_ble_eq_true rfl)) dX6_layAhead_130 ⟨Nat.zero_le _, Nat.zero_le _⟩) hS (fun _ h => h) (fun H locs hP _ _ hS => ?_)
                            refine kGen (mX6_depend (rset u 6 g_7) (nI i23) (mX6_writerBehind (rset u 6 g_7) (nI i35) 0)) (fun g_10 hg_10 => ?_)
                            rw [hg_10] at hE hP
                            try dsimp only at hE
                            have hP : va_P E.1 vwCl (wModx E b (u 0 0) (u 0 1) (u 0 2) (u 0 3) (u 0 4) (u 0 5) (u 0 6) (u 0 7) (u 1) (u 2) (u 3) (u 4) (u 5) g_10 (u 7) (u 8)) H := hP
                            have hD := dMod (E := E) hj (u 0 0) (u 0 1) (u 0 2) (u 0 3) (u 0 4) (u 0 5) (u 0 6) (u 0 7) (u 1) (u 2) (u 3) (u 4) (u 5) g_10 (u 7) (u 8)
                            refine lv_iinc (v := (nI (i35 + 1))) (lv' := [(2, .int (nI (i35 + 1))), (3, .int (mX6_writerAhead (rset u 6 f35_0_6) (nI i35) (mX6_its (rset u 6 f35_0_6) (nI i23) 1))), (1, .int (nI i23)), (0, .ref (b 0))]) hx hb dX6_layAhead_133 hl (k := 1) rfl (nI_1 i35) (by decide) rfl (fun ls hl => ?_)
                            refine lv_goto (tgt := 35) hx hb dX6_layAhead_136 (by decide) ?_
                            exact ih35 (i35 + 1) g_10 _ _ (by omega) (by omega) hP hS ls (lv_sub hl [0, 2, 3] rfl) hE
                      · replace hE := hE.trans (if_neg c_5)
                        refine lv_aload_n hx hb dX6_layAhead_59 rfl (lv_at hl 2 rfl) ?_
                        refine lv_iload_n hx hb dX6_layAhead_60 rfl (lv_at hl 1 rfl) ?_
                        refine lv_aload_n hx hb dX6_layAhead_61 rfl (lv_at hl 2 rfl) ?_
                        refine lv_iload_n hx hb dX6_layAhead_62 rfl (lv_at hl 0 rfl) ?_
                        refine lv_aload_n hx hb dX6_layAhead_63 rfl (lv_at hl 2 rfl) ?_
                        refine lv_iload_n hx hb dX6_layAhead_64 rfl (lv_at hl 1 rfl) ?_
                        refine lv_iconst (v := 2) hx hb dX6_layAhead_65 (by decide) ?_
                        refine kCallRi (va_runV (As := [.int (nI i23), .int 2]) (rest := [.int (nI i35), .ref (b 0), .int (nI i23), .ref (b 0)]) ⟨hx, hb, hml, hown, hts⟩ (c_X6_its l E b (rset u 6 f35_0_6) (nI i23) 2 (tOK.nI (by omega)) ⟨2, by decide, rfl⟩ _ rfl) (cwV 2 hts gX6_layAhead_X6_its rfl rfl rfl (by decide +kernel) ⟨Nat.le_of_ble_eq_true rfl, Nat.le_of_ble_eq_true rfl⟩) (kPreV hK hP hP (q0 := 0) rfl rfl) rfl rfl hl.1 rfl (lv_room (Nat.le_of_ble_eq_true rfl)) dX6_layAhead_66 ⟨Nat.zero_le _, Nat.zero_le _⟩) ?_
                        refine kCallRi (va_runV (As := [.int (nI i35), .int (mX6_its (rset u 6 f35_0_6) (nI i23) 2)]) (rest := [.int (nI i23), .ref (b 0)]) ⟨hx, hb, hml, hown, hts⟩ (c_X6_writerBehind l E b (rset u 6 f35_0_6) (nI i35) (mX6_its (rset u 6 f35_0_6) (nI i23) 2) (by assumption) _ rfl) (cwV 2 hts gX6_layAhead_X6_writerBehind rfl rfl rfl (by decide +kernel) ⟨Nat.le_of_ble_eq_true rfl, Nat.le_of_ble_eq_true rfl⟩) (kPreV hK hP hP (q0 := 0) rfl rfl) rfl rfl hl.1 rfl (lv_room (Nat.le_of_ble_eq_true rfl)) dX6_layAhead_69 ⟨Nat.zero_le _, Nat.zero_le _⟩) ?_
                        refine kCallWv (va_runV (As := [.int (nI i23), .int (mX6_writerBehind (rset u 6 f35_0_6) (nI i35) (mX6_its (rset u 6 f35_0_6) (nI i23) 2))]) (rest := []) ⟨hx, hb, hml, hown, hts⟩ (c_X6_depend l E b (rset u 6 f35_0_6) hj (nI i23) (mX6_writerBehind (rset u 6 f35_0_6) (nI i35) (mX6_its (rset u 6 f35_0_6) (nI i23) 2)) (Or.inr (tOK.nI (by omega))) (writerBehind_t (by assumption) _ _) _ rfl) (cwV 2 hts gX6_layAhead_X6_depend rfl rfl rfl (by decide +kernel) ⟨Nat.le_of_ble_eq_true rfl, Nat.le_of_ble_eq_true rfl⟩) (kPreV hK hP hP (q0 := 0) rfl rfl) rfl rfl hl.1 rfl (lv_room (Nat.le_of_ble_eq_true rfl)) dX6_layAhead_72 ⟨Nat.zero_le _, Nat.zero_le _⟩) hS (fun _ h => h) (fun H locs hP _ _ hS => ?_)
                        refine kGen (mX6_depend (rset u 6 f35_0_6) (nI i23) (mX6_writerBehind (rset u 6 f35_0_6) (nI i35) (mX6_its (rset u 6 f35_0_6) (nI i23) 2))) (fun g_11 hg_11 => ?_)
                        rw [hg_11] at hE hP
                        try dsimp only at hE
                        have hP : va_P E.1 vwCl (wModx E b (u 0 0) (u 0 1) (u 0 2) (u 0 3) (u 0 4) (u 0 5) (u 0 6) (u 0 7) (u 1) (u 2) (u 3) (u 4) (u 5) g_11 (u 7) (u 8)) H := hP
                        have hD := dMod (E := E) hj (u 0 0) (u 0 1) (u 0 2) (u 0 3) (u 0 4) (u 0 5) (u 0 6) (u 0 7) (u 1) (u 2) (u 3) (u 4) (u 5) g_11 (u 7) (u 8)
                        refine lv_aload_n hx hb dX6_layAhead_75 rfl (lv_at hl 2 rfl) ?_
                        refine lv_iload_n hx hb dX6_layAhead_76 rfl (lv_at hl 1 rfl) ?_
                        refine lv_iconst (v := 3) hx hb dX6_layAhead_77 (by decide) ?_
                        refine kCallRi (va_runV (As := [.int (nI i23), .int 3]) (rest := []) ⟨hx, hb, hml, hown, hts⟩ (c_X6_its l E b (rset u 6 g_11) (nI i23) 3 (tOK.nI (by omega)) ⟨3, by decide, rfl⟩ _ rfl) (cwV 2 hts gX6_layAhead_X6_its rfl rfl rfl (by decide +kernel) ⟨Nat.le_of_ble_eq_true rfl, Nat.le_of_ble_eq_true rfl⟩) (kPreV hK hP hP (q0 := 0) rfl rfl) rfl rfl hl.1 rfl (lv_room (Nat.le_of_ble_eq_true rfl)) dX6_layAhead_78 ⟨Nat.zero_le _, Nat.zero_le _⟩) ?_
                        refine lv_iload_n hx hb dX6_layAhead_81 rfl (lv_at hl 0 rfl) ?_
                        refine lv_ishr hx hb dX6_layAhead_82 ?_
                        refine lv_iconst (v := 1) hx hb dX6_layAhead_83 (by decide) ?_
                        refine lv_iand hx hb dX6_layAhead_84 ?_
                        refine lv_iconst (v := 1) hx hb dX6_layAhead_85 (by decide) ?_
                        refine lv_icmp_ne (tgt := 133) hx hb dX6_layAhead_86 (by decide) (fun c_12 => ?_) (fun c_12 => ?_)
                        · replace hE := hE.trans (if_neg c_12)
                          refine lv_iinc (v := (nI (i35 + 1))) (lv' := [(2, .int (nI (i35 + 1))), (1, .int (nI i23)), (0, .ref (b 0))]) hx hb dX6_layAhead_133 hl (k := 0) rfl (nI_1 i35) (by decide) rfl (fun ls hl => ?_)
                          refine lv_goto (tgt := 35) hx hb dX6_layAhead_136 (by decide) ?_
                          exact ih35 (i35 + 1) g_11 _ _ (by omega) (by omega) hP hS ls (lv_sub hl [0, 1, 2] rfl) hE
                        · replace hE := hE.trans (if_pos c_12)
                          refine lv_aload_n hx hb dX6_layAhead_89 rfl (lv_at hl 2 rfl) ?_
                          refine lv_iload_n hx hb dX6_layAhead_90 rfl (lv_at hl 0 rfl) ?_
                          refine lv_aload_n hx hb dX6_layAhead_91 rfl (lv_at hl 2 rfl) ?_
                          refine lv_iload_n hx hb dX6_layAhead_92 rfl (lv_at hl 1 rfl) ?_
                          refine lv_iconst (v := 1) hx hb dX6_layAhead_93 (by decide) ?_
                          refine kCallRi (va_runV (As := [.int (nI i23), .int 1]) (rest := [.int (nI i35), .ref (b 0)]) ⟨hx, hb, hml, hown, hts⟩ (c_X6_its l E b (rset u 6 g_11) (nI i23) 1 (tOK.nI (by omega)) ⟨1, by decide, rfl⟩ _ rfl) (cwV 2 hts gX6_layAhead_X6_its rfl rfl rfl (by decide +kernel) ⟨Nat.le_of_ble_eq_true rfl, Nat.le_of_ble_eq_true rfl⟩) (kPreV hK hP hP (q0 := 0) rfl rfl) rfl rfl hl.1 rfl (lv_room (Nat.le_of_ble_eq_true rfl)) dX6_layAhead_94 ⟨Nat.zero_le _, Nat.zero_le _⟩) ?_
                          refine kCallRi (va_runV (As := [.int (nI i35), .int (mX6_its (rset u 6 g_11) (nI i23) 1)]) (rest := []) ⟨hx, hb, hml, hown, hts⟩ (c_X6_writerAhead l E b (rset u 6 g_11) (nI i35) (mX6_its (rset u 6 g_11) (nI i23) 1) (by assumption) _ rfl) (cwV 2 hts gX6_layAhead_X6_writerAhead rfl rfl rfl (by decide +kernel) ⟨Nat.le_of_ble_eq_true rfl, Nat.le_of_ble_eq_true rfl⟩) (kPreV hK hP hP (q0 := 0) rfl rfl) rfl rfl hl.1 rfl (lv_room (Nat.le_of_ble_eq_true rfl)) dX6_layAhead_97 ⟨Nat.zero_le _, Nat.zero_le _⟩) ?_
                          refine lv_istore_n (lv' := [(3, .int (mX6_writerAhead (rset u 6 g_11) (nI i35) (mX6_its (rset u 6 g_11) (nI i23) 1))), (2, .int (nI i35)), (1, .int (nI i23)), (0, .ref (b 0))]) hx hb dX6_layAhead_100 rfl hl (by decide) rfl (fun ls hl => ?_)
                          refine lv_aload_n hx hb dX6_layAhead_101 rfl (lv_at hl 3 rfl) ?_
                          refine lv_iload_n hx hb dX6_layAhead_102 rfl (lv_at hl 0 rfl) ?_
                          refine lv_iload_n hx hb dX6_layAhead_103 rfl (lv_at hl 2 rfl) ?_
                          refine kCallWv (va_runV (As := [.int (mX6_writerAhead (rset u 6 g_11) (nI i35) (mX6_its (rset u 6 g_11) (nI i23) 1)), .int (nI i23)]) (rest := []) ⟨hx, hb, hml, hown, hts⟩ (c_X6_depend l E b (rset u 6 g_11) hj (mX6_writerAhead (rset u 6 g_11) (nI i35) (mX6_its (rset u 6 g_11) (nI i23) 1)) (nI i23) (writerAhead_t (by assumption) _ _) (Or.inr (tOK.nI (by omega))) _ rfl) (cwV 2 hts gX6_layAhead_X6_depend rfl rfl rfl (by decide +kernel) ⟨Nat.le_of_ble_eq_true rfl, Nat.le_of_ble_eq_true rfl⟩) (kPreV hK hP hP (q0 := 0) rfl rfl) rfl rfl hl.1 rfl (lv_room (Nat.le_of_ble_eq_true rfl)) dX6_layAhead_104 ⟨Nat.zero_le _, Nat.zero_le _⟩) hS (fun _ h => h) (fun H locs hP _ _ hS => ?_)
                          refine kGen (mX6_depend (rset u 6 g_11) (mX6_writerAhead (rset u 6 g_11) (nI i35) (mX6_its (rset u 6 g_11) (nI i23) 1)) (nI i23)) (fun g_13 hg_13 => ?_)
                          rw [hg_13] at hE hP
                          try dsimp only at hE
                          have hP : va_P E.1 vwCl (wModx E b (u 0 0) (u 0 1) (u 0 2) (u 0 3) (u 0 4) (u 0 5) (u 0 6) (u 0 7) (u 1) (u 2) (u 3) (u 4) (u 5) g_13 (u 7) (u 8)) H := hP
                          have hD := dMod (E := E) hj (u 0 0) (u 0 1) (u 0 2) (u 0 3) (u 0 4) (u 0 5) (u 0 6) (u 0 7) (u 1) (u 2) (u 3) (u 4) (u 5) g_13 (u 7) (u 8)
                          refine lv_aload_n hx hb dX6_layAhead_107 rfl (lv_at hl 3 rfl) ?_
                          refine lv_iload_n hx hb dX6_layAhead_108 rfl (lv_at hl 2 rfl) ?_
                          refine lv_aload_n hx hb dX6_layAhead_109 rfl (lv_at hl 3 rfl) ?_
                          refine lv_iload_n hx hb dX6_layAhead_110 rfl (lv_at hl 1 rfl) ?_
                          refine lv_iload_n hx hb dX6_layAhead_111 rfl (lv_at hl 0 rfl) ?_
                          refine lv_bipush (v := (-6)) hx hb dX6_layAhead_112 (by decide) ?_
                          refine lv_icmp_ne (tgt := 121) hx hb dX6_layAhead_114 (by decide) (fun c_14 => ?_) (fun c_14 => ?_)
                          · replace hE := hE.trans (if_neg c_14)
                            refine lv_aload_n hx hb dX6_layAhead_121 rfl (lv_at hl 3 rfl) ?_
                            refine lv_iload_n hx hb dX6_layAhead_122 rfl (lv_at hl 0 rfl) ?_
                            refine lv_iconst (v := 2) hx hb dX6_layAhead_123 (by decide) ?_
                            refine kCallRi (va_runV (As := [.int (mX6_writerAhead (rset u 6 g_11) (nI i35) (mX6_its (rset u 6 g_11) (nI i23) 1)), .int 2]) (rest := [.int (nI i35), .ref (b 0), .int (nI i23), .ref (b 0)]) ⟨hx, hb, hml, hown, hts⟩ (c_X6_its l E b (rset u 6 g_13) (mX6_writerAhead (rset u 6 g_11) (nI i35) (mX6_its (rset u 6 g_11) (nI i23) 1)) 2 (kor (writerAhead_t hm _ _) (by assumption)) ⟨2, by decide, rfl⟩ _ rfl) (cwV 2 hts gX6_layAhead_X6_its rfl rfl rfl (by decide +kernel) ⟨Nat.le_of_ble_eq_true rfl, Nat.le_of_ble_eq_true rfl⟩) (kPreV hK hP hP (q0 := 0) rfl rfl) rfl rfl hl.1 rfl (lv_room (Nat.le_of_ble_eq_true rfl)) dX6_layAhead_124 ⟨Nat.zero_le _, Nat.zero_le _⟩) ?_
                            refine kCallRi (va_runV (As := [.int (nI i35), .int (mX6_its (rset u 6 g_13) (mX6_writerAhead (rset u 6 g_11) (nI i35) (mX6_its (rset u 6 g_11) (nI i23) 1)) 2)]) (rest := [.int (nI i23), .ref (b 0)]) ⟨hx, hb, hml, hown, hts⟩ (c_X6_writerBehind l E b (rset u 6 g_13) (nI i35) (mX6_its (rset u 6 g_13) (mX6_writerAhead (rset u 6 g_11) (nI i35) (mX6_its (rset u 6 g_11) (nI i23) 1)) 2) (by assumption) _ rfl) (cwV 2 hts gX6_layAhead_X6_writerBehind rfl rfl rfl (by decide +kernel) ⟨Nat.le_of_ble_eq_true rfl, Nat.le_of_ble_eq_true rfl⟩) (kPreV hK hP hP (q0 := 0) rfl rfl) rfl rfl hl.1 rfl (lv_room (Nat.le_of_ble_eq_true rfl)) dX6_layAhead_127 ⟨Nat.zero_le _, Nat.zero_le _⟩) ?_
                            refine kCallWv (va_runV (As := [.int (nI i23), .int (mX6_writerBehind (rset u 6 g_13) (nI i35) (mX6_its (rset u 6 g_13) (mX6_writerAhead (rset u 6 g_11) (nI i35) (mX6_its (rset u 6 g_11) (nI i23) 1)) 2))]) (rest := []) ⟨hx, hb, hml, hown, hts⟩ (c_X6_depend l E b (rset u 6 g_13) hj (nI i23) (mX6_writerBehind (rset u 6 g_13) (nI i35) (mX6_its (rset u 6 g_13) (mX6_writerAhead (rset u 6 g_11) (nI i35) (mX6_its (rset u 6 g_11) (nI i23) 1)) 2)) (Or.inr (tOK.nI (by omega))) (writerBehind_t (by assumption) _ _) _ rfl) (cwV 2 hts gX6_layAhead_X6_depend rfl rfl rfl (by decide +kernel) ⟨Nat.le_of_ble_eq_true rfl, Nat.le_of_ble_eq_true rfl⟩) (kPreV hK hP hP (q0 := 0) rfl rfl) rfl rfl hl.1 rfl (lv_room (Nat.le_of_ble_eq_true rfl)) dX6_layAhead_130 ⟨Nat.zero_le _, Nat.zero_le _⟩) hS (fun _ h => h) (fun H locs hP _ _ hS => ?_)
                            refine kGen (mX6_depend (rset u 6 g_13) (nI i23) (mX6_writerBehind (rset u 6 g_13) (nI i35) (mX6_its (rset u 6 g_13) (mX6_writerAhead (rset u 6 g_11) (nI i35) (mX6_its (rset u 6 g_11) (nI i23) 1)) 2))) (fun g_15 hg_15 => ?_)
                            rw [hg_15] at hE hP
                            try dsimp only at hE
                            have hP : va_P E.1 vwCl (wModx E b (u 0 0) (u 0 1) (u 0 2) (u 0 3) (u 0 4) (u 0 5) (u 0 6) (u 0 7) (u 1) (u 2) (u 3) (u 4) (u 5) g_15 (u 7) (u 8)) H := hP
                            have hD := dMod (E := E) hj (u 0 0) (u 0 1) (u 0 2) (u 0 3) (u 0 4) (u 0 5) (u 0 6) (u 0 7) (u 1) (u 2) (u 3) (u 4) (u 5) g_15 (u 7) (u 8)
                            refine lv_iinc (v := (nI (i35 + 1))) (lv' := [(2, .int (nI (i35 + 1))), (3, .int (mX6_writerAhead (rset u 6 g_11) (nI i35) (mX6_its (rset u 6 g_11) (nI i23) 1))), (1, .int (nI i23)), (0, .ref (b 0))]) hx hb dX6_layAhead_133 hl (k := 1) rfl (nI_1 i35) (by decide) rfl (fun ls hl => ?_)
                            refine lv_goto (tgt := 35) hx hb dX6_layAhead_136 (by decide) ?_
                            exact ih35 (i35 + 1) g_15 _ _ (by omega) (by omega) hP hS ls (lv_sub hl [0, 2, 3] rfl) hE
                          · replace hE := hE.trans (if_pos c_14)
                            refine lv_iconst (v := 0) hx hb dX6_layAhead_117 (by decide) ?_
                            refine lv_goto (tgt := 127) hx hb dX6_layAhead_118 (by decide) ?_
                            refine kCallRi (va_runV (As := [.int (nI i35), .int 0]) (rest := [.int (nI i23), .ref (b 0)]) ⟨hx, hb, hml, hown, hts⟩ (c_X6_writerBehind l E b (rset u 6 g_13) (nI i35) 0 (by assumption) _ rfl) (cwV 2 hts gX6_layAhead_X6_writerBehind rfl rfl rfl (by decide +kernel) ⟨Nat.le_of_ble_eq_true rfl, Nat.le_of_ble_eq_true rfl⟩) (kPreV hK hP hP (q0 := 0) rfl rfl) rfl rfl hl.1 rfl (lv_room (Nat.le_of_ble_eq_true rfl)) dX6_layAhead_127 ⟨Nat.zero_le _, Nat.zero_le _⟩) ?_
                            refine kCallWv (va_runV (As := [.int (nI i23), .int (mX6_writerBehind (rset u 6 g_13) (nI i35) 0)]) (rest := []) ⟨hx, hb, hml, hown, hts⟩ (c_X6_depend l E b (rset u 6 g_13) hj (nI i23) (mX6_writerBehind (rset u 6 g_13) (nI i35) 0) (Or.inr (tOK.nI (by omega))) (writerBehind_t (by assumption) _ _) _ rfl) (cwV 2 hts gX6_layAhead_X6_depend rfl rfl rfl (by decide +kernel) ⟨Nat.le_of_ble_eq_true rfl, Nat.le_of_ble_eq_true rfl⟩) (kPreV hK hP hP (q0 := 0) rfl rfl) rfl rfl hl.1 rfl (lv_room (Nat.le_of_ble_eq_true rfl)) dX6_layAhead_130 ⟨Nat.zero_le _, Nat.zero_le _⟩) hS (fun _ h => h) (fun H locs hP _ _ hS => ?_)
                            refine kGen (mX6_depend (rset u 6 g_13) (nI i23) (mX6_writerBehind (rset u 6 g_13) (nI i35) 0)) (fun g_16 hg_16 => ?_)
                            rw [hg_16] at hE hP
                            try dsimp only at hE
                            have hP : va_P E.1 vwCl (wModx E b (u 0 0) (u 0 1) (u 0 2) (u 0 3) (u 0 4) (u 0 5) (u 0 6) (u 0 7) (u 1) (u 2) (u 3) (u 4) (u 5) g_16 (u 7) (u 8)) H := hP
                            have hD := dMod (E := E) hj (u 0 0) (u 0 1) (u 0 2) (u 0 3) (u 0 4) (u 0 5) (u 0 6) (u 0 7) (u 1) (u 2) (u 3) (u 4) (u 5) g_16 (u 7) (u 8)
                            refine lv_iinc (v := (nI (i35 + 1))) (lv' := [(2, .int (nI (i35 + 1))), (3, .int (mX6_writerAhead (rset u 6 g_11) (nI i35) (mX6_its (rset u 6 g_11) (nI i23) 1))), (1, .int (nI i23)), (0, .ref (b 0))]) hx hb dX6_layAhead_133 hl (k := 1) rfl (nI_1 i35) (by decide) rfl (fun ls hl => ?_)
                            refine lv_goto (tgt := 35) hx hb dX6_layAhead_136 (by decide) ?_
                            exact ih35 (i35 + 1) g_16 _ _ (by omega) (by omega) hP hS ls (lv_sub hl [0, 2, 3] rfl) hE
              exact lp35 17 0 f23_0_6 _ _ (by omega) (by omega) hP hS ls (lv_sub hl [0, 1, 2] rfl) hE
        exact lp23 13 0 f2_0_6 _ _ (by omega) (by omega) hP hS ls (lv_sub hl [0, 1] rfl) hE
      · replace hE := hE.trans (if_neg c_1)
        have hbc_1 : i2 < 12 := nI_nle_lt ⟨by omega, by omega⟩ c_1
        refine lv_aload_n hx hb dX6_layAhead_8 rfl (lv_at hl 1 rfl) ?_
        refine va_get (D := E.1) (ci := 5) (v := .ref (b 6)) (C := RX6) (T := TX6) (N := 16) hx hb hts hiX6 hown hK.1 hP 0 rfl rfl 10 (by decide) hf27 (fun _ h9 => h9) rfl dX6_layAhead_9 ?_
        refine lv_iload_n hx hb dX6_layAhead_12 rfl (lv_at hl 0 rfl) ?_
        refine lv_iconst (v := 0) hx hb dX6_layAhead_13 (by decide) ?_
        refine va_iast (D := E.1) hx hb hK.1 hP hD hS 6 0 rfl rfl (vp_in_nI (by omega) (by omega)) dX6_layAhead_14 (fun H locs hP _ hS => ?_)
        have hP : va_P E.1 vwCl (wModx E b (u 0 0) (u 0 1) (u 0 2) (u 0 3) (u 0 4) (u 0 5) (u 0 6) (u 0 7) (u 1) (u 2) (u 3) (u 4) (u 5) (upd f2_0_6 ((nI i2)).toNatClampNeg 0) (u 7) (u 8)) H := hP
        have hD := dMod (E := E) hj (u 0 0) (u 0 1) (u 0 2) (u 0 3) (u 0 4) (u 0 5) (u 0 6) (u 0 7) (u 1) (u 2) (u 3) (u 4) (u 5) (upd f2_0_6 ((nI i2)).toNatClampNeg 0) (u 7) (u 8)
        refine lv_iinc (v := (nI (i2 + 1))) (lv' := [(1, .int (nI (i2 + 1))), (0, .ref (b 0))]) hx hb dX6_layAhead_15 hl (k := 0) rfl (nI_1 i2) (by decide) rfl (fun ls hl => ?_)
        refine lv_goto (tgt := 2) hx hb dX6_layAhead_18 (by decide) ?_
        exact ih2 (i2 + 1) (upd f2_0_6 ((nI i2)).toNatClampNeg 0) _ _ (by omega) (by omega) hP hS ls (lv_sub hl [0, 1] rfl) hE
  exact lp2 13 0 (u 6) _ _ (by omega) (by omega) hP hS ls (lv_sub hl [0, 1] rfl) hE
