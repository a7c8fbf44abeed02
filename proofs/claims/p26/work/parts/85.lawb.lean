/-! the law's own rows: r (62 numbers), v (60), last (5); its small methods -/
def wRx (E : kE) (a : Nat → Nat) (f : Nat → Int32) : va_W := [(a 0, .inl (E.2 0, 62, .inl f))]
abbrev wR (E : kE) (a : Nat → Nat) (v : kG) : va_W := wRx E a (v 0)
theorem dR {E : kE} {a : Nat → Nat} (h : kInj a 1) (f : Nat → Int32) : va_D (kA a 1) (wRx E a f) := kD_of h rfl
theorem rIn {t : Int32} (k : Nat) (hk : k + 12 ≤ 62) (h : tOK t) : vp_in (Int32.ofNat k + t) 62 := by
  obtain ⟨i, hi, rfl⟩ := h
  rw [show Int32.ofNat k = nI k from rfl, nI_add]
  exact vp_in_nI (by omega) (by omega)
theorem rIn0 {t : Int32} (h : tOK t) : vp_in t 62 := by
  obtain ⟨i, hi, rfl⟩ := h
  exact vp_in_nI (by omega) (by omega)
theorem rAt {k t : Nat} (hk : k < 100) (ht : t < 100) : (Int32.ofNat k + nI t).toNatClampNeg = k + t := by
  rw [show Int32.ofNat k = nI k from rfl, nI_add, nI_clamp (by omega)]
theorem kdivI {a b : Nat} (ha : a < 2 ^ 31) (hb : b < 2 ^ 31) : nI a / nI b = nI (a / b) := by
  apply Int32.toInt_inj.mp
  have h2 : a / b ≤ a := Nat.div_le_self _ _
  rw [Int32.toInt_div_of_ne_right _ _ (by intro q; have := congrArg Int32.toInt q; rw [nI_toInt hb] at this; have e : (Int32.toInt (-1)) = -1 := by decide
                                          rw [e] at this; omega), nI_toInt ha, nI_toInt hb, nI_toInt (by omega)]
  exact (Int.ofNat_tdiv a b).symm
theorem kremI {a b : Nat} (ha : a < 2 ^ 31) (hb : b < 2 ^ 31) : nI a - nI a / nI b * nI b = nI (a % b) := by
  rw [kdivI ha hb, kmulI]
  have h1 : a / b * b ≤ a := Nat.div_mul_le_self a b
  have h2 : a % b = a - a / b * b := by have := Nat.div_add_mod a b; rw [Nat.mul_comm] at this; omega
  have h3 : a % b + a / b * b = a := by omega
  have h4 : nI a = nI (a % b) + nI (a / b * b) := by rw [nI_add, h3]
  rw [h4, Int32.add_sub_cancel]
def mL_low (x1 : Int32) (x2 : Int32) : Int32 :=
  ((x1 &&& 2147483647) - (x1 &&& 2147483647) / x2 * x2)
theorem mL_low_s {x1 : Int32} {x2 : Int32} : mL_low x1 x2 = (
  ((x1 &&& 2147483647) - (x1 &&& 2147483647) / x2 * x2) : Int32) := rfl
set_option maxHeartbeats 400000 in
set_option maxRecDepth 100000 in
theorem c_L_low (l : Launch) (E : kE) (x1 : Int32) (x2 : Int32) (hn0 : ¬ x2 = 0) (R : Int32) (hE : R = mL_low x1 x2) : Met l yL_low wsL_low ({ frames := 0, cells := 0, slots := 0, locals := 0 }) (kPre E [.int x1, .int x2] []) (kRi R) 0 0 (fun _ => False) := by
  refine Met.ofW (cc := cL_low) (maxL := 2) (ret := (some .int)) (by decide) rfl ?_
  intro p e s m args below meth c s₁ B hml hv
  obtain ⟨rfl, hK, hP⟩ := hv
  have hx := B.exec
  have hb := B.bytes
  have hr := B.returns
  have hts := atoms_spec (ws := wsL_low) B.pre
  have hown : s.vm.findClass RL = some m.cls := findClass_of_methodNamed B.named
  have hlocks := B.notSynchronized
  have hl := lv_entry ([.int x1, .int x2]) (n := 2) (Nat.le_of_ble_eq_true rfl)
  rw [lg_entry_eq]
  generalize (lg_sl ([.int x1, .int x2]) ++ List.replicate (2 - (lg_sl ([.int x1, .int x2])).length) Slot.unset).toArray = ls at hl ⊢
  have hl : lv_has ls 2 [(0, .int x1), (1, .int x2)] := hl
  replace hE := hE.trans mL_low_s
  refine lv_iload_n hx hb dL_low_0 rfl (lv_at hl 0 rfl) ?_
  refine lv_ldc (v := 2147483647) hx hb hown (hts (.constant RL 9 (2147483647)) (by decide +kernel)) dL_low_1 ?_
  refine lv_iand hx hb dL_low_3 ?_
  refine lv_iload_n hx hb dL_low_4 rfl (lv_at hl 1 rfl) ?_
  refine lv_irem hx hb dL_low_5 hn0 ?_
  subst R
  exact W.iret (v := ((x1 &&& 2147483647) - (x1 &&& 2147483647) / x2 * x2)) hx hb hr (fun t ht hW => ⟨rfl, ht⟩) (fun _ h => by cases h) dL_low_6
def mL_isCommitted (r : kG) (x2 : Int32) : Int32 :=
  if ((r 0) ((12 + x2)).toNatClampNeg) ≤ 0 then
    0
  else
    1
theorem mL_isCommitted_s {r : kG} {x2 : Int32} : mL_isCommitted r x2 = (
  if ((r 0) ((12 + x2)).toNatClampNeg) ≤ 0 then
    0
  else
    1 : Int32) := rfl
set_option maxHeartbeats 400000 in
set_option maxRecDepth 100000 in
theorem c_L_isCommitted (l : Launch) (E : kE) (a : Nat → Nat) (r : kG) (x2 : Int32) (ht : tOK x2) (R : Int32) (hE : R = mL_isCommitted r x2) : Met l yL_isCommitted wsL_isCommitted ({ frames := 0, cells := 0, slots := 0, locals := 0 }) (kPre E [.ref (a 0), .int x2] (wRx E a (r 0))) (kRi R) 0 0 (fun _ => False) := by
  refine Met.ofW (cc := cL_isCommitted) (maxL := 2) (ret := (some .boolean)) (by decide) rfl ?_
  intro p e s m args below meth c s₁ B hml hv
  obtain ⟨rfl, hK, hP⟩ := hv
  have hx := B.exec
  have hb := B.bytes
  have hr := B.returns
  have hts := atoms_spec (ws := wsL_isCommitted) B.pre
  have hown : s.vm.findClass RL = some m.cls := findClass_of_methodNamed B.named
  have hlocks := B.notSynchronized
  have hP : va_P E.1 vwCl (wRx E a (r 0)) s.heap := hP
  have hl := lv_entry ([.ref (a 0), .int x2]) (n := 2) (Nat.le_of_ble_eq_true rfl)
  rw [lg_entry_eq]
  generalize (lg_sl ([.ref (a 0), .int x2]) ++ List.replicate (2 - (lg_sl ([.ref (a 0), .int x2])).length) Slot.unset).toArray = ls at hl ⊢
  have hl : lv_has ls 2 [(0, .ref (a 0)), (1, .int x2)] := hl
  replace hE := hE.trans mL_isCommitted_s
  refine lv_aload_n hx hb dL_isCommitted_0 rfl (lv_at hl 0 rfl) ?_
  refine lv_bipush (v := 12) hx hb dL_isCommitted_1 (by decide) ?_
  refine lv_iload_n hx hb dL_isCommitted_3 rfl (lv_at hl 1 rfl) ?_
  refine lv_iadd hx hb dL_isCommitted_4 ?_
  refine va_iald (D := E.1) hx hb hK.1 hP 0 0 rfl rfl (rIn 12 (by decide) (by first | assumption | exact tOK.nI (by omega))) dL_isCommitted_5 ?_
  refine lv_if_le (tgt := 13) hx hb dL_isCommitted_6 (by decide) (fun c_1 => ?_) (fun c_1 => ?_)
  · replace hE := hE.trans (if_pos c_1)
    refine lv_iconst (v := 0) hx hb dL_isCommitted_13 (by decide) ?_
    subst R
    exact W.zret (v := 0) (ty := .boolean) hx hb hr rfl (fun t ht hW => ⟨rfl, ht⟩) (fun _ h => by cases h) dL_isCommitted_14
  · replace hE := hE.trans (if_neg c_1)
    refine lv_iconst (v := 1) hx hb dL_isCommitted_9 (by decide) ?_
    refine lv_goto (tgt := 14) hx hb dL_isCommitted_10 (by decide) ?_
    subst R
    exact W.zret (v := 1) (ty := .boolean) hx hb hr rfl (fun t ht hW => ⟨rfl, ht⟩) (fun _ h => by cases h) dL_isCommitted_14
def mL_writer_L5 (r : kG) (x2 : Int32) (x3 : Int32) : Nat → Int32 → Nat → (Int32)
  | 0, _, _ => 0
  | n5 + 1, x5_3, i5 =>
    if ((r 0) 49) ≤ (nI i5) then
      x5_3
    else
      if (mL_isCommitted r (nI i5)) = 0 then
        mL_writer_L5 r x2 x3 n5 x5_3 (i5 + 1)
      else
        if ((((r 0) ((36 + (nI i5))).toNatClampNeg) >>> (x2 &&& 31)) &&& 1) = 1 then
          if x3 ≤ ((r 0) ((12 + (nI i5))).toNatClampNeg) then
            mL_writer_L5 r x2 x3 n5 x5_3 (i5 + 1)
          else
            if x5_3 < 0 then
              mL_writer_L5 r x2 x3 n5 (nI i5) (i5 + 1)
            else
              if ((r 0) ((12 + (nI i5))).toNatClampNeg) ≤ ((r 0) ((12 + x5_3)).toNatClampNeg) then
                mL_writer_L5 r x2 x3 n5 x5_3 (i5 + 1)
              else
                mL_writer_L5 r x2 x3 n5 (nI i5) (i5 + 1)
        else
          mL_writer_L5 r x2 x3 n5 x5_3 (i5 + 1)
theorem mL_writer_L5_s {r : kG} {x2 : Int32} {x3 : Int32} {n5 : Nat} {x5_3 : Int32} {i5 : Nat} : mL_writer_L5 r x2 x3 (n5 + 1) x5_3 i5 = (
    if ((r 0) 49) ≤ (nI i5) then
      x5_3
    else
      if (mL_isCommitted r (nI i5)) = 0 then
        mL_writer_L5 r x2 x3 n5 x5_3 (i5 + 1)
      else
        if ((((r 0) ((36 + (nI i5))).toNatClampNeg) >>> (x2 &&& 31)) &&& 1) = 1 then
          if x3 ≤ ((r 0) ((12 + (nI i5))).toNatClampNeg) then
            mL_writer_L5 r x2 x3 n5 x5_3 (i5 + 1)
          else
            if x5_3 < 0 then
              mL_writer_L5 r x2 x3 n5 (nI i5) (i5 + 1)
            else
              if ((r 0) ((12 + (nI i5))).toNatClampNeg) ≤ ((r 0) ((12 + x5_3)).toNatClampNeg) then
                mL_writer_L5 r x2 x3 n5 x5_3 (i5 + 1)
              else
                mL_writer_L5 r x2 x3 n5 (nI i5) (i5 + 1)
        else
          mL_writer_L5 r x2 x3 n5 x5_3 (i5 + 1) : Int32) := rfl
def mL_writer (r : kG) (x2 : Int32) (x3 : Int32) : Int32 :=
  mL_writer_L5 r x2 x3 13 (-1) 0
theorem mL_writer_s {r : kG} {x2 : Int32} {x3 : Int32} : mL_writer r x2 x3 = (
  mL_writer_L5 r x2 x3 13 (-1) 0 : Int32) := rfl
set_option maxHeartbeats 400000 in
set_option maxRecDepth 100000 in
theorem c_L_writer (l : Launch) (E : kE) (a : Nat → Nat) (r : kG) (x2 : Int32) (x3 : Int32) (hn : nOK (r 0 49)) (R : Int32) (hE : R = mL_writer r x2 x3) : Met l yL_writer wsL_writer ({ frames := 1, cells := 0, slots := 0, locals := 21 }) (kPre E [.ref (a 0), .int x2, .int x3] (wRx E a (r 0))) (kRi R) 0 0 (fun _ => False) := by
  refine Met.ofW (cc := cL_writer) (maxL := 6) (ret := (some .int)) (by decide) rfl ?_
  intro p e s m args below meth c s₁ B hml hv
  obtain ⟨rfl, hK, hP⟩ := hv
  have hx := B.exec
  have hb := B.bytes
  have hr := B.returns
  have hts := atoms_spec (ws := wsL_writer) B.pre
  have hown : s.vm.findClass RL = some m.cls := findClass_of_methodNamed B.named
  have hlocks := B.notSynchronized
  have hP : va_P E.1 vwCl (wRx E a (r 0)) s.heap := hP
  have hl := lv_entry ([.ref (a 0), .int x2, .int x3]) (n := 6) (Nat.le_of_ble_eq_true rfl)
  rw [lg_entry_eq]
  generalize (lg_sl ([.ref (a 0), .int x2, .int x3]) ++ List.replicate (6 - (lg_sl ([.ref (a 0), .int x2, .int x3])).length) Slot.unset).toArray = ls at hl ⊢
  have hl : lv_has ls 6 [(0, .ref (a 0)), (1, .int x2), (2, .int x3)] := hl
  replace hE := hE.trans mL_writer_s
  refine lv_iconst (v := (-1)) hx hb dL_writer_0 (by decide) ?_
  refine lv_istore_n (lv' := [(3, .int (-1)), (0, .ref (a 0)), (1, .int x2), (2, .int x3)]) hx hb dL_writer_1 rfl hl (by decide) rfl (fun ls hl => ?_)
  refine lv_iconst (v := 0) hx hb dL_writer_2 (by decide) ?_
  refine lv_istore (lv' := [(4, .int 0), (3, .int (-1)), (0, .ref (a 0)), (1, .int x2), (2, .int x3)]) hx hb dL_writer_3 hl (by decide) rfl (fun ls hl => ?_)
  have lp5 : ∀ (n5 : Nat) (x5_3 : Int32) (i5 : Nat), (12 < i5 + n5) → (i5 ≤ 12) → (x5_3 < 0 ∨ tOK x5_3) → ∀ ls : Array Slot, lv_has ls 6 [(4, .int (nI i5)), (3, .int x5_3), (0, .ref (a 0)), (1, .int x2), (2, .int x3)] → R = mL_writer_L5 r x2 x3 n5 x5_3 i5 → W p l e ({ frames := 1, cells := 0, slots := 0, locals := 21 }) s m ([.ref (a 0), .int x2, .int x3] : List Value).toArray below meth c s.heap [] 0 0 (MQ below (kRi R) ([.ref (a 0), .int x2, .int x3] : List Value).toArray s 0 0 (fun _ => False)) (F0 m 5 ls []) := by
    clear hE
    intro n5
    induction n5 with
    | zero =>
      intro x5_3 i5 hm5 hi5 hbt ls hl hE
      exact absurd hm5 (by omega)
    | succ n5 ih5 =>
      intro x5_3 i5 hm5 hi5 hbt ls hl hE
      replace hE := hE.trans mL_writer_L5_s
      refine lv_iload hx hb dL_writer_5 (lv_at hl 0 rfl) ?_
      refine lv_aload_n hx hb dL_writer_7 rfl (lv_at hl 2 rfl) ?_
      refine lv_bipush (v := 49) hx hb dL_writer_8 (by decide) ?_
      refine va_iald (D := E.1) hx hb hK.1 hP 0 0 rfl rfl (vp_in_nI (n := 49) (by decide) (by decide)) dL_writer_10 ?_
      refine W.eq (g2 := F0 m 11 ls [.int ((r 0) 49), .int (nI i5)]) rfl ?_
      refine lv_icmp_ge (tgt := 94) hx hb dL_writer_11 (by decide) (fun c_1 => ?_) (fun c_1 => ?_)
      · replace hE := hE.trans (if_pos c_1)
        refine lv_iload_n hx hb dL_writer_94 rfl (lv_at hl 1 rfl) ?_
        subst R
        exact W.iret (v := x5_3) hx hb hr (fun t ht hW => ⟨rfl, ht⟩) (fun _ h => by cases h) dL_writer_95
      · replace hE := hE.trans (if_neg c_1)
        have hbc_1 : i5 < 12 := nOK.lt (by assumption) (by omega) c_1
        refine lv_aload_n hx hb dL_writer_14 rfl (lv_at hl 2 rfl) ?_
        refine lv_iload hx hb dL_writer_15 (lv_at hl 0 rfl) ?_
        refine kCallRi (va_runS (As := [.ref (a 0), .int (nI i5)]) (rest := []) ⟨hx, hb, hml, hown, hts⟩ (c_L_isCommitted l E a r (nI i5) (by first | assumption | exact tOK.nI (by omega)) _ rfl) (va_cwS 2 hts gL_writer_L_isCommitted rfl rfl rfl (by decide +kernel) ⟨Nat.le_of_ble_eq_true rfl, Nat.le_of_ble_eq_true rfl⟩) (kPreS hK hP) rfl rfl hl.1 rfl (lv_room (Nat.le_of_ble_eq_true rfl)) dL_writer_17 ⟨Nat.zero_le _, Nat.zero_le _⟩) ?_
        refine lv_if_eq (tgt := 53) hx hb dL_writer_20 (by decide) (fun c_2 => ?_) (fun c_2 => ?_)
        · replace hE := hE.trans (if_pos c_2)
          refine lv_iconst (v := 0) hx hb dL_writer_53 (by decide) ?_
          refine lv_istore (lv' := [(5, .int 0), (4, .int (nI i5)), (3, .int x5_3), (0, .ref (a 0)), (1, .int x2), (2, .int x3)]) hx hb dL_writer_54 hl (by decide) rfl (fun ls hl => ?_)
          refine lv_iload hx hb dL_writer_56 (lv_at hl 0 rfl) ?_
          refine lv_if_eq (tgt := 86) hx hb dL_writer_58 (by decide) (fun _ => ?_) (fun c => absurd (by decide) c)
          refine lv_iload_n hx hb dL_writer_86 rfl (lv_at hl 2 rfl) ?_
          refine lv_istore_n (lv' := [(3, .int x5_3), (5, .int 0), (4, .int (nI i5)), (0, .ref (a 0)), (1, .int x2), (2, .int x3)]) hx hb dL_writer_87 rfl hl (by decide) rfl (fun ls hl => ?_)
          refine lv_iinc (v := (nI (i5 + 1))) (lv' := [(4, .int (nI (i5 + 1))), (3, .int x5_3), (5, .int 0), (0, .ref (a 0)), (1, .int x2), (2, .int x3)]) hx hb dL_writer_88 hl (k := 2) rfl (nI_1 i5) (by decide) rfl (fun ls hl => ?_)
          refine lv_goto (tgt := 5) hx hb dL_writer_91 (by decide) ?_
          exact ih5 x5_3 (i5 + 1) (by omega) (by omega) (by first | assumption | exact Or.inr (tOK.nI (by omega))) ls (lv_sub hl [0, 1, 3, 4, 5] rfl) hE
        · replace hE := hE.trans (if_neg c_2)
          refine lv_aload_n hx hb dL_writer_23 rfl (lv_at hl 2 rfl) ?_
          refine lv_bipush (v := 36) hx hb dL_writer_24 (by decide) ?_
          refine lv_iload hx hb dL_writer_26 (lv_at hl 0 rfl) ?_
          refine lv_iadd hx hb dL_writer_28 ?_
          refine va_iald (D := E.1) hx hb hK.1 hP 0 0 rfl rfl (rIn 36 (by decide) (by first | assumption | exact tOK.nI (by omega))) dL_writer_29 ?_
          refine lv_iload_n hx hb dL_writer_30 rfl (lv_at hl 3 rfl) ?_
          refine lv_ishr hx hb dL_writer_31 ?_
          refine lv_iconst (v := 1) hx hb dL_writer_32 (by decide) ?_
          refine lv_iand hx hb dL_writer_33 ?_
          refine lv_iconst (v := 1) hx hb dL_writer_34 (by decide) ?_
          refine lv_icmp_ne (tgt := 53) hx hb dL_writer_35 (by decide) (fun c_3 => ?_) (fun c_3 => ?_)
          · replace hE := hE.trans (if_neg c_3)
            refine lv_iconst (v := 0) hx hb dL_writer_53 (by decide) ?_
            refine lv_istore (lv' := [(5, .int 0), (4, .int (nI i5)), (3, .int x5_3), (0, .ref (a 0)), (1, .int x2), (2, .int x3)]) hx hb dL_writer_54 hl (by decide) rfl (fun ls hl => ?_)
            refine lv_iload hx hb dL_writer_56 (lv_at hl 0 rfl) ?_
            refine lv_if_eq (tgt := 86) hx hb dL_writer_58 (by decide) (fun _ => ?_) (fun c => absurd (by decide) c)
            refine lv_iload_n hx hb dL_writer_86 rfl (lv_at hl 2 rfl) ?_
            refine lv_istore_n (lv' := [(3, .int x5_3), (5, .int 0), (4, .int (nI i5)), (0, .ref (a 0)), (1, .int x2), (2, .int x3)]) hx hb dL_writer_87 rfl hl (by decide) rfl (fun ls hl => ?_)
            refine lv_iinc (v := (nI (i5 + 1))) (lv' := [(4, .int (nI (i5 + 1))), (3, .int x5_3), (5, .int 0), (0, .ref (a 0)), (1, .int x2), (2, .int x3)]) hx hb dL_writer_88 hl (k := 2) rfl (nI_1 i5) (by decide) rfl (fun ls hl => ?_)
            refine lv_goto (tgt := 5) hx hb dL_writer_91 (by decide) ?_
            exact ih5 x5_3 (i5 + 1) (by omega) (by omega) (by first | assumption | exact Or.inr (tOK.nI (by omega))) ls (lv_sub hl [0, 1, 3, 4, 5] rfl) hE
          · replace hE := hE.trans (if_pos c_3)
            refine lv_aload_n hx hb dL_writer_38 rfl (lv_at hl 2 rfl) ?_
            refine lv_bipush (v := 12) hx hb dL_writer_39 (by decide) ?_
            refine lv_iload hx hb dL_writer_41 (lv_at hl 0 rfl) ?_
            refine lv_iadd hx hb dL_writer_43 ?_
            refine va_iald (D := E.1) hx hb hK.1 hP 0 0 rfl rfl (rIn 12 (by decide) (by first | assumption | exact tOK.nI (by omega))) dL_writer_44 ?_
            refine lv_iload_n hx hb dL_writer_45 rfl (lv_at hl 4 rfl) ?_
            refine lv_icmp_ge (tgt := 53) hx hb dL_writer_46 (by decide) (fun c_4 => ?_) (fun c_4 => ?_)
            · replace hE := hE.trans (if_pos c_4)
              refine lv_iconst (v := 0) hx hb dL_writer_53 (by decide) ?_
              refine lv_istore (lv' := [(5, .int 0), (4, .int (nI i5)), (3, .int x5_3), (0, .ref (a 0)), (1, .int x2), (2, .int x3)]) hx hb dL_writer_54 hl (by decide) rfl (fun ls hl => ?_)
              refine lv_iload hx hb dL_writer_56 (lv_at hl 0 rfl) ?_
              refine lv_if_eq (tgt := 86) hx hb dL_writer_58 (by decide) (fun _ => ?_) (fun c => absurd (by decide) c)
              refine lv_iload_n hx hb dL_writer_86 rfl (lv_at hl 2 rfl) ?_
              refine lv_istore_n (lv' := [(3, .int x5_3), (5, .int 0), (4, .int (nI i5)), (0, .ref (a 0)), (1, .int x2), (2, .int x3)]) hx hb dL_writer_87 rfl hl (by decide) rfl (fun ls hl => ?_)
              refine lv_iinc (v := (nI (i5 + 1))) (lv' := [(4, .int (nI (i5 + 1))), (3, .int x5_3), (5, .int 0), (0, .ref (a 0)), (1, .int x2), (2, .int x3)]) hx hb dL_writer_88 hl (k := 2) rfl (nI_1 i5) (by decide) rfl (fun ls hl => ?_)
              refine lv_goto (tgt := 5) hx hb dL_writer_91 (by decide) ?_
              exact ih5 x5_3 (i5 + 1) (by omega) (by omega) (by first | assumption | exact Or.inr (tOK.nI (by omega))) ls (lv_sub hl [0, 1, 3, 4, 5] rfl) hE
            · replace hE := hE.trans (if_neg c_4)
              refine lv_iconst (v := 1) hx hb dL_writer_49 (by decide) ?_
              refine lv_goto (tgt := 54) hx hb dL_writer_50 (by decide) ?_
              refine lv_istore (lv' := [(5, .int 1), (4, .int (nI i5)), (3, .int x5_3), (0, .ref (a 0)), (1, .int x2), (2, .int x3)]) hx hb dL_writer_54 hl (by decide) rfl (fun ls hl => ?_)
              refine lv_iload hx hb dL_writer_56 (lv_at hl 0 rfl) ?_
              refine lv_if_eq (tgt := 86) hx hb dL_writer_58 (by decide) (fun c => absurd c (by decide)) (fun _ => ?_)
              refine lv_iload_n hx hb dL_writer_61 rfl (lv_at hl 2 rfl) ?_
              refine lv_if_lt (tgt := 81) hx hb dL_writer_62 (by decide) (fun c_5 => ?_) (fun c_5 => ?_)
              · replace hE := hE.trans (if_pos c_5)
                refine lv_iload hx hb dL_writer_81 (lv_at hl 1 rfl) ?_
                refine lv_goto (tgt := 87) hx hb dL_writer_83 (by decide) ?_
                refine lv_istore_n (lv' := [(3, .int (nI i5)), (5, .int 1), (4, .int (nI i5)), (0, .ref (a 0)), (1, .int x2), (2, .int x3)]) hx hb dL_writer_87 rfl hl (by decide) rfl (fun ls hl => ?_)
                refine lv_iinc (v := (nI (i5 + 1))) (lv' := [(4, .int (nI (i5 + 1))), (3, .int (nI i5)), (5, .int 1), (0, .ref (a 0)), (1, .int x2), (2, .int x3)]) hx hb dL_writer_88 hl (k := 2) rfl (nI_1 i5) (by decide) rfl (fun ls hl => ?_)
                refine lv_goto (tgt := 5) hx hb dL_writer_91 (by decide) ?_
                exact ih5 (nI i5) (i5 + 1) (by omega) (by omega) (by first | assumption | exact Or.inr (tOK.nI (by omega))) ls (lv_sub hl [0, 1, 3, 4, 5] rfl) hE
              · replace hE := hE.trans (if_neg c_5)
                have htb := hbt.resolve_left c_5
                refine lv_aload_n hx hb dL_writer_65 rfl (lv_at hl 3 rfl) ?_
                refine lv_bipush (v := 12) hx hb dL_writer_66 (by decide) ?_
                refine lv_iload hx hb dL_writer_68 (lv_at hl 1 rfl) ?_
                refine lv_iadd hx hb dL_writer_70 ?_
                refine va_iald (D := E.1) hx hb hK.1 hP 0 0 rfl rfl (rIn 12 (by decide) (by first | assumption | exact tOK.nI (by omega))) dL_writer_71 ?_
                refine lv_aload_n hx hb dL_writer_72 rfl (lv_at hl 3 rfl) ?_
                refine lv_bipush (v := 12) hx hb dL_writer_73 (by decide) ?_
                refine lv_iload_n hx hb dL_writer_75 rfl (lv_at hl 2 rfl) ?_
                refine lv_iadd hx hb dL_writer_76 ?_
                refine va_iald (D := E.1) hx hb hK.1 hP 0 0 rfl rfl (rIn 12 (by decide) (by first | assumption | exact tOK.nI (by omega))) dL_writer_77 ?_
                refine lv_icmp_le (tgt := 86) hx hb dL_writer_78 (by decide) (fun c_6 => ?_) (fun c_6 => ?_)
                · replace hE := hE.trans (if_pos c_6)
                  refine lv_iload_n hx hb dL_writer_86 rfl (lv_at hl 2 rfl) ?_
                  refine lv_istore_n (lv' := [(3, .int x5_3), (5, .int 1), (4, .int (nI i5)), (0, .ref (a 0)), (1, .int x2), (2, .int x3)]) hx hb dL_writer_87 rfl hl (by decide) rfl (fun ls hl => ?_)
                  refine lv_iinc (v := (nI (i5 + 1))) (lv' := [(4, .int (nI (i5 + 1))), (3, .int x5_3), (5, .int 1), (0, .ref (a 0)), (1, .int x2), (2, .int x3)]) hx hb dL_writer_88 hl (k := 2) rfl (nI_1 i5) (by decide) rfl (fun ls hl => ?_)
                  refine lv_goto (tgt := 5) hx hb dL_writer_91 (by decide) ?_
                  exact ih5 x5_3 (i5 + 1) (by omega) (by omega) (by first | assumption | exact Or.inr (tOK.nI (by omega))) ls (lv_sub hl [0, 1, 3, 4, 5] rfl) hE
                · replace hE := hE.trans (if_neg c_6)
                  refine lv_iload hx hb dL_writer_81 (lv_at hl 1 rfl) ?_
                  refine lv_goto (tgt := 87) hx hb dL_writer_83 (by decide) ?_
                  refine lv_istore_n (lv' := [(3, .int (nI i5)), (5, .int 1), (4, .int (nI i5)), (0, .ref (a 0)), (1, .int x2), (2, .int x3)]) hx hb dL_writer_87 rfl hl (by decide) rfl (fun ls hl => ?_)
                  refine lv_iinc (v := (nI (i5 + 1))) (lv' := [(4, .int (nI (i5 + 1))), (3, .int (nI i5)), (5, .int 1), (0, .ref (a 0)), (1, .int x2), (2, .int x3)]) hx hb dL_writer_88 hl (k := 2) rfl (nI_1 i5) (by decide) rfl (fun ls hl => ?_)
                  refine lv_goto (tgt := 5) hx hb dL_writer_91 (by decide) ?_
                  exact ih5 (nI i5) (i5 + 1) (by omega) (by omega) (by first | assumption | exact Or.inr (tOK.nI (by omega))) ls (lv_sub hl [0, 1, 3, 4, 5] rfl) hE
  exact lp5 13 (-1) 0 (by omega) (by omega) (Or.inl (by decide)) ls (lv_sub hl [0, 1, 2, 3, 4] rfl) hE
def mL_isEdge (r : kG) (x2 : Int32) (x3 : Int32) : Int32 :=
  if x2 = x3 then
    if (mL_isCommitted r x2) = 0 then
      if (mL_isCommitted r x3) = 0 then
        0
      else
        if ((r 0) (x2).toNatClampNeg) ≤ ((r 0) ((12 + x3)).toNatClampNeg) then
          0
        else
          0
    else
      if ((r 0) ((12 + x2)).toNatClampNeg) < ((r 0) (x3).toNatClampNeg) then
        0
      else
        if (mL_isCommitted r x3) = 0 then
          0
        else
          if ((r 0) (x2).toNatClampNeg) ≤ ((r 0) ((12 + x3)).toNatClampNeg) then
            0
          else
            0
  else
    if ((r 0) ((12 + x2)).toNatClampNeg) < 0 then
      if (mL_isCommitted r x2) = 0 then
        if (mL_isCommitted r x3) = 0 then
          0
        else
          if ((r 0) (x2).toNatClampNeg) ≤ ((r 0) ((12 + x3)).toNatClampNeg) then
            0
          else
            0
      else
        if ((r 0) ((12 + x2)).toNatClampNeg) < ((r 0) (x3).toNatClampNeg) then
          0
        else
          if (mL_isCommitted r x3) = 0 then
            0
          else
            if ((r 0) (x2).toNatClampNeg) ≤ ((r 0) ((12 + x3)).toNatClampNeg) then
              0
            else
              0
    else
      if ((r 0) ((12 + x3)).toNatClampNeg) < 0 then
        if (mL_isCommitted r x2) = 0 then
          if (mL_isCommitted r x3) = 0 then
            0
          else
            if ((r 0) (x2).toNatClampNeg) ≤ ((r 0) ((12 + x3)).toNatClampNeg) then
              0
            else
              0
        else
          if ((r 0) ((12 + x2)).toNatClampNeg) < ((r 0) (x3).toNatClampNeg) then
            0
          else
            if (mL_isCommitted r x3) = 0 then
              0
            else
              if ((r 0) (x2).toNatClampNeg) ≤ ((r 0) ((12 + x3)).toNatClampNeg) then
                0
              else
                0
      else
        if (mL_isCommitted r x2) = 0 then
          if (mL_isCommitted r x3) = 0 then
            if (((r 0) ((24 + x2)).toNatClampNeg) &&& ((r 0) ((36 + x3)).toNatClampNeg)) = 0 then
              0
            else
              1
          else
            if ((r 0) (x2).toNatClampNeg) ≤ ((r 0) ((12 + x3)).toNatClampNeg) then
              if (((r 0) ((24 + x2)).toNatClampNeg) &&& ((r 0) ((36 + x3)).toNatClampNeg)) = 0 then
                0
              else
                1
            else
              0
        else
          if ((r 0) ((12 + x2)).toNatClampNeg) < ((r 0) (x3).toNatClampNeg) then
            0
          else
            if (mL_isCommitted r x3) = 0 then
              if (((r 0) ((24 + x2)).toNatClampNeg) &&& ((r 0) ((36 + x3)).toNatClampNeg)) = 0 then
                0
              else
                1
            else
              if ((r 0) (x2).toNatClampNeg) ≤ ((r 0) ((12 + x3)).toNatClampNeg) then
                if (((r 0) ((24 + x2)).toNatClampNeg) &&& ((r 0) ((36 + x3)).toNatClampNeg)) = 0 then
                  0
                else
                  1
              else
                0
theorem mL_isEdge_s {r : kG} {x2 : Int32} {x3 : Int32} : mL_isEdge r x2 x3 = (
  if x2 = x3 then
    if (mL_isCommitted r x2) = 0 then
      if (mL_isCommitted r x3) = 0 then
        0
      else
        if ((r 0) (x2).toNatClampNeg) ≤ ((r 0) ((12 + x3)).toNatClampNeg) then
          0
        else
          0
    else
      if ((r 0) ((12 + x2)).toNatClampNeg) < ((r 0) (x3).toNatClampNeg) then
        0
      else
        if (mL_isCommitted r x3) = 0 then
          0
        else
          if ((r 0) (x2).toNatClampNeg) ≤ ((r 0) ((12 + x3)).toNatClampNeg) then
            0
          else
            0
  else
    if ((r 0) ((12 + x2)).toNatClampNeg) < 0 then
      if (mL_isCommitted r x2) = 0 then
        if (mL_isCommitted r x3) = 0 then
          0
        else
          if ((r 0) (x2).toNatClampNeg) ≤ ((r 0) ((12 + x3)).toNatClampNeg) then
            0
          else
            0
      else
        if ((r 0) ((12 + x2)).toNatClampNeg) < ((r 0) (x3).toNatClampNeg) then
          0
        else
          if (mL_isCommitted r x3) = 0 then
            0
          else
            if ((r 0) (x2).toNatClampNeg) ≤ ((r 0) ((12 + x3)).toNatClampNeg) then
              0
            else
              0
    else
      if ((r 0) ((12 + x3)).toNatClampNeg) < 0 then
        if (mL_isCommitted r x2) = 0 then
          if (mL_isCommitted r x3) = 0 then
            0
          else
            if ((r 0) (x2).toNatClampNeg) ≤ ((r 0) ((12 + x3)).toNatClampNeg) then
              0
            else
              0
        else
          if ((r 0) ((12 + x2)).toNatClampNeg) < ((r 0) (x3).toNatClampNeg) then
            0
          else
            if (mL_isCommitted r x3) = 0 then
              0
            else
              if ((r 0) (x2).toNatClampNeg) ≤ ((r 0) ((12 + x3)).toNatClampNeg) then
                0
              else
                0
      else
        if (mL_isCommitted r x2) = 0 then
          if (mL_isCommitted r x3) = 0 then
            if (((r 0) ((24 + x2)).toNatClampNeg) &&& ((r 0) ((36 + x3)).toNatClampNeg)) = 0 then
              0
            else
              1
          else
            if ((r 0) (x2).toNatClampNeg) ≤ ((r 0) ((12 + x3)).toNatClampNeg) then
              if (((r 0) ((24 + x2)).toNatClampNeg) &&& ((r 0) ((36 + x3)).toNatClampNeg)) = 0 then
                0
              else
                1
            else
              0
        else
          if ((r 0) ((12 + x2)).toNatClampNeg) < ((r 0) (x3).toNatClampNeg) then
            0
          else
            if (mL_isCommitted r x3) = 0 then
              if (((r 0) ((24 + x2)).toNatClampNeg) &&& ((r 0) ((36 + x3)).toNatClampNeg)) = 0 then
                0
              else
                1
            else
              if ((r 0) (x2).toNatClampNeg) ≤ ((r 0) ((12 + x3)).toNatClampNeg) then
                if (((r 0) ((24 + x2)).toNatClampNeg) &&& ((r 0) ((36 + x3)).toNatClampNeg)) = 0 then
                  0
                else
                  1
              else
                0 : Int32) := rfl
set_option maxHeartbeats 400000 in
set_option maxRecDepth 100000 in
theorem c_L_isEdge (l : Launch) (E : kE) (a : Nat → Nat) (r : kG) (x2 : Int32) (x3 : Int32) (ht : tOK x2) (ht2 : tOK x3) (R : Int32) (hE : R = mL_isEdge r x2 x3) : Met l yL_isEdge wsL_isEdge ({ frames := 1, cells := 0, slots := 0, locals := 21 }) (kPre E [.ref (a 0), .int x2, .int x3] (wRx E a (r 0))) (kRi R) 0 0 (fun _ => False) := by
  refine Met.ofW (cc := cL_isEdge) (maxL := 5) (ret := (some .boolean)) (by decide) rfl ?_
  intro p e s m args below meth c s₁ B hml hv
  obtain ⟨rfl, hK, hP⟩ := hv
  have hx := B.exec
  have hb := B.bytes
  have hr := B.returns
  have hts := atoms_spec (ws := wsL_isEdge) B.pre
  have hown : s.vm.findClass RL = some m.cls := findClass_of_methodNamed B.named
  have hlocks := B.notSynchronized
  have hP : va_P E.1 vwCl (wRx E a (r 0)) s.heap := hP
  have hl := lv_entry ([.ref (a 0), .int x2, .int x3]) (n := 5) (Nat.le_of_ble_eq_true rfl)
  rw [lg_entry_eq]
  generalize (lg_sl ([.ref (a 0), .int x2, .int x3]) ++ List.replicate (5 - (lg_sl ([.ref (a 0), .int x2, .int x3])).length) Slot.unset).toArray = ls at hl ⊢
  have hl : lv_has ls 5 [(0, .ref (a 0)), (1, .int x2), (2, .int x3)] := hl
  replace hE := hE.trans mL_isEdge_s
  refine lv_iload_n hx hb dL_isEdge_0 rfl (lv_at hl 1 rfl) ?_
  refine lv_iload_n hx hb dL_isEdge_1 rfl (lv_at hl 2 rfl) ?_
  refine lv_icmp_eq (tgt := 27) hx hb dL_isEdge_2 (by decide) (fun c_1 => ?_) (fun c_1 => ?_)
  · replace hE := hE.trans (if_pos c_1)
    refine lv_iconst (v := 0) hx hb dL_isEdge_27 (by decide) ?_
    refine lv_istore_n (lv' := [(3, .int 0), (0, .ref (a 0)), (1, .int x2), (2, .int x3)]) hx hb dL_isEdge_28 rfl hl (by decide) rfl (fun ls hl => ?_)
    refine lv_aload_n hx hb dL_isEdge_29 rfl (lv_at hl 1 rfl) ?_
    refine lv_iload_n hx hb dL_isEdge_30 rfl (lv_at hl 2 rfl) ?_
    refine kCallRi (va_runS (As := [.ref (a 0), .int x2]) (rest := []) ⟨hx, hb, hml, hown, hts⟩ (c_L_isCommitted l E a r x2 (by first | assumption | exact tOK.nI (by omega)) _ rfl) (va_cwS 2 hts gL_isEdge_L_isCommitted rfl rfl rfl (by decide +kernel) ⟨Nat.le_of_ble_eq_true rfl, Nat.le_of_ble_eq_true rfl⟩) (kPreS hK hP) rfl rfl hl.1 rfl (lv_room (Nat.le_of_ble_eq_true rfl)) dL_isEdge_31 ⟨Nat.zero_le _, Nat.zero_le _⟩) ?_
    refine lv_if_eq (tgt := 49) hx hb dL_isEdge_34 (by decide) (fun c_2 => ?_) (fun c_2 => ?_)
    · replace hE := hE.trans (if_pos c_2)
      refine lv_aload_n hx hb dL_isEdge_49 rfl (lv_at hl 1 rfl) ?_
      refine lv_iload_n hx hb dL_isEdge_50 rfl (lv_at hl 3 rfl) ?_
      refine kCallRi (va_runS (As := [.ref (a 0), .int x3]) (rest := []) ⟨hx, hb, hml, hown, hts⟩ (c_L_isCommitted l E a r x3 (by first | assumption | exact tOK.nI (by omega)) _ rfl) (va_cwS 2 hts gL_isEdge_L_isCommitted rfl rfl rfl (by decide +kernel) ⟨Nat.le_of_ble_eq_true rfl, Nat.le_of_ble_eq_true rfl⟩) (kPreS hK hP) rfl rfl hl.1 rfl (lv_room (Nat.le_of_ble_eq_true rfl)) dL_isEdge_51 ⟨Nat.zero_le _, Nat.zero_le _⟩) ?_
      refine lv_if_eq (tgt := 73) hx hb dL_isEdge_54 (by decide) (fun c_3 => ?_) (fun c_3 => ?_)
      · replace hE := hE.trans (if_pos c_3)
        refine lv_iconst (v := 0) hx hb dL_isEdge_73 (by decide) ?_
        refine lv_istore (lv' := [(4, .int 0), (3, .int 0), (0, .ref (a 0)), (1, .int x2), (2, .int x3)]) hx hb dL_isEdge_74 hl (by decide) rfl (fun ls hl => ?_)
        refine lv_iload_n hx hb dL_isEdge_76 rfl (lv_at hl 1 rfl) ?_
        refine lv_if_eq (tgt := 105) hx hb dL_isEdge_77 (by decide) (fun _ => ?_) (fun c => absurd (by decide) c)
        refine lv_iconst (v := 0) hx hb dL_isEdge_105 (by decide) ?_
        subst R
        exact W.zret (v := 0) (ty := .boolean) hx hb hr rfl (fun t ht hW => ⟨rfl, ht⟩) (fun _ h => by cases h) dL_isEdge_106
      · replace hE := hE.trans (if_neg c_3)
        refine lv_aload_n hx hb dL_isEdge_57 rfl (lv_at hl 1 rfl) ?_
        refine lv_bipush (v := 12) hx hb dL_isEdge_58 (by decide) ?_
        refine lv_iload_n hx hb dL_isEdge_60 rfl (lv_at hl 3 rfl) ?_
        refine lv_iadd hx hb dL_isEdge_61 ?_
        refine va_iald (D := E.1) hx hb hK.1 hP 0 0 rfl rfl (rIn 12 (by decide) (by first | assumption | exact tOK.nI (by omega))) dL_isEdge_62 ?_
        refine lv_aload_n hx hb dL_isEdge_63 rfl (lv_at hl 1 rfl) ?_
        refine lv_iload_n hx hb dL_isEdge_64 rfl (lv_at hl 2 rfl) ?_
        refine va_iald (D := E.1) hx hb hK.1 hP 0 0 rfl rfl (rIn0 (by first | assumption | exact tOK.nI (by omega))) dL_isEdge_65 ?_
        refine lv_icmp_ge (tgt := 73) hx hb dL_isEdge_66 (by decide) (fun c_4 => ?_) (fun c_4 => ?_)
        · replace hE := hE.trans (if_pos c_4)
          refine lv_iconst (v := 0) hx hb dL_isEdge_73 (by decide) ?_
          refine lv_istore (lv' := [(4, .int 0), (3, .int 0), (0, .ref (a 0)), (1, .int x2), (2, .int x3)]) hx hb dL_isEdge_74 hl (by decide) rfl (fun ls hl => ?_)
          refine lv_iload_n hx hb dL_isEdge_76 rfl (lv_at hl 1 rfl) ?_
          refine lv_if_eq (tgt := 105) hx hb dL_isEdge_77 (by decide) (fun _ => ?_) (fun c => absurd (by decide) c)
          refine lv_iconst (v := 0) hx hb dL_isEdge_105 (by decide) ?_
          subst R
          exact W.zret (v := 0) (ty := .boolean) hx hb hr rfl (fun t ht hW => ⟨rfl, ht⟩) (fun _ h => by cases h) dL_isEdge_106
        · replace hE := hE.trans (if_neg c_4)
          refine lv_iconst (v := 1) hx hb dL_isEdge_69 (by decide) ?_
          refine lv_goto (tgt := 74) hx hb dL_isEdge_70 (by decide) ?_
          refine lv_istore (lv' := [(4, .int 1), (3, .int 0), (0, .ref (a 0)), (1, .int x2), (2, .int x3)]) hx hb dL_isEdge_74 hl (by decide) rfl (fun ls hl => ?_)
          refine lv_iload_n hx hb dL_isEdge_76 rfl (lv_at hl 1 rfl) ?_
          refine lv_if_eq (tgt := 105) hx hb dL_isEdge_77 (by decide) (fun _ => ?_) (fun c => absurd (by decide) c)
          refine lv_iconst (v := 0) hx hb dL_isEdge_105 (by decide) ?_
          subst R
          exact W.zret (v := 0) (ty := .boolean) hx hb hr rfl (fun t ht hW => ⟨rfl, ht⟩) (fun _ h => by cases h) dL_isEdge_106
    · replace hE := hE.trans (if_neg c_2)
      refine lv_aload_n hx hb dL_isEdge_37 rfl (lv_at hl 1 rfl) ?_
      refine lv_bipush (v := 12) hx hb dL_isEdge_38 (by decide) ?_
      refine lv_iload_n hx hb dL_isEdge_40 rfl (lv_at hl 2 rfl) ?_
      refine lv_iadd hx hb dL_isEdge_41 ?_
      refine va_iald (D := E.1) hx hb hK.1 hP 0 0 rfl rfl (rIn 12 (by decide) (by first | assumption | exact tOK.nI (by omega))) dL_isEdge_42 ?_
      refine lv_aload_n hx hb dL_isEdge_43 rfl (lv_at hl 1 rfl) ?_
      refine lv_iload_n hx hb dL_isEdge_44 rfl (lv_at hl 3 rfl) ?_
      refine va_iald (D := E.1) hx hb hK.1 hP 0 0 rfl rfl (rIn0 (by first | assumption | exact tOK.nI (by omega))) dL_isEdge_45 ?_
      refine lv_icmp_lt (tgt := 69) hx hb dL_isEdge_46 (by decide) (fun c_5 => ?_) (fun c_5 => ?_)
      · replace hE := hE.trans (if_pos c_5)
        refine lv_iconst (v := 1) hx hb dL_isEdge_69 (by decide) ?_
        refine lv_goto (tgt := 74) hx hb dL_isEdge_70 (by decide) ?_
        refine lv_istore (lv' := [(4, .int 1), (3, .int 0), (0, .ref (a 0)), (1, .int x2), (2, .int x3)]) hx hb dL_isEdge_74 hl (by decide) rfl (fun ls hl => ?_)
        refine lv_iload_n hx hb dL_isEdge_76 rfl (lv_at hl 1 rfl) ?_
        refine lv_if_eq (tgt := 105) hx hb dL_isEdge_77 (by decide) (fun _ => ?_) (fun c => absurd (by decide) c)
        refine lv_iconst (v := 0) hx hb dL_isEdge_105 (by decide) ?_
        subst R
        exact W.zret (v := 0) (ty := .boolean) hx hb hr rfl (fun t ht hW => ⟨rfl, ht⟩) (fun _ h => by cases h) dL_isEdge_106
      · replace hE := hE.trans (if_neg c_5)
        refine lv_aload_n hx hb dL_isEdge_49 rfl (lv_at hl 1 rfl) ?_
        refine lv_iload_n hx hb dL_isEdge_50 rfl (lv_at hl 3 rfl) ?_
        refine kCallRi (va_runS (As := [.ref (a 0), .int x3]) (rest := []) ⟨hx, hb, hml, hown, hts⟩ (c_L_isCommitted l E a r x3 (by first | assumption | exact tOK.nI (by omega)) _ rfl) (va_cwS 2 hts gL_isEdge_L_isCommitted rfl rfl rfl (by decide +kernel) ⟨Nat.le_of_ble_eq_true rfl, Nat.le_of_ble_eq_true rfl⟩) (kPreS hK hP) rfl rfl hl.1 rfl (lv_room (Nat.le_of_ble_eq_true rfl)) dL_isEdge_51 ⟨Nat.zero_le _, Nat.zero_le _⟩) ?_
        refine lv_if_eq (tgt := 73) hx hb dL_isEdge_54 (by decide) (fun c_6 => ?_) (fun c_6 => ?_)
        · replace hE := hE.trans (if_pos c_6)
          refine lv_iconst (v := 0) hx hb dL_isEdge_73 (by decide) ?_
          refine lv_istore (lv' := [(4, .int 0), (3, .int 0), (0, .ref (a 0)), (1, .int x2), (2, .int x3)]) hx hb dL_isEdge_74 hl (by decide) rfl (fun ls hl => ?_)
          refine lv_iload_n hx hb dL_isEdge_76 rfl (lv_at hl 1 rfl) ?_
          refine lv_if_eq (tgt := 105) hx hb dL_isEdge_77 (by decide) (fun _ => ?_) (fun c => absurd (by decide) c)
          refine lv_iconst (v := 0) hx hb dL_isEdge_105 (by decide) ?_
          subst R
          exact W.zret (v := 0) (ty := .boolean) hx hb hr rfl (fun t ht hW => ⟨rfl, ht⟩) (fun _ h => by cases h) dL_isEdge_106
        · replace hE := hE.trans (if_neg c_6)
          refine lv_aload_n hx hb dL_isEdge_57 rfl (lv_at hl 1 rfl) ?_
          refine lv_bipush (v := 12) hx hb dL_isEdge_58 (by decide) ?_
          refine lv_iload_n hx hb dL_isEdge_60 rfl (lv_at hl 3 rfl) ?_
          refine lv_iadd hx hb dL_isEdge_61 ?_
          refine va_iald (D := E.1) hx hb hK.1 hP 0 0 rfl rfl (rIn 12 (by decide) (by first | assumption | exact tOK.nI (by omega))) dL_isEdge_62 ?_
          refine lv_aload_n hx hb dL_isEdge_63 rfl (lv_at hl 1 rfl) ?_
          refine lv_iload_n hx hb dL_isEdge_64 rfl (lv_at hl 2 rfl) ?_
          refine va_iald (D := E.1) hx hb hK.1 hP 0 0 rfl rfl (rIn0 (by first | assumption | exact tOK.nI (by omega))) dL_isEdge_65 ?_
          refine lv_icmp_ge (tgt := 73) hx hb dL_isEdge_66 (by decide) (fun c_7 => ?_) (fun c_7 => ?_)
          · replace hE := hE.trans (if_pos c_7)
            refine lv_iconst (v := 0) hx hb dL_isEdge_73 (by decide) ?_
            refine lv_istore (lv' := [(4, .int 0), (3, .int 0), (0, .ref (a 0)), (1, .int x2), (2, .int x3)]) hx hb dL_isEdge_74 hl (by decide) rfl (fun ls hl => ?_)
            refine lv_iload_n hx hb dL_isEdge_76 rfl (lv_at hl 1 rfl) ?_
            refine lv_if_eq (tgt := 105) hx hb dL_isEdge_77 (by decide) (fun _ => ?_) (fun c => absurd (by decide) c)
            refine lv_iconst (v := 0) hx hb dL_isEdge_105 (by decide) ?_
            subst R
            exact W.zret (v := 0) (ty := .boolean) hx hb hr rfl (fun t ht hW => ⟨rfl, ht⟩) (fun _ h => by cases h) dL_isEdge_106
          · replace hE := hE.trans (if_neg c_7)
            refine lv_iconst (v := 1) hx hb dL_isEdge_69 (by decide) ?_
            refine lv_goto (tgt := 74) hx hb dL_isEdge_70 (by decide) ?_
            refine lv_istore (lv' := [(4, .int 1), (3, .int 0), (0, .ref (a 0)), (1, .int x2), (2, .int x3)]) hx hb dL_isEdge_74 hl (by decide) rfl (fun ls hl => ?_)
            refine lv_iload_n hx hb dL_isEdge_76 rfl (lv_at hl 1 rfl) ?_
            refine lv_if_eq (tgt := 105) hx hb dL_isEdge_77 (by decide) (fun _ => ?_) (fun c => absurd (by decide) c)
            refine lv_iconst (v := 0) hx hb dL_isEdge_105 (by decide) ?_
            subst R
            exact W.zret (v := 0) (ty := .boolean) hx hb hr rfl (fun t ht hW => ⟨rfl, ht⟩) (fun _ h => by cases h) dL_isEdge_106
  · replace hE := hE.trans (if_neg c_1)
    refine lv_aload_n hx hb dL_isEdge_5 rfl (lv_at hl 0 rfl) ?_
    refine lv_bipush (v := 12) hx hb dL_isEdge_6 (by decide) ?_
    refine lv_iload_n hx hb dL_isEdge_8 rfl (lv_at hl 1 rfl) ?_
    refine lv_iadd hx hb dL_isEdge_9 ?_
    refine va_iald (D := E.1) hx hb hK.1 hP 0 0 rfl rfl (rIn 12 (by decide) (by first | assumption | exact tOK.nI (by omega))) dL_isEdge_10 ?_
    refine lv_if_lt (tgt := 27) hx hb dL_isEdge_11 (by decide) (fun c_8 => ?_) (fun c_8 => ?_)
    · replace hE := hE.trans (if_pos c_8)
      refine lv_iconst (v := 0) hx hb dL_isEdge_27 (by decide) ?_
      refine lv_istore_n (lv' := [(3, .int 0), (0, .ref (a 0)), (1, .int x2), (2, .int x3)]) hx hb dL_isEdge_28 rfl hl (by decide) rfl (fun ls hl => ?_)
      refine lv_aload_n hx hb dL_isEdge_29 rfl (lv_at hl 1 rfl) ?_
      refine lv_iload_n hx hb dL_isEdge_30 rfl (lv_at hl 2 rfl) ?_
      refine kCallRi (va_runS (As := [.ref (a 0), .int x2]) (rest := []) ⟨hx, hb, hml, hown, hts⟩ (c_L_isCommitted l E a r x2 (by first | assumption | exact tOK.nI (by omega)) _ rfl) (va_cwS 2 hts gL_isEdge_L_isCommitted rfl rfl rfl (by decide +kernel) ⟨Nat.le_of_ble_eq_true rfl, Nat.le_of_ble_eq_true rfl⟩) (kPreS hK hP) rfl rfl hl.1 rfl (lv_room (Nat.le_of_ble_eq_true rfl)) dL_isEdge_31 ⟨Nat.zero_le _, Nat.zero_le _⟩) ?_
      refine lv_if_eq (tgt := 49) hx hb dL_isEdge_34 (by decide) (fun c_9 => ?_) (fun c_9 => ?_)
      · replace hE := hE.trans (if_pos c_9)
        refine lv_aload_n hx hb dL_isEdge_49 rfl (lv_at hl 1 rfl) ?_
        refine lv_iload_n hx hb dL_isEdge_50 rfl (lv_at hl 3 rfl) ?_
        refine kCallRi (va_runS (As := [.ref (a 0), .int x3]) (rest := []) ⟨hx, hb, hml, hown, hts⟩ (c_L_isCommitted l E a r x3 (by first | assumption | exact tOK.nI (by omega)) _ rfl) (va_cwS 2 hts gL_isEdge_L_isCommitted rfl rfl rfl (by decide +kernel) ⟨Nat.le_of_ble_eq_true rfl, Nat.le_of_ble_eq_true rfl⟩) (kPreS hK hP) rfl rfl hl.1 rfl (lv_room (Nat.le_of_ble_eq_true rfl)) dL_isEdge_51 ⟨Nat.zero_le _, Nat.zero_le _⟩) ?_
        refine lv_if_eq (tgt := 73) hx hb dL_isEdge_54 (by decide) (fun c_10 => ?_) (fun c_10 => ?_)
        · replace hE := hE.trans (if_pos c_10)
          refine lv_iconst (v := 0) hx hb dL_isEdge_73 (by decide) ?_
          refine lv_istore (lv' := [(4, .int 0), (3, .int 0), (0, .ref (a 0)), (1, .int x2), (2, .int x3)]) hx hb dL_isEdge_74 hl (by decide) rfl (fun ls hl => ?_)
          refine lv_iload_n hx hb dL_isEdge_76 rfl (lv_at hl 1 rfl) ?_
          refine lv_if_eq (tgt := 105) hx hb dL_isEdge_77 (by decide) (fun _ => ?_) (fun c => absurd (by decide) c)
          refine lv_iconst (v := 0) hx hb dL_isEdge_105 (by decide) ?_
          subst R
          exact W.zret (v := 0) (ty := .boolean) hx hb hr rfl (fun t ht hW => ⟨rfl, ht⟩) (fun _ h => by cases h) dL_isEdge_106
        · replace hE := hE.trans (if_neg c_10)
          refine lv_aload_n hx hb dL_isEdge_57 rfl (lv_at hl 1 rfl) ?_
          refine lv_bipush (v := 12) hx hb dL_isEdge_58 (by decide) ?_
          refine lv_iload_n hx hb dL_isEdge_60 rfl (lv_at hl 3 rfl) ?_
          refine lv_iadd hx hb dL_isEdge_61 ?_
          refine va_iald (D := E.1) hx hb hK.1 hP 0 0 rfl rfl (rIn 12 (by decide) (by first | assumption | exact tOK.nI (by omega))) dL_isEdge_62 ?_
          refine lv_aload_n hx hb dL_isEdge_63 rfl (lv_at hl 1 rfl) ?_
          refine lv_iload_n hx hb dL_isEdge_64 rfl (lv_at hl 2 rfl) ?_
          refine va_iald (D := E.1) hx hb hK.1 hP 0 0 rfl rfl (rIn0 (by first | assumption | exact tOK.nI (by omega))) dL_isEdge_65 ?_
          refine lv_icmp_ge (tgt := 73) hx hb dL_isEdge_66 (by decide) (fun c_11 => ?_) (fun c_11 => ?_)
          · replace hE := hE.trans (if_pos c_11)
            refine lv_iconst (v := 0) hx hb dL_isEdge_73 (by decide) ?_
            refine lv_istore (lv' := [(4, .int 0), (3, .int 0), (0, .ref (a 0)), (1, .int x2), (2, .int x3)]) hx hb dL_isEdge_74 hl (by decide) rfl (fun ls hl => ?_)
            refine lv_iload_n hx hb dL_isEdge_76 rfl (lv_at hl 1 rfl) ?_
            refine lv_if_eq (tgt := 105) hx hb dL_isEdge_77 (by decide) (fun _ => ?_) (fun c => absurd (by decide) c)
            refine lv_iconst (v := 0) hx hb dL_isEdge_105 (by decide) ?_
            subst R
            exact W.zret (v := 0) (ty := .boolean) hx hb hr rfl (fun t ht hW => ⟨rfl, ht⟩) (fun _ h => by cases h) dL_isEdge_106
          · replace hE := hE.trans (if_neg c_11)
            refine lv_iconst (v := 1) hx hb dL_isEdge_69 (by decide) ?_
            refine lv_goto (tgt := 74) hx hb dL_isEdge_70 (by decide) ?_
            refine lv_istore (lv' := [(4, .int 1), (3, .int 0), (0, .ref (a 0)), (1, .int x2), (2, .int x3)]) hx hb dL_isEdge_74 hl (by decide) rfl (fun ls hl => ?_)
            refine lv_iload_n hx hb dL_isEdge_76 rfl (lv_at hl 1 rfl) ?_
            refine lv_if_eq (tgt := 105) hx hb dL_isEdge_77 (by decide) (fun _ => ?_) (fun c => absurd (by decide) c)
            refine lv_iconst (v := 0) hx hb dL_isEdge_105 (by decide) ?_
            subst R
            exact W.zret (v := 0) (ty := .boolean) hx hb hr rfl (fun t ht hW => ⟨rfl, ht⟩) (fun _ h => by cases h) dL_isEdge_106
      · replace hE := hE.trans (if_neg c_9)
        refine lv_aload_n hx hb dL_isEdge_37 rfl (lv_at hl 1 rfl) ?_
        refine lv_bipush (v := 12) hx hb dL_isEdge_38 (by decide) ?_
        refine lv_iload_n hx hb dL_isEdge_40 rfl (lv_at hl 2 rfl) ?_
        refine lv_iadd hx hb dL_isEdge_41 ?_
        refine va_iald (D := E.1) hx hb hK.1 hP 0 0 rfl rfl (rIn 12 (by decide) (by first | assumption | exact tOK.nI (by omega))) dL_isEdge_42 ?_
        refine lv_aload_n hx hb dL_isEdge_43 rfl (lv_at hl 1 rfl) ?_
        refine lv_iload_n hx hb dL_isEdge_44 rfl (lv_at hl 3 rfl) ?_
        refine va_iald (D := E.1) hx hb hK.1 hP 0 0 rfl rfl (rIn0 (by first | assumption | exact tOK.nI (by omega))) dL_isEdge_45 ?_
        refine lv_icmp_lt (tgt := 69) hx hb dL_isEdge_46 (by decide) (fun c_12 => ?_) (fun c_12 => ?_)
        · replace hE := hE.trans (if_pos c_12)
          refine lv_iconst (v := 1) hx hb dL_isEdge_69 (by decide) ?_
          refine lv_goto (tgt := 74) hx hb dL_isEdge_70 (by decide) ?_
          refine lv_istore (lv' := [(4, .int 1), (3, .int 0), (0, .ref (a 0)), (1, .int x2), (2, .int x3)]) hx hb dL_isEdge_74 hl (by decide) rfl (fun ls hl => ?_)
          refine lv_iload_n hx hb dL_isEdge_76 rfl (lv_at hl 1 rfl) ?_
          refine lv_if_eq (tgt := 105) hx hb dL_isEdge_77 (by decide) (fun _ => ?_) (fun c => absurd (by decide) c)
          refine lv_iconst (v := 0) hx hb dL_isEdge_105 (by decide) ?_
          subst R
          exact W.zret (v := 0) (ty := .boolean) hx hb hr rfl (fun t ht hW => ⟨rfl, ht⟩) (fun _ h => by cases h) dL_isEdge_106
        · replace hE := hE.trans (if_neg c_12)
          refine lv_aload_n hx hb dL_isEdge_49 rfl (lv_at hl 1 rfl) ?_
          refine lv_iload_n hx hb dL_isEdge_50 rfl (lv_at hl 3 rfl) ?_
          refine kCallRi (va_runS (As := [.ref (a 0), .int x3]) (rest := []) ⟨hx, hb, hml, hown, hts⟩ (c_L_isCommitted l E a r x3 (by first | assumption | exact tOK.nI (by omega)) _ rfl) (va_cwS 2 hts gL_isEdge_L_isCommitted rfl rfl rfl (by decide +kernel) ⟨Nat.le_of_ble_eq_true rfl, Nat.le_of_ble_eq_true rfl⟩) (kPreS hK hP) rfl rfl hl.1 rfl (lv_room (Nat.le_of_ble_eq_true rfl)) dL_isEdge_51 ⟨Nat.zero_le _, Nat.zero_le _⟩) ?_
          refine lv_if_eq (tgt := 73) hx hb dL_isEdge_54 (by decide) (fun c_13 => ?_) (fun c_13 => ?_)
          · replace hE := hE.trans (if_pos c_13)
            refine lv_iconst (v := 0) hx hb dL_isEdge_73 (by decide) ?_
            refine lv_istore (lv' := [(4, .int 0), (3, .int 0), (0, .ref (a 0)), (1, .int x2), (2, .int x3)]) hx hb dL_isEdge_74 hl (by decide) rfl (fun ls hl => ?_)
            refine lv_iload_n hx hb dL_isEdge_76 rfl (lv_at hl 1 rfl) ?_
            refine lv_if_eq (tgt := 105) hx hb dL_isEdge_77 (by decide) (fun _ => ?_) (fun c => absurd (by decide) c)
            refine lv_iconst (v := 0) hx hb dL_isEdge_105 (by decide) ?_
            subst R
            exact W.zret (v := 0) (ty := .boolean) hx hb hr rfl (fun t ht hW => ⟨rfl, ht⟩) (fun _ h => by cases h) dL_isEdge_106
          · replace hE := hE.trans (if_neg c_13)
            refine lv_aload_n hx hb dL_isEdge_57 rfl (lv_at hl 1 rfl) ?_
            refine lv_bipush (v := 12) hx hb dL_isEdge_58 (by decide) ?_
            refine lv_iload_n hx hb dL_isEdge_60 rfl (lv_at hl 3 rfl) ?_
            refine lv_iadd hx hb dL_isEdge_61 ?_
            refine va_iald (D := E.1) hx hb hK.1 hP 0 0 rfl rfl (rIn 12 (by decide) (by first | assumption | exact tOK.nI (by omega))) dL_isEdge_62 ?_
            refine lv_aload_n hx hb dL_isEdge_63 rfl (lv_at hl 1 rfl) ?_
            refine lv_iload_n hx hb dL_isEdge_64 rfl (lv_at hl 2 rfl) ?_
            refine va_iald (D := E.1) hx hb hK.1 hP 0 0 rfl rfl (rIn0 (by first | assumption | exact tOK.nI (by omega))) dL_isEdge_65 ?_
            refine lv_icmp_ge (tgt := 73) hx hb dL_isEdge_66 (by decide) (fun c_14 => ?_) (fun c_14 => ?_)
            · replace hE := hE.trans (if_pos c_14)
              refine lv_iconst (v := 0) hx hb dL_isEdge_73 (by decide) ?_
              refine lv_istore (lv' := [(4, .int 0), (3, .int 0), (0, .ref (a 0)), (1, .int x2), (2, .int x3)]) hx hb dL_isEdge_74 hl (by decide) rfl (fun ls hl => ?_)
              refine lv_iload_n hx hb dL_isEdge_76 rfl (lv_at hl 1 rfl) ?_
              refine lv_if_eq (tgt := 105) hx hb dL_isEdge_77 (by decide) (fun _ => ?_) (fun c => absurd (by decide) c)
              refine lv_iconst (v := 0) hx hb dL_isEdge_105 (by decide) ?_
              subst R
              exact W.zret (v := 0) (ty := .boolean) hx hb hr rfl (fun t ht hW => ⟨rfl, ht⟩) (fun _ h => by cases h) dL_isEdge_106
            · replace hE := hE.trans (if_neg c_14)
              refine lv_iconst (v := 1) hx hb dL_isEdge_69 (by decide) ?_
              refine lv_goto (tgt := 74) hx hb dL_isEdge_70 (by decide) ?_
              refine lv_istore (lv' := [(4, .int 1), (3, .int 0), (0, .ref (a 0)), (1, .int x2), (2, .int x3)]) hx hb dL_isEdge_74 hl (by decide) rfl (fun ls hl => ?_)
              refine lv_iload_n hx hb dL_isEdge_76 rfl (lv_at hl 1 rfl) ?_
              refine lv_if_eq (tgt := 105) hx hb dL_isEdge_77 (by decide) (fun _ => ?_) (fun c => absurd (by decide) c)
              refine lv_iconst (v := 0) hx hb dL_isEdge_105 (by decide) ?_
              subst R
              exact W.zret (v := 0) (ty := .boolean) hx hb hr rfl (fun t ht hW => ⟨rfl, ht⟩) (fun _ h => by cases h) dL_isEdge_106
    · replace hE := hE.trans (if_neg c_8)
      refine lv_aload_n hx hb dL_isEdge_14 rfl (lv_at hl 0 rfl) ?_
      refine lv_bipush (v := 12) hx hb dL_isEdge_15 (by decide) ?_
      refine lv_iload_n hx hb dL_isEdge_17 rfl (lv_at hl 2 rfl) ?_
      refine lv_iadd hx hb dL_isEdge_18 ?_
      refine va_iald (D := E.1) hx hb hK.1 hP 0 0 rfl rfl (rIn 12 (by decide) (by first | assumption | exact tOK.nI (by omega))) dL_isEdge_19 ?_
      refine lv_if_lt (tgt := 27) hx hb dL_isEdge_20 (by decide) (fun c_15 => ?_) (fun c_15 => ?_)
      · replace hE := hE.trans (if_pos c_15)
        refine lv_iconst (v := 0) hx hb dL_isEdge_27 (by decide) ?_
        refine lv_istore_n (lv' := [(3, .int 0), (0, .ref (a 0)), (1, .int x2), (2, .int x3)]) hx hb dL_isEdge_28 rfl hl (by decide) rfl (fun ls hl => ?_)
        refine lv_aload_n hx hb dL_isEdge_29 rfl (lv_at hl 1 rfl) ?_
        refine lv_iload_n hx hb dL_isEdge_30 rfl (lv_at hl 2 rfl) ?_
        refine kCallRi (va_runS (As := [.ref (a 0), .int x2]) (rest := []) ⟨hx, hb, hml, hown, hts⟩ (c_L_isCommitted l E a r x2 (by first | assumption | exact tOK.nI (by omega)) _ rfl) (va_cwS 2 hts gL_isEdge_L_isCommitted rfl rfl rfl (by decide +kernel) ⟨Nat.le_of_ble_eq_true rfl, Nat.le_of_ble_eq_true rfl⟩) (kPreS hK hP) rfl rfl hl.1 rfl (lv_room (Nat.le_of_ble_eq_true rfl)) dL_isEdge_31 ⟨Nat.zero_le _, Nat.zero_le _⟩) ?_
        refine lv_if_eq (tgt := 49) hx hb dL_isEdge_34 (by decide) (fun c_16 => ?_) (fun c_16 => ?_)
        · replace hE := hE.trans (if_pos c_16)
          refine lv_aload_n hx hb dL_isEdge_49 rfl (lv_at hl 1 rfl) ?_
          refine lv_iload_n hx hb dL_isEdge_50 rfl (lv_at hl 3 rfl) ?_
          refine kCallRi (va_runS (As := [.ref (a 0), .int x3]) (rest := []) ⟨hx, hb, hml, hown, hts⟩ (c_L_isCommitted l E a r x3 (by first | assumption | exact tOK.nI (by omega)) _ rfl) (va_cwS 2 hts gL_isEdge_L_isCommitted rfl rfl rfl (by decide +kernel) ⟨Nat.le_of_ble_eq_true rfl, Nat.le_of_ble_eq_true rfl⟩) (kPreS hK hP) rfl rfl hl.1 rfl (lv_room (Nat.le_of_ble_eq_true rfl)) dL_isEdge_51 ⟨Nat.zero_le _, Nat.zero_le _⟩) ?_
          refine lv_if_eq (tgt := 73) hx hb dL_isEdge_54 (by decide) (fun c_17 => ?_) (fun c_17 => ?_)
          · replace hE := hE.trans (if_pos c_17)
            refine lv_iconst (v := 0) hx hb dL_isEdge_73 (by decide) ?_
            refine lv_istore (lv' := [(4, .int 0), (3, .int 0), (0, .ref (a 0)), (1, .int x2), (2, .int x3)]) hx hb dL_isEdge_74 hl (by decide) rfl (fun ls hl => ?_)
            refine lv_iload_n hx hb dL_isEdge_76 rfl (lv_at hl 1 rfl) ?_
            refine lv_if_eq (tgt := 105) hx hb dL_isEdge_77 (by decide) (fun _ => ?_) (fun c => absurd (by decide) c)
            refine lv_iconst (v := 0) hx hb dL_isEdge_105 (by decide) ?_
            subst R
            exact W.zret (v := 0) (ty := .boolean) hx hb hr rfl (fun t ht hW => ⟨rfl, ht⟩) (fun _ h => by cases h) dL_isEdge_106
          · replace hE := hE.trans (if_neg c_17)
            refine lv_aload_n hx hb dL_isEdge_57 rfl (lv_at hl 1 rfl) ?_
            refine lv_bipush (v := 12) hx hb dL_isEdge_58 (by decide) ?_
            refine lv_iload_n hx hb dL_isEdge_60 rfl (lv_at hl 3 rfl) ?_
            refine lv_iadd hx hb dL_isEdge_61 ?_
            refine va_iald (D := E.1) hx hb hK.1 hP 0 0 rfl rfl (rIn 12 (by decide) (by first | assumption | exact tOK.nI (by omega))) dL_isEdge_62 ?_
            refine lv_aload_n hx hb dL_isEdge_63 rfl (lv_at hl 1 rfl) ?_
            refine lv_iload_n hx hb dL_isEdge_64 rfl (lv_at hl 2 rfl) ?_
            refine va_iald (D := E.1) hx hb hK.1 hP 0 0 rfl rfl (rIn0 (by first | assumption | exact tOK.nI (by omega))) dL_isEdge_65 ?_
            refine lv_icmp_ge (tgt := 73) hx hb dL_isEdge_66 (by decide) (fun c_18 => ?_) (fun c_18 => ?_)
            · replace hE := hE.trans (if_pos c_18)
              refine lv_iconst (v := 0) hx hb dL_isEdge_73 (by decide) ?_
              refine lv_istore (lv' := [(4, .int 0), (3, .int 0), (0, .ref (a 0)), (1, .int x2), (2, .int x3)]) hx hb dL_isEdge_74 hl (by decide) rfl (fun ls hl => ?_)
              refine lv_iload_n hx hb dL_isEdge_76 rfl (lv_at hl 1 rfl) ?_
              refine lv_if_eq (tgt := 105) hx hb dL_isEdge_77 (by decide) (fun _ => ?_) (fun c => absurd (by decide) c)
              refine lv_iconst (v := 0) hx hb dL_isEdge_105 (by decide) ?_
              subst R
              exact W.zret (v := 0) (ty := .boolean) hx hb hr rfl (fun t ht hW => ⟨rfl, ht⟩) (fun _ h => by cases h) dL_isEdge_106
            · replace hE := hE.trans (if_neg c_18)
              refine lv_iconst (v := 1) hx hb dL_isEdge_69 (by decide) ?_
              refine lv_goto (tgt := 74) hx hb dL_isEdge_70 (by decide) ?_
              refine lv_istore (lv' := [(4, .int 1), (3, .int 0), (0, .ref (a 0)), (1, .int x2), (2, .int x3)]) hx hb dL_isEdge_74 hl (by decide) rfl (fun ls hl => ?_)
              refine lv_iload_n hx hb dL_isEdge_76 rfl (lv_at hl 1 rfl) ?_
              refine lv_if_eq (tgt := 105) hx hb dL_isEdge_77 (by decide) (fun _ => ?_) (fun c => absurd (by decide) c)
              refine lv_iconst (v := 0) hx hb dL_isEdge_105 (by decide) ?_
              subst R
              exact W.zret (v := 0) (ty := .boolean) hx hb hr rfl (fun t ht hW => ⟨rfl, ht⟩) (fun _ h => by cases h) dL_isEdge_106
        · replace hE := hE.trans (if_neg c_16)
          refine lv_aload_n hx hb dL_isEdge_37 rfl (lv_at hl 1 rfl) ?_
          refine lv_bipush (v := 12) hx hb dL_isEdge_38 (by decide) ?_
          refine lv_iload_n hx hb dL_isEdge_40 rfl (lv_at hl 2 rfl) ?_
          refine lv_iadd hx hb dL_isEdge_41 ?_
          refine va_iald (D := E.1) hx hb hK.1 hP 0 0 rfl rfl (rIn 12 (by decide) (by first | assumption | exact tOK.nI (by omega))) dL_isEdge_42 ?_
          refine lv_aload_n hx hb dL_isEdge_43 rfl (lv_at hl 1 rfl) ?_
          refine lv_iload_n hx hb dL_isEdge_44 rfl (lv_at hl 3 rfl) ?_
          refine va_iald (D := E.1) hx hb hK.1 hP 0 0 rfl rfl (rIn0 (by first | assumption | exact tOK.nI (by omega))) dL_isEdge_45 ?_
          refine lv_icmp_lt (tgt := 69) hx hb dL_isEdge_46 (by decide) (fun c_19 => ?_) (fun c_19 => ?_)
          · replace hE := hE.trans (if_pos c_19)
            refine lv_iconst (v := 1) hx hb dL_isEdge_69 (by decide) ?_
            refine lv_goto (tgt := 74) hx hb dL_isEdge_70 (by decide) ?_
            refine lv_istore (lv' := [(4, .int 1), (3, .int 0), (0, .ref (a 0)), (1, .int x2), (2, .int x3)]) hx hb dL_isEdge_74 hl (by decide) rfl (fun ls hl => ?_)
            refine lv_iload_n hx hb dL_isEdge_76 rfl (lv_at hl 1 rfl) ?_
            refine lv_if_eq (tgt := 105) hx hb dL_isEdge_77 (by decide) (fun _ => ?_) (fun c => absurd (by decide) c)
            refine lv_iconst (v := 0) hx hb dL_isEdge_105 (by decide) ?_
            subst R
            exact W.zret (v := 0) (ty := .boolean) hx hb hr rfl (fun t ht hW => ⟨rfl, ht⟩) (fun _ h => by cases h) dL_isEdge_106
          · replace hE := hE.trans (if_neg c_19)
            refine lv_aload_n hx hb dL_isEdge_49 rfl (lv_at hl 1 rfl) ?_
            refine lv_iload_n hx hb dL_isEdge_50 rfl (lv_at hl 3 rfl) ?_
            refine kCallRi (va_runS (As := [.ref (a 0), .int x3]) (rest := []) ⟨hx, hb, hml, hown, hts⟩ (c_L_isCommitted l E a r x3 (by first | assumption | exact tOK.nI (by omega)) _ rfl) (va_cwS 2 hts gL_isEdge_L_isCommitted rfl rfl rfl (by decide +kernel) ⟨Nat.le_of_ble_eq_true rfl, Nat.le_of_ble_eq_true rfl⟩) (kPreS hK hP) rfl rfl hl.1 rfl (lv_room (Nat.le_of_ble_eq_true rfl)) dL_isEdge_51 ⟨Nat.zero_le _, Nat.zero_le _⟩) ?_
            refine lv_if_eq (tgt := 73) hx hb dL_isEdge_54 (by decide) (fun c_20 => ?_) (fun c_20 => ?_)
            · replace hE := hE.trans (if_pos c_20)
              refine lv_iconst (v := 0) hx hb dL_isEdge_73 (by decide) ?_
              refine lv_istore (lv' := [(4, .int 0), (3, .int 0), (0, .ref (a 0)), (1, .int x2), (2, .int x3)]) hx hb dL_isEdge_74 hl (by decide) rfl (fun ls hl => ?_)
              refine lv_iload_n hx hb dL_isEdge_76 rfl (lv_at hl 1 rfl) ?_
              refine lv_if_eq (tgt := 105) hx hb dL_isEdge_77 (by decide) (fun _ => ?_) (fun c => absurd (by decide) c)
              refine lv_iconst (v := 0) hx hb dL_isEdge_105 (by decide) ?_
              subst R
              exact W.zret (v := 0) (ty := .boolean) hx hb hr rfl (fun t ht hW => ⟨rfl, ht⟩) (fun _ h => by cases h) dL_isEdge_106
            · replace hE := hE.trans (if_neg c_20)
              refine lv_aload_n hx hb dL_isEdge_57 rfl (lv_at hl 1 rfl) ?_
              refine lv_bipush (v := 12) hx hb dL_isEdge_58 (by decide) ?_
              refine lv_iload_n hx hb dL_isEdge_60 rfl (lv_at hl 3 rfl) ?_
              refine lv_iadd hx hb dL_isEdge_61 ?_
              refine va_iald (D := E.1) hx hb hK.1 hP 0 0 rfl rfl (rIn 12 (by decide) (by first | assumption | exact tOK.nI (by omega))) dL_isEdge_62 ?_
              refine lv_aload_n hx hb dL_isEdge_63 rfl (lv_at hl 1 rfl) ?_
              refine lv_iload_n hx hb dL_isEdge_64 rfl (lv_at hl 2 rfl) ?_
              refine va_iald (D := E.1) hx hb hK.1 hP 0 0 rfl rfl (rIn0 (by first | assumption | exact tOK.nI (by omega))) dL_isEdge_65 ?_
              refine lv_icmp_ge (tgt := 73) hx hb dL_isEdge_66 (by decide) (fun c_21 => ?_) (fun c_21 => ?_)
              · replace hE := hE.trans (if_pos c_21)
                refine lv_iconst (v := 0) hx hb dL_isEdge_73 (by decide) ?_
                refine lv_istore (lv' := [(4, .int 0), (3, .int 0), (0, .ref (a 0)), (1, .int x2), (2, .int x3)]) hx hb dL_isEdge_74 hl (by decide) rfl (fun ls hl => ?_)
                refine lv_iload_n hx hb dL_isEdge_76 rfl (lv_at hl 1 rfl) ?_
                refine lv_if_eq (tgt := 105) hx hb dL_isEdge_77 (by decide) (fun _ => ?_) (fun c => absurd (by decide) c)
                refine lv_iconst (v := 0) hx hb dL_isEdge_105 (by decide) ?_
                subst R
                exact W.zret (v := 0) (ty := .boolean) hx hb hr rfl (fun t ht hW => ⟨rfl, ht⟩) (fun _ h => by cases h) dL_isEdge_106
              · replace hE := hE.trans (if_neg c_21)
                refine lv_iconst (v := 1) hx hb dL_isEdge_69 (by decide) ?_
                refine lv_goto (tgt := 74) hx hb dL_isEdge_70 (by decide) ?_
                refine lv_istore (lv' := [(4, .int 1), (3, .int 0), (0, .ref (a 0)), (1, .int x2), (2, .int x3)]) hx hb dL_isEdge_74 hl (by decide) rfl (fun ls hl => ?_)
                refine lv_iload_n hx hb dL_isEdge_76 rfl (lv_at hl 1 rfl) ?_
                refine lv_if_eq (tgt := 105) hx hb dL_isEdge_77 (by decide) (fun _ => ?_) (fun c => absurd (by decide) c)
                refine lv_iconst (v := 0) hx hb dL_isEdge_105 (by decide) ?_
                subst R
                exact W.zret (v := 0) (ty := .boolean) hx hb hr rfl (fun t ht hW => ⟨rfl, ht⟩) (fun _ h => by cases h) dL_isEdge_106
      · replace hE := hE.trans (if_neg c_15)
        refine lv_iconst (v := 1) hx hb dL_isEdge_23 (by decide) ?_
        refine lv_goto (tgt := 28) hx hb dL_isEdge_24 (by decide) ?_
        refine lv_istore_n (lv' := [(3, .int 1), (0, .ref (a 0)), (1, .int x2), (2, .int x3)]) hx hb dL_isEdge_28 rfl hl (by decide) rfl (fun ls hl => ?_)
        refine lv_aload_n hx hb dL_isEdge_29 rfl (lv_at hl 1 rfl) ?_
        refine lv_iload_n hx hb dL_isEdge_30 rfl (lv_at hl 2 rfl) ?_
        refine kCallRi (va_runS (As := [.ref (a 0), .int x2]) (rest := []) ⟨hx, hb, hml, hown, hts⟩ (c_L_isCommitted l E a r x2 (by first | assumption | exact tOK.nI (by omega)) _ rfl) (va_cwS 2 hts gL_isEdge_L_isCommitted rfl rfl rfl (by decide +kernel) ⟨Nat.le_of_ble_eq_true rfl, Nat.le_of_ble_eq_true rfl⟩) (kPreS hK hP) rfl rfl hl.1 rfl (lv_room (Nat.le_of_ble_eq_true rfl)) dL_isEdge_31 ⟨Nat.zero_le _, Nat.zero_le _⟩) ?_
        refine lv_if_eq (tgt := 49) hx hb dL_isEdge_34 (by decide) (fun c_22 => ?_) (fun c_22 => ?_)
        · replace hE := hE.trans (if_pos c_22)
          refine lv_aload_n hx hb dL_isEdge_49 rfl (lv_at hl 1 rfl) ?_
          refine lv_iload_n hx hb dL_isEdge_50 rfl (lv_at hl 3 rfl) ?_
          refine kCallRi (va_runS (As := [.ref (a 0), .int x3]) (rest := []) ⟨hx, hb, hml, hown, hts⟩ (c_L_isCommitted l E a r x3 (by first | assumption | exact tOK.nI (by omega)) _ rfl) (va_cwS 2 hts gL_isEdge_L_isCommitted rfl rfl rfl (by decide +kernel) ⟨Nat.le_of_ble_eq_true rfl, Nat.le_of_ble_eq_true rfl⟩) (kPreS hK hP) rfl rfl hl.1 rfl (lv_room (Nat.le_of_ble_eq_true rfl)) dL_isEdge_51 ⟨Nat.zero_le _, Nat.zero_le _⟩) ?_
          refine lv_if_eq (tgt := 73) hx hb dL_isEdge_54 (by decide) (fun c_23 => ?_) (fun c_23 => ?_)
          · replace hE := hE.trans (if_pos c_23)
            refine lv_iconst (v := 0) hx hb dL_isEdge_73 (by decide) ?_
            refine lv_istore (lv' := [(4, .int 0), (3, .int 1), (0, .ref (a 0)), (1, .int x2), (2, .int x3)]) hx hb dL_isEdge_74 hl (by decide) rfl (fun ls hl => ?_)
            refine lv_iload_n hx hb dL_isEdge_76 rfl (lv_at hl 1 rfl) ?_
            refine lv_if_eq (tgt := 105) hx hb dL_isEdge_77 (by decide) (fun c => absurd c (by decide)) (fun _ => ?_)
            refine lv_iload hx hb dL_isEdge_80 (lv_at hl 0 rfl) ?_
            refine lv_if_ne (tgt := 105) hx hb dL_isEdge_82 (by decide) (fun c => absurd rfl c) (fun _ => ?_)
            refine lv_aload_n hx hb dL_isEdge_85 rfl (lv_at hl 2 rfl) ?_
            refine lv_bipush (v := 24) hx hb dL_isEdge_86 (by decide) ?_
            refine lv_iload_n hx hb dL_isEdge_88 rfl (lv_at hl 3 rfl) ?_
            refine lv_iadd hx hb dL_isEdge_89 ?_
            refine va_iald (D := E.1) hx hb hK.1 hP 0 0 rfl rfl (rIn 24 (by decide) (by first | assumption | exact tOK.nI (by omega))) dL_isEdge_90 ?_
            refine lv_aload_n hx hb dL_isEdge_91 rfl (lv_at hl 2 rfl) ?_
            refine lv_bipush (v := 36) hx hb dL_isEdge_92 (by decide) ?_
            refine lv_iload_n hx hb dL_isEdge_94 rfl (lv_at hl 4 rfl) ?_
            refine lv_iadd hx hb dL_isEdge_95 ?_
            refine va_iald (D := E.1) hx hb hK.1 hP 0 0 rfl rfl (rIn 36 (by decide) (by first | assumption | exact tOK.nI (by omega))) dL_isEdge_96 ?_
            refine lv_iand hx hb dL_isEdge_97 ?_
            refine lv_if_eq (tgt := 105) hx hb dL_isEdge_98 (by decide) (fun c_24 => ?_) (fun c_24 => ?_)
            · replace hE := hE.trans (if_pos c_24)
              refine lv_iconst (v := 0) hx hb dL_isEdge_105 (by decide) ?_
              subst R
              exact W.zret (v := 0) (ty := .boolean) hx hb hr rfl (fun t ht hW => ⟨rfl, ht⟩) (fun _ h => by cases h) dL_isEdge_106
            · replace hE := hE.trans (if_neg c_24)
              refine lv_iconst (v := 1) hx hb dL_isEdge_101 (by decide) ?_
              refine lv_goto (tgt := 106) hx hb dL_isEdge_102 (by decide) ?_
              subst R
              exact W.zret (v := 1) (ty := .boolean) hx hb hr rfl (fun t ht hW => ⟨rfl, ht⟩) (fun _ h => by cases h) dL_isEdge_106
          · replace hE := hE.trans (if_neg c_23)
            refine lv_aload_n hx hb dL_isEdge_57 rfl (lv_at hl 1 rfl) ?_
            refine lv_bipush (v := 12) hx hb dL_isEdge_58 (by decide) ?_
            refine lv_iload_n hx hb dL_isEdge_60 rfl (lv_at hl 3 rfl) ?_
            refine lv_iadd hx hb dL_isEdge_61 ?_
            refine va_iald (D := E.1) hx hb hK.1 hP 0 0 rfl rfl (rIn 12 (by decide) (by first | assumption | exact tOK.nI (by omega))) dL_isEdge_62 ?_
            refine lv_aload_n hx hb dL_isEdge_63 rfl (lv_at hl 1 rfl) ?_
            refine lv_iload_n hx hb dL_isEdge_64 rfl (lv_at hl 2 rfl) ?_
            refine va_iald (D := E.1) hx hb hK.1 hP 0 0 rfl rfl (rIn0 (by first | assumption | exact tOK.nI (by omega))) dL_isEdge_65 ?_
            refine lv_icmp_ge (tgt := 73) hx hb dL_isEdge_66 (by decide) (fun c_25 => ?_) (fun c_25 => ?_)
            · replace hE := hE.trans (if_pos c_25)
              refine lv_iconst (v := 0) hx hb dL_isEdge_73 (by decide) ?_
              refine lv_istore (lv' := [(4, .int 0), (3, .int 1), (0, .ref (a 0)), (1, .int x2), (2, .int x3)]) hx hb dL_isEdge_74 hl (by decide) rfl (fun ls hl => ?_)
              refine lv_iload_n hx hb dL_isEdge_76 rfl (lv_at hl 1 rfl) ?_
              refine lv_if_eq (tgt := 105) hx hb dL_isEdge_77 (by decide) (fun c => absurd c (by decide)) (fun _ => ?_)
              refine lv_iload hx hb dL_isEdge_80 (lv_at hl 0 rfl) ?_
              refine lv_if_ne (tgt := 105) hx hb dL_isEdge_82 (by decide) (fun c => absurd rfl c) (fun _ => ?_)
              refine lv_aload_n hx hb dL_isEdge_85 rfl (lv_at hl 2 rfl) ?_
              refine lv_bipush (v := 24) hx hb dL_isEdge_86 (by decide) ?_
              refine lv_iload_n hx hb dL_isEdge_88 rfl (lv_at hl 3 rfl) ?_
              refine lv_iadd hx hb dL_isEdge_89 ?_
              refine va_iald (D := E.1) hx hb hK.1 hP 0 0 rfl rfl (rIn 24 (by decide) (by first | assumption | exact tOK.nI (by omega))) dL_isEdge_90 ?_
              refine lv_aload_n hx hb dL_isEdge_91 rfl (lv_at hl 2 rfl) ?_
              refine lv_bipush (v := 36) hx hb dL_isEdge_92 (by decide) ?_
              refine lv_iload_n hx hb dL_isEdge_94 rfl (lv_at hl 4 rfl) ?_
              refine lv_iadd hx hb dL_isEdge_95 ?_
              refine va_iald (D := E.1) hx hb hK.1 hP 0 0 rfl rfl (rIn 36 (by decide) (by first | assumption | exact tOK.nI (by omega))) dL_isEdge_96 ?_
              refine lv_iand hx hb dL_isEdge_97 ?_
              refine lv_if_eq (tgt := 105) hx hb dL_isEdge_98 (by decide) (fun c_26 => ?_) (fun c_26 => ?_)
              · replace hE := hE.trans (if_pos c_26)
                refine lv_iconst (v := 0) hx hb dL_isEdge_105 (by decide) ?_
                subst R
                exact W.zret (v := 0) (ty := .boolean) hx hb hr rfl (fun t ht hW => ⟨rfl, ht⟩) (fun _ h => by cases h) dL_isEdge_106
              · replace hE := hE.trans (if_neg c_26)
                refine lv_iconst (v := 1) hx hb dL_isEdge_101 (by decide) ?_
                refine lv_goto (tgt := 106) hx hb dL_isEdge_102 (by decide) ?_
                subst R
                exact W.zret (v := 1) (ty := .boolean) hx hb hr rfl (fun t ht hW => ⟨rfl, ht⟩) (fun _ h => by cases h) dL_isEdge_106
            · replace hE := hE.trans (if_neg c_25)
              refine lv_iconst (v := 1) hx hb dL_isEdge_69 (by decide) ?_
              refine lv_goto (tgt := 74) hx hb dL_isEdge_70 (by decide) ?_
              refine lv_istore (lv' := [(4, .int 1), (3, .int 1), (0, .ref (a 0)), (1, .int x2), (2, .int x3)]) hx hb dL_isEdge_74 hl (by decide) rfl (fun ls hl => ?_)
              refine lv_iload_n hx hb dL_isEdge_76 rfl (lv_at hl 1 rfl) ?_
              refine lv_if_eq (tgt := 105) hx hb dL_isEdge_77 (by decide) (fun c => absurd c (by decide)) (fun _ => ?_)
              refine lv_iload hx hb dL_isEdge_80 (lv_at hl 0 rfl) ?_
              refine lv_if_ne (tgt := 105) hx hb dL_isEdge_82 (by decide) (fun _ => ?_) (fun c => absurd c (by decide))
              refine lv_iconst (v := 0) hx hb dL_isEdge_105 (by decide) ?_
              subst R
              exact W.zret (v := 0) (ty := .boolean) hx hb hr rfl (fun t ht hW => ⟨rfl, ht⟩) (fun _ h => by cases h) dL_isEdge_106
        · replace hE := hE.trans (if_neg c_22)
          refine lv_aload_n hx hb dL_isEdge_37 rfl (lv_at hl 1 rfl) ?_
          refine lv_bipush (v := 12) hx hb dL_isEdge_38 (by decide) ?_
          refine lv_iload_n hx hb dL_isEdge_40 rfl (lv_at hl 2 rfl) ?_
          refine lv_iadd hx hb dL_isEdge_41 ?_
          refine va_iald (D := E.1) hx hb hK.1 hP 0 0 rfl rfl (rIn 12 (by decide) (by first | assumption | exact tOK.nI (by omega))) dL_isEdge_42 ?_
          refine lv_aload_n hx hb dL_isEdge_43 rfl (lv_at hl 1 rfl) ?_
          refine lv_iload_n hx hb dL_isEdge_44 rfl (lv_at hl 3 rfl) ?_
          refine va_iald (D := E.1) hx hb hK.1 hP 0 0 rfl rfl (rIn0 (by first | assumption | exact tOK.nI (by omega))) dL_isEdge_45 ?_
          refine lv_icmp_lt (tgt := 69) hx hb dL_isEdge_46 (by decide) (fun c_27 => ?_) (fun c_27 => ?_)
          · replace hE := hE.trans (if_pos c_27)
            refine lv_iconst (v := 1) hx hb dL_isEdge_69 (by decide) ?_
            refine lv_goto (tgt := 74) hx hb dL_isEdge_70 (by decide) ?_
            refine lv_istore (lv' := [(4, .int 1), (3, .int 1), (0, .ref (a 0)), (1, .int x2), (2, .int x3)]) hx hb dL_isEdge_74 hl (by decide) rfl (fun ls hl => ?_)
            refine lv_iload_n hx hb dL_isEdge_76 rfl (lv_at hl 1 rfl) ?_
            refine lv_if_eq (tgt := 105) hx hb dL_isEdge_77 (by decide) (fun c => absurd c (by decide)) (fun _ => ?_)
            refine lv_iload hx hb dL_isEdge_80 (lv_at hl 0 rfl) ?_
            refine lv_if_ne (tgt := 105) hx hb dL_isEdge_82 (by decide) (fun _ => ?_) (fun c => absurd c (by decide))
            refine lv_iconst (v := 0) hx hb dL_isEdge_105 (by decide) ?_
            subst R
            exact W.zret (v := 0) (ty := .boolean) hx hb hr rfl (fun t ht hW => ⟨rfl, ht⟩) (fun _ h => by cases h) dL_isEdge_106
          · replace hE := hE.trans (if_neg c_27)
            refine lv_aload_n hx hb dL_isEdge_49 rfl (lv_at hl 1 rfl) ?_
            refine lv_iload_n hx hb dL_isEdge_50 rfl (lv_at hl 3 rfl) ?_
            refine kCallRi (va_runS (As := [.ref (a 0), .int x3]) (rest := []) ⟨hx, hb, hml, hown, hts⟩ (c_L_isCommitted l E a r x3 (by first | assumption | exact tOK.nI (by omega)) _ rfl) (va_cwS 2 hts gL_isEdge_L_isCommitted rfl rfl rfl (by decide +kernel) ⟨Nat.le_of_ble_eq_true rfl, Nat.le_of_ble_eq_true rfl⟩) (kPreS hK hP) rfl rfl hl.1 rfl (lv_room (Nat.le_of_ble_eq_true rfl)) dL_isEdge_51 ⟨Nat.zero_le _, Nat.zero_le _⟩) ?_
            refine lv_if_eq (tgt := 73) hx hb dL_isEdge_54 (by decide) (fun c_28 => ?_) (fun c_28 => ?_)
            · replace hE := hE.trans (if_pos c_28)
              refine lv_iconst (v := 0) hx hb dL_isEdge_73 (by decide) ?_
              refine lv_istore (lv' := [(4, .int 0), (3, .int 1), (0, .ref (a 0)), (1, .int x2), (2, .int x3)]) hx hb dL_isEdge_74 hl (by decide) rfl (fun ls hl => ?_)
              refine lv_iload_n hx hb dL_isEdge_76 rfl (lv_at hl 1 rfl) ?_
              refine lv_if_eq (tgt := 105) hx hb dL_isEdge_77 (by decide) (fun c => absurd c (by decide)) (fun _ => ?_)
              refine lv_iload hx hb dL_isEdge_80 (lv_at hl 0 rfl) ?_
              refine lv_if_ne (tgt := 105) hx hb dL_isEdge_82 (by decide) (fun c => absurd rfl c) (fun _ => ?_)
              refine lv_aload_n hx hb dL_isEdge_85 rfl (lv_at hl 2 rfl) ?_
              refine lv_bipush (v := 24) hx hb dL_isEdge_86 (by decide) ?_
              refine lv_iload_n hx hb dL_isEdge_88 rfl (lv_at hl 3 rfl) ?_
              refine lv_iadd hx hb dL_isEdge_89 ?_
              refine va_iald (D := E.1) hx hb hK.1 hP 0 0 rfl rfl (rIn 24 (by decide) (by first | assumption | exact tOK.nI (by omega))) dL_isEdge_90 ?_
              refine lv_aload_n hx hb dL_isEdge_91 rfl (lv_at hl 2 rfl) ?_
              refine lv_bipush (v := 36) hx hb dL_isEdge_92 (by decide) ?_
              refine lv_iload_n hx hb dL_isEdge_94 rfl (lv_at hl 4 rfl) ?_
              refine lv_iadd hx hb dL_isEdge_95 ?_
              refine va_iald (D := E.1) hx hb hK.1 hP 0 0 rfl rfl (rIn 36 (by decide) (by first | assumption | exact tOK.nI (by omega))) dL_isEdge_96 ?_
              refine lv_iand hx hb dL_isEdge_97 ?_
              refine lv_if_eq (tgt := 105) hx hb dL_isEdge_98 (by decide) (fun c_29 => ?_) (fun c_29 => ?_)
              · replace hE := hE.trans (if_pos c_29)
                refine lv_iconst (v := 0) hx hb dL_isEdge_105 (by decide) ?_
                subst R
                exact W.zret (v := 0) (ty := .boolean) hx hb hr rfl (fun t ht hW => ⟨rfl, ht⟩) (fun _ h => by cases h) dL_isEdge_106
              · replace hE := hE.trans (if_neg c_29)
                refine lv_iconst (v := 1) hx hb dL_isEdge_101 (by decide) ?_
                refine lv_goto (tgt := 106) hx hb dL_isEdge_102 (by decide) ?_
                subst R
                exact W.zret (v := 1) (ty := .boolean) hx hb hr rfl (fun t ht hW => ⟨rfl, ht⟩) (fun _ h => by cases h) dL_isEdge_106
            · replace hE := hE.trans (if_neg c_28)
              refine lv_aload_n hx hb dL_isEdge_57 rfl (lv_at hl 1 rfl) ?_
              refine lv_bipush (v := 12) hx hb dL_isEdge_58 (by decide) ?_
              refine lv_iload_n hx hb dL_isEdge_60 rfl (lv_at hl 3 rfl) ?_
              refine lv_iadd hx hb dL_isEdge_61 ?_
              refine va_iald (D := E.1) hx hb hK.1 hP 0 0 rfl rfl (rIn 12 (by decide) (by first | assumption | exact tOK.nI (by omega))) dL_isEdge_62 ?_
              refine lv_aload_n hx hb dL_isEdge_63 rfl (lv_at hl 1 rfl) ?_
              refine lv_iload_n hx hb dL_isEdge_64 rfl (lv_at hl 2 rfl) ?_
              refine va_iald (D := E.1) hx hb hK.1 hP 0 0 rfl rfl (rIn0 (by first | assumption | exact tOK.nI (by omega))) dL_isEdge_65 ?_
              refine lv_icmp_ge (tgt := 73) hx hb dL_isEdge_66 (by decide) (fun c_30 => ?_) (fun c_30 => ?_)
              · replace hE := hE.trans (if_pos c_30)
                refine lv_iconst (v := 0) hx hb dL_isEdge_73 (by decide) ?_
                refine lv_istore (lv' := [(4, .int 0), (3, .int 1), (0, .ref (a 0)), (1, .int x2), (2, .int x3)]) hx hb dL_isEdge_74 hl (by decide) rfl (fun ls hl => ?_)
                refine lv_iload_n hx hb dL_isEdge_76 rfl (lv_at hl 1 rfl) ?_
                refine lv_if_eq (tgt := 105) hx hb dL_isEdge_77 (by decide) (fun c => absurd c (by decide)) (fun _ => ?_)
                refine lv_iload hx hb dL_isEdge_80 (lv_at hl 0 rfl) ?_
                refine lv_if_ne (tgt := 105) hx hb dL_isEdge_82 (by decide) (fun c => absurd rfl c) (fun _ => ?_)
                refine lv_aload_n hx hb dL_isEdge_85 rfl (lv_at hl 2 rfl) ?_
                refine lv_bipush (v := 24) hx hb dL_isEdge_86 (by decide) ?_
                refine lv_iload_n hx hb dL_isEdge_88 rfl (lv_at hl 3 rfl) ?_
                refine lv_iadd hx hb dL_isEdge_89 ?_
                refine va_iald (D := E.1) hx hb hK.1 hP 0 0 rfl rfl (rIn 24 (by decide) (by first | assumption | exact tOK.nI (by omega))) dL_isEdge_90 ?_
                refine lv_aload_n hx hb dL_isEdge_91 rfl (lv_at hl 2 rfl) ?_
                refine lv_bipush (v := 36) hx hb dL_isEdge_92 (by decide) ?_
                refine lv_iload_n hx hb dL_isEdge_94 rfl (lv_at hl 4 rfl) ?_
                refine lv_iadd hx hb dL_isEdge_95 ?_
                refine va_iald (D := E.1) hx hb hK.1 hP 0 0 rfl rfl (rIn 36 (by decide) (by first | assumption | exact tOK.nI (by omega))) dL_isEdge_96 ?_
                refine lv_iand hx hb dL_isEdge_97 ?_
                refine lv_if_eq (tgt := 105) hx hb dL_isEdge_98 (by decide) (fun c_31 => ?_) (fun c_31 => ?_)
                · replace hE := hE.trans (if_pos c_31)
                  refine lv_iconst (v := 0) hx hb dL_isEdge_105 (by decide) ?_
                  subst R
                  exact W.zret (v := 0) (ty := .boolean) hx hb hr rfl (fun t ht hW => ⟨rfl, ht⟩) (fun _ h => by cases h) dL_isEdge_106
                · replace hE := hE.trans (if_neg c_31)
                  refine lv_iconst (v := 1) hx hb dL_isEdge_101 (by decide) ?_
                  refine lv_goto (tgt := 106) hx hb dL_isEdge_102 (by decide) ?_
                  subst R
                  exact W.zret (v := 1) (ty := .boolean) hx hb hr rfl (fun t ht hW => ⟨rfl, ht⟩) (fun _ h => by cases h) dL_isEdge_106
              · replace hE := hE.trans (if_neg c_30)
                refine lv_iconst (v := 1) hx hb dL_isEdge_69 (by decide) ?_
                refine lv_goto (tgt := 74) hx hb dL_isEdge_70 (by decide) ?_
                refine lv_istore (lv' := [(4, .int 1), (3, .int 1), (0, .ref (a 0)), (1, .int x2), (2, .int x3)]) hx hb dL_isEdge_74 hl (by decide) rfl (fun ls hl => ?_)
                refine lv_iload_n hx hb dL_isEdge_76 rfl (lv_at hl 1 rfl) ?_
                refine lv_if_eq (tgt := 105) hx hb dL_isEdge_77 (by decide) (fun c => absurd c (by decide)) (fun _ => ?_)
                refine lv_iload hx hb dL_isEdge_80 (lv_at hl 0 rfl) ?_
                refine lv_if_ne (tgt := 105) hx hb dL_isEdge_82 (by decide) (fun _ => ?_) (fun c => absurd c (by decide))
                refine lv_iconst (v := 0) hx hb dL_isEdge_105 (by decide) ?_
                subst R
                exact W.zret (v := 0) (ty := .boolean) hx hb hr rfl (fun t ht hW => ⟨rfl, ht⟩) (fun _ h => by cases h) dL_isEdge_106
def mL_counts (r : kG) (x2 : Int32) (x3 : Int32) (x4 : Int32) (x5 : Int32) : Int32 :=
  if ((r 0) ((12 + x4)).toNatClampNeg) ≤ ((r 0) ((12 + x5)).toNatClampNeg) then
    if x2 = 2 then
      if ((r 0) ((36 + x3)).toNatClampNeg) = 0 then
        if 3 ≤ x2 then
          0
        else
          0
      else
        if 3 ≤ x2 then
          0
        else
          0
    else
      if x2 = 0 then
        1
      else
        if 3 ≤ x2 then
          0
        else
          0
  else
    if x5 = x3 then
      if x2 = 2 then
        if ((r 0) ((36 + x3)).toNatClampNeg) = 0 then
          if 3 ≤ x2 then
            0
          else
            if ((r 0) (x3).toNatClampNeg) ≤ ((r 0) ((12 + x5)).toNatClampNeg) then
              0
            else
              1
        else
          if 3 ≤ x2 then
            0
          else
            1
      else
        if x2 = 0 then
          1
        else
          if 3 ≤ x2 then
            0
          else
            1
    else
      if ((r 0) ((12 + x3)).toNatClampNeg) ≤ ((r 0) ((12 + x5)).toNatClampNeg) then
        if x2 = 2 then
          if ((r 0) ((36 + x3)).toNatClampNeg) = 0 then
            if 3 ≤ x2 then
              0
            else
              0
          else
            if 3 ≤ x2 then
              0
            else
              0
        else
          if x2 = 0 then
            1
          else
            if 3 ≤ x2 then
              0
            else
              0
      else
        if x2 = 2 then
          if ((r 0) ((36 + x3)).toNatClampNeg) = 0 then
            if 3 ≤ x2 then
              0
            else
              if ((r 0) (x3).toNatClampNeg) ≤ ((r 0) ((12 + x5)).toNatClampNeg) then
                0
              else
                1
          else
            if 3 ≤ x2 then
              0
            else
              1
        else
          if x2 = 0 then
            1
          else
            if 3 ≤ x2 then
              0
            else
              1
theorem mL_counts_s {r : kG} {x2 : Int32} {x3 : Int32} {x4 : Int32} {x5 : Int32} : mL_counts r x2 x3 x4 x5 = (
  if ((r 0) ((12 + x4)).toNatClampNeg) ≤ ((r 0) ((12 + x5)).toNatClampNeg) then
    if x2 = 2 then
      if ((r 0) ((36 + x3)).toNatClampNeg) = 0 then
        if 3 ≤ x2 then
          0
        else
          0
      else
        if 3 ≤ x2 then
          0
        else
          0
    else
      if x2 = 0 then
        1
      else
        if 3 ≤ x2 then
          0
        else
          0
  else
    if x5 = x3 then
      if x2 = 2 then
        if ((r 0) ((36 + x3)).toNatClampNeg) = 0 then
          if 3 ≤ x2 then
            0
          else
            if ((r 0) (x3).toNatClampNeg) ≤ ((r 0) ((12 + x5)).toNatClampNeg) then
              0
            else
              1
        else
          if 3 ≤ x2 then
            0
          else
            1
      else
        if x2 = 0 then
          1
        else
          if 3 ≤ x2 then
            0
          else
            1
    else
      if ((r 0) ((12 + x3)).toNatClampNeg) ≤ ((r 0) ((12 + x5)).toNatClampNeg) then
        if x2 = 2 then
          if ((r 0) ((36 + x3)).toNatClampNeg) = 0 then
            if 3 ≤ x2 then
              0
            else
              0
          else
            if 3 ≤ x2 then
              0
            else
              0
        else
          if x2 = 0 then
            1
          else
            if 3 ≤ x2 then
              0
            else
              0
      else
        if x2 = 2 then
          if ((r 0) ((36 + x3)).toNatClampNeg) = 0 then
            if 3 ≤ x2 then
              0
            else
              if ((r 0) (x3).toNatClampNeg) ≤ ((r 0) ((12 + x5)).toNatClampNeg) then
                0
              else
                1
          else
            if 3 ≤ x2 then
              0
            else
              1
        else
          if x2 = 0 then
            1
          else
            if 3 ≤ x2 then
              0
            else
              1 : Int32) := rfl
set_option maxHeartbeats 400000 in
set_option maxRecDepth 100000 in
theorem c_L_counts (l : Launch) (E : kE) (a : Nat → Nat) (r : kG) (x2 : Int32) (x3 : Int32) (x4 : Int32) (x5 : Int32) (ha : tOK x3) (hp : tOK x4) (hc : tOK x5) (R : Int32) (hE : R = mL_counts r x2 x3 x4 x5) : Met l yL_counts wsL_counts ({ frames := 0, cells := 0, slots := 0, locals := 0 }) (kPre E [.ref (a 0), .int x2, .int x3, .int x4, .int x5] (wRx E a (r 0))) (kRi R) 0 0 (fun _ => False) := by
  refine Met.ofW (cc := cL_counts) (maxL := 7) (ret := (some .boolean)) (by decide) rfl ?_
  intro p e s m args below meth c s₁ B hml hv
  obtain ⟨rfl, hK, hP⟩ := hv
  have hx := B.exec
  have hb := B.bytes
  have hr := B.returns
  have hts := atoms_spec (ws := wsL_counts) B.pre
  have hown : s.vm.findClass RL = some m.cls := findClass_of_methodNamed B.named
  have hlocks := B.notSynchronized
  have hP : va_P E.1 vwCl (wRx E a (r 0)) s.heap := hP
  have hl := lv_entry ([.ref (a 0), .int x2, .int x3, .int x4, .int x5]) (n := 7) (Nat.le_of_ble_eq_true rfl)
  rw [lg_entry_eq]
  generalize (lg_sl ([.ref (a 0), .int x2, .int x3, .int x4, .int x5]) ++ List.replicate (7 - (lg_sl ([.ref (a 0), .int x2, .int x3, .int x4, .int x5])).length) Slot.unset).toArray = ls at hl ⊢
  have hl : lv_has ls 7 [(0, .ref (a 0)), (1, .int x2), (2, .int x3), (3, .int x4), (4, .int x5)] := hl
  replace hE := hE.trans mL_counts_s
  refine lv_aload_n hx hb dL_counts_0 rfl (lv_at hl 0 rfl) ?_
  refine lv_bipush (v := 12) hx hb dL_counts_1 (by decide) ?_
  refine lv_iload hx hb dL_counts_3 (lv_at hl 4 rfl) ?_
  refine lv_iadd hx hb dL_counts_5 ?_
  refine va_iald (D := E.1) hx hb hK.1 hP 0 0 rfl rfl (rIn 12 (by decide) (by first | assumption | exact tOK.nI (by omega))) dL_counts_6 ?_
  refine lv_aload_n hx hb dL_counts_7 rfl (lv_at hl 0 rfl) ?_
  refine lv_bipush (v := 12) hx hb dL_counts_8 (by decide) ?_
  refine lv_iload_n hx hb dL_counts_10 rfl (lv_at hl 3 rfl) ?_
  refine lv_iadd hx hb dL_counts_11 ?_
  refine va_iald (D := E.1) hx hb hK.1 hP 0 0 rfl rfl (rIn 12 (by decide) (by first | assumption | exact tOK.nI (by omega))) dL_counts_12 ?_
  refine lv_icmp_ge (tgt := 42) hx hb dL_counts_13 (by decide) (fun c_1 => ?_) (fun c_1 => ?_)
  · replace hE := hE.trans (if_pos c_1)
    refine lv_iconst (v := 0) hx hb dL_counts_42 (by decide) ?_
    refine lv_istore (lv' := [(5, .int 0), (0, .ref (a 0)), (1, .int x2), (2, .int x3), (3, .int x4), (4, .int x5)]) hx hb dL_counts_43 hl (by decide) rfl (fun ls hl => ?_)
    refine lv_iload_n hx hb dL_counts_45 rfl (lv_at hl 2 rfl) ?_
    refine lv_iconst (v := 2) hx hb dL_counts_46 (by decide) ?_
    refine lv_icmp_ne (tgt := 63) hx hb dL_counts_47 (by decide) (fun c_2 => ?_) (fun c_2 => ?_)
    · replace hE := hE.trans (if_neg c_2)
      refine lv_iconst (v := 0) hx hb dL_counts_63 (by decide) ?_
      refine lv_istore (lv' := [(6, .int 0), (5, .int 0), (0, .ref (a 0)), (1, .int x2), (2, .int x3), (3, .int x4), (4, .int x5)]) hx hb dL_counts_64 hl (by decide) rfl (fun ls hl => ?_)
      refine lv_iload_n hx hb dL_counts_66 rfl (lv_at hl 3 rfl) ?_
      refine lv_if_eq (tgt := 98) hx hb dL_counts_67 (by decide) (fun c_3 => ?_) (fun c_3 => ?_)
      · replace hE := hE.trans (if_pos c_3)
        refine lv_iconst (v := 1) hx hb dL_counts_98 (by decide) ?_
        refine lv_goto (tgt := 103) hx hb dL_counts_99 (by decide) ?_
        subst R
        exact W.zret (v := 1) (ty := .boolean) hx hb hr rfl (fun t ht hW => ⟨rfl, ht⟩) (fun _ h => by cases h) dL_counts_103
      · replace hE := hE.trans (if_neg c_3)
        refine lv_iload_n hx hb dL_counts_70 rfl (lv_at hl 3 rfl) ?_
        refine lv_iconst (v := 3) hx hb dL_counts_71 (by decide) ?_
        refine lv_icmp_ge (tgt := 102) hx hb dL_counts_72 (by decide) (fun c_4 => ?_) (fun c_4 => ?_)
        · replace hE := hE.trans (if_pos c_4)
          refine lv_iconst (v := 0) hx hb dL_counts_102 (by decide) ?_
          subst R
          exact W.zret (v := 0) (ty := .boolean) hx hb hr rfl (fun t ht hW => ⟨rfl, ht⟩) (fun _ h => by cases h) dL_counts_103
        · replace hE := hE.trans (if_neg c_4)
          refine lv_iload hx hb dL_counts_75 (lv_at hl 1 rfl) ?_
          refine lv_if_eq (tgt := 102) hx hb dL_counts_77 (by decide) (fun _ => ?_) (fun c => absurd (by decide) c)
          refine lv_iconst (v := 0) hx hb dL_counts_102 (by decide) ?_
          subst R
          exact W.zret (v := 0) (ty := .boolean) hx hb hr rfl (fun t ht hW => ⟨rfl, ht⟩) (fun _ h => by cases h) dL_counts_103
    · replace hE := hE.trans (if_pos c_2)
      refine lv_aload_n hx hb dL_counts_50 rfl (lv_at hl 1 rfl) ?_
      refine lv_bipush (v := 36) hx hb dL_counts_51 (by decide) ?_
      refine lv_iload_n hx hb dL_counts_53 rfl (lv_at hl 3 rfl) ?_
      refine lv_iadd hx hb dL_counts_54 ?_
      refine va_iald (D := E.1) hx hb hK.1 hP 0 0 rfl rfl (rIn 36 (by decide) (by first | assumption | exact tOK.nI (by omega))) dL_counts_55 ?_
      refine lv_if_ne (tgt := 63) hx hb dL_counts_56 (by decide) (fun c_5 => ?_) (fun c_5 => ?_)
      · replace hE := hE.trans (if_neg c_5)
        refine lv_iconst (v := 0) hx hb dL_counts_63 (by decide) ?_
        refine lv_istore (lv' := [(6, .int 0), (5, .int 0), (0, .ref (a 0)), (1, .int x2), (2, .int x3), (3, .int x4), (4, .int x5)]) hx hb dL_counts_64 hl (by decide) rfl (fun ls hl => ?_)
        refine lv_iload_n hx hb dL_counts_66 rfl (lv_at hl 3 rfl) ?_
        refine lv_if_eq (tgt := 98) hx hb dL_counts_67 (by decide) (fun c => absurd (c_2.symm.trans c) (by decide)) (fun _ => ?_)
        refine lv_iload_n hx hb dL_counts_70 rfl (lv_at hl 3 rfl) ?_
        refine lv_iconst (v := 3) hx hb dL_counts_71 (by decide) ?_
        refine lv_icmp_ge (tgt := 102) hx hb dL_counts_72 (by decide) (fun c_6 => ?_) (fun c_6 => ?_)
        · replace hE := hE.trans (if_pos c_6)
          refine lv_iconst (v := 0) hx hb dL_counts_102 (by decide) ?_
          subst R
          exact W.zret (v := 0) (ty := .boolean) hx hb hr rfl (fun t ht hW => ⟨rfl, ht⟩) (fun _ h => by cases h) dL_counts_103
        · replace hE := hE.trans (if_neg c_6)
          refine lv_iload hx hb dL_counts_75 (lv_at hl 1 rfl) ?_
          refine lv_if_eq (tgt := 102) hx hb dL_counts_77 (by decide) (fun _ => ?_) (fun c => absurd (by decide) c)
          refine lv_iconst (v := 0) hx hb dL_counts_102 (by decide) ?_
          subst R
          exact W.zret (v := 0) (ty := .boolean) hx hb hr rfl (fun t ht hW => ⟨rfl, ht⟩) (fun _ h => by cases h) dL_counts_103
      · replace hE := hE.trans (if_pos c_5)
        refine lv_iconst (v := 1) hx hb dL_counts_59 (by decide) ?_
        refine lv_goto (tgt := 64) hx hb dL_counts_60 (by decide) ?_
        refine lv_istore (lv' := [(6, .int 1), (5, .int 0), (0, .ref (a 0)), (1, .int x2), (2, .int x3), (3, .int x4), (4, .int x5)]) hx hb dL_counts_64 hl (by decide) rfl (fun ls hl => ?_)
        refine lv_iload_n hx hb dL_counts_66 rfl (lv_at hl 3 rfl) ?_
        refine lv_if_eq (tgt := 98) hx hb dL_counts_67 (by decide) (fun c => absurd (c_2.symm.trans c) (by decide)) (fun _ => ?_)
        refine lv_iload_n hx hb dL_counts_70 rfl (lv_at hl 3 rfl) ?_
        refine lv_iconst (v := 3) hx hb dL_counts_71 (by decide) ?_
        refine lv_icmp_ge (tgt := 102) hx hb dL_counts_72 (by decide) (fun c_7 => ?_) (fun c_7 => ?_)
        · replace hE := hE.trans (if_pos c_7)
          refine lv_iconst (v := 0) hx hb dL_counts_102 (by decide) ?_
          subst R
          exact W.zret (v := 0) (ty := .boolean) hx hb hr rfl (fun t ht hW => ⟨rfl, ht⟩) (fun _ h => by cases h) dL_counts_103
        · replace hE := hE.trans (if_neg c_7)
          refine lv_iload hx hb dL_counts_75 (lv_at hl 1 rfl) ?_
          refine lv_if_eq (tgt := 102) hx hb dL_counts_77 (by decide) (fun _ => ?_) (fun c => absurd (by decide) c)
          refine lv_iconst (v := 0) hx hb dL_counts_102 (by decide) ?_
          subst R
          exact W.zret (v := 0) (ty := .boolean) hx hb hr rfl (fun t ht hW => ⟨rfl, ht⟩) (fun _ h => by cases h) dL_counts_103
  · replace hE := hE.trans (if_neg c_1)
    refine lv_iload hx hb dL_counts_16 (lv_at hl 4 rfl) ?_
    refine lv_iload_n hx hb dL_counts_18 rfl (lv_at hl 2 rfl) ?_
    refine lv_icmp_eq (tgt := 38) hx hb dL_counts_19 (by decide) (fun c_8 => ?_) (fun c_8 => ?_)
    · replace hE := hE.trans (if_pos c_8)
      refine lv_iconst (v := 1) hx hb dL_counts_38 (by decide) ?_
      refine lv_goto (tgt := 43) hx hb dL_counts_39 (by decide) ?_
      refine lv_istore (lv' := [(5, .int 1), (0, .ref (a 0)), (1, .int x2), (2, .int x3), (3, .int x4), (4, .int x5)]) hx hb dL_counts_43 hl (by decide) rfl (fun ls hl => ?_)
      refine lv_iload_n hx hb dL_counts_45 rfl (lv_at hl 2 rfl) ?_
      refine lv_iconst (v := 2) hx hb dL_counts_46 (by decide) ?_
      refine lv_icmp_ne (tgt := 63) hx hb dL_counts_47 (by decide) (fun c_9 => ?_) (fun c_9 => ?_)
      · replace hE := hE.trans (if_neg c_9)
        refine lv_iconst (v := 0) hx hb dL_counts_63 (by decide) ?_
        refine lv_istore (lv' := [(6, .int 0), (5, .int 1), (0, .ref (a 0)), (1, .int x2), (2, .int x3), (3, .int x4), (4, .int x5)]) hx hb dL_counts_64 hl (by decide) rfl (fun ls hl => ?_)
        refine lv_iload_n hx hb dL_counts_66 rfl (lv_at hl 3 rfl) ?_
        refine lv_if_eq (tgt := 98) hx hb dL_counts_67 (by decide) (fun c_10 => ?_) (fun c_10 => ?_)
        · replace hE := hE.trans (if_pos c_10)
          refine lv_iconst (v := 1) hx hb dL_counts_98 (by decide) ?_
          refine lv_goto (tgt := 103) hx hb dL_counts_99 (by decide) ?_
          subst R
          exact W.zret (v := 1) (ty := .boolean) hx hb hr rfl (fun t ht hW => ⟨rfl, ht⟩) (fun _ h => by cases h) dL_counts_103
        · replace hE := hE.trans (if_neg c_10)
          refine lv_iload_n hx hb dL_counts_70 rfl (lv_at hl 3 rfl) ?_
          refine lv_iconst (v := 3) hx hb dL_counts_71 (by decide) ?_
          refine lv_icmp_ge (tgt := 102) hx hb dL_counts_72 (by decide) (fun c_11 => ?_) (fun c_11 => ?_)
          · replace hE := hE.trans (if_pos c_11)
            refine lv_iconst (v := 0) hx hb dL_counts_102 (by decide) ?_
            subst R
            exact W.zret (v := 0) (ty := .boolean) hx hb hr rfl (fun t ht hW => ⟨rfl, ht⟩) (fun _ h => by cases h) dL_counts_103
          · replace hE := hE.trans (if_neg c_11)
            refine lv_iload hx hb dL_counts_75 (lv_at hl 1 rfl) ?_
            refine lv_if_eq (tgt := 102) hx hb dL_counts_77 (by decide) (fun c => absurd c (by decide)) (fun _ => ?_)
            refine lv_iload hx hb dL_counts_80 (lv_at hl 0 rfl) ?_
            refine lv_if_eq (tgt := 98) hx hb dL_counts_82 (by decide) (fun _ => ?_) (fun c => absurd (by decide) c)
            refine lv_iconst (v := 1) hx hb dL_counts_98 (by decide) ?_
            refine lv_goto (tgt := 103) hx hb dL_counts_99 (by decide) ?_
            subst R
            exact W.zret (v := 1) (ty := .boolean) hx hb hr rfl (fun t ht hW => ⟨rfl, ht⟩) (fun _ h => by cases h) dL_counts_103
      · replace hE := hE.trans (if_pos c_9)
        refine lv_aload_n hx hb dL_counts_50 rfl (lv_at hl 1 rfl) ?_
        refine lv_bipush (v := 36) hx hb dL_counts_51 (by decide) ?_
        refine lv_iload_n hx hb dL_counts_53 rfl (lv_at hl 3 rfl) ?_
        refine lv_iadd hx hb dL_counts_54 ?_
        refine va_iald (D := E.1) hx hb hK.1 hP 0 0 rfl rfl (rIn 36 (by decide) (by first | assumption | exact tOK.nI (by omega))) dL_counts_55 ?_
        refine lv_if_ne (tgt := 63) hx hb dL_counts_56 (by decide) (fun c_12 => ?_) (fun c_12 => ?_)
        · replace hE := hE.trans (if_neg c_12)
          refine lv_iconst (v := 0) hx hb dL_counts_63 (by decide) ?_
          refine lv_istore (lv' := [(6, .int 0), (5, .int 1), (0, .ref (a 0)), (1, .int x2), (2, .int x3), (3, .int x4), (4, .int x5)]) hx hb dL_counts_64 hl (by decide) rfl (fun ls hl => ?_)
          refine lv_iload_n hx hb dL_counts_66 rfl (lv_at hl 3 rfl) ?_
          refine lv_if_eq (tgt := 98) hx hb dL_counts_67 (by decide) (fun c => absurd (c_9.symm.trans c) (by decide)) (fun _ => ?_)
          refine lv_iload_n hx hb dL_counts_70 rfl (lv_at hl 3 rfl) ?_
          refine lv_iconst (v := 3) hx hb dL_counts_71 (by decide) ?_
          refine lv_icmp_ge (tgt := 102) hx hb dL_counts_72 (by decide) (fun c_13 => ?_) (fun c_13 => ?_)
          · replace hE := hE.trans (if_pos c_13)
            refine lv_iconst (v := 0) hx hb dL_counts_102 (by decide) ?_
            subst R
            exact W.zret (v := 0) (ty := .boolean) hx hb hr rfl (fun t ht hW => ⟨rfl, ht⟩) (fun _ h => by cases h) dL_counts_103
          · replace hE := hE.trans (if_neg c_13)
            refine lv_iload hx hb dL_counts_75 (lv_at hl 1 rfl) ?_
            refine lv_if_eq (tgt := 102) hx hb dL_counts_77 (by decide) (fun c => absurd c (by decide)) (fun _ => ?_)
            refine lv_iload hx hb dL_counts_80 (lv_at hl 0 rfl) ?_
            refine lv_if_eq (tgt := 98) hx hb dL_counts_82 (by decide) (fun _ => ?_) (fun c => absurd (by decide) c)
            refine lv_iconst (v := 1) hx hb dL_counts_98 (by decide) ?_
            refine lv_goto (tgt := 103) hx hb dL_counts_99 (by decide) ?_
            subst R
            exact W.zret (v := 1) (ty := .boolean) hx hb hr rfl (fun t ht hW => ⟨rfl, ht⟩) (fun _ h => by cases h) dL_counts_103
        · replace hE := hE.trans (if_pos c_12)
          refine lv_iconst (v := 1) hx hb dL_counts_59 (by decide) ?_
          refine lv_goto (tgt := 64) hx hb dL_counts_60 (by decide) ?_
          refine lv_istore (lv' := [(6, .int 1), (5, .int 1), (0, .ref (a 0)), (1, .int x2), (2, .int x3), (3, .int x4), (4, .int x5)]) hx hb dL_counts_64 hl (by decide) rfl (fun ls hl => ?_)
          refine lv_iload_n hx hb dL_counts_66 rfl (lv_at hl 3 rfl) ?_
          refine lv_if_eq (tgt := 98) hx hb dL_counts_67 (by decide) (fun c => absurd (c_9.symm.trans c) (by decide)) (fun _ => ?_)
          refine lv_iload_n hx hb dL_counts_70 rfl (lv_at hl 3 rfl) ?_
          refine lv_iconst (v := 3) hx hb dL_counts_71 (by decide) ?_
          refine lv_icmp_ge (tgt := 102) hx hb dL_counts_72 (by decide) (fun c_14 => ?_) (fun c_14 => ?_)
          · replace hE := hE.trans (if_pos c_14)
            refine lv_iconst (v := 0) hx hb dL_counts_102 (by decide) ?_
            subst R
            exact W.zret (v := 0) (ty := .boolean) hx hb hr rfl (fun t ht hW => ⟨rfl, ht⟩) (fun _ h => by cases h) dL_counts_103
          · replace hE := hE.trans (if_neg c_14)
            refine lv_iload hx hb dL_counts_75 (lv_at hl 1 rfl) ?_
            refine lv_if_eq (tgt := 102) hx hb dL_counts_77 (by decide) (fun c => absurd c (by decide)) (fun _ => ?_)
            refine lv_iload hx hb dL_counts_80 (lv_at hl 0 rfl) ?_
            refine lv_if_eq (tgt := 98) hx hb dL_counts_82 (by decide) (fun c => absurd c (by decide)) (fun _ => ?_)
            refine lv_aload_n hx hb dL_counts_85 rfl (lv_at hl 2 rfl) ?_
            refine lv_bipush (v := 12) hx hb dL_counts_86 (by decide) ?_
            refine lv_iload hx hb dL_counts_88 (lv_at hl 6 rfl) ?_
            refine lv_iadd hx hb dL_counts_90 ?_
            refine va_iald (D := E.1) hx hb hK.1 hP 0 0 rfl rfl (rIn 12 (by decide) (by first | assumption | exact tOK.nI (by omega))) dL_counts_91 ?_
            refine lv_aload_n hx hb dL_counts_92 rfl (lv_at hl 2 rfl) ?_
            refine lv_iload_n hx hb dL_counts_93 rfl (lv_at hl 4 rfl) ?_
            refine va_iald (D := E.1) hx hb hK.1 hP 0 0 rfl rfl (rIn0 (by first | assumption | exact tOK.nI (by omega))) dL_counts_94 ?_
            refine lv_icmp_ge (tgt := 102) hx hb dL_counts_95 (by decide) (fun c_15 => ?_) (fun c_15 => ?_)
            · replace hE := hE.trans (if_pos c_15)
              refine lv_iconst (v := 0) hx hb dL_counts_102 (by decide) ?_
              subst R
              exact W.zret (v := 0) (ty := .boolean) hx hb hr rfl (fun t ht hW => ⟨rfl, ht⟩) (fun _ h => by cases h) dL_counts_103
            · replace hE := hE.trans (if_neg c_15)
              refine lv_iconst (v := 1) hx hb dL_counts_98 (by decide) ?_
              refine lv_goto (tgt := 103) hx hb dL_counts_99 (by decide) ?_
              subst R
              exact W.zret (v := 1) (ty := .boolean) hx hb hr rfl (fun t ht hW => ⟨rfl, ht⟩) (fun _ h => by cases h) dL_counts_103
    · replace hE := hE.trans (if_neg c_8)
      refine lv_aload_n hx hb dL_counts_22 rfl (lv_at hl 0 rfl) ?_
      refine lv_bipush (v := 12) hx hb dL_counts_23 (by decide) ?_
      refine lv_iload hx hb dL_counts_25 (lv_at hl 4 rfl) ?_
      refine lv_iadd hx hb dL_counts_27 ?_
      refine va_iald (D := E.1) hx hb hK.1 hP 0 0 rfl rfl (rIn 12 (by decide) (by first | assumption | exact tOK.nI (by omega))) dL_counts_28 ?_
      refine lv_aload_n hx hb dL_counts_29 rfl (lv_at hl 0 rfl) ?_
      refine lv_bipush (v := 12) hx hb dL_counts_30 (by decide) ?_
      refine lv_iload_n hx hb dL_counts_32 rfl (lv_at hl 2 rfl) ?_
      refine lv_iadd hx hb dL_counts_33 ?_
      refine va_iald (D := E.1) hx hb hK.1 hP 0 0 rfl rfl (rIn 12 (by decide) (by first | assumption | exact tOK.nI (by omega))) dL_counts_34 ?_
      refine lv_icmp_ge (tgt := 42) hx hb dL_counts_35 (by decide) (fun c_16 => ?_) (fun c_16 => ?_)
      · replace hE := hE.trans (if_pos c_16)
        refine lv_iconst (v := 0) hx hb dL_counts_42 (by decide) ?_
        refine lv_istore (lv' := [(5, .int 0), (0, .ref (a 0)), (1, .int x2), (2, .int x3), (3, .int x4), (4, .int x5)]) hx hb dL_counts_43 hl (by decide) rfl (fun ls hl => ?_)
        refine lv_iload_n hx hb dL_counts_45 rfl (lv_at hl 2 rfl) ?_
        refine lv_iconst (v := 2) hx hb dL_counts_46 (by decide) ?_
        refine lv_icmp_ne (tgt := 63) hx hb dL_counts_47 (by decide) (fun c_17 => ?_) (fun c_17 => ?_)
        · replace hE := hE.trans (if_neg c_17)
          refine lv_iconst (v := 0) hx hb dL_counts_63 (by decide) ?_
          refine lv_istore (lv' := [(6, .int 0), (5, .int 0), (0, .ref (a 0)), (1, .int x2), (2, .int x3), (3, .int x4), (4, .int x5)]) hx hb dL_counts_64 hl (by decide) rfl (fun ls hl => ?_)
          refine lv_iload_n hx hb dL_counts_66 rfl (lv_at hl 3 rfl) ?_
          refine lv_if_eq (tgt := 98) hx hb dL_counts_67 (by decide) (fun c_18 => ?_) (fun c_18 => ?_)
          · replace hE := hE.trans (if_pos c_18)
            refine lv_iconst (v := 1) hx hb dL_counts_98 (by decide) ?_
            refine lv_goto (tgt := 103) hx hb dL_counts_99 (by decide) ?_
            subst R
            exact W.zret (v := 1) (ty := .boolean) hx hb hr rfl (fun t ht hW => ⟨rfl, ht⟩) (fun _ h => by cases h) dL_counts_103
          · replace hE := hE.trans (if_neg c_18)
            refine lv_iload_n hx hb dL_counts_70 rfl (lv_at hl 3 rfl) ?_
            refine lv_iconst (v := 3) hx hb dL_counts_71 (by decide) ?_
            refine lv_icmp_ge (tgt := 102) hx hb dL_counts_72 (by decide) (fun c_19 => ?_) (fun c_19 => ?_)
            · replace hE := hE.trans (if_pos c_19)
              refine lv_iconst (v := 0) hx hb dL_counts_102 (by decide) ?_
              subst R
              exact W.zret (v := 0) (ty := .boolean) hx hb hr rfl (fun t ht hW => ⟨rfl, ht⟩) (fun _ h => by cases h) dL_counts_103
            · replace hE := hE.trans (if_neg c_19)
              refine lv_iload hx hb dL_counts_75 (lv_at hl 1 rfl) ?_
              refine lv_if_eq (tgt := 102) hx hb dL_counts_77 (by decide) (fun _ => ?_) (fun c => absurd (by decide) c)
              refine lv_iconst (v := 0) hx hb dL_counts_102 (by decide) ?_
              subst R
              exact W.zret (v := 0) (ty := .boolean) hx hb hr rfl (fun t ht hW => ⟨rfl, ht⟩) (fun _ h => by cases h) dL_counts_103
        · replace hE := hE.trans (if_pos c_17)
          refine lv_aload_n hx hb dL_counts_50 rfl (lv_at hl 1 rfl) ?_
          refine lv_bipush (v := 36) hx hb dL_counts_51 (by decide) ?_
          refine lv_iload_n hx hb dL_counts_53 rfl (lv_at hl 3 rfl) ?_
          refine lv_iadd hx hb dL_counts_54 ?_
          refine va_iald (D := E.1) hx hb hK.1 hP 0 0 rfl rfl (rIn 36 (by decide) (by first | assumption | exact tOK.nI (by omega))) dL_counts_55 ?_
          refine lv_if_ne (tgt := 63) hx hb dL_counts_56 (by decide) (fun c_20 => ?_) (fun c_20 => ?_)
          · replace hE := hE.trans (if_neg c_20)
            refine lv_iconst (v := 0) hx hb dL_counts_63 (by decide) ?_
            refine lv_istore (lv' := [(6, .int 0), (5, .int 0), (0, .ref (a 0)), (1, .int x2), (2, .int x3), (3, .int x4), (4, .int x5)]) hx hb dL_counts_64 hl (by decide) rfl (fun ls hl => ?_)
            refine lv_iload_n hx hb dL_counts_66 rfl (lv_at hl 3 rfl) ?_
            refine lv_if_eq (tgt := 98) hx hb dL_counts_67 (by decide) (fun c => absurd (c_17.symm.trans c) (by decide)) (fun _ => ?_)
            refine lv_iload_n hx hb dL_counts_70 rfl (lv_at hl 3 rfl) ?_
            refine lv_iconst (v := 3) hx hb dL_counts_71 (by decide) ?_
            refine lv_icmp_ge (tgt := 102) hx hb dL_counts_72 (by decide) (fun c_21 => ?_) (fun c_21 => ?_)
            · replace hE := hE.trans (if_pos c_21)
              refine lv_iconst (v := 0) hx hb dL_counts_102 (by decide) ?_
              subst R
              exact W.zret (v := 0) (ty := .boolean) hx hb hr rfl (fun t ht hW => ⟨rfl, ht⟩) (fun _ h => by cases h) dL_counts_103
            · replace hE := hE.trans (if_neg c_21)
              refine lv_iload hx hb dL_counts_75 (lv_at hl 1 rfl) ?_
              refine lv_if_eq (tgt := 102) hx hb dL_counts_77 (by decide) (fun _ => ?_) (fun c => absurd (by decide) c)
              refine lv_iconst (v := 0) hx hb dL_counts_102 (by decide) ?_
              subst R
              exact W.zret (v := 0) (ty := .boolean) hx hb hr rfl (fun t ht hW => ⟨rfl, ht⟩) (fun _ h => by cases h) dL_counts_103
          · replace hE := hE.trans (if_pos c_20)
            refine lv_iconst (v := 1) hx hb dL_counts_59 (by decide) ?_
            refine lv_goto (tgt := 64) hx hb dL_counts_60 (by decide) ?_
            refine lv_istore (lv' := [(6, .int 1), (5, .int 0), (0, .ref (a 0)), (1, .int x2), (2, .int x3), (3, .int x4), (4, .int x5)]) hx hb dL_counts_64 hl (by decide) rfl (fun ls hl => ?_)
            refine lv_iload_n hx hb dL_counts_66 rfl (lv_at hl 3 rfl) ?_
            refine lv_if_eq (tgt := 98) hx hb dL_counts_67 (by decide) (fun c => absurd (c_17.symm.trans c) (by decide)) (fun _ => ?_)
            refine lv_iload_n hx hb dL_counts_70 rfl (lv_at hl 3 rfl) ?_
            refine lv_iconst (v := 3) hx hb dL_counts_71 (by decide) ?_
            refine lv_icmp_ge (tgt := 102) hx hb dL_counts_72 (by decide) (fun c_22 => ?_) (fun c_22 => ?_)
            · replace hE := hE.trans (if_pos c_22)
              refine lv_iconst (v := 0) hx hb dL_counts_102 (by decide) ?_
              subst R
              exact W.zret (v := 0) (ty := .boolean) hx hb hr rfl (fun t ht hW => ⟨rfl, ht⟩) (fun _ h => by cases h) dL_counts_103
            · replace hE := hE.trans (if_neg c_22)
              refine lv_iload hx hb dL_counts_75 (lv_at hl 1 rfl) ?_
              refine lv_if_eq (tgt := 102) hx hb dL_counts_77 (by decide) (fun _ => ?_) (fun c => absurd (by decide) c)
              refine lv_iconst (v := 0) hx hb dL_counts_102 (by decide) ?_
              subst R
              exact W.zret (v := 0) (ty := .boolean) hx hb hr rfl (fun t ht hW => ⟨rfl, ht⟩) (fun _ h => by cases h) dL_counts_103
      · replace hE := hE.trans (if_neg c_16)
        refine lv_iconst (v := 1) hx hb dL_counts_38 (by decide) ?_
        refine lv_goto (tgt := 43) hx hb dL_counts_39 (by decide) ?_
        refine lv_istore (lv' := [(5, .int 1), (0, .ref (a 0)), (1, .int x2), (2, .int x3), (3, .int x4), (4, .int x5)]) hx hb dL_counts_43 hl (by decide) rfl (fun ls hl => ?_)
        refine lv_iload_n hx hb dL_counts_45 rfl (lv_at hl 2 rfl) ?_
        refine lv_iconst (v := 2) hx hb dL_counts_46 (by decide) ?_
        refine lv_icmp_ne (tgt := 63) hx hb dL_counts_47 (by decide) (fun c_23 => ?_) (fun c_23 => ?_)
        · replace hE := hE.trans (if_neg c_23)
          refine lv_iconst (v := 0) hx hb dL_counts_63 (by decide) ?_
          refine lv_istore (lv' := [(6, .int 0), (5, .int 1), (0, .ref (a 0)), (1, .int x2), (2, .int x3), (3, .int x4), (4, .int x5)]) hx hb dL_counts_64 hl (by decide) rfl (fun ls hl => ?_)
          refine lv_iload_n hx hb dL_counts_66 rfl (lv_at hl 3 rfl) ?_
          refine lv_if_eq (tgt := 98) hx hb dL_counts_67 (by decide) (fun c_24 => ?_) (fun c_24 => ?_)
          · replace hE := hE.trans (if_pos c_24)
            refine lv_iconst (v := 1) hx hb dL_counts_98 (by decide) ?_
            refine lv_goto (tgt := 103) hx hb dL_counts_99 (by decide) ?_
            subst R
            exact W.zret (v := 1) (ty := .boolean) hx hb hr rfl (fun t ht hW => ⟨rfl, ht⟩) (fun _ h => by cases h) dL_counts_103
          · replace hE := hE.trans (if_neg c_24)
            refine lv_iload_n hx hb dL_counts_70 rfl (lv_at hl 3 rfl) ?_
            refine lv_iconst (v := 3) hx hb dL_counts_71 (by decide) ?_
            refine lv_icmp_ge (tgt := 102) hx hb dL_counts_72 (by decide) (fun c_25 => ?_) (fun c_25 => ?_)
            · replace hE := hE.trans (if_pos c_25)
              refine lv_iconst (v := 0) hx hb dL_counts_102 (by decide) ?_
              subst R
              exact W.zret (v := 0) (ty := .boolean) hx hb hr rfl (fun t ht hW => ⟨rfl, ht⟩) (fun _ h => by cases h) dL_counts_103
            · replace hE := hE.trans (if_neg c_25)
              refine lv_iload hx hb dL_counts_75 (lv_at hl 1 rfl) ?_
              refine lv_if_eq (tgt := 102) hx hb dL_counts_77 (by decide) (fun c => absurd c (by decide)) (fun _ => ?_)
              refine lv_iload hx hb dL_counts_80 (lv_at hl 0 rfl) ?_
              refine lv_if_eq (tgt := 98) hx hb dL_counts_82 (by decide) (fun _ => ?_) (fun c => absurd (by decide) c)
              refine lv_iconst (v := 1) hx hb dL_counts_98 (by decide) ?_
              refine lv_goto (tgt := 103) hx hb dL_counts_99 (by decide) ?_
              subst R
              exact W.zret (v := 1) (ty := .boolean) hx hb hr rfl (fun t ht hW => ⟨rfl, ht⟩) (fun _ h => by cases h) dL_counts_103
        · replace hE := hE.trans (if_pos c_23)
          refine lv_aload_n hx hb dL_counts_50 rfl (lv_at hl 1 rfl) ?_
          refine lv_bipush (v := 36) hx hb dL_counts_51 (by decide) ?_
          refine lv_iload_n hx hb dL_counts_53 rfl (lv_at hl 3 rfl) ?_
          refine lv_iadd hx hb dL_counts_54 ?_
          refine va_iald (D := E.1) hx hb hK.1 hP 0 0 rfl rfl (rIn 36 (by decide) (by first | assumption | exact tOK.nI (by omega))) dL_counts_55 ?_
          refine lv_if_ne (tgt := 63) hx hb dL_counts_56 (by decide) (fun c_26 => ?_) (fun c_26 => ?_)
          · replace hE := hE.trans (if_neg c_26)
            refine lv_iconst (v := 0) hx hb dL_counts_63 (by decide) ?_
            refine lv_istore (lv' := [(6, .int 0), (5, .int 1), (0, .ref (a 0)), (1, .int x2), (2, .int x3), (3, .int x4), (4, .int x5)]) hx hb dL_counts_64 hl (by decide) rfl (fun ls hl => ?_)
            refine lv_iload_n hx hb dL_counts_66 rfl (lv_at hl 3 rfl) ?_
            refine lv_if_eq (tgt := 98) hx hb dL_counts_67 (by decide) (fun c => absurd (c_23.symm.trans c) (by decide)) (fun _ => ?_)
            refine lv_iload_n hx hb dL_counts_70 rfl (lv_at hl 3 rfl) ?_
            refine lv_iconst (v := 3) hx hb dL_counts_71 (by decide) ?_
            refine lv_icmp_ge (tgt := 102) hx hb dL_counts_72 (by decide) (fun c_27 => ?_) (fun c_27 => ?_)
            · replace hE := hE.trans (if_pos c_27)
              refine lv_iconst (v := 0) hx hb dL_counts_102 (by decide) ?_
              subst R
              exact W.zret (v := 0) (ty := .boolean) hx hb hr rfl (fun t ht hW => ⟨rfl, ht⟩) (fun _ h => by cases h) dL_counts_103
            · replace hE := hE.trans (if_neg c_27)
              refine lv_iload hx hb dL_counts_75 (lv_at hl 1 rfl) ?_
              refine lv_if_eq (tgt := 102) hx hb dL_counts_77 (by decide) (fun c => absurd c (by decide)) (fun _ => ?_)
              refine lv_iload hx hb dL_counts_80 (lv_at hl 0 rfl) ?_
              refine lv_if_eq (tgt := 98) hx hb dL_counts_82 (by decide) (fun _ => ?_) (fun c => absurd (by decide) c)
              refine lv_iconst (v := 1) hx hb dL_counts_98 (by decide) ?_
              refine lv_goto (tgt := 103) hx hb dL_counts_99 (by decide) ?_
              subst R
              exact W.zret (v := 1) (ty := .boolean) hx hb hr rfl (fun t ht hW => ⟨rfl, ht⟩) (fun _ h => by cases h) dL_counts_103
          · replace hE := hE.trans (if_pos c_26)
            refine lv_iconst (v := 1) hx hb dL_counts_59 (by decide) ?_
            refine lv_goto (tgt := 64) hx hb dL_counts_60 (by decide) ?_
            refine lv_istore (lv' := [(6, .int 1), (5, .int 1), (0, .ref (a 0)), (1, .int x2), (2, .int x3), (3, .int x4), (4, .int x5)]) hx hb dL_counts_64 hl (by decide) rfl (fun ls hl => ?_)
            refine lv_iload_n hx hb dL_counts_66 rfl (lv_at hl 3 rfl) ?_
            refine lv_if_eq (tgt := 98) hx hb dL_counts_67 (by decide) (fun c => absurd (c_23.symm.trans c) (by decide)) (fun _ => ?_)
            refine lv_iload_n hx hb dL_counts_70 rfl (lv_at hl 3 rfl) ?_
            refine lv_iconst (v := 3) hx hb dL_counts_71 (by decide) ?_
            refine lv_icmp_ge (tgt := 102) hx hb dL_counts_72 (by decide) (fun c_28 => ?_) (fun c_28 => ?_)
            · replace hE := hE.trans (if_pos c_28)
              refine lv_iconst (v := 0) hx hb dL_counts_102 (by decide) ?_
              subst R
              exact W.zret (v := 0) (ty := .boolean) hx hb hr rfl (fun t ht hW => ⟨rfl, ht⟩) (fun _ h => by cases h) dL_counts_103
            · replace hE := hE.trans (if_neg c_28)
              refine lv_iload hx hb dL_counts_75 (lv_at hl 1 rfl) ?_
              refine lv_if_eq (tgt := 102) hx hb dL_counts_77 (by decide) (fun c => absurd c (by decide)) (fun _ => ?_)
              refine lv_iload hx hb dL_counts_80 (lv_at hl 0 rfl) ?_
              refine lv_if_eq (tgt := 98) hx hb dL_counts_82 (by decide) (fun c => absurd c (by decide)) (fun _ => ?_)
              refine lv_aload_n hx hb dL_counts_85 rfl (lv_at hl 2 rfl) ?_
              refine lv_bipush (v := 12) hx hb dL_counts_86 (by decide) ?_
              refine lv_iload hx hb dL_counts_88 (lv_at hl 6 rfl) ?_
              refine lv_iadd hx hb dL_counts_90 ?_
              refine va_iald (D := E.1) hx hb hK.1 hP 0 0 rfl rfl (rIn 12 (by decide) (by first | assumption | exact tOK.nI (by omega))) dL_counts_91 ?_
              refine lv_aload_n hx hb dL_counts_92 rfl (lv_at hl 2 rfl) ?_
              refine lv_iload_n hx hb dL_counts_93 rfl (lv_at hl 4 rfl) ?_
              refine va_iald (D := E.1) hx hb hK.1 hP 0 0 rfl rfl (rIn0 (by first | assumption | exact tOK.nI (by omega))) dL_counts_94 ?_
              refine lv_icmp_ge (tgt := 102) hx hb dL_counts_95 (by decide) (fun c_29 => ?_) (fun c_29 => ?_)
              · replace hE := hE.trans (if_pos c_29)
                refine lv_iconst (v := 0) hx hb dL_counts_102 (by decide) ?_
                subst R
                exact W.zret (v := 0) (ty := .boolean) hx hb hr rfl (fun t ht hW => ⟨rfl, ht⟩) (fun _ h => by cases h) dL_counts_103
              · replace hE := hE.trans (if_neg c_29)
                refine lv_iconst (v := 1) hx hb dL_counts_98 (by decide) ?_
                refine lv_goto (tgt := 103) hx hb dL_counts_99 (by decide) ?_
                subst R
                exact W.zret (v := 1) (ty := .boolean) hx hb hr rfl (fun t ht hW => ⟨rfl, ht⟩) (fun _ h => by cases h) dL_counts_103
