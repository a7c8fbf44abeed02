def mX6_layOrder_K32 (u : kG) (g_1 : ((Nat → Int32))) (x14_1 : Int32) (i14 : Nat) (x14_3 : Int32) (f14_0_7 : (Nat → Int32)) (rec : Int32 → Nat → Int32 → (Nat → Int32) → (Int32 × (Nat → Int32) × (Nat → Int32))) (x32_4 : Int32) (x32_5 : Int32) : Int32 × (Nat → Int32) × (Nat → Int32) :=
  if x32_4 = (-6) then
    rec x14_1 i14 0 f14_0_7
  else
    rec (x14_1 &&& ((1 <<< (x32_4 &&& 31)) ^^^ (-1))) (i14 + 1) 1 (upd f14_0_7 ((nI i14)).toNatClampNeg x32_4)
theorem mX6_layOrder_K32_s {u : kG} {g_1 : ((Nat → Int32))} {x14_1 : Int32} {i14 : Nat} {x14_3 : Int32} {f14_0_7 : (Nat → Int32)} {rec : Int32 → Nat → Int32 → (Nat → Int32) → (Int32 × (Nat → Int32) × (Nat → Int32))} {x32_4 : Int32} {x32_5 : Int32} : mX6_layOrder_K32 u g_1 x14_1 i14 x14_3 f14_0_7 rec x32_4 x32_5 = (
  if x32_4 = (-6) then
    rec x14_1 i14 0 f14_0_7
  else
    rec (x14_1 &&& ((1 <<< (x32_4 &&& 31)) ^^^ (-1))) (i14 + 1) 1 (upd f14_0_7 ((nI i14)).toNatClampNeg x32_4) : Int32 × (Nat → Int32) × (Nat → Int32)) := rfl
def mX6_layOrder_L32 (u : kG) (g_1 : ((Nat → Int32))) (x14_1 : Int32) (i14 : Nat) (x14_3 : Int32) (f14_0_7 : (Nat → Int32)) (kk : Int32 → Int32 → (Int32 × (Nat → Int32) × (Nat → Int32))) : Nat → Int32 → Int32 → (Int32 × (Nat → Int32) × (Nat → Int32))
  | 0, _, _ => (0, (fun _ => 0), (fun _ => 0))
  | n32 + 1, x32_4, x32_5 =>
    if x32_5 < 0 then
      kk x32_4 x32_5
    else
      if ((x14_1 >>> (x32_5 &&& 31)) &&& 1) = 1 then
        if ((g_1 (x32_5).toNatClampNeg) &&& x14_1) = 0 then
          mX6_layOrder_L32 u g_1 x14_1 i14 x14_3 f14_0_7 kk n32 x32_5 (x32_5 + (-1))
        else
          mX6_layOrder_L32 u g_1 x14_1 i14 x14_3 f14_0_7 kk n32 x32_4 (x32_5 + (-1))
      else
        mX6_layOrder_L32 u g_1 x14_1 i14 x14_3 f14_0_7 kk n32 x32_4 (x32_5 + (-1))
theorem mX6_layOrder_L32_s {u : kG} {g_1 : ((Nat → Int32))} {x14_1 : Int32} {i14 : Nat} {x14_3 : Int32} {f14_0_7 : (Nat → Int32)} {kk : Int32 → Int32 → (Int32 × (Nat → Int32) × (Nat → Int32))} {n32 : Nat} {x32_4 : Int32} {x32_5 : Int32} : mX6_layOrder_L32 u g_1 x14_1 i14 x14_3 f14_0_7 kk (n32 + 1) x32_4 x32_5 = (
    if x32_5 < 0 then
      kk x32_4 x32_5
    else
      if ((x14_1 >>> (x32_5 &&& 31)) &&& 1) = 1 then
        if ((g_1 (x32_5).toNatClampNeg) &&& x14_1) = 0 then
          mX6_layOrder_L32 u g_1 x14_1 i14 x14_3 f14_0_7 kk n32 x32_5 (x32_5 + (-1))
        else
          mX6_layOrder_L32 u g_1 x14_1 i14 x14_3 f14_0_7 kk n32 x32_4 (x32_5 + (-1))
      else
        mX6_layOrder_L32 u g_1 x14_1 i14 x14_3 f14_0_7 kk n32 x32_4 (x32_5 + (-1)) : Int32 × (Nat → Int32) × (Nat → Int32)) := rfl
def mX6_layOrder_L14 (u : kG) (g_1 : ((Nat → Int32))) : Nat → Int32 → Nat → Int32 → (Nat → Int32) → (Int32 × (Nat → Int32) × (Nat → Int32))
  | 0, _, _, _, _ => (0, (fun _ => 0), (fun _ => 0))
  | n14 + 1, x14_1, i14, x14_3, f14_0_7 =>
    if x14_3 = 0 then
      ((nI i14), g_1, f14_0_7)
    else
      mX6_layOrder_L32 u g_1 x14_1 i14 x14_3 f14_0_7 (mX6_layOrder_K32 u g_1 x14_1 i14 x14_3 f14_0_7 (mX6_layOrder_L14 u g_1 n14)) 13 (-6) (((u 1) 2) - 1)
theorem mX6_layOrder_L14_s {u : kG} {g_1 : ((Nat → Int32))} {n14 : Nat} {x14_1 : Int32} {i14 : Nat} {x14_3 : Int32} {f14_0_7 : (Nat → Int32)} : mX6_layOrder_L14 u g_1 (n14 + 1) x14_1 i14 x14_3 f14_0_7 = (
    if x14_3 = 0 then
      ((nI i14), g_1, f14_0_7)
    else
      mX6_layOrder_L32 u g_1 x14_1 i14 x14_3 f14_0_7 (mX6_layOrder_K32 u g_1 x14_1 i14 x14_3 f14_0_7 (mX6_layOrder_L14 u g_1 n14)) 13 (-6) (((u 1) 2) - 1) : Int32 × (Nat → Int32) × (Nat → Int32)) := rfl
def mX6_layOrder (u : kG) : Int32 × (Nat → Int32) × (Nat → Int32) :=
  (fun (g_1 : (Nat → Int32)) =>
    mX6_layOrder_L14 u g_1 14 (mX6_setOf (rset u 6 g_1) 1) 0 1 (u 7))
    (mX6_layAhead u)
theorem mX6_layOrder_s {u : kG} : mX6_layOrder u = (
  (fun (g_1 : (Nat → Int32)) =>
    mX6_layOrder_L14 u g_1 14 (mX6_setOf (rset u 6 g_1) 1) 0 1 (u 7))
    (mX6_layAhead u) : Int32 × (Nat → Int32) × (Nat → Int32)) := rfl
set_option maxHeartbeats 400000 in
set_option maxRecDepth 100000 in
theorem c_X6_layOrder (l : Launch) (E : kE) (b : Nat → Nat) (u : kG) (hj : kInj b 9) (hm : nOK (u 1 2)) (R : Int32 × (Nat → Int32) × (Nat → Int32)) (hE : R = mX6_layOrder u) : Met l yX6_layOrder wsX6_layOrder ({ frames := 4, cells := 0, slots := 0, locals := 92 }) (kPre E [.ref (b 0)] (wModx E b (u 0 0) (u 0 1) (u 0 2) (u 0 3) (u 0 4) (u 0 5) (u 0 6) (u 0 7) (u 1) (u 2) (u 3) (u 4) (u 5) (u 6) (u 7) (u 8))) (kWi E R.1 (wModx E b (u 0 0) (u 0 1) (u 0 2) (u 0 3) (u 0 4) (u 0 5) (u 0 6) (u 0 7) (u 1) (u 2) (u 3) (u 4) (u 5) R.2.1 R.2.2 (u 8)) (kA b 9)) 0 0 (kA b 9) := by
  refine Met.ofW (cc := cX6_layOrder) (maxL := 6) (ret := (some .int)) (by decide) rfl ?_
  intro p e s m args below meth c s₁ B hml hv
  obtain ⟨rfl, hK, hP⟩ := hv
  have hx := B.exec
  have hb := B.bytes
  have hr := B.returns
  have hts := atoms_spec (ws := wsX6_layOrder) B.pre
  have hown : s.vm.findClass RX6 = some m.cls := findClass_of_methodNamed B.named
  have hlocks := B.notSynchronized
  have hiX6 : ∀ w ∈ wsX60, w ∈ wsX6_layOrder := by decide +kernel
  have hf7 := hts (.fieldLink RX6 7 "SkewEdgesModel" "z" "[I") (by decide +kernel)
  have hf27 := hts (.fieldLink RX6 27 "SkewEdgesModel" "ahead" "[I") (by decide +kernel)
  have hf30 := hts (.fieldLink RX6 30 "SkewEdgesModel" "order" "[I") (by decide +kernel)
  have hS : va_S (kA b 9) s.heap s.heap [] := va_S.rf
  have hP : va_P E.1 vwCl (wModx E b (u 0 0) (u 0 1) (u 0 2) (u 0 3) (u 0 4) (u 0 5) (u 0 6) (u 0 7) (u 1) (u 2) (u 3) (u 4) (u 5) (u 6) (u 7) (u 8)) s.heap := hP
  have hD := dMod (E := E) hj (u 0 0) (u 0 1) (u 0 2) (u 0 3) (u 0 4) (u 0 5) (u 0 6) (u 0 7) (u 1) (u 2) (u 3) (u 4) (u 5) (u 6) (u 7) (u 8)
  have hl := lv_entry ([.ref (b 0)]) (n := 6) (Nat.le_of_ble_eq_true rfl)
  rw [lg_entry_eq]
  generalize (lg_sl ([.ref (b 0)]) ++ List.replicate (6 - (lg_sl ([.ref (b 0)])).length) Slot.unset).toArray = ls at hl ⊢
  have hl : lv_has ls 6 [(0, .ref (b 0))] := hl
  replace hE := hE.trans mX6_layOrder_s
  refine lv_aload_n hx hb dX6_layOrder_0 rfl (lv_at hl 0 rfl) ?_
  refine kCallWv (va_runV (As := []) (rest := []) ⟨hx, hb, hml, hown, hts⟩ (c_X6_layAhead l E b u hj (by first | assumption | exact tOK.nI (by omega)) _ rfl) (cwV 0 hts gX6_layOrder_X6_layAhead rfl rfl rfl (by decide +kernel) ⟨Nat.le_of_ble_eq_true rfl, Nat.le_of_ble_eq_true rfl⟩) (kPreV hK hP hP (q0 := 0) rfl rfl) rfl rfl hl.1 rfl (lv_room (Nat.le_of_ble_eq_true rfl)) dX6_layOrder_1 ⟨Nat.zero_le _, Nat.zero_le _⟩) hS (fun _ h => h) (fun H locs hP _ _ hS => ?_)
  refine kGen (mX6_layAhead u) (fun g_1 hg_1 => ?_)
  rw [hg_1] at hE hP
  try dsimp only at hE
  have hP : va_P E.1 vwCl (wModx E b (u 0 0) (u 0 1) (u 0 2) (u 0 3) (u 0 4) (u 0 5) (u 0 6) (u 0 7) (u 1) (u 2) (u 3) (u 4) (u 5) g_1 (u 7) (u 8)) H := hP
  have hD := dMod (E := E) hj (u 0 0) (u 0 1) (u 0 2) (u 0 3) (u 0 4) (u 0 5) (u 0 6) (u 0 7) (u 1) (u 2) (u 3) (u 4) (u 5) g_1 (u 7) (u 8)
  refine lv_aload_n hx hb dX6_layOrder_4 rfl (lv_at hl 0 rfl) ?_
  refine lv_iconst (v := 1) hx hb dX6_layOrder_5 (by decide) ?_
  refine kCallRi (va_runV (As := [.int 1]) (rest := []) ⟨hx, hb, hml, hown, hts⟩ (c_X6_setOf l E b (rset u 6 g_1) 1 (by assumption) _ rfl) (cwV 1 hts gX6_layOrder_X6_setOf rfl rfl rfl (by decide +kernel) ⟨Nat.le_of_ble_eq_true rfl, Nat.le_of_ble_eq_true rfl⟩) (kPreV hK hP hP (q0 := 0) rfl rfl) rfl rfl hl.1 rfl (lv_room (Nat.le_of_ble_eq_true rfl)) dX6_layOrder_6 ⟨Nat.zero_le _, Nat.zero_le _⟩) ?_
  refine lv_istore_n (lv' := [(1, .int (mX6_setOf (rset u 6 g_1) 1)), (0, .ref (b 0))]) hx hb dX6_layOrder_9 rfl hl (by decide) rfl (fun ls hl => ?_)
  refine lv_iconst (v := 0) hx hb dX6_layOrder_10 (by decide) ?_
  refine lv_istore_n (lv' := [(2, .int 0), (1, .int (mX6_setOf (rset u 6 g_1) 1)), (0, .ref (b 0))]) hx hb dX6_layOrder_11 rfl hl (by decide) rfl (fun ls hl => ?_)
  refine lv_iconst (v := 1) hx hb dX6_layOrder_12 (by decide) ?_
  refine lv_istore_n (lv' := [(3, .int 1), (2, .int 0), (1, .int (mX6_setOf (rset u 6 g_1) 1)), (0, .ref (b 0))]) hx hb dX6_layOrder_13 rfl hl (by decide) rfl (fun ls hl => ?_)
  have lp14 : ∀ (n14 : Nat) (x14_1 : Int32) (i14 : Nat) (x14_3 : Int32) (f14_0_7 : (Nat → Int32)) (H : Heap) (locs : List Loc), (loM x14_1 x14_3 i14 n14) → va_P E.1 vwCl (wModx E b (u 0 0) (u 0 1) (u 0 2) (u 0 3) (u 0 4) (u 0 5) (u 0 6) (u 0 7) (u 1) (u 2) (u 3) (u 4) (u 5) g_1 f14_0_7 (u 8)) H → va_S (kA b 9) s.heap H locs → ∀ ls : Array Slot, lv_has ls 6 [(3, .int x14_3), (2, .int (nI i14)), (1, .int x14_1), (0, .ref (b 0))] → R = mX6_layOrder_L14 u g_1 n14 x14_1 i14 x14_3 f14_0_7 → W p l e ({ frames := 4, cells := 0, slots := 0, locals := 92 }) s m ([.ref (b 0)] : List Value).toArray below meth c H locs 0 0 (MQ below (kWi E R.1 (wModx E b (u 0 0) (u 0 1) (u 0 2) (u 0 3) (u 0 4) (u 0 5) (u 0 6) (u 0 7) (u 1) (u 2) (u 3) (u 4) (u 5) R.2.1 R.2.2 (u 8)) (kA b 9)) ([.ref (b 0)] : List Value).toArray s 0 0 (kA b 9)) (F0 m 14 ls []) := by
    clear hE
    intro n14
    induction n14 with
    | zero =>
      intro x14_1 i14 x14_3 f14_0_7 H locs hm14  hP hS ls hl hE
      exact hm14.no.elim
    | succ n14 ih14 =>
      intro x14_1 i14 x14_3 f14_0_7 H locs hm14  hP hS ls hl hE
      have hD := dMod (E := E) hj (u 0 0) (u 0 1) (u 0 2) (u 0 3) (u 0 4) (u 0 5) (u 0 6) (u 0 7) (u 1) (u 2) (u 3) (u 4) (u 5) g_1 f14_0_7 (u 8)
      replace hE := hE.trans mX6_layOrder_L14_s
      refine lv_iload_n hx hb dX6_layOrder_14 rfl (lv_at hl 0 rfl) ?_
      refine lv_if_eq (tgt := 114) hx hb dX6_layOrder_15 (by decide) (fun c_2 => ?_) (fun c_2 => ?_)
      · replace hE := hE.trans (if_pos c_2)
        refine lv_iload_n hx hb dX6_layOrder_114 rfl (lv_at hl 1 rfl) ?_
        subst R
        exact W.iret (v := (nI i14)) hx hb hr (fun t ht hW => ⟨rfl, by rw [ht]; exact hP, hS.F ht⟩) hS.2.2 dX6_layOrder_115
      · replace hE := hE.trans (if_neg c_2)
        refine lv_bipush (v := (-6)) hx hb dX6_layOrder_18 (by decide) ?_
        refine lv_istore (lv' := [(4, .int (-6)), (3, .int x14_3), (2, .int (nI i14)), (1, .int x14_1), (0, .ref (b 0))]) hx hb dX6_layOrder_20 hl (by decide) rfl (fun ls hl => ?_)
        refine lv_aload_n hx hb dX6_layOrder_22 rfl (lv_at hl 4 rfl) ?_
        refine va_get (D := E.1) (ci := 5) (v := .ref (b 1)) (C := RX6) (T := TX6) (N := 16) hx hb hts hiX6 hown hK.1 hP 0 rfl rfl 0 (by decide) hf7 (fun _ h9 => h9) rfl dX6_layOrder_23 ?_
        refine lv_iconst (v := 2) hx hb dX6_layOrder_26 (by decide) ?_
        refine va_iald (D := E.1) hx hb hK.1 hP 1 0 rfl rfl (vp_in_nI (n := 2) (by decide) (by decide)) dX6_layOrder_27 ?_
        refine W.eq (g2 := F0 m 28 ls [.int ((u 1) 2)]) rfl ?_
        refine lv_iconst (v := 1) hx hb dX6_layOrder_28 (by decide) ?_
        refine lv_isub hx hb dX6_layOrder_29 ?_
        refine lv_istore (lv' := [(5, .int (((u 1) 2) - 1)), (4, .int (-6)), (3, .int x14_3), (2, .int (nI i14)), (1, .int x14_1), (0, .ref (b 0))]) hx hb dX6_layOrder_30 hl (by decide) rfl (fun ls hl => ?_)
        have lp32 : ∀ (n32 : Nat) (x32_4 : Int32) (x32_5 : Int32) (H : Heap) (locs : List Loc), (dnM x32_5 n32) → (x32_4 = (-6) ∨ bitIn x14_1 x32_4) → va_P E.1 vwCl (wModx E b (u 0 0) (u 0 1) (u 0 2) (u 0 3) (u 0 4) (u 0 5) (u 0 6) (u 0 7) (u 1) (u 2) (u 3) (u 4) (u 5) g_1 f14_0_7 (u 8)) H → va_S (kA b 9) s.heap H locs → ∀ ls : Array Slot, lv_has ls 6 [(5, .int x32_5), (4, .int x32_4), (3, .int x14_3), (2, .int (nI i14)), (1, .int x14_1), (0, .ref (b 0))] → R = mX6_layOrder_L32 u g_1 x14_1 i14 x14_3 f14_0_7 (mX6_layOrder_K32 u g_1 x14_1 i14 x14_3 f14_0_7 (mX6_layOrder_L14 u g_1 n14)) n32 x32_4 x32_5 → W p l e ({ frames := 4, cells := 0, slots := 0, locals := 92 }) s m ([.ref (b 0)] : List Value).toArray below meth c H locs 0 0 (MQ below (kWi E R.1 (wModx E b (u 0 0) (u 0 1) (u 0 2) (u 0 3) (u 0 4) (u 0 5) (u 0 6) (u 0 7) (u 1) (u 2) (u 3) (u 4) (u 5) R.2.1 R.2.2 (u 8)) (kA b 9)) ([.ref (b 0)] : List Value).toArray s 0 0 (kA b 9)) (F0 m 32 ls []) := by
          clear hE
          intro n32
          induction n32 with
          | zero =>
            intro x32_4 x32_5 H locs hm32 hnx hP hS ls hl hE
            exact hm32.no.elim
          | succ n32 ih32 =>
            intro x32_4 x32_5 H locs hm32 hnx hP hS ls hl hE
            have hD := dMod (E := E) hj (u 0 0) (u 0 1) (u 0 2) (u 0 3) (u 0 4) (u 0 5) (u 0 6) (u 0 7) (u 1) (u 2) (u 3) (u 4) (u 5) g_1 f14_0_7 (u 8)
            replace hE := hE.trans mX6_layOrder_L32_s
            refine lv_iload hx hb dX6_layOrder_32 (lv_at hl 0 rfl) ?_
            refine lv_if_lt (tgt := 74) hx hb dX6_layOrder_34 (by decide) (fun c_3 => ?_) (fun c_3 => ?_)
            · replace hE := hE.trans (if_pos c_3)
              replace hE := hE.trans mX6_layOrder_K32_s
              refine lv_iload hx hb dX6_layOrder_74 (lv_at hl 1 rfl) ?_
              refine lv_bipush (v := (-6)) hx hb dX6_layOrder_76 (by decide) ?_
              refine lv_icmp_eq (tgt := 85) hx hb dX6_layOrder_78 (by decide) (fun c_4 => ?_) (fun c_4 => ?_)
              · replace hE := hE.trans (if_pos c_4)
                refine lv_iconst (v := 0) hx hb dX6_layOrder_85 (by decide) ?_
                refine lv_istore_n (lv' := [(3, .int 0), (5, .int x32_5), (4, .int x32_4), (2, .int (nI i14)), (1, .int x14_1), (0, .ref (b 0))]) hx hb dX6_layOrder_86 rfl hl (by decide) rfl (fun ls hl => ?_)
                refine lv_iload_n hx hb dX6_layOrder_87 rfl (lv_at hl 0 rfl) ?_
                refine lv_if_eq (tgt := 111) hx hb dX6_layOrder_88 (by decide) (fun _ => ?_) (fun c => absurd (by decide) c)
                refine lv_goto (tgt := 14) hx hb dX6_layOrder_111 (by decide) ?_
                exact ih14 x14_1 i14 0 f14_0_7 _ _ (by first | exact hm14.end (by assumption) | exact hm14.step (by assumption) (kor (by assumption) (by assumption))) hP hS ls (lv_sub hl [0, 3, 4, 5] rfl) hE
              · replace hE := hE.trans (if_neg c_4)
                refine lv_iconst (v := 1) hx hb dX6_layOrder_81 (by decide) ?_
                refine lv_goto (tgt := 86) hx hb dX6_layOrder_82 (by decide) ?_
                refine lv_istore_n (lv' := [(3, .int 1), (5, .int x32_5), (4, .int x32_4), (2, .int (nI i14)), (1, .int x14_1), (0, .ref (b 0))]) hx hb dX6_layOrder_86 rfl hl (by decide) rfl (fun ls hl => ?_)
                refine lv_iload_n hx hb dX6_layOrder_87 rfl (lv_at hl 0 rfl) ?_
                refine lv_if_eq (tgt := 111) hx hb dX6_layOrder_88 (by decide) (fun c => absurd c (by decide)) (fun _ => ?_)
                refine lv_aload_n hx hb dX6_layOrder_91 rfl (lv_at hl 5 rfl) ?_
                refine va_get (D := E.1) (ci := 5) (v := .ref (b 7)) (C := RX6) (T := TX6) (N := 16) hx hb hts hiX6 hown hK.1 hP 0 rfl rfl 11 (by decide) hf30 (fun _ h9 => h9) rfl dX6_layOrder_92 ?_
                refine lv_iload_n hx hb dX6_layOrder_95 rfl (lv_at hl 3 rfl) ?_
                refine lv_iload hx hb dX6_layOrder_96 (lv_at hl 2 rfl) ?_
                refine va_iast (D := E.1) hx hb hK.1 hP hD hS 7 0 rfl rfl (vp_in_nI (hm14.lt (kor hnx (by assumption))) (by omega)) dX6_layOrder_98 (fun H locs hP _ hS => ?_)
                have hP : va_P E.1 vwCl (wModx E b (u 0 0) (u 0 1) (u 0 2) (u 0 3) (u 0 4) (u 0 5) (u 0 6) (u 0 7) (u 1) (u 2) (u 3) (u 4) (u 5) g_1 (upd f14_0_7 ((nI i14)).toNatClampNeg x32_4) (u 8)) H := hP
                have hD := dMod (E := E) hj (u 0 0) (u 0 1) (u 0 2) (u 0 3) (u 0 4) (u 0 5) (u 0 6) (u 0 7) (u 1) (u 2) (u 3) (u 4) (u 5) g_1 (upd f14_0_7 ((nI i14)).toNatClampNeg x32_4) (u 8)
                refine lv_iinc (v := (nI (i14 + 1))) (lv' := [(2, .int (nI (i14 + 1))), (3, .int 1), (5, .int x32_5), (4, .int x32_4), (1, .int x14_1), (0, .ref (b 0))]) hx hb dX6_layOrder_99 hl (k := 3) rfl (nI_1 i14) (by decide) rfl (fun ls hl => ?_)
                refine lv_iload_n hx hb dX6_layOrder_102 rfl (lv_at hl 4 rfl) ?_
                refine lv_iconst (v := 1) hx hb dX6_layOrder_103 (by decide) ?_
                refine lv_iload hx hb dX6_layOrder_104 (lv_at hl 3 rfl) ?_
                refine lv_ishl hx hb dX6_layOrder_106 ?_
                refine lv_iconst (v := (-1)) hx hb dX6_layOrder_107 (by decide) ?_
                refine lv_ixor hx hb dX6_layOrder_108 ?_
                refine lv_iand hx hb dX6_layOrder_109 ?_
                refine lv_istore_n (lv' := [(1, .int (x14_1 &&& ((1 <<< (x32_4 &&& 31)) ^^^ (-1)))), (2, .int (nI (i14 + 1))), (3, .int 1), (5, .int x32_5), (4, .int x32_4), (0, .ref (b 0))]) hx hb dX6_layOrder_110 rfl hl (by decide) rfl (fun ls hl => ?_)
                refine lv_goto (tgt := 14) hx hb dX6_layOrder_111 (by decide) ?_
                exact ih14 (x14_1 &&& ((1 <<< (x32_4 &&& 31)) ^^^ (-1))) (i14 + 1) 1 (upd f14_0_7 ((nI i14)).toNatClampNeg x32_4) _ _ (by first | exact hm14.end (by assumption) | exact hm14.step (by assumption) (kor (by assumption) (by assumption))) hP hS ls (lv_sub hl [2, 1, 0, 5] rfl) hE
            · replace hE := hE.trans (if_neg c_3)
              have ht5 := hm32.t c_3
              refine lv_iload_n hx hb dX6_layOrder_37 rfl (lv_at hl 4 rfl) ?_
              refine lv_iload hx hb dX6_layOrder_38 (lv_at hl 0 rfl) ?_
              refine lv_ishr hx hb dX6_layOrder_40 ?_
              refine lv_iconst (v := 1) hx hb dX6_layOrder_41 (by decide) ?_
              refine lv_iand hx hb dX6_layOrder_42 ?_
              refine lv_iconst (v := 1) hx hb dX6_layOrder_43 (by decide) ?_
              refine lv_icmp_ne (tgt := 64) hx hb dX6_layOrder_44 (by decide) (fun c_5 => ?_) (fun c_5 => ?_)
              · replace hE := hE.trans (if_neg c_5)
                refine lv_iload hx hb dX6_layOrder_64 (lv_at hl 1 rfl) ?_
                refine lv_istore (lv' := [(4, .int x32_4), (5, .int x32_5), (3, .int x14_3), (2, .int (nI i14)), (1, .int x14_1), (0, .ref (b 0))]) hx hb dX6_layOrder_66 hl (by decide) rfl (fun ls hl => ?_)
                refine lv_iinc (v := (x32_5 + (-1))) (lv' := [(5, .int (x32_5 + (-1))), (4, .int x32_4), (3, .int x14_3), (2, .int (nI i14)), (1, .int x14_1), (0, .ref (b 0))]) hx hb dX6_layOrder_68 hl (k := 1) rfl rfl (by decide) rfl (fun ls hl => ?_)
                refine lv_goto (tgt := 32) hx hb dX6_layOrder_71 (by decide) ?_
                exact ih32 x32_4 (x32_5 + (-1)) _ _ (hm32.step (by assumption)) (by first | assumption | exact Or.inr (bitIn.mk ht5 (by assumption))) hP hS ls (lv_sub hl [0, 1, 2, 3, 4, 5] rfl) hE
              · replace hE := hE.trans (if_pos c_5)
                refine lv_aload_n hx hb dX6_layOrder_47 rfl (lv_at hl 5 rfl) ?_
                refine va_get (D := E.1) (ci := 5) (v := .ref (b 6)) (C := RX6) (T := TX6) (N := 16) hx hb hts hiX6 hown hK.1 hP 0 rfl rfl 10 (by decide) hf27 (fun _ h9 => h9) rfl dX6_layOrder_48 ?_
                refine lv_iload hx hb dX6_layOrder_51 (lv_at hl 0 rfl) ?_
                refine va_iald (D := E.1) hx hb hK.1 hP 6 0 rfl rfl ht5.in12 dX6_layOrder_53 ?_
                refine lv_iload_n hx hb dX6_layOrder_54 rfl (lv_at hl 4 rfl) ?_
                refine lv_iand hx hb dX6_layOrder_55 ?_
                refine lv_if_ne (tgt := 64) hx hb dX6_layOrder_56 (by decide) (fun c_6 => ?_) (fun c_6 => ?_)
                · replace hE := hE.trans (if_neg c_6)
                  refine lv_iload hx hb dX6_layOrder_64 (lv_at hl 1 rfl) ?_
                  refine lv_istore (lv' := [(4, .int x32_4), (5, .int x32_5), (3, .int x14_3), (2, .int (nI i14)), (1, .int x14_1), (0, .ref (b 0))]) hx hb dX6_layOrder_66 hl (by decide) rfl (fun ls hl => ?_)
                  refine lv_iinc (v := (x32_5 + (-1))) (lv' := [(5, .int (x32_5 + (-1))), (4, .int x32_4), (3, .int x14_3), (2, .int (nI i14)), (1, .int x14_1), (0, .ref (b 0))]) hx hb dX6_layOrder_68 hl (k := 1) rfl rfl (by decide) rfl (fun ls hl => ?_)
                  refine lv_goto (tgt := 32) hx hb dX6_layOrder_71 (by decide) ?_
                  exact ih32 x32_4 (x32_5 + (-1)) _ _ (hm32.step (by assumption)) (by first | assumption | exact Or.inr (bitIn.mk ht5 (by assumption))) hP hS ls (lv_sub hl [0, 1, 2, 3, 4, 5] rfl) hE
                · replace hE := hE.trans (if_pos c_6)
                  refine lv_iload hx hb dX6_layOrder_59 (lv_at hl 0 rfl) ?_
                  refine lv_goto (tgt := 66) hx hb dX6_layOrder_61 (by decide) ?_
                  refine lv_istore (lv' := [(4, .int x32_5), (5, .int x32_5), (3, .int x14_3), (2, .int (nI i14)), (1, .int x14_1), (0, .ref (b 0))]) hx hb dX6_layOrder_66 hl (by decide) rfl (fun ls hl => ?_)
                  refine lv_iinc (v := (x32_5 + (-1))) (lv' := [(5, .int (x32_5 + (-1))), (4, .int x32_5), (3, .int x14_3), (2, .int (nI i14)), (1, .int x14_1), (0, .ref (b 0))]) hx hb dX6_layOrder_68 hl (k := 1) rfl rfl (by decide) rfl (fun ls hl => ?_)
                  refine lv_goto (tgt := 32) hx hb dX6_layOrder_71 (by decide) ?_
                  exact ih32 x32_5 (x32_5 + (-1)) _ _ (hm32.step (by assumption)) (by first | assumption | exact Or.inr (bitIn.mk ht5 (by assumption))) hP hS ls (lv_sub hl [0, 1, 2, 3, 4, 5] rfl) hE
        exact lp32 13 (-6) (((u 1) 2) - 1) _ _ (dnM.init (by assumption)) (Or.inl rfl) hP hS ls (lv_sub hl [0, 1, 2, 3, 4, 5] rfl) hE
  exact lp14 14 (mX6_setOf (rset u 6 g_1) 1) 0 1 (u 7) _ _ (loM.init (setOf_s (by assumption) _)) hP hS ls (lv_sub hl [0, 1, 2, 3] rfl) hE
def mX6_isSerial (u : kG) : Int32 × (Nat → Int32) × (Nat → Int32) :=
  (fun (g_1 : Int32 × (Nat → Int32) × (Nat → Int32)) =>
    if (g_1.1) = (mX6_bits (mX6_setOf (rset (rset u 6 (g_1.2.1)) 7 (g_1.2.2)) 1)) then
      (1, (g_1.2.1), (g_1.2.2))
    else
      (0, (g_1.2.1), (g_1.2.2)))
    (mX6_layOrder u)
theorem mX6_isSerial_s {u : kG} : mX6_isSerial u = (
  (fun (g_1 : Int32 × (Nat → Int32) × (Nat → Int32)) =>
    if (g_1.1) = (mX6_bits (mX6_setOf (rset (rset u 6 (g_1.2.1)) 7 (g_1.2.2)) 1)) then
      (1, (g_1.2.1), (g_1.2.2))
    else
      (0, (g_1.2.1), (g_1.2.2)))
    (mX6_layOrder u) : Int32 × (Nat → Int32) × (Nat → Int32)) := rfl
set_option maxHeartbeats 400000 in
set_option maxRecDepth 100000 in
theorem c_X6_isSerial (l : Launch) (E : kE) (b : Nat → Nat) (u : kG) (hj : kInj b 9) (hm : nOK (u 1 2)) (R : Int32 × (Nat → Int32) × (Nat → Int32)) (hE : R = mX6_isSerial u) : Met l yX6_isSerial wsX6_isSerial ({ frames := 5, cells := 0, slots := 0, locals := 117 }) (kPre E [.ref (b 0)] (wModx E b (u 0 0) (u 0 1) (u 0 2) (u 0 3) (u 0 4) (u 0 5) (u 0 6) (u 0 7) (u 1) (u 2) (u 3) (u 4) (u 5) (u 6) (u 7) (u 8))) (kWi E R.1 (wModx E b (u 0 0) (u 0 1) (u 0 2) (u 0 3) (u 0 4) (u 0 5) (u 0 6) (u 0 7) (u 1) (u 2) (u 3) (u 4) (u 5) R.2.1 R.2.2 (u 8)) (kA b 9)) 0 0 (kA b 9) := by
  refine Met.ofW (cc := cX6_isSerial) (maxL := 1) (ret := (some .boolean)) (by decide) rfl ?_
  intro p e s m args below meth c s₁ B hml hv
  obtain ⟨rfl, hK, hP⟩ := hv
  have hx := B.exec
  have hb := B.bytes
  have hr := B.returns
  have hts := atoms_spec (ws := wsX6_isSerial) B.pre
  have hown : s.vm.findClass RX6 = some m.cls := findClass_of_methodNamed B.named
  have hlocks := B.notSynchronized
  have hS : va_S (kA b 9) s.heap s.heap [] := va_S.rf
  have hP : va_P E.1 vwCl (wModx E b (u 0 0) (u 0 1) (u 0 2) (u 0 3) (u 0 4) (u 0 5) (u 0 6) (u 0 7) (u 1) (u 2) (u 3) (u 4) (u 5) (u 6) (u 7) (u 8)) s.heap := hP
  have hD := dMod (E := E) hj (u 0 0) (u 0 1) (u 0 2) (u 0 3) (u 0 4) (u 0 5) (u 0 6) (u 0 7) (u 1) (u 2) (u 3) (u 4) (u 5) (u 6) (u 7) (u 8)
  have hl := lv_entry ([.ref (b 0)]) (n := 1) (Nat.le_of_ble_eq_true rfl)
  rw [lg_entry_eq]
  generalize (lg_sl ([.ref (b 0)]) ++ List.replicate (1 - (lg_sl ([.ref (b 0)])).length) Slot.unset).toArray = ls at hl ⊢
  have hl : lv_has ls 1 [(0, .ref (b 0))] := hl
  replace hE := hE.trans mX6_isSerial_s
  refine lv_aload_n hx hb dX6_isSerial_0 rfl (lv_at hl 0 rfl) ?_
  refine kCallWi (va_runV (As := []) (rest := []) ⟨hx, hb, hml, hown, hts⟩ (c_X6_layOrder l E b u hj (by assumption) _ rfl) (cwV 0 hts gX6_isSerial_X6_layOrder rfl rfl rfl (by decide +kernel) ⟨Nat.le_of_ble_eq_true rfl, Nat.le_of_ble_eq_true rfl⟩) (kPreV hK hP hP (q0 := 0) rfl rfl) rfl rfl hl.1 rfl (lv_room (Nat.le_of_ble_eq_true rfl)) dX6_isSerial_1 ⟨Nat.zero_le _, Nat.zero_le _⟩) hS (fun _ h => h) (fun H locs hP _ _ hS => ?_)
  refine kGen (mX6_layOrder u) (fun g_1 hg_1 => ?_)
  rw [hg_1] at hE hP ⊢
  try dsimp only at hE
  have hP : va_P E.1 vwCl (wModx E b (u 0 0) (u 0 1) (u 0 2) (u 0 3) (u 0 4) (u 0 5) (u 0 6) (u 0 7) (u 1) (u 2) (u 3) (u 4) (u 5) (g_1.2.1) (g_1.2.2) (u 8)) H := hP
  have hD := dMod (E := E) hj (u 0 0) (u 0 1) (u 0 2) (u 0 3) (u 0 4) (u 0 5) (u 0 6) (u 0 7) (u 1) (u 2) (u 3) (u 4) (u 5) (g_1.2.1) (g_1.2.2) (u 8)
  refine lv_aload_n hx hb dX6_isSerial_4 rfl (lv_at hl 0 rfl) ?_
  refine lv_iconst (v := 1) hx hb dX6_isSerial_5 (by decide) ?_
  refine kCallRi (va_runV (As := [.int 1]) (rest := [.int (g_1.1)]) ⟨hx, hb, hml, hown, hts⟩ (c_X6_setOf l E b (rset (rset u 6 (g_1.2.1)) 7 (g_1.2.2)) 1 (by assumption) _ rfl) (cwV 1 hts gX6_isSerial_X6_setOf rfl rfl rfl (by decide +kernel) ⟨Nat.le_of_ble_eq_true rfl, Nat.le_of_ble_eq_true rfl⟩) (kPreV hK hP hP (q0 := 0) rfl rfl) rfl rfl hl.1 rfl (lv_room (Nat.le_of_ble_eq_true rfl)) dX6_isSerial_6 ⟨Nat.zero_le _, Nat.zero_le _⟩) ?_
  refine kCallRi (va_runS (As := [.int (mX6_setOf (rset (rset u 6 (g_1.2.1)) 7 (g_1.2.2)) 1)]) (rest := [.int (g_1.1)]) ⟨hx, hb, hml, hown, hts⟩ (c_X6_bits l E (mX6_setOf (rset (rset u 6 (g_1.2.1)) 7 (g_1.2.2)) 1) (setOf_b (by assumption) _) _ rfl) (va_cwS 1 hts gX6_isSerial_X6_bits rfl rfl rfl (by decide +kernel) ⟨Nat.le_of_ble_eq_true rfl, Nat.le_of_ble_eq_true rfl⟩) (kPreS hK kP0) rfl rfl hl.1 rfl (lv_room (Nat.le_of_ble_eq_true rfl)) dX6_isSerial_9 ⟨Nat.zero_le _, Nat.zero_le _⟩) ?_
  refine lv_icmp_ne (tgt := 19) hx hb dX6_isSerial_12 (by decide) (fun c_2 => ?_) (fun c_2 => ?_)
  · replace hE := hE.trans (if_neg c_2)
    refine lv_iconst (v := 0) hx hb dX6_isSerial_19 (by decide) ?_
    subst R
    exact W.zret (v := 0) (ty := .boolean) hx hb hr rfl (fun t ht hW => ⟨rfl, by rw [ht]; exact hP, hS.F ht⟩) hS.2.2 dX6_isSerial_20
  · replace hE := hE.trans (if_pos c_2)
    refine lv_iconst (v := 1) hx hb dX6_isSerial_15 (by decide) ?_
    refine lv_goto (tgt := 20) hx hb dX6_isSerial_16 (by decide) ?_
    subst R
    exact W.zret (v := 1) (ty := .boolean) hx hb hr rfl (fun t ht hW => ⟨rfl, by rw [ht]; exact hP, hS.F ht⟩) hS.2.2 dX6_isSerial_20
def mX6_order (u : kG) (x1 : Int32) : Int32 × (Nat → Int32) × (Nat → Int32) :=
  if x1 < 0 then
    ((-1), (u 6), (u 7))
  else
    if x1 < (mX6_bits (mX6_setOf u 1)) then
      (fun (g_3 : Int32 × (Nat → Int32) × (Nat → Int32)) =>
        if (g_3.1) = 0 then
          ((-5), (g_3.2.1), (g_3.2.2))
        else
          (((g_3.2.2) (x1).toNatClampNeg), (g_3.2.1), (g_3.2.2)))
        (mX6_isSerial u)
    else
      ((-1), (u 6), (u 7))
theorem mX6_order_s {u : kG} {x1 : Int32} : mX6_order u x1 = (
  if x1 < 0 then
    ((-1), (u 6), (u 7))
  else
    if x1 < (mX6_bits (mX6_setOf u 1)) then
      (fun (g_3 : Int32 × (Nat → Int32) × (Nat → Int32)) =>
        if (g_3.1) = 0 then
          ((-5), (g_3.2.1), (g_3.2.2))
        else
          (((g_3.2.2) (x1).toNatClampNeg), (g_3.2.1), (g_3.2.2)))
        (mX6_isSerial u)
    else
      ((-1), (u 6), (u 7)) : Int32 × (Nat → Int32) × (Nat → Int32)) := rfl
set_option maxHeartbeats 400000 in
set_option maxRecDepth 100000 in
theorem c_X6_order (l : Launch) (E : kE) (b : Nat → Nat) (u : kG) (hj : kInj b 9) (x1 : Int32) (hm : nOK (u 1 2)) (R : Int32 × (Nat → Int32) × (Nat → Int32)) (hE : R = mX6_order u x1) : Met l yX6_order wsX6_order ({ frames := 6, cells := 0, slots := 0, locals := 137 }) (kPre E [.ref (b 0), .int x1] (wModx E b (u 0 0) (u 0 1) (u 0 2) (u 0 3) (u 0 4) (u 0 5) (u 0 6) (u 0 7) (u 1) (u 2) (u 3) (u 4) (u 5) (u 6) (u 7) (u 8))) (kWi E R.1 (wModx E b (u 0 0) (u 0 1) (u 0 2) (u 0 3) (u 0 4) (u 0 5) (u 0 6) (u 0 7) (u 1) (u 2) (u 3) (u 4) (u 5) R.2.1 R.2.2 (u 8)) (kA b 9)) 0 0 (kA b 9) := by
  refine Met.ofW (cc := cX6_order) (maxL := 2) (ret := (some .int)) (by decide) rfl ?_
  intro p e s m args below meth c s₁ B hml hv
  obtain ⟨rfl, hK, hP⟩ := hv
  have hx := B.exec
  have hb := B.bytes
  have hr := B.returns
  have hts := atoms_spec (ws := wsX6_order) B.pre
  have hown : s.vm.findClass RX6 = some m.cls := findClass_of_methodNamed B.named
  have hlocks := B.notSynchronized
  have hiX6 : ∀ w ∈ wsX60, w ∈ wsX6_order := by decide +kernel
  have hf30 := hts (.fieldLink RX6 30 "SkewEdgesModel" "order" "[I") (by decide +kernel)
  have hS : va_S (kA b 9) s.heap s.heap [] := va_S.rf
  have hP : va_P E.1 vwCl (wModx E b (u 0 0) (u 0 1) (u 0 2) (u 0 3) (u 0 4) (u 0 5) (u 0 6) (u 0 7) (u 1) (u 2) (u 3) (u 4) (u 5) (u 6) (u 7) (u 8)) s.heap := hP
  have hD := dMod (E := E) hj (u 0 0) (u 0 1) (u 0 2) (u 0 3) (u 0 4) (u 0 5) (u 0 6) (u 0 7) (u 1) (u 2) (u 3) (u 4) (u 5) (u 6) (u 7) (u 8)
  have hl := lv_entry ([.ref (b 0), .int x1]) (n := 2) (Nat.le_of_ble_eq_true rfl)
  rw [lg_entry_eq]
  generalize (lg_sl ([.ref (b 0), .int x1]) ++ List.replicate (2 - (lg_sl ([.ref (b 0), .int x1])).length) Slot.unset).toArray = ls at hl ⊢
  have hl : lv_has ls 2 [(0, .ref (b 0)), (1, .int x1)] := hl
  replace hE := hE.trans mX6_order_s
  refine lv_iload_n hx hb dX6_order_0 rfl (lv_at hl 1 rfl) ?_
  refine lv_if_lt (tgt := 16) hx hb dX6_order_1 (by decide) (fun c_1 => ?_) (fun c_1 => ?_)
  · replace hE := hE.trans (if_pos c_1)
    refine lv_iconst (v := (-1)) hx hb dX6_order_16 (by decide) ?_
    subst R
    exact W.iret (v := (-1)) hx hb hr (fun t ht hW => ⟨rfl, by rw [ht]; exact hP, hS.F ht⟩) hS.2.2 dX6_order_17
  · replace hE := hE.trans (if_neg c_1)
    refine lv_iload_n hx hb dX6_order_4 rfl (lv_at hl 1 rfl) ?_
    refine lv_aload_n hx hb dX6_order_5 rfl (lv_at hl 0 rfl) ?_
    refine lv_iconst (v := 1) hx hb dX6_order_6 (by decide) ?_
    refine kCallRi (va_runV (As := [.int 1]) (rest := [.int x1]) ⟨hx, hb, hml, hown, hts⟩ (c_X6_setOf l E b u 1 (by assumption) _ rfl) (cwV 1 hts gX6_order_X6_setOf rfl rfl rfl (by decide +kernel) ⟨Nat.le_of_ble_eq_true rfl, Nat.le_of_ble_eq_true rfl⟩) (kPreV hK hP hP (q0 := 0) rfl rfl) rfl rfl hl.1 rfl (lv_room (Nat.le_of_ble_eq_true rfl)) dX6_order_7 ⟨Nat.zero_le _, Nat.zero_le _⟩) ?_
    refine kCallRi (va_runS (As := [.int (mX6_setOf u 1)]) (rest := [.int x1]) ⟨hx, hb, hml, hown, hts⟩ (c_X6_bits l E (mX6_setOf u 1) (setOf_b (by assumption) _) _ rfl) (va_cwS 1 hts gX6_order_X6_bits rfl rfl rfl (by decide +kernel) ⟨Nat.le_of_ble_eq_true rfl, Nat.le_of_ble_eq_true rfl⟩) (kPreS hK kP0) rfl rfl hl.1 rfl (lv_room (Nat.le_of_ble_eq_true rfl)) dX6_order_10 ⟨Nat.zero_le _, Nat.zero_le _⟩) ?_
    refine lv_icmp_lt (tgt := 18) hx hb dX6_order_13 (by decide) (fun c_2 => ?_) (fun c_2 => ?_)
    · replace hE := hE.trans (if_pos c_2)
      have hin : vp_in x1 12 := kpl (bits_n (setOf_s hm 1)) (by assumption) c_2
      refine lv_aload_n hx hb dX6_order_18 rfl (lv_at hl 0 rfl) ?_
      refine kCallWi (va_runV (As := []) (rest := []) ⟨hx, hb, hml, hown, hts⟩ (c_X6_isSerial l E b u hj (by assumption) _ rfl) (cwV 0 hts gX6_order_X6_isSerial rfl rfl rfl (by decide +kernel) ⟨Nat.le_of_ble_eq_true rfl, Nat.le_of_ble_eq_true rfl⟩) (kPreV hK hP hP (q0 := 0) rfl rfl) rfl rfl hl.1 rfl (lv_room (Nat.le_of_ble_eq_true rfl)) dX6_order_19 ⟨Nat.zero_le _, Nat.zero_le _⟩) hS (fun _ h => h) (fun H locs hP _ _ hS => ?_)
      refine kGen (mX6_isSerial u) (fun g_3 hg_3 => ?_)
      rw [hg_3] at hE hP ⊢
      try dsimp only at hE
      have hP : va_P E.1 vwCl (wModx E b (u 0 0) (u 0 1) (u 0 2) (u 0 3) (u 0 4) (u 0 5) (u 0 6) (u 0 7) (u 1) (u 2) (u 3) (u 4) (u 5) (g_3.2.1) (g_3.2.2) (u 8)) H := hP
      have hD := dMod (E := E) hj (u 0 0) (u 0 1) (u 0 2) (u 0 3) (u 0 4) (u 0 5) (u 0 6) (u 0 7) (u 1) (u 2) (u 3) (u 4) (u 5) (g_3.2.1) (g_3.2.2) (u 8)
      refine lv_if_eq (tgt := 34) hx hb dX6_order_22 (by decide) (fun c_4 => ?_) (fun c_4 => ?_)
      · replace hE := hE.trans (if_pos c_4)
        refine lv_bipush (v := (-5)) hx hb dX6_order_34 (by decide) ?_
        subst R
        exact W.iret (v := (-5)) hx hb hr (fun t ht hW => ⟨rfl, by rw [ht]; exact hP, hS.F ht⟩) hS.2.2 dX6_order_36
      · replace hE := hE.trans (if_neg c_4)
        refine lv_aload_n hx hb dX6_order_25 rfl (lv_at hl 0 rfl) ?_
        refine va_get (D := E.1) (ci := 5) (v := .ref (b 7)) (C := RX6) (T := TX6) (N := 16) hx hb hts hiX6 hown hK.1 hP 0 rfl rfl 11 (by decide) hf30 (fun _ h9 => h9) rfl dX6_order_26 ?_
        refine lv_iload_n hx hb dX6_order_29 rfl (lv_at hl 1 rfl) ?_
        refine va_iald (D := E.1) hx hb hK.1 hP 7 0 rfl rfl hin dX6_order_30 ?_
        refine lv_goto (tgt := 36) hx hb dX6_order_31 (by decide) ?_
        subst R
        exact W.iret (v := ((g_3.2.2) (x1).toNatClampNeg)) hx hb hr (fun t ht hW => ⟨rfl, by rw [ht]; exact hP, hS.F ht⟩) hS.2.2 dX6_order_36
    · replace hE := hE.trans (if_neg c_2)
      refine lv_iconst (v := (-1)) hx hb dX6_order_16 (by decide) ?_
      subst R
      exact W.iret (v := (-1)) hx hb hr (fun t ht hW => ⟨rfl, by rw [ht]; exact hP, hS.F ht⟩) hS.2.2 dX6_order_17
def mX6_would (u : kG) (x1 : Int32) : Int32 × Int32 × Int32 × Int32 × (Nat → Int32) :=
  if 0 ≤ (mX6_whyNotEnd u x1) then
    (fun (g_2 : Int32 × Int32 × Int32 × Int32 × (Nat → Int32)) =>
      ((g_2.1), (g_2.2.1), (g_2.2.2.1), (g_2.2.2.2.1), (g_2.2.2.2.2)))
      (mX6_reasonFor u x1 ((u 1) 0))
  else
    ((mX6_whyNotEnd u x1), (u 0 2), (u 0 3), (u 0 4), (u 1))
theorem mX6_would_s {u : kG} {x1 : Int32} : mX6_would u x1 = (
  if 0 ≤ (mX6_whyNotEnd u x1) then
    (fun (g_2 : Int32 × Int32 × Int32 × Int32 × (Nat → Int32)) =>
      ((g_2.1), (g_2.2.1), (g_2.2.2.1), (g_2.2.2.2.1), (g_2.2.2.2.2)))
      (mX6_reasonFor u x1 ((u 1) 0))
  else
    ((mX6_whyNotEnd u x1), (u 0 2), (u 0 3), (u 0 4), (u 1)) : Int32 × Int32 × Int32 × Int32 × (Nat → Int32)) := rfl
set_option maxHeartbeats 400000 in
set_option maxRecDepth 100000 in
theorem c_X6_would (l : Launch) (E : kE) (b : Nat → Nat) (u : kG) (hj : kInj b 9) (x1 : Int32) (hm : nOK (u 1 2)) (R : Int32 × Int32 × Int32 × Int32 × (Nat → Int32)) (hE : R = mX6_would u x1) : Met l yX6_would wsX6_would ({ frames := 8, cells := 0, slots := 0, locals := 183 }) (kPre E [.ref (b 0), .int x1] (wModx E b (u 0 0) (u 0 1) (u 0 2) (u 0 3) (u 0 4) (u 0 5) (u 0 6) (u 0 7) (u 1) (u 2) (u 3) (u 4) (u 5) (u 6) (u 7) (u 8))) (kWi E R.1 (wModx E b (u 0 0) (u 0 1) R.2.1 R.2.2.1 R.2.2.2.1 (u 0 5) (u 0 6) (u 0 7) R.2.2.2.2 (u 2) (u 3) (u 4) (u 5) (u 6) (u 7) (u 8)) (kA b 9)) 0 0 (kA b 9) := by
  refine Met.ofW (cc := cX6_would) (maxL := 3) (ret := (some .int)) (by decide) rfl ?_
  intro p e s m args below meth c s₁ B hml hv
  obtain ⟨rfl, hK, hP⟩ := hv
  have hx := B.exec
  have hb := B.bytes
  have hr := B.returns
  have hts := atoms_spec (ws := wsX6_would) B.pre
  have hown : s.vm.findClass RX6 = some m.cls := findClass_of_methodNamed B.named
  have hlocks := B.notSynchronized
  have hiX6 : ∀ w ∈ wsX60, w ∈ wsX6_would := by decide +kernel
  have hf7 := hts (.fieldLink RX6 7 "SkewEdgesModel" "z" "[I") (by decide +kernel)
  have hS : va_S (kA b 9) s.heap s.heap [] := va_S.rf
  have hP : va_P E.1 vwCl (wModx E b (u 0 0) (u 0 1) (u 0 2) (u 0 3) (u 0 4) (u 0 5) (u 0 6) (u 0 7) (u 1) (u 2) (u 3) (u 4) (u 5) (u 6) (u 7) (u 8)) s.heap := hP
  have hD := dMod (E := E) hj (u 0 0) (u 0 1) (u 0 2) (u 0 3) (u 0 4) (u 0 5) (u 0 6) (u 0 7) (u 1) (u 2) (u 3) (u 4) (u 5) (u 6) (u 7) (u 8)
  have hl := lv_entry ([.ref (b 0), .int x1]) (n := 3) (Nat.le_of_ble_eq_true rfl)
  rw [lg_entry_eq]
  generalize (lg_sl ([.ref (b 0), .int x1]) ++ List.replicate (3 - (lg_sl ([.ref (b 0), .int x1])).length) Slot.unset).toArray = ls at hl ⊢
  have hl : lv_has ls 3 [(0, .ref (b 0)), (1, .int x1)] := hl
  replace hE := hE.trans mX6_would_s
  refine lv_aload_n hx hb dX6_would_0 rfl (lv_at hl 0 rfl) ?_
  refine lv_iload_n hx hb dX6_would_1 rfl (lv_at hl 1 rfl) ?_
  refine kCallRi (va_runV (As := [.int x1]) (rest := []) ⟨hx, hb, hml, hown, hts⟩ (c_X6_whyNotEnd l E b u x1 (by assumption) _ rfl) (cwV 1 hts gX6_would_X6_whyNotEnd rfl rfl rfl (by decide +kernel) ⟨Nat.le_of_ble_eq_true rfl, Nat.le_of_ble_eq_true rfl⟩) (kPreV hK hP hP (q0 := 0) rfl rfl) rfl rfl hl.1 rfl (lv_room (Nat.le_of_ble_eq_true rfl)) dX6_would_2 ⟨Nat.zero_le _, Nat.zero_le _⟩) ?_
  refine lv_istore_n (lv' := [(2, .int (mX6_whyNotEnd u x1)), (0, .ref (b 0)), (1, .int x1)]) hx hb dX6_would_5 rfl hl (by decide) rfl (fun ls hl => ?_)
  refine lv_iload_n hx hb dX6_would_6 rfl (lv_at hl 0 rfl) ?_
  refine lv_if_ge (tgt := 14) hx hb dX6_would_7 (by decide) (fun c_1 => ?_) (fun c_1 => ?_)
  · replace hE := hE.trans (if_pos c_1)
    have ht := wne_ok hm c_1
    refine lv_aload_n hx hb dX6_would_14 rfl (lv_at hl 1 rfl) ?_
    refine lv_iload_n hx hb dX6_would_15 rfl (lv_at hl 2 rfl) ?_
    refine lv_aload_n hx hb dX6_would_16 rfl (lv_at hl 1 rfl) ?_
    refine va_get (D := E.1) (ci := 5) (v := .ref (b 1)) (C := RX6) (T := TX6) (N := 16) hx hb hts hiX6 hown hK.1 hP 0 rfl rfl 0 (by decide) hf7 (fun _ h9 => h9) rfl dX6_would_17 ?_
    refine lv_iconst (v := 0) hx hb dX6_would_20 (by decide) ?_
    refine va_iald (D := E.1) hx hb hK.1 hP 1 0 rfl rfl (vp_in_nI (n := 0) (by decide) (by decide)) dX6_would_21 ?_
    refine W.eq (g2 := F0 m 22 ls [.int ((u 1) 0), .int x1, .ref (b 0)]) rfl ?_
    refine kCallWi (va_runV (As := [.int x1, .int ((u 1) 0)]) (rest := []) ⟨hx, hb, hml, hown, hts⟩ (c_X6_reasonFor l E b u hj x1 ((u 1) 0) (by assumption) (by assumption) _ rfl) (cwV 2 hts gX6_would_X6_reasonFor rfl rfl rfl (by decide +kernel) ⟨Nat.le_of_ble_eq_true rfl, Nat.le_of_ble_eq_true rfl⟩) (kPreV hK hP hP (q0 := 0) rfl rfl) rfl rfl hl.1 rfl (lv_room (Nat.le_of_ble_eq_true rfl)) dX6_would_22 ⟨Nat.zero_le _, Nat.zero_le _⟩) hS (fun _ h => h) (fun H locs hP _ _ hS => ?_)
    refine kGen (mX6_reasonFor u x1 ((u 1) 0)) (fun g_2 hg_2 => ?_)
    rw [hg_2] at hE hP ⊢
    try dsimp only at hE
    have hP : va_P E.1 vwCl (wModx E b (u 0 0) (u 0 1) (g_2.2.1) (g_2.2.2.1) (g_2.2.2.2.1) (u 0 5) (u 0 6) (u 0 7) (g_2.2.2.2.2) (u 2) (u 3) (u 4) (u 5) (u 6) (u 7) (u 8)) H := hP
    have hD := dMod (E := E) hj (u 0 0) (u 0 1) (g_2.2.1) (g_2.2.2.1) (g_2.2.2.2.1) (u 0 5) (u 0 6) (u 0 7) (g_2.2.2.2.2) (u 2) (u 3) (u 4) (u 5) (u 6) (u 7) (u 8)
    subst R
    exact W.iret (v := (g_2.1)) hx hb hr (fun t ht hW => ⟨rfl, by rw [ht]; exact hP, hS.F ht⟩) hS.2.2 dX6_would_25
  · replace hE := hE.trans (if_neg c_1)
    refine lv_iload_n hx hb dX6_would_10 rfl (lv_at hl 0 rfl) ?_
    refine lv_goto (tgt := 25) hx hb dX6_would_11 (by decide) ?_
    subst R
    exact W.iret (v := (mX6_whyNotEnd u x1)) hx hb hr (fun t ht hW => ⟨rfl, by rw [ht]; exact hP, hS.F ht⟩) hS.2.2 dX6_would_25
def mX6_triple (u : kG) (x1 : Int32) (x2 : Int32) : Int32 × Int32 × Int32 × Int32 × (Nat → Int32) :=
  if (mX6_isTransaction u x1) = 0 then
    ((-1), (u 0 2), (u 0 3), (u 0 4), (u 1))
  else
    if (mX6_in x2 0 2) = 0 then
      ((-2), (u 0 2), (u 0 3), (u 0 4), (u 1))
    else
      if (mX6_isIn u x1 0) = 0 then
        ((-5), (u 0 2), (u 0 3), (u 0 4), (u 1))
      else
        (fun (g_4 : Int32 × Int32 × Int32 × Int32 × (Nat → Int32)) =>
          if (g_4.1) = 2 then
            if x2 = 0 then
              ((g_4.2.1), (g_4.2.1), (g_4.2.2.1), (g_4.2.2.2.1), (g_4.2.2.2.2))
            else
              if x2 = 1 then
                ((g_4.2.2.1), (g_4.2.1), (g_4.2.2.1), (g_4.2.2.2.1), (g_4.2.2.2.2))
              else
                ((g_4.2.2.2.1), (g_4.2.1), (g_4.2.2.1), (g_4.2.2.2.1), (g_4.2.2.2.2))
          else
            ((-6), (g_4.2.1), (g_4.2.2.1), (g_4.2.2.2.1), (g_4.2.2.2.2)))
          (mX6_reasonFor u x1 ((u 1) 0))
theorem mX6_triple_s {u : kG} {x1 : Int32} {x2 : Int32} : mX6_triple u x1 x2 = (
  if (mX6_isTransaction u x1) = 0 then
    ((-1), (u 0 2), (u 0 3), (u 0 4), (u 1))
  else
    if (mX6_in x2 0 2) = 0 then
      ((-2), (u 0 2), (u 0 3), (u 0 4), (u 1))
    else
      if (mX6_isIn u x1 0) = 0 then
        ((-5), (u 0 2), (u 0 3), (u 0 4), (u 1))
      else
        (fun (g_4 : Int32 × Int32 × Int32 × Int32 × (Nat → Int32)) =>
          if (g_4.1) = 2 then
            if x2 = 0 then
              ((g_4.2.1), (g_4.2.1), (g_4.2.2.1), (g_4.2.2.2.1), (g_4.2.2.2.2))
            else
              if x2 = 1 then
                ((g_4.2.2.1), (g_4.2.1), (g_4.2.2.1), (g_4.2.2.2.1), (g_4.2.2.2.2))
              else
                ((g_4.2.2.2.1), (g_4.2.1), (g_4.2.2.1), (g_4.2.2.2.1), (g_4.2.2.2.2))
          else
            ((-6), (g_4.2.1), (g_4.2.2.1), (g_4.2.2.2.1), (g_4.2.2.2.2)))
          (mX6_reasonFor u x1 ((u 1) 0)) : Int32 × Int32 × Int32 × Int32 × (Nat → Int32)) := rfl
set_option maxHeartbeats 400000 in
set_option maxRecDepth 100000 in
theorem c_X6_triple (l : Launch) (E : kE) (b : Nat → Nat) (u : kG) (hj : kInj b 9) (x1 : Int32) (x2 : Int32) (hm : nOK (u 1 2)) (R : Int32 × Int32 × Int32 × Int32 × (Nat → Int32)) (hE : R = mX6_triple u x1 x2) : Met l yX6_triple wsX6_triple ({ frames := 8, cells := 0, slots := 0, locals := 183 }) (kPre E [.ref (b 0), .int x1, .int x2] (wModx E b (u 0 0) (u 0 1) (u 0 2) (u 0 3) (u 0 4) (u 0 5) (u 0 6) (u 0 7) (u 1) (u 2) (u 3) (u 4) (u 5) (u 6) (u 7) (u 8))) (kWi E R.1 (wModx E b (u 0 0) (u 0 1) R.2.1 R.2.2.1 R.2.2.2.1 (u 0 5) (u 0 6) (u 0 7) R.2.2.2.2 (u 2) (u 3) (u 4) (u 5) (u 6) (u 7) (u 8)) (kA b 9)) 0 0 (kA b 9) := by
  refine Met.ofW (cc := cX6_triple) (maxL := 3) (ret := (some .int)) (by decide) rfl ?_
  intro p e s m args below meth c s₁ B hml hv
  obtain ⟨rfl, hK, hP⟩ := hv
  have hx := B.exec
  have hb := B.bytes
  have hr := B.returns
  have hts := atoms_spec (ws := wsX6_triple) B.pre
  have hown : s.vm.findClass RX6 = some m.cls := findClass_of_methodNamed B.named
  have hlocks := B.notSynchronized
  have hiX6 : ∀ w ∈ wsX60, w ∈ wsX6_triple := by decide +kernel
  have hf7 := hts (.fieldLink RX6 7 "SkewEdgesModel" "z" "[I") (by decide +kernel)
  have hf74 := hts (.fieldLink RX6 74 "SkewEdgesModel" "tripleA" "I") (by decide +kernel)
  have hf77 := hts (.fieldLink RX6 77 "SkewEdgesModel" "tripleP" "I") (by decide +kernel)
  have hf80 := hts (.fieldLink RX6 80 "SkewEdgesModel" "tripleC" "I") (by decide +kernel)
  have hS : va_S (kA b 9) s.heap s.heap [] := va_S.rf
  have hP : va_P E.1 vwCl (wModx E b (u 0 0) (u 0 1) (u 0 2) (u 0 3) (u 0 4) (u 0 5) (u 0 6) (u 0 7) (u 1) (u 2) (u 3) (u 4) (u 5) (u 6) (u 7) (u 8)) s.heap := hP
  have hD := dMod (E := E) hj (u 0 0) (u 0 1) (u 0 2) (u 0 3) (u 0 4) (u 0 5) (u 0 6) (u 0 7) (u 1) (u 2) (u 3) (u 4) (u 5) (u 6) (u 7) (u 8)
  have hl := lv_entry ([.ref (b 0), .int x1, .int x2]) (n := 3) (Nat.le_of_ble_eq_true rfl)
  rw [lg_entry_eq]
  generalize (lg_sl ([.ref (b 0), .int x1, .int x2]) ++ List.replicate (3 - (lg_sl ([.ref (b 0), .int x1, .int x2])).length) Slot.unset).toArray = ls at hl ⊢
  have hl : lv_has ls 3 [(0, .ref (b 0)), (1, .int x1), (2, .int x2)] := hl
  replace hE := hE.trans mX6_triple_s
  refine lv_aload_n hx hb dX6_triple_0 rfl (lv_at hl 0 rfl) ?_
  refine lv_iload_n hx hb dX6_triple_1 rfl (lv_at hl 1 rfl) ?_
  refine kCallRi (va_runV (As := [.int x1]) (rest := []) ⟨hx, hb, hml, hown, hts⟩ (c_X6_isTransaction l E b u x1 _ rfl) (cwV 1 hts gX6_triple_X6_isTransaction rfl rfl rfl (by decide +kernel) ⟨Nat.le_of_ble_eq_true rfl, Nat.le_of_ble_eq_true rfl⟩) (kPreV hK hP hP (q0 := 0) rfl rfl) rfl rfl hl.1 rfl (lv_room (Nat.le_of_ble_eq_true rfl)) dX6_triple_2 ⟨Nat.zero_le _, Nat.zero_le _⟩) ?_
  refine lv_if_ne (tgt := 10) hx hb dX6_triple_5 (by decide) (fun c_1 => ?_) (fun c_1 => ?_)
  · replace hE := hE.trans (if_neg c_1)
    have hzc_1 := isTr_ok (by assumption) c_1
    refine lv_iload_n hx hb dX6_triple_10 rfl (lv_at hl 2 rfl) ?_
    refine lv_iconst (v := 0) hx hb dX6_triple_11 (by decide) ?_
    refine lv_iconst (v := 2) hx hb dX6_triple_12 (by decide) ?_
    refine kCallRi (va_runS (As := [.int x2, .int 0, .int 2]) (rest := []) ⟨hx, hb, hml, hown, hts⟩ (c_X6_in l E x2 0 2 _ rfl) (va_cwS 3 hts gX6_triple_X6_in rfl rfl rfl (by decide +kernel) ⟨Nat.le_of_ble_eq_true rfl, Nat.le_of_ble_eq_true rfl⟩) (kPreS hK kP0) rfl rfl hl.1 rfl (lv_room (Nat.le_of_ble_eq_true rfl)) dX6_triple_13 ⟨Nat.zero_le _, Nat.zero_le _⟩) ?_
    refine lv_if_ne (tgt := 22) hx hb dX6_triple_16 (by decide) (fun c_2 => ?_) (fun c_2 => ?_)
    · replace hE := hE.trans (if_neg c_2)
      refine lv_aload_n hx hb dX6_triple_22 rfl (lv_at hl 0 rfl) ?_
      refine lv_iload_n hx hb dX6_triple_23 rfl (lv_at hl 1 rfl) ?_
      refine lv_iconst (v := 0) hx hb dX6_triple_24 (by decide) ?_
      refine kCallRi (va_runV (As := [.int x1, .int 0]) (rest := []) ⟨hx, hb, hml, hown, hts⟩ (c_X6_isIn l E b u x1 0 (by assumption) _ rfl) (cwV 2 hts gX6_triple_X6_isIn rfl rfl rfl (by decide +kernel) ⟨Nat.le_of_ble_eq_true rfl, Nat.le_of_ble_eq_true rfl⟩) (kPreV hK hP hP (q0 := 0) rfl rfl) rfl rfl hl.1 rfl (lv_room (Nat.le_of_ble_eq_true rfl)) dX6_triple_25 ⟨Nat.zero_le _, Nat.zero_le _⟩) ?_
      refine lv_if_ne (tgt := 34) hx hb dX6_triple_28 (by decide) (fun c_3 => ?_) (fun c_3 => ?_)
      · replace hE := hE.trans (if_neg c_3)
        refine lv_aload_n hx hb dX6_triple_34 rfl (lv_at hl 0 rfl) ?_
        refine lv_iload_n hx hb dX6_triple_35 rfl (lv_at hl 1 rfl) ?_
        refine lv_aload_n hx hb dX6_triple_36 rfl (lv_at hl 0 rfl) ?_
        refine va_get (D := E.1) (ci := 5) (v := .ref (b 1)) (C := RX6) (T := TX6) (N := 16) hx hb hts hiX6 hown hK.1 hP 0 rfl rfl 0 (by decide) hf7 (fun _ h9 => h9) rfl dX6_triple_37 ?_
        refine lv_iconst (v := 0) hx hb dX6_triple_40 (by decide) ?_
        refine va_iald (D := E.1) hx hb hK.1 hP 1 0 rfl rfl (vp_in_nI (n := 0) (by decide) (by decide)) dX6_triple_41 ?_
        refine W.eq (g2 := F0 m 42 ls [.int ((u 1) 0), .int x1, .ref (b 0)]) rfl ?_
        refine kCallWi (va_runV (As := [.int x1, .int ((u 1) 0)]) (rest := []) ⟨hx, hb, hml, hown, hts⟩ (c_X6_reasonFor l E b u hj x1 ((u 1) 0) (by assumption) (by assumption) _ rfl) (cwV 2 hts gX6_triple_X6_reasonFor rfl rfl rfl (by decide +kernel) ⟨Nat.le_of_ble_eq_true rfl, Nat.le_of_ble_eq_true rfl⟩) (kPreV hK hP hP (q0 := 0) rfl rfl) rfl rfl hl.1 rfl (lv_room (Nat.le_of_ble_eq_true rfl)) dX6_triple_42 ⟨Nat.zero_le _, Nat.zero_le _⟩) hS (fun _ h => h) (fun H locs hP _ _ hS => ?_)
        refine kGen (mX6_reasonFor u x1 ((u 1) 0)) (fun g_4 hg_4 => ?_)
        rw [hg_4] at hE hP ⊢
        try dsimp only at hE
        have hP : va_P E.1 vwCl (wModx E b (u 0 0) (u 0 1) (g_4.2.1) (g_4.2.2.1) (g_4.2.2.2.1) (u 0 5) (u 0 6) (u 0 7) (g_4.2.2.2.2) (u 2) (u 3) (u 4) (u 5) (u 6) (u 7) (u 8)) H := hP
        have hD := dMod (E := E) hj (u 0 0) (u 0 1) (g_4.2.1) (g_4.2.2.1) (g_4.2.2.2.1) (u 0 5) (u 0 6) (u 0 7) (g_4.2.2.2.2) (u 2) (u 3) (u 4) (u 5) (u 6) (u 7) (u 8)
        refine lv_iconst (v := 2) hx hb dX6_triple_45 (by decide) ?_
        refine lv_icmp_eq (tgt := 52) hx hb dX6_triple_46 (by decide) (fun c_5 => ?_) (fun c_5 => ?_)
        · replace hE := hE.trans (if_pos c_5)
          refine lv_iload_n hx hb dX6_triple_52 rfl (lv_at hl 2 rfl) ?_
          refine lv_if_ne (tgt := 63) hx hb dX6_triple_53 (by decide) (fun c_6 => ?_) (fun c_6 => ?_)
          · replace hE := hE.trans (if_neg c_6)
            refine lv_iload_n hx hb dX6_triple_63 rfl (lv_at hl 2 rfl) ?_
            refine lv_iconst (v := 1) hx hb dX6_triple_64 (by decide) ?_
            refine lv_icmp_ne (tgt := 75) hx hb dX6_triple_65 (by decide) (fun c_7 => ?_) (fun c_7 => ?_)
            · replace hE := hE.trans (if_neg c_7)
              refine lv_aload_n hx hb dX6_triple_75 rfl (lv_at hl 0 rfl) ?_
              refine va_get (D := E.1) (ci := 5) (v := .int (g_4.2.2.2.1)) (C := RX6) (T := TX6) (N := 16) hx hb hts hiX6 hown hK.1 hP 0 rfl rfl 9 (by decide) hf80 (fun _ h9 => h9) rfl dX6_triple_76 ?_
              subst R
              exact W.iret (v := (g_4.2.2.2.1)) hx hb hr (fun t ht hW => ⟨rfl, by rw [ht]; exact hP, hS.F ht⟩) hS.2.2 dX6_triple_79
            · replace hE := hE.trans (if_pos c_7)
              refine lv_aload_n hx hb dX6_triple_68 rfl (lv_at hl 0 rfl) ?_
              refine va_get (D := E.1) (ci := 5) (v := .int (g_4.2.2.1)) (C := RX6) (T := TX6) (N := 16) hx hb hts hiX6 hown hK.1 hP 0 rfl rfl 8 (by decide) hf77 (fun _ h9 => h9) rfl dX6_triple_69 ?_
              refine lv_goto (tgt := 79) hx hb dX6_triple_72 (by decide) ?_
              subst R
              exact W.iret (v := (g_4.2.2.1)) hx hb hr (fun t ht hW => ⟨rfl, by rw [ht]; exact hP, hS.F ht⟩) hS.2.2 dX6_triple_79
          · replace hE := hE.trans (if_pos c_6)
            refine lv_aload_n hx hb dX6_triple_56 rfl (lv_at hl 0 rfl) ?_
            refine va_get (D := E.1) (ci := 5) (v := .int (g_4.2.1)) (C := RX6) (T := TX6) (N := 16) hx hb hts hiX6 hown hK.1 hP 0 rfl rfl 7 (by decide) hf74 (fun _ h9 => h9) rfl dX6_triple_57 ?_
            refine lv_goto (tgt := 79) hx hb dX6_triple_60 (by decide) ?_
            subst R
            exact W.iret (v := (g_4.2.1)) hx hb hr (fun t ht hW => ⟨rfl, by rw [ht]; exact hP, hS.F ht⟩) hS.2.2 dX6_triple_79
        · replace hE := hE.trans (if_neg c_5)
          refine lv_bipush (v := (-6)) hx hb dX6_triple_49 (by decide) ?_
          subst R
          exact W.iret (v := (-6)) hx hb hr (fun t ht hW => ⟨rfl, by rw [ht]; exact hP, hS.F ht⟩) hS.2.2 dX6_triple_51
      · replace hE := hE.trans (if_pos c_3)
        refine lv_bipush (v := (-5)) hx hb dX6_triple_31 (by decide) ?_
        subst R
        exact W.iret (v := (-5)) hx hb hr (fun t ht hW => ⟨rfl, by rw [ht]; exact hP, hS.F ht⟩) hS.2.2 dX6_triple_33
    · replace hE := hE.trans (if_pos c_2)
      refine lv_bipush (v := (-2)) hx hb dX6_triple_19 (by decide) ?_
      subst R
      exact W.iret (v := (-2)) hx hb hr (fun t ht hW => ⟨rfl, by rw [ht]; exact hP, hS.F ht⟩) hS.2.2 dX6_triple_21
  · replace hE := hE.trans (if_pos c_1)
    refine lv_iconst (v := (-1)) hx hb dX6_triple_8 (by decide) ?_
    subst R
    exact W.iret (v := (-1)) hx hb hr (fun t ht hW => ⟨rfl, by rw [ht]; exact hP, hS.F ht⟩) hS.2.2 dX6_triple_9
def mX6_doomed_L16 (u : kG) (x1 : Int32) : Nat → Int32 → Nat → (Nat → Int32) → Int32 → Int32 → Int32 → (Int32 × Int32 × Int32 × Int32 × (Nat → Int32))
  | 0, _, _, _, _, _, _ => (0, 0, 0, 0, (fun _ => 0))
  | n16 + 1, x16_2, i16, f16_0_1, q16_0_2, q16_0_3, q16_0_4 =>
    if (f16_0_1 2) ≤ (nI i16) then
      (x16_2, q16_0_2, q16_0_3, q16_0_4, f16_0_1)
    else
      if (mX6_isIn (rset (rset u 1 f16_0_1) 0 (upd (upd (upd (u 0) 2 q16_0_2) 3 q16_0_3) 4 q16_0_4)) (nI i16) 0) = 0 then
        mX6_doomed_L16 u x1 n16 (x16_2 ||| 0) (i16 + 1) f16_0_1 q16_0_2 q16_0_3 q16_0_4
      else
        (fun (g_4 : Int32 × Int32 × Int32 × Int32 × (Nat → Int32)) =>
          if (g_4.1) ≤ 0 then
            mX6_doomed_L16 u x1 n16 (x16_2 ||| 0) (i16 + 1) (g_4.2.2.2.2) (g_4.2.1) (g_4.2.2.1) (g_4.2.2.2.1)
          else
            mX6_doomed_L16 u x1 n16 (x16_2 ||| (1 <<< ((nI i16) &&& 31))) (i16 + 1) (g_4.2.2.2.2) (g_4.2.1) (g_4.2.2.1) (g_4.2.2.2.1))
          (mX6_reasonFor (rset (rset u 1 f16_0_1) 0 (upd (upd (upd (u 0) 2 q16_0_2) 3 q16_0_3) 4 q16_0_4)) (nI i16) x1)
theorem mX6_doomed_L16_s {u : kG} {x1 : Int32} {n16 : Nat} {x16_2 : Int32} {i16 : Nat} {f16_0_1 : (Nat → Int32)} {q16_0_2 : Int32} {q16_0_3 : Int32} {q16_0_4 : Int32} : mX6_doomed_L16 u x1 (n16 + 1) x16_2 i16 f16_0_1 q16_0_2 q16_0_3 q16_0_4 = (
    if (f16_0_1 2) ≤ (nI i16) then
      (x16_2, q16_0_2, q16_0_3, q16_0_4, f16_0_1)
    else
      if (mX6_isIn (rset (rset u 1 f16_0_1) 0 (upd (upd (upd (u 0) 2 q16_0_2) 3 q16_0_3) 4 q16_0_4)) (nI i16) 0) = 0 then
        mX6_doomed_L16 u x1 n16 (x16_2 ||| 0) (i16 + 1) f16_0_1 q16_0_2 q16_0_3 q16_0_4
      else
        (fun (g_4 : Int32 × Int32 × Int32 × Int32 × (Nat → Int32)) =>
          if (g_4.1) ≤ 0 then
            mX6_doomed_L16 u x1 n16 (x16_2 ||| 0) (i16 + 1) (g_4.2.2.2.2) (g_4.2.1) (g_4.2.2.1) (g_4.2.2.2.1)
          else
            mX6_doomed_L16 u x1 n16 (x16_2 ||| (1 <<< ((nI i16) &&& 31))) (i16 + 1) (g_4.2.2.2.2) (g_4.2.1) (g_4.2.2.1) (g_4.2.2.2.1))
          (mX6_reasonFor (rset (rset u 1 f16_0_1) 0 (upd (upd (upd (u 0) 2 q16_0_2) 3 q16_0_3) 4 q16_0_4)) (nI i16) x1) : Int32 × Int32 × Int32 × Int32 × (Nat → Int32)) := rfl
def mX6_doomed (u : kG) (x1 : Int32) : Int32 × Int32 × Int32 × Int32 × (Nat → Int32) :=
  if (mX6_in x1 0 3) = 0 then
    ((-2), (u 0 2), (u 0 3), (u 0 4), (u 1))
  else
    mX6_doomed_L16 u x1 13 0 0 (u 1) (u 0 2) (u 0 3) (u 0 4)
theorem mX6_doomed_s {u : kG} {x1 : Int32} : mX6_doomed u x1 = (
  if (mX6_in x1 0 3) = 0 then
    ((-2), (u 0 2), (u 0 3), (u 0 4), (u 1))
  else
    mX6_doomed_L16 u x1 13 0 0 (u 1) (u 0 2) (u 0 3) (u 0 4) : Int32 × Int32 × Int32 × Int32 × (Nat → Int32)) := rfl
set_option maxHeartbeats 400000 in
set_option maxRecDepth 100000 in
theorem c_X6_doomed (l : Launch) (E : kE) (b : Nat → Nat) (u : kG) (hj : kInj b 9) (x1 : Int32) (hm : nOK (u 1 2)) (R : Int32 × Int32 × Int32 × Int32 × (Nat → Int32)) (hE : R = mX6_doomed u x1) : Met l yX6_doomed wsX6_doomed ({ frames := 8, cells := 0, slots := 0, locals := 183 }) (kPre E [.ref (b 0), .int x1] (wModx E b (u 0 0) (u 0 1) (u 0 2) (u 0 3) (u 0 4) (u 0 5) (u 0 6) (u 0 7) (u 1) (u 2) (u 3) (u 4) (u 5) (u 6) (u 7) (u 8))) (kWi E R.1 (wModx E b (u 0 0) (u 0 1) R.2.1 R.2.2.1 R.2.2.2.1 (u 0 5) (u 0 6) (u 0 7) R.2.2.2.2 (u 2) (u 3) (u 4) (u 5) (u 6) (u 7) (u 8)) (kA b 9)) 0 0 (kA b 9) := by
  refine Met.ofW (cc := cX6_doomed) (maxL := 5) (ret := (some .int)) (by decide) rfl ?_
  intro p e s m args below meth c s₁ B hml hv
  obtain ⟨rfl, hK, hP⟩ := hv
  have hx := B.exec
  have hb := B.bytes
  have hr := B.returns
  have hts := atoms_spec (ws := wsX6_doomed) B.pre
  have hown : s.vm.findClass RX6 = some m.cls := findClass_of_methodNamed B.named
  have hlocks := B.notSynchronized
  have hiX6 : ∀ w ∈ wsX60, w ∈ wsX6_doomed := by decide +kernel
  have hf7 := hts (.fieldLink RX6 7 "SkewEdgesModel" "z" "[I") (by decide +kernel)
  have hS : va_S (kA b 9) s.heap s.heap [] := va_S.rf
  have hP : va_P E.1 vwCl (wModx E b (u 0 0) (u 0 1) (u 0 2) (u 0 3) (u 0 4) (u 0 5) (u 0 6) (u 0 7) (u 1) (u 2) (u 3) (u 4) (u 5) (u 6) (u 7) (u 8)) s.heap := hP
  have hD := dMod (E := E) hj (u 0 0) (u 0 1) (u 0 2) (u 0 3) (u 0 4) (u 0 5) (u 0 6) (u 0 7) (u 1) (u 2) (u 3) (u 4) (u 5) (u 6) (u 7) (u 8)
  have hl := lv_entry ([.ref (b 0), .int x1]) (n := 5) (Nat.le_of_ble_eq_true rfl)
  rw [lg_entry_eq]
  generalize (lg_sl ([.ref (b 0), .int x1]) ++ List.replicate (5 - (lg_sl ([.ref (b 0), .int x1])).length) Slot.unset).toArray = ls at hl ⊢
  have hl : lv_has ls 5 [(0, .ref (b 0)), (1, .int x1)] := hl
  replace hE := hE.trans mX6_doomed_s
  refine lv_iload_n hx hb dX6_doomed_0 rfl (lv_at hl 1 rfl) ?_
  refine lv_iconst (v := 0) hx hb dX6_doomed_1 (by decide) ?_
  refine lv_iconst (v := 3) hx hb dX6_doomed_2 (by decide) ?_
  refine kCallRi (va_runS (As := [.int x1, .int 0, .int 3]) (rest := []) ⟨hx, hb, hml, hown, hts⟩ (c_X6_in l E x1 0 3 _ rfl) (va_cwS 3 hts gX6_doomed_X6_in rfl rfl rfl (by decide +kernel) ⟨Nat.le_of_ble_eq_true rfl, Nat.le_of_ble_eq_true rfl⟩) (kPreS hK kP0) rfl rfl hl.1 rfl (lv_room (Nat.le_of_ble_eq_true rfl)) dX6_doomed_3 ⟨Nat.zero_le _, Nat.zero_le _⟩) ?_
  refine lv_if_ne (tgt := 12) hx hb dX6_doomed_6 (by decide) (fun c_1 => ?_) (fun c_1 => ?_)
  · replace hE := hE.trans (if_neg c_1)
    refine lv_iconst (v := 0) hx hb dX6_doomed_12 (by decide) ?_
    refine lv_istore_n (lv' := [(2, .int 0), (0, .ref (b 0)), (1, .int x1)]) hx hb dX6_doomed_13 rfl hl (by decide) rfl (fun ls hl => ?_)
    refine lv_iconst (v := 0) hx hb dX6_doomed_14 (by decide) ?_
    refine lv_istore_n (lv' := [(3, .int 0), (2, .int 0), (0, .ref (b 0)), (1, .int x1)]) hx hb dX6_doomed_15 rfl hl (by decide) rfl (fun ls hl => ?_)
    have lp16 : ∀ (n16 : Nat) (x16_2 : Int32) (i16 : Nat) (f16_0_1 : (Nat → Int32)) (q16_0_2 : Int32) (q16_0_3 : Int32) (q16_0_4 : Int32) (H : Heap) (locs : List Loc), (12 < i16 + n16) → (i16 ≤ 12) → (nOK (f16_0_1 2)) → va_P E.1 vwCl (wModx E b (u 0 0) (u 0 1) q16_0_2 q16_0_3 q16_0_4 (u 0 5) (u 0 6) (u 0 7) f16_0_1 (u 2) (u 3) (u 4) (u 5) (u 6) (u 7) (u 8)) H → va_S (kA b 9) s.heap H locs → ∀ ls : Array Slot, lv_has ls 5 [(3, .int (nI i16)), (2, .int x16_2), (0, .ref (b 0)), (1, .int x1)] → R = mX6_doomed_L16 u x1 n16 x16_2 i16 f16_0_1 q16_0_2 q16_0_3 q16_0_4 → W p l e ({ frames := 8, cells := 0, slots := 0, locals := 183 }) s m ([.ref (b 0), .int x1] : List Value).toArray below meth c H locs 0 0 (MQ below (kWi E R.1 (wModx E b (u 0 0) (u 0 1) R.2.1 R.2.2.1 R.2.2.2.1 (u 0 5) (u 0 6) (u 0 7) R.2.2.2.2 (u 2) (u 3) (u 4) (u 5) (u 6) (u 7) (u 8)) (kA b 9)) ([.ref (b 0), .int x1] : List Value).toArray s 0 0 (kA b 9)) (F0 m 16 ls []) := by
      clear hE
      intro n16
      induction n16 with
      | zero =>
        intro x16_2 i16 f16_0_1 q16_0_2 q16_0_3 q16_0_4 H locs hm16 hi16 hz hP hS ls hl hE
        exact absurd hm16 (by omega)
      | succ n16 ih16 =>
        intro x16_2 i16 f16_0_1 q16_0_2 q16_0_3 q16_0_4 H locs hm16 hi16 hz hP hS ls hl hE
        have hD := dMod (E := E) hj (u 0 0) (u 0 1) q16_0_2 q16_0_3 q16_0_4 (u 0 5) (u 0 6) (u 0 7) f16_0_1 (u 2) (u 3) (u 4) (u 5) (u 6) (u 7) (u 8)
        replace hE := hE.trans mX6_doomed_L16_s
        refine lv_iload_n hx hb dX6_doomed_16 rfl (lv_at hl 0 rfl) ?_
        refine lv_aload_n hx hb dX6_doomed_17 rfl (lv_at hl 2 rfl) ?_
        refine va_get (D := E.1) (ci := 5) (v := .ref (b 1)) (C := RX6) (T := TX6) (N := 16) hx hb hts hiX6 hown hK.1 hP 0 rfl rfl 0 (by decide) hf7 (fun _ h9 => h9) rfl dX6_doomed_18 ?_
        refine lv_iconst (v := 2) hx hb dX6_doomed_21 (by decide) ?_
        refine va_iald (D := E.1) hx hb hK.1 hP 1 0 rfl rfl (vp_in_nI (n := 2) (by decide) (by decide)) dX6_doomed_22 ?_
        refine W.eq (g2 := F0 m 23 ls [.int (f16_0_1 2), .int (nI i16)]) rfl ?_
        refine lv_icmp_ge (tgt := 72) hx hb dX6_doomed_23 (by decide) (fun c_2 => ?_) (fun c_2 => ?_)
        · replace hE := hE.trans (if_pos c_2)
          refine lv_iload_n hx hb dX6_doomed_72 rfl (lv_at hl 1 rfl) ?_
          subst R
          exact W.iret (v := x16_2) hx hb hr (fun t ht hW => ⟨rfl, by rw [ht]; exact hP, hS.F ht⟩) hS.2.2 dX6_doomed_73
        · replace hE := hE.trans (if_neg c_2)
          have hbc_2 : i16 < 12 := nOK.lt (by assumption) (by omega) c_2
          refine lv_aload_n hx hb dX6_doomed_26 rfl (lv_at hl 2 rfl) ?_
          refine lv_iload_n hx hb dX6_doomed_27 rfl (lv_at hl 0 rfl) ?_
          refine lv_iconst (v := 0) hx hb dX6_doomed_28 (by decide) ?_
          refine kCallRi (va_runV (As := [.int (nI i16), .int 0]) (rest := []) ⟨hx, hb, hml, hown, hts⟩ (c_X6_isIn l E b (rset (rset u 1 f16_0_1) 0 (upd (upd (upd (u 0) 2 q16_0_2) 3 q16_0_3) 4 q16_0_4)) (nI i16) 0 (tOK.nI (by omega)) _ rfl) (cwV 2 hts gX6_doomed_X6_isIn rfl rfl rfl (by decide +kernel) ⟨Nat.le_of_ble_eq_true rfl, Nat.le_of_ble_eq_true rfl⟩) (kPreV hK hP hP (q0 := 0) rfl rfl) rfl rfl hl.1 rfl (lv_room (Nat.le_of_ble_eq_true rfl)) dX6_doomed_29 ⟨Nat.zero_le _, Nat.zero_le _⟩) ?_
          refine lv_if_eq (tgt := 48) hx hb dX6_doomed_32 (by decide) (fun c_3 => ?_) (fun c_3 => ?_)
          · replace hE := hE.trans (if_pos c_3)
            refine lv_iconst (v := 0) hx hb dX6_doomed_48 (by decide) ?_
            refine lv_istore (lv' := [(4, .int 0), (3, .int (nI i16)), (2, .int x16_2), (0, .ref (b 0)), (1, .int x1)]) hx hb dX6_doomed_49 hl (by decide) rfl (fun ls hl => ?_)
            refine lv_iload_n hx hb dX6_doomed_51 rfl (lv_at hl 2 rfl) ?_
            refine lv_iload hx hb dX6_doomed_52 (lv_at hl 0 rfl) ?_
            refine lv_if_eq (tgt := 63) hx hb dX6_doomed_54 (by decide) (fun _ => ?_) (fun c => absurd (by decide) c)
            refine lv_iconst (v := 0) hx hb dX6_doomed_63 (by decide) ?_
            refine lv_ior hx hb dX6_doomed_64 ?_
            refine lv_istore_n (lv' := [(2, .int (x16_2 ||| 0)), (4, .int 0), (3, .int (nI i16)), (0, .ref (b 0)), (1, .int x1)]) hx hb dX6_doomed_65 rfl hl (by decide) rfl (fun ls hl => ?_)
            refine lv_iinc (v := (nI (i16 + 1))) (lv' := [(3, .int (nI (i16 + 1))), (2, .int (x16_2 ||| 0)), (4, .int 0), (0, .ref (b 0)), (1, .int x1)]) hx hb dX6_doomed_66 hl (k := 2) rfl (nI_1 i16) (by decide) rfl (fun ls hl => ?_)
            refine lv_goto (tgt := 16) hx hb dX6_doomed_69 (by decide) ?_
            exact ih16 (x16_2 ||| 0) (i16 + 1) f16_0_1 q16_0_2 q16_0_3 q16_0_4 _ _ (by omega) (by omega) (by first | assumption | exact hz) hP hS ls (lv_sub hl [0, 1, 3, 4] rfl) hE
          · replace hE := hE.trans (if_neg c_3)
            refine lv_aload_n hx hb dX6_doomed_35 rfl (lv_at hl 2 rfl) ?_
            refine lv_iload_n hx hb dX6_doomed_36 rfl (lv_at hl 0 rfl) ?_
            refine lv_iload_n hx hb dX6_doomed_37 rfl (lv_at hl 3 rfl) ?_
            refine kCallWi (va_runV (As := [.int (nI i16), .int x1]) (rest := []) ⟨hx, hb, hml, hown, hts⟩ (c_X6_reasonFor l E b (rset (rset u 1 f16_0_1) 0 (upd (upd (upd (u 0) 2 q16_0_2) 3 q16_0_3) 4 q16_0_4)) hj (nI i16) x1 hz (tOK.nI (by omega)) _ rfl) (cwV 2 hts gX6_doomed_X6_reasonFor rfl rfl rfl (by decide +kernel) ⟨Nat.le_of_ble_eq_true rfl, Nat.le_of_ble_eq_true rfl⟩) (kPreV hK hP hP (q0 := 0) rfl rfl) rfl rfl hl.1 rfl (lv_room (Nat.le_of_ble_eq_true rfl)) dX6_doomed_38 ⟨Nat.zero_le _, Nat.zero_le _⟩) hS (fun _ h => h) (fun H locs hP _ _ hS => ?_)
            have hz2 : nOK ((mX6_reasonFor (rset (rset u 1 f16_0_1) 0 (upd (upd (upd (u 0) 2 q16_0_2) 3 q16_0_3) 4 q16_0_4)) (nI i16) x1).2.2.2.2 2) := reasonFor_n (u := (rset (rset u 1 f16_0_1) 0 (upd (upd (upd (u 0) 2 q16_0_2) 3 q16_0_3) 4 q16_0_4))) hz (tOK.nI (by omega)) x1
            refine kGen (mX6_reasonFor (rset (rset u 1 f16_0_1) 0 (upd (upd (upd (u 0) 2 q16_0_2) 3 q16_0_3) 4 q16_0_4)) (nI i16) x1) (fun g_4 hg_4 => ?_)
            rw [hg_4] at hE hP hz2 ⊢
            try dsimp only at hE
            have hP : va_P E.1 vwCl (wModx E b (u 0 0) (u 0 1) (g_4.2.1) (g_4.2.2.1) (g_4.2.2.2.1) (u 0 5) (u 0 6) (u 0 7) (g_4.2.2.2.2) (u 2) (u 3) (u 4) (u 5) (u 6) (u 7) (u 8)) H := hP
            have hD := dMod (E := E) hj (u 0 0) (u 0 1) (g_4.2.1) (g_4.2.2.1) (g_4.2.2.2.1) (u 0 5) (u 0 6) (u 0 7) (g_4.2.2.2.2) (u 2) (u 3) (u 4) (u 5) (u 6) (u 7) (u 8)
            refine lv_if_le (tgt := 48) hx hb dX6_doomed_41 (by decide) (fun c_5 => ?_) (fun c_5 => ?_)
            · replace hE := hE.trans (if_pos c_5)
              refine lv_iconst (v := 0) hx hb dX6_doomed_48 (by decide) ?_
              refine lv_istore (lv' := [(4, .int 0), (3, .int (nI i16)), (2, .int x16_2), (0, .ref (b 0)), (1, .int x1)]) hx hb dX6_doomed_49 hl (by decide) rfl (fun ls hl => ?_)
              refine lv_iload_n hx hb dX6_doomed_51 rfl (lv_at hl 2 rfl) ?_
              refine lv_iload hx hb dX6_doomed_52 (lv_at hl 0 rfl) ?_
              refine lv_if_eq (tgt := 63) hx hb dX6_doomed_54 (by decide) (fun _ => ?_) (fun c => absurd (by decide) c)
              refine lv_iconst (v := 0) hx hb dX6_doomed_63 (by decide) ?_
              refine lv_ior hx hb dX6_doomed_64 ?_
              refine lv_istore_n (lv' := [(2, .int (x16_2 ||| 0)), (4, .int 0), (3, .int (nI i16)), (0, .ref (b 0)), (1, .int x1)]) hx hb dX6_doomed_65 rfl hl (by decide) rfl (fun ls hl => ?_)
              refine lv_iinc (v := (nI (i16 + 1))) (lv' := [(3, .int (nI (i16 + 1))), (2, .int (x16_2 ||| 0)), (4, .int 0), (0, .ref (b 0)), (1, .int x1)]) hx hb dX6_doomed_66 hl (k := 2) rfl (nI_1 i16) (by decide) rfl (fun ls hl => ?_)
              refine lv_goto (tgt := 16) hx hb dX6_doomed_69 (by decide) ?_
              exact ih16 (x16_2 ||| 0) (i16 + 1) (g_4.2.2.2.2) (g_4.2.1) (g_4.2.2.1) (g_4.2.2.2.1) _ _ (by omega) (by omega) (by first | assumption | exact hz) hP hS ls (lv_sub hl [0, 1, 3, 4] rfl) hE
            · replace hE := hE.trans (if_neg c_5)
              refine lv_iconst (v := 1) hx hb dX6_doomed_44 (by decide) ?_
              refine lv_goto (tgt := 49) hx hb dX6_doomed_45 (by decide) ?_
              refine lv_istore (lv' := [(4, .int 1), (3, .int (nI i16)), (2, .int x16_2), (0, .ref (b 0)), (1, .int x1)]) hx hb dX6_doomed_49 hl (by decide) rfl (fun ls hl => ?_)
              refine lv_iload_n hx hb dX6_doomed_51 rfl (lv_at hl 2 rfl) ?_
              refine lv_iload hx hb dX6_doomed_52 (lv_at hl 0 rfl) ?_
              refine lv_if_eq (tgt := 63) hx hb dX6_doomed_54 (by decide) (fun c => absurd c (by decide)) (fun _ => ?_)
              refine lv_iconst (v := 1) hx hb dX6_doomed_57 (by decide) ?_
              refine lv_iload_n hx hb dX6_doomed_58 rfl (lv_at hl 1 rfl) ?_
              refine lv_ishl hx hb dX6_doomed_59 ?_
              refine lv_goto (tgt := 64) hx hb dX6_doomed_60 (by decide) ?_
              refine lv_ior hx hb dX6_doomed_64 ?_
              refine lv_istore_n (lv' := [(2, .int (x16_2 ||| (1 <<< ((nI i16) &&& 31)))), (4, .int 1), (3, .int (nI i16)), (0, .ref (b 0)), (1, .int x1)]) hx hb dX6_doomed_65 rfl hl (by decide) rfl (fun ls hl => ?_)
              refine lv_iinc (v := (nI (i16 + 1))) (lv' := [(3, .int (nI (i16 + 1))), (2, .int (x16_2 ||| (1 <<< ((nI i16) &&& 31)))), (4, .int 1), (0, .ref (b 0)), (1, .int x1)]) hx hb dX6_doomed_66 hl (k := 2) rfl (nI_1 i16) (by decide) rfl (fun ls hl => ?_)
              refine lv_goto (tgt := 16) hx hb dX6_doomed_69 (by decide) ?_
              exact ih16 (x16_2 ||| (1 <<< ((nI i16) &&& 31))) (i16 + 1) (g_4.2.2.2.2) (g_4.2.1) (g_4.2.2.1) (g_4.2.2.2.1) _ _ (by omega) (by omega) (by first | assumption | exact hz) hP hS ls (lv_sub hl [0, 1, 3, 4] rfl) hE
    exact lp16 13 0 0 (u 1) (u 0 2) (u 0 3) (u 0 4) _ _ (by omega) (by omega) hm hP hS ls (lv_sub hl [0, 1, 2, 3] rfl) hE
  · replace hE := hE.trans (if_pos c_1)
    refine lv_bipush (v := (-2)) hx hb dX6_doomed_9 (by decide) ?_
    subst R
    exact W.iret (v := (-2)) hx hb hr (fun t ht hW => ⟨rfl, by rw [ht]; exact hP, hS.F ht⟩) hS.2.2 dX6_doomed_11
def mX6_count (u : kG) (x1 : Int32) : Int32 × (Nat → Int32) × (Nat → Int32) :=
  if x1 = 0 then
    (((u 1) 2), (u 6), (u 7))
  else
    if x1 = 1 then
      ((mX6_setOf u (x1 - 1)), (u 6), (u 7))
    else
      if x1 = 2 then
        ((mX6_setOf u (x1 - 1)), (u 6), (u 7))
      else
        if x1 = 3 then
          ((mX6_setOf u (x1 - 1)), (u 6), (u 7))
        else
          if x1 = 4 then
            (((u 1) 1), (u 6), (u 7))
          else
            if x1 = 5 then
              (((u 1) 0), (u 6), (u 7))
            else
              if x1 = 6 then
                ((mX6_edges u), (u 6), (u 7))
              else
                if x1 = 7 then
                  ((mX6_pivots u), (u 6), (u 7))
                else
                  if x1 = 8 then
                    ((mX6_triples u), (u 6), (u 7))
                  else
                    if x1 = 9 then
                      (fun (g_11 : Int32 × (Nat → Int32) × (Nat → Int32)) =>
                        if (g_11.1) = 0 then
                          (0, (g_11.2.1), (g_11.2.2))
                        else
                          (1, (g_11.2.1), (g_11.2.2)))
                        (mX6_isSerial u)
                    else
                      if x1 = 10 then
                        ((u 0 1), (u 6), (u 7))
                      else
                        if x1 = 11 then
                          ((u 0 0), (u 6), (u 7))
                        else
                          ((-2), (u 6), (u 7))
theorem mX6_count_s {u : kG} {x1 : Int32} : mX6_count u x1 = (
  if x1 = 0 then
    (((u 1) 2), (u 6), (u 7))
  else
    if x1 = 1 then
      ((mX6_setOf u (x1 - 1)), (u 6), (u 7))
    else
      if x1 = 2 then
        ((mX6_setOf u (x1 - 1)), (u 6), (u 7))
      else
        if x1 = 3 then
          ((mX6_setOf u (x1 - 1)), (u 6), (u 7))
        else
          if x1 = 4 then
            (((u 1) 1), (u 6), (u 7))
          else
            if x1 = 5 then
              (((u 1) 0), (u 6), (u 7))
            else
              if x1 = 6 then
                ((mX6_edges u), (u 6), (u 7))
              else
                if x1 = 7 then
                  ((mX6_pivots u), (u 6), (u 7))
                else
                  if x1 = 8 then
                    ((mX6_triples u), (u 6), (u 7))
                  else
                    if x1 = 9 then
                      (fun (g_11 : Int32 × (Nat → Int32) × (Nat → Int32)) =>
                        if (g_11.1) = 0 then
                          (0, (g_11.2.1), (g_11.2.2))
                        else
                          (1, (g_11.2.1), (g_11.2.2)))
                        (mX6_isSerial u)
                    else
                      if x1 = 10 then
                        ((u 0 1), (u 6), (u 7))
                      else
                        if x1 = 11 then
                          ((u 0 0), (u 6), (u 7))
                        else
                          ((-2), (u 6), (u 7)) : Int32 × (Nat → Int32) × (Nat → Int32)) := rfl
set_option maxHeartbeats 400000 in
set_option maxRecDepth 100000 in
theorem c_X6_count (l : Launch) (E : kE) (b : Nat → Nat) (u : kG) (hj : kInj b 9) (x1 : Int32) (hm : nOK (u 1 2)) (R : Int32 × (Nat → Int32) × (Nat → Int32)) (hE : R = mX6_count u x1) : Met l yX6_count wsX6_count ({ frames := 7, cells := 0, slots := 0, locals := 156 }) (kPre E [.ref (b 0), .int x1] (wModx E b (u 0 0) (u 0 1) (u 0 2) (u 0 3) (u 0 4) (u 0 5) (u 0 6) (u 0 7) (u 1) (u 2) (u 3) (u 4) (u 5) (u 6) (u 7) (u 8))) (kWi E R.1 (wModx E b (u 0 0) (u 0 1) (u 0 2) (u 0 3) (u 0 4) (u 0 5) (u 0 6) (u 0 7) (u 1) (u 2) (u 3) (u 4) (u 5) R.2.1 R.2.2 (u 8)) (kA b 9)) 0 0 (kA b 9) := by
  refine Met.ofW (cc := cX6_count) (maxL := 2) (ret := (some .int)) (by decide) rfl ?_
  intro p e s m args below meth c s₁ B hml hv
  obtain ⟨rfl, hK, hP⟩ := hv
  have hx := B.exec
  have hb := B.bytes
  have hr := B.returns
  have hts := atoms_spec (ws := wsX6_count) B.pre
  have hown : s.vm.findClass RX6 = some m.cls := findClass_of_methodNamed B.named
  have hlocks := B.notSynchronized
  have hiX6 : ∀ w ∈ wsX60, w ∈ wsX6_count := by decide +kernel
  have hf7 := hts (.fieldLink RX6 7 "SkewEdgesModel" "z" "[I") (by decide +kernel)
  have hf44 := hts (.fieldLink RX6 44 "SkewEdgesModel" "pastMany" "I") (by decide +kernel)
  have hf168 := hts (.fieldLink RX6 168 "SkewEdgesModel" "typed" "I") (by decide +kernel)
  have hS : va_S (kA b 9) s.heap s.heap [] := va_S.rf
  have hP : va_P E.1 vwCl (wModx E b (u 0 0) (u 0 1) (u 0 2) (u 0 3) (u 0 4) (u 0 5) (u 0 6) (u 0 7) (u 1) (u 2) (u 3) (u 4) (u 5) (u 6) (u 7) (u 8)) s.heap := hP
  have hD := dMod (E := E) hj (u 0 0) (u 0 1) (u 0 2) (u 0 3) (u 0 4) (u 0 5) (u 0 6) (u 0 7) (u 1) (u 2) (u 3) (u 4) (u 5) (u 6) (u 7) (u 8)
  have hl := lv_entry ([.ref (b 0), .int x1]) (n := 2) (Nat.le_of_ble_eq_true rfl)
  rw [lg_entry_eq]
  generalize (lg_sl ([.ref (b 0), .int x1]) ++ List.replicate (2 - (lg_sl ([.ref (b 0), .int x1])).length) Slot.unset).toArray = ls at hl ⊢
  have hl : lv_has ls 2 [(0, .ref (b 0)), (1, .int x1)] := hl
  replace hE := hE.trans mX6_count_s
  refine lv_iload_n hx hb dX6_count_0 rfl (lv_at hl 1 rfl) ?_
  by_cases c_1 : x1 = 0
  · replace hE := hE.trans (if_pos c_1)
    refine W.eq (g2 := F0 m 1 ls ([.int 0])) (by rw [c_1]) ?_
    refine lv_tableIn (tgt := 64) hx hb dX6_count_1 (by decide) (by decide) rfl (by decide) ?_
    refine lv_aload_n hx hb dX6_count_64 rfl (lv_at hl 0 rfl) ?_
    refine va_get (D := E.1) (ci := 5) (v := .ref (b 1)) (C := RX6) (T := TX6) (N := 16) hx hb hts hiX6 hown hK.1 hP 0 rfl rfl 0 (by decide) hf7 (fun _ h9 => h9) rfl dX6_count_65 ?_
    refine lv_iconst (v := 2) hx hb dX6_count_68 (by decide) ?_
    refine va_iald (D := E.1) hx hb hK.1 hP 1 0 rfl rfl (vp_in_nI (n := 2) (by decide) (by decide)) dX6_count_69 ?_
    refine W.eq (g2 := F0 m 70 ls [.int ((u 1) 2)]) rfl ?_
    subst R
    exact W.iret (v := ((u 1) 2)) hx hb hr (fun t ht hW => ⟨rfl, by rw [ht]; exact hP, hS.F ht⟩) hS.2.2 dX6_count_70
  · replace hE := hE.trans (if_neg c_1)
    by_cases c_2 : x1 = 1
    · replace hE := hE.trans (if_pos c_2)
      refine W.eq (g2 := F0 m 1 ls ([.int 1])) (by rw [c_2]) ?_
      refine lv_tableIn (tgt := 71) hx hb dX6_count_1 (by decide) (by decide) rfl (by decide) ?_
      refine lv_aload_n hx hb dX6_count_71 rfl (lv_at hl 0 rfl) ?_
      refine lv_iload_n hx hb dX6_count_72 rfl (lv_at hl 1 rfl) ?_
      refine lv_iconst (v := 1) hx hb dX6_count_73 (by decide) ?_
      refine lv_isub hx hb dX6_count_74 ?_
      refine kCallRi (va_runV (As := [.int (x1 - 1)]) (rest := []) ⟨hx, hb, hml, hown, hts⟩ (c_X6_setOf l E b u (x1 - 1) (by assumption) _ rfl) (cwV 1 hts gX6_count_X6_setOf rfl rfl rfl (by decide +kernel) ⟨Nat.le_of_ble_eq_true rfl, Nat.le_of_ble_eq_true rfl⟩) (kPreV hK hP hP (q0 := 0) rfl rfl) rfl rfl hl.1 rfl (lv_room (Nat.le_of_ble_eq_true rfl)) dX6_count_75 ⟨Nat.zero_le _, Nat.zero_le _⟩) ?_
      subst R
      exact W.iret (v := (mX6_setOf u (x1 - 1))) hx hb hr (fun t ht hW => ⟨rfl, by rw [ht]; exact hP, hS.F ht⟩) hS.2.2 dX6_count_78
    · replace hE := hE.trans (if_neg c_2)
      by_cases c_3 : x1 = 2
      · replace hE := hE.trans (if_pos c_3)
        refine W.eq (g2 := F0 m 1 ls ([.int 2])) (by rw [c_3]) ?_
        refine lv_tableIn (tgt := 71) hx hb dX6_count_1 (by decide) (by decide) rfl (by decide) ?_
        refine lv_aload_n hx hb dX6_count_71 rfl (lv_at hl 0 rfl) ?_
        refine lv_iload_n hx hb dX6_count_72 rfl (lv_at hl 1 rfl) ?_
        refine lv_iconst (v := 1) hx hb dX6_count_73 (by decide) ?_
        refine lv_isub hx hb dX6_count_74 ?_
        refine kCallRi (va_runV (As := [.int (x1 - 1)]) (rest := []) ⟨hx, hb, hml, hown, hts⟩ (c_X6_setOf l E b u (x1 - 1) (by assumption) _ rfl) (cwV 1 hts gX6_count_X6_setOf rfl rfl rfl (by decide +kernel) ⟨Nat.le_of_ble_eq_true rfl, Nat.le_of_ble_eq_true rfl⟩) (kPreV hK hP hP (q0 := 0) rfl rfl) rfl rfl hl.1 rfl (lv_room (Nat.le_of_ble_eq_true rfl)) dX6_count_75 ⟨Nat.zero_le _, Nat.zero_le _⟩) ?_
        subst R
        exact W.iret (v := (mX6_setOf u (x1 - 1))) hx hb hr (fun t ht hW => ⟨rfl, by rw [ht]; exact hP, hS.F ht⟩) hS.2.2 dX6_count_78
      · replace hE := hE.trans (if_neg c_3)
        by_cases c_4 : x1 = 3
        · replace hE := hE.trans (if_pos c_4)
          refine W.eq (g2 := F0 m 1 ls ([.int 3])) (by rw [c_4]) ?_
          refine lv_tableIn (tgt := 71) hx hb dX6_count_1 (by decide) (by decide) rfl (by decide) ?_
          refine lv_aload_n hx hb dX6_count_71 rfl (lv_at hl 0 rfl) ?_
          refine lv_iload_n hx hb dX6_count_72 rfl (lv_at hl 1 rfl) ?_
          refine lv_iconst (v := 1) hx hb dX6_count_73 (by decide) ?_
          refine lv_isub hx hb dX6_count_74 ?_
          refine kCallRi (va_runV (As := [.int (x1 - 1)]) (rest := []) ⟨hx, hb, hml, hown, hts⟩ (c_X6_setOf l E b u (x1 - 1) (by assumption) _ rfl) (cwV 1 hts gX6_count_X6_setOf rfl rfl rfl (by decide +kernel) ⟨Nat.le_of_ble_eq_true rfl, Nat.le_of_ble_eq_true rfl⟩) (kPreV hK hP hP (q0 := 0) rfl rfl) rfl rfl hl.1 rfl (lv_room (Nat.le_of_ble_eq_true rfl)) dX6_count_75 ⟨Nat.zero_le _, Nat.zero_le _⟩) ?_
          subst R
          exact W.iret (v := (mX6_setOf u (x1 - 1))) hx hb hr (fun t ht hW => ⟨rfl, by rw [ht]; exact hP, hS.F ht⟩) hS.2.2 dX6_count_78
        · replace hE := hE.trans (if_neg c_4)
          by_cases c_5 : x1 = 4
          · replace hE := hE.trans (if_pos c_5)
            refine W.eq (g2 := F0 m 1 ls ([.int 4])) (by rw [c_5]) ?_
            refine lv_tableIn (tgt := 79) hx hb dX6_count_1 (by decide) (by decide) rfl (by decide) ?_
            refine lv_aload_n hx hb dX6_count_79 rfl (lv_at hl 0 rfl) ?_
            refine va_get (D := E.1) (ci := 5) (v := .ref (b 1)) (C := RX6) (T := TX6) (N := 16) hx hb hts hiX6 hown hK.1 hP 0 rfl rfl 0 (by decide) hf7 (fun _ h9 => h9) rfl dX6_count_80 ?_
            refine lv_iconst (v := 1) hx hb dX6_count_83 (by decide) ?_
            refine va_iald (D := E.1) hx hb hK.1 hP 1 0 rfl rfl (vp_in_nI (n := 1) (by decide) (by decide)) dX6_count_84 ?_
            refine W.eq (g2 := F0 m 85 ls [.int ((u 1) 1)]) rfl ?_
            subst R
            exact W.iret (v := ((u 1) 1)) hx hb hr (fun t ht hW => ⟨rfl, by rw [ht]; exact hP, hS.F ht⟩) hS.2.2 dX6_count_85
          · replace hE := hE.trans (if_neg c_5)
            by_cases c_6 : x1 = 5
            · replace hE := hE.trans (if_pos c_6)
              refine W.eq (g2 := F0 m 1 ls ([.int 5])) (by rw [c_6]) ?_
              refine lv_tableIn (tgt := 86) hx hb dX6_count_1 (by decide) (by decide) rfl (by decide) ?_
              refine lv_aload_n hx hb dX6_count_86 rfl (lv_at hl 0 rfl) ?_
              refine va_get (D := E.1) (ci := 5) (v := .ref (b 1)) (C := RX6) (T := TX6) (N := 16) hx hb hts hiX6 hown hK.1 hP 0 rfl rfl 0 (by decide) hf7 (fun _ h9 => h9) rfl dX6_count_87 ?_
              refine lv_iconst (v := 0) hx hb dX6_count_90 (by decide) ?_
              refine va_iald (D := E.1) hx hb hK.1 hP 1 0 rfl rfl (vp_in_nI (n := 0) (by decide) (by decide)) dX6_count_91 ?_
              refine W.eq (g2 := F0 m 92 ls [.int ((u 1) 0)]) rfl ?_
              subst R
              exact W.iret (v := ((u 1) 0)) hx hb hr (fun t ht hW => ⟨rfl, by rw [ht]; exact hP, hS.F ht⟩) hS.2.2 dX6_count_92
            · replace hE := hE.trans (if_neg c_6)
              by_cases c_7 : x1 = 6
              · replace hE := hE.trans (if_pos c_7)
                refine W.eq (g2 := F0 m 1 ls ([.int 6])) (by rw [c_7]) ?_
                refine lv_tableIn (tgt := 93) hx hb dX6_count_1 (by decide) (by decide) rfl (by decide) ?_
                refine lv_aload_n hx hb dX6_count_93 rfl (lv_at hl 0 rfl) ?_
                refine kCallRi (va_runV (As := []) (rest := []) ⟨hx, hb, hml, hown, hts⟩ (c_X6_edges l E b u (by assumption) _ rfl) (cwV 0 hts gX6_count_X6_edges rfl rfl rfl (by decide +kernel) ⟨Nat.le_of_ble_eq_true rfl, Nat.le_of_ble_eq_true rfl⟩) (kPreV hK hP hP (q0 := 0) rfl rfl) rfl rfl hl.1 rfl (lv_room (Nat.le_of_ble_eq_true rfl)) dX6_count_94 ⟨Nat.zero_le _, Nat.zero_le _⟩) ?_
                subst R
                exact W.iret (v := (mX6_edges u)) hx hb hr (fun t ht hW => ⟨rfl, by rw [ht]; exact hP, hS.F ht⟩) hS.2.2 dX6_count_97
              · replace hE := hE.trans (if_neg c_7)
                by_cases c_8 : x1 = 7
                · replace hE := hE.trans (if_pos c_8)
                  refine W.eq (g2 := F0 m 1 ls ([.int 7])) (by rw [c_8]) ?_
                  refine lv_tableIn (tgt := 98) hx hb dX6_count_1 (by decide) (by decide) rfl (by decide) ?_
                  refine lv_aload_n hx hb dX6_count_98 rfl (lv_at hl 0 rfl) ?_
                  refine kCallRi (va_runV (As := []) (rest := []) ⟨hx, hb, hml, hown, hts⟩ (c_X6_pivots l E b u (by assumption) _ rfl) (cwV 0 hts gX6_count_X6_pivots rfl rfl rfl (by decide +kernel) ⟨Nat.le_of_ble_eq_true rfl, Nat.le_of_ble_eq_true rfl⟩) (kPreV hK hP hP (q0 := 0) rfl rfl) rfl rfl hl.1 rfl (lv_room (Nat.le_of_ble_eq_true rfl)) dX6_count_99 ⟨Nat.zero_le _, Nat.zero_le _⟩) ?_
                  subst R
                  exact W.iret (v := (mX6_pivots u)) hx hb hr (fun t ht hW => ⟨rfl, by rw [ht]; exact hP, hS.F ht⟩) hS.2.2 dX6_count_102
                · replace hE := hE.trans (if_neg c_8)
                  by_cases c_9 : x1 = 8
                  · replace hE := hE.trans (if_pos c_9)
                    refine W.eq (g2 := F0 m 1 ls ([.int 8])) (by rw [c_9]) ?_
                    refine lv_tableIn (tgt := 103) hx hb dX6_count_1 (by decide) (by decide) rfl (by decide) ?_
                    refine lv_aload_n hx hb dX6_count_103 rfl (lv_at hl 0 rfl) ?_
                    refine kCallRi (va_runV (As := []) (rest := []) ⟨hx, hb, hml, hown, hts⟩ (c_X6_triples l E b u (by assumption) _ rfl) (cwV 0 hts gX6_count_X6_triples rfl rfl rfl (by decide +kernel) ⟨Nat.le_of_ble_eq_true rfl, Nat.le_of_ble_eq_true rfl⟩) (kPreV hK hP hP (q0 := 0) rfl rfl) rfl rfl hl.1 rfl (lv_room (Nat.le_of_ble_eq_true rfl)) dX6_count_104 ⟨Nat.zero_le _, Nat.zero_le _⟩) ?_
                    subst R
                    exact W.iret (v := (mX6_triples u)) hx hb hr (fun t ht hW => ⟨rfl, by rw [ht]; exact hP, hS.F ht⟩) hS.2.2 dX6_count_107
                  · replace hE := hE.trans (if_neg c_9)
                    by_cases c_10 : x1 = 9
                    · replace hE := hE.trans (if_pos c_10)
                      refine W.eq (g2 := F0 m 1 ls ([.int 9])) (by rw [c_10]) ?_
                      refine lv_tableIn (tgt := 108) hx hb dX6_count_1 (by decide) (by decide) rfl (by decide) ?_
                      refine lv_aload_n hx hb dX6_count_108 rfl (lv_at hl 0 rfl) ?_
                      refine kCallWi (va_runV (As := []) (rest := []) ⟨hx, hb, hml, hown, hts⟩ (c_X6_isSerial l E b u hj (by assumption) _ rfl) (cwV 0 hts gX6_count_X6_isSerial rfl rfl rfl (by decide +kernel) ⟨Nat.le_of_ble_eq_true rfl, Nat.le_of_ble_eq_true rfl⟩) (kPreV hK hP hP (q0 := 0) rfl rfl) rfl rfl hl.1 rfl (lv_room (Nat.le_of_ble_eq_true rfl)) dX6_count_109 ⟨Nat.zero_le _, Nat.zero_le _⟩) hS (fun _ h => h) (fun H locs hP _ _ hS => ?_)
                      refine kGen (mX6_isSerial u) (fun g_11 hg_11 => ?_)
                      rw [hg_11] at hE hP ⊢
                      try dsimp only at hE
                      have hP : va_P E.1 vwCl (wModx E b (u 0 0) (u 0 1) (u 0 2) (u 0 3) (u 0 4) (u 0 5) (u 0 6) (u 0 7) (u 1) (u 2) (u 3) (u 4) (u 5) (g_11.2.1) (g_11.2.2) (u 8)) H := hP
                      have hD := dMod (E := E) hj (u 0 0) (u 0 1) (u 0 2) (u 0 3) (u 0 4) (u 0 5) (u 0 6) (u 0 7) (u 1) (u 2) (u 3) (u 4) (u 5) (g_11.2.1) (g_11.2.2) (u 8)
                      refine lv_if_eq (tgt := 119) hx hb dX6_count_112 (by decide) (fun c_12 => ?_) (fun c_12 => ?_)
                      · replace hE := hE.trans (if_pos c_12)
                        refine lv_iconst (v := 0) hx hb dX6_count_119 (by decide) ?_
                        subst R
                        exact W.iret (v := 0) hx hb hr (fun t ht hW => ⟨rfl, by rw [ht]; exact hP, hS.F ht⟩) hS.2.2 dX6_count_120
                      · replace hE := hE.trans (if_neg c_12)
                        refine lv_iconst (v := 1) hx hb dX6_count_115 (by decide) ?_
                        refine lv_goto (tgt := 120) hx hb dX6_count_116 (by decide) ?_
                        subst R
                        exact W.iret (v := 1) hx hb hr (fun t ht hW => ⟨rfl, by rw [ht]; exact hP, hS.F ht⟩) hS.2.2 dX6_count_120
                    · replace hE := hE.trans (if_neg c_10)
                      by_cases c_13 : x1 = 10
                      · replace hE := hE.trans (if_pos c_13)
                        refine W.eq (g2 := F0 m 1 ls ([.int 10])) (by rw [c_13]) ?_
                        refine lv_tableIn (tgt := 121) hx hb dX6_count_1 (by decide) (by decide) rfl (by decide) ?_
                        refine lv_aload_n hx hb dX6_count_121 rfl (lv_at hl 0 rfl) ?_
                        refine va_get (D := E.1) (ci := 5) (v := .int (u 0 1)) (C := RX6) (T := TX6) (N := 16) hx hb hts hiX6 hown hK.1 hP 0 rfl rfl 6 (by decide) hf168 (fun _ h9 => h9) rfl dX6_count_122 ?_
                        subst R
                        exact W.iret (v := (u 0 1)) hx hb hr (fun t ht hW => ⟨rfl, by rw [ht]; exact hP, hS.F ht⟩) hS.2.2 dX6_count_125
                      · replace hE := hE.trans (if_neg c_13)
                        by_cases c_14 : x1 = 11
                        · replace hE := hE.trans (if_pos c_14)
                          refine W.eq (g2 := F0 m 1 ls ([.int 11])) (by rw [c_14]) ?_
                          refine lv_tableIn (tgt := 126) hx hb dX6_count_1 (by decide) (by decide) rfl (by decide) ?_
                          refine lv_aload_n hx hb dX6_count_126 rfl (lv_at hl 0 rfl) ?_
                          refine va_get (D := E.1) (ci := 5) (v := .int (u 0 0)) (C := RX6) (T := TX6) (N := 16) hx hb hts hiX6 hown hK.1 hP 0 rfl rfl 4 (by decide) hf44 (fun _ h9 => h9) rfl dX6_count_127 ?_
                          subst R
                          exact W.iret (v := (u 0 0)) hx hb hr (fun t ht hW => ⟨rfl, by rw [ht]; exact hP, hS.F ht⟩) hS.2.2 dX6_count_130
                        · replace hE := hE.trans (if_neg c_14)
                          have hout : (x1).toInt < 0 ∨ 11 < (x1).toInt := kout0_11 c_1 c_2 c_3 c_4 c_5 c_6 c_7 c_8 c_9 c_10 c_13 c_14
                          refine lv_tableOut (tgt := 131) hx hb dX6_count_1 hout (by decide) ?_
                          refine lv_bipush (v := (-2)) hx hb dX6_count_131 (by decide) ?_
                          subst R
                          exact W.iret (v := (-2)) hx hb hr (fun t ht hW => ⟨rfl, by rw [ht]; exact hP, hS.F ht⟩) hS.2.2 dX6_count_133
def mX6_put_L80 (u : kG) (x1 : Int64) (i8 : Nat) (x8_4 : Int64) (x8_6 : Int32) : Nat → Int32 → (Nat → Int32) → Int32 → (Int32 × Int32 × (Nat → Int32))
  | 0, _, _, _ => (0, 0, (fun _ => 0))
  | n80 + 1, x80_7, f80_0_5, q80_0_1 =>
    if x80_7 < 0 then
      (q80_0_1, q80_0_1, f80_0_5)
    else
      mX6_put_L80 u x1 i8 x8_4 x8_6 n80 (x80_7 + (-1)) (upd f80_0_5 (q80_0_1).toNatClampNeg (vp_nar .char (((((((((x1).toUInt64 >>> (((8 * x80_7) : Int32).toInt64.toUInt64 &&& Int64.toUInt64 63)).toInt64) &&& 255) : Int64).toInt32) : Int32).toUInt32 % 65536).toInt32))) (q80_0_1 + 1)
theorem mX6_put_L80_s {u : kG} {x1 : Int64} {i8 : Nat} {x8_4 : Int64} {x8_6 : Int32} {n80 : Nat} {x80_7 : Int32} {f80_0_5 : (Nat → Int32)} {q80_0_1 : Int32} : mX6_put_L80 u x1 i8 x8_4 x8_6 (n80 + 1) x80_7 f80_0_5 q80_0_1 = (
    if x80_7 < 0 then
      (q80_0_1, q80_0_1, f80_0_5)
    else
      mX6_put_L80 u x1 i8 x8_4 x8_6 n80 (x80_7 + (-1)) (upd f80_0_5 (q80_0_1).toNatClampNeg (vp_nar .char (((((((((x1).toUInt64 >>> (((8 * x80_7) : Int32).toInt64.toUInt64 &&& Int64.toUInt64 63)).toInt64) &&& 255) : Int64).toInt32) : Int32).toUInt32 % 65536).toInt32))) (q80_0_1 + 1) : Int32 × Int32 × (Nat → Int32)) := rfl
def mX6_put_L8 (u : kG) (x1 : Int64) : Nat → Nat → Int64 → Int32 → (Int32 × Int32 × (Nat → Int32))
  | 0, _, _, _ => (0, 0, (fun _ => 0))
  | n8 + 1, i8, x8_4, x8_6 =>
    if (lg_cmp x8_4 0) = 0 then
      if (nI i8) = 0 then
        ((-2), (u 0 1), (u 5))
      else
        if x8_6 = 0 then
          ((-2), (u 0 1), (u 5))
        else
          if ((u 0 1) + (nI i8)) ≤ 80 then
            mX6_put_L80 u x1 i8 x8_4 x8_6 9 ((nI i8) - 1) (u 5) (u 0 1)
          else
            ((-4), (u 0 1), (u 5))
    else
      if x8_6 = 0 then
        if (nI i8) = 0 then
          ((-2), (u 0 1), (u 5))
        else
          if x8_6 = 0 then
            ((-2), (u 0 1), (u 5))
          else
            if ((u 0 1) + (nI i8)) ≤ 80 then
              mX6_put_L80 u x1 i8 x8_4 x8_6 9 ((nI i8) - 1) (u 5) (u 0 1)
            else
              ((-4), (u 0 1), (u 5))
      else
        mX6_put_L8 u x1 n8 (i8 + 1) (((x8_4).toUInt64 >>> ((8 : Int32).toInt64.toUInt64 &&& Int64.toUInt64 63)).toInt64) (mX6_in (((x8_4 &&& 255) : Int64).toInt32) 33 126)
theorem mX6_put_L8_s {u : kG} {x1 : Int64} {n8 : Nat} {i8 : Nat} {x8_4 : Int64} {x8_6 : Int32} : mX6_put_L8 u x1 (n8 + 1) i8 x8_4 x8_6 = (
    if (lg_cmp x8_4 0) = 0 then
      if (nI i8) = 0 then
        ((-2), (u 0 1), (u 5))
      else
        if x8_6 = 0 then
          ((-2), (u 0 1), (u 5))
        else
          if ((u 0 1) + (nI i8)) ≤ 80 then
            mX6_put_L80 u x1 i8 x8_4 x8_6 9 ((nI i8) - 1) (u 5) (u 0 1)
          else
            ((-4), (u 0 1), (u 5))
    else
      if x8_6 = 0 then
        if (nI i8) = 0 then
          ((-2), (u 0 1), (u 5))
        else
          if x8_6 = 0 then
            ((-2), (u 0 1), (u 5))
          else
            if ((u 0 1) + (nI i8)) ≤ 80 then
              mX6_put_L80 u x1 i8 x8_4 x8_6 9 ((nI i8) - 1) (u 5) (u 0 1)
            else
              ((-4), (u 0 1), (u 5))
      else
        mX6_put_L8 u x1 n8 (i8 + 1) (((x8_4).toUInt64 >>> ((8 : Int32).toInt64.toUInt64 &&& Int64.toUInt64 63)).toInt64) (mX6_in (((x8_4 &&& 255) : Int64).toInt32) 33 126) : Int32 × Int32 × (Nat → Int32)) := rfl
def mX6_put (u : kG) (x1 : Int64) : Int32 × Int32 × (Nat → Int32) :=
  mX6_put_L8 u x1 9 0 x1 1
theorem mX6_put_s {u : kG} {x1 : Int64} : mX6_put u x1 = (
  mX6_put_L8 u x1 9 0 x1 1 : Int32 × Int32 × (Nat → Int32)) := rfl
set_option maxHeartbeats 400000 in
set_option maxRecDepth 100000 in
theorem c_X6_put (l : Launch) (E : kE) (b : Nat → Nat) (u : kG) (hj : kInj b 9) (x1 : Int64) (hp : pLn (u 0 1)) (R : Int32 × Int32 × (Nat → Int32)) (hE : R = mX6_put u x1) : Met l yX6_put wsX6_put ({ frames := 1, cells := 0, slots := 0, locals := 22 }) (kPre E [.ref (b 0), .long x1] (wModx E b (u 0 0) (u 0 1) (u 0 2) (u 0 3) (u 0 4) (u 0 5) (u 0 6) (u 0 7) (u 1) (u 2) (u 3) (u 4) (u 5) (u 6) (u 7) (u 8))) (kWi E R.1 (wModx E b (u 0 0) R.2.1 (u 0 2) (u 0 3) (u 0 4) (u 0 5) (u 0 6) (u 0 7) (u 1) (u 2) (u 3) (u 4) R.2.2 (u 6) (u 7) (u 8)) (kA b 9)) 0 0 (kA b 9) := by
  refine Met.ofW (cc := cX6_put) (maxL := 8) (ret := (some .int)) (by decide) rfl ?_
  intro p e s m args below meth c s₁ B hml hv
  obtain ⟨rfl, hK, hP⟩ := hv
  have hx := B.exec
  have hb := B.bytes
  have hr := B.returns
  have hts := atoms_spec (ws := wsX6_put) B.pre
  have hown : s.vm.findClass RX6 = some m.cls := findClass_of_methodNamed B.named
  have hlocks := B.notSynchronized
  have hiX6 : ∀ w ∈ wsX60, w ∈ wsX6_put := by decide +kernel
  have hf23 := hts (.fieldLink RX6 23 "SkewEdgesModel" "pad" "[C") (by decide +kernel)
  have hf168 := hts (.fieldLink RX6 168 "SkewEdgesModel" "typed" "I") (by decide +kernel)
  have hS : va_S (kA b 9) s.heap s.heap [] := va_S.rf
  have hP : va_P E.1 vwCl (wModx E b (u 0 0) (u 0 1) (u 0 2) (u 0 3) (u 0 4) (u 0 5) (u 0 6) (u 0 7) (u 1) (u 2) (u 3) (u 4) (u 5) (u 6) (u 7) (u 8)) s.heap := hP
  have hD := dMod (E := E) hj (u 0 0) (u 0 1) (u 0 2) (u 0 3) (u 0 4) (u 0 5) (u 0 6) (u 0 7) (u 1) (u 2) (u 3) (u 4) (u 5) (u 6) (u 7) (u 8)
  have hl := lv_entry ([.ref (b 0), .long x1]) (n := 8) (Nat.le_of_ble_eq_true rfl)
  rw [lg_entry_eq]
  generalize (lg_sl ([.ref (b 0), .long x1]) ++ List.replicate (8 - (lg_sl ([.ref (b 0), .long x1])).length) Slot.unset).toArray = ls at hl ⊢
  have hl : lv_has ls 8 [(0, .ref (b 0)), (1, .long x1)] := hl
  replace hE := hE.trans mX6_put_s
  refine lv_iconst (v := 0) hx hb dX6_put_0 (by decide) ?_
  refine lv_istore_n (lv' := [(3, .int 0), (0, .ref (b 0)), (1, .long x1)]) hx hb dX6_put_1 rfl hl (by decide) rfl (fun ls hl => ?_)
  refine lv_lload_n hx hb dX6_put_2 rfl (lv_at hl 2 rfl) ?_
  refine lv_lstore (lv' := [(4, .long x1), (3, .int 0), (0, .ref (b 0)), (1, .long x1)]) hx hb dX6_put_3 hl (by decide) rfl (fun ls hl => ?_)
  refine lv_iconst (v := 1) hx hb dX6_put_5 (by decide) ?_
  refine lv_istore (lv' := [(6, .int 1), (4, .long x1), (3, .int 0), (0, .ref (b 0)), (1, .long x1)]) hx hb dX6_put_6 hl (by decide) rfl (fun ls hl => ?_)
  have lp8 : ∀ (n8 : Nat) (i8 : Nat) (x8_4 : Int64) (x8_6 : Int32) (H : Heap) (locs : List Loc), (ptM x8_4 i8 n8) → va_P E.1 vwCl (wModx E b (u 0 0) (u 0 1) (u 0 2) (u 0 3) (u 0 4) (u 0 5) (u 0 6) (u 0 7) (u 1) (u 2) (u 3) (u 4) (u 5) (u 6) (u 7) (u 8)) H → va_S (kA b 9) s.heap H locs → ∀ ls : Array Slot, lv_has ls 8 [(6, .int x8_6), (4, .long x8_4), (3, .int (nI i8)), (0, .ref (b 0)), (1, .long x1)] → R = mX6_put_L8 u x1 n8 i8 x8_4 x8_6 → W p l e ({ frames := 1, cells := 0, slots := 0, locals := 22 }) s m ([.ref (b 0), .long x1] : List Value).toArray below meth c H locs 0 0 (MQ below (kWi E R.1 (wModx E b (u 0 0) R.2.1 (u 0 2) (u 0 3) (u 0 4) (u 0 5) (u 0 6) (u 0 7) (u 1) (u 2) (u 3) (u 4) R.2.2 (u 6) (u 7) (u 8)) (kA b 9)) ([.ref (b 0), .long x1] : List Value).toArray s 0 0 (kA b 9)) (F0 m 8 ls []) := by
    clear hE
    intro n8
    induction n8 with
    | zero =>
      intro i8 x8_4 x8_6 H locs hm8  hP hS ls hl hE
      exact hm8.no.elim
    | succ n8 ih8 =>
      intro i8 x8_4 x8_6 H locs hm8  hP hS ls hl hE
      have hD := dMod (E := E) hj (u 0 0) (u 0 1) (u 0 2) (u 0 3) (u 0 4) (u 0 5) (u 0 6) (u 0 7) (u 1) (u 2) (u 3) (u 4) (u 5) (u 6) (u 7) (u 8)
      replace hE := hE.trans mX6_put_L8_s
      refine lv_lload hx hb dX6_put_8 (lv_at hl 1 rfl) ?_
      refine lv_lconst (v := 0) hx hb dX6_put_10 (by decide) ?_
      refine W.lcmp hx hb dX6_put_11 ?_
      refine lv_if_eq (tgt := 49) hx hb dX6_put_12 (by decide) (fun c_1 => ?_) (fun c_1 => ?_)
      · replace hE := hE.trans (if_pos c_1)
        refine lv_iload_n hx hb dX6_put_49 rfl (lv_at hl 2 rfl) ?_
        refine lv_if_eq (tgt := 58) hx hb dX6_put_50 (by decide) (fun c_2 => ?_) (fun c_2 => ?_)
        · replace hE := hE.trans (if_pos c_2)
          refine lv_bipush (v := (-2)) hx hb dX6_put_58 (by decide) ?_
          subst R
          exact W.iret (v := (-2)) hx hb hr (fun t ht hW => ⟨rfl, by rw [ht]; exact hP, hS.F ht⟩) hS.2.2 dX6_put_60
        · replace hE := hE.trans (if_neg c_2)
          refine lv_iload hx hb dX6_put_53 (lv_at hl 0 rfl) ?_
          refine lv_if_ne (tgt := 61) hx hb dX6_put_55 (by decide) (fun c_3 => ?_) (fun c_3 => ?_)
          · replace hE := hE.trans (if_neg c_3)
            refine lv_aload_n hx hb dX6_put_61 rfl (lv_at hl 3 rfl) ?_
            refine va_get (D := E.1) (ci := 5) (v := .int (u 0 1)) (C := RX6) (T := TX6) (N := 16) hx hb hts hiX6 hown hK.1 hP 0 rfl rfl 6 (by decide) hf168 (fun _ h9 => h9) rfl dX6_put_62 ?_
            refine lv_iload_n hx hb dX6_put_65 rfl (lv_at hl 2 rfl) ?_
            refine lv_iadd hx hb dX6_put_66 ?_
            refine lv_bipush (v := 80) hx hb dX6_put_67 (by decide) ?_
            refine lv_icmp_le (tgt := 75) hx hb dX6_put_69 (by decide) (fun c_4 => ?_) (fun c_4 => ?_)
            · replace hE := hE.trans (if_pos c_4)
              refine lv_iload_n hx hb dX6_put_75 rfl (lv_at hl 2 rfl) ?_
              refine lv_iconst (v := 1) hx hb dX6_put_76 (by decide) ?_
              refine lv_isub hx hb dX6_put_77 ?_
              refine lv_istore (lv' := [(7, .int ((nI i8) - 1)), (6, .int x8_6), (4, .long x8_4), (3, .int (nI i8)), (0, .ref (b 0)), (1, .long x1)]) hx hb dX6_put_78 hl (by decide) rfl (fun ls hl => ?_)
              have lp80 : ∀ (n80 : Nat) (x80_7 : Int32) (f80_0_5 : (Nat → Int32)) (q80_0_1 : Int32) (H : Heap) (locs : List Loc), (pAp x80_7 q80_0_1 n80) → va_P E.1 vwCl (wModx E b (u 0 0) q80_0_1 (u 0 2) (u 0 3) (u 0 4) (u 0 5) (u 0 6) (u 0 7) (u 1) (u 2) (u 3) (u 4) f80_0_5 (u 6) (u 7) (u 8)) H → va_S (kA b 9) s.heap H locs → ∀ ls : Array Slot, lv_has ls 8 [(7, .int x80_7), (6, .int x8_6), (4, .long x8_4), (3, .int (nI i8)), (0, .ref (b 0)), (1, .long x1)] → R = mX6_put_L80 u x1 i8 x8_4 x8_6 n80 x80_7 f80_0_5 q80_0_1 → W p l e ({ frames := 1, cells := 0, slots := 0, locals := 22 }) s m ([.ref (b 0), .long x1] : List Value).toArray below meth c H locs 0 0 (MQ below (kWi E R.1 (wModx E b (u 0 0) R.2.1 (u 0 2) (u 0 3) (u 0 4) (u 0 5) (u 0 6) (u 0 7) (u 1) (u 2) (u 3) (u 4) R.2.2 (u 6) (u 7) (u 8)) (kA b 9)) ([.ref (b 0), .long x1] : List Value).toArray s 0 0 (kA b 9)) (F0 m 80 ls []) := by
                clear hE
                intro n80
                induction n80 with
                | zero =>
                  intro x80_7 f80_0_5 q80_0_1 H locs hm80  hP hS ls hl hE
                  exact hm80.no.elim
                | succ n80 ih80 =>
                  intro x80_7 f80_0_5 q80_0_1 H locs hm80  hP hS ls hl hE
                  have hD := dMod (E := E) hj (u 0 0) q80_0_1 (u 0 2) (u 0 3) (u 0 4) (u 0 5) (u 0 6) (u 0 7) (u 1) (u 2) (u 3) (u 4) f80_0_5 (u 6) (u 7) (u 8)
                  replace hE := hE.trans mX6_put_L80_s
                  refine lv_iload hx hb dX6_put_80 (lv_at hl 0 rfl) ?_
                  refine lv_if_lt (tgt := 123) hx hb dX6_put_82 (by decide) (fun c_5 => ?_) (fun c_5 => ?_)
                  · replace hE := hE.trans (if_pos c_5)
                    refine lv_aload_n hx hb dX6_put_123 rfl (lv_at hl 4 rfl) ?_
                    refine va_get (D := E.1) (ci := 5) (v := .int q80_0_1) (C := RX6) (T := TX6) (N := 16) hx hb hts hiX6 hown hK.1 hP 0 rfl rfl 6 (by decide) hf168 (fun _ h9 => h9) rfl dX6_put_124 ?_
                    subst R
                    exact W.iret (v := q80_0_1) hx hb hr (fun t ht hW => ⟨rfl, by rw [ht]; exact hP, hS.F ht⟩) hS.2.2 dX6_put_127
                  · replace hE := hE.trans (if_neg c_5)
                    refine lv_aload_n hx hb dX6_put_85 rfl (lv_at hl 4 rfl) ?_
                    refine va_get (D := E.1) (ci := 5) (v := .ref (b 5)) (C := RX6) (T := TX6) (N := 16) hx hb hts hiX6 hown hK.1 hP 0 rfl rfl 5 (by decide) hf23 (fun _ h9 => h9) rfl dX6_put_86 ?_
                    refine lv_aload_n hx hb dX6_put_89 rfl (lv_at hl 4 rfl) ?_
                    refine va_get (D := E.1) (ci := 5) (v := .int q80_0_1) (C := RX6) (T := TX6) (N := 16) hx hb hts hiX6 hown hK.1 hP 0 rfl rfl 6 (by decide) hf168 (fun _ h9 => h9) rfl dX6_put_90 ?_
                    refine lv_lload_n hx hb dX6_put_93 rfl (lv_at hl 5 rfl) ?_
                    refine lv_bipush (v := 8) hx hb dX6_put_94 (by decide) ?_
                    refine lv_iload hx hb dX6_put_96 (lv_at hl 0 rfl) ?_
                    refine lv_imul hx hb dX6_put_98 ?_
                    refine lv_lushr (v := (((x1).toUInt64 >>> (((8 * x80_7) : Int32).toInt64.toUInt64 &&& Int64.toUInt64 63)).toInt64)) hx hb dX6_put_99 rfl ?_
                    refine lv_ldc2 (v := 255) hx hb hown (hts (.constantLong RX6 180 255) (by decide +kernel)) dX6_put_100 ?_
                    refine lv_land hx hb dX6_put_103 ?_
                    refine lv_l2i (v := ((((((x1).toUInt64 >>> (((8 * x80_7) : Int32).toInt64.toUInt64 &&& Int64.toUInt64 63)).toInt64) &&& 255) : Int64).toInt32)) hx hb dX6_put_104 rfl ?_
                    refine lv_i2c (v := (((((((((x1).toUInt64 >>> (((8 * x80_7) : Int32).toInt64.toUInt64 &&& Int64.toUInt64 63)).toInt64) &&& 255) : Int64).toInt32) : Int32).toUInt32 % 65536).toInt32)) hx hb dX6_put_105 rfl ?_
                    refine va_cast (D := E.1) hx hb hK.1 hP hD hS 5 2 rfl rfl (hm80.in80 (by assumption)) dX6_put_106 (fun H locs hP _ hS => ?_)
                    have hP : va_P E.1 vwCl (wModx E b (u 0 0) q80_0_1 (u 0 2) (u 0 3) (u 0 4) (u 0 5) (u 0 6) (u 0 7) (u 1) (u 2) (u 3) (u 4) (upd f80_0_5 (q80_0_1).toNatClampNeg (vp_nar .char (((((((((x1).toUInt64 >>> (((8 * x80_7) : Int32).toInt64.toUInt64 &&& Int64.toUInt64 63)).toInt64) &&& 255) : Int64).toInt32) : Int32).toUInt32 % 65536).toInt32))) (u 6) (u 7) (u 8)) H := hP
                    have hD := dMod (E := E) hj (u 0 0) q80_0_1 (u 0 2) (u 0 3) (u 0 4) (u 0 5) (u 0 6) (u 0 7) (u 1) (u 2) (u 3) (u 4) (upd f80_0_5 (q80_0_1).toNatClampNeg (vp_nar .char (((((((((x1).toUInt64 >>> (((8 * x80_7) : Int32).toInt64.toUInt64 &&& Int64.toUInt64 63)).toInt64) &&& 255) : Int64).toInt32) : Int32).toUInt32 % 65536).toInt32))) (u 6) (u 7) (u 8)
                    refine lv_aload_n hx hb dX6_put_107 rfl (lv_at hl 4 rfl) ?_
                    refine lv_dup hx hb dX6_put_108 rfl ?_
                    refine va_get (D := E.1) (ci := 5) (v := .int q80_0_1) (C := RX6) (T := TX6) (N := 16) hx hb hts hiX6 hown hK.1 hP 0 rfl rfl 6 (by decide) hf168 (fun _ h9 => h9) rfl dX6_put_109 ?_
                    refine lv_iconst (v := 1) hx hb dX6_put_112 (by decide) ?_
                    refine lv_iadd hx hb dX6_put_113 ?_
                    refine va_put (D := E.1) (ci := 5) (v := .int (q80_0_1 + 1)) (ty := .int) (C := RX6) (T := TX6) (N := 16) hx hb hts hiX6 tyX6 tyX6_ok nmX6 hown hK.1 hP hD hS 0 rfl rfl 6 (by decide) hf168 (fun _ h9 => h9) rfl (by decide +kernel) rfl rfl (Nat.le_of_ble_eq_true rfl) dX6_put_114 (fun H locs hP _ hS => ?_)
                    have hP : va_P E.1 vwCl (wModx E b (u 0 0) (q80_0_1 + 1) (u 0 2) (u 0 3) (u 0 4) (u 0 5) (u 0 6) (u 0 7) (u 1) (u 2) (u 3) (u 4) (upd f80_0_5 (q80_0_1).toNatClampNeg (vp_nar .char (((((((((x1).toUInt64 >>> (((8 * x80_7) : Int32).toInt64.toUInt64 &&& Int64.toUInt64 63)).toInt64) &&& 255) : Int64).toInt32) : Int32).toUInt32 % 65536).toInt32))) (u 6) (u 7) (u 8)) H := hP
                    have hD := dMod (E := E) hj (u 0 0) (q80_0_1 + 1) (u 0 2) (u 0 3) (u 0 4) (u 0 5) (u 0 6) (u 0 7) (u 1) (u 2) (u 3) (u 4) (upd f80_0_5 (q80_0_1).toNatClampNeg (vp_nar .char (((((((((x1).toUInt64 >>> (((8 * x80_7) : Int32).toInt64.toUInt64 &&& Int64.toUInt64 63)).toInt64) &&& 255) : Int64).toInt32) : Int32).toUInt32 % 65536).toInt32))) (u 6) (u 7) (u 8)
                    refine lv_iinc (v := (x80_7 + (-1))) (lv' := [(7, .int (x80_7 + (-1))), (6, .int x8_6), (4, .long x8_4), (3, .int (nI i8)), (0, .ref (b 0)), (1, .long x1)]) hx hb dX6_put_117 hl (k := 0) rfl rfl (by decide) rfl (fun ls hl => ?_)
                    refine lv_goto (tgt := 80) hx hb dX6_put_120 (by decide) ?_
                    exact ih80 (x80_7 + (-1)) (upd f80_0_5 (q80_0_1).toNatClampNeg (vp_nar .char (((((((((x1).toUInt64 >>> (((8 * x80_7) : Int32).toInt64.toUInt64 &&& Int64.toUInt64 63)).toInt64) &&& 255) : Int64).toInt32) : Int32).toUInt32 % 65536).toInt32))) (q80_0_1 + 1) _ _ (hm80.step (by assumption)) hP hS ls (lv_sub hl [0, 1, 2, 3, 4, 5] rfl) hE
              exact lp80 9 ((nI i8) - 1) (u 5) (u 0 1) _ _ (pAp.init hp hm8.le (by assumption)) hP hS ls (lv_sub hl [0, 1, 2, 3, 4, 5] rfl) hE
            · replace hE := hE.trans (if_neg c_4)
              refine lv_bipush (v := (-4)) hx hb dX6_put_72 (by decide) ?_
              subst R
              exact W.iret (v := (-4)) hx hb hr (fun t ht hW => ⟨rfl, by rw [ht]; exact hP, hS.F ht⟩) hS.2.2 dX6_put_74
          · replace hE := hE.trans (if_pos c_3)
            refine lv_bipush (v := (-2)) hx hb dX6_put_58 (by decide) ?_
            subst R
            exact W.iret (v := (-2)) hx hb hr (fun t ht hW => ⟨rfl, by rw [ht]; exact hP, hS.F ht⟩) hS.2.2 dX6_put_60
      · replace hE := hE.trans (if_neg c_1)
        refine lv_iload hx hb dX6_put_15 (lv_at hl 0 rfl) ?_
        refine lv_if_eq (tgt := 49) hx hb dX6_put_17 (by decide) (fun c_6 => ?_) (fun c_6 => ?_)
        · replace hE := hE.trans (if_pos c_6)
          refine lv_iload_n hx hb dX6_put_49 rfl (lv_at hl 2 rfl) ?_
          refine lv_if_eq (tgt := 58) hx hb dX6_put_50 (by decide) (fun c_7 => ?_) (fun c_7 => ?_)
          · replace hE := hE.trans (if_pos c_7)
            refine lv_bipush (v := (-2)) hx hb dX6_put_58 (by decide) ?_
            subst R
            exact W.iret (v := (-2)) hx hb hr (fun t ht hW => ⟨rfl, by rw [ht]; exact hP, hS.F ht⟩) hS.2.2 dX6_put_60
          · replace hE := hE.trans (if_neg c_7)
            refine lv_iload hx hb dX6_put_53 (lv_at hl 0 rfl) ?_
            refine lv_if_ne (tgt := 61) hx hb dX6_put_55 (by decide) (fun c_8 => ?_) (fun c_8 => ?_)
            · replace hE := hE.trans (if_neg c_8)
              refine lv_aload_n hx hb dX6_put_61 rfl (lv_at hl 3 rfl) ?_
              refine va_get (D := E.1) (ci := 5) (v := .int (u 0 1)) (C := RX6) (T := TX6) (N := 16) hx hb hts hiX6 hown hK.1 hP 0 rfl rfl 6 (by decide) hf168 (fun _ h9 => h9) rfl dX6_put_62 ?_
              refine lv_iload_n hx hb dX6_put_65 rfl (lv_at hl 2 rfl) ?_
              refine lv_iadd hx hb dX6_put_66 ?_
              refine lv_bipush (v := 80) hx hb dX6_put_67 (by decide) ?_
              refine lv_icmp_le (tgt := 75) hx hb dX6_put_69 (by decide) (fun c_9 => ?_) (fun c_9 => ?_)
              · replace hE := hE.trans (if_pos c_9)
                refine lv_iload_n hx hb dX6_put_75 rfl (lv_at hl 2 rfl) ?_
                refine lv_iconst (v := 1) hx hb dX6_put_76 (by decide) ?_
                refine lv_isub hx hb dX6_put_77 ?_
                refine lv_istore (lv' := [(7, .int ((nI i8) - 1)), (6, .int x8_6), (4, .long x8_4), (3, .int (nI i8)), (0, .ref (b 0)), (1, .long x1)]) hx hb dX6_put_78 hl (by decide) rfl (fun ls hl => ?_)
                have lp80 : ∀ (n80 : Nat) (x80_7 : Int32) (f80_0_5 : (Nat → Int32)) (q80_0_1 : Int32) (H : Heap) (locs : List Loc), (pAp x80_7 q80_0_1 n80) → va_P E.1 vwCl (wModx E b (u 0 0) q80_0_1 (u 0 2) (u 0 3) (u 0 4) (u 0 5) (u 0 6) (u 0 7) (u 1) (u 2) (u 3) (u 4) f80_0_5 (u 6) (u 7) (u 8)) H → va_S (kA b 9) s.heap H locs → ∀ ls : Array Slot, lv_has ls 8 [(7, .int x80_7), (6, .int x8_6), (4, .long x8_4), (3, .int (nI i8)), (0, .ref (b 0)), (1, .long x1)] → R = mX6_put_L80 u x1 i8 x8_4 x8_6 n80 x80_7 f80_0_5 q80_0_1 → W p l e ({ frames := 1, cells := 0, slots := 0, locals := 22 }) s m ([.ref (b 0), .long x1] : List Value).toArray below meth c H locs 0 0 (MQ below (kWi E R.1 (wModx E b (u 0 0) R.2.1 (u 0 2) (u 0 3) (u 0 4) (u 0 5) (u 0 6) (u 0 7) (u 1) (u 2) (u 3) (u 4) R.2.2 (u 6) (u 7) (u 8)) (kA b 9)) ([.ref (b 0), .long x1] : List Value).toArray s 0 0 (kA b 9)) (F0 m 80 ls []) := by
                  clear hE
                  intro n80
                  induction n80 with
                  | zero =>
                    intro x80_7 f80_0_5 q80_0_1 H locs hm80  hP hS ls hl hE
                    exact hm80.no.elim
                  | succ n80 ih80 =>
                    intro x80_7 f80_0_5 q80_0_1 H locs hm80  hP hS ls hl hE
                    have hD := dMod (E := E) hj (u 0 0) q80_0_1 (u 0 2) (u 0 3) (u 0 4) (u 0 5) (u 0 6) (u 0 7) (u 1) (u 2) (u 3) (u 4) f80_0_5 (u 6) (u 7) (u 8)
                    replace hE := hE.trans mX6_put_L80_s
                    refine lv_iload hx hb dX6_put_80 (lv_at hl 0 rfl) ?_
                    refine lv_if_lt (tgt := 123) hx hb dX6_put_82 (by decide) (fun c_5 => ?_) (fun c_5 => ?_)
                    · replace hE := hE.trans (if_pos c_5)
                      refine lv_aload_n hx hb dX6_put_123 rfl (lv_at hl 4 rfl) ?_
                      refine va_get (D := E.1) (ci := 5) (v := .int q80_0_1) (C := RX6) (T := TX6) (N := 16) hx hb hts hiX6 hown hK.1 hP 0 rfl rfl 6 (by decide) hf168 (fun _ h9 => h9) rfl dX6_put_124 ?_
                      subst R
                      exact W.iret (v := q80_0_1) hx hb hr (fun t ht hW => ⟨rfl, by rw [ht]; exact hP, hS.F ht⟩) hS.2.2 dX6_put_127
                    · replace hE := hE.trans (if_neg c_5)
                      refine lv_aload_n hx hb dX6_put_85 rfl (lv_at hl 4 rfl) ?_
                      refine va_get (D := E.1) (ci := 5) (v := .ref (b 5)) (C := RX6) (T := TX6) (N := 16) hx hb hts hiX6 hown hK.1 hP 0 rfl rfl 5 (by decide) hf23 (fun _ h9 => h9) rfl dX6_put_86 ?_
                      refine lv_aload_n hx hb dX6_put_89 rfl (lv_at hl 4 rfl) ?_
                      refine va_get (D := E.1) (ci := 5) (v := .int q80_0_1) (C := RX6) (T := TX6) (N := 16) hx hb hts hiX6 hown hK.1 hP 0 rfl rfl 6 (by decide) hf168 (fun _ h9 => h9) rfl dX6_put_90 ?_
                      refine lv_lload_n hx hb dX6_put_93 rfl (lv_at hl 5 rfl) ?_
                      refine lv_bipush (v := 8) hx hb dX6_put_94 (by decide) ?_
                      refine lv_iload hx hb dX6_put_96 (lv_at hl 0 rfl) ?_
                      refine lv_imul hx hb dX6_put_98 ?_
                      refine lv_lushr (v := (((x1).toUInt64 >>> (((8 * x80_7) : Int32).toInt64.toUInt64 &&& Int64.toUInt64 63)).toInt64)) hx hb dX6_put_99 rfl ?_
                      refine lv_ldc2 (v := 255) hx hb hown (hts (.constantLong RX6 180 255) (by decide +kernel)) dX6_put_100 ?_
                      refine lv_land hx hb dX6_put_103 ?_
                      refine lv_l2i (v := ((((((x1).toUInt64 >>> (((8 * x80_7) : Int32).toInt64.toUInt64 &&& Int64.toUInt64 63)).toInt64) &&& 255) : Int64).toInt32)) hx hb dX6_put_104 rfl ?_
                      refine lv_i2c (v := (((((((((x1).toUInt64 >>> (((8 * x80_7) : Int32).toInt64.toUInt64 &&& Int64.toUInt64 63)).toInt64) &&& 255) : Int64).toInt32) : Int32).toUInt32 % 65536).toInt32)) hx hb dX6_put_105 rfl ?_
                      refine va_cast (D := E.1) hx hb hK.1 hP hD hS 5 2 rfl rfl (hm80.in80 (by assumption)) dX6_put_106 (fun H locs hP _ hS => ?_)
                      have hP : va_P E.1 vwCl (wModx E b (u 0 0) q80_0_1 (u 0 2) (u 0 3) (u 0 4) (u 0 5) (u 0 6) (u 0 7) (u 1) (u 2) (u 3) (u 4) (upd f80_0_5 (q80_0_1).toNatClampNeg (vp_nar .char (((((((((x1).toUInt64 >>> (((8 * x80_7) : Int32).toInt64.toUInt64 &&& Int64.toUInt64 63)).toInt64) &&& 255) : Int64).toInt32) : Int32).toUInt32 % 65536).toInt32))) (u 6) (u 7) (u 8)) H := hP
                      have hD := dMod (E := E) hj (u 0 0) q80_0_1 (u 0 2) (u 0 3) (u 0 4) (u 0 5) (u 0 6) (u 0 7) (u 1) (u 2) (u 3) (u 4) (upd f80_0_5 (q80_0_1).toNatClampNeg (vp_nar .char (((((((((x1).toUInt64 >>> (((8 * x80_7) : Int32).toInt64.toUInt64 &&& Int64.toUInt64 63)).toInt64) &&& 255) : Int64).toInt32) : Int32).toUInt32 % 65536).toInt32))) (u 6) (u 7) (u 8)
                      refine lv_aload_n hx hb dX6_put_107 rfl (lv_at hl 4 rfl) ?_
                      refine lv_dup hx hb dX6_put_108 rfl ?_
                      refine va_get (D := E.1) (ci := 5) (v := .int q80_0_1) (C := RX6) (T := TX6) (N := 16) hx hb hts hiX6 hown hK.1 hP 0 rfl rfl 6 (by decide) hf168 (fun _ h9 => h9) rfl dX6_put_109 ?_
                      refine lv_iconst (v := 1) hx hb dX6_put_112 (by decide) ?_
                      refine lv_iadd hx hb dX6_put_113 ?_
                      refine va_put (D := E.1) (ci := 5) (v := .int (q80_0_1 + 1)) (ty := .int) (C := RX6) (T := TX6) (N := 16) hx hb hts hiX6 tyX6 tyX6_ok nmX6 hown hK.1 hP hD hS 0 rfl rfl 6 (by decide) hf168 (fun _ h9 => h9) rfl (by decide +kernel) rfl rfl (Nat.le_of_ble_eq_true rfl) dX6_put_114 (fun H locs hP _ hS => ?_)
                      have hP : va_P E.1 vwCl (wModx E b (u 0 0) (q80_0_1 + 1) (u 0 2) (u 0 3) (u 0 4) (u 0 5) (u 0 6) (u 0 7) (u 1) (u 2) (u 3) (u 4) (upd f80_0_5 (q80_0_1).toNatClampNeg (vp_nar .char (((((((((x1).toUInt64 >>> (((8 * x80_7) : Int32).toInt64.toUInt64 &&& Int64.toUInt64 63)).toInt64) &&& 255) : Int64).toInt32) : Int32).toUInt32 % 65536).toInt32))) (u 6) (u 7) (u 8)) H := hP
                      have hD := dMod (E := E) hj (u 0 0) (q80_0_1 + 1) (u 0 2) (u 0 3) (u 0 4) (u 0 5) (u 0 6) (u 0 7) (u 1) (u 2) (u 3) (u 4) (upd f80_0_5 (q80_0_1).toNatClampNeg (vp_nar .char (((((((((x1).toUInt64 >>> (((8 * x80_7) : Int32).toInt64.toUInt64 &&& Int64.toUInt64 63)).toInt64) &&& 255) : Int64).toInt32) : Int32).toUInt32 % 65536).toInt32))) (u 6) (u 7) (u 8)
                      refine lv_iinc (v := (x80_7 + (-1))) (lv' := [(7, .int (x80_7 + (-1))), (6, .int x8_6), (4, .long x8_4), (3, .int (nI i8)), (0, .ref (b 0)), (1, .long x1)]) hx hb dX6_put_117 hl (k := 0) rfl rfl (by decide) rfl (fun ls hl => ?_)
                      refine lv_goto (tgt := 80) hx hb dX6_put_120 (by decide) ?_
                      exact ih80 (x80_7 + (-1)) (upd f80_0_5 (q80_0_1).toNatClampNeg (vp_nar .char (((((((((x1).toUInt64 >>> (((8 * x80_7) : Int32).toInt64.toUInt64 &&& Int64.toUInt64 63)).toInt64) &&& 255) : Int64).toInt32) : Int32).toUInt32 % 65536).toInt32))) (q80_0_1 + 1) _ _ (hm80.step (by assumption)) hP hS ls (lv_sub hl [0, 1, 2, 3, 4, 5] rfl) hE
                exact lp80 9 ((nI i8) - 1) (u 5) (u 0 1) _ _ (pAp.init hp hm8.le (by assumption)) hP hS ls (lv_sub hl [0, 1, 2, 3, 4, 5] rfl) hE
              · replace hE := hE.trans (if_neg c_9)
                refine lv_bipush (v := (-4)) hx hb dX6_put_72 (by decide) ?_
                subst R
                exact W.iret (v := (-4)) hx hb hr (fun t ht hW => ⟨rfl, by rw [ht]; exact hP, hS.F ht⟩) hS.2.2 dX6_put_74
            · replace hE := hE.trans (if_pos c_8)
              refine lv_bipush (v := (-2)) hx hb dX6_put_58 (by decide) ?_
              subst R
              exact W.iret (v := (-2)) hx hb hr (fun t ht hW => ⟨rfl, by rw [ht]; exact hP, hS.F ht⟩) hS.2.2 dX6_put_60
        · replace hE := hE.trans (if_neg c_6)
          refine lv_lload hx hb dX6_put_20 (lv_at hl 1 rfl) ?_
          refine lv_ldc2 (v := 255) hx hb hown (hts (.constantLong RX6 180 255) (by decide +kernel)) dX6_put_22 ?_
          refine lv_land hx hb dX6_put_25 ?_
          refine lv_l2i (v := (((x8_4 &&& 255) : Int64).toInt32)) hx hb dX6_put_26 rfl ?_
          refine lv_bipush (v := 33) hx hb dX6_put_27 (by decide) ?_
          refine lv_bipush (v := 126) hx hb dX6_put_29 (by decide) ?_
          refine kCallRi (va_runS (As := [.int (((x8_4 &&& 255) : Int64).toInt32), .int 33, .int 126]) (rest := []) ⟨hx, hb, hml, hown, hts⟩ (c_X6_in l E (((x8_4 &&& 255) : Int64).toInt32) 33 126 _ rfl) (va_cwS 3 hts gX6_put_X6_in rfl rfl rfl (by decide +kernel) ⟨Nat.le_of_ble_eq_true rfl, Nat.le_of_ble_eq_true rfl⟩) (kPreS hK kP0) rfl rfl hl.1 rfl (lv_room (Nat.le_of_ble_eq_true rfl)) dX6_put_31 ⟨Nat.zero_le _, Nat.zero_le _⟩) ?_
          refine lv_istore (lv' := [(6, .int (mX6_in (((x8_4 &&& 255) : Int64).toInt32) 33 126)), (4, .long x8_4), (3, .int (nI i8)), (0, .ref (b 0)), (1, .long x1)]) hx hb dX6_put_34 hl (by decide) rfl (fun ls hl => ?_)
          refine lv_lload hx hb dX6_put_36 (lv_at hl 1 rfl) ?_
          refine lv_bipush (v := 8) hx hb dX6_put_38 (by decide) ?_
          refine lv_lushr (v := (((x8_4).toUInt64 >>> ((8 : Int32).toInt64.toUInt64 &&& Int64.toUInt64 63)).toInt64)) hx hb dX6_put_40 rfl ?_
          refine lv_lstore (lv' := [(4, .long (((x8_4).toUInt64 >>> ((8 : Int32).toInt64.toUInt64 &&& Int64.toUInt64 63)).toInt64)), (6, .int (mX6_in (((x8_4 &&& 255) : Int64).toInt32) 33 126)), (3, .int (nI i8)), (0, .ref (b 0)), (1, .long x1)]) hx hb dX6_put_41 hl (by decide) rfl (fun ls hl => ?_)
          refine lv_iinc (v := (nI (i8 + 1))) (lv' := [(3, .int (nI (i8 + 1))), (4, .long (((x8_4).toUInt64 >>> ((8 : Int32).toInt64.toUInt64 &&& Int64.toUInt64 63)).toInt64)), (6, .int (mX6_in (((x8_4 &&& 255) : Int64).toInt32) 33 126)), (0, .ref (b 0)), (1, .long x1)]) hx hb dX6_put_43 hl (k := 2) rfl (nI_1 i8) (by decide) rfl (fun ls hl => ?_)
          refine lv_goto (tgt := 8) hx hb dX6_put_46 (by decide) ?_
          exact ih8 (i8 + 1) (((x8_4).toUInt64 >>> ((8 : Int32).toInt64.toUInt64 &&& Int64.toUInt64 63)).toInt64) (mX6_in (((x8_4 &&& 255) : Int64).toInt32) 33 126) _ _ (hm8.step (by assumption)) hP hS ls (lv_sub hl [2, 1, 0, 3, 4] rfl) hE
  exact lp8 9 0 x1 1 _ _ (ptM.init _) hP hS ls (lv_sub hl [0, 1, 2, 3, 4] rfl) hE
def mX6_wipe (u : kG) : Int32 × Int32 :=
  ((u 0 1), 0)
theorem mX6_wipe_s {u : kG} : mX6_wipe u = (
  ((u 0 1), 0) : Int32 × Int32) := rfl
set_option maxHeartbeats 400000 in
set_option maxRecDepth 100000 in
theorem c_X6_wipe (l : Launch) (E : kE) (b : Nat → Nat) (u : kG) (hj : kInj b 9) (R : Int32 × Int32) (hE : R = mX6_wipe u) : Met l yX6_wipe wsX6_wipe ({ frames := 0, cells := 0, slots := 0, locals := 0 }) (kPre E [.ref (b 0)] (wModx E b (u 0 0) (u 0 1) (u 0 2) (u 0 3) (u 0 4) (u 0 5) (u 0 6) (u 0 7) (u 1) (u 2) (u 3) (u 4) (u 5) (u 6) (u 7) (u 8))) (kWi E R.1 (wModx E b (u 0 0) R.2 (u 0 2) (u 0 3) (u 0 4) (u 0 5) (u 0 6) (u 0 7) (u 1) (u 2) (u 3) (u 4) (u 5) (u 6) (u 7) (u 8)) (kA b 9)) 0 0 (kA b 9) := by
  refine Met.ofW (cc := cX6_wipe) (maxL := 2) (ret := (some .int)) (by decide) rfl ?_
  intro p e s m args below meth c s₁ B hml hv
  obtain ⟨rfl, hK, hP⟩ := hv
  have hx := B.exec
  have hb := B.bytes
  have hr := B.returns
  have hts := atoms_spec (ws := wsX6_wipe) B.pre
  have hown : s.vm.findClass RX6 = some m.cls := findClass_of_methodNamed B.named
  have hlocks := B.notSynchronized
  have hiX6 : ∀ w ∈ wsX60, w ∈ wsX6_wipe := by decide +kernel
  have hf168 := hts (.fieldLink RX6 168 "SkewEdgesModel" "typed" "I") (by decide +kernel)
  have hS : va_S (kA b 9) s.heap s.heap [] := va_S.rf
  have hP : va_P E.1 vwCl (wModx E b (u 0 0) (u 0 1) (u 0 2) (u 0 3) (u 0 4) (u 0 5) (u 0 6) (u 0 7) (u 1) (u 2) (u 3) (u 4) (u 5) (u 6) (u 7) (u 8)) s.heap := hP
  have hD := dMod (E := E) hj (u 0 0) (u 0 1) (u 0 2) (u 0 3) (u 0 4) (u 0 5) (u 0 6) (u 0 7) (u 1) (u 2) (u 3) (u 4) (u 5) (u 6) (u 7) (u 8)
  have hl := lv_entry ([.ref (b 0)]) (n := 2) (Nat.le_of_ble_eq_true rfl)
  rw [lg_entry_eq]
  generalize (lg_sl ([.ref (b 0)]) ++ List.replicate (2 - (lg_sl ([.ref (b 0)])).length) Slot.unset).toArray = ls at hl ⊢
  have hl : lv_has ls 2 [(0, .ref (b 0))] := hl
  replace hE := hE.trans mX6_wipe_s
  refine lv_aload_n hx hb dX6_wipe_0 rfl (lv_at hl 0 rfl) ?_
  refine va_get (D := E.1) (ci := 5) (v := .int (u 0 1)) (C := RX6) (T := TX6) (N := 16) hx hb hts hiX6 hown hK.1 hP 0 rfl rfl 6 (by decide) hf168 (fun _ h9 => h9) rfl dX6_wipe_1 ?_
  refine lv_istore_n (lv' := [(1, .int (u 0 1)), (0, .ref (b 0))]) hx hb dX6_wipe_4 rfl hl (by decide) rfl (fun ls hl => ?_)
  refine lv_aload_n hx hb dX6_wipe_5 rfl (lv_at hl 1 rfl) ?_
  refine lv_iconst (v := 0) hx hb dX6_wipe_6 (by decide) ?_
  refine va_put (D := E.1) (ci := 5) (v := .int 0) (ty := .int) (C := RX6) (T := TX6) (N := 16) hx hb hts hiX6 tyX6 tyX6_ok nmX6 hown hK.1 hP hD hS 0 rfl rfl 6 (by decide) hf168 (fun _ h9 => h9) rfl (by decide +kernel) rfl rfl (Nat.le_of_ble_eq_true rfl) dX6_wipe_7 (fun H locs hP _ hS => ?_)
  have hP : va_P E.1 vwCl (wModx E b (u 0 0) 0 (u 0 2) (u 0 3) (u 0 4) (u 0 5) (u 0 6) (u 0 7) (u 1) (u 2) (u 3) (u 4) (u 5) (u 6) (u 7) (u 8)) H := hP
  have hD := dMod (E := E) hj (u 0 0) 0 (u 0 2) (u 0 3) (u 0 4) (u 0 5) (u 0 6) (u 0 7) (u 1) (u 2) (u 3) (u 4) (u 5) (u 6) (u 7) (u 8)
  refine lv_iload_n hx hb dX6_wipe_10 rfl (lv_at hl 0 rfl) ?_
  subst R
  exact W.iret (v := (u 0 1)) hx hb hr (fun t ht hW => ⟨rfl, by rw [ht]; exact hP, hS.F ht⟩) hS.2.2 dX6_wipe_11
