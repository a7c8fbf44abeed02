theorem rO.init {ty : Int32} (h : pLn ty) : rO 0 ty 0 (-6) := by
  obtain ⟨n, h1, h2⟩ := h
  exact ⟨0, by omega, rfl, n, 0, h1, h2, rfl, by omega, fun _ => ⟨by omega, by omega⟩⟩
theorem rO.next {om om2 ty sp wr : Int32} {m0 : Nat} (h1 : om2 = om + 1) (hom : om = nI m0) (hq : qB ty sp wr (2 * m0 + 2)) (c : wr = (-6)) : rO om2 ty sp wr := by
  obtain ⟨n, k, g1, g2, g3, g4, g5⟩ := hq
  have g6 := g5 c
  exact ⟨m0 + 1, by omega, by rw [h1, hom]; exact nI_1 m0, n, k, g1, g2, g3, g4, fun _ => ⟨by omega, g6.2⟩⟩
def rM (om : Int32) (m : Nat) : Prop := ∃ m0 : Nat, om = nI m0 ∧ m0 ≤ 41 ∧ 41 < m0 + m
theorem rM.no {om : Int32} (h : rM om 0) : False := by
  obtain ⟨m0, h1, h2, h3⟩ := h; omega
theorem rM.res {om : Int32} {m : Nat} (h : rM om m) : ∃ m0 : Nat, m0 ≤ 41 ∧ om = nI m0 := by
  obtain ⟨m0, h1, h2, h3⟩ := h; exact ⟨m0, h2, h1⟩
theorem rM.step {om om2 : Int32} {m m0 : Nat} (h : rM om (m + 1)) (h40 : m0 ≤ 40) (hom : om = nI m0) (h1 : om2 = om + 1) : rM om2 m := by
  obtain ⟨m1, g1, g2, g3⟩ := h
  have e : m1 = m0 := (nI_eq (by omega) (by omega)).mp (g1.symm.trans hom)
  exact ⟨m0 + 1, by rw [h1, hom]; exact nI_1 m0, by omega, by omega⟩
def oOK (x : Int32) : Prop := ∃ j : Nat, j ≤ 40 ∧ x = nI j
theorem oOK.in0 {x : Int32} (h : oOK x) : vp_in (4 * x) 164 := by
  obtain ⟨j, hj, e⟩ := h; exact rOin0 hj e
theorem oOK.in {x : Int32} (h : oOK x) (k : Nat) (hk : k < 4) : vp_in ((4 * x) + nI k) 164 := by
  obtain ⟨j, hj, e⟩ := h; exact rOin k hj e hk
theorem klook4 {x : Int32} {k0 k1 k2 k3 : Int32} {j0 j1 j2 j3 o0 o1 o2 o3 d : Int} (e0 : k0.toInt = j0) (e1 : k1.toInt = j1) (e2 : k2.toInt = j2) (e3 : k3.toInt = j3) (h0 : ¬ x = k0) (h1 : ¬ x = k1) (h2 : ¬ x = k2) (h3 : ¬ x = k3) : Op.lookupswitch.offset [(j0, o0), (j1, o1), (j2, o2), (j3, o3)] d x.toInt = d := by
  subst e0; subst e1; subst e2; subst e3
  rw [Op.lookupswitch.offset_cons, if_neg (kne_toInt (Ne.symm h0)), Op.lookupswitch.offset_cons, if_neg (kne_toInt (Ne.symm h1)), Op.lookupswitch.offset_cons, if_neg (kne_toInt (Ne.symm h2)), Op.lookupswitch.offset_cons, if_neg (kne_toInt (Ne.symm h3))]; rfl
theorem mlt {om : Int32} {i : Nat} (h : ∃ m0 : Nat, m0 ≤ 41 ∧ om = nI m0) (hi : i ≤ 41) (c : ¬ om ≤ nI i) : oOK (nI i) ∧ i < 41 := by
  obtain ⟨m0, h1, rfl⟩ := h
  rcases Nat.lt_or_ge i m0 with q | q
  · exact ⟨⟨i, by omega, rfl⟩, by omega⟩
  · exact absurd (nI_le q (by omega)) c

def mX6_readPad_L18 (u : kG) : Nat → Int32 → (Nat → Int32) → Int32 → Int32 → Int32 → (Int32 × Int32 × Int32 × Int32 × (Nat → Int32))
  | 0, _, _, _, _, _ => (0, 0, 0, 0, (fun _ => 0))
  | n18 + 1, x18_1, f18_0_8, q18_0_5, q18_0_6, q18_0_7 =>
    if x18_1 = 0 then
      (q18_0_7, q18_0_5, q18_0_6, q18_0_7, f18_0_8)
    else
      (fun (g_2 : Int32 × Int32 × Int32 × (Nat → Int32)) =>
        if (g_2.2.2.1) = (-6) then
          if (u 0 1) ≤ (g_2.2.1) then
            mX6_readPad_L18 u n18 0 (g_2.2.2.2) (g_2.1) (g_2.2.1) (g_2.2.2.1)
          else
            if (mX6_letter (rset (rset u 8 (g_2.2.2.2)) 0 (upd (upd (upd (u 0) 5 (g_2.1)) 6 (g_2.2.1)) 7 (g_2.2.2.1)))) = 59 then
              (fun (g_8 : Int32 × Int32) =>
                if (g_8.2) = (-6) then
                  mX6_readPad_L18 u n18 1 (g_2.2.2.2) (g_2.1) (g_8.1) (g_8.2)
                else
                  mX6_readPad_L18 u n18 0 (g_2.2.2.2) (g_2.1) (g_8.1) (g_8.2))
                (mX6_wants (rset (rset u 8 (g_2.2.2.2)) 0 (upd (upd (upd (u 0) 5 (g_2.1)) 6 (g_2.2.1)) 7 (g_2.2.2.1))) 1)
            else
              (fun (g_6 : Int32 × Int32) =>
                if (g_6.2) = (-6) then
                  mX6_readPad_L18 u n18 1 (g_2.2.2.2) (g_2.1) (g_6.1) (g_6.2)
                else
                  mX6_readPad_L18 u n18 0 (g_2.2.2.2) (g_2.1) (g_6.1) (g_6.2))
                (mX6_wants (rset (rset u 8 (g_2.2.2.2)) 0 (upd (upd (upd (u 0) 5 (g_2.1)) 6 (g_2.2.1)) 7 (g_2.2.2.1))) 0)
        else
          mX6_readPad_L18 u n18 0 (g_2.2.2.2) (g_2.1) (g_2.2.1) (g_2.2.2.1))
        (mX6_readOrder (rset (rset u 8 f18_0_8) 0 (upd (upd (upd (u 0) 5 q18_0_5) 6 q18_0_6) 7 q18_0_7)))
theorem mX6_readPad_L18_s {u : kG} {n18 : Nat} {x18_1 : Int32} {f18_0_8 : (Nat → Int32)} {q18_0_5 : Int32} {q18_0_6 : Int32} {q18_0_7 : Int32} : mX6_readPad_L18 u (n18 + 1) x18_1 f18_0_8 q18_0_5 q18_0_6 q18_0_7 = (
    if x18_1 = 0 then
      (q18_0_7, q18_0_5, q18_0_6, q18_0_7, f18_0_8)
    else
      (fun (g_2 : Int32 × Int32 × Int32 × (Nat → Int32)) =>
        if (g_2.2.2.1) = (-6) then
          if (u 0 1) ≤ (g_2.2.1) then
            mX6_readPad_L18 u n18 0 (g_2.2.2.2) (g_2.1) (g_2.2.1) (g_2.2.2.1)
          else
            if (mX6_letter (rset (rset u 8 (g_2.2.2.2)) 0 (upd (upd (upd (u 0) 5 (g_2.1)) 6 (g_2.2.1)) 7 (g_2.2.2.1)))) = 59 then
              (fun (g_8 : Int32 × Int32) =>
                if (g_8.2) = (-6) then
                  mX6_readPad_L18 u n18 1 (g_2.2.2.2) (g_2.1) (g_8.1) (g_8.2)
                else
                  mX6_readPad_L18 u n18 0 (g_2.2.2.2) (g_2.1) (g_8.1) (g_8.2))
                (mX6_wants (rset (rset u 8 (g_2.2.2.2)) 0 (upd (upd (upd (u 0) 5 (g_2.1)) 6 (g_2.2.1)) 7 (g_2.2.2.1))) 1)
            else
              (fun (g_6 : Int32 × Int32) =>
                if (g_6.2) = (-6) then
                  mX6_readPad_L18 u n18 1 (g_2.2.2.2) (g_2.1) (g_6.1) (g_6.2)
                else
                  mX6_readPad_L18 u n18 0 (g_2.2.2.2) (g_2.1) (g_6.1) (g_6.2))
                (mX6_wants (rset (rset u 8 (g_2.2.2.2)) 0 (upd (upd (upd (u 0) 5 (g_2.1)) 6 (g_2.2.1)) 7 (g_2.2.2.1))) 0)
        else
          mX6_readPad_L18 u n18 0 (g_2.2.2.2) (g_2.1) (g_2.2.1) (g_2.2.2.1))
        (mX6_readOrder (rset (rset u 8 f18_0_8) 0 (upd (upd (upd (u 0) 5 q18_0_5) 6 q18_0_6) 7 q18_0_7))) : Int32 × Int32 × Int32 × Int32 × (Nat → Int32)) := rfl
def mX6_readPad (u : kG) : Int32 × Int32 × Int32 × Int32 × (Nat → Int32) :=
  mX6_readPad_L18 u 42 1 (u 8) 0 0 (-6)
theorem mX6_readPad_s {u : kG} : mX6_readPad u = (
  mX6_readPad_L18 u 42 1 (u 8) 0 0 (-6) : Int32 × Int32 × Int32 × Int32 × (Nat → Int32)) := rfl
set_option maxHeartbeats 400000 in
set_option maxRecDepth 100000 in
theorem c_X6_readPad (l : Launch) (E : kE) (b : Nat → Nat) (u : kG) (hj : kInj b 9) (hp : pLn (u 0 1)) (R : Int32 × Int32 × Int32 × Int32 × (Nat → Int32)) (hE : R = mX6_readPad u) : Met l yX6_readPad wsX6_readPad ({ frames := 3, cells := 0, slots := 0, locals := 69 }) (kPre E [.ref (b 0)] (wModx E b (u 0 0) (u 0 1) (u 0 2) (u 0 3) (u 0 4) (u 0 5) (u 0 6) (u 0 7) (u 1) (u 2) (u 3) (u 4) (u 5) (u 6) (u 7) (u 8))) (kWi E R.1 (wModx E b (u 0 0) (u 0 1) (u 0 2) (u 0 3) (u 0 4) R.2.1 R.2.2.1 R.2.2.2.1 (u 1) (u 2) (u 3) (u 4) (u 5) (u 6) (u 7) R.2.2.2.2) (kA b 9)) 0 0 (kA b 9) := by
  refine Met.ofW (cc := cX6_readPad) (maxL := 2) (ret := (some .int)) (by decide) rfl ?_
  intro p e s m args below meth c s₁ B hml hv
  obtain ⟨rfl, hK, hP⟩ := hv
  have hx := B.exec
  have hb := B.bytes
  have hr := B.returns
  have hts := atoms_spec (ws := wsX6_readPad) B.pre
  have hown : s.vm.findClass RX6 = some m.cls := findClass_of_methodNamed B.named
  have hlocks := B.notSynchronized
  have hiX6 : ∀ w ∈ wsX60, w ∈ wsX6_readPad := by decide +kernel
  have hf168 := hts (.fieldLink RX6 168 "SkewEdgesModel" "typed" "I") (by decide +kernel)
  have hf182 := hts (.fieldLink RX6 182 "SkewEdgesModel" "spot" "I") (by decide +kernel)
  have hf185 := hts (.fieldLink RX6 185 "SkewEdgesModel" "wrong" "I") (by decide +kernel)
  have hf195 := hts (.fieldLink RX6 195 "SkewEdgesModel" "orderMany" "I") (by decide +kernel)
  have hS : va_S (kA b 9) s.heap s.heap [] := va_S.rf
  have hP : va_P E.1 vwCl (wModx E b (u 0 0) (u 0 1) (u 0 2) (u 0 3) (u 0 4) (u 0 5) (u 0 6) (u 0 7) (u 1) (u 2) (u 3) (u 4) (u 5) (u 6) (u 7) (u 8)) s.heap := hP
  have hD := dMod (E := E) hj (u 0 0) (u 0 1) (u 0 2) (u 0 3) (u 0 4) (u 0 5) (u 0 6) (u 0 7) (u 1) (u 2) (u 3) (u 4) (u 5) (u 6) (u 7) (u 8)
  have hl := lv_entry ([.ref (b 0)]) (n := 2) (Nat.le_of_ble_eq_true rfl)
  rw [lg_entry_eq]
  generalize (lg_sl ([.ref (b 0)]) ++ List.replicate (2 - (lg_sl ([.ref (b 0)])).length) Slot.unset).toArray = ls at hl ⊢
  have hl : lv_has ls 2 [(0, .ref (b 0))] := hl
  replace hE := hE.trans mX6_readPad_s
  refine lv_aload_n hx hb dX6_readPad_0 rfl (lv_at hl 0 rfl) ?_
  refine lv_iconst (v := 0) hx hb dX6_readPad_1 (by decide) ?_
  refine va_put (D := E.1) (ci := 5) (v := .int 0) (ty := .int) (C := RX6) (T := TX6) (N := 16) hx hb hts hiX6 tyX6 tyX6_ok nmX6 hown hK.1 hP hD hS 0 rfl rfl 13 (by decide) hf195 (fun _ h9 => h9) rfl (by decide +kernel) rfl rfl (Nat.le_of_ble_eq_true rfl) dX6_readPad_2 (fun H locs hP _ hS => ?_)
  have hP : va_P E.1 vwCl (wModx E b (u 0 0) (u 0 1) (u 0 2) (u 0 3) (u 0 4) 0 (u 0 6) (u 0 7) (u 1) (u 2) (u 3) (u 4) (u 5) (u 6) (u 7) (u 8)) H := hP
  have hD := dMod (E := E) hj (u 0 0) (u 0 1) (u 0 2) (u 0 3) (u 0 4) 0 (u 0 6) (u 0 7) (u 1) (u 2) (u 3) (u 4) (u 5) (u 6) (u 7) (u 8)
  refine lv_aload_n hx hb dX6_readPad_5 rfl (lv_at hl 0 rfl) ?_
  refine lv_iconst (v := 0) hx hb dX6_readPad_6 (by decide) ?_
  refine va_put (D := E.1) (ci := 5) (v := .int 0) (ty := .int) (C := RX6) (T := TX6) (N := 16) hx hb hts hiX6 tyX6 tyX6_ok nmX6 hown hK.1 hP hD hS 0 rfl rfl 14 (by decide) hf182 (fun _ h9 => h9) rfl (by decide +kernel) rfl rfl (Nat.le_of_ble_eq_true rfl) dX6_readPad_7 (fun H locs hP _ hS => ?_)
  have hP : va_P E.1 vwCl (wModx E b (u 0 0) (u 0 1) (u 0 2) (u 0 3) (u 0 4) 0 0 (u 0 7) (u 1) (u 2) (u 3) (u 4) (u 5) (u 6) (u 7) (u 8)) H := hP
  have hD := dMod (E := E) hj (u 0 0) (u 0 1) (u 0 2) (u 0 3) (u 0 4) 0 0 (u 0 7) (u 1) (u 2) (u 3) (u 4) (u 5) (u 6) (u 7) (u 8)
  refine lv_aload_n hx hb dX6_readPad_10 rfl (lv_at hl 0 rfl) ?_
  refine lv_bipush (v := (-6)) hx hb dX6_readPad_11 (by decide) ?_
  refine va_put (D := E.1) (ci := 5) (v := .int (-6)) (ty := .int) (C := RX6) (T := TX6) (N := 16) hx hb hts hiX6 tyX6 tyX6_ok nmX6 hown hK.1 hP hD hS 0 rfl rfl 15 (by decide) hf185 (fun _ h9 => h9) rfl (by decide +kernel) rfl rfl (Nat.le_of_ble_eq_true rfl) dX6_readPad_13 (fun H locs hP _ hS => ?_)
  have hP : va_P E.1 vwCl (wModx E b (u 0 0) (u 0 1) (u 0 2) (u 0 3) (u 0 4) 0 0 (-6) (u 1) (u 2) (u 3) (u 4) (u 5) (u 6) (u 7) (u 8)) H := hP
  have hD := dMod (E := E) hj (u 0 0) (u 0 1) (u 0 2) (u 0 3) (u 0 4) 0 0 (-6) (u 1) (u 2) (u 3) (u 4) (u 5) (u 6) (u 7) (u 8)
  refine lv_iconst (v := 1) hx hb dX6_readPad_16 (by decide) ?_
  refine lv_istore_n (lv' := [(1, .int 1), (0, .ref (b 0))]) hx hb dX6_readPad_17 rfl hl (by decide) rfl (fun ls hl => ?_)
  have lp18 : ∀ (n18 : Nat) (x18_1 : Int32) (f18_0_8 : (Nat → Int32)) (q18_0_5 : Int32) (q18_0_6 : Int32) (q18_0_7 : Int32) (H : Heap) (locs : List Loc), (rM q18_0_5 n18) → (¬ x18_1 = 0 → rO q18_0_5 (u 0 1) q18_0_6 q18_0_7) → va_P E.1 vwCl (wModx E b (u 0 0) (u 0 1) (u 0 2) (u 0 3) (u 0 4) q18_0_5 q18_0_6 q18_0_7 (u 1) (u 2) (u 3) (u 4) (u 5) (u 6) (u 7) f18_0_8) H → va_S (kA b 9) s.heap H locs → ∀ ls : Array Slot, lv_has ls 2 [(1, .int x18_1), (0, .ref (b 0))] → R = mX6_readPad_L18 u n18 x18_1 f18_0_8 q18_0_5 q18_0_6 q18_0_7 → W p l e ({ frames := 3, cells := 0, slots := 0, locals := 69 }) s m ([.ref (b 0)] : List Value).toArray below meth c H locs 0 0 (MQ below (kWi E R.1 (wModx E b (u 0 0) (u 0 1) (u 0 2) (u 0 3) (u 0 4) R.2.1 R.2.2.1 R.2.2.2.1 (u 1) (u 2) (u 3) (u 4) (u 5) (u 6) (u 7) R.2.2.2.2) (kA b 9)) ([.ref (b 0)] : List Value).toArray s 0 0 (kA b 9)) (F0 m 18 ls []) := by
    clear hE
    intro n18
    induction n18 with
    | zero =>
      intro x18_1 f18_0_8 q18_0_5 q18_0_6 q18_0_7 H locs hm18 hqq hP hS ls hl hE
      exact hm18.no.elim
    | succ n18 ih18 =>
      intro x18_1 f18_0_8 q18_0_5 q18_0_6 q18_0_7 H locs hm18 hqq hP hS ls hl hE
      have hD := dMod (E := E) hj (u 0 0) (u 0 1) (u 0 2) (u 0 3) (u 0 4) q18_0_5 q18_0_6 q18_0_7 (u 1) (u 2) (u 3) (u 4) (u 5) (u 6) (u 7) f18_0_8
      replace hE := hE.trans mX6_readPad_L18_s
      refine lv_iload_n hx hb dX6_readPad_18 rfl (lv_at hl 0 rfl) ?_
      refine lv_if_eq (tgt := 92) hx hb dX6_readPad_19 (by decide) (fun c_1 => ?_) (fun c_1 => ?_)
      · replace hE := hE.trans (if_pos c_1)
        refine lv_aload_n hx hb dX6_readPad_92 rfl (lv_at hl 1 rfl) ?_
        refine va_get (D := E.1) (ci := 5) (v := .int q18_0_7) (C := RX6) (T := TX6) (N := 16) hx hb hts hiX6 hown hK.1 hP 0 rfl rfl 15 (by decide) hf185 (fun _ h9 => h9) rfl dX6_readPad_93 ?_
        subst R
        exact W.iret (v := q18_0_7) hx hb hr (fun t ht hW => ⟨rfl, by rw [ht]; exact hP, hS.F ht⟩) hS.2.2 dX6_readPad_96
      · replace hE := hE.trans (if_neg c_1)
        have hro := hqq c_1
        obtain ⟨m0, hm40, hom, hq⟩ := id hro
        refine lv_aload_n hx hb dX6_readPad_22 rfl (lv_at hl 1 rfl) ?_
        refine kCallWv (va_runV (As := []) (rest := []) ⟨hx, hb, hml, hown, hts⟩ (c_X6_readOrder l E b (rset (rset u 8 f18_0_8) 0 (upd (upd (upd (u 0) 5 q18_0_5) 6 q18_0_6) 7 q18_0_7)) hj hro _ rfl) (cwV 0 hts gX6_readPad_X6_readOrder rfl rfl rfl (by decide +kernel) ⟨Nat.le_of_ble_eq_true rfl, Nat.le_of_ble_eq_true rfl⟩) (kPreV hK hP hP (q0 := 0) rfl rfl) rfl rfl hl.1 rfl (lv_room (Nat.le_of_ble_eq_true rfl)) dX6_readPad_23 ⟨Nat.zero_le _, Nat.zero_le _⟩) hS (fun _ h => h) (fun H locs hP _ _ hS => ?_)
        have hr2 : qB (u 0 1) (mX6_readOrder (rset (rset u 8 f18_0_8) 0 (upd (upd (upd (u 0) 5 q18_0_5) 6 q18_0_6) 7 q18_0_7))).2.1 (mX6_readOrder (rset (rset u 8 f18_0_8) 0 (upd (upd (upd (u 0) 5 q18_0_5) 6 q18_0_6) 7 q18_0_7))).2.2.1 (2 * m0 + 1) := readOrder_q (u := (rset (rset u 8 f18_0_8) 0 (upd (upd (upd (u 0) 5 q18_0_5) 6 q18_0_6) 7 q18_0_7))) hq
        have hr1 : (mX6_readOrder (rset (rset u 8 f18_0_8) 0 (upd (upd (upd (u 0) 5 q18_0_5) 6 q18_0_6) 7 q18_0_7))).1 = q18_0_5 + 1 := readOrder_1 (u := (rset (rset u 8 f18_0_8) 0 (upd (upd (upd (u 0) 5 q18_0_5) 6 q18_0_6) 7 q18_0_7))) hq
        refine kGen (mX6_readOrder (rset (rset u 8 f18_0_8) 0 (upd (upd (upd (u 0) 5 q18_0_5) 6 q18_0_6) 7 q18_0_7))) (fun g_2 hg_2 => ?_)
        rw [hg_2] at hE hP hr2 hr1
        try dsimp only at hE
        have hP : va_P E.1 vwCl (wModx E b (u 0 0) (u 0 1) (u 0 2) (u 0 3) (u 0 4) (g_2.1) (g_2.2.1) (g_2.2.2.1) (u 1) (u 2) (u 3) (u 4) (u 5) (u 6) (u 7) (g_2.2.2.2)) H := hP
        have hD := dMod (E := E) hj (u 0 0) (u 0 1) (u 0 2) (u 0 3) (u 0 4) (g_2.1) (g_2.2.1) (g_2.2.2.1) (u 1) (u 2) (u 3) (u 4) (u 5) (u 6) (u 7) (g_2.2.2.2)
        refine lv_aload_n hx hb dX6_readPad_26 rfl (lv_at hl 1 rfl) ?_
        refine va_get (D := E.1) (ci := 5) (v := .int (g_2.2.2.1)) (C := RX6) (T := TX6) (N := 16) hx hb hts hiX6 hown hK.1 hP 0 rfl rfl 15 (by decide) hf185 (fun _ h9 => h9) rfl dX6_readPad_27 ?_
        refine lv_bipush (v := (-6)) hx hb dX6_readPad_30 (by decide) ?_
        refine lv_icmp_ne (tgt := 50) hx hb dX6_readPad_32 (by decide) (fun c_3 => ?_) (fun c_3 => ?_)
        · replace hE := hE.trans (if_neg c_3)
          refine lv_iconst (v := 0) hx hb dX6_readPad_50 (by decide) ?_
          refine lv_istore_n (lv' := [(1, .int 0), (0, .ref (b 0))]) hx hb dX6_readPad_51 rfl hl (by decide) rfl (fun ls hl => ?_)
          refine lv_iload_n hx hb dX6_readPad_52 rfl (lv_at hl 0 rfl) ?_
          refine lv_if_eq (tgt := 18) hx hb dX6_readPad_53 (by decide) (fun _ => ?_) (fun c => absurd (by decide) c)
          exact ih18 0 (g_2.2.2.2) (g_2.1) (g_2.2.1) (g_2.2.2.1) _ _ (rM.step hm18 hm40 hom hr1) (by first | exact fun c => absurd rfl c | exact fun _ => rO.next hr1 hom hw2 (by assumption)) hP hS ls (lv_sub hl [0, 1] rfl) hE
        · replace hE := hE.trans (if_pos c_3)
          refine lv_aload_n hx hb dX6_readPad_35 rfl (lv_at hl 1 rfl) ?_
          refine va_get (D := E.1) (ci := 5) (v := .int (g_2.2.1)) (C := RX6) (T := TX6) (N := 16) hx hb hts hiX6 hown hK.1 hP 0 rfl rfl 14 (by decide) hf182 (fun _ h9 => h9) rfl dX6_readPad_36 ?_
          refine lv_aload_n hx hb dX6_readPad_39 rfl (lv_at hl 1 rfl) ?_
          refine va_get (D := E.1) (ci := 5) (v := .int (u 0 1)) (C := RX6) (T := TX6) (N := 16) hx hb hts hiX6 hown hK.1 hP 0 rfl rfl 6 (by decide) hf168 (fun _ h9 => h9) rfl dX6_readPad_40 ?_
          refine lv_icmp_ge (tgt := 50) hx hb dX6_readPad_43 (by decide) (fun c_4 => ?_) (fun c_4 => ?_)
          · replace hE := hE.trans (if_pos c_4)
            refine lv_iconst (v := 0) hx hb dX6_readPad_50 (by decide) ?_
            refine lv_istore_n (lv' := [(1, .int 0), (0, .ref (b 0))]) hx hb dX6_readPad_51 rfl hl (by decide) rfl (fun ls hl => ?_)
            refine lv_iload_n hx hb dX6_readPad_52 rfl (lv_at hl 0 rfl) ?_
            refine lv_if_eq (tgt := 18) hx hb dX6_readPad_53 (by decide) (fun _ => ?_) (fun c => absurd (by decide) c)
            exact ih18 0 (g_2.2.2.2) (g_2.1) (g_2.2.1) (g_2.2.2.1) _ _ (rM.step hm18 hm40 hom hr1) (by first | exact fun c => absurd rfl c | exact fun _ => rO.next hr1 hom hw2 (by assumption)) hP hS ls (lv_sub hl [0, 1] rfl) hE
          · replace hE := hE.trans (if_neg c_4)
            refine lv_iconst (v := 1) hx hb dX6_readPad_46 (by decide) ?_
            refine lv_goto (tgt := 51) hx hb dX6_readPad_47 (by decide) ?_
            refine lv_istore_n (lv' := [(1, .int 1), (0, .ref (b 0))]) hx hb dX6_readPad_51 rfl hl (by decide) rfl (fun ls hl => ?_)
            refine lv_iload_n hx hb dX6_readPad_52 rfl (lv_at hl 0 rfl) ?_
            refine lv_if_eq (tgt := 18) hx hb dX6_readPad_53 (by decide) (fun c => absurd c (by decide)) (fun _ => ?_)
            refine lv_aload_n hx hb dX6_readPad_56 rfl (lv_at hl 1 rfl) ?_
            refine lv_aload_n hx hb dX6_readPad_57 rfl (lv_at hl 1 rfl) ?_
            refine kCallRi (va_runV (As := []) (rest := [.ref (b 0)]) ⟨hx, hb, hml, hown, hts⟩ (c_X6_letter l E b (rset (rset u 8 (g_2.2.2.2)) 0 (upd (upd (upd (u 0) 5 (g_2.1)) 6 (g_2.2.1)) 7 (g_2.2.2.1))) hr2.s _ rfl) (cwV 0 hts gX6_readPad_X6_letter rfl rfl rfl (by decide +kernel) ⟨Nat.le_of_ble_eq_true rfl, Nat.le_of_ble_eq_true rfl⟩) (kPreV hK hP hP (q0 := 0) rfl rfl) rfl rfl hl.1 rfl (lv_room (Nat.le_of_ble_eq_true rfl)) dX6_readPad_58 ⟨Nat.zero_le _, Nat.zero_le _⟩) ?_
            refine lv_bipush (v := 59) hx hb dX6_readPad_61 (by decide) ?_
            refine lv_icmp_ne (tgt := 70) hx hb dX6_readPad_63 (by decide) (fun c_5 => ?_) (fun c_5 => ?_)
            · replace hE := hE.trans (if_neg c_5)
              refine lv_iconst (v := 0) hx hb dX6_readPad_70 (by decide) ?_
              refine kCallWv (va_runV (As := [.int 0]) (rest := []) ⟨hx, hb, hml, hown, hts⟩ (c_X6_wants l E b (rset (rset u 8 (g_2.2.2.2)) 0 (upd (upd (upd (u 0) 5 (g_2.1)) 6 (g_2.2.1)) 7 (g_2.2.2.1))) hj 0 _ rfl) (cwV 1 hts gX6_readPad_X6_wants rfl rfl rfl (by decide +kernel) ⟨Nat.le_of_ble_eq_true rfl, Nat.le_of_ble_eq_true rfl⟩) (kPreV hK hP hP (q0 := 0) rfl rfl) rfl rfl hl.1 rfl (lv_room (Nat.le_of_ble_eq_true rfl)) dX6_readPad_71 ⟨Nat.zero_le _, Nat.zero_le _⟩) hS (fun _ h => h) (fun H locs hP _ _ hS => ?_)
              have hw2 : qB (u 0 1) (mX6_wants (rset (rset u 8 (g_2.2.2.2)) 0 (upd (upd (upd (u 0) 5 (g_2.1)) 6 (g_2.2.1)) 7 (g_2.2.2.1))) 0).1 (mX6_wants (rset (rset u 8 (g_2.2.2.2)) 0 (upd (upd (upd (u 0) 5 (g_2.1)) 6 (g_2.2.1)) 7 (g_2.2.2.1))) 0).2 (2 * m0 + 2) := wants_q (u := (rset (rset u 8 (g_2.2.2.2)) 0 (upd (upd (upd (u 0) 5 (g_2.1)) 6 (g_2.2.1)) 7 (g_2.2.2.1)))) hr2 (fun c => by first | exact absurd rfl c | exact letter_lt (u := (rset (rset u 8 (g_2.2.2.2)) 0 (upd (upd (upd (u 0) 5 (g_2.1)) 6 (g_2.2.1)) 7 (g_2.2.2.1)))) hr2 (lne (k := 59) (by assumption) (by decide)))
              refine kGen (mX6_wants (rset (rset u 8 (g_2.2.2.2)) 0 (upd (upd (upd (u 0) 5 (g_2.1)) 6 (g_2.2.1)) 7 (g_2.2.2.1))) 0) (fun g_6 hg_6 => ?_)
              rw [hg_6] at hE hP hw2
              try dsimp only at hE
              have hP : va_P E.1 vwCl (wModx E b (u 0 0) (u 0 1) (u 0 2) (u 0 3) (u 0 4) (g_2.1) (g_6.1) (g_6.2) (u 1) (u 2) (u 3) (u 4) (u 5) (u 6) (u 7) (g_2.2.2.2)) H := hP
              have hD := dMod (E := E) hj (u 0 0) (u 0 1) (u 0 2) (u 0 3) (u 0 4) (g_2.1) (g_6.1) (g_6.2) (u 1) (u 2) (u 3) (u 4) (u 5) (u 6) (u 7) (g_2.2.2.2)
              refine lv_aload_n hx hb dX6_readPad_74 rfl (lv_at hl 1 rfl) ?_
              refine va_get (D := E.1) (ci := 5) (v := .int (g_6.2)) (C := RX6) (T := TX6) (N := 16) hx hb hts hiX6 hown hK.1 hP 0 rfl rfl 15 (by decide) hf185 (fun _ h9 => h9) rfl dX6_readPad_75 ?_
              refine lv_bipush (v := (-6)) hx hb dX6_readPad_78 (by decide) ?_
              refine lv_icmp_ne (tgt := 87) hx hb dX6_readPad_80 (by decide) (fun c_7 => ?_) (fun c_7 => ?_)
              · replace hE := hE.trans (if_neg c_7)
                refine lv_iconst (v := 0) hx hb dX6_readPad_87 (by decide) ?_
                refine lv_istore_n (lv' := [(1, .int 0), (0, .ref (b 0))]) hx hb dX6_readPad_88 rfl hl (by decide) rfl (fun ls hl => ?_)
                refine lv_goto (tgt := 18) hx hb dX6_readPad_89 (by decide) ?_
                exact ih18 0 (g_2.2.2.2) (g_2.1) (g_6.1) (g_6.2) _ _ (rM.step hm18 hm40 hom hr1) (by first | exact fun c => absurd rfl c | exact fun _ => rO.next hr1 hom hw2 (by assumption)) hP hS ls (lv_sub hl [0, 1] rfl) hE
              · replace hE := hE.trans (if_pos c_7)
                refine lv_iconst (v := 1) hx hb dX6_readPad_83 (by decide) ?_
                refine lv_goto (tgt := 88) hx hb dX6_readPad_84 (by decide) ?_
                refine lv_istore_n (lv' := [(1, .int 1), (0, .ref (b 0))]) hx hb dX6_readPad_88 rfl hl (by decide) rfl (fun ls hl => ?_)
                refine lv_goto (tgt := 18) hx hb dX6_readPad_89 (by decide) ?_
                exact ih18 1 (g_2.2.2.2) (g_2.1) (g_6.1) (g_6.2) _ _ (rM.step hm18 hm40 hom hr1) (by first | exact fun c => absurd rfl c | exact fun _ => rO.next hr1 hom hw2 (by assumption)) hP hS ls (lv_sub hl [0, 1] rfl) hE
            · replace hE := hE.trans (if_pos c_5)
              refine lv_iconst (v := 1) hx hb dX6_readPad_66 (by decide) ?_
              refine lv_goto (tgt := 71) hx hb dX6_readPad_67 (by decide) ?_
              refine kCallWv (va_runV (As := [.int 1]) (rest := []) ⟨hx, hb, hml, hown, hts⟩ (c_X6_wants l E b (rset (rset u 8 (g_2.2.2.2)) 0 (upd (upd (upd (u 0) 5 (g_2.1)) 6 (g_2.2.1)) 7 (g_2.2.2.1))) hj 1 _ rfl) (cwV 1 hts gX6_readPad_X6_wants rfl rfl rfl (by decide +kernel) ⟨Nat.le_of_ble_eq_true rfl, Nat.le_of_ble_eq_true rfl⟩) (kPreV hK hP hP (q0 := 0) rfl rfl) rfl rfl hl.1 rfl (lv_room (Nat.le_of_ble_eq_true rfl)) dX6_readPad_71 ⟨Nat.zero_le _, Nat.zero_le _⟩) hS (fun _ h => h) (fun H locs hP _ _ hS => ?_)
              have hw2 : qB (u 0 1) (mX6_wants (rset (rset u 8 (g_2.2.2.2)) 0 (upd (upd (upd (u 0) 5 (g_2.1)) 6 (g_2.2.1)) 7 (g_2.2.2.1))) 1).1 (mX6_wants (rset (rset u 8 (g_2.2.2.2)) 0 (upd (upd (upd (u 0) 5 (g_2.1)) 6 (g_2.2.1)) 7 (g_2.2.2.1))) 1).2 (2 * m0 + 2) := wants_q (u := (rset (rset u 8 (g_2.2.2.2)) 0 (upd (upd (upd (u 0) 5 (g_2.1)) 6 (g_2.2.1)) 7 (g_2.2.2.1)))) hr2 (fun c => by first | exact absurd rfl c | exact letter_lt (u := (rset (rset u 8 (g_2.2.2.2)) 0 (upd (upd (upd (u 0) 5 (g_2.1)) 6 (g_2.2.1)) 7 (g_2.2.2.1)))) hr2 (lne (k := 59) (by assumption) (by decide)))
              refine kGen (mX6_wants (rset (rset u 8 (g_2.2.2.2)) 0 (upd (upd (upd (u 0) 5 (g_2.1)) 6 (g_2.2.1)) 7 (g_2.2.2.1))) 1) (fun g_8 hg_8 => ?_)
              rw [hg_8] at hE hP hw2
              try dsimp only at hE
              have hP : va_P E.1 vwCl (wModx E b (u 0 0) (u 0 1) (u 0 2) (u 0 3) (u 0 4) (g_2.1) (g_8.1) (g_8.2) (u 1) (u 2) (u 3) (u 4) (u 5) (u 6) (u 7) (g_2.2.2.2)) H := hP
              have hD := dMod (E := E) hj (u 0 0) (u 0 1) (u 0 2) (u 0 3) (u 0 4) (g_2.1) (g_8.1) (g_8.2) (u 1) (u 2) (u 3) (u 4) (u 5) (u 6) (u 7) (g_2.2.2.2)
              refine lv_aload_n hx hb dX6_readPad_74 rfl (lv_at hl 1 rfl) ?_
              refine va_get (D := E.1) (ci := 5) (v := .int (g_8.2)) (C := RX6) (T := TX6) (N := 16) hx hb hts hiX6 hown hK.1 hP 0 rfl rfl 15 (by decide) hf185 (fun _ h9 => h9) rfl dX6_readPad_75 ?_
              refine lv_bipush (v := (-6)) hx hb dX6_readPad_78 (by decide) ?_
              refine lv_icmp_ne (tgt := 87) hx hb dX6_readPad_80 (by decide) (fun c_9 => ?_) (fun c_9 => ?_)
              · replace hE := hE.trans (if_neg c_9)
                refine lv_iconst (v := 0) hx hb dX6_readPad_87 (by decide) ?_
                refine lv_istore_n (lv' := [(1, .int 0), (0, .ref (b 0))]) hx hb dX6_readPad_88 rfl hl (by decide) rfl (fun ls hl => ?_)
                refine lv_goto (tgt := 18) hx hb dX6_readPad_89 (by decide) ?_
                exact ih18 0 (g_2.2.2.2) (g_2.1) (g_8.1) (g_8.2) _ _ (rM.step hm18 hm40 hom hr1) (by first | exact fun c => absurd rfl c | exact fun _ => rO.next hr1 hom hw2 (by assumption)) hP hS ls (lv_sub hl [0, 1] rfl) hE
              · replace hE := hE.trans (if_pos c_9)
                refine lv_iconst (v := 1) hx hb dX6_readPad_83 (by decide) ?_
                refine lv_goto (tgt := 88) hx hb dX6_readPad_84 (by decide) ?_
                refine lv_istore_n (lv' := [(1, .int 1), (0, .ref (b 0))]) hx hb dX6_readPad_88 rfl hl (by decide) rfl (fun ls hl => ?_)
                refine lv_goto (tgt := 18) hx hb dX6_readPad_89 (by decide) ?_
                exact ih18 1 (g_2.2.2.2) (g_2.1) (g_8.1) (g_8.2) _ _ (rM.step hm18 hm40 hom hr1) (by first | exact fun c => absurd rfl c | exact fun _ => rO.next hr1 hom hw2 (by assumption)) hP hS ls (lv_sub hl [0, 1] rfl) hE
  exact lp18 42 1 (u 8) 0 0 (-6) _ _ ⟨0, rfl, by omega, by omega⟩ (fun _ => rO.init hp) hP hS ls (lv_sub hl [0, 1] rfl) hE
theorem readPad_Lm {u : kG} : ∀ (n18 : Nat) (x18_1 : Int32) (f18_0_8 : Nat → Int32) (q18_0_5 q18_0_6 q18_0_7 : Int32), rM q18_0_5 n18 → (¬ x18_1 = 0 → rO q18_0_5 (u 0 1) q18_0_6 q18_0_7) → ∃ m0 : Nat, m0 ≤ 41 ∧ (mX6_readPad_L18 u n18 x18_1 f18_0_8 q18_0_5 q18_0_6 q18_0_7).2.1 = nI m0 := by
  intro n18
  induction n18 with
  | zero => intro x18_1 f18_0_8 q18_0_5 q18_0_6 q18_0_7 hm18 hqq; exact hm18.no.elim
  | succ n18 ih =>
    intro x18_1 f18_0_8 q18_0_5 q18_0_6 q18_0_7 hm18 hqq
    rw [mX6_readPad_L18_s]
    by_cases k_1 : x18_1 = 0
    · rewrite [if_pos k_1]
      exact hm18.res
    · rewrite [if_neg k_1]
      have hro := hqq k_1
      obtain ⟨m0, hm40, hom, hq⟩ := id hro
      have hr2 : qB (u 0 1) (mX6_readOrder (rset (rset u 8 f18_0_8) 0 (upd (upd (upd (u 0) 5 q18_0_5) 6 q18_0_6) 7 q18_0_7))).2.1 (mX6_readOrder (rset (rset u 8 f18_0_8) 0 (upd (upd (upd (u 0) 5 q18_0_5) 6 q18_0_6) 7 q18_0_7))).2.2.1 (2 * m0 + 1) := readOrder_q (u := (rset (rset u 8 f18_0_8) 0 (upd (upd (upd (u 0) 5 q18_0_5) 6 q18_0_6) 7 q18_0_7))) hq
      have hr1 : (mX6_readOrder (rset (rset u 8 f18_0_8) 0 (upd (upd (upd (u 0) 5 q18_0_5) 6 q18_0_6) 7 q18_0_7))).1 = q18_0_5 + 1 := readOrder_1 (u := (rset (rset u 8 f18_0_8) 0 (upd (upd (upd (u 0) 5 q18_0_5) 6 q18_0_6) 7 q18_0_7))) hq
      refine kGen (mX6_readOrder (rset (rset u 8 f18_0_8) 0 (upd (upd (upd (u 0) 5 q18_0_5) 6 q18_0_6) 7 q18_0_7))) (fun g_2 eg_2 => ?_)
      rewrite [eg_2] at hr2 hr1
      try rewrite [eg_2]
      try dsimp only
      by_cases k_2 : (g_2.2.2.1) = (-6)
      · rewrite [if_pos k_2]
        by_cases k_3 : (u 0 1) ≤ (g_2.2.1)
        · rewrite [if_pos k_3]
          exact ih _ _ _ _ _ (rM.step hm18 hm40 hom hr1) (by first | exact fun c => absurd rfl c | exact fun _ => rO.next hr1 hom hw2 (by assumption))
        · rewrite [if_neg k_3]
          by_cases k_4 : (mX6_letter (rset (rset u 8 (g_2.2.2.2)) 0 (upd (upd (upd (u 0) 5 (g_2.1)) 6 (g_2.2.1)) 7 (g_2.2.2.1)))) = 59
          · rewrite [if_pos k_4]
            have hw2 : qB (u 0 1) (mX6_wants (rset (rset u 8 (g_2.2.2.2)) 0 (upd (upd (upd (u 0) 5 (g_2.1)) 6 (g_2.2.1)) 7 (g_2.2.2.1))) 1).1 (mX6_wants (rset (rset u 8 (g_2.2.2.2)) 0 (upd (upd (upd (u 0) 5 (g_2.1)) 6 (g_2.2.1)) 7 (g_2.2.2.1))) 1).2 (2 * m0 + 2) := wants_q (u := (rset (rset u 8 (g_2.2.2.2)) 0 (upd (upd (upd (u 0) 5 (g_2.1)) 6 (g_2.2.1)) 7 (g_2.2.2.1)))) hr2 (fun c => by first | exact absurd rfl c | exact letter_lt (u := (rset (rset u 8 (g_2.2.2.2)) 0 (upd (upd (upd (u 0) 5 (g_2.1)) 6 (g_2.2.1)) 7 (g_2.2.2.1)))) hr2 (lne (k := 59) (by assumption) (by decide)))
            refine kGen (mX6_wants (rset (rset u 8 (g_2.2.2.2)) 0 (upd (upd (upd (u 0) 5 (g_2.1)) 6 (g_2.2.1)) 7 (g_2.2.2.1))) 1) (fun g_8 eg_8 => ?_)
            rewrite [eg_8] at hw2
            try rewrite [eg_8]
            try dsimp only
            by_cases k_5 : (g_8.2) = (-6)
            · rewrite [if_pos k_5]
              exact ih _ _ _ _ _ (rM.step hm18 hm40 hom hr1) (by first | exact fun c => absurd rfl c | exact fun _ => rO.next hr1 hom hw2 (by assumption))
            · rewrite [if_neg k_5]
              exact ih _ _ _ _ _ (rM.step hm18 hm40 hom hr1) (by first | exact fun c => absurd rfl c | exact fun _ => rO.next hr1 hom hw2 (by assumption))
          · rewrite [if_neg k_4]
            have hw2 : qB (u 0 1) (mX6_wants (rset (rset u 8 (g_2.2.2.2)) 0 (upd (upd (upd (u 0) 5 (g_2.1)) 6 (g_2.2.1)) 7 (g_2.2.2.1))) 0).1 (mX6_wants (rset (rset u 8 (g_2.2.2.2)) 0 (upd (upd (upd (u 0) 5 (g_2.1)) 6 (g_2.2.1)) 7 (g_2.2.2.1))) 0).2 (2 * m0 + 2) := wants_q (u := (rset (rset u 8 (g_2.2.2.2)) 0 (upd (upd (upd (u 0) 5 (g_2.1)) 6 (g_2.2.1)) 7 (g_2.2.2.1)))) hr2 (fun c => by first | exact absurd rfl c | exact letter_lt (u := (rset (rset u 8 (g_2.2.2.2)) 0 (upd (upd (upd (u 0) 5 (g_2.1)) 6 (g_2.2.1)) 7 (g_2.2.2.1)))) hr2 (lne (k := 59) (by assumption) (by decide)))
            refine kGen (mX6_wants (rset (rset u 8 (g_2.2.2.2)) 0 (upd (upd (upd (u 0) 5 (g_2.1)) 6 (g_2.2.1)) 7 (g_2.2.2.1))) 0) (fun g_6 eg_6 => ?_)
            rewrite [eg_6] at hw2
            try rewrite [eg_6]
            try dsimp only
            by_cases k_6 : (g_6.2) = (-6)
            · rewrite [if_pos k_6]
              exact ih _ _ _ _ _ (rM.step hm18 hm40 hom hr1) (by first | exact fun c => absurd rfl c | exact fun _ => rO.next hr1 hom hw2 (by assumption))
            · rewrite [if_neg k_6]
              exact ih _ _ _ _ _ (rM.step hm18 hm40 hom hr1) (by first | exact fun c => absurd rfl c | exact fun _ => rO.next hr1 hom hw2 (by assumption))
      · rewrite [if_neg k_2]
        exact ih _ _ _ _ _ (rM.step hm18 hm40 hom hr1) (by first | exact fun c => absurd rfl c | exact fun _ => rO.next hr1 hom hw2 (by assumption))
theorem readPad_m {u : kG} (hp : pLn (u 0 1)) : ∃ m0 : Nat, m0 ≤ 41 ∧ (mX6_readPad u).2.1 = nI m0 := readPad_Lm _ _ _ _ _ _ ⟨0, rfl, by omega, by omega⟩ (fun _ => rO.init hp)
def mX6_fault (u : kG) : Int32 × Int32 × Int32 × Int32 × (Nat → Int32) :=
  (fun (g_1 : Int32 × Int32 × Int32 × Int32 × (Nat → Int32)) =>
    ((g_1.1), (g_1.2.1), (g_1.2.2.1), (g_1.2.2.2.1), (g_1.2.2.2.2)))
    (mX6_readPad u)
theorem mX6_fault_s {u : kG} : mX6_fault u = (
  (fun (g_1 : Int32 × Int32 × Int32 × Int32 × (Nat → Int32)) =>
    ((g_1.1), (g_1.2.1), (g_1.2.2.1), (g_1.2.2.2.1), (g_1.2.2.2.2)))
    (mX6_readPad u) : Int32 × Int32 × Int32 × Int32 × (Nat → Int32)) := rfl
set_option maxHeartbeats 400000 in
set_option maxRecDepth 100000 in
theorem c_X6_fault (l : Launch) (E : kE) (b : Nat → Nat) (u : kG) (hj : kInj b 9) (hp : pLn (u 0 1)) (R : Int32 × Int32 × Int32 × Int32 × (Nat → Int32)) (hE : R = mX6_fault u) : Met l yX6_fault wsX6_fault ({ frames := 4, cells := 0, slots := 0, locals := 90 }) (kPre E [.ref (b 0)] (wModx E b (u 0 0) (u 0 1) (u 0 2) (u 0 3) (u 0 4) (u 0 5) (u 0 6) (u 0 7) (u 1) (u 2) (u 3) (u 4) (u 5) (u 6) (u 7) (u 8))) (kWi E R.1 (wModx E b (u 0 0) (u 0 1) (u 0 2) (u 0 3) (u 0 4) R.2.1 R.2.2.1 R.2.2.2.1 (u 1) (u 2) (u 3) (u 4) (u 5) (u 6) (u 7) R.2.2.2.2) (kA b 9)) 0 0 (kA b 9) := by
  refine Met.ofW (cc := cX6_fault) (maxL := 1) (ret := (some .int)) (by decide) rfl ?_
  intro p e s m args below meth c s₁ B hml hv
  obtain ⟨rfl, hK, hP⟩ := hv
  have hx := B.exec
  have hb := B.bytes
  have hr := B.returns
  have hts := atoms_spec (ws := wsX6_fault) B.pre
  have hown : s.vm.findClass RX6 = some m.cls := findClass_of_methodNamed B.named
  have hlocks := B.notSynchronized
  have hS : va_S (kA b 9) s.heap s.heap [] := va_S.rf
  have hP : va_P E.1 vwCl (wModx E b (u 0 0) (u 0 1) (u 0 2) (u 0 3) (u 0 4) (u 0 5) (u 0 6) (u 0 7) (u 1) (u 2) (u 3) (u 4) (u 5) (u 6) (u 7) (u 8)) s.heap := hP
  have hD := dMod (E := E) hj (u 0 0) (u 0 1) (u 0 2) (u 0 3) (u 0 4) (u 0 5) (u 0 6) (u 0 7) (u 1) (u 2) (u 3) (u 4) (u 5) (u 6) (u 7) (u 8)
  have hl := lv_entry ([.ref (b 0)]) (n := 1) (Nat.le_of_ble_eq_true rfl)
  rw [lg_entry_eq]
  generalize (lg_sl ([.ref (b 0)]) ++ List.replicate (1 - (lg_sl ([.ref (b 0)])).length) Slot.unset).toArray = ls at hl ⊢
  have hl : lv_has ls 1 [(0, .ref (b 0))] := hl
  replace hE := hE.trans mX6_fault_s
  refine lv_aload_n hx hb dX6_fault_0 rfl (lv_at hl 0 rfl) ?_
  refine kCallWi (va_runV (As := []) (rest := []) ⟨hx, hb, hml, hown, hts⟩ (c_X6_readPad l E b u hj (by assumption) _ rfl) (cwV 0 hts gX6_fault_X6_readPad rfl rfl rfl (by decide +kernel) ⟨Nat.le_of_ble_eq_true rfl, Nat.le_of_ble_eq_true rfl⟩) (kPreV hK hP hP (q0 := 0) rfl rfl) rfl rfl hl.1 rfl (lv_room (Nat.le_of_ble_eq_true rfl)) dX6_fault_1 ⟨Nat.zero_le _, Nat.zero_le _⟩) hS (fun _ h => h) (fun H locs hP _ _ hS => ?_)
  refine kGen (mX6_readPad u) (fun g_1 hg_1 => ?_)
  rw [hg_1] at hE hP ⊢
  try dsimp only at hE
  have hP : va_P E.1 vwCl (wModx E b (u 0 0) (u 0 1) (u 0 2) (u 0 3) (u 0 4) (g_1.2.1) (g_1.2.2.1) (g_1.2.2.2.1) (u 1) (u 2) (u 3) (u 4) (u 5) (u 6) (u 7) (g_1.2.2.2.2)) H := hP
  have hD := dMod (E := E) hj (u 0 0) (u 0 1) (u 0 2) (u 0 3) (u 0 4) (g_1.2.1) (g_1.2.2.1) (g_1.2.2.2.1) (u 1) (u 2) (u 3) (u 4) (u 5) (u 6) (u 7) (g_1.2.2.2.2)
  subst R
  exact W.iret (v := (g_1.1)) hx hb hr (fun t ht hW => ⟨rfl, by rw [ht]; exact hP, hS.F ht⟩) hS.2.2 dX6_fault_4
