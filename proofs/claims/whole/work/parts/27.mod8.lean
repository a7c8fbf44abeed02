def qS (ty sp : Int32) : Prop := ∃ n k : Nat, n ≤ 80 ∧ k ≤ n + 1 ∧ ty = nI n ∧ sp = nI k
theorem qS.in80 {ty sp : Int32} (h : qS ty sp) (c : ¬ ty ≤ sp) : vp_in sp 80 := by
  obtain ⟨n, k, h1, h2, rfl, rfl⟩ := h
  rcases Nat.lt_or_ge k n with q | q
  · exact vp_in_nI (by omega) (by omega)
  · exact absurd (nI_le q (by omega)) c
def mX6_letter (u : kG) : Int32 :=
  if (u 0 1) ≤ (u 0 6) then
    (-6)
  else
    ((u 5) ((u 0 6)).toNatClampNeg)
theorem mX6_letter_s {u : kG} : mX6_letter u = (
  if (u 0 1) ≤ (u 0 6) then
    (-6)
  else
    ((u 5) ((u 0 6)).toNatClampNeg) : Int32) := rfl
set_option maxHeartbeats 400000 in
set_option maxRecDepth 100000 in
theorem c_X6_letter (l : Launch) (E : kE) (b : Nat → Nat) (u : kG) (hs : qS (u 0 1) (u 0 6)) (R : Int32) (hE : R = mX6_letter u) : Met l yX6_letter wsX6_letter ({ frames := 0, cells := 0, slots := 0, locals := 0 }) (kPre E [.ref (b 0)] (wModx E b (u 0 0) (u 0 1) (u 0 2) (u 0 3) (u 0 4) (u 0 5) (u 0 6) (u 0 7) (u 1) (u 2) (u 3) (u 4) (u 5) (u 6) (u 7) (u 8))) (kRi R) 0 0 (fun _ => False) := by
  refine Met.ofW (cc := cX6_letter) (maxL := 1) (ret := (some .int)) (by decide) rfl ?_
  intro p e s m args below meth c s₁ B hml hv
  obtain ⟨rfl, hK, hP⟩ := hv
  have hx := B.exec
  have hb := B.bytes
  have hr := B.returns
  have hts := atoms_spec (ws := wsX6_letter) B.pre
  have hown : s.vm.findClass RX6 = some m.cls := findClass_of_methodNamed B.named
  have hlocks := B.notSynchronized
  have hiX6 : ∀ w ∈ wsX60, w ∈ wsX6_letter := by decide +kernel
  have hf23 := hts (.fieldLink RX6 23 "SkewEdgesModel" "pad" "[C") (by decide +kernel)
  have hf168 := hts (.fieldLink RX6 168 "SkewEdgesModel" "typed" "I") (by decide +kernel)
  have hf182 := hts (.fieldLink RX6 182 "SkewEdgesModel" "spot" "I") (by decide +kernel)
  have hP : va_P E.1 vwCl (wModx E b (u 0 0) (u 0 1) (u 0 2) (u 0 3) (u 0 4) (u 0 5) (u 0 6) (u 0 7) (u 1) (u 2) (u 3) (u 4) (u 5) (u 6) (u 7) (u 8)) s.heap := hP
  have hl := lv_entry ([.ref (b 0)]) (n := 1) (Nat.le_of_ble_eq_true rfl)
  rw [lg_entry_eq]
  generalize (lg_sl ([.ref (b 0)]) ++ List.replicate (1 - (lg_sl ([.ref (b 0)])).length) Slot.unset).toArray = ls at hl ⊢
  have hl : lv_has ls 1 [(0, .ref (b 0))] := hl
  replace hE := hE.trans mX6_letter_s
  refine lv_aload_n hx hb dX6_letter_0 rfl (lv_at hl 0 rfl) ?_
  refine va_get (D := E.1) (ci := 5) (v := .int (u 0 6)) (C := RX6) (T := TX6) (N := 16) hx hb hts hiX6 hown hK.1 hP 0 rfl rfl 14 (by decide) hf182 (fun _ h9 => h9) rfl dX6_letter_1 ?_
  refine lv_aload_n hx hb dX6_letter_4 rfl (lv_at hl 0 rfl) ?_
  refine va_get (D := E.1) (ci := 5) (v := .int (u 0 1)) (C := RX6) (T := TX6) (N := 16) hx hb hts hiX6 hown hK.1 hP 0 rfl rfl 6 (by decide) hf168 (fun _ h9 => h9) rfl dX6_letter_5 ?_
  refine lv_icmp_ge (tgt := 23) hx hb dX6_letter_8 (by decide) (fun c_1 => ?_) (fun c_1 => ?_)
  · replace hE := hE.trans (if_pos c_1)
    refine lv_bipush (v := (-6)) hx hb dX6_letter_23 (by decide) ?_
    subst R
    exact W.iret (v := (-6)) hx hb hr (fun t ht hW => ⟨rfl, ht⟩) (fun _ h => by cases h) dX6_letter_25
  · replace hE := hE.trans (if_neg c_1)
    refine lv_aload_n hx hb dX6_letter_11 rfl (lv_at hl 0 rfl) ?_
    refine va_get (D := E.1) (ci := 5) (v := .ref (b 5)) (C := RX6) (T := TX6) (N := 16) hx hb hts hiX6 hown hK.1 hP 0 rfl rfl 5 (by decide) hf23 (fun _ h9 => h9) rfl dX6_letter_12 ?_
    refine lv_aload_n hx hb dX6_letter_15 rfl (lv_at hl 0 rfl) ?_
    refine va_get (D := E.1) (ci := 5) (v := .int (u 0 6)) (C := RX6) (T := TX6) (N := 16) hx hb hts hiX6 hown hK.1 hP 0 rfl rfl 14 (by decide) hf182 (fun _ h9 => h9) rfl dX6_letter_16 ?_
    refine va_cald (D := E.1) hx hb hK.1 hP 5 2 rfl rfl (hs.in80 (by assumption)) dX6_letter_19 ?_
    refine lv_goto (tgt := 25) hx hb dX6_letter_20 (by decide) ?_
    subst R
    exact W.iret (v := ((u 5) ((u 0 6)).toNatClampNeg)) hx hb hr (fun t ht hW => ⟨rfl, ht⟩) (fun _ h => by cases h) dX6_letter_25
def mX6_wants (u : kG) (x1 : Int32) : Int32 × Int32 :=
  if (u 0 7) = (-6) then
    if x1 = 0 then
      (((u 0 6) + 1), (u 0 6))
    else
      (((u 0 6) + 1), (-6))
  else
    ((u 0 6), (u 0 7))
theorem mX6_wants_s {u : kG} {x1 : Int32} : mX6_wants u x1 = (
  if (u 0 7) = (-6) then
    if x1 = 0 then
      (((u 0 6) + 1), (u 0 6))
    else
      (((u 0 6) + 1), (-6))
  else
    ((u 0 6), (u 0 7)) : Int32 × Int32) := rfl
set_option maxHeartbeats 400000 in
set_option maxRecDepth 100000 in
theorem c_X6_wants (l : Launch) (E : kE) (b : Nat → Nat) (u : kG) (hj : kInj b 9) (x1 : Int32) (R : Int32 × Int32) (hE : R = mX6_wants u x1) : Met l yX6_wants wsX6_wants ({ frames := 0, cells := 0, slots := 0, locals := 0 }) (kPre E [.ref (b 0), .int x1] (wModx E b (u 0 0) (u 0 1) (u 0 2) (u 0 3) (u 0 4) (u 0 5) (u 0 6) (u 0 7) (u 1) (u 2) (u 3) (u 4) (u 5) (u 6) (u 7) (u 8))) (kWv E (wModx E b (u 0 0) (u 0 1) (u 0 2) (u 0 3) (u 0 4) (u 0 5) R.1 R.2 (u 1) (u 2) (u 3) (u 4) (u 5) (u 6) (u 7) (u 8)) (kA b 9)) 0 0 (kA b 9) := by
  refine Met.ofW (cc := cX6_wants) (maxL := 2) (ret := none) (by decide) rfl ?_
  intro p e s m args below meth c s₁ B hml hv
  obtain ⟨rfl, hK, hP⟩ := hv
  have hx := B.exec
  have hb := B.bytes
  have hr := B.returns
  have hts := atoms_spec (ws := wsX6_wants) B.pre
  have hown : s.vm.findClass RX6 = some m.cls := findClass_of_methodNamed B.named
  have hlocks := B.notSynchronized
  have hiX6 : ∀ w ∈ wsX60, w ∈ wsX6_wants := by decide +kernel
  have hf182 := hts (.fieldLink RX6 182 "SkewEdgesModel" "spot" "I") (by decide +kernel)
  have hf185 := hts (.fieldLink RX6 185 "SkewEdgesModel" "wrong" "I") (by decide +kernel)
  have hS : va_S (kA b 9) s.heap s.heap [] := va_S.rf
  have hP : va_P E.1 vwCl (wModx E b (u 0 0) (u 0 1) (u 0 2) (u 0 3) (u 0 4) (u 0 5) (u 0 6) (u 0 7) (u 1) (u 2) (u 3) (u 4) (u 5) (u 6) (u 7) (u 8)) s.heap := hP
  have hD := dMod (E := E) hj (u 0 0) (u 0 1) (u 0 2) (u 0 3) (u 0 4) (u 0 5) (u 0 6) (u 0 7) (u 1) (u 2) (u 3) (u 4) (u 5) (u 6) (u 7) (u 8)
  have hl := lv_entry ([.ref (b 0), .int x1]) (n := 2) (Nat.le_of_ble_eq_true rfl)
  rw [lg_entry_eq]
  generalize (lg_sl ([.ref (b 0), .int x1]) ++ List.replicate (2 - (lg_sl ([.ref (b 0), .int x1])).length) Slot.unset).toArray = ls at hl ⊢
  have hl : lv_has ls 2 [(0, .ref (b 0)), (1, .int x1)] := hl
  replace hE := hE.trans mX6_wants_s
  refine lv_aload_n hx hb dX6_wants_0 rfl (lv_at hl 0 rfl) ?_
  refine va_get (D := E.1) (ci := 5) (v := .int (u 0 7)) (C := RX6) (T := TX6) (N := 16) hx hb hts hiX6 hown hK.1 hP 0 rfl rfl 15 (by decide) hf185 (fun _ h9 => h9) rfl dX6_wants_1 ?_
  refine lv_bipush (v := (-6)) hx hb dX6_wants_4 (by decide) ?_
  refine lv_icmp_ne (tgt := 36) hx hb dX6_wants_6 (by decide) (fun c_1 => ?_) (fun c_1 => ?_)
  · replace hE := hE.trans (if_neg c_1)
    subst R
    exact W.vret hx hb hr (fun t ht hW => ⟨rfl, by rw [ht]; exact hP, hS.F ht⟩) hS.2.2 dX6_wants_36
  · replace hE := hE.trans (if_pos c_1)
    refine lv_aload_n hx hb dX6_wants_9 rfl (lv_at hl 0 rfl) ?_
    refine lv_iload_n hx hb dX6_wants_10 rfl (lv_at hl 1 rfl) ?_
    refine lv_if_eq (tgt := 19) hx hb dX6_wants_11 (by decide) (fun c_2 => ?_) (fun c_2 => ?_)
    · replace hE := hE.trans (if_pos c_2)
      refine lv_aload_n hx hb dX6_wants_19 rfl (lv_at hl 0 rfl) ?_
      refine va_get (D := E.1) (ci := 5) (v := .int (u 0 6)) (C := RX6) (T := TX6) (N := 16) hx hb hts hiX6 hown hK.1 hP 0 rfl rfl 14 (by decide) hf182 (fun _ h9 => h9) rfl dX6_wants_20 ?_
      refine va_put (D := E.1) (ci := 5) (v := .int (u 0 6)) (ty := .int) (C := RX6) (T := TX6) (N := 16) hx hb hts hiX6 tyX6 tyX6_ok nmX6 hown hK.1 hP hD hS 0 rfl rfl 15 (by decide) hf185 (fun _ h9 => h9) rfl (by decide +kernel) rfl rfl (Nat.le_of_ble_eq_true rfl) dX6_wants_23 (fun H locs hP _ hS => ?_)
      have hP : va_P E.1 vwCl (wModx E b (u 0 0) (u 0 1) (u 0 2) (u 0 3) (u 0 4) (u 0 5) (u 0 6) (u 0 6) (u 1) (u 2) (u 3) (u 4) (u 5) (u 6) (u 7) (u 8)) H := hP
      have hD := dMod (E := E) hj (u 0 0) (u 0 1) (u 0 2) (u 0 3) (u 0 4) (u 0 5) (u 0 6) (u 0 6) (u 1) (u 2) (u 3) (u 4) (u 5) (u 6) (u 7) (u 8)
      refine lv_aload_n hx hb dX6_wants_26 rfl (lv_at hl 0 rfl) ?_
      refine lv_dup hx hb dX6_wants_27 rfl ?_
      refine va_get (D := E.1) (ci := 5) (v := .int (u 0 6)) (C := RX6) (T := TX6) (N := 16) hx hb hts hiX6 hown hK.1 hP 0 rfl rfl 14 (by decide) hf182 (fun _ h9 => h9) rfl dX6_wants_28 ?_
      refine lv_iconst (v := 1) hx hb dX6_wants_31 (by decide) ?_
      refine lv_iadd hx hb dX6_wants_32 ?_
      refine va_put (D := E.1) (ci := 5) (v := .int ((u 0 6) + 1)) (ty := .int) (C := RX6) (T := TX6) (N := 16) hx hb hts hiX6 tyX6 tyX6_ok nmX6 hown hK.1 hP hD hS 0 rfl rfl 14 (by decide) hf182 (fun _ h9 => h9) rfl (by decide +kernel) rfl rfl (Nat.le_of_ble_eq_true rfl) dX6_wants_33 (fun H locs hP _ hS => ?_)
      have hP : va_P E.1 vwCl (wModx E b (u 0 0) (u 0 1) (u 0 2) (u 0 3) (u 0 4) (u 0 5) ((u 0 6) + 1) (u 0 6) (u 1) (u 2) (u 3) (u 4) (u 5) (u 6) (u 7) (u 8)) H := hP
      have hD := dMod (E := E) hj (u 0 0) (u 0 1) (u 0 2) (u 0 3) (u 0 4) (u 0 5) ((u 0 6) + 1) (u 0 6) (u 1) (u 2) (u 3) (u 4) (u 5) (u 6) (u 7) (u 8)
      subst R
      exact W.vret hx hb hr (fun t ht hW => ⟨rfl, by rw [ht]; exact hP, hS.F ht⟩) hS.2.2 dX6_wants_36
    · replace hE := hE.trans (if_neg c_2)
      refine lv_bipush (v := (-6)) hx hb dX6_wants_14 (by decide) ?_
      refine lv_goto (tgt := 23) hx hb dX6_wants_16 (by decide) ?_
      refine va_put (D := E.1) (ci := 5) (v := .int (-6)) (ty := .int) (C := RX6) (T := TX6) (N := 16) hx hb hts hiX6 tyX6 tyX6_ok nmX6 hown hK.1 hP hD hS 0 rfl rfl 15 (by decide) hf185 (fun _ h9 => h9) rfl (by decide +kernel) rfl rfl (Nat.le_of_ble_eq_true rfl) dX6_wants_23 (fun H locs hP _ hS => ?_)
      have hP : va_P E.1 vwCl (wModx E b (u 0 0) (u 0 1) (u 0 2) (u 0 3) (u 0 4) (u 0 5) (u 0 6) (-6) (u 1) (u 2) (u 3) (u 4) (u 5) (u 6) (u 7) (u 8)) H := hP
      have hD := dMod (E := E) hj (u 0 0) (u 0 1) (u 0 2) (u 0 3) (u 0 4) (u 0 5) (u 0 6) (-6) (u 1) (u 2) (u 3) (u 4) (u 5) (u 6) (u 7) (u 8)
      refine lv_aload_n hx hb dX6_wants_26 rfl (lv_at hl 0 rfl) ?_
      refine lv_dup hx hb dX6_wants_27 rfl ?_
      refine va_get (D := E.1) (ci := 5) (v := .int (u 0 6)) (C := RX6) (T := TX6) (N := 16) hx hb hts hiX6 hown hK.1 hP 0 rfl rfl 14 (by decide) hf182 (fun _ h9 => h9) rfl dX6_wants_28 ?_
      refine lv_iconst (v := 1) hx hb dX6_wants_31 (by decide) ?_
      refine lv_iadd hx hb dX6_wants_32 ?_
      refine va_put (D := E.1) (ci := 5) (v := .int ((u 0 6) + 1)) (ty := .int) (C := RX6) (T := TX6) (N := 16) hx hb hts hiX6 tyX6 tyX6_ok nmX6 hown hK.1 hP hD hS 0 rfl rfl 14 (by decide) hf182 (fun _ h9 => h9) rfl (by decide +kernel) rfl rfl (Nat.le_of_ble_eq_true rfl) dX6_wants_33 (fun H locs hP _ hS => ?_)
      have hP : va_P E.1 vwCl (wModx E b (u 0 0) (u 0 1) (u 0 2) (u 0 3) (u 0 4) (u 0 5) ((u 0 6) + 1) (-6) (u 1) (u 2) (u 3) (u 4) (u 5) (u 6) (u 7) (u 8)) H := hP
      have hD := dMod (E := E) hj (u 0 0) (u 0 1) (u 0 2) (u 0 3) (u 0 4) (u 0 5) ((u 0 6) + 1) (-6) (u 1) (u 2) (u 3) (u 4) (u 5) (u 6) (u 7) (u 8)
      subst R
      exact W.vret hx hb hr (fun t ht hW => ⟨rfl, by rw [ht]; exact hP, hS.F ht⟩) hS.2.2 dX6_wants_36
/-! the reference's reader: the pad's length, where it stands, what is wrong -/
def qB (ty sp wr : Int32) (lo : Nat) : Prop := ∃ n k : Nat, n ≤ 80 ∧ ty = nI n ∧ sp = nI k ∧ k ≤ n + 1 ∧ (wr = (-6) → lo ≤ k ∧ k ≤ n)
def qLt (ty sp : Int32) : Prop := ∃ n k : Nat, n ≤ 80 ∧ k < n ∧ ty = nI n ∧ sp = nI k
theorem qB.weak {ty sp wr : Int32} {a b : Nat} (h : qB ty sp wr a) (hab : b ≤ a) : qB ty sp wr b := by
  obtain ⟨n, k, h1, h2, h3, h4, h5⟩ := h
  exact ⟨n, k, h1, h2, h3, h4, fun q => ⟨Nat.le_trans hab (h5 q).1, (h5 q).2⟩⟩
theorem qB.lt {ty sp wr : Int32} {a : Nat} (h : qB ty sp wr a) (c : ¬ ty ≤ sp) : qLt ty sp := by
  obtain ⟨n, k, h1, rfl, rfl, h4, h5⟩ := h
  refine ⟨n, k, h1, ?_, rfl, rfl⟩
  rcases Nat.lt_or_ge k n with q | q
  · exact q
  · exact absurd (nI_le q (by omega)) c
theorem qLt.in80 {ty sp : Int32} (h : qLt ty sp) : vp_in sp 80 := by
  obtain ⟨n, k, h1, h2, h3, rfl⟩ := h
  exact vp_in_nI (by omega) (by omega)
theorem letter_lt {u : kG} {a : Nat} (h : qB (u 0 1) (u 0 6) (u 0 7) a) (c : ¬ mX6_letter u = (-6)) : qLt (u 0 1) (u 0 6) := by
  apply h.lt
  intro q
  apply c
  unfold mX6_letter
  rw [if_pos q]
theorem wants_q {u : kG} {st : Int32} {a : Nat} (h : qB (u 0 1) (u 0 6) (u 0 7) a) (hs : ¬ st = 0 → qLt (u 0 1) (u 0 6)) : qB (u 0 1) (mX6_wants u st).1 (mX6_wants u st).2 (a + 1) := by
  have h0 := h
  obtain ⟨n, k, h1, h2, h3, h4, h5⟩ := h
  rw [mX6_wants_s]
  by_cases c : (u 0 7) = (-6)
  · obtain ⟨h6, h7⟩ := h5 c
    rw [if_pos c]
    by_cases d : st = 0
    · rw [if_pos d]
      refine ⟨n, k + 1, h1, h2, ?_, by omega, fun q => ?_⟩
      · show u 0 6 + 1 = _; rw [h3]; exact nI_1 k
      · exfalso
        have q2 : u 0 6 = (-6) := q
        rw [h3] at q2
        exact absurd (by rw [q2]; decide : nI k < 0) (nI_pos (by omega))
    · rw [if_neg d]
      obtain ⟨n', k', g1, g2, g3, g4⟩ := hs d
      have e1 : n' = n := (nI_eq (by omega) (by omega)).mp (g3.symm.trans h2)
      have e2 : k' = k := (nI_eq (by omega) (by omega)).mp (g4.symm.trans h3)
      refine ⟨n, k + 1, h1, h2, ?_, by omega, fun q => by omega⟩
      show u 0 6 + 1 = _; rw [h3]; exact nI_1 k
  · rw [if_neg c]
    exact ⟨n, k, h1, h2, h3, h4, fun q => absurd q c⟩
theorem dig_lt {u : kG} {a : Nat} (h : qB (u 0 1) (u 0 6) (u 0 7) a) (c : ¬ mX6_in (mX6_letter u - 48) 0 9 = 0) : qLt (u 0 1) (u 0 6) := by
  apply letter_lt h
  intro q
  rw [q] at c
  exact c (by decide)
/-- reading a number: how far the reader can go -/
def qM (ty sp : Int32) (m : Nat) : Prop := ∃ n k : Nat, n ≤ 80 ∧ ty = nI n ∧ sp = nI k ∧ k ≤ n + 1 ∧ n + 1 < k + m
theorem qM.no {ty sp : Int32} (h : qM ty sp 0) : False := by
  obtain ⟨n, k, h1, h2, h3, h4, h5⟩ := h; omega
theorem qB.init {ty sp wr : Int32} {a : Nat} (h : qB ty sp wr a) : qM ty sp 83 := by
  obtain ⟨n, k, h1, h2, h3, h4, h5⟩ := h
  exact ⟨n, k, h1, h2, h3, h4, by omega⟩
theorem qM.step {ty sp : Int32} {m : Nat} (h : qM ty sp (m + 1)) (g : qLt ty sp) : qM ty (sp + 1) m := by
  obtain ⟨n, k, h1, h2, h3, h4, h5⟩ := h
  obtain ⟨n', k', g1, g2, g3, g4⟩ := g
  have e1 : n' = n := (nI_eq (by omega) (by omega)).mp (g3.symm.trans h2)
  have e2 : k' = k := (nI_eq (by omega) (by omega)).mp (g4.symm.trans h3)
  exact ⟨n, k + 1, h1, h2, by rw [h3]; exact nI_1 k, by omega, by omega⟩
theorem qB.step {ty sp wr : Int32} {a : Nat} (h : qB ty sp wr a) (g : qLt ty sp) : qB ty (sp + 1) wr a := by
  obtain ⟨n, k, h1, h2, h3, h4, h5⟩ := h
  obtain ⟨n', k', g1, g2, g3, g4⟩ := g
  have e1 : n' = n := (nI_eq (by omega) (by omega)).mp (g3.symm.trans h2)
  have e2 : k' = k := (nI_eq (by omega) (by omega)).mp (g4.symm.trans h3)
  exact ⟨n, k + 1, h1, h2, by rw [h3]; exact nI_1 k, by omega, fun q => by have := h5 q; omega⟩

theorem qB.s {ty sp wr : Int32} {a : Nat} (h : qB ty sp wr a) : qS ty sp := by
  obtain ⟨n, k, h1, h2, h3, h4, h5⟩ := h; exact ⟨n, k, h1, h4, h2, h3⟩
