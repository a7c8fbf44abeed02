def mX6_in (x1 : Int32) (x2 : Int32) (x3 : Int32) : Int32 :=
  if x1 < x2 then
    0
  else
    if x3 < x1 then
      0
    else
      1
theorem mX6_in_s {x1 : Int32} {x2 : Int32} {x3 : Int32} : mX6_in x1 x2 x3 = (
  if x1 < x2 then
    0
  else
    if x3 < x1 then
      0
    else
      1 : Int32) := rfl
set_option maxHeartbeats 400000 in
set_option maxRecDepth 100000 in
theorem c_X6_in (l : Launch) (E : kE) (x1 : Int32) (x2 : Int32) (x3 : Int32) (R : Int32) (hE : R = mX6_in x1 x2 x3) : Met l yX6_in wsX6_in ({ frames := 0, cells := 0, slots := 0, locals := 0 }) (kPre E [.int x1, .int x2, .int x3] []) (kRi R) 0 0 (fun _ => False) := by
  refine Met.ofW (cc := cX6_in) (maxL := 3) (ret := (some .boolean)) (by decide) rfl ?_
  intro p e s m args below meth c s₁ B hml hv
  obtain ⟨rfl, hK, hP⟩ := hv
  have hx := B.exec
  have hb := B.bytes
  have hr := B.returns
  have hts := atoms_spec (ws := wsX6_in) B.pre
  have hown : s.vm.findClass RX6 = some m.cls := findClass_of_methodNamed B.named
  have hlocks := B.notSynchronized
  have hl := lv_entry ([.int x1, .int x2, .int x3]) (n := 3) (Nat.le_of_ble_eq_true rfl)
  rw [lg_entry_eq]
  generalize (lg_sl ([.int x1, .int x2, .int x3]) ++ List.replicate (3 - (lg_sl ([.int x1, .int x2, .int x3])).length) Slot.unset).toArray = ls at hl ⊢
  have hl : lv_has ls 3 [(0, .int x1), (1, .int x2), (2, .int x3)] := hl
  replace hE := hE.trans mX6_in_s
  refine lv_iload_n hx hb dX6_in_0 rfl (lv_at hl 0 rfl) ?_
  refine lv_iload_n hx hb dX6_in_1 rfl (lv_at hl 1 rfl) ?_
  refine lv_icmp_lt (tgt := 14) hx hb dX6_in_2 (by decide) (fun c_1 => ?_) (fun c_1 => ?_)
  · replace hE := hE.trans (if_pos c_1)
    refine lv_iconst (v := 0) hx hb dX6_in_14 (by decide) ?_
    subst R
    exact W.zret (v := 0) (ty := .boolean) hx hb hr rfl (fun t ht hW => ⟨rfl, ht⟩) (fun _ h => by cases h) dX6_in_15
  · replace hE := hE.trans (if_neg c_1)
    refine lv_iload_n hx hb dX6_in_5 rfl (lv_at hl 0 rfl) ?_
    refine lv_iload_n hx hb dX6_in_6 rfl (lv_at hl 2 rfl) ?_
    refine lv_icmp_gt (tgt := 14) hx hb dX6_in_7 (by decide) (fun c_2 => ?_) (fun c_2 => ?_)
    · replace hE := hE.trans (if_pos c_2)
      refine lv_iconst (v := 0) hx hb dX6_in_14 (by decide) ?_
      subst R
      exact W.zret (v := 0) (ty := .boolean) hx hb hr rfl (fun t ht hW => ⟨rfl, ht⟩) (fun _ h => by cases h) dX6_in_15
    · replace hE := hE.trans (if_neg c_2)
      refine lv_iconst (v := 1) hx hb dX6_in_10 (by decide) ?_
      refine lv_goto (tgt := 15) hx hb dX6_in_11 (by decide) ?_
      subst R
      exact W.zret (v := 1) (ty := .boolean) hx hb hr rfl (fun t ht hW => ⟨rfl, ht⟩) (fun _ h => by cases h) dX6_in_15
theorem in_b (x y z : Int32) : mX6_in x y z = 0 ∨ mX6_in x y z = 1 := by
  unfold mX6_in
  split
  · exact Or.inl rfl
  · split
    · exact Or.inl rfl
    · exact Or.inr rfl
theorem in_bOK {x : Int32} {N : Nat} (hN : N < 2 ^ 31) (c : ¬ mX6_in x 0 (nI N) = 0) : bOK N x := by
  unfold mX6_in at c
  split at c
  · exact absurd rfl c
  · rename_i h
    split at c
    · exact absurd rfl c
    · rename_i h2
      obtain ⟨j, hj, rfl⟩ := nI_of h
      refine ⟨j, ?_, rfl⟩
      rcases Nat.lt_or_ge N j with q | q
      · exact absurd (nI_lt q hj) h2
      · exact q
theorem in_key {x : Int32} (c : ¬ mX6_in x 0 15 = 0) : yOK x := by
  obtain ⟨n, hn, rfl⟩ := in_bOK (N := 15) (by decide) c
  exact ⟨n, by omega, rfl⟩
def mX6_isKey (x1 : Int32) : Int32 :=
  (mX6_in x1 0 15)
theorem mX6_isKey_s {x1 : Int32} : mX6_isKey x1 = (
  (mX6_in x1 0 15) : Int32) := rfl
set_option maxHeartbeats 400000 in
set_option maxRecDepth 100000 in
theorem c_X6_isKey (l : Launch) (E : kE) (x1 : Int32) (R : Int32) (hE : R = mX6_isKey x1) : Met l yX6_isKey wsX6_isKey ({ frames := 1, cells := 0, slots := 0, locals := 22 }) (kPre E [.int x1] []) (kRi R) 0 0 (fun _ => False) := by
  refine Met.ofW (cc := cX6_isKey) (maxL := 1) (ret := (some .boolean)) (by decide) rfl ?_
  intro p e s m args below meth c s₁ B hml hv
  obtain ⟨rfl, hK, hP⟩ := hv
  have hx := B.exec
  have hb := B.bytes
  have hr := B.returns
  have hts := atoms_spec (ws := wsX6_isKey) B.pre
  have hown : s.vm.findClass RX6 = some m.cls := findClass_of_methodNamed B.named
  have hlocks := B.notSynchronized
  have hl := lv_entry ([.int x1]) (n := 1) (Nat.le_of_ble_eq_true rfl)
  rw [lg_entry_eq]
  generalize (lg_sl ([.int x1]) ++ List.replicate (1 - (lg_sl ([.int x1])).length) Slot.unset).toArray = ls at hl ⊢
  have hl : lv_has ls 1 [(0, .int x1)] := hl
  replace hE := hE.trans mX6_isKey_s
  refine lv_iload_n hx hb dX6_isKey_0 rfl (lv_at hl 0 rfl) ?_
  refine lv_iconst (v := 0) hx hb dX6_isKey_1 (by decide) ?_
  refine lv_bipush (v := 15) hx hb dX6_isKey_2 (by decide) ?_
  refine kCallRi (va_runS (As := [.int x1, .int 0, .int 15]) (rest := []) ⟨hx, hb, hml, hown, hts⟩ (c_X6_in l E x1 0 15 _ rfl) (va_cwS 3 hts gX6_isKey_X6_in rfl rfl rfl (by decide +kernel) ⟨Nat.le_of_ble_eq_true rfl, Nat.le_of_ble_eq_true rfl⟩) (kPreS hK hP) rfl rfl hl.1 rfl (lv_room (Nat.le_of_ble_eq_true rfl)) dX6_isKey_4 ⟨Nat.zero_le _, Nat.zero_le _⟩) ?_
  subst R
  exact W.zret (v := (mX6_in x1 0 15)) (ty := .boolean) hx hb hr (kbool (in_b _ _ _)) (fun t ht hW => ⟨rfl, ht⟩) (fun _ h => by cases h) dX6_isKey_7
def mX6_isTransaction (u : kG) (x1 : Int32) : Int32 :=
  if x1 < 0 then
    0
  else
    if ((u 1) 2) ≤ x1 then
      0
    else
      1
theorem mX6_isTransaction_s {u : kG} {x1 : Int32} : mX6_isTransaction u x1 = (
  if x1 < 0 then
    0
  else
    if ((u 1) 2) ≤ x1 then
      0
    else
      1 : Int32) := rfl
set_option maxHeartbeats 400000 in
set_option maxRecDepth 100000 in
theorem c_X6_isTransaction (l : Launch) (E : kE) (b : Nat → Nat) (u : kG) (x1 : Int32) (R : Int32) (hE : R = mX6_isTransaction u x1) : Met l yX6_isTransaction wsX6_isTransaction ({ frames := 0, cells := 0, slots := 0, locals := 0 }) (kPre E [.ref (b 0), .int x1] (wModx E b (u 0 0) (u 0 1) (u 0 2) (u 0 3) (u 0 4) (u 0 5) (u 0 6) (u 0 7) (u 1) (u 2) (u 3) (u 4) (u 5) (u 6) (u 7) (u 8))) (kRi R) 0 0 (fun _ => False) := by
  refine Met.ofW (cc := cX6_isTransaction) (maxL := 2) (ret := (some .boolean)) (by decide) rfl ?_
  intro p e s m args below meth c s₁ B hml hv
  obtain ⟨rfl, hK, hP⟩ := hv
  have hx := B.exec
  have hb := B.bytes
  have hr := B.returns
  have hts := atoms_spec (ws := wsX6_isTransaction) B.pre
  have hown : s.vm.findClass RX6 = some m.cls := findClass_of_methodNamed B.named
  have hlocks := B.notSynchronized
  have hiX6 : ∀ w ∈ wsX60, w ∈ wsX6_isTransaction := by decide +kernel
  have hf7 := hts (.fieldLink RX6 7 "SkewEdgesModel" "z" "[I") (by decide +kernel)
  have hP : va_P E.1 vwCl (wModx E b (u 0 0) (u 0 1) (u 0 2) (u 0 3) (u 0 4) (u 0 5) (u 0 6) (u 0 7) (u 1) (u 2) (u 3) (u 4) (u 5) (u 6) (u 7) (u 8)) s.heap := hP
  have hl := lv_entry ([.ref (b 0), .int x1]) (n := 2) (Nat.le_of_ble_eq_true rfl)
  rw [lg_entry_eq]
  generalize (lg_sl ([.ref (b 0), .int x1]) ++ List.replicate (2 - (lg_sl ([.ref (b 0), .int x1])).length) Slot.unset).toArray = ls at hl ⊢
  have hl : lv_has ls 2 [(0, .ref (b 0)), (1, .int x1)] := hl
  replace hE := hE.trans mX6_isTransaction_s
  refine lv_iload_n hx hb dX6_isTransaction_0 rfl (lv_at hl 1 rfl) ?_
  refine lv_if_lt (tgt := 18) hx hb dX6_isTransaction_1 (by decide) (fun c_1 => ?_) (fun c_1 => ?_)
  · replace hE := hE.trans (if_pos c_1)
    refine lv_iconst (v := 0) hx hb dX6_isTransaction_18 (by decide) ?_
    subst R
    exact W.zret (v := 0) (ty := .boolean) hx hb hr rfl (fun t ht hW => ⟨rfl, ht⟩) (fun _ h => by cases h) dX6_isTransaction_19
  · replace hE := hE.trans (if_neg c_1)
    refine lv_iload_n hx hb dX6_isTransaction_4 rfl (lv_at hl 1 rfl) ?_
    refine lv_aload_n hx hb dX6_isTransaction_5 rfl (lv_at hl 0 rfl) ?_
    refine va_get (D := E.1) (ci := 5) (v := .ref (b 1)) (C := RX6) (T := TX6) (N := 16) hx hb hts hiX6 hown hK.1 hP 0 rfl rfl 0 (by decide) hf7 (fun _ h9 => h9) rfl dX6_isTransaction_6 ?_
    refine lv_iconst (v := 2) hx hb dX6_isTransaction_9 (by decide) ?_
    refine va_iald (D := E.1) hx hb hK.1 hP 1 0 rfl rfl (vp_in_nI (n := 2) (by decide) (by decide)) dX6_isTransaction_10 ?_
    refine W.eq (g2 := F0 m 11 ls [.int ((u 1) 2), .int x1]) rfl ?_
    refine lv_icmp_ge (tgt := 18) hx hb dX6_isTransaction_11 (by decide) (fun c_2 => ?_) (fun c_2 => ?_)
    · replace hE := hE.trans (if_pos c_2)
      refine lv_iconst (v := 0) hx hb dX6_isTransaction_18 (by decide) ?_
      subst R
      exact W.zret (v := 0) (ty := .boolean) hx hb hr rfl (fun t ht hW => ⟨rfl, ht⟩) (fun _ h => by cases h) dX6_isTransaction_19
    · replace hE := hE.trans (if_neg c_2)
      refine lv_iconst (v := 1) hx hb dX6_isTransaction_14 (by decide) ?_
      refine lv_goto (tgt := 19) hx hb dX6_isTransaction_15 (by decide) ?_
      subst R
      exact W.zret (v := 1) (ty := .boolean) hx hb hr rfl (fun t ht hW => ⟨rfl, ht⟩) (fun _ h => by cases h) dX6_isTransaction_19
theorem isTr_ok {u : kG} {t : Int32} (h : nOK (u 1 2)) (c : ¬ mX6_isTransaction u t = 0) : tOK t := by
  unfold mX6_isTransaction at c
  split at c
  · exact absurd rfl c
  · rename_i h0
    split at c
    · exact absurd rfl c
    · rename_i h2
      exact nOK.t h h0 h2
def mX6_its (u : kG) (x1 : Int32) (x2 : Int32) : Int32 :=
  ((u 1) (((3 + (23 * x1)) + x2)).toNatClampNeg)
theorem mX6_its_s {u : kG} {x1 : Int32} {x2 : Int32} : mX6_its u x1 x2 = (
  ((u 1) (((3 + (23 * x1)) + x2)).toNatClampNeg) : Int32) := rfl
set_option maxHeartbeats 400000 in
set_option maxRecDepth 100000 in
theorem c_X6_its (l : Launch) (E : kE) (b : Nat → Nat) (u : kG) (x1 : Int32) (x2 : Int32) (ht : tOK x1) (hw : wOK x2) (R : Int32) (hE : R = mX6_its u x1 x2) : Met l yX6_its wsX6_its ({ frames := 0, cells := 0, slots := 0, locals := 0 }) (kPre E [.ref (b 0), .int x1, .int x2] (wModx E b (u 0 0) (u 0 1) (u 0 2) (u 0 3) (u 0 4) (u 0 5) (u 0 6) (u 0 7) (u 1) (u 2) (u 3) (u 4) (u 5) (u 6) (u 7) (u 8))) (kRi R) 0 0 (fun _ => False) := by
  refine Met.ofW (cc := cX6_its) (maxL := 3) (ret := (some .int)) (by decide) rfl ?_
  intro p e s m args below meth c s₁ B hml hv
  obtain ⟨rfl, hK, hP⟩ := hv
  have hx := B.exec
  have hb := B.bytes
  have hr := B.returns
  have hts := atoms_spec (ws := wsX6_its) B.pre
  have hown : s.vm.findClass RX6 = some m.cls := findClass_of_methodNamed B.named
  have hlocks := B.notSynchronized
  have hiX6 : ∀ w ∈ wsX60, w ∈ wsX6_its := by decide +kernel
  have hf7 := hts (.fieldLink RX6 7 "SkewEdgesModel" "z" "[I") (by decide +kernel)
  have hP : va_P E.1 vwCl (wModx E b (u 0 0) (u 0 1) (u 0 2) (u 0 3) (u 0 4) (u 0 5) (u 0 6) (u 0 7) (u 1) (u 2) (u 3) (u 4) (u 5) (u 6) (u 7) (u 8)) s.heap := hP
  have hl := lv_entry ([.ref (b 0), .int x1, .int x2]) (n := 3) (Nat.le_of_ble_eq_true rfl)
  rw [lg_entry_eq]
  generalize (lg_sl ([.ref (b 0), .int x1, .int x2]) ++ List.replicate (3 - (lg_sl ([.ref (b 0), .int x1, .int x2])).length) Slot.unset).toArray = ls at hl ⊢
  have hl : lv_has ls 3 [(0, .ref (b 0)), (1, .int x1), (2, .int x2)] := hl
  replace hE := hE.trans mX6_its_s
  refine lv_aload_n hx hb dX6_its_0 rfl (lv_at hl 0 rfl) ?_
  refine va_get (D := E.1) (ci := 5) (v := .ref (b 1)) (C := RX6) (T := TX6) (N := 16) hx hb hts hiX6 hown hK.1 hP 0 rfl rfl 0 (by decide) hf7 (fun _ h9 => h9) rfl dX6_its_1 ?_
  refine lv_iconst (v := 3) hx hb dX6_its_4 (by decide) ?_
  refine lv_bipush (v := 23) hx hb dX6_its_5 (by decide) ?_
  refine lv_iload_n hx hb dX6_its_7 rfl (lv_at hl 1 rfl) ?_
  refine lv_imul hx hb dX6_its_8 ?_
  refine lv_iadd hx hb dX6_its_9 ?_
  refine lv_iload_n hx hb dX6_its_10 rfl (lv_at hl 2 rfl) ?_
  refine lv_iadd hx hb dX6_its_11 ?_
  refine va_iald (D := E.1) hx hb hK.1 hP 1 0 rfl rfl (itsIn ht hw) dX6_its_12 ?_
  subst R
  exact W.iret (v := ((u 1) (((3 + (23 * x1)) + x2)).toNatClampNeg)) hx hb hr (fun t ht hW => ⟨rfl, ht⟩) (fun _ h => by cases h) dX6_its_13
def mX6_lay (u : kG) (x1 : Int32) (x2 : Int32) (x3 : Int32) : (Nat → Int32) :=
  (upd (u 1) (((3 + (23 * x1)) + x2)).toNatClampNeg x3)
theorem mX6_lay_s {u : kG} {x1 : Int32} {x2 : Int32} {x3 : Int32} : mX6_lay u x1 x2 x3 = (
  (upd (u 1) (((3 + (23 * x1)) + x2)).toNatClampNeg x3) : (Nat → Int32)) := rfl
set_option maxHeartbeats 400000 in
set_option maxRecDepth 100000 in
theorem c_X6_lay (l : Launch) (E : kE) (b : Nat → Nat) (u : kG) (hj : kInj b 9) (x1 : Int32) (x2 : Int32) (x3 : Int32) (ht : tOK x1) (hw : wOK x2) (R : (Nat → Int32)) (hE : R = mX6_lay u x1 x2 x3) : Met l yX6_lay wsX6_lay ({ frames := 0, cells := 0, slots := 0, locals := 0 }) (kPre E [.ref (b 0), .int x1, .int x2, .int x3] (wModx E b (u 0 0) (u 0 1) (u 0 2) (u 0 3) (u 0 4) (u 0 5) (u 0 6) (u 0 7) (u 1) (u 2) (u 3) (u 4) (u 5) (u 6) (u 7) (u 8))) (kWv E (wModx E b (u 0 0) (u 0 1) (u 0 2) (u 0 3) (u 0 4) (u 0 5) (u 0 6) (u 0 7) R (u 2) (u 3) (u 4) (u 5) (u 6) (u 7) (u 8)) (kA b 9)) 0 0 (kA b 9) := by
  refine Met.ofW (cc := cX6_lay) (maxL := 4) (ret := none) (by decide) rfl ?_
  intro p e s m args below meth c s₁ B hml hv
  obtain ⟨rfl, hK, hP⟩ := hv
  have hx := B.exec
  have hb := B.bytes
  have hr := B.returns
  have hts := atoms_spec (ws := wsX6_lay) B.pre
  have hown : s.vm.findClass RX6 = some m.cls := findClass_of_methodNamed B.named
  have hlocks := B.notSynchronized
  have hiX6 : ∀ w ∈ wsX60, w ∈ wsX6_lay := by decide +kernel
  have hf7 := hts (.fieldLink RX6 7 "SkewEdgesModel" "z" "[I") (by decide +kernel)
  have hS : va_S (kA b 9) s.heap s.heap [] := va_S.rf
  have hP : va_P E.1 vwCl (wModx E b (u 0 0) (u 0 1) (u 0 2) (u 0 3) (u 0 4) (u 0 5) (u 0 6) (u 0 7) (u 1) (u 2) (u 3) (u 4) (u 5) (u 6) (u 7) (u 8)) s.heap := hP
  have hD := dMod (E := E) hj (u 0 0) (u 0 1) (u 0 2) (u 0 3) (u 0 4) (u 0 5) (u 0 6) (u 0 7) (u 1) (u 2) (u 3) (u 4) (u 5) (u 6) (u 7) (u 8)
  have hl := lv_entry ([.ref (b 0), .int x1, .int x2, .int x3]) (n := 4) (Nat.le_of_ble_eq_true rfl)
  rw [lg_entry_eq]
  generalize (lg_sl ([.ref (b 0), .int x1, .int x2, .int x3]) ++ List.replicate (4 - (lg_sl ([.ref (b 0), .int x1, .int x2, .int x3])).length) Slot.unset).toArray = ls at hl ⊢
  have hl : lv_has ls 4 [(0, .ref (b 0)), (1, .int x1), (2, .int x2), (3, .int x3)] := hl
  replace hE := hE.trans mX6_lay_s
  refine lv_aload_n hx hb dX6_lay_0 rfl (lv_at hl 0 rfl) ?_
  refine va_get (D := E.1) (ci := 5) (v := .ref (b 1)) (C := RX6) (T := TX6) (N := 16) hx hb hts hiX6 hown hK.1 hP 0 rfl rfl 0 (by decide) hf7 (fun _ h9 => h9) rfl dX6_lay_1 ?_
  refine lv_iconst (v := 3) hx hb dX6_lay_4 (by decide) ?_
  refine lv_bipush (v := 23) hx hb dX6_lay_5 (by decide) ?_
  refine lv_iload_n hx hb dX6_lay_7 rfl (lv_at hl 1 rfl) ?_
  refine lv_imul hx hb dX6_lay_8 ?_
  refine lv_iadd hx hb dX6_lay_9 ?_
  refine lv_iload_n hx hb dX6_lay_10 rfl (lv_at hl 2 rfl) ?_
  refine lv_iadd hx hb dX6_lay_11 ?_
  refine lv_iload_n hx hb dX6_lay_12 rfl (lv_at hl 3 rfl) ?_
  refine va_iast (D := E.1) hx hb hK.1 hP hD hS 1 0 rfl rfl (itsIn ht hw) dX6_lay_13 (fun H locs hP _ hS => ?_)
  have hP : va_P E.1 vwCl (wModx E b (u 0 0) (u 0 1) (u 0 2) (u 0 3) (u 0 4) (u 0 5) (u 0 6) (u 0 7) (upd (u 1) (((3 + (23 * x1)) + x2)).toNatClampNeg x3) (u 2) (u 3) (u 4) (u 5) (u 6) (u 7) (u 8)) H := hP
  have hD := dMod (E := E) hj (u 0 0) (u 0 1) (u 0 2) (u 0 3) (u 0 4) (u 0 5) (u 0 6) (u 0 7) (upd (u 1) (((3 + (23 * x1)) + x2)).toNatClampNeg x3) (u 2) (u 3) (u 4) (u 5) (u 6) (u 7) (u 8)
  subst R
  exact W.vret hx hb hr (fun t ht hW => ⟨rfl, by rw [ht]; exact hP, hS.F ht⟩) hS.2.2 dX6_lay_14
theorem lay_lo {u : kG} {t w x : Int32} (ht : tOK t) (hw : wOK w) (j : Nat) (hj : j < 3) : mX6_lay u t w x j = u 1 j := by
  obtain ⟨i, hi, rfl⟩ := ht
  obtain ⟨k, hk, rfl⟩ := hw
  show upd (u 1) _ x j = u 1 j
  rw [itsNat hi hk]
  exact pk_un (by omega)
def mX6_isIn (u : kG) (x1 : Int32) (x2 : Int32) : Int32 :=
  if (mX6_its u x1 0) = x2 then
    1
  else
    0
theorem mX6_isIn_s {u : kG} {x1 : Int32} {x2 : Int32} : mX6_isIn u x1 x2 = (
  if (mX6_its u x1 0) = x2 then
    1
  else
    0 : Int32) := rfl
set_option maxHeartbeats 400000 in
set_option maxRecDepth 100000 in
theorem c_X6_isIn (l : Launch) (E : kE) (b : Nat → Nat) (u : kG) (x1 : Int32) (x2 : Int32) (ht : tOK x1) (R : Int32) (hE : R = mX6_isIn u x1 x2) : Met l yX6_isIn wsX6_isIn ({ frames := 1, cells := 0, slots := 0, locals := 22 }) (kPre E [.ref (b 0), .int x1, .int x2] (wModx E b (u 0 0) (u 0 1) (u 0 2) (u 0 3) (u 0 4) (u 0 5) (u 0 6) (u 0 7) (u 1) (u 2) (u 3) (u 4) (u 5) (u 6) (u 7) (u 8))) (kRi R) 0 0 (fun _ => False) := by
  refine Met.ofW (cc := cX6_isIn) (maxL := 3) (ret := (some .boolean)) (by decide) rfl ?_
  intro p e s m args below meth c s₁ B hml hv
  obtain ⟨rfl, hK, hP⟩ := hv
  have hx := B.exec
  have hb := B.bytes
  have hr := B.returns
  have hts := atoms_spec (ws := wsX6_isIn) B.pre
  have hown : s.vm.findClass RX6 = some m.cls := findClass_of_methodNamed B.named
  have hlocks := B.notSynchronized
  have hP : va_P E.1 vwCl (wModx E b (u 0 0) (u 0 1) (u 0 2) (u 0 3) (u 0 4) (u 0 5) (u 0 6) (u 0 7) (u 1) (u 2) (u 3) (u 4) (u 5) (u 6) (u 7) (u 8)) s.heap := hP
  have hl := lv_entry ([.ref (b 0), .int x1, .int x2]) (n := 3) (Nat.le_of_ble_eq_true rfl)
  rw [lg_entry_eq]
  generalize (lg_sl ([.ref (b 0), .int x1, .int x2]) ++ List.replicate (3 - (lg_sl ([.ref (b 0), .int x1, .int x2])).length) Slot.unset).toArray = ls at hl ⊢
  have hl : lv_has ls 3 [(0, .ref (b 0)), (1, .int x1), (2, .int x2)] := hl
  replace hE := hE.trans mX6_isIn_s
  refine lv_aload_n hx hb dX6_isIn_0 rfl (lv_at hl 0 rfl) ?_
  refine lv_iload_n hx hb dX6_isIn_1 rfl (lv_at hl 1 rfl) ?_
  refine lv_iconst (v := 0) hx hb dX6_isIn_2 (by decide) ?_
  refine kCallRi (va_runV (As := [.int x1, .int 0]) (rest := []) ⟨hx, hb, hml, hown, hts⟩ (c_X6_its l E b u x1 0 (by assumption) ⟨0, by decide, rfl⟩ _ rfl) (cwV 2 hts gX6_isIn_X6_its rfl rfl rfl (by decide +kernel) ⟨Nat.le_of_ble_eq_true rfl, Nat.le_of_ble_eq_true rfl⟩) (kPreV hK hP hP (q0 := 0) rfl rfl) rfl rfl hl.1 rfl (lv_room (Nat.le_of_ble_eq_true rfl)) dX6_isIn_3 ⟨Nat.zero_le _, Nat.zero_le _⟩) ?_
  refine lv_iload_n hx hb dX6_isIn_6 rfl (lv_at hl 2 rfl) ?_
  refine lv_icmp_ne (tgt := 14) hx hb dX6_isIn_7 (by decide) (fun c_1 => ?_) (fun c_1 => ?_)
  · replace hE := hE.trans (if_neg c_1)
    refine lv_iconst (v := 0) hx hb dX6_isIn_14 (by decide) ?_
    subst R
    exact W.zret (v := 0) (ty := .boolean) hx hb hr rfl (fun t ht hW => ⟨rfl, ht⟩) (fun _ h => by cases h) dX6_isIn_15
  · replace hE := hE.trans (if_pos c_1)
    refine lv_iconst (v := 1) hx hb dX6_isIn_10 (by decide) ?_
    refine lv_goto (tgt := 15) hx hb dX6_isIn_11 (by decide) ?_
    subst R
    exact W.zret (v := 1) (ty := .boolean) hx hb hr rfl (fun t ht hW => ⟨rfl, ht⟩) (fun _ h => by cases h) dX6_isIn_15
def mX6_wrote (u : kG) (x1 : Int32) (x2 : Int32) : Int32 :=
  if (((mX6_its u x1 4) >>> (x2 &&& 31)) &&& 1) = 1 then
    1
  else
    0
theorem mX6_wrote_s {u : kG} {x1 : Int32} {x2 : Int32} : mX6_wrote u x1 x2 = (
  if (((mX6_its u x1 4) >>> (x2 &&& 31)) &&& 1) = 1 then
    1
  else
    0 : Int32) := rfl
set_option maxHeartbeats 400000 in
set_option maxRecDepth 100000 in
theorem c_X6_wrote (l : Launch) (E : kE) (b : Nat → Nat) (u : kG) (x1 : Int32) (x2 : Int32) (ht : tOK x1) (R : Int32) (hE : R = mX6_wrote u x1 x2) : Met l yX6_wrote wsX6_wrote ({ frames := 1, cells := 0, slots := 0, locals := 22 }) (kPre E [.ref (b 0), .int x1, .int x2] (wModx E b (u 0 0) (u 0 1) (u 0 2) (u 0 3) (u 0 4) (u 0 5) (u 0 6) (u 0 7) (u 1) (u 2) (u 3) (u 4) (u 5) (u 6) (u 7) (u 8))) (kRi R) 0 0 (fun _ => False) := by
  refine Met.ofW (cc := cX6_wrote) (maxL := 3) (ret := (some .boolean)) (by decide) rfl ?_
  intro p e s m args below meth c s₁ B hml hv
  obtain ⟨rfl, hK, hP⟩ := hv
  have hx := B.exec
  have hb := B.bytes
  have hr := B.returns
  have hts := atoms_spec (ws := wsX6_wrote) B.pre
  have hown : s.vm.findClass RX6 = some m.cls := findClass_of_methodNamed B.named
  have hlocks := B.notSynchronized
  have hP : va_P E.1 vwCl (wModx E b (u 0 0) (u 0 1) (u 0 2) (u 0 3) (u 0 4) (u 0 5) (u 0 6) (u 0 7) (u 1) (u 2) (u 3) (u 4) (u 5) (u 6) (u 7) (u 8)) s.heap := hP
  have hl := lv_entry ([.ref (b 0), .int x1, .int x2]) (n := 3) (Nat.le_of_ble_eq_true rfl)
  rw [lg_entry_eq]
  generalize (lg_sl ([.ref (b 0), .int x1, .int x2]) ++ List.replicate (3 - (lg_sl ([.ref (b 0), .int x1, .int x2])).length) Slot.unset).toArray = ls at hl ⊢
  have hl : lv_has ls 3 [(0, .ref (b 0)), (1, .int x1), (2, .int x2)] := hl
  replace hE := hE.trans mX6_wrote_s
  refine lv_aload_n hx hb dX6_wrote_0 rfl (lv_at hl 0 rfl) ?_
  refine lv_iload_n hx hb dX6_wrote_1 rfl (lv_at hl 1 rfl) ?_
  refine lv_iconst (v := 4) hx hb dX6_wrote_2 (by decide) ?_
  refine kCallRi (va_runV (As := [.int x1, .int 4]) (rest := []) ⟨hx, hb, hml, hown, hts⟩ (c_X6_its l E b u x1 4 (by assumption) ⟨4, by decide, rfl⟩ _ rfl) (cwV 2 hts gX6_wrote_X6_its rfl rfl rfl (by decide +kernel) ⟨Nat.le_of_ble_eq_true rfl, Nat.le_of_ble_eq_true rfl⟩) (kPreV hK hP hP (q0 := 0) rfl rfl) rfl rfl hl.1 rfl (lv_room (Nat.le_of_ble_eq_true rfl)) dX6_wrote_3 ⟨Nat.zero_le _, Nat.zero_le _⟩) ?_
  refine lv_iload_n hx hb dX6_wrote_6 rfl (lv_at hl 2 rfl) ?_
  refine lv_ishr hx hb dX6_wrote_7 ?_
  refine lv_iconst (v := 1) hx hb dX6_wrote_8 (by decide) ?_
  refine lv_iand hx hb dX6_wrote_9 ?_
  refine lv_iconst (v := 1) hx hb dX6_wrote_10 (by decide) ?_
  refine lv_icmp_ne (tgt := 18) hx hb dX6_wrote_11 (by decide) (fun c_1 => ?_) (fun c_1 => ?_)
  · replace hE := hE.trans (if_neg c_1)
    refine lv_iconst (v := 0) hx hb dX6_wrote_18 (by decide) ?_
    subst R
    exact W.zret (v := 0) (ty := .boolean) hx hb hr rfl (fun t ht hW => ⟨rfl, ht⟩) (fun _ h => by cases h) dX6_wrote_19
  · replace hE := hE.trans (if_pos c_1)
    refine lv_iconst (v := 1) hx hb dX6_wrote_14 (by decide) ?_
    refine lv_goto (tgt := 19) hx hb dX6_wrote_15 (by decide) ?_
    subst R
    exact W.zret (v := 1) (ty := .boolean) hx hb hr rfl (fun t ht hW => ⟨rfl, ht⟩) (fun _ h => by cases h) dX6_wrote_19
def mX6_record_L52 (u : kG) : Nat → Nat → (Nat → Int32) → Int32 → (Int32 × (Nat → Int32))
  | 0, _, _, _ => (0, (fun _ => 0))
  | n52 + 1, i52, f52_0_2, q52_0_0 =>
    if 279 ≤ (nI i52) then
      ((q52_0_0 + 1), f52_0_2)
    else
      mX6_record_L52 u n52 (i52 + 1) (upd f52_0_2 (((q52_0_0 * 279) + (nI i52))).toNatClampNeg ((u 1) ((nI i52)).toNatClampNeg)) q52_0_0
theorem mX6_record_L52_s {u : kG} {n52 : Nat} {i52 : Nat} {f52_0_2 : (Nat → Int32)} {q52_0_0 : Int32} : mX6_record_L52 u (n52 + 1) i52 f52_0_2 q52_0_0 = (
    if 279 ≤ (nI i52) then
      ((q52_0_0 + 1), f52_0_2)
    else
      mX6_record_L52 u n52 (i52 + 1) (upd f52_0_2 (((q52_0_0 * 279) + (nI i52))).toNatClampNeg ((u 1) ((nI i52)).toNatClampNeg)) q52_0_0 : Int32 × (Nat → Int32)) := rfl
def mX6_record_L11 (u : kG) : Nat → Nat → (Nat → Int32) → (Int32 × (Nat → Int32))
  | 0, _, _ => (0, (fun _ => 0))
  | n11 + 1, i11, f11_0_2 =>
    if 1395 ≤ (nI i11) then
      mX6_record_L52 u 280 0 f11_0_2 ((u 0 0) - 1)
    else
      mX6_record_L11 u n11 (i11 + 1) (upd f11_0_2 ((nI i11)).toNatClampNeg (f11_0_2 (((nI i11) + 279)).toNatClampNeg))
theorem mX6_record_L11_s {u : kG} {n11 : Nat} {i11 : Nat} {f11_0_2 : (Nat → Int32)} : mX6_record_L11 u (n11 + 1) i11 f11_0_2 = (
    if 1395 ≤ (nI i11) then
      mX6_record_L52 u 280 0 f11_0_2 ((u 0 0) - 1)
    else
      mX6_record_L11 u n11 (i11 + 1) (upd f11_0_2 ((nI i11)).toNatClampNeg (f11_0_2 (((nI i11) + 279)).toNatClampNeg)) : Int32 × (Nat → Int32)) := rfl
def mX6_record (u : kG) : Int32 × (Nat → Int32) :=
  if (u 0 0) = 6 then
    mX6_record_L11 u 1396 0 (u 2)
  else
    mX6_record_L52 u 280 0 (u 2) (u 0 0)
theorem mX6_record_s {u : kG} : mX6_record u = (
  if (u 0 0) = 6 then
    mX6_record_L11 u 1396 0 (u 2)
  else
    mX6_record_L52 u 280 0 (u 2) (u 0 0) : Int32 × (Nat → Int32)) := rfl
set_option maxHeartbeats 400000 in
set_option maxRecDepth 100000 in
theorem c_X6_record (l : Launch) (E : kE) (b : Nat → Nat) (u : kG) (hj : kInj b 9) (hpm : bOK 6 (u 0 0)) (R : Int32 × (Nat → Int32)) (hE : R = mX6_record u) : Met l yX6_record wsX6_record ({ frames := 0, cells := 0, slots := 0, locals := 0 }) (kPre E [.ref (b 0)] (wModx E b (u 0 0) (u 0 1) (u 0 2) (u 0 3) (u 0 4) (u 0 5) (u 0 6) (u 0 7) (u 1) (u 2) (u 3) (u 4) (u 5) (u 6) (u 7) (u 8))) (kWv E (wModx E b R.1 (u 0 1) (u 0 2) (u 0 3) (u 0 4) (u 0 5) (u 0 6) (u 0 7) (u 1) R.2 (u 3) (u 4) (u 5) (u 6) (u 7) (u 8)) (kA b 9)) 0 0 (kA b 9) := by
  refine Met.ofW (cc := cX6_record) (maxL := 2) (ret := none) (by decide) rfl ?_
  intro p e s m args below meth c s₁ B hml hv
  obtain ⟨rfl, hK, hP⟩ := hv
  have hx := B.exec
  have hb := B.bytes
  have hr := B.returns
  have hts := atoms_spec (ws := wsX6_record) B.pre
  have hown : s.vm.findClass RX6 = some m.cls := findClass_of_methodNamed B.named
  have hlocks := B.notSynchronized
  have hiX6 : ∀ w ∈ wsX60, w ∈ wsX6_record := by decide +kernel
  have hf7 := hts (.fieldLink RX6 7 "SkewEdgesModel" "z" "[I") (by decide +kernel)
  have hf13 := hts (.fieldLink RX6 13 "SkewEdgesModel" "past" "[I") (by decide +kernel)
  have hf44 := hts (.fieldLink RX6 44 "SkewEdgesModel" "pastMany" "I") (by decide +kernel)
  have hS : va_S (kA b 9) s.heap s.heap [] := va_S.rf
  have hP : va_P E.1 vwCl (wModx E b (u 0 0) (u 0 1) (u 0 2) (u 0 3) (u 0 4) (u 0 5) (u 0 6) (u 0 7) (u 1) (u 2) (u 3) (u 4) (u 5) (u 6) (u 7) (u 8)) s.heap := hP
  have hD := dMod (E := E) hj (u 0 0) (u 0 1) (u 0 2) (u 0 3) (u 0 4) (u 0 5) (u 0 6) (u 0 7) (u 1) (u 2) (u 3) (u 4) (u 5) (u 6) (u 7) (u 8)
  have hl := lv_entry ([.ref (b 0)]) (n := 2) (Nat.le_of_ble_eq_true rfl)
  rw [lg_entry_eq]
  generalize (lg_sl ([.ref (b 0)]) ++ List.replicate (2 - (lg_sl ([.ref (b 0)])).length) Slot.unset).toArray = ls at hl ⊢
  have hl : lv_has ls 2 [(0, .ref (b 0))] := hl
  replace hE := hE.trans mX6_record_s
  refine lv_aload_n hx hb dX6_record_0 rfl (lv_at hl 0 rfl) ?_
  refine va_get (D := E.1) (ci := 5) (v := .int (u 0 0)) (C := RX6) (T := TX6) (N := 16) hx hb hts hiX6 hown hK.1 hP 0 rfl rfl 4 (by decide) hf44 (fun _ h9 => h9) rfl dX6_record_1 ?_
  refine lv_bipush (v := 6) hx hb dX6_record_4 (by decide) ?_
  refine lv_icmp_ne (tgt := 50) hx hb dX6_record_6 (by decide) (fun c_1 => ?_) (fun c_1 => ?_)
  · replace hE := hE.trans (if_neg c_1)
    have hp5 := bOK.ne6 hpm c_1
    refine lv_iconst (v := 0) hx hb dX6_record_50 (by decide) ?_
    refine lv_istore_n (lv' := [(1, .int 0), (0, .ref (b 0))]) hx hb dX6_record_51 rfl hl (by decide) rfl (fun ls hl => ?_)
    have lp52 : ∀ (n52 : Nat) (i52 : Nat) (f52_0_2 : (Nat → Int32)) (q52_0_0 : Int32) (H : Heap) (locs : List Loc), (279 < i52 + n52) → (i52 ≤ 279) → (bOK 5 q52_0_0) → va_P E.1 vwCl (wModx E b q52_0_0 (u 0 1) (u 0 2) (u 0 3) (u 0 4) (u 0 5) (u 0 6) (u 0 7) (u 1) f52_0_2 (u 3) (u 4) (u 5) (u 6) (u 7) (u 8)) H → va_S (kA b 9) s.heap H locs → ∀ ls : Array Slot, lv_has ls 2 [(1, .int (nI i52)), (0, .ref (b 0))] → R = mX6_record_L52 u n52 i52 f52_0_2 q52_0_0 → W p l e ({ frames := 0, cells := 0, slots := 0, locals := 0 }) s m ([.ref (b 0)] : List Value).toArray below meth c H locs 0 0 (MQ below (kWv E (wModx E b R.1 (u 0 1) (u 0 2) (u 0 3) (u 0 4) (u 0 5) (u 0 6) (u 0 7) (u 1) R.2 (u 3) (u 4) (u 5) (u 6) (u 7) (u 8)) (kA b 9)) ([.ref (b 0)] : List Value).toArray s 0 0 (kA b 9)) (F0 m 52 ls []) := by
      clear hE
      intro n52
      induction n52 with
      | zero =>
        intro i52 f52_0_2 q52_0_0 H locs hm52 hi52 hp5 hP hS ls hl hE
        exact absurd hm52 (by omega)
      | succ n52 ih52 =>
        intro i52 f52_0_2 q52_0_0 H locs hm52 hi52 hp5 hP hS ls hl hE
        have hD := dMod (E := E) hj q52_0_0 (u 0 1) (u 0 2) (u 0 3) (u 0 4) (u 0 5) (u 0 6) (u 0 7) (u 1) f52_0_2 (u 3) (u 4) (u 5) (u 6) (u 7) (u 8)
        replace hE := hE.trans mX6_record_L52_s
        refine lv_iload_n hx hb dX6_record_52 rfl (lv_at hl 0 rfl) ?_
        refine lv_sipush (v := 279) hx hb dX6_record_53 (by decide) ?_
        refine lv_icmp_ge (tgt := 86) hx hb dX6_record_56 (by decide) (fun c_2 => ?_) (fun c_2 => ?_)
        · replace hE := hE.trans (if_pos c_2)
          refine lv_aload_n hx hb dX6_record_86 rfl (lv_at hl 1 rfl) ?_
          refine lv_dup hx hb dX6_record_87 rfl ?_
          refine va_get (D := E.1) (ci := 5) (v := .int q52_0_0) (C := RX6) (T := TX6) (N := 16) hx hb hts hiX6 hown hK.1 hP 0 rfl rfl 4 (by decide) hf44 (fun _ h9 => h9) rfl dX6_record_88 ?_
          refine lv_iconst (v := 1) hx hb dX6_record_91 (by decide) ?_
          refine lv_iadd hx hb dX6_record_92 ?_
          refine va_put (D := E.1) (ci := 5) (v := .int (q52_0_0 + 1)) (ty := .int) (C := RX6) (T := TX6) (N := 16) hx hb hts hiX6 tyX6 tyX6_ok nmX6 hown hK.1 hP hD hS 0 rfl rfl 4 (by decide) hf44 (fun _ h9 => h9) rfl (by decide +kernel) rfl rfl (Nat.le_of_ble_eq_true rfl) dX6_record_93 (fun H locs hP _ hS => ?_)
          have hP : va_P E.1 vwCl (wModx E b (q52_0_0 + 1) (u 0 1) (u 0 2) (u 0 3) (u 0 4) (u 0 5) (u 0 6) (u 0 7) (u 1) f52_0_2 (u 3) (u 4) (u 5) (u 6) (u 7) (u 8)) H := hP
          have hD := dMod (E := E) hj (q52_0_0 + 1) (u 0 1) (u 0 2) (u 0 3) (u 0 4) (u 0 5) (u 0 6) (u 0 7) (u 1) f52_0_2 (u 3) (u 4) (u 5) (u 6) (u 7) (u 8)
          subst R
          exact W.vret hx hb hr (fun t ht hW => ⟨rfl, by rw [ht]; exact hP, hS.F ht⟩) hS.2.2 dX6_record_96
        · replace hE := hE.trans (if_neg c_2)
          have hbc_2 : i52 < 279 := nI_nle_lt ⟨by omega, by omega⟩ c_2
          refine lv_aload_n hx hb dX6_record_59 rfl (lv_at hl 1 rfl) ?_
          refine va_get (D := E.1) (ci := 5) (v := .ref (b 2)) (C := RX6) (T := TX6) (N := 16) hx hb hts hiX6 hown hK.1 hP 0 rfl rfl 1 (by decide) hf13 (fun _ h9 => h9) rfl dX6_record_60 ?_
          refine lv_aload_n hx hb dX6_record_63 rfl (lv_at hl 1 rfl) ?_
          refine va_get (D := E.1) (ci := 5) (v := .int q52_0_0) (C := RX6) (T := TX6) (N := 16) hx hb hts hiX6 hown hK.1 hP 0 rfl rfl 4 (by decide) hf44 (fun _ h9 => h9) rfl dX6_record_64 ?_
          refine lv_sipush (v := 279) hx hb dX6_record_67 (by decide) ?_
          refine lv_imul hx hb dX6_record_70 ?_
          refine lv_iload_n hx hb dX6_record_71 rfl (lv_at hl 0 rfl) ?_
          refine lv_iadd hx hb dX6_record_72 ?_
          refine lv_aload_n hx hb dX6_record_73 rfl (lv_at hl 1 rfl) ?_
          refine va_get (D := E.1) (ci := 5) (v := .ref (b 1)) (C := RX6) (T := TX6) (N := 16) hx hb hts hiX6 hown hK.1 hP 0 rfl rfl 0 (by decide) hf7 (fun _ h9 => h9) rfl dX6_record_74 ?_
          refine lv_iload_n hx hb dX6_record_77 rfl (lv_at hl 0 rfl) ?_
          refine va_iald (D := E.1) hx hb hK.1 hP 1 0 rfl rfl (vp_in_nI (by omega) (by omega)) dX6_record_78 ?_
          refine va_iast (D := E.1) hx hb hK.1 hP hD hS 2 0 rfl rfl (pastIn (by assumption) (by omega)) dX6_record_79 (fun H locs hP _ hS => ?_)
          have hP : va_P E.1 vwCl (wModx E b q52_0_0 (u 0 1) (u 0 2) (u 0 3) (u 0 4) (u 0 5) (u 0 6) (u 0 7) (u 1) (upd f52_0_2 (((q52_0_0 * 279) + (nI i52))).toNatClampNeg ((u 1) ((nI i52)).toNatClampNeg)) (u 3) (u 4) (u 5) (u 6) (u 7) (u 8)) H := hP
          have hD := dMod (E := E) hj q52_0_0 (u 0 1) (u 0 2) (u 0 3) (u 0 4) (u 0 5) (u 0 6) (u 0 7) (u 1) (upd f52_0_2 (((q52_0_0 * 279) + (nI i52))).toNatClampNeg ((u 1) ((nI i52)).toNatClampNeg)) (u 3) (u 4) (u 5) (u 6) (u 7) (u 8)
          refine lv_iinc (v := (nI (i52 + 1))) (lv' := [(1, .int (nI (i52 + 1))), (0, .ref (b 0))]) hx hb dX6_record_80 hl (k := 0) rfl (nI_1 i52) (by decide) rfl (fun ls hl => ?_)
          refine lv_goto (tgt := 52) hx hb dX6_record_83 (by decide) ?_
          exact ih52 (i52 + 1) (upd f52_0_2 (((q52_0_0 * 279) + (nI i52))).toNatClampNeg ((u 1) ((nI i52)).toNatClampNeg)) q52_0_0 _ _ (by omega) (by omega) (by assumption) hP hS ls (lv_sub hl [0, 1] rfl) hE
    exact lp52 280 0 (u 2) (u 0 0) _ _ (by omega) (by omega) (by assumption) hP hS ls (lv_sub hl [0, 1] rfl) hE
  · replace hE := hE.trans (if_pos c_1)
    have hp5 := bOK.eq6 c_1
    refine lv_iconst (v := 0) hx hb dX6_record_9 (by decide) ?_
    refine lv_istore_n (lv' := [(1, .int 0), (0, .ref (b 0))]) hx hb dX6_record_10 rfl hl (by decide) rfl (fun ls hl => ?_)
    have lp11 : ∀ (n11 : Nat) (i11 : Nat) (f11_0_2 : (Nat → Int32)) (H : Heap) (locs : List Loc), (1395 < i11 + n11) → (i11 ≤ 1395) → va_P E.1 vwCl (wModx E b (u 0 0) (u 0 1) (u 0 2) (u 0 3) (u 0 4) (u 0 5) (u 0 6) (u 0 7) (u 1) f11_0_2 (u 3) (u 4) (u 5) (u 6) (u 7) (u 8)) H → va_S (kA b 9) s.heap H locs → ∀ ls : Array Slot, lv_has ls 2 [(1, .int (nI i11)), (0, .ref (b 0))] → R = mX6_record_L11 u n11 i11 f11_0_2 → W p l e ({ frames := 0, cells := 0, slots := 0, locals := 0 }) s m ([.ref (b 0)] : List Value).toArray below meth c H locs 0 0 (MQ below (kWv E (wModx E b R.1 (u 0 1) (u 0 2) (u 0 3) (u 0 4) (u 0 5) (u 0 6) (u 0 7) (u 1) R.2 (u 3) (u 4) (u 5) (u 6) (u 7) (u 8)) (kA b 9)) ([.ref (b 0)] : List Value).toArray s 0 0 (kA b 9)) (F0 m 11 ls []) := by
      clear hE
      intro n11
      induction n11 with
      | zero =>
        intro i11 f11_0_2 H locs hm11 hi11 hP hS ls hl hE
        exact absurd hm11 (by omega)
      | succ n11 ih11 =>
        intro i11 f11_0_2 H locs hm11 hi11 hP hS ls hl hE
        have hD := dMod (E := E) hj (u 0 0) (u 0 1) (u 0 2) (u 0 3) (u 0 4) (u 0 5) (u 0 6) (u 0 7) (u 1) f11_0_2 (u 3) (u 4) (u 5) (u 6) (u 7) (u 8)
        replace hE := hE.trans mX6_record_L11_s
        refine lv_iload_n hx hb dX6_record_11 rfl (lv_at hl 0 rfl) ?_
        refine lv_sipush (v := 1395) hx hb dX6_record_12 (by decide) ?_
        refine lv_icmp_ge (tgt := 40) hx hb dX6_record_15 (by decide) (fun c_3 => ?_) (fun c_3 => ?_)
        · replace hE := hE.trans (if_pos c_3)
          refine lv_aload_n hx hb dX6_record_40 rfl (lv_at hl 1 rfl) ?_
          refine lv_dup hx hb dX6_record_41 rfl ?_
          refine va_get (D := E.1) (ci := 5) (v := .int (u 0 0)) (C := RX6) (T := TX6) (N := 16) hx hb hts hiX6 hown hK.1 hP 0 rfl rfl 4 (by decide) hf44 (fun _ h9 => h9) rfl dX6_record_42 ?_
          refine lv_iconst (v := 1) hx hb dX6_record_45 (by decide) ?_
          refine lv_isub hx hb dX6_record_46 ?_
          refine va_put (D := E.1) (ci := 5) (v := .int ((u 0 0) - 1)) (ty := .int) (C := RX6) (T := TX6) (N := 16) hx hb hts hiX6 tyX6 tyX6_ok nmX6 hown hK.1 hP hD hS 0 rfl rfl 4 (by decide) hf44 (fun _ h9 => h9) rfl (by decide +kernel) rfl rfl (Nat.le_of_ble_eq_true rfl) dX6_record_47 (fun H locs hP _ hS => ?_)
          have hP : va_P E.1 vwCl (wModx E b ((u 0 0) - 1) (u 0 1) (u 0 2) (u 0 3) (u 0 4) (u 0 5) (u 0 6) (u 0 7) (u 1) f11_0_2 (u 3) (u 4) (u 5) (u 6) (u 7) (u 8)) H := hP
          have hD := dMod (E := E) hj ((u 0 0) - 1) (u 0 1) (u 0 2) (u 0 3) (u 0 4) (u 0 5) (u 0 6) (u 0 7) (u 1) f11_0_2 (u 3) (u 4) (u 5) (u 6) (u 7) (u 8)
          refine lv_iconst (v := 0) hx hb dX6_record_50 (by decide) ?_
          refine lv_istore_n (lv' := [(1, .int 0), (0, .ref (b 0))]) hx hb dX6_record_51 rfl hl (by decide) rfl (fun ls hl => ?_)
          have lp52 : ∀ (n52 : Nat) (i52 : Nat) (f52_0_2 : (Nat → Int32)) (q52_0_0 : Int32) (H : Heap) (locs : List Loc), (279 < i52 + n52) → (i52 ≤ 279) → (bOK 5 q52_0_0) → va_P E.1 vwCl (wModx E b q52_0_0 (u 0 1) (u 0 2) (u 0 3) (u 0 4) (u 0 5) (u 0 6) (u 0 7) (u 1) f52_0_2 (u 3) (u 4) (u 5) (u 6) (u 7) (u 8)) H → va_S (kA b 9) s.heap H locs → ∀ ls : Array Slot, lv_has ls 2 [(1, .int (nI i52)), (0, .ref (b 0))] → R = mX6_record_L52 u n52 i52 f52_0_2 q52_0_0 → W p l e ({ frames := 0, cells := 0, slots := 0, locals := 0 }) s m ([.ref (b 0)] : List Value).toArray below meth c H locs 0 0 (MQ below (kWv E (wModx E b R.1 (u 0 1) (u 0 2) (u 0 3) (u 0 4) (u 0 5) (u 0 6) (u 0 7) (u 1) R.2 (u 3) (u 4) (u 5) (u 6) (u 7) (u 8)) (kA b 9)) ([.ref (b 0)] : List Value).toArray s 0 0 (kA b 9)) (F0 m 52 ls []) := by
            clear hE
            intro n52
            induction n52 with
            | zero =>
              intro i52 f52_0_2 q52_0_0 H locs hm52 hi52 hp5 hP hS ls hl hE
              exact absurd hm52 (by omega)
            | succ n52 ih52 =>
              intro i52 f52_0_2 q52_0_0 H locs hm52 hi52 hp5 hP hS ls hl hE
              have hD := dMod (E := E) hj q52_0_0 (u 0 1) (u 0 2) (u 0 3) (u 0 4) (u 0 5) (u 0 6) (u 0 7) (u 1) f52_0_2 (u 3) (u 4) (u 5) (u 6) (u 7) (u 8)
              replace hE := hE.trans mX6_record_L52_s
              refine lv_iload_n hx hb dX6_record_52 rfl (lv_at hl 0 rfl) ?_
              refine lv_sipush (v := 279) hx hb dX6_record_53 (by decide) ?_
              refine lv_icmp_ge (tgt := 86) hx hb dX6_record_56 (by decide) (fun c_2 => ?_) (fun c_2 => ?_)
              · replace hE := hE.trans (if_pos c_2)
                refine lv_aload_n hx hb dX6_record_86 rfl (lv_at hl 1 rfl) ?_
                refine lv_dup hx hb dX6_record_87 rfl ?_
                refine va_get (D := E.1) (ci := 5) (v := .int q52_0_0) (C := RX6) (T := TX6) (N := 16) hx hb hts hiX6 hown hK.1 hP 0 rfl rfl 4 (by decide) hf44 (fun _ h9 => h9) rfl dX6_record_88 ?_
                refine lv_iconst (v := 1) hx hb dX6_record_91 (by decide) ?_
                refine lv_iadd hx hb dX6_record_92 ?_
                refine va_put (D := E.1) (ci := 5) (v := .int (q52_0_0 + 1)) (ty := .int) (C := RX6) (T := TX6) (N := 16) hx hb hts hiX6 tyX6 tyX6_ok nmX6 hown hK.1 hP hD hS 0 rfl rfl 4 (by decide) hf44 (fun _ h9 => h9) rfl (by decide +kernel) rfl rfl (Nat.le_of_ble_eq_true rfl) dX6_record_93 (fun H locs hP _ hS => ?_)
                have hP : va_P E.1 vwCl (wModx E b (q52_0_0 + 1) (u 0 1) (u 0 2) (u 0 3) (u 0 4) (u 0 5) (u 0 6) (u 0 7) (u 1) f52_0_2 (u 3) (u 4) (u 5) (u 6) (u 7) (u 8)) H := hP
                have hD := dMod (E := E) hj (q52_0_0 + 1) (u 0 1) (u 0 2) (u 0 3) (u 0 4) (u 0 5) (u 0 6) (u 0 7) (u 1) f52_0_2 (u 3) (u 4) (u 5) (u 6) (u 7) (u 8)
                subst R
                exact W.vret hx hb hr (fun t ht hW => ⟨rfl, by rw [ht]; exact hP, hS.F ht⟩) hS.2.2 dX6_record_96
              · replace hE := hE.trans (if_neg c_2)
                have hbc_2 : i52 < 279 := nI_nle_lt ⟨by omega, by omega⟩ c_2
                refine lv_aload_n hx hb dX6_record_59 rfl (lv_at hl 1 rfl) ?_
                refine va_get (D := E.1) (ci := 5) (v := .ref (b 2)) (C := RX6) (T := TX6) (N := 16) hx hb hts hiX6 hown hK.1 hP 0 rfl rfl 1 (by decide) hf13 (fun _ h9 => h9) rfl dX6_record_60 ?_
                refine lv_aload_n hx hb dX6_record_63 rfl (lv_at hl 1 rfl) ?_
                refine va_get (D := E.1) (ci := 5) (v := .int q52_0_0) (C := RX6) (T := TX6) (N := 16) hx hb hts hiX6 hown hK.1 hP 0 rfl rfl 4 (by decide) hf44 (fun _ h9 => h9) rfl dX6_record_64 ?_
                refine lv_sipush (v := 279) hx hb dX6_record_67 (by decide) ?_
                refine lv_imul hx hb dX6_record_70 ?_
                refine lv_iload_n hx hb dX6_record_71 rfl (lv_at hl 0 rfl) ?_
                refine lv_iadd hx hb dX6_record_72 ?_
                refine lv_aload_n hx hb dX6_record_73 rfl (lv_at hl 1 rfl) ?_
                refine va_get (D := E.1) (ci := 5) (v := .ref (b 1)) (C := RX6) (T := TX6) (N := 16) hx hb hts hiX6 hown hK.1 hP 0 rfl rfl 0 (by decide) hf7 (fun _ h9 => h9) rfl dX6_record_74 ?_
                refine lv_iload_n hx hb dX6_record_77 rfl (lv_at hl 0 rfl) ?_
                refine va_iald (D := E.1) hx hb hK.1 hP 1 0 rfl rfl (vp_in_nI (by omega) (by omega)) dX6_record_78 ?_
                refine va_iast (D := E.1) hx hb hK.1 hP hD hS 2 0 rfl rfl (pastIn (by assumption) (by omega)) dX6_record_79 (fun H locs hP _ hS => ?_)
                have hP : va_P E.1 vwCl (wModx E b q52_0_0 (u 0 1) (u 0 2) (u 0 3) (u 0 4) (u 0 5) (u 0 6) (u 0 7) (u 1) (upd f52_0_2 (((q52_0_0 * 279) + (nI i52))).toNatClampNeg ((u 1) ((nI i52)).toNatClampNeg)) (u 3) (u 4) (u 5) (u 6) (u 7) (u 8)) H := hP
                have hD := dMod (E := E) hj q52_0_0 (u 0 1) (u 0 2) (u 0 3) (u 0 4) (u 0 5) (u 0 6) (u 0 7) (u 1) (upd f52_0_2 (((q52_0_0 * 279) + (nI i52))).toNatClampNeg ((u 1) ((nI i52)).toNatClampNeg)) (u 3) (u 4) (u 5) (u 6) (u 7) (u 8)
                refine lv_iinc (v := (nI (i52 + 1))) (lv' := [(1, .int (nI (i52 + 1))), (0, .ref (b 0))]) hx hb dX6_record_80 hl (k := 0) rfl (nI_1 i52) (by decide) rfl (fun ls hl => ?_)
                refine lv_goto (tgt := 52) hx hb dX6_record_83 (by decide) ?_
                exact ih52 (i52 + 1) (upd f52_0_2 (((q52_0_0 * 279) + (nI i52))).toNatClampNeg ((u 1) ((nI i52)).toNatClampNeg)) q52_0_0 _ _ (by omega) (by omega) (by assumption) hP hS ls (lv_sub hl [0, 1] rfl) hE
          exact lp52 280 0 f11_0_2 ((u 0 0) - 1) _ _ (by omega) (by omega) (by assumption) hP hS ls (lv_sub hl [0, 1] rfl) hE
        · replace hE := hE.trans (if_neg c_3)
          have hbc_3 : i11 < 1395 := nI_nle_lt ⟨by omega, by omega⟩ c_3
          refine lv_aload_n hx hb dX6_record_18 rfl (lv_at hl 1 rfl) ?_
          refine va_get (D := E.1) (ci := 5) (v := .ref (b 2)) (C := RX6) (T := TX6) (N := 16) hx hb hts hiX6 hown hK.1 hP 0 rfl rfl 1 (by decide) hf13 (fun _ h9 => h9) rfl dX6_record_19 ?_
          refine lv_iload_n hx hb dX6_record_22 rfl (lv_at hl 0 rfl) ?_
          refine lv_aload_n hx hb dX6_record_23 rfl (lv_at hl 1 rfl) ?_
          refine va_get (D := E.1) (ci := 5) (v := .ref (b 2)) (C := RX6) (T := TX6) (N := 16) hx hb hts hiX6 hown hK.1 hP 0 rfl rfl 1 (by decide) hf13 (fun _ h9 => h9) rfl dX6_record_24 ?_
          refine lv_iload_n hx hb dX6_record_27 rfl (lv_at hl 0 rfl) ?_
          refine lv_sipush (v := 279) hx hb dX6_record_28 (by decide) ?_
          refine lv_iadd hx hb dX6_record_31 ?_
          refine va_iald (D := E.1) hx hb hK.1 hP 2 0 rfl rfl (kinA (k := 279) (by omega) (by omega)) dX6_record_32 ?_
          refine va_iast (D := E.1) hx hb hK.1 hP hD hS 2 0 rfl rfl (vp_in_nI (by omega) (by omega)) dX6_record_33 (fun H locs hP _ hS => ?_)
          have hP : va_P E.1 vwCl (wModx E b (u 0 0) (u 0 1) (u 0 2) (u 0 3) (u 0 4) (u 0 5) (u 0 6) (u 0 7) (u 1) (upd f11_0_2 ((nI i11)).toNatClampNeg (f11_0_2 (((nI i11) + 279)).toNatClampNeg)) (u 3) (u 4) (u 5) (u 6) (u 7) (u 8)) H := hP
          have hD := dMod (E := E) hj (u 0 0) (u 0 1) (u 0 2) (u 0 3) (u 0 4) (u 0 5) (u 0 6) (u 0 7) (u 1) (upd f11_0_2 ((nI i11)).toNatClampNeg (f11_0_2 (((nI i11) + 279)).toNatClampNeg)) (u 3) (u 4) (u 5) (u 6) (u 7) (u 8)
          refine lv_iinc (v := (nI (i11 + 1))) (lv' := [(1, .int (nI (i11 + 1))), (0, .ref (b 0))]) hx hb dX6_record_34 hl (k := 0) rfl (nI_1 i11) (by decide) rfl (fun ls hl => ?_)
          refine lv_goto (tgt := 11) hx hb dX6_record_37 (by decide) ?_
          exact ih11 (i11 + 1) (upd f11_0_2 ((nI i11)).toNatClampNeg (f11_0_2 (((nI i11) + 279)).toNatClampNeg)) _ _ (by omega) (by omega) hP hS ls (lv_sub hl [0, 1] rfl) hE
    exact lp11 1396 0 (u 2) _ _ (by omega) (by omega) hP hS ls (lv_sub hl [0, 1] rfl) hE
def mX6_undo_L22 (u : kG) : Nat → Nat → (Nat → Int32) → (Int32 × Int32 × (Nat → Int32))
  | 0, _, _ => (0, 0, (fun _ => 0))
  | n22 + 1, i22, f22_0_1 =>
    if 279 ≤ (nI i22) then
      (((u 0 0) - 1), ((u 0 0) - 1), f22_0_1)
    else
      mX6_undo_L22 u n22 (i22 + 1) (upd f22_0_1 ((nI i22)).toNatClampNeg ((u 2) (((((u 0 0) - 1) * 279) + (nI i22))).toNatClampNeg))
theorem mX6_undo_L22_s {u : kG} {n22 : Nat} {i22 : Nat} {f22_0_1 : (Nat → Int32)} : mX6_undo_L22 u (n22 + 1) i22 f22_0_1 = (
    if 279 ≤ (nI i22) then
      (((u 0 0) - 1), ((u 0 0) - 1), f22_0_1)
    else
      mX6_undo_L22 u n22 (i22 + 1) (upd f22_0_1 ((nI i22)).toNatClampNeg ((u 2) (((((u 0 0) - 1) * 279) + (nI i22))).toNatClampNeg)) : Int32 × Int32 × (Nat → Int32)) := rfl
def mX6_undo (u : kG) : Int32 × Int32 × (Nat → Int32) :=
  if (u 0 0) = 0 then
    ((-5), (u 0 0), (u 1))
  else
    mX6_undo_L22 u 280 0 (u 1)
theorem mX6_undo_s {u : kG} : mX6_undo u = (
  if (u 0 0) = 0 then
    ((-5), (u 0 0), (u 1))
  else
    mX6_undo_L22 u 280 0 (u 1) : Int32 × Int32 × (Nat → Int32)) := rfl
set_option maxHeartbeats 400000 in
set_option maxRecDepth 100000 in
theorem c_X6_undo (l : Launch) (E : kE) (b : Nat → Nat) (u : kG) (hj : kInj b 9) (hpm : bOK 6 (u 0 0)) (R : Int32 × Int32 × (Nat → Int32)) (hE : R = mX6_undo u) : Met l yX6_undo wsX6_undo ({ frames := 0, cells := 0, slots := 0, locals := 0 }) (kPre E [.ref (b 0)] (wModx E b (u 0 0) (u 0 1) (u 0 2) (u 0 3) (u 0 4) (u 0 5) (u 0 6) (u 0 7) (u 1) (u 2) (u 3) (u 4) (u 5) (u 6) (u 7) (u 8))) (kWi E R.1 (wModx E b R.2.1 (u 0 1) (u 0 2) (u 0 3) (u 0 4) (u 0 5) (u 0 6) (u 0 7) R.2.2 (u 2) (u 3) (u 4) (u 5) (u 6) (u 7) (u 8)) (kA b 9)) 0 0 (kA b 9) := by
  refine Met.ofW (cc := cX6_undo) (maxL := 2) (ret := (some .int)) (by decide) rfl ?_
  intro p e s m args below meth c s₁ B hml hv
  obtain ⟨rfl, hK, hP⟩ := hv
  have hx := B.exec
  have hb := B.bytes
  have hr := B.returns
  have hts := atoms_spec (ws := wsX6_undo) B.pre
  have hown : s.vm.findClass RX6 = some m.cls := findClass_of_methodNamed B.named
  have hlocks := B.notSynchronized
  have hiX6 : ∀ w ∈ wsX60, w ∈ wsX6_undo := by decide +kernel
  have hf7 := hts (.fieldLink RX6 7 "SkewEdgesModel" "z" "[I") (by decide +kernel)
  have hf13 := hts (.fieldLink RX6 13 "SkewEdgesModel" "past" "[I") (by decide +kernel)
  have hf44 := hts (.fieldLink RX6 44 "SkewEdgesModel" "pastMany" "I") (by decide +kernel)
  have hS : va_S (kA b 9) s.heap s.heap [] := va_S.rf
  have hP : va_P E.1 vwCl (wModx E b (u 0 0) (u 0 1) (u 0 2) (u 0 3) (u 0 4) (u 0 5) (u 0 6) (u 0 7) (u 1) (u 2) (u 3) (u 4) (u 5) (u 6) (u 7) (u 8)) s.heap := hP
  have hD := dMod (E := E) hj (u 0 0) (u 0 1) (u 0 2) (u 0 3) (u 0 4) (u 0 5) (u 0 6) (u 0 7) (u 1) (u 2) (u 3) (u 4) (u 5) (u 6) (u 7) (u 8)
  have hl := lv_entry ([.ref (b 0)]) (n := 2) (Nat.le_of_ble_eq_true rfl)
  rw [lg_entry_eq]
  generalize (lg_sl ([.ref (b 0)]) ++ List.replicate (2 - (lg_sl ([.ref (b 0)])).length) Slot.unset).toArray = ls at hl ⊢
  have hl : lv_has ls 2 [(0, .ref (b 0))] := hl
  replace hE := hE.trans mX6_undo_s
  refine lv_aload_n hx hb dX6_undo_0 rfl (lv_at hl 0 rfl) ?_
  refine va_get (D := E.1) (ci := 5) (v := .int (u 0 0)) (C := RX6) (T := TX6) (N := 16) hx hb hts hiX6 hown hK.1 hP 0 rfl rfl 4 (by decide) hf44 (fun _ h9 => h9) rfl dX6_undo_1 ?_
  refine lv_if_ne (tgt := 10) hx hb dX6_undo_4 (by decide) (fun c_1 => ?_) (fun c_1 => ?_)
  · replace hE := hE.trans (if_neg c_1)
    have hp5 := bOK.ne0 hpm c_1
    refine lv_aload_n hx hb dX6_undo_10 rfl (lv_at hl 0 rfl) ?_
    refine lv_dup hx hb dX6_undo_11 rfl ?_
    refine va_get (D := E.1) (ci := 5) (v := .int (u 0 0)) (C := RX6) (T := TX6) (N := 16) hx hb hts hiX6 hown hK.1 hP 0 rfl rfl 4 (by decide) hf44 (fun _ h9 => h9) rfl dX6_undo_12 ?_
    refine lv_iconst (v := 1) hx hb dX6_undo_15 (by decide) ?_
    refine lv_isub hx hb dX6_undo_16 ?_
    refine va_put (D := E.1) (ci := 5) (v := .int ((u 0 0) - 1)) (ty := .int) (C := RX6) (T := TX6) (N := 16) hx hb hts hiX6 tyX6 tyX6_ok nmX6 hown hK.1 hP hD hS 0 rfl rfl 4 (by decide) hf44 (fun _ h9 => h9) rfl (by decide +kernel) rfl rfl (Nat.le_of_ble_eq_true rfl) dX6_undo_17 (fun H locs hP _ hS => ?_)
    have hP : va_P E.1 vwCl (wModx E b ((u 0 0) - 1) (u 0 1) (u 0 2) (u 0 3) (u 0 4) (u 0 5) (u 0 6) (u 0 7) (u 1) (u 2) (u 3) (u 4) (u 5) (u 6) (u 7) (u 8)) H := hP
    have hD := dMod (E := E) hj ((u 0 0) - 1) (u 0 1) (u 0 2) (u 0 3) (u 0 4) (u 0 5) (u 0 6) (u 0 7) (u 1) (u 2) (u 3) (u 4) (u 5) (u 6) (u 7) (u 8)
    refine lv_iconst (v := 0) hx hb dX6_undo_20 (by decide) ?_
    refine lv_istore_n (lv' := [(1, .int 0), (0, .ref (b 0))]) hx hb dX6_undo_21 rfl hl (by decide) rfl (fun ls hl => ?_)
    have lp22 : ∀ (n22 : Nat) (i22 : Nat) (f22_0_1 : (Nat → Int32)) (H : Heap) (locs : List Loc), (279 < i22 + n22) → (i22 ≤ 279) → va_P E.1 vwCl (wModx E b ((u 0 0) - 1) (u 0 1) (u 0 2) (u 0 3) (u 0 4) (u 0 5) (u 0 6) (u 0 7) f22_0_1 (u 2) (u 3) (u 4) (u 5) (u 6) (u 7) (u 8)) H → va_S (kA b 9) s.heap H locs → ∀ ls : Array Slot, lv_has ls 2 [(1, .int (nI i22)), (0, .ref (b 0))] → R = mX6_undo_L22 u n22 i22 f22_0_1 → W p l e ({ frames := 0, cells := 0, slots := 0, locals := 0 }) s m ([.ref (b 0)] : List Value).toArray below meth c H locs 0 0 (MQ below (kWi E R.1 (wModx E b R.2.1 (u 0 1) (u 0 2) (u 0 3) (u 0 4) (u 0 5) (u 0 6) (u 0 7) R.2.2 (u 2) (u 3) (u 4) (u 5) (u 6) (u 7) (u 8)) (kA b 9)) ([.ref (b 0)] : List Value).toArray s 0 0 (kA b 9)) (F0 m 22 ls []) := by
      clear hE
      intro n22
      induction n22 with
      | zero =>
        intro i22 f22_0_1 H locs hm22 hi22 hP hS ls hl hE
        exact absurd hm22 (by omega)
      | succ n22 ih22 =>
        intro i22 f22_0_1 H locs hm22 hi22 hP hS ls hl hE
        have hD := dMod (E := E) hj ((u 0 0) - 1) (u 0 1) (u 0 2) (u 0 3) (u 0 4) (u 0 5) (u 0 6) (u 0 7) f22_0_1 (u 2) (u 3) (u 4) (u 5) (u 6) (u 7) (u 8)
        replace hE := hE.trans mX6_undo_L22_s
        refine lv_iload_n hx hb dX6_undo_22 rfl (lv_at hl 0 rfl) ?_
        refine lv_sipush (v := 279) hx hb dX6_undo_23 (by decide) ?_
        refine lv_icmp_ge (tgt := 56) hx hb dX6_undo_26 (by decide) (fun c_2 => ?_) (fun c_2 => ?_)
        · replace hE := hE.trans (if_pos c_2)
          refine lv_aload_n hx hb dX6_undo_56 rfl (lv_at hl 1 rfl) ?_
          refine va_get (D := E.1) (ci := 5) (v := .int ((u 0 0) - 1)) (C := RX6) (T := TX6) (N := 16) hx hb hts hiX6 hown hK.1 hP 0 rfl rfl 4 (by decide) hf44 (fun _ h9 => h9) rfl dX6_undo_57 ?_
          subst R
          exact W.iret (v := ((u 0 0) - 1)) hx hb hr (fun t ht hW => ⟨rfl, by rw [ht]; exact hP, hS.F ht⟩) hS.2.2 dX6_undo_60
        · replace hE := hE.trans (if_neg c_2)
          have hbc_2 : i22 < 279 := nI_nle_lt ⟨by omega, by omega⟩ c_2
          refine lv_aload_n hx hb dX6_undo_29 rfl (lv_at hl 1 rfl) ?_
          refine va_get (D := E.1) (ci := 5) (v := .ref (b 1)) (C := RX6) (T := TX6) (N := 16) hx hb hts hiX6 hown hK.1 hP 0 rfl rfl 0 (by decide) hf7 (fun _ h9 => h9) rfl dX6_undo_30 ?_
          refine lv_iload_n hx hb dX6_undo_33 rfl (lv_at hl 0 rfl) ?_
          refine lv_aload_n hx hb dX6_undo_34 rfl (lv_at hl 1 rfl) ?_
          refine va_get (D := E.1) (ci := 5) (v := .ref (b 2)) (C := RX6) (T := TX6) (N := 16) hx hb hts hiX6 hown hK.1 hP 0 rfl rfl 1 (by decide) hf13 (fun _ h9 => h9) rfl dX6_undo_35 ?_
          refine lv_aload_n hx hb dX6_undo_38 rfl (lv_at hl 1 rfl) ?_
          refine va_get (D := E.1) (ci := 5) (v := .int ((u 0 0) - 1)) (C := RX6) (T := TX6) (N := 16) hx hb hts hiX6 hown hK.1 hP 0 rfl rfl 4 (by decide) hf44 (fun _ h9 => h9) rfl dX6_undo_39 ?_
          refine lv_sipush (v := 279) hx hb dX6_undo_42 (by decide) ?_
          refine lv_imul hx hb dX6_undo_45 ?_
          refine lv_iload_n hx hb dX6_undo_46 rfl (lv_at hl 0 rfl) ?_
          refine lv_iadd hx hb dX6_undo_47 ?_
          refine va_iald (D := E.1) hx hb hK.1 hP 2 0 rfl rfl (pastIn (by assumption) (by omega)) dX6_undo_48 ?_
          refine va_iast (D := E.1) hx hb hK.1 hP hD hS 1 0 rfl rfl (vp_in_nI (by omega) (by omega)) dX6_undo_49 (fun H locs hP _ hS => ?_)
          have hP : va_P E.1 vwCl (wModx E b ((u 0 0) - 1) (u 0 1) (u 0 2) (u 0 3) (u 0 4) (u 0 5) (u 0 6) (u 0 7) (upd f22_0_1 ((nI i22)).toNatClampNeg ((u 2) (((((u 0 0) - 1) * 279) + (nI i22))).toNatClampNeg)) (u 2) (u 3) (u 4) (u 5) (u 6) (u 7) (u 8)) H := hP
          have hD := dMod (E := E) hj ((u 0 0) - 1) (u 0 1) (u 0 2) (u 0 3) (u 0 4) (u 0 5) (u 0 6) (u 0 7) (upd f22_0_1 ((nI i22)).toNatClampNeg ((u 2) (((((u 0 0) - 1) * 279) + (nI i22))).toNatClampNeg)) (u 2) (u 3) (u 4) (u 5) (u 6) (u 7) (u 8)
          refine lv_iinc (v := (nI (i22 + 1))) (lv' := [(1, .int (nI (i22 + 1))), (0, .ref (b 0))]) hx hb dX6_undo_50 hl (k := 0) rfl (nI_1 i22) (by decide) rfl (fun ls hl => ?_)
          refine lv_goto (tgt := 22) hx hb dX6_undo_53 (by decide) ?_
          exact ih22 (i22 + 1) (upd f22_0_1 ((nI i22)).toNatClampNeg ((u 2) (((((u 0 0) - 1) * 279) + (nI i22))).toNatClampNeg)) _ _ (by omega) (by omega) hP hS ls (lv_sub hl [0, 1] rfl) hE
    exact lp22 280 0 (u 1) _ _ (by omega) (by omega) hP hS ls (lv_sub hl [0, 1] rfl) hE
  · replace hE := hE.trans (if_pos c_1)
    refine lv_bipush (v := (-5)) hx hb dX6_undo_7 (by decide) ?_
    subst R
    exact W.iret (v := (-5)) hx hb hr (fun t ht hW => ⟨rfl, by rw [ht]; exact hP, hS.F ht⟩) hS.2.2 dX6_undo_9
def mX6_save_L21 (u : kG) (x1 : Int32) : Nat → Nat → (Nat → Int32) → (Int32 × (Nat → Int32) × (Nat → Int32))
  | 0, _, _ => (0, (fun _ => 0), (fun _ => 0))
  | n21 + 1, i21, f21_0_3 =>
    if 279 ≤ (nI i21) then
      (((u 1) 2), f21_0_3, (upd (u 4) (x1).toNatClampNeg (vp_nar .boolean 1)))
    else
      mX6_save_L21 u x1 n21 (i21 + 1) (upd f21_0_3 (((x1 * 279) + (nI i21))).toNatClampNeg ((u 1) ((nI i21)).toNatClampNeg))
theorem mX6_save_L21_s {u : kG} {x1 : Int32} {n21 : Nat} {i21 : Nat} {f21_0_3 : (Nat → Int32)} : mX6_save_L21 u x1 (n21 + 1) i21 f21_0_3 = (
    if 279 ≤ (nI i21) then
      (((u 1) 2), f21_0_3, (upd (u 4) (x1).toNatClampNeg (vp_nar .boolean 1)))
    else
      mX6_save_L21 u x1 n21 (i21 + 1) (upd f21_0_3 (((x1 * 279) + (nI i21))).toNatClampNeg ((u 1) ((nI i21)).toNatClampNeg)) : Int32 × (Nat → Int32) × (Nat → Int32)) := rfl
def mX6_save (u : kG) (x1 : Int32) : Int32 × (Nat → Int32) × (Nat → Int32) :=
  if (mX6_in x1 0 1) = 0 then
    ((-2), (u 3), (u 4))
  else
    mX6_save_L21 u x1 280 0 (u 3)
theorem mX6_save_s {u : kG} {x1 : Int32} : mX6_save u x1 = (
  if (mX6_in x1 0 1) = 0 then
    ((-2), (u 3), (u 4))
  else
    mX6_save_L21 u x1 280 0 (u 3) : Int32 × (Nat → Int32) × (Nat → Int32)) := rfl
set_option maxHeartbeats 400000 in
set_option maxRecDepth 100000 in
theorem c_X6_save (l : Launch) (E : kE) (b : Nat → Nat) (u : kG) (hj : kInj b 9) (x1 : Int32) (R : Int32 × (Nat → Int32) × (Nat → Int32)) (hE : R = mX6_save u x1) : Met l yX6_save wsX6_save ({ frames := 1, cells := 0, slots := 0, locals := 22 }) (kPre E [.ref (b 0), .int x1] (wModx E b (u 0 0) (u 0 1) (u 0 2) (u 0 3) (u 0 4) (u 0 5) (u 0 6) (u 0 7) (u 1) (u 2) (u 3) (u 4) (u 5) (u 6) (u 7) (u 8))) (kWi E R.1 (wModx E b (u 0 0) (u 0 1) (u 0 2) (u 0 3) (u 0 4) (u 0 5) (u 0 6) (u 0 7) (u 1) (u 2) R.2.1 R.2.2 (u 5) (u 6) (u 7) (u 8)) (kA b 9)) 0 0 (kA b 9) := by
  refine Met.ofW (cc := cX6_save) (maxL := 3) (ret := (some .int)) (by decide) rfl ?_
  intro p e s m args below meth c s₁ B hml hv
  obtain ⟨rfl, hK, hP⟩ := hv
  have hx := B.exec
  have hb := B.bytes
  have hr := B.returns
  have hts := atoms_spec (ws := wsX6_save) B.pre
  have hown : s.vm.findClass RX6 = some m.cls := findClass_of_methodNamed B.named
  have hlocks := B.notSynchronized
  have hiX6 : ∀ w ∈ wsX60, w ∈ wsX6_save := by decide +kernel
  have hf7 := hts (.fieldLink RX6 7 "SkewEdgesModel" "z" "[I") (by decide +kernel)
  have hf16 := hts (.fieldLink RX6 16 "SkewEdgesModel" "slots" "[I") (by decide +kernel)
  have hf19 := hts (.fieldLink RX6 19 "SkewEdgesModel" "isSaved" "[Z") (by decide +kernel)
  have hS : va_S (kA b 9) s.heap s.heap [] := va_S.rf
  have hP : va_P E.1 vwCl (wModx E b (u 0 0) (u 0 1) (u 0 2) (u 0 3) (u 0 4) (u 0 5) (u 0 6) (u 0 7) (u 1) (u 2) (u 3) (u 4) (u 5) (u 6) (u 7) (u 8)) s.heap := hP
  have hD := dMod (E := E) hj (u 0 0) (u 0 1) (u 0 2) (u 0 3) (u 0 4) (u 0 5) (u 0 6) (u 0 7) (u 1) (u 2) (u 3) (u 4) (u 5) (u 6) (u 7) (u 8)
  have hl := lv_entry ([.ref (b 0), .int x1]) (n := 3) (Nat.le_of_ble_eq_true rfl)
  rw [lg_entry_eq]
  generalize (lg_sl ([.ref (b 0), .int x1]) ++ List.replicate (3 - (lg_sl ([.ref (b 0), .int x1])).length) Slot.unset).toArray = ls at hl ⊢
  have hl : lv_has ls 3 [(0, .ref (b 0)), (1, .int x1)] := hl
  replace hE := hE.trans mX6_save_s
  refine lv_iload_n hx hb dX6_save_0 rfl (lv_at hl 1 rfl) ?_
  refine lv_iconst (v := 0) hx hb dX6_save_1 (by decide) ?_
  refine lv_iconst (v := 1) hx hb dX6_save_2 (by decide) ?_
  refine kCallRi (va_runS (As := [.int x1, .int 0, .int 1]) (rest := []) ⟨hx, hb, hml, hown, hts⟩ (c_X6_in l E x1 0 1 _ rfl) (va_cwS 3 hts gX6_save_X6_in rfl rfl rfl (by decide +kernel) ⟨Nat.le_of_ble_eq_true rfl, Nat.le_of_ble_eq_true rfl⟩) (kPreS hK kP0) rfl rfl hl.1 rfl (lv_room (Nat.le_of_ble_eq_true rfl)) dX6_save_3 ⟨Nat.zero_le _, Nat.zero_le _⟩) ?_
  refine lv_if_ne (tgt := 12) hx hb dX6_save_6 (by decide) (fun c_1 => ?_) (fun c_1 => ?_)
  · replace hE := hE.trans (if_neg c_1)
    have hsl := in_bOK (N := 1) (by decide) c_1
    refine lv_aload_n hx hb dX6_save_12 rfl (lv_at hl 0 rfl) ?_
    refine va_get (D := E.1) (ci := 5) (v := .ref (b 4)) (C := RX6) (T := TX6) (N := 16) hx hb hts hiX6 hown hK.1 hP 0 rfl rfl 3 (by decide) hf19 (fun _ h9 => h9) rfl dX6_save_13 ?_
    refine lv_iload_n hx hb dX6_save_16 rfl (lv_at hl 1 rfl) ?_
    refine lv_iconst (v := 1) hx hb dX6_save_17 (by decide) ?_
    refine va_zast (D := E.1) hx hb hK.1 hP hD hS 4 1 rfl rfl hsl.in2 dX6_save_18 (fun H locs hP _ hS => ?_)
    have hP : va_P E.1 vwCl (wModx E b (u 0 0) (u 0 1) (u 0 2) (u 0 3) (u 0 4) (u 0 5) (u 0 6) (u 0 7) (u 1) (u 2) (u 3) (upd (u 4) (x1).toNatClampNeg (vp_nar .boolean 1)) (u 5) (u 6) (u 7) (u 8)) H := hP
    have hD := dMod (E := E) hj (u 0 0) (u 0 1) (u 0 2) (u 0 3) (u 0 4) (u 0 5) (u 0 6) (u 0 7) (u 1) (u 2) (u 3) (upd (u 4) (x1).toNatClampNeg (vp_nar .boolean 1)) (u 5) (u 6) (u 7) (u 8)
    refine lv_iconst (v := 0) hx hb dX6_save_19 (by decide) ?_
    refine lv_istore_n (lv' := [(2, .int 0), (0, .ref (b 0)), (1, .int x1)]) hx hb dX6_save_20 rfl hl (by decide) rfl (fun ls hl => ?_)
    have lp21 : ∀ (n21 : Nat) (i21 : Nat) (f21_0_3 : (Nat → Int32)) (H : Heap) (locs : List Loc), (279 < i21 + n21) → (i21 ≤ 279) → va_P E.1 vwCl (wModx E b (u 0 0) (u 0 1) (u 0 2) (u 0 3) (u 0 4) (u 0 5) (u 0 6) (u 0 7) (u 1) (u 2) f21_0_3 (upd (u 4) (x1).toNatClampNeg (vp_nar .boolean 1)) (u 5) (u 6) (u 7) (u 8)) H → va_S (kA b 9) s.heap H locs → ∀ ls : Array Slot, lv_has ls 3 [(2, .int (nI i21)), (0, .ref (b 0)), (1, .int x1)] → R = mX6_save_L21 u x1 n21 i21 f21_0_3 → W p l e ({ frames := 1, cells := 0, slots := 0, locals := 22 }) s m ([.ref (b 0), .int x1] : List Value).toArray below meth c H locs 0 0 (MQ below (kWi E R.1 (wModx E b (u 0 0) (u 0 1) (u 0 2) (u 0 3) (u 0 4) (u 0 5) (u 0 6) (u 0 7) (u 1) (u 2) R.2.1 R.2.2 (u 5) (u 6) (u 7) (u 8)) (kA b 9)) ([.ref (b 0), .int x1] : List Value).toArray s 0 0 (kA b 9)) (F0 m 21 ls []) := by
      clear hE
      intro n21
      induction n21 with
      | zero =>
        intro i21 f21_0_3 H locs hm21 hi21 hP hS ls hl hE
        exact absurd hm21 (by omega)
      | succ n21 ih21 =>
        intro i21 f21_0_3 H locs hm21 hi21 hP hS ls hl hE
        have hD := dMod (E := E) hj (u 0 0) (u 0 1) (u 0 2) (u 0 3) (u 0 4) (u 0 5) (u 0 6) (u 0 7) (u 1) (u 2) f21_0_3 (upd (u 4) (x1).toNatClampNeg (vp_nar .boolean 1)) (u 5) (u 6) (u 7) (u 8)
        replace hE := hE.trans mX6_save_L21_s
        refine lv_iload_n hx hb dX6_save_21 rfl (lv_at hl 0 rfl) ?_
        refine lv_sipush (v := 279) hx hb dX6_save_22 (by decide) ?_
        refine lv_icmp_ge (tgt := 52) hx hb dX6_save_25 (by decide) (fun c_2 => ?_) (fun c_2 => ?_)
        · replace hE := hE.trans (if_pos c_2)
          refine lv_aload_n hx hb dX6_save_52 rfl (lv_at hl 1 rfl) ?_
          refine va_get (D := E.1) (ci := 5) (v := .ref (b 1)) (C := RX6) (T := TX6) (N := 16) hx hb hts hiX6 hown hK.1 hP 0 rfl rfl 0 (by decide) hf7 (fun _ h9 => h9) rfl dX6_save_53 ?_
          refine lv_iconst (v := 2) hx hb dX6_save_56 (by decide) ?_
          refine va_iald (D := E.1) hx hb hK.1 hP 1 0 rfl rfl (vp_in_nI (n := 2) (by decide) (by decide)) dX6_save_57 ?_
          refine W.eq (g2 := F0 m 58 ls [.int ((u 1) 2)]) rfl ?_
          subst R
          exact W.iret (v := ((u 1) 2)) hx hb hr (fun t ht hW => ⟨rfl, by rw [ht]; exact hP, hS.F ht⟩) hS.2.2 dX6_save_58
        · replace hE := hE.trans (if_neg c_2)
          have hbc_2 : i21 < 279 := nI_nle_lt ⟨by omega, by omega⟩ c_2
          refine lv_aload_n hx hb dX6_save_28 rfl (lv_at hl 1 rfl) ?_
          refine va_get (D := E.1) (ci := 5) (v := .ref (b 3)) (C := RX6) (T := TX6) (N := 16) hx hb hts hiX6 hown hK.1 hP 0 rfl rfl 2 (by decide) hf16 (fun _ h9 => h9) rfl dX6_save_29 ?_
          refine lv_iload_n hx hb dX6_save_32 rfl (lv_at hl 2 rfl) ?_
          refine lv_sipush (v := 279) hx hb dX6_save_33 (by decide) ?_
          refine lv_imul hx hb dX6_save_36 ?_
          refine lv_iload_n hx hb dX6_save_37 rfl (lv_at hl 0 rfl) ?_
          refine lv_iadd hx hb dX6_save_38 ?_
          refine lv_aload_n hx hb dX6_save_39 rfl (lv_at hl 1 rfl) ?_
          refine va_get (D := E.1) (ci := 5) (v := .ref (b 1)) (C := RX6) (T := TX6) (N := 16) hx hb hts hiX6 hown hK.1 hP 0 rfl rfl 0 (by decide) hf7 (fun _ h9 => h9) rfl dX6_save_40 ?_
          refine lv_iload_n hx hb dX6_save_43 rfl (lv_at hl 0 rfl) ?_
          refine va_iald (D := E.1) hx hb hK.1 hP 1 0 rfl rfl (vp_in_nI (by omega) (by omega)) dX6_save_44 ?_
          refine va_iast (D := E.1) hx hb hK.1 hP hD hS 3 0 rfl rfl (slotIn hsl (by omega)) dX6_save_45 (fun H locs hP _ hS => ?_)
          have hP : va_P E.1 vwCl (wModx E b (u 0 0) (u 0 1) (u 0 2) (u 0 3) (u 0 4) (u 0 5) (u 0 6) (u 0 7) (u 1) (u 2) (upd f21_0_3 (((x1 * 279) + (nI i21))).toNatClampNeg ((u 1) ((nI i21)).toNatClampNeg)) (upd (u 4) (x1).toNatClampNeg (vp_nar .boolean 1)) (u 5) (u 6) (u 7) (u 8)) H := hP
          have hD := dMod (E := E) hj (u 0 0) (u 0 1) (u 0 2) (u 0 3) (u 0 4) (u 0 5) (u 0 6) (u 0 7) (u 1) (u 2) (upd f21_0_3 (((x1 * 279) + (nI i21))).toNatClampNeg ((u 1) ((nI i21)).toNatClampNeg)) (upd (u 4) (x1).toNatClampNeg (vp_nar .boolean 1)) (u 5) (u 6) (u 7) (u 8)
          refine lv_iinc (v := (nI (i21 + 1))) (lv' := [(2, .int (nI (i21 + 1))), (0, .ref (b 0)), (1, .int x1)]) hx hb dX6_save_46 hl (k := 0) rfl (nI_1 i21) (by decide) rfl (fun ls hl => ?_)
          refine lv_goto (tgt := 21) hx hb dX6_save_49 (by decide) ?_
          exact ih21 (i21 + 1) (upd f21_0_3 (((x1 * 279) + (nI i21))).toNatClampNeg ((u 1) ((nI i21)).toNatClampNeg)) _ _ (by omega) (by omega) hP hS ls (lv_sub hl [0, 1, 2] rfl) hE
    exact lp21 280 0 (u 3) _ _ (by omega) (by omega) hP hS ls (lv_sub hl [0, 1, 2] rfl) hE
  · replace hE := hE.trans (if_pos c_1)
    refine lv_bipush (v := (-2)) hx hb dX6_save_9 (by decide) ?_
    subst R
    exact W.iret (v := (-2)) hx hb hr (fun t ht hW => ⟨rfl, by rw [ht]; exact hP, hS.F ht⟩) hS.2.2 dX6_save_11
def mX6_restore_L30 (u : kG) (x1 : Int32) (g_3 : (Int32 × (Nat → Int32))) : Nat → Nat → (Nat → Int32) → (Int32 × Int32 × (Nat → Int32) × (Nat → Int32))
  | 0, _, _ => (0, 0, (fun _ => 0), (fun _ => 0))
  | n30 + 1, i30, f30_0_1 =>
    if 279 ≤ (nI i30) then
      ((f30_0_1 2), (g_3.1), f30_0_1, (g_3.2))
    else
      mX6_restore_L30 u x1 g_3 n30 (i30 + 1) (upd f30_0_1 ((nI i30)).toNatClampNeg ((u 3) (((x1 * 279) + (nI i30))).toNatClampNeg))
theorem mX6_restore_L30_s {u : kG} {x1 : Int32} {g_3 : (Int32 × (Nat → Int32))} {n30 : Nat} {i30 : Nat} {f30_0_1 : (Nat → Int32)} : mX6_restore_L30 u x1 g_3 (n30 + 1) i30 f30_0_1 = (
    if 279 ≤ (nI i30) then
      ((f30_0_1 2), (g_3.1), f30_0_1, (g_3.2))
    else
      mX6_restore_L30 u x1 g_3 n30 (i30 + 1) (upd f30_0_1 ((nI i30)).toNatClampNeg ((u 3) (((x1 * 279) + (nI i30))).toNatClampNeg)) : Int32 × Int32 × (Nat → Int32) × (Nat → Int32)) := rfl
def mX6_restore (u : kG) (x1 : Int32) : Int32 × Int32 × (Nat → Int32) × (Nat → Int32) :=
  if (mX6_in x1 0 1) = 0 then
    ((-2), (u 0 0), (u 1), (u 2))
  else
    if ((u 4) (x1).toNatClampNeg) = 0 then
      ((-5), (u 0 0), (u 1), (u 2))
    else
      (fun (g_3 : Int32 × (Nat → Int32)) =>
        mX6_restore_L30 u x1 g_3 280 0 (u 1))
        (mX6_record u)
theorem mX6_restore_s {u : kG} {x1 : Int32} : mX6_restore u x1 = (
  if (mX6_in x1 0 1) = 0 then
    ((-2), (u 0 0), (u 1), (u 2))
  else
    if ((u 4) (x1).toNatClampNeg) = 0 then
      ((-5), (u 0 0), (u 1), (u 2))
    else
      (fun (g_3 : Int32 × (Nat → Int32)) =>
        mX6_restore_L30 u x1 g_3 280 0 (u 1))
        (mX6_record u) : Int32 × Int32 × (Nat → Int32) × (Nat → Int32)) := rfl
set_option maxHeartbeats 400000 in
set_option maxRecDepth 100000 in
theorem c_X6_restore (l : Launch) (E : kE) (b : Nat → Nat) (u : kG) (hj : kInj b 9) (x1 : Int32) (hpm : bOK 6 (u 0 0)) (R : Int32 × Int32 × (Nat → Int32) × (Nat → Int32)) (hE : R = mX6_restore u x1) : Met l yX6_restore wsX6_restore ({ frames := 1, cells := 0, slots := 0, locals := 22 }) (kPre E [.ref (b 0), .int x1] (wModx E b (u 0 0) (u 0 1) (u 0 2) (u 0 3) (u 0 4) (u 0 5) (u 0 6) (u 0 7) (u 1) (u 2) (u 3) (u 4) (u 5) (u 6) (u 7) (u 8))) (kWi E R.1 (wModx E b R.2.1 (u 0 1) (u 0 2) (u 0 3) (u 0 4) (u 0 5) (u 0 6) (u 0 7) R.2.2.1 R.2.2.2 (u 3) (u 4) (u 5) (u 6) (u 7) (u 8)) (kA b 9)) 0 0 (kA b 9) := by
  refine Met.ofW (cc := cX6_restore) (maxL := 3) (ret := (some .int)) (by decide) rfl ?_
  intro p e s m args below meth c s₁ B hml hv
  obtain ⟨rfl, hK, hP⟩ := hv
  have hx := B.exec
  have hb := B.bytes
  have hr := B.returns
  have hts := atoms_spec (ws := wsX6_restore) B.pre
  have hown : s.vm.findClass RX6 = some m.cls := findClass_of_methodNamed B.named
  have hlocks := B.notSynchronized
  have hiX6 : ∀ w ∈ wsX60, w ∈ wsX6_restore := by decide +kernel
  have hf7 := hts (.fieldLink RX6 7 "SkewEdgesModel" "z" "[I") (by decide +kernel)
  have hf16 := hts (.fieldLink RX6 16 "SkewEdgesModel" "slots" "[I") (by decide +kernel)
  have hf19 := hts (.fieldLink RX6 19 "SkewEdgesModel" "isSaved" "[Z") (by decide +kernel)
  have hS : va_S (kA b 9) s.heap s.heap [] := va_S.rf
  have hP : va_P E.1 vwCl (wModx E b (u 0 0) (u 0 1) (u 0 2) (u 0 3) (u 0 4) (u 0 5) (u 0 6) (u 0 7) (u 1) (u 2) (u 3) (u 4) (u 5) (u 6) (u 7) (u 8)) s.heap := hP
  have hD := dMod (E := E) hj (u 0 0) (u 0 1) (u 0 2) (u 0 3) (u 0 4) (u 0 5) (u 0 6) (u 0 7) (u 1) (u 2) (u 3) (u 4) (u 5) (u 6) (u 7) (u 8)
  have hl := lv_entry ([.ref (b 0), .int x1]) (n := 3) (Nat.le_of_ble_eq_true rfl)
  rw [lg_entry_eq]
  generalize (lg_sl ([.ref (b 0), .int x1]) ++ List.replicate (3 - (lg_sl ([.ref (b 0), .int x1])).length) Slot.unset).toArray = ls at hl ⊢
  have hl : lv_has ls 3 [(0, .ref (b 0)), (1, .int x1)] := hl
  replace hE := hE.trans mX6_restore_s
  refine lv_iload_n hx hb dX6_restore_0 rfl (lv_at hl 1 rfl) ?_
  refine lv_iconst (v := 0) hx hb dX6_restore_1 (by decide) ?_
  refine lv_iconst (v := 1) hx hb dX6_restore_2 (by decide) ?_
  refine kCallRi (va_runS (As := [.int x1, .int 0, .int 1]) (rest := []) ⟨hx, hb, hml, hown, hts⟩ (c_X6_in l E x1 0 1 _ rfl) (va_cwS 3 hts gX6_restore_X6_in rfl rfl rfl (by decide +kernel) ⟨Nat.le_of_ble_eq_true rfl, Nat.le_of_ble_eq_true rfl⟩) (kPreS hK kP0) rfl rfl hl.1 rfl (lv_room (Nat.le_of_ble_eq_true rfl)) dX6_restore_3 ⟨Nat.zero_le _, Nat.zero_le _⟩) ?_
  refine lv_if_ne (tgt := 12) hx hb dX6_restore_6 (by decide) (fun c_1 => ?_) (fun c_1 => ?_)
  · replace hE := hE.trans (if_neg c_1)
    have hsl := in_bOK (N := 1) (by decide) c_1
    refine lv_aload_n hx hb dX6_restore_12 rfl (lv_at hl 0 rfl) ?_
    refine va_get (D := E.1) (ci := 5) (v := .ref (b 4)) (C := RX6) (T := TX6) (N := 16) hx hb hts hiX6 hown hK.1 hP 0 rfl rfl 3 (by decide) hf19 (fun _ h9 => h9) rfl dX6_restore_13 ?_
    refine lv_iload_n hx hb dX6_restore_16 rfl (lv_at hl 1 rfl) ?_
    refine va_zald (D := E.1) hx hb hK.1 hP 4 1 rfl rfl hsl.in2 dX6_restore_17 ?_
    refine lv_if_ne (tgt := 24) hx hb dX6_restore_18 (by decide) (fun c_2 => ?_) (fun c_2 => ?_)
    · replace hE := hE.trans (if_neg c_2)
      refine lv_aload_n hx hb dX6_restore_24 rfl (lv_at hl 0 rfl) ?_
      refine kCallWv (va_runV (As := []) (rest := []) ⟨hx, hb, hml, hown, hts⟩ (c_X6_record l E b u hj (by first | assumption | exact tOK.nI (by omega)) _ rfl) (cwV 0 hts gX6_restore_X6_record rfl rfl rfl (by decide +kernel) ⟨Nat.le_of_ble_eq_true rfl, Nat.le_of_ble_eq_true rfl⟩) (kPreV hK hP hP (q0 := 0) rfl rfl) rfl rfl hl.1 rfl (lv_room (Nat.le_of_ble_eq_true rfl)) dX6_restore_25 ⟨Nat.zero_le _, Nat.zero_le _⟩) hS (fun _ h => h) (fun H locs hP _ _ hS => ?_)
      refine kGen (mX6_record u) (fun g_3 hg_3 => ?_)
      rw [hg_3] at hE hP
      try dsimp only at hE
      have hP : va_P E.1 vwCl (wModx E b (g_3.1) (u 0 1) (u 0 2) (u 0 3) (u 0 4) (u 0 5) (u 0 6) (u 0 7) (u 1) (g_3.2) (u 3) (u 4) (u 5) (u 6) (u 7) (u 8)) H := hP
      have hD := dMod (E := E) hj (g_3.1) (u 0 1) (u 0 2) (u 0 3) (u 0 4) (u 0 5) (u 0 6) (u 0 7) (u 1) (g_3.2) (u 3) (u 4) (u 5) (u 6) (u 7) (u 8)
      refine lv_iconst (v := 0) hx hb dX6_restore_28 (by decide) ?_
      refine lv_istore_n (lv' := [(2, .int 0), (0, .ref (b 0)), (1, .int x1)]) hx hb dX6_restore_29 rfl hl (by decide) rfl (fun ls hl => ?_)
      have lp30 : ∀ (n30 : Nat) (i30 : Nat) (f30_0_1 : (Nat → Int32)) (H : Heap) (locs : List Loc), (279 < i30 + n30) → (i30 ≤ 279) → va_P E.1 vwCl (wModx E b (g_3.1) (u 0 1) (u 0 2) (u 0 3) (u 0 4) (u 0 5) (u 0 6) (u 0 7) f30_0_1 (g_3.2) (u 3) (u 4) (u 5) (u 6) (u 7) (u 8)) H → va_S (kA b 9) s.heap H locs → ∀ ls : Array Slot, lv_has ls 3 [(2, .int (nI i30)), (0, .ref (b 0)), (1, .int x1)] → R = mX6_restore_L30 u x1 g_3 n30 i30 f30_0_1 → W p l e ({ frames := 1, cells := 0, slots := 0, locals := 22 }) s m ([.ref (b 0), .int x1] : List Value).toArray below meth c H locs 0 0 (MQ below (kWi E R.1 (wModx E b R.2.1 (u 0 1) (u 0 2) (u 0 3) (u 0 4) (u 0 5) (u 0 6) (u 0 7) R.2.2.1 R.2.2.2 (u 3) (u 4) (u 5) (u 6) (u 7) (u 8)) (kA b 9)) ([.ref (b 0), .int x1] : List Value).toArray s 0 0 (kA b 9)) (F0 m 30 ls []) := by
        clear hE
        intro n30
        induction n30 with
        | zero =>
          intro i30 f30_0_1 H locs hm30 hi30 hP hS ls hl hE
          exact absurd hm30 (by omega)
        | succ n30 ih30 =>
          intro i30 f30_0_1 H locs hm30 hi30 hP hS ls hl hE
          have hD := dMod (E := E) hj (g_3.1) (u 0 1) (u 0 2) (u 0 3) (u 0 4) (u 0 5) (u 0 6) (u 0 7) f30_0_1 (g_3.2) (u 3) (u 4) (u 5) (u 6) (u 7) (u 8)
          replace hE := hE.trans mX6_restore_L30_s
          refine lv_iload_n hx hb dX6_restore_30 rfl (lv_at hl 0 rfl) ?_
          refine lv_sipush (v := 279) hx hb dX6_restore_31 (by decide) ?_
          refine lv_icmp_ge (tgt := 61) hx hb dX6_restore_34 (by decide) (fun c_4 => ?_) (fun c_4 => ?_)
          · replace hE := hE.trans (if_pos c_4)
            refine lv_aload_n hx hb dX6_restore_61 rfl (lv_at hl 1 rfl) ?_
            refine va_get (D := E.1) (ci := 5) (v := .ref (b 1)) (C := RX6) (T := TX6) (N := 16) hx hb hts hiX6 hown hK.1 hP 0 rfl rfl 0 (by decide) hf7 (fun _ h9 => h9) rfl dX6_restore_62 ?_
            refine lv_iconst (v := 2) hx hb dX6_restore_65 (by decide) ?_
            refine va_iald (D := E.1) hx hb hK.1 hP 1 0 rfl rfl (vp_in_nI (n := 2) (by decide) (by decide)) dX6_restore_66 ?_
            refine W.eq (g2 := F0 m 67 ls [.int (f30_0_1 2)]) rfl ?_
            subst R
            exact W.iret (v := (f30_0_1 2)) hx hb hr (fun t ht hW => ⟨rfl, by rw [ht]; exact hP, hS.F ht⟩) hS.2.2 dX6_restore_67
          · replace hE := hE.trans (if_neg c_4)
            have hbc_4 : i30 < 279 := nI_nle_lt ⟨by omega, by omega⟩ c_4
            refine lv_aload_n hx hb dX6_restore_37 rfl (lv_at hl 1 rfl) ?_
            refine va_get (D := E.1) (ci := 5) (v := .ref (b 1)) (C := RX6) (T := TX6) (N := 16) hx hb hts hiX6 hown hK.1 hP 0 rfl rfl 0 (by decide) hf7 (fun _ h9 => h9) rfl dX6_restore_38 ?_
            refine lv_iload_n hx hb dX6_restore_41 rfl (lv_at hl 0 rfl) ?_
            refine lv_aload_n hx hb dX6_restore_42 rfl (lv_at hl 1 rfl) ?_
            refine va_get (D := E.1) (ci := 5) (v := .ref (b 3)) (C := RX6) (T := TX6) (N := 16) hx hb hts hiX6 hown hK.1 hP 0 rfl rfl 2 (by decide) hf16 (fun _ h9 => h9) rfl dX6_restore_43 ?_
            refine lv_iload_n hx hb dX6_restore_46 rfl (lv_at hl 2 rfl) ?_
            refine lv_sipush (v := 279) hx hb dX6_restore_47 (by decide) ?_
            refine lv_imul hx hb dX6_restore_50 ?_
            refine lv_iload_n hx hb dX6_restore_51 rfl (lv_at hl 0 rfl) ?_
            refine lv_iadd hx hb dX6_restore_52 ?_
            refine va_iald (D := E.1) hx hb hK.1 hP 3 0 rfl rfl (slotIn hsl (by omega)) dX6_restore_53 ?_
            refine va_iast (D := E.1) hx hb hK.1 hP hD hS 1 0 rfl rfl (vp_in_nI (by omega) (by omega)) dX6_restore_54 (fun H locs hP _ hS => ?_)
            have hP : va_P E.1 vwCl (wModx E b (g_3.1) (u 0 1) (u 0 2) (u 0 3) (u 0 4) (u 0 5) (u 0 6) (u 0 7) (upd f30_0_1 ((nI i30)).toNatClampNeg ((u 3) (((x1 * 279) + (nI i30))).toNatClampNeg)) (g_3.2) (u 3) (u 4) (u 5) (u 6) (u 7) (u 8)) H := hP
            have hD := dMod (E := E) hj (g_3.1) (u 0 1) (u 0 2) (u 0 3) (u 0 4) (u 0 5) (u 0 6) (u 0 7) (upd f30_0_1 ((nI i30)).toNatClampNeg ((u 3) (((x1 * 279) + (nI i30))).toNatClampNeg)) (g_3.2) (u 3) (u 4) (u 5) (u 6) (u 7) (u 8)
            refine lv_iinc (v := (nI (i30 + 1))) (lv' := [(2, .int (nI (i30 + 1))), (0, .ref (b 0)), (1, .int x1)]) hx hb dX6_restore_55 hl (k := 0) rfl (nI_1 i30) (by decide) rfl (fun ls hl => ?_)
            refine lv_goto (tgt := 30) hx hb dX6_restore_58 (by decide) ?_
            exact ih30 (i30 + 1) (upd f30_0_1 ((nI i30)).toNatClampNeg ((u 3) (((x1 * 279) + (nI i30))).toNatClampNeg)) _ _ (by omega) (by omega) hP hS ls (lv_sub hl [0, 1, 2] rfl) hE
      exact lp30 280 0 (u 1) _ _ (by omega) (by omega) hP hS ls (lv_sub hl [0, 1, 2] rfl) hE
    · replace hE := hE.trans (if_pos c_2)
      refine lv_bipush (v := (-5)) hx hb dX6_restore_21 (by decide) ?_
      subst R
      exact W.iret (v := (-5)) hx hb hr (fun t ht hW => ⟨rfl, by rw [ht]; exact hP, hS.F ht⟩) hS.2.2 dX6_restore_23
  · replace hE := hE.trans (if_pos c_1)
    refine lv_bipush (v := (-2)) hx hb dX6_restore_9 (by decide) ?_
    subst R
    exact W.iret (v := (-2)) hx hb hr (fun t ht hW => ⟨rfl, by rw [ht]; exact hP, hS.F ht⟩) hS.2.2 dX6_restore_11
