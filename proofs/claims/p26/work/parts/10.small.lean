def mX5_isKey (x1 : Int32) : Int32 :=
  if x1 < 0 then
    0
  else
    if 16 ≤ x1 then
      0
    else
      1
theorem mX5_isKey_s {x1 : Int32} : mX5_isKey x1 = (
  if x1 < 0 then
    0
  else
    if 16 ≤ x1 then
      0
    else
      1 : Int32) := rfl
set_option maxHeartbeats 400000 in
set_option maxRecDepth 100000 in
theorem c_X5_isKey (l : Launch) (E : kE) (x1 : Int32) (R : Int32) (hE : R = mX5_isKey x1) : Met l yX5_isKey wsX5_isKey ({ frames := 0, cells := 0, slots := 0, locals := 0 }) (kPre E [.int x1] []) (kRi R) 0 0 (fun _ => False) := by
  refine Met.ofW (cc := cX5_isKey) (maxL := 1) (ret := (some .boolean)) (by decide) rfl ?_
  intro p e s m args below meth c s₁ B hml hv
  obtain ⟨rfl, hK, hP⟩ := hv
  have hx := B.exec
  have hb := B.bytes
  have hr := B.returns
  have hts := atoms_spec (ws := wsX5_isKey) B.pre
  have hown : s.vm.findClass RX5 = some m.cls := findClass_of_methodNamed B.named
  have hlocks := B.notSynchronized
  have hl := lv_entry ([.int x1]) (n := 1) (Nat.le_of_ble_eq_true rfl)
  rw [lg_entry_eq]
  generalize (lg_sl ([.int x1]) ++ List.replicate (1 - (lg_sl ([.int x1])).length) Slot.unset).toArray = ls at hl ⊢
  have hl : lv_has ls 1 [(0, .int x1)] := hl
  replace hE := hE.trans mX5_isKey_s
  refine lv_iload_n hx hb dX5_isKey_0 rfl (lv_at hl 0 rfl) ?_
  refine lv_if_lt (tgt := 14) hx hb dX5_isKey_1 (by decide) (fun c_1 => ?_) (fun c_1 => ?_)
  · replace hE := hE.trans (if_pos c_1)
    refine lv_iconst (v := 0) hx hb dX5_isKey_14 (by decide) ?_
    subst R
    exact W.zret (v := 0) (ty := .boolean) hx hb hr rfl (fun t ht hW => ⟨rfl, ht⟩) (fun _ h => by cases h) dX5_isKey_15
  · replace hE := hE.trans (if_neg c_1)
    refine lv_iload_n hx hb dX5_isKey_4 rfl (lv_at hl 0 rfl) ?_
    refine lv_bipush (v := 16) hx hb dX5_isKey_5 (by decide) ?_
    refine lv_icmp_ge (tgt := 14) hx hb dX5_isKey_7 (by decide) (fun c_2 => ?_) (fun c_2 => ?_)
    · replace hE := hE.trans (if_pos c_2)
      refine lv_iconst (v := 0) hx hb dX5_isKey_14 (by decide) ?_
      subst R
      exact W.zret (v := 0) (ty := .boolean) hx hb hr rfl (fun t ht hW => ⟨rfl, ht⟩) (fun _ h => by cases h) dX5_isKey_15
    · replace hE := hE.trans (if_neg c_2)
      refine lv_iconst (v := 1) hx hb dX5_isKey_10 (by decide) ?_
      refine lv_goto (tgt := 15) hx hb dX5_isKey_11 (by decide) ?_
      subst R
      exact W.zret (v := 1) (ty := .boolean) hx hb hr rfl (fun t ht hW => ⟨rfl, ht⟩) (fun _ h => by cases h) dX5_isKey_15
theorem isKey_ok {k : Int32} (c : ¬ mX5_isKey k = 0) : yOK k := by
  unfold mX5_isKey at c
  split at c
  · exact absurd rfl c
  · rename_i h
    split at c
    · exact absurd rfl c
    · rename_i h2
      obtain ⟨j, hj, rfl⟩ := nI_of h
      rcases Nat.lt_or_ge j 16 with q | q
      · exact ⟨j, q, rfl⟩
      · exact absurd (nI_le (a := 16) q hj) h2
def mX5_isRule (x1 : Int32) : Int32 :=
  if x1 < 0 then
    0
  else
    if 4 ≤ x1 then
      0
    else
      1
theorem mX5_isRule_s {x1 : Int32} : mX5_isRule x1 = (
  if x1 < 0 then
    0
  else
    if 4 ≤ x1 then
      0
    else
      1 : Int32) := rfl
set_option maxHeartbeats 400000 in
set_option maxRecDepth 100000 in
theorem c_X5_isRule (l : Launch) (E : kE) (x1 : Int32) (R : Int32) (hE : R = mX5_isRule x1) : Met l yX5_isRule wsX5_isRule ({ frames := 0, cells := 0, slots := 0, locals := 0 }) (kPre E [.int x1] []) (kRi R) 0 0 (fun _ => False) := by
  refine Met.ofW (cc := cX5_isRule) (maxL := 1) (ret := (some .boolean)) (by decide) rfl ?_
  intro p e s m args below meth c s₁ B hml hv
  obtain ⟨rfl, hK, hP⟩ := hv
  have hx := B.exec
  have hb := B.bytes
  have hr := B.returns
  have hts := atoms_spec (ws := wsX5_isRule) B.pre
  have hown : s.vm.findClass RX5 = some m.cls := findClass_of_methodNamed B.named
  have hlocks := B.notSynchronized
  have hl := lv_entry ([.int x1]) (n := 1) (Nat.le_of_ble_eq_true rfl)
  rw [lg_entry_eq]
  generalize (lg_sl ([.int x1]) ++ List.replicate (1 - (lg_sl ([.int x1])).length) Slot.unset).toArray = ls at hl ⊢
  have hl : lv_has ls 1 [(0, .int x1)] := hl
  replace hE := hE.trans mX5_isRule_s
  refine lv_iload_n hx hb dX5_isRule_0 rfl (lv_at hl 0 rfl) ?_
  refine lv_if_lt (tgt := 13) hx hb dX5_isRule_1 (by decide) (fun c_1 => ?_) (fun c_1 => ?_)
  · replace hE := hE.trans (if_pos c_1)
    refine lv_iconst (v := 0) hx hb dX5_isRule_13 (by decide) ?_
    subst R
    exact W.zret (v := 0) (ty := .boolean) hx hb hr rfl (fun t ht hW => ⟨rfl, ht⟩) (fun _ h => by cases h) dX5_isRule_14
  · replace hE := hE.trans (if_neg c_1)
    refine lv_iload_n hx hb dX5_isRule_4 rfl (lv_at hl 0 rfl) ?_
    refine lv_iconst (v := 4) hx hb dX5_isRule_5 (by decide) ?_
    refine lv_icmp_ge (tgt := 13) hx hb dX5_isRule_6 (by decide) (fun c_2 => ?_) (fun c_2 => ?_)
    · replace hE := hE.trans (if_pos c_2)
      refine lv_iconst (v := 0) hx hb dX5_isRule_13 (by decide) ?_
      subst R
      exact W.zret (v := 0) (ty := .boolean) hx hb hr rfl (fun t ht hW => ⟨rfl, ht⟩) (fun _ h => by cases h) dX5_isRule_14
    · replace hE := hE.trans (if_neg c_2)
      refine lv_iconst (v := 1) hx hb dX5_isRule_9 (by decide) ?_
      refine lv_goto (tgt := 14) hx hb dX5_isRule_10 (by decide) ?_
      subst R
      exact W.zret (v := 1) (ty := .boolean) hx hb hr rfl (fun t ht hW => ⟨rfl, ht⟩) (fun _ h => by cases h) dX5_isRule_14
def mX5_contains (x1 : Int32) (x2 : Int32) : Int32 :=
  if ((x1 >>> (x2 &&& 31)) &&& 1) = 1 then
    1
  else
    0
theorem mX5_contains_s {x1 : Int32} {x2 : Int32} : mX5_contains x1 x2 = (
  if ((x1 >>> (x2 &&& 31)) &&& 1) = 1 then
    1
  else
    0 : Int32) := rfl
set_option maxHeartbeats 400000 in
set_option maxRecDepth 100000 in
theorem c_X5_contains (l : Launch) (E : kE) (x1 : Int32) (x2 : Int32) (R : Int32) (hE : R = mX5_contains x1 x2) : Met l yX5_contains wsX5_contains ({ frames := 0, cells := 0, slots := 0, locals := 0 }) (kPre E [.int x1, .int x2] []) (kRi R) 0 0 (fun _ => False) := by
  refine Met.ofW (cc := cX5_contains) (maxL := 2) (ret := (some .boolean)) (by decide) rfl ?_
  intro p e s m args below meth c s₁ B hml hv
  obtain ⟨rfl, hK, hP⟩ := hv
  have hx := B.exec
  have hb := B.bytes
  have hr := B.returns
  have hts := atoms_spec (ws := wsX5_contains) B.pre
  have hown : s.vm.findClass RX5 = some m.cls := findClass_of_methodNamed B.named
  have hlocks := B.notSynchronized
  have hl := lv_entry ([.int x1, .int x2]) (n := 2) (Nat.le_of_ble_eq_true rfl)
  rw [lg_entry_eq]
  generalize (lg_sl ([.int x1, .int x2]) ++ List.replicate (2 - (lg_sl ([.int x1, .int x2])).length) Slot.unset).toArray = ls at hl ⊢
  have hl : lv_has ls 2 [(0, .int x1), (1, .int x2)] := hl
  replace hE := hE.trans mX5_contains_s
  refine lv_iload_n hx hb dX5_contains_0 rfl (lv_at hl 0 rfl) ?_
  refine lv_iload_n hx hb dX5_contains_1 rfl (lv_at hl 1 rfl) ?_
  refine lv_ishr hx hb dX5_contains_2 ?_
  refine lv_iconst (v := 1) hx hb dX5_contains_3 (by decide) ?_
  refine lv_iand hx hb dX5_contains_4 ?_
  refine lv_iconst (v := 1) hx hb dX5_contains_5 (by decide) ?_
  refine lv_icmp_ne (tgt := 13) hx hb dX5_contains_6 (by decide) (fun c_1 => ?_) (fun c_1 => ?_)
  · replace hE := hE.trans (if_neg c_1)
    refine lv_iconst (v := 0) hx hb dX5_contains_13 (by decide) ?_
    subst R
    exact W.zret (v := 0) (ty := .boolean) hx hb hr rfl (fun t ht hW => ⟨rfl, ht⟩) (fun _ h => by cases h) dX5_contains_14
  · replace hE := hE.trans (if_pos c_1)
    refine lv_iconst (v := 1) hx hb dX5_contains_9 (by decide) ?_
    refine lv_goto (tgt := 14) hx hb dX5_contains_10 (by decide) ?_
    subst R
    exact W.zret (v := 1) (ty := .boolean) hx hb hr rfl (fun t ht hW => ⟨rfl, ht⟩) (fun _ h => by cases h) dX5_contains_14
def kb1 (x : Int32) : Int32 := x - ((x.toUInt32 >>> ((1 : Int32).toUInt32 &&& Int32.toUInt32 31)).toInt32 &&& 1431655765)
def kb2 (x : Int32) : Int32 := (x &&& 858993459) + ((x.toUInt32 >>> ((2 : Int32).toUInt32 &&& Int32.toUInt32 31)).toInt32 &&& 858993459)
def kb3 (x : Int32) : Int32 := (x + (x.toUInt32 >>> ((4 : Int32).toUInt32 &&& Int32.toUInt32 31)).toInt32) &&& 252645135
def kb4 (x : Int32) : Int32 := x + (x.toUInt32 >>> ((8 : Int32).toUInt32 &&& Int32.toUInt32 31)).toInt32
def kb5 (x : Int32) : Int32 := x + (x.toUInt32 >>> ((16 : Int32).toUInt32 &&& Int32.toUInt32 31)).toInt32
def mJ6_bitCount_0f7a4 (x1 : Int32) : Int32 :=
  ((kb5 (kb4 (kb3 (kb2 (kb1 x1))))) &&& 63)
theorem mJ6_bitCount_0f7a4_s {x1 : Int32} : mJ6_bitCount_0f7a4 x1 = (
  ((kb5 (kb4 (kb3 (kb2 (kb1 x1))))) &&& 63) : Int32) := rfl
set_option maxHeartbeats 400000 in
set_option maxRecDepth 100000 in
theorem c_J6_bitCount_0f7a4 (l : Launch) (E : kE) (x1 : Int32) (R : Int32) (hE : R = mJ6_bitCount_0f7a4 x1) : Met l yJ6_bitCount_0f7a4 wsJ6_bitCount_0f7a4 ({ frames := 0, cells := 0, slots := 0, locals := 0 }) (kPre E [.int x1] []) (kRi R) 0 0 (fun _ => False) := by
  refine Met.ofW (cc := cJ6_bitCount_0f7a4) (maxL := 1) (ret := (some .int)) (by decide) rfl ?_
  intro p e s m args below meth c s₁ B hml hv
  obtain ⟨rfl, hK, hP⟩ := hv
  have hx := B.exec
  have hb := B.bytes
  have hr := B.returns
  have hts := atoms_spec (ws := wsJ6_bitCount_0f7a4) B.pre
  have hown : s.vm.findClass RJ6 = some m.cls := findClass_of_methodNamed B.named
  have hlocks := B.notSynchronized
  have hl := lv_entry ([.int x1]) (n := 1) (Nat.le_of_ble_eq_true rfl)
  rw [lg_entry_eq]
  generalize (lg_sl ([.int x1]) ++ List.replicate (1 - (lg_sl ([.int x1])).length) Slot.unset).toArray = ls at hl ⊢
  have hl : lv_has ls 1 [(0, .int x1)] := hl
  replace hE := hE.trans mJ6_bitCount_0f7a4_s
  refine lv_iload_n hx hb dJ6_bitCount_0f7a4_0 rfl (lv_at hl 0 rfl) ?_
  refine lv_iload_n hx hb dJ6_bitCount_0f7a4_1 rfl (lv_at hl 0 rfl) ?_
  refine lv_iconst (v := 1) hx hb dJ6_bitCount_0f7a4_2 (by decide) ?_
  refine lv_iushr (v := (((x1).toUInt32 >>> ((1 : Int32).toUInt32 &&& Int32.toUInt32 31)).toInt32)) hx hb dJ6_bitCount_0f7a4_3 rfl ?_
  refine lv_ldcw (v := 1431655765) hx hb hown (hts (.constant RJ6 265 (1431655765)) (by decide +kernel)) dJ6_bitCount_0f7a4_4 ?_
  refine lv_iand hx hb dJ6_bitCount_0f7a4_7 ?_
  refine lv_isub hx hb dJ6_bitCount_0f7a4_8 ?_
  refine lv_istore_n (lv' := [(0, .int (kb1 x1))]) hx hb dJ6_bitCount_0f7a4_9 rfl hl (by decide) rfl (fun ls hl => ?_)
  refine lv_iload_n hx hb dJ6_bitCount_0f7a4_10 rfl (lv_at hl 0 rfl) ?_
  refine lv_ldcw (v := 858993459) hx hb hown (hts (.constant RJ6 266 (858993459)) (by decide +kernel)) dJ6_bitCount_0f7a4_11 ?_
  refine lv_iand hx hb dJ6_bitCount_0f7a4_14 ?_
  refine lv_iload_n hx hb dJ6_bitCount_0f7a4_15 rfl (lv_at hl 0 rfl) ?_
  refine lv_iconst (v := 2) hx hb dJ6_bitCount_0f7a4_16 (by decide) ?_
  refine lv_iushr (v := ((((kb1 x1)).toUInt32 >>> ((2 : Int32).toUInt32 &&& Int32.toUInt32 31)).toInt32)) hx hb dJ6_bitCount_0f7a4_17 rfl ?_
  refine lv_ldcw (v := 858993459) hx hb hown (hts (.constant RJ6 266 (858993459)) (by decide +kernel)) dJ6_bitCount_0f7a4_18 ?_
  refine lv_iand hx hb dJ6_bitCount_0f7a4_21 ?_
  refine lv_iadd hx hb dJ6_bitCount_0f7a4_22 ?_
  refine lv_istore_n (lv' := [(0, .int (kb2 (kb1 x1)))]) hx hb dJ6_bitCount_0f7a4_23 rfl hl (by decide) rfl (fun ls hl => ?_)
  refine lv_iload_n hx hb dJ6_bitCount_0f7a4_24 rfl (lv_at hl 0 rfl) ?_
  refine lv_iload_n hx hb dJ6_bitCount_0f7a4_25 rfl (lv_at hl 0 rfl) ?_
  refine lv_iconst (v := 4) hx hb dJ6_bitCount_0f7a4_26 (by decide) ?_
  refine lv_iushr (v := ((((kb2 (kb1 x1))).toUInt32 >>> ((4 : Int32).toUInt32 &&& Int32.toUInt32 31)).toInt32)) hx hb dJ6_bitCount_0f7a4_27 rfl ?_
  refine lv_iadd hx hb dJ6_bitCount_0f7a4_28 ?_
  refine lv_ldcw (v := 252645135) hx hb hown (hts (.constant RJ6 267 (252645135)) (by decide +kernel)) dJ6_bitCount_0f7a4_29 ?_
  refine lv_iand hx hb dJ6_bitCount_0f7a4_32 ?_
  refine lv_istore_n (lv' := [(0, .int (kb3 (kb2 (kb1 x1))))]) hx hb dJ6_bitCount_0f7a4_33 rfl hl (by decide) rfl (fun ls hl => ?_)
  refine lv_iload_n hx hb dJ6_bitCount_0f7a4_34 rfl (lv_at hl 0 rfl) ?_
  refine lv_iload_n hx hb dJ6_bitCount_0f7a4_35 rfl (lv_at hl 0 rfl) ?_
  refine lv_bipush (v := 8) hx hb dJ6_bitCount_0f7a4_36 (by decide) ?_
  refine lv_iushr (v := ((((kb3 (kb2 (kb1 x1)))).toUInt32 >>> ((8 : Int32).toUInt32 &&& Int32.toUInt32 31)).toInt32)) hx hb dJ6_bitCount_0f7a4_38 rfl ?_
  refine lv_iadd hx hb dJ6_bitCount_0f7a4_39 ?_
  refine lv_istore_n (lv' := [(0, .int (kb4 (kb3 (kb2 (kb1 x1)))))]) hx hb dJ6_bitCount_0f7a4_40 rfl hl (by decide) rfl (fun ls hl => ?_)
  refine lv_iload_n hx hb dJ6_bitCount_0f7a4_41 rfl (lv_at hl 0 rfl) ?_
  refine lv_iload_n hx hb dJ6_bitCount_0f7a4_42 rfl (lv_at hl 0 rfl) ?_
  refine lv_bipush (v := 16) hx hb dJ6_bitCount_0f7a4_43 (by decide) ?_
  refine lv_iushr (v := ((((kb4 (kb3 (kb2 (kb1 x1))))).toUInt32 >>> ((16 : Int32).toUInt32 &&& Int32.toUInt32 31)).toInt32)) hx hb dJ6_bitCount_0f7a4_45 rfl ?_
  refine lv_iadd hx hb dJ6_bitCount_0f7a4_46 ?_
  refine lv_istore_n (lv' := [(0, .int (kb5 (kb4 (kb3 (kb2 (kb1 x1))))))]) hx hb dJ6_bitCount_0f7a4_47 rfl hl (by decide) rfl (fun ls hl => ?_)
  refine lv_iload_n hx hb dJ6_bitCount_0f7a4_48 rfl (lv_at hl 0 rfl) ?_
  refine lv_bipush (v := 63) hx hb dJ6_bitCount_0f7a4_49 (by decide) ?_
  refine lv_iand hx hb dJ6_bitCount_0f7a4_51 ?_
  subst R
  exact W.iret (v := ((kb5 (kb4 (kb3 (kb2 (kb1 x1))))) &&& 63)) hx hb hr (fun t ht hW => ⟨rfl, ht⟩) (fun _ h => by cases h) dJ6_bitCount_0f7a4_52
