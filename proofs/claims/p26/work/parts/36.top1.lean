theorem prep_ne {S : kS} (h : hisOK S) {k : Nat} (hk : k < 3 ∨ 10 ≤ k) : mX1_prepare S k = S k := by
  obtain ⟨n, hn, e⟩ := h
  unfold mX1_prepare
  have e2 : hisN S = 3 + n := by unfold hisN; rw [e, nI_clamp (by omega)]
  rw [e2]
  exact gset_ne _ _ (by omega)
theorem prep_n {S : kS} (h : hisOK S) (g : nOK (S 0 0 2)) : nOK (mX1_prepare S 0 0 2) := by rw [prep_ne h (by omega)]; exact g
def mX5_value (S : kS) (x1 : Int32) : Int32 :=
  if (mX5_isKey x1) = 0 then
    (-1)
  else
    (mX2_valueOfVersion (S 0) (mX2_writerAhead (S 0) x1 (((S 0) 0 1) + 1)) x1)
theorem mX5_value_s {S : kS} {x1 : Int32} : mX5_value S x1 = (
  if (mX5_isKey x1) = 0 then
    (-1)
  else
    (mX2_valueOfVersion (S 0) (mX2_writerAhead (S 0) x1 (((S 0) 0 1) + 1)) x1) : Int32) := rfl
set_option maxHeartbeats 400000 in
set_option maxRecDepth 100000 in
theorem c_X5_value (l : Launch) (E : kE) (ad : Nat → Nat) (S : kS) (hs : kSep ad) (x1 : Int32) (hn : nOK (S 0 0 2)) (R : Int32) (hE : R = mX5_value S x1) : Met l yX5_value wsX5_value ({ frames := 2, cells := 0, slots := 0, locals := 46 }) (kPreY E [.ref (ad 80), .int x1] ad S) (kRi R) 0 0 (fun _ => False) := by
  refine Met.ofW (cc := cX5_value) (maxL := 2) (ret := (some .int)) (by decide) rfl ?_
  intro p e s m args below meth c s₁ B hml hv
  obtain ⟨rfl, hK, hY⟩ := hv
  have hx := B.exec
  have hb := B.bytes
  have hr := B.returns
  have hts := atoms_spec (ws := wsX5_value) B.pre
  have hown : s.vm.findClass RX5 = some m.cls := findClass_of_methodNamed B.named
  have hlocks := B.notSynchronized
  have hiX5 : ∀ w ∈ wsX50, w ∈ wsX5_value := by decide +kernel
  have hiX2 : ∀ w ∈ wsX20, w ∈ wsX5_value := by decide +kernel
  have hf10 := hts (.fieldLink RX5 10 "SkewEdges" "ledger" "LSkewEdges$Ledger;") (by decide +kernel)
  have hf78 := hts (.fieldLink RX5 78 "SkewEdges$Ledger" "moment" "I") (by decide +kernel)
  have hl := lv_entry ([.ref (ad 80), .int x1]) (n := 2) (Nat.le_of_ble_eq_true rfl)
  rw [lg_entry_eq]
  generalize (lg_sl ([.ref (ad 80), .int x1]) ++ List.replicate (2 - (lg_sl ([.ref (ad 80), .int x1])).length) Slot.unset).toArray = ls at hl ⊢
  have hl : lv_has ls 2 [(0, .ref (ad 80)), (1, .int x1)] := hl
  replace hE := hE.trans mX5_value_s
  refine lv_iload_n hx hb dX5_value_0 rfl (lv_at hl 1 rfl) ?_
  refine kCallRi (va_runS (As := [.int x1]) (rest := []) ⟨hx, hb, hml, hown, hts⟩ (c_X5_isKey l E x1 _ rfl) (va_cwS 1 hts gX5_value_X5_isKey rfl rfl rfl (by decide +kernel) ⟨Nat.le_of_ble_eq_true rfl, Nat.le_of_ble_eq_true rfl⟩) (kPreS hK kP0) rfl rfl hl.1 rfl (lv_room (Nat.le_of_ble_eq_true rfl)) dX5_value_1 ⟨Nat.zero_le _, Nat.zero_le _⟩) ?_
  refine lv_if_ne (tgt := 9) hx hb dX5_value_4 (by decide) (fun c_1 => ?_) (fun c_1 => ?_)
  · replace hE := hE.trans (if_neg c_1)
    have hzc_1 := isKey_ok c_1
    refine lv_aload_n hx hb dX5_value_9 rfl (lv_at hl 0 rfl) ?_
    refine va_get (D := E.1) (ci := 4) (v := .ref (ad 0)) (C := RX5) (T := TX5) (N := 6) hx hb hts hiX5 hown hK.1 hY.2.1 0 rfl rfl 0 (by decide) hf10 (fun _ h9 => h9) rfl dX5_value_10 ?_
    refine lv_aload_n hx hb dX5_value_13 rfl (lv_at hl 0 rfl) ?_
    refine va_get (D := E.1) (ci := 4) (v := .ref (ad 0)) (C := RX5) (T := TX5) (N := 6) hx hb hts hiX5 hown hK.1 hY.2.1 0 rfl rfl 0 (by decide) hf10 (fun _ h9 => h9) rfl dX5_value_14 ?_
    refine lv_iload_n hx hb dX5_value_17 rfl (lv_at hl 1 rfl) ?_
    refine lv_aload_n hx hb dX5_value_18 rfl (lv_at hl 0 rfl) ?_
    refine va_get (D := E.1) (ci := 4) (v := .ref (ad 0)) (C := RX5) (T := TX5) (N := 6) hx hb hts hiX5 hown hK.1 hY.2.1 0 rfl rfl 0 (by decide) hf10 (fun _ h9 => h9) rfl dX5_value_19 ?_
    refine va_get (D := E.1) (ci := 1) (v := .int ((S 0) 0 1)) (C := RX2) (T := TX2) (N := 10) hx hb hts hiX2 hown hK.1 (hY.1 0 (by omega)) 0 rfl rfl 1 (by decide) hf78 (fun _ h9 => h9) rfl dX5_value_22 ?_
    refine lv_iconst (v := 1) hx hb dX5_value_25 (by decide) ?_
    refine lv_iadd hx hb dX5_value_26 ?_
    refine kCallRi (va_runV (As := [.int x1, .int (((S 0) 0 1) + 1)]) (rest := [.ref (ad 0)]) ⟨hx, hb, hml, hown, hts⟩ (c_X2_writerAhead l E (ga ad (8 * 0)) (S 0) x1 (((S 0) 0 1) + 1) (by first | assumption | exact tOK.nI (by omega)) _ rfl) (cwV 2 hts gX5_value_X2_writerAhead rfl rfl rfl (by decide +kernel) ⟨Nat.le_of_ble_eq_true rfl, Nat.le_of_ble_eq_true rfl⟩) (kPreV hK (hY.1 0 (by omega)) (hY.1 0 (by omega)) (q0 := 0) rfl rfl) rfl rfl hl.1 rfl (lv_room (Nat.le_of_ble_eq_true rfl)) dX5_value_27 ⟨Nat.zero_le _, Nat.zero_le _⟩) ?_
    refine lv_iload_n hx hb dX5_value_30 rfl (lv_at hl 1 rfl) ?_
    refine kCallRi (va_runV (As := [.int (mX2_writerAhead (S 0) x1 (((S 0) 0 1) + 1)), .int x1]) (rest := []) ⟨hx, hb, hml, hown, hts⟩ (c_X2_valueOfVersion l E (ga ad (8 * 0)) (S 0) (mX2_writerAhead (S 0) x1 (((S 0) 0 1) + 1)) x1 (by first | assumption | exact tOK.nI (by omega)) (by first | assumption | exact tOK.nI (by omega)) _ rfl) (cwV 2 hts gX5_value_X2_valueOfVersion rfl rfl rfl (by decide +kernel) ⟨Nat.le_of_ble_eq_true rfl, Nat.le_of_ble_eq_true rfl⟩) (kPreV hK (hY.1 0 (by omega)) (hY.1 0 (by omega)) (q0 := 0) rfl rfl) rfl rfl hl.1 rfl (lv_room (Nat.le_of_ble_eq_true rfl)) dX5_value_31 ⟨Nat.zero_le _, Nat.zero_le _⟩) ?_
    subst R
    exact W.iret (v := (mX2_valueOfVersion (S 0) (mX2_writerAhead (S 0) x1 (((S 0) 0 1) + 1)) x1)) hx hb hr (fun t ht hW => ⟨rfl, ht⟩) (fun _ h => by cases h) dX5_value_34
  · replace hE := hE.trans (if_pos c_1)
    refine lv_iconst (v := (-1)) hx hb dX5_value_7 (by decide) ?_
    subst R
    exact W.iret (v := (-1)) hx hb hr (fun t ht hW => ⟨rfl, ht⟩) (fun _ h => by cases h) dX5_value_8
def mX5_edge (S : kS) (x1 : Int32) (x2 : Int32) : Int32 :=
  if (mX2_exists (S 0) x1) = 0 then
    (-1)
  else
    if (mX2_exists (S 0) x2) = 0 then
      (-1)
    else
      if (mX2_edgeKeys (S 0) x1 x2) = 0 then
        0
      else
        1
theorem mX5_edge_s {S : kS} {x1 : Int32} {x2 : Int32} : mX5_edge S x1 x2 = (
  if (mX2_exists (S 0) x1) = 0 then
    (-1)
  else
    if (mX2_exists (S 0) x2) = 0 then
      (-1)
    else
      if (mX2_edgeKeys (S 0) x1 x2) = 0 then
        0
      else
        1 : Int32) := rfl
set_option maxHeartbeats 400000 in
set_option maxRecDepth 100000 in
theorem c_X5_edge (l : Launch) (E : kE) (ad : Nat → Nat) (S : kS) (hs : kSep ad) (x1 : Int32) (x2 : Int32) (hn : nOK (S 0 0 2)) (R : Int32) (hE : R = mX5_edge S x1 x2) : Met l yX5_edge wsX5_edge ({ frames := 1, cells := 0, slots := 0, locals := 22 }) (kPreY E [.ref (ad 80), .int x1, .int x2] ad S) (kRi R) 0 0 (fun _ => False) := by
  refine Met.ofW (cc := cX5_edge) (maxL := 3) (ret := (some .int)) (by decide) rfl ?_
  intro p e s m args below meth c s₁ B hml hv
  obtain ⟨rfl, hK, hY⟩ := hv
  have hx := B.exec
  have hb := B.bytes
  have hr := B.returns
  have hts := atoms_spec (ws := wsX5_edge) B.pre
  have hown : s.vm.findClass RX5 = some m.cls := findClass_of_methodNamed B.named
  have hlocks := B.notSynchronized
  have hiX5 : ∀ w ∈ wsX50, w ∈ wsX5_edge := by decide +kernel
  have hf10 := hts (.fieldLink RX5 10 "SkewEdges" "ledger" "LSkewEdges$Ledger;") (by decide +kernel)
  have hl := lv_entry ([.ref (ad 80), .int x1, .int x2]) (n := 3) (Nat.le_of_ble_eq_true rfl)
  rw [lg_entry_eq]
  generalize (lg_sl ([.ref (ad 80), .int x1, .int x2]) ++ List.replicate (3 - (lg_sl ([.ref (ad 80), .int x1, .int x2])).length) Slot.unset).toArray = ls at hl ⊢
  have hl : lv_has ls 3 [(0, .ref (ad 80)), (1, .int x1), (2, .int x2)] := hl
  replace hE := hE.trans mX5_edge_s
  refine lv_aload_n hx hb dX5_edge_0 rfl (lv_at hl 0 rfl) ?_
  refine va_get (D := E.1) (ci := 4) (v := .ref (ad 0)) (C := RX5) (T := TX5) (N := 6) hx hb hts hiX5 hown hK.1 hY.2.1 0 rfl rfl 0 (by decide) hf10 (fun _ h9 => h9) rfl dX5_edge_1 ?_
  refine lv_iload_n hx hb dX5_edge_4 rfl (lv_at hl 1 rfl) ?_
  refine kCallRi (va_runV (As := [.int x1]) (rest := []) ⟨hx, hb, hml, hown, hts⟩ (c_X2_exists l E (ga ad (8 * 0)) (S 0) x1 _ rfl) (cwV 1 hts gX5_edge_X2_exists rfl rfl rfl (by decide +kernel) ⟨Nat.le_of_ble_eq_true rfl, Nat.le_of_ble_eq_true rfl⟩) (kPreV hK (hY.1 0 (by omega)) (hY.1 0 (by omega)) (q0 := 0) rfl rfl) rfl rfl hl.1 rfl (lv_room (Nat.le_of_ble_eq_true rfl)) dX5_edge_5 ⟨Nat.zero_le _, Nat.zero_le _⟩) ?_
  refine lv_if_eq (tgt := 22) hx hb dX5_edge_8 (by decide) (fun c_1 => ?_) (fun c_1 => ?_)
  · replace hE := hE.trans (if_pos c_1)
    refine lv_iconst (v := (-1)) hx hb dX5_edge_22 (by decide) ?_
    subst R
    exact W.iret (v := (-1)) hx hb hr (fun t ht hW => ⟨rfl, ht⟩) (fun _ h => by cases h) dX5_edge_23
  · replace hE := hE.trans (if_neg c_1)
    have hzc_1 := exists_ok (by assumption) c_1
    refine lv_aload_n hx hb dX5_edge_11 rfl (lv_at hl 0 rfl) ?_
    refine va_get (D := E.1) (ci := 4) (v := .ref (ad 0)) (C := RX5) (T := TX5) (N := 6) hx hb hts hiX5 hown hK.1 hY.2.1 0 rfl rfl 0 (by decide) hf10 (fun _ h9 => h9) rfl dX5_edge_12 ?_
    refine lv_iload_n hx hb dX5_edge_15 rfl (lv_at hl 2 rfl) ?_
    refine kCallRi (va_runV (As := [.int x2]) (rest := []) ⟨hx, hb, hml, hown, hts⟩ (c_X2_exists l E (ga ad (8 * 0)) (S 0) x2 _ rfl) (cwV 1 hts gX5_edge_X2_exists rfl rfl rfl (by decide +kernel) ⟨Nat.le_of_ble_eq_true rfl, Nat.le_of_ble_eq_true rfl⟩) (kPreV hK (hY.1 0 (by omega)) (hY.1 0 (by omega)) (q0 := 0) rfl rfl) rfl rfl hl.1 rfl (lv_room (Nat.le_of_ble_eq_true rfl)) dX5_edge_16 ⟨Nat.zero_le _, Nat.zero_le _⟩) ?_
    refine lv_if_ne (tgt := 24) hx hb dX5_edge_19 (by decide) (fun c_2 => ?_) (fun c_2 => ?_)
    · replace hE := hE.trans (if_neg c_2)
      have hzc_2 := exists_ok (by assumption) c_2
      refine lv_aload_n hx hb dX5_edge_24 rfl (lv_at hl 0 rfl) ?_
      refine va_get (D := E.1) (ci := 4) (v := .ref (ad 0)) (C := RX5) (T := TX5) (N := 6) hx hb hts hiX5 hown hK.1 hY.2.1 0 rfl rfl 0 (by decide) hf10 (fun _ h9 => h9) rfl dX5_edge_25 ?_
      refine lv_iload_n hx hb dX5_edge_28 rfl (lv_at hl 1 rfl) ?_
      refine lv_iload_n hx hb dX5_edge_29 rfl (lv_at hl 2 rfl) ?_
      refine kCallRi (va_runV (As := [.int x1, .int x2]) (rest := []) ⟨hx, hb, hml, hown, hts⟩ (c_X2_edgeKeys l E (ga ad (8 * 0)) (S 0) x1 x2 (by first | assumption | exact tOK.nI (by omega)) (by first | assumption | exact tOK.nI (by omega)) _ rfl) (cwV 2 hts gX5_edge_X2_edgeKeys rfl rfl rfl (by decide +kernel) ⟨Nat.le_of_ble_eq_true rfl, Nat.le_of_ble_eq_true rfl⟩) (kPreV hK (hY.1 0 (by omega)) (hY.1 0 (by omega)) (q0 := 0) rfl rfl) rfl rfl hl.1 rfl (lv_room (Nat.le_of_ble_eq_true rfl)) dX5_edge_30 ⟨Nat.zero_le _, Nat.zero_le _⟩) ?_
      refine lv_if_eq (tgt := 40) hx hb dX5_edge_33 (by decide) (fun c_3 => ?_) (fun c_3 => ?_)
      · replace hE := hE.trans (if_pos c_3)
        refine lv_iconst (v := 0) hx hb dX5_edge_40 (by decide) ?_
        subst R
        exact W.iret (v := 0) hx hb hr (fun t ht hW => ⟨rfl, ht⟩) (fun _ h => by cases h) dX5_edge_41
      · replace hE := hE.trans (if_neg c_3)
        refine lv_iconst (v := 1) hx hb dX5_edge_36 (by decide) ?_
        refine lv_goto (tgt := 41) hx hb dX5_edge_37 (by decide) ?_
        subst R
        exact W.iret (v := 1) hx hb hr (fun t ht hW => ⟨rfl, ht⟩) (fun _ h => by cases h) dX5_edge_41
    · replace hE := hE.trans (if_pos c_2)
      refine lv_iconst (v := (-1)) hx hb dX5_edge_22 (by decide) ?_
      subst R
      exact W.iret (v := (-1)) hx hb hr (fun t ht hW => ⟨rfl, ht⟩) (fun _ h => by cases h) dX5_edge_23
def mX5_rule (S : kS) (x1 : Int32) : Int32 × kS :=
  (fun (S_1 : kS) =>
    (fun (g_2 : Int32 × Int32) =>
      (fun (g_3 : Int32 × Int32 × Int32) =>
        ((g_3.1), (gset (gset S_1 0 (rset (S_1 0) 0 (upd ((S_1 0) 0) 0 (g_2.2)))) 11 (rset (S_1 11) 0 (upd (upd ((S_1 11) 0) 0 (g_3.2.1)) 1 (g_3.2.2))))))
        (mX1_keepUnlessError (S_1 11) (g_2.1)))
      (mX2_changeRule (S_1 0) x1))
    (mX1_prepare S)
theorem mX5_rule_s {S : kS} {x1 : Int32} : mX5_rule S x1 = (
  (fun (S_1 : kS) =>
    (fun (g_2 : Int32 × Int32) =>
      (fun (g_3 : Int32 × Int32 × Int32) =>
        ((g_3.1), (gset (gset S_1 0 (rset (S_1 0) 0 (upd ((S_1 0) 0) 0 (g_2.2)))) 11 (rset (S_1 11) 0 (upd (upd ((S_1 11) 0) 0 (g_3.2.1)) 1 (g_3.2.2))))))
        (mX1_keepUnlessError (S_1 11) (g_2.1)))
      (mX2_changeRule (S_1 0) x1))
    (mX1_prepare S) : Int32 × kS) := rfl
set_option maxHeartbeats 400000 in
set_option maxRecDepth 100000 in
theorem c_X5_rule (l : Launch) (E : kE) (ad : Nat → Nat) (S : kS) (hs : kSep ad) (x1 : Int32) (hh : hisOK S) (R : Int32 × kS) (hE : R = mX5_rule S x1) : Met l yX5_rule wsX5_rule ({ frames := 3, cells := 0, slots := 0, locals := 68 }) (kPreY E [.ref (ad 80), .int x1] ad S) (kYi E R.1 ad R.2) 0 0 (kA ad 90) := by
  refine Met.ofW (cc := cX5_rule) (maxL := 2) (ret := (some .int)) (by decide) rfl ?_
  intro p e s m args below meth c s₁ B hml hv
  obtain ⟨rfl, hK, hY⟩ := hv
  have hx := B.exec
  have hb := B.bytes
  have hr := B.returns
  have hts := atoms_spec (ws := wsX5_rule) B.pre
  have hown : s.vm.findClass RX5 = some m.cls := findClass_of_methodNamed B.named
  have hlocks := B.notSynchronized
  have hiX5 : ∀ w ∈ wsX50, w ∈ wsX5_rule := by decide +kernel
  have hf10 := hts (.fieldLink RX5 10 "SkewEdges" "ledger" "LSkewEdges$Ledger;") (by decide +kernel)
  have hf19 := hts (.fieldLink RX5 19 "SkewEdges" "history" "LSkewEdges$History;") (by decide +kernel)
  have hS : va_S (kA ad 90) s.heap s.heap [] := va_S.rf
  have hl := lv_entry ([.ref (ad 80), .int x1]) (n := 2) (Nat.le_of_ble_eq_true rfl)
  rw [lg_entry_eq]
  generalize (lg_sl ([.ref (ad 80), .int x1]) ++ List.replicate (2 - (lg_sl ([.ref (ad 80), .int x1])).length) Slot.unset).toArray = ls at hl ⊢
  have hl : lv_has ls 2 [(0, .ref (ad 80)), (1, .int x1)] := hl
  replace hE := hE.trans mX5_rule_s
  refine lv_aload_n hx hb dX5_rule_0 rfl (lv_at hl 0 rfl) ?_
  refine va_get (D := E.1) (ci := 4) (v := .ref (ad 83)) (C := RX5) (T := TX5) (N := 6) hx hb hts hiX5 hown hK.1 hY.2.1 0 rfl rfl 1 (by decide) hf19 (fun _ h9 => h9) rfl dX5_rule_1 ?_
  refine lv_aload_n hx hb dX5_rule_4 rfl (lv_at hl 0 rfl) ?_
  refine va_get (D := E.1) (ci := 4) (v := .ref (ad 0)) (C := RX5) (T := TX5) (N := 6) hx hb hts hiX5 hown hK.1 hY.2.1 0 rfl rfl 0 (by decide) hf10 (fun _ h9 => h9) rfl dX5_rule_5 ?_
  refine kCallYv (va_runV (As := [.ref (ad 0)]) (rest := []) ⟨hx, hb, hml, hown, hts⟩ (c_X1_prepare l E ad S hs (by assumption)) (cwV 1 hts gX5_rule_X1_prepare rfl rfl rfl (by decide +kernel) ⟨Nat.le_of_ble_eq_true rfl, Nat.le_of_ble_eq_true rfl⟩) (kPreYV hK hY.2.2.1 hY (q0 := 0) rfl rfl) rfl rfl hl.1 rfl (lv_room (Nat.le_of_ble_eq_true rfl)) dX5_rule_8 ⟨Nat.zero_le _, Nat.zero_le _⟩) hS (fun _ h => h) (fun H locs hY _ _ hS => ?_)
  refine kGen (mX1_prepare S) (fun S_1 hS_1 => ?_)
  rw [hS_1] at hE hY
  try dsimp only at hE
  refine lv_aload_n hx hb dX5_rule_11 rfl (lv_at hl 0 rfl) ?_
  refine va_get (D := E.1) (ci := 4) (v := .ref (ad 83)) (C := RX5) (T := TX5) (N := 6) hx hb hts hiX5 hown hK.1 hY.2.1 0 rfl rfl 1 (by decide) hf19 (fun _ h9 => h9) rfl dX5_rule_12 ?_
  refine lv_aload_n hx hb dX5_rule_15 rfl (lv_at hl 0 rfl) ?_
  refine va_get (D := E.1) (ci := 4) (v := .ref (ad 0)) (C := RX5) (T := TX5) (N := 6) hx hb hts hiX5 hown hK.1 hY.2.1 0 rfl rfl 0 (by decide) hf10 (fun _ h9 => h9) rfl dX5_rule_16 ?_
  refine lv_iload_n hx hb dX5_rule_19 rfl (lv_at hl 1 rfl) ?_
  refine kCallWi (va_runV (As := [.int x1]) (rest := [.ref (ad 83)]) ⟨hx, hb, hml, hown, hts⟩ (c_X2_changeRule l E (ga ad (8 * 0)) (S_1 0) (hs.inj (by omega)) x1 _ rfl) (cwV 1 hts gX5_rule_X2_changeRule rfl rfl rfl (by decide +kernel) ⟨Nat.le_of_ble_eq_true rfl, Nat.le_of_ble_eq_true rfl⟩) (kPreV hK (hY.1 0 (by omega)) (hY.1 0 (by omega)) (q0 := 0) rfl rfl) rfl rfl hl.1 rfl (lv_room (Nat.le_of_ble_eq_true rfl)) dX5_rule_20 ⟨Nat.zero_le _, Nat.zero_le _⟩) hS (kA_sub (by omega)) (fun H locs hP _ hk hS => ?_)
  refine kGen (mX2_changeRule (S_1 0) x1) (fun g_2 hg_2 => ?_)
  rw [hg_2] at hE hP ⊢
  try dsimp only at hE
  have hY := hY.putL hs (j := 0) (by omega) (rset (S_1 0) 0 (upd ((S_1 0) 0) 0 (g_2.2))) hP hk
  refine kCallWi (va_runV (As := [.int (g_2.1)]) (rest := []) ⟨hx, hb, hml, hown, hts⟩ (c_X1_keepUnlessError l E (ga ad 83) (S_1 11) (hs.inj (by omega)) (g_2.1) _ rfl) (cwV 1 hts gX5_rule_X1_keepUnlessError rfl rfl rfl (by decide +kernel) ⟨Nat.le_of_ble_eq_true rfl, Nat.le_of_ble_eq_true rfl⟩) (kPreV hK (kP_l hY.2.2.1) (kP_l hY.2.2.1) (q0 := 0) rfl rfl) rfl rfl hl.1 rfl (lv_room (Nat.le_of_ble_eq_true rfl)) dX5_rule_23 ⟨Nat.zero_le _, Nat.zero_le _⟩) hS (kA_sub (by omega)) (fun H locs hP _ hk hS => ?_)
  refine kGen (mX1_keepUnlessError (S_1 11) (g_2.1)) (fun g_3 hg_3 => ?_)
  rw [hg_3] at hE hP ⊢
  try dsimp only at hE
  have hY := hY.putH hs (rset (S_1 11) 0 (upd (upd ((S_1 11) 0) 0 (g_3.2.1)) 1 (g_3.2.2))) hP hk
  subst R
  exact W.iret (v := (g_3.1)) hx hb hr (fun t ht hW => ⟨rfl, by rw [ht]; exact hY, hS.F ht⟩) hS.2.2 dX5_rule_26
def mX5_begin (S : kS) : Int32 × kS :=
  (fun (S_1 : kS) =>
    (fun (g_2 : Int32 × Int32 × Int32 × (Nat → Int32) × (Nat → Int32) × (Nat → Int32) × (Nat → Int32) × (Nat → Int32) × (Nat → Int32)) =>
      (fun (g_3 : Int32 × Int32 × Int32) =>
        ((g_3.1), (gset (gset S_1 0 (rset (rset (rset (rset (rset (rset (rset (S_1 0) 1 (g_2.2.2.2.1)) 2 (g_2.2.2.2.2.1)) 3 (g_2.2.2.2.2.2.1)) 4 (g_2.2.2.2.2.2.2.1)) 5 (g_2.2.2.2.2.2.2.2.1)) 6 (g_2.2.2.2.2.2.2.2.2)) 0 (upd (upd ((S_1 0) 0) 1 (g_2.2.1)) 2 (g_2.2.2.1)))) 11 (rset (S_1 11) 0 (upd (upd ((S_1 11) 0) 0 (g_3.2.1)) 1 (g_3.2.2))))))
        (mX1_keepUnlessError (S_1 11) (g_2.1)))
      (mX2_start (S_1 0)))
    (mX1_prepare S)
theorem mX5_begin_s {S : kS} : mX5_begin S = (
  (fun (S_1 : kS) =>
    (fun (g_2 : Int32 × Int32 × Int32 × (Nat → Int32) × (Nat → Int32) × (Nat → Int32) × (Nat → Int32) × (Nat → Int32) × (Nat → Int32)) =>
      (fun (g_3 : Int32 × Int32 × Int32) =>
        ((g_3.1), (gset (gset S_1 0 (rset (rset (rset (rset (rset (rset (rset (S_1 0) 1 (g_2.2.2.2.1)) 2 (g_2.2.2.2.2.1)) 3 (g_2.2.2.2.2.2.1)) 4 (g_2.2.2.2.2.2.2.1)) 5 (g_2.2.2.2.2.2.2.2.1)) 6 (g_2.2.2.2.2.2.2.2.2)) 0 (upd (upd ((S_1 0) 0) 1 (g_2.2.1)) 2 (g_2.2.2.1)))) 11 (rset (S_1 11) 0 (upd (upd ((S_1 11) 0) 0 (g_3.2.1)) 1 (g_3.2.2))))))
        (mX1_keepUnlessError (S_1 11) (g_2.1)))
      (mX2_start (S_1 0)))
    (mX1_prepare S) : Int32 × kS) := rfl
set_option maxHeartbeats 400000 in
set_option maxRecDepth 100000 in
theorem c_X5_begin (l : Launch) (E : kE) (ad : Nat → Nat) (S : kS) (hs : kSep ad) (hh : hisOK S) (hn : nOK (S 0 0 2)) (R : Int32 × kS) (hE : R = mX5_begin S) : Met l yX5_begin wsX5_begin ({ frames := 3, cells := 0, slots := 0, locals := 68 }) (kPreY E [.ref (ad 80)] ad S) (kYi E R.1 ad R.2) 0 0 (kA ad 90) := by
  refine Met.ofW (cc := cX5_begin) (maxL := 1) (ret := (some .int)) (by decide) rfl ?_
  intro p e s m args below meth c s₁ B hml hv
  obtain ⟨rfl, hK, hY⟩ := hv
  have hx := B.exec
  have hb := B.bytes
  have hr := B.returns
  have hts := atoms_spec (ws := wsX5_begin) B.pre
  have hown : s.vm.findClass RX5 = some m.cls := findClass_of_methodNamed B.named
  have hlocks := B.notSynchronized
  have hiX5 : ∀ w ∈ wsX50, w ∈ wsX5_begin := by decide +kernel
  have hf10 := hts (.fieldLink RX5 10 "SkewEdges" "ledger" "LSkewEdges$Ledger;") (by decide +kernel)
  have hf19 := hts (.fieldLink RX5 19 "SkewEdges" "history" "LSkewEdges$History;") (by decide +kernel)
  have hS : va_S (kA ad 90) s.heap s.heap [] := va_S.rf
  have hl := lv_entry ([.ref (ad 80)]) (n := 1) (Nat.le_of_ble_eq_true rfl)
  rw [lg_entry_eq]
  generalize (lg_sl ([.ref (ad 80)]) ++ List.replicate (1 - (lg_sl ([.ref (ad 80)])).length) Slot.unset).toArray = ls at hl ⊢
  have hl : lv_has ls 1 [(0, .ref (ad 80))] := hl
  replace hE := hE.trans mX5_begin_s
  refine lv_aload_n hx hb dX5_begin_0 rfl (lv_at hl 0 rfl) ?_
  refine va_get (D := E.1) (ci := 4) (v := .ref (ad 83)) (C := RX5) (T := TX5) (N := 6) hx hb hts hiX5 hown hK.1 hY.2.1 0 rfl rfl 1 (by decide) hf19 (fun _ h9 => h9) rfl dX5_begin_1 ?_
  refine lv_aload_n hx hb dX5_begin_4 rfl (lv_at hl 0 rfl) ?_
  refine va_get (D := E.1) (ci := 4) (v := .ref (ad 0)) (C := RX5) (T := TX5) (N := 6) hx hb hts hiX5 hown hK.1 hY.2.1 0 rfl rfl 0 (by decide) hf10 (fun _ h9 => h9) rfl dX5_begin_5 ?_
  refine kCallYv (va_runV (As := [.ref (ad 0)]) (rest := []) ⟨hx, hb, hml, hown, hts⟩ (c_X1_prepare l E ad S hs (by assumption)) (cwV 1 hts gX5_begin_X1_prepare rfl rfl rfl (by decide +kernel) ⟨Nat.le_of_ble_eq_true rfl, Nat.le_of_ble_eq_true rfl⟩) (kPreYV hK hY.2.2.1 hY (q0 := 0) rfl rfl) rfl rfl hl.1 rfl (lv_room (Nat.le_of_ble_eq_true rfl)) dX5_begin_8 ⟨Nat.zero_le _, Nat.zero_le _⟩) hS (fun _ h => h) (fun H locs hY _ _ hS => ?_)
  have hn1 : nOK ((mX1_prepare S) 0 0 2) := prep_n hh hn
  refine kGen (mX1_prepare S) (fun S_1 hS_1 => ?_)
  rw [hS_1] at hE hY hn1
  try dsimp only at hE
  refine lv_aload_n hx hb dX5_begin_11 rfl (lv_at hl 0 rfl) ?_
  refine va_get (D := E.1) (ci := 4) (v := .ref (ad 83)) (C := RX5) (T := TX5) (N := 6) hx hb hts hiX5 hown hK.1 hY.2.1 0 rfl rfl 1 (by decide) hf19 (fun _ h9 => h9) rfl dX5_begin_12 ?_
  refine lv_aload_n hx hb dX5_begin_15 rfl (lv_at hl 0 rfl) ?_
  refine va_get (D := E.1) (ci := 4) (v := .ref (ad 0)) (C := RX5) (T := TX5) (N := 6) hx hb hts hiX5 hown hK.1 hY.2.1 0 rfl rfl 0 (by decide) hf10 (fun _ h9 => h9) rfl dX5_begin_16 ?_
  refine kCallWi (va_runV (As := []) (rest := [.ref (ad 83)]) ⟨hx, hb, hml, hown, hts⟩ (c_X2_start l E (ga ad (8 * 0)) (S_1 0) (hs.inj (by omega)) (by first | assumption | exact tOK.nI (by omega)) _ rfl) (cwV 0 hts gX5_begin_X2_start rfl rfl rfl (by decide +kernel) ⟨Nat.le_of_ble_eq_true rfl, Nat.le_of_ble_eq_true rfl⟩) (kPreV hK (hY.1 0 (by omega)) (hY.1 0 (by omega)) (q0 := 0) rfl rfl) rfl rfl hl.1 rfl (lv_room (Nat.le_of_ble_eq_true rfl)) dX5_begin_19 ⟨Nat.zero_le _, Nat.zero_le _⟩) hS (kA_sub (by omega)) (fun H locs hP _ hk hS => ?_)
  refine kGen (mX2_start (S_1 0)) (fun g_2 hg_2 => ?_)
  rw [hg_2] at hE hP ⊢
  try dsimp only at hE
  have hY := hY.putL hs (j := 0) (by omega) (rset (rset (rset (rset (rset (rset (rset (S_1 0) 1 (g_2.2.2.2.1)) 2 (g_2.2.2.2.2.1)) 3 (g_2.2.2.2.2.2.1)) 4 (g_2.2.2.2.2.2.2.1)) 5 (g_2.2.2.2.2.2.2.2.1)) 6 (g_2.2.2.2.2.2.2.2.2)) 0 (upd (upd ((S_1 0) 0) 1 (g_2.2.1)) 2 (g_2.2.2.1))) hP hk
  refine kCallWi (va_runV (As := [.int (g_2.1)]) (rest := []) ⟨hx, hb, hml, hown, hts⟩ (c_X1_keepUnlessError l E (ga ad 83) (S_1 11) (hs.inj (by omega)) (g_2.1) _ rfl) (cwV 1 hts gX5_begin_X1_keepUnlessError rfl rfl rfl (by decide +kernel) ⟨Nat.le_of_ble_eq_true rfl, Nat.le_of_ble_eq_true rfl⟩) (kPreV hK (kP_l hY.2.2.1) (kP_l hY.2.2.1) (q0 := 0) rfl rfl) rfl rfl hl.1 rfl (lv_room (Nat.le_of_ble_eq_true rfl)) dX5_begin_22 ⟨Nat.zero_le _, Nat.zero_le _⟩) hS (kA_sub (by omega)) (fun H locs hP _ hk hS => ?_)
  refine kGen (mX1_keepUnlessError (S_1 11) (g_2.1)) (fun g_3 hg_3 => ?_)
  rw [hg_3] at hE hP ⊢
  try dsimp only at hE
  have hY := hY.putH hs (rset (S_1 11) 0 (upd (upd ((S_1 11) 0) 0 (g_3.2.1)) 1 (g_3.2.2))) hP hk
  subst R
  exact W.iret (v := (g_3.1)) hx hb hr (fun t ht hW => ⟨rfl, by rw [ht]; exact hY, hS.F ht⟩) hS.2.2 dX5_begin_25
def mX5_read (S : kS) (x1 : Int32) (x2 : Int32) : Int32 × kS :=
  (fun (S_1 : kS) =>
    (fun (g_2 : Int32 × (Nat → Int32)) =>
      (fun (g_3 : Int32 × Int32 × Int32) =>
        ((g_3.1), (gset (gset S_1 0 (rset (S_1 0) 4 (g_2.2))) 11 (rset (S_1 11) 0 (upd (upd ((S_1 11) 0) 0 (g_3.2.1)) 1 (g_3.2.2))))))
        (mX1_keepUnlessError (S_1 11) (g_2.1)))
      (mX2_look (S_1 0) x1 x2))
    (mX1_prepare S)
theorem mX5_read_s {S : kS} {x1 : Int32} {x2 : Int32} : mX5_read S x1 x2 = (
  (fun (S_1 : kS) =>
    (fun (g_2 : Int32 × (Nat → Int32)) =>
      (fun (g_3 : Int32 × Int32 × Int32) =>
        ((g_3.1), (gset (gset S_1 0 (rset (S_1 0) 4 (g_2.2))) 11 (rset (S_1 11) 0 (upd (upd ((S_1 11) 0) 0 (g_3.2.1)) 1 (g_3.2.2))))))
        (mX1_keepUnlessError (S_1 11) (g_2.1)))
      (mX2_look (S_1 0) x1 x2))
    (mX1_prepare S) : Int32 × kS) := rfl
set_option maxHeartbeats 400000 in
set_option maxRecDepth 100000 in
theorem c_X5_read (l : Launch) (E : kE) (ad : Nat → Nat) (S : kS) (hs : kSep ad) (x1 : Int32) (x2 : Int32) (hh : hisOK S) (hn : nOK (S 0 0 2)) (R : Int32 × kS) (hE : R = mX5_read S x1 x2) : Met l yX5_read wsX5_read ({ frames := 4, cells := 0, slots := 0, locals := 90 }) (kPreY E [.ref (ad 80), .int x1, .int x2] ad S) (kYi E R.1 ad R.2) 0 0 (kA ad 90) := by
  refine Met.ofW (cc := cX5_read) (maxL := 3) (ret := (some .int)) (by decide) rfl ?_
  intro p e s m args below meth c s₁ B hml hv
  obtain ⟨rfl, hK, hY⟩ := hv
  have hx := B.exec
  have hb := B.bytes
  have hr := B.returns
  have hts := atoms_spec (ws := wsX5_read) B.pre
  have hown : s.vm.findClass RX5 = some m.cls := findClass_of_methodNamed B.named
  have hlocks := B.notSynchronized
  have hiX5 : ∀ w ∈ wsX50, w ∈ wsX5_read := by decide +kernel
  have hf10 := hts (.fieldLink RX5 10 "SkewEdges" "ledger" "LSkewEdges$Ledger;") (by decide +kernel)
  have hf19 := hts (.fieldLink RX5 19 "SkewEdges" "history" "LSkewEdges$History;") (by decide +kernel)
  have hS : va_S (kA ad 90) s.heap s.heap [] := va_S.rf
  have hl := lv_entry ([.ref (ad 80), .int x1, .int x2]) (n := 3) (Nat.le_of_ble_eq_true rfl)
  rw [lg_entry_eq]
  generalize (lg_sl ([.ref (ad 80), .int x1, .int x2]) ++ List.replicate (3 - (lg_sl ([.ref (ad 80), .int x1, .int x2])).length) Slot.unset).toArray = ls at hl ⊢
  have hl : lv_has ls 3 [(0, .ref (ad 80)), (1, .int x1), (2, .int x2)] := hl
  replace hE := hE.trans mX5_read_s
  refine lv_aload_n hx hb dX5_read_0 rfl (lv_at hl 0 rfl) ?_
  refine va_get (D := E.1) (ci := 4) (v := .ref (ad 83)) (C := RX5) (T := TX5) (N := 6) hx hb hts hiX5 hown hK.1 hY.2.1 0 rfl rfl 1 (by decide) hf19 (fun _ h9 => h9) rfl dX5_read_1 ?_
  refine lv_aload_n hx hb dX5_read_4 rfl (lv_at hl 0 rfl) ?_
  refine va_get (D := E.1) (ci := 4) (v := .ref (ad 0)) (C := RX5) (T := TX5) (N := 6) hx hb hts hiX5 hown hK.1 hY.2.1 0 rfl rfl 0 (by decide) hf10 (fun _ h9 => h9) rfl dX5_read_5 ?_
  refine kCallYv (va_runV (As := [.ref (ad 0)]) (rest := []) ⟨hx, hb, hml, hown, hts⟩ (c_X1_prepare l E ad S hs (by assumption)) (cwV 1 hts gX5_read_X1_prepare rfl rfl rfl (by decide +kernel) ⟨Nat.le_of_ble_eq_true rfl, Nat.le_of_ble_eq_true rfl⟩) (kPreYV hK hY.2.2.1 hY (q0 := 0) rfl rfl) rfl rfl hl.1 rfl (lv_room (Nat.le_of_ble_eq_true rfl)) dX5_read_8 ⟨Nat.zero_le _, Nat.zero_le _⟩) hS (fun _ h => h) (fun H locs hY _ _ hS => ?_)
  have hn1 : nOK ((mX1_prepare S) 0 0 2) := prep_n hh hn
  refine kGen (mX1_prepare S) (fun S_1 hS_1 => ?_)
  rw [hS_1] at hE hY hn1
  try dsimp only at hE
  refine lv_aload_n hx hb dX5_read_11 rfl (lv_at hl 0 rfl) ?_
  refine va_get (D := E.1) (ci := 4) (v := .ref (ad 83)) (C := RX5) (T := TX5) (N := 6) hx hb hts hiX5 hown hK.1 hY.2.1 0 rfl rfl 1 (by decide) hf19 (fun _ h9 => h9) rfl dX5_read_12 ?_
  refine lv_aload_n hx hb dX5_read_15 rfl (lv_at hl 0 rfl) ?_
  refine va_get (D := E.1) (ci := 4) (v := .ref (ad 0)) (C := RX5) (T := TX5) (N := 6) hx hb hts hiX5 hown hK.1 hY.2.1 0 rfl rfl 0 (by decide) hf10 (fun _ h9 => h9) rfl dX5_read_16 ?_
  refine lv_iload_n hx hb dX5_read_19 rfl (lv_at hl 1 rfl) ?_
  refine lv_iload_n hx hb dX5_read_20 rfl (lv_at hl 2 rfl) ?_
  refine kCallWi (va_runV (As := [.int x1, .int x2]) (rest := [.ref (ad 83)]) ⟨hx, hb, hml, hown, hts⟩ (c_X2_look l E (ga ad (8 * 0)) (S_1 0) (hs.inj (by omega)) x1 x2 (by first | assumption | exact tOK.nI (by omega)) _ rfl) (cwV 2 hts gX5_read_X2_look rfl rfl rfl (by decide +kernel) ⟨Nat.le_of_ble_eq_true rfl, Nat.le_of_ble_eq_true rfl⟩) (kPreV hK (hY.1 0 (by omega)) (hY.1 0 (by omega)) (q0 := 0) rfl rfl) rfl rfl hl.1 rfl (lv_room (Nat.le_of_ble_eq_true rfl)) dX5_read_21 ⟨Nat.zero_le _, Nat.zero_le _⟩) hS (kA_sub (by omega)) (fun H locs hP _ hk hS => ?_)
  refine kGen (mX2_look (S_1 0) x1 x2) (fun g_2 hg_2 => ?_)
  rw [hg_2] at hE hP ⊢
  try dsimp only at hE
  have hY := hY.putL hs (j := 0) (by omega) (rset (S_1 0) 4 (g_2.2)) hP hk
  refine kCallWi (va_runV (As := [.int (g_2.1)]) (rest := []) ⟨hx, hb, hml, hown, hts⟩ (c_X1_keepUnlessError l E (ga ad 83) (S_1 11) (hs.inj (by omega)) (g_2.1) _ rfl) (cwV 1 hts gX5_read_X1_keepUnlessError rfl rfl rfl (by decide +kernel) ⟨Nat.le_of_ble_eq_true rfl, Nat.le_of_ble_eq_true rfl⟩) (kPreV hK (kP_l hY.2.2.1) (kP_l hY.2.2.1) (q0 := 0) rfl rfl) rfl rfl hl.1 rfl (lv_room (Nat.le_of_ble_eq_true rfl)) dX5_read_24 ⟨Nat.zero_le _, Nat.zero_le _⟩) hS (kA_sub (by omega)) (fun H locs hP _ hk hS => ?_)
  refine kGen (mX1_keepUnlessError (S_1 11) (g_2.1)) (fun g_3 hg_3 => ?_)
  rw [hg_3] at hE hP ⊢
  try dsimp only at hE
  have hY := hY.putH hs (rset (S_1 11) 0 (upd (upd ((S_1 11) 0) 0 (g_3.2.1)) 1 (g_3.2.2))) hP hk
  subst R
  exact W.iret (v := (g_3.1)) hx hb hr (fun t ht hW => ⟨rfl, by rw [ht]; exact hY, hS.F ht⟩) hS.2.2 dX5_read_27
def mX5_write (S : kS) (x1 : Int32) (x2 : Int32) (x3 : Int32) : Int32 × kS :=
  (fun (S_1 : kS) =>
    (fun (g_2 : Int32 × (Nat → Int32) × (Nat → Int32)) =>
      (fun (g_3 : Int32 × Int32 × Int32) =>
        ((g_3.1), (gset (gset S_1 0 (rset (rset (S_1 0) 5 (g_2.2.1)) 7 (g_2.2.2))) 11 (rset (S_1 11) 0 (upd (upd ((S_1 11) 0) 0 (g_3.2.1)) 1 (g_3.2.2))))))
        (mX1_keepUnlessError (S_1 11) (g_2.1)))
      (mX2_enter (S_1 0) x1 x2 x3))
    (mX1_prepare S)
theorem mX5_write_s {S : kS} {x1 : Int32} {x2 : Int32} {x3 : Int32} : mX5_write S x1 x2 x3 = (
  (fun (S_1 : kS) =>
    (fun (g_2 : Int32 × (Nat → Int32) × (Nat → Int32)) =>
      (fun (g_3 : Int32 × Int32 × Int32) =>
        ((g_3.1), (gset (gset S_1 0 (rset (rset (S_1 0) 5 (g_2.2.1)) 7 (g_2.2.2))) 11 (rset (S_1 11) 0 (upd (upd ((S_1 11) 0) 0 (g_3.2.1)) 1 (g_3.2.2))))))
        (mX1_keepUnlessError (S_1 11) (g_2.1)))
      (mX2_enter (S_1 0) x1 x2 x3))
    (mX1_prepare S) : Int32 × kS) := rfl
set_option maxHeartbeats 400000 in
set_option maxRecDepth 100000 in
theorem c_X5_write (l : Launch) (E : kE) (ad : Nat → Nat) (S : kS) (hs : kSep ad) (x1 : Int32) (x2 : Int32) (x3 : Int32) (hh : hisOK S) (hn : nOK (S 0 0 2)) (R : Int32 × kS) (hE : R = mX5_write S x1 x2 x3) : Met l yX5_write wsX5_write ({ frames := 3, cells := 0, slots := 0, locals := 68 }) (kPreY E [.ref (ad 80), .int x1, .int x2, .int x3] ad S) (kYi E R.1 ad R.2) 0 0 (kA ad 90) := by
  refine Met.ofW (cc := cX5_write) (maxL := 4) (ret := (some .int)) (by decide) rfl ?_
  intro p e s m args below meth c s₁ B hml hv
  obtain ⟨rfl, hK, hY⟩ := hv
  have hx := B.exec
  have hb := B.bytes
  have hr := B.returns
  have hts := atoms_spec (ws := wsX5_write) B.pre
  have hown : s.vm.findClass RX5 = some m.cls := findClass_of_methodNamed B.named
  have hlocks := B.notSynchronized
  have hiX5 : ∀ w ∈ wsX50, w ∈ wsX5_write := by decide +kernel
  have hf10 := hts (.fieldLink RX5 10 "SkewEdges" "ledger" "LSkewEdges$Ledger;") (by decide +kernel)
  have hf19 := hts (.fieldLink RX5 19 "SkewEdges" "history" "LSkewEdges$History;") (by decide +kernel)
  have hS : va_S (kA ad 90) s.heap s.heap [] := va_S.rf
  have hl := lv_entry ([.ref (ad 80), .int x1, .int x2, .int x3]) (n := 4) (Nat.le_of_ble_eq_true rfl)
  rw [lg_entry_eq]
  generalize (lg_sl ([.ref (ad 80), .int x1, .int x2, .int x3]) ++ List.replicate (4 - (lg_sl ([.ref (ad 80), .int x1, .int x2, .int x3])).length) Slot.unset).toArray = ls at hl ⊢
  have hl : lv_has ls 4 [(0, .ref (ad 80)), (1, .int x1), (2, .int x2), (3, .int x3)] := hl
  replace hE := hE.trans mX5_write_s
  refine lv_aload_n hx hb dX5_write_0 rfl (lv_at hl 0 rfl) ?_
  refine va_get (D := E.1) (ci := 4) (v := .ref (ad 83)) (C := RX5) (T := TX5) (N := 6) hx hb hts hiX5 hown hK.1 hY.2.1 0 rfl rfl 1 (by decide) hf19 (fun _ h9 => h9) rfl dX5_write_1 ?_
  refine lv_aload_n hx hb dX5_write_4 rfl (lv_at hl 0 rfl) ?_
  refine va_get (D := E.1) (ci := 4) (v := .ref (ad 0)) (C := RX5) (T := TX5) (N := 6) hx hb hts hiX5 hown hK.1 hY.2.1 0 rfl rfl 0 (by decide) hf10 (fun _ h9 => h9) rfl dX5_write_5 ?_
  refine kCallYv (va_runV (As := [.ref (ad 0)]) (rest := []) ⟨hx, hb, hml, hown, hts⟩ (c_X1_prepare l E ad S hs (by assumption)) (cwV 1 hts gX5_write_X1_prepare rfl rfl rfl (by decide +kernel) ⟨Nat.le_of_ble_eq_true rfl, Nat.le_of_ble_eq_true rfl⟩) (kPreYV hK hY.2.2.1 hY (q0 := 0) rfl rfl) rfl rfl hl.1 rfl (lv_room (Nat.le_of_ble_eq_true rfl)) dX5_write_8 ⟨Nat.zero_le _, Nat.zero_le _⟩) hS (fun _ h => h) (fun H locs hY _ _ hS => ?_)
  have hn1 : nOK ((mX1_prepare S) 0 0 2) := prep_n hh hn
  refine kGen (mX1_prepare S) (fun S_1 hS_1 => ?_)
  rw [hS_1] at hE hY hn1
  try dsimp only at hE
  refine lv_aload_n hx hb dX5_write_11 rfl (lv_at hl 0 rfl) ?_
  refine va_get (D := E.1) (ci := 4) (v := .ref (ad 83)) (C := RX5) (T := TX5) (N := 6) hx hb hts hiX5 hown hK.1 hY.2.1 0 rfl rfl 1 (by decide) hf19 (fun _ h9 => h9) rfl dX5_write_12 ?_
  refine lv_aload_n hx hb dX5_write_15 rfl (lv_at hl 0 rfl) ?_
  refine va_get (D := E.1) (ci := 4) (v := .ref (ad 0)) (C := RX5) (T := TX5) (N := 6) hx hb hts hiX5 hown hK.1 hY.2.1 0 rfl rfl 0 (by decide) hf10 (fun _ h9 => h9) rfl dX5_write_16 ?_
  refine lv_iload_n hx hb dX5_write_19 rfl (lv_at hl 1 rfl) ?_
  refine lv_iload_n hx hb dX5_write_20 rfl (lv_at hl 2 rfl) ?_
  refine lv_iload_n hx hb dX5_write_21 rfl (lv_at hl 3 rfl) ?_
  refine kCallWi (va_runV (As := [.int x1, .int x2, .int x3]) (rest := [.ref (ad 83)]) ⟨hx, hb, hml, hown, hts⟩ (c_X2_enter l E (ga ad (8 * 0)) (S_1 0) (hs.inj (by omega)) x1 x2 x3 (by first | assumption | exact tOK.nI (by omega)) _ rfl) (cwV 3 hts gX5_write_X2_enter rfl rfl rfl (by decide +kernel) ⟨Nat.le_of_ble_eq_true rfl, Nat.le_of_ble_eq_true rfl⟩) (kPreV hK (hY.1 0 (by omega)) (hY.1 0 (by omega)) (q0 := 0) rfl rfl) rfl rfl hl.1 rfl (lv_room (Nat.le_of_ble_eq_true rfl)) dX5_write_22 ⟨Nat.zero_le _, Nat.zero_le _⟩) hS (kA_sub (by omega)) (fun H locs hP _ hk hS => ?_)
  refine kGen (mX2_enter (S_1 0) x1 x2 x3) (fun g_2 hg_2 => ?_)
  rw [hg_2] at hE hP ⊢
  try dsimp only at hE
  have hY := hY.putL hs (j := 0) (by omega) (rset (rset (S_1 0) 5 (g_2.2.1)) 7 (g_2.2.2)) hP hk
  refine kCallWi (va_runV (As := [.int (g_2.1)]) (rest := []) ⟨hx, hb, hml, hown, hts⟩ (c_X1_keepUnlessError l E (ga ad 83) (S_1 11) (hs.inj (by omega)) (g_2.1) _ rfl) (cwV 1 hts gX5_write_X1_keepUnlessError rfl rfl rfl (by decide +kernel) ⟨Nat.le_of_ble_eq_true rfl, Nat.le_of_ble_eq_true rfl⟩) (kPreV hK (kP_l hY.2.2.1) (kP_l hY.2.2.1) (q0 := 0) rfl rfl) rfl rfl hl.1 rfl (lv_room (Nat.le_of_ble_eq_true rfl)) dX5_write_25 ⟨Nat.zero_le _, Nat.zero_le _⟩) hS (kA_sub (by omega)) (fun H locs hP _ hk hS => ?_)
  refine kGen (mX1_keepUnlessError (S_1 11) (g_2.1)) (fun g_3 hg_3 => ?_)
  rw [hg_3] at hE hP ⊢
  try dsimp only at hE
  have hY := hY.putH hs (rset (S_1 11) 0 (upd (upd ((S_1 11) 0) 0 (g_3.2.1)) 1 (g_3.2.2))) hP hk
  subst R
  exact W.iret (v := (g_3.1)) hx hb hr (fun t ht hW => ⟨rfl, by rw [ht]; exact hY, hS.F ht⟩) hS.2.2 dX5_write_28
def mX5_commit (S : kS) (x1 : Int32) : Int32 × kS :=
  (fun (S_1 : kS) =>
    (fun (g_2 : Int32 × Int32 × (Nat → Int32) × (Nat → Int32) × (Nat → Int32)) =>
      (fun (g_3 : Int32 × Int32 × Int32) =>
        ((g_3.1), (gset (gset S_1 0 (rset (rset (rset (rset (S_1 0) 1 (g_2.2.2.1)) 3 (g_2.2.2.2.1)) 6 (g_2.2.2.2.2)) 0 (upd ((S_1 0) 0) 1 (g_2.2.1)))) 11 (rset (S_1 11) 0 (upd (upd ((S_1 11) 0) 0 (g_3.2.1)) 1 (g_3.2.2))))))
        (mX1_keepUnlessError (S_1 11) (g_2.1)))
      (mX2_finish (S_1 0) x1))
    (mX1_prepare S)
theorem mX5_commit_s {S : kS} {x1 : Int32} : mX5_commit S x1 = (
  (fun (S_1 : kS) =>
    (fun (g_2 : Int32 × Int32 × (Nat → Int32) × (Nat → Int32) × (Nat → Int32)) =>
      (fun (g_3 : Int32 × Int32 × Int32) =>
        ((g_3.1), (gset (gset S_1 0 (rset (rset (rset (rset (S_1 0) 1 (g_2.2.2.1)) 3 (g_2.2.2.2.1)) 6 (g_2.2.2.2.2)) 0 (upd ((S_1 0) 0) 1 (g_2.2.1)))) 11 (rset (S_1 11) 0 (upd (upd ((S_1 11) 0) 0 (g_3.2.1)) 1 (g_3.2.2))))))
        (mX1_keepUnlessError (S_1 11) (g_2.1)))
      (mX2_finish (S_1 0) x1))
    (mX1_prepare S) : Int32 × kS) := rfl
set_option maxHeartbeats 400000 in
set_option maxRecDepth 100000 in
theorem c_X5_commit (l : Launch) (E : kE) (ad : Nat → Nat) (S : kS) (hs : kSep ad) (x1 : Int32) (hh : hisOK S) (hn : nOK (S 0 0 2)) (R : Int32 × kS) (hE : R = mX5_commit S x1) : Met l yX5_commit wsX5_commit ({ frames := 5, cells := 0, slots := 0, locals := 124 }) (kPreY E [.ref (ad 80), .int x1] ad S) (kYi E R.1 ad R.2) 0 0 (kA ad 90) := by
  refine Met.ofW (cc := cX5_commit) (maxL := 2) (ret := (some .int)) (by decide) rfl ?_
  intro p e s m args below meth c s₁ B hml hv
  obtain ⟨rfl, hK, hY⟩ := hv
  have hx := B.exec
  have hb := B.bytes
  have hr := B.returns
  have hts := atoms_spec (ws := wsX5_commit) B.pre
  have hown : s.vm.findClass RX5 = some m.cls := findClass_of_methodNamed B.named
  have hlocks := B.notSynchronized
  have hiX5 : ∀ w ∈ wsX50, w ∈ wsX5_commit := by decide +kernel
  have hf10 := hts (.fieldLink RX5 10 "SkewEdges" "ledger" "LSkewEdges$Ledger;") (by decide +kernel)
  have hf19 := hts (.fieldLink RX5 19 "SkewEdges" "history" "LSkewEdges$History;") (by decide +kernel)
  have hS : va_S (kA ad 90) s.heap s.heap [] := va_S.rf
  have hl := lv_entry ([.ref (ad 80), .int x1]) (n := 2) (Nat.le_of_ble_eq_true rfl)
  rw [lg_entry_eq]
  generalize (lg_sl ([.ref (ad 80), .int x1]) ++ List.replicate (2 - (lg_sl ([.ref (ad 80), .int x1])).length) Slot.unset).toArray = ls at hl ⊢
  have hl : lv_has ls 2 [(0, .ref (ad 80)), (1, .int x1)] := hl
  replace hE := hE.trans mX5_commit_s
  refine lv_aload_n hx hb dX5_commit_0 rfl (lv_at hl 0 rfl) ?_
  refine va_get (D := E.1) (ci := 4) (v := .ref (ad 83)) (C := RX5) (T := TX5) (N := 6) hx hb hts hiX5 hown hK.1 hY.2.1 0 rfl rfl 1 (by decide) hf19 (fun _ h9 => h9) rfl dX5_commit_1 ?_
  refine lv_aload_n hx hb dX5_commit_4 rfl (lv_at hl 0 rfl) ?_
  refine va_get (D := E.1) (ci := 4) (v := .ref (ad 0)) (C := RX5) (T := TX5) (N := 6) hx hb hts hiX5 hown hK.1 hY.2.1 0 rfl rfl 0 (by decide) hf10 (fun _ h9 => h9) rfl dX5_commit_5 ?_
  refine kCallYv (va_runV (As := [.ref (ad 0)]) (rest := []) ⟨hx, hb, hml, hown, hts⟩ (c_X1_prepare l E ad S hs (by assumption)) (cwV 1 hts gX5_commit_X1_prepare rfl rfl rfl (by decide +kernel) ⟨Nat.le_of_ble_eq_true rfl, Nat.le_of_ble_eq_true rfl⟩) (kPreYV hK hY.2.2.1 hY (q0 := 0) rfl rfl) rfl rfl hl.1 rfl (lv_room (Nat.le_of_ble_eq_true rfl)) dX5_commit_8 ⟨Nat.zero_le _, Nat.zero_le _⟩) hS (fun _ h => h) (fun H locs hY _ _ hS => ?_)
  have hn1 : nOK ((mX1_prepare S) 0 0 2) := prep_n hh hn
  refine kGen (mX1_prepare S) (fun S_1 hS_1 => ?_)
  rw [hS_1] at hE hY hn1
  try dsimp only at hE
  refine lv_aload_n hx hb dX5_commit_11 rfl (lv_at hl 0 rfl) ?_
  refine va_get (D := E.1) (ci := 4) (v := .ref (ad 83)) (C := RX5) (T := TX5) (N := 6) hx hb hts hiX5 hown hK.1 hY.2.1 0 rfl rfl 1 (by decide) hf19 (fun _ h9 => h9) rfl dX5_commit_12 ?_
  refine lv_aload_n hx hb dX5_commit_15 rfl (lv_at hl 0 rfl) ?_
  refine va_get (D := E.1) (ci := 4) (v := .ref (ad 0)) (C := RX5) (T := TX5) (N := 6) hx hb hts hiX5 hown hK.1 hY.2.1 0 rfl rfl 0 (by decide) hf10 (fun _ h9 => h9) rfl dX5_commit_16 ?_
  refine lv_iload_n hx hb dX5_commit_19 rfl (lv_at hl 1 rfl) ?_
  refine kCallWi (va_runV (As := [.int x1]) (rest := [.ref (ad 83)]) ⟨hx, hb, hml, hown, hts⟩ (c_X2_finish l E (ga ad (8 * 0)) (S_1 0) (hs.inj (by omega)) x1 (by first | assumption | exact tOK.nI (by omega)) _ rfl) (cwV 1 hts gX5_commit_X2_finish rfl rfl rfl (by decide +kernel) ⟨Nat.le_of_ble_eq_true rfl, Nat.le_of_ble_eq_true rfl⟩) (kPreV hK (hY.1 0 (by omega)) (hY.1 0 (by omega)) (q0 := 0) rfl rfl) rfl rfl hl.1 rfl (lv_room (Nat.le_of_ble_eq_true rfl)) dX5_commit_20 ⟨Nat.zero_le _, Nat.zero_le _⟩) hS (kA_sub (by omega)) (fun H locs hP _ hk hS => ?_)
  refine kGen (mX2_finish (S_1 0) x1) (fun g_2 hg_2 => ?_)
  rw [hg_2] at hE hP ⊢
  try dsimp only at hE
  have hY := hY.putL hs (j := 0) (by omega) (rset (rset (rset (rset (S_1 0) 1 (g_2.2.2.1)) 3 (g_2.2.2.2.1)) 6 (g_2.2.2.2.2)) 0 (upd ((S_1 0) 0) 1 (g_2.2.1))) hP hk
  refine kCallWi (va_runV (As := [.int (g_2.1)]) (rest := []) ⟨hx, hb, hml, hown, hts⟩ (c_X1_keepUnlessError l E (ga ad 83) (S_1 11) (hs.inj (by omega)) (g_2.1) _ rfl) (cwV 1 hts gX5_commit_X1_keepUnlessError rfl rfl rfl (by decide +kernel) ⟨Nat.le_of_ble_eq_true rfl, Nat.le_of_ble_eq_true rfl⟩) (kPreV hK (kP_l hY.2.2.1) (kP_l hY.2.2.1) (q0 := 0) rfl rfl) rfl rfl hl.1 rfl (lv_room (Nat.le_of_ble_eq_true rfl)) dX5_commit_23 ⟨Nat.zero_le _, Nat.zero_le _⟩) hS (kA_sub (by omega)) (fun H locs hP _ hk hS => ?_)
  refine kGen (mX1_keepUnlessError (S_1 11) (g_2.1)) (fun g_3 hg_3 => ?_)
  rw [hg_3] at hE hP ⊢
  try dsimp only at hE
  have hY := hY.putH hs (rset (S_1 11) 0 (upd (upd ((S_1 11) 0) 0 (g_3.2.1)) 1 (g_3.2.2))) hP hk
  subst R
  exact W.iret (v := (g_3.1)) hx hb hr (fun t ht hW => ⟨rfl, by rw [ht]; exact hY, hS.F ht⟩) hS.2.2 dX5_commit_26
def mX5_abort (S : kS) (x1 : Int32) : Int32 × kS :=
  (fun (S_1 : kS) =>
    (fun (g_2 : Int32 × (Nat → Int32) × (Nat → Int32)) =>
      (fun (g_3 : Int32 × Int32 × Int32) =>
        ((g_3.1), (gset (gset S_1 0 (rset (rset (S_1 0) 1 (g_2.2.1)) 6 (g_2.2.2))) 11 (rset (S_1 11) 0 (upd (upd ((S_1 11) 0) 0 (g_3.2.1)) 1 (g_3.2.2))))))
        (mX1_keepUnlessError (S_1 11) (g_2.1)))
      (mX2_giveUp (S_1 0) x1))
    (mX1_prepare S)
theorem mX5_abort_s {S : kS} {x1 : Int32} : mX5_abort S x1 = (
  (fun (S_1 : kS) =>
    (fun (g_2 : Int32 × (Nat → Int32) × (Nat → Int32)) =>
      (fun (g_3 : Int32 × Int32 × Int32) =>
        ((g_3.1), (gset (gset S_1 0 (rset (rset (S_1 0) 1 (g_2.2.1)) 6 (g_2.2.2))) 11 (rset (S_1 11) 0 (upd (upd ((S_1 11) 0) 0 (g_3.2.1)) 1 (g_3.2.2))))))
        (mX1_keepUnlessError (S_1 11) (g_2.1)))
      (mX2_giveUp (S_1 0) x1))
    (mX1_prepare S) : Int32 × kS) := rfl
set_option maxHeartbeats 400000 in
set_option maxRecDepth 100000 in
theorem c_X5_abort (l : Launch) (E : kE) (ad : Nat → Nat) (S : kS) (hs : kSep ad) (x1 : Int32) (hh : hisOK S) (hn : nOK (S 0 0 2)) (R : Int32 × kS) (hE : R = mX5_abort S x1) : Met l yX5_abort wsX5_abort ({ frames := 3, cells := 0, slots := 0, locals := 68 }) (kPreY E [.ref (ad 80), .int x1] ad S) (kYi E R.1 ad R.2) 0 0 (kA ad 90) := by
  refine Met.ofW (cc := cX5_abort) (maxL := 2) (ret := (some .int)) (by decide) rfl ?_
  intro p e s m args below meth c s₁ B hml hv
  obtain ⟨rfl, hK, hY⟩ := hv
  have hx := B.exec
  have hb := B.bytes
  have hr := B.returns
  have hts := atoms_spec (ws := wsX5_abort) B.pre
  have hown : s.vm.findClass RX5 = some m.cls := findClass_of_methodNamed B.named
  have hlocks := B.notSynchronized
  have hiX5 : ∀ w ∈ wsX50, w ∈ wsX5_abort := by decide +kernel
  have hf10 := hts (.fieldLink RX5 10 "SkewEdges" "ledger" "LSkewEdges$Ledger;") (by decide +kernel)
  have hf19 := hts (.fieldLink RX5 19 "SkewEdges" "history" "LSkewEdges$History;") (by decide +kernel)
  have hS : va_S (kA ad 90) s.heap s.heap [] := va_S.rf
  have hl := lv_entry ([.ref (ad 80), .int x1]) (n := 2) (Nat.le_of_ble_eq_true rfl)
  rw [lg_entry_eq]
  generalize (lg_sl ([.ref (ad 80), .int x1]) ++ List.replicate (2 - (lg_sl ([.ref (ad 80), .int x1])).length) Slot.unset).toArray = ls at hl ⊢
  have hl : lv_has ls 2 [(0, .ref (ad 80)), (1, .int x1)] := hl
  replace hE := hE.trans mX5_abort_s
  refine lv_aload_n hx hb dX5_abort_0 rfl (lv_at hl 0 rfl) ?_
  refine va_get (D := E.1) (ci := 4) (v := .ref (ad 83)) (C := RX5) (T := TX5) (N := 6) hx hb hts hiX5 hown hK.1 hY.2.1 0 rfl rfl 1 (by decide) hf19 (fun _ h9 => h9) rfl dX5_abort_1 ?_
  refine lv_aload_n hx hb dX5_abort_4 rfl (lv_at hl 0 rfl) ?_
  refine va_get (D := E.1) (ci := 4) (v := .ref (ad 0)) (C := RX5) (T := TX5) (N := 6) hx hb hts hiX5 hown hK.1 hY.2.1 0 rfl rfl 0 (by decide) hf10 (fun _ h9 => h9) rfl dX5_abort_5 ?_
  refine kCallYv (va_runV (As := [.ref (ad 0)]) (rest := []) ⟨hx, hb, hml, hown, hts⟩ (c_X1_prepare l E ad S hs (by assumption)) (cwV 1 hts gX5_abort_X1_prepare rfl rfl rfl (by decide +kernel) ⟨Nat.le_of_ble_eq_true rfl, Nat.le_of_ble_eq_true rfl⟩) (kPreYV hK hY.2.2.1 hY (q0 := 0) rfl rfl) rfl rfl hl.1 rfl (lv_room (Nat.le_of_ble_eq_true rfl)) dX5_abort_8 ⟨Nat.zero_le _, Nat.zero_le _⟩) hS (fun _ h => h) (fun H locs hY _ _ hS => ?_)
  have hn1 : nOK ((mX1_prepare S) 0 0 2) := prep_n hh hn
  refine kGen (mX1_prepare S) (fun S_1 hS_1 => ?_)
  rw [hS_1] at hE hY hn1
  try dsimp only at hE
  refine lv_aload_n hx hb dX5_abort_11 rfl (lv_at hl 0 rfl) ?_
  refine va_get (D := E.1) (ci := 4) (v := .ref (ad 83)) (C := RX5) (T := TX5) (N := 6) hx hb hts hiX5 hown hK.1 hY.2.1 0 rfl rfl 1 (by decide) hf19 (fun _ h9 => h9) rfl dX5_abort_12 ?_
  refine lv_aload_n hx hb dX5_abort_15 rfl (lv_at hl 0 rfl) ?_
  refine va_get (D := E.1) (ci := 4) (v := .ref (ad 0)) (C := RX5) (T := TX5) (N := 6) hx hb hts hiX5 hown hK.1 hY.2.1 0 rfl rfl 0 (by decide) hf10 (fun _ h9 => h9) rfl dX5_abort_16 ?_
  refine lv_iload_n hx hb dX5_abort_19 rfl (lv_at hl 1 rfl) ?_
  refine kCallWi (va_runV (As := [.int x1]) (rest := [.ref (ad 83)]) ⟨hx, hb, hml, hown, hts⟩ (c_X2_giveUp l E (ga ad (8 * 0)) (S_1 0) (hs.inj (by omega)) x1 (by first | assumption | exact tOK.nI (by omega)) _ rfl) (cwV 1 hts gX5_abort_X2_giveUp rfl rfl rfl (by decide +kernel) ⟨Nat.le_of_ble_eq_true rfl, Nat.le_of_ble_eq_true rfl⟩) (kPreV hK (hY.1 0 (by omega)) (hY.1 0 (by omega)) (q0 := 0) rfl rfl) rfl rfl hl.1 rfl (lv_room (Nat.le_of_ble_eq_true rfl)) dX5_abort_20 ⟨Nat.zero_le _, Nat.zero_le _⟩) hS (kA_sub (by omega)) (fun H locs hP _ hk hS => ?_)
  refine kGen (mX2_giveUp (S_1 0) x1) (fun g_2 hg_2 => ?_)
  rw [hg_2] at hE hP ⊢
  try dsimp only at hE
  have hY := hY.putL hs (j := 0) (by omega) (rset (rset (S_1 0) 1 (g_2.2.1)) 6 (g_2.2.2)) hP hk
  refine kCallWi (va_runV (As := [.int (g_2.1)]) (rest := []) ⟨hx, hb, hml, hown, hts⟩ (c_X1_keepUnlessError l E (ga ad 83) (S_1 11) (hs.inj (by omega)) (g_2.1) _ rfl) (cwV 1 hts gX5_abort_X1_keepUnlessError rfl rfl rfl (by decide +kernel) ⟨Nat.le_of_ble_eq_true rfl, Nat.le_of_ble_eq_true rfl⟩) (kPreV hK (kP_l hY.2.2.1) (kP_l hY.2.2.1) (q0 := 0) rfl rfl) rfl rfl hl.1 rfl (lv_room (Nat.le_of_ble_eq_true rfl)) dX5_abort_23 ⟨Nat.zero_le _, Nat.zero_le _⟩) hS (kA_sub (by omega)) (fun H locs hP _ hk hS => ?_)
  refine kGen (mX1_keepUnlessError (S_1 11) (g_2.1)) (fun g_3 hg_3 => ?_)
  rw [hg_3] at hE hP ⊢
  try dsimp only at hE
  have hY := hY.putH hs (rset (S_1 11) 0 (upd (upd ((S_1 11) 0) 0 (g_3.2.1)) 1 (g_3.2.2))) hP hk
  subst R
  exact W.iret (v := (g_3.1)) hx hb hr (fun t ht hW => ⟨rfl, by rw [ht]; exact hY, hS.F ht⟩) hS.2.2 dX5_abort_26
