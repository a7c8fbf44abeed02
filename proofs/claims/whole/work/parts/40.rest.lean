def mX5_restore (S : kS) (x1 : Int32) : Int32 × kS :=
  if mX5_isSlot x1 = 0 then ((-2), S)
  else if (S 10 1) x1.toNatClampNeg = 0 then ((-5), S)
  else (fun (S1 : kS) => (fun (k : Int32 × Int32 × Int32) => (k.1, gset (gset S1 0 (kcp (S1 0) (S (sloN x1)))) 11 (rset (S1 11) 0 (upd (upd (S1 11 0) 0 k.2.1) 1 k.2.2)))) (mX1_keepUnlessError (S1 11) (S (sloN x1) 0 2))) (mX1_prepare S)
set_option maxHeartbeats 400000 in
set_option maxRecDepth 100000 in
theorem c_X5_restore (l : Launch) (E : kE) (ad : Nat → Nat) (S : kS) (hs : kSep ad) (x1 : Int32) (hh : hisOK S) (R : Int32 × kS) (hE : R = mX5_restore S x1) : Met l yX5_restore wsX5_restore ({ frames := 3, cells := 0, slots := 0, locals := 68 }) (kPreY E [.ref (ad 80), .int x1] ad S) (kYi E R.1 ad R.2) 0 0 (kA ad 90) := by
  refine Met.ofW (cc := cX5_restore) (maxL := 2) (ret := some .int) (by decide) rfl ?_
  intro p e s m args below meth c s₁ B hml hv
  obtain ⟨rfl, hK, hY⟩ := hv
  have hx := B.exec
  have hb := B.bytes
  have hr := B.returns
  have hts := atoms_spec (ws := wsX5_restore) B.pre
  have hown : s.vm.findClass RX5 = some m.cls := findClass_of_methodNamed B.named
  have hlocks := B.notSynchronized
  have hiX5 : ∀ w ∈ wsX50, w ∈ wsX5_restore := by decide +kernel
  have hiX2 : ∀ w ∈ wsX20, w ∈ wsX5_restore := by decide +kernel
  have hfl := hts (.fieldLink RX5 10 "SkewEdges" "ledger" "LSkewEdges$Ledger;") (by decide +kernel)
  have hfh := hts (.fieldLink RX5 19 "SkewEdges" "history" "LSkewEdges$History;") (by decide +kernel)
  have hS : va_S (kA ad 90) s.heap s.heap [] := va_S.rf
  have hl := lv_entry ([.ref (ad 80), .int x1]) (n := 2) (Nat.le_of_ble_eq_true rfl)
  rw [lg_entry_eq]
  generalize (lg_sl ([.ref (ad 80), .int x1]) ++ List.replicate (2 - (lg_sl ([.ref (ad 80), .int x1])).length) Slot.unset).toArray = ls at hl ⊢
  have hl : lv_has ls 2 [(0, .ref (ad 80)), (1, .int x1)] := hl
  refine lv_iload_n hx hb dX5_restore_0 rfl (lv_at hl 1 rfl) ?_
  refine kCallRi (va_runS (As := [.int x1]) (rest := []) ⟨hx, hb, hml, hown, hts⟩ (c_X5_isSlot l E x1 _ rfl) (va_cwS 1 hts gX5_restore_X5_isSlot rfl rfl rfl (by decide +kernel) ⟨Nat.le_of_ble_eq_true rfl, Nat.le_of_ble_eq_true rfl⟩) (kPreS hK kP0) rfl rfl hl.1 rfl (lv_room (Nat.le_of_ble_eq_true rfl)) dX5_restore_1 ⟨Nat.zero_le _, Nat.zero_le _⟩) ?_
  refine lv_if_ne (tgt := 10) hx hb dX5_restore_4 (by decide) (fun c1 => ?_) (fun c1 => ?_)
  · have hE := hE.trans (if_neg c1)
    have hsl := isSlot_ok c1
    have hlt : x1.toNatClampNeg < 2 := by
      obtain ⟨n, hn, rfl⟩ := hsl
      rw [nI_clamp (by omega)]; omega
    have hN : sloN x1 < 3 := by unfold sloN; omega
    have h1N : 0 < sloN x1 := by unfold sloN; omega
    refine lv_aload_n hx hb dX5_restore_10 rfl (lv_at hl 0 rfl) ?_
    refine va_get (D := E.1) (ci := 4) (v := .ref (ad 82)) (C := RX5) (T := TX5) (N := 6) hx hb hts hiX5 hown hK.1 hY.2.1 0 rfl rfl 3 (by decide) (hts (.fieldLink RX5 27 "SkewEdges" "saved" "[Z") (by decide +kernel)) (fun _ h9 => h9) rfl dX5_restore_11 ?_
    refine lv_iload_n hx hb dX5_restore_14 rfl (lv_at hl 1 rfl) ?_
    refine va_zald (D := E.1) hx hb hK.1 hY.2.1 2 1 rfl rfl hsl.in2 dX5_restore_15 ?_
    refine lv_if_ne (tgt := 22) hx hb dX5_restore_16 (by decide) (fun c2 => ?_) (fun c2 => ?_)
    · have hE := hE.trans (if_neg c2)
      refine lv_aload_n hx hb dX5_restore_22 rfl (lv_at hl 0 rfl) ?_
      refine va_get (D := E.1) (ci := 4) (v := .ref (ad 83)) (C := RX5) (T := TX5) (N := 6) hx hb hts hiX5 hown hK.1 hY.2.1 0 rfl rfl 1 (by decide) hfh (fun _ h9 => h9) rfl dX5_restore_23 ?_
      refine lv_aload_n hx hb dX5_restore_26 rfl (lv_at hl 0 rfl) ?_
      refine va_get (D := E.1) (ci := 4) (v := .ref (ad 0)) (C := RX5) (T := TX5) (N := 6) hx hb hts hiX5 hown hK.1 hY.2.1 0 rfl rfl 0 (by decide) hfl (fun _ h9 => h9) rfl dX5_restore_27 ?_
      refine kCallYv (va_runV (As := [.ref (ad 0)]) (rest := []) ⟨hx, hb, hml, hown, hts⟩ (c_X1_prepare l E ad S hs hh) (cwV 1 hts gX5_restore_X1_prepare rfl rfl rfl (by decide +kernel) ⟨Nat.le_of_ble_eq_true rfl, Nat.le_of_ble_eq_true rfl⟩) (kPreYV hK hY.2.2.1 hY (q0 := 0) rfl rfl) rfl rfl hl.1 rfl (lv_room (Nat.le_of_ble_eq_true rfl)) dX5_restore_30 ⟨Nat.zero_le _, Nat.zero_le _⟩) hS (fun _ h => h) (fun H locs hY _ _ hS => ?_)
      have eS : mX1_prepare S (sloN x1) = S (sloN x1) := prep_ne hh (by omega)
      refine kGen (mX1_prepare S) (fun S1 hS1 => ?_)
      rw [hS1] at hE hY eS
      dsimp only at hE
      refine lv_aload_n hx hb dX5_restore_33 rfl (lv_at hl 0 rfl) ?_
      refine va_get (D := E.1) (ci := 4) (v := .ref (ad 0)) (C := RX5) (T := TX5) (N := 6) hx hb hts hiX5 hown hK.1 hY.2.1 0 rfl rfl 0 (by decide) hfl (fun _ h9 => h9) rfl dX5_restore_34 ?_
      refine lv_aload_n hx hb dX5_restore_37 rfl (lv_at hl 0 rfl) ?_
      refine va_get (D := E.1) (ci := 4) (v := .ref (ad 81)) (C := RX5) (T := TX5) (N := 6) hx hb hts hiX5 hown hK.1 hY.2.1 0 rfl rfl 2 (by decide) (hts (.fieldLink RX5 23 "SkewEdges" "slots" "[LSkewEdges$Ledger;") (by decide +kernel)) (fun _ h9 => h9) rfl dX5_restore_38 ?_
      refine lv_iload_n hx hb dX5_restore_41 rfl (lv_at hl 1 rfl) ?_
      refine va_aldq (D := E.1) hx hb hK.1 hY.2.1 1 3 rfl rfl hsl.in2 dX5_restore_42 ?_
      have hw1 : va_P E.1 vwCl (wLed E (ga ad (8 * sloN x1)) (S (sloN x1))) H := by have := hY.1 (sloN x1) (by omega); rw [eS] at this; exact this
      have hw := (hY.1 0 (by omega)).app hw1
      refine kCallWv (va_runV (As := [.ref (ga ad (8 * sloN x1) 0)]) (rest := []) ⟨hx, hb, hml, hown, hts⟩ (c_X2_copyFrom l E (ga ad (8 * 0)) (ga ad (8 * sloN x1)) (S1 0) (S (sloN x1)) (hs.inj (by omega)) (hs.inj (by omega)) (hs.ap (by omega) (by omega) (by omega)) _ rfl) (cwV 1 hts gX5_restore_X2_copyFrom rfl rfl rfl (by decide +kernel) ⟨Nat.le_of_ble_eq_true rfl, Nat.le_of_ble_eq_true rfl⟩) (kPreV hK hw hw (q0 := 0) rfl rfl) rfl rfl hl.1 rfl (lv_room (Nat.le_of_ble_eq_true rfl)) dX5_restore_43 ⟨Nat.zero_le _, Nat.zero_le _⟩) hS (kA_sub2 (by omega) (by omega)) (fun H locs hP _ hk hS => ?_)
      have hY2 := hY.put2 hs (i := 0) (j := sloN x1) (by omega) (by omega) (by omega) (kcp (S1 0) (S (sloN x1))) (by rw [eS]; exact hP) hk
      refine lv_aload_n hx hb dX5_restore_46 rfl (lv_at hl 0 rfl) ?_
      refine va_get (D := E.1) (ci := 4) (v := .ref (ad 83)) (C := RX5) (T := TX5) (N := 6) hx hb hts hiX5 hown hK.1 hY2.2.1 0 rfl rfl 1 (by decide) hfh (fun _ h9 => h9) rfl dX5_restore_47 ?_
      refine lv_aload_n hx hb dX5_restore_50 rfl (lv_at hl 0 rfl) ?_
      refine va_get (D := E.1) (ci := 4) (v := .ref (ad 0)) (C := RX5) (T := TX5) (N := 6) hx hb hts hiX5 hown hK.1 hY2.2.1 0 rfl rfl 0 (by decide) hfl (fun _ h9 => h9) rfl dX5_restore_51 ?_
      refine va_get (D := E.1) (ci := 1) (v := .int (S (sloN x1) 0 2)) (C := RX2) (T := TX2) (N := 10) hx hb hts hiX2 hown hK.1 (hY2.1 0 (by omega)) 0 rfl rfl 2 (by decide) (hts (.fieldLink RX5 126 "SkewEdges$Ledger" "total" "I") (by decide +kernel)) (fun _ h9 => h9) rfl dX5_restore_54 ?_
      have hwh : va_P E.1 vwCl (wHisx E (ga ad 83) (S1 11 0 0) (S1 11 0 1)) H := kP_l hY2.2.2.1
      refine kCallWi (va_runV (As := [.int (S (sloN x1) 0 2)]) (rest := []) ⟨hx, hb, hml, hown, hts⟩ (c_X1_keepUnlessError l E (ga ad 83) (S1 11) (hs.inj (by omega)) (S (sloN x1) 0 2) _ rfl) (cwV 1 hts gX5_restore_X1_keepUnlessError rfl rfl rfl (by decide +kernel) ⟨Nat.le_of_ble_eq_true rfl, Nat.le_of_ble_eq_true rfl⟩) (kPreV hK hwh hwh (q0 := 0) rfl rfl) rfl rfl hl.1 rfl (lv_room (Nat.le_of_ble_eq_true rfl)) dX5_restore_57 ⟨Nat.zero_le _, Nat.zero_le _⟩) hS (kA_sub (by omega)) (fun H locs hP _ hk hS => ?_)
      refine kGen (mX1_keepUnlessError (S1 11) (S (sloN x1) 0 2)) (fun k hk9 => ?_)
      rw [hk9] at hE hP ⊢
      try dsimp only at hE
      have hY3 := hY2.putH hs (rset (S1 11) 0 (upd (upd (S1 11 0) 0 k.2.1) 1 k.2.2)) hP hk
      subst hE
      exact W.iret (v := k.1) hx hb hr (fun t ht hW => ⟨rfl, by rw [ht]; exact hY3, hS.F ht⟩) hS.2.2 dX5_restore_60
    · have hE := hE.trans (if_pos c2)
      refine lv_bipush (v := (-5)) hx hb dX5_restore_19 (by decide) ?_
      subst hE
      exact W.iret (v := (-5)) hx hb hr (fun t ht hW => ⟨rfl, by rw [ht]; exact hY, hS.F ht⟩) hS.2.2 dX5_restore_21
  · have hE := hE.trans (if_pos c1)
    refine lv_bipush (v := (-2)) hx hb dX5_restore_7 (by decide) ?_
    subst hE
    exact W.iret (v := (-2)) hx hb hr (fun t ht hW => ⟨rfl, by rw [ht]; exact hY, hS.F ht⟩) hS.2.2 dX5_restore_9

