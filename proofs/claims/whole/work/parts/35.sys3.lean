theorem kS_wide {A B : Nat → Prop} {H0 H : Heap} {locs : List Loc} (h : va_S A H0 H locs) (hAB : ∀ q, A q → B q) : va_S B H0 H locs := ⟨h.1, fun q h1 h2 => h.2.1 q h1 (fun z => h2 (hAB q z)), fun l hl => hAB _ (h.2.2 l hl)⟩
def hisB (S : kS) : Int32 := if (S 11 0 1) ≤ 0 then 6 else (S 11 0 1) - 1
def mX1_stepBack (S : kS) : Int32 × kS := if (S 11 0 0) = 0 then ((-5), S) else ((S 11 0 0) - 1, gset (gset S 11 (rset (S 11) 0 (upd (upd (S 11 0) 0 ((S 11 0 0) - 1)) 1 (hisB S)))) 0 (kcp (S 0) (S (3 + (hisB S).toNatClampNeg))))
theorem hisB_ok {S : kS} (h : hisOK S) : ∃ n : Nat, n < 7 ∧ hisB S = nI n := by
  obtain ⟨n, hn, e⟩ := h
  unfold hisB
  rw [e]
  cases n with
  | zero => exact ⟨6, by omega, by rw [if_pos (by decide)]; rfl⟩
  | succ n => exact ⟨n, by omega, by rw [if_neg (nI_nle (by omega) (by omega))]; exact nI_pred n⟩
set_option maxHeartbeats 400000 in
set_option maxRecDepth 100000 in
theorem c_X1_stepBack (l : Launch) (E : kE) (ad : Nat → Nat) (S : kS) (hs : kSep ad) (hn : hisOK S) (R : Int32 × kS) (hE : R = mX1_stepBack S) : Met l yX1_stepBack wsX1_stepBack ({ frames := 2, cells := 0, slots := 0, locals := 47 }) (kPreY E [.ref (ad 83), .ref (ad 0)] ad S) (kYi E R.1 ad R.2) 0 0 (kA ad 90) := by
  refine Met.ofW (cc := cX1_stepBack) (maxL := 2) (ret := some .int) (by decide) rfl ?_
  intro p e s m args below meth c s₁ B hml hv
  obtain ⟨rfl, hK, hY⟩ := hv
  have hx := B.exec
  have hb := B.bytes
  have hr := B.returns
  have hts := atoms_spec (ws := wsX1_stepBack) B.pre
  have hown : s.vm.findClass RX1 = some m.cls := findClass_of_methodNamed B.named
  have hlocks := B.notSynchronized
  have hiX1 : ∀ w ∈ wsX10, w ∈ wsX1_stepBack := by decide +kernel
  have hfk := hts (.fieldLink RX1 9 "SkewEdges$History" "kept" "I") (by decide +kernel)
  have hfn := hts (.fieldLink RX1 15 "SkewEdges$History" "next" "I") (by decide +kernel)
  have hS : va_S (kA (ga ad 83) 1) s.heap s.heap [] := va_S.rf
  obtain ⟨n, hn7, hne⟩ := hisB_ok hn
  have hl := lv_entry ([.ref (ad 83), .ref (ad 0)]) (n := 2) (Nat.le_of_ble_eq_true rfl)
  rw [lg_entry_eq]
  generalize (lg_sl ([.ref (ad 83), .ref (ad 0)]) ++ List.replicate (2 - (lg_sl ([.ref (ad 83), .ref (ad 0)])).length) Slot.unset).toArray = ls at hl ⊢
  have hl : lv_has ls 2 [(0, .ref (ad 83)), (1, .ref (ad 0))] := hl
  have hP : va_P E.1 vwCl (wHisx E (ga ad 83) (S 11 0 0) (S 11 0 1)) s.heap := kP_l hY.2.2.1
  have hj : kInj (ga ad 83) 1 := hs.inj (by omega)
  refine lv_aload_n hx hb dX1_stepBack_0 rfl (lv_at hl 0 rfl) ?_
  refine va_get (D := E.1) (ci := 0) (v := .int (S 11 0 0)) (C := RX1) (T := TX1) (N := 3) hx hb hts hiX1 hown hK.1 hP 0 rfl rfl 0 (by decide) hfk (fun _ h9 => h9) rfl dX1_stepBack_1 ?_
  refine lv_if_ne (tgt := 10) hx hb dX1_stepBack_4 (by decide) (fun c1 => ?_) (fun c1 => ?_)
  · have hD := dHis (E := E) hj (S 11 0 0) (S 11 0 1)
    refine lv_aload_n hx hb dX1_stepBack_10 rfl (lv_at hl 0 rfl) ?_
    refine lv_dup hx hb dX1_stepBack_11 rfl ?_
    refine va_get (D := E.1) (ci := 0) (v := .int (S 11 0 0)) (C := RX1) (T := TX1) (N := 3) hx hb hts hiX1 hown hK.1 hP 0 rfl rfl 0 (by decide) hfk (fun _ h9 => h9) rfl dX1_stepBack_12 ?_
    refine lv_iconst (v := 1) hx hb dX1_stepBack_15 (by decide) ?_
    refine lv_isub hx hb dX1_stepBack_16 ?_
    refine va_put (D := E.1) (ci := 0) (v := .int ((S 11 0 0) - 1)) (ty := .int) (C := RX1) (T := TX1) (N := 3) hx hb hts hiX1 tyX1 tyX1_ok nmX1 hown hK.1 hP hD hS 0 rfl rfl 0 (by decide) hfk (fun _ h9 => h9) rfl (by decide +kernel) rfl rfl (Nat.le_of_ble_eq_true rfl) dX1_stepBack_17 (fun H locs hP _ hS => ?_)
    have hP : va_P E.1 vwCl (wHisx E (ga ad 83) ((S 11 0 0) - 1) (S 11 0 1)) H := hP
    have hD := dHis (E := E) hj ((S 11 0 0) - 1) (S 11 0 1)
    refine lv_aload_n hx hb dX1_stepBack_20 rfl (lv_at hl 0 rfl) ?_
    refine lv_aload_n hx hb dX1_stepBack_21 rfl (lv_at hl 0 rfl) ?_
    refine va_get (D := E.1) (ci := 0) (v := .int (S 11 0 1)) (C := RX1) (T := TX1) (N := 3) hx hb hts hiX1 hown hK.1 hP 0 rfl rfl 1 (by decide) hfn (fun _ h9 => h9) rfl dX1_stepBack_22 ?_
    have key : ∀ (H : Heap) (locs : List Loc), va_P E.1 vwCl (wHisx E (ga ad 83) ((S 11 0 0) - 1) (S 11 0 1)) H → va_S (kA (ga ad 83) 1) s.heap H locs → W p l e ({ frames := 2, cells := 0, slots := 0, locals := 47 }) s m ([.ref (ad 83), .ref (ad 0)] : List Value).toArray below meth c H locs 0 0 (MQ below (kYi E R.1 ad R.2) ([.ref (ad 83), .ref (ad 0)] : List Value).toArray s 0 0 (kA ad 90)) (F0 m 39 ls [.int (hisB S), .ref (ad 83)]) := by
      intro H locs hP hS
      have hD := dHis (E := E) hj ((S 11 0 0) - 1) (S 11 0 1)
      refine va_put (D := E.1) (ci := 0) (v := .int (hisB S)) (ty := .int) (C := RX1) (T := TX1) (N := 3) hx hb hts hiX1 tyX1 tyX1_ok nmX1 hown hK.1 hP hD hS 0 rfl rfl 1 (by decide) hfn (fun _ h9 => h9) rfl (by decide +kernel) rfl rfl (Nat.le_of_ble_eq_true rfl) dX1_stepBack_39 (fun H locs hP _ hS => ?_)
      have hY2 := hY.putH hs (rset (S 11) 0 (upd (upd (S 11 0) 0 ((S 11 0 0) - 1)) 1 (hisB S))) hP (fun q h1 h2 => hS.2.1 q h1 h2)
      have hS := kS_wide hS (kA_sub (by omega))
      refine lv_aload_n hx hb dX1_stepBack_42 rfl (lv_at hl 1 rfl) ?_
      refine lv_aload_n hx hb dX1_stepBack_43 rfl (lv_at hl 0 rfl) ?_
      refine va_get (D := E.1) (ci := 0) (v := .ref (ad 84)) (C := RX1) (T := TX1) (N := 3) hx hb hts hiX1 hown hK.1 hY2.2.2.1 0 rfl rfl 2 (by decide) (hts (.fieldLink RX1 20 "SkewEdges$History" "rows" "[LSkewEdges$Ledger;") (by decide +kernel)) (fun _ h9 => h9) rfl dX1_stepBack_44 ?_
      refine lv_aload_n hx hb dX1_stepBack_47 rfl (lv_at hl 0 rfl) ?_
      refine va_get (D := E.1) (ci := 0) (v := .int (hisB S)) (C := RX1) (T := TX1) (N := 3) hx hb hts hiX1 hown hK.1 hY2.2.2.1 0 rfl rfl 1 (by decide) hfn (fun _ h9 => h9) rfl dX1_stepBack_48 ?_
      refine va_aldq (D := E.1) hx hb hK.1 hY2.2.2.1 1 3 rfl rfl (by rw [hne]; exact vp_in_nI hn7 (by omega)) dX1_stepBack_51 ?_
      refine W.eq (g2 := F0 m 52 ls [.ref (ga ad (8 * (3 + n)) 0), .ref (ad 0)]) (by rw [hne, nI_clamp (by omega)]; rfl) ?_
      have hw0 : va_P E.1 vwCl (wLed E (ga ad (8 * 0)) (S 0)) H := hY2.1 0 (by omega)
      have hw1 : va_P E.1 vwCl (wLed E (ga ad (8 * (3 + n))) (S (3 + n))) H := by
        have := hY2.1 (3 + n) (by omega)
        rw [gset_ne _ _ (show 3 + n ≠ 11 by omega)] at this
        exact this
      have hw := hw0.app hw1
      refine kCallWv (va_runV (As := [.ref (ga ad (8 * (3 + n)) 0)]) (rest := []) ⟨hx, hb, hml, hown, hts⟩ (c_X2_copyFrom l E (ga ad (8 * 0)) (ga ad (8 * (3 + n))) (S 0) (S (3 + n)) (hs.inj (by omega)) (hs.inj (by omega)) (hs.ap (by omega) (by omega) (by omega)) _ rfl) (cwV 1 hts gX1_stepBack_X2_copyFrom rfl rfl rfl (by decide +kernel) ⟨Nat.le_of_ble_eq_true rfl, Nat.le_of_ble_eq_true rfl⟩) (kPreV hK hw hw (q0 := 0) rfl rfl) rfl rfl hl.1 rfl (lv_room (Nat.le_of_ble_eq_true rfl)) dX1_stepBack_52 ⟨Nat.zero_le _, Nat.zero_le _⟩) hS (kA_sub2 (by omega) (by omega)) (fun H locs hP _ hk hS => ?_)
      have hY3 := hY2.put2 hs (i := 0) (j := 3 + n) (by omega) (by omega) (by omega) (kcp (S 0) (S (3 + n))) (by rw [gset_ne _ _ (show 3 + n ≠ 11 by omega)]; exact hP) hk
      have hE := hE.trans (if_neg c1)
      have hg : (hisB S).toNatClampNeg = n := by rw [hne, nI_clamp (by omega)]
      rw [hg] at hE
      refine lv_aload_n hx hb dX1_stepBack_55 rfl (lv_at hl 0 rfl) ?_
      refine va_get (D := E.1) (ci := 0) (v := .int ((S 11 0 0) - 1)) (C := RX1) (T := TX1) (N := 3) hx hb hts hiX1 hown hK.1 hY3.2.2.1 0 rfl rfl 0 (by decide) hfk (fun _ h9 => h9) rfl dX1_stepBack_56 ?_
      subst hE
      exact W.iret (v := ((S 11 0 0) - 1)) hx hb hr (fun t ht hW => ⟨rfl, by rw [ht]; exact hY3, hS.F ht⟩) hS.2.2 dX1_stepBack_59
    refine lv_if_le (tgt := 37) hx hb dX1_stepBack_25 (by decide) (fun c2 => ?_) (fun c2 => ?_)
    · refine lv_bipush (v := 6) hx hb dX1_stepBack_37 (by decide) ?_
      have e6 : hisB S = 6 := if_pos c2
      rw [← e6]
      exact key H locs hP hS
    · refine lv_aload_n hx hb dX1_stepBack_28 rfl (lv_at hl 0 rfl) ?_
      refine va_get (D := E.1) (ci := 0) (v := .int (S 11 0 1)) (C := RX1) (T := TX1) (N := 3) hx hb hts hiX1 hown hK.1 hP 0 rfl rfl 1 (by decide) hfn (fun _ h9 => h9) rfl dX1_stepBack_29 ?_
      refine lv_iconst (v := 1) hx hb dX1_stepBack_32 (by decide) ?_
      refine lv_isub hx hb dX1_stepBack_33 ?_
      refine lv_goto (tgt := 39) hx hb dX1_stepBack_34 (by decide) ?_
      have e6 : hisB S = (S 11 0 1) - 1 := if_neg c2
      rw [← e6]
      exact key H locs hP hS
  · have hE := hE.trans (if_pos c1)
    refine lv_bipush (v := (-5)) hx hb dX1_stepBack_7 (by decide) ?_
    subst hE
    exact W.iret (v := (-5)) hx hb hr (fun t ht hW => ⟨rfl, by rw [ht]; exact hY, (va_S.rf (A := kA ad 90)).F ht⟩) (fun _ h => by cases h) dX1_stepBack_9

