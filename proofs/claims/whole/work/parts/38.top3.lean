def kEqG (a b : kG) : Prop := a = b
theorem start_n {v : kG} (h : nOK (v 0 2)) : nOK (mX2_start v).2.2.1 := by
  rw [mX2_start_s]
  by_cases c : v 0 2 < 12
  · rw [if_pos c]; exact tOK.s (h.tl c)
  · rw [if_neg c]; exact h
def mX5_carryOne (S : kS) : Int32 × kS :=
  if ((S 12) 0 1) = 98 then
    (fun (g_2 : Int32 × Int32 × Int32 × (Nat → Int32) × (Nat → Int32) × (Nat → Int32) × (Nat → Int32) × (Nat → Int32) × (Nat → Int32)) =>
      ((g_2.1), (gset S 0 (rset (rset (rset (rset (rset (rset (rset (S 0) 1 (g_2.2.2.2.1)) 2 (g_2.2.2.2.2.1)) 3 (g_2.2.2.2.2.2.1)) 4 (g_2.2.2.2.2.2.2.1)) 5 (g_2.2.2.2.2.2.2.2.1)) 6 (g_2.2.2.2.2.2.2.2.2)) 0 (upd (upd ((S 0) 0) 1 (g_2.2.1)) 2 (g_2.2.2.1))))))
      (mX2_start (S 0))
  else
    if ((S 12) 0 1) = 99 then
      (fun (g_4 : Int32 × Int32 × (Nat → Int32) × (Nat → Int32) × (Nat → Int32)) =>
        ((g_4.1), (gset S 0 (rset (rset (rset (rset (S 0) 1 (g_4.2.2.1)) 3 (g_4.2.2.2.1)) 6 (g_4.2.2.2.2)) 0 (upd ((S 0) 0) 1 (g_4.2.1))))))
        (mX2_finish (S 0) ((S 12) 0 2))
    else
      if ((S 12) 0 1) = 114 then
        (fun (g_6 : Int32 × (Nat → Int32)) =>
          ((g_6.1), (gset S 0 (rset (S 0) 4 (g_6.2)))))
          (mX2_look (S 0) ((S 12) 0 2) ((S 12) 0 3))
      else
        if ((S 12) 0 1) = 119 then
          (fun (g_8 : Int32 × (Nat → Int32) × (Nat → Int32)) =>
            ((g_8.1), (gset S 0 (rset (rset (S 0) 5 (g_8.2.1)) 7 (g_8.2.2)))))
            (mX2_enter (S 0) ((S 12) 0 2) ((S 12) 0 3) ((S 12) 0 4))
        else
          if ((S 12) 0 1) = 120 then
            (fun (g_10 : Int32 × (Nat → Int32) × (Nat → Int32)) =>
              ((g_10.1), (gset S 0 (rset (rset (S 0) 1 (g_10.2.1)) 6 (g_10.2.2)))))
              (mX2_giveUp (S 0) ((S 12) 0 2))
          else
            ((-3), S)
theorem mX5_carryOne_s {S : kS} : mX5_carryOne S = (
  if ((S 12) 0 1) = 98 then
    (fun (g_2 : Int32 × Int32 × Int32 × (Nat → Int32) × (Nat → Int32) × (Nat → Int32) × (Nat → Int32) × (Nat → Int32) × (Nat → Int32)) =>
      ((g_2.1), (gset S 0 (rset (rset (rset (rset (rset (rset (rset (S 0) 1 (g_2.2.2.2.1)) 2 (g_2.2.2.2.2.1)) 3 (g_2.2.2.2.2.2.1)) 4 (g_2.2.2.2.2.2.2.1)) 5 (g_2.2.2.2.2.2.2.2.1)) 6 (g_2.2.2.2.2.2.2.2.2)) 0 (upd (upd ((S 0) 0) 1 (g_2.2.1)) 2 (g_2.2.2.1))))))
      (mX2_start (S 0))
  else
    if ((S 12) 0 1) = 99 then
      (fun (g_4 : Int32 × Int32 × (Nat → Int32) × (Nat → Int32) × (Nat → Int32)) =>
        ((g_4.1), (gset S 0 (rset (rset (rset (rset (S 0) 1 (g_4.2.2.1)) 3 (g_4.2.2.2.1)) 6 (g_4.2.2.2.2)) 0 (upd ((S 0) 0) 1 (g_4.2.1))))))
        (mX2_finish (S 0) ((S 12) 0 2))
    else
      if ((S 12) 0 1) = 114 then
        (fun (g_6 : Int32 × (Nat → Int32)) =>
          ((g_6.1), (gset S 0 (rset (S 0) 4 (g_6.2)))))
          (mX2_look (S 0) ((S 12) 0 2) ((S 12) 0 3))
      else
        if ((S 12) 0 1) = 119 then
          (fun (g_8 : Int32 × (Nat → Int32) × (Nat → Int32)) =>
            ((g_8.1), (gset S 0 (rset (rset (S 0) 5 (g_8.2.1)) 7 (g_8.2.2)))))
            (mX2_enter (S 0) ((S 12) 0 2) ((S 12) 0 3) ((S 12) 0 4))
        else
          if ((S 12) 0 1) = 120 then
            (fun (g_10 : Int32 × (Nat → Int32) × (Nat → Int32)) =>
              ((g_10.1), (gset S 0 (rset (rset (S 0) 1 (g_10.2.1)) 6 (g_10.2.2)))))
              (mX2_giveUp (S 0) ((S 12) 0 2))
          else
            ((-3), S) : Int32 × kS) := rfl
set_option maxHeartbeats 400000 in
set_option maxRecDepth 100000 in
theorem c_X5_carryOne (l : Launch) (E : kE) (ad : Nat → Nat) (S : kS) (hs : kSep ad) (hn : nOK (S 0 0 2)) (R : Int32 × kS) (hE : R = mX5_carryOne S) : Met l yX5_carryOne wsX5_carryOne ({ frames := 5, cells := 0, slots := 0, locals := 124 }) (kPreY E [.ref (ad 80)] ad S) (kYi E R.1 ad R.2) 0 0 (kA ad 90) := by
  refine Met.ofW (cc := cX5_carryOne) (maxL := 1) (ret := (some .int)) (by decide) rfl ?_
  intro p e s m args below meth c s₁ B hml hv
  obtain ⟨rfl, hK, hY⟩ := hv
  have hx := B.exec
  have hb := B.bytes
  have hr := B.returns
  have hts := atoms_spec (ws := wsX5_carryOne) B.pre
  have hown : s.vm.findClass RX5 = some m.cls := findClass_of_methodNamed B.named
  have hlocks := B.notSynchronized
  have hiX5 : ∀ w ∈ wsX50, w ∈ wsX5_carryOne := by decide +kernel
  have hiX3 : ∀ w ∈ wsX30, w ∈ wsX5_carryOne := by decide +kernel
  have hf10 := hts (.fieldLink RX5 10 "SkewEdges" "ledger" "LSkewEdges$Ledger;") (by decide +kernel)
  have hf34 := hts (.fieldLink RX5 34 "SkewEdges" "pad" "LSkewEdges$Pad;") (by decide +kernel)
  have hf204 := hts (.fieldLink RX5 204 "SkewEdges$Pad" "kind" "I") (by decide +kernel)
  have hf207 := hts (.fieldLink RX5 207 "SkewEdges$Pad" "first" "I") (by decide +kernel)
  have hf210 := hts (.fieldLink RX5 210 "SkewEdges$Pad" "second" "I") (by decide +kernel)
  have hf213 := hts (.fieldLink RX5 213 "SkewEdges$Pad" "third" "I") (by decide +kernel)
  have hS : va_S (kA ad 90) s.heap s.heap [] := va_S.rf
  have hl := lv_entry ([.ref (ad 80)]) (n := 1) (Nat.le_of_ble_eq_true rfl)
  rw [lg_entry_eq]
  generalize (lg_sl ([.ref (ad 80)]) ++ List.replicate (1 - (lg_sl ([.ref (ad 80)])).length) Slot.unset).toArray = ls at hl ⊢
  have hl : lv_has ls 1 [(0, .ref (ad 80))] := hl
  replace hE := hE.trans mX5_carryOne_s
  refine lv_aload_n hx hb dX5_carryOne_0 rfl (lv_at hl 0 rfl) ?_
  refine va_get (D := E.1) (ci := 4) (v := .ref (ad 85)) (C := RX5) (T := TX5) (N := 6) hx hb hts hiX5 hown hK.1 hY.2.1 0 rfl rfl 4 (by decide) hf34 (fun _ h9 => h9) rfl dX5_carryOne_1 ?_
  refine va_get (D := E.1) (ci := 2) (v := .int ((S 12) 0 1)) (C := RX3) (T := TX3) (N := 8) hx hb hts hiX3 hown hK.1 hY.2.2.2.1 0 rfl rfl 1 (by decide) hf204 (fun _ h9 => h9) rfl dX5_carryOne_4 ?_
  by_cases c_1 : ((S 12) 0 1) = 98
  · replace hE := hE.trans (if_pos c_1)
    refine W.eq (g2 := F0 m 7 ls ([.int 98])) (by rw [c_1]) ?_
    refine lv_lookup (tgt := 56) (off := 49) hx hb dX5_carryOne_7 (by decide) (by decide) (by decide) ?_
    refine lv_aload_n hx hb dX5_carryOne_56 rfl (lv_at hl 0 rfl) ?_
    refine va_get (D := E.1) (ci := 4) (v := .ref (ad 0)) (C := RX5) (T := TX5) (N := 6) hx hb hts hiX5 hown hK.1 hY.2.1 0 rfl rfl 0 (by decide) hf10 (fun _ h9 => h9) rfl dX5_carryOne_57 ?_
    refine kCallWi (va_runV (As := []) (rest := []) ⟨hx, hb, hml, hown, hts⟩ (c_X2_start l E (ga ad (8 * 0)) (S 0) (hs.inj (by omega)) (by first | assumption | exact tOK.nI (by omega)) _ rfl) (cwV 0 hts gX5_carryOne_X2_start rfl rfl rfl (by decide +kernel) ⟨Nat.le_of_ble_eq_true rfl, Nat.le_of_ble_eq_true rfl⟩) (kPreV hK (hY.1 0 (by omega)) (hY.1 0 (by omega)) (q0 := 0) rfl rfl) rfl rfl hl.1 rfl (lv_room (Nat.le_of_ble_eq_true rfl)) dX5_carryOne_60 ⟨Nat.zero_le _, Nat.zero_le _⟩) hS (kA_sub (by omega)) (fun H locs hP _ hk hS => ?_)
    have hst : nOK ((mX2_start (S 0)).2.2.1) := start_n (v := (S 0)) hn
    refine kGen (mX2_start (S 0)) (fun g_2 hg_2 => ?_)
    rw [hg_2] at hE hP hst ⊢
    try dsimp only at hE
    have hY := hY.putL hs (j := 0) (by omega) (rset (rset (rset (rset (rset (rset (rset (S 0) 1 (g_2.2.2.2.1)) 2 (g_2.2.2.2.2.1)) 3 (g_2.2.2.2.2.2.1)) 4 (g_2.2.2.2.2.2.2.1)) 5 (g_2.2.2.2.2.2.2.2.1)) 6 (g_2.2.2.2.2.2.2.2.2)) 0 (upd (upd ((S 0) 0) 1 (g_2.2.1)) 2 (g_2.2.2.1))) hP hk
    subst R
    exact W.iret (v := (g_2.1)) hx hb hr (fun t ht hW => ⟨rfl, by rw [ht]; exact hY, hS.F ht⟩) hS.2.2 dX5_carryOne_63
  · replace hE := hE.trans (if_neg c_1)
    by_cases c_3 : ((S 12) 0 1) = 99
    · replace hE := hE.trans (if_pos c_3)
      refine W.eq (g2 := F0 m 7 ls ([.int 99])) (by rw [c_3]) ?_
      refine lv_lookup (tgt := 115) (off := 108) hx hb dX5_carryOne_7 (by decide) (by decide) (by decide) ?_
      refine lv_aload_n hx hb dX5_carryOne_115 rfl (lv_at hl 0 rfl) ?_
      refine va_get (D := E.1) (ci := 4) (v := .ref (ad 0)) (C := RX5) (T := TX5) (N := 6) hx hb hts hiX5 hown hK.1 hY.2.1 0 rfl rfl 0 (by decide) hf10 (fun _ h9 => h9) rfl dX5_carryOne_116 ?_
      refine lv_aload_n hx hb dX5_carryOne_119 rfl (lv_at hl 0 rfl) ?_
      refine va_get (D := E.1) (ci := 4) (v := .ref (ad 85)) (C := RX5) (T := TX5) (N := 6) hx hb hts hiX5 hown hK.1 hY.2.1 0 rfl rfl 4 (by decide) hf34 (fun _ h9 => h9) rfl dX5_carryOne_120 ?_
      refine va_get (D := E.1) (ci := 2) (v := .int ((S 12) 0 2)) (C := RX3) (T := TX3) (N := 8) hx hb hts hiX3 hown hK.1 hY.2.2.2.1 0 rfl rfl 2 (by decide) hf207 (fun _ h9 => h9) rfl dX5_carryOne_123 ?_
      refine kCallWi (va_runV (As := [.int ((S 12) 0 2)]) (rest := []) ⟨hx, hb, hml, hown, hts⟩ (c_X2_finish l E (ga ad (8 * 0)) (S 0) (hs.inj (by omega)) ((S 12) 0 2) (by first | assumption | exact tOK.nI (by omega)) _ rfl) (cwV 1 hts gX5_carryOne_X2_finish rfl rfl rfl (by decide +kernel) ⟨Nat.le_of_ble_eq_true rfl, Nat.le_of_ble_eq_true rfl⟩) (kPreV hK (hY.1 0 (by omega)) (hY.1 0 (by omega)) (q0 := 0) rfl rfl) rfl rfl hl.1 rfl (lv_room (Nat.le_of_ble_eq_true rfl)) dX5_carryOne_126 ⟨Nat.zero_le _, Nat.zero_le _⟩) hS (kA_sub (by omega)) (fun H locs hP _ hk hS => ?_)
      refine kGen (mX2_finish (S 0) ((S 12) 0 2)) (fun g_4 hg_4 => ?_)
      rw [hg_4] at hE hP ⊢
      try dsimp only at hE
      have hY := hY.putL hs (j := 0) (by omega) (rset (rset (rset (rset (S 0) 1 (g_4.2.2.1)) 3 (g_4.2.2.2.1)) 6 (g_4.2.2.2.2)) 0 (upd ((S 0) 0) 1 (g_4.2.1))) hP hk
      subst R
      exact W.iret (v := (g_4.1)) hx hb hr (fun t ht hW => ⟨rfl, by rw [ht]; exact hY, hS.F ht⟩) hS.2.2 dX5_carryOne_129
    · replace hE := hE.trans (if_neg c_3)
      by_cases c_5 : ((S 12) 0 1) = 114
      · replace hE := hE.trans (if_pos c_5)
        refine W.eq (g2 := F0 m 7 ls ([.int 114])) (by rw [c_5]) ?_
        refine lv_lookup (tgt := 64) (off := 57) hx hb dX5_carryOne_7 (by decide) (by decide) (by decide) ?_
        refine lv_aload_n hx hb dX5_carryOne_64 rfl (lv_at hl 0 rfl) ?_
        refine va_get (D := E.1) (ci := 4) (v := .ref (ad 0)) (C := RX5) (T := TX5) (N := 6) hx hb hts hiX5 hown hK.1 hY.2.1 0 rfl rfl 0 (by decide) hf10 (fun _ h9 => h9) rfl dX5_carryOne_65 ?_
        refine lv_aload_n hx hb dX5_carryOne_68 rfl (lv_at hl 0 rfl) ?_
        refine va_get (D := E.1) (ci := 4) (v := .ref (ad 85)) (C := RX5) (T := TX5) (N := 6) hx hb hts hiX5 hown hK.1 hY.2.1 0 rfl rfl 4 (by decide) hf34 (fun _ h9 => h9) rfl dX5_carryOne_69 ?_
        refine va_get (D := E.1) (ci := 2) (v := .int ((S 12) 0 2)) (C := RX3) (T := TX3) (N := 8) hx hb hts hiX3 hown hK.1 hY.2.2.2.1 0 rfl rfl 2 (by decide) hf207 (fun _ h9 => h9) rfl dX5_carryOne_72 ?_
        refine lv_aload_n hx hb dX5_carryOne_75 rfl (lv_at hl 0 rfl) ?_
        refine va_get (D := E.1) (ci := 4) (v := .ref (ad 85)) (C := RX5) (T := TX5) (N := 6) hx hb hts hiX5 hown hK.1 hY.2.1 0 rfl rfl 4 (by decide) hf34 (fun _ h9 => h9) rfl dX5_carryOne_76 ?_
        refine va_get (D := E.1) (ci := 2) (v := .int ((S 12) 0 3)) (C := RX3) (T := TX3) (N := 8) hx hb hts hiX3 hown hK.1 hY.2.2.2.1 0 rfl rfl 3 (by decide) hf210 (fun _ h9 => h9) rfl dX5_carryOne_79 ?_
        refine kCallWi (va_runV (As := [.int ((S 12) 0 2), .int ((S 12) 0 3)]) (rest := []) ⟨hx, hb, hml, hown, hts⟩ (c_X2_look l E (ga ad (8 * 0)) (S 0) (hs.inj (by omega)) ((S 12) 0 2) ((S 12) 0 3) (by first | assumption | exact tOK.nI (by omega)) _ rfl) (cwV 2 hts gX5_carryOne_X2_look rfl rfl rfl (by decide +kernel) ⟨Nat.le_of_ble_eq_true rfl, Nat.le_of_ble_eq_true rfl⟩) (kPreV hK (hY.1 0 (by omega)) (hY.1 0 (by omega)) (q0 := 0) rfl rfl) rfl rfl hl.1 rfl (lv_room (Nat.le_of_ble_eq_true rfl)) dX5_carryOne_82 ⟨Nat.zero_le _, Nat.zero_le _⟩) hS (kA_sub (by omega)) (fun H locs hP _ hk hS => ?_)
        refine kGen (mX2_look (S 0) ((S 12) 0 2) ((S 12) 0 3)) (fun g_6 hg_6 => ?_)
        rw [hg_6] at hE hP ⊢
        try dsimp only at hE
        have hY := hY.putL hs (j := 0) (by omega) (rset (S 0) 4 (g_6.2)) hP hk
        subst R
        exact W.iret (v := (g_6.1)) hx hb hr (fun t ht hW => ⟨rfl, by rw [ht]; exact hY, hS.F ht⟩) hS.2.2 dX5_carryOne_85
      · replace hE := hE.trans (if_neg c_5)
        by_cases c_7 : ((S 12) 0 1) = 119
        · replace hE := hE.trans (if_pos c_7)
          refine W.eq (g2 := F0 m 7 ls ([.int 119])) (by rw [c_7]) ?_
          refine lv_lookup (tgt := 86) (off := 79) hx hb dX5_carryOne_7 (by decide) (by decide) (by decide) ?_
          refine lv_aload_n hx hb dX5_carryOne_86 rfl (lv_at hl 0 rfl) ?_
          refine va_get (D := E.1) (ci := 4) (v := .ref (ad 0)) (C := RX5) (T := TX5) (N := 6) hx hb hts hiX5 hown hK.1 hY.2.1 0 rfl rfl 0 (by decide) hf10 (fun _ h9 => h9) rfl dX5_carryOne_87 ?_
          refine lv_aload_n hx hb dX5_carryOne_90 rfl (lv_at hl 0 rfl) ?_
          refine va_get (D := E.1) (ci := 4) (v := .ref (ad 85)) (C := RX5) (T := TX5) (N := 6) hx hb hts hiX5 hown hK.1 hY.2.1 0 rfl rfl 4 (by decide) hf34 (fun _ h9 => h9) rfl dX5_carryOne_91 ?_
          refine va_get (D := E.1) (ci := 2) (v := .int ((S 12) 0 2)) (C := RX3) (T := TX3) (N := 8) hx hb hts hiX3 hown hK.1 hY.2.2.2.1 0 rfl rfl 2 (by decide) hf207 (fun _ h9 => h9) rfl dX5_carryOne_94 ?_
          refine lv_aload_n hx hb dX5_carryOne_97 rfl (lv_at hl 0 rfl) ?_
          refine va_get (D := E.1) (ci := 4) (v := .ref (ad 85)) (C := RX5) (T := TX5) (N := 6) hx hb hts hiX5 hown hK.1 hY.2.1 0 rfl rfl 4 (by decide) hf34 (fun _ h9 => h9) rfl dX5_carryOne_98 ?_
          refine va_get (D := E.1) (ci := 2) (v := .int ((S 12) 0 3)) (C := RX3) (T := TX3) (N := 8) hx hb hts hiX3 hown hK.1 hY.2.2.2.1 0 rfl rfl 3 (by decide) hf210 (fun _ h9 => h9) rfl dX5_carryOne_101 ?_
          refine lv_aload_n hx hb dX5_carryOne_104 rfl (lv_at hl 0 rfl) ?_
          refine va_get (D := E.1) (ci := 4) (v := .ref (ad 85)) (C := RX5) (T := TX5) (N := 6) hx hb hts hiX5 hown hK.1 hY.2.1 0 rfl rfl 4 (by decide) hf34 (fun _ h9 => h9) rfl dX5_carryOne_105 ?_
          refine va_get (D := E.1) (ci := 2) (v := .int ((S 12) 0 4)) (C := RX3) (T := TX3) (N := 8) hx hb hts hiX3 hown hK.1 hY.2.2.2.1 0 rfl rfl 4 (by decide) hf213 (fun _ h9 => h9) rfl dX5_carryOne_108 ?_
          refine kCallWi (va_runV (As := [.int ((S 12) 0 2), .int ((S 12) 0 3), .int ((S 12) 0 4)]) (rest := []) ⟨hx, hb, hml, hown, hts⟩ (c_X2_enter l E (ga ad (8 * 0)) (S 0) (hs.inj (by omega)) ((S 12) 0 2) ((S 12) 0 3) ((S 12) 0 4) (by first | assumption | exact tOK.nI (by omega)) _ rfl) (cwV 3 hts gX5_carryOne_X2_enter rfl rfl rfl (by decide +kernel) ⟨Nat.le_of_ble_eq_true rfl, Nat.le_of_ble_eq_true rfl⟩) (kPreV hK (hY.1 0 (by omega)) (hY.1 0 (by omega)) (q0 := 0) rfl rfl) rfl rfl hl.1 rfl (lv_room (Nat.le_of_ble_eq_true rfl)) dX5_carryOne_111 ⟨Nat.zero_le _, Nat.zero_le _⟩) hS (kA_sub (by omega)) (fun H locs hP _ hk hS => ?_)
          refine kGen (mX2_enter (S 0) ((S 12) 0 2) ((S 12) 0 3) ((S 12) 0 4)) (fun g_8 hg_8 => ?_)
          rw [hg_8] at hE hP ⊢
          try dsimp only at hE
          have hY := hY.putL hs (j := 0) (by omega) (rset (rset (S 0) 5 (g_8.2.1)) 7 (g_8.2.2)) hP hk
          subst R
          exact W.iret (v := (g_8.1)) hx hb hr (fun t ht hW => ⟨rfl, by rw [ht]; exact hY, hS.F ht⟩) hS.2.2 dX5_carryOne_114
        · replace hE := hE.trans (if_neg c_7)
          by_cases c_9 : ((S 12) 0 1) = 120
          · replace hE := hE.trans (if_pos c_9)
            refine W.eq (g2 := F0 m 7 ls ([.int 120])) (by rw [c_9]) ?_
            refine lv_lookup (tgt := 130) (off := 123) hx hb dX5_carryOne_7 (by decide) (by decide) (by decide) ?_
            refine lv_aload_n hx hb dX5_carryOne_130 rfl (lv_at hl 0 rfl) ?_
            refine va_get (D := E.1) (ci := 4) (v := .ref (ad 0)) (C := RX5) (T := TX5) (N := 6) hx hb hts hiX5 hown hK.1 hY.2.1 0 rfl rfl 0 (by decide) hf10 (fun _ h9 => h9) rfl dX5_carryOne_131 ?_
            refine lv_aload_n hx hb dX5_carryOne_134 rfl (lv_at hl 0 rfl) ?_
            refine va_get (D := E.1) (ci := 4) (v := .ref (ad 85)) (C := RX5) (T := TX5) (N := 6) hx hb hts hiX5 hown hK.1 hY.2.1 0 rfl rfl 4 (by decide) hf34 (fun _ h9 => h9) rfl dX5_carryOne_135 ?_
            refine va_get (D := E.1) (ci := 2) (v := .int ((S 12) 0 2)) (C := RX3) (T := TX3) (N := 8) hx hb hts hiX3 hown hK.1 hY.2.2.2.1 0 rfl rfl 2 (by decide) hf207 (fun _ h9 => h9) rfl dX5_carryOne_138 ?_
            refine kCallWi (va_runV (As := [.int ((S 12) 0 2)]) (rest := []) ⟨hx, hb, hml, hown, hts⟩ (c_X2_giveUp l E (ga ad (8 * 0)) (S 0) (hs.inj (by omega)) ((S 12) 0 2) (by first | assumption | exact tOK.nI (by omega)) _ rfl) (cwV 1 hts gX5_carryOne_X2_giveUp rfl rfl rfl (by decide +kernel) ⟨Nat.le_of_ble_eq_true rfl, Nat.le_of_ble_eq_true rfl⟩) (kPreV hK (hY.1 0 (by omega)) (hY.1 0 (by omega)) (q0 := 0) rfl rfl) rfl rfl hl.1 rfl (lv_room (Nat.le_of_ble_eq_true rfl)) dX5_carryOne_141 ⟨Nat.zero_le _, Nat.zero_le _⟩) hS (kA_sub (by omega)) (fun H locs hP _ hk hS => ?_)
            refine kGen (mX2_giveUp (S 0) ((S 12) 0 2)) (fun g_10 hg_10 => ?_)
            rw [hg_10] at hE hP ⊢
            try dsimp only at hE
            have hY := hY.putL hs (j := 0) (by omega) (rset (rset (S 0) 1 (g_10.2.1)) 6 (g_10.2.2)) hP hk
            subst R
            exact W.iret (v := (g_10.1)) hx hb hr (fun t ht hW => ⟨rfl, by rw [ht]; exact hY, hS.F ht⟩) hS.2.2 dX5_carryOne_144
          · replace hE := hE.trans (if_neg c_9)
            refine lv_lookup (tgt := 145) (off := 138) hx hb dX5_carryOne_7 (by decide) (klook5 (k0 := 98) (k1 := 99) (k2 := 114) (k3 := 119) (k4 := 120) rfl rfl rfl rfl rfl c_1 c_3 c_5 c_7 c_9) (by decide) ?_
            refine lv_bipush (v := (-3)) hx hb dX5_carryOne_145 (by decide) ?_
            subst R
            exact W.iret (v := (-3)) hx hb hr (fun t ht hW => ⟨rfl, by rw [ht]; exact hY, hS.F ht⟩) hS.2.2 dX5_carryOne_147
theorem carryOne_n {S : kS} (hn : nOK (S 0 0 2)) : nOK ((mX5_carryOne S).2 0 0 2) := by
  rw [mX5_carryOne_s]
  by_cases k_1 : ((S 12) 0 1) = 98
  · rewrite [if_pos k_1]
    have hst : nOK ((mX2_start (S 0)).2.2.1) := start_n (v := (S 0)) hn
    refine kGen (mX2_start (S 0)) (fun g_2 eg_2 => ?_)
    rewrite [eg_2] at hst
    try rewrite [eg_2]
    try dsimp only
    first | exact hst | exact hn
  · rewrite [if_neg k_1]
    by_cases k_2 : ((S 12) 0 1) = 99
    · rewrite [if_pos k_2]
      refine kGen (mX2_finish (S 0) ((S 12) 0 2)) (fun g_4 eg_4 => ?_)
      try rewrite [eg_4]
      try dsimp only
      first | exact hst | exact hn
    · rewrite [if_neg k_2]
      by_cases k_3 : ((S 12) 0 1) = 114
      · rewrite [if_pos k_3]
        refine kGen (mX2_look (S 0) ((S 12) 0 2) ((S 12) 0 3)) (fun g_6 eg_6 => ?_)
        try rewrite [eg_6]
        try dsimp only
        first | exact hst | exact hn
      · rewrite [if_neg k_3]
        by_cases k_4 : ((S 12) 0 1) = 119
        · rewrite [if_pos k_4]
          refine kGen (mX2_enter (S 0) ((S 12) 0 2) ((S 12) 0 3) ((S 12) 0 4)) (fun g_8 eg_8 => ?_)
          try rewrite [eg_8]
          try dsimp only
          first | exact hst | exact hn
        · rewrite [if_neg k_4]
          by_cases k_5 : ((S 12) 0 1) = 120
          · rewrite [if_pos k_5]
            refine kGen (mX2_giveUp (S 0) ((S 12) 0 2)) (fun g_10 eg_10 => ?_)
            try rewrite [eg_10]
            try dsimp only
            first | exact hst | exact hn
          · rewrite [if_neg k_5]
            first | exact hst | exact hn
theorem carryOne_p {S : kS} (hn : nOK (S 0 0 2)) : kEqG ((mX5_carryOne S).2 12) (S 12) := by
  rw [mX5_carryOne_s]
  by_cases k_6 : ((S 12) 0 1) = 98
  · rewrite [if_pos k_6]
    have hst : nOK ((mX2_start (S 0)).2.2.1) := start_n (v := (S 0)) hn
    refine kGen (mX2_start (S 0)) (fun g_2 eg_2 => ?_)
    rewrite [eg_2] at hst
    try rewrite [eg_2]
    try dsimp only
    exact Eq.refl _
  · rewrite [if_neg k_6]
    by_cases k_7 : ((S 12) 0 1) = 99
    · rewrite [if_pos k_7]
      refine kGen (mX2_finish (S 0) ((S 12) 0 2)) (fun g_4 eg_4 => ?_)
      try rewrite [eg_4]
      try dsimp only
      exact Eq.refl _
    · rewrite [if_neg k_7]
      by_cases k_8 : ((S 12) 0 1) = 114
      · rewrite [if_pos k_8]
        refine kGen (mX2_look (S 0) ((S 12) 0 2) ((S 12) 0 3)) (fun g_6 eg_6 => ?_)
        try rewrite [eg_6]
        try dsimp only
        exact Eq.refl _
      · rewrite [if_neg k_8]
        by_cases k_9 : ((S 12) 0 1) = 119
        · rewrite [if_pos k_9]
          refine kGen (mX2_enter (S 0) ((S 12) 0 2) ((S 12) 0 3) ((S 12) 0 4)) (fun g_8 eg_8 => ?_)
          try rewrite [eg_8]
          try dsimp only
          exact Eq.refl _
        · rewrite [if_neg k_9]
          by_cases k_10 : ((S 12) 0 1) = 120
          · rewrite [if_pos k_10]
            refine kGen (mX2_giveUp (S 0) ((S 12) 0 2)) (fun g_10 eg_10 => ?_)
            try rewrite [eg_10]
            try dsimp only
            exact Eq.refl _
          · rewrite [if_neg k_10]
            exact Eq.refl _
