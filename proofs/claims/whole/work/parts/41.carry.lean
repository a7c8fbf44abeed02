theorem prep_p {S : kS} (h : hisOK S) (g : pLn (S 12 0 0)) : pLn (mX1_prepare S 12 0 0) := by rw [prep_ne h (by omega)]; exact g
def mX5_carryOut_L37 (S : kS) (g_1 : (Int32 × Int32 × Int32 × Int32 × Int32 × Int32 × Int32)) (S_3 : (kS)) (g_4 : (Int32)) : Nat → Nat → Int32 → kS → (Int32 × kS)
  | 0, _, _, _ => (0, S)
  | n37 + 1, i37, x37_2, S37 =>
    if x37_2 = 0 then
      (fun (g_6 : Int32 × Int32) =>
        (fun (g_7 : Int32 × Int32 × Int32) =>
          ((g_7.1), (gset (gset S37 12 (rset (S37 12) 0 (upd ((S37 12) 0) 0 (g_6.2)))) 11 (rset (S37 11) 0 (upd (upd ((S37 11) 0) 0 (g_7.2.1)) 1 (g_7.2.2))))))
          (mX1_keepUnlessError (S37 11) (nI i37)))
        (mX3_empty (S37 12))
    else
      if 80 ≤ (nI i37) then
        (fun (g_9 : Int32 × Int32) =>
          (fun (g_10 : Int32 × Int32 × Int32) =>
            ((g_10.1), (gset (gset S37 12 (rset (S37 12) 0 (upd ((S37 12) 0) 0 (g_9.2)))) 11 (rset (S37 11) 0 (upd (upd ((S37 11) 0) 0 (g_10.2.1)) 1 (g_10.2.2))))))
            (mX1_keepUnlessError (S37 11) (nI i37)))
          (mX3_empty (S37 12))
      else
        (fun (g_11 : Int32 × Int32 × Int32 × Int32 × Int32 × Int32 × Int32) =>
          if (g_11.1) = 0 then
            (fun (g_13 : Int32 × Int32) =>
              (fun (g_14 : Int32 × Int32 × Int32) =>
                ((g_14.1), (gset (gset (gset S37 12 (rset (S37 12) 0 (upd (upd (upd (upd (upd (upd ((S37 12) 0) 1 (g_11.2.1)) 2 (g_11.2.2.1)) 3 (g_11.2.2.2.1)) 4 (g_11.2.2.2.2.1)) 5 (g_11.2.2.2.2.2.1)) 6 (g_11.2.2.2.2.2.2)))) 12 (rset (S37 12) 0 (upd (upd (upd (upd (upd (upd (upd ((S37 12) 0) 0 (g_13.2)) 1 (g_11.2.1)) 2 (g_11.2.2.1)) 3 (g_11.2.2.2.1)) 4 (g_11.2.2.2.2.1)) 5 (g_11.2.2.2.2.2.1)) 6 (g_11.2.2.2.2.2.2)))) 11 (rset (S37 11) 0 (upd (upd ((S37 11) 0) 0 (g_14.2.1)) 1 (g_14.2.2))))))
                (mX1_keepUnlessError (S37 11) (nI i37)))
              (mX3_empty (rset (S37 12) 0 (upd (upd (upd (upd (upd (upd ((S37 12) 0) 1 (g_11.2.1)) 2 (g_11.2.2.1)) 3 (g_11.2.2.2.1)) 4 (g_11.2.2.2.2.1)) 5 (g_11.2.2.2.2.2.1)) 6 (g_11.2.2.2.2.2.2))))
          else
            (fun (g_15 : Int32 × kS) =>
              if (g_15.1) < 0 then
                (fun (g_17 : Int32 × Int32) =>
                  (fun (g_18 : Int32 × Int32 × Int32) =>
                    ((g_18.1), (gset (gset (g_15.2) 12 (rset ((g_15.2) 12) 0 (upd (((g_15.2) 12) 0) 0 (g_17.2)))) 11 (rset ((g_15.2) 11) 0 (upd (upd (((g_15.2) 11) 0) 0 (g_18.2.1)) 1 (g_18.2.2))))))
                    (mX1_keepUnlessError ((g_15.2) 11) (nI i37)))
                  (mX3_empty ((g_15.2) 12))
              else
                (fun (g_19 : Int32 × Int32) =>
                  mX5_carryOut_L37 S g_1 S_3 g_4 n37 (i37 + 1) (g_19.1) (gset (g_15.2) 12 (rset ((g_15.2) 12) 0 (upd (((g_15.2) 12) 0) 5 (g_19.2)))))
                  (mX3_passSign ((g_15.2) 12) 59))
              (mX5_carryOne (gset S37 12 (rset (S37 12) 0 (upd (upd (upd (upd (upd (upd ((S37 12) 0) 1 (g_11.2.1)) 2 (g_11.2.2.1)) 3 (g_11.2.2.2.1)) 4 (g_11.2.2.2.2.1)) 5 (g_11.2.2.2.2.2.1)) 6 (g_11.2.2.2.2.2.2))))))
          (mX3_passOrder (S37 12))
theorem mX5_carryOut_L37_s {S : kS} {g_1 : (Int32 × Int32 × Int32 × Int32 × Int32 × Int32 × Int32)} {S_3 : (kS)} {g_4 : (Int32)} {n37 : Nat} {i37 : Nat} {x37_2 : Int32} {S37 : kS} : mX5_carryOut_L37 S g_1 S_3 g_4 (n37 + 1) i37 x37_2 S37 = (
    if x37_2 = 0 then
      (fun (g_6 : Int32 × Int32) =>
        (fun (g_7 : Int32 × Int32 × Int32) =>
          ((g_7.1), (gset (gset S37 12 (rset (S37 12) 0 (upd ((S37 12) 0) 0 (g_6.2)))) 11 (rset (S37 11) 0 (upd (upd ((S37 11) 0) 0 (g_7.2.1)) 1 (g_7.2.2))))))
          (mX1_keepUnlessError (S37 11) (nI i37)))
        (mX3_empty (S37 12))
    else
      if 80 ≤ (nI i37) then
        (fun (g_9 : Int32 × Int32) =>
          (fun (g_10 : Int32 × Int32 × Int32) =>
            ((g_10.1), (gset (gset S37 12 (rset (S37 12) 0 (upd ((S37 12) 0) 0 (g_9.2)))) 11 (rset (S37 11) 0 (upd (upd ((S37 11) 0) 0 (g_10.2.1)) 1 (g_10.2.2))))))
            (mX1_keepUnlessError (S37 11) (nI i37)))
          (mX3_empty (S37 12))
      else
        (fun (g_11 : Int32 × Int32 × Int32 × Int32 × Int32 × Int32 × Int32) =>
          if (g_11.1) = 0 then
            (fun (g_13 : Int32 × Int32) =>
              (fun (g_14 : Int32 × Int32 × Int32) =>
                ((g_14.1), (gset (gset (gset S37 12 (rset (S37 12) 0 (upd (upd (upd (upd (upd (upd ((S37 12) 0) 1 (g_11.2.1)) 2 (g_11.2.2.1)) 3 (g_11.2.2.2.1)) 4 (g_11.2.2.2.2.1)) 5 (g_11.2.2.2.2.2.1)) 6 (g_11.2.2.2.2.2.2)))) 12 (rset (S37 12) 0 (upd (upd (upd (upd (upd (upd (upd ((S37 12) 0) 0 (g_13.2)) 1 (g_11.2.1)) 2 (g_11.2.2.1)) 3 (g_11.2.2.2.1)) 4 (g_11.2.2.2.2.1)) 5 (g_11.2.2.2.2.2.1)) 6 (g_11.2.2.2.2.2.2)))) 11 (rset (S37 11) 0 (upd (upd ((S37 11) 0) 0 (g_14.2.1)) 1 (g_14.2.2))))))
                (mX1_keepUnlessError (S37 11) (nI i37)))
              (mX3_empty (rset (S37 12) 0 (upd (upd (upd (upd (upd (upd ((S37 12) 0) 1 (g_11.2.1)) 2 (g_11.2.2.1)) 3 (g_11.2.2.2.1)) 4 (g_11.2.2.2.2.1)) 5 (g_11.2.2.2.2.2.1)) 6 (g_11.2.2.2.2.2.2))))
          else
            (fun (g_15 : Int32 × kS) =>
              if (g_15.1) < 0 then
                (fun (g_17 : Int32 × Int32) =>
                  (fun (g_18 : Int32 × Int32 × Int32) =>
                    ((g_18.1), (gset (gset (g_15.2) 12 (rset ((g_15.2) 12) 0 (upd (((g_15.2) 12) 0) 0 (g_17.2)))) 11 (rset ((g_15.2) 11) 0 (upd (upd (((g_15.2) 11) 0) 0 (g_18.2.1)) 1 (g_18.2.2))))))
                    (mX1_keepUnlessError ((g_15.2) 11) (nI i37)))
                  (mX3_empty ((g_15.2) 12))
              else
                (fun (g_19 : Int32 × Int32) =>
                  mX5_carryOut_L37 S g_1 S_3 g_4 n37 (i37 + 1) (g_19.1) (gset (g_15.2) 12 (rset ((g_15.2) 12) 0 (upd (((g_15.2) 12) 0) 5 (g_19.2)))))
                  (mX3_passSign ((g_15.2) 12) 59))
              (mX5_carryOne (gset S37 12 (rset (S37 12) 0 (upd (upd (upd (upd (upd (upd ((S37 12) 0) 1 (g_11.2.1)) 2 (g_11.2.2.1)) 3 (g_11.2.2.2.1)) 4 (g_11.2.2.2.2.1)) 5 (g_11.2.2.2.2.2.1)) 6 (g_11.2.2.2.2.2.2))))))
          (mX3_passOrder (S37 12)) : Int32 × kS) := rfl
def mX5_carryOut (S : kS) : Int32 × kS :=
  (fun (g_1 : Int32 × Int32 × Int32 × Int32 × Int32 × Int32 × Int32) =>
    if (g_1.1) = (-6) then
      (fun (S_3 : kS) =>
        (fun (g_4 : Int32) =>
          mX5_carryOut_L37 S g_1 S_3 g_4 81 0 1 (gset S_3 12 (rset (S_3 12) 0 (upd ((S_3 12) 0) 5 g_4))))
          (mX3_rewind (S_3 12)))
        (mX1_prepare (gset S 12 (rset (S 12) 0 (upd (upd (upd (upd (upd (upd ((S 12) 0) 1 (g_1.2.1)) 2 (g_1.2.2.1)) 3 (g_1.2.2.2.1)) 4 (g_1.2.2.2.2.1)) 5 (g_1.2.2.2.2.2.1)) 6 (g_1.2.2.2.2.2.2)))))
    else
      ((-3), (gset S 12 (rset (S 12) 0 (upd (upd (upd (upd (upd (upd ((S 12) 0) 1 (g_1.2.1)) 2 (g_1.2.2.1)) 3 (g_1.2.2.2.1)) 4 (g_1.2.2.2.2.1)) 5 (g_1.2.2.2.2.2.1)) 6 (g_1.2.2.2.2.2.2))))))
    (mX3_firstFault (S 12))
theorem mX5_carryOut_s {S : kS} : mX5_carryOut S = (
  (fun (g_1 : Int32 × Int32 × Int32 × Int32 × Int32 × Int32 × Int32) =>
    if (g_1.1) = (-6) then
      (fun (S_3 : kS) =>
        (fun (g_4 : Int32) =>
          mX5_carryOut_L37 S g_1 S_3 g_4 81 0 1 (gset S_3 12 (rset (S_3 12) 0 (upd ((S_3 12) 0) 5 g_4))))
          (mX3_rewind (S_3 12)))
        (mX1_prepare (gset S 12 (rset (S 12) 0 (upd (upd (upd (upd (upd (upd ((S 12) 0) 1 (g_1.2.1)) 2 (g_1.2.2.1)) 3 (g_1.2.2.2.1)) 4 (g_1.2.2.2.2.1)) 5 (g_1.2.2.2.2.2.1)) 6 (g_1.2.2.2.2.2.2)))))
    else
      ((-3), (gset S 12 (rset (S 12) 0 (upd (upd (upd (upd (upd (upd ((S 12) 0) 1 (g_1.2.1)) 2 (g_1.2.2.1)) 3 (g_1.2.2.2.1)) 4 (g_1.2.2.2.2.1)) 5 (g_1.2.2.2.2.2.1)) 6 (g_1.2.2.2.2.2.2))))))
    (mX3_firstFault (S 12)) : Int32 × kS) := rfl
set_option maxHeartbeats 400000 in
set_option maxRecDepth 100000 in
theorem c_X5_carryOut (l : Launch) (E : kE) (ad : Nat → Nat) (S : kS) (hs : kSep ad) (hh : hisOK S) (hn : nOK (S 0 0 2)) (hp : pLn (S 12 0 0)) (R : Int32 × kS) (hE : R = mX5_carryOut S) : Met l yX5_carryOut wsX5_carryOut ({ frames := 6, cells := 0, slots := 0, locals := 144 }) (kPreY E [.ref (ad 80)] ad S) (kYi E R.1 ad R.2) 0 0 (kA ad 90) := by
  refine Met.ofW (cc := cX5_carryOut) (maxL := 3) (ret := (some .int)) (by decide) rfl ?_
  intro p e s m args below meth c s₁ B hml hv
  obtain ⟨rfl, hK, hY⟩ := hv
  have hx := B.exec
  have hb := B.bytes
  have hr := B.returns
  have hts := atoms_spec (ws := wsX5_carryOut) B.pre
  have hown : s.vm.findClass RX5 = some m.cls := findClass_of_methodNamed B.named
  have hlocks := B.notSynchronized
  have hiX5 : ∀ w ∈ wsX50, w ∈ wsX5_carryOut := by decide +kernel
  have hf10 := hts (.fieldLink RX5 10 "SkewEdges" "ledger" "LSkewEdges$Ledger;") (by decide +kernel)
  have hf19 := hts (.fieldLink RX5 19 "SkewEdges" "history" "LSkewEdges$History;") (by decide +kernel)
  have hf34 := hts (.fieldLink RX5 34 "SkewEdges" "pad" "LSkewEdges$Pad;") (by decide +kernel)
  have hS : va_S (kA ad 90) s.heap s.heap [] := va_S.rf
  have hl := lv_entry ([.ref (ad 80)]) (n := 3) (Nat.le_of_ble_eq_true rfl)
  rw [lg_entry_eq]
  generalize (lg_sl ([.ref (ad 80)]) ++ List.replicate (3 - (lg_sl ([.ref (ad 80)])).length) Slot.unset).toArray = ls at hl ⊢
  have hl : lv_has ls 3 [(0, .ref (ad 80))] := hl
  replace hE := hE.trans mX5_carryOut_s
  refine lv_aload_n hx hb dX5_carryOut_0 rfl (lv_at hl 0 rfl) ?_
  refine va_get (D := E.1) (ci := 4) (v := .ref (ad 85)) (C := RX5) (T := TX5) (N := 6) hx hb hts hiX5 hown hK.1 hY.2.1 0 rfl rfl 4 (by decide) hf34 (fun _ h9 => h9) rfl dX5_carryOut_1 ?_
  refine kCallWi (va_runV (As := []) (rest := []) ⟨hx, hb, hml, hown, hts⟩ (c_X3_firstFault l E (ga ad 85) (S 12) (hs.inj (by omega)) hp _ rfl) (cwV 0 hts gX5_carryOut_X3_firstFault rfl rfl rfl (by decide +kernel) ⟨Nat.le_of_ble_eq_true rfl, Nat.le_of_ble_eq_true rfl⟩) (kPreV hK hY.2.2.2.1 hY.2.2.2.1 (q0 := 0) rfl rfl) rfl rfl hl.1 rfl (lv_room (Nat.le_of_ble_eq_true rfl)) dX5_carryOut_4 ⟨Nat.zero_le _, Nat.zero_le _⟩) hS (kA_sub (by omega)) (fun H locs hP _ hk hS => ?_)
  refine kGen (mX3_firstFault (S 12)) (fun g_1 hg_1 => ?_)
  rw [hg_1] at hE hP ⊢
  try dsimp only at hE
  have hY := hY.putP hs (rset (S 12) 0 (upd (upd (upd (upd (upd (upd ((S 12) 0) 1 (g_1.2.1)) 2 (g_1.2.2.1)) 3 (g_1.2.2.2.1)) 4 (g_1.2.2.2.2.1)) 5 (g_1.2.2.2.2.2.1)) 6 (g_1.2.2.2.2.2.2))) hP hk
  refine lv_bipush (v := (-6)) hx hb dX5_carryOut_7 (by decide) ?_
  refine lv_icmp_eq (tgt := 15) hx hb dX5_carryOut_9 (by decide) (fun c_2 => ?_) (fun c_2 => ?_)
  · replace hE := hE.trans (if_pos c_2)
    refine lv_aload_n hx hb dX5_carryOut_15 rfl (lv_at hl 0 rfl) ?_
    refine va_get (D := E.1) (ci := 4) (v := .ref (ad 83)) (C := RX5) (T := TX5) (N := 6) hx hb hts hiX5 hown hK.1 hY.2.1 0 rfl rfl 1 (by decide) hf19 (fun _ h9 => h9) rfl dX5_carryOut_16 ?_
    refine lv_aload_n hx hb dX5_carryOut_19 rfl (lv_at hl 0 rfl) ?_
    refine va_get (D := E.1) (ci := 4) (v := .ref (ad 0)) (C := RX5) (T := TX5) (N := 6) hx hb hts hiX5 hown hK.1 hY.2.1 0 rfl rfl 0 (by decide) hf10 (fun _ h9 => h9) rfl dX5_carryOut_20 ?_
    refine kCallYv (va_runV (As := [.ref (ad 0)]) (rest := []) ⟨hx, hb, hml, hown, hts⟩ (c_X1_prepare l E ad (gset S 12 (rset (S 12) 0 (upd (upd (upd (upd (upd (upd ((S 12) 0) 1 (g_1.2.1)) 2 (g_1.2.2.1)) 3 (g_1.2.2.2.1)) 4 (g_1.2.2.2.2.1)) 5 (g_1.2.2.2.2.2.1)) 6 (g_1.2.2.2.2.2.2)))) hs hh) (cwV 1 hts gX5_carryOut_X1_prepare rfl rfl rfl (by decide +kernel) ⟨Nat.le_of_ble_eq_true rfl, Nat.le_of_ble_eq_true rfl⟩) (kPreYV hK hY.2.2.1 hY (q0 := 0) rfl rfl) rfl rfl hl.1 rfl (lv_room (Nat.le_of_ble_eq_true rfl)) dX5_carryOut_23 ⟨Nat.zero_le _, Nat.zero_le _⟩) hS (fun _ h => h) (fun H locs hY _ _ hS => ?_)
    have hn1 : nOK ((mX1_prepare (gset S 12 (rset (S 12) 0 (upd (upd (upd (upd (upd (upd ((S 12) 0) 1 (g_1.2.1)) 2 (g_1.2.2.1)) 3 (g_1.2.2.2.1)) 4 (g_1.2.2.2.2.1)) 5 (g_1.2.2.2.2.2.1)) 6 (g_1.2.2.2.2.2.2))))) 0 0 2) := by rw [prep_ne (S := (gset S 12 (rset (S 12) 0 (upd (upd (upd (upd (upd (upd ((S 12) 0) 1 (g_1.2.1)) 2 (g_1.2.2.1)) 3 (g_1.2.2.2.1)) 4 (g_1.2.2.2.2.1)) 5 (g_1.2.2.2.2.2.1)) 6 (g_1.2.2.2.2.2.2))))) hh (by omega)]; exact hn
    have hp1 : pLn ((mX1_prepare (gset S 12 (rset (S 12) 0 (upd (upd (upd (upd (upd (upd ((S 12) 0) 1 (g_1.2.1)) 2 (g_1.2.2.1)) 3 (g_1.2.2.2.1)) 4 (g_1.2.2.2.2.1)) 5 (g_1.2.2.2.2.2.1)) 6 (g_1.2.2.2.2.2.2))))) 12 0 0) := prep_p (S := (gset S 12 (rset (S 12) 0 (upd (upd (upd (upd (upd (upd ((S 12) 0) 1 (g_1.2.1)) 2 (g_1.2.2.1)) 3 (g_1.2.2.2.1)) 4 (g_1.2.2.2.2.1)) 5 (g_1.2.2.2.2.2.1)) 6 (g_1.2.2.2.2.2.2))))) hh hp
    refine kGen (mX1_prepare (gset S 12 (rset (S 12) 0 (upd (upd (upd (upd (upd (upd ((S 12) 0) 1 (g_1.2.1)) 2 (g_1.2.2.1)) 3 (g_1.2.2.2.1)) 4 (g_1.2.2.2.2.1)) 5 (g_1.2.2.2.2.2.1)) 6 (g_1.2.2.2.2.2.2))))) (fun S_3 hS_3 => ?_)
    rw [hS_3] at hE hY hn1 hp1
    try dsimp only at hE
    refine lv_iconst (v := 0) hx hb dX5_carryOut_26 (by decide) ?_
    refine lv_istore_n (lv' := [(1, .int 0), (0, .ref (ad 80))]) hx hb dX5_carryOut_27 rfl hl (by decide) rfl (fun ls hl => ?_)
    refine lv_aload_n hx hb dX5_carryOut_28 rfl (lv_at hl 1 rfl) ?_
    refine va_get (D := E.1) (ci := 4) (v := .ref (ad 85)) (C := RX5) (T := TX5) (N := 6) hx hb hts hiX5 hown hK.1 hY.2.1 0 rfl rfl 4 (by decide) hf34 (fun _ h9 => h9) rfl dX5_carryOut_29 ?_
    refine kCallWv (va_runV (As := []) (rest := []) ⟨hx, hb, hml, hown, hts⟩ (c_X3_rewind l E (ga ad 85) (S_3 12) (hs.inj (by omega)) _ rfl) (cwV 0 hts gX5_carryOut_X3_rewind rfl rfl rfl (by decide +kernel) ⟨Nat.le_of_ble_eq_true rfl, Nat.le_of_ble_eq_true rfl⟩) (kPreV hK hY.2.2.2.1 hY.2.2.2.1 (q0 := 0) rfl rfl) rfl rfl hl.1 rfl (lv_room (Nat.le_of_ble_eq_true rfl)) dX5_carryOut_32 ⟨Nat.zero_le _, Nat.zero_le _⟩) hS (kA_sub (by omega)) (fun H locs hP _ hk hS => ?_)
    have hp2 : pOK (S_3 12 0 0) (mX3_rewind (S_3 12)) := hp1.zero
    refine kGen (mX3_rewind (S_3 12)) (fun g_4 hg_4 => ?_)
    rw [hg_4] at hE hP hp2
    try dsimp only at hE
    have hY := hY.putP hs (rset (S_3 12) 0 (upd ((S_3 12) 0) 5 g_4)) hP hk
    refine lv_iconst (v := 1) hx hb dX5_carryOut_35 (by decide) ?_
    refine lv_istore_n (lv' := [(2, .int 1), (1, .int 0), (0, .ref (ad 80))]) hx hb dX5_carryOut_36 rfl hl (by decide) rfl (fun ls hl => ?_)
    have lp37 : ∀ (n37 : Nat) (i37 : Nat) (x37_2 : Int32) (S37 : kS) (H : Heap) (locs : List Loc), (80 < i37 + n37) → (i37 ≤ 80) → (nOK (S37 0 0 2)) → (pOK (S37 12 0 0) (S37 12 0 5)) → Sys E ad S37 H → va_S (kA ad 90) s.heap H locs → ∀ ls : Array Slot, lv_has ls 3 [(2, .int x37_2), (1, .int (nI i37)), (0, .ref (ad 80))] → R = mX5_carryOut_L37 S g_1 S_3 g_4 n37 i37 x37_2 S37 → W p l e ({ frames := 6, cells := 0, slots := 0, locals := 144 }) s m ([.ref (ad 80)] : List Value).toArray below meth c H locs 0 0 (MQ below (kYi E R.1 ad R.2) ([.ref (ad 80)] : List Value).toArray s 0 0 (kA ad 90)) (F0 m 37 ls []) := by
      clear hE
      intro n37
      induction n37 with
      | zero =>
        intro i37 x37_2 S37 H locs hm37 hi hni hpi hY hS ls hl hE
        exact absurd hm37 (by omega)
      | succ n37 ih37 =>
        intro i37 x37_2 S37 H locs hm37 hi hni hpi hY hS ls hl hE
        replace hE := hE.trans mX5_carryOut_L37_s
        refine lv_iload_n hx hb dX5_carryOut_37 rfl (lv_at hl 0 rfl) ?_
        refine lv_if_eq (tgt := 80) hx hb dX5_carryOut_38 (by decide) (fun c_5 => ?_) (fun c_5 => ?_)
        · replace hE := hE.trans (if_pos c_5)
          refine lv_aload_n hx hb dX5_carryOut_80 rfl (lv_at hl 2 rfl) ?_
          refine va_get (D := E.1) (ci := 4) (v := .ref (ad 85)) (C := RX5) (T := TX5) (N := 6) hx hb hts hiX5 hown hK.1 hY.2.1 0 rfl rfl 4 (by decide) hf34 (fun _ h9 => h9) rfl dX5_carryOut_81 ?_
          refine kCallWi (va_runV (As := []) (rest := []) ⟨hx, hb, hml, hown, hts⟩ (c_X3_empty l E (ga ad 85) (S37 12) (hs.inj (by omega)) _ rfl) (cwV 0 hts gX5_carryOut_X3_empty rfl rfl rfl (by decide +kernel) ⟨Nat.le_of_ble_eq_true rfl, Nat.le_of_ble_eq_true rfl⟩) (kPreV hK hY.2.2.2.1 hY.2.2.2.1 (q0 := 0) rfl rfl) rfl rfl hl.1 rfl (lv_room (Nat.le_of_ble_eq_true rfl)) dX5_carryOut_84 ⟨Nat.zero_le _, Nat.zero_le _⟩) hS (kA_sub (by omega)) (fun H locs hP _ hk hS => ?_)
          refine kGen (mX3_empty (S37 12)) (fun g_6 hg_6 => ?_)
          rw [hg_6] at hE hP ⊢
          try dsimp only at hE
          have hY := hY.putP hs (rset (S37 12) 0 (upd ((S37 12) 0) 0 (g_6.2))) hP hk
          refine lv_pop hx hb dX5_carryOut_87 rfl ?_
          refine lv_aload_n hx hb dX5_carryOut_88 rfl (lv_at hl 2 rfl) ?_
          refine va_get (D := E.1) (ci := 4) (v := .ref (ad 83)) (C := RX5) (T := TX5) (N := 6) hx hb hts hiX5 hown hK.1 hY.2.1 0 rfl rfl 1 (by decide) hf19 (fun _ h9 => h9) rfl dX5_carryOut_89 ?_
          refine lv_iload_n hx hb dX5_carryOut_92 rfl (lv_at hl 1 rfl) ?_
          refine kCallWi (va_runV (As := [.int (nI i37)]) (rest := []) ⟨hx, hb, hml, hown, hts⟩ (c_X1_keepUnlessError l E (ga ad 83) (S37 11) (hs.inj (by omega)) (nI i37) _ rfl) (cwV 1 hts gX5_carryOut_X1_keepUnlessError rfl rfl rfl (by decide +kernel) ⟨Nat.le_of_ble_eq_true rfl, Nat.le_of_ble_eq_true rfl⟩) (kPreV hK (kP_l hY.2.2.1) (kP_l hY.2.2.1) (q0 := 0) rfl rfl) rfl rfl hl.1 rfl (lv_room (Nat.le_of_ble_eq_true rfl)) dX5_carryOut_93 ⟨Nat.zero_le _, Nat.zero_le _⟩) hS (kA_sub (by omega)) (fun H locs hP _ hk hS => ?_)
          refine kGen (mX1_keepUnlessError (S37 11) (nI i37)) (fun g_7 hg_7 => ?_)
          rw [hg_7] at hE hP ⊢
          try dsimp only at hE
          have hY := hY.putH hs (rset (S37 11) 0 (upd (upd ((S37 11) 0) 0 (g_7.2.1)) 1 (g_7.2.2))) hP hk
          subst R
          exact W.iret (v := (g_7.1)) hx hb hr (fun t ht hW => ⟨rfl, by rw [ht]; exact hY, hS.F ht⟩) hS.2.2 dX5_carryOut_96
        · replace hE := hE.trans (if_neg c_5)
          refine lv_iload_n hx hb dX5_carryOut_41 rfl (lv_at hl 1 rfl) ?_
          refine lv_bipush (v := 80) hx hb dX5_carryOut_42 (by decide) ?_
          refine lv_icmp_ge (tgt := 80) hx hb dX5_carryOut_44 (by decide) (fun c_8 => ?_) (fun c_8 => ?_)
          · replace hE := hE.trans (if_pos c_8)
            refine lv_aload_n hx hb dX5_carryOut_80 rfl (lv_at hl 2 rfl) ?_
            refine va_get (D := E.1) (ci := 4) (v := .ref (ad 85)) (C := RX5) (T := TX5) (N := 6) hx hb hts hiX5 hown hK.1 hY.2.1 0 rfl rfl 4 (by decide) hf34 (fun _ h9 => h9) rfl dX5_carryOut_81 ?_
            refine kCallWi (va_runV (As := []) (rest := []) ⟨hx, hb, hml, hown, hts⟩ (c_X3_empty l E (ga ad 85) (S37 12) (hs.inj (by omega)) _ rfl) (cwV 0 hts gX5_carryOut_X3_empty rfl rfl rfl (by decide +kernel) ⟨Nat.le_of_ble_eq_true rfl, Nat.le_of_ble_eq_true rfl⟩) (kPreV hK hY.2.2.2.1 hY.2.2.2.1 (q0 := 0) rfl rfl) rfl rfl hl.1 rfl (lv_room (Nat.le_of_ble_eq_true rfl)) dX5_carryOut_84 ⟨Nat.zero_le _, Nat.zero_le _⟩) hS (kA_sub (by omega)) (fun H locs hP _ hk hS => ?_)
            refine kGen (mX3_empty (S37 12)) (fun g_9 hg_9 => ?_)
            rw [hg_9] at hE hP ⊢
            try dsimp only at hE
            have hY := hY.putP hs (rset (S37 12) 0 (upd ((S37 12) 0) 0 (g_9.2))) hP hk
            refine lv_pop hx hb dX5_carryOut_87 rfl ?_
            refine lv_aload_n hx hb dX5_carryOut_88 rfl (lv_at hl 2 rfl) ?_
            refine va_get (D := E.1) (ci := 4) (v := .ref (ad 83)) (C := RX5) (T := TX5) (N := 6) hx hb hts hiX5 hown hK.1 hY.2.1 0 rfl rfl 1 (by decide) hf19 (fun _ h9 => h9) rfl dX5_carryOut_89 ?_
            refine lv_iload_n hx hb dX5_carryOut_92 rfl (lv_at hl 1 rfl) ?_
            refine kCallWi (va_runV (As := [.int (nI i37)]) (rest := []) ⟨hx, hb, hml, hown, hts⟩ (c_X1_keepUnlessError l E (ga ad 83) (S37 11) (hs.inj (by omega)) (nI i37) _ rfl) (cwV 1 hts gX5_carryOut_X1_keepUnlessError rfl rfl rfl (by decide +kernel) ⟨Nat.le_of_ble_eq_true rfl, Nat.le_of_ble_eq_true rfl⟩) (kPreV hK (kP_l hY.2.2.1) (kP_l hY.2.2.1) (q0 := 0) rfl rfl) rfl rfl hl.1 rfl (lv_room (Nat.le_of_ble_eq_true rfl)) dX5_carryOut_93 ⟨Nat.zero_le _, Nat.zero_le _⟩) hS (kA_sub (by omega)) (fun H locs hP _ hk hS => ?_)
            refine kGen (mX1_keepUnlessError (S37 11) (nI i37)) (fun g_10 hg_10 => ?_)
            rw [hg_10] at hE hP ⊢
            try dsimp only at hE
            have hY := hY.putH hs (rset (S37 11) 0 (upd (upd ((S37 11) 0) 0 (g_10.2.1)) 1 (g_10.2.2))) hP hk
            subst R
            exact W.iret (v := (g_10.1)) hx hb hr (fun t ht hW => ⟨rfl, by rw [ht]; exact hY, hS.F ht⟩) hS.2.2 dX5_carryOut_96
          · replace hE := hE.trans (if_neg c_8)
            have hbc_8 : i37 < 80 := nI_nle_lt ⟨by omega, by omega⟩ c_8
            refine lv_aload_n hx hb dX5_carryOut_47 rfl (lv_at hl 2 rfl) ?_
            refine va_get (D := E.1) (ci := 4) (v := .ref (ad 85)) (C := RX5) (T := TX5) (N := 6) hx hb hts hiX5 hown hK.1 hY.2.1 0 rfl rfl 4 (by decide) hf34 (fun _ h9 => h9) rfl dX5_carryOut_48 ?_
            refine kCallWi (va_runV (As := []) (rest := []) ⟨hx, hb, hml, hown, hts⟩ (c_X3_passOrder l E (ga ad 85) (S37 12) (hs.inj (by omega)) hpi _ rfl) (cwV 0 hts gX5_carryOut_X3_passOrder rfl rfl rfl (by decide +kernel) ⟨Nat.le_of_ble_eq_true rfl, Nat.le_of_ble_eq_true rfl⟩) (kPreV hK hY.2.2.2.1 hY.2.2.2.1 (q0 := 0) rfl rfl) rfl rfl hl.1 rfl (lv_room (Nat.le_of_ble_eq_true rfl)) dX5_carryOut_51 ⟨Nat.zero_le _, Nat.zero_le _⟩) hS (kA_sub (by omega)) (fun H locs hP _ hk hS => ?_)
            have ho : pOK (S37 12 0 0) ((mX3_passOrder (S37 12)).2.2.2.2.2.1) := passOrder_ok (v := (S37 12)) hpi
            refine kGen (mX3_passOrder (S37 12)) (fun g_11 hg_11 => ?_)
            rw [hg_11] at hE hP ho ⊢
            try dsimp only at hE
            have hY := hY.putP hs (rset (S37 12) 0 (upd (upd (upd (upd (upd (upd ((S37 12) 0) 1 (g_11.2.1)) 2 (g_11.2.2.1)) 3 (g_11.2.2.2.1)) 4 (g_11.2.2.2.2.1)) 5 (g_11.2.2.2.2.2.1)) 6 (g_11.2.2.2.2.2.2))) hP hk
            refine lv_if_eq (tgt := 80) hx hb dX5_carryOut_54 (by decide) (fun c_12 => ?_) (fun c_12 => ?_)
            · replace hE := hE.trans (if_pos c_12)
              refine lv_aload_n hx hb dX5_carryOut_80 rfl (lv_at hl 2 rfl) ?_
              refine va_get (D := E.1) (ci := 4) (v := .ref (ad 85)) (C := RX5) (T := TX5) (N := 6) hx hb hts hiX5 hown hK.1 hY.2.1 0 rfl rfl 4 (by decide) hf34 (fun _ h9 => h9) rfl dX5_carryOut_81 ?_
              refine kCallWi (va_runV (As := []) (rest := []) ⟨hx, hb, hml, hown, hts⟩ (c_X3_empty l E (ga ad 85) (rset (S37 12) 0 (upd (upd (upd (upd (upd (upd ((S37 12) 0) 1 (g_11.2.1)) 2 (g_11.2.2.1)) 3 (g_11.2.2.2.1)) 4 (g_11.2.2.2.2.1)) 5 (g_11.2.2.2.2.2.1)) 6 (g_11.2.2.2.2.2.2))) (hs.inj (by omega)) _ rfl) (cwV 0 hts gX5_carryOut_X3_empty rfl rfl rfl (by decide +kernel) ⟨Nat.le_of_ble_eq_true rfl, Nat.le_of_ble_eq_true rfl⟩) (kPreV hK hY.2.2.2.1 hY.2.2.2.1 (q0 := 0) rfl rfl) rfl rfl hl.1 rfl (lv_room (Nat.le_of_ble_eq_true rfl)) dX5_carryOut_84 ⟨Nat.zero_le _, Nat.zero_le _⟩) hS (kA_sub (by omega)) (fun H locs hP _ hk hS => ?_)
              refine kGen (mX3_empty (rset (S37 12) 0 (upd (upd (upd (upd (upd (upd ((S37 12) 0) 1 (g_11.2.1)) 2 (g_11.2.2.1)) 3 (g_11.2.2.2.1)) 4 (g_11.2.2.2.2.1)) 5 (g_11.2.2.2.2.2.1)) 6 (g_11.2.2.2.2.2.2)))) (fun g_13 hg_13 => ?_)
              rw [hg_13] at hE hP ⊢
              try dsimp only at hE
              have hY := hY.putP hs (rset (S37 12) 0 (upd (upd (upd (upd (upd (upd (upd ((S37 12) 0) 0 (g_13.2)) 1 (g_11.2.1)) 2 (g_11.2.2.1)) 3 (g_11.2.2.2.1)) 4 (g_11.2.2.2.2.1)) 5 (g_11.2.2.2.2.2.1)) 6 (g_11.2.2.2.2.2.2))) hP hk
              refine lv_pop hx hb dX5_carryOut_87 rfl ?_
              refine lv_aload_n hx hb dX5_carryOut_88 rfl (lv_at hl 2 rfl) ?_
              refine va_get (D := E.1) (ci := 4) (v := .ref (ad 83)) (C := RX5) (T := TX5) (N := 6) hx hb hts hiX5 hown hK.1 hY.2.1 0 rfl rfl 1 (by decide) hf19 (fun _ h9 => h9) rfl dX5_carryOut_89 ?_
              refine lv_iload_n hx hb dX5_carryOut_92 rfl (lv_at hl 1 rfl) ?_
              refine kCallWi (va_runV (As := [.int (nI i37)]) (rest := []) ⟨hx, hb, hml, hown, hts⟩ (c_X1_keepUnlessError l E (ga ad 83) (S37 11) (hs.inj (by omega)) (nI i37) _ rfl) (cwV 1 hts gX5_carryOut_X1_keepUnlessError rfl rfl rfl (by decide +kernel) ⟨Nat.le_of_ble_eq_true rfl, Nat.le_of_ble_eq_true rfl⟩) (kPreV hK (kP_l hY.2.2.1) (kP_l hY.2.2.1) (q0 := 0) rfl rfl) rfl rfl hl.1 rfl (lv_room (Nat.le_of_ble_eq_true rfl)) dX5_carryOut_93 ⟨Nat.zero_le _, Nat.zero_le _⟩) hS (kA_sub (by omega)) (fun H locs hP _ hk hS => ?_)
              refine kGen (mX1_keepUnlessError (S37 11) (nI i37)) (fun g_14 hg_14 => ?_)
              rw [hg_14] at hE hP ⊢
              try dsimp only at hE
              have hY := hY.putH hs (rset (S37 11) 0 (upd (upd ((S37 11) 0) 0 (g_14.2.1)) 1 (g_14.2.2))) hP hk
              subst R
              exact W.iret (v := (g_14.1)) hx hb hr (fun t ht hW => ⟨rfl, by rw [ht]; exact hY, hS.F ht⟩) hS.2.2 dX5_carryOut_96
            · replace hE := hE.trans (if_neg c_12)
              refine lv_aload_n hx hb dX5_carryOut_57 rfl (lv_at hl 2 rfl) ?_
              refine kCallYi (va_runV (As := []) (rest := []) ⟨hx, hb, hml, hown, hts⟩ (c_X5_carryOne l E ad (gset S37 12 (rset (S37 12) 0 (upd (upd (upd (upd (upd (upd ((S37 12) 0) 1 (g_11.2.1)) 2 (g_11.2.2.1)) 3 (g_11.2.2.2.1)) 4 (g_11.2.2.2.2.1)) 5 (g_11.2.2.2.2.2.1)) 6 (g_11.2.2.2.2.2.2)))) hs hni _ rfl) (cwV 0 hts gX5_carryOut_X5_carryOne rfl rfl rfl (by decide +kernel) ⟨Nat.le_of_ble_eq_true rfl, Nat.le_of_ble_eq_true rfl⟩) (kPreYV hK hY.2.1 hY (q0 := 0) rfl rfl) rfl rfl hl.1 rfl (lv_room (Nat.le_of_ble_eq_true rfl)) dX5_carryOut_58 ⟨Nat.zero_le _, Nat.zero_le _⟩) hS (fun _ h => h) (fun H locs hY _ _ hS => ?_)
              have hc1 : nOK (((mX5_carryOne (gset S37 12 (rset (S37 12) 0 (upd (upd (upd (upd (upd (upd ((S37 12) 0) 1 (g_11.2.1)) 2 (g_11.2.2.1)) 3 (g_11.2.2.2.1)) 4 (g_11.2.2.2.2.1)) 5 (g_11.2.2.2.2.2.1)) 6 (g_11.2.2.2.2.2.2)))))).2 0 0 2) := carryOne_n (S := (gset S37 12 (rset (S37 12) 0 (upd (upd (upd (upd (upd (upd ((S37 12) 0) 1 (g_11.2.1)) 2 (g_11.2.2.1)) 3 (g_11.2.2.2.1)) 4 (g_11.2.2.2.2.1)) 5 (g_11.2.2.2.2.2.1)) 6 (g_11.2.2.2.2.2.2))))) hni
              have hc2 : ((mX5_carryOne (gset S37 12 (rset (S37 12) 0 (upd (upd (upd (upd (upd (upd ((S37 12) 0) 1 (g_11.2.1)) 2 (g_11.2.2.1)) 3 (g_11.2.2.2.1)) 4 (g_11.2.2.2.2.1)) 5 (g_11.2.2.2.2.2.1)) 6 (g_11.2.2.2.2.2.2)))))).2 12 = (gset S37 12 (rset (S37 12) 0 (upd (upd (upd (upd (upd (upd ((S37 12) 0) 1 (g_11.2.1)) 2 (g_11.2.2.1)) 3 (g_11.2.2.2.1)) 4 (g_11.2.2.2.2.1)) 5 (g_11.2.2.2.2.2.1)) 6 (g_11.2.2.2.2.2.2)))) 12 := carryOne_p hni
              refine kGen (mX5_carryOne (gset S37 12 (rset (S37 12) 0 (upd (upd (upd (upd (upd (upd ((S37 12) 0) 1 (g_11.2.1)) 2 (g_11.2.2.1)) 3 (g_11.2.2.2.1)) 4 (g_11.2.2.2.2.1)) 5 (g_11.2.2.2.2.2.1)) 6 (g_11.2.2.2.2.2.2))))) (fun g_15 hg_15 => ?_)
              rw [hg_15] at hE hY hc1 hc2 ⊢
              try dsimp only at hE
              refine lv_if_lt (tgt := 80) hx hb dX5_carryOut_61 (by decide) (fun c_16 => ?_) (fun c_16 => ?_)
              · replace hE := hE.trans (if_pos c_16)
                refine lv_aload_n hx hb dX5_carryOut_80 rfl (lv_at hl 2 rfl) ?_
                refine va_get (D := E.1) (ci := 4) (v := .ref (ad 85)) (C := RX5) (T := TX5) (N := 6) hx hb hts hiX5 hown hK.1 hY.2.1 0 rfl rfl 4 (by decide) hf34 (fun _ h9 => h9) rfl dX5_carryOut_81 ?_
                refine kCallWi (va_runV (As := []) (rest := []) ⟨hx, hb, hml, hown, hts⟩ (c_X3_empty l E (ga ad 85) ((g_15.2) 12) (hs.inj (by omega)) _ rfl) (cwV 0 hts gX5_carryOut_X3_empty rfl rfl rfl (by decide +kernel) ⟨Nat.le_of_ble_eq_true rfl, Nat.le_of_ble_eq_true rfl⟩) (kPreV hK hY.2.2.2.1 hY.2.2.2.1 (q0 := 0) rfl rfl) rfl rfl hl.1 rfl (lv_room (Nat.le_of_ble_eq_true rfl)) dX5_carryOut_84 ⟨Nat.zero_le _, Nat.zero_le _⟩) hS (kA_sub (by omega)) (fun H locs hP _ hk hS => ?_)
                refine kGen (mX3_empty ((g_15.2) 12)) (fun g_17 hg_17 => ?_)
                rw [hg_17] at hE hP ⊢
                try dsimp only at hE
                have hY := hY.putP hs (rset ((g_15.2) 12) 0 (upd (((g_15.2) 12) 0) 0 (g_17.2))) hP hk
                refine lv_pop hx hb dX5_carryOut_87 rfl ?_
                refine lv_aload_n hx hb dX5_carryOut_88 rfl (lv_at hl 2 rfl) ?_
                refine va_get (D := E.1) (ci := 4) (v := .ref (ad 83)) (C := RX5) (T := TX5) (N := 6) hx hb hts hiX5 hown hK.1 hY.2.1 0 rfl rfl 1 (by decide) hf19 (fun _ h9 => h9) rfl dX5_carryOut_89 ?_
                refine lv_iload_n hx hb dX5_carryOut_92 rfl (lv_at hl 1 rfl) ?_
                refine kCallWi (va_runV (As := [.int (nI i37)]) (rest := []) ⟨hx, hb, hml, hown, hts⟩ (c_X1_keepUnlessError l E (ga ad 83) ((g_15.2) 11) (hs.inj (by omega)) (nI i37) _ rfl) (cwV 1 hts gX5_carryOut_X1_keepUnlessError rfl rfl rfl (by decide +kernel) ⟨Nat.le_of_ble_eq_true rfl, Nat.le_of_ble_eq_true rfl⟩) (kPreV hK (kP_l hY.2.2.1) (kP_l hY.2.2.1) (q0 := 0) rfl rfl) rfl rfl hl.1 rfl (lv_room (Nat.le_of_ble_eq_true rfl)) dX5_carryOut_93 ⟨Nat.zero_le _, Nat.zero_le _⟩) hS (kA_sub (by omega)) (fun H locs hP _ hk hS => ?_)
                refine kGen (mX1_keepUnlessError ((g_15.2) 11) (nI i37)) (fun g_18 hg_18 => ?_)
                rw [hg_18] at hE hP ⊢
                try dsimp only at hE
                have hY := hY.putH hs (rset ((g_15.2) 11) 0 (upd (upd (((g_15.2) 11) 0) 0 (g_18.2.1)) 1 (g_18.2.2))) hP hk
                subst R
                exact W.iret (v := (g_18.1)) hx hb hr (fun t ht hW => ⟨rfl, by rw [ht]; exact hY, hS.F ht⟩) hS.2.2 dX5_carryOut_96
              · replace hE := hE.trans (if_neg c_16)
                refine lv_iinc (v := (nI (i37 + 1))) (lv' := [(1, .int (nI (i37 + 1))), (2, .int x37_2), (0, .ref (ad 80))]) hx hb dX5_carryOut_64 hl (k := 1) rfl (nI_1 i37) (by decide) rfl (fun ls hl => ?_)
                refine lv_aload_n hx hb dX5_carryOut_67 rfl (lv_at hl 2 rfl) ?_
                refine va_get (D := E.1) (ci := 4) (v := .ref (ad 85)) (C := RX5) (T := TX5) (N := 6) hx hb hts hiX5 hown hK.1 hY.2.1 0 rfl rfl 4 (by decide) hf34 (fun _ h9 => h9) rfl dX5_carryOut_68 ?_
                refine lv_bipush (v := 59) hx hb dX5_carryOut_71 (by decide) ?_
                refine kCallWi (va_runV (As := [.int 59]) (rest := []) ⟨hx, hb, hml, hown, hts⟩ (c_X3_passSign l E (ga ad 85) ((g_15.2) 12) (hs.inj (by omega)) 59 (by rw [hc2]; exact ho) _ rfl) (cwV 1 hts gX5_carryOut_X3_passSign rfl rfl rfl (by decide +kernel) ⟨Nat.le_of_ble_eq_true rfl, Nat.le_of_ble_eq_true rfl⟩) (kPreV hK hY.2.2.2.1 hY.2.2.2.1 (q0 := 0) rfl rfl) rfl rfl hl.1 rfl (lv_room (Nat.le_of_ble_eq_true rfl)) dX5_carryOut_73 ⟨Nat.zero_le _, Nat.zero_le _⟩) hS (kA_sub (by omega)) (fun H locs hP _ hk hS => ?_)
                have hz : pOK (((g_15.2) 12) 0 0) ((mX3_passSign ((g_15.2) 12) 59)).2 := passSign_ok (v := ((g_15.2) 12)) (by rw [hc2]; exact ho)
                refine kGen (mX3_passSign ((g_15.2) 12) 59) (fun g_19 hg_19 => ?_)
                rw [hg_19] at hE hP hz ⊢
                try dsimp only at hE
                have hY := hY.putP hs (rset ((g_15.2) 12) 0 (upd (((g_15.2) 12) 0) 5 (g_19.2))) hP hk
                refine lv_istore_n (lv' := [(2, .int (g_19.1)), (1, .int (nI (i37 + 1))), (0, .ref (ad 80))]) hx hb dX5_carryOut_76 rfl hl (by decide) rfl (fun ls hl => ?_)
                refine lv_goto (tgt := 37) hx hb dX5_carryOut_77 (by decide) ?_
                exact ih37 (i37 + 1) (g_19.1) (gset (g_15.2) 12 (rset ((g_15.2) 12) 0 (upd (((g_15.2) 12) 0) 5 (g_19.2)))) _ _ (by omega) (by omega) hc1 hz hY hS ls (lv_sub hl [0, 1, 2] rfl) hE
    exact lp37 81 0 1 (gset S_3 12 (rset (S_3 12) 0 (upd ((S_3 12) 0) 5 g_4))) _ _ (by omega) (by omega) hn1 hp2 hY hS ls (lv_sub hl [0, 1, 2] rfl) hE
  · replace hE := hE.trans (if_neg c_2)
    refine lv_bipush (v := (-3)) hx hb dX5_carryOut_12 (by decide) ?_
    subst R
    exact W.iret (v := (-3)) hx hb hr (fun t ht hW => ⟨rfl, by rw [ht]; exact hY, hS.F ht⟩) hS.2.2 dX5_carryOut_14
