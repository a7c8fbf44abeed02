def mX3_passOrder (v : kG) : Int32 × Int32 × Int32 × Int32 × Int32 × Int32 × Int32 :=
  if (v 0 0) ≤ (v 0 5) then
    (0, 0, (v 0 2), (v 0 3), (v 0 4), (v 0 5), (v 0 6))
  else
    if ((v 1) ((v 0 5)).toNatClampNeg) = 98 then
      (1, ((v 1) ((v 0 5)).toNatClampNeg), (v 0 2), (v 0 3), (v 0 4), ((v 0 5) + 1), (v 0 6))
    else
      if ((v 1) ((v 0 5)).toNatClampNeg) = 99 then
        (fun (g_4 : Int32 × Int32 × Int32 × Int32) =>
          ((g_4.1), ((v 1) ((v 0 5)).toNatClampNeg), (g_4.2.1), (v 0 3), (v 0 4), (g_4.2.2.1), (g_4.2.2.2)))
          (mX3_passFirst (rset v 0 (upd (upd (v 0) 1 ((v 1) ((v 0 5)).toNatClampNeg)) 5 ((v 0 5) + 1))))
      else
        if ((v 1) ((v 0 5)).toNatClampNeg) = 114 then
          (fun (g_6 : Int32 × Int32 × Int32 × Int32) =>
            if (g_6.1) = 0 then
              (0, ((v 1) ((v 0 5)).toNatClampNeg), (g_6.2.1), (v 0 3), (v 0 4), (g_6.2.2.1), (g_6.2.2.2))
            else
              (fun (g_8 : Int32 × Int32) =>
                if (g_8.1) = 0 then
                  (0, ((v 1) ((v 0 5)).toNatClampNeg), (g_6.2.1), (v 0 3), (v 0 4), (g_8.2), (g_6.2.2.2))
                else
                  (fun (g_10 : Int32 × Int32 × Int32 × Int32) =>
                    if (g_10.1) = 0 then
                      (0, ((v 1) ((v 0 5)).toNatClampNeg), (g_6.2.1), (g_10.2.1), (v 0 4), (g_10.2.2.1), (g_10.2.2.2))
                    else
                      (1, ((v 1) ((v 0 5)).toNatClampNeg), (g_6.2.1), (g_10.2.1), (v 0 4), (g_10.2.2.1), (g_10.2.2.2)))
                    (mX3_passSecond (rset v 0 (upd (upd (upd (upd (v 0) 1 ((v 1) ((v 0 5)).toNatClampNeg)) 2 (g_6.2.1)) 5 (g_8.2)) 6 (g_6.2.2.2)))))
                (mX3_passSign (rset v 0 (upd (upd (upd (upd (v 0) 1 ((v 1) ((v 0 5)).toNatClampNeg)) 2 (g_6.2.1)) 5 (g_6.2.2.1)) 6 (g_6.2.2.2))) 46))
            (mX3_passFirst (rset v 0 (upd (upd (v 0) 1 ((v 1) ((v 0 5)).toNatClampNeg)) 5 ((v 0 5) + 1))))
        else
          if ((v 1) ((v 0 5)).toNatClampNeg) = 119 then
            (fun (g_13 : Int32 × Int32 × Int32 × Int32) =>
              if (g_13.1) = 0 then
                (0, ((v 1) ((v 0 5)).toNatClampNeg), (g_13.2.1), (v 0 3), (v 0 4), (g_13.2.2.1), (g_13.2.2.2))
              else
                (fun (g_15 : Int32 × Int32) =>
                  if (g_15.1) = 0 then
                    (0, ((v 1) ((v 0 5)).toNatClampNeg), (g_13.2.1), (v 0 3), (v 0 4), (g_15.2), (g_13.2.2.2))
                  else
                    (fun (g_17 : Int32 × Int32 × Int32 × Int32) =>
                      if (g_17.1) = 0 then
                        (0, ((v 1) ((v 0 5)).toNatClampNeg), (g_13.2.1), (g_17.2.1), (v 0 4), (g_17.2.2.1), (g_17.2.2.2))
                      else
                        (fun (g_19 : Int32 × Int32) =>
                          if (g_19.1) = 0 then
                            (0, ((v 1) ((v 0 5)).toNatClampNeg), (g_13.2.1), (g_17.2.1), (v 0 4), (g_19.2), (g_17.2.2.2))
                          else
                            (fun (g_21 : Int32 × Int32 × Int32 × Int32) =>
                              if (g_21.1) = 0 then
                                (0, ((v 1) ((v 0 5)).toNatClampNeg), (g_13.2.1), (g_17.2.1), (g_21.2.1), (g_21.2.2.1), (g_21.2.2.2))
                              else
                                (1, ((v 1) ((v 0 5)).toNatClampNeg), (g_13.2.1), (g_17.2.1), (g_21.2.1), (g_21.2.2.1), (g_21.2.2.2)))
                              (mX3_passThird (rset v 0 (upd (upd (upd (upd (upd (v 0) 1 ((v 1) ((v 0 5)).toNatClampNeg)) 2 (g_13.2.1)) 3 (g_17.2.1)) 5 (g_19.2)) 6 (g_17.2.2.2)))))
                          (mX3_passSign (rset v 0 (upd (upd (upd (upd (upd (v 0) 1 ((v 1) ((v 0 5)).toNatClampNeg)) 2 (g_13.2.1)) 3 (g_17.2.1)) 5 (g_17.2.2.1)) 6 (g_17.2.2.2))) 61))
                      (mX3_passSecond (rset v 0 (upd (upd (upd (upd (v 0) 1 ((v 1) ((v 0 5)).toNatClampNeg)) 2 (g_13.2.1)) 5 (g_15.2)) 6 (g_13.2.2.2)))))
                  (mX3_passSign (rset v 0 (upd (upd (upd (upd (v 0) 1 ((v 1) ((v 0 5)).toNatClampNeg)) 2 (g_13.2.1)) 5 (g_13.2.2.1)) 6 (g_13.2.2.2))) 46))
              (mX3_passFirst (rset v 0 (upd (upd (v 0) 1 ((v 1) ((v 0 5)).toNatClampNeg)) 5 ((v 0 5) + 1))))
          else
            if ((v 1) ((v 0 5)).toNatClampNeg) = 120 then
              (fun (g_24 : Int32 × Int32 × Int32 × Int32) =>
                ((g_24.1), ((v 1) ((v 0 5)).toNatClampNeg), (g_24.2.1), (v 0 3), (v 0 4), (g_24.2.2.1), (g_24.2.2.2)))
                (mX3_passFirst (rset v 0 (upd (upd (v 0) 1 ((v 1) ((v 0 5)).toNatClampNeg)) 5 ((v 0 5) + 1))))
            else
              (0, ((v 1) ((v 0 5)).toNatClampNeg), (v 0 2), (v 0 3), (v 0 4), (v 0 5), (v 0 6))
theorem mX3_passOrder_s {v : kG} : mX3_passOrder v = (
  if (v 0 0) ≤ (v 0 5) then
    (0, 0, (v 0 2), (v 0 3), (v 0 4), (v 0 5), (v 0 6))
  else
    if ((v 1) ((v 0 5)).toNatClampNeg) = 98 then
      (1, ((v 1) ((v 0 5)).toNatClampNeg), (v 0 2), (v 0 3), (v 0 4), ((v 0 5) + 1), (v 0 6))
    else
      if ((v 1) ((v 0 5)).toNatClampNeg) = 99 then
        (fun (g_4 : Int32 × Int32 × Int32 × Int32) =>
          ((g_4.1), ((v 1) ((v 0 5)).toNatClampNeg), (g_4.2.1), (v 0 3), (v 0 4), (g_4.2.2.1), (g_4.2.2.2)))
          (mX3_passFirst (rset v 0 (upd (upd (v 0) 1 ((v 1) ((v 0 5)).toNatClampNeg)) 5 ((v 0 5) + 1))))
      else
        if ((v 1) ((v 0 5)).toNatClampNeg) = 114 then
          (fun (g_6 : Int32 × Int32 × Int32 × Int32) =>
            if (g_6.1) = 0 then
              (0, ((v 1) ((v 0 5)).toNatClampNeg), (g_6.2.1), (v 0 3), (v 0 4), (g_6.2.2.1), (g_6.2.2.2))
            else
              (fun (g_8 : Int32 × Int32) =>
                if (g_8.1) = 0 then
                  (0, ((v 1) ((v 0 5)).toNatClampNeg), (g_6.2.1), (v 0 3), (v 0 4), (g_8.2), (g_6.2.2.2))
                else
                  (fun (g_10 : Int32 × Int32 × Int32 × Int32) =>
                    if (g_10.1) = 0 then
                      (0, ((v 1) ((v 0 5)).toNatClampNeg), (g_6.2.1), (g_10.2.1), (v 0 4), (g_10.2.2.1), (g_10.2.2.2))
                    else
                      (1, ((v 1) ((v 0 5)).toNatClampNeg), (g_6.2.1), (g_10.2.1), (v 0 4), (g_10.2.2.1), (g_10.2.2.2)))
                    (mX3_passSecond (rset v 0 (upd (upd (upd (upd (v 0) 1 ((v 1) ((v 0 5)).toNatClampNeg)) 2 (g_6.2.1)) 5 (g_8.2)) 6 (g_6.2.2.2)))))
                (mX3_passSign (rset v 0 (upd (upd (upd (upd (v 0) 1 ((v 1) ((v 0 5)).toNatClampNeg)) 2 (g_6.2.1)) 5 (g_6.2.2.1)) 6 (g_6.2.2.2))) 46))
            (mX3_passFirst (rset v 0 (upd (upd (v 0) 1 ((v 1) ((v 0 5)).toNatClampNeg)) 5 ((v 0 5) + 1))))
        else
          if ((v 1) ((v 0 5)).toNatClampNeg) = 119 then
            (fun (g_13 : Int32 × Int32 × Int32 × Int32) =>
              if (g_13.1) = 0 then
                (0, ((v 1) ((v 0 5)).toNatClampNeg), (g_13.2.1), (v 0 3), (v 0 4), (g_13.2.2.1), (g_13.2.2.2))
              else
                (fun (g_15 : Int32 × Int32) =>
                  if (g_15.1) = 0 then
                    (0, ((v 1) ((v 0 5)).toNatClampNeg), (g_13.2.1), (v 0 3), (v 0 4), (g_15.2), (g_13.2.2.2))
                  else
                    (fun (g_17 : Int32 × Int32 × Int32 × Int32) =>
                      if (g_17.1) = 0 then
                        (0, ((v 1) ((v 0 5)).toNatClampNeg), (g_13.2.1), (g_17.2.1), (v 0 4), (g_17.2.2.1), (g_17.2.2.2))
                      else
                        (fun (g_19 : Int32 × Int32) =>
                          if (g_19.1) = 0 then
                            (0, ((v 1) ((v 0 5)).toNatClampNeg), (g_13.2.1), (g_17.2.1), (v 0 4), (g_19.2), (g_17.2.2.2))
                          else
                            (fun (g_21 : Int32 × Int32 × Int32 × Int32) =>
                              if (g_21.1) = 0 then
                                (0, ((v 1) ((v 0 5)).toNatClampNeg), (g_13.2.1), (g_17.2.1), (g_21.2.1), (g_21.2.2.1), (g_21.2.2.2))
                              else
                                (1, ((v 1) ((v 0 5)).toNatClampNeg), (g_13.2.1), (g_17.2.1), (g_21.2.1), (g_21.2.2.1), (g_21.2.2.2)))
                              (mX3_passThird (rset v 0 (upd (upd (upd (upd (upd (v 0) 1 ((v 1) ((v 0 5)).toNatClampNeg)) 2 (g_13.2.1)) 3 (g_17.2.1)) 5 (g_19.2)) 6 (g_17.2.2.2)))))
                          (mX3_passSign (rset v 0 (upd (upd (upd (upd (upd (v 0) 1 ((v 1) ((v 0 5)).toNatClampNeg)) 2 (g_13.2.1)) 3 (g_17.2.1)) 5 (g_17.2.2.1)) 6 (g_17.2.2.2))) 61))
                      (mX3_passSecond (rset v 0 (upd (upd (upd (upd (v 0) 1 ((v 1) ((v 0 5)).toNatClampNeg)) 2 (g_13.2.1)) 5 (g_15.2)) 6 (g_13.2.2.2)))))
                  (mX3_passSign (rset v 0 (upd (upd (upd (upd (v 0) 1 ((v 1) ((v 0 5)).toNatClampNeg)) 2 (g_13.2.1)) 5 (g_13.2.2.1)) 6 (g_13.2.2.2))) 46))
              (mX3_passFirst (rset v 0 (upd (upd (v 0) 1 ((v 1) ((v 0 5)).toNatClampNeg)) 5 ((v 0 5) + 1))))
          else
            if ((v 1) ((v 0 5)).toNatClampNeg) = 120 then
              (fun (g_24 : Int32 × Int32 × Int32 × Int32) =>
                ((g_24.1), ((v 1) ((v 0 5)).toNatClampNeg), (g_24.2.1), (v 0 3), (v 0 4), (g_24.2.2.1), (g_24.2.2.2)))
                (mX3_passFirst (rset v 0 (upd (upd (v 0) 1 ((v 1) ((v 0 5)).toNatClampNeg)) 5 ((v 0 5) + 1))))
            else
              (0, ((v 1) ((v 0 5)).toNatClampNeg), (v 0 2), (v 0 3), (v 0 4), (v 0 5), (v 0 6)) : Int32 × Int32 × Int32 × Int32 × Int32 × Int32 × Int32) := rfl
set_option maxHeartbeats 400000 in
set_option maxRecDepth 100000 in
theorem c_X3_passOrder (l : Launch) (E : kE) (a : Nat → Nat) (v : kG) (hj : kInj a 2) (hp : pOK (v 0 0) (v 0 5)) (R : Int32 × Int32 × Int32 × Int32 × Int32 × Int32 × Int32) (hE : R = mX3_passOrder v) : Met l yX3_passOrder wsX3_passOrder ({ frames := 3, cells := 0, slots := 0, locals := 62 }) (kPre E [.ref (a 0)] (wPadx E a (v 0 0) (v 0 1) (v 0 2) (v 0 3) (v 0 4) (v 0 5) (v 0 6) (v 1))) (kWi E R.1 (wPadx E a (v 0 0) R.2.1 R.2.2.1 R.2.2.2.1 R.2.2.2.2.1 R.2.2.2.2.2.1 R.2.2.2.2.2.2 (v 1)) (kA a 2)) 0 0 (kA a 2) := by
  refine Met.ofW (cc := cX3_passOrder) (maxL := 1) (ret := (some .boolean)) (by decide) rfl ?_
  intro p e s m args below meth c s₁ B hml hv
  obtain ⟨rfl, hK, hP⟩ := hv
  have hx := B.exec
  have hb := B.bytes
  have hr := B.returns
  have hts := atoms_spec (ws := wsX3_passOrder) B.pre
  have hown : s.vm.findClass RX3 = some m.cls := findClass_of_methodNamed B.named
  have hlocks := B.notSynchronized
  have hiX3 : ∀ w ∈ wsX30, w ∈ wsX3_passOrder := by decide +kernel
  have hf9 := hts (.fieldLink RX3 9 "SkewEdges$Pad" "signs" "[C") (by decide +kernel)
  have hf21 := hts (.fieldLink RX3 21 "SkewEdges$Pad" "length" "I") (by decide +kernel)
  have hf25 := hts (.fieldLink RX3 25 "SkewEdges$Pad" "at" "I") (by decide +kernel)
  have hf39 := hts (.fieldLink RX3 39 "SkewEdges$Pad" "kind" "I") (by decide +kernel)
  have hS : va_S (kA a 2) s.heap s.heap [] := va_S.rf
  have hP : va_P E.1 vwCl (wPadx E a (v 0 0) (v 0 1) (v 0 2) (v 0 3) (v 0 4) (v 0 5) (v 0 6) (v 1)) s.heap := hP
  have hD := dPad (E := E) hj (v 0 0) (v 0 1) (v 0 2) (v 0 3) (v 0 4) (v 0 5) (v 0 6) (v 1)
  have hl := lv_entry ([.ref (a 0)]) (n := 1) (Nat.le_of_ble_eq_true rfl)
  rw [lg_entry_eq]
  generalize (lg_sl ([.ref (a 0)]) ++ List.replicate (1 - (lg_sl ([.ref (a 0)])).length) Slot.unset).toArray = ls at hl ⊢
  have hl : lv_has ls 1 [(0, .ref (a 0))] := hl
  replace hE := hE.trans mX3_passOrder_s
  refine lv_aload_n hx hb dX3_passOrder_0 rfl (lv_at hl 0 rfl) ?_
  refine lv_aload_n hx hb dX3_passOrder_1 rfl (lv_at hl 0 rfl) ?_
  refine va_get (D := E.1) (ci := 2) (v := .int (v 0 5)) (C := RX3) (T := TX3) (N := 8) hx hb hts hiX3 hown hK.1 hP 0 rfl rfl 5 (by decide) hf25 (fun _ h9 => h9) rfl dX3_passOrder_2 ?_
  refine lv_aload_n hx hb dX3_passOrder_5 rfl (lv_at hl 0 rfl) ?_
  refine va_get (D := E.1) (ci := 2) (v := .int (v 0 0)) (C := RX3) (T := TX3) (N := 8) hx hb hts hiX3 hown hK.1 hP 0 rfl rfl 0 (by decide) hf21 (fun _ h9 => h9) rfl dX3_passOrder_6 ?_
  refine lv_icmp_ge (tgt := 24) hx hb dX3_passOrder_9 (by decide) (fun c_1 => ?_) (fun c_1 => ?_)
  · replace hE := hE.trans (if_pos c_1)
    refine lv_iconst (v := 0) hx hb dX3_passOrder_24 (by decide) ?_
    refine va_put (D := E.1) (ci := 2) (v := .int 0) (ty := .int) (C := RX3) (T := TX3) (N := 8) hx hb hts hiX3 tyX3 tyX3_ok nmX3 hown hK.1 hP hD hS 0 rfl rfl 1 (by decide) hf39 (fun _ h9 => h9) rfl (by decide +kernel) rfl rfl (Nat.le_of_ble_eq_true rfl) dX3_passOrder_25 (fun H locs hP _ hS => ?_)
    have hP : va_P E.1 vwCl (wPadx E a (v 0 0) 0 (v 0 2) (v 0 3) (v 0 4) (v 0 5) (v 0 6) (v 1)) H := hP
    have hD := dPad (E := E) hj (v 0 0) 0 (v 0 2) (v 0 3) (v 0 4) (v 0 5) (v 0 6) (v 1)
    refine lv_aload_n hx hb dX3_passOrder_28 rfl (lv_at hl 0 rfl) ?_
    refine va_get (D := E.1) (ci := 2) (v := .int 0) (C := RX3) (T := TX3) (N := 8) hx hb hts hiX3 hown hK.1 hP 0 rfl rfl 1 (by decide) hf39 (fun _ h9 => h9) rfl dX3_passOrder_29 ?_
    refine lv_lookup (tgt := 205) (off := 173) hx hb dX3_passOrder_32 (by decide) (by decide) (by decide) ?_
    refine lv_iconst (v := 0) hx hb dX3_passOrder_205 (by decide) ?_
    subst R
    exact W.zret (v := 0) (ty := .boolean) hx hb hr rfl (fun t ht hW => ⟨rfl, by rw [ht]; exact hP, hS.F ht⟩) hS.2.2 dX3_passOrder_206
  · replace hE := hE.trans (if_neg c_1)
    have hlt := hp.lt c_1
    refine lv_aload_n hx hb dX3_passOrder_12 rfl (lv_at hl 0 rfl) ?_
    refine va_get (D := E.1) (ci := 2) (v := .ref (a 1)) (C := RX3) (T := TX3) (N := 8) hx hb hts hiX3 hown hK.1 hP 0 rfl rfl 7 (by decide) hf9 (fun _ h9 => h9) rfl dX3_passOrder_13 ?_
    refine lv_aload_n hx hb dX3_passOrder_16 rfl (lv_at hl 0 rfl) ?_
    refine va_get (D := E.1) (ci := 2) (v := .int (v 0 5)) (C := RX3) (T := TX3) (N := 8) hx hb hts hiX3 hown hK.1 hP 0 rfl rfl 5 (by decide) hf25 (fun _ h9 => h9) rfl dX3_passOrder_17 ?_
    refine va_cald (D := E.1) hx hb hK.1 hP 1 2 rfl rfl hlt.in80 dX3_passOrder_20 ?_
    refine lv_goto (tgt := 25) hx hb dX3_passOrder_21 (by decide) ?_
    refine va_put (D := E.1) (ci := 2) (v := .int ((v 1) ((v 0 5)).toNatClampNeg)) (ty := .int) (C := RX3) (T := TX3) (N := 8) hx hb hts hiX3 tyX3 tyX3_ok nmX3 hown hK.1 hP hD hS 0 rfl rfl 1 (by decide) hf39 (fun _ h9 => h9) rfl (by decide +kernel) rfl rfl (Nat.le_of_ble_eq_true rfl) dX3_passOrder_25 (fun H locs hP _ hS => ?_)
    have hP : va_P E.1 vwCl (wPadx E a (v 0 0) ((v 1) ((v 0 5)).toNatClampNeg) (v 0 2) (v 0 3) (v 0 4) (v 0 5) (v 0 6) (v 1)) H := hP
    have hD := dPad (E := E) hj (v 0 0) ((v 1) ((v 0 5)).toNatClampNeg) (v 0 2) (v 0 3) (v 0 4) (v 0 5) (v 0 6) (v 1)
    refine lv_aload_n hx hb dX3_passOrder_28 rfl (lv_at hl 0 rfl) ?_
    refine va_get (D := E.1) (ci := 2) (v := .int ((v 1) ((v 0 5)).toNatClampNeg)) (C := RX3) (T := TX3) (N := 8) hx hb hts hiX3 hown hK.1 hP 0 rfl rfl 1 (by decide) hf39 (fun _ h9 => h9) rfl dX3_passOrder_29 ?_
    by_cases c_2 : ((v 1) ((v 0 5)).toNatClampNeg) = 98
    · replace hE := hE.trans (if_pos c_2)
      refine W.eq (g2 := F0 m 32 ls ([.int 98])) (by rw [c_2]) ?_
      refine lv_lookup (tgt := 84) (off := 52) hx hb dX3_passOrder_32 (by decide) (by decide) (by decide) ?_
      refine lv_aload_n hx hb dX3_passOrder_84 rfl (lv_at hl 0 rfl) ?_
      refine lv_dup hx hb dX3_passOrder_85 rfl ?_
      refine va_get (D := E.1) (ci := 2) (v := .int (v 0 5)) (C := RX3) (T := TX3) (N := 8) hx hb hts hiX3 hown hK.1 hP 0 rfl rfl 5 (by decide) hf25 (fun _ h9 => h9) rfl dX3_passOrder_86 ?_
      refine lv_iconst (v := 1) hx hb dX3_passOrder_89 (by decide) ?_
      refine lv_iadd hx hb dX3_passOrder_90 ?_
      refine va_put (D := E.1) (ci := 2) (v := .int ((v 0 5) + 1)) (ty := .int) (C := RX3) (T := TX3) (N := 8) hx hb hts hiX3 tyX3 tyX3_ok nmX3 hown hK.1 hP hD hS 0 rfl rfl 5 (by decide) hf25 (fun _ h9 => h9) rfl (by decide +kernel) rfl rfl (Nat.le_of_ble_eq_true rfl) dX3_passOrder_91 (fun H locs hP _ hS => ?_)
      have hP : va_P E.1 vwCl (wPadx E a (v 0 0) ((v 1) ((v 0 5)).toNatClampNeg) (v 0 2) (v 0 3) (v 0 4) ((v 0 5) + 1) (v 0 6) (v 1)) H := hP
      have hD := dPad (E := E) hj (v 0 0) ((v 1) ((v 0 5)).toNatClampNeg) (v 0 2) (v 0 3) (v 0 4) ((v 0 5) + 1) (v 0 6) (v 1)
      refine lv_iconst (v := 1) hx hb dX3_passOrder_94 (by decide) ?_
      subst R
      exact W.zret (v := 1) (ty := .boolean) hx hb hr rfl (fun t ht hW => ⟨rfl, by rw [ht]; exact hP, hS.F ht⟩) hS.2.2 dX3_passOrder_95
    · replace hE := hE.trans (if_neg c_2)
      by_cases c_3 : ((v 1) ((v 0 5)).toNatClampNeg) = 99
      · replace hE := hE.trans (if_pos c_3)
        refine W.eq (g2 := F0 m 32 ls ([.int 99])) (by rw [c_3]) ?_
        refine lv_lookup (tgt := 96) (off := 64) hx hb dX3_passOrder_32 (by decide) (by decide) (by decide) ?_
        refine lv_aload_n hx hb dX3_passOrder_96 rfl (lv_at hl 0 rfl) ?_
        refine lv_dup hx hb dX3_passOrder_97 rfl ?_
        refine va_get (D := E.1) (ci := 2) (v := .int (v 0 5)) (C := RX3) (T := TX3) (N := 8) hx hb hts hiX3 hown hK.1 hP 0 rfl rfl 5 (by decide) hf25 (fun _ h9 => h9) rfl dX3_passOrder_98 ?_
        refine lv_iconst (v := 1) hx hb dX3_passOrder_101 (by decide) ?_
        refine lv_iadd hx hb dX3_passOrder_102 ?_
        refine va_put (D := E.1) (ci := 2) (v := .int ((v 0 5) + 1)) (ty := .int) (C := RX3) (T := TX3) (N := 8) hx hb hts hiX3 tyX3 tyX3_ok nmX3 hown hK.1 hP hD hS 0 rfl rfl 5 (by decide) hf25 (fun _ h9 => h9) rfl (by decide +kernel) rfl rfl (Nat.le_of_ble_eq_true rfl) dX3_passOrder_103 (fun H locs hP _ hS => ?_)
        have hP : va_P E.1 vwCl (wPadx E a (v 0 0) ((v 1) ((v 0 5)).toNatClampNeg) (v 0 2) (v 0 3) (v 0 4) ((v 0 5) + 1) (v 0 6) (v 1)) H := hP
        have hD := dPad (E := E) hj (v 0 0) ((v 1) ((v 0 5)).toNatClampNeg) (v 0 2) (v 0 3) (v 0 4) ((v 0 5) + 1) (v 0 6) (v 1)
        refine lv_aload_n hx hb dX3_passOrder_106 rfl (lv_at hl 0 rfl) ?_
        refine kCallWi (va_runV (As := []) (rest := []) ⟨hx, hb, hml, hown, hts⟩ (c_X3_passFirst l E a (rset v 0 (upd (upd (v 0) 1 ((v 1) ((v 0 5)).toNatClampNeg)) 5 ((v 0 5) + 1))) hj hlt.next _ rfl) (cwV 0 hts gX3_passOrder_X3_passFirst rfl rfl rfl (by decide +kernel) ⟨Nat.le_of_ble_eq_true rfl, Nat.le_of_ble_eq_true rfl⟩) (kPreV hK hP hP (q0 := 0) rfl rfl) rfl rfl hl.1 rfl (lv_room (Nat.le_of_ble_eq_true rfl)) dX3_passOrder_107 ⟨Nat.zero_le _, Nat.zero_le _⟩) hS (fun _ h => h) (fun H locs hP _ _ hS => ?_)
        have hbool := kbool (passFirst_b (rset v 0 (upd (upd (v 0) 1 ((v 1) ((v 0 5)).toNatClampNeg)) 5 ((v 0 5) + 1))))
        refine kGen (mX3_passFirst (rset v 0 (upd (upd (v 0) 1 ((v 1) ((v 0 5)).toNatClampNeg)) 5 ((v 0 5) + 1)))) (fun g_4 hg_4 => ?_)
        rw [hg_4] at hE hP hbool ⊢
        try dsimp only at hE
        have hP : va_P E.1 vwCl (wPadx E a (v 0 0) ((v 1) ((v 0 5)).toNatClampNeg) (g_4.2.1) (v 0 3) (v 0 4) (g_4.2.2.1) (g_4.2.2.2) (v 1)) H := hP
        have hD := dPad (E := E) hj (v 0 0) ((v 1) ((v 0 5)).toNatClampNeg) (g_4.2.1) (v 0 3) (v 0 4) (g_4.2.2.1) (g_4.2.2.2) (v 1)
        subst R
        exact W.zret (v := (g_4.1)) (ty := .boolean) hx hb hr hbool (fun t ht hW => ⟨rfl, by rw [ht]; exact hP, hS.F ht⟩) hS.2.2 dX3_passOrder_110
      · replace hE := hE.trans (if_neg c_3)
        by_cases c_5 : ((v 1) ((v 0 5)).toNatClampNeg) = 114
        · replace hE := hE.trans (if_pos c_5)
          refine W.eq (g2 := F0 m 32 ls ([.int 114])) (by rw [c_5]) ?_
          refine lv_lookup (tgt := 111) (off := 79) hx hb dX3_passOrder_32 (by decide) (by decide) (by decide) ?_
          refine lv_aload_n hx hb dX3_passOrder_111 rfl (lv_at hl 0 rfl) ?_
          refine lv_dup hx hb dX3_passOrder_112 rfl ?_
          refine va_get (D := E.1) (ci := 2) (v := .int (v 0 5)) (C := RX3) (T := TX3) (N := 8) hx hb hts hiX3 hown hK.1 hP 0 rfl rfl 5 (by decide) hf25 (fun _ h9 => h9) rfl dX3_passOrder_113 ?_
          refine lv_iconst (v := 1) hx hb dX3_passOrder_116 (by decide) ?_
          refine lv_iadd hx hb dX3_passOrder_117 ?_
          refine va_put (D := E.1) (ci := 2) (v := .int ((v 0 5) + 1)) (ty := .int) (C := RX3) (T := TX3) (N := 8) hx hb hts hiX3 tyX3 tyX3_ok nmX3 hown hK.1 hP hD hS 0 rfl rfl 5 (by decide) hf25 (fun _ h9 => h9) rfl (by decide +kernel) rfl rfl (Nat.le_of_ble_eq_true rfl) dX3_passOrder_118 (fun H locs hP _ hS => ?_)
          have hP : va_P E.1 vwCl (wPadx E a (v 0 0) ((v 1) ((v 0 5)).toNatClampNeg) (v 0 2) (v 0 3) (v 0 4) ((v 0 5) + 1) (v 0 6) (v 1)) H := hP
          have hD := dPad (E := E) hj (v 0 0) ((v 1) ((v 0 5)).toNatClampNeg) (v 0 2) (v 0 3) (v 0 4) ((v 0 5) + 1) (v 0 6) (v 1)
          refine lv_aload_n hx hb dX3_passOrder_121 rfl (lv_at hl 0 rfl) ?_
          refine kCallWi (va_runV (As := []) (rest := []) ⟨hx, hb, hml, hown, hts⟩ (c_X3_passFirst l E a (rset v 0 (upd (upd (v 0) 1 ((v 1) ((v 0 5)).toNatClampNeg)) 5 ((v 0 5) + 1))) hj hlt.next _ rfl) (cwV 0 hts gX3_passOrder_X3_passFirst rfl rfl rfl (by decide +kernel) ⟨Nat.le_of_ble_eq_true rfl, Nat.le_of_ble_eq_true rfl⟩) (kPreV hK hP hP (q0 := 0) rfl rfl) rfl rfl hl.1 rfl (lv_room (Nat.le_of_ble_eq_true rfl)) dX3_passOrder_122 ⟨Nat.zero_le _, Nat.zero_le _⟩) hS (fun _ h => h) (fun H locs hP _ _ hS => ?_)
          have hqF : pOK (v 0 0) (mX3_passFirst (rset v 0 (upd (upd (v 0) 1 ((v 1) ((v 0 5)).toNatClampNeg)) 5 ((v 0 5) + 1)))).2.2.1 := passFirst_ok (v := (rset v 0 (upd (upd (v 0) 1 ((v 1) ((v 0 5)).toNatClampNeg)) 5 ((v 0 5) + 1)))) hlt.next
          refine kGen (mX3_passFirst (rset v 0 (upd (upd (v 0) 1 ((v 1) ((v 0 5)).toNatClampNeg)) 5 ((v 0 5) + 1)))) (fun g_6 hg_6 => ?_)
          rw [hg_6] at hE hP hqF ⊢
          try dsimp only at hE
          have hP : va_P E.1 vwCl (wPadx E a (v 0 0) ((v 1) ((v 0 5)).toNatClampNeg) (g_6.2.1) (v 0 3) (v 0 4) (g_6.2.2.1) (g_6.2.2.2) (v 1)) H := hP
          have hD := dPad (E := E) hj (v 0 0) ((v 1) ((v 0 5)).toNatClampNeg) (g_6.2.1) (v 0 3) (v 0 4) (g_6.2.2.1) (g_6.2.2.2) (v 1)
          refine lv_if_eq (tgt := 148) hx hb dX3_passOrder_125 (by decide) (fun c_7 => ?_) (fun c_7 => ?_)
          · replace hE := hE.trans (if_pos c_7)
            refine lv_iconst (v := 0) hx hb dX3_passOrder_148 (by decide) ?_
            subst R
            exact W.zret (v := 0) (ty := .boolean) hx hb hr rfl (fun t ht hW => ⟨rfl, by rw [ht]; exact hP, hS.F ht⟩) hS.2.2 dX3_passOrder_149
          · replace hE := hE.trans (if_neg c_7)
            refine lv_aload_n hx hb dX3_passOrder_128 rfl (lv_at hl 0 rfl) ?_
            refine lv_bipush (v := 46) hx hb dX3_passOrder_129 (by decide) ?_
            refine kCallWi (va_runV (As := [.int 46]) (rest := []) ⟨hx, hb, hml, hown, hts⟩ (c_X3_passSign l E a (rset v 0 (upd (upd (upd (upd (v 0) 1 ((v 1) ((v 0 5)).toNatClampNeg)) 2 (g_6.2.1)) 5 (g_6.2.2.1)) 6 (g_6.2.2.2))) hj 46 hqF _ rfl) (cwV 1 hts gX3_passOrder_X3_passSign rfl rfl rfl (by decide +kernel) ⟨Nat.le_of_ble_eq_true rfl, Nat.le_of_ble_eq_true rfl⟩) (kPreV hK hP hP (q0 := 0) rfl rfl) rfl rfl hl.1 rfl (lv_room (Nat.le_of_ble_eq_true rfl)) dX3_passOrder_131 ⟨Nat.zero_le _, Nat.zero_le _⟩) hS (fun _ h => h) (fun H locs hP _ _ hS => ?_)
            have hs1 : pOK (v 0 0) (mX3_passSign (rset v 0 (upd (upd (upd (upd (v 0) 1 ((v 1) ((v 0 5)).toNatClampNeg)) 2 (g_6.2.1)) 5 (g_6.2.2.1)) 6 (g_6.2.2.2))) 46).2 := passSign_ok (v := (rset v 0 (upd (upd (upd (upd (v 0) 1 ((v 1) ((v 0 5)).toNatClampNeg)) 2 (g_6.2.1)) 5 (g_6.2.2.1)) 6 (g_6.2.2.2)))) hqF
            refine kGen (mX3_passSign (rset v 0 (upd (upd (upd (upd (v 0) 1 ((v 1) ((v 0 5)).toNatClampNeg)) 2 (g_6.2.1)) 5 (g_6.2.2.1)) 6 (g_6.2.2.2))) 46) (fun g_8 hg_8 => ?_)
            rw [hg_8] at hE hP hs1 ⊢
            try dsimp only at hE
            have hP : va_P E.1 vwCl (wPadx E a (v 0 0) ((v 1) ((v 0 5)).toNatClampNeg) (g_6.2.1) (v 0 3) (v 0 4) (g_8.2) (g_6.2.2.2) (v 1)) H := hP
            have hD := dPad (E := E) hj (v 0 0) ((v 1) ((v 0 5)).toNatClampNeg) (g_6.2.1) (v 0 3) (v 0 4) (g_8.2) (g_6.2.2.2) (v 1)
            refine lv_if_eq (tgt := 148) hx hb dX3_passOrder_134 (by decide) (fun c_9 => ?_) (fun c_9 => ?_)
            · replace hE := hE.trans (if_pos c_9)
              refine lv_iconst (v := 0) hx hb dX3_passOrder_148 (by decide) ?_
              subst R
              exact W.zret (v := 0) (ty := .boolean) hx hb hr rfl (fun t ht hW => ⟨rfl, by rw [ht]; exact hP, hS.F ht⟩) hS.2.2 dX3_passOrder_149
            · replace hE := hE.trans (if_neg c_9)
              refine lv_aload_n hx hb dX3_passOrder_137 rfl (lv_at hl 0 rfl) ?_
              refine kCallWi (va_runV (As := []) (rest := []) ⟨hx, hb, hml, hown, hts⟩ (c_X3_passSecond l E a (rset v 0 (upd (upd (upd (upd (v 0) 1 ((v 1) ((v 0 5)).toNatClampNeg)) 2 (g_6.2.1)) 5 (g_8.2)) 6 (g_6.2.2.2))) hj hs1 _ rfl) (cwV 0 hts gX3_passOrder_X3_passSecond rfl rfl rfl (by decide +kernel) ⟨Nat.le_of_ble_eq_true rfl, Nat.le_of_ble_eq_true rfl⟩) (kPreV hK hP hP (q0 := 0) rfl rfl) rfl rfl hl.1 rfl (lv_room (Nat.le_of_ble_eq_true rfl)) dX3_passOrder_138 ⟨Nat.zero_le _, Nat.zero_le _⟩) hS (fun _ h => h) (fun H locs hP _ _ hS => ?_)
              have hqS : pOK (v 0 0) (mX3_passSecond (rset v 0 (upd (upd (upd (upd (v 0) 1 ((v 1) ((v 0 5)).toNatClampNeg)) 2 (g_6.2.1)) 5 (g_8.2)) 6 (g_6.2.2.2)))).2.2.1 := passSecond_ok (v := (rset v 0 (upd (upd (upd (upd (v 0) 1 ((v 1) ((v 0 5)).toNatClampNeg)) 2 (g_6.2.1)) 5 (g_8.2)) 6 (g_6.2.2.2)))) hs1
              refine kGen (mX3_passSecond (rset v 0 (upd (upd (upd (upd (v 0) 1 ((v 1) ((v 0 5)).toNatClampNeg)) 2 (g_6.2.1)) 5 (g_8.2)) 6 (g_6.2.2.2)))) (fun g_10 hg_10 => ?_)
              rw [hg_10] at hE hP hqS ⊢
              try dsimp only at hE
              have hP : va_P E.1 vwCl (wPadx E a (v 0 0) ((v 1) ((v 0 5)).toNatClampNeg) (g_6.2.1) (g_10.2.1) (v 0 4) (g_10.2.2.1) (g_10.2.2.2) (v 1)) H := hP
              have hD := dPad (E := E) hj (v 0 0) ((v 1) ((v 0 5)).toNatClampNeg) (g_6.2.1) (g_10.2.1) (v 0 4) (g_10.2.2.1) (g_10.2.2.2) (v 1)
              refine lv_if_eq (tgt := 148) hx hb dX3_passOrder_141 (by decide) (fun c_11 => ?_) (fun c_11 => ?_)
              · replace hE := hE.trans (if_pos c_11)
                refine lv_iconst (v := 0) hx hb dX3_passOrder_148 (by decide) ?_
                subst R
                exact W.zret (v := 0) (ty := .boolean) hx hb hr rfl (fun t ht hW => ⟨rfl, by rw [ht]; exact hP, hS.F ht⟩) hS.2.2 dX3_passOrder_149
              · replace hE := hE.trans (if_neg c_11)
                refine lv_iconst (v := 1) hx hb dX3_passOrder_144 (by decide) ?_
                refine lv_goto (tgt := 149) hx hb dX3_passOrder_145 (by decide) ?_
                subst R
                exact W.zret (v := 1) (ty := .boolean) hx hb hr rfl (fun t ht hW => ⟨rfl, by rw [ht]; exact hP, hS.F ht⟩) hS.2.2 dX3_passOrder_149
        · replace hE := hE.trans (if_neg c_5)
          by_cases c_12 : ((v 1) ((v 0 5)).toNatClampNeg) = 119
          · replace hE := hE.trans (if_pos c_12)
            refine W.eq (g2 := F0 m 32 ls ([.int 119])) (by rw [c_12]) ?_
            refine lv_lookup (tgt := 150) (off := 118) hx hb dX3_passOrder_32 (by decide) (by decide) (by decide) ?_
            refine lv_aload_n hx hb dX3_passOrder_150 rfl (lv_at hl 0 rfl) ?_
            refine lv_dup hx hb dX3_passOrder_151 rfl ?_
            refine va_get (D := E.1) (ci := 2) (v := .int (v 0 5)) (C := RX3) (T := TX3) (N := 8) hx hb hts hiX3 hown hK.1 hP 0 rfl rfl 5 (by decide) hf25 (fun _ h9 => h9) rfl dX3_passOrder_152 ?_
            refine lv_iconst (v := 1) hx hb dX3_passOrder_155 (by decide) ?_
            refine lv_iadd hx hb dX3_passOrder_156 ?_
            refine va_put (D := E.1) (ci := 2) (v := .int ((v 0 5) + 1)) (ty := .int) (C := RX3) (T := TX3) (N := 8) hx hb hts hiX3 tyX3 tyX3_ok nmX3 hown hK.1 hP hD hS 0 rfl rfl 5 (by decide) hf25 (fun _ h9 => h9) rfl (by decide +kernel) rfl rfl (Nat.le_of_ble_eq_true rfl) dX3_passOrder_157 (fun H locs hP _ hS => ?_)
            have hP : va_P E.1 vwCl (wPadx E a (v 0 0) ((v 1) ((v 0 5)).toNatClampNeg) (v 0 2) (v 0 3) (v 0 4) ((v 0 5) + 1) (v 0 6) (v 1)) H := hP
            have hD := dPad (E := E) hj (v 0 0) ((v 1) ((v 0 5)).toNatClampNeg) (v 0 2) (v 0 3) (v 0 4) ((v 0 5) + 1) (v 0 6) (v 1)
            refine lv_aload_n hx hb dX3_passOrder_160 rfl (lv_at hl 0 rfl) ?_
            refine kCallWi (va_runV (As := []) (rest := []) ⟨hx, hb, hml, hown, hts⟩ (c_X3_passFirst l E a (rset v 0 (upd (upd (v 0) 1 ((v 1) ((v 0 5)).toNatClampNeg)) 5 ((v 0 5) + 1))) hj hlt.next _ rfl) (cwV 0 hts gX3_passOrder_X3_passFirst rfl rfl rfl (by decide +kernel) ⟨Nat.le_of_ble_eq_true rfl, Nat.le_of_ble_eq_true rfl⟩) (kPreV hK hP hP (q0 := 0) rfl rfl) rfl rfl hl.1 rfl (lv_room (Nat.le_of_ble_eq_true rfl)) dX3_passOrder_161 ⟨Nat.zero_le _, Nat.zero_le _⟩) hS (fun _ h => h) (fun H locs hP _ _ hS => ?_)
            have hqF : pOK (v 0 0) (mX3_passFirst (rset v 0 (upd (upd (v 0) 1 ((v 1) ((v 0 5)).toNatClampNeg)) 5 ((v 0 5) + 1)))).2.2.1 := passFirst_ok (v := (rset v 0 (upd (upd (v 0) 1 ((v 1) ((v 0 5)).toNatClampNeg)) 5 ((v 0 5) + 1)))) hlt.next
            refine kGen (mX3_passFirst (rset v 0 (upd (upd (v 0) 1 ((v 1) ((v 0 5)).toNatClampNeg)) 5 ((v 0 5) + 1)))) (fun g_13 hg_13 => ?_)
            rw [hg_13] at hE hP hqF ⊢
            try dsimp only at hE
            have hP : va_P E.1 vwCl (wPadx E a (v 0 0) ((v 1) ((v 0 5)).toNatClampNeg) (g_13.2.1) (v 0 3) (v 0 4) (g_13.2.2.1) (g_13.2.2.2) (v 1)) H := hP
            have hD := dPad (E := E) hj (v 0 0) ((v 1) ((v 0 5)).toNatClampNeg) (g_13.2.1) (v 0 3) (v 0 4) (g_13.2.2.1) (g_13.2.2.2) (v 1)
            refine lv_if_eq (tgt := 203) hx hb dX3_passOrder_164 (by decide) (fun c_14 => ?_) (fun c_14 => ?_)
            · replace hE := hE.trans (if_pos c_14)
              refine lv_iconst (v := 0) hx hb dX3_passOrder_203 (by decide) ?_
              subst R
              exact W.zret (v := 0) (ty := .boolean) hx hb hr rfl (fun t ht hW => ⟨rfl, by rw [ht]; exact hP, hS.F ht⟩) hS.2.2 dX3_passOrder_204
            · replace hE := hE.trans (if_neg c_14)
              refine lv_aload_n hx hb dX3_passOrder_167 rfl (lv_at hl 0 rfl) ?_
              refine lv_bipush (v := 46) hx hb dX3_passOrder_168 (by decide) ?_
              refine kCallWi (va_runV (As := [.int 46]) (rest := []) ⟨hx, hb, hml, hown, hts⟩ (c_X3_passSign l E a (rset v 0 (upd (upd (upd (upd (v 0) 1 ((v 1) ((v 0 5)).toNatClampNeg)) 2 (g_13.2.1)) 5 (g_13.2.2.1)) 6 (g_13.2.2.2))) hj 46 hqF _ rfl) (cwV 1 hts gX3_passOrder_X3_passSign rfl rfl rfl (by decide +kernel) ⟨Nat.le_of_ble_eq_true rfl, Nat.le_of_ble_eq_true rfl⟩) (kPreV hK hP hP (q0 := 0) rfl rfl) rfl rfl hl.1 rfl (lv_room (Nat.le_of_ble_eq_true rfl)) dX3_passOrder_170 ⟨Nat.zero_le _, Nat.zero_le _⟩) hS (fun _ h => h) (fun H locs hP _ _ hS => ?_)
              have hs1 : pOK (v 0 0) (mX3_passSign (rset v 0 (upd (upd (upd (upd (v 0) 1 ((v 1) ((v 0 5)).toNatClampNeg)) 2 (g_13.2.1)) 5 (g_13.2.2.1)) 6 (g_13.2.2.2))) 46).2 := passSign_ok (v := (rset v 0 (upd (upd (upd (upd (v 0) 1 ((v 1) ((v 0 5)).toNatClampNeg)) 2 (g_13.2.1)) 5 (g_13.2.2.1)) 6 (g_13.2.2.2)))) hqF
              refine kGen (mX3_passSign (rset v 0 (upd (upd (upd (upd (v 0) 1 ((v 1) ((v 0 5)).toNatClampNeg)) 2 (g_13.2.1)) 5 (g_13.2.2.1)) 6 (g_13.2.2.2))) 46) (fun g_15 hg_15 => ?_)
              rw [hg_15] at hE hP hs1 ⊢
              try dsimp only at hE
              have hP : va_P E.1 vwCl (wPadx E a (v 0 0) ((v 1) ((v 0 5)).toNatClampNeg) (g_13.2.1) (v 0 3) (v 0 4) (g_15.2) (g_13.2.2.2) (v 1)) H := hP
              have hD := dPad (E := E) hj (v 0 0) ((v 1) ((v 0 5)).toNatClampNeg) (g_13.2.1) (v 0 3) (v 0 4) (g_15.2) (g_13.2.2.2) (v 1)
              refine lv_if_eq (tgt := 203) hx hb dX3_passOrder_173 (by decide) (fun c_16 => ?_) (fun c_16 => ?_)
              · replace hE := hE.trans (if_pos c_16)
                refine lv_iconst (v := 0) hx hb dX3_passOrder_203 (by decide) ?_
                subst R
                exact W.zret (v := 0) (ty := .boolean) hx hb hr rfl (fun t ht hW => ⟨rfl, by rw [ht]; exact hP, hS.F ht⟩) hS.2.2 dX3_passOrder_204
              · replace hE := hE.trans (if_neg c_16)
                refine lv_aload_n hx hb dX3_passOrder_176 rfl (lv_at hl 0 rfl) ?_
                refine kCallWi (va_runV (As := []) (rest := []) ⟨hx, hb, hml, hown, hts⟩ (c_X3_passSecond l E a (rset v 0 (upd (upd (upd (upd (v 0) 1 ((v 1) ((v 0 5)).toNatClampNeg)) 2 (g_13.2.1)) 5 (g_15.2)) 6 (g_13.2.2.2))) hj hs1 _ rfl) (cwV 0 hts gX3_passOrder_X3_passSecond rfl rfl rfl (by decide +kernel) ⟨Nat.le_of_ble_eq_true rfl, Nat.le_of_ble_eq_true rfl⟩) (kPreV hK hP hP (q0 := 0) rfl rfl) rfl rfl hl.1 rfl (lv_room (Nat.le_of_ble_eq_true rfl)) dX3_passOrder_177 ⟨Nat.zero_le _, Nat.zero_le _⟩) hS (fun _ h => h) (fun H locs hP _ _ hS => ?_)
                have hqS : pOK (v 0 0) (mX3_passSecond (rset v 0 (upd (upd (upd (upd (v 0) 1 ((v 1) ((v 0 5)).toNatClampNeg)) 2 (g_13.2.1)) 5 (g_15.2)) 6 (g_13.2.2.2)))).2.2.1 := passSecond_ok (v := (rset v 0 (upd (upd (upd (upd (v 0) 1 ((v 1) ((v 0 5)).toNatClampNeg)) 2 (g_13.2.1)) 5 (g_15.2)) 6 (g_13.2.2.2)))) hs1
                refine kGen (mX3_passSecond (rset v 0 (upd (upd (upd (upd (v 0) 1 ((v 1) ((v 0 5)).toNatClampNeg)) 2 (g_13.2.1)) 5 (g_15.2)) 6 (g_13.2.2.2)))) (fun g_17 hg_17 => ?_)
                rw [hg_17] at hE hP hqS ⊢
                try dsimp only at hE
                have hP : va_P E.1 vwCl (wPadx E a (v 0 0) ((v 1) ((v 0 5)).toNatClampNeg) (g_13.2.1) (g_17.2.1) (v 0 4) (g_17.2.2.1) (g_17.2.2.2) (v 1)) H := hP
                have hD := dPad (E := E) hj (v 0 0) ((v 1) ((v 0 5)).toNatClampNeg) (g_13.2.1) (g_17.2.1) (v 0 4) (g_17.2.2.1) (g_17.2.2.2) (v 1)
                refine lv_if_eq (tgt := 203) hx hb dX3_passOrder_180 (by decide) (fun c_18 => ?_) (fun c_18 => ?_)
                · replace hE := hE.trans (if_pos c_18)
                  refine lv_iconst (v := 0) hx hb dX3_passOrder_203 (by decide) ?_
                  subst R
                  exact W.zret (v := 0) (ty := .boolean) hx hb hr rfl (fun t ht hW => ⟨rfl, by rw [ht]; exact hP, hS.F ht⟩) hS.2.2 dX3_passOrder_204
                · replace hE := hE.trans (if_neg c_18)
                  refine lv_aload_n hx hb dX3_passOrder_183 rfl (lv_at hl 0 rfl) ?_
                  refine lv_bipush (v := 61) hx hb dX3_passOrder_184 (by decide) ?_
                  refine kCallWi (va_runV (As := [.int 61]) (rest := []) ⟨hx, hb, hml, hown, hts⟩ (c_X3_passSign l E a (rset v 0 (upd (upd (upd (upd (upd (v 0) 1 ((v 1) ((v 0 5)).toNatClampNeg)) 2 (g_13.2.1)) 3 (g_17.2.1)) 5 (g_17.2.2.1)) 6 (g_17.2.2.2))) hj 61 hqS _ rfl) (cwV 1 hts gX3_passOrder_X3_passSign rfl rfl rfl (by decide +kernel) ⟨Nat.le_of_ble_eq_true rfl, Nat.le_of_ble_eq_true rfl⟩) (kPreV hK hP hP (q0 := 0) rfl rfl) rfl rfl hl.1 rfl (lv_room (Nat.le_of_ble_eq_true rfl)) dX3_passOrder_186 ⟨Nat.zero_le _, Nat.zero_le _⟩) hS (fun _ h => h) (fun H locs hP _ _ hS => ?_)
                  have hs2 : pOK (v 0 0) (mX3_passSign (rset v 0 (upd (upd (upd (upd (upd (v 0) 1 ((v 1) ((v 0 5)).toNatClampNeg)) 2 (g_13.2.1)) 3 (g_17.2.1)) 5 (g_17.2.2.1)) 6 (g_17.2.2.2))) 61).2 := passSign_ok (v := (rset v 0 (upd (upd (upd (upd (upd (v 0) 1 ((v 1) ((v 0 5)).toNatClampNeg)) 2 (g_13.2.1)) 3 (g_17.2.1)) 5 (g_17.2.2.1)) 6 (g_17.2.2.2)))) hqS
                  refine kGen (mX3_passSign (rset v 0 (upd (upd (upd (upd (upd (v 0) 1 ((v 1) ((v 0 5)).toNatClampNeg)) 2 (g_13.2.1)) 3 (g_17.2.1)) 5 (g_17.2.2.1)) 6 (g_17.2.2.2))) 61) (fun g_19 hg_19 => ?_)
                  rw [hg_19] at hE hP hs2 ⊢
                  try dsimp only at hE
                  have hP : va_P E.1 vwCl (wPadx E a (v 0 0) ((v 1) ((v 0 5)).toNatClampNeg) (g_13.2.1) (g_17.2.1) (v 0 4) (g_19.2) (g_17.2.2.2) (v 1)) H := hP
                  have hD := dPad (E := E) hj (v 0 0) ((v 1) ((v 0 5)).toNatClampNeg) (g_13.2.1) (g_17.2.1) (v 0 4) (g_19.2) (g_17.2.2.2) (v 1)
                  refine lv_if_eq (tgt := 203) hx hb dX3_passOrder_189 (by decide) (fun c_20 => ?_) (fun c_20 => ?_)
                  · replace hE := hE.trans (if_pos c_20)
                    refine lv_iconst (v := 0) hx hb dX3_passOrder_203 (by decide) ?_
                    subst R
                    exact W.zret (v := 0) (ty := .boolean) hx hb hr rfl (fun t ht hW => ⟨rfl, by rw [ht]; exact hP, hS.F ht⟩) hS.2.2 dX3_passOrder_204
                  · replace hE := hE.trans (if_neg c_20)
                    refine lv_aload_n hx hb dX3_passOrder_192 rfl (lv_at hl 0 rfl) ?_
                    refine kCallWi (va_runV (As := []) (rest := []) ⟨hx, hb, hml, hown, hts⟩ (c_X3_passThird l E a (rset v 0 (upd (upd (upd (upd (upd (v 0) 1 ((v 1) ((v 0 5)).toNatClampNeg)) 2 (g_13.2.1)) 3 (g_17.2.1)) 5 (g_19.2)) 6 (g_17.2.2.2))) hj hs2 _ rfl) (cwV 0 hts gX3_passOrder_X3_passThird rfl rfl rfl (by decide +kernel) ⟨Nat.le_of_ble_eq_true rfl, Nat.le_of_ble_eq_true rfl⟩) (kPreV hK hP hP (q0 := 0) rfl rfl) rfl rfl hl.1 rfl (lv_room (Nat.le_of_ble_eq_true rfl)) dX3_passOrder_193 ⟨Nat.zero_le _, Nat.zero_le _⟩) hS (fun _ h => h) (fun H locs hP _ _ hS => ?_)
                    have hqT : pOK (v 0 0) (mX3_passThird (rset v 0 (upd (upd (upd (upd (upd (v 0) 1 ((v 1) ((v 0 5)).toNatClampNeg)) 2 (g_13.2.1)) 3 (g_17.2.1)) 5 (g_19.2)) 6 (g_17.2.2.2)))).2.2.1 := passThird_ok (v := (rset v 0 (upd (upd (upd (upd (upd (v 0) 1 ((v 1) ((v 0 5)).toNatClampNeg)) 2 (g_13.2.1)) 3 (g_17.2.1)) 5 (g_19.2)) 6 (g_17.2.2.2)))) hs2
                    refine kGen (mX3_passThird (rset v 0 (upd (upd (upd (upd (upd (v 0) 1 ((v 1) ((v 0 5)).toNatClampNeg)) 2 (g_13.2.1)) 3 (g_17.2.1)) 5 (g_19.2)) 6 (g_17.2.2.2)))) (fun g_21 hg_21 => ?_)
                    rw [hg_21] at hE hP hqT ⊢
                    try dsimp only at hE
                    have hP : va_P E.1 vwCl (wPadx E a (v 0 0) ((v 1) ((v 0 5)).toNatClampNeg) (g_13.2.1) (g_17.2.1) (g_21.2.1) (g_21.2.2.1) (g_21.2.2.2) (v 1)) H := hP
                    have hD := dPad (E := E) hj (v 0 0) ((v 1) ((v 0 5)).toNatClampNeg) (g_13.2.1) (g_17.2.1) (g_21.2.1) (g_21.2.2.1) (g_21.2.2.2) (v 1)
                    refine lv_if_eq (tgt := 203) hx hb dX3_passOrder_196 (by decide) (fun c_22 => ?_) (fun c_22 => ?_)
                    · replace hE := hE.trans (if_pos c_22)
                      refine lv_iconst (v := 0) hx hb dX3_passOrder_203 (by decide) ?_
                      subst R
                      exact W.zret (v := 0) (ty := .boolean) hx hb hr rfl (fun t ht hW => ⟨rfl, by rw [ht]; exact hP, hS.F ht⟩) hS.2.2 dX3_passOrder_204
                    · replace hE := hE.trans (if_neg c_22)
                      refine lv_iconst (v := 1) hx hb dX3_passOrder_199 (by decide) ?_
                      refine lv_goto (tgt := 204) hx hb dX3_passOrder_200 (by decide) ?_
                      subst R
                      exact W.zret (v := 1) (ty := .boolean) hx hb hr rfl (fun t ht hW => ⟨rfl, by rw [ht]; exact hP, hS.F ht⟩) hS.2.2 dX3_passOrder_204
          · replace hE := hE.trans (if_neg c_12)
            by_cases c_23 : ((v 1) ((v 0 5)).toNatClampNeg) = 120
            · replace hE := hE.trans (if_pos c_23)
              refine W.eq (g2 := F0 m 32 ls ([.int 120])) (by rw [c_23]) ?_
              refine lv_lookup (tgt := 96) (off := 64) hx hb dX3_passOrder_32 (by decide) (by decide) (by decide) ?_
              refine lv_aload_n hx hb dX3_passOrder_96 rfl (lv_at hl 0 rfl) ?_
              refine lv_dup hx hb dX3_passOrder_97 rfl ?_
              refine va_get (D := E.1) (ci := 2) (v := .int (v 0 5)) (C := RX3) (T := TX3) (N := 8) hx hb hts hiX3 hown hK.1 hP 0 rfl rfl 5 (by decide) hf25 (fun _ h9 => h9) rfl dX3_passOrder_98 ?_
              refine lv_iconst (v := 1) hx hb dX3_passOrder_101 (by decide) ?_
              refine lv_iadd hx hb dX3_passOrder_102 ?_
              refine va_put (D := E.1) (ci := 2) (v := .int ((v 0 5) + 1)) (ty := .int) (C := RX3) (T := TX3) (N := 8) hx hb hts hiX3 tyX3 tyX3_ok nmX3 hown hK.1 hP hD hS 0 rfl rfl 5 (by decide) hf25 (fun _ h9 => h9) rfl (by decide +kernel) rfl rfl (Nat.le_of_ble_eq_true rfl) dX3_passOrder_103 (fun H locs hP _ hS => ?_)
              have hP : va_P E.1 vwCl (wPadx E a (v 0 0) ((v 1) ((v 0 5)).toNatClampNeg) (v 0 2) (v 0 3) (v 0 4) ((v 0 5) + 1) (v 0 6) (v 1)) H := hP
              have hD := dPad (E := E) hj (v 0 0) ((v 1) ((v 0 5)).toNatClampNeg) (v 0 2) (v 0 3) (v 0 4) ((v 0 5) + 1) (v 0 6) (v 1)
              refine lv_aload_n hx hb dX3_passOrder_106 rfl (lv_at hl 0 rfl) ?_
              refine kCallWi (va_runV (As := []) (rest := []) ⟨hx, hb, hml, hown, hts⟩ (c_X3_passFirst l E a (rset v 0 (upd (upd (v 0) 1 ((v 1) ((v 0 5)).toNatClampNeg)) 5 ((v 0 5) + 1))) hj hlt.next _ rfl) (cwV 0 hts gX3_passOrder_X3_passFirst rfl rfl rfl (by decide +kernel) ⟨Nat.le_of_ble_eq_true rfl, Nat.le_of_ble_eq_true rfl⟩) (kPreV hK hP hP (q0 := 0) rfl rfl) rfl rfl hl.1 rfl (lv_room (Nat.le_of_ble_eq_true rfl)) dX3_passOrder_107 ⟨Nat.zero_le _, Nat.zero_le _⟩) hS (fun _ h => h) (fun H locs hP _ _ hS => ?_)
              have hbool := kbool (passFirst_b (rset v 0 (upd (upd (v 0) 1 ((v 1) ((v 0 5)).toNatClampNeg)) 5 ((v 0 5) + 1))))
              refine kGen (mX3_passFirst (rset v 0 (upd (upd (v 0) 1 ((v 1) ((v 0 5)).toNatClampNeg)) 5 ((v 0 5) + 1)))) (fun g_24 hg_24 => ?_)
              rw [hg_24] at hE hP hbool ⊢
              try dsimp only at hE
              have hP : va_P E.1 vwCl (wPadx E a (v 0 0) ((v 1) ((v 0 5)).toNatClampNeg) (g_24.2.1) (v 0 3) (v 0 4) (g_24.2.2.1) (g_24.2.2.2) (v 1)) H := hP
              have hD := dPad (E := E) hj (v 0 0) ((v 1) ((v 0 5)).toNatClampNeg) (g_24.2.1) (v 0 3) (v 0 4) (g_24.2.2.1) (g_24.2.2.2) (v 1)
              subst R
              exact W.zret (v := (g_24.1)) (ty := .boolean) hx hb hr hbool (fun t ht hW => ⟨rfl, by rw [ht]; exact hP, hS.F ht⟩) hS.2.2 dX3_passOrder_110
            · replace hE := hE.trans (if_neg c_23)
              refine lv_lookup (tgt := 205) (off := 173) hx hb dX3_passOrder_32 (by decide) (klook5 (k0 := 98) (k1 := 99) (k2 := 114) (k3 := 119) (k4 := 120) rfl rfl rfl rfl rfl c_2 c_3 c_5 c_12 c_23) (by decide) ?_
              refine lv_iconst (v := 0) hx hb dX3_passOrder_205 (by decide) ?_
              subst R
              exact W.zret (v := 0) (ty := .boolean) hx hb hr rfl (fun t ht hW => ⟨rfl, by rw [ht]; exact hP, hS.F ht⟩) hS.2.2 dX3_passOrder_206
theorem passOrder_ok {v : kG} (h : pOK (v 0 0) (v 0 5)) : pOK (v 0 0) (mX3_passOrder v).2.2.2.2.2.1 := by
  rw [mX3_passOrder_s]
  by_cases c : (v 0 0) ≤ (v 0 5)
  · rw [if_pos c]; exact h
  · rw [if_neg c]
    have hn : pOK (v 0 0) ((v 0 5) + 1) := (h.lt c).next
    by_cases k0 : ((v 1) ((v 0 5)).toNatClampNeg) = 98
    · rw [if_pos k0]; exact hn
    · rw [if_neg k0]
      by_cases k1 : ((v 1) ((v 0 5)).toNatClampNeg) = 99
      · rw [if_pos k1]
        have h1 : pOK (v 0 0) (mX3_passFirst (rset v 0 (upd (upd (v 0) 1 ((v 1) ((v 0 5)).toNatClampNeg)) 5 ((v 0 5) + 1)))).2.2.1 := passFirst_ok (v := (rset v 0 (upd (upd (v 0) 1 ((v 1) ((v 0 5)).toNatClampNeg)) 5 ((v 0 5) + 1)))) hn
        refine kGen (mX3_passFirst (rset v 0 (upd (upd (v 0) 1 ((v 1) ((v 0 5)).toNatClampNeg)) 5 ((v 0 5) + 1)))) (fun g1 e1 => ?_)
        rw [e1] at h1 ⊢
        try dsimp only
        exact h1
      · rw [if_neg k1]
        by_cases k2 : ((v 1) ((v 0 5)).toNatClampNeg) = 114
        · rw [if_pos k2]
          have h1 : pOK (v 0 0) (mX3_passFirst (rset v 0 (upd (upd (v 0) 1 ((v 1) ((v 0 5)).toNatClampNeg)) 5 ((v 0 5) + 1)))).2.2.1 := passFirst_ok (v := (rset v 0 (upd (upd (v 0) 1 ((v 1) ((v 0 5)).toNatClampNeg)) 5 ((v 0 5) + 1)))) hn
          refine kGen (mX3_passFirst (rset v 0 (upd (upd (v 0) 1 ((v 1) ((v 0 5)).toNatClampNeg)) 5 ((v 0 5) + 1)))) (fun g1 e1 => ?_)
          rw [e1] at h1 ⊢
          try dsimp only
          by_cases t1 : g1.1 = 0
          · rw [if_pos t1]; exact h1
          · rw [if_neg t1]
            have h2 : pOK (v 0 0) (mX3_passSign (rset v 0 (upd (upd (upd (upd (v 0) 1 ((v 1) ((v 0 5)).toNatClampNeg)) 2 g1.2.1) 5 g1.2.2.1) 6 g1.2.2.2)) 46).2 := passSign_ok (v := (rset v 0 (upd (upd (upd (upd (v 0) 1 ((v 1) ((v 0 5)).toNatClampNeg)) 2 g1.2.1) 5 g1.2.2.1) 6 g1.2.2.2))) h1
            refine kGen (mX3_passSign (rset v 0 (upd (upd (upd (upd (v 0) 1 ((v 1) ((v 0 5)).toNatClampNeg)) 2 g1.2.1) 5 g1.2.2.1) 6 g1.2.2.2)) 46) (fun g2 e2 => ?_)
            rw [e2] at h2 ⊢
            try dsimp only
            by_cases t2 : g2.1 = 0
            · rw [if_pos t2]; exact h2
            · rw [if_neg t2]
              have h3 : pOK (v 0 0) (mX3_passSecond (rset v 0 (upd (upd (upd (upd (v 0) 1 ((v 1) ((v 0 5)).toNatClampNeg)) 2 g1.2.1) 5 g2.2) 6 g1.2.2.2))).2.2.1 := passSecond_ok (v := (rset v 0 (upd (upd (upd (upd (v 0) 1 ((v 1) ((v 0 5)).toNatClampNeg)) 2 g1.2.1) 5 g2.2) 6 g1.2.2.2))) h2
              refine kGen (mX3_passSecond (rset v 0 (upd (upd (upd (upd (v 0) 1 ((v 1) ((v 0 5)).toNatClampNeg)) 2 g1.2.1) 5 g2.2) 6 g1.2.2.2))) (fun g3 e3 => ?_)
              rw [e3] at h3 ⊢
              try dsimp only
              by_cases t3 : g3.1 = 0
              · rw [if_pos t3]; exact h3
              · rw [if_neg t3]
                exact h3
        · rw [if_neg k2]
          by_cases k3 : ((v 1) ((v 0 5)).toNatClampNeg) = 119
          · rw [if_pos k3]
            have h1 : pOK (v 0 0) (mX3_passFirst (rset v 0 (upd (upd (v 0) 1 ((v 1) ((v 0 5)).toNatClampNeg)) 5 ((v 0 5) + 1)))).2.2.1 := passFirst_ok (v := (rset v 0 (upd (upd (v 0) 1 ((v 1) ((v 0 5)).toNatClampNeg)) 5 ((v 0 5) + 1)))) hn
            refine kGen (mX3_passFirst (rset v 0 (upd (upd (v 0) 1 ((v 1) ((v 0 5)).toNatClampNeg)) 5 ((v 0 5) + 1)))) (fun g1 e1 => ?_)
            rw [e1] at h1 ⊢
            try dsimp only
            by_cases t1 : g1.1 = 0
            · rw [if_pos t1]; exact h1
            · rw [if_neg t1]
              have h2 : pOK (v 0 0) (mX3_passSign (rset v 0 (upd (upd (upd (upd (v 0) 1 ((v 1) ((v 0 5)).toNatClampNeg)) 2 g1.2.1) 5 g1.2.2.1) 6 g1.2.2.2)) 46).2 := passSign_ok (v := (rset v 0 (upd (upd (upd (upd (v 0) 1 ((v 1) ((v 0 5)).toNatClampNeg)) 2 g1.2.1) 5 g1.2.2.1) 6 g1.2.2.2))) h1
              refine kGen (mX3_passSign (rset v 0 (upd (upd (upd (upd (v 0) 1 ((v 1) ((v 0 5)).toNatClampNeg)) 2 g1.2.1) 5 g1.2.2.1) 6 g1.2.2.2)) 46) (fun g2 e2 => ?_)
              rw [e2] at h2 ⊢
              try dsimp only
              by_cases t2 : g2.1 = 0
              · rw [if_pos t2]; exact h2
              · rw [if_neg t2]
                have h3 : pOK (v 0 0) (mX3_passSecond (rset v 0 (upd (upd (upd (upd (v 0) 1 ((v 1) ((v 0 5)).toNatClampNeg)) 2 g1.2.1) 5 g2.2) 6 g1.2.2.2))).2.2.1 := passSecond_ok (v := (rset v 0 (upd (upd (upd (upd (v 0) 1 ((v 1) ((v 0 5)).toNatClampNeg)) 2 g1.2.1) 5 g2.2) 6 g1.2.2.2))) h2
                refine kGen (mX3_passSecond (rset v 0 (upd (upd (upd (upd (v 0) 1 ((v 1) ((v 0 5)).toNatClampNeg)) 2 g1.2.1) 5 g2.2) 6 g1.2.2.2))) (fun g3 e3 => ?_)
                rw [e3] at h3 ⊢
                try dsimp only
                by_cases t3 : g3.1 = 0
                · rw [if_pos t3]; exact h3
                · rw [if_neg t3]
                  have h4 : pOK (v 0 0) (mX3_passSign (rset v 0 (upd (upd (upd (upd (upd (v 0) 1 ((v 1) ((v 0 5)).toNatClampNeg)) 2 g1.2.1) 3 g3.2.1) 5 g3.2.2.1) 6 g3.2.2.2)) 61).2 := passSign_ok (v := (rset v 0 (upd (upd (upd (upd (upd (v 0) 1 ((v 1) ((v 0 5)).toNatClampNeg)) 2 g1.2.1) 3 g3.2.1) 5 g3.2.2.1) 6 g3.2.2.2))) h3
                  refine kGen (mX3_passSign (rset v 0 (upd (upd (upd (upd (upd (v 0) 1 ((v 1) ((v 0 5)).toNatClampNeg)) 2 g1.2.1) 3 g3.2.1) 5 g3.2.2.1) 6 g3.2.2.2)) 61) (fun g4 e4 => ?_)
                  rw [e4] at h4 ⊢
                  try dsimp only
                  by_cases t4 : g4.1 = 0
                  · rw [if_pos t4]; exact h4
                  · rw [if_neg t4]
                    have h5 : pOK (v 0 0) (mX3_passThird (rset v 0 (upd (upd (upd (upd (upd (v 0) 1 ((v 1) ((v 0 5)).toNatClampNeg)) 2 g1.2.1) 3 g3.2.1) 5 g4.2) 6 g3.2.2.2))).2.2.1 := passThird_ok (v := (rset v 0 (upd (upd (upd (upd (upd (v 0) 1 ((v 1) ((v 0 5)).toNatClampNeg)) 2 g1.2.1) 3 g3.2.1) 5 g4.2) 6 g3.2.2.2))) h4
                    refine kGen (mX3_passThird (rset v 0 (upd (upd (upd (upd (upd (v 0) 1 ((v 1) ((v 0 5)).toNatClampNeg)) 2 g1.2.1) 3 g3.2.1) 5 g4.2) 6 g3.2.2.2))) (fun g5 e5 => ?_)
                    rw [e5] at h5 ⊢
                    try dsimp only
                    by_cases t5 : g5.1 = 0
                    · rw [if_pos t5]; exact h5
                    · rw [if_neg t5]
                      exact h5
          · rw [if_neg k3]
            by_cases k4 : ((v 1) ((v 0 5)).toNatClampNeg) = 120
            · rw [if_pos k4]
              have h1 : pOK (v 0 0) (mX3_passFirst (rset v 0 (upd (upd (v 0) 1 ((v 1) ((v 0 5)).toNatClampNeg)) 5 ((v 0 5) + 1)))).2.2.1 := passFirst_ok (v := (rset v 0 (upd (upd (v 0) 1 ((v 1) ((v 0 5)).toNatClampNeg)) 5 ((v 0 5) + 1)))) hn
              refine kGen (mX3_passFirst (rset v 0 (upd (upd (v 0) 1 ((v 1) ((v 0 5)).toNatClampNeg)) 5 ((v 0 5) + 1)))) (fun g1 e1 => ?_)
              rw [e1] at h1 ⊢
              try dsimp only
              exact h1
            · rw [if_neg k4]
              exact h
