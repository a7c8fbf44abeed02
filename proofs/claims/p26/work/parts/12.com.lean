def mX0_isLaterWriter_L9 (v : kG) (x2 : Int32) : Nat → Nat → (Int32)
  | 0, _ => 0
  | n9 + 1, i9 =>
    if (v 0 2) ≤ (nI i9) then
      0
    else
      if ((v 1) ((nI i9)).toNatClampNeg) = 1 then
        if ((v 3) ((nI i9)).toNatClampNeg) ≤ ((v 2) (x2).toNatClampNeg) then
          mX0_isLaterWriter_L9 v x2 n9 (i9 + 1)
        else
          if (((v 5) ((nI i9)).toNatClampNeg) &&& ((v 5) (x2).toNatClampNeg)) = 0 then
            mX0_isLaterWriter_L9 v x2 n9 (i9 + 1)
          else
            1
      else
        mX0_isLaterWriter_L9 v x2 n9 (i9 + 1)
theorem mX0_isLaterWriter_L9_s {v : kG} {x2 : Int32} {n9 : Nat} {i9 : Nat} : mX0_isLaterWriter_L9 v x2 (n9 + 1) i9 = (
    if (v 0 2) ≤ (nI i9) then
      0
    else
      if ((v 1) ((nI i9)).toNatClampNeg) = 1 then
        if ((v 3) ((nI i9)).toNatClampNeg) ≤ ((v 2) (x2).toNatClampNeg) then
          mX0_isLaterWriter_L9 v x2 n9 (i9 + 1)
        else
          if (((v 5) ((nI i9)).toNatClampNeg) &&& ((v 5) (x2).toNatClampNeg)) = 0 then
            mX0_isLaterWriter_L9 v x2 n9 (i9 + 1)
          else
            1
      else
        mX0_isLaterWriter_L9 v x2 n9 (i9 + 1) : Int32) := rfl
def mX0_isLaterWriter (v : kG) (x2 : Int32) : Int32 :=
  mX0_isLaterWriter_L9 v x2 13 0
theorem mX0_isLaterWriter_s {v : kG} {x2 : Int32} : mX0_isLaterWriter v x2 = (
  mX0_isLaterWriter_L9 v x2 13 0 : Int32) := rfl
set_option maxHeartbeats 400000 in
set_option maxRecDepth 100000 in
theorem c_X0_isLaterWriter (l : Launch) (E : kE) (a : Nat → Nat) (v : kG) (x2 : Int32) (hn : nOK (v 0 2)) (ht : tOK x2) (R : Int32) (hE : R = mX0_isLaterWriter v x2) : Met l yX0_isLaterWriter wsX0_isLaterWriter ({ frames := 0, cells := 0, slots := 0, locals := 0 }) (kPre E [.ref (a 0), .int x2] (wLedx E a (v 0 0) (v 0 1) (v 0 2) (v 1) (v 2) (v 3) (v 4) (v 5) (v 6) (v 7))) (kRi R) 0 0 (fun _ => False) := by
  refine Met.ofW (cc := cX0_isLaterWriter) (maxL := 4) (ret := (some .boolean)) (by decide) rfl ?_
  intro p e s m args below meth c s₁ B hml hv
  obtain ⟨rfl, hK, hP⟩ := hv
  have hx := B.exec
  have hb := B.bytes
  have hr := B.returns
  have hts := atoms_spec (ws := wsX0_isLaterWriter) B.pre
  have hown : s.vm.findClass RX0 = some m.cls := findClass_of_methodNamed B.named
  have hlocks := B.notSynchronized
  have hiX2 : ∀ w ∈ wsX20, w ∈ wsX0_isLaterWriter := by decide +kernel
  have hf19 := hts (.fieldLink RX0 19 "SkewEdges$Ledger" "writtenKeys" "[I") (by decide +kernel)
  have hf25 := hts (.fieldLink RX0 25 "SkewEdges$Ledger" "total" "I") (by decide +kernel)
  have hf29 := hts (.fieldLink RX0 29 "SkewEdges$Ledger" "phase" "[I") (by decide +kernel)
  have hf32 := hts (.fieldLink RX0 32 "SkewEdges$Ledger" "committedAt" "[I") (by decide +kernel)
  have hf35 := hts (.fieldLink RX0 35 "SkewEdges$Ledger" "beganAt" "[I") (by decide +kernel)
  have hP : va_P E.1 vwCl (wLedx E a (v 0 0) (v 0 1) (v 0 2) (v 1) (v 2) (v 3) (v 4) (v 5) (v 6) (v 7)) s.heap := hP
  have hl := lv_entry ([.ref (a 0), .int x2]) (n := 4) (Nat.le_of_ble_eq_true rfl)
  rw [lg_entry_eq]
  generalize (lg_sl ([.ref (a 0), .int x2]) ++ List.replicate (4 - (lg_sl ([.ref (a 0), .int x2])).length) Slot.unset).toArray = ls at hl ⊢
  have hl : lv_has ls 4 [(0, .ref (a 0)), (1, .int x2)] := hl
  replace hE := hE.trans mX0_isLaterWriter_s
  refine lv_aload_n hx hb dX0_isLaterWriter_0 rfl (lv_at hl 0 rfl) ?_
  refine va_get (D := E.1) (ci := 1) (v := .ref (a 5)) (C := RX2) (T := TX2) (N := 10) hx hb hts hiX2 hown hK.1 hP 0 rfl rfl 7 (by decide) hf19 (fun _ h9 => h9) rfl dX0_isLaterWriter_1 ?_
  refine lv_iload_n hx hb dX0_isLaterWriter_4 rfl (lv_at hl 1 rfl) ?_
  refine va_iald (D := E.1) hx hb hK.1 hP 5 0 rfl rfl (tOK.in12 (by assumption)) dX0_isLaterWriter_5 ?_
  refine lv_istore_n (lv' := [(2, .int ((v 5) (x2).toNatClampNeg)), (0, .ref (a 0)), (1, .int x2)]) hx hb dX0_isLaterWriter_6 rfl hl (by decide) rfl (fun ls hl => ?_)
  refine lv_iconst (v := 0) hx hb dX0_isLaterWriter_7 (by decide) ?_
  refine lv_istore_n (lv' := [(3, .int 0), (2, .int ((v 5) (x2).toNatClampNeg)), (0, .ref (a 0)), (1, .int x2)]) hx hb dX0_isLaterWriter_8 rfl hl (by decide) rfl (fun ls hl => ?_)
  have lp9 : ∀ (n9 : Nat) (i9 : Nat), (12 < i9 + n9) → (i9 ≤ 12) → ∀ ls : Array Slot, lv_has ls 4 [(3, .int (nI i9)), (2, .int ((v 5) (x2).toNatClampNeg)), (0, .ref (a 0)), (1, .int x2)] → R = mX0_isLaterWriter_L9 v x2 n9 i9 → W p l e ({ frames := 0, cells := 0, slots := 0, locals := 0 }) s m ([.ref (a 0), .int x2] : List Value).toArray below meth c s.heap [] 0 0 (MQ below (kRi R) ([.ref (a 0), .int x2] : List Value).toArray s 0 0 (fun _ => False)) (F0 m 9 ls []) := by
    clear hE
    intro n9
    induction n9 with
    | zero =>
      intro i9 hm9 hi9 ls hl hE
      exact absurd hm9 (by omega)
    | succ n9 ih9 =>
      intro i9 hm9 hi9 ls hl hE
      replace hE := hE.trans mX0_isLaterWriter_L9_s
      refine lv_iload_n hx hb dX0_isLaterWriter_9 rfl (lv_at hl 0 rfl) ?_
      refine lv_aload_n hx hb dX0_isLaterWriter_10 rfl (lv_at hl 2 rfl) ?_
      refine va_get (D := E.1) (ci := 1) (v := .int (v 0 2)) (C := RX2) (T := TX2) (N := 10) hx hb hts hiX2 hown hK.1 hP 0 rfl rfl 2 (by decide) hf25 (fun _ h9 => h9) rfl dX0_isLaterWriter_11 ?_
      refine lv_icmp_ge (tgt := 61) hx hb dX0_isLaterWriter_14 (by decide) (fun c_1 => ?_) (fun c_1 => ?_)
      · replace hE := hE.trans (if_pos c_1)
        refine lv_iconst (v := 0) hx hb dX0_isLaterWriter_61 (by decide) ?_
        subst R
        exact W.zret (v := 0) (ty := .boolean) hx hb hr rfl (fun t ht hW => ⟨rfl, ht⟩) (fun _ h => by cases h) dX0_isLaterWriter_62
      · replace hE := hE.trans (if_neg c_1)
        have hbc_1 : i9 < 12 := nOK.lt (by assumption) (by omega) c_1
        refine lv_aload_n hx hb dX0_isLaterWriter_17 rfl (lv_at hl 2 rfl) ?_
        refine va_get (D := E.1) (ci := 1) (v := .ref (a 1)) (C := RX2) (T := TX2) (N := 10) hx hb hts hiX2 hown hK.1 hP 0 rfl rfl 3 (by decide) hf29 (fun _ h9 => h9) rfl dX0_isLaterWriter_18 ?_
        refine lv_iload_n hx hb dX0_isLaterWriter_21 rfl (lv_at hl 0 rfl) ?_
        refine va_iald (D := E.1) hx hb hK.1 hP 1 0 rfl rfl (vp_in_nI (by omega) (by omega)) dX0_isLaterWriter_22 ?_
        refine lv_iconst (v := 1) hx hb dX0_isLaterWriter_23 (by decide) ?_
        refine lv_icmp_ne (tgt := 55) hx hb dX0_isLaterWriter_24 (by decide) (fun c_2 => ?_) (fun c_2 => ?_)
        · replace hE := hE.trans (if_neg c_2)
          refine lv_iinc (v := (nI (i9 + 1))) (lv' := [(3, .int (nI (i9 + 1))), (2, .int ((v 5) (x2).toNatClampNeg)), (0, .ref (a 0)), (1, .int x2)]) hx hb dX0_isLaterWriter_55 hl (k := 0) rfl (nI_1 i9) (by decide) rfl (fun ls hl => ?_)
          refine lv_goto (tgt := 9) hx hb dX0_isLaterWriter_58 (by decide) ?_
          exact ih9 (i9 + 1) (by omega) (by omega) ls (lv_sub hl [0, 1, 2, 3] rfl) hE
        · replace hE := hE.trans (if_pos c_2)
          refine lv_aload_n hx hb dX0_isLaterWriter_27 rfl (lv_at hl 2 rfl) ?_
          refine va_get (D := E.1) (ci := 1) (v := .ref (a 3)) (C := RX2) (T := TX2) (N := 10) hx hb hts hiX2 hown hK.1 hP 0 rfl rfl 5 (by decide) hf32 (fun _ h9 => h9) rfl dX0_isLaterWriter_28 ?_
          refine lv_iload_n hx hb dX0_isLaterWriter_31 rfl (lv_at hl 0 rfl) ?_
          refine va_iald (D := E.1) hx hb hK.1 hP 3 0 rfl rfl (vp_in_nI (by omega) (by omega)) dX0_isLaterWriter_32 ?_
          refine lv_aload_n hx hb dX0_isLaterWriter_33 rfl (lv_at hl 2 rfl) ?_
          refine va_get (D := E.1) (ci := 1) (v := .ref (a 2)) (C := RX2) (T := TX2) (N := 10) hx hb hts hiX2 hown hK.1 hP 0 rfl rfl 4 (by decide) hf35 (fun _ h9 => h9) rfl dX0_isLaterWriter_34 ?_
          refine lv_iload_n hx hb dX0_isLaterWriter_37 rfl (lv_at hl 3 rfl) ?_
          refine va_iald (D := E.1) hx hb hK.1 hP 2 0 rfl rfl (tOK.in12 (by assumption)) dX0_isLaterWriter_38 ?_
          refine lv_icmp_le (tgt := 55) hx hb dX0_isLaterWriter_39 (by decide) (fun c_3 => ?_) (fun c_3 => ?_)
          · replace hE := hE.trans (if_pos c_3)
            refine lv_iinc (v := (nI (i9 + 1))) (lv' := [(3, .int (nI (i9 + 1))), (2, .int ((v 5) (x2).toNatClampNeg)), (0, .ref (a 0)), (1, .int x2)]) hx hb dX0_isLaterWriter_55 hl (k := 0) rfl (nI_1 i9) (by decide) rfl (fun ls hl => ?_)
            refine lv_goto (tgt := 9) hx hb dX0_isLaterWriter_58 (by decide) ?_
            exact ih9 (i9 + 1) (by omega) (by omega) ls (lv_sub hl [0, 1, 2, 3] rfl) hE
          · replace hE := hE.trans (if_neg c_3)
            refine lv_aload_n hx hb dX0_isLaterWriter_42 rfl (lv_at hl 2 rfl) ?_
            refine va_get (D := E.1) (ci := 1) (v := .ref (a 5)) (C := RX2) (T := TX2) (N := 10) hx hb hts hiX2 hown hK.1 hP 0 rfl rfl 7 (by decide) hf19 (fun _ h9 => h9) rfl dX0_isLaterWriter_43 ?_
            refine lv_iload_n hx hb dX0_isLaterWriter_46 rfl (lv_at hl 0 rfl) ?_
            refine va_iald (D := E.1) hx hb hK.1 hP 5 0 rfl rfl (vp_in_nI (by omega) (by omega)) dX0_isLaterWriter_47 ?_
            refine lv_iload_n hx hb dX0_isLaterWriter_48 rfl (lv_at hl 1 rfl) ?_
            refine lv_iand hx hb dX0_isLaterWriter_49 ?_
            refine lv_if_eq (tgt := 55) hx hb dX0_isLaterWriter_50 (by decide) (fun c_4 => ?_) (fun c_4 => ?_)
            · replace hE := hE.trans (if_pos c_4)
              refine lv_iinc (v := (nI (i9 + 1))) (lv' := [(3, .int (nI (i9 + 1))), (2, .int ((v 5) (x2).toNatClampNeg)), (0, .ref (a 0)), (1, .int x2)]) hx hb dX0_isLaterWriter_55 hl (k := 0) rfl (nI_1 i9) (by decide) rfl (fun ls hl => ?_)
              refine lv_goto (tgt := 9) hx hb dX0_isLaterWriter_58 (by decide) ?_
              exact ih9 (i9 + 1) (by omega) (by omega) ls (lv_sub hl [0, 1, 2, 3] rfl) hE
            · replace hE := hE.trans (if_neg c_4)
              refine lv_iconst (v := 1) hx hb dX0_isLaterWriter_53 (by decide) ?_
              subst R
              exact W.zret (v := 1) (ty := .boolean) hx hb hr rfl (fun t ht hW => ⟨rfl, ht⟩) (fun _ h => by cases h) dX0_isLaterWriter_54
  exact lp9 13 0 (by omega) (by omega) ls (lv_sub hl [0, 1, 2, 3] rfl) hE
def mX0_counts (v : kG) (x2 : Int32) (x3 : Int32) (x4 : Int32) (x5 : Int32) : Int32 :=
  if x2 = 0 then
    if x2 = 0 then
      1
    else
      0
  else
    if x2 = 3 then
      if x2 = 0 then
        1
      else
        0
    else
      if ((v 1) (x5).toNatClampNeg) = 1 then
        if ((v 1) (x4).toNatClampNeg) = 1 then
          if ((v 3) (x5).toNatClampNeg) ≤ ((v 3) (x4).toNatClampNeg) then
            if ((v 1) (x3).toNatClampNeg) = 1 then
              if ((v 3) (x5).toNatClampNeg) ≤ ((v 3) (x3).toNatClampNeg) then
                if x2 = 1 then
                  1
                else
                  if ((v 5) (x3).toNatClampNeg) = 0 then
                    if ((v 2) (x3).toNatClampNeg) ≤ ((v 3) (x5).toNatClampNeg) then
                      0
                    else
                      1
                  else
                    1
              else
                0
            else
              if x2 = 1 then
                1
              else
                if ((v 5) (x3).toNatClampNeg) = 0 then
                  if ((v 2) (x3).toNatClampNeg) ≤ ((v 3) (x5).toNatClampNeg) then
                    0
                  else
                    1
                else
                  1
          else
            0
        else
          if ((v 1) (x3).toNatClampNeg) = 1 then
            if ((v 3) (x5).toNatClampNeg) ≤ ((v 3) (x3).toNatClampNeg) then
              if x2 = 1 then
                1
              else
                if ((v 5) (x3).toNatClampNeg) = 0 then
                  if ((v 2) (x3).toNatClampNeg) ≤ ((v 3) (x5).toNatClampNeg) then
                    0
                  else
                    1
                else
                  1
            else
              0
          else
            if x2 = 1 then
              1
            else
              if ((v 5) (x3).toNatClampNeg) = 0 then
                if ((v 2) (x3).toNatClampNeg) ≤ ((v 3) (x5).toNatClampNeg) then
                  0
                else
                  1
              else
                1
      else
        0
theorem mX0_counts_s {v : kG} {x2 : Int32} {x3 : Int32} {x4 : Int32} {x5 : Int32} : mX0_counts v x2 x3 x4 x5 = (
  if x2 = 0 then
    if x2 = 0 then
      1
    else
      0
  else
    if x2 = 3 then
      if x2 = 0 then
        1
      else
        0
    else
      if ((v 1) (x5).toNatClampNeg) = 1 then
        if ((v 1) (x4).toNatClampNeg) = 1 then
          if ((v 3) (x5).toNatClampNeg) ≤ ((v 3) (x4).toNatClampNeg) then
            if ((v 1) (x3).toNatClampNeg) = 1 then
              if ((v 3) (x5).toNatClampNeg) ≤ ((v 3) (x3).toNatClampNeg) then
                if x2 = 1 then
                  1
                else
                  if ((v 5) (x3).toNatClampNeg) = 0 then
                    if ((v 2) (x3).toNatClampNeg) ≤ ((v 3) (x5).toNatClampNeg) then
                      0
                    else
                      1
                  else
                    1
              else
                0
            else
              if x2 = 1 then
                1
              else
                if ((v 5) (x3).toNatClampNeg) = 0 then
                  if ((v 2) (x3).toNatClampNeg) ≤ ((v 3) (x5).toNatClampNeg) then
                    0
                  else
                    1
                else
                  1
          else
            0
        else
          if ((v 1) (x3).toNatClampNeg) = 1 then
            if ((v 3) (x5).toNatClampNeg) ≤ ((v 3) (x3).toNatClampNeg) then
              if x2 = 1 then
                1
              else
                if ((v 5) (x3).toNatClampNeg) = 0 then
                  if ((v 2) (x3).toNatClampNeg) ≤ ((v 3) (x5).toNatClampNeg) then
                    0
                  else
                    1
                else
                  1
            else
              0
          else
            if x2 = 1 then
              1
            else
              if ((v 5) (x3).toNatClampNeg) = 0 then
                if ((v 2) (x3).toNatClampNeg) ≤ ((v 3) (x5).toNatClampNeg) then
                  0
                else
                  1
              else
                1
      else
        0 : Int32) := rfl
set_option maxHeartbeats 400000 in
set_option maxRecDepth 100000 in
theorem c_X0_counts (l : Launch) (E : kE) (a : Nat → Nat) (v : kG) (x2 : Int32) (x3 : Int32) (x4 : Int32) (x5 : Int32) (ha : tOK x3) (hp : tOK x4) (hc : tOK x5) (R : Int32) (hE : R = mX0_counts v x2 x3 x4 x5) : Met l yX0_counts wsX0_counts ({ frames := 0, cells := 0, slots := 0, locals := 0 }) (kPre E [.ref (a 0), .int x2, .int x3, .int x4, .int x5] (wLedx E a (v 0 0) (v 0 1) (v 0 2) (v 1) (v 2) (v 3) (v 4) (v 5) (v 6) (v 7))) (kRi R) 0 0 (fun _ => False) := by
  refine Met.ofW (cc := cX0_counts) (maxL := 6) (ret := (some .boolean)) (by decide) rfl ?_
  intro p e s m args below meth c s₁ B hml hv
  obtain ⟨rfl, hK, hP⟩ := hv
  have hx := B.exec
  have hb := B.bytes
  have hr := B.returns
  have hts := atoms_spec (ws := wsX0_counts) B.pre
  have hown : s.vm.findClass RX0 = some m.cls := findClass_of_methodNamed B.named
  have hlocks := B.notSynchronized
  have hiX2 : ∀ w ∈ wsX20, w ∈ wsX0_counts := by decide +kernel
  have hf19 := hts (.fieldLink RX0 19 "SkewEdges$Ledger" "writtenKeys" "[I") (by decide +kernel)
  have hf29 := hts (.fieldLink RX0 29 "SkewEdges$Ledger" "phase" "[I") (by decide +kernel)
  have hf32 := hts (.fieldLink RX0 32 "SkewEdges$Ledger" "committedAt" "[I") (by decide +kernel)
  have hf35 := hts (.fieldLink RX0 35 "SkewEdges$Ledger" "beganAt" "[I") (by decide +kernel)
  have hP : va_P E.1 vwCl (wLedx E a (v 0 0) (v 0 1) (v 0 2) (v 1) (v 2) (v 3) (v 4) (v 5) (v 6) (v 7)) s.heap := hP
  have hl := lv_entry ([.ref (a 0), .int x2, .int x3, .int x4, .int x5]) (n := 6) (Nat.le_of_ble_eq_true rfl)
  rw [lg_entry_eq]
  generalize (lg_sl ([.ref (a 0), .int x2, .int x3, .int x4, .int x5]) ++ List.replicate (6 - (lg_sl ([.ref (a 0), .int x2, .int x3, .int x4, .int x5])).length) Slot.unset).toArray = ls at hl ⊢
  have hl : lv_has ls 6 [(0, .ref (a 0)), (1, .int x2), (2, .int x3), (3, .int x4), (4, .int x5)] := hl
  replace hE := hE.trans mX0_counts_s
  refine lv_iload_n hx hb dX0_counts_0 rfl (lv_at hl 1 rfl) ?_
  refine lv_if_eq (tgt := 9) hx hb dX0_counts_1 (by decide) (fun c_1 => ?_) (fun c_1 => ?_)
  · replace hE := hE.trans (if_pos c_1)
    refine lv_iload_n hx hb dX0_counts_9 rfl (lv_at hl 1 rfl) ?_
    refine lv_if_ne (tgt := 17) hx hb dX0_counts_10 (by decide) (fun c_2 => ?_) (fun c_2 => ?_)
    · replace hE := hE.trans (if_neg c_2)
      refine lv_iconst (v := 0) hx hb dX0_counts_17 (by decide) ?_
      subst R
      exact W.zret (v := 0) (ty := .boolean) hx hb hr rfl (fun t ht hW => ⟨rfl, ht⟩) (fun _ h => by cases h) dX0_counts_18
    · replace hE := hE.trans (if_pos c_2)
      refine lv_iconst (v := 1) hx hb dX0_counts_13 (by decide) ?_
      refine lv_goto (tgt := 18) hx hb dX0_counts_14 (by decide) ?_
      subst R
      exact W.zret (v := 1) (ty := .boolean) hx hb hr rfl (fun t ht hW => ⟨rfl, ht⟩) (fun _ h => by cases h) dX0_counts_18
  · replace hE := hE.trans (if_neg c_1)
    refine lv_iload_n hx hb dX0_counts_4 rfl (lv_at hl 1 rfl) ?_
    refine lv_iconst (v := 3) hx hb dX0_counts_5 (by decide) ?_
    refine lv_icmp_ne (tgt := 19) hx hb dX0_counts_6 (by decide) (fun c_3 => ?_) (fun c_3 => ?_)
    · replace hE := hE.trans (if_neg c_3)
      refine lv_aload_n hx hb dX0_counts_19 rfl (lv_at hl 0 rfl) ?_
      refine va_get (D := E.1) (ci := 1) (v := .ref (a 1)) (C := RX2) (T := TX2) (N := 10) hx hb hts hiX2 hown hK.1 hP 0 rfl rfl 3 (by decide) hf29 (fun _ h9 => h9) rfl dX0_counts_20 ?_
      refine lv_iload hx hb dX0_counts_23 (lv_at hl 4 rfl) ?_
      refine va_iald (D := E.1) hx hb hK.1 hP 1 0 rfl rfl (tOK.in12 (by assumption)) dX0_counts_25 ?_
      refine lv_iconst (v := 1) hx hb dX0_counts_26 (by decide) ?_
      refine lv_icmp_eq (tgt := 32) hx hb dX0_counts_27 (by decide) (fun c_4 => ?_) (fun c_4 => ?_)
      · replace hE := hE.trans (if_pos c_4)
        refine lv_aload_n hx hb dX0_counts_32 rfl (lv_at hl 0 rfl) ?_
        refine va_get (D := E.1) (ci := 1) (v := .ref (a 3)) (C := RX2) (T := TX2) (N := 10) hx hb hts hiX2 hown hK.1 hP 0 rfl rfl 5 (by decide) hf32 (fun _ h9 => h9) rfl dX0_counts_33 ?_
        refine lv_iload hx hb dX0_counts_36 (lv_at hl 4 rfl) ?_
        refine va_iald (D := E.1) hx hb hK.1 hP 3 0 rfl rfl (tOK.in12 (by assumption)) dX0_counts_38 ?_
        refine lv_istore (lv' := [(5, .int ((v 3) (x5).toNatClampNeg)), (0, .ref (a 0)), (1, .int x2), (2, .int x3), (3, .int x4), (4, .int x5)]) hx hb dX0_counts_39 hl (by decide) rfl (fun ls hl => ?_)
        refine lv_aload_n hx hb dX0_counts_41 rfl (lv_at hl 1 rfl) ?_
        refine va_get (D := E.1) (ci := 1) (v := .ref (a 1)) (C := RX2) (T := TX2) (N := 10) hx hb hts hiX2 hown hK.1 hP 0 rfl rfl 3 (by decide) hf29 (fun _ h9 => h9) rfl dX0_counts_42 ?_
        refine lv_iload_n hx hb dX0_counts_45 rfl (lv_at hl 4 rfl) ?_
        refine va_iald (D := E.1) hx hb hK.1 hP 1 0 rfl rfl (tOK.in12 (by assumption)) dX0_counts_46 ?_
        refine lv_iconst (v := 1) hx hb dX0_counts_47 (by decide) ?_
        refine lv_icmp_ne (tgt := 64) hx hb dX0_counts_48 (by decide) (fun c_5 => ?_) (fun c_5 => ?_)
        · replace hE := hE.trans (if_neg c_5)
          refine lv_aload_n hx hb dX0_counts_64 rfl (lv_at hl 1 rfl) ?_
          refine va_get (D := E.1) (ci := 1) (v := .ref (a 1)) (C := RX2) (T := TX2) (N := 10) hx hb hts hiX2 hown hK.1 hP 0 rfl rfl 3 (by decide) hf29 (fun _ h9 => h9) rfl dX0_counts_65 ?_
          refine lv_iload_n hx hb dX0_counts_68 rfl (lv_at hl 3 rfl) ?_
          refine va_iald (D := E.1) hx hb hK.1 hP 1 0 rfl rfl (tOK.in12 (by assumption)) dX0_counts_69 ?_
          refine lv_iconst (v := 1) hx hb dX0_counts_70 (by decide) ?_
          refine lv_icmp_ne (tgt := 87) hx hb dX0_counts_71 (by decide) (fun c_6 => ?_) (fun c_6 => ?_)
          · replace hE := hE.trans (if_neg c_6)
            refine lv_iload_n hx hb dX0_counts_87 rfl (lv_at hl 2 rfl) ?_
            refine lv_iconst (v := 1) hx hb dX0_counts_88 (by decide) ?_
            refine lv_icmp_eq (tgt := 112) hx hb dX0_counts_89 (by decide) (fun c_7 => ?_) (fun c_7 => ?_)
            · replace hE := hE.trans (if_pos c_7)
              refine lv_iconst (v := 1) hx hb dX0_counts_112 (by decide) ?_
              refine lv_goto (tgt := 117) hx hb dX0_counts_113 (by decide) ?_
              subst R
              exact W.zret (v := 1) (ty := .boolean) hx hb hr rfl (fun t ht hW => ⟨rfl, ht⟩) (fun _ h => by cases h) dX0_counts_117
            · replace hE := hE.trans (if_neg c_7)
              refine lv_aload_n hx hb dX0_counts_92 rfl (lv_at hl 1 rfl) ?_
              refine va_get (D := E.1) (ci := 1) (v := .ref (a 5)) (C := RX2) (T := TX2) (N := 10) hx hb hts hiX2 hown hK.1 hP 0 rfl rfl 7 (by decide) hf19 (fun _ h9 => h9) rfl dX0_counts_93 ?_
              refine lv_iload_n hx hb dX0_counts_96 rfl (lv_at hl 3 rfl) ?_
              refine va_iald (D := E.1) hx hb hK.1 hP 5 0 rfl rfl (tOK.in12 (by assumption)) dX0_counts_97 ?_
              refine lv_if_ne (tgt := 112) hx hb dX0_counts_98 (by decide) (fun c_8 => ?_) (fun c_8 => ?_)
              · replace hE := hE.trans (if_neg c_8)
                refine lv_iconst (v := 1) hx hb dX0_counts_112 (by decide) ?_
                refine lv_goto (tgt := 117) hx hb dX0_counts_113 (by decide) ?_
                subst R
                exact W.zret (v := 1) (ty := .boolean) hx hb hr rfl (fun t ht hW => ⟨rfl, ht⟩) (fun _ h => by cases h) dX0_counts_117
              · replace hE := hE.trans (if_pos c_8)
                refine lv_iload hx hb dX0_counts_101 (lv_at hl 0 rfl) ?_
                refine lv_aload_n hx hb dX0_counts_103 rfl (lv_at hl 1 rfl) ?_
                refine va_get (D := E.1) (ci := 1) (v := .ref (a 2)) (C := RX2) (T := TX2) (N := 10) hx hb hts hiX2 hown hK.1 hP 0 rfl rfl 4 (by decide) hf35 (fun _ h9 => h9) rfl dX0_counts_104 ?_
                refine lv_iload_n hx hb dX0_counts_107 rfl (lv_at hl 3 rfl) ?_
                refine va_iald (D := E.1) hx hb hK.1 hP 2 0 rfl rfl (tOK.in12 (by assumption)) dX0_counts_108 ?_
                refine lv_icmp_ge (tgt := 116) hx hb dX0_counts_109 (by decide) (fun c_9 => ?_) (fun c_9 => ?_)
                · replace hE := hE.trans (if_pos c_9)
                  refine lv_iconst (v := 0) hx hb dX0_counts_116 (by decide) ?_
                  subst R
                  exact W.zret (v := 0) (ty := .boolean) hx hb hr rfl (fun t ht hW => ⟨rfl, ht⟩) (fun _ h => by cases h) dX0_counts_117
                · replace hE := hE.trans (if_neg c_9)
                  refine lv_iconst (v := 1) hx hb dX0_counts_112 (by decide) ?_
                  refine lv_goto (tgt := 117) hx hb dX0_counts_113 (by decide) ?_
                  subst R
                  exact W.zret (v := 1) (ty := .boolean) hx hb hr rfl (fun t ht hW => ⟨rfl, ht⟩) (fun _ h => by cases h) dX0_counts_117
          · replace hE := hE.trans (if_pos c_6)
            refine lv_aload_n hx hb dX0_counts_74 rfl (lv_at hl 1 rfl) ?_
            refine va_get (D := E.1) (ci := 1) (v := .ref (a 3)) (C := RX2) (T := TX2) (N := 10) hx hb hts hiX2 hown hK.1 hP 0 rfl rfl 5 (by decide) hf32 (fun _ h9 => h9) rfl dX0_counts_75 ?_
            refine lv_iload_n hx hb dX0_counts_78 rfl (lv_at hl 3 rfl) ?_
            refine va_iald (D := E.1) hx hb hK.1 hP 3 0 rfl rfl (tOK.in12 (by assumption)) dX0_counts_79 ?_
            refine lv_iload hx hb dX0_counts_80 (lv_at hl 0 rfl) ?_
            refine lv_icmp_ge (tgt := 87) hx hb dX0_counts_82 (by decide) (fun c_10 => ?_) (fun c_10 => ?_)
            · replace hE := hE.trans (if_pos c_10)
              refine lv_iload_n hx hb dX0_counts_87 rfl (lv_at hl 2 rfl) ?_
              refine lv_iconst (v := 1) hx hb dX0_counts_88 (by decide) ?_
              refine lv_icmp_eq (tgt := 112) hx hb dX0_counts_89 (by decide) (fun c_11 => ?_) (fun c_11 => ?_)
              · replace hE := hE.trans (if_pos c_11)
                refine lv_iconst (v := 1) hx hb dX0_counts_112 (by decide) ?_
                refine lv_goto (tgt := 117) hx hb dX0_counts_113 (by decide) ?_
                subst R
                exact W.zret (v := 1) (ty := .boolean) hx hb hr rfl (fun t ht hW => ⟨rfl, ht⟩) (fun _ h => by cases h) dX0_counts_117
              · replace hE := hE.trans (if_neg c_11)
                refine lv_aload_n hx hb dX0_counts_92 rfl (lv_at hl 1 rfl) ?_
                refine va_get (D := E.1) (ci := 1) (v := .ref (a 5)) (C := RX2) (T := TX2) (N := 10) hx hb hts hiX2 hown hK.1 hP 0 rfl rfl 7 (by decide) hf19 (fun _ h9 => h9) rfl dX0_counts_93 ?_
                refine lv_iload_n hx hb dX0_counts_96 rfl (lv_at hl 3 rfl) ?_
                refine va_iald (D := E.1) hx hb hK.1 hP 5 0 rfl rfl (tOK.in12 (by assumption)) dX0_counts_97 ?_
                refine lv_if_ne (tgt := 112) hx hb dX0_counts_98 (by decide) (fun c_12 => ?_) (fun c_12 => ?_)
                · replace hE := hE.trans (if_neg c_12)
                  refine lv_iconst (v := 1) hx hb dX0_counts_112 (by decide) ?_
                  refine lv_goto (tgt := 117) hx hb dX0_counts_113 (by decide) ?_
                  subst R
                  exact W.zret (v := 1) (ty := .boolean) hx hb hr rfl (fun t ht hW => ⟨rfl, ht⟩) (fun _ h => by cases h) dX0_counts_117
                · replace hE := hE.trans (if_pos c_12)
                  refine lv_iload hx hb dX0_counts_101 (lv_at hl 0 rfl) ?_
                  refine lv_aload_n hx hb dX0_counts_103 rfl (lv_at hl 1 rfl) ?_
                  refine va_get (D := E.1) (ci := 1) (v := .ref (a 2)) (C := RX2) (T := TX2) (N := 10) hx hb hts hiX2 hown hK.1 hP 0 rfl rfl 4 (by decide) hf35 (fun _ h9 => h9) rfl dX0_counts_104 ?_
                  refine lv_iload_n hx hb dX0_counts_107 rfl (lv_at hl 3 rfl) ?_
                  refine va_iald (D := E.1) hx hb hK.1 hP 2 0 rfl rfl (tOK.in12 (by assumption)) dX0_counts_108 ?_
                  refine lv_icmp_ge (tgt := 116) hx hb dX0_counts_109 (by decide) (fun c_13 => ?_) (fun c_13 => ?_)
                  · replace hE := hE.trans (if_pos c_13)
                    refine lv_iconst (v := 0) hx hb dX0_counts_116 (by decide) ?_
                    subst R
                    exact W.zret (v := 0) (ty := .boolean) hx hb hr rfl (fun t ht hW => ⟨rfl, ht⟩) (fun _ h => by cases h) dX0_counts_117
                  · replace hE := hE.trans (if_neg c_13)
                    refine lv_iconst (v := 1) hx hb dX0_counts_112 (by decide) ?_
                    refine lv_goto (tgt := 117) hx hb dX0_counts_113 (by decide) ?_
                    subst R
                    exact W.zret (v := 1) (ty := .boolean) hx hb hr rfl (fun t ht hW => ⟨rfl, ht⟩) (fun _ h => by cases h) dX0_counts_117
            · replace hE := hE.trans (if_neg c_10)
              refine lv_iconst (v := 0) hx hb dX0_counts_85 (by decide) ?_
              subst R
              exact W.zret (v := 0) (ty := .boolean) hx hb hr rfl (fun t ht hW => ⟨rfl, ht⟩) (fun _ h => by cases h) dX0_counts_86
        · replace hE := hE.trans (if_pos c_5)
          refine lv_aload_n hx hb dX0_counts_51 rfl (lv_at hl 1 rfl) ?_
          refine va_get (D := E.1) (ci := 1) (v := .ref (a 3)) (C := RX2) (T := TX2) (N := 10) hx hb hts hiX2 hown hK.1 hP 0 rfl rfl 5 (by decide) hf32 (fun _ h9 => h9) rfl dX0_counts_52 ?_
          refine lv_iload_n hx hb dX0_counts_55 rfl (lv_at hl 4 rfl) ?_
          refine va_iald (D := E.1) hx hb hK.1 hP 3 0 rfl rfl (tOK.in12 (by assumption)) dX0_counts_56 ?_
          refine lv_iload hx hb dX0_counts_57 (lv_at hl 0 rfl) ?_
          refine lv_icmp_ge (tgt := 64) hx hb dX0_counts_59 (by decide) (fun c_14 => ?_) (fun c_14 => ?_)
          · replace hE := hE.trans (if_pos c_14)
            refine lv_aload_n hx hb dX0_counts_64 rfl (lv_at hl 1 rfl) ?_
            refine va_get (D := E.1) (ci := 1) (v := .ref (a 1)) (C := RX2) (T := TX2) (N := 10) hx hb hts hiX2 hown hK.1 hP 0 rfl rfl 3 (by decide) hf29 (fun _ h9 => h9) rfl dX0_counts_65 ?_
            refine lv_iload_n hx hb dX0_counts_68 rfl (lv_at hl 3 rfl) ?_
            refine va_iald (D := E.1) hx hb hK.1 hP 1 0 rfl rfl (tOK.in12 (by assumption)) dX0_counts_69 ?_
            refine lv_iconst (v := 1) hx hb dX0_counts_70 (by decide) ?_
            refine lv_icmp_ne (tgt := 87) hx hb dX0_counts_71 (by decide) (fun c_15 => ?_) (fun c_15 => ?_)
            · replace hE := hE.trans (if_neg c_15)
              refine lv_iload_n hx hb dX0_counts_87 rfl (lv_at hl 2 rfl) ?_
              refine lv_iconst (v := 1) hx hb dX0_counts_88 (by decide) ?_
              refine lv_icmp_eq (tgt := 112) hx hb dX0_counts_89 (by decide) (fun c_16 => ?_) (fun c_16 => ?_)
              · replace hE := hE.trans (if_pos c_16)
                refine lv_iconst (v := 1) hx hb dX0_counts_112 (by decide) ?_
                refine lv_goto (tgt := 117) hx hb dX0_counts_113 (by decide) ?_
                subst R
                exact W.zret (v := 1) (ty := .boolean) hx hb hr rfl (fun t ht hW => ⟨rfl, ht⟩) (fun _ h => by cases h) dX0_counts_117
              · replace hE := hE.trans (if_neg c_16)
                refine lv_aload_n hx hb dX0_counts_92 rfl (lv_at hl 1 rfl) ?_
                refine va_get (D := E.1) (ci := 1) (v := .ref (a 5)) (C := RX2) (T := TX2) (N := 10) hx hb hts hiX2 hown hK.1 hP 0 rfl rfl 7 (by decide) hf19 (fun _ h9 => h9) rfl dX0_counts_93 ?_
                refine lv_iload_n hx hb dX0_counts_96 rfl (lv_at hl 3 rfl) ?_
                refine va_iald (D := E.1) hx hb hK.1 hP 5 0 rfl rfl (tOK.in12 (by assumption)) dX0_counts_97 ?_
                refine lv_if_ne (tgt := 112) hx hb dX0_counts_98 (by decide) (fun c_17 => ?_) (fun c_17 => ?_)
                · replace hE := hE.trans (if_neg c_17)
                  refine lv_iconst (v := 1) hx hb dX0_counts_112 (by decide) ?_
                  refine lv_goto (tgt := 117) hx hb dX0_counts_113 (by decide) ?_
                  subst R
                  exact W.zret (v := 1) (ty := .boolean) hx hb hr rfl (fun t ht hW => ⟨rfl, ht⟩) (fun _ h => by cases h) dX0_counts_117
                · replace hE := hE.trans (if_pos c_17)
                  refine lv_iload hx hb dX0_counts_101 (lv_at hl 0 rfl) ?_
                  refine lv_aload_n hx hb dX0_counts_103 rfl (lv_at hl 1 rfl) ?_
                  refine va_get (D := E.1) (ci := 1) (v := .ref (a 2)) (C := RX2) (T := TX2) (N := 10) hx hb hts hiX2 hown hK.1 hP 0 rfl rfl 4 (by decide) hf35 (fun _ h9 => h9) rfl dX0_counts_104 ?_
                  refine lv_iload_n hx hb dX0_counts_107 rfl (lv_at hl 3 rfl) ?_
                  refine va_iald (D := E.1) hx hb hK.1 hP 2 0 rfl rfl (tOK.in12 (by assumption)) dX0_counts_108 ?_
                  refine lv_icmp_ge (tgt := 116) hx hb dX0_counts_109 (by decide) (fun c_18 => ?_) (fun c_18 => ?_)
                  · replace hE := hE.trans (if_pos c_18)
                    refine lv_iconst (v := 0) hx hb dX0_counts_116 (by decide) ?_
                    subst R
                    exact W.zret (v := 0) (ty := .boolean) hx hb hr rfl (fun t ht hW => ⟨rfl, ht⟩) (fun _ h => by cases h) dX0_counts_117
                  · replace hE := hE.trans (if_neg c_18)
                    refine lv_iconst (v := 1) hx hb dX0_counts_112 (by decide) ?_
                    refine lv_goto (tgt := 117) hx hb dX0_counts_113 (by decide) ?_
                    subst R
                    exact W.zret (v := 1) (ty := .boolean) hx hb hr rfl (fun t ht hW => ⟨rfl, ht⟩) (fun _ h => by cases h) dX0_counts_117
            · replace hE := hE.trans (if_pos c_15)
              refine lv_aload_n hx hb dX0_counts_74 rfl (lv_at hl 1 rfl) ?_
              refine va_get (D := E.1) (ci := 1) (v := .ref (a 3)) (C := RX2) (T := TX2) (N := 10) hx hb hts hiX2 hown hK.1 hP 0 rfl rfl 5 (by decide) hf32 (fun _ h9 => h9) rfl dX0_counts_75 ?_
              refine lv_iload_n hx hb dX0_counts_78 rfl (lv_at hl 3 rfl) ?_
              refine va_iald (D := E.1) hx hb hK.1 hP 3 0 rfl rfl (tOK.in12 (by assumption)) dX0_counts_79 ?_
              refine lv_iload hx hb dX0_counts_80 (lv_at hl 0 rfl) ?_
              refine lv_icmp_ge (tgt := 87) hx hb dX0_counts_82 (by decide) (fun c_19 => ?_) (fun c_19 => ?_)
              · replace hE := hE.trans (if_pos c_19)
                refine lv_iload_n hx hb dX0_counts_87 rfl (lv_at hl 2 rfl) ?_
                refine lv_iconst (v := 1) hx hb dX0_counts_88 (by decide) ?_
                refine lv_icmp_eq (tgt := 112) hx hb dX0_counts_89 (by decide) (fun c_20 => ?_) (fun c_20 => ?_)
                · replace hE := hE.trans (if_pos c_20)
                  refine lv_iconst (v := 1) hx hb dX0_counts_112 (by decide) ?_
                  refine lv_goto (tgt := 117) hx hb dX0_counts_113 (by decide) ?_
                  subst R
                  exact W.zret (v := 1) (ty := .boolean) hx hb hr rfl (fun t ht hW => ⟨rfl, ht⟩) (fun _ h => by cases h) dX0_counts_117
                · replace hE := hE.trans (if_neg c_20)
                  refine lv_aload_n hx hb dX0_counts_92 rfl (lv_at hl 1 rfl) ?_
                  refine va_get (D := E.1) (ci := 1) (v := .ref (a 5)) (C := RX2) (T := TX2) (N := 10) hx hb hts hiX2 hown hK.1 hP 0 rfl rfl 7 (by decide) hf19 (fun _ h9 => h9) rfl dX0_counts_93 ?_
                  refine lv_iload_n hx hb dX0_counts_96 rfl (lv_at hl 3 rfl) ?_
                  refine va_iald (D := E.1) hx hb hK.1 hP 5 0 rfl rfl (tOK.in12 (by assumption)) dX0_counts_97 ?_
                  refine lv_if_ne (tgt := 112) hx hb dX0_counts_98 (by decide) (fun c_21 => ?_) (fun c_21 => ?_)
                  · replace hE := hE.trans (if_neg c_21)
                    refine lv_iconst (v := 1) hx hb dX0_counts_112 (by decide) ?_
                    refine lv_goto (tgt := 117) hx hb dX0_counts_113 (by decide) ?_
                    subst R
                    exact W.zret (v := 1) (ty := .boolean) hx hb hr rfl (fun t ht hW => ⟨rfl, ht⟩) (fun _ h => by cases h) dX0_counts_117
                  · replace hE := hE.trans (if_pos c_21)
                    refine lv_iload hx hb dX0_counts_101 (lv_at hl 0 rfl) ?_
                    refine lv_aload_n hx hb dX0_counts_103 rfl (lv_at hl 1 rfl) ?_
                    refine va_get (D := E.1) (ci := 1) (v := .ref (a 2)) (C := RX2) (T := TX2) (N := 10) hx hb hts hiX2 hown hK.1 hP 0 rfl rfl 4 (by decide) hf35 (fun _ h9 => h9) rfl dX0_counts_104 ?_
                    refine lv_iload_n hx hb dX0_counts_107 rfl (lv_at hl 3 rfl) ?_
                    refine va_iald (D := E.1) hx hb hK.1 hP 2 0 rfl rfl (tOK.in12 (by assumption)) dX0_counts_108 ?_
                    refine lv_icmp_ge (tgt := 116) hx hb dX0_counts_109 (by decide) (fun c_22 => ?_) (fun c_22 => ?_)
                    · replace hE := hE.trans (if_pos c_22)
                      refine lv_iconst (v := 0) hx hb dX0_counts_116 (by decide) ?_
                      subst R
                      exact W.zret (v := 0) (ty := .boolean) hx hb hr rfl (fun t ht hW => ⟨rfl, ht⟩) (fun _ h => by cases h) dX0_counts_117
                    · replace hE := hE.trans (if_neg c_22)
                      refine lv_iconst (v := 1) hx hb dX0_counts_112 (by decide) ?_
                      refine lv_goto (tgt := 117) hx hb dX0_counts_113 (by decide) ?_
                      subst R
                      exact W.zret (v := 1) (ty := .boolean) hx hb hr rfl (fun t ht hW => ⟨rfl, ht⟩) (fun _ h => by cases h) dX0_counts_117
              · replace hE := hE.trans (if_neg c_19)
                refine lv_iconst (v := 0) hx hb dX0_counts_85 (by decide) ?_
                subst R
                exact W.zret (v := 0) (ty := .boolean) hx hb hr rfl (fun t ht hW => ⟨rfl, ht⟩) (fun _ h => by cases h) dX0_counts_86
          · replace hE := hE.trans (if_neg c_14)
            refine lv_iconst (v := 0) hx hb dX0_counts_62 (by decide) ?_
            subst R
            exact W.zret (v := 0) (ty := .boolean) hx hb hr rfl (fun t ht hW => ⟨rfl, ht⟩) (fun _ h => by cases h) dX0_counts_63
      · replace hE := hE.trans (if_neg c_4)
        refine lv_iconst (v := 0) hx hb dX0_counts_30 (by decide) ?_
        subst R
        exact W.zret (v := 0) (ty := .boolean) hx hb hr rfl (fun t ht hW => ⟨rfl, ht⟩) (fun _ h => by cases h) dX0_counts_31
    · replace hE := hE.trans (if_pos c_3)
      refine lv_iload_n hx hb dX0_counts_9 rfl (lv_at hl 1 rfl) ?_
      refine lv_if_ne (tgt := 17) hx hb dX0_counts_10 (by decide) (fun c_23 => ?_) (fun c_23 => ?_)
      · replace hE := hE.trans (if_neg c_23)
        refine lv_iconst (v := 0) hx hb dX0_counts_17 (by decide) ?_
        subst R
        exact W.zret (v := 0) (ty := .boolean) hx hb hr rfl (fun t ht hW => ⟨rfl, ht⟩) (fun _ h => by cases h) dX0_counts_18
      · replace hE := hE.trans (if_pos c_23)
        refine lv_iconst (v := 1) hx hb dX0_counts_13 (by decide) ?_
        refine lv_goto (tgt := 18) hx hb dX0_counts_14 (by decide) ?_
        subst R
        exact W.zret (v := 1) (ty := .boolean) hx hb hr rfl (fun t ht hW => ⟨rfl, ht⟩) (fun _ h => by cases h) dX0_counts_18
def mX0_firstOverPivot_K15 (v : kG) (x2 : Int32) (x3 : Int32) (x4 : Int32) (x5 : Int32) (x6 : Int32) (i3 : Nat) (rec : Nat → (Int32)) (i15 : Nat) : Int32 :=
  rec (i3 + 1)
theorem mX0_firstOverPivot_K15_s {v : kG} {x2 : Int32} {x3 : Int32} {x4 : Int32} {x5 : Int32} {x6 : Int32} {i3 : Nat} {rec : Nat → (Int32)} {i15 : Nat} : mX0_firstOverPivot_K15 v x2 x3 x4 x5 x6 i3 rec i15 = (
  rec (i3 + 1) : Int32) := rfl
def mX0_firstOverPivot_L15 (v : kG) (x2 : Int32) (x3 : Int32) (x4 : Int32) (x5 : Int32) (x6 : Int32) (i3 : Nat) (kk : Nat → (Int32)) : Nat → Nat → (Int32)
  | 0, _ => 0
  | n15 + 1, i15 =>
    if (v 0 2) ≤ (nI i15) then
      kk i15
    else
      if (nI i3) = x2 then
        if (mX5_contains x5 (nI i3)) = 0 then
          mX0_firstOverPivot_L15 v x2 x3 x4 x5 x6 i3 kk n15 (i15 + 1)
        else
          if (mX5_contains x6 (nI i15)) = 0 then
            mX0_firstOverPivot_L15 v x2 x3 x4 x5 x6 i3 kk n15 (i15 + 1)
          else
            if (mX0_counts v x3 (nI i3) x4 (nI i15)) = 0 then
              mX0_firstOverPivot_L15 v x2 x3 x4 x5 x6 i3 kk n15 (i15 + 1)
            else
              ((((x4 <<< (4 &&& 31)) ||| (nI i3)) <<< (4 &&& 31)) ||| (nI i15))
      else
        if x4 = x2 then
          if (mX5_contains x5 (nI i3)) = 0 then
            mX0_firstOverPivot_L15 v x2 x3 x4 x5 x6 i3 kk n15 (i15 + 1)
          else
            if (mX5_contains x6 (nI i15)) = 0 then
              mX0_firstOverPivot_L15 v x2 x3 x4 x5 x6 i3 kk n15 (i15 + 1)
            else
              if (mX0_counts v x3 (nI i3) x4 (nI i15)) = 0 then
                mX0_firstOverPivot_L15 v x2 x3 x4 x5 x6 i3 kk n15 (i15 + 1)
              else
                ((((x4 <<< (4 &&& 31)) ||| (nI i3)) <<< (4 &&& 31)) ||| (nI i15))
        else
          if (nI i15) = x2 then
            if (mX5_contains x5 (nI i3)) = 0 then
              mX0_firstOverPivot_L15 v x2 x3 x4 x5 x6 i3 kk n15 (i15 + 1)
            else
              if (mX5_contains x6 (nI i15)) = 0 then
                mX0_firstOverPivot_L15 v x2 x3 x4 x5 x6 i3 kk n15 (i15 + 1)
              else
                if (mX0_counts v x3 (nI i3) x4 (nI i15)) = 0 then
                  mX0_firstOverPivot_L15 v x2 x3 x4 x5 x6 i3 kk n15 (i15 + 1)
                else
                  ((((x4 <<< (4 &&& 31)) ||| (nI i3)) <<< (4 &&& 31)) ||| (nI i15))
          else
            mX0_firstOverPivot_L15 v x2 x3 x4 x5 x6 i3 kk n15 (i15 + 1)
theorem mX0_firstOverPivot_L15_s {v : kG} {x2 : Int32} {x3 : Int32} {x4 : Int32} {x5 : Int32} {x6 : Int32} {i3 : Nat} {kk : Nat → (Int32)} {n15 : Nat} {i15 : Nat} : mX0_firstOverPivot_L15 v x2 x3 x4 x5 x6 i3 kk (n15 + 1) i15 = (
    if (v 0 2) ≤ (nI i15) then
      kk i15
    else
      if (nI i3) = x2 then
        if (mX5_contains x5 (nI i3)) = 0 then
          mX0_firstOverPivot_L15 v x2 x3 x4 x5 x6 i3 kk n15 (i15 + 1)
        else
          if (mX5_contains x6 (nI i15)) = 0 then
            mX0_firstOverPivot_L15 v x2 x3 x4 x5 x6 i3 kk n15 (i15 + 1)
          else
            if (mX0_counts v x3 (nI i3) x4 (nI i15)) = 0 then
              mX0_firstOverPivot_L15 v x2 x3 x4 x5 x6 i3 kk n15 (i15 + 1)
            else
              ((((x4 <<< (4 &&& 31)) ||| (nI i3)) <<< (4 &&& 31)) ||| (nI i15))
      else
        if x4 = x2 then
          if (mX5_contains x5 (nI i3)) = 0 then
            mX0_firstOverPivot_L15 v x2 x3 x4 x5 x6 i3 kk n15 (i15 + 1)
          else
            if (mX5_contains x6 (nI i15)) = 0 then
              mX0_firstOverPivot_L15 v x2 x3 x4 x5 x6 i3 kk n15 (i15 + 1)
            else
              if (mX0_counts v x3 (nI i3) x4 (nI i15)) = 0 then
                mX0_firstOverPivot_L15 v x2 x3 x4 x5 x6 i3 kk n15 (i15 + 1)
              else
                ((((x4 <<< (4 &&& 31)) ||| (nI i3)) <<< (4 &&& 31)) ||| (nI i15))
        else
          if (nI i15) = x2 then
            if (mX5_contains x5 (nI i3)) = 0 then
              mX0_firstOverPivot_L15 v x2 x3 x4 x5 x6 i3 kk n15 (i15 + 1)
            else
              if (mX5_contains x6 (nI i15)) = 0 then
                mX0_firstOverPivot_L15 v x2 x3 x4 x5 x6 i3 kk n15 (i15 + 1)
              else
                if (mX0_counts v x3 (nI i3) x4 (nI i15)) = 0 then
                  mX0_firstOverPivot_L15 v x2 x3 x4 x5 x6 i3 kk n15 (i15 + 1)
                else
                  ((((x4 <<< (4 &&& 31)) ||| (nI i3)) <<< (4 &&& 31)) ||| (nI i15))
          else
            mX0_firstOverPivot_L15 v x2 x3 x4 x5 x6 i3 kk n15 (i15 + 1) : Int32) := rfl
def mX0_firstOverPivot_L3 (v : kG) (x2 : Int32) (x3 : Int32) (x4 : Int32) (x5 : Int32) (x6 : Int32) : Nat → Nat → (Int32)
  | 0, _ => 0
  | n3 + 1, i3 =>
    if (v 0 2) ≤ (nI i3) then
      (-6)
    else
      mX0_firstOverPivot_L15 v x2 x3 x4 x5 x6 i3 (mX0_firstOverPivot_K15 v x2 x3 x4 x5 x6 i3 (mX0_firstOverPivot_L3 v x2 x3 x4 x5 x6 n3)) 13 0
theorem mX0_firstOverPivot_L3_s {v : kG} {x2 : Int32} {x3 : Int32} {x4 : Int32} {x5 : Int32} {x6 : Int32} {n3 : Nat} {i3 : Nat} : mX0_firstOverPivot_L3 v x2 x3 x4 x5 x6 (n3 + 1) i3 = (
    if (v 0 2) ≤ (nI i3) then
      (-6)
    else
      mX0_firstOverPivot_L15 v x2 x3 x4 x5 x6 i3 (mX0_firstOverPivot_K15 v x2 x3 x4 x5 x6 i3 (mX0_firstOverPivot_L3 v x2 x3 x4 x5 x6 n3)) 13 0 : Int32) := rfl
def mX0_firstOverPivot (v : kG) (x2 : Int32) (x3 : Int32) (x4 : Int32) (x5 : Int32) (x6 : Int32) : Int32 :=
  mX0_firstOverPivot_L3 v x2 x3 x4 x5 x6 13 0
theorem mX0_firstOverPivot_s {v : kG} {x2 : Int32} {x3 : Int32} {x4 : Int32} {x5 : Int32} {x6 : Int32} : mX0_firstOverPivot v x2 x3 x4 x5 x6 = (
  mX0_firstOverPivot_L3 v x2 x3 x4 x5 x6 13 0 : Int32) := rfl
set_option maxHeartbeats 400000 in
set_option maxRecDepth 100000 in
theorem c_X0_firstOverPivot (l : Launch) (E : kE) (a : Nat → Nat) (v : kG) (x2 : Int32) (x3 : Int32) (x4 : Int32) (x5 : Int32) (x6 : Int32) (hn : nOK (v 0 2)) (ht : tOK x4) (R : Int32) (hE : R = mX0_firstOverPivot v x2 x3 x4 x5 x6) : Met l yX0_firstOverPivot wsX0_firstOverPivot ({ frames := 1, cells := 0, slots := 0, locals := 25 }) (kPre E [.ref (a 0), .int x2, .int x3, .int x4, .int x5, .int x6] (wLedx E a (v 0 0) (v 0 1) (v 0 2) (v 1) (v 2) (v 3) (v 4) (v 5) (v 6) (v 7))) (kRi R) 0 0 (fun _ => False) := by
  refine Met.ofW (cc := cX0_firstOverPivot) (maxL := 9) (ret := (some .int)) (by decide) rfl ?_
  intro p e s m args below meth c s₁ B hml hv
  obtain ⟨rfl, hK, hP⟩ := hv
  have hx := B.exec
  have hb := B.bytes
  have hr := B.returns
  have hts := atoms_spec (ws := wsX0_firstOverPivot) B.pre
  have hown : s.vm.findClass RX0 = some m.cls := findClass_of_methodNamed B.named
  have hlocks := B.notSynchronized
  have hiX2 : ∀ w ∈ wsX20, w ∈ wsX0_firstOverPivot := by decide +kernel
  have hf25 := hts (.fieldLink RX0 25 "SkewEdges$Ledger" "total" "I") (by decide +kernel)
  have hP : va_P E.1 vwCl (wLedx E a (v 0 0) (v 0 1) (v 0 2) (v 1) (v 2) (v 3) (v 4) (v 5) (v 6) (v 7)) s.heap := hP
  have hl := lv_entry ([.ref (a 0), .int x2, .int x3, .int x4, .int x5, .int x6]) (n := 9) (Nat.le_of_ble_eq_true rfl)
  rw [lg_entry_eq]
  generalize (lg_sl ([.ref (a 0), .int x2, .int x3, .int x4, .int x5, .int x6]) ++ List.replicate (9 - (lg_sl ([.ref (a 0), .int x2, .int x3, .int x4, .int x5, .int x6])).length) Slot.unset).toArray = ls at hl ⊢
  have hl : lv_has ls 9 [(0, .ref (a 0)), (1, .int x2), (2, .int x3), (3, .int x4), (4, .int x5), (5, .int x6)] := hl
  replace hE := hE.trans mX0_firstOverPivot_s
  refine lv_iconst (v := 0) hx hb dX0_firstOverPivot_0 (by decide) ?_
  refine lv_istore (lv' := [(6, .int 0), (0, .ref (a 0)), (1, .int x2), (2, .int x3), (3, .int x4), (4, .int x5), (5, .int x6)]) hx hb dX0_firstOverPivot_1 hl (by decide) rfl (fun ls hl => ?_)
  have lp3 : ∀ (n3 : Nat) (i3 : Nat), (12 < i3 + n3) → (i3 ≤ 12) → ∀ ls : Array Slot, lv_has ls 9 [(6, .int (nI i3)), (0, .ref (a 0)), (1, .int x2), (2, .int x3), (3, .int x4), (4, .int x5), (5, .int x6)] → R = mX0_firstOverPivot_L3 v x2 x3 x4 x5 x6 n3 i3 → W p l e ({ frames := 1, cells := 0, slots := 0, locals := 25 }) s m ([.ref (a 0), .int x2, .int x3, .int x4, .int x5, .int x6] : List Value).toArray below meth c s.heap [] 0 0 (MQ below (kRi R) ([.ref (a 0), .int x2, .int x3, .int x4, .int x5, .int x6] : List Value).toArray s 0 0 (fun _ => False)) (F0 m 3 ls []) := by
    clear hE
    intro n3
    induction n3 with
    | zero =>
      intro i3 hm3 hi3 ls hl hE
      exact absurd hm3 (by omega)
    | succ n3 ih3 =>
      intro i3 hm3 hi3 ls hl hE
      replace hE := hE.trans mX0_firstOverPivot_L3_s
      refine lv_iload hx hb dX0_firstOverPivot_3 (lv_at hl 0 rfl) ?_
      refine lv_aload_n hx hb dX0_firstOverPivot_5 rfl (lv_at hl 1 rfl) ?_
      refine va_get (D := E.1) (ci := 1) (v := .int (v 0 2)) (C := RX2) (T := TX2) (N := 10) hx hb hts hiX2 hown hK.1 hP 0 rfl rfl 2 (by decide) hf25 (fun _ h9 => h9) rfl dX0_firstOverPivot_6 ?_
      refine lv_icmp_ge (tgt := 110) hx hb dX0_firstOverPivot_9 (by decide) (fun c_1 => ?_) (fun c_1 => ?_)
      · replace hE := hE.trans (if_pos c_1)
        refine lv_bipush (v := (-6)) hx hb dX0_firstOverPivot_110 (by decide) ?_
        subst R
        exact W.iret (v := (-6)) hx hb hr (fun t ht hW => ⟨rfl, ht⟩) (fun _ h => by cases h) dX0_firstOverPivot_112
      · replace hE := hE.trans (if_neg c_1)
        have hbc_1 : i3 < 12 := nOK.lt (by assumption) (by omega) c_1
        refine lv_iconst (v := 0) hx hb dX0_firstOverPivot_12 (by decide) ?_
        refine lv_istore (lv' := [(7, .int 0), (6, .int (nI i3)), (0, .ref (a 0)), (1, .int x2), (2, .int x3), (3, .int x4), (4, .int x5), (5, .int x6)]) hx hb dX0_firstOverPivot_13 hl (by decide) rfl (fun ls hl => ?_)
        have lp15 : ∀ (n15 : Nat) (i15 : Nat), (12 < i15 + n15) → (i15 ≤ 12) → ∀ ls : Array Slot, lv_has ls 9 [(7, .int (nI i15)), (6, .int (nI i3)), (0, .ref (a 0)), (1, .int x2), (2, .int x3), (3, .int x4), (4, .int x5), (5, .int x6)] → R = mX0_firstOverPivot_L15 v x2 x3 x4 x5 x6 i3 (mX0_firstOverPivot_K15 v x2 x3 x4 x5 x6 i3 (mX0_firstOverPivot_L3 v x2 x3 x4 x5 x6 n3)) n15 i15 → W p l e ({ frames := 1, cells := 0, slots := 0, locals := 25 }) s m ([.ref (a 0), .int x2, .int x3, .int x4, .int x5, .int x6] : List Value).toArray below meth c s.heap [] 0 0 (MQ below (kRi R) ([.ref (a 0), .int x2, .int x3, .int x4, .int x5, .int x6] : List Value).toArray s 0 0 (fun _ => False)) (F0 m 15 ls []) := by
          clear hE
          intro n15
          induction n15 with
          | zero =>
            intro i15 hm15 hi15 ls hl hE
            exact absurd hm15 (by omega)
          | succ n15 ih15 =>
            intro i15 hm15 hi15 ls hl hE
            replace hE := hE.trans mX0_firstOverPivot_L15_s
            refine lv_iload hx hb dX0_firstOverPivot_15 (lv_at hl 0 rfl) ?_
            refine lv_aload_n hx hb dX0_firstOverPivot_17 rfl (lv_at hl 2 rfl) ?_
            refine va_get (D := E.1) (ci := 1) (v := .int (v 0 2)) (C := RX2) (T := TX2) (N := 10) hx hb hts hiX2 hown hK.1 hP 0 rfl rfl 2 (by decide) hf25 (fun _ h9 => h9) rfl dX0_firstOverPivot_18 ?_
            refine lv_icmp_ge (tgt := 104) hx hb dX0_firstOverPivot_21 (by decide) (fun c_2 => ?_) (fun c_2 => ?_)
            · replace hE := hE.trans (if_pos c_2)
              replace hE := hE.trans mX0_firstOverPivot_K15_s
              refine lv_iinc (v := (nI (i3 + 1))) (lv' := [(6, .int (nI (i3 + 1))), (7, .int (nI i15)), (0, .ref (a 0)), (1, .int x2), (2, .int x3), (3, .int x4), (4, .int x5), (5, .int x6)]) hx hb dX0_firstOverPivot_104 hl (k := 1) rfl (nI_1 i3) (by decide) rfl (fun ls hl => ?_)
              refine lv_goto (tgt := 3) hx hb dX0_firstOverPivot_107 (by decide) ?_
              exact ih3 (i3 + 1) (by omega) (by omega) ls (lv_sub hl [0, 2, 3, 4, 5, 6, 7] rfl) hE
            · replace hE := hE.trans (if_neg c_2)
              have hbc_2 : i15 < 12 := nOK.lt (by assumption) (by omega) c_2
              refine lv_iload hx hb dX0_firstOverPivot_24 (lv_at hl 1 rfl) ?_
              refine lv_iload_n hx hb dX0_firstOverPivot_26 rfl (lv_at hl 3 rfl) ?_
              refine lv_icmp_eq (tgt := 41) hx hb dX0_firstOverPivot_27 (by decide) (fun c_3 => ?_) (fun c_3 => ?_)
              · replace hE := hE.trans (if_pos c_3)
                refine lv_iconst (v := 1) hx hb dX0_firstOverPivot_41 (by decide) ?_
                refine lv_goto (tgt := 46) hx hb dX0_firstOverPivot_42 (by decide) ?_
                refine lv_istore (lv' := [(8, .int 1), (7, .int (nI i15)), (6, .int (nI i3)), (0, .ref (a 0)), (1, .int x2), (2, .int x3), (3, .int x4), (4, .int x5), (5, .int x6)]) hx hb dX0_firstOverPivot_46 hl (by decide) rfl (fun ls hl => ?_)
                refine lv_iload hx hb dX0_firstOverPivot_48 (lv_at hl 0 rfl) ?_
                refine lv_if_eq (tgt := 98) hx hb dX0_firstOverPivot_50 (by decide) (fun c => absurd c (by decide)) (fun _ => ?_)
                refine lv_iload hx hb dX0_firstOverPivot_53 (lv_at hl 7 rfl) ?_
                refine lv_iload hx hb dX0_firstOverPivot_55 (lv_at hl 2 rfl) ?_
                refine kCallRi (va_runSN (As := [.int x5, .int (nI i3)]) (rest := []) ⟨hx, hb, hml, hown, hts⟩ (c_X5_contains l E x5 (nI i3) _ rfl) ⟨va_cnB 2 hts gX0_firstOverPivot_X5_contains_n42 rfl rfl rfl (hK.nest 0 rfl) (hts (.initialized RX5) (by decide +kernel)) (by decide +kernel) ⟨Nat.le_of_ble_eq_true rfl, Nat.le_of_ble_eq_true rfl⟩, hts (.static yX5_contains) (by decide +kernel), trivial⟩ (kPreS hK kP0) rfl rfl hl.1 rfl (lv_room (Nat.le_of_ble_eq_true rfl)) dX0_firstOverPivot_57 ⟨Nat.zero_le _, Nat.zero_le _⟩) ?_
                refine lv_if_eq (tgt := 98) hx hb dX0_firstOverPivot_60 (by decide) (fun c_4 => ?_) (fun c_4 => ?_)
                · replace hE := hE.trans (if_pos c_4)
                  refine lv_iinc (v := (nI (i15 + 1))) (lv' := [(7, .int (nI (i15 + 1))), (8, .int 1), (6, .int (nI i3)), (0, .ref (a 0)), (1, .int x2), (2, .int x3), (3, .int x4), (4, .int x5), (5, .int x6)]) hx hb dX0_firstOverPivot_98 hl (k := 1) rfl (nI_1 i15) (by decide) rfl (fun ls hl => ?_)
                  refine lv_goto (tgt := 15) hx hb dX0_firstOverPivot_101 (by decide) ?_
                  exact ih15 (i15 + 1) (by omega) (by omega) ls (lv_sub hl [0, 2, 3, 4, 5, 6, 7, 8] rfl) hE
                · replace hE := hE.trans (if_neg c_4)
                  refine lv_iload hx hb dX0_firstOverPivot_63 (lv_at hl 8 rfl) ?_
                  refine lv_iload hx hb dX0_firstOverPivot_65 (lv_at hl 1 rfl) ?_
                  refine kCallRi (va_runSN (As := [.int x6, .int (nI i15)]) (rest := []) ⟨hx, hb, hml, hown, hts⟩ (c_X5_contains l E x6 (nI i15) _ rfl) ⟨va_cnB 2 hts gX0_firstOverPivot_X5_contains_n42 rfl rfl rfl (hK.nest 0 rfl) (hts (.initialized RX5) (by decide +kernel)) (by decide +kernel) ⟨Nat.le_of_ble_eq_true rfl, Nat.le_of_ble_eq_true rfl⟩, hts (.static yX5_contains) (by decide +kernel), trivial⟩ (kPreS hK kP0) rfl rfl hl.1 rfl (lv_room (Nat.le_of_ble_eq_true rfl)) dX0_firstOverPivot_67 ⟨Nat.zero_le _, Nat.zero_le _⟩) ?_
                  refine lv_if_eq (tgt := 98) hx hb dX0_firstOverPivot_70 (by decide) (fun c_5 => ?_) (fun c_5 => ?_)
                  · replace hE := hE.trans (if_pos c_5)
                    refine lv_iinc (v := (nI (i15 + 1))) (lv' := [(7, .int (nI (i15 + 1))), (8, .int 1), (6, .int (nI i3)), (0, .ref (a 0)), (1, .int x2), (2, .int x3), (3, .int x4), (4, .int x5), (5, .int x6)]) hx hb dX0_firstOverPivot_98 hl (k := 1) rfl (nI_1 i15) (by decide) rfl (fun ls hl => ?_)
                    refine lv_goto (tgt := 15) hx hb dX0_firstOverPivot_101 (by decide) ?_
                    exact ih15 (i15 + 1) (by omega) (by omega) ls (lv_sub hl [0, 2, 3, 4, 5, 6, 7, 8] rfl) hE
                  · replace hE := hE.trans (if_neg c_5)
                    refine lv_aload_n hx hb dX0_firstOverPivot_73 rfl (lv_at hl 3 rfl) ?_
                    refine lv_iload_n hx hb dX0_firstOverPivot_74 rfl (lv_at hl 5 rfl) ?_
                    refine lv_iload hx hb dX0_firstOverPivot_75 (lv_at hl 2 rfl) ?_
                    refine lv_iload_n hx hb dX0_firstOverPivot_77 rfl (lv_at hl 6 rfl) ?_
                    refine lv_iload hx hb dX0_firstOverPivot_78 (lv_at hl 1 rfl) ?_
                    refine kCallRi (va_runS (As := [.ref (a 0), .int x3, .int (nI i3), .int x4, .int (nI i15)]) (rest := []) ⟨hx, hb, hml, hown, hts⟩ (c_X0_counts l E a v x3 (nI i3) x4 (nI i15) (by first | assumption | exact tOK.nI (by omega)) (by first | assumption | exact tOK.nI (by omega)) (by first | assumption | exact tOK.nI (by omega)) _ rfl) (va_cwS 5 hts gX0_firstOverPivot_X0_counts rfl rfl rfl (by decide +kernel) ⟨Nat.le_of_ble_eq_true rfl, Nat.le_of_ble_eq_true rfl⟩) (kPreS hK hP) rfl rfl hl.1 rfl (lv_room (Nat.le_of_ble_eq_true rfl)) dX0_firstOverPivot_80 ⟨Nat.zero_le _, Nat.zero_le _⟩) ?_
                    refine lv_if_eq (tgt := 98) hx hb dX0_firstOverPivot_83 (by decide) (fun c_6 => ?_) (fun c_6 => ?_)
                    · replace hE := hE.trans (if_pos c_6)
                      refine lv_iinc (v := (nI (i15 + 1))) (lv' := [(7, .int (nI (i15 + 1))), (8, .int 1), (6, .int (nI i3)), (0, .ref (a 0)), (1, .int x2), (2, .int x3), (3, .int x4), (4, .int x5), (5, .int x6)]) hx hb dX0_firstOverPivot_98 hl (k := 1) rfl (nI_1 i15) (by decide) rfl (fun ls hl => ?_)
                      refine lv_goto (tgt := 15) hx hb dX0_firstOverPivot_101 (by decide) ?_
                      exact ih15 (i15 + 1) (by omega) (by omega) ls (lv_sub hl [0, 2, 3, 4, 5, 6, 7, 8] rfl) hE
                    · replace hE := hE.trans (if_neg c_6)
                      refine lv_iload_n hx hb dX0_firstOverPivot_86 rfl (lv_at hl 6 rfl) ?_
                      refine lv_iconst (v := 4) hx hb dX0_firstOverPivot_87 (by decide) ?_
                      refine lv_ishl hx hb dX0_firstOverPivot_88 ?_
                      refine lv_iload hx hb dX0_firstOverPivot_89 (lv_at hl 2 rfl) ?_
                      refine lv_ior hx hb dX0_firstOverPivot_91 ?_
                      refine lv_iconst (v := 4) hx hb dX0_firstOverPivot_92 (by decide) ?_
                      refine lv_ishl hx hb dX0_firstOverPivot_93 ?_
                      refine lv_iload hx hb dX0_firstOverPivot_94 (lv_at hl 1 rfl) ?_
                      refine lv_ior hx hb dX0_firstOverPivot_96 ?_
                      subst R
                      exact W.iret (v := ((((x4 <<< (4 &&& 31)) ||| (nI i3)) <<< (4 &&& 31)) ||| (nI i15))) hx hb hr (fun t ht hW => ⟨rfl, ht⟩) (fun _ h => by cases h) dX0_firstOverPivot_97
              · replace hE := hE.trans (if_neg c_3)
                refine lv_iload_n hx hb dX0_firstOverPivot_30 rfl (lv_at hl 5 rfl) ?_
                refine lv_iload_n hx hb dX0_firstOverPivot_31 rfl (lv_at hl 3 rfl) ?_
                refine lv_icmp_eq (tgt := 41) hx hb dX0_firstOverPivot_32 (by decide) (fun c_7 => ?_) (fun c_7 => ?_)
                · replace hE := hE.trans (if_pos c_7)
                  refine lv_iconst (v := 1) hx hb dX0_firstOverPivot_41 (by decide) ?_
                  refine lv_goto (tgt := 46) hx hb dX0_firstOverPivot_42 (by decide) ?_
                  refine lv_istore (lv' := [(8, .int 1), (7, .int (nI i15)), (6, .int (nI i3)), (0, .ref (a 0)), (1, .int x2), (2, .int x3), (3, .int x4), (4, .int x5), (5, .int x6)]) hx hb dX0_firstOverPivot_46 hl (by decide) rfl (fun ls hl => ?_)
                  refine lv_iload hx hb dX0_firstOverPivot_48 (lv_at hl 0 rfl) ?_
                  refine lv_if_eq (tgt := 98) hx hb dX0_firstOverPivot_50 (by decide) (fun c => absurd c (by decide)) (fun _ => ?_)
                  refine lv_iload hx hb dX0_firstOverPivot_53 (lv_at hl 7 rfl) ?_
                  refine lv_iload hx hb dX0_firstOverPivot_55 (lv_at hl 2 rfl) ?_
                  refine kCallRi (va_runSN (As := [.int x5, .int (nI i3)]) (rest := []) ⟨hx, hb, hml, hown, hts⟩ (c_X5_contains l E x5 (nI i3) _ rfl) ⟨va_cnB 2 hts gX0_firstOverPivot_X5_contains_n42 rfl rfl rfl (hK.nest 0 rfl) (hts (.initialized RX5) (by decide +kernel)) (by decide +kernel) ⟨Nat.le_of_ble_eq_true rfl, Nat.le_of_ble_eq_true rfl⟩, hts (.static yX5_contains) (by decide +kernel), trivial⟩ (kPreS hK kP0) rfl rfl hl.1 rfl (lv_room (Nat.le_of_ble_eq_true rfl)) dX0_firstOverPivot_57 ⟨Nat.zero_le _, Nat.zero_le _⟩) ?_
                  refine lv_if_eq (tgt := 98) hx hb dX0_firstOverPivot_60 (by decide) (fun c_8 => ?_) (fun c_8 => ?_)
                  · replace hE := hE.trans (if_pos c_8)
                    refine lv_iinc (v := (nI (i15 + 1))) (lv' := [(7, .int (nI (i15 + 1))), (8, .int 1), (6, .int (nI i3)), (0, .ref (a 0)), (1, .int x2), (2, .int x3), (3, .int x4), (4, .int x5), (5, .int x6)]) hx hb dX0_firstOverPivot_98 hl (k := 1) rfl (nI_1 i15) (by decide) rfl (fun ls hl => ?_)
                    refine lv_goto (tgt := 15) hx hb dX0_firstOverPivot_101 (by decide) ?_
                    exact ih15 (i15 + 1) (by omega) (by omega) ls (lv_sub hl [0, 2, 3, 4, 5, 6, 7, 8] rfl) hE
                  · replace hE := hE.trans (if_neg c_8)
                    refine lv_iload hx hb dX0_firstOverPivot_63 (lv_at hl 8 rfl) ?_
                    refine lv_iload hx hb dX0_firstOverPivot_65 (lv_at hl 1 rfl) ?_
                    refine kCallRi (va_runSN (As := [.int x6, .int (nI i15)]) (rest := []) ⟨hx, hb, hml, hown, hts⟩ (c_X5_contains l E x6 (nI i15) _ rfl) ⟨va_cnB 2 hts gX0_firstOverPivot_X5_contains_n42 rfl rfl rfl (hK.nest 0 rfl) (hts (.initialized RX5) (by decide +kernel)) (by decide +kernel) ⟨Nat.le_of_ble_eq_true rfl, Nat.le_of_ble_eq_true rfl⟩, hts (.static yX5_contains) (by decide +kernel), trivial⟩ (kPreS hK kP0) rfl rfl hl.1 rfl (lv_room (Nat.le_of_ble_eq_true rfl)) dX0_firstOverPivot_67 ⟨Nat.zero_le _, Nat.zero_le _⟩) ?_
                    refine lv_if_eq (tgt := 98) hx hb dX0_firstOverPivot_70 (by decide) (fun c_9 => ?_) (fun c_9 => ?_)
                    · replace hE := hE.trans (if_pos c_9)
                      refine lv_iinc (v := (nI (i15 + 1))) (lv' := [(7, .int (nI (i15 + 1))), (8, .int 1), (6, .int (nI i3)), (0, .ref (a 0)), (1, .int x2), (2, .int x3), (3, .int x4), (4, .int x5), (5, .int x6)]) hx hb dX0_firstOverPivot_98 hl (k := 1) rfl (nI_1 i15) (by decide) rfl (fun ls hl => ?_)
                      refine lv_goto (tgt := 15) hx hb dX0_firstOverPivot_101 (by decide) ?_
                      exact ih15 (i15 + 1) (by omega) (by omega) ls (lv_sub hl [0, 2, 3, 4, 5, 6, 7, 8] rfl) hE
                    · replace hE := hE.trans (if_neg c_9)
                      refine lv_aload_n hx hb dX0_firstOverPivot_73 rfl (lv_at hl 3 rfl) ?_
                      refine lv_iload_n hx hb dX0_firstOverPivot_74 rfl (lv_at hl 5 rfl) ?_
                      refine lv_iload hx hb dX0_firstOverPivot_75 (lv_at hl 2 rfl) ?_
                      refine lv_iload_n hx hb dX0_firstOverPivot_77 rfl (lv_at hl 6 rfl) ?_
                      refine lv_iload hx hb dX0_firstOverPivot_78 (lv_at hl 1 rfl) ?_
                      refine kCallRi (va_runS (As := [.ref (a 0), .int x3, .int (nI i3), .int x4, .int (nI i15)]) (rest := []) ⟨hx, hb, hml, hown, hts⟩ (c_X0_counts l E a v x3 (nI i3) x4 (nI i15) (by first | assumption | exact tOK.nI (by omega)) (by first | assumption | exact tOK.nI (by omega)) (by first | assumption | exact tOK.nI (by omega)) _ rfl) (va_cwS 5 hts gX0_firstOverPivot_X0_counts rfl rfl rfl (by decide +kernel) ⟨Nat.le_of_ble_eq_true rfl, Nat.le_of_ble_eq_true rfl⟩) (kPreS hK hP) rfl rfl hl.1 rfl (lv_room (Nat.le_of_ble_eq_true rfl)) dX0_firstOverPivot_80 ⟨Nat.zero_le _, Nat.zero_le _⟩) ?_
                      refine lv_if_eq (tgt := 98) hx hb dX0_firstOverPivot_83 (by decide) (fun c_10 => ?_) (fun c_10 => ?_)
                      · replace hE := hE.trans (if_pos c_10)
                        refine lv_iinc (v := (nI (i15 + 1))) (lv' := [(7, .int (nI (i15 + 1))), (8, .int 1), (6, .int (nI i3)), (0, .ref (a 0)), (1, .int x2), (2, .int x3), (3, .int x4), (4, .int x5), (5, .int x6)]) hx hb dX0_firstOverPivot_98 hl (k := 1) rfl (nI_1 i15) (by decide) rfl (fun ls hl => ?_)
                        refine lv_goto (tgt := 15) hx hb dX0_firstOverPivot_101 (by decide) ?_
                        exact ih15 (i15 + 1) (by omega) (by omega) ls (lv_sub hl [0, 2, 3, 4, 5, 6, 7, 8] rfl) hE
                      · replace hE := hE.trans (if_neg c_10)
                        refine lv_iload_n hx hb dX0_firstOverPivot_86 rfl (lv_at hl 6 rfl) ?_
                        refine lv_iconst (v := 4) hx hb dX0_firstOverPivot_87 (by decide) ?_
                        refine lv_ishl hx hb dX0_firstOverPivot_88 ?_
                        refine lv_iload hx hb dX0_firstOverPivot_89 (lv_at hl 2 rfl) ?_
                        refine lv_ior hx hb dX0_firstOverPivot_91 ?_
                        refine lv_iconst (v := 4) hx hb dX0_firstOverPivot_92 (by decide) ?_
                        refine lv_ishl hx hb dX0_firstOverPivot_93 ?_
                        refine lv_iload hx hb dX0_firstOverPivot_94 (lv_at hl 1 rfl) ?_
                        refine lv_ior hx hb dX0_firstOverPivot_96 ?_
                        subst R
                        exact W.iret (v := ((((x4 <<< (4 &&& 31)) ||| (nI i3)) <<< (4 &&& 31)) ||| (nI i15))) hx hb hr (fun t ht hW => ⟨rfl, ht⟩) (fun _ h => by cases h) dX0_firstOverPivot_97
                · replace hE := hE.trans (if_neg c_7)
                  refine lv_iload hx hb dX0_firstOverPivot_35 (lv_at hl 0 rfl) ?_
                  refine lv_iload_n hx hb dX0_firstOverPivot_37 rfl (lv_at hl 3 rfl) ?_
                  refine lv_icmp_ne (tgt := 45) hx hb dX0_firstOverPivot_38 (by decide) (fun c_11 => ?_) (fun c_11 => ?_)
                  · replace hE := hE.trans (if_neg c_11)
                    refine lv_iconst (v := 0) hx hb dX0_firstOverPivot_45 (by decide) ?_
                    refine lv_istore (lv' := [(8, .int 0), (7, .int (nI i15)), (6, .int (nI i3)), (0, .ref (a 0)), (1, .int x2), (2, .int x3), (3, .int x4), (4, .int x5), (5, .int x6)]) hx hb dX0_firstOverPivot_46 hl (by decide) rfl (fun ls hl => ?_)
                    refine lv_iload hx hb dX0_firstOverPivot_48 (lv_at hl 0 rfl) ?_
                    refine lv_if_eq (tgt := 98) hx hb dX0_firstOverPivot_50 (by decide) (fun _ => ?_) (fun c => absurd (by decide) c)
                    refine lv_iinc (v := (nI (i15 + 1))) (lv' := [(7, .int (nI (i15 + 1))), (8, .int 0), (6, .int (nI i3)), (0, .ref (a 0)), (1, .int x2), (2, .int x3), (3, .int x4), (4, .int x5), (5, .int x6)]) hx hb dX0_firstOverPivot_98 hl (k := 1) rfl (nI_1 i15) (by decide) rfl (fun ls hl => ?_)
                    refine lv_goto (tgt := 15) hx hb dX0_firstOverPivot_101 (by decide) ?_
                    exact ih15 (i15 + 1) (by omega) (by omega) ls (lv_sub hl [0, 2, 3, 4, 5, 6, 7, 8] rfl) hE
                  · replace hE := hE.trans (if_pos c_11)
                    refine lv_iconst (v := 1) hx hb dX0_firstOverPivot_41 (by decide) ?_
                    refine lv_goto (tgt := 46) hx hb dX0_firstOverPivot_42 (by decide) ?_
                    refine lv_istore (lv' := [(8, .int 1), (7, .int (nI i15)), (6, .int (nI i3)), (0, .ref (a 0)), (1, .int x2), (2, .int x3), (3, .int x4), (4, .int x5), (5, .int x6)]) hx hb dX0_firstOverPivot_46 hl (by decide) rfl (fun ls hl => ?_)
                    refine lv_iload hx hb dX0_firstOverPivot_48 (lv_at hl 0 rfl) ?_
                    refine lv_if_eq (tgt := 98) hx hb dX0_firstOverPivot_50 (by decide) (fun c => absurd c (by decide)) (fun _ => ?_)
                    refine lv_iload hx hb dX0_firstOverPivot_53 (lv_at hl 7 rfl) ?_
                    refine lv_iload hx hb dX0_firstOverPivot_55 (lv_at hl 2 rfl) ?_
                    refine kCallRi (va_runSN (As := [.int x5, .int (nI i3)]) (rest := []) ⟨hx, hb, hml, hown, hts⟩ (c_X5_contains l E x5 (nI i3) _ rfl) ⟨va_cnB 2 hts gX0_firstOverPivot_X5_contains_n42 rfl rfl rfl (hK.nest 0 rfl) (hts (.initialized RX5) (by decide +kernel)) (by decide +kernel) ⟨Nat.le_of_ble_eq_true rfl, Nat.le_of_ble_eq_true rfl⟩, hts (.static yX5_contains) (by decide +kernel), trivial⟩ (kPreS hK kP0) rfl rfl hl.1 rfl (lv_room (Nat.le_of_ble_eq_true rfl)) dX0_firstOverPivot_57 ⟨Nat.zero_le _, Nat.zero_le _⟩) ?_
                    refine lv_if_eq (tgt := 98) hx hb dX0_firstOverPivot_60 (by decide) (fun c_12 => ?_) (fun c_12 => ?_)
                    · replace hE := hE.trans (if_pos c_12)
                      refine lv_iinc (v := (nI (i15 + 1))) (lv' := [(7, .int (nI (i15 + 1))), (8, .int 1), (6, .int (nI i3)), (0, .ref (a 0)), (1, .int x2), (2, .int x3), (3, .int x4), (4, .int x5), (5, .int x6)]) hx hb dX0_firstOverPivot_98 hl (k := 1) rfl (nI_1 i15) (by decide) rfl (fun ls hl => ?_)
                      refine lv_goto (tgt := 15) hx hb dX0_firstOverPivot_101 (by decide) ?_
                      exact ih15 (i15 + 1) (by omega) (by omega) ls (lv_sub hl [0, 2, 3, 4, 5, 6, 7, 8] rfl) hE
                    · replace hE := hE.trans (if_neg c_12)
                      refine lv_iload hx hb dX0_firstOverPivot_63 (lv_at hl 8 rfl) ?_
                      refine lv_iload hx hb dX0_firstOverPivot_65 (lv_at hl 1 rfl) ?_
                      refine kCallRi (va_runSN (As := [.int x6, .int (nI i15)]) (rest := []) ⟨hx, hb, hml, hown, hts⟩ (c_X5_contains l E x6 (nI i15) _ rfl) ⟨va_cnB 2 hts gX0_firstOverPivot_X5_contains_n42 rfl rfl rfl (hK.nest 0 rfl) (hts (.initialized RX5) (by decide +kernel)) (by decide +kernel) ⟨Nat.le_of_ble_eq_true rfl, Nat.le_of_ble_eq_true rfl⟩, hts (.static yX5_contains) (by decide +kernel), trivial⟩ (kPreS hK kP0) rfl rfl hl.1 rfl (lv_room (Nat.le_of_ble_eq_true rfl)) dX0_firstOverPivot_67 ⟨Nat.zero_le _, Nat.zero_le _⟩) ?_
                      refine lv_if_eq (tgt := 98) hx hb dX0_firstOverPivot_70 (by decide) (fun c_13 => ?_) (fun c_13 => ?_)
                      · replace hE := hE.trans (if_pos c_13)
                        refine lv_iinc (v := (nI (i15 + 1))) (lv' := [(7, .int (nI (i15 + 1))), (8, .int 1), (6, .int (nI i3)), (0, .ref (a 0)), (1, .int x2), (2, .int x3), (3, .int x4), (4, .int x5), (5, .int x6)]) hx hb dX0_firstOverPivot_98 hl (k := 1) rfl (nI_1 i15) (by decide) rfl (fun ls hl => ?_)
                        refine lv_goto (tgt := 15) hx hb dX0_firstOverPivot_101 (by decide) ?_
                        exact ih15 (i15 + 1) (by omega) (by omega) ls (lv_sub hl [0, 2, 3, 4, 5, 6, 7, 8] rfl) hE
                      · replace hE := hE.trans (if_neg c_13)
                        refine lv_aload_n hx hb dX0_firstOverPivot_73 rfl (lv_at hl 3 rfl) ?_
                        refine lv_iload_n hx hb dX0_firstOverPivot_74 rfl (lv_at hl 5 rfl) ?_
                        refine lv_iload hx hb dX0_firstOverPivot_75 (lv_at hl 2 rfl) ?_
                        refine lv_iload_n hx hb dX0_firstOverPivot_77 rfl (lv_at hl 6 rfl) ?_
                        refine lv_iload hx hb dX0_firstOverPivot_78 (lv_at hl 1 rfl) ?_
                        refine kCallRi (va_runS (As := [.ref (a 0), .int x3, .int (nI i3), .int x4, .int (nI i15)]) (rest := []) ⟨hx, hb, hml, hown, hts⟩ (c_X0_counts l E a v x3 (nI i3) x4 (nI i15) (by first | assumption | exact tOK.nI (by omega)) (by first | assumption | exact tOK.nI (by omega)) (by first | assumption | exact tOK.nI (by omega)) _ rfl) (va_cwS 5 hts gX0_firstOverPivot_X0_counts rfl rfl rfl (by decide +kernel) ⟨Nat.le_of_ble_eq_true rfl, Nat.le_of_ble_eq_true rfl⟩) (kPreS hK hP) rfl rfl hl.1 rfl (lv_room (Nat.le_of_ble_eq_true rfl)) dX0_firstOverPivot_80 ⟨Nat.zero_le _, Nat.zero_le _⟩) ?_
                        refine lv_if_eq (tgt := 98) hx hb dX0_firstOverPivot_83 (by decide) (fun c_14 => ?_) (fun c_14 => ?_)
                        · replace hE := hE.trans (if_pos c_14)
                          refine lv_iinc (v := (nI (i15 + 1))) (lv' := [(7, .int (nI (i15 + 1))), (8, .int 1), (6, .int (nI i3)), (0, .ref (a 0)), (1, .int x2), (2, .int x3), (3, .int x4), (4, .int x5), (5, .int x6)]) hx hb dX0_firstOverPivot_98 hl (k := 1) rfl (nI_1 i15) (by decide) rfl (fun ls hl => ?_)
                          refine lv_goto (tgt := 15) hx hb dX0_firstOverPivot_101 (by decide) ?_
                          exact ih15 (i15 + 1) (by omega) (by omega) ls (lv_sub hl [0, 2, 3, 4, 5, 6, 7, 8] rfl) hE
                        · replace hE := hE.trans (if_neg c_14)
                          refine lv_iload_n hx hb dX0_firstOverPivot_86 rfl (lv_at hl 6 rfl) ?_
                          refine lv_iconst (v := 4) hx hb dX0_firstOverPivot_87 (by decide) ?_
                          refine lv_ishl hx hb dX0_firstOverPivot_88 ?_
                          refine lv_iload hx hb dX0_firstOverPivot_89 (lv_at hl 2 rfl) ?_
                          refine lv_ior hx hb dX0_firstOverPivot_91 ?_
                          refine lv_iconst (v := 4) hx hb dX0_firstOverPivot_92 (by decide) ?_
                          refine lv_ishl hx hb dX0_firstOverPivot_93 ?_
                          refine lv_iload hx hb dX0_firstOverPivot_94 (lv_at hl 1 rfl) ?_
                          refine lv_ior hx hb dX0_firstOverPivot_96 ?_
                          subst R
                          exact W.iret (v := ((((x4 <<< (4 &&& 31)) ||| (nI i3)) <<< (4 &&& 31)) ||| (nI i15))) hx hb hr (fun t ht hW => ⟨rfl, ht⟩) (fun _ h => by cases h) dX0_firstOverPivot_97
        exact lp15 13 0 (by omega) (by omega) ls (lv_sub hl [0, 1, 2, 3, 4, 5, 6, 7] rfl) hE
  exact lp3 13 0 (by omega) (by omega) ls (lv_sub hl [0, 1, 2, 3, 4, 5, 6] rfl) hE
def mX0_firstTriple_L13 (v : kG) (x2 : Int32) (x3 : Int32) : Nat → Nat → (Int32)
  | 0, _ => 0
  | n13 + 1, i13 =>
    if (v 0 2) ≤ (nI i13) then
      (-6)
    else
      if (mX5_contains ((mX2_inPhase v 1) ||| (1 <<< (x2 &&& 31))) (nI i13)) = 0 then
        mX0_firstTriple_L13 v x2 x3 n13 (i13 + 1)
      else
        if (mX0_firstOverPivot v x2 x3 (nI i13) ((mX2_edgesTo v (nI i13)) &&& ((mX2_inPhase v 1) ||| (1 <<< (x2 &&& 31)))) ((mX2_edgesFrom v (nI i13)) &&& ((mX2_inPhase v 1) ||| (1 <<< (x2 &&& 31))))) = (-6) then
          mX0_firstTriple_L13 v x2 x3 n13 (i13 + 1)
        else
          (mX0_firstOverPivot v x2 x3 (nI i13) ((mX2_edgesTo v (nI i13)) &&& ((mX2_inPhase v 1) ||| (1 <<< (x2 &&& 31)))) ((mX2_edgesFrom v (nI i13)) &&& ((mX2_inPhase v 1) ||| (1 <<< (x2 &&& 31)))))
theorem mX0_firstTriple_L13_s {v : kG} {x2 : Int32} {x3 : Int32} {n13 : Nat} {i13 : Nat} : mX0_firstTriple_L13 v x2 x3 (n13 + 1) i13 = (
    if (v 0 2) ≤ (nI i13) then
      (-6)
    else
      if (mX5_contains ((mX2_inPhase v 1) ||| (1 <<< (x2 &&& 31))) (nI i13)) = 0 then
        mX0_firstTriple_L13 v x2 x3 n13 (i13 + 1)
      else
        if (mX0_firstOverPivot v x2 x3 (nI i13) ((mX2_edgesTo v (nI i13)) &&& ((mX2_inPhase v 1) ||| (1 <<< (x2 &&& 31)))) ((mX2_edgesFrom v (nI i13)) &&& ((mX2_inPhase v 1) ||| (1 <<< (x2 &&& 31))))) = (-6) then
          mX0_firstTriple_L13 v x2 x3 n13 (i13 + 1)
        else
          (mX0_firstOverPivot v x2 x3 (nI i13) ((mX2_edgesTo v (nI i13)) &&& ((mX2_inPhase v 1) ||| (1 <<< (x2 &&& 31)))) ((mX2_edgesFrom v (nI i13)) &&& ((mX2_inPhase v 1) ||| (1 <<< (x2 &&& 31))))) : Int32) := rfl
def mX0_firstTriple (v : kG) (x2 : Int32) (x3 : Int32) : Int32 :=
  mX0_firstTriple_L13 v x2 x3 13 0
theorem mX0_firstTriple_s {v : kG} {x2 : Int32} {x3 : Int32} : mX0_firstTriple v x2 x3 = (
  mX0_firstTriple_L13 v x2 x3 13 0 : Int32) := rfl
set_option maxHeartbeats 400000 in
set_option maxRecDepth 100000 in
theorem c_X0_firstTriple (l : Launch) (E : kE) (a : Nat → Nat) (v : kG) (x2 : Int32) (x3 : Int32) (hn : nOK (v 0 2)) (ht : tOK x2) (R : Int32) (hE : R = mX0_firstTriple v x2 x3) : Met l yX0_firstTriple wsX0_firstTriple ({ frames := 2, cells := 0, slots := 0, locals := 53 }) (kPre E [.ref (a 0), .int x2, .int x3] (wLedx E a (v 0 0) (v 0 1) (v 0 2) (v 1) (v 2) (v 3) (v 4) (v 5) (v 6) (v 7))) (kRi R) 0 0 (fun _ => False) := by
  refine Met.ofW (cc := cX0_firstTriple) (maxL := 8) (ret := (some .int)) (by decide) rfl ?_
  intro p e s m args below meth c s₁ B hml hv
  obtain ⟨rfl, hK, hP⟩ := hv
  have hx := B.exec
  have hb := B.bytes
  have hr := B.returns
  have hts := atoms_spec (ws := wsX0_firstTriple) B.pre
  have hown : s.vm.findClass RX0 = some m.cls := findClass_of_methodNamed B.named
  have hlocks := B.notSynchronized
  have hiX2 : ∀ w ∈ wsX20, w ∈ wsX0_firstTriple := by decide +kernel
  have hf25 := hts (.fieldLink RX0 25 "SkewEdges$Ledger" "total" "I") (by decide +kernel)
  have hP : va_P E.1 vwCl (wLedx E a (v 0 0) (v 0 1) (v 0 2) (v 1) (v 2) (v 3) (v 4) (v 5) (v 6) (v 7)) s.heap := hP
  have hl := lv_entry ([.ref (a 0), .int x2, .int x3]) (n := 8) (Nat.le_of_ble_eq_true rfl)
  rw [lg_entry_eq]
  generalize (lg_sl ([.ref (a 0), .int x2, .int x3]) ++ List.replicate (8 - (lg_sl ([.ref (a 0), .int x2, .int x3])).length) Slot.unset).toArray = ls at hl ⊢
  have hl : lv_has ls 8 [(0, .ref (a 0)), (1, .int x2), (2, .int x3)] := hl
  replace hE := hE.trans mX0_firstTriple_s
  refine lv_aload_n hx hb dX0_firstTriple_0 rfl (lv_at hl 0 rfl) ?_
  refine lv_iconst (v := 1) hx hb dX0_firstTriple_1 (by decide) ?_
  refine kCallRi (va_runV (As := [.int 1]) (rest := []) ⟨hx, hb, hml, hown, hts⟩ (c_X2_inPhase l E a v 1 (by first | assumption | exact tOK.nI (by omega)) _ rfl) (cwV 1 hts gX0_firstTriple_X2_inPhase rfl rfl rfl (by decide +kernel) ⟨Nat.le_of_ble_eq_true rfl, Nat.le_of_ble_eq_true rfl⟩) (kPreV hK hP hP (q0 := 0) rfl rfl) rfl rfl hl.1 rfl (lv_room (Nat.le_of_ble_eq_true rfl)) dX0_firstTriple_2 ⟨Nat.zero_le _, Nat.zero_le _⟩) ?_
  refine lv_iconst (v := 1) hx hb dX0_firstTriple_5 (by decide) ?_
  refine lv_iload_n hx hb dX0_firstTriple_6 rfl (lv_at hl 1 rfl) ?_
  refine lv_ishl hx hb dX0_firstTriple_7 ?_
  refine lv_ior hx hb dX0_firstTriple_8 ?_
  refine lv_istore_n (lv' := [(3, .int ((mX2_inPhase v 1) ||| (1 <<< (x2 &&& 31)))), (0, .ref (a 0)), (1, .int x2), (2, .int x3)]) hx hb dX0_firstTriple_9 rfl hl (by decide) rfl (fun ls hl => ?_)
  refine lv_iconst (v := 0) hx hb dX0_firstTriple_10 (by decide) ?_
  refine lv_istore (lv' := [(4, .int 0), (3, .int ((mX2_inPhase v 1) ||| (1 <<< (x2 &&& 31)))), (0, .ref (a 0)), (1, .int x2), (2, .int x3)]) hx hb dX0_firstTriple_11 hl (by decide) rfl (fun ls hl => ?_)
  have lp13 : ∀ (n13 : Nat) (i13 : Nat), (12 < i13 + n13) → (i13 ≤ 12) → ∀ ls : Array Slot, lv_has ls 8 [(4, .int (nI i13)), (3, .int ((mX2_inPhase v 1) ||| (1 <<< (x2 &&& 31)))), (0, .ref (a 0)), (1, .int x2), (2, .int x3)] → R = mX0_firstTriple_L13 v x2 x3 n13 i13 → W p l e ({ frames := 2, cells := 0, slots := 0, locals := 53 }) s m ([.ref (a 0), .int x2, .int x3] : List Value).toArray below meth c s.heap [] 0 0 (MQ below (kRi R) ([.ref (a 0), .int x2, .int x3] : List Value).toArray s 0 0 (fun _ => False)) (F0 m 13 ls []) := by
    clear hE
    intro n13
    induction n13 with
    | zero =>
      intro i13 hm13 hi13 ls hl hE
      exact absurd hm13 (by omega)
    | succ n13 ih13 =>
      intro i13 hm13 hi13 ls hl hE
      replace hE := hE.trans mX0_firstTriple_L13_s
      refine lv_iload hx hb dX0_firstTriple_13 (lv_at hl 0 rfl) ?_
      refine lv_aload_n hx hb dX0_firstTriple_15 rfl (lv_at hl 2 rfl) ?_
      refine va_get (D := E.1) (ci := 1) (v := .int (v 0 2)) (C := RX2) (T := TX2) (N := 10) hx hb hts hiX2 hown hK.1 hP 0 rfl rfl 2 (by decide) hf25 (fun _ h9 => h9) rfl dX0_firstTriple_16 ?_
      refine lv_icmp_ge (tgt := 81) hx hb dX0_firstTriple_19 (by decide) (fun c_1 => ?_) (fun c_1 => ?_)
      · replace hE := hE.trans (if_pos c_1)
        refine lv_bipush (v := (-6)) hx hb dX0_firstTriple_81 (by decide) ?_
        subst R
        exact W.iret (v := (-6)) hx hb hr (fun t ht hW => ⟨rfl, ht⟩) (fun _ h => by cases h) dX0_firstTriple_83
      · replace hE := hE.trans (if_neg c_1)
        have hbc_1 : i13 < 12 := nOK.lt (by assumption) (by omega) c_1
        refine lv_iload_n hx hb dX0_firstTriple_22 rfl (lv_at hl 1 rfl) ?_
        refine lv_iload hx hb dX0_firstTriple_23 (lv_at hl 0 rfl) ?_
        refine kCallRi (va_runSN (As := [.int ((mX2_inPhase v 1) ||| (1 <<< (x2 &&& 31))), .int (nI i13)]) (rest := []) ⟨hx, hb, hml, hown, hts⟩ (c_X5_contains l E ((mX2_inPhase v 1) ||| (1 <<< (x2 &&& 31))) (nI i13) _ rfl) ⟨va_cnB 2 hts gX0_firstTriple_X5_contains_n42 rfl rfl rfl (hK.nest 0 rfl) (hts (.initialized RX5) (by decide +kernel)) (by decide +kernel) ⟨Nat.le_of_ble_eq_true rfl, Nat.le_of_ble_eq_true rfl⟩, hts (.static yX5_contains) (by decide +kernel), trivial⟩ (kPreS hK kP0) rfl rfl hl.1 rfl (lv_room (Nat.le_of_ble_eq_true rfl)) dX0_firstTriple_25 ⟨Nat.zero_le _, Nat.zero_le _⟩) ?_
        refine lv_if_eq (tgt := 75) hx hb dX0_firstTriple_28 (by decide) (fun c_2 => ?_) (fun c_2 => ?_)
        · replace hE := hE.trans (if_pos c_2)
          refine lv_iinc (v := (nI (i13 + 1))) (lv' := [(4, .int (nI (i13 + 1))), (3, .int ((mX2_inPhase v 1) ||| (1 <<< (x2 &&& 31)))), (0, .ref (a 0)), (1, .int x2), (2, .int x3)]) hx hb dX0_firstTriple_75 hl (k := 0) rfl (nI_1 i13) (by decide) rfl (fun ls hl => ?_)
          refine lv_goto (tgt := 13) hx hb dX0_firstTriple_78 (by decide) ?_
          exact ih13 (i13 + 1) (by omega) (by omega) ls (lv_sub hl [0, 1, 2, 3, 4] rfl) hE
        · replace hE := hE.trans (if_neg c_2)
          refine lv_aload_n hx hb dX0_firstTriple_31 rfl (lv_at hl 2 rfl) ?_
          refine lv_iload hx hb dX0_firstTriple_32 (lv_at hl 0 rfl) ?_
          refine kCallRi (va_runV (As := [.int (nI i13)]) (rest := []) ⟨hx, hb, hml, hown, hts⟩ (c_X2_edgesTo l E a v (nI i13) (by first | assumption | exact tOK.nI (by omega)) (by first | assumption | exact tOK.nI (by omega)) _ rfl) (cwV 1 hts gX0_firstTriple_X2_edgesTo rfl rfl rfl (by decide +kernel) ⟨Nat.le_of_ble_eq_true rfl, Nat.le_of_ble_eq_true rfl⟩) (kPreV hK hP hP (q0 := 0) rfl rfl) rfl rfl hl.1 rfl (lv_room (Nat.le_of_ble_eq_true rfl)) dX0_firstTriple_34 ⟨Nat.zero_le _, Nat.zero_le _⟩) ?_
          refine lv_iload_n hx hb dX0_firstTriple_37 rfl (lv_at hl 1 rfl) ?_
          refine lv_iand hx hb dX0_firstTriple_38 ?_
          refine lv_istore (lv' := [(5, .int ((mX2_edgesTo v (nI i13)) &&& ((mX2_inPhase v 1) ||| (1 <<< (x2 &&& 31))))), (4, .int (nI i13)), (3, .int ((mX2_inPhase v 1) ||| (1 <<< (x2 &&& 31)))), (0, .ref (a 0)), (1, .int x2), (2, .int x3)]) hx hb dX0_firstTriple_39 hl (by decide) rfl (fun ls hl => ?_)
          refine lv_aload_n hx hb dX0_firstTriple_41 rfl (lv_at hl 3 rfl) ?_
          refine lv_iload hx hb dX0_firstTriple_42 (lv_at hl 1 rfl) ?_
          refine kCallRi (va_runV (As := [.int (nI i13)]) (rest := []) ⟨hx, hb, hml, hown, hts⟩ (c_X2_edgesFrom l E a v (nI i13) (by first | assumption | exact tOK.nI (by omega)) (by first | assumption | exact tOK.nI (by omega)) _ rfl) (cwV 1 hts gX0_firstTriple_X2_edgesFrom rfl rfl rfl (by decide +kernel) ⟨Nat.le_of_ble_eq_true rfl, Nat.le_of_ble_eq_true rfl⟩) (kPreV hK hP hP (q0 := 0) rfl rfl) rfl rfl hl.1 rfl (lv_room (Nat.le_of_ble_eq_true rfl)) dX0_firstTriple_44 ⟨Nat.zero_le _, Nat.zero_le _⟩) ?_
          refine lv_iload_n hx hb dX0_firstTriple_47 rfl (lv_at hl 2 rfl) ?_
          refine lv_iand hx hb dX0_firstTriple_48 ?_
          refine lv_istore (lv' := [(6, .int ((mX2_edgesFrom v (nI i13)) &&& ((mX2_inPhase v 1) ||| (1 <<< (x2 &&& 31))))), (5, .int ((mX2_edgesTo v (nI i13)) &&& ((mX2_inPhase v 1) ||| (1 <<< (x2 &&& 31))))), (4, .int (nI i13)), (3, .int ((mX2_inPhase v 1) ||| (1 <<< (x2 &&& 31)))), (0, .ref (a 0)), (1, .int x2), (2, .int x3)]) hx hb dX0_firstTriple_49 hl (by decide) rfl (fun ls hl => ?_)
          refine lv_aload_n hx hb dX0_firstTriple_51 rfl (lv_at hl 4 rfl) ?_
          refine lv_iload_n hx hb dX0_firstTriple_52 rfl (lv_at hl 5 rfl) ?_
          refine lv_iload_n hx hb dX0_firstTriple_53 rfl (lv_at hl 6 rfl) ?_
          refine lv_iload hx hb dX0_firstTriple_54 (lv_at hl 2 rfl) ?_
          refine lv_iload hx hb dX0_firstTriple_56 (lv_at hl 1 rfl) ?_
          refine lv_iload hx hb dX0_firstTriple_58 (lv_at hl 0 rfl) ?_
          refine kCallRi (va_runS (As := [.ref (a 0), .int x2, .int x3, .int (nI i13), .int ((mX2_edgesTo v (nI i13)) &&& ((mX2_inPhase v 1) ||| (1 <<< (x2 &&& 31)))), .int ((mX2_edgesFrom v (nI i13)) &&& ((mX2_inPhase v 1) ||| (1 <<< (x2 &&& 31))))]) (rest := []) ⟨hx, hb, hml, hown, hts⟩ (c_X0_firstOverPivot l E a v x2 x3 (nI i13) ((mX2_edgesTo v (nI i13)) &&& ((mX2_inPhase v 1) ||| (1 <<< (x2 &&& 31)))) ((mX2_edgesFrom v (nI i13)) &&& ((mX2_inPhase v 1) ||| (1 <<< (x2 &&& 31)))) (by first | assumption | exact tOK.nI (by omega)) (by first | assumption | exact tOK.nI (by omega)) _ rfl) (va_cwS 6 hts gX0_firstTriple_X0_firstOverPivot rfl rfl rfl (by decide +kernel) ⟨Nat.le_of_ble_eq_true rfl, Nat.le_of_ble_eq_true rfl⟩) (kPreS hK hP) rfl rfl hl.1 rfl (lv_room (Nat.le_of_ble_eq_true rfl)) dX0_firstTriple_60 ⟨Nat.zero_le _, Nat.zero_le _⟩) ?_
          refine lv_istore (lv' := [(7, .int (mX0_firstOverPivot v x2 x3 (nI i13) ((mX2_edgesTo v (nI i13)) &&& ((mX2_inPhase v 1) ||| (1 <<< (x2 &&& 31)))) ((mX2_edgesFrom v (nI i13)) &&& ((mX2_inPhase v 1) ||| (1 <<< (x2 &&& 31)))))), (6, .int ((mX2_edgesFrom v (nI i13)) &&& ((mX2_inPhase v 1) ||| (1 <<< (x2 &&& 31))))), (5, .int ((mX2_edgesTo v (nI i13)) &&& ((mX2_inPhase v 1) ||| (1 <<< (x2 &&& 31))))), (4, .int (nI i13)), (3, .int ((mX2_inPhase v 1) ||| (1 <<< (x2 &&& 31)))), (0, .ref (a 0)), (1, .int x2), (2, .int x3)]) hx hb dX0_firstTriple_63 hl (by decide) rfl (fun ls hl => ?_)
          refine lv_iload hx hb dX0_firstTriple_65 (lv_at hl 0 rfl) ?_
          refine lv_bipush (v := (-6)) hx hb dX0_firstTriple_67 (by decide) ?_
          refine lv_icmp_eq (tgt := 75) hx hb dX0_firstTriple_69 (by decide) (fun c_3 => ?_) (fun c_3 => ?_)
          · replace hE := hE.trans (if_pos c_3)
            refine lv_iinc (v := (nI (i13 + 1))) (lv' := [(4, .int (nI (i13 + 1))), (7, .int (mX0_firstOverPivot v x2 x3 (nI i13) ((mX2_edgesTo v (nI i13)) &&& ((mX2_inPhase v 1) ||| (1 <<< (x2 &&& 31)))) ((mX2_edgesFrom v (nI i13)) &&& ((mX2_inPhase v 1) ||| (1 <<< (x2 &&& 31)))))), (6, .int ((mX2_edgesFrom v (nI i13)) &&& ((mX2_inPhase v 1) ||| (1 <<< (x2 &&& 31))))), (5, .int ((mX2_edgesTo v (nI i13)) &&& ((mX2_inPhase v 1) ||| (1 <<< (x2 &&& 31))))), (3, .int ((mX2_inPhase v 1) ||| (1 <<< (x2 &&& 31)))), (0, .ref (a 0)), (1, .int x2), (2, .int x3)]) hx hb dX0_firstTriple_75 hl (k := 3) rfl (nI_1 i13) (by decide) rfl (fun ls hl => ?_)
            refine lv_goto (tgt := 13) hx hb dX0_firstTriple_78 (by decide) ?_
            exact ih13 (i13 + 1) (by omega) (by omega) ls (lv_sub hl [0, 4, 5, 6, 7] rfl) hE
          · replace hE := hE.trans (if_neg c_3)
            refine lv_iload hx hb dX0_firstTriple_72 (lv_at hl 0 rfl) ?_
            subst R
            exact W.iret (v := (mX0_firstOverPivot v x2 x3 (nI i13) ((mX2_edgesTo v (nI i13)) &&& ((mX2_inPhase v 1) ||| (1 <<< (x2 &&& 31)))) ((mX2_edgesFrom v (nI i13)) &&& ((mX2_inPhase v 1) ||| (1 <<< (x2 &&& 31)))))) hx hb hr (fun t ht hW => ⟨rfl, ht⟩) (fun _ h => by cases h) dX0_firstTriple_74
  exact lp13 13 0 (by omega) (by omega) ls (lv_sub hl [0, 1, 2, 3, 4] rfl) hE
def mX0_refusal (v : kG) (x2 : Int32) (x3 : Int32) : Int32 :=
  if (mX0_isLaterWriter v x2) = 0 then
    if (mX0_firstTriple v x2 x3) = (-6) then
      0
    else
      2
  else
    1
theorem mX0_refusal_s {v : kG} {x2 : Int32} {x3 : Int32} : mX0_refusal v x2 x3 = (
  if (mX0_isLaterWriter v x2) = 0 then
    if (mX0_firstTriple v x2 x3) = (-6) then
      0
    else
      2
  else
    1 : Int32) := rfl
set_option maxHeartbeats 400000 in
set_option maxRecDepth 100000 in
theorem c_X0_refusal (l : Launch) (E : kE) (a : Nat → Nat) (v : kG) (x2 : Int32) (x3 : Int32) (hn : nOK (v 0 2)) (ht : tOK x2) (R : Int32) (hE : R = mX0_refusal v x2 x3) : Met l yX0_refusal wsX0_refusal ({ frames := 3, cells := 0, slots := 0, locals := 80 }) (kPre E [.ref (a 0), .int x2, .int x3] (wLedx E a (v 0 0) (v 0 1) (v 0 2) (v 1) (v 2) (v 3) (v 4) (v 5) (v 6) (v 7))) (kRi R) 0 0 (fun _ => False) := by
  refine Met.ofW (cc := cX0_refusal) (maxL := 3) (ret := (some .int)) (by decide) rfl ?_
  intro p e s m args below meth c s₁ B hml hv
  obtain ⟨rfl, hK, hP⟩ := hv
  have hx := B.exec
  have hb := B.bytes
  have hr := B.returns
  have hts := atoms_spec (ws := wsX0_refusal) B.pre
  have hown : s.vm.findClass RX0 = some m.cls := findClass_of_methodNamed B.named
  have hlocks := B.notSynchronized
  have hP : va_P E.1 vwCl (wLedx E a (v 0 0) (v 0 1) (v 0 2) (v 1) (v 2) (v 3) (v 4) (v 5) (v 6) (v 7)) s.heap := hP
  have hl := lv_entry ([.ref (a 0), .int x2, .int x3]) (n := 3) (Nat.le_of_ble_eq_true rfl)
  rw [lg_entry_eq]
  generalize (lg_sl ([.ref (a 0), .int x2, .int x3]) ++ List.replicate (3 - (lg_sl ([.ref (a 0), .int x2, .int x3])).length) Slot.unset).toArray = ls at hl ⊢
  have hl : lv_has ls 3 [(0, .ref (a 0)), (1, .int x2), (2, .int x3)] := hl
  replace hE := hE.trans mX0_refusal_s
  refine lv_aload_n hx hb dX0_refusal_0 rfl (lv_at hl 0 rfl) ?_
  refine lv_iload_n hx hb dX0_refusal_1 rfl (lv_at hl 1 rfl) ?_
  refine kCallRi (va_runS (As := [.ref (a 0), .int x2]) (rest := []) ⟨hx, hb, hml, hown, hts⟩ (c_X0_isLaterWriter l E a v x2 (by first | assumption | exact tOK.nI (by omega)) (by first | assumption | exact tOK.nI (by omega)) _ rfl) (va_cwS 2 hts gX0_refusal_X0_isLaterWriter rfl rfl rfl (by decide +kernel) ⟨Nat.le_of_ble_eq_true rfl, Nat.le_of_ble_eq_true rfl⟩) (kPreS hK hP) rfl rfl hl.1 rfl (lv_room (Nat.le_of_ble_eq_true rfl)) dX0_refusal_2 ⟨Nat.zero_le _, Nat.zero_le _⟩) ?_
  refine lv_if_eq (tgt := 10) hx hb dX0_refusal_5 (by decide) (fun c_1 => ?_) (fun c_1 => ?_)
  · replace hE := hE.trans (if_pos c_1)
    refine lv_aload_n hx hb dX0_refusal_10 rfl (lv_at hl 0 rfl) ?_
    refine lv_iload_n hx hb dX0_refusal_11 rfl (lv_at hl 1 rfl) ?_
    refine lv_iload_n hx hb dX0_refusal_12 rfl (lv_at hl 2 rfl) ?_
    refine kCallRi (va_runS (As := [.ref (a 0), .int x2, .int x3]) (rest := []) ⟨hx, hb, hml, hown, hts⟩ (c_X0_firstTriple l E a v x2 x3 (by first | assumption | exact tOK.nI (by omega)) (by first | assumption | exact tOK.nI (by omega)) _ rfl) (va_cwS 3 hts gX0_refusal_X0_firstTriple rfl rfl rfl (by decide +kernel) ⟨Nat.le_of_ble_eq_true rfl, Nat.le_of_ble_eq_true rfl⟩) (kPreS hK hP) rfl rfl hl.1 rfl (lv_room (Nat.le_of_ble_eq_true rfl)) dX0_refusal_13 ⟨Nat.zero_le _, Nat.zero_le _⟩) ?_
    refine lv_bipush (v := (-6)) hx hb dX0_refusal_16 (by decide) ?_
    refine lv_icmp_ne (tgt := 25) hx hb dX0_refusal_18 (by decide) (fun c_2 => ?_) (fun c_2 => ?_)
    · replace hE := hE.trans (if_neg c_2)
      refine lv_iconst (v := 2) hx hb dX0_refusal_25 (by decide) ?_
      subst R
      exact W.iret (v := 2) hx hb hr (fun t ht hW => ⟨rfl, ht⟩) (fun _ h => by cases h) dX0_refusal_26
    · replace hE := hE.trans (if_pos c_2)
      refine lv_iconst (v := 0) hx hb dX0_refusal_21 (by decide) ?_
      refine lv_goto (tgt := 26) hx hb dX0_refusal_22 (by decide) ?_
      subst R
      exact W.iret (v := 0) hx hb hr (fun t ht hW => ⟨rfl, ht⟩) (fun _ h => by cases h) dX0_refusal_26
  · replace hE := hE.trans (if_neg c_1)
    refine lv_iconst (v := 1) hx hb dX0_refusal_8 (by decide) ?_
    subst R
    exact W.iret (v := 1) hx hb hr (fun t ht hW => ⟨rfl, ht⟩) (fun _ h => by cases h) dX0_refusal_9
def mX0_partOfTriple (x1 : Int32) (x2 : Int32) : Int32 :=
  if x2 = 0 then
    ((x1 >>> (4 &&& 31)) &&& 15)
  else
    if x2 = 1 then
      ((x1 >>> (8 &&& 31)) &&& 15)
    else
      (x1 &&& 15)
theorem mX0_partOfTriple_s {x1 : Int32} {x2 : Int32} : mX0_partOfTriple x1 x2 = (
  if x2 = 0 then
    ((x1 >>> (4 &&& 31)) &&& 15)
  else
    if x2 = 1 then
      ((x1 >>> (8 &&& 31)) &&& 15)
    else
      (x1 &&& 15) : Int32) := rfl
set_option maxHeartbeats 400000 in
set_option maxRecDepth 100000 in
theorem c_X0_partOfTriple (l : Launch) (E : kE) (x1 : Int32) (x2 : Int32) (R : Int32) (hE : R = mX0_partOfTriple x1 x2) : Met l yX0_partOfTriple wsX0_partOfTriple ({ frames := 0, cells := 0, slots := 0, locals := 0 }) (kPre E [.int x1, .int x2] []) (kRi R) 0 0 (fun _ => False) := by
  refine Met.ofW (cc := cX0_partOfTriple) (maxL := 2) (ret := (some .int)) (by decide) rfl ?_
  intro p e s m args below meth c s₁ B hml hv
  obtain ⟨rfl, hK, hP⟩ := hv
  have hx := B.exec
  have hb := B.bytes
  have hr := B.returns
  have hts := atoms_spec (ws := wsX0_partOfTriple) B.pre
  have hown : s.vm.findClass RX0 = some m.cls := findClass_of_methodNamed B.named
  have hlocks := B.notSynchronized
  have hl := lv_entry ([.int x1, .int x2]) (n := 2) (Nat.le_of_ble_eq_true rfl)
  rw [lg_entry_eq]
  generalize (lg_sl ([.int x1, .int x2]) ++ List.replicate (2 - (lg_sl ([.int x1, .int x2])).length) Slot.unset).toArray = ls at hl ⊢
  have hl : lv_has ls 2 [(0, .int x1), (1, .int x2)] := hl
  replace hE := hE.trans mX0_partOfTriple_s
  refine lv_iload_n hx hb dX0_partOfTriple_0 rfl (lv_at hl 1 rfl) ?_
  by_cases c_1 : x2 = 0
  · replace hE := hE.trans (if_pos c_1)
    refine W.eq (g2 := F0 m 1 ls ([.int 0])) (by rw [c_1]) ?_
    refine lv_lookup (tgt := 28) (off := 27) hx hb dX0_partOfTriple_1 (by decide) (by decide) (by decide) ?_
    refine lv_iload_n hx hb dX0_partOfTriple_28 rfl (lv_at hl 0 rfl) ?_
    refine lv_iconst (v := 4) hx hb dX0_partOfTriple_29 (by decide) ?_
    refine lv_ishr hx hb dX0_partOfTriple_30 ?_
    refine lv_bipush (v := 15) hx hb dX0_partOfTriple_31 (by decide) ?_
    refine lv_iand hx hb dX0_partOfTriple_33 ?_
    subst R
    exact W.iret (v := ((x1 >>> (4 &&& 31)) &&& 15)) hx hb hr (fun t ht hW => ⟨rfl, ht⟩) (fun _ h => by cases h) dX0_partOfTriple_34
  · replace hE := hE.trans (if_neg c_1)
    by_cases c_2 : x2 = 1
    · replace hE := hE.trans (if_pos c_2)
      refine W.eq (g2 := F0 m 1 ls ([.int 1])) (by rw [c_2]) ?_
      refine lv_lookup (tgt := 35) (off := 34) hx hb dX0_partOfTriple_1 (by decide) (by decide) (by decide) ?_
      refine lv_iload_n hx hb dX0_partOfTriple_35 rfl (lv_at hl 0 rfl) ?_
      refine lv_bipush (v := 8) hx hb dX0_partOfTriple_36 (by decide) ?_
      refine lv_ishr hx hb dX0_partOfTriple_38 ?_
      refine lv_bipush (v := 15) hx hb dX0_partOfTriple_39 (by decide) ?_
      refine lv_iand hx hb dX0_partOfTriple_41 ?_
      subst R
      exact W.iret (v := ((x1 >>> (8 &&& 31)) &&& 15)) hx hb hr (fun t ht hW => ⟨rfl, ht⟩) (fun _ h => by cases h) dX0_partOfTriple_42
    · replace hE := hE.trans (if_neg c_2)
      refine lv_lookup (tgt := 43) (off := 42) hx hb dX0_partOfTriple_1 (by decide) (klook2 c_1 c_2) (by decide) ?_
      refine lv_iload_n hx hb dX0_partOfTriple_43 rfl (lv_at hl 0 rfl) ?_
      refine lv_bipush (v := 15) hx hb dX0_partOfTriple_44 (by decide) ?_
      refine lv_iand hx hb dX0_partOfTriple_46 ?_
      subst R
      exact W.iret (v := (x1 &&& 15)) hx hb hr (fun t ht hW => ⟨rfl, ht⟩) (fun _ h => by cases h) dX0_partOfTriple_47
def mX2_finish (v : kG) (x1 : Int32) : Int32 × Int32 × (Nat → Int32) × (Nat → Int32) × (Nat → Int32) :=
  if (mX2_exists v x1) = 0 then
    ((-1), (v 0 1), (v 1), (v 3), (v 6))
  else
    if ((v 1) (x1).toNatClampNeg) = 0 then
      if (mX0_refusal v x1 (v 0 0)) = 0 then
        (0, ((v 0 1) + 1), (upd (v 1) (x1).toNatClampNeg 1), (upd (v 3) (x1).toNatClampNeg ((v 0 1) + 1)), (v 6))
      else
        ((mX0_refusal v x1 (v 0 0)), (v 0 1), (upd (v 1) (x1).toNatClampNeg 2), (v 3), (upd (v 6) (x1).toNatClampNeg (mX0_refusal v x1 (v 0 0))))
    else
      ((-5), (v 0 1), (v 1), (v 3), (v 6))
theorem mX2_finish_s {v : kG} {x1 : Int32} : mX2_finish v x1 = (
  if (mX2_exists v x1) = 0 then
    ((-1), (v 0 1), (v 1), (v 3), (v 6))
  else
    if ((v 1) (x1).toNatClampNeg) = 0 then
      if (mX0_refusal v x1 (v 0 0)) = 0 then
        (0, ((v 0 1) + 1), (upd (v 1) (x1).toNatClampNeg 1), (upd (v 3) (x1).toNatClampNeg ((v 0 1) + 1)), (v 6))
      else
        ((mX0_refusal v x1 (v 0 0)), (v 0 1), (upd (v 1) (x1).toNatClampNeg 2), (v 3), (upd (v 6) (x1).toNatClampNeg (mX0_refusal v x1 (v 0 0))))
    else
      ((-5), (v 0 1), (v 1), (v 3), (v 6)) : Int32 × Int32 × (Nat → Int32) × (Nat → Int32) × (Nat → Int32)) := rfl
set_option maxHeartbeats 400000 in
set_option maxRecDepth 100000 in
theorem c_X2_finish (l : Launch) (E : kE) (a : Nat → Nat) (v : kG) (hj : kInj a 8) (x1 : Int32) (hn : nOK (v 0 2)) (R : Int32 × Int32 × (Nat → Int32) × (Nat → Int32) × (Nat → Int32)) (hE : R = mX2_finish v x1) : Met l yX2_finish wsX2_finish ({ frames := 4, cells := 0, slots := 0, locals := 102 }) (kPre E [.ref (a 0), .int x1] (wLedx E a (v 0 0) (v 0 1) (v 0 2) (v 1) (v 2) (v 3) (v 4) (v 5) (v 6) (v 7))) (kWi E R.1 (wLedx E a (v 0 0) R.2.1 (v 0 2) R.2.2.1 (v 2) R.2.2.2.1 (v 4) (v 5) R.2.2.2.2 (v 7)) (kA a 8)) 0 0 (kA a 8) := by
  refine Met.ofW (cc := cX2_finish) (maxL := 3) (ret := (some .int)) (by decide) rfl ?_
  intro p e s m args below meth c s₁ B hml hv
  obtain ⟨rfl, hK, hP⟩ := hv
  have hx := B.exec
  have hb := B.bytes
  have hr := B.returns
  have hts := atoms_spec (ws := wsX2_finish) B.pre
  have hown : s.vm.findClass RX2 = some m.cls := findClass_of_methodNamed B.named
  have hlocks := B.notSynchronized
  have hiX2 : ∀ w ∈ wsX20, w ∈ wsX2_finish := by decide +kernel
  have hf9 := hts (.fieldLink RX2 9 "SkewEdges$Ledger" "rule" "I") (by decide +kernel)
  have hf15 := hts (.fieldLink RX2 15 "SkewEdges$Ledger" "moment" "I") (by decide +kernel)
  have hf21 := hts (.fieldLink RX2 21 "SkewEdges$Ledger" "phase" "[I") (by decide +kernel)
  have hf28 := hts (.fieldLink RX2 28 "SkewEdges$Ledger" "committedAt" "[I") (by decide +kernel)
  have hf37 := hts (.fieldLink RX2 37 "SkewEdges$Ledger" "reason" "[I") (by decide +kernel)
  have hS : va_S (kA a 8) s.heap s.heap [] := va_S.rf
  have hP : va_P E.1 vwCl (wLedx E a (v 0 0) (v 0 1) (v 0 2) (v 1) (v 2) (v 3) (v 4) (v 5) (v 6) (v 7)) s.heap := hP
  have hD := dLed (E := E) hj (v 0 0) (v 0 1) (v 0 2) (v 1) (v 2) (v 3) (v 4) (v 5) (v 6) (v 7)
  have hl := lv_entry ([.ref (a 0), .int x1]) (n := 3) (Nat.le_of_ble_eq_true rfl)
  rw [lg_entry_eq]
  generalize (lg_sl ([.ref (a 0), .int x1]) ++ List.replicate (3 - (lg_sl ([.ref (a 0), .int x1])).length) Slot.unset).toArray = ls at hl ⊢
  have hl : lv_has ls 3 [(0, .ref (a 0)), (1, .int x1)] := hl
  replace hE := hE.trans mX2_finish_s
  refine lv_aload_n hx hb dX2_finish_0 rfl (lv_at hl 0 rfl) ?_
  refine lv_iload_n hx hb dX2_finish_1 rfl (lv_at hl 1 rfl) ?_
  refine kCallRi (va_runV (As := [.int x1]) (rest := []) ⟨hx, hb, hml, hown, hts⟩ (c_X2_exists l E a v x1 _ rfl) (cwV 1 hts gX2_finish_X2_exists rfl rfl rfl (by decide +kernel) ⟨Nat.le_of_ble_eq_true rfl, Nat.le_of_ble_eq_true rfl⟩) (kPreV hK hP hP (q0 := 0) rfl rfl) rfl rfl hl.1 rfl (lv_room (Nat.le_of_ble_eq_true rfl)) dX2_finish_2 ⟨Nat.zero_le _, Nat.zero_le _⟩) ?_
  refine lv_if_ne (tgt := 10) hx hb dX2_finish_5 (by decide) (fun c_1 => ?_) (fun c_1 => ?_)
  · replace hE := hE.trans (if_neg c_1)
    have hzc_1 := exists_ok (by assumption) c_1
    refine lv_aload_n hx hb dX2_finish_10 rfl (lv_at hl 0 rfl) ?_
    refine va_get (D := E.1) (ci := 1) (v := .ref (a 1)) (C := RX2) (T := TX2) (N := 10) hx hb hts hiX2 hown hK.1 hP 0 rfl rfl 3 (by decide) hf21 (fun _ h9 => h9) rfl dX2_finish_11 ?_
    refine lv_iload_n hx hb dX2_finish_14 rfl (lv_at hl 1 rfl) ?_
    refine va_iald (D := E.1) hx hb hK.1 hP 1 0 rfl rfl (tOK.in12 (by assumption)) dX2_finish_15 ?_
    refine lv_if_eq (tgt := 22) hx hb dX2_finish_16 (by decide) (fun c_2 => ?_) (fun c_2 => ?_)
    · replace hE := hE.trans (if_pos c_2)
      refine lv_aload_n hx hb dX2_finish_22 rfl (lv_at hl 0 rfl) ?_
      refine lv_iload_n hx hb dX2_finish_23 rfl (lv_at hl 1 rfl) ?_
      refine lv_aload_n hx hb dX2_finish_24 rfl (lv_at hl 0 rfl) ?_
      refine va_get (D := E.1) (ci := 1) (v := .int (v 0 0)) (C := RX2) (T := TX2) (N := 10) hx hb hts hiX2 hown hK.1 hP 0 rfl rfl 0 (by decide) hf9 (fun _ h9 => h9) rfl dX2_finish_25 ?_
      refine kCallRi (va_runS (As := [.ref (a 0), .int x1, .int (v 0 0)]) (rest := []) ⟨hx, hb, hml, hown, hts⟩ (c_X0_refusal l E a v x1 (v 0 0) (by first | assumption | exact tOK.nI (by omega)) (by first | assumption | exact tOK.nI (by omega)) _ rfl) (va_cwS 3 hts gX2_finish_X0_refusal rfl rfl rfl (by decide +kernel) ⟨Nat.le_of_ble_eq_true rfl, Nat.le_of_ble_eq_true rfl⟩) (kPreS hK hP) rfl rfl hl.1 rfl (lv_room (Nat.le_of_ble_eq_true rfl)) dX2_finish_28 ⟨Nat.zero_le _, Nat.zero_le _⟩) ?_
      refine lv_istore_n (lv' := [(2, .int (mX0_refusal v x1 (v 0 0))), (0, .ref (a 0)), (1, .int x1)]) hx hb dX2_finish_31 rfl hl (by decide) rfl (fun ls hl => ?_)
      refine lv_iload_n hx hb dX2_finish_32 rfl (lv_at hl 0 rfl) ?_
      refine lv_if_eq (tgt := 52) hx hb dX2_finish_33 (by decide) (fun c_3 => ?_) (fun c_3 => ?_)
      · replace hE := hE.trans (if_pos c_3)
        refine lv_aload_n hx hb dX2_finish_52 rfl (lv_at hl 1 rfl) ?_
        refine lv_dup hx hb dX2_finish_53 rfl ?_
        refine va_get (D := E.1) (ci := 1) (v := .int (v 0 1)) (C := RX2) (T := TX2) (N := 10) hx hb hts hiX2 hown hK.1 hP 0 rfl rfl 1 (by decide) hf15 (fun _ h9 => h9) rfl dX2_finish_54 ?_
        refine lv_iconst (v := 1) hx hb dX2_finish_57 (by decide) ?_
        refine lv_iadd hx hb dX2_finish_58 ?_
        refine va_put (D := E.1) (ci := 1) (v := .int ((v 0 1) + 1)) (ty := .int) (C := RX2) (T := TX2) (N := 10) hx hb hts hiX2 tyX2 tyX2_ok nmX2 hown hK.1 hP hD hS 0 rfl rfl 1 (by decide) hf15 (fun _ h9 => h9) rfl (by decide +kernel) rfl rfl (Nat.le_of_ble_eq_true rfl) dX2_finish_59 (fun H locs hP _ hS => ?_)
        have hP : va_P E.1 vwCl (wLedx E a (v 0 0) ((v 0 1) + 1) (v 0 2) (v 1) (v 2) (v 3) (v 4) (v 5) (v 6) (v 7)) H := hP
        have hD := dLed (E := E) hj (v 0 0) ((v 0 1) + 1) (v 0 2) (v 1) (v 2) (v 3) (v 4) (v 5) (v 6) (v 7)
        refine lv_aload_n hx hb dX2_finish_62 rfl (lv_at hl 1 rfl) ?_
        refine va_get (D := E.1) (ci := 1) (v := .ref (a 1)) (C := RX2) (T := TX2) (N := 10) hx hb hts hiX2 hown hK.1 hP 0 rfl rfl 3 (by decide) hf21 (fun _ h9 => h9) rfl dX2_finish_63 ?_
        refine lv_iload_n hx hb dX2_finish_66 rfl (lv_at hl 2 rfl) ?_
        refine lv_iconst (v := 1) hx hb dX2_finish_67 (by decide) ?_
        refine va_iast (D := E.1) hx hb hK.1 hP hD hS 1 0 rfl rfl (tOK.in12 (by assumption)) dX2_finish_68 (fun H locs hP _ hS => ?_)
        have hP : va_P E.1 vwCl (wLedx E a (v 0 0) ((v 0 1) + 1) (v 0 2) (upd (v 1) (x1).toNatClampNeg 1) (v 2) (v 3) (v 4) (v 5) (v 6) (v 7)) H := hP
        have hD := dLed (E := E) hj (v 0 0) ((v 0 1) + 1) (v 0 2) (upd (v 1) (x1).toNatClampNeg 1) (v 2) (v 3) (v 4) (v 5) (v 6) (v 7)
        refine lv_aload_n hx hb dX2_finish_69 rfl (lv_at hl 1 rfl) ?_
        refine va_get (D := E.1) (ci := 1) (v := .ref (a 3)) (C := RX2) (T := TX2) (N := 10) hx hb hts hiX2 hown hK.1 hP 0 rfl rfl 5 (by decide) hf28 (fun _ h9 => h9) rfl dX2_finish_70 ?_
        refine lv_iload_n hx hb dX2_finish_73 rfl (lv_at hl 2 rfl) ?_
        refine lv_aload_n hx hb dX2_finish_74 rfl (lv_at hl 1 rfl) ?_
        refine va_get (D := E.1) (ci := 1) (v := .int ((v 0 1) + 1)) (C := RX2) (T := TX2) (N := 10) hx hb hts hiX2 hown hK.1 hP 0 rfl rfl 1 (by decide) hf15 (fun _ h9 => h9) rfl dX2_finish_75 ?_
        refine va_iast (D := E.1) hx hb hK.1 hP hD hS 3 0 rfl rfl (tOK.in12 (by assumption)) dX2_finish_78 (fun H locs hP _ hS => ?_)
        have hP : va_P E.1 vwCl (wLedx E a (v 0 0) ((v 0 1) + 1) (v 0 2) (upd (v 1) (x1).toNatClampNeg 1) (v 2) (upd (v 3) (x1).toNatClampNeg ((v 0 1) + 1)) (v 4) (v 5) (v 6) (v 7)) H := hP
        have hD := dLed (E := E) hj (v 0 0) ((v 0 1) + 1) (v 0 2) (upd (v 1) (x1).toNatClampNeg 1) (v 2) (upd (v 3) (x1).toNatClampNeg ((v 0 1) + 1)) (v 4) (v 5) (v 6) (v 7)
        refine lv_iconst (v := 0) hx hb dX2_finish_79 (by decide) ?_
        subst R
        exact W.iret (v := 0) hx hb hr (fun t ht hW => ⟨rfl, by rw [ht]; exact hP, hS.F ht⟩) hS.2.2 dX2_finish_80
      · replace hE := hE.trans (if_neg c_3)
        refine lv_aload_n hx hb dX2_finish_36 rfl (lv_at hl 1 rfl) ?_
        refine va_get (D := E.1) (ci := 1) (v := .ref (a 1)) (C := RX2) (T := TX2) (N := 10) hx hb hts hiX2 hown hK.1 hP 0 rfl rfl 3 (by decide) hf21 (fun _ h9 => h9) rfl dX2_finish_37 ?_
        refine lv_iload_n hx hb dX2_finish_40 rfl (lv_at hl 2 rfl) ?_
        refine lv_iconst (v := 2) hx hb dX2_finish_41 (by decide) ?_
        refine va_iast (D := E.1) hx hb hK.1 hP hD hS 1 0 rfl rfl (tOK.in12 (by assumption)) dX2_finish_42 (fun H locs hP _ hS => ?_)
        have hP : va_P E.1 vwCl (wLedx E a (v 0 0) (v 0 1) (v 0 2) (upd (v 1) (x1).toNatClampNeg 2) (v 2) (v 3) (v 4) (v 5) (v 6) (v 7)) H := hP
        have hD := dLed (E := E) hj (v 0 0) (v 0 1) (v 0 2) (upd (v 1) (x1).toNatClampNeg 2) (v 2) (v 3) (v 4) (v 5) (v 6) (v 7)
        refine lv_aload_n hx hb dX2_finish_43 rfl (lv_at hl 1 rfl) ?_
        refine va_get (D := E.1) (ci := 1) (v := .ref (a 6)) (C := RX2) (T := TX2) (N := 10) hx hb hts hiX2 hown hK.1 hP 0 rfl rfl 8 (by decide) hf37 (fun _ h9 => h9) rfl dX2_finish_44 ?_
        refine lv_iload_n hx hb dX2_finish_47 rfl (lv_at hl 2 rfl) ?_
        refine lv_iload_n hx hb dX2_finish_48 rfl (lv_at hl 0 rfl) ?_
        refine va_iast (D := E.1) hx hb hK.1 hP hD hS 6 0 rfl rfl (tOK.in12 (by assumption)) dX2_finish_49 (fun H locs hP _ hS => ?_)
        have hP : va_P E.1 vwCl (wLedx E a (v 0 0) (v 0 1) (v 0 2) (upd (v 1) (x1).toNatClampNeg 2) (v 2) (v 3) (v 4) (v 5) (upd (v 6) (x1).toNatClampNeg (mX0_refusal v x1 (v 0 0))) (v 7)) H := hP
        have hD := dLed (E := E) hj (v 0 0) (v 0 1) (v 0 2) (upd (v 1) (x1).toNatClampNeg 2) (v 2) (v 3) (v 4) (v 5) (upd (v 6) (x1).toNatClampNeg (mX0_refusal v x1 (v 0 0))) (v 7)
        refine lv_iload_n hx hb dX2_finish_50 rfl (lv_at hl 0 rfl) ?_
        subst R
        exact W.iret (v := (mX0_refusal v x1 (v 0 0))) hx hb hr (fun t ht hW => ⟨rfl, by rw [ht]; exact hP, hS.F ht⟩) hS.2.2 dX2_finish_51
    · replace hE := hE.trans (if_neg c_2)
      refine lv_bipush (v := (-5)) hx hb dX2_finish_19 (by decide) ?_
      subst R
      exact W.iret (v := (-5)) hx hb hr (fun t ht hW => ⟨rfl, by rw [ht]; exact hP, hS.F ht⟩) hS.2.2 dX2_finish_21
  · replace hE := hE.trans (if_pos c_1)
    refine lv_iconst (v := (-1)) hx hb dX2_finish_8 (by decide) ?_
    subst R
    exact W.iret (v := (-1)) hx hb hr (fun t ht hW => ⟨rfl, by rw [ht]; exact hP, hS.F ht⟩) hS.2.2 dX2_finish_9
