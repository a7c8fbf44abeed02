def mX5_of (S : kS) (x1 : Int32) (x2 : Int32) : Int32 :=
  if (mX2_exists (S 0) x1) = 0 then
    (-1)
  else
    if x2 = 0 then
      (((S 0) 1) (x1).toNatClampNeg)
    else
      if x2 = 1 then
        (((S 0) 2) (x1).toNatClampNeg)
      else
        if x2 = 2 then
          (((S 0) 3) (x1).toNatClampNeg)
        else
          if x2 = 3 then
            (((S 0) 4) (x1).toNatClampNeg)
          else
            if x2 = 4 then
              (((S 0) 5) (x1).toNatClampNeg)
            else
              if x2 = 5 then
                (mX2_edgesFrom (S 0) x1)
              else
                if x2 = 6 then
                  (mX2_edgesTo (S 0) x1)
                else
                  if x2 = 7 then
                    (((S 0) 6) (x1).toNatClampNeg)
                  else
                    if x2 = 8 then
                      (mX2_snapshot (S 0) x1)
                    else
                      (-2)
theorem mX5_of_s {S : kS} {x1 : Int32} {x2 : Int32} : mX5_of S x1 x2 = (
  if (mX2_exists (S 0) x1) = 0 then
    (-1)
  else
    if x2 = 0 then
      (((S 0) 1) (x1).toNatClampNeg)
    else
      if x2 = 1 then
        (((S 0) 2) (x1).toNatClampNeg)
      else
        if x2 = 2 then
          (((S 0) 3) (x1).toNatClampNeg)
        else
          if x2 = 3 then
            (((S 0) 4) (x1).toNatClampNeg)
          else
            if x2 = 4 then
              (((S 0) 5) (x1).toNatClampNeg)
            else
              if x2 = 5 then
                (mX2_edgesFrom (S 0) x1)
              else
                if x2 = 6 then
                  (mX2_edgesTo (S 0) x1)
                else
                  if x2 = 7 then
                    (((S 0) 6) (x1).toNatClampNeg)
                  else
                    if x2 = 8 then
                      (mX2_snapshot (S 0) x1)
                    else
                      (-2) : Int32) := rfl
set_option maxHeartbeats 400000 in
set_option maxRecDepth 100000 in
theorem c_X5_of (l : Launch) (E : kE) (ad : Nat → Nat) (S : kS) (hs : kSep ad) (x1 : Int32) (x2 : Int32) (hn : nOK (S 0 0 2)) (R : Int32) (hE : R = mX5_of S x1 x2) : Met l yX5_of wsX5_of ({ frames := 4, cells := 0, slots := 0, locals := 92 }) (kPreY E [.ref (ad 80), .int x1, .int x2] ad S) (kRi R) 0 0 (fun _ => False) := by
  refine Met.ofW (cc := cX5_of) (maxL := 3) (ret := (some .int)) (by decide) rfl ?_
  intro p e s m args below meth c s₁ B hml hv
  obtain ⟨rfl, hK, hY⟩ := hv
  have hx := B.exec
  have hb := B.bytes
  have hr := B.returns
  have hts := atoms_spec (ws := wsX5_of) B.pre
  have hown : s.vm.findClass RX5 = some m.cls := findClass_of_methodNamed B.named
  have hlocks := B.notSynchronized
  have hiX5 : ∀ w ∈ wsX50, w ∈ wsX5_of := by decide +kernel
  have hiX2 : ∀ w ∈ wsX20, w ∈ wsX5_of := by decide +kernel
  have hf10 := hts (.fieldLink RX5 10 "SkewEdges" "ledger" "LSkewEdges$Ledger;") (by decide +kernel)
  have hf91 := hts (.fieldLink RX5 91 "SkewEdges$Ledger" "phase" "[I") (by decide +kernel)
  have hf95 := hts (.fieldLink RX5 95 "SkewEdges$Ledger" "beganAt" "[I") (by decide +kernel)
  have hf98 := hts (.fieldLink RX5 98 "SkewEdges$Ledger" "committedAt" "[I") (by decide +kernel)
  have hf101 := hts (.fieldLink RX5 101 "SkewEdges$Ledger" "readKeys" "[I") (by decide +kernel)
  have hf104 := hts (.fieldLink RX5 104 "SkewEdges$Ledger" "writtenKeys" "[I") (by decide +kernel)
  have hf113 := hts (.fieldLink RX5 113 "SkewEdges$Ledger" "reason" "[I") (by decide +kernel)
  have hl := lv_entry ([.ref (ad 80), .int x1, .int x2]) (n := 3) (Nat.le_of_ble_eq_true rfl)
  rw [lg_entry_eq]
  generalize (lg_sl ([.ref (ad 80), .int x1, .int x2]) ++ List.replicate (3 - (lg_sl ([.ref (ad 80), .int x1, .int x2])).length) Slot.unset).toArray = ls at hl ⊢
  have hl : lv_has ls 3 [(0, .ref (ad 80)), (1, .int x1), (2, .int x2)] := hl
  replace hE := hE.trans mX5_of_s
  refine lv_aload_n hx hb dX5_of_0 rfl (lv_at hl 0 rfl) ?_
  refine va_get (D := E.1) (ci := 4) (v := .ref (ad 0)) (C := RX5) (T := TX5) (N := 6) hx hb hts hiX5 hown hK.1 hY.2.1 0 rfl rfl 0 (by decide) hf10 (fun _ h9 => h9) rfl dX5_of_1 ?_
  refine lv_iload_n hx hb dX5_of_4 rfl (lv_at hl 1 rfl) ?_
  refine kCallRi (va_runV (As := [.int x1]) (rest := []) ⟨hx, hb, hml, hown, hts⟩ (c_X2_exists l E (ga ad (8 * 0)) (S 0) x1 _ rfl) (cwV 1 hts gX5_of_X2_exists rfl rfl rfl (by decide +kernel) ⟨Nat.le_of_ble_eq_true rfl, Nat.le_of_ble_eq_true rfl⟩) (kPreV hK (hY.1 0 (by omega)) (hY.1 0 (by omega)) (q0 := 0) rfl rfl) rfl rfl hl.1 rfl (lv_room (Nat.le_of_ble_eq_true rfl)) dX5_of_5 ⟨Nat.zero_le _, Nat.zero_le _⟩) ?_
  refine lv_if_ne (tgt := 13) hx hb dX5_of_8 (by decide) (fun c_1 => ?_) (fun c_1 => ?_)
  · replace hE := hE.trans (if_neg c_1)
    have hzc_1 := exists_ok (by assumption) c_1
    refine lv_iload_n hx hb dX5_of_13 rfl (lv_at hl 2 rfl) ?_
    by_cases c_2 : x2 = 0
    · replace hE := hE.trans (if_pos c_2)
      refine W.eq (g2 := F0 m 14 ls ([.int 0])) (by rw [c_2]) ?_
      refine lv_tableIn (tgt := 64) hx hb dX5_of_14 (by decide) (by decide) rfl (by decide) ?_
      refine lv_aload_n hx hb dX5_of_64 rfl (lv_at hl 0 rfl) ?_
      refine va_get (D := E.1) (ci := 4) (v := .ref (ad 0)) (C := RX5) (T := TX5) (N := 6) hx hb hts hiX5 hown hK.1 hY.2.1 0 rfl rfl 0 (by decide) hf10 (fun _ h9 => h9) rfl dX5_of_65 ?_
      refine va_get (D := E.1) (ci := 1) (v := .ref (ga ad (8 * 0) 1)) (C := RX2) (T := TX2) (N := 10) hx hb hts hiX2 hown hK.1 (hY.1 0 (by omega)) 0 rfl rfl 3 (by decide) hf91 (fun _ h9 => h9) rfl dX5_of_68 ?_
      refine lv_iload_n hx hb dX5_of_71 rfl (lv_at hl 1 rfl) ?_
      refine va_iald (D := E.1) hx hb hK.1 (hY.1 0 (by omega)) 1 0 rfl rfl (tOK.in12 (by assumption)) dX5_of_72 ?_
      subst R
      exact W.iret (v := (((S 0) 1) (x1).toNatClampNeg)) hx hb hr (fun t ht hW => ⟨rfl, ht⟩) (fun _ h => by cases h) dX5_of_73
    · replace hE := hE.trans (if_neg c_2)
      by_cases c_3 : x2 = 1
      · replace hE := hE.trans (if_pos c_3)
        refine W.eq (g2 := F0 m 14 ls ([.int 1])) (by rw [c_3]) ?_
        refine lv_tableIn (tgt := 74) hx hb dX5_of_14 (by decide) (by decide) rfl (by decide) ?_
        refine lv_aload_n hx hb dX5_of_74 rfl (lv_at hl 0 rfl) ?_
        refine va_get (D := E.1) (ci := 4) (v := .ref (ad 0)) (C := RX5) (T := TX5) (N := 6) hx hb hts hiX5 hown hK.1 hY.2.1 0 rfl rfl 0 (by decide) hf10 (fun _ h9 => h9) rfl dX5_of_75 ?_
        refine va_get (D := E.1) (ci := 1) (v := .ref (ga ad (8 * 0) 2)) (C := RX2) (T := TX2) (N := 10) hx hb hts hiX2 hown hK.1 (hY.1 0 (by omega)) 0 rfl rfl 4 (by decide) hf95 (fun _ h9 => h9) rfl dX5_of_78 ?_
        refine lv_iload_n hx hb dX5_of_81 rfl (lv_at hl 1 rfl) ?_
        refine va_iald (D := E.1) hx hb hK.1 (hY.1 0 (by omega)) 2 0 rfl rfl (tOK.in12 (by assumption)) dX5_of_82 ?_
        subst R
        exact W.iret (v := (((S 0) 2) (x1).toNatClampNeg)) hx hb hr (fun t ht hW => ⟨rfl, ht⟩) (fun _ h => by cases h) dX5_of_83
      · replace hE := hE.trans (if_neg c_3)
        by_cases c_4 : x2 = 2
        · replace hE := hE.trans (if_pos c_4)
          refine W.eq (g2 := F0 m 14 ls ([.int 2])) (by rw [c_4]) ?_
          refine lv_tableIn (tgt := 84) hx hb dX5_of_14 (by decide) (by decide) rfl (by decide) ?_
          refine lv_aload_n hx hb dX5_of_84 rfl (lv_at hl 0 rfl) ?_
          refine va_get (D := E.1) (ci := 4) (v := .ref (ad 0)) (C := RX5) (T := TX5) (N := 6) hx hb hts hiX5 hown hK.1 hY.2.1 0 rfl rfl 0 (by decide) hf10 (fun _ h9 => h9) rfl dX5_of_85 ?_
          refine va_get (D := E.1) (ci := 1) (v := .ref (ga ad (8 * 0) 3)) (C := RX2) (T := TX2) (N := 10) hx hb hts hiX2 hown hK.1 (hY.1 0 (by omega)) 0 rfl rfl 5 (by decide) hf98 (fun _ h9 => h9) rfl dX5_of_88 ?_
          refine lv_iload_n hx hb dX5_of_91 rfl (lv_at hl 1 rfl) ?_
          refine va_iald (D := E.1) hx hb hK.1 (hY.1 0 (by omega)) 3 0 rfl rfl (tOK.in12 (by assumption)) dX5_of_92 ?_
          subst R
          exact W.iret (v := (((S 0) 3) (x1).toNatClampNeg)) hx hb hr (fun t ht hW => ⟨rfl, ht⟩) (fun _ h => by cases h) dX5_of_93
        · replace hE := hE.trans (if_neg c_4)
          by_cases c_5 : x2 = 3
          · replace hE := hE.trans (if_pos c_5)
            refine W.eq (g2 := F0 m 14 ls ([.int 3])) (by rw [c_5]) ?_
            refine lv_tableIn (tgt := 94) hx hb dX5_of_14 (by decide) (by decide) rfl (by decide) ?_
            refine lv_aload_n hx hb dX5_of_94 rfl (lv_at hl 0 rfl) ?_
            refine va_get (D := E.1) (ci := 4) (v := .ref (ad 0)) (C := RX5) (T := TX5) (N := 6) hx hb hts hiX5 hown hK.1 hY.2.1 0 rfl rfl 0 (by decide) hf10 (fun _ h9 => h9) rfl dX5_of_95 ?_
            refine va_get (D := E.1) (ci := 1) (v := .ref (ga ad (8 * 0) 4)) (C := RX2) (T := TX2) (N := 10) hx hb hts hiX2 hown hK.1 (hY.1 0 (by omega)) 0 rfl rfl 6 (by decide) hf101 (fun _ h9 => h9) rfl dX5_of_98 ?_
            refine lv_iload_n hx hb dX5_of_101 rfl (lv_at hl 1 rfl) ?_
            refine va_iald (D := E.1) hx hb hK.1 (hY.1 0 (by omega)) 4 0 rfl rfl (tOK.in12 (by assumption)) dX5_of_102 ?_
            subst R
            exact W.iret (v := (((S 0) 4) (x1).toNatClampNeg)) hx hb hr (fun t ht hW => ⟨rfl, ht⟩) (fun _ h => by cases h) dX5_of_103
          · replace hE := hE.trans (if_neg c_5)
            by_cases c_6 : x2 = 4
            · replace hE := hE.trans (if_pos c_6)
              refine W.eq (g2 := F0 m 14 ls ([.int 4])) (by rw [c_6]) ?_
              refine lv_tableIn (tgt := 104) hx hb dX5_of_14 (by decide) (by decide) rfl (by decide) ?_
              refine lv_aload_n hx hb dX5_of_104 rfl (lv_at hl 0 rfl) ?_
              refine va_get (D := E.1) (ci := 4) (v := .ref (ad 0)) (C := RX5) (T := TX5) (N := 6) hx hb hts hiX5 hown hK.1 hY.2.1 0 rfl rfl 0 (by decide) hf10 (fun _ h9 => h9) rfl dX5_of_105 ?_
              refine va_get (D := E.1) (ci := 1) (v := .ref (ga ad (8 * 0) 5)) (C := RX2) (T := TX2) (N := 10) hx hb hts hiX2 hown hK.1 (hY.1 0 (by omega)) 0 rfl rfl 7 (by decide) hf104 (fun _ h9 => h9) rfl dX5_of_108 ?_
              refine lv_iload_n hx hb dX5_of_111 rfl (lv_at hl 1 rfl) ?_
              refine va_iald (D := E.1) hx hb hK.1 (hY.1 0 (by omega)) 5 0 rfl rfl (tOK.in12 (by assumption)) dX5_of_112 ?_
              subst R
              exact W.iret (v := (((S 0) 5) (x1).toNatClampNeg)) hx hb hr (fun t ht hW => ⟨rfl, ht⟩) (fun _ h => by cases h) dX5_of_113
            · replace hE := hE.trans (if_neg c_6)
              by_cases c_7 : x2 = 5
              · replace hE := hE.trans (if_pos c_7)
                refine W.eq (g2 := F0 m 14 ls ([.int 5])) (by rw [c_7]) ?_
                refine lv_tableIn (tgt := 114) hx hb dX5_of_14 (by decide) (by decide) rfl (by decide) ?_
                refine lv_aload_n hx hb dX5_of_114 rfl (lv_at hl 0 rfl) ?_
                refine va_get (D := E.1) (ci := 4) (v := .ref (ad 0)) (C := RX5) (T := TX5) (N := 6) hx hb hts hiX5 hown hK.1 hY.2.1 0 rfl rfl 0 (by decide) hf10 (fun _ h9 => h9) rfl dX5_of_115 ?_
                refine lv_iload_n hx hb dX5_of_118 rfl (lv_at hl 1 rfl) ?_
                refine kCallRi (va_runV (As := [.int x1]) (rest := []) ⟨hx, hb, hml, hown, hts⟩ (c_X2_edgesFrom l E (ga ad (8 * 0)) (S 0) x1 (by first | assumption | exact tOK.nI (by omega)) (by first | assumption | exact tOK.nI (by omega)) _ rfl) (cwV 1 hts gX5_of_X2_edgesFrom rfl rfl rfl (by decide +kernel) ⟨Nat.le_of_ble_eq_true rfl, Nat.le_of_ble_eq_true rfl⟩) (kPreV hK (hY.1 0 (by omega)) (hY.1 0 (by omega)) (q0 := 0) rfl rfl) rfl rfl hl.1 rfl (lv_room (Nat.le_of_ble_eq_true rfl)) dX5_of_119 ⟨Nat.zero_le _, Nat.zero_le _⟩) ?_
                subst R
                exact W.iret (v := (mX2_edgesFrom (S 0) x1)) hx hb hr (fun t ht hW => ⟨rfl, ht⟩) (fun _ h => by cases h) dX5_of_122
              · replace hE := hE.trans (if_neg c_7)
                by_cases c_8 : x2 = 6
                · replace hE := hE.trans (if_pos c_8)
                  refine W.eq (g2 := F0 m 14 ls ([.int 6])) (by rw [c_8]) ?_
                  refine lv_tableIn (tgt := 123) hx hb dX5_of_14 (by decide) (by decide) rfl (by decide) ?_
                  refine lv_aload_n hx hb dX5_of_123 rfl (lv_at hl 0 rfl) ?_
                  refine va_get (D := E.1) (ci := 4) (v := .ref (ad 0)) (C := RX5) (T := TX5) (N := 6) hx hb hts hiX5 hown hK.1 hY.2.1 0 rfl rfl 0 (by decide) hf10 (fun _ h9 => h9) rfl dX5_of_124 ?_
                  refine lv_iload_n hx hb dX5_of_127 rfl (lv_at hl 1 rfl) ?_
                  refine kCallRi (va_runV (As := [.int x1]) (rest := []) ⟨hx, hb, hml, hown, hts⟩ (c_X2_edgesTo l E (ga ad (8 * 0)) (S 0) x1 (by first | assumption | exact tOK.nI (by omega)) (by first | assumption | exact tOK.nI (by omega)) _ rfl) (cwV 1 hts gX5_of_X2_edgesTo rfl rfl rfl (by decide +kernel) ⟨Nat.le_of_ble_eq_true rfl, Nat.le_of_ble_eq_true rfl⟩) (kPreV hK (hY.1 0 (by omega)) (hY.1 0 (by omega)) (q0 := 0) rfl rfl) rfl rfl hl.1 rfl (lv_room (Nat.le_of_ble_eq_true rfl)) dX5_of_128 ⟨Nat.zero_le _, Nat.zero_le _⟩) ?_
                  subst R
                  exact W.iret (v := (mX2_edgesTo (S 0) x1)) hx hb hr (fun t ht hW => ⟨rfl, ht⟩) (fun _ h => by cases h) dX5_of_131
                · replace hE := hE.trans (if_neg c_8)
                  by_cases c_9 : x2 = 7
                  · replace hE := hE.trans (if_pos c_9)
                    refine W.eq (g2 := F0 m 14 ls ([.int 7])) (by rw [c_9]) ?_
                    refine lv_tableIn (tgt := 132) hx hb dX5_of_14 (by decide) (by decide) rfl (by decide) ?_
                    refine lv_aload_n hx hb dX5_of_132 rfl (lv_at hl 0 rfl) ?_
                    refine va_get (D := E.1) (ci := 4) (v := .ref (ad 0)) (C := RX5) (T := TX5) (N := 6) hx hb hts hiX5 hown hK.1 hY.2.1 0 rfl rfl 0 (by decide) hf10 (fun _ h9 => h9) rfl dX5_of_133 ?_
                    refine va_get (D := E.1) (ci := 1) (v := .ref (ga ad (8 * 0) 6)) (C := RX2) (T := TX2) (N := 10) hx hb hts hiX2 hown hK.1 (hY.1 0 (by omega)) 0 rfl rfl 8 (by decide) hf113 (fun _ h9 => h9) rfl dX5_of_136 ?_
                    refine lv_iload_n hx hb dX5_of_139 rfl (lv_at hl 1 rfl) ?_
                    refine va_iald (D := E.1) hx hb hK.1 (hY.1 0 (by omega)) 6 0 rfl rfl (tOK.in12 (by assumption)) dX5_of_140 ?_
                    subst R
                    exact W.iret (v := (((S 0) 6) (x1).toNatClampNeg)) hx hb hr (fun t ht hW => ⟨rfl, ht⟩) (fun _ h => by cases h) dX5_of_141
                  · replace hE := hE.trans (if_neg c_9)
                    by_cases c_10 : x2 = 8
                    · replace hE := hE.trans (if_pos c_10)
                      refine W.eq (g2 := F0 m 14 ls ([.int 8])) (by rw [c_10]) ?_
                      refine lv_tableIn (tgt := 142) hx hb dX5_of_14 (by decide) (by decide) rfl (by decide) ?_
                      refine lv_aload_n hx hb dX5_of_142 rfl (lv_at hl 0 rfl) ?_
                      refine va_get (D := E.1) (ci := 4) (v := .ref (ad 0)) (C := RX5) (T := TX5) (N := 6) hx hb hts hiX5 hown hK.1 hY.2.1 0 rfl rfl 0 (by decide) hf10 (fun _ h9 => h9) rfl dX5_of_143 ?_
                      refine lv_iload_n hx hb dX5_of_146 rfl (lv_at hl 1 rfl) ?_
                      refine kCallRi (va_runV (As := [.int x1]) (rest := []) ⟨hx, hb, hml, hown, hts⟩ (c_X2_snapshot l E (ga ad (8 * 0)) (S 0) x1 (by first | assumption | exact tOK.nI (by omega)) (by first | assumption | exact tOK.nI (by omega)) _ rfl) (cwV 1 hts gX5_of_X2_snapshot rfl rfl rfl (by decide +kernel) ⟨Nat.le_of_ble_eq_true rfl, Nat.le_of_ble_eq_true rfl⟩) (kPreV hK (hY.1 0 (by omega)) (hY.1 0 (by omega)) (q0 := 0) rfl rfl) rfl rfl hl.1 rfl (lv_room (Nat.le_of_ble_eq_true rfl)) dX5_of_147 ⟨Nat.zero_le _, Nat.zero_le _⟩) ?_
                      subst R
                      exact W.iret (v := (mX2_snapshot (S 0) x1)) hx hb hr (fun t ht hW => ⟨rfl, ht⟩) (fun _ h => by cases h) dX5_of_150
                    · replace hE := hE.trans (if_neg c_10)
                      have hout : (x2).toInt < 0 ∨ 8 < (x2).toInt := kout0_8 c_2 c_3 c_4 c_5 c_6 c_7 c_8 c_9 c_10
                      refine lv_tableOut (tgt := 151) hx hb dX5_of_14 hout (by decide) ?_
                      refine lv_bipush (v := (-2)) hx hb dX5_of_151 (by decide) ?_
                      subst R
                      exact W.iret (v := (-2)) hx hb hr (fun t ht hW => ⟨rfl, ht⟩) (fun _ h => by cases h) dX5_of_153
  · replace hE := hE.trans (if_pos c_1)
    refine lv_iconst (v := (-1)) hx hb dX5_of_11 (by decide) ?_
    subst R
    exact W.iret (v := (-1)) hx hb hr (fun t ht hW => ⟨rfl, ht⟩) (fun _ h => by cases h) dX5_of_12
def mX5_over_L37 (S : kS) (x1 : Int32) (x2 : Int32) : Nat → Nat → (Int32)
  | 0, _ => 0
  | n37 + 1, i37 =>
    if 16 ≤ (nI i37) then
      (-6)
    else
      if (mX5_contains (mX2_edgeKeys (S 0) x1 x2) (nI i37)) = 0 then
        mX5_over_L37 S x1 x2 n37 (i37 + 1)
      else
        (nI i37)
theorem mX5_over_L37_s {S : kS} {x1 : Int32} {x2 : Int32} {n37 : Nat} {i37 : Nat} : mX5_over_L37 S x1 x2 (n37 + 1) i37 = (
    if 16 ≤ (nI i37) then
      (-6)
    else
      if (mX5_contains (mX2_edgeKeys (S 0) x1 x2) (nI i37)) = 0 then
        mX5_over_L37 S x1 x2 n37 (i37 + 1)
      else
        (nI i37) : Int32) := rfl
def mX5_over (S : kS) (x1 : Int32) (x2 : Int32) : Int32 :=
  if (mX2_exists (S 0) x1) = 0 then
    (-1)
  else
    if (mX2_exists (S 0) x2) = 0 then
      (-1)
    else
      mX5_over_L37 S x1 x2 17 0
theorem mX5_over_s {S : kS} {x1 : Int32} {x2 : Int32} : mX5_over S x1 x2 = (
  if (mX2_exists (S 0) x1) = 0 then
    (-1)
  else
    if (mX2_exists (S 0) x2) = 0 then
      (-1)
    else
      mX5_over_L37 S x1 x2 17 0 : Int32) := rfl
set_option maxHeartbeats 400000 in
set_option maxRecDepth 100000 in
theorem c_X5_over (l : Launch) (E : kE) (ad : Nat → Nat) (S : kS) (hs : kSep ad) (x1 : Int32) (x2 : Int32) (hn : nOK (S 0 0 2)) (R : Int32) (hE : R = mX5_over S x1 x2) : Met l yX5_over wsX5_over ({ frames := 1, cells := 0, slots := 0, locals := 22 }) (kPreY E [.ref (ad 80), .int x1, .int x2] ad S) (kRi R) 0 0 (fun _ => False) := by
  refine Met.ofW (cc := cX5_over) (maxL := 5) (ret := (some .int)) (by decide) rfl ?_
  intro p e s m args below meth c s₁ B hml hv
  obtain ⟨rfl, hK, hY⟩ := hv
  have hx := B.exec
  have hb := B.bytes
  have hr := B.returns
  have hts := atoms_spec (ws := wsX5_over) B.pre
  have hown : s.vm.findClass RX5 = some m.cls := findClass_of_methodNamed B.named
  have hlocks := B.notSynchronized
  have hiX5 : ∀ w ∈ wsX50, w ∈ wsX5_over := by decide +kernel
  have hf10 := hts (.fieldLink RX5 10 "SkewEdges" "ledger" "LSkewEdges$Ledger;") (by decide +kernel)
  have hl := lv_entry ([.ref (ad 80), .int x1, .int x2]) (n := 5) (Nat.le_of_ble_eq_true rfl)
  rw [lg_entry_eq]
  generalize (lg_sl ([.ref (ad 80), .int x1, .int x2]) ++ List.replicate (5 - (lg_sl ([.ref (ad 80), .int x1, .int x2])).length) Slot.unset).toArray = ls at hl ⊢
  have hl : lv_has ls 5 [(0, .ref (ad 80)), (1, .int x1), (2, .int x2)] := hl
  replace hE := hE.trans mX5_over_s
  refine lv_aload_n hx hb dX5_over_0 rfl (lv_at hl 0 rfl) ?_
  refine va_get (D := E.1) (ci := 4) (v := .ref (ad 0)) (C := RX5) (T := TX5) (N := 6) hx hb hts hiX5 hown hK.1 hY.2.1 0 rfl rfl 0 (by decide) hf10 (fun _ h9 => h9) rfl dX5_over_1 ?_
  refine lv_iload_n hx hb dX5_over_4 rfl (lv_at hl 1 rfl) ?_
  refine kCallRi (va_runV (As := [.int x1]) (rest := []) ⟨hx, hb, hml, hown, hts⟩ (c_X2_exists l E (ga ad (8 * 0)) (S 0) x1 _ rfl) (cwV 1 hts gX5_over_X2_exists rfl rfl rfl (by decide +kernel) ⟨Nat.le_of_ble_eq_true rfl, Nat.le_of_ble_eq_true rfl⟩) (kPreV hK (hY.1 0 (by omega)) (hY.1 0 (by omega)) (q0 := 0) rfl rfl) rfl rfl hl.1 rfl (lv_room (Nat.le_of_ble_eq_true rfl)) dX5_over_5 ⟨Nat.zero_le _, Nat.zero_le _⟩) ?_
  refine lv_if_eq (tgt := 22) hx hb dX5_over_8 (by decide) (fun c_1 => ?_) (fun c_1 => ?_)
  · replace hE := hE.trans (if_pos c_1)
    refine lv_iconst (v := (-1)) hx hb dX5_over_22 (by decide) ?_
    subst R
    exact W.iret (v := (-1)) hx hb hr (fun t ht hW => ⟨rfl, ht⟩) (fun _ h => by cases h) dX5_over_23
  · replace hE := hE.trans (if_neg c_1)
    have hzc_1 := exists_ok (by assumption) c_1
    refine lv_aload_n hx hb dX5_over_11 rfl (lv_at hl 0 rfl) ?_
    refine va_get (D := E.1) (ci := 4) (v := .ref (ad 0)) (C := RX5) (T := TX5) (N := 6) hx hb hts hiX5 hown hK.1 hY.2.1 0 rfl rfl 0 (by decide) hf10 (fun _ h9 => h9) rfl dX5_over_12 ?_
    refine lv_iload_n hx hb dX5_over_15 rfl (lv_at hl 2 rfl) ?_
    refine kCallRi (va_runV (As := [.int x2]) (rest := []) ⟨hx, hb, hml, hown, hts⟩ (c_X2_exists l E (ga ad (8 * 0)) (S 0) x2 _ rfl) (cwV 1 hts gX5_over_X2_exists rfl rfl rfl (by decide +kernel) ⟨Nat.le_of_ble_eq_true rfl, Nat.le_of_ble_eq_true rfl⟩) (kPreV hK (hY.1 0 (by omega)) (hY.1 0 (by omega)) (q0 := 0) rfl rfl) rfl rfl hl.1 rfl (lv_room (Nat.le_of_ble_eq_true rfl)) dX5_over_16 ⟨Nat.zero_le _, Nat.zero_le _⟩) ?_
    refine lv_if_ne (tgt := 24) hx hb dX5_over_19 (by decide) (fun c_2 => ?_) (fun c_2 => ?_)
    · replace hE := hE.trans (if_neg c_2)
      have hzc_2 := exists_ok (by assumption) c_2
      refine lv_aload_n hx hb dX5_over_24 rfl (lv_at hl 0 rfl) ?_
      refine va_get (D := E.1) (ci := 4) (v := .ref (ad 0)) (C := RX5) (T := TX5) (N := 6) hx hb hts hiX5 hown hK.1 hY.2.1 0 rfl rfl 0 (by decide) hf10 (fun _ h9 => h9) rfl dX5_over_25 ?_
      refine lv_iload_n hx hb dX5_over_28 rfl (lv_at hl 1 rfl) ?_
      refine lv_iload_n hx hb dX5_over_29 rfl (lv_at hl 2 rfl) ?_
      refine kCallRi (va_runV (As := [.int x1, .int x2]) (rest := []) ⟨hx, hb, hml, hown, hts⟩ (c_X2_edgeKeys l E (ga ad (8 * 0)) (S 0) x1 x2 (by first | assumption | exact tOK.nI (by omega)) (by first | assumption | exact tOK.nI (by omega)) _ rfl) (cwV 2 hts gX5_over_X2_edgeKeys rfl rfl rfl (by decide +kernel) ⟨Nat.le_of_ble_eq_true rfl, Nat.le_of_ble_eq_true rfl⟩) (kPreV hK (hY.1 0 (by omega)) (hY.1 0 (by omega)) (q0 := 0) rfl rfl) rfl rfl hl.1 rfl (lv_room (Nat.le_of_ble_eq_true rfl)) dX5_over_30 ⟨Nat.zero_le _, Nat.zero_le _⟩) ?_
      refine lv_istore_n (lv' := [(3, .int (mX2_edgeKeys (S 0) x1 x2)), (0, .ref (ad 80)), (1, .int x1), (2, .int x2)]) hx hb dX5_over_33 rfl hl (by decide) rfl (fun ls hl => ?_)
      refine lv_iconst (v := 0) hx hb dX5_over_34 (by decide) ?_
      refine lv_istore (lv' := [(4, .int 0), (3, .int (mX2_edgeKeys (S 0) x1 x2)), (0, .ref (ad 80)), (1, .int x1), (2, .int x2)]) hx hb dX5_over_35 hl (by decide) rfl (fun ls hl => ?_)
      have lp37 : ∀ (n37 : Nat) (i37 : Nat), (16 < i37 + n37) → (i37 ≤ 16) → ∀ ls : Array Slot, lv_has ls 5 [(4, .int (nI i37)), (3, .int (mX2_edgeKeys (S 0) x1 x2)), (0, .ref (ad 80)), (1, .int x1), (2, .int x2)] → R = mX5_over_L37 S x1 x2 n37 i37 → W p l e ({ frames := 1, cells := 0, slots := 0, locals := 22 }) s m ([.ref (ad 80), .int x1, .int x2] : List Value).toArray below meth c s.heap [] 0 0 (MQ below (kRi R) ([.ref (ad 80), .int x1, .int x2] : List Value).toArray s 0 0 (fun _ => False)) (F0 m 37 ls []) := by
        clear hE
        intro n37
        induction n37 with
        | zero =>
          intro i37 hm37 hi37 ls hl hE
          exact absurd hm37 (by omega)
        | succ n37 ih37 =>
          intro i37 hm37 hi37 ls hl hE
          replace hE := hE.trans mX5_over_L37_s
          refine lv_iload hx hb dX5_over_37 (lv_at hl 0 rfl) ?_
          refine lv_bipush (v := 16) hx hb dX5_over_39 (by decide) ?_
          refine lv_icmp_ge (tgt := 62) hx hb dX5_over_41 (by decide) (fun c_3 => ?_) (fun c_3 => ?_)
          · replace hE := hE.trans (if_pos c_3)
            refine lv_bipush (v := (-6)) hx hb dX5_over_62 (by decide) ?_
            subst R
            exact W.iret (v := (-6)) hx hb hr (fun t ht hW => ⟨rfl, ht⟩) (fun _ h => by cases h) dX5_over_64
          · replace hE := hE.trans (if_neg c_3)
            have hbc_3 : i37 < 16 := nI_nle_lt ⟨by omega, by omega⟩ c_3
            refine lv_iload_n hx hb dX5_over_44 rfl (lv_at hl 1 rfl) ?_
            refine lv_iload hx hb dX5_over_45 (lv_at hl 0 rfl) ?_
            refine kCallRi (va_runS (As := [.int (mX2_edgeKeys (S 0) x1 x2), .int (nI i37)]) (rest := []) ⟨hx, hb, hml, hown, hts⟩ (c_X5_contains l E (mX2_edgeKeys (S 0) x1 x2) (nI i37) _ rfl) (va_cwS 2 hts gX5_over_X5_contains rfl rfl rfl (by decide +kernel) ⟨Nat.le_of_ble_eq_true rfl, Nat.le_of_ble_eq_true rfl⟩) (kPreS hK kP0) rfl rfl hl.1 rfl (lv_room (Nat.le_of_ble_eq_true rfl)) dX5_over_47 ⟨Nat.zero_le _, Nat.zero_le _⟩) ?_
            refine lv_if_eq (tgt := 56) hx hb dX5_over_50 (by decide) (fun c_4 => ?_) (fun c_4 => ?_)
            · replace hE := hE.trans (if_pos c_4)
              refine lv_iinc (v := (nI (i37 + 1))) (lv' := [(4, .int (nI (i37 + 1))), (3, .int (mX2_edgeKeys (S 0) x1 x2)), (0, .ref (ad 80)), (1, .int x1), (2, .int x2)]) hx hb dX5_over_56 hl (k := 0) rfl (nI_1 i37) (by decide) rfl (fun ls hl => ?_)
              refine lv_goto (tgt := 37) hx hb dX5_over_59 (by decide) ?_
              exact ih37 (i37 + 1) (by omega) (by omega) ls (lv_sub hl [0, 1, 2, 3, 4] rfl) hE
            · replace hE := hE.trans (if_neg c_4)
              refine lv_iload hx hb dX5_over_53 (lv_at hl 0 rfl) ?_
              subst R
              exact W.iret (v := (nI i37)) hx hb hr (fun t ht hW => ⟨rfl, ht⟩) (fun _ h => by cases h) dX5_over_55
      exact lp37 17 0 (by omega) (by omega) ls (lv_sub hl [0, 1, 2, 3, 4] rfl) hE
    · replace hE := hE.trans (if_pos c_2)
      refine lv_iconst (v := (-1)) hx hb dX5_over_22 (by decide) ?_
      subst R
      exact W.iret (v := (-1)) hx hb hr (fun t ht hW => ⟨rfl, ht⟩) (fun _ h => by cases h) dX5_over_23
def mX5_sees (S : kS) (x1 : Int32) (x2 : Int32) : Int32 :=
  if (mX2_exists (S 0) x1) = 0 then
    (-1)
  else
    if (mX5_isKey x2) = 0 then
      (-1)
    else
      (mX2_seenWriter (S 0) x1 x2)
theorem mX5_sees_s {S : kS} {x1 : Int32} {x2 : Int32} : mX5_sees S x1 x2 = (
  if (mX2_exists (S 0) x1) = 0 then
    (-1)
  else
    if (mX5_isKey x2) = 0 then
      (-1)
    else
      (mX2_seenWriter (S 0) x1 x2) : Int32) := rfl
set_option maxHeartbeats 400000 in
set_option maxRecDepth 100000 in
theorem c_X5_sees (l : Launch) (E : kE) (ad : Nat → Nat) (S : kS) (hs : kSep ad) (x1 : Int32) (x2 : Int32) (hn : nOK (S 0 0 2)) (R : Int32) (hE : R = mX5_sees S x1 x2) : Met l yX5_sees wsX5_sees ({ frames := 3, cells := 0, slots := 0, locals := 68 }) (kPreY E [.ref (ad 80), .int x1, .int x2] ad S) (kRi R) 0 0 (fun _ => False) := by
  refine Met.ofW (cc := cX5_sees) (maxL := 3) (ret := (some .int)) (by decide) rfl ?_
  intro p e s m args below meth c s₁ B hml hv
  obtain ⟨rfl, hK, hY⟩ := hv
  have hx := B.exec
  have hb := B.bytes
  have hr := B.returns
  have hts := atoms_spec (ws := wsX5_sees) B.pre
  have hown : s.vm.findClass RX5 = some m.cls := findClass_of_methodNamed B.named
  have hlocks := B.notSynchronized
  have hiX5 : ∀ w ∈ wsX50, w ∈ wsX5_sees := by decide +kernel
  have hf10 := hts (.fieldLink RX5 10 "SkewEdges" "ledger" "LSkewEdges$Ledger;") (by decide +kernel)
  have hl := lv_entry ([.ref (ad 80), .int x1, .int x2]) (n := 3) (Nat.le_of_ble_eq_true rfl)
  rw [lg_entry_eq]
  generalize (lg_sl ([.ref (ad 80), .int x1, .int x2]) ++ List.replicate (3 - (lg_sl ([.ref (ad 80), .int x1, .int x2])).length) Slot.unset).toArray = ls at hl ⊢
  have hl : lv_has ls 3 [(0, .ref (ad 80)), (1, .int x1), (2, .int x2)] := hl
  replace hE := hE.trans mX5_sees_s
  refine lv_aload_n hx hb dX5_sees_0 rfl (lv_at hl 0 rfl) ?_
  refine va_get (D := E.1) (ci := 4) (v := .ref (ad 0)) (C := RX5) (T := TX5) (N := 6) hx hb hts hiX5 hown hK.1 hY.2.1 0 rfl rfl 0 (by decide) hf10 (fun _ h9 => h9) rfl dX5_sees_1 ?_
  refine lv_iload_n hx hb dX5_sees_4 rfl (lv_at hl 1 rfl) ?_
  refine kCallRi (va_runV (As := [.int x1]) (rest := []) ⟨hx, hb, hml, hown, hts⟩ (c_X2_exists l E (ga ad (8 * 0)) (S 0) x1 _ rfl) (cwV 1 hts gX5_sees_X2_exists rfl rfl rfl (by decide +kernel) ⟨Nat.le_of_ble_eq_true rfl, Nat.le_of_ble_eq_true rfl⟩) (kPreV hK (hY.1 0 (by omega)) (hY.1 0 (by omega)) (q0 := 0) rfl rfl) rfl rfl hl.1 rfl (lv_room (Nat.le_of_ble_eq_true rfl)) dX5_sees_5 ⟨Nat.zero_le _, Nat.zero_le _⟩) ?_
  refine lv_if_eq (tgt := 18) hx hb dX5_sees_8 (by decide) (fun c_1 => ?_) (fun c_1 => ?_)
  · replace hE := hE.trans (if_pos c_1)
    refine lv_iconst (v := (-1)) hx hb dX5_sees_18 (by decide) ?_
    subst R
    exact W.iret (v := (-1)) hx hb hr (fun t ht hW => ⟨rfl, ht⟩) (fun _ h => by cases h) dX5_sees_19
  · replace hE := hE.trans (if_neg c_1)
    have hzc_1 := exists_ok (by assumption) c_1
    refine lv_iload_n hx hb dX5_sees_11 rfl (lv_at hl 2 rfl) ?_
    refine kCallRi (va_runS (As := [.int x2]) (rest := []) ⟨hx, hb, hml, hown, hts⟩ (c_X5_isKey l E x2 _ rfl) (va_cwS 1 hts gX5_sees_X5_isKey rfl rfl rfl (by decide +kernel) ⟨Nat.le_of_ble_eq_true rfl, Nat.le_of_ble_eq_true rfl⟩) (kPreS hK kP0) rfl rfl hl.1 rfl (lv_room (Nat.le_of_ble_eq_true rfl)) dX5_sees_12 ⟨Nat.zero_le _, Nat.zero_le _⟩) ?_
    refine lv_if_ne (tgt := 20) hx hb dX5_sees_15 (by decide) (fun c_2 => ?_) (fun c_2 => ?_)
    · replace hE := hE.trans (if_neg c_2)
      have hzc_2 := isKey_ok c_2
      refine lv_aload_n hx hb dX5_sees_20 rfl (lv_at hl 0 rfl) ?_
      refine va_get (D := E.1) (ci := 4) (v := .ref (ad 0)) (C := RX5) (T := TX5) (N := 6) hx hb hts hiX5 hown hK.1 hY.2.1 0 rfl rfl 0 (by decide) hf10 (fun _ h9 => h9) rfl dX5_sees_21 ?_
      refine lv_iload_n hx hb dX5_sees_24 rfl (lv_at hl 1 rfl) ?_
      refine lv_iload_n hx hb dX5_sees_25 rfl (lv_at hl 2 rfl) ?_
      refine kCallRi (va_runV (As := [.int x1, .int x2]) (rest := []) ⟨hx, hb, hml, hown, hts⟩ (c_X2_seenWriter l E (ga ad (8 * 0)) (S 0) x1 x2 (by first | assumption | exact tOK.nI (by omega)) (by first | assumption | exact tOK.nI (by omega)) _ rfl) (cwV 2 hts gX5_sees_X2_seenWriter rfl rfl rfl (by decide +kernel) ⟨Nat.le_of_ble_eq_true rfl, Nat.le_of_ble_eq_true rfl⟩) (kPreV hK (hY.1 0 (by omega)) (hY.1 0 (by omega)) (q0 := 0) rfl rfl) rfl rfl hl.1 rfl (lv_room (Nat.le_of_ble_eq_true rfl)) dX5_sees_26 ⟨Nat.zero_le _, Nat.zero_le _⟩) ?_
      subst R
      exact W.iret (v := (mX2_seenWriter (S 0) x1 x2)) hx hb hr (fun t ht hW => ⟨rfl, ht⟩) (fun _ h => by cases h) dX5_sees_29
    · replace hE := hE.trans (if_pos c_2)
      refine lv_iconst (v := (-1)) hx hb dX5_sees_18 (by decide) ?_
      subst R
      exact W.iret (v := (-1)) hx hb hr (fun t ht hW => ⟨rfl, ht⟩) (fun _ h => by cases h) dX5_sees_19
def mX5_would (S : kS) (x1 : Int32) : Int32 :=
  if (mX2_exists (S 0) x1) = 0 then
    (-1)
  else
    if (((S 0) 1) (x1).toNatClampNeg) = 0 then
      (mX0_refusal (S 0) x1 ((S 0) 0 0))
    else
      (-5)
theorem mX5_would_s {S : kS} {x1 : Int32} : mX5_would S x1 = (
  if (mX2_exists (S 0) x1) = 0 then
    (-1)
  else
    if (((S 0) 1) (x1).toNatClampNeg) = 0 then
      (mX0_refusal (S 0) x1 ((S 0) 0 0))
    else
      (-5) : Int32) := rfl
set_option maxHeartbeats 400000 in
set_option maxRecDepth 100000 in
theorem c_X5_would (l : Launch) (E : kE) (ad : Nat → Nat) (S : kS) (hs : kSep ad) (x1 : Int32) (hn : nOK (S 0 0 2)) (R : Int32) (hE : R = mX5_would S x1) : Met l yX5_would wsX5_would ({ frames := 4, cells := 0, slots := 0, locals := 102 }) (kPreY E [.ref (ad 80), .int x1] ad S) (kRi R) 0 0 (fun _ => False) := by
  refine Met.ofW (cc := cX5_would) (maxL := 2) (ret := (some .int)) (by decide) rfl ?_
  intro p e s m args below meth c s₁ B hml hv
  obtain ⟨rfl, hK, hY⟩ := hv
  have hx := B.exec
  have hb := B.bytes
  have hr := B.returns
  have hts := atoms_spec (ws := wsX5_would) B.pre
  have hown : s.vm.findClass RX5 = some m.cls := findClass_of_methodNamed B.named
  have hlocks := B.notSynchronized
  have hiX5 : ∀ w ∈ wsX50, w ∈ wsX5_would := by decide +kernel
  have hiX2 : ∀ w ∈ wsX20, w ∈ wsX5_would := by decide +kernel
  have hf10 := hts (.fieldLink RX5 10 "SkewEdges" "ledger" "LSkewEdges$Ledger;") (by decide +kernel)
  have hf91 := hts (.fieldLink RX5 91 "SkewEdges$Ledger" "phase" "[I") (by decide +kernel)
  have hf132 := hts (.fieldLink RX5 132 "SkewEdges$Ledger" "rule" "I") (by decide +kernel)
  have hl := lv_entry ([.ref (ad 80), .int x1]) (n := 2) (Nat.le_of_ble_eq_true rfl)
  rw [lg_entry_eq]
  generalize (lg_sl ([.ref (ad 80), .int x1]) ++ List.replicate (2 - (lg_sl ([.ref (ad 80), .int x1])).length) Slot.unset).toArray = ls at hl ⊢
  have hl : lv_has ls 2 [(0, .ref (ad 80)), (1, .int x1)] := hl
  replace hE := hE.trans mX5_would_s
  refine lv_aload_n hx hb dX5_would_0 rfl (lv_at hl 0 rfl) ?_
  refine va_get (D := E.1) (ci := 4) (v := .ref (ad 0)) (C := RX5) (T := TX5) (N := 6) hx hb hts hiX5 hown hK.1 hY.2.1 0 rfl rfl 0 (by decide) hf10 (fun _ h9 => h9) rfl dX5_would_1 ?_
  refine lv_iload_n hx hb dX5_would_4 rfl (lv_at hl 1 rfl) ?_
  refine kCallRi (va_runV (As := [.int x1]) (rest := []) ⟨hx, hb, hml, hown, hts⟩ (c_X2_exists l E (ga ad (8 * 0)) (S 0) x1 _ rfl) (cwV 1 hts gX5_would_X2_exists rfl rfl rfl (by decide +kernel) ⟨Nat.le_of_ble_eq_true rfl, Nat.le_of_ble_eq_true rfl⟩) (kPreV hK (hY.1 0 (by omega)) (hY.1 0 (by omega)) (q0 := 0) rfl rfl) rfl rfl hl.1 rfl (lv_room (Nat.le_of_ble_eq_true rfl)) dX5_would_5 ⟨Nat.zero_le _, Nat.zero_le _⟩) ?_
  refine lv_if_ne (tgt := 13) hx hb dX5_would_8 (by decide) (fun c_1 => ?_) (fun c_1 => ?_)
  · replace hE := hE.trans (if_neg c_1)
    have hzc_1 := exists_ok (by assumption) c_1
    refine lv_aload_n hx hb dX5_would_13 rfl (lv_at hl 0 rfl) ?_
    refine va_get (D := E.1) (ci := 4) (v := .ref (ad 0)) (C := RX5) (T := TX5) (N := 6) hx hb hts hiX5 hown hK.1 hY.2.1 0 rfl rfl 0 (by decide) hf10 (fun _ h9 => h9) rfl dX5_would_14 ?_
    refine va_get (D := E.1) (ci := 1) (v := .ref (ga ad (8 * 0) 1)) (C := RX2) (T := TX2) (N := 10) hx hb hts hiX2 hown hK.1 (hY.1 0 (by omega)) 0 rfl rfl 3 (by decide) hf91 (fun _ h9 => h9) rfl dX5_would_17 ?_
    refine lv_iload_n hx hb dX5_would_20 rfl (lv_at hl 1 rfl) ?_
    refine va_iald (D := E.1) hx hb hK.1 (hY.1 0 (by omega)) 1 0 rfl rfl (tOK.in12 (by assumption)) dX5_would_21 ?_
    refine lv_if_eq (tgt := 28) hx hb dX5_would_22 (by decide) (fun c_2 => ?_) (fun c_2 => ?_)
    · replace hE := hE.trans (if_pos c_2)
      refine lv_aload_n hx hb dX5_would_28 rfl (lv_at hl 0 rfl) ?_
      refine va_get (D := E.1) (ci := 4) (v := .ref (ad 0)) (C := RX5) (T := TX5) (N := 6) hx hb hts hiX5 hown hK.1 hY.2.1 0 rfl rfl 0 (by decide) hf10 (fun _ h9 => h9) rfl dX5_would_29 ?_
      refine lv_iload_n hx hb dX5_would_32 rfl (lv_at hl 1 rfl) ?_
      refine lv_aload_n hx hb dX5_would_33 rfl (lv_at hl 0 rfl) ?_
      refine va_get (D := E.1) (ci := 4) (v := .ref (ad 0)) (C := RX5) (T := TX5) (N := 6) hx hb hts hiX5 hown hK.1 hY.2.1 0 rfl rfl 0 (by decide) hf10 (fun _ h9 => h9) rfl dX5_would_34 ?_
      refine va_get (D := E.1) (ci := 1) (v := .int ((S 0) 0 0)) (C := RX2) (T := TX2) (N := 10) hx hb hts hiX2 hown hK.1 (hY.1 0 (by omega)) 0 rfl rfl 0 (by decide) hf132 (fun _ h9 => h9) rfl dX5_would_37 ?_
      refine kCallRi (va_runS (As := [.ref (ad 0), .int x1, .int ((S 0) 0 0)]) (rest := []) ⟨hx, hb, hml, hown, hts⟩ (c_X0_refusal l E (ga ad (8 * 0)) (S 0) x1 ((S 0) 0 0) (by first | assumption | exact tOK.nI (by omega)) (by first | assumption | exact tOK.nI (by omega)) _ rfl) (va_cwS 3 hts gX5_would_X0_refusal rfl rfl rfl (by decide +kernel) ⟨Nat.le_of_ble_eq_true rfl, Nat.le_of_ble_eq_true rfl⟩) (kPreS hK (hY.1 0 (by omega))) rfl rfl hl.1 rfl (lv_room (Nat.le_of_ble_eq_true rfl)) dX5_would_40 ⟨Nat.zero_le _, Nat.zero_le _⟩) ?_
      subst R
      exact W.iret (v := (mX0_refusal (S 0) x1 ((S 0) 0 0))) hx hb hr (fun t ht hW => ⟨rfl, ht⟩) (fun _ h => by cases h) dX5_would_43
    · replace hE := hE.trans (if_neg c_2)
      refine lv_bipush (v := (-5)) hx hb dX5_would_25 (by decide) ?_
      subst R
      exact W.iret (v := (-5)) hx hb hr (fun t ht hW => ⟨rfl, ht⟩) (fun _ h => by cases h) dX5_would_27
  · replace hE := hE.trans (if_pos c_1)
    refine lv_iconst (v := (-1)) hx hb dX5_would_11 (by decide) ?_
    subst R
    exact W.iret (v := (-1)) hx hb hr (fun t ht hW => ⟨rfl, ht⟩) (fun _ h => by cases h) dX5_would_12
def mX5_triple (S : kS) (x1 : Int32) (x2 : Int32) : Int32 :=
  if (mX2_exists (S 0) x1) = 0 then
    (-1)
  else
    if x2 < 0 then
      (-2)
    else
      if x2 ≤ 2 then
        if (((S 0) 1) (x1).toNatClampNeg) = 0 then
          if (mX0_refusal (S 0) x1 ((S 0) 0 0)) = 2 then
            (mX0_partOfTriple (mX0_firstTriple (S 0) x1 ((S 0) 0 0)) x2)
          else
            (-6)
        else
          (-5)
      else
        (-2)
theorem mX5_triple_s {S : kS} {x1 : Int32} {x2 : Int32} : mX5_triple S x1 x2 = (
  if (mX2_exists (S 0) x1) = 0 then
    (-1)
  else
    if x2 < 0 then
      (-2)
    else
      if x2 ≤ 2 then
        if (((S 0) 1) (x1).toNatClampNeg) = 0 then
          if (mX0_refusal (S 0) x1 ((S 0) 0 0)) = 2 then
            (mX0_partOfTriple (mX0_firstTriple (S 0) x1 ((S 0) 0 0)) x2)
          else
            (-6)
        else
          (-5)
      else
        (-2) : Int32) := rfl
set_option maxHeartbeats 400000 in
set_option maxRecDepth 100000 in
theorem c_X5_triple (l : Launch) (E : kE) (ad : Nat → Nat) (S : kS) (hs : kSep ad) (x1 : Int32) (x2 : Int32) (hn : nOK (S 0 0 2)) (R : Int32) (hE : R = mX5_triple S x1 x2) : Met l yX5_triple wsX5_triple ({ frames := 4, cells := 0, slots := 0, locals := 102 }) (kPreY E [.ref (ad 80), .int x1, .int x2] ad S) (kRi R) 0 0 (fun _ => False) := by
  refine Met.ofW (cc := cX5_triple) (maxL := 3) (ret := (some .int)) (by decide) rfl ?_
  intro p e s m args below meth c s₁ B hml hv
  obtain ⟨rfl, hK, hY⟩ := hv
  have hx := B.exec
  have hb := B.bytes
  have hr := B.returns
  have hts := atoms_spec (ws := wsX5_triple) B.pre
  have hown : s.vm.findClass RX5 = some m.cls := findClass_of_methodNamed B.named
  have hlocks := B.notSynchronized
  have hiX5 : ∀ w ∈ wsX50, w ∈ wsX5_triple := by decide +kernel
  have hiX2 : ∀ w ∈ wsX20, w ∈ wsX5_triple := by decide +kernel
  have hf10 := hts (.fieldLink RX5 10 "SkewEdges" "ledger" "LSkewEdges$Ledger;") (by decide +kernel)
  have hf91 := hts (.fieldLink RX5 91 "SkewEdges$Ledger" "phase" "[I") (by decide +kernel)
  have hf132 := hts (.fieldLink RX5 132 "SkewEdges$Ledger" "rule" "I") (by decide +kernel)
  have hl := lv_entry ([.ref (ad 80), .int x1, .int x2]) (n := 3) (Nat.le_of_ble_eq_true rfl)
  rw [lg_entry_eq]
  generalize (lg_sl ([.ref (ad 80), .int x1, .int x2]) ++ List.replicate (3 - (lg_sl ([.ref (ad 80), .int x1, .int x2])).length) Slot.unset).toArray = ls at hl ⊢
  have hl : lv_has ls 3 [(0, .ref (ad 80)), (1, .int x1), (2, .int x2)] := hl
  replace hE := hE.trans mX5_triple_s
  refine lv_aload_n hx hb dX5_triple_0 rfl (lv_at hl 0 rfl) ?_
  refine va_get (D := E.1) (ci := 4) (v := .ref (ad 0)) (C := RX5) (T := TX5) (N := 6) hx hb hts hiX5 hown hK.1 hY.2.1 0 rfl rfl 0 (by decide) hf10 (fun _ h9 => h9) rfl dX5_triple_1 ?_
  refine lv_iload_n hx hb dX5_triple_4 rfl (lv_at hl 1 rfl) ?_
  refine kCallRi (va_runV (As := [.int x1]) (rest := []) ⟨hx, hb, hml, hown, hts⟩ (c_X2_exists l E (ga ad (8 * 0)) (S 0) x1 _ rfl) (cwV 1 hts gX5_triple_X2_exists rfl rfl rfl (by decide +kernel) ⟨Nat.le_of_ble_eq_true rfl, Nat.le_of_ble_eq_true rfl⟩) (kPreV hK (hY.1 0 (by omega)) (hY.1 0 (by omega)) (q0 := 0) rfl rfl) rfl rfl hl.1 rfl (lv_room (Nat.le_of_ble_eq_true rfl)) dX5_triple_5 ⟨Nat.zero_le _, Nat.zero_le _⟩) ?_
  refine lv_if_ne (tgt := 13) hx hb dX5_triple_8 (by decide) (fun c_1 => ?_) (fun c_1 => ?_)
  · replace hE := hE.trans (if_neg c_1)
    have hzc_1 := exists_ok (by assumption) c_1
    refine lv_iload_n hx hb dX5_triple_13 rfl (lv_at hl 2 rfl) ?_
    refine lv_if_lt (tgt := 22) hx hb dX5_triple_14 (by decide) (fun c_2 => ?_) (fun c_2 => ?_)
    · replace hE := hE.trans (if_pos c_2)
      refine lv_bipush (v := (-2)) hx hb dX5_triple_22 (by decide) ?_
      subst R
      exact W.iret (v := (-2)) hx hb hr (fun t ht hW => ⟨rfl, ht⟩) (fun _ h => by cases h) dX5_triple_24
    · replace hE := hE.trans (if_neg c_2)
      refine lv_iload_n hx hb dX5_triple_17 rfl (lv_at hl 2 rfl) ?_
      refine lv_iconst (v := 2) hx hb dX5_triple_18 (by decide) ?_
      refine lv_icmp_le (tgt := 25) hx hb dX5_triple_19 (by decide) (fun c_3 => ?_) (fun c_3 => ?_)
      · replace hE := hE.trans (if_pos c_3)
        refine lv_aload_n hx hb dX5_triple_25 rfl (lv_at hl 0 rfl) ?_
        refine va_get (D := E.1) (ci := 4) (v := .ref (ad 0)) (C := RX5) (T := TX5) (N := 6) hx hb hts hiX5 hown hK.1 hY.2.1 0 rfl rfl 0 (by decide) hf10 (fun _ h9 => h9) rfl dX5_triple_26 ?_
        refine va_get (D := E.1) (ci := 1) (v := .ref (ga ad (8 * 0) 1)) (C := RX2) (T := TX2) (N := 10) hx hb hts hiX2 hown hK.1 (hY.1 0 (by omega)) 0 rfl rfl 3 (by decide) hf91 (fun _ h9 => h9) rfl dX5_triple_29 ?_
        refine lv_iload_n hx hb dX5_triple_32 rfl (lv_at hl 1 rfl) ?_
        refine va_iald (D := E.1) hx hb hK.1 (hY.1 0 (by omega)) 1 0 rfl rfl (tOK.in12 (by assumption)) dX5_triple_33 ?_
        refine lv_if_eq (tgt := 40) hx hb dX5_triple_34 (by decide) (fun c_4 => ?_) (fun c_4 => ?_)
        · replace hE := hE.trans (if_pos c_4)
          refine lv_aload_n hx hb dX5_triple_40 rfl (lv_at hl 0 rfl) ?_
          refine va_get (D := E.1) (ci := 4) (v := .ref (ad 0)) (C := RX5) (T := TX5) (N := 6) hx hb hts hiX5 hown hK.1 hY.2.1 0 rfl rfl 0 (by decide) hf10 (fun _ h9 => h9) rfl dX5_triple_41 ?_
          refine lv_iload_n hx hb dX5_triple_44 rfl (lv_at hl 1 rfl) ?_
          refine lv_aload_n hx hb dX5_triple_45 rfl (lv_at hl 0 rfl) ?_
          refine va_get (D := E.1) (ci := 4) (v := .ref (ad 0)) (C := RX5) (T := TX5) (N := 6) hx hb hts hiX5 hown hK.1 hY.2.1 0 rfl rfl 0 (by decide) hf10 (fun _ h9 => h9) rfl dX5_triple_46 ?_
          refine va_get (D := E.1) (ci := 1) (v := .int ((S 0) 0 0)) (C := RX2) (T := TX2) (N := 10) hx hb hts hiX2 hown hK.1 (hY.1 0 (by omega)) 0 rfl rfl 0 (by decide) hf132 (fun _ h9 => h9) rfl dX5_triple_49 ?_
          refine kCallRi (va_runS (As := [.ref (ad 0), .int x1, .int ((S 0) 0 0)]) (rest := []) ⟨hx, hb, hml, hown, hts⟩ (c_X0_refusal l E (ga ad (8 * 0)) (S 0) x1 ((S 0) 0 0) (by first | assumption | exact tOK.nI (by omega)) (by first | assumption | exact tOK.nI (by omega)) _ rfl) (va_cwS 3 hts gX5_triple_X0_refusal rfl rfl rfl (by decide +kernel) ⟨Nat.le_of_ble_eq_true rfl, Nat.le_of_ble_eq_true rfl⟩) (kPreS hK (hY.1 0 (by omega))) rfl rfl hl.1 rfl (lv_room (Nat.le_of_ble_eq_true rfl)) dX5_triple_52 ⟨Nat.zero_le _, Nat.zero_le _⟩) ?_
          refine lv_iconst (v := 2) hx hb dX5_triple_55 (by decide) ?_
          refine lv_icmp_eq (tgt := 62) hx hb dX5_triple_56 (by decide) (fun c_5 => ?_) (fun c_5 => ?_)
          · replace hE := hE.trans (if_pos c_5)
            refine lv_aload_n hx hb dX5_triple_62 rfl (lv_at hl 0 rfl) ?_
            refine va_get (D := E.1) (ci := 4) (v := .ref (ad 0)) (C := RX5) (T := TX5) (N := 6) hx hb hts hiX5 hown hK.1 hY.2.1 0 rfl rfl 0 (by decide) hf10 (fun _ h9 => h9) rfl dX5_triple_63 ?_
            refine lv_iload_n hx hb dX5_triple_66 rfl (lv_at hl 1 rfl) ?_
            refine lv_aload_n hx hb dX5_triple_67 rfl (lv_at hl 0 rfl) ?_
            refine va_get (D := E.1) (ci := 4) (v := .ref (ad 0)) (C := RX5) (T := TX5) (N := 6) hx hb hts hiX5 hown hK.1 hY.2.1 0 rfl rfl 0 (by decide) hf10 (fun _ h9 => h9) rfl dX5_triple_68 ?_
            refine va_get (D := E.1) (ci := 1) (v := .int ((S 0) 0 0)) (C := RX2) (T := TX2) (N := 10) hx hb hts hiX2 hown hK.1 (hY.1 0 (by omega)) 0 rfl rfl 0 (by decide) hf132 (fun _ h9 => h9) rfl dX5_triple_71 ?_
            refine kCallRi (va_runS (As := [.ref (ad 0), .int x1, .int ((S 0) 0 0)]) (rest := []) ⟨hx, hb, hml, hown, hts⟩ (c_X0_firstTriple l E (ga ad (8 * 0)) (S 0) x1 ((S 0) 0 0) (by first | assumption | exact tOK.nI (by omega)) (by first | assumption | exact tOK.nI (by omega)) _ rfl) (va_cwS 3 hts gX5_triple_X0_firstTriple rfl rfl rfl (by decide +kernel) ⟨Nat.le_of_ble_eq_true rfl, Nat.le_of_ble_eq_true rfl⟩) (kPreS hK (hY.1 0 (by omega))) rfl rfl hl.1 rfl (lv_room (Nat.le_of_ble_eq_true rfl)) dX5_triple_74 ⟨Nat.zero_le _, Nat.zero_le _⟩) ?_
            refine lv_iload_n hx hb dX5_triple_77 rfl (lv_at hl 2 rfl) ?_
            refine kCallRi (va_runS (As := [.int (mX0_firstTriple (S 0) x1 ((S 0) 0 0)), .int x2]) (rest := []) ⟨hx, hb, hml, hown, hts⟩ (c_X0_partOfTriple l E (mX0_firstTriple (S 0) x1 ((S 0) 0 0)) x2 _ rfl) (va_cwS 2 hts gX5_triple_X0_partOfTriple rfl rfl rfl (by decide +kernel) ⟨Nat.le_of_ble_eq_true rfl, Nat.le_of_ble_eq_true rfl⟩) (kPreS hK kP0) rfl rfl hl.1 rfl (lv_room (Nat.le_of_ble_eq_true rfl)) dX5_triple_78 ⟨Nat.zero_le _, Nat.zero_le _⟩) ?_
            subst R
            exact W.iret (v := (mX0_partOfTriple (mX0_firstTriple (S 0) x1 ((S 0) 0 0)) x2)) hx hb hr (fun t ht hW => ⟨rfl, ht⟩) (fun _ h => by cases h) dX5_triple_81
          · replace hE := hE.trans (if_neg c_5)
            refine lv_bipush (v := (-6)) hx hb dX5_triple_59 (by decide) ?_
            subst R
            exact W.iret (v := (-6)) hx hb hr (fun t ht hW => ⟨rfl, ht⟩) (fun _ h => by cases h) dX5_triple_61
        · replace hE := hE.trans (if_neg c_4)
          refine lv_bipush (v := (-5)) hx hb dX5_triple_37 (by decide) ?_
          subst R
          exact W.iret (v := (-5)) hx hb hr (fun t ht hW => ⟨rfl, ht⟩) (fun _ h => by cases h) dX5_triple_39
      · replace hE := hE.trans (if_neg c_3)
        refine lv_bipush (v := (-2)) hx hb dX5_triple_22 (by decide) ?_
        subst R
        exact W.iret (v := (-2)) hx hb hr (fun t ht hW => ⟨rfl, ht⟩) (fun _ h => by cases h) dX5_triple_24
  · replace hE := hE.trans (if_pos c_1)
    refine lv_iconst (v := (-1)) hx hb dX5_triple_11 (by decide) ?_
    subst R
    exact W.iret (v := (-1)) hx hb hr (fun t ht hW => ⟨rfl, ht⟩) (fun _ h => by cases h) dX5_triple_12
def mX5_doomed_L24 (S : kS) (x1 : Int32) : Nat → Int32 → Nat → (Int32)
  | 0, _, _ => 0
  | n24 + 1, x24_3, i24 =>
    if 12 ≤ (nI i24) then
      x24_3
    else
      if (mX5_contains (mX2_inPhase (S 0) 0) (nI i24)) = 0 then
        mX5_doomed_L24 S x1 n24 x24_3 (i24 + 1)
      else
        if (mX0_refusal (S 0) (nI i24) x1) = 0 then
          mX5_doomed_L24 S x1 n24 x24_3 (i24 + 1)
        else
          mX5_doomed_L24 S x1 n24 (x24_3 ||| (1 <<< ((nI i24) &&& 31))) (i24 + 1)
theorem mX5_doomed_L24_s {S : kS} {x1 : Int32} {n24 : Nat} {x24_3 : Int32} {i24 : Nat} : mX5_doomed_L24 S x1 (n24 + 1) x24_3 i24 = (
    if 12 ≤ (nI i24) then
      x24_3
    else
      if (mX5_contains (mX2_inPhase (S 0) 0) (nI i24)) = 0 then
        mX5_doomed_L24 S x1 n24 x24_3 (i24 + 1)
      else
        if (mX0_refusal (S 0) (nI i24) x1) = 0 then
          mX5_doomed_L24 S x1 n24 x24_3 (i24 + 1)
        else
          mX5_doomed_L24 S x1 n24 (x24_3 ||| (1 <<< ((nI i24) &&& 31))) (i24 + 1) : Int32) := rfl
def mX5_doomed (S : kS) (x1 : Int32) : Int32 :=
  if (mX5_isRule x1) = 0 then
    (-2)
  else
    mX5_doomed_L24 S x1 13 0 0
theorem mX5_doomed_s {S : kS} {x1 : Int32} : mX5_doomed S x1 = (
  if (mX5_isRule x1) = 0 then
    (-2)
  else
    mX5_doomed_L24 S x1 13 0 0 : Int32) := rfl
set_option maxHeartbeats 400000 in
set_option maxRecDepth 100000 in
theorem c_X5_doomed (l : Launch) (E : kE) (ad : Nat → Nat) (S : kS) (hs : kSep ad) (x1 : Int32) (hn : nOK (S 0 0 2)) (R : Int32) (hE : R = mX5_doomed S x1) : Met l yX5_doomed wsX5_doomed ({ frames := 4, cells := 0, slots := 0, locals := 102 }) (kPreY E [.ref (ad 80), .int x1] ad S) (kRi R) 0 0 (fun _ => False) := by
  refine Met.ofW (cc := cX5_doomed) (maxL := 5) (ret := (some .int)) (by decide) rfl ?_
  intro p e s m args below meth c s₁ B hml hv
  obtain ⟨rfl, hK, hY⟩ := hv
  have hx := B.exec
  have hb := B.bytes
  have hr := B.returns
  have hts := atoms_spec (ws := wsX5_doomed) B.pre
  have hown : s.vm.findClass RX5 = some m.cls := findClass_of_methodNamed B.named
  have hlocks := B.notSynchronized
  have hiX5 : ∀ w ∈ wsX50, w ∈ wsX5_doomed := by decide +kernel
  have hf10 := hts (.fieldLink RX5 10 "SkewEdges" "ledger" "LSkewEdges$Ledger;") (by decide +kernel)
  have hl := lv_entry ([.ref (ad 80), .int x1]) (n := 5) (Nat.le_of_ble_eq_true rfl)
  rw [lg_entry_eq]
  generalize (lg_sl ([.ref (ad 80), .int x1]) ++ List.replicate (5 - (lg_sl ([.ref (ad 80), .int x1])).length) Slot.unset).toArray = ls at hl ⊢
  have hl : lv_has ls 5 [(0, .ref (ad 80)), (1, .int x1)] := hl
  replace hE := hE.trans mX5_doomed_s
  refine lv_iload_n hx hb dX5_doomed_0 rfl (lv_at hl 1 rfl) ?_
  refine kCallRi (va_runS (As := [.int x1]) (rest := []) ⟨hx, hb, hml, hown, hts⟩ (c_X5_isRule l E x1 _ rfl) (va_cwS 1 hts gX5_doomed_X5_isRule rfl rfl rfl (by decide +kernel) ⟨Nat.le_of_ble_eq_true rfl, Nat.le_of_ble_eq_true rfl⟩) (kPreS hK kP0) rfl rfl hl.1 rfl (lv_room (Nat.le_of_ble_eq_true rfl)) dX5_doomed_1 ⟨Nat.zero_le _, Nat.zero_le _⟩) ?_
  refine lv_if_ne (tgt := 10) hx hb dX5_doomed_4 (by decide) (fun c_1 => ?_) (fun c_1 => ?_)
  · replace hE := hE.trans (if_neg c_1)
    refine lv_aload_n hx hb dX5_doomed_10 rfl (lv_at hl 0 rfl) ?_
    refine va_get (D := E.1) (ci := 4) (v := .ref (ad 0)) (C := RX5) (T := TX5) (N := 6) hx hb hts hiX5 hown hK.1 hY.2.1 0 rfl rfl 0 (by decide) hf10 (fun _ h9 => h9) rfl dX5_doomed_11 ?_
    refine lv_iconst (v := 0) hx hb dX5_doomed_14 (by decide) ?_
    refine kCallRi (va_runV (As := [.int 0]) (rest := []) ⟨hx, hb, hml, hown, hts⟩ (c_X2_inPhase l E (ga ad (8 * 0)) (S 0) 0 (by first | assumption | exact tOK.nI (by omega)) _ rfl) (cwV 1 hts gX5_doomed_X2_inPhase rfl rfl rfl (by decide +kernel) ⟨Nat.le_of_ble_eq_true rfl, Nat.le_of_ble_eq_true rfl⟩) (kPreV hK (hY.1 0 (by omega)) (hY.1 0 (by omega)) (q0 := 0) rfl rfl) rfl rfl hl.1 rfl (lv_room (Nat.le_of_ble_eq_true rfl)) dX5_doomed_15 ⟨Nat.zero_le _, Nat.zero_le _⟩) ?_
    refine lv_istore_n (lv' := [(2, .int (mX2_inPhase (S 0) 0)), (0, .ref (ad 80)), (1, .int x1)]) hx hb dX5_doomed_18 rfl hl (by decide) rfl (fun ls hl => ?_)
    refine lv_iconst (v := 0) hx hb dX5_doomed_19 (by decide) ?_
    refine lv_istore_n (lv' := [(3, .int 0), (2, .int (mX2_inPhase (S 0) 0)), (0, .ref (ad 80)), (1, .int x1)]) hx hb dX5_doomed_20 rfl hl (by decide) rfl (fun ls hl => ?_)
    refine lv_iconst (v := 0) hx hb dX5_doomed_21 (by decide) ?_
    refine lv_istore (lv' := [(4, .int 0), (3, .int 0), (2, .int (mX2_inPhase (S 0) 0)), (0, .ref (ad 80)), (1, .int x1)]) hx hb dX5_doomed_22 hl (by decide) rfl (fun ls hl => ?_)
    have lp24 : ∀ (n24 : Nat) (x24_3 : Int32) (i24 : Nat), (12 < i24 + n24) → (i24 ≤ 12) → ∀ ls : Array Slot, lv_has ls 5 [(4, .int (nI i24)), (3, .int x24_3), (2, .int (mX2_inPhase (S 0) 0)), (0, .ref (ad 80)), (1, .int x1)] → R = mX5_doomed_L24 S x1 n24 x24_3 i24 → W p l e ({ frames := 4, cells := 0, slots := 0, locals := 102 }) s m ([.ref (ad 80), .int x1] : List Value).toArray below meth c s.heap [] 0 0 (MQ below (kRi R) ([.ref (ad 80), .int x1] : List Value).toArray s 0 0 (fun _ => False)) (F0 m 24 ls []) := by
      clear hE
      intro n24
      induction n24 with
      | zero =>
        intro x24_3 i24 hm24 hi24 ls hl hE
        exact absurd hm24 (by omega)
      | succ n24 ih24 =>
        intro x24_3 i24 hm24 hi24 ls hl hE
        replace hE := hE.trans mX5_doomed_L24_s
        refine lv_iload hx hb dX5_doomed_24 (lv_at hl 0 rfl) ?_
        refine lv_bipush (v := 12) hx hb dX5_doomed_26 (by decide) ?_
        refine lv_icmp_ge (tgt := 66) hx hb dX5_doomed_28 (by decide) (fun c_2 => ?_) (fun c_2 => ?_)
        · replace hE := hE.trans (if_pos c_2)
          refine lv_iload_n hx hb dX5_doomed_66 rfl (lv_at hl 1 rfl) ?_
          subst R
          exact W.iret (v := x24_3) hx hb hr (fun t ht hW => ⟨rfl, ht⟩) (fun _ h => by cases h) dX5_doomed_67
        · replace hE := hE.trans (if_neg c_2)
          have hbc_2 : i24 < 12 := nI_nle_lt ⟨by omega, by omega⟩ c_2
          refine lv_iload_n hx hb dX5_doomed_31 rfl (lv_at hl 2 rfl) ?_
          refine lv_iload hx hb dX5_doomed_32 (lv_at hl 0 rfl) ?_
          refine kCallRi (va_runS (As := [.int (mX2_inPhase (S 0) 0), .int (nI i24)]) (rest := []) ⟨hx, hb, hml, hown, hts⟩ (c_X5_contains l E (mX2_inPhase (S 0) 0) (nI i24) _ rfl) (va_cwS 2 hts gX5_doomed_X5_contains rfl rfl rfl (by decide +kernel) ⟨Nat.le_of_ble_eq_true rfl, Nat.le_of_ble_eq_true rfl⟩) (kPreS hK kP0) rfl rfl hl.1 rfl (lv_room (Nat.le_of_ble_eq_true rfl)) dX5_doomed_34 ⟨Nat.zero_le _, Nat.zero_le _⟩) ?_
          refine lv_if_eq (tgt := 60) hx hb dX5_doomed_37 (by decide) (fun c_3 => ?_) (fun c_3 => ?_)
          · replace hE := hE.trans (if_pos c_3)
            refine lv_iinc (v := (nI (i24 + 1))) (lv' := [(4, .int (nI (i24 + 1))), (3, .int x24_3), (2, .int (mX2_inPhase (S 0) 0)), (0, .ref (ad 80)), (1, .int x1)]) hx hb dX5_doomed_60 hl (k := 0) rfl (nI_1 i24) (by decide) rfl (fun ls hl => ?_)
            refine lv_goto (tgt := 24) hx hb dX5_doomed_63 (by decide) ?_
            exact ih24 x24_3 (i24 + 1) (by omega) (by omega) ls (lv_sub hl [0, 1, 2, 3, 4] rfl) hE
          · replace hE := hE.trans (if_neg c_3)
            refine lv_aload_n hx hb dX5_doomed_40 rfl (lv_at hl 3 rfl) ?_
            refine va_get (D := E.1) (ci := 4) (v := .ref (ad 0)) (C := RX5) (T := TX5) (N := 6) hx hb hts hiX5 hown hK.1 hY.2.1 0 rfl rfl 0 (by decide) hf10 (fun _ h9 => h9) rfl dX5_doomed_41 ?_
            refine lv_iload hx hb dX5_doomed_44 (lv_at hl 0 rfl) ?_
            refine lv_iload_n hx hb dX5_doomed_46 rfl (lv_at hl 4 rfl) ?_
            refine kCallRi (va_runS (As := [.ref (ad 0), .int (nI i24), .int x1]) (rest := []) ⟨hx, hb, hml, hown, hts⟩ (c_X0_refusal l E (ga ad (8 * 0)) (S 0) (nI i24) x1 (by first | assumption | exact tOK.nI (by omega)) (by first | assumption | exact tOK.nI (by omega)) _ rfl) (va_cwS 3 hts gX5_doomed_X0_refusal rfl rfl rfl (by decide +kernel) ⟨Nat.le_of_ble_eq_true rfl, Nat.le_of_ble_eq_true rfl⟩) (kPreS hK (hY.1 0 (by omega))) rfl rfl hl.1 rfl (lv_room (Nat.le_of_ble_eq_true rfl)) dX5_doomed_47 ⟨Nat.zero_le _, Nat.zero_le _⟩) ?_
            refine lv_if_eq (tgt := 60) hx hb dX5_doomed_50 (by decide) (fun c_4 => ?_) (fun c_4 => ?_)
            · replace hE := hE.trans (if_pos c_4)
              refine lv_iinc (v := (nI (i24 + 1))) (lv' := [(4, .int (nI (i24 + 1))), (3, .int x24_3), (2, .int (mX2_inPhase (S 0) 0)), (0, .ref (ad 80)), (1, .int x1)]) hx hb dX5_doomed_60 hl (k := 0) rfl (nI_1 i24) (by decide) rfl (fun ls hl => ?_)
              refine lv_goto (tgt := 24) hx hb dX5_doomed_63 (by decide) ?_
              exact ih24 x24_3 (i24 + 1) (by omega) (by omega) ls (lv_sub hl [0, 1, 2, 3, 4] rfl) hE
            · replace hE := hE.trans (if_neg c_4)
              refine lv_iload_n hx hb dX5_doomed_53 rfl (lv_at hl 1 rfl) ?_
              refine lv_iconst (v := 1) hx hb dX5_doomed_54 (by decide) ?_
              refine lv_iload hx hb dX5_doomed_55 (lv_at hl 0 rfl) ?_
              refine lv_ishl hx hb dX5_doomed_57 ?_
              refine lv_ior hx hb dX5_doomed_58 ?_
              refine lv_istore_n (lv' := [(3, .int (x24_3 ||| (1 <<< ((nI i24) &&& 31)))), (4, .int (nI i24)), (2, .int (mX2_inPhase (S 0) 0)), (0, .ref (ad 80)), (1, .int x1)]) hx hb dX5_doomed_59 rfl hl (by decide) rfl (fun ls hl => ?_)
              refine lv_iinc (v := (nI (i24 + 1))) (lv' := [(4, .int (nI (i24 + 1))), (3, .int (x24_3 ||| (1 <<< ((nI i24) &&& 31)))), (2, .int (mX2_inPhase (S 0) 0)), (0, .ref (ad 80)), (1, .int x1)]) hx hb dX5_doomed_60 hl (k := 1) rfl (nI_1 i24) (by decide) rfl (fun ls hl => ?_)
              refine lv_goto (tgt := 24) hx hb dX5_doomed_63 (by decide) ?_
              exact ih24 (x24_3 ||| (1 <<< ((nI i24) &&& 31))) (i24 + 1) (by omega) (by omega) ls (lv_sub hl [0, 1, 2, 3, 4] rfl) hE
    exact lp24 13 0 0 (by omega) (by omega) ls (lv_sub hl [0, 1, 2, 3, 4] rfl) hE
  · replace hE := hE.trans (if_pos c_1)
    refine lv_bipush (v := (-2)) hx hb dX5_doomed_7 (by decide) ?_
    subst R
    exact W.iret (v := (-2)) hx hb hr (fun t ht hW => ⟨rfl, ht⟩) (fun _ h => by cases h) dX5_doomed_9
def mX5_count (S : kS) (x1 : Int32) : Int32 × kS :=
  if x1 = 0 then
    (((S 0) 0 2), S)
  else
    if x1 = 1 then
      ((mX2_inPhase (S 0) 0), S)
    else
      if x1 = 2 then
        ((mX2_inPhase (S 0) 1), S)
      else
        if x1 = 3 then
          ((mX2_inPhase (S 0) 2), S)
        else
          if x1 = 4 then
            (((S 0) 0 1), S)
          else
            if x1 = 5 then
              (((S 0) 0 0), S)
            else
              if x1 = 6 then
                ((mX2_edgeTotal (S 0)), S)
              else
                if x1 = 7 then
                  ((mX2_pivots (S 0)), S)
                else
                  if x1 = 8 then
                    ((mX2_tripleTotal (S 0)), S)
                  else
                    if x1 = 9 then
                      (fun (g_11 : Int32 × (Nat → Int32) × (Nat → Int32)) =>
                        if (g_11.1) = 0 then
                          (0, (gset S 13 (rset (rset (S 13) 1 (g_11.2.1)) 2 (g_11.2.2))))
                        else
                          (1, (gset S 13 (rset (rset (S 13) 1 (g_11.2.1)) 2 (g_11.2.2)))))
                        (mX4_arrange (S 13) (S 0))
                    else
                      if x1 = 10 then
                        (((S 12) 0 0), S)
                      else
                        if x1 = 11 then
                          (((S 11) 0 0), S)
                        else
                          ((-2), S)
theorem mX5_count_s {S : kS} {x1 : Int32} : mX5_count S x1 = (
  if x1 = 0 then
    (((S 0) 0 2), S)
  else
    if x1 = 1 then
      ((mX2_inPhase (S 0) 0), S)
    else
      if x1 = 2 then
        ((mX2_inPhase (S 0) 1), S)
      else
        if x1 = 3 then
          ((mX2_inPhase (S 0) 2), S)
        else
          if x1 = 4 then
            (((S 0) 0 1), S)
          else
            if x1 = 5 then
              (((S 0) 0 0), S)
            else
              if x1 = 6 then
                ((mX2_edgeTotal (S 0)), S)
              else
                if x1 = 7 then
                  ((mX2_pivots (S 0)), S)
                else
                  if x1 = 8 then
                    ((mX2_tripleTotal (S 0)), S)
                  else
                    if x1 = 9 then
                      (fun (g_11 : Int32 × (Nat → Int32) × (Nat → Int32)) =>
                        if (g_11.1) = 0 then
                          (0, (gset S 13 (rset (rset (S 13) 1 (g_11.2.1)) 2 (g_11.2.2))))
                        else
                          (1, (gset S 13 (rset (rset (S 13) 1 (g_11.2.1)) 2 (g_11.2.2)))))
                        (mX4_arrange (S 13) (S 0))
                    else
                      if x1 = 10 then
                        (((S 12) 0 0), S)
                      else
                        if x1 = 11 then
                          (((S 11) 0 0), S)
                        else
                          ((-2), S) : Int32 × kS) := rfl
set_option maxHeartbeats 400000 in
set_option maxRecDepth 100000 in
theorem c_X5_count (l : Launch) (E : kE) (ad : Nat → Nat) (S : kS) (hs : kSep ad) (x1 : Int32) (hn : nOK (S 0 0 2)) (R : Int32 × kS) (hE : R = mX5_count S x1) : Met l yX5_count wsX5_count ({ frames := 5, cells := 0, slots := 0, locals := 117 }) (kPreY E [.ref (ad 80), .int x1] ad S) (kYi E R.1 ad R.2) 0 0 (kA ad 90) := by
  refine Met.ofW (cc := cX5_count) (maxL := 2) (ret := (some .int)) (by decide) rfl ?_
  intro p e s m args below meth c s₁ B hml hv
  obtain ⟨rfl, hK, hY⟩ := hv
  have hx := B.exec
  have hb := B.bytes
  have hr := B.returns
  have hts := atoms_spec (ws := wsX5_count) B.pre
  have hown : s.vm.findClass RX5 = some m.cls := findClass_of_methodNamed B.named
  have hlocks := B.notSynchronized
  have hiX5 : ∀ w ∈ wsX50, w ∈ wsX5_count := by decide +kernel
  have hiX1 : ∀ w ∈ wsX10, w ∈ wsX5_count := by decide +kernel
  have hiX2 : ∀ w ∈ wsX20, w ∈ wsX5_count := by decide +kernel
  have hiX3 : ∀ w ∈ wsX30, w ∈ wsX5_count := by decide +kernel
  have hf10 := hts (.fieldLink RX5 10 "SkewEdges" "ledger" "LSkewEdges$Ledger;") (by decide +kernel)
  have hf19 := hts (.fieldLink RX5 19 "SkewEdges" "history" "LSkewEdges$History;") (by decide +kernel)
  have hf34 := hts (.fieldLink RX5 34 "SkewEdges" "pad" "LSkewEdges$Pad;") (by decide +kernel)
  have hf41 := hts (.fieldLink RX5 41 "SkewEdges" "sequence" "LSkewEdges$Sequence;") (by decide +kernel)
  have hf78 := hts (.fieldLink RX5 78 "SkewEdges$Ledger" "moment" "I") (by decide +kernel)
  have hf126 := hts (.fieldLink RX5 126 "SkewEdges$Ledger" "total" "I") (by decide +kernel)
  have hf132 := hts (.fieldLink RX5 132 "SkewEdges$Ledger" "rule" "I") (by decide +kernel)
  have hf148 := hts (.fieldLink RX5 148 "SkewEdges$Pad" "length" "I") (by decide +kernel)
  have hf151 := hts (.fieldLink RX5 151 "SkewEdges$History" "kept" "I") (by decide +kernel)
  have hS : va_S (kA ad 90) s.heap s.heap [] := va_S.rf
  have hl := lv_entry ([.ref (ad 80), .int x1]) (n := 2) (Nat.le_of_ble_eq_true rfl)
  rw [lg_entry_eq]
  generalize (lg_sl ([.ref (ad 80), .int x1]) ++ List.replicate (2 - (lg_sl ([.ref (ad 80), .int x1])).length) Slot.unset).toArray = ls at hl ⊢
  have hl : lv_has ls 2 [(0, .ref (ad 80)), (1, .int x1)] := hl
  replace hE := hE.trans mX5_count_s
  refine lv_iload_n hx hb dX5_count_0 rfl (lv_at hl 1 rfl) ?_
  by_cases c_1 : x1 = 0
  · replace hE := hE.trans (if_pos c_1)
    refine W.eq (g2 := F0 m 1 ls ([.int 0])) (by rw [c_1]) ?_
    refine lv_tableIn (tgt := 64) hx hb dX5_count_1 (by decide) (by decide) rfl (by decide) ?_
    refine lv_aload_n hx hb dX5_count_64 rfl (lv_at hl 0 rfl) ?_
    refine va_get (D := E.1) (ci := 4) (v := .ref (ad 0)) (C := RX5) (T := TX5) (N := 6) hx hb hts hiX5 hown hK.1 hY.2.1 0 rfl rfl 0 (by decide) hf10 (fun _ h9 => h9) rfl dX5_count_65 ?_
    refine va_get (D := E.1) (ci := 1) (v := .int ((S 0) 0 2)) (C := RX2) (T := TX2) (N := 10) hx hb hts hiX2 hown hK.1 (hY.1 0 (by omega)) 0 rfl rfl 2 (by decide) hf126 (fun _ h9 => h9) rfl dX5_count_68 ?_
    subst R
    exact W.iret (v := ((S 0) 0 2)) hx hb hr (fun t ht hW => ⟨rfl, by rw [ht]; exact hY, hS.F ht⟩) hS.2.2 dX5_count_71
  · replace hE := hE.trans (if_neg c_1)
    by_cases c_2 : x1 = 1
    · replace hE := hE.trans (if_pos c_2)
      refine W.eq (g2 := F0 m 1 ls ([.int 1])) (by rw [c_2]) ?_
      refine lv_tableIn (tgt := 72) hx hb dX5_count_1 (by decide) (by decide) rfl (by decide) ?_
      refine lv_aload_n hx hb dX5_count_72 rfl (lv_at hl 0 rfl) ?_
      refine va_get (D := E.1) (ci := 4) (v := .ref (ad 0)) (C := RX5) (T := TX5) (N := 6) hx hb hts hiX5 hown hK.1 hY.2.1 0 rfl rfl 0 (by decide) hf10 (fun _ h9 => h9) rfl dX5_count_73 ?_
      refine lv_iconst (v := 0) hx hb dX5_count_76 (by decide) ?_
      refine kCallRi (va_runV (As := [.int 0]) (rest := []) ⟨hx, hb, hml, hown, hts⟩ (c_X2_inPhase l E (ga ad (8 * 0)) (S 0) 0 (by first | assumption | exact tOK.nI (by omega)) _ rfl) (cwV 1 hts gX5_count_X2_inPhase rfl rfl rfl (by decide +kernel) ⟨Nat.le_of_ble_eq_true rfl, Nat.le_of_ble_eq_true rfl⟩) (kPreV hK (hY.1 0 (by omega)) (hY.1 0 (by omega)) (q0 := 0) rfl rfl) rfl rfl hl.1 rfl (lv_room (Nat.le_of_ble_eq_true rfl)) dX5_count_77 ⟨Nat.zero_le _, Nat.zero_le _⟩) ?_
      subst R
      exact W.iret (v := (mX2_inPhase (S 0) 0)) hx hb hr (fun t ht hW => ⟨rfl, by rw [ht]; exact hY, hS.F ht⟩) hS.2.2 dX5_count_80
    · replace hE := hE.trans (if_neg c_2)
      by_cases c_3 : x1 = 2
      · replace hE := hE.trans (if_pos c_3)
        refine W.eq (g2 := F0 m 1 ls ([.int 2])) (by rw [c_3]) ?_
        refine lv_tableIn (tgt := 81) hx hb dX5_count_1 (by decide) (by decide) rfl (by decide) ?_
        refine lv_aload_n hx hb dX5_count_81 rfl (lv_at hl 0 rfl) ?_
        refine va_get (D := E.1) (ci := 4) (v := .ref (ad 0)) (C := RX5) (T := TX5) (N := 6) hx hb hts hiX5 hown hK.1 hY.2.1 0 rfl rfl 0 (by decide) hf10 (fun _ h9 => h9) rfl dX5_count_82 ?_
        refine lv_iconst (v := 1) hx hb dX5_count_85 (by decide) ?_
        refine kCallRi (va_runV (As := [.int 1]) (rest := []) ⟨hx, hb, hml, hown, hts⟩ (c_X2_inPhase l E (ga ad (8 * 0)) (S 0) 1 (by first | assumption | exact tOK.nI (by omega)) _ rfl) (cwV 1 hts gX5_count_X2_inPhase rfl rfl rfl (by decide +kernel) ⟨Nat.le_of_ble_eq_true rfl, Nat.le_of_ble_eq_true rfl⟩) (kPreV hK (hY.1 0 (by omega)) (hY.1 0 (by omega)) (q0 := 0) rfl rfl) rfl rfl hl.1 rfl (lv_room (Nat.le_of_ble_eq_true rfl)) dX5_count_86 ⟨Nat.zero_le _, Nat.zero_le _⟩) ?_
        subst R
        exact W.iret (v := (mX2_inPhase (S 0) 1)) hx hb hr (fun t ht hW => ⟨rfl, by rw [ht]; exact hY, hS.F ht⟩) hS.2.2 dX5_count_89
      · replace hE := hE.trans (if_neg c_3)
        by_cases c_4 : x1 = 3
        · replace hE := hE.trans (if_pos c_4)
          refine W.eq (g2 := F0 m 1 ls ([.int 3])) (by rw [c_4]) ?_
          refine lv_tableIn (tgt := 90) hx hb dX5_count_1 (by decide) (by decide) rfl (by decide) ?_
          refine lv_aload_n hx hb dX5_count_90 rfl (lv_at hl 0 rfl) ?_
          refine va_get (D := E.1) (ci := 4) (v := .ref (ad 0)) (C := RX5) (T := TX5) (N := 6) hx hb hts hiX5 hown hK.1 hY.2.1 0 rfl rfl 0 (by decide) hf10 (fun _ h9 => h9) rfl dX5_count_91 ?_
          refine lv_iconst (v := 2) hx hb dX5_count_94 (by decide) ?_
          refine kCallRi (va_runV (As := [.int 2]) (rest := []) ⟨hx, hb, hml, hown, hts⟩ (c_X2_inPhase l E (ga ad (8 * 0)) (S 0) 2 (by first | assumption | exact tOK.nI (by omega)) _ rfl) (cwV 1 hts gX5_count_X2_inPhase rfl rfl rfl (by decide +kernel) ⟨Nat.le_of_ble_eq_true rfl, Nat.le_of_ble_eq_true rfl⟩) (kPreV hK (hY.1 0 (by omega)) (hY.1 0 (by omega)) (q0 := 0) rfl rfl) rfl rfl hl.1 rfl (lv_room (Nat.le_of_ble_eq_true rfl)) dX5_count_95 ⟨Nat.zero_le _, Nat.zero_le _⟩) ?_
          subst R
          exact W.iret (v := (mX2_inPhase (S 0) 2)) hx hb hr (fun t ht hW => ⟨rfl, by rw [ht]; exact hY, hS.F ht⟩) hS.2.2 dX5_count_98
        · replace hE := hE.trans (if_neg c_4)
          by_cases c_5 : x1 = 4
          · replace hE := hE.trans (if_pos c_5)
            refine W.eq (g2 := F0 m 1 ls ([.int 4])) (by rw [c_5]) ?_
            refine lv_tableIn (tgt := 99) hx hb dX5_count_1 (by decide) (by decide) rfl (by decide) ?_
            refine lv_aload_n hx hb dX5_count_99 rfl (lv_at hl 0 rfl) ?_
            refine va_get (D := E.1) (ci := 4) (v := .ref (ad 0)) (C := RX5) (T := TX5) (N := 6) hx hb hts hiX5 hown hK.1 hY.2.1 0 rfl rfl 0 (by decide) hf10 (fun _ h9 => h9) rfl dX5_count_100 ?_
            refine va_get (D := E.1) (ci := 1) (v := .int ((S 0) 0 1)) (C := RX2) (T := TX2) (N := 10) hx hb hts hiX2 hown hK.1 (hY.1 0 (by omega)) 0 rfl rfl 1 (by decide) hf78 (fun _ h9 => h9) rfl dX5_count_103 ?_
            subst R
            exact W.iret (v := ((S 0) 0 1)) hx hb hr (fun t ht hW => ⟨rfl, by rw [ht]; exact hY, hS.F ht⟩) hS.2.2 dX5_count_106
          · replace hE := hE.trans (if_neg c_5)
            by_cases c_6 : x1 = 5
            · replace hE := hE.trans (if_pos c_6)
              refine W.eq (g2 := F0 m 1 ls ([.int 5])) (by rw [c_6]) ?_
              refine lv_tableIn (tgt := 107) hx hb dX5_count_1 (by decide) (by decide) rfl (by decide) ?_
              refine lv_aload_n hx hb dX5_count_107 rfl (lv_at hl 0 rfl) ?_
              refine va_get (D := E.1) (ci := 4) (v := .ref (ad 0)) (C := RX5) (T := TX5) (N := 6) hx hb hts hiX5 hown hK.1 hY.2.1 0 rfl rfl 0 (by decide) hf10 (fun _ h9 => h9) rfl dX5_count_108 ?_
              refine va_get (D := E.1) (ci := 1) (v := .int ((S 0) 0 0)) (C := RX2) (T := TX2) (N := 10) hx hb hts hiX2 hown hK.1 (hY.1 0 (by omega)) 0 rfl rfl 0 (by decide) hf132 (fun _ h9 => h9) rfl dX5_count_111 ?_
              subst R
              exact W.iret (v := ((S 0) 0 0)) hx hb hr (fun t ht hW => ⟨rfl, by rw [ht]; exact hY, hS.F ht⟩) hS.2.2 dX5_count_114
            · replace hE := hE.trans (if_neg c_6)
              by_cases c_7 : x1 = 6
              · replace hE := hE.trans (if_pos c_7)
                refine W.eq (g2 := F0 m 1 ls ([.int 6])) (by rw [c_7]) ?_
                refine lv_tableIn (tgt := 115) hx hb dX5_count_1 (by decide) (by decide) rfl (by decide) ?_
                refine lv_aload_n hx hb dX5_count_115 rfl (lv_at hl 0 rfl) ?_
                refine va_get (D := E.1) (ci := 4) (v := .ref (ad 0)) (C := RX5) (T := TX5) (N := 6) hx hb hts hiX5 hown hK.1 hY.2.1 0 rfl rfl 0 (by decide) hf10 (fun _ h9 => h9) rfl dX5_count_116 ?_
                refine kCallRi (va_runV (As := []) (rest := []) ⟨hx, hb, hml, hown, hts⟩ (c_X2_edgeTotal l E (ga ad (8 * 0)) (S 0) (by first | assumption | exact tOK.nI (by omega)) _ rfl) (cwV 0 hts gX5_count_X2_edgeTotal rfl rfl rfl (by decide +kernel) ⟨Nat.le_of_ble_eq_true rfl, Nat.le_of_ble_eq_true rfl⟩) (kPreV hK (hY.1 0 (by omega)) (hY.1 0 (by omega)) (q0 := 0) rfl rfl) rfl rfl hl.1 rfl (lv_room (Nat.le_of_ble_eq_true rfl)) dX5_count_119 ⟨Nat.zero_le _, Nat.zero_le _⟩) ?_
                subst R
                exact W.iret (v := (mX2_edgeTotal (S 0))) hx hb hr (fun t ht hW => ⟨rfl, by rw [ht]; exact hY, hS.F ht⟩) hS.2.2 dX5_count_122
              · replace hE := hE.trans (if_neg c_7)
                by_cases c_8 : x1 = 7
                · replace hE := hE.trans (if_pos c_8)
                  refine W.eq (g2 := F0 m 1 ls ([.int 7])) (by rw [c_8]) ?_
                  refine lv_tableIn (tgt := 123) hx hb dX5_count_1 (by decide) (by decide) rfl (by decide) ?_
                  refine lv_aload_n hx hb dX5_count_123 rfl (lv_at hl 0 rfl) ?_
                  refine va_get (D := E.1) (ci := 4) (v := .ref (ad 0)) (C := RX5) (T := TX5) (N := 6) hx hb hts hiX5 hown hK.1 hY.2.1 0 rfl rfl 0 (by decide) hf10 (fun _ h9 => h9) rfl dX5_count_124 ?_
                  refine kCallRi (va_runV (As := []) (rest := []) ⟨hx, hb, hml, hown, hts⟩ (c_X2_pivots l E (ga ad (8 * 0)) (S 0) (by first | assumption | exact tOK.nI (by omega)) _ rfl) (cwV 0 hts gX5_count_X2_pivots rfl rfl rfl (by decide +kernel) ⟨Nat.le_of_ble_eq_true rfl, Nat.le_of_ble_eq_true rfl⟩) (kPreV hK (hY.1 0 (by omega)) (hY.1 0 (by omega)) (q0 := 0) rfl rfl) rfl rfl hl.1 rfl (lv_room (Nat.le_of_ble_eq_true rfl)) dX5_count_127 ⟨Nat.zero_le _, Nat.zero_le _⟩) ?_
                  subst R
                  exact W.iret (v := (mX2_pivots (S 0))) hx hb hr (fun t ht hW => ⟨rfl, by rw [ht]; exact hY, hS.F ht⟩) hS.2.2 dX5_count_130
                · replace hE := hE.trans (if_neg c_8)
                  by_cases c_9 : x1 = 8
                  · replace hE := hE.trans (if_pos c_9)
                    refine W.eq (g2 := F0 m 1 ls ([.int 8])) (by rw [c_9]) ?_
                    refine lv_tableIn (tgt := 131) hx hb dX5_count_1 (by decide) (by decide) rfl (by decide) ?_
                    refine lv_aload_n hx hb dX5_count_131 rfl (lv_at hl 0 rfl) ?_
                    refine va_get (D := E.1) (ci := 4) (v := .ref (ad 0)) (C := RX5) (T := TX5) (N := 6) hx hb hts hiX5 hown hK.1 hY.2.1 0 rfl rfl 0 (by decide) hf10 (fun _ h9 => h9) rfl dX5_count_132 ?_
                    refine kCallRi (va_runV (As := []) (rest := []) ⟨hx, hb, hml, hown, hts⟩ (c_X2_tripleTotal l E (ga ad (8 * 0)) (S 0) (by first | assumption | exact tOK.nI (by omega)) _ rfl) (cwV 0 hts gX5_count_X2_tripleTotal rfl rfl rfl (by decide +kernel) ⟨Nat.le_of_ble_eq_true rfl, Nat.le_of_ble_eq_true rfl⟩) (kPreV hK (hY.1 0 (by omega)) (hY.1 0 (by omega)) (q0 := 0) rfl rfl) rfl rfl hl.1 rfl (lv_room (Nat.le_of_ble_eq_true rfl)) dX5_count_135 ⟨Nat.zero_le _, Nat.zero_le _⟩) ?_
                    subst R
                    exact W.iret (v := (mX2_tripleTotal (S 0))) hx hb hr (fun t ht hW => ⟨rfl, by rw [ht]; exact hY, hS.F ht⟩) hS.2.2 dX5_count_138
                  · replace hE := hE.trans (if_neg c_9)
                    by_cases c_10 : x1 = 9
                    · replace hE := hE.trans (if_pos c_10)
                      refine W.eq (g2 := F0 m 1 ls ([.int 9])) (by rw [c_10]) ?_
                      refine lv_tableIn (tgt := 139) hx hb dX5_count_1 (by decide) (by decide) rfl (by decide) ?_
                      refine lv_aload_n hx hb dX5_count_139 rfl (lv_at hl 0 rfl) ?_
                      refine va_get (D := E.1) (ci := 4) (v := .ref (ad 87)) (C := RX5) (T := TX5) (N := 6) hx hb hts hiX5 hown hK.1 hY.2.1 0 rfl rfl 5 (by decide) hf41 (fun _ h9 => h9) rfl dX5_count_140 ?_
                      refine lv_aload_n hx hb dX5_count_143 rfl (lv_at hl 0 rfl) ?_
                      refine va_get (D := E.1) (ci := 4) (v := .ref (ad 0)) (C := RX5) (T := TX5) (N := 6) hx hb hts hiX5 hown hK.1 hY.2.1 0 rfl rfl 0 (by decide) hf10 (fun _ h9 => h9) rfl dX5_count_144 ?_
                      refine kCallWi (va_runV (As := [.ref (ad 0)]) (rest := []) ⟨hx, hb, hml, hown, hts⟩ (c_X4_arrange l E (ga ad 87) (ga ad (8 * 0)) (S 13) (S 0) (hs.inj (by omega)) (hs.inj (by omega)) (hs.ap (by omega) (by omega) (by omega)) (by first | assumption | exact tOK.nI (by omega)) _ rfl) (cwV 1 hts gX5_count_X4_arrange rfl rfl rfl (by decide +kernel) ⟨Nat.le_of_ble_eq_true rfl, Nat.le_of_ble_eq_true rfl⟩) (kPreV hK (hY.2.2.2.2.app (hY.1 0 (by omega))) (hY.2.2.2.2.app (hY.1 0 (by omega))) (q0 := 0) rfl rfl) rfl rfl hl.1 rfl (lv_room (Nat.le_of_ble_eq_true rfl)) dX5_count_147 ⟨Nat.zero_le _, Nat.zero_le _⟩) hS (kA_sub2 (by omega) (by omega)) (fun H locs hP _ hk hS => ?_)
                      refine kGen (mX4_arrange (S 13) (S 0)) (fun g_11 hg_11 => ?_)
                      rw [hg_11] at hE hP ⊢
                      try dsimp only at hE
                      have hY := hY.putQ hs (rset (rset (S 13) 1 (g_11.2.1)) 2 (g_11.2.2)) hP hk
                      refine lv_if_eq (tgt := 157) hx hb dX5_count_150 (by decide) (fun c_12 => ?_) (fun c_12 => ?_)
                      · replace hE := hE.trans (if_pos c_12)
                        refine lv_iconst (v := 0) hx hb dX5_count_157 (by decide) ?_
                        subst R
                        exact W.iret (v := 0) hx hb hr (fun t ht hW => ⟨rfl, by rw [ht]; exact hY, hS.F ht⟩) hS.2.2 dX5_count_158
                      · replace hE := hE.trans (if_neg c_12)
                        refine lv_iconst (v := 1) hx hb dX5_count_153 (by decide) ?_
                        refine lv_goto (tgt := 158) hx hb dX5_count_154 (by decide) ?_
                        subst R
                        exact W.iret (v := 1) hx hb hr (fun t ht hW => ⟨rfl, by rw [ht]; exact hY, hS.F ht⟩) hS.2.2 dX5_count_158
                    · replace hE := hE.trans (if_neg c_10)
                      by_cases c_13 : x1 = 10
                      · replace hE := hE.trans (if_pos c_13)
                        refine W.eq (g2 := F0 m 1 ls ([.int 10])) (by rw [c_13]) ?_
                        refine lv_tableIn (tgt := 159) hx hb dX5_count_1 (by decide) (by decide) rfl (by decide) ?_
                        refine lv_aload_n hx hb dX5_count_159 rfl (lv_at hl 0 rfl) ?_
                        refine va_get (D := E.1) (ci := 4) (v := .ref (ad 85)) (C := RX5) (T := TX5) (N := 6) hx hb hts hiX5 hown hK.1 hY.2.1 0 rfl rfl 4 (by decide) hf34 (fun _ h9 => h9) rfl dX5_count_160 ?_
                        refine va_get (D := E.1) (ci := 2) (v := .int ((S 12) 0 0)) (C := RX3) (T := TX3) (N := 8) hx hb hts hiX3 hown hK.1 hY.2.2.2.1 0 rfl rfl 0 (by decide) hf148 (fun _ h9 => h9) rfl dX5_count_163 ?_
                        subst R
                        exact W.iret (v := ((S 12) 0 0)) hx hb hr (fun t ht hW => ⟨rfl, by rw [ht]; exact hY, hS.F ht⟩) hS.2.2 dX5_count_166
                      · replace hE := hE.trans (if_neg c_13)
                        by_cases c_14 : x1 = 11
                        · replace hE := hE.trans (if_pos c_14)
                          refine W.eq (g2 := F0 m 1 ls ([.int 11])) (by rw [c_14]) ?_
                          refine lv_tableIn (tgt := 167) hx hb dX5_count_1 (by decide) (by decide) rfl (by decide) ?_
                          refine lv_aload_n hx hb dX5_count_167 rfl (lv_at hl 0 rfl) ?_
                          refine va_get (D := E.1) (ci := 4) (v := .ref (ad 83)) (C := RX5) (T := TX5) (N := 6) hx hb hts hiX5 hown hK.1 hY.2.1 0 rfl rfl 1 (by decide) hf19 (fun _ h9 => h9) rfl dX5_count_168 ?_
                          refine va_get (D := E.1) (ci := 0) (v := .int ((S 11) 0 0)) (C := RX1) (T := TX1) (N := 3) hx hb hts hiX1 hown hK.1 (kP_l hY.2.2.1) 0 rfl rfl 0 (by decide) hf151 (fun _ h9 => h9) rfl dX5_count_171 ?_
                          subst R
                          exact W.iret (v := ((S 11) 0 0)) hx hb hr (fun t ht hW => ⟨rfl, by rw [ht]; exact hY, hS.F ht⟩) hS.2.2 dX5_count_174
                        · replace hE := hE.trans (if_neg c_14)
                          have hout : (x1).toInt < 0 ∨ 11 < (x1).toInt := kout0_11 c_1 c_2 c_3 c_4 c_5 c_6 c_7 c_8 c_9 c_10 c_13 c_14
                          refine lv_tableOut (tgt := 175) hx hb dX5_count_1 hout (by decide) ?_
                          refine lv_bipush (v := (-2)) hx hb dX5_count_175 (by decide) ?_
                          subst R
                          exact W.iret (v := (-2)) hx hb hr (fun t ht hW => ⟨rfl, by rw [ht]; exact hY, hS.F ht⟩) hS.2.2 dX5_count_177
def mX5_order (S : kS) (x1 : Int32) : Int32 × kS :=
  if x1 < 0 then
    ((-1), S)
  else
    if x1 < (mJ6_bitCount_0f7a4 (mX2_inPhase (S 0) 1)) then
      (fun (g_3 : Int32 × (Nat → Int32) × (Nat → Int32)) =>
        if (g_3.1) = 0 then
          ((-5), (gset S 13 (rset (rset (S 13) 1 (g_3.2.1)) 2 (g_3.2.2))))
        else
          ((mX4_at (rset (rset (S 13) 1 (g_3.2.1)) 2 (g_3.2.2)) x1), (gset S 13 (rset (rset (S 13) 1 (g_3.2.1)) 2 (g_3.2.2)))))
        (mX4_arrange (S 13) (S 0))
    else
      ((-1), S)
theorem mX5_order_s {S : kS} {x1 : Int32} : mX5_order S x1 = (
  if x1 < 0 then
    ((-1), S)
  else
    if x1 < (mJ6_bitCount_0f7a4 (mX2_inPhase (S 0) 1)) then
      (fun (g_3 : Int32 × (Nat → Int32) × (Nat → Int32)) =>
        if (g_3.1) = 0 then
          ((-5), (gset S 13 (rset (rset (S 13) 1 (g_3.2.1)) 2 (g_3.2.2))))
        else
          ((mX4_at (rset (rset (S 13) 1 (g_3.2.1)) 2 (g_3.2.2)) x1), (gset S 13 (rset (rset (S 13) 1 (g_3.2.1)) 2 (g_3.2.2)))))
        (mX4_arrange (S 13) (S 0))
    else
      ((-1), S) : Int32 × kS) := rfl
set_option maxHeartbeats 400000 in
set_option maxRecDepth 100000 in
theorem c_X5_order (l : Launch) (E : kE) (ad : Nat → Nat) (S : kS) (hs : kSep ad) (x1 : Int32) (hn : nOK (S 0 0 2)) (R : Int32 × kS) (hE : R = mX5_order S x1) : Met l yX5_order wsX5_order ({ frames := 5, cells := 0, slots := 0, locals := 117 }) (kPreY E [.ref (ad 80), .int x1] ad S) (kYi E R.1 ad R.2) 0 0 (kA ad 90) := by
  refine Met.ofW (cc := cX5_order) (maxL := 2) (ret := (some .int)) (by decide) rfl ?_
  intro p e s m args below meth c s₁ B hml hv
  obtain ⟨rfl, hK, hY⟩ := hv
  have hx := B.exec
  have hb := B.bytes
  have hr := B.returns
  have hts := atoms_spec (ws := wsX5_order) B.pre
  have hown : s.vm.findClass RX5 = some m.cls := findClass_of_methodNamed B.named
  have hlocks := B.notSynchronized
  have hiX5 : ∀ w ∈ wsX50, w ∈ wsX5_order := by decide +kernel
  have hf10 := hts (.fieldLink RX5 10 "SkewEdges" "ledger" "LSkewEdges$Ledger;") (by decide +kernel)
  have hf41 := hts (.fieldLink RX5 41 "SkewEdges" "sequence" "LSkewEdges$Sequence;") (by decide +kernel)
  have hS : va_S (kA ad 90) s.heap s.heap [] := va_S.rf
  have hl := lv_entry ([.ref (ad 80), .int x1]) (n := 2) (Nat.le_of_ble_eq_true rfl)
  rw [lg_entry_eq]
  generalize (lg_sl ([.ref (ad 80), .int x1]) ++ List.replicate (2 - (lg_sl ([.ref (ad 80), .int x1])).length) Slot.unset).toArray = ls at hl ⊢
  have hl : lv_has ls 2 [(0, .ref (ad 80)), (1, .int x1)] := hl
  replace hE := hE.trans mX5_order_s
  refine lv_iload_n hx hb dX5_order_0 rfl (lv_at hl 1 rfl) ?_
  refine lv_if_lt (tgt := 19) hx hb dX5_order_1 (by decide) (fun c_1 => ?_) (fun c_1 => ?_)
  · replace hE := hE.trans (if_pos c_1)
    refine lv_iconst (v := (-1)) hx hb dX5_order_19 (by decide) ?_
    subst R
    exact W.iret (v := (-1)) hx hb hr (fun t ht hW => ⟨rfl, by rw [ht]; exact hY, hS.F ht⟩) hS.2.2 dX5_order_20
  · replace hE := hE.trans (if_neg c_1)
    refine lv_iload_n hx hb dX5_order_4 rfl (lv_at hl 1 rfl) ?_
    refine lv_aload_n hx hb dX5_order_5 rfl (lv_at hl 0 rfl) ?_
    refine va_get (D := E.1) (ci := 4) (v := .ref (ad 0)) (C := RX5) (T := TX5) (N := 6) hx hb hts hiX5 hown hK.1 hY.2.1 0 rfl rfl 0 (by decide) hf10 (fun _ h9 => h9) rfl dX5_order_6 ?_
    refine lv_iconst (v := 1) hx hb dX5_order_9 (by decide) ?_
    refine kCallRi (va_runV (As := [.int 1]) (rest := [.int x1]) ⟨hx, hb, hml, hown, hts⟩ (c_X2_inPhase l E (ga ad (8 * 0)) (S 0) 1 (by first | assumption | exact tOK.nI (by omega)) _ rfl) (cwV 1 hts gX5_order_X2_inPhase rfl rfl rfl (by decide +kernel) ⟨Nat.le_of_ble_eq_true rfl, Nat.le_of_ble_eq_true rfl⟩) (kPreV hK (hY.1 0 (by omega)) (hY.1 0 (by omega)) (q0 := 0) rfl rfl) rfl rfl hl.1 rfl (lv_room (Nat.le_of_ble_eq_true rfl)) dX5_order_10 ⟨Nat.zero_le _, Nat.zero_le _⟩) ?_
    refine kCallRi (va_runS (As := [.int (mX2_inPhase (S 0) 1)]) (rest := [.int x1]) ⟨hx, hb, hml, hown, hts⟩ (c_J6_bitCount_0f7a4 l E (mX2_inPhase (S 0) 1) _ rfl) (va_cwS 1 hts gX5_order_J6_bitCount_0f7a4 rfl rfl rfl (by decide +kernel) ⟨Nat.le_of_ble_eq_true rfl, Nat.le_of_ble_eq_true rfl⟩) (kPreS hK kP0) rfl rfl hl.1 rfl (lv_room (Nat.le_of_ble_eq_true rfl)) dX5_order_13 ⟨Nat.zero_le _, Nat.zero_le _⟩) ?_
    refine lv_icmp_lt (tgt := 21) hx hb dX5_order_16 (by decide) (fun c_2 => ?_) (fun c_2 => ?_)
    · replace hE := hE.trans (if_pos c_2)
      refine lv_aload_n hx hb dX5_order_21 rfl (lv_at hl 0 rfl) ?_
      refine va_get (D := E.1) (ci := 4) (v := .ref (ad 87)) (C := RX5) (T := TX5) (N := 6) hx hb hts hiX5 hown hK.1 hY.2.1 0 rfl rfl 5 (by decide) hf41 (fun _ h9 => h9) rfl dX5_order_22 ?_
      refine lv_aload_n hx hb dX5_order_25 rfl (lv_at hl 0 rfl) ?_
      refine va_get (D := E.1) (ci := 4) (v := .ref (ad 0)) (C := RX5) (T := TX5) (N := 6) hx hb hts hiX5 hown hK.1 hY.2.1 0 rfl rfl 0 (by decide) hf10 (fun _ h9 => h9) rfl dX5_order_26 ?_
      refine kCallWi (va_runV (As := [.ref (ad 0)]) (rest := []) ⟨hx, hb, hml, hown, hts⟩ (c_X4_arrange l E (ga ad 87) (ga ad (8 * 0)) (S 13) (S 0) (hs.inj (by omega)) (hs.inj (by omega)) (hs.ap (by omega) (by omega) (by omega)) (by first | assumption | exact tOK.nI (by omega)) _ rfl) (cwV 1 hts gX5_order_X4_arrange rfl rfl rfl (by decide +kernel) ⟨Nat.le_of_ble_eq_true rfl, Nat.le_of_ble_eq_true rfl⟩) (kPreV hK (hY.2.2.2.2.app (hY.1 0 (by omega))) (hY.2.2.2.2.app (hY.1 0 (by omega))) (q0 := 0) rfl rfl) rfl rfl hl.1 rfl (lv_room (Nat.le_of_ble_eq_true rfl)) dX5_order_29 ⟨Nat.zero_le _, Nat.zero_le _⟩) hS (kA_sub2 (by omega) (by omega)) (fun H locs hP _ hk hS => ?_)
      refine kGen (mX4_arrange (S 13) (S 0)) (fun g_3 hg_3 => ?_)
      rw [hg_3] at hE hP ⊢
      try dsimp only at hE
      have hY := hY.putQ hs (rset (rset (S 13) 1 (g_3.2.1)) 2 (g_3.2.2)) hP hk
      refine lv_if_ne (tgt := 38) hx hb dX5_order_32 (by decide) (fun c_4 => ?_) (fun c_4 => ?_)
      · replace hE := hE.trans (if_neg c_4)
        refine lv_aload_n hx hb dX5_order_38 rfl (lv_at hl 0 rfl) ?_
        refine va_get (D := E.1) (ci := 4) (v := .ref (ad 87)) (C := RX5) (T := TX5) (N := 6) hx hb hts hiX5 hown hK.1 hY.2.1 0 rfl rfl 5 (by decide) hf41 (fun _ h9 => h9) rfl dX5_order_39 ?_
        refine lv_iload_n hx hb dX5_order_42 rfl (lv_at hl 1 rfl) ?_
        refine kCallRi (va_runV (As := [.int x1]) (rest := []) ⟨hx, hb, hml, hown, hts⟩ (c_X4_at l E (ga ad 87) (rset (rset (S 13) 1 (g_3.2.1)) 2 (g_3.2.2)) x1 _ rfl) (cwV 1 hts gX5_order_X4_at rfl rfl rfl (by decide +kernel) ⟨Nat.le_of_ble_eq_true rfl, Nat.le_of_ble_eq_true rfl⟩) (kPreV hK hY.2.2.2.2 hY.2.2.2.2 (q0 := 0) rfl rfl) rfl rfl hl.1 rfl (lv_room (Nat.le_of_ble_eq_true rfl)) dX5_order_43 ⟨Nat.zero_le _, Nat.zero_le _⟩) ?_
        subst R
        exact W.iret (v := (mX4_at (rset (rset (S 13) 1 (g_3.2.1)) 2 (g_3.2.2)) x1)) hx hb hr (fun t ht hW => ⟨rfl, by rw [ht]; exact hY, hS.F ht⟩) hS.2.2 dX5_order_46
      · replace hE := hE.trans (if_pos c_4)
        refine lv_bipush (v := (-5)) hx hb dX5_order_35 (by decide) ?_
        subst R
        exact W.iret (v := (-5)) hx hb hr (fun t ht hW => ⟨rfl, by rw [ht]; exact hY, hS.F ht⟩) hS.2.2 dX5_order_37
    · replace hE := hE.trans (if_neg c_2)
      refine lv_iconst (v := (-1)) hx hb dX5_order_19 (by decide) ?_
      subst R
      exact W.iret (v := (-1)) hx hb hr (fun t ht hW => ⟨rfl, by rw [ht]; exact hY, hS.F ht⟩) hS.2.2 dX5_order_20
