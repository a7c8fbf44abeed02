def mL_isOrder_K169 (S : kS) (r : kG) (x4_2 : Int32) (i4 : Nat) (g_2 : (Int32 × kS)) (g_8 : (Int32 × kS)) (g_14 : (Int32 × kS)) (i93 : Nat) (T93 : (Nat → Int32)) (x116_4 : Int32) (i116 : Nat) (S116 : kS) (T116 : (Nat → Int32)) (g_18 : (Int32 × kS)) (rec : Int32 → Nat → kS → (Nat → Int32) → (Int32 × kS)) (i169 : Nat) (T169 : (Nat → Int32)) : Int32 × kS :=
  rec (x116_4 ||| (1 <<< ((g_18.1) &&& 31))) (i116 + 1) (g_18.2) T169
theorem mL_isOrder_K169_s {S : kS} {r : kG} {x4_2 : Int32} {i4 : Nat} {g_2 : (Int32 × kS)} {g_8 : (Int32 × kS)} {g_14 : (Int32 × kS)} {i93 : Nat} {T93 : (Nat → Int32)} {x116_4 : Int32} {i116 : Nat} {S116 : kS} {T116 : (Nat → Int32)} {g_18 : (Int32 × kS)} {rec : Int32 → Nat → kS → (Nat → Int32) → (Int32 × kS)} {i169 : Nat} {T169 : (Nat → Int32)} : mL_isOrder_K169 S r x4_2 i4 g_2 g_8 g_14 i93 T93 x116_4 i116 S116 T116 g_18 rec i169 T169 = (
  rec (x116_4 ||| (1 <<< ((g_18.1) &&& 31))) (i116 + 1) (g_18.2) T169 : Int32 × kS) := rfl
def mL_isOrder_L169 (S : kS) (r : kG) (x4_2 : Int32) (i4 : Nat) (g_2 : (Int32 × kS)) (g_8 : (Int32 × kS)) (g_14 : (Int32 × kS)) (i93 : Nat) (T93 : (Nat → Int32)) (x116_4 : Int32) (i116 : Nat) (S116 : kS) (T116 : (Nat → Int32)) (g_18 : (Int32 × kS)) (kk : Nat → (Nat → Int32) → (Int32 × kS)) : Nat → Nat → (Nat → Int32) → (Int32 × kS)
  | 0, _, _ => (0, S)
  | n169 + 1, i169, T169 =>
    if 5 ≤ (nI i169) then
      kk i169 T169
    else
      if (((r 0 ((24 + (g_18.1))).toNatClampNeg) >>> ((nI i169) &&& 31)) &&& 1) = 1 then
        if (mL_writer r (nI i169) (r 0 ((g_18.1)).toNatClampNeg)) = (T169 ((nI i169)).toNatClampNeg) then
          if (((r 0 ((36 + (g_18.1))).toNatClampNeg) >>> ((nI i169) &&& 31)) &&& 1) = 1 then
            mL_isOrder_L169 S r x4_2 i4 g_2 g_8 g_14 i93 T93 x116_4 i116 S116 T116 g_18 kk n169 (i169 + 1) (upd T169 ((nI i169)).toNatClampNeg (g_18.1))
          else
            mL_isOrder_L169 S r x4_2 i4 g_2 g_8 g_14 i93 T93 x116_4 i116 S116 T116 g_18 kk n169 (i169 + 1) (upd T169 ((nI i169)).toNatClampNeg (T169 ((nI i169)).toNatClampNeg))
        else
          (0, (g_18.2))
      else
        if (((r 0 ((36 + (g_18.1))).toNatClampNeg) >>> ((nI i169) &&& 31)) &&& 1) = 1 then
          mL_isOrder_L169 S r x4_2 i4 g_2 g_8 g_14 i93 T93 x116_4 i116 S116 T116 g_18 kk n169 (i169 + 1) (upd T169 ((nI i169)).toNatClampNeg (g_18.1))
        else
          mL_isOrder_L169 S r x4_2 i4 g_2 g_8 g_14 i93 T93 x116_4 i116 S116 T116 g_18 kk n169 (i169 + 1) (upd T169 ((nI i169)).toNatClampNeg (T169 ((nI i169)).toNatClampNeg))
theorem mL_isOrder_L169_s {S : kS} {r : kG} {x4_2 : Int32} {i4 : Nat} {g_2 : (Int32 × kS)} {g_8 : (Int32 × kS)} {g_14 : (Int32 × kS)} {i93 : Nat} {T93 : (Nat → Int32)} {x116_4 : Int32} {i116 : Nat} {S116 : kS} {T116 : (Nat → Int32)} {g_18 : (Int32 × kS)} {kk : Nat → (Nat → Int32) → (Int32 × kS)} {n169 : Nat} {i169 : Nat} {T169 : (Nat → Int32)} : mL_isOrder_L169 S r x4_2 i4 g_2 g_8 g_14 i93 T93 x116_4 i116 S116 T116 g_18 kk (n169 + 1) i169 T169 = (
    if 5 ≤ (nI i169) then
      kk i169 T169
    else
      if (((r 0 ((24 + (g_18.1))).toNatClampNeg) >>> ((nI i169) &&& 31)) &&& 1) = 1 then
        if (mL_writer r (nI i169) (r 0 ((g_18.1)).toNatClampNeg)) = (T169 ((nI i169)).toNatClampNeg) then
          if (((r 0 ((36 + (g_18.1))).toNatClampNeg) >>> ((nI i169) &&& 31)) &&& 1) = 1 then
            mL_isOrder_L169 S r x4_2 i4 g_2 g_8 g_14 i93 T93 x116_4 i116 S116 T116 g_18 kk n169 (i169 + 1) (upd T169 ((nI i169)).toNatClampNeg (g_18.1))
          else
            mL_isOrder_L169 S r x4_2 i4 g_2 g_8 g_14 i93 T93 x116_4 i116 S116 T116 g_18 kk n169 (i169 + 1) (upd T169 ((nI i169)).toNatClampNeg (T169 ((nI i169)).toNatClampNeg))
        else
          (0, (g_18.2))
      else
        if (((r 0 ((36 + (g_18.1))).toNatClampNeg) >>> ((nI i169) &&& 31)) &&& 1) = 1 then
          mL_isOrder_L169 S r x4_2 i4 g_2 g_8 g_14 i93 T93 x116_4 i116 S116 T116 g_18 kk n169 (i169 + 1) (upd T169 ((nI i169)).toNatClampNeg (g_18.1))
        else
          mL_isOrder_L169 S r x4_2 i4 g_2 g_8 g_14 i93 T93 x116_4 i116 S116 T116 g_18 kk n169 (i169 + 1) (upd T169 ((nI i169)).toNatClampNeg (T169 ((nI i169)).toNatClampNeg)) : Int32 × kS) := rfl
def mL_isOrder_L116 (S : kS) (r : kG) (x4_2 : Int32) (i4 : Nat) (g_2 : (Int32 × kS)) (g_8 : (Int32 × kS)) (g_14 : (Int32 × kS)) (i93 : Nat) (T93 : (Nat → Int32)) : Nat → Int32 → Nat → kS → (Nat → Int32) → (Int32 × kS)
  | 0, _, _, _, _ => (0, S)
  | n116 + 1, x116_4, i116, S116, T116 =>
    if x4_2 ≤ (nI i116) then
      (1, S116)
    else
      (fun (g_18 : Int32 × kS) =>
        if (g_18.1) < 0 then
          (0, (g_18.2))
        else
          if (mL_isCommitted r (g_18.1)) = 0 then
            (0, (g_18.2))
          else
            if ((x116_4 >>> ((g_18.1) &&& 31)) &&& 1) = 1 then
              (0, (g_18.2))
            else
              mL_isOrder_L169 S r x4_2 i4 g_2 g_8 g_14 i93 T93 x116_4 i116 S116 T116 g_18 (mL_isOrder_K169 S r x4_2 i4 g_2 g_8 g_14 i93 T93 x116_4 i116 S116 T116 g_18 (mL_isOrder_L116 S r x4_2 i4 g_2 g_8 g_14 i93 T93 n116)) 6 0 T116)
        (mX5_order S116 (nI i116))
theorem mL_isOrder_L116_s {S : kS} {r : kG} {x4_2 : Int32} {i4 : Nat} {g_2 : (Int32 × kS)} {g_8 : (Int32 × kS)} {g_14 : (Int32 × kS)} {i93 : Nat} {T93 : (Nat → Int32)} {n116 : Nat} {x116_4 : Int32} {i116 : Nat} {S116 : kS} {T116 : (Nat → Int32)} : mL_isOrder_L116 S r x4_2 i4 g_2 g_8 g_14 i93 T93 (n116 + 1) x116_4 i116 S116 T116 = (
    if x4_2 ≤ (nI i116) then
      (1, S116)
    else
      (fun (g_18 : Int32 × kS) =>
        if (g_18.1) < 0 then
          (0, (g_18.2))
        else
          if (mL_isCommitted r (g_18.1)) = 0 then
            (0, (g_18.2))
          else
            if ((x116_4 >>> ((g_18.1) &&& 31)) &&& 1) = 1 then
              (0, (g_18.2))
            else
              mL_isOrder_L169 S r x4_2 i4 g_2 g_8 g_14 i93 T93 x116_4 i116 S116 T116 g_18 (mL_isOrder_K169 S r x4_2 i4 g_2 g_8 g_14 i93 T93 x116_4 i116 S116 T116 g_18 (mL_isOrder_L116 S r x4_2 i4 g_2 g_8 g_14 i93 T93 n116)) 6 0 T116)
        (mX5_order S116 (nI i116)) : Int32 × kS) := rfl
def mL_isOrder_L93 (S : kS) (r : kG) (x4_2 : Int32) (i4 : Nat) (g_2 : (Int32 × kS)) (g_8 : (Int32 × kS)) (g_14 : (Int32 × kS)) : Nat → Nat → (Nat → Int32) → (Int32 × kS)
  | 0, _, _ => (0, S)
  | n93 + 1, i93, T93 =>
    if 5 ≤ (nI i93) then
      mL_isOrder_L116 S r x4_2 i4 g_2 g_8 g_14 i93 T93 13 0 0 (g_14.2) T93
    else
      mL_isOrder_L93 S r x4_2 i4 g_2 g_8 g_14 n93 (i93 + 1) (upd T93 ((nI i93)).toNatClampNeg (-1))
theorem mL_isOrder_L93_s {S : kS} {r : kG} {x4_2 : Int32} {i4 : Nat} {g_2 : (Int32 × kS)} {g_8 : (Int32 × kS)} {g_14 : (Int32 × kS)} {n93 : Nat} {i93 : Nat} {T93 : (Nat → Int32)} : mL_isOrder_L93 S r x4_2 i4 g_2 g_8 g_14 (n93 + 1) i93 T93 = (
    if 5 ≤ (nI i93) then
      mL_isOrder_L116 S r x4_2 i4 g_2 g_8 g_14 i93 T93 13 0 0 (g_14.2) T93
    else
      mL_isOrder_L93 S r x4_2 i4 g_2 g_8 g_14 n93 (i93 + 1) (upd T93 ((nI i93)).toNatClampNeg (-1)) : Int32 × kS) := rfl
def mL_isOrder_L4 (S : kS) (r : kG) : Nat → Int32 → Nat → (Int32 × kS)
  | 0, _, _ => (0, S)
  | n4 + 1, x4_2, i4 =>
    if (r 0 49) ≤ (nI i4) then
      (fun (g_2 : Int32 × kS) =>
        if (g_2.1) = (-1) then
          (fun (g_8 : Int32 × kS) =>
            if (g_8.1) = (-1) then
              (fun (g_14 : Int32 × kS) =>
                if (g_14.1) = 0 then
                  (fun (g_27 : Int32 × kS) =>
                    if (g_27.1) = 0 then
                      (fun (g_29 : Int32 × kS) =>
                        if (g_29.1) = (-5) then
                          (1, (g_29.2))
                        else
                          (0, (g_29.2)))
                        (mX5_order (g_27.2) 0)
                    else
                      (0, (g_27.2)))
                    (mX5_count (g_14.2) 9)
                else
                  mL_isOrder_L93 S r x4_2 i4 g_2 g_8 g_14 6 0 (fun _ => 0))
                (mX5_count (g_8.2) 9)
            else
              (fun (g_10 : Int32 × kS) =>
                if (g_10.1) = 0 then
                  (fun (g_12 : Int32 × kS) =>
                    if (g_12.1) = (-5) then
                      (1, (g_12.2))
                    else
                      (0, (g_12.2)))
                    (mX5_order (g_10.2) 0)
                else
                  (0, (g_10.2)))
                (mX5_count (g_8.2) 9))
            (mX5_order (g_2.2) (-1))
        else
          (fun (g_4 : Int32 × kS) =>
            if (g_4.1) = 0 then
              (fun (g_6 : Int32 × kS) =>
                if (g_6.1) = (-5) then
                  (1, (g_6.2))
                else
                  (0, (g_6.2)))
                (mX5_order (g_4.2) 0)
            else
              (0, (g_4.2)))
            (mX5_count (g_2.2) 9))
        (mX5_order S x4_2)
    else
      if (mL_isCommitted r (nI i4)) = 0 then
        mL_isOrder_L4 S r n4 (x4_2 + 0) (i4 + 1)
      else
        mL_isOrder_L4 S r n4 (x4_2 + 1) (i4 + 1)
theorem mL_isOrder_L4_s {S : kS} {r : kG} {n4 : Nat} {x4_2 : Int32} {i4 : Nat} : mL_isOrder_L4 S r (n4 + 1) x4_2 i4 = (
    if (r 0 49) ≤ (nI i4) then
      (fun (g_2 : Int32 × kS) =>
        if (g_2.1) = (-1) then
          (fun (g_8 : Int32 × kS) =>
            if (g_8.1) = (-1) then
              (fun (g_14 : Int32 × kS) =>
                if (g_14.1) = 0 then
                  (fun (g_27 : Int32 × kS) =>
                    if (g_27.1) = 0 then
                      (fun (g_29 : Int32 × kS) =>
                        if (g_29.1) = (-5) then
                          (1, (g_29.2))
                        else
                          (0, (g_29.2)))
                        (mX5_order (g_27.2) 0)
                    else
                      (0, (g_27.2)))
                    (mX5_count (g_14.2) 9)
                else
                  mL_isOrder_L93 S r x4_2 i4 g_2 g_8 g_14 6 0 (fun _ => 0))
                (mX5_count (g_8.2) 9)
            else
              (fun (g_10 : Int32 × kS) =>
                if (g_10.1) = 0 then
                  (fun (g_12 : Int32 × kS) =>
                    if (g_12.1) = (-5) then
                      (1, (g_12.2))
                    else
                      (0, (g_12.2)))
                    (mX5_order (g_10.2) 0)
                else
                  (0, (g_10.2)))
                (mX5_count (g_8.2) 9))
            (mX5_order (g_2.2) (-1))
        else
          (fun (g_4 : Int32 × kS) =>
            if (g_4.1) = 0 then
              (fun (g_6 : Int32 × kS) =>
                if (g_6.1) = (-5) then
                  (1, (g_6.2))
                else
                  (0, (g_6.2)))
                (mX5_order (g_4.2) 0)
            else
              (0, (g_4.2)))
            (mX5_count (g_2.2) 9))
        (mX5_order S x4_2)
    else
      if (mL_isCommitted r (nI i4)) = 0 then
        mL_isOrder_L4 S r n4 (x4_2 + 0) (i4 + 1)
      else
        mL_isOrder_L4 S r n4 (x4_2 + 1) (i4 + 1) : Int32 × kS) := rfl
def mL_isOrder (S : kS) (r : kG) : Int32 × kS :=
  mL_isOrder_L4 S r 13 0 0
theorem mL_isOrder_s {S : kS} {r : kG} : mL_isOrder S r = (
  mL_isOrder_L4 S r 13 0 0 : Int32 × kS) := rfl
set_option maxHeartbeats 4000000 in
set_option maxRecDepth 100000 in
theorem c_L_isOrder (l : Launch) (E : kE) (ad : Nat → Nat) (S : kS) (hs : kSep ad) (a : Nat → Nat) (r : kG) (hap : ∀ q, kA ad 90 q → ¬ kA a 1 q) (sz : Nat) (hlt : ∀ q, kA ad 90 q → q < sz) (hal : a 0 < sz) (hn : nOK (S 0 0 2)) (hnr : nOK (r 0 49)) (hor : ∀ x, ordT (S 0) x) (R : Int32 × kS) (hE : R = mL_isOrder S r) : Met l yL_isOrder wsL_isOrder ({ frames := 6, cells := 1, slots := 5, locals := 138 }) (kPreTs E [.ref (ad 80), .ref (a 0)] ad S a r sz) (kTi E R.1 ad R.2 sz) 1 5 (fun q => kA ad 90 q ∨ sz ≤ q) := by
  refine Met.ofW (cc := cL_isOrder) (maxL := 8) (ret := (some .boolean)) (by decide) rfl ?_
  intro p e s m args below meth c s₁ B hml hv
  obtain ⟨rfl, hK, hY, hR, hsz⟩ := hv
  have hx := B.exec
  have hb := B.bytes
  have hr := B.returns
  have hts := atoms_spec (ws := wsL_isOrder) B.pre
  have hown : s.vm.findClass RL = some m.cls := findClass_of_methodNamed B.named
  have hlocks := B.notSynchronized
  have hS : va_S (fun q => kA ad 90 q ∨ sz ≤ q) s.heap s.heap [] := va_S.rf
  have hl := lv_entry ([.ref (ad 80), .ref (a 0)]) (n := 8) (Nat.le_of_ble_eq_true rfl)
  rw [lg_entry_eq]
  generalize (lg_sl ([.ref (ad 80), .ref (a 0)]) ++ List.replicate (8 - (lg_sl ([.ref (ad 80), .ref (a 0)])).length) Slot.unset).toArray = ls at hl ⊢
  have hl : lv_has ls 8 [(0, .ref (ad 80)), (1, .ref (a 0))] := hl
  replace hE := hE.trans mL_isOrder_s
  have he : kEqG (S 0) (S 0) := rfl
  refine lv_iconst (v := 0) hx hb dL_isOrder_0 (by decide) ?_
  refine lv_istore_n (lv' := [(2, .int 0), (0, .ref (ad 80)), (1, .ref (a 0))]) hx hb dL_isOrder_1 rfl hl (by decide) rfl (fun ls hl => ?_)
  refine lv_iconst (v := 0) hx hb dL_isOrder_2 (by decide) ?_
  refine lv_istore_n (lv' := [(3, .int 0), (2, .int 0), (0, .ref (ad 80)), (1, .ref (a 0))]) hx hb dL_isOrder_3 rfl hl (by decide) rfl (fun ls hl => ?_)
  have lp4 : ∀ (n4 : Nat) (x4_2 : Int32) (i4 : Nat), (12 < i4 + n4) → (i4 ≤ 12) → (cUp x4_2 i4) → ∀ ls : Array Slot, lv_has ls 8 [(3, .int (nI i4)), (2, .int x4_2), (0, .ref (ad 80)), (1, .ref (a 0))] → R = mL_isOrder_L4 S r n4 x4_2 i4 → W p l e ({ frames := 6, cells := 1, slots := 5, locals := 138 }) s m ([.ref (ad 80), .ref (a 0)] : List Value).toArray below meth c s.heap [] 0 0 (MQ below (kTi E R.1 ad R.2 sz) ([.ref (ad 80), .ref (a 0)] : List Value).toArray s 1 5 (fun q => kA ad 90 q ∨ sz ≤ q)) (F0 m 4 ls []) := by
    clear hE
    intro n4
    induction n4 with
    | zero =>
      intro x4_2 i4 hm4 hi4 hm4 ls hl hE
      exact absurd hm4 (by omega)
    | succ n4 ih4 =>
      intro x4_2 i4 hm4 hi4 hm4 ls hl hE
      replace hE := hE.trans mL_isOrder_L4_s
      refine lv_iload_n hx hb dL_isOrder_4 rfl (lv_at hl 0 rfl) ?_
      refine lv_aload_n hx hb dL_isOrder_5 rfl (lv_at hl 3 rfl) ?_
      refine lv_bipush (v := 49) hx hb dL_isOrder_6 (by decide) ?_
      refine va_iald (D := E.1) hx hb hK.1 hR 0 0 rfl rfl (vp_in_nI (n := 49) (by decide) (by decide)) dL_isOrder_8 ?_
      refine W.eq (g2 := F0 m 9 ls [.int (r 0 49), .int (nI i4)]) rfl ?_
      refine lv_icmp_ge (tgt := 34) hx hb dL_isOrder_9 (by decide) (fun c_1 => ?_) (fun c_1 => ?_)
      · replace hE := hE.trans (if_pos c_1)
        refine lv_aload_n hx hb dL_isOrder_34 rfl (lv_at hl 2 rfl) ?_
        refine lv_iload_n hx hb dL_isOrder_35 rfl (lv_at hl 1 rfl) ?_
        refine kCallYi (va_runV (As := [.int x4_2]) (rest := []) ⟨hx, hb, hml, hown, hts⟩ (c_X5_order l E ad S hs x4_2 (by assumption) _ rfl) (cwV 1 hts gL_isOrder_X5_order rfl rfl rfl (by decide +kernel) ⟨Nat.le_of_ble_eq_true rfl, Nat.le_of_ble_eq_true rfl⟩) (kPreYV hK hY.2.1 hY (q0 := 0) rfl rfl) rfl rfl hl.1 rfl (lv_room (Nat.le_of_ble_eq_true rfl)) dL_isOrder_36 ⟨Nat.le_of_ble_eq_true rfl, Nat.le_of_ble_eq_true rfl⟩) hS (fun _ h => (Or.inl h)) (fun H1 locs1 hY _ hk hS => ?_)
        have hR := kP_kept hR (dR (fun i j h1 h2 _ => by omega) _) (fun q z y => hap q y z) hk
        have hn : nOK (((mX5_order S x4_2)).2 0 0 2) := order_n (S := S) _ hn
        have he : kEqG (((mX5_order S x4_2)).2 0) (S 0) := (order_0 S _).trans he
        refine kGen (mX5_order S x4_2) (fun g_2 hg_2 => ?_)
        rw [hg_2] at hE hY hn he ⊢
        try dsimp only at hE
        refine lv_iconst (v := (-1)) hx hb dL_isOrder_39 (by decide) ?_
        refine lv_icmp_ne (tgt := 61) hx hb dL_isOrder_40 (by decide) (fun c_3 => ?_) (fun c_3 => ?_)
        · replace hE := hE.trans (if_neg c_3)
          refine lv_aload_n hx hb dL_isOrder_61 rfl (lv_at hl 2 rfl) ?_
          refine lv_bipush (v := 9) hx hb dL_isOrder_62 (by decide) ?_
          refine kCallYi (va_runV (As := [.int 9]) (rest := []) ⟨hx, hb, hml, hown, hts⟩ (c_X5_count l E ad (g_2.2) hs 9 (by assumption) _ rfl) (cwV 1 hts gL_isOrder_X5_count rfl rfl rfl (by decide +kernel) ⟨Nat.le_of_ble_eq_true rfl, Nat.le_of_ble_eq_true rfl⟩) (kPreYV hK hY.2.1 hY (q0 := 0) rfl rfl) rfl rfl hl.1 rfl (lv_room (Nat.le_of_ble_eq_true rfl)) dL_isOrder_64 ⟨Nat.le_of_ble_eq_true rfl, Nat.le_of_ble_eq_true rfl⟩) hS (fun _ h => (Or.inl h)) (fun H1 locs1 hY _ hk hS => ?_)
          have hR := kP_kept hR (dR (fun i j h1 h2 _ => by omega) _) (fun q z y => hap q y z) hk
          have hn : nOK (((mX5_count (g_2.2) 9)).2 0 0 2) := count_n (S := (g_2.2)) _ hn
          have he : kEqG (((mX5_count (g_2.2) 9)).2 0) (S 0) := (count_0 (g_2.2) _).trans he
          refine kGen (mX5_count (g_2.2) 9) (fun g_4 hg_4 => ?_)
          rw [hg_4] at hE hY hn he ⊢
          try dsimp only at hE
          refine lv_if_ne (tgt := 84) hx hb dL_isOrder_67 (by decide) (fun c_5 => ?_) (fun c_5 => ?_)
          · replace hE := hE.trans (if_neg c_5)
            refine lv_iconst (v := 0) hx hb dL_isOrder_84 (by decide) ?_
            subst R
            refine W.widen (k := 1) (n := 5) (by decide) (by decide) ?_
            exact W.zret (v := 0) (ty := .boolean) hx hb hr rfl (fun t ht hW => ⟨rfl, by rw [ht]; exact hY, hS.F ht⟩) hS.2.2 dL_isOrder_85
          · replace hE := hE.trans (if_pos c_5)
            refine lv_aload_n hx hb dL_isOrder_70 rfl (lv_at hl 2 rfl) ?_
            refine lv_iconst (v := 0) hx hb dL_isOrder_71 (by decide) ?_
            refine kCallYi (va_runV (As := [.int 0]) (rest := []) ⟨hx, hb, hml, hown, hts⟩ (c_X5_order l E ad (g_4.2) hs 0 (by assumption) _ rfl) (cwV 1 hts gL_isOrder_X5_order rfl rfl rfl (by decide +kernel) ⟨Nat.le_of_ble_eq_true rfl, Nat.le_of_ble_eq_true rfl⟩) (kPreYV hK hY.2.1 hY (q0 := 0) rfl rfl) rfl rfl hl.1 rfl (lv_room (Nat.le_of_ble_eq_true rfl)) dL_isOrder_72 ⟨Nat.le_of_ble_eq_true rfl, Nat.le_of_ble_eq_true rfl⟩) hS (fun _ h => (Or.inl h)) (fun H1 locs1 hY _ hk hS => ?_)
            have hR := kP_kept hR (dR (fun i j h1 h2 _ => by omega) _) (fun q z y => hap q y z) hk
            have hn : nOK (((mX5_order (g_4.2) 0)).2 0 0 2) := order_n (S := (g_4.2)) _ hn
            have he : kEqG (((mX5_order (g_4.2) 0)).2 0) (S 0) := (order_0 (g_4.2) _).trans he
            refine kGen (mX5_order (g_4.2) 0) (fun g_6 hg_6 => ?_)
            rw [hg_6] at hE hY hn he ⊢
            try dsimp only at hE
            refine lv_bipush (v := (-5)) hx hb dL_isOrder_75 (by decide) ?_
            refine lv_icmp_ne (tgt := 84) hx hb dL_isOrder_77 (by decide) (fun c_7 => ?_) (fun c_7 => ?_)
            · replace hE := hE.trans (if_neg c_7)
              refine lv_iconst (v := 0) hx hb dL_isOrder_84 (by decide) ?_
              subst R
              refine W.widen (k := 1) (n := 5) (by decide) (by decide) ?_
              exact W.zret (v := 0) (ty := .boolean) hx hb hr rfl (fun t ht hW => ⟨rfl, by rw [ht]; exact hY, hS.F ht⟩) hS.2.2 dL_isOrder_85
            · replace hE := hE.trans (if_pos c_7)
              refine lv_iconst (v := 1) hx hb dL_isOrder_80 (by decide) ?_
              refine lv_goto (tgt := 85) hx hb dL_isOrder_81 (by decide) ?_
              subst R
              refine W.widen (k := 1) (n := 5) (by decide) (by decide) ?_
              exact W.zret (v := 1) (ty := .boolean) hx hb hr rfl (fun t ht hW => ⟨rfl, by rw [ht]; exact hY, hS.F ht⟩) hS.2.2 dL_isOrder_85
        · replace hE := hE.trans (if_pos c_3)
          refine lv_aload_n hx hb dL_isOrder_43 rfl (lv_at hl 2 rfl) ?_
          refine lv_iconst (v := (-1)) hx hb dL_isOrder_44 (by decide) ?_
          refine kCallYi (va_runV (As := [.int (-1)]) (rest := []) ⟨hx, hb, hml, hown, hts⟩ (c_X5_order l E ad (g_2.2) hs (-1) (by assumption) _ rfl) (cwV 1 hts gL_isOrder_X5_order rfl rfl rfl (by decide +kernel) ⟨Nat.le_of_ble_eq_true rfl, Nat.le_of_ble_eq_true rfl⟩) (kPreYV hK hY.2.1 hY (q0 := 0) rfl rfl) rfl rfl hl.1 rfl (lv_room (Nat.le_of_ble_eq_true rfl)) dL_isOrder_45 ⟨Nat.le_of_ble_eq_true rfl, Nat.le_of_ble_eq_true rfl⟩) hS (fun _ h => (Or.inl h)) (fun H1 locs1 hY _ hk hS => ?_)
          have hR := kP_kept hR (dR (fun i j h1 h2 _ => by omega) _) (fun q z y => hap q y z) hk
          have hn : nOK (((mX5_order (g_2.2) (-1))).2 0 0 2) := order_n (S := (g_2.2)) _ hn
          have he : kEqG (((mX5_order (g_2.2) (-1))).2 0) (S 0) := (order_0 (g_2.2) _).trans he
          refine kGen (mX5_order (g_2.2) (-1)) (fun g_8 hg_8 => ?_)
          rw [hg_8] at hE hY hn he ⊢
          try dsimp only at hE
          refine lv_iconst (v := (-1)) hx hb dL_isOrder_48 (by decide) ?_
          refine lv_icmp_ne (tgt := 61) hx hb dL_isOrder_49 (by decide) (fun c_9 => ?_) (fun c_9 => ?_)
          · replace hE := hE.trans (if_neg c_9)
            refine lv_aload_n hx hb dL_isOrder_61 rfl (lv_at hl 2 rfl) ?_
            refine lv_bipush (v := 9) hx hb dL_isOrder_62 (by decide) ?_
            refine kCallYi (va_runV (As := [.int 9]) (rest := []) ⟨hx, hb, hml, hown, hts⟩ (c_X5_count l E ad (g_8.2) hs 9 (by assumption) _ rfl) (cwV 1 hts gL_isOrder_X5_count rfl rfl rfl (by decide +kernel) ⟨Nat.le_of_ble_eq_true rfl, Nat.le_of_ble_eq_true rfl⟩) (kPreYV hK hY.2.1 hY (q0 := 0) rfl rfl) rfl rfl hl.1 rfl (lv_room (Nat.le_of_ble_eq_true rfl)) dL_isOrder_64 ⟨Nat.le_of_ble_eq_true rfl, Nat.le_of_ble_eq_true rfl⟩) hS (fun _ h => (Or.inl h)) (fun H1 locs1 hY _ hk hS => ?_)
            have hR := kP_kept hR (dR (fun i j h1 h2 _ => by omega) _) (fun q z y => hap q y z) hk
            have hn : nOK (((mX5_count (g_8.2) 9)).2 0 0 2) := count_n (S := (g_8.2)) _ hn
            have he : kEqG (((mX5_count (g_8.2) 9)).2 0) (S 0) := (count_0 (g_8.2) _).trans he
            refine kGen (mX5_count (g_8.2) 9) (fun g_10 hg_10 => ?_)
            rw [hg_10] at hE hY hn he ⊢
            try dsimp only at hE
            refine lv_if_ne (tgt := 84) hx hb dL_isOrder_67 (by decide) (fun c_11 => ?_) (fun c_11 => ?_)
            · replace hE := hE.trans (if_neg c_11)
              refine lv_iconst (v := 0) hx hb dL_isOrder_84 (by decide) ?_
              subst R
              refine W.widen (k := 1) (n := 5) (by decide) (by decide) ?_
              exact W.zret (v := 0) (ty := .boolean) hx hb hr rfl (fun t ht hW => ⟨rfl, by rw [ht]; exact hY, hS.F ht⟩) hS.2.2 dL_isOrder_85
            · replace hE := hE.trans (if_pos c_11)
              refine lv_aload_n hx hb dL_isOrder_70 rfl (lv_at hl 2 rfl) ?_
              refine lv_iconst (v := 0) hx hb dL_isOrder_71 (by decide) ?_
              refine kCallYi (va_runV (As := [.int 0]) (rest := []) ⟨hx, hb, hml, hown, hts⟩ (c_X5_order l E ad (g_10.2) hs 0 (by assumption) _ rfl) (cwV 1 hts gL_isOrder_X5_order rfl rfl rfl (by decide +kernel) ⟨Nat.le_of_ble_eq_true rfl, Nat.le_of_ble_eq_true rfl⟩) (kPreYV hK hY.2.1 hY (q0 := 0) rfl rfl) rfl rfl hl.1 rfl (lv_room (Nat.le_of_ble_eq_true rfl)) dL_isOrder_72 ⟨Nat.le_of_ble_eq_true rfl, Nat.le_of_ble_eq_true rfl⟩) hS (fun _ h => (Or.inl h)) (fun H1 locs1 hY _ hk hS => ?_)
              have hR := kP_kept hR (dR (fun i j h1 h2 _ => by omega) _) (fun q z y => hap q y z) hk
              have hn : nOK (((mX5_order (g_10.2) 0)).2 0 0 2) := order_n (S := (g_10.2)) _ hn
              have he : kEqG (((mX5_order (g_10.2) 0)).2 0) (S 0) := (order_0 (g_10.2) _).trans he
              refine kGen (mX5_order (g_10.2) 0) (fun g_12 hg_12 => ?_)
              rw [hg_12] at hE hY hn he ⊢
              try dsimp only at hE
              refine lv_bipush (v := (-5)) hx hb dL_isOrder_75 (by decide) ?_
              refine lv_icmp_ne (tgt := 84) hx hb dL_isOrder_77 (by decide) (fun c_13 => ?_) (fun c_13 => ?_)
              · replace hE := hE.trans (if_neg c_13)
                refine lv_iconst (v := 0) hx hb dL_isOrder_84 (by decide) ?_
                subst R
                refine W.widen (k := 1) (n := 5) (by decide) (by decide) ?_
                exact W.zret (v := 0) (ty := .boolean) hx hb hr rfl (fun t ht hW => ⟨rfl, by rw [ht]; exact hY, hS.F ht⟩) hS.2.2 dL_isOrder_85
              · replace hE := hE.trans (if_pos c_13)
                refine lv_iconst (v := 1) hx hb dL_isOrder_80 (by decide) ?_
                refine lv_goto (tgt := 85) hx hb dL_isOrder_81 (by decide) ?_
                subst R
                refine W.widen (k := 1) (n := 5) (by decide) (by decide) ?_
                exact W.zret (v := 1) (ty := .boolean) hx hb hr rfl (fun t ht hW => ⟨rfl, by rw [ht]; exact hY, hS.F ht⟩) hS.2.2 dL_isOrder_85
          · replace hE := hE.trans (if_pos c_9)
            refine lv_aload_n hx hb dL_isOrder_52 rfl (lv_at hl 2 rfl) ?_
            refine lv_bipush (v := 9) hx hb dL_isOrder_53 (by decide) ?_
            refine kCallYi (va_runV (As := [.int 9]) (rest := []) ⟨hx, hb, hml, hown, hts⟩ (c_X5_count l E ad (g_8.2) hs 9 (by assumption) _ rfl) (cwV 1 hts gL_isOrder_X5_count rfl rfl rfl (by decide +kernel) ⟨Nat.le_of_ble_eq_true rfl, Nat.le_of_ble_eq_true rfl⟩) (kPreYV hK hY.2.1 hY (q0 := 0) rfl rfl) rfl rfl hl.1 rfl (lv_room (Nat.le_of_ble_eq_true rfl)) dL_isOrder_55 ⟨Nat.le_of_ble_eq_true rfl, Nat.le_of_ble_eq_true rfl⟩) hS (fun _ h => (Or.inl h)) (fun H1 locs1 hY _ hk hS => ?_)
            have hR := kP_kept hR (dR (fun i j h1 h2 _ => by omega) _) (fun q z y => hap q y z) hk
            have hn : nOK (((mX5_count (g_8.2) 9)).2 0 0 2) := count_n (S := (g_8.2)) _ hn
            have he : kEqG (((mX5_count (g_8.2) 9)).2 0) (S 0) := (count_0 (g_8.2) _).trans he
            refine kGen (mX5_count (g_8.2) 9) (fun g_14 hg_14 => ?_)
            rw [hg_14] at hE hY hn he ⊢
            try dsimp only at hE
            refine lv_if_ne (tgt := 86) hx hb dL_isOrder_58 (by decide) (fun c_15 => ?_) (fun c_15 => ?_)
            · replace hE := hE.trans (if_neg c_15)
              refine lv_iconst (v := 5) hx hb dL_isOrder_86 (by decide) ?_
              obtain ⟨z, ez⟩ : ∃ z, z = H1.size := ⟨_, rfl⟩
              have hzs : sz ≤ z := by rw [ez, ← hsz]; exact hS.1
              refine kNewa (ws := []) (D := E.1) (cl := vwCl) (atype := .int) (N' := 5) (a0 := (5, .inl (fun _ => 0))) (sz := z) hx hb (hts (.arrayClass .int) (by decide +kernel)) (kcI hK) kP0 kD0 hS (fun q h => Or.inr (by rw [← hsz]; exact h)) (fun _ => rfl) ez.symm (by decide) (by decide +kernel) (by decide) (Nat.le_of_ble_eq_true rfl) (Nat.le_of_ble_eq_true rfl) dL_isOrder_87 (fun H1 hT1 hDT hS1 hz1 ho => ?_)
              have hY := hY.keptA (A := fun q => z ≤ q) hs (fun q _ (h2 : ¬ z ≤ q) => ho q (by omega)) (fun q hq (h : z ≤ q) => absurd (hlt q hq) (by omega))
              have hR := kP1 hR (ho _ (by show a 0 < z; omega))
              have hT : va_P E.1 vwCl (wTx E z (fun _ => 0)) H1 := hT1
              have hS := hS1
              refine lv_astore_n (lv' := [(3, .ref z), (2, .int x4_2), (0, .ref (ad 80)), (1, .ref (a 0))]) hx hb dL_isOrder_89 rfl hl (by decide) rfl (fun ls hl => ?_)
              refine lv_iconst (v := 0) hx hb dL_isOrder_90 (by decide) ?_
              refine lv_istore (lv' := [(4, .int 0), (3, .ref z), (2, .int x4_2), (0, .ref (ad 80)), (1, .ref (a 0))]) hx hb dL_isOrder_91 hl (by decide) rfl (fun ls hl => ?_)
              have lp93 : ∀ (n93 : Nat) (i93 : Nat) (T93 : (Nat → Int32)) (H : Heap) (locs : List Loc), (5 < i93 + n93) → (i93 ≤ 5) → Sys E ad (g_14.2) H → va_P E.1 vwCl (wRx E a (r 0)) H → va_P E.1 vwCl (wTx E z T93) H → va_S (fun q => kA ad 90 q ∨ sz ≤ q) s.heap H locs → ∀ ls : Array Slot, lv_has ls 8 [(4, .int (nI i93)), (3, .ref z), (2, .int x4_2), (0, .ref (ad 80)), (1, .ref (a 0))] → R = mL_isOrder_L93 S r x4_2 i4 g_2 g_8 g_14 n93 i93 T93 → W p l e ({ frames := 6, cells := 1, slots := 5, locals := 138 }) s m ([.ref (ad 80), .ref (a 0)] : List Value).toArray below meth c H locs 1 5 (MQ below (kTi E R.1 ad R.2 sz) ([.ref (ad 80), .ref (a 0)] : List Value).toArray s 1 5 (fun q => kA ad 90 q ∨ sz ≤ q)) (F0 m 93 ls []) := by
                clear hE
                intro n93
                induction n93 with
                | zero =>
                  intro i93 T93 H locs hm93 hi93 hY hR hT hS ls hl hE
                  exact absurd hm93 (by omega)
                | succ n93 ih93 =>
                  intro i93 T93 H locs hm93 hi93 hY hR hT hS ls hl hE
                  replace hE := hE.trans mL_isOrder_L93_s
                  refine lv_iload hx hb dL_isOrder_93 (lv_at hl 0 rfl) ?_
                  refine lv_iconst (v := 5) hx hb dL_isOrder_95 (by decide) ?_
                  refine lv_icmp_ge (tgt := 110) hx hb dL_isOrder_96 (by decide) (fun c_16 => ?_) (fun c_16 => ?_)
                  · replace hE := hE.trans (if_pos c_16)
                    refine lv_iconst (v := 0) hx hb dL_isOrder_110 (by decide) ?_
                    refine lv_istore (lv' := [(4, .int 0), (3, .ref z), (2, .int x4_2), (0, .ref (ad 80)), (1, .ref (a 0))]) hx hb dL_isOrder_111 hl (by decide) rfl (fun ls hl => ?_)
                    refine lv_iconst (v := 0) hx hb dL_isOrder_113 (by decide) ?_
                    refine lv_istore (lv' := [(5, .int 0), (4, .int 0), (3, .ref z), (2, .int x4_2), (0, .ref (ad 80)), (1, .ref (a 0))]) hx hb dL_isOrder_114 hl (by decide) rfl (fun ls hl => ?_)
                    have lp116 : ∀ (n116 : Nat) (x116_4 : Int32) (i116 : Nat) (S116 : kS) (T116 : (Nat → Int32)) (H : Heap) (locs : List Loc), (12 < i116 + n116) → (i116 ≤ 12) → (nOK (S116 0 0 2)) → (kEqG (S116 0) (S 0)) → (nOK x4_2) → Sys E ad S116 H → va_P E.1 vwCl (wRx E a (r 0)) H → va_P E.1 vwCl (wTx E z T116) H → va_S (fun q => kA ad 90 q ∨ sz ≤ q) s.heap H locs → ∀ ls : Array Slot, lv_has ls 8 [(5, .int (nI i116)), (4, .int x116_4), (3, .ref z), (2, .int x4_2), (0, .ref (ad 80)), (1, .ref (a 0))] → R = mL_isOrder_L116 S r x4_2 i4 g_2 g_8 g_14 i93 T93 n116 x116_4 i116 S116 T116 → W p l e ({ frames := 6, cells := 1, slots := 5, locals := 138 }) s m ([.ref (ad 80), .ref (a 0)] : List Value).toArray below meth c H locs 1 5 (MQ below (kTi E R.1 ad R.2 sz) ([.ref (ad 80), .ref (a 0)] : List Value).toArray s 1 5 (fun q => kA ad 90 q ∨ sz ≤ q)) (F0 m 116 ls []) := by
                      clear hE
                      intro n116
                      induction n116 with
                      | zero =>
                        intro x116_4 i116 S116 T116 H locs hm116 hi116 hn he hm hY hR hT hS ls hl hE
                        exact absurd hm116 (by omega)
                      | succ n116 ih116 =>
                        intro x116_4 i116 S116 T116 H locs hm116 hi116 hn he hm hY hR hT hS ls hl hE
                        replace hE := hE.trans mL_isOrder_L116_s
                        refine lv_iload hx hb dL_isOrder_116 (lv_at hl 0 rfl) ?_
                        refine lv_iload_n hx hb dL_isOrder_118 rfl (lv_at hl 3 rfl) ?_
                        refine lv_icmp_ge (tgt := 251) hx hb dL_isOrder_119 (by decide) (fun c_17 => ?_) (fun c_17 => ?_)
                        · replace hE := hE.trans (if_pos c_17)
                          refine lv_iconst (v := 1) hx hb dL_isOrder_251 (by decide) ?_
                          subst R
                          exact W.zret (v := 1) (ty := .boolean) hx hb hr rfl (fun t ht hW => ⟨rfl, by rw [ht]; exact hY, hS.F ht⟩) hS.2.2 dL_isOrder_252
                        · replace hE := hE.trans (if_neg c_17)
                          have hbc_17 : i116 < 12 := nOK.lt (by assumption) (by omega) c_17
                          refine lv_aload_n hx hb dL_isOrder_122 rfl (lv_at hl 4 rfl) ?_
                          refine lv_iload hx hb dL_isOrder_123 (lv_at hl 0 rfl) ?_
                          refine kCallYi (va_runV (As := [.int (nI i116)]) (rest := []) ⟨hx, hb, hml, hown, hts⟩ (c_X5_order l E ad S116 hs (nI i116) (by assumption) _ rfl) (cwV 1 hts gL_isOrder_X5_order rfl rfl rfl (by decide +kernel) ⟨Nat.le_of_ble_eq_true rfl, Nat.le_of_ble_eq_true rfl⟩) (kPreYV hK hY.2.1 hY (q0 := 0) rfl rfl) rfl rfl hl.1 rfl (lv_room (Nat.le_of_ble_eq_true rfl)) dL_isOrder_125 ⟨Nat.le_of_ble_eq_true rfl, Nat.le_of_ble_eq_true rfl⟩) hS (fun _ h => (Or.inl h)) (fun H1 locs1 hY _ hk hS => ?_)
                          have hR := kP_kept hR (dR (fun i j h1 h2 _ => by omega) _) (fun q z y => hap q y z) hk
                          have hT := kP_kept (A := fun q => q = z) hT (kD1 rfl) (fun q (h : q = z) y => by have := hlt q y; omega) hk
                          have hot : ((mX5_order S116 (nI i116))).1 < 0 ∨ tOK ((mX5_order S116 (nI i116))).1 := hor _ S116 he
                          have hn : nOK (((mX5_order S116 (nI i116))).2 0 0 2) := order_n (S := S116) _ hn
                          have he : kEqG (((mX5_order S116 (nI i116))).2 0) (S 0) := (order_0 S116 _).trans he
                          refine kGen (mX5_order S116 (nI i116)) (fun g_18 hg_18 => ?_)
                          rw [hg_18] at hE hY hot hn he ⊢
                          try dsimp only at hE
                          refine lv_istore (lv' := [(6, .int (g_18.1)), (5, .int (nI i116)), (4, .int x116_4), (3, .ref z), (2, .int x4_2), (0, .ref (ad 80)), (1, .ref (a 0))]) hx hb dL_isOrder_128 hl (by decide) rfl (fun ls hl => ?_)
                          refine lv_iload hx hb dL_isOrder_130 (lv_at hl 0 rfl) ?_
                          refine lv_if_lt (tgt := 155) hx hb dL_isOrder_132 (by decide) (fun c_19 => ?_) (fun c_19 => ?_)
                          · replace hE := hE.trans (if_pos c_19)
                            refine lv_iconst (v := 0) hx hb dL_isOrder_155 (by decide) ?_
                            subst R
                            exact W.zret (v := 0) (ty := .boolean) hx hb hr rfl (fun t ht hW => ⟨rfl, by rw [ht]; exact hY, hS.F ht⟩) hS.2.2 dL_isOrder_156
                          · replace hE := hE.trans (if_neg c_19)
                            have htt := hot.resolve_left c_19
                            refine lv_aload_n hx hb dL_isOrder_135 rfl (lv_at hl 6 rfl) ?_
                            refine lv_iload hx hb dL_isOrder_136 (lv_at hl 0 rfl) ?_
                            refine kCallRi (va_runS (As := [.ref (a 0), .int (g_18.1)]) (rest := []) ⟨hx, hb, hml, hown, hts⟩ (c_L_isCommitted l E a r (g_18.1) (by first | assumption | exact tOK.nI (by omega)) _ rfl) (va_cwS 2 hts gL_isOrder_L_isCommitted rfl rfl rfl (by decide +kernel) ⟨Nat.le_of_ble_eq_true rfl, Nat.le_of_ble_eq_true rfl⟩) (kPreS hK hR) rfl rfl hl.1 rfl (lv_room (Nat.le_of_ble_eq_true rfl)) dL_isOrder_138 ⟨Nat.le_of_ble_eq_true rfl, Nat.le_of_ble_eq_true rfl⟩) ?_
                            refine lv_if_eq (tgt := 155) hx hb dL_isOrder_141 (by decide) (fun c_20 => ?_) (fun c_20 => ?_)
                            · replace hE := hE.trans (if_pos c_20)
                              refine lv_iconst (v := 0) hx hb dL_isOrder_155 (by decide) ?_
                              subst R
                              exact W.zret (v := 0) (ty := .boolean) hx hb hr rfl (fun t ht hW => ⟨rfl, by rw [ht]; exact hY, hS.F ht⟩) hS.2.2 dL_isOrder_156
                            · replace hE := hE.trans (if_neg c_20)
                              refine lv_iload hx hb dL_isOrder_144 (lv_at hl 2 rfl) ?_
                              refine lv_iload hx hb dL_isOrder_146 (lv_at hl 0 rfl) ?_
                              refine lv_ishr hx hb dL_isOrder_148 ?_
                              refine lv_iconst (v := 1) hx hb dL_isOrder_149 (by decide) ?_
                              refine lv_iand hx hb dL_isOrder_150 ?_
                              refine lv_iconst (v := 1) hx hb dL_isOrder_151 (by decide) ?_
                              refine lv_icmp_ne (tgt := 157) hx hb dL_isOrder_152 (by decide) (fun c_21 => ?_) (fun c_21 => ?_)
                              · replace hE := hE.trans (if_neg c_21)
                                refine lv_iload hx hb dL_isOrder_157 (lv_at hl 2 rfl) ?_
                                refine lv_iconst (v := 1) hx hb dL_isOrder_159 (by decide) ?_
                                refine lv_iload hx hb dL_isOrder_160 (lv_at hl 0 rfl) ?_
                                refine lv_ishl hx hb dL_isOrder_162 ?_
                                refine lv_ior hx hb dL_isOrder_163 ?_
                                refine lv_istore (lv' := [(4, .int (x116_4 ||| (1 <<< ((g_18.1) &&& 31)))), (6, .int (g_18.1)), (5, .int (nI i116)), (3, .ref z), (2, .int x4_2), (0, .ref (ad 80)), (1, .ref (a 0))]) hx hb dL_isOrder_164 hl (by decide) rfl (fun ls hl => ?_)
                                refine lv_iconst (v := 0) hx hb dL_isOrder_166 (by decide) ?_
                                refine lv_istore (lv' := [(7, .int 0), (4, .int (x116_4 ||| (1 <<< ((g_18.1) &&& 31)))), (6, .int (g_18.1)), (5, .int (nI i116)), (3, .ref z), (2, .int x4_2), (0, .ref (ad 80)), (1, .ref (a 0))]) hx hb dL_isOrder_167 hl (by decide) rfl (fun ls hl => ?_)
                                have lp169 : ∀ (n169 : Nat) (i169 : Nat) (T169 : (Nat → Int32)) (H : Heap) (locs : List Loc), (5 < i169 + n169) → (i169 ≤ 5) → Sys E ad (g_18.2) H → va_P E.1 vwCl (wRx E a (r 0)) H → va_P E.1 vwCl (wTx E z T169) H → va_S (fun q => kA ad 90 q ∨ sz ≤ q) s.heap H locs → ∀ ls : Array Slot, lv_has ls 8 [(7, .int (nI i169)), (4, .int (x116_4 ||| (1 <<< ((g_18.1) &&& 31)))), (6, .int (g_18.1)), (5, .int (nI i116)), (3, .ref z), (2, .int x4_2), (0, .ref (ad 80)), (1, .ref (a 0))] → R = mL_isOrder_L169 S r x4_2 i4 g_2 g_8 g_14 i93 T93 x116_4 i116 S116 T116 g_18 (mL_isOrder_K169 S r x4_2 i4 g_2 g_8 g_14 i93 T93 x116_4 i116 S116 T116 g_18 (mL_isOrder_L116 S r x4_2 i4 g_2 g_8 g_14 i93 T93 n116)) n169 i169 T169 → W p l e ({ frames := 6, cells := 1, slots := 5, locals := 138 }) s m ([.ref (ad 80), .ref (a 0)] : List Value).toArray below meth c H locs 1 5 (MQ below (kTi E R.1 ad R.2 sz) ([.ref (ad 80), .ref (a 0)] : List Value).toArray s 1 5 (fun q => kA ad 90 q ∨ sz ≤ q)) (F0 m 169 ls []) := by
                                  clear hE
                                  intro n169
                                  induction n169 with
                                  | zero =>
                                    intro i169 T169 H locs hm169 hi169 hY hR hT hS ls hl hE
                                    exact absurd hm169 (by omega)
                                  | succ n169 ih169 =>
                                    intro i169 T169 H locs hm169 hi169 hY hR hT hS ls hl hE
                                    replace hE := hE.trans mL_isOrder_L169_s
                                    refine lv_iload hx hb dL_isOrder_169 (lv_at hl 0 rfl) ?_
                                    refine lv_iconst (v := 5) hx hb dL_isOrder_171 (by decide) ?_
                                    refine lv_icmp_ge (tgt := 245) hx hb dL_isOrder_172 (by decide) (fun c_22 => ?_) (fun c_22 => ?_)
                                    · replace hE := hE.trans (if_pos c_22)
                                      replace hE := hE.trans mL_isOrder_K169_s
                                      refine lv_iinc (v := (nI (i116 + 1))) (lv' := [(5, .int (nI (i116 + 1))), (7, .int (nI i169)), (4, .int (x116_4 ||| (1 <<< ((g_18.1) &&& 31)))), (6, .int (g_18.1)), (3, .ref z), (2, .int x4_2), (0, .ref (ad 80)), (1, .ref (a 0))]) hx hb dL_isOrder_245 hl (k := 3) rfl (nI_1 i116) (by decide) rfl (fun ls hl => ?_)
                                      refine lv_goto (tgt := 116) hx hb dL_isOrder_248 (by decide) ?_
                                      exact ih116 (x116_4 ||| (1 <<< ((g_18.1) &&& 31))) (i116 + 1) (g_18.2) T169 _ _ (by omega) (by omega) hn he hm hY hR hT hS ls (lv_sub hl [0, 2, 4, 5, 6, 7] rfl) hE
                                    · replace hE := hE.trans (if_neg c_22)
                                      have hbc_22 : i169 < 5 := nI_nle_lt ⟨by omega, by omega⟩ c_22
                                      refine lv_aload_n hx hb dL_isOrder_175 rfl (lv_at hl 7 rfl) ?_
                                      refine lv_bipush (v := 24) hx hb dL_isOrder_176 (by decide) ?_
                                      refine lv_iload hx hb dL_isOrder_178 (lv_at hl 2 rfl) ?_
                                      refine lv_iadd hx hb dL_isOrder_180 ?_
                                      refine va_iald (D := E.1) hx hb hK.1 hR 0 0 rfl rfl (rIn 24 (by decide) (by first | assumption | exact tOK.nI (by omega))) dL_isOrder_181 ?_
                                      refine lv_iload hx hb dL_isOrder_182 (lv_at hl 0 rfl) ?_
                                      refine lv_ishr hx hb dL_isOrder_184 ?_
                                      refine lv_iconst (v := 1) hx hb dL_isOrder_185 (by decide) ?_
                                      refine lv_iand hx hb dL_isOrder_186 ?_
                                      refine lv_iconst (v := 1) hx hb dL_isOrder_187 (by decide) ?_
                                      refine lv_icmp_ne (tgt := 210) hx hb dL_isOrder_188 (by decide) (fun c_23 => ?_) (fun c_23 => ?_)
                                      · replace hE := hE.trans (if_neg c_23)
                                        refine lv_aload_n hx hb dL_isOrder_210 rfl (lv_at hl 4 rfl) ?_
                                        refine lv_iload hx hb dL_isOrder_211 (lv_at hl 0 rfl) ?_
                                        refine lv_aload_n hx hb dL_isOrder_213 rfl (lv_at hl 7 rfl) ?_
                                        refine lv_bipush (v := 36) hx hb dL_isOrder_214 (by decide) ?_
                                        refine lv_iload hx hb dL_isOrder_216 (lv_at hl 2 rfl) ?_
                                        refine lv_iadd hx hb dL_isOrder_218 ?_
                                        refine va_iald (D := E.1) hx hb hK.1 hR 0 0 rfl rfl (rIn 36 (by decide) (by first | assumption | exact tOK.nI (by omega))) dL_isOrder_219 ?_
                                        refine lv_iload hx hb dL_isOrder_220 (lv_at hl 0 rfl) ?_
                                        refine lv_ishr hx hb dL_isOrder_222 ?_
                                        refine lv_iconst (v := 1) hx hb dL_isOrder_223 (by decide) ?_
                                        refine lv_iand hx hb dL_isOrder_224 ?_
                                        refine lv_iconst (v := 1) hx hb dL_isOrder_225 (by decide) ?_
                                        refine lv_icmp_ne (tgt := 234) hx hb dL_isOrder_226 (by decide) (fun c_24 => ?_) (fun c_24 => ?_)
                                        · replace hE := hE.trans (if_neg c_24)
                                          refine lv_aload_n hx hb dL_isOrder_234 rfl (lv_at hl 4 rfl) ?_
                                          refine lv_iload hx hb dL_isOrder_235 (lv_at hl 0 rfl) ?_
                                          refine va_iald (D := E.1) hx hb hK.1 hT 0 0 rfl rfl (vp_in_nI (by omega) (by omega)) dL_isOrder_237 ?_
                                          refine kSto hx hb hK hT (Or.inr hzs) hS (vp_in_nI (by omega) (by omega)) dL_isOrder_238 (fun H1 locs1 hT1 ho hS1 hz1 => ?_)
                                          have hY := hY.keptA (A := fun q => q = z) hs (fun q h1 h2 => ho q h2) (fun q hq h => absurd (hlt q hq) (by omega))
                                          have hR := kP1 hR (ho _ (by show a 0 ≠ z; omega))
                                          have hT : va_P E.1 vwCl (wTx E z (upd T169 ((nI i169)).toNatClampNeg (T169 ((nI i169)).toNatClampNeg))) H1 := hT1
                                          have hS := hS1
                                          refine lv_iinc (v := (nI (i169 + 1))) (lv' := [(7, .int (nI (i169 + 1))), (4, .int (x116_4 ||| (1 <<< ((g_18.1) &&& 31)))), (6, .int (g_18.1)), (5, .int (nI i116)), (3, .ref z), (2, .int x4_2), (0, .ref (ad 80)), (1, .ref (a 0))]) hx hb dL_isOrder_239 hl (k := 0) rfl (nI_1 i169) (by decide) rfl (fun ls hl => ?_)
                                          refine lv_goto (tgt := 169) hx hb dL_isOrder_242 (by decide) ?_
                                          exact ih169 (i169 + 1) (upd T169 ((nI i169)).toNatClampNeg (T169 ((nI i169)).toNatClampNeg)) _ _ (by omega) (by omega) hY hR hT hS ls (lv_sub hl [0, 1, 2, 3, 4, 5, 6, 7] rfl) hE
                                        · replace hE := hE.trans (if_pos c_24)
                                          refine lv_iload hx hb dL_isOrder_229 (lv_at hl 2 rfl) ?_
                                          refine lv_goto (tgt := 238) hx hb dL_isOrder_231 (by decide) ?_
                                          refine kSto hx hb hK hT (Or.inr hzs) hS (vp_in_nI (by omega) (by omega)) dL_isOrder_238 (fun H1 locs1 hT1 ho hS1 hz1 => ?_)
                                          have hY := hY.keptA (A := fun q => q = z) hs (fun q h1 h2 => ho q h2) (fun q hq h => absurd (hlt q hq) (by omega))
                                          have hR := kP1 hR (ho _ (by show a 0 ≠ z; omega))
                                          have hT : va_P E.1 vwCl (wTx E z (upd T169 ((nI i169)).toNatClampNeg (g_18.1))) H1 := hT1
                                          have hS := hS1
                                          refine lv_iinc (v := (nI (i169 + 1))) (lv' := [(7, .int (nI (i169 + 1))), (4, .int (x116_4 ||| (1 <<< ((g_18.1) &&& 31)))), (6, .int (g_18.1)), (5, .int (nI i116)), (3, .ref z), (2, .int x4_2), (0, .ref (ad 80)), (1, .ref (a 0))]) hx hb dL_isOrder_239 hl (k := 0) rfl (nI_1 i169) (by decide) rfl (fun ls hl => ?_)
                                          refine lv_goto (tgt := 169) hx hb dL_isOrder_242 (by decide) ?_
                                          exact ih169 (i169 + 1) (upd T169 ((nI i169)).toNatClampNeg (g_18.1)) _ _ (by omega) (by omega) hY hR hT hS ls (lv_sub hl [0, 1, 2, 3, 4, 5, 6, 7] rfl) hE
                                      · replace hE := hE.trans (if_pos c_23)
                                        refine lv_aload_n hx hb dL_isOrder_191 rfl (lv_at hl 7 rfl) ?_
                                        refine lv_iload hx hb dL_isOrder_192 (lv_at hl 0 rfl) ?_
                                        refine lv_aload_n hx hb dL_isOrder_194 rfl (lv_at hl 7 rfl) ?_
                                        refine lv_iload hx hb dL_isOrder_195 (lv_at hl 2 rfl) ?_
                                        refine va_iald (D := E.1) hx hb hK.1 hR 0 0 rfl rfl (rIn0 (by first | assumption | exact tOK.nI (by omega))) dL_isOrder_197 ?_
                                        refine kCallRi (va_runS (As := [.ref (a 0), .int (nI i169), .int (r 0 ((g_18.1)).toNatClampNeg)]) (rest := []) ⟨hx, hb, hml, hown, hts⟩ (c_L_writer l E a r (nI i169) (r 0 ((g_18.1)).toNatClampNeg) (by first | assumption | exact tOK.nI (by omega)) _ rfl) (va_cwS 3 hts gL_isOrder_L_writer rfl rfl rfl (by decide +kernel) ⟨Nat.le_of_ble_eq_true rfl, Nat.le_of_ble_eq_true rfl⟩) (kPreS hK hR) rfl rfl hl.1 rfl (lv_room (Nat.le_of_ble_eq_true rfl)) dL_isOrder_198 ⟨Nat.le_of_ble_eq_true rfl, Nat.le_of_ble_eq_true rfl⟩) ?_
                                        refine lv_aload_n hx hb dL_isOrder_201 rfl (lv_at hl 4 rfl) ?_
                                        refine lv_iload hx hb dL_isOrder_202 (lv_at hl 0 rfl) ?_
                                        refine va_iald (D := E.1) hx hb hK.1 hT 0 0 rfl rfl (vp_in_nI (by omega) (by omega)) dL_isOrder_204 ?_
                                        refine lv_icmp_eq (tgt := 210) hx hb dL_isOrder_205 (by decide) (fun c_25 => ?_) (fun c_25 => ?_)
                                        · replace hE := hE.trans (if_pos c_25)
                                          refine lv_aload_n hx hb dL_isOrder_210 rfl (lv_at hl 4 rfl) ?_
                                          refine lv_iload hx hb dL_isOrder_211 (lv_at hl 0 rfl) ?_
                                          refine lv_aload_n hx hb dL_isOrder_213 rfl (lv_at hl 7 rfl) ?_
                                          refine lv_bipush (v := 36) hx hb dL_isOrder_214 (by decide) ?_
                                          refine lv_iload hx hb dL_isOrder_216 (lv_at hl 2 rfl) ?_
                                          refine lv_iadd hx hb dL_isOrder_218 ?_
                                          refine va_iald (D := E.1) hx hb hK.1 hR 0 0 rfl rfl (rIn 36 (by decide) (by first | assumption | exact tOK.nI (by omega))) dL_isOrder_219 ?_
                                          refine lv_iload hx hb dL_isOrder_220 (lv_at hl 0 rfl) ?_
                                          refine lv_ishr hx hb dL_isOrder_222 ?_
                                          refine lv_iconst (v := 1) hx hb dL_isOrder_223 (by decide) ?_
                                          refine lv_iand hx hb dL_isOrder_224 ?_
                                          refine lv_iconst (v := 1) hx hb dL_isOrder_225 (by decide) ?_
                                          refine lv_icmp_ne (tgt := 234) hx hb dL_isOrder_226 (by decide) (fun c_26 => ?_) (fun c_26 => ?_)
                                          · replace hE := hE.trans (if_neg c_26)
                                            refine lv_aload_n hx hb dL_isOrder_234 rfl (lv_at hl 4 rfl) ?_
                                            refine lv_iload hx hb dL_isOrder_235 (lv_at hl 0 rfl) ?_
                                            refine va_iald (D := E.1) hx hb hK.1 hT 0 0 rfl rfl (vp_in_nI (by omega) (by omega)) dL_isOrder_237 ?_
                                            refine kSto hx hb hK hT (Or.inr hzs) hS (vp_in_nI (by omega) (by omega)) dL_isOrder_238 (fun H1 locs1 hT1 ho hS1 hz1 => ?_)
                                            have hY := hY.keptA (A := fun q => q = z) hs (fun q h1 h2 => ho q h2) (fun q hq h => absurd (hlt q hq) (by omega))
                                            have hR := kP1 hR (ho _ (by show a 0 ≠ z; omega))
                                            have hT : va_P E.1 vwCl (wTx E z (upd T169 ((nI i169)).toNatClampNeg (T169 ((nI i169)).toNatClampNeg))) H1 := hT1
                                            have hS := hS1
                                            refine lv_iinc (v := (nI (i169 + 1))) (lv' := [(7, .int (nI (i169 + 1))), (4, .int (x116_4 ||| (1 <<< ((g_18.1) &&& 31)))), (6, .int (g_18.1)), (5, .int (nI i116)), (3, .ref z), (2, .int x4_2), (0, .ref (ad 80)), (1, .ref (a 0))]) hx hb dL_isOrder_239 hl (k := 0) rfl (nI_1 i169) (by decide) rfl (fun ls hl => ?_)
                                            refine lv_goto (tgt := 169) hx hb dL_isOrder_242 (by decide) ?_
                                            exact ih169 (i169 + 1) (upd T169 ((nI i169)).toNatClampNeg (T169 ((nI i169)).toNatClampNeg)) _ _ (by omega) (by omega) hY hR hT hS ls (lv_sub hl [0, 1, 2, 3, 4, 5, 6, 7] rfl) hE
                                          · replace hE := hE.trans (if_pos c_26)
                                            refine lv_iload hx hb dL_isOrder_229 (lv_at hl 2 rfl) ?_
                                            refine lv_goto (tgt := 238) hx hb dL_isOrder_231 (by decide) ?_
                                            refine kSto hx hb hK hT (Or.inr hzs) hS (vp_in_nI (by omega) (by omega)) dL_isOrder_238 (fun H1 locs1 hT1 ho hS1 hz1 => ?_)
                                            have hY := hY.keptA (A := fun q => q = z) hs (fun q h1 h2 => ho q h2) (fun q hq h => absurd (hlt q hq) (by omega))
                                            have hR := kP1 hR (ho _ (by show a 0 ≠ z; omega))
                                            have hT : va_P E.1 vwCl (wTx E z (upd T169 ((nI i169)).toNatClampNeg (g_18.1))) H1 := hT1
                                            have hS := hS1
                                            refine lv_iinc (v := (nI (i169 + 1))) (lv' := [(7, .int (nI (i169 + 1))), (4, .int (x116_4 ||| (1 <<< ((g_18.1) &&& 31)))), (6, .int (g_18.1)), (5, .int (nI i116)), (3, .ref z), (2, .int x4_2), (0, .ref (ad 80)), (1, .ref (a 0))]) hx hb dL_isOrder_239 hl (k := 0) rfl (nI_1 i169) (by decide) rfl (fun ls hl => ?_)
                                            refine lv_goto (tgt := 169) hx hb dL_isOrder_242 (by decide) ?_
                                            exact ih169 (i169 + 1) (upd T169 ((nI i169)).toNatClampNeg (g_18.1)) _ _ (by omega) (by omega) hY hR hT hS ls (lv_sub hl [0, 1, 2, 3, 4, 5, 6, 7] rfl) hE
                                        · replace hE := hE.trans (if_neg c_25)
                                          refine lv_iconst (v := 0) hx hb dL_isOrder_208 (by decide) ?_
                                          subst R
                                          exact W.zret (v := 0) (ty := .boolean) hx hb hr rfl (fun t ht hW => ⟨rfl, by rw [ht]; exact hY, hS.F ht⟩) hS.2.2 dL_isOrder_209
                                exact lp169 6 0 T116 _ _ (by omega) (by omega) hY hR hT hS ls (lv_sub hl [0, 1, 2, 3, 4, 5, 6, 7] rfl) hE
                              · replace hE := hE.trans (if_pos c_21)
                                refine lv_iconst (v := 0) hx hb dL_isOrder_155 (by decide) ?_
                                subst R
                                exact W.zret (v := 0) (ty := .boolean) hx hb hr rfl (fun t ht hW => ⟨rfl, by rw [ht]; exact hY, hS.F ht⟩) hS.2.2 dL_isOrder_156
                    exact lp116 13 0 0 (g_14.2) T93 _ _ (by omega) (by omega) hn he (cUp.n hm4 (by omega)) hY hR hT hS ls (lv_sub hl [0, 1, 2, 3, 4, 5] rfl) hE
                  · replace hE := hE.trans (if_neg c_16)
                    have hbc_16 : i93 < 5 := nI_nle_lt ⟨by omega, by omega⟩ c_16
                    refine lv_aload_n hx hb dL_isOrder_99 rfl (lv_at hl 1 rfl) ?_
                    refine lv_iload hx hb dL_isOrder_100 (lv_at hl 0 rfl) ?_
                    refine lv_iconst (v := (-1)) hx hb dL_isOrder_102 (by decide) ?_
                    refine kSto hx hb hK hT (Or.inr hzs) hS (vp_in_nI (by omega) (by omega)) dL_isOrder_103 (fun H1 locs1 hT1 ho hS1 hz1 => ?_)
                    have hY := hY.keptA (A := fun q => q = z) hs (fun q h1 h2 => ho q h2) (fun q hq h => absurd (hlt q hq) (by omega))
                    have hR := kP1 hR (ho _ (by show a 0 ≠ z; omega))
                    have hT : va_P E.1 vwCl (wTx E z (upd T93 ((nI i93)).toNatClampNeg (-1))) H1 := hT1
                    have hS := hS1
                    refine lv_iinc (v := (nI (i93 + 1))) (lv' := [(4, .int (nI (i93 + 1))), (3, .ref z), (2, .int x4_2), (0, .ref (ad 80)), (1, .ref (a 0))]) hx hb dL_isOrder_104 hl (k := 0) rfl (nI_1 i93) (by decide) rfl (fun ls hl => ?_)
                    refine lv_goto (tgt := 93) hx hb dL_isOrder_107 (by decide) ?_
                    exact ih93 (i93 + 1) (upd T93 ((nI i93)).toNatClampNeg (-1)) _ _ (by omega) (by omega) hY hR hT hS ls (lv_sub hl [0, 1, 2, 3, 4] rfl) hE
              exact lp93 6 0 (fun _ => 0) _ _ (by omega) (by omega) hY hR hT hS ls (lv_sub hl [0, 1, 2, 3, 4] rfl) hE
            · replace hE := hE.trans (if_pos c_15)
              refine lv_aload_n hx hb dL_isOrder_61 rfl (lv_at hl 2 rfl) ?_
              refine lv_bipush (v := 9) hx hb dL_isOrder_62 (by decide) ?_
              refine kCallYi (va_runV (As := [.int 9]) (rest := []) ⟨hx, hb, hml, hown, hts⟩ (c_X5_count l E ad (g_14.2) hs 9 (by assumption) _ rfl) (cwV 1 hts gL_isOrder_X5_count rfl rfl rfl (by decide +kernel) ⟨Nat.le_of_ble_eq_true rfl, Nat.le_of_ble_eq_true rfl⟩) (kPreYV hK hY.2.1 hY (q0 := 0) rfl rfl) rfl rfl hl.1 rfl (lv_room (Nat.le_of_ble_eq_true rfl)) dL_isOrder_64 ⟨Nat.le_of_ble_eq_true rfl, Nat.le_of_ble_eq_true rfl⟩) hS (fun _ h => (Or.inl h)) (fun H1 locs1 hY _ hk hS => ?_)
              have hR := kP_kept hR (dR (fun i j h1 h2 _ => by omega) _) (fun q z y => hap q y z) hk
              have hn : nOK (((mX5_count (g_14.2) 9)).2 0 0 2) := count_n (S := (g_14.2)) _ hn
              have he : kEqG (((mX5_count (g_14.2) 9)).2 0) (S 0) := (count_0 (g_14.2) _).trans he
              refine kGen (mX5_count (g_14.2) 9) (fun g_27 hg_27 => ?_)
              rw [hg_27] at hE hY hn he ⊢
              try dsimp only at hE
              refine lv_if_ne (tgt := 84) hx hb dL_isOrder_67 (by decide) (fun c_28 => ?_) (fun c_28 => ?_)
              · replace hE := hE.trans (if_neg c_28)
                refine lv_iconst (v := 0) hx hb dL_isOrder_84 (by decide) ?_
                subst R
                refine W.widen (k := 1) (n := 5) (by decide) (by decide) ?_
                exact W.zret (v := 0) (ty := .boolean) hx hb hr rfl (fun t ht hW => ⟨rfl, by rw [ht]; exact hY, hS.F ht⟩) hS.2.2 dL_isOrder_85
              · replace hE := hE.trans (if_pos c_28)
                refine lv_aload_n hx hb dL_isOrder_70 rfl (lv_at hl 2 rfl) ?_
                refine lv_iconst (v := 0) hx hb dL_isOrder_71 (by decide) ?_
                refine kCallYi (va_runV (As := [.int 0]) (rest := []) ⟨hx, hb, hml, hown, hts⟩ (c_X5_order l E ad (g_27.2) hs 0 (by assumption) _ rfl) (cwV 1 hts gL_isOrder_X5_order rfl rfl rfl (by decide +kernel) ⟨Nat.le_of_ble_eq_true rfl, Nat.le_of_ble_eq_true rfl⟩) (kPreYV hK hY.2.1 hY (q0 := 0) rfl rfl) rfl rfl hl.1 rfl (lv_room (Nat.le_of_ble_eq_true rfl)) dL_isOrder_72 ⟨Nat.le_of_ble_eq_true rfl, Nat.le_of_ble_eq_true rfl⟩) hS (fun _ h => (Or.inl h)) (fun H1 locs1 hY _ hk hS => ?_)
                have hR := kP_kept hR (dR (fun i j h1 h2 _ => by omega) _) (fun q z y => hap q y z) hk
                have hn : nOK (((mX5_order (g_27.2) 0)).2 0 0 2) := order_n (S := (g_27.2)) _ hn
                have he : kEqG (((mX5_order (g_27.2) 0)).2 0) (S 0) := (order_0 (g_27.2) _).trans he
                refine kGen (mX5_order (g_27.2) 0) (fun g_29 hg_29 => ?_)
                rw [hg_29] at hE hY hn he ⊢
                try dsimp only at hE
                refine lv_bipush (v := (-5)) hx hb dL_isOrder_75 (by decide) ?_
                refine lv_icmp_ne (tgt := 84) hx hb dL_isOrder_77 (by decide) (fun c_30 => ?_) (fun c_30 => ?_)
                · replace hE := hE.trans (if_neg c_30)
                  refine lv_iconst (v := 0) hx hb dL_isOrder_84 (by decide) ?_
                  subst R
                  refine W.widen (k := 1) (n := 5) (by decide) (by decide) ?_
                  exact W.zret (v := 0) (ty := .boolean) hx hb hr rfl (fun t ht hW => ⟨rfl, by rw [ht]; exact hY, hS.F ht⟩) hS.2.2 dL_isOrder_85
                · replace hE := hE.trans (if_pos c_30)
                  refine lv_iconst (v := 1) hx hb dL_isOrder_80 (by decide) ?_
                  refine lv_goto (tgt := 85) hx hb dL_isOrder_81 (by decide) ?_
                  subst R
                  refine W.widen (k := 1) (n := 5) (by decide) (by decide) ?_
                  exact W.zret (v := 1) (ty := .boolean) hx hb hr rfl (fun t ht hW => ⟨rfl, by rw [ht]; exact hY, hS.F ht⟩) hS.2.2 dL_isOrder_85
      · replace hE := hE.trans (if_neg c_1)
        have hbc_1 : i4 < 12 := nOK.lt (by assumption) (by omega) c_1
        refine lv_iload_n hx hb dL_isOrder_12 rfl (lv_at hl 1 rfl) ?_
        refine lv_aload_n hx hb dL_isOrder_13 rfl (lv_at hl 3 rfl) ?_
        refine lv_iload_n hx hb dL_isOrder_14 rfl (lv_at hl 0 rfl) ?_
        refine kCallRi (va_runS (As := [.ref (a 0), .int (nI i4)]) (rest := [.int x4_2]) ⟨hx, hb, hml, hown, hts⟩ (c_L_isCommitted l E a r (nI i4) (by first | assumption | exact tOK.nI (by omega)) _ rfl) (va_cwS 2 hts gL_isOrder_L_isCommitted rfl rfl rfl (by decide +kernel) ⟨Nat.le_of_ble_eq_true rfl, Nat.le_of_ble_eq_true rfl⟩) (kPreS hK hR) rfl rfl hl.1 rfl (lv_room (Nat.le_of_ble_eq_true rfl)) dL_isOrder_15 ⟨Nat.le_of_ble_eq_true rfl, Nat.le_of_ble_eq_true rfl⟩) ?_
        refine lv_if_eq (tgt := 25) hx hb dL_isOrder_18 (by decide) (fun c_31 => ?_) (fun c_31 => ?_)
        · replace hE := hE.trans (if_pos c_31)
          refine lv_iconst (v := 0) hx hb dL_isOrder_25 (by decide) ?_
          refine lv_iadd hx hb dL_isOrder_26 ?_
          refine lv_istore_n (lv' := [(2, .int (x4_2 + 0)), (3, .int (nI i4)), (0, .ref (ad 80)), (1, .ref (a 0))]) hx hb dL_isOrder_27 rfl hl (by decide) rfl (fun ls hl => ?_)
          refine lv_iinc (v := (nI (i4 + 1))) (lv' := [(3, .int (nI (i4 + 1))), (2, .int (x4_2 + 0)), (0, .ref (ad 80)), (1, .ref (a 0))]) hx hb dL_isOrder_28 hl (k := 1) rfl (nI_1 i4) (by decide) rfl (fun ls hl => ?_)
          refine lv_goto (tgt := 4) hx hb dL_isOrder_31 (by decide) ?_
          exact ih4 (x4_2 + 0) (i4 + 1) (by omega) (by omega) (by first | exact cUp.s hm4 | exact cUp.z hm4) ls (lv_sub hl [0, 1, 2, 3] rfl) hE
        · replace hE := hE.trans (if_neg c_31)
          refine lv_iconst (v := 1) hx hb dL_isOrder_21 (by decide) ?_
          refine lv_goto (tgt := 26) hx hb dL_isOrder_22 (by decide) ?_
          refine lv_iadd hx hb dL_isOrder_26 ?_
          refine lv_istore_n (lv' := [(2, .int (x4_2 + 1)), (3, .int (nI i4)), (0, .ref (ad 80)), (1, .ref (a 0))]) hx hb dL_isOrder_27 rfl hl (by decide) rfl (fun ls hl => ?_)
          refine lv_iinc (v := (nI (i4 + 1))) (lv' := [(3, .int (nI (i4 + 1))), (2, .int (x4_2 + 1)), (0, .ref (ad 80)), (1, .ref (a 0))]) hx hb dL_isOrder_28 hl (k := 1) rfl (nI_1 i4) (by decide) rfl (fun ls hl => ?_)
          refine lv_goto (tgt := 4) hx hb dL_isOrder_31 (by decide) ?_
          exact ih4 (x4_2 + 1) (i4 + 1) (by omega) (by omega) (by first | exact cUp.s hm4 | exact cUp.z hm4) ls (lv_sub hl [0, 1, 2, 3] rfl) hE
  exact lp4 13 0 0 (by omega) (by omega) ⟨0, Nat.le_refl _, rfl⟩ ls (lv_sub hl [0, 1, 2, 3] rfl) hE
