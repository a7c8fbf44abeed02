/-- the grid of a ledger that has taken over w -/
def kcp (v w : kG) : kG := rset (rset (rset (rset (rset (rset (rset (rset v 1 (va_cpy (w 1) (v 1) 0 0 12)) 2 (va_cpy (w 2) (v 2) 0 0 12)) 3 (va_cpy (w 3) (v 3) 0 0 12)) 4 (va_cpy (w 4) (v 4) 0 0 12)) 5 (va_cpy (w 5) (v 5) 0 0 12)) 6 (va_cpy (w 6) (v 6) 0 0 12)) 7 (va_cpy (w 7) (v 7) 0 0 192)) 0 (upd (upd (upd (v 0) 0 (w 0 0)) 1 (w 0 1)) 2 (w 0 2))
/-- the history's next row -/
def hisN (S : kS) : Nat := 3 + (S 11 0 1).toNatClampNeg
def hisOK (S : kS) : Prop := ∃ n : Nat, n < 7 ∧ S 11 0 1 = nI n
def mX1_prepare (S : kS) : kS := gset S (hisN S) (kcp (S (hisN S)) (S 0))
set_option maxHeartbeats 400000 in
set_option maxRecDepth 100000 in
theorem c_X1_prepare (l : Launch) (E : kE) (ad : Nat → Nat) (S : kS) (hs : kSep ad) (hn : hisOK S) : Met l yX1_prepare wsX1_prepare ({ frames := 2, cells := 0, slots := 0, locals := 47 }) (kPreY E [.ref (ad 83), .ref (ad 0)] ad S) (kYv E ad (mX1_prepare S)) 0 0 (kA ad 90) := by
  refine Met.ofW (cc := cX1_prepare) (maxL := 2) (ret := none) (by decide) rfl ?_
  intro p e s m args below meth c s₁ B hml hv
  obtain ⟨rfl, hK, hY⟩ := hv
  have hx := B.exec
  have hb := B.bytes
  have hr := B.returns
  have hts := atoms_spec (ws := wsX1_prepare) B.pre
  have hown : s.vm.findClass RX1 = some m.cls := findClass_of_methodNamed B.named
  have hlocks := B.notSynchronized
  have hiX1 : ∀ w ∈ wsX10, w ∈ wsX1_prepare := by decide +kernel
  have hS : va_S (kA ad 90) s.heap s.heap [] := va_S.rf
  obtain ⟨n, hn7, hne⟩ := hn
  have hN : hisN S = 3 + n := by unfold hisN; rw [hne, nI_clamp (by omega)]
  have hl := lv_entry ([.ref (ad 83), .ref (ad 0)]) (n := 2) (Nat.le_of_ble_eq_true rfl)
  rw [lg_entry_eq]
  generalize (lg_sl ([.ref (ad 83), .ref (ad 0)]) ++ List.replicate (2 - (lg_sl ([.ref (ad 83), .ref (ad 0)])).length) Slot.unset).toArray = ls at hl ⊢
  have hl : lv_has ls 2 [(0, .ref (ad 83)), (1, .ref (ad 0))] := hl
  refine lv_aload_n hx hb dX1_prepare_0 rfl (lv_at hl 0 rfl) ?_
  refine va_get (D := E.1) (ci := 0) (v := .ref (ad 84)) (C := RX1) (T := TX1) (N := 3) hx hb hts hiX1 hown hK.1 hY.2.2.1 0 rfl rfl 2 (by decide) (hts (.fieldLink RX1 20 "SkewEdges$History" "rows" "[LSkewEdges$Ledger;") (by decide +kernel)) (fun _ h9 => h9) rfl dX1_prepare_1 ?_
  refine lv_aload_n hx hb dX1_prepare_4 rfl (lv_at hl 0 rfl) ?_
  refine va_get (D := E.1) (ci := 0) (v := .int (S 11 0 1)) (C := RX1) (T := TX1) (N := 3) hx hb hts hiX1 hown hK.1 hY.2.2.1 0 rfl rfl 1 (by decide) (hts (.fieldLink RX1 15 "SkewEdges$History" "next" "I") (by decide +kernel)) (fun _ h9 => h9) rfl dX1_prepare_5 ?_
  refine va_aldq (D := E.1) hx hb hK.1 hY.2.2.1 1 3 rfl rfl (by rw [hne]; exact vp_in_nI hn7 (by omega)) dX1_prepare_8 ?_
  refine W.eq (g2 := F0 m 9 ls [.ref (ga ad (8 * (3 + n)) 0)]) (by rw [hne, nI_clamp (by omega)]; rfl) ?_
  refine lv_aload_n hx hb dX1_prepare_9 rfl (lv_at hl 1 rfl) ?_
  have hw := (hY.1 (3 + n) (by omega)).app (hY.1 0 (by omega))
  refine kCallWv (va_runV (As := [.ref (ad 0)]) (rest := []) ⟨hx, hb, hml, hown, hts⟩ (c_X2_copyFrom l E (ga ad (8 * (3 + n))) (ga ad (8 * 0)) (S (3 + n)) (S 0) (hs.inj (by omega)) (hs.inj (by omega)) (hs.ap (by omega) (by omega) (by omega)) _ rfl) (cwV 1 hts gX1_prepare_X2_copyFrom rfl rfl rfl (by decide +kernel) ⟨Nat.le_of_ble_eq_true rfl, Nat.le_of_ble_eq_true rfl⟩) (kPreV hK hw hw (q0 := 0) rfl rfl) rfl rfl hl.1 rfl (lv_room (Nat.le_of_ble_eq_true rfl)) dX1_prepare_10 ⟨Nat.zero_le _, Nat.zero_le _⟩) hS (kA_sub2 (by omega) (by omega)) (fun H locs hP _ hk hS => ?_)
  have hY2 := hY.put2 hs (i := 3 + n) (j := 0) (by omega) (by omega) (by omega) (kcp (S (3 + n)) (S 0)) hP hk
  exact W.vret hx hb hr (fun t ht hW => ⟨rfl, by rw [ht]; show Sys E ad (gset S (hisN S) (kcp (S (hisN S)) (S 0))) H; rw [hN]; exact hY2, hS.F ht⟩) hS.2.2 dX1_prepare_13

