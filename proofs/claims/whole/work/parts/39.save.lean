/-- a flag is set, and nothing else changes -/
theorem kZast {p : Program} {l : Launch} {e : Env} {R : Room} {s : State} {m : MethodId} {args : Array Value} {below : List Frame} {meth : Method} {c : Code} {H : Heap} {locs : List Loc} {cells slots : Nat} {Q : State → Prop} {pc : Nat} {ls : Array Slot} {rest : List Value} {cc : ByteArray} {A : Nat → Prop} {H0 : Heap} {D : va_G} {cl : List vw_C} {tys : List (ClassId × FieldType)} {ws : va_W} {a : Nat} (hexec : p.tables.exec = Jvm.exec) (hb : c.code = cc) (hK : va_K D cl tys s) (hP : va_P D cl ws H) (hD : va_D A ws) (hS : va_S A H0 H locs) (q0 t0 : Nat) {cA : ClassId} {n : Nat} {f : Nat → Int32} (ha : ws[q0]? = some (a, .inl (cA, n, .inl f))) (ht : tys[t0]? = some (cA, .boolean)) {i : Int32} {x : Int32} (hin : vp_in i n) (hdg : decode cc pc = .ok (.bastore, 1))
    (kk : ∀ (H1 : Heap) (locs1 : List Loc), va_P D cl (ws.set q0 (a, .inl (cA, n, .inl (upd f i.toNatClampNeg (vp_nar .boolean x))))) H1 → va_S A H0 H1 locs1 → (∀ q : Nat, q ≠ a → H1[q]? = H[q]?) → W p l e R s m args below meth c H1 locs1 cells slots Q (F0 m (pc + 1) ls rest)) : W p l e R s m args below meth c H locs cells slots Q (F0 m pc ls (.int x :: .int i :: .ref a :: rest)) := by
  refine W.zast hexec hb (hP q0 _ ha) ((hK.2 t0 _ ht).1 n (fun j => .int (f j))) (fun q => by cases q) (by show ¬ (i < 0 ∨ (arrV _ _ _).slots.size ≤ _); rw [arrV_size]; exact hin) rfl rfl hdg fun H1 e z oq => ?_
  have he : va_at D cl (a, .inl (cA, n, .inl (upd f i.toNatClampNeg (vp_nar .boolean x)))) H1 := by
    show H1[a]? = some (vp_cell _ _)
    rw [e, vp_cell_i, vp_cell_i, arrV_store]
    congr 2
    funext q
    by_cases hq : q = i.toNatClampNeg
    · subst hq
      simp [updV, upd, vp_nar]
      try rfl
    · simp [updV, upd, hq]
  exact kk H1 _ (hP.set hD ha he oq) (hS.put z oq (hD.2 q0 _ ha)) oq
theorem Sys.putM {E : kE} {ad : Nat → Nat} {S : kS} {H H1 : Heap} (h : Sys E ad S H) (hs : kSep ad) (v : kG) (hP : va_P E.1 vwCl (wMain E ad v) H1) (hk : ∀ q : Nat, q ≠ ad 82 → H1[q]? = H[q]?) : Sys E ad (gset S 10 v) H1 := by
  have hk2 : ∀ q : Nat, q < H.size → ¬ kA (ga ad 80) 3 q → H1[q]? = H[q]? := fun q _ h2 => hk q (fun z => h2 ⟨2, by omega, z⟩)
  refine ⟨fun i hi => ?_, ?_, ?_, ?_, ?_⟩
  · rw [gset_ne S v (by omega)]; exact h.keepL hs hk2 i hi (hs.no (by omega) (by omega) (by omega))
  · rw [gset_eq]; exact hP
  · rw [gset_ne S v (by omega)]; exact h.keepH hs hk2 (hs.no (by omega) (by omega) (by omega))
  · rw [gset_ne S v (by omega)]; exact h.keepP hs hk2 (hs.no (by omega) (by omega) (by omega))
  · rw [gset_ne S v (by omega)]; exact h.keepQ hs hk2 (hs.no (by omega) (by omega) (by omega))
theorem isSlot_ok {x : Int32} (c : ¬ mX5_isSlot x = 0) : bOK 1 x := by
  unfold mX5_isSlot at c
  split at c
  · exact absurd rfl c
  · rename_i h
    split at c
    · exact absurd rfl c
    · rename_i h2
      obtain ⟨j, hj, rfl⟩ := nI_of h
      rcases Nat.lt_or_ge j 2 with q | q
      · exact ⟨j, by omega, rfl⟩
      · exact absurd (nI_le (a := 2) q hj) h2
def sloN (x : Int32) : Nat := 1 + x.toNatClampNeg
def mX5_save (S : kS) (x1 : Int32) : Int32 × kS := if mX5_isSlot x1 = 0 then ((-2), S) else (S 0 0 2, gset (gset S (sloN x1) (kcp (S (sloN x1)) (S 0))) 10 (rset (S 10) 1 (upd (S 10 1) x1.toNatClampNeg (vp_nar .boolean 1))))
set_option maxHeartbeats 400000 in
set_option maxRecDepth 100000 in
theorem c_X5_save (l : Launch) (E : kE) (ad : Nat → Nat) (S : kS) (hs : kSep ad) (x1 : Int32) (R : Int32 × kS) (hE : R = mX5_save S x1) : Met l yX5_save wsX5_save ({ frames := 2, cells := 0, slots := 0, locals := 47 }) (kPreY E [.ref (ad 80), .int x1] ad S) (kYi E R.1 ad R.2) 0 0 (kA ad 90) := by
  refine Met.ofW (cc := cX5_save) (maxL := 2) (ret := some .int) (by decide) rfl ?_
  intro p e s m args below meth c s₁ B hml hv
  obtain ⟨rfl, hK, hY⟩ := hv
  have hx := B.exec
  have hb := B.bytes
  have hr := B.returns
  have hts := atoms_spec (ws := wsX5_save) B.pre
  have hown : s.vm.findClass RX5 = some m.cls := findClass_of_methodNamed B.named
  have hlocks := B.notSynchronized
  have hiX5 : ∀ w ∈ wsX50, w ∈ wsX5_save := by decide +kernel
  have hiX2 : ∀ w ∈ wsX20, w ∈ wsX5_save := by decide +kernel
  have hS : va_S (kA ad 90) s.heap s.heap [] := va_S.rf
  have hl := lv_entry ([.ref (ad 80), .int x1]) (n := 2) (Nat.le_of_ble_eq_true rfl)
  rw [lg_entry_eq]
  generalize (lg_sl ([.ref (ad 80), .int x1]) ++ List.replicate (2 - (lg_sl ([.ref (ad 80), .int x1])).length) Slot.unset).toArray = ls at hl ⊢
  have hl : lv_has ls 2 [(0, .ref (ad 80)), (1, .int x1)] := hl
  refine lv_iload_n hx hb dX5_save_0 rfl (lv_at hl 1 rfl) ?_
  refine kCallRi (va_runS (As := [.int x1]) (rest := []) ⟨hx, hb, hml, hown, hts⟩ (c_X5_isSlot l E x1 _ rfl) (va_cwS 1 hts gX5_save_X5_isSlot rfl rfl rfl (by decide +kernel) ⟨Nat.le_of_ble_eq_true rfl, Nat.le_of_ble_eq_true rfl⟩) (kPreS hK kP0) rfl rfl hl.1 rfl (lv_room (Nat.le_of_ble_eq_true rfl)) dX5_save_1 ⟨Nat.zero_le _, Nat.zero_le _⟩) ?_
  refine lv_if_ne (tgt := 10) hx hb dX5_save_4 (by decide) (fun c1 => ?_) (fun c1 => ?_)
  · have hE := hE.trans (if_neg c1)
    have hsl := isSlot_ok c1
    have hlt : x1.toNatClampNeg < 2 := by
      obtain ⟨n, hn, rfl⟩ := hsl
      rw [nI_clamp (by omega)]; omega
    refine lv_aload_n hx hb dX5_save_10 rfl (lv_at hl 0 rfl) ?_
    refine va_get (D := E.1) (ci := 4) (v := .ref (ad 81)) (C := RX5) (T := TX5) (N := 6) hx hb hts hiX5 hown hK.1 hY.2.1 0 rfl rfl 2 (by decide) (hts (.fieldLink RX5 23 "SkewEdges" "slots" "[LSkewEdges$Ledger;") (by decide +kernel)) (fun _ h9 => h9) rfl dX5_save_11 ?_
    refine lv_iload_n hx hb dX5_save_14 rfl (lv_at hl 1 rfl) ?_
    refine va_aldq (D := E.1) hx hb hK.1 hY.2.1 1 3 rfl rfl hsl.in2 dX5_save_15 ?_
    refine lv_aload_n hx hb dX5_save_16 rfl (lv_at hl 0 rfl) ?_
    refine va_get (D := E.1) (ci := 4) (v := .ref (ad 0)) (C := RX5) (T := TX5) (N := 6) hx hb hts hiX5 hown hK.1 hY.2.1 0 rfl rfl 0 (by decide) (hts (.fieldLink RX5 10 "SkewEdges" "ledger" "LSkewEdges$Ledger;") (by decide +kernel)) (fun _ h9 => h9) rfl dX5_save_17 ?_
    have hN : sloN x1 < 10 := by unfold sloN; omega
    have h1N : 0 < sloN x1 := by unfold sloN; omega
    have hw := (hY.1 (sloN x1) hN).app (hY.1 0 (by omega))
    refine kCallWv (va_runV (As := [.ref (ad 0)]) (rest := []) ⟨hx, hb, hml, hown, hts⟩ (c_X2_copyFrom l E (ga ad (8 * sloN x1)) (ga ad (8 * 0)) (S (sloN x1)) (S 0) (hs.inj (by omega)) (hs.inj (by omega)) (hs.ap (by omega) (by omega) (by omega)) _ rfl) (cwV 1 hts gX5_save_X2_copyFrom rfl rfl rfl (by decide +kernel) ⟨Nat.le_of_ble_eq_true rfl, Nat.le_of_ble_eq_true rfl⟩) (kPreV hK hw hw (q0 := 0) rfl rfl) rfl rfl hl.1 rfl (lv_room (Nat.le_of_ble_eq_true rfl)) dX5_save_20 ⟨Nat.zero_le _, Nat.zero_le _⟩) hS (kA_sub2 (by omega) (by omega)) (fun H locs hP _ hk hS => ?_)
    have hY2 := hY.put2 hs (i := sloN x1) (j := 0) hN (by omega) (by omega) (kcp (S (sloN x1)) (S 0)) hP hk
    have e10 : gset S (sloN x1) (kcp (S (sloN x1)) (S 0)) 10 = S 10 := gset_ne _ _ (by omega)
    have e0 : gset S (sloN x1) (kcp (S (sloN x1)) (S 0)) 0 = S 0 := gset_ne _ _ (by omega)
    have hM : va_P E.1 vwCl (wMain E ad (S 10)) H := by have := hY2.2.1; rw [e10] at this; exact this
    refine lv_aload_n hx hb dX5_save_23 rfl (lv_at hl 0 rfl) ?_
    refine va_get (D := E.1) (ci := 4) (v := .ref (ad 82)) (C := RX5) (T := TX5) (N := 6) hx hb hts hiX5 hown hK.1 hM 0 rfl rfl 3 (by decide) (hts (.fieldLink RX5 27 "SkewEdges" "saved" "[Z") (by decide +kernel)) (fun _ h9 => h9) rfl dX5_save_24 ?_
    refine lv_iload_n hx hb dX5_save_27 rfl (lv_at hl 1 rfl) ?_
    refine lv_iconst (v := 1) hx hb dX5_save_28 (by decide) ?_
    refine kZast (D := E.1) hx hb hK.1 hM ((dMain hs (S 10)).weaken (fun _ q _ h => kA_sub (by omega) q.1 h)) hS 2 1 rfl rfl hsl.in2 dX5_save_29 (fun H locs hP hS oq => ?_)
    have hY3 := hY2.putM hs (rset (S 10) 1 (upd (S 10 1) x1.toNatClampNeg (vp_nar .boolean 1))) hP oq
    have hL : va_P E.1 vwCl (wLed E (ga ad (8 * 0)) (S 0)) H := by
      have := hY3.1 0 (by omega)
      rw [gset_ne _ _ (show 0 ≠ 10 by omega), e0] at this
      exact this
    refine lv_aload_n hx hb dX5_save_30 rfl (lv_at hl 0 rfl) ?_
    refine va_get (D := E.1) (ci := 4) (v := .ref (ad 0)) (C := RX5) (T := TX5) (N := 6) hx hb hts hiX5 hown hK.1 hY3.2.1 0 rfl rfl 0 (by decide) (hts (.fieldLink RX5 10 "SkewEdges" "ledger" "LSkewEdges$Ledger;") (by decide +kernel)) (fun _ h9 => h9) rfl dX5_save_31 ?_
    refine va_get (D := E.1) (ci := 1) (v := .int (S 0 0 2)) (C := RX2) (T := TX2) (N := 10) hx hb hts hiX2 hown hK.1 hL 0 rfl rfl 2 (by decide) (hts (.fieldLink RX5 126 "SkewEdges$Ledger" "total" "I") (by decide +kernel)) (fun _ h9 => h9) rfl dX5_save_34 ?_
    subst hE
    exact W.iret (v := (S 0 0 2)) hx hb hr (fun t ht hW => ⟨rfl, by rw [ht]; exact hY3, hS.F ht⟩) hS.2.2 dX5_save_37
  · have hE := hE.trans (if_pos c1)
    refine lv_bipush (v := (-2)) hx hb dX5_save_7 (by decide) ?_
    subst hE
    exact W.iret (v := (-2)) hx hb hr (fun t ht hW => ⟨rfl, by rw [ht]; exact hY, hS.F ht⟩) hS.2.2 dX5_save_9

