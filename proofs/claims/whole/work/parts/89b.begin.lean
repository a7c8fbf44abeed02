/-! the law's start: the tables' words, both systems made -/
theorem kArr {s : State} {A : Array Value} {t : FieldType} (h : (Cond.arrayClass t).before A s = true) : ∃ cA : ClassId, ArrOfT s cA t ∧ s.vm.findClass ("[" ++ t.toString) = some cA := by
  obtain ⟨cA, k, comp, h1, h2, h3⟩ := Cond.arrayClass_spec h
  exact ⟨cA, fun n z => ⟨fun k h => (by cases h), k, h2, comp, h3⟩, h1⟩
theorem kArrO {s : State} {A : Array Value} {C : String} (h : (Cond.arrayOver (.object C)).before A s = true) : ∃ cA : ClassId, ArrOfT s cA (.object C) ∧ va_RA s cA (.object C) := by
  obtain ⟨comp, cA, k, h1, h2, h3, h4, h5⟩ := Cond.arrayOver_spec h
  exact ⟨cA, fun n z => ⟨fun k h => (by cases h), k, h3, comp, h4⟩, k, comp, h3, h4, h1, h5⟩
theorem kD0 {A : Nat → Prop} : va_D A [] := ⟨fun i j p q h => by simp at h, fun k q h => by simp at h⟩
theorem Sys.keptA {E : kE} {ad : Nat → Nat} {S : kS} {H H1 : Heap} {A : Nat → Prop} (h : Sys E ad S H) (hs : kSep ad) (hk : ∀ q : Nat, q < H.size → ¬ A q → H1[q]? = H[q]?) (hap : ∀ q, kA ad 90 q → ¬ A q) : Sys E ad S H1 :=
  ⟨fun j hj => h.keepL hs hk j hj (fun q z => hap q (kA_sub (by omega) q z)), h.keepM hs hk (fun q z => hap q (kA_sub (by omega) q z)), h.keepH hs hk (fun q z => hap q (kA_sub (by omega) q z)), h.keepP hs hk (fun q z => hap q (kA_sub (by omega) q z)), h.keepQ hs hk (fun q z => hap q (kA_sub (by omega) q z))⟩
theorem law_K {s : State} {A : Array Value} (htl : ∀ w ∈ lw_tbl, w.before A s = true) : ∃ E : kE, kK E s := by
  have hts : ∀ w ∈ wsL_law, w.before A s = true := fun w h => htl w (wsL_law_in w h)
  obtain ⟨c0, f0, k0⟩ := u_known (C := RX1) (T := TX1) (N := 3) (n := 3) hts inlX1 (htl (.instantiable RX1 3) (by decide +kernel))
  obtain ⟨c1, f1, k1⟩ := u_known (C := RX2) (T := TX2) (N := 10) (n := 10) hts inlX2 (htl (.instantiable RX2 10) (by decide +kernel))
  obtain ⟨c2, f2, k2⟩ := u_known (C := RX3) (T := TX3) (N := 8) (n := 8) hts inlX3 (htl (.instantiable RX3 8) (by decide +kernel))
  obtain ⟨c3, f3, k3⟩ := u_known (C := RX4) (T := TX4) (N := 2) (n := 2) hts inlX4 (htl (.instantiable RX4 2) (by decide +kernel))
  obtain ⟨c4, f4, k4⟩ := u_known (C := RX5) (T := TX5) (N := 6) (n := 6) hts inlX5 (htl (.instantiable RX5 6) (by decide +kernel))
  obtain ⟨c5, f5, k5⟩ := u_known (C := RX6) (T := TX6) (N := 16) (n := 16) hts inlX6 (htl (.instantiable RX6 16) (by decide +kernel))
  obtain ⟨a0, b0, d0⟩ := kArr (htl (.arrayClass .int) (by decide +kernel))
  obtain ⟨a1, b1, d1⟩ := kArr (htl (.arrayClass .boolean) (by decide +kernel))
  obtain ⟨a2, b2, d2⟩ := kArr (htl (.arrayClass .char) (by decide +kernel))
  obtain ⟨a3, b3, d3⟩ := kArrO (C := RX2) (htl (.arrayOver (.object RX2)) (by decide +kernel))
  refine ⟨((fun k => if k = 0 then c0 else if k = 1 then c1 else if k = 2 then c2 else if k = 3 then c3 else if k = 4 then c4 else c5, fun k => if k = 0 then f0 else if k = 1 then f1 else if k = 2 then f2 else if k = 3 then f3 else if k = 4 then f4 else f5), fun k => if k = 0 then a0 else if k = 1 then a1 else if k = 2 then a2 else a3), ⟨fun k q hq => ?_, fun k q hq => ?_⟩, fun w hw => ?_⟩
  · match k, hq with
    | 0, hq => cases hq; exact k0
    | 1, hq => cases hq; exact k1
    | 2, hq => cases hq; exact k2
    | 3, hq => cases hq; exact k3
    | 4, hq => cases hq; exact k4
    | 5, hq => cases hq; exact k5
    | k + 6, hq => simp [vwCl] at hq
  · match k, hq with
    | 0, hq => cases hq; exact ⟨b0, d0⟩
    | 1, hq => cases hq; exact ⟨b1, d1⟩
    | 2, hq => cases hq; exact ⟨b2, d2⟩
    | 3, hq => cases hq; exact ⟨b3, d3⟩
    | k + 4, hq => simp [kTy] at hq
  · simp only [kNest, List.mem_cons, List.mem_nil_iff, or_false] at hw
    rcases hw with rfl | rfl | rfl | rfl | rfl
    · exact va_Nw.of rfl (htl (.methodLinkNest RX0 42 yX5_contains RX5) (by decide +kernel))
    · exact va_Nw.of rfl (htl (.methodLinkNest RX2 49 yX5_isRule RX5) (by decide +kernel))
    · exact va_Nw.of rfl (htl (.methodLinkNest RX2 56 yX5_isKey RX5) (by decide +kernel))
    · exact va_Nw.of rfl (htl (.methodLinkNest RX2 59 yX5_contains RX5) (by decide +kernel))
    · exact va_Nw.of rfl (htl (.methodLinkNest RX4 36 yX5_contains RX5) (by decide +kernel))
set_option maxHeartbeats 4000000 in
theorem law_begins {p : Program} {l : Launch} {e : Env} {s : State} {m : MethodId} {below : List Frame} {meth : Method} {c : Code} {b L : Nat} {xs : Nat → Int32} {Q : State → Prop} (hx : p.tables.exec = Jvm.exec) (hb : c.code = cL_law) (hml : c.maxLocals = 4) (hown : s.vm.findClass RL = some m.cls) (htl : ∀ w ∈ lw_tbl, w.before #[Value.ref b] s = true) (hX : va_X b L xs s s.heap) (hbl : b < s.heap.size) (kk : ∀ (E : kE) (ad bm : Nat → Nat) (H : Heap) (locs : List Loc) (ls : Array Slot), LC p s m meth c b L xs E ad bm → LI s E ad bm 0 kS0 kZM H locs → lv_has ls 4 [(0, .ref b), (1, .ref (ad 80)), (2, .ref (bm 0)), (3, .int 0)] → W p l e room_1 s m #[Value.ref b] below meth c H locs 99 5671 Q (F0 m 18 ls [])) : W p l e room_1 s m #[Value.ref b] below meth c s.heap [] 0 0 Q (entryFrame m ([Value.ref b] : List Value).toArray 4) := by
  have hts : ∀ w ∈ wsL_law, w.before #[Value.ref b] s = true := fun w h => htl w (wsL_law_in w h)
  obtain ⟨E, hK⟩ := law_K htl
  have hO : va_AO RX2 s := va_AO.of (htl (.arrayOver (.object RX2)) (by decide +kernel))
  have hA : ∀ q, s.heap.size ≤ q → lFr s q := fun _ h => h
  have hS : va_S (lFr s) s.heap s.heap [] := va_S.rf
  obtain ⟨z, ez⟩ : ∃ z, z = s.heap.size := ⟨_, rfl⟩
  have hl := lv_entry ([.ref b]) (n := 4) (Nat.le_of_ble_eq_true rfl)
  rw [lg_entry_eq]
  generalize (lg_sl ([.ref b]) ++ List.replicate (4 - (lg_sl ([.ref b])).length) Slot.unset).toArray = ls at hl ⊢
  have hl : lv_has ls 4 [(0, .ref b)] := hl
  refine kNew (own := RL) (ci := 4) (fs := [.null, .null, .null, .null, .null, .null]) (C := RX5) (T := TX5) (N := 6) (sz := z) (A := lFr s) (H0 := s.heap) (ws := []) hx hb hts inlX5 tyX5 tyX5_ok hown (htl (.classLink RL 7 RX5) (by decide +kernel)) (htl (.instantiable RX5 6) (by decide +kernel)) (htl (.initialized RX5) (by decide +kernel)) hK.1 kP0 kD0 hS hA rfl (fun j hj => by
    rcases (show j = 0 ∨ j = 1 ∨ j = 2 ∨ j = 3 ∨ j = 4 ∨ j = 5 by omega) with rfl | rfl | rfl | rfl | rfl | rfl <;> rfl) ez.symm (Nat.le_of_ble_eq_true rfl) (Nat.le_of_ble_eq_true rfl) dL_law_0 (fun H hP hD hS hz ho => ?_)
  have hPn : va_P E.1 vwCl [(z, .inr (4, [.null, .null, .null, .null, .null, .null]))] H := hP
  refine lv_dup hx hb dL_law_3 rfl ?_
  refine kCallP (h0 := z) (sz := z + 1) (sz' := z + 1 + 89) (va_runI (As := []) (rest := [.ref z]) ⟨hx, hb, hml, hown, hts⟩ (c_X5_init l E z (z + 1) (Nat.lt_succ_self _)) (cwI 0 hts gL_law_X5_init rfl rfl rfl (htl (.initialized RX5) (by decide +kernel)) (htl (.methodLink RL 9 yX5_init) (by decide +kernel)) (htl (.instanceMethod yX5_init) (by decide +kernel)) rfl (by decide +kernel) ⟨Nat.le_of_ble_eq_true rfl, Nat.le_of_ble_eq_true rfl⟩) (kPreCS hK hO hz hPn) rfl rfl hl.1 rfl (lv_room (Nat.le_of_ble_eq_true rfl)) dL_law_4 ⟨Nat.le_of_ble_eq_true rfl, Nat.le_of_ble_eq_true rfl⟩) hS (fun q hq => by rcases hq with e | e <;> (show s.heap.size ≤ q; omega)) hz (by omega) (fun H locs hPS hz ho hS => ?_)
  have hY := Sys_of hPS
  have hz : H.size = z + 90 := by rw [hz]
  have hsep : kSep (adf z (z + 1)) := adf_sep (Nat.lt_succ_self _)
  refine lv_astore_n (lv' := [(1, .ref z), (0, .ref b)]) hx hb dL_law_7 rfl hl (by decide) rfl (fun ls hl => ?_)
  refine kNew (own := RL) (ci := 5) (fs := [.null, .null, .null, .null, .int 0, .null, .int 0, .int 0, .int 0, .int 0, .null, .null, .null, .int 0, .int 0, .int 0]) (C := RX6) (T := TX6) (N := 16) (sz := z + 90) (A := lFr s) (H0 := s.heap) (ws := []) hx hb hts inlX6 tyX6 tyX6_ok hown (htl (.classLink RL 10 RX6) (by decide +kernel)) (htl (.instantiable RX6 16) (by decide +kernel)) (htl (.initialized RX6) (by decide +kernel)) hK.1 kP0 kD0 hS hA rfl (fun j hj => by
    rcases (show j = 0 ∨ j = 1 ∨ j = 2 ∨ j = 3 ∨ j = 4 ∨ j = 5 ∨ j = 6 ∨ j = 7 ∨ j = 8 ∨ j = 9 ∨ j = 10 ∨ j = 11 ∨ j = 12 ∨ j = 13 ∨ j = 14 ∨ j = 15 by omega) with rfl | rfl | rfl | rfl | rfl | rfl | rfl | rfl | rfl | rfl | rfl | rfl | rfl | rfl | rfl | rfl <;> rfl) hz (Nat.le_of_ble_eq_true rfl) (Nat.le_of_ble_eq_true rfl) dL_law_8 (fun H hP hD hS hz ho => ?_)
  have hPn : va_P E.1 vwCl [(z + 90, .inr (5, [.null, .null, .null, .null, .int 0, .null, .int 0, .int 0, .int 0, .int 0, .null, .null, .null, .int 0, .int 0, .int 0]))] H := hP
  have hY := hY.keptA (H1 := H) (A := fun q => z + 90 ≤ q) hsep (fun q h1 h2 => ho q (by omega)) (fun q hq => by have := adf_in hq; omega)
  refine lv_dup hx hb dL_law_11 rfl ?_
  refine kCallC (h0 := z + 90) (sz := z + 90 + 1) (sz' := z + 90 + 1 + 8) (va_runI (As := []) (rest := [.ref (z + 90)]) ⟨hx, hb, hml, hown, hts⟩ (c_X6_init l E (z + 90) (z + 90 + 1) (Nat.lt_succ_self _)) (cwI 0 hts gL_law_X6_init rfl rfl rfl (htl (.initialized RX6) (by decide +kernel)) (htl (.methodLink RL 12 yX6_init) (by decide +kernel)) (htl (.instanceMethod yX6_init) (by decide +kernel)) rfl (by decide +kernel) ⟨Nat.le_of_ble_eq_true rfl, Nat.le_of_ble_eq_true rfl⟩) (kPreCS hK hO hz hPn) rfl rfl hl.1 rfl (lv_room (Nat.le_of_ble_eq_true rfl)) dL_law_12 ⟨Nat.le_of_ble_eq_true rfl, Nat.le_of_ble_eq_true rfl⟩) hS (fun q hq => by rcases hq with e | e <;> (show s.heap.size ≤ q; omega)) hz (by omega) (fun H locs hPm hz ho hS => ?_)
  have hY := hY.keptA (H1 := H) (A := fun q => z + 90 ≤ q) hsep (fun q h1 h2 => ho q (by omega) (by omega)) (fun q hq => by have := adf_in hq; omega)
  refine lv_astore_n (lv' := [(2, .ref (z + 90)), (1, .ref z), (0, .ref b)]) hx hb dL_law_15 rfl hl (by decide) rfl (fun ls hl => ?_)
  refine lv_iconst (v := 0) hx hb dL_law_16 (by decide) ?_
  refine lv_istore_n (lv' := [(3, .int 0), (2, .ref (z + 90)), (1, .ref z), (0, .ref b)]) hx hb dL_law_17 rfl hl (by decide) rfl (fun ls hl => ?_)
  refine W.widen (k := 99) (n := 5671) (Nat.le_of_ble_eq_true rfl) (Nat.le_of_ble_eq_true rfl) ?_
  exact kk E (adf z (z + 1)) (lA (z + 90) (z + 90 + 1)) H locs ls ⟨hx, hb, hml, hown, hts, hX, hbl, hK, hsep, lA_inj (Nat.lt_succ_self _), fun q hq => by have := adf_in hq; show s.heap.size ≤ q; omega, fun q hq => by have := lA_in (n := 8) hq; show s.heap.size ≤ q; omega, fun q h1 h2 => by have := adf_in h1; have := lA_in (n := 8) h2; omega⟩ ⟨RR_0, hY, hPm, hS⟩ (lv_sub hl [3, 2, 1, 0] rfl)
