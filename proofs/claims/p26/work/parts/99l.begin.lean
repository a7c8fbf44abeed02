/-! the law's start -/
theorem kArr {s : State} {A : Array Value} {t : FieldType} (h : (Cond.arrayClass t).before A s = true) : ∃ cA : ClassId, ArrOfT s cA t ∧ s.vm.findClass ("[" ++ t.toString) = some cA := by
  obtain ⟨cA, k, comp, h1, h2, h3⟩ := Cond.arrayClass_spec h
  exact ⟨cA, fun n z => ⟨fun k h => (by cases h), k, h2, comp, h3⟩, h1⟩
theorem kArrO {s : State} {A : Array Value} {C : String} (h : (Cond.arrayOver (.object C)).before A s = true) : ∃ cA : ClassId, ArrOfT s cA (.object C) ∧ va_RA s cA (.object C) := by
  obtain ⟨comp, cA, k, h1, h2, h3, h4, h5⟩ := Cond.arrayOver_spec h
  exact ⟨cA, fun n z => ⟨fun k h => (by cases h), k, h3, comp, h4⟩, k, comp, h3, h4, h1, h5⟩
theorem law_K {s : State} {A : Array Value} (htl : ∀ w ∈ lw_tbl, w.before A s = true) : ∃ E : kE, kK E s := by
  have hts : ∀ w ∈ wsL_law, w.before A s = true := fun w h => htl w (wsL_law_in w h)
  obtain ⟨c0, f0, k0⟩ := u_known (C := RX1) (T := TX1) (N := 3) (n := 3) hts inlX1 (htl (.instantiable RX1 3) (by decide +kernel))
  obtain ⟨c1, f1, k1⟩ := u_known (C := RX2) (T := TX2) (N := 10) (n := 10) hts inlX2 (htl (.instantiable RX2 10) (by decide +kernel))
  obtain ⟨c2, f2, k2⟩ := u_known (C := RX3) (T := TX3) (N := 8) (n := 8) hts inlX3 (htl (.instantiable RX3 8) (by decide +kernel))
  obtain ⟨c3, f3, k3⟩ := u_known (C := RX4) (T := TX4) (N := 2) (n := 2) hts inlX4 (htl (.instantiable RX4 2) (by decide +kernel))
  obtain ⟨c4, f4, k4⟩ := u_known (C := RX5) (T := TX5) (N := 6) (n := 6) hts inlX5 (htl (.instantiable RX5 6) (by decide +kernel))
  obtain ⟨a0, b0, d0⟩ := kArr (htl (.arrayClass .int) (by decide +kernel))
  obtain ⟨a1, b1, d1⟩ := kArr (htl (.arrayClass .boolean) (by decide +kernel))
  obtain ⟨a2, b2, d2⟩ := kArr (htl (.arrayClass .char) (by decide +kernel))
  obtain ⟨a3, b3, d3⟩ := kArrO (C := RX2) (htl (.arrayOver (.object RX2)) (by decide +kernel))
  refine ⟨((fun k => if k = 0 then c0 else if k = 1 then c1 else if k = 2 then c2 else if k = 3 then c3 else c4, fun k => if k = 0 then f0 else if k = 1 then f1 else if k = 2 then f2 else if k = 3 then f3 else f4), fun k => if k = 0 then a0 else if k = 1 then a1 else if k = 2 then a2 else a3), ⟨fun k q hq => ?_, fun k q hq => ?_⟩, fun w hw => ?_⟩
  · match k, hq with
    | 0, hq => cases hq; exact k0
    | 1, hq => cases hq; exact k1
    | 2, hq => cases hq; exact k2
    | 3, hq => cases hq; exact k3
    | 4, hq => cases hq; exact k4
    | k + 5, hq => simp [vwCl] at hq
  · match k, hq with
    | 0, hq => cases hq; exact ⟨b0, d0⟩
    | 1, hq => cases hq; exact ⟨b1, d1⟩
    | 2, hq => cases hq; exact ⟨b2, d2⟩
    | 3, hq => cases hq; exact ⟨b3, d3⟩
    | k + 4, hq => simp [kTy] at hq
  · simp only [kNest, List.mem_cons, List.mem_nil_iff, or_false] at hw
    rcases hw with rfl | rfl | rfl | rfl | rfl
    · exact va_Nw.of rfl (htl (.methodLinkNest RX0 42 yX5_contains RX5) (by decide +kernel))
    · exact va_Nw.of rfl (htl (.methodLinkNest RX2 49 yX5_isRule RX5) (by decide +kernel))
    · exact va_Nw.of rfl (htl (.methodLinkNest RX2 56 yX5_isKey RX5) (by decide +kernel))
    · exact va_Nw.of rfl (htl (.methodLinkNest RX2 59 yX5_contains RX5) (by decide +kernel))
    · exact va_Nw.of rfl (htl (.methodLinkNest RX4 36 yX5_contains RX5) (by decide +kernel))
theorem LQ_0 {ρ : Nat} {v : kG} (hr : ρ < 4) (h0 : v 0 0 = nI ρ) (h1 : v 0 1 = nI 0) (h2 : v 0 2 = nI 0) : LQ 0 0 (fun _ => 0) (fun _ => 0) ρ v (fun _ => 0) (fun _ => 0) :=
  ⟨⟨by decide, rfl, fun t ht => absurd ht (Nat.not_lt_zero t)⟩, h2, ⟨h1, by decide, fun t ht => absurd ht (Nat.not_lt_zero t), fun t u _ hu => absurd hu (Nat.not_lt_zero u), fun t u ht => absurd ht (Nat.not_lt_zero t), fun t u ht => absurd ht (Nat.not_lt_zero t)⟩, rfl, fun t ht => absurd ht (Nat.not_lt_zero t), fun t ht => absurd ht (Nat.not_lt_zero t), h0, hr, fun t k ht => absurd ht (Nat.not_lt_zero t), fun t u ht => absurd ht (Nat.not_lt_zero t), fun a p o ha => absurd ha (Nat.not_lt_zero a), fun t _ _ => ⟨rfl, rfl, rfl⟩⟩
theorem his_0 : hisOK kS0 := ⟨0, by decide, rfl⟩
set_option maxHeartbeats 4000000 in
theorem law_begins {p : Program} {l : Launch} {e : Env} {s : State} {m : MethodId} {below : List Frame} {meth : Method} {c : Code} {b L : Nat} {xs : Nat → Int32} {Q : State → Prop} (hx : p.tables.exec = Jvm.exec) (hb : c.code = cL_law) (hml : c.maxLocals = 15) (hown : s.vm.findClass RL = some m.cls) (htl : ∀ w ∈ lw_tbl, w.before #[Value.ref b] s = true) (hX : va_X b L xs s s.heap) (hL : L < 2 ^ 31) (hbl : b < s.heap.size) (kk : ∀ (E : kE) (ad ra : Nat → Nat) (qa ρ : Nat) (S : kS) (H : Heap) (locs : List Loc) (ls : Array Slot), LC p s m meth c b L xs E ad ra qa → LI s E ad ra qa 0 0 (fun _ => 0) (fun _ => 0) ρ S (fun _ => 0) (fun _ => 0) H locs → lv_has ls 15 [(5, .int 0), (0, .ref b), (1, .ref (ad 80)), (2, .ref (ra 0)), (3, .ref qa), (4, .int (nI ρ))] → W p l e room_1 s m #[Value.ref b] below meth c H locs 92 2996 Q (F0 m 52 ls [])) : W p l e room_1 s m #[Value.ref b] below meth c s.heap [] 0 0 Q (entryFrame m ([Value.ref b] : List Value).toArray 15) := by
  have hts : ∀ w ∈ wsL_law, w.before #[Value.ref b] s = true := fun w h => htl w (wsL_law_in w h)
  obtain ⟨E, hK⟩ := law_K htl
  have hO : va_AO RX2 s := va_AO.of (htl (.arrayOver (.object RX2)) (by decide +kernel))
  have hA : ∀ q, s.heap.size ≤ q → lFr s q := fun _ h => h
  have hS : va_S (lFr s) s.heap s.heap [] := va_S.rf
  obtain ⟨y, ez⟩ : ∃ y, y = s.heap.size := ⟨_, rfl⟩
  have hl := lv_entry ([.ref b]) (n := 15) (Nat.le_of_ble_eq_true rfl)
  rw [lg_entry_eq]
  generalize (lg_sl ([.ref b]) ++ List.replicate (15 - (lg_sl ([.ref b])).length) Slot.unset).toArray = ls at hl ⊢
  have hl : lv_has ls 15 [(0, .ref b)] := hl
  refine kNew (own := RL) (ci := 4) (fs := [.null, .null, .null, .null, .null, .null]) (C := RX5) (T := TX5) (N := 6) (sz := y) (A := lFr s) (H0 := s.heap) (ws := []) hx hb hts inlX5 tyX5 tyX5_ok hown (htl (.classLink RL 24 RX5) (by decide +kernel)) (htl (.instantiable RX5 6) (by decide +kernel)) (htl (.initialized RX5) (by decide +kernel)) hK.1 kP0 kD0 hS hA rfl (fun j hj => by
    rcases (show j = 0 ∨ j = 1 ∨ j = 2 ∨ j = 3 ∨ j = 4 ∨ j = 5 by omega) with rfl | rfl | rfl | rfl | rfl | rfl <;> rfl) ez.symm (Nat.le_of_ble_eq_true rfl) (Nat.le_of_ble_eq_true rfl) dL_law_0 (fun H hP hD hS hz ho => ?_)
  have hPn : va_P E.1 vwCl [(y, .inr (4, [.null, .null, .null, .null, .null, .null]))] H := hP
  refine lv_dup hx hb dL_law_3 rfl ?_
  refine kCallP (h0 := y) (sz := y + 1) (sz' := y + 1 + 89) (va_runI (As := []) (rest := [.ref y]) ⟨hx, hb, hml, hown, hts⟩ (c_X5_init l E y (y + 1) (Nat.lt_succ_self _)) (cwI 0 hts gL_law_X5_init rfl rfl rfl (htl (.initialized RX5) (by decide +kernel)) (htl (.methodLink RL 51 yX5_init) (by decide +kernel)) (htl (.instanceMethod yX5_init) (by decide +kernel)) rfl (by decide +kernel) ⟨Nat.le_of_ble_eq_true rfl, Nat.le_of_ble_eq_true rfl⟩) (kPreCS hK hO hz hPn) rfl rfl hl.1 rfl (lv_room (Nat.le_of_ble_eq_true rfl)) dL_law_4 ⟨Nat.le_of_ble_eq_true rfl, Nat.le_of_ble_eq_true rfl⟩) hS (fun q hq => by rcases hq with e | e <;> (show s.heap.size ≤ q; omega)) hz (by omega) (fun H locs hPS hz ho hS => ?_)
  have hY := Sys_of hPS
  have hz : H.size = y + 90 := by rw [hz]
  have hs : kSep (adf y (y + 1)) := adf_sep (Nat.lt_succ_self _)
  refine lv_astore_n (lv' := [(1, .ref y), (0, .ref b)]) hx hb dL_law_7 rfl hl (by decide) rfl (fun ls hl => ?_)
  refine lv_bipush (v := 62) hx hb dL_law_8 (by decide) ?_
  refine kNewa (ws := []) (D := E.1) (cl := vwCl) (atype := .int) (N' := 62) (a0 := (62, .inl (fun _ => 0))) (sz := y + 90) hx hb (hts (.arrayClass .int) (by decide +kernel)) (kcI hK) kP0 kD0 hS hA (fun _ => rfl) hz (by decide) (by decide +kernel) (by decide) (Nat.le_of_ble_eq_true rfl) (Nat.le_of_ble_eq_true rfl) dL_law_10 (fun H1 hR _ hS hz1 ho => ?_)
  have hR : va_P E.1 vwCl (wRx E (fun _ => y + 90) (fun _ => 0)) H1 := hR
  have hY := hY.keptA (H1 := H1) (A := fun q => y + 90 ≤ q) hs (fun q _ (h2 : ¬ y + 90 ≤ q) => ho q (by omega)) (fun q hq (h2 : y + 90 ≤ q) => by have := adf_in hq; omega)
  refine lv_astore_n (lv' := [(2, .ref (y + 90)), (1, .ref y), (0, .ref b)]) hx hb dL_law_12 rfl hl (by decide) rfl (fun ls hl => ?_)
  refine lv_bipush (v := 60) hx hb dL_law_13 (by decide) ?_
  refine kNewa (ws := []) (D := E.1) (cl := vwCl) (atype := .int) (N' := 60) (a0 := (60, .inl (fun _ => 0))) (sz := y + 91) hx hb (hts (.arrayClass .int) (by decide +kernel)) (kcI hK) kP0 kD0 hS hA (fun _ => rfl) hz1 (by decide) (by decide +kernel) (by decide) (Nat.le_of_ble_eq_true rfl) (Nat.le_of_ble_eq_true rfl) dL_law_15 (fun H2 hV _ hS hz2 ho => ?_)
  have hV : va_P E.1 vwCl (wVx E (y + 91) (fun _ => 0)) H2 := hV
  have hY := hY.keptA (H1 := H2) (A := fun q => y + 91 ≤ q) hs (fun q _ (h2 : ¬ y + 91 ≤ q) => ho q (by omega)) (fun q hq (h2 : y + 91 ≤ q) => by have := adf_in hq; omega)
  have hR := kP1 hR (ho _ (show y + 90 < y + 91 by omega))
  refine lv_astore_n (lv' := [(3, .ref (y + 91)), (2, .ref (y + 90)), (1, .ref y), (0, .ref b)]) hx hb dL_law_17 rfl hl (by decide) rfl (fun ls hl => ?_)
  refine W.widen (k := 92) (n := 2996) (Nat.le_of_ble_eq_true rfl) (Nat.le_of_ble_eq_true rfl) ?_
  obtain ⟨ad, ead⟩ : ∃ ad, ad = adf y (y + 1) := ⟨_, rfl⟩
  have e80 : y = ad 80 := by rw [ead]; rfl
  have hin : ∀ q, kA ad 90 q → y ≤ q ∧ q < y + 90 := fun q hq => by rw [ead] at hq; have := adf_in hq; omega
  rw [← ead] at hY hs
  clear ead
  have hA : ∀ q, kA ad 90 q → lFr s q := fun q hq => by have := hin q hq; show s.heap.size ≤ q; omega
  have hap : ∀ q, kA ad 90 q → ¬ kA (fun _ => y + 90) 1 q := fun q hq h => by
    obtain ⟨i, _, e⟩ := h
    have := hin q hq
    have e2 : q = y + 90 := e
    omega
  have hapq : ∀ q, kA ad 90 q → q ≠ y + 91 := fun q hq h => by have := hin q hq; omega
  have hl : lv_has ls 15 [(3, .ref (y + 91)), (2, .ref (y + 90)), (1, .ref (ad 80)), (0, .ref b)] := by rw [← e80]; exact hl
  obtain ⟨ra, era⟩ : ∃ ra : Nat → Nat, ra = fun _ => y + 90 := ⟨_, rfl⟩
  have e0 : y + 90 = ra 0 := by rw [era]
  rw [← era] at hR hap
  clear era
  obtain ⟨qa, eqa⟩ : ∃ qa, qa = y + 91 := ⟨_, rfl⟩
  rw [← eqa] at hV hapq
  have hl : lv_has ls 15 [(3, .ref qa), (2, .ref (ra 0)), (1, .ref (ad 80)), (0, .ref b)] := by rw [← e0, eqa]; exact hl
  have hra : lFr s (ra 0) := by show s.heap.size ≤ ra 0; omega
  have hqa : lFr s qa := by show s.heap.size ≤ qa; omega
  have hrq : ra 0 ≠ qa := by omega
  have hlt : ∀ x, kA ad 90 x → x < H2.size := fun x hx => by have := hin x hx; omega
  have hrl : ra 0 < H2.size := by omega
  refine lv_aload_n hx hb dL_law_18 rfl (lv_at hl 3 rfl) ?_
  refine lv_iconst (v := 0) hx hb dL_law_19 (by decide) ?_
  refine kCallRi (va_runS (As := [.ref b, .int 0]) (rest := []) ⟨hx, hb, hml, hown, hts⟩ (c_L_cell l b L xs hL 0 (by decide) _ rfl) (va_cwS 2 hts gL_law_L_cell rfl rfl rfl (by decide +kernel) ⟨Nat.le_of_ble_eq_true rfl, Nat.le_of_ble_eq_true rfl⟩) (kPreXS hX hbl (Nat.not_le.mpr hbl) hS) rfl rfl hl.1 rfl (lv_room (Nat.le_of_ble_eq_true rfl)) dL_law_20 ⟨Nat.le_of_ble_eq_true rfl, Nat.le_of_ble_eq_true rfl⟩) ?_
  refine lv_iconst (v := 4) hx hb dL_law_23 (by decide) ?_
  refine kCallRi (va_runS (As := [.int (mL_cell xs L 0), .int 4]) (rest := []) ⟨hx, hb, hml, hown, hts⟩ (c_L_low l E (mL_cell xs L 0) 4 (by decide) _ rfl) (va_cwS 2 hts gL_law_L_low rfl rfl rfl (by decide +kernel) ⟨Nat.le_of_ble_eq_true rfl, Nat.le_of_ble_eq_true rfl⟩) (kPreS hK kP0) rfl rfl hl.1 rfl (lv_room (Nat.le_of_ble_eq_true rfl)) dL_law_24 ⟨Nat.le_of_ble_eq_true rfl, Nat.le_of_ble_eq_true rfl⟩) ?_
  obtain ⟨ρ, hρ4, eρ⟩ := low_lt (mL_cell xs L 0) (a := 4) (by decide) (by decide)
  refine W.eq (g2 := F0 m 27 ls [.int (nI ρ)]) (by rw [show mL_low (mL_cell xs L 0) 4 = nI ρ from eρ]) ?_
  refine lv_istore (lv' := [(4, .int (nI ρ)), (3, .ref qa), (2, .ref (ra 0)), (1, .ref (ad 80)), (0, .ref b)]) hx hb dL_law_27 hl (by decide) rfl (fun ls hl => ?_)
  refine lv_aload_n hx hb dL_law_29 rfl (lv_at hl 3 rfl) ?_
  refine lv_iload hx hb dL_law_30 (lv_at hl 0 rfl) ?_
  refine kCallYi (va_runV (As := [.int (nI ρ)]) (rest := []) ⟨hx, hb, hml, hown, hts⟩ (c_X5_rule l E ad kS0 hs (nI ρ) his_0 _ rfl) (cwV 1 hts gL_law_X5_rule rfl rfl rfl (by decide +kernel) ⟨Nat.le_of_ble_eq_true rfl, Nat.le_of_ble_eq_true rfl⟩) (kPreYV hK hY.2.1 hY (q0 := 0) rfl rfl) rfl rfl hl.1 rfl (lv_room (Nat.le_of_ble_eq_true rfl)) dL_law_32 ⟨Nat.le_of_ble_eq_true rfl, Nat.le_of_ble_eq_true rfl⟩) hS (fun q h => hA q h) (fun H1 locs1 hY hsz hkp hS => ?_)
  have hR := kP_kept hR (dR (fun i j h1 h2 _ => by omega) _) (fun q z y => hap q y z) hkp
  have hV := kP_kept (A := fun q => q = qa) hV (kD1 rfl) (fun q (h : q = qa) y => hapq q y h) hkp
  have hlt : ∀ x, kA ad 90 x → x < H1.size := fun x hx => Nat.lt_of_lt_of_le (hlt x hx) hsz
  have hrl : ra 0 < H1.size := Nat.lt_of_lt_of_le hrl hsz
  have hAn := rule_A (S := kS0) hρ4 his_0
  refine kGen (mX5_rule kS0 (nI ρ)) (fun g1 hg1 => ?_)
  rw [hg1] at hY hAn ⊢
  have hQ : LQ 0 0 (fun _ => 0) (fun _ => 0) ρ (g1.2 0) (fun _ => 0) (fun _ => 0) := LQ_0 hρ4 hAn.2.1 (hAn.2.2.1.trans rfl) (hAn.2.2.2.1.trans rfl)
  have hno : nOK (g1.2 0 0 2) := ⟨0, by decide, hQ.2.1⟩
  have hnr : nOK (((fun _ => (fun _ => 0)) : kG) 0 49) := ⟨0, by decide, rfl⟩
  refine lv_iconst (v := 1) hx hb dL_law_35 (by decide) ?_
  refine lv_icmp_ne (tgt := 47) hx hb dL_law_36 (by decide) (fun c => absurd (hAn.1.trans rfl) c) (fun _ => ?_)
  refine lv_aload_n hx hb dL_law_39 rfl (lv_at hl 3 rfl) ?_
  refine lv_aload_n hx hb dL_law_40 rfl (lv_at hl 2 rfl) ?_
  refine kCallYi (va_runS (As := [.ref (ad 80), .ref (ra 0)]) (rest := []) ⟨hx, hb, hml, hown, hts⟩ (c_L_tells l E ad (g1.2) hs ra (fun _ => (fun _ => 0)) hap hno hnr _ rfl) (va_cwS 2 hts gL_law_L_tells rfl rfl rfl (by decide +kernel) ⟨Nat.le_of_ble_eq_true rfl, Nat.le_of_ble_eq_true rfl⟩) (kPreTS hK hY hR) rfl rfl hl.1 rfl (lv_room (Nat.le_of_ble_eq_true rfl)) dL_law_41 ⟨Nat.le_of_ble_eq_true rfl, Nat.le_of_ble_eq_true rfl⟩) hS (fun q h => hA q h) (fun H1 locs1 hY hsz hkp hS => ?_)
  have hR := kP_kept hR (dR (fun i j h1 h2 _ => by omega) _) (fun q z y => hap q y z) hkp
  have hV := kP_kept (A := fun q => q = qa) hV (kD1 rfl) (fun q (h : q = qa) y => hapq q y h) hkp
  have hlt : ∀ x, kA ad 90 x → x < H1.size := fun x hx => Nat.lt_of_lt_of_le (hlt x hx) hsz
  have hrl : ra 0 < H1.size := Nat.lt_of_lt_of_le hrl hsz
  have htl : (mL_tells (g1.2) (fun _ => (fun _ => 0))) = (1, g1.2) := tells_1 (S := g1.2) (r := (fun _ => (fun _ => 0))) hQ.1 hQ.2.1 hQ.2.2.1 hQ.2.2.2.1 hQ.2.2.2.2.1 hQ.2.2.2.2.2.1
  rw [htl] at hY ⊢
  dsimp only at hY ⊢
  refine lv_if_ne (tgt := 49) hx hb dL_law_44 (by decide) (fun _ => ?_) (fun c => absurd c (by decide))
  refine lv_iconst (v := 0) hx hb dL_law_49 (by decide) ?_
  refine lv_istore (lv' := [(5, .int 0), (4, .int (nI ρ)), (3, .ref qa), (2, .ref (ra 0)), (1, .ref (ad 80)), (0, .ref b)]) hx hb dL_law_50 hl (by decide) rfl (fun ls hl => ?_)
  exact kk E ad ra qa ρ g1.2 _ _ ls ⟨hx, hb, hml, hown, hts, hX, hL, hbl, hK, hs, hA, hra, hqa, hap, hapq, hrq⟩ ⟨hY, hR, hV, hS, hlt, hrl, hAn.2.2.2.2, hQ⟩ (lv_sub hl [0, 5, 4, 3, 2, 1] rfl)

