/-! the constructors that make rows alone -/
theorem kIast {p : Program} {l : Launch} {e : Env} {R : Room} {s : State} {m : MethodId} {args : Array Value} {below : List Frame} {meth : Method} {c : Code} {H : Heap} {locs : List Loc} {cells slots : Nat} {Q : State → Prop} {cc : ByteArray} {pc : Nat} {ls : Array Slot} {rest : List Value} {a : Nat} {A : Nat → Prop} {H0 : Heap} {D : va_G} {cl : List vw_C} {tys : List (ClassId × FieldType)} {ws : va_W} (hexec : p.tables.exec = Jvm.exec) (hb : c.code = cc) (hK : va_K D cl tys s) (hP : va_P D cl ws H) (hD : va_D A ws) (hS : va_S A H0 H locs) (q0 t0 : Nat) {cA : ClassId} {n : Nat} {f : Nat → Int32} (ha : ws[q0]? = some (a, .inl (cA, n, .inl f))) (ht : tys[t0]? = some (cA, .int)) {i : Int32} {x : Int32} (hin : vp_in i n) (hdg : decode cc pc = .ok (.iastore, 1))
    (kk : ∀ (H1 : Heap) (locs1 : List Loc), va_P D cl (ws.set q0 (a, .inl (cA, n, .inl (upd f i.toNatClampNeg x)))) H1 → va_D A (ws.set q0 (a, .inl (cA, n, .inl (upd f i.toNatClampNeg x)))) → va_S A H0 H1 locs1 → H1.size = H.size → W p l e R s m args below meth c H1 locs1 cells slots Q (F0 m (pc + 1) ls rest)) : W p l e R s m args below meth c H locs cells slots Q (F0 m pc ls (.int x :: .int i :: .ref a :: rest)) := by
  refine W.iast hexec hb (hP q0 _ ha) ((hK.2 t0 _ ht).1 n (fun j => .int (f j))) (fun q => by cases q) (by show ¬ (i < 0 ∨ (arrV _ _ _).slots.size ≤ _); rw [arrV_size]; exact hin) rfl rfl hdg fun H1 e z oq => ?_
  refine kk H1 _ (hP.set hD ha ?_ oq) (hD.set ha) (hS.put z oq (hD.2 q0 _ ha)) z
  show H1[a]? = some (vp_cell _ _)
  rw [e]
  rw [vp_cell_i, vp_cell_i, arrV_store]
  congr 2
  funext q
  by_cases hq : q = i.toNatClampNeg
  · subst hq
    simp [updV, upd]
  · simp [updV, upd, hq]
set_option maxHeartbeats 1000000 in
set_option maxRecDepth 100000 in
theorem c_X2_init (l : Launch) (E : kE) (h0 sz : Nat) (hlt : h0 < sz) : Met l yX2_init wsX2_init ({ frames := 1, cells := 7, slots := 264, locals := 12 }) (kPreC E [.ref h0] sz [(h0, .inr (1, [.int 0, .int 0, .int 0, .null, .null, .null, .null, .null, .null, .null]))]) (kCv E (wLed E (lA h0 sz) kZ1) h0 sz (sz + 7)) 7 264 (kFr h0 sz) := by
  refine Met.ofW (cc := cX2_init) (maxL := 1) (ret := none) (by decide) rfl ?_
  intro p e s m args below meth c s₁ B hml hv
  obtain ⟨rfl, hK, hO, hsz, hP⟩ := hv
  have hx := B.exec
  have hb := B.bytes
  have hr := B.returns
  have hts := atoms_spec (ws := wsX2_init) B.pre
  have hown : s.vm.findClass RX2 = some m.cls := findClass_of_methodNamed B.named
  have hlocks := B.notSynchronized
  have hin : meth.name = "<init>" := (name_of_methodNamed B.named B.method).1
  have hA : ∀ q : Nat, s.heap.size ≤ q → kFr h0 sz q := fun q h => Or.inr (by rw [← hsz]; exact h)
  have hS : va_S (kFr h0 sz) s.heap s.heap [] := va_S.rf
  have hi : ∀ w ∈ wsX20, w ∈ wsX2_init := by decide +kernel
  have hz : s.heap.size = sz + 0 := hsz
  have hP : va_P E.1 vwCl [(h0, .inr (1, [.int 0, .int 0, .int 0, .null, .null, .null, .null, .null, .null, .null]))] s.heap := hP
  have hD : va_D (kFr h0 sz) [(h0, .inr (1, [.int 0, .int 0, .int 0, .null, .null, .null, .null, .null, .null, .null]))] := kD1 (Or.inl rfl)
  have hl := lv_entry ([.ref h0]) (n := 1) (Nat.le_of_ble_eq_true rfl)
  rw [lg_entry_eq]
  generalize (lg_sl ([.ref h0]) ++ List.replicate (1 - (lg_sl ([.ref h0])).length) Slot.unset).toArray = ls at hl ⊢
  have hl : lv_has ls 1 [(0, .ref h0)] := hl
  refine lv_aload_n hx hb dX2_init_0 rfl (lv_at hl 0 rfl) ?_
  refine W.objInit hx hb hown (hts (.methodLink RX2 3 objectInit) (by decide +kernel)) (hts (.instanceMethod objectInit) (by decide +kernel)) (hts _ (List.mem_cons_of_mem _ (List.mem_append_left _ (List.mem_of_getElem? (i := 2) rfl)))) rfl (by rw [hml]; exact hl.1) rfl dX2_init_1 (Nat.le_of_ble_eq_true rfl) (Nat.le_of_ble_eq_true rfl) ?_
  refine W.eq (g2 := F0 m 4 ls []) rfl ?_
  refine lv_aload_n hx hb dX2_init_4 rfl (lv_at hl 0 rfl) ?_
  refine lv_iconst (v := 1) hx hb dX2_init_5 (by decide) ?_
  refine kPut (D := E.1) (ci := 1) (v := .int 1) (ty := .int) (C := RX2) (T := TX2) (N := 10) hx hb hts hi tyX2 tyX2_ok nmX2 hown hK.1 hP hD hS 0 rfl rfl 0 (by decide) (hts (.fieldLink RX2 9 "SkewEdges$Ledger" "rule" "I") (by decide +kernel)) (fun _ h9 => h9) rfl (by decide +kernel) rfl rfl (Nat.le_of_ble_eq_true rfl) dX2_init_6 (fun H locs hP hD hS hz1 ho => ?_)
  have hz : H.size = sz + 0 := hz1.trans hz
  have hP : va_P E.1 vwCl [(h0, .inr (1, [.int 1, .int 0, .int 0, .null, .null, .null, .null, .null, .null, .null]))] H := hP
  have hD : va_D (kFr h0 sz) [(h0, .inr (1, [.int 1, .int 0, .int 0, .null, .null, .null, .null, .null, .null, .null]))] := hD
  refine lv_aload_n hx hb dX2_init_9 rfl (lv_at hl 0 rfl) ?_
  refine lv_iconst (v := 0) hx hb dX2_init_10 (by decide) ?_
  refine kPut (D := E.1) (ci := 1) (v := .int 0) (ty := .int) (C := RX2) (T := TX2) (N := 10) hx hb hts hi tyX2 tyX2_ok nmX2 hown hK.1 hP hD hS 0 rfl rfl 1 (by decide) (hts (.fieldLink RX2 15 "SkewEdges$Ledger" "moment" "I") (by decide +kernel)) (fun _ h9 => h9) rfl (by decide +kernel) rfl rfl (Nat.le_of_ble_eq_true rfl) dX2_init_11 (fun H locs hP hD hS hz1 ho => ?_)
  have hz : H.size = sz + 0 := hz1.trans hz
  have hP : va_P E.1 vwCl [(h0, .inr (1, [.int 1, .int 0, .int 0, .null, .null, .null, .null, .null, .null, .null]))] H := hP
  have hD : va_D (kFr h0 sz) [(h0, .inr (1, [.int 1, .int 0, .int 0, .null, .null, .null, .null, .null, .null, .null]))] := hD
  refine lv_aload_n hx hb dX2_init_14 rfl (lv_at hl 0 rfl) ?_
  refine lv_iconst (v := 0) hx hb dX2_init_15 (by decide) ?_
  refine kPut (D := E.1) (ci := 1) (v := .int 0) (ty := .int) (C := RX2) (T := TX2) (N := 10) hx hb hts hi tyX2 tyX2_ok nmX2 hown hK.1 hP hD hS 0 rfl rfl 2 (by decide) (hts (.fieldLink RX2 18 "SkewEdges$Ledger" "total" "I") (by decide +kernel)) (fun _ h9 => h9) rfl (by decide +kernel) rfl rfl (Nat.le_of_ble_eq_true rfl) dX2_init_16 (fun H locs hP hD hS hz1 ho => ?_)
  have hz : H.size = sz + 0 := hz1.trans hz
  have hP : va_P E.1 vwCl [(h0, .inr (1, [.int 1, .int 0, .int 0, .null, .null, .null, .null, .null, .null, .null]))] H := hP
  have hD : va_D (kFr h0 sz) [(h0, .inr (1, [.int 1, .int 0, .int 0, .null, .null, .null, .null, .null, .null, .null]))] := hD
  refine lv_aload_n hx hb dX2_init_19 rfl (lv_at hl 0 rfl) ?_
  refine lv_bipush (v := 12) hx hb dX2_init_20 (by decide) ?_
  refine kNewa (atype := .int) (N' := 12) (a0 := (12, .inl (fun _ => 0))) (sz := sz + 0) hx hb (hts (.arrayClass .int) (by decide +kernel)) (kcI hK) hP hD hS hA (fun _ => rfl) hz (by decide) (by decide +kernel) (by decide) (Nat.le_of_ble_eq_true rfl) (Nat.le_of_ble_eq_true rfl) dX2_init_22 (fun H hP hD hS hz ho => ?_)
  have hz : H.size = sz + 1 := hz
  have hP : va_P E.1 vwCl [(h0, .inr (1, [.int 1, .int 0, .int 0, .null, .null, .null, .null, .null, .null, .null])), (sz + 0, .inl (E.2 0, 12, .inl (fun _ => 0)))] H := hP
  have hD : va_D (kFr h0 sz) [(h0, .inr (1, [.int 1, .int 0, .int 0, .null, .null, .null, .null, .null, .null, .null])), (sz + 0, .inl (E.2 0, 12, .inl (fun _ => 0)))] := hD
  refine kPutF (D := E.1) (ci := 1) (v := .ref (sz + 0)) (ty := .array .int) (C := RX2) (T := TX2) (N := 10) hx hb hts hi tyX2 tyX2_ok nmX2 hown hK.1 hP hD hS 0 rfl rfl 3 (by decide) (hts (.fieldLink RX2 21 "SkewEdges$Ledger" "phase" "[I") (by decide +kernel)) (fun _ h9 => h9) rfl hin rfl (by decide +kernel) rfl rfl (Nat.le_of_ble_eq_true rfl) dX2_init_24 (fun H locs hP hD hS hz1 ho => ?_)
  have hz : H.size = sz + 1 := hz1.trans hz
  have hP : va_P E.1 vwCl [(h0, .inr (1, [.int 1, .int 0, .int 0, .ref (sz + 0), .null, .null, .null, .null, .null, .null])), (sz + 0, .inl (E.2 0, 12, .inl (fun _ => 0)))] H := hP
  have hD : va_D (kFr h0 sz) [(h0, .inr (1, [.int 1, .int 0, .int 0, .ref (sz + 0), .null, .null, .null, .null, .null, .null])), (sz + 0, .inl (E.2 0, 12, .inl (fun _ => 0)))] := hD
  refine lv_aload_n hx hb dX2_init_27 rfl (lv_at hl 0 rfl) ?_
  refine lv_bipush (v := 12) hx hb dX2_init_28 (by decide) ?_
  refine kNewa (atype := .int) (N' := 12) (a0 := (12, .inl (fun _ => 0))) (sz := sz + 1) hx hb (hts (.arrayClass .int) (by decide +kernel)) (kcI hK) hP hD hS hA (fun _ => rfl) hz (by decide) (by decide +kernel) (by decide) (Nat.le_of_ble_eq_true rfl) (Nat.le_of_ble_eq_true rfl) dX2_init_30 (fun H hP hD hS hz ho => ?_)
  have hz : H.size = sz + 2 := hz
  have hP : va_P E.1 vwCl [(h0, .inr (1, [.int 1, .int 0, .int 0, .ref (sz + 0), .null, .null, .null, .null, .null, .null])), (sz + 0, .inl (E.2 0, 12, .inl (fun _ => 0))), (sz + 1, .inl (E.2 0, 12, .inl (fun _ => 0)))] H := hP
  have hD : va_D (kFr h0 sz) [(h0, .inr (1, [.int 1, .int 0, .int 0, .ref (sz + 0), .null, .null, .null, .null, .null, .null])), (sz + 0, .inl (E.2 0, 12, .inl (fun _ => 0))), (sz + 1, .inl (E.2 0, 12, .inl (fun _ => 0)))] := hD
  refine kPutF (D := E.1) (ci := 1) (v := .ref (sz + 1)) (ty := .array .int) (C := RX2) (T := TX2) (N := 10) hx hb hts hi tyX2 tyX2_ok nmX2 hown hK.1 hP hD hS 0 rfl rfl 4 (by decide) (hts (.fieldLink RX2 25 "SkewEdges$Ledger" "beganAt" "[I") (by decide +kernel)) (fun _ h9 => h9) rfl hin rfl (by decide +kernel) rfl rfl (Nat.le_of_ble_eq_true rfl) dX2_init_32 (fun H locs hP hD hS hz1 ho => ?_)
  have hz : H.size = sz + 2 := hz1.trans hz
  have hP : va_P E.1 vwCl [(h0, .inr (1, [.int 1, .int 0, .int 0, .ref (sz + 0), .ref (sz + 1), .null, .null, .null, .null, .null])), (sz + 0, .inl (E.2 0, 12, .inl (fun _ => 0))), (sz + 1, .inl (E.2 0, 12, .inl (fun _ => 0)))] H := hP
  have hD : va_D (kFr h0 sz) [(h0, .inr (1, [.int 1, .int 0, .int 0, .ref (sz + 0), .ref (sz + 1), .null, .null, .null, .null, .null])), (sz + 0, .inl (E.2 0, 12, .inl (fun _ => 0))), (sz + 1, .inl (E.2 0, 12, .inl (fun _ => 0)))] := hD
  refine lv_aload_n hx hb dX2_init_35 rfl (lv_at hl 0 rfl) ?_
  refine lv_bipush (v := 12) hx hb dX2_init_36 (by decide) ?_
  refine kNewa (atype := .int) (N' := 12) (a0 := (12, .inl (fun _ => 0))) (sz := sz + 2) hx hb (hts (.arrayClass .int) (by decide +kernel)) (kcI hK) hP hD hS hA (fun _ => rfl) hz (by decide) (by decide +kernel) (by decide) (Nat.le_of_ble_eq_true rfl) (Nat.le_of_ble_eq_true rfl) dX2_init_38 (fun H hP hD hS hz ho => ?_)
  have hz : H.size = sz + 3 := hz
  have hP : va_P E.1 vwCl [(h0, .inr (1, [.int 1, .int 0, .int 0, .ref (sz + 0), .ref (sz + 1), .null, .null, .null, .null, .null])), (sz + 0, .inl (E.2 0, 12, .inl (fun _ => 0))), (sz + 1, .inl (E.2 0, 12, .inl (fun _ => 0))), (sz + 2, .inl (E.2 0, 12, .inl (fun _ => 0)))] H := hP
  have hD : va_D (kFr h0 sz) [(h0, .inr (1, [.int 1, .int 0, .int 0, .ref (sz + 0), .ref (sz + 1), .null, .null, .null, .null, .null])), (sz + 0, .inl (E.2 0, 12, .inl (fun _ => 0))), (sz + 1, .inl (E.2 0, 12, .inl (fun _ => 0))), (sz + 2, .inl (E.2 0, 12, .inl (fun _ => 0)))] := hD
  refine kPutF (D := E.1) (ci := 1) (v := .ref (sz + 2)) (ty := .array .int) (C := RX2) (T := TX2) (N := 10) hx hb hts hi tyX2 tyX2_ok nmX2 hown hK.1 hP hD hS 0 rfl rfl 5 (by decide) (hts (.fieldLink RX2 28 "SkewEdges$Ledger" "committedAt" "[I") (by decide +kernel)) (fun _ h9 => h9) rfl hin rfl (by decide +kernel) rfl rfl (Nat.le_of_ble_eq_true rfl) dX2_init_40 (fun H locs hP hD hS hz1 ho => ?_)
  have hz : H.size = sz + 3 := hz1.trans hz
  have hP : va_P E.1 vwCl [(h0, .inr (1, [.int 1, .int 0, .int 0, .ref (sz + 0), .ref (sz + 1), .ref (sz + 2), .null, .null, .null, .null])), (sz + 0, .inl (E.2 0, 12, .inl (fun _ => 0))), (sz + 1, .inl (E.2 0, 12, .inl (fun _ => 0))), (sz + 2, .inl (E.2 0, 12, .inl (fun _ => 0)))] H := hP
  have hD : va_D (kFr h0 sz) [(h0, .inr (1, [.int 1, .int 0, .int 0, .ref (sz + 0), .ref (sz + 1), .ref (sz + 2), .null, .null, .null, .null])), (sz + 0, .inl (E.2 0, 12, .inl (fun _ => 0))), (sz + 1, .inl (E.2 0, 12, .inl (fun _ => 0))), (sz + 2, .inl (E.2 0, 12, .inl (fun _ => 0)))] := hD
  refine lv_aload_n hx hb dX2_init_43 rfl (lv_at hl 0 rfl) ?_
  refine lv_bipush (v := 12) hx hb dX2_init_44 (by decide) ?_
  refine kNewa (atype := .int) (N' := 12) (a0 := (12, .inl (fun _ => 0))) (sz := sz + 3) hx hb (hts (.arrayClass .int) (by decide +kernel)) (kcI hK) hP hD hS hA (fun _ => rfl) hz (by decide) (by decide +kernel) (by decide) (Nat.le_of_ble_eq_true rfl) (Nat.le_of_ble_eq_true rfl) dX2_init_46 (fun H hP hD hS hz ho => ?_)
  have hz : H.size = sz + 4 := hz
  have hP : va_P E.1 vwCl [(h0, .inr (1, [.int 1, .int 0, .int 0, .ref (sz + 0), .ref (sz + 1), .ref (sz + 2), .null, .null, .null, .null])), (sz + 0, .inl (E.2 0, 12, .inl (fun _ => 0))), (sz + 1, .inl (E.2 0, 12, .inl (fun _ => 0))), (sz + 2, .inl (E.2 0, 12, .inl (fun _ => 0))), (sz + 3, .inl (E.2 0, 12, .inl (fun _ => 0)))] H := hP
  have hD : va_D (kFr h0 sz) [(h0, .inr (1, [.int 1, .int 0, .int 0, .ref (sz + 0), .ref (sz + 1), .ref (sz + 2), .null, .null, .null, .null])), (sz + 0, .inl (E.2 0, 12, .inl (fun _ => 0))), (sz + 1, .inl (E.2 0, 12, .inl (fun _ => 0))), (sz + 2, .inl (E.2 0, 12, .inl (fun _ => 0))), (sz + 3, .inl (E.2 0, 12, .inl (fun _ => 0)))] := hD
  refine kPutF (D := E.1) (ci := 1) (v := .ref (sz + 3)) (ty := .array .int) (C := RX2) (T := TX2) (N := 10) hx hb hts hi tyX2 tyX2_ok nmX2 hown hK.1 hP hD hS 0 rfl rfl 6 (by decide) (hts (.fieldLink RX2 31 "SkewEdges$Ledger" "readKeys" "[I") (by decide +kernel)) (fun _ h9 => h9) rfl hin rfl (by decide +kernel) rfl rfl (Nat.le_of_ble_eq_true rfl) dX2_init_48 (fun H locs hP hD hS hz1 ho => ?_)
  have hz : H.size = sz + 4 := hz1.trans hz
  have hP : va_P E.1 vwCl [(h0, .inr (1, [.int 1, .int 0, .int 0, .ref (sz + 0), .ref (sz + 1), .ref (sz + 2), .ref (sz + 3), .null, .null, .null])), (sz + 0, .inl (E.2 0, 12, .inl (fun _ => 0))), (sz + 1, .inl (E.2 0, 12, .inl (fun _ => 0))), (sz + 2, .inl (E.2 0, 12, .inl (fun _ => 0))), (sz + 3, .inl (E.2 0, 12, .inl (fun _ => 0)))] H := hP
  have hD : va_D (kFr h0 sz) [(h0, .inr (1, [.int 1, .int 0, .int 0, .ref (sz + 0), .ref (sz + 1), .ref (sz + 2), .ref (sz + 3), .null, .null, .null])), (sz + 0, .inl (E.2 0, 12, .inl (fun _ => 0))), (sz + 1, .inl (E.2 0, 12, .inl (fun _ => 0))), (sz + 2, .inl (E.2 0, 12, .inl (fun _ => 0))), (sz + 3, .inl (E.2 0, 12, .inl (fun _ => 0)))] := hD
  refine lv_aload_n hx hb dX2_init_51 rfl (lv_at hl 0 rfl) ?_
  refine lv_bipush (v := 12) hx hb dX2_init_52 (by decide) ?_
  refine kNewa (atype := .int) (N' := 12) (a0 := (12, .inl (fun _ => 0))) (sz := sz + 4) hx hb (hts (.arrayClass .int) (by decide +kernel)) (kcI hK) hP hD hS hA (fun _ => rfl) hz (by decide) (by decide +kernel) (by decide) (Nat.le_of_ble_eq_true rfl) (Nat.le_of_ble_eq_true rfl) dX2_init_54 (fun H hP hD hS hz ho => ?_)
  have hz : H.size = sz + 5 := hz
  have hP : va_P E.1 vwCl [(h0, .inr (1, [.int 1, .int 0, .int 0, .ref (sz + 0), .ref (sz + 1), .ref (sz + 2), .ref (sz + 3), .null, .null, .null])), (sz + 0, .inl (E.2 0, 12, .inl (fun _ => 0))), (sz + 1, .inl (E.2 0, 12, .inl (fun _ => 0))), (sz + 2, .inl (E.2 0, 12, .inl (fun _ => 0))), (sz + 3, .inl (E.2 0, 12, .inl (fun _ => 0))), (sz + 4, .inl (E.2 0, 12, .inl (fun _ => 0)))] H := hP
  have hD : va_D (kFr h0 sz) [(h0, .inr (1, [.int 1, .int 0, .int 0, .ref (sz + 0), .ref (sz + 1), .ref (sz + 2), .ref (sz + 3), .null, .null, .null])), (sz + 0, .inl (E.2 0, 12, .inl (fun _ => 0))), (sz + 1, .inl (E.2 0, 12, .inl (fun _ => 0))), (sz + 2, .inl (E.2 0, 12, .inl (fun _ => 0))), (sz + 3, .inl (E.2 0, 12, .inl (fun _ => 0))), (sz + 4, .inl (E.2 0, 12, .inl (fun _ => 0)))] := hD
  refine kPutF (D := E.1) (ci := 1) (v := .ref (sz + 4)) (ty := .array .int) (C := RX2) (T := TX2) (N := 10) hx hb hts hi tyX2 tyX2_ok nmX2 hown hK.1 hP hD hS 0 rfl rfl 7 (by decide) (hts (.fieldLink RX2 34 "SkewEdges$Ledger" "writtenKeys" "[I") (by decide +kernel)) (fun _ h9 => h9) rfl hin rfl (by decide +kernel) rfl rfl (Nat.le_of_ble_eq_true rfl) dX2_init_56 (fun H locs hP hD hS hz1 ho => ?_)
  have hz : H.size = sz + 5 := hz1.trans hz
  have hP : va_P E.1 vwCl [(h0, .inr (1, [.int 1, .int 0, .int 0, .ref (sz + 0), .ref (sz + 1), .ref (sz + 2), .ref (sz + 3), .ref (sz + 4), .null, .null])), (sz + 0, .inl (E.2 0, 12, .inl (fun _ => 0))), (sz + 1, .inl (E.2 0, 12, .inl (fun _ => 0))), (sz + 2, .inl (E.2 0, 12, .inl (fun _ => 0))), (sz + 3, .inl (E.2 0, 12, .inl (fun _ => 0))), (sz + 4, .inl (E.2 0, 12, .inl (fun _ => 0)))] H := hP
  have hD : va_D (kFr h0 sz) [(h0, .inr (1, [.int 1, .int 0, .int 0, .ref (sz + 0), .ref (sz + 1), .ref (sz + 2), .ref (sz + 3), .ref (sz + 4), .null, .null])), (sz + 0, .inl (E.2 0, 12, .inl (fun _ => 0))), (sz + 1, .inl (E.2 0, 12, .inl (fun _ => 0))), (sz + 2, .inl (E.2 0, 12, .inl (fun _ => 0))), (sz + 3, .inl (E.2 0, 12, .inl (fun _ => 0))), (sz + 4, .inl (E.2 0, 12, .inl (fun _ => 0)))] := hD
  refine lv_aload_n hx hb dX2_init_59 rfl (lv_at hl 0 rfl) ?_
  refine lv_bipush (v := 12) hx hb dX2_init_60 (by decide) ?_
  refine kNewa (atype := .int) (N' := 12) (a0 := (12, .inl (fun _ => 0))) (sz := sz + 5) hx hb (hts (.arrayClass .int) (by decide +kernel)) (kcI hK) hP hD hS hA (fun _ => rfl) hz (by decide) (by decide +kernel) (by decide) (Nat.le_of_ble_eq_true rfl) (Nat.le_of_ble_eq_true rfl) dX2_init_62 (fun H hP hD hS hz ho => ?_)
  have hz : H.size = sz + 6 := hz
  have hP : va_P E.1 vwCl [(h0, .inr (1, [.int 1, .int 0, .int 0, .ref (sz + 0), .ref (sz + 1), .ref (sz + 2), .ref (sz + 3), .ref (sz + 4), .null, .null])), (sz + 0, .inl (E.2 0, 12, .inl (fun _ => 0))), (sz + 1, .inl (E.2 0, 12, .inl (fun _ => 0))), (sz + 2, .inl (E.2 0, 12, .inl (fun _ => 0))), (sz + 3, .inl (E.2 0, 12, .inl (fun _ => 0))), (sz + 4, .inl (E.2 0, 12, .inl (fun _ => 0))), (sz + 5, .inl (E.2 0, 12, .inl (fun _ => 0)))] H := hP
  have hD : va_D (kFr h0 sz) [(h0, .inr (1, [.int 1, .int 0, .int 0, .ref (sz + 0), .ref (sz + 1), .ref (sz + 2), .ref (sz + 3), .ref (sz + 4), .null, .null])), (sz + 0, .inl (E.2 0, 12, .inl (fun _ => 0))), (sz + 1, .inl (E.2 0, 12, .inl (fun _ => 0))), (sz + 2, .inl (E.2 0, 12, .inl (fun _ => 0))), (sz + 3, .inl (E.2 0, 12, .inl (fun _ => 0))), (sz + 4, .inl (E.2 0, 12, .inl (fun _ => 0))), (sz + 5, .inl (E.2 0, 12, .inl (fun _ => 0)))] := hD
  refine kPutF (D := E.1) (ci := 1) (v := .ref (sz + 5)) (ty := .array .int) (C := RX2) (T := TX2) (N := 10) hx hb hts hi tyX2 tyX2_ok nmX2 hown hK.1 hP hD hS 0 rfl rfl 8 (by decide) (hts (.fieldLink RX2 37 "SkewEdges$Ledger" "reason" "[I") (by decide +kernel)) (fun _ h9 => h9) rfl hin rfl (by decide +kernel) rfl rfl (Nat.le_of_ble_eq_true rfl) dX2_init_64 (fun H locs hP hD hS hz1 ho => ?_)
  have hz : H.size = sz + 6 := hz1.trans hz
  have hP : va_P E.1 vwCl [(h0, .inr (1, [.int 1, .int 0, .int 0, .ref (sz + 0), .ref (sz + 1), .ref (sz + 2), .ref (sz + 3), .ref (sz + 4), .ref (sz + 5), .null])), (sz + 0, .inl (E.2 0, 12, .inl (fun _ => 0))), (sz + 1, .inl (E.2 0, 12, .inl (fun _ => 0))), (sz + 2, .inl (E.2 0, 12, .inl (fun _ => 0))), (sz + 3, .inl (E.2 0, 12, .inl (fun _ => 0))), (sz + 4, .inl (E.2 0, 12, .inl (fun _ => 0))), (sz + 5, .inl (E.2 0, 12, .inl (fun _ => 0)))] H := hP
  have hD : va_D (kFr h0 sz) [(h0, .inr (1, [.int 1, .int 0, .int 0, .ref (sz + 0), .ref (sz + 1), .ref (sz + 2), .ref (sz + 3), .ref (sz + 4), .ref (sz + 5), .null])), (sz + 0, .inl (E.2 0, 12, .inl (fun _ => 0))), (sz + 1, .inl (E.2 0, 12, .inl (fun _ => 0))), (sz + 2, .inl (E.2 0, 12, .inl (fun _ => 0))), (sz + 3, .inl (E.2 0, 12, .inl (fun _ => 0))), (sz + 4, .inl (E.2 0, 12, .inl (fun _ => 0))), (sz + 5, .inl (E.2 0, 12, .inl (fun _ => 0)))] := hD
  refine lv_aload_n hx hb dX2_init_67 rfl (lv_at hl 0 rfl) ?_
  refine lv_sipush (v := 192) hx hb dX2_init_68 (by decide) ?_
  refine kNewa (atype := .int) (N' := 192) (a0 := (192, .inl (fun _ => 0))) (sz := sz + 6) hx hb (hts (.arrayClass .int) (by decide +kernel)) (kcI hK) hP hD hS hA (fun _ => rfl) hz (by decide) (by decide +kernel) (by decide) (Nat.le_of_ble_eq_true rfl) (Nat.le_of_ble_eq_true rfl) dX2_init_71 (fun H hP hD hS hz ho => ?_)
  have hz : H.size = sz + 7 := hz
  have hP : va_P E.1 vwCl [(h0, .inr (1, [.int 1, .int 0, .int 0, .ref (sz + 0), .ref (sz + 1), .ref (sz + 2), .ref (sz + 3), .ref (sz + 4), .ref (sz + 5), .null])), (sz + 0, .inl (E.2 0, 12, .inl (fun _ => 0))), (sz + 1, .inl (E.2 0, 12, .inl (fun _ => 0))), (sz + 2, .inl (E.2 0, 12, .inl (fun _ => 0))), (sz + 3, .inl (E.2 0, 12, .inl (fun _ => 0))), (sz + 4, .inl (E.2 0, 12, .inl (fun _ => 0))), (sz + 5, .inl (E.2 0, 12, .inl (fun _ => 0))), (sz + 6, .inl (E.2 0, 192, .inl (fun _ => 0)))] H := hP
  have hD : va_D (kFr h0 sz) [(h0, .inr (1, [.int 1, .int 0, .int 0, .ref (sz + 0), .ref (sz + 1), .ref (sz + 2), .ref (sz + 3), .ref (sz + 4), .ref (sz + 5), .null])), (sz + 0, .inl (E.2 0, 12, .inl (fun _ => 0))), (sz + 1, .inl (E.2 0, 12, .inl (fun _ => 0))), (sz + 2, .inl (E.2 0, 12, .inl (fun _ => 0))), (sz + 3, .inl (E.2 0, 12, .inl (fun _ => 0))), (sz + 4, .inl (E.2 0, 12, .inl (fun _ => 0))), (sz + 5, .inl (E.2 0, 12, .inl (fun _ => 0))), (sz + 6, .inl (E.2 0, 192, .inl (fun _ => 0)))] := hD
  refine kPutF (D := E.1) (ci := 1) (v := .ref (sz + 6)) (ty := .array .int) (C := RX2) (T := TX2) (N := 10) hx hb hts hi tyX2 tyX2_ok nmX2 hown hK.1 hP hD hS 0 rfl rfl 9 (by decide) (hts (.fieldLink RX2 40 "SkewEdges$Ledger" "values" "[I") (by decide +kernel)) (fun _ h9 => h9) rfl hin rfl (by decide +kernel) rfl rfl (Nat.le_of_ble_eq_true rfl) dX2_init_73 (fun H locs hP hD hS hz1 ho => ?_)
  have hz : H.size = sz + 7 := hz1.trans hz
  have hP : va_P E.1 vwCl [(h0, .inr (1, [.int 1, .int 0, .int 0, .ref (sz + 0), .ref (sz + 1), .ref (sz + 2), .ref (sz + 3), .ref (sz + 4), .ref (sz + 5), .ref (sz + 6)])), (sz + 0, .inl (E.2 0, 12, .inl (fun _ => 0))), (sz + 1, .inl (E.2 0, 12, .inl (fun _ => 0))), (sz + 2, .inl (E.2 0, 12, .inl (fun _ => 0))), (sz + 3, .inl (E.2 0, 12, .inl (fun _ => 0))), (sz + 4, .inl (E.2 0, 12, .inl (fun _ => 0))), (sz + 5, .inl (E.2 0, 12, .inl (fun _ => 0))), (sz + 6, .inl (E.2 0, 192, .inl (fun _ => 0)))] H := hP
  have hD : va_D (kFr h0 sz) [(h0, .inr (1, [.int 1, .int 0, .int 0, .ref (sz + 0), .ref (sz + 1), .ref (sz + 2), .ref (sz + 3), .ref (sz + 4), .ref (sz + 5), .ref (sz + 6)])), (sz + 0, .inl (E.2 0, 12, .inl (fun _ => 0))), (sz + 1, .inl (E.2 0, 12, .inl (fun _ => 0))), (sz + 2, .inl (E.2 0, 12, .inl (fun _ => 0))), (sz + 3, .inl (E.2 0, 12, .inl (fun _ => 0))), (sz + 4, .inl (E.2 0, 12, .inl (fun _ => 0))), (sz + 5, .inl (E.2 0, 12, .inl (fun _ => 0))), (sz + 6, .inl (E.2 0, 192, .inl (fun _ => 0)))] := hD
  refine W.widen (k := 7) (n := 264) (Nat.le_of_ble_eq_true rfl) (Nat.le_of_ble_eq_true rfl) ?_
  exact W.vret hx hb hr (fun t ht hW => kS_C hS hsz ht hP hz) hS.2.2 dX2_init_76
set_option maxHeartbeats 1000000 in
set_option maxRecDepth 100000 in
theorem c_X3_init (l : Launch) (E : kE) (h0 sz : Nat) (hlt : h0 < sz) : Met l yX3_init wsX3_init ({ frames := 1, cells := 1, slots := 80, locals := 12 }) (kPreC E [.ref h0] sz [(h0, .inr (2, [.int 0, .int 0, .int 0, .int 0, .int 0, .int 0, .int 0, .null]))]) (kCv E (wPad E (lA h0 sz) kZ0) h0 sz (sz + 1)) 1 80 (kFr h0 sz) := by
  refine Met.ofW (cc := cX3_init) (maxL := 1) (ret := none) (by decide) rfl ?_
  intro p e s m args below meth c s₁ B hml hv
  obtain ⟨rfl, hK, hO, hsz, hP⟩ := hv
  have hx := B.exec
  have hb := B.bytes
  have hr := B.returns
  have hts := atoms_spec (ws := wsX3_init) B.pre
  have hown : s.vm.findClass RX3 = some m.cls := findClass_of_methodNamed B.named
  have hlocks := B.notSynchronized
  have hin : meth.name = "<init>" := (name_of_methodNamed B.named B.method).1
  have hA : ∀ q : Nat, s.heap.size ≤ q → kFr h0 sz q := fun q h => Or.inr (by rw [← hsz]; exact h)
  have hS : va_S (kFr h0 sz) s.heap s.heap [] := va_S.rf
  have hi : ∀ w ∈ wsX30, w ∈ wsX3_init := by decide +kernel
  have hz : s.heap.size = sz + 0 := hsz
  have hP : va_P E.1 vwCl [(h0, .inr (2, [.int 0, .int 0, .int 0, .int 0, .int 0, .int 0, .int 0, .null]))] s.heap := hP
  have hD : va_D (kFr h0 sz) [(h0, .inr (2, [.int 0, .int 0, .int 0, .int 0, .int 0, .int 0, .int 0, .null]))] := kD1 (Or.inl rfl)
  have hl := lv_entry ([.ref h0]) (n := 1) (Nat.le_of_ble_eq_true rfl)
  rw [lg_entry_eq]
  generalize (lg_sl ([.ref h0]) ++ List.replicate (1 - (lg_sl ([.ref h0])).length) Slot.unset).toArray = ls at hl ⊢
  have hl : lv_has ls 1 [(0, .ref h0)] := hl
  refine lv_aload_n hx hb dX3_init_0 rfl (lv_at hl 0 rfl) ?_
  refine W.objInit hx hb hown (hts (.methodLink RX3 3 objectInit) (by decide +kernel)) (hts (.instanceMethod objectInit) (by decide +kernel)) (hts _ (List.mem_cons_of_mem _ (List.mem_append_left _ (List.mem_of_getElem? (i := 2) rfl)))) rfl (by rw [hml]; exact hl.1) rfl dX3_init_1 (Nat.le_of_ble_eq_true rfl) (Nat.le_of_ble_eq_true rfl) ?_
  refine W.eq (g2 := F0 m 4 ls []) rfl ?_
  refine lv_aload_n hx hb dX3_init_4 rfl (lv_at hl 0 rfl) ?_
  refine lv_bipush (v := 80) hx hb dX3_init_5 (by decide) ?_
  refine kNewa (atype := .char) (N' := 80) (a0 := (80, .inl (fun _ => 0))) (sz := sz + 0) hx hb (hts (.arrayClass .char) (by decide +kernel)) (kcC hK) hP hD hS hA (fun _ => rfl) hz (by decide) (by decide +kernel) (by decide) (Nat.le_of_ble_eq_true rfl) (Nat.le_of_ble_eq_true rfl) dX3_init_7 (fun H hP hD hS hz ho => ?_)
  have hz : H.size = sz + 1 := hz
  have hP : va_P E.1 vwCl [(h0, .inr (2, [.int 0, .int 0, .int 0, .int 0, .int 0, .int 0, .int 0, .null])), (sz + 0, .inl (E.2 2, 80, .inl (fun _ => 0)))] H := hP
  have hD : va_D (kFr h0 sz) [(h0, .inr (2, [.int 0, .int 0, .int 0, .int 0, .int 0, .int 0, .int 0, .null])), (sz + 0, .inl (E.2 2, 80, .inl (fun _ => 0)))] := hD
  refine kPutF (D := E.1) (ci := 2) (v := .ref (sz + 0)) (ty := .array .char) (C := RX3) (T := TX3) (N := 8) hx hb hts hi tyX3 tyX3_ok nmX3 hown hK.1 hP hD hS 0 rfl rfl 7 (by decide) (hts (.fieldLink RX3 9 "SkewEdges$Pad" "signs" "[C") (by decide +kernel)) (fun _ h9 => h9) rfl hin rfl (by decide +kernel) rfl rfl (Nat.le_of_ble_eq_true rfl) dX3_init_9 (fun H locs hP hD hS hz1 ho => ?_)
  have hz : H.size = sz + 1 := hz1.trans hz
  have hP : va_P E.1 vwCl [(h0, .inr (2, [.int 0, .int 0, .int 0, .int 0, .int 0, .int 0, .int 0, .ref (sz + 0)])), (sz + 0, .inl (E.2 2, 80, .inl (fun _ => 0)))] H := hP
  have hD : va_D (kFr h0 sz) [(h0, .inr (2, [.int 0, .int 0, .int 0, .int 0, .int 0, .int 0, .int 0, .ref (sz + 0)])), (sz + 0, .inl (E.2 2, 80, .inl (fun _ => 0)))] := hD
  refine W.widen (k := 1) (n := 80) (Nat.le_of_ble_eq_true rfl) (Nat.le_of_ble_eq_true rfl) ?_
  exact W.vret hx hb hr (fun t ht hW => kS_C hS hsz ht hP hz) hS.2.2 dX3_init_12
set_option maxHeartbeats 1000000 in
set_option maxRecDepth 100000 in
theorem c_X4_init (l : Launch) (E : kE) (h0 sz : Nat) (hlt : h0 < sz) : Met l yX4_init wsX4_init ({ frames := 1, cells := 2, slots := 24, locals := 12 }) (kPreC E [.ref h0] sz [(h0, .inr (3, [.null, .null]))]) (kCv E (wSeq E (lA h0 sz) kZ0) h0 sz (sz + 2)) 2 24 (kFr h0 sz) := by
  refine Met.ofW (cc := cX4_init) (maxL := 1) (ret := none) (by decide) rfl ?_
  intro p e s m args below meth c s₁ B hml hv
  obtain ⟨rfl, hK, hO, hsz, hP⟩ := hv
  have hx := B.exec
  have hb := B.bytes
  have hr := B.returns
  have hts := atoms_spec (ws := wsX4_init) B.pre
  have hown : s.vm.findClass RX4 = some m.cls := findClass_of_methodNamed B.named
  have hlocks := B.notSynchronized
  have hin : meth.name = "<init>" := (name_of_methodNamed B.named B.method).1
  have hA : ∀ q : Nat, s.heap.size ≤ q → kFr h0 sz q := fun q h => Or.inr (by rw [← hsz]; exact h)
  have hS : va_S (kFr h0 sz) s.heap s.heap [] := va_S.rf
  have hi : ∀ w ∈ wsX40, w ∈ wsX4_init := by decide +kernel
  have hz : s.heap.size = sz + 0 := hsz
  have hP : va_P E.1 vwCl [(h0, .inr (3, [.null, .null]))] s.heap := hP
  have hD : va_D (kFr h0 sz) [(h0, .inr (3, [.null, .null]))] := kD1 (Or.inl rfl)
  have hl := lv_entry ([.ref h0]) (n := 1) (Nat.le_of_ble_eq_true rfl)
  rw [lg_entry_eq]
  generalize (lg_sl ([.ref h0]) ++ List.replicate (1 - (lg_sl ([.ref h0])).length) Slot.unset).toArray = ls at hl ⊢
  have hl : lv_has ls 1 [(0, .ref h0)] := hl
  refine lv_aload_n hx hb dX4_init_0 rfl (lv_at hl 0 rfl) ?_
  refine W.objInit hx hb hown (hts (.methodLink RX4 3 objectInit) (by decide +kernel)) (hts (.instanceMethod objectInit) (by decide +kernel)) (hts _ (List.mem_cons_of_mem _ (List.mem_append_left _ (List.mem_of_getElem? (i := 2) rfl)))) rfl (by rw [hml]; exact hl.1) rfl dX4_init_1 (Nat.le_of_ble_eq_true rfl) (Nat.le_of_ble_eq_true rfl) ?_
  refine W.eq (g2 := F0 m 4 ls []) rfl ?_
  refine lv_aload_n hx hb dX4_init_4 rfl (lv_at hl 0 rfl) ?_
  refine lv_bipush (v := 12) hx hb dX4_init_5 (by decide) ?_
  refine kNewa (atype := .int) (N' := 12) (a0 := (12, .inl (fun _ => 0))) (sz := sz + 0) hx hb (hts (.arrayClass .int) (by decide +kernel)) (kcI hK) hP hD hS hA (fun _ => rfl) hz (by decide) (by decide +kernel) (by decide) (Nat.le_of_ble_eq_true rfl) (Nat.le_of_ble_eq_true rfl) dX4_init_7 (fun H hP hD hS hz ho => ?_)
  have hz : H.size = sz + 1 := hz
  have hP : va_P E.1 vwCl [(h0, .inr (3, [.null, .null])), (sz + 0, .inl (E.2 0, 12, .inl (fun _ => 0)))] H := hP
  have hD : va_D (kFr h0 sz) [(h0, .inr (3, [.null, .null])), (sz + 0, .inl (E.2 0, 12, .inl (fun _ => 0)))] := hD
  refine kPutF (D := E.1) (ci := 3) (v := .ref (sz + 0)) (ty := .array .int) (C := RX4) (T := TX4) (N := 2) hx hb hts hi tyX4 tyX4_ok nmX4 hown hK.1 hP hD hS 0 rfl rfl 0 (by decide) (hts (.fieldLink RX4 9 "SkewEdges$Sequence" "ahead" "[I") (by decide +kernel)) (fun _ h9 => h9) rfl hin rfl (by decide +kernel) rfl rfl (Nat.le_of_ble_eq_true rfl) dX4_init_9 (fun H locs hP hD hS hz1 ho => ?_)
  have hz : H.size = sz + 1 := hz1.trans hz
  have hP : va_P E.1 vwCl [(h0, .inr (3, [.ref (sz + 0), .null])), (sz + 0, .inl (E.2 0, 12, .inl (fun _ => 0)))] H := hP
  have hD : va_D (kFr h0 sz) [(h0, .inr (3, [.ref (sz + 0), .null])), (sz + 0, .inl (E.2 0, 12, .inl (fun _ => 0)))] := hD
  refine lv_aload_n hx hb dX4_init_12 rfl (lv_at hl 0 rfl) ?_
  refine lv_bipush (v := 12) hx hb dX4_init_13 (by decide) ?_
  refine kNewa (atype := .int) (N' := 12) (a0 := (12, .inl (fun _ => 0))) (sz := sz + 1) hx hb (hts (.arrayClass .int) (by decide +kernel)) (kcI hK) hP hD hS hA (fun _ => rfl) hz (by decide) (by decide +kernel) (by decide) (Nat.le_of_ble_eq_true rfl) (Nat.le_of_ble_eq_true rfl) dX4_init_15 (fun H hP hD hS hz ho => ?_)
  have hz : H.size = sz + 2 := hz
  have hP : va_P E.1 vwCl [(h0, .inr (3, [.ref (sz + 0), .null])), (sz + 0, .inl (E.2 0, 12, .inl (fun _ => 0))), (sz + 1, .inl (E.2 0, 12, .inl (fun _ => 0)))] H := hP
  have hD : va_D (kFr h0 sz) [(h0, .inr (3, [.ref (sz + 0), .null])), (sz + 0, .inl (E.2 0, 12, .inl (fun _ => 0))), (sz + 1, .inl (E.2 0, 12, .inl (fun _ => 0)))] := hD
  refine kPutF (D := E.1) (ci := 3) (v := .ref (sz + 1)) (ty := .array .int) (C := RX4) (T := TX4) (N := 2) hx hb hts hi tyX4 tyX4_ok nmX4 hown hK.1 hP hD hS 0 rfl rfl 1 (by decide) (hts (.fieldLink RX4 15 "SkewEdges$Sequence" "places" "[I") (by decide +kernel)) (fun _ h9 => h9) rfl hin rfl (by decide +kernel) rfl rfl (Nat.le_of_ble_eq_true rfl) dX4_init_17 (fun H locs hP hD hS hz1 ho => ?_)
  have hz : H.size = sz + 2 := hz1.trans hz
  have hP : va_P E.1 vwCl [(h0, .inr (3, [.ref (sz + 0), .ref (sz + 1)])), (sz + 0, .inl (E.2 0, 12, .inl (fun _ => 0))), (sz + 1, .inl (E.2 0, 12, .inl (fun _ => 0)))] H := hP
  have hD : va_D (kFr h0 sz) [(h0, .inr (3, [.ref (sz + 0), .ref (sz + 1)])), (sz + 0, .inl (E.2 0, 12, .inl (fun _ => 0))), (sz + 1, .inl (E.2 0, 12, .inl (fun _ => 0)))] := hD
  refine W.widen (k := 2) (n := 24) (Nat.le_of_ble_eq_true rfl) (Nat.le_of_ble_eq_true rfl) ?_
  exact W.vret hx hb hr (fun t ht hW => kS_C hS hsz ht hP hz) hS.2.2 dX4_init_20