/-! the history's and the class's constructors -/
def kCP (Pw : Heap → Prop) (h0 sz sz' : Nat) : Array Value → State → Outcome → State → Prop := fun _ st oc t => oc = .returned none ∧ Pw t.heap ∧ t.heap.size = sz' ∧ ∀ q : Nat, q < sz → q ≠ h0 → t.heap[q]? = st.heap[q]?
theorem kCallP {p : Program} {l : Launch} {e : Env} {R : Room} {s : State} {m : MethodId} {args : Array Value} {below : List Frame} {meth : Method} {c : Code} {H : Heap} {locs : List Loc} {cells slots mc ms : Nat} {Q : State → Prop} {pc : Nat} {ls : Array Slot} {rest st0 : List Value} {a : Array Value} {A : Nat → Prop} {H0 : Heap} {Pw : Heap → Prop} {h0 sz sz' : Nat}
    (hr : va_Run p l e R s m args below meth c H locs cells slots mc ms (F0 m pc ls st0) rest (kCP Pw h0 sz sz' a) (kFr h0 sz)) (hS : va_S A H0 H locs) (hA : ∀ q, kFr h0 sz q → A q) (hz : H.size = sz) (hle : sz ≤ sz')
    (kk : ∀ (H1 : Heap) (locs1 : List Loc), Pw H1 → H1.size = sz' → (∀ q : Nat, q < sz → q ≠ h0 → H1[q]? = H[q]?) → va_S A H0 H1 locs1 → W p l e R s m args below meth c H1 locs1 (cells + mc) (slots + ms) Q (F0 m (pc + 3) ls rest)) : W p l e R s m args below meth c H locs cells slots Q (F0 m pc ls st0) := by
  intro T hT X
  obtain ⟨v, st₀, t, T', L, g0, X', hL, e1, e2, ⟨hv, hp, hz', hk⟩, st⟩ := hr T hT X
  cases hv
  rw [g0] at hk
  obtain ⟨t2, a1, b1⟩ := kk T'.heap (locs ++ L) (by rw [e1]; exact hp) (by rw [e1]; exact hz') (fun q h1 h2 => by rw [e1]; exact hk q h1 h2)
    ⟨Nat.le_trans hS.1 (by rw [e1, hz', hz]; exact hle), fun q h1 h2 => by rw [e1, hk q (by have := hS.1; omega) (fun z => h2 (hA q (Or.inl z)))]; exact hS.2.1 q h1 h2, fun q hq => by
      rcases List.mem_append.mp hq with h | h
      · exact hS.2.2 q h
      · exact hA _ (hL q h)⟩ T' rfl X'
  exact ⟨t2, st t2 a1, b1⟩
theorem kS_P {h0 sz sz' : Nat} {s t : State} {H : Heap} {locs : List Loc} {Pw : Heap → Prop} {a : Array Value} (hS : va_S (kFr h0 sz) s.heap H locs) (hz : s.heap.size = sz) (ht : t.heap = H) (hP : Pw H) (hz' : H.size = sz') : kCP Pw h0 sz sz' a s (.returned none) t := ⟨rfl, by rw [ht]; exact hP, by rw [ht]; exact hz', fun q h1 h2 => by rw [ht]; exact hS.2.1 q (by omega) (fun z => z.elim h2 (fun z => by omega))⟩
/-- a new history at h0, its rows at sz -/
def PH (E : kE) (h0 sz : Nat) (H : Heap) : Prop := va_P E.1 vwCl [(h0, .inr (0, [.int 0, .int 0, .ref sz]))] H ∧ va_P E.1 vwCl [(sz, .inl (E.2 3, 7, .inr (.inr (.inr (.inr (fun i => some (sz + 1 + 8 * i)))))))] H ∧ ∀ i, i < 7 → va_P E.1 vwCl (wLed E (lA (sz + 1 + 8 * i) (sz + 1 + 8 * i + 1)) kZ1) H
set_option maxHeartbeats 2000000 in
set_option maxRecDepth 100000 in
theorem c_X1_init (l : Launch) (E : kE) (h0 sz : Nat) (hlt : h0 < sz) : Met l yX1_init wsX1_init ({ frames := 2, cells := 57, slots := 1925, locals := 32 }) (kPreC E [.ref h0] sz [(h0, .inr (0, [.int 0, .int 0, .null]))]) (kCP (PH E h0 sz) h0 sz (sz + 57)) 57 1925 (kFr h0 sz) := by
  refine Met.ofW (cc := cX1_init) (maxL := 2) (ret := none) (by decide) rfl ?_
  intro p e s m args below meth c s₁ B hml hv
  obtain ⟨rfl, hK, hO, hsz, hP⟩ := hv
  have hx := B.exec
  have hb := B.bytes
  have hr := B.returns
  have hts := atoms_spec (ws := wsX1_init) B.pre
  have hown : s.vm.findClass RX1 = some m.cls := findClass_of_methodNamed B.named
  have hlocks := B.notSynchronized
  have hin : meth.name = "<init>" := (name_of_methodNamed B.named B.method).1
  have hA : ∀ q : Nat, s.heap.size ≤ q → kFr h0 sz q := fun q h => Or.inr (by rw [← hsz]; exact h)
  have hS : va_S (kFr h0 sz) s.heap s.heap [] := va_S.rf
  have hi : ∀ w ∈ wsX10, w ∈ wsX1_init := by decide +kernel
  have hz : s.heap.size = sz + 0 := hsz
  have hP : va_P E.1 vwCl [(h0, .inr (0, [.int 0, .int 0, .null]))] s.heap := hP
  have hl := lv_entry ([.ref h0]) (n := 2) (Nat.le_of_ble_eq_true rfl)
  rw [lg_entry_eq]
  generalize (lg_sl ([.ref h0]) ++ List.replicate (2 - (lg_sl ([.ref h0])).length) Slot.unset).toArray = ls at hl ⊢
  have hl : lv_has ls 2 [(0, .ref h0)] := hl
  refine lv_aload_n hx hb dX1_init_0 rfl (lv_at hl 0 rfl) ?_
  refine W.objInit hx hb hown (hts (.methodLink RX1 3 objectInit) (by decide +kernel)) (hts (.instanceMethod objectInit) (by decide +kernel)) (hts (.code objectInit ⟨#[0xb1]⟩ 1 none) (List.mem_cons_of_mem _ (List.mem_append_left _ (List.mem_append_left _ (List.mem_of_getElem? (i := 2) rfl))))) rfl (by rw [hml]; exact hl.1) rfl dX1_init_1 (Nat.le_of_ble_eq_true rfl) (Nat.le_of_ble_eq_true rfl) ?_
  refine W.eq (g2 := F0 m 4 ls []) rfl ?_
  refine lv_aload_n hx hb dX1_init_4 rfl (lv_at hl 0 rfl) ?_
  refine lv_iconst (v := 0) hx hb dX1_init_5 (by decide) ?_
  refine kPut (D := E.1) (A := kFr h0 sz) (ci := 0) (v := .int 0) (ty := .int) (C := RX1) (T := TX1) (N := 3) hx hb hts hi tyX1 tyX1_ok nmX1 hown hK.1 hP (kD1 (Or.inl rfl)) hS 0 rfl rfl 0 (by decide) (hts (.fieldLink RX1 9 "SkewEdges$History" "kept" "I") (by decide +kernel)) (fun _ h9 => h9) rfl (by decide +kernel) rfl rfl (Nat.le_of_ble_eq_true rfl) dX1_init_6 (fun H locs hP _ hS hz1 ho => ?_)
  have hz : H.size = sz + 0 := hz1.trans hz
  have hP : va_P E.1 vwCl [(h0, .inr (0, [.int 0, .int 0, .null]))] H := hP
  refine lv_aload_n hx hb dX1_init_9 rfl (lv_at hl 0 rfl) ?_
  refine lv_iconst (v := 0) hx hb dX1_init_10 (by decide) ?_
  refine kPut (D := E.1) (A := kFr h0 sz) (ci := 0) (v := .int 0) (ty := .int) (C := RX1) (T := TX1) (N := 3) hx hb hts hi tyX1 tyX1_ok nmX1 hown hK.1 hP (kD1 (Or.inl rfl)) hS 0 rfl rfl 1 (by decide) (hts (.fieldLink RX1 15 "SkewEdges$History" "next" "I") (by decide +kernel)) (fun _ h9 => h9) rfl (by decide +kernel) rfl rfl (Nat.le_of_ble_eq_true rfl) dX1_init_11 (fun H locs hP _ hS hz1 ho => ?_)
  have hz : H.size = sz + 0 := hz1.trans hz
  have hP : va_P E.1 vwCl [(h0, .inr (0, [.int 0, .int 0, .null]))] H := hP
  refine lv_aload_n hx hb dX1_init_14 rfl (lv_at hl 0 rfl) ?_
  refine lv_bipush (v := 7) hx hb dX1_init_15 (by decide) ?_
  refine kNewq (N' := 7) (sz := sz) (A := kFr h0 sz) hx hb hown (hts (.classLink RX1 18 RX2) (by decide +kernel)) hO (kcL hK) hP (kD1 (Or.inl rfl)) hS hA hz (by decide) (by decide +kernel) (by decide) (Nat.le_of_ble_eq_true rfl) (Nat.le_of_ble_eq_true rfl) dX1_init_17 (fun H hP hD hS hz ho => ?_)
  have hPr : va_P E.1 vwCl [(sz, .inl (E.2 3, 7, .inr (.inr (.inr (.inr (fun _ => none))))))] H := hP.sub [1] rfl
  have hP : va_P E.1 vwCl [(h0, .inr (0, [.int 0, .int 0, .null]))] H := hP.sub [0] rfl
  refine kPutF (D := E.1) (A := kFr h0 sz) (ci := 0) (v := .ref sz) (ty := .array (.object "SkewEdges$Ledger")) (C := RX1) (T := TX1) (N := 3) hx hb hts hi tyX1 tyX1_ok nmX1 hown hK.1 hP (kD1 (Or.inl rfl)) hS 0 rfl rfl 2 (by decide) (hts (.fieldLink RX1 20 "SkewEdges$History" "rows" "[LSkewEdges$Ledger;") (by decide +kernel)) (fun _ h9 => h9) rfl hin rfl (by decide +kernel) rfl rfl (Nat.le_of_ble_eq_true rfl) dX1_init_20 (fun H locs hP _ hS hz1 ho => ?_)
  have hz : H.size = sz + 1 := hz1.trans hz
  have hP : va_P E.1 vwCl [(h0, .inr (0, [.int 0, .int 0, .ref sz]))] H := hP
  have hPr := kP1 hPr (ho sz (by omega))
  refine lv_iconst (v := 0) hx hb dX1_init_23 (by decide) ?_
  refine lv_istore_n (lv' := [(1, .int 0), (0, .ref h0)]) hx hb dX1_init_24 rfl hl (by decide) rfl (fun ls hl => ?_)
  refine X1_loop (cB := 1) (sB := 7) (h0 := h0) (sz := sz) (b0 := sz) (fs := [.int 0, .int 0, .ref sz]) rfl (by decide) (by decide) hx hb hml hts hown hK hO hsz hlt (Nat.le_refl _) rfl hP (fun H2 locs2 ls2 hz2 hf2 hP2 hL2 hS2 hl2 => ?_) 8 0 (by omega) (by omega) H locs ls (fun _ => none) hz (fun _ _ => rfl) hPr (fun i hi => absurd hi (Nat.not_lt_zero i)) (fun i hi => absurd hi (Nat.not_lt_zero i)) hS (lv_sub hl [1, 0] rfl)
  exact W.vret hx hb hr (fun t ht hW => kS_P hS2 hsz ht ⟨kP1 hP (hf2 h0 (by omega)), hP2, hL2⟩ (by rw [hz2])) hS2.2.2 dX1_init_50
/-- a new object at h0, all that is its own from sz on -/
def P1 (E : kE) (sz : Nat) (H : Heap) : Prop := va_P E.1 vwCl (wLed E (lA (sz + 0) (sz + 0 + 1)) kZ1) H
def P2 (E : kE) (sz : Nat) (H : Heap) : Prop := P1 E sz H ∧ PH E (sz + 8) (sz + 9) H
def P3 (E : kE) (sz : Nat) (H : Heap) : Prop := P2 E sz H ∧ va_P E.1 vwCl [(sz + 66, .inl (E.2 3, 2, .inr (.inr (.inr (.inr (fun i => some (sz + 66 + 1 + 8 * i)))))))] H ∧ ∀ i, i < 2 → va_P E.1 vwCl (wLed E (lA (sz + 66 + 1 + 8 * i) (sz + 66 + 1 + 8 * i + 1)) kZ1) H
def P4 (E : kE) (sz : Nat) (H : Heap) : Prop := P3 E sz H ∧ va_P E.1 vwCl [(sz + 83, .inl (E.2 1, 2, .inl (fun _ => 0)))] H
def P5 (E : kE) (sz : Nat) (H : Heap) : Prop := P4 E sz H ∧ va_P E.1 vwCl (wPad E (lA (sz + 84) (sz + 84 + 1)) kZ0) H
def P6 (E : kE) (sz : Nat) (H : Heap) : Prop := P5 E sz H ∧ va_P E.1 vwCl (wSeq E (lA (sz + 86) (sz + 86 + 1)) kZ0) H
def PS (E : kE) (h0 sz : Nat) (H : Heap) : Prop := va_P E.1 vwCl [(h0, .inr (4, [.ref (sz + 0), .ref (sz + 8), .ref (sz + 66), .ref (sz + 83), .ref (sz + 84), .ref (sz + 86)]))] H ∧ P6 E sz H
section KP
variable {E : kE} {sz : Nat} {H H1 : Heap}
theorem P1.keep (h : P1 E sz H) (hk : ∀ q : Nat, sz ≤ q → q < sz + 8 → H1[q]? = H[q]?) : P1 E sz H1 := kLk h (fun q h3 h4 => hk q h3 h4)
theorem P2.keep (h : P2 E sz H) (hk : ∀ q : Nat, sz ≤ q → q < sz + 66 → H1[q]? = H[q]?) : P2 E sz H1 := ⟨h.1.keep (fun q h3 h4 => hk q h3 (by omega)), kP1 h.2.1 (hk (sz + 8) (by omega) (by omega)), kP1 h.2.2.1 (hk (sz + 9) (by omega) (by omega)), fun i hi => kLk (h.2.2.2 i hi) (fun q h3 h4 => hk q (by omega) (by omega))⟩
theorem P3.keep (h : P3 E sz H) (hk : ∀ q : Nat, sz ≤ q → q < sz + 83 → H1[q]? = H[q]?) : P3 E sz H1 := ⟨h.1.keep (fun q h3 h4 => hk q h3 (by omega)), kP1 h.2.1 (hk (sz + 66) (by omega) (by omega)), fun i hi => kLk (h.2.2 i hi) (fun q h3 h4 => hk q (by omega) (by omega))⟩
theorem P4.keep (h : P4 E sz H) (hk : ∀ q : Nat, sz ≤ q → q < sz + 84 → H1[q]? = H[q]?) : P4 E sz H1 := ⟨h.1.keep (fun q h3 h4 => hk q h3 (by omega)), kP1 h.2 (hk (sz + 83) (by omega) (by omega))⟩
theorem P5.keep (h : P5 E sz H) (hk : ∀ q : Nat, sz ≤ q → q < sz + 86 → H1[q]? = H[q]?) : P5 E sz H1 := ⟨h.1.keep (fun q h3 h4 => hk q h3 (by omega)), kKept h.2 (dPad (lA_inj (Nat.lt_succ_self _)) _ _ _ _ _ _ _ _) (fun q h3 => by have := lA_in (n := 1) h3; exact hk q (by omega) (by omega))⟩
theorem P6.keep (h : P6 E sz H) (hk : ∀ q : Nat, sz ≤ q → q < sz + 89 → H1[q]? = H[q]?) : P6 E sz H1 := ⟨h.1.keep (fun q h3 h4 => hk q h3 (by omega)), kKept h.2 (dSeq (lA_inj (Nat.lt_succ_self _)) _ _) (fun q h3 => by have := lA_in (n := 2) h3; exact hk q (by omega) (by omega))⟩
end KP
set_option maxHeartbeats 2000000 in
set_option maxRecDepth 100000 in
theorem X5_tail {p : Program} {l : Launch} {e : Env} {s : State} {m : MethodId} {args : Array Value} {below : List Frame} {meth : Method} {c : Code} {Q : State → Prop} {E : kE} {h0 sz : Nat} {H : Heap} {locs : List Loc} {ls : Array Slot} (hx : p.tables.exec = Jvm.exec) (hb : c.code = cX5_init) (hml : c.maxLocals = 2) (hts : ∀ w ∈ wsX5_init, w.before args s = true) (hown : s.vm.findClass RX5 = some m.cls) (hin : meth.name = "<init>") (hK : kK E s) (hO : va_AO RX2 s) (hsz : s.heap.size = sz) (hlt : h0 < sz)
    (hP : va_P E.1 vwCl [(h0, .inr (4, [.ref (sz + 0), .ref (sz + 8), .ref (sz + 66), .null, .null, .null]))] H) (hG : P3 E sz H) (hz : H.size = sz + 83) (hS : va_S (kFr h0 sz) s.heap H locs) (hl : lv_has ls 2 [(0, .ref h0)])
    (kk : ∀ (H : Heap) (locs : List Loc), PS E h0 sz H → H.size = sz + 89 → va_S (kFr h0 sz) s.heap H locs → W p l e ({ frames := 3, cells := 89, slots := 2868, locals := 53 } : Room) s m args below meth c H locs 89 2868 Q (F0 m 89 ls [])) : W p l e ({ frames := 3, cells := 89, slots := 2868, locals := 53 } : Room) s m args below meth c H locs 83 2752 Q (F0 m 60 ls []) := by
  have hA : ∀ q : Nat, s.heap.size ≤ q → kFr h0 sz q := fun q h => Or.inr (by rw [← hsz]; exact h)
  have hi : ∀ w ∈ wsX50, w ∈ wsX5_init := by decide +kernel
  refine lv_aload_n hx hb dX5_init_60 rfl (lv_at hl 0 rfl) ?_
  refine lv_iconst (v := 2) hx hb dX5_init_61 (by decide) ?_
  refine kNewa (atype := .boolean) (N' := 2) (a0 := (2, .inl (fun _ => 0))) (sz := sz + 83) hx hb (hts (.arrayClass .boolean) (by decide +kernel)) (kcZ hK) hP (kD1 (A := kFr h0 sz) (Or.inl rfl)) hS hA (fun _ => rfl) hz (by decide) (by decide +kernel) (by decide) (Nat.le_of_ble_eq_true rfl) (Nat.le_of_ble_eq_true rfl) dX5_init_62 (fun H hP hD hS hz ho => ?_)
  have hPz : va_P E.1 vwCl [(sz + 83, .inl (E.2 1, 2, .inl (fun _ => 0)))] H := hP.sub [1] rfl
  have hP : va_P E.1 vwCl [(h0, .inr (4, [.ref (sz + 0), .ref (sz + 8), .ref (sz + 66), .null, .null, .null]))] H := hP.sub [0] rfl
  have hG : P4 E sz H := ⟨hG.keep (fun q h3 h4 => ho q (by omega)), hPz⟩
  refine kPutF (D := E.1) (A := kFr h0 sz) (ci := 4) (v := .ref (sz + 83)) (ty := .array .boolean) (C := RX5) (T := TX5) (N := 6) hx hb hts hi tyX5 tyX5_ok nmX5 hown hK.1 hP (kD1 (Or.inl rfl)) hS 0 rfl rfl 3 (by decide) (hts (.fieldLink RX5 27 "SkewEdges" "saved" "[Z") (by decide +kernel)) (fun _ h9 => h9) rfl hin rfl (by decide +kernel) rfl rfl (Nat.le_of_ble_eq_true rfl) dX5_init_64 (fun H locs hP _ hS hz1 ho => ?_)
  have hz : H.size = sz + 84 := hz1.trans hz
  have hP : va_P E.1 vwCl [(h0, .inr (4, [.ref (sz + 0), .ref (sz + 8), .ref (sz + 66), .ref (sz + 83), .null, .null]))] H := hP
  have hG := hG.keep (fun q h3 h4 => ho q (by omega))
  refine lv_aload_n hx hb dX5_init_67 rfl (lv_at hl 0 rfl) ?_
  refine kNew (own := RX5) (ci := 2) (fs := [.int 0, .int 0, .int 0, .int 0, .int 0, .int 0, .int 0, .null]) (C := RX3) (T := TX3) (N := 8) (sz := sz + 84) (A := kFr h0 sz) (H0 := s.heap) hx hb hts (by decide +kernel) tyX3 tyX3_ok hown (hts (.classLink RX5 31 RX3) (by decide +kernel)) (hts (.instantiable RX3 8) (by decide +kernel)) (hts (.initialized RX3) (by decide +kernel)) hK.1 hP (kD1 (Or.inl rfl)) hS hA rfl (fun j hj => by
    rcases (show j = 0 ∨ j = 1 ∨ j = 2 ∨ j = 3 ∨ j = 4 ∨ j = 5 ∨ j = 6 ∨ j = 7 by omega) with rfl | rfl | rfl | rfl | rfl | rfl | rfl | rfl <;> rfl) hz (Nat.le_of_ble_eq_true rfl) (Nat.le_of_ble_eq_true rfl) dX5_init_68 (fun H hP hD hS hz ho => ?_)
  have hPn : va_P E.1 vwCl [(sz + 84, .inr (2, [.int 0, .int 0, .int 0, .int 0, .int 0, .int 0, .int 0, .null]))] H := hP.sub [1] rfl
  have hP : va_P E.1 vwCl [(h0, .inr (4, [.ref (sz + 0), .ref (sz + 8), .ref (sz + 66), .ref (sz + 83), .null, .null]))] H := hP.sub [0] rfl
  have hG := hG.keep (fun q h3 h4 => ho q (by omega))
  refine lv_dup hx hb dX5_init_71 rfl ?_
  refine kCallC (h0 := sz + 84) (sz := sz + 84 + 1) (sz' := sz + 84 + 1 + 1) (va_runI (As := []) (rest := [.ref (sz + 84), .ref h0]) ⟨hx, hb, hml, hown, hts⟩ (c_X3_init l E (sz + 84) (sz + 84 + 1) (Nat.lt_succ_self _)) (cwI 0 hts gX5_init_X3_init rfl rfl rfl (hts (.initialized RX3) (by decide +kernel)) (hts (.methodLink RX5 33 yX3_init) (by decide +kernel)) (hts (.instanceMethod yX3_init) (by decide +kernel)) rfl (by decide +kernel) ⟨Nat.le_of_ble_eq_true rfl, Nat.le_of_ble_eq_true rfl⟩) (kPreCS hK hO hz hPn) rfl rfl hl.1 rfl (lv_room (Nat.le_of_ble_eq_true rfl)) dX5_init_72 ⟨Nat.le_of_ble_eq_true rfl, Nat.le_of_ble_eq_true rfl⟩) hS (fun q hq => Or.inr (by rcases hq with e | e <;> omega)) hz (by omega) (fun H locs hPd hz ho hS => ?_)
  have hz : H.size = sz + 86 := by rw [hz]
  have hP : va_P E.1 vwCl [(h0, .inr (4, [.ref (sz + 0), .ref (sz + 8), .ref (sz + 66), .ref (sz + 83), .null, .null]))] H := kP1 hP (ho h0 (by omega) (by omega))
  have hG := hG.keep (fun q h3 h4 => ho q (by omega) (by omega))
  have hG : P5 E sz H := ⟨hG, hPd⟩
  refine kPutF (D := E.1) (A := kFr h0 sz) (ci := 4) (v := .ref (sz + 84)) (ty := .object "SkewEdges$Pad") (C := RX5) (T := TX5) (N := 6) hx hb hts hi tyX5 tyX5_ok nmX5 hown hK.1 hP (kD1 (Or.inl rfl)) hS 0 rfl rfl 4 (by decide) (hts (.fieldLink RX5 34 "SkewEdges" "pad" "LSkewEdges$Pad;") (by decide +kernel)) (fun _ h9 => h9) rfl hin rfl (by decide +kernel) rfl rfl (Nat.le_of_ble_eq_true rfl) dX5_init_75 (fun H locs hP _ hS hz1 ho => ?_)
  have hz : H.size = sz + 86 := hz1.trans hz
  have hP : va_P E.1 vwCl [(h0, .inr (4, [.ref (sz + 0), .ref (sz + 8), .ref (sz + 66), .ref (sz + 83), .ref (sz + 84), .null]))] H := hP
  have hG := hG.keep (fun q h3 h4 => ho q (by omega))
  refine lv_aload_n hx hb dX5_init_78 rfl (lv_at hl 0 rfl) ?_
  refine kNew (own := RX5) (ci := 3) (fs := [.null, .null]) (C := RX4) (T := TX4) (N := 2) (sz := sz + 86) (A := kFr h0 sz) (H0 := s.heap) hx hb hts (by decide +kernel) tyX4 tyX4_ok hown (hts (.classLink RX5 38 RX4) (by decide +kernel)) (hts (.instantiable RX4 2) (by decide +kernel)) (hts (.initialized RX4) (by decide +kernel)) hK.1 hP (kD1 (Or.inl rfl)) hS hA rfl (fun j hj => by
    rcases (show j = 0 ∨ j = 1 by omega) with rfl | rfl <;> rfl) hz (Nat.le_of_ble_eq_true rfl) (Nat.le_of_ble_eq_true rfl) dX5_init_79 (fun H hP hD hS hz ho => ?_)
  have hPn : va_P E.1 vwCl [(sz + 86, .inr (3, [.null, .null]))] H := hP.sub [1] rfl
  have hP : va_P E.1 vwCl [(h0, .inr (4, [.ref (sz + 0), .ref (sz + 8), .ref (sz + 66), .ref (sz + 83), .ref (sz + 84), .null]))] H := hP.sub [0] rfl
  have hG := hG.keep (fun q h3 h4 => ho q (by omega))
  refine lv_dup hx hb dX5_init_82 rfl ?_
  refine kCallC (h0 := sz + 86) (sz := sz + 86 + 1) (sz' := sz + 86 + 1 + 2) (va_runI (As := []) (rest := [.ref (sz + 86), .ref h0]) ⟨hx, hb, hml, hown, hts⟩ (c_X4_init l E (sz + 86) (sz + 86 + 1) (Nat.lt_succ_self _)) (cwI 0 hts gX5_init_X4_init rfl rfl rfl (hts (.initialized RX4) (by decide +kernel)) (hts (.methodLink RX5 40 yX4_init) (by decide +kernel)) (hts (.instanceMethod yX4_init) (by decide +kernel)) rfl (by decide +kernel) ⟨Nat.le_of_ble_eq_true rfl, Nat.le_of_ble_eq_true rfl⟩) (kPreCS hK hO hz hPn) rfl rfl hl.1 rfl (lv_room (Nat.le_of_ble_eq_true rfl)) dX5_init_83 ⟨Nat.le_of_ble_eq_true rfl, Nat.le_of_ble_eq_true rfl⟩) hS (fun q hq => Or.inr (by rcases hq with e | e <;> omega)) hz (by omega) (fun H locs hPq hz ho hS => ?_)
  have hz : H.size = sz + 89 := by rw [hz]
  have hP : va_P E.1 vwCl [(h0, .inr (4, [.ref (sz + 0), .ref (sz + 8), .ref (sz + 66), .ref (sz + 83), .ref (sz + 84), .null]))] H := kP1 hP (ho h0 (by omega) (by omega))
  have hG := hG.keep (fun q h3 h4 => ho q (by omega) (by omega))
  have hG : P6 E sz H := ⟨hG, hPq⟩
  refine kPutF (D := E.1) (A := kFr h0 sz) (ci := 4) (v := .ref (sz + 86)) (ty := .object "SkewEdges$Sequence") (C := RX5) (T := TX5) (N := 6) hx hb hts hi tyX5 tyX5_ok nmX5 hown hK.1 hP (kD1 (Or.inl rfl)) hS 0 rfl rfl 5 (by decide) (hts (.fieldLink RX5 41 "SkewEdges" "sequence" "LSkewEdges$Sequence;") (by decide +kernel)) (fun _ h9 => h9) rfl hin rfl (by decide +kernel) rfl rfl (Nat.le_of_ble_eq_true rfl) dX5_init_86 (fun H locs hP _ hS hz1 ho => ?_)
  have hz : H.size = sz + 89 := hz1.trans hz
  have hP : va_P E.1 vwCl [(h0, .inr (4, [.ref (sz + 0), .ref (sz + 8), .ref (sz + 66), .ref (sz + 83), .ref (sz + 84), .ref (sz + 86)]))] H := hP
  have hG := hG.keep (fun q h3 h4 => ho q (by omega))
  refine W.widen (k := 89) (n := 2868) (Nat.le_of_ble_eq_true rfl) (Nat.le_of_ble_eq_true rfl) ?_
  exact kk H locs ⟨hP, hG⟩ hz hS
set_option maxHeartbeats 2000000 in
set_option maxRecDepth 100000 in
theorem c_X5_init (l : Launch) (E : kE) (h0 sz : Nat) (hlt : h0 < sz) : Met l yX5_init wsX5_init ({ frames := 3, cells := 89, slots := 2868, locals := 53 }) (kPreC E [.ref h0] sz [(h0, .inr (4, [.null, .null, .null, .null, .null, .null]))]) (kCP (PS E h0 sz) h0 sz (sz + 89)) 89 2868 (kFr h0 sz) := by
  refine Met.ofW (cc := cX5_init) (maxL := 2) (ret := none) (by decide) rfl ?_
  intro p e s m args below meth c s₁ B hml hv
  obtain ⟨rfl, hK, hO, hsz, hP⟩ := hv
  have hx := B.exec
  have hb := B.bytes
  have hr := B.returns
  have hts := atoms_spec (ws := wsX5_init) B.pre
  have hown : s.vm.findClass RX5 = some m.cls := findClass_of_methodNamed B.named
  have hlocks := B.notSynchronized
  have hin : meth.name = "<init>" := (name_of_methodNamed B.named B.method).1
  have hA : ∀ q : Nat, s.heap.size ≤ q → kFr h0 sz q := fun q h => Or.inr (by rw [← hsz]; exact h)
  have hS : va_S (kFr h0 sz) s.heap s.heap [] := va_S.rf
  have hi : ∀ w ∈ wsX50, w ∈ wsX5_init := by decide +kernel
  have hz : s.heap.size = sz + 0 := hsz
  have hP : va_P E.1 vwCl [(h0, .inr (4, [.null, .null, .null, .null, .null, .null]))] s.heap := hP
  have hl := lv_entry ([.ref h0]) (n := 2) (Nat.le_of_ble_eq_true rfl)
  rw [lg_entry_eq]
  generalize (lg_sl ([.ref h0]) ++ List.replicate (2 - (lg_sl ([.ref h0])).length) Slot.unset).toArray = ls at hl ⊢
  have hl : lv_has ls 2 [(0, .ref h0)] := hl
  refine lv_aload_n hx hb dX5_init_0 rfl (lv_at hl 0 rfl) ?_
  refine W.objInit hx hb hown (hts (.methodLink RX5 1 objectInit) (by decide +kernel)) (hts (.instanceMethod objectInit) (by decide +kernel)) (hts (.code objectInit ⟨#[0xb1]⟩ 1 none) (List.mem_cons_of_mem _ (List.mem_append_left _ (List.mem_append_left _ (List.mem_append_left _ (List.mem_append_left _ (List.mem_append_left _ (List.mem_append_left _ (List.mem_of_getElem? (i := 2) rfl))))))))) rfl (by rw [hml]; exact hl.1) rfl dX5_init_1 (Nat.le_of_ble_eq_true rfl) (Nat.le_of_ble_eq_true rfl) ?_
  refine W.eq (g2 := F0 m 4 ls []) rfl ?_
  refine lv_aload_n hx hb dX5_init_4 rfl (lv_at hl 0 rfl) ?_
  refine kNew (own := RX5) (ci := 1) (fs := [.int 0, .int 0, .int 0, .null, .null, .null, .null, .null, .null, .null]) (C := RX2) (T := TX2) (N := 10) (sz := sz + 0) (A := kFr h0 sz) (H0 := s.heap) hx hb hts (by decide +kernel) tyX2 tyX2_ok hown (hts (.classLink RX5 7 RX2) (by decide +kernel)) (hts (.instantiable RX2 10) (by decide +kernel)) (hts (.initialized RX2) (by decide +kernel)) hK.1 hP (kD1 (Or.inl rfl)) hS hA rfl (fun j hj => by
    rcases (show j = 0 ∨ j = 1 ∨ j = 2 ∨ j = 3 ∨ j = 4 ∨ j = 5 ∨ j = 6 ∨ j = 7 ∨ j = 8 ∨ j = 9 by omega) with rfl | rfl | rfl | rfl | rfl | rfl | rfl | rfl | rfl | rfl <;> rfl) hz (Nat.le_of_ble_eq_true rfl) (Nat.le_of_ble_eq_true rfl) dX5_init_5 (fun H hP hD hS hz ho => ?_)
  have hPn : va_P E.1 vwCl [(sz + 0, .inr (1, [.int 0, .int 0, .int 0, .null, .null, .null, .null, .null, .null, .null]))] H := hP.sub [1] rfl
  have hP : va_P E.1 vwCl [(h0, .inr (4, [.null, .null, .null, .null, .null, .null]))] H := hP.sub [0] rfl
  refine lv_dup hx hb dX5_init_8 rfl ?_
  refine kCallC (h0 := sz + 0) (sz := sz + 0 + 1) (sz' := sz + 0 + 1 + 7) (va_runI (As := []) (rest := [.ref (sz + 0), .ref h0]) ⟨hx, hb, hml, hown, hts⟩ (c_X2_init l E (sz + 0) (sz + 0 + 1) (Nat.lt_succ_self _)) (cwI 0 hts gX5_init_X2_init rfl rfl rfl (hts (.initialized RX2) (by decide +kernel)) (hts (.methodLink RX5 9 yX2_init) (by decide +kernel)) (hts (.instanceMethod yX2_init) (by decide +kernel)) rfl (by decide +kernel) ⟨Nat.le_of_ble_eq_true rfl, Nat.le_of_ble_eq_true rfl⟩) (kPreCS hK hO hz hPn) rfl rfl hl.1 rfl (lv_room (Nat.le_of_ble_eq_true rfl)) dX5_init_9 ⟨Nat.le_of_ble_eq_true rfl, Nat.le_of_ble_eq_true rfl⟩) hS (fun q hq => Or.inr (by rcases hq with e | e <;> omega)) hz (by omega) (fun H locs hL0 hz ho hS => ?_)
  have hz : H.size = sz + 8 := by rw [hz]
  have hP : va_P E.1 vwCl [(h0, .inr (4, [.null, .null, .null, .null, .null, .null]))] H := kP1 hP (ho h0 (by omega) (by omega))
  have hG : P1 E sz H := hL0
  refine kPutF (D := E.1) (A := kFr h0 sz) (ci := 4) (v := .ref (sz + 0)) (ty := .object "SkewEdges$Ledger") (C := RX5) (T := TX5) (N := 6) hx hb hts hi tyX5 tyX5_ok nmX5 hown hK.1 hP (kD1 (Or.inl rfl)) hS 0 rfl rfl 0 (by decide) (hts (.fieldLink RX5 10 "SkewEdges" "ledger" "LSkewEdges$Ledger;") (by decide +kernel)) (fun _ h9 => h9) rfl hin rfl (by decide +kernel) rfl rfl (Nat.le_of_ble_eq_true rfl) dX5_init_12 (fun H locs hP _ hS hz1 ho => ?_)
  have hz : H.size = sz + 8 := hz1.trans hz
  have hP : va_P E.1 vwCl [(h0, .inr (4, [.ref (sz + 0), .null, .null, .null, .null, .null]))] H := hP
  have hG := hG.keep (fun q h3 h4 => ho q (by omega))
  refine lv_aload_n hx hb dX5_init_15 rfl (lv_at hl 0 rfl) ?_
  refine kNew (own := RX5) (ci := 0) (fs := [.int 0, .int 0, .null]) (C := RX1) (T := TX1) (N := 3) (sz := sz + 8) (A := kFr h0 sz) (H0 := s.heap) hx hb hts (by decide +kernel) tyX1 tyX1_ok hown (hts (.classLink RX5 16 RX1) (by decide +kernel)) (hts (.instantiable RX1 3) (by decide +kernel)) (hts (.initialized RX1) (by decide +kernel)) hK.1 hP (kD1 (Or.inl rfl)) hS hA rfl (fun j hj => by
    rcases (show j = 0 ∨ j = 1 ∨ j = 2 by omega) with rfl | rfl | rfl <;> rfl) hz (Nat.le_of_ble_eq_true rfl) (Nat.le_of_ble_eq_true rfl) dX5_init_16 (fun H hP hD hS hz ho => ?_)
  have hPn : va_P E.1 vwCl [(sz + 8, .inr (0, [.int 0, .int 0, .null]))] H := hP.sub [1] rfl
  have hP : va_P E.1 vwCl [(h0, .inr (4, [.ref (sz + 0), .null, .null, .null, .null, .null]))] H := hP.sub [0] rfl
  have hG := hG.keep (fun q h3 h4 => ho q (by omega))
  refine lv_dup hx hb dX5_init_19 rfl ?_
  refine kCallP (h0 := sz + 8) (sz := sz + 8 + 1) (sz' := sz + 8 + 1 + 57) (va_runI (As := []) (rest := [.ref (sz + 8), .ref h0]) ⟨hx, hb, hml, hown, hts⟩ (c_X1_init l E (sz + 8) (sz + 8 + 1) (Nat.lt_succ_self _)) (cwI 0 hts gX5_init_X1_init rfl rfl rfl (hts (.initialized RX1) (by decide +kernel)) (hts (.methodLink RX5 18 yX1_init) (by decide +kernel)) (hts (.instanceMethod yX1_init) (by decide +kernel)) rfl (by decide +kernel) ⟨Nat.le_of_ble_eq_true rfl, Nat.le_of_ble_eq_true rfl⟩) (kPreCS hK hO hz hPn) rfl rfl hl.1 rfl (lv_room (Nat.le_of_ble_eq_true rfl)) dX5_init_20 ⟨Nat.le_of_ble_eq_true rfl, Nat.le_of_ble_eq_true rfl⟩) hS (fun q hq => Or.inr (by rcases hq with e | e <;> omega)) hz (by omega) (fun H locs hPH hz ho hS => ?_)
  have hz : H.size = sz + 66 := by rw [hz]
  have hP : va_P E.1 vwCl [(h0, .inr (4, [.ref (sz + 0), .null, .null, .null, .null, .null]))] H := kP1 hP (ho h0 (by omega) (by omega))
  have hG := hG.keep (fun q h3 h4 => ho q (by omega) (by omega))
  have hG : P2 E sz H := ⟨hG, hPH⟩
  refine kPutF (D := E.1) (A := kFr h0 sz) (ci := 4) (v := .ref (sz + 8)) (ty := .object "SkewEdges$History") (C := RX5) (T := TX5) (N := 6) hx hb hts hi tyX5 tyX5_ok nmX5 hown hK.1 hP (kD1 (Or.inl rfl)) hS 0 rfl rfl 1 (by decide) (hts (.fieldLink RX5 19 "SkewEdges" "history" "LSkewEdges$History;") (by decide +kernel)) (fun _ h9 => h9) rfl hin rfl (by decide +kernel) rfl rfl (Nat.le_of_ble_eq_true rfl) dX5_init_23 (fun H locs hP _ hS hz1 ho => ?_)
  have hz : H.size = sz + 66 := hz1.trans hz
  have hP : va_P E.1 vwCl [(h0, .inr (4, [.ref (sz + 0), .ref (sz + 8), .null, .null, .null, .null]))] H := hP
  have hG := hG.keep (fun q h3 h4 => ho q (by omega))
  refine lv_aload_n hx hb dX5_init_26 rfl (lv_at hl 0 rfl) ?_
  refine lv_iconst (v := 2) hx hb dX5_init_27 (by decide) ?_
  refine kNewq (N' := 2) (sz := sz + 66) (A := kFr h0 sz) hx hb hown (hts (.classLink RX5 7 RX2) (by decide +kernel)) hO (kcL hK) hP (kD1 (Or.inl rfl)) hS hA hz (by decide) (by decide +kernel) (by decide) (Nat.le_of_ble_eq_true rfl) (Nat.le_of_ble_eq_true rfl) dX5_init_28 (fun H hP hD hS hz ho => ?_)
  have hPs : va_P E.1 vwCl [(sz + 66, .inl (E.2 3, 2, .inr (.inr (.inr (.inr (fun _ => none))))))] H := hP.sub [1] rfl
  have hP : va_P E.1 vwCl [(h0, .inr (4, [.ref (sz + 0), .ref (sz + 8), .null, .null, .null, .null]))] H := hP.sub [0] rfl
  have hG := hG.keep (fun q h3 h4 => ho q (by omega))
  refine kPutF (D := E.1) (A := kFr h0 sz) (ci := 4) (v := .ref (sz + 66)) (ty := .array (.object "SkewEdges$Ledger")) (C := RX5) (T := TX5) (N := 6) hx hb hts hi tyX5 tyX5_ok nmX5 hown hK.1 hP (kD1 (Or.inl rfl)) hS 0 rfl rfl 2 (by decide) (hts (.fieldLink RX5 23 "SkewEdges" "slots" "[LSkewEdges$Ledger;") (by decide +kernel)) (fun _ h9 => h9) rfl hin rfl (by decide +kernel) rfl rfl (Nat.le_of_ble_eq_true rfl) dX5_init_31 (fun H locs hP _ hS hz1 ho => ?_)
  have hz : H.size = sz + 67 := hz1.trans hz
  have hP : va_P E.1 vwCl [(h0, .inr (4, [.ref (sz + 0), .ref (sz + 8), .ref (sz + 66), .null, .null, .null]))] H := hP
  have hG := hG.keep (fun q h3 h4 => ho q (by omega))
  have hPs := kP1 hPs (ho (sz + 66) (by omega))
  refine lv_iconst (v := 0) hx hb dX5_init_34 (by decide) ?_
  refine lv_istore_n (lv' := [(1, .int 0), (0, .ref h0)]) hx hb dX5_init_35 rfl hl (by decide) rfl (fun ls hl => ?_)
  refine W.widen (k := 67) (n := 2204) (Nat.le_of_ble_eq_true rfl) (Nat.le_of_ble_eq_true rfl) ?_
  refine X5_loop (cB := 67) (sB := 2204) (h0 := h0) (sz := sz) (b0 := sz + 66) (fs := [.ref (sz + 0), .ref (sz + 8), .ref (sz + 66), .null, .null, .null]) rfl (by decide) (by decide) hx hb hml hts hown hK hO hsz hlt (by omega) rfl hP (fun H2 locs2 ls2 hz2 hf2 hP2 hL2 hS2 hl2 => ?_) 3 0 (by omega) (by omega) H locs ls (fun _ => none) hz (fun _ _ => rfl) hPs (fun i hi => absurd hi (Nat.not_lt_zero i)) (fun i hi => absurd hi (Nat.not_lt_zero i)) hS (lv_sub hl [1, 0] rfl)
  exact X5_tail hx hb hml hts hown hin hK hO hsz hlt (kP1 hP (hf2 h0 (by omega))) ⟨hG.keep (fun q h3 h4 => hf2 q (by omega)), hP2, hL2⟩ hz2 hS2 hl2 (fun H locs hPS hz hS => W.vret hx hb hr (fun t ht hW => kS_P hS hsz ht hPS hz) hS.2.2 dX5_init_89)
