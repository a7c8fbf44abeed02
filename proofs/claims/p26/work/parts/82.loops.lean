/-! the loops that make ledgers -/
theorem lA_inj {h0 sz n : Nat} (h : h0 < sz) : kInj (lA h0 sz) n := fun i j _ _ e => by
  unfold lA at e
  split at e
  · split at e <;> omega
  · split at e <;> omega
theorem lA_in {h0 sz n q : Nat} (h : kA (lA h0 sz) (n + 1) q) : q = h0 ∨ (sz ≤ q ∧ q < sz + n) := by
  obtain ⟨i, hi, e⟩ := h
  unfold lA at e
  split at e
  · exact Or.inl e
  · exact Or.inr (by omega)
theorem kKept {D : va_G} {cl : List vw_C} {w : va_W} {A : Nat → Prop} {H H1 : Heap} (h : va_P D cl w H) (hD : va_D A w) (hk : ∀ q : Nat, A q → H1[q]? = H[q]?) : va_P D cl w H1 := h.kept (fun k q hq => hk q.1 (hD.2 k q hq))
theorem kLk {E : kE} {z : Nat} {v : kG} {H H1 : Heap} (h : va_P E.1 vwCl (wLed E (lA z (z + 1)) v) H) (hk : ∀ q : Nat, z ≤ q → q < z + 8 → H1[q]? = H[q]?) : va_P E.1 vwCl (wLed E (lA z (z + 1)) v) H1 :=
  kKept h (dLed (lA_inj (Nat.lt_succ_self z)) _ _ _ _ _ _ _ _ _ _) (fun q hq => by
    have := lA_in (n := 7) hq
    exact hk q (by omega) (by omega))
theorem kD2 {A : Nat → Prop} {a b : Nat} {x y : va_E} (ha : A a) (hb : A b) (hab : a ≠ b) : va_D A [(a, x), (b, y)] := by
  refine ⟨fun i j p q hi hj e => ?_, fun k q hk => ?_⟩
  · have h1 := (List.getElem?_eq_some_iff.mp hi).1
    have h2 := (List.getElem?_eq_some_iff.mp hj).1
    simp at h1 h2
    rcases (show i = 0 ∨ i = 1 by omega) with rfl | rfl <;> rcases (show j = 0 ∨ j = 1 by omega) with rfl | rfl
    · rfl
    · cases hi; cases hj; exact absurd e hab
    · cases hi; cases hj; exact absurd e.symm hab
    · rfl
  · have h1 := (List.getElem?_eq_some_iff.mp hk).1
    simp at h1
    rcases (show k = 0 ∨ k = 1 by omega) with rfl | rfl
    · cases hk; exact ha
    · cases hk; exact hb
theorem kP2 {D : va_G} {cl : List vw_C} {x y : Nat × va_E} {H : Heap} (hx : va_P D cl [x] H) (hy : va_P D cl [y] H) : va_P D cl [x, y] H := hx.app hy
theorem kP1 {D : va_G} {cl : List vw_C} {x : Nat × va_E} {H H1 : Heap} (h : va_P D cl [x] H) (hk : H1[x.1]? = H[x.1]?) : va_P D cl [x] H1 := h.kept (fun k q hq => by
  have h1 := (List.getElem?_eq_some_iff.mp hq).1
  simp at h1
  subst h1
  cases hq
  exact hk)
theorem kRows {D : va_G} {cl : List vw_C} {a n : Nat} {cA : ClassId} {f g : Nat → Option Nat} {H : Heap} (h : va_P D cl [(a, .inl (cA, n, .inr (.inr (.inr (.inr f)))))] H) (hfg : ∀ i, i < n → f i = g i) : va_P D cl [(a, .inl (cA, n, .inr (.inr (.inr (.inr g)))))] H := fun k q hq => by
  have h1 := (List.getElem?_eq_some_iff.mp hq).1
  simp at h1
  subst h1
  cases hq
  have h2 : H[a]? = some (vp_cell cA (n, .inr (.inr (.inr (.inr f))))) := h 0 _ rfl
  show H[a]? = some (vp_cell cA (n, .inr (.inr (.inr (.inr g)))))
  rw [h2, vp_cell_q, vp_cell_q]
  unfold arrV
  congr 2
  congr 1
  funext j
  show va_rf (f j.val) = va_rf (g j.val)
  rw [hfg j.val j.isLt]

set_option maxHeartbeats 1000000 in
set_option maxRecDepth 100000 in
theorem X1_loop {p : Program} {l : Launch} {e : Env} {R : Room} {s : State} {m : MethodId} {args : Array Value} {below : List Frame} {meth : Method} {c : Code} {Q : State → Prop} {E : kE} {h0 sz b0 cB sB : Nat} {fs : List Value} (hR : R = ({ frames := 2, cells := 57, slots := 1925, locals := 32 } : Room)) (hcB : cB + 56 ≤ R.cells) (hsB : sB + 1918 ≤ R.slots) (hx : p.tables.exec = Jvm.exec) (hb : c.code = cX1_init) (hml : c.maxLocals = 2) (hts : ∀ w ∈ wsX1_init, w.before args s = true) (hown : s.vm.findClass RX1 = some m.cls) (hK : kK E s) (hO : va_AO RX2 s) (hsz : s.heap.size = sz) (hlt : h0 < sz) (hb0 : sz ≤ b0) (hf : fs[2]? = some (.ref b0)) {Hs : Heap} (hobj : va_P E.1 vwCl [(h0, .inr (0, fs))] Hs)
    (kk : ∀ (H : Heap) (locs : List Loc) (ls : Array Slot), H.size = b0 + 1 + 56 → (∀ q : Nat, q < b0 → H[q]? = Hs[q]?) → va_P E.1 vwCl [(b0, .inl (E.2 3, 7, .inr (.inr (.inr (.inr (fun i => some (b0 + 1 + 8 * i)))))))] H → (∀ i, i < 7 → va_P E.1 vwCl (wLed E (lA (b0 + 1 + 8 * i) (b0 + 1 + 8 * i + 1)) kZ1) H) → va_S (kFr h0 sz) s.heap H locs → lv_has ls 2 [(0, .ref h0)] → W p l e R s m args below meth c H locs (cB + 56) (sB + 1918) Q (F0 m 50 ls [])) :
    ∀ (n k : Nat), k ≤ 7 → 7 < k + n → ∀ (H : Heap) (locs : List Loc) (ls : Array Slot) (f : Nat → Option Nat), H.size = b0 + 1 + 8 * k → (∀ q : Nat, q < b0 → H[q]? = Hs[q]?) → va_P E.1 vwCl [(b0, .inl (E.2 3, 7, .inr (.inr (.inr (.inr f)))))] H → (∀ i, i < k → f i = some (b0 + 1 + 8 * i)) → (∀ i, i < k → va_P E.1 vwCl (wLed E (lA (b0 + 1 + 8 * i) (b0 + 1 + 8 * i + 1)) kZ1) H) → va_S (kFr h0 sz) s.heap H locs → lv_has ls 2 [(0, .ref h0), (1, .int (nI k))] → W p l e R s m args below meth c H locs (cB + 8 * k) (sB + 274 * k) Q (F0 m 25 ls []) := by
  intro n
  induction n with
  | zero => intro k h1 h2; omega
  | succ n ih =>
    intro k h1 h2 H locs ls f hz hfr hP hf2 hL hS hl
    have hA : ∀ q : Nat, s.heap.size ≤ q → kFr h0 sz q := fun q h => Or.inr (by omega)
    refine lv_iload_n hx hb dX1_init_25 rfl (lv_at hl 1 rfl) ?_
    refine lv_bipush (v := 7) hx hb dX1_init_26 (by decide) ?_
    refine lv_icmp_ge (tgt := 50) hx hb dX1_init_28 (by decide) (fun c_1 => ?_) (fun c_1 => ?_)
    · have hk : k = 7 := by
        rcases Nat.lt_or_ge k 7 with q | q
        · exact absurd c_1 (nI_ge (b := 7) q (by omega))
        · omega
      subst hk
      exact kk H locs ls hz hfr (kRows hP (fun i hi => hf2 i hi)) hL hS (lv_sub hl [0] rfl)
    · have hk : k < 7 := by
        rcases Nat.lt_or_ge k 7 with q | q
        · exact q
        · exact absurd (nI_le (a := 7) q (by omega)) c_1
      have hO1 : va_P E.1 vwCl [(h0, .inr (0, fs))] H := kP1 hobj (hfr h0 (by omega))
      refine lv_aload_n hx hb dX1_init_31 rfl (lv_at hl 0 rfl) ?_
      refine va_get (D := E.1) (ci := 0) (v := .ref b0) (C := RX1) (T := TX1) (N := 3) hx hb hts (by decide +kernel) hown hK.1 hO1 0 rfl rfl 2 (by decide) (hts (.fieldLink RX1 20 "SkewEdges$History" "rows" "[LSkewEdges$Ledger;") (by decide +kernel)) (fun _ h9 => h9) hf dX1_init_32 ?_
      refine lv_iload_n hx hb dX1_init_35 rfl (lv_at hl 1 rfl) ?_
      obtain ⟨z, ez⟩ : ∃ z, z = b0 + 1 + 8 * k := ⟨_, rfl⟩
      refine kNew (own := RX1) (ci := 1) (fs := [.int 0, .int 0, .int 0, .null, .null, .null, .null, .null, .null, .null]) (C := RX2) (T := TX2) (N := 10) (sz := z) (ws := [(b0, .inl (E.2 3, 7, .inr (.inr (.inr (.inr f)))))]) (A := kFr h0 sz) (H0 := s.heap) hx hb hts (by decide +kernel) tyX2 tyX2_ok hown (hts (.classLink RX1 18 RX2) (by decide +kernel)) (hts (.instantiable RX2 10) (by decide +kernel)) (hts (.initialized RX2) (by decide +kernel)) hK.1 hP (kD1 (Or.inr (by omega))) hS hA rfl (fun j hj => by
        rcases (show j = 0 ∨ j = 1 ∨ j = 2 ∨ j = 3 ∨ j = 4 ∨ j = 5 ∨ j = 6 ∨ j = 7 ∨ j = 8 ∨ j = 9 by omega) with rfl | rfl | rfl | rfl | rfl | rfl | rfl | rfl | rfl | rfl <;> rfl) (hz.trans ez.symm) (by omega) (by omega) dX1_init_36 (fun H1 hP1 hD1 hS1 hz1 ho1 => ?_)
      refine lv_dup hx hb dX1_init_39 rfl ?_
      have hP1n : va_P E.1 vwCl [(z, .inr (1, [.int 0, .int 0, .int 0, .null, .null, .null, .null, .null, .null, .null]))] H1 := hP1.sub [1] rfl
      have hP1a : va_P E.1 vwCl [(b0, .inl (E.2 3, 7, .inr (.inr (.inr (.inr f)))))] H1 := hP1.sub [0] rfl
      subst hR
      refine kCallC (h0 := z) (sz := z + 1) (sz' := z + 1 + 7) (va_runI (As := []) (rest := [.ref z, .int (nI k), .ref b0]) ⟨hx, hb, hml, hown, hts⟩ (c_X2_init l E z (z + 1) (Nat.lt_succ_self z)) (cwI 0 hts gX1_init_X2_init rfl rfl rfl (hts (.initialized RX2) (by decide +kernel)) (hts (.methodLink RX1 24 yX2_init) (by decide +kernel)) (hts (.instanceMethod yX2_init) (by decide +kernel)) rfl (by decide +kernel) ⟨Nat.le_of_ble_eq_true rfl, Nat.le_of_ble_eq_true rfl⟩) (kPreCS hK hO hz1 hP1n) rfl rfl hl.1 rfl (lv_room (Nat.le_of_ble_eq_true rfl)) dX1_init_40 ⟨by omega, by omega⟩) hS1 (fun q hq => Or.inr (by rcases hq with e | e <;> omega)) hz1 (by omega) (fun H2 locs2 hP2 hz2 ho2 hS2 => ?_)
      have hP2a : va_P E.1 vwCl [(b0, .inl (E.2 3, 7, .inr (.inr (.inr (.inr f)))))] H2 := kP1 hP1a (ho2 b0 (by omega) (by omega))
      have hP2n := hP2.sub (ws' := [(z, .inr (1, [.int 1, .int 0, .int 0, .ref (z + 1), .ref (z + 1 + 1), .ref (z + 1 + 2), .ref (z + 1 + 3), .ref (z + 1 + 4), .ref (z + 1 + 5), .ref (z + 1 + 6)]))]) [0] rfl
      refine kAst (D := E.1) (cl := vwCl) (r := (RX2, TX2, 10)) hx hb hK.1 (kP2 hP2a hP2n) (kD2 (A := kFr h0 sz) (Or.inr (by omega)) (Or.inr (by omega)) (by omega)) hS2 0 3 1 1 rfl rfl rfl rfl (vp_in_nI hk (by omega)) dX1_init_43 (fun H3 locs3 hP3 hS3 hz3 ho3 => ?_)
      have hP3a : va_P E.1 vwCl [(b0, .inl (E.2 3, 7, .inr (.inr (.inr (.inr (va_up f k (some z)))))))] H3 := by
        have h9 := hP3.sub (ws' := [(b0, .inl (E.2 3, 7, .inr (.inr (.inr (.inr (va_up f (nI k).toNatClampNeg (some z)))))))]) [0] rfl
        rw [nI_clamp (n := k) (by omega)] at h9
        exact h9
      refine lv_iinc (v := nI (k + 1)) (lv' := [(1, .int (nI (k + 1))), (0, .ref h0)]) hx hb dX1_init_44 hl (k := 1) rfl (by rw [← nI_1]; rfl) (by decide) rfl (fun ls hl => ?_)
      refine lv_goto (tgt := 25) hx hb dX1_init_47 (by decide) ?_
      have hc1 : cB + 8 * k + 1 + 7 = cB + 8 * (k + 1) := by omega
      have hc2 : sB + 274 * k + 10 + 264 = sB + 274 * (k + 1) := by omega
      rw [hc1, hc2]
      refine ih (k + 1) hk (by omega) H3 locs3 ls (va_up f k (some z)) (by rw [hz3, hz2]; omega) (fun q hq => ?_) hP3a (fun i hi => ?_) (fun i hi => ?_) hS3 (lv_sub hl [1, 0] rfl)
      · rw [ho3 q (by omega), ho2 q (by omega) (by omega), ho1 q (by omega)]; exact hfr q hq
      · by_cases e : i = k
        · rw [e, va_up_self, ez]
        · rw [va_up_ne _ _ e]; exact hf2 i (by omega)
      · by_cases e : i = k
        · rw [e, ← ez]
          exact kLk hP2 (fun q h3 h4 => ho3 q (by omega))
        · exact kLk (hL i (by omega)) (fun q h3 h4 => by rw [ho3 q (by omega), ho2 q (by omega) (by omega), ho1 q (by omega)])


set_option maxHeartbeats 1000000 in
set_option maxRecDepth 100000 in
theorem X5_loop {p : Program} {l : Launch} {e : Env} {R : Room} {s : State} {m : MethodId} {args : Array Value} {below : List Frame} {meth : Method} {c : Code} {Q : State → Prop} {E : kE} {h0 sz b0 cB sB : Nat} {fs : List Value} (hR : R = ({ frames := 3, cells := 89, slots := 2868, locals := 53 } : Room)) (hcB : cB + 16 ≤ R.cells) (hsB : sB + 548 ≤ R.slots) (hx : p.tables.exec = Jvm.exec) (hb : c.code = cX5_init) (hml : c.maxLocals = 2) (hts : ∀ w ∈ wsX5_init, w.before args s = true) (hown : s.vm.findClass RX5 = some m.cls) (hK : kK E s) (hO : va_AO RX2 s) (hsz : s.heap.size = sz) (hlt : h0 < sz) (hb0 : sz ≤ b0) (hf : fs[2]? = some (.ref b0)) {Hs : Heap} (hobj : va_P E.1 vwCl [(h0, .inr (4, fs))] Hs)
    (kk : ∀ (H : Heap) (locs : List Loc) (ls : Array Slot), H.size = b0 + 1 + 16 → (∀ q : Nat, q < b0 → H[q]? = Hs[q]?) → va_P E.1 vwCl [(b0, .inl (E.2 3, 2, .inr (.inr (.inr (.inr (fun i => some (b0 + 1 + 8 * i)))))))] H → (∀ i, i < 2 → va_P E.1 vwCl (wLed E (lA (b0 + 1 + 8 * i) (b0 + 1 + 8 * i + 1)) kZ1) H) → va_S (kFr h0 sz) s.heap H locs → lv_has ls 2 [(0, .ref h0)] → W p l e R s m args below meth c H locs (cB + 16) (sB + 548) Q (F0 m 60 ls [])) :
    ∀ (n k : Nat), k ≤ 2 → 2 < k + n → ∀ (H : Heap) (locs : List Loc) (ls : Array Slot) (f : Nat → Option Nat), H.size = b0 + 1 + 8 * k → (∀ q : Nat, q < b0 → H[q]? = Hs[q]?) → va_P E.1 vwCl [(b0, .inl (E.2 3, 2, .inr (.inr (.inr (.inr f)))))] H → (∀ i, i < k → f i = some (b0 + 1 + 8 * i)) → (∀ i, i < k → va_P E.1 vwCl (wLed E (lA (b0 + 1 + 8 * i) (b0 + 1 + 8 * i + 1)) kZ1) H) → va_S (kFr h0 sz) s.heap H locs → lv_has ls 2 [(0, .ref h0), (1, .int (nI k))] → W p l e R s m args below meth c H locs (cB + 8 * k) (sB + 274 * k) Q (F0 m 36 ls []) := by
  intro n
  induction n with
  | zero => intro k h1 h2; omega
  | succ n ih =>
    intro k h1 h2 H locs ls f hz hfr hP hf2 hL hS hl
    have hA : ∀ q : Nat, s.heap.size ≤ q → kFr h0 sz q := fun q h => Or.inr (by omega)
    refine lv_iload_n hx hb dX5_init_36 rfl (lv_at hl 1 rfl) ?_
    refine lv_iconst (v := 2) hx hb dX5_init_37 (by decide) ?_
    refine lv_icmp_ge (tgt := 60) hx hb dX5_init_38 (by decide) (fun c_1 => ?_) (fun c_1 => ?_)
    · have hk : k = 2 := by
        rcases Nat.lt_or_ge k 2 with q | q
        · exact absurd c_1 (nI_ge (b := 2) q (by omega))
        · omega
      subst hk
      exact kk H locs ls hz hfr (kRows hP (fun i hi => hf2 i hi)) hL hS (lv_sub hl [0] rfl)
    · have hk : k < 2 := by
        rcases Nat.lt_or_ge k 2 with q | q
        · exact q
        · exact absurd (nI_le (a := 2) q (by omega)) c_1
      have hO1 : va_P E.1 vwCl [(h0, .inr (4, fs))] H := kP1 hobj (hfr h0 (by omega))
      refine lv_aload_n hx hb dX5_init_41 rfl (lv_at hl 0 rfl) ?_
      refine va_get (D := E.1) (ci := 4) (v := .ref b0) (C := RX5) (T := TX5) (N := 6) hx hb hts (by decide +kernel) hown hK.1 hO1 0 rfl rfl 2 (by decide) (hts (.fieldLink RX5 23 "SkewEdges" "slots" "[LSkewEdges$Ledger;") (by decide +kernel)) (fun _ h9 => h9) hf dX5_init_42 ?_
      refine lv_iload_n hx hb dX5_init_45 rfl (lv_at hl 1 rfl) ?_
      obtain ⟨z, ez⟩ : ∃ z, z = b0 + 1 + 8 * k := ⟨_, rfl⟩
      refine kNew (own := RX5) (ci := 1) (fs := [.int 0, .int 0, .int 0, .null, .null, .null, .null, .null, .null, .null]) (C := RX2) (T := TX2) (N := 10) (sz := z) (ws := [(b0, .inl (E.2 3, 2, .inr (.inr (.inr (.inr f)))))]) (A := kFr h0 sz) (H0 := s.heap) hx hb hts (by decide +kernel) tyX2 tyX2_ok hown (hts (.classLink RX5 7 RX2) (by decide +kernel)) (hts (.instantiable RX2 10) (by decide +kernel)) (hts (.initialized RX2) (by decide +kernel)) hK.1 hP (kD1 (Or.inr (by omega))) hS hA rfl (fun j hj => by
        rcases (show j = 0 ∨ j = 1 ∨ j = 2 ∨ j = 3 ∨ j = 4 ∨ j = 5 ∨ j = 6 ∨ j = 7 ∨ j = 8 ∨ j = 9 by omega) with rfl | rfl | rfl | rfl | rfl | rfl | rfl | rfl | rfl | rfl <;> rfl) (hz.trans ez.symm) (by omega) (by omega) dX5_init_46 (fun H1 hP1 hD1 hS1 hz1 ho1 => ?_)
      refine lv_dup hx hb dX5_init_49 rfl ?_
      have hP1n : va_P E.1 vwCl [(z, .inr (1, [.int 0, .int 0, .int 0, .null, .null, .null, .null, .null, .null, .null]))] H1 := hP1.sub [1] rfl
      have hP1a : va_P E.1 vwCl [(b0, .inl (E.2 3, 2, .inr (.inr (.inr (.inr f)))))] H1 := hP1.sub [0] rfl
      subst hR
      refine kCallC (h0 := z) (sz := z + 1) (sz' := z + 1 + 7) (va_runI (As := []) (rest := [.ref z, .int (nI k), .ref b0]) ⟨hx, hb, hml, hown, hts⟩ (c_X2_init l E z (z + 1) (Nat.lt_succ_self z)) (cwI 0 hts gX5_init_X2_init rfl rfl rfl (hts (.initialized RX2) (by decide +kernel)) (hts (.methodLink RX5 9 yX2_init) (by decide +kernel)) (hts (.instanceMethod yX2_init) (by decide +kernel)) rfl (by decide +kernel) ⟨Nat.le_of_ble_eq_true rfl, Nat.le_of_ble_eq_true rfl⟩) (kPreCS hK hO hz1 hP1n) rfl rfl hl.1 rfl (lv_room (Nat.le_of_ble_eq_true rfl)) dX5_init_50 ⟨by omega, by omega⟩) hS1 (fun q hq => Or.inr (by rcases hq with e | e <;> omega)) hz1 (by omega) (fun H2 locs2 hP2 hz2 ho2 hS2 => ?_)
      have hP2a : va_P E.1 vwCl [(b0, .inl (E.2 3, 2, .inr (.inr (.inr (.inr f)))))] H2 := kP1 hP1a (ho2 b0 (by omega) (by omega))
      have hP2n := hP2.sub (ws' := [(z, .inr (1, [.int 1, .int 0, .int 0, .ref (z + 1), .ref (z + 1 + 1), .ref (z + 1 + 2), .ref (z + 1 + 3), .ref (z + 1 + 4), .ref (z + 1 + 5), .ref (z + 1 + 6)]))]) [0] rfl
      refine kAst (D := E.1) (cl := vwCl) (r := (RX2, TX2, 10)) hx hb hK.1 (kP2 hP2a hP2n) (kD2 (A := kFr h0 sz) (Or.inr (by omega)) (Or.inr (by omega)) (by omega)) hS2 0 3 1 1 rfl rfl rfl rfl (vp_in_nI hk (by omega)) dX5_init_53 (fun H3 locs3 hP3 hS3 hz3 ho3 => ?_)
      have hP3a : va_P E.1 vwCl [(b0, .inl (E.2 3, 2, .inr (.inr (.inr (.inr (va_up f k (some z)))))))] H3 := by
        have h9 := hP3.sub (ws' := [(b0, .inl (E.2 3, 2, .inr (.inr (.inr (.inr (va_up f (nI k).toNatClampNeg (some z)))))))]) [0] rfl
        rw [nI_clamp (n := k) (by omega)] at h9
        exact h9
      refine lv_iinc (v := nI (k + 1)) (lv' := [(1, .int (nI (k + 1))), (0, .ref h0)]) hx hb dX5_init_54 hl (k := 1) rfl (by rw [← nI_1]; rfl) (by decide) rfl (fun ls hl => ?_)
      refine lv_goto (tgt := 36) hx hb dX5_init_57 (by decide) ?_
      have hc1 : cB + 8 * k + 1 + 7 = cB + 8 * (k + 1) := by omega
      have hc2 : sB + 274 * k + 10 + 264 = sB + 274 * (k + 1) := by omega
      rw [hc1, hc2]
      refine ih (k + 1) hk (by omega) H3 locs3 ls (va_up f k (some z)) (by rw [hz3, hz2]; omega) (fun q hq => ?_) hP3a (fun i hi => ?_) (fun i hi => ?_) hS3 (lv_sub hl [1, 0] rfl)
      · rw [ho3 q (by omega), ho2 q (by omega) (by omega), ho1 q (by omega)]; exact hfr q hq
      · by_cases e : i = k
        · rw [e, va_up_self, ez]
        · rw [va_up_ne _ _ e]; exact hf2 i (by omega)
      · by_cases e : i = k
        · rw [e, ← ez]
          exact kLk hP2 (fun q h3 h4 => ho3 q (by omega))
        · exact kLk (hL i (by omega)) (fun q h3 h4 => by rw [ho3 q (by omega), ho2 q (by omega) (by omega), ho1 q (by omega)])

