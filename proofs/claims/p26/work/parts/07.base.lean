/-! my own base: worlds of the class and of the reference, contracts' starts and ends, calls -/
abbrev kE : Type := va_G × (Nat → ClassId)
def kTy (E : kE) : List (ClassId × FieldType) := [(E.2 0, .int), (E.2 1, .boolean), (E.2 2, .char), (E.2 3, .object "SkewEdges$Ledger")]
def kNest : List Cond := [.methodLinkNest RX0 42 yX5_contains RX5, .methodLinkNest RX2 49 yX5_isRule RX5, .methodLinkNest RX2 56 yX5_isKey RX5, .methodLinkNest RX2 59 yX5_contains RX5, .methodLinkNest RX4 36 yX5_contains RX5]
def kK (E : kE) (U : State) : Prop := va_K E.1 vwCl (kTy E) U ∧ ∀ w ∈ kNest, va_Nw w U
theorem kNest_warm {s U : State} (hW : s.WarmedH U.vm) (h : ∀ w ∈ kNest, va_Nw w s) : ∀ w ∈ kNest, va_Nw w U := by
  intro w hw
  have h2 := h w hw
  simp only [kNest, List.mem_cons, List.mem_nil_iff, or_false] at hw
  rcases hw with rfl | rfl | rfl | rfl | rfl <;> exact va_Nw.warmM hW h2
theorem kK.warm {E : kE} {s U : State} (hW : s.WarmedH U.vm) (h : kK E s) : kK E U := ⟨va_K.moved hW.alike h.1, kNest_warm hW h.2⟩
theorem kNest_same {u U : State} (hv : u.vm = U.vm) (h : ∀ w ∈ kNest, va_Nw w u) : ∀ w ∈ kNest, va_Nw w U := by
  intro w hw
  have h2 := h w hw
  simp only [kNest, List.mem_cons, List.mem_nil_iff, or_false] at hw
  rcases hw with rfl | rfl | rfl | rfl | rfl <;> exact va_Nw.same rfl hv h2
theorem kK.nest {E : kE} {s : State} (h : kK E s) (i : Nat) {w : Cond} (hi : kNest[i]? = some w) : va_Nw w s := h.2 w (List.mem_of_getElem? hi)
/-- a method's start: its arguments, the tables, its world -/
def kPre (E : kE) (av : List Value) (w : va_W) : Array Value → State → Prop := va_Pc av (fun U => kK E U ∧ va_P E.1 vwCl w U.heap)
theorem kPre_blind {E : kE} {av : List Value} {w : va_W} : FrameBlind (kPre E av w) := fun a U g mk q => by
  obtain ⟨q0, q1, q2⟩ := q
  exact ⟨q0, ⟨va_K.moved (u := U) (U := U.calling g mk a) (Vm.Alike.refl U.vm) q1.1, kNest_same (u := U) (U := U.calling g mk a) rfl q1.2⟩, q2⟩
theorem kPreS {E : kE} {As : List Value} {w : va_W} {s : State} {H : Heap} (hK : kK E s) (hP : va_P E.1 vwCl w H) : PreS s H (kPre E As w) As := ⟨kPre_blind, fun U hU hW => ⟨rfl, hK.warm hW, by rw [hU]; exact hP⟩⟩
theorem kPreV {E : kE} {As : List Value} {w ws : va_W} {s : State} {H : Heap} {b q0 ci : Nat} {r : vw_C} {fs : List Value} (hK : kK E s) (hP : va_P E.1 vwCl ws H) (hw : va_P E.1 vwCl w H) (he : ws[q0]? = some (b, .inr (ci, fs))) (hc : vwCl[ci]? = some r) : PreV s H r.1 b (kPre E (.ref b :: As) w) As := ⟨kPre_blind, va_recv hK.1 hP hc he, fun U hU hW => ⟨rfl, hK.warm hW, by rw [hU]; exact hw⟩⟩
/-- a method's end: it only reads, or: its world is w, nothing outside A has changed -/
def kRi (r : Int32) : Array Value → State → Outcome → State → Prop := fun _ st oc t => oc = .returned (some (.int r)) ∧ t.heap = st.heap
def kRv : Array Value → State → Outcome → State → Prop := fun _ st oc t => oc = .returned none ∧ t.heap = st.heap
def kWi (E : kE) (r : Int32) (w : va_W) (A : Nat → Prop) : Array Value → State → Outcome → State → Prop := fun _ st oc t => oc = .returned (some (.int r)) ∧ va_P E.1 vwCl w t.heap ∧ va_F A st t
def kWv (E : kE) (w : va_W) (A : Nat → Prop) : Array Value → State → Outcome → State → Prop := fun _ st oc t => oc = .returned none ∧ va_P E.1 vwCl w t.heap ∧ va_F A st t
section KB
variable {p : Program} {l : Launch} {e : Env} {R : Room} {s : State} {m : MethodId} {args : Array Value} {below : List Frame} {meth : Method} {c : Code} {H : Heap} {locs : List Loc} {cells slots : Nat} {Q : State → Prop}
variable {pc : Nat} {ls : Array Slot} {rest st0 : List Value} {a : Array Value} {A : Nat → Prop} {H0 : Heap} {E : kE} {w : va_W} {r : Int32}
theorem kCallRi (hr : va_Run p l e R s m args below meth c H locs cells slots 0 0 (F0 m pc ls st0) rest (kRi r a) (fun _ => False))
    (kk : W p l e R s m args below meth c H locs cells slots Q (F0 m (pc + 3) ls (.int r :: rest))) : W p l e R s m args below meth c H locs cells slots Q (F0 m pc ls st0) := by
  intro T hT X
  obtain ⟨v, st₀, t, T', L, h0, X', hL, e1, e2, ⟨hv, hh⟩, st⟩ := hr T hT X
  cases hv
  obtain ⟨t2, a1, b1⟩ := kk T' (by rw [e1, hh, h0]) (Stand.forget X' (fun q h => (hL q h).elim))
  exact ⟨t2, st t2 a1, b1⟩
theorem kCallRv (hr : va_Run p l e R s m args below meth c H locs cells slots 0 0 (F0 m pc ls st0) rest (kRv a) (fun _ => False))
    (kk : W p l e R s m args below meth c H locs cells slots Q (F0 m (pc + 3) ls rest)) : W p l e R s m args below meth c H locs cells slots Q (F0 m pc ls st0) := by
  intro T hT X
  obtain ⟨v, st₀, t, T', L, h0, X', hL, e1, e2, ⟨hv, hh⟩, st⟩ := hr T hT X
  cases hv
  obtain ⟨t2, a1, b1⟩ := kk T' (by rw [e1, hh, h0]) (Stand.forget X' (fun q h => (hL q h).elim))
  exact ⟨t2, st t2 a1, b1⟩
theorem kCallWi {A1 : Nat → Prop} (hr : va_Run p l e R s m args below meth c H locs cells slots 0 0 (F0 m pc ls st0) rest (kWi E r w A1 a) A1) (hS : va_S A H0 H locs) (hA : ∀ q, A1 q → A q)
    (kk : ∀ (H1 : Heap) (locs1 : List Loc), va_P E.1 vwCl w H1 → H.size ≤ H1.size → (∀ q : Nat, q < H.size → ¬ A1 q → H1[q]? = H[q]?) → va_S A H0 H1 locs1 → W p l e R s m args below meth c H1 locs1 cells slots Q (F0 m (pc + 3) ls (.int r :: rest))) : W p l e R s m args below meth c H locs cells slots Q (F0 m pc ls st0) := by
  intro T hT X
  obtain ⟨v, st₀, t, T', L, h0, X', hL, e1, e2, ⟨hv, hp, hz, hk⟩, st⟩ := hr T hT X
  cases hv
  rw [h0] at hz hk
  obtain ⟨t2, a1, b1⟩ := kk T'.heap (locs ++ L) (by rw [e1]; exact hp) (by rw [e1]; exact hz) (fun q h1 h2 => by rw [e1]; exact hk q h1 h2)
    ⟨Nat.le_trans hS.1 (by rw [e1]; exact hz), fun q h1 h2 => by rw [e1, hk q (Nat.lt_of_lt_of_le h1 hS.1) (fun z => h2 (hA q z))]; exact hS.2.1 q h1 h2, fun q hq => by
      rcases List.mem_append.mp hq with h | h
      · exact hS.2.2 q h
      · exact hA _ (hL q h)⟩ T' rfl X'
  exact ⟨t2, st t2 a1, b1⟩
theorem kCallWv {A1 : Nat → Prop} (hr : va_Run p l e R s m args below meth c H locs cells slots 0 0 (F0 m pc ls st0) rest (kWv E w A1 a) A1) (hS : va_S A H0 H locs) (hA : ∀ q, A1 q → A q)
    (kk : ∀ (H1 : Heap) (locs1 : List Loc), va_P E.1 vwCl w H1 → H.size ≤ H1.size → (∀ q : Nat, q < H.size → ¬ A1 q → H1[q]? = H[q]?) → va_S A H0 H1 locs1 → W p l e R s m args below meth c H1 locs1 cells slots Q (F0 m (pc + 3) ls rest)) : W p l e R s m args below meth c H locs cells slots Q (F0 m pc ls st0) := by
  intro T hT X
  obtain ⟨v, st₀, t, T', L, h0, X', hL, e1, e2, ⟨hv, hp, hz, hk⟩, st⟩ := hr T hT X
  cases hv
  rw [h0] at hz hk
  obtain ⟨t2, a1, b1⟩ := kk T'.heap (locs ++ L) (by rw [e1]; exact hp) (by rw [e1]; exact hz) (fun q h1 h2 => by rw [e1]; exact hk q h1 h2)
    ⟨Nat.le_trans hS.1 (by rw [e1]; exact hz), fun q h1 h2 => by rw [e1, hk q (Nat.lt_of_lt_of_le h1 hS.1) (fun z => h2 (hA q z))]; exact hS.2.1 q h1 h2, fun q hq => by
      rcases List.mem_append.mp hq with h | h
      · exact hS.2.2 q h
      · exact hA _ (hL q h)⟩ T' rfl X'
  exact ⟨t2, st t2 a1, b1⟩
end KB
/-! states as rows of numbers: row 0 the numbers of the object itself, row k its k-th array -/
abbrev kG : Type := Nat → Nat → Int32
def rset (u : kG) (r : Nat) (f : Nat → Int32) : kG := fun k => if k = r then f else u k
/-- the addresses a 0 .. a (n - 1) -/
def kA (a : Nat → Nat) (n : Nat) : Nat → Prop := fun q => ∃ i, i < n ∧ q = a i
def kInj (a : Nat → Nat) (n : Nat) : Prop := ∀ i j, i < n → j < n → a i = a j → i = j
/-- a world whose k-th cell lies at a k -/
theorem kD_of {a : Nat → Nat} {n : Nat} (h : kInj a n) {ws : va_W} (hn : ws.map Prod.fst = (List.range n).map a) : va_D (kA a n) ws := by
  have key : ∀ (k : Nat) (q : Nat × va_E), ws[k]? = some q → k < n ∧ q.1 = a k := by
    intro k q hk
    have h1 : (ws.map Prod.fst)[k]? = some q.1 := by rw [List.getElem?_map, hk]; rfl
    rw [hn, List.getElem?_map] at h1
    rcases Nat.lt_or_ge k n with hl | hl
    · rw [List.getElem?_range hl] at h1
      exact ⟨hl, (Option.some.inj h1).symm⟩
    · rw [List.getElem?_eq_none (by simpa using hl)] at h1
      cases h1
  refine ⟨fun i j p q hi hj e => ?_, fun k q hk => ?_⟩
  · obtain ⟨a1, a2⟩ := key i p hi
    obtain ⟨b1, b2⟩ := key j q hj
    exact h i j a1 b1 (by rw [← a2, ← b2, e])
  · obtain ⟨a1, a2⟩ := key k q hk
    exact ⟨k, a1, a2⟩
def wLedx (E : kE) (a : Nat → Nat) (q0 q1 q2 : Int32) (f1 f2 f3 f4 f5 f6 f7 : Nat → Int32) : va_W := [(a 0, .inr (1, [.int q0, .int q1, .int q2, .ref (a 1), .ref (a 2), .ref (a 3), .ref (a 4), .ref (a 5), .ref (a 6), .ref (a 7)])), (a 1, .inl (E.2 0, 12, .inl f1)), (a 2, .inl (E.2 0, 12, .inl f2)), (a 3, .inl (E.2 0, 12, .inl f3)), (a 4, .inl (E.2 0, 12, .inl f4)), (a 5, .inl (E.2 0, 12, .inl f5)), (a 6, .inl (E.2 0, 12, .inl f6)), (a 7, .inl (E.2 0, 192, .inl f7))]
abbrev wLed (E : kE) (a : Nat → Nat) (v : kG) : va_W := wLedx E a (v 0 0) (v 0 1) (v 0 2) (v 1) (v 2) (v 3) (v 4) (v 5) (v 6) (v 7)
theorem dLed {E : kE} {a : Nat → Nat} (h : kInj a 8) (q0 q1 q2 : Int32) (f1 f2 f3 f4 f5 f6 f7 : Nat → Int32) : va_D (kA a 8) (wLedx E a q0 q1 q2 f1 f2 f3 f4 f5 f6 f7) := kD_of h rfl
def wPadx (E : kE) (a : Nat → Nat) (q0 q1 q2 q3 q4 q5 q6 : Int32) (f1 : Nat → Int32) : va_W := [(a 0, .inr (2, [.int q0, .int q1, .int q2, .int q3, .int q4, .int q5, .int q6, .ref (a 1)])), (a 1, .inl (E.2 2, 80, .inl f1))]
abbrev wPad (E : kE) (a : Nat → Nat) (v : kG) : va_W := wPadx E a (v 0 0) (v 0 1) (v 0 2) (v 0 3) (v 0 4) (v 0 5) (v 0 6) (v 1)
theorem dPad {E : kE} {a : Nat → Nat} (h : kInj a 2) (q0 q1 q2 q3 q4 q5 q6 : Int32) (f1 : Nat → Int32) : va_D (kA a 2) (wPadx E a q0 q1 q2 q3 q4 q5 q6 f1) := kD_of h rfl
def wSeqx (E : kE) (a : Nat → Nat) (f1 f2 : Nat → Int32) : va_W := [(a 0, .inr (3, [.ref (a 1), .ref (a 2)])), (a 1, .inl (E.2 0, 12, .inl f1)), (a 2, .inl (E.2 0, 12, .inl f2))]
abbrev wSeq (E : kE) (a : Nat → Nat) (v : kG) : va_W := wSeqx E a (v 1) (v 2)
theorem dSeq {E : kE} {a : Nat → Nat} (h : kInj a 3) (f1 f2 : Nat → Int32) : va_D (kA a 3) (wSeqx E a f1 f2) := kD_of h rfl
def wModx (E : kE) (a : Nat → Nat) (q0 q1 q2 q3 q4 q5 q6 q7 : Int32) (f1 f2 f3 f4 f5 f6 f7 f8 : Nat → Int32) : va_W := [(a 0, .inr (5, [.ref (a 1), .ref (a 2), .ref (a 3), .ref (a 4), .int q0, .ref (a 5), .int q1, .int q2, .int q3, .int q4, .ref (a 6), .ref (a 7), .ref (a 8), .int q5, .int q6, .int q7])), (a 1, .inl (E.2 0, 279, .inl f1)), (a 2, .inl (E.2 0, 1674, .inl f2)), (a 3, .inl (E.2 0, 558, .inl f3)), (a 4, .inl (E.2 1, 2, .inl f4)), (a 5, .inl (E.2 2, 80, .inl f5)), (a 6, .inl (E.2 0, 12, .inl f6)), (a 7, .inl (E.2 0, 12, .inl f7)), (a 8, .inl (E.2 0, 164, .inl f8))]
abbrev wMod (E : kE) (a : Nat → Nat) (v : kG) : va_W := wModx E a (v 0 0) (v 0 1) (v 0 2) (v 0 3) (v 0 4) (v 0 5) (v 0 6) (v 0 7) (v 1) (v 2) (v 3) (v 4) (v 5) (v 6) (v 7) (v 8)
theorem dMod {E : kE} {a : Nat → Nat} (h : kInj a 9) (q0 q1 q2 q3 q4 q5 q6 q7 : Int32) (f1 f2 f3 f4 f5 f6 f7 f8 : Nat → Int32) : va_D (kA a 9) (wModx E a q0 q1 q2 q3 q4 q5 q6 q7 f1 f2 f3 f4 f5 f6 f7 f8) := kD_of h rfl
/-- two groups side by side -/
def kAp (a : Nat → Nat) (n : Nat) (b : Nat → Nat) (k : Nat) : Prop := ∀ i j, i < n → j < k → a i ≠ b j
theorem kD_app {a b : Nat → Nat} {n k : Nat} {w1 w2 : va_W} (h1 : va_D (kA a n) w1) (h2 : va_D (kA b k) w2) (hx : kAp a n b k) : va_D (fun q => kA a n q ∨ kA b k q) (w1 ++ w2) := by
  refine (h1.weaken (B := fun q => kA a n q ∨ kA b k q) (fun _ _ _ h => Or.inl h)).app (h2.weaken (fun _ _ _ h => Or.inr h)) (fun i j p q hi hj e => ?_)
  obtain ⟨x, hx1, hx2⟩ := h1.2 i p hi
  obtain ⟨y, hy1, hy2⟩ := h2.2 j q hj
  exact hx x y hx1 hy1 (by rw [← hx2, ← hy2, e])
theorem kP_l {D : va_G} {cl : List vw_C} {w1 w2 : va_W} {H : Heap} (h : va_P D cl (w1 ++ w2) H) : va_P D cl w1 H := fun k q hk => h k q (by rw [List.getElem?_append_left (List.getElem?_eq_some_iff.mp hk).1]; exact hk)
theorem kP_r {D : va_G} {cl : List vw_C} {w1 w2 : va_W} {H : Heap} (h : va_P D cl (w1 ++ w2) H) : va_P D cl w2 H := fun k q hk => h (w1.length + k) q (by rw [List.getElem?_append_right (by omega), Nat.add_sub_cancel_left]; exact hk)
theorem kP_kept {D : va_G} {cl : List vw_C} {w : va_W} {A A1 : Nat → Prop} {H H1 : Heap} (h : va_P D cl w H) (hD : va_D A w) (hx : ∀ q, A q → ¬ A1 q) (hk : ∀ q : Nat, q < H.size → ¬ A1 q → H1[q]? = H[q]?) : va_P D cl w H1 := h.kept (fun k q hq => hk q.1 (h k q hq).lt (hx _ (hD.2 k q hq)))
/-! numbers -/
theorem ki_lt {a b : Int32} : a < b ↔ a.toInt < b.toInt := Int32.lt_iff_toInt_lt
theorem ki_le {a b : Int32} : a ≤ b ↔ a.toInt ≤ b.toInt := Int32.le_iff_toInt_le
/-- numbers of transactions, keys, what may stand in a cell -/
def tOK (t : Int32) : Prop := ∃ i : Nat, i < 12 ∧ t = nI i
def yOK (k : Int32) : Prop := ∃ i : Nat, i < 16 ∧ k = nI i
def nOK (x : Int32) : Prop := ∃ n : Nat, n ≤ 12 ∧ x = nI n
theorem tOK.in12 {t : Int32} (h : tOK t) : vp_in t 12 := by
  obtain ⟨i, hi, rfl⟩ := h
  exact vp_in_nI hi (by omega)
theorem tOK.nI {i : Nat} (h : i < 12) : tOK (nI i) := ⟨i, h, rfl⟩
theorem yOK.nI {i : Nat} (h : i < 16) : yOK (nI i) := ⟨i, h, rfl⟩
/-- below the number of them, in a loop -/
theorem nOK.lt {x : Int32} {i : Nat} (h : nOK x) (hi : i ≤ 12) (c : ¬ x ≤ nI i) : i < 12 := by
  obtain ⟨n, hn, rfl⟩ := h
  rcases Nat.lt_or_ge i n with q | q
  · omega
  · exact absurd (nI_le q (by omega)) c
theorem nOK.t {x t : Int32} (h : nOK x) (h0 : ¬ t < 0) (c : ¬ x ≤ t) : tOK t := by
  obtain ⟨n, hn, rfl⟩ := h
  obtain ⟨j, hj, rfl⟩ := nI_of h0
  rcases Nat.lt_or_ge j n with q | q
  · exact ⟨j, by omega, rfl⟩
  · exact absurd (nI_le q (by omega)) c
theorem kP0 {D : va_G} {cl : List vw_C} {H : Heap} : va_P D cl [] H := fun k q h => by simp at h
theorem nI_nle_lt {k i : Nat} (hi : k < 2 ^ 31 ∧ i < 2 ^ 31) (c : ¬ nI k ≤ nI i) : i < k := by
  rcases Nat.lt_or_ge i k with q | q
  · exact q
  · exact absurd (nI_le q hi.2) c
theorem nOK.tt {x : Int32} (h : nOK x) (c : ¬ 12 ≤ x) : tOK x := by
  obtain ⟨n, hn, rfl⟩ := h
  rcases Nat.lt_or_ge n 12 with q | q
  · exact ⟨n, q, rfl⟩
  · exact absurd (nI_le (a := 12) q (by omega)) c
theorem nOK.tl {x : Int32} (h : nOK x) (c : x < 12) : tOK x := by
  obtain ⟨n, hn, rfl⟩ := h
  rcases Nat.lt_or_ge n 12 with q | q
  · exact ⟨n, q, rfl⟩
  · exact absurd c (nI_nlt (b := 12) q (by omega))
theorem tOK.n {x : Int32} (h : tOK x) : nOK x := by
  obtain ⟨n, hn, rfl⟩ := h
  exact ⟨n, by omega, rfl⟩
theorem kmulI (a b : Nat) : nI a * nI b = nI (a * b) := pk_mul a b
theorem vIn {t k : Int32} (ht : tOK t) (hk : yOK k) : vp_in (t * 16 + k) 192 := by
  obtain ⟨i, hi, rfl⟩ := ht
  obtain ⟨j, hj, rfl⟩ := hk
  rw [show (16 : Int32) = nI 16 from rfl, pk_mul, nI_add]
  exact vp_in_nI (by omega) (by omega)
theorem kne_toInt {x y : Int32} (h : ¬ x = y) : x.toInt ≠ y.toInt := fun q => h (Int32.toInt_inj.mp q)
theorem klook2 {x : Int32} {o0 o1 d : Int} (h0 : ¬ x = 0) (h1 : ¬ x = 1) : Op.lookupswitch.offset [((0 : Int), o0), (1, o1)] d x.toInt = d := by
  have a0 : ¬ (0 : Int) = x.toInt := fun q => kne_toInt h0 (q.symm.trans rfl)
  have a1 : ¬ (1 : Int) = x.toInt := fun q => kne_toInt h1 (q.symm.trans rfl)
  rw [Op.lookupswitch.offset_cons, if_neg a0, Op.lookupswitch.offset_cons, if_neg a1]; rfl
theorem kin12 {x : Int32} (h0 : ¬ x < 0) (c : ¬ 12 ≤ x) : vp_in x 12 := by
  obtain ⟨j, hj, rfl⟩ := nI_of h0
  rcases Nat.lt_or_ge j 12 with q | q
  · exact vp_in_nI q (by omega)
  · exact absurd (nI_le (a := 12) q hj) c
theorem klook5 {x : Int32} {k0 k1 k2 k3 k4 : Int32} {j0 j1 j2 j3 j4 o0 o1 o2 o3 o4 d : Int} (e0 : k0.toInt = j0) (e1 : k1.toInt = j1) (e2 : k2.toInt = j2) (e3 : k3.toInt = j3) (e4 : k4.toInt = j4) (h0 : ¬ x = k0) (h1 : ¬ x = k1) (h2 : ¬ x = k2) (h3 : ¬ x = k3) (h4 : ¬ x = k4) : Op.lookupswitch.offset [(j0, o0), (j1, o1), (j2, o2), (j3, o3), (j4, o4)] d x.toInt = d := by
  subst e0; subst e1; subst e2; subst e3; subst e4
  rw [Op.lookupswitch.offset_cons, if_neg (kne_toInt (Ne.symm h0)), Op.lookupswitch.offset_cons, if_neg (kne_toInt (Ne.symm h1)), Op.lookupswitch.offset_cons, if_neg (kne_toInt (Ne.symm h2)), Op.lookupswitch.offset_cons, if_neg (kne_toInt (Ne.symm h3)), Op.lookupswitch.offset_cons, if_neg (kne_toInt (Ne.symm h4))]; rfl
/-- the pad: its length, and where the reader stands -/
def pOK (len at_ : Int32) : Prop := ∃ n k : Nat, n ≤ 80 ∧ k ≤ n ∧ len = nI n ∧ at_ = nI k
def pLT (len at_ : Int32) : Prop := ∃ n k : Nat, n ≤ 80 ∧ k < n ∧ len = nI n ∧ at_ = nI k
def pLn (len : Int32) : Prop := ∃ n : Nat, n ≤ 80 ∧ len = nI n
theorem pOK.ln {x y : Int32} (h : pOK x y) : pLn x := by
  obtain ⟨n, k, h1, h2, h3, h4⟩ := h; exact ⟨n, h1, h3⟩
theorem pLn.zero {x : Int32} (h : pLn x) : pOK x 0 := by
  obtain ⟨n, h1, h3⟩ := h; exact ⟨n, 0, h1, by omega, h3, rfl⟩
theorem pOK.lt {x y : Int32} (h : pOK x y) (c : ¬ x ≤ y) : pLT x y := by
  obtain ⟨n, k, h1, h2, rfl, rfl⟩ := h
  refine ⟨n, k, h1, ?_, rfl, rfl⟩
  rcases Nat.lt_or_ge k n with q | q
  · exact q
  · exact absurd (nI_le q (by omega)) c
theorem pLT.ok {x y : Int32} (h : pLT x y) : pOK x y := by
  obtain ⟨n, k, h1, h2, h3, h4⟩ := h; exact ⟨n, k, h1, by omega, h3, h4⟩
theorem pLT.next {x y : Int32} (h : pLT x y) : pOK x (y + 1) := by
  obtain ⟨n, k, h1, h2, h3, rfl⟩ := h; exact ⟨n, k + 1, h1, by omega, h3, nI_1 k⟩
theorem pLT.in80 {x y : Int32} (h : pLT x y) : vp_in y 80 := by
  obtain ⟨n, k, h1, h2, h3, rfl⟩ := h; exact vp_in_nI (by omega) (by omega)
/-- appending: k signs are left, n stand -/
def pAp (x q : Int32) (m : Nat) : Prop := ∃ k n : Nat, x = nI k - 1 ∧ q = nI n ∧ n + k ≤ 80 ∧ k < m
theorem pAp.no {x q : Int32} (h : pAp x q 0) : False := by
  obtain ⟨k, n, h1, h2, h3, h4⟩ := h; omega
theorem pAp.init {len : Int32} {i : Nat} (h : pLn len) (hi : i ≤ 8) (c : len + nI i ≤ 80) : pAp (nI i - 1) len 9 := by
  obtain ⟨n, h1, rfl⟩ := h
  refine ⟨i, n, rfl, rfl, ?_, by omega⟩
  rw [nI_add] at c
  exact (nI_leI (a := n + i) (b := 80) (by omega) (by omega)).mp c
theorem pAp.pos {x q : Int32} {m : Nat} (h : pAp x q m) (c : ¬ x < 0) : ∃ k n : Nat, x = nI k ∧ q = nI n ∧ n + k < 80 ∧ k + 1 < m := by
  obtain ⟨k, n, rfl, h2, h3, h4⟩ := h
  cases k with
  | zero => exact absurd (by decide) c
  | succ k => exact ⟨k, n, nI_pred k, h2, by omega, h4⟩
theorem pAp.in80 {x q : Int32} {m : Nat} (h : pAp x q m) (c : ¬ x < 0) : vp_in q 80 := by
  obtain ⟨k, n, h1, rfl, h3, h4⟩ := h.pos c; exact vp_in_nI (by omega) (by omega)
theorem pAp.step {x q : Int32} {m : Nat} (h : pAp x q (m + 1)) (c : ¬ x < 0) : pAp (x + (-1)) (q + 1) m := by
  obtain ⟨k, n, rfl, rfl, h3, h4⟩ := h.pos c
  refine ⟨k, n + 1, ?_, nI_1 n, by omega, by omega⟩
  rw [Int32.sub_eq_add_neg]
theorem kbool {x : Int32} (h : x = 0 ∨ x = 1) : narrow .boolean (.int x) = .int x := by
  rcases h with rfl | rfl <;> rfl
theorem kGen {α : Sort _} {P : Prop} (x : α) (h : ∀ g : α, x = g → P) : P := h x rfl
theorem kLet {α β : Type} {x : α} {f : α → β} (P : β → Prop) (Q : α → Prop) (hx : Q x) (h : ∀ g, Q g → P (f g)) : P (f x) := h x hx
/-! the reference's row of numbers: its indices -/
def wOK (w : Int32) : Prop := ∃ j : Nat, j < 23 ∧ w = nI j
def bOK (N : Nat) (x : Int32) : Prop := ∃ n : Nat, n ≤ N ∧ x = nI n
theorem itsIn {t w : Int32} (ht : tOK t) (hw : wOK w) : vp_in ((3 + (23 * t)) + w) 279 := by
  obtain ⟨i, hi, rfl⟩ := ht
  obtain ⟨j, hj, rfl⟩ := hw
  rw [show (23 : Int32) = nI 23 from rfl, show (3 : Int32) = nI 3 from rfl, pk_mul, nI_add, nI_add]
  exact vp_in_nI (by omega) (by omega)
theorem wOK.val {k : Int32} (h : yOK k) : wOK (7 + k) := by
  obtain ⟨j, hj, rfl⟩ := h
  exact ⟨7 + j, by omega, by rw [show (7 : Int32) = nI 7 from rfl, nI_add]⟩
theorem itsC (i j : Nat) : ((3 + (23 * nI i)) + nI j).toNatClampNeg = (nI (3 + 23 * i + j)).toNatClampNeg := by
  rw [show (23 : Int32) = nI 23 from rfl, show (3 : Int32) = nI 3 from rfl, pk_mul, nI_add, nI_add]
theorem itsNat {i j : Nat} (hi : i < 12) (hj : j < 23) : ((3 + (23 * nI i)) + nI j).toNatClampNeg = 3 + 23 * i + j := by rw [itsC, nI_clamp (by omega)]
theorem kinA {i k N : Nat} (h : i + k < N) (hN : N < 2 ^ 31) : vp_in (nI i + nI k) N := by
  rw [nI_add]; exact vp_in_nI h hN
theorem pastIn {x : Int32} {i : Nat} (h : bOK 5 x) (hi : i < 279) : vp_in ((x * 279) + nI i) 1674 := by
  obtain ⟨n, hn, rfl⟩ := h
  rw [show (279 : Int32) = nI 279 from rfl, pk_mul, nI_add]
  exact vp_in_nI (by omega) (by omega)
theorem slotIn {x : Int32} {i : Nat} (h : bOK 1 x) (hi : i < 279) : vp_in ((x * 279) + nI i) 558 := by
  obtain ⟨n, hn, rfl⟩ := h
  rw [show (279 : Int32) = nI 279 from rfl, pk_mul, nI_add]
  exact vp_in_nI (by omega) (by omega)
theorem bOK.in2 {x : Int32} (h : bOK 1 x) : vp_in x 2 := by
  obtain ⟨n, hn, rfl⟩ := h
  exact vp_in_nI (by omega) (by omega)
theorem bOK.ne6 {x : Int32} (h : bOK 6 x) (c : ¬ x = 6) : bOK 5 x := by
  obtain ⟨n, hn, rfl⟩ := h
  refine ⟨n, ?_, rfl⟩
  rcases Nat.lt_or_ge n 6 with q | q
  · omega
  · exact absurd (by rw [show n = 6 from by omega]; rfl) c
theorem bOK.eq6 {x : Int32} (c : x = 6) : bOK 5 (x - 1) := ⟨5, by omega, by rw [c]; rfl⟩
theorem bOK.ne0 {x : Int32} (h : bOK 6 x) (c : ¬ x = 0) : bOK 5 (x - 1) := by
  obtain ⟨n, hn, rfl⟩ := h
  cases n with
  | zero => exact absurd rfl c
  | succ n => exact ⟨n, by omega, nI_pred n⟩
theorem kor {x y : Int32} {P : Prop} (h : x = y ∨ P) (c : ¬ x = y) : P := h.resolve_left c
/-- a set's bits: what is left falls -/
def kpop : Nat → Nat → Nat
  | 0, _ => 0
  | k + 1, n => kpop k (n / 2) + n % 2
theorem kpop_le (k : Nat) : ∀ n, kpop k n ≤ k := by
  induction k with
  | zero => intro n; exact Nat.le_refl 0
  | succ k ih => intro n; have h1 := ih (n / 2); have h2 : n % 2 < 2 := Nat.mod_lt _ (by decide); show kpop k (n / 2) + n % 2 ≤ k + 1; omega
theorem kpop0 (k : Nat) : kpop k 0 = 0 := by
  induction k with
  | zero => rfl
  | succ k ih => show kpop k 0 + 0 = 0; rw [ih]
theorem kpop_low : ∀ (k n : Nat), n < 2 ^ k → 0 < n → kpop k (n &&& (n - 1)) + 1 = kpop k n := by
  intro k
  induction k with
  | zero => intro n h1 h2; simp at h1; omega
  | succ k ih =>
    intro n h1 h2
    rw [Nat.pow_succ] at h1
    show kpop k ((n &&& (n - 1)) / 2) + (n &&& (n - 1)) % 2 + 1 = kpop k (n / 2) + n % 2
    have hd : (n &&& (n - 1)) / 2 = (n / 2) &&& ((n - 1) / 2) := Nat.and_div_two_pow (n := 1)
    have hm : (n &&& (n - 1)) % 2 = 0 := by
      have e : (n &&& (n - 1)) % 2 ^ 1 = (n % 2 ^ 1) &&& ((n - 1) % 2 ^ 1) := Nat.and_mod_two_pow
      rw [Nat.pow_one] at e
      rw [e]
      rcases Nat.mod_two_eq_zero_or_one n with q | q
      · rw [q]; exact Nat.zero_and _
      · rw [show (n - 1) % 2 = 0 from by omega]; exact Nat.and_zero _
    rw [hd, hm]
    rcases Nat.mod_two_eq_zero_or_one n with q | q
    · have h3 : (n - 1) / 2 = n / 2 - 1 := by omega
      rw [h3, q]
      have := ih (n / 2) (by omega) (by omega)
      omega
    · have h3 : (n - 1) / 2 = n / 2 := by omega
      rw [h3, q, Nat.and_self]
def bMe (x : Int32) (m : Nat) : Prop := ∃ n : Nat, n < 65536 ∧ x = nI n ∧ kpop 16 n < m
theorem bMe.no {x : Int32} (h : bMe x 0) : False := by
  obtain ⟨n, h1, h2, h3⟩ := h; omega
theorem bMe.init {x : Int32} (h : bOK 65535 x) : bMe x 17 := by
  obtain ⟨n, h1, h2⟩ := h
  exact ⟨n, by omega, h2, Nat.lt_succ_of_le (kpop_le 16 n)⟩
theorem kandI (a b : Nat) : nI a &&& nI b = nI (a &&& b) := by
  apply Int32.toBitVec_inj.1
  show BitVec.ofNat 32 a &&& BitVec.ofNat 32 b = BitVec.ofNat 32 (a &&& b)
  apply BitVec.eq_of_getLsbD_eq
  intro i hi
  simp [hi]
theorem bMe.step {x : Int32} {m : Nat} (h : bMe x (m + 1)) (c : ¬ x = 0) : bMe (x &&& (x - 1)) m := by
  obtain ⟨n, h1, rfl, h3⟩ := h
  cases n with
  | zero => exact absurd rfl c
  | succ n =>
    rw [nI_pred, kandI]
    have h4 := kpop_low 16 (n + 1) (by omega) (by omega)
    rw [Nat.add_sub_cancel] at h4
    exact ⟨(n + 1) &&& n, Nat.lt_of_le_of_lt Nat.and_le_left h1, rfl, by omega⟩
theorem wOK.eq {x : Int32} {k : Nat} (h : x = nI k) (hk : k < 23) : wOK x := ⟨k, hk, h⟩
theorem nOK.ne12 {x : Int32} (h : nOK x) (c : ¬ x = 12) : tOK x := by
  obtain ⟨n, hn, rfl⟩ := h
  rcases Nat.lt_or_ge n 12 with q | q
  · exact ⟨n, q, rfl⟩
  · exact absurd (by rw [show n = 12 from by omega]; rfl) c
theorem kout0_8 {x : Int32} (c0 : ¬ x = 0) (c1 : ¬ x = 1) (c2 : ¬ x = 2) (c3 : ¬ x = 3) (c4 : ¬ x = 4) (c5 : ¬ x = 5) (c6 : ¬ x = 6) (c7 : ¬ x = 7) (c8 : ¬ x = 8) : x.toInt < 0 ∨ 8 < x.toInt := by
  have a0 : x.toInt ≠ 0 := kne_toInt c0
  have a1 : x.toInt ≠ 1 := kne_toInt c1
  have a2 : x.toInt ≠ 2 := kne_toInt c2
  have a3 : x.toInt ≠ 3 := kne_toInt c3
  have a4 : x.toInt ≠ 4 := kne_toInt c4
  have a5 : x.toInt ≠ 5 := kne_toInt c5
  have a6 : x.toInt ≠ 6 := kne_toInt c6
  have a7 : x.toInt ≠ 7 := kne_toInt c7
  have a8 : x.toInt ≠ 8 := kne_toInt c8
  omega
theorem kout0_11 {x : Int32} (c0 : ¬ x = 0) (c1 : ¬ x = 1) (c2 : ¬ x = 2) (c3 : ¬ x = 3) (c4 : ¬ x = 4) (c5 : ¬ x = 5) (c6 : ¬ x = 6) (c7 : ¬ x = 7) (c8 : ¬ x = 8) (c9 : ¬ x = 9) (c10 : ¬ x = 10) (c11 : ¬ x = 11) : x.toInt < 0 ∨ 11 < x.toInt := by
  have h := kout0_8 c0 c1 c2 c3 c4 c5 c6 c7 c8
  have a9 : x.toInt ≠ 9 := kne_toInt c9
  have a10 : x.toInt ≠ 10 := kne_toInt c10
  have a11 : x.toInt ≠ 11 := kne_toInt c11
  omega
theorem bOK.and {x y : Int32} (h : bOK 65535 x) (g : bOK 65535 y) : bOK 65535 (x &&& y) := by
  obtain ⟨n, hn, rfl⟩ := h
  obtain ⟨k, hk, rfl⟩ := g
  rw [kandI]
  have hle : n &&& k ≤ n := Nat.and_le_left
  exact ⟨n &&& k, by omega, rfl⟩
