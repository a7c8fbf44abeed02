/-! the system: ninety cells; ad x: where the x-th lies. Ledgers 8 j .. 8 j + 7 (0 the ledger, 1 and 2 the slots, 3 .. 9 the history's rows), the object 80, its slots 81, its flags 82, the history 83, its rows 84, the pad 85, its signs 86, the sequence 87 .. 89 -/
abbrev kS : Type := Nat → kG
def gset (S : kS) (j : Nat) (v : kG) : kS := fun k => if k = j then v else S k
theorem gset_eq (S : kS) (j : Nat) (v : kG) : gset S j v j = v := by simp [gset]
theorem gset_ne (S : kS) {j k : Nat} (v : kG) (h : k ≠ j) : gset S j v k = S k := by simp [gset, h]
def ga (ad : Nat → Nat) (x : Nat) : Nat → Nat := fun i => ad (x + i)
def kSep (ad : Nat → Nat) : Prop := ∀ x y, x < 90 → y < 90 → ad x = ad y → x = y
theorem kSep.inj {ad : Nat → Nat} (h : kSep ad) {x n : Nat} (hx : x + n ≤ 90) : kInj (ga ad x) n := fun i j hi hj e => by
  have := h (x + i) (x + j) (by omega) (by omega) e
  omega
theorem kSep.ap {ad : Nat → Nat} (h : kSep ad) {x n y k : Nat} (hx : x + n ≤ 90) (hy : y + k ≤ 90) (hd : x + n ≤ y ∨ y + k ≤ x) : kAp (ga ad x) n (ga ad y) k := fun i j hi hj e => by
  have := h (x + i) (y + j) (by omega) (by omega) e
  omega
theorem kSep.no {ad : Nat → Nat} (h : kSep ad) {x n y k : Nat} (hx : x + n ≤ 90) (hy : y + k ≤ 90) (hd : x + n ≤ y ∨ y + k ≤ x) : ∀ q, kA (ga ad x) n q → ¬ kA (ga ad y) k q := by
  intro q ⟨i, hi, e1⟩ ⟨j, hj, e2⟩
  exact h.ap hx hy hd i j hi hj (e1.symm.trans e2)
def wMain (E : kE) (ad : Nat → Nat) (v : kG) : va_W := [(ad 80, .inr (4, [.ref (ad 0), .ref (ad 83), .ref (ad 81), .ref (ad 82), .ref (ad 85), .ref (ad 87)])), (ad 81, .inl (E.2 3, 2, .inr (.inr (.inr (.inr (fun i => some (ad (8 * (1 + i)))))))) ), (ad 82, .inl (E.2 1, 2, .inl (v 1)))]
def wHF (E : kE) (ad : Nat → Nat) (v : kG) : va_W := wHisx E (ga ad 83) (v 0 0) (v 0 1) ++ [(ad 84, .inl (E.2 3, 7, .inr (.inr (.inr (.inr (fun i => some (ad (8 * (3 + i)))))))))]
theorem dMain {E : kE} {ad : Nat → Nat} (h : kSep ad) (v : kG) : va_D (kA (ga ad 80) 3) (wMain E ad v) := kD_of (h.inj (by omega)) rfl
theorem dHF {E : kE} {ad : Nat → Nat} (h : kSep ad) (v : kG) : va_D (kA (ga ad 83) 2) (wHF E ad v) := kD_of (h.inj (by omega)) rfl
def Sys (E : kE) (ad : Nat → Nat) (S : kS) (H : Heap) : Prop := (∀ j, j < 10 → va_P E.1 vwCl (wLed E (ga ad (8 * j)) (S j)) H) ∧ va_P E.1 vwCl (wMain E ad (S 10)) H ∧ va_P E.1 vwCl (wHF E ad (S 11)) H ∧ va_P E.1 vwCl (wPad E (ga ad 85) (S 12)) H ∧ va_P E.1 vwCl (wSeq E (ga ad 87) (S 13)) H
/-- one stretch of cells has changed: the others stand -/
theorem Sys.keepL {E : kE} {ad : Nat → Nat} {S : kS} {H H1 : Heap} (h : Sys E ad S H) (hs : kSep ad) {A : Nat → Prop} (hk : ∀ q : Nat, q < H.size → ¬ A q → H1[q]? = H[q]?) (j : Nat) (hj : j < 10) (hA : ∀ q, kA (ga ad (8 * j)) 8 q → ¬ A q) : va_P E.1 vwCl (wLed E (ga ad (8 * j)) (S j)) H1 := kP_kept (h.1 j hj) (dLed (hs.inj (by omega)) _ _ _ _ _ _ _ _ _ _) hA hk
theorem Sys.keepM {E : kE} {ad : Nat → Nat} {S : kS} {H H1 : Heap} (h : Sys E ad S H) (hs : kSep ad) {A : Nat → Prop} (hk : ∀ q : Nat, q < H.size → ¬ A q → H1[q]? = H[q]?) (hA : ∀ q, kA (ga ad 80) 3 q → ¬ A q) : va_P E.1 vwCl (wMain E ad (S 10)) H1 := kP_kept h.2.1 (dMain hs _) hA hk
theorem Sys.keepH {E : kE} {ad : Nat → Nat} {S : kS} {H H1 : Heap} (h : Sys E ad S H) (hs : kSep ad) {A : Nat → Prop} (hk : ∀ q : Nat, q < H.size → ¬ A q → H1[q]? = H[q]?) (hA : ∀ q, kA (ga ad 83) 2 q → ¬ A q) : va_P E.1 vwCl (wHF E ad (S 11)) H1 := kP_kept h.2.2.1 (dHF hs _) hA hk
theorem Sys.keepP {E : kE} {ad : Nat → Nat} {S : kS} {H H1 : Heap} (h : Sys E ad S H) (hs : kSep ad) {A : Nat → Prop} (hk : ∀ q : Nat, q < H.size → ¬ A q → H1[q]? = H[q]?) (hA : ∀ q, kA (ga ad 85) 2 q → ¬ A q) : va_P E.1 vwCl (wPad E (ga ad 85) (S 12)) H1 := kP_kept h.2.2.2.1 (dPad (hs.inj (by omega)) _ _ _ _ _ _ _ _) hA hk
theorem Sys.keepQ {E : kE} {ad : Nat → Nat} {S : kS} {H H1 : Heap} (h : Sys E ad S H) (hs : kSep ad) {A : Nat → Prop} (hk : ∀ q : Nat, q < H.size → ¬ A q → H1[q]? = H[q]?) (hA : ∀ q, kA (ga ad 87) 3 q → ¬ A q) : va_P E.1 vwCl (wSeq E (ga ad 87) (S 13)) H1 := kP_kept h.2.2.2.2 (dSeq (hs.inj (by omega)) _ _) hA hk
theorem Sys.putL {E : kE} {ad : Nat → Nat} {S : kS} {H H1 : Heap} (h : Sys E ad S H) (hs : kSep ad) {j : Nat} (hj : j < 10) (v : kG) (hP : va_P E.1 vwCl (wLed E (ga ad (8 * j)) v) H1) (hk : ∀ q : Nat, q < H.size → ¬ kA (ga ad (8 * j)) 8 q → H1[q]? = H[q]?) : Sys E ad (gset S j v) H1 := by
  refine ⟨fun i hi => ?_, ?_, ?_, ?_, ?_⟩
  · by_cases e : i = j
    · subst e; rw [gset_eq]; exact hP
    · rw [gset_ne S v e]; exact h.keepL hs hk i hi (hs.no (by omega) (by omega) (by omega))
  · rw [gset_ne S v (by omega)]; exact h.keepM hs hk (hs.no (by omega) (by omega) (by omega))
  · rw [gset_ne S v (by omega)]; exact h.keepH hs hk (hs.no (by omega) (by omega) (by omega))
  · rw [gset_ne S v (by omega)]; exact h.keepP hs hk (hs.no (by omega) (by omega) (by omega))
  · rw [gset_ne S v (by omega)]; exact h.keepQ hs hk (hs.no (by omega) (by omega) (by omega))
theorem Sys.putP {E : kE} {ad : Nat → Nat} {S : kS} {H H1 : Heap} (h : Sys E ad S H) (hs : kSep ad) (v : kG) (hP : va_P E.1 vwCl (wPad E (ga ad 85) v) H1) (hk : ∀ q : Nat, q < H.size → ¬ kA (ga ad 85) 2 q → H1[q]? = H[q]?) : Sys E ad (gset S 12 v) H1 := by
  refine ⟨fun i hi => ?_, ?_, ?_, ?_, ?_⟩
  · rw [gset_ne S v (by omega)]; exact h.keepL hs hk i hi (hs.no (by omega) (by omega) (by omega))
  · rw [gset_ne S v (by omega)]; exact h.keepM hs hk (hs.no (by omega) (by omega) (by omega))
  · rw [gset_ne S v (by omega)]; exact h.keepH hs hk (hs.no (by omega) (by omega) (by omega))
  · rw [gset_eq]; exact hP
  · rw [gset_ne S v (by omega)]; exact h.keepQ hs hk (hs.no (by omega) (by omega) (by omega))
/-- the history's two numbers -/
theorem Sys.putH {E : kE} {ad : Nat → Nat} {S : kS} {H H1 : Heap} (h : Sys E ad S H) (hs : kSep ad) (v : kG) (hP : va_P E.1 vwCl (wHis E (ga ad 83) v) H1) (hk : ∀ q : Nat, q < H.size → ¬ kA (ga ad 83) 1 q → H1[q]? = H[q]?) : Sys E ad (gset S 11 v) H1 := by
  refine ⟨fun i hi => ?_, ?_, ?_, ?_, ?_⟩
  · rw [gset_ne S v (by omega)]; exact h.keepL hs hk i hi (hs.no (by omega) (by omega) (by omega))
  · rw [gset_ne S v (by omega)]; exact h.keepM hs hk (hs.no (by omega) (by omega) (by omega))
  · rw [gset_eq]
    refine hP.app (kP_kept (A := kA (ga ad 84) 1) (kP_r h.2.2.1) (kD_of (hs.inj (by omega)) rfl) (hs.no (x := 84) (y := 83) (by omega) (by omega) (by omega)) hk)
  · rw [gset_ne S v (by omega)]; exact h.keepP hs hk (hs.no (by omega) (by omega) (by omega))
  · rw [gset_ne S v (by omega)]; exact h.keepQ hs hk (hs.no (by omega) (by omega) (by omega))
/-- the sequence, beside the ledger that it only reads -/
theorem Sys.putQ {E : kE} {ad : Nat → Nat} {S : kS} {H H1 : Heap} (h : Sys E ad S H) (hs : kSep ad) (v : kG) (hP : va_P E.1 vwCl (wSeq E (ga ad 87) v ++ wLed E (ga ad 0) (S 0)) H1) (hk : ∀ q : Nat, q < H.size → ¬ (kA (ga ad 87) 3 q ∨ kA (ga ad 0) 8 q) → H1[q]? = H[q]?) : Sys E ad (gset S 13 v) H1 := by
  have hno : ∀ {x n : Nat}, x + n ≤ 87 → 8 ≤ x → ∀ q, kA (ga ad x) n q → ¬ (kA (ga ad 87) 3 q ∨ kA (ga ad 0) 8 q) := by
    intro x n h1 h2 q hq hc
    rcases hc with c | c
    · exact hs.no (by omega) (by omega) (by omega) q hq c
    · exact hs.no (by omega) (by omega) (by omega) q hq c
  refine ⟨fun i hi => ?_, ?_, ?_, ?_, ?_⟩
  · rw [gset_ne S v (by omega)]
    cases i with
    | zero => exact kP_r hP
    | succ i => exact h.keepL hs hk (i + 1) hi (hno (by omega) (by omega))
  · rw [gset_ne S v (by omega)]; exact h.keepM hs hk (hno (by omega) (by omega))
  · rw [gset_ne S v (by omega)]; exact h.keepH hs hk (hno (by omega) (by omega))
  · rw [gset_ne S v (by omega)]; exact h.keepP hs hk (hno (by omega) (by omega))
  · rw [gset_eq]; exact kP_l hP
/-- a ledger taken over into another one -/
theorem Sys.put2 {E : kE} {ad : Nat → Nat} {S : kS} {H H1 : Heap} (h : Sys E ad S H) (hs : kSep ad) {i j : Nat} (hi : i < 10) (hj : j < 10) (hij : i ≠ j) (v : kG) (hP : va_P E.1 vwCl (wLed E (ga ad (8 * i)) v ++ wLed E (ga ad (8 * j)) (S j)) H1) (hk : ∀ q : Nat, q < H.size → ¬ (kA (ga ad (8 * i)) 8 q ∨ kA (ga ad (8 * j)) 8 q) → H1[q]? = H[q]?) : Sys E ad (gset S i v) H1 := by
  have hno : ∀ {x n : Nat}, x + n ≤ 90 → (x + n ≤ 8 * i ∨ 8 * i + 8 ≤ x) → (x + n ≤ 8 * j ∨ 8 * j + 8 ≤ x) → ∀ q, kA (ga ad x) n q → ¬ (kA (ga ad (8 * i)) 8 q ∨ kA (ga ad (8 * j)) 8 q) := by
    intro x n h1 h2 h3 q hq hc
    rcases hc with c | c
    · exact hs.no (by omega) (by omega) (by omega) q hq c
    · exact hs.no (by omega) (by omega) (by omega) q hq c
  refine ⟨fun k hk2 => ?_, ?_, ?_, ?_, ?_⟩
  · by_cases e : k = i
    · subst e; rw [gset_eq]; exact kP_l hP
    · rw [gset_ne S v e]
      by_cases e2 : k = j
      · subst e2; exact kP_r hP
      · exact h.keepL hs hk k hk2 (hno (by omega) (by omega) (by omega))
  · rw [gset_ne S v (by omega)]; exact h.keepM hs hk (hno (by omega) (by omega) (by omega))
  · rw [gset_ne S v (by omega)]; exact h.keepH hs hk (hno (by omega) (by omega) (by omega))
  · rw [gset_ne S v (by omega)]; exact h.keepP hs hk (hno (by omega) (by omega) (by omega))
  · rw [gset_ne S v (by omega)]; exact h.keepQ hs hk (hno (by omega) (by omega) (by omega))
theorem Sys.dir {E : kE} {ad : Nat → Nat} {S : kS} {H : Heap} (h : Sys E ad S H) (j : Nat) (hj : j < 10) : va_P E.1 vwCl (wLed E (ga ad (8 * j)) (S j)) H := h.1 j hj
theorem kA_sub {ad : Nat → Nat} {x n : Nat} (h : x + n ≤ 90) : ∀ q, kA (ga ad x) n q → kA ad 90 q := fun q ⟨i, hi, e⟩ => ⟨x + i, by omega, e⟩
theorem kA_sub2 {ad : Nat → Nat} {x n y k : Nat} (h : x + n ≤ 90) (h2 : y + k ≤ 90) : ∀ q, (kA (ga ad x) n q ∨ kA (ga ad y) k q) → kA ad 90 q := fun q hq => hq.elim (kA_sub h q) (kA_sub h2 q)
/-- a method's start over the system, and its ends -/
def kPreY (E : kE) (av : List Value) (ad : Nat → Nat) (S : kS) : Array Value → State → Prop := va_Pc av (fun U => kK E U ∧ Sys E ad S U.heap)
theorem kPreY_blind {E : kE} {av : List Value} {ad : Nat → Nat} {S : kS} : FrameBlind (kPreY E av ad S) := fun a U g mk q => by
  obtain ⟨q0, q1, q2⟩ := q
  exact ⟨q0, ⟨va_K.moved (u := U) (U := U.calling g mk a) (Vm.Alike.refl U.vm) q1.1, kNest_same (u := U) (U := U.calling g mk a) rfl q1.2⟩, q2⟩
theorem kPreYV {E : kE} {As : List Value} {ws : va_W} {s : State} {H : Heap} {b q0 ci : Nat} {r : vw_C} {fs : List Value} {ad : Nat → Nat} {S : kS} (hK : kK E s) (hP : va_P E.1 vwCl ws H) (hY : Sys E ad S H) (he : ws[q0]? = some (b, .inr (ci, fs))) (hc : vwCl[ci]? = some r) : PreV s H r.1 b (kPreY E (.ref b :: As) ad S) As := ⟨kPreY_blind, va_recv hK.1 hP hc he, fun U hU hW => ⟨rfl, hK.warm hW, by rw [hU]; exact hY⟩⟩
def kYi (E : kE) (r : Int32) (ad : Nat → Nat) (S : kS) : Array Value → State → Outcome → State → Prop := fun _ st oc t => oc = .returned (some (.int r)) ∧ Sys E ad S t.heap ∧ va_F (kA ad 90) st t
def kYv (E : kE) (ad : Nat → Nat) (S : kS) : Array Value → State → Outcome → State → Prop := fun _ st oc t => oc = .returned none ∧ Sys E ad S t.heap ∧ va_F (kA ad 90) st t
section KY
variable {p : Program} {l : Launch} {e : Env} {R : Room} {s : State} {m : MethodId} {args : Array Value} {below : List Frame} {meth : Method} {c : Code} {H : Heap} {locs : List Loc} {cells slots : Nat} {Q : State → Prop}
variable {pc : Nat} {ls : Array Slot} {rest st0 : List Value} {a : Array Value} {A : Nat → Prop} {H0 : Heap} {E : kE} {r : Int32} {ad : Nat → Nat} {S : kS}
theorem kCallYi (hr : va_Run p l e R s m args below meth c H locs cells slots 0 0 (F0 m pc ls st0) rest (kYi E r ad S a) (kA ad 90)) (hS : va_S A H0 H locs) (hA : ∀ q, kA ad 90 q → A q)
    (kk : ∀ (H1 : Heap) (locs1 : List Loc), Sys E ad S H1 → H.size ≤ H1.size → (∀ q : Nat, q < H.size → ¬ kA ad 90 q → H1[q]? = H[q]?) → va_S A H0 H1 locs1 → W p l e R s m args below meth c H1 locs1 cells slots Q (F0 m (pc + 3) ls (.int r :: rest))) : W p l e R s m args below meth c H locs cells slots Q (F0 m pc ls st0) := by
  intro T hT X
  obtain ⟨v, st₀, t, T', L, h0, X', hL, e1, e2, ⟨hv, hp, hz, hk⟩, st⟩ := hr T hT X
  cases hv
  rw [h0] at hz hk
  obtain ⟨t2, a1, b1⟩ := kk T'.heap (locs ++ L) (by rw [e1]; exact hp) (by rw [e1]; exact hz) (fun q h1 h2 => by rw [e1]; exact hk q h1 h2)
    ⟨Nat.le_trans hS.1 (by rw [e1]; exact hz), fun q h1 h2 => by rw [e1, hk q (Nat.lt_of_lt_of_le h1 hS.1) (fun z => h2 (hA q z))]; exact hS.2.1 q h1 h2, fun q hq => by
      rcases List.mem_append.mp hq with h | h
      · exact hS.2.2 q h
      · exact hA _ (hL q h)⟩ T' rfl X'
  exact ⟨t2, st t2 a1, b1⟩
theorem kCallYv (hr : va_Run p l e R s m args below meth c H locs cells slots 0 0 (F0 m pc ls st0) rest (kYv E ad S a) (kA ad 90)) (hS : va_S A H0 H locs) (hA : ∀ q, kA ad 90 q → A q)
    (kk : ∀ (H1 : Heap) (locs1 : List Loc), Sys E ad S H1 → H.size ≤ H1.size → (∀ q : Nat, q < H.size → ¬ kA ad 90 q → H1[q]? = H[q]?) → va_S A H0 H1 locs1 → W p l e R s m args below meth c H1 locs1 cells slots Q (F0 m (pc + 3) ls rest)) : W p l e R s m args below meth c H locs cells slots Q (F0 m pc ls st0) := by
  intro T hT X
  obtain ⟨v, st₀, t, T', L, h0, X', hL, e1, e2, ⟨hv, hp, hz, hk⟩, st⟩ := hr T hT X
  cases hv
  rw [h0] at hz hk
  obtain ⟨t2, a1, b1⟩ := kk T'.heap (locs ++ L) (by rw [e1]; exact hp) (by rw [e1]; exact hz) (fun q h1 h2 => by rw [e1]; exact hk q h1 h2)
    ⟨Nat.le_trans hS.1 (by rw [e1]; exact hz), fun q h1 h2 => by rw [e1, hk q (Nat.lt_of_lt_of_le h1 hS.1) (fun z => h2 (hA q z))]; exact hS.2.1 q h1 h2, fun q hq => by
      rcases List.mem_append.mp hq with h | h
      · exact hS.2.2 q h
      · exact hA _ (hL q h)⟩ T' rfl X'
  exact ⟨t2, st t2 a1, b1⟩
end KY

