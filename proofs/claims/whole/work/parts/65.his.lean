/-! history, slots, pad: the whole relation -/
def hRow (nx k i : Nat) : Nat := 3 + (nx + 7 - k + i) % 7
def HisR (B : Nat) (S : kS) (u : kG) : Prop := ∃ nx k, nx < 7 ∧ k ≤ 6 ∧ S 11 0 1 = nI nx ∧ S 11 0 0 = nI k ∧ u 0 0 = nI k ∧ ∀ i, i < k → RV B (S (hRow nx k i)) (fun q => u 2 (279 * i + q))
def SloR (B : Nat) (S : kS) (u : kG) : Prop := ∀ i, i < 2 → S 10 1 i = u 4 i ∧ (¬ u 4 i = 0 → RV B (S (1 + i)) (fun q => u 3 (279 * i + q)))
def PadR (S : kS) (u : kG) : Prop := ∃ L, L ≤ 80 ∧ S 12 0 0 = nI L ∧ u 0 1 = nI L ∧ ∀ k, k < L → u 5 k = S 12 1 k
def RR (B : Nat) (S : kS) (u : kG) : Prop := RV B (S 0) (u 1) ∧ HisR B S u ∧ SloR B S u ∧ PadR S u
theorem HisR.mono {B B' : Nat} {S : kS} {u : kG} (h : HisR B S u) (hb : B ≤ B') : HisR B' S u := by
  obtain ⟨nx, k, a1, a2, a3, a4, a5, a6⟩ := h
  exact ⟨nx, k, a1, a2, a3, a4, a5, fun i hi => (a6 i hi).mono hb⟩
theorem SloR.mono {B B' : Nat} {S : kS} {u : kG} (h : SloR B S u) (hb : B ≤ B') : SloR B' S u := fun i hi => ⟨(h i hi).1, fun z => ((h i hi).2 z).mono hb⟩
theorem RR.mono {B B' : Nat} {S : kS} {u : kG} (h : RR B S u) (hb : B ≤ B') : RR B' S u := ⟨h.1.mono hb, h.2.1.mono hb, h.2.2.1.mono hb, h.2.2.2⟩
theorem HisR.congr {B : Nat} {S S' : kS} {u u' : kG} (h : HisR B S u) (h1 : ∀ j, 3 ≤ j → j < 10 → S' j = S j) (h2 : S' 11 = S 11) (h3 : u' 0 0 = u 0 0) (h4 : u' 2 = u 2) : HisR B S' u' := by
  obtain ⟨nx, k, a1, a2, a3, a4, a5, a6⟩ := h
  refine ⟨nx, k, a1, a2, by rw [h2]; exact a3, by rw [h2]; exact a4, by rw [h3]; exact a5, fun i hi => ?_⟩
  rw [h1 _ (by unfold hRow; omega) (by unfold hRow; omega), h4]
  exact a6 i hi
theorem SloR.congr {B : Nat} {S S' : kS} {u u' : kG} (h : SloR B S u) (h1 : S' 1 = S 1) (h2 : S' 2 = S 2) (h3 : S' 10 = S 10) (h4 : u' 3 = u 3) (h5 : u' 4 = u 4) : SloR B S' u' := by
  intro i hi
  rw [h3, h4, h5]
  have e : S' (1 + i) = S (1 + i) := by
    rcases Nat.lt_or_ge i 1 with q | q
    · rw [show 1 + i = 1 by omega]; exact h1
    · rw [show 1 + i = 2 by omega]; exact h2
  rw [e]
  exact h i hi
theorem PadR.congr {S S' : kS} {u u' : kG} (h : PadR S u) (h1 : S' 12 0 0 = S 12 0 0) (h2 : S' 12 1 = S 12 1) (h3 : u' 0 1 = u 0 1) (h4 : u' 5 = u 5) : PadR S' u' := by
  obtain ⟨L, a1, a2, a3, a4⟩ := h
  exact ⟨L, a1, h1.trans a2, h3.trans a3, fun k hk => by rw [h4, h2]; exact a4 k hk⟩
/-! the reference's record -/
theorem rec52 {u : kG} {pm : Nat} (hp : pm ≤ 5) : ∀ f i F, i ≤ 279 → 279 < f + i → ∃ F', mX6_record_L52 u f i F (nI pm) = (nI (pm + 1), F') ∧ ∀ x, F' x = if pm * 279 + i ≤ x ∧ x < pm * 279 + 279 then u 1 (x - pm * 279) else F x := by
  intro f
  induction f with
  | zero => intro i F h1 h2; omega
  | succ f ih =>
    intro i F h1 h2
    rw [mX6_record_L52_s]
    rcases Nat.lt_or_ge i 279 with q | q
    · rw [if_neg (c := (279 : Int32) ≤ nI i) (nI_ge (b := 279) q (by omega))]
      have e : ((nI pm * 279) + nI i).toNatClampNeg = pm * 279 + i := by
        rw [show (279 : Int32) = nI 279 from rfl, pk_mul, nI_add, nI_clamp (by omega)]
      rw [e, nI_clamp (n := i) (by omega)]
      obtain ⟨F', e1, e2⟩ := ih (i + 1) (upd F (pm * 279 + i) (u 1 i)) q (by omega)
      refine ⟨F', e1, fun x => ?_⟩
      rw [e2 x]
      by_cases c : pm * 279 + (i + 1) ≤ x ∧ x < pm * 279 + 279
      · rw [if_pos c, if_pos ⟨by omega, c.2⟩]
      · rw [if_neg c]
        by_cases c2 : x = pm * 279 + i
        · rw [c2, pk_us, if_pos ⟨Nat.le_refl _, by omega⟩]
          congr 1; omega
        · rw [pk_un c2, if_neg (fun z => c ⟨by omega, z.2⟩)]
    · rw [if_pos (c := (279 : Int32) ≤ nI i) (nI_le (a := 279) q (by omega)), nI_1]
      exact ⟨F, rfl, fun x => by rw [if_neg (by omega)]⟩
theorem rec11 {u : kG} : ∀ f i F, i ≤ 1395 → 1395 < f + i → (∀ x, F x = if x < i then u 2 (x + 279) else u 2 x) → ∃ F', mX6_record_L11 u f i F = mX6_record_L52 u 280 0 F' ((u 0 0) - 1) ∧ ∀ x, F' x = if x < 1395 then u 2 (x + 279) else u 2 x := by
  intro f
  induction f with
  | zero => intro i F h1 h2; omega
  | succ f ih =>
    intro i F h1 h2 h3
    rw [mX6_record_L11_s]
    rcases Nat.lt_or_ge i 1395 with q | q
    · rw [if_neg (c := (1395 : Int32) ≤ nI i) (nI_ge (b := 1395) q (by omega))]
      have e : ((nI i) + 279).toNatClampNeg = i + 279 := by
        rw [show (279 : Int32) = nI 279 from rfl, nI_add, nI_clamp (by omega)]
      rw [e, nI_clamp (n := i) (by omega)]
      refine ih (i + 1) _ q (by omega) (fun x => ?_)
      by_cases c : x = i
      · rw [c, pk_us, if_pos (Nat.lt_succ_self i), h3, if_neg (by omega)]
      · rw [pk_un c, h3]
        by_cases c2 : x < i
        · rw [if_pos c2, if_pos (by omega)]
        · rw [if_neg c2, if_neg (by omega)]
    · rw [if_pos (c := (1395 : Int32) ≤ nI i) (nI_le (a := 1395) q (by omega))]
      have e : i = 1395 := by omega
      exact ⟨F, rfl, fun x => by rw [h3, e]⟩
theorem record_v {u : kG} {k : Nat} (hk : k ≤ 6) (h0 : u 0 0 = nI k) : ∃ F', mX6_record u = (nI (if k < 6 then k + 1 else 6), F') ∧
    (k < 6 → (∀ q, q < 279 → F' (279 * k + q) = u 1 q) ∧ ∀ i q, i < k → q < 279 → F' (279 * i + q) = u 2 (279 * i + q)) ∧
    (¬ k < 6 → (∀ q, q < 279 → F' (279 * 5 + q) = u 1 q) ∧ ∀ i q, i < 5 → q < 279 → F' (279 * i + q) = u 2 (279 * (i + 1) + q)) := by
  unfold mX6_record
  rw [h0]
  by_cases c : k < 6
  · rw [if_neg (c := nI k = 6) (fun z => by have := (nI_eq (a := k) (b := 6) (by omega) (by omega)).mp z; omega), if_pos c]
    obtain ⟨F', e1, e2⟩ := rec52 (u := u) (pm := k) (by omega) 280 0 (u 2) (by omega) (by omega)
    refine ⟨F', e1, fun _ => ⟨fun q hq => ?_, fun i q hi hq => ?_⟩, fun z => absurd c z⟩
    · rw [e2, if_pos ⟨by omega, by omega⟩]; exact congrArg (u 1) (by omega)
    · rw [e2, if_neg (by omega)]
  · rw [if_pos (c := nI k = 6) (by rw [show k = 6 by omega]; rfl), if_neg c]
    obtain ⟨F1, e1, e2⟩ := rec11 (u := u) 1396 0 (u 2) (by omega) (by omega) (fun x => by rw [if_neg (Nat.not_lt_zero x)])
    obtain ⟨F', e3, e4⟩ := rec52 (u := u) (pm := 5) (by omega) 280 0 F1 (by omega) (by omega)
    have e5 : (u 0 0) - 1 = nI 5 := by rw [h0, show k = 6 by omega]; rfl
    refine ⟨F', ?_, fun z => absurd z c, fun _ => ⟨fun q hq => ?_, fun i q hi hq => ?_⟩⟩
    · rw [e1, e5]; exact e3
    · rw [e4, if_pos ⟨by omega, by omega⟩]; exact congrArg (u 1) (by omega)
    · rw [e4, if_neg (by omega), e2, if_pos (by omega)]; exact congrArg (u 2) (by omega)
/-! a copy of a ledger -/
theorem kcp_RV {B : Nat} {v w : kG} {z : Nat → Int32} (h : RV B w z) : RV B (kcp v w) z := by
  have c12 : ∀ (f g : Nat → Int32) k, k < 12 → va_cpy f g 0 0 12 k = f k := fun f g k hk => by
    rw [pk_cpy_in (by omega) (by omega)]; congr 1; omega
  refine h.congr (fun k hk => ?_) (fun r k h1 h2 hk => ?_) (fun k hk => ?_) (fun q _ => rfl)
  · match k, hk with
    | 0, _ => rfl
    | 1, _ => rfl
    | 2, _ => rfl
  · match r, h1, h2 with
    | 1, _, _ => exact c12 _ _ k hk
    | 2, _, _ => exact c12 _ _ k hk
    | 3, _, _ => exact c12 _ _ k hk
    | 4, _, _ => exact c12 _ _ k hk
    | 5, _, _ => exact c12 _ _ k hk
    | 6, _, _ => exact c12 _ _ k hk
  · show va_cpy (w 7) (v 7) 0 0 192 k = w 7 k
    rw [pk_cpy_in (by omega) (by omega)]; congr 1; omega
theorem keep_ok {v : kG} {x : Int32} {k nx : Nat} (hx : ¬ x < 0) (h0 : v 0 0 = nI k) (h1 : v 0 1 = nI nx) (hk : k ≤ 6) (hn : nx < 7) : mX1_keepUnlessError v x = (x, nI (if k < 6 then k + 1 else 6), nI ((nx + 1) % 7)) := by
  unfold mX1_keepUnlessError
  rw [if_neg hx, h0, h1, nI_1, nI_1]
  have e : (if (6 : Int32) < nI (k + 1) then (6 : Int32) else nI (k + 1)) = nI (if k < 6 then k + 1 else 6) := by
    by_cases c : k < 6
    · rw [if_neg (c := (6 : Int32) < nI (k + 1)) (nI_nlt (b := k + 1) (a := 6) (by omega) (by omega)), if_pos c]
    · rw [if_pos (c := (6 : Int32) < nI (k + 1)) (nI_lt (a := 6) (by omega) (by omega)), if_neg c]; rfl
  rw [e]
  by_cases c : nx + 1 < 7
  · rw [if_neg (c := (7 : Int32) ≤ nI (nx + 1)) (nI_ge (b := 7) c (by omega)), Nat.mod_eq_of_lt c]
  · rw [if_pos (c := (7 : Int32) ≤ nI (nx + 1)) (nI_le (a := 7) (by omega) (by omega)), show nx + 1 = 7 by omega]; rfl
theorem keep_err {v : kG} {x : Int32} (hx : x < 0) : mX1_keepUnlessError v x = (x, v 0 0, v 0 1) := by
  unfold mX1_keepUnlessError
  rw [if_pos hx]
/-- what is recorded -/
theorem HisR.rec {B : Nat} {S S' : kS} {u u' : kG} (h : HisR B S u) (hz : RV B (S 0) (u 1)) (hS : ∀ j, 3 ≤ j → j < 10 → S' j = mX1_prepare S j) (hu0 : u' 0 0 = (mX6_record u).1) (hu2 : u' 2 = (mX6_record u).2) {nx' k' : Int32} (hk : ∃ x : Int32, ¬ x < 0 ∧ mX1_keepUnlessError (S 11) x = (x, k', nx')) (h0 : S' 11 0 0 = k') (h1 : S' 11 0 1 = nx') : HisR B S' u' := by
  obtain ⟨nx, k, a1, a2, a3, a4, a5, a6⟩ := h
  obtain ⟨x, hx, ek⟩ := hk
  rw [keep_ok hx a4 a3 a2 a1] at ek
  obtain ⟨F', e1, e2, e3⟩ := record_v a2 a5
  rw [e1] at hu0 hu2
  have e4 : k' = nI (if k < 6 then k + 1 else 6) := (congrArg (fun q => q.2.1) ek).symm
  have e5 : nx' = nI ((nx + 1) % 7) := (congrArg (fun q => q.2.2) ek).symm
  have hN : hisN S = 3 + nx := by unfold hisN; rw [a3, nI_clamp (by omega)]
  have pN : mX1_prepare S (3 + nx) = kcp (S (3 + nx)) (S 0) := by unfold mX1_prepare; rw [hN, gset_eq]
  have pO : ∀ j, j ≠ 3 + nx → mX1_prepare S j = S j := fun j hj => by unfold mX1_prepare; rw [hN, gset_ne _ _ hj]
  refine ⟨(nx + 1) % 7, if k < 6 then k + 1 else 6, by omega, by split <;> omega, h1.trans e5, h0.trans e4, hu0, fun i hi => ?_⟩
  rw [hu2]
  by_cases c : k < 6
  · rw [if_pos c] at hi ⊢
    obtain ⟨f1, f2⟩ := e2 c
    by_cases ci : i = k
    · have er : hRow ((nx + 1) % 7) (k + 1) i = 3 + nx := by unfold hRow; omega
      rw [er, hS _ (by omega) (by omega), pN, ci]
      exact (kcp_RV hz).congr (fun _ _ => rfl) (fun _ _ _ _ _ => rfl) (fun _ _ => rfl) (fun q hq => f1 q hq)
    · have er : hRow ((nx + 1) % 7) (k + 1) i = hRow nx k i := by unfold hRow; omega
      have ne : hRow nx k i ≠ 3 + nx := by unfold hRow; omega
      rw [er, hS _ (by unfold hRow; omega) (by unfold hRow; omega), pO _ ne]
      exact (a6 i (by omega)).congr (fun _ _ => rfl) (fun _ _ _ _ _ => rfl) (fun _ _ => rfl) (fun q hq => f2 i q (by omega) hq)
  · rw [if_neg c] at hi ⊢
    obtain ⟨f1, f2⟩ := e3 c
    by_cases ci : i = 5
    · have er : hRow ((nx + 1) % 7) 6 i = 3 + nx := by unfold hRow; omega
      rw [er, hS _ (by omega) (by omega), pN, ci]
      exact (kcp_RV hz).congr (fun _ _ => rfl) (fun _ _ _ _ _ => rfl) (fun _ _ => rfl) (fun q hq => f1 q hq)
    · have er : hRow ((nx + 1) % 7) 6 i = hRow nx k (i + 1) := by unfold hRow; omega
      have ne : hRow nx k (i + 1) ≠ 3 + nx := by unfold hRow; omega
      rw [er, hS _ (by unfold hRow; omega) (by unfold hRow; omega), pO _ ne]
      exact (a6 (i + 1) (by omega)).congr (fun _ _ => rfl) (fun _ _ _ _ _ => rfl) (fun _ _ => rfl) (fun q hq => f2 i q (by omega) hq)
/-- what is not recorded -/
theorem HisR.norec {B : Nat} {S S' : kS} {u u' : kG} (h : HisR B S u) (hS : ∀ j, 3 ≤ j → j < 10 → S' j = mX1_prepare S j) (hu0 : u' 0 0 = u 0 0) (hu2 : u' 2 = u 2) (h0 : S' 11 0 0 = S 11 0 0) (h1 : S' 11 0 1 = S 11 0 1) : HisR B S' u' := by
  obtain ⟨nx, k, a1, a2, a3, a4, a5, a6⟩ := h
  have hN : hisN S = 3 + nx := by unfold hisN; rw [a3, nI_clamp (by omega)]
  have pO : ∀ j, j ≠ 3 + nx → mX1_prepare S j = S j := fun j hj => by unfold mX1_prepare; rw [hN, gset_ne _ _ hj]
  refine ⟨nx, k, a1, a2, h1.trans a3, h0.trans a4, hu0.trans a5, fun i hi => ?_⟩
  have ne : hRow nx k i ≠ 3 + nx := by unfold hRow; omega
  rw [hS _ (by unfold hRow; omega) (by unfold hRow; omega), pO _ ne, hu2]
  exact a6 i hi
theorem prep_n2 {S : kS} {nx : Nat} (h : S 11 0 1 = nI nx) (hn : nx < 7) {j : Nat} (hj : j < 3 ∨ 10 ≤ j) : mX1_prepare S j = S j := by
  unfold mX1_prepare
  rw [gset_ne]
  unfold hisN
  rw [h, nI_clamp (by omega)]
  omega
