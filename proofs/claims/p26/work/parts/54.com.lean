/-! why a commit is refused -/
theorem kand_bits {a d : Nat} (ha : a < 65536) : (nI a &&& nI d = 0) ↔ ∀ k, k < 16 → ¬ (a.testBit k = true ∧ d.testBit k = true) := by
  rw [kandI, nI_eq0 (Nat.lt_of_le_of_lt Nat.and_le_left (by omega))]
  constructor
  · intro h k hk z
    have h2 : (a &&& d).testBit k = true := by rw [Nat.testBit_and, z.1, z.2]; rfl
    rw [h, Nat.zero_testBit] at h2; cases h2
  · intro h
    apply Nat.eq_of_testBit_eq
    intro k
    rw [Nat.testBit_and, Nat.zero_testBit]
    rcases Nat.lt_or_ge k 16 with q | q
    · have := h k q
      cases e1 : a.testBit k
      · rfl
      · cases e2 : d.testBit k
        · rfl
        · exact absurd ⟨e1, e2⟩ this
    · rw [Nat.testBit_lt_two_pow (Nat.lt_of_lt_of_le (show a < 2 ^ 16 by omega) (Nat.pow_le_pow_right (by decide) q)), Bool.false_and]
def LW (v : kG) (n t : Nat) : Prop := ∃ o, o < n ∧ v 1 o = 1 ∧ ¬ v 3 o ≤ v 2 t ∧ ¬ ((v 5 o) &&& (v 5 t)) = 0
section A
variable {n m : Nat} {b c : Nat → Nat} {v u : kG} {i j : Nat}
theorem later_L (hn : n ≤ 12) (h2 : v 0 2 = nI n) {t : Nat} (ht : t < n) : ∀ f i, i ≤ n → n < f + i → (mX0_isLaterWriter_L9 v (nI t) f i = 0 ↔ ∀ o, i ≤ o → o < n → ¬ (v 1 o = 1 ∧ ¬ v 3 o ≤ v 2 t ∧ ¬ ((v 5 o) &&& (v 5 t)) = 0)) := by
  intro f
  induction f with
  | zero => intro i h1 h2; omega
  | succ f ih =>
    intro i h1 h3
    rw [mX0_isLaterWriter_L9_s, h2]
    rcases Nat.lt_or_ge i n with q | q
    · rw [if_neg (nI_ge q (by omega)), nI_clamp (n := i) (by omega), nI_clamp (n := t) (by omega)]
      have skip : ¬ (v 1 i = 1 ∧ ¬ v 3 i ≤ v 2 t ∧ ¬ ((v 5 i) &&& (v 5 t)) = 0) → (mX0_isLaterWriter_L9 v (nI t) f (i + 1) = 0 ↔ ∀ o, i ≤ o → o < n → ¬ (v 1 o = 1 ∧ ¬ v 3 o ≤ v 2 t ∧ ¬ ((v 5 o) &&& (v 5 t)) = 0)) := by
        intro hne
        rw [ih (i + 1) q (by omega)]
        refine ⟨fun h j h4 h5 => ?_, fun h j h4 h5 => h j (by omega) h5⟩
        rcases Nat.lt_or_ge i j with z | z
        · exact h j z h5
        · rw [show j = i by omega]; exact hne
      by_cases c1 : v 1 i = 1
      · rw [if_pos c1]
        by_cases c2 : v 3 i ≤ v 2 t
        · rw [if_pos c2]; exact skip (fun z => z.2.1 c2)
        · rw [if_neg c2]
          by_cases c3 : ((v 5 i) &&& (v 5 t)) = 0
          · rw [if_pos c3]; exact skip (fun z => z.2.2 c3)
          · rw [if_neg c3]; exact ⟨fun z => absurd z (by decide), fun z => absurd ⟨c1, c2, c3⟩ (z i (Nat.le_refl _) q)⟩
      · rw [if_neg c1]; exact skip (fun z => c1 z.1)
    · rw [if_pos (nI_le q (by omega))]
      exact ⟨fun _ j h4 h5 => by omega, fun _ => rfl⟩
theorem later0 (hn : n ≤ 12) (h2 : v 0 2 = nI n) {t : Nat} (ht : t < n) : (mX0_isLaterWriter v (nI t) = 0) = ¬ LW v n t := by
  apply propext
  unfold mX0_isLaterWriter
  rw [later_L hn h2 ht 13 0 (Nat.zero_le _) (by omega)]
  refine ⟨fun h z => ?_, fun h j _ hj z => h ⟨j, hj, z⟩⟩
  obtain ⟨j, hj, z⟩ := z
  exact h j (Nat.zero_le _) hj z
theorem LW_keys (hn : n ≤ 12) (h2 : v 0 2 = nI n) (hi : RI n m b c v) {t : Nat} (ht : t < n) : LW v n t ↔ ∃ k, k < 16 ∧ ¬ mX5_contains (v 5 t) (nI k) = 0 ∧ ¬ mX2_writerBehind v (nI k) (v 2 t) = -6 := by
  constructor
  · rintro ⟨o, ho, h3, h4, h5⟩
    obtain ⟨a, ha, ea⟩ := hi.wr ho
    obtain ⟨d, hd, ed⟩ := hi.wr ht
    have h6 : ¬ ∀ k, k < 16 → ¬ (a.testBit k = true ∧ d.testBit k = true) := fun z => h5 (by rw [ea, ed]; exact (kand_bits ha).mpr z)
    obtain ⟨k, h7⟩ := Classical.not_forall.mp h6
    obtain ⟨hk, h8⟩ := Classical.not_imp.mp h7
    have h9 := Classical.byContradiction h8
    refine ⟨k, hk, ?_, ?_⟩
    · rw [ed, kct0 (by omega) (by omega)]; rw [h9.2]; decide
    · rcases wBehind_spec hn h2 (fun t ht h1 => hi.le ht h1) (nI k) (v 2 t) with ⟨_, z⟩ | ⟨j, hj, z, _⟩
      · refine absurd ⟨h3, ?_, h4⟩ (z o ho)
        rw [ea, kct0 (by omega) (by omega), h9.1]; decide
      · rw [z]; exact nI_ne6 (by omega)
  · rintro ⟨k, hk, h3, h4⟩
    rcases wBehind_spec hn h2 (fun t ht h1 => hi.le ht h1) (nI k) (v 2 t) with ⟨z, _⟩ | ⟨o, ho, _, z1, z2, z3⟩
    · exact absurd z h4
    · obtain ⟨a, ha, ea⟩ := hi.wr ho
      obtain ⟨d, hd, ed⟩ := hi.wr ht
      refine ⟨o, ho, z1, z3, ?_⟩
      rw [ea, kct0 (by omega) (by omega)] at z2
      rw [ed, kct0 (by omega) (by omega)] at h3
      rw [ea, ed, kand_bits ha]
      exact fun z => z k hk ⟨by simpa using z2, by simpa using h3⟩
/-! what is searched for, first of all -/
def s1 {α : Type} (g : Nat → Option α) (n : Nat) : Nat → Nat → Option α
  | 0, _ => none
  | f + 1, i => if n ≤ i then none else match g i with
    | some x => some x
    | none => s1 g n f (i + 1)
theorem s1_none {α : Type} {g : Nat → Option α} (h : ∀ i, i < n → g i = none) : ∀ f i, s1 g n f i = none := by
  intro f
  induction f with
  | zero => intro i; rfl
  | succ f ih =>
    intro i
    unfold s1
    rcases Nat.lt_or_ge i n with q | q
    · rw [if_neg (Nat.not_le.mpr q), h i q]; exact ih _
    · rw [if_pos q]
theorem s1_congr {α : Type} {g g' : Nat → Option α} (h : ∀ i, i < n → g i = g' i) : ∀ f i, s1 g n f i = s1 g' n f i := by
  intro f
  induction f with
  | zero => intro i; rfl
  | succ f ih =>
    intro i
    unfold s1
    rcases Nat.lt_or_ge i n with q | q
    · rw [if_neg (Nat.not_le.mpr q), if_neg (Nat.not_le.mpr q), h i q, ih]
    · rw [if_pos q, if_pos q]
theorem s1_map {α β : Type} {g : Nat → Option α} (F : α → β) : ∀ f i, s1 (fun i => (g i).map F) n f i = (s1 g n f i).map F := by
  intro f
  induction f with
  | zero => intro i; rfl
  | succ f ih =>
    intro i
    unfold s1
    rcases Nat.lt_or_ge i n with q | q
    · rw [if_neg (Nat.not_le.mpr q), if_neg (Nat.not_le.mpr q), ih]
      cases g i <;> rfl
    · rw [if_pos q, if_pos q]; rfl
theorem s1_some {α : Type} {g : Nat → Option α} {x : α} : ∀ f i, s1 g n f i = some x → ∃ j, j < n ∧ g j = some x := by
  intro f
  induction f with
  | zero => intro i h; cases h
  | succ f ih =>
    intro i h
    unfold s1 at h
    rcases Nat.lt_or_ge i n with q | q
    · rw [if_neg (Nat.not_le.mpr q)] at h
      cases e : g i with
      | none => rw [e] at h; exact ih _ h
      | some y => rw [e] at h; exact ⟨i, q, e.trans h⟩
    · rw [if_pos q] at h; cases h
def og {α τ : Type} (k : τ) (ex : α → τ) : Option α → τ
  | some x => ex x
  | none => k
theorem s1_L {α τ : Type} {g : Nat → Option α} (L : Nat → Nat → τ) (k0 : τ) (ex : α → τ) (hs : ∀ f i, i ≤ n → L (f + 1) i = if n ≤ i then k0 else og (L f (i + 1)) ex (g i)) : ∀ f i, i ≤ n → n < f + i → L f i = og k0 ex (s1 g n f i) := by
  intro f
  induction f with
  | zero => intro i h1 h2; omega
  | succ f ih =>
    intro i h1 h2
    rw [hs f i h1]
    unfold s1
    rcases Nat.lt_or_ge i n with q | q
    · rw [if_neg (Nat.not_le.mpr q), if_neg (Nat.not_le.mpr q)]
      cases e : g i with
      | none => exact ih _ q (by omega)
      | some y => rfl
    · rw [if_pos q, if_pos q]; rfl
noncomputable def gG {α : Type} (G : Prop) (x : α) : Option α := @ite _ G (Classical.propDecidable G) (some x) none
theorem gG_pos {α : Type} {G : Prop} (h : G) (x : α) : gG G x = some x := if_pos h
theorem gG_neg {α : Type} {G : Prop} (h : ¬ G) (x : α) : gG G x = none := if_neg h
theorem gG_map {α β : Type} {G : Prop} (x : α) (F : α → β) : (gG G x).map F = gG G (F x) := by
  rcases Classical.em G with h | h
  · rw [gG_pos h, gG_pos h]; rfl
  · rw [gG_neg h, gG_neg h]; rfl
noncomputable def S3 {α : Type} (G : Nat → Nat → Nat → Prop) (F : Nat → Nat → Nat → α) (n : Nat) : Option α := s1 (fun p => s1 (fun a => s1 (fun c => gG (G a p c) (F a p c)) n 13 0) n 13 0) n 13 0
theorem S3_map {α : Type} (G : Nat → Nat → Nat → Prop) (F : Nat → Nat → Nat → α) (n : Nat) : S3 G F n = (S3 G (fun a p c => (a, p, c)) n).map (fun q => F q.1 q.2.1 q.2.2) := by
  unfold S3
  rw [← s1_map]
  congr 1
  funext p
  rw [← s1_map]
  congr 1
  funext a
  rw [← s1_map]
  congr 1
  funext c
  rw [gG_map]
theorem S3_cases {G : Nat → Nat → Nat → Prop} {n : Nat} : (∀ (α : Type) (F : Nat → Nat → Nat → α), S3 G F n = none) ∨ ∃ a p c, a < n ∧ p < n ∧ c < n ∧ ∀ (α : Type) (F : Nat → Nat → Nat → α), S3 G F n = some (F a p c) := by
  cases e : S3 G (fun a p c => (a, p, c)) n with
  | none => exact Or.inl fun α F => by rw [S3_map, e]; rfl
  | some q =>
    obtain ⟨p, hp, e1⟩ := s1_some _ _ e
    obtain ⟨a, ha, e2⟩ := s1_some _ _ e1
    obtain ⟨c, hc, e3⟩ := s1_some _ _ e2
    refine Or.inr ⟨a, p, c, ha, hp, hc, fun α F => ?_⟩
    rw [S3_map, e]
    rcases Classical.em (G a p c) with h | h
    · rw [gG_pos h] at e3
      rw [← Option.some.inj e3]; rfl
    · rw [gG_neg h] at e3; cases e3
def vC (v : kG) (t : Nat) : kG := rset (rset v 1 (upd (v 1) t 1)) 3 (upd (v 3) t (v 0 1 + 1))
theorem vC1 {t j : Nat} : vC v t 1 j = if j = t then 1 else v 1 j := by
  show upd (v 1) t 1 j = _
  by_cases q : j = t
  · rw [if_pos q, q, pk_us]
  · rw [if_neg q, pk_un q]
theorem vC3 {t j : Nat} : vC v t 3 j = if j = t then v 0 1 + 1 else v 3 j := by
  show upd (v 3) t _ j = _
  by_cases q : j = t
  · rw [if_pos q, q, pk_us]
  · rw [if_neg q, pk_un q]
theorem vC_EE (hi : RI n m b c v) {t : Nat} (ht0 : v 1 t = 0) (hi' : i < n) (hj : j < n) : EE (vC v t) i j ↔ EE v i j := by
  have key : ∀ x y, x < n → y < n → (¬ (vC v t 1 x = 1 ∧ ¬ vC v t 2 y ≤ vC v t 3 x) ↔ ¬ (v 1 x = 1 ∧ ¬ v 2 y ≤ v 3 x)) := by
    intro x y hx hy
    rw [vC1, vC3, show vC v t 2 y = v 2 y from rfl]
    by_cases q : x = t
    · rw [if_pos q, if_pos q]
      obtain ⟨k4, k5, k6⟩ := hi.bg hy
      have hm := hi.2.1
      refine ⟨fun _ z => ?_, fun _ z => z.2 ?_⟩
      · rw [q, ht0] at z; exact absurd z.1 (by decide)
      · rw [hi.1, k4, nI_1]; exact nI_le (by omega) (by omega)
    · rw [if_neg q, if_neg q]
  have k2 : ∀ x, x < n → (¬ vC v t 1 x = 2 ↔ ¬ v 1 x = 2) := by
    intro x hx
    rw [vC1]
    by_cases q : x = t
    · rw [if_pos q, q, ht0]; exact ⟨fun _ => by decide, fun _ => by decide⟩
    · rw [if_neg q]
  unfold EE ED
  rw [k2 i hi', k2 j hj, key i j hi' hj, key j i hj hi']
  rfl
end A

