/-! the ledger and the reference's row of numbers; who writes ahead of and behind a moment -/
def RI (n m : Nat) (b c : Nat → Nat) (v : kG) : Prop := v 0 1 = nI m ∧ m < 2 ^ 30 ∧
  (∀ t, t < n → (v 1 t = 0 ∨ v 1 t = 1 ∨ v 1 t = 2) ∧ v 2 t = nI (b t) ∧ 1 ≤ b t ∧ b t ≤ m ∧ (v 1 t = 1 → v 3 t = nI (c t) ∧ b t < c t ∧ c t ≤ m) ∧ (¬ v 1 t = 1 → v 3 t = -6) ∧ (∃ a, a < 65536 ∧ v 4 t = nI a) ∧ (∃ a, a < 65536 ∧ v 5 t = nI a)) ∧
  (∀ t u, t < u → u < n → b t < b u) ∧ (∀ t u, t < n → u < n → v 1 t = 1 → v 1 u = 1 → t ≠ u → c t ≠ c u) ∧ (∀ t u, t < n → u < n → v 1 t = 1 → c t ≠ b u)
theorem nI_ne6 {j : Nat} (h : j < 2 ^ 31) : ¬ nI j = -6 := by
  intro q
  have h2 := congrArg Int32.toInt q
  rw [nI_toInt h] at h2
  have h3 : ((-6 : Int32)).toInt = -6 := rfl
  rw [h3] at h2
  omega
theorem ne6_nI {j : Nat} (h : j < 2 ^ 31) : ¬ (-6 : Int32) = nI j := fun q => nI_ne6 h q.symm
theorem k16ge {i : Nat} (q : i < 16) : ¬ (16 : Int32) ≤ nI i := nI_ge (b := 16) q (by omega)
theorem k16le {i : Nat} (q : 16 ≤ i) (h : i ≤ 16) : (16 : Int32) ≤ nI i := nI_le (a := 16) q (by omega)
theorem k12ge {i : Nat} (q : i < 12) : ¬ (12 : Int32) ≤ nI i := nI_ge (b := 12) q (by omega)
theorem k12le {i : Nat} (q : 12 ≤ i) (h : i ≤ 12) : (12 : Int32) ≤ nI i := nI_le (a := 12) q (by omega)
theorem kF {P Q : Prop} (h : P = ¬ Q) (q : Q) : ¬ P := by rw [h]; exact fun z => z q
theorem kT {P Q : Prop} (h : P = ¬ Q) (q : ¬ Q) : P := by rw [h]; exact q
theorem kO {P Q : Prop} (h : P = ¬ Q) (p : ¬ P) : Q := by rw [h] at p; exact Classical.byContradiction p
theorem kN {P Q : Prop} (h : P = ¬ Q) (p : P) : ¬ Q := by rw [h] at p; exact p
section A
variable {n m : Nat} {b c : Nat → Nat} {v u : kG} {i j : Nat}
theorem RI.pos (h : RI n m b c v) (hi : i < n) (h1 : v 1 i = 1) : ¬ v 3 i ≤ 0 := by
  obtain ⟨q1, q2, q3⟩ := (h.2.2.1 i hi).2.2.2.2.1 h1
  have := h.2.1
  rw [q1]; exact nI_nle (by omega) (by omega)
theorem RI.le (h : RI n m b c v) (hi : i < n) (h1 : v 1 i = 1) : ¬ v 0 1 + 1 ≤ v 3 i := by
  obtain ⟨q1, q2, q3⟩ := (h.2.2.1 i hi).2.2.2.2.1 h1
  have := h.2.1
  rw [q1, h.1, nI_1]; exact nI_ge (by omega) (by omega)
theorem RI.wr (h : RI n m b c v) (hi : i < n) : ∃ a, a < 65536 ∧ v 5 i = nI a := (h.2.2.1 i hi).2.2.2.2.2.2.2
theorem RI.rd (h : RI n m b c v) (hi : i < n) : ∃ a, a < 65536 ∧ v 4 i = nI a := (h.2.2.1 i hi).2.2.2.2.2.2.1
theorem RI.bg (h : RI n m b c v) (hi : i < n) : v 2 i = nI (b i) ∧ 1 ≤ b i ∧ b i ≤ m := ⟨(h.2.2.1 i hi).2.1, (h.2.2.1 i hi).2.2.1, (h.2.2.1 i hi).2.2.2.1⟩
theorem RI.cm (h : RI n m b c v) (hi : i < n) (h1 : v 1 i = 1) : v 3 i = nI (c i) ∧ b i < c i ∧ c i ≤ m := (h.2.2.1 i hi).2.2.2.2.1 h1
def eA (v : kG) (key x : Int32) (t : Nat) : Prop := v 1 t = 1 ∧ ¬ mX5_contains (v 5 t) key = 0 ∧ ¬ x ≤ v 3 t
def eB (v : kG) (key x : Int32) (t : Nat) : Prop := v 1 t = 1 ∧ ¬ mX5_contains (v 5 t) key = 0 ∧ ¬ v 3 t ≤ x
theorem kle_lt {x y : Int32} (h : ¬ x ≤ y) : y ≤ x := Int32.le_of_lt (Int32.not_le.mp h)
theorem wAhead_sL (hn : n ≤ 12) (h2 : v 0 2 = nI n) (hp : ∀ t, t < n → v 1 t = 1 → ¬ v 3 t ≤ 0) (key x : Int32) : ∀ f i w la, i ≤ n → n < f + i → (w = -6 ∧ la = 0 ∧ (∀ t, t < i → ¬ eA v key x t) ∨ ∃ j, j < i ∧ w = nI j ∧ la = v 3 j ∧ eA v key x j ∧ ∀ t, t < i → eA v key x t → v 3 t ≤ v 3 j) →
    (mX2_writerAhead_L9 v key x f w la i = -6 ∧ (∀ t, t < n → ¬ eA v key x t)) ∨ ∃ j, j < n ∧ mX2_writerAhead_L9 v key x f w la i = nI j ∧ eA v key x j ∧ ∀ t, t < n → eA v key x t → v 3 t ≤ v 3 j := by
  intro f
  induction f with
  | zero => intro i w la h1 h2 _; omega
  | succ f ih =>
    intro i w la h1 h3 hw
    rw [mX2_writerAhead_L9_s, h2]
    rcases Nat.lt_or_ge i n with q | q
    · have skip : ¬ eA v key x i → (w = -6 ∧ la = 0 ∧ (∀ t, t < i + 1 → ¬ eA v key x t) ∨ ∃ j, j < i + 1 ∧ w = nI j ∧ la = v 3 j ∧ eA v key x j ∧ ∀ t, t < i + 1 → eA v key x t → v 3 t ≤ v 3 j) := by
        intro hne
        rcases hw with ⟨r1, r2, r3⟩ | ⟨j, r1, r2, r3, r4, r5⟩
        · refine Or.inl ⟨r1, r2, fun t ht => ?_⟩
          rcases Nat.lt_or_ge t i with z | z
          · exact r3 t z
          · rw [show t = i by omega]; exact hne
        · refine Or.inr ⟨j, by omega, r2, r3, r4, fun t ht he => ?_⟩
          rcases Nat.lt_or_ge t i with z | z
          · exact r5 t z he
          · rw [show t = i by omega] at he; exact absurd he hne
      rw [if_neg (nI_ge q (by omega)), nI_clamp (by omega)]
      by_cases c1 : v 1 i = 1
      · rw [if_pos c1]
        by_cases c2 : mX5_contains (v 5 i) key = 0
        · rw [if_pos c2]; exact ih _ _ _ q (by omega) (skip (fun z => z.2.1 c2))
        · rw [if_neg c2]
          by_cases c3 : x ≤ v 3 i
          · rw [if_pos c3]; exact ih _ _ _ q (by omega) (skip (fun z => z.2.2 c3))
          · rw [if_neg c3]
            have he : eA v key x i := ⟨c1, c2, c3⟩
            by_cases c4 : v 3 i ≤ la
            · rw [if_pos c4]
              refine ih _ _ _ q (by omega) ?_
              rcases hw with ⟨r1, rfl, r3⟩ | ⟨j, r1, r2, rfl, r4, r5⟩
              · exact absurd c4 (hp i q c1)
              · refine Or.inr ⟨j, by omega, r2, rfl, r4, fun t ht he => ?_⟩
                rcases Nat.lt_or_ge t i with z | z
                · exact r5 t z he
                · rw [show t = i by omega]; exact c4
            · rw [if_neg c4]
              refine ih _ _ _ q (by omega) (Or.inr ⟨i, by omega, rfl, rfl, he, fun t ht he2 => ?_⟩)
              rcases Nat.lt_or_ge t i with z | z
              · rcases hw with ⟨r1, r2, r3⟩ | ⟨j, r1, r2, rfl, r4, r5⟩
                · exact absurd he2 (r3 t z)
                · exact Int32.le_trans (r5 t z he2) (kle_lt c4)
              · rw [show t = i by omega]; exact Int32.le_refl _
      · rw [if_neg c1]; exact ih _ _ _ q (by omega) (skip (fun z => c1 z.1))
    · have e : i = n := by omega
      rw [if_pos (nI_le q (by omega))]
      rw [e] at hw
      rcases hw with ⟨r1, r2, r3⟩ | ⟨j, r1, r2, r3, r4, r5⟩
      · exact Or.inl ⟨r1, r3⟩
      · exact Or.inr ⟨j, r1, r2, r4, r5⟩
theorem wAhead_spec (hn : n ≤ 12) (h2 : v 0 2 = nI n) (hp : ∀ t, t < n → v 1 t = 1 → ¬ v 3 t ≤ 0) (key x : Int32) : (mX2_writerAhead v key x = -6 ∧ (∀ t, t < n → ¬ eA v key x t)) ∨ ∃ j, j < n ∧ mX2_writerAhead v key x = nI j ∧ eA v key x j ∧ ∀ t, t < n → eA v key x t → v 3 t ≤ v 3 j :=
  wAhead_sL hn h2 hp key x 13 0 (-6) 0 (Nat.zero_le _) (by omega) (Or.inl ⟨rfl, rfl, fun t ht => absurd ht (Nat.not_lt_zero t)⟩)
theorem wBehind_sL (hn : n ≤ 12) (h2 : v 0 2 = nI n) (hp : ∀ t, t < n → v 1 t = 1 → ¬ v 0 1 + 1 ≤ v 3 t) (key x : Int32) : ∀ f i w la, i ≤ n → n < f + i → (w = -6 ∧ la = v 0 1 + 1 ∧ (∀ t, t < i → ¬ eB v key x t) ∨ ∃ j, j < i ∧ w = nI j ∧ eB v key x j) →
    (mX2_writerBehind_L14 v key x f w la i = -6 ∧ (∀ t, t < n → ¬ eB v key x t)) ∨ ∃ j, j < n ∧ mX2_writerBehind_L14 v key x f w la i = nI j ∧ eB v key x j := by
  intro f
  induction f with
  | zero => intro i w la h1 h2 _; omega
  | succ f ih =>
    intro i w la h1 h3 hw
    rw [mX2_writerBehind_L14_s, h2]
    rcases Nat.lt_or_ge i n with q | q
    · have skip : (¬ eB v key x i ∨ ¬ la = v 0 1 + 1 ∨ ¬ w = -6) → (w = -6 ∧ la = v 0 1 + 1 ∧ (∀ t, t < i + 1 → ¬ eB v key x t) ∨ ∃ j, j < i + 1 ∧ w = nI j ∧ eB v key x j) := by
        intro hne
        rcases hw with ⟨r1, r2, r3⟩ | ⟨j, r1, r2, r4⟩
        · refine Or.inl ⟨r1, r2, fun t ht => ?_⟩
          rcases Nat.lt_or_ge t i with z | z
          · exact r3 t z
          · rw [show t = i by omega]
            rcases hne with y | y | y
            · exact y
            · exact absurd r2 y
            · exact absurd r1 y
        · exact Or.inr ⟨j, by omega, r2, r4⟩
      rw [if_neg (nI_ge q (by omega)), nI_clamp (by omega)]
      by_cases c1 : v 1 i = 1
      · rw [if_pos c1]
        by_cases c2 : mX5_contains (v 5 i) key = 0
        · rw [if_pos c2]; exact ih _ _ _ q (by omega) (skip (Or.inl fun z => z.2.1 c2))
        · rw [if_neg c2]
          by_cases c3 : v 3 i ≤ x
          · rw [if_pos c3]; exact ih _ _ _ q (by omega) (skip (Or.inl fun z => z.2.2 c3))
          · rw [if_neg c3]
            by_cases c4 : la ≤ v 3 i
            · rw [if_pos c4]
              refine ih _ _ _ q (by omega) (skip (Or.inr (Or.inl fun z => hp i q c1 (by rw [← z]; exact c4))))
            · rw [if_neg c4]
              exact ih _ _ _ q (by omega) (Or.inr ⟨i, by omega, rfl, ⟨c1, c2, c3⟩⟩)
      · rw [if_neg c1]; exact ih _ _ _ q (by omega) (skip (Or.inl fun z => c1 z.1))
    · have e : i = n := by omega
      rw [if_pos (nI_le q (by omega))]
      rw [e] at hw
      rcases hw with ⟨r1, r2, r3⟩ | ⟨j, r1, r2, r4⟩
      · exact Or.inl ⟨r1, r3⟩
      · exact Or.inr ⟨j, r1, r2, r4⟩
theorem wBehind_spec (hn : n ≤ 12) (h2 : v 0 2 = nI n) (hp : ∀ t, t < n → v 1 t = 1 → ¬ v 0 1 + 1 ≤ v 3 t) (key x : Int32) : (mX2_writerBehind v key x = -6 ∧ (∀ t, t < n → ¬ eB v key x t)) ∨ ∃ j, j < n ∧ mX2_writerBehind v key x = nI j ∧ eB v key x j :=
  wBehind_sL hn h2 hp key x 13 0 (-6) _ (Nat.zero_le _) (by omega) (Or.inl ⟨rfl, rfl, fun t ht => absurd ht (Nat.not_lt_zero t)⟩)
theorem wBehind_cL (hn : n ≤ 12) (h2 : v 0 2 = nI n) {key x y : Int32} (hxy : ∀ t, t < n → v 1 t = 1 → ¬ mX5_contains (v 5 t) key = 0 → (v 3 t ≤ x ↔ v 3 t ≤ y)) : ∀ f i w la, i ≤ n → n < f + i → mX2_writerBehind_L14 v key x f w la i = mX2_writerBehind_L14 v key y f w la i := by
  intro f
  induction f with
  | zero => intro i w la h1 h2; omega
  | succ f ih =>
    intro i w la h1 h3
    rw [mX2_writerBehind_L14_s, mX2_writerBehind_L14_s, h2]
    rcases Nat.lt_or_ge i n with q | q
    · rw [if_neg (nI_ge q (by omega)), if_neg (nI_ge q (by omega)), nI_clamp (by omega)]
      by_cases c1 : v 1 i = 1
      · rw [if_pos c1, if_pos c1]
        by_cases c2 : mX5_contains (v 5 i) key = 0
        · rw [if_pos c2, if_pos c2]; exact ih _ _ _ q (by omega)
        · rw [if_neg c2, if_neg c2]
          by_cases c3 : v 3 i ≤ x
          · rw [if_pos c3, if_pos ((hxy i q c1 c2).mp c3)]; exact ih _ _ _ q (by omega)
          · rw [if_neg c3, if_neg (fun z => c3 ((hxy i q c1 c2).mpr z)), ih _ _ _ q (by omega), ih _ _ _ q (by omega)]
      · rw [if_neg c1, if_neg c1]; exact ih _ _ _ q (by omega)
    · rw [if_pos (nI_le q (by omega)), if_pos (nI_le q (by omega))]
theorem wBehind_cong (hn : n ≤ 12) (h2 : v 0 2 = nI n) {key x y : Int32} (hxy : ∀ t, t < n → v 1 t = 1 → ¬ mX5_contains (v 5 t) key = 0 → (v 3 t ≤ x ↔ v 3 t ≤ y)) : mX2_writerBehind v key x = mX2_writerBehind v key y := wBehind_cL hn h2 hxy 13 0 _ _ (Nat.zero_le _) (by omega)
end A

