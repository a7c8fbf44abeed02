/-! the law's rows beside the ledger -/
section REL
variable {n m : Nat} {b c : Nat → Nat} {v w r : kG} {i j k t : Nat}
/-- the law's row z has what the ledger has -/
def LR (n : Nat) (v : kG) (z : Nat → Int32) : Prop := n ≤ 12 ∧ z 49 = nI n ∧ ∀ t, t < n → z t = v 2 t ∧ z (24 + t) = v 4 t ∧ z (36 + t) = v 5 t ∧ (v 1 t = 0 ∧ z (12 + t) = 0 ∨ v 1 t = 1 ∧ z (12 + t) = v 3 t ∧ ¬ v 3 t ≤ 0 ∨ v 1 t = 2 ∧ z (12 + t) = -1)
theorem rA12 (h : t < 12) : ((12 : Int32) + nI t).toNatClampNeg = 12 + t := rAt (k := 12) (by omega) (by omega)
theorem rA24 (h : t < 12) : ((24 : Int32) + nI t).toNatClampNeg = 24 + t := rAt (k := 24) (by omega) (by omega)
theorem rA36 (h : t < 12) : ((36 : Int32) + nI t).toNatClampNeg = 36 + t := rAt (k := 36) (by omega) (by omega)
theorem rA50 (h : t < 12) : ((50 : Int32) + nI t).toNatClampNeg = 50 + t := rAt (k := 50) (by omega) (by omega)
theorem rA0 (h : t < 12) : (nI t).toNatClampNeg = t := nI_clamp (by omega)
theorem LR.isC0 (h : LR n v (r 0)) (hi : i < n) : (mL_isCommitted r (nI i) = 0) = ¬ v 1 i = 1 := by
  have hn := h.1
  obtain ⟨_, _, _, h4⟩ := h.2.2 i hi
  unfold mL_isCommitted
  rw [rA12 (by omega)]
  rcases h4 with ⟨a, e⟩ | ⟨a, e, p⟩ | ⟨a, e⟩
  · rw [e, a, if_pos (by decide)]
    exact propext ⟨fun _ => by decide, fun _ => rfl⟩
  · rw [e, if_neg p, a]
    exact propext ⟨fun z => absurd z (by decide), fun z => absurd rfl z⟩
  · rw [e, a, if_pos (by decide)]
    exact propext ⟨fun _ => by decide, fun _ => rfl⟩
theorem LR.neg (h : LR n v (r 0)) (hi : i < n) : ((r 0) (12 + i) < 0) = (v 1 i = 2) := by
  obtain ⟨_, _, _, h4⟩ := h.2.2 i hi
  rcases h4 with ⟨a, e⟩ | ⟨a, e, p⟩ | ⟨a, e⟩
  · rw [e, a]; exact propext ⟨fun z => absurd z (by decide), fun z => absurd z (by decide)⟩
  · rw [e, a]; exact propext ⟨fun z => absurd (Int32.le_of_lt z) p, fun z => absurd z (by decide)⟩
  · rw [e, a]; exact propext ⟨fun _ => rfl, fun _ => by decide⟩
theorem LR.zero (h : LR n v (r 0)) (hi : i < n) : ((r 0) (12 + i) = 0) = (v 1 i = 0) := by
  obtain ⟨_, _, _, h4⟩ := h.2.2 i hi
  rcases h4 with ⟨a, e⟩ | ⟨a, e, p⟩ | ⟨a, e⟩
  · rw [e, a]
  · rw [e, a]; exact propext ⟨fun z => absurd (by rw [z]; exact Int32.le_refl _) p, fun z => absurd z (by decide)⟩
  · rw [e, a]; exact propext ⟨fun z => absurd z (by decide), fun z => absurd z (by decide)⟩
theorem LR.cm (h : LR n v (r 0)) (hi : i < n) (h1 : v 1 i = 1) : (r 0) (12 + i) = v 3 i := by
  obtain ⟨_, _, _, h4⟩ := h.2.2 i hi
  rcases h4 with ⟨a, e⟩ | ⟨a, e, p⟩ | ⟨a, e⟩
  · rw [h1] at a; exact absurd a (by decide)
  · exact e
  · rw [h1] at a; exact absurd a (by decide)
theorem LR.isE0 (h : LR n v (r 0)) (hi : i < n) (hj : j < n) : (mL_isEdge r (nI i) (nI j) = 0) = ¬ EE v i j := by
  have hn := h.1
  obtain ⟨a1, a2, a3, _⟩ := h.2.2 i hi
  obtain ⟨b1, b2, b3, _⟩ := h.2.2 j hj
  have eij : (nI i = nI j) = (i = j) := propext (nI_eq (by omega) (by omega))
  rw [mL_isEdge_s]
  simp only [rA12 (t := i) (by omega), rA12 (t := j) (by omega), rA24 (t := i) (by omega), rA36 (t := j) (by omega), rA0 (t := i) (by omega), rA0 (t := j) (by omega), h.isC0 hi, h.isC0 hj, h.neg hi, h.neg hj, eij, a1, a2, b1, b3]
  unfold EE ED
  by_cases e0 : i = j
  · simp [e0]
  · by_cases e1 : v 1 i = 2
    · simp [e0, e1]
    · by_cases e2 : v 1 j = 2
      · simp [e0, e1, e2]
      · by_cases p1 : v 1 i = 1
        · rw [h.cm hi p1]
          by_cases l1 : v 2 j ≤ v 3 i
          · have l1' : ¬ v 3 i < v 2 j := Int32.not_lt.mpr l1
            by_cases p2 : v 1 j = 1
            · rw [h.cm hj p2]
              by_cases l2 : v 2 i ≤ v 3 j
              · simp [e0, p1, p2, l1, l1', l2]
              · simp [e0, p1, p2, l1, l1', l2]
            · simp [e0, p1, p2, e2, l1, l1']
          · have l1' : v 3 i < v 2 j := Int32.not_le.mp l1
            simp [e0, p1, e2, l1, l1']
        · by_cases p2 : v 1 j = 1
          · rw [h.cm hj p2]
            by_cases l2 : v 2 i ≤ v 3 j
            · simp [e0, p1, p2, e1, l2]
            · simp [e0, p1, p2, e1, l2]
          · simp [e0, p1, p2, e1, e2]
theorem isEdge_b (r : kG) (x y : Int32) : mL_isEdge r x y = 0 ∨ mL_isEdge r x y = 1 := by
  rw [mL_isEdge_s]
  repeat' split
  all_goals first | exact Or.inl rfl | exact Or.inr rfl
/-- the latest writer of a key ahead of a moment, by the law's row -/
def WL (v : kG) (n : Nat) (c : Nat → Nat) (k x : Nat) (y : Int32) : Prop := (y = -1 ∧ ∀ t, t < n → v 1 t = 1 → WRk v t k → ¬ c t < x) ∨ ∃ j, j < n ∧ y = nI j ∧ v 1 j = 1 ∧ WRk v j k ∧ c j < x ∧ ∀ t, t < n → v 1 t = 1 → WRk v t k → c t < x → c t ≤ c j
theorem writer_L (h : LR n v (r 0)) (hi : RI n m b c v) {x : Nat} (hx : x ≤ m + 1) : ∀ f i (y : Int32), i ≤ n → n < f + i → ((y = -1 ∧ ∀ t, t < i → v 1 t = 1 → WRk v t k → ¬ c t < x) ∨ ∃ j, j < i ∧ y = nI j ∧ v 1 j = 1 ∧ WRk v j k ∧ c j < x ∧ ∀ t, t < i → v 1 t = 1 → WRk v t k → c t < x → c t ≤ c j) → WL v n c k x (mL_writer_L5 r (nI k) (nI x) f y i) := by
  have hn := h.1
  have hm := hi.2.1
  intro f
  induction f with
  | zero => intro i y h1 h2 _; omega
  | succ f ih =>
    intro i y h1 h3 hw
    rw [mL_writer_L5_s, h.2.1]
    rcases Nat.lt_or_ge i n with q | q
    · have skip : ¬ (v 1 i = 1 ∧ WRk v i k ∧ c i < x) → ((y = -1 ∧ ∀ t, t < i + 1 → v 1 t = 1 → WRk v t k → ¬ c t < x) ∨ ∃ j, j < i + 1 ∧ y = nI j ∧ v 1 j = 1 ∧ WRk v j k ∧ c j < x ∧ ∀ t, t < i + 1 → v 1 t = 1 → WRk v t k → c t < x → c t ≤ c j) := by
        intro hne
        rcases hw with ⟨r1, r3⟩ | ⟨j, r1, r2, r3, r4, r5, r6⟩
        · refine Or.inl ⟨r1, fun t ht g1 g2 g3 => ?_⟩
          rcases Nat.lt_or_ge t i with z | z
          · exact r3 t z g1 g2 g3
          · rw [show t = i by omega] at g1 g2 g3; exact hne ⟨g1, g2, g3⟩
        · refine Or.inr ⟨j, by omega, r2, r3, r4, r5, fun t ht g1 g2 g3 => ?_⟩
          rcases Nat.lt_or_ge t i with z | z
          · exact r6 t z g1 g2 g3
          · rw [show t = i by omega] at g1 g2 g3; exact absurd ⟨g1, g2, g3⟩ hne
      obtain ⟨a1, a2, a3, _⟩ := h.2.2 i q
      rw [if_neg (nI_ge q (by omega)), rA12 (by omega), rA36 (by omega)]
      by_cases c1 : v 1 i = 1
      · rw [if_neg (kF (h.isC0 q) c1), h.cm q c1, a3]
        obtain ⟨e1, e2, e3⟩ := hi.cm q c1
        by_cases c2 : WRk v i k
        · rw [if_pos (by rw [bitC]; exact c2), e1]
          by_cases c3 : x ≤ c i
          · rw [if_pos (nI_le c3 (by omega))]; exact ih _ _ q (by omega) (skip (fun z => by omega))
          · rw [if_neg (nI_ge (by omega) (by omega))]
            have new : (∀ t, t < i → v 1 t = 1 → WRk v t k → c t < x → c t ≤ c i) → ((nI i = -1 ∧ ∀ t, t < i + 1 → v 1 t = 1 → WRk v t k → ¬ c t < x) ∨ ∃ j, j < i + 1 ∧ nI i = nI j ∧ v 1 j = 1 ∧ WRk v j k ∧ c j < x ∧ ∀ t, t < i + 1 → v 1 t = 1 → WRk v t k → c t < x → c t ≤ c j) := fun g => by
              refine Or.inr ⟨i, by omega, rfl, c1, c2, by omega, fun t ht g1 g2 g3 => ?_⟩
              rcases Nat.lt_or_ge t i with z | z
              · exact g t z g1 g2 g3
              · rw [show t = i by omega]; exact Nat.le_refl _
            rcases hw with ⟨r1, r3⟩ | ⟨j, r1, r2, r3, r4, r5, r6⟩
            · rw [r1, if_pos (by decide)]
              exact ih _ _ q (by omega) (new (fun t ht g1 g2 g3 => absurd g3 (r3 t ht g1 g2)))
            · rw [r2, if_neg (nI_pos (by omega)), rA12 (by omega), h.cm (by omega) r3]
              obtain ⟨f1, f2, f3⟩ := hi.cm (show j < n by omega) r3
              rw [f1]
              by_cases c4 : c i ≤ c j
              · rw [if_pos (nI_le c4 (by omega))]
                refine ih _ _ q (by omega) (Or.inr ⟨j, by omega, rfl, r3, r4, r5, fun t ht g1 g2 g3 => ?_⟩)
                rcases Nat.lt_or_ge t i with z | z
                · exact r6 t z g1 g2 g3
                · rw [show t = i by omega]; exact c4
              · rw [if_neg (nI_ge (by omega) (by omega))]
                exact ih _ _ q (by omega) (new (fun t ht g1 g2 g3 => Nat.le_trans (r6 t ht g1 g2 g3) (by omega)))
        · rw [if_neg (by rw [bitC]; exact c2)]; exact ih _ _ q (by omega) (skip (fun z => c2 z.2.1))
      · rw [if_pos (kT (h.isC0 q) c1)]; exact ih _ _ q (by omega) (skip (fun z => c1 z.1))
    · rw [if_pos (nI_le q (by omega))]
      have e : i = n := by omega
      rw [e] at hw
      exact hw
theorem writer_W (h : LR n v (r 0)) (hi : RI n m b c v) {x : Nat} (hx : x ≤ m + 1) : WL v n c k x (mL_writer r (nI k) (nI x)) := writer_L h hi hx 13 0 (-1) (Nat.zero_le _) (by have := h.1; omega) (Or.inl ⟨rfl, fun t ht => absurd ht (Nat.not_lt_zero t)⟩)
theorem counts_C {p q a : Nat} {ρ : Nat} (h : LR n v (r 0)) (hr : ρ < 4) (ha : a < n) (hp : p < n) (hq : q < n) (a1 : v 1 a = 1) (p1 : v 1 p = 1) (q1 : v 1 q = 1) {b' c' : Nat → Nat} (ea : v 3 a = nI (c' a)) (ep : v 3 p = nI (c' p)) (eq : v 3 q = nI (c' q)) (eb : v 2 a = nI (b' a)) (la : c' a < 2 ^ 31) (lp : c' p < 2 ^ 31) (lq : c' q < 2 ^ 31) (lb : b' a < 2 ^ 31) : (mL_counts r (nI ρ) (nI a) (nI p) (nI q) = 0) = ¬ CTn v b' c' ρ a p q := by
  have hn := h.1
  obtain ⟨g1, g2, g3, _⟩ := h.2.2 a ha
  have eqa : (nI q = nI a) = (q = a) := propext (nI_eq (by omega) (by omega))
  have e0 : (nI ρ = 0) = (ρ = 0) := propext (nI_eq (b := 0) (by omega) (by omega))
  have e2 : (nI ρ = 2) = (ρ = 2) := propext (nI_eq (b := 2) (by omega) (by omega))
  have e3 : (3 ≤ nI ρ) = (3 ≤ ρ) := propext (nI_leI (a := 3) (by omega) (by omega))
  rw [mL_counts_s]
  simp only [rA12 (t := a) (by omega), rA12 (t := p) (by omega), rA12 (t := q) (by omega), rA36 (t := a) (by omega), rA0 (t := a) (by omega), h.cm ha a1, h.cm hp p1, h.cm hq q1, ea, ep, eq, eb, g1, g3, eqa, e0, e2, e3, nI_leI la lq, nI_leI lp lq, nI_leI lb lq]
  unfold CTn
  rcases (show ρ = 0 ∨ ρ = 1 ∨ ρ = 2 ∨ ρ = 3 by omega) with rfl | rfl | rfl | rfl
  · simp
  · by_cases l1 : c' p ≤ c' q
    · simp [l1, Nat.not_lt.mpr l1]
    · by_cases l2 : q = a
      · simp [l1, l2, Nat.not_le.mp l1]
        try omega
      · by_cases l3 : c' a ≤ c' q
        · simp [l1, l2, l3, Nat.not_le.mp l1, Nat.not_lt.mpr l3]
        · simp [l1, l2, l3, Nat.not_le.mp l1, Nat.not_le.mp l3]
  · by_cases l1 : c' p ≤ c' q
    · simp [l1, Nat.not_lt.mpr l1]
    · by_cases w0 : v 5 a = 0
      · by_cases l4 : b' a ≤ c' q
        · by_cases l2 : q = a
          · simp [l1, l2, w0, Nat.not_le.mp l1]
            try omega
          · by_cases l3 : c' a ≤ c' q
            · simp [l1, l2, l3, w0, l4, Nat.not_le.mp l1, Nat.not_lt.mpr l3]
            · simp [l1, l2, l3, w0, l4, Nat.not_le.mp l1, Nat.not_le.mp l3]
        · by_cases l2 : q = a
          · simp [l1, l2, w0, Nat.not_le.mp l1]
            try omega
          · by_cases l3 : c' a ≤ c' q
            · simp [l1, l2, l3, w0, l4, Nat.not_le.mp l1, Nat.not_lt.mpr l3]
            · simp [l1, l2, l3, w0, l4, Nat.not_le.mp l1, Nat.not_le.mp l3]
              try omega
      · by_cases l2 : q = a
        · simp [l1, l2, w0, Nat.not_le.mp l1]
          try omega
        · by_cases l3 : c' a ≤ c' q
          · simp [l1, l2, l3, w0, Nat.not_le.mp l1, Nat.not_lt.mpr l3]
          · simp [l1, l2, l3, w0, Nat.not_le.mp l1, Nat.not_le.mp l3]
  · simp
end REL
