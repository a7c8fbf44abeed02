/-! commits that keep to the rules: no ring of dependencies; what each one reads stands in the order -/
section SSI
variable {n m : Nat} {b c : Nat → Nat} {v w : kG} {i j k t : Nat}
def RDk (v : kG) (t k : Nat) : Prop := ¬ mX5_contains (v 4 t) (nI k) = 0
def WRk (v : kG) (t k : Nat) : Prop := ¬ mX5_contains (v 5 t) (nI k) = 0
theorem wBehind_mL (hn : n ≤ 12) (h2 : v 0 2 = nI n) (hp : ∀ t, t < n → v 1 t = 1 → ¬ v 0 1 + 1 ≤ v 3 t) (key x : Int32) : ∀ f i w la, i ≤ n → n < f + i → (w = -6 ∧ la = v 0 1 + 1 ∧ (∀ t, t < i → ¬ eB v key x t) ∨ ∃ j, j < i ∧ w = nI j ∧ la = v 3 j ∧ eB v key x j ∧ ∀ t, t < i → eB v key x t → v 3 j ≤ v 3 t) →
    (mX2_writerBehind_L14 v key x f w la i = -6 ∧ (∀ t, t < n → ¬ eB v key x t)) ∨ ∃ j, j < n ∧ mX2_writerBehind_L14 v key x f w la i = nI j ∧ eB v key x j ∧ ∀ t, t < n → eB v key x t → v 3 j ≤ v 3 t := by
  intro f
  induction f with
  | zero => intro i w la h1 h2 _; omega
  | succ f ih =>
    intro i w la h1 h3 hw
    rw [mX2_writerBehind_L14_s, h2]
    rcases Nat.lt_or_ge i n with q | q
    · have skip : ¬ eB v key x i → (w = -6 ∧ la = v 0 1 + 1 ∧ (∀ t, t < i + 1 → ¬ eB v key x t) ∨ ∃ j, j < i + 1 ∧ w = nI j ∧ la = v 3 j ∧ eB v key x j ∧ ∀ t, t < i + 1 → eB v key x t → v 3 j ≤ v 3 t) := by
        intro hne
        rcases hw with ⟨r1, r2, r3⟩ | ⟨j, r1, r2, r3, r4, r5⟩
        · refine Or.inl ⟨r1, r2, fun t ht => ?_⟩
          rcases Nat.lt_or_ge t i with z | z
          · exact r3 t z
          · rw [show t = i by omega]; exact hne
        · refine Or.inr ⟨j, by omega, r2, r3, r4, fun t ht he => ?_⟩
          rcases Nat.lt_or_ge t i with z | z
          · exact r5 t z he
          · rw [show t = i by omega] at he; exact absurd he hne
      rw [if_neg (nI_ge q (by omega)), nI_clamp (by omega)]
      by_cases c1 : v 1 i = 1
      · rw [if_pos c1]
        by_cases c2 : mX5_contains (v 5 i) key = 0
        · rw [if_pos c2]; exact ih _ _ _ q (by omega) (skip (fun z => z.2.1 c2))
        · rw [if_neg c2]
          by_cases c3 : v 3 i ≤ x
          · rw [if_pos c3]; exact ih _ _ _ q (by omega) (skip (fun z => z.2.2 c3))
          · rw [if_neg c3]
            have he : eB v key x i := ⟨c1, c2, c3⟩
            by_cases c4 : la ≤ v 3 i
            · rw [if_pos c4]
              refine ih _ _ _ q (by omega) ?_
              rcases hw with ⟨r1, rfl, r3⟩ | ⟨j, r1, r2, rfl, r4, r5⟩
              · exact absurd c4 (hp i q c1)
              · refine Or.inr ⟨j, by omega, r2, rfl, r4, fun t ht he => ?_⟩
                rcases Nat.lt_or_ge t i with z | z
                · exact r5 t z he
                · rw [show t = i by omega]; exact c4
            · rw [if_neg c4]
              refine ih _ _ _ q (by omega) (Or.inr ⟨i, by omega, rfl, rfl, he, fun t ht he2 => ?_⟩)
              rcases Nat.lt_or_ge t i with z | z
              · rcases hw with ⟨r1, r2, r3⟩ | ⟨j, r1, r2, rfl, r4, r5⟩
                · exact absurd he2 (r3 t z)
                · exact Int32.le_trans (kle_lt c4) (r5 t z he2)
              · rw [show t = i by omega]; exact Int32.le_refl _
      · rw [if_neg c1]; exact ih _ _ _ q (by omega) (skip (fun z => c1 z.1))
    · have e : i = n := by omega
      rw [if_pos (nI_le q (by omega))]
      rw [e] at hw
      rcases hw with ⟨r1, r2, r3⟩ | ⟨j, r1, r2, r3, r4, r5⟩
      · exact Or.inl ⟨r1, r3⟩
      · exact Or.inr ⟨j, r1, r2, r4, r5⟩
theorem wBehind_min (hn : n ≤ 12) (h2 : v 0 2 = nI n) (hi : RI n m b c v) (key x : Int32) : (mX2_writerBehind v key x = -6 ∧ (∀ t, t < n → ¬ eB v key x t)) ∨ ∃ j, j < n ∧ mX2_writerBehind v key x = nI j ∧ eB v key x j ∧ ∀ t, t < n → eB v key x t → v 3 j ≤ v 3 t :=
  wBehind_mL hn h2 (fun t ht h1 => hi.le ht h1) key x 13 0 (-6) _ (Nat.zero_le _) (by omega) (Or.inl ⟨rfl, rfl, fun t ht => absurd ht (Nat.not_lt_zero t)⟩)
/-- the moments as numbers -/
theorem eA_n (hi : RI n m b c v) (ht : t < n) {x : Nat} (hx : x ≤ m + 1) : eA v (nI k) (nI x) t ↔ v 1 t = 1 ∧ WRk v t k ∧ c t < x := by
  have hm := hi.2.1
  unfold eA WRk
  constructor
  · rintro ⟨h1, h2, h3⟩
    obtain ⟨e1, e2, e3⟩ := hi.cm ht h1
    rw [e1, nI_leI (by omega) (by omega)] at h3
    exact ⟨h1, h2, by omega⟩
  · rintro ⟨h1, h2, h3⟩
    obtain ⟨e1, e2, e3⟩ := hi.cm ht h1
    refine ⟨h1, h2, ?_⟩
    rw [e1, nI_leI (by omega) (by omega)]
    omega
theorem eB_n (hi : RI n m b c v) (ht : t < n) {x : Nat} (hx : x ≤ m + 1) : eB v (nI k) (nI x) t ↔ v 1 t = 1 ∧ WRk v t k ∧ x < c t := by
  have hm := hi.2.1
  unfold eB WRk
  constructor
  · rintro ⟨h1, h2, h3⟩
    obtain ⟨e1, e2, e3⟩ := hi.cm ht h1
    rw [e1, nI_leI (by omega) (by omega)] at h3
    exact ⟨h1, h2, by omega⟩
  · rintro ⟨h1, h2, h3⟩
    obtain ⟨e1, e2, e3⟩ := hi.cm ht h1
    refine ⟨h1, h2, ?_⟩
    rw [e1, nI_leI (by omega) (by omega)]
    omega
theorem cLe (hi : RI n m b c v) (ht : t < n) (hj : j < n) (h1 : v 1 t = 1) (h2 : v 1 j = 1) : v 3 t ≤ v 3 j ↔ c t ≤ c j := by
  have hm := hi.2.1
  obtain ⟨e1, e2, e3⟩ := hi.cm ht h1
  obtain ⟨f1, f2, f3⟩ := hi.cm hj h2
  rw [e1, f1, nI_leI (by omega) (by omega)]
/-- the latest one of a key ahead of a moment; the earliest one behind it -/
theorem WA_n (hn : n ≤ 12) (h2 : v 0 2 = nI n) (hi : RI n m b c v) (k : Nat) {x : Nat} (hx : x ≤ m + 1) : (mX2_writerAhead v (nI k) (nI x) = -6 ∧ ∀ t, t < n → v 1 t = 1 → WRk v t k → ¬ c t < x) ∨ ∃ j, j < n ∧ mX2_writerAhead v (nI k) (nI x) = nI j ∧ v 1 j = 1 ∧ WRk v j k ∧ c j < x ∧ ∀ t, t < n → v 1 t = 1 → WRk v t k → c t < x → c t ≤ c j := by
  rcases wAhead_spec hn h2 (fun t ht h1 => hi.pos ht h1) (nI k) (nI x) with ⟨e, h⟩ | ⟨j, hj, e, h, h9⟩
  · exact Or.inl ⟨e, fun t ht h3 h4 h5 => h t ht ((eA_n hi ht hx).mpr ⟨h3, h4, h5⟩)⟩
  · rw [eA_n hi hj hx] at h
    exact Or.inr ⟨j, hj, e, h.1, h.2.1, h.2.2, fun t ht h3 h4 h5 => (cLe hi ht hj h3 h.1).mp (h9 t ht ((eA_n hi ht hx).mpr ⟨h3, h4, h5⟩))⟩
theorem WB_n (hn : n ≤ 12) (h2 : v 0 2 = nI n) (hi : RI n m b c v) (k : Nat) {x : Nat} (hx : x ≤ m + 1) : (mX2_writerBehind v (nI k) (nI x) = -6 ∧ ∀ t, t < n → v 1 t = 1 → WRk v t k → ¬ x < c t) ∨ ∃ j, j < n ∧ mX2_writerBehind v (nI k) (nI x) = nI j ∧ v 1 j = 1 ∧ WRk v j k ∧ x < c j ∧ ∀ t, t < n → v 1 t = 1 → WRk v t k → x < c t → c j ≤ c t := by
  rcases wBehind_min hn h2 hi (nI k) (nI x) with ⟨e, h⟩ | ⟨j, hj, e, h, h9⟩
  · exact Or.inl ⟨e, fun t ht h3 h4 h5 => h t ht ((eB_n hi ht hx).mpr ⟨h3, h4, h5⟩)⟩
  · rw [eB_n hi hj hx] at h
    exact Or.inr ⟨j, hj, e, h.1, h.2.1, h.2.2, fun t ht h3 h4 h5 => (cLe hi hj ht h.1 h3).mp (h9 t ht ((eB_n hi ht hx).mpr ⟨h3, h4, h5⟩))⟩
theorem WA_is (hn : n ≤ 12) (h2 : v 0 2 = nI n) (hi : RI n m b c v) {x y : Nat} (hx : x ≤ m + 1) (hy : y < 12) (e : mX2_writerAhead v (nI k) (nI x) = nI y) : y < n ∧ v 1 y = 1 ∧ WRk v y k ∧ c y < x ∧ ∀ t, t < n → v 1 t = 1 → WRk v t k → c t < x → c t ≤ c y := by
  rcases WA_n hn h2 hi k hx with ⟨e1, _⟩ | ⟨j, hj, e1, h⟩
  · rw [e1] at e; exact absurd e (ne6_nI (by omega))
  · rw [e1] at e
    have : j = y := (nI_eq (by omega) (by omega)).mp e
    subst this
    exact ⟨hj, h⟩
theorem WB_is (hn : n ≤ 12) (h2 : v 0 2 = nI n) (hi : RI n m b c v) {x y : Nat} (hx : x ≤ m + 1) (hy : y < 12) (e : mX2_writerBehind v (nI k) (nI x) = nI y) : y < n ∧ v 1 y = 1 ∧ WRk v y k ∧ x < c y ∧ ∀ t, t < n → v 1 t = 1 → WRk v t k → x < c t → c y ≤ c t := by
  rcases WB_n hn h2 hi k hx with ⟨e1, _⟩ | ⟨j, hj, e1, h⟩
  · rw [e1] at e; exact absurd e (ne6_nI (by omega))
  · rw [e1] at e
    have : j = y := (nI_eq (by omega) (by omega)).mp e
    subst this
    exact ⟨hj, h⟩
theorem EE_c (hi : RI n m b c v) (hn : n ≤ 12) (hi' : i < n) (hj : j < n) (h1 : v 1 i = 1) (h2 : v 1 j = 1) : EE v i j ↔ i ≠ j ∧ b j < c i ∧ b i < c j ∧ ∃ k, k < 16 ∧ RDk v i k ∧ WRk v j k := by
  have hm := hi.2.1
  obtain ⟨e1, e2, e3⟩ := hi.cm hi' h1
  obtain ⟨f1, f2, f3⟩ := hi.cm hj h2
  obtain ⟨g1, g2, g3⟩ := hi.bg hi'
  obtain ⟨l1, l2, l3⟩ := hi.bg hj
  have n1 := hi.2.2.2.2.2 i j hi' hj h1
  have n2 := hi.2.2.2.2.2 j i hj hi' h2
  obtain ⟨x, x1, x2⟩ := hi.rd hi'
  obtain ⟨y, y1, y2⟩ := hi.wr hj
  have hk : ¬ ((v 4 i) &&& (v 5 j)) = 0 ↔ ∃ k, k < 16 ∧ RDk v i k ∧ WRk v j k := by
    rw [x2, y2, kand_bits x1]
    unfold RDk WRk
    rw [x2, y2]
    constructor
    · intro h
      refine Classical.byContradiction (fun z => h (fun k hk hc => z ⟨k, hk, ?_, ?_⟩))
      · rw [kct0 (by omega) (by omega), hc.1]; decide
      · rw [kct0 (by omega) (by omega), hc.2]; decide
    · rintro ⟨k, k1, k2, k3⟩ h
      rw [kct0 (by omega) (by omega)] at k2 k3
      exact h k k1 ⟨by simpa using k2, by simpa using k3⟩
  unfold EE ED
  rw [hk]
  have d2 : ¬ (1 : Int32) = 2 := by decide
  rw [h1, h2, e1, f1, g1, l1, nI_leI (by omega) (by omega), nI_leI (by omega) (by omega)]
  constructor
  · rintro ⟨⟨a1, _, _, a4, a5⟩, a6⟩
    refine ⟨a1, ?_, ?_, a6⟩
    · have : b j ≤ c i := Classical.byContradiction (fun z => a4 ⟨rfl, z⟩)
      omega
    · have : b i ≤ c j := Classical.byContradiction (fun z => a5 ⟨rfl, z⟩)
      omega
  · rintro ⟨a1, a2, a3, a6⟩
    exact ⟨⟨a1, d2, d2, fun z => z.2 (by omega), fun z => z.2 (by omega)⟩, a6⟩
/-- of two committed ones that wrote the same key the later one began behind the commit of the other -/
def FCW (v : kG) (n : Nat) (b c : Nat → Nat) : Prop := ∀ t u, t < n → u < n → v 1 t = 1 → v 1 u = 1 → t ≠ u → b t < c u → c u < c t → ∀ k, k < 16 → ¬ (WRk v t k ∧ WRk v u k)
def CTn (v : kG) (b c : Nat → Nat) (r a p q : Nat) : Prop := r = 0 ∨ (r = 1 ∨ r = 2) ∧ c q < c p ∧ (q = a ∨ c q < c a) ∧ (r = 2 → v 5 a = 0 → c q < b a)
def INV (v : kG) (n : Nat) (b c : Nat → Nat) (r : Nat) : Prop := ∀ a p q, a < n → p < n → q < n → v 1 a = 1 → v 1 p = 1 → v 1 q = 1 → EE v a p → EE v p q → ¬ CTn v b c r a p q
theorem DEP_k (hn : n ≤ 12) (h2 : v 0 2 = nI n) (hi : RI n m b c v) {x y : Nat} (hx : x < 12) (hy : y < 12) (h : DEP v n x y) : x ≠ y ∧ x < n ∧ y < n ∧ v 1 x = 1 ∧ v 1 y = 1 ∧ ∃ k, k < 16 ∧ (WRk v x k ∧ WRk v y k ∧ c x < c y ∨ RDk v y k ∧ WRk v x k ∧ c x < b y ∨ RDk v x k ∧ WRk v y k ∧ b x < c y) := by
  obtain ⟨t, ht, h1, k, hk, hne, h⟩ := h
  have hm := hi.2.1
  obtain ⟨e1, e2, e3⟩ := hi.cm ht h1
  obtain ⟨g1, g2, g3⟩ := hi.bg ht
  have eq : ∀ z, z < 12 → nI t = nI z → t = z := fun z hz q => (nI_eq (by omega) (by omega)).mp q
  rcases h with ⟨a1, a2, a3⟩ | ⟨a1, ⟨a2, a3⟩ | ⟨a2, a3⟩⟩
  · have := eq x hx a2
    subst this
    rw [e1] at a3
    obtain ⟨p1, p2, p3, p4, _⟩ := WB_is hn h2 hi (by omega) hy a3
    exact ⟨hne, ht, p1, h1, p2, k, hk, Or.inl ⟨a1, p3, p4⟩⟩
  · have := eq y hy a3
    subst this
    rw [g1] at a2
    obtain ⟨p1, p2, p3, p4, _⟩ := WA_is hn h2 hi (by omega) hx a2
    exact ⟨hne, p1, ht, p2, h1, k, hk, Or.inr (Or.inl ⟨a1, p3, p4⟩)⟩
  · have := eq x hx a2
    subst this
    rw [g1] at a3
    obtain ⟨p1, p2, p3, p4, _⟩ := WB_is hn h2 hi (by omega) hy a3
    exact ⟨hne, ht, p1, h1, p2, k, hk, Or.inr (Or.inr ⟨a1, p3, p4⟩)⟩
theorem DEP_f (hn : n ≤ 12) (h2 : v 0 2 = nI n) (hi : RI n m b c v) (hF : FCW v n b c) {x y : Nat} (hx : x < 12) (hy : y < 12) (h : DEP v n x y) : c x < b y ∨ EE v x y := by
  obtain ⟨hne, x1, y1, x2, y2, k, hk, h⟩ := DEP_k hn h2 hi hx hy h
  have n1 := hi.2.2.2.2.2 x y x1 y1 x2
  rcases h with ⟨a1, a2, a3⟩ | ⟨a1, a2, a3⟩ | ⟨a1, a2, a3⟩
  · rcases Nat.lt_or_ge (c x) (b y) with z | z
    · exact Or.inl z
    · exact absurd ⟨a2, a1⟩ (hF y x y1 x1 y2 x2 (Ne.symm hne) (by omega) a3 k hk)
  · exact Or.inl a3
  · rcases Nat.lt_or_ge (c x) (b y) with z | z
    · exact Or.inl z
    · exact Or.inr ((EE_c hi hn x1 y1 x2 y2).mpr ⟨hne, by omega, a3, k, hk, a1, a2⟩)
theorem DEP_ro (hn : n ≤ 12) (h2 : v 0 2 = nI n) (hi : RI n m b c v) {x y : Nat} (hx : x < 12) (hy : y < 12) (h : DEP v n x y) (hr : v 5 y = 0) : c x < b y := by
  obtain ⟨hne, x1, y1, x2, y2, k, hk, h⟩ := DEP_k hn h2 hi hx hy h
  have h0 : mX5_contains (nI 0) (nI k) = 0 := by
    rw [kct0 (by omega) (by omega)]
    simp
  have no : ¬ WRk v y k := fun z => z (by rw [hr]; exact h0)
  rcases h with ⟨a1, a2, a3⟩ | ⟨a1, a2, a3⟩ | ⟨a1, a2, a3⟩
  · exact absurd a2 no
  · exact a3
  · exact absurd a2 no
theorem kmin (X : Nat → Prop) (c : Nat → Nat) : ∀ N x, X x → c x ≤ N → ∃ y, X y ∧ ∀ z, X z → c y ≤ c z := by
  intro N
  induction N with
  | zero => intro x hx h; exact ⟨x, hx, fun z _ => by omega⟩
  | succ N ih =>
    intro x hx h
    by_cases e : ∃ z, X z ∧ c z < c x
    · obtain ⟨z, z1, z2⟩ := e
      exact ih z z1 (by omega)
    · exact ⟨x, hx, fun z hz => Nat.not_lt.mp (fun y => e ⟨z, hz, y⟩)⟩
/-- by the rules 0 to 2 no set of committed ones depends on itself alone -/
theorem ssi {r : Nat} (hr : r < 3) (hn : n ≤ 12) (h2 : v 0 2 = nI n) (hi : RI n m b c v) (hF : FCW v n b c) (hV : INV v n b c r) (X : Nat → Prop) (hX : ∀ i, X i → i < n ∧ v 1 i = 1) {x0 : Nat} (h0 : X x0) (hd : ∀ i, X i → ∃ x, X x ∧ DEP v n x i) : False := by
  obtain ⟨C, C1, C2⟩ := kmin X c (c x0) x0 h0 (Nat.le_refl _)
  obtain ⟨P, P1, P2⟩ := hd C C1
  obtain ⟨A, A1, A2⟩ := hd P P1
  obtain ⟨hC, hC1⟩ := hX C C1
  obtain ⟨hP, hP1⟩ := hX P P1
  obtain ⟨hA, hA1⟩ := hX A A1
  obtain ⟨_, cC, _⟩ := hi.cm hC hC1
  have mP := C2 P P1
  have mA := C2 A A1
  have e1 : EE v P C := (DEP_f hn h2 hi hF (by omega) (by omega) P2).resolve_left (fun z => by omega)
  have f1 := (EE_c hi hn hP hC hP1 hC1).mp e1
  have e2 : EE v A P := (DEP_f hn h2 hi hF (by omega) (by omega) A2).resolve_left (fun z => by omega)
  refine hV A P C hA hP hC hA1 hP1 hC1 e2 e1 ?_
  have d1 := hi.2.2.2.2.1 C P hC hP hC1 hP1 (Ne.symm f1.1)
  have hro : v 5 A = 0 → c C < b A := by
    intro h
    obtain ⟨Z, Z1, Z2⟩ := hd A A1
    have hZ := (hX Z Z1).1
    have z1 := DEP_ro hn h2 hi (by omega) (by omega) Z2 h
    have z2 := C2 Z Z1
    omega
  rcases (show r = 0 ∨ r = 1 ∨ r = 2 by omega) with e | e | e
  · exact Or.inl e
  all_goals
    refine Or.inr ⟨by omega, by omega, ?_, fun _ => hro⟩
    by_cases q : C = A
    · exact Or.inl q
    · have d2 := hi.2.2.2.2.1 C A hC hA hC1 hA1 q
      exact Or.inr (by omega)
/-! an order that keeps the dependencies -/
def OKT (v : kG) (n all : Nat) (T : Nat → Nat) : Prop := ∀ q, q < all → T q < n ∧ v 1 (T q) = 1 ∧ (∀ i, i < q → T i ≠ T q) ∧ ∀ x, x < n → DEP v n x (T q) → v 1 x = 1 → ∃ i, i < q ∧ T i = x
theorem chain (hn : n ≤ 12) (h2 : v 0 2 = nI n) (hi : RI n m b c v) {all : Nat} {T : Nat → Nat} (hT : OKT v n all T) {k : Nat} (hk : k < 16) : ∀ N q x, q < all → c (T q) ≤ N → x < n → v 1 x = 1 → WRk v x k → WRk v (T q) k → c x < c (T q) → ∃ i, i < q ∧ T i = x := by
  intro N
  induction N with
  | zero => intro q x _ _ _ _ _ _ _; omega
  | succ N ih =>
    intro q x hq hN hx hx1 hxk hqk hlt
    obtain ⟨t1, t2, t3, t4⟩ := hT q hq
    obtain ⟨c1, c2, c3⟩ := hi.cm t1 t2
    rcases WA_n hn h2 hi k (x := c (T q)) (by omega) with ⟨_, h⟩ | ⟨y, hy, _, y1, yk, y2, y3⟩
    · exact absurd hlt (h x hx hx1 hxk)
    · obtain ⟨d1, d2, d3⟩ := hi.cm hy y1
      have dep : DEP v n y (T q) := by
        refine ⟨y, hy, y1, k, hk, fun e => by rw [e] at y2; omega, Or.inl ⟨yk, rfl, ?_⟩⟩
        rw [d1]
        rcases WB_n hn h2 hi k (x := c y) (by omega) with ⟨_, h⟩ | ⟨z, hz, ez, z1, zk, z2, z3⟩
        · exact absurd y2 (h (T q) t1 t2 hqk)
        · rw [ez]
          have l1 := z3 (T q) t1 t2 hqk y2
          by_cases e : z = T q
          · rw [e]
          · have l2 := hi.2.2.2.2.1 z (T q) hz t1 z1 t2 e
            have l3 := y3 z hz z1 zk (by omega)
            omega
      obtain ⟨i, i1, i2⟩ := t4 y hy dep y1
      by_cases e : x = y
      · exact ⟨i, i1, by rw [i2, e]⟩
      · have l1 := y3 x hx hx1 hxk hlt
        have l2 := hi.2.2.2.2.1 x y hx hy hx1 y1 e
        obtain ⟨i', j1, j2⟩ := ih i x (by omega) (by rw [i2]; omega) hx hx1 hxk (by rw [i2]; exact yk) (by rw [i2]; omega)
        exact ⟨i', by omega, j2⟩
/-- a reader stands behind just those writers that were committed ahead of its begin -/
theorem placed (hn : n ≤ 12) (h2 : v 0 2 = nI n) (hi : RI n m b c v) {all : Nat} {T : Nat → Nat} (hT : OKT v n all T) {k q x : Nat} (hk : k < 16) (hq : q < all) (hr : RDk v (T q) k) (hx : x < n) (hx1 : v 1 x = 1) (hxk : WRk v x k) : (∃ i, i < q ∧ T i = x) ↔ c x < b (T q) := by
  obtain ⟨t1, t2, t3, t4⟩ := hT q hq
  obtain ⟨c1, c2, c3⟩ := hi.cm t1 t2
  obtain ⟨g1, g2, g3⟩ := hi.bg t1
  have n1 := hi.2.2.2.2.2 x (T q) hx t1 hx1
  constructor
  · rintro ⟨i, i1, i2⟩
    refine Classical.byContradiction (fun hc => ?_)
    have hne : x ≠ T q := fun e => t3 i i1 (i2.trans e)
    rcases WB_n hn h2 hi k (x := b (T q)) (by omega) with ⟨_, h⟩ | ⟨y, hy, ey, y1, yk, y2, y3⟩
    · exact h x hx hx1 hxk (by omega)
    · have l1 := y3 x hx hx1 hxk (by omega)
      have fin : ∀ j, j < all → j ≤ i → T j = y → y ≠ T q → False := by
        intro j hj hji ej hyq
        have dep : DEP v n (T q) (T j) := by
          rw [ej]
          exact ⟨T q, t1, t2, k, hk, Ne.symm hyq, Or.inr ⟨hr, Or.inr ⟨rfl, by rw [g1]; exact ey⟩⟩⟩
        obtain ⟨i', j1, j2⟩ := (hT j hj).2.2.2 (T q) t1 dep t2
        exact t3 i' (by omega) j2
      by_cases e : y = x
      · exact fin i (by omega) (Nat.le_refl _) (by rw [i2, e]) (by rw [e]; exact hne)
      · have l2 := hi.2.2.2.2.1 y x hy hx y1 hx1 e
        obtain ⟨j, j1, j2⟩ := chain hn h2 hi hT hk (c x) i y (by omega) (by rw [i2]; exact Nat.le_refl _) hy y1 yk (by rw [i2]; exact hxk) (by rw [i2]; omega)
        exact fin j (by omega) (by omega) j2 (fun e2 => t3 j (by omega) (j2.trans e2))
  · intro hlt
    rcases WA_n hn h2 hi k (x := b (T q)) (by omega) with ⟨_, h⟩ | ⟨y, hy, ey, y1, yk, y2, y3⟩
    · exact absurd hlt (h x hx hx1 hxk)
    · have dep : DEP v n y (T q) := ⟨T q, t1, t2, k, hk, fun e => by rw [e] at y2; omega, Or.inr ⟨hr, Or.inl ⟨by rw [g1]; exact ey, rfl⟩⟩⟩
      obtain ⟨i, i1, i2⟩ := t4 y hy dep y1
      by_cases e : x = y
      · exact ⟨i, i1, by rw [i2, e]⟩
      · have l1 := y3 x hx hx1 hxk hlt
        have l2 := hi.2.2.2.2.1 x y hx hy hx1 y1 e
        obtain ⟨i', j1, j2⟩ := chain hn h2 hi hT hk (c y) i x (by omega) (by rw [i2]; exact Nat.le_refl _) hx hx1 hxk (by rw [i2]; exact yk) (by rw [i2]; omega)
        exact ⟨i', by omega, j2⟩
end SSI
