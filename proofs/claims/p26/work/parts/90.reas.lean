/-! why a commit is refused: the class and the law alike -/
theorem if_base {α : Type} {D G : Prop} {dD : Decidable D} {X0 X1 : α} (h : D ↔ ¬ G) : (if D then X0 else X1) = X1 ∧ G ∨ (if D then X0 else X1) = X0 ∧ ¬ G := by
  by_cases d : D
  · rw [if_pos d]; exact Or.inr ⟨rfl, h.mp d⟩
  · rw [if_neg d]; exact Or.inl ⟨rfl, Classical.byContradiction (fun z => d (h.mpr z))⟩
theorem if_in1 {α : Type} {D G GJ : Prop} {dD : Decidable D} {X0 X1 J : α} (h : D ↔ ¬ G) (hJ : G → (J = X1 ∧ GJ ∨ J = X0 ∧ ¬ GJ)) : (if D then X0 else J) = X1 ∧ (G ∧ GJ) ∨ (if D then X0 else J) = X0 ∧ ¬ (G ∧ GJ) := by
  by_cases d : D
  · rw [if_pos d]; exact Or.inr ⟨rfl, fun z => h.mp d z.1⟩
  · rw [if_neg d]
    have g : G := Classical.byContradiction (fun z => d (h.mpr z))
    rcases hJ g with ⟨e, z⟩ | ⟨e, z⟩
    · exact Or.inl ⟨e, g, z⟩
    · exact Or.inr ⟨e, fun y => z y.2⟩
theorem if_out {α : Type} {A P C G : Prop} {dA : Decidable A} {dP : Decidable P} {dC : Decidable C} {I X0 X1 : α} (h : I = X1 ∧ G ∨ I = X0 ∧ ¬ G) : (if A then I else if P then I else if C then I else X0) = X1 ∧ ((A ∨ P ∨ C) ∧ G) ∨ (if A then I else if P then I else if C then I else X0) = X0 ∧ ¬ ((A ∨ P ∨ C) ∧ G) := by
  by_cases a : A
  · rw [if_pos a]
    exact h.elim (fun z => Or.inl ⟨z.1, Or.inl a, z.2⟩) (fun z => Or.inr ⟨z.1, fun y => z.2 y.2⟩)
  · rw [if_neg a]
    by_cases p : P
    · rw [if_pos p]
      exact h.elim (fun z => Or.inl ⟨z.1, Or.inr (Or.inl p), z.2⟩) (fun z => Or.inr ⟨z.1, fun y => z.2 y.2⟩)
    · rw [if_neg p]
      by_cases c : C
      · rw [if_pos c]
        exact h.elim (fun z => Or.inl ⟨z.1, Or.inr (Or.inr c), z.2⟩) (fun z => Or.inr ⟨z.1, fun y => z.2 y.2⟩)
      · rw [if_neg c]
        exact Or.inr ⟨rfl, fun y => y.1.elim a (fun z => z.elim p c)⟩
section REAS
variable {n m : Nat} {b c : Nat → Nat} {v w r : kG} {i j k t : Nat}
def cC (c : Nat → Nat) (t m : Nat) : Nat → Nat := fun x => if x = t then m + 1 else c x
/-- a triple that a commit of t would close -/
def GT (v : kG) (m : Nat) (b c : Nat → Nat) (ρ t a p q : Nat) : Prop := vC v t 1 a = 1 ∧ vC v t 1 p = 1 ∧ vC v t 1 q = 1 ∧ (a = t ∨ p = t ∨ q = t) ∧ EE v a p ∧ EE v p q ∧ CTn v b (cC c t m) ρ a p q
theorem vC_c (hi : RI n m b c v) (hj : j < n) (h1 : vC v t 1 j = 1) : vC v t 3 j = nI (cC c t m j) ∧ cC c t m j ≤ m + 1 ∧ 1 ≤ cC c t m j := by
  rw [vC1] at h1
  rw [vC3]
  unfold cC
  by_cases e : j = t
  · rw [if_pos e, if_pos e, hi.1, nI_1]; exact ⟨rfl, Nat.le_refl _, by omega⟩
  · rw [if_neg e, if_neg e]
    rw [if_neg e] at h1
    obtain ⟨e1, e2, e3⟩ := hi.cm hj h1
    exact ⟨e1, by omega, by omega⟩
theorem counts_K {p q a ρ : Nat} (hn : n ≤ 12) (hi : RI n m b c v) (hr : ρ < 4) (ht0 : v 1 t = 0) (ha : a < n) (hp : p < n) (hq : q < n) (a1 : vC v t 1 a = 1) (p1 : vC v t 1 p = 1) (q1 : vC v t 1 q = 1) (hpq : p ≠ q) : (mX0_counts v (nI ρ) (nI a) (nI p) (nI q) = 0) = ¬ CTn v b (cC c t m) ρ a p q := by
  have hm := hi.2.1
  have e0 : (nI ρ = 0) = (ρ = 0) := propext (nI_eq (b := 0) (by omega) (by omega))
  have e3 : (nI ρ = 3) = (ρ = 3) := propext (nI_eq (b := 3) (by omega) (by omega))
  have e1 : (nI ρ = 1) = (ρ = 1) := propext (nI_eq (b := 1) (by omega) (by omega))
  have hb := hi.bg ha
  rw [vC1] at a1 p1 q1
  have cm : ∀ x, ¬ x = t → (if x = t then (1 : Int32) else v 1 x) = 1 → v 1 x = 1 := fun x q z => by rw [if_neg q] at z; exact z
  rw [mX0_counts_s]
  simp only [nI_clamp (n := a) (show a < 2 ^ 31 by omega), nI_clamp (n := p) (show p < 2 ^ 31 by omega), nI_clamp (n := q) (show q < 2 ^ 31 by omega), e0, e1, e3]
  unfold CTn
  by_cases qt : q = t
  · have pt : ¬ p = t := fun z => hpq (by rw [z, qt])
    have p2 := cm p pt p1
    obtain ⟨y1, y2, y3⟩ := hi.cm hp p2
    have hqv : ¬ v 1 q = 1 := by rw [qt, ht0]; decide
    have l1 : ¬ cC c t m q < cC c t m p := by unfold cC; rw [if_pos qt, if_neg pt]; omega
    rcases (show ρ = 0 ∨ ρ = 1 ∨ ρ = 2 ∨ ρ = 3 by omega) with rfl | rfl | rfl | rfl <;> simp [hqv, l1]
  · have q2 := cm q qt q1
    obtain ⟨x1, x2, x3⟩ := hi.cm hq q2
    have cq : cC c t m q = c q := by unfold cC; rw [if_neg qt]
    have P1 : (cC c t m q < cC c t m p) ↔ (v 1 p = 1 → v 3 q ≤ v 3 p) := by
      rw [cq]
      unfold cC
      by_cases pt : p = t
      · rw [if_pos pt]
        exact ⟨fun _ z => absurd z (by rw [pt, ht0]; decide), fun _ => by omega⟩
      · rw [if_neg pt]
        have p2 := cm p pt p1
        rw [cLe hi hq hp q2 p2]
        have := hi.2.2.2.2.1 q p hq hp q2 p2 (Ne.symm hpq)
        exact ⟨fun z _ => by omega, fun z => by have := z p2; omega⟩
    have P2 : (q = a ∨ cC c t m q < cC c t m a) ↔ (v 1 a = 1 → v 3 q ≤ v 3 a) := by
      rw [cq]
      unfold cC
      by_cases at_ : a = t
      · rw [if_pos at_]
        exact ⟨fun _ z => absurd z (by rw [at_, ht0]; decide), fun _ => by omega⟩
      · rw [if_neg at_]
        have a2 := cm a at_ a1
        rw [cLe hi hq ha q2 a2]
        by_cases qa : q = a
        · exact ⟨fun _ _ => by rw [qa]; exact Nat.le_refl _, fun _ => Or.inl qa⟩
        · have := hi.2.2.2.2.1 q a hq ha q2 a2 qa
          exact ⟨fun z _ => by omega, fun z => by have := z a2; omega⟩
    have P3 : (cC c t m q < b a) ↔ ¬ v 2 a ≤ v 3 q := by
      rw [cq, hb.1, x1, nI_leI (by omega) (by omega)]; omega
    rw [P1, P2, P3]
    rcases (show ρ = 0 ∨ ρ = 1 ∨ ρ = 2 ∨ ρ = 3 by omega) with rfl | rfl | rfl | rfl
    · simp
    · by_cases z1 : v 1 p = 1
      · by_cases z2 : v 3 q ≤ v 3 p
        · by_cases z3 : v 1 a = 1
          · by_cases z4 : v 3 q ≤ v 3 a
            · simp [q2, z1, z2, z3, z4]
            · simp [q2, z1, z2, z3, z4]
          · simp [q2, z1, z2, z3]
        · simp [q2, z1, z2]
      · by_cases z3 : v 1 a = 1
        · by_cases z4 : v 3 q ≤ v 3 a
          · simp [q2, z1, z3, z4]
          · simp [q2, z1, z3, z4]
        · simp [q2, z1, z3]
    · by_cases z1 : v 1 p = 1
      · by_cases z2 : v 3 q ≤ v 3 p
        · by_cases z3 : v 1 a = 1
          · by_cases z4 : v 3 q ≤ v 3 a
            · by_cases z5 : v 5 a = 0
              · by_cases z6 : v 2 a ≤ v 3 q
                · simp [q2, z1, z2, z3, z4, z5, z6]
                · simp [q2, z1, z2, z3, z4, z5, z6]
              · simp [q2, z1, z2, z3, z4, z5]
            · simp [q2, z1, z2, z3, z4]
          · by_cases z5 : v 5 a = 0
            · by_cases z6 : v 2 a ≤ v 3 q
              · simp [q2, z1, z2, z3, z5, z6]
              · simp [q2, z1, z2, z3, z5, z6]
            · simp [q2, z1, z2, z3, z5]
        · simp [q2, z1, z2]
      · by_cases z3 : v 1 a = 1
        · by_cases z4 : v 3 q ≤ v 3 a
          · by_cases z5 : v 5 a = 0
            · by_cases z6 : v 2 a ≤ v 3 q
              · simp [q2, z1, z3, z4, z5, z6]
              · simp [q2, z1, z3, z4, z5, z6]
            · simp [q2, z1, z3, z4, z5]
          · simp [q2, z1, z3, z4]
        · by_cases z5 : v 5 a = 0
          · by_cases z6 : v 2 a ≤ v 3 q
            · simp [q2, z1, z3, z5, z6]
            · simp [q2, z1, z3, z5, z6]
          · simp [q2, z1, z3, z5]
    · simp
/-- the class: none, or one of them -/
theorem over_T {p ρ : Nat} (hn : n ≤ 12) (h2 : v 0 2 = nI n) (hi : RI n m b c v) (hr : ρ < 4) (ht : t < n) (ht0 : v 1 t = 0) (hp : p < n) (d2 : vC v t 1 p = 1) {SR TG : Int32} (eS : SR = (mX2_edgesTo v (nI p)) &&& ((mX2_inPhase v 1) ||| (1 <<< (nI t &&& 31)))) (eG : TG = (mX2_edgesFrom v (nI p)) &&& ((mX2_inPhase v 1) ||| (1 <<< (nI t &&& 31)))) :
    (∃ a q, a < n ∧ q < n ∧ GT v m b c ρ t a p q ∧ mX0_firstOverPivot v (nI t) (nI ρ) (nI p) SR TG = pk3 a p q) ∨ (∀ a q, a < n → q < n → ¬ GT v m b c ρ t a p q) ∧ mX0_firstOverPivot v (nI t) (nI ρ) (nI p) SR TG = -6 := by
  have eT : ∀ x, x < n → (nI x = nI t ↔ x = t) := fun x hx => nI_eq (by omega) (by omega)
  have hS : ∀ a, a < n → (mX5_contains SR (nI a) = 0) = ¬ (EE v a p ∧ vC v t 1 a = 1) := fun a ha => by rw [eS]; exact src0 hn h2 ht hp ha
  have hG : ∀ a, a < n → (mX5_contains TG (nI a) = 0) = ¬ (EE v p a ∧ vC v t 1 a = 1) := fun a ha => by rw [eG]; exact tgt0 hn h2 ht hp ha
  have inner : ∀ (a : Nat), a < n → ∀ (kk : Nat → Int32) f q, q ≤ n → n < f + q → (∃ q', q' < n ∧ GT v m b c ρ t a p q' ∧ mX0_firstOverPivot_L15 v (nI t) (nI ρ) (nI p) SR TG a kk f q = pk3 a p q') ∨ (∀ q', q ≤ q' → q' < n → ¬ GT v m b c ρ t a p q') ∧ mX0_firstOverPivot_L15 v (nI t) (nI ρ) (nI p) SR TG a kk f q = kk n := by
    intro a ha kk f
    induction f with
    | zero => intro q h1 h3; omega
    | succ f ih =>
      intro q h1 h3
      rw [mX0_firstOverPivot_L15_s, h2]
      rcases Nat.lt_or_ge q n with qk | qk
      · rw [if_neg (nI_ge qk (by omega))]
        rcases if_out (A := nI a = nI t) (P := nI p = nI t) (C := nI q = nI t) (X0 := mX0_firstOverPivot_L15 v (nI t) (nI ρ) (nI p) SR TG a kk f (q + 1)) (X1 := ((((nI p <<< (4 &&& 31)) ||| (nI a)) <<< (4 &&& 31)) ||| (nI q)))
          (if_in1 (D := mX5_contains SR (nI a) = 0) (G := EE v a p ∧ vC v t 1 a = 1) (by rw [hS a ha]) (fun g1 => if_in1 (D := mX5_contains TG (nI q) = 0) (G := EE v p q ∧ vC v t 1 q = 1) (by rw [hG q qk]) (fun g2 => if_base (D := mX0_counts v (nI ρ) (nI a) (nI p) (nI q) = 0) (G := CTn v b (cC c t m) ρ a p q) (by rw [counts_K hn hi hr ht0 ha hp qk g1.2 d2 g2.2 g2.1.1.1])))) with ⟨e, g⟩ | ⟨e, g⟩
        · rw [e]
          refine Or.inl ⟨q, qk, ?_, rfl⟩
          obtain ⟨f1, ⟨f2, f3⟩, ⟨f4, f5⟩, f6⟩ := g
          rw [eT a ha, eT p hp, eT q qk] at f1
          exact ⟨f3, d2, f5, f1, f2, f4, f6⟩
        · rw [e]
          have hng : ¬ GT v m b c ρ t a p q := fun z => g ⟨by rw [eT a ha, eT p hp, eT q qk]; exact z.2.2.2.1, ⟨z.2.2.2.2.1, z.1⟩, ⟨z.2.2.2.2.2.1, z.2.2.1⟩, z.2.2.2.2.2.2⟩
          rcases ih (q + 1) qk (by omega) with z | ⟨z1, z2⟩
          · exact Or.inl z
          · refine Or.inr ⟨fun q' y1 y2 => ?_, z2⟩
            rcases Nat.lt_or_ge q q' with x | x
            · exact z1 q' x y2
            · rw [show q' = q by omega]; exact hng
      · rw [if_pos (nI_le qk (by omega))]
        exact Or.inr ⟨fun q' y1 y2 => by omega, by rw [show q = n by omega]⟩
  have outer : ∀ f a, a ≤ n → n < f + a → (∃ a' q, a' < n ∧ q < n ∧ GT v m b c ρ t a' p q ∧ mX0_firstOverPivot_L3 v (nI t) (nI ρ) (nI p) SR TG f a = pk3 a' p q) ∨ (∀ a' q, a ≤ a' → a' < n → q < n → ¬ GT v m b c ρ t a' p q) ∧ mX0_firstOverPivot_L3 v (nI t) (nI ρ) (nI p) SR TG f a = -6 := by
    intro f
    induction f with
    | zero => intro a h1 h3; omega
    | succ f ih =>
      intro a h1 h3
      rw [mX0_firstOverPivot_L3_s, h2]
      rcases Nat.lt_or_ge a n with qa | qa
      · rw [if_neg (nI_ge qa (by omega))]
        rcases inner a qa (mX0_firstOverPivot_K15 v (nI t) (nI ρ) (nI p) SR TG a (mX0_firstOverPivot_L3 v (nI t) (nI ρ) (nI p) SR TG f)) 13 0 (Nat.zero_le _) (by omega) with ⟨q', z1, z2, z3⟩ | ⟨z1, z2⟩
        · exact Or.inl ⟨a, q', qa, z1, z2, z3⟩
        · rw [z2, mX0_firstOverPivot_K15_s]
          rcases ih (a + 1) qa (by omega) with z | ⟨y1, y2⟩
          · exact Or.inl z
          · refine Or.inr ⟨fun a' q x1 x2 x3 => ?_, y2⟩
            rcases Nat.lt_or_ge a a' with x | x
            · exact y1 a' q x x2 x3
            · rw [show a' = a by omega]; exact z1 q (Nat.zero_le _) x3
      · rw [if_pos (nI_le qa (by omega))]
        exact Or.inr ⟨fun a' q x1 x2 => by omega, rfl⟩
  rw [mX0_firstOverPivot_s]
  rcases outer 13 0 (Nat.zero_le _) (by omega) with z | ⟨z1, z2⟩
  · exact Or.inl z
  · exact Or.inr ⟨fun a q x1 x2 => z1 a q (Nat.zero_le _) x1 x2, z2⟩
theorem first_T {ρ : Nat} (hn : n ≤ 12) (h2 : v 0 2 = nI n) (hi : RI n m b c v) (hr : ρ < 4) (ht : t < n) (ht0 : v 1 t = 0) : (∃ a p q, a < n ∧ p < n ∧ q < n ∧ GT v m b c ρ t a p q ∧ mX0_firstTriple v (nI t) (nI ρ) = pk3 a p q) ∨ (∀ a p q, a < n → p < n → q < n → ¬ GT v m b c ρ t a p q) ∧ mX0_firstTriple v (nI t) (nI ρ) = -6 := by
  have outer : ∀ f p, p ≤ n → n < f + p → (∃ a p' q, a < n ∧ p' < n ∧ q < n ∧ GT v m b c ρ t a p' q ∧ mX0_firstTriple_L13 v (nI t) (nI ρ) f p = pk3 a p' q) ∨ (∀ a p' q, p ≤ p' → a < n → p' < n → q < n → ¬ GT v m b c ρ t a p' q) ∧ mX0_firstTriple_L13 v (nI t) (nI ρ) f p = -6 := by
    intro f
    induction f with
    | zero => intro a h1 h3; omega
    | succ f ih =>
      intro p h1 h3
      rw [mX0_firstTriple_L13_s, h2]
      rcases Nat.lt_or_ge p n with qp | qp
      · rw [if_neg (nI_ge qp (by omega))]
        have next : (∀ a q, a < n → q < n → ¬ GT v m b c ρ t a p q) → ((∃ a p' q, a < n ∧ p' < n ∧ q < n ∧ GT v m b c ρ t a p' q ∧ mX0_firstTriple_L13 v (nI t) (nI ρ) f (p + 1) = pk3 a p' q) ∨ (∀ a p' q, p ≤ p' → a < n → p' < n → q < n → ¬ GT v m b c ρ t a p' q) ∧ mX0_firstTriple_L13 v (nI t) (nI ρ) f (p + 1) = -6) := by
          intro hno
          rcases ih (p + 1) qp (by omega) with z | ⟨y1, y2⟩
          · exact Or.inl z
          · refine Or.inr ⟨fun a p' q x1 x2 x3 x4 => ?_, y2⟩
            rcases Nat.lt_or_ge p p' with x | x
            · exact y1 a p' q x x2 x3 x4
            · rw [show p' = p by omega]; exact hno a q x2 x4
        by_cases d : mX5_contains ((mX2_inPhase v 1) ||| (1 <<< (nI t &&& 31))) (nI p) = 0
        · rw [if_pos d]
          rw [tog0 hn h2 ht qp] at d
          exact next (fun a q _ _ z => d z.2.1)
        · rw [if_neg d]
          rw [tog0 hn h2 ht qp] at d
          have d2 := Classical.byContradiction d
          rcases over_T hn h2 hi hr ht ht0 qp d2 rfl rfl with ⟨a, q, x1, x2, x3, x4⟩ | ⟨x1, x2⟩
          · rw [x4, if_neg (pk3_all a (by omega) p (by omega) q (by omega)).1]
            exact Or.inl ⟨a, p, q, x1, qp, x2, x3, rfl⟩
          · rw [x2, if_pos rfl]
            exact next x1
      · rw [if_pos (nI_le qp (by omega))]
        exact Or.inr ⟨fun a p' q x1 x2 => by omega, rfl⟩
  rw [mX0_firstTriple_s]
  rcases outer 13 0 (Nat.zero_le _) (by omega) with z | ⟨z1, z2⟩
  · exact Or.inl z
  · exact Or.inr ⟨fun a p q x1 x2 x3 => z1 a p q (Nat.zero_le _) x1 x2 x3, z2⟩
/-! the law's own reason -/
theorem LR.vC_ (h : LR n v (r 0)) (hi : RI n m b c v) (h48 : r 0 48 = nI m) (ht : t < n) : LR n (vC v t) (rset r 0 (upd (r 0) (12 + t) (r 0 48 + 1)) 0) := by
  have hn := h.1
  have hm := hi.2.1
  refine ⟨hn, (pk_un (by omega)).trans h.2.1, fun j hj => ?_⟩
  obtain ⟨a1, a2, a3, a4⟩ := h.2.2 j hj
  refine ⟨(pk_un (by omega)).trans a1, (pk_un (by omega)).trans a2, (pk_un (by omega)).trans a3, ?_⟩
  rw [vC1, vC3]
  by_cases e : j = t
  · subst e
    rw [if_pos rfl, if_pos rfl]
    refine Or.inr (Or.inl ⟨rfl, ?_, ?_⟩)
    · rw [hi.1, ← h48]; exact pk_us
    · rw [hi.1, nI_1, show (0 : Int32) = nI 0 from rfl]; exact nI_ge (by omega) (by omega)
  · rw [if_neg e, if_neg e, show (rset r 0 (upd (r 0) (12 + t) (r 0 48 + 1)) 0) (12 + j) = r 0 (12 + j) from pk_un (by omega)]
    exact a4
def TK (v : kG) (n m : Nat) (b c : Nat → Nat) (ρ t k : Nat) : Prop := k / 144 < n ∧ k / 12 % 12 < n ∧ k % 12 < n ∧ GT v m b c ρ t (k / 144) (k / 12 % 12) (k % 12)
theorem reas76 {ρ : Nat} (h : LR n v (r 0)) (hi : RI n m b c v) (h48 : r 0 48 = nI m) (hr : ρ < 4) (ht : t < n) (ht0 : v 1 t = 0) (i2 : Nat) : ∀ f i (x : Int32), i ≤ 1728 → 1728 < f + i → (x = 0 ∨ x = 1) →
    (mL_reason_L76 r (nI ρ) (nI t) i2 f x i = (2, r 0) ∧ (x = 1 ∨ ∃ k, i ≤ k ∧ k < 1728 ∧ TK v n m b c ρ t k)) ∨ (mL_reason_L76 r (nI ρ) (nI t) i2 f x i = (0, r 0) ∧ x = 0 ∧ ∀ k, i ≤ k → k < 1728 → ¬ TK v n m b c ρ t k) := by
  have hn := h.1
  have hm := hi.2.1
  have hV := h.vC_ hi h48 ht
  have hz : r 0 (12 + t) = 0 := by rw [h.zero ht]; exact ht0
  have hback : upd (upd (r 0) (12 + t) (r 0 48 + 1)) (12 + t) 0 = r 0 := by
    funext q
    by_cases e : q = 12 + t
    · rw [e, pk_us, hz]
    · rw [pk_un e, pk_un e]
  have h49 : upd (r 0) (12 + t) (r 0 48 + 1) 49 = nI n := (pk_un (by omega)).trans h.2.1
  have eT : ∀ x, x < n → (nI x = nI t ↔ x = t) := fun x hx => nI_eq (by omega) (by omega)
  have hEE : ∀ x y, x < n → y < n → (mL_isEdge (rset r 0 (upd (r 0) (12 + t) (r 0 48 + 1))) (nI x) (nI y) = 0 ↔ ¬ EE v x y) := fun x y hx hy => by
    rw [hV.isE0 hx hy, vC_EE hi ht0 hx hy]
  intro f
  induction f with
  | zero => intro i x h1 h2; omega
  | succ f ih =>
    intro i x h1 h3 hx
    rw [mL_reason_L76_s, rA12 (by omega), h49, hback]
    rcases Nat.lt_or_ge i 1728 with q | q
    · rw [if_neg (show ¬ (1728 : Int32) ≤ nI i from nI_ge (b := 1728) q (by omega))]
      have no : ¬ TK v n m b c ρ t i → x = 0 → ((mL_reason_L76 r (nI ρ) (nI t) i2 f 0 (i + 1) = (2, r 0) ∧ (x = 1 ∨ ∃ k, i ≤ k ∧ k < 1728 ∧ TK v n m b c ρ t k)) ∨ (mL_reason_L76 r (nI ρ) (nI t) i2 f 0 (i + 1) = (0, r 0) ∧ x = 0 ∧ ∀ k, i ≤ k → k < 1728 → ¬ TK v n m b c ρ t k)) := by
        intro hno x0
        rcases ih (i + 1) 0 (by omega) (by omega) (Or.inl rfl) with ⟨e, z⟩ | ⟨e, _, z⟩
        · rcases z with z | ⟨k, k1, k2⟩
          · exact absurd z (by decide)
          · exact Or.inl ⟨e, Or.inr ⟨k, by omega, k2⟩⟩
        · refine Or.inr ⟨e, x0, fun k k1 k2 => ?_⟩
          rcases Nat.lt_or_ge i k with y | y
          · exact z k y k2
          · rw [show k = i by omega]; exact hno
      have yes : (x = 1 ∨ TK v n m b c ρ t i) → ((mL_reason_L76 r (nI ρ) (nI t) i2 f 1 (i + 1) = (2, r 0) ∧ (x = 1 ∨ ∃ k, i ≤ k ∧ k < 1728 ∧ TK v n m b c ρ t k)) ∨ (mL_reason_L76 r (nI ρ) (nI t) i2 f 1 (i + 1) = (0, r 0) ∧ x = 0 ∧ ∀ k, i ≤ k → k < 1728 → ¬ TK v n m b c ρ t k)) := by
        intro hy
        rcases ih (i + 1) 1 (by omega) (by omega) (Or.inr rfl) with ⟨e, z⟩ | ⟨e, z, _⟩
        · exact Or.inl ⟨e, hy.elim Or.inl (fun z => Or.inr ⟨i, Nat.le_refl _, q, z⟩)⟩
        · exact absurd z (by decide)
      rcases hx with hx0 | hx0
      · simp only [if_pos hx0]
        rcases Nat.lt_or_ge (i / 144) n with la | la
        · rw [if_neg (nI_ge la (by omega))]
          rcases Nat.lt_or_ge (i / 12 % 12) n with lp | lp
          · rw [if_neg (nI_ge lp (by omega))]
            rcases Nat.lt_or_ge (i % 12) n with lq | lq
            · rw [if_neg (nI_ge lq (by omega))]
              rcases if_out (A := nI (i / 144) = nI t) (P := nI (i / 12 % 12) = nI t) (C := nI (i % 12) = nI t) (X0 := mL_reason_L76 r (nI ρ) (nI t) i2 f 0 (i + 1)) (X1 := mL_reason_L76 r (nI ρ) (nI t) i2 f 1 (i + 1))
                (if_in1 (D := mL_isCommitted (rset r 0 (upd (r 0) (12 + t) (r 0 48 + 1))) (nI (i / 144)) = 0) (G := vC v t 1 (i / 144) = 1) (by rw [hV.isC0 la]) (fun g1 =>
                  if_in1 (D := mL_isCommitted (rset r 0 (upd (r 0) (12 + t) (r 0 48 + 1))) (nI (i / 12 % 12)) = 0) (G := vC v t 1 (i / 12 % 12) = 1) (by rw [hV.isC0 lp]) (fun g2 =>
                  if_in1 (D := mL_isCommitted (rset r 0 (upd (r 0) (12 + t) (r 0 48 + 1))) (nI (i % 12)) = 0) (G := vC v t 1 (i % 12) = 1) (by rw [hV.isC0 lq]) (fun g3 =>
                  if_in1 (D := mL_isEdge (rset r 0 (upd (r 0) (12 + t) (r 0 48 + 1))) (nI (i / 144)) (nI (i / 12 % 12)) = 0) (G := EE v (i / 144) (i / 12 % 12)) (hEE _ _ la lp) (fun g4 =>
                  if_in1 (D := mL_isEdge (rset r 0 (upd (r 0) (12 + t) (r 0 48 + 1))) (nI (i / 12 % 12)) (nI (i % 12)) = 0) (G := EE v (i / 12 % 12) (i % 12)) (hEE _ _ lp lq) (fun g5 =>
                  if_base (D := mL_counts (rset r 0 (upd (r 0) (12 + t) (r 0 48 + 1))) (nI ρ) (nI (i / 144)) (nI (i / 12 % 12)) (nI (i % 12)) = 0) (G := CTn v b (cC c t m) ρ (i / 144) (i / 12 % 12) (i % 12)) (by
                    have k1 := vC_c hi la g1
                    have k2 := vC_c hi lp g2
                    have k3 := vC_c hi lq g3
                    have k4 := hi.bg la
                    rw [counts_C (v := vC v t) (b' := b) (c' := cC c t m) hV hr la lp lq g1 g2 g3 k1.1 k2.1 k3.1 k4.1 (by omega) (by omega) (by omega) (by omega)]
                    exact Iff.rfl))))))) with ⟨e, g⟩ | ⟨e, g⟩
              · rw [e]
                obtain ⟨f1, f2, f3, f4, f5, f6, f7⟩ := g
                rw [eT _ la, eT _ lp, eT _ lq] at f1
                exact yes (Or.inr ⟨la, lp, lq, f2, f3, f4, f1, f5, f6, f7⟩)
              · rw [e]
                refine no (fun z => g ?_) hx0
                obtain ⟨_, _, _, f2, f3, f4, f1, f5, f6, f7⟩ := z
                rw [eT _ la, eT _ lp, eT _ lq]
                exact ⟨f1, f2, f3, f4, f5, f6, f7⟩
            · rw [if_pos (nI_le lq (by omega))]; exact no (fun z => absurd z.2.2.1 (by omega)) hx0
          · rw [if_pos (nI_le lp (by omega))]; exact no (fun z => absurd z.2.1 (by omega)) hx0
        · rw [if_pos (nI_le la (by omega))]; exact no (fun z => absurd z.1 (by omega)) hx0
      · simp only [if_neg (show ¬ x = 0 by rw [hx0]; decide), ite_self]
        exact yes (Or.inl hx0)
    · rw [if_pos (show (1728 : Int32) ≤ nI i from nI_le (a := 1728) q (by omega))]
      rcases hx with rfl | rfl
      · rw [if_pos rfl]; exact Or.inr ⟨rfl, rfl, fun k k1 k2 => by omega⟩
      · rw [if_neg (by decide)]; exact Or.inl ⟨rfl, Or.inl rfl⟩
/-- what the law finds: 1 for a later writer, 2 for a triple -/
def RS (v : kG) (n m : Nat) (b c : Nat → Nat) (ρ t : Nat) (x : Int32) : Prop := (x = 1 ∧ LW v n t) ∨ ¬ LW v n t ∧ (x = 2 ∧ (∃ a p q, a < n ∧ p < n ∧ q < n ∧ GT v m b c ρ t a p q) ∨ x = 0 ∧ ∀ a p q, a < n → p < n → q < n → ¬ GT v m b c ρ t a p q)
theorem reas_R {ρ : Nat} (h : LR n v (r 0)) (hi : RI n m b c v) (h48 : r 0 48 = nI m) (hr : ρ < 4) (ht : t < n) (ht0 : v 1 t = 0) : (mL_reason r (nI ρ) (nI t)).2 = r 0 ∧ RS v n m b c ρ t (mL_reason r (nI ρ) (nI t)).1 := by
  have hn := h.1
  have key : ∀ f i, i ≤ n → n < f + i → (∀ o, o < i → ¬ (v 1 o = 1 ∧ ¬ v 3 o ≤ v 2 t ∧ ¬ ((v 5 o) &&& (v 5 t)) = 0)) → (mL_reason_L2 r (nI ρ) (nI t) f i).2 = r 0 ∧ RS v n m b c ρ t (mL_reason_L2 r (nI ρ) (nI t) f i).1 := by
    intro f
    induction f with
    | zero => intro i h1 h2; omega
    | succ f ih =>
      intro i h1 h2 h3
      rw [mL_reason_L2_s, h.2.1]
      rcases Nat.lt_or_ge i n with q | q
      · rw [if_neg (nI_ge q (by omega)), rA12 (t := i) (by omega), rA36 (t := i) (by omega), rA36 (t := t) (by omega), rA0 (t := t) (by omega)]
        have skip : ¬ (v 1 i = 1 ∧ ¬ v 3 i ≤ v 2 t ∧ ¬ ((v 5 i) &&& (v 5 t)) = 0) → (mL_reason_L2 r (nI ρ) (nI t) f (i + 1)).2 = r 0 ∧ RS v n m b c ρ t (mL_reason_L2 r (nI ρ) (nI t) f (i + 1)).1 := fun z => ih (i + 1) q (by omega) (fun o ho => by
          rcases Nat.lt_or_ge o i with y | y
          · exact h3 o y
          · rw [show o = i by omega]; exact z)
        by_cases e : nI i = nI t
        · rw [if_pos e]
          have : i = t := (nI_eq (by omega) (by omega)).mp e
          exact skip (fun z => by rw [this, ht0] at z; exact absurd z.1 (by decide))
        · rw [if_neg e]
          by_cases c1 : v 1 i = 1
          · rw [if_neg (kF (h.isC0 q) c1), h.cm q c1, (h.2.2 t ht).1, (h.2.2 i q).2.2.1, (h.2.2 t ht).2.2.1]
            by_cases c2 : v 3 i ≤ v 2 t
            · rw [if_pos c2]; exact skip (fun z => z.2.1 c2)
            · rw [if_neg c2]
              by_cases c3 : ((v 5 i) &&& (v 5 t)) = 0
              · rw [if_pos c3]; exact skip (fun z => z.2.2 c3)
              · rw [if_neg c3]
                exact ⟨rfl, Or.inl ⟨rfl, i, q, c1, c2, c3⟩⟩
          · rw [if_pos (kT (h.isC0 q) c1)]; exact skip (fun z => c1 z.1)
      · rw [if_pos (nI_le q (by omega))]
        have hno : ¬ LW v n t := fun ⟨o, o1, o2⟩ => h3 o (by omega) o2
        rcases reas76 h hi h48 hr ht ht0 i 1729 0 0 (by omega) (by omega) (Or.inl rfl) with ⟨e, z⟩ | ⟨e, _, z⟩
        · rw [e]
          refine ⟨rfl, Or.inr ⟨hno, Or.inl ⟨rfl, ?_⟩⟩⟩
          rcases z with z | ⟨k, k1, k2, k3, k4, k5, k6⟩
          · exact absurd z (by decide)
          · exact ⟨_, _, _, k3, k4, k5, k6⟩
        · rw [e]
          refine ⟨rfl, Or.inr ⟨hno, Or.inr ⟨rfl, fun a p q ha hp hq hg => ?_⟩⟩⟩
          refine z (144 * a + 12 * p + q) (Nat.zero_le _) (by omega) ?_
          unfold TK
          rw [show (144 * a + 12 * p + q) / 144 = a by omega, show (144 * a + 12 * p + q) / 12 % 12 = p by omega, show (144 * a + 12 * p + q) % 12 = q by omega]
          exact ⟨ha, hp, hq, hg⟩
  rw [mL_reason_s]
  exact key 13 0 (Nat.zero_le _) (by omega) (fun o ho => absurd ho (Nat.not_lt_zero o))
/-- the class's refusal -/
theorem refu_R {ρ : Nat} (hn : n ≤ 12) (h2 : v 0 2 = nI n) (hi : RI n m b c v) (hr : ρ < 4) (ht : t < n) (ht0 : v 1 t = 0) : RS v n m b c ρ t (mX0_refusal v (nI t) (nI ρ)) := by
  rw [mX0_refusal_s]
  by_cases e : mX0_isLaterWriter v (nI t) = 0
  · rw [if_pos e]
    rw [later0 hn h2 ht] at e
    rcases first_T hn h2 hi hr ht ht0 with ⟨a, p, q, x1, x2, x3, x4, x5⟩ | ⟨x1, x2⟩
    · rw [x5, if_neg (pk3_all a (by omega) p (by omega) q (by omega)).1]
      exact Or.inr ⟨e, Or.inl ⟨rfl, a, p, q, x1, x2, x3, x4⟩⟩
    · rw [x2, if_pos rfl]
      exact Or.inr ⟨e, Or.inr ⟨rfl, x1⟩⟩
  · rw [if_neg e]
    rw [later0 hn h2 ht] at e
    exact Or.inl ⟨rfl, Classical.byContradiction e⟩
theorem RS.uniq {ρ : Nat} {x y : Int32} (h : RS v n m b c ρ t x) (h' : RS v n m b c ρ t y) : x = y := by
  rcases h with ⟨e, z⟩ | ⟨z, ⟨e, a, p, q, a1, a2, a3, a4⟩ | ⟨e, a⟩⟩
  · rcases h' with ⟨e', z'⟩ | ⟨z', _⟩
    · rw [e, e']
    · exact absurd z z'
  · rcases h' with ⟨e', z'⟩ | ⟨z', ⟨e', _⟩ | ⟨e', a'⟩⟩
    · exact absurd z' z
    · rw [e, e']
    · exact absurd a4 (a' a p q a1 a2 a3)
  · rcases h' with ⟨e', z'⟩ | ⟨z', ⟨e', a', p, q, a1, a2, a3, a4⟩ | ⟨e', a'⟩⟩
    · exact absurd z' z
    · exact absurd a4 (a a' p q a1 a2 a3)
    · rw [e, e']
end REAS
