/-! the order: what is laid; the dependencies -/
theorem kpop_up : ∀ (k n : Nat), n < 2 ^ k → kpop (k + 1) n = kpop k n := by
  intro k
  induction k with
  | zero => intro n h; rw [show n = 0 from by simpa using h]; rfl
  | succ k ih =>
    intro n h
    rw [Nat.pow_succ] at h
    show kpop (k + 1) (n / 2) + n % 2 = kpop k (n / 2) + n % 2
    rw [ih (n / 2) (by omega)]
theorem kpop16 {n : Nat} (h : n < 4096) : kpop 16 n = kpop 12 n := by
  rw [kpop_up 15 n (by omega), kpop_up 14 n (by omega), kpop_up 13 n (by omega), kpop_up 12 n (by omega)]
theorem kpop_clr : ∀ (k j n : Nat), j < k → n / 2 ^ j % 2 = 1 → kpop k (n - 2 ^ j) + 1 = kpop k n := by
  intro k
  induction k with
  | zero => intro j n h; omega
  | succ k ih =>
    intro j n h hb
    show kpop k ((n - 2 ^ j) / 2) + (n - 2 ^ j) % 2 + 1 = kpop k (n / 2) + n % 2
    cases j with
    | zero =>
      rw [Nat.pow_zero, Nat.div_one] at hb
      rw [Nat.pow_zero, show (n - 1) / 2 = n / 2 from by omega, show (n - 1) % 2 = 0 from by omega, hb]
    | succ j =>
      have hp : 2 ^ (j + 1) = 2 * 2 ^ j := by rw [Nat.pow_succ, Nat.mul_comm]
      rw [hp, ← Nat.div_div_eq_div_mul] at hb
      have h2 := ih j (n / 2) (by omega) hb
      rw [hp, show (n - 2 * 2 ^ j) / 2 = n / 2 - 2 ^ j from by omega]
      have hge : 2 ^ j ≤ n / 2 := by
        rcases Nat.lt_or_ge (n / 2) (2 ^ j) with q | q
        · rw [Nat.div_eq_of_lt q] at hb; omega
        · exact q
      rw [show (n - 2 * 2 ^ j) % 2 = n % 2 from by omega]
      omega
theorem kclr0 : ∀ j, j < 12 → ∀ a, a < 64 → ∀ b, b < 64 → (64 * a + b) / 2 ^ j % 2 = 1 → (64 * a + b) &&& (4294967295 - 2 ^ j) = 64 * a + b - 2 ^ j := by decide +kernel
theorem kneg : ∀ j, j < 12 → ((1 : Int32) <<< (nI j &&& 31)) ^^^ (-1) = nI (4294967295 - 2 ^ j) := by decide +kernel
theorem kclr (j s : Nat) (hj : j < 12) (hs : s < 4096) (h : ((nI s >>> (nI j &&& 31)) &&& 1) = 1) : (nI s &&& ((1 <<< (nI j &&& 31)) ^^^ (-1))) = nI (s - 2 ^ j) ∧ kpop 12 (s - 2 ^ j) + 1 = kpop 12 s := by
  rw [kshr (by omega) (by omega), kand1 _ (Nat.lt_of_le_of_lt (Nat.div_le_self _ _) (by omega))] at h
  have hb : s / 2 ^ j % 2 = 1 := by
    have h2 : s / 2 ^ j % 2 < 2 := Nat.mod_lt _ (by decide)
    exact (nI_eq (a := s / 2 ^ j % 2) (b := 1) (by omega) (by omega)).mp h
  refine ⟨?_, kpop_clr 12 j s hj hb⟩
  rw [kneg j hj, kandI]
  have h3 := kclr0 j hj (s / 64) (by omega) (s % 64) (by omega)
  rw [Nat.div_add_mod s 64] at h3
  rw [h3 hb]
theorem kclrb {j s : Nat} (hj : j < 12) (hs : s < 4096) (h : s.testBit j = true) : (nI s &&& ((1 <<< (nI j &&& 31)) ^^^ (-1))) = nI (s - 2 ^ j) ∧ kpop 12 (s - 2 ^ j) + 1 = kpop 12 s ∧ ∀ i, i < 32 → (s - 2 ^ j).testBit i = (s.testBit i && !decide (i = j)) := by
  have h1 : ((nI s >>> (nI j &&& 31)) &&& 1) = 1 := by rw [bit_kct hs (by omega)]; exact h
  obtain ⟨a1, a2⟩ := kclr j s hj hs h1
  refine ⟨a1, a2, fun i hi => ?_⟩
  have hb : s / 2 ^ j % 2 = 1 := by
    rw [Nat.testBit_eq_decide_div_mod_eq] at h
    simpa using h
  have h3 := kclr0 j hj (s / 64) (by omega) (s % 64) (by omega)
  rw [Nat.div_add_mod s 64] at h3
  rw [← h3 hb, Nat.testBit_and]
  congr 1
  have hj2 : 2 ^ j < 2 ^ 32 := Nat.pow_lt_pow_right (by decide) (by omega)
  rw [show 4294967295 - 2 ^ j = 2 ^ 32 - (2 ^ j + 1) by omega, Nat.testBit_two_pow_sub_succ hj2, Nat.testBit_two_pow]
  simp [hi, eq_comm]
def kZ0' : kG := fun _ _ => 0
section AR
variable {n m : Nat} {b c : Nat → Nat} {v w : kG}
theorem FR_A {g : Nat → Int32} {A : Nat → Nat} {i s : Nat} (e : g i = nI (A i)) (ha : A i < 4096) : (g i &&& nI s) = 0 ↔ ∀ k, k < 16 → ¬ ((A i).testBit k = true ∧ s.testBit k = true) := by
  rw [e]; exact kand_bits (by omega)
/-- none of what is left is free, or: all are laid, each behind those that it depends on -/
theorem arr_S {g : Nat → Int32} {A : Nat → Nat} {all : Nat} (hA : ∀ i, i < 12 → g i = nI (A i) ∧ A i < 4096) (ha : all ≤ 12) (hall : mJ6_bitCount_0f7a4 (mX2_inPhase v 1) = nI all) : ∀ f s p (P : Nat → Int32), s < 4096 → kpop 12 s + p = all → all < f + p →
    ((mX4_arrange_L19 w v g f (nI s) p P).1 = 0 ∧ ∃ s', 0 < s' ∧ s' < 4096 ∧ (∀ i, i < 12 → s'.testBit i = true → s.testBit i = true) ∧ ∀ i, i < 12 → s'.testBit i = true → ∃ x, x < 12 ∧ (A i).testBit x = true ∧ s'.testBit x = true) ∨
    ((mX4_arrange_L19 w v g f (nI s) p P).1 = 1 ∧ ∃ T : Nat → Nat, (∀ q, q < p → (mX4_arrange_L19 w v g f (nI s) p P).2.2 q = P q) ∧ ∀ q, p ≤ q → q < all → T q < 12 ∧ (mX4_arrange_L19 w v g f (nI s) p P).2.2 q = nI (T q) ∧ s.testBit (T q) = true ∧ (∀ i, p ≤ i → i < q → T i ≠ T q) ∧ ∀ x, x < 12 → (A (T q)).testBit x = true → s.testBit x = true → ∃ i, p ≤ i ∧ i < q ∧ T i = x) := by
  intro f
  induction f with
  | zero => intro s p P h1 h2 h3; omega
  | succ f ih =>
    intro s p P hs hk hf
    rw [mX4_arrange_L19_s, hall]
    rcases Nat.lt_or_ge p all with q | q
    · rw [if_neg (nI_ge q (by omega))]
      have hlow : LF g s (mX4_lowestFree (rset (rset w 1 g) 2 P) (nI s)) := low_ok (w := rset (rset w 1 g) 2 P) hs
      generalize mX4_lowestFree (rset (rset w 1 g) 2 P) (nI s) = r at hlow ⊢
      rcases hlow with ⟨z, h0⟩ | ⟨i, hi, z, ⟨z1, z2⟩, _⟩
      · rw [if_pos z]
        refine Or.inl ⟨rfl, s, ?_, hs, fun i _ h => h, fun i hi h => ?_⟩
        · rcases Nat.eq_zero_or_pos s with e | e
          · rw [e, kpop0] at hk; omega
          · exact e
        · have h1 := h0 i hi
          have h2 : ¬ (g i &&& nI s) = 0 := fun y => h1 ⟨h, y⟩
          rw [FR_A (hA i hi).1 (hA i hi).2] at h2
          refine Classical.byContradiction (fun y => h2 (fun k hk2 hc => y ⟨k, ?_, hc⟩))
          refine Classical.byContradiction (fun y2 => ?_)
          have : s.testBit k = false := Nat.testBit_lt_two_pow (Nat.lt_of_lt_of_le hs (show 2 ^ 12 ≤ 2 ^ k from Nat.pow_le_pow_right (by decide) (by omega)))
          rw [this] at hc
          exact absurd hc.2 (by decide)
      · have hne : ¬ r = -6 := by rw [z]; exact nI_ne6 (by omega)
        rw [if_neg hne, z]
        obtain ⟨k1, k2, k3⟩ := kclrb hi hs z1
        rw [k1, nI_clamp (n := p) (by omega)]
        have h := ih (s - 2 ^ i) (p + 1) (upd P p (nI i)) (Nat.lt_of_le_of_lt (Nat.sub_le _ _) hs) (by omega) (by omega)
        have sub : ∀ x, x < 12 → (s - 2 ^ i).testBit x = true → s.testBit x = true ∧ x ≠ i := by
          intro x hx h9
          rw [k3 x (by omega)] at h9
          simp at h9
          exact h9
        rcases h with ⟨a1, s', a2, a3, a4, a5⟩ | ⟨a1, T, a2, a3⟩
        · exact Or.inl ⟨a1, s', a2, a3, fun x hx h9 => (sub x hx (a4 x hx h9)).1, a5⟩
        · refine Or.inr ⟨a1, fun q => if q = p then i else T q, fun q hq => (a2 q (by omega)).trans (pk_un (by omega)), fun q h1 h2 => ?_⟩
          dsimp only
          by_cases e : q = p
          · rw [if_pos e]
            refine ⟨hi, by rw [e]; exact (a2 p (by omega)).trans pk_us, z1, fun i' h3 h4 => by omega, fun x hx h5 h6 => ?_⟩
            rw [FR_A (hA i hi).1 (hA i hi).2] at z2
            exact absurd ⟨h5, h6⟩ (z2 x (by omega))
          · rw [if_neg e]
            obtain ⟨b1, b2, b3, b4, b5⟩ := a3 q (by omega) h2
            have b6 := sub _ b1 b3
            refine ⟨b1, b2, b6.1, fun i' h3 h4 => ?_, fun x hx h5 h6 => ?_⟩
            · by_cases e2 : i' = p
              · rw [if_pos e2]; exact fun y => b6.2 y.symm
              · rw [if_neg e2]; exact b4 i' (by omega) h4
            · by_cases e2 : x = i
              · exact ⟨p, by omega, by omega, by rw [if_pos rfl]; exact e2.symm⟩
              · obtain ⟨i', c1, c2, c3⟩ := b5 x hx h5 (by rw [k3 x (by omega), h6]; simp [e2])
                exact ⟨i', by omega, c2, by rw [if_neg (by omega)]; exact c3⟩
    · rw [if_pos (nI_le q (by omega))]
      exact Or.inr ⟨rfl, fun _ => 0, fun q hq => rfl, fun q h1 h2 => by omega⟩
/-- whatever the rows held before -/
theorem arr_eq {w' : kG} {g g' : Nat → Int32} (hg : AG g g') {all : Nat} (ha : all ≤ 12) (hall : mJ6_bitCount_0f7a4 (mX2_inPhase v 1) = nI all) : ∀ f s p (P P' : Nat → Int32), s < 4096 → kpop 12 s + p = all → all < f + p → (∀ j, j < p → P j = P' j) →
    (mX4_arrange_L19 w v g f (nI s) p P).1 = (mX4_arrange_L19 w' v g' f (nI s) p P').1 ∧ ((mX4_arrange_L19 w v g f (nI s) p P).1 = 1 → ∀ j, j < all → (mX4_arrange_L19 w v g f (nI s) p P).2.2 j = (mX4_arrange_L19 w' v g' f (nI s) p P').2.2 j) := by
  intro f
  induction f with
  | zero => intro s p P P' h1 h2 h3; omega
  | succ f ih =>
    intro s p P P' hs hk hf hP
    rw [mX4_arrange_L19_s, mX4_arrange_L19_s, hall]
    rcases Nat.lt_or_ge p all with q | q
    · rw [if_neg (nI_ge q (by omega)), if_neg (nI_ge q (by omega))]
      have hlow : LF g s (mX4_lowestFree (rset (rset w 1 g) 2 P) (nI s)) := low_ok (w := rset (rset w 1 g) 2 P) hs
      have hlow' : LF g' s (mX4_lowestFree (rset (rset w' 1 g') 2 P') (nI s)) := low_ok (w := rset (rset w' 1 g') 2 P') hs
      have e := (hlow.AG hg).uniq hlow'
      rw [← e]
      clear hlow' e
      generalize mX4_lowestFree (rset (rset w 1 g) 2 P) (nI s) = r at hlow ⊢
      rcases hlow with ⟨z, h0⟩ | ⟨i, hi, z, ⟨z1, z2⟩, _⟩
      · rw [if_pos z, if_pos z]; exact ⟨rfl, fun h => absurd (show (0 : Int32) = 1 from h) (by decide)⟩
      · have hne : ¬ r = -6 := by rw [z]; exact nI_ne6 (by omega)
        rw [if_neg hne, if_neg hne, z]
        obtain ⟨k1, k2, k3⟩ := kclrb hi hs z1
        rw [k1, nI_clamp (n := p) (by omega)]
        refine ih (s - 2 ^ i) (p + 1) _ _ (Nat.lt_of_le_of_lt (Nat.sub_le _ _) hs) (by omega) (by omega) (fun j hj => ?_)
        by_cases y : j = p
        · rw [y, pk_us, pk_us]
        · rw [pk_un y, pk_un y]; exact hP j (by omega)
    · rw [if_pos (nI_le q (by omega)), if_pos (nI_le q (by omega))]
      exact ⟨rfl, fun _ j hj => hP j (by omega)⟩
/-- who comes ahead of whom -/
def BB (F : Nat → Int32) (D : Nat → Nat → Prop) : Prop := ∀ j, j < 12 → ∃ a, a < 4096 ∧ F j = nI a ∧ ∀ x, x < 12 → (a.testBit x = true ↔ D x j)
theorem BB.congr {F : Nat → Int32} {D D' : Nat → Nat → Prop} (h : BB F D) (e : ∀ x j, x < 12 → j < 12 → (D x j ↔ D' x j)) : BB F D' := fun j hj => by
  obtain ⟨a, h1, h2, h3⟩ := h j hj
  exact ⟨a, h1, h2, fun x hx => (h3 x hx).trans (e x j hx hj)⟩
theorem BB.dp_ {F : Nat → Int32} {D : Nat → Nat → Prop} (h : BB F D) {x y : Int32} (hx : oT x) (hy : oT y) : BB (dp F x y) (fun p q => D p q ∨ x = nI p ∧ y = nI q ∧ p ≠ q) := by
  have none_ : (∀ p q, p < 12 → q < 12 → ¬ (x = nI p ∧ y = nI q ∧ p ≠ q)) → BB F (fun p q => D p q ∨ x = nI p ∧ y = nI q ∧ p ≠ q) := fun h9 => h.congr (fun p q hp hq => ⟨Or.inl, fun z => z.resolve_right (h9 p q hp hq)⟩)
  rcases hx with rfl | ⟨p0, hp0, rfl⟩
  · exact none_ (fun p q hp hq z => ne6_nI (by omega) z.1)
  · unfold dp
    rw [if_neg (nI_pos (by omega))]
    rcases hy with rfl | ⟨q0, hq0, rfl⟩
    · rw [if_pos (by decide)]
      exact none_ (fun p q hp hq z => ne6_nI (by omega) z.2.1)
    · rw [if_neg (nI_pos (by omega)), if_neg (k12ge hq0), nI_clamp (by omega)]
      by_cases e : nI p0 = nI q0
      · rw [if_pos e]
        refine none_ (fun p q hp hq z => z.2.2 ?_)
        have e1 := z.1.symm.trans (e.trans z.2.1)
        exact (nI_eq (by omega) (by omega)).mp e1
      · rw [if_neg e]
        have e' : p0 ≠ q0 := fun z => e (by rw [z])
        intro j hj
        obtain ⟨a, h1, h2, h3⟩ := h j hj
        by_cases ej : j = q0
        · subst ej
          rw [pk_us, h2, kshl p0 (by omega), fa_or]
          refine ⟨a ||| 2 ^ p0, Nat.or_lt_two_pow (n := 12) h1 (Nat.pow_lt_pow_right (by decide) hp0), rfl, fun x hx => ?_⟩
          rw [Nat.testBit_or, Nat.testBit_two_pow]
          simp only [Bool.or_eq_true, decide_eq_true_eq]
          rw [h3 x hx]
          constructor
          · rintro (z | z)
            · exact Or.inl z
            · exact Or.inr ⟨by rw [z], trivial, by omega⟩
          · rintro (z | z)
            · exact Or.inl z
            · exact Or.inr ((nI_eq (by omega) (by omega)).mp z.1)
        · rw [pk_un ej]
          refine ⟨a, h1, h2, fun x hx => (h3 x hx).trans ⟨Or.inl, fun z => z.resolve_right (fun z => ej ((nI_eq (by omega) (by omega)).mp z.2.1.symm))⟩⟩
def DK (v : kG) (t k x y : Nat) : Prop := x ≠ y ∧ (¬ mX5_contains (v 5 t) (nI k) = 0 ∧ nI t = nI x ∧ mX2_writerBehind v (nI k) (v 3 t) = nI y ∨ ¬ mX5_contains (v 4 t) (nI k) = 0 ∧ (mX2_writerAhead v (nI k) (v 2 t) = nI x ∧ nI t = nI y ∨ nI t = nI x ∧ mX2_writerBehind v (nI k) (v 2 t) = nI y))
theorem BB.cst_ {F : Nat → Int32} {D : Nat → Nat → Prop} (hn : n ≤ 12) (h2 : v 0 2 = nI n) (hi : RI n m b c v) (h : BB F D) {t k : Nat} (ht : t < 12) : BB (cst v t k F) (fun x y => D x y ∨ DK v t k x y) := by
  have ot : oT (nI t) := Or.inr ⟨t, ht, rfl⟩
  have wb : ∀ x, oT (mX2_writerBehind v (nI k) x) := fun x => WB_oT hn h2 hi _ _
  have wa : ∀ x, oT (mX2_writerAhead v (nI k) x) := fun x => WA_oT hn h2 hi _ _
  have h1 : BB (if mX5_contains (v 5 t) (nI k) = 0 then F else dp F (nI t) (mX2_writerBehind v (nI k) (v 3 t))) (fun x y => D x y ∨ (¬ mX5_contains (v 5 t) (nI k) = 0 ∧ nI t = nI x ∧ mX2_writerBehind v (nI k) (v 3 t) = nI y ∧ x ≠ y)) := by
    by_cases e : mX5_contains (v 5 t) (nI k) = 0
    · rw [if_pos e]
      exact h.congr (fun x y _ _ => ⟨Or.inl, fun z => z.resolve_right (fun z => z.1 e)⟩)
    · rw [if_neg e]
      exact (h.dp_ ot (wb _)).congr (fun x y _ _ => ⟨fun z => z.elim Or.inl (fun z => Or.inr ⟨e, z⟩), fun z => z.elim Or.inl (fun z => Or.inr z.2)⟩)
  unfold cst
  by_cases e : mX5_contains (v 4 t) (nI k) = 0
  · rw [if_pos e]
    refine h1.congr (fun x y _ _ => ⟨fun z => z.elim Or.inl (fun z => Or.inr ⟨z.2.2.2, Or.inl ⟨z.1, z.2.1, z.2.2.1⟩⟩), fun z => z.elim Or.inl (fun z => ?_)⟩)
    rcases z with ⟨z0, z | z⟩
    · exact Or.inr ⟨z.1, z.2.1, z.2.2, z0⟩
    · exact absurd e z.1
  · rw [if_neg e]
    refine ((h1.dp_ (wa _) ot).dp_ ot (wb _)).congr (fun x y _ _ => ?_)
    constructor
    · rintro (((z | z) | z) | z)
      · exact Or.inl z
      · exact Or.inr ⟨z.2.2.2, Or.inl ⟨z.1, z.2.1, z.2.2.1⟩⟩
      · exact Or.inr ⟨z.2.2, Or.inr ⟨e, Or.inl ⟨z.1, z.2.1⟩⟩⟩
      · exact Or.inr ⟨z.2.2, Or.inr ⟨e, Or.inr ⟨z.1, z.2.1⟩⟩⟩
    · rintro (z | ⟨z0, z | ⟨_, z | z⟩⟩)
      · exact Or.inl (Or.inl (Or.inl z))
      · exact Or.inl (Or.inl (Or.inr ⟨z.1, z.2.1, z.2.2, z0⟩))
      · exact Or.inl (Or.inr ⟨z.1, z.2, z0⟩)
      · exact Or.inr ⟨z.1, z.2, z0⟩
theorem BB.keF_ {F : Nat → Int32} {D : Nat → Nat → Prop} (hn : n ≤ 12) (h2 : v 0 2 = nI n) (hi : RI n m b c v) (h : BB F D) {t : Nat} (ht : t < 12) : ∀ k, BB (keF v t k F) (fun x y => D x y ∨ ∃ k', k' < k ∧ DK v t k' x y) := by
  intro k
  induction k with
  | zero => exact h.congr (fun x y _ _ => ⟨Or.inl, fun z => z.resolve_right (fun ⟨k', h1, _⟩ => absurd h1 (Nat.not_lt_zero _))⟩)
  | succ k ih =>
    refine (ih.cst_ hn h2 hi (k := k) ht).congr (fun x y _ _ => ?_)
    constructor
    · rintro ((z | ⟨k', z1, z2⟩) | z)
      · exact Or.inl z
      · exact Or.inr ⟨k', by omega, z2⟩
      · exact Or.inr ⟨k, by omega, z⟩
    · rintro (z | ⟨k', z1, z2⟩)
      · exact Or.inl (Or.inl z)
      · rcases Nat.lt_or_ge k' k with q | q
        · exact Or.inl (Or.inr ⟨k', q, z2⟩)
        · rw [show k' = k by omega] at z2; exact Or.inr z2
def DEP (v : kG) (n x y : Nat) : Prop := ∃ t, t < n ∧ v 1 t = 1 ∧ ∃ k, k < 16 ∧ DK v t k x y
theorem BB.trF_ {F : Nat → Int32} (hn : n ≤ 12) (h2 : v 0 2 = nI n) (hi : RI n m b c v) (h : BB F (fun _ _ => False)) : ∀ t, t ≤ 12 → BB (trF v t F) (DEP v t) := by
  intro t
  induction t with
  | zero => intro _; exact h.congr (fun x y _ _ => ⟨False.elim, fun ⟨t, h1, _⟩ => absurd h1 (Nat.not_lt_zero _)⟩)
  | succ t ih =>
    intro ht
    unfold trF
    have i1 := ih (by omega)
    by_cases e : v 1 t = 1
    · rw [if_pos e]
      refine (i1.keF_ hn h2 hi (t := t) (by omega) 16).congr (fun x y _ _ => ?_)
      constructor
      · rintro (⟨t', z1, z2⟩ | z)
        · exact ⟨t', by omega, z2⟩
        · exact ⟨t, by omega, e, z⟩
      · rintro ⟨t', z1, z2⟩
        rcases Nat.lt_or_ge t' t with q | q
        · exact Or.inl ⟨t', q, z2⟩
        · rw [show t' = t by omega] at z2; exact Or.inr z2.2
    · rw [if_neg e]
      refine i1.congr (fun x y _ _ => ⟨fun ⟨t', z1, z2⟩ => ⟨t', by omega, z2⟩, fun ⟨t', z1, z2⟩ => ?_⟩)
      rcases Nat.lt_or_ge t' t with q | q
      · exact ⟨t', q, z2⟩
      · rw [show t' = t by omega] at z2; exact absurd z2.1 e
theorem gather_B (hn : n ≤ 12) (h2 : v 0 2 = nI n) (hi : RI n m b c v) : BB (mX4_gather w v) (DEP v n) := by
  obtain ⟨F', e1, e2⟩ := gather_ok (w := w) hn h2
  rw [e2]
  refine BB.trF_ hn h2 hi (fun j hj => ⟨0, by decide, e1 j hj, fun x hx => ?_⟩) n hn
  simp
theorem gather_AG {w' : kG} (hn : n ≤ 12) (h2 : v 0 2 = nI n) : AG (mX4_gather w v) (mX4_gather w' v) := by
  obtain ⟨F, e1, e2⟩ := gather_ok (w := w) hn h2
  obtain ⟨F', e1', e2'⟩ := gather_ok (w := w') hn h2
  rw [e2, e2']
  exact AG.trF_ (fun j hj => (e1 j hj).trans (e1' j hj).symm) v n
/-- a set of committed ones in which each has one ahead of it: none; or all of them in an order -/
def ORD (v : kG) (n all : Nat) : Prop := ((∀ w, (mX4_arrange w v).1 = 0) ∧ ∃ s', 0 < s' ∧ s' < 4096 ∧ (∀ i, i < 12 → s'.testBit i = true → i < n ∧ v 1 i = 1) ∧ ∀ i, i < 12 → s'.testBit i = true → ∃ x, x < 12 ∧ DEP v n x i ∧ s'.testBit x = true) ∨
  ((∀ w, (mX4_arrange w v).1 = 1) ∧ ∃ T : Nat → Nat, (∀ w q, q < all → (mX4_arrange w v).2.2 q = nI (T q)) ∧ ∀ q, q < all → T q < n ∧ v 1 (T q) = 1 ∧ (∀ i, i < q → T i ≠ T q) ∧ ∀ x, x < n → DEP v n x (T q) → v 1 x = 1 → ∃ i, i < q ∧ T i = x)
theorem arrange_S (hn : n ≤ 12) (h2 : v 0 2 = nI n) (hi : RI n m b c v) : ∃ all, all ≤ 12 ∧ all = kpop 12 (kst (fun j => decide (v 1 j = 1)) n) ∧ mJ6_bitCount_0f7a4 (mX2_inPhase v 1) = nI all ∧ ORD v n all := by
  obtain ⟨s, es⟩ : ∃ s, s = kst (fun j => decide (v 1 j = 1)) n := ⟨_, rfl⟩
  have hs : s < 4096 := by rw [es]; exact kst_lt12 _ hn
  have e1 : mX2_inPhase v 1 = nI s := by rw [es]; exact inPhase_k hn h2 1
  have hall : mJ6_bitCount_0f7a4 (mX2_inPhase v 1) = nI (kpop 12 s) := by rw [e1, kbc s hs]
  have hb : ∀ i, s.testBit i = true → i < n ∧ v 1 i = 1 := by
    intro i h
    rw [es, kst_bit] at h
    simpa using h
  have hb2 : ∀ i, i < n → v 1 i = 1 → s.testBit i = true := by
    intro i h h'
    rw [es, kst_bit]
    simp [h, h']
  have hgB : ∀ w, BB (mX4_gather w v) (DEP v n) := fun w => gather_B hn h2 hi
  obtain ⟨A, hA⟩ := Classical.skolem.mp (fun j => show ∃ a, j < 12 → a < 4096 ∧ mX4_gather kZ0' v j = nI a ∧ ∀ x, x < 12 → (a.testBit x = true ↔ DEP v n x j) from by
    by_cases hj : j < 12
    · obtain ⟨a, h⟩ := hgB kZ0' j hj
      exact ⟨a, fun _ => h⟩
    · exact ⟨0, fun h => absurd h hj⟩)
  have f1 : ∀ w, mX4_arrange w v = mX4_arrange_L19 w v (mX4_gather w v) 13 (nI s) 0 (w 2) := fun w => by
    unfold mX4_arrange; dsimp only; rw [e1]
  have ha := kpop_le 12 s
  refine ⟨kpop 12 s, ha, by rw [es], hall, ?_⟩
  have hq := fun w => arr_eq (w := w) (w' := kZ0') (v := v) (gather_AG (w := w) (w' := kZ0') hn h2) ha hall 13 s 0 (w 2) (kZ0' 2) hs (by omega) (by omega) (fun j hj => absurd hj (Nat.not_lt_zero j))
  rcases arr_S (w := kZ0') (v := v) (g := mX4_gather kZ0' v) (A := A) (fun i hi => ⟨(hA i hi).2.1, (hA i hi).1⟩) ha hall 13 s 0 (kZ0' 2) hs (by omega) (by omega) with ⟨a1, s', a2, a3, a4, a5⟩ | ⟨a1, T, a2, a3⟩
  · refine Or.inl ⟨fun w => by rw [f1 w, (hq w).1]; exact a1, s', a2, a3, fun i hi h => hb i (a4 i hi h), fun i hi h => ?_⟩
    obtain ⟨x, x1, x2, x3⟩ := a5 i hi h
    exact ⟨x, x1, ((hA i hi).2.2 x x1).mp x2, x3⟩
  · refine Or.inr ⟨fun w => by rw [f1 w, (hq w).1]; exact a1, T, fun w q h => ?_, fun q h => ?_⟩
    · rw [f1 w, (hq w).2 (by rw [(hq w).1]; exact a1) q h]
      exact (a3 q (Nat.zero_le _) h).2.1
    · obtain ⟨b1, b2, b3, b4, b5⟩ := a3 q (Nat.zero_le _) h
      have b6 := hb _ b3
      refine ⟨b6.1, b6.2, fun i hi => b4 i (Nat.zero_le _) hi, fun x hx h7 h8 => ?_⟩
      obtain ⟨i, i1, i2, i3⟩ := b5 x (by omega) (((hA _ b1).2.2 x (by omega)).mpr h7) (hb2 x hx h8)
      exact ⟨i, i2, i3⟩
end AR
