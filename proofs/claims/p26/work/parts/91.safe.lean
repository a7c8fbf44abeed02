/-! safe snapshots: the class and the law alike -/
section SAFE
variable {n m : Nat} {b c : Nat → Nat} {v w r : kG} {i j k t : Nat}
/-- u's place in the set of those that were active when t began -/
def BT (z : Nat → Int32) (t u : Nat) : Prop := ((z (50 + t) >>> (nI u &&& 31)) &&& 1) = 1
def RBs (n : Nat) (b c : Nat → Nat) (v : kG) (z : Nat → Int32) : Prop := ∀ t, t < n → ∀ u, u < 12 → (BT z t u → u < t) ∧ (u < t → (v 1 u = 0 → BT z t u) ∧ (v 1 u = 1 → (BT z t u ↔ b t < c u)))
def DG (v : kG) (t u w : Nat) : Prop := v 1 u = 1 ∧ EE v u w ∧ v 1 w = 1 ∧ ¬ v 2 t ≤ v 3 w
def SF (v : kG) (n t : Nat) (z : Nat → Int32) (x : Int32) : Prop := x = -6 ∧ (v 1 t = 2 ∨ ¬ v 5 t = 0) ∨ ¬ (v 1 t = 2 ∨ ¬ v 5 t = 0) ∧ (x = 0 ∧ (∃ u, u < n ∧ BT z t u ∧ ∃ w, w < n ∧ DG v t u w) ∨ ¬ (∃ u, u < n ∧ BT z t u ∧ ∃ w, w < n ∧ DG v t u w) ∧ (x = 2 ∧ (∃ u, u < n ∧ BT z t u ∧ v 1 u = 0) ∨ x = 1 ∧ ¬ ∃ u, u < n ∧ BT z t u ∧ v 1 u = 0))
theorem SF.uniq {z : Nat → Int32} {x y : Int32} (h : SF v n t z x) (h' : SF v n t z y) : x = y := by
  rcases h with ⟨e, a⟩ | ⟨a, h⟩
  · rcases h' with ⟨e', a'⟩ | ⟨a', h'⟩
    · rw [e, e']
    · exact absurd a a'
  · rcases h' with ⟨e', a'⟩ | ⟨a', h'⟩
    · exact absurd a' a
    · rcases h with ⟨e, d⟩ | ⟨d, h⟩
      · rcases h' with ⟨e', d'⟩ | ⟨d', h'⟩
        · rw [e, e']
        · exact absurd d d'
      · rcases h' with ⟨e', d'⟩ | ⟨d', h'⟩
        · exact absurd d' d
        · rcases h with ⟨e, f⟩ | ⟨e, f⟩
          · rcases h' with ⟨e', f'⟩ | ⟨e', f'⟩
            · rw [e, e']
            · exact absurd f f'
          · rcases h' with ⟨e', f'⟩ | ⟨e', f'⟩
            · exact absurd f' f
            · rw [e, e']
theorem safe54 (h : LR n v (r 0)) (ht : t < n) {u : Nat} (hu : u < n) {a2 a3 : Int32} (kk : Int32 → Int32 → Nat → Int32) (e : Int32) : ∀ f j (x : Int32), j ≤ n → n < f + j → (x = 0 ∨ x = 1) → ∃ y, (y = 0 ∨ y = 1) ∧ mL_safety_L54 r (nI t) a2 a3 u kk f e x j = kk e y n ∧ (y = 1 ↔ x = 1 ∨ ∃ w, j ≤ w ∧ w < n ∧ DG v t u w) := by
  have hn := h.1
  intro f
  induction f with
  | zero => intro j x h1 h2; omega
  | succ f ih =>
    intro j x h1 h2 hx
    rw [mL_safety_L54_s, h.2.1]
    rcases Nat.lt_or_ge j n with q | q
    · rw [if_neg (nI_ge q (by omega)), rA12 (by omega), rA0 (t := t) (by omega), (h.2.2 t ht).1]
      have no : ¬ DG v t u j → x = 0 → ∃ y, (y = 0 ∨ y = 1) ∧ mL_safety_L54 r (nI t) a2 a3 u kk f e 0 (j + 1) = kk e y n ∧ (y = 1 ↔ x = 1 ∨ ∃ w, j ≤ w ∧ w < n ∧ DG v t u w) := by
        intro hd x0
        obtain ⟨y, y1, y2, y3⟩ := ih (j + 1) 0 q (by omega) (Or.inl rfl)
        refine ⟨y, y1, y2, y3.trans ?_⟩
        rw [x0]
        constructor
        · rintro (z | ⟨w, w1, w2⟩)
          · exact Or.inl z
          · exact Or.inr ⟨w, by omega, w2⟩
        · rintro (z | ⟨w, w1, w2⟩)
          · exact Or.inl z
          · rcases Nat.lt_or_ge j w with g | g
            · exact Or.inr ⟨w, g, w2⟩
            · rw [show w = j by omega] at w2; exact absurd w2.2 hd
      have yes : (x = 1 ∨ DG v t u j) → ∃ y, (y = 0 ∨ y = 1) ∧ mL_safety_L54 r (nI t) a2 a3 u kk f e 1 (j + 1) = kk e y n ∧ (y = 1 ↔ x = 1 ∨ ∃ w, j ≤ w ∧ w < n ∧ DG v t u w) := by
        intro hd
        obtain ⟨y, y1, y2, y3⟩ := ih (j + 1) 1 q (by omega) (Or.inr rfl)
        exact ⟨y, y1, y2, ⟨fun _ => hd.elim Or.inl (fun z => Or.inr ⟨j, Nat.le_refl _, q, z⟩), fun _ => y3.mpr (Or.inl rfl)⟩⟩
      rcases hx with x0 | x1
      · rw [if_pos x0]
        by_cases c1 : v 1 u = 1
        · rw [if_neg (kF (h.isC0 hu) c1)]
          by_cases c2 : EE v u j
          · rw [if_neg (kF (h.isE0 hu q) c2)]
            by_cases c3 : v 1 j = 1
            · rw [if_neg (kF (h.isC0 q) c3), h.cm q c3]
              by_cases c4 : v 2 t ≤ v 3 j
              · rw [if_pos c4]; exact no (fun z => z.2.2.2 c4) x0
              · rw [if_neg c4]; exact yes (Or.inr ⟨c1, c2, c3, c4⟩)
            · rw [if_pos (kT (h.isC0 q) c3)]; exact no (fun z => c3 z.2.2.1) x0
          · rw [if_pos (kT (h.isE0 hu q) c2)]; exact no (fun z => c2 z.2.1) x0
        · rw [if_pos (kT (h.isC0 hu) c1)]; exact no (fun z => c1 z.1) x0
      · rw [if_neg (show ¬ x = 0 by rw [x1]; decide)]
        exact yes (Or.inl x1)
    · rw [if_pos (nI_le q (by omega))]
      refine ⟨x, hx, by rw [show j = n by omega], Or.inl, fun z => z.resolve_right (fun ⟨w, w1, w2, _⟩ => by omega)⟩
theorem safe_L (h : LR n v (r 0)) (ht : t < n) : SF v n t (r 0) (mL_safety r (nI t)) := by
  have hn := h.1
  have key : ∀ f i (e d : Int32), i ≤ n → n < f + i → (e = 0 ∨ e = 1) → (d = 0 ∨ d = 1) → (e = 0 ↔ ∃ u, u < i ∧ BT (r 0) t u ∧ v 1 u = 0) → (d = 1 ↔ ∃ u, u < i ∧ BT (r 0) t u ∧ ∃ w, w < n ∧ DG v t u w) → SF v n t (r 0) (mL_safety_L7 r (nI t) f e d i) := by
    intro f
    induction f with
    | zero => intro i e d h1 h2; omega
    | succ f ih =>
      intro i e d h1 h2 he hd e1 d1
      rw [mL_safety_L7_s, h.2.1]
      rcases Nat.lt_or_ge i n with q | q
      · rw [if_neg (nI_ge q (by omega)), rA50 (by omega), rA12 (t := i) (by omega)]
        by_cases c1 : BT (r 0) t i
        · rw [if_pos (show ((r 0 (50 + t) >>> (nI i &&& 31)) &&& 1) = 1 from c1)]
          have go : ∀ e', (e' = 0 ∨ e' = 1) → (e' = 0 ↔ ∃ u, u < i + 1 ∧ BT (r 0) t u ∧ v 1 u = 0) → SF v n t (r 0) (mL_safety_L54 r (nI t) e d i (mL_safety_K54 r (nI t) e d i (mL_safety_L7 r (nI t) f)) 13 e' d 0) := by
            intro e' he' e1'
            obtain ⟨y, y1, y2, y3⟩ := safe54 h ht q (a2 := e) (a3 := d) (mL_safety_K54 r (nI t) e d i (mL_safety_L7 r (nI t) f)) e' 13 0 d (Nat.zero_le _) (by omega) hd
            rw [y2, mL_safety_K54_s]
            refine ih (i + 1) e' y q (by omega) he' y1 e1' (y3.trans ?_)
            rw [d1]
            constructor
            · rintro (⟨u, u1, u2⟩ | ⟨w, w1, w2, w3⟩)
              · exact ⟨u, by omega, u2⟩
              · exact ⟨i, by omega, c1, w, w2, w3⟩
            · rintro ⟨u, u1, u2, w, w1, w2⟩
              rcases Nat.lt_or_ge u i with g | g
              · exact Or.inl ⟨u, g, u2, w, w1, w2⟩
              · rw [show u = i by omega] at w2; exact Or.inr ⟨w, Nat.zero_le _, w1, w2⟩
          by_cases c2 : e = 0
          · rw [if_pos c2]
            refine go 0 (Or.inl rfl) ⟨fun _ => ?_, fun _ => rfl⟩
            obtain ⟨u, u1, u2⟩ := e1.mp c2
            exact ⟨u, by omega, u2⟩
          · rw [if_neg c2]
            by_cases c3 : r 0 (12 + i) = 0
            · rw [if_pos c3]
              exact go 0 (Or.inl rfl) ⟨fun _ => ⟨i, by omega, c1, by rw [← h.zero q]; exact c3⟩, fun _ => rfl⟩
            · rw [if_neg c3]
              refine go 1 (Or.inr rfl) ⟨fun z => absurd z (by decide), fun ⟨u, u1, u2, u3⟩ => ?_⟩
              rcases Nat.lt_or_ge u i with g | g
              · exact absurd (e1.mpr ⟨u, g, u2, u3⟩) c2
              · rw [show u = i by omega, ← h.zero q] at u3; exact absurd u3 c3
        · rw [if_neg (show ¬ ((r 0 (50 + t) >>> (nI i &&& 31)) &&& 1) = 1 from c1)]
          refine ih (i + 1) e d q (by omega) he hd (e1.trans ⟨fun ⟨u, u1, u2⟩ => ⟨u, by omega, u2⟩, fun ⟨u, u1, u2⟩ => ?_⟩) (d1.trans ⟨fun ⟨u, u1, u2⟩ => ⟨u, by omega, u2⟩, fun ⟨u, u1, u2⟩ => ?_⟩)
          · rcases Nat.lt_or_ge u i with g | g
            · exact ⟨u, g, u2⟩
            · rw [show u = i by omega] at u2; exact absurd u2.1 c1
          · rcases Nat.lt_or_ge u i with g | g
            · exact ⟨u, g, u2⟩
            · rw [show u = i by omega] at u2; exact absurd u2.1 c1
      · have ei : i = n := by omega
        rw [if_pos (nI_le q (by omega)), rA12 (t := t) (by omega), rA36 (t := t) (by omega), (h.2.2 t ht).2.2.1]
        rw [ei] at e1 d1
        by_cases c1 : v 1 t = 2
        · rw [if_pos (by rw [h.neg ht]; exact c1)]; exact Or.inl ⟨rfl, Or.inl c1⟩
        · rw [if_neg (by rw [h.neg ht]; exact c1)]
          by_cases c2 : v 5 t = 0
          · rw [if_pos c2]
            have hb : ¬ (v 1 t = 2 ∨ ¬ v 5 t = 0) := fun z => z.elim c1 (fun y => y c2)
            by_cases c3 : d = 0
            · rw [if_pos c3]
              have nd : ¬ ∃ u, u < n ∧ BT (r 0) t u ∧ ∃ w, w < n ∧ DG v t u w := fun z => by
                have := d1.mpr z
                rw [c3] at this; exact absurd this (by decide)
              by_cases c4 : e = 0
              · rw [if_pos c4]; exact Or.inr ⟨hb, Or.inr ⟨nd, Or.inl ⟨rfl, e1.mp c4⟩⟩⟩
              · rw [if_neg c4]; exact Or.inr ⟨hb, Or.inr ⟨nd, Or.inr ⟨rfl, fun z => c4 (e1.mpr z)⟩⟩⟩
            · rw [if_neg c3]; exact Or.inr ⟨hb, Or.inl ⟨rfl, d1.mp (hd.resolve_left c3)⟩⟩
          · rw [if_neg c2]; exact Or.inl ⟨rfl, Or.inr c2⟩
  rw [mL_safety_s]
  exact key 13 0 1 0 (Nat.zero_le _) (by omega) (Or.inr rfl) (Or.inl rfl) ⟨fun z => absurd z (by decide), fun ⟨u, u1, _⟩ => absurd u1 (Nat.not_lt_zero u)⟩ ⟨fun z => absurd z (by decide), fun ⟨u, u1, _⟩ => absurd u1 (Nat.not_lt_zero u)⟩
theorem snap_L {z : Nat → Int32} (hn : n ≤ 12) (h2 : v 0 2 = nI n) (hi : RI n m b c v) (hB : RBs n b c v z) (ht : t < n) : SF v n t z (mX2_snapshot v (nI t)) := by
  have hm := hi.2.1
  have g1 := hi.bg ht
  -- one that spoils the snapshot
  have spoil : ∀ u, u < t → ¬ v 1 u = 0 → ((mX2_spoils v (nI u) (v 2 t) = 0) = ¬ (BT z t u ∧ ∃ w, w < n ∧ DG v t u w)) := by
    intro u hu h0
    rw [spoils0 hn h2 (by omega)]
    refine propext (not_congr ⟨fun ⟨a1, a2, i, i1, i2, i3, i4⟩ => ?_, fun ⟨a1, w, w1, w2, w3, w4, w5⟩ => ?_⟩)
    · obtain ⟨e1, e2, e3⟩ := hi.cm (show u < n by omega) a1
      refine ⟨?_, i, i1, a1, i2, i3, i4⟩
      rw [(((hB t ht u (by omega)).2 hu).2 a1)]
      rw [g1.1, e1, nI_leI (by omega) (by omega)] at a2
      have := hi.2.2.2.2.2 u t (by omega) ht a1
      omega
    · obtain ⟨e1, e2, e3⟩ := hi.cm (show u < n by omega) w2
      refine ⟨w2, ?_, w, w1, w3, w4, w5⟩
      rw [(((hB t ht u (by omega)).2 hu).2 w2)] at a1
      rw [g1.1, e1, nI_leI (by omega) (by omega)]
      omega
  have key : ∀ f i (a : Int32), i ≤ t → t < f + i → (a = 0 ∨ a = 1) → (a = 1 ↔ ∃ u, u < i ∧ v 1 u = 0) → (∀ u, u < i → ¬ (BT z t u ∧ ∃ w, w < n ∧ DG v t u w)) → ¬ (v 1 t = 2 ∨ ¬ v 5 t = 0) → SF v n t z (mX2_snapshot_L26 v (nI t) f a i) := by
    intro f
    induction f with
    | zero => intro i a h1 h3; omega
    | succ f ih =>
      intro i a h1 h3 ha a1 hno hb
      rw [mX2_snapshot_L26_s]
      rcases Nat.lt_or_ge i t with q | q
      · rw [if_neg (nI_ge q (by omega)), nI_clamp (n := i) (by omega), nI_clamp (n := t) (by omega)]
        by_cases c1 : v 1 i = 0
        · rw [if_pos c1]
          refine ih (i + 1) 1 q (by omega) (Or.inr rfl) ⟨fun _ => ⟨i, by omega, c1⟩, fun _ => rfl⟩ (fun u hu => ?_) hb
          rcases Nat.lt_or_ge u i with g | g
          · exact hno u g
          · rw [show u = i by omega]; exact fun ⟨_, w, _, w2, _⟩ => by rw [c1] at w2; exact absurd w2 (by decide)
        · rw [if_neg c1]
          by_cases c2 : BT z t i ∧ ∃ w, w < n ∧ DG v t i w
          · rw [if_neg (kF (spoil i q c1) c2)]
            exact Or.inr ⟨hb, Or.inl ⟨rfl, i, by omega, c2⟩⟩
          · rw [if_pos (kT (spoil i q c1) c2)]
            refine ih (i + 1) a q (by omega) ha (a1.trans ⟨fun ⟨u, u1, u2⟩ => ⟨u, by omega, u2⟩, fun ⟨u, u1, u2⟩ => ?_⟩) (fun u hu => ?_) hb
            · rcases Nat.lt_or_ge u i with g | g
              · exact ⟨u, g, u2⟩
              · rw [show u = i by omega] at u2; exact absurd u2 c1
            · rcases Nat.lt_or_ge u i with g | g
              · exact hno u g
              · rw [show u = i by omega]; exact c2
      · rw [if_pos (nI_le q (by omega))]
        have ei : i = t := by omega
        rw [ei] at a1 hno
        have nd : ¬ ∃ u, u < n ∧ BT z t u ∧ ∃ w, w < n ∧ DG v t u w := fun ⟨u, u1, u2, u3⟩ => hno u ((hB t ht u (by omega)).1 u2) ⟨u2, u3⟩
        have ee : (∃ u, u < n ∧ BT z t u ∧ v 1 u = 0) ↔ ∃ u, u < t ∧ v 1 u = 0 := ⟨fun ⟨u, u1, u2, u3⟩ => ⟨u, (hB t ht u (by omega)).1 u2, u3⟩, fun ⟨u, u1, u2⟩ => ⟨u, by omega, ((hB t ht u (by omega)).2 u1).1 u2, u2⟩⟩
        by_cases c : a = 0
        · rw [if_pos c]
          refine Or.inr ⟨hb, Or.inr ⟨nd, Or.inr ⟨rfl, fun y => ?_⟩⟩⟩
          have := a1.mpr (ee.mp y)
          rw [c] at this; exact absurd this (by decide)
        · rw [if_neg c]
          exact Or.inr ⟨hb, Or.inr ⟨nd, Or.inl ⟨rfl, ee.mpr (a1.mp (ha.resolve_left c))⟩⟩⟩
  rw [mX2_snapshot_s, nI_clamp (n := t) (by omega)]
  by_cases c1 : v 5 t = 0
  · rw [if_pos c1]
    by_cases c2 : v 1 t = 2
    · rw [if_pos c2]; exact Or.inl ⟨rfl, Or.inl c2⟩
    · rw [if_neg c2]
      exact key 13 0 0 (Nat.zero_le _) (by omega) (Or.inl rfl) ⟨fun y => absurd y (by decide), fun ⟨u, u1, _⟩ => absurd u1 (Nat.not_lt_zero u)⟩ (fun u hu => absurd hu (Nat.not_lt_zero u)) (fun y => y.elim c2 (fun y => y c1))
  · rw [if_neg c1]; exact Or.inl ⟨rfl, Or.inr c1⟩
end SAFE
