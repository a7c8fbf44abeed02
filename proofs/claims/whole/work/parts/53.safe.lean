/-! safe snapshots -/
def RB (n : Nat) (b c : Nat → Nat) (v : kG) (z : Nat → Int32) : Prop := ∀ t, t < n → (∀ w, w < 12 → ¬ mX5_contains (z (3 + 23 * t + 6)) (nI w) = 0 → w < t) ∧ (∀ w, w < t → (v 1 w = 0 → ¬ mX5_contains (z (3 + 23 * t + 6)) (nI w) = 0) ∧ (v 1 w = 1 → (¬ mX5_contains (z (3 + 23 * t + 6)) (nI w) = 0 ↔ b t < c w)))
def SP (v : kG) (n o : Nat) (x : Int32) : Prop := ∃ i, i < n ∧ EE v o i ∧ v 1 i = 1 ∧ ¬ x ≤ v 3 i
section A
variable {n m : Nat} {b c : Nat → Nat} {v u : kG} {i j : Nat}
theorem spoils_L (hn : n ≤ 12) (h2 : v 0 2 = nI n) {o : Nat} (ho : o < n) (x : Int32) : ∀ f i, i ≤ n → n < f + i → (mX2_spoils_L31 v (nI o) x f i = 0 ↔ ∀ j, i ≤ j → j < n → ¬ (EE v o j ∧ v 1 j = 1 ∧ ¬ x ≤ v 3 j)) := by
  intro f
  induction f with
  | zero => intro i h1 h2; omega
  | succ f ih =>
    intro i h1 h3
    rw [mX2_spoils_L31_s, h2, edgesFrom_k hn h2]
    rcases Nat.lt_or_ge i n with q | q
    · rw [if_neg (nI_ge q (by omega)), nI_clamp (by omega)]
      have ih' := ih (i + 1) q (by omega)
      have skip : ¬ (EE v o i ∧ v 1 i = 1 ∧ ¬ x ≤ v 3 i) → (mX2_spoils_L31 v (nI o) x f (i + 1) = 0 ↔ ∀ j, i ≤ j → j < n → ¬ (EE v o j ∧ v 1 j = 1 ∧ ¬ x ≤ v 3 j)) := by
        intro hne
        rw [ih']
        refine ⟨fun h j h4 h5 => ?_, fun h j h4 h5 => h j (by omega) h5⟩
        rcases Nat.lt_or_ge i j with z | z
        · exact h j z h5
        · rw [show j = i by omega]; exact hne
      by_cases c1 : mX5_contains (nI (kst (fun j => pE v o j) n)) (nI i) = 0
      · rw [if_pos c1]
        rw [kctS hn (by omega)] at c1
        refine skip (fun z => c1 ⟨q, ?_⟩)
        have h5 := z.1
        simp only [pE, Bool.not_eq_true', decide_eq_false_iff_not]
        rw [edgeK0 hn ho q]
        exact fun y => y h5
      · rw [if_neg c1]
        rw [kctS hn (by omega)] at c1
        have h5 := (Classical.byContradiction c1).2
        simp only [pE, Bool.not_eq_true', decide_eq_false_iff_not] at h5
        rw [edgeK0 hn ho q] at h5
        have h6 := Classical.byContradiction h5
        by_cases c2 : v 1 i = 1
        · rw [if_pos c2]
          by_cases c3 : x ≤ v 3 i
          · rw [if_pos c3]; exact skip (fun z => z.2.2 c3)
          · rw [if_neg c3]
            exact ⟨fun z => absurd z (by decide), fun z => absurd ⟨h6, c2, c3⟩ (z i (Nat.le_refl _) q)⟩
        · rw [if_neg c2]; exact skip (fun z => c2 z.2.1)
    · rw [if_pos (nI_le q (by omega))]
      exact ⟨fun _ j h4 h5 => by omega, fun _ => rfl⟩
theorem spoils0 (hn : n ≤ 12) (h2 : v 0 2 = nI n) {o : Nat} (ho : o < n) (x : Int32) : (mX2_spoils v (nI o) x = 0) = ¬ (v 1 o = 1 ∧ x ≤ v 3 o ∧ SP v n o x) := by
  apply propext
  unfold mX2_spoils
  rw [nI_clamp (by omega)]
  by_cases c1 : v 1 o = 1
  · rw [if_pos c1]
    by_cases c2 : x ≤ v 3 o
    · rw [if_pos c2, spoils_L hn h2 ho x 13 0 (Nat.zero_le _) (by omega)]
      refine ⟨fun h z => ?_, fun h j _ hj z => h ⟨c1, c2, j, hj, z⟩⟩
      obtain ⟨_, _, j, hj, z⟩ := z
      exact h j (Nat.zero_le _) hj z
    · rw [if_neg c2]; exact ⟨fun _ z => c2 z.2.1, fun _ => rfl⟩
  · rw [if_neg c1]; exact ⟨fun _ z => c1 z.1, fun _ => rfl⟩
theorem endan_1 (h : RE n v (u 1)) (o x : Int32) : ∀ f i, i ≤ n → n < f + i → mX6_endangers_L5 u o x f 1 i = 1 := by
  intro f
  induction f with
  | zero => intro i h1 h2; omega
  | succ f ih =>
    intro i h1 h3
    have hn := h.1
    rw [mX6_endangers_L5_s, h.2.2.1]
    rcases Nat.lt_or_ge i n with q | q
    · rw [if_neg (nI_ge q (by omega)), if_neg (by decide)]
      exact ih _ q (by omega)
    · rw [if_pos (nI_le q (by omega))]
theorem endan_L (h : RE n v (u 1)) {o : Nat} (ho : o < n) (x : Int32) : ∀ f i, i ≤ n → n < f + i → (mX6_endangers_L5 u (nI o) x f 0 i = 0 ↔ ∀ j, i ≤ j → j < n → ¬ (v 1 o = 1 ∧ EE v o j ∧ v 1 j = 1 ∧ ¬ x ≤ v 3 j)) := by
  intro f
  induction f with
  | zero => intro i h1 h2; omega
  | succ f ih =>
    intro i h1 h3
    have hn := h.1
    rw [mX6_endangers_L5_s, h.2.2.1]
    rcases Nat.lt_or_ge i n with q | q
    · rw [if_neg (nI_ge q (by omega)), if_pos rfl]
      have ih' := ih (i + 1) q (by omega)
      have skip : ¬ (v 1 o = 1 ∧ EE v o i ∧ v 1 i = 1 ∧ ¬ x ≤ v 3 i) → (mX6_endangers_L5 u (nI o) x f 0 (i + 1) = 0 ↔ ∀ j, i ≤ j → j < n → ¬ (v 1 o = 1 ∧ EE v o j ∧ v 1 j = 1 ∧ ¬ x ≤ v 3 j)) := by
        intro hne
        rw [ih']
        refine ⟨fun h j h4 h5 => ?_, fun h j h4 h5 => h j (by omega) h5⟩
        rcases Nat.lt_or_ge i j with z | z
        · exact h j z h5
        · rw [show j = i by omega]; exact hne
      by_cases c1 : mX6_isIn u (nI o) 1 = 0
      · rw [if_pos c1]; rw [h.in0 ho] at c1; exact skip (fun z => c1 z.1)
      · rw [if_neg c1]; rw [h.in0 ho] at c1
        by_cases c2 : mX6_isEdge u (nI o) (nI i) = 0
        · rw [if_pos c2]; rw [h.edge0 ho q] at c2; exact skip (fun z => c2 z.2.1)
        · rw [if_neg c2]; rw [h.edge0 ho q] at c2
          by_cases c3 : mX6_isCommittedAhead u (nI i) x = 0
          · rw [if_pos c3]; rw [h.ahead0 q] at c3; exact skip (fun z => c3 ⟨z.2.2.1, z.2.2.2⟩)
          · rw [if_neg c3]; rw [h.ahead0 q] at c3
            have d3 := Classical.byContradiction c3
            rw [endan_1 h (nI o) x f (i + 1) q (by omega)]
            exact ⟨fun z => absurd z (by decide), fun z => absurd ⟨Classical.byContradiction c1, Classical.byContradiction c2, d3.1, d3.2⟩ (z i (Nat.le_refl _) q)⟩
    · rw [if_pos (nI_le q (by omega))]
      exact ⟨fun _ j h4 h5 => by omega, fun _ => rfl⟩
theorem endan0 (h : RE n v (u 1)) {o : Nat} (ho : o < n) (x : Int32) : (mX6_endangers u (nI o) x = 0) = ¬ (v 1 o = 1 ∧ SP v n o x) := by
  apply propext
  unfold mX6_endangers
  rw [endan_L h ho x 13 0 (Nat.zero_le _) (by have := h.1; omega)]
  refine ⟨fun h z => ?_, fun h j _ hj z => h ⟨z.1, j, hj, z.2⟩⟩
  obtain ⟨a, j, hj, z⟩ := z
  exact h j (Nat.zero_le _) hj ⟨a, z⟩
theorem its6 {t : Nat} (ht : t < 12) : mX6_its u (nI t) 6 = u 1 (3 + 23 * t + 6) := its_at (j := 6) ht (by omega)
theorem bitC (x : Int32) (k : Int32) : (((x >>> (k &&& 31)) &&& 1) = 1) = ¬ mX5_contains x k = 0 := by
  unfold mX5_contains
  apply propext
  by_cases q : ((x >>> (k &&& 31)) &&& 1) = 1
  · rw [if_pos q]; exact ⟨fun _ => by decide, fun _ => q⟩
  · rw [if_neg q]; exact ⟨fun z => absurd z q, fun z => absurd rfl z⟩
theorem safety_tail (h : RE n v (u 1)) (hB : RB n b c v (u 1)) {t : Nat} (ht : t < n) : ∀ f he i, t ≤ i → i ≤ n → n < f + i → mX6_safety_L25 u (nI t) f he i = if he = 0 then 2 else 1 := by
  intro f
  induction f with
  | zero => intro he i h0 h1 h2; omega
  | succ f ih =>
    intro he i h0 h1 h3
    have hn := h.1
    rw [mX6_safety_L25_s, h.2.2.1]
    rcases Nat.lt_or_ge i n with q | q
    · rw [if_neg (nI_ge q (by omega)), its6 (by omega)]
      rw [if_neg (by
        rw [bitC]
        intro z
        have := (hB t ht).1 i (by omega) z
        omega)]
      exact ih _ _ (by omega) q (by omega)
    · rw [if_pos (nI_le q (by omega))]
theorem safety_L (h : RE n v (u 1)) (hi : RI n m b c v) (hB : RB n b c v (u 1)) {t : Nat} (ht : t < n) : ∀ f f' a he i, i ≤ t → t < f + i → n < f' + i → (a = 0 ∧ he = 1 ∨ a = 1 ∧ he = 0) → mX2_snapshot_L26 v (nI t) f a i = mX6_safety_L25 u (nI t) f' he i := by
  intro f
  induction f with
  | zero => intro f' a he i h1 h2; omega
  | succ f ih =>
    intro f' a he i h1 h3 h4 ha
    have hn := h.1
    rw [mX2_snapshot_L26_s]
    rcases Nat.lt_or_ge i t with q | q
    · cases f' with
      | zero => omega
      | succ f' =>
        rw [mX6_safety_L25_s, h.2.2.1]
        have qn : i < n := by omega
        rw [if_neg (nI_ge q (by omega)), if_neg (nI_ge qn (by omega)), nI_clamp (n := i) (by omega), nI_clamp (n := t) (by omega), its6 (by omega), h.its1 ht]
        have hb := (hB t ht).2 i q
        by_cases c0 : v 1 i = 0
        · have hb0 := hb.1 c0
          rw [if_pos c0, if_pos (kT (bitC _ _) (hb0)), if_pos (kT (endan0 h qn _) (fun z => by rw [c0] at z; exact absurd z.1 (by decide)))]
          rw [if_neg (kF (h.in0 qn) c0)]
          have e : (if he = 0 then mX6_safety_L25 u (nI t) f' 0 (i + 1) else mX6_safety_L25 u (nI t) f' 0 (i + 1)) = mX6_safety_L25 u (nI t) f' 0 (i + 1) := by split <;> rfl
          rw [e]
          exact ih f' 1 0 (i + 1) q (by omega) (by omega) (Or.inr ⟨rfl, rfl⟩)
        · rw [if_neg c0]
          have e0 : mX6_isIn u (nI i) 0 = 0 := by rw [h.in0 qn]; exact c0
          have e1 : (if he = 0 then mX6_safety_L25 u (nI t) f' 0 (i + 1) else if mX6_isIn u (nI i) 0 = 0 then mX6_safety_L25 u (nI t) f' 1 (i + 1) else mX6_safety_L25 u (nI t) f' 0 (i + 1)) = mX6_safety_L25 u (nI t) f' he (i + 1) := by
            rw [if_pos e0]
            rcases ha with ⟨_, rfl⟩ | ⟨_, rfl⟩
            · rw [if_neg (by decide)]
            · rw [if_pos rfl]
          rw [e1]
          have go := ih f' a he (i + 1) q (by omega) (by omega) ha
          by_cases c1 : v 1 i = 1
          · have hb1 := hb.2 c1
            obtain ⟨k1, k2, k3⟩ := hi.cm qn c1
            obtain ⟨k4, k5, k6⟩ := hi.bg ht
            have hm := hi.2.1
            have hne := hi.2.2.2.2.2 i t qn ht c1
            have hle : v 2 t ≤ v 3 i ↔ b t < c i := by
              rw [k1, k4, nI_leI (by omega) (by omega)]; omega
            by_cases c2 : b t < c i
            · rw [if_pos (kT (bitC _ _) (hb1.mpr c2))]
              by_cases c3 : SP v n i (v 2 t)
              · rw [if_neg (kF (spoils0 hn h.2.1 qn _) ⟨c1, hle.mpr c2, c3⟩), if_neg (kF (endan0 h qn _) ⟨c1, c3⟩)]
              · rw [if_pos (kT (spoils0 hn h.2.1 qn _) (fun z => c3 z.2.2)), if_pos (kT (endan0 h qn _) (fun z => c3 z.2))]
                exact go
            · rw [if_neg (fun z => c2 (hb1.mp (Eq.mp (bitC _ _) z))), if_pos (kT (spoils0 hn h.2.1 qn _) (fun z => c2 (hle.mp z.2.1)))]
              exact go
          · rw [if_pos (kT (spoils0 hn h.2.1 qn _) (fun z => c1 z.1)), if_pos (c := mX6_endangers u (nI i) (v 2 t) = 0) (kT (endan0 h qn _) (fun z => c1 z.1))]
            split <;> exact go
    · have e : i = t := by omega
      rw [if_pos (nI_le q (by omega)), safety_tail h hB ht f' he i q (by omega) h4]
      rcases ha with ⟨rfl, rfl⟩ | ⟨rfl, rfl⟩
      · rfl
      · rfl
theorem safety_eq (h : RE n v (u 1)) (hi : RI n m b c v) (hB : RB n b c v (u 1)) {t : Nat} (ht : t < n) : mX2_snapshot v (nI t) = mX6_safety u (nI t) := by
  have hn := h.1
  unfold mX2_snapshot mX6_safety
  rw [nI_clamp (by omega), h.its4 ht]
  by_cases c1 : v 1 t = 2
  · rw [if_neg (c := mX6_isIn u (nI t) 2 = 0) (kF (h.in0 ht) c1), if_pos c1]
    split <;> rfl
  · rw [if_pos (c := mX6_isIn u (nI t) 2 = 0) (kT (h.in0 ht) (c1)), if_neg c1]
    by_cases c2 : v 5 t = 0
    · rw [if_pos c2, if_pos c2]
      exact safety_L h hi hB ht 13 13 0 1 0 (Nat.zero_le _) (by omega) (by omega) (Or.inl ⟨rfl, rfl⟩)
    · rw [if_neg c2, if_neg c2]
end A
