/-! safe snapshots -/
def SP (v : kG) (n o : Nat) (x : Int32) : Prop := ∃ i, i < n ∧ EE v o i ∧ v 1 i = 1 ∧ ¬ x ≤ v 3 i
section A
variable {n m : Nat} {b c : Nat → Nat} {v u : kG} {i j : Nat}
theorem spoils_L (hn : n ≤ 12) (h2 : v 0 2 = nI n) {o : Nat} (ho : o < n) (x : Int32) : ∀ f i, i ≤ n → n < f + i → (mX2_spoils_L31 v (nI o) x f i = 0 ↔ ∀ j, i ≤ j → j < n → ¬ (EE v o j ∧ v 1 j = 1 ∧ ¬ x ≤ v 3 j)) := by
  intro f
  induction f with
  | zero => intro i h1 h2; omega
  | succ f ih =>
    intro i h1 h3
    rw [mX2_spoils_L31_s, h2, edgesFrom_k hn h2]
    rcases Nat.lt_or_ge i n with q | q
    · rw [if_neg (nI_ge q (by omega)), nI_clamp (by omega)]
      have ih' := ih (i + 1) q (by omega)
      have skip : ¬ (EE v o i ∧ v 1 i = 1 ∧ ¬ x ≤ v 3 i) → (mX2_spoils_L31 v (nI o) x f (i + 1) = 0 ↔ ∀ j, i ≤ j → j < n → ¬ (EE v o j ∧ v 1 j = 1 ∧ ¬ x ≤ v 3 j)) := by
        intro hne
        rw [ih']
        refine ⟨fun h j h4 h5 => ?_, fun h j h4 h5 => h j (by omega) h5⟩
        rcases Nat.lt_or_ge i j with z | z
        · exact h j z h5
        · rw [show j = i by omega]; exact hne
      by_cases c1 : mX5_contains (nI (kst (fun j => pE v o j) n)) (nI i) = 0
      · rw [if_pos c1]
        rw [kctS hn (by omega)] at c1
        refine skip (fun z => c1 ⟨q, ?_⟩)
        have h5 := z.1
        simp only [pE, Bool.not_eq_true', decide_eq_false_iff_not]
        rw [edgeK0 hn ho q]
        exact fun y => y h5
      · rw [if_neg c1]
        rw [kctS hn (by omega)] at c1
        have h5 := (Classical.byContradiction c1).2
        simp only [pE, Bool.not_eq_true', decide_eq_false_iff_not] at h5
        rw [edgeK0 hn ho q] at h5
        have h6 := Classical.byContradiction h5
        by_cases c2 : v 1 i = 1
        · rw [if_pos c2]
          by_cases c3 : x ≤ v 3 i
          · rw [if_pos c3]; exact skip (fun z => z.2.2 c3)
          · rw [if_neg c3]
            exact ⟨fun z => absurd z (by decide), fun z => absurd ⟨h6, c2, c3⟩ (z i (Nat.le_refl _) q)⟩
        · rw [if_neg c2]; exact skip (fun z => c2 z.2.1)
    · rw [if_pos (nI_le q (by omega))]
      exact ⟨fun _ j h4 h5 => by omega, fun _ => rfl⟩
theorem spoils0 (hn : n ≤ 12) (h2 : v 0 2 = nI n) {o : Nat} (ho : o < n) (x : Int32) : (mX2_spoils v (nI o) x = 0) = ¬ (v 1 o = 1 ∧ x ≤ v 3 o ∧ SP v n o x) := by
  apply propext
  unfold mX2_spoils
  rw [nI_clamp (by omega)]
  by_cases c1 : v 1 o = 1
  · rw [if_pos c1]
    by_cases c2 : x ≤ v 3 o
    · rw [if_pos c2, spoils_L hn h2 ho x 13 0 (Nat.zero_le _) (by omega)]
      refine ⟨fun h z => ?_, fun h j _ hj z => h ⟨c1, c2, j, hj, z⟩⟩
      obtain ⟨_, _, j, hj, z⟩ := z
      exact h j (Nat.zero_le _) hj z
    · rw [if_neg c2]; exact ⟨fun _ z => c2 z.2.1, fun _ => rfl⟩
  · rw [if_neg c1]; exact ⟨fun _ z => c1 z.1, fun _ => rfl⟩
theorem bitC (x : Int32) (k : Int32) : (((x >>> (k &&& 31)) &&& 1) = 1) = ¬ mX5_contains x k = 0 := by
  unfold mX5_contains
  apply propext
  by_cases q : ((x >>> (k &&& 31)) &&& 1) = 1
  · rw [if_pos q]; exact ⟨fun _ => by decide, fun _ => q⟩
  · rw [if_neg q]; exact ⟨fun z => absurd z q, fun z => absurd rfl z⟩
end A

