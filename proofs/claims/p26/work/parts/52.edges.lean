/-! edges, and the sets out of them -/
def ED (v : kG) (i j : Nat) : Prop := ¬ i = j ∧ ¬ v 1 i = 2 ∧ ¬ v 1 j = 2 ∧ ¬ (v 1 i = 1 ∧ ¬ v 2 j ≤ v 3 i) ∧ ¬ (v 1 j = 1 ∧ ¬ v 2 i ≤ v 3 j)
def EE (v : kG) (i j : Nat) : Prop := ED v i j ∧ ¬ ((v 4 i) &&& (v 5 j)) = 0
section A
variable {n m : Nat} {b c : Nat → Nat} {v u : kG} {i j : Nat}
theorem edgeK_on (hn : n ≤ 12) (hi : i < n) (hj : j < n) (h : ED v i j) : mX2_edgeKeys v (nI i) (nI j) = (v 4 i) &&& (v 5 j) := by
  obtain ⟨e0, e1, e2, e3, e4⟩ := h
  have e0' : ¬ nI i = nI j := fun q => e0 ((nI_eq (by omega) (by omega)).mp q)
  unfold mX2_edgeKeys
  rw [nI_clamp (n := i) (by omega), nI_clamp (n := j) (by omega), if_neg e0', if_neg e1, if_neg e2]
  by_cases a3 : v 1 i = 1
  · have a5 : v 2 j ≤ v 3 i := Decidable.byContradiction (fun q => e3 ⟨a3, q⟩)
    rw [if_pos a3, if_pos a5]
    by_cases a4 : v 1 j = 1
    · have a6 : v 2 i ≤ v 3 j := Decidable.byContradiction (fun q => e4 ⟨a4, q⟩)
      rw [if_pos a4, if_pos a6]
    · rw [if_neg a4]
  · rw [if_neg a3]
    by_cases a4 : v 1 j = 1
    · have a6 : v 2 i ≤ v 3 j := Decidable.byContradiction (fun q => e4 ⟨a4, q⟩)
      rw [if_pos a4, if_pos a6]
    · rw [if_neg a4]
theorem edgeK_off (hn : n ≤ 12) (hi : i < n) (hj : j < n) (h : ¬ ED v i j) : mX2_edgeKeys v (nI i) (nI j) = 0 := by
  unfold mX2_edgeKeys
  rw [nI_clamp (n := i) (by omega), nI_clamp (n := j) (by omega)]
  by_cases e0 : nI i = nI j
  · rw [if_pos e0]
  · by_cases e1 : v 1 i = 2
    · rw [if_neg e0, if_pos e1]
    · by_cases e2 : v 1 j = 2
      · rw [if_neg e0, if_neg e1, if_pos e2]
      · rw [if_neg e0, if_neg e1, if_neg e2]
        have e0' : ¬ i = j := fun q => e0 (by rw [q])
        by_cases a3 : v 1 i = 1
        · rw [if_pos a3]
          by_cases a5 : v 2 j ≤ v 3 i
          · rw [if_pos a5]
            by_cases a4 : v 1 j = 1
            · rw [if_pos a4]
              by_cases a6 : v 2 i ≤ v 3 j
              · exact absurd ⟨e0', e1, e2, fun z => z.2 a5, fun z => z.2 a6⟩ h
              · rw [if_neg a6]
            · exact absurd ⟨e0', e1, e2, fun z => z.2 a5, fun z => a4 z.1⟩ h
          · rw [if_neg a5]
        · rw [if_neg a3]
          by_cases a4 : v 1 j = 1
          · rw [if_pos a4]
            by_cases a6 : v 2 i ≤ v 3 j
            · exact absurd ⟨e0', e1, e2, fun z => a3 z.1, fun z => z.2 a6⟩ h
            · rw [if_neg a6]
          · exact absurd ⟨e0', e1, e2, fun z => a3 z.1, fun z => a4 z.1⟩ h
theorem edgeK0 (hn : n ≤ 12) (hi : i < n) (hj : j < n) : (mX2_edgeKeys v (nI i) (nI j) = 0) = ¬ EE v i j := by
  apply propext
  rcases Classical.em (ED v i j) with h | h
  · rw [edgeK_on hn hi hj h]
    exact ⟨fun q z => z.2 q, fun z => Decidable.byContradiction (fun q => z ⟨h, q⟩)⟩
  · rw [edgeK_off hn hi hj h]
    exact ⟨fun _ z => h z.1, fun _ => rfl⟩
def pE (v : kG) (t j : Nat) : Bool := !decide (mX2_edgeKeys v (nI t) (nI j) = 0)
theorem inPhase_k (hn : n ≤ 12) (h2 : v 0 2 = nI n) (w : Int32) : mX2_inPhase v w = nI (kst (fun j => decide (v 1 j = w)) n) := by
  refine kst_loop hn _ (mX2_inPhase_L4 v w) (fun f x i hi => ?_)
  rw [mX2_inPhase_L4_s, h2]
  rcases Nat.lt_or_ge i n with q | q
  · rw [if_neg (nI_ge q (by omega)), if_neg (Nat.not_le.mpr q), nI_clamp (by omega)]
    by_cases c : v 1 i = w
    · rw [if_pos c, if_pos (c := decide (v 1 i = w) = true) (by simp [c])]
    · rw [if_neg c, if_neg (c := decide (v 1 i = w) = true) (by simp [c])]
  · rw [if_pos (nI_le q (by omega)), if_pos q]
theorem edgesFrom_k (hn : n ≤ 12) (h2 : v 0 2 = nI n) (t : Nat) : mX2_edgesFrom v (nI t) = nI (kst (fun j => pE v t j) n) := by
  refine kst_loop hn _ (mX2_edgesFrom_L4 v (nI t)) (fun f x i hi => ?_)
  rw [mX2_edgesFrom_L4_s, h2]
  rcases Nat.lt_or_ge i n with q | q
  · rw [if_neg (nI_ge q (by omega)), if_neg (Nat.not_le.mpr q)]
    by_cases c : mX2_edgeKeys v (nI t) (nI i) = 0
    · rw [if_pos c, if_neg (c := pE v t i = true) (by simp [pE, c])]
    · rw [if_neg c, if_pos (c := pE v t i = true) (by simp [pE, c])]
  · rw [if_pos (nI_le q (by omega)), if_pos q]
theorem edgesTo_k (hn : n ≤ 12) (h2 : v 0 2 = nI n) (t : Nat) : mX2_edgesTo v (nI t) = nI (kst (fun j => pE v j t) n) := by
  refine kst_loop hn _ (mX2_edgesTo_L4 v (nI t)) (fun f x i hi => ?_)
  rw [mX2_edgesTo_L4_s, h2]
  rcases Nat.lt_or_ge i n with q | q
  · rw [if_neg (nI_ge q (by omega)), if_neg (Nat.not_le.mpr q)]
    by_cases c : mX2_edgeKeys v (nI i) (nI t) = 0
    · rw [if_pos c, if_neg (c := pE v i t = true) (by simp [pE, c])]
    · rw [if_neg c, if_pos (c := pE v i t = true) (by simp [pE, c])]
  · rw [if_pos (nI_le q (by omega)), if_pos q]
end A

