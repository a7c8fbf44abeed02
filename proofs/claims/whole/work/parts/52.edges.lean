/-! edges, and the sets out of them -/
def ED (v : kG) (i j : Nat) : Prop := ¬ i = j ∧ ¬ v 1 i = 2 ∧ ¬ v 1 j = 2 ∧ ¬ (v 1 i = 1 ∧ ¬ v 2 j ≤ v 3 i) ∧ ¬ (v 1 j = 1 ∧ ¬ v 2 i ≤ v 3 j)
def EE (v : kG) (i j : Nat) : Prop := ED v i j ∧ ¬ ((v 4 i) &&& (v 5 j)) = 0
section A
variable {n m : Nat} {b c : Nat → Nat} {v u : kG} {i j : Nat}
theorem edgeK_on (hn : n ≤ 12) (hi : i < n) (hj : j < n) (h : ED v i j) : mX2_edgeKeys v (nI i) (nI j) = (v 4 i) &&& (v 5 j) := by
  obtain ⟨e0, e1, e2, e3, e4⟩ := h
  have e0' : ¬ nI i = nI j := fun q => e0 ((nI_eq (by omega) (by omega)).mp q)
  unfold mX2_edgeKeys
  rw [nI_clamp (n := i) (by omega), nI_clamp (n := j) (by omega), if_neg e0', if_neg e1, if_neg e2]
  by_cases a3 : v 1 i = 1
  · have a5 : v 2 j ≤ v 3 i := Decidable.byContradiction (fun q => e3 ⟨a3, q⟩)
    rw [if_pos a3, if_pos a5]
    by_cases a4 : v 1 j = 1
    · have a6 : v 2 i ≤ v 3 j := Decidable.byContradiction (fun q => e4 ⟨a4, q⟩)
      rw [if_pos a4, if_pos a6]
    · rw [if_neg a4]
  · rw [if_neg a3]
    by_cases a4 : v 1 j = 1
    · have a6 : v 2 i ≤ v 3 j := Decidable.byContradiction (fun q => e4 ⟨a4, q⟩)
      rw [if_pos a4, if_pos a6]
    · rw [if_neg a4]
theorem edgeK_off (hn : n ≤ 12) (hi : i < n) (hj : j < n) (h : ¬ ED v i j) : mX2_edgeKeys v (nI i) (nI j) = 0 := by
  unfold mX2_edgeKeys
  rw [nI_clamp (n := i) (by omega), nI_clamp (n := j) (by omega)]
  by_cases e0 : nI i = nI j
  · rw [if_pos e0]
  · by_cases e1 : v 1 i = 2
    · rw [if_neg e0, if_pos e1]
    · by_cases e2 : v 1 j = 2
      · rw [if_neg e0, if_neg e1, if_pos e2]
      · rw [if_neg e0, if_neg e1, if_neg e2]
        have e0' : ¬ i = j := fun q => e0 (by rw [q])
        by_cases a3 : v 1 i = 1
        · rw [if_pos a3]
          by_cases a5 : v 2 j ≤ v 3 i
          · rw [if_pos a5]
            by_cases a4 : v 1 j = 1
            · rw [if_pos a4]
              by_cases a6 : v 2 i ≤ v 3 j
              · exact absurd ⟨e0', e1, e2, fun z => z.2 a5, fun z => z.2 a6⟩ h
              · rw [if_neg a6]
            · exact absurd ⟨e0', e1, e2, fun z => z.2 a5, fun z => a4 z.1⟩ h
          · rw [if_neg a5]
        · rw [if_neg a3]
          by_cases a4 : v 1 j = 1
          · rw [if_pos a4]
            by_cases a6 : v 2 i ≤ v 3 j
            · exact absurd ⟨e0', e1, e2, fun z => a3 z.1, fun z => z.2 a6⟩ h
            · rw [if_neg a6]
          · exact absurd ⟨e0', e1, e2, fun z => a3 z.1, fun z => a4 z.1⟩ h
theorem edgeK0 (hn : n ≤ 12) (hi : i < n) (hj : j < n) : (mX2_edgeKeys v (nI i) (nI j) = 0) = ¬ EE v i j := by
  apply propext
  rcases Classical.em (ED v i j) with h | h
  · rw [edgeK_on hn hi hj h]
    exact ⟨fun q z => z.2 q, fun z => Decidable.byContradiction (fun q => z ⟨h, q⟩)⟩
  · rw [edgeK_off hn hi hj h]
    exact ⟨fun _ z => h z.1, fun _ => rfl⟩
theorem RE.ahead0 (h : RE n v (u 1)) (hi : i < n) {x : Int32} : (mX6_isCommittedAhead u (nI i) x = 0) = ¬ (v 1 i = 1 ∧ ¬ x ≤ v 3 i) := by
  unfold mX6_isCommittedAhead
  apply propext
  by_cases a : v 1 i = 1
  · rw [if_neg (kF (h.in0 hi) a), h.its2 hi]
    by_cases q : x ≤ v 3 i
    · rw [if_pos q]; exact ⟨fun _ z => z.2 q, fun _ => rfl⟩
    · rw [if_neg q]; exact ⟨fun z => absurd z (by decide), fun z => absurd ⟨a, q⟩ z⟩
  · rw [if_pos (kT (h.in0 hi) (a))]; exact ⟨fun _ z => a z.1, fun _ => rfl⟩
theorem RE.over0 (h : RE n v (u 1)) (hi : i < n) (hj : j < n) (hij : ¬ i = j) : (mX6_overlap u (nI i) (nI j) = 0) = ¬ ED v i j := by
  apply propext
  unfold mX6_overlap
  by_cases e1 : v 1 i = 2
  · rw [if_neg (kF (h.in0 hi) e1)]; exact ⟨fun _ z => z.2.1 e1, fun _ => rfl⟩
  · rw [if_pos (kT (h.in0 hi) (e1))]
    by_cases e2 : v 1 j = 2
    · rw [if_neg (kF (h.in0 hj) e2)]; exact ⟨fun _ z => z.2.2.1 e2, fun _ => rfl⟩
    · rw [if_pos (kT (h.in0 hj) (e2)), h.its1 hi, h.its1 hj]
      by_cases a3 : v 1 i = 1 ∧ ¬ v 2 j ≤ v 3 i
      · rw [if_neg (kF (h.ahead0 hi) a3)]; exact ⟨fun _ z => z.2.2.2.1 a3, fun _ => rfl⟩
      · rw [if_pos (kT (h.ahead0 hi) (a3))]
        by_cases a4 : v 1 j = 1 ∧ ¬ v 2 i ≤ v 3 j
        · rw [if_neg (kF (h.ahead0 hj) a4)]; exact ⟨fun _ z => z.2.2.2.2 a4, fun _ => rfl⟩
        · rw [if_pos (kT (h.ahead0 hj) (a4))]; exact ⟨fun z => absurd z (by decide), fun z => absurd ⟨hij, e1, e2, a3, a4⟩ z⟩
theorem RE.edge0 (h : RE n v (u 1)) (hi : i < n) (hj : j < n) : (mX6_isEdge u (nI i) (nI j) = 0) = ¬ EE v i j := by
  apply propext
  have hn := h.1
  unfold mX6_isEdge
  rw [h.its3 hi, h.its4 hj]
  by_cases e0 : i = j
  · rw [if_pos (by rw [e0])]; exact ⟨fun _ z => z.1.1 e0, fun _ => rfl⟩
  · rw [if_neg (fun q => e0 ((nI_eq (by omega) (by omega)).mp q))]
    by_cases e1 : ((v 4 i) &&& (v 5 j)) = 0
    · rw [if_pos e1]; exact ⟨fun _ z => z.2 e1, fun _ => rfl⟩
    · rw [if_neg e1]
      by_cases e2 : mX6_overlap u (nI i) (nI j) = 0
      · rw [if_pos e2]
        rw [h.over0 hi hj e0] at e2
        exact ⟨fun _ z => e2 z.1, fun _ => rfl⟩
      · rw [if_neg e2]
        rw [h.over0 hi hj e0] at e2
        exact ⟨fun z => absurd z (by decide), fun z => absurd ⟨Classical.byContradiction e2, e1⟩ z⟩
theorem RE.edgeEq (h : RE n v (u 1)) (hi : i < n) (hj : j < n) : (mX6_isEdge u (nI i) (nI j) = 0) = (mX2_edgeKeys v (nI i) (nI j) = 0) := by
  rw [h.edge0 hi hj, edgeK0 h.1 hi hj]
def pE (v : kG) (t j : Nat) : Bool := !decide (mX2_edgeKeys v (nI t) (nI j) = 0)
theorem inPhase_k (hn : n ≤ 12) (h2 : v 0 2 = nI n) (w : Int32) : mX2_inPhase v w = nI (kst (fun j => decide (v 1 j = w)) n) := by
  refine kst_loop hn _ (mX2_inPhase_L4 v w) (fun f x i hi => ?_)
  rw [mX2_inPhase_L4_s, h2]
  rcases Nat.lt_or_ge i n with q | q
  · rw [if_neg (nI_ge q (by omega)), if_neg (Nat.not_le.mpr q), nI_clamp (by omega)]
    by_cases c : v 1 i = w
    · rw [if_pos c, if_pos (c := decide (v 1 i = w) = true) (by simp [c])]
    · rw [if_neg c, if_neg (c := decide (v 1 i = w) = true) (by simp [c])]
  · rw [if_pos (nI_le q (by omega)), if_pos q]
theorem edgesFrom_k (hn : n ≤ 12) (h2 : v 0 2 = nI n) (t : Nat) : mX2_edgesFrom v (nI t) = nI (kst (fun j => pE v t j) n) := by
  refine kst_loop hn _ (mX2_edgesFrom_L4 v (nI t)) (fun f x i hi => ?_)
  rw [mX2_edgesFrom_L4_s, h2]
  rcases Nat.lt_or_ge i n with q | q
  · rw [if_neg (nI_ge q (by omega)), if_neg (Nat.not_le.mpr q)]
    by_cases c : mX2_edgeKeys v (nI t) (nI i) = 0
    · rw [if_pos c, if_neg (c := pE v t i = true) (by simp [pE, c])]
    · rw [if_neg c, if_pos (c := pE v t i = true) (by simp [pE, c])]
  · rw [if_pos (nI_le q (by omega)), if_pos q]
theorem edgesTo_k (hn : n ≤ 12) (h2 : v 0 2 = nI n) (t : Nat) : mX2_edgesTo v (nI t) = nI (kst (fun j => pE v j t) n) := by
  refine kst_loop hn _ (mX2_edgesTo_L4 v (nI t)) (fun f x i hi => ?_)
  rw [mX2_edgesTo_L4_s, h2]
  rcases Nat.lt_or_ge i n with q | q
  · rw [if_neg (nI_ge q (by omega)), if_neg (Nat.not_le.mpr q)]
    by_cases c : mX2_edgeKeys v (nI i) (nI t) = 0
    · rw [if_pos c, if_neg (c := pE v i t = true) (by simp [pE, c])]
    · rw [if_neg c, if_pos (c := pE v i t = true) (by simp [pE, c])]
  · rw [if_pos (nI_le q (by omega)), if_pos q]
theorem setOf_k (h : RE n v (u 1)) (w : Int32) : mX6_setOf u w = nI (kst (fun j => decide (v 1 j = w)) n) := by
  have hn := h.1
  refine kst_loop hn _ (mX6_setOf_L4 u w) (fun f x i hi => ?_)
  rw [mX6_setOf_L4_s, h.2.2.1]
  rcases Nat.lt_or_ge i n with q | q
  · rw [if_neg (nI_ge q (by omega)), if_neg (Nat.not_le.mpr q)]
    by_cases c : v 1 i = w
    · rw [if_neg (kF (h.in0 q) c), if_pos (c := decide (v 1 i = w) = true) (by simp [c])]
    · rw [if_pos (kT (h.in0 q) (c)), if_neg (c := decide (v 1 i = w) = true) (by simp [c]), Int32.or_zero]
  · rw [if_pos (nI_le q (by omega)), if_pos q]
theorem rFrom_k (h : RE n v (u 1)) {t : Nat} (ht : t < n) : mX6_edgesFrom u (nI t) = nI (kst (fun j => pE v t j) n) := by
  have hn := h.1
  refine kst_loop hn _ (mX6_edgesFrom_L4 u (nI t)) (fun f x i hi => ?_)
  rw [mX6_edgesFrom_L4_s, h.2.2.1]
  rcases Nat.lt_or_ge i n with q | q
  · rw [if_neg (nI_ge q (by omega)), if_neg (Nat.not_le.mpr q)]
    by_cases c : mX2_edgeKeys v (nI t) (nI i) = 0
    · rw [if_pos (Eq.mpr (h.edgeEq ht q) c), if_neg (c := pE v t i = true) (by simp [pE, c]), Int32.or_zero]
    · rw [if_neg (fun z => c (Eq.mp (h.edgeEq ht q) z)), if_pos (c := pE v t i = true) (by simp [pE, c])]
  · rw [if_pos (nI_le q (by omega)), if_pos q]
theorem rTo_k (h : RE n v (u 1)) {t : Nat} (ht : t < n) : mX6_edgesTo u (nI t) = nI (kst (fun j => pE v j t) n) := by
  have hn := h.1
  refine kst_loop hn _ (mX6_edgesTo_L4 u (nI t)) (fun f x i hi => ?_)
  rw [mX6_edgesTo_L4_s, h.2.2.1]
  rcases Nat.lt_or_ge i n with q | q
  · rw [if_neg (nI_ge q (by omega)), if_neg (Nat.not_le.mpr q)]
    by_cases c : mX2_edgeKeys v (nI i) (nI t) = 0
    · rw [if_pos (Eq.mpr (h.edgeEq q ht) c), if_neg (c := pE v i t = true) (by simp [pE, c]), Int32.or_zero]
    · rw [if_neg (fun z => c (Eq.mp (h.edgeEq q ht) z)), if_pos (c := pE v i t = true) (by simp [pE, c])]
  · rw [if_pos (nI_le q (by omega)), if_pos q]
theorem RE.eFrom (h : RE n v (u 1)) {t : Nat} (ht : t < n) : mX2_edgesFrom v (nI t) = mX6_edgesFrom u (nI t) := by rw [edgesFrom_k h.1 h.2.1, rFrom_k h ht]
theorem RE.eTo (h : RE n v (u 1)) {t : Nat} (ht : t < n) : mX2_edgesTo v (nI t) = mX6_edgesTo u (nI t) := by rw [edgesTo_k h.1 h.2.1, rTo_k h ht]
theorem RE.set (h : RE n v (u 1)) (w : Int32) : mX2_inPhase v w = mX6_setOf u w := by rw [inPhase_k h.1 h.2.1, setOf_k h]
theorem RE.bFrom (h : RE n v (u 1)) {t : Nat} (ht : t < n) : mJ6_bitCount_0f7a4 (mX2_edgesFrom v (nI t)) = mX6_bits (mX6_edgesFrom u (nI t)) := by rw [h.eFrom ht, rFrom_k h ht, bits_bc (kst_lt12 _ h.1)]
theorem RE.bTo (h : RE n v (u 1)) {t : Nat} (ht : t < n) : mJ6_bitCount_0f7a4 (mX2_edgesTo v (nI t)) = mX6_bits (mX6_edgesTo u (nI t)) := by rw [h.eTo ht, rTo_k h ht, bits_bc (kst_lt12 _ h.1)]
theorem RE.bSet (h : RE n v (u 1)) (w : Int32) : mJ6_bitCount_0f7a4 (mX2_inPhase v w) = mX6_bits (mX6_setOf u w) := by rw [h.set w, setOf_k h, bits_bc (kst_lt12 _ h.1)]
theorem RE.edges (h : RE n v (u 1)) : mX2_edgeTotal v = mX6_edges u := by
  have hn := h.1
  refine kLoopEq (n := n) (fun i x => x + mX6_bits (mX6_edgesFrom u (nI i))) (fun x => x) (mX2_edgeTotal_L4 v) (mX6_edges_L4 u) (fun f x i hi => ?_) (fun f x i hi => ?_) 13 0 0 (Nat.zero_le _) (by omega)
  · rw [mX2_edgeTotal_L4_s, h.2.1]
    rcases Nat.lt_or_ge i n with q | q
    · rw [if_neg (nI_ge q (by omega)), if_neg (Nat.not_le.mpr q), h.bFrom q]
    · rw [if_pos (nI_le q (by omega)), if_pos q]
  · rw [mX6_edges_L4_s, h.2.2.1]
    rcases Nat.lt_or_ge i n with q | q
    · rw [if_neg (nI_ge q (by omega)), if_neg (Nat.not_le.mpr q)]
    · rw [if_pos (nI_le q (by omega)), if_pos q]
theorem RE.triples (h : RE n v (u 1)) : mX2_tripleTotal v = mX6_triples u := by
  have hn := h.1
  refine kLoopEq (n := n) (fun i x => x + (mX6_bits (mX6_edgesFrom u (nI i))) * (mX6_bits (mX6_edgesTo u (nI i)))) (fun x => x) (mX2_tripleTotal_L4 v) (mX6_triples_L4 u) (fun f x i hi => ?_) (fun f x i hi => ?_) 13 0 0 (Nat.zero_le _) (by omega)
  · rw [mX2_tripleTotal_L4_s, h.2.1]
    rcases Nat.lt_or_ge i n with q | q
    · rw [if_neg (nI_ge q (by omega)), if_neg (Nat.not_le.mpr q), h.bFrom q, h.bTo q, Int32.mul_comm]
    · rw [if_pos (nI_le q (by omega)), if_pos q]
  · rw [mX6_triples_L4_s, h.2.2.1]
    rcases Nat.lt_or_ge i n with q | q
    · rw [if_neg (nI_ge q (by omega)), if_neg (Nat.not_le.mpr q)]
    · rw [if_pos (nI_le q (by omega)), if_pos q]
theorem RE.pivots (h : RE n v (u 1)) : mX2_pivots v = mX6_pivots u := by
  have hn := h.1
  refine kLoopEq (n := n) (fun i x => if mX6_edgesTo u (nI i) = 0 then x else if mX6_edgesFrom u (nI i) = 0 then x else x ||| (1 <<< ((nI i) &&& 31))) (fun x => x) (mX2_pivots_L4 v) (mX6_pivots_L4 u) (fun f x i hi => ?_) (fun f x i hi => ?_) 13 0 0 (Nat.zero_le _) (by omega)
  · rw [mX2_pivots_L4_s, h.2.1]
    rcases Nat.lt_or_ge i n with q | q
    · rw [if_neg (nI_ge q (by omega)), if_neg (Nat.not_le.mpr q), h.eFrom q, h.eTo q]
      split
      · rfl
      · split <;> rfl
    · rw [if_pos (nI_le q (by omega)), if_pos q]
  · rw [mX6_pivots_L4_s, h.2.2.1]
    rcases Nat.lt_or_ge i n with q | q
    · rw [if_neg (nI_ge q (by omega)), if_neg (Nat.not_le.mpr q)]
      by_cases c1 : mX6_edgesFrom u (nI i) = 0
      · rw [if_pos c1, Int32.or_zero]
        split <;> rfl
      · rw [if_neg c1, if_neg c1]
        by_cases c2 : mX6_edgesTo u (nI i) = 0
        · rw [if_pos c2, if_pos c2, Int32.or_zero]
        · rw [if_neg c2, if_neg c2]
    · rw [if_pos (nI_le q (by omega)), if_pos q]
end A
