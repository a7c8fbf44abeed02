/-! what is told of them: the class's answers are what the law's rows say -/
def cn (P : Nat → Bool) : Nat → Nat
  | 0 => 0
  | n + 1 => cn P n + (if P n = true then 1 else 0)
theorem cn_le (P : Nat → Bool) : ∀ n, cn P n ≤ n := by
  intro n
  induction n with
  | zero => exact Nat.le_refl 0
  | succ n ih =>
    show cn P n + (if P n = true then 1 else 0) ≤ n + 1
    by_cases h : P n = true
    · rw [if_pos h]; omega
    · rw [if_neg h]; omega
theorem cn_zero {P : Nat → Bool} : ∀ n, cn P n = 0 ↔ ∀ i, i < n → ¬ P i = true := by
  intro n
  induction n with
  | zero => exact ⟨fun _ i h => absurd h (Nat.not_lt_zero i), fun _ => rfl⟩
  | succ n ih =>
    show cn P n + (if P n = true then 1 else 0) = 0 ↔ _
    by_cases h : P n = true
    · rw [if_pos h]
      exact ⟨fun z => by omega, fun z => absurd h (z n (by omega))⟩
    · rw [if_neg h, Nat.add_zero, ih]
      refine ⟨fun z i hi => ?_, fun z i hi => z i (by omega)⟩
      rcases Nat.lt_or_ge i n with q | q
      · exact z i q
      · rw [show i = n by omega]; exact h
theorem kpop_kst (P : Nat → Bool) : ∀ n, n ≤ 12 → kpop 12 (kst P n) = cn P n := by
  intro n
  induction n with
  | zero => intro _; exact kpop0 12
  | succ n ih =>
    intro hn
    show kpop 12 (kst P n ||| (if P n = true then 2 ^ n else 0)) = cn P n + (if P n = true then 1 else 0)
    by_cases h : P n = true
    · rw [if_pos h, if_pos h]
      have hl := kst_lt P n
      have e : kst P n ||| 2 ^ n = 2 ^ n + kst P n := by
        have := Nat.two_pow_add_eq_or_of_lt hl 1
        rw [Nat.mul_one] at this
        rw [this, Nat.or_comm]
      have hb : (2 ^ n + kst P n) / 2 ^ n % 2 = 1 := by
        rw [Nat.add_div_left _ (Nat.pow_pos (by decide)), Nat.div_eq_of_lt hl]
      have h3 := kpop_clr 12 n (2 ^ n + kst P n) (by omega) hb
      rw [Nat.add_sub_cancel_left, ih (by omega)] at h3
      rw [e]; omega
    · rw [if_neg h, if_neg h, Nat.or_zero, Nat.add_zero]
      exact ih (by omega)
def sm (f : Nat → Nat) : Nat → Nat
  | 0 => 0
  | n + 1 => sm f n + f n
section TELL
variable {n m : Nat} {b c : Nat → Nat} {v w r : kG} {i j k t : Nat} {S : kS}
theorem ex_1 (hn : n ≤ 12) (h2 : v 0 2 = nI n) (hi : i < n) : ¬ mX2_exists v (nI i) = 0 := by
  rw [mX2_exists_s, if_neg (nI_pos (by omega)), h2, if_neg (nI_ge hi (by omega))]
  decide
theorem ex_0 (h2 : v 0 2 = nI n) (hn : n ≤ 12) : mX2_exists v (nI n) = 0 := by
  rw [mX2_exists_s, if_neg (nI_pos (by omega)), h2, if_pos (nI_le (Nat.le_refl _) (by omega))]
theorem of_0 (hn : n ≤ 12) (h2 : S 0 0 2 = nI n) (hi : i < n) : mX5_of S (nI i) 0 = S 0 1 i ∧ mX5_of S (nI i) 1 = S 0 2 i ∧ mX5_of S (nI i) 2 = S 0 3 i ∧ mX5_of S (nI i) 3 = S 0 4 i ∧ mX5_of S (nI i) 4 = S 0 5 i ∧ mX5_of S (nI i) 5 = mX2_edgesFrom (S 0) (nI i) ∧ mX5_of S (nI i) 6 = mX2_edgesTo (S 0) (nI i) ∧ mX5_of S (nI i) 7 = S 0 6 i ∧ mX5_of S (nI i) 8 = mX2_snapshot (S 0) (nI i) := by
  have he := ex_1 (v := S 0) hn h2 hi
  refine ⟨?_, ?_, ?_, ?_, ?_, ?_, ?_, ?_, ?_⟩ <;> rw [mX5_of_s, if_neg he] <;> simp only [rA0 (t := i) (by omega)] <;> rfl
theorem edge_1 (hn : n ≤ 12) (h2 : S 0 0 2 = nI n) (hi : i < n) (hj : j < n) (h : EE (S 0) i j) : mX5_edge S (nI i) (nI j) = 1 := by
  rw [mX5_edge_s, if_neg (ex_1 hn h2 hi), if_neg (ex_1 hn h2 hj), if_neg (kF (edgeK0 hn hi hj) h)]
theorem edge_0 (hn : n ≤ 12) (h2 : S 0 0 2 = nI n) (hi : i < n) (hj : j < n) (h : ¬ EE (S 0) i j) : mX5_edge S (nI i) (nI j) = 0 := by
  rw [mX5_edge_s, if_neg (ex_1 hn h2 hi), if_neg (ex_1 hn h2 hj), if_pos (kT (edgeK0 hn hi hj) h)]
theorem over_0 (hn : n ≤ 12) (h2 : S 0 0 2 = nI n) (hi : i < n) (hj : j < n) (h : ¬ EE (S 0) i j) : mX5_over S (nI i) (nI j) = -6 := by
  rw [mX5_over_s, if_neg (ex_1 hn h2 hi), if_neg (ex_1 hn h2 hj)]
  have he : mX2_edgeKeys (S 0) (nI i) (nI j) = 0 := kT (edgeK0 hn hi hj) h
  have key : ∀ f q, q ≤ 16 → 16 < f + q → mX5_over_L37 S (nI i) (nI j) f q = -6 := by
    intro f
    induction f with
    | zero => intro q h1 h3; omega
    | succ f ih =>
      intro q h1 h3
      rw [mX5_over_L37_s]
      rcases Nat.lt_or_ge q 16 with z | z
      · rw [if_neg (k16ge z), he, if_pos (show mX5_contains 0 (nI q) = 0 from (show mX5_contains (nI 0) (nI q) = 0 by rw [kct0 (by omega) (by omega)]; simp))]
        exact ih (q + 1) z (by omega)
      · rw [if_pos (k16le z h1)]
  exact key 17 0 (by omega) (by omega)
theorem over_1 (hn : n ≤ 12) (h2 : S 0 0 2 = nI n) (hi : i < n) (hj : j < n) (h : EE (S 0) i j) {x y : Nat} (hx : x < 65536) (ex : S 0 4 i = nI x) (ey : S 0 5 j = nI y) : (1 <<< ((mX5_over S (nI i) (nI j)) &&& 31)) = (((S 0 4 i) &&& (S 0 5 j)) &&& (-((S 0 4 i) &&& (S 0 5 j)))) := by
  rw [mX5_over_s, if_neg (ex_1 hn h2 hi), if_neg (ex_1 hn h2 hj)]
  have he : mX2_edgeKeys (S 0) (nI i) (nI j) = nI (x &&& y) := by rw [edgeK_on hn hi hj h.1, ex, ey, fa_and]
  have hne : ¬ nI (x &&& y) = 0 := by have := h.2; rwa [ex, ey, fa_and] at this
  have hl : x &&& y < 65536 := Nat.lt_of_le_of_lt Nat.and_le_left hx
  rw [ex, ey, fa_and, knegI _ hl, fa_and]
  have h0 : 0 < x &&& y := Nat.pos_of_ne_zero (fun z => hne (by rw [z]; rfl))
  rw [klo_and _ hl h0]
  have key : ∀ f q, q ≤ 16 → 16 < f + q → (∀ k, k < q → (x &&& y).testBit k = false) → (1 <<< ((mX5_over_L37 S (nI i) (nI j) f q) &&& 31)) = nI (2 ^ klo 16 (x &&& y)) := by
    intro f
    induction f with
    | zero => intro q h1 h3; omega
    | succ f ih =>
      intro q h1 h3 h4
      rw [mX5_over_L37_s]
      rcases Nat.lt_or_ge q 16 with z | z
      · rw [if_neg (k16ge z), he]
        by_cases e : mX5_contains (nI (x &&& y)) (nI q) = 0
        · rw [if_pos e]
          rw [kct0 (by omega) (by omega)] at e
          refine ih (q + 1) z (by omega) (fun k hk => ?_)
          rcases Nat.lt_or_ge k q with g | g
          · exact h4 k g
          · rw [show k = q by omega]; exact e
        · rw [if_neg e]
          rw [kct0 (by omega) (by omega)] at e
          rw [kshl q (by omega), klo_eq 16 (x &&& y) q z (by simpa using e) h4]
      · exfalso
        have : x &&& y = 0 := Nat.eq_of_testBit_eq (fun k => by
          rw [Nat.zero_testBit]
          rcases Nat.lt_or_ge k 16 with g | g
          · exact h4 k (by omega)
          · exact Nat.testBit_lt_two_pow (Nat.lt_of_lt_of_le hl (show 2 ^ 16 ≤ 2 ^ k from Nat.pow_le_pow_right (by decide) g)))
        omega
  exact key 17 0 (by omega) (by omega) (fun k hk => absurd hk (Nat.not_lt_zero k))
theorem bcF (hn : n ≤ 12) (h2 : v 0 2 = nI n) (t : Nat) : mJ6_bitCount_0f7a4 (mX2_edgesFrom v (nI t)) = nI (cn (fun j => pE v t j) n) := by
  rw [edgesFrom_k hn h2, kbc _ (kst_lt12 _ hn), kpop_kst _ n hn]
theorem bcT (hn : n ≤ 12) (h2 : v 0 2 = nI n) (t : Nat) : mJ6_bitCount_0f7a4 (mX2_edgesTo v (nI t)) = nI (cn (fun j => pE v j t) n) := by
  rw [edgesTo_k hn h2, kbc _ (kst_lt12 _ hn), kpop_kst _ n hn]
theorem sum_L {L : Nat → Int32 → Nat → Int32} {f : Nat → Nat} (hs : ∀ g x i, i ≤ n → L (g + 1) x i = if nI n ≤ nI i then x else L g (x + nI (f i)) (i + 1)) (hn : n ≤ 12) : ∀ g i, i ≤ n → n < g + i → L g (nI (sm f i)) i = nI (sm f n) := by
  intro g
  induction g with
  | zero => intro i h1 h2; omega
  | succ g ih =>
    intro i h1 h2
    rw [hs g _ i h1]
    rcases Nat.lt_or_ge i n with q | q
    · rw [if_neg (nI_ge q (by omega)), nI_add]
      exact ih (i + 1) q (by omega)
    · rw [if_pos (nI_le q (by omega)), show i = n by omega]
theorem edgeTotal_k (hn : n ≤ 12) (h2 : v 0 2 = nI n) : mX2_edgeTotal v = nI (sm (fun t => cn (fun j => pE v t j) n) n) := by
  refine sum_L (L := mX2_edgeTotal_L4 v) (f := fun t => cn (fun j => pE v t j) n) (fun g x i hi => ?_) hn 13 0 (Nat.zero_le _) (by omega)
  rw [mX2_edgeTotal_L4_s, h2, bcF hn h2]
theorem tripleTotal_k (hn : n ≤ 12) (h2 : v 0 2 = nI n) : mX2_tripleTotal v = nI (sm (fun t => cn (fun j => pE v t j) n * cn (fun j => pE v j t) n) n) := by
  refine sum_L (L := mX2_tripleTotal_L4 v) (f := fun t => cn (fun j => pE v t j) n * cn (fun j => pE v j t) n) (fun g x i hi => ?_) hn 13 0 (Nat.zero_le _) (by omega)
  rw [mX2_tripleTotal_L4_s, h2, bcF hn h2, bcT hn h2, kmulI, Nat.mul_comm]
def pP (v : kG) (n t : Nat) : Bool := !decide (cn (fun j => pE v t j) n * cn (fun j => pE v j t) n = 0)
theorem kst_ne {P : Nat → Bool} (hn : n ≤ 12) : (nI (kst P n) = 0) = (cn P n = 0) := by
  have hl := kst_lt12 P hn
  rw [nI_eq0 (by omega)]
  refine propext (kst_zero.trans ?_)
  rw [cn_zero n]
  exact ⟨fun h i hi => by rw [h i hi]; decide, fun h i hi => by have := h i hi; simpa using this⟩
theorem pivots_k (hn : n ≤ 12) (h2 : v 0 2 = nI n) : mX2_pivots v = nI (kst (fun t => pP v n t) n) := by
  refine kst_loop hn _ (mX2_pivots_L4 v) (fun f x i hi => ?_)
  rw [mX2_pivots_L4_s, h2, edgesTo_k hn h2, edgesFrom_k hn h2]
  rcases Nat.lt_or_ge i n with q | q
  · rw [if_neg (nI_ge q (by omega)), if_neg (Nat.not_le.mpr q)]
    by_cases c1 : cn (fun j => pE v j i) n = 0
    · rw [if_pos (by rw [kst_ne hn]; exact c1), if_neg (c := pP v n i = true) (by simp [pP, c1])]
    · rw [if_neg (by rw [kst_ne hn]; exact c1)]
      by_cases c2 : cn (fun j => pE v i j) n = 0
      · rw [if_pos (by rw [kst_ne hn]; exact c2), if_neg (c := pP v n i = true) (by simp [pP, c2])]
      · rw [if_neg (by rw [kst_ne hn]; exact c2), if_pos (c := pP v n i = true) (by unfold pP; simp only [Bool.not_eq_true', decide_eq_false_iff_not]; exact Nat.mul_ne_zero c2 c1)]
  · rw [if_pos (nI_le q (by omega)), if_pos q]
/-- the inner loop: no fault found, and all counted -/
theorem tell34 (h : LR n (S 0) (r 0)) (h2 : S 0 0 2 = nI n) (hi : RI n m b c (S 0)) {t : Nat} (ht : t < n) {a2 a3 a4 : Int32} (kk : Int32 → Int32 → Int32 → Int32 → Nat → (Int32 × kS)) : ∀ f j, j ≤ n → n < f + j → mL_tells_L34 S r a2 a3 a4 t kk f (nI (kst (fun x => pE (S 0) t x) j)) (nI (kst (fun x => pE (S 0) x t) j)) (nI (cn (fun x => pE (S 0) t x) j)) (nI (cn (fun x => pE (S 0) x t) j)) j = kk (nI (kst (fun x => pE (S 0) t x) n)) (nI (kst (fun x => pE (S 0) x t) n)) (nI (cn (fun x => pE (S 0) t x) n)) (nI (cn (fun x => pE (S 0) x t) n)) n := by
  have hn := h.1
  intro f
  induction f with
  | zero => intro j h1 h3; omega
  | succ f ih =>
    intro j h1 h3
    rw [mL_tells_L34_s, h.2.1]
    rcases Nat.lt_or_ge j n with q | q
    · rw [if_neg (nI_ge q (by omega)), rA24 (by omega), rA36 (by omega), (h.2.2 t ht).2.1, (h.2.2 j q).2.2.1]
      obtain ⟨x, x1, x2⟩ := hi.rd ht
      obtain ⟨y, y1, y2⟩ := hi.wr q
      have on1 : EE (S 0) t j → (nI (kst (fun x => pE (S 0) t x) j) ||| (1 <<< (nI j &&& 31)) = nI (kst (fun x => pE (S 0) t x) (j + 1)) ∧ nI (cn (fun x => pE (S 0) t x) j) + 1 = nI (cn (fun x => pE (S 0) t x) (j + 1))) := fun z => by
        have z2 : (fun x => pE (S 0) t x) j = true := by show pE (S 0) t j = true; rw [pE_t hn ht q]; exact z
        refine ⟨kst_on (by omega) z2, ?_⟩
        show _ = nI (cn _ j + (if (fun x => pE (S 0) t x) j = true then 1 else 0))
        rw [if_pos z2, nI_1]
      have on2 : EE (S 0) j t → (nI (kst (fun x => pE (S 0) x t) j) ||| (1 <<< (nI j &&& 31)) = nI (kst (fun x => pE (S 0) x t) (j + 1)) ∧ nI (cn (fun x => pE (S 0) x t) j) + 1 = nI (cn (fun x => pE (S 0) x t) (j + 1))) := fun z => by
        have z2 : (fun x => pE (S 0) x t) j = true := by show pE (S 0) j t = true; rw [pE_t hn q ht]; exact z
        refine ⟨kst_on (by omega) z2, ?_⟩
        show _ = nI (cn _ j + (if (fun x => pE (S 0) x t) j = true then 1 else 0))
        rw [if_pos z2, nI_1]
      have of1 : ¬ EE (S 0) t j → (nI (kst (fun x => pE (S 0) t x) j) ||| 0 = nI (kst (fun x => pE (S 0) t x) (j + 1)) ∧ nI (cn (fun x => pE (S 0) t x) j) + 0 = nI (cn (fun x => pE (S 0) t x) (j + 1))) := fun z => by
        have z2 : ¬ (fun x => pE (S 0) t x) j = true := by show ¬ pE (S 0) t j = true; rw [pE_t hn ht q]; exact z
        refine ⟨by rw [Int32.or_zero]; exact kst_off z2, ?_⟩
        show _ = nI (cn _ j + (if (fun x => pE (S 0) t x) j = true then 1 else 0))
        rw [if_neg z2, Int32.add_zero, Nat.add_zero]
      have of2 : ¬ EE (S 0) j t → (nI (kst (fun x => pE (S 0) x t) j) ||| 0 = nI (kst (fun x => pE (S 0) x t) (j + 1)) ∧ nI (cn (fun x => pE (S 0) x t) j) + 0 = nI (cn (fun x => pE (S 0) x t) (j + 1))) := fun z => by
        have z2 : ¬ (fun x => pE (S 0) x t) j = true := by show ¬ pE (S 0) j t = true; rw [pE_t hn q ht]; exact z
        refine ⟨by rw [Int32.or_zero]; exact kst_off z2, ?_⟩
        show _ = nI (cn _ j + (if (fun x => pE (S 0) x t) j = true then 1 else 0))
        rw [if_neg z2, Int32.add_zero, Nat.add_zero]
      have nx := ih (j + 1) q (by omega)
      by_cases c1 : EE (S 0) t j
      · rw [if_neg (kF (h.isE0 ht q) c1), if_pos (edge_1 hn h2 ht q c1), if_pos (over_1 hn h2 ht q c1 x1 x2 y2), (on1 c1).1, (on1 c1).2]
        by_cases c2 : EE (S 0) j t
        · rw [if_neg (kF (h.isE0 q ht) c2), (on2 c2).1, (on2 c2).2]; exact nx
        · rw [if_pos (kT (h.isE0 q ht) c2), (of2 c2).1, (of2 c2).2]; exact nx
      · rw [if_pos (kT (h.isE0 ht q) c1), if_pos (edge_0 hn h2 ht q c1), if_pos (over_0 hn h2 ht q c1), (of1 c1).1, (of1 c1).2]
        by_cases c2 : EE (S 0) j t
        · rw [if_neg (kF (h.isE0 q ht) c2), (on2 c2).1, (on2 c2).2]; exact nx
        · rw [if_pos (kT (h.isE0 q ht) c2), (of2 c2).1, (of2 c2).2]; exact nx
    · rw [if_pos (nI_le q (by omega)), show j = n by omega]
/-- the reasons: told of the aborted ones alone -/
def RZ (n : Nat) (v : kG) : Prop := ∀ t, t < n → (v 1 t = 2 → v 6 t = 0 ∨ v 6 t = 1 ∨ v 6 t = 2) ∧ (¬ v 1 t = 2 → v 6 t = -6)
theorem tellK (h : LR n (S 0) (r 0)) (h2 : S 0 0 2 = nI n) (hi : RI n m b c (S 0)) (hB : RBs n b c (S 0) (r 0)) (hZ : RZ n (S 0)) {t : Nat} (ht : t < n) {a2 a3 a4 : Int32} (rec : Int32 → Int32 → Int32 → Nat → (Int32 × kS)) : mL_tells_K34 S r a2 a3 a4 t rec (nI (kst (fun x => pE (S 0) t x) n)) (nI (kst (fun x => pE (S 0) x t) n)) (nI (cn (fun x => pE (S 0) t x) n)) (nI (cn (fun x => pE (S 0) x t) n)) n = rec (a2 + nI (cn (fun x => pE (S 0) t x) n)) (a3 + nI (cn (fun x => pE (S 0) t x) n * cn (fun x => pE (S 0) x t) n)) (if pP (S 0) n t = true then a4 ||| (1 <<< (nI t &&& 31)) else a4) (t + 1) := by
  have hn := h.1
  obtain ⟨q1, q2, q3, q4⟩ := h.2.2 t ht
  obtain ⟨o0, o1, o2, o3, o4, o5, o6, o7, o8⟩ := of_0 (S := S) hn h2 ht
  have hs : mX2_snapshot (S 0) (nI t) = mL_safety r (nI t) := (snap_L hn h2 hi hB ht).uniq (safe_L h ht)
  have l1 := cn_le (fun x => pE (S 0) t x) n
  have l2 := cn_le (fun x => pE (S 0) x t) n
  have l3 : cn (fun x => pE (S 0) t x) n * cn (fun x => pE (S 0) x t) n ≤ 12 * 12 := Nat.mul_le_mul (by omega) (by omega)
  have hmul : ((nI (cn (fun x => pE (S 0) t x) n * cn (fun x => pE (S 0) x t) n)) ≤ 0) = ¬ pP (S 0) n t = true := by
    rw [show (0 : Int32) = nI 0 from rfl, nI_leI (by omega) (by omega)]
    unfold pP
    simp
  rw [mL_tells_K34_s]
  simp only [kmulI, rA12 (t := t) (by omega), rA24 (t := t) (by omega), rA36 (t := t) (by omega), rA0 (t := t) (by omega), o0, o1, o2, o3, o4, o5, o6, o7, o8, q1, q2, q3, hs, edgesFrom_k hn h2, edgesTo_k hn h2, if_true, Int32.or_zero]
  have ph := (hi.2.2.1 t ht).1
  have h6 := hZ t ht
  have h3 : ¬ S 0 1 t = 1 → S 0 3 t = -6 := fun z => (hi.2.2.1 t ht).2.2.2.2.2.1 z
  by_cases hp : pP (S 0) n t = true
  · rw [if_neg (kF hmul (by simpa using hp)), if_pos hp]
    rcases q4 with ⟨a, e⟩ | ⟨a, e, p⟩ | ⟨a, e⟩
    · have e6 := h6.2 (by rw [a]; decide)
      have e3 := h3 (by rw [a]; decide)
      simp [a, e, e6, e3]
    · have e6 := h6.2 (by rw [a]; decide)
      have p2 : (0 : Int32) ≤ S 0 3 t := by
        rw [← Int32.not_lt]; intro z; exact p (Int32.le_of_lt z)
      simp [a, e, e6, p, p2]
    · have e3 := h3 (by rw [a]; decide)
      rcases h6.1 a with e6 | e6 | e6 <;> simp [a, e, e6, e3]
  · rw [if_pos (kT hmul (by simpa using hp)), if_neg hp]
    rcases q4 with ⟨a, e⟩ | ⟨a, e, p⟩ | ⟨a, e⟩
    · have e6 := h6.2 (by rw [a]; decide)
      have e3 := h3 (by rw [a]; decide)
      simp [a, e, e6, e3]
    · have e6 := h6.2 (by rw [a]; decide)
      have p2 : (0 : Int32) ≤ S 0 3 t := by
        rw [← Int32.not_lt]; intro z; exact p (Int32.le_of_lt z)
      simp [a, e, e6, p, p2]
    · have e3 := h3 (by rw [a]; decide)
      rcases h6.1 a with e6 | e6 | e6 <;> simp [a, e, e6, e3]
theorem count_s (S : kS) : mX5_count S 0 = (S 0 0 2, S) ∧ mX5_count S 4 = (S 0 0 1, S) ∧ mX5_count S 6 = (mX2_edgeTotal (S 0), S) ∧ mX5_count S 7 = (mX2_pivots (S 0), S) ∧ mX5_count S 8 = (mX2_tripleTotal (S 0), S) := by
  refine ⟨?_, ?_, ?_, ?_, ?_⟩ <;> rw [mX5_count_s] <;> rfl
/-- all that is told of them is right -/
theorem tells_1 (h : LR n (S 0) (r 0)) (h2 : S 0 0 2 = nI n) (hi : RI n m b c (S 0)) (h48 : r 0 48 = nI m) (hB : RBs n b c (S 0) (r 0)) (hZ : RZ n (S 0)) : mL_tells S r = (1, S) := by
  have hn := h.1
  have key : ∀ f i, i ≤ n → n < f + i → mL_tells_L10 S r f (nI (sm (fun t => cn (fun j => pE (S 0) t j) n) i)) (nI (sm (fun t => cn (fun j => pE (S 0) t j) n * cn (fun j => pE (S 0) j t) n) i)) (nI (kst (fun t => pP (S 0) n t) i)) i = (1, S) := by
    intro f
    induction f with
    | zero => intro i h1 h3; omega
    | succ f ih =>
      intro i h1 h3
      rw [mL_tells_L10_s, h.2.1]
      rcases Nat.lt_or_ge i n with q | q
      · rw [if_neg (nI_ge q (by omega))]
        have e := tell34 h h2 hi q (a2 := nI (sm (fun t => cn (fun j => pE (S 0) t j) n) i)) (a3 := nI (sm (fun t => cn (fun j => pE (S 0) t j) n * cn (fun j => pE (S 0) j t) n) i)) (a4 := nI (kst (fun t => pP (S 0) n t) i)) (mL_tells_K34 S r (nI (sm (fun t => cn (fun j => pE (S 0) t j) n) i)) (nI (sm (fun t => cn (fun j => pE (S 0) t j) n * cn (fun j => pE (S 0) j t) n) i)) (nI (kst (fun t => pP (S 0) n t) i)) i (mL_tells_L10 S r f)) 13 0 (Nat.zero_le _) (by omega)
        refine Eq.trans e ?_
        rw [tellK h h2 hi hB hZ q, nI_add, nI_add]
        have ek : (if pP (S 0) n i = true then nI (kst (fun t => pP (S 0) n t) i) ||| (1 <<< (nI i &&& 31)) else nI (kst (fun t => pP (S 0) n t) i)) = nI (kst (fun t => pP (S 0) n t) (i + 1)) := by
          by_cases c : pP (S 0) n i = true
          · rw [if_pos c]; exact kst_on (by omega) c
          · rw [if_neg c]; exact kst_off c
        rw [ek]
        exact ih (i + 1) q (by omega)
      · obtain ⟨k0, k4, k6, k7, k8⟩ := count_s S
        rw [if_pos (nI_le q (by omega)), show i = n by omega]
        rw [k0]
        dsimp only
        rw [h2, if_pos rfl, k4]
        dsimp only
        rw [hi.1, h48, if_pos rfl, k6]
        dsimp only
        rw [edgeTotal_k hn h2, if_pos rfl, k7]
        dsimp only
        rw [pivots_k hn h2, if_pos rfl, k8]
        dsimp only
        rw [tripleTotal_k hn h2, if_pos rfl, mX5_of_s, if_pos (ex_0 h2 hn), if_pos rfl]
  rw [mL_tells_s]
  exact key 13 0 (Nat.zero_le _) (by omega)
end TELL
