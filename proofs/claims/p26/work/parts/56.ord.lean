/-! the order -/
def AG (F G : Nat → Int32) : Prop := ∀ j, j < 12 → F j = G j
def dp (F : Nat → Int32) (x y : Int32) : Nat → Int32 := if x < 0 then F else if y < 0 then F else if 12 ≤ y then F else if x = y then F else upd F y.toNatClampNeg ((F y.toNatClampNeg) ||| (1 <<< (x &&& 31)))
def cst (v : kG) (t k : Nat) (F : Nat → Int32) : Nat → Int32 :=
  if mX5_contains (v 4 t) (nI k) = 0 then (if mX5_contains (v 5 t) (nI k) = 0 then F else dp F (nI t) (mX2_writerBehind v (nI k) (v 3 t)))
  else dp (dp (if mX5_contains (v 5 t) (nI k) = 0 then F else dp F (nI t) (mX2_writerBehind v (nI k) (v 3 t))) (mX2_writerAhead v (nI k) (v 2 t)) (nI t)) (nI t) (mX2_writerBehind v (nI k) (v 2 t))
def keF (v : kG) (t : Nat) : Nat → (Nat → Int32) → Nat → Int32
  | 0, F => F
  | k + 1, F => cst v t k (keF v t k F)
def trF (v : kG) : Nat → (Nat → Int32) → Nat → Int32
  | 0, F => F
  | t + 1, F => if v 1 t = 1 then keF v t 16 (trF v t F) else trF v t F
theorem AG.dp_ {F G : Nat → Int32} (h : AG F G) (x y : Int32) : AG (dp F x y) (dp G x y) := by
  unfold dp
  by_cases c1 : x < 0
  · rw [if_pos c1, if_pos c1]; exact h
  · rw [if_neg c1, if_neg c1]
    by_cases c2 : y < 0
    · rw [if_pos c2, if_pos c2]; exact h
    · rw [if_neg c2, if_neg c2]
      by_cases c3 : 12 ≤ y
      · rw [if_pos c3, if_pos c3]; exact h
      · rw [if_neg c3, if_neg c3]
        by_cases c4 : x = y
        · rw [if_pos c4, if_pos c4]; exact h
        · rw [if_neg c4, if_neg c4]
          intro j hj
          by_cases q : j = y.toNatClampNeg
          · rw [← q, pk_us, pk_us, h j hj]
          · rw [pk_un q, pk_un q]; exact h j hj
theorem AG.cst_ {F G : Nat → Int32} (h : AG F G) (v : kG) (t k : Nat) : AG (cst v t k F) (cst v t k G) := by
  have h1 : AG (if mX5_contains (v 5 t) (nI k) = 0 then F else dp F (nI t) (mX2_writerBehind v (nI k) (v 3 t))) (if mX5_contains (v 5 t) (nI k) = 0 then G else dp G (nI t) (mX2_writerBehind v (nI k) (v 3 t))) := by
    by_cases c : mX5_contains (v 5 t) (nI k) = 0
    · rw [if_pos c, if_pos c]; exact h
    · rw [if_neg c, if_neg c]; exact h.dp_ _ _
  unfold cst
  by_cases c : mX5_contains (v 4 t) (nI k) = 0
  · rw [if_pos c, if_pos c]; exact h1
  · rw [if_neg c, if_neg c]; exact (h1.dp_ _ _).dp_ _ _
theorem AG.keF_ {F G : Nat → Int32} (h : AG F G) (v : kG) (t : Nat) : ∀ k, AG (keF v t k F) (keF v t k G) := by
  intro k
  induction k with
  | zero => exact h
  | succ k ih => exact ih.cst_ v t k
theorem AG.trF_ {F G : Nat → Int32} (h : AG F G) (v : kG) : ∀ t, AG (trF v t F) (trF v t G) := by
  intro t
  induction t with
  | zero => exact h
  | succ t ih =>
    unfold trF
    by_cases c : v 1 t = 1
    · rw [if_pos c, if_pos c]; exact ih.keF_ v t 16
    · rw [if_neg c, if_neg c]; exact ih
section A
variable {n m : Nat} {b c : Nat → Nat} {v u w : kG} {i j : Nat}
theorem dep_dp {F : Nat → Int32} {x y : Int32} : mX4_depend (rset w 1 F) v x y = dp F x y := by
  unfold mX4_depend dp
  rw [rset_eq]
theorem gok_cst {F : Nat → Int32} {t k : Nat} (ht : t < 12) : mX4_gatherOverKey (rset w 1 F) v (nI t) (nI k) = cst v t k F := by
  have e : ∀ G : Nat → Int32, rset (rset w 1 F) 1 G = rset w 1 G := fun G => by
    funext q; unfold rset; by_cases z : q = 1
    · rw [if_pos z, if_pos z]
    · rw [if_neg z, if_neg z, if_neg z]
  unfold mX4_gatherOverKey cst
  rw [nI_clamp (by omega)]
  by_cases c1 : mX5_contains (v 5 t) (nI k) = 0
  · rw [if_pos c1, if_pos c1]
    by_cases c2 : mX5_contains (v 4 t) (nI k) = 0
    · rw [if_pos c2, if_pos c2, rset_eq]
    · rw [if_neg c2, if_neg c2]; dsimp only; rw [e, dep_dp, dep_dp]
  · rw [if_neg c1, if_neg c1]
    by_cases c2 : mX5_contains (v 4 t) (nI k) = 0
    · rw [if_pos c2]; dsimp only; rw [if_pos c2, dep_dp]
    · rw [if_neg c2]; dsimp only; rw [if_neg c2, e, e, dep_dp, dep_dp, dep_dp]
theorem gath43 {t i2 i23 : Nat} {f2 f23 : Nat → Int32} (ht : t < 12) (ei : i23 = t) (kk : Nat → (Nat → Int32) → (Nat → Int32)) (F : Nat → Int32) : ∀ f i, i ≤ 16 → 16 < f + i → mX4_gather_L43 w v i2 f2 i23 f23 kk f i (keF v t i F) = kk 16 (keF v t 16 F) := by
  intro f
  induction f with
  | zero => intro i h1 h2; omega
  | succ f ih =>
    intro i h1 h2
    rw [mX4_gather_L43_s]
    rcases Nat.lt_or_ge i 16 with q | q
    · rw [if_neg (k16ge q)]
      dsimp only
      rw [ei, gok_cst ht]
      rw [ei] at ih
      exact ih (i + 1) q (by omega)
    · have e : i = 16 := by omega
      rw [if_pos (k16le q h1), e]
theorem gath23 (hn : n ≤ 12) (h2 : v 0 2 = nI n) {i2 : Nat} {f2 : Nat → Int32} (F : Nat → Int32) : ∀ f i, i ≤ n → n < f + i → mX4_gather_L23 w v i2 f2 f i (trF v i F) = trF v n F := by
  intro f
  induction f with
  | zero => intro i h1 h2; omega
  | succ f ih =>
    intro i h1 h3
    rw [mX4_gather_L23_s, h2]
    rcases Nat.lt_or_ge i n with q | q
    · rw [if_neg (nI_ge q (by omega)), nI_clamp (by omega)]
      have go := ih (i + 1) q (by omega)
      by_cases c : v 1 i = 1
      · rw [if_pos c]
        have e : keF v i 16 (trF v i F) = trF v (i + 1) F := by
          show _ = (if v 1 i = 1 then keF v i 16 (trF v i F) else trF v i F)
          rw [if_pos c]
        have g := gath43 (w := w) (v := v) (i2 := i2) (f2 := f2) (f23 := trF v i F) (show i < 12 by omega) rfl (mX4_gather_K43 w v i2 f2 i (trF v i F) (mX4_gather_L23 w v i2 f2 f)) (trF v i F) 17 0 (by omega) (by omega)
        refine g.trans ?_
        rw [e]
        exact go
      · rw [if_neg c]
        have e : trF v i F = trF v (i + 1) F := by
          show _ = (if v 1 i = 1 then keF v i 16 (trF v i F) else trF v i F)
          rw [if_neg c]
        rw [e]
        exact go
    · have e : i = n := by omega
      rw [if_pos (nI_le q (by omega)), e]
theorem gath2 (hn : n ≤ 12) (h2 : v 0 2 = nI n) : ∀ f i F, i ≤ 12 → 12 < f + i → (∀ j, j < i → F j = 0) → ∃ F', (∀ j, j < 12 → F' j = 0) ∧ mX4_gather_L2 w v f i F = trF v n F' := by
  intro f
  induction f with
  | zero => intro i F h1 h2; omega
  | succ f ih =>
    intro i F h1 h3 h4
    rw [mX4_gather_L2_s]
    rcases Nat.lt_or_ge i 12 with q | q
    · rw [if_neg (k12ge q), nI_clamp (by omega)]
      refine ih (i + 1) _ q (by omega) (fun j hj => ?_)
      by_cases z : j = i
      · rw [z, pk_us]
      · rw [pk_un z]; exact h4 j (by omega)
    · rw [if_pos (k12le q h1)]
      exact ⟨F, fun j hj => h4 j (by omega), gath23 hn h2 F 13 0 (Nat.zero_le _) (by omega)⟩
theorem gather_ok (hn : n ≤ 12) (h2 : v 0 2 = nI n) : ∃ F', (∀ j, j < 12 → F' j = 0) ∧ mX4_gather w v = trF v n F' := gath2 hn h2 13 0 _ (by omega) (by omega) (fun j hj => absurd hj (Nat.not_lt_zero j))
/-! the reference -/
def oT (x : Int32) : Prop := x = -6 ∨ ∃ j, j < 12 ∧ x = nI j
theorem WA_oT (hn : n ≤ 12) (h2 : v 0 2 = nI n) (hi : RI n m b c v) (key x : Int32) : oT (mX2_writerAhead v key x) := by
  rcases wAhead_spec hn h2 (fun t ht h1 => hi.pos ht h1) key x with ⟨z, _⟩ | ⟨j, hj, z, _⟩
  · exact Or.inl z
  · exact Or.inr ⟨j, by omega, z⟩
theorem WB_oT (hn : n ≤ 12) (h2 : v 0 2 = nI n) (hi : RI n m b c v) (key x : Int32) : oT (mX2_writerBehind v key x) := by
  rcases wBehind_spec hn h2 (fun t ht h1 => hi.le ht h1) key x with ⟨z, _⟩ | ⟨j, hj, z, _⟩
  · exact Or.inl z
  · exact Or.inr ⟨j, by omega, z⟩
/-! who is next -/
def FR (g : Nat → Int32) (s i : Nat) : Prop := s.testBit i = true ∧ (g i &&& nI s) = 0
def LF (g : Nat → Int32) (s : Nat) (r : Int32) : Prop := (r = -6 ∧ ∀ i, i < 12 → ¬ FR g s i) ∨ ∃ i, i < 12 ∧ r = nI i ∧ FR g s i ∧ ∀ j, j < i → ¬ FR g s j
theorem LF.uniq {g : Nat → Int32} {s : Nat} {r r' : Int32} (h : LF g s r) (h' : LF g s r') : r = r' := by
  rcases h with ⟨e, h⟩ | ⟨i, hi, e, h1, h2⟩
  · rcases h' with ⟨e', h'⟩ | ⟨j, hj, e', h1', h2'⟩
    · rw [e, e']
    · exact absurd h1' (h j hj)
  · rcases h' with ⟨e', h'⟩ | ⟨j, hj, e', h1', h2'⟩
    · exact absurd h1 (h' i hi)
    · rcases Nat.lt_trichotomy i j with z | z | z
      · exact absurd h1 (h2' i z)
      · rw [e, e', z]
      · exact absurd h1' (h2 j z)
theorem LF.AG {g g' : Nat → Int32} {s : Nat} {r : Int32} (hg : AG g g') (h : LF g s r) : LF g' s r := by
  have k : ∀ i, i < 12 → (FR g s i ↔ FR g' s i) := fun i hi => by unfold FR; rw [hg i hi]
  rcases h with ⟨e, h⟩ | ⟨i, hi, e, h1, h2⟩
  · exact Or.inl ⟨e, fun i hi => by rw [← k i hi]; exact h i hi⟩
  · exact Or.inr ⟨i, hi, e, (k i hi).mp h1, fun j hj => by rw [← k j (by omega)]; exact h2 j hj⟩
theorem low_L {s : Nat} (hs : s < 4096) : ∀ f i, i ≤ 12 → 12 < f + i → (∀ j, j < i → ¬ FR (w 1) s j) → LF (w 1) s (mX4_lowestFree_L2 w (nI s) f i) := by
  intro f
  induction f with
  | zero => intro i h1 h2; omega
  | succ f ih =>
    intro i h1 h2 h3
    rw [mX4_lowestFree_L2_s]
    rcases Nat.lt_or_ge i 12 with q | q
    · rw [if_neg (k12ge q), nI_clamp (by omega)]
      have skip : ¬ FR (w 1) s i → LF (w 1) s (mX4_lowestFree_L2 w (nI s) f (i + 1)) := fun y => ih (i + 1) q (by omega) (fun j hj => by
        rcases Nat.lt_or_ge j i with z | z
        · exact h3 j z
        · rw [show j = i by omega]; exact y)
      by_cases c1 : mX5_contains (nI s) (nI i) = 0
      · rw [if_pos c1]; rw [kct0 (by omega) (by omega)] at c1; exact skip (fun z => by rw [z.1] at c1; cases c1)
      · rw [if_neg c1]; rw [kct0 (by omega) (by omega)] at c1
        by_cases c2 : (w 1 i &&& nI s) = 0
        · rw [if_pos c2]; exact Or.inr ⟨i, q, rfl, ⟨by simpa using c1, c2⟩, h3⟩
        · rw [if_neg c2]; exact skip (fun z => c2 z.2)
    · rw [if_pos (k12le q h1)]
      exact Or.inl ⟨rfl, fun j hj => h3 j (by omega)⟩
theorem low_ok {s : Nat} (hs : s < 4096) : LF (w 1) s (mX4_lowestFree w (nI s)) := low_L hs 13 0 (by omega) (by omega) (fun j hj => absurd hj (Nat.not_lt_zero j))
theorem bit_kct {s i : Nat} (hs : s < 4096) (hi : i < 32) : (((nI s >>> (nI i &&& 31)) &&& 1) = 1) = (s.testBit i = true) := by
  rw [bitC, kct0 (by omega) hi]; simp
theorem next_L {τ : Type} {g : Nat → Int32} {s : Nat} (hs : s < 4096) (L : Nat → Int32 → Int32 → τ) (kk : Int32 → τ)
    (hL : ∀ f x y, L (f + 1) x y = if y < 0 then kk x else if ((nI s >>> (y &&& 31)) &&& 1) = 1 then (if (g y.toNatClampNeg &&& nI s) = 0 then L f y (y + (-1)) else L f x (y + (-1))) else L f x (y + (-1))) :
    ∀ f k x, k ≤ 12 → k < f → ((x = -6 ∧ ∀ i, k ≤ i → i < 12 → ¬ FR g s i) ∨ ∃ i, k ≤ i ∧ i < 12 ∧ x = nI i ∧ FR g s i ∧ ∀ j, k ≤ j → j < i → ¬ FR g s j) → ∃ r, LF g s r ∧ L f x (nI k - 1) = kk r := by
  intro f
  induction f with
  | zero => intro k x h1 h2; omega
  | succ f ih =>
    intro k x h1 h2 h3
    rw [hL]
    cases k with
    | zero =>
      rw [if_pos (by decide)]
      refine ⟨x, ?_, rfl⟩
      rcases h3 with ⟨e, h⟩ | ⟨i, _, hi, e, h4, h5⟩
      · exact Or.inl ⟨e, fun i hi => h i (Nat.zero_le _) hi⟩
      · exact Or.inr ⟨i, hi, e, h4, fun j hj => h5 j (Nat.zero_le _) hj⟩
    | succ k =>
      rw [nI_pred, if_neg (nI_pos (by omega)), nI_clamp (by omega)]
      have e2 : nI k + (-1) = nI k - 1 := by rw [Int32.sub_eq_add_neg]
      rw [e2]
      have skip : ¬ FR g s k → ∃ r, LF g s r ∧ L f x (nI k - 1) = kk r := by
        intro y
        refine ih k x (by omega) (by omega) ?_
        rcases h3 with ⟨e, h⟩ | ⟨i, hki, hi, e, h4, h5⟩
        · refine Or.inl ⟨e, fun i hi hi2 => ?_⟩
          rcases Nat.lt_or_ge k i with z | z
          · exact h i z hi2
          · rw [show i = k by omega]; exact y
        · refine Or.inr ⟨i, by omega, hi, e, h4, fun j hj hj2 => ?_⟩
          rcases Nat.lt_or_ge k j with z | z
          · exact h5 j z hj2
          · rw [show j = k by omega]; exact y
      by_cases c1 : ((nI s >>> (nI k &&& 31)) &&& 1) = 1
      · rw [if_pos c1]
        rw [bit_kct hs (by omega)] at c1
        by_cases c2 : (g k &&& nI s) = 0
        · rw [if_pos c2]
          exact ih k (nI k) (by omega) (by omega) (Or.inr ⟨k, Nat.le_refl _, by omega, rfl, ⟨c1, c2⟩, fun j hj hj2 => by omega⟩)
        · rw [if_neg c2]; exact skip (fun z => c2 z.2)
      · rw [if_neg c1]; rw [bit_kct hs (by omega)] at c1; exact skip (fun z => c1 z.1)
end A

