/-! sets as numbers; the loops that make them -/
def kst (P : Nat → Bool) : Nat → Nat
  | 0 => 0
  | n + 1 => kst P n ||| (if P n then 2 ^ n else 0)
theorem kst_bit (P : Nat → Bool) : ∀ n i, (kst P n).testBit i = (decide (i < n) && P i) := by
  intro n
  induction n with
  | zero => intro i; simp [kst]
  | succ n ih =>
    intro i
    show (kst P n ||| (if P n then 2 ^ n else 0)).testBit i = _
    rw [Nat.testBit_or, ih]
    by_cases hp : P n = true
    · rw [if_pos hp, Nat.testBit_two_pow]
      by_cases hi : n = i
      · subst hi; simp [hp]
      · have e1 : decide (n = i) = false := by simp [hi]
        rw [e1, Bool.or_false]
        have : decide (i < n) = decide (i < n + 1) := by
          apply decide_eq_decide.mpr; omega
        rw [this]
    · rw [if_neg hp, Nat.zero_testBit, Bool.or_false]
      by_cases hi : i = n
      · subst hi; simp at hp; simp [hp]
      · have : decide (i < n) = decide (i < n + 1) := by
          apply decide_eq_decide.mpr; omega
        rw [this]
theorem kst_lt (P : Nat → Bool) : ∀ n, kst P n < 2 ^ n := by
  intro n
  induction n with
  | zero => exact Nat.one_pos
  | succ n ih =>
    have h2 : 2 ^ n < 2 ^ (n + 1) := by rw [Nat.pow_succ]; have := Nat.two_pow_pos n; omega
    show (kst P n ||| (if P n then 2 ^ n else 0)) < _
    refine Nat.or_lt_two_pow (Nat.lt_trans ih h2) ?_
    split
    · exact h2
    · exact Nat.two_pow_pos _
theorem kst_lt12 (P : Nat → Bool) {n : Nat} (h : n ≤ 12) : kst P n < 4096 := Nat.lt_of_lt_of_le (kst_lt P n) (Nat.pow_le_pow_right (by decide) h)
theorem kst_congr {P Q : Nat → Bool} : ∀ n, (∀ i, i < n → P i = Q i) → kst P n = kst Q n := by
  intro n
  induction n with
  | zero => intro _; rfl
  | succ n ih =>
    intro h
    show (kst P n ||| (if P n then 2 ^ n else 0)) = (kst Q n ||| (if Q n then 2 ^ n else 0))
    rw [ih (fun i hi => h i (by omega)), h n (by omega)]
theorem kst_on {P : Nat → Bool} {i : Nat} (hi : i < 31) (h : P i = true) : nI (kst P i) ||| (1 <<< (nI i &&& 31)) = nI (kst P (i + 1)) := by
  rw [kshl i hi, fa_or]
  show _ = nI (kst P i ||| (if P i then 2 ^ i else 0))
  rw [if_pos h]
theorem kst_off {P : Nat → Bool} {i : Nat} (h : ¬ P i = true) : nI (kst P i) = nI (kst P (i + 1)) := by
  show _ = nI (kst P i ||| (if P i then 2 ^ i else 0))
  rw [if_neg h, Nat.or_zero]
theorem kst_loop {n : Nat} (hn : n ≤ 12) (P : Nat → Bool) (L : Nat → Int32 → Nat → Int32) (hs : ∀ f x i, i ≤ n → L (f + 1) x i = if n ≤ i then x else L f (if P i = true then x ||| (1 <<< (nI i &&& 31)) else x) (i + 1)) : L 13 0 0 = nI (kst P n) := by
  have key : ∀ f i, i ≤ n → n < f + i → L f (nI (kst P i)) i = nI (kst P n) := by
    intro f
    induction f with
    | zero => intro i h1 h2; omega
    | succ f ih =>
      intro i h1 h2
      rw [hs f _ i h1]
      rcases Nat.lt_or_ge i n with q | q
      · rw [if_neg (by omega)]
        by_cases c : P i = true
        · rw [if_pos c, kst_on (by omega) c]; exact ih (i + 1) q (by omega)
        · rw [if_neg c, kst_off c]; exact ih (i + 1) q (by omega)
      · have e : i = n := by omega
        rw [if_pos q, e]
  exact key 13 0 (Nat.zero_le _) (by omega)
theorem kLoopEq {σ τ : Type} {n : Nat} (st : Nat → σ → σ) (ex : σ → τ) (L L' : Nat → σ → Nat → τ) (hs : ∀ f x i, i ≤ n → L (f + 1) x i = if n ≤ i then ex x else L f (st i x) (i + 1)) (hs' : ∀ f x i, i ≤ n → L' (f + 1) x i = if n ≤ i then ex x else L' f (st i x) (i + 1)) : ∀ f i x, i ≤ n → n < f + i → L f x i = L' f x i := by
  intro f
  induction f with
  | zero => intro i x h1 h2; omega
  | succ f ih =>
    intro i x h1 h2
    rw [hs f x i h1, hs' f x i h1]
    rcases Nat.lt_or_ge i n with q | q
    · rw [if_neg (by omega), if_neg (by omega)]; exact ih (i + 1) _ q (by omega)
    · rw [if_pos q, if_pos q]
theorem knI_le {n i : Nat} (hn : n ≤ 12) (hi : i ≤ n) : (nI n ≤ nI i) = (n ≤ i) := propext (nI_leI (by omega) (by omega))
theorem kct {a k : Nat} (ha : a < 2 ^ 31) (hk : k < 32) : mX5_contains (nI a) (nI k) = if a.testBit k = true then 1 else 0 := by
  unfold mX5_contains
  rw [kshr ha hk, kand1 _ (by have := Nat.div_le_self a (2 ^ k); omega), Nat.testBit_eq_decide_div_mod_eq]
  rcases Nat.mod_two_eq_zero_or_one (a / 2 ^ k) with h | h
  · rw [h]; rfl
  · rw [h]; rfl
theorem kct0 {a k : Nat} (ha : a < 2 ^ 31) (hk : k < 32) : (mX5_contains (nI a) (nI k) = 0) = (a.testBit k = false) := by
  rw [kct ha hk]
  cases a.testBit k
  · simp
  · simp
theorem kctS {P : Nat → Bool} {n i : Nat} (hn : n ≤ 12) (hi : i < 32) : (mX5_contains (nI (kst P n)) (nI i) = 0) = ¬ (i < n ∧ P i = true) := by
  have := kst_lt12 P hn
  rw [kct0 (by omega) hi, kst_bit]
  simp only [Bool.and_eq_false_imp, decide_eq_true_eq]
  apply propext
  constructor
  · intro h ⟨h1, h2⟩; rw [h h1] at h2; cases h2
  · intro h h1
    cases e : P i
    · rfl
    · exact absurd ⟨h1, e⟩ h
theorem nI_eq0 {a : Nat} (h : a < 2 ^ 31) : (nI a = 0) = (a = 0) := propext (nI_eq (b := 0) h (by decide))
theorem kst_zero {P : Nat → Bool} {n : Nat} : kst P n = 0 ↔ ∀ i, i < n → P i = false := by
  constructor
  · intro h i hi
    have h2 := kst_bit P n i
    rw [h, Nat.zero_testBit] at h2
    cases e : P i
    · rfl
    · rw [e] at h2; simp [hi] at h2
  · intro h
    rw [kst_congr (Q := fun _ => false) n h]
    apply Nat.eq_of_testBit_eq
    intro i
    rw [kst_bit]; simp
def klo : Nat → Nat → Nat
  | 0, _ => 0
  | f + 1, n => if n % 2 = 1 then 0 else klo f (n / 2) + 1
theorem klo_eq : ∀ f n i, i < f → n.testBit i = true → (∀ j, j < i → n.testBit j = false) → klo f n = i := by
  intro f
  induction f with
  | zero => intro n i h; omega
  | succ f ih =>
    intro n i h1 h2 h3
    show (if n % 2 = 1 then 0 else klo f (n / 2) + 1) = i
    cases i with
    | zero =>
      rw [Nat.testBit_eq_decide_div_mod_eq] at h2
      have h4 : n / 2 ^ 0 % 2 = 1 := by simpa using h2
      rw [Nat.pow_zero, Nat.div_one] at h4
      rw [if_pos h4]
    | succ i =>
      have h4 := h3 0 (by omega)
      rw [Nat.testBit_eq_decide_div_mod_eq] at h4
      have h5 : ¬ n / 2 ^ 0 % 2 = 1 := by simpa using h4
      rw [Nat.pow_zero, Nat.div_one] at h5
      rw [if_neg h5, ih (n / 2) i (by omega) (by rw [← Nat.testBit_succ]; exact h2) (fun j hj => by rw [← Nat.testBit_succ]; exact h3 (j + 1) (by omega))]
theorem klo256 : ∀ a, a < 256 → ∀ b, b < 256 → 0 < 256 * a + b → ((256 * a + b) &&& (4294967296 - (256 * a + b))) = 2 ^ klo 16 (256 * a + b) := by decide +kernel
theorem klo_and (n : Nat) (h : n < 65536) (h0 : 0 < n) : (n &&& (4294967296 - n)) = 2 ^ klo 16 n := by
  have h2 := klo256 (n / 256) (by omega) (n % 256) (by omega)
  rw [Nat.div_add_mod n 256] at h2
  exact h2 h0
theorem knegI (n : Nat) (h : n < 65536) : -(nI n) = nI (4294967296 - n) := by
  apply Int32.toBitVec_inj.1
  show -(BitVec.ofNat 32 n) = BitVec.ofNat 32 (4294967296 - n)
  apply BitVec.eq_of_toNat_eq
  rw [BitVec.toNat_neg, BitVec.toNat_ofNat, BitVec.toNat_ofNat, Nat.mod_eq_of_lt (a := n) (by omega)]
