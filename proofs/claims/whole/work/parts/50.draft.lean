/-! sets as numbers; the loops that make them -/
def kst (P : Nat → Bool) : Nat → Nat
  | 0 => 0
  | n + 1 => kst P n ||| (if P n then 2 ^ n else 0)
theorem kst_bit (P : Nat → Bool) : ∀ n i, (kst P n).testBit i = (decide (i < n) && P i) := by
  intro n
  induction n with
  | zero => intro i; simp [kst]
  | succ n ih =>
    intro i
    show (kst P n ||| (if P n then 2 ^ n else 0)).testBit i = _
    rw [Nat.testBit_or, ih]
    by_cases hp : P n = true
    · rw [if_pos hp, Nat.testBit_two_pow]
      by_cases hi : n = i
      · subst hi; simp [hp]
      · have e1 : decide (n = i) = false := by simp [hi]
        rw [e1, Bool.or_false]
        have : decide (i < n) = decide (i < n + 1) := by
          apply decide_eq_decide.mpr; omega
        rw [this]
    · rw [if_neg hp, Nat.zero_testBit, Bool.or_false]
      by_cases hi : i = n
      · subst hi; simp at hp; simp [hp]
      · have : decide (i < n) = decide (i < n + 1) := by
          apply decide_eq_decide.mpr; omega
        rw [this]
theorem kst_lt (P : Nat → Bool) : ∀ n, kst P n < 2 ^ n := by
  intro n
  induction n with
  | zero => exact Nat.one_pos
  | succ n ih =>
    have h2 : 2 ^ n < 2 ^ (n + 1) := by rw [Nat.pow_succ]; have := Nat.two_pow_pos n; omega
    show (kst P n ||| (if P n then 2 ^ n else 0)) < _
    refine Nat.or_lt_two_pow (Nat.lt_trans ih h2) ?_
    split
    · exact h2
    · exact Nat.two_pow_pos _
theorem kst_lt12 (P : Nat → Bool) {n : Nat} (h : n ≤ 12) : kst P n < 4096 := Nat.lt_of_lt_of_le (kst_lt P n) (Nat.pow_le_pow_right (by decide) h)
theorem kst_congr {P Q : Nat → Bool} : ∀ n, (∀ i, i < n → P i = Q i) → kst P n = kst Q n := by
  intro n
  induction n with
  | zero => intro _; rfl
  | succ n ih =>
    intro h
    show (kst P n ||| (if P n then 2 ^ n else 0)) = (kst Q n ||| (if Q n then 2 ^ n else 0))
    rw [ih (fun i hi => h i (by omega)), h n (by omega)]
theorem kst_on {P : Nat → Bool} {i : Nat} (hi : i < 31) (h : P i = true) : nI (kst P i) ||| (1 <<< (nI i &&& 31)) = nI (kst P (i + 1)) := by
  rw [kshl i hi, fa_or]
  show _ = nI (kst P i ||| (if P i then 2 ^ i else 0))
  rw [if_pos h]
theorem kst_off {P : Nat → Bool} {i : Nat} (h : ¬ P i = true) : nI (kst P i) = nI (kst P (i + 1)) := by
  show _ = nI (kst P i ||| (if P i then 2 ^ i else 0))
  rw [if_neg h, Nat.or_zero]
theorem kst_loop {n : Nat} (hn : n ≤ 12) (P : Nat → Bool) (L : Nat → Int32 → Nat → Int32) (hs : ∀ f x i, i ≤ n → L (f + 1) x i = if n ≤ i then x else L f (if P i = true then x ||| (1 <<< (nI i &&& 31)) else x) (i + 1)) : L 13 0 0 = nI (kst P n) := by
  have key : ∀ f i, i ≤ n → n < f + i → L f (nI (kst P i)) i = nI (kst P n) := by
    intro f
    induction f with
    | zero => intro i h1 h2; omega
    | succ f ih =>
      intro i h1 h2
      rw [hs f _ i h1]
      rcases Nat.lt_or_ge i n with q | q
      · rw [if_neg (by omega)]
        by_cases c : P i = true
        · rw [if_pos c, kst_on (by omega) c]; exact ih (i + 1) q (by omega)
        · rw [if_neg c, kst_off c]; exact ih (i + 1) q (by omega)
      · have e : i = n := by omega
        rw [if_pos q, e]
  exact key 13 0 (Nat.zero_le _) (by omega)
/-- two loops of one step are one -/
theorem kLoopEq {σ τ : Type} {n : Nat} (st : Nat → σ → σ) (ex : σ → τ) (L L' : Nat → σ → Nat → τ) (hs : ∀ f x i, i ≤ n → L (f + 1) x i = if n ≤ i then ex x else L f (st i x) (i + 1)) (hs' : ∀ f x i, i ≤ n → L' (f + 1) x i = if n ≤ i then ex x else L' f (st i x) (i + 1)) : ∀ f i x, i ≤ n → n < f + i → L f x i = L' f x i := by
  intro f
  induction f with
  | zero => intro i x h1 h2; omega
  | succ f ih =>
    intro i x h1 h2
    rw [hs f x i h1, hs' f x i h1]
    rcases Nat.lt_or_ge i n with q | q
    · rw [if_neg (by omega), if_neg (by omega)]; exact ih (i + 1) _ q (by omega)
    · rw [if_pos q, if_pos q]
theorem knI_le {n i : Nat} (hn : n ≤ 12) (hi : i ≤ n) : (nI n ≤ nI i) = (n ≤ i) := propext (nI_leI (by omega) (by omega))
theorem kct {a k : Nat} (ha : a < 2 ^ 31) (hk : k < 32) : mX5_contains (nI a) (nI k) = if a.testBit k = true then 1 else 0 := by
  unfold mX5_contains
  rw [kshr ha hk, kand1 _ (by have := Nat.div_le_self a (2 ^ k); omega), Nat.testBit_eq_decide_div_mod_eq]
  rcases Nat.mod_two_eq_zero_or_one (a / 2 ^ k) with h | h
  · rw [h]; rfl
  · rw [h]; rfl
theorem kct0 {a k : Nat} (ha : a < 2 ^ 31) (hk : k < 32) : (mX5_contains (nI a) (nI k) = 0) = (a.testBit k = false) := by
  rw [kct ha hk]
  cases a.testBit k
  · simp
  · simp
theorem kctS {P : Nat → Bool} {n i : Nat} (hn : n ≤ 12) (hi : i < 32) : (mX5_contains (nI (kst P n)) (nI i) = 0) = ¬ (i < n ∧ P i = true) := by
  have := kst_lt12 P hn
  rw [kct0 (by omega) hi, kst_bit]
  simp only [Bool.and_eq_false_imp, decide_eq_true_eq]
  apply propext
  constructor
  · intro h ⟨h1, h2⟩; rw [h h1] at h2; cases h2
  · intro h h1
    cases e : P i
    · rfl
    · exact absurd ⟨h1, e⟩ h
theorem nI_eq0 {a : Nat} (h : a < 2 ^ 31) : (nI a = 0) = (a = 0) := propext (nI_eq (b := 0) h (by decide))
theorem kst_zero {P : Nat → Bool} {n : Nat} : kst P n = 0 ↔ ∀ i, i < n → P i = false := by
  constructor
  · intro h i hi
    have h2 := kst_bit P n i
    rw [h, Nat.zero_testBit] at h2
    cases e : P i
    · rfl
    · rw [e] at h2; simp [hi] at h2
  · intro h
    rw [kst_congr (Q := fun _ => false) n h]
    apply Nat.eq_of_testBit_eq
    intro i
    rw [kst_bit]; simp
/-- the bits of a set, counted -/
theorem kpop16 : ∀ k n, n < 2 ^ k → kpop (k + 4) n = kpop k n := by
  intro k
  induction k with
  | zero => intro n h; have : n = 0 := by simpa using h
            subst this; rfl
  | succ k ih =>
    intro n h
    rw [Nat.pow_succ] at h
    show kpop (k + 4) (n / 2) + n % 2 = kpop k (n / 2) + n % 2
    rw [ih (n / 2) (by omega)]
theorem bits_L {y : Int32} : ∀ (f i : Nat) (n : Nat), n < 65536 → kpop 16 n < f → mX6_bits_L4 y f i (nI n) = nI (i + kpop 16 n) := by
  intro f
  induction f with
  | zero => intro i n h1 h2; omega
  | succ f ih =>
    intro i n h1 h2
    rw [mX6_bits_L4_s]
    cases n with
    | zero => rw [if_pos rfl, kpop0]; rfl
    | succ n =>
      rw [if_neg (nI_ne0 (by omega) (by omega)), nI_pred, kandI]
      have h4 := kpop_low 16 (n + 1) (by omega) (by omega)
      rw [Nat.add_sub_cancel] at h4
      rw [ih (i + 1) _ (Nat.lt_of_le_of_lt Nat.and_le_left h1) (by omega)]
      congr 1
      omega
theorem bits_pop {n : Nat} (h : n < 65536) : mX6_bits (nI n) = nI (kpop 16 n) := by
  unfold mX6_bits
  rw [bits_L 17 0 n h (by have := kpop_le 16 n; omega), Nat.zero_add]
theorem bits_bc {n : Nat} (h : n < 4096) : mX6_bits (nI n) = mJ6_bitCount_0f7a4 (nI n) := by
  rw [bits_pop (by omega), kbc n h, kpop16 12 n h]
/-- the lowest bit -/
def klo : Nat → Nat → Nat
  | 0, _ => 0
  | f + 1, n => if n % 2 = 1 then 0 else klo f (n / 2) + 1
theorem klo_eq : ∀ f n i, i < f → n.testBit i = true → (∀ j, j < i → n.testBit j = false) → klo f n = i := by
  intro f
  induction f with
  | zero => intro n i h; omega
  | succ f ih =>
    intro n i h1 h2 h3
    show (if n % 2 = 1 then 0 else klo f (n / 2) + 1) = i
    cases i with
    | zero =>
      rw [Nat.testBit_eq_decide_div_mod_eq] at h2
      have h4 : n / 2 ^ 0 % 2 = 1 := by simpa using h2
      rw [Nat.pow_zero, Nat.div_one] at h4
      rw [if_pos h4]
    | succ i =>
      have h4 := h3 0 (by omega)
      rw [Nat.testBit_eq_decide_div_mod_eq] at h4
      have h5 : ¬ n / 2 ^ 0 % 2 = 1 := by simpa using h4
      rw [Nat.pow_zero, Nat.div_one] at h5
      rw [if_neg h5, ih (n / 2) i (by omega) (by rw [← Nat.testBit_succ]; exact h2) (fun j hj => by rw [← Nat.testBit_succ]; exact h3 (j + 1) (by omega))]
theorem klo256 : ∀ a, a < 256 → ∀ b, b < 256 → 0 < 256 * a + b → ((256 * a + b) &&& (4294967296 - (256 * a + b))) = 2 ^ klo 16 (256 * a + b) := by decide +kernel
theorem klo_and (n : Nat) (h : n < 65536) (h0 : 0 < n) : (n &&& (4294967296 - n)) = 2 ^ klo 16 n := by
  have h2 := klo256 (n / 256) (by omega) (n % 256) (by omega)
  rw [Nat.div_add_mod n 256] at h2
  exact h2 h0
theorem kpop_ones : ∀ i, i < 16 → mX6_bits (nI (2 ^ i) - 1) = nI i := by decide +kernel
theorem knegI (n : Nat) (h : n < 65536) : -(nI n) = nI (4294967296 - n) := by
  apply Int32.toBitVec_inj.1
  show -(BitVec.ofNat 32 n) = BitVec.ofNat 32 (4294967296 - n)
  apply BitVec.eq_of_toNat_eq
  rw [BitVec.toNat_neg, BitVec.toNat_ofNat, BitVec.toNat_ofNat, Nat.mod_eq_of_lt (a := n) (by omega)]
theorem klow_bits {n i : Nat} (h : n < 65536) (hi : i < 16) (h1 : n.testBit i = true) (h2 : ∀ j, j < i → n.testBit j = false) : mX6_bits ((nI n &&& -(nI n)) - 1) = nI i := by
  have h0 : 0 < n := Nat.pos_of_ne_zero (fun q => by rw [q, Nat.zero_testBit] at h1; cases h1)
  rw [knegI n h, kandI, klo_and n h h0, klo_eq 16 n i hi h1 h2]
  exact kpop_ones i hi
/-! the ledger and the reference's row of numbers; who writes ahead of and behind a moment -/
def RE (n : Nat) (v : kG) (z : Nat → Int32) : Prop := n ≤ 12 ∧ v 0 2 = nI n ∧ z 2 = nI n ∧ ∀ t, t < n → z (3 + 23 * t + 0) = v 1 t ∧ z (3 + 23 * t + 1) = v 2 t ∧ z (3 + 23 * t + 2) = v 3 t ∧ z (3 + 23 * t + 3) = v 4 t ∧ z (3 + 23 * t + 4) = v 5 t ∧ z (3 + 23 * t + 5) = v 6 t
/-- what holds of the ledger alone: n transactions, m moments, t begun at b t, committed at c t -/
def RI (n m : Nat) (b c : Nat → Nat) (v : kG) : Prop := v 0 1 = nI m ∧ m < 2 ^ 30 ∧
  (∀ t, t < n → (v 1 t = 0 ∨ v 1 t = 1 ∨ v 1 t = 2) ∧ v 2 t = nI (b t) ∧ 1 ≤ b t ∧ b t ≤ m ∧ (v 1 t = 1 → v 3 t = nI (c t) ∧ b t < c t ∧ c t ≤ m) ∧ (¬ v 1 t = 1 → v 3 t = -6) ∧ (∃ a, a < 65536 ∧ v 4 t = nI a) ∧ (∃ a, a < 65536 ∧ v 5 t = nI a)) ∧
  (∀ t u, t < u → u < n → b t < b u) ∧ (∀ t u, t < n → u < n → v 1 t = 1 → v 1 u = 1 → t ≠ u → c t ≠ c u) ∧ (∀ t u, t < n → u < n → v 1 t = 1 → c t ≠ b u)
theorem nI_ne6 {j : Nat} (h : j < 2 ^ 31) : ¬ nI j = -6 := by
  intro q
  have h2 := congrArg Int32.toInt q
  rw [nI_toInt h] at h2
  have h3 : ((-6 : Int32)).toInt = -6 := rfl
  rw [h3] at h2
  omega
theorem ne6_nI {j : Nat} (h : j < 2 ^ 31) : ¬ (-6 : Int32) = nI j := fun q => nI_ne6 h q.symm
section A
variable {n m : Nat} {b c : Nat → Nat} {v u : kG} {i j : Nat}
theorem its_at (hi : i < 12) (hj : j < 23) : mX6_its u (nI i) (nI j) = u 1 (3 + 23 * i + j) := by unfold mX6_its; rw [itsNat hi hj]
theorem RE.its0 (h : RE n v (u 1)) (hi : i < n) : mX6_its u (nI i) 0 = v 1 i := (its_at (j := 0) (by have := h.1; omega) (by omega)).trans (h.2.2.2 i hi).1
theorem RE.its1 (h : RE n v (u 1)) (hi : i < n) : mX6_its u (nI i) 1 = v 2 i := (its_at (j := 1) (by have := h.1; omega) (by omega)).trans (h.2.2.2 i hi).2.1
theorem RE.its2 (h : RE n v (u 1)) (hi : i < n) : mX6_its u (nI i) 2 = v 3 i := (its_at (j := 2) (by have := h.1; omega) (by omega)).trans (h.2.2.2 i hi).2.2.1
theorem RE.its3 (h : RE n v (u 1)) (hi : i < n) : mX6_its u (nI i) 3 = v 4 i := (its_at (j := 3) (by have := h.1; omega) (by omega)).trans (h.2.2.2 i hi).2.2.2.1
theorem RE.its4 (h : RE n v (u 1)) (hi : i < n) : mX6_its u (nI i) 4 = v 5 i := (its_at (j := 4) (by have := h.1; omega) (by omega)).trans (h.2.2.2 i hi).2.2.2.2.1
theorem RE.its5 (h : RE n v (u 1)) (hi : i < n) : mX6_its u (nI i) 5 = v 6 i := (its_at (j := 5) (by have := h.1; omega) (by omega)).trans (h.2.2.2 i hi).2.2.2.2.2
theorem RE.in0 (h : RE n v (u 1)) (hi : i < n) {x : Int32} : (mX6_isIn u (nI i) x = 0) = ¬ v 1 i = x := by
  unfold mX6_isIn
  rw [h.its0 hi]
  by_cases q : v 1 i = x
  · rw [if_pos q]; simp [q]
  · rw [if_neg q]; simp [q]
theorem RE.wrote (h : RE n v (u 1)) (hi : i < n) {x : Int32} : mX6_wrote u (nI i) x = mX5_contains (v 5 i) x := by
  unfold mX6_wrote
  rw [h.its4 hi]; rfl
theorem RE.cl (h : RE n v (u 1)) (hi : i < n) : (nI i).toNatClampNeg = i := nI_clamp (by have := h.1; omega)
theorem RI.pos (h : RI n m b c v) (hi : i < n) (h1 : v 1 i = 1) : ¬ v 3 i ≤ 0 := by
  obtain ⟨q1, q2, q3⟩ := (h.2.2.1 i hi).2.2.2.2.1 h1
  have := h.2.1
  rw [q1]; exact nI_nle (by omega) (by omega)
theorem RI.le (h : RI n m b c v) (hi : i < n) (h1 : v 1 i = 1) : ¬ v 0 1 + 1 ≤ v 3 i := by
  obtain ⟨q1, q2, q3⟩ := (h.2.2.1 i hi).2.2.2.2.1 h1
  have := h.2.1
  rw [q1, h.1, nI_1]; exact nI_ge (by omega) (by omega)
theorem RI.wr (h : RI n m b c v) (hi : i < n) : ∃ a, a < 65536 ∧ v 5 i = nI a := (h.2.2.1 i hi).2.2.2.2.2.2.2
theorem RI.rd (h : RI n m b c v) (hi : i < n) : ∃ a, a < 65536 ∧ v 4 i = nI a := (h.2.2.1 i hi).2.2.2.2.2.2.1
theorem RI.bg (h : RI n m b c v) (hi : i < n) : v 2 i = nI (b i) ∧ 1 ≤ b i ∧ b i ≤ m := ⟨(h.2.2.1 i hi).2.1, (h.2.2.1 i hi).2.2.1, (h.2.2.1 i hi).2.2.2.1⟩
theorem RI.cm (h : RI n m b c v) (hi : i < n) (h1 : v 1 i = 1) : v 3 i = nI (c i) ∧ b i < c i ∧ c i ≤ m := (h.2.2.1 i hi).2.2.2.2.1 h1
/-- the two that look for the writer ahead -/
theorem wAhead_L (h : RE n v (u 1)) (hi : RI n m b c v) (key x : Int32) : ∀ f i w la, i ≤ n → n < f + i → (w = -6 ∧ la = 0 ∨ ∃ j, j < n ∧ w = nI j ∧ v 1 j = 1 ∧ la = v 3 j) → mX2_writerAhead_L9 v key x f w la i = mX6_writerAhead_L6 u key x f w i := by
  intro f
  induction f with
  | zero => intro i w la h1 h2 _; omega
  | succ f ih =>
    intro i w la h1 h2 hw
    rw [mX2_writerAhead_L9_s, mX6_writerAhead_L6_s, h.2.1, h.2.2.1]
    have hn := h.1
    rcases Nat.lt_or_ge i n with q | q
    · rw [if_neg (nI_ge q (by omega)), if_neg (nI_ge q (by omega)), h.cl q]
      by_cases c1 : v 1 i = 1
      · rw [if_pos c1, if_neg (by rw [h.in0 q]; exact fun z => z c1), h.wrote q]
        by_cases c2 : mX5_contains (v 5 i) key = 0
        · rw [if_pos c2, if_pos c2]; exact ih _ _ _ q (by omega) hw
        · rw [if_neg c2, if_neg c2, h.its2 q]
          by_cases c3 : x ≤ v 3 i
          · rw [if_pos c3, if_pos c3]; exact ih _ _ _ q (by omega) hw
          · rw [if_neg c3, if_neg c3]
            rcases hw with ⟨rfl, rfl⟩ | ⟨j, hj, rfl, hj1, rfl⟩
            · rw [if_neg (hi.pos q c1), if_pos rfl]; exact ih _ _ _ q (by omega) (Or.inr ⟨i, q, rfl, c1, rfl⟩)
            · rw [if_neg (nI_ne6 (by omega)), h.its2 hj]
              by_cases c4 : v 3 i ≤ v 3 j
              · rw [if_pos c4, if_pos c4]; exact ih _ _ _ q (by omega) (Or.inr ⟨j, hj, rfl, hj1, rfl⟩)
              · rw [if_neg c4, if_neg c4]; exact ih _ _ _ q (by omega) (Or.inr ⟨i, q, rfl, c1, rfl⟩)
      · rw [if_neg c1, if_pos (by rw [h.in0 q]; exact c1)]; exact ih _ _ _ q (by omega) hw
    · rw [if_pos (nI_le q (by omega)), if_pos (nI_le q (by omega))]
theorem wAhead_eq (h : RE n v (u 1)) (hi : RI n m b c v) (key x : Int32) : mX2_writerAhead v key x = mX6_writerAhead u key x := wAhead_L h hi key x 13 0 _ _ (Nat.zero_le _) (by have := h.1; omega) (Or.inl ⟨rfl, rfl⟩)
theorem wBehind_L (h : RE n v (u 1)) (hi : RI n m b c v) (key x : Int32) : ∀ f i w la, i ≤ n → n < f + i → (w = -6 ∧ la = v 0 1 + 1 ∨ ∃ j, j < n ∧ w = nI j ∧ v 1 j = 1 ∧ la = v 3 j) → mX2_writerBehind_L14 v key x f w la i = mX6_writerBehind_L6 u key x f w i := by
  intro f
  induction f with
  | zero => intro i w la h1 h2 _; omega
  | succ f ih =>
    intro i w la h1 h2 hw
    rw [mX2_writerBehind_L14_s, mX6_writerBehind_L6_s, h.2.1, h.2.2.1]
    have hn := h.1
    rcases Nat.lt_or_ge i n with q | q
    · rw [if_neg (nI_ge q (by omega)), if_neg (nI_ge q (by omega)), h.cl q]
      by_cases c1 : v 1 i = 1
      · rw [if_pos c1, if_neg (by rw [h.in0 q]; exact fun z => z c1), h.wrote q]
        by_cases c2 : mX5_contains (v 5 i) key = 0
        · rw [if_pos c2, if_pos c2]; exact ih _ _ _ q (by omega) hw
        · rw [if_neg c2, if_neg c2, h.its2 q]
          by_cases c3 : v 3 i ≤ x
          · rw [if_pos c3, if_pos c3]; exact ih _ _ _ q (by omega) hw
          · rw [if_neg c3, if_neg c3]
            rcases hw with ⟨rfl, rfl⟩ | ⟨j, hj, rfl, hj1, rfl⟩
            · rw [if_neg (hi.le q c1), if_pos rfl]; exact ih _ _ _ q (by omega) (Or.inr ⟨i, q, rfl, c1, rfl⟩)
            · rw [if_neg (nI_ne6 (by omega)), h.its2 hj]
              by_cases c4 : v 3 j ≤ v 3 i
              · rw [if_pos c4, if_pos c4]; exact ih _ _ _ q (by omega) (Or.inr ⟨j, hj, rfl, hj1, rfl⟩)
              · rw [if_neg c4, if_neg c4]; exact ih _ _ _ q (by omega) (Or.inr ⟨i, q, rfl, c1, rfl⟩)
      · rw [if_neg c1, if_pos (by rw [h.in0 q]; exact c1)]; exact ih _ _ _ q (by omega) hw
    · rw [if_pos (nI_le q (by omega)), if_pos (nI_le q (by omega))]
theorem wBehind_eq (h : RE n v (u 1)) (hi : RI n m b c v) (key x : Int32) : mX2_writerBehind v key x = mX6_writerBehind u key x := wBehind_L h hi key x 13 0 _ _ (Nat.zero_le _) (by have := h.1; omega) (Or.inl ⟨rfl, rfl⟩)
/-- what they answer -/
def eA (v : kG) (key x : Int32) (t : Nat) : Prop := v 1 t = 1 ∧ ¬ mX5_contains (v 5 t) key = 0 ∧ ¬ x ≤ v 3 t
def eB (v : kG) (key x : Int32) (t : Nat) : Prop := v 1 t = 1 ∧ ¬ mX5_contains (v 5 t) key = 0 ∧ ¬ v 3 t ≤ x
theorem kle_lt {x y : Int32} (h : ¬ x ≤ y) : y ≤ x := Int32.le_of_lt (Int32.not_le.mp h)
theorem wAhead_sL (hn : n ≤ 12) (h2 : v 0 2 = nI n) (hp : ∀ t, t < n → v 1 t = 1 → ¬ v 3 t ≤ 0) (key x : Int32) : ∀ f i w la, i ≤ n → n < f + i → (w = -6 ∧ la = 0 ∧ (∀ t, t < i → ¬ eA v key x t) ∨ ∃ j, j < i ∧ w = nI j ∧ la = v 3 j ∧ eA v key x j ∧ ∀ t, t < i → eA v key x t → v 3 t ≤ v 3 j) →
    (mX2_writerAhead_L9 v key x f w la i = -6 ∧ (∀ t, t < n → ¬ eA v key x t)) ∨ ∃ j, j < n ∧ mX2_writerAhead_L9 v key x f w la i = nI j ∧ eA v key x j ∧ ∀ t, t < n → eA v key x t → v 3 t ≤ v 3 j := by
  intro f
  induction f with
  | zero => intro i w la h1 h2 _; omega
  | succ f ih =>
    intro i w la h1 h3 hw
    rw [mX2_writerAhead_L9_s, h2]
    rcases Nat.lt_or_ge i n with q | q
    · have skip : ¬ eA v key x i → (w = -6 ∧ la = 0 ∧ (∀ t, t < i + 1 → ¬ eA v key x t) ∨ ∃ j, j < i + 1 ∧ w = nI j ∧ la = v 3 j ∧ eA v key x j ∧ ∀ t, t < i + 1 → eA v key x t → v 3 t ≤ v 3 j) := by
        intro hne
        rcases hw with ⟨r1, r2, r3⟩ | ⟨j, r1, r2, r3, r4, r5⟩
        · refine Or.inl ⟨r1, r2, fun t ht => ?_⟩
          rcases Nat.lt_or_ge t i with z | z
          · exact r3 t z
          · rw [show t = i by omega]; exact hne
        · refine Or.inr ⟨j, by omega, r2, r3, r4, fun t ht he => ?_⟩
          rcases Nat.lt_or_ge t i with z | z
          · exact r5 t z he
          · rw [show t = i by omega] at he; exact absurd he hne
      rw [if_neg (nI_ge q (by omega)), nI_clamp (by omega)]
      by_cases c1 : v 1 i = 1
      · rw [if_pos c1]
        by_cases c2 : mX5_contains (v 5 i) key = 0
        · rw [if_pos c2]; exact ih _ _ _ q (by omega) (skip (fun z => z.2.1 c2))
        · rw [if_neg c2]
          by_cases c3 : x ≤ v 3 i
          · rw [if_pos c3]; exact ih _ _ _ q (by omega) (skip (fun z => z.2.2 c3))
          · rw [if_neg c3]
            have he : eA v key x i := ⟨c1, c2, c3⟩
            by_cases c4 : v 3 i ≤ la
            · rw [if_pos c4]
              refine ih _ _ _ q (by omega) ?_
              rcases hw with ⟨r1, rfl, r3⟩ | ⟨j, r1, r2, rfl, r4, r5⟩
              · exact absurd c4 (hp i q c1)
              · refine Or.inr ⟨j, by omega, r2, rfl, r4, fun t ht he => ?_⟩
                rcases Nat.lt_or_ge t i with z | z
                · exact r5 t z he
                · rw [show t = i by omega]; exact c4
            · rw [if_neg c4]
              refine ih _ _ _ q (by omega) (Or.inr ⟨i, by omega, rfl, rfl, he, fun t ht he2 => ?_⟩)
              rcases Nat.lt_or_ge t i with z | z
              · rcases hw with ⟨r1, r2, r3⟩ | ⟨j, r1, r2, rfl, r4, r5⟩
                · exact absurd he2 (r3 t z)
                · exact Int32.le_trans (r5 t z he2) (kle_lt c4)
              · rw [show t = i by omega]; exact Int32.le_refl _
      · rw [if_neg c1]; exact ih _ _ _ q (by omega) (skip (fun z => c1 z.1))
    · have e : i = n := by omega
      rw [if_pos (nI_le q (by omega))]
      rw [e] at hw
      rcases hw with ⟨r1, r2, r3⟩ | ⟨j, r1, r2, r3, r4, r5⟩
      · exact Or.inl ⟨r1, r3⟩
      · exact Or.inr ⟨j, r1, r2, r4, r5⟩
theorem wAhead_spec (hn : n ≤ 12) (h2 : v 0 2 = nI n) (hp : ∀ t, t < n → v 1 t = 1 → ¬ v 3 t ≤ 0) (key x : Int32) : (mX2_writerAhead v key x = -6 ∧ (∀ t, t < n → ¬ eA v key x t)) ∨ ∃ j, j < n ∧ mX2_writerAhead v key x = nI j ∧ eA v key x j ∧ ∀ t, t < n → eA v key x t → v 3 t ≤ v 3 j :=
  wAhead_sL hn h2 hp key x 13 0 (-6) 0 (Nat.zero_le _) (by omega) (Or.inl ⟨rfl, rfl, fun t ht => absurd ht (Nat.not_lt_zero t)⟩)
theorem wBehind_sL (hn : n ≤ 12) (h2 : v 0 2 = nI n) (hp : ∀ t, t < n → v 1 t = 1 → ¬ v 0 1 + 1 ≤ v 3 t) (key x : Int32) : ∀ f i w la, i ≤ n → n < f + i → (w = -6 ∧ la = v 0 1 + 1 ∧ (∀ t, t < i → ¬ eB v key x t) ∨ ∃ j, j < i ∧ w = nI j ∧ eB v key x j) →
    (mX2_writerBehind_L14 v key x f w la i = -6 ∧ (∀ t, t < n → ¬ eB v key x t)) ∨ ∃ j, j < n ∧ mX2_writerBehind_L14 v key x f w la i = nI j ∧ eB v key x j := by
  intro f
  induction f with
  | zero => intro i w la h1 h2 _; omega
  | succ f ih =>
    intro i w la h1 h3 hw
    rw [mX2_writerBehind_L14_s, h2]
    rcases Nat.lt_or_ge i n with q | q
    · have skip : (¬ eB v key x i ∨ ¬ la = v 0 1 + 1 ∨ ¬ w = -6) → (w = -6 ∧ la = v 0 1 + 1 ∧ (∀ t, t < i + 1 → ¬ eB v key x t) ∨ ∃ j, j < i + 1 ∧ w = nI j ∧ eB v key x j) := by
        intro hne
        rcases hw with ⟨r1, r2, r3⟩ | ⟨j, r1, r2, r4⟩
        · refine Or.inl ⟨r1, r2, fun t ht => ?_⟩
          rcases Nat.lt_or_ge t i with z | z
          · exact r3 t z
          · rw [show t = i by omega]
            rcases hne with y | y | y
            · exact y
            · exact absurd r2 y
            · exact absurd r1 y
        · exact Or.inr ⟨j, by omega, r2, r4⟩
      rw [if_neg (nI_ge q (by omega)), nI_clamp (by omega)]
      by_cases c1 : v 1 i = 1
      · rw [if_pos c1]
        by_cases c2 : mX5_contains (v 5 i) key = 0
        · rw [if_pos c2]; exact ih _ _ _ q (by omega) (skip (Or.inl fun z => z.2.1 c2))
        · rw [if_neg c2]
          by_cases c3 : v 3 i ≤ x
          · rw [if_pos c3]; exact ih _ _ _ q (by omega) (skip (Or.inl fun z => z.2.2 c3))
          · rw [if_neg c3]
            by_cases c4 : la ≤ v 3 i
            · rw [if_pos c4]
              refine ih _ _ _ q (by omega) (skip (Or.inr (Or.inl fun z => hp i q c1 (by rw [← z]; exact c4))))
            · rw [if_neg c4]
              exact ih _ _ _ q (by omega) (Or.inr ⟨i, by omega, rfl, ⟨c1, c2, c3⟩⟩)
      · rw [if_neg c1]; exact ih _ _ _ q (by omega) (skip (Or.inl fun z => c1 z.1))
    · have e : i = n := by omega
      rw [if_pos (nI_le q (by omega))]
      rw [e] at hw
      rcases hw with ⟨r1, r2, r3⟩ | ⟨j, r1, r2, r4⟩
      · exact Or.inl ⟨r1, r3⟩
      · exact Or.inr ⟨j, r1, r2, r4⟩
theorem wBehind_spec (hn : n ≤ 12) (h2 : v 0 2 = nI n) (hp : ∀ t, t < n → v 1 t = 1 → ¬ v 0 1 + 1 ≤ v 3 t) (key x : Int32) : (mX2_writerBehind v key x = -6 ∧ (∀ t, t < n → ¬ eB v key x t)) ∨ ∃ j, j < n ∧ mX2_writerBehind v key x = nI j ∧ eB v key x j :=
  wBehind_sL hn h2 hp key x 13 0 (-6) _ (Nat.zero_le _) (by omega) (Or.inl ⟨rfl, rfl, fun t ht => absurd ht (Nat.not_lt_zero t)⟩)
/-- the writer behind a moment is told by those that are behind it -/
theorem wBehind_cL (hn : n ≤ 12) (h2 : v 0 2 = nI n) {key x y : Int32} (hxy : ∀ t, t < n → v 1 t = 1 → ¬ mX5_contains (v 5 t) key = 0 → (v 3 t ≤ x ↔ v 3 t ≤ y)) : ∀ f i w la, i ≤ n → n < f + i → mX2_writerBehind_L14 v key x f w la i = mX2_writerBehind_L14 v key y f w la i := by
  intro f
  induction f with
  | zero => intro i w la h1 h2; omega
  | succ f ih =>
    intro i w la h1 h3
    rw [mX2_writerBehind_L14_s, mX2_writerBehind_L14_s, h2]
    rcases Nat.lt_or_ge i n with q | q
    · rw [if_neg (nI_ge q (by omega)), if_neg (nI_ge q (by omega)), nI_clamp (by omega)]
      by_cases c1 : v 1 i = 1
      · rw [if_pos c1, if_pos c1]
        by_cases c2 : mX5_contains (v 5 i) key = 0
        · rw [if_pos c2, if_pos c2]; exact ih _ _ _ q (by omega)
        · rw [if_neg c2, if_neg c2]
          by_cases c3 : v 3 i ≤ x
          · rw [if_pos c3, if_pos ((hxy i q c1 c2).mp c3)]; exact ih _ _ _ q (by omega)
          · rw [if_neg c3, if_neg (fun z => c3 ((hxy i q c1 c2).mpr z)), ih _ _ _ q (by omega), ih _ _ _ q (by omega)]
      · rw [if_neg c1, if_neg c1]; exact ih _ _ _ q (by omega)
    · rw [if_pos (nI_le q (by omega)), if_pos (nI_le q (by omega))]
theorem wBehind_cong (hn : n ≤ 12) (h2 : v 0 2 = nI n) {key x y : Int32} (hxy : ∀ t, t < n → v 1 t = 1 → ¬ mX5_contains (v 5 t) key = 0 → (v 3 t ≤ x ↔ v 3 t ≤ y)) : mX2_writerBehind v key x = mX2_writerBehind v key y := wBehind_cL hn h2 hxy 13 0 _ _ (Nat.zero_le _) (by omega)
end A
/-! edges, and the sets out of them -/
def ED (v : kG) (i j : Nat) : Prop := ¬ i = j ∧ ¬ v 1 i = 2 ∧ ¬ v 1 j = 2 ∧ ¬ (v 1 i = 1 ∧ ¬ v 2 j ≤ v 3 i) ∧ ¬ (v 1 j = 1 ∧ ¬ v 2 i ≤ v 3 j)
def EE (v : kG) (i j : Nat) : Prop := ED v i j ∧ ¬ ((v 4 i) &&& (v 5 j)) = 0
section A
variable {n m : Nat} {b c : Nat → Nat} {v u : kG} {i j : Nat}
theorem edgeK_on (hn : n ≤ 12) (hi : i < n) (hj : j < n) (h : ED v i j) : mX2_edgeKeys v (nI i) (nI j) = (v 4 i) &&& (v 5 j) := by
  obtain ⟨e0, e1, e2, e3, e4⟩ := h
  have e0' : ¬ nI i = nI j := fun q => e0 ((nI_eq (by omega) (by omega)).mp q)
  unfold mX2_edgeKeys
  rw [nI_clamp (n := i) (by omega), nI_clamp (n := j) (by omega), if_neg e0', if_neg e1, if_neg e2]
  by_cases a3 : v 1 i = 1
  · have a5 : v 2 j ≤ v 3 i := Decidable.byContradiction (fun q => e3 ⟨a3, q⟩)
    rw [if_pos a3, if_pos a5]
    by_cases a4 : v 1 j = 1
    · have a6 : v 2 i ≤ v 3 j := Decidable.byContradiction (fun q => e4 ⟨a4, q⟩)
      rw [if_pos a4, if_pos a6]
    · rw [if_neg a4]
  · rw [if_neg a3]
    by_cases a4 : v 1 j = 1
    · have a6 : v 2 i ≤ v 3 j := Decidable.byContradiction (fun q => e4 ⟨a4, q⟩)
      rw [if_pos a4, if_pos a6]
    · rw [if_neg a4]
theorem edgeK_off (hn : n ≤ 12) (hi : i < n) (hj : j < n) (h : ¬ ED v i j) : mX2_edgeKeys v (nI i) (nI j) = 0 := by
  unfold mX2_edgeKeys
  rw [nI_clamp (n := i) (by omega), nI_clamp (n := j) (by omega)]
  by_cases e0 : nI i = nI j
  · rw [if_pos e0]
  · by_cases e1 : v 1 i = 2
    · rw [if_neg e0, if_pos e1]
    · by_cases e2 : v 1 j = 2
      · rw [if_neg e0, if_neg e1, if_pos e2]
      · rw [if_neg e0, if_neg e1, if_neg e2]
        have e0' : ¬ i = j := fun q => e0 (by rw [q])
        by_cases a3 : v 1 i = 1
        · rw [if_pos a3]
          by_cases a5 : v 2 j ≤ v 3 i
          · rw [if_pos a5]
            by_cases a4 : v 1 j = 1
            · rw [if_pos a4]
              by_cases a6 : v 2 i ≤ v 3 j
              · exact absurd ⟨e0', e1, e2, fun z => z.2 a5, fun z => z.2 a6⟩ h
              · rw [if_neg a6]
            · exact absurd ⟨e0', e1, e2, fun z => z.2 a5, fun z => a4 z.1⟩ h
          · rw [if_neg a5]
        · rw [if_neg a3]
          by_cases a4 : v 1 j = 1
          · rw [if_pos a4]
            by_cases a6 : v 2 i ≤ v 3 j
            · exact absurd ⟨e0', e1, e2, fun z => a3 z.1, fun z => z.2 a6⟩ h
            · rw [if_neg a6]
          · exact absurd ⟨e0', e1, e2, fun z => a3 z.1, fun z => a4 z.1⟩ h
theorem edgeK0 (hn : n ≤ 12) (hi : i < n) (hj : j < n) : (mX2_edgeKeys v (nI i) (nI j) = 0) = ¬ EE v i j := by
  apply propext
  rcases Classical.em (ED v i j) with h | h
  · rw [edgeK_on hn hi hj h]
    exact ⟨fun q z => z.2 q, fun z => Decidable.byContradiction (fun q => z ⟨h, q⟩)⟩
  · rw [edgeK_off hn hi hj h]
    exact ⟨fun _ z => h z.1, fun _ => rfl⟩
theorem RE.ahead0 (h : RE n v (u 1)) (hi : i < n) {x : Int32} : (mX6_isCommittedAhead u (nI i) x = 0) = ¬ (v 1 i = 1 ∧ ¬ x ≤ v 3 i) := by
  unfold mX6_isCommittedAhead
  apply propext
  by_cases a : v 1 i = 1
  · rw [if_neg (by rw [h.in0 hi]; exact fun z => z a), h.its2 hi]
    by_cases q : x ≤ v 3 i
    · rw [if_pos q]; exact ⟨fun _ z => z.2 q, fun _ => rfl⟩
    · rw [if_neg q]; exact ⟨fun z => absurd z (by decide), fun z => absurd ⟨a, q⟩ z⟩
  · rw [if_pos (by rw [h.in0 hi]; exact a)]; exact ⟨fun _ z => a z.1, fun _ => rfl⟩
theorem RE.over0 (h : RE n v (u 1)) (hi : i < n) (hj : j < n) (hij : ¬ i = j) : (mX6_overlap u (nI i) (nI j) = 0) = ¬ ED v i j := by
  apply propext
  unfold mX6_overlap
  by_cases e1 : v 1 i = 2
  · rw [if_neg (by rw [h.in0 hi]; exact fun z => z e1)]; exact ⟨fun _ z => z.2.1 e1, fun _ => rfl⟩
  · rw [if_pos (by rw [h.in0 hi]; exact e1)]
    by_cases e2 : v 1 j = 2
    · rw [if_neg (by rw [h.in0 hj]; exact fun z => z e2)]; exact ⟨fun _ z => z.2.2.1 e2, fun _ => rfl⟩
    · rw [if_pos (by rw [h.in0 hj]; exact e2), h.its1 hi, h.its1 hj]
      by_cases a3 : v 1 i = 1 ∧ ¬ v 2 j ≤ v 3 i
      · rw [if_neg (by rw [h.ahead0 hi]; exact fun z => z a3)]; exact ⟨fun _ z => z.2.2.2.1 a3, fun _ => rfl⟩
      · rw [if_pos (by rw [h.ahead0 hi]; exact a3)]
        by_cases a4 : v 1 j = 1 ∧ ¬ v 2 i ≤ v 3 j
        · rw [if_neg (by rw [h.ahead0 hj]; exact fun z => z a4)]; exact ⟨fun _ z => z.2.2.2.2 a4, fun _ => rfl⟩
        · rw [if_pos (by rw [h.ahead0 hj]; exact a4)]; exact ⟨fun z => absurd z (by decide), fun z => absurd ⟨hij, e1, e2, a3, a4⟩ z⟩
theorem RE.edge0 (h : RE n v (u 1)) (hi : i < n) (hj : j < n) : (mX6_isEdge u (nI i) (nI j) = 0) = ¬ EE v i j := by
  apply propext
  have hn := h.1
  unfold mX6_isEdge
  rw [h.its3 hi, h.its4 hj]
  by_cases e0 : i = j
  · rw [if_pos (by rw [e0])]; exact ⟨fun _ z => z.1.1 e0, fun _ => rfl⟩
  · rw [if_neg (fun q => e0 ((nI_eq (by omega) (by omega)).mp q))]
    by_cases e1 : ((v 4 i) &&& (v 5 j)) = 0
    · rw [if_pos e1]; exact ⟨fun _ z => z.2 e1, fun _ => rfl⟩
    · rw [if_neg e1]
      by_cases e2 : mX6_overlap u (nI i) (nI j) = 0
      · rw [if_pos e2]
        rw [h.over0 hi hj e0] at e2
        exact ⟨fun _ z => e2 z.1, fun _ => rfl⟩
      · rw [if_neg e2]
        rw [h.over0 hi hj e0] at e2
        exact ⟨fun z => absurd z (by decide), fun z => absurd ⟨Classical.byContradiction e2, e1⟩ z⟩
theorem RE.edgeEq (h : RE n v (u 1)) (hi : i < n) (hj : j < n) : (mX6_isEdge u (nI i) (nI j) = 0) = (mX2_edgeKeys v (nI i) (nI j) = 0) := by
  rw [h.edge0 hi hj, edgeK0 h.1 hi hj]
def pE (v : kG) (t j : Nat) : Bool := !decide (mX2_edgeKeys v (nI t) (nI j) = 0)
theorem inPhase_k (hn : n ≤ 12) (h2 : v 0 2 = nI n) (w : Int32) : mX2_inPhase v w = nI (kst (fun j => decide (v 1 j = w)) n) := by
  refine kst_loop hn _ (mX2_inPhase_L4 v w) (fun f x i hi => ?_)
  rw [mX2_inPhase_L4_s, h2]
  rcases Nat.lt_or_ge i n with q | q
  · rw [if_neg (nI_ge q (by omega)), if_neg (by omega), nI_clamp (by omega)]
    by_cases c : v 1 i = w
    · rw [if_pos c, if_pos (by simp [c])]
    · rw [if_neg c, if_neg (by simp [c])]
  · rw [if_pos (nI_le q (by omega)), if_pos q]
theorem edgesFrom_k (hn : n ≤ 12) (h2 : v 0 2 = nI n) (t : Nat) : mX2_edgesFrom v (nI t) = nI (kst (fun j => pE v t j) n) := by
  refine kst_loop hn _ (mX2_edgesFrom_L4 v (nI t)) (fun f x i hi => ?_)
  rw [mX2_edgesFrom_L4_s, h2]
  rcases Nat.lt_or_ge i n with q | q
  · rw [if_neg (nI_ge q (by omega)), if_neg (by omega)]
    by_cases c : mX2_edgeKeys v (nI t) (nI i) = 0
    · rw [if_pos c, if_neg (by simp [pE, c])]
    · rw [if_neg c, if_pos (by simp [pE, c])]
  · rw [if_pos (nI_le q (by omega)), if_pos q]
theorem edgesTo_k (hn : n ≤ 12) (h2 : v 0 2 = nI n) (t : Nat) : mX2_edgesTo v (nI t) = nI (kst (fun j => pE v j t) n) := by
  refine kst_loop hn _ (mX2_edgesTo_L4 v (nI t)) (fun f x i hi => ?_)
  rw [mX2_edgesTo_L4_s, h2]
  rcases Nat.lt_or_ge i n with q | q
  · rw [if_neg (nI_ge q (by omega)), if_neg (by omega)]
    by_cases c : mX2_edgeKeys v (nI i) (nI t) = 0
    · rw [if_pos c, if_neg (by simp [pE, c])]
    · rw [if_neg c, if_pos (by simp [pE, c])]
  · rw [if_pos (nI_le q (by omega)), if_pos q]
theorem setOf_k (h : RE n v (u 1)) (w : Int32) : mX6_setOf u w = nI (kst (fun j => decide (v 1 j = w)) n) := by
  have hn := h.1
  refine kst_loop hn _ (mX6_setOf_L4 u w) (fun f x i hi => ?_)
  rw [mX6_setOf_L4_s, h.2.2.1]
  rcases Nat.lt_or_ge i n with q | q
  · rw [if_neg (nI_ge q (by omega)), if_neg (by omega)]
    by_cases c : v 1 i = w
    · rw [if_neg (by rw [h.in0 q]; exact fun z => z c), if_pos (by simp [c])]
    · rw [if_pos (by rw [h.in0 q]; exact c), if_neg (by simp [c]), Int32.or_zero]
  · rw [if_pos (nI_le q (by omega)), if_pos q]
theorem rFrom_k (h : RE n v (u 1)) {t : Nat} (ht : t < n) : mX6_edgesFrom u (nI t) = nI (kst (fun j => pE v t j) n) := by
  have hn := h.1
  refine kst_loop hn _ (mX6_edgesFrom_L4 u (nI t)) (fun f x i hi => ?_)
  rw [mX6_edgesFrom_L4_s, h.2.2.1]
  rcases Nat.lt_or_ge i n with q | q
  · rw [if_neg (nI_ge q (by omega)), if_neg (by omega)]
    by_cases c : mX2_edgeKeys v (nI t) (nI i) = 0
    · rw [if_pos (by rw [h.edgeEq ht q]; exact c), if_neg (by simp [pE, c]), Int32.or_zero]
    · rw [if_neg (by rw [h.edgeEq ht q]; exact c), if_pos (by simp [pE, c])]
  · rw [if_pos (nI_le q (by omega)), if_pos q]
theorem rTo_k (h : RE n v (u 1)) {t : Nat} (ht : t < n) : mX6_edgesTo u (nI t) = nI (kst (fun j => pE v j t) n) := by
  have hn := h.1
  refine kst_loop hn _ (mX6_edgesTo_L4 u (nI t)) (fun f x i hi => ?_)
  rw [mX6_edgesTo_L4_s, h.2.2.1]
  rcases Nat.lt_or_ge i n with q | q
  · rw [if_neg (nI_ge q (by omega)), if_neg (by omega)]
    by_cases c : mX2_edgeKeys v (nI i) (nI t) = 0
    · rw [if_pos (by rw [h.edgeEq q ht]; exact c), if_neg (by simp [pE, c]), Int32.or_zero]
    · rw [if_neg (by rw [h.edgeEq q ht]; exact c), if_pos (by simp [pE, c])]
  · rw [if_pos (nI_le q (by omega)), if_pos q]
theorem RE.eFrom (h : RE n v (u 1)) {t : Nat} (ht : t < n) : mX2_edgesFrom v (nI t) = mX6_edgesFrom u (nI t) := by rw [edgesFrom_k h.1 h.2.1, rFrom_k h ht]
theorem RE.eTo (h : RE n v (u 1)) {t : Nat} (ht : t < n) : mX2_edgesTo v (nI t) = mX6_edgesTo u (nI t) := by rw [edgesTo_k h.1 h.2.1, rTo_k h ht]
theorem RE.set (h : RE n v (u 1)) (w : Int32) : mX2_inPhase v w = mX6_setOf u w := by rw [inPhase_k h.1 h.2.1, setOf_k h]
theorem RE.bFrom (h : RE n v (u 1)) {t : Nat} (ht : t < n) : mJ6_bitCount_0f7a4 (mX2_edgesFrom v (nI t)) = mX6_bits (mX6_edgesFrom u (nI t)) := by rw [h.eFrom ht, rFrom_k h ht, bits_bc (kst_lt12 _ h.1)]
theorem RE.bTo (h : RE n v (u 1)) {t : Nat} (ht : t < n) : mJ6_bitCount_0f7a4 (mX2_edgesTo v (nI t)) = mX6_bits (mX6_edgesTo u (nI t)) := by rw [h.eTo ht, rTo_k h ht, bits_bc (kst_lt12 _ h.1)]
theorem RE.bSet (h : RE n v (u 1)) (w : Int32) : mJ6_bitCount_0f7a4 (mX2_inPhase v w) = mX6_bits (mX6_setOf u w) := by rw [h.set w, setOf_k h, bits_bc (kst_lt12 _ h.1)]
theorem RE.edges (h : RE n v (u 1)) : mX2_edgeTotal v = mX6_edges u := by
  have hn := h.1
  refine kLoopEq (n := n) (fun i x => x + mX6_bits (mX6_edgesFrom u (nI i))) (fun x => x) (mX2_edgeTotal_L4 v) (mX6_edges_L4 u) (fun f x i hi => ?_) (fun f x i hi => ?_) 13 0 0 (Nat.zero_le _) (by omega)
  · rw [mX2_edgeTotal_L4_s, h.2.1]
    rcases Nat.lt_or_ge i n with q | q
    · rw [if_neg (nI_ge q (by omega)), if_neg (by omega), h.bFrom q]
    · rw [if_pos (nI_le q (by omega)), if_pos q]
  · rw [mX6_edges_L4_s, h.2.2.1]
    rcases Nat.lt_or_ge i n with q | q
    · rw [if_neg (nI_ge q (by omega)), if_neg (by omega)]
    · rw [if_pos (nI_le q (by omega)), if_pos q]
theorem RE.triples (h : RE n v (u 1)) : mX2_tripleTotal v = mX6_triples u := by
  have hn := h.1
  refine kLoopEq (n := n) (fun i x => x + (mX6_bits (mX6_edgesFrom u (nI i))) * (mX6_bits (mX6_edgesTo u (nI i)))) (fun x => x) (mX2_tripleTotal_L4 v) (mX6_triples_L4 u) (fun f x i hi => ?_) (fun f x i hi => ?_) 13 0 0 (Nat.zero_le _) (by omega)
  · rw [mX2_tripleTotal_L4_s, h.2.1]
    rcases Nat.lt_or_ge i n with q | q
    · rw [if_neg (nI_ge q (by omega)), if_neg (by omega), h.bFrom q, h.bTo q, Int32.mul_comm]
    · rw [if_pos (nI_le q (by omega)), if_pos q]
  · rw [mX6_triples_L4_s, h.2.2.1]
    rcases Nat.lt_or_ge i n with q | q
    · rw [if_neg (nI_ge q (by omega)), if_neg (by omega)]
    · rw [if_pos (nI_le q (by omega)), if_pos q]
theorem RE.pivots (h : RE n v (u 1)) : mX2_pivots v = mX6_pivots u := by
  have hn := h.1
  refine kLoopEq (n := n) (fun i x => if mX6_edgesTo u (nI i) = 0 then x else if mX6_edgesFrom u (nI i) = 0 then x else x ||| (1 <<< ((nI i) &&& 31))) (fun x => x) (mX2_pivots_L4 v) (mX6_pivots_L4 u) (fun f x i hi => ?_) (fun f x i hi => ?_) 13 0 0 (Nat.zero_le _) (by omega)
  · rw [mX2_pivots_L4_s, h.2.1]
    rcases Nat.lt_or_ge i n with q | q
    · rw [if_neg (nI_ge q (by omega)), if_neg (by omega), h.eFrom q, h.eTo q]
      split
      · rfl
      · split <;> rfl
    · rw [if_pos (nI_le q (by omega)), if_pos q]
  · rw [mX6_pivots_L4_s, h.2.2.1]
    rcases Nat.lt_or_ge i n with q | q
    · rw [if_neg (nI_ge q (by omega)), if_neg (by omega)]
      by_cases c1 : mX6_edgesFrom u (nI i) = 0
      · rw [if_pos c1, Int32.or_zero]
        split <;> rfl
      · rw [if_neg c1, if_neg c1]
        by_cases c2 : mX6_edgesTo u (nI i) = 0
        · rw [if_pos c2, if_pos c2, Int32.or_zero]
        · rw [if_neg c2, if_neg c2]
    · rw [if_pos (nI_le q (by omega)), if_pos q]
end A
/-! safe snapshots -/
def RB (n : Nat) (b c : Nat → Nat) (v : kG) (z : Nat → Int32) : Prop := ∀ t, t < n → (∀ w, w < 12 → ¬ mX5_contains (z (3 + 23 * t + 6)) (nI w) = 0 → w < t) ∧ (∀ w, w < t → (v 1 w = 0 → ¬ mX5_contains (z (3 + 23 * t + 6)) (nI w) = 0) ∧ (v 1 w = 1 → (¬ mX5_contains (z (3 + 23 * t + 6)) (nI w) = 0 ↔ b t < c w)))
def SP (v : kG) (n o : Nat) (x : Int32) : Prop := ∃ i, i < n ∧ EE v o i ∧ v 1 i = 1 ∧ ¬ x ≤ v 3 i
section A
variable {n m : Nat} {b c : Nat → Nat} {v u : kG} {i j : Nat}
theorem spoils_L (hn : n ≤ 12) (h2 : v 0 2 = nI n) {o : Nat} (ho : o < n) (x : Int32) : ∀ f i, i ≤ n → n < f + i → (mX2_spoils_L31 v (nI o) x f i = 0 ↔ ∀ j, i ≤ j → j < n → ¬ (EE v o j ∧ v 1 j = 1 ∧ ¬ x ≤ v 3 j)) := by
  intro f
  induction f with
  | zero => intro i h1 h2; omega
  | succ f ih =>
    intro i h1 h3
    rw [mX2_spoils_L31_s, h2, edgesFrom_k hn h2]
    rcases Nat.lt_or_ge i n with q | q
    · rw [if_neg (nI_ge q (by omega)), nI_clamp (by omega)]
      have ih' := ih (i + 1) q (by omega)
      have skip : ¬ (EE v o i ∧ v 1 i = 1 ∧ ¬ x ≤ v 3 i) → (mX2_spoils_L31 v (nI o) x f (i + 1) = 0 ↔ ∀ j, i ≤ j → j < n → ¬ (EE v o j ∧ v 1 j = 1 ∧ ¬ x ≤ v 3 j)) := by
        intro hne
        rw [ih']
        refine ⟨fun h j h4 h5 => ?_, fun h j h4 h5 => h j (by omega) h5⟩
        rcases Nat.lt_or_ge i j with z | z
        · exact h j z h5
        · rw [show j = i by omega]; exact hne
      by_cases c1 : mX5_contains (nI (kst (fun j => pE v o j) n)) (nI i) = 0
      · rw [if_pos c1]
        rw [kctS hn (by omega)] at c1
        refine skip (fun z => c1 ⟨q, ?_⟩)
        have h5 := z.1
        simp only [pE, Bool.not_eq_true', decide_eq_false_iff_not]
        rw [edgeK0 hn ho q]
        exact fun y => y h5
      · rw [if_neg c1]
        rw [kctS hn (by omega)] at c1
        have h5 := (Classical.byContradiction c1).2
        simp only [pE, Bool.not_eq_true', decide_eq_false_iff_not] at h5
        rw [edgeK0 hn ho q] at h5
        have h6 := Classical.byContradiction h5
        by_cases c2 : v 1 i = 1
        · rw [if_pos c2]
          by_cases c3 : x ≤ v 3 i
          · rw [if_pos c3]; exact skip (fun z => z.2.2 c3)
          · rw [if_neg c3]
            exact ⟨fun z => absurd z (by decide), fun z => absurd ⟨h6, c2, c3⟩ (z i (Nat.le_refl _) q)⟩
        · rw [if_neg c2]; exact skip (fun z => c2 z.2.1)
    · rw [if_pos (nI_le q (by omega))]
      exact ⟨fun _ j h4 h5 => by omega, fun _ => rfl⟩
theorem spoils0 (hn : n ≤ 12) (h2 : v 0 2 = nI n) {o : Nat} (ho : o < n) (x : Int32) : (mX2_spoils v (nI o) x = 0) = ¬ (v 1 o = 1 ∧ x ≤ v 3 o ∧ SP v n o x) := by
  apply propext
  unfold mX2_spoils
  rw [nI_clamp (by omega)]
  by_cases c1 : v 1 o = 1
  · rw [if_pos c1]
    by_cases c2 : x ≤ v 3 o
    · rw [if_pos c2, spoils_L hn h2 ho x 13 0 (Nat.zero_le _) (by omega)]
      refine ⟨fun h z => ?_, fun h j _ hj z => h ⟨c1, c2, j, hj, z⟩⟩
      obtain ⟨_, _, j, hj, z⟩ := z
      exact h j (Nat.zero_le _) hj z
    · rw [if_neg c2]; exact ⟨fun _ z => c2 z.2.1, fun _ => rfl⟩
  · rw [if_neg c1]; exact ⟨fun _ z => c1 z.1, fun _ => rfl⟩
theorem endan_1 (h : RE n v (u 1)) (o x : Int32) : ∀ f i, i ≤ n → n < f + i → mX6_endangers_L5 u o x f 1 i = 1 := by
  intro f
  induction f with
  | zero => intro i h1 h2; omega
  | succ f ih =>
    intro i h1 h3
    have hn := h.1
    rw [mX6_endangers_L5_s, h.2.2.1]
    rcases Nat.lt_or_ge i n with q | q
    · rw [if_neg (nI_ge q (by omega)), if_neg (by decide)]
      exact ih _ q (by omega)
    · rw [if_pos (nI_le q (by omega))]
theorem endan_L (h : RE n v (u 1)) {o : Nat} (ho : o < n) (x : Int32) : ∀ f i, i ≤ n → n < f + i → (mX6_endangers_L5 u (nI o) x f 0 i = 0 ↔ ∀ j, i ≤ j → j < n → ¬ (v 1 o = 1 ∧ EE v o j ∧ v 1 j = 1 ∧ ¬ x ≤ v 3 j)) := by
  intro f
  induction f with
  | zero => intro i h1 h2; omega
  | succ f ih =>
    intro i h1 h3
    have hn := h.1
    rw [mX6_endangers_L5_s, h.2.2.1]
    rcases Nat.lt_or_ge i n with q | q
    · rw [if_neg (nI_ge q (by omega)), if_pos rfl]
      have ih' := ih (i + 1) q (by omega)
      have skip : ¬ (v 1 o = 1 ∧ EE v o i ∧ v 1 i = 1 ∧ ¬ x ≤ v 3 i) → (mX6_endangers_L5 u (nI o) x f 0 (i + 1) = 0 ↔ ∀ j, i ≤ j → j < n → ¬ (v 1 o = 1 ∧ EE v o j ∧ v 1 j = 1 ∧ ¬ x ≤ v 3 j)) := by
        intro hne
        rw [ih']
        refine ⟨fun h j h4 h5 => ?_, fun h j h4 h5 => h j (by omega) h5⟩
        rcases Nat.lt_or_ge i j with z | z
        · exact h j z h5
        · rw [show j = i by omega]; exact hne
      by_cases c1 : mX6_isIn u (nI o) 1 = 0
      · rw [if_pos c1]; rw [h.in0 ho] at c1; exact skip (fun z => c1 z.1)
      · rw [if_neg c1]; rw [h.in0 ho] at c1
        by_cases c2 : mX6_isEdge u (nI o) (nI i) = 0
        · rw [if_pos c2]; rw [h.edge0 ho q] at c2; exact skip (fun z => c2 z.2.1)
        · rw [if_neg c2]; rw [h.edge0 ho q] at c2
          by_cases c3 : mX6_isCommittedAhead u (nI i) x = 0
          · rw [if_pos c3]; rw [h.ahead0 q] at c3; exact skip (fun z => c3 ⟨z.2.2.1, z.2.2.2⟩)
          · rw [if_neg c3]; rw [h.ahead0 q] at c3
            have d3 := Classical.byContradiction c3
            rw [endan_1 h (nI o) x f (i + 1) q (by omega)]
            exact ⟨fun z => absurd z (by decide), fun z => absurd ⟨Classical.byContradiction c1, Classical.byContradiction c2, d3.1, d3.2⟩ (z i (Nat.le_refl _) q)⟩
    · rw [if_pos (nI_le q (by omega))]
      exact ⟨fun _ j h4 h5 => by omega, fun _ => rfl⟩
theorem endan0 (h : RE n v (u 1)) {o : Nat} (ho : o < n) (x : Int32) : (mX6_endangers u (nI o) x = 0) = ¬ (v 1 o = 1 ∧ SP v n o x) := by
  apply propext
  unfold mX6_endangers
  rw [endan_L h ho x 13 0 (Nat.zero_le _) (by have := h.1; omega)]
  refine ⟨fun h z => ?_, fun h j _ hj z => h ⟨z.1, j, hj, z.2⟩⟩
  obtain ⟨a, j, hj, z⟩ := z
  exact h j (Nat.zero_le _) hj ⟨a, z⟩
theorem its6 {t : Nat} (ht : t < 12) : mX6_its u (nI t) 6 = u 1 (3 + 23 * t + 6) := its_at (j := 6) ht (by omega)
theorem bitC (x : Int32) (k : Int32) : (((x >>> (k &&& 31)) &&& 1) = 1) = ¬ mX5_contains x k = 0 := by
  unfold mX5_contains
  apply propext
  by_cases q : ((x >>> (k &&& 31)) &&& 1) = 1
  · rw [if_pos q]; exact ⟨fun _ => by decide, fun _ => q⟩
  · rw [if_neg q]; exact ⟨fun z => absurd z q, fun z => absurd rfl z⟩
theorem safety_tail (h : RE n v (u 1)) (hB : RB n b c v (u 1)) {t : Nat} (ht : t < n) : ∀ f he i, t ≤ i → i ≤ n → n < f + i → mX6_safety_L25 u (nI t) f he i = if he = 0 then 2 else 1 := by
  intro f
  induction f with
  | zero => intro he i h0 h1 h2; omega
  | succ f ih =>
    intro he i h0 h1 h3
    have hn := h.1
    rw [mX6_safety_L25_s, h.2.2.1]
    rcases Nat.lt_or_ge i n with q | q
    · rw [if_neg (nI_ge q (by omega)), its6 (by omega)]
      rw [if_neg (by
        rw [bitC]
        intro z
        have := (hB t ht).1 i (by omega) z
        omega)]
      exact ih _ _ (by omega) q (by omega)
    · rw [if_pos (nI_le q (by omega))]
theorem safety_L (h : RE n v (u 1)) (hi : RI n m b c v) (hB : RB n b c v (u 1)) {t : Nat} (ht : t < n) : ∀ f f' a he i, i ≤ t → t < f + i → n < f' + i → (a = 0 ∧ he = 1 ∨ a = 1 ∧ he = 0) → mX2_snapshot_L26 v (nI t) f a i = mX6_safety_L25 u (nI t) f' he i := by
  intro f
  induction f with
  | zero => intro f' a he i h1 h2; omega
  | succ f ih =>
    intro f' a he i h1 h3 h4 ha
    have hn := h.1
    rw [mX2_snapshot_L26_s]
    rcases Nat.lt_or_ge i t with q | q
    · cases f' with
      | zero => omega
      | succ f' =>
        rw [mX6_safety_L25_s, h.2.2.1]
        have qn : i < n := by omega
        rw [if_neg (nI_ge q (by omega)), if_neg (nI_ge qn (by omega)), nI_clamp (n := i) (by omega), nI_clamp (n := t) (by omega), its6 (by omega), h.its1 ht]
        have hb := (hB t ht).2 i q
        by_cases c0 : v 1 i = 0
        · have hb0 := hb.1 c0
          rw [if_pos c0, if_pos (by rw [bitC]; exact hb0), if_pos (by rw [endan0 h qn]; exact fun z => by rw [c0] at z; exact absurd z.1 (by decide))]
          rw [if_neg (by rw [h.in0 qn]; exact fun z => z c0)]
          have e : (if he = 0 then mX6_safety_L25 u (nI t) f' 0 (i + 1) else mX6_safety_L25 u (nI t) f' 0 (i + 1)) = mX6_safety_L25 u (nI t) f' 0 (i + 1) := by split <;> rfl
          rw [e]
          exact ih f' 1 0 (i + 1) q (by omega) (by omega) (Or.inr ⟨rfl, rfl⟩)
        · rw [if_neg c0]
          have e0 : mX6_isIn u (nI i) 0 = 0 := by rw [h.in0 qn]; exact c0
          have e1 : (if he = 0 then mX6_safety_L25 u (nI t) f' 0 (i + 1) else if mX6_isIn u (nI i) 0 = 0 then mX6_safety_L25 u (nI t) f' 1 (i + 1) else mX6_safety_L25 u (nI t) f' 0 (i + 1)) = mX6_safety_L25 u (nI t) f' he (i + 1) := by
            rw [if_pos e0]
            rcases ha with ⟨_, rfl⟩ | ⟨_, rfl⟩
            · rw [if_neg (by decide)]
            · rw [if_pos rfl]
          rw [e1]
          have go := ih f' a he (i + 1) q (by omega) (by omega) ha
          by_cases c1 : v 1 i = 1
          · have hb1 := hb.2 c1
            obtain ⟨k1, k2, k3⟩ := hi.cm qn c1
            obtain ⟨k4, k5, k6⟩ := hi.bg ht
            have hm := hi.2.1
            have hne := hi.2.2.2.2.2 i t qn ht c1
            have hle : v 2 t ≤ v 3 i ↔ b t < c i := by
              rw [k1, k4, nI_leI (by omega) (by omega)]; omega
            by_cases c2 : b t < c i
            · rw [if_pos (by rw [bitC]; exact hb1.mpr c2)]
              by_cases c3 : SP v n i (v 2 t)
              · rw [if_neg (by rw [spoils0 hn h.2.1 qn]; exact fun z => z ⟨c1, hle.mpr c2, c3⟩), if_neg (by rw [endan0 h qn]; exact fun z => z ⟨c1, c3⟩)]
              · rw [if_pos (by rw [spoils0 hn h.2.1 qn]; exact fun z => c3 z.2.2), if_pos (by rw [endan0 h qn]; exact fun z => c3 z.2)]
                exact go
            · rw [if_neg (by rw [bitC]; exact fun z => c2 (hb1.mp z)), if_pos (by rw [spoils0 hn h.2.1 qn]; exact fun z => c2 (hle.mp z.2.1))]
              exact go
          · rw [if_pos (by rw [spoils0 hn h.2.1 qn]; exact fun z => c1 z.1), if_pos (c := mX6_endangers u (nI i) (v 2 t) = 0) (by rw [endan0 h qn]; exact fun z => c1 z.1)]
            split <;> exact go
    · have e : i = t := by omega
      rw [if_pos (nI_le q (by omega)), safety_tail h hB ht f' he i q (by omega) h4]
      rcases ha with ⟨rfl, rfl⟩ | ⟨rfl, rfl⟩
      · rfl
      · rfl
theorem safety_eq (h : RE n v (u 1)) (hi : RI n m b c v) (hB : RB n b c v (u 1)) {t : Nat} (ht : t < n) : mX2_snapshot v (nI t) = mX6_safety u (nI t) := by
  have hn := h.1
  unfold mX2_snapshot mX6_safety
  rw [nI_clamp (by omega), h.its4 ht]
  by_cases c1 : v 1 t = 2
  · rw [if_neg (c := mX6_isIn u (nI t) 2 = 0) (by rw [h.in0 ht]; exact fun z => z c1), if_pos c1]
    split <;> rfl
  · rw [if_pos (c := mX6_isIn u (nI t) 2 = 0) (by rw [h.in0 ht]; exact c1), if_neg c1]
    by_cases c2 : v 5 t = 0
    · rw [if_pos c2, if_pos c2]
      exact safety_L h hi hB ht 13 13 0 1 0 (Nat.zero_le _) (by omega) (by omega) (Or.inl ⟨rfl, rfl⟩)
    · rw [if_neg c2, if_neg c2]
end A
/-! why a commit is refused -/
theorem kand_bits {a d : Nat} (ha : a < 65536) : (nI a &&& nI d = 0) ↔ ∀ k, k < 16 → ¬ (a.testBit k = true ∧ d.testBit k = true) := by
  rw [kandI, nI_eq0 (Nat.lt_of_le_of_lt Nat.and_le_left (by omega))]
  constructor
  · intro h k hk z
    have h2 : (a &&& d).testBit k = true := by rw [Nat.testBit_and, z.1, z.2]; rfl
    rw [h, Nat.zero_testBit] at h2; cases h2
  · intro h
    apply Nat.eq_of_testBit_eq
    intro k
    rw [Nat.testBit_and, Nat.zero_testBit]
    rcases Nat.lt_or_ge k 16 with q | q
    · have := h k q
      cases e1 : a.testBit k
      · rfl
      · cases e2 : d.testBit k
        · rfl
        · exact absurd ⟨e1, e2⟩ this
    · rw [Nat.testBit_lt_two_pow (Nat.lt_of_lt_of_le (show a < 2 ^ 16 by omega) (Nat.pow_le_pow_right (by decide) q)), Bool.false_and]
def LW (v : kG) (n t : Nat) : Prop := ∃ o, o < n ∧ v 1 o = 1 ∧ ¬ v 3 o ≤ v 2 t ∧ ¬ ((v 5 o) &&& (v 5 t)) = 0
section A
variable {n m : Nat} {b c : Nat → Nat} {v u : kG} {i j : Nat}
theorem later_L (hn : n ≤ 12) (h2 : v 0 2 = nI n) {t : Nat} (ht : t < n) : ∀ f i, i ≤ n → n < f + i → (mX0_isLaterWriter_L9 v (nI t) f i = 0 ↔ ∀ o, i ≤ o → o < n → ¬ (v 1 o = 1 ∧ ¬ v 3 o ≤ v 2 t ∧ ¬ ((v 5 o) &&& (v 5 t)) = 0)) := by
  intro f
  induction f with
  | zero => intro i h1 h2; omega
  | succ f ih =>
    intro i h1 h3
    rw [mX0_isLaterWriter_L9_s, h2]
    rcases Nat.lt_or_ge i n with q | q
    · rw [if_neg (nI_ge q (by omega)), nI_clamp (n := i) (by omega), nI_clamp (n := t) (by omega)]
      have skip : ¬ (v 1 i = 1 ∧ ¬ v 3 i ≤ v 2 t ∧ ¬ ((v 5 i) &&& (v 5 t)) = 0) → (mX0_isLaterWriter_L9 v (nI t) f (i + 1) = 0 ↔ ∀ o, i ≤ o → o < n → ¬ (v 1 o = 1 ∧ ¬ v 3 o ≤ v 2 t ∧ ¬ ((v 5 o) &&& (v 5 t)) = 0)) := by
        intro hne
        rw [ih (i + 1) q (by omega)]
        refine ⟨fun h j h4 h5 => ?_, fun h j h4 h5 => h j (by omega) h5⟩
        rcases Nat.lt_or_ge i j with z | z
        · exact h j z h5
        · rw [show j = i by omega]; exact hne
      by_cases c1 : v 1 i = 1
      · rw [if_pos c1]
        by_cases c2 : v 3 i ≤ v 2 t
        · rw [if_pos c2]; exact skip (fun z => z.2.1 c2)
        · rw [if_neg c2]
          by_cases c3 : ((v 5 i) &&& (v 5 t)) = 0
          · rw [if_pos c3]; exact skip (fun z => z.2.2 c3)
          · rw [if_neg c3]; exact ⟨fun z => absurd z (by decide), fun z => absurd ⟨c1, c2, c3⟩ (z i (Nat.le_refl _) q)⟩
      · rw [if_neg c1]; exact skip (fun z => c1 z.1)
    · rw [if_pos (nI_le q (by omega))]
      exact ⟨fun _ j h4 h5 => by omega, fun _ => rfl⟩
theorem later0 (hn : n ≤ 12) (h2 : v 0 2 = nI n) {t : Nat} (ht : t < n) : (mX0_isLaterWriter v (nI t) = 0) = ¬ LW v n t := by
  apply propext
  unfold mX0_isLaterWriter
  rw [later_L hn h2 ht 13 0 (Nat.zero_le _) (by omega)]
  refine ⟨fun h z => ?_, fun h j _ hj z => h ⟨j, hj, z⟩⟩
  obtain ⟨j, hj, z⟩ := z
  exact h j (Nat.zero_le _) hj z
/-- over the keys -/
theorem LW_keys (hn : n ≤ 12) (h2 : v 0 2 = nI n) (hi : RI n m b c v) {t : Nat} (ht : t < n) : LW v n t ↔ ∃ k, k < 16 ∧ ¬ mX5_contains (v 5 t) (nI k) = 0 ∧ ¬ mX2_writerBehind v (nI k) (v 2 t) = -6 := by
  constructor
  · rintro ⟨o, ho, h3, h4, h5⟩
    obtain ⟨a, ha, ea⟩ := hi.wr ho
    obtain ⟨d, hd, ed⟩ := hi.wr ht
    have h6 : ¬ ∀ k, k < 16 → ¬ (a.testBit k = true ∧ d.testBit k = true) := fun z => h5 (by rw [ea, ed]; exact (kand_bits ha).mpr z)
    obtain ⟨k, h7⟩ := Classical.not_forall.mp h6
    obtain ⟨hk, h8⟩ := Classical.not_imp.mp h7
    have h9 := Classical.byContradiction h8
    refine ⟨k, hk, ?_, ?_⟩
    · rw [ed, kct0 (by omega) (by omega)]; rw [h9.2]; decide
    · rcases wBehind_spec hn h2 (fun t ht h1 => hi.le ht h1) (nI k) (v 2 t) with ⟨_, z⟩ | ⟨j, hj, z, _⟩
      · refine absurd ⟨h3, ?_, h4⟩ (z o ho)
        rw [ea, kct0 (by omega) (by omega), h9.1]; decide
      · rw [z]; exact nI_ne6 (by omega)
  · rintro ⟨k, hk, h3, h4⟩
    rcases wBehind_spec hn h2 (fun t ht h1 => hi.le ht h1) (nI k) (v 2 t) with ⟨z, _⟩ | ⟨o, ho, _, z1, z2, z3⟩
    · exact absurd z h4
    · obtain ⟨a, ha, ea⟩ := hi.wr ho
      obtain ⟨d, hd, ed⟩ := hi.wr ht
      refine ⟨o, ho, z1, z3, ?_⟩
      rw [ea, kct0 (by omega) (by omega)] at z2
      rw [ed, kct0 (by omega) (by omega)] at h3
      rw [ea, ed, kand_bits ha]
      exact fun z => z k hk ⟨by simpa using z2, by simpa using h3⟩
/-! what is searched for, first of all -/
def s1 {α : Type} (g : Nat → Option α) (n : Nat) : Nat → Nat → Option α
  | 0, _ => none
  | f + 1, i => if n ≤ i then none else match g i with
    | some x => some x
    | none => s1 g n f (i + 1)
theorem s1_none {α : Type} {g : Nat → Option α} (h : ∀ i, i < n → g i = none) : ∀ f i, s1 g n f i = none := by
  intro f
  induction f with
  | zero => intro i; rfl
  | succ f ih =>
    intro i
    unfold s1
    rcases Nat.lt_or_ge i n with q | q
    · rw [if_neg (by omega), h i q]; exact ih _
    · rw [if_pos q]
theorem s1_congr {α : Type} {g g' : Nat → Option α} (h : ∀ i, i < n → g i = g' i) : ∀ f i, s1 g n f i = s1 g' n f i := by
  intro f
  induction f with
  | zero => intro i; rfl
  | succ f ih =>
    intro i
    unfold s1
    rcases Nat.lt_or_ge i n with q | q
    · rw [if_neg (by omega), if_neg (by omega), h i q, ih]
    · rw [if_pos q, if_pos q]
theorem s1_map {α β : Type} {g : Nat → Option α} (F : α → β) : ∀ f i, s1 (fun i => (g i).map F) n f i = (s1 g n f i).map F := by
  intro f
  induction f with
  | zero => intro i; rfl
  | succ f ih =>
    intro i
    unfold s1
    rcases Nat.lt_or_ge i n with q | q
    · rw [if_neg (by omega), if_neg (by omega), ih]
      cases g i <;> rfl
    · rw [if_pos q, if_pos q]; rfl
theorem s1_some {α : Type} {g : Nat → Option α} {x : α} : ∀ f i, s1 g n f i = some x → ∃ j, j < n ∧ g j = some x := by
  intro f
  induction f with
  | zero => intro i h; cases h
  | succ f ih =>
    intro i h
    unfold s1 at h
    rcases Nat.lt_or_ge i n with q | q
    · rw [if_neg (by omega)] at h
      cases e : g i with
      | none => rw [e] at h; exact ih _ h
      | some y => rw [e] at h; exact ⟨i, q, e.trans h⟩
    · rw [if_pos q] at h; cases h
theorem s1_L {α τ : Type} {g : Nat → Option α} (L : Nat → Nat → τ) (k0 : τ) (ex : α → τ) (hs : ∀ f i, i ≤ n → L (f + 1) i = if n ≤ i then k0 else match g i with | some x => ex x | none => L f (i + 1)) : ∀ f i, i ≤ n → n < f + i → L f i = match s1 g n f i with | some x => ex x | none => k0 := by
  intro f
  induction f with
  | zero => intro i h1 h2; omega
  | succ f ih =>
    intro i h1 h2
    rw [hs f i h1]
    unfold s1
    rcases Nat.lt_or_ge i n with q | q
    · rw [if_neg (by omega), if_neg (by omega)]
      cases e : g i with
      | none => exact ih _ q (by omega)
      | some y => rfl
    · rw [if_pos q, if_pos q]
noncomputable def gG {α : Type} (G : Prop) (x : α) : Option α := @ite _ G (Classical.propDecidable G) (some x) none
theorem gG_pos {α : Type} {G : Prop} (h : G) (x : α) : gG G x = some x := if_pos h
theorem gG_neg {α : Type} {G : Prop} (h : ¬ G) (x : α) : gG G x = none := if_neg h
theorem gG_map {α β : Type} {G : Prop} (x : α) (F : α → β) : (gG G x).map F = gG G (F x) := by
  rcases Classical.em G with h | h
  · rw [gG_pos h, gG_pos h]; rfl
  · rw [gG_neg h, gG_neg h]; rfl
noncomputable def S3 {α : Type} (G : Nat → Nat → Nat → Prop) (F : Nat → Nat → Nat → α) (n : Nat) : Option α := s1 (fun p => s1 (fun a => s1 (fun c => gG (G a p c) (F a p c)) n 13 0) n 13 0) n 13 0
theorem S3_map {α : Type} (G : Nat → Nat → Nat → Prop) (F : Nat → Nat → Nat → α) (n : Nat) : S3 G F n = (S3 G (fun a p c => (a, p, c)) n).map (fun q => F q.1 q.2.1 q.2.2) := by
  unfold S3
  rw [← s1_map]
  congr 1
  funext p
  rw [← s1_map]
  congr 1
  funext a
  rw [← s1_map]
  congr 1
  funext c
  rw [gG_map]
theorem S3_cases {G : Nat → Nat → Nat → Prop} {n : Nat} : (∀ (α : Type) (F : Nat → Nat → Nat → α), S3 G F n = none) ∨ ∃ a p c, a < n ∧ p < n ∧ c < n ∧ ∀ (α : Type) (F : Nat → Nat → Nat → α), S3 G F n = some (F a p c) := by
  cases e : S3 G (fun a p c => (a, p, c)) n with
  | none => exact Or.inl fun α F => by rw [S3_map, e]; rfl
  | some q =>
    obtain ⟨p, hp, e1⟩ := s1_some _ _ e
    obtain ⟨a, ha, e2⟩ := s1_some _ _ e1
    obtain ⟨c, hc, e3⟩ := s1_some _ _ e2
    refine Or.inr ⟨a, p, c, ha, hp, hc, fun α F => ?_⟩
    rw [S3_map, e]
    rcases Classical.em (G a p c) with h | h
    · rw [gG_pos h] at e3
      rw [← Option.some.inj e3]; rfl
    · rw [gG_neg h] at e3; cases e3
/-- the state with t committed now -/
def vC (v : kG) (t : Nat) : kG := rset (rset v 1 (upd (v 1) t 1)) 3 (upd (v 3) t (v 0 1 + 1))
theorem vC1 {t j : Nat} : vC v t 1 j = if j = t then 1 else v 1 j := by
  show upd (v 1) t 1 j = _
  by_cases q : j = t
  · rw [if_pos q, q, pk_us]
  · rw [if_neg q, pk_un q]
theorem vC3 {t j : Nat} : vC v t 3 j = if j = t then v 0 1 + 1 else v 3 j := by
  show upd (v 3) t _ j = _
  by_cases q : j = t
  · rw [if_pos q, q, pk_us]
  · rw [if_neg q, pk_un q]
theorem vC_EE (hi : RI n m b c v) {t : Nat} (ht0 : v 1 t = 0) (hi' : i < n) (hj : j < n) : EE (vC v t) i j ↔ EE v i j := by
  have key : ∀ x y, x < n → y < n → (¬ (vC v t 1 x = 1 ∧ ¬ vC v t 2 y ≤ vC v t 3 x) ↔ ¬ (v 1 x = 1 ∧ ¬ v 2 y ≤ v 3 x)) := by
    intro x y hx hy
    rw [vC1, vC3, show vC v t 2 y = v 2 y from rfl]
    by_cases q : x = t
    · rw [if_pos q, if_pos q]
      obtain ⟨k4, k5, k6⟩ := hi.bg hy
      have hm := hi.2.1
      refine ⟨fun _ z => ?_, fun _ z => z.2 ?_⟩
      · rw [q, ht0] at z; exact absurd z.1 (by decide)
      · rw [hi.1, k4, nI_1]; exact nI_le (by omega) (by omega)
    · rw [if_neg q, if_neg q]
  have k2 : ∀ x, x < n → (¬ vC v t 1 x = 2 ↔ ¬ v 1 x = 2) := by
    intro x hx
    rw [vC1]
    by_cases q : x = t
    · rw [if_pos q, q, ht0]; exact ⟨fun _ => by decide, fun _ => by decide⟩
    · rw [if_neg q]
  unfold EE ED
  rw [k2 i hi', k2 j hj, key i j hi' hj, key j i hj hi']
  rfl
def G3 (v u : kG) (t : Nat) (r : Int32) (a p c : Nat) : Prop := vC v t 1 a = 1 ∧ vC v t 1 p = 1 ∧ vC v t 1 c = 1 ∧ (a = t ∨ p = t ∨ c = t) ∧ EE v a p ∧ EE v p c ∧ ¬ mX6_counts u r (nI a) (nI p) (nI c) = 0
/-- the reference's search -/
theorem find_S3 {r : Int32} {t : Nat} (ht : t < n) (h : RE n (vC v t) (u 1)) (hi : RI n m b c v) (ht0 : v 1 t = 0) : mX6_findTriple u (nI t) r = match S3 (G3 v u t r) (fun a p c => ((1 : Int32), nI a, nI p, nI c)) n with | some x => x | none => (0, u 0 2, u 0 3, u 0 4) := by
  have hn := h.1
  unfold S3
  refine s1_L (n := n) (ex := fun x => x) (mX6_findTriple_L2 u (nI t) r) (0, u 0 2, u 0 3, u 0 4) (fun f p hp => ?_) 13 0 (Nat.zero_le _) (by omega)
  rw [mX6_findTriple_L2_s, h.2.2.1]
  rcases Nat.lt_or_ge p n with qp | qp
  · rw [if_neg (nI_ge qp (by omega)), if_neg (by omega)]
    refine s1_L (n := n) (ex := fun x => x) (mX6_findTriple_L15 u (nI t) r p (mX6_findTriple_K15 u (nI t) r p (mX6_findTriple_L2 u (nI t) r f))) (mX6_findTriple_L2 u (nI t) r f (p + 1)) (fun f2 a ha => ?_) 13 0 (Nat.zero_le _) (by omega)
    rw [mX6_findTriple_L15_s, h.2.2.1]
    rcases Nat.lt_or_ge a n with qa | qa
    · rw [if_neg (nI_ge qa (by omega)), if_neg (by omega)]
      refine s1_L (n := n) (ex := fun x => x) (mX6_findTriple_L29 u (nI t) r p a (mX6_findTriple_K29 u (nI t) r p a (mX6_findTriple_L15 u (nI t) r p (mX6_findTriple_K15 u (nI t) r p (mX6_findTriple_L2 u (nI t) r f)) f2))) (mX6_findTriple_L15 u (nI t) r p (mX6_findTriple_K15 u (nI t) r p (mX6_findTriple_L2 u (nI t) r f)) f2 (a + 1)) (fun f3 c hc => ?_) 13 0 (Nat.zero_le _) (by omega)
      rw [mX6_findTriple_L29_s, h.2.2.1]
      rcases Nat.lt_or_ge c n with qc | qc
      · rw [if_neg (nI_ge qc (by omega)), if_neg (by omega)]
        have tri : (mX6_isTriple u (nI a) (nI p) (nI c) = 0) = ¬ (EE v a p ∧ EE v p c) := by
          apply propext
          unfold mX6_isTriple
          by_cases e1 : mX6_isEdge u (nI a) (nI p) = 0
          · rw [if_pos e1]; rw [h.edge0 qa qp, vC_EE hi ht0 qa qp] at e1
            exact ⟨fun _ z => e1 z.1, fun _ => rfl⟩
          · rw [if_neg e1]; rw [h.edge0 qa qp, vC_EE hi ht0 qa qp] at e1
            by_cases e2 : mX6_isEdge u (nI p) (nI c) = 0
            · rw [if_pos e2]; rw [h.edge0 qp qc, vC_EE hi ht0 qp qc] at e2
              exact ⟨fun _ z => e2 z.2, fun _ => rfl⟩
            · rw [if_neg e2]; rw [h.edge0 qp qc, vC_EE hi ht0 qp qc] at e2
              exact ⟨fun z => absurd z (by decide), fun z => absurd ⟨Classical.byContradiction e1, Classical.byContradiction e2⟩ z⟩
        have eT : ∀ x, x < n → (nI x = nI t ↔ x = t) := fun x hx => nI_eq (by omega) (by omega)
        by_cases d1 : vC v t 1 a = 1
        · rw [if_neg (by rw [h.in0 qa]; exact fun z => z d1)]
          by_cases d2 : vC v t 1 p = 1
          · rw [if_neg (by rw [h.in0 qp]; exact fun z => z d2)]
            by_cases d3 : vC v t 1 c = 1
            · rw [if_neg (by rw [h.in0 qc]; exact fun z => z d3)]
              by_cases d5 : mX6_isTriple u (nI a) (nI p) (nI c) = 0
              · rw [gG_neg (G := G3 v u t r a p c) (fun z => by rw [tri] at d5; exact d5 ⟨z.2.2.2.2.1, z.2.2.2.2.2.1⟩)]
                rw [if_pos d5, if_pos d5, if_pos d5]
                split
                · rfl
                · split
                  · rfl
                  · split <;> rfl
              · rw [if_neg d5, if_neg d5, if_neg d5]
                rw [tri] at d5
                have d5' := Classical.byContradiction d5
                by_cases d6 : mX6_counts u r (nI a) (nI p) (nI c) = 0
                · rw [gG_neg (G := G3 v u t r a p c) (fun z => z.2.2.2.2.2.2 d6)]
                  rw [if_pos d6, if_pos d6, if_pos d6]
                  split
                  · rfl
                  · split
                    · rfl
                    · split <;> rfl
                · rw [if_neg d6, if_neg d6, if_neg d6]
                  by_cases f1 : a = t
                  · rw [if_pos ((eT a qa).mpr f1), gG_pos (G := G3 v u t r a p c) ⟨d1, d2, d3, Or.inl f1, d5'.1, d5'.2, d6⟩]
                  · rw [if_neg (fun z => f1 ((eT a qa).mp z))]
                    by_cases f2 : p = t
                    · rw [if_pos ((eT p qp).mpr f2), gG_pos (G := G3 v u t r a p c) ⟨d1, d2, d3, Or.inr (Or.inl f2), d5'.1, d5'.2, d6⟩]
                    · rw [if_neg (fun z => f2 ((eT p qp).mp z))]
                      by_cases f3 : c = t
                      · rw [if_pos ((eT c qc).mpr f3), gG_pos (G := G3 v u t r a p c) ⟨d1, d2, d3, Or.inr (Or.inr f3), d5'.1, d5'.2, d6⟩]
                      · rw [if_neg (fun z => f3 ((eT c qc).mp z)), gG_neg (G := G3 v u t r a p c) (fun z => by
                          rcases z.2.2.2.1 with y | y | y
                          · exact f1 y
                          · exact f2 y
                          · exact f3 y)]
            · rw [if_pos (by rw [h.in0 qc]; exact d3), gG_neg (G := G3 v u t r a p c) (fun z => d3 z.2.2.1)]
          · rw [if_pos (by rw [h.in0 qp]; exact d2), gG_neg (G := G3 v u t r a p c) (fun z => d2 z.2.1)]
        · rw [if_pos (by rw [h.in0 qa]; exact d1), gG_neg (G := G3 v u t r a p c) (fun z => d1 z.1)]
      · rw [if_pos (nI_le qc (by omega)), if_pos qc]; rfl
    · rw [if_pos (nI_le qa (by omega)), if_pos qa]; rfl
  · rw [if_pos (nI_le qp (by omega)), if_pos qp]
end A
