theorem kpop_up : ∀ (k n : Nat), n < 2 ^ k → kpop (k + 1) n = kpop k n := by
  intro k
  induction k with
  | zero => intro n h; rw [show n = 0 from by simpa using h]; rfl
  | succ k ih =>
    intro n h
    rw [Nat.pow_succ] at h
    show kpop (k + 1) (n / 2) + n % 2 = kpop k (n / 2) + n % 2
    rw [ih (n / 2) (by omega)]
theorem kpop16 {n : Nat} (h : n < 4096) : kpop 16 n = kpop 12 n := by
  rw [kpop_up 15 n (by omega), kpop_up 14 n (by omega), kpop_up 13 n (by omega), kpop_up 12 n (by omega)]
theorem bits_L {y : Int32} : ∀ (m s i : Nat), s < 65536 → kpop 16 s < m → mX6_bits_L4 y m i (nI s) = nI (i + kpop 16 s) := by
  intro m
  induction m with
  | zero => intro s i h1 h2; omega
  | succ m ih =>
    intro s i h1 h2
    rw [mX6_bits_L4_s]
    cases s with
    | zero => rw [if_pos (show nI 0 = 0 from rfl), kpop0]; rfl
    | succ s =>
      have hne : ¬ nI (s + 1) = 0 := nI_ne0 (by omega) (by omega)
      rw [if_neg hne, nI_pred, kandI]
      have h4 := kpop_low 16 (s + 1) (by omega) (by omega)
      rw [Nat.add_sub_cancel] at h4
      have hle : (s + 1) &&& s ≤ s + 1 := Nat.and_le_left
      rw [ih ((s + 1) &&& s) (i + 1) (by omega) (by omega)]
      congr 1
      omega
theorem bits_v {s : Nat} (h : s < 65536) : mX6_bits (nI s) = nI (kpop 16 s) := by
  show mX6_bits_L4 (nI s) 17 0 (nI s) = _
  rw [bits_L 17 s 0 h (Nat.lt_succ_of_le (kpop_le 16 s)), Nat.zero_add]
theorem bits_n {x : Int32} (h : sOK x) : nOK (mX6_bits x) := by
  obtain ⟨n, hn, rfl⟩ := h
  rw [bits_v (by omega), kpop16 hn]
  exact ⟨_, kpop_le 12 n, rfl⟩
/-- laying the order: what is left, how many are laid -/
def loM (left more : Int32) (i m : Nat) : Prop := ∃ s : Nat, s < 4096 ∧ left = nI s ∧ i + kpop 12 s ≤ 12 ∧ kpop 12 s + (if more = 0 then 0 else 1) < m
theorem loM.no {x y : Int32} {i : Nat} (h : loM x y i 0) : False := by
  obtain ⟨s, h1, h2, h3, h4⟩ := h; omega
theorem loM.init {x : Int32} (h : sOK x) : loM x 1 0 14 := by
  obtain ⟨s, h1, h2⟩ := h
  have := kpop_le 12 s
  exact ⟨s, h1, h2, by omega, by rw [if_neg (by decide)]; omega⟩
theorem loM.end {x y : Int32} {i m : Nat} (h : loM x y i (m + 1)) (c : ¬ y = 0) : loM x 0 i m := by
  obtain ⟨s, h1, h2, h3, h4⟩ := h
  rw [if_neg c] at h4
  exact ⟨s, h1, h2, h3, by rw [if_pos rfl]; omega⟩
def bitIn (x t : Int32) : Prop := ∃ j : Nat, j < 12 ∧ t = nI j ∧ ((x >>> (t &&& 31)) &&& 1) = 1
theorem bitIn.mk {x t : Int32} (h : tOK t) (c : ((x >>> (t &&& 31)) &&& 1) = 1) : bitIn x t := by
  obtain ⟨j, hj, e⟩ := h; exact ⟨j, hj, e, c⟩
theorem kpop_clr : ∀ (k j n : Nat), j < k → n / 2 ^ j % 2 = 1 → kpop k (n - 2 ^ j) + 1 = kpop k n := by
  intro k
  induction k with
  | zero => intro j n h; omega
  | succ k ih =>
    intro j n h hb
    show kpop k ((n - 2 ^ j) / 2) + (n - 2 ^ j) % 2 + 1 = kpop k (n / 2) + n % 2
    cases j with
    | zero =>
      rw [Nat.pow_zero, Nat.div_one] at hb
      rw [Nat.pow_zero, show (n - 1) / 2 = n / 2 from by omega, show (n - 1) % 2 = 0 from by omega, hb]
    | succ j =>
      have hp : 2 ^ (j + 1) = 2 * 2 ^ j := by rw [Nat.pow_succ, Nat.mul_comm]
      rw [hp, ← Nat.div_div_eq_div_mul] at hb
      have h2 := ih j (n / 2) (by omega) hb
      rw [hp, show (n - 2 * 2 ^ j) / 2 = n / 2 - 2 ^ j from by omega]
      have hge : 2 ^ j ≤ n / 2 := by
        rcases Nat.lt_or_ge (n / 2) (2 ^ j) with q | q
        · rw [Nat.div_eq_of_lt q] at hb; omega
        · exact q
      rw [show (n - 2 * 2 ^ j) % 2 = n % 2 from by omega]
      omega
theorem kclr0 : ∀ j, j < 12 → ∀ a, a < 64 → ∀ b, b < 64 → (64 * a + b) / 2 ^ j % 2 = 1 → (64 * a + b) &&& (4294967295 - 2 ^ j) = 64 * a + b - 2 ^ j := by decide +kernel
theorem kneg : ∀ j, j < 12 → ((1 : Int32) <<< (nI j &&& 31)) ^^^ (-1) = nI (4294967295 - 2 ^ j) := by decide +kernel
theorem kclr (j s : Nat) (hj : j < 12) (hs : s < 4096) (h : ((nI s >>> (nI j &&& 31)) &&& 1) = 1) : (nI s &&& ((1 <<< (nI j &&& 31)) ^^^ (-1))) = nI (s - 2 ^ j) ∧ kpop 12 (s - 2 ^ j) + 1 = kpop 12 s := by
  rw [kshr (by omega) (by omega), kand1 _ (Nat.lt_of_le_of_lt (Nat.div_le_self _ _) (by omega))] at h
  have hb : s / 2 ^ j % 2 = 1 := by
    have h2 : s / 2 ^ j % 2 < 2 := Nat.mod_lt _ (by decide)
    exact (nI_eq (a := s / 2 ^ j % 2) (b := 1) (by omega) (by omega)).mp h
  refine ⟨?_, kpop_clr 12 j s hj hb⟩
  rw [kneg j hj, kandI]
  have h3 := kclr0 j hj (s / 64) (by omega) (s % 64) (by omega)
  rw [Nat.div_add_mod s 64] at h3
  rw [h3 hb]
theorem loM.step {x y t : Int32} {i m : Nat} (h : loM x y i (m + 1)) (c : ¬ y = 0) (hb : bitIn x t) : loM (x &&& ((1 <<< (t &&& 31)) ^^^ (-1))) 1 (i + 1) m := by
  obtain ⟨s, h1, rfl, h3, h4⟩ := h
  obtain ⟨j, hj, rfl, hc⟩ := hb
  obtain ⟨e1, e2⟩ := kclr j s hj h1 hc
  have hle : s - 2 ^ j ≤ s := Nat.sub_le _ _
  rw [if_neg c] at h4
  rw [e1]
  exact ⟨s - 2 ^ j, by omega, rfl, by omega, by rw [if_neg (by decide)]; omega⟩
theorem loM.lt {x y t : Int32} {i m : Nat} (h : loM x y i m) (hb : bitIn x t) : i < 12 := by
  obtain ⟨s, h1, rfl, h3, h4⟩ := h
  obtain ⟨j, hj, rfl, hc⟩ := hb
  obtain ⟨e1, e2⟩ := kclr j s hj h1 hc
  have hle : s - 2 ^ j ≤ s := Nat.sub_le _ _
  omega
/-- counting down -/
def dnM (x : Int32) (m : Nat) : Prop := ∃ k : Nat, k ≤ 12 ∧ x = nI k - 1 ∧ k < m
theorem dnM.no {x : Int32} (h : dnM x 0) : False := by
  obtain ⟨k, h1, h2, h3⟩ := h; omega
theorem dnM.init {x : Int32} (h : nOK x) : dnM (x - 1) 13 := by
  obtain ⟨n, h1, rfl⟩ := h; exact ⟨n, h1, rfl, by omega⟩
theorem dnM.pos {x : Int32} {m : Nat} (h : dnM x (m + 1)) (c : ¬ x < 0) : ∃ k : Nat, k < 12 ∧ x = nI k ∧ k < m := by
  obtain ⟨k, h1, rfl, h3⟩ := h
  cases k with
  | zero => exact absurd (by decide) c
  | succ k => exact ⟨k, by omega, nI_pred k, by omega⟩
theorem dnM.t {x : Int32} {m : Nat} (h : dnM x (m + 1)) (c : ¬ x < 0) : tOK x := by
  obtain ⟨k, h1, h2, h3⟩ := h.pos c; exact ⟨k, h1, h2⟩
theorem dnM.step {x : Int32} {m : Nat} (h : dnM x (m + 1)) (c : ¬ x < 0) : dnM (x + (-1)) m := by
  obtain ⟨k, h1, rfl, h3⟩ := h.pos c
  exact ⟨k, by omega, by rw [Int32.sub_eq_add_neg], h3⟩
theorem kpl {x m : Int32} (h : nOK m) (h0 : ¬ x < 0) (c : x < m) : vp_in x 12 := by
  obtain ⟨n, hn, rfl⟩ := h
  obtain ⟨j, hj, rfl⟩ := nI_of h0
  rcases Nat.lt_or_ge j n with q | q
  · exact vp_in_nI (by omega) (by omega)
  · exact absurd c (nI_nlt q hj)
/-- reading a number of signs: what is left -/
def ptM (x : Int64) (i m : Nat) : Prop := ∃ k : Nat, i + k ≤ 8 ∧ x.toBitVec.toNat < 2 ^ (8 * k) ∧ k < m
theorem ptM.no {x : Int64} {i : Nat} (h : ptM x i 0) : False := by
  obtain ⟨k, h1, h2, h3⟩ := h; omega
theorem ptM.init (x : Int64) : ptM x 0 9 := ⟨8, by omega, x.toBitVec.isLt, by omega⟩
theorem ptM.le {x : Int64} {i m : Nat} (h : ptM x i m) : i ≤ 8 := by
  obtain ⟨k, h1, h2, h3⟩ := h; omega
theorem shr8 (x : Int64) : ((x.toUInt64 >>> ((8 : Int32).toInt64.toUInt64 &&& Int64.toUInt64 63)).toInt64).toBitVec.toNat = x.toBitVec.toNat / 256 := by
  show (x.toUInt64 >>> ((8 : Int32).toInt64.toUInt64 &&& Int64.toUInt64 63)).toBitVec.toNat = _
  rw [UInt64.toBitVec_shiftRight]
  show (x.toBitVec >>> (((8 : Int32).toInt64.toUInt64 &&& Int64.toUInt64 63).toBitVec % 64).toNat).toNat = _
  rw [show (((8 : Int32).toInt64.toUInt64 &&& Int64.toUInt64 63).toBitVec % 64).toNat = 8 from by decide +kernel, BitVec.toNat_ushiftRight, Nat.shiftRight_eq_div_pow]
theorem ptM.step {x : Int64} {i m : Nat} (h : ptM x i (m + 1)) (c : ¬ lg_cmp x 0 = 0) : ptM ((x.toUInt64 >>> ((8 : Int32).toInt64.toUInt64 &&& Int64.toUInt64 63)).toInt64) (i + 1) m := by
  obtain ⟨k, h1, h2, h3⟩ := h
  cases k with
  | zero =>
    exfalso
    apply c
    have hx : x = 0 := by
      apply Int64.toBitVec_inj.mp
      apply BitVec.eq_of_toNat_eq
      have h4 : x.toBitVec.toNat < 1 := h2
      show x.toBitVec.toNat = 0
      omega
    rw [hx]; decide
  | succ k =>
    refine ⟨k, by omega, ?_, by omega⟩
    rw [shr8]
    have h4 : x.toBitVec.toNat < 2 ^ (8 * k) * 256 := by
      have e : 2 ^ (8 * (k + 1)) = 2 ^ (8 * k) * 256 := by rw [Nat.mul_add, Nat.pow_add]
      rw [← e]; exact h2
    exact Nat.div_lt_of_lt_mul (by omega)

