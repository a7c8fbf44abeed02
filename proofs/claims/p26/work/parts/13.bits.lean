/-! bits, sets of transactions (rows fa_or, fa_and, s_l out of the texts to paste) -/
theorem fa_or (a b : Nat) : nI a ||| nI b = nI (a ||| b) := by
  apply Int32.toBitVec_inj.1
  show BitVec.ofNat 32 a ||| BitVec.ofNat 32 b = BitVec.ofNat 32 (a ||| b)
  apply BitVec.eq_of_getLsbD_eq
  intro i hi
  simp [hi]
theorem fa_and (a b : Nat) : nI a &&& nI b = nI (a &&& b) := by
  apply Int32.toBitVec_inj.1
  show BitVec.ofNat 32 a &&& BitVec.ofNat 32 b = BitVec.ofNat 32 (a &&& b)
  apply BitVec.eq_of_getLsbD_eq
  intro i hi
  simp [hi]
theorem s_l : ∀ n, n < 32 → ((nI n &&& 31).toBitVec.smod 32).toNat = n := by decide +kernel
theorem kshl : ∀ i, i < 31 → (1 : Int32) <<< (nI i &&& 31) = nI (2 ^ i) := by decide +kernel
theorem kshr {n j : Nat} (hn : n < 2 ^ 31) (hj : j < 32) : nI n >>> (nI j &&& 31) = nI (n / 2 ^ j) := pk_shrN hn _ j (s_l j hj)
theorem kand1 (n : Nat) (hn : n < 2 ^ 32) : nI n &&& 1 = nI (n % 2) := pk_andN hn 1 (by decide)
/-- a set of transactions -/
def sOK (x : Int32) : Prop := ∃ n : Nat, n < 4096 ∧ x = nI n
theorem sOK.zero : sOK 0 := ⟨0, by decide, rfl⟩
theorem sOK.or {x y : Int32} (h : sOK x) (g : sOK y) : sOK (x ||| y) := by
  obtain ⟨n, hn, rfl⟩ := h
  obtain ⟨k, hk, rfl⟩ := g
  exact ⟨n ||| k, Nat.or_lt_two_pow (n := 12) hn hk, fa_or n k⟩
theorem sOK.one {i : Nat} (h : i < 12) : sOK (1 <<< (nI i &&& 31)) := ⟨2 ^ i, Nat.pow_lt_pow_right (by decide) h, kshl i (by omega)⟩
theorem sOK.and {x y : Int32} (h : sOK x) (g : sOK y) : sOK (x &&& y) := by
  obtain ⟨n, hn, rfl⟩ := h
  obtain ⟨k, hk, rfl⟩ := g
  exact ⟨n &&& k, Nat.lt_of_le_of_lt Nat.and_le_left hn, fa_and n k⟩
theorem kbc64 : ∀ a, a < 64 → ∀ b, b < 64 → mJ6_bitCount_0f7a4 (nI (64 * a + b)) = nI (kpop 12 (64 * a + b)) := by decide +kernel
theorem kbc (n : Nat) (h : n < 4096) : mJ6_bitCount_0f7a4 (nI n) = nI (kpop 12 n) := by
  have h2 := kbc64 (n / 64) (by omega) (n % 64) (by omega)
  rwa [Nat.div_add_mod n 64] at h2
theorem sOK.bc {x : Int32} (h : sOK x) : nOK (mJ6_bitCount_0f7a4 x) := by
  obtain ⟨n, hn, rfl⟩ := h
  exact ⟨kpop 12 n, kpop_le 12 n, kbc n hn⟩
theorem inPhase_L_set {v : kG} {w : Int32} (hv : nOK (v 0 2)) : ∀ (n : Nat) (x : Int32) (i : Nat), i ≤ 12 → sOK x → sOK (mX2_inPhase_L4 v w n x i) := by
  intro n
  induction n with
  | zero => intro x i _ _; exact sOK.zero
  | succ n ih =>
    intro x i hi hx
    rw [mX2_inPhase_L4_s]
    split
    · exact hx
    · rename_i c
      have hi2 := nOK.lt hv hi c
      split
      · exact ih _ _ (by omega) (hx.or (sOK.one hi2))
      · exact ih _ _ (by omega) hx
theorem inPhase_set {v : kG} (hv : nOK (v 0 2)) (w : Int32) : sOK (mX2_inPhase v w) := inPhase_L_set hv _ _ _ (by omega) sOK.zero
