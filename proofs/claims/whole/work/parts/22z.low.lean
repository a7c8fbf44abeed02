theorem lowb256 : ∀ a, a < 256 → ∀ b, b < 256 → 0 < 256 * a + b → ¬ ((256 * a + b) &&& (4294967296 - (256 * a + b))) = 0 := by decide +kernel
theorem lowb (n : Nat) (h : n < 65536) (h0 : 0 < n) : ¬ (n &&& (4294967296 - n)) = 0 := by
  have h2 := lowb256 (n / 256) (by omega) (n % 256) (by omega)
  rw [Nat.div_add_mod n 256] at h2
  exact h2 h0
/-- the lowest bit, less one -/
theorem bOK.low {x : Int32} (h : bOK 65535 x) (c : ¬ x = 0) : bOK 65535 ((x &&& (-x)) - 1) := by
  obtain ⟨n, hn, rfl⟩ := h
  have h0 : 0 < n := Nat.pos_of_ne_zero (fun q => c (by rw [q]; rfl))
  have e : -(nI n) = nI (4294967296 - n) := by
    apply Int32.toBitVec_inj.1
    show -(BitVec.ofNat 32 n) = BitVec.ofNat 32 (4294967296 - n)
    apply BitVec.eq_of_toNat_eq
    rw [BitVec.toNat_neg, BitVec.toNat_ofNat, BitVec.toNat_ofNat, Nat.mod_eq_of_lt (a := n) (by omega)]
  rw [e, kandI]
  have hle : n &&& (4294967296 - n) ≤ n := Nat.and_le_left
  obtain ⟨k, hk⟩ : ∃ k, k = n &&& (4294967296 - n) := ⟨_, rfl⟩
  rw [← hk] at hle ⊢
  cases k with
  | zero => exact absurd hk.symm (lowb n (by omega) h0)
  | succ k => rw [nI_pred]; exact ⟨k, by omega, rfl⟩
theorem isEdge_ne {u : kG} {t w : Int32} (c : ¬ mX6_isEdge u t w = 0) : ¬ ((mX6_its u t 3) &&& (mX6_its u w 4)) = 0 := by
  intro q
  apply c
  unfold mX6_isEdge
  split
  · rfl
  · first | rfl | rw [if_pos q]

