/-! the class's search; the reason -/
def pk3 (a p c : Nat) : Int32 := ((((nI p) <<< (4 &&& 31)) ||| (nI a)) <<< (4 &&& 31)) ||| (nI c)
theorem pk3_all : ∀ a, a < 12 → ∀ p, p < 12 → ∀ c, c < 12 → ¬ pk3 a p c = -6 ∧ mX0_partOfTriple (pk3 a p c) 0 = nI a ∧ mX0_partOfTriple (pk3 a p c) 1 = nI p ∧ mX0_partOfTriple (pk3 a p c) 2 = nI c := by decide +kernel
theorem rset_eq {u : kG} {r : Nat} {f : Nat → Int32} : rset u r f r = f := if_pos rfl
theorem rset_ne {u : kG} {r k : Nat} {f : Nat → Int32} (h : k ≠ r) : rset u r f k = u k := if_neg h
section A
variable {n m : Nat} {b c : Nat → Nat} {v u : kG} {i j : Nat}
theorem pE_t {a p : Nat} (hn : n ≤ 12) (ha : a < n) (hp : p < n) : (pE v a p = true) = EE v a p := by
  apply propext
  unfold pE
  simp only [Bool.not_eq_true', decide_eq_false_iff_not]
  rw [edgeK0 hn ha hp]
  exact Classical.not_not
theorem tog_k {t : Nat} (hn : n ≤ 12) (h2 : v 0 2 = nI n) (ht : t < n) : (mX2_inPhase v 1) ||| (1 <<< (nI t &&& 31)) = nI (kst (fun j => decide (v 1 j = 1)) n ||| 2 ^ t) := by
  rw [inPhase_k hn h2, kshl t (by omega), fa_or]
theorem tog_lt {t : Nat} (hn : n ≤ 12) (ht : t < n) : kst (fun j => decide (v 1 j = 1)) n ||| 2 ^ t < 4096 :=
  Nat.or_lt_two_pow (n := 12) (kst_lt12 _ hn) (Nat.pow_lt_pow_right (by decide) (by omega))
theorem tog_bit {t a : Nat} (ha : a < n) (ht : t < n) : (kst (fun j => decide (v 1 j = 1)) n ||| 2 ^ t).testBit a = decide (vC v t 1 a = 1) := by
  rw [Nat.testBit_or, kst_bit, Nat.testBit_two_pow, vC1]
  by_cases q : a = t
  · subst q; simp
  · have q' : ¬ t = a := fun z => q z.symm
    simp [q, q', ha]
theorem tog0 {t p : Nat} (hn : n ≤ 12) (h2 : v 0 2 = nI n) (ht : t < n) (hp : p < n) : (mX5_contains ((mX2_inPhase v 1) ||| (1 <<< (nI t &&& 31))) (nI p) = 0) = ¬ vC v t 1 p = 1 := by
  have := tog_lt (v := v) hn ht
  rw [tog_k hn h2 ht, kct0 (by omega) (by omega), tog_bit hp ht]
  simp
theorem src0 {t p a : Nat} (hn : n ≤ 12) (h2 : v 0 2 = nI n) (ht : t < n) (hp : p < n) (ha : a < n) : (mX5_contains ((mX2_edgesTo v (nI p)) &&& ((mX2_inPhase v 1) ||| (1 <<< (nI t &&& 31)))) (nI a) = 0) = ¬ (EE v a p ∧ vC v t 1 a = 1) := by
  rw [tog_k hn h2 ht, edgesTo_k hn h2, fa_and, kct0 (by have h3 := kst_lt12 (fun j => pE v j p) hn; exact Nat.lt_of_le_of_lt Nat.and_le_left (by omega)) (by omega), Nat.testBit_and, tog_bit ha ht, kst_bit]
  rw [← pE_t hn ha hp]
  simp [ha]
theorem tgt0 {t p a : Nat} (hn : n ≤ 12) (h2 : v 0 2 = nI n) (ht : t < n) (hp : p < n) (ha : a < n) : (mX5_contains ((mX2_edgesFrom v (nI p)) &&& ((mX2_inPhase v 1) ||| (1 <<< (nI t &&& 31)))) (nI a) = 0) = ¬ (EE v p a ∧ vC v t 1 a = 1) := by
  rw [tog_k hn h2 ht, edgesFrom_k hn h2, fa_and, kct0 (by have h3 := kst_lt12 (fun j => pE v p j) hn; exact Nat.lt_of_le_of_lt Nat.and_le_left (by omega)) (by omega), Nat.testBit_and, tog_bit ha ht, kst_bit]
  rw [← pE_t hn hp ha]
  simp [ha]
/-! the reason -/
def zC (u : kG) (t : Nat) : Nat → Int32 := upd (upd (u 1) (3 + 23 * t + 0) 1) (3 + 23 * t + 2) (u 1 1 + 1)
end A

