/-! the order's answers -/
section ORDT
variable {n m : Nat} {b c : Nat → Nat} {v w r : kG} {i j k t : Nat} {S : kS}
theorem arr_all {all : Nat} (h : ORD v n all) : (∀ w, (mX4_arrange w v).1 = 0) ∨ (∀ w, (mX4_arrange w v).1 = 1) := h.elim (fun z => Or.inl z.1) (fun z => Or.inr z.1)
theorem ord_hi {all : Nat} (hv : S 0 = v) (ha : all ≤ 12) (hall : mJ6_bitCount_0f7a4 (mX2_inPhase v 1) = nI all) : (mX5_order S (nI all)).1 = -1 ∧ (mX5_order S (nI all)).2 0 = v := by
  refine ⟨?_, (order_0 S _).trans hv⟩
  rw [mX5_order_s, if_neg (nI_pos (by omega)), hv, hall, if_neg (nI_nlt (Nat.le_refl _) (by omega))]
theorem ord_neg (hv : S 0 = v) : (mX5_order S (-1)).1 = -1 ∧ (mX5_order S (-1)).2 0 = v := by
  refine ⟨?_, (order_0 S _).trans hv⟩
  rw [mX5_order_s, if_pos (by decide)]
theorem ord_no {all p : Nat} (hv : S 0 = v) (ha : all ≤ 12) (hall : mJ6_bitCount_0f7a4 (mX2_inPhase v 1) = nI all) (hp : p < all) (h0 : ∀ w, (mX4_arrange w v).1 = 0) : (mX5_order S (nI p)).1 = -5 ∧ (mX5_order S (nI p)).2 0 = v := by
  refine ⟨?_, (order_0 S _).trans hv⟩
  rw [mX5_order_s, if_neg (nI_pos (by omega)), hv, hall, if_pos (nI_lt hp (by omega))]
  dsimp only
  rw [if_pos (h0 _)]
theorem ord_at {all p : Nat} {T : Nat → Nat} (hv : S 0 = v) (ha : all ≤ 12) (hall : mJ6_bitCount_0f7a4 (mX2_inPhase v 1) = nI all) (hp : p < all) (h0 : ∀ w, (mX4_arrange w v).1 = 1) (hT : ∀ w q, q < all → (mX4_arrange w v).2.2 q = nI (T q)) : (mX5_order S (nI p)).1 = nI (T p) ∧ (mX5_order S (nI p)).2 0 = v := by
  refine ⟨?_, (order_0 S _).trans hv⟩
  rw [mX5_order_s, if_neg (nI_pos (by omega)), hv, hall, if_pos (nI_lt hp (by omega))]
  dsimp only
  rw [if_neg (by rw [h0]; decide)]
  show mX4_at _ (nI p) = _
  rw [mX4_at_s, if_neg (nI_pos (by omega)), if_neg (k12ge (by omega)), nI_clamp (by omega)]
  exact hT (S 13) p hp
theorem ord_T (hn : n ≤ 12) (h2 : v 0 2 = nI n) (hi : RI n m b c v) (x : Int32) : ordT v x := by
  intro S hv
  obtain ⟨all, ha, e, hall, ho⟩ := arrange_S hn h2 hi
  by_cases h1 : x < 0
  · left; rw [mX5_order_s, if_pos h1]; exact (show (-1 : Int32) < 0 by decide)
  · obtain ⟨p, hp, rfl⟩ := nI_of h1
    rcases Nat.lt_or_ge p all with q | q
    · rcases ho with ⟨h0, _⟩ | ⟨h0, T, hT, hq⟩
      · left; rw [(ord_no hv ha hall q h0).1]; decide
      · right; rw [(ord_at hv ha hall q h0 hT).1]; exact tOK.nI (by have := (hq p q).1; omega)
    · left
      rw [mX5_order_s, if_neg h1, hv, hall, if_neg (nI_nlt q hp)]
      exact (show (-1 : Int32) < 0 by decide)
theorem cnt9 (hv : S 0 = v) {x : Int32} (h0 : ∀ w, (mX4_arrange w v).1 = x) (hx : x = 0 ∨ x = 1) : (mX5_count S 9).1 = x ∧ (mX5_count S 9).2 0 = v := by
  refine ⟨?_, (count_0 S _).trans hv⟩
  have e : mX5_count S 9 = (if (mX4_arrange (S 13) (S 0)).1 = 0 then (0, (gset S 13 (rset (rset (S 13) 1 ((mX4_arrange (S 13) (S 0)).2.1)) 2 ((mX4_arrange (S 13) (S 0)).2.2)))) else (1, (gset S 13 (rset (rset (S 13) 1 ((mX4_arrange (S 13) (S 0)).2.1)) 2 ((mX4_arrange (S 13) (S 0)).2.2))))) := by
    rw [mX5_count_s]; rfl
  rw [e, hv]
  rcases hx with rfl | rfl
  · rw [if_pos (h0 _)]
  · rw [if_neg (by rw [h0]; decide)]
end ORDT
