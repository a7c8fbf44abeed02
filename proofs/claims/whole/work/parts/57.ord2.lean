/-! the order, laid -/
section A
variable {n m : Nat} {b c : Nat → Nat} {v u w : kG} {i j : Nat}
theorem arr_L {g g' : Nat → Int32} (hg : AG g g') (hn : n ≤ 12) (h2 : u 1 2 = nI n) {all : Nat} (ha : all ≤ 12) (hall : mJ6_bitCount_0f7a4 (mX2_inPhase v 1) = nI all) : ∀ f f' s p (P P' : Nat → Int32), s < 2 ^ n → kpop 12 s + p = all → all < f + p → all + 1 < f' + p → (∀ j, j < p → P j = P' j) →
    ∃ Pc Pr N ok, mX4_arrange_L19 w v g f (nI s) p P = (ok, g, Pc) ∧ mX6_layOrder_L14 u g' f' (nI s) p 1 P' = (nI N, g', Pr) ∧ (ok = 1 ∧ N = all ∧ (∀ j, j < all → Pc j = Pr j) ∨ ok = 0 ∧ N < all) := by
  intro f
  induction f with
  | zero => intro f' s p P P' h1 h3 h4; omega
  | succ f ih =>
    intro f' s p P P' hs hk hf hf' hP
    have hs12 : s < 4096 := Nat.lt_of_lt_of_le hs (Nat.pow_le_pow_right (by decide) hn)
    cases f' with
    | zero => omega
    | succ f' =>
      rw [mX4_arrange_L19_s, mX6_layOrder_L14_s, hall, if_neg (c := (1 : Int32) = 0) (by decide), h2]
      have hlow : LF g s (mX4_lowestFree (rset (rset w 1 g) 2 P) (nI s)) := low_ok (w := rset (rset w 1 g) 2 P) hs12
      obtain ⟨r, hr, er⟩ := next_L (g := g') hs12 (mX6_layOrder_L32 u g' (nI s) p 1 P' (mX6_layOrder_K32 u g' (nI s) p 1 P' (mX6_layOrder_L14 u g' f'))) (fun x => mX6_layOrder_K32 u g' (nI s) p 1 P' (mX6_layOrder_L14 u g' f') x 0) (fun f x y => by rw [mX6_layOrder_L32_s]; rfl) 13 n (-6) hn (by omega) (Or.inl ⟨rfl, fun i hi _ z => by
        have := z.1
        rw [Nat.testBit_lt_two_pow (Nat.lt_of_lt_of_le hs (Nat.pow_le_pow_right (by decide) hi))] at this
        cases this⟩)
      rw [er]
      have e0 : mX4_lowestFree (rset (rset w 1 g) 2 P) (nI s) = r := (hlow.AG hg).uniq hr
      rw [e0]
      have eK : mX6_layOrder_K32 u g' (nI s) p 1 P' (mX6_layOrder_L14 u g' f') r 0 = if r = -6 then mX6_layOrder_L14 u g' f' (nI s) p 0 P' else mX6_layOrder_L14 u g' f' ((nI s) &&& ((1 <<< (r &&& 31)) ^^^ (-1))) (p + 1) 1 (upd P' ((nI p)).toNatClampNeg r) := rfl
      rw [eK]
      have stop : r = -6 → (if r = -6 then mX6_layOrder_L14 u g' f' (nI s) p 0 P' else mX6_layOrder_L14 u g' f' ((nI s) &&& ((1 <<< (r &&& 31)) ^^^ (-1))) (p + 1) 1 (upd P' ((nI p)).toNatClampNeg r)) = (nI p, g', P') := by
        intro z
        rw [if_pos z]
        cases f' with
        | zero => omega
        | succ f' => rw [mX6_layOrder_L14_s, if_pos rfl]
      rcases Nat.lt_or_ge p all with q | q
      · rw [if_neg (nI_ge q (by omega))]
        rcases hr with ⟨z, _⟩ | ⟨i, hi, z, ⟨z1, z2⟩, _⟩
        · rw [stop z, if_pos z]
          exact ⟨P, P', p, 0, rfl, rfl, Or.inr ⟨rfl, q⟩⟩
        · have hne : ¬ r = -6 := by rw [z]; exact nI_ne6 (by omega)
          rw [if_neg hne, if_neg hne, z]
          obtain ⟨k1, k2⟩ := kclr i s hi hs12 (Eq.mpr (bit_kct hs12 (by omega)) z1)
          rw [k1, nI_clamp (n := p) (by omega)]
          refine ih f' (s - 2 ^ i) (p + 1) _ _ (Nat.lt_of_le_of_lt (Nat.sub_le _ _) hs) (by omega) (by omega) (by omega) (fun j hj => ?_)
          by_cases y : j = p
          · rw [y, pk_us, pk_us]
          · rw [pk_un y, pk_un y]; exact hP j (by omega)
      · rw [if_pos (nI_le q (by omega))]
        have hp : p = all := by omega
        have z : r = -6 := by
          rcases hr with ⟨z, _⟩ | ⟨i, hi, z, ⟨z1, z2⟩, _⟩
          · exact z
          · rw [Nat.testBit_eq_decide_div_mod_eq] at z1
            have := kpop_clr 12 i s hi (by simpa using z1)
            omega
        rw [stop z]
        exact ⟨P, P', p, 1, rfl, rfl, Or.inl ⟨rfl, hp, fun j hj => hP j (by omega)⟩⟩
theorem serial_eq (h : RE n v (u 1)) (hi : RI n m b c v) : ∃ ok g g' Pc Pr all, all ≤ 12 ∧ mJ6_bitCount_0f7a4 (mX2_inPhase v 1) = nI all ∧ mX4_arrange w v = (ok, g, Pc) ∧ mX6_isSerial u = (ok, g', Pr) ∧ (ok = 1 ∧ (∀ j, j < all → Pc j = Pr j) ∨ ok = 0) := by
  have hn := h.1
  obtain ⟨s, es⟩ : ∃ s, s = kst (fun j => decide (v 1 j = 1)) n := ⟨_, rfl⟩
  have hs : s < 2 ^ n := by rw [es]; exact kst_lt _ n
  have hs12 : s < 4096 := by rw [es]; exact kst_lt12 _ hn
  have e1 : mX2_inPhase v 1 = nI s := by rw [es]; exact inPhase_k hn h.2.1 1
  have e2 : ∀ w : kG, w 1 = u 1 → mX6_setOf w 1 = nI s := fun w hw => by rw [es]; exact setOf_k (u := w) (by rw [hw]; exact h) 1
  have hall : mJ6_bitCount_0f7a4 (mX2_inPhase v 1) = nI (kpop 12 s) := by rw [e1, kbc s hs12]
  have ha := kpop_le 12 s
  obtain ⟨Pc, Pr, N, ok, r1, r2, r3⟩ := arr_L (w := w) (ahead_ok (w := w) h hi) hn h.2.2.1 ha hall 13 14 s 0 (w 2) (u 7) hs (by omega) (by omega) (by omega) (fun j hj => absurd hj (Nat.not_lt_zero j))
  have f1 : mX4_arrange w v = (ok, mX4_gather w v, Pc) := by
    unfold mX4_arrange; dsimp only; rw [e1]; exact r1
  have f2 : mX6_layOrder u = (nI N, mX6_layAhead u, Pr) := by
    unfold mX6_layOrder; dsimp only; rw [e2 (rset u 6 (mX6_layAhead u)) rfl]; exact r2
  refine ⟨ok, mX4_gather w v, mX6_layAhead u, Pc, Pr, kpop 12 s, ha, hall, f1, ?_, ?_⟩
  · unfold mX6_isSerial
    rw [f2]
    dsimp only
    rw [e2 (rset (rset u 6 (mX6_layAhead u)) 7 Pr) rfl, bits_v (by omega), kpop16 hs12]
    rcases r3 with ⟨a1, a2, _⟩ | ⟨a1, a2⟩
    · rw [a2, if_pos rfl, a1]
    · rw [if_neg (fun z => by rw [nI_eq (by omega) (by omega)] at z; omega), a1]
  · rcases r3 with ⟨a1, _, a3⟩ | ⟨a1, _⟩
    · exact Or.inl ⟨a1, a3⟩
    · exact Or.inr a1
end A
