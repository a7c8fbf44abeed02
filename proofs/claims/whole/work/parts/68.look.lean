/-! the methods answer alike and keep the relation: looks -/
section A
variable {n m B B' : Nat} {b c : Nat → Nat} {S S' : kS} {u u' v : kG} {x y : Int32}
theorem RR.congr (h : RR B S u) (hS : ∀ j, j < 12 → S' j = S j) (hp0 : S' 12 0 0 = S 12 0 0) (hp1 : S' 12 1 = S 12 1) (e1 : u' 1 = u 1) (e2 : u' 2 = u 2) (e3 : u' 3 = u 3) (e4 : u' 4 = u 4) (e5 : u' 5 = u 5) (e00 : u' 0 0 = u 0 0) (e01 : u' 0 1 = u 0 1) : RR B S' u' := by
  refine ⟨?_, h.2.1.congr (fun j h1 h2 => hS j (by omega)) (hS 11 (by omega)) e00 e2, h.2.2.1.congr (hS 1 (by omega)) (hS 2 (by omega)) (hS 10 (by omega)) e3 e4, h.2.2.2.congr hp0 hp1 e01 e5⟩
  rw [hS 0 (by omega), e1]; exact h.1
theorem M_value (h : RR B S u) : mX5_value S x = mX6_value u x := by
  obtain ⟨n, m, b, c, hB, hE, hI, hW, hR, a1, a2, a3⟩ := h.1
  unfold mX5_value mX6_value
  rw [key_eq]
  by_cases c1 : mX6_isKey x = 0
  · rw [if_pos c1, if_pos c1]
  · rw [if_neg c1, if_neg c1, ← wAhead_eq hE hI, a2]
    rw [← key_eq] at c1
    obtain ⟨k, hk, rfl⟩ := keyN c1
    refine (val_eq hE hW hk ?_).1
    rcases wAhead_spec hE.1 hE.2.1 (fun t ht h1 => hI.pos ht h1) (nI k) ((S 0) 0 1 + 1) with ⟨z, _⟩ | ⟨j, hj, z, z2, _⟩
    · exact Or.inl z
    · exact Or.inr ⟨j, hj, z, z2.2.1⟩
theorem M_of (h : RR B S u) : mX5_of S x y = mX6_of u x y := by
  obtain ⟨n, m, b, c, hB, hE, hI, hW, hR, a1, a2, a3⟩ := h.1
  have hn := hE.1
  unfold mX5_of mX6_of
  rw [← hE.ex]
  by_cases c1 : mX2_exists (S 0) x = 0
  · rw [if_pos c1, if_pos c1]
  · rw [if_neg c1, if_neg c1]
    obtain ⟨t, ht, rfl⟩ := hE.tr c1
    rw [nI_clamp (by omega)]
    by_cases d0 : y = 0
    · rw [if_pos d0, if_pos d0, d0]; exact (hE.its0 ht).symm
    · rw [if_neg d0, if_neg d0]
      by_cases d1 : y = 1
      · rw [if_pos d1, if_pos d1, d1]; exact (hE.its1 ht).symm
      · rw [if_neg d1, if_neg d1]
        by_cases d2 : y = 2
        · rw [if_pos d2, if_pos d2, d2]; exact (hE.its2 ht).symm
        · rw [if_neg d2, if_neg d2]
          by_cases d3 : y = 3
          · rw [if_pos d3, if_pos d3, d3]; exact (hE.its3 ht).symm
          · rw [if_neg d3, if_neg d3]
            by_cases d4 : y = 4
            · rw [if_pos d4, if_pos d4, d4]; exact (hE.its4 ht).symm
            · rw [if_neg d4, if_neg d4, hE.eFrom ht, hE.eTo ht, hE.its5 ht, safety_eq hE hI hR ht]
theorem M_edge (h : RR B S u) : mX5_edge S x y = mX6_edge u x y := by
  obtain ⟨n, m, b, c, hB, hE, hI, hW, hR, a1, a2, a3⟩ := h.1
  unfold mX5_edge mX6_edge
  rw [← hE.ex, ← hE.ex]
  by_cases c1 : mX2_exists (S 0) x = 0
  · rw [if_pos c1, if_pos c1]
  · rw [if_neg c1, if_neg c1]
    by_cases c2 : mX2_exists (S 0) y = 0
    · rw [if_pos c2, if_pos c2]
    · rw [if_neg c2, if_neg c2]
      obtain ⟨t, ht, rfl⟩ := hE.tr c1
      obtain ⟨w, hw, rfl⟩ := hE.tr c2
      by_cases c3 : mX2_edgeKeys (S 0) (nI t) (nI w) = 0
      · rw [if_pos c3, if_pos (Eq.mpr (hE.edgeEq ht hw) c3)]
      · rw [if_neg c3, if_neg (fun z => c3 (Eq.mp (hE.edgeEq ht hw) z))]
theorem over_none {e : Int32} {t w : Int32} (he : mX2_edgeKeys (S 0) t w = 0) : ∀ f i, i ≤ 16 → 16 < f + i → mX5_over_L37 S t w f i = -6 := by
  intro f
  induction f with
  | zero => intro i h1 h2; omega
  | succ f ih =>
    intro i h1 h2
    rw [mX5_over_L37_s, he]
    rcases Nat.lt_or_ge i 16 with q | q
    · rw [if_neg (k16ge q), if_pos (by rw [show (0 : Int32) = nI 0 from rfl]; exact (kct (a := 0) (by omega) (by omega)).trans (by rw [Nat.zero_testBit]; rfl))]
      exact ih _ q (by omega)
    · rw [if_pos (k16le q h1)]
theorem over_first {a : Nat} {t w : Int32} (ha : a < 65536) (ha0 : ¬ a = 0) (he : mX2_edgeKeys (S 0) t w = nI a) : ∀ f i, i ≤ 16 → 16 < f + i → (∀ j, j < i → a.testBit j = false) → mX5_over_L37 S t w f i = mX6_bits ((nI a &&& -(nI a)) - 1) := by
  intro f
  induction f with
  | zero => intro i h1 h2; omega
  | succ f ih =>
    intro i h1 h2 h3
    rw [mX5_over_L37_s, he]
    rcases Nat.lt_or_ge i 16 with q | q
    · rw [if_neg (k16ge q)]
      by_cases c1 : mX5_contains (nI a) (nI i) = 0
      · rw [if_pos c1]
        rw [kct0 (by omega) (by omega)] at c1
        refine ih _ q (by omega) (fun j hj => ?_)
        rcases Nat.lt_or_ge j i with z | z
        · exact h3 j z
        · rw [show j = i by omega]; exact c1
      · rw [if_neg c1]
        rw [kct0 (by omega) (by omega)] at c1
        exact (klow_bits ha q (by simpa using c1) h3).symm
    · exfalso
      apply ha0
      apply Nat.eq_of_testBit_eq
      intro j
      rw [Nat.zero_testBit]
      rcases Nat.lt_or_ge j i with z | z
      · exact h3 j z
      · exact Nat.testBit_lt_two_pow (Nat.lt_of_lt_of_le (show a < 2 ^ 16 by omega) (Nat.pow_le_pow_right (by decide) (by omega)))
theorem M_over (h : RR B S u) : mX5_over S x y = mX6_over u x y := by
  obtain ⟨n, m, b, c, hB, hE, hI, hW, hR, a1, a2, a3⟩ := h.1
  unfold mX5_over mX6_over
  rw [← hE.ex, ← hE.ex]
  by_cases c1 : mX2_exists (S 0) x = 0
  · rw [if_pos c1, if_pos c1]
  · rw [if_neg c1, if_neg c1]
    by_cases c2 : mX2_exists (S 0) y = 0
    · rw [if_pos c2, if_pos c2]
    · rw [if_neg c2, if_neg c2]
      obtain ⟨t, ht, rfl⟩ := hE.tr c1
      obtain ⟨w, hw, rfl⟩ := hE.tr c2
      rcases Classical.em (EE (S 0) t w) with e | e
      · rw [if_neg (kF (hE.edge0 ht hw) e), hE.its3 ht, hE.its4 hw]
        have ek := edgeK_on hE.1 ht hw e.1
        obtain ⟨r, hr, er⟩ := hI.rd ht
        obtain ⟨s, hs, es⟩ := hI.wr hw
        have e2 := e.2
        rw [er, es, kandI] at e2 ek
        rw [er, es, kandI]
        have hle : r &&& s ≤ r := Nat.and_le_left
        exact over_first (by omega) (fun z => e2 (by rw [z]; rfl)) ek 17 0 (by omega) (by omega) (fun j hj => absurd hj (Nat.not_lt_zero j))
      · rw [if_pos (kT (hE.edge0 ht hw) e)]
        exact over_none (e := 0) (Eq.mpr (edgeK0 hE.1 ht hw) e) 17 0 (by omega) (by omega)
theorem RR.rw9 (h : RR B S u) : ¬ mX6_isTransaction u x = 0 → ¬ mX6_isTransaction u y = 0 → bOK 65535 ((mX6_its u x 3) &&& (mX6_its u y 4)) := by
  obtain ⟨n, m, b, c, hB, hE, hI, hW, hR, a1, a2, a3⟩ := h.1
  intro c1 c2
  rw [← hE.ex] at c1 c2
  obtain ⟨t, ht, rfl⟩ := hE.tr c1
  obtain ⟨w, hw, rfl⟩ := hE.tr c2
  obtain ⟨r, hr, er⟩ := hI.rd ht
  obtain ⟨s, hs, es⟩ := hI.wr hw
  rw [hE.its3 ht, hE.its4 hw, er, es, kandI]
  have hle : r &&& s ≤ r := Nat.and_le_left
  exact ⟨_, by omega, rfl⟩
theorem M_sees (h : RR B S u) : mX5_sees S x y = mX6_sees u x y := by
  obtain ⟨n, m, b, c, hB, hE, hI, hW, hR, a1, a2, a3⟩ := h.1
  unfold mX5_sees mX6_sees
  rw [← hE.ex, key_eq]
  by_cases c1 : mX2_exists (S 0) x = 0
  · rw [if_pos c1, if_pos c1]
  · rw [if_neg c1, if_neg c1]
    obtain ⟨t, ht, rfl⟩ := hE.tr c1
    rw [seen_eq hE hI ht]
def uO (u : kG) (f g : Nat → Int32) : kG := rset (rset u 6 f) 7 g
theorem M_count (h : RR B S u) : (mX5_count S x).1 = (mX6_count u x).1 ∧ RR B (mX5_count S x).2 (uO u (mX6_count u x).2.1 (mX6_count u x).2.2) := by
  have hRR := h
  obtain ⟨n, m, b, c, hB, hE, hI, hW, hR, a1, a2, a3⟩ := h.1
  have st : ∀ f g, RR B S (uO u f g) := fun f g => hRR.congr (fun _ _ => rfl) rfl rfl rfl rfl rfl rfl rfl rfl rfl
  have st2 : ∀ f g p q, RR B (gset S 13 (rset (rset (S 13) 1 p) 2 q)) (uO u f g) := fun f g p q => hRR.congr (fun j hj => gset_ne _ _ (by omega)) (by rw [gset_ne _ _ (by decide)]) (by rw [gset_ne _ _ (by decide)]) rfl rfl rfl rfl rfl rfl rfl
  unfold mX5_count mX6_count
  by_cases d0 : x = 0
  · rw [if_pos d0, if_pos d0]; exact ⟨hE.2.1.trans hE.2.2.1.symm, st _ _⟩
  · rw [if_neg d0, if_neg d0]
    by_cases d1 : x = 1
    · rw [if_pos d1, if_pos d1, d1]; exact ⟨hE.set 0, st _ _⟩
    · rw [if_neg d1, if_neg d1]
      by_cases d2 : x = 2
      · rw [if_pos d2, if_pos d2, d2]; exact ⟨hE.set 1, st _ _⟩
      · rw [if_neg d2, if_neg d2]
        by_cases d3 : x = 3
        · rw [if_pos d3, if_pos d3, d3]; exact ⟨hE.set 2, st _ _⟩
        · rw [if_neg d3, if_neg d3]
          by_cases d4 : x = 4
          · rw [if_pos d4, if_pos d4]; exact ⟨a2.symm, st _ _⟩
          · rw [if_neg d4, if_neg d4]
            by_cases d5 : x = 5
            · rw [if_pos d5, if_pos d5]; exact ⟨a1.symm, st _ _⟩
            · rw [if_neg d5, if_neg d5]
              by_cases d6 : x = 6
              · rw [if_pos d6, if_pos d6]; exact ⟨hE.edges, st _ _⟩
              · rw [if_neg d6, if_neg d6]
                by_cases d7 : x = 7
                · rw [if_pos d7, if_pos d7]; exact ⟨hE.pivots, st _ _⟩
                · rw [if_neg d7, if_neg d7]
                  by_cases d8 : x = 8
                  · rw [if_pos d8, if_pos d8]; exact ⟨hE.triples, st _ _⟩
                  · rw [if_neg d8, if_neg d8]
                    by_cases d9 : x = 9
                    · rw [if_pos d9, if_pos d9]
                      obtain ⟨ok, g, g', Pc, Pr, all, r1, r2, r3, r4, r5⟩ := serial_eq (w := S 13) hE hI
                      rw [r3, r4]
                      dsimp only
                      by_cases z : ok = 0
                      · rw [if_pos z, if_pos z]; exact ⟨rfl, st2 _ _ _ _⟩
                      · rw [if_neg z, if_neg z]; exact ⟨rfl, st2 _ _ _ _⟩
                    · rw [if_neg d9, if_neg d9]
                      by_cases d10 : x = 10
                      · rw [if_pos d10, if_pos d10]
                        obtain ⟨L, p1, p2, p3, p4⟩ := hRR.2.2.2
                        exact ⟨p2.trans p3.symm, st _ _⟩
                      · rw [if_neg d10, if_neg d10]
                        by_cases d11 : x = 11
                        · rw [if_pos d11, if_pos d11]
                          obtain ⟨nx, k, p1, p2, p3, p4, p5, p6⟩ := hRR.2.1
                          exact ⟨p4.trans p5.symm, st _ _⟩
                        · rw [if_neg d11, if_neg d11]; exact ⟨rfl, st _ _⟩
theorem M_order (h : RR B S u) : (mX5_order S x).1 = (mX6_order u x).1 ∧ RR B (mX5_order S x).2 (uO u (mX6_order u x).2.1 (mX6_order u x).2.2) := by
  have hRR := h
  obtain ⟨n, m, b, c, hB, hE, hI, hW, hR, a1, a2, a3⟩ := h.1
  have st : ∀ f g, RR B S (uO u f g) := fun f g => hRR.congr (fun _ _ => rfl) rfl rfl rfl rfl rfl rfl rfl rfl rfl
  have st2 : ∀ f g p q, RR B (gset S 13 (rset (rset (S 13) 1 p) 2 q)) (uO u f g) := fun f g p q => hRR.congr (fun j hj => gset_ne _ _ (by omega)) (by rw [gset_ne _ _ (by decide)]) (by rw [gset_ne _ _ (by decide)]) rfl rfl rfl rfl rfl rfl rfl
  unfold mX5_order mX6_order
  rw [← hE.bSet 1]
  by_cases d0 : x < 0
  · rw [if_pos d0, if_pos d0]; exact ⟨rfl, st _ _⟩
  · rw [if_neg d0, if_neg d0]
    by_cases d1 : x < mJ6_bitCount_0f7a4 (mX2_inPhase (S 0) 1)
    · rw [if_pos d1, if_pos d1]
      obtain ⟨ok, g, g', Pc, Pr, all, r1, r2, r3, r4, r5⟩ := serial_eq (w := S 13) hE hI
      rw [r3, r4]
      dsimp only
      by_cases z : ok = 0
      · rw [if_pos z, if_pos z]; exact ⟨rfl, st2 _ _ _ _⟩
      · rw [if_neg z, if_neg z]
        refine ⟨?_, st2 _ _ _ _⟩
        rw [r2] at d1
        obtain ⟨j, hj, rfl⟩ := nI_of d0
        have hja : j < all := by
          rcases Nat.lt_or_ge j all with q | q
          · exact q
          · exact absurd d1 (nI_nlt q hj)
        rcases r5 with ⟨_, r6⟩ | r6
        · show mX4_at (rset (rset (S 13) 1 g) 2 Pc) (nI j) = Pr (nI j).toNatClampNeg
          unfold mX4_at
          rw [if_neg d0, if_neg (k12ge (by omega)), nI_clamp (by omega), rset_eq]
          exact r6 j hja
        · exact absurd r6 z
    · rw [if_neg d1, if_neg d1]; exact ⟨rfl, st _ _⟩
def uT (u : kG) (a b c : Int32) (z : Nat → Int32) : kG := rset (rset u 1 z) 0 (upd (upd (upd (u 0) 2 a) 3 b) 4 c)
theorem RR.uT_ (h : RR B S u) {a b c : Int32} {z : Nat → Int32} (hz : z = u 1) : RR B S (uT u a b c z) := h.congr (fun _ _ => rfl) rfl rfl hz rfl rfl rfl rfl rfl rfl
theorem M_would (h : RR B S u) : mX5_would S x = (mX6_would u x).1 ∧ RR B S (uT u (mX6_would u x).2.1 (mX6_would u x).2.2.1 (mX6_would u x).2.2.2.1 (mX6_would u x).2.2.2.2) := by
  have hRR := h
  obtain ⟨n, m, b, c, hB, hE, hI, hW, hR, a1, a2, a3⟩ := h.1
  have hn := hE.1
  unfold mX5_would mX6_would mX6_whyNotEnd
  rw [← hE.ex]
  by_cases c1 : mX2_exists (S 0) x = 0
  · rw [if_pos c1, if_pos c1, if_neg (c := (0 : Int32) ≤ -1) (by decide)]; exact ⟨rfl, hRR.uT_ rfl⟩
  · rw [if_neg c1, if_neg c1]
    obtain ⟨t, ht, rfl⟩ := hE.tr c1
    rw [nI_clamp (by omega)]
    by_cases c3 : (S 0) 1 t = 0
    · rw [if_pos c3, if_neg (kF (hE.in0 ht) c3), if_pos (c := (0 : Int32) ≤ 0) (by decide)]
      obtain ⟨q1, q2, q3, _⟩ := reason_eq hE hI a2 ht c3 ((S 0) 0 0)
      rw [a1]
      exact ⟨q1.symm, hRR.uT_ q2⟩
    · rw [if_neg c3, if_pos (kT (hE.in0 ht) c3), if_neg (c := (0 : Int32) ≤ -5) (by decide)]; exact ⟨rfl, hRR.uT_ rfl⟩
theorem M_triple (h : RR B S u) : mX5_triple S x y = (mX6_triple u x y).1 ∧ RR B S (uT u (mX6_triple u x y).2.1 (mX6_triple u x y).2.2.1 (mX6_triple u x y).2.2.2.1 (mX6_triple u x y).2.2.2.2) := by
  have hRR := h
  obtain ⟨n, m, b, c, hB, hE, hI, hW, hR, a1, a2, a3⟩ := h.1
  have hn := hE.1
  unfold mX5_triple mX6_triple
  rw [← hE.ex]
  by_cases c1 : mX2_exists (S 0) x = 0
  · rw [if_pos c1, if_pos c1]; exact ⟨rfl, hRR.uT_ rfl⟩
  · rw [if_neg c1, if_neg c1]
    obtain ⟨t, ht, rfl⟩ := hE.tr c1
    unfold mX6_in
    by_cases d0 : y < 0
    · rw [if_pos d0, if_pos d0, if_pos rfl]; exact ⟨rfl, hRR.uT_ rfl⟩
    · rw [if_neg d0, if_neg d0]
      obtain ⟨j, hj, rfl⟩ := nI_of d0
      by_cases d1 : j ≤ 2
      · rw [if_pos (c := nI j ≤ 2) (nI_le (b := 2) d1 (by omega)), if_neg (c := (2 : Int32) < nI j) (nI_nlt (b := j) (a := 2) d1 (by omega)), if_neg (c := (1 : Int32) = 0) (by decide), nI_clamp (n := t) (by omega)]
        by_cases c3 : (S 0) 1 t = 0
        · rw [if_pos c3, if_neg (kF (hE.in0 ht) c3)]
          obtain ⟨q1, q2, q3, q4⟩ := reason_eq hE hI a2 ht c3 ((S 0) 0 0)
          rw [a1]
          obtain ⟨G, eG⟩ : ∃ G, G = mX6_reasonFor u (nI t) ((S 0) 0 0) := ⟨_, rfl⟩
          rw [← eG] at q1 q2 q4 ⊢
          dsimp only
          rw [q1]
          by_cases c4 : mX0_refusal (S 0) (nI t) ((S 0) 0 0) = 2
          · rw [if_pos c4, if_pos c4]
            obtain ⟨p0, p1, p2⟩ := q4 c4
            by_cases y0 : nI j = 0
            · rw [if_pos y0, y0]; exact ⟨p0, hRR.uT_ q2⟩
            · rw [if_neg y0]
              by_cases y1 : nI j = 1
              · rw [if_pos y1, y1]; exact ⟨p1, hRR.uT_ q2⟩
              · rw [if_neg y1]
                have e : j = 2 := by
                  have h0 : j ≠ 0 := fun z => y0 (by rw [z]; rfl)
                  have h1 : j ≠ 1 := fun z => y1 (by rw [z]; rfl)
                  omega
                rw [e]; exact ⟨p2, hRR.uT_ q2⟩
          · rw [if_neg c4, if_neg c4]; exact ⟨rfl, hRR.uT_ q2⟩
        · rw [if_neg c3, if_pos (kT (hE.in0 ht) c3)]; exact ⟨rfl, hRR.uT_ rfl⟩
      · rw [if_neg (c := nI j ≤ 2) (nI_ge (a := 2) (by omega) hj), if_pos (c := (2 : Int32) < nI j) (nI_lt (a := 2) (by omega) hj), if_pos rfl]; exact ⟨rfl, hRR.uT_ rfl⟩
theorem doom_tail {r : Int32} {x0 : Int32} (hn : n ≤ 12) (h2 : (S 0) 0 2 = nI n) : ∀ f i, n ≤ i → i ≤ 12 → 12 < f + i → mX5_doomed_L24 S r f x0 i = x0 := by
  intro f
  induction f with
  | zero => intro i h0 h1 h3; omega
  | succ f ih =>
    intro i h0 h1 h3
    rw [mX5_doomed_L24_s]
    rcases Nat.lt_or_ge i 12 with q | q
    · rw [if_neg (k12ge q), inPhase_k hn h2, if_pos (kT (kctS hn (by omega)) (fun z => by have := z.1; omega))]
      exact ih _ (by omega) q (by omega)
    · rw [if_pos (k12le q h1)]
theorem doom_L {r : Int32} (hE : RE n (S 0) (u 1)) (hI : RI n m b c (S 0)) (a2 : u 1 1 = (S 0) 0 1) : ∀ f f' i x0 q2 q3 q4, i ≤ n → 12 < f + i → n < f' + i → ∃ p2 p3 p4, mX6_doomed_L16 u r f' x0 i (u 1) q2 q3 q4 = (mX5_doomed_L24 S r f x0 i, p2, p3, p4, u 1) := by
  have hn := hE.1
  intro f
  induction f with
  | zero => intro f' i x0 q2 q3 q4 h1 h2; omega
  | succ f ih =>
    intro f' i x0 q2 q3 q4 h1 h3 h4
    cases f' with
    | zero => omega
    | succ f' =>
      rw [mX6_doomed_L16_s, hE.2.2.1]
      rcases Nat.lt_or_ge i n with q | q
      · rw [if_neg (nI_ge q (by omega)), mX5_doomed_L24_s, if_neg (k12ge (by omega)), inPhase_k hn hE.2.1]
        have hE' : RE n (S 0) ((rset (rset u 1 (u 1)) 0 (upd (upd (upd (u 0) 2 q2) 3 q3) 4 q4)) 1) := hE
        by_cases c3 : (S 0) 1 i = 0
        · rw [if_neg (kF (hE'.in0 q) c3), if_neg (kF (kctS hn (by omega)) ⟨q, by simp [c3]⟩)]
          obtain ⟨p1, p2, p3, _⟩ := reason_eq hE' hI a2 q c3 r
          obtain ⟨G, eG⟩ : ∃ G, G = mX6_reasonFor (rset (rset u 1 (u 1)) 0 (upd (upd (upd (u 0) 2 q2) 3 q3) 4 q4)) (nI i) r := ⟨_, rfl⟩
          rw [← eG] at p1 p2 ⊢
          dsimp only
          rw [p1, show G.2.2.2.2 = u 1 from p2]
          by_cases c4 : mX0_refusal (S 0) (nI i) r = 0
          · rw [if_pos (c := mX0_refusal (S 0) (nI i) r ≤ 0) (by rw [c4]; decide), if_pos c4, Int32.or_zero]
            exact ih f' (i + 1) _ _ _ _ q (by omega) (by omega)
          · rw [if_neg (c := mX0_refusal (S 0) (nI i) r ≤ 0) (by
              rcases p3 with z | z | z
              · exact absurd z c4
              · rw [z]; decide
              · rw [z]; decide), if_neg c4]
            exact ih f' (i + 1) _ _ _ _ q (by omega) (by omega)
        · rw [if_pos (kT (hE'.in0 q) c3), if_pos (kT (kctS hn (by omega)) (fun z => c3 (by simpa using z.2))), Int32.or_zero]
          exact ih f' (i + 1) _ _ _ _ q (by omega) (by omega)
      · have e : i = n := by omega
        rw [if_pos (nI_le q (by omega)), doom_tail hn hE.2.1 (f + 1) i q (by omega) h3]
        exact ⟨q2, q3, q4, rfl⟩
theorem M_doomed (h : RR B S u) : mX5_doomed S x = (mX6_doomed u x).1 ∧ RR B S (uT u (mX6_doomed u x).2.1 (mX6_doomed u x).2.2.1 (mX6_doomed u x).2.2.2.1 (mX6_doomed u x).2.2.2.2) := by
  have hRR := h
  obtain ⟨n, m, b, c, hB, hE, hI, hW, hR, a1, a2, a3⟩ := h.1
  have hn := hE.1
  unfold mX5_doomed mX6_doomed
  rw [rule_eq]
  by_cases c1 : mX6_in x 0 3 = 0
  · rw [if_pos c1, if_pos c1]; exact ⟨rfl, hRR.uT_ rfl⟩
  · rw [if_neg c1, if_neg c1]
    obtain ⟨p2, p3, p4, e⟩ := doom_L (r := x) hE hI a2 13 13 0 0 (u 0 2) (u 0 3) (u 0 4) (Nat.zero_le _) (by omega) (by omega)
    rw [e]
    exact ⟨rfl, hRR.uT_ rfl⟩
end A
