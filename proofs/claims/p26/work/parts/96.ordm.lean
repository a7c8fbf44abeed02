/-! in the order each one read what those ahead of it left -/
section ORDM
variable {n m : Nat} {b c : Nat → Nat} {v w r : kG} {i j k t : Nat} {S : kS}
theorem WL.uniq (hi : RI n m b c v) {x : Nat} {y y' : Int32} (h : WL v n c k x y) (h' : WL v n c k x y') : y = y' := by
  rcases h with ⟨e, a⟩ | ⟨j, j1, j2, j3, j4, j5, j6⟩
  · rcases h' with ⟨e', a'⟩ | ⟨j', k1, k2, k3, k4, k5, k6⟩
    · rw [e, e']
    · exact absurd k5 (a j' k1 k3 k4)
  · rcases h' with ⟨e', a'⟩ | ⟨j', k1, k2, k3, k4, k5, k6⟩
    · exact absurd j5 (a' j j1 j3 j4)
    · have l1 := k6 j j1 j3 j4 j5
      have l2 := j6 j' k1 k3 k4 k5
      by_cases e : j = j'
      · rw [j2, k2, e]
      · have := hi.2.2.2.2.1 j j' j1 k1 j3 k3 e
        omega
/-- the one placed last of those that wrote the key -/
def LSt (v : kG) (c T : Nat → Nat) (p k : Nat) (y : Int32) : Prop := (y = -1 ∧ ∀ i, i < p → ¬ WRk v (T i) k) ∨ ∃ i, i < p ∧ y = nI (T i) ∧ WRk v (T i) k ∧ ∀ i', i' < p → WRk v (T i') k → c (T i') ≤ c (T i)
theorem LSt.WL_ (hn : n ≤ 12) (h2 : v 0 2 = nI n) (hi : RI n m b c v) {all : Nat} {T : Nat → Nat} (hT : OKT v n all T) {p : Nat} (hk : k < 16) (hp : p < all) (hr : RDk v (T p) k) {y : Int32} (h : LSt v c T p k y) : WL v n c k (b (T p)) y := by
  have pl := fun x hx hx1 hxk => placed hn h2 hi hT (q := p) (x := x) hk hp hr hx hx1 hxk
  rcases h with ⟨e, a⟩ | ⟨i, i1, i2, i3, i4⟩
  · refine Or.inl ⟨e, fun t ht t1 tk hlt => ?_⟩
    obtain ⟨i', k1, k2⟩ := (pl t ht t1 tk).mpr hlt
    exact a i' k1 (by rw [k2]; exact tk)
  · obtain ⟨t1, t2, _, _⟩ := hT i (by omega)
    refine Or.inr ⟨T i, t1, i2, t2, i3, (pl _ t1 t2 i3).mp ⟨i, i1, rfl⟩, fun t ht u1 uk hlt => ?_⟩
    obtain ⟨i', k1, k2⟩ := (pl t ht u1 uk).mpr hlt
    rw [← k2]
    exact i4 i' k1 (by rw [k2]; exact uk)
theorem LSt.new (hn : n ≤ 12) (h2 : v 0 2 = nI n) (hi : RI n m b c v) {all : Nat} {T : Nat → Nat} (hT : OKT v n all T) {p : Nat} (hk : k < 16) (hp : p < all) (hw : WRk v (T p) k) : LSt v c T (p + 1) k (nI (T p)) := by
  refine Or.inr ⟨p, by omega, rfl, hw, fun i' h1 h3 => ?_⟩
  rcases Nat.lt_or_ge i' p with g | g
  · refine Classical.byContradiction (fun hc => ?_)
    obtain ⟨t1, t2, t3, t4⟩ := hT p hp
    obtain ⟨i, i1, i2⟩ := chain hn h2 hi hT hk (c (T i')) i' (T p) (by omega) (Nat.le_refl _) t1 t2 hw h3 (by omega)
    exact t3 i (by omega) i2
  · rw [show i' = p by omega]; exact Nat.le_refl _
theorem LSt.old {T : Nat → Nat} {p : Nat} (hw : ¬ WRk v (T p) k) {y : Int32} (h : LSt v c T p k y) : LSt v c T (p + 1) k y := by
  rcases h with ⟨e, a⟩ | ⟨i, i1, i2, i3, i4⟩
  · refine Or.inl ⟨e, fun i h1 => ?_⟩
    rcases Nat.lt_or_ge i p with g | g
    · exact a i g
    · rw [show i = p by omega]; exact hw
  · refine Or.inr ⟨i, by omega, i2, i3, fun i' h1 h3 => ?_⟩
    rcases Nat.lt_or_ge i' p with g | g
    · exact i4 i' g h3
    · rw [show i' = p by omega] at h3; exact absurd h3 hw
theorem k5ge (q : i < 5) : ¬ (5 : Int32) ≤ nI i := nI_ge (b := 5) q (by omega)
theorem k5le (q : 5 ≤ i) (h : i ≤ 5) : (5 : Int32) ≤ nI i := nI_le (a := 5) q (by omega)
/-- one place: each key that it read -/
theorem ord169 (h : LR n v (r 0)) (h2 : v 0 2 = nI n) (hi : RI n m b c v) {all : Nat} {T : Nat → Nat} (hT : OKT v n all T) {p : Nat} (hp : p < all) {x4 : Int32} {i4 : Nat} {g2 g8 g14 : Int32 × kS} {i93 : Nat} {T93 : Nat → Int32} {x116 : Int32} {i116 : Nat} {S116 : kS} {T116 : Nat → Int32} {g : Int32 × kS} (hg : g.1 = nI (T p)) (kk : Nat → (Nat → Int32) → (Int32 × kS)) (Q : Int32 × kS → Prop)
    (hkk : ∀ T', (∀ k, k < 5 → LSt v c T (p + 1) k (T' k)) → Q (kk 5 T')) : ∀ f k (T' : Nat → Int32), k ≤ 5 → 5 < f + k → (∀ k', k' < k → LSt v c T (p + 1) k' (T' k')) → (∀ k', k ≤ k' → k' < 5 → LSt v c T p k' (T' k')) → Q (mL_isOrder_L169 S r x4 i4 g2 g8 g14 i93 T93 x116 i116 S116 T116 g kk f k T') := by
  have hn := h.1
  obtain ⟨t1, t2, t3, t4⟩ := hT p hp
  intro f
  induction f with
  | zero => intro k T' h1 h3; omega
  | succ f ih =>
    intro k T' h1 h3 hA hB
    rw [mL_isOrder_L169_s]
    rcases Nat.lt_or_ge k 5 with q | q
    · rw [if_neg (k5ge q), hg, rA24 (by omega), rA36 (by omega), rA0 (t := T p) (by omega), nI_clamp (n := k) (by omega), (h.2.2 _ t1).1, (h.2.2 _ t1).2.1, (h.2.2 _ t1).2.2.1, (hi.bg t1).1]
      have old := hB k (Nat.le_refl _) q
      have nx : ∀ y, LSt v c T (p + 1) k y → Q (mL_isOrder_L169 S r x4 i4 g2 g8 g14 i93 T93 x116 i116 S116 T116 g kk f (k + 1) (upd T' k y)) := by
        intro y hy
        refine ih (k + 1) _ q (by omega) (fun k' hk' => ?_) (fun k' h5 h6 => ?_)
        · by_cases e : k' = k
          · rw [e, pk_us]; exact hy
          · rw [pk_un e]; exact hA k' (by omega)
        · rw [pk_un (by omega)]; exact hB k' (by omega) h6
      have wr : Q (if (((v 5 (T p)) >>> (nI k &&& 31)) &&& 1) = 1 then mL_isOrder_L169 S r x4 i4 g2 g8 g14 i93 T93 x116 i116 S116 T116 g kk f (k + 1) (upd T' k (nI (T p))) else mL_isOrder_L169 S r x4 i4 g2 g8 g14 i93 T93 x116 i116 S116 T116 g kk f (k + 1) (upd T' k (T' k))) := by
        by_cases cw : WRk v (T p) k
        · rw [if_pos (by rw [bitC]; exact cw)]; exact nx _ (LSt.new hn h2 hi hT (by omega) hp cw)
        · rw [if_neg (by rw [bitC]; exact cw)]; exact nx _ (LSt.old cw old)
      by_cases cr : RDk v (T p) k
      · rw [if_pos (by rw [bitC]; exact cr)]
        have hm := (hi.bg t1).2.2
        rw [if_pos ((writer_W (k := k) h hi (x := b (T p)) (by omega)).uniq hi (LSt.WL_ hn h2 hi hT (by omega) hp cr old))]
        exact wr
      · rw [if_neg (by rw [bitC]; exact cr)]; exact wr
    · rw [if_pos (k5le q h1), show k = 5 by omega]
      exact hkk T' (fun k' hk' => hA k' (by omega))
/-- all places -/
theorem ord116 (h : LR n v (r 0)) (h2 : v 0 2 = nI n) (hi : RI n m b c v) {all : Nat} {T : Nat → Nat} (ha : all ≤ 12) (hall : mJ6_bitCount_0f7a4 (mX2_inPhase v 1) = nI all) (h0 : ∀ w, (mX4_arrange w v).1 = 1) (hTw : ∀ w q, q < all → (mX4_arrange w v).2.2 q = nI (T q)) (hT : OKT v n all T) {i4 : Nat} {g2 g8 g14 : Int32 × kS} {i93 : Nat} {T93 : Nat → Int32} : ∀ f p s (S1 : kS) (T' : Nat → Int32), p ≤ all → all < f + p → S1 0 = v → s < 4096 → (∀ x, x < 12 → (s.testBit x = true ↔ ∃ i, i < p ∧ T i = x)) → (∀ k, k < 5 → LSt v c T p k (T' k)) →
    (mL_isOrder_L116 S r (nI all) i4 g2 g8 g14 i93 T93 f (nI s) p S1 T').1 = 1 ∧ (mL_isOrder_L116 S r (nI all) i4 g2 g8 g14 i93 T93 f (nI s) p S1 T').2 0 = v := by
  have hn := h.1
  intro f
  induction f with
  | zero => intro p s S1 T' h1 h3; omega
  | succ f ih =>
    intro p s S1 T' h1 h3 hv hs hb hL
    rw [mL_isOrder_L116_s]
    rcases Nat.lt_or_ge p all with q | q
    · rw [if_neg (nI_ge q (by omega))]
      have o := ord_at hv ha hall q h0 hTw
      generalize mX5_order S1 (nI p) = g at o ⊢
      obtain ⟨t1, t2, t3, t4⟩ := hT p q
      try dsimp only
      rw [if_neg (show ¬ g.1 < 0 by rw [o.1]; exact nI_pos (by omega)), if_neg (show ¬ mL_isCommitted r g.1 = 0 by rw [o.1]; exact kF (h.isC0 t1) t2)]
      have nb : ¬ s.testBit (T p) = true := fun z => by
        obtain ⟨i, i1, i2⟩ := (hb _ (by omega)).mp z
        exact t3 i i1 i2
      rw [if_neg (show ¬ ((nI s >>> (g.1 &&& 31)) &&& 1) = 1 by rw [o.1, bit_kct hs (by omega)]; exact nb)]
      refine ord169 (S := S) h h2 hi hT q o.1 (mL_isOrder_K169 S r (nI all) i4 g2 g8 g14 i93 T93 (nI s) p S1 T' g (mL_isOrder_L116 S r (nI all) i4 g2 g8 g14 i93 T93 f)) (fun R => R.1 = 1 ∧ R.2 0 = v) (fun T2 hT2 => ?_) 6 0 T' (Nat.zero_le _) (by omega) (fun k' hk' => absurd hk' (Nat.not_lt_zero _)) (fun k' _ h6 => hL k' h6)
      rw [mL_isOrder_K169_s, o.1, kshl _ (by omega), fa_or]
      refine ih (p + 1) (s ||| 2 ^ T p) g.2 T2 q (by omega) o.2 (Nat.or_lt_two_pow (n := 12) hs (Nat.pow_lt_pow_right (by decide) (by omega))) (fun x hx => ?_) hT2
      rw [Nat.testBit_or, Nat.testBit_two_pow]
      simp only [Bool.or_eq_true, decide_eq_true_eq]
      rw [hb x hx]
      constructor
      · rintro (⟨i, i1, i2⟩ | z)
        · exact ⟨i, by omega, i2⟩
        · exact ⟨p, by omega, z⟩
      · rintro ⟨i, i1, i2⟩
        rcases Nat.lt_or_ge i p with g' | g'
        · exact Or.inl ⟨i, g', i2⟩
        · rw [show i = p by omega] at i2; exact Or.inr i2
    · rw [if_pos (nI_le q (by omega))]
      exact ⟨rfl, hv⟩
theorem ord93 (h : LR n v (r 0)) (h2 : v 0 2 = nI n) (hi : RI n m b c v) {all : Nat} {T : Nat → Nat} (ha : all ≤ 12) (hall : mJ6_bitCount_0f7a4 (mX2_inPhase v 1) = nI all) (h0 : ∀ w, (mX4_arrange w v).1 = 1) (hTw : ∀ w q, q < all → (mX4_arrange w v).2.2 q = nI (T q)) (hT : OKT v n all T) {i4 : Nat} {g2 g8 g14 : Int32 × kS} (hv : g14.2 0 = v) : ∀ f k (T' : Nat → Int32), k ≤ 5 → 5 < f + k → (∀ k', k' < k → T' k' = -1) →
    (mL_isOrder_L93 S r (nI all) i4 g2 g8 g14 f k T').1 = 1 ∧ (mL_isOrder_L93 S r (nI all) i4 g2 g8 g14 f k T').2 0 = v := by
  intro f
  induction f with
  | zero => intro k T' h1 h3; omega
  | succ f ih =>
    intro k T' h1 h3 hA
    rw [mL_isOrder_L93_s]
    rcases Nat.lt_or_ge k 5 with q | q
    · rw [if_neg (k5ge q), nI_clamp (by omega)]
      refine ih (k + 1) _ q (by omega) (fun k' hk' => ?_)
      by_cases e : k' = k
      · rw [e, pk_us]
      · rw [pk_un e]; exact hA k' (by omega)
    · rw [if_pos (k5le q h1)]
      exact ord116 (S := S) h h2 hi ha hall h0 hTw hT 13 0 0 g14.2 T' (Nat.zero_le _) (by omega) hv (by decide) (fun x hx => by simp) (fun k' hk' => Or.inl ⟨hA k' (by omega), fun i hi' => absurd hi' (Nat.not_lt_zero i)⟩)
theorem isOrder_1 (h : LR n (S 0) (r 0)) (h2 : S 0 0 2 = nI n) (hi : RI n m b c (S 0)) : (mL_isOrder S r).1 = 1 ∧ (mL_isOrder S r).2 0 = S 0 := by
  have hn := h.1
  obtain ⟨all, ha, eall, hall, ho⟩ := arrange_S hn h2 hi
  rw [kpop_kst _ n hn] at eall
  have key : ∀ f i, i ≤ n → n < f + i → (mL_isOrder_L4 S r f (nI (cn (fun j => decide (S 0 1 j = 1)) i)) i).1 = 1 ∧ (mL_isOrder_L4 S r f (nI (cn (fun j => decide (S 0 1 j = 1)) i)) i).2 0 = S 0 := by
    intro f
    induction f with
    | zero => intro i h1 h3; omega
    | succ f ih =>
      intro i h1 h3
      rw [mL_isOrder_L4_s, h.2.1]
      rcases Nat.lt_or_ge i n with q | q
      · rw [if_neg (nI_ge q (by omega))]
        have e := ih (i + 1) q (by omega)
        by_cases c1 : S 0 1 i = 1
        · rw [if_neg (kF (h.isC0 q) c1), nI_1]
          rw [show cn (fun j => decide (S 0 1 j = 1)) (i + 1) = cn (fun j => decide (S 0 1 j = 1)) i + 1 from by
            show cn _ i + (if decide (S 0 1 i = 1) = true then 1 else 0) = _
            rw [if_pos (by simpa using c1)]] at e
          exact e
        · rw [if_pos (kT (h.isC0 q) c1), Int32.add_zero]
          rw [show cn (fun j => decide (S 0 1 j = 1)) (i + 1) = cn (fun j => decide (S 0 1 j = 1)) i from by
            show cn _ i + (if decide (S 0 1 i = 1) = true then 1 else 0) = _
            rw [if_neg (by simpa using c1), Nat.add_zero]] at e
          exact e
      · rw [if_pos (nI_le q (by omega)), show i = n by omega, ← eall]
        have f1 := ord_hi (S := S) rfl ha hall
        generalize mX5_order S (nI all) = g2 at f1 ⊢
        try dsimp only
        rw [if_pos f1.1]
        have f2 := ord_neg (S := g2.2) f1.2
        generalize mX5_order g2.2 (-1) = g8 at f2 ⊢
        try dsimp only
        rw [if_pos f2.1]
        rcases ho with ⟨h0, s', s1, s2, s3, s4⟩ | ⟨h0, T, hTw, hT⟩
        · have f3 := cnt9 (S := g8.2) f2.2 h0 (Or.inl rfl)
          generalize mX5_count g8.2 9 = g14 at f3 ⊢
          try dsimp only
          rw [if_pos f3.1]
          have f4 := cnt9 (S := g14.2) f3.2 h0 (Or.inl rfl)
          generalize mX5_count g14.2 9 = g27 at f4 ⊢
          try dsimp only
          rw [if_pos f4.1]
          have hpos : 0 < all := by
            rcases Nat.eq_zero_or_pos all with z | z
            · rw [eall, cn_zero] at z
              have hne : s' ≠ 0 := by omega
              obtain ⟨x, hx⟩ := Nat.exists_testBit_of_ne_zero hne
              have hx12 : x < 12 := by
                rcases Nat.lt_or_ge x 12 with g | g
                · exact g
                · have := Nat.testBit_lt_two_pow (i := x) (x := s') (Nat.lt_of_lt_of_le s2 (show 2 ^ 12 ≤ 2 ^ x from Nat.pow_le_pow_right (by decide) g))
                  rw [this] at hx; exact absurd hx (by decide)
              have h7 := s3 x hx12 hx
              exact absurd (by simpa using h7.2) (z x h7.1)
            · exact z
          have f5 := ord_no (p := 0) (S := g27.2) f4.2 ha hall hpos h0
          rw [show nI 0 = 0 from rfl] at f5
          generalize mX5_order g27.2 0 = g29 at f5 ⊢
          try dsimp only
          rw [if_pos f5.1]
          exact ⟨rfl, f5.2⟩
        · have f3 := cnt9 (S := g8.2) f2.2 h0 (Or.inr rfl)
          generalize mX5_count g8.2 9 = g14 at f3 ⊢
          try dsimp only
          rw [if_neg (show ¬ g14.1 = 0 by rw [f3.1]; decide)]
          exact ord93 (S := S) h h2 hi ha hall h0 hTw hT f3.2 6 0 (fun _ => 0) (Nat.zero_le _) (by omega) (fun k' hk' => absurd hk' (Nat.not_lt_zero _))
  rw [mL_isOrder_s]
  exact key 13 0 (Nat.zero_le _) (by omega)
/-- by the rules 0 to 2 there is an order -/
theorem serial_1 {ρ : Nat} (hr : ρ < 3) (hn : n ≤ 12) (h2 : S 0 0 2 = nI n) (hi : RI n m b c (S 0)) (hF : FCW (S 0) n b c) (hV : INV (S 0) n b c ρ) : (mX5_count S 9).1 = 1 := by
  obtain ⟨all, ha, eall, hall, ho⟩ := arrange_S hn h2 hi
  rcases ho with ⟨h0, s', s1, s2, s3, s4⟩ | ⟨h0, _⟩
  · exfalso
    have hne : s' ≠ 0 := by omega
    obtain ⟨x, hx⟩ := Nat.exists_testBit_of_ne_zero hne
    have b12 : ∀ x, s'.testBit x = true → x < 12 := fun x hx => by
      rcases Nat.lt_or_ge x 12 with g | g
      · exact g
      · have := Nat.testBit_lt_two_pow (i := x) (x := s') (Nat.lt_of_lt_of_le s2 (show 2 ^ 12 ≤ 2 ^ x from Nat.pow_le_pow_right (by decide) g))
        rw [this] at hx; exact absurd hx (by decide)
    refine ssi hr hn h2 hi hF hV (fun i => s'.testBit i = true) (fun i h => s3 i (b12 i h) h) hx (fun i h => ?_)
    obtain ⟨y, y1, y2, y3⟩ := s4 i (b12 i h) h
    exact ⟨y, y3, y2⟩
  · exact (cnt9 rfl h0 (Or.inr rfl)).1
end ORDM
