/-! characters appended -/
theorem lc0 {x : Int64} : (lg_cmp x 0 = 0) ↔ x = 0 := by
  unfold lg_cmp
  by_cases h : x = 0
  · rw [h]; exact ⟨fun _ => rfl, fun _ => by decide⟩
  · rw [if_neg h]
    refine ⟨fun z => ?_, fun z => absurd z h⟩
    by_cases g : x > 0
    · rw [if_pos g] at z; exact absurd z (by decide)
    · rw [if_neg g] at z; exact absurd z (by decide)
theorem la255 (x : Int64) : ∃ d, d < 256 ∧ x &&& 255 = lN d := by
  refine ⟨x.toBitVec.toNat % 256, Nat.mod_lt _ (by decide), ?_⟩
  apply Int64.toBitVec_inj.1
  apply BitVec.eq_of_toNat_eq
  rw [Int64.toBitVec_and, BitVec.toNat_and]
  show x.toBitVec.toNat &&& 255 = (BitVec.ofNat 64 (x.toBitVec.toNat % 256)).toNat
  rw [BitVec.toNat_ofNat, Nat.mod_eq_of_lt (a := x.toBitVec.toNat % 256) (by have := Nat.mod_lt x.toBitVec.toNat (show 0 < 256 by decide); omega)]
  exact Nat.and_two_pow_sub_one_eq_mod x.toBitVec.toNat 8
theorem lcN {d e : Nat} (hd : d < 256) (he : e < 256) : (lg_cmp (lN d) (lN e) < 0 ↔ d < e) ∧ (lg_cmp (lN d) (lN e) ≤ 0 ↔ d ≤ e) := by
  unfold lg_cmp
  by_cases h : lN d > lN e
  · rw [if_pos h]
    have h2 : e < d := (pk_lLT (a := e) (b := d) (by omega) (by omega)).mp h
    exact ⟨⟨fun z => absurd z (by decide), fun z => by omega⟩, ⟨fun z => absurd z (by decide), fun z => by omega⟩⟩
  · rw [if_neg h]
    have h2 : ¬ e < d := fun z => h ((pk_lLT (a := e) (b := d) (by omega) (by omega)).mpr z)
    by_cases g : lN d = lN e
    · rw [if_pos g]
      have g2 := (pk_lEQ (a := d) (b := e) (by omega) (by omega)).mp g
      exact ⟨⟨fun z => absurd z (by decide), fun z => by omega⟩, ⟨fun _ => by omega, fun _ => by decide⟩⟩
    · rw [if_neg g]
      have g2 : d ≠ e := fun z => g (by rw [z])
      exact ⟨⟨fun _ => by omega, fun _ => by decide⟩, ⟨fun _ => by omega, fun _ => by decide⟩⟩
section A
variable {v u : kG} {L : Nat} {x1 : Int64}
theorem app_L {x5 : Int64} {i5 i8 : Nat} {x84 : Int64} {x86 : Int32} : ∀ f k p (F G : Nat → Int32), k < f → p + k ≤ 80 → (∀ j, j < p → F j = G j) → ∃ F' G', mX3_append_L95 v x1 x5 i5 f (nI k - 1) F (nI p) = (nI (p + k), nI (p + k), F') ∧ mX6_put_L80 u x1 i8 x84 x86 f (nI k - 1) G (nI p) = (nI (p + k), nI (p + k), G') ∧ ∀ j, j < p + k → F' j = G' j := by
  intro f
  induction f with
  | zero => intro k p F G h1; omega
  | succ f ih =>
    intro k p F G h1 h2 h3
    rw [mX3_append_L95_s, mX6_put_L80_s]
    cases k with
    | zero =>
      rw [if_pos (c := nI 0 - 1 < 0) (by decide), if_pos (c := nI 0 - 1 < 0) (by decide)]
      exact ⟨F, G, rfl, rfl, h3⟩
    | succ k =>
      rw [nI_pred, if_neg (nI_pos (by omega)), if_neg (nI_pos (by omega)), nI_clamp (n := p) (by omega), nI_1]
      have e2 : nI k + (-1) = nI k - 1 := by rw [Int32.sub_eq_add_neg]
      rw [e2]
      rw [show p + (k + 1) = p + 1 + k by omega]
      refine ih k (p + 1) _ _ (by omega) (by omega) (fun j hj => ?_)
      by_cases q : j = p
      · rw [q, pk_us, pk_us]
      · rw [pk_un q, pk_un q]; exact h3 j (by omega)
def okP (v u : kG) (C R : Int32 × Int32 × (Nat → Int32)) : Prop := (∃ r : Int32, C = (r, v 0 0, v 1) ∧ R = (r, u 0 1, u 5)) ∨ ∃ P Q l, l ≤ 80 ∧ C = (nI l, nI l, P) ∧ R = (nI l, nI l, Q) ∧ ∀ j, j < l → Q j = P j
theorem bad_put {i : Nat} {x : Int64} {f' : Nat} : mX6_put_L8 u x1 (f' + 1) i x 0 = (-2, u 0 1, u 5) := by
  rw [mX6_put_L8_s]
  by_cases c : lg_cmp x 0 = 0
  · rw [if_pos c]
    by_cases d : nI i = 0
    · rw [if_pos d]
    · rw [if_neg d, if_pos (c := (0 : Int32) = 0) rfl]
  · rw [if_neg c, if_pos (c := (0 : Int32) = 0) rfl]
    by_cases d : nI i = 0
    · rw [if_pos d]
    · rw [if_neg d]
      first | rfl | rw [if_pos (c := (0 : Int32) = 0) rfl]
theorem put_L (h1 : v 0 0 = nI L) (hL : L ≤ 80) (hu : u 0 1 = nI L) (hT : ∀ k, k < L → u 5 k = v 1 k) : ∀ f i x, i ≤ 8 → x.toBitVec.toNat < 2 ^ (8 * (8 - i)) → 8 < f + i → okP v u (mX3_append_L5 v x1 f x i) (mX6_put_L8 u x1 f i x 1) := by
  intro f
  induction f with
  | zero => intro i x a1 a2 a3; omega
  | succ f ih =>
    intro i x a1 a2 a3
    rw [mX3_append_L5_s, mX6_put_L8_s, h1, hu, nI_add]
    have fin : okP v u (if nI i = 0 then ((-2), nI L, v 1) else if nI (L + i) ≤ 80 then mX3_append_L95 v x1 x i 9 (nI i - 1) (v 1) (nI L) else ((-4), nI L, v 1)) (if nI i = 0 then ((-2), nI L, u 5) else if nI (L + i) ≤ 80 then mX6_put_L80 u x1 i x 1 9 (nI i - 1) (u 5) (nI L) else ((-4), nI L, u 5)) := by
      by_cases c1 : nI i = 0
      · rw [if_pos c1, if_pos c1]; exact Or.inl ⟨-2, by rw [h1], by rw [hu]⟩
      · rw [if_neg c1, if_neg c1]
        by_cases c2 : nI (L + i) ≤ 80
        · rw [if_pos c2, if_pos c2]
          have hle : L + i ≤ 80 := (nI_leI (b := 80) (by omega) (by omega)).mp c2
          obtain ⟨P, Q, r1, r2, r3⟩ := app_L (v := v) (u := u) (x1 := x1) (x5 := x) (i5 := i) (i8 := i) (x84 := x) (x86 := 1) 9 i L (v 1) (u 5) (by omega) hle (fun j hj => (hT j hj).symm)
          exact Or.inr ⟨P, Q, L + i, hle, r1, r2, fun j hj => (r3 j hj).symm⟩
        · rw [if_neg c2, if_neg c2]; exact Or.inl ⟨-4, by rw [h1], by rw [hu]⟩
    have x0 : x = 0 → lg_cmp x 0 = 0 := lc0.mpr
    rcases Nat.lt_or_ge i 8 with q | q
    · rw [if_neg (c := (8 : Int32) ≤ nI i) (nI_ge (b := 8) q (by omega))]
      obtain ⟨d, hd, ed⟩ := la255 x
      by_cases cx : x = 0
      · rw [if_pos (x0 cx), if_pos (x0 cx), if_pos (c := lg_cmp (x &&& 255) 0 = 0) (by rw [cx]; decide), if_neg (c := (1 : Int32) = 0) (by decide)]
        exact fin
      · have nx : ¬ lg_cmp x 0 = 0 := fun z => cx (lc0.mp z)
        rw [if_neg nx, if_neg nx, if_neg (c := (1 : Int32) = 0) (by decide), ed, lN_i]
        by_cases cd : d = 0
        · rw [if_pos (c := lg_cmp (lN d) 0 = 0) (by rw [cd]; decide)]
          have eI : mX6_in (nI d) 33 126 = 0 := by rw [cd]; decide
          rw [eI]
          cases f with
          | zero => omega
          | succ f =>
            rw [bad_put]
            have e : (if nI i = 0 then ((-2 : Int32), nI L, v 1) else ((-2), nI L, v 1)) = ((-2), nI L, v 1) := by split <;> rfl
            rw [e]
            exact Or.inl ⟨-2, by rw [h1], rfl⟩
        · rw [if_neg (c := lg_cmp (lN d) 0 = 0) (fun z => by
            have h2 := lc0.mp z
            exact cd ((pk_lEQ (a := d) (b := 0) (by omega) (by omega)).mp h2))]
          by_cases c33 : d < 33
          · rw [if_pos (c := lg_cmp (lN d) 33 < 0) ((lcN (e := 33) hd (by omega)).1.mpr c33)]
            have eI : mX6_in (nI d) 33 126 = 0 := by
              unfold mX6_in; rw [if_pos (c := nI d < 33) (nI_lt (b := 33) c33 (by omega))]
            rw [eI]
            cases f with
            | zero => omega
            | succ f => rw [bad_put]; exact Or.inl ⟨-2, by rw [h1], rfl⟩
          · rw [if_neg (c := lg_cmp (lN d) 33 < 0) (fun z => c33 ((lcN (e := 33) hd (by omega)).1.mp z))]
            by_cases c126 : d ≤ 126
            · rw [if_pos (c := lg_cmp (lN d) 126 ≤ 0) ((lcN (e := 126) hd (by omega)).2.mpr c126)]
              have eI : mX6_in (nI d) 33 126 = 1 := by
                unfold mX6_in; rw [if_neg (c := nI d < 33) (nI_nlt (b := 33) (a := d) (by omega) (by omega)), if_neg (c := (126 : Int32) < nI d) (nI_nlt (b := d) (a := 126) c126 (by omega))]
              rw [eI]
              refine ih (i + 1) _ q ?_ (by omega)
              rw [shr8]
              have e : 2 ^ (8 * (8 - i)) = 2 ^ (8 * (8 - (i + 1))) * 256 := by
                rw [show 8 * (8 - i) = 8 * (8 - (i + 1)) + 8 by omega, Nat.pow_add]
              rw [e] at a2
              exact Nat.div_lt_of_lt_mul (by omega)
            · rw [if_neg (c := lg_cmp (lN d) 126 ≤ 0) (fun z => c126 ((lcN (e := 126) hd (by omega)).2.mp z))]
              have eI : mX6_in (nI d) 33 126 = 0 := by
                unfold mX6_in; rw [if_neg (c := nI d < 33) (nI_nlt (b := 33) (a := d) (by omega) (by omega)), if_pos (c := (126 : Int32) < nI d) (nI_lt (a := 126) (by omega) (by omega))]
              rw [eI]
              cases f with
              | zero => omega
              | succ f => rw [bad_put]; exact Or.inl ⟨-2, by rw [h1], rfl⟩
    · have e8 : i = 8 := by omega
      have hx : x = 0 := by
        apply Int64.toBitVec_inj.mp
        apply BitVec.eq_of_toNat_eq
        rw [e8] at a2
        have h4 : x.toBitVec.toNat < 1 := a2
        show x.toBitVec.toNat = 0
        omega
      rw [if_pos (c := (8 : Int32) ≤ nI i) (nI_le (a := 8) q (by omega)), if_pos (x0 hx), if_pos (x0 hx), if_neg (c := (1 : Int32) = 0) (by decide)]
      exact fin
def uP (u : kG) (k : Int32) (f : Nat → Int32) : kG := rset (rset u 5 f) 0 (upd (u 0) 1 k)
theorem M_put {B : Nat} {S : kS} (h : RR B S u) : (mX5_put S x1).1 = (mX6_put u x1).1 ∧ RR B (mX5_put S x1).2 (uP u (mX6_put u x1).2.1 (mX6_put u x1).2.2) := by
  obtain ⟨L, p1, p2, p3, p4⟩ := h.2.2.2
  have hp : okP (S 12) u (mX3_append (S 12) x1) (mX6_put u x1) := put_L p2 p1 p3 p4 9 0 x1 (by omega) x1.toBitVec.isLt (by omega)
  obtain ⟨G, eG⟩ : ∃ G, G = mX3_append (S 12) x1 := ⟨_, rfl⟩
  have eS : mX5_put S x1 = (G.1, gset S 12 (rset (rset (S 12) 1 G.2.2) 0 (upd ((S 12) 0) 0 G.2.1))) := by rw [eG]; rfl
  rw [eS]
  rw [← eG] at hp
  dsimp only
  have g : ∀ j, j < 12 → gset S 12 (rset (rset (S 12) 1 G.2.2) 0 (upd ((S 12) 0) 0 G.2.1)) j = S j := fun j hj => gset_ne _ _ (by omega)
  have base : PadR (gset S 12 (rset (rset (S 12) 1 G.2.2) 0 (upd ((S 12) 0) 0 G.2.1))) (uP u (mX6_put u x1).2.1 (mX6_put u x1).2.2) → RR B (gset S 12 (rset (rset (S 12) 1 G.2.2) 0 (upd ((S 12) 0) 0 G.2.1))) (uP u (mX6_put u x1).2.1 (mX6_put u x1).2.2) := fun z => by
    refine ⟨?_, h.2.1.congr (fun j h1 h2 => g j (by omega)) (g 11 (by omega)) rfl rfl, h.2.2.1.congr (g 1 (by omega)) (g 2 (by omega)) (g 10 (by omega)) rfl rfl, z⟩
    rw [g 0 (by omega)]; exact h.1
  rcases hp with ⟨r, c1, c2⟩ | ⟨P, Q, l, hl, c1, c2, c3⟩
  · refine ⟨by rw [c1, c2], base ⟨L, p1, ?_, ?_, fun k hk => ?_⟩⟩
    · rw [gset_eq, c1]; exact p2
    · rw [c2]; exact p3
    · rw [gset_eq, c1, c2]; exact p4 k hk
  · refine ⟨by rw [c1, c2], base ⟨l, hl, ?_, ?_, fun k hk => ?_⟩⟩
    · rw [gset_eq, c1]; rfl
    · rw [c2]; rfl
    · rw [gset_eq, c1, c2]; exact c3 k hk
end A
