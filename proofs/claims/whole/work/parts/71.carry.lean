/-! orders carried out -/
theorem jx0 {j : Nat} (hj : j ≤ 40) : ((4 * nI j)).toNatClampNeg = 4 * j := by
  rw [show (4 : Int32) = nI 4 from rfl, pk_mul, nI_clamp (by omega)]
theorem jx1 {j : Nat} (hj : j ≤ 40) : (((4 * nI j) + 1)).toNatClampNeg = 4 * j + 1 := by
  rw [show (4 : Int32) = nI 4 from rfl, pk_mul, nI_1, nI_clamp (by omega)]
theorem jx2 {j : Nat} (hj : j ≤ 40) : (((4 * nI j) + 2)).toNatClampNeg = 4 * j + 2 := by
  rw [show (4 : Int32) = nI 4 from rfl, show (2 : Int32) = nI 2 from rfl, pk_mul, nI_add, nI_clamp (by omega)]
theorem jx3 {j : Nat} (hj : j ≤ 40) : (((4 * nI j) + 3)).toNatClampNeg = 4 * j + 3 := by
  rw [show (4 : Int32) = nI 4 from rfl, show (3 : Int32) = nI 3 from rfl, pk_mul, nI_add, nI_clamp (by omega)]
theorem knl {x : Int32} (h : x < 0) : ¬ 0 ≤ x := fun z => Int32.not_lt.mpr z h
theorem one_R {S' : kS} {w : kG} {B j : Nat} {K : Int32} (hj : j ≤ 40) (h : RV B (S' 0) (w 1)) (hB : B + 1 < 2 ^ 30) (hK : S' 12 0 1 = K) (hw : w 8 (4 * j) = K) (hk5 : K = 98 ∨ K = 99 ∨ K = 114 ∨ K = 119 ∨ K = 120) (h1 : ¬ K = 98 → w 8 (4 * j + 1) = S' 12 0 2) (h2 : (K = 114 ∨ K = 119) → w 8 (4 * j + 2) = S' 12 0 3) (h3 : K = 119 → w 8 (4 * j + 3) = S' 12 0 4) :
    ∃ v', (mX5_carryOne S').2 = gset S' 0 v' ∧ RV (B + 1) v' (mX6_does w (nI j)).2.2.2.2 ∧ ((mX5_carryOne S').1 < 0 ↔ (mX6_does w (nI j)).1 < 0) := by
  unfold mX5_carryOne mX6_does
  rw [jx0 hj, jx1 hj, jx2 hj, jx3 hj, hK, hw]
  have hS : RV (B + 1) (S' 0) (w 1) := h.mono (Nat.le_succ B)
  rcases hk5 with k | k | k | k | k
  · subst k
    rw [if_pos (c := (98 : Int32) = 98) rfl, if_pos (c := (98 : Int32) = 98) rfl]
    dsimp only
    rcases L_begin (u := w) h hB with ⟨c1, c2⟩ | ⟨c1, c2, c3, c4⟩
    · rw [if_pos c1, c2]
      refine ⟨_, rfl, ?_, ?_⟩
      · dsimp only
        rw [rset_same, rset_same, rset_same, rset_same, rset_same, rset_same, upd_self, upd_self, rset_same]; exact hS
      · exact ⟨fun _ => (show (-4 : Int32) < 0 by decide), fun _ => (show (-4 : Int32) < 0 by decide)⟩
    · rw [if_neg c1]
      exact ⟨_, rfl, c4, ⟨fun z => absurd z c2, fun z => absurd (by rw [c3]; exact z) c2⟩⟩
  · subst k
    have e1 := h1 (by decide)
    rw [if_neg (c := (99 : Int32) = 98) (by decide), if_neg (c := (99 : Int32) = 98) (by decide), if_pos (c := (99 : Int32) = 99) rfl, if_pos (c := (99 : Int32) = 99) rfl, e1]
    dsimp only
    rcases L_commit (u := w) (x := S' 12 0 2) h hB with ⟨c1, c2⟩ | ⟨c1, c2, c3, c4⟩
    · rw [if_neg (knl c1), c2]
      refine ⟨_, rfl, ?_, ?_⟩
      · dsimp only
        rw [rset_same, rset_same, rset_same, upd_self, rset_same]; exact hS
      · exact Iff.rfl
    · rw [if_pos (Int32.not_lt.mp c1)]
      exact ⟨_, rfl, c4, ⟨fun z => absurd z c2, fun z => absurd (by rw [c3]; exact z) c2⟩⟩
  · subst k
    have e1 := h1 (by decide)
    have e2 := h2 (Or.inl rfl)
    rw [if_neg (c := (114 : Int32) = 98) (by decide), if_neg (c := (114 : Int32) = 98) (by decide), if_neg (c := (114 : Int32) = 99) (by decide), if_neg (c := (114 : Int32) = 99) (by decide), if_pos (c := (114 : Int32) = 114) rfl, if_pos (c := (114 : Int32) = 114) rfl, e1, e2]
    dsimp only
    rcases L_read (u := w) (x := S' 12 0 2) (y := S' 12 0 3) h with ⟨c1, c2⟩ | ⟨c1, c2, c3, c4⟩
    · rw [if_neg (knl c1), c2]
      refine ⟨_, rfl, ?_, ?_⟩
      · dsimp only
        rw [rset_same]; exact hS
      · exact Iff.rfl
    · rw [if_pos (Int32.not_lt.mp c1)]
      exact ⟨_, rfl, c4.mono (Nat.le_succ B), ⟨fun z => absurd z c2, fun z => absurd (by rw [c3]; exact z) c2⟩⟩
  · subst k
    have e1 := h1 (by decide)
    have e2 := h2 (Or.inr rfl)
    have e3 := h3 rfl
    rw [if_neg (c := (119 : Int32) = 98) (by decide), if_neg (c := (119 : Int32) = 98) (by decide), if_neg (c := (119 : Int32) = 99) (by decide), if_neg (c := (119 : Int32) = 99) (by decide), if_neg (c := (119 : Int32) = 114) (by decide), if_neg (c := (119 : Int32) = 114) (by decide), if_pos (c := (119 : Int32) = 119) rfl, if_pos (c := (119 : Int32) = 119) rfl, e1, e2, e3]
    dsimp only
    rcases L_write (u := w) (x := S' 12 0 2) (y := S' 12 0 3) (s := S' 12 0 4) h with ⟨c1, c2⟩ | ⟨c1, c2, c3, c4⟩
    · rw [if_neg (knl c1), c2]
      refine ⟨_, rfl, ?_, ?_⟩
      · dsimp only
        rw [rset_same, rset_same]; exact hS
      · exact Iff.rfl
    · rw [if_pos (Int32.not_lt.mp c1)]
      exact ⟨_, rfl, c4.mono (Nat.le_succ B), ⟨fun z => absurd z c2, fun z => absurd (by rw [c3]; exact z) c2⟩⟩
  · subst k
    have e1 := h1 (by decide)
    rw [if_neg (c := (120 : Int32) = 98) (by decide), if_neg (c := (120 : Int32) = 98) (by decide), if_neg (c := (120 : Int32) = 99) (by decide), if_neg (c := (120 : Int32) = 99) (by decide), if_neg (c := (120 : Int32) = 114) (by decide), if_neg (c := (120 : Int32) = 114) (by decide), if_neg (c := (120 : Int32) = 119) (by decide), if_neg (c := (120 : Int32) = 119) (by decide), if_pos (c := (120 : Int32) = 120) rfl, e1]
    dsimp only
    rcases L_abort (u := w) (x := S' 12 0 2) h with ⟨c1, c2⟩ | ⟨c1, c2, c3, c4⟩
    · rw [if_neg (c := mX6_whyNotEnd w (S' 12 0 2) = 0) (fun z => by rw [z] at c1; exact absurd c1 (by decide)), c2]
      refine ⟨_, rfl, ?_, ?_⟩
      · dsimp only
        rw [rset_same, rset_same]; exact hS
      · exact Iff.rfl
    · rw [if_pos c1]
      refine ⟨_, rfl, c4.mono (Nat.le_succ B), ⟨fun z => absurd z c2, fun z => ?_⟩⟩
      have z' : mX6_whyNotEnd w (S' 12 0 2) < 0 := z
      rw [c1] at z'
      exact absurd z' (by decide)
def endS (X : kS) (i : Nat) : Int32 × kS := (fun (g_6 : Int32 × Int32) => (fun (g_7 : Int32 × Int32 × Int32) => (g_7.1, gset (gset X 12 (rset (X 12) 0 (upd ((X 12) 0) 0 g_6.2))) 11 (rset (X 11) 0 (upd (upd ((X 11) 0) 0 g_7.2.1) 1 g_7.2.2)))) (mX1_keepUnlessError (X 11) (nI i))) (mX3_empty (X 12))
theorem end_ok {B B' i : Nat} {S X : kS} {u u' : kG} {z' : Nat → Int32} (h : RR B S u) (hB : B ≤ B') (hX : ∀ j, 1 ≤ j → j < 12 → X j = mX1_prepare S j) (hv : RV B' (X 0) z') (hi : i ≤ 40) (e1 : u' 1 = z') (e2 : u' 2 = (mX6_record u).2) (e0 : u' 0 0 = (mX6_record u).1) (e01 : u' 0 1 = 0) (e3 : u' 3 = u 3) (e4 : u' 4 = u 4) : (endS X i).1 = nI i ∧ RR B' (endS X i).2 u' := by
  obtain ⟨nx, k, a1, a2, a3, a4, a5, a6⟩ := h.2.1
  have e11 : X 11 = S 11 := (hX 11 (by omega) (by omega)).trans (h.prep (Or.inr (by omega)))
  have hx : ¬ nI i < 0 := nI_pos (by omega)
  have ek := keep_ok (v := S 11) hx a4 a3 a2 a1
  unfold endS
  rw [e11, ek]
  dsimp only
  refine ⟨rfl, ?_, ?_, ?_, ?_⟩
  · rw [gset_ne _ _ (by decide), gset_ne _ _ (by decide), e1]; exact hv
  · refine HisR.mono ?_ hB
    refine h.2.1.rec (u' := u') h.1 (fun j h1 h2 => ?_) e0 e2 (nx' := nI ((nx + 1) % 7)) (k' := nI (if k < 6 then k + 1 else 6)) ⟨nI i, hx, ek⟩ ?_ ?_
    · rw [gset_ne _ _ (by omega), gset_ne _ _ (by omega)]; exact hX j (by omega) (by omega)
    · rw [gset_eq]; rfl
    · rw [gset_eq]; rfl
  · refine (h.2.2.1.congr (u' := u') ?_ ?_ ?_ e3 e4).mono hB
    · rw [gset_ne _ _ (by decide), gset_ne _ _ (by decide)]; exact (hX 1 (by omega) (by omega)).trans (h.prep (Or.inl (by omega)))
    · rw [gset_ne _ _ (by decide), gset_ne _ _ (by decide)]; exact (hX 2 (by omega) (by omega)).trans (h.prep (Or.inl (by omega)))
    · rw [gset_ne _ _ (by decide), gset_ne _ _ (by decide)]; exact (hX 10 (by omega) (by omega)).trans (h.prep (Or.inr (by omega)))
  · refine ⟨0, by omega, ?_, e01, fun k hk => absurd hk (Nat.not_lt_zero k)⟩
    rw [gset_ne _ _ (by decide), gset_eq]; rfl
theorem L37_more0 {S0 : kS} {g1 : Int32 × Int32 × Int32 × Int32 × Int32 × Int32 × Int32} {S3 : kS} {g4 : Int32} {f i : Nat} {X : kS} : mX5_carryOut_L37 S0 g1 S3 g4 (f + 1) i 0 X = endS X i := by
  rw [mX5_carryOut_L37_s, if_pos rfl]; rfl
theorem carry_L {B0 m L : Nat} {S S0 S3 : kS} {u : kG} {T F : Nat → Int32} {c1 : Int32 × Int32 × Int32 × Int32 × Int32 × Int32 × Int32} {c4 : Int32} {g1 : Int32 × Int32 × Int32 × Int32 × (Nat → Int32)} {g3 : Int32 × (Nat → Int32)} (hL : L ≤ 80) (hm : m ≤ 40) (hg : g1.2.1 = nI m) (hF : g1.2.2.2.2 = F) :
    ∀ r j p (X : kS) B f f' (zc : Nat → Int32) a b c, chn T L F r j p → p ≤ L → j + r = m → r < f → r < f' → B0 ≤ B → B + r < 2 ^ 30 → (∀ i, 1 ≤ i → i < 12 → X i = mX1_prepare S i) → X 12 0 0 = nI L → X 12 0 5 = nI p → X 12 1 = T → RV B (X 0) zc →
      ∃ z' B' a' b' c' i' X', B' ≤ B + r ∧ B0 ≤ B' ∧ i' ≤ 40 ∧ mX6_carryOut_L18 u g1 g3 f' j zc a b c = (nI i', g3.1, 0, a', b', c', g1.2.1, g1.2.2.1, g1.2.2.2.1, z', g3.2, g1.2.2.2.2) ∧ mX5_carryOut_L37 S0 c1 S3 c4 f j 1 X = endS X' i' ∧ (∀ i, 1 ≤ i → i < 12 → X' i = mX1_prepare S i) ∧ RV B' (X' 0) z' := by
  intro r
  induction r with
  | zero => intro j p X B f f' zc a b c hc; exact hc.elim
  | succ r ih =>
    intro j p X B f f' zc a b c hc hp hjr hf hf' hB0 hB hX x0 x5 xT hv
    obtain ⟨ok, y0, y1, y2, y3, y4⟩ := hc
    cases f with
    | zero => omega
    | succ f =>
      cases f' with
      | zero => omega
      | succ f' =>
        rw [mX6_carryOut_L18_s, mX5_carryOut_L37_s, if_neg (c := (1 : Int32) = 0) (by decide), if_neg (c := (80 : Int32) ≤ nI j) (nI_ge (b := 80) (by omega) (by omega)), hg, if_neg (nI_ge (show j < m by omega) (by omega))]
        obtain ⟨o1, o2, o3⟩ := order_c (v := X 12) (p := p) x0 hL x5 hp
        rw [xT] at o1 o2 o3
        obtain ⟨G, eG⟩ : ∃ G, G = mX3_passOrder (X 12) := ⟨_, rfl⟩
        rw [← eG] at o1 o2 o3 ⊢
        obtain ⟨t1, t2, t3, t4⟩ := o3 ok
        have hle := sO_le ok
        dsimp only
        rw [if_neg (c := G.1 = 0) (by rw [o1, if_pos ok]; decide)]
        obtain ⟨w, ew⟩ : ∃ w, w = (rset (rset (rset (rset u 1 zc) 2 (g3.2)) 8 (g1.2.2.2.2)) 0 (upd (upd (upd (upd (upd (upd (upd (u 0) 0 (g3.1)) 2 a) 3 b) 4 c) 5 (nI m)) 6 (g1.2.2.1)) 7 (g1.2.2.2.1))) := ⟨_, rfl⟩
        rw [← ew]
        have w1 : w 1 = zc := by rw [ew]; rfl
        have w8 : w 8 = F := by rw [ew, ← hF]; rfl
        obtain ⟨Y, eY⟩ : ∃ Y, Y = (gset X 12 (rset (X 12) 0 (upd (upd (upd (upd (upd (upd ((X 12) 0) 1 (G.2.1)) 2 (G.2.2.1)) 3 (G.2.2.2.1)) 4 (G.2.2.2.2.1)) 5 (G.2.2.2.2.2.1)) 6 (G.2.2.2.2.2.2)))) := ⟨_, rfl⟩
        rw [← eY]
        have Y12 : Y 12 = rset (X 12) 0 (upd (upd (upd (upd (upd (upd ((X 12) 0) 1 (G.2.1)) 2 (G.2.2.1)) 3 (G.2.2.2.1)) 4 (G.2.2.2.2.1)) 5 (G.2.2.2.2.2.1)) 6 (G.2.2.2.2.2.2)) := by rw [eY, gset_eq]
        have Yo : ∀ i, i ≠ 12 → Y i = X i := fun i hi => by rw [eY, gset_ne _ _ hi]
        have k1 : Y 12 0 1 = T p := by rw [Y12]; exact t1
        have k2 : Y 12 0 2 = G.2.2.1 := by rw [Y12]; rfl
        have k3 : Y 12 0 3 = G.2.2.2.1 := by rw [Y12]; rfl
        have k4 : Y 12 0 4 = G.2.2.2.2.1 := by rw [Y12]; rfl
        have k5 : Y 12 0 5 = nI (sO T L p).2.2.2.2 := by rw [Y12]; exact o2
        have k0 : Y 12 0 0 = nI L := by rw [Y12]; exact x0
        have kT' : Y 12 1 = T := by rw [Y12]; exact xT
        obtain ⟨v', q1, q2, q3⟩ := one_R (S' := Y) (w := w) (B := B) (j := j) (K := T p) (by omega) (by rw [Yo 0 (by omega), w1]; exact hv) (by omega) k1 (by rw [w8]; exact y0) hle.2.2.2 (fun z => by rw [w8, y1 z, k2, t2 z]) (fun z => by rw [w8, y2 z, k3, t3 z]) (fun z => by rw [w8, y3 z, k4, t4 z])
        obtain ⟨C, eC⟩ : ∃ C, C = mX5_carryOne Y := ⟨_, rfl⟩
        obtain ⟨D, eD⟩ : ∃ D, D = mX6_does w (nI j) := ⟨_, rfl⟩
        rw [← eC] at q1 q3 ⊢
        rw [← eD] at q2 q3 ⊢
        have C12 : C.2 12 = Y 12 := by rw [q1, gset_ne _ _ (by omega)]
        have Co : ∀ i, 1 ≤ i → i < 12 → C.2 i = mX1_prepare S i := fun i h1 h2 => by rw [q1, gset_ne _ _ (by omega), Yo i (by omega)]; exact hX i h1 h2
        have C0 : C.2 0 = v' := by rw [q1, gset_eq]
        by_cases neg : C.1 < 0
        · rw [if_pos neg, if_pos (q3.mp neg)]
          exact ⟨D.2.2.2.2, B + 1, D.2.1, D.2.2.1, D.2.2.2.1, j, C.2, by omega, by omega, by omega, rfl, rfl, Co, by rw [C0]; exact q2⟩
        · rw [if_neg neg, if_neg (fun z => neg (q3.mpr z)), C12]
          rw [sign_c (p := (sO T L p).2.2.2.2) (L := L) (T := T) k0 hL k5 hle.2.1 kT']
          obtain ⟨Z, eZ⟩ : ∃ Z : Int32 → kS, Z = fun s => gset C.2 12 (rset (Y 12) 0 (upd ((Y 12) 0) 5 s)) := ⟨_, rfl⟩
          have Z12 : ∀ s, Z s 12 = rset (Y 12) 0 (upd ((Y 12) 0) 5 s) := fun s => by rw [eZ]; exact gset_eq _ _ _
          have Zo : ∀ s i, 1 ≤ i → i < 12 → Z s i = mX1_prepare S i := fun s i h1 h2 => by rw [eZ]; dsimp only; rw [gset_ne _ _ (by omega)]; exact Co i h1 h2
          have Z0 : ∀ s, Z s 0 = v' := fun s => by rw [eZ]; dsimp only; rw [gset_ne _ _ (by omega)]; exact C0
          rcases y4 with ⟨r0, eL⟩ | ⟨r0, sg9, ch⟩
          · rw [if_neg (c := sg T L (sO T L p).2.2.2.2 59) (fun z => by have := z.1; omega)]
            dsimp only
            cases f with
            | zero => omega
            | succ f =>
              cases f' with
              | zero => omega
              | succ f' =>
                rw [L37_more0, mX6_carryOut_L18_s, hg, if_pos (nI_le (show m ≤ j + 1 by omega) (by omega))]
                refine ⟨D.2.2.2.2, B + 1, D.2.1, D.2.2.1, D.2.2.2.1, j + 1, Z (nI (sO T L p).2.2.2.2), by omega, by omega, by omega, rfl, by rw [eZ], Zo _, by rw [Z0]; exact q2⟩
          · rw [if_pos sg9]
            dsimp only
            have e3 : gset C.2 12 (rset (Y 12) 0 (upd ((Y 12) 0) 5 (nI ((sO T L p).2.2.2.2 + 1)))) = Z (nI ((sO T L p).2.2.2.2 + 1)) := by rw [eZ]
            rw [e3]
            obtain ⟨z', B', a', b', c', i', X', f1, f2, f3, f4, f5, f6, f7⟩ := ih (j + 1) ((sO T L p).2.2.2.2 + 1) (Z (nI ((sO T L p).2.2.2.2 + 1))) (B + 1) f f' D.2.2.2.2 D.2.1 D.2.2.1 D.2.2.2.1 ch sg9.1 (by omega) (by omega) (by omega) (by omega) (by omega) (Zo _) (by rw [Z12]; exact k0) (by rw [Z12]; rfl) (by rw [Z12]; exact kT') (by rw [Z0]; exact q2)
            exact ⟨z', B', a', b', c', i', X', by omega, f2, f3, by rw [← hg]; exact f4, f5, f6, f7⟩
def uX (u : kG) (a0 a1 a2 a3 a4 a5 a6 a7 : Int32) (z p o : Nat → Int32) : kG := rset (rset (rset (rset u 1 z) 2 p) 8 o) 0 (upd (upd (upd (upd (upd (upd (upd (upd (u 0) 0 a0) 1 a1) 2 a2) 3 a3) 4 a4) 5 a5) 6 a6) 7 a7)
theorem M_carryOut {B : Nat} {S : kS} {u : kG} (h : RR B S u) (hB : B + 41 < 2 ^ 30) : (mX5_carryOut S).1 = (mX6_carryOut u).1 ∧ RR (B + 41) (mX5_carryOut S).2 (uX u (mX6_carryOut u).2.1 (mX6_carryOut u).2.2.1 (mX6_carryOut u).2.2.2.1 (mX6_carryOut u).2.2.2.2.1 (mX6_carryOut u).2.2.2.2.2.1 (mX6_carryOut u).2.2.2.2.2.2.1 (mX6_carryOut u).2.2.2.2.2.2.2.1 (mX6_carryOut u).2.2.2.2.2.2.2.2.1 (mX6_carryOut u).2.2.2.2.2.2.2.2.2.1 (mX6_carryOut u).2.2.2.2.2.2.2.2.2.2.1 (mX6_carryOut u).2.2.2.2.2.2.2.2.2.2.2) := by
  obtain ⟨L, p1, p2, p3, p4⟩ := h.2.2.2
  obtain ⟨hf1, hf2⟩ := fault_eq (v := S 12) (u := u) p2 p1 p3 p4
  unfold mX5_carryOut mX6_carryOut
  obtain ⟨G, eG⟩ : ∃ G, G = mX3_firstFault (S 12) := ⟨_, rfl⟩
  obtain ⟨R, eR⟩ : ∃ R, R = mX6_readPad u := ⟨_, rfl⟩
  rw [← eG] at hf1 hf2 ⊢
  rw [← eR] at hf1 hf2 ⊢
  dsimp only
  obtain ⟨S2, eS2⟩ : ∃ S2, S2 = (gset S 12 (rset (S 12) 0 (upd (upd (upd (upd (upd (upd ((S 12) 0) 1 (G.2.1)) 2 (G.2.2.1)) 3 (G.2.2.2.1)) 4 (G.2.2.2.2.1)) 5 (G.2.2.2.2.2.1)) 6 (G.2.2.2.2.2.2)))) := ⟨_, rfl⟩
  rw [← eS2]
  have S12 : S2 12 = rset (S 12) 0 (upd (upd (upd (upd (upd (upd ((S 12) 0) 1 (G.2.1)) 2 (G.2.2.1)) 3 (G.2.2.2.1)) 4 (G.2.2.2.2.1)) 5 (G.2.2.2.2.2.1)) 6 (G.2.2.2.2.2.2)) := by rw [eS2, gset_eq]
  have So : ∀ j, j < 12 → S2 j = S j := fun j hj => by rw [eS2, gset_ne _ _ (by omega)]
  have z0 : S2 12 0 0 = S 12 0 0 := by rw [S12]; rfl
  have zT : S2 12 1 = S 12 1 := by rw [S12]; rfl
  rw [← hf1]
  by_cases c : G.1 = -6
  · rw [if_pos c, if_pos c]
    obtain ⟨r, r0, r40, r1, r2⟩ := hf2 c
    obtain ⟨u2, eu2⟩ : ∃ u2, u2 = (rset (rset u 8 (R.2.2.2.2)) 0 (upd (upd (upd (u 0) 5 (R.2.1)) 6 (R.2.2.1)) 7 (R.2.2.2.1))) := ⟨_, rfl⟩
    rw [← eu2]
    have h2 : RR B S2 u2 := h.congr So z0 zT (by rw [eu2]; rfl) (by rw [eu2]; rfl) (by rw [eu2]; rfl) (by rw [eu2]; rfl) (by rw [eu2]; rfl) (by rw [eu2]; rfl) (by rw [eu2]; rfl)
    obtain ⟨P, eP⟩ : ∃ P, P = mX1_prepare S2 := ⟨_, rfl⟩
    rw [← eP]
    have P12 : P 12 = S2 12 := by rw [eP]; exact h2.prep (Or.inr (by omega))
    have P0 : P 0 = S2 0 := by rw [eP]; exact h2.prep (Or.inl (by omega))
    obtain ⟨X, eX⟩ : ∃ X, X = (gset P 12 (rset (P 12) 0 (upd ((P 12) 0) 5 (mX3_rewind (P 12))))) := ⟨_, rfl⟩
    rw [← eX]
    have X12 : X 12 = rset (P 12) 0 (upd ((P 12) 0) 5 0) := by rw [eX, gset_eq]; rfl
    have Xo : ∀ j, j ≠ 12 → X j = P j := fun j hj => by rw [eX, gset_ne _ _ hj]
    obtain ⟨z', B', a', b', c', i', X', f1, f2, f3, f4, f5, f6, f7⟩ := carry_L (B0 := B) (m := r) (L := L) (S := S2) (S0 := S) (S3 := P) (u := u) (T := S 12 1) (F := R.2.2.2.2) (c1 := G) (c4 := mX3_rewind (P 12)) (g1 := R) (g3 := mX6_record u2) p1 r40 r1 rfl r 0 0 X B 81 42 (u 1) (u 0 2) (u 0 3) (u 0 4) r2 (Nat.zero_le _) (Nat.zero_add r) (by omega) (by omega) (Nat.le_refl _) (by omega) (fun i h1 h3 => by rw [Xo i (by omega), eP]) (by rw [X12, P12]; exact z0.trans p2) (by rw [X12]; rfl) (by rw [X12, P12]; exact zT) (by rw [Xo 0 (by omega), P0, So 0 (by omega)]; exact h.1)
    rw [f4, f5]
    dsimp only
    obtain ⟨e1, e2⟩ := end_ok (u' := uX u (mX6_record u2).1 0 a' b' c' R.2.1 R.2.2.1 R.2.2.2.1 z' (mX6_record u2).2 R.2.2.2.2) h2 f2 f6 f7 f3 rfl rfl rfl rfl (by rw [eu2]; rfl) (by rw [eu2]; rfl)
    exact ⟨e1, e2.mono (by omega)⟩
  · rw [if_neg c, if_neg c]
    refine ⟨rfl, RR.mono ?_ (show B ≤ B + 41 by omega)⟩
    exact h.congr So z0 zT rfl rfl rfl rfl rfl rfl rfl
