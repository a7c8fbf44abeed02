/-! the whole text -/
def chn (T : Nat → Int32) (L : Nat) (F : Nat → Int32) : Nat → Nat → Nat → Prop
  | 0, _, _ => False
  | r + 1, j, p => (sO T L p).1 = true ∧ F (4 * j) = T p ∧ (¬ T p = 98 → F (4 * j + 1) = nI (sO T L p).2.1) ∧ ((T p = 114 ∨ T p = 119) → F (4 * j + 2) = nI (sO T L p).2.2.1) ∧ (T p = 119 → F (4 * j + 3) = nI (sO T L p).2.2.2.1) ∧ ((r = 0 ∧ (sO T L p).2.2.2.2 = L) ∨ (0 < r ∧ sg T L (sO T L p).2.2.2.2 59 ∧ chn T L F r (j + 1) ((sO T L p).2.2.2.2 + 1)))
section A
variable {T : Nat → Int32} {L p j : Nat} {v u w : kG} {F : Nat → Int32} {q x : Int32}
theorem sR_eL (hp : p < L) : (sR T L p).2.2.2.2 ≤ L := by
  unfold sR
  split
  · split
    · rename_i h; exact num_le h.1
    · exact num_le hp
  · exact num_le hp
theorem sO_eL (hp : p ≤ L) : (sO T L p).2.2.2.2 ≤ L := by
  unfold sO
  by_cases c0 : p < L
  · rw [if_pos c0]
    split
    · exact c0
    · split
      · exact num_le c0
      · split
        · exact sR_eL c0
        · split
          · unfold sW
            split
            · split
              · rename_i h; exact num_le h.1
              · exact sR_eL c0
            · exact sR_eL c0
          · split
            · exact num_le c0
            · exact hp
  · rw [if_neg c0]; exact hp
theorem FF_L {g1 : Int32} (h1 : v 0 0 = nI L) (hL : L ≤ 80) (hu : u 0 1 = nI L) (hT : ∀ k, k < L → u 5 k = v 1 k) : ∀ f f' i p (F8 : Nat → Int32) q1 q2 q3 q4 q6, p ≤ L → 2 * i ≤ p → L < f + p → L + 2 < 2 * f' + p →
    (mX3_firstFault_L6 v g1 f i q1 q2 q3 q4 (nI p) q6).1 = (mX6_readPad_L18 u f' 1 F8 (nI i) (nI p) (-6)).1 ∧ (∀ k, k < 4 * i → (mX6_readPad_L18 u f' 1 F8 (nI i) (nI p) (-6)).2.2.2.2 k = F8 k) ∧ ((mX3_firstFault_L6 v g1 f i q1 q2 q3 q4 (nI p) q6).1 = -6 → ∃ r, 0 < r ∧ i + r ≤ 40 ∧ (mX6_readPad_L18 u f' 1 F8 (nI i) (nI p) (-6)).2.1 = nI (i + r) ∧ chn (v 1) L (mX6_readPad_L18 u f' 1 F8 (nI i) (nI p) (-6)).2.2.2.2 r i p) := by
  intro f
  induction f with
  | zero => intro f' i p F8 q1 q2 q3 q4 q6 a1 a2 a3; omega
  | succ f ih =>
    intro f' i p F8 q1 q2 q3 q4 q6 a1 a2 a3 a4
    cases f' with
    | zero => omega
    | succ f' =>
      have hpO := sO_eL (T := v 1) a1
      rw [mX3_firstFault_L6_s, mX6_readPad_L18_s, if_neg (c := (80 : Int32) ≤ nI i) (nI_ge (b := 80) (by omega) (by omega)), if_neg (c := (1 : Int32) = 0) (by decide)]
      have hG := order_c (v := rset v 0 (upd (upd (upd (upd (upd (upd (v 0) 1 q1) 2 q2) 3 q3) 4 q4) 5 (nI p)) 6 q6)) (p := p) h1 hL rfl a1
      have hR := readO_r (w := rset (rset u 8 F8) 0 (upd (upd (upd (u 0) 5 (nI i)) 6 (nI p)) 7 (-6))) (T := v 1) (p := p) (j := i) hu hL rfl (by omega) rfl rfl a1 hT
      obtain ⟨G, eG⟩ : ∃ G, G = mX3_passOrder (rset v 0 (upd (upd (upd (upd (upd (upd (v 0) 1 q1) 2 q2) 3 q3) 4 q4) 5 (nI p)) 6 q6)) := ⟨_, rfl⟩
      obtain ⟨R, eR⟩ : ∃ R, R = mX6_readOrder (rset (rset u 8 F8) 0 (upd (upd (upd (u 0) 5 (nI i)) 6 (nI p)) 7 (-6))) := ⟨_, rfl⟩
      rw [← eG] at hG ⊢
      rw [← eR] at hR ⊢
      dsimp only
      obtain ⟨g1', g2', g3'⟩ := hG
      obtain ⟨r1', r2', r3', r4'⟩ := hR
      have hpO' : (sO (v 1) L p).2.2.2.2 ≤ L := hpO
      by_cases ok : (sO (v 1) L p).1 = true
      · have g1'' : G.1 = 1 := g1'.trans (if_pos ok)
        obtain ⟨s1, s2, s3, s4, s5, s6⟩ := r3' ok
        have hle := sO_le ok
        obtain ⟨e, he⟩ : ∃ e, e = (sO (v 1) L p).2.2.2.2 := ⟨_, rfl⟩
        have g2'' : G.2.2.2.2.2.1 = nI e := by rw [he]; exact g2'
        have s1' : R.2.1 = nI e := by rw [he]; exact s1
        rw [← he] at hle hpO'
        rw [if_neg (c := G.1 = 0) (by rw [g1'']; decide), if_pos s2]
        rw [g2'', s1', r1', s2, h1, hu]
        by_cases eL : e = L
        · rw [eL, if_pos rfl, if_pos (nI_le (Nat.le_refl L) (by omega))]
          cases f' with
          | zero => omega
          | succ f' =>
            rw [mX6_readPad_L18_s, if_pos rfl]
            refine ⟨rfl, r2', fun _ => ⟨1, by omega, by omega, rfl, ?_⟩⟩
            exact ⟨ok, s3, s4, s5, s6, Or.inl ⟨rfl, by rw [← he]; exact eL⟩⟩
        · rw [if_neg (fun z => eL ((nI_eq (by omega) (by omega)).mp z)), if_neg (nI_ge (show e < L by omega) (by omega))]
          rw [sign_c (p := e) (L := L) (T := v 1) (by exact h1) hL (by rfl) hpO' (by rfl)]
          rw [letter_r (p := e) (L := L) (T := v 1) (by exact hu) hL (by rfl) hpO' (by exact hT), if_pos (show e < L by omega)]
          by_cases c : v 1 e = 59
          · rw [if_pos (c := sg (v 1) L e 59) ⟨by omega, c⟩, if_pos c, wants_1 (p := e) (by rfl) (by rfl)]
            dsimp only
            rw [if_neg (c := (1 : Int32) = 0) (by decide), if_pos (c := (-6 : Int32) = -6) rfl]
            obtain ⟨b1, b2, b3⟩ := ih f' (i + 1) (e + 1) R.2.2.2 G.2.1 G.2.2.1 G.2.2.2.1 G.2.2.2.2.1 G.2.2.2.2.2.2 (by omega) (by omega) (by omega) (by omega)
            refine ⟨b1, fun k hk => (b2 k (by omega)).trans (r2' k hk), fun z => ?_⟩
            obtain ⟨r, d1, d2, d3, d4⟩ := b3 z
            refine ⟨r + 1, by omega, by omega, by rw [d3]; congr 1; omega, ?_⟩
            refine ⟨ok, (b2 _ (by omega)).trans s3, fun z => (b2 _ (by omega)).trans (s4 z), fun z => (b2 _ (by omega)).trans (s5 z), fun z => (b2 _ (by omega)).trans (s6 z), Or.inr ⟨d1, ?_, ?_⟩⟩
            · rw [← he]; exact ⟨by omega, c⟩
            · rw [← he]; exact d4
          · rw [if_neg (c := sg (v 1) L e 59) (fun z => c z.2), if_neg c, wants_0 (p := e) (by rfl) (by rfl)]
            dsimp only
            rw [if_pos (c := (0 : Int32) = 0) rfl, if_neg (nI_ne6 (by omega))]
            cases f' with
            | zero => omega
            | succ f' =>
              rw [mX6_readPad_L18_s, if_pos rfl]
              exact ⟨rfl, r2', fun z => absurd z (nI_ne6 (by omega))⟩
      · have g1'' : G.1 = 0 := g1'.trans (if_neg ok)
        have s2 := r4' ok
        rw [if_pos (c := G.1 = 0) g1'', g2', s2, if_neg (nI_ne6 (by omega))]
        cases f' with
        | zero => omega
        | succ f' =>
          rw [mX6_readPad_L18_s, if_pos rfl]
          exact ⟨rfl, r2', fun z => absurd z (nI_ne6 (j := (sO (v 1) L p).2.2.2.2) (by omega))⟩
theorem fault_eq (h1 : v 0 0 = nI L) (hL : L ≤ 80) (hu : u 0 1 = nI L) (hT : ∀ k, k < L → u 5 k = v 1 k) : (mX3_firstFault v).1 = (mX6_readPad u).1 ∧ ((mX3_firstFault v).1 = -6 → ∃ r, 0 < r ∧ r ≤ 40 ∧ (mX6_readPad u).2.1 = nI r ∧ chn (v 1) L (mX6_readPad u).2.2.2.2 r 0 0) := by
  obtain ⟨a, _, c⟩ := FF_L (g1 := 0) h1 hL hu hT 81 42 0 0 (u 8) (v 0 1) (v 0 2) (v 0 3) (v 0 4) (v 0 6) (Nat.zero_le _) (Nat.zero_le _) (by omega) (by omega)
  refine ⟨a, fun z => ?_⟩
  obtain ⟨r, d1, d2, d3, d4⟩ := c z
  rw [Nat.zero_add] at d2 d3
  exact ⟨r, d1, d2, d3, d4⟩
end A
