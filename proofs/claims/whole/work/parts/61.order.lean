/-! what is read: orders -/
abbrev sg (T : Nat → Int32) (L p : Nat) (ch : Int32) : Prop := p < L ∧ T p = ch
def sC (T : Nat → Int32) (L p : Nat) : Bool × Nat × Nat × Nat × Nat := ((sN T L (p + 1)).1, (sN T L (p + 1)).2.1, 0, 0, (sN T L (p + 1)).2.2)
def sR (T : Nat → Int32) (L p : Nat) : Bool × Nat × Nat × Nat × Nat :=
  if (sN T L (p + 1)).1 = true then
    if sg T L (sN T L (p + 1)).2.2 46 then ((sN T L ((sN T L (p + 1)).2.2 + 1)).1, (sN T L (p + 1)).2.1, (sN T L ((sN T L (p + 1)).2.2 + 1)).2.1, 0, (sN T L ((sN T L (p + 1)).2.2 + 1)).2.2)
    else (false, 0, 0, 0, (sN T L (p + 1)).2.2)
  else (false, 0, 0, 0, (sN T L (p + 1)).2.2)
def sW (T : Nat → Int32) (L p : Nat) : Bool × Nat × Nat × Nat × Nat :=
  if (sR T L p).1 = true then
    if sg T L (sR T L p).2.2.2.2 61 then ((sN T L ((sR T L p).2.2.2.2 + 1)).1, (sR T L p).2.1, (sR T L p).2.2.1, (sN T L ((sR T L p).2.2.2.2 + 1)).2.1, (sN T L ((sR T L p).2.2.2.2 + 1)).2.2)
    else (false, 0, 0, 0, (sR T L p).2.2.2.2)
  else (false, 0, 0, 0, (sR T L p).2.2.2.2)
def sO (T : Nat → Int32) (L p : Nat) : Bool × Nat × Nat × Nat × Nat :=
  if p < L then
    if T p = 98 then (true, 0, 0, 0, p + 1)
    else if T p = 99 then sC T L p
    else if T p = 114 then sR T L p
    else if T p = 119 then sW T L p
    else if T p = 120 then sC T L p
    else (false, 0, 0, 0, p)
  else (false, 0, 0, 0, p)
section A
variable {T : Nat → Int32} {L p a q j : Nat} {v w st : kG}
theorem sR_le (h : (sR T L p).1 = true) : p + 1 < (sR T L p).2.2.2.2 ∧ (sR T L p).2.2.2.2 ≤ L := by
  unfold sR at h ⊢
  by_cases c1 : (sN T L (p + 1)).1 = true
  · rw [if_pos c1] at h ⊢
    have g1 := sN_le c1
    by_cases c2 : sg T L (sN T L (p + 1)).2.2 46
    · rw [if_pos c2] at h ⊢
      have g2 := sN_le h
      exact ⟨by show p + 1 < (sN T L ((sN T L (p + 1)).2.2 + 1)).2.2; omega, g2.2.1⟩
    · rw [if_neg c2] at h; cases h
  · rw [if_neg c1] at h; cases h
theorem sW_le (h : (sW T L p).1 = true) : p + 1 < (sW T L p).2.2.2.2 ∧ (sW T L p).2.2.2.2 ≤ L := by
  unfold sW at h ⊢
  by_cases c1 : (sR T L p).1 = true
  · rw [if_pos c1] at h ⊢
    have g1 := sR_le c1
    by_cases c2 : sg T L (sR T L p).2.2.2.2 61
    · rw [if_pos c2] at h ⊢
      have g2 := sN_le h
      exact ⟨by show p + 1 < (sN T L ((sR T L p).2.2.2.2 + 1)).2.2; omega, g2.2.1⟩
    · rw [if_neg c2] at h; cases h
  · rw [if_neg c1] at h; cases h
theorem sO_le (h : (sO T L p).1 = true) : p < (sO T L p).2.2.2.2 ∧ (sO T L p).2.2.2.2 ≤ L ∧ p < L ∧ (T p = 98 ∨ T p = 99 ∨ T p = 114 ∨ T p = 119 ∨ T p = 120) := by
  unfold sO at h ⊢
  by_cases c0 : p < L
  · rw [if_pos c0] at h ⊢
    by_cases c1 : T p = 98
    · rw [if_pos c1]; exact ⟨Nat.lt_succ_self p, c0, c0, Or.inl c1⟩
    · rw [if_neg c1] at h ⊢
      by_cases c2 : T p = 99
      · rw [if_pos c2] at h ⊢
        have g := sN_le (p := p + 1) h
        exact ⟨Nat.lt_of_succ_lt g.1, g.2.1, c0, Or.inr (Or.inl c2)⟩
      · rw [if_neg c2] at h ⊢
        by_cases c3 : T p = 114
        · rw [if_pos c3] at h ⊢
          have g := sR_le h
          exact ⟨Nat.lt_of_succ_lt g.1, g.2, c0, Or.inr (Or.inr (Or.inl c3))⟩
        · rw [if_neg c3] at h ⊢
          by_cases c4 : T p = 119
          · rw [if_pos c4] at h ⊢
            have g := sW_le h
            exact ⟨Nat.lt_of_succ_lt g.1, g.2, c0, Or.inr (Or.inr (Or.inr (Or.inl c4)))⟩
          · rw [if_neg c4] at h ⊢
            by_cases c5 : T p = 120
            · rw [if_pos c5] at h ⊢
              have g := sN_le (p := p + 1) h
              exact ⟨Nat.lt_of_succ_lt g.1, g.2.1, c0, Or.inr (Or.inr (Or.inr (Or.inr c5)))⟩
            · rw [if_neg c5] at h; cases h
  · rw [if_neg c0] at h; cases h
/-! the class -/
theorem first_c (h1 : st 0 0 = nI L) (hL : L ≤ 80) (h5 : st 0 5 = nI p) (hp : p ≤ L) (hT : st 1 = T) : mX3_passFirst st = (if (sN T L p).1 = true then 1 else 0, nI (sN T L p).2.1, nI (sN T L p).2.2, nI (sN T L p).2.1) := by
  unfold mX3_passFirst
  rw [number_c h1 hL h5 hp, hT]
theorem second_c (h1 : st 0 0 = nI L) (hL : L ≤ 80) (h5 : st 0 5 = nI p) (hp : p ≤ L) (hT : st 1 = T) : mX3_passSecond st = (if (sN T L p).1 = true then 1 else 0, nI (sN T L p).2.1, nI (sN T L p).2.2, nI (sN T L p).2.1) := by
  unfold mX3_passSecond
  rw [number_c h1 hL h5 hp, hT]
theorem third_c (h1 : st 0 0 = nI L) (hL : L ≤ 80) (h5 : st 0 5 = nI p) (hp : p ≤ L) (hT : st 1 = T) : mX3_passThird st = (if (sN T L p).1 = true then 1 else 0, nI (sN T L p).2.1, nI (sN T L p).2.2, nI (sN T L p).2.1) := by
  unfold mX3_passThird
  rw [number_c h1 hL h5 hp, hT]
theorem sign_c {ch : Int32} (h1 : st 0 0 = nI L) (hL : L ≤ 80) (h5 : st 0 5 = nI p) (hp : p ≤ L) (hT : st 1 = T) : mX3_passSign st ch = if sg T L p ch then (1, nI (p + 1)) else (0, nI p) := by
  unfold mX3_passSign
  rw [h1, h5, nI_clamp (by omega), hT]
  rcases Nat.lt_or_ge p L with q | q
  · rw [if_neg (nI_ge q (by omega))]
    by_cases c : T p = ch
    · rw [if_pos c, if_pos (c := sg T L p ch) ⟨q, c⟩, nI_1]
    · rw [if_neg c, if_neg (c := sg T L p ch) (fun z => c z.2)]
  · rw [if_pos (nI_le q (by omega)), if_neg (c := sg T L p ch) (fun z => by have := z.1; omega)]
theorem num_le (hp : p ≤ L) : (sN T L p).2.2 ≤ L := by
  cases e : (sN T L p).1 with
  | true => exact (sN_le e).2.1
  | false => rw [sN_no e]; exact hp
def okO (T : Nat → Int32) (L p : Nat) (R : Int32 × Int32 × Int32 × Int32 × Int32 × Int32 × Int32) : Prop := R.1 = (if (sO T L p).1 = true then 1 else 0) ∧ R.2.2.2.2.2.1 = nI (sO T L p).2.2.2.2 ∧ ((sO T L p).1 = true → R.2.1 = T p ∧ (¬ T p = 98 → R.2.2.1 = nI (sO T L p).2.1) ∧ ((T p = 114 ∨ T p = 119) → R.2.2.2.1 = nI (sO T L p).2.2.1) ∧ (T p = 119 → R.2.2.2.2.1 = nI (sO T L p).2.2.2.1))
theorem ite10 {P : Prop} [Decidable P] (h : P) : ¬ (if P then (1 : Int32) else 0) = 0 := by rw [if_pos h]; decide
theorem ite00 {P : Prop} [Decidable P] (h : ¬ P) : (if P then (1 : Int32) else 0) = 0 := if_neg h
theorem order_c (h1 : v 0 0 = nI L) (hL : L ≤ 80) (h5 : v 0 5 = nI p) (hp : p ≤ L) : okO (v 1) L p (mX3_passOrder v) := by
  rw [mX3_passOrder_s, h1, h5, nI_clamp (by omega)]
  rcases Nat.lt_or_ge p L with q | q
  · rw [if_neg (nI_ge q (by omega)), nI_1]
    by_cases c1 : v 1 p = 98
    · rw [if_pos c1]
      unfold okO sO
      rw [if_pos q, if_pos c1]
      exact ⟨rfl, rfl, fun _ => ⟨rfl, fun z => absurd c1 z, fun z => by rw [c1] at z; exact absurd z (by decide), fun z => by rw [c1] at z; exact absurd z (by decide)⟩⟩
    · rw [if_neg c1]
      by_cases c2 : v 1 p = 99
      · rw [if_pos c2]
        dsimp only
        rw [first_c (p := p + 1) (L := L) (T := v 1) (by exact h1) hL (by rfl) q (by rfl)]
        unfold okO sO
        rw [if_pos q, if_neg c1, if_pos c2]
        exact ⟨rfl, rfl, fun _ => ⟨rfl, fun _ => rfl, fun z => by rw [c2] at z; exact absurd z (by decide), fun z => by rw [c2] at z; exact absurd z (by decide)⟩⟩
      · rw [if_neg c2]
        by_cases c3 : v 1 p = 114
        · rw [if_pos c3]
          have e114 : sO (v 1) L p = sR (v 1) L p := by unfold sO; rw [if_pos q, if_neg c1, if_neg c2, if_pos c3]
          rw [first_c (p := p + 1) (L := L) (T := v 1) (by exact h1) hL (by rfl) q (by rfl)]
          have l1 := num_le (T := v 1) (show p + 1 ≤ L from q)
          by_cases n1 : (sN (v 1) L (p + 1)).1 = true
          · dsimp only
            rw [if_neg (ite10 n1)]
            rw [sign_c (p := (sN (v 1) L (p + 1)).2.2) (L := L) (T := v 1) (by exact h1) hL (by rfl) l1 (by rfl)]
            by_cases s1 : sg (v 1) L (sN (v 1) L (p + 1)).2.2 46
            · have eR : sR (v 1) L p = ((sN (v 1) L ((sN (v 1) L (p + 1)).2.2 + 1)).1, (sN (v 1) L (p + 1)).2.1, (sN (v 1) L ((sN (v 1) L (p + 1)).2.2 + 1)).2.1, 0, (sN (v 1) L ((sN (v 1) L (p + 1)).2.2 + 1)).2.2) := by
                unfold sR; rw [if_pos n1, if_pos s1]
              rw [if_pos s1]
              dsimp only
              rw [if_neg (c := (1 : Int32) = 0) (by decide)]
              rw [second_c (p := (sN (v 1) L (p + 1)).2.2 + 1) (L := L) (T := v 1) (by exact h1) hL (by rfl) s1.1 (by rfl)]
              dsimp only
              unfold okO
              rw [e114, eR]
              by_cases n2 : (sN (v 1) L ((sN (v 1) L (p + 1)).2.2 + 1)).1 = true
              · rw [if_neg (ite10 n2)]
                dsimp only
                rw [if_pos n2]
                exact ⟨rfl, rfl, fun _ => ⟨rfl, fun _ => rfl, fun _ => rfl, fun z => by rw [c3] at z; exact absurd z (by decide)⟩⟩
              · rw [if_pos (ite00 n2)]
                dsimp only
                rw [if_neg n2]
                exact ⟨rfl, rfl, fun z => absurd z n2⟩
            · have eR : sR (v 1) L p = (false, 0, 0, 0, (sN (v 1) L (p + 1)).2.2) := by
                unfold sR; rw [if_pos n1, if_neg s1]
              rw [if_neg s1]
              dsimp only
              rw [if_pos (c := (0 : Int32) = 0) rfl]
              unfold okO
              rw [e114, eR]
              exact ⟨rfl, rfl, fun z => absurd z Bool.false_ne_true⟩
          · have eR : sR (v 1) L p = (false, 0, 0, 0, (sN (v 1) L (p + 1)).2.2) := by
              unfold sR; rw [if_neg n1]
            dsimp only
            rw [if_pos (ite00 n1)]
            unfold okO
            rw [e114, eR]
            exact ⟨rfl, rfl, fun z => absurd z Bool.false_ne_true⟩
        · rw [if_neg c3]
          by_cases c4 : v 1 p = 119
          · rw [if_pos c4]
            have e119 : sO (v 1) L p = sW (v 1) L p := by unfold sO; rw [if_pos q, if_neg c1, if_neg c2, if_neg c3, if_pos c4]
            rw [first_c (p := p + 1) (L := L) (T := v 1) (by exact h1) hL (by rfl) q (by rfl)]
            have l1 := num_le (T := v 1) (show p + 1 ≤ L from q)
            by_cases n1 : (sN (v 1) L (p + 1)).1 = true
            · dsimp only
              rw [if_neg (ite10 n1)]
              rw [sign_c (p := (sN (v 1) L (p + 1)).2.2) (L := L) (T := v 1) (by exact h1) hL (by rfl) l1 (by rfl)]
              by_cases s1 : sg (v 1) L (sN (v 1) L (p + 1)).2.2 46
              · have eR : sR (v 1) L p = ((sN (v 1) L ((sN (v 1) L (p + 1)).2.2 + 1)).1, (sN (v 1) L (p + 1)).2.1, (sN (v 1) L ((sN (v 1) L (p + 1)).2.2 + 1)).2.1, 0, (sN (v 1) L ((sN (v 1) L (p + 1)).2.2 + 1)).2.2) := by
                  unfold sR; rw [if_pos n1, if_pos s1]
                rw [if_pos s1]
                dsimp only
                rw [if_neg (c := (1 : Int32) = 0) (by decide)]
                rw [second_c (p := (sN (v 1) L (p + 1)).2.2 + 1) (L := L) (T := v 1) (by exact h1) hL (by rfl) s1.1 (by rfl)]
                dsimp only
                have l2 := num_le (T := v 1) (show (sN (v 1) L (p + 1)).2.2 + 1 ≤ L from s1.1)
                by_cases n2 : (sN (v 1) L ((sN (v 1) L (p + 1)).2.2 + 1)).1 = true
                · rw [if_neg (ite10 n2)]
                  rw [sign_c (p := (sN (v 1) L ((sN (v 1) L (p + 1)).2.2 + 1)).2.2) (L := L) (T := v 1) (by exact h1) hL (by rfl) l2 (by rfl)]
                  by_cases s2 : sg (v 1) L (sN (v 1) L ((sN (v 1) L (p + 1)).2.2 + 1)).2.2 61
                  · have eW : sW (v 1) L p = ((sN (v 1) L ((sN (v 1) L ((sN (v 1) L (p + 1)).2.2 + 1)).2.2 + 1)).1, (sN (v 1) L (p + 1)).2.1, (sN (v 1) L ((sN (v 1) L (p + 1)).2.2 + 1)).2.1, (sN (v 1) L ((sN (v 1) L ((sN (v 1) L (p + 1)).2.2 + 1)).2.2 + 1)).2.1, (sN (v 1) L ((sN (v 1) L ((sN (v 1) L (p + 1)).2.2 + 1)).2.2 + 1)).2.2) := by
                      unfold sW; rw [eR]; dsimp only; rw [if_pos n2, if_pos s2]
                    rw [if_pos s2]
                    dsimp only
                    rw [if_neg (c := (1 : Int32) = 0) (by decide)]
                    rw [third_c (p := (sN (v 1) L ((sN (v 1) L (p + 1)).2.2 + 1)).2.2 + 1) (L := L) (T := v 1) (by exact h1) hL (by rfl) s2.1 (by rfl)]
                    dsimp only
                    unfold okO
                    rw [e119, eW]
                    by_cases n3 : (sN (v 1) L ((sN (v 1) L ((sN (v 1) L (p + 1)).2.2 + 1)).2.2 + 1)).1 = true
                    · rw [if_neg (ite10 n3)]
                      dsimp only
                      rw [if_pos n3]
                      exact ⟨rfl, rfl, fun _ => ⟨rfl, fun _ => rfl, fun _ => rfl, fun _ => rfl⟩⟩
                    · rw [if_pos (ite00 n3)]
                      dsimp only
                      rw [if_neg n3]
                      exact ⟨rfl, rfl, fun z => absurd z n3⟩
                  · have eW : sW (v 1) L p = (false, 0, 0, 0, (sN (v 1) L ((sN (v 1) L (p + 1)).2.2 + 1)).2.2) := by
                      unfold sW; rw [eR]; dsimp only; rw [if_pos n2, if_neg s2]
                    rw [if_neg s2]
                    dsimp only
                    rw [if_pos (c := (0 : Int32) = 0) rfl]
                    unfold okO
                    rw [e119, eW]
                    exact ⟨rfl, rfl, fun z => absurd z Bool.false_ne_true⟩
                · have eW : sW (v 1) L p = (false, 0, 0, 0, (sN (v 1) L ((sN (v 1) L (p + 1)).2.2 + 1)).2.2) := by
                    unfold sW; rw [eR]; dsimp only; rw [if_neg n2]
                  rw [if_pos (ite00 n2)]
                  unfold okO
                  rw [e119, eW]
                  exact ⟨rfl, rfl, fun z => absurd z Bool.false_ne_true⟩
              · have eR : sR (v 1) L p = (false, 0, 0, 0, (sN (v 1) L (p + 1)).2.2) := by
                  unfold sR; rw [if_pos n1, if_neg s1]
                have eW : sW (v 1) L p = (false, 0, 0, 0, (sN (v 1) L (p + 1)).2.2) := by
                  unfold sW; rw [eR]; rfl
                rw [if_neg s1]
                dsimp only
                rw [if_pos (c := (0 : Int32) = 0) rfl]
                unfold okO
                rw [e119, eW]
                exact ⟨rfl, rfl, fun z => absurd z Bool.false_ne_true⟩
            · have eR : sR (v 1) L p = (false, 0, 0, 0, (sN (v 1) L (p + 1)).2.2) := by
                unfold sR; rw [if_neg n1]
              have eW : sW (v 1) L p = (false, 0, 0, 0, (sN (v 1) L (p + 1)).2.2) := by
                unfold sW; rw [eR]; rfl
              dsimp only
              rw [if_pos (ite00 n1)]
              unfold okO
              rw [e119, eW]
              exact ⟨rfl, rfl, fun z => absurd z Bool.false_ne_true⟩
          · rw [if_neg c4]
            by_cases c5 : v 1 p = 120
            · rw [if_pos c5]
              dsimp only
              rw [first_c (p := p + 1) (L := L) (T := v 1) (by exact h1) hL (by rfl) q (by rfl)]
              unfold okO sO
              rw [if_pos q, if_neg c1, if_neg c2, if_neg c3, if_neg c4, if_pos c5]
              exact ⟨rfl, rfl, fun _ => ⟨rfl, fun _ => rfl, fun z => by rw [c5] at z; exact absurd z (by decide), fun z => by rw [c5] at z; exact absurd z (by decide)⟩⟩
            · rw [if_neg c5]
              unfold okO sO
              rw [if_pos q, if_neg c1, if_neg c2, if_neg c3, if_neg c4, if_neg c5]
              exact ⟨rfl, rfl, fun z => absurd z Bool.false_ne_true⟩
  · rw [if_pos (nI_le q (by omega))]
    have e0 : sO (v 1) L p = (false, 0, 0, 0, p) := by unfold sO; rw [if_neg (by omega)]
    unfold okO
    rw [e0]
    exact ⟨rfl, rfl, fun z => absurd z Bool.false_ne_true⟩
end A
