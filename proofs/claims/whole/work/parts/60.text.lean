/-! what is read: numbers -/
abbrev dg (T : Nat → Int32) (L p : Nat) : Prop := p < L ∧ ¬ T p < 48 ∧ ¬ 57 < T p
def dv (T : Nat → Int32) (p : Nat) : Nat := (T p - 48).toNatClampNeg
def sN (T : Nat → Int32) (L p : Nat) : Bool × Nat × Nat :=
  if dg T L p then
    if dv T p = 0 then (true, 0, p + 1)
    else if dg T L (p + 1) then
      if dg T L (p + 2) then (true, 10 * (10 * dv T p + dv T (p + 1)) + dv T (p + 2), p + 3)
      else (true, 10 * dv T p + dv T (p + 1), p + 2)
    else (true, dv T p, p + 1)
  else (false, 0, p)
theorem dig_x {x : Int32} (h1 : ¬ x < 48) (h2 : ¬ 57 < x) : ∃ d, d ≤ 9 ∧ x = nI (48 + d) ∧ x - 48 = nI d := by
  have h0 : ¬ x < 0 := fun z => h1 (Int32.lt_trans z (by decide))
  obtain ⟨j, hj, rfl⟩ := nI_of h0
  have a1 : 48 ≤ j := by
    rcases Nat.lt_or_ge j 48 with q | q
    · exact absurd (nI_lt (b := 48) q (by omega)) h1
    · exact q
  have a2 : j ≤ 57 := by
    rcases Nat.lt_or_ge 57 j with q | q
    · exact absurd (nI_lt (a := 57) q hj) h2
    · exact q
  exact ⟨j - 48, by omega, by congr 1; omega, pk_sub (b := 48) a1⟩
theorem in_dig {x : Int32} : (mX6_in (x - 48) 0 9 = 0) = ¬ (¬ x < 48 ∧ ¬ 57 < x) := by
  apply propext
  unfold mX6_in
  constructor
  · intro h z
    obtain ⟨d, hd, _, e⟩ := dig_x z.1 z.2
    rw [e, if_neg (nI_pos (by omega)), if_neg (c := (9 : Int32) < nI d) (nI_nlt (b := d) (a := 9) hd (by omega))] at h
    exact absurd h (by decide)
  · intro h
    by_cases c1 : x - 48 < 0
    · rw [if_pos c1]
    · rw [if_neg c1]
      by_cases c2 : 9 < x - 48
      · rw [if_pos c2]
      · exfalso
        apply h
        obtain ⟨d, hd, e⟩ := nI_of c1
        have d9 : d ≤ 9 := by
          rcases Nat.lt_or_ge 9 d with q | q
          · exact absurd (by rw [e]; exact nI_lt (a := 9) q hd) c2
          · exact q
        have ex : x = nI (d + 48) := by rw [← nI_add, ← e]; exact (Int32.sub_add_cancel x 48).symm
        rw [ex]
        exact ⟨nI_nlt (b := 48) (by omega) (by omega), nI_nlt (a := 57) (by omega) (by omega)⟩
theorem dv_le {T : Nat → Int32} {L p : Nat} (h : dg T L p) : dv T p ≤ 9 ∧ T p - 48 = nI (dv T p) := by
  obtain ⟨d, hd, _, e⟩ := dig_x h.2.1 h.2.2
  unfold dv
  rw [e, nI_clamp (by omega)]
  exact ⟨hd, rfl⟩
theorem sN_le {T : Nat → Int32} {L p : Nat} (h : (sN T L p).1 = true) : p < (sN T L p).2.2 ∧ (sN T L p).2.2 ≤ L ∧ (sN T L p).2.1 ≤ 999 := by
  unfold sN at h ⊢
  by_cases c1 : dg T L p
  · rw [if_pos c1]
    have d1 := (dv_le c1).1
    by_cases c2 : dv T p = 0
    · rw [if_pos c2]; exact ⟨Nat.lt_succ_self p, c1.1, Nat.zero_le _⟩
    · rw [if_neg c2]
      by_cases c3 : dg T L (p + 1)
      · rw [if_pos c3]
        have d2 := (dv_le c3).1
        by_cases c4 : dg T L (p + 2)
        · rw [if_pos c4]
          have d3 := (dv_le c4).1
          exact ⟨by show p < p + 3; omega, c4.1, by show 10 * (10 * dv T p + dv T (p + 1)) + dv T (p + 2) ≤ 999; omega⟩
        · rw [if_neg c4]; exact ⟨by show p < p + 2; omega, c3.1, by show 10 * dv T p + dv T (p + 1) ≤ 999; omega⟩
      · rw [if_neg c3]; exact ⟨by show p < p + 1; omega, c1.1, by show dv T p ≤ 999; omega⟩
  · rw [if_neg c1] at h; cases h
theorem sN_no {T : Nat → Int32} {L p : Nat} (h : (sN T L p).1 = false) : (sN T L p).2.2 = p := by
  unfold sN at h ⊢
  by_cases c1 : dg T L p
  · rw [if_pos c1] at h
    by_cases c2 : dv T p = 0
    · rw [if_pos c2] at h; cases h
    · rw [if_neg c2] at h
      by_cases c3 : dg T L (p + 1)
      · rw [if_pos c3] at h
        by_cases c4 : dg T L (p + 2)
        · rw [if_pos c4] at h; cases h
        · rw [if_neg c4] at h; cases h
      · rw [if_neg c3] at h; cases h
  · rw [if_neg c1]
section A
variable {T : Nat → Int32} {L p : Nat} {v w : kG}
/-- the class -/
theorem isDig0 {w : kG} (h1 : w 0 0 = nI L) (hL : L ≤ 80) (h5 : w 0 5 = nI p) (hp : p ≤ L) (hT : w 1 = T) : (mX3_isDigitNext w = 0) = ¬ dg T L p := by
  apply propext
  unfold mX3_isDigitNext
  rw [h1, h5, nI_clamp (by omega), hT]
  rcases Nat.lt_or_ge p L with q | q
  · rw [if_neg (nI_ge q (by omega))]
    by_cases c1 : T p < 48
    · rw [if_pos c1]; exact ⟨fun _ z => z.2.1 c1, fun _ => rfl⟩
    · rw [if_neg c1]
      by_cases c2 : 57 < T p
      · rw [if_pos c2]; exact ⟨fun _ z => z.2.2 c2, fun _ => rfl⟩
      · rw [if_neg c2]; exact ⟨fun z => absurd z (by decide), fun z => absurd ⟨q, c1, c2⟩ z⟩
  · rw [if_pos (nI_le q (by omega))]
    exact ⟨fun _ z => by have := z.1; omega, fun _ => rfl⟩
theorem pn_stop {f i : Nat} {x : Int32} (h1 : v 0 0 = nI L) (hL : L ≤ 80) (hp : p ≤ L) (hi : i ≤ 3) (h : ¬ dg (v 1) L p) : mX3_passNumber_L7 v (f + 1) i (nI p) x = (if i = 0 then 0 else 1, nI p, x) := by
  rw [mX3_passNumber_L7_s, if_pos (kT (isDig0 (w := rset v 0 (upd (upd (v 0) 5 (nI p)) 6 x)) (T := v 1) h1 hL rfl hp rfl) h)]
  by_cases c : i = 0
  · rw [c]; rfl
  · rw [if_neg (nI_nle (by omega) (by omega)), if_neg c]
theorem pn_first {f : Nat} (h1 : v 0 0 = nI L) (hL : L ≤ 80) (hp : p ≤ L) (h : dg (v 1) L p) : mX3_passNumber_L7 v (f + 1) 0 (nI p) 0 = mX3_passNumber_L7 v f 1 (nI (p + 1)) (nI (dv (v 1) p)) := by
  rw [mX3_passNumber_L7_s, if_neg (kF (isDig0 (w := rset v 0 (upd (upd (v 0) 5 (nI p)) 6 0)) (T := v 1) h1 hL rfl hp rfl) h)]
  rw [if_neg (c := (3 : Int32) ≤ nI 0) (by decide), if_pos (c := nI 0 = 0) rfl, nI_clamp (by omega), (dv_le h).2, nI_1]
  congr 1
  rw [show (0 : Int32) = nI 0 from rfl, show (10 : Int32) = nI 10 from rfl, pk_mul, nI_add]
  congr 1
  omega
theorem pn_zero {f i : Nat} (hi0 : 0 < i) (hi : i ≤ 3) : mX3_passNumber_L7 v (f + 1) i (nI p) (nI 0) = (1, nI p, nI 0) := by
  rw [mX3_passNumber_L7_s, if_neg (c := nI i ≤ 0) (nI_nle hi0 (by omega)), if_neg (c := nI i = 0) (nI_ne0 hi0 (by omega)), if_pos (c := nI 0 ≤ 0) (by decide)]
  split
  · rfl
  · split <;> rfl
theorem pn_three {f : Nat} {x : Int32} : mX3_passNumber_L7 v (f + 1) 3 (nI p) x = (1, nI p, x) := by
  rw [mX3_passNumber_L7_s, if_neg (c := nI 3 ≤ 0) (by decide), if_pos (c := (3 : Int32) ≤ nI 3) (by decide)]
  split <;> rfl
theorem pn_next {f i a : Nat} (h1 : v 0 0 = nI L) (hL : L ≤ 80) (hp : p ≤ L) (hi0 : 0 < i) (hi : i < 3) (ha0 : 0 < a) (ha : a < 1000) (h : dg (v 1) L p) : mX3_passNumber_L7 v (f + 1) i (nI p) (nI a) = mX3_passNumber_L7 v f (i + 1) (nI (p + 1)) (nI (10 * a + dv (v 1) p)) := by
  rw [mX3_passNumber_L7_s, if_neg (kF (isDig0 (w := rset v 0 (upd (upd (v 0) 5 (nI p)) 6 (nI a))) (T := v 1) h1 hL rfl hp rfl) h)]
  rw [if_neg (c := (3 : Int32) ≤ nI i) (nI_ge (b := 3) hi (by omega)), if_neg (c := nI i = 0) (nI_ne0 hi0 (by omega)), if_neg (c := nI a ≤ 0) (nI_nle ha0 (by omega)), nI_clamp (by omega), (dv_le h).2, nI_1]
  congr 1
  rw [show (10 : Int32) = nI 10 from rfl, pk_mul, nI_add]
  congr 1
  omega
theorem number_c (h1 : v 0 0 = nI L) (hL : L ≤ 80) (h5 : v 0 5 = nI p) (hp : p ≤ L) : mX3_passNumber v = (if (sN (v 1) L p).1 = true then 1 else 0, nI (sN (v 1) L p).2.2, nI (sN (v 1) L p).2.1) := by
  unfold mX3_passNumber
  rw [h5]
  unfold sN
  by_cases c1 : dg (v 1) L p
  · rw [if_pos c1, pn_first h1 hL hp c1]
    have d1 := (dv_le c1).1
    by_cases c2 : dv (v 1) p = 0
    · rw [if_pos c2, c2, pn_zero (by omega) (by omega)]; rfl
    · rw [if_neg c2]
      by_cases c3 : dg (v 1) L (p + 1)
      · rw [if_pos c3, pn_next (p := p + 1) h1 hL c1.1 (by omega) (by omega) (by omega) (by omega) c3]
        have d2 := (dv_le (T := v 1) (L := L) (p := p + 1) c3).1
        by_cases c4 : dg (v 1) L (p + 2)
        · rw [if_pos c4, pn_next (p := p + 2) h1 hL c3.1 (by omega) (by omega) (by omega) (by omega) c4, pn_three]; rfl
        · rw [if_neg c4, pn_stop (p := p + 2) h1 hL c3.1 (by omega) c4]; rfl
      · rw [if_neg c3, pn_stop (p := p + 1) h1 hL c1.1 (by omega) c3]; rfl
  · rw [if_neg c1]
    exact pn_stop h1 hL hp (by omega) c1
/-- the reference -/
theorem letter_r (h1 : w 0 1 = nI L) (hL : L ≤ 80) (h6 : w 0 6 = nI p) (hp : p ≤ L) (hT : ∀ k, k < L → w 5 k = T k) : mX6_letter w = if p < L then T p else -6 := by
  unfold mX6_letter
  rw [h1, h6, nI_clamp (by omega)]
  rcases Nat.lt_or_ge p L with q | q
  · rw [if_neg (nI_ge q (by omega)), if_pos q, hT p q]
  · rw [if_pos (nI_le q (by omega)), if_neg (by omega)]
theorem ldig (h1 : w 0 1 = nI L) (hL : L ≤ 80) (h6 : w 0 6 = nI p) (hp : p ≤ L) (hT : ∀ k, k < L → w 5 k = T k) : (mX6_in (mX6_letter w - 48) 0 9 = 0) = ¬ dg T L p := by
  rw [letter_r h1 hL h6 hp hT]
  rcases Nat.lt_or_ge p L with q | q
  · rw [if_pos q, in_dig]
    exact propext ⟨fun h z => h z.2, fun h z => h ⟨q, z⟩⟩
  · rw [if_neg (by omega)]
    exact propext ⟨fun _ z => by have := z.1; omega, fun _ => by decide⟩
def stA (w : kG) (p : Nat) : kG := rset w 0 (upd (upd (w 0) 6 (nI p)) 7 (-6))
theorem rn_zero {g : Int32 × Int32} {f : Nat} {x q : Int32} (hg : g.2 = -6) : mX6_number_L27 w g (f + 1) (nI 0) x q = (nI 0, q, -6) := by
  rw [mX6_number_L27_s, hg, if_pos rfl, if_pos (c := nI 0 ≤ 0) (by decide)]
theorem rn_stop {g : Int32 × Int32} {f a : Nat} (h1 : w 0 1 = nI L) (hL : L ≤ 80) (hp : p ≤ L) (hT : ∀ k, k < L → w 5 k = T k) (hg : g.2 = -6) (h : ¬ dg T L p) : mX6_number_L27 w g (f + 1) (nI a) (mX6_letter (stA w p) - 48) (nI p) = (nI a, nI p, -6) := by
  rw [mX6_number_L27_s, hg, if_pos rfl, if_pos (c := mX6_in (mX6_letter (stA w p) - 48) 0 9 = 0) (kT (ldig (w := stA w p) h1 hL rfl hp hT) h)]
  split <;> rfl
theorem rn_big {g : Int32 × Int32} {f a : Nat} (h1 : w 0 1 = nI L) (hL : L ≤ 80) (hp : p ≤ L) (hT : ∀ k, k < L → w 5 k = T k) (hg : g.2 = -6) (ha : 100 ≤ a) (ha2 : a < 1000) : mX6_number_L27 w g (f + 1) (nI a) (mX6_letter (stA w p) - 48) (nI p) = (nI a, nI p, -6) := by
  by_cases h : dg T L p
  · rw [mX6_number_L27_s, hg, if_pos rfl, if_neg (c := nI a ≤ 0) (nI_nle (by omega) (by omega)), if_neg (c := mX6_in (mX6_letter (stA w p) - 48) 0 9 = 0) (kF (ldig (w := stA w p) h1 hL rfl hp hT) h)]
    have e : mX6_letter (stA w p) - 48 = nI (dv T p) := by
      rw [letter_r (w := stA w p) h1 hL rfl hp hT, if_pos h.1]; exact (dv_le h).2
    rw [e, show (10 : Int32) = nI 10 from rfl, pk_mul, nI_add, if_pos (c := (999 : Int32) < nI (10 * a + dv T p)) (nI_lt (a := 999) (by omega) (by have := (dv_le h).1; omega))]
  · exact rn_stop h1 hL hp hT hg h
theorem rn_next {g : Int32 × Int32} {f a : Nat} (h1 : w 0 1 = nI L) (hL : L ≤ 80) (hp : p ≤ L) (hT : ∀ k, k < L → w 5 k = T k) (hg : g.2 = -6) (ha0 : 0 < a) (ha : a < 100) (h : dg T L p) : mX6_number_L27 w g (f + 1) (nI a) (mX6_letter (stA w p) - 48) (nI p) = mX6_number_L27 w g f (nI (10 * a + dv T p)) (mX6_letter (stA w (p + 1)) - 48) (nI (p + 1)) := by
  rw [mX6_number_L27_s, hg, if_pos rfl, if_neg (c := nI a ≤ 0) (nI_nle (by omega) (by omega)), if_neg (c := mX6_in (mX6_letter (stA w p) - 48) 0 9 = 0) (kF (ldig (w := stA w p) h1 hL rfl hp hT) h)]
  have e : mX6_letter (stA w p) - 48 = nI (dv T p) := by
    rw [letter_r (w := stA w p) h1 hL rfl hp hT, if_pos h.1]; exact (dv_le h).2
  have := (dv_le h).1
  rw [e, show (10 : Int32) = nI 10 from rfl, pk_mul, nI_add, if_neg (c := (999 : Int32) < nI (10 * a + dv T p)) (nI_nlt (b := 10 * a + dv T p) (a := 999) (by omega) (by omega)), nI_1]
  rfl
theorem number_r (h1 : w 0 1 = nI L) (hL : L ≤ 80) (h6 : w 0 6 = nI p) (hp : p ≤ L) (h7 : w 0 7 = -6) (hT : ∀ k, k < L → w 5 k = T k) : ((sN T L p).1 = true → mX6_number w = (nI (sN T L p).2.1, nI (sN T L p).2.2, -6)) ∧ ((sN T L p).1 = false → (mX6_number w).2.2 = nI p) := by
  have eA : ∀ q, rset w 0 (upd (upd (w 0) 6 (nI q)) 7 (-6)) = stA w q := fun _ => rfl
  by_cases c1 : dg T L p
  · have hw : mX6_wants w (mX6_in (mX6_letter w - 48) 0 9) = (nI (p + 1), -6) := by
      unfold mX6_wants
      rw [h7, if_pos rfl, if_neg (kF (ldig h1 hL h6 hp hT) c1), h6, nI_1]
    have e0 : mX6_letter w - 48 = nI (dv T p) := by rw [letter_r h1 hL h6 hp hT, if_pos c1.1]; exact (dv_le c1).2
    have d1 := (dv_le c1).1
    have hn : mX6_number w = mX6_number_L27 w (nI (p + 1), -6) 83 (nI (dv T p)) (mX6_letter (stA w (p + 1)) - 48) (nI (p + 1)) := by
      unfold mX6_number
      rw [hw, e0]
      rfl
    refine ⟨fun _ => ?_, fun z => ?_⟩
    · rw [hn]
      unfold sN
      rw [if_pos c1]
      by_cases c2 : dv T p = 0
      · rw [if_pos c2, c2]; exact rn_zero rfl
      · rw [if_neg c2]
        by_cases c3 : dg T L (p + 1)
        · rw [if_pos c3, rn_next (p := p + 1) h1 hL c1.1 hT rfl (by omega) (by omega) c3]
          have d2 := (dv_le (T := T) (L := L) (p := p + 1) c3).1
          by_cases c4 : dg T L (p + 2)
          · have d3 := (dv_le (T := T) (L := L) (p := p + 2) c4).1
            rw [if_pos c4, rn_next (p := p + 2) h1 hL c3.1 hT rfl (by omega) (by omega) c4]
            exact rn_big (p := p + 3) h1 hL c4.1 hT rfl (by omega) (by omega)
          · rw [if_neg c4]; exact rn_stop (p := p + 2) h1 hL c3.1 hT rfl c4
        · rw [if_neg c3]; exact rn_stop (p := p + 1) h1 hL c1.1 hT rfl c3
    · unfold sN at z
      rw [if_pos c1] at z
      by_cases c2 : dv T p = 0
      · rw [if_pos c2] at z; cases z
      · rw [if_neg c2] at z
        by_cases c3 : dg T L (p + 1)
        · rw [if_pos c3] at z
          by_cases c4 : dg T L (p + 2)
          · rw [if_pos c4] at z; cases z
          · rw [if_neg c4] at z; cases z
        · rw [if_neg c3] at z; cases z
  · refine ⟨fun z => ?_, fun _ => ?_⟩
    · unfold sN at z
      rw [if_neg c1] at z; cases z
    · have hw : mX6_wants w (mX6_in (mX6_letter w - 48) 0 9) = (nI (p + 1), nI p) := by
        unfold mX6_wants
        rw [h7, if_pos rfl, if_pos (kT (ldig h1 hL h6 hp hT) c1), h6, nI_1]
      unfold mX6_number
      rw [hw]
      dsimp only
      rw [mX6_number_L27_s, if_neg (nI_ne6 (by omega))]
theorem number_bad {x : Int32} (h7 : w 0 7 = x) (hx : ¬ x = -6) : (mX6_number w).2.2 = x := by
  have hw : ∀ y, mX6_wants w y = (w 0 6, x) := fun y => by
    unfold mX6_wants
    rw [h7, if_neg hx]
  unfold mX6_number
  rw [hw]
  dsimp only
  rw [mX6_number_L27_s, if_neg hx]
theorem wants_bad {x y : Int32} (h7 : w 0 7 = x) (hx : ¬ x = -6) : (mX6_wants w y).2 = x := by
  unfold mX6_wants
  rw [h7, if_neg hx]
theorem wants_1 (h6 : w 0 6 = nI p) (h7 : w 0 7 = -6) : mX6_wants w 1 = (nI (p + 1), -6) := by
  unfold mX6_wants
  rw [h7, if_pos rfl, if_neg (c := (1 : Int32) = 0) (by decide), h6, nI_1]
theorem wants_0 (h6 : w 0 6 = nI p) (h7 : w 0 7 = -6) : mX6_wants w 0 = (nI (p + 1), nI p) := by
  unfold mX6_wants
  rw [h7, if_pos rfl, if_pos rfl, h6, nI_1]
end A
