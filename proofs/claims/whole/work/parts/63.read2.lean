/-! the reference reads an order: what it answers -/
def BD (F : Nat → Int32) (j : Nat) (x : Int32) (R : Int32 × Int32 × Int32 × (Nat → Int32)) : Prop := R.1 = nI (j + 1) ∧ R.2.2.1 = x ∧ ∀ k, k < 4 * j + 1 → R.2.2.2 k = F k
section A
variable {T : Nat → Int32} {L p j : Nat} {w : kG} {F : Nat → Int32} {q x : Int32}
theorem ix0 (h5 : w 0 5 = nI j) (hj : j ≤ 40) : ((4 * (w 0 5))).toNatClampNeg = 4 * j := by
  rw [h5, show (4 : Int32) = nI 4 from rfl, pk_mul, nI_clamp (by omega)]
theorem ix1 (h5 : w 0 5 = nI j) (hj : j ≤ 40) : (((4 * (w 0 5)) + 1)).toNatClampNeg = 4 * j + 1 := by
  rw [h5, show (4 : Int32) = nI 4 from rfl, pk_mul, nI_1, nI_clamp (by omega)]
theorem ix2 (h5 : w 0 5 = nI j) (hj : j ≤ 40) : (((4 * (w 0 5)) + 2)).toNatClampNeg = 4 * j + 2 := by
  rw [h5, show (4 : Int32) = nI 4 from rfl, show (2 : Int32) = nI 2 from rfl, pk_mul, nI_add, nI_clamp (by omega)]
theorem ix3 (h5 : w 0 5 = nI j) (hj : j ≤ 40) : (((4 * (w 0 5)) + 3)).toNatClampNeg = 4 * j + 3 := by
  rw [h5, show (4 : Int32) = nI 4 from rfl, show (3 : Int32) = nI 3 from rfl, pk_mul, nI_add, nI_clamp (by omega)]
theorem BD.up {k : Nat} {y : Int32} {R : Int32 × Int32 × Int32 × (Nat → Int32)} (h : BD (upd F k y) j x R) (hk : 4 * j + 1 ≤ k) : BD F j x R := ⟨h.1, h.2.1, fun i hi => by rw [h.2.2 i hi, pk_un (by omega)]⟩

theorem rdT_bad (h5 : w 0 5 = nI j) (hj : j ≤ 40) (hx : ¬ x = -6) : BD F j x (rdT w F q x) := by
  have hn : (mX6_number (rS w F q x)).2.2 = x := number_bad (w := rS w F q x) rfl hx
  unfold rdT
  dsimp only
  rw [ix3 h5 hj, h5, nI_1]
  exact ⟨rfl, hn, fun k hk => pk_un (by omega)⟩

theorem rdE_bad (h5 : w 0 5 = nI j) (hj : j ≤ 40) (hx : ¬ x = -6) : BD F j x (rdE w F q x) := by
  have hw : ∀ y, (mX6_wants (rS w F q x) y).2 = x := fun y => wants_bad (w := rS w F q x) rfl hx
  unfold rdE
  split
  · dsimp only; rw [hw]; exact rdT_bad h5 hj hx
  · dsimp only; rw [hw]; exact rdT_bad h5 hj hx

theorem rdSw_bad (h5 : w 0 5 = nI j) (hj : j ≤ 40) (hx : ¬ x = -6) : BD F j x (rdSw w F q x) := by
  have hn : (mX6_number (rS w F q x)).2.2 = x := number_bad (w := rS w F q x) rfl hx
  unfold rdSw
  dsimp only
  rw [ix2 h5 hj, hn]
  exact (rdE_bad h5 hj hx).up (by omega)

theorem rdSr_bad (h5 : w 0 5 = nI j) (hj : j ≤ 40) (hx : ¬ x = -6) : BD F j x (rdSr w F q x) := by
  have hn : (mX6_number (rS w F q x)).2.2 = x := number_bad (w := rS w F q x) rfl hx
  unfold rdSr
  dsimp only
  rw [ix2 h5 hj, h5, nI_1]
  exact ⟨rfl, hn, fun k hk => pk_un (by omega)⟩

theorem rdDw_bad (h5 : w 0 5 = nI j) (hj : j ≤ 40) (hx : ¬ x = -6) : BD F j x (rdDw w F q x) := by
  have hw : ∀ y, (mX6_wants (rS w F q x) y).2 = x := fun y => wants_bad (w := rS w F q x) rfl hx
  unfold rdDw
  split
  · dsimp only; rw [hw]; exact rdSw_bad h5 hj hx
  · dsimp only; rw [hw]; exact rdSw_bad h5 hj hx

theorem rdDr_bad (h5 : w 0 5 = nI j) (hj : j ≤ 40) (hx : ¬ x = -6) : BD F j x (rdDr w F q x) := by
  have hw : ∀ y, (mX6_wants (rS w F q x) y).2 = x := fun y => wants_bad (w := rS w F q x) rfl hx
  unfold rdDr
  split
  · dsimp only; rw [hw]; exact rdSr_bad h5 hj hx
  · dsimp only; rw [hw]; exact rdSr_bad h5 hj hx

theorem rdNw_bad (h5 : w 0 5 = nI j) (hj : j ≤ 40) (hx : ¬ x = -6) : BD F j x (rdNw w F q x) := by
  have hn : (mX6_number (rS w F q x)).2.2 = x := number_bad (w := rS w F q x) rfl hx
  unfold rdNw
  dsimp only
  rw [ix1 h5 hj, hn]
  exact (rdDw_bad h5 hj hx).up (by omega)

theorem rdNr_bad (h5 : w 0 5 = nI j) (hj : j ≤ 40) (hx : ¬ x = -6) : BD F j x (rdNr w F q x) := by
  have hn : (mX6_number (rS w F q x)).2.2 = x := number_bad (w := rS w F q x) rfl hx
  unfold rdNr
  dsimp only
  rw [ix1 h5 hj, hn]
  exact (rdDr_bad h5 hj hx).up (by omega)

theorem rdN1_bad (h5 : w 0 5 = nI j) (hj : j ≤ 40) (hx : ¬ x = -6) : BD F j x (rdN1 w F q x) := by
  have hn : (mX6_number (rS w F q x)).2.2 = x := number_bad (w := rS w F q x) rfl hx
  unfold rdN1
  dsimp only
  rw [ix1 h5 hj, h5, nI_1]
  exact ⟨rfl, hn, fun k hk => pk_un (by omega)⟩

theorem rdT_ok (h1 : w 0 1 = nI L) (hL : L ≤ 80) (h5 : w 0 5 = nI j) (hj : j ≤ 40) (hp : p ≤ L) (hT : ∀ k, k < L → w 5 k = T k) (n1 : (sN T L p).1 = true) : rdT w F (nI p) (-6) = (nI (j + 1), nI (sN T L p).2.2, -6, upd F (4 * j + 3) (nI (sN T L p).2.1)) := by
  have hn := (number_r (w := rS w F (nI p) (-6)) (p := p) h1 hL rfl hp rfl hT).1 n1
  unfold rdT
  rw [hn]
  dsimp only
  rw [ix3 h5 hj, h5, nI_1]
theorem rdT_no (h1 : w 0 1 = nI L) (hL : L ≤ 80) (h5 : w 0 5 = nI j) (hj : j ≤ 40) (hp : p ≤ L) (hT : ∀ k, k < L → w 5 k = T k) (n1 : ¬ (sN T L p).1 = true) : BD F j (nI p) (rdT w F (nI p) (-6)) := by
  have hn := (number_r (w := rS w F (nI p) (-6)) (p := p) h1 hL rfl hp rfl hT).2 (by simpa using n1)
  unfold rdT
  dsimp only
  rw [ix3 h5 hj]
  rw [h5, nI_1]
  exact ⟨rfl, hn, fun k hk => pk_un (by omega)⟩

theorem rdE_ok (h1 : w 0 1 = nI L) (hL : L ≤ 80) (h5 : w 0 5 = nI j) (hj : j ≤ 40) (hp : p ≤ L) (hT : ∀ k, k < L → w 5 k = T k) (s1 : sg T L p 61) : rdE w F (nI p) (-6) = rdT w F (nI (p + 1)) (-6) := by
  unfold rdE
  rw [if_pos (c := mX6_letter (rS w F (nI p) (-6)) = 61) (by rw [letter_r (w := rS w F (nI p) (-6)) (p := p) h1 hL rfl hp hT, if_pos s1.1]; exact s1.2)]
  rw [wants_1 (w := rS w F (nI p) (-6)) (p := p) rfl rfl]
theorem rdE_no (h1 : w 0 1 = nI L) (hL : L ≤ 80) (h5 : w 0 5 = nI j) (hj : j ≤ 40) (hp : p ≤ L) (hT : ∀ k, k < L → w 5 k = T k) (s1 : ¬ sg T L p 61) : BD F j (nI p) (rdE w F (nI p) (-6)) := by
  unfold rdE
  rw [if_neg (c := mX6_letter (rS w F (nI p) (-6)) = 61) (by
    rw [letter_r (w := rS w F (nI p) (-6)) (p := p) h1 hL rfl hp hT]
    by_cases z : p < L
    · rw [if_pos z]; exact fun y => s1 ⟨z, y⟩
    · rw [if_neg z]; decide)]
  rw [wants_0 (w := rS w F (nI p) (-6)) (p := p) rfl rfl]
  exact rdT_bad h5 hj (nI_ne6 (by omega))

theorem rdSw_ok (h1 : w 0 1 = nI L) (hL : L ≤ 80) (h5 : w 0 5 = nI j) (hj : j ≤ 40) (hp : p ≤ L) (hT : ∀ k, k < L → w 5 k = T k) (n1 : (sN T L p).1 = true) : rdSw w F (nI p) (-6) = rdE w (upd F (4 * j + 2) (nI (sN T L p).2.1)) (nI (sN T L p).2.2) (-6) := by
  have hn := (number_r (w := rS w F (nI p) (-6)) (p := p) h1 hL rfl hp rfl hT).1 n1
  unfold rdSw
  rw [hn]
  dsimp only
  rw [ix2 h5 hj]
theorem rdSw_no (h1 : w 0 1 = nI L) (hL : L ≤ 80) (h5 : w 0 5 = nI j) (hj : j ≤ 40) (hp : p ≤ L) (hT : ∀ k, k < L → w 5 k = T k) (n1 : ¬ (sN T L p).1 = true) : BD F j (nI p) (rdSw w F (nI p) (-6)) := by
  have hn := (number_r (w := rS w F (nI p) (-6)) (p := p) h1 hL rfl hp rfl hT).2 (by simpa using n1)
  unfold rdSw
  dsimp only
  rw [ix2 h5 hj]
  rw [hn]
  exact (rdE_bad h5 hj (nI_ne6 (by omega))).up (by omega)

theorem rdSr_ok (h1 : w 0 1 = nI L) (hL : L ≤ 80) (h5 : w 0 5 = nI j) (hj : j ≤ 40) (hp : p ≤ L) (hT : ∀ k, k < L → w 5 k = T k) (n1 : (sN T L p).1 = true) : rdSr w F (nI p) (-6) = (nI (j + 1), nI (sN T L p).2.2, -6, upd F (4 * j + 2) (nI (sN T L p).2.1)) := by
  have hn := (number_r (w := rS w F (nI p) (-6)) (p := p) h1 hL rfl hp rfl hT).1 n1
  unfold rdSr
  rw [hn]
  dsimp only
  rw [ix2 h5 hj, h5, nI_1]
theorem rdSr_no (h1 : w 0 1 = nI L) (hL : L ≤ 80) (h5 : w 0 5 = nI j) (hj : j ≤ 40) (hp : p ≤ L) (hT : ∀ k, k < L → w 5 k = T k) (n1 : ¬ (sN T L p).1 = true) : BD F j (nI p) (rdSr w F (nI p) (-6)) := by
  have hn := (number_r (w := rS w F (nI p) (-6)) (p := p) h1 hL rfl hp rfl hT).2 (by simpa using n1)
  unfold rdSr
  dsimp only
  rw [ix2 h5 hj]
  rw [h5, nI_1]
  exact ⟨rfl, hn, fun k hk => pk_un (by omega)⟩

theorem rdDw_ok (h1 : w 0 1 = nI L) (hL : L ≤ 80) (h5 : w 0 5 = nI j) (hj : j ≤ 40) (hp : p ≤ L) (hT : ∀ k, k < L → w 5 k = T k) (s1 : sg T L p 46) : rdDw w F (nI p) (-6) = rdSw w F (nI (p + 1)) (-6) := by
  unfold rdDw
  rw [if_pos (c := mX6_letter (rS w F (nI p) (-6)) = 46) (by rw [letter_r (w := rS w F (nI p) (-6)) (p := p) h1 hL rfl hp hT, if_pos s1.1]; exact s1.2)]
  rw [wants_1 (w := rS w F (nI p) (-6)) (p := p) rfl rfl]
theorem rdDw_no (h1 : w 0 1 = nI L) (hL : L ≤ 80) (h5 : w 0 5 = nI j) (hj : j ≤ 40) (hp : p ≤ L) (hT : ∀ k, k < L → w 5 k = T k) (s1 : ¬ sg T L p 46) : BD F j (nI p) (rdDw w F (nI p) (-6)) := by
  unfold rdDw
  rw [if_neg (c := mX6_letter (rS w F (nI p) (-6)) = 46) (by
    rw [letter_r (w := rS w F (nI p) (-6)) (p := p) h1 hL rfl hp hT]
    by_cases z : p < L
    · rw [if_pos z]; exact fun y => s1 ⟨z, y⟩
    · rw [if_neg z]; decide)]
  rw [wants_0 (w := rS w F (nI p) (-6)) (p := p) rfl rfl]
  exact rdSw_bad h5 hj (nI_ne6 (by omega))

theorem rdDr_ok (h1 : w 0 1 = nI L) (hL : L ≤ 80) (h5 : w 0 5 = nI j) (hj : j ≤ 40) (hp : p ≤ L) (hT : ∀ k, k < L → w 5 k = T k) (s1 : sg T L p 46) : rdDr w F (nI p) (-6) = rdSr w F (nI (p + 1)) (-6) := by
  unfold rdDr
  rw [if_pos (c := mX6_letter (rS w F (nI p) (-6)) = 46) (by rw [letter_r (w := rS w F (nI p) (-6)) (p := p) h1 hL rfl hp hT, if_pos s1.1]; exact s1.2)]
  rw [wants_1 (w := rS w F (nI p) (-6)) (p := p) rfl rfl]
theorem rdDr_no (h1 : w 0 1 = nI L) (hL : L ≤ 80) (h5 : w 0 5 = nI j) (hj : j ≤ 40) (hp : p ≤ L) (hT : ∀ k, k < L → w 5 k = T k) (s1 : ¬ sg T L p 46) : BD F j (nI p) (rdDr w F (nI p) (-6)) := by
  unfold rdDr
  rw [if_neg (c := mX6_letter (rS w F (nI p) (-6)) = 46) (by
    rw [letter_r (w := rS w F (nI p) (-6)) (p := p) h1 hL rfl hp hT]
    by_cases z : p < L
    · rw [if_pos z]; exact fun y => s1 ⟨z, y⟩
    · rw [if_neg z]; decide)]
  rw [wants_0 (w := rS w F (nI p) (-6)) (p := p) rfl rfl]
  exact rdSr_bad h5 hj (nI_ne6 (by omega))

theorem rdNw_ok (h1 : w 0 1 = nI L) (hL : L ≤ 80) (h5 : w 0 5 = nI j) (hj : j ≤ 40) (hp : p ≤ L) (hT : ∀ k, k < L → w 5 k = T k) (n1 : (sN T L p).1 = true) : rdNw w F (nI p) (-6) = rdDw w (upd F (4 * j + 1) (nI (sN T L p).2.1)) (nI (sN T L p).2.2) (-6) := by
  have hn := (number_r (w := rS w F (nI p) (-6)) (p := p) h1 hL rfl hp rfl hT).1 n1
  unfold rdNw
  rw [hn]
  dsimp only
  rw [ix1 h5 hj]
theorem rdNw_no (h1 : w 0 1 = nI L) (hL : L ≤ 80) (h5 : w 0 5 = nI j) (hj : j ≤ 40) (hp : p ≤ L) (hT : ∀ k, k < L → w 5 k = T k) (n1 : ¬ (sN T L p).1 = true) : BD F j (nI p) (rdNw w F (nI p) (-6)) := by
  have hn := (number_r (w := rS w F (nI p) (-6)) (p := p) h1 hL rfl hp rfl hT).2 (by simpa using n1)
  unfold rdNw
  dsimp only
  rw [ix1 h5 hj]
  rw [hn]
  exact (rdDw_bad h5 hj (nI_ne6 (by omega))).up (by omega)

theorem rdNr_ok (h1 : w 0 1 = nI L) (hL : L ≤ 80) (h5 : w 0 5 = nI j) (hj : j ≤ 40) (hp : p ≤ L) (hT : ∀ k, k < L → w 5 k = T k) (n1 : (sN T L p).1 = true) : rdNr w F (nI p) (-6) = rdDr w (upd F (4 * j + 1) (nI (sN T L p).2.1)) (nI (sN T L p).2.2) (-6) := by
  have hn := (number_r (w := rS w F (nI p) (-6)) (p := p) h1 hL rfl hp rfl hT).1 n1
  unfold rdNr
  rw [hn]
  dsimp only
  rw [ix1 h5 hj]
theorem rdNr_no (h1 : w 0 1 = nI L) (hL : L ≤ 80) (h5 : w 0 5 = nI j) (hj : j ≤ 40) (hp : p ≤ L) (hT : ∀ k, k < L → w 5 k = T k) (n1 : ¬ (sN T L p).1 = true) : BD F j (nI p) (rdNr w F (nI p) (-6)) := by
  have hn := (number_r (w := rS w F (nI p) (-6)) (p := p) h1 hL rfl hp rfl hT).2 (by simpa using n1)
  unfold rdNr
  dsimp only
  rw [ix1 h5 hj]
  rw [hn]
  exact (rdDr_bad h5 hj (nI_ne6 (by omega))).up (by omega)

theorem rdN1_ok (h1 : w 0 1 = nI L) (hL : L ≤ 80) (h5 : w 0 5 = nI j) (hj : j ≤ 40) (hp : p ≤ L) (hT : ∀ k, k < L → w 5 k = T k) (n1 : (sN T L p).1 = true) : rdN1 w F (nI p) (-6) = (nI (j + 1), nI (sN T L p).2.2, -6, upd F (4 * j + 1) (nI (sN T L p).2.1)) := by
  have hn := (number_r (w := rS w F (nI p) (-6)) (p := p) h1 hL rfl hp rfl hT).1 n1
  unfold rdN1
  rw [hn]
  dsimp only
  rw [ix1 h5 hj, h5, nI_1]
theorem rdN1_no (h1 : w 0 1 = nI L) (hL : L ≤ 80) (h5 : w 0 5 = nI j) (hj : j ≤ 40) (hp : p ≤ L) (hT : ∀ k, k < L → w 5 k = T k) (n1 : ¬ (sN T L p).1 = true) : BD F j (nI p) (rdN1 w F (nI p) (-6)) := by
  have hn := (number_r (w := rS w F (nI p) (-6)) (p := p) h1 hL rfl hp rfl hT).2 (by simpa using n1)
  unfold rdN1
  dsimp only
  rw [ix1 h5 hj]
  rw [h5, nI_1]
  exact ⟨rfl, hn, fun k hk => pk_un (by omega)⟩

/-- all that an order read leaves -/
def okR (w : kG) (T : Nat → Int32) (L p j : Nat) (R : Int32 × Int32 × Int32 × (Nat → Int32)) : Prop := R.1 = nI (j + 1) ∧ (∀ k, k < 4 * j → R.2.2.2 k = w 8 k) ∧ ((sO T L p).1 = true → R.2.1 = nI (sO T L p).2.2.2.2 ∧ R.2.2.1 = -6 ∧ R.2.2.2 (4 * j) = T p ∧ (¬ T p = 98 → R.2.2.2 (4 * j + 1) = nI (sO T L p).2.1) ∧ ((T p = 114 ∨ T p = 119) → R.2.2.2 (4 * j + 2) = nI (sO T L p).2.2.1) ∧ (T p = 119 → R.2.2.2 (4 * j + 3) = nI (sO T L p).2.2.2.1)) ∧ (¬ (sO T L p).1 = true → R.2.2.1 = nI (sO T L p).2.2.2.2)
theorem okR.bad {e : Nat} (hF : ∀ k, k < 4 * j → F k = w 8 k) {R : Int32 × Int32 × Int32 × (Nat → Int32)} (hO : ¬ (sO T L p).1 = true) (he : (sO T L p).2.2.2.2 = e) (h : BD F j (nI e) R) : okR w T L p j R :=
  ⟨h.1, fun k hk => (h.2.2 k (by omega)).trans (hF k hk), fun z => absurd z hO, fun _ => by rw [he]; exact h.2.1⟩
theorem readO_r (h1 : w 0 1 = nI L) (hL : L ≤ 80) (h5 : w 0 5 = nI j) (hj : j ≤ 40) (h6 : w 0 6 = nI p) (h7 : w 0 7 = -6) (hp : p ≤ L) (hT : ∀ k, k < L → w 5 k = T k) : okR w T L p j (mX6_readOrder w) := by
  rw [readOrder_d, letter_r h1 hL h6 hp hT]
  have hF : ∀ k, k < 4 * j → rF0 w k = w 8 k := fun k hk => by unfold rF0; rw [ix0 h5 hj, pk_un (by omega)]
  rw [wants_1 h6 h7, wants_0 h6 h7]
  dsimp only
  by_cases q : p < L
  · rw [if_pos q]
    have hF0 : rF0 w (4 * j) = T p := by unfold rF0; rw [ix0 h5 hj, pk_us, letter_r h1 hL h6 hp hT, if_pos q]
    by_cases c4 : T p = 119
    · rw [if_pos c4]
      have eO : sO T L p = sW T L p := by unfold sO; rw [if_pos q, if_neg (by rw [c4]; decide), if_neg (by rw [c4]; decide), if_neg (by rw [c4]; decide), if_pos c4]
      by_cases n1 : (sN T L (p + 1)).1 = true
      · rw [rdNw_ok h1 hL h5 hj q hT n1]
        have l1 := num_le (T := T) (show p + 1 ≤ L from q)
        by_cases s1 : sg T L (sN T L (p + 1)).2.2 46
        · rw [rdDw_ok h1 hL h5 hj l1 hT s1]
          have eR : sR T L p = ((sN T L ((sN T L (p + 1)).2.2 + 1)).1, (sN T L (p + 1)).2.1, (sN T L ((sN T L (p + 1)).2.2 + 1)).2.1, 0, (sN T L ((sN T L (p + 1)).2.2 + 1)).2.2) := by
            unfold sR; rw [if_pos n1, if_pos s1]
          by_cases n2 : (sN T L ((sN T L (p + 1)).2.2 + 1)).1 = true
          · rw [rdSw_ok h1 hL h5 hj s1.1 hT n2]
            have l2 := num_le (T := T) (show (sN T L (p + 1)).2.2 + 1 ≤ L from s1.1)
            by_cases s2 : sg T L (sN T L ((sN T L (p + 1)).2.2 + 1)).2.2 61
            · rw [rdE_ok h1 hL h5 hj l2 hT s2]
              have eW : sW T L p = ((sN T L ((sN T L ((sN T L (p + 1)).2.2 + 1)).2.2 + 1)).1, (sN T L (p + 1)).2.1, (sN T L ((sN T L (p + 1)).2.2 + 1)).2.1, (sN T L ((sN T L ((sN T L (p + 1)).2.2 + 1)).2.2 + 1)).2.1, (sN T L ((sN T L ((sN T L (p + 1)).2.2 + 1)).2.2 + 1)).2.2) := by
                unfold sW; rw [eR]; dsimp only; rw [if_pos n2, if_pos s2]
              by_cases n3 : (sN T L ((sN T L ((sN T L (p + 1)).2.2 + 1)).2.2 + 1)).1 = true
              · rw [rdT_ok h1 hL h5 hj s2.1 hT n3]
                unfold okR
                rw [eO, eW]
                refine ⟨rfl, fun k hk => ?_, fun _ => ⟨rfl, rfl, ?_, fun _ => ?_, fun _ => ?_, fun _ => pk_us⟩, fun z => absurd n3 z⟩
                · show upd _ _ _ k = _
                  rw [pk_un (by omega), pk_un (by omega), pk_un (by omega)]; exact hF k hk
                · show upd _ _ _ _ = _
                  rw [pk_un (by omega), pk_un (by omega), pk_un (by omega)]; exact hF0
                · show upd _ _ _ _ = _
                  rw [pk_un (by omega), pk_un (by omega), pk_us]
                · show upd _ _ _ _ = _
                  rw [pk_un (by omega), pk_us]
              · refine okR.bad (F := rF0 w) hF (by rw [eO, eW]; exact n3) (by rw [eO, eW]) (((rdT_no (F := upd (upd (rF0 w) (4 * j + 1) (nI (sN T L (p + 1)).2.1)) (4 * j + 2) (nI (sN T L ((sN T L (p + 1)).2.2 + 1)).2.1)) h1 hL h5 hj s2.1 hT n3).up (by omega)).up (by omega) |> fun z => ?_)
                rw [sN_no (by simpa using n3)]; exact z
            · have eW : sW T L p = (false, 0, 0, 0, (sN T L ((sN T L (p + 1)).2.2 + 1)).2.2) := by
                unfold sW; rw [eR]; dsimp only; rw [if_pos n2, if_neg s2]
              exact okR.bad (F := rF0 w) hF (by rw [eO, eW]; exact Bool.false_ne_true) (by rw [eO, eW]) (((rdE_no (F := upd (upd (rF0 w) (4 * j + 1) (nI (sN T L (p + 1)).2.1)) (4 * j + 2) (nI (sN T L ((sN T L (p + 1)).2.2 + 1)).2.1)) h1 hL h5 hj l2 hT s2).up (by omega)).up (by omega))
          · have eW : sW T L p = (false, 0, 0, 0, (sN T L ((sN T L (p + 1)).2.2 + 1)).2.2) := by
              unfold sW; rw [eR]; dsimp only; rw [if_neg n2]
            refine okR.bad (F := rF0 w) hF (by rw [eO, eW]; exact Bool.false_ne_true) (by rw [eO, eW]) (?_)
            have z := (rdSw_no (F := upd (rF0 w) (4 * j + 1) (nI (sN T L (p + 1)).2.1)) h1 hL h5 hj s1.1 hT n2).up (by omega)
            rw [sN_no (by simpa using n2)]; exact z
        · have eR : sR T L p = (false, 0, 0, 0, (sN T L (p + 1)).2.2) := by
            unfold sR; rw [if_pos n1, if_neg s1]
          have eW : sW T L p = (false, 0, 0, 0, (sN T L (p + 1)).2.2) := by
            unfold sW; rw [eR]; rfl
          exact okR.bad (F := rF0 w) hF (by rw [eO, eW]; exact Bool.false_ne_true) (by rw [eO, eW]) ((rdDw_no (F := upd (rF0 w) (4 * j + 1) (nI (sN T L (p + 1)).2.1)) h1 hL h5 hj l1 hT s1).up (by omega))
      · have eR : sR T L p = (false, 0, 0, 0, (sN T L (p + 1)).2.2) := by
          unfold sR; rw [if_neg n1]
        have eW : sW T L p = (false, 0, 0, 0, (sN T L (p + 1)).2.2) := by
          unfold sW; rw [eR]; rfl
        refine okR.bad (F := rF0 w) hF (by rw [eO, eW]; exact Bool.false_ne_true) (by rw [eO, eW]) ?_
        rw [sN_no (by simpa using n1)]; exact rdNw_no h1 hL h5 hj q hT n1
    · rw [if_neg c4]
      by_cases c3 : T p = 114
      · rw [if_pos c3]
        have eO : sO T L p = sR T L p := by unfold sO; rw [if_pos q, if_neg (by rw [c3]; decide), if_neg (by rw [c3]; decide), if_pos c3]
        by_cases n1 : (sN T L (p + 1)).1 = true
        · rw [rdNr_ok h1 hL h5 hj q hT n1]
          have l1 := num_le (T := T) (show p + 1 ≤ L from q)
          by_cases s1 : sg T L (sN T L (p + 1)).2.2 46
          · rw [rdDr_ok h1 hL h5 hj l1 hT s1]
            have eR : sR T L p = ((sN T L ((sN T L (p + 1)).2.2 + 1)).1, (sN T L (p + 1)).2.1, (sN T L ((sN T L (p + 1)).2.2 + 1)).2.1, 0, (sN T L ((sN T L (p + 1)).2.2 + 1)).2.2) := by
              unfold sR; rw [if_pos n1, if_pos s1]
            by_cases n2 : (sN T L ((sN T L (p + 1)).2.2 + 1)).1 = true
            · rw [rdSr_ok h1 hL h5 hj s1.1 hT n2]
              unfold okR
              rw [eO, eR]
              refine ⟨rfl, fun k hk => ?_, fun _ => ⟨rfl, rfl, ?_, fun _ => ?_, fun _ => pk_us, fun z => absurd z c4⟩, fun z => absurd n2 z⟩
              · show upd _ _ _ k = _
                rw [pk_un (by omega), pk_un (by omega)]; exact hF k hk
              · show upd _ _ _ _ = _
                rw [pk_un (by omega), pk_un (by omega)]; exact hF0
              · show upd _ _ _ _ = _
                rw [pk_un (by omega), pk_us]
            · refine okR.bad (F := rF0 w) hF (by rw [eO, eR]; exact n2) (by rw [eO, eR]) (?_)
              have z := (rdSr_no (F := upd (rF0 w) (4 * j + 1) (nI (sN T L (p + 1)).2.1)) h1 hL h5 hj s1.1 hT n2).up (by omega)
              rw [sN_no (by simpa using n2)]; exact z
          · have eR : sR T L p = (false, 0, 0, 0, (sN T L (p + 1)).2.2) := by
              unfold sR; rw [if_pos n1, if_neg s1]
            exact okR.bad (F := rF0 w) hF (by rw [eO, eR]; exact Bool.false_ne_true) (by rw [eO, eR]) ((rdDr_no (F := upd (rF0 w) (4 * j + 1) (nI (sN T L (p + 1)).2.1)) h1 hL h5 hj l1 hT s1).up (by omega))
        · have eR : sR T L p = (false, 0, 0, 0, (sN T L (p + 1)).2.2) := by
            unfold sR; rw [if_neg n1]
          refine okR.bad (F := rF0 w) hF (by rw [eO, eR]; exact Bool.false_ne_true) (by rw [eO, eR]) ?_
          rw [sN_no (by simpa using n1)]; exact rdNr_no h1 hL h5 hj q hT n1
      · rw [if_neg c3]
        have one : sO T L p = sC T L p → okR w T L p j (rdN1 w (rF0 w) (nI (p + 1)) (-6)) := by
          intro eO
          by_cases n1 : (sN T L (p + 1)).1 = true
          · rw [rdN1_ok h1 hL h5 hj q hT n1]
            unfold okR
            rw [eO]
            refine ⟨rfl, fun k hk => ?_, fun _ => ⟨rfl, rfl, ?_, fun _ => pk_us, fun z => z.elim (fun z => absurd z c3) (fun z => absurd z c4), fun z => absurd z c4⟩, fun z => absurd n1 z⟩
            · show upd _ _ _ k = _
              rw [pk_un (by omega)]; exact hF k hk
            · show upd _ _ _ _ = _
              rw [pk_un (by omega)]; exact hF0
          · refine okR.bad (e := (sN T L (p + 1)).2.2) (F := rF0 w) hF (by rw [eO]; exact n1) (by rw [eO]; rfl) ?_
            rw [sN_no (by simpa using n1)]; exact rdN1_no h1 hL h5 hj q hT n1
        by_cases c2 : T p = 99
        · rw [if_pos c2]
          exact one (by unfold sO; rw [if_pos q, if_neg (by rw [c2]; decide), if_pos c2])
        · rw [if_neg c2]
          by_cases c5 : T p = 120
          · rw [if_pos c5]
            exact one (by unfold sO; rw [if_pos q, if_neg (by rw [c5]; decide), if_neg c2, if_neg c3, if_neg c4, if_pos c5])
          · rw [if_neg c5]
            by_cases c1 : T p = 98
            · rw [if_pos c1]
              have eO : sO T L p = (true, 0, 0, 0, p + 1) := by unfold sO; rw [if_pos q, if_pos c1]
              unfold okR
              rw [eO, h5, nI_1]
              refine ⟨rfl, fun k hk => ?_, fun _ => ⟨rfl, rfl, ?_, fun z => absurd c1 z, fun z => z.elim (fun z => absurd z c3) (fun z => absurd z c4), fun z => absurd z c4⟩, fun z => absurd rfl z⟩
              · show upd _ _ _ k = _
                rw [← h5, ix1 h5 hj, pk_un (by omega)]; exact hF k hk
              · show upd _ _ _ _ = _
                rw [← h5, ix1 h5 hj, pk_un (by omega)]; exact hF0
            · rw [if_neg c1]
              have eO : sO T L p = (false, 0, 0, 0, p) := by unfold sO; rw [if_pos q, if_neg c1, if_neg c2, if_neg c3, if_neg c4, if_neg c5]
              refine okR.bad (e := p) (F := rF0 w) hF (by rw [eO]; exact Bool.false_ne_true) (by rw [eO]) ⟨by show w 0 5 + 1 = _; rw [h5, nI_1], rfl, fun k hk => ?_⟩
              show upd _ _ _ k = _
              rw [ix1 h5 hj, pk_un (by omega)]
  · rw [if_neg q, if_neg (by decide), if_neg (by decide), if_neg (by decide), if_neg (by decide), if_neg (by decide)]
    have eO : sO T L p = (false, 0, 0, 0, p) := by unfold sO; rw [if_neg q]
    refine okR.bad (e := p) (F := rF0 w) hF (by rw [eO]; exact Bool.false_ne_true) (by rw [eO]) ⟨by show w 0 5 + 1 = _; rw [h5, nI_1], rfl, fun k hk => ?_⟩
    show upd _ _ _ k = _
    rw [ix1 h5 hj, pk_un (by omega)]
end A
