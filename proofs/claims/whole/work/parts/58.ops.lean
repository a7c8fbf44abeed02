/-! the relation of a ledger and a row of the reference; each change keeps it -/
def RW (n : Nat) (v : kG) (z : Nat → Int32) : Prop := ∀ t k, t < n → k < 16 → ¬ mX5_contains (v 5 t) (nI k) = 0 → z (3 + 23 * t + (7 + k)) = v 7 (16 * t + k) ∧ ∃ a, a < 1000 ∧ v 7 (16 * t + k) = nI a
def RQ (n m : Nat) (b c : Nat → Nat) (v : kG) (z : Nat → Int32) : Prop := RE n v z ∧ RI n m b c v ∧ RW n v z ∧ RB n b c v z ∧ z 0 = v 0 0 ∧ z 1 = v 0 1 ∧ ∃ r, r < 4 ∧ v 0 0 = nI r
def RV (B : Nat) (v : kG) (z : Nat → Int32) : Prop := ∃ n m b c, m ≤ B ∧ RQ n m b c v z
theorem RV.mono {B B' : Nat} {v : kG} {z : Nat → Int32} (h : RV B v z) (hb : B ≤ B')   : RV B' v z := by
  obtain ⟨n, m, b, c, h1, h2⟩ := h
  exact ⟨n, m, b, c, by omega, h2⟩
theorem RV.congr {B : Nat} {v v' : kG} {z z' : Nat → Int32} (h : RV B v z) (h0 : ∀ k, k < 3 → v' 0 k = v 0 k) (h1 : ∀ r k, 1 ≤ r → r ≤ 6 → k < 12 → v' r k = v r k) (h7 : ∀ k, k < 192 → v' 7 k = v 7 k) (hz : ∀ q, q < 279 → z' q = z q)   : RV B v' z' := by
  obtain ⟨n, m, b, c, hB, hE, hI, hW, hR, a1, a2, r, hr, a3⟩ := h
  have hn := hE.1
  refine ⟨n, m, b, c, hB, ⟨hn, ?_, ?_, fun t ht => ?_⟩, ⟨?_, hI.2.1, fun t ht => ?_, hI.2.2.2.1, ?_, ?_⟩, ?_, ?_, ?_, ?_, r, hr, ?_⟩
  · rw [h0 2 (by omega)]; exact hE.2.1
  · rw [hz 2 (by omega)]; exact hE.2.2.1
  · rw [hz _ (by omega), hz _ (by omega), hz _ (by omega), hz _ (by omega), hz _ (by omega), hz _ (by omega), h1 1 t (by omega) (by omega) (by omega), h1 2 t (by omega) (by omega) (by omega), h1 3 t (by omega) (by omega) (by omega), h1 4 t (by omega) (by omega) (by omega), h1 5 t (by omega) (by omega) (by omega), h1 6 t (by omega) (by omega) (by omega)]
    exact hE.2.2.2 t ht
  · rw [h0 1 (by omega)]; exact hI.1
  · rw [h1 1 t (by omega) (by omega) (by omega), h1 2 t (by omega) (by omega) (by omega), h1 3 t (by omega) (by omega) (by omega), h1 4 t (by omega) (by omega) (by omega), h1 5 t (by omega) (by omega) (by omega)]
    exact hI.2.2.1 t ht
  · intro t w ht hw y1 y2
    rw [h1 1 _ (by omega) (by omega) (by omega)] at y1 y2
    exact hI.2.2.2.2.1 t w ht hw y1 y2
  · intro t w ht hw y1
    rw [h1 1 _ (by omega) (by omega) (by omega)] at y1
    exact hI.2.2.2.2.2 t w ht hw y1
  · intro t k ht hk y
    rw [h1 5 t (by omega) (by omega) (by omega)] at y
    rw [hz _ (by omega), h7 _ (by omega)]
    exact hW t k ht hk y
  · intro t ht
    rw [hz _ (by omega)]
    refine ⟨(hR t ht).1, fun w hw => ?_⟩
    rw [h1 1 w (by omega) (by omega) (by omega)]
    exact (hR t ht).2 w hw
  · rw [hz 0 (by omega), h0 0 (by omega)]; exact a1
  · rw [hz 1 (by omega), h0 1 (by omega)]; exact a2
  · rw [h0 0 (by omega)]; exact a3
theorem rset_same {u : kG} {r : Nat} : rset u r (u r) = u := by
  funext q; unfold rset; by_cases z : q = r
  · rw [if_pos z, z]
  · rw [if_neg z]
section A
variable {n m : Nat} {b c : Nat → Nat} {v v' : kG} {z z' : Nat → Int32} {t k B : Nat} {x : Int32}
/-- one of row t's cells is new -/
theorem RE.row (h : RE n v z) (h02 : v' 0 2 = v 0 2) (z2 : z' 2 = z 2) (ov : ∀ j, j < n → j ≠ t → ∀ r, 1 ≤ r → r ≤ 6 → v' r j = v r j) (oz : ∀ j, j < n → j ≠ t → ∀ k, k < 23 → z' (3 + 23 * j + k) = z (3 + 23 * j + k)) (th : t < n → z' (3 + 23 * t + 0) = v' 1 t ∧ z' (3 + 23 * t + 1) = v' 2 t ∧ z' (3 + 23 * t + 2) = v' 3 t ∧ z' (3 + 23 * t + 3) = v' 4 t ∧ z' (3 + 23 * t + 4) = v' 5 t ∧ z' (3 + 23 * t + 5) = v' 6 t) : RE n v' z' := by
  refine ⟨h.1, h02.trans h.2.1, z2.trans h.2.2.1, fun j hj => ?_⟩
  by_cases q : j = t
  · subst q; exact th hj
  · rw [oz j hj q 0 (by omega), oz j hj q 1 (by omega), oz j hj q 2 (by omega), oz j hj q 3 (by omega), oz j hj q 4 (by omega), oz j hj q 5 (by omega), ov j hj q 1 (by omega) (by omega), ov j hj q 2 (by omega) (by omega), ov j hj q 3 (by omega) (by omega), ov j hj q 4 (by omega) (by omega), ov j hj q 5 (by omega) (by omega), ov j hj q 6 (by omega) (by omega)]
    exact h.2.2.2 j hj
theorem or16 {a : Nat} (ha : a < 65536) (hk : k < 16) : nI a ||| (1 <<< (nI k &&& 31)) = nI (a ||| 2 ^ k) ∧ a ||| 2 ^ k < 65536 := by
  refine ⟨by rw [kshl k (by omega), fa_or], ?_⟩
  exact Nat.or_lt_two_pow (n := 16) ha (Nat.pow_lt_pow_right (by decide) hk)
theorem RQ.read (h : RQ n m b c v z) (ht : t < n) (hk : k < 16) (e0 : v' 0 = v 0) (e1 : v' 1 = v 1) (e2 : v' 2 = v 2) (e3 : v' 3 = v 3) (e4 : v' 4 = upd (v 4) t (v 4 t ||| (1 <<< (nI k &&& 31)))) (e5 : v' 5 = v 5) (e6 : v' 6 = v 6) (e7 : v' 7 = v 7) (ez : z' = upd z (3 + 23 * t + 3) (v 4 t ||| (1 <<< (nI k &&& 31)))) : RQ n m b c v' z' := by
  obtain ⟨hE, hI, hW, hR, a1, a2, a3⟩ := h
  have hn := hE.1
  have uz : ∀ q, q ≠ 3 + 23 * t + 3 → z' q = z q := fun q hq => by rw [ez, pk_un hq]
  have o4 : ∀ j, j ≠ t → v' 4 j = v 4 j := fun j hj => by rw [e4, pk_un hj]
  refine ⟨hE.row (t := t) (by rw [e0]) (uz 2 (by omega)) (fun j hj hjt r hr1 hr2 => ?_) (fun j hj hjt k hk => uz _ (by omega)) (fun _ => ?_), ?_, ?_, ?_, ?_, ?_, ?_⟩
  · match r, hr1, hr2 with
    | 1, _, _ => rw [e1]
    | 2, _, _ => rw [e2]
    | 3, _, _ => rw [e3]
    | 4, _, _ => exact o4 j hjt
    | 5, _, _ => rw [e5]
    | 6, _, _ => rw [e6]
  · obtain ⟨y0, y1, y2, y3, y4, y5⟩ := hE.2.2.2 t ht
    rw [uz (3 + 23 * t + 0) (by omega), uz (3 + 23 * t + 1) (by omega), uz (3 + 23 * t + 2) (by omega), uz (3 + 23 * t + 4) (by omega), uz (3 + 23 * t + 5) (by omega), e1, e2, e3, e5, e6, ez, e4, pk_us, pk_us]
    exact ⟨y0, y1, y2, rfl, y4, y5⟩
  · unfold RI at hI ⊢
    rw [e0, e1, e2, e3, e5]
    refine ⟨hI.1, hI.2.1, fun j hj => ?_, hI.2.2.2⟩
    obtain ⟨y1, y2, y3, y4, y5, y6, y7, y8⟩ := hI.2.2.1 j hj
    refine ⟨y1, y2, y3, y4, y5, y6, ?_, y8⟩
    by_cases q : j = t
    · subst q
      obtain ⟨a, ha, ea⟩ := y7
      rw [e4, pk_us, ea]
      exact ⟨_, (or16 ha hk).2, (or16 ha hk).1⟩
    · rw [o4 j q]; exact y7
  · intro t' k' ht' hk' y
    rw [uz _ (by omega), e7]
    rw [e5] at y
    exact hW t' k' ht' hk' y
  · intro t' ht'
    rw [uz _ (by omega), e1]
    exact hR t' ht'
  · rw [uz _ (by omega), e0]; exact a1
  · rw [uz _ (by omega), e0]; exact a2
  · rw [e0]; exact a3
theorem or_bit {a : Nat} (ha : a < 65536) (hk : k < 16) {k' : Nat} (hk' : k' < 16) (hne : k' ≠ k) : mX5_contains (nI a ||| (1 <<< (nI k &&& 31))) (nI k') = mX5_contains (nI a) (nI k') := by
  rw [(or16 ha hk).1, kct (by have := (or16 ha hk).2; omega) (by omega), kct (by omega) (by omega), Nat.testBit_or, Nat.testBit_two_pow]
  have : decide (k = k') = false := by simp; omega
  rw [this, Bool.or_false]
theorem RQ.write {w : Nat} (h : RQ n m b c v z) (ht : t < n) (hk : k < 16) (hw : w < 1000) (e0 : v' 0 = v 0) (e1 : v' 1 = v 1) (e2 : v' 2 = v 2) (e3 : v' 3 = v 3) (e4 : v' 4 = v 4) (e5 : v' 5 = upd (v 5) t (v 5 t ||| (1 <<< (nI k &&& 31)))) (e6 : v' 6 = v 6) (e7 : v' 7 = upd (v 7) (16 * t + k) (nI w)) (ez : z' = upd (upd z (3 + 23 * t + 4) (v 5 t ||| (1 <<< (nI k &&& 31)))) (3 + 23 * t + (7 + k)) (nI w)) : RQ n m b c v' z' := by
  obtain ⟨hE, hI, hW, hR, a1, a2, a3⟩ := h
  have hn := hE.1
  have uz : ∀ q, q ≠ 3 + 23 * t + 4 → q ≠ 3 + 23 * t + (7 + k) → z' q = z q := fun q hq hq2 => by rw [ez, pk_un hq2, pk_un hq]
  have o5 : ∀ j, j ≠ t → v' 5 j = v 5 j := fun j hj => by rw [e5, pk_un hj]
  have z4 : z' (3 + 23 * t + 4) = v 5 t ||| (1 <<< (nI k &&& 31)) := by rw [ez, pk_un (by omega), pk_us]
  obtain ⟨a, ha, ea⟩ := hI.wr ht
  refine ⟨hE.row (t := t) (by rw [e0]) (uz 2 (by omega) (by omega)) (fun j hj hjt r hr1 hr2 => ?_) (fun j hj hjt k hk => uz _ (by omega) (by omega)) (fun _ => ?_), ?_, ?_, ?_, ?_, ?_, ?_⟩
  · match r, hr1, hr2 with
    | 1, _, _ => rw [e1]
    | 2, _, _ => rw [e2]
    | 3, _, _ => rw [e3]
    | 4, _, _ => rw [e4]
    | 5, _, _ => exact o5 j hjt
    | 6, _, _ => rw [e6]
  · obtain ⟨y0, y1, y2, y3, y4, y5⟩ := hE.2.2.2 t ht
    rw [uz _ (by omega) (by omega), uz _ (by omega) (by omega), uz _ (by omega) (by omega), uz _ (by omega) (by omega), uz (3 + 23 * t + 5) (by omega) (by omega), e1, e2, e3, e4, e6, z4, e5, pk_us]
    exact ⟨y0, y1, y2, y3, rfl, y5⟩
  · unfold RI at hI ⊢
    rw [e0, e1, e2, e3, e4]
    refine ⟨hI.1, hI.2.1, fun j hj => ?_, hI.2.2.2⟩
    obtain ⟨y1, y2, y3, y4, y5, y6, y7, y8⟩ := hI.2.2.1 j hj
    refine ⟨y1, y2, y3, y4, y5, y6, y7, ?_⟩
    by_cases q : j = t
    · subst q
      rw [e5, pk_us, ea]
      exact ⟨_, (or16 ha hk).2, (or16 ha hk).1⟩
    · rw [o5 j q]; exact y8
  · intro t' k' ht' hk' y
    by_cases q : t' = t
    · by_cases q2 : k' = k
      · rw [q, q2, e7, pk_us, ez, pk_us]
        exact ⟨rfl, w, hw, rfl⟩
      · rw [q] at y ⊢
        rw [e5, pk_us, ea, or_bit ha hk hk' q2, ← ea] at y
        rw [uz _ (by omega) (by omega), e7, pk_un (by omega)]
        exact hW t k' ht hk' y
    · rw [uz _ (by omega) (by omega), e7, pk_un (by omega)]
      rw [o5 t' q] at y
      exact hW t' k' ht' hk' y
  · intro t' ht'
    rw [uz _ (by omega) (by omega), e1]
    exact hR t' ht'
  · rw [uz _ (by omega) (by omega), e0]; exact a1
  · rw [uz _ (by omega) (by omega), e0]; exact a2
  · rw [e0]; exact a3
theorem RQ.abort (h : RQ n m b c v z) (ht : t < n) (ht0 : v 1 t = 0) (e0 : v' 0 = v 0) (e1 : v' 1 = upd (v 1) t 2) (e2 : v' 2 = v 2) (e3 : v' 3 = v 3) (e4 : v' 4 = v 4) (e5 : v' 5 = v 5) (e6 : v' 6 = upd (v 6) t x) (e7 : v' 7 = v 7) (ez : z' = upd (upd z (3 + 23 * t + 0) 2) (3 + 23 * t + 5) x) : RQ n m b c v' z' := by
  obtain ⟨hE, hI, hW, hR, a1, a2, a3⟩ := h
  have hn := hE.1
  have uz : ∀ q, q ≠ 3 + 23 * t + 0 → q ≠ 3 + 23 * t + 5 → z' q = z q := fun q hq hq2 => by rw [ez, pk_un hq2, pk_un hq]
  have o1 : ∀ j, j ≠ t → v' 1 j = v 1 j := fun j hj => by rw [e1, pk_un hj]
  have o6 : ∀ j, j ≠ t → v' 6 j = v 6 j := fun j hj => by rw [e6, pk_un hj]
  have t1 : v' 1 t = 2 := by rw [e1, pk_us]
  have z0 : z' (3 + 23 * t + 0) = 2 := by rw [ez, pk_un (by omega), pk_us]
  have c1 : ∀ j, v' 1 j = 1 → v 1 j = 1 := fun j y => by
    by_cases q : j = t
    · rw [q, t1] at y; exact absurd y (by decide)
    · rw [o1 j q] at y; exact y
  refine ⟨hE.row (t := t) (by rw [e0]) (uz 2 (by omega) (by omega)) (fun j hj hjt r hr1 hr2 => ?_) (fun j hj hjt k hk => uz _ (by omega) (by omega)) (fun _ => ?_), ?_, ?_, ?_, ?_, ?_, ?_⟩
  · match r, hr1, hr2 with
    | 1, _, _ => exact o1 j hjt
    | 2, _, _ => rw [e2]
    | 3, _, _ => rw [e3]
    | 4, _, _ => rw [e4]
    | 5, _, _ => rw [e5]
    | 6, _, _ => exact o6 j hjt
  · obtain ⟨y0, y1, y2, y3, y4, y5⟩ := hE.2.2.2 t ht
    rw [z0, t1, uz (3 + 23 * t + 1) (by omega) (by omega), uz (3 + 23 * t + 2) (by omega) (by omega), uz (3 + 23 * t + 3) (by omega) (by omega), uz (3 + 23 * t + 4) (by omega) (by omega), e2, e3, e4, e5, e6, pk_us, ez, pk_us]
    exact ⟨rfl, y1, y2, y3, y4, rfl⟩
  · refine ⟨by rw [e0]; exact hI.1, hI.2.1, fun j hj => ?_, hI.2.2.2.1, ?_, ?_⟩
    · obtain ⟨y1, y2, y3, y4, y5, y6, y7, y8⟩ := hI.2.2.1 j hj
      rw [e2, e3, e4, e5]
      by_cases q : j = t
      · subst q
        rw [t1]
        exact ⟨Or.inr (Or.inr rfl), y2, y3, y4, fun y => absurd y (by decide), fun _ => y6 (by rw [ht0]; decide), y7, y8⟩
      · rw [o1 j q]; exact ⟨y1, y2, y3, y4, y5, y6, y7, y8⟩
    · intro j l hj hl y1 y2
      exact hI.2.2.2.2.1 j l hj hl (c1 j y1) (c1 l y2)
    · intro j l hj hl y1
      exact hI.2.2.2.2.2 j l hj hl (c1 j y1)
  · intro t' k' ht' hk' y
    rw [uz _ (by omega) (by omega), e7]
    rw [e5] at y
    exact hW t' k' ht' hk' y
  · intro t' ht'
    rw [uz _ (by omega) (by omega)]
    refine ⟨(hR t' ht').1, fun w hw => ?_⟩
    by_cases q : w = t
    · rw [q, t1]; exact ⟨fun y => absurd y (by decide), fun y => absurd y (by decide)⟩
    · rw [o1 w q]; exact (hR t' ht').2 w hw
  · rw [uz _ (by omega) (by omega), e0]; exact a1
  · rw [uz _ (by omega) (by omega), e0]; exact a2
  · rw [e0]; exact a3
theorem RQ.commit (h : RQ n m b c v z) (hm : m + 1 < 2 ^ 30) (ht : t < n) (ht0 : v 1 t = 0) (e00 : v' 0 0 = v 0 0) (e01 : v' 0 1 = v 0 1 + 1) (e02 : v' 0 2 = v 0 2) (e1 : v' 1 = upd (v 1) t 1) (e2 : v' 2 = v 2) (e3 : v' 3 = upd (v 3) t (v 0 1 + 1)) (e4 : v' 4 = v 4) (e5 : v' 5 = v 5) (e6 : v' 6 = v 6) (e7 : v' 7 = v 7) (ez : z' = upd (upd (upd z 1 (z 1 + 1)) (3 + 23 * t + 0) 1) (3 + 23 * t + 2) (z 1 + 1)) : RQ n (m + 1) b (fun j => if j = t then m + 1 else c j) v' z' := by
  obtain ⟨hE, hI, hW, hR, a1, a2, a3⟩ := h
  have hn := hE.1
  have uz : ∀ q, q ≠ 1 → q ≠ 3 + 23 * t + 0 → q ≠ 3 + 23 * t + 2 → z' q = z q := fun q hq0 hq hq2 => by rw [ez, pk_un hq2, pk_un hq, pk_un hq0]
  have o1 : ∀ j, j ≠ t → v' 1 j = v 1 j := fun j hj => by rw [e1, pk_un hj]
  have o3 : ∀ j, j ≠ t → v' 3 j = v 3 j := fun j hj => by rw [e3, pk_un hj]
  have t1 : v' 1 t = 1 := by rw [e1, pk_us]
  have t3 : v' 3 t = nI (m + 1) := by rw [e3, pk_us, hI.1, nI_1]
  have z0 : z' (3 + 23 * t + 0) = 1 := by rw [ez, pk_un (by omega), pk_us]
  have z1 : z' 1 = nI (m + 1) := by rw [ez, pk_un (by omega), pk_un (by omega), pk_us, a2, hI.1, nI_1]
  have z2 : z' (3 + 23 * t + 2) = nI (m + 1) := by rw [ez, pk_us, a2, hI.1, nI_1]
  refine ⟨hE.row (t := t) e02 (uz 2 (by omega) (by omega) (by omega)) (fun j hj hjt r hr1 hr2 => ?_) (fun j hj hjt k hk => uz _ (by omega) (by omega) (by omega)) (fun _ => ?_), ?_, ?_, ?_, ?_, ?_, ?_⟩
  · match r, hr1, hr2 with
    | 1, _, _ => exact o1 j hjt
    | 2, _, _ => rw [e2]
    | 3, _, _ => exact o3 j hjt
    | 4, _, _ => rw [e4]
    | 5, _, _ => rw [e5]
    | 6, _, _ => rw [e6]
  · obtain ⟨y0, y1, y2, y3, y4, y5⟩ := hE.2.2.2 t ht
    rw [z0, t1, uz (3 + 23 * t + 1) (by omega) (by omega) (by omega), z2, t3, uz (3 + 23 * t + 3) (by omega) (by omega) (by omega), uz (3 + 23 * t + 4) (by omega) (by omega) (by omega), uz (3 + 23 * t + 5) (by omega) (by omega) (by omega), e2, e4, e5, e6]
    exact ⟨rfl, y1, rfl, y3, y4, y5⟩
  · have ct : ∀ j, j ≠ t → (if j = t then m + 1 else c j) = c j := fun j q => if_neg q
    refine ⟨by rw [e01, hI.1, nI_1], hm, fun j hj => ?_, hI.2.2.2.1, ?_, ?_⟩
    · obtain ⟨y1, y2, y3, y4, y5, y6, y7, y8⟩ := hI.2.2.1 j hj
      rw [e2, e4, e5]
      by_cases q : j = t
      · subst q
        rw [t1, t3]; dsimp only; rw [if_pos rfl]
        exact ⟨Or.inr (Or.inl rfl), y2, y3, by omega, fun _ => ⟨rfl, by omega, by omega⟩, fun y => absurd rfl y, y7, y8⟩
      · rw [o1 j q, o3 j q]; dsimp only; rw [if_neg q]
        exact ⟨y1, y2, y3, by omega, fun y => ⟨(y5 y).1, (y5 y).2.1, by have := (y5 y).2.2; omega⟩, y6, y7, y8⟩
    · intro j l hj hl y1 y2 hne
      show (if j = t then m + 1 else c j) ≠ (if l = t then m + 1 else c l)
      by_cases q : j = t
      · have q2 : l ≠ t := fun y => hne (by rw [q, y])
        rw [if_pos q, if_neg q2]
        rw [o1 l q2] at y2
        have := (hI.cm hl y2).2.2
        omega
      · rw [if_neg q]
        rw [o1 j q] at y1
        by_cases q2 : l = t
        · rw [if_pos q2]
          have := (hI.cm hj y1).2.2
          omega
        · rw [if_neg q2]
          rw [o1 l q2] at y2
          exact hI.2.2.2.2.1 j l hj hl y1 y2 hne
    · intro j l hj hl y1
      show (if j = t then m + 1 else c j) ≠ b l
      by_cases q : j = t
      · rw [if_pos q]
        have := (hI.bg hl).2.2
        omega
      · rw [if_neg q]
        rw [o1 j q] at y1
        exact hI.2.2.2.2.2 j l hj hl y1
  · intro t' k' ht' hk' y
    rw [uz _ (by omega) (by omega) (by omega), e7]
    rw [e5] at y
    exact hW t' k' ht' hk' y
  · intro t' ht'
    rw [uz _ (by omega) (by omega) (by omega)]
    refine ⟨(hR t' ht').1, fun w hw => ?_⟩
    by_cases q : w = t
    · rw [q, t1]
      refine ⟨fun y => absurd y (by decide), fun _ => ?_⟩
      show _ ↔ b t' < (if t = t then m + 1 else c t)
      rw [if_pos rfl]
      have y := ((hR t' ht').2 t (by omega)).1 ht0
      have := (hI.bg ht').2.2
      exact ⟨fun _ => by omega, fun _ => y⟩
    · rw [o1 w q]
      show _ ∧ (_ → (_ ↔ b t' < (if w = t then m + 1 else c w)))
      rw [if_neg q]
      exact (hR t' ht').2 w hw
  · rw [uz _ (by omega) (by omega) (by omega), e00]; exact a1
  · rw [z1, e01, hI.1, nI_1]
  · rw [e00]; exact a3
theorem RQ.rule {r : Nat} (h : RQ n m b c v z) (hr : r < 4) (e00 : v' 0 0 = nI r) (e01 : v' 0 1 = v 0 1) (e02 : v' 0 2 = v 0 2) (e1 : ∀ k, 1 ≤ k → v' k = v k) (ez : z' = upd z 0 (nI r)) : RQ n m b c v' z' := by
  obtain ⟨hE, hI, hW, hR, a1, a2, a3⟩ := h
  have uz : ∀ q, q ≠ 0 → z' q = z q := fun q hq => by rw [ez, pk_un hq]
  refine ⟨hE.row (t := n) e02 (uz 2 (by omega)) (fun j hj hjt r hr1 hr2 => by rw [e1 r hr1]) (fun j hj hjt k hk => uz _ (by omega)) (fun y => absurd y (Nat.lt_irrefl n)), ?_, ?_, ?_, ?_, ?_, ?_⟩
  · unfold RI at hI ⊢
    rw [e01, e1 1 (by omega), e1 2 (by omega), e1 3 (by omega), e1 4 (by omega), e1 5 (by omega)]
    exact hI
  · intro t' k' ht' hk' y
    rw [uz _ (by omega), e1 7 (by omega)]
    rw [e1 5 (by omega)] at y
    exact hW t' k' ht' hk' y
  · intro t' ht'
    rw [uz _ (by omega), e1 1 (by omega)]
    exact hR t' ht'
  · rw [ez, pk_us, e00]
  · rw [uz _ (by omega), e01]; exact a2
  · exact ⟨r, hr, e00⟩
theorem RQ.begin (h : RQ n m b c v z) (hm : m + 1 < 2 ^ 30) (hn : n < 12) (e00 : v' 0 0 = v 0 0) (e01 : v' 0 1 = v 0 1 + 1) (e02 : v' 0 2 = v 0 2 + 1) (e1 : v' 1 = upd (v 1) n 0) (e2 : v' 2 = upd (v 2) n (v 0 1 + 1)) (e3 : v' 3 = upd (v 3) n (-6)) (e4 : v' 4 = upd (v 4) n 0) (e5 : v' 5 = upd (v 5) n 0) (e6 : v' 6 = upd (v 6) n (-6)) (e7 : v' 7 = v 7) (z0 : z' 0 = z 0) (z1 : z' 1 = z 1 + 1) (z2 : z' 2 = z 2 + 1) (zo : ∀ q, 3 ≤ q → q < 3 + 23 * n → z' q = z q) (y0 : z' (3 + 23 * n + 0) = 0) (y1 : z' (3 + 23 * n + 1) = z 1 + 1) (y2 : z' (3 + 23 * n + 2) = -6) (y3 : z' (3 + 23 * n + 3) = 0) (y4 : z' (3 + 23 * n + 4) = 0) (y5 : z' (3 + 23 * n + 5) = -6) (y6 : z' (3 + 23 * n + 6) = nI (kst (fun j => decide (v 1 j = 0)) n)) : RQ (n + 1) (m + 1) (fun j => if j = n then m + 1 else b j) c v' z' := by
  obtain ⟨hE, hI, hW, hR, a1, a2, a3⟩ := h
  have o1 : ∀ j, j ≠ n → v' 1 j = v 1 j := fun j hj => by rw [e1, pk_un hj]
  have o2 : ∀ j, j ≠ n → v' 2 j = v 2 j := fun j hj => by rw [e2, pk_un hj]
  have o3 : ∀ j, j ≠ n → v' 3 j = v 3 j := fun j hj => by rw [e3, pk_un hj]
  have o4 : ∀ j, j ≠ n → v' 4 j = v 4 j := fun j hj => by rw [e4, pk_un hj]
  have o5 : ∀ j, j ≠ n → v' 5 j = v 5 j := fun j hj => by rw [e5, pk_un hj]
  have o6 : ∀ j, j ≠ n → v' 6 j = v 6 j := fun j hj => by rw [e6, pk_un hj]
  have zm : z 1 + 1 = nI (m + 1) := by rw [a2, hI.1, nI_1]
  have vm : v 0 1 + 1 = nI (m + 1) := by rw [hI.1, nI_1]
  have n1 : ∀ j, v' 1 j = 1 → j < n + 1 → j ≠ n ∧ j < n ∧ v 1 j = 1 := fun j y hj => by
    by_cases q : j = n
    · rw [q, e1, pk_us] at y; exact absurd y (by decide)
    · rw [o1 j q] at y; exact ⟨q, by omega, y⟩
  refine ⟨⟨by omega, by rw [e02, hE.2.1, nI_1], by rw [z2, hE.2.2.1, nI_1], fun j hj => ?_⟩, ⟨by rw [e01, vm], hm, fun j hj => ?_, ?_, ?_, ?_⟩, ?_, ?_, ?_, ?_, ?_⟩
  · by_cases q : j = n
    · rw [q, y0, y1, y2, y3, y4, y5, e1, e2, e3, e4, e5, e6, pk_us, pk_us, pk_us, pk_us, pk_us, pk_us, zm, vm]
      exact ⟨rfl, rfl, rfl, rfl, rfl, rfl⟩
    · rw [zo _ (by omega) (by omega), zo _ (by omega) (by omega), zo _ (by omega) (by omega), zo _ (by omega) (by omega), zo _ (by omega) (by omega), zo _ (by omega) (by omega), o1 j q, o2 j q, o3 j q, o4 j q, o5 j q, o6 j q]
      exact hE.2.2.2 j (by omega)
  · by_cases q : j = n
    · subst q
      rw [e1, e2, e3, e4, e5, pk_us, pk_us, pk_us, pk_us, pk_us, vm]; dsimp only; rw [if_pos rfl]
      exact ⟨Or.inl rfl, rfl, by omega, by omega, fun y => absurd y (by decide), fun _ => rfl, ⟨0, by omega, rfl⟩, ⟨0, by omega, rfl⟩⟩
    · obtain ⟨x1, x2, x3, x4, x5, x6, x7, x8⟩ := hI.2.2.1 j (by omega)
      rw [o1 j q, o2 j q, o3 j q, o4 j q, o5 j q]; dsimp only; rw [if_neg q]
      exact ⟨x1, x2, x3, by omega, fun y => ⟨(x5 y).1, (x5 y).2.1, by have := (x5 y).2.2; omega⟩, x6, x7, x8⟩
  · intro j l hjl hl
    show (if j = n then m + 1 else b j) < (if l = n then m + 1 else b l)
    rw [if_neg (show ¬ j = n by omega)]
    by_cases q : l = n
    · rw [if_pos q]
      have := (hI.bg (show j < n by omega)).2.2
      omega
    · rw [if_neg q]; exact hI.2.2.2.1 j l hjl (by omega)
  · intro j l hj hl x1 x2
    exact hI.2.2.2.2.1 j l (n1 j x1 hj).2.1 (n1 l x2 hl).2.1 (n1 j x1 hj).2.2 (n1 l x2 hl).2.2
  · intro j l hj hl x1
    obtain ⟨w1, w2, w3⟩ := n1 j x1 hj
    show c j ≠ (if l = n then m + 1 else b l)
    by_cases q : l = n
    · rw [if_pos q]
      have := (hI.cm w2 w3).2.2
      omega
    · rw [if_neg q]; exact hI.2.2.2.2.2 j l w2 (by omega) w3
  · intro t' k' ht' hk' y
    by_cases q : t' = n
    · rw [q, e5, pk_us] at y
      exact absurd (by have e := kct (a := 0) (k := k') (by omega) (by omega); rw [Nat.zero_testBit] at e; exact e) y
    · rw [o5 t' q] at y
      rw [zo _ (by omega) (by omega), e7]
      exact hW t' k' (by omega) hk' y
  · intro t' ht'
    by_cases q : t' = n
    · subst q
      rw [y6]
      show _ ∧ ∀ w, w < t' → _ ∧ (_ → (_ ↔ (if t' = t' then m + 1 else b t') < c w))
      rw [if_pos rfl]
      refine ⟨fun w hw y => ?_, fun w hw => ⟨fun y => ?_, fun y => ⟨fun y2 => ?_, fun y2 => ?_⟩⟩⟩
      · rw [kctS (by omega) (by omega)] at y
        exact (Classical.byContradiction y).1
      · rw [o1 w (by omega)] at y
        rw [kctS (by omega) (by omega)]
        exact fun z => z ⟨hw, by simp [y]⟩
      · rw [o1 w (by omega)] at y
        rw [kctS (by omega) (by omega)] at y2
        have y3 := (Classical.byContradiction y2).2
        rw [y] at y3
        exact absurd y3 (by decide)
      · rw [o1 w (by omega)] at y
        have := (hI.cm hw y).2.2
        omega
    · rw [zo _ (by omega) (by omega)]
      show _ ∧ ∀ w, w < t' → _ ∧ (_ → (_ ↔ (if t' = n then m + 1 else b t') < c w))
      rw [if_neg q]
      refine ⟨(hR t' (by omega)).1, fun w hw => ?_⟩
      rw [o1 w (by omega)]
      exact (hR t' (by omega)).2 w hw
  · rw [z0, e00]; exact a1
  · rw [z1, e01, zm, vm]
  · rw [e00]; exact a3
end A
