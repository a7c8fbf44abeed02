/-! what holds of the ledger and the law's rows, and how each change keeps it -/
def upd' (f : Nat → Nat) (k x : Nat) : Nat → Nat := fun j => if j = k then x else f j
section OPS
variable {n m ρ : Nat} {b c : Nat → Nat} {v v' : kG} {z z' q q' : Nat → Int32} {i j k t : Nat}
def LQ (n m : Nat) (b c : Nat → Nat) (ρ : Nat) (v : kG) (z q : Nat → Int32) : Prop :=
  LR n v z ∧ v 0 2 = nI n ∧ RI n m b c v ∧ z 48 = nI m ∧ RBs n b c v z ∧ RZ n v ∧ v 0 0 = nI ρ ∧ ρ < 4 ∧ (∀ t k, t < n → k < 5 → WRk v t k → q (5 * t + k) = v 7 (16 * t + k)) ∧ FCW v n b c ∧ INV v n b c ρ ∧ (∀ t, n ≤ t → t < 12 → z (12 + t) = 0 ∧ z (24 + t) = 0 ∧ z (36 + t) = 0)
theorem EE_cg (hi : v' 1 i = v 1 i ∧ v' 2 i = v 2 i ∧ v' 3 i = v 3 i ∧ v' 4 i = v 4 i) (hj : v' 1 j = v 1 j ∧ v' 2 j = v 2 j ∧ v' 3 j = v 3 j ∧ v' 5 j = v 5 j) : EE v' i j ↔ EE v i j := by
  unfold EE ED
  rw [hi.1, hi.2.1, hi.2.2.1, hi.2.2.2, hj.1, hj.2.1, hj.2.2.1, hj.2.2.2]
/-- what was committed stands as it stood -/
def CK (n n' : Nat) (b b' c c' : Nat → Nat) (v v' : kG) : Prop := ∀ x, x < n' → v' 1 x = 1 → x < n ∧ v 1 x = 1 ∧ v' 2 x = v 2 x ∧ v' 3 x = v 3 x ∧ v' 4 x = v 4 x ∧ v' 5 x = v 5 x ∧ b' x = b x ∧ c' x = c x
theorem CK.F {n' : Nat} {b' c' : Nat → Nat} (hk : CK n n' b b' c c' v v') (h : FCW v n b c) : FCW v' n' b' c' := by
  intro t u ht hu h1 h2 hne l1 l2 k hkk
  obtain ⟨a1, a2, a3, a4, a5, a6, a7, a8⟩ := hk t ht h1
  obtain ⟨d1, d2, d3, d4, d5, d6, d7, d8⟩ := hk u hu h2
  rw [a7, d8] at l1
  rw [a8, d8] at l2
  unfold WRk
  rw [a6, d6]
  exact h t u a1 d1 a2 d2 hne l1 l2 k hkk
theorem CK.I {n' : Nat} {b' c' : Nat → Nat} (hk : CK n n' b b' c c' v v') (h : INV v n b c ρ) : INV v' n' b' c' ρ := by
  intro a p o ha hp ho h1 h2 h3 e1 e2 hc
  obtain ⟨a1, a2, a3, a4, a5, a6, a7, a8⟩ := hk a ha h1
  obtain ⟨p1, p2, p3, p4, p5, p6, p7, p8⟩ := hk p hp h2
  obtain ⟨o1, o2, o3, o4, o5, o6, o7, o8⟩ := hk o ho h3
  rw [EE_cg ⟨h1.trans a2.symm, a3, a4, a5⟩ ⟨h2.trans p2.symm, p3, p4, p6⟩] at e1
  rw [EE_cg ⟨h2.trans p2.symm, p3, p4, p5⟩ ⟨h3.trans o2.symm, o3, o4, o6⟩] at e2
  refine h a p o a1 p1 o1 a2 p2 o2 e1 e2 ?_
  unfold CTn at hc ⊢
  rw [a6, a7, a8, p8, o8] at hc
  exact hc
theorem LR.row (h : LR n v z) (h49 : z' 49 = z 49) (oz : ∀ j, j < n → j ≠ t → z' j = z j ∧ z' (24 + j) = z (24 + j) ∧ z' (36 + j) = z (36 + j) ∧ z' (12 + j) = z (12 + j)) (ov : ∀ j, j < n → j ≠ t → v' 1 j = v 1 j ∧ v' 2 j = v 2 j ∧ v' 3 j = v 3 j ∧ v' 4 j = v 4 j ∧ v' 5 j = v 5 j) (th : z' t = v' 2 t ∧ z' (24 + t) = v' 4 t ∧ z' (36 + t) = v' 5 t ∧ (v' 1 t = 0 ∧ z' (12 + t) = 0 ∨ v' 1 t = 1 ∧ z' (12 + t) = v' 3 t ∧ ¬ v' 3 t ≤ 0 ∨ v' 1 t = 2 ∧ z' (12 + t) = -1)) : LR n v' z' := by
  refine ⟨h.1, h49.trans h.2.1, fun j hj => ?_⟩
  by_cases e : j = t
  · rw [e]; exact th
  · obtain ⟨a1, a2, a3, a4⟩ := oz j hj e
    obtain ⟨d1, d2, d3, d4, d5⟩ := ov j hj e
    rw [a1, a2, a3, a4, d1, d2, d3, d4, d5]
    exact h.2.2 j hj
theorem or16 {a : Nat} (ha : a < 65536) (hk : k < 16) : nI a ||| (1 <<< (nI k &&& 31)) = nI (a ||| 2 ^ k) ∧ a ||| 2 ^ k < 65536 := by
  rw [kshl k (by omega), fa_or]
  exact ⟨rfl, Nat.or_lt_two_pow (n := 16) ha (Nat.pow_lt_pow_right (by decide) hk)⟩
theorem or_bit {a : Nat} (ha : a < 65536) (hk : k < 16) {k' : Nat} (hk' : k' < 16) (hne : k' ≠ k) : mX5_contains (nI a ||| (1 <<< (nI k &&& 31))) (nI k') = mX5_contains (nI a) (nI k') := by
  obtain ⟨e, hl⟩ := or16 ha hk
  rw [e, kct (by omega) (by omega), kct (by omega) (by omega), Nat.testBit_or, Nat.testBit_two_pow]
  simp [Ne.symm hne]
theorem LQ.read (h : LQ n m b c ρ v z q) (ht : t < n) (ht0 : v 1 t = 0) (hk : k < 5) (e : ∀ x, x ≠ 4 → v' x = v x) (e4 : v' 4 = upd (v 4) t (v 4 t ||| (1 <<< (nI k &&& 31)))) (ez : z' = upd z (24 + t) (z (24 + t) ||| (1 <<< (nI k &&& 31)))) : LQ n m b c ρ v' z' q := by
  obtain ⟨hR, h2, hI, h48, hB, hZ, hr, hr4, hV, hF, hN, h0⟩ := h
  have hn := hR.1
  have o4 : ∀ j, j ≠ t → v' 4 j = v 4 j := fun j hj => by rw [e4, pk_un hj]
  have uz : ∀ x, x ≠ 24 + t → z' x = z x := fun x hx => by rw [ez, pk_un hx]
  have e0 := e 0 (by decide)
  have e1 := e 1 (by decide)
  have e2 := e 2 (by decide)
  have e3 := e 3 (by decide)
  have e5 := e 5 (by decide)
  have e6 := e 6 (by decide)
  have e7 := e 7 (by decide)
  have ck : CK n n b b c c v v' := fun x hx h1 => by
    rw [e1] at h1
    have hne : x ≠ t := fun y => by rw [y, ht0] at h1; exact absurd h1 (by decide)
    exact ⟨hx, h1, by rw [e2], by rw [e3], o4 x hne, by rw [e5], rfl, rfl⟩
  refine ⟨hR.row (t := t) (uz 49 (by omega)) (fun j hj hne => ⟨uz _ (by omega), uz _ (by omega), uz _ (by omega), uz _ (by omega)⟩) (fun j hj hne => ⟨by rw [e1], by rw [e2], by rw [e3], o4 j hne, by rw [e5]⟩) ?_, by rw [e0]; exact h2, ?_, (uz 48 (by omega)).trans h48, ?_, ?_, by rw [e0]; exact hr, hr4, ?_, ck.F hF, ck.I hN, fun t' h3 h4 => ?_⟩
  · obtain ⟨a1, a2, a3, a4⟩ := hR.2.2 t ht
    rw [uz t (by omega), uz (36 + t) (by omega), uz (12 + t) (by omega), e1, e2, e3, e5, ez, pk_us, e4, pk_us, a2]
    exact ⟨a1, rfl, a3, a4⟩
  · unfold RI at hI ⊢
    rw [e0, e1, e2, e3, e5]
    refine ⟨hI.1, hI.2.1, fun j hj => ?_, hI.2.2.2⟩
    obtain ⟨y1, y2, y3, y4, y5, y6, y7, y8⟩ := hI.2.2.1 j hj
    refine ⟨y1, y2, y3, y4, y5, y6, ?_, y8⟩
    by_cases q : j = t
    · subst q
      obtain ⟨a, ha, ea⟩ := y7
      rw [e4, pk_us, ea]
      exact ⟨_, (or16 ha (show k < 16 by omega)).2, (or16 ha (show k < 16 by omega)).1⟩
    · rw [o4 j q]; exact y7
  · intro t' ht' u hu
    unfold BT
    rw [uz (50 + t') (by omega), e1]
    exact hB t' ht' u hu
  · intro t' ht'
    rw [e1, e6]; exact hZ t' ht'
  · intro t' k' ht' hk' hw
    unfold WRk at hw
    rw [e5] at hw
    rw [e7]
    exact hV t' k' ht' hk' hw
  · rw [uz _ (by omega), uz _ (by omega), uz _ (by omega)]; exact h0 t' h3 h4
theorem LQ.write {x : Nat} (h : LQ n m b c ρ v z q) (ht : t < n) (ht0 : v 1 t = 0) (hk : k < 5) (e : ∀ x, x ≠ 5 → x ≠ 7 → v' x = v x) (e5 : v' 5 = upd (v 5) t (v 5 t ||| (1 <<< (nI k &&& 31)))) (e7 : v' 7 = upd (v 7) (16 * t + k) (nI x)) (ez : z' = upd z (36 + t) (z (36 + t) ||| (1 <<< (nI k &&& 31)))) (eq : q' = upd q (5 * t + k) (nI x)) : LQ n m b c ρ v' z' q' := by
  obtain ⟨hR, h2, hI, h48, hB, hZ, hr, hr4, hV, hF, hN, h0⟩ := h
  have hn := hR.1
  have o5 : ∀ j, j ≠ t → v' 5 j = v 5 j := fun j hj => by rw [e5, pk_un hj]
  have uz : ∀ x, x ≠ 36 + t → z' x = z x := fun x hx => by rw [ez, pk_un hx]
  have e0 := e 0 (by decide) (by decide)
  have e1 := e 1 (by decide) (by decide)
  have e2 := e 2 (by decide) (by decide)
  have e3 := e 3 (by decide) (by decide)
  have e4 := e 4 (by decide) (by decide)
  have e6 := e 6 (by decide) (by decide)
  obtain ⟨a, ha, ea⟩ := hI.wr ht
  have ck : CK n n b b c c v v' := fun x hx h1 => by
    rw [e1] at h1
    have hne : x ≠ t := fun y => by rw [y, ht0] at h1; exact absurd h1 (by decide)
    exact ⟨hx, h1, by rw [e2], by rw [e3], by rw [e4], o5 x hne, rfl, rfl⟩
  refine ⟨hR.row (t := t) (uz 49 (by omega)) (fun j hj hne => ⟨uz _ (by omega), uz _ (by omega), uz _ (by omega), uz _ (by omega)⟩) (fun j hj hne => ⟨by rw [e1], by rw [e2], by rw [e3], by rw [e4], o5 j hne⟩) ?_, by rw [e0]; exact h2, ?_, (uz 48 (by omega)).trans h48, ?_, ?_, by rw [e0]; exact hr, hr4, ?_, ck.F hF, ck.I hN, fun t' h3 h4 => ?_⟩
  · obtain ⟨a1, a2, a3, a4⟩ := hR.2.2 t ht
    rw [uz t (by omega), uz (24 + t) (by omega), uz (12 + t) (by omega), e1, e2, e3, e4, ez, pk_us, e5, pk_us, a3]
    exact ⟨a1, a2, rfl, a4⟩
  · unfold RI at hI ⊢
    rw [e0, e1, e2, e3, e4]
    refine ⟨hI.1, hI.2.1, fun j hj => ?_, hI.2.2.2⟩
    obtain ⟨y1, y2, y3, y4, y5, y6, y7, y8⟩ := hI.2.2.1 j hj
    refine ⟨y1, y2, y3, y4, y5, y6, y7, ?_⟩
    by_cases q : j = t
    · subst q
      rw [e5, pk_us, ea]
      exact ⟨_, (or16 ha (show k < 16 by omega)).2, (or16 ha (show k < 16 by omega)).1⟩
    · rw [o5 j q]; exact y8
  · intro t' ht' u hu
    unfold BT
    rw [uz (50 + t') (by omega), e1]
    exact hB t' ht' u hu
  · intro t' ht'
    rw [e1, e6]; exact hZ t' ht'
  · intro t' k' ht' hk' hw
    by_cases q1 : t' = t
    · subst q1
      by_cases q2 : k' = k
      · subst q2
        rw [eq, e7, pk_us, pk_us]
      · rw [eq, e7, pk_un (by omega), pk_un (by omega)]
        refine hV t' k' ht' hk' ?_
        unfold WRk at hw ⊢
        rw [e5, pk_us, ea, or_bit ha (show k < 16 by omega) (show k' < 16 by omega) q2] at hw
        rw [ea]; exact hw
    · rw [eq, e7, pk_un (by omega), pk_un (by omega)]
      unfold WRk at hw
      rw [o5 t' q1] at hw
      exact hV t' k' ht' hk' hw
  · rw [uz _ (by omega), uz _ (by omega), uz _ (by omega)]; exact h0 t' h3 h4
theorem LQ.abort {x : Int32} (h : LQ n m b c ρ v z q) (ht : t < n) (ht0 : v 1 t = 0) (hx : x = 0 ∨ x = 1 ∨ x = 2) (e : ∀ x, x ≠ 1 → x ≠ 6 → v' x = v x) (e1 : v' 1 = upd (v 1) t 2) (e6 : v' 6 = upd (v 6) t x) (ez : z' = upd z (12 + t) (-1)) : LQ n m b c ρ v' z' q := by
  obtain ⟨hR, h2, hI, h48, hB, hZ, hr, hr4, hV, hF, hN, h0⟩ := h
  have hn := hR.1
  have o1 : ∀ j, j ≠ t → v' 1 j = v 1 j := fun j hj => by rw [e1, pk_un hj]
  have o6 : ∀ j, j ≠ t → v' 6 j = v 6 j := fun j hj => by rw [e6, pk_un hj]
  have t1 : v' 1 t = 2 := by rw [e1, pk_us]
  have uz : ∀ x, x ≠ 12 + t → z' x = z x := fun x hx => by rw [ez, pk_un hx]
  have e0 := e 0 (by decide) (by decide)
  have e2 := e 2 (by decide) (by decide)
  have e3 := e 3 (by decide) (by decide)
  have e4 := e 4 (by decide) (by decide)
  have e5 := e 5 (by decide) (by decide)
  have e7 := e 7 (by decide) (by decide)
  have c1 : ∀ j, v' 1 j = 1 → v 1 j = 1 := fun j y => by
    by_cases q : j = t
    · rw [q, t1] at y; exact absurd y (by decide)
    · rw [o1 j q] at y; exact y
  have ck : CK n n b b c c v v' := fun x hx h1 => ⟨hx, c1 x h1, by rw [e2], by rw [e3], by rw [e4], by rw [e5], rfl, rfl⟩
  refine ⟨hR.row (t := t) (uz 49 (by omega)) (fun j hj hne => ⟨uz _ (by omega), uz _ (by omega), uz _ (by omega), uz _ (by omega)⟩) (fun j hj hne => ⟨o1 j hne, by rw [e2], by rw [e3], by rw [e4], by rw [e5]⟩) ?_, by rw [e0]; exact h2, ?_, (uz 48 (by omega)).trans h48, ?_, ?_, by rw [e0]; exact hr, hr4, ?_, ck.F hF, ck.I hN, fun t' h3 h4 => ?_⟩
  · obtain ⟨a1, a2, a3, a4⟩ := hR.2.2 t ht
    rw [uz t (by omega), uz (24 + t) (by omega), uz (36 + t) (by omega), e2, e4, e5]
    exact ⟨a1, a2, a3, Or.inr (Or.inr ⟨t1, by rw [ez, pk_us]⟩)⟩
  · refine ⟨by rw [e0]; exact hI.1, hI.2.1, fun j hj => ?_, hI.2.2.2.1, ?_, ?_⟩
    · obtain ⟨y1, y2, y3, y4, y5, y6, y7, y8⟩ := hI.2.2.1 j hj
      rw [e2, e3, e4, e5]
      by_cases q : j = t
      · subst q
        rw [t1]
        exact ⟨Or.inr (Or.inr rfl), y2, y3, y4, fun y => absurd y (by decide), fun _ => y6 (by rw [ht0]; decide), y7, y8⟩
      · rw [o1 j q]; exact ⟨y1, y2, y3, y4, y5, y6, y7, y8⟩
    · intro j l hj hl y1 y2
      exact hI.2.2.2.2.1 j l hj hl (c1 j y1) (c1 l y2)
    · intro j l hj hl y1
      exact hI.2.2.2.2.2 j l hj hl (c1 j y1)
  · intro t' ht' u hu
    unfold BT
    rw [uz (50 + t') (by omega)]
    refine ⟨(hB t' ht' u hu).1, fun hl => ?_⟩
    by_cases q : u = t
    · rw [q, t1]; exact ⟨fun y => absurd y (by decide), fun y => absurd y (by decide)⟩
    · rw [o1 u q]; exact (hB t' ht' u hu).2 hl
  · intro t' ht'
    by_cases q : t' = t
    · rw [q, t1, e6, pk_us]
      exact ⟨fun _ => hx, fun y => absurd rfl y⟩
    · rw [o1 t' q, o6 t' q]; exact hZ t' ht'
  · intro t' k' ht' hk' hw
    unfold WRk at hw
    rw [e5] at hw
    rw [e7]
    exact hV t' k' ht' hk' hw
  · rw [uz _ (by omega), uz _ (by omega), uz _ (by omega)]; exact h0 t' h3 h4
theorem LQ.commit (h : LQ n m b c ρ v z q) (hm : m + 1 < 2 ^ 30) (ht : t < n) (ht0 : v 1 t = 0) (hRS : RS v n m b c ρ t 0) (e00 : v' 0 0 = v 0 0) (e01 : v' 0 1 = v 0 1 + 1) (e02 : v' 0 2 = v 0 2) (e : ∀ x, x ≠ 0 → x ≠ 1 → x ≠ 3 → v' x = v x) (e1 : v' 1 = upd (v 1) t 1) (e3 : v' 3 = upd (v 3) t (v 0 1 + 1)) (ez : z' = upd (upd z 48 (z 48 + 1)) (12 + t) (z 48 + 1)) : LQ n (m + 1) b (cC c t m) ρ v' z' q := by
  obtain ⟨hR, h2, hI, h48, hB, hZ, hr, hr4, hV, hF, hN, h0⟩ := h
  have hn := hR.1
  have o1 : ∀ j, j ≠ t → v' 1 j = v 1 j := fun j hj => by rw [e1, pk_un hj]
  have o3 : ∀ j, j ≠ t → v' 3 j = v 3 j := fun j hj => by rw [e3, pk_un hj]
  have t1 : v' 1 t = 1 := by rw [e1, pk_us]
  have t3 : v' 3 t = nI (m + 1) := by rw [e3, pk_us, hI.1, nI_1]
  have uz : ∀ x, x ≠ 12 + t → x ≠ 48 → z' x = z x := fun x hx h9 => by rw [ez, pk_un hx, pk_un h9]
  have e2 := e 2 (by decide) (by decide) (by decide)
  have e4 := e 4 (by decide) (by decide) (by decide)
  have e5 := e 5 (by decide) (by decide) (by decide)
  have e6 := e 6 (by decide) (by decide) (by decide)
  have e7 := e 7 (by decide) (by decide) (by decide)
  have ct : ∀ j, j ≠ t → cC c t m j = c j := fun j q => if_neg q
  have cs : cC c t m t = m + 1 := if_pos rfl
  have hI' : RI n (m + 1) b (cC c t m) v' := by
    refine ⟨by rw [e01, hI.1, nI_1], hm, fun j hj => ?_, hI.2.2.2.1, ?_, ?_⟩
    · obtain ⟨y1, y2, y3, y4, y5, y6, y7, y8⟩ := hI.2.2.1 j hj
      rw [e2, e4, e5]
      by_cases q : j = t
      · subst q
        rw [t1, t3, cs]
        exact ⟨Or.inr (Or.inl rfl), y2, y3, by omega, fun _ => ⟨rfl, by omega, by omega⟩, fun y => absurd rfl y, y7, y8⟩
      · rw [o1 j q, o3 j q, ct j q]
        exact ⟨y1, y2, y3, by omega, fun y => ⟨(y5 y).1, (y5 y).2.1, by have := (y5 y).2.2; omega⟩, y6, y7, y8⟩
    · intro j l hj hl y1 y2 hne
      by_cases q : j = t
      · have q2 : l ≠ t := fun y => hne (by rw [q, y])
        rw [q, cs, ct l q2]
        rw [o1 l q2] at y2
        have := (hI.cm hl y2).2.2
        omega
      · rw [ct j q]
        rw [o1 j q] at y1
        by_cases q2 : l = t
        · rw [q2, cs]
          have := (hI.cm hj y1).2.2
          omega
        · rw [ct l q2]
          rw [o1 l q2] at y2
          exact hI.2.2.2.2.1 j l hj hl y1 y2 hne
    · intro j l hj hl y1
      by_cases q : j = t
      · rw [q, cs]
        have := (hI.bg hl).2.2
        omega
      · rw [ct j q]
        rw [o1 j q] at y1
        exact hI.2.2.2.2.2 j l hj hl y1
  -- committed ones of v' are those of vC v t
  have hvc : ∀ x, x < n → v' 1 x = 1 → vC v t 1 x = 1 := fun x hx h1 => by
    rw [vC1]
    by_cases q : x = t
    · rw [if_pos q]
    · rw [if_neg q, ← o1 x q]; exact h1
  have hEE : ∀ x y, x < n → y < n → (EE v' x y ↔ EE v x y) := fun x y hx hy => by
    rw [← vC_EE hI ht0 hx hy]
    have r1 : ∀ x, v' 1 x = vC v t 1 x := fun x => by
      rw [vC1]
      by_cases q : x = t
      · rw [if_pos q, q, t1]
      · rw [if_neg q, o1 x q]
    have r3 : ∀ x, v' 3 x = vC v t 3 x := fun x => by
      rw [vC3]
      by_cases q : x = t
      · rw [if_pos q, q, e3, pk_us]
      · rw [if_neg q, o3 x q]
    exact EE_cg ⟨r1 x, by rw [e2]; rfl, r3 x, by rw [e4]; rfl⟩ ⟨r1 y, by rw [e2]; rfl, r3 y, by rw [e5]; rfl⟩
  have hLW : ¬ LW v n t := hRS.elim (fun y => absurd y.1 (by decide)) (fun y => y.1)
  have hGT : ∀ a p o, a < n → p < n → o < n → ¬ GT v m b c ρ t a p o := hRS.elim (fun y => absurd y.1 (by decide)) (fun y => y.2.elim (fun y => absurd y.1 (by decide)) (fun y => y.2))
  refine ⟨hR.row (t := t) (uz 49 (by omega) (by omega)) (fun j hj hne => ⟨uz _ (by omega) (by omega), uz _ (by omega) (by omega), uz _ (by omega) (by omega), uz _ (by omega) (by omega)⟩) (fun j hj hne => ⟨o1 j hne, by rw [e2], o3 j hne, by rw [e4], by rw [e5]⟩) ?_, by rw [e02]; exact h2, hI', ?_, ?_, ?_, by rw [e00]; exact hr, hr4, ?_, ?_, ?_, fun t' h3 h4 => ?_⟩
  · obtain ⟨a1, a2, a3, a4⟩ := hR.2.2 t ht
    rw [uz t (by omega) (by omega), uz (24 + t) (by omega) (by omega), uz (36 + t) (by omega) (by omega), e2, e4, e5]
    refine ⟨a1, a2, a3, Or.inr (Or.inl ⟨t1, ?_, ?_⟩)⟩
    · rw [t3, ez, pk_us, h48, nI_1]
    · rw [t3, show (0 : Int32) = nI 0 from rfl]; exact nI_ge (by omega) (by omega)
  · rw [ez, pk_un (by omega), pk_us, h48, nI_1]
  · intro t' ht' u hu
    unfold BT
    rw [uz (50 + t') (by omega) (by omega)]
    refine ⟨(hB t' ht' u hu).1, fun hl => ?_⟩
    by_cases q : u = t
    · rw [q, t1, cs]
      refine ⟨fun y => absurd y (by decide), fun _ => ?_⟩
      rw [q] at hl
      have y := ((hB t' ht' t (by omega)).2 hl).1 ht0
      have := (hI.bg ht').2.2
      exact ⟨fun _ => by omega, fun _ => y⟩
    · rw [o1 u q, ct u q]; exact (hB t' ht' u hu).2 hl
  · intro t' ht'
    rw [e6]
    by_cases q : t' = t
    · rw [q, t1]
      exact ⟨fun y => absurd y (by decide), fun _ => (hZ t ht).2 (by rw [ht0]; decide)⟩
    · rw [o1 t' q]; exact hZ t' ht'
  · intro t' k' ht' hk' hw
    unfold WRk at hw
    rw [e5] at hw
    rw [e7]
    exact hV t' k' ht' hk' hw
  · intro x u hx hu h1 h3 hne l1 l2 k hkk hw
    unfold WRk at hw
    rw [e5] at hw
    by_cases qx : x = t
    · have qu : u ≠ t := fun y => hne (by rw [qx, y])
      rw [o1 u qu] at h3
      rw [qx] at l1
      rw [ct u qu] at l1
      obtain ⟨f1, f2, f3⟩ := hI.cm hu h3
      obtain ⟨g1, g2, g3⟩ := hI.bg ht
      refine hLW ⟨u, hu, h3, ?_, ?_⟩
      · rw [f1, g1]; exact nI_ge l1 (by omega)
      · obtain ⟨xa, xa1, xa2⟩ := hI.wr hu
        obtain ⟨ya, ya1, ya2⟩ := hI.wr ht
        rw [qx] at hw
        rw [xa2, ya2] at hw ⊢
        rw [kand_bits xa1]
        intro hall
        rw [kct0 (by omega) (by omega), kct0 (by omega) (by omega)] at hw
        exact hall k hkk ⟨by simpa using hw.2, by simpa using hw.1⟩
    · rw [o1 x qx] at h1
      rw [ct x qx] at l2
      by_cases qu : u = t
      · rw [qu, cs] at l2
        have := (hI.cm hx h1).2.2
        omega
      · rw [o1 u qu] at h3
        rw [ct u qu] at l1 l2
        exact hF x u hx hu h1 h3 hne l1 l2 k hkk hw
  · intro a p o ha hp ho h1 h3 h5 d1 d2 hc
    rw [hEE a p ha hp] at d1
    rw [hEE p o hp ho] at d2
    have hc' : CTn v b (cC c t m) ρ a p o := by
      unfold CTn at hc ⊢
      rw [e5] at hc
      exact hc
    by_cases q : a = t ∨ p = t ∨ o = t
    · exact hGT a p o ha hp ho ⟨hvc a ha h1, hvc p hp h3, hvc o ho h5, q, d1, d2, hc'⟩
    · have qa : a ≠ t := fun y => q (Or.inl y)
      have qp : p ≠ t := fun y => q (Or.inr (Or.inl y))
      have qo : o ≠ t := fun y => q (Or.inr (Or.inr y))
      rw [o1 a qa] at h1
      rw [o1 p qp] at h3
      rw [o1 o qo] at h5
      refine hN a p o ha hp ho h1 h3 h5 d1 d2 ?_
      unfold CTn at hc' ⊢
      rw [ct a qa, ct p qp, ct o qo] at hc'
      exact hc'
  · rw [uz _ (by omega) (by omega), uz _ (by omega) (by omega), uz _ (by omega) (by omega)]; exact h0 t' h3 h4
theorem LQ.begin (h : LQ n m b c ρ v z q) (hm : m + 1 < 2 ^ 30) (hn : n < 12) (e00 : v' 0 0 = v 0 0) (e01 : v' 0 1 = v 0 1 + 1) (e02 : v' 0 2 = v 0 2 + 1) (e1 : v' 1 = upd (v 1) n 0) (e2 : v' 2 = upd (v 2) n (v 0 1 + 1)) (e3 : v' 3 = upd (v 3) n (-6)) (e4 : v' 4 = upd (v 4) n 0) (e5 : v' 5 = upd (v 5) n 0) (e6 : v' 6 = upd (v 6) n (-6)) (e7 : v' 7 = v 7) (ez : z' = upd (upd (upd (upd z 48 (nI (m + 1))) (50 + n) (nI (kst (fun u => decide (v 1 u = 0)) n))) n (nI (m + 1))) 49 (nI (n + 1))) : LQ (n + 1) (m + 1) (upd' b n (m + 1)) c ρ v' z' q := by
  obtain ⟨hR, h2, hI, h48, hB, hZ, hr, hr4, hV, hF, hN, h0⟩ := h
  have o1 : ∀ j, j ≠ n → v' 1 j = v 1 j := fun j hj => by rw [e1, pk_un hj]
  have o2 : ∀ j, j ≠ n → v' 2 j = v 2 j := fun j hj => by rw [e2, pk_un hj]
  have o3 : ∀ j, j ≠ n → v' 3 j = v 3 j := fun j hj => by rw [e3, pk_un hj]
  have o4 : ∀ j, j ≠ n → v' 4 j = v 4 j := fun j hj => by rw [e4, pk_un hj]
  have o5 : ∀ j, j ≠ n → v' 5 j = v 5 j := fun j hj => by rw [e5, pk_un hj]
  have o6 : ∀ j, j ≠ n → v' 6 j = v 6 j := fun j hj => by rw [e6, pk_un hj]
  have vm : v 0 1 + 1 = nI (m + 1) := by rw [hI.1, nI_1]
  have uz : ∀ x, x ≠ 48 → x ≠ 49 → x ≠ n → x ≠ 50 + n → z' x = z x := fun x x1 x2 x3 x4 => by rw [ez, pk_un x2, pk_un x3, pk_un x4, pk_un x1]
  have bo : ∀ j, j ≠ n → upd' b n (m + 1) j = b j := fun j hj => if_neg hj
  have bs : upd' b n (m + 1) n = m + 1 := if_pos rfl
  have n1 : ∀ j, v' 1 j = 1 → j < n + 1 → j ≠ n ∧ j < n ∧ v 1 j = 1 := fun j y hj => by
    by_cases q : j = n
    · rw [q, e1, pk_us] at y; exact absurd y (by decide)
    · rw [o1 j q] at y; exact ⟨q, by omega, y⟩
  have ck : CK n (n + 1) b (upd' b n (m + 1)) c c v v' := fun x hx h1 => by
    obtain ⟨y1, y2, y3⟩ := n1 x h1 hx
    exact ⟨y2, y3, o2 x y1, o3 x y1, o4 x y1, o5 x y1, bo x y1, rfl⟩
  obtain ⟨w1, w2, w3⟩ := h0 n (Nat.le_refl _) hn
  refine ⟨⟨by omega, by rw [ez, pk_us], fun j hj => ?_⟩, by rw [e02, h2, nI_1], ⟨by rw [e01, vm], hm, fun j hj => ?_, ?_, ?_, ?_⟩, ?_, ?_, ?_, by rw [e00]; exact hr, hr4, ?_, ck.F hF, ck.I hN, fun t' h3 h4 => ?_⟩
  · by_cases q : j = n
    · rw [q, uz (24 + n) (by omega) (by omega) (by omega) (by omega), uz (36 + n) (by omega) (by omega) (by omega) (by omega), uz (12 + n) (by omega) (by omega) (by omega) (by omega), w1, w2, w3, e1, e2, e4, e5, pk_us, pk_us, pk_us, pk_us, vm, ez, pk_un (show n ≠ 49 by omega), pk_us]
      exact ⟨rfl, rfl, rfl, Or.inl ⟨rfl, rfl⟩⟩
    · rw [uz j (by omega) (by omega) (by omega) (by omega), uz (24 + j) (by omega) (by omega) (by omega) (by omega), uz (36 + j) (by omega) (by omega) (by omega) (by omega), uz (12 + j) (by omega) (by omega) (by omega) (by omega), o1 j q, o2 j q, o3 j q, o4 j q, o5 j q]
      exact hR.2.2 j (by omega)
  · by_cases q : j = n
    · rw [q, e1, e2, e3, e4, e5, pk_us, pk_us, pk_us, pk_us, pk_us, vm, bs]
      exact ⟨Or.inl rfl, rfl, by omega, by omega, fun y => absurd y (by decide), fun _ => rfl, ⟨0, by decide, rfl⟩, ⟨0, by decide, rfl⟩⟩
    · obtain ⟨y1, y2, y3, y4, y5, y6, y7, y8⟩ := hI.2.2.1 j (by omega)
      rw [o1 j q, o2 j q, o3 j q, o4 j q, o5 j q, bo j q]
      exact ⟨y1, y2, y3, by omega, fun y => ⟨(y5 y).1, (y5 y).2.1, by have := (y5 y).2.2; omega⟩, y6, y7, y8⟩
  · intro x y hxy hy
    rw [bo x (by omega)]
    by_cases q : y = n
    · rw [q, bs]
      have := (hI.bg (show x < n by omega)).2.2
      omega
    · rw [bo y q]; exact hI.2.2.2.1 x y hxy (by omega)
  · intro x y hx hy y1 y2 hne
    obtain ⟨a1, a2, a3⟩ := n1 x y1 hx
    obtain ⟨d1, d2, d3⟩ := n1 y y2 hy
    exact hI.2.2.2.2.1 x y a2 d2 a3 d3 hne
  · intro x y hx hy y1
    obtain ⟨a1, a2, a3⟩ := n1 x y1 hx
    by_cases q : y = n
    · rw [q, bs]
      have := (hI.cm a2 a3).2.2
      omega
    · rw [bo y q]; exact hI.2.2.2.2.2 x y a2 (by omega) a3
  · rw [ez, pk_un (show 48 ≠ 49 by omega), pk_un (show 48 ≠ n by omega), pk_un (show 48 ≠ 50 + n by omega), pk_us]
  · intro t' ht' u hu
    by_cases q : t' = n
    · have hb : BT z' t' u ↔ u < n ∧ v 1 u = 0 := by
        unfold BT
        rw [q, ez, pk_un (by omega), pk_un (by omega), pk_us, bit_kct (kst_lt12 _ (by omega)) (by omega), kst_bit]
        simp
      rw [hb, q]
      refine ⟨fun y => y.1, fun hl => ?_⟩
      rw [o1 u (by omega), bs]
      refine ⟨fun y => ⟨hl, y⟩, fun y => ⟨fun y2 => ?_, fun y2 => ?_⟩⟩
      · rw [y] at y2; exact absurd y2.2 (by decide)
      · have := (hI.cm hl y).2.2; omega
    · have hb : BT z' t' u ↔ BT z t' u := by
        unfold BT
        rw [uz (50 + t') (by omega) (by omega) (by omega) (by omega)]
      rw [hb, bo t' q]
      have h9 := hB t' (by omega) u hu
      refine ⟨h9.1, fun hl => ?_⟩
      rw [o1 u (by omega)]
      exact h9.2 hl
  · intro t' ht'
    by_cases q : t' = n
    · rw [q, e1, e6, pk_us, pk_us]
      exact ⟨fun y => absurd y (by decide), fun _ => rfl⟩
    · rw [o1 t' q, o6 t' q]; exact hZ t' (by omega)
  · intro t' k' ht' hk' hw
    unfold WRk at hw
    rw [e7]
    by_cases q : t' = n
    · have h00 : mX5_contains 0 (nI k') = 0 := (show mX5_contains (nI 0) (nI k') = 0 by rw [kct0 (by omega) (by omega)]; simp)
      rw [q, e5, pk_us] at hw
      exact absurd h00 hw
    · rw [o5 t' q] at hw
      exact hV t' k' (by omega) hk' hw
  · rw [uz _ (by omega) (by omega) (by omega) (by omega), uz _ (by omega) (by omega) (by omega) (by omega), uz _ (by omega) (by omega) (by omega) (by omega)]; exact h0 t' (by omega) h4
end OPS
