/-! the changes of a ledger, and the reference's -/
theorem lim_eq {x : Int32} {a : Nat} (ha : a < 1000000) : (if x < 0 then (0 : Int32) else if nI (a + 1) ≤ x then 0 else 1) = mX6_in x 0 (nI a) := by
  unfold mX6_in
  by_cases c : x < 0
  · rw [if_pos c, if_pos c]
  · rw [if_neg c, if_neg c]
    obtain ⟨j, hj, rfl⟩ := nI_of c
    by_cases c2 : a < j
    · rw [if_pos (nI_le (by omega) hj), if_pos (nI_lt c2 hj)]
    · rw [if_neg (nI_ge (by omega) (by omega)), if_neg (nI_nlt (by omega) (by omega))]
theorem upd_self {f : Nat → Int32} {i : Nat} : upd f i (f i) = f := by
  funext q
  by_cases z : q = i
  · rw [z, pk_us]
  · rw [pk_un z]
theorem key_eq (x : Int32) : mX5_isKey x = mX6_isKey x := lim_eq (a := 15) (by omega)
theorem rule_eq (x : Int32) : mX5_isRule x = mX6_in x 0 3 := lim_eq (a := 3) (by omega)
theorem slot_eq (x : Int32) : mX5_isSlot x = mX6_in x 0 1 := lim_eq (a := 1) (by omega)
section A
variable {n m B : Nat} {b c : Nat → Nat} {v v' u w : kG} {x y : Int32}
theorem RV.nn (h : RV B v (u 1)) : nOK (v 0 2) ∧ nOK (u 1 2) := by
  obtain ⟨n, m, b, c, _, hE, _⟩ := h
  exact ⟨⟨n, hE.1, hE.2.1⟩, ⟨n, hE.1, hE.2.2.1⟩⟩
theorem RE.ex (h : RE n v (u 1)) : mX2_exists v x = mX6_isTransaction u x := by
  unfold mX2_exists mX6_isTransaction
  rw [h.2.1, h.2.2.1]
theorem RE.tr (h : RE n v (u 1)) (hx : ¬ mX2_exists v x = 0) : ∃ t, t < n ∧ x = nI t := by
  unfold mX2_exists at hx
  rw [h.2.1] at hx
  have hn := h.1
  by_cases c : x < 0
  · rw [if_pos c] at hx; exact absurd rfl hx
  · rw [if_neg c] at hx
    obtain ⟨j, hj, rfl⟩ := nI_of c
    by_cases c2 : n ≤ j
    · rw [if_pos (nI_le c2 hj)] at hx; exact absurd rfl hx
    · exact ⟨j, by omega, rfl⟩
theorem RE.exN (h : RE n v (u 1)) {j : Nat} (hj : j < n) : ¬ mX2_exists v (nI j) = 0 := by
  have hn := h.1
  unfold mX2_exists
  rw [h.2.1, if_neg (nI_pos (by omega)), if_neg (nI_ge hj (by omega))]
  decide
theorem keyN (hx : ¬ mX5_isKey x = 0) : ∃ k, k < 16 ∧ x = nI k := isKey_ok hx
theorem wA_cg (e0 : v' 0 2 = v 0 2) (e1 : v' 1 = v 1) (e3 : v' 3 = v 3) (e5 : v' 5 = v 5) : ∀ f a l i, mX2_writerAhead_L9 v' x y f a l i = mX2_writerAhead_L9 v x y f a l i := by
  intro f
  induction f with
  | zero => intro a l i; rfl
  | succ f ih =>
    intro a l i
    rw [mX2_writerAhead_L9_s, mX2_writerAhead_L9_s, e0, e1, e3, e5]
    simp only [ih]
/-- who is seen, and what -/
theorem seen_eq (h : RE n v (u 1)) (hi : RI n m b c v) {t : Nat} (ht : t < n) : mX2_seenWriter v (nI t) x = mX6_writerSeen u (nI t) x := by
  have hn := h.1
  unfold mX2_seenWriter mX6_writerSeen
  rw [nI_clamp (by omega), h.wrote ht, h.its1 ht, wAhead_eq h hi]
theorem seen_ok (h : RE n v (u 1)) (hi : RI n m b c v) {t : Nat} (ht : t < n) : mX2_seenWriter v (nI t) x = -6 ∨ ∃ j, j < n ∧ mX2_seenWriter v (nI t) x = nI j ∧ ¬ mX5_contains (v 5 j) x = 0 := by
  have hn := h.1
  unfold mX2_seenWriter
  rw [nI_clamp (by omega)]
  by_cases c1 : mX5_contains (v 5 t) x = 0
  · rw [if_pos c1]
    rcases wAhead_spec hn h.2.1 (fun t ht h1 => hi.pos ht h1) x (v 2 t) with ⟨z, _⟩ | ⟨j, hj, z, z2, _⟩
    · exact Or.inl z
    · exact Or.inr ⟨j, hj, z, z2.2.1⟩
  · rw [if_neg c1]; exact Or.inr ⟨t, ht, rfl, c1⟩
theorem val_eq (h : RE n v (u 1)) (hW : RW n v (u 1)) {k : Nat} (hk : k < 16) {s : Int32} (hs : s = -6 ∨ ∃ j, j < n ∧ s = nI j ∧ ¬ mX5_contains (v 5 j) (nI k) = 0) : mX2_valueOfVersion v s (nI k) = (if s = -6 then 0 else mX6_its u s (7 + nI k)) ∧ ∃ a, a < 1000 ∧ mX2_valueOfVersion v s (nI k) = nI a := by
  have hn := h.1
  unfold mX2_valueOfVersion
  rcases hs with rfl | ⟨j, hj, rfl, hc⟩
  · rw [if_pos (c := mX2_exists v (-6) = 0) rfl, if_pos rfl]; exact ⟨rfl, 0, by omega, rfl⟩
  · rw [if_neg (h.exN hj), if_neg (nI_ne6 (by omega))]
    obtain ⟨w1, a, w2, w3⟩ := hW j k hj hk hc
    have e : ((nI j * 16) + nI k).toNatClampNeg = 16 * j + k := by
      rw [show (16 : Int32) = nI 16 from rfl, pk_mul, nI_add, nI_clamp (by omega)]; omega
    have e2 : mX6_its u (nI j) (7 + nI k) = u 1 (3 + 23 * j + (7 + k)) := by
      rw [show (7 : Int32) = nI 7 from rfl, nI_add]; exact its_at (by omega) (by omega)
    rw [e, e2, w1]
    exact ⟨rfl, a, w2, w3⟩
/-- a read -/
theorem L_read (h : RV B v (u 1)) : (mX6_whyNotRead u x y < 0 ∧ mX2_look v x y = (mX6_whyNotRead u x y, v 4)) ∨ (¬ mX6_whyNotRead u x y < 0 ∧ ¬ (mX2_look v x y).1 < 0 ∧ (mX2_look v x y).1 = (mX6_readOne u x y).1 ∧ RV B (rset v 4 (mX2_look v x y).2) (mX6_readOne u x y).2) := by
  obtain ⟨n, m, b, c, hB, hQ⟩ := h
  obtain ⟨hE, hI, hW, hR, a1, a2, a3⟩ := hQ
  have hQ : RQ n m b c v (u 1) := ⟨hE, hI, hW, hR, a1, a2, a3⟩
  have hn := hE.1
  unfold mX6_whyNotRead mX2_look
  rw [← hE.ex, ← key_eq]
  by_cases c1 : mX2_exists v x = 0
  · rw [if_pos c1, if_pos c1]; exact Or.inl ⟨by decide, rfl⟩
  · rw [if_neg c1, if_neg c1]
    obtain ⟨t, ht, rfl⟩ := hE.tr c1
    by_cases c2 : mX5_isKey y = 0
    · rw [if_pos c2, if_pos c2]; exact Or.inl ⟨by decide, rfl⟩
    · rw [if_neg c2, if_neg c2, nI_clamp (by omega)]
      obtain ⟨k, hk, rfl⟩ := keyN c2
      by_cases c3 : v 1 t = 0
      · rw [if_pos c3, if_neg (kF (hE.in0 ht) c3)]
        refine Or.inr ⟨by decide, ?_⟩
        have hs := seen_eq (x := nI k) hE hI ht
        have hs2 := seen_ok (x := nI k) hE hI ht
        have hcell : ∀ (z : Nat → Int32) (s : Int32), mX6_its (rset u 1 (upd (u 1) (3 + 23 * t + 3) s)) (mX2_seenWriter v (nI t) (nI k)) (7 + nI k) = if mX2_seenWriter v (nI t) (nI k) = -6 then mX6_its (rset u 1 (upd (u 1) (3 + 23 * t + 3) s)) (mX2_seenWriter v (nI t) (nI k)) (7 + nI k) else mX6_its u (mX2_seenWriter v (nI t) (nI k)) (7 + nI k) := by
          intro z s
          rcases hs2 with e | ⟨j, hj, e, _⟩
          · rw [e, if_pos rfl]
          · rw [e, if_neg (nI_ne6 (by omega)), show (7 : Int32) = nI 7 from rfl, nI_add, its_at (by omega) (by omega), its_at (by omega) (by omega), rset_eq, pk_un (by omega)]
        have hv := val_eq hE hW hk hs2
        obtain ⟨a, ha, ea⟩ := hv.2
        unfold mX6_readOne
        rw [hE.wrote ht, ← hs]
        by_cases c4 : mX5_contains (v 5 t) (nI k) = 0
        · rw [if_pos c4, if_pos c4, hE.its3 ht, lay3 (by omega)]
          dsimp only
          have e1 : mX2_seenWriter (rset v 4 (upd (v 4) t ((v 4 t) ||| (1 <<< (nI k &&& 31))))) (nI t) (nI k) = mX2_seenWriter v (nI t) (nI k) := by
            unfold mX2_seenWriter
            have : ∀ p q, mX2_writerAhead (rset v 4 (upd (v 4) t ((v 4 t) ||| (1 <<< (nI k &&& 31))))) p q = mX2_writerAhead v p q := fun p q => wA_cg rfl rfl rfl rfl 13 (-6) 0 0
            rw [this]; rfl
          have e2 : ∀ s, mX2_valueOfVersion (rset v 4 (upd (v 4) t ((v 4 t) ||| (1 <<< (nI k &&& 31))))) s (nI k) = mX2_valueOfVersion v s (nI k) := fun s => rfl
          rw [e1, e2]
          have hz : RV B (rset v 4 (upd (v 4) t ((v 4 t) ||| (1 <<< (nI k &&& 31))))) (upd (u 1) (3 + 23 * t + 3) ((v 4 t) ||| (1 <<< (nI k &&& 31)))) := ⟨n, m, b, c, hB, hQ.read ht hk rfl rfl rfl rfl rfl rfl rfl rfl rfl⟩
          rw [hv.1]
          rw [hv.1] at ea
          by_cases c5 : mX2_seenWriter v (nI t) (nI k) = -6
          · rw [if_pos c5, if_pos c5]
            exact ⟨by decide, rfl, hz⟩
          · rw [if_neg c5, if_neg c5]
            rw [if_neg c5] at ea
            rw [hcell (u 1), if_neg c5]
            exact ⟨by rw [ea]; exact nI_pos (by omega), rfl, hz⟩
        · rw [if_neg c4, if_neg c4]
          dsimp only
          rw [rset_same, hv.1]
          rw [hv.1] at ea
          have hz : RV B v (u 1) := ⟨n, m, b, c, hB, hQ⟩
          by_cases c5 : mX2_seenWriter v (nI t) (nI k) = -6
          · rw [if_pos c5, if_pos c5]
            exact ⟨by decide, rfl, hz⟩
          · rw [if_neg c5, if_neg c5]
            rw [if_neg c5] at ea
            exact ⟨by rw [ea]; exact nI_pos (by omega), rfl, hz⟩
      · rw [if_neg c3, if_pos (kT (hE.in0 ht) c3)]; exact Or.inl ⟨by decide, rfl⟩
/-- a write -/
theorem L_write {s : Int32} (h : RV B v (u 1)) : (mX6_whyNotWrite u x y s < 0 ∧ mX2_enter v x y s = (mX6_whyNotWrite u x y s, v 5, v 7)) ∨ (¬ mX6_whyNotWrite u x y s < 0 ∧ ¬ (mX2_enter v x y s).1 < 0 ∧ (mX2_enter v x y s).1 = (mX6_writeOne u x y s).1 ∧ RV B (rset (rset v 5 (mX2_enter v x y s).2.1) 7 (mX2_enter v x y s).2.2) (mX6_writeOne u x y s).2) := by
  obtain ⟨n, m, b, c, hB, hQ⟩ := h
  obtain ⟨hE, hI, hW, hR, a1, a2, a3⟩ := hQ
  have hQ : RQ n m b c v (u 1) := ⟨hE, hI, hW, hR, a1, a2, a3⟩
  have hn := hE.1
  unfold mX6_whyNotWrite mX2_enter
  rw [← hE.ex, ← key_eq]
  by_cases c1 : mX2_exists v x = 0
  · rw [if_pos c1, if_pos c1]; exact Or.inl ⟨by decide, rfl⟩
  · rw [if_neg c1, if_neg c1]
    obtain ⟨t, ht, rfl⟩ := hE.tr c1
    by_cases c2 : mX5_isKey y = 0
    · rw [if_pos c2, if_pos c2]; exact Or.inl ⟨by decide, rfl⟩
    · rw [if_neg c2, if_neg c2, nI_clamp (n := t) (by omega)]
      obtain ⟨k, hk, rfl⟩ := keyN c2
      unfold mX6_in
      by_cases c6 : s < 0
      · rw [if_pos c6, if_pos c6, if_pos rfl]; exact Or.inl ⟨by decide, rfl⟩
      · rw [if_neg c6, if_neg c6]
        obtain ⟨d, hd, rfl⟩ := nI_of c6
        by_cases c7 : d < 1000
        · rw [if_pos (c := nI d < 1000) (nI_lt (b := 1000) c7 (by omega)), if_neg (c := (999 : Int32) < nI d) (nI_nlt (b := d) (a := 999) (by omega) (by omega)), if_neg (c := (1 : Int32) = 0) (by decide)]
          by_cases c3 : v 1 t = 0
          · rw [if_pos c3, if_neg (kF (hE.in0 ht) c3)]
            refine Or.inr ⟨by decide, ?_⟩
            obtain ⟨a, ha, ea⟩ := hI.wr ht
            have e : ((nI t * 16) + nI k).toNatClampNeg = 16 * t + k := by
              rw [show (16 : Int32) = nI 16 from rfl, pk_mul, nI_add, nI_clamp (by omega)]; omega
            have hz : RV B (rset (rset v 5 (upd (v 5) t ((v 5 t) ||| (1 <<< (nI k &&& 31))))) 7 (upd (v 7) (16 * t + k) (nI d))) (upd (upd (u 1) (3 + 23 * t + 4) ((v 5 t) ||| (1 <<< (nI k &&& 31)))) (3 + 23 * t + (7 + k)) (nI d)) := ⟨n, m, b, c, hB, hQ.write ht hk c7 rfl rfl rfl rfl rfl rfl rfl rfl rfl⟩
            unfold mX6_writeOne
            rw [hE.its4 ht, lay4 (by omega)]
            dsimp only
            rw [layV (by omega) hk, rset_eq, e, pk_us]
            have e4 : mX6_its (rset u 1 (upd (upd (u 1) (3 + 23 * t + 4) ((v 5 t) ||| (1 <<< (nI k &&& 31)))) (3 + 23 * t + (7 + k)) (nI d))) (nI t) 4 = (v 5 t) ||| (1 <<< (nI k &&& 31)) := by
              refine (its_at (j := 4) (by omega) (by omega)).trans ?_
              rw [rset_eq, pk_un (by omega), pk_us]
            rw [e4]
            exact ⟨by rw [ea, (or16 ha hk).1]; exact nI_pos (by have := (or16 ha hk).2; omega), rfl, hz⟩
          · rw [if_neg c3, if_pos (kT (hE.in0 ht) c3)]; exact Or.inl ⟨by decide, rfl⟩
        · rw [if_neg (c := nI d < 1000) (nI_nlt (b := 1000) (a := d) (by omega) (by omega)) , if_pos (c := (999 : Int32) < nI d) (nI_lt (a := 999) (by omega) hd), if_pos rfl]; exact Or.inl ⟨by decide, rfl⟩
/-- an abort -/
theorem L_abort (h : RV B v (u 1)) : (mX6_whyNotEnd u x < 0 ∧ mX2_giveUp v x = (mX6_whyNotEnd u x, v 1, v 6)) ∨ (mX6_whyNotEnd u x = 0 ∧ ¬ (mX2_giveUp v x).1 < 0 ∧ (∀ w : kG, w 1 = mX6_abortOne u x 0 → (mX2_giveUp v x).1 = mX6_bits (mX6_setOf w 0)) ∧ RV B (rset (rset v 1 (mX2_giveUp v x).2.1) 6 (mX2_giveUp v x).2.2) (mX6_abortOne u x 0)) := by
  obtain ⟨n, m, b, c, hB, hQ⟩ := h
  obtain ⟨hE, hI, hW, hR, a1, a2, a3⟩ := hQ
  have hQ : RQ n m b c v (u 1) := ⟨hE, hI, hW, hR, a1, a2, a3⟩
  have hn := hE.1
  unfold mX6_whyNotEnd mX2_giveUp
  rw [← hE.ex]
  by_cases c1 : mX2_exists v x = 0
  · rw [if_pos c1, if_pos c1]; exact Or.inl ⟨by decide, rfl⟩
  · rw [if_neg c1, if_neg c1]
    obtain ⟨t, ht, rfl⟩ := hE.tr c1
    rw [nI_clamp (by omega)]
    by_cases c3 : v 1 t = 0
    · rw [if_pos c3, if_neg (kF (hE.in0 ht) c3)]
      refine Or.inr ⟨rfl, ?_⟩
      have hz : RQ n m b c (rset (rset v 1 (upd (v 1) t 2)) 6 (upd (v 6) t 0)) (upd (upd (u 1) (3 + 23 * t + 0) 2) (3 + 23 * t + 5) 0) := hQ.abort ht c3 rfl rfl rfl rfl rfl rfl rfl rfl rfl
      unfold mX6_abortOne
      rw [lay0 (by omega)]
      dsimp only
      rw [lay5 (by omega), rset_eq]
      refine ⟨?_, fun w hw => ?_, ⟨n, m, b, c, hB, hz⟩⟩
      · rw [inPhase_k (v := rset (rset v 1 (upd (v 1) t 2)) 6 (upd (v 6) t 0)) hn hE.2.1 0, kbc _ (kst_lt12 _ hn)]
        exact nI_pos (by have := kpop_le 12 (kst (fun j => decide ((rset (rset v 1 (upd (v 1) t 2)) 6 (upd (v 6) t 0)) 1 j = 0)) n); omega)
      · exact RE.bSet (u := w) (by rw [hw]; exact hz.1) 0
    · rw [if_neg c3, if_pos (kT (hE.in0 ht) c3)]; exact Or.inl ⟨by decide, rfl⟩
/-- a commit -/
theorem L_commit (h : RV B v (u 1)) (hB1 : B + 1 < 2 ^ 30) : (mX6_whyNotEnd u x < 0 ∧ mX2_finish v x = (mX6_whyNotEnd u x, v 0 1, v 1, v 3, v 6)) ∨ (¬ mX6_whyNotEnd u x < 0 ∧ ¬ (mX2_finish v x).1 < 0 ∧ (mX2_finish v x).1 = (mX6_commitOne u x).1 ∧ RV (B + 1) (rset (rset (rset (rset v 1 (mX2_finish v x).2.2.1) 3 (mX2_finish v x).2.2.2.1) 6 (mX2_finish v x).2.2.2.2) 0 (upd (v 0) 1 (mX2_finish v x).2.1)) (mX6_commitOne u x).2.2.2.2) := by
  obtain ⟨n, m, b, c, hB, hQ⟩ := h
  obtain ⟨hE, hI, hW, hR, a1, a2, a3⟩ := hQ
  have hQ : RQ n m b c v (u 1) := ⟨hE, hI, hW, hR, a1, a2, a3⟩
  have hn := hE.1
  unfold mX6_whyNotEnd mX2_finish
  rw [← hE.ex]
  by_cases c1 : mX2_exists v x = 0
  · rw [if_pos c1, if_pos c1]; exact Or.inl ⟨by decide, rfl⟩
  · rw [if_neg c1, if_neg c1]
    obtain ⟨t, ht, rfl⟩ := hE.tr c1
    rw [nI_clamp (by omega)]
    by_cases c3 : v 1 t = 0
    · rw [if_pos c3, if_neg (kF (hE.in0 ht) c3)]
      refine Or.inr ⟨by decide, ?_⟩
      obtain ⟨q1, q2, q3, _⟩ := reason_eq hE hI a2 ht c3 (v 0 0)
      unfold mX6_commitOne
      rw [a1]
      obtain ⟨G, eG⟩ : ∃ G, G = mX6_reasonFor u (nI t) (v 0 0) := ⟨_, rfl⟩
      rw [← eG] at q1 q2 ⊢
      dsimp only
      rw [q1, q2]
      by_cases c4 : mX0_refusal v (nI t) (v 0 0) = 0
      · rw [if_pos c4, c4, if_pos (c := (0 : Int32) ≤ 0) (by decide)]
        rw [lay0 (by omega)]
        dsimp only
        rw [lay2 (by omega), rset_ne (k := 1) (by decide), rset_eq, rset_ne (k := 1) (by decide), rset_eq]
        have e : upd (upd (u 1) 1 (u 1 1 + 1)) (3 + 23 * t + 0) 1 1 = u 1 1 + 1 := by rw [pk_un (by omega), pk_us]
        rw [e]
        have hz : RQ n (m + 1) b (fun j => if j = t then m + 1 else c j) (rset (rset (rset (rset v 1 (upd (v 1) t 1)) 3 (upd (v 3) t (v 0 1 + 1))) 6 (v 6)) 0 (upd (v 0) 1 (v 0 1 + 1))) (upd (upd (upd (u 1) 1 (u 1 1 + 1)) (3 + 23 * t + 0) 1) (3 + 23 * t + 2) (u 1 1 + 1)) := hQ.commit (by omega) ht c3 rfl rfl rfl rfl rfl rfl rfl rfl rfl rfl rfl
        exact ⟨by decide, rfl, ⟨n, m + 1, b, _, by omega, hz⟩⟩
      · have hr : ¬ mX0_refusal v (nI t) (v 0 0) ≤ 0 ∧ ¬ mX0_refusal v (nI t) (v 0 0) < 0 := by
          rcases q3 with z | z | z
          · exact absurd z c4
          · rw [z]; exact ⟨by decide, by decide⟩
          · rw [z]; exact ⟨by decide, by decide⟩
        rw [if_neg c4, if_neg hr.1]
        have hz : RQ n m b c (rset (rset (rset (rset v 1 (upd (v 1) t 2)) 3 (v 3)) 6 (upd (v 6) t (mX0_refusal v (nI t) (v 0 0)))) 0 (upd (v 0) 1 (v 0 1))) (upd (upd (u 1) (3 + 23 * t + 0) 2) (3 + 23 * t + 5) (mX0_refusal v (nI t) (v 0 0))) := hQ.abort ht c3 (by rw [rset_eq]; exact upd_self) rfl rfl rfl rfl rfl rfl rfl rfl
        unfold mX6_abortOne
        rw [lay0 (by omega)]
        dsimp only
        rw [lay5 (by omega), rset_eq, rset_ne (k := 1) (by decide), rset_eq]
        exact ⟨hr.2, rfl, ⟨n, m, b, c, by omega, hz⟩⟩
    · rw [if_neg c3, if_pos (kT (hE.in0 ht) c3)]; exact Or.inl ⟨by decide, rfl⟩
/-- a begin -/
theorem beg35 {n : Nat} (hn : n < 12) (h2 : u 1 2 = nI n) {Z : Nat → Int32} : ∀ f i F, i ≤ 23 → 23 < f + i → (∀ x, F x = if 3 + 23 * n ≤ x ∧ x < 3 + 23 * n + i then 0 else Z x) → ∃ F', mX6_beginOne_L35 u f i F = mX6_beginOne_L35 u 1 23 F' ∧ ∀ x, F' x = if 3 + 23 * n ≤ x ∧ x < 3 + 23 * n + 23 then 0 else Z x := by
  intro f
  induction f with
  | zero => intro i F h1 h2; omega
  | succ f ih =>
    intro i F h1 h3 h4
    rcases Nat.lt_or_ge i 23 with q | q
    · rw [mX6_beginOne_L35_s, if_neg (c := (23 : Int32) ≤ nI i) (nI_ge (b := 23) q (by omega))]
      dsimp only
      rw [h2, lay_at hn q, rset_eq]
      refine ih (i + 1) _ q (by omega) (fun x => ?_)
      by_cases c : x = 3 + 23 * n + i
      · rw [c, pk_us, if_pos ⟨by omega, by omega⟩]
      · rw [pk_un c, h4]
        by_cases c2 : 3 + 23 * n ≤ x ∧ x < 3 + 23 * n + i
        · rw [if_pos c2, if_pos ⟨c2.1, by omega⟩]
        · rw [if_neg c2, if_neg (fun z => c2 ⟨z.1, by omega⟩)]
    · have e : i = 23 := by omega
      subst e
      refine ⟨F, ?_, h4⟩
      rw [mX6_beginOne_L35_s, if_pos (c := (23 : Int32) ≤ nI 23) (nI_le (a := 23) q (by omega)), mX6_beginOne_L35_s, if_pos (c := (23 : Int32) ≤ nI 23) (nI_le (a := 23) q (by omega))]
theorem L_begin (h : RV B v (u 1)) (hB1 : B + 1 < 2 ^ 30) : (u 1 2 = 12 ∧ mX2_start v = (-4, v 0 1, v 0 2, v 1, v 2, v 3, v 4, v 5, v 6)) ∨ (¬ u 1 2 = 12 ∧ ¬ (mX2_start v).1 < 0 ∧ (mX2_start v).1 = (mX6_beginOne u).1 ∧ RV (B + 1) (rset (rset (rset (rset (rset (rset (rset v 1 (mX2_start v).2.2.2.1) 2 (mX2_start v).2.2.2.2.1) 3 (mX2_start v).2.2.2.2.2.1) 4 (mX2_start v).2.2.2.2.2.2.1) 5 (mX2_start v).2.2.2.2.2.2.2.1) 6 (mX2_start v).2.2.2.2.2.2.2.2) 0 (upd (upd (v 0) 1 (mX2_start v).2.1) 2 (mX2_start v).2.2.1)) (mX6_beginOne u).2) := by
  obtain ⟨n, m, b, c, hB, hQ⟩ := h
  obtain ⟨hE, hI, hW, hR, a1, a2, a3⟩ := hQ
  have hQ : RQ n m b c v (u 1) := ⟨hE, hI, hW, hR, a1, a2, a3⟩
  have hn := hE.1
  unfold mX2_start
  by_cases c1 : n = 12
  · left
    rw [if_neg (c := v 0 2 < 12) (by rw [hE.2.1, c1]; decide)]
    exact ⟨by rw [hE.2.2.1, c1]; rfl, rfl⟩
  · right
    have hn' : n < 12 := by omega
    rw [if_pos (c := v 0 2 < 12) (by rw [hE.2.1]; exact nI_lt (b := 12) hn' (by omega))]
    refine ⟨by rw [hE.2.2.1]; exact fun z => c1 ((nI_eq (b := 12) (by omega) (by omega)).mp z), ?_⟩
    have ez : upd (u 1) 1 (u 1 1 + 1) 2 = u 1 2 := pk_un (by decide)
    obtain ⟨F', f1, f2⟩ := beg35 hn' hE.2.2.1 (Z := upd (upd (u 1) 1 (u 1 1 + 1)) 2 (u 1 2 + 1)) 24 0 (upd (upd (u 1) 1 (u 1 1 + 1)) 2 (u 1 2 + 1)) (by omega) (by omega) (fun x => by rw [if_neg (by omega)])
    obtain ⟨Zn, eZ⟩ : ∃ Zn, Zn = upd (upd (upd (upd F' (3 + 23 * n + 1) (F' 1)) (3 + 23 * n + 2) (-6)) (3 + 23 * n + 5) (-6)) (3 + 23 * n + 6) (mX6_setOf u 0) := ⟨_, rfl⟩
    have hF : mX6_beginOne u = (nI n, Zn) := by
      unfold mX6_beginOne
      rw [ez, f1, mX6_beginOne_L35_s, if_pos (c := (23 : Int32) ≤ nI 23) (by decide)]
      dsimp only
      rw [hE.2.2.1, lay1 hn', rset_eq, lay2 hn', rset_eq, lay5 hn', rset_eq, lay6 hn', rset_eq, eZ]
    have F1 : F' 1 = u 1 1 + 1 := by rw [f2, if_neg (by omega), pk_un (by decide), pk_us]
    have Fin : ∀ k, k < 23 → F' (3 + 23 * n + k) = 0 := fun k hk => by rw [f2, if_pos ⟨by omega, by omega⟩]
    have Fout : ∀ q, (q < 3 + 23 * n) → F' q = upd (upd (u 1) 1 (u 1 1 + 1)) 2 (u 1 2 + 1) q := fun q hq => by rw [f2, if_neg (by omega)]
    rw [hF]
    refine ⟨?_, ?_, ⟨n + 1, m + 1, _, c, by omega, hQ.begin (v' := _) (z' := Zn) (by omega) hn' rfl rfl rfl ?_ ?_ ?_ ?_ ?_ ?_ rfl ?_ ?_ ?_ ?_ ?_ ?_ ?_ ?_ ?_ ?_ ?_⟩⟩
    · show ¬ v 0 2 < 0
      rw [hE.2.1]; exact nI_pos (by omega)
    · show v 0 2 = nI n
      exact hE.2.1
    · show upd (v 1) (v 0 2).toNatClampNeg 0 = _
      rw [hE.2.1, nI_clamp (by omega)]
    · show upd (v 2) (v 0 2).toNatClampNeg _ = _
      rw [hE.2.1, nI_clamp (by omega)]
    · show upd (v 3) (v 0 2).toNatClampNeg _ = _
      rw [hE.2.1, nI_clamp (by omega)]
    · show upd (v 4) (v 0 2).toNatClampNeg _ = _
      rw [hE.2.1, nI_clamp (by omega)]
    · show upd (v 5) (v 0 2).toNatClampNeg _ = _
      rw [hE.2.1, nI_clamp (by omega)]
    · show upd (v 6) (v 0 2).toNatClampNeg _ = _
      rw [hE.2.1, nI_clamp (by omega)]
    · rw [eZ, pk_un (by omega), pk_un (by omega), pk_un (by omega), pk_un (by omega), Fout 0 (by omega), pk_un (by decide), pk_un (by decide)]
    · rw [eZ, pk_un (by omega), pk_un (by omega), pk_un (by omega), pk_un (by omega), F1]
    · rw [eZ, pk_un (by omega), pk_un (by omega), pk_un (by omega), pk_un (by omega), Fout 2 (by omega), pk_us]
    · intro q h1 h2
      rw [eZ, pk_un (by omega), pk_un (by omega), pk_un (by omega), pk_un (by omega), Fout q h2, pk_un (by omega), pk_un (by omega)]
    · rw [eZ, pk_un (by omega), pk_un (by omega), pk_un (by omega), pk_un (by omega), Fin 0 (by omega)]
    · rw [eZ, pk_un (by omega), pk_un (by omega), pk_un (by omega), pk_us, F1]
    · rw [eZ, pk_un (by omega), pk_un (by omega), pk_us]
    · rw [eZ, pk_un (by omega), pk_un (by omega), pk_un (by omega), pk_un (by omega), Fin 3 (by omega)]
    · rw [eZ, pk_un (by omega), pk_un (by omega), pk_un (by omega), pk_un (by omega), Fin 4 (by omega)]
    · rw [eZ, pk_un (by omega), pk_us]
    · rw [eZ, pk_us]; exact setOf_k hE 0
end A
