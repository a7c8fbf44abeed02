/-! the methods answer alike and keep the relation: changes -/
def finS (S1 : kS) (v' : kG) (x : Int32) : Int32 × kS := (fun (k : Int32 × Int32 × Int32) => (k.1, gset (gset S1 0 v') 11 (rset (S1 11) 0 (upd (upd ((S1 11) 0) 0 k.2.1) 1 k.2.2)))) (mX1_keepUnlessError (S1 11) x)
section A
variable {B B' : Nat} {S : kS} {u u' v' : kG} {z' : Nat → Int32} {x y : Int32}
theorem RR.his (h : RR B S u) : hisOK S := by
  obtain ⟨nx, k, a1, a2, a3, _⟩ := h.2.1
  exact ⟨nx, a1, a3⟩
theorem RR.prep (h : RR B S u) {j : Nat} (hj : j < 3 ∨ 10 ≤ j) : mX1_prepare S j = S j := prep_ne h.his hj
theorem fin_ok (h : RR B S u) (hB : B ≤ B') (hx : ¬ x < 0) (hv : RV B' v' z') (e1 : u' 1 = z') (e2 : u' 2 = (mX6_record u).2) (e0 : u' 0 0 = (mX6_record u).1) (e01 : u' 0 1 = u 0 1) (e3 : u' 3 = u 3) (e4 : u' 4 = u 4) (e5 : u' 5 = u 5) : (finS (mX1_prepare S) v' x).1 = x ∧ RR B' (finS (mX1_prepare S) v' x).2 u' := by
  obtain ⟨nx, k, a1, a2, a3, a4, a5, a6⟩ := h.2.1
  have e11 : mX1_prepare S 11 = S 11 := h.prep (Or.inr (by omega))
  have ek := keep_ok (v := S 11) hx a4 a3 a2 a1
  unfold finS
  rw [e11, ek]
  dsimp only
  refine ⟨rfl, ?_, ?_, ?_, ?_⟩
  · rw [gset_ne _ _ (by decide), gset_eq, e1]; exact hv
  · refine HisR.mono ?_ hB
    refine h.2.1.rec (S' := _) (u' := u') h.1 (fun j h1 h2 => ?_) e0 e2 (nx' := nI ((nx + 1) % 7)) (k' := nI (if k < 6 then k + 1 else 6)) ⟨x, hx, ek⟩ ?_ ?_
    · rw [gset_ne _ _ (by omega), gset_ne _ _ (by omega)]
    · rw [gset_eq]; rfl
    · rw [gset_eq]; rfl
  · refine (h.2.2.1.congr (S' := _) (u' := u') ?_ ?_ ?_ e3 e4).mono hB
    · rw [gset_ne _ _ (by decide), gset_ne _ _ (by decide)]; exact h.prep (Or.inl (by omega))
    · rw [gset_ne _ _ (by decide), gset_ne _ _ (by decide)]; exact h.prep (Or.inl (by omega))
    · rw [gset_ne _ _ (by decide), gset_ne _ _ (by decide)]; exact h.prep (Or.inr (by omega))
  · refine h.2.2.2.congr (S' := _) (u' := u') ?_ ?_ e01 e5
    · rw [gset_ne _ _ (by decide), gset_ne _ _ (by decide)]; rw [h.prep (Or.inr (by omega))]
    · rw [gset_ne _ _ (by decide), gset_ne _ _ (by decide)]; rw [h.prep (Or.inr (by omega))]
theorem fin_err (h : RR B S u) (hx : x < 0) (hv : v' = S 0) (e1 : u' 1 = u 1) (e2 : u' 2 = u 2) (e0 : u' 0 0 = u 0 0) (e01 : u' 0 1 = u 0 1) (e3 : u' 3 = u 3) (e4 : u' 4 = u 4) (e5 : u' 5 = u 5) : (finS (mX1_prepare S) v' x).1 = x ∧ RR B (finS (mX1_prepare S) v' x).2 u' := by
  have e11 : mX1_prepare S 11 = S 11 := h.prep (Or.inr (by omega))
  unfold finS
  rw [e11, keep_err hx]
  dsimp only
  refine ⟨rfl, ?_, ?_, ?_, ?_⟩
  · rw [gset_ne _ _ (by decide), gset_eq, e1, hv]; exact h.1
  · refine h.2.1.norec (S' := _) (u' := u') (fun j h1 h2 => ?_) e0 e2 ?_ ?_
    · rw [gset_ne _ _ (by omega), gset_ne _ _ (by omega)]
    · rw [gset_eq]; rfl
    · rw [gset_eq]; rfl
  · refine h.2.2.1.congr (S' := _) (u' := u') ?_ ?_ ?_ e3 e4
    · rw [gset_ne _ _ (by decide), gset_ne _ _ (by decide)]; exact h.prep (Or.inl (by omega))
    · rw [gset_ne _ _ (by decide), gset_ne _ _ (by decide)]; exact h.prep (Or.inl (by omega))
    · rw [gset_ne _ _ (by decide), gset_ne _ _ (by decide)]; exact h.prep (Or.inr (by omega))
  · refine h.2.2.2.congr (S' := _) (u' := u') ?_ ?_ e01 e5
    · rw [gset_ne _ _ (by decide), gset_ne _ _ (by decide)]; rw [h.prep (Or.inr (by omega))]
    · rw [gset_ne _ _ (by decide), gset_ne _ _ (by decide)]; rw [h.prep (Or.inr (by omega))]
def uA (u : kG) (k : Int32) (z p : Nat → Int32) : kG := rset (rset (rset u 1 z) 2 p) 0 (upd (u 0) 0 k)
def uC (u : kG) (k a b c : Int32) (z p : Nat → Int32) : kG := rset (rset (rset u 1 z) 2 p) 0 (upd (upd (upd (upd (u 0) 0 k) 2 a) 3 b) 4 c)
theorem M_read (h : RR B S u) : (mX5_read S x y).1 = (mX6_read u x y).1 ∧ RR B (mX5_read S x y).2 (uA u (mX6_read u x y).2.1 (mX6_read u x y).2.2.1 (mX6_read u x y).2.2.2) := by
  have e0 : mX1_prepare S 0 = S 0 := h.prep (Or.inl (by omega))
  have eS : mX5_read S x y = finS (mX1_prepare S) (rset (S 0) 4 (mX2_look (S 0) x y).2) (mX2_look (S 0) x y).1 := by rw [← e0]; rfl
  rw [eS]
  obtain ⟨G, eG⟩ : ∃ G, G = mX6_record u := ⟨_, rfl⟩
  have hw : mX6_whyNotRead (rset (rset u 2 G.2) 0 (upd (u 0) 0 G.1)) x y = mX6_whyNotRead u x y := rfl
  rcases L_read (u := rset (rset u 2 G.2) 0 (upd (u 0) 0 G.1)) (x := x) (y := y) h.1 with ⟨c1, c2⟩ | ⟨c1, c2, c3, c4⟩
  · rw [hw] at c1 c2
    have eR : mX6_read u x y = (mX6_whyNotRead u x y, u 0 0, u 1, u 2) := by
      unfold mX6_read; rw [if_neg (fun z => Int32.not_lt.mpr z c1)]
    rw [eR, c2]
    exact fin_err h c1 rset_same rfl rfl rfl rfl rfl rfl rfl
  · rw [hw] at c1
    have eR : mX6_read u x y = ((mX6_readOne (rset (rset u 2 G.2) 0 (upd (u 0) 0 G.1)) x y).1, G.1, (mX6_readOne (rset (rset u 2 G.2) 0 (upd (u 0) 0 G.1)) x y).2, G.2) := by
      unfold mX6_read; rw [if_pos (Int32.not_lt.mp c1), ← eG]
    rw [eR, ← c3]
    exact fin_ok h (Nat.le_refl _) c2 c4 rfl (by rw [← eG]; rfl) (by rw [← eG]; rfl) rfl rfl rfl rfl
theorem M_write {s : Int32} (h : RR B S u) : (mX5_write S x y s).1 = (mX6_write u x y s).1 ∧ RR B (mX5_write S x y s).2 (uA u (mX6_write u x y s).2.1 (mX6_write u x y s).2.2.1 (mX6_write u x y s).2.2.2) := by
  have e0 : mX1_prepare S 0 = S 0 := h.prep (Or.inl (by omega))
  have eS : mX5_write S x y s = finS (mX1_prepare S) (rset (rset (S 0) 5 (mX2_enter (S 0) x y s).2.1) 7 (mX2_enter (S 0) x y s).2.2) (mX2_enter (S 0) x y s).1 := by rw [← e0]; rfl
  rw [eS]
  obtain ⟨G, eG⟩ : ∃ G, G = mX6_record u := ⟨_, rfl⟩
  have hw : mX6_whyNotWrite (rset (rset u 2 G.2) 0 (upd (u 0) 0 G.1)) x y s = mX6_whyNotWrite u x y s := rfl
  rcases L_write (u := rset (rset u 2 G.2) 0 (upd (u 0) 0 G.1)) (x := x) (y := y) (s := s) h.1 with ⟨c1, c2⟩ | ⟨c1, c2, c3, c4⟩
  · rw [hw] at c1 c2
    have eR : mX6_write u x y s = (mX6_whyNotWrite u x y s, u 0 0, u 1, u 2) := by
      unfold mX6_write; rw [if_neg (fun z => Int32.not_lt.mpr z c1)]
    rw [eR, c2]
    exact fin_err h c1 (by rw [rset_same]; exact rset_same) rfl rfl rfl rfl rfl rfl rfl
  · rw [hw] at c1
    have eR : mX6_write u x y s = ((mX6_writeOne (rset (rset u 2 G.2) 0 (upd (u 0) 0 G.1)) x y s).1, G.1, (mX6_writeOne (rset (rset u 2 G.2) 0 (upd (u 0) 0 G.1)) x y s).2, G.2) := by
      unfold mX6_write; rw [if_pos (Int32.not_lt.mp c1), ← eG]
    rw [eR, ← c3]
    exact fin_ok h (Nat.le_refl _) c2 c4 rfl (by rw [← eG]; rfl) (by rw [← eG]; rfl) rfl rfl rfl rfl
theorem M_commit (h : RR B S u) (hB1 : B + 1 < 2 ^ 30) : (mX5_commit S x).1 = (mX6_commit u x).1 ∧ RR (B + 1) (mX5_commit S x).2 (uC u (mX6_commit u x).2.1 (mX6_commit u x).2.2.1 (mX6_commit u x).2.2.2.1 (mX6_commit u x).2.2.2.2.1 (mX6_commit u x).2.2.2.2.2.1 (mX6_commit u x).2.2.2.2.2.2) := by
  have e0 : mX1_prepare S 0 = S 0 := h.prep (Or.inl (by omega))
  have eS : mX5_commit S x = finS (mX1_prepare S) (rset (rset (rset (rset (S 0) 1 (mX2_finish (S 0) x).2.2.1) 3 (mX2_finish (S 0) x).2.2.2.1) 6 (mX2_finish (S 0) x).2.2.2.2) 0 (upd ((S 0) 0) 1 (mX2_finish (S 0) x).2.1)) (mX2_finish (S 0) x).1 := by rw [← e0]; rfl
  rw [eS]
  obtain ⟨G, eG⟩ : ∃ G, G = mX6_record u := ⟨_, rfl⟩
  have hw : mX6_whyNotEnd (rset (rset u 2 G.2) 0 (upd (u 0) 0 G.1)) x = mX6_whyNotEnd u x := rfl
  rcases L_commit (u := rset (rset u 2 G.2) 0 (upd (u 0) 0 G.1)) (x := x) h.1 hB1 with ⟨c1, c2⟩ | ⟨c1, c2, c3, c4⟩
  · rw [hw] at c1 c2
    have eR : mX6_commit u x = (mX6_whyNotEnd u x, u 0 0, u 0 2, u 0 3, u 0 4, u 1, u 2) := by
      unfold mX6_commit; rw [if_neg (fun z => Int32.not_lt.mpr z c1)]
    rw [eR, c2]
    have q := fin_err (v' := rset (rset (rset (rset (S 0) 1 (S 0 1)) 3 (S 0 3)) 6 (S 0 6)) 0 (upd ((S 0) 0) 1 (S 0 0 1))) (u' := uC u (u 0 0) (u 0 2) (u 0 3) (u 0 4) (u 1) (u 2)) h c1 (by rw [rset_same, rset_same, rset_same, upd_self, rset_same]) rfl rfl rfl rfl rfl rfl rfl
    exact ⟨q.1, q.2.mono (Nat.le_succ B)⟩
  · rw [hw] at c1
    obtain ⟨C, eC⟩ : ∃ C, C = mX6_commitOne (rset (rset u 2 G.2) 0 (upd (u 0) 0 G.1)) x := ⟨_, rfl⟩
    have eR : mX6_commit u x = (C.1, G.1, C.2.1, C.2.2.1, C.2.2.2.1, C.2.2.2.2, G.2) := by
      unfold mX6_commit; rw [if_pos (Int32.not_lt.mp c1), ← eG]; dsimp only; rw [← eC]
    rw [eR]
    rw [← eC] at c3 c4
    rw [← c3]
    exact fin_ok h (Nat.le_succ B) c2 c4 rfl (by rw [← eG]; rfl) (by rw [← eG]; rfl) rfl rfl rfl rfl
theorem M_abort (h : RR B S u) : (mX5_abort S x).1 = (mX6_abort u x).1 ∧ RR B (mX5_abort S x).2 (uA u (mX6_abort u x).2.1 (mX6_abort u x).2.2.1 (mX6_abort u x).2.2.2) := by
  have e0 : mX1_prepare S 0 = S 0 := h.prep (Or.inl (by omega))
  have eS : mX5_abort S x = finS (mX1_prepare S) (rset (rset (S 0) 1 (mX2_giveUp (S 0) x).2.1) 6 (mX2_giveUp (S 0) x).2.2) (mX2_giveUp (S 0) x).1 := by rw [← e0]; rfl
  rw [eS]
  obtain ⟨G, eG⟩ : ∃ G, G = mX6_record u := ⟨_, rfl⟩
  have hw : mX6_whyNotEnd (rset (rset u 2 G.2) 0 (upd (u 0) 0 G.1)) x = mX6_whyNotEnd u x := rfl
  rcases L_abort (u := rset (rset u 2 G.2) 0 (upd (u 0) 0 G.1)) (x := x) h.1 with ⟨c1, c2⟩ | ⟨c1, c2, c3, c4⟩
  · rw [hw] at c1 c2
    have eR : mX6_abort u x = (mX6_whyNotEnd u x, u 0 0, u 1, u 2) := by
      unfold mX6_abort; rw [if_neg (fun z => Int32.not_lt.mpr z c1)]
    rw [eR, c2]
    exact fin_err h c1 (by rw [rset_same]; exact rset_same) rfl rfl rfl rfl rfl rfl rfl
  · rw [hw] at c1
    obtain ⟨C, eC⟩ : ∃ C, C = mX6_abortOne (rset (rset u 2 G.2) 0 (upd (u 0) 0 G.1)) x 0 := ⟨_, rfl⟩
    rw [← eC] at c3 c4
    have c5 := c3 (rset (rset (rset u 1 C) 2 G.2) 0 (upd (u 0) 0 G.1)) rfl
    have eR : mX6_abort u x = (mX6_bits (mX6_setOf (rset (rset (rset u 1 C) 2 G.2) 0 (upd (u 0) 0 G.1)) 0), G.1, C, G.2) := by
      unfold mX6_abort; rw [if_pos (by rw [c1]; decide), ← eG]; dsimp only; rw [← eC]
    rw [eR, ← c5]
    exact fin_ok h (Nat.le_refl _) c2 c4 rfl (by rw [← eG]; rfl) (by rw [← eG]; rfl) rfl rfl rfl rfl
theorem M_begin (h : RR B S u) (hB1 : B + 1 < 2 ^ 30) : (mX5_begin S).1 = (mX6_begin u).1 ∧ RR (B + 1) (mX5_begin S).2 (uA u (mX6_begin u).2.1 (mX6_begin u).2.2.1 (mX6_begin u).2.2.2) := by
  have e0 : mX1_prepare S 0 = S 0 := h.prep (Or.inl (by omega))
  have eS : mX5_begin S = finS (mX1_prepare S) (rset (rset (rset (rset (rset (rset (rset (S 0) 1 (mX2_start (S 0)).2.2.2.1) 2 (mX2_start (S 0)).2.2.2.2.1) 3 (mX2_start (S 0)).2.2.2.2.2.1) 4 (mX2_start (S 0)).2.2.2.2.2.2.1) 5 (mX2_start (S 0)).2.2.2.2.2.2.2.1) 6 (mX2_start (S 0)).2.2.2.2.2.2.2.2) 0 (upd (upd ((S 0) 0) 1 (mX2_start (S 0)).2.1) 2 (mX2_start (S 0)).2.2.1)) (mX2_start (S 0)).1 := by rw [← e0]; rfl
  rw [eS]
  obtain ⟨G, eG⟩ : ∃ G, G = mX6_record u := ⟨_, rfl⟩
  rcases L_begin (u := rset (rset u 2 G.2) 0 (upd (u 0) 0 G.1)) h.1 hB1 with ⟨c1, c2⟩ | ⟨c1, c2, c3, c4⟩
  · have c1' : u 1 2 = 12 := c1
    have eR : mX6_begin u = (-4, u 0 0, u 1, u 2) := by unfold mX6_begin; rw [if_pos c1']
    rw [eR, c2]
    have q := fin_err (x := -4) (v' := rset (rset (rset (rset (rset (rset (rset (S 0) 1 (S 0 1)) 2 (S 0 2)) 3 (S 0 3)) 4 (S 0 4)) 5 (S 0 5)) 6 (S 0 6)) 0 (upd (upd ((S 0) 0) 1 (S 0 0 1)) 2 (S 0 0 2))) (u' := uA u (u 0 0) (u 1) (u 2)) h (by decide) (by rw [rset_same, rset_same, rset_same, rset_same, rset_same, rset_same, upd_self, upd_self, rset_same]) rfl rfl rfl rfl rfl rfl rfl
    exact ⟨q.1, q.2.mono (Nat.le_succ B)⟩
  · have c1' : ¬ u 1 2 = 12 := c1
    obtain ⟨C, eC⟩ : ∃ C, C = mX6_beginOne (rset (rset u 2 G.2) 0 (upd (u 0) 0 G.1)) := ⟨_, rfl⟩
    have eR : mX6_begin u = (C.1, G.1, C.2, G.2) := by unfold mX6_begin; rw [if_neg c1', ← eG]; dsimp only; rw [← eC]
    rw [eR]
    rw [← eC] at c3 c4
    rw [← c3]
    exact fin_ok h (Nat.le_succ B) c2 c4 rfl (by rw [← eG]; rfl) (by rw [← eG]; rfl) rfl rfl rfl rfl
theorem L_rule {v : kG} (h : RV B v (u 1)) {r : Nat} (hr : r < 4) : RV B (rset v 0 (upd (v 0) 0 (nI r))) (upd (u 1) 0 (nI r)) := by
  obtain ⟨n, m, b, c, hB, hQ⟩ := h
  exact ⟨n, m, b, c, hB, hQ.rule hr rfl rfl rfl (fun k hk => rset_ne (by omega)) rfl⟩
theorem M_rule (h : RR B S u) : (mX5_rule S x).1 = (mX6_rule u x).1 ∧ RR B (mX5_rule S x).2 (uA u (mX6_rule u x).2.1 (mX6_rule u x).2.2.1 (mX6_rule u x).2.2.2) := by
  have e0 : mX1_prepare S 0 = S 0 := h.prep (Or.inl (by omega))
  have eS : mX5_rule S x = finS (mX1_prepare S) (rset (S 0) 0 (upd ((S 0) 0) 0 (mX2_changeRule (S 0) x).2)) (mX2_changeRule (S 0) x).1 := by rw [← e0]; rfl
  rw [eS]
  unfold mX2_changeRule mX6_rule
  rw [rule_eq]
  by_cases c : mX6_in x 0 3 = 0
  · rw [if_pos c, if_pos c]
    exact fin_err (x := -2) h (show (-2 : Int32) < 0 by decide) (by dsimp only; rw [upd_self, rset_same]) rfl rfl rfl rfl rfl rfl rfl
  · rw [if_neg c, if_neg c]
    dsimp only
    have hx : ∃ r, r < 4 ∧ x = nI r := by
      unfold mX6_in at c
      by_cases c1 : x < 0
      · rw [if_pos c1] at c; exact absurd rfl c
      · rw [if_neg c1] at c
        obtain ⟨j, hj, rfl⟩ := nI_of c1
        by_cases c2 : 3 < j
        · rw [if_pos (c := (3 : Int32) < nI j) (nI_lt (a := 3) c2 hj)] at c; exact absurd rfl c
        · exact ⟨j, by omega, rfl⟩
    obtain ⟨r, hr, rfl⟩ := hx
    obtain ⟨n, m, b, c', hB, hE, hI, hW, hR, a1, a2, r0, hr0, a3⟩ := h.1
    rw [a1]
    exact fin_ok h (Nat.le_refl _) (by rw [a3]; exact nI_pos (by omega)) (L_rule h.1 hr) rfl rfl rfl rfl rfl rfl rfl
end A
