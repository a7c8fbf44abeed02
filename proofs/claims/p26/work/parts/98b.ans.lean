/-! what the class's changes answer and leave -/
section ANS
variable {n m ρ : Nat} {b c : Nat → Nat} {v : kG} {z q : Nat → Int32} {i j k t : Nat} {S : kS}
theorem keep_1 (u : kG) (x : Int32) : (mX1_keepUnlessError u x).1 = x := by
  rw [mX1_keepUnlessError_s]
  by_cases c1 : x < 0
  · rw [if_pos c1]
  · rw [if_neg c1]
    by_cases c2 : (7 : Int32) ≤ u 0 1 + 1
    · rw [if_pos c2]
    · rw [if_neg c2]
theorem keep_n {u : kG} {x : Int32} (h : ∃ n : Nat, n < 7 ∧ u 0 1 = nI n) : ∃ n : Nat, n < 7 ∧ (mX1_keepUnlessError u x).2.2 = nI n := by
  obtain ⟨n, hn, e⟩ := h
  rw [mX1_keepUnlessError_s, e, nI_1]
  by_cases c1 : x < 0
  · rw [if_pos c1]; exact ⟨n, hn, rfl⟩
  · rw [if_neg c1]
    rcases Nat.lt_or_ge (n + 1) 7 with g | g
    · rw [if_neg (show ¬ (7 : Int32) ≤ nI (n + 1) from nI_ge (b := 7) g (by omega))]; exact ⟨n + 1, g, rfl⟩
    · rw [if_pos (show (7 : Int32) ≤ nI (n + 1) from nI_le (a := 7) g (by omega))]; exact ⟨0, by decide, rfl⟩
theorem his_k {P : kS} {x y : Int32} {V u : kG} (h : ∃ n : Nat, n < 7 ∧ y = nI n) : hisOK (gset (gset P 0 V) 11 (rset u 0 (upd (upd (u 0) 0 x) 1 y))) := h
theorem P_0 (h : hisOK S) : mX1_prepare S 0 = S 0 := prep_ne h (Or.inl (by omega))
theorem P_11 (h : hisOK S) : mX1_prepare S 11 = S 11 := prep_ne h (Or.inr (by omega))
theorem P_h (h : hisOK S) : ∃ n : Nat, n < 7 ∧ mX1_prepare S 11 0 1 = nI n := by rw [P_11 h]; exact h
/-- each change: the ledger's answer, the ledger's new rows -/
theorem begin_0 (h : hisOK S) : (mX5_begin S).1 = (mX2_start (S 0)).1 ∧ (mX5_begin S).2 0 = rset (rset (rset (rset (rset (rset (rset (S 0) 1 ((mX2_start (S 0)).2.2.2.1)) 2 ((mX2_start (S 0)).2.2.2.2.1)) 3 ((mX2_start (S 0)).2.2.2.2.2.1)) 4 ((mX2_start (S 0)).2.2.2.2.2.2.1)) 5 ((mX2_start (S 0)).2.2.2.2.2.2.2.1)) 6 ((mX2_start (S 0)).2.2.2.2.2.2.2.2)) 0 (upd (upd ((S 0) 0) 1 ((mX2_start (S 0)).2.1)) 2 ((mX2_start (S 0)).2.2.1)) ∧ hisOK (mX5_begin S).2 := by
  rw [← P_0 h]
  exact ⟨keep_1 (mX1_prepare S 11) _, rfl, his_k (keep_n (P_h h))⟩
theorem read_0 (h : hisOK S) (x y : Int32) : (mX5_read S x y).1 = (mX2_look (S 0) x y).1 ∧ (mX5_read S x y).2 0 = rset (S 0) 4 ((mX2_look (S 0) x y).2) ∧ hisOK (mX5_read S x y).2 := by
  rw [← P_0 h]
  exact ⟨keep_1 (mX1_prepare S 11) _, rfl, his_k (keep_n (P_h h))⟩
theorem write_0 (h : hisOK S) (x y w : Int32) : (mX5_write S x y w).1 = (mX2_enter (S 0) x y w).1 ∧ (mX5_write S x y w).2 0 = rset (rset (S 0) 5 ((mX2_enter (S 0) x y w).2.1)) 7 ((mX2_enter (S 0) x y w).2.2) ∧ hisOK (mX5_write S x y w).2 := by
  rw [← P_0 h]
  exact ⟨keep_1 (mX1_prepare S 11) _, rfl, his_k (keep_n (P_h h))⟩
theorem commit_0 (h : hisOK S) (x : Int32) : (mX5_commit S x).1 = (mX2_finish (S 0) x).1 ∧ (mX5_commit S x).2 0 = rset (rset (rset (rset (S 0) 1 ((mX2_finish (S 0) x).2.2.1)) 3 ((mX2_finish (S 0) x).2.2.2.1)) 6 ((mX2_finish (S 0) x).2.2.2.2)) 0 (upd ((S 0) 0) 1 ((mX2_finish (S 0) x).2.1)) ∧ hisOK (mX5_commit S x).2 := by
  rw [← P_0 h]
  exact ⟨keep_1 (mX1_prepare S 11) _, rfl, his_k (keep_n (P_h h))⟩
theorem abort_0 (h : hisOK S) (x : Int32) : (mX5_abort S x).1 = (mX2_giveUp (S 0) x).1 ∧ (mX5_abort S x).2 0 = rset (rset (S 0) 1 ((mX2_giveUp (S 0) x).2.1)) 6 ((mX2_giveUp (S 0) x).2.2) ∧ hisOK (mX5_abort S x).2 := by
  rw [← P_0 h]
  exact ⟨keep_1 (mX1_prepare S 11) _, rfl, his_k (keep_n (P_h h))⟩
theorem rule_0 (h : hisOK S) (x : Int32) : (mX5_rule S x).1 = (mX2_changeRule (S 0) x).1 ∧ (mX5_rule S x).2 0 = rset (S 0) 0 (upd ((S 0) 0) 0 ((mX2_changeRule (S 0) x).2)) ∧ hisOK (mX5_rule S x).2 := by
  rw [← P_0 h]
  exact ⟨keep_1 (mX1_prepare S 11) _, rfl, his_k (keep_n (P_h h))⟩
theorem key_ok (hk : k < 16) : ¬ mX5_isKey (nI k) = 0 := by
  rw [mX5_isKey_s, if_neg (nI_pos (by omega)), if_neg (k16ge hk)]; decide
theorem rule_ok (hk : k < 4) : ¬ mX5_isRule (nI k) = 0 := by
  rw [mX5_isRule_s, if_neg (nI_pos (by omega)), if_neg (show ¬ (4 : Int32) ≤ nI k from nI_ge (b := 4) hk (by omega))]; decide
theorem vAt (ht : t < 12) (hk : k < 16) : ((nI t * 16) + nI k).toNatClampNeg = 16 * t + k := by
  rw [show (16 : Int32) = nI 16 from rfl, kmulI, nI_add, nI_clamp (by omega), Nat.mul_comm]
theorem val_0 (hn : n ≤ 12) (h2 : v 0 2 = nI n) (hi : i < n) (hk : k < 16) : mX2_valueOfVersion v (nI i) (nI k) = v 7 (16 * i + k) := by
  rw [mX2_valueOfVersion_s, if_neg (ex_1 hn h2 hi), vAt (by omega) hk]
theorem val_n (v : kG) (x : Int32) : mX2_valueOfVersion v (-6) x = 0 := by
  rw [mX2_valueOfVersion_s, mX2_exists_s, if_pos (show (-6 : Int32) < 0 by decide), if_pos rfl]
/-- the law's writer and the class's -/
theorem WL_WA (hn : n ≤ 12) (h2 : v 0 2 = nI n) (hi : RI n m b c v) {x : Nat} (hx : x ≤ m + 1) {y : Int32} (h : WL v n c k x y) : y = -1 ∧ mX2_writerAhead v (nI k) (nI x) = -6 ∨ ∃ j, j < n ∧ y = nI j ∧ mX2_writerAhead v (nI k) (nI x) = nI j ∧ WRk v j k := by
  rcases WA_n hn h2 hi k hx with ⟨e, a⟩ | ⟨j', k1, k2, k3, k4, k5, k6⟩
  · rcases h with ⟨e', _⟩ | ⟨j, j1, j2, j3, j4, j5, j6⟩
    · exact Or.inl ⟨e', e⟩
    · exact absurd j5 (a j j1 j3 j4)
  · have := WL.uniq hi h (Or.inr ⟨j', k1, rfl, k3, k4, k5, k6⟩)
    exact Or.inr ⟨j', k1, this, k2, k4⟩
theorem value_A (hn : n ≤ 12) (h2 : S 0 0 2 = nI n) (hi : RI n m b c (S 0)) (hk : k < 16) {y : Int32} (h : WL (S 0) n c k (m + 1) y) : y = -1 ∧ mX5_value S (nI k) = 0 ∨ ∃ j, j < n ∧ y = nI j ∧ WRk (S 0) j k ∧ mX5_value S (nI k) = S 0 7 (16 * j + k) := by
  have e : mX5_value S (nI k) = mX2_valueOfVersion (S 0) (mX2_writerAhead (S 0) (nI k) (nI (m + 1))) (nI k) := by
    rw [mX5_value_s, if_neg (key_ok hk), hi.1, nI_1]
  rcases WL_WA hn h2 hi (Nat.le_refl _) h with ⟨a, d⟩ | ⟨j, j1, j2, j3, j4⟩
  · rw [e, d]; exact Or.inl ⟨a, val_n _ _⟩
  · rw [e, j3]; exact Or.inr ⟨j, j1, j2, j4, val_0 hn h2 j1 hk⟩
theorem sees_own (hn : n ≤ 12) (h2 : S 0 0 2 = nI n) (ht : t < n) (hk : k < 16) (h : WRk (S 0) t k) : mX5_sees S (nI t) (nI k) = nI t := by
  rw [mX5_sees_s, if_neg (ex_1 hn h2 ht), if_neg (key_ok hk), mX2_seenWriter_s, rA0 (by omega), if_neg h]
theorem sees_A (hn : n ≤ 12) (h2 : S 0 0 2 = nI n) (hi : RI n m b c (S 0)) (ht : t < n) (hk : k < 16) (h : ¬ WRk (S 0) t k) : mX5_sees S (nI t) (nI k) = mX2_writerAhead (S 0) (nI k) (nI (b t)) := by
  rw [mX5_sees_s, if_neg (ex_1 hn h2 ht), if_neg (key_ok hk), mX2_seenWriter_s, rA0 (by omega), if_pos (Classical.byContradiction h), (hi.bg ht).1]
theorem WA_cg {v' : kG} (h0 : v' 0 2 = v 0 2) (h1 : v' 1 = v 1) (h3 : v' 3 = v 3) (h5 : v' 5 = v 5) (x y : Int32) : mX2_writerAhead v' x y = mX2_writerAhead v x y := by
  have key : ∀ f i w la, mX2_writerAhead_L9 v' x y f w la i = mX2_writerAhead_L9 v x y f w la i := by
    intro f
    induction f with
    | zero => intro i w la; rfl
    | succ f ih =>
      intro i w la
      rw [mX2_writerAhead_L9_s, mX2_writerAhead_L9_s, h0, h1, h3, h5]
      simp only [ih]
  exact key 13 0 (-6) 0
theorem read_own (hn : n ≤ 12) (h2 : S 0 0 2 = nI n) (hh : hisOK S) (ht : t < n) (ht0 : S 0 1 t = 0) (hk : k < 16) (h : WRk (S 0) t k) : (mX5_read S (nI t) (nI k)).1 = S 0 7 (16 * t + k) ∧ (∀ x, (mX5_read S (nI t) (nI k)).2 0 x = S 0 x) ∧ hisOK (mX5_read S (nI t) (nI k)).2 := by
  obtain ⟨a1, a2, a3⟩ := read_0 hh (nI t) (nI k)
  have e : mX2_look (S 0) (nI t) (nI k) = (S 0 7 (16 * t + k), S 0 4) := by
    rw [mX2_look_s, if_neg (ex_1 hn h2 ht), if_neg (key_ok hk), rA0 (by omega), if_pos ht0, if_neg h, mX2_seenWriter_s, rA0 (by omega), if_neg h, val_0 hn h2 ht hk]
  rw [a1, a2, e]
  refine ⟨rfl, fun x => ?_, a3⟩
  by_cases q : x = 4
  · rw [q]; rfl
  · exact rset_ne q
theorem read_A (hn : n ≤ 12) (h2 : S 0 0 2 = nI n) (hi : RI n m b c (S 0)) (hh : hisOK S) (ht : t < n) (ht0 : S 0 1 t = 0) (hk : k < 16) (h : ¬ WRk (S 0) t k) : (mX5_read S (nI t) (nI k)).1 = mX2_valueOfVersion (S 0) (mX2_writerAhead (S 0) (nI k) (nI (b t))) (nI k) ∧ (∀ x, x ≠ 4 → (mX5_read S (nI t) (nI k)).2 0 x = S 0 x) ∧ (mX5_read S (nI t) (nI k)).2 0 4 = upd (S 0 4) t (S 0 4 t ||| (1 <<< (nI k &&& 31))) ∧ hisOK (mX5_read S (nI t) (nI k)).2 := by
  obtain ⟨a1, a2, a3⟩ := read_0 hh (nI t) (nI k)
  have e : mX2_look (S 0) (nI t) (nI k) = (mX2_valueOfVersion (S 0) (mX2_writerAhead (S 0) (nI k) (nI (b t))) (nI k), upd (S 0 4) t (S 0 4 t ||| (1 <<< (nI k &&& 31)))) := by
    have eq : ∀ X : Int32, mX2_valueOfVersion (rset (S 0) 4 (upd (S 0 4) t (S 0 4 t ||| (1 <<< (nI k &&& 31))))) X (nI k) = mX2_valueOfVersion (S 0) X (nI k) := fun X => rfl
    rw [mX2_look_s, if_neg (ex_1 hn h2 ht), if_neg (key_ok hk), rA0 (by omega), if_pos ht0, if_pos (Classical.byContradiction h), mX2_seenWriter_s, rA0 (by omega), eq]
    rw [if_pos (show mX5_contains (rset (S 0) 4 (upd (S 0 4) t (S 0 4 t ||| (1 <<< (nI k &&& 31)))) 5 t) (nI k) = 0 from Classical.byContradiction h), WA_cg (v' := rset (S 0) 4 (upd (S 0 4) t (S 0 4 t ||| (1 <<< (nI k &&& 31))))) (v := S 0) rfl rfl rfl rfl, show rset (S 0) 4 (upd (S 0 4) t (S 0 4 t ||| (1 <<< (nI k &&& 31)))) 2 t = S 0 2 t from rfl, (hi.bg ht).1]
  rw [a1, a2, e]
  exact ⟨rfl, fun x hx => rset_ne hx, rset_eq, a3⟩
theorem read_no (hn : n ≤ 12) (h2 : S 0 0 2 = nI n) (hh : hisOK S) (ht : t < n) (ht0 : ¬ S 0 1 t = 0) (hk : k < 16) : (mX5_read S (nI t) (nI k)).1 = -5 ∧ (∀ x, (mX5_read S (nI t) (nI k)).2 0 x = S 0 x) ∧ hisOK (mX5_read S (nI t) (nI k)).2 := by
  obtain ⟨a1, a2, a3⟩ := read_0 hh (nI t) (nI k)
  have e : mX2_look (S 0) (nI t) (nI k) = (-5, S 0 4) := by
    rw [mX2_look_s, if_neg (ex_1 hn h2 ht), if_neg (key_ok hk), rA0 (by omega), if_neg ht0]
  rw [a1, a2, e]
  refine ⟨rfl, fun x => ?_, a3⟩
  by_cases q : x = 4
  · rw [q]; rfl
  · exact rset_ne q
theorem would_no (hn : n ≤ 12) (h2 : S 0 0 2 = nI n) (ht : t < n) (ht0 : ¬ S 0 1 t = 0) : mX5_would S (nI t) = -5 := by
  rw [mX5_would_s, if_neg (ex_1 hn h2 ht), rA0 (by omega), if_neg ht0]
theorem would_A (hn : n ≤ 12) (h2 : S 0 0 2 = nI n) (ht : t < n) (ht0 : S 0 1 t = 0) (hr : S 0 0 0 = nI ρ) : mX5_would S (nI t) = mX0_refusal (S 0) (nI t) (nI ρ) := by
  rw [mX5_would_s, if_neg (ex_1 hn h2 ht), rA0 (by omega), if_pos ht0, hr]
theorem write_A (hn : n ≤ 12) (h2 : S 0 0 2 = nI n) (hh : hisOK S) (ht : t < n) (ht0 : S 0 1 t = 0) (hk : k < 16) {x : Nat} (hx : x < 1000) : (mX5_write S (nI t) (nI k) (nI x)).1 = S 0 5 t ||| (1 <<< (nI k &&& 31)) ∧ (∀ y, y ≠ 5 → y ≠ 7 → (mX5_write S (nI t) (nI k) (nI x)).2 0 y = S 0 y) ∧ (mX5_write S (nI t) (nI k) (nI x)).2 0 5 = upd (S 0 5) t (S 0 5 t ||| (1 <<< (nI k &&& 31))) ∧ (mX5_write S (nI t) (nI k) (nI x)).2 0 7 = upd (S 0 7) (16 * t + k) (nI x) ∧ hisOK (mX5_write S (nI t) (nI k) (nI x)).2 := by
  obtain ⟨a1, a2, a3⟩ := write_0 hh (nI t) (nI k) (nI x)
  have e : mX2_enter (S 0) (nI t) (nI k) (nI x) = (S 0 5 t ||| (1 <<< (nI k &&& 31)), upd (S 0 5) t (S 0 5 t ||| (1 <<< (nI k &&& 31))), upd (S 0 7) (16 * t + k) (nI x)) := by
    rw [mX2_enter_s, if_neg (ex_1 hn h2 ht), if_neg (key_ok hk), if_neg (nI_pos (by omega)), if_pos (show nI x < (1000 : Int32) from nI_lt (b := 1000) hx (by omega)), rA0 (by omega), if_pos ht0, pk_us, vAt (by omega) hk]
  rw [a1, a2, e]
  exact ⟨rfl, fun y h5 h7 => (rset_ne h7).trans (rset_ne h5), (rset_ne (by decide)).trans rset_eq, rset_eq, a3⟩
theorem commit_no (hn : n ≤ 12) (h2 : S 0 0 2 = nI n) (hh : hisOK S) (ht : t < n) (ht0 : S 0 1 t = 0) (hr : S 0 0 0 = nI ρ) {x : Int32} (hx : mX0_refusal (S 0) (nI t) (nI ρ) = x) (h0 : ¬ x = 0) : (mX5_commit S (nI t)).1 = x ∧ (∀ y, y ≠ 1 → y ≠ 6 → (mX5_commit S (nI t)).2 0 y = S 0 y) ∧ (mX5_commit S (nI t)).2 0 1 = upd (S 0 1) t 2 ∧ (mX5_commit S (nI t)).2 0 6 = upd (S 0 6) t x ∧ hisOK (mX5_commit S (nI t)).2 := by
  obtain ⟨a1, a2, a3⟩ := commit_0 hh (nI t)
  have e : mX2_finish (S 0) (nI t) = (x, S 0 0 1, upd (S 0 1) t 2, S 0 3, upd (S 0 6) t x) := by
    rw [mX2_finish_s, if_neg (ex_1 hn h2 ht), rA0 (by omega), if_pos ht0, hr, hx, if_neg h0]
  rw [a1, a2, e]
  refine ⟨rfl, fun y h1 h6 => ?_, (rset_ne (by decide)).trans ((rset_ne (by decide)).trans ((rset_ne (by decide)).trans rset_eq)), (rset_ne (by decide)).trans rset_eq, a3⟩
  by_cases q : y = 0
  · rw [q]
    refine rset_eq.trans ?_
    funext w
    by_cases g : w = 1
    · rw [g, pk_us]
    · rw [pk_un g]
  · refine (rset_ne q).trans ((rset_ne h6).trans ?_)
    by_cases q3 : y = 3
    · rw [q3]; exact rset_eq
    · exact (rset_ne q3).trans (rset_ne h1)
theorem commit_A (hn : n ≤ 12) (h2 : S 0 0 2 = nI n) (hh : hisOK S) (ht : t < n) (ht0 : S 0 1 t = 0) (hr : S 0 0 0 = nI ρ) (hx : mX0_refusal (S 0) (nI t) (nI ρ) = 0) : (mX5_commit S (nI t)).1 = 0 ∧ (mX5_commit S (nI t)).2 0 0 0 = S 0 0 0 ∧ (mX5_commit S (nI t)).2 0 0 1 = S 0 0 1 + 1 ∧ (mX5_commit S (nI t)).2 0 0 2 = S 0 0 2 ∧ (∀ y, y ≠ 0 → y ≠ 1 → y ≠ 3 → (mX5_commit S (nI t)).2 0 y = S 0 y) ∧ (mX5_commit S (nI t)).2 0 1 = upd (S 0 1) t 1 ∧ (mX5_commit S (nI t)).2 0 3 = upd (S 0 3) t (S 0 0 1 + 1) ∧ hisOK (mX5_commit S (nI t)).2 := by
  obtain ⟨a1, a2, a3⟩ := commit_0 hh (nI t)
  have e : mX2_finish (S 0) (nI t) = (0, S 0 0 1 + 1, upd (S 0 1) t 1, upd (S 0 3) t (S 0 0 1 + 1), S 0 6) := by
    rw [mX2_finish_s, if_neg (ex_1 hn h2 ht), rA0 (by omega), if_pos ht0, hr, hx, if_pos rfl]
  rw [a1, a2, e]
  refine ⟨rfl, ?_, ?_, ?_, fun y h0 h1 h3 => ?_, (rset_ne (by decide)).trans ((rset_ne (by decide)).trans ((rset_ne (by decide)).trans rset_eq)), (rset_ne (by decide)).trans ((rset_ne (by decide)).trans rset_eq), a3⟩
  · rw [rset_eq]; exact pk_un (by decide)
  · rw [rset_eq]; exact pk_us
  · rw [rset_eq]; exact pk_un (by decide)
  · refine (rset_ne h0).trans ?_
    by_cases q : y = 6
    · rw [q]; exact rset_eq
    · exact (rset_ne q).trans ((rset_ne h3).trans (rset_ne h1))
theorem abort_A (hn : n ≤ 12) (h2 : S 0 0 2 = nI n) (hh : hisOK S) (ht : t < n) (ht0 : S 0 1 t = 0) : (mX5_abort S (nI t)).1 = nI (cn (fun u => decide (upd (S 0 1) t 2 u = 0)) n) ∧ (∀ y, y ≠ 1 → y ≠ 6 → (mX5_abort S (nI t)).2 0 y = S 0 y) ∧ (mX5_abort S (nI t)).2 0 1 = upd (S 0 1) t 2 ∧ (mX5_abort S (nI t)).2 0 6 = upd (S 0 6) t 0 ∧ hisOK (mX5_abort S (nI t)).2 := by
  obtain ⟨a1, a2, a3⟩ := abort_0 hh (nI t)
  have e : mX2_giveUp (S 0) (nI t) = (nI (cn (fun u => decide (upd (S 0 1) t 2 u = 0)) n), upd (S 0 1) t 2, upd (S 0 6) t 0) := by
    rw [mX2_giveUp_s, if_neg (ex_1 hn h2 ht), rA0 (by omega), if_pos ht0, inPhase_k (v := rset (rset (S 0) 1 (upd (S 0 1) t 2)) 6 (upd (S 0 6) t 0)) hn h2, kbc _ (kst_lt12 _ hn), kpop_kst _ n hn]
    rfl
  rw [a1, a2, e]
  exact ⟨rfl, fun y h1 h6 => (rset_ne h6).trans (rset_ne h1), (rset_ne (by decide)).trans rset_eq, rset_eq, a3⟩
theorem begin_A (hn : n < 12) (h2 : S 0 0 2 = nI n) (hh : hisOK S) : (mX5_begin S).1 = nI n ∧ (mX5_begin S).2 0 0 0 = S 0 0 0 ∧ (mX5_begin S).2 0 0 1 = S 0 0 1 + 1 ∧ (mX5_begin S).2 0 0 2 = S 0 0 2 + 1 ∧ (mX5_begin S).2 0 1 = upd (S 0 1) n 0 ∧ (mX5_begin S).2 0 2 = upd (S 0 2) n (S 0 0 1 + 1) ∧ (mX5_begin S).2 0 3 = upd (S 0 3) n (-6) ∧ (mX5_begin S).2 0 4 = upd (S 0 4) n 0 ∧ (mX5_begin S).2 0 5 = upd (S 0 5) n 0 ∧ (mX5_begin S).2 0 6 = upd (S 0 6) n (-6) ∧ (mX5_begin S).2 0 7 = S 0 7 ∧ hisOK (mX5_begin S).2 := by
  obtain ⟨a1, a2, a3⟩ := begin_0 hh
  have e : mX2_start (S 0) = (S 0 0 2, S 0 0 1 + 1, S 0 0 2 + 1, upd (S 0 1) n 0, upd (S 0 2) n (S 0 0 1 + 1), upd (S 0 3) n (-6), upd (S 0 4) n 0, upd (S 0 5) n 0, upd (S 0 6) n (-6)) := by
    rw [mX2_start_s, if_pos (show S 0 0 2 < (12 : Int32) by rw [h2]; exact nI_lt (b := 12) hn (by omega)), h2, rA0 hn]
  rw [a1, a2, e]
  refine ⟨h2, ?_, ?_, ?_, rfl, rfl, rfl, rfl, rfl, rfl, rfl, a3⟩
  · rw [rset_eq]; rfl
  · rw [rset_eq]; rfl
  · rw [rset_eq]; rfl
theorem rule_A (hr : ρ < 4) (hh : hisOK S) : (mX5_rule S (nI ρ)).1 = S 0 0 0 ∧ (mX5_rule S (nI ρ)).2 0 0 0 = nI ρ ∧ (mX5_rule S (nI ρ)).2 0 0 1 = S 0 0 1 ∧ (mX5_rule S (nI ρ)).2 0 0 2 = S 0 0 2 ∧ hisOK (mX5_rule S (nI ρ)).2 := by
  obtain ⟨a1, a2, a3⟩ := rule_0 hh (nI ρ)
  have e : mX2_changeRule (S 0) (nI ρ) = (S 0 0 0, nI ρ) := by
    rw [mX2_changeRule_s, if_neg (rule_ok hr)]
  rw [a1, a2, e]
  refine ⟨rfl, ?_, ?_, ?_, a3⟩ <;> rw [rset_eq] <;> rfl
/-- who is doomed -/
theorem doom_A {o : Nat} (hn : n ≤ 12) (h2 : S 0 0 2 = nI n) (ho : o < 4) (ht : t < n) (ht0 : S 0 1 t = 0) : ((mX5_doomed S (nI o) >>> (nI t &&& 31)) &&& 1) = if mX0_refusal (S 0) (nI t) (nI o) = 0 then 0 else 1 := by
  have e : mX5_doomed S (nI o) = nI (kst (fun u => decide (u < n) && decide (S 0 1 u = 0) && !decide (mX0_refusal (S 0) (nI u) (nI o) = 0)) 12) := by
    rw [mX5_doomed_s, if_neg (rule_ok ho)]
    refine kst_loop (n := 12) (by omega) _ (mX5_doomed_L24 S (nI o)) (fun f x i hi => ?_)
    rw [mX5_doomed_L24_s]
    rcases Nat.lt_or_ge i 12 with g | g
    · rw [if_neg (k12ge g), if_neg (Nat.not_le.mpr g), inPhase_k hn h2]
      by_cases c1 : i < n ∧ S 0 1 i = 0
      · rw [if_neg (kF (kctS hn (show i < 32 by omega)) ⟨c1.1, by simpa using c1.2⟩)]
        by_cases c2 : mX0_refusal (S 0) (nI i) (nI o) = 0
        · rw [if_pos c2, if_neg (by simp [c2])]
        · rw [if_neg c2, if_pos (by simp [c1.1, c1.2, c2])]
      · rw [if_pos (kT (kctS hn (show i < 32 by omega)) (fun y => c1 ⟨y.1, by simpa using y.2⟩)), if_neg (fun y => c1 (by simp at y; exact y.1))]
    · rw [if_pos (k12le g hi), if_pos g]
  have hs := kst_lt12 (fun u => decide (u < n) && decide (S 0 1 u = 0) && !decide (mX0_refusal (S 0) (nI u) (nI o) = 0)) (n := 12) (by omega)
  have hb := kst_bit (fun u => decide (u < n) && decide (S 0 1 u = 0) && !decide (mX0_refusal (S 0) (nI u) (nI o) = 0)) 12 t
  rw [e]
  generalize kst (fun u => decide (u < n) && decide (S 0 1 u = 0) && !decide (mX0_refusal (S 0) (nI u) (nI o) = 0)) 12 = s at hs hb ⊢
  by_cases c2 : mX0_refusal (S 0) (nI t) (nI o) = 0
  · rw [if_pos c2]
    have hb2 : s.testBit t = false := by rw [hb]; simp [c2]
    rw [kshr (by omega) (by omega), kand1 _ (Nat.lt_of_le_of_lt (Nat.div_le_self _ _) (by omega))]
    rw [Nat.testBit_eq_decide_div_mod_eq] at hb2
    have h3 : s / 2 ^ t % 2 < 2 := Nat.mod_lt _ (by decide)
    have h4 : ¬ s / 2 ^ t % 2 = 1 := by simpa using hb2
    rw [show s / 2 ^ t % 2 = 0 by omega]; rfl
  · rw [if_neg c2]
    have hb2 : s.testBit t = true := by rw [hb]; simp [c2, ht, ht0]; omega
    exact (bit_kct hs (by omega)).mpr hb2
theorem trip_A (hn : n ≤ 12) (h2 : S 0 0 2 = nI n) (hi : RI n m b c (S 0)) (hr4 : ρ < 4) (ht : t < n) (ht0 : S 0 1 t = 0) (hr : S 0 0 0 = nI ρ) : (mX5_triple S (nI t) 0 < 0) = ¬ mX0_refusal (S 0) (nI t) (nI ρ) = 2 := by
  rw [mX5_triple_s, if_neg (ex_1 hn h2 ht), if_neg (show ¬ (0 : Int32) < 0 by decide), if_pos (show (0 : Int32) ≤ 2 by decide), rA0 (by omega), if_pos ht0, hr]
  by_cases e : mX0_refusal (S 0) (nI t) (nI ρ) = 2
  · rw [if_pos e]
    rcases first_T hn h2 hi hr4 ht ht0 with ⟨a, p, o, x1, x2, x3, x4, x5⟩ | ⟨x1, x2⟩
    · rw [x5, (pk3_all a (by omega) p (by omega) o (by omega)).2.1]
      exact propext ⟨fun y => absurd y (nI_pos (by omega)), fun y => absurd e y⟩
    · exfalso
      rw [mX0_refusal_s, x2] at e
      by_cases c1 : mX0_isLaterWriter (S 0) (nI t) = 0
      · rw [if_pos c1, if_pos rfl] at e; exact absurd e (by decide)
      · rw [if_neg c1] at e; exact absurd e (by decide)
  · rw [if_neg e]
    exact propext ⟨fun _ => e, fun _ => by decide⟩
end ANS
