/-! undo, saving, the pad -/
section A
variable {n m B B' : Nat} {b c : Nat → Nat} {S S' : kS} {u u' v : kG} {x y : Int32}
theorem undo22 {k : Nat} (hk : k ≤ 5) (h0 : u 0 0 = nI (k + 1)) : ∀ f i F, i ≤ 279 → 279 < f + i → ∃ F', mX6_undo_L22 u f i F = (nI k, nI k, F') ∧ ∀ x, F' x = if i ≤ x ∧ x < 279 then u 2 (279 * k + x) else F x := by
  intro f
  induction f with
  | zero => intro i F h1 h2; omega
  | succ f ih =>
    intro i F h1 h2
    rw [mX6_undo_L22_s, h0, nI_pred]
    rcases Nat.lt_or_ge i 279 with q | q
    · rw [if_neg (c := (279 : Int32) ≤ nI i) (nI_ge (b := 279) q (by omega))]
      have e : ((nI k * 279) + nI i).toNatClampNeg = 279 * k + i := by
        rw [show (279 : Int32) = nI 279 from rfl, pk_mul, nI_add, nI_clamp (by omega)]; omega
      rw [e, nI_clamp (n := i) (by omega)]
      obtain ⟨F', e1, e2⟩ := ih (i + 1) (upd F i (u 2 (279 * k + i))) q (by omega)
      refine ⟨F', e1, fun x => ?_⟩
      rw [e2 x]
      by_cases c : i + 1 ≤ x ∧ x < 279
      · rw [if_pos c, if_pos ⟨by omega, c.2⟩]
      · rw [if_neg c]
        by_cases c2 : x = i
        · rw [c2, pk_us, if_pos ⟨Nat.le_refl _, by omega⟩]
        · rw [pk_un c2, if_neg (fun z => c ⟨by omega, z.2⟩)]
    · rw [if_pos (c := (279 : Int32) ≤ nI i) (nI_le (a := 279) q (by omega))]
      exact ⟨F, rfl, fun x => by rw [if_neg (by omega)]⟩
def uU (u : kG) (k : Int32) (z : Nat → Int32) : kG := rset (rset u 1 z) 0 (upd (u 0) 0 k)
theorem M_undo (h : RR B S u) : (mX5_undo S).1 = (mX6_undo u).1 ∧ RR B (mX5_undo S).2 (uU u (mX6_undo u).2.1 (mX6_undo u).2.2) := by
  have hRR := h
  obtain ⟨nx, k, p1, p2, p3, p4, p5, p6⟩ := h.2.1
  have eS : mX5_undo S = mX1_stepBack S := rfl
  rw [eS]
  unfold mX1_stepBack mX6_undo
  rw [p4, p5]
  cases k with
  | zero =>
    rw [if_pos (c := nI 0 = 0) rfl, if_pos (c := nI 0 = 0) rfl]
    exact ⟨rfl, hRR.congr (fun _ _ => rfl) rfl rfl rfl rfl rfl rfl rfl p5.symm rfl⟩
  | succ k =>
    rw [if_neg (nI_ne0 (by omega) (by omega)), if_neg (nI_ne0 (by omega) (by omega)), nI_pred]
    obtain ⟨F', e1, e2⟩ := undo22 (u := u) (k := k) (by omega) p5 280 0 (u 1) (by omega) (by omega)
    rw [e1]
    have eB : hisB S = nI ((nx + 6) % 7) := by
      unfold hisB
      rw [p3]
      cases nx with
      | zero => rw [if_pos (c := nI 0 ≤ 0) (by decide)]; rfl
      | succ nx => rw [if_neg (c := nI (nx + 1) ≤ 0) (nI_nle (by omega) (by omega)), nI_pred, show (nx + 1 + 6) % 7 = nx by omega]
    have eC : 3 + (hisB S).toNatClampNeg = hRow nx (k + 1) k := by
      rw [eB, nI_clamp (by omega)]; unfold hRow; omega
    rw [eC]
    dsimp only
    refine ⟨rfl, ?_, ?_, ?_, ?_⟩
    · rw [gset_eq]
      show RV B _ F'
      refine (kcp_RV (p6 k (by omega))).congr (fun _ _ => rfl) (fun _ _ _ _ _ => rfl) (fun _ _ => rfl) (fun q hq => ?_)
      rw [e2, if_pos ⟨Nat.zero_le _, hq⟩]
    · refine ⟨(nx + 6) % 7, k, by omega, by omega, ?_, ?_, rfl, fun i hi => ?_⟩
      · rw [gset_ne _ _ (by decide), gset_eq]
        show hisB S = _
        exact eB
      · rw [gset_ne _ _ (by decide), gset_eq]; rfl
      · have er : hRow ((nx + 6) % 7) k i = hRow nx (k + 1) i := by unfold hRow; omega
        rw [er, gset_ne _ _ (by unfold hRow; omega), gset_ne _ _ (by unfold hRow; omega)]
        exact p6 i (by omega)
    · refine hRR.2.2.1.congr (S' := _) (u' := _) ?_ ?_ ?_ rfl rfl
      · rw [gset_ne _ _ (by decide), gset_ne _ _ (by decide)]
      · rw [gset_ne _ _ (by decide), gset_ne _ _ (by decide)]
      · rw [gset_ne _ _ (by decide), gset_ne _ _ (by decide)]
    · refine hRR.2.2.2.congr (S' := _) (u' := _) ?_ ?_ rfl rfl
      · rw [gset_ne _ _ (by decide), gset_ne _ _ (by decide)]
      · rw [gset_ne _ _ (by decide), gset_ne _ _ (by decide)]
theorem slotN (hx : ¬ mX6_in x 0 1 = 0) : ∃ k, k < 2 ∧ x = nI k := by
  unfold mX6_in at hx
  by_cases c1 : x < 0
  · rw [if_pos c1] at hx; exact absurd rfl hx
  · rw [if_neg c1] at hx
    obtain ⟨j, hj, rfl⟩ := nI_of c1
    by_cases c2 : 1 < j
    · rw [if_pos (c := (1 : Int32) < nI j) (nI_lt (a := 1) c2 hj)] at hx; exact absurd rfl hx
    · exact ⟨j, by omega, rfl⟩
theorem save21 {k : Nat} (hk : k ≤ 1) : ∀ f i F, i ≤ 279 → 279 < f + i → ∃ F', mX6_save_L21 u (nI k) f i F = (u 1 2, F', upd (u 4) k (vp_nar .boolean 1)) ∧ ∀ x, F' x = if 279 * k + i ≤ x ∧ x < 279 * k + 279 then u 1 (x - 279 * k) else F x := by
  intro f
  induction f with
  | zero => intro i F h1 h2; omega
  | succ f ih =>
    intro i F h1 h2
    rw [mX6_save_L21_s]
    rcases Nat.lt_or_ge i 279 with q | q
    · rw [if_neg (c := (279 : Int32) ≤ nI i) (nI_ge (b := 279) q (by omega))]
      have e : ((nI k * 279) + nI i).toNatClampNeg = 279 * k + i := by
        rw [show (279 : Int32) = nI 279 from rfl, pk_mul, nI_add, nI_clamp (by omega)]; omega
      rw [e, nI_clamp (n := i) (by omega)]
      obtain ⟨F', e1, e2⟩ := ih (i + 1) (upd F (279 * k + i) (u 1 i)) q (by omega)
      refine ⟨F', e1, fun x => ?_⟩
      rw [e2 x]
      by_cases c : 279 * k + (i + 1) ≤ x ∧ x < 279 * k + 279
      · rw [if_pos c, if_pos ⟨by omega, c.2⟩]
      · rw [if_neg c]
        by_cases c2 : x = 279 * k + i
        · rw [c2, pk_us, if_pos ⟨Nat.le_refl _, by omega⟩]; exact congrArg (u 1) (by omega)
        · rw [pk_un c2, if_neg (fun z => c ⟨by omega, z.2⟩)]
    · rw [if_pos (c := (279 : Int32) ≤ nI i) (nI_le (a := 279) q (by omega)), nI_clamp (by omega)]
      exact ⟨F, rfl, fun x => by rw [if_neg (by omega)]⟩
def uS (u : kG) (f g : Nat → Int32) : kG := rset (rset u 3 f) 4 g
theorem M_save (h : RR B S u) : (mX5_save S x).1 = (mX6_save u x).1 ∧ RR B (mX5_save S x).2 (uS u (mX6_save u x).2.1 (mX6_save u x).2.2) := by
  have hRR := h
  obtain ⟨n, m, b, c, hB, hE, hI, hW, hR, a1, a2, a3⟩ := h.1
  unfold mX5_save mX6_save
  rw [slot_eq]
  by_cases c1 : mX6_in x 0 1 = 0
  · rw [if_pos c1, if_pos c1]
    exact ⟨rfl, hRR.1, hRR.2.1.congr (fun _ _ _ => rfl) rfl rfl rfl, hRR.2.2.1.congr rfl rfl rfl rfl rfl, hRR.2.2.2.congr rfl rfl rfl rfl⟩
  · rw [if_neg c1, if_neg c1]
    obtain ⟨k, hk, rfl⟩ := slotN c1
    obtain ⟨F', e1, e2⟩ := save21 (u := u) (k := k) (by omega) 280 0 (u 3) (by omega) (by omega)
    have eN : sloN (nI k) = 1 + k := by unfold sloN; rw [nI_clamp (by omega)]
    rw [e1, eN, nI_clamp (by omega)]
    dsimp only
    refine ⟨hE.2.1.trans hE.2.2.1.symm, ?_, ?_, ?_, ?_⟩
    · rw [gset_ne _ _ (by decide), gset_ne _ _ (by omega)]; exact hRR.1
    · refine hRR.2.1.congr (S' := _) (u' := _) (fun j h1 h2 => ?_) ?_ rfl rfl
      · rw [gset_ne _ _ (by omega), gset_ne _ _ (by omega)]
      · rw [gset_ne _ _ (by decide), gset_ne _ _ (by omega)]
    · intro i hi
      rw [gset_eq]
      have g4 : uS u F' (upd (u 4) k (vp_nar .boolean 1)) 4 = upd (u 4) k (vp_nar .boolean 1) := rfl
      have g3 : uS u F' (upd (u 4) k (vp_nar .boolean 1)) 3 = F' := rfl
      rw [g4, g3, rset_eq]
      by_cases ik : i = k
      · subst ik
        rw [pk_us, pk_us]
        refine ⟨rfl, fun _ => ?_⟩
        rw [gset_ne _ _ (by omega), gset_eq]
        refine (kcp_RV hRR.1).congr (fun _ _ => rfl) (fun _ _ _ _ _ => rfl) (fun _ _ => rfl) (fun q hq => ?_)
        rw [e2, if_pos ⟨by omega, by omega⟩]; exact congrArg (u 1) (by omega)
      · rw [pk_un ik, pk_un ik]
        refine ⟨(hRR.2.2.1 i hi).1, fun z => ?_⟩
        rw [gset_ne _ _ (by omega), gset_ne _ _ (by omega)]
        refine ((hRR.2.2.1 i hi).2 z).congr (fun _ _ => rfl) (fun _ _ _ _ _ => rfl) (fun _ _ => rfl) (fun q hq => ?_)
        rw [e2, if_neg (by omega)]
    · refine hRR.2.2.2.congr (S' := _) (u' := _) ?_ ?_ rfl rfl
      · rw [gset_ne _ _ (by decide), gset_ne _ _ (by omega)]
      · rw [gset_ne _ _ (by decide), gset_ne _ _ (by omega)]
theorem rest30 {k : Nat} (hk : k ≤ 1) {g : Int32 × (Nat → Int32)} : ∀ f i F, i ≤ 279 → 279 < f + i → ∃ F', mX6_restore_L30 u (nI k) g f i F = (F' 2, g.1, F', g.2) ∧ ∀ x, F' x = if i ≤ x ∧ x < 279 then u 3 (279 * k + x) else F x := by
  intro f
  induction f with
  | zero => intro i F h1 h2; omega
  | succ f ih =>
    intro i F h1 h2
    rw [mX6_restore_L30_s]
    rcases Nat.lt_or_ge i 279 with q | q
    · rw [if_neg (c := (279 : Int32) ≤ nI i) (nI_ge (b := 279) q (by omega))]
      have e : ((nI k * 279) + nI i).toNatClampNeg = 279 * k + i := by
        rw [show (279 : Int32) = nI 279 from rfl, pk_mul, nI_add, nI_clamp (by omega)]; omega
      rw [e, nI_clamp (n := i) (by omega)]
      obtain ⟨F', e1, e2⟩ := ih (i + 1) (upd F i (u 3 (279 * k + i))) q (by omega)
      refine ⟨F', e1, fun x => ?_⟩
      rw [e2 x]
      by_cases c : i + 1 ≤ x ∧ x < 279
      · rw [if_pos c, if_pos ⟨by omega, c.2⟩]
      · rw [if_neg c]
        by_cases c2 : x = i
        · rw [c2, pk_us, if_pos ⟨Nat.le_refl _, by omega⟩]
        · rw [pk_un c2, if_neg (fun z => c ⟨by omega, z.2⟩)]
    · rw [if_pos (c := (279 : Int32) ≤ nI i) (nI_le (a := 279) q (by omega))]
      exact ⟨F, rfl, fun x => by rw [if_neg (by omega)]⟩
theorem M_restore (h : RR B S u) : (mX5_restore S x).1 = (mX6_restore u x).1 ∧ RR B (mX5_restore S x).2 (uA u (mX6_restore u x).2.1 (mX6_restore u x).2.2.1 (mX6_restore u x).2.2.2) := by
  have hRR := h
  unfold mX5_restore mX6_restore
  rw [slot_eq]
  have st : RR B S (uA u (u 0 0) (u 1) (u 2)) := hRR.congr (fun _ _ => rfl) rfl rfl rfl rfl rfl rfl rfl rfl rfl
  by_cases c1 : mX6_in x 0 1 = 0
  · rw [if_pos c1, if_pos c1]; exact ⟨rfl, st⟩
  · rw [if_neg c1, if_neg c1]
    obtain ⟨k, hk, rfl⟩ := slotN c1
    rw [nI_clamp (by omega), (hRR.2.2.1 k hk).1]
    by_cases c2 : u 4 k = 0
    · rw [if_pos c2, if_pos c2]; exact ⟨rfl, st⟩
    · rw [if_neg c2, if_neg c2]
      have hs := (hRR.2.2.1 k hk).2 c2
      have eN : sloN (nI k) = 1 + k := by unfold sloN; rw [nI_clamp (by omega)]
      rw [eN]
      obtain ⟨G, eG⟩ : ∃ G, G = mX6_record u := ⟨_, rfl⟩
      rw [← eG]
      dsimp only
      obtain ⟨F', e1, e2⟩ := rest30 (u := u) (k := k) (by omega) (g := G) 280 0 (u 1) (by omega) (by omega)
      rw [e1]
      have e0 : mX1_prepare S 0 = S 0 := h.prep (Or.inl (by omega))
      have hz : RV B (kcp (S 0) (S (1 + k))) F' := (kcp_RV hs).congr (fun _ _ => rfl) (fun _ _ _ _ _ => rfl) (fun _ _ => rfl) (fun q hq => by rw [e2, if_pos ⟨Nat.zero_le _, hq⟩])
      obtain ⟨n, m, b, c, hB, hE, _⟩ := hz
      have hv2 : S (1 + k) 0 2 = nI n := hE.2.1
      have hF2 : F' 2 = nI n := hE.2.2.1
      have hn := hE.1
      have q := fin_ok (x := S (1 + k) 0 2) (v' := kcp (S 0) (S (1 + k))) (z' := F') (u' := uA u G.1 F' G.2) h (Nat.le_refl _) (by rw [hv2]; exact nI_pos (by omega)) ((kcp_RV hs).congr (fun _ _ => rfl) (fun _ _ _ _ _ => rfl) (fun _ _ => rfl) (fun q hq => by rw [e2, if_pos ⟨Nat.zero_le _, hq⟩])) rfl (by rw [← eG]; rfl) (by rw [← eG]; rfl) rfl rfl rfl rfl
      rw [hF2, ← hv2, e0]
      exact q
def uW (u : kG) (k : Int32) : kG := rset u 0 (upd (u 0) 1 k)
theorem M_wipe (h : RR B S u) : (mX5_wipe S).1 = (mX6_wipe u).1 ∧ RR B (mX5_wipe S).2 (uW u (mX6_wipe u).2) := by
  obtain ⟨L, p1, p2, p3, p4⟩ := h.2.2.2
  have eS : (mX5_wipe S).2 = gset S 12 (rset (S 12) 0 (upd ((S 12) 0) 0 0)) := rfl
  rw [eS]
  have g : ∀ j, j < 12 → gset S 12 (rset (S 12) 0 (upd ((S 12) 0) 0 0)) j = S j := fun j hj => gset_ne _ _ (by omega)
  refine ⟨p2.trans p3.symm, ?_, ?_, ?_, ?_⟩
  · rw [g 0 (by omega)]; exact h.1
  · exact h.2.1.congr (fun j h1 h2 => g j (by omega)) (g 11 (by omega)) rfl rfl
  · exact h.2.2.1.congr (g 1 (by omega)) (g 2 (by omega)) (g 10 (by omega)) rfl rfl
  · refine ⟨0, by omega, ?_, rfl, fun k hk => absurd hk (Nat.not_lt_zero k)⟩
    rw [gset_eq]; rfl
def uF (u : kG) (a b c : Int32) (o : Nat → Int32) : kG := rset (rset u 8 o) 0 (upd (upd (upd (u 0) 5 a) 6 b) 7 c)
theorem M_fault (h : RR B S u) : (mX5_fault S).1 = (mX6_fault u).1 ∧ RR B (mX5_fault S).2 (uF u (mX6_fault u).2.1 (mX6_fault u).2.2.1 (mX6_fault u).2.2.2.1 (mX6_fault u).2.2.2.2) := by
  obtain ⟨L, p1, p2, p3, p4⟩ := h.2.2.2
  have hf := fault_eq (v := S 12) (u := u) p2 p1 p3 p4
  obtain ⟨G, eG⟩ : ∃ G, G = mX3_firstFault (S 12) := ⟨_, rfl⟩
  have eS : mX5_fault S = (G.1, gset S 12 (rset (S 12) 0 (upd (upd (upd (upd (upd (upd ((S 12) 0) 1 (G.2.1)) 2 (G.2.2.1)) 3 (G.2.2.2.1)) 4 (G.2.2.2.2.1)) 5 (G.2.2.2.2.2.1)) 6 (G.2.2.2.2.2.2)))) := by rw [eG]; rfl
  rw [eS]
  rw [← eG] at hf
  dsimp only
  refine ⟨hf.1, h.congr (fun j hj => gset_ne _ _ (by omega)) ?_ ?_ rfl rfl rfl rfl rfl rfl rfl⟩
  · rw [gset_eq]; rfl
  · rw [gset_eq]; rfl
end A
