/-! the class's search; the reason -/
def pk3 (a p c : Nat) : Int32 := ((((nI p) <<< (4 &&& 31)) ||| (nI a)) <<< (4 &&& 31)) ||| (nI c)
theorem pk3_all : ∀ a, a < 12 → ∀ p, p < 12 → ∀ c, c < 12 → ¬ pk3 a p c = -6 ∧ mX0_partOfTriple (pk3 a p c) 0 = nI a ∧ mX0_partOfTriple (pk3 a p c) 1 = nI p ∧ mX0_partOfTriple (pk3 a p c) 2 = nI c := by decide +kernel
theorem rset_eq {u : kG} {r : Nat} {f : Nat → Int32} : rset u r f r = f := if_pos rfl
theorem rset_ne {u : kG} {r k : Nat} {f : Nat → Int32} (h : k ≠ r) : rset u r f k = u k := if_neg h
section A
variable {n m : Nat} {b c : Nat → Nat} {v u : kG} {i j : Nat}
theorem pE_t {a p : Nat} (hn : n ≤ 12) (ha : a < n) (hp : p < n) : (pE v a p = true) = EE v a p := by
  apply propext
  unfold pE
  simp only [Bool.not_eq_true', decide_eq_false_iff_not]
  rw [edgeK0 hn ha hp]
  exact Classical.not_not
theorem tog_k {t : Nat} (hn : n ≤ 12) (h2 : v 0 2 = nI n) (ht : t < n) : (mX2_inPhase v 1) ||| (1 <<< (nI t &&& 31)) = nI (kst (fun j => decide (v 1 j = 1)) n ||| 2 ^ t) := by
  rw [inPhase_k hn h2, kshl t (by omega), fa_or]
theorem tog_lt {t : Nat} (hn : n ≤ 12) (ht : t < n) : kst (fun j => decide (v 1 j = 1)) n ||| 2 ^ t < 4096 :=
  Nat.or_lt_two_pow (n := 12) (kst_lt12 _ hn) (Nat.pow_lt_pow_right (by decide) (by omega))
theorem tog_bit {t a : Nat} (ha : a < n) (ht : t < n) : (kst (fun j => decide (v 1 j = 1)) n ||| 2 ^ t).testBit a = decide (vC v t 1 a = 1) := by
  rw [Nat.testBit_or, kst_bit, Nat.testBit_two_pow, vC1]
  by_cases q : a = t
  · subst q; simp
  · have q' : ¬ t = a := fun z => q z.symm
    simp [q, q', ha]
theorem tog0 {t p : Nat} (hn : n ≤ 12) (h2 : v 0 2 = nI n) (ht : t < n) (hp : p < n) : (mX5_contains ((mX2_inPhase v 1) ||| (1 <<< (nI t &&& 31))) (nI p) = 0) = ¬ vC v t 1 p = 1 := by
  have := tog_lt (v := v) hn ht
  rw [tog_k hn h2 ht, kct0 (by omega) (by omega), tog_bit hp ht]
  simp
theorem src0 {t p a : Nat} (hn : n ≤ 12) (h2 : v 0 2 = nI n) (ht : t < n) (hp : p < n) (ha : a < n) : (mX5_contains ((mX2_edgesTo v (nI p)) &&& ((mX2_inPhase v 1) ||| (1 <<< (nI t &&& 31)))) (nI a) = 0) = ¬ (EE v a p ∧ vC v t 1 a = 1) := by
  rw [tog_k hn h2 ht, edgesTo_k hn h2, fa_and, kct0 (by have h3 := kst_lt12 (fun j => pE v j p) hn; exact Nat.lt_of_le_of_lt Nat.and_le_left (by omega)) (by omega), Nat.testBit_and, tog_bit ha ht, kst_bit]
  rw [← pE_t hn ha hp]
  simp [ha]
theorem tgt0 {t p a : Nat} (hn : n ≤ 12) (h2 : v 0 2 = nI n) (ht : t < n) (hp : p < n) (ha : a < n) : (mX5_contains ((mX2_edgesFrom v (nI p)) &&& ((mX2_inPhase v 1) ||| (1 <<< (nI t &&& 31)))) (nI a) = 0) = ¬ (EE v p a ∧ vC v t 1 a = 1) := by
  rw [tog_k hn h2 ht, edgesFrom_k hn h2, fa_and, kct0 (by have h3 := kst_lt12 (fun j => pE v p j) hn; exact Nat.lt_of_le_of_lt Nat.and_le_left (by omega)) (by omega), Nat.testBit_and, tog_bit ha ht, kst_bit]
  rw [← pE_t hn hp ha]
  simp [ha]
theorem counts_eq {r : Int32} {t a p k : Nat} (h : RE n (vC v t) (u 1)) (hi : RI n m b c v) (ht : t < n) (ht0 : v 1 t = 0) (ha : a < n) (hp : p < n) (hk : k < n) (d1 : vC v t 1 a = 1) (d2 : vC v t 1 p = 1) (d3 : vC v t 1 k = 1) (e2 : EE v p k) : mX0_counts v r (nI a) (nI p) (nI k) = mX6_counts u r (nI a) (nI p) (nI k) := by
  have hn := h.1
  have hm := hi.2.1
  have hpk : ¬ p = k := e2.1.1
  unfold mX0_counts mX6_counts
  rw [h.its2 hp, h.its2 hk, h.its2 ha, h.its4 ha, h.its1 ha, show vC v t 5 a = v 5 a from rfl, show vC v t 2 a = v 2 a from rfl, vC3, vC3, vC3, nI_clamp (n := a) (by omega), nI_clamp (n := p) (by omega), nI_clamp (n := k) (by omega)]
  rw [vC1] at d1 d2 d3
  have eak : (nI k = nI a) = (k = a) := propext (nI_eq (by omega) (by omega))
  by_cases r0 : r = 0
  · rw [if_pos r0, if_pos r0, if_pos r0]
  · rw [if_neg r0, if_neg r0, if_neg r0]
    by_cases r3 : r = 3
    · rw [if_pos r3, if_pos r3]
    · rw [if_neg r3, if_neg r3]
      have cm : ∀ x, x < n → ¬ x = t → (if x = t then (1 : Int32) else v 1 x) = 1 → v 1 x = 1 := fun x _ q z => by rw [if_neg q] at z; exact z
      by_cases kt : k = t
      · have pt : ¬ p = t := fun z => hpk (by rw [z, kt])
        have p1 := cm p hp pt d2
        obtain ⟨y1, y2, y3⟩ := hi.cm hp p1
        rw [if_neg (c := v 1 k = 1) (by rw [kt, ht0]; decide), if_pos kt, if_neg pt, y1, hi.1, nI_1, if_pos (nI_le (by omega) (by omega))]
      · have k1 := cm k hk kt d3
        obtain ⟨x1, x2, x3⟩ := hi.cm hk k1
        rw [if_pos k1, if_neg kt]
        obtain ⟨X, eX⟩ : ∃ X, X = (if r = 1 then (1 : Int32) else if v 5 a = 0 then (if v 2 a ≤ v 3 k then 0 else 1) else 1) := ⟨_, rfl⟩
        rw [← eX]
        have A : (if v 1 a = 1 then if v 3 k ≤ v 3 a then X else 0 else X) = (if nI k = nI a then X else if (if a = t then v 0 1 + 1 else v 3 a) ≤ v 3 k then 0 else X) := by
          by_cases at_ : a = t
          · rw [if_neg (c := v 1 a = 1) (by rw [at_, ht0]; decide), if_neg (c := nI k = nI a) (by rw [eak, at_]; exact kt), if_pos at_, hi.1, nI_1, x1, if_neg (nI_ge (by omega) (by omega))]
          · have a1 := cm a ha at_ d1
            obtain ⟨z1, z2, z3⟩ := hi.cm ha a1
            rw [if_pos a1, if_neg at_]
            by_cases ka : k = a
            · rw [if_pos (c := nI k = nI a) (by rw [eak]; exact ka), if_pos (c := v 3 k ≤ v 3 a) (by rw [ka]; exact Int32.le_refl _)]
            · have hne := hi.2.2.2.2.1 k a hk ha k1 a1 ka
              rw [if_neg (c := nI k = nI a) (by rw [eak]; exact ka), x1, z1]
              rcases Nat.lt_or_ge (c k) (c a) with y | y
              · rw [if_pos (nI_le (by omega) (by omega)), if_neg (nI_ge y (by omega))]
              · rw [if_neg (nI_ge (by omega) (by omega)), if_pos (nI_le y (by omega))]
        by_cases pt : p = t
        · rw [if_neg (c := v 1 p = 1) (by rw [pt, ht0]; decide), if_pos pt, hi.1, nI_1]
          rw [if_neg (c := nI (m + 1) ≤ v 3 k) (by rw [x1]; exact nI_ge (by omega) (by omega))]
          rw [A, hi.1, nI_1]
        · have p1 := cm p hp pt d2
          obtain ⟨y1, y2, y3⟩ := hi.cm hp p1
          have hne := hi.2.2.2.2.1 p k hp hk p1 k1 hpk
          rw [if_pos p1, if_neg pt, A]
          rcases Nat.lt_or_ge (c k) (c p) with y | y
          · rw [if_pos (c := v 3 k ≤ v 3 p) (by rw [x1, y1]; exact nI_le (by omega) (by omega)), if_neg (c := v 3 p ≤ v 3 k) (by rw [x1, y1]; exact nI_ge y (by omega))]
          · rw [if_neg (c := v 3 k ≤ v 3 p) (by rw [x1, y1]; exact nI_ge (by omega) (by omega)), if_pos (c := v 3 p ≤ v 3 k) (by rw [x1, y1]; exact nI_le y (by omega))]
theorem over_S {r : Int32} {t p : Nat} (h : RE n (vC v t) (u 1)) (h2 : v 0 2 = nI n) (hi : RI n m b c v) (ht : t < n) (ht0 : v 1 t = 0) (hp : p < n) (d2 : vC v t 1 p = 1) : mX0_firstOverPivot v (nI t) r (nI p) ((mX2_edgesTo v (nI p)) &&& ((mX2_inPhase v 1) ||| (1 <<< (nI t &&& 31)))) ((mX2_edgesFrom v (nI p)) &&& ((mX2_inPhase v 1) ||| (1 <<< (nI t &&& 31)))) = og (-6) (fun x => x) (s1 (fun a => s1 (fun c => gG (G3 v u t r a p c) (pk3 a p c)) n 13 0) n 13 0) := by
  have hn := h.1
  have eT : ∀ x, x < n → (nI x = nI t ↔ x = t) := fun x hx => nI_eq (by omega) (by omega)
  obtain ⟨SR, eS⟩ : ∃ SR, SR = (mX2_edgesTo v (nI p)) &&& ((mX2_inPhase v 1) ||| (1 <<< (nI t &&& 31))) := ⟨_, rfl⟩
  obtain ⟨TG, eG⟩ : ∃ TG, TG = (mX2_edgesFrom v (nI p)) &&& ((mX2_inPhase v 1) ||| (1 <<< (nI t &&& 31))) := ⟨_, rfl⟩
  have hS : ∀ a, a < n → (mX5_contains SR (nI a) = 0) = ¬ (EE v a p ∧ vC v t 1 a = 1) := fun a ha => by rw [eS]; exact src0 hn h2 ht hp ha
  have hG : ∀ a, a < n → (mX5_contains TG (nI a) = 0) = ¬ (EE v p a ∧ vC v t 1 a = 1) := fun a ha => by rw [eG]; exact tgt0 hn h2 ht hp ha
  rw [← eS, ← eG]
  refine s1_L (n := n) (ex := fun x => x) (mX0_firstOverPivot_L3 v (nI t) r (nI p) SR TG) (-6) (fun f a _ => ?_) 13 0 (Nat.zero_le _) (by omega)
  rw [mX0_firstOverPivot_L3_s, h2]
  rcases Nat.lt_or_ge a n with qa | qa
  · rw [if_neg (nI_ge qa (by omega)), if_neg (Nat.not_le.mpr qa)]
    refine s1_L (n := n) (ex := fun x => x) (mX0_firstOverPivot_L15 v (nI t) r (nI p) SR TG a (mX0_firstOverPivot_K15 v (nI t) r (nI p) SR TG a (mX0_firstOverPivot_L3 v (nI t) r (nI p) SR TG f))) (mX0_firstOverPivot_L3 v (nI t) r (nI p) SR TG f (a + 1)) (fun f2 k _ => ?_) 13 0 (Nat.zero_le _) (by omega)
    rw [mX0_firstOverPivot_L15_s, h2]
    rcases Nat.lt_or_ge k n with qk | qk
    · rw [if_neg (nI_ge qk (by omega)), if_neg (Nat.not_le.mpr qk)]
      by_cases d1 : mX5_contains SR (nI a) = 0
      · rw [if_pos d1]
        rw [hS a qa] at d1
        rw [gG_neg (G := G3 v u t r a p k) (fun z => d1 ⟨z.2.2.2.2.1, z.1⟩)]
        split
        · rfl
        · split
          · rfl
          · split <;> rfl
      · rw [if_neg d1]
        rw [hS a qa] at d1
        have d1' := Classical.byContradiction d1
        by_cases d3 : mX5_contains TG (nI k) = 0
        · rw [if_pos d3]
          rw [hG k qk] at d3
          rw [gG_neg (G := G3 v u t r a p k) (fun z => d3 ⟨z.2.2.2.2.2.1, z.2.2.1⟩)]
          split
          · rfl
          · split
            · rfl
            · split <;> rfl
        · rw [if_neg d3]
          rw [hG k qk] at d3
          have d3' := Classical.byContradiction d3
          rw [counts_eq (r := r) h hi ht ht0 qa hp qk d1'.2 d2 d3'.2 d3'.1]
          by_cases d6 : mX6_counts u r (nI a) (nI p) (nI k) = 0
          · rw [gG_neg (G := G3 v u t r a p k) (fun z => z.2.2.2.2.2.2 d6)]
            rw [if_pos d6]
            split
            · rfl
            · split
              · rfl
              · split <;> rfl
          · rw [if_neg d6]
            by_cases f1 : a = t
            · rw [if_pos ((eT a qa).mpr f1), gG_pos (G := G3 v u t r a p k) ⟨d1'.2, d2, d3'.2, Or.inl f1, d1'.1, d3'.1, d6⟩]; rfl
            · rw [if_neg (fun z => f1 ((eT a qa).mp z))]
              by_cases f2 : p = t
              · rw [if_pos ((eT p hp).mpr f2), gG_pos (G := G3 v u t r a p k) ⟨d1'.2, d2, d3'.2, Or.inr (Or.inl f2), d1'.1, d3'.1, d6⟩]; rfl
              · rw [if_neg (fun z => f2 ((eT p hp).mp z))]
                by_cases f3 : k = t
                · rw [if_pos ((eT k qk).mpr f3), gG_pos (G := G3 v u t r a p k) ⟨d1'.2, d2, d3'.2, Or.inr (Or.inr f3), d1'.1, d3'.1, d6⟩]; rfl
                · rw [if_neg (fun z => f3 ((eT k qk).mp z)), gG_neg (G := G3 v u t r a p k) (fun z => by
                    rcases z.2.2.2.1 with y | y | y
                    · exact f1 y
                    · exact f2 y
                    · exact f3 y)]; rfl
    · rw [if_pos (nI_le qk (by omega)), if_pos qk]; rfl
  · rw [if_pos (nI_le qa (by omega)), if_pos qa]
theorem first_S3 {r : Int32} {t : Nat} (h : RE n (vC v t) (u 1)) (h2 : v 0 2 = nI n) (hi : RI n m b c v) (ht : t < n) (ht0 : v 1 t = 0) : mX0_firstTriple v (nI t) r = og (-6) (fun x => x) (S3 (G3 v u t r) pk3 n) := by
  have hn := h.1
  unfold S3
  refine s1_L (n := n) (ex := fun x => x) (mX0_firstTriple_L13 v (nI t) r) (-6) (fun f p _ => ?_) 13 0 (Nat.zero_le _) (by omega)
  rw [mX0_firstTriple_L13_s, h2]
  rcases Nat.lt_or_ge p n with qp | qp
  · rw [if_neg (nI_ge qp (by omega)), if_neg (Nat.not_le.mpr qp)]
    by_cases d2 : vC v t 1 p = 1
    · rw [if_neg (kF (tog0 hn h2 ht qp) d2), over_S h h2 hi ht ht0 qp d2]
      cases e : s1 (fun a => s1 (fun c => gG (G3 v u t r a p c) (pk3 a p c)) n 13 0) n 13 0 with
      | none => exact if_pos rfl
      | some x =>
        obtain ⟨a, ha, e1⟩ := s1_some _ _ e
        obtain ⟨k, hk, e2⟩ := s1_some _ _ e1
        have ex : x = pk3 a p k := by
          rcases Classical.em (G3 v u t r a p k) with z | z
          · rw [gG_pos z] at e2; exact (Option.some.inj e2).symm
          · rw [gG_neg z] at e2; cases e2
        exact if_neg (c := x = -6) (by rw [ex]; exact (pk3_all a (by omega) p (by omega) k (by omega)).1)
    · rw [if_pos (kT (tog0 hn h2 ht qp) (d2))]
      rw [s1_none (fun a _ => s1_none (fun k _ => gG_neg (fun z => d2 z.2.1) _) _ _)]; rfl
  · rw [if_pos (nI_le qp (by omega)), if_pos qp]
/-! the reason -/
theorem lay_at {u : kG} {i j : Nat} {x : Int32} (hi : i < 12) (hj : j < 23) : mX6_lay u (nI i) (nI j) x = upd (u 1) (3 + 23 * i + j) x := by unfold mX6_lay; rw [itsNat hi hj]
theorem lay0 {u : kG} {x : Int32} (hi : i < 12) : mX6_lay u (nI i) 0 x = upd (u 1) (3 + 23 * i + 0) x := lay_at (j := 0) hi (by omega)
theorem lay1 {u : kG} {x : Int32} (hi : i < 12) : mX6_lay u (nI i) 1 x = upd (u 1) (3 + 23 * i + 1) x := lay_at (j := 1) hi (by omega)
theorem lay2 {u : kG} {x : Int32} (hi : i < 12) : mX6_lay u (nI i) 2 x = upd (u 1) (3 + 23 * i + 2) x := lay_at (j := 2) hi (by omega)
theorem lay3 {u : kG} {x : Int32} (hi : i < 12) : mX6_lay u (nI i) 3 x = upd (u 1) (3 + 23 * i + 3) x := lay_at (j := 3) hi (by omega)
theorem lay4 {u : kG} {x : Int32} (hi : i < 12) : mX6_lay u (nI i) 4 x = upd (u 1) (3 + 23 * i + 4) x := lay_at (j := 4) hi (by omega)
theorem lay5 {u : kG} {x : Int32} (hi : i < 12) : mX6_lay u (nI i) 5 x = upd (u 1) (3 + 23 * i + 5) x := lay_at (j := 5) hi (by omega)
theorem lay6 {u : kG} {x : Int32} (hi : i < 12) : mX6_lay u (nI i) 6 x = upd (u 1) (3 + 23 * i + 6) x := lay_at (j := 6) hi (by omega)
theorem layV {u : kG} {x : Int32} {k : Nat} (hi : i < 12) (hk : k < 16) : mX6_lay u (nI i) (7 + nI k) x = upd (u 1) (3 + 23 * i + (7 + k)) x := by
  rw [show (7 : Int32) = nI 7 from rfl, nI_add]; exact lay_at hi (by omega)
def zC (u : kG) (t : Nat) : Nat → Int32 := upd (upd (u 1) (3 + 23 * t + 0) 1) (3 + 23 * t + 2) (u 1 1 + 1)
theorem RE.vC (h : RE n v (u 1)) (hm : u 1 1 = v 0 1) {t : Nat} (ht : t < n) : RE n (vC v t) (zC u t) := by
  refine ⟨h.1, h.2.1, ?_, fun j hj => ?_⟩
  · unfold zC; rw [pk_un (by omega), pk_un (by omega)]; exact h.2.2.1
  · obtain ⟨a0, a1, a2, a3, a4, a5⟩ := h.2.2.2 j hj
    rw [vC1, vC3]
    unfold zC
    by_cases q : j = t
    · subst q
      rw [if_pos rfl, if_pos rfl]
      refine ⟨?_, ?_, ?_, ?_, ?_, ?_⟩
      · rw [pk_un (by omega), pk_us]
      · rw [pk_un (by omega), pk_un (by omega)]; exact a1
      · rw [pk_us, hm]
      · rw [pk_un (by omega), pk_un (by omega)]; exact a3
      · rw [pk_un (by omega), pk_un (by omega)]; exact a4
      · rw [pk_un (by omega), pk_un (by omega)]; exact a5
    · rw [if_neg q, if_neg q]
      refine ⟨?_, ?_, ?_, ?_, ?_, ?_⟩ <;> rw [pk_un (by omega), pk_un (by omega)]
      · exact a0
      · exact a1
      · exact a2
      · exact a3
      · exact a4
      · exact a5
theorem reason_go {r : Int32} {t : Nat} : ∀ f i, i ≤ 16 → 16 < f + i → (∀ k, i ≤ k → k < 16 → mX6_wrote u (nI t) (nI k) = 0 ∨ mX6_writerBehind u (nI k) (mX6_its u (nI t) 1) = -6) → mX6_reasonFor_L2 u (nI t) r f i = mX6_reasonFor_L2 u (nI t) r 1 16 := by
  intro f
  induction f with
  | zero => intro i h1 h2; omega
  | succ f ih =>
    intro i h1 h2 h3
    rcases Nat.lt_or_ge i 16 with q | q
    · rw [mX6_reasonFor_L2_s, if_neg (k16ge q)]
      have go := ih (i + 1) q (by omega) (fun k hk => h3 k (by omega))
      rcases h3 i (Nat.le_refl _) q with y | y
      · rw [if_pos y]; exact go
      · rw [if_pos y, go]; split <;> rfl
    · have e : i = 16 := by omega
      subst e
      rw [mX6_reasonFor_L2_s, if_pos (k16le q h1), mX6_reasonFor_L2_s, if_pos (k16le q h1)]
theorem reason_stop {r : Int32} {t : Nat} : ∀ f i, i ≤ 16 → 16 < f + i → (∃ k, i ≤ k ∧ k < 16 ∧ ¬ mX6_wrote u (nI t) (nI k) = 0 ∧ ¬ mX6_writerBehind u (nI k) (mX6_its u (nI t) 1) = -6) → mX6_reasonFor_L2 u (nI t) r f i = (1, u 0 2, u 0 3, u 0 4, u 1) := by
  intro f
  induction f with
  | zero => intro i h1 h2; omega
  | succ f ih =>
    intro i h1 h2 h3
    obtain ⟨k, k1, k2, k3, k4⟩ := h3
    have q : i < 16 := by omega
    rw [mX6_reasonFor_L2_s, if_neg (k16ge q)]
    have skip : (mX6_wrote u (nI t) (nI i) = 0 ∨ mX6_writerBehind u (nI i) (mX6_its u (nI t) 1) = -6) → mX6_reasonFor_L2 u (nI t) r f (i + 1) = (1, u 0 2, u 0 3, u 0 4, u 1) := by
      intro y
      refine ih (i + 1) q (by omega) ⟨k, ?_, k2, k3, k4⟩
      rcases Nat.lt_or_ge i k with z | z
      · exact z
      · have e : k = i := by omega
        rw [e] at k3 k4
        rcases y with y | y
        · exact absurd y k3
        · exact absurd y k4
    by_cases c1 : mX6_wrote u (nI t) (nI i) = 0
    · rw [if_pos c1]; exact skip (Or.inl c1)
    · rw [if_neg c1]
      by_cases c2 : mX6_writerBehind u (nI i) (mX6_its u (nI t) 1) = -6
      · rw [if_pos c2]; exact skip (Or.inr c2)
      · rw [if_neg c2]
theorem reason_end {r : Int32} {t : Nat} (ht : t < 12) (h0 : u 1 (3 + 23 * t + 0) = 0) (h2 : u 1 (3 + 23 * t + 2) = -6) : mX6_reasonFor_L2 u (nI t) r 1 16 = (if (mX6_findTriple (rset u 1 (zC u t)) (nI t) r).1 = 0 then 0 else 2, (mX6_findTriple (rset u 1 (zC u t)) (nI t) r).2.1, (mX6_findTriple (rset u 1 (zC u t)) (nI t) r).2.2.1, (mX6_findTriple (rset u 1 (zC u t)) (nI t) r).2.2.2, u 1) := by
  rw [mX6_reasonFor_L2_s, if_pos (k16le (Nat.le_refl _) (Nat.le_refl _))]
  dsimp only
  have e1 : mX6_lay u (nI t) 0 1 = upd (u 1) (3 + 23 * t + 0) 1 := lay0 ht
  have e2 : mX6_lay (rset u 1 (mX6_lay u (nI t) 0 1)) (nI t) 2 (mX6_lay u (nI t) 0 1 1 + 1) = zC u t := by
    rw [lay2 ht, rset_eq, e1, pk_un (by omega)]; rfl
  rw [e2]
  refine kGen (mX6_findTriple (rset u 1 (zC u t)) (nI t) r) (fun F eF => ?_)
  rw [eF]
  rw [lay0 ht, rset_ne (by decide), rset_eq, lay2 ht, rset_ne (by decide), rset_eq]
  have e3 : upd (upd (zC u t) (3 + 23 * t + 0) 0) (3 + 23 * t + 2) (-6) = u 1 := by
    funext q
    by_cases q2 : q = 3 + 23 * t + 2
    · subst q2; rw [pk_us, h2]
    · rw [pk_un q2]
      by_cases q0 : q = 3 + 23 * t + 0
      · subst q0; rw [pk_us, h0]
      · rw [pk_un q0]
        unfold zC
        rw [pk_un q2, pk_un q0]
  rw [e3]
  by_cases z : F.1 = 0
  · rw [if_pos z, if_pos z]
  · rw [if_neg z, if_neg z]
theorem reason_eq (h : RE n v (u 1)) (hi : RI n m b c v) (hm : u 1 1 = v 0 1) {t : Nat} (ht : t < n) (ht0 : v 1 t = 0) (r : Int32) :
    (mX6_reasonFor u (nI t) r).1 = mX0_refusal v (nI t) r ∧ (mX6_reasonFor u (nI t) r).2.2.2.2 = u 1 ∧
    (mX0_refusal v (nI t) r = 0 ∨ mX0_refusal v (nI t) r = 1 ∨ mX0_refusal v (nI t) r = 2) ∧
    (mX0_refusal v (nI t) r = 2 → mX0_partOfTriple (mX0_firstTriple v (nI t) r) 0 = (mX6_reasonFor u (nI t) r).2.1 ∧ mX0_partOfTriple (mX0_firstTriple v (nI t) r) 1 = (mX6_reasonFor u (nI t) r).2.2.1 ∧ mX0_partOfTriple (mX0_firstTriple v (nI t) r) 2 = (mX6_reasonFor u (nI t) r).2.2.2.1) := by
  have hn := h.1
  have key : ∀ k, mX6_writerBehind u (nI k) (mX6_its u (nI t) 1) = mX2_writerBehind v (nI k) (v 2 t) := fun k => by rw [h.its1 ht, wBehind_eq h hi]
  unfold mX6_reasonFor mX0_refusal
  by_cases c1 : mX0_isLaterWriter v (nI t) = 0
  · rw [if_pos c1]
    rw [later0 hn h.2.1 ht, LW_keys hn h.2.1 hi ht] at c1
    rw [reason_go 17 0 (by omega) (by omega) (fun k _ hk => by
      rw [key, h.wrote ht]
      by_cases z1 : mX5_contains (v 5 t) (nI k) = 0
      · exact Or.inl z1
      · by_cases z2 : mX2_writerBehind v (nI k) (v 2 t) = -6
        · exact Or.inr z2
        · exact absurd ⟨k, hk, z1, z2⟩ c1)]
    rw [reason_end (by omega) ((h.2.2.2 t ht).1.trans ht0) ((h.2.2.2 t ht).2.2.1.trans ((hi.2.2.1 t ht).2.2.2.2.2.1 (by rw [ht0]; decide)))]
    have hC : RE n (vC v t) ((rset u 1 (zC u t)) 1) := by rw [rset_eq]; exact h.vC hm ht
    have f1 := find_S3 (r := r) ht hC hi ht0
    have f2 := first_S3 (r := r) hC h.2.1 hi ht ht0
    rcases S3_cases (G := G3 v (rset u 1 (zC u t)) t r) (n := n) with z | ⟨a, p, k, ha, hp, hk, z⟩
    · rw [z] at f1 f2
      have f1' : mX6_findTriple (rset u 1 (zC u t)) (nI t) r = (0, (rset u 1 (zC u t)) 0 2, (rset u 1 (zC u t)) 0 3, (rset u 1 (zC u t)) 0 4) := f1
      have f2' : mX0_firstTriple v (nI t) r = -6 := f2
      rw [f1', f2', if_pos (c := (-6 : Int32) = -6) rfl]
      exact ⟨rfl, rfl, Or.inl rfl, fun z => absurd z (by decide)⟩
    · rw [z] at f1 f2
      have hp3 := pk3_all a (by omega) p (by omega) k (by omega)
      have f1' : mX6_findTriple (rset u 1 (zC u t)) (nI t) r = (1, nI a, nI p, nI k) := f1
      have f2' : mX0_firstTriple v (nI t) r = pk3 a p k := f2
      rw [f1', f2', if_neg hp3.1]
      exact ⟨rfl, rfl, Or.inr (Or.inr rfl), fun _ => hp3.2⟩
  · rw [if_neg c1]
    rw [later0 hn h.2.1 ht, LW_keys hn h.2.1 hi ht] at c1
    obtain ⟨k, hk, z1, z2⟩ := Classical.byContradiction c1
    rw [reason_stop 17 0 (by omega) (by omega) ⟨k, Nat.zero_le _, hk, by rw [h.wrote ht]; exact z1, by rw [key]; exact z2⟩]
    exact ⟨rfl, rfl, Or.inr (Or.inl rfl), fun z => absurd z (by decide)⟩
end A
