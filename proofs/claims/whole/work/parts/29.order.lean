theorem number_Lq {u : kG} {g : Int32 × Int32} {a : Nat} : ∀ (m : Nat) (v mo q : Int32), qB (u 0 1) q g.2 a → mo = ((mX6_letter (rset u 0 (upd (upd (u 0) 6 q) 7 (g.2)))) - 48) → qB (u 0 1) (mX6_number_L27 u g m v mo q).2.1 (mX6_number_L27 u g m v mo q).2.2 a := by
  intro m
  induction m with
  | zero =>
    intro v mo q h _
    obtain ⟨n, k, h1, h2, h3, h4, h5⟩ := h
    exact ⟨n, 0, h1, h2, rfl, by omega, fun z => absurd (show (0 : Int32) = (-6) from z) (by decide)⟩
  | succ m ih =>
    intro v mo q h hmo
    rw [mX6_number_L27_s]
    by_cases c1 : g.2 = (-6)
    · rw [if_pos c1]
      by_cases c2 : v ≤ 0
      · rw [if_pos c2]; exact h
      · rw [if_neg c2]
        by_cases c3 : mX6_in mo 0 9 = 0
        · rw [if_pos c3]; exact h
        · rw [if_neg c3]
          by_cases c4 : (999 : Int32) < ((10 * v) + mo)
          · rw [if_pos c4]; exact h
          · rw [if_neg c4]
            have hlt : qLt (u 0 1) q := dig_lt (u := rset u 0 (upd (upd (u 0) 6 q) 7 (g.2))) h (by rw [← hmo]; exact c3)
            exact ih _ _ _ (h.step hlt) rfl
    · rw [if_neg c1]; exact h
theorem number_q {u : kG} {a : Nat} (h : qB (u 0 1) (u 0 6) (u 0 7) a) : qB (u 0 1) (mX6_number u).2.1 (mX6_number u).2.2 (a + 1) := by
  rw [mX6_number_s]
  have hw : qB (u 0 1) (mX6_wants u (mX6_in ((mX6_letter u) - 48) 0 9)).1 (mX6_wants u (mX6_in ((mX6_letter u) - 48) 0 9)).2 (a + 1) := wants_q h (fun c => dig_lt h c)
  refine kGen (mX6_wants u (mX6_in ((mX6_letter u) - 48) 0 9)) (fun g e => ?_)
  rw [e] at hw ⊢
  exact number_Lq _ _ _ _ hw rfl
theorem lne {x k : Int32} (h : x = k) (hk : ¬ k = (-6)) : ¬ x = (-6) := by rw [h]; exact hk
/-- the orders read so far -/
def rO (om ty sp wr : Int32) : Prop := ∃ m0 : Nat, m0 ≤ 40 ∧ om = nI m0 ∧ qB ty sp wr (2 * m0)
theorem rOin (k : Nat) {om : Int32} {m0 : Nat} (h : m0 ≤ 40) (e : om = nI m0) (hk : k < 4) : vp_in ((4 * om) + nI k) 164 := by
  rw [e, show (4 : Int32) = nI 4 from rfl, pk_mul, nI_add]
  exact vp_in_nI (by omega) (by omega)
theorem rOin0 {om : Int32} {m0 : Nat} (h : m0 ≤ 40) (e : om = nI m0) : vp_in (4 * om) 164 := by
  rw [e, show (4 : Int32) = nI 4 from rfl, pk_mul]
  exact vp_in_nI (by omega) (by omega)
def kEq (a b : Int32) : Prop := a = b

def mX6_readOrder (u : kG) : Int32 × Int32 × Int32 × (Nat → Int32) :=
  if (mX6_letter u) = 119 then
    (fun (g_19 : Int32 × Int32) =>
      (fun (g_20 : Int32 × Int32 × Int32) =>
        if (mX6_letter (rset (rset u 8 (upd (upd (u 8) ((4 * (u 0 5))).toNatClampNeg (mX6_letter u)) (((4 * (u 0 5)) + 1)).toNatClampNeg (g_20.1))) 0 (upd (upd (u 0) 6 (g_20.2.1)) 7 (g_20.2.2)))) = 46 then
          (fun (g_29 : Int32 × Int32) =>
            (fun (g_30 : Int32 × Int32 × Int32) =>
              if (mX6_letter (rset (rset u 8 (upd (upd (upd (u 8) ((4 * (u 0 5))).toNatClampNeg (mX6_letter u)) (((4 * (u 0 5)) + 1)).toNatClampNeg (g_20.1)) (((4 * (u 0 5)) + 2)).toNatClampNeg (g_30.1))) 0 (upd (upd (u 0) 6 (g_30.2.1)) 7 (g_30.2.2)))) = 61 then
                (fun (g_34 : Int32 × Int32) =>
                  (fun (g_35 : Int32 × Int32 × Int32) =>
                    (((u 0 5) + 1), (g_35.2.1), (g_35.2.2), (upd (upd (upd (upd (u 8) ((4 * (u 0 5))).toNatClampNeg (mX6_letter u)) (((4 * (u 0 5)) + 1)).toNatClampNeg (g_20.1)) (((4 * (u 0 5)) + 2)).toNatClampNeg (g_30.1)) (((4 * (u 0 5)) + 3)).toNatClampNeg (g_35.1))))
                    (mX6_number (rset (rset u 8 (upd (upd (upd (u 8) ((4 * (u 0 5))).toNatClampNeg (mX6_letter u)) (((4 * (u 0 5)) + 1)).toNatClampNeg (g_20.1)) (((4 * (u 0 5)) + 2)).toNatClampNeg (g_30.1))) 0 (upd (upd (u 0) 6 (g_34.1)) 7 (g_34.2)))))
                  (mX6_wants (rset (rset u 8 (upd (upd (upd (u 8) ((4 * (u 0 5))).toNatClampNeg (mX6_letter u)) (((4 * (u 0 5)) + 1)).toNatClampNeg (g_20.1)) (((4 * (u 0 5)) + 2)).toNatClampNeg (g_30.1))) 0 (upd (upd (u 0) 6 (g_30.2.1)) 7 (g_30.2.2))) 1)
              else
                (fun (g_32 : Int32 × Int32) =>
                  (fun (g_33 : Int32 × Int32 × Int32) =>
                    (((u 0 5) + 1), (g_33.2.1), (g_33.2.2), (upd (upd (upd (upd (u 8) ((4 * (u 0 5))).toNatClampNeg (mX6_letter u)) (((4 * (u 0 5)) + 1)).toNatClampNeg (g_20.1)) (((4 * (u 0 5)) + 2)).toNatClampNeg (g_30.1)) (((4 * (u 0 5)) + 3)).toNatClampNeg (g_33.1))))
                    (mX6_number (rset (rset u 8 (upd (upd (upd (u 8) ((4 * (u 0 5))).toNatClampNeg (mX6_letter u)) (((4 * (u 0 5)) + 1)).toNatClampNeg (g_20.1)) (((4 * (u 0 5)) + 2)).toNatClampNeg (g_30.1))) 0 (upd (upd (u 0) 6 (g_32.1)) 7 (g_32.2)))))
                  (mX6_wants (rset (rset u 8 (upd (upd (upd (u 8) ((4 * (u 0 5))).toNatClampNeg (mX6_letter u)) (((4 * (u 0 5)) + 1)).toNatClampNeg (g_20.1)) (((4 * (u 0 5)) + 2)).toNatClampNeg (g_30.1))) 0 (upd (upd (u 0) 6 (g_30.2.1)) 7 (g_30.2.2))) 0))
              (mX6_number (rset (rset u 8 (upd (upd (u 8) ((4 * (u 0 5))).toNatClampNeg (mX6_letter u)) (((4 * (u 0 5)) + 1)).toNatClampNeg (g_20.1))) 0 (upd (upd (u 0) 6 (g_29.1)) 7 (g_29.2)))))
            (mX6_wants (rset (rset u 8 (upd (upd (u 8) ((4 * (u 0 5))).toNatClampNeg (mX6_letter u)) (((4 * (u 0 5)) + 1)).toNatClampNeg (g_20.1))) 0 (upd (upd (u 0) 6 (g_20.2.1)) 7 (g_20.2.2))) 1)
        else
          (fun (g_22 : Int32 × Int32) =>
            (fun (g_23 : Int32 × Int32 × Int32) =>
              if (mX6_letter (rset (rset u 8 (upd (upd (upd (u 8) ((4 * (u 0 5))).toNatClampNeg (mX6_letter u)) (((4 * (u 0 5)) + 1)).toNatClampNeg (g_20.1)) (((4 * (u 0 5)) + 2)).toNatClampNeg (g_23.1))) 0 (upd (upd (u 0) 6 (g_23.2.1)) 7 (g_23.2.2)))) = 61 then
                (fun (g_27 : Int32 × Int32) =>
                  (fun (g_28 : Int32 × Int32 × Int32) =>
                    (((u 0 5) + 1), (g_28.2.1), (g_28.2.2), (upd (upd (upd (upd (u 8) ((4 * (u 0 5))).toNatClampNeg (mX6_letter u)) (((4 * (u 0 5)) + 1)).toNatClampNeg (g_20.1)) (((4 * (u 0 5)) + 2)).toNatClampNeg (g_23.1)) (((4 * (u 0 5)) + 3)).toNatClampNeg (g_28.1))))
                    (mX6_number (rset (rset u 8 (upd (upd (upd (u 8) ((4 * (u 0 5))).toNatClampNeg (mX6_letter u)) (((4 * (u 0 5)) + 1)).toNatClampNeg (g_20.1)) (((4 * (u 0 5)) + 2)).toNatClampNeg (g_23.1))) 0 (upd (upd (u 0) 6 (g_27.1)) 7 (g_27.2)))))
                  (mX6_wants (rset (rset u 8 (upd (upd (upd (u 8) ((4 * (u 0 5))).toNatClampNeg (mX6_letter u)) (((4 * (u 0 5)) + 1)).toNatClampNeg (g_20.1)) (((4 * (u 0 5)) + 2)).toNatClampNeg (g_23.1))) 0 (upd (upd (u 0) 6 (g_23.2.1)) 7 (g_23.2.2))) 1)
              else
                (fun (g_25 : Int32 × Int32) =>
                  (fun (g_26 : Int32 × Int32 × Int32) =>
                    (((u 0 5) + 1), (g_26.2.1), (g_26.2.2), (upd (upd (upd (upd (u 8) ((4 * (u 0 5))).toNatClampNeg (mX6_letter u)) (((4 * (u 0 5)) + 1)).toNatClampNeg (g_20.1)) (((4 * (u 0 5)) + 2)).toNatClampNeg (g_23.1)) (((4 * (u 0 5)) + 3)).toNatClampNeg (g_26.1))))
                    (mX6_number (rset (rset u 8 (upd (upd (upd (u 8) ((4 * (u 0 5))).toNatClampNeg (mX6_letter u)) (((4 * (u 0 5)) + 1)).toNatClampNeg (g_20.1)) (((4 * (u 0 5)) + 2)).toNatClampNeg (g_23.1))) 0 (upd (upd (u 0) 6 (g_25.1)) 7 (g_25.2)))))
                  (mX6_wants (rset (rset u 8 (upd (upd (upd (u 8) ((4 * (u 0 5))).toNatClampNeg (mX6_letter u)) (((4 * (u 0 5)) + 1)).toNatClampNeg (g_20.1)) (((4 * (u 0 5)) + 2)).toNatClampNeg (g_23.1))) 0 (upd (upd (u 0) 6 (g_23.2.1)) 7 (g_23.2.2))) 0))
              (mX6_number (rset (rset u 8 (upd (upd (u 8) ((4 * (u 0 5))).toNatClampNeg (mX6_letter u)) (((4 * (u 0 5)) + 1)).toNatClampNeg (g_20.1))) 0 (upd (upd (u 0) 6 (g_22.1)) 7 (g_22.2)))))
            (mX6_wants (rset (rset u 8 (upd (upd (u 8) ((4 * (u 0 5))).toNatClampNeg (mX6_letter u)) (((4 * (u 0 5)) + 1)).toNatClampNeg (g_20.1))) 0 (upd (upd (u 0) 6 (g_20.2.1)) 7 (g_20.2.2))) 0))
        (mX6_number (rset (rset u 8 (upd (u 8) ((4 * (u 0 5))).toNatClampNeg (mX6_letter u))) 0 (upd (upd (u 0) 6 (g_19.1)) 7 (g_19.2)))))
      (mX6_wants u 1)
  else
    if (mX6_letter u) = 114 then
      (fun (g_3 : Int32 × Int32) =>
        (fun (g_4 : Int32 × Int32 × Int32) =>
          if (mX6_letter (rset (rset u 8 (upd (upd (u 8) ((4 * (u 0 5))).toNatClampNeg (mX6_letter u)) (((4 * (u 0 5)) + 1)).toNatClampNeg (g_4.1))) 0 (upd (upd (u 0) 6 (g_4.2.1)) 7 (g_4.2.2)))) = 46 then
            (fun (g_8 : Int32 × Int32) =>
              (fun (g_9 : Int32 × Int32 × Int32) =>
                (((u 0 5) + 1), (g_9.2.1), (g_9.2.2), (upd (upd (upd (u 8) ((4 * (u 0 5))).toNatClampNeg (mX6_letter u)) (((4 * (u 0 5)) + 1)).toNatClampNeg (g_4.1)) (((4 * (u 0 5)) + 2)).toNatClampNeg (g_9.1))))
                (mX6_number (rset (rset u 8 (upd (upd (u 8) ((4 * (u 0 5))).toNatClampNeg (mX6_letter u)) (((4 * (u 0 5)) + 1)).toNatClampNeg (g_4.1))) 0 (upd (upd (u 0) 6 (g_8.1)) 7 (g_8.2)))))
              (mX6_wants (rset (rset u 8 (upd (upd (u 8) ((4 * (u 0 5))).toNatClampNeg (mX6_letter u)) (((4 * (u 0 5)) + 1)).toNatClampNeg (g_4.1))) 0 (upd (upd (u 0) 6 (g_4.2.1)) 7 (g_4.2.2))) 1)
          else
            (fun (g_6 : Int32 × Int32) =>
              (fun (g_7 : Int32 × Int32 × Int32) =>
                (((u 0 5) + 1), (g_7.2.1), (g_7.2.2), (upd (upd (upd (u 8) ((4 * (u 0 5))).toNatClampNeg (mX6_letter u)) (((4 * (u 0 5)) + 1)).toNatClampNeg (g_4.1)) (((4 * (u 0 5)) + 2)).toNatClampNeg (g_7.1))))
                (mX6_number (rset (rset u 8 (upd (upd (u 8) ((4 * (u 0 5))).toNatClampNeg (mX6_letter u)) (((4 * (u 0 5)) + 1)).toNatClampNeg (g_4.1))) 0 (upd (upd (u 0) 6 (g_6.1)) 7 (g_6.2)))))
              (mX6_wants (rset (rset u 8 (upd (upd (u 8) ((4 * (u 0 5))).toNatClampNeg (mX6_letter u)) (((4 * (u 0 5)) + 1)).toNatClampNeg (g_4.1))) 0 (upd (upd (u 0) 6 (g_4.2.1)) 7 (g_4.2.2))) 0))
          (mX6_number (rset (rset u 8 (upd (u 8) ((4 * (u 0 5))).toNatClampNeg (mX6_letter u))) 0 (upd (upd (u 0) 6 (g_3.1)) 7 (g_3.2)))))
        (mX6_wants u 1)
    else
      if (mX6_letter u) = 99 then
        (fun (g_11 : Int32 × Int32) =>
          (fun (g_12 : Int32 × Int32 × Int32) =>
            (((u 0 5) + 1), (g_12.2.1), (g_12.2.2), (upd (upd (u 8) ((4 * (u 0 5))).toNatClampNeg (mX6_letter u)) (((4 * (u 0 5)) + 1)).toNatClampNeg (g_12.1))))
            (mX6_number (rset (rset u 8 (upd (u 8) ((4 * (u 0 5))).toNatClampNeg (mX6_letter u))) 0 (upd (upd (u 0) 6 (g_11.1)) 7 (g_11.2)))))
          (mX6_wants u 1)
      else
        if (mX6_letter u) = 120 then
          (fun (g_17 : Int32 × Int32) =>
            (fun (g_18 : Int32 × Int32 × Int32) =>
              (((u 0 5) + 1), (g_18.2.1), (g_18.2.2), (upd (upd (u 8) ((4 * (u 0 5))).toNatClampNeg (mX6_letter u)) (((4 * (u 0 5)) + 1)).toNatClampNeg (g_18.1))))
              (mX6_number (rset (rset u 8 (upd (u 8) ((4 * (u 0 5))).toNatClampNeg (mX6_letter u))) 0 (upd (upd (u 0) 6 (g_17.1)) 7 (g_17.2)))))
            (mX6_wants u 1)
        else
          if (mX6_letter u) = 98 then
            (fun (g_16 : Int32 × Int32) =>
              (((u 0 5) + 1), (g_16.1), (g_16.2), (upd (upd (u 8) ((4 * (u 0 5))).toNatClampNeg (mX6_letter u)) (((4 * (u 0 5)) + 1)).toNatClampNeg 0)))
              (mX6_wants u 1)
          else
            (fun (g_15 : Int32 × Int32) =>
              (((u 0 5) + 1), (g_15.1), (g_15.2), (upd (upd (u 8) ((4 * (u 0 5))).toNatClampNeg (mX6_letter u)) (((4 * (u 0 5)) + 1)).toNatClampNeg 0)))
              (mX6_wants u 0)
theorem mX6_readOrder_s {u : kG} : mX6_readOrder u = (
  if (mX6_letter u) = 119 then
    (fun (g_19 : Int32 × Int32) =>
      (fun (g_20 : Int32 × Int32 × Int32) =>
        if (mX6_letter (rset (rset u 8 (upd (upd (u 8) ((4 * (u 0 5))).toNatClampNeg (mX6_letter u)) (((4 * (u 0 5)) + 1)).toNatClampNeg (g_20.1))) 0 (upd (upd (u 0) 6 (g_20.2.1)) 7 (g_20.2.2)))) = 46 then
          (fun (g_29 : Int32 × Int32) =>
            (fun (g_30 : Int32 × Int32 × Int32) =>
              if (mX6_letter (rset (rset u 8 (upd (upd (upd (u 8) ((4 * (u 0 5))).toNatClampNeg (mX6_letter u)) (((4 * (u 0 5)) + 1)).toNatClampNeg (g_20.1)) (((4 * (u 0 5)) + 2)).toNatClampNeg (g_30.1))) 0 (upd (upd (u 0) 6 (g_30.2.1)) 7 (g_30.2.2)))) = 61 then
                (fun (g_34 : Int32 × Int32) =>
                  (fun (g_35 : Int32 × Int32 × Int32) =>
                    (((u 0 5) + 1), (g_35.2.1), (g_35.2.2), (upd (upd (upd (upd (u 8) ((4 * (u 0 5))).toNatClampNeg (mX6_letter u)) (((4 * (u 0 5)) + 1)).toNatClampNeg (g_20.1)) (((4 * (u 0 5)) + 2)).toNatClampNeg (g_30.1)) (((4 * (u 0 5)) + 3)).toNatClampNeg (g_35.1))))
                    (mX6_number (rset (rset u 8 (upd (upd (upd (u 8) ((4 * (u 0 5))).toNatClampNeg (mX6_letter u)) (((4 * (u 0 5)) + 1)).toNatClampNeg (g_20.1)) (((4 * (u 0 5)) + 2)).toNatClampNeg (g_30.1))) 0 (upd (upd (u 0) 6 (g_34.1)) 7 (g_34.2)))))
                  (mX6_wants (rset (rset u 8 (upd (upd (upd (u 8) ((4 * (u 0 5))).toNatClampNeg (mX6_letter u)) (((4 * (u 0 5)) + 1)).toNatClampNeg (g_20.1)) (((4 * (u 0 5)) + 2)).toNatClampNeg (g_30.1))) 0 (upd (upd (u 0) 6 (g_30.2.1)) 7 (g_30.2.2))) 1)
              else
                (fun (g_32 : Int32 × Int32) =>
                  (fun (g_33 : Int32 × Int32 × Int32) =>
                    (((u 0 5) + 1), (g_33.2.1), (g_33.2.2), (upd (upd (upd (upd (u 8) ((4 * (u 0 5))).toNatClampNeg (mX6_letter u)) (((4 * (u 0 5)) + 1)).toNatClampNeg (g_20.1)) (((4 * (u 0 5)) + 2)).toNatClampNeg (g_30.1)) (((4 * (u 0 5)) + 3)).toNatClampNeg (g_33.1))))
                    (mX6_number (rset (rset u 8 (upd (upd (upd (u 8) ((4 * (u 0 5))).toNatClampNeg (mX6_letter u)) (((4 * (u 0 5)) + 1)).toNatClampNeg (g_20.1)) (((4 * (u 0 5)) + 2)).toNatClampNeg (g_30.1))) 0 (upd (upd (u 0) 6 (g_32.1)) 7 (g_32.2)))))
                  (mX6_wants (rset (rset u 8 (upd (upd (upd (u 8) ((4 * (u 0 5))).toNatClampNeg (mX6_letter u)) (((4 * (u 0 5)) + 1)).toNatClampNeg (g_20.1)) (((4 * (u 0 5)) + 2)).toNatClampNeg (g_30.1))) 0 (upd (upd (u 0) 6 (g_30.2.1)) 7 (g_30.2.2))) 0))
              (mX6_number (rset (rset u 8 (upd (upd (u 8) ((4 * (u 0 5))).toNatClampNeg (mX6_letter u)) (((4 * (u 0 5)) + 1)).toNatClampNeg (g_20.1))) 0 (upd (upd (u 0) 6 (g_29.1)) 7 (g_29.2)))))
            (mX6_wants (rset (rset u 8 (upd (upd (u 8) ((4 * (u 0 5))).toNatClampNeg (mX6_letter u)) (((4 * (u 0 5)) + 1)).toNatClampNeg (g_20.1))) 0 (upd (upd (u 0) 6 (g_20.2.1)) 7 (g_20.2.2))) 1)
        else
          (fun (g_22 : Int32 × Int32) =>
            (fun (g_23 : Int32 × Int32 × Int32) =>
              if (mX6_letter (rset (rset u 8 (upd (upd (upd (u 8) ((4 * (u 0 5))).toNatClampNeg (mX6_letter u)) (((4 * (u 0 5)) + 1)).toNatClampNeg (g_20.1)) (((4 * (u 0 5)) + 2)).toNatClampNeg (g_23.1))) 0 (upd (upd (u 0) 6 (g_23.2.1)) 7 (g_23.2.2)))) = 61 then
                (fun (g_27 : Int32 × Int32) =>
                  (fun (g_28 : Int32 × Int32 × Int32) =>
                    (((u 0 5) + 1), (g_28.2.1), (g_28.2.2), (upd (upd (upd (upd (u 8) ((4 * (u 0 5))).toNatClampNeg (mX6_letter u)) (((4 * (u 0 5)) + 1)).toNatClampNeg (g_20.1)) (((4 * (u 0 5)) + 2)).toNatClampNeg (g_23.1)) (((4 * (u 0 5)) + 3)).toNatClampNeg (g_28.1))))
                    (mX6_number (rset (rset u 8 (upd (upd (upd (u 8) ((4 * (u 0 5))).toNatClampNeg (mX6_letter u)) (((4 * (u 0 5)) + 1)).toNatClampNeg (g_20.1)) (((4 * (u 0 5)) + 2)).toNatClampNeg (g_23.1))) 0 (upd (upd (u 0) 6 (g_27.1)) 7 (g_27.2)))))
                  (mX6_wants (rset (rset u 8 (upd (upd (upd (u 8) ((4 * (u 0 5))).toNatClampNeg (mX6_letter u)) (((4 * (u 0 5)) + 1)).toNatClampNeg (g_20.1)) (((4 * (u 0 5)) + 2)).toNatClampNeg (g_23.1))) 0 (upd (upd (u 0) 6 (g_23.2.1)) 7 (g_23.2.2))) 1)
              else
                (fun (g_25 : Int32 × Int32) =>
                  (fun (g_26 : Int32 × Int32 × Int32) =>
                    (((u 0 5) + 1), (g_26.2.1), (g_26.2.2), (upd (upd (upd (upd (u 8) ((4 * (u 0 5))).toNatClampNeg (mX6_letter u)) (((4 * (u 0 5)) + 1)).toNatClampNeg (g_20.1)) (((4 * (u 0 5)) + 2)).toNatClampNeg (g_23.1)) (((4 * (u 0 5)) + 3)).toNatClampNeg (g_26.1))))
                    (mX6_number (rset (rset u 8 (upd (upd (upd (u 8) ((4 * (u 0 5))).toNatClampNeg (mX6_letter u)) (((4 * (u 0 5)) + 1)).toNatClampNeg (g_20.1)) (((4 * (u 0 5)) + 2)).toNatClampNeg (g_23.1))) 0 (upd (upd (u 0) 6 (g_25.1)) 7 (g_25.2)))))
                  (mX6_wants (rset (rset u 8 (upd (upd (upd (u 8) ((4 * (u 0 5))).toNatClampNeg (mX6_letter u)) (((4 * (u 0 5)) + 1)).toNatClampNeg (g_20.1)) (((4 * (u 0 5)) + 2)).toNatClampNeg (g_23.1))) 0 (upd (upd (u 0) 6 (g_23.2.1)) 7 (g_23.2.2))) 0))
              (mX6_number (rset (rset u 8 (upd (upd (u 8) ((4 * (u 0 5))).toNatClampNeg (mX6_letter u)) (((4 * (u 0 5)) + 1)).toNatClampNeg (g_20.1))) 0 (upd (upd (u 0) 6 (g_22.1)) 7 (g_22.2)))))
            (mX6_wants (rset (rset u 8 (upd (upd (u 8) ((4 * (u 0 5))).toNatClampNeg (mX6_letter u)) (((4 * (u 0 5)) + 1)).toNatClampNeg (g_20.1))) 0 (upd (upd (u 0) 6 (g_20.2.1)) 7 (g_20.2.2))) 0))
        (mX6_number (rset (rset u 8 (upd (u 8) ((4 * (u 0 5))).toNatClampNeg (mX6_letter u))) 0 (upd (upd (u 0) 6 (g_19.1)) 7 (g_19.2)))))
      (mX6_wants u 1)
  else
    if (mX6_letter u) = 114 then
      (fun (g_3 : Int32 × Int32) =>
        (fun (g_4 : Int32 × Int32 × Int32) =>
          if (mX6_letter (rset (rset u 8 (upd (upd (u 8) ((4 * (u 0 5))).toNatClampNeg (mX6_letter u)) (((4 * (u 0 5)) + 1)).toNatClampNeg (g_4.1))) 0 (upd (upd (u 0) 6 (g_4.2.1)) 7 (g_4.2.2)))) = 46 then
            (fun (g_8 : Int32 × Int32) =>
              (fun (g_9 : Int32 × Int32 × Int32) =>
                (((u 0 5) + 1), (g_9.2.1), (g_9.2.2), (upd (upd (upd (u 8) ((4 * (u 0 5))).toNatClampNeg (mX6_letter u)) (((4 * (u 0 5)) + 1)).toNatClampNeg (g_4.1)) (((4 * (u 0 5)) + 2)).toNatClampNeg (g_9.1))))
                (mX6_number (rset (rset u 8 (upd (upd (u 8) ((4 * (u 0 5))).toNatClampNeg (mX6_letter u)) (((4 * (u 0 5)) + 1)).toNatClampNeg (g_4.1))) 0 (upd (upd (u 0) 6 (g_8.1)) 7 (g_8.2)))))
              (mX6_wants (rset (rset u 8 (upd (upd (u 8) ((4 * (u 0 5))).toNatClampNeg (mX6_letter u)) (((4 * (u 0 5)) + 1)).toNatClampNeg (g_4.1))) 0 (upd (upd (u 0) 6 (g_4.2.1)) 7 (g_4.2.2))) 1)
          else
            (fun (g_6 : Int32 × Int32) =>
              (fun (g_7 : Int32 × Int32 × Int32) =>
                (((u 0 5) + 1), (g_7.2.1), (g_7.2.2), (upd (upd (upd (u 8) ((4 * (u 0 5))).toNatClampNeg (mX6_letter u)) (((4 * (u 0 5)) + 1)).toNatClampNeg (g_4.1)) (((4 * (u 0 5)) + 2)).toNatClampNeg (g_7.1))))
                (mX6_number (rset (rset u 8 (upd (upd (u 8) ((4 * (u 0 5))).toNatClampNeg (mX6_letter u)) (((4 * (u 0 5)) + 1)).toNatClampNeg (g_4.1))) 0 (upd (upd (u 0) 6 (g_6.1)) 7 (g_6.2)))))
              (mX6_wants (rset (rset u 8 (upd (upd (u 8) ((4 * (u 0 5))).toNatClampNeg (mX6_letter u)) (((4 * (u 0 5)) + 1)).toNatClampNeg (g_4.1))) 0 (upd (upd (u 0) 6 (g_4.2.1)) 7 (g_4.2.2))) 0))
          (mX6_number (rset (rset u 8 (upd (u 8) ((4 * (u 0 5))).toNatClampNeg (mX6_letter u))) 0 (upd (upd (u 0) 6 (g_3.1)) 7 (g_3.2)))))
        (mX6_wants u 1)
    else
      if (mX6_letter u) = 99 then
        (fun (g_11 : Int32 × Int32) =>
          (fun (g_12 : Int32 × Int32 × Int32) =>
            (((u 0 5) + 1), (g_12.2.1), (g_12.2.2), (upd (upd (u 8) ((4 * (u 0 5))).toNatClampNeg (mX6_letter u)) (((4 * (u 0 5)) + 1)).toNatClampNeg (g_12.1))))
            (mX6_number (rset (rset u 8 (upd (u 8) ((4 * (u 0 5))).toNatClampNeg (mX6_letter u))) 0 (upd (upd (u 0) 6 (g_11.1)) 7 (g_11.2)))))
          (mX6_wants u 1)
      else
        if (mX6_letter u) = 120 then
          (fun (g_17 : Int32 × Int32) =>
            (fun (g_18 : Int32 × Int32 × Int32) =>
              (((u 0 5) + 1), (g_18.2.1), (g_18.2.2), (upd (upd (u 8) ((4 * (u 0 5))).toNatClampNeg (mX6_letter u)) (((4 * (u 0 5)) + 1)).toNatClampNeg (g_18.1))))
              (mX6_number (rset (rset u 8 (upd (u 8) ((4 * (u 0 5))).toNatClampNeg (mX6_letter u))) 0 (upd (upd (u 0) 6 (g_17.1)) 7 (g_17.2)))))
            (mX6_wants u 1)
        else
          if (mX6_letter u) = 98 then
            (fun (g_16 : Int32 × Int32) =>
              (((u 0 5) + 1), (g_16.1), (g_16.2), (upd (upd (u 8) ((4 * (u 0 5))).toNatClampNeg (mX6_letter u)) (((4 * (u 0 5)) + 1)).toNatClampNeg 0)))
              (mX6_wants u 1)
          else
            (fun (g_15 : Int32 × Int32) =>
              (((u 0 5) + 1), (g_15.1), (g_15.2), (upd (upd (u 8) ((4 * (u 0 5))).toNatClampNeg (mX6_letter u)) (((4 * (u 0 5)) + 1)).toNatClampNeg 0)))
              (mX6_wants u 0) : Int32 × Int32 × Int32 × (Nat → Int32)) := rfl
set_option maxHeartbeats 400000 in
set_option maxRecDepth 100000 in
theorem c_X6_readOrder (l : Launch) (E : kE) (b : Nat → Nat) (u : kG) (hj : kInj b 9) (hro : rO (u 0 5) (u 0 1) (u 0 6) (u 0 7)) (R : Int32 × Int32 × Int32 × (Nat → Int32)) (hE : R = mX6_readOrder u) : Met l yX6_readOrder wsX6_readOrder ({ frames := 2, cells := 0, slots := 0, locals := 44 }) (kPre E [.ref (b 0)] (wModx E b (u 0 0) (u 0 1) (u 0 2) (u 0 3) (u 0 4) (u 0 5) (u 0 6) (u 0 7) (u 1) (u 2) (u 3) (u 4) (u 5) (u 6) (u 7) (u 8))) (kWv E (wModx E b (u 0 0) (u 0 1) (u 0 2) (u 0 3) (u 0 4) R.1 R.2.1 R.2.2.1 (u 1) (u 2) (u 3) (u 4) (u 5) (u 6) (u 7) R.2.2.2) (kA b 9)) 0 0 (kA b 9) := by
  refine Met.ofW (cc := cX6_readOrder) (maxL := 6) (ret := none) (by decide) rfl ?_
  intro p e s m args below meth c s₁ B hml hv
  obtain ⟨rfl, hK, hP⟩ := hv
  have hx := B.exec
  have hb := B.bytes
  have hr := B.returns
  have hts := atoms_spec (ws := wsX6_readOrder) B.pre
  have hown : s.vm.findClass RX6 = some m.cls := findClass_of_methodNamed B.named
  have hlocks := B.notSynchronized
  have hiX6 : ∀ w ∈ wsX60, w ∈ wsX6_readOrder := by decide +kernel
  have hf33 := hts (.fieldLink RX6 33 "SkewEdgesModel" "orders" "[I") (by decide +kernel)
  have hf195 := hts (.fieldLink RX6 195 "SkewEdgesModel" "orderMany" "I") (by decide +kernel)
  have hS : va_S (kA b 9) s.heap s.heap [] := va_S.rf
  have hP : va_P E.1 vwCl (wModx E b (u 0 0) (u 0 1) (u 0 2) (u 0 3) (u 0 4) (u 0 5) (u 0 6) (u 0 7) (u 1) (u 2) (u 3) (u 4) (u 5) (u 6) (u 7) (u 8)) s.heap := hP
  have hD := dMod (E := E) hj (u 0 0) (u 0 1) (u 0 2) (u 0 3) (u 0 4) (u 0 5) (u 0 6) (u 0 7) (u 1) (u 2) (u 3) (u 4) (u 5) (u 6) (u 7) (u 8)
  have hl := lv_entry ([.ref (b 0)]) (n := 6) (Nat.le_of_ble_eq_true rfl)
  rw [lg_entry_eq]
  generalize (lg_sl ([.ref (b 0)]) ++ List.replicate (6 - (lg_sl ([.ref (b 0)])).length) Slot.unset).toArray = ls at hl ⊢
  have hl : lv_has ls 6 [(0, .ref (b 0))] := hl
  replace hE := hE.trans mX6_readOrder_s
  obtain ⟨m0, hm40, hom, hq⟩ := id hro
  refine lv_iconst (v := 4) hx hb dX6_readOrder_0 (by decide) ?_
  refine lv_aload_n hx hb dX6_readOrder_1 rfl (lv_at hl 0 rfl) ?_
  refine va_get (D := E.1) (ci := 5) (v := .int (u 0 5)) (C := RX6) (T := TX6) (N := 16) hx hb hts hiX6 hown hK.1 hP 0 rfl rfl 13 (by decide) hf195 (fun _ h9 => h9) rfl dX6_readOrder_2 ?_
  refine lv_imul hx hb dX6_readOrder_5 ?_
  refine lv_istore_n (lv' := [(1, .int (4 * (u 0 5))), (0, .ref (b 0))]) hx hb dX6_readOrder_6 rfl hl (by decide) rfl (fun ls hl => ?_)
  refine lv_aload_n hx hb dX6_readOrder_7 rfl (lv_at hl 1 rfl) ?_
  refine kCallRi (va_runV (As := []) (rest := []) ⟨hx, hb, hml, hown, hts⟩ (c_X6_letter l E b u hq.s _ rfl) (cwV 0 hts gX6_readOrder_X6_letter rfl rfl rfl (by decide +kernel) ⟨Nat.le_of_ble_eq_true rfl, Nat.le_of_ble_eq_true rfl⟩) (kPreV hK hP hP (q0 := 0) rfl rfl) rfl rfl hl.1 rfl (lv_room (Nat.le_of_ble_eq_true rfl)) dX6_readOrder_8 ⟨Nat.zero_le _, Nat.zero_le _⟩) ?_
  refine lv_istore_n (lv' := [(2, .int (mX6_letter u)), (1, .int (4 * (u 0 5))), (0, .ref (b 0))]) hx hb dX6_readOrder_11 rfl hl (by decide) rfl (fun ls hl => ?_)
  refine lv_iload_n hx hb dX6_readOrder_12 rfl (lv_at hl 0 rfl) ?_
  refine lv_bipush (v := 119) hx hb dX6_readOrder_13 (by decide) ?_
  refine lv_icmp_ne (tgt := 22) hx hb dX6_readOrder_15 (by decide) (fun c_1 => ?_) (fun c_1 => ?_)
  · replace hE := hE.trans (if_neg c_1)
    refine lv_iconst (v := 0) hx hb dX6_readOrder_22 (by decide) ?_
    refine lv_istore_n (lv' := [(3, .int 0), (2, .int (mX6_letter u)), (1, .int (4 * (u 0 5))), (0, .ref (b 0))]) hx hb dX6_readOrder_23 rfl hl (by decide) rfl (fun ls hl => ?_)
    refine lv_iload_n hx hb dX6_readOrder_24 rfl (lv_at hl 1 rfl) ?_
    refine lv_bipush (v := 114) hx hb dX6_readOrder_25 (by decide) ?_
    refine lv_icmp_eq (tgt := 34) hx hb dX6_readOrder_27 (by decide) (fun c_2 => ?_) (fun c_2 => ?_)
    · replace hE := hE.trans (if_pos c_2)
      refine lv_iconst (v := 1) hx hb dX6_readOrder_34 (by decide) ?_
      refine lv_goto (tgt := 39) hx hb dX6_readOrder_35 (by decide) ?_
      refine lv_istore (lv' := [(4, .int 1), (3, .int 0), (2, .int (mX6_letter u)), (1, .int (4 * (u 0 5))), (0, .ref (b 0))]) hx hb dX6_readOrder_39 hl (by decide) rfl (fun ls hl => ?_)
      refine lv_iload hx hb dX6_readOrder_41 (lv_at hl 0 rfl) ?_
      refine lv_if_ne (tgt := 58) hx hb dX6_readOrder_43 (by decide) (fun _ => ?_) (fun c => absurd c (by decide))
      refine lv_iconst (v := 1) hx hb dX6_readOrder_58 (by decide) ?_
      refine lv_goto (tgt := 63) hx hb dX6_readOrder_59 (by decide) ?_
      refine lv_istore (lv' := [(5, .int 1), (4, .int 1), (3, .int 0), (2, .int (mX6_letter u)), (1, .int (4 * (u 0 5))), (0, .ref (b 0))]) hx hb dX6_readOrder_63 hl (by decide) rfl (fun ls hl => ?_)
      refine lv_aload_n hx hb dX6_readOrder_65 rfl (lv_at hl 5 rfl) ?_
      refine lv_iload hx hb dX6_readOrder_66 (lv_at hl 0 rfl) ?_
      refine lv_if_ne (tgt := 77) hx hb dX6_readOrder_68 (by decide) (fun _ => ?_) (fun c => absurd c (by decide))
      refine lv_iconst (v := 1) hx hb dX6_readOrder_77 (by decide) ?_
      refine lv_goto (tgt := 82) hx hb dX6_readOrder_78 (by decide) ?_
      refine kCallWv (va_runV (As := [.int 1]) (rest := []) ⟨hx, hb, hml, hown, hts⟩ (c_X6_wants l E b u hj 1 _ rfl) (cwV 1 hts gX6_readOrder_X6_wants rfl rfl rfl (by decide +kernel) ⟨Nat.le_of_ble_eq_true rfl, Nat.le_of_ble_eq_true rfl⟩) (kPreV hK hP hP (q0 := 0) rfl rfl) rfl rfl hl.1 rfl (lv_room (Nat.le_of_ble_eq_true rfl)) dX6_readOrder_82 ⟨Nat.zero_le _, Nat.zero_le _⟩) hS (fun _ h => h) (fun H locs hP _ _ hS => ?_)
      have hw1 : qB (u 0 1) (mX6_wants u 1).1 (mX6_wants u 1).2 (2 * m0 + 1) := (wants_q (u := u) hq (fun c => by first | exact absurd rfl c | exact letter_lt (u := u) hq (lne (k := 119) (by assumption) (by decide)) | exact letter_lt (u := u) hq (lne (k := 114) (by assumption) (by decide)) | exact letter_lt (u := u) hq (lne (k := 99) (by assumption) (by decide)) | exact letter_lt (u := u) hq (lne (k := 120) (by assumption) (by decide)) | exact letter_lt (u := u) hq (lne (k := 98) (by assumption) (by decide)))).weak (by omega)
      refine kGen (mX6_wants u 1) (fun g_3 hg_3 => ?_)
      rw [hg_3] at hE hP hw1
      try dsimp only at hE
      have hP : va_P E.1 vwCl (wModx E b (u 0 0) (u 0 1) (u 0 2) (u 0 3) (u 0 4) (u 0 5) (g_3.1) (g_3.2) (u 1) (u 2) (u 3) (u 4) (u 5) (u 6) (u 7) (u 8)) H := hP
      have hD := dMod (E := E) hj (u 0 0) (u 0 1) (u 0 2) (u 0 3) (u 0 4) (u 0 5) (g_3.1) (g_3.2) (u 1) (u 2) (u 3) (u 4) (u 5) (u 6) (u 7) (u 8)
      refine lv_aload_n hx hb dX6_readOrder_85 rfl (lv_at hl 5 rfl) ?_
      refine va_get (D := E.1) (ci := 5) (v := .ref (b 8)) (C := RX6) (T := TX6) (N := 16) hx hb hts hiX6 hown hK.1 hP 0 rfl rfl 12 (by decide) hf33 (fun _ h9 => h9) rfl dX6_readOrder_86 ?_
      refine lv_iload_n hx hb dX6_readOrder_89 rfl (lv_at hl 4 rfl) ?_
      refine lv_iload_n hx hb dX6_readOrder_90 rfl (lv_at hl 3 rfl) ?_
      refine va_iast (D := E.1) hx hb hK.1 hP hD hS 8 0 rfl rfl (rOin0 hm40 hom) dX6_readOrder_91 (fun H locs hP _ hS => ?_)
      have hP : va_P E.1 vwCl (wModx E b (u 0 0) (u 0 1) (u 0 2) (u 0 3) (u 0 4) (u 0 5) (g_3.1) (g_3.2) (u 1) (u 2) (u 3) (u 4) (u 5) (u 6) (u 7) (upd (u 8) ((4 * (u 0 5))).toNatClampNeg (mX6_letter u))) H := hP
      have hD := dMod (E := E) hj (u 0 0) (u 0 1) (u 0 2) (u 0 3) (u 0 4) (u 0 5) (g_3.1) (g_3.2) (u 1) (u 2) (u 3) (u 4) (u 5) (u 6) (u 7) (upd (u 8) ((4 * (u 0 5))).toNatClampNeg (mX6_letter u))
      refine lv_aload_n hx hb dX6_readOrder_92 rfl (lv_at hl 5 rfl) ?_
      refine va_get (D := E.1) (ci := 5) (v := .ref (b 8)) (C := RX6) (T := TX6) (N := 16) hx hb hts hiX6 hown hK.1 hP 0 rfl rfl 12 (by decide) hf33 (fun _ h9 => h9) rfl dX6_readOrder_93 ?_
      refine lv_iload_n hx hb dX6_readOrder_96 rfl (lv_at hl 4 rfl) ?_
      refine lv_iconst (v := 1) hx hb dX6_readOrder_97 (by decide) ?_
      refine lv_iadd hx hb dX6_readOrder_98 ?_
      refine lv_iload hx hb dX6_readOrder_99 (lv_at hl 0 rfl) ?_
      refine lv_if_eq (tgt := 111) hx hb dX6_readOrder_101 (by decide) (fun c => absurd c (by decide)) (fun _ => ?_)
      refine lv_aload_n hx hb dX6_readOrder_104 rfl (lv_at hl 5 rfl) ?_
      refine kCallWi (va_runV (As := []) (rest := [.int ((4 * (u 0 5)) + 1), .ref (b 8)]) ⟨hx, hb, hml, hown, hts⟩ (c_X6_number l E b (rset (rset u 8 (upd (u 8) ((4 * (u 0 5))).toNatClampNeg (mX6_letter u))) 0 (upd (upd (u 0) 6 (g_3.1)) 7 (g_3.2))) hj (hw1.weak (by omega)) _ rfl) (cwV 0 hts gX6_readOrder_X6_number rfl rfl rfl (by decide +kernel) ⟨Nat.le_of_ble_eq_true rfl, Nat.le_of_ble_eq_true rfl⟩) (kPreV hK hP hP (q0 := 0) rfl rfl) rfl rfl hl.1 rfl (lv_room (Nat.le_of_ble_eq_true rfl)) dX6_readOrder_105 ⟨Nat.zero_le _, Nat.zero_le _⟩) hS (fun _ h => h) (fun H locs hP _ _ hS => ?_)
      have hn1 : qB (u 0 1) (mX6_number (rset (rset u 8 (upd (u 8) ((4 * (u 0 5))).toNatClampNeg (mX6_letter u))) 0 (upd (upd (u 0) 6 (g_3.1)) 7 (g_3.2)))).2.1 (mX6_number (rset (rset u 8 (upd (u 8) ((4 * (u 0 5))).toNatClampNeg (mX6_letter u))) 0 (upd (upd (u 0) 6 (g_3.1)) 7 (g_3.2)))).2.2 (2 * m0 + 1) := (number_q (u := (rset (rset u 8 (upd (u 8) ((4 * (u 0 5))).toNatClampNeg (mX6_letter u))) 0 (upd (upd (u 0) 6 (g_3.1)) 7 (g_3.2)))) hw1).weak (by omega)
      refine kGen (mX6_number (rset (rset u 8 (upd (u 8) ((4 * (u 0 5))).toNatClampNeg (mX6_letter u))) 0 (upd (upd (u 0) 6 (g_3.1)) 7 (g_3.2)))) (fun g_4 hg_4 => ?_)
      rw [hg_4] at hE hP hn1 ⊢
      try dsimp only at hE
      have hP : va_P E.1 vwCl (wModx E b (u 0 0) (u 0 1) (u 0 2) (u 0 3) (u 0 4) (u 0 5) (g_4.2.1) (g_4.2.2) (u 1) (u 2) (u 3) (u 4) (u 5) (u 6) (u 7) (upd (u 8) ((4 * (u 0 5))).toNatClampNeg (mX6_letter u))) H := hP
      have hD := dMod (E := E) hj (u 0 0) (u 0 1) (u 0 2) (u 0 3) (u 0 4) (u 0 5) (g_4.2.1) (g_4.2.2) (u 1) (u 2) (u 3) (u 4) (u 5) (u 6) (u 7) (upd (u 8) ((4 * (u 0 5))).toNatClampNeg (mX6_letter u))
      refine lv_goto (tgt := 112) hx hb dX6_readOrder_108 (by decide) ?_
      refine va_iast (D := E.1) hx hb hK.1 hP hD hS 8 0 rfl rfl (rOin 1 hm40 hom (by omega)) dX6_readOrder_112 (fun H locs hP _ hS => ?_)
      have hP : va_P E.1 vwCl (wModx E b (u 0 0) (u 0 1) (u 0 2) (u 0 3) (u 0 4) (u 0 5) (g_4.2.1) (g_4.2.2) (u 1) (u 2) (u 3) (u 4) (u 5) (u 6) (u 7) (upd (upd (u 8) ((4 * (u 0 5))).toNatClampNeg (mX6_letter u)) (((4 * (u 0 5)) + 1)).toNatClampNeg (g_4.1))) H := hP
      have hD := dMod (E := E) hj (u 0 0) (u 0 1) (u 0 2) (u 0 3) (u 0 4) (u 0 5) (g_4.2.1) (g_4.2.2) (u 1) (u 2) (u 3) (u 4) (u 5) (u 6) (u 7) (upd (upd (u 8) ((4 * (u 0 5))).toNatClampNeg (mX6_letter u)) (((4 * (u 0 5)) + 1)).toNatClampNeg (g_4.1))
      refine lv_iload hx hb dX6_readOrder_113 (lv_at hl 1 rfl) ?_
      refine lv_if_eq (tgt := 148) hx hb dX6_readOrder_115 (by decide) (fun c => absurd c (by decide)) (fun _ => ?_)
      refine lv_aload_n hx hb dX6_readOrder_118 rfl (lv_at hl 5 rfl) ?_
      refine lv_aload_n hx hb dX6_readOrder_119 rfl (lv_at hl 5 rfl) ?_
      refine kCallRi (va_runV (As := []) (rest := [.ref (b 0)]) ⟨hx, hb, hml, hown, hts⟩ (c_X6_letter l E b (rset (rset u 8 (upd (upd (u 8) ((4 * (u 0 5))).toNatClampNeg (mX6_letter u)) (((4 * (u 0 5)) + 1)).toNatClampNeg (g_4.1))) 0 (upd (upd (u 0) 6 (g_4.2.1)) 7 (g_4.2.2))) hn1.s _ rfl) (cwV 0 hts gX6_readOrder_X6_letter rfl rfl rfl (by decide +kernel) ⟨Nat.le_of_ble_eq_true rfl, Nat.le_of_ble_eq_true rfl⟩) (kPreV hK hP hP (q0 := 0) rfl rfl) rfl rfl hl.1 rfl (lv_room (Nat.le_of_ble_eq_true rfl)) dX6_readOrder_120 ⟨Nat.zero_le _, Nat.zero_le _⟩) ?_
      refine lv_bipush (v := 46) hx hb dX6_readOrder_123 (by decide) ?_
      refine lv_icmp_ne (tgt := 132) hx hb dX6_readOrder_125 (by decide) (fun c_5 => ?_) (fun c_5 => ?_)
      · replace hE := hE.trans (if_neg c_5)
        refine lv_iconst (v := 0) hx hb dX6_readOrder_132 (by decide) ?_
        refine kCallWv (va_runV (As := [.int 0]) (rest := []) ⟨hx, hb, hml, hown, hts⟩ (c_X6_wants l E b (rset (rset u 8 (upd (upd (u 8) ((4 * (u 0 5))).toNatClampNeg (mX6_letter u)) (((4 * (u 0 5)) + 1)).toNatClampNeg (g_4.1))) 0 (upd (upd (u 0) 6 (g_4.2.1)) 7 (g_4.2.2))) hj 0 _ rfl) (cwV 1 hts gX6_readOrder_X6_wants rfl rfl rfl (by decide +kernel) ⟨Nat.le_of_ble_eq_true rfl, Nat.le_of_ble_eq_true rfl⟩) (kPreV hK hP hP (q0 := 0) rfl rfl) rfl rfl hl.1 rfl (lv_room (Nat.le_of_ble_eq_true rfl)) dX6_readOrder_133 ⟨Nat.zero_le _, Nat.zero_le _⟩) hS (fun _ h => h) (fun H locs hP _ _ hS => ?_)
        have hw2 : qB (u 0 1) (mX6_wants (rset (rset u 8 (upd (upd (u 8) ((4 * (u 0 5))).toNatClampNeg (mX6_letter u)) (((4 * (u 0 5)) + 1)).toNatClampNeg (g_4.1))) 0 (upd (upd (u 0) 6 (g_4.2.1)) 7 (g_4.2.2))) 0).1 (mX6_wants (rset (rset u 8 (upd (upd (u 8) ((4 * (u 0 5))).toNatClampNeg (mX6_letter u)) (((4 * (u 0 5)) + 1)).toNatClampNeg (g_4.1))) 0 (upd (upd (u 0) 6 (g_4.2.1)) 7 (g_4.2.2))) 0).2 (2 * m0 + 1) := (wants_q (u := (rset (rset u 8 (upd (upd (u 8) ((4 * (u 0 5))).toNatClampNeg (mX6_letter u)) (((4 * (u 0 5)) + 1)).toNatClampNeg (g_4.1))) 0 (upd (upd (u 0) 6 (g_4.2.1)) 7 (g_4.2.2)))) hn1 (fun c => by first | exact absurd rfl c | exact letter_lt (u := (rset (rset u 8 (upd (upd (u 8) ((4 * (u 0 5))).toNatClampNeg (mX6_letter u)) (((4 * (u 0 5)) + 1)).toNatClampNeg (g_4.1))) 0 (upd (upd (u 0) 6 (g_4.2.1)) 7 (g_4.2.2)))) hn1 (lne (k := 46) (by assumption) (by decide)))).weak (by omega)
        refine kGen (mX6_wants (rset (rset u 8 (upd (upd (u 8) ((4 * (u 0 5))).toNatClampNeg (mX6_letter u)) (((4 * (u 0 5)) + 1)).toNatClampNeg (g_4.1))) 0 (upd (upd (u 0) 6 (g_4.2.1)) 7 (g_4.2.2))) 0) (fun g_6 hg_6 => ?_)
        rw [hg_6] at hE hP hw2
        try dsimp only at hE
        have hP : va_P E.1 vwCl (wModx E b (u 0 0) (u 0 1) (u 0 2) (u 0 3) (u 0 4) (u 0 5) (g_6.1) (g_6.2) (u 1) (u 2) (u 3) (u 4) (u 5) (u 6) (u 7) (upd (upd (u 8) ((4 * (u 0 5))).toNatClampNeg (mX6_letter u)) (((4 * (u 0 5)) + 1)).toNatClampNeg (g_4.1))) H := hP
        have hD := dMod (E := E) hj (u 0 0) (u 0 1) (u 0 2) (u 0 3) (u 0 4) (u 0 5) (g_6.1) (g_6.2) (u 1) (u 2) (u 3) (u 4) (u 5) (u 6) (u 7) (upd (upd (u 8) ((4 * (u 0 5))).toNatClampNeg (mX6_letter u)) (((4 * (u 0 5)) + 1)).toNatClampNeg (g_4.1))
        refine lv_aload_n hx hb dX6_readOrder_136 rfl (lv_at hl 5 rfl) ?_
        refine va_get (D := E.1) (ci := 5) (v := .ref (b 8)) (C := RX6) (T := TX6) (N := 16) hx hb hts hiX6 hown hK.1 hP 0 rfl rfl 12 (by decide) hf33 (fun _ h9 => h9) rfl dX6_readOrder_137 ?_
        refine lv_iload_n hx hb dX6_readOrder_140 rfl (lv_at hl 4 rfl) ?_
        refine lv_iconst (v := 2) hx hb dX6_readOrder_141 (by decide) ?_
        refine lv_iadd hx hb dX6_readOrder_142 ?_
        refine lv_aload_n hx hb dX6_readOrder_143 rfl (lv_at hl 5 rfl) ?_
        refine kCallWi (va_runV (As := []) (rest := [.int ((4 * (u 0 5)) + 2), .ref (b 8)]) ⟨hx, hb, hml, hown, hts⟩ (c_X6_number l E b (rset (rset u 8 (upd (upd (u 8) ((4 * (u 0 5))).toNatClampNeg (mX6_letter u)) (((4 * (u 0 5)) + 1)).toNatClampNeg (g_4.1))) 0 (upd (upd (u 0) 6 (g_6.1)) 7 (g_6.2))) hj (hw2.weak (by omega)) _ rfl) (cwV 0 hts gX6_readOrder_X6_number rfl rfl rfl (by decide +kernel) ⟨Nat.le_of_ble_eq_true rfl, Nat.le_of_ble_eq_true rfl⟩) (kPreV hK hP hP (q0 := 0) rfl rfl) rfl rfl hl.1 rfl (lv_room (Nat.le_of_ble_eq_true rfl)) dX6_readOrder_144 ⟨Nat.zero_le _, Nat.zero_le _⟩) hS (fun _ h => h) (fun H locs hP _ _ hS => ?_)
        have hn2 : qB (u 0 1) (mX6_number (rset (rset u 8 (upd (upd (u 8) ((4 * (u 0 5))).toNatClampNeg (mX6_letter u)) (((4 * (u 0 5)) + 1)).toNatClampNeg (g_4.1))) 0 (upd (upd (u 0) 6 (g_6.1)) 7 (g_6.2)))).2.1 (mX6_number (rset (rset u 8 (upd (upd (u 8) ((4 * (u 0 5))).toNatClampNeg (mX6_letter u)) (((4 * (u 0 5)) + 1)).toNatClampNeg (g_4.1))) 0 (upd (upd (u 0) 6 (g_6.1)) 7 (g_6.2)))).2.2 (2 * m0 + 1) := (number_q (u := (rset (rset u 8 (upd (upd (u 8) ((4 * (u 0 5))).toNatClampNeg (mX6_letter u)) (((4 * (u 0 5)) + 1)).toNatClampNeg (g_4.1))) 0 (upd (upd (u 0) 6 (g_6.1)) 7 (g_6.2)))) hw2).weak (by omega)
        refine kGen (mX6_number (rset (rset u 8 (upd (upd (u 8) ((4 * (u 0 5))).toNatClampNeg (mX6_letter u)) (((4 * (u 0 5)) + 1)).toNatClampNeg (g_4.1))) 0 (upd (upd (u 0) 6 (g_6.1)) 7 (g_6.2)))) (fun g_7 hg_7 => ?_)
        rw [hg_7] at hE hP hn2 ⊢
        try dsimp only at hE
        have hP : va_P E.1 vwCl (wModx E b (u 0 0) (u 0 1) (u 0 2) (u 0 3) (u 0 4) (u 0 5) (g_7.2.1) (g_7.2.2) (u 1) (u 2) (u 3) (u 4) (u 5) (u 6) (u 7) (upd (upd (u 8) ((4 * (u 0 5))).toNatClampNeg (mX6_letter u)) (((4 * (u 0 5)) + 1)).toNatClampNeg (g_4.1))) H := hP
        have hD := dMod (E := E) hj (u 0 0) (u 0 1) (u 0 2) (u 0 3) (u 0 4) (u 0 5) (g_7.2.1) (g_7.2.2) (u 1) (u 2) (u 3) (u 4) (u 5) (u 6) (u 7) (upd (upd (u 8) ((4 * (u 0 5))).toNatClampNeg (mX6_letter u)) (((4 * (u 0 5)) + 1)).toNatClampNeg (g_4.1))
        refine va_iast (D := E.1) hx hb hK.1 hP hD hS 8 0 rfl rfl (rOin 2 hm40 hom (by omega)) dX6_readOrder_147 (fun H locs hP _ hS => ?_)
        have hP : va_P E.1 vwCl (wModx E b (u 0 0) (u 0 1) (u 0 2) (u 0 3) (u 0 4) (u 0 5) (g_7.2.1) (g_7.2.2) (u 1) (u 2) (u 3) (u 4) (u 5) (u 6) (u 7) (upd (upd (upd (u 8) ((4 * (u 0 5))).toNatClampNeg (mX6_letter u)) (((4 * (u 0 5)) + 1)).toNatClampNeg (g_4.1)) (((4 * (u 0 5)) + 2)).toNatClampNeg (g_7.1))) H := hP
        have hD := dMod (E := E) hj (u 0 0) (u 0 1) (u 0 2) (u 0 3) (u 0 4) (u 0 5) (g_7.2.1) (g_7.2.2) (u 1) (u 2) (u 3) (u 4) (u 5) (u 6) (u 7) (upd (upd (upd (u 8) ((4 * (u 0 5))).toNatClampNeg (mX6_letter u)) (((4 * (u 0 5)) + 1)).toNatClampNeg (g_4.1)) (((4 * (u 0 5)) + 2)).toNatClampNeg (g_7.1))
        refine lv_iload_n hx hb dX6_readOrder_148 rfl (lv_at hl 2 rfl) ?_
        refine lv_if_eq (tgt := 182) hx hb dX6_readOrder_149 (by decide) (fun _ => ?_) (fun c => absurd (by decide) c)
        refine lv_aload_n hx hb dX6_readOrder_182 rfl (lv_at hl 5 rfl) ?_
        refine lv_dup hx hb dX6_readOrder_183 rfl ?_
        refine va_get (D := E.1) (ci := 5) (v := .int (u 0 5)) (C := RX6) (T := TX6) (N := 16) hx hb hts hiX6 hown hK.1 hP 0 rfl rfl 13 (by decide) hf195 (fun _ h9 => h9) rfl dX6_readOrder_184 ?_
        refine lv_iconst (v := 1) hx hb dX6_readOrder_187 (by decide) ?_
        refine lv_iadd hx hb dX6_readOrder_188 ?_
        refine va_put (D := E.1) (ci := 5) (v := .int ((u 0 5) + 1)) (ty := .int) (C := RX6) (T := TX6) (N := 16) hx hb hts hiX6 tyX6 tyX6_ok nmX6 hown hK.1 hP hD hS 0 rfl rfl 13 (by decide) hf195 (fun _ h9 => h9) rfl (by decide +kernel) rfl rfl (Nat.le_of_ble_eq_true rfl) dX6_readOrder_189 (fun H locs hP _ hS => ?_)
        have hP : va_P E.1 vwCl (wModx E b (u 0 0) (u 0 1) (u 0 2) (u 0 3) (u 0 4) ((u 0 5) + 1) (g_7.2.1) (g_7.2.2) (u 1) (u 2) (u 3) (u 4) (u 5) (u 6) (u 7) (upd (upd (upd (u 8) ((4 * (u 0 5))).toNatClampNeg (mX6_letter u)) (((4 * (u 0 5)) + 1)).toNatClampNeg (g_4.1)) (((4 * (u 0 5)) + 2)).toNatClampNeg (g_7.1))) H := hP
        have hD := dMod (E := E) hj (u 0 0) (u 0 1) (u 0 2) (u 0 3) (u 0 4) ((u 0 5) + 1) (g_7.2.1) (g_7.2.2) (u 1) (u 2) (u 3) (u 4) (u 5) (u 6) (u 7) (upd (upd (upd (u 8) ((4 * (u 0 5))).toNatClampNeg (mX6_letter u)) (((4 * (u 0 5)) + 1)).toNatClampNeg (g_4.1)) (((4 * (u 0 5)) + 2)).toNatClampNeg (g_7.1))
        subst R
        exact W.vret hx hb hr (fun t ht hW => ⟨rfl, by rw [ht]; exact hP, hS.F ht⟩) hS.2.2 dX6_readOrder_192
      · replace hE := hE.trans (if_pos c_5)
        refine lv_iconst (v := 1) hx hb dX6_readOrder_128 (by decide) ?_
        refine lv_goto (tgt := 133) hx hb dX6_readOrder_129 (by decide) ?_
        refine kCallWv (va_runV (As := [.int 1]) (rest := []) ⟨hx, hb, hml, hown, hts⟩ (c_X6_wants l E b (rset (rset u 8 (upd (upd (u 8) ((4 * (u 0 5))).toNatClampNeg (mX6_letter u)) (((4 * (u 0 5)) + 1)).toNatClampNeg (g_4.1))) 0 (upd (upd (u 0) 6 (g_4.2.1)) 7 (g_4.2.2))) hj 1 _ rfl) (cwV 1 hts gX6_readOrder_X6_wants rfl rfl rfl (by decide +kernel) ⟨Nat.le_of_ble_eq_true rfl, Nat.le_of_ble_eq_true rfl⟩) (kPreV hK hP hP (q0 := 0) rfl rfl) rfl rfl hl.1 rfl (lv_room (Nat.le_of_ble_eq_true rfl)) dX6_readOrder_133 ⟨Nat.zero_le _, Nat.zero_le _⟩) hS (fun _ h => h) (fun H locs hP _ _ hS => ?_)
        have hw2 : qB (u 0 1) (mX6_wants (rset (rset u 8 (upd (upd (u 8) ((4 * (u 0 5))).toNatClampNeg (mX6_letter u)) (((4 * (u 0 5)) + 1)).toNatClampNeg (g_4.1))) 0 (upd (upd (u 0) 6 (g_4.2.1)) 7 (g_4.2.2))) 1).1 (mX6_wants (rset (rset u 8 (upd (upd (u 8) ((4 * (u 0 5))).toNatClampNeg (mX6_letter u)) (((4 * (u 0 5)) + 1)).toNatClampNeg (g_4.1))) 0 (upd (upd (u 0) 6 (g_4.2.1)) 7 (g_4.2.2))) 1).2 (2 * m0 + 1) := (wants_q (u := (rset (rset u 8 (upd (upd (u 8) ((4 * (u 0 5))).toNatClampNeg (mX6_letter u)) (((4 * (u 0 5)) + 1)).toNatClampNeg (g_4.1))) 0 (upd (upd (u 0) 6 (g_4.2.1)) 7 (g_4.2.2)))) hn1 (fun c => by first | exact absurd rfl c | exact letter_lt (u := (rset (rset u 8 (upd (upd (u 8) ((4 * (u 0 5))).toNatClampNeg (mX6_letter u)) (((4 * (u 0 5)) + 1)).toNatClampNeg (g_4.1))) 0 (upd (upd (u 0) 6 (g_4.2.1)) 7 (g_4.2.2)))) hn1 (lne (k := 46) (by assumption) (by decide)))).weak (by omega)
        refine kGen (mX6_wants (rset (rset u 8 (upd (upd (u 8) ((4 * (u 0 5))).toNatClampNeg (mX6_letter u)) (((4 * (u 0 5)) + 1)).toNatClampNeg (g_4.1))) 0 (upd (upd (u 0) 6 (g_4.2.1)) 7 (g_4.2.2))) 1) (fun g_8 hg_8 => ?_)
        rw [hg_8] at hE hP hw2
        try dsimp only at hE
        have hP : va_P E.1 vwCl (wModx E b (u 0 0) (u 0 1) (u 0 2) (u 0 3) (u 0 4) (u 0 5) (g_8.1) (g_8.2) (u 1) (u 2) (u 3) (u 4) (u 5) (u 6) (u 7) (upd (upd (u 8) ((4 * (u 0 5))).toNatClampNeg (mX6_letter u)) (((4 * (u 0 5)) + 1)).toNatClampNeg (g_4.1))) H := hP
        have hD := dMod (E := E) hj (u 0 0) (u 0 1) (u 0 2) (u 0 3) (u 0 4) (u 0 5) (g_8.1) (g_8.2) (u 1) (u 2) (u 3) (u 4) (u 5) (u 6) (u 7) (upd (upd (u 8) ((4 * (u 0 5))).toNatClampNeg (mX6_letter u)) (((4 * (u 0 5)) + 1)).toNatClampNeg (g_4.1))
        refine lv_aload_n hx hb dX6_readOrder_136 rfl (lv_at hl 5 rfl) ?_
        refine va_get (D := E.1) (ci := 5) (v := .ref (b 8)) (C := RX6) (T := TX6) (N := 16) hx hb hts hiX6 hown hK.1 hP 0 rfl rfl 12 (by decide) hf33 (fun _ h9 => h9) rfl dX6_readOrder_137 ?_
        refine lv_iload_n hx hb dX6_readOrder_140 rfl (lv_at hl 4 rfl) ?_
        refine lv_iconst (v := 2) hx hb dX6_readOrder_141 (by decide) ?_
        refine lv_iadd hx hb dX6_readOrder_142 ?_
        refine lv_aload_n hx hb dX6_readOrder_143 rfl (lv_at hl 5 rfl) ?_
        refine kCallWi (va_runV (As := []) (rest := [.int ((4 * (u 0 5)) + 2), .ref (b 8)]) ⟨hx, hb, hml, hown, hts⟩ (c_X6_number l E b (rset (rset u 8 (upd (upd (u 8) ((4 * (u 0 5))).toNatClampNeg (mX6_letter u)) (((4 * (u 0 5)) + 1)).toNatClampNeg (g_4.1))) 0 (upd (upd (u 0) 6 (g_8.1)) 7 (g_8.2))) hj (hw2.weak (by omega)) _ rfl) (cwV 0 hts gX6_readOrder_X6_number rfl rfl rfl (by decide +kernel) ⟨Nat.le_of_ble_eq_true rfl, Nat.le_of_ble_eq_true rfl⟩) (kPreV hK hP hP (q0 := 0) rfl rfl) rfl rfl hl.1 rfl (lv_room (Nat.le_of_ble_eq_true rfl)) dX6_readOrder_144 ⟨Nat.zero_le _, Nat.zero_le _⟩) hS (fun _ h => h) (fun H locs hP _ _ hS => ?_)
        have hn2 : qB (u 0 1) (mX6_number (rset (rset u 8 (upd (upd (u 8) ((4 * (u 0 5))).toNatClampNeg (mX6_letter u)) (((4 * (u 0 5)) + 1)).toNatClampNeg (g_4.1))) 0 (upd (upd (u 0) 6 (g_8.1)) 7 (g_8.2)))).2.1 (mX6_number (rset (rset u 8 (upd (upd (u 8) ((4 * (u 0 5))).toNatClampNeg (mX6_letter u)) (((4 * (u 0 5)) + 1)).toNatClampNeg (g_4.1))) 0 (upd (upd (u 0) 6 (g_8.1)) 7 (g_8.2)))).2.2 (2 * m0 + 1) := (number_q (u := (rset (rset u 8 (upd (upd (u 8) ((4 * (u 0 5))).toNatClampNeg (mX6_letter u)) (((4 * (u 0 5)) + 1)).toNatClampNeg (g_4.1))) 0 (upd (upd (u 0) 6 (g_8.1)) 7 (g_8.2)))) hw2).weak (by omega)
        refine kGen (mX6_number (rset (rset u 8 (upd (upd (u 8) ((4 * (u 0 5))).toNatClampNeg (mX6_letter u)) (((4 * (u 0 5)) + 1)).toNatClampNeg (g_4.1))) 0 (upd (upd (u 0) 6 (g_8.1)) 7 (g_8.2)))) (fun g_9 hg_9 => ?_)
        rw [hg_9] at hE hP hn2 ⊢
        try dsimp only at hE
        have hP : va_P E.1 vwCl (wModx E b (u 0 0) (u 0 1) (u 0 2) (u 0 3) (u 0 4) (u 0 5) (g_9.2.1) (g_9.2.2) (u 1) (u 2) (u 3) (u 4) (u 5) (u 6) (u 7) (upd (upd (u 8) ((4 * (u 0 5))).toNatClampNeg (mX6_letter u)) (((4 * (u 0 5)) + 1)).toNatClampNeg (g_4.1))) H := hP
        have hD := dMod (E := E) hj (u 0 0) (u 0 1) (u 0 2) (u 0 3) (u 0 4) (u 0 5) (g_9.2.1) (g_9.2.2) (u 1) (u 2) (u 3) (u 4) (u 5) (u 6) (u 7) (upd (upd (u 8) ((4 * (u 0 5))).toNatClampNeg (mX6_letter u)) (((4 * (u 0 5)) + 1)).toNatClampNeg (g_4.1))
        refine va_iast (D := E.1) hx hb hK.1 hP hD hS 8 0 rfl rfl (rOin 2 hm40 hom (by omega)) dX6_readOrder_147 (fun H locs hP _ hS => ?_)
        have hP : va_P E.1 vwCl (wModx E b (u 0 0) (u 0 1) (u 0 2) (u 0 3) (u 0 4) (u 0 5) (g_9.2.1) (g_9.2.2) (u 1) (u 2) (u 3) (u 4) (u 5) (u 6) (u 7) (upd (upd (upd (u 8) ((4 * (u 0 5))).toNatClampNeg (mX6_letter u)) (((4 * (u 0 5)) + 1)).toNatClampNeg (g_4.1)) (((4 * (u 0 5)) + 2)).toNatClampNeg (g_9.1))) H := hP
        have hD := dMod (E := E) hj (u 0 0) (u 0 1) (u 0 2) (u 0 3) (u 0 4) (u 0 5) (g_9.2.1) (g_9.2.2) (u 1) (u 2) (u 3) (u 4) (u 5) (u 6) (u 7) (upd (upd (upd (u 8) ((4 * (u 0 5))).toNatClampNeg (mX6_letter u)) (((4 * (u 0 5)) + 1)).toNatClampNeg (g_4.1)) (((4 * (u 0 5)) + 2)).toNatClampNeg (g_9.1))
        refine lv_iload_n hx hb dX6_readOrder_148 rfl (lv_at hl 2 rfl) ?_
        refine lv_if_eq (tgt := 182) hx hb dX6_readOrder_149 (by decide) (fun _ => ?_) (fun c => absurd (by decide) c)
        refine lv_aload_n hx hb dX6_readOrder_182 rfl (lv_at hl 5 rfl) ?_
        refine lv_dup hx hb dX6_readOrder_183 rfl ?_
        refine va_get (D := E.1) (ci := 5) (v := .int (u 0 5)) (C := RX6) (T := TX6) (N := 16) hx hb hts hiX6 hown hK.1 hP 0 rfl rfl 13 (by decide) hf195 (fun _ h9 => h9) rfl dX6_readOrder_184 ?_
        refine lv_iconst (v := 1) hx hb dX6_readOrder_187 (by decide) ?_
        refine lv_iadd hx hb dX6_readOrder_188 ?_
        refine va_put (D := E.1) (ci := 5) (v := .int ((u 0 5) + 1)) (ty := .int) (C := RX6) (T := TX6) (N := 16) hx hb hts hiX6 tyX6 tyX6_ok nmX6 hown hK.1 hP hD hS 0 rfl rfl 13 (by decide) hf195 (fun _ h9 => h9) rfl (by decide +kernel) rfl rfl (Nat.le_of_ble_eq_true rfl) dX6_readOrder_189 (fun H locs hP _ hS => ?_)
        have hP : va_P E.1 vwCl (wModx E b (u 0 0) (u 0 1) (u 0 2) (u 0 3) (u 0 4) ((u 0 5) + 1) (g_9.2.1) (g_9.2.2) (u 1) (u 2) (u 3) (u 4) (u 5) (u 6) (u 7) (upd (upd (upd (u 8) ((4 * (u 0 5))).toNatClampNeg (mX6_letter u)) (((4 * (u 0 5)) + 1)).toNatClampNeg (g_4.1)) (((4 * (u 0 5)) + 2)).toNatClampNeg (g_9.1))) H := hP
        have hD := dMod (E := E) hj (u 0 0) (u 0 1) (u 0 2) (u 0 3) (u 0 4) ((u 0 5) + 1) (g_9.2.1) (g_9.2.2) (u 1) (u 2) (u 3) (u 4) (u 5) (u 6) (u 7) (upd (upd (upd (u 8) ((4 * (u 0 5))).toNatClampNeg (mX6_letter u)) (((4 * (u 0 5)) + 1)).toNatClampNeg (g_4.1)) (((4 * (u 0 5)) + 2)).toNatClampNeg (g_9.1))
        subst R
        exact W.vret hx hb hr (fun t ht hW => ⟨rfl, by rw [ht]; exact hP, hS.F ht⟩) hS.2.2 dX6_readOrder_192
    · replace hE := hE.trans (if_neg c_2)
      refine lv_iload_n hx hb dX6_readOrder_30 rfl (lv_at hl 0 rfl) ?_
      refine lv_if_eq (tgt := 38) hx hb dX6_readOrder_31 (by decide) (fun _ => ?_) (fun c => absurd (by decide) c)
      refine lv_iconst (v := 0) hx hb dX6_readOrder_38 (by decide) ?_
      refine lv_istore (lv' := [(4, .int 0), (3, .int 0), (2, .int (mX6_letter u)), (1, .int (4 * (u 0 5))), (0, .ref (b 0))]) hx hb dX6_readOrder_39 hl (by decide) rfl (fun ls hl => ?_)
      refine lv_iload hx hb dX6_readOrder_41 (lv_at hl 0 rfl) ?_
      refine lv_if_ne (tgt := 58) hx hb dX6_readOrder_43 (by decide) (fun c => absurd rfl c) (fun _ => ?_)
      refine lv_iload_n hx hb dX6_readOrder_46 rfl (lv_at hl 2 rfl) ?_
      refine lv_bipush (v := 99) hx hb dX6_readOrder_47 (by decide) ?_
      refine lv_icmp_eq (tgt := 58) hx hb dX6_readOrder_49 (by decide) (fun c_10 => ?_) (fun c_10 => ?_)
      · replace hE := hE.trans (if_pos c_10)
        refine lv_iconst (v := 1) hx hb dX6_readOrder_58 (by decide) ?_
        refine lv_goto (tgt := 63) hx hb dX6_readOrder_59 (by decide) ?_
        refine lv_istore (lv' := [(5, .int 1), (4, .int 0), (3, .int 0), (2, .int (mX6_letter u)), (1, .int (4 * (u 0 5))), (0, .ref (b 0))]) hx hb dX6_readOrder_63 hl (by decide) rfl (fun ls hl => ?_)
        refine lv_aload_n hx hb dX6_readOrder_65 rfl (lv_at hl 5 rfl) ?_
        refine lv_iload hx hb dX6_readOrder_66 (lv_at hl 0 rfl) ?_
        refine lv_if_ne (tgt := 77) hx hb dX6_readOrder_68 (by decide) (fun _ => ?_) (fun c => absurd c (by decide))
        refine lv_iconst (v := 1) hx hb dX6_readOrder_77 (by decide) ?_
        refine lv_goto (tgt := 82) hx hb dX6_readOrder_78 (by decide) ?_
        refine kCallWv (va_runV (As := [.int 1]) (rest := []) ⟨hx, hb, hml, hown, hts⟩ (c_X6_wants l E b u hj 1 _ rfl) (cwV 1 hts gX6_readOrder_X6_wants rfl rfl rfl (by decide +kernel) ⟨Nat.le_of_ble_eq_true rfl, Nat.le_of_ble_eq_true rfl⟩) (kPreV hK hP hP (q0 := 0) rfl rfl) rfl rfl hl.1 rfl (lv_room (Nat.le_of_ble_eq_true rfl)) dX6_readOrder_82 ⟨Nat.zero_le _, Nat.zero_le _⟩) hS (fun _ h => h) (fun H locs hP _ _ hS => ?_)
        have hw1 : qB (u 0 1) (mX6_wants u 1).1 (mX6_wants u 1).2 (2 * m0 + 1) := (wants_q (u := u) hq (fun c => by first | exact absurd rfl c | exact letter_lt (u := u) hq (lne (k := 119) (by assumption) (by decide)) | exact letter_lt (u := u) hq (lne (k := 114) (by assumption) (by decide)) | exact letter_lt (u := u) hq (lne (k := 99) (by assumption) (by decide)) | exact letter_lt (u := u) hq (lne (k := 120) (by assumption) (by decide)) | exact letter_lt (u := u) hq (lne (k := 98) (by assumption) (by decide)))).weak (by omega)
        refine kGen (mX6_wants u 1) (fun g_11 hg_11 => ?_)
        rw [hg_11] at hE hP hw1
        try dsimp only at hE
        have hP : va_P E.1 vwCl (wModx E b (u 0 0) (u 0 1) (u 0 2) (u 0 3) (u 0 4) (u 0 5) (g_11.1) (g_11.2) (u 1) (u 2) (u 3) (u 4) (u 5) (u 6) (u 7) (u 8)) H := hP
        have hD := dMod (E := E) hj (u 0 0) (u 0 1) (u 0 2) (u 0 3) (u 0 4) (u 0 5) (g_11.1) (g_11.2) (u 1) (u 2) (u 3) (u 4) (u 5) (u 6) (u 7) (u 8)
        refine lv_aload_n hx hb dX6_readOrder_85 rfl (lv_at hl 5 rfl) ?_
        refine va_get (D := E.1) (ci := 5) (v := .ref (b 8)) (C := RX6) (T := TX6) (N := 16) hx hb hts hiX6 hown hK.1 hP 0 rfl rfl 12 (by decide) hf33 (fun _ h9 => h9) rfl dX6_readOrder_86 ?_
        refine lv_iload_n hx hb dX6_readOrder_89 rfl (lv_at hl 4 rfl) ?_
        refine lv_iload_n hx hb dX6_readOrder_90 rfl (lv_at hl 3 rfl) ?_
        refine va_iast (D := E.1) hx hb hK.1 hP hD hS 8 0 rfl rfl (rOin0 hm40 hom) dX6_readOrder_91 (fun H locs hP _ hS => ?_)
        have hP : va_P E.1 vwCl (wModx E b (u 0 0) (u 0 1) (u 0 2) (u 0 3) (u 0 4) (u 0 5) (g_11.1) (g_11.2) (u 1) (u 2) (u 3) (u 4) (u 5) (u 6) (u 7) (upd (u 8) ((4 * (u 0 5))).toNatClampNeg (mX6_letter u))) H := hP
        have hD := dMod (E := E) hj (u 0 0) (u 0 1) (u 0 2) (u 0 3) (u 0 4) (u 0 5) (g_11.1) (g_11.2) (u 1) (u 2) (u 3) (u 4) (u 5) (u 6) (u 7) (upd (u 8) ((4 * (u 0 5))).toNatClampNeg (mX6_letter u))
        refine lv_aload_n hx hb dX6_readOrder_92 rfl (lv_at hl 5 rfl) ?_
        refine va_get (D := E.1) (ci := 5) (v := .ref (b 8)) (C := RX6) (T := TX6) (N := 16) hx hb hts hiX6 hown hK.1 hP 0 rfl rfl 12 (by decide) hf33 (fun _ h9 => h9) rfl dX6_readOrder_93 ?_
        refine lv_iload_n hx hb dX6_readOrder_96 rfl (lv_at hl 4 rfl) ?_
        refine lv_iconst (v := 1) hx hb dX6_readOrder_97 (by decide) ?_
        refine lv_iadd hx hb dX6_readOrder_98 ?_
        refine lv_iload hx hb dX6_readOrder_99 (lv_at hl 0 rfl) ?_
        refine lv_if_eq (tgt := 111) hx hb dX6_readOrder_101 (by decide) (fun c => absurd c (by decide)) (fun _ => ?_)
        refine lv_aload_n hx hb dX6_readOrder_104 rfl (lv_at hl 5 rfl) ?_
        refine kCallWi (va_runV (As := []) (rest := [.int ((4 * (u 0 5)) + 1), .ref (b 8)]) ⟨hx, hb, hml, hown, hts⟩ (c_X6_number l E b (rset (rset u 8 (upd (u 8) ((4 * (u 0 5))).toNatClampNeg (mX6_letter u))) 0 (upd (upd (u 0) 6 (g_11.1)) 7 (g_11.2))) hj (hw1.weak (by omega)) _ rfl) (cwV 0 hts gX6_readOrder_X6_number rfl rfl rfl (by decide +kernel) ⟨Nat.le_of_ble_eq_true rfl, Nat.le_of_ble_eq_true rfl⟩) (kPreV hK hP hP (q0 := 0) rfl rfl) rfl rfl hl.1 rfl (lv_room (Nat.le_of_ble_eq_true rfl)) dX6_readOrder_105 ⟨Nat.zero_le _, Nat.zero_le _⟩) hS (fun _ h => h) (fun H locs hP _ _ hS => ?_)
        have hn1 : qB (u 0 1) (mX6_number (rset (rset u 8 (upd (u 8) ((4 * (u 0 5))).toNatClampNeg (mX6_letter u))) 0 (upd (upd (u 0) 6 (g_11.1)) 7 (g_11.2)))).2.1 (mX6_number (rset (rset u 8 (upd (u 8) ((4 * (u 0 5))).toNatClampNeg (mX6_letter u))) 0 (upd (upd (u 0) 6 (g_11.1)) 7 (g_11.2)))).2.2 (2 * m0 + 1) := (number_q (u := (rset (rset u 8 (upd (u 8) ((4 * (u 0 5))).toNatClampNeg (mX6_letter u))) 0 (upd (upd (u 0) 6 (g_11.1)) 7 (g_11.2)))) hw1).weak (by omega)
        refine kGen (mX6_number (rset (rset u 8 (upd (u 8) ((4 * (u 0 5))).toNatClampNeg (mX6_letter u))) 0 (upd (upd (u 0) 6 (g_11.1)) 7 (g_11.2)))) (fun g_12 hg_12 => ?_)
        rw [hg_12] at hE hP hn1 ⊢
        try dsimp only at hE
        have hP : va_P E.1 vwCl (wModx E b (u 0 0) (u 0 1) (u 0 2) (u 0 3) (u 0 4) (u 0 5) (g_12.2.1) (g_12.2.2) (u 1) (u 2) (u 3) (u 4) (u 5) (u 6) (u 7) (upd (u 8) ((4 * (u 0 5))).toNatClampNeg (mX6_letter u))) H := hP
        have hD := dMod (E := E) hj (u 0 0) (u 0 1) (u 0 2) (u 0 3) (u 0 4) (u 0 5) (g_12.2.1) (g_12.2.2) (u 1) (u 2) (u 3) (u 4) (u 5) (u 6) (u 7) (upd (u 8) ((4 * (u 0 5))).toNatClampNeg (mX6_letter u))
        refine lv_goto (tgt := 112) hx hb dX6_readOrder_108 (by decide) ?_
        refine va_iast (D := E.1) hx hb hK.1 hP hD hS 8 0 rfl rfl (rOin 1 hm40 hom (by omega)) dX6_readOrder_112 (fun H locs hP _ hS => ?_)
        have hP : va_P E.1 vwCl (wModx E b (u 0 0) (u 0 1) (u 0 2) (u 0 3) (u 0 4) (u 0 5) (g_12.2.1) (g_12.2.2) (u 1) (u 2) (u 3) (u 4) (u 5) (u 6) (u 7) (upd (upd (u 8) ((4 * (u 0 5))).toNatClampNeg (mX6_letter u)) (((4 * (u 0 5)) + 1)).toNatClampNeg (g_12.1))) H := hP
        have hD := dMod (E := E) hj (u 0 0) (u 0 1) (u 0 2) (u 0 3) (u 0 4) (u 0 5) (g_12.2.1) (g_12.2.2) (u 1) (u 2) (u 3) (u 4) (u 5) (u 6) (u 7) (upd (upd (u 8) ((4 * (u 0 5))).toNatClampNeg (mX6_letter u)) (((4 * (u 0 5)) + 1)).toNatClampNeg (g_12.1))
        refine lv_iload hx hb dX6_readOrder_113 (lv_at hl 1 rfl) ?_
        refine lv_if_eq (tgt := 148) hx hb dX6_readOrder_115 (by decide) (fun _ => ?_) (fun c => absurd (by decide) c)
        refine lv_iload_n hx hb dX6_readOrder_148 rfl (lv_at hl 2 rfl) ?_
        refine lv_if_eq (tgt := 182) hx hb dX6_readOrder_149 (by decide) (fun _ => ?_) (fun c => absurd (by decide) c)
        refine lv_aload_n hx hb dX6_readOrder_182 rfl (lv_at hl 5 rfl) ?_
        refine lv_dup hx hb dX6_readOrder_183 rfl ?_
        refine va_get (D := E.1) (ci := 5) (v := .int (u 0 5)) (C := RX6) (T := TX6) (N := 16) hx hb hts hiX6 hown hK.1 hP 0 rfl rfl 13 (by decide) hf195 (fun _ h9 => h9) rfl dX6_readOrder_184 ?_
        refine lv_iconst (v := 1) hx hb dX6_readOrder_187 (by decide) ?_
        refine lv_iadd hx hb dX6_readOrder_188 ?_
        refine va_put (D := E.1) (ci := 5) (v := .int ((u 0 5) + 1)) (ty := .int) (C := RX6) (T := TX6) (N := 16) hx hb hts hiX6 tyX6 tyX6_ok nmX6 hown hK.1 hP hD hS 0 rfl rfl 13 (by decide) hf195 (fun _ h9 => h9) rfl (by decide +kernel) rfl rfl (Nat.le_of_ble_eq_true rfl) dX6_readOrder_189 (fun H locs hP _ hS => ?_)
        have hP : va_P E.1 vwCl (wModx E b (u 0 0) (u 0 1) (u 0 2) (u 0 3) (u 0 4) ((u 0 5) + 1) (g_12.2.1) (g_12.2.2) (u 1) (u 2) (u 3) (u 4) (u 5) (u 6) (u 7) (upd (upd (u 8) ((4 * (u 0 5))).toNatClampNeg (mX6_letter u)) (((4 * (u 0 5)) + 1)).toNatClampNeg (g_12.1))) H := hP
        have hD := dMod (E := E) hj (u 0 0) (u 0 1) (u 0 2) (u 0 3) (u 0 4) ((u 0 5) + 1) (g_12.2.1) (g_12.2.2) (u 1) (u 2) (u 3) (u 4) (u 5) (u 6) (u 7) (upd (upd (u 8) ((4 * (u 0 5))).toNatClampNeg (mX6_letter u)) (((4 * (u 0 5)) + 1)).toNatClampNeg (g_12.1))
        subst R
        exact W.vret hx hb hr (fun t ht hW => ⟨rfl, by rw [ht]; exact hP, hS.F ht⟩) hS.2.2 dX6_readOrder_192
      · replace hE := hE.trans (if_neg c_10)
        refine lv_iload_n hx hb dX6_readOrder_52 rfl (lv_at hl 2 rfl) ?_
        refine lv_bipush (v := 120) hx hb dX6_readOrder_53 (by decide) ?_
        refine lv_icmp_ne (tgt := 62) hx hb dX6_readOrder_55 (by decide) (fun c_13 => ?_) (fun c_13 => ?_)
        · replace hE := hE.trans (if_neg c_13)
          refine lv_iconst (v := 0) hx hb dX6_readOrder_62 (by decide) ?_
          refine lv_istore (lv' := [(5, .int 0), (4, .int 0), (3, .int 0), (2, .int (mX6_letter u)), (1, .int (4 * (u 0 5))), (0, .ref (b 0))]) hx hb dX6_readOrder_63 hl (by decide) rfl (fun ls hl => ?_)
          refine lv_aload_n hx hb dX6_readOrder_65 rfl (lv_at hl 5 rfl) ?_
          refine lv_iload hx hb dX6_readOrder_66 (lv_at hl 0 rfl) ?_
          refine lv_if_ne (tgt := 77) hx hb dX6_readOrder_68 (by decide) (fun c => absurd rfl c) (fun _ => ?_)
          refine lv_iload_n hx hb dX6_readOrder_71 rfl (lv_at hl 3 rfl) ?_
          refine lv_bipush (v := 98) hx hb dX6_readOrder_72 (by decide) ?_
          refine lv_icmp_ne (tgt := 81) hx hb dX6_readOrder_74 (by decide) (fun c_14 => ?_) (fun c_14 => ?_)
          · replace hE := hE.trans (if_neg c_14)
            refine lv_iconst (v := 0) hx hb dX6_readOrder_81 (by decide) ?_
            refine kCallWv (va_runV (As := [.int 0]) (rest := []) ⟨hx, hb, hml, hown, hts⟩ (c_X6_wants l E b u hj 0 _ rfl) (cwV 1 hts gX6_readOrder_X6_wants rfl rfl rfl (by decide +kernel) ⟨Nat.le_of_ble_eq_true rfl, Nat.le_of_ble_eq_true rfl⟩) (kPreV hK hP hP (q0 := 0) rfl rfl) rfl rfl hl.1 rfl (lv_room (Nat.le_of_ble_eq_true rfl)) dX6_readOrder_82 ⟨Nat.zero_le _, Nat.zero_le _⟩) hS (fun _ h => h) (fun H locs hP _ _ hS => ?_)
            have hw1 : qB (u 0 1) (mX6_wants u 0).1 (mX6_wants u 0).2 (2 * m0 + 1) := (wants_q (u := u) hq (fun c => by first | exact absurd rfl c | exact letter_lt (u := u) hq (lne (k := 119) (by assumption) (by decide)) | exact letter_lt (u := u) hq (lne (k := 114) (by assumption) (by decide)) | exact letter_lt (u := u) hq (lne (k := 99) (by assumption) (by decide)) | exact letter_lt (u := u) hq (lne (k := 120) (by assumption) (by decide)) | exact letter_lt (u := u) hq (lne (k := 98) (by assumption) (by decide)))).weak (by omega)
            refine kGen (mX6_wants u 0) (fun g_15 hg_15 => ?_)
            rw [hg_15] at hE hP hw1
            try dsimp only at hE
            have hP : va_P E.1 vwCl (wModx E b (u 0 0) (u 0 1) (u 0 2) (u 0 3) (u 0 4) (u 0 5) (g_15.1) (g_15.2) (u 1) (u 2) (u 3) (u 4) (u 5) (u 6) (u 7) (u 8)) H := hP
            have hD := dMod (E := E) hj (u 0 0) (u 0 1) (u 0 2) (u 0 3) (u 0 4) (u 0 5) (g_15.1) (g_15.2) (u 1) (u 2) (u 3) (u 4) (u 5) (u 6) (u 7) (u 8)
            refine lv_aload_n hx hb dX6_readOrder_85 rfl (lv_at hl 5 rfl) ?_
            refine va_get (D := E.1) (ci := 5) (v := .ref (b 8)) (C := RX6) (T := TX6) (N := 16) hx hb hts hiX6 hown hK.1 hP 0 rfl rfl 12 (by decide) hf33 (fun _ h9 => h9) rfl dX6_readOrder_86 ?_
            refine lv_iload_n hx hb dX6_readOrder_89 rfl (lv_at hl 4 rfl) ?_
            refine lv_iload_n hx hb dX6_readOrder_90 rfl (lv_at hl 3 rfl) ?_
            refine va_iast (D := E.1) hx hb hK.1 hP hD hS 8 0 rfl rfl (rOin0 hm40 hom) dX6_readOrder_91 (fun H locs hP _ hS => ?_)
            have hP : va_P E.1 vwCl (wModx E b (u 0 0) (u 0 1) (u 0 2) (u 0 3) (u 0 4) (u 0 5) (g_15.1) (g_15.2) (u 1) (u 2) (u 3) (u 4) (u 5) (u 6) (u 7) (upd (u 8) ((4 * (u 0 5))).toNatClampNeg (mX6_letter u))) H := hP
            have hD := dMod (E := E) hj (u 0 0) (u 0 1) (u 0 2) (u 0 3) (u 0 4) (u 0 5) (g_15.1) (g_15.2) (u 1) (u 2) (u 3) (u 4) (u 5) (u 6) (u 7) (upd (u 8) ((4 * (u 0 5))).toNatClampNeg (mX6_letter u))
            refine lv_aload_n hx hb dX6_readOrder_92 rfl (lv_at hl 5 rfl) ?_
            refine va_get (D := E.1) (ci := 5) (v := .ref (b 8)) (C := RX6) (T := TX6) (N := 16) hx hb hts hiX6 hown hK.1 hP 0 rfl rfl 12 (by decide) hf33 (fun _ h9 => h9) rfl dX6_readOrder_93 ?_
            refine lv_iload_n hx hb dX6_readOrder_96 rfl (lv_at hl 4 rfl) ?_
            refine lv_iconst (v := 1) hx hb dX6_readOrder_97 (by decide) ?_
            refine lv_iadd hx hb dX6_readOrder_98 ?_
            refine lv_iload hx hb dX6_readOrder_99 (lv_at hl 0 rfl) ?_
            refine lv_if_eq (tgt := 111) hx hb dX6_readOrder_101 (by decide) (fun _ => ?_) (fun c => absurd (by decide) c)
            refine lv_iconst (v := 0) hx hb dX6_readOrder_111 (by decide) ?_
            refine va_iast (D := E.1) hx hb hK.1 hP hD hS 8 0 rfl rfl (rOin 1 hm40 hom (by omega)) dX6_readOrder_112 (fun H locs hP _ hS => ?_)
            have hP : va_P E.1 vwCl (wModx E b (u 0 0) (u 0 1) (u 0 2) (u 0 3) (u 0 4) (u 0 5) (g_15.1) (g_15.2) (u 1) (u 2) (u 3) (u 4) (u 5) (u 6) (u 7) (upd (upd (u 8) ((4 * (u 0 5))).toNatClampNeg (mX6_letter u)) (((4 * (u 0 5)) + 1)).toNatClampNeg 0)) H := hP
            have hD := dMod (E := E) hj (u 0 0) (u 0 1) (u 0 2) (u 0 3) (u 0 4) (u 0 5) (g_15.1) (g_15.2) (u 1) (u 2) (u 3) (u 4) (u 5) (u 6) (u 7) (upd (upd (u 8) ((4 * (u 0 5))).toNatClampNeg (mX6_letter u)) (((4 * (u 0 5)) + 1)).toNatClampNeg 0)
            refine lv_iload hx hb dX6_readOrder_113 (lv_at hl 1 rfl) ?_
            refine lv_if_eq (tgt := 148) hx hb dX6_readOrder_115 (by decide) (fun _ => ?_) (fun c => absurd (by decide) c)
            refine lv_iload_n hx hb dX6_readOrder_148 rfl (lv_at hl 2 rfl) ?_
            refine lv_if_eq (tgt := 182) hx hb dX6_readOrder_149 (by decide) (fun _ => ?_) (fun c => absurd (by decide) c)
            refine lv_aload_n hx hb dX6_readOrder_182 rfl (lv_at hl 5 rfl) ?_
            refine lv_dup hx hb dX6_readOrder_183 rfl ?_
            refine va_get (D := E.1) (ci := 5) (v := .int (u 0 5)) (C := RX6) (T := TX6) (N := 16) hx hb hts hiX6 hown hK.1 hP 0 rfl rfl 13 (by decide) hf195 (fun _ h9 => h9) rfl dX6_readOrder_184 ?_
            refine lv_iconst (v := 1) hx hb dX6_readOrder_187 (by decide) ?_
            refine lv_iadd hx hb dX6_readOrder_188 ?_
            refine va_put (D := E.1) (ci := 5) (v := .int ((u 0 5) + 1)) (ty := .int) (C := RX6) (T := TX6) (N := 16) hx hb hts hiX6 tyX6 tyX6_ok nmX6 hown hK.1 hP hD hS 0 rfl rfl 13 (by decide) hf195 (fun _ h9 => h9) rfl (by decide +kernel) rfl rfl (Nat.le_of_ble_eq_true rfl) dX6_readOrder_189 (fun H locs hP _ hS => ?_)
            have hP : va_P E.1 vwCl (wModx E b (u 0 0) (u 0 1) (u 0 2) (u 0 3) (u 0 4) ((u 0 5) + 1) (g_15.1) (g_15.2) (u 1) (u 2) (u 3) (u 4) (u 5) (u 6) (u 7) (upd (upd (u 8) ((4 * (u 0 5))).toNatClampNeg (mX6_letter u)) (((4 * (u 0 5)) + 1)).toNatClampNeg 0)) H := hP
            have hD := dMod (E := E) hj (u 0 0) (u 0 1) (u 0 2) (u 0 3) (u 0 4) ((u 0 5) + 1) (g_15.1) (g_15.2) (u 1) (u 2) (u 3) (u 4) (u 5) (u 6) (u 7) (upd (upd (u 8) ((4 * (u 0 5))).toNatClampNeg (mX6_letter u)) (((4 * (u 0 5)) + 1)).toNatClampNeg 0)
            subst R
            exact W.vret hx hb hr (fun t ht hW => ⟨rfl, by rw [ht]; exact hP, hS.F ht⟩) hS.2.2 dX6_readOrder_192
          · replace hE := hE.trans (if_pos c_14)
            refine lv_iconst (v := 1) hx hb dX6_readOrder_77 (by decide) ?_
            refine lv_goto (tgt := 82) hx hb dX6_readOrder_78 (by decide) ?_
            refine kCallWv (va_runV (As := [.int 1]) (rest := []) ⟨hx, hb, hml, hown, hts⟩ (c_X6_wants l E b u hj 1 _ rfl) (cwV 1 hts gX6_readOrder_X6_wants rfl rfl rfl (by decide +kernel) ⟨Nat.le_of_ble_eq_true rfl, Nat.le_of_ble_eq_true rfl⟩) (kPreV hK hP hP (q0 := 0) rfl rfl) rfl rfl hl.1 rfl (lv_room (Nat.le_of_ble_eq_true rfl)) dX6_readOrder_82 ⟨Nat.zero_le _, Nat.zero_le _⟩) hS (fun _ h => h) (fun H locs hP _ _ hS => ?_)
            have hw1 : qB (u 0 1) (mX6_wants u 1).1 (mX6_wants u 1).2 (2 * m0 + 1) := (wants_q (u := u) hq (fun c => by first | exact absurd rfl c | exact letter_lt (u := u) hq (lne (k := 119) (by assumption) (by decide)) | exact letter_lt (u := u) hq (lne (k := 114) (by assumption) (by decide)) | exact letter_lt (u := u) hq (lne (k := 99) (by assumption) (by decide)) | exact letter_lt (u := u) hq (lne (k := 120) (by assumption) (by decide)) | exact letter_lt (u := u) hq (lne (k := 98) (by assumption) (by decide)))).weak (by omega)
            refine kGen (mX6_wants u 1) (fun g_16 hg_16 => ?_)
            rw [hg_16] at hE hP hw1
            try dsimp only at hE
            have hP : va_P E.1 vwCl (wModx E b (u 0 0) (u 0 1) (u 0 2) (u 0 3) (u 0 4) (u 0 5) (g_16.1) (g_16.2) (u 1) (u 2) (u 3) (u 4) (u 5) (u 6) (u 7) (u 8)) H := hP
            have hD := dMod (E := E) hj (u 0 0) (u 0 1) (u 0 2) (u 0 3) (u 0 4) (u 0 5) (g_16.1) (g_16.2) (u 1) (u 2) (u 3) (u 4) (u 5) (u 6) (u 7) (u 8)
            refine lv_aload_n hx hb dX6_readOrder_85 rfl (lv_at hl 5 rfl) ?_
            refine va_get (D := E.1) (ci := 5) (v := .ref (b 8)) (C := RX6) (T := TX6) (N := 16) hx hb hts hiX6 hown hK.1 hP 0 rfl rfl 12 (by decide) hf33 (fun _ h9 => h9) rfl dX6_readOrder_86 ?_
            refine lv_iload_n hx hb dX6_readOrder_89 rfl (lv_at hl 4 rfl) ?_
            refine lv_iload_n hx hb dX6_readOrder_90 rfl (lv_at hl 3 rfl) ?_
            refine va_iast (D := E.1) hx hb hK.1 hP hD hS 8 0 rfl rfl (rOin0 hm40 hom) dX6_readOrder_91 (fun H locs hP _ hS => ?_)
            have hP : va_P E.1 vwCl (wModx E b (u 0 0) (u 0 1) (u 0 2) (u 0 3) (u 0 4) (u 0 5) (g_16.1) (g_16.2) (u 1) (u 2) (u 3) (u 4) (u 5) (u 6) (u 7) (upd (u 8) ((4 * (u 0 5))).toNatClampNeg (mX6_letter u))) H := hP
            have hD := dMod (E := E) hj (u 0 0) (u 0 1) (u 0 2) (u 0 3) (u 0 4) (u 0 5) (g_16.1) (g_16.2) (u 1) (u 2) (u 3) (u 4) (u 5) (u 6) (u 7) (upd (u 8) ((4 * (u 0 5))).toNatClampNeg (mX6_letter u))
            refine lv_aload_n hx hb dX6_readOrder_92 rfl (lv_at hl 5 rfl) ?_
            refine va_get (D := E.1) (ci := 5) (v := .ref (b 8)) (C := RX6) (T := TX6) (N := 16) hx hb hts hiX6 hown hK.1 hP 0 rfl rfl 12 (by decide) hf33 (fun _ h9 => h9) rfl dX6_readOrder_93 ?_
            refine lv_iload_n hx hb dX6_readOrder_96 rfl (lv_at hl 4 rfl) ?_
            refine lv_iconst (v := 1) hx hb dX6_readOrder_97 (by decide) ?_
            refine lv_iadd hx hb dX6_readOrder_98 ?_
            refine lv_iload hx hb dX6_readOrder_99 (lv_at hl 0 rfl) ?_
            refine lv_if_eq (tgt := 111) hx hb dX6_readOrder_101 (by decide) (fun _ => ?_) (fun c => absurd (by decide) c)
            refine lv_iconst (v := 0) hx hb dX6_readOrder_111 (by decide) ?_
            refine va_iast (D := E.1) hx hb hK.1 hP hD hS 8 0 rfl rfl (rOin 1 hm40 hom (by omega)) dX6_readOrder_112 (fun H locs hP _ hS => ?_)
            have hP : va_P E.1 vwCl (wModx E b (u 0 0) (u 0 1) (u 0 2) (u 0 3) (u 0 4) (u 0 5) (g_16.1) (g_16.2) (u 1) (u 2) (u 3) (u 4) (u 5) (u 6) (u 7) (upd (upd (u 8) ((4 * (u 0 5))).toNatClampNeg (mX6_letter u)) (((4 * (u 0 5)) + 1)).toNatClampNeg 0)) H := hP
            have hD := dMod (E := E) hj (u 0 0) (u 0 1) (u 0 2) (u 0 3) (u 0 4) (u 0 5) (g_16.1) (g_16.2) (u 1) (u 2) (u 3) (u 4) (u 5) (u 6) (u 7) (upd (upd (u 8) ((4 * (u 0 5))).toNatClampNeg (mX6_letter u)) (((4 * (u 0 5)) + 1)).toNatClampNeg 0)
            refine lv_iload hx hb dX6_readOrder_113 (lv_at hl 1 rfl) ?_
            refine lv_if_eq (tgt := 148) hx hb dX6_readOrder_115 (by decide) (fun _ => ?_) (fun c => absurd (by decide) c)
            refine lv_iload_n hx hb dX6_readOrder_148 rfl (lv_at hl 2 rfl) ?_
            refine lv_if_eq (tgt := 182) hx hb dX6_readOrder_149 (by decide) (fun _ => ?_) (fun c => absurd (by decide) c)
            refine lv_aload_n hx hb dX6_readOrder_182 rfl (lv_at hl 5 rfl) ?_
            refine lv_dup hx hb dX6_readOrder_183 rfl ?_
            refine va_get (D := E.1) (ci := 5) (v := .int (u 0 5)) (C := RX6) (T := TX6) (N := 16) hx hb hts hiX6 hown hK.1 hP 0 rfl rfl 13 (by decide) hf195 (fun _ h9 => h9) rfl dX6_readOrder_184 ?_
            refine lv_iconst (v := 1) hx hb dX6_readOrder_187 (by decide) ?_
            refine lv_iadd hx hb dX6_readOrder_188 ?_
            refine va_put (D := E.1) (ci := 5) (v := .int ((u 0 5) + 1)) (ty := .int) (C := RX6) (T := TX6) (N := 16) hx hb hts hiX6 tyX6 tyX6_ok nmX6 hown hK.1 hP hD hS 0 rfl rfl 13 (by decide) hf195 (fun _ h9 => h9) rfl (by decide +kernel) rfl rfl (Nat.le_of_ble_eq_true rfl) dX6_readOrder_189 (fun H locs hP _ hS => ?_)
            have hP : va_P E.1 vwCl (wModx E b (u 0 0) (u 0 1) (u 0 2) (u 0 3) (u 0 4) ((u 0 5) + 1) (g_16.1) (g_16.2) (u 1) (u 2) (u 3) (u 4) (u 5) (u 6) (u 7) (upd (upd (u 8) ((4 * (u 0 5))).toNatClampNeg (mX6_letter u)) (((4 * (u 0 5)) + 1)).toNatClampNeg 0)) H := hP
            have hD := dMod (E := E) hj (u 0 0) (u 0 1) (u 0 2) (u 0 3) (u 0 4) ((u 0 5) + 1) (g_16.1) (g_16.2) (u 1) (u 2) (u 3) (u 4) (u 5) (u 6) (u 7) (upd (upd (u 8) ((4 * (u 0 5))).toNatClampNeg (mX6_letter u)) (((4 * (u 0 5)) + 1)).toNatClampNeg 0)
            subst R
            exact W.vret hx hb hr (fun t ht hW => ⟨rfl, by rw [ht]; exact hP, hS.F ht⟩) hS.2.2 dX6_readOrder_192
        · replace hE := hE.trans (if_pos c_13)
          refine lv_iconst (v := 1) hx hb dX6_readOrder_58 (by decide) ?_
          refine lv_goto (tgt := 63) hx hb dX6_readOrder_59 (by decide) ?_
          refine lv_istore (lv' := [(5, .int 1), (4, .int 0), (3, .int 0), (2, .int (mX6_letter u)), (1, .int (4 * (u 0 5))), (0, .ref (b 0))]) hx hb dX6_readOrder_63 hl (by decide) rfl (fun ls hl => ?_)
          refine lv_aload_n hx hb dX6_readOrder_65 rfl (lv_at hl 5 rfl) ?_
          refine lv_iload hx hb dX6_readOrder_66 (lv_at hl 0 rfl) ?_
          refine lv_if_ne (tgt := 77) hx hb dX6_readOrder_68 (by decide) (fun _ => ?_) (fun c => absurd c (by decide))
          refine lv_iconst (v := 1) hx hb dX6_readOrder_77 (by decide) ?_
          refine lv_goto (tgt := 82) hx hb dX6_readOrder_78 (by decide) ?_
          refine kCallWv (va_runV (As := [.int 1]) (rest := []) ⟨hx, hb, hml, hown, hts⟩ (c_X6_wants l E b u hj 1 _ rfl) (cwV 1 hts gX6_readOrder_X6_wants rfl rfl rfl (by decide +kernel) ⟨Nat.le_of_ble_eq_true rfl, Nat.le_of_ble_eq_true rfl⟩) (kPreV hK hP hP (q0 := 0) rfl rfl) rfl rfl hl.1 rfl (lv_room (Nat.le_of_ble_eq_true rfl)) dX6_readOrder_82 ⟨Nat.zero_le _, Nat.zero_le _⟩) hS (fun _ h => h) (fun H locs hP _ _ hS => ?_)
          have hw1 : qB (u 0 1) (mX6_wants u 1).1 (mX6_wants u 1).2 (2 * m0 + 1) := (wants_q (u := u) hq (fun c => by first | exact absurd rfl c | exact letter_lt (u := u) hq (lne (k := 119) (by assumption) (by decide)) | exact letter_lt (u := u) hq (lne (k := 114) (by assumption) (by decide)) | exact letter_lt (u := u) hq (lne (k := 99) (by assumption) (by decide)) | exact letter_lt (u := u) hq (lne (k := 120) (by assumption) (by decide)) | exact letter_lt (u := u) hq (lne (k := 98) (by assumption) (by decide)))).weak (by omega)
          refine kGen (mX6_wants u 1) (fun g_17 hg_17 => ?_)
          rw [hg_17] at hE hP hw1
          try dsimp only at hE
          have hP : va_P E.1 vwCl (wModx E b (u 0 0) (u 0 1) (u 0 2) (u 0 3) (u 0 4) (u 0 5) (g_17.1) (g_17.2) (u 1) (u 2) (u 3) (u 4) (u 5) (u 6) (u 7) (u 8)) H := hP
          have hD := dMod (E := E) hj (u 0 0) (u 0 1) (u 0 2) (u 0 3) (u 0 4) (u 0 5) (g_17.1) (g_17.2) (u 1) (u 2) (u 3) (u 4) (u 5) (u 6) (u 7) (u 8)
          refine lv_aload_n hx hb dX6_readOrder_85 rfl (lv_at hl 5 rfl) ?_
          refine va_get (D := E.1) (ci := 5) (v := .ref (b 8)) (C := RX6) (T := TX6) (N := 16) hx hb hts hiX6 hown hK.1 hP 0 rfl rfl 12 (by decide) hf33 (fun _ h9 => h9) rfl dX6_readOrder_86 ?_
          refine lv_iload_n hx hb dX6_readOrder_89 rfl (lv_at hl 4 rfl) ?_
          refine lv_iload_n hx hb dX6_readOrder_90 rfl (lv_at hl 3 rfl) ?_
          refine va_iast (D := E.1) hx hb hK.1 hP hD hS 8 0 rfl rfl (rOin0 hm40 hom) dX6_readOrder_91 (fun H locs hP _ hS => ?_)
          have hP : va_P E.1 vwCl (wModx E b (u 0 0) (u 0 1) (u 0 2) (u 0 3) (u 0 4) (u 0 5) (g_17.1) (g_17.2) (u 1) (u 2) (u 3) (u 4) (u 5) (u 6) (u 7) (upd (u 8) ((4 * (u 0 5))).toNatClampNeg (mX6_letter u))) H := hP
          have hD := dMod (E := E) hj (u 0 0) (u 0 1) (u 0 2) (u 0 3) (u 0 4) (u 0 5) (g_17.1) (g_17.2) (u 1) (u 2) (u 3) (u 4) (u 5) (u 6) (u 7) (upd (u 8) ((4 * (u 0 5))).toNatClampNeg (mX6_letter u))
          refine lv_aload_n hx hb dX6_readOrder_92 rfl (lv_at hl 5 rfl) ?_
          refine va_get (D := E.1) (ci := 5) (v := .ref (b 8)) (C := RX6) (T := TX6) (N := 16) hx hb hts hiX6 hown hK.1 hP 0 rfl rfl 12 (by decide) hf33 (fun _ h9 => h9) rfl dX6_readOrder_93 ?_
          refine lv_iload_n hx hb dX6_readOrder_96 rfl (lv_at hl 4 rfl) ?_
          refine lv_iconst (v := 1) hx hb dX6_readOrder_97 (by decide) ?_
          refine lv_iadd hx hb dX6_readOrder_98 ?_
          refine lv_iload hx hb dX6_readOrder_99 (lv_at hl 0 rfl) ?_
          refine lv_if_eq (tgt := 111) hx hb dX6_readOrder_101 (by decide) (fun c => absurd c (by decide)) (fun _ => ?_)
          refine lv_aload_n hx hb dX6_readOrder_104 rfl (lv_at hl 5 rfl) ?_
          refine kCallWi (va_runV (As := []) (rest := [.int ((4 * (u 0 5)) + 1), .ref (b 8)]) ⟨hx, hb, hml, hown, hts⟩ (c_X6_number l E b (rset (rset u 8 (upd (u 8) ((4 * (u 0 5))).toNatClampNeg (mX6_letter u))) 0 (upd (upd (u 0) 6 (g_17.1)) 7 (g_17.2))) hj (hw1.weak (by omega)) _ rfl) (cwV 0 hts gX6_readOrder_X6_number rfl rfl rfl (by decide +kernel) ⟨Nat.le_of_ble_eq_true rfl, Nat.le_of_ble_eq_true rfl⟩) (kPreV hK hP hP (q0 := 0) rfl rfl) rfl rfl hl.1 rfl (lv_room (Nat.le_of_ble_eq_true rfl)) dX6_readOrder_105 ⟨Nat.zero_le _, Nat.zero_le _⟩) hS (fun _ h => h) (fun H locs hP _ _ hS => ?_)
          have hn1 : qB (u 0 1) (mX6_number (rset (rset u 8 (upd (u 8) ((4 * (u 0 5))).toNatClampNeg (mX6_letter u))) 0 (upd (upd (u 0) 6 (g_17.1)) 7 (g_17.2)))).2.1 (mX6_number (rset (rset u 8 (upd (u 8) ((4 * (u 0 5))).toNatClampNeg (mX6_letter u))) 0 (upd (upd (u 0) 6 (g_17.1)) 7 (g_17.2)))).2.2 (2 * m0 + 1) := (number_q (u := (rset (rset u 8 (upd (u 8) ((4 * (u 0 5))).toNatClampNeg (mX6_letter u))) 0 (upd (upd (u 0) 6 (g_17.1)) 7 (g_17.2)))) hw1).weak (by omega)
          refine kGen (mX6_number (rset (rset u 8 (upd (u 8) ((4 * (u 0 5))).toNatClampNeg (mX6_letter u))) 0 (upd (upd (u 0) 6 (g_17.1)) 7 (g_17.2)))) (fun g_18 hg_18 => ?_)
          rw [hg_18] at hE hP hn1 ⊢
          try dsimp only at hE
          have hP : va_P E.1 vwCl (wModx E b (u 0 0) (u 0 1) (u 0 2) (u 0 3) (u 0 4) (u 0 5) (g_18.2.1) (g_18.2.2) (u 1) (u 2) (u 3) (u 4) (u 5) (u 6) (u 7) (upd (u 8) ((4 * (u 0 5))).toNatClampNeg (mX6_letter u))) H := hP
          have hD := dMod (E := E) hj (u 0 0) (u 0 1) (u 0 2) (u 0 3) (u 0 4) (u 0 5) (g_18.2.1) (g_18.2.2) (u 1) (u 2) (u 3) (u 4) (u 5) (u 6) (u 7) (upd (u 8) ((4 * (u 0 5))).toNatClampNeg (mX6_letter u))
          refine lv_goto (tgt := 112) hx hb dX6_readOrder_108 (by decide) ?_
          refine va_iast (D := E.1) hx hb hK.1 hP hD hS 8 0 rfl rfl (rOin 1 hm40 hom (by omega)) dX6_readOrder_112 (fun H locs hP _ hS => ?_)
          have hP : va_P E.1 vwCl (wModx E b (u 0 0) (u 0 1) (u 0 2) (u 0 3) (u 0 4) (u 0 5) (g_18.2.1) (g_18.2.2) (u 1) (u 2) (u 3) (u 4) (u 5) (u 6) (u 7) (upd (upd (u 8) ((4 * (u 0 5))).toNatClampNeg (mX6_letter u)) (((4 * (u 0 5)) + 1)).toNatClampNeg (g_18.1))) H := hP
          have hD := dMod (E := E) hj (u 0 0) (u 0 1) (u 0 2) (u 0 3) (u 0 4) (u 0 5) (g_18.2.1) (g_18.2.2) (u 1) (u 2) (u 3) (u 4) (u 5) (u 6) (u 7) (upd (upd (u 8) ((4 * (u 0 5))).toNatClampNeg (mX6_letter u)) (((4 * (u 0 5)) + 1)).toNatClampNeg (g_18.1))
          refine lv_iload hx hb dX6_readOrder_113 (lv_at hl 1 rfl) ?_
          refine lv_if_eq (tgt := 148) hx hb dX6_readOrder_115 (by decide) (fun _ => ?_) (fun c => absurd (by decide) c)
          refine lv_iload_n hx hb dX6_readOrder_148 rfl (lv_at hl 2 rfl) ?_
          refine lv_if_eq (tgt := 182) hx hb dX6_readOrder_149 (by decide) (fun _ => ?_) (fun c => absurd (by decide) c)
          refine lv_aload_n hx hb dX6_readOrder_182 rfl (lv_at hl 5 rfl) ?_
          refine lv_dup hx hb dX6_readOrder_183 rfl ?_
          refine va_get (D := E.1) (ci := 5) (v := .int (u 0 5)) (C := RX6) (T := TX6) (N := 16) hx hb hts hiX6 hown hK.1 hP 0 rfl rfl 13 (by decide) hf195 (fun _ h9 => h9) rfl dX6_readOrder_184 ?_
          refine lv_iconst (v := 1) hx hb dX6_readOrder_187 (by decide) ?_
          refine lv_iadd hx hb dX6_readOrder_188 ?_
          refine va_put (D := E.1) (ci := 5) (v := .int ((u 0 5) + 1)) (ty := .int) (C := RX6) (T := TX6) (N := 16) hx hb hts hiX6 tyX6 tyX6_ok nmX6 hown hK.1 hP hD hS 0 rfl rfl 13 (by decide) hf195 (fun _ h9 => h9) rfl (by decide +kernel) rfl rfl (Nat.le_of_ble_eq_true rfl) dX6_readOrder_189 (fun H locs hP _ hS => ?_)
          have hP : va_P E.1 vwCl (wModx E b (u 0 0) (u 0 1) (u 0 2) (u 0 3) (u 0 4) ((u 0 5) + 1) (g_18.2.1) (g_18.2.2) (u 1) (u 2) (u 3) (u 4) (u 5) (u 6) (u 7) (upd (upd (u 8) ((4 * (u 0 5))).toNatClampNeg (mX6_letter u)) (((4 * (u 0 5)) + 1)).toNatClampNeg (g_18.1))) H := hP
          have hD := dMod (E := E) hj (u 0 0) (u 0 1) (u 0 2) (u 0 3) (u 0 4) ((u 0 5) + 1) (g_18.2.1) (g_18.2.2) (u 1) (u 2) (u 3) (u 4) (u 5) (u 6) (u 7) (upd (upd (u 8) ((4 * (u 0 5))).toNatClampNeg (mX6_letter u)) (((4 * (u 0 5)) + 1)).toNatClampNeg (g_18.1))
          subst R
          exact W.vret hx hb hr (fun t ht hW => ⟨rfl, by rw [ht]; exact hP, hS.F ht⟩) hS.2.2 dX6_readOrder_192
  · replace hE := hE.trans (if_pos c_1)
    refine lv_iconst (v := 1) hx hb dX6_readOrder_18 (by decide) ?_
    refine lv_goto (tgt := 23) hx hb dX6_readOrder_19 (by decide) ?_
    refine lv_istore_n (lv' := [(3, .int 1), (2, .int (mX6_letter u)), (1, .int (4 * (u 0 5))), (0, .ref (b 0))]) hx hb dX6_readOrder_23 rfl hl (by decide) rfl (fun ls hl => ?_)
    refine lv_iload_n hx hb dX6_readOrder_24 rfl (lv_at hl 1 rfl) ?_
    refine lv_bipush (v := 114) hx hb dX6_readOrder_25 (by decide) ?_
    refine lv_icmp_eq (tgt := 34) hx hb dX6_readOrder_27 (by decide) (fun c => absurd (c_1.symm.trans c) (by decide)) (fun _ => ?_)
    refine lv_iload_n hx hb dX6_readOrder_30 rfl (lv_at hl 0 rfl) ?_
    refine lv_if_eq (tgt := 38) hx hb dX6_readOrder_31 (by decide) (fun c => absurd c (by decide)) (fun _ => ?_)
    refine lv_iconst (v := 1) hx hb dX6_readOrder_34 (by decide) ?_
    refine lv_goto (tgt := 39) hx hb dX6_readOrder_35 (by decide) ?_
    refine lv_istore (lv' := [(4, .int 1), (3, .int 1), (2, .int (mX6_letter u)), (1, .int (4 * (u 0 5))), (0, .ref (b 0))]) hx hb dX6_readOrder_39 hl (by decide) rfl (fun ls hl => ?_)
    refine lv_iload hx hb dX6_readOrder_41 (lv_at hl 0 rfl) ?_
    refine lv_if_ne (tgt := 58) hx hb dX6_readOrder_43 (by decide) (fun _ => ?_) (fun c => absurd c (by decide))
    refine lv_iconst (v := 1) hx hb dX6_readOrder_58 (by decide) ?_
    refine lv_goto (tgt := 63) hx hb dX6_readOrder_59 (by decide) ?_
    refine lv_istore (lv' := [(5, .int 1), (4, .int 1), (3, .int 1), (2, .int (mX6_letter u)), (1, .int (4 * (u 0 5))), (0, .ref (b 0))]) hx hb dX6_readOrder_63 hl (by decide) rfl (fun ls hl => ?_)
    refine lv_aload_n hx hb dX6_readOrder_65 rfl (lv_at hl 5 rfl) ?_
    refine lv_iload hx hb dX6_readOrder_66 (lv_at hl 0 rfl) ?_
    refine lv_if_ne (tgt := 77) hx hb dX6_readOrder_68 (by decide) (fun _ => ?_) (fun c => absurd c (by decide))
    refine lv_iconst (v := 1) hx hb dX6_readOrder_77 (by decide) ?_
    refine lv_goto (tgt := 82) hx hb dX6_readOrder_78 (by decide) ?_
    refine kCallWv (va_runV (As := [.int 1]) (rest := []) ⟨hx, hb, hml, hown, hts⟩ (c_X6_wants l E b u hj 1 _ rfl) (cwV 1 hts gX6_readOrder_X6_wants rfl rfl rfl (by decide +kernel) ⟨Nat.le_of_ble_eq_true rfl, Nat.le_of_ble_eq_true rfl⟩) (kPreV hK hP hP (q0 := 0) rfl rfl) rfl rfl hl.1 rfl (lv_room (Nat.le_of_ble_eq_true rfl)) dX6_readOrder_82 ⟨Nat.zero_le _, Nat.zero_le _⟩) hS (fun _ h => h) (fun H locs hP _ _ hS => ?_)
    have hw1 : qB (u 0 1) (mX6_wants u 1).1 (mX6_wants u 1).2 (2 * m0 + 1) := (wants_q (u := u) hq (fun c => by first | exact absurd rfl c | exact letter_lt (u := u) hq (lne (k := 119) (by assumption) (by decide)) | exact letter_lt (u := u) hq (lne (k := 114) (by assumption) (by decide)) | exact letter_lt (u := u) hq (lne (k := 99) (by assumption) (by decide)) | exact letter_lt (u := u) hq (lne (k := 120) (by assumption) (by decide)) | exact letter_lt (u := u) hq (lne (k := 98) (by assumption) (by decide)))).weak (by omega)
    refine kGen (mX6_wants u 1) (fun g_19 hg_19 => ?_)
    rw [hg_19] at hE hP hw1
    try dsimp only at hE
    have hP : va_P E.1 vwCl (wModx E b (u 0 0) (u 0 1) (u 0 2) (u 0 3) (u 0 4) (u 0 5) (g_19.1) (g_19.2) (u 1) (u 2) (u 3) (u 4) (u 5) (u 6) (u 7) (u 8)) H := hP
    have hD := dMod (E := E) hj (u 0 0) (u 0 1) (u 0 2) (u 0 3) (u 0 4) (u 0 5) (g_19.1) (g_19.2) (u 1) (u 2) (u 3) (u 4) (u 5) (u 6) (u 7) (u 8)
    refine lv_aload_n hx hb dX6_readOrder_85 rfl (lv_at hl 5 rfl) ?_
    refine va_get (D := E.1) (ci := 5) (v := .ref (b 8)) (C := RX6) (T := TX6) (N := 16) hx hb hts hiX6 hown hK.1 hP 0 rfl rfl 12 (by decide) hf33 (fun _ h9 => h9) rfl dX6_readOrder_86 ?_
    refine lv_iload_n hx hb dX6_readOrder_89 rfl (lv_at hl 4 rfl) ?_
    refine lv_iload_n hx hb dX6_readOrder_90 rfl (lv_at hl 3 rfl) ?_
    refine va_iast (D := E.1) hx hb hK.1 hP hD hS 8 0 rfl rfl (rOin0 hm40 hom) dX6_readOrder_91 (fun H locs hP _ hS => ?_)
    have hP : va_P E.1 vwCl (wModx E b (u 0 0) (u 0 1) (u 0 2) (u 0 3) (u 0 4) (u 0 5) (g_19.1) (g_19.2) (u 1) (u 2) (u 3) (u 4) (u 5) (u 6) (u 7) (upd (u 8) ((4 * (u 0 5))).toNatClampNeg (mX6_letter u))) H := hP
    have hD := dMod (E := E) hj (u 0 0) (u 0 1) (u 0 2) (u 0 3) (u 0 4) (u 0 5) (g_19.1) (g_19.2) (u 1) (u 2) (u 3) (u 4) (u 5) (u 6) (u 7) (upd (u 8) ((4 * (u 0 5))).toNatClampNeg (mX6_letter u))
    refine lv_aload_n hx hb dX6_readOrder_92 rfl (lv_at hl 5 rfl) ?_
    refine va_get (D := E.1) (ci := 5) (v := .ref (b 8)) (C := RX6) (T := TX6) (N := 16) hx hb hts hiX6 hown hK.1 hP 0 rfl rfl 12 (by decide) hf33 (fun _ h9 => h9) rfl dX6_readOrder_93 ?_
    refine lv_iload_n hx hb dX6_readOrder_96 rfl (lv_at hl 4 rfl) ?_
    refine lv_iconst (v := 1) hx hb dX6_readOrder_97 (by decide) ?_
    refine lv_iadd hx hb dX6_readOrder_98 ?_
    refine lv_iload hx hb dX6_readOrder_99 (lv_at hl 0 rfl) ?_
    refine lv_if_eq (tgt := 111) hx hb dX6_readOrder_101 (by decide) (fun c => absurd c (by decide)) (fun _ => ?_)
    refine lv_aload_n hx hb dX6_readOrder_104 rfl (lv_at hl 5 rfl) ?_
    refine kCallWi (va_runV (As := []) (rest := [.int ((4 * (u 0 5)) + 1), .ref (b 8)]) ⟨hx, hb, hml, hown, hts⟩ (c_X6_number l E b (rset (rset u 8 (upd (u 8) ((4 * (u 0 5))).toNatClampNeg (mX6_letter u))) 0 (upd (upd (u 0) 6 (g_19.1)) 7 (g_19.2))) hj (hw1.weak (by omega)) _ rfl) (cwV 0 hts gX6_readOrder_X6_number rfl rfl rfl (by decide +kernel) ⟨Nat.le_of_ble_eq_true rfl, Nat.le_of_ble_eq_true rfl⟩) (kPreV hK hP hP (q0 := 0) rfl rfl) rfl rfl hl.1 rfl (lv_room (Nat.le_of_ble_eq_true rfl)) dX6_readOrder_105 ⟨Nat.zero_le _, Nat.zero_le _⟩) hS (fun _ h => h) (fun H locs hP _ _ hS => ?_)
    have hn1 : qB (u 0 1) (mX6_number (rset (rset u 8 (upd (u 8) ((4 * (u 0 5))).toNatClampNeg (mX6_letter u))) 0 (upd (upd (u 0) 6 (g_19.1)) 7 (g_19.2)))).2.1 (mX6_number (rset (rset u 8 (upd (u 8) ((4 * (u 0 5))).toNatClampNeg (mX6_letter u))) 0 (upd (upd (u 0) 6 (g_19.1)) 7 (g_19.2)))).2.2 (2 * m0 + 1) := (number_q (u := (rset (rset u 8 (upd (u 8) ((4 * (u 0 5))).toNatClampNeg (mX6_letter u))) 0 (upd (upd (u 0) 6 (g_19.1)) 7 (g_19.2)))) hw1).weak (by omega)
    refine kGen (mX6_number (rset (rset u 8 (upd (u 8) ((4 * (u 0 5))).toNatClampNeg (mX6_letter u))) 0 (upd (upd (u 0) 6 (g_19.1)) 7 (g_19.2)))) (fun g_20 hg_20 => ?_)
    rw [hg_20] at hE hP hn1 ⊢
    try dsimp only at hE
    have hP : va_P E.1 vwCl (wModx E b (u 0 0) (u 0 1) (u 0 2) (u 0 3) (u 0 4) (u 0 5) (g_20.2.1) (g_20.2.2) (u 1) (u 2) (u 3) (u 4) (u 5) (u 6) (u 7) (upd (u 8) ((4 * (u 0 5))).toNatClampNeg (mX6_letter u))) H := hP
    have hD := dMod (E := E) hj (u 0 0) (u 0 1) (u 0 2) (u 0 3) (u 0 4) (u 0 5) (g_20.2.1) (g_20.2.2) (u 1) (u 2) (u 3) (u 4) (u 5) (u 6) (u 7) (upd (u 8) ((4 * (u 0 5))).toNatClampNeg (mX6_letter u))
    refine lv_goto (tgt := 112) hx hb dX6_readOrder_108 (by decide) ?_
    refine va_iast (D := E.1) hx hb hK.1 hP hD hS 8 0 rfl rfl (rOin 1 hm40 hom (by omega)) dX6_readOrder_112 (fun H locs hP _ hS => ?_)
    have hP : va_P E.1 vwCl (wModx E b (u 0 0) (u 0 1) (u 0 2) (u 0 3) (u 0 4) (u 0 5) (g_20.2.1) (g_20.2.2) (u 1) (u 2) (u 3) (u 4) (u 5) (u 6) (u 7) (upd (upd (u 8) ((4 * (u 0 5))).toNatClampNeg (mX6_letter u)) (((4 * (u 0 5)) + 1)).toNatClampNeg (g_20.1))) H := hP
    have hD := dMod (E := E) hj (u 0 0) (u 0 1) (u 0 2) (u 0 3) (u 0 4) (u 0 5) (g_20.2.1) (g_20.2.2) (u 1) (u 2) (u 3) (u 4) (u 5) (u 6) (u 7) (upd (upd (u 8) ((4 * (u 0 5))).toNatClampNeg (mX6_letter u)) (((4 * (u 0 5)) + 1)).toNatClampNeg (g_20.1))
    refine lv_iload hx hb dX6_readOrder_113 (lv_at hl 1 rfl) ?_
    refine lv_if_eq (tgt := 148) hx hb dX6_readOrder_115 (by decide) (fun c => absurd c (by decide)) (fun _ => ?_)
    refine lv_aload_n hx hb dX6_readOrder_118 rfl (lv_at hl 5 rfl) ?_
    refine lv_aload_n hx hb dX6_readOrder_119 rfl (lv_at hl 5 rfl) ?_
    refine kCallRi (va_runV (As := []) (rest := [.ref (b 0)]) ⟨hx, hb, hml, hown, hts⟩ (c_X6_letter l E b (rset (rset u 8 (upd (upd (u 8) ((4 * (u 0 5))).toNatClampNeg (mX6_letter u)) (((4 * (u 0 5)) + 1)).toNatClampNeg (g_20.1))) 0 (upd (upd (u 0) 6 (g_20.2.1)) 7 (g_20.2.2))) hn1.s _ rfl) (cwV 0 hts gX6_readOrder_X6_letter rfl rfl rfl (by decide +kernel) ⟨Nat.le_of_ble_eq_true rfl, Nat.le_of_ble_eq_true rfl⟩) (kPreV hK hP hP (q0 := 0) rfl rfl) rfl rfl hl.1 rfl (lv_room (Nat.le_of_ble_eq_true rfl)) dX6_readOrder_120 ⟨Nat.zero_le _, Nat.zero_le _⟩) ?_
    refine lv_bipush (v := 46) hx hb dX6_readOrder_123 (by decide) ?_
    refine lv_icmp_ne (tgt := 132) hx hb dX6_readOrder_125 (by decide) (fun c_21 => ?_) (fun c_21 => ?_)
    · replace hE := hE.trans (if_neg c_21)
      refine lv_iconst (v := 0) hx hb dX6_readOrder_132 (by decide) ?_
      refine kCallWv (va_runV (As := [.int 0]) (rest := []) ⟨hx, hb, hml, hown, hts⟩ (c_X6_wants l E b (rset (rset u 8 (upd (upd (u 8) ((4 * (u 0 5))).toNatClampNeg (mX6_letter u)) (((4 * (u 0 5)) + 1)).toNatClampNeg (g_20.1))) 0 (upd (upd (u 0) 6 (g_20.2.1)) 7 (g_20.2.2))) hj 0 _ rfl) (cwV 1 hts gX6_readOrder_X6_wants rfl rfl rfl (by decide +kernel) ⟨Nat.le_of_ble_eq_true rfl, Nat.le_of_ble_eq_true rfl⟩) (kPreV hK hP hP (q0 := 0) rfl rfl) rfl rfl hl.1 rfl (lv_room (Nat.le_of_ble_eq_true rfl)) dX6_readOrder_133 ⟨Nat.zero_le _, Nat.zero_le _⟩) hS (fun _ h => h) (fun H locs hP _ _ hS => ?_)
      have hw2 : qB (u 0 1) (mX6_wants (rset (rset u 8 (upd (upd (u 8) ((4 * (u 0 5))).toNatClampNeg (mX6_letter u)) (((4 * (u 0 5)) + 1)).toNatClampNeg (g_20.1))) 0 (upd (upd (u 0) 6 (g_20.2.1)) 7 (g_20.2.2))) 0).1 (mX6_wants (rset (rset u 8 (upd (upd (u 8) ((4 * (u 0 5))).toNatClampNeg (mX6_letter u)) (((4 * (u 0 5)) + 1)).toNatClampNeg (g_20.1))) 0 (upd (upd (u 0) 6 (g_20.2.1)) 7 (g_20.2.2))) 0).2 (2 * m0 + 1) := (wants_q (u := (rset (rset u 8 (upd (upd (u 8) ((4 * (u 0 5))).toNatClampNeg (mX6_letter u)) (((4 * (u 0 5)) + 1)).toNatClampNeg (g_20.1))) 0 (upd (upd (u 0) 6 (g_20.2.1)) 7 (g_20.2.2)))) hn1 (fun c => by first | exact absurd rfl c | exact letter_lt (u := (rset (rset u 8 (upd (upd (u 8) ((4 * (u 0 5))).toNatClampNeg (mX6_letter u)) (((4 * (u 0 5)) + 1)).toNatClampNeg (g_20.1))) 0 (upd (upd (u 0) 6 (g_20.2.1)) 7 (g_20.2.2)))) hn1 (lne (k := 46) (by assumption) (by decide)))).weak (by omega)
      refine kGen (mX6_wants (rset (rset u 8 (upd (upd (u 8) ((4 * (u 0 5))).toNatClampNeg (mX6_letter u)) (((4 * (u 0 5)) + 1)).toNatClampNeg (g_20.1))) 0 (upd (upd (u 0) 6 (g_20.2.1)) 7 (g_20.2.2))) 0) (fun g_22 hg_22 => ?_)
      rw [hg_22] at hE hP hw2
      try dsimp only at hE
      have hP : va_P E.1 vwCl (wModx E b (u 0 0) (u 0 1) (u 0 2) (u 0 3) (u 0 4) (u 0 5) (g_22.1) (g_22.2) (u 1) (u 2) (u 3) (u 4) (u 5) (u 6) (u 7) (upd (upd (u 8) ((4 * (u 0 5))).toNatClampNeg (mX6_letter u)) (((4 * (u 0 5)) + 1)).toNatClampNeg (g_20.1))) H := hP
      have hD := dMod (E := E) hj (u 0 0) (u 0 1) (u 0 2) (u 0 3) (u 0 4) (u 0 5) (g_22.1) (g_22.2) (u 1) (u 2) (u 3) (u 4) (u 5) (u 6) (u 7) (upd (upd (u 8) ((4 * (u 0 5))).toNatClampNeg (mX6_letter u)) (((4 * (u 0 5)) + 1)).toNatClampNeg (g_20.1))
      refine lv_aload_n hx hb dX6_readOrder_136 rfl (lv_at hl 5 rfl) ?_
      refine va_get (D := E.1) (ci := 5) (v := .ref (b 8)) (C := RX6) (T := TX6) (N := 16) hx hb hts hiX6 hown hK.1 hP 0 rfl rfl 12 (by decide) hf33 (fun _ h9 => h9) rfl dX6_readOrder_137 ?_
      refine lv_iload_n hx hb dX6_readOrder_140 rfl (lv_at hl 4 rfl) ?_
      refine lv_iconst (v := 2) hx hb dX6_readOrder_141 (by decide) ?_
      refine lv_iadd hx hb dX6_readOrder_142 ?_
      refine lv_aload_n hx hb dX6_readOrder_143 rfl (lv_at hl 5 rfl) ?_
      refine kCallWi (va_runV (As := []) (rest := [.int ((4 * (u 0 5)) + 2), .ref (b 8)]) ⟨hx, hb, hml, hown, hts⟩ (c_X6_number l E b (rset (rset u 8 (upd (upd (u 8) ((4 * (u 0 5))).toNatClampNeg (mX6_letter u)) (((4 * (u 0 5)) + 1)).toNatClampNeg (g_20.1))) 0 (upd (upd (u 0) 6 (g_22.1)) 7 (g_22.2))) hj (hw2.weak (by omega)) _ rfl) (cwV 0 hts gX6_readOrder_X6_number rfl rfl rfl (by decide +kernel) ⟨Nat.le_of_ble_eq_true rfl, Nat.le_of_ble_eq_true rfl⟩) (kPreV hK hP hP (q0 := 0) rfl rfl) rfl rfl hl.1 rfl (lv_room (Nat.le_of_ble_eq_true rfl)) dX6_readOrder_144 ⟨Nat.zero_le _, Nat.zero_le _⟩) hS (fun _ h => h) (fun H locs hP _ _ hS => ?_)
      have hn2 : qB (u 0 1) (mX6_number (rset (rset u 8 (upd (upd (u 8) ((4 * (u 0 5))).toNatClampNeg (mX6_letter u)) (((4 * (u 0 5)) + 1)).toNatClampNeg (g_20.1))) 0 (upd (upd (u 0) 6 (g_22.1)) 7 (g_22.2)))).2.1 (mX6_number (rset (rset u 8 (upd (upd (u 8) ((4 * (u 0 5))).toNatClampNeg (mX6_letter u)) (((4 * (u 0 5)) + 1)).toNatClampNeg (g_20.1))) 0 (upd (upd (u 0) 6 (g_22.1)) 7 (g_22.2)))).2.2 (2 * m0 + 1) := (number_q (u := (rset (rset u 8 (upd (upd (u 8) ((4 * (u 0 5))).toNatClampNeg (mX6_letter u)) (((4 * (u 0 5)) + 1)).toNatClampNeg (g_20.1))) 0 (upd (upd (u 0) 6 (g_22.1)) 7 (g_22.2)))) hw2).weak (by omega)
      refine kGen (mX6_number (rset (rset u 8 (upd (upd (u 8) ((4 * (u 0 5))).toNatClampNeg (mX6_letter u)) (((4 * (u 0 5)) + 1)).toNatClampNeg (g_20.1))) 0 (upd (upd (u 0) 6 (g_22.1)) 7 (g_22.2)))) (fun g_23 hg_23 => ?_)
      rw [hg_23] at hE hP hn2 ⊢
      try dsimp only at hE
      have hP : va_P E.1 vwCl (wModx E b (u 0 0) (u 0 1) (u 0 2) (u 0 3) (u 0 4) (u 0 5) (g_23.2.1) (g_23.2.2) (u 1) (u 2) (u 3) (u 4) (u 5) (u 6) (u 7) (upd (upd (u 8) ((4 * (u 0 5))).toNatClampNeg (mX6_letter u)) (((4 * (u 0 5)) + 1)).toNatClampNeg (g_20.1))) H := hP
      have hD := dMod (E := E) hj (u 0 0) (u 0 1) (u 0 2) (u 0 3) (u 0 4) (u 0 5) (g_23.2.1) (g_23.2.2) (u 1) (u 2) (u 3) (u 4) (u 5) (u 6) (u 7) (upd (upd (u 8) ((4 * (u 0 5))).toNatClampNeg (mX6_letter u)) (((4 * (u 0 5)) + 1)).toNatClampNeg (g_20.1))
      refine va_iast (D := E.1) hx hb hK.1 hP hD hS 8 0 rfl rfl (rOin 2 hm40 hom (by omega)) dX6_readOrder_147 (fun H locs hP _ hS => ?_)
      have hP : va_P E.1 vwCl (wModx E b (u 0 0) (u 0 1) (u 0 2) (u 0 3) (u 0 4) (u 0 5) (g_23.2.1) (g_23.2.2) (u 1) (u 2) (u 3) (u 4) (u 5) (u 6) (u 7) (upd (upd (upd (u 8) ((4 * (u 0 5))).toNatClampNeg (mX6_letter u)) (((4 * (u 0 5)) + 1)).toNatClampNeg (g_20.1)) (((4 * (u 0 5)) + 2)).toNatClampNeg (g_23.1))) H := hP
      have hD := dMod (E := E) hj (u 0 0) (u 0 1) (u 0 2) (u 0 3) (u 0 4) (u 0 5) (g_23.2.1) (g_23.2.2) (u 1) (u 2) (u 3) (u 4) (u 5) (u 6) (u 7) (upd (upd (upd (u 8) ((4 * (u 0 5))).toNatClampNeg (mX6_letter u)) (((4 * (u 0 5)) + 1)).toNatClampNeg (g_20.1)) (((4 * (u 0 5)) + 2)).toNatClampNeg (g_23.1))
      refine lv_iload_n hx hb dX6_readOrder_148 rfl (lv_at hl 2 rfl) ?_
      refine lv_if_eq (tgt := 182) hx hb dX6_readOrder_149 (by decide) (fun c => absurd c (by decide)) (fun _ => ?_)
      refine lv_aload_n hx hb dX6_readOrder_152 rfl (lv_at hl 5 rfl) ?_
      refine lv_aload_n hx hb dX6_readOrder_153 rfl (lv_at hl 5 rfl) ?_
      refine kCallRi (va_runV (As := []) (rest := [.ref (b 0)]) ⟨hx, hb, hml, hown, hts⟩ (c_X6_letter l E b (rset (rset u 8 (upd (upd (upd (u 8) ((4 * (u 0 5))).toNatClampNeg (mX6_letter u)) (((4 * (u 0 5)) + 1)).toNatClampNeg (g_20.1)) (((4 * (u 0 5)) + 2)).toNatClampNeg (g_23.1))) 0 (upd (upd (u 0) 6 (g_23.2.1)) 7 (g_23.2.2))) hn2.s _ rfl) (cwV 0 hts gX6_readOrder_X6_letter rfl rfl rfl (by decide +kernel) ⟨Nat.le_of_ble_eq_true rfl, Nat.le_of_ble_eq_true rfl⟩) (kPreV hK hP hP (q0 := 0) rfl rfl) rfl rfl hl.1 rfl (lv_room (Nat.le_of_ble_eq_true rfl)) dX6_readOrder_154 ⟨Nat.zero_le _, Nat.zero_le _⟩) ?_
      refine lv_bipush (v := 61) hx hb dX6_readOrder_157 (by decide) ?_
      refine lv_icmp_ne (tgt := 166) hx hb dX6_readOrder_159 (by decide) (fun c_24 => ?_) (fun c_24 => ?_)
      · replace hE := hE.trans (if_neg c_24)
        refine lv_iconst (v := 0) hx hb dX6_readOrder_166 (by decide) ?_
        refine kCallWv (va_runV (As := [.int 0]) (rest := []) ⟨hx, hb, hml, hown, hts⟩ (c_X6_wants l E b (rset (rset u 8 (upd (upd (upd (u 8) ((4 * (u 0 5))).toNatClampNeg (mX6_letter u)) (((4 * (u 0 5)) + 1)).toNatClampNeg (g_20.1)) (((4 * (u 0 5)) + 2)).toNatClampNeg (g_23.1))) 0 (upd (upd (u 0) 6 (g_23.2.1)) 7 (g_23.2.2))) hj 0 _ rfl) (cwV 1 hts gX6_readOrder_X6_wants rfl rfl rfl (by decide +kernel) ⟨Nat.le_of_ble_eq_true rfl, Nat.le_of_ble_eq_true rfl⟩) (kPreV hK hP hP (q0 := 0) rfl rfl) rfl rfl hl.1 rfl (lv_room (Nat.le_of_ble_eq_true rfl)) dX6_readOrder_167 ⟨Nat.zero_le _, Nat.zero_le _⟩) hS (fun _ h => h) (fun H locs hP _ _ hS => ?_)
        have hw3 : qB (u 0 1) (mX6_wants (rset (rset u 8 (upd (upd (upd (u 8) ((4 * (u 0 5))).toNatClampNeg (mX6_letter u)) (((4 * (u 0 5)) + 1)).toNatClampNeg (g_20.1)) (((4 * (u 0 5)) + 2)).toNatClampNeg (g_23.1))) 0 (upd (upd (u 0) 6 (g_23.2.1)) 7 (g_23.2.2))) 0).1 (mX6_wants (rset (rset u 8 (upd (upd (upd (u 8) ((4 * (u 0 5))).toNatClampNeg (mX6_letter u)) (((4 * (u 0 5)) + 1)).toNatClampNeg (g_20.1)) (((4 * (u 0 5)) + 2)).toNatClampNeg (g_23.1))) 0 (upd (upd (u 0) 6 (g_23.2.1)) 7 (g_23.2.2))) 0).2 (2 * m0 + 1) := (wants_q (u := (rset (rset u 8 (upd (upd (upd (u 8) ((4 * (u 0 5))).toNatClampNeg (mX6_letter u)) (((4 * (u 0 5)) + 1)).toNatClampNeg (g_20.1)) (((4 * (u 0 5)) + 2)).toNatClampNeg (g_23.1))) 0 (upd (upd (u 0) 6 (g_23.2.1)) 7 (g_23.2.2)))) hn2 (fun c => by first | exact absurd rfl c | exact letter_lt (u := (rset (rset u 8 (upd (upd (upd (u 8) ((4 * (u 0 5))).toNatClampNeg (mX6_letter u)) (((4 * (u 0 5)) + 1)).toNatClampNeg (g_20.1)) (((4 * (u 0 5)) + 2)).toNatClampNeg (g_23.1))) 0 (upd (upd (u 0) 6 (g_23.2.1)) 7 (g_23.2.2)))) hn2 (lne (k := 61) (by assumption) (by decide)))).weak (by omega)
        refine kGen (mX6_wants (rset (rset u 8 (upd (upd (upd (u 8) ((4 * (u 0 5))).toNatClampNeg (mX6_letter u)) (((4 * (u 0 5)) + 1)).toNatClampNeg (g_20.1)) (((4 * (u 0 5)) + 2)).toNatClampNeg (g_23.1))) 0 (upd (upd (u 0) 6 (g_23.2.1)) 7 (g_23.2.2))) 0) (fun g_25 hg_25 => ?_)
        rw [hg_25] at hE hP hw3
        try dsimp only at hE
        have hP : va_P E.1 vwCl (wModx E b (u 0 0) (u 0 1) (u 0 2) (u 0 3) (u 0 4) (u 0 5) (g_25.1) (g_25.2) (u 1) (u 2) (u 3) (u 4) (u 5) (u 6) (u 7) (upd (upd (upd (u 8) ((4 * (u 0 5))).toNatClampNeg (mX6_letter u)) (((4 * (u 0 5)) + 1)).toNatClampNeg (g_20.1)) (((4 * (u 0 5)) + 2)).toNatClampNeg (g_23.1))) H := hP
        have hD := dMod (E := E) hj (u 0 0) (u 0 1) (u 0 2) (u 0 3) (u 0 4) (u 0 5) (g_25.1) (g_25.2) (u 1) (u 2) (u 3) (u 4) (u 5) (u 6) (u 7) (upd (upd (upd (u 8) ((4 * (u 0 5))).toNatClampNeg (mX6_letter u)) (((4 * (u 0 5)) + 1)).toNatClampNeg (g_20.1)) (((4 * (u 0 5)) + 2)).toNatClampNeg (g_23.1))
        refine lv_aload_n hx hb dX6_readOrder_170 rfl (lv_at hl 5 rfl) ?_
        refine va_get (D := E.1) (ci := 5) (v := .ref (b 8)) (C := RX6) (T := TX6) (N := 16) hx hb hts hiX6 hown hK.1 hP 0 rfl rfl 12 (by decide) hf33 (fun _ h9 => h9) rfl dX6_readOrder_171 ?_
        refine lv_iload_n hx hb dX6_readOrder_174 rfl (lv_at hl 4 rfl) ?_
        refine lv_iconst (v := 3) hx hb dX6_readOrder_175 (by decide) ?_
        refine lv_iadd hx hb dX6_readOrder_176 ?_
        refine lv_aload_n hx hb dX6_readOrder_177 rfl (lv_at hl 5 rfl) ?_
        refine kCallWi (va_runV (As := []) (rest := [.int ((4 * (u 0 5)) + 3), .ref (b 8)]) ⟨hx, hb, hml, hown, hts⟩ (c_X6_number l E b (rset (rset u 8 (upd (upd (upd (u 8) ((4 * (u 0 5))).toNatClampNeg (mX6_letter u)) (((4 * (u 0 5)) + 1)).toNatClampNeg (g_20.1)) (((4 * (u 0 5)) + 2)).toNatClampNeg (g_23.1))) 0 (upd (upd (u 0) 6 (g_25.1)) 7 (g_25.2))) hj (hw3.weak (by omega)) _ rfl) (cwV 0 hts gX6_readOrder_X6_number rfl rfl rfl (by decide +kernel) ⟨Nat.le_of_ble_eq_true rfl, Nat.le_of_ble_eq_true rfl⟩) (kPreV hK hP hP (q0 := 0) rfl rfl) rfl rfl hl.1 rfl (lv_room (Nat.le_of_ble_eq_true rfl)) dX6_readOrder_178 ⟨Nat.zero_le _, Nat.zero_le _⟩) hS (fun _ h => h) (fun H locs hP _ _ hS => ?_)
        have hn3 : qB (u 0 1) (mX6_number (rset (rset u 8 (upd (upd (upd (u 8) ((4 * (u 0 5))).toNatClampNeg (mX6_letter u)) (((4 * (u 0 5)) + 1)).toNatClampNeg (g_20.1)) (((4 * (u 0 5)) + 2)).toNatClampNeg (g_23.1))) 0 (upd (upd (u 0) 6 (g_25.1)) 7 (g_25.2)))).2.1 (mX6_number (rset (rset u 8 (upd (upd (upd (u 8) ((4 * (u 0 5))).toNatClampNeg (mX6_letter u)) (((4 * (u 0 5)) + 1)).toNatClampNeg (g_20.1)) (((4 * (u 0 5)) + 2)).toNatClampNeg (g_23.1))) 0 (upd (upd (u 0) 6 (g_25.1)) 7 (g_25.2)))).2.2 (2 * m0 + 1) := (number_q (u := (rset (rset u 8 (upd (upd (upd (u 8) ((4 * (u 0 5))).toNatClampNeg (mX6_letter u)) (((4 * (u 0 5)) + 1)).toNatClampNeg (g_20.1)) (((4 * (u 0 5)) + 2)).toNatClampNeg (g_23.1))) 0 (upd (upd (u 0) 6 (g_25.1)) 7 (g_25.2)))) hw3).weak (by omega)
        refine kGen (mX6_number (rset (rset u 8 (upd (upd (upd (u 8) ((4 * (u 0 5))).toNatClampNeg (mX6_letter u)) (((4 * (u 0 5)) + 1)).toNatClampNeg (g_20.1)) (((4 * (u 0 5)) + 2)).toNatClampNeg (g_23.1))) 0 (upd (upd (u 0) 6 (g_25.1)) 7 (g_25.2)))) (fun g_26 hg_26 => ?_)
        rw [hg_26] at hE hP hn3 ⊢
        try dsimp only at hE
        have hP : va_P E.1 vwCl (wModx E b (u 0 0) (u 0 1) (u 0 2) (u 0 3) (u 0 4) (u 0 5) (g_26.2.1) (g_26.2.2) (u 1) (u 2) (u 3) (u 4) (u 5) (u 6) (u 7) (upd (upd (upd (u 8) ((4 * (u 0 5))).toNatClampNeg (mX6_letter u)) (((4 * (u 0 5)) + 1)).toNatClampNeg (g_20.1)) (((4 * (u 0 5)) + 2)).toNatClampNeg (g_23.1))) H := hP
        have hD := dMod (E := E) hj (u 0 0) (u 0 1) (u 0 2) (u 0 3) (u 0 4) (u 0 5) (g_26.2.1) (g_26.2.2) (u 1) (u 2) (u 3) (u 4) (u 5) (u 6) (u 7) (upd (upd (upd (u 8) ((4 * (u 0 5))).toNatClampNeg (mX6_letter u)) (((4 * (u 0 5)) + 1)).toNatClampNeg (g_20.1)) (((4 * (u 0 5)) + 2)).toNatClampNeg (g_23.1))
        refine va_iast (D := E.1) hx hb hK.1 hP hD hS 8 0 rfl rfl (rOin 3 hm40 hom (by omega)) dX6_readOrder_181 (fun H locs hP _ hS => ?_)
        have hP : va_P E.1 vwCl (wModx E b (u 0 0) (u 0 1) (u 0 2) (u 0 3) (u 0 4) (u 0 5) (g_26.2.1) (g_26.2.2) (u 1) (u 2) (u 3) (u 4) (u 5) (u 6) (u 7) (upd (upd (upd (upd (u 8) ((4 * (u 0 5))).toNatClampNeg (mX6_letter u)) (((4 * (u 0 5)) + 1)).toNatClampNeg (g_20.1)) (((4 * (u 0 5)) + 2)).toNatClampNeg (g_23.1)) (((4 * (u 0 5)) + 3)).toNatClampNeg (g_26.1))) H := hP
        have hD := dMod (E := E) hj (u 0 0) (u 0 1) (u 0 2) (u 0 3) (u 0 4) (u 0 5) (g_26.2.1) (g_26.2.2) (u 1) (u 2) (u 3) (u 4) (u 5) (u 6) (u 7) (upd (upd (upd (upd (u 8) ((4 * (u 0 5))).toNatClampNeg (mX6_letter u)) (((4 * (u 0 5)) + 1)).toNatClampNeg (g_20.1)) (((4 * (u 0 5)) + 2)).toNatClampNeg (g_23.1)) (((4 * (u 0 5)) + 3)).toNatClampNeg (g_26.1))
        refine lv_aload_n hx hb dX6_readOrder_182 rfl (lv_at hl 5 rfl) ?_
        refine lv_dup hx hb dX6_readOrder_183 rfl ?_
        refine va_get (D := E.1) (ci := 5) (v := .int (u 0 5)) (C := RX6) (T := TX6) (N := 16) hx hb hts hiX6 hown hK.1 hP 0 rfl rfl 13 (by decide) hf195 (fun _ h9 => h9) rfl dX6_readOrder_184 ?_
        refine lv_iconst (v := 1) hx hb dX6_readOrder_187 (by decide) ?_
        refine lv_iadd hx hb dX6_readOrder_188 ?_
        refine va_put (D := E.1) (ci := 5) (v := .int ((u 0 5) + 1)) (ty := .int) (C := RX6) (T := TX6) (N := 16) hx hb hts hiX6 tyX6 tyX6_ok nmX6 hown hK.1 hP hD hS 0 rfl rfl 13 (by decide) hf195 (fun _ h9 => h9) rfl (by decide +kernel) rfl rfl (Nat.le_of_ble_eq_true rfl) dX6_readOrder_189 (fun H locs hP _ hS => ?_)
        have hP : va_P E.1 vwCl (wModx E b (u 0 0) (u 0 1) (u 0 2) (u 0 3) (u 0 4) ((u 0 5) + 1) (g_26.2.1) (g_26.2.2) (u 1) (u 2) (u 3) (u 4) (u 5) (u 6) (u 7) (upd (upd (upd (upd (u 8) ((4 * (u 0 5))).toNatClampNeg (mX6_letter u)) (((4 * (u 0 5)) + 1)).toNatClampNeg (g_20.1)) (((4 * (u 0 5)) + 2)).toNatClampNeg (g_23.1)) (((4 * (u 0 5)) + 3)).toNatClampNeg (g_26.1))) H := hP
        have hD := dMod (E := E) hj (u 0 0) (u 0 1) (u 0 2) (u 0 3) (u 0 4) ((u 0 5) + 1) (g_26.2.1) (g_26.2.2) (u 1) (u 2) (u 3) (u 4) (u 5) (u 6) (u 7) (upd (upd (upd (upd (u 8) ((4 * (u 0 5))).toNatClampNeg (mX6_letter u)) (((4 * (u 0 5)) + 1)).toNatClampNeg (g_20.1)) (((4 * (u 0 5)) + 2)).toNatClampNeg (g_23.1)) (((4 * (u 0 5)) + 3)).toNatClampNeg (g_26.1))
        subst R
        exact W.vret hx hb hr (fun t ht hW => ⟨rfl, by rw [ht]; exact hP, hS.F ht⟩) hS.2.2 dX6_readOrder_192
      · replace hE := hE.trans (if_pos c_24)
        refine lv_iconst (v := 1) hx hb dX6_readOrder_162 (by decide) ?_
        refine lv_goto (tgt := 167) hx hb dX6_readOrder_163 (by decide) ?_
        refine kCallWv (va_runV (As := [.int 1]) (rest := []) ⟨hx, hb, hml, hown, hts⟩ (c_X6_wants l E b (rset (rset u 8 (upd (upd (upd (u 8) ((4 * (u 0 5))).toNatClampNeg (mX6_letter u)) (((4 * (u 0 5)) + 1)).toNatClampNeg (g_20.1)) (((4 * (u 0 5)) + 2)).toNatClampNeg (g_23.1))) 0 (upd (upd (u 0) 6 (g_23.2.1)) 7 (g_23.2.2))) hj 1 _ rfl) (cwV 1 hts gX6_readOrder_X6_wants rfl rfl rfl (by decide +kernel) ⟨Nat.le_of_ble_eq_true rfl, Nat.le_of_ble_eq_true rfl⟩) (kPreV hK hP hP (q0 := 0) rfl rfl) rfl rfl hl.1 rfl (lv_room (Nat.le_of_ble_eq_true rfl)) dX6_readOrder_167 ⟨Nat.zero_le _, Nat.zero_le _⟩) hS (fun _ h => h) (fun H locs hP _ _ hS => ?_)
        have hw3 : qB (u 0 1) (mX6_wants (rset (rset u 8 (upd (upd (upd (u 8) ((4 * (u 0 5))).toNatClampNeg (mX6_letter u)) (((4 * (u 0 5)) + 1)).toNatClampNeg (g_20.1)) (((4 * (u 0 5)) + 2)).toNatClampNeg (g_23.1))) 0 (upd (upd (u 0) 6 (g_23.2.1)) 7 (g_23.2.2))) 1).1 (mX6_wants (rset (rset u 8 (upd (upd (upd (u 8) ((4 * (u 0 5))).toNatClampNeg (mX6_letter u)) (((4 * (u 0 5)) + 1)).toNatClampNeg (g_20.1)) (((4 * (u 0 5)) + 2)).toNatClampNeg (g_23.1))) 0 (upd (upd (u 0) 6 (g_23.2.1)) 7 (g_23.2.2))) 1).2 (2 * m0 + 1) := (wants_q (u := (rset (rset u 8 (upd (upd (upd (u 8) ((4 * (u 0 5))).toNatClampNeg (mX6_letter u)) (((4 * (u 0 5)) + 1)).toNatClampNeg (g_20.1)) (((4 * (u 0 5)) + 2)).toNatClampNeg (g_23.1))) 0 (upd (upd (u 0) 6 (g_23.2.1)) 7 (g_23.2.2)))) hn2 (fun c => by first | exact absurd rfl c | exact letter_lt (u := (rset (rset u 8 (upd (upd (upd (u 8) ((4 * (u 0 5))).toNatClampNeg (mX6_letter u)) (((4 * (u 0 5)) + 1)).toNatClampNeg (g_20.1)) (((4 * (u 0 5)) + 2)).toNatClampNeg (g_23.1))) 0 (upd (upd (u 0) 6 (g_23.2.1)) 7 (g_23.2.2)))) hn2 (lne (k := 61) (by assumption) (by decide)))).weak (by omega)
        refine kGen (mX6_wants (rset (rset u 8 (upd (upd (upd (u 8) ((4 * (u 0 5))).toNatClampNeg (mX6_letter u)) (((4 * (u 0 5)) + 1)).toNatClampNeg (g_20.1)) (((4 * (u 0 5)) + 2)).toNatClampNeg (g_23.1))) 0 (upd (upd (u 0) 6 (g_23.2.1)) 7 (g_23.2.2))) 1) (fun g_27 hg_27 => ?_)
        rw [hg_27] at hE hP hw3
        try dsimp only at hE
        have hP : va_P E.1 vwCl (wModx E b (u 0 0) (u 0 1) (u 0 2) (u 0 3) (u 0 4) (u 0 5) (g_27.1) (g_27.2) (u 1) (u 2) (u 3) (u 4) (u 5) (u 6) (u 7) (upd (upd (upd (u 8) ((4 * (u 0 5))).toNatClampNeg (mX6_letter u)) (((4 * (u 0 5)) + 1)).toNatClampNeg (g_20.1)) (((4 * (u 0 5)) + 2)).toNatClampNeg (g_23.1))) H := hP
        have hD := dMod (E := E) hj (u 0 0) (u 0 1) (u 0 2) (u 0 3) (u 0 4) (u 0 5) (g_27.1) (g_27.2) (u 1) (u 2) (u 3) (u 4) (u 5) (u 6) (u 7) (upd (upd (upd (u 8) ((4 * (u 0 5))).toNatClampNeg (mX6_letter u)) (((4 * (u 0 5)) + 1)).toNatClampNeg (g_20.1)) (((4 * (u 0 5)) + 2)).toNatClampNeg (g_23.1))
        refine lv_aload_n hx hb dX6_readOrder_170 rfl (lv_at hl 5 rfl) ?_
        refine va_get (D := E.1) (ci := 5) (v := .ref (b 8)) (C := RX6) (T := TX6) (N := 16) hx hb hts hiX6 hown hK.1 hP 0 rfl rfl 12 (by decide) hf33 (fun _ h9 => h9) rfl dX6_readOrder_171 ?_
        refine lv_iload_n hx hb dX6_readOrder_174 rfl (lv_at hl 4 rfl) ?_
        refine lv_iconst (v := 3) hx hb dX6_readOrder_175 (by decide) ?_
        refine lv_iadd hx hb dX6_readOrder_176 ?_
        refine lv_aload_n hx hb dX6_readOrder_177 rfl (lv_at hl 5 rfl) ?_
        refine kCallWi (va_runV (As := []) (rest := [.int ((4 * (u 0 5)) + 3), .ref (b 8)]) ⟨hx, hb, hml, hown, hts⟩ (c_X6_number l E b (rset (rset u 8 (upd (upd (upd (u 8) ((4 * (u 0 5))).toNatClampNeg (mX6_letter u)) (((4 * (u 0 5)) + 1)).toNatClampNeg (g_20.1)) (((4 * (u 0 5)) + 2)).toNatClampNeg (g_23.1))) 0 (upd (upd (u 0) 6 (g_27.1)) 7 (g_27.2))) hj (hw3.weak (by omega)) _ rfl) (cwV 0 hts gX6_readOrder_X6_number rfl rfl rfl (by decide +kernel) ⟨Nat.le_of_ble_eq_true rfl, Nat.le_of_ble_eq_true rfl⟩) (kPreV hK hP hP (q0 := 0) rfl rfl) rfl rfl hl.1 rfl (lv_room (Nat.le_of_ble_eq_true rfl)) dX6_readOrder_178 ⟨Nat.zero_le _, Nat.zero_le _⟩) hS (fun _ h => h) (fun H locs hP _ _ hS => ?_)
        have hn3 : qB (u 0 1) (mX6_number (rset (rset u 8 (upd (upd (upd (u 8) ((4 * (u 0 5))).toNatClampNeg (mX6_letter u)) (((4 * (u 0 5)) + 1)).toNatClampNeg (g_20.1)) (((4 * (u 0 5)) + 2)).toNatClampNeg (g_23.1))) 0 (upd (upd (u 0) 6 (g_27.1)) 7 (g_27.2)))).2.1 (mX6_number (rset (rset u 8 (upd (upd (upd (u 8) ((4 * (u 0 5))).toNatClampNeg (mX6_letter u)) (((4 * (u 0 5)) + 1)).toNatClampNeg (g_20.1)) (((4 * (u 0 5)) + 2)).toNatClampNeg (g_23.1))) 0 (upd (upd (u 0) 6 (g_27.1)) 7 (g_27.2)))).2.2 (2 * m0 + 1) := (number_q (u := (rset (rset u 8 (upd (upd (upd (u 8) ((4 * (u 0 5))).toNatClampNeg (mX6_letter u)) (((4 * (u 0 5)) + 1)).toNatClampNeg (g_20.1)) (((4 * (u 0 5)) + 2)).toNatClampNeg (g_23.1))) 0 (upd (upd (u 0) 6 (g_27.1)) 7 (g_27.2)))) hw3).weak (by omega)
        refine kGen (mX6_number (rset (rset u 8 (upd (upd (upd (u 8) ((4 * (u 0 5))).toNatClampNeg (mX6_letter u)) (((4 * (u 0 5)) + 1)).toNatClampNeg (g_20.1)) (((4 * (u 0 5)) + 2)).toNatClampNeg (g_23.1))) 0 (upd (upd (u 0) 6 (g_27.1)) 7 (g_27.2)))) (fun g_28 hg_28 => ?_)
        rw [hg_28] at hE hP hn3 ⊢
        try dsimp only at hE
        have hP : va_P E.1 vwCl (wModx E b (u 0 0) (u 0 1) (u 0 2) (u 0 3) (u 0 4) (u 0 5) (g_28.2.1) (g_28.2.2) (u 1) (u 2) (u 3) (u 4) (u 5) (u 6) (u 7) (upd (upd (upd (u 8) ((4 * (u 0 5))).toNatClampNeg (mX6_letter u)) (((4 * (u 0 5)) + 1)).toNatClampNeg (g_20.1)) (((4 * (u 0 5)) + 2)).toNatClampNeg (g_23.1))) H := hP
        have hD := dMod (E := E) hj (u 0 0) (u 0 1) (u 0 2) (u 0 3) (u 0 4) (u 0 5) (g_28.2.1) (g_28.2.2) (u 1) (u 2) (u 3) (u 4) (u 5) (u 6) (u 7) (upd (upd (upd (u 8) ((4 * (u 0 5))).toNatClampNeg (mX6_letter u)) (((4 * (u 0 5)) + 1)).toNatClampNeg (g_20.1)) (((4 * (u 0 5)) + 2)).toNatClampNeg (g_23.1))
        refine va_iast (D := E.1) hx hb hK.1 hP hD hS 8 0 rfl rfl (rOin 3 hm40 hom (by omega)) dX6_readOrder_181 (fun H locs hP _ hS => ?_)
        have hP : va_P E.1 vwCl (wModx E b (u 0 0) (u 0 1) (u 0 2) (u 0 3) (u 0 4) (u 0 5) (g_28.2.1) (g_28.2.2) (u 1) (u 2) (u 3) (u 4) (u 5) (u 6) (u 7) (upd (upd (upd (upd (u 8) ((4 * (u 0 5))).toNatClampNeg (mX6_letter u)) (((4 * (u 0 5)) + 1)).toNatClampNeg (g_20.1)) (((4 * (u 0 5)) + 2)).toNatClampNeg (g_23.1)) (((4 * (u 0 5)) + 3)).toNatClampNeg (g_28.1))) H := hP
        have hD := dMod (E := E) hj (u 0 0) (u 0 1) (u 0 2) (u 0 3) (u 0 4) (u 0 5) (g_28.2.1) (g_28.2.2) (u 1) (u 2) (u 3) (u 4) (u 5) (u 6) (u 7) (upd (upd (upd (upd (u 8) ((4 * (u 0 5))).toNatClampNeg (mX6_letter u)) (((4 * (u 0 5)) + 1)).toNatClampNeg (g_20.1)) (((4 * (u 0 5)) + 2)).toNatClampNeg (g_23.1)) (((4 * (u 0 5)) + 3)).toNatClampNeg (g_28.1))
        refine lv_aload_n hx hb dX6_readOrder_182 rfl (lv_at hl 5 rfl) ?_
        refine lv_dup hx hb dX6_readOrder_183 rfl ?_
        refine va_get (D := E.1) (ci := 5) (v := .int (u 0 5)) (C := RX6) (T := TX6) (N := 16) hx hb hts hiX6 hown hK.1 hP 0 rfl rfl 13 (by decide) hf195 (fun _ h9 => h9) rfl dX6_readOrder_184 ?_
        refine lv_iconst (v := 1) hx hb dX6_readOrder_187 (by decide) ?_
        refine lv_iadd hx hb dX6_readOrder_188 ?_
        refine va_put (D := E.1) (ci := 5) (v := .int ((u 0 5) + 1)) (ty := .int) (C := RX6) (T := TX6) (N := 16) hx hb hts hiX6 tyX6 tyX6_ok nmX6 hown hK.1 hP hD hS 0 rfl rfl 13 (by decide) hf195 (fun _ h9 => h9) rfl (by decide +kernel) rfl rfl (Nat.le_of_ble_eq_true rfl) dX6_readOrder_189 (fun H locs hP _ hS => ?_)
        have hP : va_P E.1 vwCl (wModx E b (u 0 0) (u 0 1) (u 0 2) (u 0 3) (u 0 4) ((u 0 5) + 1) (g_28.2.1) (g_28.2.2) (u 1) (u 2) (u 3) (u 4) (u 5) (u 6) (u 7) (upd (upd (upd (upd (u 8) ((4 * (u 0 5))).toNatClampNeg (mX6_letter u)) (((4 * (u 0 5)) + 1)).toNatClampNeg (g_20.1)) (((4 * (u 0 5)) + 2)).toNatClampNeg (g_23.1)) (((4 * (u 0 5)) + 3)).toNatClampNeg (g_28.1))) H := hP
        have hD := dMod (E := E) hj (u 0 0) (u 0 1) (u 0 2) (u 0 3) (u 0 4) ((u 0 5) + 1) (g_28.2.1) (g_28.2.2) (u 1) (u 2) (u 3) (u 4) (u 5) (u 6) (u 7) (upd (upd (upd (upd (u 8) ((4 * (u 0 5))).toNatClampNeg (mX6_letter u)) (((4 * (u 0 5)) + 1)).toNatClampNeg (g_20.1)) (((4 * (u 0 5)) + 2)).toNatClampNeg (g_23.1)) (((4 * (u 0 5)) + 3)).toNatClampNeg (g_28.1))
        subst R
        exact W.vret hx hb hr (fun t ht hW => ⟨rfl, by rw [ht]; exact hP, hS.F ht⟩) hS.2.2 dX6_readOrder_192
    · replace hE := hE.trans (if_pos c_21)
      refine lv_iconst (v := 1) hx hb dX6_readOrder_128 (by decide) ?_
      refine lv_goto (tgt := 133) hx hb dX6_readOrder_129 (by decide) ?_
      refine kCallWv (va_runV (As := [.int 1]) (rest := []) ⟨hx, hb, hml, hown, hts⟩ (c_X6_wants l E b (rset (rset u 8 (upd (upd (u 8) ((4 * (u 0 5))).toNatClampNeg (mX6_letter u)) (((4 * (u 0 5)) + 1)).toNatClampNeg (g_20.1))) 0 (upd (upd (u 0) 6 (g_20.2.1)) 7 (g_20.2.2))) hj 1 _ rfl) (cwV 1 hts gX6_readOrder_X6_wants rfl rfl rfl (by decide +kernel) ⟨Nat.le_of_ble_eq_true rfl, Nat.le_of_ble_eq_true rfl⟩) (kPreV hK hP hP (q0 := 0) rfl rfl) rfl rfl hl.1 rfl (lv_room (Nat.le_of_ble_eq_true rfl)) dX6_readOrder_133 ⟨Nat.zero_le _, Nat.zero_le _⟩) hS (fun _ h => h) (fun H locs hP _ _ hS => ?_)
      have hw2 : qB (u 0 1) (mX6_wants (rset (rset u 8 (upd (upd (u 8) ((4 * (u 0 5))).toNatClampNeg (mX6_letter u)) (((4 * (u 0 5)) + 1)).toNatClampNeg (g_20.1))) 0 (upd (upd (u 0) 6 (g_20.2.1)) 7 (g_20.2.2))) 1).1 (mX6_wants (rset (rset u 8 (upd (upd (u 8) ((4 * (u 0 5))).toNatClampNeg (mX6_letter u)) (((4 * (u 0 5)) + 1)).toNatClampNeg (g_20.1))) 0 (upd (upd (u 0) 6 (g_20.2.1)) 7 (g_20.2.2))) 1).2 (2 * m0 + 1) := (wants_q (u := (rset (rset u 8 (upd (upd (u 8) ((4 * (u 0 5))).toNatClampNeg (mX6_letter u)) (((4 * (u 0 5)) + 1)).toNatClampNeg (g_20.1))) 0 (upd (upd (u 0) 6 (g_20.2.1)) 7 (g_20.2.2)))) hn1 (fun c => by first | exact absurd rfl c | exact letter_lt (u := (rset (rset u 8 (upd (upd (u 8) ((4 * (u 0 5))).toNatClampNeg (mX6_letter u)) (((4 * (u 0 5)) + 1)).toNatClampNeg (g_20.1))) 0 (upd (upd (u 0) 6 (g_20.2.1)) 7 (g_20.2.2)))) hn1 (lne (k := 46) (by assumption) (by decide)))).weak (by omega)
      refine kGen (mX6_wants (rset (rset u 8 (upd (upd (u 8) ((4 * (u 0 5))).toNatClampNeg (mX6_letter u)) (((4 * (u 0 5)) + 1)).toNatClampNeg (g_20.1))) 0 (upd (upd (u 0) 6 (g_20.2.1)) 7 (g_20.2.2))) 1) (fun g_29 hg_29 => ?_)
      rw [hg_29] at hE hP hw2
      try dsimp only at hE
      have hP : va_P E.1 vwCl (wModx E b (u 0 0) (u 0 1) (u 0 2) (u 0 3) (u 0 4) (u 0 5) (g_29.1) (g_29.2) (u 1) (u 2) (u 3) (u 4) (u 5) (u 6) (u 7) (upd (upd (u 8) ((4 * (u 0 5))).toNatClampNeg (mX6_letter u)) (((4 * (u 0 5)) + 1)).toNatClampNeg (g_20.1))) H := hP
      have hD := dMod (E := E) hj (u 0 0) (u 0 1) (u 0 2) (u 0 3) (u 0 4) (u 0 5) (g_29.1) (g_29.2) (u 1) (u 2) (u 3) (u 4) (u 5) (u 6) (u 7) (upd (upd (u 8) ((4 * (u 0 5))).toNatClampNeg (mX6_letter u)) (((4 * (u 0 5)) + 1)).toNatClampNeg (g_20.1))
      refine lv_aload_n hx hb dX6_readOrder_136 rfl (lv_at hl 5 rfl) ?_
      refine va_get (D := E.1) (ci := 5) (v := .ref (b 8)) (C := RX6) (T := TX6) (N := 16) hx hb hts hiX6 hown hK.1 hP 0 rfl rfl 12 (by decide) hf33 (fun _ h9 => h9) rfl dX6_readOrder_137 ?_
      refine lv_iload_n hx hb dX6_readOrder_140 rfl (lv_at hl 4 rfl) ?_
      refine lv_iconst (v := 2) hx hb dX6_readOrder_141 (by decide) ?_
      refine lv_iadd hx hb dX6_readOrder_142 ?_
      refine lv_aload_n hx hb dX6_readOrder_143 rfl (lv_at hl 5 rfl) ?_
      refine kCallWi (va_runV (As := []) (rest := [.int ((4 * (u 0 5)) + 2), .ref (b 8)]) ⟨hx, hb, hml, hown, hts⟩ (c_X6_number l E b (rset (rset u 8 (upd (upd (u 8) ((4 * (u 0 5))).toNatClampNeg (mX6_letter u)) (((4 * (u 0 5)) + 1)).toNatClampNeg (g_20.1))) 0 (upd (upd (u 0) 6 (g_29.1)) 7 (g_29.2))) hj (hw2.weak (by omega)) _ rfl) (cwV 0 hts gX6_readOrder_X6_number rfl rfl rfl (by decide +kernel) ⟨Nat.le_of_ble_eq_true rfl, Nat.le_of_ble_eq_true rfl⟩) (kPreV hK hP hP (q0 := 0) rfl rfl) rfl rfl hl.1 rfl (lv_room (Nat.le_of_ble_eq_true rfl)) dX6_readOrder_144 ⟨Nat.zero_le _, Nat.zero_le _⟩) hS (fun _ h => h) (fun H locs hP _ _ hS => ?_)
      have hn2 : qB (u 0 1) (mX6_number (rset (rset u 8 (upd (upd (u 8) ((4 * (u 0 5))).toNatClampNeg (mX6_letter u)) (((4 * (u 0 5)) + 1)).toNatClampNeg (g_20.1))) 0 (upd (upd (u 0) 6 (g_29.1)) 7 (g_29.2)))).2.1 (mX6_number (rset (rset u 8 (upd (upd (u 8) ((4 * (u 0 5))).toNatClampNeg (mX6_letter u)) (((4 * (u 0 5)) + 1)).toNatClampNeg (g_20.1))) 0 (upd (upd (u 0) 6 (g_29.1)) 7 (g_29.2)))).2.2 (2 * m0 + 1) := (number_q (u := (rset (rset u 8 (upd (upd (u 8) ((4 * (u 0 5))).toNatClampNeg (mX6_letter u)) (((4 * (u 0 5)) + 1)).toNatClampNeg (g_20.1))) 0 (upd (upd (u 0) 6 (g_29.1)) 7 (g_29.2)))) hw2).weak (by omega)
      refine kGen (mX6_number (rset (rset u 8 (upd (upd (u 8) ((4 * (u 0 5))).toNatClampNeg (mX6_letter u)) (((4 * (u 0 5)) + 1)).toNatClampNeg (g_20.1))) 0 (upd (upd (u 0) 6 (g_29.1)) 7 (g_29.2)))) (fun g_30 hg_30 => ?_)
      rw [hg_30] at hE hP hn2 ⊢
      try dsimp only at hE
      have hP : va_P E.1 vwCl (wModx E b (u 0 0) (u 0 1) (u 0 2) (u 0 3) (u 0 4) (u 0 5) (g_30.2.1) (g_30.2.2) (u 1) (u 2) (u 3) (u 4) (u 5) (u 6) (u 7) (upd (upd (u 8) ((4 * (u 0 5))).toNatClampNeg (mX6_letter u)) (((4 * (u 0 5)) + 1)).toNatClampNeg (g_20.1))) H := hP
      have hD := dMod (E := E) hj (u 0 0) (u 0 1) (u 0 2) (u 0 3) (u 0 4) (u 0 5) (g_30.2.1) (g_30.2.2) (u 1) (u 2) (u 3) (u 4) (u 5) (u 6) (u 7) (upd (upd (u 8) ((4 * (u 0 5))).toNatClampNeg (mX6_letter u)) (((4 * (u 0 5)) + 1)).toNatClampNeg (g_20.1))
      refine va_iast (D := E.1) hx hb hK.1 hP hD hS 8 0 rfl rfl (rOin 2 hm40 hom (by omega)) dX6_readOrder_147 (fun H locs hP _ hS => ?_)
      have hP : va_P E.1 vwCl (wModx E b (u 0 0) (u 0 1) (u 0 2) (u 0 3) (u 0 4) (u 0 5) (g_30.2.1) (g_30.2.2) (u 1) (u 2) (u 3) (u 4) (u 5) (u 6) (u 7) (upd (upd (upd (u 8) ((4 * (u 0 5))).toNatClampNeg (mX6_letter u)) (((4 * (u 0 5)) + 1)).toNatClampNeg (g_20.1)) (((4 * (u 0 5)) + 2)).toNatClampNeg (g_30.1))) H := hP
      have hD := dMod (E := E) hj (u 0 0) (u 0 1) (u 0 2) (u 0 3) (u 0 4) (u 0 5) (g_30.2.1) (g_30.2.2) (u 1) (u 2) (u 3) (u 4) (u 5) (u 6) (u 7) (upd (upd (upd (u 8) ((4 * (u 0 5))).toNatClampNeg (mX6_letter u)) (((4 * (u 0 5)) + 1)).toNatClampNeg (g_20.1)) (((4 * (u 0 5)) + 2)).toNatClampNeg (g_30.1))
      refine lv_iload_n hx hb dX6_readOrder_148 rfl (lv_at hl 2 rfl) ?_
      refine lv_if_eq (tgt := 182) hx hb dX6_readOrder_149 (by decide) (fun c => absurd c (by decide)) (fun _ => ?_)
      refine lv_aload_n hx hb dX6_readOrder_152 rfl (lv_at hl 5 rfl) ?_
      refine lv_aload_n hx hb dX6_readOrder_153 rfl (lv_at hl 5 rfl) ?_
      refine kCallRi (va_runV (As := []) (rest := [.ref (b 0)]) ⟨hx, hb, hml, hown, hts⟩ (c_X6_letter l E b (rset (rset u 8 (upd (upd (upd (u 8) ((4 * (u 0 5))).toNatClampNeg (mX6_letter u)) (((4 * (u 0 5)) + 1)).toNatClampNeg (g_20.1)) (((4 * (u 0 5)) + 2)).toNatClampNeg (g_30.1))) 0 (upd (upd (u 0) 6 (g_30.2.1)) 7 (g_30.2.2))) hn2.s _ rfl) (cwV 0 hts gX6_readOrder_X6_letter rfl rfl rfl (by decide +kernel) ⟨Nat.le_of_ble_eq_true rfl, Nat.le_of_ble_eq_true rfl⟩) (kPreV hK hP hP (q0 := 0) rfl rfl) rfl rfl hl.1 rfl (lv_room (Nat.le_of_ble_eq_true rfl)) dX6_readOrder_154 ⟨Nat.zero_le _, Nat.zero_le _⟩) ?_
      refine lv_bipush (v := 61) hx hb dX6_readOrder_157 (by decide) ?_
      refine lv_icmp_ne (tgt := 166) hx hb dX6_readOrder_159 (by decide) (fun c_31 => ?_) (fun c_31 => ?_)
      · replace hE := hE.trans (if_neg c_31)
        refine lv_iconst (v := 0) hx hb dX6_readOrder_166 (by decide) ?_
        refine kCallWv (va_runV (As := [.int 0]) (rest := []) ⟨hx, hb, hml, hown, hts⟩ (c_X6_wants l E b (rset (rset u 8 (upd (upd (upd (u 8) ((4 * (u 0 5))).toNatClampNeg (mX6_letter u)) (((4 * (u 0 5)) + 1)).toNatClampNeg (g_20.1)) (((4 * (u 0 5)) + 2)).toNatClampNeg (g_30.1))) 0 (upd (upd (u 0) 6 (g_30.2.1)) 7 (g_30.2.2))) hj 0 _ rfl) (cwV 1 hts gX6_readOrder_X6_wants rfl rfl rfl (by decide +kernel) ⟨Nat.le_of_ble_eq_true rfl, Nat.le_of_ble_eq_true rfl⟩) (kPreV hK hP hP (q0 := 0) rfl rfl) rfl rfl hl.1 rfl (lv_room (Nat.le_of_ble_eq_true rfl)) dX6_readOrder_167 ⟨Nat.zero_le _, Nat.zero_le _⟩) hS (fun _ h => h) (fun H locs hP _ _ hS => ?_)
        have hw3 : qB (u 0 1) (mX6_wants (rset (rset u 8 (upd (upd (upd (u 8) ((4 * (u 0 5))).toNatClampNeg (mX6_letter u)) (((4 * (u 0 5)) + 1)).toNatClampNeg (g_20.1)) (((4 * (u 0 5)) + 2)).toNatClampNeg (g_30.1))) 0 (upd (upd (u 0) 6 (g_30.2.1)) 7 (g_30.2.2))) 0).1 (mX6_wants (rset (rset u 8 (upd (upd (upd (u 8) ((4 * (u 0 5))).toNatClampNeg (mX6_letter u)) (((4 * (u 0 5)) + 1)).toNatClampNeg (g_20.1)) (((4 * (u 0 5)) + 2)).toNatClampNeg (g_30.1))) 0 (upd (upd (u 0) 6 (g_30.2.1)) 7 (g_30.2.2))) 0).2 (2 * m0 + 1) := (wants_q (u := (rset (rset u 8 (upd (upd (upd (u 8) ((4 * (u 0 5))).toNatClampNeg (mX6_letter u)) (((4 * (u 0 5)) + 1)).toNatClampNeg (g_20.1)) (((4 * (u 0 5)) + 2)).toNatClampNeg (g_30.1))) 0 (upd (upd (u 0) 6 (g_30.2.1)) 7 (g_30.2.2)))) hn2 (fun c => by first | exact absurd rfl c | exact letter_lt (u := (rset (rset u 8 (upd (upd (upd (u 8) ((4 * (u 0 5))).toNatClampNeg (mX6_letter u)) (((4 * (u 0 5)) + 1)).toNatClampNeg (g_20.1)) (((4 * (u 0 5)) + 2)).toNatClampNeg (g_30.1))) 0 (upd (upd (u 0) 6 (g_30.2.1)) 7 (g_30.2.2)))) hn2 (lne (k := 61) (by assumption) (by decide)))).weak (by omega)
        refine kGen (mX6_wants (rset (rset u 8 (upd (upd (upd (u 8) ((4 * (u 0 5))).toNatClampNeg (mX6_letter u)) (((4 * (u 0 5)) + 1)).toNatClampNeg (g_20.1)) (((4 * (u 0 5)) + 2)).toNatClampNeg (g_30.1))) 0 (upd (upd (u 0) 6 (g_30.2.1)) 7 (g_30.2.2))) 0) (fun g_32 hg_32 => ?_)
        rw [hg_32] at hE hP hw3
        try dsimp only at hE
        have hP : va_P E.1 vwCl (wModx E b (u 0 0) (u 0 1) (u 0 2) (u 0 3) (u 0 4) (u 0 5) (g_32.1) (g_32.2) (u 1) (u 2) (u 3) (u 4) (u 5) (u 6) (u 7) (upd (upd (upd (u 8) ((4 * (u 0 5))).toNatClampNeg (mX6_letter u)) (((4 * (u 0 5)) + 1)).toNatClampNeg (g_20.1)) (((4 * (u 0 5)) + 2)).toNatClampNeg (g_30.1))) H := hP
        have hD := dMod (E := E) hj (u 0 0) (u 0 1) (u 0 2) (u 0 3) (u 0 4) (u 0 5) (g_32.1) (g_32.2) (u 1) (u 2) (u 3) (u 4) (u 5) (u 6) (u 7) (upd (upd (upd (u 8) ((4 * (u 0 5))).toNatClampNeg (mX6_letter u)) (((4 * (u 0 5)) + 1)).toNatClampNeg (g_20.1)) (((4 * (u 0 5)) + 2)).toNatClampNeg (g_30.1))
        refine lv_aload_n hx hb dX6_readOrder_170 rfl (lv_at hl 5 rfl) ?_
        refine va_get (D := E.1) (ci := 5) (v := .ref (b 8)) (C := RX6) (T := TX6) (N := 16) hx hb hts hiX6 hown hK.1 hP 0 rfl rfl 12 (by decide) hf33 (fun _ h9 => h9) rfl dX6_readOrder_171 ?_
        refine lv_iload_n hx hb dX6_readOrder_174 rfl (lv_at hl 4 rfl) ?_
        refine lv_iconst (v := 3) hx hb dX6_readOrder_175 (by decide) ?_
        refine lv_iadd hx hb dX6_readOrder_176 ?_
        refine lv_aload_n hx hb dX6_readOrder_177 rfl (lv_at hl 5 rfl) ?_
        refine kCallWi (va_runV (As := []) (rest := [.int ((4 * (u 0 5)) + 3), .ref (b 8)]) ⟨hx, hb, hml, hown, hts⟩ (c_X6_number l E b (rset (rset u 8 (upd (upd (upd (u 8) ((4 * (u 0 5))).toNatClampNeg (mX6_letter u)) (((4 * (u 0 5)) + 1)).toNatClampNeg (g_20.1)) (((4 * (u 0 5)) + 2)).toNatClampNeg (g_30.1))) 0 (upd (upd (u 0) 6 (g_32.1)) 7 (g_32.2))) hj (hw3.weak (by omega)) _ rfl) (cwV 0 hts gX6_readOrder_X6_number rfl rfl rfl (by decide +kernel) ⟨Nat.le_of_ble_eq_true rfl, Nat.le_of_ble_eq_true rfl⟩) (kPreV hK hP hP (q0 := 0) rfl rfl) rfl rfl hl.1 rfl (lv_room (Nat.le_of_ble_eq_true rfl)) dX6_readOrder_178 ⟨Nat.zero_le _, Nat.zero_le _⟩) hS (fun _ h => h) (fun H locs hP _ _ hS => ?_)
        have hn3 : qB (u 0 1) (mX6_number (rset (rset u 8 (upd (upd (upd (u 8) ((4 * (u 0 5))).toNatClampNeg (mX6_letter u)) (((4 * (u 0 5)) + 1)).toNatClampNeg (g_20.1)) (((4 * (u 0 5)) + 2)).toNatClampNeg (g_30.1))) 0 (upd (upd (u 0) 6 (g_32.1)) 7 (g_32.2)))).2.1 (mX6_number (rset (rset u 8 (upd (upd (upd (u 8) ((4 * (u 0 5))).toNatClampNeg (mX6_letter u)) (((4 * (u 0 5)) + 1)).toNatClampNeg (g_20.1)) (((4 * (u 0 5)) + 2)).toNatClampNeg (g_30.1))) 0 (upd (upd (u 0) 6 (g_32.1)) 7 (g_32.2)))).2.2 (2 * m0 + 1) := (number_q (u := (rset (rset u 8 (upd (upd (upd (u 8) ((4 * (u 0 5))).toNatClampNeg (mX6_letter u)) (((4 * (u 0 5)) + 1)).toNatClampNeg (g_20.1)) (((4 * (u 0 5)) + 2)).toNatClampNeg (g_30.1))) 0 (upd (upd (u 0) 6 (g_32.1)) 7 (g_32.2)))) hw3).weak (by omega)
        refine kGen (mX6_number (rset (rset u 8 (upd (upd (upd (u 8) ((4 * (u 0 5))).toNatClampNeg (mX6_letter u)) (((4 * (u 0 5)) + 1)).toNatClampNeg (g_20.1)) (((4 * (u 0 5)) + 2)).toNatClampNeg (g_30.1))) 0 (upd (upd (u 0) 6 (g_32.1)) 7 (g_32.2)))) (fun g_33 hg_33 => ?_)
        rw [hg_33] at hE hP hn3 ⊢
        try dsimp only at hE
        have hP : va_P E.1 vwCl (wModx E b (u 0 0) (u 0 1) (u 0 2) (u 0 3) (u 0 4) (u 0 5) (g_33.2.1) (g_33.2.2) (u 1) (u 2) (u 3) (u 4) (u 5) (u 6) (u 7) (upd (upd (upd (u 8) ((4 * (u 0 5))).toNatClampNeg (mX6_letter u)) (((4 * (u 0 5)) + 1)).toNatClampNeg (g_20.1)) (((4 * (u 0 5)) + 2)).toNatClampNeg (g_30.1))) H := hP
        have hD := dMod (E := E) hj (u 0 0) (u 0 1) (u 0 2) (u 0 3) (u 0 4) (u 0 5) (g_33.2.1) (g_33.2.2) (u 1) (u 2) (u 3) (u 4) (u 5) (u 6) (u 7) (upd (upd (upd (u 8) ((4 * (u 0 5))).toNatClampNeg (mX6_letter u)) (((4 * (u 0 5)) + 1)).toNatClampNeg (g_20.1)) (((4 * (u 0 5)) + 2)).toNatClampNeg (g_30.1))
        refine va_iast (D := E.1) hx hb hK.1 hP hD hS 8 0 rfl rfl (rOin 3 hm40 hom (by omega)) dX6_readOrder_181 (fun H locs hP _ hS => ?_)
        have hP : va_P E.1 vwCl (wModx E b (u 0 0) (u 0 1) (u 0 2) (u 0 3) (u 0 4) (u 0 5) (g_33.2.1) (g_33.2.2) (u 1) (u 2) (u 3) (u 4) (u 5) (u 6) (u 7) (upd (upd (upd (upd (u 8) ((4 * (u 0 5))).toNatClampNeg (mX6_letter u)) (((4 * (u 0 5)) + 1)).toNatClampNeg (g_20.1)) (((4 * (u 0 5)) + 2)).toNatClampNeg (g_30.1)) (((4 * (u 0 5)) + 3)).toNatClampNeg (g_33.1))) H := hP
        have hD := dMod (E := E) hj (u 0 0) (u 0 1) (u 0 2) (u 0 3) (u 0 4) (u 0 5) (g_33.2.1) (g_33.2.2) (u 1) (u 2) (u 3) (u 4) (u 5) (u 6) (u 7) (upd (upd (upd (upd (u 8) ((4 * (u 0 5))).toNatClampNeg (mX6_letter u)) (((4 * (u 0 5)) + 1)).toNatClampNeg (g_20.1)) (((4 * (u 0 5)) + 2)).toNatClampNeg (g_30.1)) (((4 * (u 0 5)) + 3)).toNatClampNeg (g_33.1))
        refine lv_aload_n hx hb dX6_readOrder_182 rfl (lv_at hl 5 rfl) ?_
        refine lv_dup hx hb dX6_readOrder_183 rfl ?_
        refine va_get (D := E.1) (ci := 5) (v := .int (u 0 5)) (C := RX6) (T := TX6) (N := 16) hx hb hts hiX6 hown hK.1 hP 0 rfl rfl 13 (by decide) hf195 (fun _ h9 => h9) rfl dX6_readOrder_184 ?_
        refine lv_iconst (v := 1) hx hb dX6_readOrder_187 (by decide) ?_
        refine lv_iadd hx hb dX6_readOrder_188 ?_
        refine va_put (D := E.1) (ci := 5) (v := .int ((u 0 5) + 1)) (ty := .int) (C := RX6) (T := TX6) (N := 16) hx hb hts hiX6 tyX6 tyX6_ok nmX6 hown hK.1 hP hD hS 0 rfl rfl 13 (by decide) hf195 (fun _ h9 => h9) rfl (by decide +kernel) rfl rfl (Nat.le_of_ble_eq_true rfl) dX6_readOrder_189 (fun H locs hP _ hS => ?_)
        have hP : va_P E.1 vwCl (wModx E b (u 0 0) (u 0 1) (u 0 2) (u 0 3) (u 0 4) ((u 0 5) + 1) (g_33.2.1) (g_33.2.2) (u 1) (u 2) (u 3) (u 4) (u 5) (u 6) (u 7) (upd (upd (upd (upd (u 8) ((4 * (u 0 5))).toNatClampNeg (mX6_letter u)) (((4 * (u 0 5)) + 1)).toNatClampNeg (g_20.1)) (((4 * (u 0 5)) + 2)).toNatClampNeg (g_30.1)) (((4 * (u 0 5)) + 3)).toNatClampNeg (g_33.1))) H := hP
        have hD := dMod (E := E) hj (u 0 0) (u 0 1) (u 0 2) (u 0 3) (u 0 4) ((u 0 5) + 1) (g_33.2.1) (g_33.2.2) (u 1) (u 2) (u 3) (u 4) (u 5) (u 6) (u 7) (upd (upd (upd (upd (u 8) ((4 * (u 0 5))).toNatClampNeg (mX6_letter u)) (((4 * (u 0 5)) + 1)).toNatClampNeg (g_20.1)) (((4 * (u 0 5)) + 2)).toNatClampNeg (g_30.1)) (((4 * (u 0 5)) + 3)).toNatClampNeg (g_33.1))
        subst R
        exact W.vret hx hb hr (fun t ht hW => ⟨rfl, by rw [ht]; exact hP, hS.F ht⟩) hS.2.2 dX6_readOrder_192
      · replace hE := hE.trans (if_pos c_31)
        refine lv_iconst (v := 1) hx hb dX6_readOrder_162 (by decide) ?_
        refine lv_goto (tgt := 167) hx hb dX6_readOrder_163 (by decide) ?_
        refine kCallWv (va_runV (As := [.int 1]) (rest := []) ⟨hx, hb, hml, hown, hts⟩ (c_X6_wants l E b (rset (rset u 8 (upd (upd (upd (u 8) ((4 * (u 0 5))).toNatClampNeg (mX6_letter u)) (((4 * (u 0 5)) + 1)).toNatClampNeg (g_20.1)) (((4 * (u 0 5)) + 2)).toNatClampNeg (g_30.1))) 0 (upd (upd (u 0) 6 (g_30.2.1)) 7 (g_30.2.2))) hj 1 _ rfl) (cwV 1 hts gX6_readOrder_X6_wants rfl rfl rfl (by decide +kernel) ⟨Nat.le_of_ble_eq_true rfl, Nat.le_of_ble_eq_true rfl⟩) (kPreV hK hP hP (q0 := 0) rfl rfl) rfl rfl hl.1 rfl (lv_room (Nat.le_of_ble_eq_true rfl)) dX6_readOrder_167 ⟨Nat.zero_le _, Nat.zero_le _⟩) hS (fun _ h => h) (fun H locs hP _ _ hS => ?_)
        have hw3 : qB (u 0 1) (mX6_wants (rset (rset u 8 (upd (upd (upd (u 8) ((4 * (u 0 5))).toNatClampNeg (mX6_letter u)) (((4 * (u 0 5)) + 1)).toNatClampNeg (g_20.1)) (((4 * (u 0 5)) + 2)).toNatClampNeg (g_30.1))) 0 (upd (upd (u 0) 6 (g_30.2.1)) 7 (g_30.2.2))) 1).1 (mX6_wants (rset (rset u 8 (upd (upd (upd (u 8) ((4 * (u 0 5))).toNatClampNeg (mX6_letter u)) (((4 * (u 0 5)) + 1)).toNatClampNeg (g_20.1)) (((4 * (u 0 5)) + 2)).toNatClampNeg (g_30.1))) 0 (upd (upd (u 0) 6 (g_30.2.1)) 7 (g_30.2.2))) 1).2 (2 * m0 + 1) := (wants_q (u := (rset (rset u 8 (upd (upd (upd (u 8) ((4 * (u 0 5))).toNatClampNeg (mX6_letter u)) (((4 * (u 0 5)) + 1)).toNatClampNeg (g_20.1)) (((4 * (u 0 5)) + 2)).toNatClampNeg (g_30.1))) 0 (upd (upd (u 0) 6 (g_30.2.1)) 7 (g_30.2.2)))) hn2 (fun c => by first | exact absurd rfl c | exact letter_lt (u := (rset (rset u 8 (upd (upd (upd (u 8) ((4 * (u 0 5))).toNatClampNeg (mX6_letter u)) (((4 * (u 0 5)) + 1)).toNatClampNeg (g_20.1)) (((4 * (u 0 5)) + 2)).toNatClampNeg (g_30.1))) 0 (upd (upd (u 0) 6 (g_30.2.1)) 7 (g_30.2.2)))) hn2 (lne (k := 61) (by assumption) (by decide)))).weak (by omega)
        refine kGen (mX6_wants (rset (rset u 8 (upd (upd (upd (u 8) ((4 * (u 0 5))).toNatClampNeg (mX6_letter u)) (((4 * (u 0 5)) + 1)).toNatClampNeg (g_20.1)) (((4 * (u 0 5)) + 2)).toNatClampNeg (g_30.1))) 0 (upd (upd (u 0) 6 (g_30.2.1)) 7 (g_30.2.2))) 1) (fun g_34 hg_34 => ?_)
        rw [hg_34] at hE hP hw3
        try dsimp only at hE
        have hP : va_P E.1 vwCl (wModx E b (u 0 0) (u 0 1) (u 0 2) (u 0 3) (u 0 4) (u 0 5) (g_34.1) (g_34.2) (u 1) (u 2) (u 3) (u 4) (u 5) (u 6) (u 7) (upd (upd (upd (u 8) ((4 * (u 0 5))).toNatClampNeg (mX6_letter u)) (((4 * (u 0 5)) + 1)).toNatClampNeg (g_20.1)) (((4 * (u 0 5)) + 2)).toNatClampNeg (g_30.1))) H := hP
        have hD := dMod (E := E) hj (u 0 0) (u 0 1) (u 0 2) (u 0 3) (u 0 4) (u 0 5) (g_34.1) (g_34.2) (u 1) (u 2) (u 3) (u 4) (u 5) (u 6) (u 7) (upd (upd (upd (u 8) ((4 * (u 0 5))).toNatClampNeg (mX6_letter u)) (((4 * (u 0 5)) + 1)).toNatClampNeg (g_20.1)) (((4 * (u 0 5)) + 2)).toNatClampNeg (g_30.1))
        refine lv_aload_n hx hb dX6_readOrder_170 rfl (lv_at hl 5 rfl) ?_
        refine va_get (D := E.1) (ci := 5) (v := .ref (b 8)) (C := RX6) (T := TX6) (N := 16) hx hb hts hiX6 hown hK.1 hP 0 rfl rfl 12 (by decide) hf33 (fun _ h9 => h9) rfl dX6_readOrder_171 ?_
        refine lv_iload_n hx hb dX6_readOrder_174 rfl (lv_at hl 4 rfl) ?_
        refine lv_iconst (v := 3) hx hb dX6_readOrder_175 (by decide) ?_
        refine lv_iadd hx hb dX6_readOrder_176 ?_
        refine lv_aload_n hx hb dX6_readOrder_177 rfl (lv_at hl 5 rfl) ?_
        refine kCallWi (va_runV (As := []) (rest := [.int ((4 * (u 0 5)) + 3), .ref (b 8)]) ⟨hx, hb, hml, hown, hts⟩ (c_X6_number l E b (rset (rset u 8 (upd (upd (upd (u 8) ((4 * (u 0 5))).toNatClampNeg (mX6_letter u)) (((4 * (u 0 5)) + 1)).toNatClampNeg (g_20.1)) (((4 * (u 0 5)) + 2)).toNatClampNeg (g_30.1))) 0 (upd (upd (u 0) 6 (g_34.1)) 7 (g_34.2))) hj (hw3.weak (by omega)) _ rfl) (cwV 0 hts gX6_readOrder_X6_number rfl rfl rfl (by decide +kernel) ⟨Nat.le_of_ble_eq_true rfl, Nat.le_of_ble_eq_true rfl⟩) (kPreV hK hP hP (q0 := 0) rfl rfl) rfl rfl hl.1 rfl (lv_room (Nat.le_of_ble_eq_true rfl)) dX6_readOrder_178 ⟨Nat.zero_le _, Nat.zero_le _⟩) hS (fun _ h => h) (fun H locs hP _ _ hS => ?_)
        have hn3 : qB (u 0 1) (mX6_number (rset (rset u 8 (upd (upd (upd (u 8) ((4 * (u 0 5))).toNatClampNeg (mX6_letter u)) (((4 * (u 0 5)) + 1)).toNatClampNeg (g_20.1)) (((4 * (u 0 5)) + 2)).toNatClampNeg (g_30.1))) 0 (upd (upd (u 0) 6 (g_34.1)) 7 (g_34.2)))).2.1 (mX6_number (rset (rset u 8 (upd (upd (upd (u 8) ((4 * (u 0 5))).toNatClampNeg (mX6_letter u)) (((4 * (u 0 5)) + 1)).toNatClampNeg (g_20.1)) (((4 * (u 0 5)) + 2)).toNatClampNeg (g_30.1))) 0 (upd (upd (u 0) 6 (g_34.1)) 7 (g_34.2)))).2.2 (2 * m0 + 1) := (number_q (u := (rset (rset u 8 (upd (upd (upd (u 8) ((4 * (u 0 5))).toNatClampNeg (mX6_letter u)) (((4 * (u 0 5)) + 1)).toNatClampNeg (g_20.1)) (((4 * (u 0 5)) + 2)).toNatClampNeg (g_30.1))) 0 (upd (upd (u 0) 6 (g_34.1)) 7 (g_34.2)))) hw3).weak (by omega)
        refine kGen (mX6_number (rset (rset u 8 (upd (upd (upd (u 8) ((4 * (u 0 5))).toNatClampNeg (mX6_letter u)) (((4 * (u 0 5)) + 1)).toNatClampNeg (g_20.1)) (((4 * (u 0 5)) + 2)).toNatClampNeg (g_30.1))) 0 (upd (upd (u 0) 6 (g_34.1)) 7 (g_34.2)))) (fun g_35 hg_35 => ?_)
        rw [hg_35] at hE hP hn3 ⊢
        try dsimp only at hE
        have hP : va_P E.1 vwCl (wModx E b (u 0 0) (u 0 1) (u 0 2) (u 0 3) (u 0 4) (u 0 5) (g_35.2.1) (g_35.2.2) (u 1) (u 2) (u 3) (u 4) (u 5) (u 6) (u 7) (upd (upd (upd (u 8) ((4 * (u 0 5))).toNatClampNeg (mX6_letter u)) (((4 * (u 0 5)) + 1)).toNatClampNeg (g_20.1)) (((4 * (u 0 5)) + 2)).toNatClampNeg (g_30.1))) H := hP
        have hD := dMod (E := E) hj (u 0 0) (u 0 1) (u 0 2) (u 0 3) (u 0 4) (u 0 5) (g_35.2.1) (g_35.2.2) (u 1) (u 2) (u 3) (u 4) (u 5) (u 6) (u 7) (upd (upd (upd (u 8) ((4 * (u 0 5))).toNatClampNeg (mX6_letter u)) (((4 * (u 0 5)) + 1)).toNatClampNeg (g_20.1)) (((4 * (u 0 5)) + 2)).toNatClampNeg (g_30.1))
        refine va_iast (D := E.1) hx hb hK.1 hP hD hS 8 0 rfl rfl (rOin 3 hm40 hom (by omega)) dX6_readOrder_181 (fun H locs hP _ hS => ?_)
        have hP : va_P E.1 vwCl (wModx E b (u 0 0) (u 0 1) (u 0 2) (u 0 3) (u 0 4) (u 0 5) (g_35.2.1) (g_35.2.2) (u 1) (u 2) (u 3) (u 4) (u 5) (u 6) (u 7) (upd (upd (upd (upd (u 8) ((4 * (u 0 5))).toNatClampNeg (mX6_letter u)) (((4 * (u 0 5)) + 1)).toNatClampNeg (g_20.1)) (((4 * (u 0 5)) + 2)).toNatClampNeg (g_30.1)) (((4 * (u 0 5)) + 3)).toNatClampNeg (g_35.1))) H := hP
        have hD := dMod (E := E) hj (u 0 0) (u 0 1) (u 0 2) (u 0 3) (u 0 4) (u 0 5) (g_35.2.1) (g_35.2.2) (u 1) (u 2) (u 3) (u 4) (u 5) (u 6) (u 7) (upd (upd (upd (upd (u 8) ((4 * (u 0 5))).toNatClampNeg (mX6_letter u)) (((4 * (u 0 5)) + 1)).toNatClampNeg (g_20.1)) (((4 * (u 0 5)) + 2)).toNatClampNeg (g_30.1)) (((4 * (u 0 5)) + 3)).toNatClampNeg (g_35.1))
        refine lv_aload_n hx hb dX6_readOrder_182 rfl (lv_at hl 5 rfl) ?_
        refine lv_dup hx hb dX6_readOrder_183 rfl ?_
        refine va_get (D := E.1) (ci := 5) (v := .int (u 0 5)) (C := RX6) (T := TX6) (N := 16) hx hb hts hiX6 hown hK.1 hP 0 rfl rfl 13 (by decide) hf195 (fun _ h9 => h9) rfl dX6_readOrder_184 ?_
        refine lv_iconst (v := 1) hx hb dX6_readOrder_187 (by decide) ?_
        refine lv_iadd hx hb dX6_readOrder_188 ?_
        refine va_put (D := E.1) (ci := 5) (v := .int ((u 0 5) + 1)) (ty := .int) (C := RX6) (T := TX6) (N := 16) hx hb hts hiX6 tyX6 tyX6_ok nmX6 hown hK.1 hP hD hS 0 rfl rfl 13 (by decide) hf195 (fun _ h9 => h9) rfl (by decide +kernel) rfl rfl (Nat.le_of_ble_eq_true rfl) dX6_readOrder_189 (fun H locs hP _ hS => ?_)
        have hP : va_P E.1 vwCl (wModx E b (u 0 0) (u 0 1) (u 0 2) (u 0 3) (u 0 4) ((u 0 5) + 1) (g_35.2.1) (g_35.2.2) (u 1) (u 2) (u 3) (u 4) (u 5) (u 6) (u 7) (upd (upd (upd (upd (u 8) ((4 * (u 0 5))).toNatClampNeg (mX6_letter u)) (((4 * (u 0 5)) + 1)).toNatClampNeg (g_20.1)) (((4 * (u 0 5)) + 2)).toNatClampNeg (g_30.1)) (((4 * (u 0 5)) + 3)).toNatClampNeg (g_35.1))) H := hP
        have hD := dMod (E := E) hj (u 0 0) (u 0 1) (u 0 2) (u 0 3) (u 0 4) ((u 0 5) + 1) (g_35.2.1) (g_35.2.2) (u 1) (u 2) (u 3) (u 4) (u 5) (u 6) (u 7) (upd (upd (upd (upd (u 8) ((4 * (u 0 5))).toNatClampNeg (mX6_letter u)) (((4 * (u 0 5)) + 1)).toNatClampNeg (g_20.1)) (((4 * (u 0 5)) + 2)).toNatClampNeg (g_30.1)) (((4 * (u 0 5)) + 3)).toNatClampNeg (g_35.1))
        subst R
        exact W.vret hx hb hr (fun t ht hW => ⟨rfl, by rw [ht]; exact hP, hS.F ht⟩) hS.2.2 dX6_readOrder_192
theorem readOrder_q {u : kG} {m0 : Nat} (hq : qB (u 0 1) (u 0 6) (u 0 7) (2 * m0)) : qB (u 0 1) (mX6_readOrder u).2.1 (mX6_readOrder u).2.2.1 (2 * m0 + 1) := by
  rw [mX6_readOrder_s]
  by_cases k_1 : (mX6_letter u) = 119
  · rewrite [if_pos k_1]
    have hw1 : qB (u 0 1) (mX6_wants u 1).1 (mX6_wants u 1).2 (2 * m0 + 1) := (wants_q (u := u) hq (fun c => by first | exact absurd rfl c | exact letter_lt (u := u) hq (lne (k := 119) (by assumption) (by decide)) | exact letter_lt (u := u) hq (lne (k := 114) (by assumption) (by decide)) | exact letter_lt (u := u) hq (lne (k := 99) (by assumption) (by decide)) | exact letter_lt (u := u) hq (lne (k := 120) (by assumption) (by decide)) | exact letter_lt (u := u) hq (lne (k := 98) (by assumption) (by decide)))).weak (by omega)
    refine kGen (mX6_wants u 1) (fun g_19 eg_19 => ?_)
    rewrite [eg_19] at hw1
    try rewrite [eg_19]
    try dsimp only
    have hn1 : qB (u 0 1) (mX6_number (rset (rset u 8 (upd (u 8) ((4 * (u 0 5))).toNatClampNeg (mX6_letter u))) 0 (upd (upd (u 0) 6 (g_19.1)) 7 (g_19.2)))).2.1 (mX6_number (rset (rset u 8 (upd (u 8) ((4 * (u 0 5))).toNatClampNeg (mX6_letter u))) 0 (upd (upd (u 0) 6 (g_19.1)) 7 (g_19.2)))).2.2 (2 * m0 + 1) := (number_q (u := (rset (rset u 8 (upd (u 8) ((4 * (u 0 5))).toNatClampNeg (mX6_letter u))) 0 (upd (upd (u 0) 6 (g_19.1)) 7 (g_19.2)))) hw1).weak (by omega)
    refine kGen (mX6_number (rset (rset u 8 (upd (u 8) ((4 * (u 0 5))).toNatClampNeg (mX6_letter u))) 0 (upd (upd (u 0) 6 (g_19.1)) 7 (g_19.2)))) (fun g_20 eg_20 => ?_)
    rewrite [eg_20] at hn1
    try rewrite [eg_20]
    try dsimp only
    by_cases k_2 : (mX6_letter (rset (rset u 8 (upd (upd (u 8) ((4 * (u 0 5))).toNatClampNeg (mX6_letter u)) (((4 * (u 0 5)) + 1)).toNatClampNeg (g_20.1))) 0 (upd (upd (u 0) 6 (g_20.2.1)) 7 (g_20.2.2)))) = 46
    · rewrite [if_pos k_2]
      have hw2 : qB (u 0 1) (mX6_wants (rset (rset u 8 (upd (upd (u 8) ((4 * (u 0 5))).toNatClampNeg (mX6_letter u)) (((4 * (u 0 5)) + 1)).toNatClampNeg (g_20.1))) 0 (upd (upd (u 0) 6 (g_20.2.1)) 7 (g_20.2.2))) 1).1 (mX6_wants (rset (rset u 8 (upd (upd (u 8) ((4 * (u 0 5))).toNatClampNeg (mX6_letter u)) (((4 * (u 0 5)) + 1)).toNatClampNeg (g_20.1))) 0 (upd (upd (u 0) 6 (g_20.2.1)) 7 (g_20.2.2))) 1).2 (2 * m0 + 1) := (wants_q (u := (rset (rset u 8 (upd (upd (u 8) ((4 * (u 0 5))).toNatClampNeg (mX6_letter u)) (((4 * (u 0 5)) + 1)).toNatClampNeg (g_20.1))) 0 (upd (upd (u 0) 6 (g_20.2.1)) 7 (g_20.2.2)))) hn1 (fun c => by first | exact absurd rfl c | exact letter_lt (u := (rset (rset u 8 (upd (upd (u 8) ((4 * (u 0 5))).toNatClampNeg (mX6_letter u)) (((4 * (u 0 5)) + 1)).toNatClampNeg (g_20.1))) 0 (upd (upd (u 0) 6 (g_20.2.1)) 7 (g_20.2.2)))) hn1 (lne (k := 46) (by assumption) (by decide)))).weak (by omega)
      refine kGen (mX6_wants (rset (rset u 8 (upd (upd (u 8) ((4 * (u 0 5))).toNatClampNeg (mX6_letter u)) (((4 * (u 0 5)) + 1)).toNatClampNeg (g_20.1))) 0 (upd (upd (u 0) 6 (g_20.2.1)) 7 (g_20.2.2))) 1) (fun g_29 eg_29 => ?_)
      rewrite [eg_29] at hw2
      try rewrite [eg_29]
      try dsimp only
      have hn2 : qB (u 0 1) (mX6_number (rset (rset u 8 (upd (upd (u 8) ((4 * (u 0 5))).toNatClampNeg (mX6_letter u)) (((4 * (u 0 5)) + 1)).toNatClampNeg (g_20.1))) 0 (upd (upd (u 0) 6 (g_29.1)) 7 (g_29.2)))).2.1 (mX6_number (rset (rset u 8 (upd (upd (u 8) ((4 * (u 0 5))).toNatClampNeg (mX6_letter u)) (((4 * (u 0 5)) + 1)).toNatClampNeg (g_20.1))) 0 (upd (upd (u 0) 6 (g_29.1)) 7 (g_29.2)))).2.2 (2 * m0 + 1) := (number_q (u := (rset (rset u 8 (upd (upd (u 8) ((4 * (u 0 5))).toNatClampNeg (mX6_letter u)) (((4 * (u 0 5)) + 1)).toNatClampNeg (g_20.1))) 0 (upd (upd (u 0) 6 (g_29.1)) 7 (g_29.2)))) hw2).weak (by omega)
      refine kGen (mX6_number (rset (rset u 8 (upd (upd (u 8) ((4 * (u 0 5))).toNatClampNeg (mX6_letter u)) (((4 * (u 0 5)) + 1)).toNatClampNeg (g_20.1))) 0 (upd (upd (u 0) 6 (g_29.1)) 7 (g_29.2)))) (fun g_30 eg_30 => ?_)
      rewrite [eg_30] at hn2
      try rewrite [eg_30]
      try dsimp only
      by_cases k_3 : (mX6_letter (rset (rset u 8 (upd (upd (upd (u 8) ((4 * (u 0 5))).toNatClampNeg (mX6_letter u)) (((4 * (u 0 5)) + 1)).toNatClampNeg (g_20.1)) (((4 * (u 0 5)) + 2)).toNatClampNeg (g_30.1))) 0 (upd (upd (u 0) 6 (g_30.2.1)) 7 (g_30.2.2)))) = 61
      · rewrite [if_pos k_3]
        have hw3 : qB (u 0 1) (mX6_wants (rset (rset u 8 (upd (upd (upd (u 8) ((4 * (u 0 5))).toNatClampNeg (mX6_letter u)) (((4 * (u 0 5)) + 1)).toNatClampNeg (g_20.1)) (((4 * (u 0 5)) + 2)).toNatClampNeg (g_30.1))) 0 (upd (upd (u 0) 6 (g_30.2.1)) 7 (g_30.2.2))) 1).1 (mX6_wants (rset (rset u 8 (upd (upd (upd (u 8) ((4 * (u 0 5))).toNatClampNeg (mX6_letter u)) (((4 * (u 0 5)) + 1)).toNatClampNeg (g_20.1)) (((4 * (u 0 5)) + 2)).toNatClampNeg (g_30.1))) 0 (upd (upd (u 0) 6 (g_30.2.1)) 7 (g_30.2.2))) 1).2 (2 * m0 + 1) := (wants_q (u := (rset (rset u 8 (upd (upd (upd (u 8) ((4 * (u 0 5))).toNatClampNeg (mX6_letter u)) (((4 * (u 0 5)) + 1)).toNatClampNeg (g_20.1)) (((4 * (u 0 5)) + 2)).toNatClampNeg (g_30.1))) 0 (upd (upd (u 0) 6 (g_30.2.1)) 7 (g_30.2.2)))) hn2 (fun c => by first | exact absurd rfl c | exact letter_lt (u := (rset (rset u 8 (upd (upd (upd (u 8) ((4 * (u 0 5))).toNatClampNeg (mX6_letter u)) (((4 * (u 0 5)) + 1)).toNatClampNeg (g_20.1)) (((4 * (u 0 5)) + 2)).toNatClampNeg (g_30.1))) 0 (upd (upd (u 0) 6 (g_30.2.1)) 7 (g_30.2.2)))) hn2 (lne (k := 61) (by assumption) (by decide)))).weak (by omega)
        refine kGen (mX6_wants (rset (rset u 8 (upd (upd (upd (u 8) ((4 * (u 0 5))).toNatClampNeg (mX6_letter u)) (((4 * (u 0 5)) + 1)).toNatClampNeg (g_20.1)) (((4 * (u 0 5)) + 2)).toNatClampNeg (g_30.1))) 0 (upd (upd (u 0) 6 (g_30.2.1)) 7 (g_30.2.2))) 1) (fun g_34 eg_34 => ?_)
        rewrite [eg_34] at hw3
        try rewrite [eg_34]
        try dsimp only
        have hn3 : qB (u 0 1) (mX6_number (rset (rset u 8 (upd (upd (upd (u 8) ((4 * (u 0 5))).toNatClampNeg (mX6_letter u)) (((4 * (u 0 5)) + 1)).toNatClampNeg (g_20.1)) (((4 * (u 0 5)) + 2)).toNatClampNeg (g_30.1))) 0 (upd (upd (u 0) 6 (g_34.1)) 7 (g_34.2)))).2.1 (mX6_number (rset (rset u 8 (upd (upd (upd (u 8) ((4 * (u 0 5))).toNatClampNeg (mX6_letter u)) (((4 * (u 0 5)) + 1)).toNatClampNeg (g_20.1)) (((4 * (u 0 5)) + 2)).toNatClampNeg (g_30.1))) 0 (upd (upd (u 0) 6 (g_34.1)) 7 (g_34.2)))).2.2 (2 * m0 + 1) := (number_q (u := (rset (rset u 8 (upd (upd (upd (u 8) ((4 * (u 0 5))).toNatClampNeg (mX6_letter u)) (((4 * (u 0 5)) + 1)).toNatClampNeg (g_20.1)) (((4 * (u 0 5)) + 2)).toNatClampNeg (g_30.1))) 0 (upd (upd (u 0) 6 (g_34.1)) 7 (g_34.2)))) hw3).weak (by omega)
        refine kGen (mX6_number (rset (rset u 8 (upd (upd (upd (u 8) ((4 * (u 0 5))).toNatClampNeg (mX6_letter u)) (((4 * (u 0 5)) + 1)).toNatClampNeg (g_20.1)) (((4 * (u 0 5)) + 2)).toNatClampNeg (g_30.1))) 0 (upd (upd (u 0) 6 (g_34.1)) 7 (g_34.2)))) (fun g_35 eg_35 => ?_)
        rewrite [eg_35] at hn3
        try rewrite [eg_35]
        try dsimp only
        first | exact hn3 | exact hn2 | exact hn1 | exact hw1
      · rewrite [if_neg k_3]
        have hw3 : qB (u 0 1) (mX6_wants (rset (rset u 8 (upd (upd (upd (u 8) ((4 * (u 0 5))).toNatClampNeg (mX6_letter u)) (((4 * (u 0 5)) + 1)).toNatClampNeg (g_20.1)) (((4 * (u 0 5)) + 2)).toNatClampNeg (g_30.1))) 0 (upd (upd (u 0) 6 (g_30.2.1)) 7 (g_30.2.2))) 0).1 (mX6_wants (rset (rset u 8 (upd (upd (upd (u 8) ((4 * (u 0 5))).toNatClampNeg (mX6_letter u)) (((4 * (u 0 5)) + 1)).toNatClampNeg (g_20.1)) (((4 * (u 0 5)) + 2)).toNatClampNeg (g_30.1))) 0 (upd (upd (u 0) 6 (g_30.2.1)) 7 (g_30.2.2))) 0).2 (2 * m0 + 1) := (wants_q (u := (rset (rset u 8 (upd (upd (upd (u 8) ((4 * (u 0 5))).toNatClampNeg (mX6_letter u)) (((4 * (u 0 5)) + 1)).toNatClampNeg (g_20.1)) (((4 * (u 0 5)) + 2)).toNatClampNeg (g_30.1))) 0 (upd (upd (u 0) 6 (g_30.2.1)) 7 (g_30.2.2)))) hn2 (fun c => by first | exact absurd rfl c | exact letter_lt (u := (rset (rset u 8 (upd (upd (upd (u 8) ((4 * (u 0 5))).toNatClampNeg (mX6_letter u)) (((4 * (u 0 5)) + 1)).toNatClampNeg (g_20.1)) (((4 * (u 0 5)) + 2)).toNatClampNeg (g_30.1))) 0 (upd (upd (u 0) 6 (g_30.2.1)) 7 (g_30.2.2)))) hn2 (lne (k := 61) (by assumption) (by decide)))).weak (by omega)
        refine kGen (mX6_wants (rset (rset u 8 (upd (upd (upd (u 8) ((4 * (u 0 5))).toNatClampNeg (mX6_letter u)) (((4 * (u 0 5)) + 1)).toNatClampNeg (g_20.1)) (((4 * (u 0 5)) + 2)).toNatClampNeg (g_30.1))) 0 (upd (upd (u 0) 6 (g_30.2.1)) 7 (g_30.2.2))) 0) (fun g_32 eg_32 => ?_)
        rewrite [eg_32] at hw3
        try rewrite [eg_32]
        try dsimp only
        have hn3 : qB (u 0 1) (mX6_number (rset (rset u 8 (upd (upd (upd (u 8) ((4 * (u 0 5))).toNatClampNeg (mX6_letter u)) (((4 * (u 0 5)) + 1)).toNatClampNeg (g_20.1)) (((4 * (u 0 5)) + 2)).toNatClampNeg (g_30.1))) 0 (upd (upd (u 0) 6 (g_32.1)) 7 (g_32.2)))).2.1 (mX6_number (rset (rset u 8 (upd (upd (upd (u 8) ((4 * (u 0 5))).toNatClampNeg (mX6_letter u)) (((4 * (u 0 5)) + 1)).toNatClampNeg (g_20.1)) (((4 * (u 0 5)) + 2)).toNatClampNeg (g_30.1))) 0 (upd (upd (u 0) 6 (g_32.1)) 7 (g_32.2)))).2.2 (2 * m0 + 1) := (number_q (u := (rset (rset u 8 (upd (upd (upd (u 8) ((4 * (u 0 5))).toNatClampNeg (mX6_letter u)) (((4 * (u 0 5)) + 1)).toNatClampNeg (g_20.1)) (((4 * (u 0 5)) + 2)).toNatClampNeg (g_30.1))) 0 (upd (upd (u 0) 6 (g_32.1)) 7 (g_32.2)))) hw3).weak (by omega)
        refine kGen (mX6_number (rset (rset u 8 (upd (upd (upd (u 8) ((4 * (u 0 5))).toNatClampNeg (mX6_letter u)) (((4 * (u 0 5)) + 1)).toNatClampNeg (g_20.1)) (((4 * (u 0 5)) + 2)).toNatClampNeg (g_30.1))) 0 (upd (upd (u 0) 6 (g_32.1)) 7 (g_32.2)))) (fun g_33 eg_33 => ?_)
        rewrite [eg_33] at hn3
        try rewrite [eg_33]
        try dsimp only
        first | exact hn3 | exact hn2 | exact hn1 | exact hw1
    · rewrite [if_neg k_2]
      have hw2 : qB (u 0 1) (mX6_wants (rset (rset u 8 (upd (upd (u 8) ((4 * (u 0 5))).toNatClampNeg (mX6_letter u)) (((4 * (u 0 5)) + 1)).toNatClampNeg (g_20.1))) 0 (upd (upd (u 0) 6 (g_20.2.1)) 7 (g_20.2.2))) 0).1 (mX6_wants (rset (rset u 8 (upd (upd (u 8) ((4 * (u 0 5))).toNatClampNeg (mX6_letter u)) (((4 * (u 0 5)) + 1)).toNatClampNeg (g_20.1))) 0 (upd (upd (u 0) 6 (g_20.2.1)) 7 (g_20.2.2))) 0).2 (2 * m0 + 1) := (wants_q (u := (rset (rset u 8 (upd (upd (u 8) ((4 * (u 0 5))).toNatClampNeg (mX6_letter u)) (((4 * (u 0 5)) + 1)).toNatClampNeg (g_20.1))) 0 (upd (upd (u 0) 6 (g_20.2.1)) 7 (g_20.2.2)))) hn1 (fun c => by first | exact absurd rfl c | exact letter_lt (u := (rset (rset u 8 (upd (upd (u 8) ((4 * (u 0 5))).toNatClampNeg (mX6_letter u)) (((4 * (u 0 5)) + 1)).toNatClampNeg (g_20.1))) 0 (upd (upd (u 0) 6 (g_20.2.1)) 7 (g_20.2.2)))) hn1 (lne (k := 46) (by assumption) (by decide)))).weak (by omega)
      refine kGen (mX6_wants (rset (rset u 8 (upd (upd (u 8) ((4 * (u 0 5))).toNatClampNeg (mX6_letter u)) (((4 * (u 0 5)) + 1)).toNatClampNeg (g_20.1))) 0 (upd (upd (u 0) 6 (g_20.2.1)) 7 (g_20.2.2))) 0) (fun g_22 eg_22 => ?_)
      rewrite [eg_22] at hw2
      try rewrite [eg_22]
      try dsimp only
      have hn2 : qB (u 0 1) (mX6_number (rset (rset u 8 (upd (upd (u 8) ((4 * (u 0 5))).toNatClampNeg (mX6_letter u)) (((4 * (u 0 5)) + 1)).toNatClampNeg (g_20.1))) 0 (upd (upd (u 0) 6 (g_22.1)) 7 (g_22.2)))).2.1 (mX6_number (rset (rset u 8 (upd (upd (u 8) ((4 * (u 0 5))).toNatClampNeg (mX6_letter u)) (((4 * (u 0 5)) + 1)).toNatClampNeg (g_20.1))) 0 (upd (upd (u 0) 6 (g_22.1)) 7 (g_22.2)))).2.2 (2 * m0 + 1) := (number_q (u := (rset (rset u 8 (upd (upd (u 8) ((4 * (u 0 5))).toNatClampNeg (mX6_letter u)) (((4 * (u 0 5)) + 1)).toNatClampNeg (g_20.1))) 0 (upd (upd (u 0) 6 (g_22.1)) 7 (g_22.2)))) hw2).weak (by omega)
      refine kGen (mX6_number (rset (rset u 8 (upd (upd (u 8) ((4 * (u 0 5))).toNatClampNeg (mX6_letter u)) (((4 * (u 0 5)) + 1)).toNatClampNeg (g_20.1))) 0 (upd (upd (u 0) 6 (g_22.1)) 7 (g_22.2)))) (fun g_23 eg_23 => ?_)
      rewrite [eg_23] at hn2
      try rewrite [eg_23]
      try dsimp only
      by_cases k_4 : (mX6_letter (rset (rset u 8 (upd (upd (upd (u 8) ((4 * (u 0 5))).toNatClampNeg (mX6_letter u)) (((4 * (u 0 5)) + 1)).toNatClampNeg (g_20.1)) (((4 * (u 0 5)) + 2)).toNatClampNeg (g_23.1))) 0 (upd (upd (u 0) 6 (g_23.2.1)) 7 (g_23.2.2)))) = 61
      · rewrite [if_pos k_4]
        have hw3 : qB (u 0 1) (mX6_wants (rset (rset u 8 (upd (upd (upd (u 8) ((4 * (u 0 5))).toNatClampNeg (mX6_letter u)) (((4 * (u 0 5)) + 1)).toNatClampNeg (g_20.1)) (((4 * (u 0 5)) + 2)).toNatClampNeg (g_23.1))) 0 (upd (upd (u 0) 6 (g_23.2.1)) 7 (g_23.2.2))) 1).1 (mX6_wants (rset (rset u 8 (upd (upd (upd (u 8) ((4 * (u 0 5))).toNatClampNeg (mX6_letter u)) (((4 * (u 0 5)) + 1)).toNatClampNeg (g_20.1)) (((4 * (u 0 5)) + 2)).toNatClampNeg (g_23.1))) 0 (upd (upd (u 0) 6 (g_23.2.1)) 7 (g_23.2.2))) 1).2 (2 * m0 + 1) := (wants_q (u := (rset (rset u 8 (upd (upd (upd (u 8) ((4 * (u 0 5))).toNatClampNeg (mX6_letter u)) (((4 * (u 0 5)) + 1)).toNatClampNeg (g_20.1)) (((4 * (u 0 5)) + 2)).toNatClampNeg (g_23.1))) 0 (upd (upd (u 0) 6 (g_23.2.1)) 7 (g_23.2.2)))) hn2 (fun c => by first | exact absurd rfl c | exact letter_lt (u := (rset (rset u 8 (upd (upd (upd (u 8) ((4 * (u 0 5))).toNatClampNeg (mX6_letter u)) (((4 * (u 0 5)) + 1)).toNatClampNeg (g_20.1)) (((4 * (u 0 5)) + 2)).toNatClampNeg (g_23.1))) 0 (upd (upd (u 0) 6 (g_23.2.1)) 7 (g_23.2.2)))) hn2 (lne (k := 61) (by assumption) (by decide)))).weak (by omega)
        refine kGen (mX6_wants (rset (rset u 8 (upd (upd (upd (u 8) ((4 * (u 0 5))).toNatClampNeg (mX6_letter u)) (((4 * (u 0 5)) + 1)).toNatClampNeg (g_20.1)) (((4 * (u 0 5)) + 2)).toNatClampNeg (g_23.1))) 0 (upd (upd (u 0) 6 (g_23.2.1)) 7 (g_23.2.2))) 1) (fun g_27 eg_27 => ?_)
        rewrite [eg_27] at hw3
        try rewrite [eg_27]
        try dsimp only
        have hn3 : qB (u 0 1) (mX6_number (rset (rset u 8 (upd (upd (upd (u 8) ((4 * (u 0 5))).toNatClampNeg (mX6_letter u)) (((4 * (u 0 5)) + 1)).toNatClampNeg (g_20.1)) (((4 * (u 0 5)) + 2)).toNatClampNeg (g_23.1))) 0 (upd (upd (u 0) 6 (g_27.1)) 7 (g_27.2)))).2.1 (mX6_number (rset (rset u 8 (upd (upd (upd (u 8) ((4 * (u 0 5))).toNatClampNeg (mX6_letter u)) (((4 * (u 0 5)) + 1)).toNatClampNeg (g_20.1)) (((4 * (u 0 5)) + 2)).toNatClampNeg (g_23.1))) 0 (upd (upd (u 0) 6 (g_27.1)) 7 (g_27.2)))).2.2 (2 * m0 + 1) := (number_q (u := (rset (rset u 8 (upd (upd (upd (u 8) ((4 * (u 0 5))).toNatClampNeg (mX6_letter u)) (((4 * (u 0 5)) + 1)).toNatClampNeg (g_20.1)) (((4 * (u 0 5)) + 2)).toNatClampNeg (g_23.1))) 0 (upd (upd (u 0) 6 (g_27.1)) 7 (g_27.2)))) hw3).weak (by omega)
        refine kGen (mX6_number (rset (rset u 8 (upd (upd (upd (u 8) ((4 * (u 0 5))).toNatClampNeg (mX6_letter u)) (((4 * (u 0 5)) + 1)).toNatClampNeg (g_20.1)) (((4 * (u 0 5)) + 2)).toNatClampNeg (g_23.1))) 0 (upd (upd (u 0) 6 (g_27.1)) 7 (g_27.2)))) (fun g_28 eg_28 => ?_)
        rewrite [eg_28] at hn3
        try rewrite [eg_28]
        try dsimp only
        first | exact hn3 | exact hn2 | exact hn1 | exact hw1
      · rewrite [if_neg k_4]
        have hw3 : qB (u 0 1) (mX6_wants (rset (rset u 8 (upd (upd (upd (u 8) ((4 * (u 0 5))).toNatClampNeg (mX6_letter u)) (((4 * (u 0 5)) + 1)).toNatClampNeg (g_20.1)) (((4 * (u 0 5)) + 2)).toNatClampNeg (g_23.1))) 0 (upd (upd (u 0) 6 (g_23.2.1)) 7 (g_23.2.2))) 0).1 (mX6_wants (rset (rset u 8 (upd (upd (upd (u 8) ((4 * (u 0 5))).toNatClampNeg (mX6_letter u)) (((4 * (u 0 5)) + 1)).toNatClampNeg (g_20.1)) (((4 * (u 0 5)) + 2)).toNatClampNeg (g_23.1))) 0 (upd (upd (u 0) 6 (g_23.2.1)) 7 (g_23.2.2))) 0).2 (2 * m0 + 1) := (wants_q (u := (rset (rset u 8 (upd (upd (upd (u 8) ((4 * (u 0 5))).toNatClampNeg (mX6_letter u)) (((4 * (u 0 5)) + 1)).toNatClampNeg (g_20.1)) (((4 * (u 0 5)) + 2)).toNatClampNeg (g_23.1))) 0 (upd (upd (u 0) 6 (g_23.2.1)) 7 (g_23.2.2)))) hn2 (fun c => by first | exact absurd rfl c | exact letter_lt (u := (rset (rset u 8 (upd (upd (upd (u 8) ((4 * (u 0 5))).toNatClampNeg (mX6_letter u)) (((4 * (u 0 5)) + 1)).toNatClampNeg (g_20.1)) (((4 * (u 0 5)) + 2)).toNatClampNeg (g_23.1))) 0 (upd (upd (u 0) 6 (g_23.2.1)) 7 (g_23.2.2)))) hn2 (lne (k := 61) (by assumption) (by decide)))).weak (by omega)
        refine kGen (mX6_wants (rset (rset u 8 (upd (upd (upd (u 8) ((4 * (u 0 5))).toNatClampNeg (mX6_letter u)) (((4 * (u 0 5)) + 1)).toNatClampNeg (g_20.1)) (((4 * (u 0 5)) + 2)).toNatClampNeg (g_23.1))) 0 (upd (upd (u 0) 6 (g_23.2.1)) 7 (g_23.2.2))) 0) (fun g_25 eg_25 => ?_)
        rewrite [eg_25] at hw3
        try rewrite [eg_25]
        try dsimp only
        have hn3 : qB (u 0 1) (mX6_number (rset (rset u 8 (upd (upd (upd (u 8) ((4 * (u 0 5))).toNatClampNeg (mX6_letter u)) (((4 * (u 0 5)) + 1)).toNatClampNeg (g_20.1)) (((4 * (u 0 5)) + 2)).toNatClampNeg (g_23.1))) 0 (upd (upd (u 0) 6 (g_25.1)) 7 (g_25.2)))).2.1 (mX6_number (rset (rset u 8 (upd (upd (upd (u 8) ((4 * (u 0 5))).toNatClampNeg (mX6_letter u)) (((4 * (u 0 5)) + 1)).toNatClampNeg (g_20.1)) (((4 * (u 0 5)) + 2)).toNatClampNeg (g_23.1))) 0 (upd (upd (u 0) 6 (g_25.1)) 7 (g_25.2)))).2.2 (2 * m0 + 1) := (number_q (u := (rset (rset u 8 (upd (upd (upd (u 8) ((4 * (u 0 5))).toNatClampNeg (mX6_letter u)) (((4 * (u 0 5)) + 1)).toNatClampNeg (g_20.1)) (((4 * (u 0 5)) + 2)).toNatClampNeg (g_23.1))) 0 (upd (upd (u 0) 6 (g_25.1)) 7 (g_25.2)))) hw3).weak (by omega)
        refine kGen (mX6_number (rset (rset u 8 (upd (upd (upd (u 8) ((4 * (u 0 5))).toNatClampNeg (mX6_letter u)) (((4 * (u 0 5)) + 1)).toNatClampNeg (g_20.1)) (((4 * (u 0 5)) + 2)).toNatClampNeg (g_23.1))) 0 (upd (upd (u 0) 6 (g_25.1)) 7 (g_25.2)))) (fun g_26 eg_26 => ?_)
        rewrite [eg_26] at hn3
        try rewrite [eg_26]
        try dsimp only
        first | exact hn3 | exact hn2 | exact hn1 | exact hw1
  · rewrite [if_neg k_1]
    by_cases k_5 : (mX6_letter u) = 114
    · rewrite [if_pos k_5]
      have hw1 : qB (u 0 1) (mX6_wants u 1).1 (mX6_wants u 1).2 (2 * m0 + 1) := (wants_q (u := u) hq (fun c => by first | exact absurd rfl c | exact letter_lt (u := u) hq (lne (k := 119) (by assumption) (by decide)) | exact letter_lt (u := u) hq (lne (k := 114) (by assumption) (by decide)) | exact letter_lt (u := u) hq (lne (k := 99) (by assumption) (by decide)) | exact letter_lt (u := u) hq (lne (k := 120) (by assumption) (by decide)) | exact letter_lt (u := u) hq (lne (k := 98) (by assumption) (by decide)))).weak (by omega)
      refine kGen (mX6_wants u 1) (fun g_3 eg_3 => ?_)
      rewrite [eg_3] at hw1
      try rewrite [eg_3]
      try dsimp only
      have hn1 : qB (u 0 1) (mX6_number (rset (rset u 8 (upd (u 8) ((4 * (u 0 5))).toNatClampNeg (mX6_letter u))) 0 (upd (upd (u 0) 6 (g_3.1)) 7 (g_3.2)))).2.1 (mX6_number (rset (rset u 8 (upd (u 8) ((4 * (u 0 5))).toNatClampNeg (mX6_letter u))) 0 (upd (upd (u 0) 6 (g_3.1)) 7 (g_3.2)))).2.2 (2 * m0 + 1) := (number_q (u := (rset (rset u 8 (upd (u 8) ((4 * (u 0 5))).toNatClampNeg (mX6_letter u))) 0 (upd (upd (u 0) 6 (g_3.1)) 7 (g_3.2)))) hw1).weak (by omega)
      refine kGen (mX6_number (rset (rset u 8 (upd (u 8) ((4 * (u 0 5))).toNatClampNeg (mX6_letter u))) 0 (upd (upd (u 0) 6 (g_3.1)) 7 (g_3.2)))) (fun g_4 eg_4 => ?_)
      rewrite [eg_4] at hn1
      try rewrite [eg_4]
      try dsimp only
      by_cases k_6 : (mX6_letter (rset (rset u 8 (upd (upd (u 8) ((4 * (u 0 5))).toNatClampNeg (mX6_letter u)) (((4 * (u 0 5)) + 1)).toNatClampNeg (g_4.1))) 0 (upd (upd (u 0) 6 (g_4.2.1)) 7 (g_4.2.2)))) = 46
      · rewrite [if_pos k_6]
        have hw2 : qB (u 0 1) (mX6_wants (rset (rset u 8 (upd (upd (u 8) ((4 * (u 0 5))).toNatClampNeg (mX6_letter u)) (((4 * (u 0 5)) + 1)).toNatClampNeg (g_4.1))) 0 (upd (upd (u 0) 6 (g_4.2.1)) 7 (g_4.2.2))) 1).1 (mX6_wants (rset (rset u 8 (upd (upd (u 8) ((4 * (u 0 5))).toNatClampNeg (mX6_letter u)) (((4 * (u 0 5)) + 1)).toNatClampNeg (g_4.1))) 0 (upd (upd (u 0) 6 (g_4.2.1)) 7 (g_4.2.2))) 1).2 (2 * m0 + 1) := (wants_q (u := (rset (rset u 8 (upd (upd (u 8) ((4 * (u 0 5))).toNatClampNeg (mX6_letter u)) (((4 * (u 0 5)) + 1)).toNatClampNeg (g_4.1))) 0 (upd (upd (u 0) 6 (g_4.2.1)) 7 (g_4.2.2)))) hn1 (fun c => by first | exact absurd rfl c | exact letter_lt (u := (rset (rset u 8 (upd (upd (u 8) ((4 * (u 0 5))).toNatClampNeg (mX6_letter u)) (((4 * (u 0 5)) + 1)).toNatClampNeg (g_4.1))) 0 (upd (upd (u 0) 6 (g_4.2.1)) 7 (g_4.2.2)))) hn1 (lne (k := 46) (by assumption) (by decide)))).weak (by omega)
        refine kGen (mX6_wants (rset (rset u 8 (upd (upd (u 8) ((4 * (u 0 5))).toNatClampNeg (mX6_letter u)) (((4 * (u 0 5)) + 1)).toNatClampNeg (g_4.1))) 0 (upd (upd (u 0) 6 (g_4.2.1)) 7 (g_4.2.2))) 1) (fun g_8 eg_8 => ?_)
        rewrite [eg_8] at hw2
        try rewrite [eg_8]
        try dsimp only
        have hn2 : qB (u 0 1) (mX6_number (rset (rset u 8 (upd (upd (u 8) ((4 * (u 0 5))).toNatClampNeg (mX6_letter u)) (((4 * (u 0 5)) + 1)).toNatClampNeg (g_4.1))) 0 (upd (upd (u 0) 6 (g_8.1)) 7 (g_8.2)))).2.1 (mX6_number (rset (rset u 8 (upd (upd (u 8) ((4 * (u 0 5))).toNatClampNeg (mX6_letter u)) (((4 * (u 0 5)) + 1)).toNatClampNeg (g_4.1))) 0 (upd (upd (u 0) 6 (g_8.1)) 7 (g_8.2)))).2.2 (2 * m0 + 1) := (number_q (u := (rset (rset u 8 (upd (upd (u 8) ((4 * (u 0 5))).toNatClampNeg (mX6_letter u)) (((4 * (u 0 5)) + 1)).toNatClampNeg (g_4.1))) 0 (upd (upd (u 0) 6 (g_8.1)) 7 (g_8.2)))) hw2).weak (by omega)
        refine kGen (mX6_number (rset (rset u 8 (upd (upd (u 8) ((4 * (u 0 5))).toNatClampNeg (mX6_letter u)) (((4 * (u 0 5)) + 1)).toNatClampNeg (g_4.1))) 0 (upd (upd (u 0) 6 (g_8.1)) 7 (g_8.2)))) (fun g_9 eg_9 => ?_)
        rewrite [eg_9] at hn2
        try rewrite [eg_9]
        try dsimp only
        first | exact hn3 | exact hn2 | exact hn1 | exact hw1
      · rewrite [if_neg k_6]
        have hw2 : qB (u 0 1) (mX6_wants (rset (rset u 8 (upd (upd (u 8) ((4 * (u 0 5))).toNatClampNeg (mX6_letter u)) (((4 * (u 0 5)) + 1)).toNatClampNeg (g_4.1))) 0 (upd (upd (u 0) 6 (g_4.2.1)) 7 (g_4.2.2))) 0).1 (mX6_wants (rset (rset u 8 (upd (upd (u 8) ((4 * (u 0 5))).toNatClampNeg (mX6_letter u)) (((4 * (u 0 5)) + 1)).toNatClampNeg (g_4.1))) 0 (upd (upd (u 0) 6 (g_4.2.1)) 7 (g_4.2.2))) 0).2 (2 * m0 + 1) := (wants_q (u := (rset (rset u 8 (upd (upd (u 8) ((4 * (u 0 5))).toNatClampNeg (mX6_letter u)) (((4 * (u 0 5)) + 1)).toNatClampNeg (g_4.1))) 0 (upd (upd (u 0) 6 (g_4.2.1)) 7 (g_4.2.2)))) hn1 (fun c => by first | exact absurd rfl c | exact letter_lt (u := (rset (rset u 8 (upd (upd (u 8) ((4 * (u 0 5))).toNatClampNeg (mX6_letter u)) (((4 * (u 0 5)) + 1)).toNatClampNeg (g_4.1))) 0 (upd (upd (u 0) 6 (g_4.2.1)) 7 (g_4.2.2)))) hn1 (lne (k := 46) (by assumption) (by decide)))).weak (by omega)
        refine kGen (mX6_wants (rset (rset u 8 (upd (upd (u 8) ((4 * (u 0 5))).toNatClampNeg (mX6_letter u)) (((4 * (u 0 5)) + 1)).toNatClampNeg (g_4.1))) 0 (upd (upd (u 0) 6 (g_4.2.1)) 7 (g_4.2.2))) 0) (fun g_6 eg_6 => ?_)
        rewrite [eg_6] at hw2
        try rewrite [eg_6]
        try dsimp only
        have hn2 : qB (u 0 1) (mX6_number (rset (rset u 8 (upd (upd (u 8) ((4 * (u 0 5))).toNatClampNeg (mX6_letter u)) (((4 * (u 0 5)) + 1)).toNatClampNeg (g_4.1))) 0 (upd (upd (u 0) 6 (g_6.1)) 7 (g_6.2)))).2.1 (mX6_number (rset (rset u 8 (upd (upd (u 8) ((4 * (u 0 5))).toNatClampNeg (mX6_letter u)) (((4 * (u 0 5)) + 1)).toNatClampNeg (g_4.1))) 0 (upd (upd (u 0) 6 (g_6.1)) 7 (g_6.2)))).2.2 (2 * m0 + 1) := (number_q (u := (rset (rset u 8 (upd (upd (u 8) ((4 * (u 0 5))).toNatClampNeg (mX6_letter u)) (((4 * (u 0 5)) + 1)).toNatClampNeg (g_4.1))) 0 (upd (upd (u 0) 6 (g_6.1)) 7 (g_6.2)))) hw2).weak (by omega)
        refine kGen (mX6_number (rset (rset u 8 (upd (upd (u 8) ((4 * (u 0 5))).toNatClampNeg (mX6_letter u)) (((4 * (u 0 5)) + 1)).toNatClampNeg (g_4.1))) 0 (upd (upd (u 0) 6 (g_6.1)) 7 (g_6.2)))) (fun g_7 eg_7 => ?_)
        rewrite [eg_7] at hn2
        try rewrite [eg_7]
        try dsimp only
        first | exact hn3 | exact hn2 | exact hn1 | exact hw1
    · rewrite [if_neg k_5]
      by_cases k_7 : (mX6_letter u) = 99
      · rewrite [if_pos k_7]
        have hw1 : qB (u 0 1) (mX6_wants u 1).1 (mX6_wants u 1).2 (2 * m0 + 1) := (wants_q (u := u) hq (fun c => by first | exact absurd rfl c | exact letter_lt (u := u) hq (lne (k := 119) (by assumption) (by decide)) | exact letter_lt (u := u) hq (lne (k := 114) (by assumption) (by decide)) | exact letter_lt (u := u) hq (lne (k := 99) (by assumption) (by decide)) | exact letter_lt (u := u) hq (lne (k := 120) (by assumption) (by decide)) | exact letter_lt (u := u) hq (lne (k := 98) (by assumption) (by decide)))).weak (by omega)
        refine kGen (mX6_wants u 1) (fun g_11 eg_11 => ?_)
        rewrite [eg_11] at hw1
        try rewrite [eg_11]
        try dsimp only
        have hn1 : qB (u 0 1) (mX6_number (rset (rset u 8 (upd (u 8) ((4 * (u 0 5))).toNatClampNeg (mX6_letter u))) 0 (upd (upd (u 0) 6 (g_11.1)) 7 (g_11.2)))).2.1 (mX6_number (rset (rset u 8 (upd (u 8) ((4 * (u 0 5))).toNatClampNeg (mX6_letter u))) 0 (upd (upd (u 0) 6 (g_11.1)) 7 (g_11.2)))).2.2 (2 * m0 + 1) := (number_q (u := (rset (rset u 8 (upd (u 8) ((4 * (u 0 5))).toNatClampNeg (mX6_letter u))) 0 (upd (upd (u 0) 6 (g_11.1)) 7 (g_11.2)))) hw1).weak (by omega)
        refine kGen (mX6_number (rset (rset u 8 (upd (u 8) ((4 * (u 0 5))).toNatClampNeg (mX6_letter u))) 0 (upd (upd (u 0) 6 (g_11.1)) 7 (g_11.2)))) (fun g_12 eg_12 => ?_)
        rewrite [eg_12] at hn1
        try rewrite [eg_12]
        try dsimp only
        first | exact hn3 | exact hn2 | exact hn1 | exact hw1
      · rewrite [if_neg k_7]
        by_cases k_8 : (mX6_letter u) = 120
        · rewrite [if_pos k_8]
          have hw1 : qB (u 0 1) (mX6_wants u 1).1 (mX6_wants u 1).2 (2 * m0 + 1) := (wants_q (u := u) hq (fun c => by first | exact absurd rfl c | exact letter_lt (u := u) hq (lne (k := 119) (by assumption) (by decide)) | exact letter_lt (u := u) hq (lne (k := 114) (by assumption) (by decide)) | exact letter_lt (u := u) hq (lne (k := 99) (by assumption) (by decide)) | exact letter_lt (u := u) hq (lne (k := 120) (by assumption) (by decide)) | exact letter_lt (u := u) hq (lne (k := 98) (by assumption) (by decide)))).weak (by omega)
          refine kGen (mX6_wants u 1) (fun g_17 eg_17 => ?_)
          rewrite [eg_17] at hw1
          try rewrite [eg_17]
          try dsimp only
          have hn1 : qB (u 0 1) (mX6_number (rset (rset u 8 (upd (u 8) ((4 * (u 0 5))).toNatClampNeg (mX6_letter u))) 0 (upd (upd (u 0) 6 (g_17.1)) 7 (g_17.2)))).2.1 (mX6_number (rset (rset u 8 (upd (u 8) ((4 * (u 0 5))).toNatClampNeg (mX6_letter u))) 0 (upd (upd (u 0) 6 (g_17.1)) 7 (g_17.2)))).2.2 (2 * m0 + 1) := (number_q (u := (rset (rset u 8 (upd (u 8) ((4 * (u 0 5))).toNatClampNeg (mX6_letter u))) 0 (upd (upd (u 0) 6 (g_17.1)) 7 (g_17.2)))) hw1).weak (by omega)
          refine kGen (mX6_number (rset (rset u 8 (upd (u 8) ((4 * (u 0 5))).toNatClampNeg (mX6_letter u))) 0 (upd (upd (u 0) 6 (g_17.1)) 7 (g_17.2)))) (fun g_18 eg_18 => ?_)
          rewrite [eg_18] at hn1
          try rewrite [eg_18]
          try dsimp only
          first | exact hn3 | exact hn2 | exact hn1 | exact hw1
        · rewrite [if_neg k_8]
          by_cases k_9 : (mX6_letter u) = 98
          · rewrite [if_pos k_9]
            have hw1 : qB (u 0 1) (mX6_wants u 1).1 (mX6_wants u 1).2 (2 * m0 + 1) := (wants_q (u := u) hq (fun c => by first | exact absurd rfl c | exact letter_lt (u := u) hq (lne (k := 119) (by assumption) (by decide)) | exact letter_lt (u := u) hq (lne (k := 114) (by assumption) (by decide)) | exact letter_lt (u := u) hq (lne (k := 99) (by assumption) (by decide)) | exact letter_lt (u := u) hq (lne (k := 120) (by assumption) (by decide)) | exact letter_lt (u := u) hq (lne (k := 98) (by assumption) (by decide)))).weak (by omega)
            refine kGen (mX6_wants u 1) (fun g_16 eg_16 => ?_)
            rewrite [eg_16] at hw1
            try rewrite [eg_16]
            try dsimp only
            first | exact hn3 | exact hn2 | exact hn1 | exact hw1
          · rewrite [if_neg k_9]
            have hw1 : qB (u 0 1) (mX6_wants u 0).1 (mX6_wants u 0).2 (2 * m0 + 1) := (wants_q (u := u) hq (fun c => by first | exact absurd rfl c | exact letter_lt (u := u) hq (lne (k := 119) (by assumption) (by decide)) | exact letter_lt (u := u) hq (lne (k := 114) (by assumption) (by decide)) | exact letter_lt (u := u) hq (lne (k := 99) (by assumption) (by decide)) | exact letter_lt (u := u) hq (lne (k := 120) (by assumption) (by decide)) | exact letter_lt (u := u) hq (lne (k := 98) (by assumption) (by decide)))).weak (by omega)
            refine kGen (mX6_wants u 0) (fun g_15 eg_15 => ?_)
            rewrite [eg_15] at hw1
            try rewrite [eg_15]
            try dsimp only
            first | exact hn3 | exact hn2 | exact hn1 | exact hw1
theorem readOrder_1 {u : kG} {m0 : Nat} (hq : qB (u 0 1) (u 0 6) (u 0 7) (2 * m0)) : kEq (mX6_readOrder u).1 ((u 0 5) + 1) := by
  rw [mX6_readOrder_s]
  by_cases k_10 : (mX6_letter u) = 119
  · rewrite [if_pos k_10]
    have hw1 : qB (u 0 1) (mX6_wants u 1).1 (mX6_wants u 1).2 (2 * m0 + 1) := (wants_q (u := u) hq (fun c => by first | exact absurd rfl c | exact letter_lt (u := u) hq (lne (k := 119) (by assumption) (by decide)) | exact letter_lt (u := u) hq (lne (k := 114) (by assumption) (by decide)) | exact letter_lt (u := u) hq (lne (k := 99) (by assumption) (by decide)) | exact letter_lt (u := u) hq (lne (k := 120) (by assumption) (by decide)) | exact letter_lt (u := u) hq (lne (k := 98) (by assumption) (by decide)))).weak (by omega)
    refine kGen (mX6_wants u 1) (fun g_19 eg_19 => ?_)
    rewrite [eg_19] at hw1
    try rewrite [eg_19]
    try dsimp only
    have hn1 : qB (u 0 1) (mX6_number (rset (rset u 8 (upd (u 8) ((4 * (u 0 5))).toNatClampNeg (mX6_letter u))) 0 (upd (upd (u 0) 6 (g_19.1)) 7 (g_19.2)))).2.1 (mX6_number (rset (rset u 8 (upd (u 8) ((4 * (u 0 5))).toNatClampNeg (mX6_letter u))) 0 (upd (upd (u 0) 6 (g_19.1)) 7 (g_19.2)))).2.2 (2 * m0 + 1) := (number_q (u := (rset (rset u 8 (upd (u 8) ((4 * (u 0 5))).toNatClampNeg (mX6_letter u))) 0 (upd (upd (u 0) 6 (g_19.1)) 7 (g_19.2)))) hw1).weak (by omega)
    refine kGen (mX6_number (rset (rset u 8 (upd (u 8) ((4 * (u 0 5))).toNatClampNeg (mX6_letter u))) 0 (upd (upd (u 0) 6 (g_19.1)) 7 (g_19.2)))) (fun g_20 eg_20 => ?_)
    rewrite [eg_20] at hn1
    try rewrite [eg_20]
    try dsimp only
    by_cases k_11 : (mX6_letter (rset (rset u 8 (upd (upd (u 8) ((4 * (u 0 5))).toNatClampNeg (mX6_letter u)) (((4 * (u 0 5)) + 1)).toNatClampNeg (g_20.1))) 0 (upd (upd (u 0) 6 (g_20.2.1)) 7 (g_20.2.2)))) = 46
    · rewrite [if_pos k_11]
      have hw2 : qB (u 0 1) (mX6_wants (rset (rset u 8 (upd (upd (u 8) ((4 * (u 0 5))).toNatClampNeg (mX6_letter u)) (((4 * (u 0 5)) + 1)).toNatClampNeg (g_20.1))) 0 (upd (upd (u 0) 6 (g_20.2.1)) 7 (g_20.2.2))) 1).1 (mX6_wants (rset (rset u 8 (upd (upd (u 8) ((4 * (u 0 5))).toNatClampNeg (mX6_letter u)) (((4 * (u 0 5)) + 1)).toNatClampNeg (g_20.1))) 0 (upd (upd (u 0) 6 (g_20.2.1)) 7 (g_20.2.2))) 1).2 (2 * m0 + 1) := (wants_q (u := (rset (rset u 8 (upd (upd (u 8) ((4 * (u 0 5))).toNatClampNeg (mX6_letter u)) (((4 * (u 0 5)) + 1)).toNatClampNeg (g_20.1))) 0 (upd (upd (u 0) 6 (g_20.2.1)) 7 (g_20.2.2)))) hn1 (fun c => by first | exact absurd rfl c | exact letter_lt (u := (rset (rset u 8 (upd (upd (u 8) ((4 * (u 0 5))).toNatClampNeg (mX6_letter u)) (((4 * (u 0 5)) + 1)).toNatClampNeg (g_20.1))) 0 (upd (upd (u 0) 6 (g_20.2.1)) 7 (g_20.2.2)))) hn1 (lne (k := 46) (by assumption) (by decide)))).weak (by omega)
      refine kGen (mX6_wants (rset (rset u 8 (upd (upd (u 8) ((4 * (u 0 5))).toNatClampNeg (mX6_letter u)) (((4 * (u 0 5)) + 1)).toNatClampNeg (g_20.1))) 0 (upd (upd (u 0) 6 (g_20.2.1)) 7 (g_20.2.2))) 1) (fun g_29 eg_29 => ?_)
      rewrite [eg_29] at hw2
      try rewrite [eg_29]
      try dsimp only
      have hn2 : qB (u 0 1) (mX6_number (rset (rset u 8 (upd (upd (u 8) ((4 * (u 0 5))).toNatClampNeg (mX6_letter u)) (((4 * (u 0 5)) + 1)).toNatClampNeg (g_20.1))) 0 (upd (upd (u 0) 6 (g_29.1)) 7 (g_29.2)))).2.1 (mX6_number (rset (rset u 8 (upd (upd (u 8) ((4 * (u 0 5))).toNatClampNeg (mX6_letter u)) (((4 * (u 0 5)) + 1)).toNatClampNeg (g_20.1))) 0 (upd (upd (u 0) 6 (g_29.1)) 7 (g_29.2)))).2.2 (2 * m0 + 1) := (number_q (u := (rset (rset u 8 (upd (upd (u 8) ((4 * (u 0 5))).toNatClampNeg (mX6_letter u)) (((4 * (u 0 5)) + 1)).toNatClampNeg (g_20.1))) 0 (upd (upd (u 0) 6 (g_29.1)) 7 (g_29.2)))) hw2).weak (by omega)
      refine kGen (mX6_number (rset (rset u 8 (upd (upd (u 8) ((4 * (u 0 5))).toNatClampNeg (mX6_letter u)) (((4 * (u 0 5)) + 1)).toNatClampNeg (g_20.1))) 0 (upd (upd (u 0) 6 (g_29.1)) 7 (g_29.2)))) (fun g_30 eg_30 => ?_)
      rewrite [eg_30] at hn2
      try rewrite [eg_30]
      try dsimp only
      by_cases k_12 : (mX6_letter (rset (rset u 8 (upd (upd (upd (u 8) ((4 * (u 0 5))).toNatClampNeg (mX6_letter u)) (((4 * (u 0 5)) + 1)).toNatClampNeg (g_20.1)) (((4 * (u 0 5)) + 2)).toNatClampNeg (g_30.1))) 0 (upd (upd (u 0) 6 (g_30.2.1)) 7 (g_30.2.2)))) = 61
      · rewrite [if_pos k_12]
        have hw3 : qB (u 0 1) (mX6_wants (rset (rset u 8 (upd (upd (upd (u 8) ((4 * (u 0 5))).toNatClampNeg (mX6_letter u)) (((4 * (u 0 5)) + 1)).toNatClampNeg (g_20.1)) (((4 * (u 0 5)) + 2)).toNatClampNeg (g_30.1))) 0 (upd (upd (u 0) 6 (g_30.2.1)) 7 (g_30.2.2))) 1).1 (mX6_wants (rset (rset u 8 (upd (upd (upd (u 8) ((4 * (u 0 5))).toNatClampNeg (mX6_letter u)) (((4 * (u 0 5)) + 1)).toNatClampNeg (g_20.1)) (((4 * (u 0 5)) + 2)).toNatClampNeg (g_30.1))) 0 (upd (upd (u 0) 6 (g_30.2.1)) 7 (g_30.2.2))) 1).2 (2 * m0 + 1) := (wants_q (u := (rset (rset u 8 (upd (upd (upd (u 8) ((4 * (u 0 5))).toNatClampNeg (mX6_letter u)) (((4 * (u 0 5)) + 1)).toNatClampNeg (g_20.1)) (((4 * (u 0 5)) + 2)).toNatClampNeg (g_30.1))) 0 (upd (upd (u 0) 6 (g_30.2.1)) 7 (g_30.2.2)))) hn2 (fun c => by first | exact absurd rfl c | exact letter_lt (u := (rset (rset u 8 (upd (upd (upd (u 8) ((4 * (u 0 5))).toNatClampNeg (mX6_letter u)) (((4 * (u 0 5)) + 1)).toNatClampNeg (g_20.1)) (((4 * (u 0 5)) + 2)).toNatClampNeg (g_30.1))) 0 (upd (upd (u 0) 6 (g_30.2.1)) 7 (g_30.2.2)))) hn2 (lne (k := 61) (by assumption) (by decide)))).weak (by omega)
        refine kGen (mX6_wants (rset (rset u 8 (upd (upd (upd (u 8) ((4 * (u 0 5))).toNatClampNeg (mX6_letter u)) (((4 * (u 0 5)) + 1)).toNatClampNeg (g_20.1)) (((4 * (u 0 5)) + 2)).toNatClampNeg (g_30.1))) 0 (upd (upd (u 0) 6 (g_30.2.1)) 7 (g_30.2.2))) 1) (fun g_34 eg_34 => ?_)
        rewrite [eg_34] at hw3
        try rewrite [eg_34]
        try dsimp only
        have hn3 : qB (u 0 1) (mX6_number (rset (rset u 8 (upd (upd (upd (u 8) ((4 * (u 0 5))).toNatClampNeg (mX6_letter u)) (((4 * (u 0 5)) + 1)).toNatClampNeg (g_20.1)) (((4 * (u 0 5)) + 2)).toNatClampNeg (g_30.1))) 0 (upd (upd (u 0) 6 (g_34.1)) 7 (g_34.2)))).2.1 (mX6_number (rset (rset u 8 (upd (upd (upd (u 8) ((4 * (u 0 5))).toNatClampNeg (mX6_letter u)) (((4 * (u 0 5)) + 1)).toNatClampNeg (g_20.1)) (((4 * (u 0 5)) + 2)).toNatClampNeg (g_30.1))) 0 (upd (upd (u 0) 6 (g_34.1)) 7 (g_34.2)))).2.2 (2 * m0 + 1) := (number_q (u := (rset (rset u 8 (upd (upd (upd (u 8) ((4 * (u 0 5))).toNatClampNeg (mX6_letter u)) (((4 * (u 0 5)) + 1)).toNatClampNeg (g_20.1)) (((4 * (u 0 5)) + 2)).toNatClampNeg (g_30.1))) 0 (upd (upd (u 0) 6 (g_34.1)) 7 (g_34.2)))) hw3).weak (by omega)
        refine kGen (mX6_number (rset (rset u 8 (upd (upd (upd (u 8) ((4 * (u 0 5))).toNatClampNeg (mX6_letter u)) (((4 * (u 0 5)) + 1)).toNatClampNeg (g_20.1)) (((4 * (u 0 5)) + 2)).toNatClampNeg (g_30.1))) 0 (upd (upd (u 0) 6 (g_34.1)) 7 (g_34.2)))) (fun g_35 eg_35 => ?_)
        rewrite [eg_35] at hn3
        try rewrite [eg_35]
        try dsimp only
        exact Eq.refl _
      · rewrite [if_neg k_12]
        have hw3 : qB (u 0 1) (mX6_wants (rset (rset u 8 (upd (upd (upd (u 8) ((4 * (u 0 5))).toNatClampNeg (mX6_letter u)) (((4 * (u 0 5)) + 1)).toNatClampNeg (g_20.1)) (((4 * (u 0 5)) + 2)).toNatClampNeg (g_30.1))) 0 (upd (upd (u 0) 6 (g_30.2.1)) 7 (g_30.2.2))) 0).1 (mX6_wants (rset (rset u 8 (upd (upd (upd (u 8) ((4 * (u 0 5))).toNatClampNeg (mX6_letter u)) (((4 * (u 0 5)) + 1)).toNatClampNeg (g_20.1)) (((4 * (u 0 5)) + 2)).toNatClampNeg (g_30.1))) 0 (upd (upd (u 0) 6 (g_30.2.1)) 7 (g_30.2.2))) 0).2 (2 * m0 + 1) := (wants_q (u := (rset (rset u 8 (upd (upd (upd (u 8) ((4 * (u 0 5))).toNatClampNeg (mX6_letter u)) (((4 * (u 0 5)) + 1)).toNatClampNeg (g_20.1)) (((4 * (u 0 5)) + 2)).toNatClampNeg (g_30.1))) 0 (upd (upd (u 0) 6 (g_30.2.1)) 7 (g_30.2.2)))) hn2 (fun c => by first | exact absurd rfl c | exact letter_lt (u := (rset (rset u 8 (upd (upd (upd (u 8) ((4 * (u 0 5))).toNatClampNeg (mX6_letter u)) (((4 * (u 0 5)) + 1)).toNatClampNeg (g_20.1)) (((4 * (u 0 5)) + 2)).toNatClampNeg (g_30.1))) 0 (upd (upd (u 0) 6 (g_30.2.1)) 7 (g_30.2.2)))) hn2 (lne (k := 61) (by assumption) (by decide)))).weak (by omega)
        refine kGen (mX6_wants (rset (rset u 8 (upd (upd (upd (u 8) ((4 * (u 0 5))).toNatClampNeg (mX6_letter u)) (((4 * (u 0 5)) + 1)).toNatClampNeg (g_20.1)) (((4 * (u 0 5)) + 2)).toNatClampNeg (g_30.1))) 0 (upd (upd (u 0) 6 (g_30.2.1)) 7 (g_30.2.2))) 0) (fun g_32 eg_32 => ?_)
        rewrite [eg_32] at hw3
        try rewrite [eg_32]
        try dsimp only
        have hn3 : qB (u 0 1) (mX6_number (rset (rset u 8 (upd (upd (upd (u 8) ((4 * (u 0 5))).toNatClampNeg (mX6_letter u)) (((4 * (u 0 5)) + 1)).toNatClampNeg (g_20.1)) (((4 * (u 0 5)) + 2)).toNatClampNeg (g_30.1))) 0 (upd (upd (u 0) 6 (g_32.1)) 7 (g_32.2)))).2.1 (mX6_number (rset (rset u 8 (upd (upd (upd (u 8) ((4 * (u 0 5))).toNatClampNeg (mX6_letter u)) (((4 * (u 0 5)) + 1)).toNatClampNeg (g_20.1)) (((4 * (u 0 5)) + 2)).toNatClampNeg (g_30.1))) 0 (upd (upd (u 0) 6 (g_32.1)) 7 (g_32.2)))).2.2 (2 * m0 + 1) := (number_q (u := (rset (rset u 8 (upd (upd (upd (u 8) ((4 * (u 0 5))).toNatClampNeg (mX6_letter u)) (((4 * (u 0 5)) + 1)).toNatClampNeg (g_20.1)) (((4 * (u 0 5)) + 2)).toNatClampNeg (g_30.1))) 0 (upd (upd (u 0) 6 (g_32.1)) 7 (g_32.2)))) hw3).weak (by omega)
        refine kGen (mX6_number (rset (rset u 8 (upd (upd (upd (u 8) ((4 * (u 0 5))).toNatClampNeg (mX6_letter u)) (((4 * (u 0 5)) + 1)).toNatClampNeg (g_20.1)) (((4 * (u 0 5)) + 2)).toNatClampNeg (g_30.1))) 0 (upd (upd (u 0) 6 (g_32.1)) 7 (g_32.2)))) (fun g_33 eg_33 => ?_)
        rewrite [eg_33] at hn3
        try rewrite [eg_33]
        try dsimp only
        exact Eq.refl _
    · rewrite [if_neg k_11]
      have hw2 : qB (u 0 1) (mX6_wants (rset (rset u 8 (upd (upd (u 8) ((4 * (u 0 5))).toNatClampNeg (mX6_letter u)) (((4 * (u 0 5)) + 1)).toNatClampNeg (g_20.1))) 0 (upd (upd (u 0) 6 (g_20.2.1)) 7 (g_20.2.2))) 0).1 (mX6_wants (rset (rset u 8 (upd (upd (u 8) ((4 * (u 0 5))).toNatClampNeg (mX6_letter u)) (((4 * (u 0 5)) + 1)).toNatClampNeg (g_20.1))) 0 (upd (upd (u 0) 6 (g_20.2.1)) 7 (g_20.2.2))) 0).2 (2 * m0 + 1) := (wants_q (u := (rset (rset u 8 (upd (upd (u 8) ((4 * (u 0 5))).toNatClampNeg (mX6_letter u)) (((4 * (u 0 5)) + 1)).toNatClampNeg (g_20.1))) 0 (upd (upd (u 0) 6 (g_20.2.1)) 7 (g_20.2.2)))) hn1 (fun c => by first | exact absurd rfl c | exact letter_lt (u := (rset (rset u 8 (upd (upd (u 8) ((4 * (u 0 5))).toNatClampNeg (mX6_letter u)) (((4 * (u 0 5)) + 1)).toNatClampNeg (g_20.1))) 0 (upd (upd (u 0) 6 (g_20.2.1)) 7 (g_20.2.2)))) hn1 (lne (k := 46) (by assumption) (by decide)))).weak (by omega)
      refine kGen (mX6_wants (rset (rset u 8 (upd (upd (u 8) ((4 * (u 0 5))).toNatClampNeg (mX6_letter u)) (((4 * (u 0 5)) + 1)).toNatClampNeg (g_20.1))) 0 (upd (upd (u 0) 6 (g_20.2.1)) 7 (g_20.2.2))) 0) (fun g_22 eg_22 => ?_)
      rewrite [eg_22] at hw2
      try rewrite [eg_22]
      try dsimp only
      have hn2 : qB (u 0 1) (mX6_number (rset (rset u 8 (upd (upd (u 8) ((4 * (u 0 5))).toNatClampNeg (mX6_letter u)) (((4 * (u 0 5)) + 1)).toNatClampNeg (g_20.1))) 0 (upd (upd (u 0) 6 (g_22.1)) 7 (g_22.2)))).2.1 (mX6_number (rset (rset u 8 (upd (upd (u 8) ((4 * (u 0 5))).toNatClampNeg (mX6_letter u)) (((4 * (u 0 5)) + 1)).toNatClampNeg (g_20.1))) 0 (upd (upd (u 0) 6 (g_22.1)) 7 (g_22.2)))).2.2 (2 * m0 + 1) := (number_q (u := (rset (rset u 8 (upd (upd (u 8) ((4 * (u 0 5))).toNatClampNeg (mX6_letter u)) (((4 * (u 0 5)) + 1)).toNatClampNeg (g_20.1))) 0 (upd (upd (u 0) 6 (g_22.1)) 7 (g_22.2)))) hw2).weak (by omega)
      refine kGen (mX6_number (rset (rset u 8 (upd (upd (u 8) ((4 * (u 0 5))).toNatClampNeg (mX6_letter u)) (((4 * (u 0 5)) + 1)).toNatClampNeg (g_20.1))) 0 (upd (upd (u 0) 6 (g_22.1)) 7 (g_22.2)))) (fun g_23 eg_23 => ?_)
      rewrite [eg_23] at hn2
      try rewrite [eg_23]
      try dsimp only
      by_cases k_13 : (mX6_letter (rset (rset u 8 (upd (upd (upd (u 8) ((4 * (u 0 5))).toNatClampNeg (mX6_letter u)) (((4 * (u 0 5)) + 1)).toNatClampNeg (g_20.1)) (((4 * (u 0 5)) + 2)).toNatClampNeg (g_23.1))) 0 (upd (upd (u 0) 6 (g_23.2.1)) 7 (g_23.2.2)))) = 61
      · rewrite [if_pos k_13]
        have hw3 : qB (u 0 1) (mX6_wants (rset (rset u 8 (upd (upd (upd (u 8) ((4 * (u 0 5))).toNatClampNeg (mX6_letter u)) (((4 * (u 0 5)) + 1)).toNatClampNeg (g_20.1)) (((4 * (u 0 5)) + 2)).toNatClampNeg (g_23.1))) 0 (upd (upd (u 0) 6 (g_23.2.1)) 7 (g_23.2.2))) 1).1 (mX6_wants (rset (rset u 8 (upd (upd (upd (u 8) ((4 * (u 0 5))).toNatClampNeg (mX6_letter u)) (((4 * (u 0 5)) + 1)).toNatClampNeg (g_20.1)) (((4 * (u 0 5)) + 2)).toNatClampNeg (g_23.1))) 0 (upd (upd (u 0) 6 (g_23.2.1)) 7 (g_23.2.2))) 1).2 (2 * m0 + 1) := (wants_q (u := (rset (rset u 8 (upd (upd (upd (u 8) ((4 * (u 0 5))).toNatClampNeg (mX6_letter u)) (((4 * (u 0 5)) + 1)).toNatClampNeg (g_20.1)) (((4 * (u 0 5)) + 2)).toNatClampNeg (g_23.1))) 0 (upd (upd (u 0) 6 (g_23.2.1)) 7 (g_23.2.2)))) hn2 (fun c => by first | exact absurd rfl c | exact letter_lt (u := (rset (rset u 8 (upd (upd (upd (u 8) ((4 * (u 0 5))).toNatClampNeg (mX6_letter u)) (((4 * (u 0 5)) + 1)).toNatClampNeg (g_20.1)) (((4 * (u 0 5)) + 2)).toNatClampNeg (g_23.1))) 0 (upd (upd (u 0) 6 (g_23.2.1)) 7 (g_23.2.2)))) hn2 (lne (k := 61) (by assumption) (by decide)))).weak (by omega)
        refine kGen (mX6_wants (rset (rset u 8 (upd (upd (upd (u 8) ((4 * (u 0 5))).toNatClampNeg (mX6_letter u)) (((4 * (u 0 5)) + 1)).toNatClampNeg (g_20.1)) (((4 * (u 0 5)) + 2)).toNatClampNeg (g_23.1))) 0 (upd (upd (u 0) 6 (g_23.2.1)) 7 (g_23.2.2))) 1) (fun g_27 eg_27 => ?_)
        rewrite [eg_27] at hw3
        try rewrite [eg_27]
        try dsimp only
        have hn3 : qB (u 0 1) (mX6_number (rset (rset u 8 (upd (upd (upd (u 8) ((4 * (u 0 5))).toNatClampNeg (mX6_letter u)) (((4 * (u 0 5)) + 1)).toNatClampNeg (g_20.1)) (((4 * (u 0 5)) + 2)).toNatClampNeg (g_23.1))) 0 (upd (upd (u 0) 6 (g_27.1)) 7 (g_27.2)))).2.1 (mX6_number (rset (rset u 8 (upd (upd (upd (u 8) ((4 * (u 0 5))).toNatClampNeg (mX6_letter u)) (((4 * (u 0 5)) + 1)).toNatClampNeg (g_20.1)) (((4 * (u 0 5)) + 2)).toNatClampNeg (g_23.1))) 0 (upd (upd (u 0) 6 (g_27.1)) 7 (g_27.2)))).2.2 (2 * m0 + 1) := (number_q (u := (rset (rset u 8 (upd (upd (upd (u 8) ((4 * (u 0 5))).toNatClampNeg (mX6_letter u)) (((4 * (u 0 5)) + 1)).toNatClampNeg (g_20.1)) (((4 * (u 0 5)) + 2)).toNatClampNeg (g_23.1))) 0 (upd (upd (u 0) 6 (g_27.1)) 7 (g_27.2)))) hw3).weak (by omega)
        refine kGen (mX6_number (rset (rset u 8 (upd (upd (upd (u 8) ((4 * (u 0 5))).toNatClampNeg (mX6_letter u)) (((4 * (u 0 5)) + 1)).toNatClampNeg (g_20.1)) (((4 * (u 0 5)) + 2)).toNatClampNeg (g_23.1))) 0 (upd (upd (u 0) 6 (g_27.1)) 7 (g_27.2)))) (fun g_28 eg_28 => ?_)
        rewrite [eg_28] at hn3
        try rewrite [eg_28]
        try dsimp only
        exact Eq.refl _
      · rewrite [if_neg k_13]
        have hw3 : qB (u 0 1) (mX6_wants (rset (rset u 8 (upd (upd (upd (u 8) ((4 * (u 0 5))).toNatClampNeg (mX6_letter u)) (((4 * (u 0 5)) + 1)).toNatClampNeg (g_20.1)) (((4 * (u 0 5)) + 2)).toNatClampNeg (g_23.1))) 0 (upd (upd (u 0) 6 (g_23.2.1)) 7 (g_23.2.2))) 0).1 (mX6_wants (rset (rset u 8 (upd (upd (upd (u 8) ((4 * (u 0 5))).toNatClampNeg (mX6_letter u)) (((4 * (u 0 5)) + 1)).toNatClampNeg (g_20.1)) (((4 * (u 0 5)) + 2)).toNatClampNeg (g_23.1))) 0 (upd (upd (u 0) 6 (g_23.2.1)) 7 (g_23.2.2))) 0).2 (2 * m0 + 1) := (wants_q (u := (rset (rset u 8 (upd (upd (upd (u 8) ((4 * (u 0 5))).toNatClampNeg (mX6_letter u)) (((4 * (u 0 5)) + 1)).toNatClampNeg (g_20.1)) (((4 * (u 0 5)) + 2)).toNatClampNeg (g_23.1))) 0 (upd (upd (u 0) 6 (g_23.2.1)) 7 (g_23.2.2)))) hn2 (fun c => by first | exact absurd rfl c | exact letter_lt (u := (rset (rset u 8 (upd (upd (upd (u 8) ((4 * (u 0 5))).toNatClampNeg (mX6_letter u)) (((4 * (u 0 5)) + 1)).toNatClampNeg (g_20.1)) (((4 * (u 0 5)) + 2)).toNatClampNeg (g_23.1))) 0 (upd (upd (u 0) 6 (g_23.2.1)) 7 (g_23.2.2)))) hn2 (lne (k := 61) (by assumption) (by decide)))).weak (by omega)
        refine kGen (mX6_wants (rset (rset u 8 (upd (upd (upd (u 8) ((4 * (u 0 5))).toNatClampNeg (mX6_letter u)) (((4 * (u 0 5)) + 1)).toNatClampNeg (g_20.1)) (((4 * (u 0 5)) + 2)).toNatClampNeg (g_23.1))) 0 (upd (upd (u 0) 6 (g_23.2.1)) 7 (g_23.2.2))) 0) (fun g_25 eg_25 => ?_)
        rewrite [eg_25] at hw3
        try rewrite [eg_25]
        try dsimp only
        have hn3 : qB (u 0 1) (mX6_number (rset (rset u 8 (upd (upd (upd (u 8) ((4 * (u 0 5))).toNatClampNeg (mX6_letter u)) (((4 * (u 0 5)) + 1)).toNatClampNeg (g_20.1)) (((4 * (u 0 5)) + 2)).toNatClampNeg (g_23.1))) 0 (upd (upd (u 0) 6 (g_25.1)) 7 (g_25.2)))).2.1 (mX6_number (rset (rset u 8 (upd (upd (upd (u 8) ((4 * (u 0 5))).toNatClampNeg (mX6_letter u)) (((4 * (u 0 5)) + 1)).toNatClampNeg (g_20.1)) (((4 * (u 0 5)) + 2)).toNatClampNeg (g_23.1))) 0 (upd (upd (u 0) 6 (g_25.1)) 7 (g_25.2)))).2.2 (2 * m0 + 1) := (number_q (u := (rset (rset u 8 (upd (upd (upd (u 8) ((4 * (u 0 5))).toNatClampNeg (mX6_letter u)) (((4 * (u 0 5)) + 1)).toNatClampNeg (g_20.1)) (((4 * (u 0 5)) + 2)).toNatClampNeg (g_23.1))) 0 (upd (upd (u 0) 6 (g_25.1)) 7 (g_25.2)))) hw3).weak (by omega)
        refine kGen (mX6_number (rset (rset u 8 (upd (upd (upd (u 8) ((4 * (u 0 5))).toNatClampNeg (mX6_letter u)) (((4 * (u 0 5)) + 1)).toNatClampNeg (g_20.1)) (((4 * (u 0 5)) + 2)).toNatClampNeg (g_23.1))) 0 (upd (upd (u 0) 6 (g_25.1)) 7 (g_25.2)))) (fun g_26 eg_26 => ?_)
        rewrite [eg_26] at hn3
        try rewrite [eg_26]
        try dsimp only
        exact Eq.refl _
  · rewrite [if_neg k_10]
    by_cases k_14 : (mX6_letter u) = 114
    · rewrite [if_pos k_14]
      have hw1 : qB (u 0 1) (mX6_wants u 1).1 (mX6_wants u 1).2 (2 * m0 + 1) := (wants_q (u := u) hq (fun c => by first | exact absurd rfl c | exact letter_lt (u := u) hq (lne (k := 119) (by assumption) (by decide)) | exact letter_lt (u := u) hq (lne (k := 114) (by assumption) (by decide)) | exact letter_lt (u := u) hq (lne (k := 99) (by assumption) (by decide)) | exact letter_lt (u := u) hq (lne (k := 120) (by assumption) (by decide)) | exact letter_lt (u := u) hq (lne (k := 98) (by assumption) (by decide)))).weak (by omega)
      refine kGen (mX6_wants u 1) (fun g_3 eg_3 => ?_)
      rewrite [eg_3] at hw1
      try rewrite [eg_3]
      try dsimp only
      have hn1 : qB (u 0 1) (mX6_number (rset (rset u 8 (upd (u 8) ((4 * (u 0 5))).toNatClampNeg (mX6_letter u))) 0 (upd (upd (u 0) 6 (g_3.1)) 7 (g_3.2)))).2.1 (mX6_number (rset (rset u 8 (upd (u 8) ((4 * (u 0 5))).toNatClampNeg (mX6_letter u))) 0 (upd (upd (u 0) 6 (g_3.1)) 7 (g_3.2)))).2.2 (2 * m0 + 1) := (number_q (u := (rset (rset u 8 (upd (u 8) ((4 * (u 0 5))).toNatClampNeg (mX6_letter u))) 0 (upd (upd (u 0) 6 (g_3.1)) 7 (g_3.2)))) hw1).weak (by omega)
      refine kGen (mX6_number (rset (rset u 8 (upd (u 8) ((4 * (u 0 5))).toNatClampNeg (mX6_letter u))) 0 (upd (upd (u 0) 6 (g_3.1)) 7 (g_3.2)))) (fun g_4 eg_4 => ?_)
      rewrite [eg_4] at hn1
      try rewrite [eg_4]
      try dsimp only
      by_cases k_15 : (mX6_letter (rset (rset u 8 (upd (upd (u 8) ((4 * (u 0 5))).toNatClampNeg (mX6_letter u)) (((4 * (u 0 5)) + 1)).toNatClampNeg (g_4.1))) 0 (upd (upd (u 0) 6 (g_4.2.1)) 7 (g_4.2.2)))) = 46
      · rewrite [if_pos k_15]
        have hw2 : qB (u 0 1) (mX6_wants (rset (rset u 8 (upd (upd (u 8) ((4 * (u 0 5))).toNatClampNeg (mX6_letter u)) (((4 * (u 0 5)) + 1)).toNatClampNeg (g_4.1))) 0 (upd (upd (u 0) 6 (g_4.2.1)) 7 (g_4.2.2))) 1).1 (mX6_wants (rset (rset u 8 (upd (upd (u 8) ((4 * (u 0 5))).toNatClampNeg (mX6_letter u)) (((4 * (u 0 5)) + 1)).toNatClampNeg (g_4.1))) 0 (upd (upd (u 0) 6 (g_4.2.1)) 7 (g_4.2.2))) 1).2 (2 * m0 + 1) := (wants_q (u := (rset (rset u 8 (upd (upd (u 8) ((4 * (u 0 5))).toNatClampNeg (mX6_letter u)) (((4 * (u 0 5)) + 1)).toNatClampNeg (g_4.1))) 0 (upd (upd (u 0) 6 (g_4.2.1)) 7 (g_4.2.2)))) hn1 (fun c => by first | exact absurd rfl c | exact letter_lt (u := (rset (rset u 8 (upd (upd (u 8) ((4 * (u 0 5))).toNatClampNeg (mX6_letter u)) (((4 * (u 0 5)) + 1)).toNatClampNeg (g_4.1))) 0 (upd (upd (u 0) 6 (g_4.2.1)) 7 (g_4.2.2)))) hn1 (lne (k := 46) (by assumption) (by decide)))).weak (by omega)
        refine kGen (mX6_wants (rset (rset u 8 (upd (upd (u 8) ((4 * (u 0 5))).toNatClampNeg (mX6_letter u)) (((4 * (u 0 5)) + 1)).toNatClampNeg (g_4.1))) 0 (upd (upd (u 0) 6 (g_4.2.1)) 7 (g_4.2.2))) 1) (fun g_8 eg_8 => ?_)
        rewrite [eg_8] at hw2
        try rewrite [eg_8]
        try dsimp only
        have hn2 : qB (u 0 1) (mX6_number (rset (rset u 8 (upd (upd (u 8) ((4 * (u 0 5))).toNatClampNeg (mX6_letter u)) (((4 * (u 0 5)) + 1)).toNatClampNeg (g_4.1))) 0 (upd (upd (u 0) 6 (g_8.1)) 7 (g_8.2)))).2.1 (mX6_number (rset (rset u 8 (upd (upd (u 8) ((4 * (u 0 5))).toNatClampNeg (mX6_letter u)) (((4 * (u 0 5)) + 1)).toNatClampNeg (g_4.1))) 0 (upd (upd (u 0) 6 (g_8.1)) 7 (g_8.2)))).2.2 (2 * m0 + 1) := (number_q (u := (rset (rset u 8 (upd (upd (u 8) ((4 * (u 0 5))).toNatClampNeg (mX6_letter u)) (((4 * (u 0 5)) + 1)).toNatClampNeg (g_4.1))) 0 (upd (upd (u 0) 6 (g_8.1)) 7 (g_8.2)))) hw2).weak (by omega)
        refine kGen (mX6_number (rset (rset u 8 (upd (upd (u 8) ((4 * (u 0 5))).toNatClampNeg (mX6_letter u)) (((4 * (u 0 5)) + 1)).toNatClampNeg (g_4.1))) 0 (upd (upd (u 0) 6 (g_8.1)) 7 (g_8.2)))) (fun g_9 eg_9 => ?_)
        rewrite [eg_9] at hn2
        try rewrite [eg_9]
        try dsimp only
        exact Eq.refl _
      · rewrite [if_neg k_15]
        have hw2 : qB (u 0 1) (mX6_wants (rset (rset u 8 (upd (upd (u 8) ((4 * (u 0 5))).toNatClampNeg (mX6_letter u)) (((4 * (u 0 5)) + 1)).toNatClampNeg (g_4.1))) 0 (upd (upd (u 0) 6 (g_4.2.1)) 7 (g_4.2.2))) 0).1 (mX6_wants (rset (rset u 8 (upd (upd (u 8) ((4 * (u 0 5))).toNatClampNeg (mX6_letter u)) (((4 * (u 0 5)) + 1)).toNatClampNeg (g_4.1))) 0 (upd (upd (u 0) 6 (g_4.2.1)) 7 (g_4.2.2))) 0).2 (2 * m0 + 1) := (wants_q (u := (rset (rset u 8 (upd (upd (u 8) ((4 * (u 0 5))).toNatClampNeg (mX6_letter u)) (((4 * (u 0 5)) + 1)).toNatClampNeg (g_4.1))) 0 (upd (upd (u 0) 6 (g_4.2.1)) 7 (g_4.2.2)))) hn1 (fun c => by first | exact absurd rfl c | exact letter_lt (u := (rset (rset u 8 (upd (upd (u 8) ((4 * (u 0 5))).toNatClampNeg (mX6_letter u)) (((4 * (u 0 5)) + 1)).toNatClampNeg (g_4.1))) 0 (upd (upd (u 0) 6 (g_4.2.1)) 7 (g_4.2.2)))) hn1 (lne (k := 46) (by assumption) (by decide)))).weak (by omega)
        refine kGen (mX6_wants (rset (rset u 8 (upd (upd (u 8) ((4 * (u 0 5))).toNatClampNeg (mX6_letter u)) (((4 * (u 0 5)) + 1)).toNatClampNeg (g_4.1))) 0 (upd (upd (u 0) 6 (g_4.2.1)) 7 (g_4.2.2))) 0) (fun g_6 eg_6 => ?_)
        rewrite [eg_6] at hw2
        try rewrite [eg_6]
        try dsimp only
        have hn2 : qB (u 0 1) (mX6_number (rset (rset u 8 (upd (upd (u 8) ((4 * (u 0 5))).toNatClampNeg (mX6_letter u)) (((4 * (u 0 5)) + 1)).toNatClampNeg (g_4.1))) 0 (upd (upd (u 0) 6 (g_6.1)) 7 (g_6.2)))).2.1 (mX6_number (rset (rset u 8 (upd (upd (u 8) ((4 * (u 0 5))).toNatClampNeg (mX6_letter u)) (((4 * (u 0 5)) + 1)).toNatClampNeg (g_4.1))) 0 (upd (upd (u 0) 6 (g_6.1)) 7 (g_6.2)))).2.2 (2 * m0 + 1) := (number_q (u := (rset (rset u 8 (upd (upd (u 8) ((4 * (u 0 5))).toNatClampNeg (mX6_letter u)) (((4 * (u 0 5)) + 1)).toNatClampNeg (g_4.1))) 0 (upd (upd (u 0) 6 (g_6.1)) 7 (g_6.2)))) hw2).weak (by omega)
        refine kGen (mX6_number (rset (rset u 8 (upd (upd (u 8) ((4 * (u 0 5))).toNatClampNeg (mX6_letter u)) (((4 * (u 0 5)) + 1)).toNatClampNeg (g_4.1))) 0 (upd (upd (u 0) 6 (g_6.1)) 7 (g_6.2)))) (fun g_7 eg_7 => ?_)
        rewrite [eg_7] at hn2
        try rewrite [eg_7]
        try dsimp only
        exact Eq.refl _
    · rewrite [if_neg k_14]
      by_cases k_16 : (mX6_letter u) = 99
      · rewrite [if_pos k_16]
        have hw1 : qB (u 0 1) (mX6_wants u 1).1 (mX6_wants u 1).2 (2 * m0 + 1) := (wants_q (u := u) hq (fun c => by first | exact absurd rfl c | exact letter_lt (u := u) hq (lne (k := 119) (by assumption) (by decide)) | exact letter_lt (u := u) hq (lne (k := 114) (by assumption) (by decide)) | exact letter_lt (u := u) hq (lne (k := 99) (by assumption) (by decide)) | exact letter_lt (u := u) hq (lne (k := 120) (by assumption) (by decide)) | exact letter_lt (u := u) hq (lne (k := 98) (by assumption) (by decide)))).weak (by omega)
        refine kGen (mX6_wants u 1) (fun g_11 eg_11 => ?_)
        rewrite [eg_11] at hw1
        try rewrite [eg_11]
        try dsimp only
        have hn1 : qB (u 0 1) (mX6_number (rset (rset u 8 (upd (u 8) ((4 * (u 0 5))).toNatClampNeg (mX6_letter u))) 0 (upd (upd (u 0) 6 (g_11.1)) 7 (g_11.2)))).2.1 (mX6_number (rset (rset u 8 (upd (u 8) ((4 * (u 0 5))).toNatClampNeg (mX6_letter u))) 0 (upd (upd (u 0) 6 (g_11.1)) 7 (g_11.2)))).2.2 (2 * m0 + 1) := (number_q (u := (rset (rset u 8 (upd (u 8) ((4 * (u 0 5))).toNatClampNeg (mX6_letter u))) 0 (upd (upd (u 0) 6 (g_11.1)) 7 (g_11.2)))) hw1).weak (by omega)
        refine kGen (mX6_number (rset (rset u 8 (upd (u 8) ((4 * (u 0 5))).toNatClampNeg (mX6_letter u))) 0 (upd (upd (u 0) 6 (g_11.1)) 7 (g_11.2)))) (fun g_12 eg_12 => ?_)
        rewrite [eg_12] at hn1
        try rewrite [eg_12]
        try dsimp only
        exact Eq.refl _
      · rewrite [if_neg k_16]
        by_cases k_17 : (mX6_letter u) = 120
        · rewrite [if_pos k_17]
          have hw1 : qB (u 0 1) (mX6_wants u 1).1 (mX6_wants u 1).2 (2 * m0 + 1) := (wants_q (u := u) hq (fun c => by first | exact absurd rfl c | exact letter_lt (u := u) hq (lne (k := 119) (by assumption) (by decide)) | exact letter_lt (u := u) hq (lne (k := 114) (by assumption) (by decide)) | exact letter_lt (u := u) hq (lne (k := 99) (by assumption) (by decide)) | exact letter_lt (u := u) hq (lne (k := 120) (by assumption) (by decide)) | exact letter_lt (u := u) hq (lne (k := 98) (by assumption) (by decide)))).weak (by omega)
          refine kGen (mX6_wants u 1) (fun g_17 eg_17 => ?_)
          rewrite [eg_17] at hw1
          try rewrite [eg_17]
          try dsimp only
          have hn1 : qB (u 0 1) (mX6_number (rset (rset u 8 (upd (u 8) ((4 * (u 0 5))).toNatClampNeg (mX6_letter u))) 0 (upd (upd (u 0) 6 (g_17.1)) 7 (g_17.2)))).2.1 (mX6_number (rset (rset u 8 (upd (u 8) ((4 * (u 0 5))).toNatClampNeg (mX6_letter u))) 0 (upd (upd (u 0) 6 (g_17.1)) 7 (g_17.2)))).2.2 (2 * m0 + 1) := (number_q (u := (rset (rset u 8 (upd (u 8) ((4 * (u 0 5))).toNatClampNeg (mX6_letter u))) 0 (upd (upd (u 0) 6 (g_17.1)) 7 (g_17.2)))) hw1).weak (by omega)
          refine kGen (mX6_number (rset (rset u 8 (upd (u 8) ((4 * (u 0 5))).toNatClampNeg (mX6_letter u))) 0 (upd (upd (u 0) 6 (g_17.1)) 7 (g_17.2)))) (fun g_18 eg_18 => ?_)
          rewrite [eg_18] at hn1
          try rewrite [eg_18]
          try dsimp only
          exact Eq.refl _
        · rewrite [if_neg k_17]
          by_cases k_18 : (mX6_letter u) = 98
          · rewrite [if_pos k_18]
            have hw1 : qB (u 0 1) (mX6_wants u 1).1 (mX6_wants u 1).2 (2 * m0 + 1) := (wants_q (u := u) hq (fun c => by first | exact absurd rfl c | exact letter_lt (u := u) hq (lne (k := 119) (by assumption) (by decide)) | exact letter_lt (u := u) hq (lne (k := 114) (by assumption) (by decide)) | exact letter_lt (u := u) hq (lne (k := 99) (by assumption) (by decide)) | exact letter_lt (u := u) hq (lne (k := 120) (by assumption) (by decide)) | exact letter_lt (u := u) hq (lne (k := 98) (by assumption) (by decide)))).weak (by omega)
            refine kGen (mX6_wants u 1) (fun g_16 eg_16 => ?_)
            rewrite [eg_16] at hw1
            try rewrite [eg_16]
            try dsimp only
            exact Eq.refl _
          · rewrite [if_neg k_18]
            have hw1 : qB (u 0 1) (mX6_wants u 0).1 (mX6_wants u 0).2 (2 * m0 + 1) := (wants_q (u := u) hq (fun c => by first | exact absurd rfl c | exact letter_lt (u := u) hq (lne (k := 119) (by assumption) (by decide)) | exact letter_lt (u := u) hq (lne (k := 114) (by assumption) (by decide)) | exact letter_lt (u := u) hq (lne (k := 99) (by assumption) (by decide)) | exact letter_lt (u := u) hq (lne (k := 120) (by assumption) (by decide)) | exact letter_lt (u := u) hq (lne (k := 98) (by assumption) (by decide)))).weak (by omega)
            refine kGen (mX6_wants u 0) (fun g_15 eg_15 => ?_)
            rewrite [eg_15] at hw1
            try rewrite [eg_15]
            try dsimp only
            exact Eq.refl _
