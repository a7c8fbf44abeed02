/-! the system as it is made, and the reference -/
def adf (h0 sz : Nat) : Nat → Nat := fun x => if x < 8 then sz + x else if x < 24 then sz + 59 + x else if x < 80 then sz + x - 14 else if x = 80 then h0 else if x = 81 then sz + 66 else if x = 82 then sz + 83 else if x = 83 then sz + 8 else if x = 84 then sz + 9 else sz + x - 1
def kS0 : kS := fun j => if j < 10 then kZ1 else kZ0
section ST
variable {E : kE} {h0 sz : Nat} {H : Heap}
theorem adf_1 {x : Nat} (h : x < 8) : adf h0 sz x = sz + x := if_pos h
theorem adf_2 {x : Nat} (h : 8 ≤ x) (h2 : x < 24) : adf h0 sz x = sz + 59 + x := by unfold adf; rw [if_neg (by omega), if_pos h2]
theorem adf_3 {x : Nat} (h : 24 ≤ x) (h2 : x < 80) : adf h0 sz x = sz + x - 14 := by unfold adf; rw [if_neg (by omega), if_neg (by omega), if_pos h2]
theorem adf_4 {x : Nat} (h : 85 ≤ x) : adf h0 sz x = sz + x - 1 := by unfold adf; rw [if_neg (by omega), if_neg (by omega), if_neg (by omega), if_neg (by omega), if_neg (by omega), if_neg (by omega), if_neg (by omega), if_neg (by omega)]
theorem adf_sep (h : h0 < sz) : kSep (adf h0 sz) := by
  intro x y hx hy e
  have key : ∀ x, x < 90 → (x < 8 ∧ adf h0 sz x = sz + x) ∨ (8 ≤ x ∧ x < 24 ∧ adf h0 sz x = sz + 59 + x) ∨ (24 ≤ x ∧ x < 80 ∧ adf h0 sz x = sz + x - 14) ∨ (x = 80 ∧ adf h0 sz x = h0) ∨ (x = 81 ∧ adf h0 sz x = sz + 66) ∨ (x = 82 ∧ adf h0 sz x = sz + 83) ∨ (x = 83 ∧ adf h0 sz x = sz + 8) ∨ (x = 84 ∧ adf h0 sz x = sz + 9) ∨ (85 ≤ x ∧ adf h0 sz x = sz + x - 1) := by
    intro x hx
    rcases Nat.lt_or_ge x 8 with q | q
    · exact Or.inl ⟨q, adf_1 q⟩
    · rcases Nat.lt_or_ge x 24 with r | r
      · exact Or.inr (Or.inl ⟨q, r, adf_2 q r⟩)
      · rcases Nat.lt_or_ge x 80 with r2 | r2
        · exact Or.inr (Or.inr (Or.inl ⟨r, r2, adf_3 r r2⟩))
        · rcases (show x = 80 ∨ x = 81 ∨ x = 82 ∨ x = 83 ∨ x = 84 ∨ 85 ≤ x by omega) with rfl | rfl | rfl | rfl | rfl | z
          · exact Or.inr (Or.inr (Or.inr (Or.inl ⟨rfl, rfl⟩)))
          · exact Or.inr (Or.inr (Or.inr (Or.inr (Or.inl ⟨rfl, rfl⟩))))
          · exact Or.inr (Or.inr (Or.inr (Or.inr (Or.inr (Or.inl ⟨rfl, rfl⟩)))))
          · exact Or.inr (Or.inr (Or.inr (Or.inr (Or.inr (Or.inr (Or.inl ⟨rfl, rfl⟩))))))
          · exact Or.inr (Or.inr (Or.inr (Or.inr (Or.inr (Or.inr (Or.inr (Or.inl ⟨rfl, rfl⟩)))))))
          · exact Or.inr (Or.inr (Or.inr (Or.inr (Or.inr (Or.inr (Or.inr (Or.inr ⟨z, adf_4 z⟩)))))))
  have k1 := key x hx
  have k2 := key y hy
  omega
theorem adf_in {q : Nat} (h : kA (adf h0 sz) 90 q) : q = h0 ∨ (sz ≤ q ∧ q < sz + 89) := by
  obtain ⟨x, hx, e⟩ := h
  subst e
  rcases Nat.lt_or_ge x 8 with q | q
  · rw [adf_1 q]; omega
  · rcases Nat.lt_or_ge x 24 with r | r
    · rw [adf_2 q r]; omega
    · rcases Nat.lt_or_ge x 80 with r2 | r2
      · rw [adf_3 r r2]; omega
      · rcases (show x = 80 ∨ x = 81 ∨ x = 82 ∨ x = 83 ∨ x = 84 ∨ 85 ≤ x by omega) with rfl | rfl | rfl | rfl | rfl | z
        · exact Or.inl rfl
        · exact Or.inr (by show sz ≤ sz + 66 ∧ sz + 66 < sz + 89; omega)
        · exact Or.inr (by show sz ≤ sz + 83 ∧ sz + 83 < sz + 89; omega)
        · exact Or.inr (by show sz ≤ sz + 8 ∧ sz + 8 < sz + 89; omega)
        · exact Or.inr (by show sz ≤ sz + 9 ∧ sz + 9 < sz + 89; omega)
        · rw [adf_4 z]; omega
theorem wLed_cg {a a' : Nat → Nat} {v : kG} (h : ∀ i, i < 8 → a i = a' i) : wLed E a v = wLed E a' v := by
  show wLedx E a _ _ _ _ _ _ _ _ _ _ = wLedx E a' _ _ _ _ _ _ _ _ _ _
  unfold wLedx
  rw [h 0 (by omega), h 1 (by omega), h 2 (by omega), h 3 (by omega), h 4 (by omega), h 5 (by omega), h 6 (by omega), h 7 (by omega)]
theorem lA_at {z i : Nat} : lA z (z + 1) i = z + i := by
  unfold lA
  split
  · omega
  · omega
theorem Sys_of (h : PS E h0 sz H) : Sys E (adf h0 sz) kS0 H := by
  obtain ⟨hO, ⟨⟨⟨⟨⟨hL, hH1, hH2, hH3⟩, hS1, hS2⟩, hZ⟩, hPd⟩, hSq⟩⟩ := h
  refine ⟨fun j hj => ?_, ?_, ?_, ?_, ?_⟩
  · have e0 : kS0 j = kZ1 := if_pos hj
    rw [e0]
    rcases (show j = 0 ∨ (1 ≤ j ∧ j < 3) ∨ 3 ≤ j by omega) with rfl | ⟨h1, h2⟩ | h1
    · rw [wLed_cg (a := ga (adf h0 sz) (8 * 0)) (a' := lA (sz + 0) (sz + 0 + 1)) (fun i hi => by rw [lA_at]; show adf h0 sz (8 * 0 + i) = _; rw [adf_1 (by omega)]; omega)]
      exact hL
    · rw [wLed_cg (a := ga (adf h0 sz) (8 * j)) (a' := lA (sz + 66 + 1 + 8 * (j - 1)) (sz + 66 + 1 + 8 * (j - 1) + 1)) (fun i hi => by rw [lA_at]; show adf h0 sz (8 * j + i) = _; rw [adf_2 (by omega) (by omega)]; omega)]
      exact hS2 (j - 1) (by omega)
    · rw [wLed_cg (a := ga (adf h0 sz) (8 * j)) (a' := lA (sz + 9 + 1 + 8 * (j - 3)) (sz + 9 + 1 + 8 * (j - 3) + 1)) (fun i hi => by rw [lA_at]; show adf h0 sz (8 * j + i) = _; rw [adf_3 (by omega) (by omega)]; omega)]
      exact hH3 (j - 3) (by omega)
  · have h3 := kRows hS1 (g := fun i => some (adf h0 sz (8 * (1 + i)))) (fun i hi => by rw [adf_2 (by omega) (by omega)]; congr 1; omega)
    exact (hO.app h3).app hZ
  · have h3 := kRows hH2 (g := fun i => some (adf h0 sz (8 * (3 + i)))) (fun i hi => by rw [adf_3 (by omega) (by omega)]; congr 1; omega)
    exact hH1.app h3
  · exact hPd
  · exact hSq
end ST
