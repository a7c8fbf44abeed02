/-! the law's loop -/
set_option maxHeartbeats 4000000 in
theorem law_loop {p : Program} {l : Launch} {e : Env} {s : State} {m : MethodId} {below : List Frame} {meth : Method} {c : Code} {b L : Nat} {xs : Nat → Int32} {E : kE} {ad ra : Nat → Nat} {qa : Nat} {Q : State → Prop} {ρ : Nat} (C : LC p s m meth c b L xs E ad ra qa) (kend : ∀ (n mm : Nat) (bb cc : Nat → Nat) (S : kS) (z w : Nat → Int32) (H : Heap) (locs : List Loc) (ls : Array Slot), LI s E ad ra qa n mm bb cc ρ S z w H locs → lv_has ls 15 [(0, .ref b), (1, .ref (ad 80)), (2, .ref (ra 0)), (3, .ref qa), (4, .int (nI ρ))] → W p l e room_1 s m #[Value.ref b] below meth c H locs 92 2996 Q (F0 m 867 ls [])) : ∀ f i0, i0 ≤ 52 → 52 < f + i0 → ∀ (n mm : Nat) (bb cc : Nat → Nat) (S : kS) (z w : Nat → Int32) (H : Heap) (locs : List Loc) (ls : Array Slot), mm ≤ i0 → LI s E ad ra qa n mm bb cc ρ S z w H locs → lv_has ls 15 [(5, .int (nI i0)), (0, .ref b), (1, .ref (ad 80)), (2, .ref (ra 0)), (3, .ref qa), (4, .int (nI ρ))] → W p l e room_1 s m #[Value.ref b] below meth c H locs 92 2996 Q (F0 m 52 ls []) := by
  intro f
  induction f with
  | zero => intro i0 h1 h3; omega
  | succ f ih =>
    intro i0 h1 h3 n mm bb cc S z w H locs ls hmm hI hl
    have hx := C.1
    have hb := C.2.1
    refine lv_iload hx hb dL_law_52 (lv_at hl 0 rfl) ?_
    refine lv_bipush (v := 52) hx hb dL_law_54 (by decide) ?_
    rcases Nat.lt_or_ge i0 52 with g | g
    · refine lv_icmp_ge (tgt := 867) hx hb dL_law_56 (by decide) (fun c => absurd c (nI_ge (b := 52) g (by omega))) (fun _ => ?_)
      exact law_top C hI hmm g hl (fun n mm bb cc S z w H locs ls h4 h5 h6 => ih (i0 + 1) g (by omega) n mm bb cc S z w H locs ls h4 h5 h6)
    · refine lv_icmp_ge (tgt := 867) hx hb dL_law_56 (by decide) (fun _ => ?_) (fun c => absurd (nI_le (a := 52) g (by omega)) c)
      exact kend n mm bb cc S z w H locs ls hI (lv_sub hl [1, 2, 3, 4, 5] rfl)

