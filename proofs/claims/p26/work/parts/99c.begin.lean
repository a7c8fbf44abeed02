set_option maxHeartbeats 4000000 in
set_option maxRecDepth 100000 in
theorem law_set {p : Program} {l : Launch} {e : Env} {s : State} {m : MethodId} {below : List Frame} {meth : Method} {c : Code} {b L : Nat} {xs : Nat → Int32} {E : kE} {ad ra : Nat → Nat} {qa : Nat} {Q : State → Prop} {n mm ρ i0 : Nat} {bb cc : Nat → Nat} {S : kS} {z w : Nat → Int32} {H : Heap} {locs : List Loc} {k : Nat} (C : LC p s m meth c b L xs E ad ra qa) (hI : LI s E ad ra qa n mm bb cc ρ S z w H locs) (k206 : ∀ (ls : Array Slot), lv_has ls 15 [(13, .int (nI n)), (12, .int (nI (kst (fun u => decide (S 0 1 u = 0)) n))), (9, .int (nI k)), (5, .int (nI i0)), (0, .ref b), (1, .ref (ad 80)), (2, .ref (ra 0)), (3, .ref qa), (4, .int (nI ρ))] → W p l e room_1 s m #[Value.ref b] below meth c H locs 92 2996 Q (F0 m 206 ls [])) : ∀ f i, i ≤ n → n < f + i → ∀ ls : Array Slot, lv_has ls 15 [(13, .int (nI i)), (12, .int (nI (kst (fun u => decide (S 0 1 u = 0)) i))), (9, .int (nI k)), (5, .int (nI i0)), (0, .ref b), (1, .ref (ad 80)), (2, .ref (ra 0)), (3, .ref qa), (4, .int (nI ρ))] → W p l e room_1 s m #[Value.ref b] below meth c H locs 92 2996 Q (F0 m 168 ls []) := by
  have C0 := C
  have hI0 := hI
  obtain ⟨hx, hb, hml, hown, hts, hX, hL, hbl, hK, hs, hA, hra, hqa, hap, hapq, hrq⟩ := C
  obtain ⟨hY, hR, hV, hS, hlt, hrl, hh, hQ⟩ := hI
  have hn12 := hQ.1.1
  have h2 := hQ.2.1
  have hI := hQ.2.2.1
  have hm30 := hI.2.1
  have hno : nOK (S 0 0 2) := ⟨n, hn12, h2⟩
  have hnr : nOK ((fun _ => z : kG) 0 49) := ⟨n, hn12, hQ.1.2.1⟩
  obtain ⟨_, _, _, h48, hB, hZ, hρ, hρ4, hW7, hF, hN, h0⟩ := id hQ
  intro f
  induction f with
  | zero => intro i h1 h3; omega
  | succ f ih =>
    intro i h1 h3 ls hl
    refine lv_iload hx hb dL_law_168 (lv_at hl 0 rfl) ?_
    refine lv_aload_n hx hb dL_law_170 rfl (lv_at hl 6 rfl) ?_
    refine lv_bipush (v := 49) hx hb dL_law_171 (by decide) ?_
    refine va_iald (D := E.1) hx hb hK.1 hR 0 0 rfl rfl (vp_in_nI (n := 49) (by decide) (by decide)) dL_law_173 ?_
    refine W.eq (g2 := F0 m 174 ls [.int (z 49), .int (nI i)]) rfl ?_
    refine W.eq (g2 := F0 m 174 ls [.int (nI n), .int (nI i)]) (by rw [show z 49 = nI n from hQ.1.2.1]) ?_
    refine lv_icmp_ge (tgt := 206) hx hb dL_law_174 (by decide) (fun c_1 => ?_) (fun c_1 => ?_)
    · have hin : i = n := by rw [nI_leI (by omega) (by omega)] at c_1; omega
      subst hin
      exact k206 ls hl
    · have hb_ : i < n := by rw [nI_leI (by omega) (by omega)] at c_1; omega
      refine lv_iload hx hb dL_law_177 (lv_at hl 1 rfl) ?_
      refine lv_aload_n hx hb dL_law_179 rfl (lv_at hl 6 rfl) ?_
      refine lv_bipush (v := 12) hx hb dL_law_180 (by decide) ?_
      refine lv_iload hx hb dL_law_182 (lv_at hl 0 rfl) ?_
      refine lv_iadd hx hb dL_law_184 ?_
      refine va_iald (D := E.1) hx hb hK.1 hR 0 0 rfl rfl (rIn 12 (by decide) (by first | assumption | exact tOK.nI (by omega))) dL_law_185 ?_
      refine W.eq (g2 := F0 m 186 ls [.int (z (12 + i)), .int (nI (kst (fun u => decide (S 0 1 u = 0)) i))]) (by rw [rA12 (t := i) (by omega)]) ?_
      refine lv_if_ne (tgt := 196) hx hb dL_law_186 (by decide) (fun c_2 => ?_) (fun c_2 => ?_)
      · have hz : ¬ S 0 1 i = 0 := by rw [← hQ.1.zero (r := fun _ => z) hb_]; exact c_2
        refine lv_iconst (v := 0) hx hb dL_law_196 (by decide) ?_
        refine lv_ior hx hb dL_law_197 ?_
        refine W.eq (g2 := F0 m 198 ls [.int (nI (kst (fun u => decide (S 0 1 u = 0)) (i + 1)))]) (by first | (rw [kst_on (by omega) (by simpa using hz)]) | (rw [Int32.or_zero, kst_off (by simpa using hz)])) ?_
        refine lv_istore (lv' := [(12, .int (nI (kst (fun u => decide (S 0 1 u = 0)) (i + 1)))), (13, .int (nI i)), (9, .int (nI k)), (5, .int (nI i0)), (0, .ref b), (1, .ref (ad 80)), (2, .ref (ra 0)), (3, .ref qa), (4, .int (nI ρ))]) hx hb dL_law_198 hl (by decide) rfl (fun ls hl => ?_)
        refine lv_iinc (v := (nI (i + 1))) (lv' := [(13, .int (nI (i + 1))), (12, .int (nI (kst (fun u => decide (S 0 1 u = 0)) (i + 1)))), (9, .int (nI k)), (5, .int (nI i0)), (0, .ref b), (1, .ref (ad 80)), (2, .ref (ra 0)), (3, .ref qa), (4, .int (nI ρ))]) hx hb dL_law_200 hl (k := 1) rfl (nI_1 i) (by decide) rfl (fun ls hl => ?_)
        refine lv_goto (tgt := 168) hx hb dL_law_203 (by decide) ?_
        exact ih (i + 1) (by omega) (by omega) ls (lv_sub hl [0, 1, 2, 3, 4, 5, 6, 7, 8] rfl)
      · have hz : S 0 1 i = 0 := by rw [← hQ.1.zero (r := fun _ => z) hb_]; exact c_2
        refine lv_iconst (v := 1) hx hb dL_law_189 (by decide) ?_
        refine lv_iload hx hb dL_law_190 (lv_at hl 0 rfl) ?_
        refine lv_ishl hx hb dL_law_192 ?_
        refine lv_goto (tgt := 197) hx hb dL_law_193 (by decide) ?_
        refine lv_ior hx hb dL_law_197 ?_
        refine W.eq (g2 := F0 m 198 ls [.int (nI (kst (fun u => decide (S 0 1 u = 0)) (i + 1)))]) (by first | (rw [kst_on (by omega) (by simpa using hz)]) | (rw [Int32.or_zero, kst_off (by simpa using hz)])) ?_
        refine lv_istore (lv' := [(12, .int (nI (kst (fun u => decide (S 0 1 u = 0)) (i + 1)))), (13, .int (nI i)), (9, .int (nI k)), (5, .int (nI i0)), (0, .ref b), (1, .ref (ad 80)), (2, .ref (ra 0)), (3, .ref qa), (4, .int (nI ρ))]) hx hb dL_law_198 hl (by decide) rfl (fun ls hl => ?_)
        refine lv_iinc (v := (nI (i + 1))) (lv' := [(13, .int (nI (i + 1))), (12, .int (nI (kst (fun u => decide (S 0 1 u = 0)) (i + 1)))), (9, .int (nI k)), (5, .int (nI i0)), (0, .ref b), (1, .ref (ad 80)), (2, .ref (ra 0)), (3, .ref qa), (4, .int (nI ρ))]) hx hb dL_law_200 hl (k := 1) rfl (nI_1 i) (by decide) rfl (fun ls hl => ?_)
        refine lv_goto (tgt := 168) hx hb dL_law_203 (by decide) ?_
        exact ih (i + 1) (by omega) (by omega) ls (lv_sub hl [0, 1, 2, 3, 4, 5, 6, 7, 8] rfl)
set_option maxHeartbeats 4000000 in
set_option maxRecDepth 100000 in
theorem law_A {p : Program} {l : Launch} {e : Env} {s : State} {m : MethodId} {below : List Frame} {meth : Method} {c : Code} {b L : Nat} {xs : Nat → Int32} {E : kE} {ad ra : Nat → Nat} {qa : Nat} {Q : State → Prop} {n mm ρ i0 : Nat} {bb cc : Nat → Nat} {S : kS} {z w : Nat → Int32} {H : Heap} {locs : List Loc} {ls : Array Slot} {k : Nat} (C : LC p s m meth c b L xs E ad ra qa) (hI : LI s E ad ra qa n mm bb cc ρ S z w H locs) (hmm : mm ≤ i0) (hi0 : i0 < 52) (hk : k < 5) (hn : n < 12) (hl : lv_has ls 15 [(9, .int (nI k)), (5, .int (nI i0)), (0, .ref b), (1, .ref (ad 80)), (2, .ref (ra 0)), (3, .ref qa), (4, .int (nI ρ))]) (kk : ∀ (n mm : Nat) (bb cc : Nat → Nat) (S : kS) (z w : Nat → Int32) (H : Heap) (locs : List Loc) (ls : Array Slot), mm ≤ i0 + 1 → LI s E ad ra qa n mm bb cc ρ S z w H locs → lv_has ls 15 [(5, .int (nI (i0 + 1))), (0, .ref b), (1, .ref (ad 80)), (2, .ref (ra 0)), (3, .ref qa), (4, .int (nI ρ))] → W p l e room_1 s m #[Value.ref b] below meth c H locs 92 2996 Q (F0 m 52 ls [])) : W p l e room_1 s m #[Value.ref b] below meth c H locs 92 2996 Q (F0 m 162 ls []) := by
  have C0 := C
  have hI0 := hI
  obtain ⟨hx, hb, hml, hown, hts, hX, hL, hbl, hK, hs, hA, hra, hqa, hap, hapq, hrq⟩ := C
  obtain ⟨hY, hR, hV, hS, hlt, hrl, hh, hQ⟩ := hI
  have hn12 := hQ.1.1
  have h2 := hQ.2.1
  have hI := hQ.2.2.1
  have hm30 := hI.2.1
  have hno : nOK (S 0 0 2) := ⟨n, hn12, h2⟩
  have hnr : nOK ((fun _ => z : kG) 0 49) := ⟨n, hn12, hQ.1.2.1⟩
  obtain ⟨_, _, _, h48, hB, hZ, hρ, hρ4, hW7, hF, hN, h0⟩ := id hQ
  refine lv_iconst (v := 0) hx hb dL_law_162 (by decide) ?_
  refine lv_istore (lv' := [(12, .int 0), (9, .int (nI k)), (5, .int (nI i0)), (0, .ref b), (1, .ref (ad 80)), (2, .ref (ra 0)), (3, .ref qa), (4, .int (nI ρ))]) hx hb dL_law_163 hl (by decide) rfl (fun ls hl => ?_)
  refine lv_iconst (v := 0) hx hb dL_law_165 (by decide) ?_
  refine lv_istore (lv' := [(13, .int 0), (12, .int 0), (9, .int (nI k)), (5, .int (nI i0)), (0, .ref b), (1, .ref (ad 80)), (2, .ref (ra 0)), (3, .ref qa), (4, .int (nI ρ))]) hx hb dL_law_166 hl (by decide) rfl (fun ls hl => ?_)
  refine law_set C0 hI0 (k := k) (fun ls hl => ?_) 13 0 (Nat.zero_le _) (by omega) ls (lv_sub hl [0, 1, 2, 3, 4, 5, 6, 7, 8] rfl)
  refine lv_aload_n hx hb dL_law_206 rfl (lv_at hl 6 rfl) ?_
  refine lv_bipush (v := 48) hx hb dL_law_207 (by decide) ?_
  refine lv_dup2_11 hx hb dL_law_209 rfl rfl ?_
  refine va_iald (D := E.1) hx hb hK.1 hR 0 0 rfl rfl (vp_in_nI (n := 48) (by decide) (by decide)) dL_law_210 ?_
  refine W.eq (g2 := F0 m 211 ls [.int (z 48), .int 48, .ref (ra 0)]) rfl ?_
  refine W.eq (g2 := F0 m 211 ls [.int (nI mm), .int 48, .ref (ra 0)]) (by rw [show z 48 = nI mm from h48]) ?_
  refine lv_iconst (v := 1) hx hb dL_law_211 (by decide) ?_
  refine lv_iadd hx hb dL_law_212 ?_
  refine W.eq (g2 := F0 m 213 ls [.int (nI (mm + 1)), .int 48, .ref (ra 0)]) (by rw [nI_1]) ?_
  refine kSto hx hb hK hR hra hS (vp_in_nI (n := 48) (by decide) (by decide)) dL_law_213 (fun H1 locs1 hN1 ho hS1 hz1 => ?_)
  have hY := hY.keptA (A := fun q => q = ra 0) hs (fun q _ h2 => ho q h2) (fun q hq (h : q = ra 0) => hap q hq ⟨0, by omega, h⟩)
  have hV := kP1 hV (ho _ (show qa ≠ ra 0 from Ne.symm hrq))
  have hR : va_P E.1 vwCl (wRx E ra (upd z 48 (nI (mm + 1)))) H1 := hN1
  have hS := hS1
  have hlt : ∀ x, kA ad 90 x → x < H1.size := fun x hx => by rw [hz1]; exact hlt x hx
  have hrl : ra 0 < H1.size := by rw [hz1]; exact hrl
  refine lv_aload_n hx hb dL_law_214 rfl (lv_at hl 6 rfl) ?_
  refine lv_bipush (v := 50) hx hb dL_law_215 (by decide) ?_
  refine lv_aload_n hx hb dL_law_217 rfl (lv_at hl 6 rfl) ?_
  refine lv_bipush (v := 49) hx hb dL_law_218 (by decide) ?_
  refine va_iald (D := E.1) hx hb hK.1 hR 0 0 rfl rfl (vp_in_nI (n := 49) (by decide) (by decide)) dL_law_220 ?_
  refine W.eq (g2 := F0 m 221 ls [.int ((upd z 48 (nI (mm + 1))) 49), .int 50, .ref (ra 0)]) rfl ?_
  refine W.eq (g2 := F0 m 221 ls [.int (nI n), .int 50, .ref (ra 0)]) (by rw [show (upd z 48 (nI (mm + 1))) 49 = nI n from (pk_un (by decide)).trans hQ.1.2.1]) ?_
  refine lv_iadd hx hb dL_law_221 ?_
  refine lv_iload hx hb dL_law_222 (lv_at hl 1 rfl) ?_
  refine kSto hx hb hK hR hra hS (rIn 50 (by decide) (by first | assumption | exact tOK.nI (by omega))) dL_law_224 (fun H1 locs1 hN1 ho hS1 hz1 => ?_)
  have hY := hY.keptA (A := fun q => q = ra 0) hs (fun q _ h2 => ho q h2) (fun q hq (h : q = ra 0) => hap q hq ⟨0, by omega, h⟩)
  have hV := kP1 hV (ho _ (show qa ≠ ra 0 from Ne.symm hrq))
  rw [rA50 (t := n) hn] at hN1
  have hR : va_P E.1 vwCl (wRx E ra (upd (upd z 48 (nI (mm + 1))) (50 + n) (nI (kst (fun u => decide (S 0 1 u = 0)) n)))) H1 := hN1
  have hS := hS1
  have hlt : ∀ x, kA ad 90 x → x < H1.size := fun x hx => by rw [hz1]; exact hlt x hx
  have hrl : ra 0 < H1.size := by rw [hz1]; exact hrl
  refine lv_aload_n hx hb dL_law_225 rfl (lv_at hl 6 rfl) ?_
  refine lv_aload_n hx hb dL_law_226 rfl (lv_at hl 6 rfl) ?_
  refine lv_bipush (v := 49) hx hb dL_law_227 (by decide) ?_
  refine va_iald (D := E.1) hx hb hK.1 hR 0 0 rfl rfl (vp_in_nI (n := 49) (by decide) (by decide)) dL_law_229 ?_
  refine W.eq (g2 := F0 m 230 ls [.int ((upd (upd z 48 (nI (mm + 1))) (50 + n) (nI (kst (fun u => decide (S 0 1 u = 0)) n))) 49), .ref (ra 0)]) rfl ?_
  refine W.eq (g2 := F0 m 230 ls [.int (nI n), .ref (ra 0)]) (by rw [show (upd (upd z 48 (nI (mm + 1))) (50 + n) (nI (kst (fun u => decide (S 0 1 u = 0)) n))) 49 = nI n from (pk_un (by omega)).trans ((pk_un (by decide)).trans hQ.1.2.1)]) ?_
  refine lv_aload_n hx hb dL_law_230 rfl (lv_at hl 6 rfl) ?_
  refine lv_bipush (v := 48) hx hb dL_law_231 (by decide) ?_
  refine va_iald (D := E.1) hx hb hK.1 hR 0 0 rfl rfl (vp_in_nI (n := 48) (by decide) (by decide)) dL_law_233 ?_
  refine W.eq (g2 := F0 m 234 ls [.int ((upd (upd z 48 (nI (mm + 1))) (50 + n) (nI (kst (fun u => decide (S 0 1 u = 0)) n))) 48), .int (nI n), .ref (ra 0)]) rfl ?_
  refine W.eq (g2 := F0 m 234 ls [.int (nI (mm + 1)), .int (nI n), .ref (ra 0)]) (by rw [show (upd (upd z 48 (nI (mm + 1))) (50 + n) (nI (kst (fun u => decide (S 0 1 u = 0)) n))) 48 = nI (mm + 1) from (pk_un (by omega)).trans pk_us]) ?_
  refine kSto hx hb hK hR hra hS (rIn0 (by first | assumption | exact tOK.nI (by omega))) dL_law_234 (fun H1 locs1 hN1 ho hS1 hz1 => ?_)
  have hY := hY.keptA (A := fun q => q = ra 0) hs (fun q _ h2 => ho q h2) (fun q hq (h : q = ra 0) => hap q hq ⟨0, by omega, h⟩)
  have hV := kP1 hV (ho _ (show qa ≠ ra 0 from Ne.symm hrq))
  rw [rA0 (t := n) hn] at hN1
  have hR : va_P E.1 vwCl (wRx E ra (upd (upd (upd z 48 (nI (mm + 1))) (50 + n) (nI (kst (fun u => decide (S 0 1 u = 0)) n))) n (nI (mm + 1)))) H1 := hN1
  have hS := hS1
  have hlt : ∀ x, kA ad 90 x → x < H1.size := fun x hx => by rw [hz1]; exact hlt x hx
  have hrl : ra 0 < H1.size := by rw [hz1]; exact hrl
  refine lv_aload_n hx hb dL_law_235 rfl (lv_at hl 6 rfl) ?_
  refine lv_bipush (v := 49) hx hb dL_law_236 (by decide) ?_
  refine lv_dup2_11 hx hb dL_law_238 rfl rfl ?_
  refine va_iald (D := E.1) hx hb hK.1 hR 0 0 rfl rfl (vp_in_nI (n := 49) (by decide) (by decide)) dL_law_239 ?_
  refine W.eq (g2 := F0 m 240 ls [.int ((upd (upd (upd z 48 (nI (mm + 1))) (50 + n) (nI (kst (fun u => decide (S 0 1 u = 0)) n))) n (nI (mm + 1))) 49), .int 49, .ref (ra 0)]) rfl ?_
  refine W.eq (g2 := F0 m 240 ls [.int (nI n), .int 49, .ref (ra 0)]) (by rw [show (upd (upd (upd z 48 (nI (mm + 1))) (50 + n) (nI (kst (fun u => decide (S 0 1 u = 0)) n))) n (nI (mm + 1))) 49 = nI n from (pk_un (by omega)).trans ((pk_un (by omega)).trans ((pk_un (by decide)).trans hQ.1.2.1))]) ?_
  refine lv_iconst (v := 1) hx hb dL_law_240 (by decide) ?_
  refine lv_iadd hx hb dL_law_241 ?_
  refine W.eq (g2 := F0 m 242 ls [.int (nI (n + 1)), .int 49, .ref (ra 0)]) (by rw [nI_1]) ?_
  refine kSto hx hb hK hR hra hS (vp_in_nI (n := 49) (by decide) (by decide)) dL_law_242 (fun H1 locs1 hN1 ho hS1 hz1 => ?_)
  have hY := hY.keptA (A := fun q => q = ra 0) hs (fun q _ h2 => ho q h2) (fun q hq (h : q = ra 0) => hap q hq ⟨0, by omega, h⟩)
  have hV := kP1 hV (ho _ (show qa ≠ ra 0 from Ne.symm hrq))
  have hR : va_P E.1 vwCl (wRx E ra (upd (upd (upd (upd z 48 (nI (mm + 1))) (50 + n) (nI (kst (fun u => decide (S 0 1 u = 0)) n))) n (nI (mm + 1))) 49 (nI (n + 1)))) H1 := hN1
  have hS := hS1
  have hlt : ∀ x, kA ad 90 x → x < H1.size := fun x hx => by rw [hz1]; exact hlt x hx
  have hrl : ra 0 < H1.size := by rw [hz1]; exact hrl
  refine lv_aload_n hx hb dL_law_243 rfl (lv_at hl 5 rfl) ?_
  refine kCallYi (va_runV (As := []) (rest := []) ⟨hx, hb, hml, hown, hts⟩ (c_X5_begin l E ad S hs (by assumption) (by assumption) _ rfl) (cwV 0 hts gL_law_X5_begin rfl rfl rfl (by decide +kernel) ⟨Nat.le_of_ble_eq_true rfl, Nat.le_of_ble_eq_true rfl⟩) (kPreYV hK hY.2.1 hY (q0 := 0) rfl rfl) rfl rfl hl.1 rfl (lv_room (Nat.le_of_ble_eq_true rfl)) dL_law_244 ⟨Nat.le_of_ble_eq_true rfl, Nat.le_of_ble_eq_true rfl⟩) hS (fun q h => hA q h) (fun H1 locs1 hY hsz hkp hS => ?_)
  have hR := kP_kept hR (dR (fun i j h1 h2 _ => by omega) _) (fun q z y => hap q y z) hkp
  have hV := kP_kept (A := fun q => q = qa) hV (kD1 rfl) (fun q (h : q = qa) y => hapq q y h) hkp
  have hlt : ∀ x, kA ad 90 x → x < H1.size := fun x hx => Nat.lt_of_lt_of_le (hlt x hx) hsz
  have hrl : ra 0 < H1.size := Nat.lt_of_lt_of_le hrl hsz
  have hAn := begin_A (S := S) hn h2 hh
  refine kGen (mX5_begin S) (fun g1 hg1 => ?_)
  rw [hg1] at hY hAn ⊢
  refine lv_aload_n hx hb dL_law_247 rfl (lv_at hl 6 rfl) ?_
  refine lv_bipush (v := 49) hx hb dL_law_248 (by decide) ?_
  refine va_iald (D := E.1) hx hb hK.1 hR 0 0 rfl rfl (vp_in_nI (n := 49) (by decide) (by decide)) dL_law_250 ?_
  refine W.eq (g2 := F0 m 251 ls [.int ((upd (upd (upd (upd z 48 (nI (mm + 1))) (50 + n) (nI (kst (fun u => decide (S 0 1 u = 0)) n))) n (nI (mm + 1))) 49 (nI (n + 1))) 49), .int (g1.1)]) rfl ?_
  refine W.eq (g2 := F0 m 251 ls [.int (nI (n + 1)), .int (g1.1)]) (by rw [show (upd (upd (upd (upd z 48 (nI (mm + 1))) (50 + n) (nI (kst (fun u => decide (S 0 1 u = 0)) n))) n (nI (mm + 1))) 49 (nI (n + 1))) 49 = nI (n + 1) from pk_us]) ?_
  refine lv_iconst (v := 1) hx hb dL_law_251 (by decide) ?_
  refine lv_isub hx hb dL_law_252 ?_
  refine W.eq (g2 := F0 m 253 ls [.int (nI n), .int (g1.1)]) (by rw [nI_pred]) ?_
  refine lv_icmp_ne (tgt := 260) hx hb dL_law_253 (by decide) (fun c => absurd hAn.1 c) (fun _ => ?_)
  refine lv_iconst (v := 1) hx hb dL_law_256 (by decide) ?_
  refine lv_goto (tgt := 261) hx hb dL_law_257 (by decide) ?_
  refine lv_istore (lv' := [(11, .int 1), (13, .int (nI n)), (12, .int (nI (kst (fun u => decide (S 0 1 u = 0)) n))), (9, .int (nI k)), (5, .int (nI i0)), (0, .ref b), (1, .ref (ad 80)), (2, .ref (ra 0)), (3, .ref qa), (4, .int (nI ρ))]) hx hb dL_law_261 hl (by decide) rfl (fun ls hl => ?_)
  refine lv_goto (tgt := 795) hx hb dL_law_263 (by decide) ?_
  exact law_tail C0 (n := (n + 1)) (mm := (mm + 1)) (bb := (upd' bb n (mm + 1))) (cc := cc) (S := (g1.2)) (z := (upd (upd (upd (upd z 48 (nI (mm + 1))) (50 + n) (nI (kst (fun u => decide (S 0 1 u = 0)) n))) n (nI (mm + 1))) 49 (nI (n + 1)))) (w := w) ⟨hY, hR, hV, hS, hlt, hrl, hAn.2.2.2.2.2.2.2.2.2.2.2, (hQ.begin (by omega) hn hAn.2.1 hAn.2.2.1 hAn.2.2.2.1 hAn.2.2.2.2.1 hAn.2.2.2.2.2.1 hAn.2.2.2.2.2.2.1 hAn.2.2.2.2.2.2.2.1 hAn.2.2.2.2.2.2.2.2.1 hAn.2.2.2.2.2.2.2.2.2.1 hAn.2.2.2.2.2.2.2.2.2.2.1 rfl)⟩ (by omega) hi0 hk (lv_sub hl [0, 3, 4, 5, 6, 7, 8, 9] rfl) kk
