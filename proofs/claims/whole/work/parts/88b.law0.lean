/-! the law's cases, 0 -/
set_option maxHeartbeats 4000000 in
theorem law_begin {p : Program} {l : Launch} {e : Env} {s : State} {m : MethodId} {below : List Frame} {meth : Method} {c : Code} {b L : Nat} {xs : Nat → Int32} {E : kE} {ad bm : Nat → Nat} {Q : State → Prop} {B : Nat} {S : kS} {u : kG} {H : Heap} {locs : List Loc} {ls : Array Slot} {x3 : Int32} (C : LC p s m meth c b L xs E ad bm) (hI : LI s E ad bm B S u H locs) (hB : B + 41 < 2 ^ 30) (hl : lv_has ls 4 [(0, .ref b), (1, .ref (ad 80)), (2, .ref (bm 0)), (3, .int x3)]) (kk : ∀ (B' : Nat) (S' : kS) (u' : kG) (H' : Heap) (locs' : List Loc), B' ≤ B + 41 → LI s E ad bm B' S' u' H' locs' → W p l e room_1 s m #[Value.ref b] below meth c H' locs' 99 5671 Q (F0 m 729 ls [])) : W p l e room_1 s m #[Value.ref b] below meth c H locs 99 5671 Q (F0 m 163 ls []) := by
  obtain ⟨hx, hb, hml, hown, hts, hX, hbl, hK, hs, hj, hA1, hA2, hap⟩ := C
  obtain ⟨h, hY, hP, hS⟩ := hI
  have hbA : ¬ lFr s b := Nat.not_le.mpr hbl
  have hh := h.his
  have hn := (RV.nn h.1).1
  have hm := (RV.nn h.1).2
  have hpm := h.pm
  have hp := h.pl.1
  have hq := h.pl.2
  refine lv_aload_n hx hb dL_law_163 rfl (lv_at hl 1 rfl) ?_
  refine kCallYi (va_runV (As := []) (rest := []) ⟨hx, hb, hml, hown, hts⟩ (c_X5_begin l E ad S hs  hh hn _ rfl) (cwV 0 hts gL_law_X5_begin rfl rfl rfl (by decide +kernel) ⟨Nat.le_of_ble_eq_true rfl, Nat.le_of_ble_eq_true rfl⟩) (kPreYV hK hY.2.1 hY (q0 := 0) rfl rfl) rfl rfl hl.1 rfl (lv_room (Nat.le_of_ble_eq_true rfl)) dL_law_164 ⟨Nat.le_of_ble_eq_true rfl, Nat.le_of_ble_eq_true rfl⟩) hS hA1 (fun H locs hY _ hk hS => ?_)
  have hP := kMod hP hj hk hap
  refine lv_aload_n hx hb dL_law_167 rfl (lv_at hl 2 rfl) ?_
  refine kCallWi (va_runV (As := []) (rest := [.int (mX5_begin S ).1]) ⟨hx, hb, hml, hown, hts⟩ (c_X6_begin l E bm u hj  hm hpm _ rfl) (cwV 0 hts gL_law_X6_begin rfl rfl rfl (by decide +kernel) ⟨Nat.le_of_ble_eq_true rfl, Nat.le_of_ble_eq_true rfl⟩) (kPreV hK hP hP (q0 := 0) rfl rfl) rfl rfl hl.1 rfl (lv_room (Nat.le_of_ble_eq_true rfl)) dL_law_168 ⟨Nat.le_of_ble_eq_true rfl, Nat.le_of_ble_eq_true rfl⟩) hS hA2 (fun H locs hP _ hk hS => ?_)
  have hY := hY.keptM hs hk hap
  have hM := M_begin h (by omega)
  refine lv_icmp_eq (tgt := 729) hx hb dL_law_171 (by decide) (fun c1 => ?_) (fun c1 => ?_)
  · exact kk _ _ _ H locs (by omega) ⟨hM.2, hY, hP, hS⟩
  · exact absurd hM.1 c1
set_option maxHeartbeats 4000000 in
theorem law_read {p : Program} {l : Launch} {e : Env} {s : State} {m : MethodId} {below : List Frame} {meth : Method} {c : Code} {b L : Nat} {xs : Nat → Int32} {E : kE} {ad bm : Nat → Nat} {Q : State → Prop} {B : Nat} {S : kS} {u : kG} {H : Heap} {locs : List Loc} {ls : Array Slot} {x3 : Int32} (C : LC p s m meth c b L xs E ad bm) (hI : LI s E ad bm B S u H locs) (hB : B + 41 < 2 ^ 30) (hl : lv_has ls 4 [(0, .ref b), (1, .ref (ad 80)), (2, .ref (bm 0)), (3, .int x3)]) (hi1 : vp_in (x3 + 1) L) (hi2 : vp_in (x3 + 2) L) (kk : ∀ (B' : Nat) (S' : kS) (u' : kG) (H' : Heap) (locs' : List Loc), B' ≤ B + 41 → LI s E ad bm B' S' u' H' locs' → W p l e room_1 s m #[Value.ref b] below meth c H' locs' 99 5671 Q (F0 m 729 ls [])) : W p l e room_1 s m #[Value.ref b] below meth c H locs 99 5671 Q (F0 m 176 ls []) := by
  obtain ⟨hx, hb, hml, hown, hts, hX, hbl, hK, hs, hj, hA1, hA2, hap⟩ := C
  obtain ⟨h, hY, hP, hS⟩ := hI
  have hbA : ¬ lFr s b := Nat.not_le.mpr hbl
  have hh := h.his
  have hn := (RV.nn h.1).1
  have hm := (RV.nn h.1).2
  have hpm := h.pm
  have hp := h.pl.1
  have hq := h.pl.2
  refine lv_aload_n hx hb dL_law_176 rfl (lv_at hl 1 rfl) ?_
  refine lv_aload_n hx hb dL_law_177 rfl (lv_at hl 0 rfl) ?_
  refine lv_iload_n hx hb dL_law_178 rfl (lv_at hl 3 rfl) ?_
  refine lv_iconst (v := 1) hx hb dL_law_179 (by decide) ?_
  refine lv_iadd hx hb dL_law_180 ?_
  refine va_sld hx hb hX hbl hbA hS hi1 dL_law_181 ?_
  refine lv_aload_n hx hb dL_law_182 rfl (lv_at hl 0 rfl) ?_
  refine lv_iload_n hx hb dL_law_183 rfl (lv_at hl 3 rfl) ?_
  refine lv_iconst (v := 2) hx hb dL_law_184 (by decide) ?_
  refine lv_iadd hx hb dL_law_185 ?_
  refine va_sld hx hb hX hbl hbA hS hi2 dL_law_186 ?_
  refine kCallYi (va_runV (As := [.int (xs (x3 + 1).toNatClampNeg), .int (xs (x3 + 2).toNatClampNeg)]) (rest := []) ⟨hx, hb, hml, hown, hts⟩ (c_X5_read l E ad S hs (xs (x3 + 1).toNatClampNeg) (xs (x3 + 2).toNatClampNeg) hh hn _ rfl) (cwV 2 hts gL_law_X5_read rfl rfl rfl (by decide +kernel) ⟨Nat.le_of_ble_eq_true rfl, Nat.le_of_ble_eq_true rfl⟩) (kPreYV hK hY.2.1 hY (q0 := 0) rfl rfl) rfl rfl hl.1 rfl (lv_room (Nat.le_of_ble_eq_true rfl)) dL_law_187 ⟨Nat.le_of_ble_eq_true rfl, Nat.le_of_ble_eq_true rfl⟩) hS hA1 (fun H locs hY _ hk hS => ?_)
  have hP := kMod hP hj hk hap
  refine lv_aload_n hx hb dL_law_190 rfl (lv_at hl 2 rfl) ?_
  refine lv_aload_n hx hb dL_law_191 rfl (lv_at hl 0 rfl) ?_
  refine lv_iload_n hx hb dL_law_192 rfl (lv_at hl 3 rfl) ?_
  refine lv_iconst (v := 1) hx hb dL_law_193 (by decide) ?_
  refine lv_iadd hx hb dL_law_194 ?_
  refine va_sld hx hb hX hbl hbA hS hi1 dL_law_195 ?_
  refine lv_aload_n hx hb dL_law_196 rfl (lv_at hl 0 rfl) ?_
  refine lv_iload_n hx hb dL_law_197 rfl (lv_at hl 3 rfl) ?_
  refine lv_iconst (v := 2) hx hb dL_law_198 (by decide) ?_
  refine lv_iadd hx hb dL_law_199 ?_
  refine va_sld hx hb hX hbl hbA hS hi2 dL_law_200 ?_
  refine kCallWi (va_runV (As := [.int (xs (x3 + 1).toNatClampNeg), .int (xs (x3 + 2).toNatClampNeg)]) (rest := [.int (mX5_read S (xs (x3 + 1).toNatClampNeg) (xs (x3 + 2).toNatClampNeg)).1]) ⟨hx, hb, hml, hown, hts⟩ (c_X6_read l E bm u hj (xs (x3 + 1).toNatClampNeg) (xs (x3 + 2).toNatClampNeg) hm hpm _ rfl) (cwV 2 hts gL_law_X6_read rfl rfl rfl (by decide +kernel) ⟨Nat.le_of_ble_eq_true rfl, Nat.le_of_ble_eq_true rfl⟩) (kPreV hK hP hP (q0 := 0) rfl rfl) rfl rfl hl.1 rfl (lv_room (Nat.le_of_ble_eq_true rfl)) dL_law_201 ⟨Nat.le_of_ble_eq_true rfl, Nat.le_of_ble_eq_true rfl⟩) hS hA2 (fun H locs hP _ hk hS => ?_)
  have hY := hY.keptM hs hk hap
  have hM := M_read (x := (xs (x3 + 1).toNatClampNeg)) (y := (xs (x3 + 2).toNatClampNeg)) h
  refine lv_icmp_eq (tgt := 729) hx hb dL_law_204 (by decide) (fun c1 => ?_) (fun c1 => ?_)
  · exact kk _ _ _ H locs (by omega) ⟨hM.2, hY, hP, hS⟩
  · exact absurd hM.1 c1
set_option maxHeartbeats 4000000 in
theorem law_write {p : Program} {l : Launch} {e : Env} {s : State} {m : MethodId} {below : List Frame} {meth : Method} {c : Code} {b L : Nat} {xs : Nat → Int32} {E : kE} {ad bm : Nat → Nat} {Q : State → Prop} {B : Nat} {S : kS} {u : kG} {H : Heap} {locs : List Loc} {ls : Array Slot} {x3 : Int32} (C : LC p s m meth c b L xs E ad bm) (hI : LI s E ad bm B S u H locs) (hB : B + 41 < 2 ^ 30) (hl : lv_has ls 4 [(0, .ref b), (1, .ref (ad 80)), (2, .ref (bm 0)), (3, .int x3)]) (hi1 : vp_in (x3 + 1) L) (hi2 : vp_in (x3 + 2) L) (hi3 : vp_in (x3 + 3) L) (kk : ∀ (B' : Nat) (S' : kS) (u' : kG) (H' : Heap) (locs' : List Loc), B' ≤ B + 41 → LI s E ad bm B' S' u' H' locs' → W p l e room_1 s m #[Value.ref b] below meth c H' locs' 99 5671 Q (F0 m 729 ls [])) : W p l e room_1 s m #[Value.ref b] below meth c H locs 99 5671 Q (F0 m 209 ls []) := by
  obtain ⟨hx, hb, hml, hown, hts, hX, hbl, hK, hs, hj, hA1, hA2, hap⟩ := C
  obtain ⟨h, hY, hP, hS⟩ := hI
  have hbA : ¬ lFr s b := Nat.not_le.mpr hbl
  have hh := h.his
  have hn := (RV.nn h.1).1
  have hm := (RV.nn h.1).2
  have hpm := h.pm
  have hp := h.pl.1
  have hq := h.pl.2
  refine lv_aload_n hx hb dL_law_209 rfl (lv_at hl 1 rfl) ?_
  refine lv_aload_n hx hb dL_law_210 rfl (lv_at hl 0 rfl) ?_
  refine lv_iload_n hx hb dL_law_211 rfl (lv_at hl 3 rfl) ?_
  refine lv_iconst (v := 1) hx hb dL_law_212 (by decide) ?_
  refine lv_iadd hx hb dL_law_213 ?_
  refine va_sld hx hb hX hbl hbA hS hi1 dL_law_214 ?_
  refine lv_aload_n hx hb dL_law_215 rfl (lv_at hl 0 rfl) ?_
  refine lv_iload_n hx hb dL_law_216 rfl (lv_at hl 3 rfl) ?_
  refine lv_iconst (v := 2) hx hb dL_law_217 (by decide) ?_
  refine lv_iadd hx hb dL_law_218 ?_
  refine va_sld hx hb hX hbl hbA hS hi2 dL_law_219 ?_
  refine lv_aload_n hx hb dL_law_220 rfl (lv_at hl 0 rfl) ?_
  refine lv_iload_n hx hb dL_law_221 rfl (lv_at hl 3 rfl) ?_
  refine lv_iconst (v := 3) hx hb dL_law_222 (by decide) ?_
  refine lv_iadd hx hb dL_law_223 ?_
  refine va_sld hx hb hX hbl hbA hS hi3 dL_law_224 ?_
  refine kCallYi (va_runV (As := [.int (xs (x3 + 1).toNatClampNeg), .int (xs (x3 + 2).toNatClampNeg), .int (xs (x3 + 3).toNatClampNeg)]) (rest := []) ⟨hx, hb, hml, hown, hts⟩ (c_X5_write l E ad S hs (xs (x3 + 1).toNatClampNeg) (xs (x3 + 2).toNatClampNeg) (xs (x3 + 3).toNatClampNeg) hh hn _ rfl) (cwV 3 hts gL_law_X5_write rfl rfl rfl (by decide +kernel) ⟨Nat.le_of_ble_eq_true rfl, Nat.le_of_ble_eq_true rfl⟩) (kPreYV hK hY.2.1 hY (q0 := 0) rfl rfl) rfl rfl hl.1 rfl (lv_room (Nat.le_of_ble_eq_true rfl)) dL_law_225 ⟨Nat.le_of_ble_eq_true rfl, Nat.le_of_ble_eq_true rfl⟩) hS hA1 (fun H locs hY _ hk hS => ?_)
  have hP := kMod hP hj hk hap
  refine lv_aload_n hx hb dL_law_228 rfl (lv_at hl 2 rfl) ?_
  refine lv_aload_n hx hb dL_law_229 rfl (lv_at hl 0 rfl) ?_
  refine lv_iload_n hx hb dL_law_230 rfl (lv_at hl 3 rfl) ?_
  refine lv_iconst (v := 1) hx hb dL_law_231 (by decide) ?_
  refine lv_iadd hx hb dL_law_232 ?_
  refine va_sld hx hb hX hbl hbA hS hi1 dL_law_233 ?_
  refine lv_aload_n hx hb dL_law_234 rfl (lv_at hl 0 rfl) ?_
  refine lv_iload_n hx hb dL_law_235 rfl (lv_at hl 3 rfl) ?_
  refine lv_iconst (v := 2) hx hb dL_law_236 (by decide) ?_
  refine lv_iadd hx hb dL_law_237 ?_
  refine va_sld hx hb hX hbl hbA hS hi2 dL_law_238 ?_
  refine lv_aload_n hx hb dL_law_239 rfl (lv_at hl 0 rfl) ?_
  refine lv_iload_n hx hb dL_law_240 rfl (lv_at hl 3 rfl) ?_
  refine lv_iconst (v := 3) hx hb dL_law_241 (by decide) ?_
  refine lv_iadd hx hb dL_law_242 ?_
  refine va_sld hx hb hX hbl hbA hS hi3 dL_law_243 ?_
  refine kCallWi (va_runV (As := [.int (xs (x3 + 1).toNatClampNeg), .int (xs (x3 + 2).toNatClampNeg), .int (xs (x3 + 3).toNatClampNeg)]) (rest := [.int (mX5_write S (xs (x3 + 1).toNatClampNeg) (xs (x3 + 2).toNatClampNeg) (xs (x3 + 3).toNatClampNeg)).1]) ⟨hx, hb, hml, hown, hts⟩ (c_X6_write l E bm u hj (xs (x3 + 1).toNatClampNeg) (xs (x3 + 2).toNatClampNeg) (xs (x3 + 3).toNatClampNeg) hm hpm _ rfl) (cwV 3 hts gL_law_X6_write rfl rfl rfl (by decide +kernel) ⟨Nat.le_of_ble_eq_true rfl, Nat.le_of_ble_eq_true rfl⟩) (kPreV hK hP hP (q0 := 0) rfl rfl) rfl rfl hl.1 rfl (lv_room (Nat.le_of_ble_eq_true rfl)) dL_law_244 ⟨Nat.le_of_ble_eq_true rfl, Nat.le_of_ble_eq_true rfl⟩) hS hA2 (fun H locs hP _ hk hS => ?_)
  have hY := hY.keptM hs hk hap
  have hM := M_write (x := (xs (x3 + 1).toNatClampNeg)) (y := (xs (x3 + 2).toNatClampNeg)) (s := (xs (x3 + 3).toNatClampNeg)) h
  refine lv_icmp_eq (tgt := 729) hx hb dL_law_247 (by decide) (fun c1 => ?_) (fun c1 => ?_)
  · exact kk _ _ _ H locs (by omega) ⟨hM.2, hY, hP, hS⟩
  · exact absurd hM.1 c1
set_option maxHeartbeats 4000000 in
theorem law_commit {p : Program} {l : Launch} {e : Env} {s : State} {m : MethodId} {below : List Frame} {meth : Method} {c : Code} {b L : Nat} {xs : Nat → Int32} {E : kE} {ad bm : Nat → Nat} {Q : State → Prop} {B : Nat} {S : kS} {u : kG} {H : Heap} {locs : List Loc} {ls : Array Slot} {x3 : Int32} (C : LC p s m meth c b L xs E ad bm) (hI : LI s E ad bm B S u H locs) (hB : B + 41 < 2 ^ 30) (hl : lv_has ls 4 [(0, .ref b), (1, .ref (ad 80)), (2, .ref (bm 0)), (3, .int x3)]) (hi1 : vp_in (x3 + 1) L) (kk : ∀ (B' : Nat) (S' : kS) (u' : kG) (H' : Heap) (locs' : List Loc), B' ≤ B + 41 → LI s E ad bm B' S' u' H' locs' → W p l e room_1 s m #[Value.ref b] below meth c H' locs' 99 5671 Q (F0 m 729 ls [])) : W p l e room_1 s m #[Value.ref b] below meth c H locs 99 5671 Q (F0 m 252 ls []) := by
  obtain ⟨hx, hb, hml, hown, hts, hX, hbl, hK, hs, hj, hA1, hA2, hap⟩ := C
  obtain ⟨h, hY, hP, hS⟩ := hI
  have hbA : ¬ lFr s b := Nat.not_le.mpr hbl
  have hh := h.his
  have hn := (RV.nn h.1).1
  have hm := (RV.nn h.1).2
  have hpm := h.pm
  have hp := h.pl.1
  have hq := h.pl.2
  refine lv_aload_n hx hb dL_law_252 rfl (lv_at hl 1 rfl) ?_
  refine lv_aload_n hx hb dL_law_253 rfl (lv_at hl 0 rfl) ?_
  refine lv_iload_n hx hb dL_law_254 rfl (lv_at hl 3 rfl) ?_
  refine lv_iconst (v := 1) hx hb dL_law_255 (by decide) ?_
  refine lv_iadd hx hb dL_law_256 ?_
  refine va_sld hx hb hX hbl hbA hS hi1 dL_law_257 ?_
  refine kCallYi (va_runV (As := [.int (xs (x3 + 1).toNatClampNeg)]) (rest := []) ⟨hx, hb, hml, hown, hts⟩ (c_X5_commit l E ad S hs (xs (x3 + 1).toNatClampNeg) hh hn _ rfl) (cwV 1 hts gL_law_X5_commit rfl rfl rfl (by decide +kernel) ⟨Nat.le_of_ble_eq_true rfl, Nat.le_of_ble_eq_true rfl⟩) (kPreYV hK hY.2.1 hY (q0 := 0) rfl rfl) rfl rfl hl.1 rfl (lv_room (Nat.le_of_ble_eq_true rfl)) dL_law_258 ⟨Nat.le_of_ble_eq_true rfl, Nat.le_of_ble_eq_true rfl⟩) hS hA1 (fun H locs hY _ hk hS => ?_)
  have hP := kMod hP hj hk hap
  refine lv_aload_n hx hb dL_law_261 rfl (lv_at hl 2 rfl) ?_
  refine lv_aload_n hx hb dL_law_262 rfl (lv_at hl 0 rfl) ?_
  refine lv_iload_n hx hb dL_law_263 rfl (lv_at hl 3 rfl) ?_
  refine lv_iconst (v := 1) hx hb dL_law_264 (by decide) ?_
  refine lv_iadd hx hb dL_law_265 ?_
  refine va_sld hx hb hX hbl hbA hS hi1 dL_law_266 ?_
  refine kCallWi (va_runV (As := [.int (xs (x3 + 1).toNatClampNeg)]) (rest := [.int (mX5_commit S (xs (x3 + 1).toNatClampNeg)).1]) ⟨hx, hb, hml, hown, hts⟩ (c_X6_commit l E bm u hj (xs (x3 + 1).toNatClampNeg) hm hpm _ rfl) (cwV 1 hts gL_law_X6_commit rfl rfl rfl (by decide +kernel) ⟨Nat.le_of_ble_eq_true rfl, Nat.le_of_ble_eq_true rfl⟩) (kPreV hK hP hP (q0 := 0) rfl rfl) rfl rfl hl.1 rfl (lv_room (Nat.le_of_ble_eq_true rfl)) dL_law_267 ⟨Nat.le_of_ble_eq_true rfl, Nat.le_of_ble_eq_true rfl⟩) hS hA2 (fun H locs hP _ hk hS => ?_)
  have hY := hY.keptM hs hk hap
  have hM := M_commit (x := (xs (x3 + 1).toNatClampNeg)) h (by omega)
  refine lv_icmp_eq (tgt := 729) hx hb dL_law_270 (by decide) (fun c1 => ?_) (fun c1 => ?_)
  · exact kk _ _ _ H locs (by omega) ⟨hM.2, hY, hP, hS⟩
  · exact absurd hM.1 c1
