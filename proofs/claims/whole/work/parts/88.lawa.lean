/-! the law's cases: each asks both and finds one answer -/
theorem kand31 (a : Int32) : ∃ n, n < 32 ∧ a &&& 31 = nI n := by
  refine ⟨(a.toBitVec &&& 31#32).toNat, ?_, ?_⟩
  · rw [BitVec.toNat_and]
    exact Nat.lt_of_le_of_lt Nat.and_le_right (by decide)
  · apply Int32.toBitVec_inj.mp
    show a.toBitVec &&& 31#32 = BitVec.ofNat 32 (a.toBitVec &&& 31#32).toNat
    rw [BitVec.ofNat_toNat, BitVec.setWidth_eq]
theorem RR.pm {B : Nat} {S : kS} {u : kG} (h : RR B S u) : bOK 6 (u 0 0) := by
  obtain ⟨nx, k, h1, h2, h3, h4, h5, h6⟩ := h.2.1
  exact ⟨k, h2, h5⟩
theorem RR.pl {B : Nat} {S : kS} {u : kG} (h : RR B S u) : pLn (S 12 0 0) ∧ pLn (u 0 1) := by
  obtain ⟨n, h1, h2, h3, h4⟩ := h.2.2.2
  exact ⟨⟨n, h1, h2⟩, ⟨n, h1, h3⟩⟩
theorem Sys.keptM {E : kE} {ad bm : Nat → Nat} {S : kS} {H H1 : Heap} (h : Sys E ad S H) (hs : kSep ad) (hk : ∀ q : Nat, q < H.size → ¬ kA bm 9 q → H1[q]? = H[q]?) (hap : ∀ q, kA ad 90 q → ¬ kA bm 9 q) : Sys E ad S H1 :=
  ⟨fun j hj => h.keepL hs hk j hj (fun q z => hap q (kA_sub (by omega) q z)), h.keepM hs hk (fun q z => hap q (kA_sub (by omega) q z)), h.keepH hs hk (fun q z => hap q (kA_sub (by omega) q z)), h.keepP hs hk (fun q z => hap q (kA_sub (by omega) q z)), h.keepQ hs hk (fun q z => hap q (kA_sub (by omega) q z))⟩
theorem kMod {E : kE} {ad bm : Nat → Nat} {u : kG} {H H1 : Heap} (h : va_P E.1 vwCl (wMod E bm u) H) (hj : kInj bm 9) (hk : ∀ q : Nat, q < H.size → ¬ kA ad 90 q → H1[q]? = H[q]?) (hap : ∀ q, kA ad 90 q → ¬ kA bm 9 q) : va_P E.1 vwCl (wMod E bm u) H1 :=
  kP_kept h (dMod hj (u 0 0) (u 0 1) (u 0 2) (u 0 3) (u 0 4) (u 0 5) (u 0 6) (u 0 7) (u 1) (u 2) (u 3) (u 4) (u 5) (u 6) (u 7) (u 8)) (fun q z y => hap q y z) hk
def lFr (s : State) : Nat → Prop := fun q => s.heap.size ≤ q
/-- what stays through the law -/
def LC (p : Program) (s : State) (m : MethodId) (meth : Method) (c : Code) (b L : Nat) (xs : Nat → Int32) (E : kE) (ad bm : Nat → Nat) : Prop :=
  p.tables.exec = Jvm.exec ∧ c.code = cL_law ∧ c.maxLocals = 4 ∧ s.vm.findClass RL = some m.cls ∧ (∀ w ∈ wsL_law, w.before #[Value.ref b] s = true) ∧ va_X b L xs s s.heap ∧ b < s.heap.size ∧ kK E s ∧ kSep ad ∧ kInj bm 9 ∧ (∀ q, kA ad 90 q → lFr s q) ∧ (∀ q, kA bm 9 q → lFr s q) ∧ (∀ q, kA ad 90 q → ¬ kA bm 9 q)
/-- what holds before and behind each case -/
def LI (s : State) (E : kE) (ad bm : Nat → Nat) (B : Nat) (S : kS) (u : kG) (H : Heap) (locs : List Loc) : Prop :=
  RR B S u ∧ Sys E ad S H ∧ va_P E.1 vwCl (wMod E bm u) H ∧ va_S (lFr s) s.heap H locs
def lPut (x y : Int32) : Int64 := (x.toInt64 <<< ((32 : Int32).toInt64 &&& 63)) ||| (y.toInt64 &&& 4294967295)
set_option maxHeartbeats 4000000 in
theorem law_rule {p : Program} {l : Launch} {e : Env} {s : State} {m : MethodId} {below : List Frame} {meth : Method} {c : Code} {b L : Nat} {xs : Nat → Int32} {E : kE} {ad bm : Nat → Nat} {Q : State → Prop} {B : Nat} {S : kS} {u : kG} {H : Heap} {locs : List Loc} {ls : Array Slot} {x3 : Int32} (C : LC p s m meth c b L xs E ad bm) (hI : LI s E ad bm B S u H locs) (hB : B + 41 < 2 ^ 30) (hl : lv_has ls 4 [(0, .ref b), (1, .ref (ad 80)), (2, .ref (bm 0)), (3, .int x3)]) (hi1 : vp_in (x3 + 1) L) (kk : ∀ (B' : Nat) (S' : kS) (u' : kG) (H' : Heap) (locs' : List Loc), B' ≤ B + 41 → LI s E ad bm B' S' u' H' locs' → W p l e room_1 s m #[Value.ref b] below meth c H' locs' 99 5671 Q (F0 m 729 ls [])) : W p l e room_1 s m #[Value.ref b] below meth c H locs 99 5671 Q (F0 m 140 ls []) := by
  obtain ⟨hx, hb, hml, hown, hts, hX, hbl, hK, hs, hj, hA1, hA2, hap⟩ := C
  obtain ⟨h, hY, hP, hS⟩ := hI
  have hbA : ¬ lFr s b := Nat.not_le.mpr hbl
  have hh := h.his
  have hn := (RV.nn h.1).1
  have hm := (RV.nn h.1).2
  have hpm := h.pm
  have hp := h.pl.1
  have hq := h.pl.2
  refine lv_aload_n hx hb dL_law_140 rfl (lv_at hl 1 rfl) ?_
  refine lv_aload_n hx hb dL_law_141 rfl (lv_at hl 0 rfl) ?_
  refine lv_iload_n hx hb dL_law_142 rfl (lv_at hl 3 rfl) ?_
  refine lv_iconst (v := 1) hx hb dL_law_143 (by decide) ?_
  refine lv_iadd hx hb dL_law_144 ?_
  refine va_sld hx hb hX hbl hbA hS hi1 dL_law_145 ?_
  refine kCallYi (va_runV (As := [.int (xs (x3 + 1).toNatClampNeg)]) (rest := []) ⟨hx, hb, hml, hown, hts⟩ (c_X5_rule l E ad S hs (xs (x3 + 1).toNatClampNeg) hh _ rfl) (cwV 1 hts gL_law_X5_rule rfl rfl rfl (by decide +kernel) ⟨Nat.le_of_ble_eq_true rfl, Nat.le_of_ble_eq_true rfl⟩) (kPreYV hK hY.2.1 hY (q0 := 0) rfl rfl) rfl rfl hl.1 rfl (lv_room (Nat.le_of_ble_eq_true rfl)) dL_law_146 ⟨Nat.le_of_ble_eq_true rfl, Nat.le_of_ble_eq_true rfl⟩) hS hA1 (fun H locs hY _ hk hS => ?_)
  have hP := kMod hP hj hk hap
  refine lv_aload_n hx hb dL_law_149 rfl (lv_at hl 2 rfl) ?_
  refine lv_aload_n hx hb dL_law_150 rfl (lv_at hl 0 rfl) ?_
  refine lv_iload_n hx hb dL_law_151 rfl (lv_at hl 3 rfl) ?_
  refine lv_iconst (v := 1) hx hb dL_law_152 (by decide) ?_
  refine lv_iadd hx hb dL_law_153 ?_
  refine va_sld hx hb hX hbl hbA hS hi1 dL_law_154 ?_
  refine kCallWi (va_runV (As := [.int (xs (x3 + 1).toNatClampNeg)]) (rest := [.int (mX5_rule S (xs (x3 + 1).toNatClampNeg)).1]) ⟨hx, hb, hml, hown, hts⟩ (c_X6_rule l E bm u hj (xs (x3 + 1).toNatClampNeg) hpm _ rfl) (cwV 1 hts gL_law_X6_rule rfl rfl rfl (by decide +kernel) ⟨Nat.le_of_ble_eq_true rfl, Nat.le_of_ble_eq_true rfl⟩) (kPreV hK hP hP (q0 := 0) rfl rfl) rfl rfl hl.1 rfl (lv_room (Nat.le_of_ble_eq_true rfl)) dL_law_155 ⟨Nat.le_of_ble_eq_true rfl, Nat.le_of_ble_eq_true rfl⟩) hS hA2 (fun H locs hP _ hk hS => ?_)
  have hY := hY.keptM hs hk hap
  have hM := M_rule (x := (xs (x3 + 1).toNatClampNeg)) h
  refine lv_icmp_eq (tgt := 729) hx hb dL_law_158 (by decide) (fun c1 => ?_) (fun c1 => ?_)
  · exact kk _ _ _ H locs (by omega) ⟨hM.2, hY, hP, hS⟩
  · exact absurd hM.1 c1
set_option maxHeartbeats 4000000 in
theorem law_value {p : Program} {l : Launch} {e : Env} {s : State} {m : MethodId} {below : List Frame} {meth : Method} {c : Code} {b L : Nat} {xs : Nat → Int32} {E : kE} {ad bm : Nat → Nat} {Q : State → Prop} {B : Nat} {S : kS} {u : kG} {H : Heap} {locs : List Loc} {ls : Array Slot} {x3 : Int32} (C : LC p s m meth c b L xs E ad bm) (hI : LI s E ad bm B S u H locs) (hB : B + 41 < 2 ^ 30) (hl : lv_has ls 4 [(0, .ref b), (1, .ref (ad 80)), (2, .ref (bm 0)), (3, .int x3)]) (hi1 : vp_in (x3 + 1) L) (kk : ∀ (B' : Nat) (S' : kS) (u' : kG) (H' : Heap) (locs' : List Loc), B' ≤ B + 41 → LI s E ad bm B' S' u' H' locs' → W p l e room_1 s m #[Value.ref b] below meth c H' locs' 99 5671 Q (F0 m 729 ls [])) : W p l e room_1 s m #[Value.ref b] below meth c H locs 99 5671 Q (F0 m 298 ls []) := by
  obtain ⟨hx, hb, hml, hown, hts, hX, hbl, hK, hs, hj, hA1, hA2, hap⟩ := C
  obtain ⟨h, hY, hP, hS⟩ := hI
  have hbA : ¬ lFr s b := Nat.not_le.mpr hbl
  have hh := h.his
  have hn := (RV.nn h.1).1
  have hm := (RV.nn h.1).2
  have hpm := h.pm
  have hp := h.pl.1
  have hq := h.pl.2
  refine lv_aload_n hx hb dL_law_298 rfl (lv_at hl 1 rfl) ?_
  refine lv_aload_n hx hb dL_law_299 rfl (lv_at hl 0 rfl) ?_
  refine lv_iload_n hx hb dL_law_300 rfl (lv_at hl 3 rfl) ?_
  refine lv_iconst (v := 1) hx hb dL_law_301 (by decide) ?_
  refine lv_iadd hx hb dL_law_302 ?_
  refine va_sld hx hb hX hbl hbA hS hi1 dL_law_303 ?_
  refine kCallRi (va_runV (As := [.int (xs (x3 + 1).toNatClampNeg)]) (rest := []) ⟨hx, hb, hml, hown, hts⟩ (c_X5_value l E ad S hs (xs (x3 + 1).toNatClampNeg) hn _ rfl) (cwV 1 hts gL_law_X5_value rfl rfl rfl (by decide +kernel) ⟨Nat.le_of_ble_eq_true rfl, Nat.le_of_ble_eq_true rfl⟩) (kPreYV hK hY.2.1 hY (q0 := 0) rfl rfl) rfl rfl hl.1 rfl (lv_room (Nat.le_of_ble_eq_true rfl)) dL_law_304 ⟨Nat.le_of_ble_eq_true rfl, Nat.le_of_ble_eq_true rfl⟩) ?_
  refine lv_aload_n hx hb dL_law_307 rfl (lv_at hl 2 rfl) ?_
  refine lv_aload_n hx hb dL_law_308 rfl (lv_at hl 0 rfl) ?_
  refine lv_iload_n hx hb dL_law_309 rfl (lv_at hl 3 rfl) ?_
  refine lv_iconst (v := 1) hx hb dL_law_310 (by decide) ?_
  refine lv_iadd hx hb dL_law_311 ?_
  refine va_sld hx hb hX hbl hbA hS hi1 dL_law_312 ?_
  refine kCallRi (va_runV (As := [.int (xs (x3 + 1).toNatClampNeg)]) (rest := [.int (mX5_value S (xs (x3 + 1).toNatClampNeg))]) ⟨hx, hb, hml, hown, hts⟩ (c_X6_value l E bm u (xs (x3 + 1).toNatClampNeg) hm _ rfl) (cwV 1 hts gL_law_X6_value rfl rfl rfl (by decide +kernel) ⟨Nat.le_of_ble_eq_true rfl, Nat.le_of_ble_eq_true rfl⟩) (kPreV hK hP hP (q0 := 0) rfl rfl) rfl rfl hl.1 rfl (lv_room (Nat.le_of_ble_eq_true rfl)) dL_law_313 ⟨Nat.le_of_ble_eq_true rfl, Nat.le_of_ble_eq_true rfl⟩) ?_
  have hM := M_value (x := (xs (x3 + 1).toNatClampNeg)) h
  refine lv_icmp_eq (tgt := 729) hx hb dL_law_316 (by decide) (fun c1 => ?_) (fun c1 => ?_)
  · exact kk B S u H locs (by omega) ⟨h, hY, hP, hS⟩
  · exact absurd hM c1
