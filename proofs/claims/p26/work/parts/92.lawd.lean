/-! the law's rows and the system side by side -/
def wTx (E : kE) (z : Nat) (f : Nat → Int32) : va_W := [(z, .inl (E.2 0, 5, .inl f))]
theorem kD0 {A : Nat → Prop} : va_D A [] := ⟨fun i j p q h => by simp at h, fun k q h => by simp at h⟩
theorem Sys.keptA {E : kE} {ad : Nat → Nat} {S : kS} {H H1 : Heap} {A : Nat → Prop} (h : Sys E ad S H) (hs : kSep ad) (hk : ∀ q : Nat, q < H.size → ¬ A q → H1[q]? = H[q]?) (hap : ∀ q, kA ad 90 q → ¬ A q) : Sys E ad S H1 :=
  ⟨fun j hj => h.keepL hs hk j hj (fun q z => hap q (kA_sub (by omega) q z)), h.keepM hs hk (fun q z => hap q (kA_sub (by omega) q z)), h.keepH hs hk (fun q z => hap q (kA_sub (by omega) q z)), h.keepP hs hk (fun q z => hap q (kA_sub (by omega) q z)), h.keepQ hs hk (fun q z => hap q (kA_sub (by omega) q z))⟩
theorem kSto {p : Program} {l : Launch} {e : Env} {R : Room} {s : State} {m : MethodId} {args : Array Value} {below : List Frame} {meth : Method} {c : Code} {H : Heap} {locs : List Loc} {cells slots : Nat} {Q : State → Prop} {cc : ByteArray} {pc : Nat} {ls : Array Slot} {rest : List Value} {a : Nat} {A : Nat → Prop} {H0 : Heap} {E : kE} (hexec : p.tables.exec = Jvm.exec) (hb : c.code = cc) (hK : kK E s) {n : Nat} {f : Nat → Int32} (hP : va_P E.1 vwCl [(a, .inl (E.2 0, n, .inl f))] H) (hA : A a) (hS : va_S A H0 H locs) {i : Int32} {x : Int32} (hin : vp_in i n) (hdg : decode cc pc = .ok (.iastore, 1))
    (kk : ∀ (H1 : Heap) (locs1 : List Loc), va_P E.1 vwCl [(a, .inl (E.2 0, n, .inl (upd f i.toNatClampNeg x)))] H1 → (∀ q : Nat, q ≠ a → H1[q]? = H[q]?) → va_S A H0 H1 locs1 → H1.size = H.size → W p l e R s m args below meth c H1 locs1 cells slots Q (F0 m (pc + 1) ls rest)) : W p l e R s m args below meth c H locs cells slots Q (F0 m pc ls (.int x :: .int i :: .ref a :: rest)) := by
  have ha : ([(a, .inl (E.2 0, n, .inl f))] : va_W)[0]? = some (a, .inl (E.2 0, n, .inl f)) := rfl
  refine W.iast hexec hb (hP 0 _ ha) ((hK.1.2 0 _ rfl).1 n (fun j => .int (f j))) (fun q => by cases q) (by show ¬ (i < 0 ∨ (arrV _ _ _).slots.size ≤ _); rw [arrV_size]; exact hin) rfl rfl hdg fun H1 e z oq => ?_
  refine kk H1 _ (hP.set (kD1 (A := fun q => q = a) rfl) ha ?_ oq) oq (hS.put z oq hA) z
  show H1[a]? = some (vp_cell _ _)
  rw [e]
  rw [vp_cell_i, vp_cell_i, arrV_store]
  congr 2
  funext q
  by_cases hq : q = i.toNatClampNeg
  · subst hq
    simp [updV, upd]
  · simp [updV, upd, hq]
def kPreT (E : kE) (av : List Value) (ad : Nat → Nat) (S : kS) (a : Nat → Nat) (r : kG) : Array Value → State → Prop := va_Pc av (fun U => kK E U ∧ Sys E ad S U.heap ∧ va_P E.1 vwCl (wRx E a (r 0)) U.heap)
theorem kPreT_blind {E : kE} {av : List Value} {ad : Nat → Nat} {S : kS} {a : Nat → Nat} {r : kG} : FrameBlind (kPreT E av ad S a r) := fun a U g mk q => by
  obtain ⟨q0, q1, q2, q3⟩ := q
  exact ⟨q0, ⟨va_K.moved (u := U) (U := U.calling g mk a) (Vm.Alike.refl U.vm) q1.1, kNest_same (u := U) (U := U.calling g mk a) rfl q1.2⟩, q2, q3⟩
theorem kPreTS {E : kE} {As : List Value} {s : State} {H : Heap} {ad : Nat → Nat} {S : kS} {a : Nat → Nat} {r : kG} (hK : kK E s) (hY : Sys E ad S H) (hR : va_P E.1 vwCl (wRx E a (r 0)) H) : PreS s H (kPreT E As ad S a r) As := ⟨kPreT_blind, fun U hU hW => ⟨rfl, hK.warm hW, by rw [hU]; exact hY, by rw [hU]; exact hR⟩⟩
def kPreTs (E : kE) (av : List Value) (ad : Nat → Nat) (S : kS) (a : Nat → Nat) (r : kG) (sz : Nat) : Array Value → State → Prop := va_Pc av (fun U => kK E U ∧ Sys E ad S U.heap ∧ va_P E.1 vwCl (wRx E a (r 0)) U.heap ∧ U.heap.size = sz)
theorem kPreTs_blind {E : kE} {av : List Value} {ad : Nat → Nat} {S : kS} {a : Nat → Nat} {r : kG} {sz : Nat} : FrameBlind (kPreTs E av ad S a r sz) := fun a U g mk q => by
  obtain ⟨q0, q1, q2, q3, q4⟩ := q
  exact ⟨q0, ⟨va_K.moved (u := U) (U := U.calling g mk a) (Vm.Alike.refl U.vm) q1.1, kNest_same (u := U) (U := U.calling g mk a) rfl q1.2⟩, q2, q3, q4⟩
theorem kPreTsS {E : kE} {As : List Value} {s : State} {H : Heap} {ad : Nat → Nat} {S : kS} {a : Nat → Nat} {r : kG} {sz : Nat} (hK : kK E s) (hY : Sys E ad S H) (hR : va_P E.1 vwCl (wRx E a (r 0)) H) (hz : H.size = sz) : PreS s H (kPreTs E As ad S a r sz) As := ⟨kPreTs_blind, fun U hU hW => ⟨rfl, hK.warm hW, by rw [hU]; exact hY, by rw [hU]; exact hR, by rw [hU]; exact hz⟩⟩
def kTi (E : kE) (r : Int32) (ad : Nat → Nat) (S : kS) (sz : Nat) : Array Value → State → Outcome → State → Prop := fun _ st oc t => oc = .returned (some (.int r)) ∧ Sys E ad S t.heap ∧ va_F (fun q => kA ad 90 q ∨ sz ≤ q) st t
theorem gset13 (S : kS) (v : kG) : gset S 13 v 0 = S 0 := gset_ne S v (by omega)
theorem ite2 {c : Prop} {d : Decidable c} {a b : Int32 × kS} {s : kG} (ha : a.2 0 = s) (hb : b.2 0 = s) : (if c then a else b).2 0 = s := by
  by_cases h : c
  · rw [if_pos h]; exact ha
  · rw [if_neg h]; exact hb
theorem count_0 (S : kS) (x : Int32) : (mX5_count S x).2 0 = S 0 := by
  rw [mX5_count_s]
  exact ite2 rfl (ite2 rfl (ite2 rfl (ite2 rfl (ite2 rfl (ite2 rfl (ite2 rfl (ite2 rfl (ite2 rfl (ite2 (ite2 rfl rfl) (ite2 rfl (ite2 rfl rfl)))))))))))
theorem order_0 (S : kS) (x : Int32) : (mX5_order S x).2 0 = S 0 := by
  rw [mX5_order_s]
  exact ite2 rfl (ite2 (ite2 rfl rfl) rfl)
theorem count_n {S : kS} (x : Int32) (h : nOK (S 0 0 2)) : nOK ((mX5_count S x).2 0 0 2) := by rw [count_0]; exact h
theorem order_n {S : kS} (x : Int32) (h : nOK (S 0 0 2)) : nOK ((mX5_order S x).2 0 0 2) := by rw [order_0]; exact h
def kEqG (a b : kG) : Prop := a = b
def cUp (x : Int32) (i : Nat) : Prop := ∃ k : Nat, k ≤ i ∧ x = nI k
theorem cUp.s {x : Int32} {i : Nat} (h : cUp x i) : cUp (x + 1) (i + 1) := by
  obtain ⟨k, h1, rfl⟩ := h; exact ⟨k + 1, by omega, nI_1 k⟩
theorem cUp.z {x : Int32} {i : Nat} (h : cUp x i) : cUp (x + 0) (i + 1) := by
  obtain ⟨k, h1, rfl⟩ := h; exact ⟨k, by omega, Int32.add_zero _⟩
theorem cUp.n {x : Int32} {i : Nat} (h : cUp x i) (hi : i ≤ 12) : nOK x := by
  obtain ⟨k, h1, rfl⟩ := h; exact ⟨k, by omega, rfl⟩
def ordT (v : kG) (x : Int32) : Prop := ∀ S : kS, S 0 = v → (mX5_order S x).1 < 0 ∨ tOK (mX5_order S x).1
