/-! the law's own walk: what holds before and behind each round -/
def wVx (E : kE) (a : Nat) (f : Nat → Int32) : va_W := [(a, .inl (E.2 0, 60, .inl f))]
def mL_cell (xs : Nat → Int32) (L : Nat) (k : Int32) : Int32 := if nI L ≤ k then (32452867 * k) + 49979687 else xs k.toNatClampNeg
def kPreX (av : List Value) (b L : Nat) (xs : Nat → Int32) : Array Value → State → Prop := va_Pc av (fun U => va_X b L xs U U.heap ∧ b < U.heap.size)
theorem kPreX_blind {av : List Value} {b L : Nat} {xs : Nat → Int32} : FrameBlind (kPreX av b L xs) := fun a U g mk q => by
  obtain ⟨q0, q1, q2⟩ := q
  exact ⟨q0, va_X.moved (u := U) (U := U.calling g mk a) (Vm.Alike.refl U.vm) q1, q2⟩
theorem kPreXS {As : List Value} {b L : Nat} {xs : Nat → Int32} {s : State} {H : Heap} {locs : List Loc} {A : Nat → Prop} (hX : va_X b L xs s s.heap) (hbl : b < s.heap.size) (hbA : ¬ A b) (hS : va_S A s.heap H locs) : PreS s H (kPreX As b L xs) As := ⟨kPreX_blind, fun U hU hW => ⟨rfl, va_X.moved hW.alike (hX.kept (by rw [hU]; exact hS.2.1 b hbl hbA)), by rw [hU]; exact Nat.lt_of_lt_of_le hbl hS.1⟩⟩
theorem c_L_cell (l : Launch) (b L : Nat) (xs : Nat → Int32) (hL : L < 2 ^ 31) (x2 : Int32) (hk : ¬ x2 < 0) (R : Int32) (hE : R = mL_cell xs L x2) : Met l yL_cell wsL_cell ({ frames := 0, cells := 0, slots := 0, locals := 0 }) (kPreX [.ref b, .int x2] b L xs) (kRi R) 0 0 (fun _ => False) := by
  refine Met.ofW (cc := cL_cell) (maxL := 2) (ret := (some .int)) (by decide) rfl ?_
  intro p e s m args below meth c s₁ B hml hv
  obtain ⟨rfl, hX, hbl⟩ := hv
  have hx := B.exec
  have hb := B.bytes
  have hr := B.returns
  have hts := atoms_spec (ws := wsL_cell) B.pre
  have hown : s.vm.findClass RL = some m.cls := findClass_of_methodNamed B.named
  have hlocks := B.notSynchronized
  have hS : va_S (fun _ => False) s.heap s.heap [] := va_S.rf
  have hl := lv_entry ([.ref b, .int x2]) (n := 2) (Nat.le_of_ble_eq_true rfl)
  rw [lg_entry_eq]
  generalize (lg_sl ([.ref b, .int x2]) ++ List.replicate (2 - (lg_sl ([.ref b, .int x2])).length) Slot.unset).toArray = ls at hl ⊢
  have hl : lv_has ls 2 [(0, .ref b), (1, .int x2)] := hl
  unfold mL_cell at hE
  refine lv_iload_n hx hb dL_cell_0 rfl (lv_at hl 1 rfl) ?_
  refine lv_aload_n hx hb dL_cell_1 rfl (lv_at hl 0 rfl) ?_
  refine va_slen hx hb hX hbl (fun h => h) hS dL_cell_2 ?_
  refine lv_icmp_ge (tgt := 12) hx hb dL_cell_3 (by decide) (fun c1 => ?_) (fun c1 => ?_)
  · replace hE := hE.trans (if_pos c1)
    refine lv_ldc (v := 32452867) hx hb hown (hts (.constant RL 7 (32452867)) (by decide +kernel)) dL_cell_12 ?_
    refine lv_iload_n hx hb dL_cell_14 rfl (lv_at hl 1 rfl) ?_
    refine lv_imul hx hb dL_cell_15 ?_
    refine lv_ldc (v := 49979687) hx hb hown (hts (.constant RL 8 (49979687)) (by decide +kernel)) dL_cell_16 ?_
    refine lv_iadd hx hb dL_cell_18 ?_
    subst R
    exact W.iret (v := ((32452867 * x2) + 49979687)) hx hb hr (fun t ht hW => ⟨rfl, ht⟩) (fun _ h => by cases h) dL_cell_19
  · replace hE := hE.trans (if_neg c1)
    have hin : vp_in x2 L := by
      obtain ⟨j, hj, rfl⟩ := nI_of hk
      rcases Nat.lt_or_ge j L with g | g
      · exact vp_in_nI g hL
      · exact absurd (nI_le g hj) c1
    refine lv_aload_n hx hb dL_cell_6 rfl (lv_at hl 0 rfl) ?_
    refine lv_iload_n hx hb dL_cell_7 rfl (lv_at hl 1 rfl) ?_
    refine va_sld hx hb hX hbl (fun h => h) hS hin dL_cell_8 ?_
    refine lv_goto (tgt := 19) hx hb dL_cell_9 (by decide) ?_
    subst R
    exact W.iret (v := (xs (x2).toNatClampNeg)) hx hb hr (fun t ht hW => ⟨rfl, ht⟩) (fun _ h => by cases h) dL_cell_19
theorem low_lt (x : Int32) {a : Nat} (h0 : 0 < a) (h1 : a < 2 ^ 31) : ∃ j, j < a ∧ mL_low x (nI a) = nI j := by
  have hm : ¬ (x &&& 2147483647) < 0 := by
    have e : ∃ n, n < 2 ^ 31 ∧ x &&& 2147483647 = nI n := by
      refine ⟨(x.toBitVec &&& 2147483647#32).toNat, ?_, ?_⟩
      · rw [BitVec.toNat_and]
        exact Nat.lt_of_le_of_lt Nat.and_le_right (by decide)
      · apply Int32.toBitVec_inj.mp
        show x.toBitVec &&& 2147483647#32 = BitVec.ofNat 32 (x.toBitVec &&& 2147483647#32).toNat
        rw [BitVec.ofNat_toNat, BitVec.setWidth_eq]
    obtain ⟨n, hn, e⟩ := e
    rw [e]; exact nI_pos (by omega)
  obtain ⟨n, hn, e⟩ := nI_of hm
  refine ⟨n % a, Nat.mod_lt _ h0, ?_⟩
  rw [mL_low_s, e, kremI hn h1]
def lFr (s : State) : Nat → Prop := fun q => s.heap.size ≤ q
/-- what stays through the law -/
def LC (p : Program) (s : State) (m : MethodId) (meth : Method) (c : Code) (b L : Nat) (xs : Nat → Int32) (E : kE) (ad ra : Nat → Nat) (qa : Nat) : Prop :=
  p.tables.exec = Jvm.exec ∧ c.code = cL_law ∧ c.maxLocals = 15 ∧ s.vm.findClass RL = some m.cls ∧ (∀ w ∈ wsL_law, w.before #[Value.ref b] s = true) ∧ va_X b L xs s s.heap ∧ L < 2 ^ 31 ∧ b < s.heap.size ∧ kK E s ∧ kSep ad ∧ (∀ q, kA ad 90 q → lFr s q) ∧ lFr s (ra 0) ∧ lFr s qa ∧ (∀ q, kA ad 90 q → ¬ kA ra 1 q) ∧ (∀ q, kA ad 90 q → q ≠ qa) ∧ ra 0 ≠ qa
/-- what holds before and behind each round -/
def LI (s : State) (E : kE) (ad ra : Nat → Nat) (qa n mm : Nat) (bb cc : Nat → Nat) (ρ : Nat) (S : kS) (z w : Nat → Int32) (H : Heap) (locs : List Loc) : Prop :=
  Sys E ad S H ∧ va_P E.1 vwCl (wRx E ra z) H ∧ va_P E.1 vwCl (wVx E qa w) H ∧ va_S (lFr s) s.heap H locs ∧ (∀ x, kA ad 90 x → x < H.size) ∧ ra 0 < H.size ∧ hisOK S ∧ LQ n mm bb cc ρ (S 0) z w
theorem upd_same (f : Nat → Int32) (k : Nat) : upd f k (f k) = f := funext (fun x => by
  by_cases q : x = k
  · rw [q, pk_us]
  · rw [pk_un q])

