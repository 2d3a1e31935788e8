/-! ===== the judgement AW: the machine at an abstract frame comes to its method's end with Q ===== -/
/-- a method: its name, bytes, locals, result, table, room -/
abbrev AY : Type := MethodName × ByteArray × Nat × Option FieldType × List (Nat × Nat × Nat × Nat) × Room
abbrev AY.y (Y : AY) : MethodName := Y.1
abbrev AY.cc (Y : AY) : ByteArray := Y.2.1
abbrev AY.nL (Y : AY) : Nat := Y.2.2.1
abbrev AY.ret (Y : AY) : Option FieldType := Y.2.2.2.1
abbrev AY.hh (Y : AY) : List (Nat × Nat × Nat × Nat) := Y.2.2.2.2.1
abbrev AY.rm (Y : AY) : Room := Y.2.2.2.2.2
abbrev AQ : Type := (Option AV ⊕ String) → Nat → AH → Prop
abbrev AScr : Type := Option (Nat × (Nat → Int))
/-- the world behind a method -/
def aB (g : aG) (A : Nat → Prop) (n0 : Nat) (ad0 : Nat → Nat) (u : Nat × AH × (Nat → Nat)) (t : State) : Prop :=
  va_P g.1 vwCl (aW g u.2.2 u.1 u.2.1) t.heap ∧ va_D A (aW g u.2.2 u.1 u.2.1) ∧ okH u.1 u.2.1 ∧ n0 ≤ u.1 ∧ ∀ i, i < n0 ∨ i = SC → u.2.2 i = ad0 i
def aQc (g : aG) (A : Nat → Prop) (n0 : Nat) (ad0 : Nat → Nat) (Q : AQ) : Array Value → State → Outcome → State → Prop := fun _ st oc t =>
  (∃ (v : Option AV) (u : Nat × AH × (Nat → Nat)), oc = .returned (v.map (cV u.2.2)) ∧ (∀ w, v = some w → okV u.1 w) ∧ Q (.inl v) u.1 u.2.1 ∧ aB g A n0 ad0 u t) ∧ va_F A st t
def aXC (g : aG) (A : Nat → Prop) (n0 : Nat) (ad0 : Nat → Nat) (Q : AQ) : String → State → State → Prop := fun E st t =>
  ∃ u : Nat × AH × (Nat → Nat), Q (.inr E) u.1 u.2.1 ∧ aB g A n0 ad0 u t ∧ va_F A st t
/-- what stays the same while a method runs -/
def aF (Y : AY) (p : Program) (l : Launch) (s : State) (m : MethodId) (meth : Method) (c : Code) (g : aG) (A : Nat → Prop) : Prop :=
  p.tables.exec = Jvm.exec ∧ c.code = Y.cc ∧ c.maxLocals = Y.nL ∧ meth.sig.returnType = Y.ret ∧ meth.locks = false ∧ s.vm.findClass Y.y.cls = some m.cls ∧ meth.name = Y.y.name ∧ c.exceptionTable.toList = tableOf Y.hh ∧ l.stackTraces = false ∧ aC g s ∧ (∀ q, s.heap.size ≤ q → A q) ∧ vx_Zq Bundle.tN "UNASSIGNED_STACK" Bundle.steD A s s.heap ∧ vx_Zq Bundle.tN "SUPPRESSED_SENTINEL" Bundle.listD A s s.heap
def aSc (S : AScr) (ad0 : Nat → Nat) (s : State) (A : Nat → Prop) : Prop := match S with
  | none => True
  | some (L, f) => va_X (ad0 SC) L (fun j => Int32.ofInt (f j)) s s.heap ∧ ad0 SC < s.heap.size ∧ ¬ A (ad0 SC) ∧ L < 2147483648 ∧ ∀ j, iR (f j)
/-- the heap now -/
def aR (g : aG) (A : Nat → Prop) (n0 : Nat) (ad0 : Nat → Nat) (H0 : Heap) (n : Nat) (μ : AH) (ad : Nat → Nat) (H : Heap) (locs : List Loc) : Prop :=
  va_P g.1 vwCl (aW g ad n μ) H ∧ va_D A (aW g ad n μ) ∧ va_S A H0 H locs ∧ okH n μ ∧ n0 ≤ n ∧ ∀ i, i < n0 ∨ i = SC → ad i = ad0 i
/-- the locals -/
def aL (ad : Nat → Nat) (nL n : Nat) (ls : List (Option AV)) (ls0 : Array Slot) : Prop :=
  ls0.size = nL ∧ lv_wf ls0 ∧ ∀ (i : Nat) (v : AV), ls[i]? = some (some v) → ls0[i]? = some (.val (cV ad v)) ∧ okV n v
def AW (Y : AY) (S : AScr) (Q : AQ) (pc : Nat) (ls : List (Option AV)) (st : List AV) (n : Nat) (μ : AH) (k z : Nat) : Prop :=
  ∀ (p : Program) (l : Launch) (e : Env) (s : State) (m : MethodId) (args : Array Value) (below : List Frame) (meth : Method) (c : Code) (g : aG) (A : Nat → Prop) (n0 : Nat) (ad0 : Nat → Nat), aF Y p l s m meth c g A → aSc S ad0 s A →
    ∀ (ad : Nat → Nat) (H : Heap) (locs : List Loc) (ls0 : Array Slot), aR g A n0 ad0 s.heap n μ ad H locs → aL ad Y.nL n ls ls0 → (∀ v ∈ st, okV n v) →
      W p l e Y.rm s m args below meth c H locs k z (vx_MQ below (aQc g A n0 ad0 Q) (aXC g A n0 ad0 Q) args s Y.rm.cells Y.rm.slots A) (F0 m pc ls0 (st.map (cV ad)))
/-! ranges -/
theorem i_ti {z : Int} (h : iR z) : (Int32.ofInt z).toInt = z := by
  rw [Int32.toInt_ofInt]
  exact Int.bmod_eq_of_le (by have := h.1; simp only [Int32.size]; omega) (by have := h.2; simp only [Int32.size]; omega)
theorem l_ti {z : Int} (h : lR z) : (Int64.ofInt z).toInt = z := by
  rw [Int64.toInt_ofInt]
  exact Int.bmod_eq_of_le (by have := h.1; simp only [Int64.size]; omega) (by have := h.2; simp only [Int64.size]; omega)
theorem i_le {a b : Int} (ha : iR a) (hb : iR b) : Int32.ofInt a ≤ Int32.ofInt b ↔ a ≤ b := by rw [Int32.le_iff_toInt_le, i_ti ha, i_ti hb]
theorem i_lt {a b : Int} (ha : iR a) (hb : iR b) : Int32.ofInt a < Int32.ofInt b ↔ a < b := by rw [Int32.lt_iff_toInt_lt, i_ti ha, i_ti hb]
theorem i_eq {a b : Int} (ha : iR a) (hb : iR b) : Int32.ofInt a = Int32.ofInt b ↔ a = b := by rw [← Int32.toInt_inj, i_ti ha, i_ti hb]
theorem l_lt {a b : Int} (ha : lR a) (hb : lR b) : Int64.ofInt a < Int64.ofInt b ↔ a < b := by rw [Int64.lt_iff_toInt_lt, l_ti ha, l_ti hb]
theorem l_eq {a b : Int} (ha : lR a) (hb : lR b) : Int64.ofInt a = Int64.ofInt b ↔ a = b := by rw [← Int64.toInt_inj, l_ti ha, l_ti hb]
theorem i_0 : iR 0 := ⟨by decide, by decide⟩
theorem i_z : (Int32.ofInt 0) = 0 := rfl
theorem i_lt0 {a : Int} (ha : iR a) : Int32.ofInt a < 0 ↔ a < 0 := i_lt ha i_0
theorem i_le0 {a : Int} (ha : iR a) : Int32.ofInt a ≤ 0 ↔ a ≤ 0 := i_le ha i_0
theorem i_0le {a : Int} (ha : iR a) : 0 ≤ Int32.ofInt a ↔ 0 ≤ a := i_le i_0 ha
theorem i_0lt {a : Int} (ha : iR a) : 0 < Int32.ofInt a ↔ 0 < a := i_lt i_0 ha
theorem i_eq0 {a : Int} (ha : iR a) : Int32.ofInt a = 0 ↔ a = 0 := i_eq ha i_0
theorem i_nat {k : Nat} : Int32.ofInt (k : Int) = nI k := by
  unfold nI
  exact (Int32.ofInt_eq_ofNat (n := k))
theorem l_nat {k : Nat} : Int64.ofInt (k : Int) = lN k := by
  unfold lN
  exact (Int64.ofInt_eq_ofNat (n := k))
theorem i_clamp {k : Nat} (h : k < 2147483648) : (Int32.ofInt (k : Int)).toNatClampNeg = k := by rw [i_nat]; exact nI_clamp h
theorem i_in {k N : Nat} (h : k < N) (hN : N < 2147483648) : vp_in (Int32.ofInt (k : Int)) N := by rw [i_nat]; exact vp_in_nI h hN
