/-! ===== rows: arrays of arrays; catching; calls of methods with a table (by hand; vr_outer and vx_catch as the claim's names print them; multianewarray2F, fill_*, thenCaughtThrough are the library's) ===== -/
theorem vr_outer (c : ClassId) (N h0 : Nat) : ∀ i : Nat, Jvm.Free.Multi.outerC c N h0 i = arrV c N (fun j => va_rf (if j < i then some (h0 + 1 + j) else none))
  | 0 => by
    show ({ cls := c, slots := Array.replicate N .null, vm := .none } : Cell) = _
    rw [arrV_new]
    refine congrArg (arrV c N) (funext fun j => ?_)
    simp [va_rf]
  | i + 1 => by
    show (Jvm.Free.Multi.outerC c N h0 i).setSlot i (.ref (h0 + 1 + i)) = _
    rw [vr_outer c N h0 i, arrV_store]
    refine congrArg (arrV c N) (funext fun j => ?_)
    by_cases e : j = i
    · subst e
      simp [updV, va_rf]
    · simp only [updV, e, if_false]
      by_cases q : j < i
      · rw [if_pos q, if_pos (by omega)]
      · rw [if_neg q, if_neg (by omega)]
def mnH (μ : AH) (n N K : Nat) : AH := fun i => if i = n then oR 4 N (fun j => if j < N then some (n + 1 + j) else none) else if n < i ∧ i < n + 1 + N then oL K (fun _ => 0) else μ i
theorem mnH_o {μ : AH} {n N K : Nat} : mnH μ n N K n = oR 4 N (fun j => if j < N then some (n + 1 + j) else none) := if_pos rfl
theorem mnH_r {μ : AH} {n N K j : Nat} (h : j < N) : mnH μ n N K (n + 1 + j) = oL K (fun _ => 0) := (if_neg (by omega)).trans (if_pos (by omega))
theorem mnH_n {μ : AH} {n N K i : Nat} (h : i < n) : mnH μ n N K i = μ i := (if_neg (by omega)).trans (if_neg (by omega))
set_option maxHeartbeats 4000000 in
theorem aw_mna {Y : AY} {S : AScr} {Q : AQ} {pc q : Nat} {ls : List (Option AV)} {st : List AV} {n : Nat} {μ : AH} {k z : Nat} {a b : Int} {ix : Nat} (N K : Nat) (hd : decode Y.cc pc = .ok (.multianewarray ix 2, 4)) (hq : pc + 4 = q) (ha : a = (N : Int)) (hb : b = (K : Int)) (hN : N < 1000) (hK : K < 1000) (hw : Cond.classLink Y.y.cls ix "[[J" ∈ Tb) (hw2 : Cond.arrayClass .long ∈ Tb) (hn : n + 1 + N < SC) (hk : k + (1 + N) ≤ Y.rm.cells) (hz : z + (N + N * K) ≤ Y.rm.slots)
    (K9 : AW Y S Q q ls (vR n :: st) (n + 1 + N) (mnH μ n N K) (k + 1 + N) (z + N + N * K)) : AW Y S Q pc ls (vI b :: vI a :: st) n μ k z := by
  intro p l e s m args below meth c g A n0 ad0 F hS ad H locs ls0 hR hL ho
  subst hq
  subst ha
  subst hb
  obtain ⟨-, ho2⟩ := List.forall_mem_cons.mp ho
  obtain ⟨-, hst⟩ := List.forall_mem_cons.mp ho2
  have hC := F.2.2.2.2.2.2.2.2.2.1
  have hir : iR (N : Int) := ⟨by omega, by omega⟩
  have hir2 : iR (K : Int) := ⟨by omega, by omega⟩
  have cN : (Int32.ofInt (N : Int)).toNatClampNeg = N := i_clamp (by omega)
  have cK : (Int32.ofInt (K : Int)).toNatClampNeg = K := i_clamp (by omega)
  intro T hT X
  obtain ⟨vm₁, cA, comp, -, fA, fC, -, -, X', step⟩ := X.multianewarray2F F.1 (own := Y.y.cls) (index := ix) (ty := .long) F.2.2.2.2.2.1 (by rw [show "[" ++ (FieldType.array .long).toString = "[[J" from rfl]; exact hC.use _ hw) (AOA.use hC.2.2.2.2.2) (hC.use _ hw2) (g := F0 m pc ls0 ((vI (K : Int) :: vI (N : Int) :: st).map (cV ad))) rfl (by rw [F.2.1]; exact hd) (n := Int32.ofInt (N : Int)) (k := Int32.ofInt (K : Int)) (rest := st.map (cV ad)) rfl (fun h => by have := (i_lt0 hir).mp h; omega) (fun h => by have := (i_lt0 hir2).mp h; omega) (by rw [cN]; omega) (by rw [cK]; show K * 8 ≤ _; omega) (by rw [cK]; omega) rfl rfl (by rw [cN]; exact hk) (by rw [cN, cK]; exact hz)
  rw [cN, cK] at X' step
  have eA : cA = g.2 4 := by
    have h1 : s.vm.findClass ("[" ++ (FieldType.array .long).toString) = some (g.2 4) := (hC.1.2 4 (g.2 4, .array .long) rfl).2
    exact Option.some.inj (fA.symm.trans h1)
  have eC : comp = g.2 1 := by
    have h1 : s.vm.findClass ("[" ++ FieldType.long.toString) = some (g.2 1) := (hC.1.2 1 (g.2 1, .long) rfl).2
    exact Option.some.inj (fC.symm.trans h1)
  subst eA
  subst eC
  have hTh : (T.setVm vm₁).heap = H := hT
  obtain ⟨f1, f2, -, -⟩ := Jvm.Free.Multi.fill_facts (T.setVm vm₁) (g.2 4) (g.2 1) N K (defaultValue .long) N
  have f3 := fun (x : Nat) (hx : x < H.size) => Jvm.Free.Multi.fill_old (T.setVm vm₁) (g.2 4) (g.2 1) N K (defaultValue .long) (a := x) (by rw [hTh]; exact hx) N
  have f4 := Jvm.Free.Multi.fill_inner (T.setVm vm₁) (g.2 4) (g.2 1) N K (defaultValue .long) N
  generalize Jvm.Free.Multi.fill (T.setVm vm₁) (g.2 4) (g.2 1) N K (defaultValue .long) N = U at X' step f1 f2 f3 f4
  rw [hTh] at f1 f2 f4
  have f5 : ∀ x, x < H.size → U.heap[x]? = H[x]? := fun x hx => by
    have h9 := f3 x hx
    rw [hTh] at h9
    exact h9
  obtain ⟨ad', hE⟩ : ∃ ad' : Nat → Nat, ad' = fun i => if n ≤ i ∧ i < n + 1 + N then H.size + (i - n) else ad i := ⟨_, rfl⟩
  have e_old : ∀ i, i < n ∨ i = SC → ad' i = ad i := fun i h => by
    rw [hE]
    exact if_neg (by rcases h with h | h <;> omega)
  have e_new : ∀ j, j < N + 1 → ad' (n + j) = H.size + j := fun j hj => by
    rw [hE]
    show (if _ then _ else _) = _
    rw [if_pos (by omega)]
    omega
  have e0 : ad' n = H.size := e_new 0 (by omega)
  have hP1 : va_P g.1 vwCl (aW g ad n μ) U.heap := hR.1.kept (fun kk x hx => f5 x.1 (hR.1 kk x hx).lt)
  have hP' : va_P g.1 vwCl (aW g ad' (n + 1 + N) (mnH μ n N K)) U.heap := by
    intro kk x hx
    obtain ⟨h1, rfl⟩ := aW_inv hx
    by_cases h2 : kk < n
    · rw [mnH_n h2, e_old kk (Or.inl h2), cO_ad (hR.2.2.2.1.2 kk h2) e_old]
      exact hP1 kk _ (aW_get h2)
    · by_cases h3 : kk = n
      · subst h3
        rw [mnH_o]
        show U.heap[ad' kk]? = some (vp_cell (g.2 4) (N, .inr (.inr (.inr (.inr (fun j => (if j < N then some (kk + 1 + j) else none).map ad'))))))
        rw [e0, f2, vr_outer]
        refine congrArg some ?_
        rw [vp_cell_q]
        refine congrArg (arrV (g.2 4) N) (funext fun j => ?_)
        by_cases hj : j < N
        · rw [if_pos hj, if_pos hj]
          show va_rf (some _) = va_rf (some (ad' (kk + 1 + j)))
          rw [show kk + 1 + j = kk + (1 + j) by omega, e_new (1 + j) (by omega), Nat.add_assoc]
        · rw [if_neg hj, if_neg hj]
          rfl
      · obtain ⟨j, rfl, hj⟩ : ∃ j, kk = n + 1 + j ∧ j < N := ⟨kk - n - 1, by omega, by omega⟩
        rw [mnH_r hj]
        show U.heap[ad' (n + 1 + j)]? = some (vp_cell (g.2 1) (K, .inr (.inl (fun _ => Int64.ofInt 0))))
        rw [show n + 1 + j = n + (1 + j) by omega, e_new (1 + j) (by omega), ← Nat.add_assoc, f4 j hj]
        refine congrArg some ?_
        show ({ cls := g.2 1, slots := Array.replicate K (.long 0), vm := .none } : Cell) = arrV (g.2 1) K (fun _ => .long (Int64.ofInt 0))
        first | rfl | (rw [arrV_new]; rfl)
  have hlt : ∀ i, i < n → ad i < H.size := fun i hi => (hR.1 i _ (aW_get hi)).lt
  have hnw : ∀ i, ¬ i < n → i < n + 1 + N → ad' i = H.size + (i - n) := fun i h1 h2 => by
    have := e_new (i - n) (by omega)
    rwa [show n + (i - n) = i by omega] at this
  have hD' : va_D A (aW g ad' (n + 1 + N) (mnH μ n N K)) := by
    refine ⟨fun i j x y hi hj hxy => ?_, fun kk x hx => ?_⟩
    · obtain ⟨a1, rfl⟩ := aW_inv hi
      obtain ⟨a2, rfl⟩ := aW_inv hj
      have hxy : ad' i = ad' j := hxy
      by_cases h1 : i < n <;> by_cases h2 : j < n
      · rw [e_old i (Or.inl h1), e_old j (Or.inl h2)] at hxy
        exact hR.2.1.1 i j _ _ (aW_get h1) (aW_get h2) hxy
      · rw [e_old i (Or.inl h1), hnw j h2 a2] at hxy
        have := hlt i h1
        omega
      · rw [e_old j (Or.inl h2), hnw i h1 a1] at hxy
        have := hlt j h2
        omega
      · rw [hnw i h1 a1, hnw j h2 a2] at hxy
        omega
    · obtain ⟨a1, rfl⟩ := aW_inv hx
      show A (ad' kk)
      by_cases h1 : kk < n
      · rw [e_old kk (Or.inl h1)]
        exact hR.2.1.2 kk _ (aW_get h1)
      · rw [hnw kk h1 a1]
        exact F.2.2.2.2.2.2.2.2.2.2.1 _ (by have := hR.2.2.1.1; omega)
  have hok : okH (n + 1 + N) (mnH μ n N K) := ⟨hn, fun i hi => by
    by_cases h2 : i < n
    · rw [mnH_n h2]; exact okO_mono (by omega) (hR.2.2.2.1.2 i h2)
    · by_cases h3 : i = n
      · subst h3
        rw [mnH_o]
        intro j a h
        dsimp only at h
        split at h
        · cases h; omega
        · cases h
      · obtain ⟨j, rfl, hj⟩ : ∃ j, i = n + 1 + j ∧ j < N := ⟨i - n - 1, by omega, by omega⟩
        rw [mnH_r hj]
        exact fun _ => l_0⟩
  have hK := K9 p l e s m args below meth c g A n0 ad0 F hS ad' U.heap locs ls0 ⟨hP', hD', ⟨by rw [f1]; have := hR.2.2.1.1; omega, fun x h1 h2 => (f5 x (Nat.lt_of_lt_of_le h1 hR.2.2.1.1)).trans (hR.2.2.1.2.1 x h1 h2), hR.2.2.1.2.2⟩, hok, by have := hR.2.2.2.2.1; omega, fun i hi => by rw [e_old i (hi.imp_left (fun h => Nat.lt_of_lt_of_le h hR.2.2.2.2.1))]; exact hR.2.2.2.2.2 i hi⟩ ⟨hL.1, hL.2.1, fun i v hv => by
    obtain ⟨c1, c2⟩ := hL.2.2 i v hv
    exact ⟨by rw [cV_ad c2 e_old]; exact c1, okV_mono (by omega) c2⟩⟩ (List.forall_mem_cons.mpr ⟨show n < n + 1 + N by omega, fun v hv => okV_mono (by omega) (hst v hv)⟩)
  have e2 : (vR n :: st).map (cV ad') = .ref T.heap.size :: st.map (cV ad) := by
    rw [List.map_cons, cVs_ad hst e_old]
    show Value.ref (ad' n) :: _ = _
    rw [e0, hT]
  rw [e2] at hK
  obtain ⟨t, a1, b1⟩ := hK U rfl X'
  exact ⟨t, step t a1, b1⟩
theorem vx_catch {p : Program} {l : Launch} {e : Env} {R : Room} {s : State} {m : MethodId} {args : Array Value} {below : List Frame} {meth : Method} {c : Code} {H : Heap} {locs : List Loc} {cells slots : Nat} {Q : State → Prop} {pc : Nat} {ls : Array Slot} {rest : List Value} {own name : String} {E : String} {ce : Cell} {q : Addr} (hown : s.vm.findClass own = some m.cls) (pre : List ExceptionTableEntry) (x : ExceptionTableEntry) (suf : List ExceptionTableEntry) (hsplit : c.exceptionTable.toList = pre ++ x :: suf)
    (hpass : ∀ z ∈ pre, covers z pc = false ∨ (z.catchType ≠ 0 ∧ ∃ nm : String, (Cond.classLink own z.catchType nm).before args s = true ∧ va_Nc E nm s)) (hx : covers x pc = true) (h0 : x.catchType ≠ 0)
    (hlink : (Cond.classLink own x.catchType name).before args s = true) (hcast : (Cond.castable E name).before args s = true) (hcell : H[q]? = some ce) (hv : ce.vm = .none) (hcl : s.vm.findClass E = some ce.cls)
    (kk : W p l e R s m args below meth c H locs cells slots Q (F0 m x.handlerPc ls [.ref q])) : vx_W p l e R s m args below meth c H locs cells slots Q (F0 m pc ls rest) q := by
  intro T hT X
  have hpl : e.platform.magicAccessors = ({} : Platform).magicAccessors := by rw [X.admits.platform]
  obtain ⟨c3, c4, hc3, hc4, hasg⟩ := Cond.castable_spec hcast
  cases Option.some.inj (hc3.symm.trans hcl)
  obtain ⟨c5, hc5, hcl5⟩ := Cond.classLink_spec hown hlink e.platform hpl
  cases Option.some.inj (hc4.symm.trans hc5)
  obtain ⟨vm', X', st⟩ := X.thenCaughtThrough q (g := F0 m pc ls rest) rfl (Steps.refl _) (by rw [hT]; exact hcell) (by rw [hv]; rfl) (by obtain ⟨k9, h9, -⟩ := Vm.findClass_spec hcl; exact ⟨k9, h9⟩) pre x suf hsplit
    (fun z hz => by
      rcases hpass z hz with h | ⟨hz0, nm, hl1, hn1⟩
      · exact Or.inl h
      · obtain ⟨c6, hc6, hcl6⟩ := Cond.classLink_spec hown hl1 e.platform hpl
        obtain ⟨a8, b8, h1, h2, h3⟩ := hn1
        cases Option.some.inj (h1.symm.trans hcl)
        cases Option.some.inj (h2.symm.trans hc6)
        exact Or.inr ⟨hz0, _, hcl6, h3⟩) hx (Or.inr ⟨h0, c4, hcl5, hasg⟩)
  obtain ⟨t, a1, b1⟩ := kk (T.setVm vm') hT X'
  exact ⟨t, st.trans a1, b1⟩
/-- an exception E flies at pc -/
def AX (Y : AY) (S : AScr) (Q : AQ) (pc : Nat) (E : String) (n : Nat) (μ : AH) (k z : Nat) : Prop :=
  ∀ (p : Program) (l : Launch) (e : Env) (s : State) (m : MethodId) (args : Array Value) (below : List Frame) (meth : Method) (c : Code) (g : aG) (A : Nat → Prop) (n0 : Nat) (ad0 : Nat → Nat), aF Y p l s m meth c g A → aSc S ad0 s A →
    ∀ (ad : Nat → Nat) (H : Heap) (locs : List Loc) (ls0 : Array Slot) (ce : Cell) (x : Addr) (rest : List Value), aR g A n0 ad0 s.heap n μ ad H locs → ls0.size = Y.nL → lv_wf ls0 → H[x]? = some ce → ce.vm = .none → s.vm.findClass E = some ce.cls →
      vx_W p l e Y.rm s m args below meth c H locs k z (vx_MQ below (aQc g A n0 ad0 Q) (aXC g A n0 ad0 Q) args s Y.rm.cells Y.rm.slots A) (F0 m pc ls0 rest) x
def xE (y : Nat × Nat × Nat × Nat) : ExceptionTableEntry := ⟨y.1, y.2.1, y.2.2.1, y.2.2.2⟩
section AXs
variable {Y : AY} {S : AScr} {Q : AQ} {pc q : Nat} {ls : List (Option AV)} {st : List AV} {n : Nat} {μ : AH} {k z : Nat}
theorem ax_c {E name : String} (pre suf : List (Nat × Nat × Nat × Nat)) (x : Nat × Nat × Nat × Nat) (hsp : Y.hh = pre ++ x :: suf) (hpass : ∀ y ∈ pre, y.2.2.2 ≠ 0 ∧ ∃ nm, Cond.classLink Y.y.cls y.2.2.2 nm ∈ Tb ∧ (E, nm) ∈ ncs) (hx : covers (xE x) pc = true) (h0 : x.2.2.2 ≠ 0) (hlink : Cond.classLink Y.y.cls x.2.2.2 name ∈ Tb) (hcast : Cond.castable E name ∈ Tb)
    (hd : (∃ j : Fin 4, decode Y.cc x.2.2.1 = .ok (.astore_n j, 1) ∧ (j : Nat) < Y.nL ∧ x.2.2.1 + 1 = q) ∨ (∃ j : Nat, decode Y.cc x.2.2.1 = .ok (.astore j, 2) ∧ j < Y.nL ∧ x.2.2.1 + 2 = q)) (K : AW Y S Q q [] [] n μ k z) : AX Y S Q pc E n μ k z := by
  intro p l e s m args below meth c g A n0 ad0 F hS ad H locs ls0 ce xa rest hR hsz hwf h1 h2 h3
  have hC := F.2.2.2.2.2.2.2.2.2.1
  refine vx_catch (own := Y.y.cls) (name := name) (E := E) F.2.2.2.2.2.1 (tableOf pre) (xE x) (tableOf suf) ?_ ?_ hx h0 (hC.use _ hlink) (hC.use _ hcast) h1 h2 h3 ?_
  · rw [F.2.2.2.2.2.2.2.1, hsp]
    unfold tableOf
    rw [List.map_append, List.map_cons]
    rfl
  · intro y hy
    unfold tableOf at hy
    obtain ⟨y0, hy0, rfl⟩ := List.mem_map.mp hy
    obtain ⟨a1, nm, a2, a3⟩ := hpass y0 hy0
    exact Or.inr ⟨a1, nm, hC.use _ a2, hC.2.2.1 (E, nm) a3⟩
  · rcases hd with ⟨j, d1, d2, rfl⟩ | ⟨j, d1, d2, rfl⟩
    · refine lv_astore_n (nL := Y.nL) (lv := []) F.1 F.2.1 d1 rfl ⟨hsz, hwf, fun q hq => by cases hq⟩ d2 rfl (fun ls1' hl1 => ?_)
      exact K p l e s m args below meth c g A n0 ad0 F hS ad H locs ls1' hR ⟨hl1.1, hl1.2.1, fun i v hv => by simp at hv⟩ (fun v hv => by cases hv)
    · refine lv_astore (nL := Y.nL) (lv := []) F.1 F.2.1 d1 ⟨hsz, hwf, fun q hq => by cases hq⟩ d2 rfl (fun ls1' hl1 => ?_)
      exact K p l e s m args below meth c g A n0 ad0 F hS ad H locs ls1' hR ⟨hl1.1, hl1.2.1, fun i v hv => by simp at hv⟩ (fun v hv => by cases hv)
/-- a call in a method with a table -/
theorem aw_callVC {Y' : AY} {Q' : AQ} {ix na a ci : Nat} {fs : List AV} {st0 : List AV} (As : List AV) (hd : decode Y.cc pc = .ok (.invokevirtual ix, 3)) (hq : pc + 3 = q) (hc : CK Y' na) (hl : LV Y.y.cls ix Y') (hh : Y'.hh = []) (hr : RMok Y Y') (hn : As.length = na) (hs : As.reverse ++ vR a :: st = st0) (hm : μ a = oO ci fs) (hci : (vwCl[ci]?).map (fun x => x.1) = some Y'.y.cls) (hw : wt st ≤ 8) (hf : k + Y'.rm.cells ≤ Y.rm.cells ∧ z + Y'.rm.slots ≤ Y.rm.slots) (hM : AMet Y' (vR a :: As) n μ Q')
    (KX : ∀ E n' μ', Q' (.inr E) n' μ' → AX Y S Q pc E n' μ' (k + Y'.rm.cells) (z + Y'.rm.slots)) (K : ∀ v n' μ', n ≤ n' → Q' (.inl v) n' μ' → AW Y S Q q ls (v.toList ++ st) n' μ' (k + Y'.rm.cells) (z + Y'.rm.slots)) : AW Y S Q pc ls st0 n μ k z := by
  subst hs
  subst hq
  intro p l e s m args below meth c g A n0 ad0 F hS ad H locs ls0 hR hL ho
  have hst : ∀ v ∈ st, okV n v := fun v hv => ho v (List.mem_append_right _ (List.mem_cons_of_mem _ hv))
  have hAs : ∀ v ∈ vR a :: As, okV n v := fun v hv => by
    rcases List.mem_cons.mp hv with rfl | hv
    · exact ho _ (List.mem_append_right _ List.mem_cons_self)
    · exact ho v (List.mem_append_left _ (List.mem_reverse.mpr hv))
  have hn9 : a < n := hAs _ List.mem_cons_self
  have hC := F.2.2.2.2.2.2.2.2.2.1
  obtain ⟨cq, hcq, hcn⟩ : ∃ cq, vwCl[ci]? = some cq ∧ cq.1 = Y'.y.cls := by
    cases hv : vwCl[ci]? with
    | none => rw [hv] at hci; cases hci
    | some cq => rw [hv] at hci; exact ⟨cq, rfl, Option.some.inj hci⟩
  have hrec : ∃ cellB : Cell, H[ad a]? = some cellB ∧ cellB.vm.isStatics = false ∧ s.vm.findClass Y'.y.cls = some cellB.cls := by
    rw [← hcn]
    exact va_recv hC.1 hR.1 hcq (q0 := a) (fs := fs.map (cV ad)) (by rw [aW_get hn9, hm]; rfl)
  refine aw_behind (Q' := Q') (st := st) (As := As) F hS hR hL hst (vx_runV (C := Y'.y.cls) (b := ad a) (As := As.map (cV ad)) (Ts := Tb) ⟨F.1, F.2.1, F.2.2.1, F.2.2.2.2.2.1, hC.use⟩ (hM l g ad H.size F.2.2.2.2.2.2.2.2.1) ⟨CK_B hc hh hr hl.1 hC, hC.use _ hl.2.1, hC.use _ hl.2.2⟩ ⟨aPc_blind, hrec, aPc_of F hR hAs⟩ rfl (by rw [List.length_map]; exact hn) hL.1 (by rw [List.map_append, List.map_reverse]; rfl) (lv_room (by rw [wt_c]; exact hw)) hd hf) K ?_
  intro E n' μ' _ hE ad' H1 locs1 ce x hR1 hL1 _ c1 c2 c3
  exact KX E n' μ' hE p l e s m args below meth c g A n0 ad0 F hS ad' H1 locs1 ls0 ce x _ hR1 hL1.1 hL1.2.1 c1 c2 c3
theorem CK_H {Y' : AY} {na : Nat} (h : CK Y' na) (hh : Y'.hh ≠ []) (hR : RMok Y Y') {own : String} {ix : Nat} (hl : LSt own ix Y') {g : aG} {s : State} {args : Array Value} (hC : aC g s) : vx_CSW Y.rm s args own ix Y'.y Y'.cc Y'.nL Y'.ret Y'.hh [cw Y'] Y'.rm Y'.rm.cells Y'.rm.slots na := by
  obtain ⟨h1, h2, h3, h4, h5⟩ := h
  have e : cw Y' = Cond.codeWith Y'.y Y'.cc Y'.nL Y'.ret Y'.hh := by
    unfold cw
    split
    · rename_i h; exact absurd h hh
    · rfl
  refine ⟨⟨rfl, rfl, hR.1, hR.2, fun w hw a' U hW => ?_, by rw [e]; exact List.mem_cons_self⟩, by rw [← e]; exact hC.use _ h1, hC.use _ h2, ⟨h3, h4⟩, fun sig hs => ?_, hC.use _ hl.1, hC.use _ hl.2⟩
  · rw [List.mem_singleton] at hw
    subst hw
    exact (hC.warm hW).use _ h1
  · rw [hs] at h5
    exact (Option.some.inj h5).symm
/-- a static method with a table is called -/
theorem aw_callSH {Y' : AY} {Q' : AQ} {ix na : Nat} {st0 : List AV} (As : List AV) (hd : decode Y.cc pc = .ok (.invokestatic ix, 3)) (hq : pc + 3 = q) (hc : CK Y' na) (hl : LSt Y.y.cls ix Y') (hh : Y'.hh ≠ []) (hr : RMok Y Y') (hn : As.length = na) (hs : As.reverse ++ st = st0) (hw : wt st ≤ 8) (hf : k + Y'.rm.cells ≤ Y.rm.cells ∧ z + Y'.rm.slots ≤ Y.rm.slots) (hM : AMet Y' As n μ Q')
    (KX : ∀ E n' μ', ¬ Q' (.inr E) n' μ') (K : ∀ v n' μ', n ≤ n' → Q' (.inl v) n' μ' → AW Y S Q q ls (v.toList ++ st) n' μ' (k + Y'.rm.cells) (z + Y'.rm.slots)) : AW Y S Q pc ls st0 n μ k z := by
  subst hs
  subst hq
  intro p l e s m args below meth c g A n0 ad0 F hS ad H locs ls0 hR hL ho
  have hst : ∀ v ∈ st, okV n v := fun v hv => ho v (List.mem_append_right _ hv)
  have hAs : ∀ v ∈ As, okV n v := fun v hv => ho v (List.mem_append_left _ (List.mem_reverse.mpr hv))
  refine aw_behind (Q' := Q') (st := st) (As := As) F hS hR hL hst (vx_runSX (hh := Y'.hh) (As := As.map (cV ad)) (Ts := Tb) ⟨F.1, F.2.1, F.2.2.1, F.2.2.2.2.2.1, F.2.2.2.2.2.2.2.2.2.1.use⟩ (hM l g ad H.size F.2.2.2.2.2.2.2.2.1) (CK_H hc hh hr hl F.2.2.2.2.2.2.2.2.2.1) ⟨aPc_blind, aPc_of F hR hAs⟩ rfl (by rw [List.length_map]; exact hn) hL.1 (by rw [List.map_append, List.map_reverse]) (lv_room (by rw [wt_c]; exact hw)) hd hf) K ?_
  intro E n' μ' _ hE ad' H1 locs1 ce x hR1 _ _ c1 c2 c3
  exact (KX E n' μ' hE).elim
end AXs
