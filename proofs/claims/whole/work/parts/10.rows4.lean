/-! ===== rows: calls ===== -/
section CR
variable {Y : AY} {S : AScr} {Q : AQ} {pc q : Nat} {ls : List (Option AV)} {st : List AV} {n : Nat} {μ : AH} {k z : Nat}
theorem aPc_blind {g : aG} {As : List AV} {ad : Nat → Nat} {sz : Nat} : FrameBlind (aPc g As n μ ad sz) := by
  intro a U gg mk h
  obtain ⟨h1, h2, h3, h4, h5, h6, h7, h8, h9⟩ := h
  have hW : U.WarmedH (U.calling gg mk a).vm := State.WarmedH.refl U
  exact ⟨h1, h2, h3, h4, h5, h6, h7.warm hW, vx_Zq.moved (u := U) (U := U.calling gg mk a) (Vm.Alike.refl U.vm) h8, vx_Zq.moved (u := U) (U := U.calling gg mk a) (Vm.Alike.refl U.vm) h9⟩
theorem aA_sub {g : aG} {A : Nat → Prop} {n0 : Nat} {ad0 : Nat → Nat} {s : State} {ad : Nat → Nat} {H : Heap} {locs : List Loc} (hA : ∀ x, s.heap.size ≤ x → A x) (hR : aR g A n0 ad0 s.heap n μ ad H locs) : ∀ x, aA n ad H.size x → A x := by
  intro x hx
  rcases hx with ⟨i, hi, rfl⟩ | hx
  · exact hR.2.1.2 i _ (aW_get hi)
  · exact hA x (Nat.le_trans hR.2.2.1.1 hx)
theorem aPc_of {As : List AV} {p : Program} {l : Launch} {s : State} {m : MethodId} {meth : Method} {c : Code} {g : aG} {A : Nat → Prop} {n0 : Nat} {ad0 ad : Nat → Nat} {H : Heap} {locs : List Loc} (F : aF Y p l s m meth c g A) (hR : aR g A n0 ad0 s.heap n μ ad H locs) (hAs : ∀ w ∈ As, okV n w) : ∀ U : State, U.heap = H → s.WarmedH U.vm → aPc g As n μ ad H.size (As.map (cV ad)).toArray U := by
  intro U hU hW
  obtain ⟨hx, hb, hml, hr, hlk, hown, hnm, htab, hst, hC, hA, hZ, hN⟩ := F
  refine ⟨rfl, by rw [hU], by rw [hU]; exact hR.1, hR.2.1.weaken (fun _ _ _ _ => trivial), hR.2.2.2.1, hAs, hC.warm hW, ?_, ?_⟩
  · rw [hU]
    exact vx_Zq.narrow (vx_Zq.moved hW.alike (hZ.kept hR.2.2.1.2.1)) (aA_sub hA hR)
  · rw [hU]
    exact vx_Zq.narrow (vx_Zq.moved hW.alike (hN.kept hR.2.2.1.2.1)) (aA_sub hA hR)
/-- behind a call: it has returned, or thrown (then a method without a table throws, too) -/
theorem aw_behind {Q' : AQ} {As : List AV} {mc ms : Nat} {a9 : Array Value} {p : Program} {l : Launch} {e : Env} {s : State} {m : MethodId} {args : Array Value} {below : List Frame} {meth : Method} {c : Code} {g : aG} {A : Nat → Prop} {n0 : Nat} {ad0 ad : Nat → Nat} {H : Heap} {locs : List Loc} {ls0 : Array Slot} {st0 : List Value}
    (F : aF Y p l s m meth c g A) (hS : aSc S ad0 s A) (hR : aR g A n0 ad0 s.heap n μ ad H locs) (hL : aL ad Y.nL n ls ls0) (ho : ∀ v ∈ st, okV n v)
    (hrun : vx_Run p l e Y.rm s m args below meth c H locs k z mc ms (F0 m pc ls0 st0) (st.map (cV ad)) (aQc g (aA n ad H.size) n ad Q' a9) (aXC g (aA n ad H.size) n ad Q') (aA n ad H.size))
    (K : ∀ v n' μ', n ≤ n' → Q' (.inl v) n' μ' → AW Y S Q (pc + 3) ls (v.toList ++ st) n' μ' (k + mc) (z + ms))
    (KX : ∀ E n' μ', n ≤ n' → Q' (.inr E) n' μ' → ∀ (ad' : Nat → Nat) (H1 : Heap) (locs1 : List Loc) (ce : Cell) (x : Addr), aR g A n0 ad0 s.heap n' μ' ad' H1 locs1 → aL ad' Y.nL n' ls ls0 → (∀ v ∈ st, okV n' v) → H1[x]? = some ce → ce.vm = .none → s.vm.findClass E = some ce.cls →
      vx_W p l e Y.rm s m args below meth c H1 locs1 (k + mc) (z + ms) (vx_MQ below (aQc g A n0 ad0 Q) (aXC g A n0 ad0 Q) args s Y.rm.cells Y.rm.slots A) (F0 m pc ls0 (st.map (cV ad'))) x) :
    W p l e Y.rm s m args below meth c H locs k z (vx_MQ below (aQc g A n0 ad0 Q) (aXC g A n0 ad0 Q) args s Y.rm.cells Y.rm.slots A) (F0 m pc ls0 st0) := by
  have hsub := aA_sub F.2.2.2.2.2.2.2.2.2.2.1 hR
  have both : ∀ (u : Nat × AH × (Nat → Nat)) (st₀ t T' : State) (L : List Loc), st₀.heap = H → T'.heap = t.heap → (∀ x ∈ L, aA n ad H.size x.base) → aB g (aA n ad H.size) n ad u t → va_F (aA n ad H.size) st₀ t →
      aR g A n0 ad0 s.heap u.1 u.2.1 u.2.2 T'.heap (locs ++ L) ∧ aL u.2.2 Y.nL u.1 ls ls0 ∧ (∀ v ∈ st, okV u.1 v) ∧ st.map (cV u.2.2) = st.map (cV ad) ∧ n ≤ u.1 := by
    intro u st₀ t T' L h0 e1 hLm hB hF
    obtain ⟨b1, b2, b3, b4, b5⟩ := hB
    obtain ⟨-, -, k3⟩ := vx_keep h0 e1 hR.2.2.1 (fun x _ h => hsub x h) hsub hLm hF
    refine ⟨⟨by rw [e1]; exact b1, b2.weaken (fun _ _ _ h => hsub _ h), k3, b3, Nat.le_trans hR.2.2.2.2.1 b4, fun i hi => ?_⟩, ⟨hL.1, hL.2.1, fun i v hv => ?_⟩, fun v hv => okV_mono b4 (ho v hv), cVs_ad ho b5, b4⟩
    · rw [b5 i (hi.imp_left (fun h => Nat.lt_of_lt_of_le h hR.2.2.2.2.1))]
      exact hR.2.2.2.2.2 i hi
    · obtain ⟨c1, c2⟩ := hL.2.2 i v hv
      exact ⟨by rw [cV_ad c2 b5]; exact c1, okV_mono b4 c2⟩
  intro T hT X
  rcases hrun T hT X with ⟨v, st₀, t, T', L, h0, X', hLm, e1, e2, ⟨⟨v', u, hv, hvo, hq, hB⟩, hF⟩, stp⟩ | ⟨x, st₀, t, T', L, E, ce, h0, X', hLm, e1, e2, ⟨u, hq, hB, hF⟩, hce, hcv, hcl, stp⟩
  · obtain ⟨r1, r2, r3, r4, r5⟩ := both u st₀ t T' L h0 e1 hLm hB hF
    cases hv
    have ho2 : ∀ w ∈ v'.toList ++ st, okV u.1 w := fun w hw => by
      rcases List.mem_append.mp hw with h | h
      · exact hvo w (by simpa using h)
      · exact r3 w h
    obtain ⟨t2, a1, b1⟩ := K v' u.1 u.2.1 r5 hq p l e s m args below meth c g A n0 ad0 F hS u.2.2 T'.heap (locs ++ L) ls0 r1 r2 ho2 T' rfl X'
    refine ⟨t2, stp t2 ?_, b1⟩
    have e3 : (v'.map (cV u.2.2)).toList ++ st.map (cV ad) = (v'.toList ++ st).map (cV u.2.2) := by
      rw [List.map_append, r4]
      cases v' <;> rfl
    rw [e3]
    exact a1
  · obtain ⟨r1, r2, r3, r4, r5⟩ := both u st₀ t T' L h0 e1 hLm hB hF
    obtain ⟨t2, a1, b1⟩ := KX E u.1 u.2.1 r5 hq u.2.2 T'.heap (locs ++ L) ce x r1 r2 r3 (by rw [e1]; exact hce) hcv hcl T' rfl X'
    refine ⟨t2, stp.trans ?_, b1⟩
    rw [r4] at a1
    exact a1
/-- a method without a table throws what its callee throws -/
theorem aw_out {p : Program} {l : Launch} {e : Env} {s : State} {m : MethodId} {args : Array Value} {below : List Frame} {meth : Method} {c : Code} {g : aG} {A : Nat → Prop} {n0 : Nat} {ad0 : Nat → Nat} {ls0 : Array Slot} (F : aF Y p l s m meth c g A) (hh : Y.hh = []) {E : String} {n' : Nat} {μ' : AH} (hQ : Q (.inr E) n' μ') (hc : k ≤ Y.rm.cells) (hz : z ≤ Y.rm.slots) {ad' : Nat → Nat} {H1 : Heap} {locs1 : List Loc} {ce : Cell} {x : Addr} (hR : aR g A n0 ad0 s.heap n' μ' ad' H1 locs1) (h1 : H1[x]? = some ce) (h2 : ce.vm = .none) (h3 : s.vm.findClass E = some ce.cls) {rest : List Value} :
    vx_W p l e Y.rm s m args below meth c H1 locs1 k z (vx_MQ below (aQc g A n0 ad0 Q) (aXC g A n0 ad0 Q) args s Y.rm.cells Y.rm.slots A) (F0 m pc ls0 rest) x := by
  refine vx_out (fun y hy => ?_) F.2.2.2.2.1 h1 h2 h3 (fun t ht _ => ?_) hR.2.2.1.2.2 hc hz
  · rw [F.2.2.2.2.2.2.2.1, hh] at hy
    cases hy
  · exact ⟨(n', μ', ad'), hQ, by rw [aB, ht]; exact ⟨hR.1, hR.2.1, hR.2.2.2⟩, hR.2.2.1.F ht⟩
/-! links of calls -/
def CK (Y' : AY) (na : Nat) : Prop := cw Y' ∈ Tb ∧ Cond.initialized Y'.y.cls ∈ Tb ∧ Y'.y.cls ≠ "java/lang/invoke/MethodHandle" ∧ Y'.y.cls ≠ "java/lang/invoke/VarHandle" ∧ (parseMethodDescriptor Y'.y.desc).map (fun d => d.parameters.length) = some na
def LSt (own : String) (ix : Nat) (Y' : AY) : Prop := Cond.methodLink own ix Y'.y ∈ Tb ∧ Cond.static Y'.y ∈ Tb
def LV (own : String) (ix : Nat) (Y' : AY) : Prop := Cond.methodLink own ix Y'.y ∈ Tb ∧ Cond.instanceMethod Y'.y ∈ Tb ∧ Cond.selects Y'.y.cls Y'.y Y'.y ∈ Tb
def LI (own : String) (ix : Nat) (Y' : AY) : Prop := Cond.methodLink own ix Y'.y ∈ Tb ∧ Cond.instanceMethod Y'.y ∈ Tb ∧ Y'.y.name = "<init>"
def RMok (Y Y' : AY) : Prop := Y'.rm.frames + 1 ≤ Y.rm.frames ∧ 8 + (Y'.nL + 11) + Y'.rm.locals ≤ Y.rm.locals
/-- the weight of a stack -/
def wt (st : List AV) : Nat := (st.map fun v => if isC1 v then 1 else 2).sum
theorem wt_c (ad : Nat → Nat) : ((st.map (cV ad)).map fun v => v.category).sum = wt st := by
  unfold wt
  congr 1
  rw [List.map_map]
  apply List.map_congr_left
  intro v _
  show (cV ad v).category = _
  cases hcv : isC1 v
  · rw [(cat2 ad).mpr hcv]; rfl
  · rw [cat1 hcv ad]; rfl
theorem CK_B {Y' : AY} {na : Nat} (h : CK Y' na) (hh : Y'.hh = []) (hR : RMok Y Y') {own : String} {ix : Nat} (hl : Cond.methodLink own ix Y'.y ∈ Tb) {g : aG} {s : State} {args : Array Value} (hC : aC g s) : CallB Y.rm s args own ix Y'.y Y'.cc Y'.nL Y'.ret [cw Y'] Y'.rm Y'.rm.cells Y'.rm.slots na := by
  obtain ⟨h1, h2, h3, h4, h5⟩ := h
  have e : cw Y' = Cond.code Y'.y Y'.cc Y'.nL Y'.ret := by unfold cw; rw [hh]
  refine ⟨rfl, rfl, hR.1, hR.2, fun w hw a' U hW => ?_, by rw [e]; exact List.mem_cons_self, by rw [← e]; exact hC.use _ h1, hC.use _ h2, ⟨h3, h4⟩, fun sig hs => ?_, hC.use _ hl⟩
  · rw [List.mem_singleton] at hw
    subst hw
    exact (hC.warm hW).use _ h1
  · rw [hs] at h5
    exact (Option.some.inj h5).symm
theorem aw_callS {Y' : AY} {Q' : AQ} {ix na : Nat} {st0 : List AV} (As : List AV) (hd : decode Y.cc pc = .ok (.invokestatic ix, 3)) (hq : pc + 3 = q) (hc : CK Y' na) (hl : LSt Y.y.cls ix Y') (hh : Y'.hh = []) (hr : RMok Y Y') (hn : As.length = na) (hs : As.reverse ++ st = st0) (hw : wt st ≤ 8) (hf : k + Y'.rm.cells ≤ Y.rm.cells ∧ z + Y'.rm.slots ≤ Y.rm.slots) (hM : AMet Y' As n μ Q') (hY : Y.hh = [])
    (KX : ∀ E n' μ', Q' (.inr E) n' μ' → Q (.inr E) n' μ') (K : ∀ v n' μ', n ≤ n' → Q' (.inl v) n' μ' → AW Y S Q q ls (v.toList ++ st) n' μ' (k + Y'.rm.cells) (z + Y'.rm.slots)) : AW Y S Q pc ls st0 n μ k z := by
  subst hs
  subst hq
  intro p l e s m args below meth c g A n0 ad0 F hS ad H locs ls0 hR hL ho
  have hst : ∀ v ∈ st, okV n v := fun v hv => ho v (List.mem_append_right _ hv)
  have hAs : ∀ v ∈ As, okV n v := fun v hv => ho v (List.mem_append_left _ (List.mem_reverse.mpr hv))
  refine aw_behind (Q' := Q') (st := st) (As := As) F hS hR hL hst (vx_runS (As := As.map (cV ad)) (Ts := Tb) ⟨F.1, F.2.1, F.2.2.1, F.2.2.2.2.2.1, F.2.2.2.2.2.2.2.2.2.1.use⟩ (hM l g ad H.size F.2.2.2.2.2.2.2.2.1) ⟨CK_B hc hh hr hl.1 F.2.2.2.2.2.2.2.2.2.1, F.2.2.2.2.2.2.2.2.2.1.use _ hl.2⟩ ⟨aPc_blind, aPc_of F hR hAs⟩ rfl (by rw [List.length_map]; exact hn) hL.1 (by rw [List.map_append, List.map_reverse]) (lv_room (by rw [wt_c]; exact hw)) hd hf) K ?_
  intro E n' μ' _ hE ad' H1 locs1 ce x hR1 _ _ c1 c2 c3
  exact aw_out F hY (KX E n' μ' hE) hf.1 hf.2 hR1 c1 c2 c3
theorem aw_callV {Y' : AY} {Q' : AQ} {ix na a ci : Nat} {fs : List AV} {st0 : List AV} (As : List AV) (hd : decode Y.cc pc = .ok (.invokevirtual ix, 3)) (hq : pc + 3 = q) (hc : CK Y' na) (hl : LV Y.y.cls ix Y') (hh : Y'.hh = []) (hr : RMok Y Y') (hn : As.length = na) (hs : As.reverse ++ vR a :: st = st0) (hm : μ a = oO ci fs) (hci : (vwCl[ci]?).map (fun x => x.1) = some Y'.y.cls) (hw : wt st ≤ 8) (hf : k + Y'.rm.cells ≤ Y.rm.cells ∧ z + Y'.rm.slots ≤ Y.rm.slots) (hM : AMet Y' (vR a :: As) n μ Q') (hY : Y.hh = [])
    (KX : ∀ E n' μ', Q' (.inr E) n' μ' → Q (.inr E) n' μ') (K : ∀ v n' μ', n ≤ n' → Q' (.inl v) n' μ' → AW Y S Q q ls (v.toList ++ st) n' μ' (k + Y'.rm.cells) (z + Y'.rm.slots)) : AW Y S Q pc ls st0 n μ k z := by
  subst hs
  subst hq
  intro p l e s m args below meth c g A n0 ad0 F hS ad H locs ls0 hR hL ho
  have hst : ∀ v ∈ st, okV n v := fun v hv => ho v (List.mem_append_right _ (List.mem_cons_of_mem _ hv))
  have hAs : ∀ v ∈ vR a :: As, okV n v := fun v hv => by
    rcases List.mem_cons.mp hv with rfl | hv
    · exact ho _ (List.mem_append_right _ List.mem_cons_self)
    · exact ho v (List.mem_append_left _ (List.mem_reverse.mpr hv))
  have hn9 : a < n := hAs _ List.mem_cons_self
  have hC := F.2.2.2.2.2.2.2.2.2.1
  obtain ⟨cq, hcq, hcn⟩ : ∃ cq, vwCl[ci]? = some cq ∧ cq.1 = Y'.y.cls := by
    cases hv : vwCl[ci]? with
    | none => rw [hv] at hci; cases hci
    | some cq => rw [hv] at hci; exact ⟨cq, rfl, Option.some.inj hci⟩
  have hrec : ∃ cellB : Cell, H[ad a]? = some cellB ∧ cellB.vm.isStatics = false ∧ s.vm.findClass Y'.y.cls = some cellB.cls := by
    rw [← hcn]
    exact va_recv hC.1 hR.1 hcq (q0 := a) (fs := fs.map (cV ad)) (by rw [aW_get hn9, hm]; rfl)
  refine aw_behind (Q' := Q') (st := st) (As := As) F hS hR hL hst (vx_runV (C := Y'.y.cls) (b := ad a) (As := As.map (cV ad)) (Ts := Tb) ⟨F.1, F.2.1, F.2.2.1, F.2.2.2.2.2.1, hC.use⟩ (hM l g ad H.size F.2.2.2.2.2.2.2.2.1) ⟨CK_B hc hh hr hl.1 hC, hC.use _ hl.2.1, hC.use _ hl.2.2⟩ ⟨aPc_blind, hrec, aPc_of F hR hAs⟩ rfl (by rw [List.length_map]; exact hn) hL.1 (by rw [List.map_append, List.map_reverse]; rfl) (lv_room (by rw [wt_c]; exact hw)) hd hf) K ?_
  intro E n' μ' _ hE ad' H1 locs1 ce x hR1 _ _ c1 c2 c3
  exact aw_out F hY (KX E n' μ' hE) hf.1 hf.2 hR1 c1 c2 c3
/-- a contract that never throws, as the kit's -/
theorem AMet.met {Y' : AY} {As : List AV} {Q' : AQ} (h : AMet Y' As n μ Q') (hX : ∀ E n' μ', Q' (.inr E) n' μ' → False) {l : Launch} (hst : l.stackTraces = false) (g : aG) (ad : Nat → Nat) (sz : Nat) : Met l Y'.y [cw Y'] Y'.rm (aPc g As n μ ad sz) (aQc g (aA n ad sz) n ad Q') Y'.rm.cells Y'.rm.slots (aA n ad sz) := by
  intro p e ha hc hk s m args below hf happ hP hT
  obtain ⟨nn, o, h1, h2, h3, h4⟩ := h l g ad sz hst p e ha hc hk s m args below hf happ hP hT
  refine ⟨nn, o, h1, h2, h3, ?_⟩
  rcases h4 with h4 | ⟨x, e1, E, ce, L, ⟨u, e2, e3⟩, hrest⟩
  · exact h4
  · exact (hX _ _ _ e2).elim
theorem va_vx {mc ms : Nat} {g9 : JFrame} {rest : List Value} {Qa : State → Outcome → State → Prop} {XC : String → State → State → Prop} {free : Addr → Prop} {p : Program} {l : Launch} {e : Env} {R : Room} {s : State} {m : MethodId} {args : Array Value} {below : List Frame} {meth : Method} {c : Code} {H : Heap} {locs : List Loc} (h : va_Run p l e R s m args below meth c H locs k z mc ms g9 rest Qa free) : vx_Run p l e R s m args below meth c H locs k z mc ms g9 rest Qa XC free := fun T hT X => Or.inl (h T hT X)
theorem aw_callI {Y' : AY} {Q' : AQ} {ix na a : Nat} {st0 : List AV} (As : List AV) (hd : decode Y.cc pc = .ok (.invokespecial ix, 3)) (hq : pc + 3 = q) (hc : CK Y' na) (hl : LI Y.y.cls ix Y') (hh : Y'.hh = []) (hret : Y'.ret = none) (hr : RMok Y Y') (hn : As.length = na) (hs : As.reverse ++ vR a :: st = st0) (hw : wt st ≤ 8) (hf : k + Y'.rm.cells ≤ Y.rm.cells ∧ z + Y'.rm.slots ≤ Y.rm.slots) (hM : AMet Y' (vR a :: As) n μ Q')
    (KX : ∀ E n' μ', Q' (.inr E) n' μ' → False) (K : ∀ v n' μ', n ≤ n' → Q' (.inl v) n' μ' → AW Y S Q q ls (v.toList ++ st) n' μ' (k + Y'.rm.cells) (z + Y'.rm.slots)) : AW Y S Q pc ls st0 n μ k z := by
  subst hs
  subst hq
  intro p l e s m args below meth c g A n0 ad0 F hS ad H locs ls0 hR hL ho
  have hst : ∀ v ∈ st, okV n v := fun v hv => ho v (List.mem_append_right _ (List.mem_cons_of_mem _ hv))
  have hAs : ∀ v ∈ vR a :: As, okV n v := fun v hv => by
    rcases List.mem_cons.mp hv with rfl | hv
    · exact ho _ (List.mem_append_right _ List.mem_cons_self)
    · exact ho v (List.mem_append_left _ (List.mem_reverse.mpr hv))
  have hC := F.2.2.2.2.2.2.2.2.2.1
  have hB := CK_B (Y := Y) (args := args) hc hh hr hl.1 hC
  rw [hret] at hB
  refine aw_behind (Q' := Q') (st := st) (As := As) F hS hR hL hst (va_vx (va_runI (b := ad a) (As := As.map (cV ad)) (Ts := Tb) ⟨F.1, F.2.1, F.2.2.1, F.2.2.2.2.2.1, hC.use⟩ (hM.met KX F.2.2.2.2.2.2.2.2.1 g ad H.size) ⟨hB, hl.2.2, hC.use _ hl.2.1⟩ ⟨aPc_blind, aPc_of F hR hAs⟩ rfl (by rw [List.length_map]; exact hn) hL.1 (by rw [List.map_append, List.map_reverse]; rfl) (lv_room (by rw [wt_c]; exact hw)) hd hf)) K ?_
  intro E n' μ' _ hE
  exact (KX _ _ _ hE).elim
/-! calls of a nest mate's private members -/
def LN (own : String) (ix : Nat) (Y' : AY) : Prop := ∃ host, Cond.methodLinkNest own ix Y'.y host ∈ Tb
theorem CK_N {Y' : AY} {na : Nat} (h : CK Y' na) (hh : Y'.hh = []) (hR : RMok Y Y') {own host : String} {ix : Nat} (hl : Cond.methodLinkNest own ix Y'.y host ∈ Tb) {g : aG} {s : State} {args : Array Value} (hC : aC g s) : va_CN Y.rm s args own ix Y'.y host Y'.cc Y'.nL Y'.ret [cw Y'] Y'.rm Y'.rm.cells Y'.rm.slots na := by
  obtain ⟨h1, h2, h3, h4, h5⟩ := h
  have e : cw Y' = Cond.code Y'.y Y'.cc Y'.nL Y'.ret := by unfold cw; rw [hh]
  refine ⟨⟨rfl, rfl, hR.1, hR.2, fun w hw a' U hW => ?_, by rw [e]; exact List.mem_cons_self⟩, by rw [← e]; exact hC.use _ h1, hC.use _ h2, ⟨h3, h4⟩, fun sig hs => ?_, hC.use _ hl⟩
  · rw [List.mem_singleton] at hw
    subst hw
    exact (hC.warm hW).use _ h1
  · rw [hs] at h5
    exact (Option.some.inj h5).symm
theorem aw_callIN {Y' : AY} {Q' : AQ} {ix na a : Nat} {st0 : List AV} (As : List AV) (hd : decode Y.cc pc = .ok (.invokespecial ix, 3)) (hq : pc + 3 = q) (hc : CK Y' na) (hl : LN Y.y.cls ix Y') (hi : Cond.instanceMethod Y'.y ∈ Tb ∧ Y'.y.name = "<init>") (hh : Y'.hh = []) (hret : Y'.ret = none) (hr : RMok Y Y') (hn : As.length = na) (hs : As.reverse ++ vR a :: st = st0) (hw : wt st ≤ 8) (hf : k + Y'.rm.cells ≤ Y.rm.cells ∧ z + Y'.rm.slots ≤ Y.rm.slots) (hM : AMet Y' (vR a :: As) n μ Q')
    (KX : ∀ E n' μ', Q' (.inr E) n' μ' → False) (K : ∀ v n' μ', n ≤ n' → Q' (.inl v) n' μ' → AW Y S Q q ls (v.toList ++ st) n' μ' (k + Y'.rm.cells) (z + Y'.rm.slots)) : AW Y S Q pc ls st0 n μ k z := by
  subst hs
  subst hq
  obtain ⟨host, hl⟩ := hl
  intro p l e s m args below meth c g A n0 ad0 F hS ad H locs ls0 hR hL ho
  have hst : ∀ v ∈ st, okV n v := fun v hv => ho v (List.mem_append_right _ (List.mem_cons_of_mem _ hv))
  have hAs : ∀ v ∈ vR a :: As, okV n v := fun v hv => by
    rcases List.mem_cons.mp hv with rfl | hv
    · exact ho _ (List.mem_append_right _ List.mem_cons_self)
    · exact ho v (List.mem_append_left _ (List.mem_reverse.mpr hv))
  have hC := F.2.2.2.2.2.2.2.2.2.1
  have hB := CK_N (Y := Y) (args := args) hc hh hr hl hC
  rw [hret] at hB
  refine aw_behind (Q' := Q') (st := st) (As := As) F hS hR hL hst (va_vx (va_runIN (b := ad a) (As := As.map (cV ad)) (Ts := Tb) ⟨F.1, F.2.1, F.2.2.1, F.2.2.2.2.2.1, hC.use⟩ (hM.met KX F.2.2.2.2.2.2.2.2.1 g ad H.size) ⟨hB, hi.2, hC.use _ hi.1⟩ ⟨aPc_blind, aPc_of F hR hAs⟩ rfl (by rw [List.length_map]; exact hn) hL.1 (by rw [List.map_append, List.map_reverse]; rfl) (lv_room (by rw [wt_c]; exact hw)) hd hf)) K ?_
  intro E n' μ' _ hE
  exact (KX _ _ _ hE).elim
theorem aw_callSN {Y' : AY} {Q' : AQ} {ix na : Nat} {st0 : List AV} (As : List AV) (hd : decode Y.cc pc = .ok (.invokestatic ix, 3)) (hq : pc + 3 = q) (hc : CK Y' na) (hl : LN Y.y.cls ix Y') (hi : Cond.static Y'.y ∈ Tb) (hh : Y'.hh = []) (hr : RMok Y Y') (hn : As.length = na) (hs : As.reverse ++ st = st0) (hw : wt st ≤ 8) (hf : k + Y'.rm.cells ≤ Y.rm.cells ∧ z + Y'.rm.slots ≤ Y.rm.slots) (hM : AMet Y' As n μ Q')
    (KX : ∀ E n' μ', Q' (.inr E) n' μ' → False) (K : ∀ v n' μ', n ≤ n' → Q' (.inl v) n' μ' → AW Y S Q q ls (v.toList ++ st) n' μ' (k + Y'.rm.cells) (z + Y'.rm.slots)) : AW Y S Q pc ls st0 n μ k z := by
  subst hs
  subst hq
  obtain ⟨host, hl⟩ := hl
  intro p l e s m args below meth c g A n0 ad0 F hS ad H locs ls0 hR hL ho
  have hst : ∀ v ∈ st, okV n v := fun v hv => ho v (List.mem_append_right _ hv)
  have hAs : ∀ v ∈ As, okV n v := fun v hv => ho v (List.mem_append_left _ (List.mem_reverse.mpr hv))
  have hC := F.2.2.2.2.2.2.2.2.2.1
  refine aw_behind (Q' := Q') (st := st) (As := As) F hS hR hL hst (va_vx (va_runSN (As := As.map (cV ad)) (Ts := Tb) ⟨F.1, F.2.1, F.2.2.1, F.2.2.2.2.2.1, hC.use⟩ (hM.met KX F.2.2.2.2.2.2.2.2.1 g ad H.size) ⟨CK_N (Y := Y) (args := args) hc hh hr hl hC, hC.use _ hi, trivial⟩ ⟨aPc_blind, aPc_of F hR hAs⟩ rfl (by rw [List.length_map]; exact hn) hL.1 (by rw [List.map_append, List.map_reverse]) (lv_room (by rw [wt_c]; exact hw)) hd hf)) K ?_
  intro E n' μ' _ hE
  exact (KX _ _ _ hE).elim
end CR
