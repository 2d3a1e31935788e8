/-! ===== rows: ends, throws, calls ===== -/
section ER
variable {Y : AY} {S : AScr} {Q : AQ} {pc q : Nat} {ls : List (Option AV)} {st : List AV} {n : Nat} {μ : AH} {k z : Nat}
theorem aw_iret {a : Int} (hd : decode Y.cc pc = .ok (.ireturn, 1)) (hr : Y.ret = some .int) (hc : k ≤ Y.rm.cells) (hs : z ≤ Y.rm.slots) (hQ : Q (.inl (some (vI a))) n μ) : AW Y S Q pc ls [vI a] n μ k z := by
  intro p l e s m args below meth c g A n0 ad0 F hS ad H locs ls0 hR hL ho
  refine vx_ret (W.widen hc hs ?_)
  exact W.iret F.1 F.2.1 (F.2.2.2.1.trans hr) (fun t ht hW => ⟨⟨some (vI a), (n, μ, ad), rfl, fun w hw => by cases hw; exact (List.forall_mem_cons.mp ho).1, hQ, by rw [aB, ht]; exact ⟨hR.1, hR.2.1, hR.2.2.2⟩⟩, hR.2.2.1.F ht⟩) hR.2.2.1.2.2 hd (hlocks := F.2.2.2.2.1)
theorem aw_zret {a : Int} (hd : decode Y.cc pc = .ok (.ireturn, 1)) (hr : Y.ret = some .boolean) (ha : a = 0 ∨ a = 1) (hc : k ≤ Y.rm.cells) (hs : z ≤ Y.rm.slots) (hQ : Q (.inl (some (vI a))) n μ) : AW Y S Q pc ls [vI a] n μ k z := by
  intro p l e s m args below meth c g A n0 ad0 F hS ad H locs ls0 hR hL ho
  refine vx_ret (W.widen hc hs ?_)
  exact W.zret F.1 F.2.1 (F.2.2.2.1.trans hr) (tyOK_n (ty := .boolean) (v := vI a) ad ha).1 (fun t ht hW => ⟨⟨some (vI a), (n, μ, ad), rfl, fun w hw => by cases hw; exact (List.forall_mem_cons.mp ho).1, hQ, by rw [aB, ht]; exact ⟨hR.1, hR.2.1, hR.2.2.2⟩⟩, hR.2.2.1.F ht⟩) hR.2.2.1.2.2 hd (hlocks := F.2.2.2.2.1)
theorem aw_lret {a : Int} (hd : decode Y.cc pc = .ok (.lreturn, 1)) (hr : Y.ret = some .long) (hc : k ≤ Y.rm.cells) (hs : z ≤ Y.rm.slots) (hQ : Q (.inl (some (vL a))) n μ) : AW Y S Q pc ls [vL a] n μ k z := by
  intro p l e s m args below meth c g A n0 ad0 F hS ad H locs ls0 hR hL ho
  refine vx_ret (W.widen hc hs ?_)
  exact W.lret F.1 F.2.1 (F.2.2.2.1.trans hr) (fun t ht hW => ⟨⟨some (vL a), (n, μ, ad), rfl, fun w hw => by cases hw; exact (List.forall_mem_cons.mp ho).1, hQ, by rw [aB, ht]; exact ⟨hR.1, hR.2.1, hR.2.2.2⟩⟩, hR.2.2.1.F ht⟩) hR.2.2.1.2.2 hd (hlocks := F.2.2.2.2.1)
theorem aw_aret {a : Nat} {C : String} (hd : decode Y.cc pc = .ok (.areturn, 1)) (hr : Y.ret = some (.object C)) (hc : k ≤ Y.rm.cells) (hs : z ≤ Y.rm.slots) (hQ : Q (.inl (some (vR a))) n μ) : AW Y S Q pc ls [vR a] n μ k z := by
  intro p l e s m args below meth c g A n0 ad0 F hS ad H locs ls0 hR hL ho
  refine vx_ret (W.widen hc hs ?_)
  exact W.aret F.1 F.2.1 (F.2.2.2.1.trans hr) (Or.inl ⟨C, rfl⟩) (Or.inr ⟨_, rfl⟩) (fun t ht hW => ⟨⟨some (vR a), (n, μ, ad), rfl, fun w hw => by cases hw; exact (List.forall_mem_cons.mp ho).1, hQ, by rw [aB, ht]; exact ⟨hR.1, hR.2.1, hR.2.2.2⟩⟩, hR.2.2.1.F ht⟩) hR.2.2.1.2.2 hd (hlocks := F.2.2.2.2.1)
theorem aw_vret (hd : decode Y.cc pc = .ok (.return_, 1)) (hr : Y.ret = none) (hc : k ≤ Y.rm.cells) (hs : z ≤ Y.rm.slots) (hQ : Q (.inl none) n μ) : AW Y S Q pc ls [] n μ k z := by
  intro p l e s m args below meth c g A n0 ad0 F hS ad H locs ls0 hR hL ho
  refine vx_ret (W.widen hc hs ?_)
  exact W.vret F.1 F.2.1 (F.2.2.2.1.trans hr) (fun t ht hW => ⟨⟨none, (n, μ, ad), rfl, (fun w hw => nomatch hw), hQ, by rw [aB, ht]; exact ⟨hR.1, hR.2.1, hR.2.2.2⟩⟩, hR.2.2.1.F ht⟩) hR.2.2.1.2.2 hd (hlocks := F.2.2.2.2.1)
theorem aw_widen {k' z' : Nat} (h1 : k ≤ k') (h2 : z ≤ z') (K : AW Y S Q pc ls st n μ k' z') : AW Y S Q pc ls st n μ k z := by
  intro p l e s m args below meth c g A n0 ad0 F hS ad H locs ls0 hR hL ho
  exact W.widen h1 h2 (K p l e s m args below meth c g A n0 ad0 F hS ad H locs ls0 hR hL ho)
/-- the classes above an exception -/
def xNames : List String := ["java/lang/RuntimeException", "java/lang/Exception"]
def TH (own : String) (ik ic : Nat) (cls : String) : Prop := Bundle.fit cls = true ∧ (∀ w ∈ xNames, Bundle.fit w = true) ∧ Cond.classLink own ik cls ∈ Tb ∧ Cond.initialized cls ∈ Tb ∧ (∀ w ∈ vx_at0 own ic cls xNames, w ∈ Tb) ∧ ∀ w ∈ Cond.classLink own ik cls :: Cond.initialized cls :: vx_at0 own ic cls xNames, vx_ot w = true
theorem aR_kept {g : aG} {A : Nat → Prop} {n0 : Nat} {ad0 : Nat → Nat} {s t : State} {ad : Nat → Nat} {H : Heap} {locs : List Loc} (hR : aR g A n0 ad0 s.heap n μ ad H locs) (h1 : H.size ≤ t.heap.size) (h2 : ∀ q : Nat, q < H.size → t.heap[q]? = H[q]?) : aB g A n0 ad0 (n, μ, ad) t ∧ va_F A s t := by
  refine ⟨⟨hR.1.kept (fun kk x hx => h2 x.1 (hR.1 kk x hx).lt), hR.2.1, hR.2.2.2⟩, Nat.le_trans hR.2.2.1.1 h1, fun x hx hA => ?_⟩
  rw [h2 x (Nat.lt_of_lt_of_le hx hR.2.2.1.1)]
  exact hR.2.2.1.2.1 x hx hA
theorem aw_throw {ik ic : Nat} {cls : String} (d0 : decode Y.cc pc = .ok (.new ik, 3)) (d3 : decode Y.cc (pc + 3) = .ok (.dup, 1)) (d4 : decode Y.cc (pc + 4) = .ok (.invokespecial ic, 3)) (d7 : decode Y.cc (pc + 7) = .ok (.athrow, 1)) (hT : TH Y.y.cls ik ic cls) (hh : Y.hh = [])
    (hf : 5 < Y.rm.frames) (hl : (st.map fun v => if isC1 v then 1 else 2).sum + 81 ≤ Y.rm.locals) (hc : k + 1 ≤ Y.rm.cells) (hs : z + 6 ≤ Y.rm.slots) (hQ : Q (.inr cls) n μ) : AW Y S Q pc ls st n μ k z := by
  intro p l e s m args below meth c g A n0 ad0 F hS ad H locs ls0 hR hL ho
  obtain ⟨hx, hb, hml, hr, hlk, hown, hnm, htab, hst, hC, hA, hU, hN⟩ := id F
  obtain ⟨t1, t2, t3, t4, t5, t6⟩ := hT
  refine vx_throw0 (names := xNames) (cls := cls) (ik := ik) (ic := ic) hx hb hst hown t1 t2 (hC.use _ t3) (hC.use _ t4) (fun w hw => hC.use w (t5 w hw)) t6 hU hN hR.2.2.1 (hL.1.trans hml.symm) d0 d3 d4 d7 (fun x hx9 => by rw [htab, hh] at hx9; cases hx9) hf ?_ hc hs hlk (fun t hal h1 h2 => ?_) hR.2.2.1.2.2 hc hs
  · have e1 : ((st.map (cV ad)).map fun v => v.category) = st.map fun v => if isC1 v then 1 else 2 := by
      rw [List.map_map]
      apply List.map_congr_left
      intro v _
      show (cV ad v).category = _
      cases hcv : isC1 v
      · rw [(cat2 ad).mpr hcv]; rfl
      · rw [cat1 hcv ad]; rfl
    rw [e1]
    exact hl
  · obtain ⟨a1, a2⟩ := aR_kept hR h1 h2
    exact ⟨(n, μ, ad), hQ, a1, a2⟩
/-! contracts -/
def aA (n : Nat) (ad : Nat → Nat) (sz : Nat) : Nat → Prop := fun x => (∃ i, i < n ∧ x = ad i) ∨ sz ≤ x
def cw (Y : AY) : Cond := match Y.hh with
  | [] => .code Y.y Y.cc Y.nL Y.ret
  | hh => .codeWith Y.y Y.cc Y.nL Y.ret hh
def aPc (g : aG) (As : List AV) (n : Nat) (μ : AH) (ad : Nat → Nat) (sz : Nat) : Array Value → State → Prop := fun v U => v = (As.map (cV ad)).toArray ∧ U.heap.size = sz ∧ va_P g.1 vwCl (aW g ad n μ) U.heap ∧ va_D (fun _ => True) (aW g ad n μ) ∧ okH n μ ∧ (∀ w ∈ As, okV n w) ∧ aC g U ∧ vx_Zq Bundle.tN "UNASSIGNED_STACK" Bundle.steD (aA n ad sz) U U.heap ∧ vx_Zq Bundle.tN "SUPPRESSED_SENTINEL" Bundle.listD (aA n ad sz) U U.heap
def AMet (Y : AY) (As : List AV) (n : Nat) (μ : AH) (Q : AQ) : Prop := ∀ (l : Launch) (g : aG) (ad : Nat → Nat) (sz : Nat), l.stackTraces = false →
  vx_Met l Y.y [cw Y] Y.rm (aPc g As n μ ad sz) (aQc g (aA n ad sz) n ad Q) (aXC g (aA n ad sz) n ad Q) Y.rm.cells Y.rm.slots (aA n ad sz)
/-- the arguments as locals -/
def aEnt0 (As : List AV) : List (Option AV) := As.flatMap (fun v => if isC1 v then [some v] else [some v, none])
def aEnt (As : List AV) (nL : Nat) : List (Option AV) := aEnt0 As ++ List.replicate (nL - (aEnt0 As).length) none
theorem aEnt0_len (ad : Nat → Nat) : ∀ As : List AV, (lg_sl (As.map (cV ad))).length = (aEnt0 As).length
  | [] => rfl
  | v :: As => by
    have ih := aEnt0_len ad As
    unfold lg_sl aEnt0 at ih ⊢
    rw [List.map_cons, List.flatMap_cons, List.flatMap_cons, List.length_append, List.length_append, ih]
    congr 1
    cases hc : isC1 v
    · rw [if_pos ((cat2 ad).mpr hc)]; rfl
    · rw [if_neg (by rw [cat1 hc ad]; decide)]; rfl
theorem aEnt0_at (ad : Nat → Nat) : ∀ (As : List AV) (i : Nat) (v : AV), (aEnt0 As)[i]? = some (some v) → (lg_sl (As.map (cV ad)))[i]? = some (.val (cV ad v)) ∧ v ∈ As
  | [], i, v, h => by cases h
  | w :: As, i, v, h => by
    have ih := aEnt0_at ad As
    unfold lg_sl aEnt0 at ih
    unfold lg_sl
    unfold aEnt0 at h
    rw [List.flatMap_cons] at h
    rw [List.map_cons, List.flatMap_cons]
    cases hc : isC1 w
    · rw [hc] at h
      rw [if_pos ((cat2 ad).mpr hc)]
      match i, h with
      | 0, h => cases h; exact ⟨rfl, List.mem_cons_self⟩
      | 1, h => cases h
      | i + 2, h => exact ⟨(ih i v h).1, List.mem_cons_of_mem _ (ih i v h).2⟩
    · rw [hc] at h
      rw [if_neg (by rw [cat1 hc ad]; decide)]
      match i, h with
      | 0, h => cases h; exact ⟨rfl, List.mem_cons_self⟩
      | i + 1, h => exact ⟨(ih i v h).1, List.mem_cons_of_mem _ (ih i v h).2⟩
theorem aL_entry {ad : Nat → Nat} {nL n : Nat} {As : List AV} (hl : (aEnt0 As).length ≤ nL) (ho : ∀ w ∈ As, okV n w) : aL ad nL n (aEnt As nL) ((lg_sl (As.map (cV ad)) ++ List.replicate (nL - (lg_sl (As.map (cV ad))).length) Slot.unset).toArray) := by
  have h0 := lv_entry (As.map (cV ad)) (n := nL) (by rw [aEnt0_len]; exact hl)
  refine ⟨h0.1, h0.2.1, fun i v hi => ?_⟩
  unfold aEnt at hi
  by_cases hlt : i < (aEnt0 As).length
  · rw [List.getElem?_append_left hlt] at hi
    obtain ⟨h1, h2⟩ := aEnt0_at ad As i v hi
    refine ⟨?_, ho v h2⟩
    rw [List.getElem?_toArray, List.getElem?_append_left (by rw [aEnt0_len]; exact hlt)]
    exact h1
  · rw [List.getElem?_append_right (by omega), List.getElem?_replicate] at hi
    split at hi <;> cases hi
/-- a contract out of a walk of the body -/
theorem AMet.of {As : List AV} (hy : plainName Y.y.cls = true) (hh : Y.hh = []) (hl : (aEnt0 As).length ≤ Y.nL) (K : AW Y none Q 0 (aEnt As Y.nL) [] n μ 0 0) : AMet Y As n μ Q := by
  intro l g ad sz hst
  have hcw : [cw Y] = Cond.code Y.y Y.cc Y.nL Y.ret :: [] := by unfold cw; rw [hh]
  refine vx_ofW (cc := Y.cc) (maxL := Y.nL) (ret := Y.ret) hy hcw ?_
  intro p e s m args below meth c s₁ B hml ht hv
  obtain ⟨rfl, hsz, hP, hD, hok, hAs, hC, hU, hN⟩ := hv
  subst hsz
  have hD' : va_D (aA n ad s.heap.size) (aW g ad n μ) := hD.weaken (fun kk x hx _ => by
    obtain ⟨h1, h2⟩ := aW_inv hx
    rw [h2]
    exact Or.inl ⟨kk, h1, rfl⟩)
  have F : aF Y p l s m meth c g (aA n ad s.heap.size) := ⟨B.exec, B.bytes, hml, B.returns, B.notSynchronized, findClass_of_methodNamed B.named, (name_of_methodNamed B.named B.method).1, by
    rw [hh]
    show _ = []
    rw [List.eq_nil_iff_forall_not_mem]
    exact fun x hx => ht x hx, hst, hC, fun x hx => Or.inr hx, hU, hN⟩
  rw [lg_entry_eq]
  exact K p l e s m _ below meth c g (aA n ad s.heap.size) n ad F trivial ad s.heap [] _ ⟨hP, hD', va_S.rf, hok, Nat.le_refl n, fun _ _ => rfl⟩ (aL_entry hl hAs) (fun v hv => by cases hv)
theorem AMet.ofH {As : List AV} (hy : plainName Y.y.cls = true) (hh : Y.hh ≠ []) (hl : (aEnt0 As).length ≤ Y.nL) (K : AW Y none Q 0 (aEnt As Y.nL) [] n μ 0 0) : AMet Y As n μ Q := by
  intro l g ad sz hst
  have hcw : [cw Y] = Cond.codeWith Y.y Y.cc Y.nL Y.ret Y.hh :: [] := by
    unfold cw
    split
    · rename_i h; exact absurd h hh
    · rfl
  refine vx_ofWH (cc := Y.cc) (maxL := Y.nL) (ret := Y.ret) (hh := Y.hh) hy hcw ?_
  intro p e s m args below meth c s₁ B hml hv
  obtain ⟨rfl, hsz, hP, hD, hok, hAs, hC, hU, hN⟩ := hv
  subst hsz
  have hD' : va_D (aA n ad s.heap.size) (aW g ad n μ) := hD.weaken (fun kk x hx _ => by
    obtain ⟨h1, h2⟩ := aW_inv hx
    rw [h2]
    exact Or.inl ⟨kk, h1, rfl⟩)
  have hcd : (Cond.codeWith Y.y Y.cc Y.nL Y.ret Y.hh).before (As.map (cV ad)).toArray s = true := atoms_spec (ws := [cw Y]) B.pre _ (by rw [hcw]; exact List.mem_cons_self)
  have F : aF Y p l s m meth c g (aA n ad s.heap.size) := ⟨B.exec, B.bytes, hml, B.returns, B.notSynchronized, findClass_of_methodNamed B.named, (name_of_methodNamed B.named B.method).1, vx_table (x := Y.y) B hcd, hst, hC, fun x hx => Or.inr hx, hU, hN⟩
  rw [lg_entry_eq]
  exact K p l e s m _ below meth c g (aA n ad s.heap.size) n ad F trivial ad s.heap [] _ ⟨hP, hD', va_S.rf, hok, Nat.le_refl n, fun _ _ => rfl⟩ (aL_entry hl hAs) (fun v hv => by cases hv)
theorem AMet.mono {As : List AV} {Q' : AQ} (h : AMet Y As n μ Q) (hQ : ∀ o n' μ', Q o n' μ' → Q' o n' μ') : AMet Y As n μ Q' := by
  intro l g ad sz hst p e ha hc hk s m args below hf happ hP hT
  obtain ⟨nn, o, h1, h2, h3, h4⟩ := h l g ad sz hst p e ha hc hk s m args below hf happ hP hT
  refine ⟨nn, o, h1, h2, h3, ?_⟩
  rcases h4 with ⟨⟨⟨v, u, e1, e2, e3, e4⟩, e5⟩, hL⟩ | ⟨x, e1, E, ce, L, ⟨u, e2, e3⟩, hrest⟩
  · exact Or.inl ⟨⟨⟨v, u, e1, e2, hQ _ _ _ e3, e4⟩, e5⟩, hL⟩
  · exact Or.inr ⟨x, e1, E, ce, L, ⟨u, hQ _ _ _ e2, e3⟩, hrest⟩
end ER
