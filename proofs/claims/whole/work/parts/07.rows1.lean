/-! ===== rows: instructions that touch no heap (written by mk_rows.py) ===== -/
theorem aw_iadd {Y : AY} {S : AScr} {Q : AQ} {pc q : Nat} {ls : List (Option AV)} {st : List AV} {n : Nat} {μ : AH} {k z : Nat} {a b : Int} (hd : decode Y.cc pc = .ok (.iadd, 1)) (hq : pc + 1 = q) (hr : iR (a + b)) (K : AW Y S Q q ls (vI (a + b) :: st) n μ k z) : AW Y S Q pc ls (vI b :: vI a :: st) n μ k z := by
  intro p l e s m args below meth c g A n0 ad0 F hS ad H locs ls0 hR hL ho
  have hx := F.1
  have hb := F.2.1
  subst hq
  refine lv_iadd hx hb hd ?_
  rw [← Int32.ofInt_add]
  exact K p l e s m args below meth c g A n0 ad0 F hS ad H locs ls0 hR hL (List.forall_mem_cons.mpr ⟨hr, (List.forall_mem_cons.mp (List.forall_mem_cons.mp ho).2).2⟩)
theorem aw_isub {Y : AY} {S : AScr} {Q : AQ} {pc q : Nat} {ls : List (Option AV)} {st : List AV} {n : Nat} {μ : AH} {k z : Nat} {a b : Int} (hd : decode Y.cc pc = .ok (.isub, 1)) (hq : pc + 1 = q) (hr : iR (a - b)) (K : AW Y S Q q ls (vI (a - b) :: st) n μ k z) : AW Y S Q pc ls (vI b :: vI a :: st) n μ k z := by
  intro p l e s m args below meth c g A n0 ad0 F hS ad H locs ls0 hR hL ho
  have hx := F.1
  have hb := F.2.1
  subst hq
  refine lv_isub hx hb hd ?_
  rw [← Int32.ofInt_sub]
  exact K p l e s m args below meth c g A n0 ad0 F hS ad H locs ls0 hR hL (List.forall_mem_cons.mpr ⟨hr, (List.forall_mem_cons.mp (List.forall_mem_cons.mp ho).2).2⟩)
theorem aw_imul {Y : AY} {S : AScr} {Q : AQ} {pc q : Nat} {ls : List (Option AV)} {st : List AV} {n : Nat} {μ : AH} {k z : Nat} {a b : Int} (hd : decode Y.cc pc = .ok (.imul, 1)) (hq : pc + 1 = q) (hr : iR (a * b)) (K : AW Y S Q q ls (vI (a * b) :: st) n μ k z) : AW Y S Q pc ls (vI b :: vI a :: st) n μ k z := by
  intro p l e s m args below meth c g A n0 ad0 F hS ad H locs ls0 hR hL ho
  have hx := F.1
  have hb := F.2.1
  subst hq
  refine lv_imul hx hb hd ?_
  rw [← Int32.ofInt_mul]
  exact K p l e s m args below meth c g A n0 ad0 F hS ad H locs ls0 hR hL (List.forall_mem_cons.mpr ⟨hr, (List.forall_mem_cons.mp (List.forall_mem_cons.mp ho).2).2⟩)
theorem aw_ladd {Y : AY} {S : AScr} {Q : AQ} {pc q : Nat} {ls : List (Option AV)} {st : List AV} {n : Nat} {μ : AH} {k z : Nat} {a b : Int} (hd : decode Y.cc pc = .ok (.ladd, 1)) (hq : pc + 1 = q) (hr : lR (a + b)) (K : AW Y S Q q ls (vL (a + b) :: st) n μ k z) : AW Y S Q pc ls (vL b :: vL a :: st) n μ k z := by
  intro p l e s m args below meth c g A n0 ad0 F hS ad H locs ls0 hR hL ho
  have hx := F.1
  have hb := F.2.1
  subst hq
  refine lv_ladd hx hb hd ?_
  rw [← Int64.ofInt_add]
  exact K p l e s m args below meth c g A n0 ad0 F hS ad H locs ls0 hR hL (List.forall_mem_cons.mpr ⟨hr, (List.forall_mem_cons.mp (List.forall_mem_cons.mp ho).2).2⟩)
theorem aw_lsub {Y : AY} {S : AScr} {Q : AQ} {pc q : Nat} {ls : List (Option AV)} {st : List AV} {n : Nat} {μ : AH} {k z : Nat} {a b : Int} (hd : decode Y.cc pc = .ok (.lsub, 1)) (hq : pc + 1 = q) (hr : lR (a - b)) (K : AW Y S Q q ls (vL (a - b) :: st) n μ k z) : AW Y S Q pc ls (vL b :: vL a :: st) n μ k z := by
  intro p l e s m args below meth c g A n0 ad0 F hS ad H locs ls0 hR hL ho
  have hx := F.1
  have hb := F.2.1
  subst hq
  refine lv_lsub hx hb hd ?_
  rw [← Int64.ofInt_sub]
  exact K p l e s m args below meth c g A n0 ad0 F hS ad H locs ls0 hR hL (List.forall_mem_cons.mpr ⟨hr, (List.forall_mem_cons.mp (List.forall_mem_cons.mp ho).2).2⟩)
theorem aw_lmul {Y : AY} {S : AScr} {Q : AQ} {pc q : Nat} {ls : List (Option AV)} {st : List AV} {n : Nat} {μ : AH} {k z : Nat} {a b : Int} (hd : decode Y.cc pc = .ok (.lmul, 1)) (hq : pc + 1 = q) (hr : lR (a * b)) (K : AW Y S Q q ls (vL (a * b) :: st) n μ k z) : AW Y S Q pc ls (vL b :: vL a :: st) n μ k z := by
  intro p l e s m args below meth c g A n0 ad0 F hS ad H locs ls0 hR hL ho
  have hx := F.1
  have hb := F.2.1
  subst hq
  refine lv_lmul hx hb hd ?_
  rw [← Int64.ofInt_mul]
  exact K p l e s m args below meth c g A n0 ad0 F hS ad H locs ls0 hR hL (List.forall_mem_cons.mpr ⟨hr, (List.forall_mem_cons.mp (List.forall_mem_cons.mp ho).2).2⟩)
theorem aw_ineg {Y : AY} {S : AScr} {Q : AQ} {pc q : Nat} {ls : List (Option AV)} {st : List AV} {n : Nat} {μ : AH} {k z : Nat} {a : Int} (hd : decode Y.cc pc = .ok (.ineg, 1)) (hq : pc + 1 = q) (hr : iR (-a)) (K : AW Y S Q q ls (vI (-a) :: st) n μ k z) : AW Y S Q pc ls (vI a :: st) n μ k z := by
  intro p l e s m args below meth c g A n0 ad0 F hS ad H locs ls0 hR hL ho
  have hx := F.1
  have hb := F.2.1
  subst hq
  refine lv_ineg hx hb hd ?_
  rw [← Int32.ofInt_neg]
  exact K p l e s m args below meth c g A n0 ad0 F hS ad H locs ls0 hR hL (List.forall_mem_cons.mpr ⟨hr, (List.forall_mem_cons.mp ho).2⟩)
theorem aw_lneg {Y : AY} {S : AScr} {Q : AQ} {pc q : Nat} {ls : List (Option AV)} {st : List AV} {n : Nat} {μ : AH} {k z : Nat} {a : Int} (hd : decode Y.cc pc = .ok (.lneg, 1)) (hq : pc + 1 = q) (hr : lR (-a)) (K : AW Y S Q q ls (vL (-a) :: st) n μ k z) : AW Y S Q pc ls (vL a :: st) n μ k z := by
  intro p l e s m args below meth c g A n0 ad0 F hS ad H locs ls0 hR hL ho
  have hx := F.1
  have hb := F.2.1
  subst hq
  refine lv_lneg hx hb hd ?_
  rw [← Int64.ofInt_neg]
  exact K p l e s m args below meth c g A n0 ad0 F hS ad H locs ls0 hR hL (List.forall_mem_cons.mpr ⟨hr, (List.forall_mem_cons.mp ho).2⟩)
theorem aw_idiv {Y : AY} {S : AScr} {Q : AQ} {pc q : Nat} {ls : List (Option AV)} {st : List AV} {n : Nat} {μ : AH} {k z : Nat} {a b : Int} (hd : decode Y.cc pc = .ok (.idiv, 1)) (hq : pc + 1 = q) (h0 : b ≠ 0) (hr : iR (a.tdiv b)) (K : AW Y S Q q ls (vI (a.tdiv b) :: st) n μ k z) : AW Y S Q pc ls (vI b :: vI a :: st) n μ k z := by
  intro p l e s m args below meth c g A n0 ad0 F hS ad H locs ls0 hR hL ho
  have hx := F.1
  have hb := F.2.1
  subst hq
  have ha : iR a := (List.forall_mem_cons.mp (List.forall_mem_cons.mp ho).2).1
  have hbb : iR b := (List.forall_mem_cons.mp ho).1
  refine lv_idiv hx hb hd (fun h => h0 ((i_eq0 hbb).mp h)) ?_
  rw [← i_div ha hbb]
  exact K p l e s m args below meth c g A n0 ad0 F hS ad H locs ls0 hR hL (List.forall_mem_cons.mpr ⟨hr, (List.forall_mem_cons.mp (List.forall_mem_cons.mp ho).2).2⟩)
theorem aw_irem {Y : AY} {S : AScr} {Q : AQ} {pc q : Nat} {ls : List (Option AV)} {st : List AV} {n : Nat} {μ : AH} {k z : Nat} {a b : Int} (hd : decode Y.cc pc = .ok (.irem, 1)) (hq : pc + 1 = q) (h0 : b ≠ 0) (hr : iR (a.tmod b)) (K : AW Y S Q q ls (vI (a.tmod b) :: st) n μ k z) : AW Y S Q pc ls (vI b :: vI a :: st) n μ k z := by
  intro p l e s m args below meth c g A n0 ad0 F hS ad H locs ls0 hR hL ho
  have hx := F.1
  have hb := F.2.1
  subst hq
  have ha : iR a := (List.forall_mem_cons.mp (List.forall_mem_cons.mp ho).2).1
  have hbb : iR b := (List.forall_mem_cons.mp ho).1
  refine lv_irem hx hb hd (fun h => h0 ((i_eq0 hbb).mp h)) ?_
  rw [← i_div ha hbb, ← Int32.ofInt_mul, ← Int32.ofInt_sub, show a - a.tdiv b * b = a.tmod b by rw [Int.tmod_def, Int.mul_comm]]
  exact K p l e s m args below meth c g A n0 ad0 F hS ad H locs ls0 hR hL (List.forall_mem_cons.mpr ⟨hr, (List.forall_mem_cons.mp (List.forall_mem_cons.mp ho).2).2⟩)
theorem aw_ldiv {Y : AY} {S : AScr} {Q : AQ} {pc q : Nat} {ls : List (Option AV)} {st : List AV} {n : Nat} {μ : AH} {k z : Nat} {a b : Int} (hd : decode Y.cc pc = .ok (.ldiv, 1)) (hq : pc + 1 = q) (h0 : b ≠ 0) (hr : lR (a.tdiv b)) (K : AW Y S Q q ls (vL (a.tdiv b) :: st) n μ k z) : AW Y S Q pc ls (vL b :: vL a :: st) n μ k z := by
  intro p l e s m args below meth c g A n0 ad0 F hS ad H locs ls0 hR hL ho
  have hx := F.1
  have hb := F.2.1
  subst hq
  have ha : lR a := (List.forall_mem_cons.mp (List.forall_mem_cons.mp ho).2).1
  have hbb : lR b := (List.forall_mem_cons.mp ho).1
  refine lv_ldiv hx hb hd (fun h => h0 ((l_eq hbb l_0).mp h)) ?_
  rw [← l_div ha hbb]
  exact K p l e s m args below meth c g A n0 ad0 F hS ad H locs ls0 hR hL (List.forall_mem_cons.mpr ⟨hr, (List.forall_mem_cons.mp (List.forall_mem_cons.mp ho).2).2⟩)
theorem aw_lrem {Y : AY} {S : AScr} {Q : AQ} {pc q : Nat} {ls : List (Option AV)} {st : List AV} {n : Nat} {μ : AH} {k z : Nat} {a b : Int} (hd : decode Y.cc pc = .ok (.lrem, 1)) (hq : pc + 1 = q) (h0 : b ≠ 0) (hr : lR (a.tmod b)) (K : AW Y S Q q ls (vL (a.tmod b) :: st) n μ k z) : AW Y S Q pc ls (vL b :: vL a :: st) n μ k z := by
  intro p l e s m args below meth c g A n0 ad0 F hS ad H locs ls0 hR hL ho
  have hx := F.1
  have hb := F.2.1
  subst hq
  have ha : lR a := (List.forall_mem_cons.mp (List.forall_mem_cons.mp ho).2).1
  have hbb : lR b := (List.forall_mem_cons.mp ho).1
  refine lv_lrem hx hb hd (fun h => h0 ((l_eq hbb l_0).mp h)) ?_
  rw [← l_div ha hbb, ← Int64.ofInt_mul, ← Int64.ofInt_sub, show a - a.tdiv b * b = a.tmod b by rw [Int.tmod_def, Int.mul_comm]]
  exact K p l e s m args below meth c g A n0 ad0 F hS ad H locs ls0 hR hL (List.forall_mem_cons.mpr ⟨hr, (List.forall_mem_cons.mp (List.forall_mem_cons.mp ho).2).2⟩)
theorem aw_i2l {Y : AY} {S : AScr} {Q : AQ} {pc q : Nat} {ls : List (Option AV)} {st : List AV} {n : Nat} {μ : AH} {k z : Nat} {a : Int} (hd : decode Y.cc pc = .ok (.i2l, 1)) (hq : pc + 1 = q)  (K : AW Y S Q q ls (vL a :: st) n μ k z) : AW Y S Q pc ls (vI a :: st) n μ k z := by
  intro p l e s m args below meth c g A n0 ad0 F hS ad H locs ls0 hR hL ho
  have hx := F.1
  have hb := F.2.1
  subst hq
  have ha : iR a := (List.forall_mem_cons.mp ho).1
  refine lv_i2l hx hb hd (i_l ha) ?_
  exact K p l e s m args below meth c g A n0 ad0 F hS ad H locs ls0 hR hL (List.forall_mem_cons.mpr ⟨(i_lR ha), (List.forall_mem_cons.mp ho).2⟩)
theorem aw_l2i {Y : AY} {S : AScr} {Q : AQ} {pc q : Nat} {ls : List (Option AV)} {st : List AV} {n : Nat} {μ : AH} {k z : Nat} {a : Int} (hd : decode Y.cc pc = .ok (.l2i, 1)) (hq : pc + 1 = q) (hr : iR a) (K : AW Y S Q q ls (vI a :: st) n μ k z) : AW Y S Q pc ls (vL a :: st) n μ k z := by
  intro p l e s m args below meth c g A n0 ad0 F hS ad H locs ls0 hR hL ho
  have hx := F.1
  have hb := F.2.1
  subst hq
  have ha : lR a := (List.forall_mem_cons.mp ho).1
  refine lv_l2i hx hb hd (l_i hr) ?_
  exact K p l e s m args below meth c g A n0 ad0 F hS ad H locs ls0 hR hL (List.forall_mem_cons.mpr ⟨hr, (List.forall_mem_cons.mp ho).2⟩)
theorem aw_iconst {Y : AY} {S : AScr} {Q : AQ} {pc q : Nat} {ls : List (Option AV)} {st : List AV} {n : Nat} {μ : AH} {k z : Nat} {a : Int} (hd : decode Y.cc pc = .ok (.iconst a, 1)) (hq : pc + 1 = q) (hr : iR a) (K : AW Y S Q q ls (vI a :: st) n μ k z) : AW Y S Q pc ls (st) n μ k z := by
  intro p l e s m args below meth c g A n0 ad0 F hS ad H locs ls0 hR hL ho
  have hx := F.1
  have hb := F.2.1
  subst hq
  refine lv_iconst (v := Int32.ofInt a) hx hb hd rfl ?_
  exact K p l e s m args below meth c g A n0 ad0 F hS ad H locs ls0 hR hL (List.forall_mem_cons.mpr ⟨hr, ho⟩)
theorem aw_bipush {Y : AY} {S : AScr} {Q : AQ} {pc q : Nat} {ls : List (Option AV)} {st : List AV} {n : Nat} {μ : AH} {k z : Nat} {a : Int} (hd : decode Y.cc pc = .ok (.bipush a, 2)) (hq : pc + 2 = q) (hv : (Int8.ofInt a).toInt32 = Int32.ofInt a) (hr : iR a) (K : AW Y S Q q ls (vI a :: st) n μ k z) : AW Y S Q pc ls (st) n μ k z := by
  intro p l e s m args below meth c g A n0 ad0 F hS ad H locs ls0 hR hL ho
  have hx := F.1
  have hb := F.2.1
  subst hq
  refine lv_bipush (v := Int32.ofInt a) hx hb hd hv ?_
  exact K p l e s m args below meth c g A n0 ad0 F hS ad H locs ls0 hR hL (List.forall_mem_cons.mpr ⟨hr, ho⟩)
theorem aw_sipush {Y : AY} {S : AScr} {Q : AQ} {pc q : Nat} {ls : List (Option AV)} {st : List AV} {n : Nat} {μ : AH} {k z : Nat} {a : Int} (hd : decode Y.cc pc = .ok (.sipush a, 3)) (hq : pc + 3 = q) (hv : (Int16.ofInt a).toInt32 = Int32.ofInt a) (hr : iR a) (K : AW Y S Q q ls (vI a :: st) n μ k z) : AW Y S Q pc ls (st) n μ k z := by
  intro p l e s m args below meth c g A n0 ad0 F hS ad H locs ls0 hR hL ho
  have hx := F.1
  have hb := F.2.1
  subst hq
  refine lv_sipush (v := Int32.ofInt a) hx hb hd hv ?_
  exact K p l e s m args below meth c g A n0 ad0 F hS ad H locs ls0 hR hL (List.forall_mem_cons.mpr ⟨hr, ho⟩)
theorem aw_lconst {Y : AY} {S : AScr} {Q : AQ} {pc q : Nat} {ls : List (Option AV)} {st : List AV} {n : Nat} {μ : AH} {k z : Nat} {j : Fin 2} {a : Int} (hd : decode Y.cc pc = .ok (.lconst j, 1)) (hq : pc + 1 = q) (hv : Int64.ofNat (j : Nat) = Int64.ofInt a) (hr : lR a) (K : AW Y S Q q ls (vL a :: st) n μ k z) : AW Y S Q pc ls (st) n μ k z := by
  intro p l e s m args below meth c g A n0 ad0 F hS ad H locs ls0 hR hL ho
  have hx := F.1
  have hb := F.2.1
  subst hq
  refine lv_lconst (v := Int64.ofInt a) hx hb hd hv ?_
  exact K p l e s m args below meth c g A n0 ad0 F hS ad H locs ls0 hR hL (List.forall_mem_cons.mpr ⟨hr, ho⟩)
theorem aw_ldc {Y : AY} {S : AScr} {Q : AQ} {pc q : Nat} {ls : List (Option AV)} {st : List AV} {n : Nat} {μ : AH} {k z : Nat} {ix : Nat} {a : Int} (hd : decode Y.cc pc = .ok (.ldc ix, 2)) (hq : pc + 2 = q) (hw : Cond.constant Y.y.cls ix (Int32.ofInt a) ∈ Tb) (hr : iR a) (K : AW Y S Q q ls (vI a :: st) n μ k z) : AW Y S Q pc ls (st) n μ k z := by
  intro p l e s m args below meth c g A n0 ad0 F hS ad H locs ls0 hR hL ho
  have hx := F.1
  have hb := F.2.1
  subst hq
  refine lv_ldc (v := Int32.ofInt a) hx hb F.2.2.2.2.2.1 (F.2.2.2.2.2.2.2.2.2.1.use _ hw) hd ?_
  exact K p l e s m args below meth c g A n0 ad0 F hS ad H locs ls0 hR hL (List.forall_mem_cons.mpr ⟨hr, ho⟩)
theorem aw_ldc2 {Y : AY} {S : AScr} {Q : AQ} {pc q : Nat} {ls : List (Option AV)} {st : List AV} {n : Nat} {μ : AH} {k z : Nat} {ix : Nat} {a : Int} (hd : decode Y.cc pc = .ok (.ldc2_w ix, 3)) (hq : pc + 3 = q) (hw : Cond.constantLong Y.y.cls ix (Int64.ofInt a) ∈ Tb) (hr : lR a) (K : AW Y S Q q ls (vL a :: st) n μ k z) : AW Y S Q pc ls (st) n μ k z := by
  intro p l e s m args below meth c g A n0 ad0 F hS ad H locs ls0 hR hL ho
  have hx := F.1
  have hb := F.2.1
  subst hq
  refine lv_ldc2 (v := Int64.ofInt a) hx hb F.2.2.2.2.2.1 (F.2.2.2.2.2.2.2.2.2.1.use _ hw) hd ?_
  exact K p l e s m args below meth c g A n0 ad0 F hS ad H locs ls0 hR hL (List.forall_mem_cons.mpr ⟨hr, ho⟩)
theorem aw_iload_n {Y : AY} {S : AScr} {Q : AQ} {pc q : Nat} {ls : List (Option AV)} {st : List AV} {n : Nat} {μ : AH} {k z : Nat} {a : Int} {j : Fin 4} {i : Nat} (hd : decode Y.cc pc = .ok (.iload_n j, 1)) (hq : pc + 1 = q) (hi : (j : Nat) = i) (hv : ls[i]? = some (some (vI a))) (K : AW Y S Q q ls (vI a :: st) n μ k z) : AW Y S Q pc ls (st) n μ k z := by
  intro p l e s m args below meth c g A n0 ad0 F hS ad H locs ls0 hR hL ho
  have hx := F.1
  have hb := F.2.1
  subst hq
  obtain ⟨h1, h2⟩ := hL.2.2 i _ hv
  refine lv_iload_n hx hb hd hi h1 ?_
  exact K p l e s m args below meth c g A n0 ad0 F hS ad H locs ls0 hR hL (List.forall_mem_cons.mpr ⟨h2, ho⟩)
theorem aw_iload {Y : AY} {S : AScr} {Q : AQ} {pc q : Nat} {ls : List (Option AV)} {st : List AV} {n : Nat} {μ : AH} {k z : Nat} {a : Int} {i : Nat} (hd : decode Y.cc pc = .ok (.iload i, 2)) (hq : pc + 2 = q) (hv : ls[i]? = some (some (vI a))) (K : AW Y S Q q ls (vI a :: st) n μ k z) : AW Y S Q pc ls (st) n μ k z := by
  intro p l e s m args below meth c g A n0 ad0 F hS ad H locs ls0 hR hL ho
  have hx := F.1
  have hb := F.2.1
  subst hq
  obtain ⟨h1, h2⟩ := hL.2.2 i _ hv
  refine lv_iload hx hb hd h1 ?_
  exact K p l e s m args below meth c g A n0 ad0 F hS ad H locs ls0 hR hL (List.forall_mem_cons.mpr ⟨h2, ho⟩)
theorem aw_lload_n {Y : AY} {S : AScr} {Q : AQ} {pc q : Nat} {ls : List (Option AV)} {st : List AV} {n : Nat} {μ : AH} {k z : Nat} {a : Int} {j : Fin 4} {i : Nat} (hd : decode Y.cc pc = .ok (.lload_n j, 1)) (hq : pc + 1 = q) (hi : (j : Nat) = i) (hv : ls[i]? = some (some (vL a))) (K : AW Y S Q q ls (vL a :: st) n μ k z) : AW Y S Q pc ls (st) n μ k z := by
  intro p l e s m args below meth c g A n0 ad0 F hS ad H locs ls0 hR hL ho
  have hx := F.1
  have hb := F.2.1
  subst hq
  obtain ⟨h1, h2⟩ := hL.2.2 i _ hv
  refine lv_lload_n hx hb hd hi h1 ?_
  exact K p l e s m args below meth c g A n0 ad0 F hS ad H locs ls0 hR hL (List.forall_mem_cons.mpr ⟨h2, ho⟩)
theorem aw_lload {Y : AY} {S : AScr} {Q : AQ} {pc q : Nat} {ls : List (Option AV)} {st : List AV} {n : Nat} {μ : AH} {k z : Nat} {a : Int} {i : Nat} (hd : decode Y.cc pc = .ok (.lload i, 2)) (hq : pc + 2 = q) (hv : ls[i]? = some (some (vL a))) (K : AW Y S Q q ls (vL a :: st) n μ k z) : AW Y S Q pc ls (st) n μ k z := by
  intro p l e s m args below meth c g A n0 ad0 F hS ad H locs ls0 hR hL ho
  have hx := F.1
  have hb := F.2.1
  subst hq
  obtain ⟨h1, h2⟩ := hL.2.2 i _ hv
  refine lv_lload hx hb hd h1 ?_
  exact K p l e s m args below meth c g A n0 ad0 F hS ad H locs ls0 hR hL (List.forall_mem_cons.mpr ⟨h2, ho⟩)
theorem aw_aload_n {Y : AY} {S : AScr} {Q : AQ} {pc q : Nat} {ls : List (Option AV)} {st : List AV} {n : Nat} {μ : AH} {k z : Nat} {a : Nat} {j : Fin 4} {i : Nat} (hd : decode Y.cc pc = .ok (.aload_n j, 1)) (hq : pc + 1 = q) (hi : (j : Nat) = i) (hv : ls[i]? = some (some (vR a))) (K : AW Y S Q q ls (vR a :: st) n μ k z) : AW Y S Q pc ls (st) n μ k z := by
  intro p l e s m args below meth c g A n0 ad0 F hS ad H locs ls0 hR hL ho
  have hx := F.1
  have hb := F.2.1
  subst hq
  obtain ⟨h1, h2⟩ := hL.2.2 i _ hv
  refine lv_aload_n hx hb hd hi h1 ?_
  exact K p l e s m args below meth c g A n0 ad0 F hS ad H locs ls0 hR hL (List.forall_mem_cons.mpr ⟨h2, ho⟩)
theorem aw_aload {Y : AY} {S : AScr} {Q : AQ} {pc q : Nat} {ls : List (Option AV)} {st : List AV} {n : Nat} {μ : AH} {k z : Nat} {a : Nat} {i : Nat} (hd : decode Y.cc pc = .ok (.aload i, 2)) (hq : pc + 2 = q) (hv : ls[i]? = some (some (vR a))) (K : AW Y S Q q ls (vR a :: st) n μ k z) : AW Y S Q pc ls (st) n μ k z := by
  intro p l e s m args below meth c g A n0 ad0 F hS ad H locs ls0 hR hL ho
  have hx := F.1
  have hb := F.2.1
  subst hq
  obtain ⟨h1, h2⟩ := hL.2.2 i _ hv
  refine lv_aload hx hb hd h1 ?_
  exact K p l e s m args below meth c g A n0 ad0 F hS ad H locs ls0 hR hL (List.forall_mem_cons.mpr ⟨h2, ho⟩)
theorem aw_istore_n {Y : AY} {S : AScr} {Q : AQ} {pc q : Nat} {ls : List (Option AV)} {st : List AV} {n : Nat} {μ : AH} {k z : Nat} {a : Int} {j : Fin 4} {i : Nat} (hd : decode Y.cc pc = .ok (.istore_n j, 1)) (hq : pc + 1 = q) (hi : (j : Nat) = i) (hn : i < Y.nL) (K : AW Y S Q q (ls1 ls i (vI a)) st n μ k z) : AW Y S Q pc ls (vI a :: st) n μ k z := by
  intro p l e s m args below meth c g A n0 ad0 F hS ad H locs ls0 hR hL ho
  have hx := F.1
  have hb := F.2.1
  subst hq
  refine lv_istore_n hx hb hd hi (lvOf_has hL) hn rfl (fun ls1' hl1 => ?_)
  exact K p l e s m args below meth c g A n0 ad0 F hS ad H locs ls1' hR (aL_1 hL (List.forall_mem_cons.mp ho).1 hl1) (List.forall_mem_cons.mp ho).2
theorem aw_istore {Y : AY} {S : AScr} {Q : AQ} {pc q : Nat} {ls : List (Option AV)} {st : List AV} {n : Nat} {μ : AH} {k z : Nat} {a : Int} {i : Nat} (hd : decode Y.cc pc = .ok (.istore i, 2)) (hq : pc + 2 = q) (hn : i < Y.nL) (K : AW Y S Q q (ls1 ls i (vI a)) st n μ k z) : AW Y S Q pc ls (vI a :: st) n μ k z := by
  intro p l e s m args below meth c g A n0 ad0 F hS ad H locs ls0 hR hL ho
  have hx := F.1
  have hb := F.2.1
  subst hq
  refine lv_istore hx hb hd (lvOf_has hL) hn rfl (fun ls1' hl1 => ?_)
  exact K p l e s m args below meth c g A n0 ad0 F hS ad H locs ls1' hR (aL_1 hL (List.forall_mem_cons.mp ho).1 hl1) (List.forall_mem_cons.mp ho).2
theorem aw_lstore_n {Y : AY} {S : AScr} {Q : AQ} {pc q : Nat} {ls : List (Option AV)} {st : List AV} {n : Nat} {μ : AH} {k z : Nat} {a : Int} {j : Fin 4} {i : Nat} (hd : decode Y.cc pc = .ok (.lstore_n j, 1)) (hq : pc + 1 = q) (hi : (j : Nat) = i) (hn : i + 1 < Y.nL) (K : AW Y S Q q (ls2 ls i (vL a)) st n μ k z) : AW Y S Q pc ls (vL a :: st) n μ k z := by
  intro p l e s m args below meth c g A n0 ad0 F hS ad H locs ls0 hR hL ho
  have hx := F.1
  have hb := F.2.1
  subst hq
  refine lv_lstore_n hx hb hd hi (lvOf_has hL) hn rfl (fun ls1' hl1 => ?_)
  exact K p l e s m args below meth c g A n0 ad0 F hS ad H locs ls1' hR (aL_2 hL (List.forall_mem_cons.mp ho).1 hl1) (List.forall_mem_cons.mp ho).2
theorem aw_lstore {Y : AY} {S : AScr} {Q : AQ} {pc q : Nat} {ls : List (Option AV)} {st : List AV} {n : Nat} {μ : AH} {k z : Nat} {a : Int} {i : Nat} (hd : decode Y.cc pc = .ok (.lstore i, 2)) (hq : pc + 2 = q) (hn : i + 1 < Y.nL) (K : AW Y S Q q (ls2 ls i (vL a)) st n μ k z) : AW Y S Q pc ls (vL a :: st) n μ k z := by
  intro p l e s m args below meth c g A n0 ad0 F hS ad H locs ls0 hR hL ho
  have hx := F.1
  have hb := F.2.1
  subst hq
  refine lv_lstore hx hb hd (lvOf_has hL) hn rfl (fun ls1' hl1 => ?_)
  exact K p l e s m args below meth c g A n0 ad0 F hS ad H locs ls1' hR (aL_2 hL (List.forall_mem_cons.mp ho).1 hl1) (List.forall_mem_cons.mp ho).2
theorem aw_astore_n {Y : AY} {S : AScr} {Q : AQ} {pc q : Nat} {ls : List (Option AV)} {st : List AV} {n : Nat} {μ : AH} {k z : Nat} {a : Nat} {j : Fin 4} {i : Nat} (hd : decode Y.cc pc = .ok (.astore_n j, 1)) (hq : pc + 1 = q) (hi : (j : Nat) = i) (hn : i < Y.nL) (K : AW Y S Q q (ls1 ls i (vR a)) st n μ k z) : AW Y S Q pc ls (vR a :: st) n μ k z := by
  intro p l e s m args below meth c g A n0 ad0 F hS ad H locs ls0 hR hL ho
  have hx := F.1
  have hb := F.2.1
  subst hq
  refine lv_astore_n hx hb hd hi (lvOf_has hL) hn rfl (fun ls1' hl1 => ?_)
  exact K p l e s m args below meth c g A n0 ad0 F hS ad H locs ls1' hR (aL_1 hL (List.forall_mem_cons.mp ho).1 hl1) (List.forall_mem_cons.mp ho).2
theorem aw_astore {Y : AY} {S : AScr} {Q : AQ} {pc q : Nat} {ls : List (Option AV)} {st : List AV} {n : Nat} {μ : AH} {k z : Nat} {a : Nat} {i : Nat} (hd : decode Y.cc pc = .ok (.astore i, 2)) (hq : pc + 2 = q) (hn : i < Y.nL) (K : AW Y S Q q (ls1 ls i (vR a)) st n μ k z) : AW Y S Q pc ls (vR a :: st) n μ k z := by
  intro p l e s m args below meth c g A n0 ad0 F hS ad H locs ls0 hR hL ho
  have hx := F.1
  have hb := F.2.1
  subst hq
  refine lv_astore hx hb hd (lvOf_has hL) hn rfl (fun ls1' hl1 => ?_)
  exact K p l e s m args below meth c g A n0 ad0 F hS ad H locs ls1' hR (aL_1 hL (List.forall_mem_cons.mp ho).1 hl1) (List.forall_mem_cons.mp ho).2
theorem aw_iinc {Y : AY} {S : AScr} {Q : AQ} {pc q : Nat} {ls : List (Option AV)} {st : List AV} {n : Nat} {μ : AH} {k z : Nat} {a d : Int} {i : Nat} (hd : decode Y.cc pc = .ok (.iinc i d, 3)) (hq : pc + 3 = q) (hv : ls[i]? = some (some (vI a))) (hn : i < Y.nL) (hr : iR (a + d)) (K : AW Y S Q q (ls1 ls i (vI (a + d))) st n μ k z) : AW Y S Q pc ls st n μ k z := by
  intro p l e s m args below meth c g A n0 ad0 F hS ad H locs ls0 hR hL ho
  have hx := F.1
  have hb := F.2.1
  subst hq
  obtain ⟨kk, hk⟩ := lvOf_at (ad := ad) hv
  refine lv_iinc (v := Int32.ofInt (a + d)) hx hb hd (lvOf_has hL) hk (Int32.ofInt_add _ _).symm hn rfl (fun ls1' hl1 => ?_)
  exact K p l e s m args below meth c g A n0 ad0 F hS ad H locs ls1' hR (aL_1 hL hr hl1) ho
theorem aw_dup {Y : AY} {S : AScr} {Q : AQ} {pc q : Nat} {ls : List (Option AV)} {st : List AV} {n : Nat} {μ : AH} {k z : Nat} {v : AV} (hd : decode Y.cc pc = .ok (.dup, 1)) (hq : pc + 1 = q) (hc : isC1 v = true) (K : AW Y S Q q ls (v :: v :: st) n μ k z) : AW Y S Q pc ls (v :: st) n μ k z := by
  intro p l e s m args below meth c g A n0 ad0 F hS ad H locs ls0 hR hL ho
  have hx := F.1
  have hb := F.2.1
  subst hq
  refine lv_dup hx hb hd (cat1 hc ad) ?_
  exact K p l e s m args below meth c g A n0 ad0 F hS ad H locs ls0 hR hL (List.forall_mem_cons.mpr ⟨(List.forall_mem_cons.mp ho).1, ho⟩)
theorem aw_pop {Y : AY} {S : AScr} {Q : AQ} {pc q : Nat} {ls : List (Option AV)} {st : List AV} {n : Nat} {μ : AH} {k z : Nat} {v : AV} (hd : decode Y.cc pc = .ok (.pop, 1)) (hq : pc + 1 = q) (hc : isC1 v = true) (K : AW Y S Q q ls (st) n μ k z) : AW Y S Q pc ls (v :: st) n μ k z := by
  intro p l e s m args below meth c g A n0 ad0 F hS ad H locs ls0 hR hL ho
  have hx := F.1
  have hb := F.2.1
  subst hq
  refine lv_pop hx hb hd (cat1 hc ad) ?_
  exact K p l e s m args below meth c g A n0 ad0 F hS ad H locs ls0 hR hL (List.forall_mem_cons.mp ho).2
theorem aw_dup_x1 {Y : AY} {S : AScr} {Q : AQ} {pc q : Nat} {ls : List (Option AV)} {st : List AV} {n : Nat} {μ : AH} {k z : Nat} {v w : AV} (hd : decode Y.cc pc = .ok (.dup_x1, 1)) (hq : pc + 1 = q) (hc : isC1 v = true) (hc2 : isC1 w = true) (K : AW Y S Q q ls (v :: w :: v :: st) n μ k z) : AW Y S Q pc ls (v :: w :: st) n μ k z := by
  intro p l e s m args below meth c g A n0 ad0 F hS ad H locs ls0 hR hL ho
  have hx := F.1
  have hb := F.2.1
  subst hq
  refine lv_dup_x1 hx hb hd (cat1 hc ad) (cat1 hc2 ad) ?_
  exact K p l e s m args below meth c g A n0 ad0 F hS ad H locs ls0 hR hL (List.forall_mem_cons.mpr ⟨(List.forall_mem_cons.mp ho).1, (List.forall_mem_cons.mpr ⟨(List.forall_mem_cons.mp (List.forall_mem_cons.mp ho).2).1, (List.forall_mem_cons.mpr ⟨(List.forall_mem_cons.mp ho).1, (List.forall_mem_cons.mp (List.forall_mem_cons.mp ho).2).2⟩)⟩)⟩)
theorem aw_dup2 {Y : AY} {S : AScr} {Q : AQ} {pc q : Nat} {ls : List (Option AV)} {st : List AV} {n : Nat} {μ : AH} {k z : Nat} {v w : AV} (hd : decode Y.cc pc = .ok (.dup2, 1)) (hq : pc + 1 = q) (hc : isC1 v = true) (hc2 : isC1 w = true) (K : AW Y S Q q ls (v :: w :: v :: w :: st) n μ k z) : AW Y S Q pc ls (v :: w :: st) n μ k z := by
  intro p l e s m args below meth c g A n0 ad0 F hS ad H locs ls0 hR hL ho
  have hx := F.1
  have hb := F.2.1
  subst hq
  refine lv_dup2_11 hx hb hd (cat1 hc ad) (cat1 hc2 ad) ?_
  exact K p l e s m args below meth c g A n0 ad0 F hS ad H locs ls0 hR hL (List.forall_mem_cons.mpr ⟨(List.forall_mem_cons.mp ho).1, (List.forall_mem_cons.mpr ⟨(List.forall_mem_cons.mp (List.forall_mem_cons.mp ho).2).1, ho⟩)⟩)
theorem aw_lcmp {Y : AY} {S : AScr} {Q : AQ} {pc q : Nat} {ls : List (Option AV)} {st : List AV} {n : Nat} {μ : AH} {k z : Nat} {a b : Int} (hd : decode Y.cc pc = .ok (.lcmp, 1)) (hq : pc + 1 = q)  (K : AW Y S Q q ls (vI (cmpz a b) :: st) n μ k z) : AW Y S Q pc ls (vL b :: vL a :: st) n μ k z := by
  intro p l e s m args below meth c g A n0 ad0 F hS ad H locs ls0 hR hL ho
  have hx := F.1
  have hb := F.2.1
  subst hq
  have ha : lR a := (List.forall_mem_cons.mp (List.forall_mem_cons.mp ho).2).1
  have hbb : lR b := (List.forall_mem_cons.mp ho).1
  refine W.lcmp hx hb hd ?_
  rw [cmpz_c ha hbb]
  exact K p l e s m args below meth c g A n0 ad0 F hS ad H locs ls0 hR hL (List.forall_mem_cons.mpr ⟨(cmpz_R a b), (List.forall_mem_cons.mp (List.forall_mem_cons.mp ho).2).2⟩)
theorem aw_goto {Y : AY} {S : AScr} {Q : AQ} {pc q : Nat} {ls : List (Option AV)} {st : List AV} {n : Nat} {μ : AH} {k z : Nat} {off : Int} (hd : decode Y.cc pc = .ok (.goto off, 3)) (hq : (pc : Int) + off = (q : Int)) (K : AW Y S Q q ls st n μ k z) : AW Y S Q pc ls st n μ k z := by
  intro p l e s m args below meth c g A n0 ad0 F hS ad H locs ls0 hR hL ho
  have hx := F.1
  have hb := F.2.1
  exact lv_goto hx hb hd hq (K p l e s m args below meth c g A n0 ad0 F hS ad H locs ls0 hR hL ho)
theorem aw_if_eq {Y : AY} {S : AScr} {Q : AQ} {pc q : Nat} {ls : List (Option AV)} {st : List AV} {n : Nat} {μ : AH} {k z : Nat} {a : Int} {off : Int} {t : Nat} (hd : decode Y.cc pc = .ok (.ifCond .eq off, 3)) (hq : pc + 3 = q) (ht : (pc : Int) + off = (t : Int)) (kt : a = 0 → AW Y S Q t ls st n μ k z) (kf : ¬ (a = 0) → AW Y S Q q ls st n μ k z) : AW Y S Q pc ls (vI a :: st) n μ k z := by
  intro p l e s m args below meth c g A n0 ad0 F hS ad H locs ls0 hR hL ho
  have hx := F.1
  have hb := F.2.1
  subst hq
  have ha : iR a := (List.forall_mem_cons.mp ho).1
  exact lv_if_eq hx hb hd ht (fun h => kt ((i_eq0 ha).mp h) p l e s m args below meth c g A n0 ad0 F hS ad H locs ls0 hR hL (List.forall_mem_cons.mp ho).2) (fun h => kf (fun h2 => h ((i_eq0 ha).mpr h2)) p l e s m args below meth c g A n0 ad0 F hS ad H locs ls0 hR hL (List.forall_mem_cons.mp ho).2)
theorem aw_if_ne {Y : AY} {S : AScr} {Q : AQ} {pc q : Nat} {ls : List (Option AV)} {st : List AV} {n : Nat} {μ : AH} {k z : Nat} {a : Int} {off : Int} {t : Nat} (hd : decode Y.cc pc = .ok (.ifCond .ne off, 3)) (hq : pc + 3 = q) (ht : (pc : Int) + off = (t : Int)) (kt : a ≠ 0 → AW Y S Q t ls st n μ k z) (kf : a = 0 → AW Y S Q q ls st n μ k z) : AW Y S Q pc ls (vI a :: st) n μ k z := by
  intro p l e s m args below meth c g A n0 ad0 F hS ad H locs ls0 hR hL ho
  have hx := F.1
  have hb := F.2.1
  subst hq
  have ha : iR a := (List.forall_mem_cons.mp ho).1
  exact lv_if_ne hx hb hd ht (fun h => kt ((not_congr (i_eq0 ha)).mp h) p l e s m args below meth c g A n0 ad0 F hS ad H locs ls0 hR hL (List.forall_mem_cons.mp ho).2) (fun h => kf ((i_eq0 ha).mp h) p l e s m args below meth c g A n0 ad0 F hS ad H locs ls0 hR hL (List.forall_mem_cons.mp ho).2)
theorem aw_if_lt {Y : AY} {S : AScr} {Q : AQ} {pc q : Nat} {ls : List (Option AV)} {st : List AV} {n : Nat} {μ : AH} {k z : Nat} {a : Int} {off : Int} {t : Nat} (hd : decode Y.cc pc = .ok (.ifCond .lt off, 3)) (hq : pc + 3 = q) (ht : (pc : Int) + off = (t : Int)) (kt : a < 0 → AW Y S Q t ls st n μ k z) (kf : ¬ (a < 0) → AW Y S Q q ls st n μ k z) : AW Y S Q pc ls (vI a :: st) n μ k z := by
  intro p l e s m args below meth c g A n0 ad0 F hS ad H locs ls0 hR hL ho
  have hx := F.1
  have hb := F.2.1
  subst hq
  have ha : iR a := (List.forall_mem_cons.mp ho).1
  exact lv_if_lt hx hb hd ht (fun h => kt ((i_lt0 ha).mp h) p l e s m args below meth c g A n0 ad0 F hS ad H locs ls0 hR hL (List.forall_mem_cons.mp ho).2) (fun h => kf (fun h2 => h ((i_lt0 ha).mpr h2)) p l e s m args below meth c g A n0 ad0 F hS ad H locs ls0 hR hL (List.forall_mem_cons.mp ho).2)
theorem aw_if_ge {Y : AY} {S : AScr} {Q : AQ} {pc q : Nat} {ls : List (Option AV)} {st : List AV} {n : Nat} {μ : AH} {k z : Nat} {a : Int} {off : Int} {t : Nat} (hd : decode Y.cc pc = .ok (.ifCond .ge off, 3)) (hq : pc + 3 = q) (ht : (pc : Int) + off = (t : Int)) (kt : 0 ≤ a → AW Y S Q t ls st n μ k z) (kf : ¬ (0 ≤ a) → AW Y S Q q ls st n μ k z) : AW Y S Q pc ls (vI a :: st) n μ k z := by
  intro p l e s m args below meth c g A n0 ad0 F hS ad H locs ls0 hR hL ho
  have hx := F.1
  have hb := F.2.1
  subst hq
  have ha : iR a := (List.forall_mem_cons.mp ho).1
  exact lv_if_ge hx hb hd ht (fun h => kt ((i_0le ha).mp h) p l e s m args below meth c g A n0 ad0 F hS ad H locs ls0 hR hL (List.forall_mem_cons.mp ho).2) (fun h => kf (fun h2 => h ((i_0le ha).mpr h2)) p l e s m args below meth c g A n0 ad0 F hS ad H locs ls0 hR hL (List.forall_mem_cons.mp ho).2)
theorem aw_if_gt {Y : AY} {S : AScr} {Q : AQ} {pc q : Nat} {ls : List (Option AV)} {st : List AV} {n : Nat} {μ : AH} {k z : Nat} {a : Int} {off : Int} {t : Nat} (hd : decode Y.cc pc = .ok (.ifCond .gt off, 3)) (hq : pc + 3 = q) (ht : (pc : Int) + off = (t : Int)) (kt : 0 < a → AW Y S Q t ls st n μ k z) (kf : ¬ (0 < a) → AW Y S Q q ls st n μ k z) : AW Y S Q pc ls (vI a :: st) n μ k z := by
  intro p l e s m args below meth c g A n0 ad0 F hS ad H locs ls0 hR hL ho
  have hx := F.1
  have hb := F.2.1
  subst hq
  have ha : iR a := (List.forall_mem_cons.mp ho).1
  exact lv_if_gt hx hb hd ht (fun h => kt ((i_0lt ha).mp h) p l e s m args below meth c g A n0 ad0 F hS ad H locs ls0 hR hL (List.forall_mem_cons.mp ho).2) (fun h => kf (fun h2 => h ((i_0lt ha).mpr h2)) p l e s m args below meth c g A n0 ad0 F hS ad H locs ls0 hR hL (List.forall_mem_cons.mp ho).2)
theorem aw_if_le {Y : AY} {S : AScr} {Q : AQ} {pc q : Nat} {ls : List (Option AV)} {st : List AV} {n : Nat} {μ : AH} {k z : Nat} {a : Int} {off : Int} {t : Nat} (hd : decode Y.cc pc = .ok (.ifCond .le off, 3)) (hq : pc + 3 = q) (ht : (pc : Int) + off = (t : Int)) (kt : a ≤ 0 → AW Y S Q t ls st n μ k z) (kf : ¬ (a ≤ 0) → AW Y S Q q ls st n μ k z) : AW Y S Q pc ls (vI a :: st) n μ k z := by
  intro p l e s m args below meth c g A n0 ad0 F hS ad H locs ls0 hR hL ho
  have hx := F.1
  have hb := F.2.1
  subst hq
  have ha : iR a := (List.forall_mem_cons.mp ho).1
  exact lv_if_le hx hb hd ht (fun h => kt ((i_le0 ha).mp h) p l e s m args below meth c g A n0 ad0 F hS ad H locs ls0 hR hL (List.forall_mem_cons.mp ho).2) (fun h => kf (fun h2 => h ((i_le0 ha).mpr h2)) p l e s m args below meth c g A n0 ad0 F hS ad H locs ls0 hR hL (List.forall_mem_cons.mp ho).2)
theorem aw_ic_eq {Y : AY} {S : AScr} {Q : AQ} {pc q : Nat} {ls : List (Option AV)} {st : List AV} {n : Nat} {μ : AH} {k z : Nat} {a b : Int} {off : Int} {t : Nat} (hd : decode Y.cc pc = .ok (.if_icmp .eq off, 3)) (hq : pc + 3 = q) (ht : (pc : Int) + off = (t : Int)) (kt : a = b → AW Y S Q t ls st n μ k z) (kf : ¬ (a = b) → AW Y S Q q ls st n μ k z) : AW Y S Q pc ls (vI b :: vI a :: st) n μ k z := by
  intro p l e s m args below meth c g A n0 ad0 F hS ad H locs ls0 hR hL ho
  have hx := F.1
  have hb := F.2.1
  subst hq
  have ha : iR a := (List.forall_mem_cons.mp (List.forall_mem_cons.mp ho).2).1
  have hbb : iR b := (List.forall_mem_cons.mp ho).1
  exact lv_icmp_eq hx hb hd ht (fun h => kt ((i_eq ha hbb).mp h) p l e s m args below meth c g A n0 ad0 F hS ad H locs ls0 hR hL (List.forall_mem_cons.mp (List.forall_mem_cons.mp ho).2).2) (fun h => kf (fun h2 => h ((i_eq ha hbb).mpr h2)) p l e s m args below meth c g A n0 ad0 F hS ad H locs ls0 hR hL (List.forall_mem_cons.mp (List.forall_mem_cons.mp ho).2).2)
theorem aw_ic_ne {Y : AY} {S : AScr} {Q : AQ} {pc q : Nat} {ls : List (Option AV)} {st : List AV} {n : Nat} {μ : AH} {k z : Nat} {a b : Int} {off : Int} {t : Nat} (hd : decode Y.cc pc = .ok (.if_icmp .ne off, 3)) (hq : pc + 3 = q) (ht : (pc : Int) + off = (t : Int)) (kt : a ≠ b → AW Y S Q t ls st n μ k z) (kf : a = b → AW Y S Q q ls st n μ k z) : AW Y S Q pc ls (vI b :: vI a :: st) n μ k z := by
  intro p l e s m args below meth c g A n0 ad0 F hS ad H locs ls0 hR hL ho
  have hx := F.1
  have hb := F.2.1
  subst hq
  have ha : iR a := (List.forall_mem_cons.mp (List.forall_mem_cons.mp ho).2).1
  have hbb : iR b := (List.forall_mem_cons.mp ho).1
  exact lv_icmp_ne hx hb hd ht (fun h => kt ((not_congr (i_eq ha hbb)).mp h) p l e s m args below meth c g A n0 ad0 F hS ad H locs ls0 hR hL (List.forall_mem_cons.mp (List.forall_mem_cons.mp ho).2).2) (fun h => kf ((i_eq ha hbb).mp h) p l e s m args below meth c g A n0 ad0 F hS ad H locs ls0 hR hL (List.forall_mem_cons.mp (List.forall_mem_cons.mp ho).2).2)
theorem aw_ic_lt {Y : AY} {S : AScr} {Q : AQ} {pc q : Nat} {ls : List (Option AV)} {st : List AV} {n : Nat} {μ : AH} {k z : Nat} {a b : Int} {off : Int} {t : Nat} (hd : decode Y.cc pc = .ok (.if_icmp .lt off, 3)) (hq : pc + 3 = q) (ht : (pc : Int) + off = (t : Int)) (kt : a < b → AW Y S Q t ls st n μ k z) (kf : ¬ (a < b) → AW Y S Q q ls st n μ k z) : AW Y S Q pc ls (vI b :: vI a :: st) n μ k z := by
  intro p l e s m args below meth c g A n0 ad0 F hS ad H locs ls0 hR hL ho
  have hx := F.1
  have hb := F.2.1
  subst hq
  have ha : iR a := (List.forall_mem_cons.mp (List.forall_mem_cons.mp ho).2).1
  have hbb : iR b := (List.forall_mem_cons.mp ho).1
  exact lv_icmp_lt hx hb hd ht (fun h => kt ((i_lt ha hbb).mp h) p l e s m args below meth c g A n0 ad0 F hS ad H locs ls0 hR hL (List.forall_mem_cons.mp (List.forall_mem_cons.mp ho).2).2) (fun h => kf (fun h2 => h ((i_lt ha hbb).mpr h2)) p l e s m args below meth c g A n0 ad0 F hS ad H locs ls0 hR hL (List.forall_mem_cons.mp (List.forall_mem_cons.mp ho).2).2)
theorem aw_ic_ge {Y : AY} {S : AScr} {Q : AQ} {pc q : Nat} {ls : List (Option AV)} {st : List AV} {n : Nat} {μ : AH} {k z : Nat} {a b : Int} {off : Int} {t : Nat} (hd : decode Y.cc pc = .ok (.if_icmp .ge off, 3)) (hq : pc + 3 = q) (ht : (pc : Int) + off = (t : Int)) (kt : b ≤ a → AW Y S Q t ls st n μ k z) (kf : ¬ (b ≤ a) → AW Y S Q q ls st n μ k z) : AW Y S Q pc ls (vI b :: vI a :: st) n μ k z := by
  intro p l e s m args below meth c g A n0 ad0 F hS ad H locs ls0 hR hL ho
  have hx := F.1
  have hb := F.2.1
  subst hq
  have ha : iR a := (List.forall_mem_cons.mp (List.forall_mem_cons.mp ho).2).1
  have hbb : iR b := (List.forall_mem_cons.mp ho).1
  exact lv_icmp_ge hx hb hd ht (fun h => kt ((i_le hbb ha).mp h) p l e s m args below meth c g A n0 ad0 F hS ad H locs ls0 hR hL (List.forall_mem_cons.mp (List.forall_mem_cons.mp ho).2).2) (fun h => kf (fun h2 => h ((i_le hbb ha).mpr h2)) p l e s m args below meth c g A n0 ad0 F hS ad H locs ls0 hR hL (List.forall_mem_cons.mp (List.forall_mem_cons.mp ho).2).2)
theorem aw_ic_gt {Y : AY} {S : AScr} {Q : AQ} {pc q : Nat} {ls : List (Option AV)} {st : List AV} {n : Nat} {μ : AH} {k z : Nat} {a b : Int} {off : Int} {t : Nat} (hd : decode Y.cc pc = .ok (.if_icmp .gt off, 3)) (hq : pc + 3 = q) (ht : (pc : Int) + off = (t : Int)) (kt : b < a → AW Y S Q t ls st n μ k z) (kf : ¬ (b < a) → AW Y S Q q ls st n μ k z) : AW Y S Q pc ls (vI b :: vI a :: st) n μ k z := by
  intro p l e s m args below meth c g A n0 ad0 F hS ad H locs ls0 hR hL ho
  have hx := F.1
  have hb := F.2.1
  subst hq
  have ha : iR a := (List.forall_mem_cons.mp (List.forall_mem_cons.mp ho).2).1
  have hbb : iR b := (List.forall_mem_cons.mp ho).1
  exact lv_icmp_gt hx hb hd ht (fun h => kt ((i_lt hbb ha).mp h) p l e s m args below meth c g A n0 ad0 F hS ad H locs ls0 hR hL (List.forall_mem_cons.mp (List.forall_mem_cons.mp ho).2).2) (fun h => kf (fun h2 => h ((i_lt hbb ha).mpr h2)) p l e s m args below meth c g A n0 ad0 F hS ad H locs ls0 hR hL (List.forall_mem_cons.mp (List.forall_mem_cons.mp ho).2).2)
theorem aw_ic_le {Y : AY} {S : AScr} {Q : AQ} {pc q : Nat} {ls : List (Option AV)} {st : List AV} {n : Nat} {μ : AH} {k z : Nat} {a b : Int} {off : Int} {t : Nat} (hd : decode Y.cc pc = .ok (.if_icmp .le off, 3)) (hq : pc + 3 = q) (ht : (pc : Int) + off = (t : Int)) (kt : a ≤ b → AW Y S Q t ls st n μ k z) (kf : ¬ (a ≤ b) → AW Y S Q q ls st n μ k z) : AW Y S Q pc ls (vI b :: vI a :: st) n μ k z := by
  intro p l e s m args below meth c g A n0 ad0 F hS ad H locs ls0 hR hL ho
  have hx := F.1
  have hb := F.2.1
  subst hq
  have ha : iR a := (List.forall_mem_cons.mp (List.forall_mem_cons.mp ho).2).1
  have hbb : iR b := (List.forall_mem_cons.mp ho).1
  exact lv_icmp_le hx hb hd ht (fun h => kt ((i_le ha hbb).mp h) p l e s m args below meth c g A n0 ad0 F hS ad H locs ls0 hR hL (List.forall_mem_cons.mp (List.forall_mem_cons.mp ho).2).2) (fun h => kf (fun h2 => h ((i_le ha hbb).mpr h2)) p l e s m args below meth c g A n0 ad0 F hS ad H locs ls0 hR hL (List.forall_mem_cons.mp (List.forall_mem_cons.mp ho).2).2)
