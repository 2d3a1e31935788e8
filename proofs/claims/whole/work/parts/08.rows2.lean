/-! ===== rows: fields, arrays, bits, returns ===== -/
section HR
variable {Y : AY} {S : AScr} {Q : AQ} {pc q : Nat} {ls : List (Option AV)} {st : List AV} {n : Nat} {μ : AH} {k z : Nat}
/-- entry ix of own's pool is field fk of the class ci -/
def FL (own : String) (ix ci fk : Nat) : Prop := ∃ (C : String) (T : u_T) (N : Nat) (ty : Nat → FieldType), vwCl[ci]? = some (C, T, N) ∧ fk < N ∧ (∀ w ∈ u_ws C T N, w ∈ Tb) ∧ (∀ j, j < N → parseFieldDescriptor (T j).2.2.1 = some (ty j)) ∧ (∀ a, a < N → ∀ b, b < N → a ≠ b → (T a).2.1 ≠ (T b).2.1) ∧ (Cond.fieldLink own ix (T fk).1 (T fk).2.1 (T fk).2.2.1 ∈ Tb ∨ ∃ host, Cond.fieldLinkNest own ix (T fk).1 (T fk).2.1 (T fk).2.2.1 host ∈ Tb)
/-- .. it is not final, and has this type -/
def FP (own : String) (ix ci fk : Nat) (ty1 : FieldType) : Prop := FL own ix ci fk ∧ ∀ C T N, vwCl[ci]? = some (C, T, N) → (T fk).2.2.2 = false ∧ parseFieldDescriptor (T fk).2.2.1 = some ty1
/-- .. it is final, and own's -/
def FF (own : String) (ix ci fk : Nat) (ty1 : FieldType) : Prop := FL own ix ci fk ∧ ∀ C T N, vwCl[ci]? = some (C, T, N) → (T fk).2.2.2 = true ∧ (T fk).1 = own ∧ parseFieldDescriptor (T fk).2.2.1 = some ty1 ∧ Cond.fieldLink own ix (T fk).1 (T fk).2.1 (T fk).2.2.1 ∈ Tb
def tyOK (ty : FieldType) (v : AV) : Prop := match ty, v with
  | .int, .inl _ => True
  | .long, .inr (.inl _) => True
  | .boolean, .inl z => z = 0 ∨ z = 1
  | .array _, .inr (.inr (.inl _)) => True
  | .object _, .inr (.inr (.inl _)) => True
  | _, _ => False
theorem tyOK_n {ty : FieldType} {v : AV} (ad : Nat → Nat) (h : tyOK ty v) : narrow ty (cV ad v) = cV ad v ∧ fits ty (cV ad v) = true := by
  unfold tyOK at h
  split at h
  · exact ⟨rfl, rfl⟩
  · exact ⟨rfl, rfl⟩
  · rcases h with rfl | rfl
    · exact ⟨(by decide : narrow .boolean (.int (Int32.ofInt 0)) = .int (Int32.ofInt 0)), (by decide : fits .boolean (.int (Int32.ofInt 0)) = true)⟩
    · exact ⟨(by decide : narrow .boolean (.int (Int32.ofInt 1)) = .int (Int32.ofInt 1)), (by decide : fits .boolean (.int (Int32.ofInt 1)) = true)⟩
  · rename_i r
    cases r <;> exact ⟨rfl, rfl⟩
  · rename_i r
    cases r <;> exact ⟨rfl, rfl⟩
  · exact h.elim
theorem i_cl {i : Int} (h : iR i) : (Int32.ofInt i).toNatClampNeg = i.toNat := by
  rw [Int32.toNatClampNeg, i_ti h]
theorem i_vin {i : Int} {j N : Nat} (h : iR i) (hi : i = (j : Int)) (hj : j < N) : vp_in (Int32.ofInt i) N := by
  rw [vp_in_iff, i_ti h]
  omega
theorem aw_get {a ci fk ix : Nat} {fs : List AV} {v : AV} (hd : decode Y.cc pc = .ok (.getfield ix, 3)) (hq : pc + 3 = q) (hf : FL Y.y.cls ix ci fk) (hm : μ a = oO ci fs) (hv : fs[fk]? = some v) (K : okV n v → AW Y S Q q ls (v :: st) n μ k z) : AW Y S Q pc ls (vR a :: st) n μ k z := by
  intro p l e s m args below meth c g A n0 ad0 F hS ad H locs ls0 hR hL ho
  have hx := F.1
  have hb := F.2.1
  subst hq
  have hn : a < n := (List.forall_mem_cons.mp ho).1
  have hC := F.2.2.2.2.2.2.2.2.2.1
  obtain ⟨C, T, N, ty, hc, hk, hin, hty, hnm, hl⟩ := hf
  have he : (aW g ad n μ)[a]? = some (ad a, .inr (ci, fs.map (cV ad))) := by rw [aW_get hn, hm]; rfl
  have hv' : (fs.map (cV ad))[fk]? = some (cV ad v) := by rw [List.getElem?_map, hv]; rfl
  have hok : okV n v := by
    have h1 := hR.2.2.2.1.2 a hn
    rw [hm] at h1
    exact h1 v (List.mem_of_getElem? hv)
  rcases hl with hl | ⟨host, hl⟩
  · refine va_get (D := g.1) (cl := vwCl) hx hb hC.use hin F.2.2.2.2.2.1 hC.1 hR.1 a he hc fk hk (hC.use _ hl) (fun _ h9 => h9) hv' hd ?_
    exact K hok p l e s m args below meth c g A n0 ad0 F hS ad H locs ls0 hR hL (List.forall_mem_cons.mpr ⟨hok, (List.forall_mem_cons.mp ho).2⟩)
  · refine va_getN (D := g.1) (cl := vwCl) hx hb hC.use hin F.2.2.2.2.2.1 hC.1 hR.1 a he hc fk hk (hC.use _ hl) (fun _ h9 => h9) hv' hd ?_
    exact K hok p l e s m args below meth c g A n0 ad0 F hS ad H locs ls0 hR hL (List.forall_mem_cons.mpr ⟨hok, (List.forall_mem_cons.mp ho).2⟩)
theorem aW_obj {g : aG} {ad : Nat → Nat} {a ci fk : Nat} {fs : List AV} {v : AV} (h : a < n) : (aW g ad n μ).set a (ad a, .inr (ci, (fs.map (cV ad)).set fk (cV ad v))) = aW g ad n (hu μ a (oO ci (fs.set fk v))) := by
  rw [← aW_set h]
  show _ = (aW g ad n μ).set a (ad a, .inr (ci, (fs.set fk v).map (cV ad)))
  rw [List.map_set]
theorem ok_set {n fk : Nat} {fs : List AV} {v : AV} (h : ∀ w ∈ fs, okV n w) (hv : okV n v) : ∀ w ∈ fs.set fk v, okV n w := fun w hw => by
  rcases List.mem_or_eq_of_mem_set hw with h1 | h1
  · exact h w h1
  · rw [h1]; exact hv
theorem aw_put {a ci fk ix : Nat} {ty1 : FieldType} {fs : List AV} {v : AV} (hd : decode Y.cc pc = .ok (.putfield ix, 3)) (hq : pc + 3 = q) (hf : FP Y.y.cls ix ci fk ty1) (hm : μ a = oO ci fs) (hl : fk < fs.length) (hv : tyOK ty1 v) (K : AW Y S Q q ls st n (hu μ a (oO ci (fs.set fk v))) k z) : AW Y S Q pc ls (v :: vR a :: st) n μ k z := by
  intro p l e s m args below meth c g A n0 ad0 F hS ad H locs ls0 hR hL ho
  have hx := F.1
  have hb := F.2.1
  subst hq
  have hn : a < n := (List.forall_mem_cons.mp (List.forall_mem_cons.mp ho).2).1
  have hov : okV n v := (List.forall_mem_cons.mp ho).1
  have hC := F.2.2.2.2.2.2.2.2.2.1
  obtain ⟨⟨C, T, N, ty, hc, hk, hin, hty, hnm, hlk⟩, hf2⟩ := hf
  obtain ⟨hfin, hpt⟩ := hf2 C T N hc
  have he : (aW g ad n μ)[a]? = some (ad a, .inr (ci, fs.map (cV ad))) := by rw [aW_get hn, hm]; rfl
  obtain ⟨t1, t2⟩ := tyOK_n ad hv
  have hoo := hR.2.2.2.1.2 a hn
  rw [hm] at hoo
  have hoo : ∀ w ∈ fs, okV n w := hoo
  have fin : ∀ (H1 : Heap) (locs1 : List Loc), va_P g.1 vwCl ((aW g ad n μ).set a (ad a, .inr (ci, (fs.map (cV ad)).set fk (cV ad v)))) H1 → va_D A ((aW g ad n μ).set a (ad a, .inr (ci, (fs.map (cV ad)).set fk (cV ad v)))) → va_S A s.heap H1 locs1 → W p l e Y.rm s m args below meth c H1 locs1 k z (vx_MQ below (aQc g A n0 ad0 Q) (aXC g A n0 ad0 Q) args s Y.rm.cells Y.rm.slots A) (F0 m (pc + 3) ls0 (st.map (cV ad))) := by
    intro H1 locs1 h1 h2 h3
    rw [aW_obj hn] at h1 h2
    exact K p l e s m args below meth c g A n0 ad0 F hS ad H1 locs1 ls0 ⟨h1, h2, h3, okH_set hR.2.2.2.1 (ok_set hoo hov), hR.2.2.2.2⟩ hL (List.forall_mem_cons.mp (List.forall_mem_cons.mp ho).2).2
  rcases hlk with hlk | ⟨host, hlk⟩
  · exact va_put (D := g.1) (cl := vwCl) (ty := ty1) hx hb hC.use hin ty hty hnm F.2.2.2.2.2.1 hC.1 hR.1 hR.2.1 hR.2.2.1 a he hc fk hk (hC.use _ hlk) (fun _ h9 => h9) hfin hpt t1 t2 (by rw [List.length_map]; exact hl) hd fin
  · exact va_putN (D := g.1) (cl := vwCl) (ty := ty1) hx hb hC.use hin ty hty hnm F.2.2.2.2.2.1 hC.1 hR.1 hR.2.1 hR.2.2.1 a he hc fk hk (hC.use _ hlk) (fun _ h9 => h9) hfin hpt t1 t2 (by rw [List.length_map]; exact hl) hd fin
theorem aw_putF {a ci fk ix : Nat} {ty1 : FieldType} {fs : List AV} {v : AV} (hd : decode Y.cc pc = .ok (.putfield ix, 3)) (hq : pc + 3 = q) (hi : Y.y.name = "<init>") (hf : FF Y.y.cls ix ci fk ty1) (hm : μ a = oO ci fs) (hl : fk < fs.length) (hv : tyOK ty1 v) (K : AW Y S Q q ls st n (hu μ a (oO ci (fs.set fk v))) k z) : AW Y S Q pc ls (v :: vR a :: st) n μ k z := by
  intro p l e s m args below meth c g A n0 ad0 F hS ad H locs ls0 hR hL ho
  have hx := F.1
  have hb := F.2.1
  subst hq
  have hn : a < n := (List.forall_mem_cons.mp (List.forall_mem_cons.mp ho).2).1
  have hov : okV n v := (List.forall_mem_cons.mp ho).1
  have hC := F.2.2.2.2.2.2.2.2.2.1
  obtain ⟨⟨C, T, N, ty, hc, hk, hin, hty, hnm, -⟩, hf2⟩ := hf
  obtain ⟨hfin, hdecl, hpt, hlk⟩ := hf2 C T N hc
  have he : (aW g ad n μ)[a]? = some (ad a, .inr (ci, fs.map (cV ad))) := by rw [aW_get hn, hm]; rfl
  obtain ⟨t1, t2⟩ := tyOK_n ad hv
  have hoo := hR.2.2.2.1.2 a hn
  rw [hm] at hoo
  have hoo : ∀ w ∈ fs, okV n w := hoo
  refine va_putF (D := g.1) (cl := vwCl) (ty := ty1) hx hb hC.use hin ty hty hnm F.2.2.2.2.2.1 hC.1 hR.1 hR.2.1 hR.2.2.1 a he hc fk hk (hC.use _ hlk) (fun _ h9 => h9) hfin (F.2.2.2.2.2.2.1.trans hi) hdecl hpt t1 t2 (by rw [List.length_map]; exact hl) hd (fun H1 locs1 h1 h2 h3 => ?_)
  rw [aW_obj hn] at h1 h2
  exact K p l e s m args below meth c g A n0 ad0 F hS ad H1 locs1 ls0 ⟨h1, h2, h3, okH_set hR.2.2.2.1 (ok_set hoo hov), hR.2.2.2.2⟩ hL (List.forall_mem_cons.mp (List.forall_mem_cons.mp ho).2).2
theorem aw_iaload {a N j : Nat} {f : Nat → Int} {i : Int} (hd : decode Y.cc pc = .ok (.iaload, 1)) (hq : pc + 1 = q) (hm : μ a = oI N f) (hi : i = (j : Int)) (hj : j < N) (K : iR (f j) → AW Y S Q q ls (vI (f j) :: st) n μ k z) : AW Y S Q pc ls (vI i :: vR a :: st) n μ k z := by
  intro p l e s m args below meth c g A n0 ad0 F hS ad H locs ls0 hR hL ho
  have hx := F.1
  have hb := F.2.1
  subst hq
  have hn : a < n := (List.forall_mem_cons.mp (List.forall_mem_cons.mp ho).2).1
  have hir : iR i := (List.forall_mem_cons.mp ho).1
  have hC := F.2.2.2.2.2.2.2.2.2.1
  have he : (aW g ad n μ)[a]? = some (ad a, .inl (g.2 0, N, .inl (fun j => Int32.ofInt (f j)))) := by rw [aW_get hn, hm]; rfl
  have hoo := hR.2.2.2.1.2 a hn
  rw [hm] at hoo
  have hoo : ∀ j, iR (f j) := hoo
  refine va_iald hx hb hC.1 hR.1 a 0 he rfl (i_vin hir hi hj) hd ?_
  rw [i_cl hir, show i.toNat = j by omega]
  exact K (hoo j) p l e s m args below meth c g A n0 ad0 F hS ad H locs ls0 hR hL (List.forall_mem_cons.mpr ⟨hoo j, (List.forall_mem_cons.mp (List.forall_mem_cons.mp ho).2).2⟩)
theorem aw_laload {a N j : Nat} {f : Nat → Int} {i : Int} (hd : decode Y.cc pc = .ok (.laload, 1)) (hq : pc + 1 = q) (hm : μ a = oL N f) (hi : i = (j : Int)) (hj : j < N) (K : lR (f j) → AW Y S Q q ls (vL (f j) :: st) n μ k z) : AW Y S Q pc ls (vI i :: vR a :: st) n μ k z := by
  intro p l e s m args below meth c g A n0 ad0 F hS ad H locs ls0 hR hL ho
  have hx := F.1
  have hb := F.2.1
  subst hq
  have hn : a < n := (List.forall_mem_cons.mp (List.forall_mem_cons.mp ho).2).1
  have hir : iR i := (List.forall_mem_cons.mp ho).1
  have hC := F.2.2.2.2.2.2.2.2.2.1
  have he : (aW g ad n μ)[a]? = some (ad a, .inl (g.2 1, N, .inr (.inl (fun j => Int64.ofInt (f j))))) := by rw [aW_get hn, hm]; rfl
  have hoo := hR.2.2.2.1.2 a hn
  rw [hm] at hoo
  have hoo : ∀ j, lR (f j) := hoo
  refine va_lald hx hb hC.1 hR.1 a 1 he rfl (i_vin hir hi hj) hd ?_
  rw [i_cl hir, show i.toNat = j by omega]
  exact K (hoo j) p l e s m args below meth c g A n0 ad0 F hS ad H locs ls0 hR hL (List.forall_mem_cons.mpr ⟨hoo j, (List.forall_mem_cons.mp (List.forall_mem_cons.mp ho).2).2⟩)
theorem aw_iastore {a N j : Nat} {f : Nat → Int} {i x : Int} (hd : decode Y.cc pc = .ok (.iastore, 1)) (hq : pc + 1 = q) (hm : μ a = oI N f) (hi : i = (j : Int)) (hj : j < N) (K : AW Y S Q q ls st n (hu μ a (oI N (fu f j x))) k z) : AW Y S Q pc ls (vI x :: vI i :: vR a :: st) n μ k z := by
  intro p l e s m args below meth c g A n0 ad0 F hS ad H locs ls0 hR hL ho
  have hx := F.1
  have hb := F.2.1
  subst hq
  obtain ⟨hxr, ho2⟩ := List.forall_mem_cons.mp ho
  obtain ⟨hir, ho3⟩ := List.forall_mem_cons.mp ho2
  obtain ⟨hn, ho4⟩ := List.forall_mem_cons.mp ho3
  have hxr : iR x := hxr
  have hir : iR i := hir
  have hn : a < n := hn
  have hC := F.2.2.2.2.2.2.2.2.2.1
  have he : (aW g ad n μ)[a]? = some (ad a, .inl (g.2 0, N, .inl (fun j => Int32.ofInt (f j)))) := by rw [aW_get hn, hm]; rfl
  have hoo := hR.2.2.2.1.2 a hn
  rw [hm] at hoo
  have hoo : ∀ j, iR (f j) := hoo
  refine va_iast hx hb hC.1 hR.1 hR.2.1 hR.2.2.1 a 0 he rfl (i_vin hir hi hj) hd (fun H1 locs1 h1 h2 h3 => ?_)
  have e1 : upd (fun j => Int32.ofInt (f j)) (Int32.ofInt i).toNatClampNeg (Int32.ofInt x) = fun j2 => Int32.ofInt (fu f j x j2) := by
    rw [i_cl hir, show i.toNat = j by omega]
    funext j2
    unfold upd fu
    split <;> rfl
  rw [e1] at h1 h2
  have e2 : (aW g ad n μ).set a (ad a, .inl (g.2 0, N, .inl (fun j2 => Int32.ofInt (fu f j x j2)))) = aW g ad n (hu μ a (oI N (fu f j x))) := aW_set (o := oI N (fu f j x)) hn
  rw [e2] at h1 h2
  exact K p l e s m args below meth c g A n0 ad0 F hS ad H1 locs1 ls0 ⟨h1, h2, h3, okH_set hR.2.2.2.1 (fun j2 => by unfold fu; split; exact hxr; exact hoo j2), hR.2.2.2.2⟩ hL ho4
theorem aw_lastore {a N j : Nat} {f : Nat → Int} {i x : Int} (hd : decode Y.cc pc = .ok (.lastore, 1)) (hq : pc + 1 = q) (hm : μ a = oL N f) (hi : i = (j : Int)) (hj : j < N) (K : AW Y S Q q ls st n (hu μ a (oL N (fu f j x))) k z) : AW Y S Q pc ls (vL x :: vI i :: vR a :: st) n μ k z := by
  intro p l e s m args below meth c g A n0 ad0 F hS ad H locs ls0 hR hL ho
  have hx := F.1
  have hb := F.2.1
  subst hq
  obtain ⟨hxr, ho2⟩ := List.forall_mem_cons.mp ho
  obtain ⟨hir, ho3⟩ := List.forall_mem_cons.mp ho2
  obtain ⟨hn, ho4⟩ := List.forall_mem_cons.mp ho3
  have hxr : lR x := hxr
  have hir : iR i := hir
  have hn : a < n := hn
  have hC := F.2.2.2.2.2.2.2.2.2.1
  have he : (aW g ad n μ)[a]? = some (ad a, .inl (g.2 1, N, .inr (.inl (fun j => Int64.ofInt (f j))))) := by rw [aW_get hn, hm]; rfl
  have hoo := hR.2.2.2.1.2 a hn
  rw [hm] at hoo
  have hoo : ∀ j, lR (f j) := hoo
  refine va_last hx hb hC.1 hR.1 hR.2.1 hR.2.2.1 a 1 he rfl (i_vin hir hi hj) hd (fun H1 locs1 h1 h2 h3 => ?_)
  have e1 : vp_updL (fun j => Int64.ofInt (f j)) (Int32.ofInt i).toNatClampNeg (Int64.ofInt x) = fun j2 => Int64.ofInt (fu f j x j2) := by
    rw [i_cl hir, show i.toNat = j by omega]
    funext j2
    unfold vp_updL fu
    split <;> rfl
  rw [e1] at h1 h2
  have e2 : (aW g ad n μ).set a (ad a, .inl (g.2 1, N, .inr (.inl (fun j2 => Int64.ofInt (fu f j x j2))))) = aW g ad n (hu μ a (oL N (fu f j x))) := aW_set (o := oL N (fu f j x)) hn
  rw [e2] at h1 h2
  exact K p l e s m args below meth c g A n0 ad0 F hS ad H1 locs1 ls0 ⟨h1, h2, h3, okH_set hR.2.2.2.1 (fun j2 => by unfold fu; split; exact hxr; exact hoo j2), hR.2.2.2.2⟩ hL ho4
theorem aw_aaload {a N j t b : Nat} {f : Nat → Option Nat} {i : Int} (hd : decode Y.cc pc = .ok (.aaload, 1)) (hq : pc + 1 = q) (hm : μ a = oR t N f) (hi : i = (j : Int)) (hj : j < N) (ht : t = 2 ∨ t = 3 ∨ t = 4) (hf : f j = some b) (K : AW Y S Q q ls (vR b :: st) n μ k z) : AW Y S Q pc ls (vI i :: vR a :: st) n μ k z := by
  intro p l e s m args below meth c g A n0 ad0 F hS ad H locs ls0 hR hL ho
  have hx := F.1
  have hb := F.2.1
  subst hq
  have hn : a < n := (List.forall_mem_cons.mp (List.forall_mem_cons.mp ho).2).1
  have hir : iR i := (List.forall_mem_cons.mp ho).1
  have hC := F.2.2.2.2.2.2.2.2.2.1
  have he : (aW g ad n μ)[a]? = some (ad a, .inl (g.2 t, N, .inr (.inr (.inr (.inr (fun j => (f j).map ad)))))) := by rw [aW_get hn, hm]; rfl
  have hoo := hR.2.2.2.1.2 a hn
  rw [hm] at hoo
  have hbn : b < n := hoo j b hf
  obtain ⟨ty, hty, hrt⟩ : ∃ ty, (aTys g)[t]? = some (g.2 t, ty) ∧ ty.isReference = true := by
    rcases ht with rfl | rfl | rfl
    · exact ⟨_, rfl, rfl⟩
    · exact ⟨_, rfl, rfl⟩
    · exact ⟨_, rfl, rfl⟩
  have hin := i_vin hir hi hj
  refine W.aald (v := .ref (ad b)) (ty := ty) hx hb (hR.1 a _ he) ((hC.1.2 t _ hty).1 N (fun j => va_rf ((f j).map ad))) hrt (fun q => by cases q) (by show ¬ (Int32.ofInt i < 0 ∨ (arrV _ _ _).slots.size ≤ _); rw [arrV_size]; exact hin) (by show (arrV _ _ _).slots[_]? = _; rw [i_cl hir, show i.toNat = j by omega, arrV_read _ _ hj]; show some (va_rf ((f j).map ad)) = _; rw [hf]; rfl) rfl rfl hd ?_
  exact K p l e s m args below meth c g A n0 ad0 F hS ad H locs ls0 hR hL (List.forall_mem_cons.mpr ⟨hbn, (List.forall_mem_cons.mp (List.forall_mem_cons.mp ho).2).2⟩)
/-! the law's script -/
theorem aw_aload_s {j : Fin 4} {i : Nat} (hd : decode Y.cc pc = .ok (.aload_n j, 1)) (hq : pc + 1 = q) (hi : (j : Nat) = i) (hv : ls[i]? = some (some vS)) (K : AW Y S Q q ls (vS :: st) n μ k z) : AW Y S Q pc ls st n μ k z := by
  intro p l e s m args below meth c g A n0 ad0 F hS ad H locs ls0 hR hL ho
  subst hq
  obtain ⟨h1, h2⟩ := hL.2.2 i _ hv
  refine lv_aload_n F.1 F.2.1 hd hi h1 ?_
  exact K p l e s m args below meth c g A n0 ad0 F hS ad H locs ls0 hR hL (List.forall_mem_cons.mpr ⟨h2, ho⟩)
theorem aw_slen {L : Nat} {f : Nat → Int} (hd : decode Y.cc pc = .ok (.arraylength, 1)) (hq : pc + 1 = q) (K : AW Y (some (L, f)) Q q ls (vI (L : Int) :: st) n μ k z) : AW Y (some (L, f)) Q pc ls (vS :: st) n μ k z := by
  intro p l e s m args below meth c g A n0 ad0 F hS ad H locs ls0 hR hL ho
  subst hq
  obtain ⟨hX, hbl, hbA, hLs, hfr⟩ := id hS
  have e0 : ad SC = ad0 SC := hR.2.2.2.2.2 SC (Or.inr rfl)
  refine va_slen F.1 F.2.1 (b := ad SC) (L := L) (xs := fun j => Int32.ofInt (f j)) (A := A) (by rw [e0]; exact hX) (by rw [e0]; exact hbl) (by rw [e0]; exact hbA) hR.2.2.1 hd ?_
  rw [show Int32.ofNat L = Int32.ofInt (L : Int) from (Int32.ofInt_eq_ofNat (n := L)).symm]
  exact K p l e s m args below meth c g A n0 ad0 F hS ad H locs ls0 hR hL (List.forall_mem_cons.mpr ⟨(⟨by omega, by omega⟩ : iR (L : Int)), (List.forall_mem_cons.mp ho).2⟩)
theorem aw_sld {L j : Nat} {f : Nat → Int} {i : Int} (hd : decode Y.cc pc = .ok (.iaload, 1)) (hq : pc + 1 = q) (hi : i = (j : Int)) (hj : j < L) (K : iR (f j) → AW Y (some (L, f)) Q q ls (vI (f j) :: st) n μ k z) : AW Y (some (L, f)) Q pc ls (vI i :: vS :: st) n μ k z := by
  intro p l e s m args below meth c g A n0 ad0 F hS ad H locs ls0 hR hL ho
  subst hq
  obtain ⟨hX, hbl, hbA, hLs, hfr⟩ := id hS
  have hir : iR i := (List.forall_mem_cons.mp ho).1
  have e0 : ad SC = ad0 SC := hR.2.2.2.2.2 SC (Or.inr rfl)
  refine va_sld F.1 F.2.1 (b := ad SC) (L := L) (xs := fun j => Int32.ofInt (f j)) (A := A) (by rw [e0]; exact hX) (by rw [e0]; exact hbl) (by rw [e0]; exact hbA) hR.2.2.1 (i_vin hir hi hj) hd ?_
  rw [i_cl hir, show i.toNat = j by omega]
  exact K (hfr j) p l e s m args below meth c g A n0 ad0 F hS ad H locs ls0 hR hL (List.forall_mem_cons.mpr ⟨hfr j, (List.forall_mem_cons.mp (List.forall_mem_cons.mp ho).2).2⟩)
/-! bits -/
theorem nI_and (a b : Nat) : nI a &&& nI b = nI (a &&& b) := by
  unfold nI
  apply Int32.toBitVec_inj.mp
  simp
theorem nI_or (a b : Nat) : nI a ||| nI b = nI (a ||| b) := by
  unfold nI
  apply Int32.toBitVec_inj.mp
  simp
theorem s_31 : ∀ j, j < 32 → ((nI j &&& 31).toBitVec.smod 32).toNat = j := by decide
theorem aw_iand {a b : Nat} (hd : decode Y.cc pc = .ok (.iand, 1)) (hq : pc + 1 = q) (hr : iR ((a &&& b : Nat) : Int)) (K : AW Y S Q q ls (vI ((a &&& b : Nat) : Int) :: st) n μ k z) : AW Y S Q pc ls (vI (b : Int) :: vI (a : Int) :: st) n μ k z := by
  intro p l e s m args below meth c g A n0 ad0 F hS ad H locs ls0 hR hL ho
  subst hq
  refine lv_iand F.1 F.2.1 hd ?_
  rw [i_nat, i_nat, nI_and, ← i_nat]
  exact K p l e s m args below meth c g A n0 ad0 F hS ad H locs ls0 hR hL (List.forall_mem_cons.mpr ⟨hr, (List.forall_mem_cons.mp (List.forall_mem_cons.mp ho).2).2⟩)
theorem aw_ior {a b : Nat} (hd : decode Y.cc pc = .ok (.ior, 1)) (hq : pc + 1 = q) (hr : iR ((a ||| b : Nat) : Int)) (K : AW Y S Q q ls (vI ((a ||| b : Nat) : Int) :: st) n μ k z) : AW Y S Q pc ls (vI (b : Int) :: vI (a : Int) :: st) n μ k z := by
  intro p l e s m args below meth c g A n0 ad0 F hS ad H locs ls0 hR hL ho
  subst hq
  refine lv_ior F.1 F.2.1 hd ?_
  rw [i_nat, i_nat, nI_or, ← i_nat]
  exact K p l e s m args below meth c g A n0 ad0 F hS ad H locs ls0 hR hL (List.forall_mem_cons.mpr ⟨hr, (List.forall_mem_cons.mp (List.forall_mem_cons.mp ho).2).2⟩)
theorem aw_ishl {a b : Nat} (hd : decode Y.cc pc = .ok (.ishl, 1)) (hq : pc + 1 = q) (hb : b < 32) (hr : iR ((a * 2 ^ b : Nat) : Int)) (K : AW Y S Q q ls (vI ((a * 2 ^ b : Nat) : Int) :: st) n μ k z) : AW Y S Q pc ls (vI (b : Int) :: vI (a : Int) :: st) n μ k z := by
  intro p l e s m args below meth c g A n0 ad0 F hS ad H locs ls0 hR hL ho
  subst hq
  refine lv_ishl F.1 F.2.1 hd ?_
  rw [i_nat, i_nat, pk_shlN _ b (s_31 b hb) (by have := hr.2; omega), ← i_nat]
  exact K p l e s m args below meth c g A n0 ad0 F hS ad H locs ls0 hR hL (List.forall_mem_cons.mpr ⟨hr, (List.forall_mem_cons.mp (List.forall_mem_cons.mp ho).2).2⟩)
theorem aw_ishr {a b : Nat} (hd : decode Y.cc pc = .ok (.ishr, 1)) (hq : pc + 1 = q) (hb : b < 32) (K : AW Y S Q q ls (vI ((a / 2 ^ b : Nat) : Int) :: st) n μ k z) : AW Y S Q pc ls (vI (b : Int) :: vI (a : Int) :: st) n μ k z := by
  intro p l e s m args below meth c g A n0 ad0 F hS ad H locs ls0 hR hL ho
  subst hq
  have har : iR (a : Int) := (List.forall_mem_cons.mp (List.forall_mem_cons.mp ho).2).1
  have hr : iR ((a / 2 ^ b : Nat) : Int) := by
    have h1 := har.2
    have h2 : a / 2 ^ b ≤ a := Nat.div_le_self _ _
    generalize a / 2 ^ b = w at h2 ⊢
    exact ⟨by omega, by omega⟩
  refine lv_ishr F.1 F.2.1 hd ?_
  rw [i_nat, i_nat, pk_shrN (by have := har.2; omega) _ b (s_31 b hb), ← i_nat]
  exact K p l e s m args below meth c g A n0 ad0 F hS ad H locs ls0 hR hL (List.forall_mem_cons.mpr ⟨hr, (List.forall_mem_cons.mp (List.forall_mem_cons.mp ho).2).2⟩)
/-- any number's lowest bits -/
theorem aw_imask {a b : Int} (j : Nat) (hd : decode Y.cc pc = .ok (.iand, 1)) (hq : pc + 1 = q) (hj : j < 31) (hb : b = (2 ^ j - 1 : Nat)) (K : AW Y S Q q ls (vI (a % (2 ^ j : Nat)) :: st) n μ k z) : AW Y S Q pc ls (vI b :: vI a :: st) n μ k z := by
  intro p l e s m args below meth c g A n0 ad0 F hS ad H locs ls0 hR hL ho
  subst hq
  have har : iR a := (List.forall_mem_cons.mp (List.forall_mem_cons.mp ho).2).1
  have hpow : 2 ^ j ≤ 2 ^ 30 := Nat.pow_le_pow_right (by decide) (by omega)
  have hpos : 0 < 2 ^ j := Nat.pow_pos (by decide)
  have hm : (Int32.ofInt b).toBitVec.toNat = 2 ^ j - 1 := by
    rw [hb, i_nat]
    exact pk_tn (by omega)
  refine lv_iand F.1 F.2.1 hd ?_
  rw [pk_and _ j hm]
  have e1 : (Int32.ofInt a).toBitVec.toNat % 2 ^ j = (a % (2 ^ j : Nat)).toNat := by
    have h1 : (Int32.ofInt a).toBitVec = BitVec.ofInt 32 a := rfl
    rw [h1, BitVec.toNat_ofInt]
    have h2 : (2 ^ 32 : Nat) = 2 ^ j * 2 ^ (32 - j) := by rw [← Nat.pow_add]; congr 1; omega
    have h3 : ((a % ((2 ^ 32 : Nat) : Int)).toNat : Int) = a % ((2 ^ 32 : Nat) : Int) := Int.toNat_of_nonneg (Int.emod_nonneg _ (by decide))
    have h4 : (((a % ((2 ^ 32 : Nat) : Int)).toNat % 2 ^ j : Nat) : Int) = a % ((2 ^ j : Nat) : Int) := by
      rw [Int.natCast_emod, h3, Int.emod_emod_of_dvd]
      exact ⟨((2 ^ (32 - j) : Nat) : Int), by rw [h2]; push_cast; rfl⟩
    have h5 : (((a % ((2 ^ j : Nat) : Int)).toNat : Nat) : Int) = a % ((2 ^ j : Nat) : Int) := Int.toNat_of_nonneg (Int.emod_nonneg _ (by omega))
    omega
  have h0 : 0 ≤ a % ((2 ^ j : Nat) : Int) := Int.emod_nonneg _ (by omega)
  have h1 : a % ((2 ^ j : Nat) : Int) < ((2 ^ j : Nat) : Int) := Int.emod_lt_of_pos _ (by omega)
  rw [e1, ← i_nat, Int.toNat_of_nonneg h0]
  exact K p l e s m args below meth c g A n0 ad0 F hS ad H locs ls0 hR hL (List.forall_mem_cons.mpr ⟨(⟨by omega, by omega⟩ : iR _), (List.forall_mem_cons.mp (List.forall_mem_cons.mp ho).2).2⟩)
end HR
