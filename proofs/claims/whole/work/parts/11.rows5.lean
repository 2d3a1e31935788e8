/-! ===== rows: Math, Object.<init>, new things, switches ===== -/
section NR
variable {Y : AY} {S : AScr} {Q : AQ} {pc q : Nat} {ls : List (Option AV)} {st : List AV} {n : Nat} {μ : AH} {k z : Nat}
theorem i_min {a b : Int} (ha : iR a) (hb : iR b) : (if Int32.ofInt b < Int32.ofInt a then Int32.ofInt b else Int32.ofInt a) = Int32.ofInt (min a b) := by
  by_cases h : b < a
  · rw [if_pos ((i_lt hb ha).mpr h), Int.min_eq_right (by omega)]
  · rw [if_neg (fun x => h ((i_lt hb ha).mp x)), Int.min_eq_left (by omega)]
theorem i_max {a b : Int} (ha : iR a) (hb : iR b) : (if Int32.ofInt a < Int32.ofInt b then Int32.ofInt b else Int32.ofInt a) = Int32.ofInt (max a b) := by
  by_cases h : a < b
  · rw [if_pos ((i_lt ha hb).mpr h), Int.max_eq_right (by omega)]
  · rw [if_neg (fun x => h ((i_lt ha hb).mp x)), Int.max_eq_left (by omega)]
def mMin : MethodName := Lib.Math.min.name
def mMax : MethodName := Lib.Math.max.name
def mAbs : MethodName := Lib.Math.abs.name
/-- the words of a call of Math's own -/
def LM (own : String) (ix : Nat) (y : MethodName) (cc : ByteArray) (nL : Nat) : Prop := Cond.methodLink own ix y ∈ Tb ∧ Cond.static y ∈ Tb ∧ Cond.initialized "java/lang/Math" ∈ Tb ∧ Cond.code y cc nL (some .int) ∈ Tb
theorem aw_min {a b : Int} {ix : Nat} (hd : decode Y.cc pc = .ok (.invokestatic ix, 3)) (hq : pc + 3 = q) (hl : LM Y.y.cls ix Lib.Math.min.name Lib.Math.min.code 2) (hf : 1 ≤ Y.rm.frames) (hw : wt st + 13 ≤ Y.rm.locals) (hk : k ≤ Y.rm.cells) (hz : z ≤ Y.rm.slots) (K : AW Y S Q q ls (vI (min a b) :: st) n μ k z) : AW Y S Q pc ls (vI b :: vI a :: st) n μ k z := by
  intro p l e s m args below meth c g A n0 ad0 F hS ad H locs ls0 hR hL ho
  subst hq
  obtain ⟨hb1, ho2⟩ := List.forall_mem_cons.mp ho
  obtain ⟨ha1, ho3⟩ := List.forall_mem_cons.mp ho2
  have ha : iR a := ha1
  have hb : iR b := hb1
  have hC := F.2.2.2.2.2.2.2.2.2.1
  refine va_mmin F.1 F.2.1 (F.2.2.1.trans hL.1.symm) F.2.2.2.2.2.1 (hC.use _ hl.1) (hC.use _ hl.2.1) (hC.use _ hl.2.2.1) (hC.use _ hl.2.2.2) hf (by rw [wt_c]; exact hw) hk hz hd ?_
  rw [i_min ha hb]
  exact K p l e s m args below meth c g A n0 ad0 F hS ad H locs ls0 hR hL (List.forall_mem_cons.mpr ⟨(by have := ha.1; have := ha.2; have := hb.1; have := hb.2; exact ⟨by omega, by omega⟩ : iR (min a b)), ho3⟩)
theorem aw_max {a b : Int} {ix : Nat} (hd : decode Y.cc pc = .ok (.invokestatic ix, 3)) (hq : pc + 3 = q) (hl : LM Y.y.cls ix Lib.Math.max.name Lib.Math.max.code 2) (hf : 1 ≤ Y.rm.frames) (hw : wt st + 13 ≤ Y.rm.locals) (hk : k ≤ Y.rm.cells) (hz : z ≤ Y.rm.slots) (K : AW Y S Q q ls (vI (max a b) :: st) n μ k z) : AW Y S Q pc ls (vI b :: vI a :: st) n μ k z := by
  intro p l e s m args below meth c g A n0 ad0 F hS ad H locs ls0 hR hL ho
  subst hq
  obtain ⟨hb1, ho2⟩ := List.forall_mem_cons.mp ho
  obtain ⟨ha1, ho3⟩ := List.forall_mem_cons.mp ho2
  have ha : iR a := ha1
  have hb : iR b := hb1
  have hC := F.2.2.2.2.2.2.2.2.2.1
  refine va_mmax F.1 F.2.1 (F.2.2.1.trans hL.1.symm) F.2.2.2.2.2.1 (hC.use _ hl.1) (hC.use _ hl.2.1) (hC.use _ hl.2.2.1) (hC.use _ hl.2.2.2) hf (by rw [wt_c]; exact hw) hk hz hd ?_
  rw [i_max ha hb]
  exact K p l e s m args below meth c g A n0 ad0 F hS ad H locs ls0 hR hL (List.forall_mem_cons.mpr ⟨(by have := ha.1; have := ha.2; have := hb.1; have := hb.2; exact ⟨by omega, by omega⟩ : iR (max a b)), ho3⟩)
theorem aw_abs {a : Int} {ix : Nat} (hd : decode Y.cc pc = .ok (.invokestatic ix, 3)) (hq : pc + 3 = q) (hl : LM Y.y.cls ix Lib.Math.abs.name Lib.Math.abs.code 1) (hf : 1 ≤ Y.rm.frames) (hw : wt st + 13 ≤ Y.rm.locals) (hk : k ≤ Y.rm.cells) (hz : z ≤ Y.rm.slots) (hr : iR (if 0 ≤ a then a else -a)) (K : AW Y S Q q ls (vI (if 0 ≤ a then a else -a) :: st) n μ k z) : AW Y S Q pc ls (vI a :: st) n μ k z := by
  intro p l e s m args below meth c g A n0 ad0 F hS ad H locs ls0 hR hL ho
  subst hq
  obtain ⟨ha1, ho3⟩ := List.forall_mem_cons.mp ho
  have ha : iR a := ha1
  have hC := F.2.2.2.2.2.2.2.2.2.1
  refine va_mabs F.1 F.2.1 (F.2.2.1.trans hL.1.symm) F.2.2.2.2.2.1 (hC.use _ hl.1) (hC.use _ hl.2.1) (hC.use _ hl.2.2.1) (hC.use _ hl.2.2.2) hf (by rw [wt_c]; exact hw) hk hz hd ?_
  have e1 : (if 0 ≤ Int32.ofInt a then Int32.ofInt a else 0 - Int32.ofInt a) = Int32.ofInt (if 0 ≤ a then a else -a) := by
    by_cases h : 0 ≤ a
    · rw [if_pos ((i_0le ha).mpr h), if_pos h]
    · rw [if_neg (fun x => h ((i_0le ha).mp x)), if_neg h, show -a = 0 - a by omega, Int32.ofInt_sub]
      rfl
  rw [e1]
  exact K p l e s m args below meth c g A n0 ad0 F hS ad H locs ls0 hR hL (List.forall_mem_cons.mpr ⟨hr, ho3⟩)
theorem aw_obj {a ix : Nat} (hd : decode Y.cc pc = .ok (.invokespecial ix, 3)) (hq : pc + 3 = q) (h1 : Cond.methodLink Y.y.cls ix Lib.objectInit ∈ Tb) (h2 : Cond.instanceMethod Lib.objectInit ∈ Tb) (h3 : Cond.code Lib.objectInit ⟨#[0xb1]⟩ 1 none ∈ Tb) (hf : 1 ≤ Y.rm.frames) (hw : wt st + 12 ≤ Y.rm.locals) (K : AW Y S Q q ls st n μ k z) : AW Y S Q pc ls (vR a :: st) n μ k z := by
  intro p l e s m args below meth c g A n0 ad0 F hS ad H locs ls0 hR hL ho
  subst hq
  have hC := F.2.2.2.2.2.2.2.2.2.1
  have hm : 2 * (F0 m pc ls0 ((vR a :: st).map (cV ad))).monitorRoom + ((st.map (cV ad)).map fun v => v.category).sum + 12 ≤ Y.rm.locals := by
    have h0 : (F0 m pc ls0 ((vR a :: st).map (cV ad))).monitorRoom = 0 := rfl
    rw [h0, wt_c]
    omega
  refine W.objInit F.1 F.2.1 F.2.2.2.2.2.1 (hC.use _ h1) (hC.use _ h2) (hC.use _ h3) rfl (hL.1.trans F.2.2.1.symm) rfl hd hf hm ?_
  exact K p l e s m args below meth c g A n0 ad0 F hS ad H locs ls0 hR hL (List.forall_mem_cons.mp ho).2
/-- no reference -/
def dfl (v : AV) : Bool := match v with
  | .inl _ => true
  | .inr (.inl _) => true
  | .inr (.inr (.inl none)) => true
  | _ => false
theorem dfl_c {v : AV} (h : dfl v = true) (ad1 ad2 : Nat → Nat) : cV ad1 v = cV ad2 v := by
  match v, h with
  | .inl _, _ => rfl
  | .inr (.inl _), _ => rfl
  | .inr (.inr (.inl none)), _ => rfl
/-- one thing more in the heap -/
theorem aw_grow {o : AO} {k1 z1 x : Nat} {p : Program} {l : Launch} {e : Env} {s : State} {m : MethodId} {args : Array Value} {below : List Frame} {meth : Method} {c : Code} {g : aG} {A : Nat → Prop} {n0 : Nat} {ad0 ad : Nat → Nat} {H H1 : Heap} {locs : List Loc} {ls0 : Array Slot} (F : aF Y p l s m meth c g A) (hS : aSc S ad0 s A) (hR : aR g A n0 ad0 s.heap n μ ad H locs) (hL : aL ad Y.nL n ls ls0) (hst : ∀ v ∈ st, okV n v) (hn : n + 1 < SC) (ho : okO (n + 1) o)
    (h1 : va_P g.1 vwCl (aW g ad n μ ++ [(x, cO g (aE ad n x) o)]) H1) (h2 : va_D A (aW g ad n μ ++ [(x, cO g (aE ad n x) o)])) (h3 : va_S A s.heap H1 locs) (K : AW Y S Q q ls (vR n :: st) (n + 1) (hu μ n o) k1 z1) :
    W p l e Y.rm s m args below meth c H1 locs k1 z1 (vx_MQ below (aQc g A n0 ad0 Q) (aXC g A n0 ad0 Q) args s Y.rm.cells Y.rm.slots A) (F0 m q ls0 (.ref x :: st.map (cV ad))) := by
  rw [aW_push hR.2.2.2.1] at h1 h2
  have hold := aE_old (ad := ad) (q := x) hR.2.2.2.1.1
  have hK := K p l e s m args below meth c g A n0 ad0 F hS (aE ad n x) H1 locs ls0 ⟨h1, h2, h3, okH_push hR.2.2.2.1 hn ho, Nat.le_succ_of_le hR.2.2.2.2.1, fun i hi => by rw [hold i (hi.imp_left (fun h => Nat.lt_of_lt_of_le h hR.2.2.2.2.1))]; exact hR.2.2.2.2.2 i hi⟩ ⟨hL.1, hL.2.1, fun i v hv => by
    obtain ⟨c1, c2⟩ := hL.2.2 i v hv
    exact ⟨by rw [cV_ad c2 hold]; exact c1, okV_mono (Nat.le_succ n) c2⟩⟩ (List.forall_mem_cons.mpr ⟨Nat.lt_succ_self n, fun v hv => okV_mono (Nat.le_succ n) (hst v hv)⟩)
  have e2 : (vR n :: st).map (cV (aE ad n x)) = .ref x :: st.map (cV ad) := by
    rw [List.map_cons, cVs_ad hst hold]
    show Value.ref (aE ad n x n) :: _ = _
    rw [aE_s]
  rw [e2] at hK
  exact hK
/-- a class that can be made -/
def NW (own : String) (ix ci : Nat) (fs : List AV) : Prop := ∃ (C : String) (T : u_T) (ty : Nat → FieldType), vwCl[ci]? = some (C, T, fs.length) ∧ (∀ w ∈ u_ws C T fs.length, w ∈ Tb) ∧ (∀ j, j < fs.length → parseFieldDescriptor (T j).2.2.1 = some (ty j)) ∧ Cond.classLink own ix C ∈ Tb ∧ Cond.instantiable C fs.length ∈ Tb ∧ Cond.initialized C ∈ Tb ∧ (∀ j, j < fs.length → defaultValue (ty j) = vp_V (fs.map (cV (fun _ => 0))) j) ∧ ∀ v ∈ fs, dfl v = true ∧ okV 0 v
theorem aw_new {ix ci : Nat} {fs : List AV} (hd : decode Y.cc pc = .ok (.new ix, 3)) (hq : pc + 3 = q) (hw : NW Y.y.cls ix ci fs) (hn : n + 1 < SC) (hk : k + 1 ≤ Y.rm.cells) (hz : z + fs.length ≤ Y.rm.slots) (K : AW Y S Q q ls (vR n :: st) (n + 1) (hu μ n (oO ci fs)) (k + 1) (z + fs.length)) : AW Y S Q pc ls st n μ k z := by
  intro p l e s m args below meth c g A n0 ad0 F hS ad H locs ls0 hR hL ho
  subst hq
  have hC := F.2.2.2.2.2.2.2.2.2.1
  obtain ⟨C, T, ty, w1, w2, w3, w4, w5, w6, w7, w8⟩ := hw
  have e0 : ∀ ad1 ad2 : Nat → Nat, fs.map (cV ad1) = fs.map (cV ad2) := fun ad1 ad2 => List.map_congr_left (fun v hv => dfl_c (w8 v hv).1 ad1 ad2)
  refine va_new (D := g.1) (cl := vwCl) (ci := ci) (fs := fs.map (cV ad)) F.1 F.2.1 hC.use w2 ty w3 F.2.2.2.2.2.1 (hC.use _ w4) (hC.use _ w5) (hC.use _ w6) hC.1 hR.1 hR.2.1 hR.2.2.1 F.2.2.2.2.2.2.2.2.2.2.1 w1 (fun j hj => by rw [w7 j hj, e0 (fun _ => 0) ad]) hk hz hd (fun x H1 h1 h2 h3 => ?_)
  rw [e0 ad (aE ad n x)] at h1 h2
  exact aw_grow (o := oO ci fs) F hS hR hL ho hn (fun v hv => okV_mono (Nat.zero_le _) (w8 v hv).2) h1 h2 h3 K
theorem ra_eq {g : aG} {s : State} {cA : ClassId} {t : Nat} {ty : FieldType} (hC : va_K g.1 vwCl (aTys g) s) (ht : (aTys g)[t]? = some (g.2 t, ty)) (h : va_K g.1 vwCl (aTys g ++ [(cA, ty)]) s) : cA = g.2 t := by
  have h1 := (h.2 5 (cA, ty) rfl).2
  have h2 := (hC.2 t (g.2 t, ty) ht).2
  unfold va_RA at h1 h2
  dsimp only at h1 h2
  split at h1
  · obtain ⟨_, _, _, _, _, f1⟩ := h1
    obtain ⟨_, _, _, _, _, f2⟩ := h2
    exact Option.some.inj (f1.symm.trans f2)
  · rename_i hno
    split at h2
    · rename_i C
      exact absurd rfl (hno C)
    · exact Option.some.inj (h1.symm.trans h2)
theorem aw_newI {a : Int} (N : Nat) (hd : decode Y.cc pc = .ok (.newarray .int, 2)) (hq : pc + 2 = q) (ha : a = (N : Int)) (hN : N < 100000) (hw : Cond.arrayClass .int ∈ Tb) (hn : n + 1 < SC) (hk : k + 1 ≤ Y.rm.cells) (hz : z + N ≤ Y.rm.slots) (K : AW Y S Q q ls (vR n :: st) (n + 1) (hu μ n (oI N (fun _ => 0))) (k + 1) (z + N)) : AW Y S Q pc ls (vI a :: st) n μ k z := by
  intro p l e s m args below meth c g A n0 ad0 F hS ad H locs ls0 hR hL ho
  subst hq
  subst ha
  obtain ⟨-, hst⟩ := List.forall_mem_cons.mp ho
  have hC := F.2.2.2.2.2.2.2.2.2.1
  have hir : iR (N : Int) := ⟨by omega, by omega⟩
  refine va_newa (atype := .int) (ty := .int) (a0 := (N, .inl (fun _ => Int32.ofInt 0))) (N' := N) F.1 F.2.1 (hC.use _ hw) rfl hC.1 hR.1 hR.2.1 hR.2.2.1 F.2.2.2.2.2.2.2.2.2.2.1 (fun _ => rfl) (fun h => by have := (i_lt0 hir).mp h; omega) (by rw [i_cl hir]; omega) (by show N * 4 ≤ _; omega) hk hz hd (fun x cA H1 hK1 h1 h2 h3 => ?_)
  have ec : cA = g.2 0 := ra_eq (t := 0) hC.1 rfl hK1
  subst ec
  exact aw_grow (o := oI N (fun _ => 0)) F hS hR hL hst hn (fun _ => i_0) h1 h2 h3 K
theorem aw_newL {a : Int} (N : Nat) (hd : decode Y.cc pc = .ok (.newarray .long, 2)) (hq : pc + 2 = q) (ha : a = (N : Int)) (hN : N < 100000) (hw : Cond.arrayClass .long ∈ Tb) (hn : n + 1 < SC) (hk : k + 1 ≤ Y.rm.cells) (hz : z + N ≤ Y.rm.slots) (K : AW Y S Q q ls (vR n :: st) (n + 1) (hu μ n (oL N (fun _ => 0))) (k + 1) (z + N)) : AW Y S Q pc ls (vI a :: st) n μ k z := by
  intro p l e s m args below meth c g A n0 ad0 F hS ad H locs ls0 hR hL ho
  subst hq
  subst ha
  obtain ⟨-, hst⟩ := List.forall_mem_cons.mp ho
  have hC := F.2.2.2.2.2.2.2.2.2.1
  have hir : iR (N : Int) := ⟨by omega, by omega⟩
  refine va_newa (atype := .long) (ty := .long) (a0 := (N, .inr (.inl (fun _ => Int64.ofInt 0)))) (N' := N) F.1 F.2.1 (hC.use _ hw) rfl hC.1 hR.1 hR.2.1 hR.2.2.1 F.2.2.2.2.2.2.2.2.2.2.1 (fun _ => rfl) (fun h => by have := (i_lt0 hir).mp h; omega) (by rw [i_cl hir]; omega) (by show N * 8 ≤ _; omega) hk hz hd (fun x cA H1 hK1 h1 h2 h3 => ?_)
  have ec : cA = g.2 1 := ra_eq (t := 1) hC.1 rfl hK1
  subst ec
  exact aw_grow (o := oL N (fun _ => 0)) F hS hR hL hst hn (fun _ => l_0) h1 h2 h3 K
theorem aw_newR {a : Int} {ix : Nat} (N t : Nat) (C : String) (hd : decode Y.cc pc = .ok (.anewarray ix, 3)) (hq : pc + 3 = q) (ha : a = (N : Int)) (hN : N < 100000) (hw : Cond.classLink Y.y.cls ix C ∈ Tb) (ht : (t = 2 ∧ C = "TrackRows$Device") ∨ (t = 3 ∧ C = "TrackRows$Fence")) (hn : n + 1 < SC) (hk : k + 1 ≤ Y.rm.cells) (hz : z + N ≤ Y.rm.slots) (K : AW Y S Q q ls (vR n :: st) (n + 1) (hu μ n (oR t N (fun _ => none))) (k + 1) (z + N)) : AW Y S Q pc ls (vI a :: st) n μ k z := by
  intro p l e s m args below meth c g A n0 ad0 F hS ad H locs ls0 hR hL ho
  subst hq
  subst ha
  obtain ⟨-, hst⟩ := List.forall_mem_cons.mp ho
  have hC := F.2.2.2.2.2.2.2.2.2.1
  have hir : iR (N : Int) := ⟨by omega, by omega⟩
  have hAO : va_AO C s := by
    rcases ht with ⟨_, rfl⟩ | ⟨_, rfl⟩
    · exact hC.2.2.2.1
    · exact hC.2.2.2.2.1
  have hty : (aTys g)[t]? = some (g.2 t, .object C) := by
    rcases ht with ⟨rfl, rfl⟩ | ⟨rfl, rfl⟩ <;> rfl
  refine va_newq (N' := N) F.1 F.2.1 F.2.2.2.2.2.1 (hC.use _ hw) hAO hC.1 hR.1 hR.2.1 hR.2.2.1 F.2.2.2.2.2.2.2.2.2.2.1 (fun h => by have := (i_lt0 hir).mp h; omega) (by rw [i_cl hir]; omega) (by omega) hk hz hd (fun x cA H1 hK1 h1 h2 h3 => ?_)
  have ec : cA = g.2 t := ra_eq hC.1 hty hK1
  subst ec
  exact aw_grow (o := oR t N (fun _ => none)) F hS hR hL hst hn (fun _ _ h => by cases h) h1 h2 h3 K
theorem aw_aastore {a b N j t ci : Nat} {f : Nat → Option Nat} {fs : List AV} {i : Int} (hd : decode Y.cc pc = .ok (.aastore, 1)) (hq : pc + 1 = q) (hm : μ a = oR t N f) (hb : μ b = oO ci fs) (hi : i = (j : Int)) (hj : j < N) (ht : (t = 2 ∧ ci = 2) ∨ (t = 3 ∧ ci = 3)) (K : AW Y S Q q ls st n (hu μ a (oR t N (qu f j (some b)))) k z) : AW Y S Q pc ls (vR b :: vI i :: vR a :: st) n μ k z := by
  intro p l e s m args below meth c g A n0 ad0 F hS ad H locs ls0 hR hL ho
  subst hq
  obtain ⟨hbn, ho2⟩ := List.forall_mem_cons.mp ho
  obtain ⟨hir, ho3⟩ := List.forall_mem_cons.mp ho2
  obtain ⟨hn, ho4⟩ := List.forall_mem_cons.mp ho3
  have hbn : b < n := hbn
  have hir : iR i := hir
  have hn : a < n := hn
  have hC := F.2.2.2.2.2.2.2.2.2.1
  have he : (aW g ad n μ)[a]? = some (ad a, .inl (g.2 t, N, .inr (.inr (.inr (.inr (fun j => (f j).map ad)))))) := by rw [aW_get hn, hm]; rfl
  have hve : (aW g ad n μ)[b]? = some (ad b, .inr (ci, fs.map (cV ad))) := by rw [aW_get hbn, hb]; rfl
  have hoo := hR.2.2.2.1.2 a hn
  rw [hm] at hoo
  have hoo : ∀ j a, f j = some a → a < n := hoo
  obtain ⟨r, hr, hty⟩ : ∃ r : vw_C, vwCl[ci]? = some r ∧ (aTys g)[t]? = some (g.2 t, .object r.1) := by
    rcases ht with ⟨rfl, rfl⟩ | ⟨rfl, rfl⟩
    · exact ⟨_, rfl, rfl⟩
    · exact ⟨_, rfl, rfl⟩
  refine va_astq (r := r) F.1 F.2.1 hC.1 hR.1 hR.2.1 hR.2.2.1 a t b ci he hty hve hr (i_vin hir hi hj) hd (fun H1 locs1 h1 h2 h3 => ?_)
  have e1 : va_up (fun j => (f j).map ad) (Int32.ofInt i).toNatClampNeg (some (ad b)) = fun j2 => (qu f j (some b) j2).map ad := by
    rw [i_cl hir, show i.toNat = j by omega]
    funext j2
    unfold va_up qu
    by_cases h : j2 = j
    · rw [if_pos h, if_pos h]; rfl
    · rw [if_neg h, if_neg h]
  rw [e1] at h1 h2
  have e2 : (aW g ad n μ).set a (ad a, .inl (g.2 t, N, .inr (.inr (.inr (.inr (fun j2 => (qu f j (some b) j2).map ad)))))) = aW g ad n (hu μ a (oR t N (qu f j (some b)))) := aW_set (o := oR t N (qu f j (some b))) hn
  rw [e2] at h1 h2
  exact K p l e s m args below meth c g A n0 ad0 F hS ad H1 locs1 ls0 ⟨h1, h2, h3, okH_set hR.2.2.2.1 (fun j2 a2 h => by
    unfold qu at h
    split at h
    · cases h; exact hbn
    · exact hoo j2 a2 h), hR.2.2.2.2⟩ hL ho4
theorem aw_tsIn {a dflt lo hi off : Int} {offs : Array Int} {len t : Nat} (hd : decode Y.cc pc = .ok (.tableswitch dflt lo hi offs, len)) (h1 : lo ≤ a) (h2 : a ≤ hi) (ho9 : offs[(a - lo).toNat]? = some off) (ht : (pc : Int) + off = (t : Int)) (K : AW Y S Q t ls st n μ k z) : AW Y S Q pc ls (vI a :: st) n μ k z := by
  intro p l e s m args below meth c g A n0 ad0 F hS ad H locs ls0 hR hL ho
  have ha : iR a := (List.forall_mem_cons.mp ho).1
  exact lv_tableIn F.1 F.2.1 hd (by rw [i_ti ha]; omega) (by rw [i_ti ha]; omega) (by rw [i_ti ha]; exact ho9) ht (K p l e s m args below meth c g A n0 ad0 F hS ad H locs ls0 hR hL (List.forall_mem_cons.mp ho).2)
theorem aw_tsOut {a dflt lo hi : Int} {offs : Array Int} {len t : Nat} (hd : decode Y.cc pc = .ok (.tableswitch dflt lo hi offs, len)) (h1 : a < lo ∨ hi < a) (ht : (pc : Int) + dflt = (t : Int)) (K : AW Y S Q t ls st n μ k z) : AW Y S Q pc ls (vI a :: st) n μ k z := by
  intro p l e s m args below meth c g A n0 ad0 F hS ad H locs ls0 hR hL ho
  have ha : iR a := (List.forall_mem_cons.mp ho).1
  exact lv_tableOut F.1 F.2.1 hd (by rw [i_ti ha]; exact h1) ht (K p l e s m args below meth c g A n0 ad0 F hS ad H locs ls0 hR hL (List.forall_mem_cons.mp ho).2)
end NR
