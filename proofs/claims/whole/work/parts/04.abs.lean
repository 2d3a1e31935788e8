/-! ===== abstract values, things, heaps: whole numbers as Int, references as numbers of things; and how the machine holds them ===== -/
abbrev AV : Type := Int ⊕ (Int ⊕ (Option Nat ⊕ Unit))
abbrev vI (z : Int) : AV := .inl z
abbrev vL (z : Int) : AV := .inr (.inl z)
abbrev vR (a : Nat) : AV := .inr (.inr (.inl (some a)))
abbrev vN : AV := .inr (.inr (.inl none))
/-- the law's script -/
abbrev vS : AV := .inr (.inr (.inr ()))
/-- a thing: an object (its class's number, its fields), an int array, a long array, an array of references (its type's number) -/
abbrev AO : Type := (Nat × List AV) ⊕ ((Nat × (Nat → Int)) ⊕ ((Nat × (Nat → Int)) ⊕ (Nat × Nat × (Nat → Option Nat))))
abbrev oO (c : Nat) (fs : List AV) : AO := .inl (c, fs)
abbrev oI (n : Nat) (f : Nat → Int) : AO := .inr (.inl (n, f))
abbrev oL (n : Nat) (f : Nat → Int) : AO := .inr (.inr (.inl (n, f)))
abbrev oR (t n : Nat) (f : Nat → Option Nat) : AO := .inr (.inr (.inr (t, n, f)))
abbrev AH : Type := Nat → AO
def hu (μ : AH) (a : Nat) (o : AO) : AH := fun b => if b = a then o else μ b
def fu (f : Nat → Int) (k : Nat) (z : Int) : Nat → Int := fun j => if j = k then z else f j
def qu (f : Nat → Option Nat) (k : Nat) (z : Option Nat) : Nat → Option Nat := fun j => if j = k then z else f j
theorem hu_s {μ : AH} {a : Nat} {o : AO} : hu μ a o a = o := if_pos rfl
theorem hu_n {μ : AH} {a b : Nat} {o : AO} (h : b ≠ a) : hu μ a o b = μ b := if_neg h
theorem fu_s {f : Nat → Int} {k : Nat} {z : Int} : fu f k z k = z := if_pos rfl
theorem fu_n {f : Nat → Int} {k j : Nat} {z : Int} (h : j ≠ k) : fu f k z j = f j := if_neg h
theorem qu_s {f : Nat → Option Nat} {k : Nat} {z : Option Nat} : qu f k z k = z := if_pos rfl
theorem qu_n {f : Nat → Option Nat} {k j : Nat} {z : Option Nat} (h : j ≠ k) : qu f k z j = f j := if_neg h
/-- the law's script has this number; it is never written -/
abbrev SC : Nat := 1000000
abbrev iR (z : Int) : Prop := -2147483648 ≤ z ∧ z ≤ 2147483647
abbrev lR (z : Int) : Prop := -9223372036854775808 ≤ z ∧ z ≤ 9223372036854775807
def okV (n : Nat) (v : AV) : Prop := match v with
  | .inl z => iR z
  | .inr (.inl z) => lR z
  | .inr (.inr (.inl none)) => True
  | .inr (.inr (.inl (some a))) => a < n
  | .inr (.inr (.inr ())) => True
def okO (n : Nat) (o : AO) : Prop := match o with
  | .inl (_, fs) => ∀ v ∈ fs, okV n v
  | .inr (.inl (_, f)) => ∀ j, iR (f j)
  | .inr (.inr (.inl (_, f))) => ∀ j, lR (f j)
  | .inr (.inr (.inr (_, _, f))) => ∀ j a, f j = some a → a < n
def okH (n : Nat) (μ : AH) : Prop := n < SC ∧ ∀ i, i < n → okO n (μ i)
theorem okV_mono {n n' : Nat} {v : AV} (h : n ≤ n') (hv : okV n v) : okV n' v := by
  match v, hv with
  | .inl z, hv => exact hv
  | .inr (.inl z), hv => exact hv
  | .inr (.inr (.inl none)), hv => trivial
  | .inr (.inr (.inl (some a))), hv => exact Nat.lt_of_lt_of_le hv h
  | .inr (.inr (.inr ())), hv => trivial
theorem okO_mono {n n' : Nat} {o : AO} (h : n ≤ n') (ho : okO n o) : okO n' o := by
  match o, ho with
  | .inl (_, fs), ho => exact fun v hv => okV_mono h (ho v hv)
  | .inr (.inl (_, f)), ho => exact ho
  | .inr (.inr (.inl (_, f))), ho => exact ho
  | .inr (.inr (.inr (_, _, f))), ho => exact fun j a hj => Nat.lt_of_lt_of_le (ho j a hj) h
/-- the class numbers and slots of the own classes; the class numbers of the array types 0: int, 1: long, 2: Device, 3: Fence, 4: long[] -/
abbrev aG : Type := va_G × (Nat → ClassId)
def aTys (g : aG) : List (ClassId × FieldType) := [(g.2 0, .int), (g.2 1, .long), (g.2 2, .object "TrackRows$Device"), (g.2 3, .object "TrackRows$Fence"), (g.2 4, .array .long)]
def cV (ad : Nat → Nat) (v : AV) : Value := match v with
  | .inl z => .int (Int32.ofInt z)
  | .inr (.inl z) => .long (Int64.ofInt z)
  | .inr (.inr (.inl none)) => .null
  | .inr (.inr (.inl (some a))) => .ref (ad a)
  | .inr (.inr (.inr ())) => .ref (ad SC)
def cO (g : aG) (ad : Nat → Nat) (o : AO) : va_E := match o with
  | .inl (c, fs) => .inr (c, fs.map (cV ad))
  | .inr (.inl (n, f)) => .inl (g.2 0, n, .inl (fun j => Int32.ofInt (f j)))
  | .inr (.inr (.inl (n, f))) => .inl (g.2 1, n, .inr (.inl (fun j => Int64.ofInt (f j))))
  | .inr (.inr (.inr (t, n, f))) => .inl (g.2 t, n, .inr (.inr (.inr (.inr (fun j => (f j).map ad)))))
theorem cV_ad {n : Nat} {ad ad' : Nat → Nat} {v : AV} (hv : okV n v) (h : ∀ i, i < n ∨ i = SC → ad' i = ad i) : cV ad' v = cV ad v := by
  match v, hv with
  | .inl z, hv => rfl
  | .inr (.inl z), hv => rfl
  | .inr (.inr (.inl none)), hv => rfl
  | .inr (.inr (.inl (some a))), hv => exact congrArg Value.ref (h a (Or.inl hv))
  | .inr (.inr (.inr ())), hv => exact congrArg Value.ref (h SC (Or.inr rfl))
theorem cVs_ad {n : Nat} {ad ad' : Nat → Nat} {vs : List AV} (hv : ∀ v ∈ vs, okV n v) (h : ∀ i, i < n ∨ i = SC → ad' i = ad i) : vs.map (cV ad') = vs.map (cV ad) := List.map_congr_left (fun v hm => cV_ad (hv v hm) h)
theorem cO_ad {g : aG} {n : Nat} {ad ad' : Nat → Nat} {o : AO} (ho : okO n o) (h : ∀ i, i < n ∨ i = SC → ad' i = ad i) : cO g ad' o = cO g ad o := by
  match o, ho with
  | .inl (c, fs), ho => exact congrArg (fun z => (Sum.inr (c, z) : va_E)) (cVs_ad ho h)
  | .inr (.inl (_, f)), ho => rfl
  | .inr (.inr (.inl (_, f))), ho => rfl
  | .inr (.inr (.inr (t, k, f))), ho =>
    have e : (fun j => (f j).map ad') = (fun j => (f j).map ad) := funext fun j => by
      cases hf : f j with
      | none => rfl
      | some a => exact congrArg some (h a (Or.inl (ho j a hf)))
    show (Sum.inl (g.2 t, k, Sum.inr (Sum.inr (Sum.inr (Sum.inr (fun j => (f j).map ad'))))) : va_E) = Sum.inl (g.2 t, k, Sum.inr (Sum.inr (Sum.inr (Sum.inr (fun j => (f j).map ad)))))
    rw [e]
def aW (g : aG) (ad : Nat → Nat) (n : Nat) (μ : AH) : va_W := (List.range n).map (fun i => (ad i, cO g ad (μ i)))
theorem aW_get {g : aG} {ad : Nat → Nat} {n i : Nat} {μ : AH} (h : i < n) : (aW g ad n μ)[i]? = some (ad i, cO g ad (μ i)) := by
  unfold aW
  rw [List.getElem?_map, List.getElem?_range h]
  rfl
theorem aW_len {g : aG} {ad : Nat → Nat} {n : Nat} {μ : AH} : (aW g ad n μ).length = n := by
  unfold aW
  rw [List.length_map, List.length_range]
theorem aW_inv {g : aG} {ad : Nat → Nat} {n k : Nat} {μ : AH} {q : Nat × va_E} (h : (aW g ad n μ)[k]? = some q) : k < n ∧ q = (ad k, cO g ad (μ k)) := by
  have hk : k < n := by
    have := (List.getElem?_eq_some_iff.mp h).1
    rwa [aW_len] at this
  exact ⟨hk, Option.some.inj (h.symm.trans (aW_get hk))⟩
theorem aW_set {g : aG} {ad : Nat → Nat} {n i : Nat} {μ : AH} {o : AO} (h : i < n) : (aW g ad n μ).set i (ad i, cO g ad o) = aW g ad n (hu μ i o) := by
  apply List.ext_getElem?
  intro k
  by_cases e : k = i
  · subst e
    rw [List.getElem?_set_self (by rw [aW_len]; exact h), aW_get h, hu_s]
  · rw [List.getElem?_set_ne (Ne.symm e)]
    by_cases hk : k < n
    · rw [aW_get hk, aW_get hk, hu_n e]
    · rw [List.getElem?_eq_none (by rw [aW_len]; omega), List.getElem?_eq_none (by rw [aW_len]; omega)]
/-- the numbering with one thing more -/
def aE (ad : Nat → Nat) (n q : Nat) : Nat → Nat := fun i => if i = n then q else ad i
theorem aE_s {ad : Nat → Nat} {n q : Nat} : aE ad n q n = q := if_pos rfl
theorem aE_n {ad : Nat → Nat} {n q i : Nat} (h : i ≠ n) : aE ad n q i = ad i := if_neg h
theorem aE_old {ad : Nat → Nat} {n q : Nat} (hn : n < SC) : ∀ i, i < n ∨ i = SC → aE ad n q i = ad i := fun i h => aE_n (by rcases h with h | h <;> omega)
theorem aW_push {g : aG} {ad : Nat → Nat} {n q : Nat} {μ : AH} {o : AO} (hok : okH n μ) : aW g ad n μ ++ [(q, cO g (aE ad n q) o)] = aW g (aE ad n q) (n + 1) (hu μ n o) := by
  unfold aW
  rw [List.range_succ, List.map_append, List.map_singleton, aE_s, hu_s]
  congr 1
  apply List.map_congr_left
  intro i hi
  have hi' : i < n := List.mem_range.mp hi
  rw [aE_n (by omega), hu_n (by omega), cO_ad (hok.2 i hi') (aE_old hok.1)]
theorem okH_set {n a : Nat} {μ : AH} {o : AO} (h : okH n μ) (ho : okO n o) : okH n (hu μ a o) := ⟨h.1, fun i hi => by
  by_cases e : i = a
  · subst e; rw [hu_s]; exact ho
  · rw [hu_n e]; exact h.2 i hi⟩
theorem okH_push {n : Nat} {μ : AH} {o : AO} (h : okH n μ) (hn : n + 1 < SC) (ho : okO (n + 1) o) : okH (n + 1) (hu μ n o) := ⟨hn, fun i hi => by
  by_cases e : i = n
  · subst e; rw [hu_s]; exact ho
  · rw [hu_n e]; exact okO_mono (Nat.le_succ n) (h.2 i (by omega))⟩
/-! the words of the tables that stay true -/
def okw (w : Cond) : Bool := match w with
  | .fieldLinkNest .. => true
  | .methodLinkNest .. => true
  | .declares _ => true
  | .castable _ _ => true
  | w => goodWord w
def Tb : List Cond := lw_tbl.filter okw
theorem okw_warm {w : Cond} (h : okw w = true) {s U : State} (hW : s.WarmedH U.vm) (hw : va_Nw w s) : va_Nw w U := by
  unfold okw at h
  split at h
  · exact va_Nw.warmF hW hw
  · exact va_Nw.warmM hW hw
  · exact va_Nw.warmD hW hw
  · exact va_Nw.warmC hW hw
  · exact word_at hW (good_of_word h) hw
theorem okw_use {w : Cond} (h : okw w = true) {s : State} {args : Array Value} (hw : va_Nw w s) : w.before args s = true := by
  unfold okw at h
  split at h
  · exact va_Nw.use rfl hw
  · exact va_Nw.use rfl hw
  · exact va_Nw.use rfl hw
  · exact va_Nw.use rfl hw
  · exact word_at (State.WarmedH.refl s) (good_of_word h) hw
theorem Tb_ok {w : Cond} (h : w ∈ Tb) : okw w = true := (List.mem_filter.mp h).2
theorem Tb_in {w : Cond} (h : w ∈ lw_tbl) (hw : okw w = true) : w ∈ Tb := List.mem_filter.mpr ⟨h, hw⟩
theorem Tb_at {w : Cond} (i : Nat) (h : lw_tbl[i]? = some w) (hw : okw w = true) : w ∈ Tb := Tb_in (List.mem_of_getElem? h) hw
/-- the pairs of exceptions that can't be cast -/
def ncs : List (String × String) := [("java/lang/IndexOutOfBoundsException", "java/lang/IllegalStateException"), ("java/lang/IllegalArgumentException", "java/lang/IllegalStateException"), ("java/lang/IllegalStateException", "java/lang/IndexOutOfBoundsException"), ("java/lang/IllegalArgumentException", "java/lang/IndexOutOfBoundsException"), ("java/lang/IllegalStateException", "java/lang/IllegalArgumentException"), ("java/lang/IndexOutOfBoundsException", "java/lang/IllegalArgumentException")]
/-- what the tables say, at every state of the run -/
def AOA (U : State) : Prop := (Cond.arrayOver (.array .long)).before #[] U = true
theorem AOA.use {A : Array Value} {U : State} (h : AOA U) : (Cond.arrayOver (.array .long)).before A U = true := h
theorem AOA.moved {u U : State} (hvm : u.vm.Alike U.vm) (h : AOA u) : AOA U := Jvm.Stand.arrayOver_alikeB hvm h
def aC (g : aG) (U : State) : Prop := va_K g.1 vwCl (aTys g) U ∧ (∀ w ∈ Tb, va_Nw w U) ∧ (∀ q ∈ ncs, va_Nc q.1 q.2 U) ∧ va_AO "TrackRows$Device" U ∧ va_AO "TrackRows$Fence" U ∧ AOA U
theorem aC.warm {g : aG} {s U : State} (h : aC g s) (hW : s.WarmedH U.vm) : aC g U := ⟨va_K.moved hW.alike h.1, fun w hw => okw_warm (Tb_ok hw) hW (h.2.1 w hw), fun q hq => va_Nc.moved hW.alike (h.2.2.1 q hq), va_AO.moved hW.alike h.2.2.2.1, va_AO.moved hW.alike h.2.2.2.2.1, AOA.moved hW.alike h.2.2.2.2.2⟩
theorem aC.use {g : aG} {s : State} (h : aC g s) {args : Array Value} : ∀ w ∈ Tb, w.before args s = true := fun w hw => okw_use (Tb_ok hw) (h.2.1 w hw)
