/-! ===== helps for the rows ===== -/
theorem l_0 : lR 0 := ⟨by decide, by decide⟩
theorem i_lR {a : Int} (h : iR a) : lR a := ⟨by have := h.1; omega, by have := h.2; omega⟩
theorem i_div {a b : Int} (ha : iR a) (hb : iR b) : Int32.ofInt (a.tdiv b) = Int32.ofInt a / Int32.ofInt b := Int32.ofInt_tdiv ha.1 (by have := ha.2; show a ≤ 2147483647; exact this) hb.1 (by have := hb.2; show b ≤ 2147483647; exact this)
theorem l_div {a b : Int} (ha : lR a) (hb : lR b) : Int64.ofInt (a.tdiv b) = Int64.ofInt a / Int64.ofInt b := Int64.ofInt_tdiv ha.1 (by have := ha.2; show a ≤ 9223372036854775807; exact this) hb.1 (by have := hb.2; show b ≤ 9223372036854775807; exact this)
theorem i_l {a : Int} (h : iR a) : (Int32.ofInt a).toInt64 = Int64.ofInt a := by
  rw [← Int64.toInt_inj, Int32.toInt_toInt64, i_ti h, l_ti (i_lR h)]
theorem l_i {a : Int} (h : iR a) : (Int64.ofInt a).toInt32 = Int32.ofInt a := by
  rw [← Int32.toInt_inj, Int64.toInt_toInt32, l_ti (i_lR h), i_ti h]
  exact Int.bmod_eq_of_le (by have := h.1; omega) (by have := h.2; omega)
def cmpz (a b : Int) : Int := if b < a then 1 else if a = b then 0 else -1
theorem cmpz_R (a b : Int) : iR (cmpz a b) := by
  unfold cmpz iR
  split
  · omega
  · split <;> omega
theorem cmpz_c {a b : Int} (ha : lR a) (hb : lR b) : lg_cmp (Int64.ofInt a) (Int64.ofInt b) = Int32.ofInt (cmpz a b) := by
  unfold lg_cmp cmpz
  have h1 : (Int64.ofInt a > Int64.ofInt b) ↔ b < a := l_lt hb ha
  have h2 := l_eq ha hb
  by_cases c1 : b < a
  · rw [if_pos (h1.mpr c1), if_pos c1]; rfl
  · rw [if_neg (fun h => c1 (h1.mp h)), if_neg c1]
    by_cases c2 : a = b
    · rw [if_pos (h2.mpr c2), if_pos c2]; rfl
    · rw [if_neg (fun h => c2 (h2.mp h)), if_neg c2]; rfl
theorem cmpz_eq {a b : Int} : cmpz a b = 0 ↔ a = b := by unfold cmpz; (split; omega; split <;> omega)
theorem cmpz_lt {a b : Int} : cmpz a b < 0 ↔ a < b := by unfold cmpz; (split; omega; split <;> omega)
theorem cmpz_le {a b : Int} : cmpz a b ≤ 0 ↔ a ≤ b := by unfold cmpz; (split; omega; split <;> omega)
theorem cmpz_gt {a b : Int} : 0 < cmpz a b ↔ b < a := by unfold cmpz; (split; omega; split <;> omega)
theorem cmpz_ge {a b : Int} : 0 ≤ cmpz a b ↔ b ≤ a := by unfold cmpz; (split; omega; split <;> omega)
/-- a value of one word -/
def isC1 (v : AV) : Bool := match v with
  | .inr (.inl _) => false
  | _ => true
theorem cat1 {v : AV} (h : isC1 v = true) (ad : Nat → Nat) : (cV ad v).category = 1 := by
  match v, h with
  | .inl z, h => rfl
  | .inr (.inr (.inl none)), h => rfl
  | .inr (.inr (.inl (some a))), h => rfl
  | .inr (.inr (.inr ())), h => rfl
theorem cat2 {v : AV} (ad : Nat → Nat) : (cV ad v).category = 2 ↔ isC1 v = false := by
  cases hc : isC1 v
  · refine ⟨fun _ => rfl, fun _ => ?_⟩
    match v, hc with
    | .inr (.inl z), _ => rfl
  · rw [cat1 hc ad]
    exact ⟨fun h => absurd h (by decide), fun h => by cases h⟩
/-- a long in the place before i loses its second half -/
def lsX (ls : List (Option AV)) (i : Nat) : List (Option AV) := match i with
  | 0 => ls
  | j + 1 => match ls[j]? with
    | some (some (.inr (.inl _))) => ls.set j none
    | _ => ls
def ls1 (ls : List (Option AV)) (i : Nat) (v : AV) : List (Option AV) := (lsX ls i).set i (some v)
def ls2 (ls : List (Option AV)) (i : Nat) (v : AV) : List (Option AV) := ((lsX ls i).set i (some v)).set (i + 1) none
theorem lsX_in {ls : List (Option AV)} {i j : Nat} {v : AV} (h : (lsX ls i)[j]? = some (some v)) : ls[j]? = some (some v) ∧ ¬ (j + 1 = i ∧ isC1 v = false) := by
  unfold lsX at h
  split at h
  · exact ⟨h, by omega⟩
  · rename_i i' 
    split at h
    · rename_i z hz
      by_cases e : j = i'
      · subst e
        rw [List.getElem?_set] at h
        simp at h
      · rw [List.getElem?_set_ne (Ne.symm e)] at h
        exact ⟨h, by omega⟩
    · rename_i hno
      refine ⟨h, fun ⟨e1, e2⟩ => ?_⟩
      have e3 : j = i' := by omega
      subst e3
      match v, e2 with
      | .inr (.inl z), _ => exact hno z h
theorem set_in {ls : List (Option AV)} {i j : Nat} {v w : AV} (h : (ls.set i (some v))[j]? = some (some w)) : (j = i ∧ w = v) ∨ (j ≠ i ∧ ls[j]? = some (some w)) := by
  by_cases e : j = i
  · subst e
    left
    rw [List.getElem?_set] at h
    simp at h
    exact ⟨rfl, h.2.symm⟩
  · rw [List.getElem?_set_ne (Ne.symm e)] at h
    exact Or.inr ⟨e, h⟩
theorem setN_in {ls : List (Option AV)} {i j : Nat} {w : AV} (h : (ls.set i none)[j]? = some (some w)) : j ≠ i ∧ ls[j]? = some (some w) := by
  by_cases e : j = i
  · subst e
    rw [List.getElem?_set] at h
    simp at h
  · rw [List.getElem?_set_ne (Ne.symm e)] at h
    exact ⟨e, h⟩
/-- the locals as the kit's list of places and values -/
def lvOf (ad : Nat → Nat) (ls : List (Option AV)) : List (Nat × Value) := (List.range ls.length).filterMap (fun i => match ls[i]? with
  | some (some v) => some (i, cV ad v)
  | _ => none)
theorem lvOf_mem {ad : Nat → Nat} {ls : List (Option AV)} {q : Nat × Value} : q ∈ lvOf ad ls ↔ ∃ v, ls[q.1]? = some (some v) ∧ q.2 = cV ad v := by
  unfold lvOf
  rw [List.mem_filterMap]
  constructor
  · rintro ⟨i, -, h⟩
    split at h
    · rename_i v hv
      cases h
      exact ⟨v, hv, rfl⟩
    · cases h
  · rintro ⟨v, hv, e⟩
    refine ⟨q.1, List.mem_range.mpr (List.getElem?_eq_some_iff.mp hv).1, ?_⟩
    rw [hv]
    show some (q.1, cV ad v) = some q
    rw [← e]
theorem lvOf_has {ad : Nat → Nat} {nL n : Nat} {ls : List (Option AV)} {ls0 : Array Slot} (h : aL ad nL n ls ls0) : lv_has ls0 nL (lvOf ad ls) := ⟨h.1, h.2.1, fun q hq => by
  obtain ⟨v, hv, e⟩ := lvOf_mem.mp hq
  rw [e]
  exact (h.2.2 _ v hv).1⟩
theorem lvOf_at {ad : Nat → Nat} {ls : List (Option AV)} {i : Nat} {v : AV} (h : ls[i]? = some (some v)) : ∃ kk : Nat, (lvOf ad ls)[kk]? = some (i, cV ad v) := List.getElem?_of_mem (lvOf_mem.mpr ⟨v, h, rfl⟩)
theorem aL_1 {ad : Nat → Nat} {nL n : Nat} {ls : List (Option AV)} {ls0 ls0' : Array Slot} {i : Nat} {v : AV} (h : aL ad nL n ls ls0) (hv : okV n v) (h' : lv_has ls0' nL ((i, cV ad v) :: (lvOf ad ls).filter (fun q => !(q.1 == i) && !(q.1 + 1 == i && q.2.category == 2)))) : aL ad nL n (ls1 ls i v) ls0' := by
  refine ⟨h'.1, h'.2.1, fun j w hj => ?_⟩
  rcases set_in hj with ⟨rfl, rfl⟩ | ⟨hne, hj2⟩
  · exact ⟨h'.2.2 _ List.mem_cons_self, hv⟩
  · obtain ⟨hj3, hno⟩ := lsX_in hj2
    refine ⟨h'.2.2 (j, cV ad w) (List.mem_cons_of_mem _ (List.mem_filter.mpr ⟨lvOf_mem.mpr ⟨w, hj3, rfl⟩, ?_⟩)), (h.2.2 j w hj3).2⟩
    have e1 : (j == i) = false := beq_eq_false_iff_ne.mpr hne
    by_cases e2 : j + 1 = i
    · have c1 : isC1 w = true := by
        cases hc : isC1 w
        · exact absurd ⟨e2, hc⟩ hno
        · rfl
      simp [e1, cat1 c1 ad]
    · simp [e1, e2]
theorem aL_2 {ad : Nat → Nat} {nL n : Nat} {ls : List (Option AV)} {ls0 ls0' : Array Slot} {i : Nat} {v : AV} (h : aL ad nL n ls ls0) (hv : okV n v) (h' : lv_has ls0' nL ((i, cV ad v) :: (lvOf ad ls).filter (fun q => !(q.1 == i) && (!(q.1 == i + 1) && !(q.1 + 1 == i && q.2.category == 2))))) : aL ad nL n (ls2 ls i v) ls0' := by
  refine ⟨h'.1, h'.2.1, fun j w hj => ?_⟩
  obtain ⟨hn1, hj⟩ := setN_in hj
  rcases set_in hj with ⟨rfl, rfl⟩ | ⟨hne, hj2⟩
  · exact ⟨h'.2.2 _ List.mem_cons_self, hv⟩
  · obtain ⟨hj3, hno⟩ := lsX_in hj2
    refine ⟨h'.2.2 (j, cV ad w) (List.mem_cons_of_mem _ (List.mem_filter.mpr ⟨lvOf_mem.mpr ⟨w, hj3, rfl⟩, ?_⟩)), (h.2.2 j w hj3).2⟩
    have e1 : (j == i) = false := beq_eq_false_iff_ne.mpr hne
    have e3 : (j == i + 1) = false := beq_eq_false_iff_ne.mpr hn1
    by_cases e2 : j + 1 = i
    · have c1 : isC1 w = true := by
        cases hc : isC1 w
        · exact absurd ⟨e2, hc⟩ hno
        · rfl
      simp [e1, e3, cat1 c1 ad]
    · simp [e1, e3, e2]
