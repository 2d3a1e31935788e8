/-! ===== Matching, purely: codes of digits, the best code (written by hand) ===== -/
/-- 5 stands for none -/
abbrev bt (T d : Nat) : Nat := T ||| (1 * 2 ^ d)
def tn (T d : Nat) : Nat := if d = 5 then T else bt T d
def okg (W : Nat → Nat → Int) (D s T d : Nat) : Prop := d = 5 ∨ (d < D ∧ T &&& (1 * 2 ^ d) = 0 ∧ W s d ≠ -1)
def wg (W : Nat → Nat → Int) (s d : Nat) : Int := if d = 5 then 1000000000000 else W s d
def gi (d : Nat) : Int := if d = 5 then -1 else (d : Int)
theorem gi_5 : gi 5 = -1 := rfl
theorem gi_n {d : Nat} (h : d ≠ 5) : gi d = (d : Int) := if_neg h
def vld (W : Nat → Nat → Int) (D : Nat) : Nat → Nat → List Nat → Prop
  | _, _, [] => True
  | s, T, d :: ds => okg W D s T d ∧ vld W D (s + 1) (tn T d) ds
def cst (W : Nat → Nat → Int) : Nat → List Nat → Int
  | _, [] => 0
  | s, d :: ds => wg W s d + cst W (s + 1) ds
def nmb : List Nat → Nat
  | [] => 0
  | d :: ds => d * 6 ^ ds.length + nmb ds
def Bst (W : Nat → Nat → Int) (D s T : Nat) (ds : List Nat) : Prop := vld W D s T ds ∧ ∀ es : List Nat, es.length = ds.length → vld W D s T es → cst W s ds < cst W s es ∨ (cst W s ds = cst W s es ∧ nmb ds ≤ nmb es)
/-- the cost of the best code of sights s .. S - 1 -/
def LG (W : Nat → Nat → Int) (D S s T : Nat) (x : Int) : Prop := ∃ ds : List Nat, ds.length = S - s ∧ Bst W D s T ds ∧ x = cst W s ds
def sw (W Ls : Nat → Nat → Int) (s T g : Nat) : Int := wg W s g + Ls (s + 1) (tn T g)
def FB (W Ls : Nat → Nat → Int) (D s T g : Nat) : Prop := okg W D s T g ∧ ∀ d, okg W D s T d → sw W Ls s T g < sw W Ls s T d ∨ (sw W Ls s T g = sw W Ls s T d ∧ g ≤ d)
theorem okg_5 {W : Nat → Nat → Int} {D s T d : Nat} (hD : D ≤ 5) (h : okg W D s T d) : d ≤ 5 := by
  rcases h with h | h <;> omega
theorem bt_lt {T d D : Nat} (hT : T < 2 ^ D) (hd : d < D) : bt T d < 2 ^ D := by
  refine Nat.or_lt_two_pow hT ?_
  rw [Nat.one_mul]
  exact Nat.pow_lt_pow_right (by omega) hd
theorem tn_lt {W : Nat → Nat → Int} {D s T d : Nat} (hT : T < 2 ^ D) (h : okg W D s T d) : tn T d < 2 ^ D := by
  unfold tn
  split
  · exact hT
  · rcases h with h | h
    · exact absurd h (by assumption)
    · exact bt_lt hT h.1
theorem nmb_lt {W : Nat → Nat → Int} {D : Nat} (hD : D ≤ 5) : ∀ {ds : List Nat} {s T : Nat}, vld W D s T ds → nmb ds < 6 ^ ds.length
  | [], s, T, h => by show 0 < 6 ^ 0; decide
  | d :: ds, s, T, h => by
    have h1 := nmb_lt hD (ds := ds) h.2
    have h2 := okg_5 hD h.1
    have h3 : d * 6 ^ ds.length ≤ 5 * 6 ^ ds.length := Nat.mul_le_mul_right _ h2
    show d * 6 ^ ds.length + nmb ds < 6 ^ (ds.length + 1)
    rw [Nat.pow_succ]
    omega
theorem Bst_cost {W : Nat → Nat → Int} {D s T : Nat} {ds es : List Nat} (h : Bst W D s T ds) (h' : Bst W D s T es) (hl : es.length = ds.length) : cst W s ds = cst W s es := by
  have a := h.2 es hl h'.1
  have b := h'.2 ds hl.symm h.1
  omega
theorem Bst_nil {W : Nat → Nat → Int} {D s T : Nat} : Bst W D s T [] := ⟨trivial, fun es he _ => by
  have : es = [] := List.eq_nil_of_length_eq_zero he
  subst this
  exact Or.inr ⟨rfl, Nat.le_refl _⟩⟩
theorem Bst_c {W Ls : Nat → Nat → Int} {D S s T g : Nat} {rest : List Nat} (hD : D ≤ 5) (hT : T < 2 ^ D) (hL : ∀ T', T' < 2 ^ D → LG W D S (s + 1) T' (Ls (s + 1) T')) (hg : FB W Ls D s T g) (hr : rest.length = S - (s + 1)) (hB : Bst W D (s + 1) (tn T g) rest) : Bst W D s T (g :: rest) ∧ cst W s (g :: rest) = sw W Ls s T g := by
  have hc : cst W s (g :: rest) = sw W Ls s T g := by
    obtain ⟨bs, hb1, hb2, hb3⟩ := hL (tn T g) (tn_lt hT hg.1)
    show wg W s g + cst W (s + 1) rest = wg W s g + Ls (s + 1) (tn T g)
    rw [hb3, Bst_cost hb2 hB (by omega)]
  refine ⟨⟨⟨hg.1, hB.1⟩, ?_⟩, hc⟩
  intro es hes hv
  cases es with
  | nil => cases hes
  | cons d es =>
    have hl : es.length = rest.length := by simpa using hes
    obtain ⟨bs, hb1, hb2, hb3⟩ := hL (tn T d) (tn_lt hT hv.1)
    have h1 := hb2.2 es (by omega) hv.2
    have h2 : cst W s (d :: es) = wg W s d + cst W (s + 1) es := rfl
    have h3 : sw W Ls s T d = wg W s d + Ls (s + 1) (tn T d) := rfl
    rw [hc]
    rcases hg.2 d hv.1 with h4 | ⟨h4, h5⟩
    · left; omega
    · by_cases h6 : sw W Ls s T g < cst W s (d :: es)
      · exact Or.inl h6
      · right
        refine ⟨by omega, ?_⟩
        by_cases h7 : g = d
        · subst h7
          have h8 := hB.2 es hl hv.2
          have h9 : cst W s (g :: rest) = wg W s g + cst W (s + 1) rest := rfl
          have h10 : nmb rest ≤ nmb es := by omega
          show g * 6 ^ rest.length + nmb rest ≤ g * 6 ^ es.length + nmb es
          rw [hl]; omega
        · have h8 := nmb_lt hD hB.1
          show g * 6 ^ rest.length + nmb rest ≤ d * 6 ^ es.length + nmb es
          rw [hl]
          have h9 : (g + 1) * 6 ^ rest.length ≤ d * 6 ^ rest.length := Nat.mul_le_mul_right _ (by omega)
          rw [Nat.add_mul, Nat.one_mul] at h9
          omega
theorem LG_step {W Ls : Nat → Nat → Int} {D S s T g : Nat} (hD : D ≤ 5) (hT : T < 2 ^ D) (hs : s < S) (hL : ∀ T', T' < 2 ^ D → LG W D S (s + 1) T' (Ls (s + 1) T')) (hg : FB W Ls D s T g) : LG W D S s T (sw W Ls s T g) := by
  obtain ⟨bs, hb1, hb2, hb3⟩ := hL (tn T g) (tn_lt hT hg.1)
  have h := Bst_c hD hT hL hg hb1 hb2
  exact ⟨g :: bs, by simp only [List.length_cons]; omega, h.1, h.2.symm⟩
theorem LG_end {W : Nat → Nat → Int} {D S T : Nat} : LG W D S S T 0 := ⟨[], by simp, Bst_nil, rfl⟩
abbrev WBd (W : Nat → Nat → Int) (S D : Nat) : Prop := ∀ s d, s < S → d < D → -1 ≤ W s d ∧ W s d ≤ 80000000000
theorem cst_b {W : Nat → Nat → Int} {S D : Nat} (hW : WBd W S D) : ∀ {ds : List Nat} {s T : Nat}, s + ds.length ≤ S → vld W D s T ds → 0 ≤ cst W s ds ∧ cst W s ds ≤ 1000000000000 * (ds.length : Int)
  | [], s, T, _, h => ⟨Int.le_refl _, Int.le_refl _⟩
  | d :: ds, s, T, hl, h => by
    simp only [List.length_cons] at hl ⊢
    have h1 := cst_b hW (ds := ds) (s := s + 1) (by omega) h.2
    have h2 : 0 ≤ wg W s d ∧ wg W s d ≤ 1000000000000 := by
      unfold wg
      split
      · omega
      · rcases h.1 with h3 | ⟨h3, h4, h5⟩
        · exact absurd h3 (by assumption)
        · have := hW s d (by omega) h3; omega
    show 0 ≤ wg W s d + cst W (s + 1) ds ∧ wg W s d + cst W (s + 1) ds ≤ _
    omega
theorem LG_b {W : Nat → Nat → Int} {S D s T : Nat} {x : Int} (hW : WBd W S D) (hs : s ≤ S) (hS : S ≤ 5) (h : LG W D S s T x) : 0 ≤ x ∧ x ≤ 10000000000000 := by
  obtain ⟨ds, h1, h2, h3⟩ := h
  have := cst_b hW (ds := ds) (s := s) (by omega) h2.1
  omega
/-- a picked beginning: whatever is best behind it is best as a whole -/
def Pre (W : Nat → Nat → Int) (D S s T : Nat) (pre : List Nat) : Prop := pre.length = s ∧ ∀ ds : List Nat, ds.length = S - s → Bst W D s T ds → Bst W D 0 0 (pre ++ ds)
theorem Pre_0 {W : Nat → Nat → Int} {D S : Nat} : Pre W D S 0 0 [] := ⟨rfl, fun ds _ h => h⟩
theorem Pre_s {W Ls : Nat → Nat → Int} {D S s T g : Nat} {pre : List Nat} (hp : Pre W D S s T pre) (hs : s < S) (hD : D ≤ 5) (hT : T < 2 ^ D) (hL : ∀ T', T' < 2 ^ D → LG W D S (s + 1) T' (Ls (s + 1) T')) (hg : FB W Ls D s T g) : Pre W D S (s + 1) (tn T g) (pre ++ [g]) :=
  ⟨by rw [List.length_append, hp.1]; rfl, fun ds hl hb => by
    rw [List.append_assoc]
    exact hp.2 (g :: ds) (by simp only [List.length_cons]; omega) (Bst_c hD hT hL hg hl hb).1⟩
theorem Pre_e {W : Nat → Nat → Int} {D S T : Nat} {pre : List Nat} (hp : Pre W D S S T pre) : Bst W D 0 0 pre := by
  have := hp.2 [] (by simp) Bst_nil
  rwa [List.append_nil] at this
def dgt (ds : List Nat) (s : Nat) : Nat := ds.getD s 5
theorem dgt_a {ds es : List Nat} {s : Nat} (h : s < ds.length) : dgt (ds ++ es) s = dgt ds s := by
  unfold dgt
  rw [List.getD_eq_getElem?_getD, List.getD_eq_getElem?_getD, List.getElem?_append_left h]
theorem dgt_b {ds : List Nat} {g : Nat} : dgt (ds ++ [g]) ds.length = g := by
  unfold dgt
  rw [List.getD_eq_getElem?_getD, List.getElem?_append_right (Nat.le_refl _), Nat.sub_self]
  rfl
/-- the weights of what is matched among the first s sights -/
def wsm (W : Nat → Nat → Int) (ds : List Nat) : Nat → Int
  | 0 => 0
  | s + 1 => wsm W ds s + (if dgt ds s = 5 then 0 else W s (dgt ds s))
theorem and0_5 : ∀ T, T < 32 → ∀ d, d < 5 → ((T &&& (1 * 2 ^ d)) = 0 ↔ T / 2 ^ d % 2 = 0) := by decide
