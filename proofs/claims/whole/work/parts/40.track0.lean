/-! ===== TrackRows: the checks, the state (written by m_track0.py) ===== -/
def IX : String := "java/lang/IndexOutOfBoundsException"
def IA : String := "java/lang/IllegalArgumentException"
def IS : String := "java/lang/IllegalStateException"
/-- it throws, nothing changed -/
def Tx (n : Nat) (μ : AH) (E : String) : AQ := fun o n' μ' => n' = n ∧ μ' = μ ∧ o = .inr E
/-- it returns nothing, nothing changed -/
def Nv (n : Nat) (μ : AH) : AQ := Vd (fun n' μ' => n' = n ∧ μ' = μ)
abbrev AOut : Type := Option AV ⊕ String
def ox (P : Prop) [Decidable P] (E : String) (r : AOut) : AOut := if P then r else .inr E
theorem ox_t {P : Prop} [Decidable P] {E : String} {r : AOut} (h : P) : ox P E r = r := if_pos h
theorem ox_f {P : Prop} [Decidable P] {E : String} {r : AOut} (h : ¬ P) : ox P E r = .inr E := if_neg h
/-- this outcome, nothing changed -/
def Pu (n : Nat) (μ : AH) (r : AOut) : AQ := fun o n' μ' => n' = n ∧ μ' = μ ∧ o = r
def dA : Nat → Option Nat := fun k => if k < 5 then some (30 + 8 * k) else none
def fA : Nat → Option Nat := fun k => if k < 4 then some (70 + 3 * k) else none
theorem dA_at {k : Nat} (h : k < 5) : dA k = some (30 + 8 * k) := if_pos h
theorem fA_at {k : Nat} (h : k < 4) : fA k = some (70 + 3 * k) := if_pos h
/-- a device's numbers: count, seconds, xs, ys, told twice, marks, their seconds, their times -/
abbrev DVt : Type := Nat × (Nat → Int) × (Nat → Int) × (Nat → Int) × Int × Nat × (Nat → Int) × (Nat → Int)
abbrev FVt : Type := Nat × (Nat → Int) × (Nat → Int)
abbrev SVt : Type := Nat × (Nat → Int) × (Nat → Int) × (Nat → Int)
def dv_L (μ : AH) (q : Nat) (v : DVt) : Prop := DL μ q v.1 v.2.1 v.2.2.1 v.2.2.2.1 v.2.2.2.2.1 v.2.2.2.2.2.1 v.2.2.2.2.2.2.1 v.2.2.2.2.2.2.2
def dv_O (v : DVt) : Prop := DOk v.1 v.2.1 v.2.2.1 v.2.2.2.1 v.2.2.2.2.2.1 v.2.2.2.2.2.2.1 v.2.2.2.2.2.2.2
/-- Matching at 7: its rows -/
def MT (μ : AH) (W Ls : Nat → Nat → Int) (ch : Nat → Int) (sc dc : Int) : Prop := μ 7 = oO 4 [vR 8, vR 14, vR 21, vI sc, vI dc] ∧ μ 8 = oR 4 5 (fun k => if k < 5 then some (9 + k) else none) ∧ (∀ k, k < 5 → μ (9 + k) = oL 5 (W k)) ∧ μ 14 = oR 4 6 (fun k => if k < 6 then some (15 + k) else none) ∧ (∀ k, k < 6 → μ (15 + k) = oL 32 (Ls k)) ∧ μ 21 = oI 5 ch
/-- the class's heap -/
def CH (μ : AH) (D : Nat) (dv : Nat → DVt) (Fn : Nat) (fv : Nat → FVt) (sv : SVt) (pk fd : Nat × (Nat → Int)) (spd lim : Int) : Prop :=
  μ 0 = oO 6 [vR 1, vR 2, vR 3, vR 7, vR 22, vR 24, vR 26, vI (D : Int), vI (Fn : Int), vI spd, vI lim] ∧ μ 1 = oR 2 5 dA ∧ μ 2 = oR 3 4 fA ∧ PL μ 3 5 sv.1 sv.2.1 sv.2.2.1 sv.2.2.2 ∧ (∃ W Ls ch sc dc, MT μ W Ls ch sc dc) ∧ (∃ nx so, BY μ 22 pk.1 nx so pk.2) ∧ (∃ nx so, BY μ 24 fd.1 nx so fd.2) ∧ (∃ e f g h, PL μ 26 60 e f g h) ∧ (∀ d, d < 5 → dv_L μ (30 + 8 * d) (dv d)) ∧ ∀ k, k < 4 → FE μ (70 + 3 * k) (fv k).1 (fv k).2.1 (fv k).2.2
/-- .. as told; what was told twice is at most B -/
def COk (B : Int) (D : Nat) (dv : Nat → DVt) (Fn : Nat) (fv : Nat → FVt) (sv : SVt) (pk fd : Nat × (Nat → Int)) (spd lim : Int) : Prop :=
  D ≤ 5 ∧ (∀ d, d < 5 → dv_O (dv d) ∧ 0 ≤ (dv d).2.2.2.2.1 ∧ (dv d).2.2.2.2.1 ≤ B) ∧ Fn ≤ 4 ∧ (∀ k, k < 4 → (fv k).1 ≤ 8 ∧ EBd (fv k).1 (fv k).2.1 (fv k).2.2) ∧ sv.1 ≤ 5 ∧ PBd sv.1 sv.2.1 sv.2.2.1 sv.2.2.2 ∧ pk.1 ≤ 600 ∧ fd.1 ≤ 600 ∧ (∀ p, p < fd.1 → 0 ≤ fd.2 p ∧ fd.2 p ≤ 255) ∧ 1 ≤ spd ∧ spd ≤ 100 ∧ 1 ≤ lim ∧ lim ≤ 100000
/-- nothing from 82 on changed -/
def FrC (μ μ' : AH) : Prop := ∀ b, 82 ≤ b → μ' b = μ b
theorem FrC_rf {μ : AH} : FrC μ μ := fun _ _ => rfl
set_option maxHeartbeats 4000000 in
set_option maxRecDepth 100000 in
theorem m_X6_refuseNumber_t {n : Nat} {μ : AH} {i c : Int} (hP : 0 ≤ i ∧ i < c) : AMet YX6_refuseNumber [vI (i), vI (c)] n μ (Nv n μ) := by
  refine AMet.of (by decide) rfl (Nat.le_of_ble_eq_true rfl) ?_
  refine aw_iload_n (q := 1) dX6_refuseNumber_0 rfl rfl rfl ?_
  refine aw_if_lt (t := 9) (q := 4) dX6_refuseNumber_1 rfl (by decide) (fun bc1 => ?_) (fun bc1 => ?_)
  · skip
    exact absurd hP (by omega)
  · skip
    refine aw_iload_n (q := 5) dX6_refuseNumber_4 rfl rfl rfl ?_
    refine aw_iload_n (q := 6) dX6_refuseNumber_5 rfl rfl rfl ?_
    refine aw_ic_lt (t := 17) (q := 9) dX6_refuseNumber_6 rfl (by decide) (fun bc2 => ?_) (fun bc2 => ?_)
    · skip
      exact aw_vret dX6_refuseNumber_17 rfl (by decide) (by decide) ⟨rfl, rfl, rfl⟩
    · skip
      exact absurd hP (by omega)
set_option maxHeartbeats 4000000 in
set_option maxRecDepth 100000 in
theorem m_X6_refuseNumber_x {n : Nat} {μ : AH} {i c : Int} (hP : ¬ (0 ≤ i ∧ i < c)) : AMet YX6_refuseNumber [vI (i), vI (c)] n μ (Tx n μ IX) := by
  refine AMet.of (by decide) rfl (Nat.le_of_ble_eq_true rfl) ?_
  refine aw_iload_n (q := 1) dX6_refuseNumber_0 rfl rfl rfl ?_
  refine aw_if_lt (t := 9) (q := 4) dX6_refuseNumber_1 rfl (by decide) (fun bc1 => ?_) (fun bc1 => ?_)
  · skip
    exact aw_throw dX6_refuseNumber_9 dX6_refuseNumber_12 dX6_refuseNumber_13 dX6_refuseNumber_16 th_X6_162 rfl (by decide) (Nat.le_of_ble_eq_true rfl) (by decide) (by decide) ⟨rfl, rfl, rfl⟩
  · skip
    refine aw_iload_n (q := 5) dX6_refuseNumber_4 rfl rfl rfl ?_
    refine aw_iload_n (q := 6) dX6_refuseNumber_5 rfl rfl rfl ?_
    refine aw_ic_lt (t := 17) (q := 9) dX6_refuseNumber_6 rfl (by decide) (fun bc2 => ?_) (fun bc2 => ?_)
    · skip
      exact absurd hP (by omega)
    · skip
      exact aw_throw dX6_refuseNumber_9 dX6_refuseNumber_12 dX6_refuseNumber_13 dX6_refuseNumber_16 th_X6_162 rfl (by decide) (Nat.le_of_ble_eq_true rfl) (by decide) (by decide) ⟨rfl, rfl, rfl⟩
set_option maxHeartbeats 4000000 in
set_option maxRecDepth 100000 in
theorem m_X6_refuseMore_t {n : Nat} {μ : AH} {c m : Int} (hP : c < m) : AMet YX6_refuseMore [vI (c), vI (m)] n μ (Nv n μ) := by
  refine AMet.of (by decide) rfl (Nat.le_of_ble_eq_true rfl) ?_
  refine aw_iload_n (q := 1) dX6_refuseMore_0 rfl rfl rfl ?_
  refine aw_iload_n (q := 2) dX6_refuseMore_1 rfl rfl rfl ?_
  refine aw_ic_lt (t := 13) (q := 5) dX6_refuseMore_2 rfl (by decide) (fun bc1 => ?_) (fun bc1 => ?_)
  · skip
    exact aw_vret dX6_refuseMore_13 rfl (by decide) (by decide) ⟨rfl, rfl, rfl⟩
  · skip
    exact absurd hP (by omega)
set_option maxHeartbeats 4000000 in
set_option maxRecDepth 100000 in
theorem m_X6_refuseMore_x {n : Nat} {μ : AH} {c m : Int} (hP : ¬ (c < m)) : AMet YX6_refuseMore [vI (c), vI (m)] n μ (Tx n μ IS) := by
  refine AMet.of (by decide) rfl (Nat.le_of_ble_eq_true rfl) ?_
  refine aw_iload_n (q := 1) dX6_refuseMore_0 rfl rfl rfl ?_
  refine aw_iload_n (q := 2) dX6_refuseMore_1 rfl rfl rfl ?_
  refine aw_ic_lt (t := 13) (q := 5) dX6_refuseMore_2 rfl (by decide) (fun bc1 => ?_) (fun bc1 => ?_)
  · skip
    exact absurd hP (by omega)
  · skip
    exact aw_throw dX6_refuseMore_5 dX6_refuseMore_8 dX6_refuseMore_9 dX6_refuseMore_12 th_X6_243 rfl (by decide) (Nat.le_of_ble_eq_true rfl) (by decide) (by decide) ⟨rfl, rfl, rfl⟩
set_option maxHeartbeats 4000000 in
set_option maxRecDepth 100000 in
theorem m_X6_refuseUnless_t {n : Nat} {μ : AH} {b : Int} (hP : b ≠ 0) : AMet YX6_refuseUnless [vI (b)] n μ (Nv n μ) := by
  refine AMet.of (by decide) rfl (Nat.le_of_ble_eq_true rfl) ?_
  refine aw_iload_n (q := 1) dX6_refuseUnless_0 rfl rfl rfl ?_
  refine aw_if_ne (t := 12) (q := 4) dX6_refuseUnless_1 rfl (by decide) (fun bc1 => ?_) (fun bc1 => ?_)
  · skip
    exact aw_vret dX6_refuseUnless_12 rfl (by decide) (by decide) ⟨rfl, rfl, rfl⟩
  · skip
    exact absurd hP (by omega)
set_option maxHeartbeats 4000000 in
set_option maxRecDepth 100000 in
theorem m_X6_refuseUnless_x {n : Nat} {μ : AH} {b : Int} (hP : ¬ (b ≠ 0)) : AMet YX6_refuseUnless [vI (b)] n μ (Tx n μ IA) := by
  refine AMet.of (by decide) rfl (Nat.le_of_ble_eq_true rfl) ?_
  refine aw_iload_n (q := 1) dX6_refuseUnless_0 rfl rfl rfl ?_
  refine aw_if_ne (t := 12) (q := 4) dX6_refuseUnless_1 rfl (by decide) (fun bc1 => ?_) (fun bc1 => ?_)
  · skip
    exact absurd hP (by omega)
  · skip
    exact aw_throw dX6_refuseUnless_4 dX6_refuseUnless_7 dX6_refuseUnless_8 dX6_refuseUnless_11 th_X6_121 rfl (by decide) (Nat.le_of_ble_eq_true rfl) (by decide) (by decide) ⟨rfl, rfl, rfl⟩
set_option maxHeartbeats 4000000 in
set_option maxRecDepth 100000 in
theorem m_X6_refuseOutside_t {n : Nat} {μ : AH} {x lo hi : Int} (hP : lo ≤ x ∧ x ≤ hi) : AMet YX6_refuseOutside [vI (x), vI (lo), vI (hi)] n μ (Nv n μ) := by
  refine AMet.of (by decide) rfl (Nat.le_of_ble_eq_true rfl) ?_
  refine aw_iload_n (q := 1) dX6_refuseOutside_0 rfl rfl rfl ?_
  refine aw_iload_n (q := 2) dX6_refuseOutside_1 rfl rfl rfl ?_
  refine aw_ic_lt (t := 14) (q := 5) dX6_refuseOutside_2 rfl (by decide) (fun bc1 => ?_) (fun bc1 => ?_)
  · skip
    exact absurd hP (by omega)
  · skip
    refine aw_iload_n (q := 6) dX6_refuseOutside_5 rfl rfl rfl ?_
    refine aw_iload_n (q := 7) dX6_refuseOutside_6 rfl rfl rfl ?_
    refine aw_ic_gt (t := 14) (q := 10) dX6_refuseOutside_7 rfl (by decide) (fun bc2 => ?_) (fun bc2 => ?_)
    · skip
      exact absurd hP (by omega)
    · skip
      refine aw_iconst (q := 11) dX6_refuseOutside_10 rfl (by omega) ?_
      refine aw_goto (q := 15) dX6_refuseOutside_11 (by decide) ?_
      refine aw_callS [vI (1)] (q := 18) dX6_refuseOutside_15 rfl ck_X6_refuseUnless lk_X6_92 rfl ⟨Nat.le_of_ble_eq_true rfl, Nat.le_of_ble_eq_true rfl⟩ rfl rfl (Nat.le_of_ble_eq_true rfl) (by decide) (m_X6_refuseUnless_t (by decide)) rfl (fun _ _ _ h => (Vd_x h).elim) ?_
      rintro v n9 μ9 - ⟨hv9, rfl, rfl⟩
      obtain rfl := Sum.inl.inj hv9
      exact aw_vret dX6_refuseOutside_18 rfl (by decide) (by decide) ⟨rfl, rfl, rfl⟩
set_option maxHeartbeats 4000000 in
set_option maxRecDepth 100000 in
theorem m_X6_refuseOutside_x {n : Nat} {μ : AH} {x lo hi : Int} (hP : ¬ (lo ≤ x ∧ x ≤ hi)) : AMet YX6_refuseOutside [vI (x), vI (lo), vI (hi)] n μ (Tx n μ IA) := by
  refine AMet.of (by decide) rfl (Nat.le_of_ble_eq_true rfl) ?_
  refine aw_iload_n (q := 1) dX6_refuseOutside_0 rfl rfl rfl ?_
  refine aw_iload_n (q := 2) dX6_refuseOutside_1 rfl rfl rfl ?_
  refine aw_ic_lt (t := 14) (q := 5) dX6_refuseOutside_2 rfl (by decide) (fun bc1 => ?_) (fun bc1 => ?_)
  · skip
    refine aw_iconst (q := 15) dX6_refuseOutside_14 rfl (by omega) ?_
    refine aw_callS [vI (0)] (q := 18) dX6_refuseOutside_15 rfl ck_X6_refuseUnless lk_X6_92 rfl ⟨Nat.le_of_ble_eq_true rfl, Nat.le_of_ble_eq_true rfl⟩ rfl rfl (Nat.le_of_ble_eq_true rfl) (by decide) (m_X6_refuseUnless_x (by decide)) rfl (fun E9 n9 μ9 h9 => h9) ?_
    rintro v n9 μ9 - ⟨-, -, h9⟩
    cases h9
  · skip
    refine aw_iload_n (q := 6) dX6_refuseOutside_5 rfl rfl rfl ?_
    refine aw_iload_n (q := 7) dX6_refuseOutside_6 rfl rfl rfl ?_
    refine aw_ic_gt (t := 14) (q := 10) dX6_refuseOutside_7 rfl (by decide) (fun bc2 => ?_) (fun bc2 => ?_)
    · skip
      refine aw_iconst (q := 15) dX6_refuseOutside_14 rfl (by omega) ?_
      refine aw_callS [vI (0)] (q := 18) dX6_refuseOutside_15 rfl ck_X6_refuseUnless lk_X6_92 rfl ⟨Nat.le_of_ble_eq_true rfl, Nat.le_of_ble_eq_true rfl⟩ rfl rfl (Nat.le_of_ble_eq_true rfl) (by decide) (m_X6_refuseUnless_x (by decide)) rfl (fun E9 n9 μ9 h9 => h9) ?_
      rintro v n9 μ9 - ⟨-, -, h9⟩
      cases h9
    · skip
      refine aw_iconst (q := 11) dX6_refuseOutside_10 rfl (by omega) ?_
      refine aw_goto (q := 15) dX6_refuseOutside_11 (by decide) ?_
      refine aw_callS [vI (1)] (q := 18) dX6_refuseOutside_15 rfl ck_X6_refuseUnless lk_X6_92 rfl ⟨Nat.le_of_ble_eq_true rfl, Nat.le_of_ble_eq_true rfl⟩ rfl rfl (Nat.le_of_ble_eq_true rfl) (by decide) (m_X6_refuseUnless_t (by decide)) rfl (fun _ _ _ h => (Vd_x h).elim) ?_
      rintro v n9 μ9 - ⟨hv9, rfl, rfl⟩
      obtain rfl := Sum.inl.inj hv9
      exact absurd hP (by omega)
set_option maxHeartbeats 4000000 in
set_option maxRecDepth 100000 in
theorem m_X6_refuseUntellable_t {n : Nat} {μ : AH} {s x y : Int} (hP : 0 ≤ s ∧ s ≤ 1000000 ∧ -100000 ≤ x ∧ x ≤ 100000 ∧ -100000 ≤ y ∧ y ≤ 100000) : AMet YX6_refuseUntellable [vI (s), vI (x), vI (y)] n μ (Nv n μ) := by
  refine AMet.of (by decide) rfl (Nat.le_of_ble_eq_true rfl) ?_
  refine aw_iload_n (q := 1) dX6_refuseUntellable_0 rfl rfl rfl ?_
  refine aw_iload_n (q := 2) dX6_refuseUntellable_1 rfl rfl rfl ?_
  refine aw_iload_n (q := 3) dX6_refuseUntellable_2 rfl rfl rfl ?_
  refine aw_callS [vI (s), vI (x), vI (y)] (q := 6) dX6_refuseUntellable_3 rfl ck_X6_isTellable lk_X6_238 rfl ⟨Nat.le_of_ble_eq_true rfl, Nat.le_of_ble_eq_true rfl⟩ rfl rfl (Nat.le_of_ble_eq_true rfl) (by decide) (m_X6_isTellable) rfl (fun _ _ _ h => (Rt_x h).elim) ?_
  rintro v n9 μ9 - ⟨v9, hv9, rfl, rfl, rfl⟩
  obtain rfl := Sum.inl.inj hv9
  refine aw_callS [vI (bz (0 ≤ s ∧ s ≤ 1000000 ∧ -100000 ≤ x ∧ x ≤ 100000 ∧ -100000 ≤ y ∧ y ≤ 100000))] (q := 9) dX6_refuseUntellable_6 rfl ck_X6_refuseUnless lk_X6_92 rfl ⟨Nat.le_of_ble_eq_true rfl, Nat.le_of_ble_eq_true rfl⟩ rfl rfl (Nat.le_of_ble_eq_true rfl) (by decide) (m_X6_refuseUnless_t (bz_n0.mpr hP)) rfl (fun _ _ _ h => (Vd_x h).elim) ?_
  rintro v n9 μ9 - ⟨hv9, rfl, rfl⟩
  obtain rfl := Sum.inl.inj hv9
  exact aw_vret dX6_refuseUntellable_9 rfl (by decide) (by decide) ⟨rfl, rfl, rfl⟩
set_option maxHeartbeats 4000000 in
set_option maxRecDepth 100000 in
theorem m_X6_refuseUntellable_x {n : Nat} {μ : AH} {s x y : Int} (hP : ¬ (0 ≤ s ∧ s ≤ 1000000 ∧ -100000 ≤ x ∧ x ≤ 100000 ∧ -100000 ≤ y ∧ y ≤ 100000)) : AMet YX6_refuseUntellable [vI (s), vI (x), vI (y)] n μ (Tx n μ IA) := by
  refine AMet.of (by decide) rfl (Nat.le_of_ble_eq_true rfl) ?_
  refine aw_iload_n (q := 1) dX6_refuseUntellable_0 rfl rfl rfl ?_
  refine aw_iload_n (q := 2) dX6_refuseUntellable_1 rfl rfl rfl ?_
  refine aw_iload_n (q := 3) dX6_refuseUntellable_2 rfl rfl rfl ?_
  refine aw_callS [vI (s), vI (x), vI (y)] (q := 6) dX6_refuseUntellable_3 rfl ck_X6_isTellable lk_X6_238 rfl ⟨Nat.le_of_ble_eq_true rfl, Nat.le_of_ble_eq_true rfl⟩ rfl rfl (Nat.le_of_ble_eq_true rfl) (by decide) (m_X6_isTellable) rfl (fun _ _ _ h => (Rt_x h).elim) ?_
  rintro v n9 μ9 - ⟨v9, hv9, rfl, rfl, rfl⟩
  obtain rfl := Sum.inl.inj hv9
  refine aw_callS [vI (bz (0 ≤ s ∧ s ≤ 1000000 ∧ -100000 ≤ x ∧ x ≤ 100000 ∧ -100000 ≤ y ∧ y ≤ 100000))] (q := 9) dX6_refuseUntellable_6 rfl ck_X6_refuseUnless lk_X6_92 rfl ⟨Nat.le_of_ble_eq_true rfl, Nat.le_of_ble_eq_true rfl⟩ rfl rfl (Nat.le_of_ble_eq_true rfl) (by decide) (m_X6_refuseUnless_x (fun h => hP (bz_n0.mp h))) rfl (fun E9 n9 μ9 h9 => h9) ?_
  rintro v n9 μ9 - ⟨-, -, h9⟩
  cases h9
set_option maxHeartbeats 4000000 in
set_option maxRecDepth 100000 in
theorem m_X6_deviceOf_t {n : Nat} {μ : AH} {D Fn : Nat} {spd lim : Int} (h0 : μ 0 = oO 6 [vR 1, vR 2, vR 3, vR 7, vR 22, vR 24, vR 26, vI (D : Int), vI (Fn : Int), vI spd, vI lim]) (h1 : μ 1 = oR 2 5 dA) {i : Int} {d : Nat} (hi : i = (d : Int)) (hd : d < D) (hN : D ≤ 5) : AMet YX6_deviceOf [vR 0, vI (i)] n μ (Pv n μ (vR (30 + 8 * d))) := by
  refine AMet.of (by decide) rfl (Nat.le_of_ble_eq_true rfl) ?_
  refine aw_iload_n (q := 1) dX6_deviceOf_0 rfl rfl rfl ?_
  refine aw_aload_n (q := 2) dX6_deviceOf_1 rfl rfl rfl ?_
  refine aw_get (q := 5) dX6_deviceOf_2 rfl fl_X6_50 h0 rfl (fun _ => ?_)
  refine aw_callS [vI (i), vI ((D : Int))] (q := 8) dX6_deviceOf_5 rfl ck_X6_refuseNumber lk_X6_191 rfl ⟨Nat.le_of_ble_eq_true rfl, Nat.le_of_ble_eq_true rfl⟩ rfl rfl (Nat.le_of_ble_eq_true rfl) (by decide) (m_X6_refuseNumber_t (by omega)) rfl (fun _ _ _ h => (Vd_x h).elim) ?_
  rintro v n9 μ9 - ⟨hv9, rfl, rfl⟩
  obtain rfl := Sum.inl.inj hv9
  refine aw_aload_n (q := 9) dX6_deviceOf_8 rfl rfl rfl ?_
  refine aw_get (q := 12) dX6_deviceOf_9 rfl fl_X6_11 h0 rfl (fun _ => ?_)
  refine aw_iload_n (q := 13) dX6_deviceOf_12 rfl rfl rfl ?_
  refine aw_aaload (j := d) (b := (30 + 8 * d)) (q := 14) dX6_deviceOf_13 rfl h1 (by omega) (by omega) (by decide) (dA_at (by omega)) ?_
  exact aw_aret dX6_deviceOf_14 rfl (by decide) (by decide) ⟨_, rfl, rfl, rfl, rfl⟩
set_option maxHeartbeats 4000000 in
set_option maxRecDepth 100000 in
theorem m_X6_deviceOf_x {n : Nat} {μ : AH} {D Fn : Nat} {spd lim : Int} (h0 : μ 0 = oO 6 [vR 1, vR 2, vR 3, vR 7, vR 22, vR 24, vR 26, vI (D : Int), vI (Fn : Int), vI spd, vI lim]) {i : Int} (hi : ¬ (0 ≤ i ∧ i < (D : Int))) : AMet YX6_deviceOf [vR 0, vI (i)] n μ (Tx n μ IX) := by
  refine AMet.of (by decide) rfl (Nat.le_of_ble_eq_true rfl) ?_
  refine aw_iload_n (q := 1) dX6_deviceOf_0 rfl rfl rfl ?_
  refine aw_aload_n (q := 2) dX6_deviceOf_1 rfl rfl rfl ?_
  refine aw_get (q := 5) dX6_deviceOf_2 rfl fl_X6_50 h0 rfl (fun _ => ?_)
  refine aw_callS [vI (i), vI ((D : Int))] (q := 8) dX6_deviceOf_5 rfl ck_X6_refuseNumber lk_X6_191 rfl ⟨Nat.le_of_ble_eq_true rfl, Nat.le_of_ble_eq_true rfl⟩ rfl rfl (Nat.le_of_ble_eq_true rfl) (by decide) (m_X6_refuseNumber_x hi) rfl (fun E9 n9 μ9 h9 => h9) ?_
  rintro v n9 μ9 - ⟨-, -, h9⟩
  cases h9
set_option maxHeartbeats 4000000 in
set_option maxRecDepth 100000 in
theorem m_X6_fenceOf_t {n : Nat} {μ : AH} {D Fn : Nat} {spd lim : Int} (h0 : μ 0 = oO 6 [vR 1, vR 2, vR 3, vR 7, vR 22, vR 24, vR 26, vI (D : Int), vI (Fn : Int), vI spd, vI lim]) (h2 : μ 2 = oR 3 4 fA) {i : Int} {d : Nat} (hi : i = (d : Int)) (hd : d < Fn) (hN : Fn ≤ 4) : AMet YX6_fenceOf [vR 0, vI (i)] n μ (Pv n μ (vR (70 + 3 * d))) := by
  refine AMet.of (by decide) rfl (Nat.le_of_ble_eq_true rfl) ?_
  refine aw_iload_n (q := 1) dX6_fenceOf_0 rfl rfl rfl ?_
  refine aw_aload_n (q := 2) dX6_fenceOf_1 rfl rfl rfl ?_
  refine aw_get (q := 5) dX6_fenceOf_2 rfl fl_X6_54 h0 rfl (fun _ => ?_)
  refine aw_callS [vI (i), vI ((Fn : Int))] (q := 8) dX6_fenceOf_5 rfl ck_X6_refuseNumber lk_X6_191 rfl ⟨Nat.le_of_ble_eq_true rfl, Nat.le_of_ble_eq_true rfl⟩ rfl rfl (Nat.le_of_ble_eq_true rfl) (by decide) (m_X6_refuseNumber_t (by omega)) rfl (fun _ _ _ h => (Vd_x h).elim) ?_
  rintro v n9 μ9 - ⟨hv9, rfl, rfl⟩
  obtain rfl := Sum.inl.inj hv9
  refine aw_aload_n (q := 9) dX6_fenceOf_8 rfl rfl rfl ?_
  refine aw_get (q := 12) dX6_fenceOf_9 rfl fl_X6_17 h0 rfl (fun _ => ?_)
  refine aw_iload_n (q := 13) dX6_fenceOf_12 rfl rfl rfl ?_
  refine aw_aaload (j := d) (b := (70 + 3 * d)) (q := 14) dX6_fenceOf_13 rfl h2 (by omega) (by omega) (by decide) (fA_at (by omega)) ?_
  exact aw_aret dX6_fenceOf_14 rfl (by decide) (by decide) ⟨_, rfl, rfl, rfl, rfl⟩
set_option maxHeartbeats 4000000 in
set_option maxRecDepth 100000 in
theorem m_X6_fenceOf_x {n : Nat} {μ : AH} {D Fn : Nat} {spd lim : Int} (h0 : μ 0 = oO 6 [vR 1, vR 2, vR 3, vR 7, vR 22, vR 24, vR 26, vI (D : Int), vI (Fn : Int), vI spd, vI lim]) {i : Int} (hi : ¬ (0 ≤ i ∧ i < (Fn : Int))) : AMet YX6_fenceOf [vR 0, vI (i)] n μ (Tx n μ IX) := by
  refine AMet.of (by decide) rfl (Nat.le_of_ble_eq_true rfl) ?_
  refine aw_iload_n (q := 1) dX6_fenceOf_0 rfl rfl rfl ?_
  refine aw_aload_n (q := 2) dX6_fenceOf_1 rfl rfl rfl ?_
  refine aw_get (q := 5) dX6_fenceOf_2 rfl fl_X6_54 h0 rfl (fun _ => ?_)
  refine aw_callS [vI (i), vI ((Fn : Int))] (q := 8) dX6_fenceOf_5 rfl ck_X6_refuseNumber lk_X6_191 rfl ⟨Nat.le_of_ble_eq_true rfl, Nat.le_of_ble_eq_true rfl⟩ rfl rfl (Nat.le_of_ble_eq_true rfl) (by decide) (m_X6_refuseNumber_x hi) rfl (fun E9 n9 μ9 h9 => h9) ?_
  rintro v n9 μ9 - ⟨-, -, h9⟩
  cases h9
set_option maxHeartbeats 4000000 in
set_option maxRecDepth 100000 in
theorem m_X6_deviceWithPlace_t {n : Nat} {μ : AH} {D Fn : Nat} {spd lim : Int} (h0 : μ 0 = oO 6 [vR 1, vR 2, vR 3, vR 7, vR 22, vR 24, vR 26, vI (D : Int), vI (Fn : Int), vI spd, vI lim]) (h1 : μ 1 = oR 2 5 dA) {c : Nat} {f g h : Nat → Int} {tw : Int} {kc : Nat} {ka kb : Nat → Int} {d : Nat} (hD : DL μ (30 + 8 * d) c f g h tw kc ka kb) {i p : Int} (hi : i = (d : Int)) (hd : d < D) (hN : D ≤ 5) (hp : 0 ≤ p ∧ p < (c : Int)) : AMet YX6_deviceWithPlace [vR 0, vI (i), vI (p)] n μ (Pv n μ (vR (30 + 8 * d))) := by
  refine AMet.of (by decide) rfl (Nat.le_of_ble_eq_true rfl) ?_
  refine aw_aload_n (q := 1) dX6_deviceWithPlace_0 rfl rfl rfl ?_
  refine aw_iload_n (q := 2) dX6_deviceWithPlace_1 rfl rfl rfl ?_
  refine aw_callV [vI (i)] (q := 5) dX6_deviceWithPlace_2 rfl ck_X6_deviceOf lk_X6_69 rfl ⟨Nat.le_of_ble_eq_true rfl, Nat.le_of_ble_eq_true rfl⟩ rfl rfl h0 rfl (Nat.le_of_ble_eq_true rfl) (by decide) (m_X6_deviceOf_t h0 h1 hi hd hN) rfl (fun _ _ _ h => (Rt_x h).elim) ?_
  rintro v n9 μ9 - ⟨v9, hv9, rfl, rfl, rfl⟩
  obtain rfl := Sum.inl.inj hv9
  refine aw_astore_n (q := 6) dX6_deviceWithPlace_5 rfl rfl (by decide) ?_
  refine aw_iload_n (q := 7) dX6_deviceWithPlace_6 rfl rfl rfl ?_
  refine aw_aload_n (q := 8) dX6_deviceWithPlace_7 rfl rfl rfl ?_
  refine aw_get (q := 11) dX6_deviceWithPlace_8 rfl fl_X6_73 hD.1 rfl (fun _ => ?_)
  refine aw_get (q := 14) dX6_deviceWithPlace_11 rfl fl_X6_99 hD.2.1.1 rfl (fun _ => ?_)
  refine aw_callS [vI (p), vI ((c : Int))] (q := 17) dX6_deviceWithPlace_14 rfl ck_X6_refuseNumber lk_X6_191 rfl ⟨Nat.le_of_ble_eq_true rfl, Nat.le_of_ble_eq_true rfl⟩ rfl rfl (Nat.le_of_ble_eq_true rfl) (by decide) (m_X6_refuseNumber_t hp) rfl (fun _ _ _ h => (Vd_x h).elim) ?_
  rintro v n9 μ9 - ⟨hv9, rfl, rfl⟩
  obtain rfl := Sum.inl.inj hv9
  refine aw_aload_n (q := 18) dX6_deviceWithPlace_17 rfl rfl rfl ?_
  exact aw_aret dX6_deviceWithPlace_18 rfl (by decide) (by decide) ⟨_, rfl, rfl, rfl, rfl⟩
set_option maxHeartbeats 4000000 in
set_option maxRecDepth 100000 in
theorem m_X6_deviceWithPlace_y {n : Nat} {μ : AH} {D Fn : Nat} {spd lim : Int} (h0 : μ 0 = oO 6 [vR 1, vR 2, vR 3, vR 7, vR 22, vR 24, vR 26, vI (D : Int), vI (Fn : Int), vI spd, vI lim]) (h1 : μ 1 = oR 2 5 dA) {c : Nat} {f g h : Nat → Int} {tw : Int} {kc : Nat} {ka kb : Nat → Int} {d : Nat} (hD : DL μ (30 + 8 * d) c f g h tw kc ka kb) {i p : Int} (hi : i = (d : Int)) (hd : d < D) (hN : D ≤ 5) (hp : ¬ (0 ≤ p ∧ p < (c : Int))) : AMet YX6_deviceWithPlace [vR 0, vI (i), vI (p)] n μ (Tx n μ IX) := by
  refine AMet.of (by decide) rfl (Nat.le_of_ble_eq_true rfl) ?_
  refine aw_aload_n (q := 1) dX6_deviceWithPlace_0 rfl rfl rfl ?_
  refine aw_iload_n (q := 2) dX6_deviceWithPlace_1 rfl rfl rfl ?_
  refine aw_callV [vI (i)] (q := 5) dX6_deviceWithPlace_2 rfl ck_X6_deviceOf lk_X6_69 rfl ⟨Nat.le_of_ble_eq_true rfl, Nat.le_of_ble_eq_true rfl⟩ rfl rfl h0 rfl (Nat.le_of_ble_eq_true rfl) (by decide) (m_X6_deviceOf_t h0 h1 hi hd hN) rfl (fun _ _ _ h => (Rt_x h).elim) ?_
  rintro v n9 μ9 - ⟨v9, hv9, rfl, rfl, rfl⟩
  obtain rfl := Sum.inl.inj hv9
  refine aw_astore_n (q := 6) dX6_deviceWithPlace_5 rfl rfl (by decide) ?_
  refine aw_iload_n (q := 7) dX6_deviceWithPlace_6 rfl rfl rfl ?_
  refine aw_aload_n (q := 8) dX6_deviceWithPlace_7 rfl rfl rfl ?_
  refine aw_get (q := 11) dX6_deviceWithPlace_8 rfl fl_X6_73 hD.1 rfl (fun _ => ?_)
  refine aw_get (q := 14) dX6_deviceWithPlace_11 rfl fl_X6_99 hD.2.1.1 rfl (fun _ => ?_)
  refine aw_callS [vI (p), vI ((c : Int))] (q := 17) dX6_deviceWithPlace_14 rfl ck_X6_refuseNumber lk_X6_191 rfl ⟨Nat.le_of_ble_eq_true rfl, Nat.le_of_ble_eq_true rfl⟩ rfl rfl (Nat.le_of_ble_eq_true rfl) (by decide) (m_X6_refuseNumber_x hp) rfl (fun E9 n9 μ9 h9 => h9) ?_
  rintro v n9 μ9 - ⟨-, -, h9⟩
  cases h9
set_option maxHeartbeats 4000000 in
set_option maxRecDepth 100000 in
theorem m_X6_deviceWithPlace_x {n : Nat} {μ : AH} {D Fn : Nat} {spd lim : Int} (h0 : μ 0 = oO 6 [vR 1, vR 2, vR 3, vR 7, vR 22, vR 24, vR 26, vI (D : Int), vI (Fn : Int), vI spd, vI lim]) {i p : Int} (hi : ¬ (0 ≤ i ∧ i < (D : Int))) : AMet YX6_deviceWithPlace [vR 0, vI (i), vI (p)] n μ (Tx n μ IX) := by
  refine AMet.of (by decide) rfl (Nat.le_of_ble_eq_true rfl) ?_
  refine aw_aload_n (q := 1) dX6_deviceWithPlace_0 rfl rfl rfl ?_
  refine aw_iload_n (q := 2) dX6_deviceWithPlace_1 rfl rfl rfl ?_
  refine aw_callV [vI (i)] (q := 5) dX6_deviceWithPlace_2 rfl ck_X6_deviceOf lk_X6_69 rfl ⟨Nat.le_of_ble_eq_true rfl, Nat.le_of_ble_eq_true rfl⟩ rfl rfl h0 rfl (Nat.le_of_ble_eq_true rfl) (by decide) (m_X6_deviceOf_x h0 hi) rfl (fun E9 n9 μ9 h9 => h9) ?_
  rintro v n9 μ9 - ⟨-, -, h9⟩
  cases h9
