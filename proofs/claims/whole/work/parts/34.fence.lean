/-! ===== TrackRows$Fence (written by m_fence.py) ===== -/
/-- Fence at q: count c, xs f, ys g -/
def FE (μ : AH) (q c : Nat) (f g : Nat → Int) : Prop := μ q = oO 3 [vR (q + 1), vR (q + 2), vI (c : Int)] ∧ μ (q + 1) = oI 8 f ∧ μ (q + 2) = oI 8 g
abbrev EBd (c : Nat) (f g : Nat → Int) : Prop := ∀ p, p < c → -100000 ≤ f p ∧ f p ≤ 100000 ∧ -100000 ≤ g p ∧ g p ≤ 100000
def trn (f g : Nat → Int) (x y : Int) (a b : Nat) : Int := (f b - f a) * (y - g a) - (g b - g a) * (x - f a)
theorem mul_s {u w : Int} (B C : Int) (h1 : -B ≤ u ∧ u ≤ B) (h2 : -C ≤ w ∧ w ≤ C) : -(B * C) ≤ u * w ∧ u * w ≤ B * C := by
  have hB : 0 ≤ B := by omega
  have hC : 0 ≤ C := by omega
  rcases Int.le_total 0 u with hu | hu <;> rcases Int.le_total 0 w with hw | hw
  · have := mul_b B C hu h1.2 hw h2.2; omega
  · have := mul_b (u := u) (w := -w) B C hu h1.2 (by omega) (by omega)
    rw [Int.mul_neg] at this; omega
  · have := mul_b (u := -u) (w := w) B C (by omega) (by omega) hw h2.2
    rw [Int.neg_mul] at this; omega
  · have := mul_b (u := -u) (w := -w) B C (by omega) (by omega) (by omega) (by omega)
    rw [Int.neg_mul_neg] at this; omega
abbrev bsd (f g : Nat → Int) (x y : Int) (a b : Nat) : Prop := min (f a) (f b) ≤ x ∧ x ≤ max (f a) (f b) ∧ min (g a) (g b) ≤ y ∧ y ≤ max (g a) (g b)
abbrev onS (f g : Nat → Int) (x y : Int) (a b : Nat) : Prop := trn f g x y a b = 0 ∧ bsd f g x y a b
abbrev pasS (f g : Nat → Int) (x y : Int) (a b : Nat) : Prop := ¬ (y < g a ↔ y < g b) ∧ (y < g b ↔ 0 < trn f g x y a b)
def nxt (c k : Nat) : Nat := if k + 1 < c then k + 1 else 0
/-- whether an odd number of 0, 1, .. below k -/
def par (P : Nat → Prop) [DecidablePred P] : Nat → Bool
  | 0 => false
  | k + 1 => (par P k) != (decide (P k))
/-- a point is in a fence -/
def inF (c : Nat) (f g : Nat → Int) (x y : Int) : Prop := 3 ≤ c ∧ ((∃ k, k < c ∧ onS f g x y k (nxt c k)) ∨ par (fun k => pasS f g x y k (nxt c k)) c = true)
theorem bz_eqi {P P' : Prop} [Decidable P] [Decidable P'] : bz P = bz P' ↔ (P ↔ P') := by
  by_cases p : P <;> by_cases p' : P' <;> simp [bz, p, p']
theorem par_t {P : Nat → Prop} [DecidablePred P] {k : Nat} (h : P k) : par P (k + 1) = !(par P k) := by
  show ((par P k) != (decide (P k))) = _
  rw [decide_eq_true h]
  cases par P k <;> rfl
theorem par_f {P : Nat → Prop} [DecidablePred P] {k : Nat} (h : ¬ P k) : par P (k + 1) = par P k := by
  show ((par P k) != (decide (P k))) = _
  rw [decide_eq_false h]
  cases par P k <;> rfl
/-- 1 for true -/
def b2z (b : Bool) : Int := if b then 1 else 0
set_option maxHeartbeats 4000000 in
set_option maxRecDepth 100000 in
theorem m_X3_append {n : Nat} {μ : AH} {q c : Nat} {f g : Nat → Int} {x y : Int} (hc : c < 8) (hE : FE μ q c f g) : AMet YX3_append [vR q, vI (x), vI (y)] n μ (Vd (fun n' μ' => n' = n ∧ FE μ' q (c + 1) (fu f c x) (fu g c y) ∧ Fr [q, q + 1, q + 2] μ μ')) := by
  refine AMet.of (by decide) rfl (Nat.le_of_ble_eq_true rfl) ?_
  refine aw_aload_n (q := 1) dX3_append_0 rfl rfl rfl ?_
  refine aw_get (q := 4) dX3_append_1 rfl fl_X3_18 hE.1 rfl (fun _ => ?_)
  refine aw_bipush (q := 6) dX3_append_4 rfl (by decide) (by omega) ?_
  refine aw_ic_lt (t := 10) (q := 9) dX3_append_6 rfl (by decide) (fun b1 => ?_) (fun b1 => ?_)
  · skip
    refine aw_aload_n (q := 11) dX3_append_10 rfl rfl rfl ?_
    refine aw_get (q := 14) dX3_append_11 rfl fl_X3_9 hE.1 rfl (fun _ => ?_)
    refine aw_aload_n (q := 15) dX3_append_14 rfl rfl rfl ?_
    refine aw_get (q := 18) dX3_append_15 rfl fl_X3_18 hE.1 rfl (fun _ => ?_)
    refine aw_iload_n (q := 19) dX3_append_18 rfl rfl rfl ?_
    refine aw_iastore (j := c) (q := 20) dX3_append_19 rfl hE.2.1 (by omega) (by omega) ?_
    refine aw_aload_n (q := 21) dX3_append_20 rfl rfl rfl ?_
    refine aw_get (q := 24) dX3_append_21 rfl fl_X3_15 ((hu_n (by omega)).trans hE.1) rfl (fun _ => ?_)
    refine aw_aload_n (q := 25) dX3_append_24 rfl rfl rfl ?_
    refine aw_get (q := 28) dX3_append_25 rfl fl_X3_18 ((hu_n (by omega)).trans hE.1) rfl (fun _ => ?_)
    refine aw_iload_n (q := 29) dX3_append_28 rfl rfl rfl ?_
    refine aw_iastore (j := c) (q := 30) dX3_append_29 rfl ((hu_n (by omega)).trans hE.2.2) (by omega) (by omega) ?_
    refine aw_aload_n (q := 31) dX3_append_30 rfl rfl rfl ?_
    refine aw_dup (q := 32) dX3_append_31 rfl rfl ?_
    refine aw_get (q := 35) dX3_append_32 rfl fl_X3_18 ((hu_n (by omega)).trans ((hu_n (by omega)).trans hE.1)) rfl (fun _ => ?_)
    refine aw_iconst (q := 36) dX3_append_35 rfl (by omega) ?_
    refine aw_iadd (q := 37) dX3_append_36 rfl (by omega) ?_
    refine aw_put (q := 40) dX3_append_37 rfl fp_X3_18 ((hu_n (by omega)).trans ((hu_n (by omega)).trans hE.1)) (Nat.le_of_ble_eq_true rfl) trivial ?_
    exact aw_vret dX3_append_40 rfl (by decide) (by decide) ⟨rfl, rfl, ⟨hu_s, ((hu_n (by omega)).trans ((hu_n (by omega)).trans hu_s)), ((hu_n (by omega)).trans hu_s)⟩, (Fr_hu (Fr_hu (Fr_hu Fr_rf (by simp)) (by simp)) (by simp))⟩
  · skip
    exact absurd b1 (by omega)
set_option maxHeartbeats 4000000 in
set_option maxRecDepth 100000 in
theorem m_X3_turn {n : Nat} {μ : AH} {q c : Nat} {f g : Nat → Int} {a b : Nat} {u v x y : Int} (hu9 : u = (a : Int)) (hv : v = (b : Int)) (ha : a < c) (hb9 : b < c) (hb : EBd c f g) (hxy : -100000 ≤ x ∧ x ≤ 100000 ∧ -100000 ≤ y ∧ y ≤ 100000) (hE : FE μ q c f g) (hc : c ≤ 8) : AMet YX3_turn [vR q, vI (u), vI (v), vI (x), vI (y)] n μ (Pv n μ (vL (trn f g x y a b))) := by
  refine AMet.of (by decide) rfl (Nat.le_of_ble_eq_true rfl) ?_
  have h1 := hb a (by omega)
  have h2 := hb b (by omega)
  have m1 := mul_s (u := f b - f a) (w := y - g a) 200000 200000 (by omega) (by omega)
  have m2 := mul_s (u := g b - g a) (w := x - f a) 200000 200000 (by omega) (by omega)
  refine aw_aload_n (q := 1) dX3_turn_0 rfl rfl rfl ?_
  refine aw_get (q := 4) dX3_turn_1 rfl fl_X3_9 hE.1 rfl (fun _ => ?_)
  refine aw_iload_n (q := 5) dX3_turn_4 rfl rfl rfl ?_
  refine aw_iaload (j := b) (q := 6) dX3_turn_5 rfl hE.2.1 (by omega) (by omega) (fun r1 => ?_)
  refine aw_aload_n (q := 7) dX3_turn_6 rfl rfl rfl ?_
  refine aw_get (q := 10) dX3_turn_7 rfl fl_X3_9 hE.1 rfl (fun _ => ?_)
  refine aw_iload_n (q := 11) dX3_turn_10 rfl rfl rfl ?_
  refine aw_iaload (j := a) (q := 12) dX3_turn_11 rfl hE.2.1 (by omega) (by omega) (fun r2 => ?_)
  refine aw_isub (q := 13) dX3_turn_12 rfl (by omega) ?_
  refine aw_i2l (q := 14) dX3_turn_13 rfl ?_
  refine aw_lstore (q := 16) dX3_turn_14 rfl (by decide) ?_
  refine aw_aload_n (q := 17) dX3_turn_16 rfl rfl rfl ?_
  refine aw_get (q := 20) dX3_turn_17 rfl fl_X3_15 hE.1 rfl (fun _ => ?_)
  refine aw_iload_n (q := 21) dX3_turn_20 rfl rfl rfl ?_
  refine aw_iaload (j := b) (q := 22) dX3_turn_21 rfl hE.2.2 (by omega) (by omega) (fun r3 => ?_)
  refine aw_aload_n (q := 23) dX3_turn_22 rfl rfl rfl ?_
  refine aw_get (q := 26) dX3_turn_23 rfl fl_X3_15 hE.1 rfl (fun _ => ?_)
  refine aw_iload_n (q := 27) dX3_turn_26 rfl rfl rfl ?_
  refine aw_iaload (j := a) (q := 28) dX3_turn_27 rfl hE.2.2 (by omega) (by omega) (fun r4 => ?_)
  refine aw_isub (q := 29) dX3_turn_28 rfl (by omega) ?_
  refine aw_i2l (q := 30) dX3_turn_29 rfl ?_
  refine aw_lstore (q := 32) dX3_turn_30 rfl (by decide) ?_
  refine aw_lload (q := 34) dX3_turn_32 rfl rfl ?_
  refine aw_iload (q := 36) dX3_turn_34 rfl rfl ?_
  refine aw_aload_n (q := 37) dX3_turn_36 rfl rfl rfl ?_
  refine aw_get (q := 40) dX3_turn_37 rfl fl_X3_15 hE.1 rfl (fun _ => ?_)
  refine aw_iload_n (q := 41) dX3_turn_40 rfl rfl rfl ?_
  refine aw_iaload (j := a) (q := 42) dX3_turn_41 rfl hE.2.2 (by omega) (by omega) (fun r5 => ?_)
  refine aw_isub (q := 43) dX3_turn_42 rfl (by omega) ?_
  refine aw_i2l (q := 44) dX3_turn_43 rfl ?_
  refine aw_lmul (q := 45) dX3_turn_44 rfl (by omega) ?_
  refine aw_lload (q := 47) dX3_turn_45 rfl rfl ?_
  refine aw_iload_n (q := 48) dX3_turn_47 rfl rfl rfl ?_
  refine aw_aload_n (q := 49) dX3_turn_48 rfl rfl rfl ?_
  refine aw_get (q := 52) dX3_turn_49 rfl fl_X3_9 hE.1 rfl (fun _ => ?_)
  refine aw_iload_n (q := 53) dX3_turn_52 rfl rfl rfl ?_
  refine aw_iaload (j := a) (q := 54) dX3_turn_53 rfl hE.2.1 (by omega) (by omega) (fun r6 => ?_)
  refine aw_isub (q := 55) dX3_turn_54 rfl (by omega) ?_
  refine aw_i2l (q := 56) dX3_turn_55 rfl ?_
  refine aw_lmul (q := 57) dX3_turn_56 rfl (by omega) ?_
  refine aw_lsub (q := 58) dX3_turn_57 rfl (by omega) ?_
  exact aw_lret dX3_turn_58 rfl (by decide) (by decide) ⟨_, rfl, rfl, rfl, rfl⟩
set_option maxHeartbeats 4000000 in
set_option maxRecDepth 100000 in
theorem m_X3_isBeside {n : Nat} {μ : AH} {q c : Nat} {f g : Nat → Int} {a b : Nat} {u v x y : Int} (hu9 : u = (a : Int)) (hv : v = (b : Int)) (ha : a < c) (hb9 : b < c) (hb : EBd c f g) (hxy : -100000 ≤ x ∧ x ≤ 100000 ∧ -100000 ≤ y ∧ y ≤ 100000) (hE : FE μ q c f g) (hc : c ≤ 8) : AMet YX3_isBeside [vR q, vI (u), vI (v), vI (x), vI (y)] n μ (Pv n μ (vI (bz (bsd f g x y a b)))) := by
  refine AMet.of (by decide) rfl (Nat.le_of_ble_eq_true rfl) ?_
  refine aw_iload_n (q := 1) dX3_isBeside_0 rfl rfl rfl ?_
  refine aw_aload_n (q := 2) dX3_isBeside_1 rfl rfl rfl ?_
  refine aw_get (q := 5) dX3_isBeside_2 rfl fl_X3_9 hE.1 rfl (fun _ => ?_)
  refine aw_iload_n (q := 6) dX3_isBeside_5 rfl rfl rfl ?_
  refine aw_iaload (j := a) (q := 7) dX3_isBeside_6 rfl hE.2.1 (by omega) (by omega) (fun r1 => ?_)
  refine aw_aload_n (q := 8) dX3_isBeside_7 rfl rfl rfl ?_
  refine aw_get (q := 11) dX3_isBeside_8 rfl fl_X3_9 hE.1 rfl (fun _ => ?_)
  refine aw_iload_n (q := 12) dX3_isBeside_11 rfl rfl rfl ?_
  refine aw_iaload (j := b) (q := 13) dX3_isBeside_12 rfl hE.2.1 (by omega) (by omega) (fun r2 => ?_)
  refine aw_min (q := 16) dX3_isBeside_13 rfl lk_X3_30 (by decide) (Nat.le_of_ble_eq_true rfl) (by decide) (by decide) ?_
  refine aw_ic_lt (t := 82) (q := 19) dX3_isBeside_16 rfl (by decide) (fun b3 => ?_) (fun b3 => ?_)
  · skip
    refine aw_iconst (q := 83) dX3_isBeside_82 rfl (by omega) ?_
    exact aw_zret dX3_isBeside_83 rfl (Or.inl rfl) (by decide) (by decide) ⟨_, rfl, rfl, rfl, congrArg vI (bz_f (by omega)).symm⟩
  · skip
    refine aw_iload_n (q := 20) dX3_isBeside_19 rfl rfl rfl ?_
    refine aw_aload_n (q := 21) dX3_isBeside_20 rfl rfl rfl ?_
    refine aw_get (q := 24) dX3_isBeside_21 rfl fl_X3_9 hE.1 rfl (fun _ => ?_)
    refine aw_iload_n (q := 25) dX3_isBeside_24 rfl rfl rfl ?_
    refine aw_iaload (j := a) (q := 26) dX3_isBeside_25 rfl hE.2.1 (by omega) (by omega) (fun r4 => ?_)
    refine aw_aload_n (q := 27) dX3_isBeside_26 rfl rfl rfl ?_
    refine aw_get (q := 30) dX3_isBeside_27 rfl fl_X3_9 hE.1 rfl (fun _ => ?_)
    refine aw_iload_n (q := 31) dX3_isBeside_30 rfl rfl rfl ?_
    refine aw_iaload (j := b) (q := 32) dX3_isBeside_31 rfl hE.2.1 (by omega) (by omega) (fun r5 => ?_)
    refine aw_max (q := 35) dX3_isBeside_32 rfl lk_X3_36 (by decide) (Nat.le_of_ble_eq_true rfl) (by decide) (by decide) ?_
    refine aw_ic_gt (t := 82) (q := 38) dX3_isBeside_35 rfl (by decide) (fun b6 => ?_) (fun b6 => ?_)
    · skip
      refine aw_iconst (q := 83) dX3_isBeside_82 rfl (by omega) ?_
      exact aw_zret dX3_isBeside_83 rfl (Or.inl rfl) (by decide) (by decide) ⟨_, rfl, rfl, rfl, congrArg vI (bz_f (by omega)).symm⟩
    · skip
      refine aw_iload (q := 40) dX3_isBeside_38 rfl rfl ?_
      refine aw_aload_n (q := 41) dX3_isBeside_40 rfl rfl rfl ?_
      refine aw_get (q := 44) dX3_isBeside_41 rfl fl_X3_15 hE.1 rfl (fun _ => ?_)
      refine aw_iload_n (q := 45) dX3_isBeside_44 rfl rfl rfl ?_
      refine aw_iaload (j := a) (q := 46) dX3_isBeside_45 rfl hE.2.2 (by omega) (by omega) (fun r7 => ?_)
      refine aw_aload_n (q := 47) dX3_isBeside_46 rfl rfl rfl ?_
      refine aw_get (q := 50) dX3_isBeside_47 rfl fl_X3_15 hE.1 rfl (fun _ => ?_)
      refine aw_iload_n (q := 51) dX3_isBeside_50 rfl rfl rfl ?_
      refine aw_iaload (j := b) (q := 52) dX3_isBeside_51 rfl hE.2.2 (by omega) (by omega) (fun r8 => ?_)
      refine aw_min (q := 55) dX3_isBeside_52 rfl lk_X3_30 (by decide) (Nat.le_of_ble_eq_true rfl) (by decide) (by decide) ?_
      refine aw_ic_lt (t := 82) (q := 58) dX3_isBeside_55 rfl (by decide) (fun b9 => ?_) (fun b9 => ?_)
      · skip
        refine aw_iconst (q := 83) dX3_isBeside_82 rfl (by omega) ?_
        exact aw_zret dX3_isBeside_83 rfl (Or.inl rfl) (by decide) (by decide) ⟨_, rfl, rfl, rfl, congrArg vI (bz_f (by omega)).symm⟩
      · skip
        refine aw_iload (q := 60) dX3_isBeside_58 rfl rfl ?_
        refine aw_aload_n (q := 61) dX3_isBeside_60 rfl rfl rfl ?_
        refine aw_get (q := 64) dX3_isBeside_61 rfl fl_X3_15 hE.1 rfl (fun _ => ?_)
        refine aw_iload_n (q := 65) dX3_isBeside_64 rfl rfl rfl ?_
        refine aw_iaload (j := a) (q := 66) dX3_isBeside_65 rfl hE.2.2 (by omega) (by omega) (fun r10 => ?_)
        refine aw_aload_n (q := 67) dX3_isBeside_66 rfl rfl rfl ?_
        refine aw_get (q := 70) dX3_isBeside_67 rfl fl_X3_15 hE.1 rfl (fun _ => ?_)
        refine aw_iload_n (q := 71) dX3_isBeside_70 rfl rfl rfl ?_
        refine aw_iaload (j := b) (q := 72) dX3_isBeside_71 rfl hE.2.2 (by omega) (by omega) (fun r11 => ?_)
        refine aw_max (q := 75) dX3_isBeside_72 rfl lk_X3_36 (by decide) (Nat.le_of_ble_eq_true rfl) (by decide) (by decide) ?_
        refine aw_ic_gt (t := 82) (q := 78) dX3_isBeside_75 rfl (by decide) (fun b12 => ?_) (fun b12 => ?_)
        · skip
          refine aw_iconst (q := 83) dX3_isBeside_82 rfl (by omega) ?_
          exact aw_zret dX3_isBeside_83 rfl (Or.inl rfl) (by decide) (by decide) ⟨_, rfl, rfl, rfl, congrArg vI (bz_f (by omega)).symm⟩
        · skip
          refine aw_iconst (q := 79) dX3_isBeside_78 rfl (by omega) ?_
          refine aw_goto (q := 83) dX3_isBeside_79 (by decide) ?_
          exact aw_zret dX3_isBeside_83 rfl (Or.inr rfl) (by decide) (by decide) ⟨_, rfl, rfl, rfl, congrArg vI (bz_t (by omega)).symm⟩
set_option maxHeartbeats 4000000 in
set_option maxRecDepth 100000 in
theorem m_X3_holds {n : Nat} {μ : AH} {q c : Nat} {f g : Nat → Int} {x y : Int} (hb : EBd c f g) (hxy : -100000 ≤ x ∧ x ≤ 100000 ∧ -100000 ≤ y ∧ y ≤ 100000) (hE : FE μ q c f g) (hc : c ≤ 8) : AMet YX3_holds [vR q, vI (x), vI (y)] n μ (Rt (fun v n' μ' => n' = n ∧ μ' = μ ∧ ((v = vI 1 ∧ inF c f g x y) ∨ (v = vI 0 ∧ ¬ inF c f g x y)))) := by
  refine AMet.of (by decide) rfl (Nat.le_of_ble_eq_true rfl) ?_
  have loop : 3 ≤ c → ∀ (j k : Nat) (kx od : Int), c - k < j → kx = (k : Int) → k ≤ c → od = b2z (par (fun k => pasS f g x y k (nxt c k)) k) → (∀ k9, k9 < k → ¬ onS f g x y k9 (nxt c k9)) → AW YX3_holds none (Rt (fun v n' μ' => n' = n ∧ μ' = μ ∧ ((v = vI 1 ∧ inF c f g x y) ∨ (v = vI 0 ∧ ¬ inF c f g x y)))) 15 [some (vR q), some (vI (x)), some (vI (y)), some (vI (od)), some (vI (kx)), none, none, none, none, none] [] n μ 0 0 := by
    intro h3 j
    induction j with
    | zero => intro k kx od hj; exact absurd hj (Nat.not_lt_zero _)
    | succ j ih =>
      intro k kx od hj hk hkc hod hno
      have j43 : ∀ (nv : Int) (b : Nat), nv = (b : Int) → k < c ∧ b < c → b = nxt c k → AW YX3_holds none (Rt (fun v n' μ' => n' = n ∧ μ' = μ ∧ ((v = vI 1 ∧ inF c f g x y) ∨ (v = vI 0 ∧ ¬ inF c f g x y)))) 43 [some (vR q), some (vI (x)), some (vI (y)), some (vI (od)), some (vI (kx)), none, none, none, none, none] [vI nv] n μ 0 0 := by
        intro nv b hnv hbc hbn
        have j79 : ¬ onS f g x y k b → AW YX3_holds none (Rt (fun v n' μ' => n' = n ∧ μ' = μ ∧ ((v = vI 1 ∧ inF c f g x y) ∨ (v = vI 0 ∧ ¬ inF c f g x y)))) 79 [some (vR q), some (vI (x)), some (vI (y)), some (vI (od)), some (vI (kx)), some (vI (nv)), some (vL (trn f g x y k b)), none, none, none] [] n μ 0 0 := by
          intro hnS
          have hnoS : ∀ k9, k9 < k + 1 → ¬ onS f g x y k9 (nxt c k9) := fun k9 h9 => by
            rcases Nat.lt_succ_iff_lt_or_eq.mp h9 with h8 | h8
            · exact hno k9 h8
            · rw [h8, ← hbn]; exact hnS
          have j113 : ∀ v8 v9 : Int, v8 = bz (y < g k) → v9 = bz (y < g b) → AW YX3_holds none (Rt (fun v n' μ' => n' = n ∧ μ' = μ ∧ ((v = vI 1 ∧ inF c f g x y) ∨ (v = vI 0 ∧ ¬ inF c f g x y)))) 113 [some (vR q), some (vI (x)), some (vI (y)), some (vI (od)), some (vI (kx)), some (vI (nv)), some (vL (trn f g x y k b)), none, some (vI (v8)), none] [vI v9] n μ 0 0 := by
            intro v8 v9 h8 h9
            refine aw_istore (q := 115) dX3_holds_113 rfl (by decide) ?_
            refine aw_iload (q := 117) dX3_holds_115 rfl rfl ?_
            refine aw_iload (q := 119) dX3_holds_117 rfl rfl ?_
            refine aw_ic_eq (t := 149) (q := 122) dX3_holds_119 rfl (by decide) (fun b1 => ?_) (fun b1 => ?_)
            · skip
              have same : od = b2z (par (fun k => pasS f g x y k (nxt c k)) (k + 1)) := by
                rw [par_f (P := (fun k => pasS f g x y k (nxt c k))) (show ¬ pasS f g x y k (nxt c k) by rw [← hbn]; first | exact fun hp => hp.1 (bz_eqi.mp (by rw [← h8, ← h9]; assumption)) | exact fun hp => absurd ((bz_eqi.mpr hp.2).symm.trans h9.symm).symm (by first | assumption | exact fun e => absurd e.symm (by assumption) | (rw [bz_t (by omega)]; assumption) | (rw [bz_f (by omega)]; assumption)))]
                exact hod
              refine aw_iinc (q := 152) dX3_holds_149 rfl rfl (by decide) (by omega) ?_
              refine aw_goto (q := 15) dX3_holds_152 (by decide) ?_
              refine aw_ls (ls := [some (vR q), some (vI (x)), some (vI (y)), some (vI (od)), some (vI (kx + 1)), none, none, none, none, none]) ⟨rfl, ⟨rfl, ⟨rfl, ⟨rfl, ⟨rfl, trivial⟩⟩⟩⟩⟩ ?_
              exact ih (k + 1) _ _ (by omega) (by omega) (by omega) (same) hnoS
            · skip
              refine aw_iload (q := 124) dX3_holds_122 rfl rfl ?_
              refine aw_lload (q := 126) dX3_holds_124 rfl rfl ?_
              refine aw_lconst (a := 0) (q := 127) dX3_holds_126 rfl rfl (by omega) ?_
              refine aw_lcmp (q := 128) dX3_holds_127 rfl ?_
              refine aw_if_le (t := 135) (q := 131) dX3_holds_128 rfl (by decide) (fun b2 => ?_) (fun b2 => ?_)
              · skip
                replace b2 := cmpz_le.mp b2
                refine aw_iconst (q := 136) dX3_holds_135 rfl (by omega) ?_
                refine aw_ic_ne (t := 149) (q := 139) dX3_holds_136 rfl (by decide) (fun b3 => ?_) (fun b3 => ?_)
                · skip
                  have same : od = b2z (par (fun k => pasS f g x y k (nxt c k)) (k + 1)) := by
                    rw [par_f (P := (fun k => pasS f g x y k (nxt c k))) (show ¬ pasS f g x y k (nxt c k) by rw [← hbn]; first | exact fun hp => hp.1 (bz_eqi.mp (by rw [← h8, ← h9]; assumption)) | exact fun hp => absurd ((bz_eqi.mpr hp.2).symm.trans h9.symm).symm (by first | assumption | exact fun e => absurd e.symm (by assumption) | (rw [bz_t (by omega)]; assumption) | (rw [bz_f (by omega)]; assumption)))]
                    exact hod
                  refine aw_iinc (q := 152) dX3_holds_149 rfl rfl (by decide) (by omega) ?_
                  refine aw_goto (q := 15) dX3_holds_152 (by decide) ?_
                  refine aw_ls (ls := [some (vR q), some (vI (x)), some (vI (y)), some (vI (od)), some (vI (kx + 1)), none, none, none, none, none]) ⟨rfl, ⟨rfl, ⟨rfl, ⟨rfl, ⟨rfl, trivial⟩⟩⟩⟩⟩ ?_
                  exact ih (k + 1) _ _ (by omega) (by omega) (by omega) (same) hnoS
                · skip
                  refine aw_iload_n (q := 140) dX3_holds_139 rfl rfl rfl ?_
                  refine aw_if_ne (t := 147) (q := 143) dX3_holds_140 rfl (by decide) (fun b4 => ?_) (fun b4 => ?_)
                  · skip
                    refine aw_iconst (q := 148) dX3_holds_147 rfl (by omega) ?_
                    refine aw_istore_n (q := 149) dX3_holds_148 rfl rfl (by decide) ?_
                    have todd : (0 : Int) = b2z (par (fun k => pasS f g x y k (nxt c k)) (k + 1)) := by
                      rw [par_t (P := (fun k => pasS f g x y k (nxt c k))) (show pasS f g x y k (nxt c k) by rw [← hbn]; exact ⟨fun hp => absurd (h8.trans ((bz_eqi.mpr hp).trans h9.symm)) (by assumption), bz_eqi.mp (h9.symm.trans (by first | (rw [bz_t (by omega)]; assumption) | (rw [bz_f (by omega)]; assumption)))⟩)]
                      unfold b2z at hod ⊢; revert hod; cases par (fun k => pasS f g x y k (nxt c k)) k <;> intro hod <;> simp at hod ⊢ <;> omega
                    refine aw_iinc (q := 152) dX3_holds_149 rfl rfl (by decide) (by omega) ?_
                    refine aw_goto (q := 15) dX3_holds_152 (by decide) ?_
                    refine aw_ls (ls := [some (vR q), some (vI (x)), some (vI (y)), some (vI (0)), some (vI (kx + 1)), none, none, none, none, none]) ⟨rfl, ⟨rfl, ⟨rfl, ⟨rfl, ⟨rfl, trivial⟩⟩⟩⟩⟩ ?_
                    exact ih (k + 1) _ _ (by omega) (by omega) (by omega) (todd) hnoS
                  · skip
                    refine aw_iconst (q := 144) dX3_holds_143 rfl (by omega) ?_
                    refine aw_goto (q := 148) dX3_holds_144 (by decide) ?_
                    refine aw_istore_n (q := 149) dX3_holds_148 rfl rfl (by decide) ?_
                    have todd : (1 : Int) = b2z (par (fun k => pasS f g x y k (nxt c k)) (k + 1)) := by
                      rw [par_t (P := (fun k => pasS f g x y k (nxt c k))) (show pasS f g x y k (nxt c k) by rw [← hbn]; exact ⟨fun hp => absurd (h8.trans ((bz_eqi.mpr hp).trans h9.symm)) (by assumption), bz_eqi.mp (h9.symm.trans (by first | (rw [bz_t (by omega)]; assumption) | (rw [bz_f (by omega)]; assumption)))⟩)]
                      unfold b2z at hod ⊢; revert hod; cases par (fun k => pasS f g x y k (nxt c k)) k <;> intro hod <;> simp at hod ⊢ <;> omega
                    refine aw_iinc (q := 152) dX3_holds_149 rfl rfl (by decide) (by omega) ?_
                    refine aw_goto (q := 15) dX3_holds_152 (by decide) ?_
                    refine aw_ls (ls := [some (vR q), some (vI (x)), some (vI (y)), some (vI (1)), some (vI (kx + 1)), none, none, none, none, none]) ⟨rfl, ⟨rfl, ⟨rfl, ⟨rfl, ⟨rfl, trivial⟩⟩⟩⟩⟩ ?_
                    exact ih (k + 1) _ _ (by omega) (by omega) (by omega) (todd) hnoS
              · skip
                replace b2 := mt cmpz_le.mpr b2
                refine aw_iconst (q := 132) dX3_holds_131 rfl (by omega) ?_
                refine aw_goto (q := 136) dX3_holds_132 (by decide) ?_
                refine aw_ic_ne (t := 149) (q := 139) dX3_holds_136 rfl (by decide) (fun b5 => ?_) (fun b5 => ?_)
                · skip
                  have same : od = b2z (par (fun k => pasS f g x y k (nxt c k)) (k + 1)) := by
                    rw [par_f (P := (fun k => pasS f g x y k (nxt c k))) (show ¬ pasS f g x y k (nxt c k) by rw [← hbn]; first | exact fun hp => hp.1 (bz_eqi.mp (by rw [← h8, ← h9]; assumption)) | exact fun hp => absurd ((bz_eqi.mpr hp.2).symm.trans h9.symm).symm (by first | assumption | exact fun e => absurd e.symm (by assumption) | (rw [bz_t (by omega)]; assumption) | (rw [bz_f (by omega)]; assumption)))]
                    exact hod
                  refine aw_iinc (q := 152) dX3_holds_149 rfl rfl (by decide) (by omega) ?_
                  refine aw_goto (q := 15) dX3_holds_152 (by decide) ?_
                  refine aw_ls (ls := [some (vR q), some (vI (x)), some (vI (y)), some (vI (od)), some (vI (kx + 1)), none, none, none, none, none]) ⟨rfl, ⟨rfl, ⟨rfl, ⟨rfl, ⟨rfl, trivial⟩⟩⟩⟩⟩ ?_
                  exact ih (k + 1) _ _ (by omega) (by omega) (by omega) (same) hnoS
                · skip
                  refine aw_iload_n (q := 140) dX3_holds_139 rfl rfl rfl ?_
                  refine aw_if_ne (t := 147) (q := 143) dX3_holds_140 rfl (by decide) (fun b6 => ?_) (fun b6 => ?_)
                  · skip
                    refine aw_iconst (q := 148) dX3_holds_147 rfl (by omega) ?_
                    refine aw_istore_n (q := 149) dX3_holds_148 rfl rfl (by decide) ?_
                    have todd : (0 : Int) = b2z (par (fun k => pasS f g x y k (nxt c k)) (k + 1)) := by
                      rw [par_t (P := (fun k => pasS f g x y k (nxt c k))) (show pasS f g x y k (nxt c k) by rw [← hbn]; exact ⟨fun hp => absurd (h8.trans ((bz_eqi.mpr hp).trans h9.symm)) (by assumption), bz_eqi.mp (h9.symm.trans (by first | (rw [bz_t (by omega)]; assumption) | (rw [bz_f (by omega)]; assumption)))⟩)]
                      unfold b2z at hod ⊢; revert hod; cases par (fun k => pasS f g x y k (nxt c k)) k <;> intro hod <;> simp at hod ⊢ <;> omega
                    refine aw_iinc (q := 152) dX3_holds_149 rfl rfl (by decide) (by omega) ?_
                    refine aw_goto (q := 15) dX3_holds_152 (by decide) ?_
                    refine aw_ls (ls := [some (vR q), some (vI (x)), some (vI (y)), some (vI (0)), some (vI (kx + 1)), none, none, none, none, none]) ⟨rfl, ⟨rfl, ⟨rfl, ⟨rfl, ⟨rfl, trivial⟩⟩⟩⟩⟩ ?_
                    exact ih (k + 1) _ _ (by omega) (by omega) (by omega) (todd) hnoS
                  · skip
                    refine aw_iconst (q := 144) dX3_holds_143 rfl (by omega) ?_
                    refine aw_goto (q := 148) dX3_holds_144 (by decide) ?_
                    refine aw_istore_n (q := 149) dX3_holds_148 rfl rfl (by decide) ?_
                    have todd : (1 : Int) = b2z (par (fun k => pasS f g x y k (nxt c k)) (k + 1)) := by
                      rw [par_t (P := (fun k => pasS f g x y k (nxt c k))) (show pasS f g x y k (nxt c k) by rw [← hbn]; exact ⟨fun hp => absurd (h8.trans ((bz_eqi.mpr hp).trans h9.symm)) (by assumption), bz_eqi.mp (h9.symm.trans (by first | (rw [bz_t (by omega)]; assumption) | (rw [bz_f (by omega)]; assumption)))⟩)]
                      unfold b2z at hod ⊢; revert hod; cases par (fun k => pasS f g x y k (nxt c k)) k <;> intro hod <;> simp at hod ⊢ <;> omega
                    refine aw_iinc (q := 152) dX3_holds_149 rfl rfl (by decide) (by omega) ?_
                    refine aw_goto (q := 15) dX3_holds_152 (by decide) ?_
                    refine aw_ls (ls := [some (vR q), some (vI (x)), some (vI (y)), some (vI (1)), some (vI (kx + 1)), none, none, none, none, none]) ⟨rfl, ⟨rfl, ⟨rfl, ⟨rfl, ⟨rfl, trivial⟩⟩⟩⟩⟩ ?_
                    exact ih (k + 1) _ _ (by omega) (by omega) (by omega) (todd) hnoS
          have j95 : ∀ v8 : Int, v8 = bz (y < g k) → AW YX3_holds none (Rt (fun v n' μ' => n' = n ∧ μ' = μ ∧ ((v = vI 1 ∧ inF c f g x y) ∨ (v = vI 0 ∧ ¬ inF c f g x y)))) 95 [some (vR q), some (vI (x)), some (vI (y)), some (vI (od)), some (vI (kx)), some (vI (nv)), some (vL (trn f g x y k b)), none, none, none] [vI v8] n μ 0 0 := by
            intro v8 h8
            refine aw_istore (q := 97) dX3_holds_95 rfl (by decide) ?_
            refine aw_aload_n (q := 98) dX3_holds_97 rfl rfl rfl ?_
            refine aw_get (q := 101) dX3_holds_98 rfl fl_X3_15 hE.1 rfl (fun _ => ?_)
            refine aw_iload (q := 103) dX3_holds_101 rfl rfl ?_
            refine aw_iaload (j := b) (q := 104) dX3_holds_103 rfl hE.2.2 (by omega) (by omega) (fun r1 => ?_)
            refine aw_iload_n (q := 105) dX3_holds_104 rfl rfl rfl ?_
            refine aw_ic_le (t := 112) (q := 108) dX3_holds_105 rfl (by decide) (fun b2 => ?_) (fun b2 => ?_)
            · skip
              refine aw_iconst (q := 113) dX3_holds_112 rfl (by omega) ?_
              exact j113 _ _ h8 (bz_f (by omega)).symm
            · skip
              refine aw_iconst (q := 109) dX3_holds_108 rfl (by omega) ?_
              refine aw_goto (q := 113) dX3_holds_109 (by decide) ?_
              exact j113 _ _ h8 (bz_t (by omega)).symm
          refine aw_aload_n (q := 80) dX3_holds_79 rfl rfl rfl ?_
          refine aw_get (q := 83) dX3_holds_80 rfl fl_X3_15 hE.1 rfl (fun _ => ?_)
          refine aw_iload (q := 85) dX3_holds_83 rfl rfl ?_
          refine aw_iaload (j := k) (q := 86) dX3_holds_85 rfl hE.2.2 (by omega) (by omega) (fun r1 => ?_)
          refine aw_iload_n (q := 87) dX3_holds_86 rfl rfl rfl ?_
          refine aw_ic_le (t := 94) (q := 90) dX3_holds_87 rfl (by decide) (fun b2 => ?_) (fun b2 => ?_)
          · skip
            refine aw_iconst (q := 95) dX3_holds_94 rfl (by omega) ?_
            exact j95 _ (bz_f (by omega)).symm
          · skip
            refine aw_iconst (q := 91) dX3_holds_90 rfl (by omega) ?_
            refine aw_goto (q := 95) dX3_holds_91 (by decide) ?_
            exact j95 _ (bz_t (by omega)).symm
        refine aw_istore (q := 45) dX3_holds_43 rfl (by decide) ?_
        refine aw_aload_n (q := 46) dX3_holds_45 rfl rfl rfl ?_
        refine aw_iload (q := 48) dX3_holds_46 rfl rfl ?_
        refine aw_iload (q := 50) dX3_holds_48 rfl rfl ?_
        refine aw_iload_n (q := 51) dX3_holds_50 rfl rfl rfl ?_
        refine aw_iload_n (q := 52) dX3_holds_51 rfl rfl rfl ?_
        refine aw_callV [vI (kx), vI (nv), vI (x), vI (y)] (q := 55) dX3_holds_52 rfl ck_X3_turn lk_X3_22 rfl ⟨Nat.le_of_ble_eq_true rfl, Nat.le_of_ble_eq_true rfl⟩ rfl rfl hE.1 rfl (Nat.le_of_ble_eq_true rfl) (by decide) (m_X3_turn (a := k) (b := b) hk hnv (by omega) (by omega) hb hxy hE hc) rfl (fun _ _ _ h => (Rt_x h).elim) ?_
        rintro v n9 μ9 - ⟨v9, hv9, rfl, rfl, rfl⟩
        obtain rfl := Sum.inl.inj hv9
        refine aw_lstore (q := 57) dX3_holds_55 rfl (by decide) ?_
        refine aw_lload (q := 59) dX3_holds_57 rfl rfl ?_
        refine aw_lconst (a := 0) (q := 60) dX3_holds_59 rfl rfl (by omega) ?_
        refine aw_lcmp (q := 61) dX3_holds_60 rfl ?_
        refine aw_if_ne (t := 79) (q := 64) dX3_holds_61 rfl (by decide) (fun b1 => ?_) (fun b1 => ?_)
        · skip
          replace b1 := mt cmpz_eq.mpr b1
          exact j79 (fun h => by first | exact absurd h.1 (by assumption) | exact absurd h.2 (by assumption))
        · skip
          replace b1 := cmpz_eq.mp b1
          refine aw_aload_n (q := 65) dX3_holds_64 rfl rfl rfl ?_
          refine aw_iload (q := 67) dX3_holds_65 rfl rfl ?_
          refine aw_iload (q := 69) dX3_holds_67 rfl rfl ?_
          refine aw_iload_n (q := 70) dX3_holds_69 rfl rfl rfl ?_
          refine aw_iload_n (q := 71) dX3_holds_70 rfl rfl rfl ?_
          refine aw_callV [vI (kx), vI (nv), vI (x), vI (y)] (q := 74) dX3_holds_71 rfl ck_X3_isBeside lk_X3_26 rfl ⟨Nat.le_of_ble_eq_true rfl, Nat.le_of_ble_eq_true rfl⟩ rfl rfl hE.1 rfl (Nat.le_of_ble_eq_true rfl) (by decide) (m_X3_isBeside (a := k) (b := b) hk hnv (by omega) (by omega) hb hxy hE hc) rfl (fun _ _ _ h => (Rt_x h).elim) ?_
          rintro v n9 μ9 - ⟨v9, hv9, rfl, rfl, rfl⟩
          obtain rfl := Sum.inl.inj hv9
          refine aw_if_eq (t := 79) (q := 77) dX3_holds_74 rfl (by decide) (fun b2 => ?_) (fun b2 => ?_)
          · skip
            replace b2 := bz_0.mp b2
            exact j79 (fun h => by first | exact absurd h.1 (by assumption) | exact absurd h.2 (by assumption))
          · skip
            replace b2 := bz_n0.mp b2
            refine aw_iconst (q := 78) dX3_holds_77 rfl (by omega) ?_
            exact aw_zret dX3_holds_78 rfl (Or.inr rfl) (by decide) (by decide) ⟨_, rfl, rfl, rfl, Or.inl ⟨rfl, by omega, Or.inl ⟨k, by omega, by rw [← hbn]; exact ⟨by assumption, by assumption⟩⟩⟩⟩
      refine aw_iload (q := 17) dX3_holds_15 rfl rfl ?_
      refine aw_aload_n (q := 18) dX3_holds_17 rfl rfl rfl ?_
      refine aw_get (q := 21) dX3_holds_18 rfl fl_X3_18 hE.1 rfl (fun _ => ?_)
      refine aw_ic_ge (t := 155) (q := 24) dX3_holds_21 rfl (by decide) (fun b1 => ?_) (fun b1 => ?_)
      · skip
        have fin : ((vI od : AV) = vI 1 ∧ inF c f g x y) ∨ ((vI od : AV) = vI 0 ∧ ¬ inF c f g x y) := by
          rw [show k = c by omega] at hod hno
          unfold b2z at hod
          cases hpar : par (fun k => pasS f g x y k (nxt c k)) c
          · rw [hpar] at hod
            exact Or.inr ⟨congrArg vI hod, fun hi => by rcases hi.2 with ⟨k9, h1, h2⟩ | h1; exact hno k9 h1 h2; rw [hpar] at h1; cases h1⟩
          · rw [hpar] at hod
            exact Or.inl ⟨congrArg vI hod, by omega, Or.inr hpar⟩
        refine aw_iload_n (q := 156) dX3_holds_155 rfl rfl rfl ?_
        exact aw_zret dX3_holds_156 rfl (by unfold b2z at hod; split at hod <;> omega) (by decide) (by decide) ⟨_, rfl, rfl, rfl, fin⟩
      · skip
        refine aw_iload (q := 26) dX3_holds_24 rfl rfl ?_
        refine aw_iconst (q := 27) dX3_holds_26 rfl (by omega) ?_
        refine aw_iadd (q := 28) dX3_holds_27 rfl (by omega) ?_
        refine aw_aload_n (q := 29) dX3_holds_28 rfl rfl rfl ?_
        refine aw_get (q := 32) dX3_holds_29 rfl fl_X3_18 hE.1 rfl (fun _ => ?_)
        refine aw_ic_ge (t := 42) (q := 35) dX3_holds_32 rfl (by decide) (fun b2 => ?_) (fun b2 => ?_)
        · skip
          refine aw_iconst (q := 43) dX3_holds_42 rfl (by omega) ?_
          exact j43 _ 0 rfl (by omega) (by unfold nxt; split <;> omega)
        · skip
          refine aw_iload (q := 37) dX3_holds_35 rfl rfl ?_
          refine aw_iconst (q := 38) dX3_holds_37 rfl (by omega) ?_
          refine aw_iadd (q := 39) dX3_holds_38 rfl (by omega) ?_
          refine aw_goto (q := 43) dX3_holds_39 (by decide) ?_
          exact j43 _ (k + 1) (by omega) (by omega) (by unfold nxt; split <;> omega)
  refine aw_aload_n (q := 1) dX3_holds_0 rfl rfl rfl ?_
  refine aw_get (q := 4) dX3_holds_1 rfl fl_X3_18 hE.1 rfl (fun _ => ?_)
  refine aw_iconst (q := 5) dX3_holds_4 rfl (by omega) ?_
  refine aw_ic_ge (t := 10) (q := 8) dX3_holds_5 rfl (by decide) (fun b1 => ?_) (fun b1 => ?_)
  · skip
    refine aw_iconst (q := 11) dX3_holds_10 rfl (by omega) ?_
    refine aw_istore_n (q := 12) dX3_holds_11 rfl rfl (by decide) ?_
    refine aw_iconst (q := 13) dX3_holds_12 rfl (by omega) ?_
    refine aw_istore (q := 15) dX3_holds_13 rfl (by decide) ?_
    exact loop (by omega) (c + 1) 0 _ _ (by omega) rfl (by omega) rfl (fun k9 h1 => absurd h1 (Nat.not_lt_zero k9))
  · skip
    refine aw_iconst (q := 9) dX3_holds_8 rfl (by omega) ?_
    exact aw_zret dX3_holds_9 rfl (Or.inl rfl) (by decide) (by decide) ⟨_, rfl, rfl, rfl, Or.inr ⟨rfl, fun h => absurd h.1 (by omega)⟩⟩
