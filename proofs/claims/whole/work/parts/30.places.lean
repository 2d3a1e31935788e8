/-! ===== common words; TrackRows$Places (written by m_places.py) ===== -/
def bz (P : Prop) [Decidable P] : Int := if P then 1 else 0
theorem bz_t {P : Prop} [Decidable P] (h : P) : bz P = 1 := if_pos h
theorem bz_f {P : Prop} [Decidable P] (h : ¬ P) : bz P = 0 := if_neg h
theorem bz_0 {P : Prop} [Decidable P] : bz P = 0 ↔ ¬ P := by unfold bz; split <;> simp_all
theorem bz_n0 {P : Prop} [Decidable P] : ¬ bz P = 0 ↔ P := by unfold bz; split <;> simp_all
theorem bz_01 {P : Prop} [Decidable P] : bz P = 0 ∨ bz P = 1 := by unfold bz; split <;> simp
theorem bz_c {P P' : Prop} [Decidable P] [Decidable P'] (h : P ↔ P') : bz P = bz P' := by
  by_cases p : P
  · rw [bz_t p, bz_t (h.mp p)]
  · rw [bz_f p, bz_f (fun x => p (h.mpr x))]
/-- fewer locals known -/
def sbl : List (Option AV) → List (Option AV) → Prop
  | [], _ => True
  | none :: l, _ :: l' => sbl l l'
  | some v :: l, some w :: l' => v = w ∧ sbl l l'
  | _ :: _, _ => False
theorem sbl_at : ∀ {l l' : List (Option AV)} {i : Nat} {v : AV}, sbl l l' → l[i]? = some (some v) → l'[i]? = some (some v)
  | [], _, i, v, _, h => by cases h
  | none :: l, [], i, v, h, _ => h.elim
  | none :: l, _ :: l', 0, v, _, h => by cases h
  | none :: l, _ :: l', i + 1, v, hs, h => sbl_at (l := l) (l' := l') hs h
  | some _ :: l, [], i, v, h, _ => h.elim
  | some _ :: l, none :: l', i, v, h, _ => h.elim
  | some w :: l, some w' :: l', 0, v, hs, h => by rw [← hs.1]; exact h
  | some w :: l, some w' :: l', i + 1, v, hs, h => sbl_at (l := l) (l' := l') hs.2 h
theorem aw_ls {Y : AY} {S : AScr} {Q : AQ} {pc : Nat} {ls ls' : List (Option AV)} {st : List AV} {n : Nat} {μ : AH} {k z : Nat} (h : sbl ls ls') (K : AW Y S Q pc ls st n μ k z) : AW Y S Q pc ls' st n μ k z := by
  intro p l e s m args below meth c g A n0 ad0 F hS ad H locs ls0 hR hL ho
  exact K p l e s m args below meth c g A n0 ad0 F hS ad H locs ls0 hR ⟨hL.1, hL.2.1, fun i v hv => hL.2.2 i v (sbl_at h hv)⟩ ho
/-- it returns a value -/
def Rt (P : AV → Nat → AH → Prop) : AQ := fun o n' μ' => ∃ v, o = .inl (some v) ∧ P v n' μ'
theorem Rt_x {P : AV → Nat → AH → Prop} {E : String} {n' : Nat} {μ' : AH} (h : Rt P (.inr E) n' μ') : False := by
  obtain ⟨v, h1, -⟩ := h
  cases h1
/-- it returns nothing -/
def Vd (P : Nat → AH → Prop) : AQ := fun o n' μ' => o = .inl none ∧ P n' μ'
theorem Vd_x {P : Nat → AH → Prop} {E : String} {n' : Nat} {μ' : AH} (h : Vd P (.inr E) n' μ') : False := by cases h.1
/-- a value, nothing changed -/
def Pv (n : Nat) (μ : AH) (w : AV) : AQ := Rt (fun v n' μ' => n' = n ∧ μ' = μ ∧ v = w)
/-- nothing but these things changed -/
def Fr (L : List Nat) (μ μ' : AH) : Prop := ∀ b, b ∉ L → μ' b = μ b
theorem Fr_rf {L : List Nat} {μ : AH} : Fr L μ μ := fun _ _ => rfl
theorem Fr_hu {L : List Nat} {μ μ1 : AH} {a : Nat} {o : AO} (h : Fr L μ μ1) (ha : a ∈ L) : Fr L μ (hu μ1 a o) := fun b hb => (hu_n (fun e => hb (by rw [e]; exact ha))).trans (h b hb)
theorem Fr_tr {L L' : List Nat} {μ μ1 μ2 : AH} (h : Fr L μ μ1) (h' : Fr L' μ1 μ2) (hs : ∀ a, a ∈ L' → a ∈ L) : Fr L μ μ2 := fun b hb => (h' b (fun x => hb (hs b x))).trans (h b hb)
theorem sq_b {e : Int} (B : Int) (h1 : -B ≤ e) (h2 : e ≤ B) : 0 ≤ e * e ∧ e * e ≤ B * B := by
  constructor
  · rcases Int.le_total 0 e with h | h
    · exact Int.mul_nonneg h h
    · exact Int.mul_nonneg_of_nonpos_of_nonpos h h
  · rcases Int.le_total 0 e with h | h
    · exact Int.mul_le_mul h2 h2 h (by omega)
    · have h3 : -e ≤ B := by omega
      have h4 := Int.mul_le_mul h3 h3 (by omega) (by omega : (0 : Int) ≤ B)
      rwa [Int.neg_mul_neg] at h4
/-- the first place with a number of s or more -/
def lowb (f : Nat → Int) (s : Int) : Nat → Nat → Nat
  | 0, i => i
  | j + 1, i => if f i < s then lowb f s j (i + 1) else i
theorem lowb_le (f : Nat → Int) (s : Int) : ∀ j i, lowb f s j i ≤ i + j ∧ i ≤ lowb f s j i
  | 0, i => ⟨Nat.le_refl _, Nat.le_refl _⟩
  | j + 1, i => by
    unfold lowb
    split
    · have := lowb_le f s j (i + 1); omega
    · omega
theorem lowb_is {f : Nat → Int} {s : Int} : ∀ {j i r : Nat}, i ≤ r → r ≤ i + j → (∀ p, i ≤ p → p < r → f p < s) → (r < i + j → s ≤ f r) → lowb f s j i = r
  | 0, i, r, h1, h2, h3, h4 => by unfold lowb; omega
  | j + 1, i, r, h1, h2, h3, h4 => by
    unfold lowb
    split
    · rename_i h
      have : i ≠ r := fun e => by subst e; have := h4 (by omega); omega
      exact lowb_is (by omega) (by omega) (fun p hp hr => h3 p (by omega) hr) (fun hr => h4 (by omega))
    · rename_i h
      rcases Nat.lt_or_ge i r with hr | hr
      · exact absurd (h3 i (Nat.le_refl _) hr) h
      · omega
theorem lowb_lt (f : Nat → Int) (s : Int) : ∀ j i p, i ≤ p → p < lowb f s j i → f p < s
  | 0, i, p, h1, h2 => by unfold lowb at h2; omega
  | j + 1, i, p, h1, h2 => by
    unfold lowb at h2
    split at h2
    · rename_i h
      by_cases e : p = i
      · rw [e]; exact h
      · exact lowb_lt f s j (i + 1) p (by omega) h2
    · omega
theorem lowb_ge (f : Nat → Int) (s : Int) : ∀ j i, lowb f s j i < i + j → s ≤ f (lowb f s j i)
  | 0, i, h => by unfold lowb at h; omega
  | j + 1, i, h => by
    unfold lowb at h ⊢
    split
    · rename_i h9
      rw [if_pos h9] at h
      exact lowb_ge f s j (i + 1) (by omega)
    · rename_i h9
      omega
/-- Places at q: room m, count c, seconds f, xs g, ys h -/
def PL (μ : AH) (q m c : Nat) (f g h : Nat → Int) : Prop := μ q = oO 5 [vI (m : Int), vR (q + 1), vR (q + 2), vR (q + 3), vI (c : Int)] ∧ μ (q + 1) = oI m f ∧ μ (q + 2) = oI m g ∧ μ (q + 3) = oI m h
abbrev PBd (c : Nat) (f g h : Nat → Int) : Prop := ∀ p, p < c → 0 ≤ f p ∧ f p ≤ 1000000 ∧ -100000 ≤ g p ∧ g p ≤ 100000 ∧ -100000 ≤ h p ∧ h p ≤ 100000
set_option maxHeartbeats 4000000 in
set_option maxRecDepth 100000 in
theorem m_X5_numberFor {n : Nat} {μ : AH} {q m c : Nat} {f g h : Nat → Int} {s : Int} (hP : PL μ q m c f g h) (hc : c ≤ m) (hm : m ≤ 60) : AMet YX5_numberFor [vR q, vI (s)] n μ (Pv n μ (vI (lowb f s c 0 : Nat))) := by
  refine AMet.of (by decide) rfl (Nat.le_of_ble_eq_true rfl) ?_
  have loop : ∀ (j i : Nat) (x : Int), c - i < j → x = (i : Int) → i ≤ c → (∀ p, p < i → f p < s) → AW YX5_numberFor none (Pv n μ (vI (lowb f s c 0 : Nat))) 2 [some (vR q), some (vI s), some (vI x)] [] n μ 0 0 := by
    intro j
    induction j with
    | zero => intro i x hj; exact absurd hj (Nat.not_lt_zero _)
    | succ j ih =>
      intro i x hj hx hi hi3
      refine aw_iload_n (q := 3) dX5_numberFor_2 rfl rfl rfl ?_
      refine aw_aload_n (q := 4) dX5_numberFor_3 rfl rfl rfl ?_
      refine aw_get (q := 7) dX5_numberFor_4 rfl fl_X5_9 hP.1 rfl (fun _ => ?_)
      refine aw_ic_ge (t := 26) (q := 10) dX5_numberFor_7 rfl (by decide) (fun b1 => ?_) (fun b1 => ?_)
      · skip
        refine aw_iload_n (q := 27) dX5_numberFor_26 rfl rfl rfl ?_
        exact aw_iret dX5_numberFor_27 rfl (by decide) (by decide) ⟨_, rfl, rfl, rfl, congrArg vI (by rw [hx, lowb_is (r := i) (Nat.zero_le _) (by omega) (fun p _ hp => hi3 p hp) (fun _ => by omega)])⟩
      · skip
        refine aw_aload_n (q := 11) dX5_numberFor_10 rfl rfl rfl ?_
        refine aw_get (q := 14) dX5_numberFor_11 rfl fl_X5_18 hP.1 rfl (fun _ => ?_)
        refine aw_iload_n (q := 15) dX5_numberFor_14 rfl rfl rfl ?_
        refine aw_iaload (j := i) (q := 16) dX5_numberFor_15 rfl hP.2.1 (by omega) (by omega) (fun r2 => ?_)
        refine aw_iload_n (q := 17) dX5_numberFor_16 rfl rfl rfl ?_
        refine aw_ic_ge (t := 26) (q := 20) dX5_numberFor_17 rfl (by decide) (fun b3 => ?_) (fun b3 => ?_)
        · skip
          refine aw_iload_n (q := 27) dX5_numberFor_26 rfl rfl rfl ?_
          exact aw_iret dX5_numberFor_27 rfl (by decide) (by decide) ⟨_, rfl, rfl, rfl, congrArg vI (by rw [hx, lowb_is (r := i) (Nat.zero_le _) (by omega) (fun p _ hp => hi3 p hp) (fun _ => by omega)])⟩
        · skip
          refine aw_iinc (q := 23) dX5_numberFor_20 rfl rfl (by decide) (by omega) ?_
          refine aw_goto (q := 2) dX5_numberFor_23 (by decide) ?_
          exact ih (i + 1) _ (by omega) (by omega) (by omega) (fun p hp => by rcases Nat.lt_succ_iff_lt_or_eq.mp hp with h9 | h9; exact hi3 p h9; rw [h9]; omega)
  refine aw_iconst (q := 1) dX5_numberFor_0 rfl (by omega) ?_
  refine aw_istore_n (q := 2) dX5_numberFor_1 rfl rfl (by decide) ?_
  exact loop (c + 1) 0 _ (by omega) rfl (by omega) (fun p hp => absurd hp (Nat.not_lt_zero p))
set_option maxHeartbeats 4000000 in
set_option maxRecDepth 100000 in
theorem m_X5_hasSecond {n : Nat} {μ : AH} {q m c : Nat} {f g h : Nat → Int} {r : Nat} {x s : Int} (hx : x = (r : Int)) (hP : PL μ q m c f g h) (hc : c ≤ m) (hm : m ≤ 60) : AMet YX5_hasSecond [vR q, vI (x), vI (s)] n μ (Pv n μ (vI (bz (r < c ∧ f r = s)))) := by
  refine AMet.of (by decide) rfl (Nat.le_of_ble_eq_true rfl) ?_
  refine aw_iload_n (q := 1) dX5_hasSecond_0 rfl rfl rfl ?_
  refine aw_aload_n (q := 2) dX5_hasSecond_1 rfl rfl rfl ?_
  refine aw_get (q := 5) dX5_hasSecond_2 rfl fl_X5_9 hP.1 rfl (fun _ => ?_)
  refine aw_ic_ge (t := 22) (q := 8) dX5_hasSecond_5 rfl (by decide) (fun b1 => ?_) (fun b1 => ?_)
  · skip
    refine aw_iconst (q := 23) dX5_hasSecond_22 rfl (by omega) ?_
    exact aw_zret dX5_hasSecond_23 rfl (Or.inl rfl) (by decide) (by decide) ⟨_, rfl, rfl, rfl, congrArg vI (bz_f (by omega)).symm⟩
  · skip
    refine aw_aload_n (q := 9) dX5_hasSecond_8 rfl rfl rfl ?_
    refine aw_get (q := 12) dX5_hasSecond_9 rfl fl_X5_18 hP.1 rfl (fun _ => ?_)
    refine aw_iload_n (q := 13) dX5_hasSecond_12 rfl rfl rfl ?_
    refine aw_iaload (j := r) (q := 14) dX5_hasSecond_13 rfl hP.2.1 (by omega) (by omega) (fun r2 => ?_)
    refine aw_iload_n (q := 15) dX5_hasSecond_14 rfl rfl rfl ?_
    refine aw_ic_ne (t := 22) (q := 18) dX5_hasSecond_15 rfl (by decide) (fun b3 => ?_) (fun b3 => ?_)
    · skip
      refine aw_iconst (q := 23) dX5_hasSecond_22 rfl (by omega) ?_
      exact aw_zret dX5_hasSecond_23 rfl (Or.inl rfl) (by decide) (by decide) ⟨_, rfl, rfl, rfl, congrArg vI (bz_f (by omega)).symm⟩
    · skip
      refine aw_iconst (q := 19) dX5_hasSecond_18 rfl (by omega) ?_
      refine aw_goto (q := 23) dX5_hasSecond_19 (by decide) ?_
      exact aw_zret dX5_hasSecond_23 rfl (Or.inr rfl) (by decide) (by decide) ⟨_, rfl, rfl, rfl, congrArg vI (bz_t (by omega)).symm⟩
set_option maxHeartbeats 4000000 in
set_option maxRecDepth 100000 in
theorem m_X5_isAt {n : Nat} {μ : AH} {q m c : Nat} {f g h : Nat → Int} {r : Nat} {w x y : Int} (hx : w = (r : Int)) (hr : r < m) (hP : PL μ q m c f g h) (hc : c ≤ m) (hm : m ≤ 60) : AMet YX5_isAt [vR q, vI (w), vI (x), vI (y)] n μ (Pv n μ (vI (bz (g r = x ∧ h r = y)))) := by
  refine AMet.of (by decide) rfl (Nat.le_of_ble_eq_true rfl) ?_
  refine aw_aload_n (q := 1) dX5_isAt_0 rfl rfl rfl ?_
  refine aw_get (q := 4) dX5_isAt_1 rfl fl_X5_22 hP.1 rfl (fun _ => ?_)
  refine aw_iload_n (q := 5) dX5_isAt_4 rfl rfl rfl ?_
  refine aw_iaload (j := r) (q := 6) dX5_isAt_5 rfl hP.2.2.1 (by omega) (by omega) (fun r1 => ?_)
  refine aw_iload_n (q := 7) dX5_isAt_6 rfl rfl rfl ?_
  refine aw_ic_ne (t := 24) (q := 10) dX5_isAt_7 rfl (by decide) (fun b2 => ?_) (fun b2 => ?_)
  · skip
    refine aw_iconst (q := 25) dX5_isAt_24 rfl (by omega) ?_
    exact aw_zret dX5_isAt_25 rfl (Or.inl rfl) (by decide) (by decide) ⟨_, rfl, rfl, rfl, congrArg vI (bz_f (by omega)).symm⟩
  · skip
    refine aw_aload_n (q := 11) dX5_isAt_10 rfl rfl rfl ?_
    refine aw_get (q := 14) dX5_isAt_11 rfl fl_X5_25 hP.1 rfl (fun _ => ?_)
    refine aw_iload_n (q := 15) dX5_isAt_14 rfl rfl rfl ?_
    refine aw_iaload (j := r) (q := 16) dX5_isAt_15 rfl hP.2.2.2 (by omega) (by omega) (fun r3 => ?_)
    refine aw_iload_n (q := 17) dX5_isAt_16 rfl rfl rfl ?_
    refine aw_ic_ne (t := 24) (q := 20) dX5_isAt_17 rfl (by decide) (fun b4 => ?_) (fun b4 => ?_)
    · skip
      refine aw_iconst (q := 25) dX5_isAt_24 rfl (by omega) ?_
      exact aw_zret dX5_isAt_25 rfl (Or.inl rfl) (by decide) (by decide) ⟨_, rfl, rfl, rfl, congrArg vI (bz_f (by omega)).symm⟩
    · skip
      refine aw_iconst (q := 21) dX5_isAt_20 rfl (by omega) ?_
      refine aw_goto (q := 25) dX5_isAt_21 (by decide) ?_
      exact aw_zret dX5_isAt_25 rfl (Or.inr rfl) (by decide) (by decide) ⟨_, rfl, rfl, rfl, congrArg vI (bz_t (by omega)).symm⟩
def insF (f : Nat → Int) (r c : Nat) (s : Int) : Nat → Int := fun p => if p = r then s else if r < p ∧ p ≤ c then f (p - 1) else f p
def shF (f : Nat → Int) (i c : Nat) : Nat → Int := fun p => if i < p ∧ p ≤ c then f (p - 1) else f p
theorem shF_0 (f : Nat → Int) (c : Nat) : shF f c c = f := by
  funext p
  unfold shF
  rw [if_neg (by omega)]
theorem shF_s (f : Nat → Int) {i c : Nat} (h0 : 0 < i) (h : i ≤ c) : fu (shF f i c) i (shF f i c (i - 1)) = shF f (i - 1) c := by
  funext p
  unfold fu
  split
  · rename_i e
    subst e
    unfold shF
    rw [if_neg (by omega), if_pos (by omega)]
  · unfold shF
    by_cases e : i < p ∧ p ≤ c
    · rw [if_pos e, if_pos (by omega)]
    · rw [if_neg e, if_neg (by omega)]
theorem shF_e (f : Nat → Int) {r c : Nat} (s : Int) : fu (shF f r c) r s = insF f r c s := by
  funext p
  unfold fu insF shF
  rfl
set_option maxHeartbeats 4000000 in
set_option maxRecDepth 100000 in
theorem m_X5_insert {n : Nat} {μ : AH} {q m c : Nat} {f g h : Nat → Int} {r : Nat} {w s x y : Int} (hw : w = (r : Int)) (hr : r ≤ c) (hcm : c < m) (hm : m ≤ 60) (hP : PL μ q m c f g h) : AMet YX5_insert [vR q, vI (w), vI (s), vI (x), vI (y)] n μ (Vd (fun n' μ' => n' = n ∧ PL μ' q m (c + 1) (insF f r c s) (insF g r c x) (insF h r c y) ∧ Fr [q, q + 1, q + 2, q + 3] μ μ')) := by
  refine AMet.of (by decide) rfl (Nat.le_of_ble_eq_true rfl) ?_
  have loop : ∀ (j i : Nat) (k : Int) (μ1 : AH), i < j → k = (i : Int) → r ≤ i → i ≤ c → PL μ1 q m c (shF f i c) (shF g i c) (shF h i c) → Fr [q, q + 1, q + 2, q + 3] μ μ1 → AW YX5_insert none (Vd (fun n' μ' => n' = n ∧ PL μ' q m (c + 1) (insF f r c s) (insF g r c x) (insF h r c y) ∧ Fr [q, q + 1, q + 2, q + 3] μ μ')) 18 [some (vR q), some (vI w), some (vI s), some (vI x), some (vI y), some (vI k)] [] n μ1 0 0 := by
    intro j
    induction j with
    | zero => intro i k μ1 hj; exact absurd hj (Nat.not_lt_zero _)
    | succ j ih =>
      intro i k μ1 hj hk hi hic hP1 hfr
      refine aw_iload (q := 20) dX5_insert_18 rfl rfl ?_
      refine aw_iload_n (q := 21) dX5_insert_20 rfl rfl rfl ?_
      refine aw_ic_le (t := 78) (q := 24) dX5_insert_21 rfl (by decide) (fun b1 => ?_) (fun b1 => ?_)
      · skip
        obtain rfl : i = r := by omega
        refine aw_aload_n (q := 79) dX5_insert_78 rfl rfl rfl ?_
        refine aw_get (q := 82) dX5_insert_79 rfl fl_X5_18 hP1.1 rfl (fun _ => ?_)
        refine aw_iload_n (q := 83) dX5_insert_82 rfl rfl rfl ?_
        refine aw_iload_n (q := 84) dX5_insert_83 rfl rfl rfl ?_
        refine aw_iastore (j := i) (q := 85) dX5_insert_84 rfl hP1.2.1 (by omega) (by omega) ?_
        refine aw_aload_n (q := 86) dX5_insert_85 rfl rfl rfl ?_
        refine aw_get (q := 89) dX5_insert_86 rfl fl_X5_22 ((hu_n (by omega)).trans hP1.1) rfl (fun _ => ?_)
        refine aw_iload_n (q := 90) dX5_insert_89 rfl rfl rfl ?_
        refine aw_iload_n (q := 91) dX5_insert_90 rfl rfl rfl ?_
        refine aw_iastore (j := i) (q := 92) dX5_insert_91 rfl ((hu_n (by omega)).trans hP1.2.2.1) (by omega) (by omega) ?_
        refine aw_aload_n (q := 93) dX5_insert_92 rfl rfl rfl ?_
        refine aw_get (q := 96) dX5_insert_93 rfl fl_X5_25 ((hu_n (by omega)).trans ((hu_n (by omega)).trans hP1.1)) rfl (fun _ => ?_)
        refine aw_iload_n (q := 97) dX5_insert_96 rfl rfl rfl ?_
        refine aw_iload (q := 99) dX5_insert_97 rfl rfl ?_
        refine aw_iastore (j := i) (q := 100) dX5_insert_99 rfl ((hu_n (by omega)).trans ((hu_n (by omega)).trans hP1.2.2.2)) (by omega) (by omega) ?_
        refine aw_aload_n (q := 101) dX5_insert_100 rfl rfl rfl ?_
        refine aw_dup (q := 102) dX5_insert_101 rfl rfl ?_
        refine aw_get (q := 105) dX5_insert_102 rfl fl_X5_9 ((hu_n (by omega)).trans ((hu_n (by omega)).trans ((hu_n (by omega)).trans hP1.1))) rfl (fun _ => ?_)
        refine aw_iconst (q := 106) dX5_insert_105 rfl (by omega) ?_
        refine aw_iadd (q := 107) dX5_insert_106 rfl (by omega) ?_
        refine aw_put (q := 110) dX5_insert_107 rfl fp_X5_9 ((hu_n (by omega)).trans ((hu_n (by omega)).trans ((hu_n (by omega)).trans hP1.1))) (Nat.le_of_ble_eq_true rfl) trivial ?_
        exact aw_vret dX5_insert_110 rfl (by decide) (by decide) ⟨rfl, rfl, ⟨hu_s, (((hu_n (by omega)).trans ((hu_n (by omega)).trans ((hu_n (by omega)).trans hu_s))).trans (congrArg (oI m) (shF_e f s))), (((hu_n (by omega)).trans ((hu_n (by omega)).trans hu_s)).trans (congrArg (oI m) (shF_e g x))), (((hu_n (by omega)).trans hu_s).trans (congrArg (oI m) (shF_e h y)))⟩, (Fr_hu (Fr_hu (Fr_hu (Fr_hu hfr (by simp)) (by simp)) (by simp)) (by simp))⟩
      · skip
        refine aw_aload_n (q := 25) dX5_insert_24 rfl rfl rfl ?_
        refine aw_get (q := 28) dX5_insert_25 rfl fl_X5_18 hP1.1 rfl (fun _ => ?_)
        refine aw_iload (q := 30) dX5_insert_28 rfl rfl ?_
        refine aw_aload_n (q := 31) dX5_insert_30 rfl rfl rfl ?_
        refine aw_get (q := 34) dX5_insert_31 rfl fl_X5_18 hP1.1 rfl (fun _ => ?_)
        refine aw_iload (q := 36) dX5_insert_34 rfl rfl ?_
        refine aw_iconst (q := 37) dX5_insert_36 rfl (by omega) ?_
        refine aw_isub (q := 38) dX5_insert_37 rfl (by omega) ?_
        refine aw_iaload (j := i - 1) (q := 39) dX5_insert_38 rfl hP1.2.1 (by omega) (by omega) (fun r2 => ?_)
        refine aw_iastore (j := i) (q := 40) dX5_insert_39 rfl hP1.2.1 (by omega) (by omega) ?_
        refine aw_aload_n (q := 41) dX5_insert_40 rfl rfl rfl ?_
        refine aw_get (q := 44) dX5_insert_41 rfl fl_X5_22 ((hu_n (by omega)).trans hP1.1) rfl (fun _ => ?_)
        refine aw_iload (q := 46) dX5_insert_44 rfl rfl ?_
        refine aw_aload_n (q := 47) dX5_insert_46 rfl rfl rfl ?_
        refine aw_get (q := 50) dX5_insert_47 rfl fl_X5_22 ((hu_n (by omega)).trans hP1.1) rfl (fun _ => ?_)
        refine aw_iload (q := 52) dX5_insert_50 rfl rfl ?_
        refine aw_iconst (q := 53) dX5_insert_52 rfl (by omega) ?_
        refine aw_isub (q := 54) dX5_insert_53 rfl (by omega) ?_
        refine aw_iaload (j := i - 1) (q := 55) dX5_insert_54 rfl ((hu_n (by omega)).trans hP1.2.2.1) (by omega) (by omega) (fun r3 => ?_)
        refine aw_iastore (j := i) (q := 56) dX5_insert_55 rfl ((hu_n (by omega)).trans hP1.2.2.1) (by omega) (by omega) ?_
        refine aw_aload_n (q := 57) dX5_insert_56 rfl rfl rfl ?_
        refine aw_get (q := 60) dX5_insert_57 rfl fl_X5_25 ((hu_n (by omega)).trans ((hu_n (by omega)).trans hP1.1)) rfl (fun _ => ?_)
        refine aw_iload (q := 62) dX5_insert_60 rfl rfl ?_
        refine aw_aload_n (q := 63) dX5_insert_62 rfl rfl rfl ?_
        refine aw_get (q := 66) dX5_insert_63 rfl fl_X5_25 ((hu_n (by omega)).trans ((hu_n (by omega)).trans hP1.1)) rfl (fun _ => ?_)
        refine aw_iload (q := 68) dX5_insert_66 rfl rfl ?_
        refine aw_iconst (q := 69) dX5_insert_68 rfl (by omega) ?_
        refine aw_isub (q := 70) dX5_insert_69 rfl (by omega) ?_
        refine aw_iaload (j := i - 1) (q := 71) dX5_insert_70 rfl ((hu_n (by omega)).trans ((hu_n (by omega)).trans hP1.2.2.2)) (by omega) (by omega) (fun r4 => ?_)
        refine aw_iastore (j := i) (q := 72) dX5_insert_71 rfl ((hu_n (by omega)).trans ((hu_n (by omega)).trans hP1.2.2.2)) (by omega) (by omega) ?_
        refine aw_iinc (q := 75) dX5_insert_72 rfl rfl (by decide) (by omega) ?_
        refine aw_goto (q := 18) dX5_insert_75 (by decide) ?_
        exact ih (i - 1) _ _ (by omega) (by omega) (by omega) (by omega) ⟨((hu_n (by omega)).trans ((hu_n (by omega)).trans ((hu_n (by omega)).trans hP1.1))), (((hu_n (by omega)).trans ((hu_n (by omega)).trans hu_s)).trans (congrArg (oI m) (shF_s f (by omega) (by omega)))), (((hu_n (by omega)).trans hu_s).trans (congrArg (oI m) (shF_s g (by omega) (by omega)))), (hu_s.trans (congrArg (oI m) (shF_s h (by omega) (by omega))))⟩ (Fr_hu (Fr_hu (Fr_hu hfr (by simp)) (by simp)) (by simp))
  refine aw_aload_n (q := 1) dX5_insert_0 rfl rfl rfl ?_
  refine aw_get (q := 4) dX5_insert_1 rfl fl_X5_9 hP.1 rfl (fun _ => ?_)
  refine aw_aload_n (q := 5) dX5_insert_4 rfl rfl rfl ?_
  refine aw_get (q := 8) dX5_insert_5 rfl fl_X5_15 hP.1 rfl (fun _ => ?_)
  refine aw_ic_lt (t := 12) (q := 11) dX5_insert_8 rfl (by decide) (fun b1 => ?_) (fun b1 => ?_)
  · skip
    refine aw_aload_n (q := 13) dX5_insert_12 rfl rfl rfl ?_
    refine aw_get (q := 16) dX5_insert_13 rfl fl_X5_9 hP.1 rfl (fun _ => ?_)
    refine aw_istore (q := 18) dX5_insert_16 rfl (by decide) ?_
    exact loop (c + 1) c _ μ (by omega) rfl (by omega) (by omega) (by rw [shF_0, shF_0, shF_0]; exact hP) Fr_rf
  · skip
    exact absurd b1 (by omega)
set_option maxHeartbeats 4000000 in
set_option maxRecDepth 100000 in
theorem m_X6_isTellable {n : Nat} {μ : AH} {s x y : Int} : AMet YX6_isTellable [vI (s), vI (x), vI (y)] n μ (Pv n μ (vI (bz (0 ≤ s ∧ s ≤ 1000000 ∧ -100000 ≤ x ∧ x ≤ 100000 ∧ -100000 ≤ y ∧ y ≤ 100000)))) := by
  refine AMet.of (by decide) rfl (Nat.le_of_ble_eq_true rfl) ?_
  refine aw_iload_n (q := 1) dX6_isTellable_0 rfl rfl rfl ?_
  refine aw_if_lt (t := 38) (q := 4) dX6_isTellable_1 rfl (by decide) (fun b1 => ?_) (fun b1 => ?_)
  · skip
    refine aw_iconst (q := 39) dX6_isTellable_38 rfl (by omega) ?_
    exact aw_zret dX6_isTellable_39 rfl (Or.inl rfl) (by decide) (by decide) ⟨_, rfl, rfl, rfl, congrArg vI (bz_f (by omega)).symm⟩
  · skip
    refine aw_iload_n (q := 5) dX6_isTellable_4 rfl rfl rfl ?_
    refine aw_ldc (a := 1000000) (q := 7) dX6_isTellable_5 rfl k_X6_139 (by omega) ?_
    refine aw_ic_gt (t := 38) (q := 10) dX6_isTellable_7 rfl (by decide) (fun b2 => ?_) (fun b2 => ?_)
    · skip
      refine aw_iconst (q := 39) dX6_isTellable_38 rfl (by omega) ?_
      exact aw_zret dX6_isTellable_39 rfl (Or.inl rfl) (by decide) (by decide) ⟨_, rfl, rfl, rfl, congrArg vI (bz_f (by omega)).symm⟩
    · skip
      refine aw_iload_n (q := 11) dX6_isTellable_10 rfl rfl rfl ?_
      refine aw_ldc (a := -100000) (q := 13) dX6_isTellable_11 rfl k_X6_178 (by omega) ?_
      refine aw_ic_lt (t := 38) (q := 16) dX6_isTellable_13 rfl (by decide) (fun b3 => ?_) (fun b3 => ?_)
      · skip
        refine aw_iconst (q := 39) dX6_isTellable_38 rfl (by omega) ?_
        exact aw_zret dX6_isTellable_39 rfl (Or.inl rfl) (by decide) (by decide) ⟨_, rfl, rfl, rfl, congrArg vI (bz_f (by omega)).symm⟩
      · skip
        refine aw_iload_n (q := 17) dX6_isTellable_16 rfl rfl rfl ?_
        refine aw_ldc (a := 100000) (q := 19) dX6_isTellable_17 rfl k_X6_152 (by omega) ?_
        refine aw_ic_gt (t := 38) (q := 22) dX6_isTellable_19 rfl (by decide) (fun b4 => ?_) (fun b4 => ?_)
        · skip
          refine aw_iconst (q := 39) dX6_isTellable_38 rfl (by omega) ?_
          exact aw_zret dX6_isTellable_39 rfl (Or.inl rfl) (by decide) (by decide) ⟨_, rfl, rfl, rfl, congrArg vI (bz_f (by omega)).symm⟩
        · skip
          refine aw_iload_n (q := 23) dX6_isTellable_22 rfl rfl rfl ?_
          refine aw_ldc (a := -100000) (q := 25) dX6_isTellable_23 rfl k_X6_178 (by omega) ?_
          refine aw_ic_lt (t := 38) (q := 28) dX6_isTellable_25 rfl (by decide) (fun b5 => ?_) (fun b5 => ?_)
          · skip
            refine aw_iconst (q := 39) dX6_isTellable_38 rfl (by omega) ?_
            exact aw_zret dX6_isTellable_39 rfl (Or.inl rfl) (by decide) (by decide) ⟨_, rfl, rfl, rfl, congrArg vI (bz_f (by omega)).symm⟩
          · skip
            refine aw_iload_n (q := 29) dX6_isTellable_28 rfl rfl rfl ?_
            refine aw_ldc (a := 100000) (q := 31) dX6_isTellable_29 rfl k_X6_152 (by omega) ?_
            refine aw_ic_gt (t := 38) (q := 34) dX6_isTellable_31 rfl (by decide) (fun b6 => ?_) (fun b6 => ?_)
            · skip
              refine aw_iconst (q := 39) dX6_isTellable_38 rfl (by omega) ?_
              exact aw_zret dX6_isTellable_39 rfl (Or.inl rfl) (by decide) (by decide) ⟨_, rfl, rfl, rfl, congrArg vI (bz_f (by omega)).symm⟩
            · skip
              refine aw_iconst (q := 35) dX6_isTellable_34 rfl (by omega) ?_
              refine aw_goto (q := 39) dX6_isTellable_35 (by decide) ?_
              exact aw_zret dX6_isTellable_39 rfl (Or.inr rfl) (by decide) (by decide) ⟨_, rfl, rfl, rfl, congrArg vI (bz_t (by omega)).symm⟩
set_option maxHeartbeats 4000000 in
set_option maxRecDepth 100000 in
theorem m_X5_mayFollow {n : Nat} {μ : AH} {q m c : Nat} {f g h : Nat → Int} {s x y : Int} (hP : PL μ q m c f g h) (hc : c ≤ m) (hm : m ≤ 60) : AMet YX5_mayFollow [vR q, vI (s), vI (x), vI (y)] n μ (Pv n μ (vI (bz ((c = 0 ∨ f (c - 1) < s) ∧ 0 ≤ s ∧ s ≤ 1000000 ∧ -100000 ≤ x ∧ x ≤ 100000 ∧ -100000 ≤ y ∧ y ≤ 100000)))) := by
  refine AMet.of (by decide) rfl (Nat.le_of_ble_eq_true rfl) ?_
  refine aw_aload_n (q := 1) dX5_mayFollow_0 rfl rfl rfl ?_
  refine aw_get (q := 4) dX5_mayFollow_1 rfl fl_X5_9 hP.1 rfl (fun _ => ?_)
  refine aw_if_eq (t := 22) (q := 7) dX5_mayFollow_4 rfl (by decide) (fun b1 => ?_) (fun b1 => ?_)
  · skip
    refine aw_iconst (q := 23) dX5_mayFollow_22 rfl (by omega) ?_
    refine aw_goto (q := 27) dX5_mayFollow_23 (by decide) ?_
    refine aw_istore (q := 29) dX5_mayFollow_27 rfl (by decide) ?_
    refine aw_iload (q := 31) dX5_mayFollow_29 rfl rfl ?_
    refine aw_if_eq (t := 47) (q := 34) dX5_mayFollow_31 rfl (by decide) (fun b2 => ?_) (fun b2 => ?_)
    · skip
      refine aw_iconst (q := 48) dX5_mayFollow_47 rfl (by omega) ?_
      exact aw_zret dX5_mayFollow_48 rfl (Or.inl rfl) (by decide) (by decide) ⟨_, rfl, rfl, rfl, congrArg vI (bz_f (by omega)).symm⟩
    · skip
      refine aw_iload_n (q := 35) dX5_mayFollow_34 rfl rfl rfl ?_
      refine aw_iload_n (q := 36) dX5_mayFollow_35 rfl rfl rfl ?_
      refine aw_iload_n (q := 37) dX5_mayFollow_36 rfl rfl rfl ?_
      refine aw_callSN [vI (s), vI (x), vI (y)] (q := 40) dX5_mayFollow_37 rfl ck_X6_isTellable lk_X5_28 im_X6_isTellable rfl ⟨Nat.le_of_ble_eq_true rfl, Nat.le_of_ble_eq_true rfl⟩ rfl rfl (Nat.le_of_ble_eq_true rfl) (by decide) (m_X6_isTellable) (fun _ _ _ h => (Rt_x h).elim) ?_
      rintro v n9 μ9 - ⟨v9, hv9, rfl, rfl, rfl⟩
      obtain rfl := Sum.inl.inj hv9
      refine aw_if_eq (t := 47) (q := 43) dX5_mayFollow_40 rfl (by decide) (fun b3 => ?_) (fun b3 => ?_)
      · skip
        replace b3 := bz_0.mp b3
        refine aw_iconst (q := 48) dX5_mayFollow_47 rfl (by omega) ?_
        exact aw_zret dX5_mayFollow_48 rfl (Or.inl rfl) (by decide) (by decide) ⟨_, rfl, rfl, rfl, congrArg vI (bz_f (by omega)).symm⟩
      · skip
        replace b3 := bz_n0.mp b3
        refine aw_iconst (q := 44) dX5_mayFollow_43 rfl (by omega) ?_
        refine aw_goto (q := 48) dX5_mayFollow_44 (by decide) ?_
        exact aw_zret dX5_mayFollow_48 rfl (Or.inr rfl) (by decide) (by decide) ⟨_, rfl, rfl, rfl, congrArg vI (bz_t (by omega)).symm⟩
  · skip
    refine aw_iload_n (q := 8) dX5_mayFollow_7 rfl rfl rfl ?_
    refine aw_aload_n (q := 9) dX5_mayFollow_8 rfl rfl rfl ?_
    refine aw_get (q := 12) dX5_mayFollow_9 rfl fl_X5_18 hP.1 rfl (fun _ => ?_)
    refine aw_aload_n (q := 13) dX5_mayFollow_12 rfl rfl rfl ?_
    refine aw_get (q := 16) dX5_mayFollow_13 rfl fl_X5_9 hP.1 rfl (fun _ => ?_)
    refine aw_iconst (q := 17) dX5_mayFollow_16 rfl (by omega) ?_
    refine aw_isub (q := 18) dX5_mayFollow_17 rfl (by omega) ?_
    refine aw_iaload (j := c - 1) (q := 19) dX5_mayFollow_18 rfl hP.2.1 (by omega) (by omega) (fun r4 => ?_)
    refine aw_ic_le (t := 26) (q := 22) dX5_mayFollow_19 rfl (by decide) (fun b5 => ?_) (fun b5 => ?_)
    · skip
      refine aw_iconst (q := 27) dX5_mayFollow_26 rfl (by omega) ?_
      refine aw_istore (q := 29) dX5_mayFollow_27 rfl (by decide) ?_
      refine aw_iload (q := 31) dX5_mayFollow_29 rfl rfl ?_
      refine aw_if_eq (t := 47) (q := 34) dX5_mayFollow_31 rfl (by decide) (fun b6 => ?_) (fun b6 => ?_)
      · skip
        refine aw_iconst (q := 48) dX5_mayFollow_47 rfl (by omega) ?_
        exact aw_zret dX5_mayFollow_48 rfl (Or.inl rfl) (by decide) (by decide) ⟨_, rfl, rfl, rfl, congrArg vI (bz_f (by omega)).symm⟩
      · skip
        refine aw_iload_n (q := 35) dX5_mayFollow_34 rfl rfl rfl ?_
        refine aw_iload_n (q := 36) dX5_mayFollow_35 rfl rfl rfl ?_
        refine aw_iload_n (q := 37) dX5_mayFollow_36 rfl rfl rfl ?_
        refine aw_callSN [vI (s), vI (x), vI (y)] (q := 40) dX5_mayFollow_37 rfl ck_X6_isTellable lk_X5_28 im_X6_isTellable rfl ⟨Nat.le_of_ble_eq_true rfl, Nat.le_of_ble_eq_true rfl⟩ rfl rfl (Nat.le_of_ble_eq_true rfl) (by decide) (m_X6_isTellable) (fun _ _ _ h => (Rt_x h).elim) ?_
        rintro v n9 μ9 - ⟨v9, hv9, rfl, rfl, rfl⟩
        obtain rfl := Sum.inl.inj hv9
        refine aw_if_eq (t := 47) (q := 43) dX5_mayFollow_40 rfl (by decide) (fun b7 => ?_) (fun b7 => ?_)
        · skip
          replace b7 := bz_0.mp b7
          refine aw_iconst (q := 48) dX5_mayFollow_47 rfl (by omega) ?_
          exact aw_zret dX5_mayFollow_48 rfl (Or.inl rfl) (by decide) (by decide) ⟨_, rfl, rfl, rfl, congrArg vI (bz_f (by omega)).symm⟩
        · skip
          replace b7 := bz_n0.mp b7
          refine aw_iconst (q := 44) dX5_mayFollow_43 rfl (by omega) ?_
          refine aw_goto (q := 48) dX5_mayFollow_44 (by decide) ?_
          exact aw_zret dX5_mayFollow_48 rfl (Or.inr rfl) (by decide) (by decide) ⟨_, rfl, rfl, rfl, congrArg vI (bz_t (by omega)).symm⟩
    · skip
      refine aw_iconst (q := 23) dX5_mayFollow_22 rfl (by omega) ?_
      refine aw_goto (q := 27) dX5_mayFollow_23 (by decide) ?_
      refine aw_istore (q := 29) dX5_mayFollow_27 rfl (by decide) ?_
      refine aw_iload (q := 31) dX5_mayFollow_29 rfl rfl ?_
      refine aw_if_eq (t := 47) (q := 34) dX5_mayFollow_31 rfl (by decide) (fun b8 => ?_) (fun b8 => ?_)
      · skip
        refine aw_iconst (q := 48) dX5_mayFollow_47 rfl (by omega) ?_
        exact aw_zret dX5_mayFollow_48 rfl (Or.inl rfl) (by decide) (by decide) ⟨_, rfl, rfl, rfl, congrArg vI (bz_f (by omega)).symm⟩
      · skip
        refine aw_iload_n (q := 35) dX5_mayFollow_34 rfl rfl rfl ?_
        refine aw_iload_n (q := 36) dX5_mayFollow_35 rfl rfl rfl ?_
        refine aw_iload_n (q := 37) dX5_mayFollow_36 rfl rfl rfl ?_
        refine aw_callSN [vI (s), vI (x), vI (y)] (q := 40) dX5_mayFollow_37 rfl ck_X6_isTellable lk_X5_28 im_X6_isTellable rfl ⟨Nat.le_of_ble_eq_true rfl, Nat.le_of_ble_eq_true rfl⟩ rfl rfl (Nat.le_of_ble_eq_true rfl) (by decide) (m_X6_isTellable) (fun _ _ _ h => (Rt_x h).elim) ?_
        rintro v n9 μ9 - ⟨v9, hv9, rfl, rfl, rfl⟩
        obtain rfl := Sum.inl.inj hv9
        refine aw_if_eq (t := 47) (q := 43) dX5_mayFollow_40 rfl (by decide) (fun b9 => ?_) (fun b9 => ?_)
        · skip
          replace b9 := bz_0.mp b9
          refine aw_iconst (q := 48) dX5_mayFollow_47 rfl (by omega) ?_
          exact aw_zret dX5_mayFollow_48 rfl (Or.inl rfl) (by decide) (by decide) ⟨_, rfl, rfl, rfl, congrArg vI (bz_f (by omega)).symm⟩
        · skip
          replace b9 := bz_n0.mp b9
          refine aw_iconst (q := 44) dX5_mayFollow_43 rfl (by omega) ?_
          refine aw_goto (q := 48) dX5_mayFollow_44 (by decide) ?_
          exact aw_zret dX5_mayFollow_48 rfl (Or.inr rfl) (by decide) (by decide) ⟨_, rfl, rfl, rfl, congrArg vI (bz_t (by omega)).symm⟩
set_option maxHeartbeats 4000000 in
set_option maxRecDepth 100000 in
theorem m_X5_squareTo {n : Nat} {μ : AH} {q m c : Nat} {f g h : Nat → Int} {r : Nat} {w x y : Int} (hw : w = (r : Int)) (hr : r < m) (hb : -100000 ≤ g r ∧ g r ≤ 100000 ∧ -100000 ≤ h r ∧ h r ≤ 100000) (hx : -300000 ≤ x ∧ x ≤ 300000) (hy : -300000 ≤ y ∧ y ≤ 300000) (hP : PL μ q m c f g h) (hc : c ≤ m) (hm : m ≤ 60) : AMet YX5_squareTo [vR q, vI (w), vI (x), vI (y)] n μ (Pv n μ (vL ((x - g r) * (x - g r) + (y - h r) * (y - h r)))) := by
  refine AMet.of (by decide) rfl (Nat.le_of_ble_eq_true rfl) ?_
  refine aw_iload_n (q := 1) dX5_squareTo_0 rfl rfl rfl ?_
  refine aw_i2l (q := 2) dX5_squareTo_1 rfl ?_
  refine aw_aload_n (q := 3) dX5_squareTo_2 rfl rfl rfl ?_
  refine aw_get (q := 6) dX5_squareTo_3 rfl fl_X5_22 hP.1 rfl (fun _ => ?_)
  refine aw_iload_n (q := 7) dX5_squareTo_6 rfl rfl rfl ?_
  refine aw_iaload (j := r) (q := 8) dX5_squareTo_7 rfl hP.2.2.1 (by omega) (by omega) (fun r1 => ?_)
  refine aw_i2l (q := 9) dX5_squareTo_8 rfl ?_
  refine aw_lsub (q := 10) dX5_squareTo_9 rfl (by omega) ?_
  refine aw_lstore (q := 12) dX5_squareTo_10 rfl (by decide) ?_
  refine aw_iload_n (q := 13) dX5_squareTo_12 rfl rfl rfl ?_
  refine aw_i2l (q := 14) dX5_squareTo_13 rfl ?_
  refine aw_aload_n (q := 15) dX5_squareTo_14 rfl rfl rfl ?_
  refine aw_get (q := 18) dX5_squareTo_15 rfl fl_X5_25 hP.1 rfl (fun _ => ?_)
  refine aw_iload_n (q := 19) dX5_squareTo_18 rfl rfl rfl ?_
  refine aw_iaload (j := r) (q := 20) dX5_squareTo_19 rfl hP.2.2.2 (by omega) (by omega) (fun r2 => ?_)
  refine aw_i2l (q := 21) dX5_squareTo_20 rfl ?_
  refine aw_lsub (q := 22) dX5_squareTo_21 rfl (by omega) ?_
  refine aw_lstore (q := 24) dX5_squareTo_22 rfl (by decide) ?_
  have s1 := sq_b (e := x - g r) 1000000 (by omega) (by omega)
  have s2 := sq_b (e := y - h r) 1000000 (by omega) (by omega)
  refine aw_lload (q := 26) dX5_squareTo_24 rfl rfl ?_
  refine aw_lload (q := 28) dX5_squareTo_26 rfl rfl ?_
  refine aw_lmul (q := 29) dX5_squareTo_28 rfl (by omega) ?_
  refine aw_lload (q := 31) dX5_squareTo_29 rfl rfl ?_
  refine aw_lload (q := 33) dX5_squareTo_31 rfl rfl ?_
  refine aw_lmul (q := 34) dX5_squareTo_33 rfl (by omega) ?_
  refine aw_ladd (q := 35) dX5_squareTo_34 rfl (by omega) ?_
  exact aw_lret dX5_squareTo_35 rfl (by decide) (by decide) ⟨_, rfl, rfl, rfl, rfl⟩
set_option maxHeartbeats 4000000 in
set_option maxRecDepth 100000 in
theorem m_X5_nearestInCell {n : Nat} {μ : AH} {x i : Int} (hi : -200 ≤ i ∧ i ≤ 200) : AMet YX5_nearestInCell [vI (x), vI (i)] n μ (Pv n μ (vI (max (1000 * i) (min x (1000 * i + 1000 - 1))))) := by
  refine AMet.of (by decide) rfl (Nat.le_of_ble_eq_true rfl) ?_
  refine aw_sipush (q := 3) dX5_nearestInCell_0 rfl (by decide) (by omega) ?_
  refine aw_iload_n (q := 4) dX5_nearestInCell_3 rfl rfl rfl ?_
  refine aw_imul (q := 5) dX5_nearestInCell_4 rfl (by omega) ?_
  refine aw_istore_n (q := 6) dX5_nearestInCell_5 rfl rfl (by decide) ?_
  refine aw_iload_n (q := 7) dX5_nearestInCell_6 rfl rfl rfl ?_
  refine aw_iload_n (q := 8) dX5_nearestInCell_7 rfl rfl rfl ?_
  refine aw_iload_n (q := 9) dX5_nearestInCell_8 rfl rfl rfl ?_
  refine aw_sipush (q := 12) dX5_nearestInCell_9 rfl (by decide) (by omega) ?_
  refine aw_iadd (q := 13) dX5_nearestInCell_12 rfl (by omega) ?_
  refine aw_iconst (q := 14) dX5_nearestInCell_13 rfl (by omega) ?_
  refine aw_isub (q := 15) dX5_nearestInCell_14 rfl (by omega) ?_
  refine aw_min (q := 18) dX5_nearestInCell_15 rfl lk_X5_44 (by decide) (Nat.le_of_ble_eq_true rfl) (by decide) (by decide) ?_
  refine aw_max (q := 21) dX5_nearestInCell_18 rfl lk_X5_49 (by decide) (Nat.le_of_ble_eq_true rfl) (by decide) (by decide) ?_
  exact aw_iret dX5_nearestInCell_21 rfl (by decide) (by decide) ⟨_, rfl, rfl, rfl, rfl⟩
/-- the point of a cell nearest to x -/
def nic (x i : Int) : Int := max (1000 * i) (min x (1000 * i + 1000 - 1))
theorem nic_b {x i : Int} (hx : -100000 ≤ x ∧ x ≤ 100000) (hi : -200 ≤ i ∧ i ≤ 200) : -300000 ≤ nic x i ∧ nic x i ≤ 300000 := by unfold nic; omega
set_option maxHeartbeats 4000000 in
set_option maxRecDepth 100000 in
theorem m_X5_squareToCell {n : Nat} {μ : AH} {q m c : Nat} {f g h : Nat → Int} {r : Nat} {w i j : Int} (hw : w = (r : Int)) (hr : r < m) (hb : -100000 ≤ g r ∧ g r ≤ 100000 ∧ -100000 ≤ h r ∧ h r ≤ 100000) (hi : -200 ≤ i ∧ i ≤ 200) (hj : -200 ≤ j ∧ j ≤ 200) (hP : PL μ q m c f g h) (hc : c ≤ m) (hm : m ≤ 60) : AMet YX5_squareToCell [vR q, vI (w), vI (i), vI (j)] n μ (Pv n μ (vL ((nic (g r) i - g r) * (nic (g r) i - g r) + (nic (h r) j - h r) * (nic (h r) j - h r)))) := by
  refine AMet.of (by decide) rfl (Nat.le_of_ble_eq_true rfl) ?_
  refine aw_aload_n (q := 1) dX5_squareToCell_0 rfl rfl rfl ?_
  refine aw_iload_n (q := 2) dX5_squareToCell_1 rfl rfl rfl ?_
  refine aw_aload_n (q := 3) dX5_squareToCell_2 rfl rfl rfl ?_
  refine aw_get (q := 6) dX5_squareToCell_3 rfl fl_X5_22 hP.1 rfl (fun _ => ?_)
  refine aw_iload_n (q := 7) dX5_squareToCell_6 rfl rfl rfl ?_
  refine aw_iaload (j := r) (q := 8) dX5_squareToCell_7 rfl hP.2.2.1 (by omega) (by omega) (fun r1 => ?_)
  refine aw_iload_n (q := 9) dX5_squareToCell_8 rfl rfl rfl ?_
  refine aw_callS [vI (g r), vI (i)] (q := 12) dX5_squareToCell_9 rfl ck_X5_nearestInCell lk_X5_36 rfl ⟨Nat.le_of_ble_eq_true rfl, Nat.le_of_ble_eq_true rfl⟩ rfl rfl (Nat.le_of_ble_eq_true rfl) (by decide) (m_X5_nearestInCell (by omega)) rfl (fun _ _ _ h => (Rt_x h).elim) ?_
  rintro v n9 μ9 - ⟨v9, hv9, rfl, rfl, rfl⟩
  obtain rfl := Sum.inl.inj hv9
  refine aw_aload_n (q := 13) dX5_squareToCell_12 rfl rfl rfl ?_
  refine aw_get (q := 16) dX5_squareToCell_13 rfl fl_X5_25 hP.1 rfl (fun _ => ?_)
  refine aw_iload_n (q := 17) dX5_squareToCell_16 rfl rfl rfl ?_
  refine aw_iaload (j := r) (q := 18) dX5_squareToCell_17 rfl hP.2.2.2 (by omega) (by omega) (fun r2 => ?_)
  refine aw_iload_n (q := 19) dX5_squareToCell_18 rfl rfl rfl ?_
  refine aw_callS [vI (h r), vI (j)] (q := 22) dX5_squareToCell_19 rfl ck_X5_nearestInCell lk_X5_36 rfl ⟨Nat.le_of_ble_eq_true rfl, Nat.le_of_ble_eq_true rfl⟩ rfl rfl (Nat.le_of_ble_eq_true rfl) (by decide) (m_X5_nearestInCell (by omega)) rfl (fun _ _ _ h => (Rt_x h).elim) ?_
  rintro v n9 μ9 - ⟨v9, hv9, rfl, rfl, rfl⟩
  obtain rfl := Sum.inl.inj hv9
  refine aw_callV [vI (w), vI (nic (g r) i), vI (nic (h r) j)] (q := 25) dX5_squareToCell_22 rfl ck_X5_squareTo lk_X5_40 rfl ⟨Nat.le_of_ble_eq_true rfl, Nat.le_of_ble_eq_true rfl⟩ rfl rfl hP.1 rfl (Nat.le_of_ble_eq_true rfl) (by decide) (m_X5_squareTo hw (by omega) (by omega) (nic_b (by omega) (by omega)) (nic_b (by omega) (by omega)) hP hc hm) rfl (fun _ _ _ h => (Rt_x h).elim) ?_
  rintro v n9 μ9 - ⟨v9, hv9, rfl, rfl, rfl⟩
  obtain rfl := Sum.inl.inj hv9
  exact aw_lret dX5_squareToCell_25 rfl (by decide) (by decide) ⟨_, rfl, rfl, rfl, rfl⟩
/-- steps a and b are the same -/
abbrev smS (f g h : Nat → Int) (a b : Nat) : Prop := f (a + 1) - f a = f (b + 1) - f b ∧ g (a + 1) - g a = g (b + 1) - g b ∧ h (a + 1) - h a = h (b + 1) - h b
set_option maxHeartbeats 4000000 in
set_option maxRecDepth 100000 in
theorem m_X5_sameStep {n : Nat} {μ : AH} {q m c : Nat} {f g h : Nat → Int} {a b : Nat} {x y : Int} (hx : x = (a : Int)) (hy : y = (b : Int)) (ha : a + 1 < c) (hb9 : b + 1 < c) (hb : PBd c f g h) (hP : PL μ q m c f g h) (hc : c ≤ m) (hm : m ≤ 60) : AMet YX5_sameStep [vR q, vI (x), vI (y)] n μ (Pv n μ (vI (bz (smS f g h a b)))) := by
  refine AMet.of (by decide) rfl (Nat.le_of_ble_eq_true rfl) ?_
  have hb1 := hb a (by omega)
  have hb2 := hb (a + 1) (by omega)
  have hb3 := hb b (by omega)
  have hb4 := hb (b + 1) (by omega)
  refine aw_aload_n (q := 1) dX5_sameStep_0 rfl rfl rfl ?_
  refine aw_get (q := 4) dX5_sameStep_1 rfl fl_X5_18 hP.1 rfl (fun _ => ?_)
  refine aw_iload_n (q := 5) dX5_sameStep_4 rfl rfl rfl ?_
  refine aw_iconst (q := 6) dX5_sameStep_5 rfl (by omega) ?_
  refine aw_iadd (q := 7) dX5_sameStep_6 rfl (by omega) ?_
  refine aw_iaload (j := a + 1) (q := 8) dX5_sameStep_7 rfl hP.2.1 (by omega) (by omega) (fun r1 => ?_)
  refine aw_aload_n (q := 9) dX5_sameStep_8 rfl rfl rfl ?_
  refine aw_get (q := 12) dX5_sameStep_9 rfl fl_X5_18 hP.1 rfl (fun _ => ?_)
  refine aw_iload_n (q := 13) dX5_sameStep_12 rfl rfl rfl ?_
  refine aw_iaload (j := a) (q := 14) dX5_sameStep_13 rfl hP.2.1 (by omega) (by omega) (fun r2 => ?_)
  refine aw_isub (q := 15) dX5_sameStep_14 rfl (by omega) ?_
  refine aw_aload_n (q := 16) dX5_sameStep_15 rfl rfl rfl ?_
  refine aw_get (q := 19) dX5_sameStep_16 rfl fl_X5_18 hP.1 rfl (fun _ => ?_)
  refine aw_iload_n (q := 20) dX5_sameStep_19 rfl rfl rfl ?_
  refine aw_iconst (q := 21) dX5_sameStep_20 rfl (by omega) ?_
  refine aw_iadd (q := 22) dX5_sameStep_21 rfl (by omega) ?_
  refine aw_iaload (j := b + 1) (q := 23) dX5_sameStep_22 rfl hP.2.1 (by omega) (by omega) (fun r3 => ?_)
  refine aw_aload_n (q := 24) dX5_sameStep_23 rfl rfl rfl ?_
  refine aw_get (q := 27) dX5_sameStep_24 rfl fl_X5_18 hP.1 rfl (fun _ => ?_)
  refine aw_iload_n (q := 28) dX5_sameStep_27 rfl rfl rfl ?_
  refine aw_iaload (j := b) (q := 29) dX5_sameStep_28 rfl hP.2.1 (by omega) (by omega) (fun r4 => ?_)
  refine aw_isub (q := 30) dX5_sameStep_29 rfl (by omega) ?_
  refine aw_ic_ne (t := 103) (q := 33) dX5_sameStep_30 rfl (by decide) (fun b5 => ?_) (fun b5 => ?_)
  · skip
    refine aw_iconst (q := 104) dX5_sameStep_103 rfl (by omega) ?_
    exact aw_zret dX5_sameStep_104 rfl (Or.inl rfl) (by decide) (by decide) ⟨_, rfl, rfl, rfl, congrArg vI (bz_f (by omega)).symm⟩
  · skip
    refine aw_aload_n (q := 34) dX5_sameStep_33 rfl rfl rfl ?_
    refine aw_get (q := 37) dX5_sameStep_34 rfl fl_X5_22 hP.1 rfl (fun _ => ?_)
    refine aw_iload_n (q := 38) dX5_sameStep_37 rfl rfl rfl ?_
    refine aw_iconst (q := 39) dX5_sameStep_38 rfl (by omega) ?_
    refine aw_iadd (q := 40) dX5_sameStep_39 rfl (by omega) ?_
    refine aw_iaload (j := a + 1) (q := 41) dX5_sameStep_40 rfl hP.2.2.1 (by omega) (by omega) (fun r6 => ?_)
    refine aw_aload_n (q := 42) dX5_sameStep_41 rfl rfl rfl ?_
    refine aw_get (q := 45) dX5_sameStep_42 rfl fl_X5_22 hP.1 rfl (fun _ => ?_)
    refine aw_iload_n (q := 46) dX5_sameStep_45 rfl rfl rfl ?_
    refine aw_iaload (j := a) (q := 47) dX5_sameStep_46 rfl hP.2.2.1 (by omega) (by omega) (fun r7 => ?_)
    refine aw_isub (q := 48) dX5_sameStep_47 rfl (by omega) ?_
    refine aw_aload_n (q := 49) dX5_sameStep_48 rfl rfl rfl ?_
    refine aw_get (q := 52) dX5_sameStep_49 rfl fl_X5_22 hP.1 rfl (fun _ => ?_)
    refine aw_iload_n (q := 53) dX5_sameStep_52 rfl rfl rfl ?_
    refine aw_iconst (q := 54) dX5_sameStep_53 rfl (by omega) ?_
    refine aw_iadd (q := 55) dX5_sameStep_54 rfl (by omega) ?_
    refine aw_iaload (j := b + 1) (q := 56) dX5_sameStep_55 rfl hP.2.2.1 (by omega) (by omega) (fun r8 => ?_)
    refine aw_aload_n (q := 57) dX5_sameStep_56 rfl rfl rfl ?_
    refine aw_get (q := 60) dX5_sameStep_57 rfl fl_X5_22 hP.1 rfl (fun _ => ?_)
    refine aw_iload_n (q := 61) dX5_sameStep_60 rfl rfl rfl ?_
    refine aw_iaload (j := b) (q := 62) dX5_sameStep_61 rfl hP.2.2.1 (by omega) (by omega) (fun r9 => ?_)
    refine aw_isub (q := 63) dX5_sameStep_62 rfl (by omega) ?_
    refine aw_ic_ne (t := 103) (q := 66) dX5_sameStep_63 rfl (by decide) (fun b10 => ?_) (fun b10 => ?_)
    · skip
      refine aw_iconst (q := 104) dX5_sameStep_103 rfl (by omega) ?_
      exact aw_zret dX5_sameStep_104 rfl (Or.inl rfl) (by decide) (by decide) ⟨_, rfl, rfl, rfl, congrArg vI (bz_f (by omega)).symm⟩
    · skip
      refine aw_aload_n (q := 67) dX5_sameStep_66 rfl rfl rfl ?_
      refine aw_get (q := 70) dX5_sameStep_67 rfl fl_X5_25 hP.1 rfl (fun _ => ?_)
      refine aw_iload_n (q := 71) dX5_sameStep_70 rfl rfl rfl ?_
      refine aw_iconst (q := 72) dX5_sameStep_71 rfl (by omega) ?_
      refine aw_iadd (q := 73) dX5_sameStep_72 rfl (by omega) ?_
      refine aw_iaload (j := a + 1) (q := 74) dX5_sameStep_73 rfl hP.2.2.2 (by omega) (by omega) (fun r11 => ?_)
      refine aw_aload_n (q := 75) dX5_sameStep_74 rfl rfl rfl ?_
      refine aw_get (q := 78) dX5_sameStep_75 rfl fl_X5_25 hP.1 rfl (fun _ => ?_)
      refine aw_iload_n (q := 79) dX5_sameStep_78 rfl rfl rfl ?_
      refine aw_iaload (j := a) (q := 80) dX5_sameStep_79 rfl hP.2.2.2 (by omega) (by omega) (fun r12 => ?_)
      refine aw_isub (q := 81) dX5_sameStep_80 rfl (by omega) ?_
      refine aw_aload_n (q := 82) dX5_sameStep_81 rfl rfl rfl ?_
      refine aw_get (q := 85) dX5_sameStep_82 rfl fl_X5_25 hP.1 rfl (fun _ => ?_)
      refine aw_iload_n (q := 86) dX5_sameStep_85 rfl rfl rfl ?_
      refine aw_iconst (q := 87) dX5_sameStep_86 rfl (by omega) ?_
      refine aw_iadd (q := 88) dX5_sameStep_87 rfl (by omega) ?_
      refine aw_iaload (j := b + 1) (q := 89) dX5_sameStep_88 rfl hP.2.2.2 (by omega) (by omega) (fun r13 => ?_)
      refine aw_aload_n (q := 90) dX5_sameStep_89 rfl rfl rfl ?_
      refine aw_get (q := 93) dX5_sameStep_90 rfl fl_X5_25 hP.1 rfl (fun _ => ?_)
      refine aw_iload_n (q := 94) dX5_sameStep_93 rfl rfl rfl ?_
      refine aw_iaload (j := b) (q := 95) dX5_sameStep_94 rfl hP.2.2.2 (by omega) (by omega) (fun r14 => ?_)
      refine aw_isub (q := 96) dX5_sameStep_95 rfl (by omega) ?_
      refine aw_ic_ne (t := 103) (q := 99) dX5_sameStep_96 rfl (by decide) (fun b15 => ?_) (fun b15 => ?_)
      · skip
        refine aw_iconst (q := 104) dX5_sameStep_103 rfl (by omega) ?_
        exact aw_zret dX5_sameStep_104 rfl (Or.inl rfl) (by decide) (by decide) ⟨_, rfl, rfl, rfl, congrArg vI (bz_f (by omega)).symm⟩
      · skip
        refine aw_iconst (q := 100) dX5_sameStep_99 rfl (by omega) ?_
        refine aw_goto (q := 104) dX5_sameStep_100 (by decide) ?_
        exact aw_zret dX5_sameStep_104 rfl (Or.inr rfl) (by decide) (by decide) ⟨_, rfl, rfl, rfl, congrArg vI (bz_t (by omega)).symm⟩
/-- steps i, i + 1, .. and j, j + 1, .. are the same, k of each -/
def smN (f g h : Nat → Int) (i j : Nat) (k : Nat) : Prop := ∀ t, t < k → smS f g h (i + t) (j + t)
theorem smN_s {f g h : Nat → Int} {i j k : Nat} (h1 : smN f g h i j k) (h2 : smS f g h (i + k) (j + k)) : smN f g h i j (k + 1) := fun t ht => by
  rcases Nat.lt_succ_iff_lt_or_eq.mp ht with h9 | h9
  · exact h1 t h9
  · rw [h9]; exact h2
set_option maxHeartbeats 4000000 in
set_option maxRecDepth 100000 in
theorem m_X5_sameSteps {n : Nat} {μ : AH} {q m c : Nat} {f g h : Nat → Int} {a b N : Nat} {x y w : Int} (hx : x = (a : Int)) (hy : y = (b : Int)) (hw : w = (N : Int)) (ha : a + N < c) (hb9 : b + N < c) (hb : PBd c f g h) (hP : PL μ q m c f g h) (hc : c ≤ m) (hm : m ≤ 60) : AMet YX5_sameSteps [vR q, vI (x), vI (y), vI (w)] n μ (Rt (fun v n' μ' => n' = n ∧ μ' = μ ∧ ((v = vI 1 ∧ smN f g h a b N) ∨ (v = vI 0 ∧ ¬ smN f g h a b N)))) := by
  refine AMet.of (by decide) rfl (Nat.le_of_ble_eq_true rfl) ?_
  have loop : ∀ (j k : Nat) (kx : Int), N - k < j → kx = (k : Int) → k ≤ N → smN f g h a b k → AW YX5_sameSteps none (Rt (fun v n' μ' => n' = n ∧ μ' = μ ∧ ((v = vI 1 ∧ smN f g h a b N) ∨ (v = vI 0 ∧ ¬ smN f g h a b N)))) 3 [some (vR q), some (vI x), some (vI y), some (vI w), some (vI kx)] [] n μ 0 0 := by
    intro j
    induction j with
    | zero => intro k kx hj; exact absurd hj (Nat.not_lt_zero _)
    | succ j ih =>
      intro k kx hj hk hkN hs
      refine aw_iload (q := 5) dX5_sameSteps_3 rfl rfl ?_
      refine aw_iload_n (q := 6) dX5_sameSteps_5 rfl rfl rfl ?_
      refine aw_ic_ge (t := 32) (q := 9) dX5_sameSteps_6 rfl (by decide) (fun b1 => ?_) (fun b1 => ?_)
      · skip
        refine aw_iconst (q := 33) dX5_sameSteps_32 rfl (by omega) ?_
        exact aw_zret dX5_sameSteps_33 rfl (Or.inr rfl) (by decide) (by decide) ⟨_, rfl, rfl, rfl, Or.inl ⟨rfl, by rwa [show N = k by omega]⟩⟩
      · skip
        refine aw_aload_n (q := 10) dX5_sameSteps_9 rfl rfl rfl ?_
        refine aw_iload_n (q := 11) dX5_sameSteps_10 rfl rfl rfl ?_
        refine aw_iload (q := 13) dX5_sameSteps_11 rfl rfl ?_
        refine aw_iadd (q := 14) dX5_sameSteps_13 rfl (by omega) ?_
        refine aw_iload_n (q := 15) dX5_sameSteps_14 rfl rfl rfl ?_
        refine aw_iload (q := 17) dX5_sameSteps_15 rfl rfl ?_
        refine aw_iadd (q := 18) dX5_sameSteps_17 rfl (by omega) ?_
        refine aw_callV [vI (x + kx), vI (y + kx)] (q := 21) dX5_sameSteps_18 rfl ck_X5_sameStep lk_X5_55 rfl ⟨Nat.le_of_ble_eq_true rfl, Nat.le_of_ble_eq_true rfl⟩ rfl rfl hP.1 rfl (Nat.le_of_ble_eq_true rfl) (by decide) (m_X5_sameStep (a := a + k) (b := b + k) (by omega) (by omega) (by omega) (by omega) hb hP hc hm) rfl (fun _ _ _ h => (Rt_x h).elim) ?_
        rintro v n9 μ9 - ⟨v9, hv9, rfl, rfl, rfl⟩
        obtain rfl := Sum.inl.inj hv9
        refine aw_if_ne (t := 26) (q := 24) dX5_sameSteps_21 rfl (by decide) (fun b2 => ?_) (fun b2 => ?_)
        · skip
          replace b2 := bz_n0.mp b2
          refine aw_iinc (q := 29) dX5_sameSteps_26 rfl rfl (by decide) (by omega) ?_
          refine aw_goto (q := 3) dX5_sameSteps_29 (by decide) ?_
          exact ih (k + 1) _ (by omega) (by omega) (by omega) (smN_s hs (by assumption))
        · skip
          replace b2 := bz_0.mp b2
          refine aw_iconst (q := 25) dX5_sameSteps_24 rfl (by omega) ?_
          exact aw_zret dX5_sameSteps_25 rfl (Or.inl rfl) (by decide) (by decide) ⟨_, rfl, rfl, rfl, Or.inr ⟨rfl, fun h9 => absurd (h9 k (by omega)) (by assumption)⟩⟩
  refine aw_iconst (q := 1) dX5_sameSteps_0 rfl (by omega) ?_
  refine aw_istore (q := 3) dX5_sameSteps_1 rfl (by decide) ?_
  exact loop (N + 1) 0 _ (by omega) rfl (by omega) (fun t ht => absurd ht (Nat.not_lt_zero t))
