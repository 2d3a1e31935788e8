/-! ===== TrackRows$Device (written by m_device.py) ===== -/
/-- Device at q: its places, what was told twice, its clock -/
def DL (μ : AH) (q c : Nat) (f g h : Nat → Int) (tw : Int) (kc : Nat) (ka kb : Nat → Int) : Prop := μ q = oO 2 [vR (q + 1), vR (q + 5), vI tw] ∧ PL μ (q + 1) 60 c f g h ∧ KL μ (q + 5) kc ka kb
/-- a device as told -/
def DOk (c : Nat) (f g h : Nat → Int) (kc : Nat) (ka kb : Nat → Int) : Prop := c ≤ 60 ∧ PBd c f g h ∧ (∀ p, p + 1 < c → f p < f (p + 1)) ∧ kc ≤ 8 ∧ MBd kc ka kb ∧ MSt kc ka kb
/-- the true time between a place and the one before -/
def tB (kc : Nat) (ka kb f : Nat → Int) (r : Nat) : Int := tt kc ka kb (f r) - tt kc ka kb (f (r - 1))
theorem tt_bb {c : Nat} {f g h : Nat → Int} {kc : Nat} {ka kb : Nat → Int} (hO : DOk c f g h kc ka kb) {r : Nat} (hr : r < c) : -1000000 ≤ tt kc ka kb (f r) ∧ tt kc ka kb (f r) ≤ 2000000 := by
  obtain ⟨h1, h2, h3, h4, h5, h6⟩ := hO
  have := h2 r hr
  exact tt_b h5 h6 (by omega)
theorem tB_b {c : Nat} {f g h : Nat → Int} {kc : Nat} {ka kb : Nat → Int} (hO : DOk c f g h kc ka kb) {r : Nat} (h1 : 1 ≤ r) (hr : r < c) : -3000000 ≤ tB kc ka kb f r ∧ tB kc ka kb f r ≤ 3000000 := by
  have a1 := tt_bb hO hr
  have a2 := tt_bb hO (show r - 1 < c by omega)
  unfold tB
  omega
abbrev isJ (f g h : Nat → Int) (kc : Nat) (ka kb : Nat → Int) (spd : Int) (r : Nat) : Prop := (spd * tB kc ka kb f r) * (spd * tB kc ka kb f r) < (g (r - 1) - g r) * (g (r - 1) - g r) + (h (r - 1) - h r) * (h (r - 1) - h r)
abbrev isG (f : Nat → Int) (kc : Nat) (ka kb : Nat → Int) (lim : Int) (r : Nat) : Prop := lim < tB kc ka kb f r
/-- how many of 1, 2, .. below c -/
def cnt (P : Nat → Prop) [DecidablePred P] : Nat → Nat
  | 0 => 0
  | c + 1 => cnt P c + (if 1 ≤ c ∧ P c then 1 else 0)
theorem cnt_le (P : Nat → Prop) [DecidablePred P] : ∀ c, cnt P c ≤ c
  | 0 => Nat.le_refl _
  | c + 1 => by have := cnt_le P c; unfold cnt; split <;> omega
theorem cnt_t {P : Nat → Prop} [DecidablePred P] {c : Nat} (h1 : 1 ≤ c) (h : P c) : cnt P (c + 1) = cnt P c + 1 := by
  show cnt P c + _ = _
  rw [if_pos ⟨h1, h⟩]
theorem cnt_f {P : Nat → Prop} [DecidablePred P] {c : Nat} (h : ¬ P c) : cnt P (c + 1) = cnt P c := by
  show cnt P c + _ = _
  rw [if_neg (fun x => h x.2)]
  rfl
theorem cnt_mono (P : Nat → Prop) [DecidablePred P] {a : Nat} : ∀ {b : Nat}, a ≤ b → cnt P a ≤ cnt P b
  | 0, h => by rw [Nat.le_zero.mp h]; exact Nat.le_refl _
  | b + 1, h => by
    rcases Nat.lt_or_eq_of_le h with q | q
    · exact Nat.le_trans (cnt_mono P (Nat.lt_succ_iff.mp q)) (Nat.le_add_right _ _)
    · rw [q]; exact Nat.le_refl _
/-- which one is number k of them, or -1 -/
def KthR (P : Nat → Prop) [DecidablePred P] (c : Nat) (k v : Int) : Prop := (∃ p : Nat, v = (p : Int) ∧ 1 ≤ p ∧ p < c ∧ P p ∧ (cnt P p : Int) = k) ∨ (v = -1 ∧ ∀ p, 1 ≤ p → p < c → P p → (cnt P p : Int) ≠ k)
theorem KthR_u {P : Nat → Prop} [DecidablePred P] {c : Nat} {k v w : Int} (h1 : KthR P c k v) (h2 : KthR P c k w) : v = w := by
  have key : ∀ p p' : Nat, 1 ≤ p → P p → p < p' → (cnt P p : Int) = k → (cnt P p' : Int) = k → False := fun p p' a1 a2 a3 a4 a5 => by
    have b1 := cnt_mono P (show p + 1 ≤ p' from a3)
    rw [cnt_t a1 a2] at b1
    omega
  rcases h1 with ⟨p, e1, a1, a2, a3, a4⟩ | ⟨e1, a1⟩ <;> rcases h2 with ⟨p', e2, b1, b2, b3, b4⟩ | ⟨e2, b1⟩
  · rcases Nat.lt_trichotomy p p' with q | q | q
    · exact (key p p' a1 a3 q a4 b4).elim
    · rw [e1, e2, q]
    · exact (key p' p b1 b3 q b4 a4).elim
  · exact absurd a4 (b1 p a1 a2 a3)
  · exact absurd b4 (a1 p' b1 b2 b3)
  · rw [e1, e2]
/-- the first of the least -/
def nrN (d : Nat → Int) : Nat → Nat
  | 0 => 0
  | c + 1 => if c = 0 then 0 else if d c < d (nrN d c) then c else nrN d c
theorem nrN_lt (d : Nat → Int) : ∀ c, 0 < c → nrN d c < c
  | 0, h => absurd h (Nat.lt_irrefl 0)
  | c + 1, _ => by
    unfold nrN
    split
    · omega
    · split
      · omega
      · have := nrN_lt d c (by omega); omega
def zabs (a : Int) : Int := if 0 ≤ a then a else -a
set_option maxHeartbeats 4000000 in
set_option maxRecDepth 100000 in
theorem m_X2_trueTimeOf {n : Nat} {μ : AH} {q c : Nat} {f g h : Nat → Int} {tw : Int} {kc : Nat} {ka kb : Nat → Int} {r : Nat} {x : Int} (hx : x = (r : Int)) (hr : r < c) (hD : DL μ q c f g h tw kc ka kb) (hO : DOk c f g h kc ka kb) : AMet YX2_trueTimeOf [vR q, vI (x)] n μ (Pv n μ (vI (tt kc ka kb (f r)))) := by
  refine AMet.of (by decide) rfl (Nat.le_of_ble_eq_true rfl) ?_
  obtain ⟨hc, hb, hsr, hk8, hmb, hms⟩ := id hO
  have hb1 := hb r hr
  refine aw_aload_n (q := 1) dX2_trueTimeOf_0 rfl rfl rfl ?_
  refine aw_get (q := 4) dX2_trueTimeOf_1 rfl fl_X2_23 hD.1 rfl (fun _ => ?_)
  refine aw_aload_n (q := 5) dX2_trueTimeOf_4 rfl rfl rfl ?_
  refine aw_get (q := 8) dX2_trueTimeOf_5 rfl fl_X2_14 hD.1 rfl (fun _ => ?_)
  refine aw_get (q := 11) dX2_trueTimeOf_8 rfl fl_X2_31 hD.2.1.1 rfl (fun _ => ?_)
  refine aw_iload_n (q := 12) dX2_trueTimeOf_11 rfl rfl rfl ?_
  refine aw_iaload (j := r) (q := 13) dX2_trueTimeOf_12 rfl hD.2.1.2.1 (by omega) (by omega) (fun r1 => ?_)
  refine aw_callV [vI (f r)] (q := 16) dX2_trueTimeOf_13 rfl ck_X1_trueTime lk_X2_35 rfl ⟨Nat.le_of_ble_eq_true rfl, Nat.le_of_ble_eq_true rfl⟩ rfl rfl hD.2.2.1 rfl (Nat.le_of_ble_eq_true rfl) (by decide) (m_X1_trueTime hmb hms (by omega) hD.2.2 hk8) rfl (fun _ _ _ h => (Rt_x h).elim) ?_
  rintro v n9 μ9 - ⟨v9, hv9, rfl, rfl, rfl⟩
  obtain rfl := Sum.inl.inj hv9
  exact aw_iret dX2_trueTimeOf_16 rfl (by decide) (by decide) ⟨_, rfl, rfl, rfl, rfl⟩
set_option maxHeartbeats 4000000 in
set_option maxRecDepth 100000 in
theorem m_X2_trueTimeBefore {n : Nat} {μ : AH} {q c : Nat} {f g h : Nat → Int} {tw : Int} {kc : Nat} {ka kb : Nat → Int} {r : Nat} {x : Int} (hx : x = (r : Int)) (hr1 : 1 ≤ r) (hr : r < c) (hD : DL μ q c f g h tw kc ka kb) (hO : DOk c f g h kc ka kb) : AMet YX2_trueTimeBefore [vR q, vI (x)] n μ (Pv n μ (vI (tB kc ka kb f r))) := by
  refine AMet.of (by decide) rfl (Nat.le_of_ble_eq_true rfl) ?_
  have hc := hO.1
  have a1 := tt_bb hO hr
  have a2 := tt_bb hO (show r - 1 < c by omega)
  refine aw_aload_n (q := 1) dX2_trueTimeBefore_0 rfl rfl rfl ?_
  refine aw_iload_n (q := 2) dX2_trueTimeBefore_1 rfl rfl rfl ?_
  refine aw_callV [vI (x)] (q := 5) dX2_trueTimeBefore_2 rfl ck_X2_trueTimeOf lk_X2_39 rfl ⟨Nat.le_of_ble_eq_true rfl, Nat.le_of_ble_eq_true rfl⟩ rfl rfl hD.1 rfl (Nat.le_of_ble_eq_true rfl) (by decide) (m_X2_trueTimeOf hx (by omega) hD hO) rfl (fun _ _ _ h => (Rt_x h).elim) ?_
  rintro v n9 μ9 - ⟨v9, hv9, rfl, rfl, rfl⟩
  obtain rfl := Sum.inl.inj hv9
  refine aw_aload_n (q := 6) dX2_trueTimeBefore_5 rfl rfl rfl ?_
  refine aw_iload_n (q := 7) dX2_trueTimeBefore_6 rfl rfl rfl ?_
  refine aw_iconst (q := 8) dX2_trueTimeBefore_7 rfl (by omega) ?_
  refine aw_isub (q := 9) dX2_trueTimeBefore_8 rfl (by omega) ?_
  refine aw_callV [vI (x - 1)] (q := 12) dX2_trueTimeBefore_9 rfl ck_X2_trueTimeOf lk_X2_39 rfl ⟨Nat.le_of_ble_eq_true rfl, Nat.le_of_ble_eq_true rfl⟩ rfl rfl hD.1 rfl (Nat.le_of_ble_eq_true rfl) (by decide) (m_X2_trueTimeOf (r := r - 1) (by omega) (by omega) hD hO) rfl (fun _ _ _ h => (Rt_x h).elim) ?_
  rintro v n9 μ9 - ⟨v9, hv9, rfl, rfl, rfl⟩
  obtain rfl := Sum.inl.inj hv9
  refine aw_isub (q := 13) dX2_trueTimeBefore_12 rfl (by omega) ?_
  exact aw_iret dX2_trueTimeBefore_13 rfl (by decide) (by decide) ⟨_, rfl, rfl, rfl, rfl⟩
set_option maxHeartbeats 4000000 in
set_option maxRecDepth 100000 in
theorem m_X2_isBehindGap {n : Nat} {μ : AH} {q c : Nat} {f g h : Nat → Int} {tw : Int} {kc : Nat} {ka kb : Nat → Int} {r : Nat} {x lim : Int} (hx : x = (r : Int)) (hr1 : 1 ≤ r) (hr : r < c) (hD : DL μ q c f g h tw kc ka kb) (hO : DOk c f g h kc ka kb) : AMet YX2_isBehindGap [vR q, vI (x), vI (lim)] n μ (Pv n μ (vI (bz (isG f kc ka kb lim r)))) := by
  refine AMet.of (by decide) rfl (Nat.le_of_ble_eq_true rfl) ?_
  refine aw_aload_n (q := 1) dX2_isBehindGap_0 rfl rfl rfl ?_
  refine aw_iload_n (q := 2) dX2_isBehindGap_1 rfl rfl rfl ?_
  refine aw_callV [vI (x)] (q := 5) dX2_isBehindGap_2 rfl ck_X2_trueTimeBefore lk_X2_42 rfl ⟨Nat.le_of_ble_eq_true rfl, Nat.le_of_ble_eq_true rfl⟩ rfl rfl hD.1 rfl (Nat.le_of_ble_eq_true rfl) (by decide) (m_X2_trueTimeBefore hx hr1 hr hD hO) rfl (fun _ _ _ h => (Rt_x h).elim) ?_
  rintro v n9 μ9 - ⟨v9, hv9, rfl, rfl, rfl⟩
  obtain rfl := Sum.inl.inj hv9
  refine aw_iload_n (q := 6) dX2_isBehindGap_5 rfl rfl rfl ?_
  refine aw_ic_le (t := 13) (q := 9) dX2_isBehindGap_6 rfl (by decide) (fun b1 => ?_) (fun b1 => ?_)
  · skip
    refine aw_iconst (q := 14) dX2_isBehindGap_13 rfl (by omega) ?_
    exact aw_zret dX2_isBehindGap_14 rfl (Or.inl rfl) (by decide) (by decide) ⟨_, rfl, rfl, rfl, congrArg vI (bz_f (by omega)).symm⟩
  · skip
    refine aw_iconst (q := 10) dX2_isBehindGap_9 rfl (by omega) ?_
    refine aw_goto (q := 14) dX2_isBehindGap_10 (by decide) ?_
    exact aw_zret dX2_isBehindGap_14 rfl (Or.inr rfl) (by decide) (by decide) ⟨_, rfl, rfl, rfl, congrArg vI (bz_t (by omega)).symm⟩
set_option maxHeartbeats 4000000 in
set_option maxRecDepth 100000 in
theorem m_X2_isJump {n : Nat} {μ : AH} {q c : Nat} {f g h : Nat → Int} {tw : Int} {kc : Nat} {ka kb : Nat → Int} {r : Nat} {x spd : Int} (hx : x = (r : Int)) (hr1 : 1 ≤ r) (hr : r < c) (hsp : 1 ≤ spd ∧ spd ≤ 100) (hD : DL μ q c f g h tw kc ka kb) (hO : DOk c f g h kc ka kb) : AMet YX2_isJump [vR q, vI (x), vI (spd)] n μ (Pv n μ (vI (bz (isJ f g h kc ka kb spd r)))) := by
  refine AMet.of (by decide) rfl (Nat.le_of_ble_eq_true rfl) ?_
  obtain ⟨hc, hb, hsr, hk8, hmb, hms⟩ := id hO
  have a1 := tB_b hO hr1 hr
  have hb1 := hb r hr
  have hb2 := hb (r - 1) (by omega)
  have a2 : -300000000 ≤ spd * tB kc ka kb f r ∧ spd * tB kc ka kb f r ≤ 300000000 := by
    have b1 := Int.mul_le_mul_of_nonneg_left a1.1 (show 0 ≤ spd by omega)
    have b2 := Int.mul_le_mul_of_nonneg_left a1.2 (show 0 ≤ spd by omega)
    constructor <;> omega
  have a3 := sq_b 300000000 a2.1 a2.2
  refine aw_iload_n (q := 1) dX2_isJump_0 rfl rfl rfl ?_
  refine aw_i2l (q := 2) dX2_isJump_1 rfl ?_
  refine aw_aload_n (q := 3) dX2_isJump_2 rfl rfl rfl ?_
  refine aw_iload_n (q := 4) dX2_isJump_3 rfl rfl rfl ?_
  refine aw_callV [vI (x)] (q := 7) dX2_isJump_4 rfl ck_X2_trueTimeBefore lk_X2_42 rfl ⟨Nat.le_of_ble_eq_true rfl, Nat.le_of_ble_eq_true rfl⟩ rfl rfl hD.1 rfl (Nat.le_of_ble_eq_true rfl) (by decide) (m_X2_trueTimeBefore hx hr1 hr hD hO) rfl (fun _ _ _ h => (Rt_x h).elim) ?_
  rintro v n9 μ9 - ⟨v9, hv9, rfl, rfl, rfl⟩
  obtain rfl := Sum.inl.inj hv9
  refine aw_i2l (q := 8) dX2_isJump_7 rfl ?_
  refine aw_lmul (q := 9) dX2_isJump_8 rfl (by omega) ?_
  refine aw_lstore_n (q := 10) dX2_isJump_9 rfl rfl (by decide) ?_
  refine aw_aload_n (q := 11) dX2_isJump_10 rfl rfl rfl ?_
  refine aw_get (q := 14) dX2_isJump_11 rfl fl_X2_14 hD.1 rfl (fun _ => ?_)
  refine aw_iload_n (q := 15) dX2_isJump_14 rfl rfl rfl ?_
  refine aw_aload_n (q := 16) dX2_isJump_15 rfl rfl rfl ?_
  refine aw_get (q := 19) dX2_isJump_16 rfl fl_X2_14 hD.1 rfl (fun _ => ?_)
  refine aw_get (q := 22) dX2_isJump_19 rfl fl_X2_45 hD.2.1.1 rfl (fun _ => ?_)
  refine aw_iload_n (q := 23) dX2_isJump_22 rfl rfl rfl ?_
  refine aw_iconst (q := 24) dX2_isJump_23 rfl (by omega) ?_
  refine aw_isub (q := 25) dX2_isJump_24 rfl (by omega) ?_
  refine aw_iaload (j := r - 1) (q := 26) dX2_isJump_25 rfl hD.2.1.2.2.1 (by omega) (by omega) (fun r1 => ?_)
  refine aw_aload_n (q := 27) dX2_isJump_26 rfl rfl rfl ?_
  refine aw_get (q := 30) dX2_isJump_27 rfl fl_X2_14 hD.1 rfl (fun _ => ?_)
  refine aw_get (q := 33) dX2_isJump_30 rfl fl_X2_48 hD.2.1.1 rfl (fun _ => ?_)
  refine aw_iload_n (q := 34) dX2_isJump_33 rfl rfl rfl ?_
  refine aw_iconst (q := 35) dX2_isJump_34 rfl (by omega) ?_
  refine aw_isub (q := 36) dX2_isJump_35 rfl (by omega) ?_
  refine aw_iaload (j := r - 1) (q := 37) dX2_isJump_36 rfl hD.2.1.2.2.2 (by omega) (by omega) (fun r2 => ?_)
  refine aw_callV [vI (x), vI (g (r - 1)), vI (h (r - 1))] (q := 40) dX2_isJump_37 rfl ck_X5_squareTo lk_X2_51 rfl ⟨Nat.le_of_ble_eq_true rfl, Nat.le_of_ble_eq_true rfl⟩ rfl rfl hD.2.1.1 rfl (Nat.le_of_ble_eq_true rfl) (by decide) (m_X5_squareTo (r := r) hx (by omega) (by omega) (by omega) (by omega) hD.2.1 hc (Nat.le_refl 60)) rfl (fun _ _ _ h => (Rt_x h).elim) ?_
  rintro v n9 μ9 - ⟨v9, hv9, rfl, rfl, rfl⟩
  obtain rfl := Sum.inl.inj hv9
  refine aw_lload_n (q := 41) dX2_isJump_40 rfl rfl rfl ?_
  refine aw_lload_n (q := 42) dX2_isJump_41 rfl rfl rfl ?_
  refine aw_lmul (q := 43) dX2_isJump_42 rfl (by omega) ?_
  refine aw_lcmp (q := 44) dX2_isJump_43 rfl ?_
  refine aw_if_le (t := 51) (q := 47) dX2_isJump_44 rfl (by decide) (fun b3 => ?_) (fun b3 => ?_)
  · skip
    replace b3 := cmpz_le.mp b3
    refine aw_iconst (q := 52) dX2_isJump_51 rfl (by omega) ?_
    exact aw_zret dX2_isJump_52 rfl (Or.inl rfl) (by decide) (by decide) ⟨_, rfl, rfl, rfl, congrArg vI (bz_f (by omega)).symm⟩
  · skip
    replace b3 := mt cmpz_le.mpr b3
    refine aw_iconst (q := 48) dX2_isJump_47 rfl (by omega) ?_
    refine aw_goto (q := 52) dX2_isJump_48 (by decide) ?_
    exact aw_zret dX2_isJump_52 rfl (Or.inr rfl) (by decide) (by decide) ⟨_, rfl, rfl, rfl, congrArg vI (bz_t (by omega)).symm⟩
set_option maxHeartbeats 4000000 in
set_option maxRecDepth 100000 in
theorem m_X2_jumps {n : Nat} {μ : AH} {q c : Nat} {f g h : Nat → Int} {tw : Int} {kc : Nat} {ka kb : Nat → Int} {spd : Int} (hsp : 1 ≤ spd ∧ spd ≤ 100) (hD : DL μ q c f g h tw kc ka kb) (hO : DOk c f g h kc ka kb) : AMet YX2_jumps [vR q, vI (spd)] n μ (Pv n μ (vI (cnt (fun p => isJ f g h kc ka kb spd p) c : Nat))) := by
  refine AMet.of (by decide) rfl (Nat.le_of_ble_eq_true rfl) ?_
  obtain ⟨hc, hb, hsr, hk8, hmb, hms⟩ := id hO
  have loop : ∀ (j p : Nat) (x y : Int), c - p < j → x = (p : Int) → 1 ≤ p → y = (cnt (fun p => isJ f g h kc ka kb spd p) p : Nat) → p ≤ c → AW YX2_jumps none (Pv n μ (vI (cnt (fun p => isJ f g h kc ka kb spd p) c : Nat))) 4 [some (vR q), some (vI spd), some (vI y), some (vI x)] [] n μ 0 0 := by
    intro j
    induction j with
    | zero => intro p x y hj; exact absurd hj (Nat.not_lt_zero _)
    | succ j ih =>
      intro p x y hj hx hp1 hy hpc
      replace ih := fun p9 x9 y9 h1 h2 h3 h4 => ih p9 x9 y9 h1 h2 h3 h4
      refine aw_iload_n (q := 5) dX2_jumps_4 rfl rfl rfl ?_
      refine aw_aload_n (q := 6) dX2_jumps_5 rfl rfl rfl ?_
      refine aw_get (q := 9) dX2_jumps_6 rfl fl_X2_14 hD.1 rfl (fun _ => ?_)
      refine aw_get (q := 12) dX2_jumps_9 rfl fl_X2_55 hD.2.1.1 rfl (fun _ => ?_)
      refine aw_ic_ge (t := 33) (q := 15) dX2_jumps_12 rfl (by decide) (fun b1 => ?_) (fun b1 => ?_)
      · skip
        refine aw_iload_n (q := 34) dX2_jumps_33 rfl rfl rfl ?_
        exact aw_iret dX2_jumps_34 rfl (by decide) (by decide) ⟨_, rfl, rfl, rfl, congrArg vI (by rw [hy, show p = c by omega])⟩
      · skip
        have c1 := cnt_le (fun p => isJ f g h kc ka kb spd p) p
        refine aw_aload_n (q := 16) dX2_jumps_15 rfl rfl rfl ?_
        refine aw_iload_n (q := 17) dX2_jumps_16 rfl rfl rfl ?_
        refine aw_iload_n (q := 18) dX2_jumps_17 rfl rfl rfl ?_
        refine aw_callV [vI (x), vI (spd)] (q := 21) dX2_jumps_18 rfl ck_X2_isJump lk_X2_58 rfl ⟨Nat.le_of_ble_eq_true rfl, Nat.le_of_ble_eq_true rfl⟩ rfl rfl hD.1 rfl (Nat.le_of_ble_eq_true rfl) (by decide) (m_X2_isJump hx (by omega) (by omega) hsp hD hO) rfl (fun _ _ _ h => (Rt_x h).elim) ?_
        rintro v n9 μ9 - ⟨v9, hv9, rfl, rfl, rfl⟩
        obtain rfl := Sum.inl.inj hv9
        refine aw_if_eq (t := 27) (q := 24) dX2_jumps_21 rfl (by decide) (fun b2 => ?_) (fun b2 => ?_)
        · skip
          replace b2 := bz_0.mp b2
          refine aw_iinc (q := 30) dX2_jumps_27 rfl rfl (by decide) (by omega) ?_
          refine aw_goto (q := 4) dX2_jumps_30 (by decide) ?_
          exact ih (p + 1) _ _ (by omega) (by omega) (by omega) (by first | (rw [cnt_t (by omega) (by assumption)]; omega) | (rw [cnt_f (by assumption)]; omega)) (by omega)
        · skip
          replace b2 := bz_n0.mp b2
          refine aw_iinc (q := 27) dX2_jumps_24 rfl rfl (by decide) (by omega) ?_
          refine aw_iinc (q := 30) dX2_jumps_27 rfl rfl (by decide) (by omega) ?_
          refine aw_goto (q := 4) dX2_jumps_30 (by decide) ?_
          exact ih (p + 1) _ _ (by omega) (by omega) (by omega) (by first | (rw [cnt_t (by omega) (by assumption)]; omega) | (rw [cnt_f (by assumption)]; omega)) (by omega)
  have zero : c = 0 → cnt (fun p => isJ f g h kc ka kb spd p) c = 0 → AW YX2_jumps none (Pv n μ (vI (cnt (fun p => isJ f g h kc ka kb spd p) c : Nat))) 4 [some (vR q), some (vI spd), some (vI 0), some (vI 1)] [] n μ 0 0 := by
    intro hc0 e0
    refine aw_iload_n (q := 5) dX2_jumps_4 rfl rfl rfl ?_
    refine aw_aload_n (q := 6) dX2_jumps_5 rfl rfl rfl ?_
    refine aw_get (q := 9) dX2_jumps_6 rfl fl_X2_14 hD.1 rfl (fun _ => ?_)
    refine aw_get (q := 12) dX2_jumps_9 rfl fl_X2_55 hD.2.1.1 rfl (fun _ => ?_)
    refine aw_ic_ge (t := 33) (q := 15) dX2_jumps_12 rfl (by decide) (fun b1 => ?_) (fun b1 => ?_)
    · skip
      refine aw_iload_n (q := 34) dX2_jumps_33 rfl rfl rfl ?_
      exact aw_iret dX2_jumps_34 rfl (by decide) (by decide) ⟨_, rfl, rfl, rfl, congrArg vI (by rw [e0]; rfl)⟩
    · skip
      exact absurd b1 (by omega)
  refine aw_iconst (q := 1) dX2_jumps_0 rfl (by omega) ?_
  refine aw_istore_n (q := 2) dX2_jumps_1 rfl rfl (by decide) ?_
  refine aw_iconst (q := 3) dX2_jumps_2 rfl (by omega) ?_
  refine aw_istore_n (q := 4) dX2_jumps_3 rfl rfl (by decide) ?_
  rcases Nat.eq_zero_or_pos c with hc0 | hc0
  · have e0 : cnt (fun p => isJ f g h kc ka kb spd p) c = 0 := by rw [hc0]; rfl
    exact zero hc0 e0
  · exact loop (c + 1) 1 _ _ (by omega) rfl (by omega) rfl (by omega)
set_option maxHeartbeats 4000000 in
set_option maxRecDepth 100000 in
theorem m_X2_gaps {n : Nat} {μ : AH} {q c : Nat} {f g h : Nat → Int} {tw : Int} {kc : Nat} {ka kb : Nat → Int} {lim : Int}  (hD : DL μ q c f g h tw kc ka kb) (hO : DOk c f g h kc ka kb) : AMet YX2_gaps [vR q, vI (lim)] n μ (Pv n μ (vI (cnt (fun p => isG f kc ka kb lim p) c : Nat))) := by
  refine AMet.of (by decide) rfl (Nat.le_of_ble_eq_true rfl) ?_
  obtain ⟨hc, hb, hsr, hk8, hmb, hms⟩ := id hO
  have loop : ∀ (j p : Nat) (x y : Int), c - p < j → x = (p : Int) → 1 ≤ p → y = (cnt (fun p => isG f kc ka kb lim p) p : Nat) → p ≤ c → AW YX2_gaps none (Pv n μ (vI (cnt (fun p => isG f kc ka kb lim p) c : Nat))) 4 [some (vR q), some (vI lim), some (vI y), some (vI x)] [] n μ 0 0 := by
    intro j
    induction j with
    | zero => intro p x y hj; exact absurd hj (Nat.not_lt_zero _)
    | succ j ih =>
      intro p x y hj hx hp1 hy hpc
      replace ih := fun p9 x9 y9 h1 h2 h3 h4 => ih p9 x9 y9 h1 h2 h3 h4
      refine aw_iload_n (q := 5) dX2_gaps_4 rfl rfl rfl ?_
      refine aw_aload_n (q := 6) dX2_gaps_5 rfl rfl rfl ?_
      refine aw_get (q := 9) dX2_gaps_6 rfl fl_X2_14 hD.1 rfl (fun _ => ?_)
      refine aw_get (q := 12) dX2_gaps_9 rfl fl_X2_55 hD.2.1.1 rfl (fun _ => ?_)
      refine aw_ic_ge (t := 33) (q := 15) dX2_gaps_12 rfl (by decide) (fun b1 => ?_) (fun b1 => ?_)
      · skip
        refine aw_iload_n (q := 34) dX2_gaps_33 rfl rfl rfl ?_
        exact aw_iret dX2_gaps_34 rfl (by decide) (by decide) ⟨_, rfl, rfl, rfl, congrArg vI (by rw [hy, show p = c by omega])⟩
      · skip
        have c1 := cnt_le (fun p => isG f kc ka kb lim p) p
        refine aw_aload_n (q := 16) dX2_gaps_15 rfl rfl rfl ?_
        refine aw_iload_n (q := 17) dX2_gaps_16 rfl rfl rfl ?_
        refine aw_iload_n (q := 18) dX2_gaps_17 rfl rfl rfl ?_
        refine aw_callV [vI (x), vI (lim)] (q := 21) dX2_gaps_18 rfl ck_X2_isBehindGap lk_X2_62 rfl ⟨Nat.le_of_ble_eq_true rfl, Nat.le_of_ble_eq_true rfl⟩ rfl rfl hD.1 rfl (Nat.le_of_ble_eq_true rfl) (by decide) (m_X2_isBehindGap hx (by omega) (by omega) hD hO) rfl (fun _ _ _ h => (Rt_x h).elim) ?_
        rintro v n9 μ9 - ⟨v9, hv9, rfl, rfl, rfl⟩
        obtain rfl := Sum.inl.inj hv9
        refine aw_if_eq (t := 27) (q := 24) dX2_gaps_21 rfl (by decide) (fun b2 => ?_) (fun b2 => ?_)
        · skip
          replace b2 := bz_0.mp b2
          refine aw_iinc (q := 30) dX2_gaps_27 rfl rfl (by decide) (by omega) ?_
          refine aw_goto (q := 4) dX2_gaps_30 (by decide) ?_
          exact ih (p + 1) _ _ (by omega) (by omega) (by omega) (by first | (rw [cnt_t (by omega) (by assumption)]; omega) | (rw [cnt_f (by assumption)]; omega)) (by omega)
        · skip
          replace b2 := bz_n0.mp b2
          refine aw_iinc (q := 27) dX2_gaps_24 rfl rfl (by decide) (by omega) ?_
          refine aw_iinc (q := 30) dX2_gaps_27 rfl rfl (by decide) (by omega) ?_
          refine aw_goto (q := 4) dX2_gaps_30 (by decide) ?_
          exact ih (p + 1) _ _ (by omega) (by omega) (by omega) (by first | (rw [cnt_t (by omega) (by assumption)]; omega) | (rw [cnt_f (by assumption)]; omega)) (by omega)
  have zero : c = 0 → cnt (fun p => isG f kc ka kb lim p) c = 0 → AW YX2_gaps none (Pv n μ (vI (cnt (fun p => isG f kc ka kb lim p) c : Nat))) 4 [some (vR q), some (vI lim), some (vI 0), some (vI 1)] [] n μ 0 0 := by
    intro hc0 e0
    refine aw_iload_n (q := 5) dX2_gaps_4 rfl rfl rfl ?_
    refine aw_aload_n (q := 6) dX2_gaps_5 rfl rfl rfl ?_
    refine aw_get (q := 9) dX2_gaps_6 rfl fl_X2_14 hD.1 rfl (fun _ => ?_)
    refine aw_get (q := 12) dX2_gaps_9 rfl fl_X2_55 hD.2.1.1 rfl (fun _ => ?_)
    refine aw_ic_ge (t := 33) (q := 15) dX2_gaps_12 rfl (by decide) (fun b1 => ?_) (fun b1 => ?_)
    · skip
      refine aw_iload_n (q := 34) dX2_gaps_33 rfl rfl rfl ?_
      exact aw_iret dX2_gaps_34 rfl (by decide) (by decide) ⟨_, rfl, rfl, rfl, congrArg vI (by rw [e0]; rfl)⟩
    · skip
      exact absurd b1 (by omega)
  refine aw_iconst (q := 1) dX2_gaps_0 rfl (by omega) ?_
  refine aw_istore_n (q := 2) dX2_gaps_1 rfl rfl (by decide) ?_
  refine aw_iconst (q := 3) dX2_gaps_2 rfl (by omega) ?_
  refine aw_istore_n (q := 4) dX2_gaps_3 rfl rfl (by decide) ?_
  rcases Nat.eq_zero_or_pos c with hc0 | hc0
  · have e0 : cnt (fun p => isG f kc ka kb lim p) c = 0 := by rw [hc0]; rfl
    exact zero hc0 e0
  · exact loop (c + 1) 1 _ _ (by omega) rfl (by omega) rfl (by omega)
set_option maxHeartbeats 4000000 in
set_option maxRecDepth 100000 in
theorem m_X2_placeOfJump {n : Nat} {μ : AH} {q c : Nat} {f g h : Nat → Int} {tw : Int} {kc : Nat} {ka kb : Nat → Int} {k spd : Int} (hsp : 1 ≤ spd ∧ spd ≤ 100) (hD : DL μ q c f g h tw kc ka kb) (hO : DOk c f g h kc ka kb) : AMet YX2_placeOfJump [vR q, vI (k), vI (spd)] n μ (Rt (fun v n' μ' => n' = n ∧ μ' = μ ∧ ∃ r : Int, v = vI r ∧ KthR (fun p => isJ f g h kc ka kb spd p) c k r)) := by
  refine AMet.of (by decide) rfl (Nat.le_of_ble_eq_true rfl) ?_
  obtain ⟨hc, hb, hsr, hk8, hmb, hms⟩ := id hO
  have loop : ∀ (j p : Nat) (x y : Int), c - p < j → x = (p : Int) → 1 ≤ p → y = (cnt (fun p => isJ f g h kc ka kb spd p) p : Nat) → (∀ p9, 1 ≤ p9 → p9 < p → isJ f g h kc ka kb spd p9 → (cnt (fun p => isJ f g h kc ka kb spd p) p9 : Int) ≠ k) → AW YX2_placeOfJump none (Rt (fun v n' μ' => n' = n ∧ μ' = μ ∧ ∃ r : Int, v = vI r ∧ KthR (fun p => isJ f g h kc ka kb spd p) c k r)) 5 [some (vR q), some (vI k), some (vI spd), some (vI y), some (vI x)] [] n μ 0 0 := by
    intro j
    induction j with
    | zero => intro p x y hj; exact absurd hj (Nat.not_lt_zero _)
    | succ j ih =>
      intro p x y hj hx hp1 hy hno
      refine aw_iload (q := 7) dX2_placeOfJump_5 rfl rfl ?_
      refine aw_aload_n (q := 8) dX2_placeOfJump_7 rfl rfl rfl ?_
      refine aw_get (q := 11) dX2_placeOfJump_8 rfl fl_X2_14 hD.1 rfl (fun _ => ?_)
      refine aw_get (q := 14) dX2_placeOfJump_11 rfl fl_X2_55 hD.2.1.1 rfl (fun _ => ?_)
      refine aw_ic_ge (t := 44) (q := 17) dX2_placeOfJump_14 rfl (by decide) (fun b1 => ?_) (fun b1 => ?_)
      · skip
        refine aw_iconst (q := 45) dX2_placeOfJump_44 rfl (by omega) ?_
        exact aw_iret dX2_placeOfJump_45 rfl (by decide) (by decide) ⟨_, rfl, rfl, rfl, _, rfl, Or.inr ⟨rfl, fun p9 h1 h2 h3 => hno p9 h1 (by omega) h3⟩⟩
      · skip
        have c1 := cnt_le (fun p => isJ f g h kc ka kb spd p) p
        refine aw_aload_n (q := 18) dX2_placeOfJump_17 rfl rfl rfl ?_
        refine aw_iload (q := 20) dX2_placeOfJump_18 rfl rfl ?_
        refine aw_iload_n (q := 21) dX2_placeOfJump_20 rfl rfl rfl ?_
        refine aw_callV [vI (x), vI (spd)] (q := 24) dX2_placeOfJump_21 rfl ck_X2_isJump lk_X2_58 rfl ⟨Nat.le_of_ble_eq_true rfl, Nat.le_of_ble_eq_true rfl⟩ rfl rfl hD.1 rfl (Nat.le_of_ble_eq_true rfl) (by decide) (m_X2_isJump hx (by omega) (by omega) hsp hD hO) rfl (fun _ _ _ h => (Rt_x h).elim) ?_
        rintro v n9 μ9 - ⟨v9, hv9, rfl, rfl, rfl⟩
        obtain rfl := Sum.inl.inj hv9
        refine aw_if_eq (t := 38) (q := 27) dX2_placeOfJump_24 rfl (by decide) (fun b2 => ?_) (fun b2 => ?_)
        · skip
          replace b2 := bz_0.mp b2
          refine aw_iinc (q := 41) dX2_placeOfJump_38 rfl rfl (by decide) (by omega) ?_
          refine aw_goto (q := 5) dX2_placeOfJump_41 (by decide) ?_
          exact ih (p + 1) _ _ (by omega) (by omega) (by omega) (by first | (rw [cnt_t (P := (fun p => isJ f g h kc ka kb spd p)) (by omega) (by assumption)]; omega) | (rw [cnt_f (P := (fun p => isJ f g h kc ka kb spd p)) (by assumption)]; omega)) (fun p9 h1 h2 h3 => by rcases Nat.lt_succ_iff_lt_or_eq.mp h2 with h8 | h8; exact hno p9 h1 h8 h3; subst h8; first | omega | exact absurd h3 (by assumption))
        · skip
          replace b2 := bz_n0.mp b2
          refine aw_iload_n (q := 28) dX2_placeOfJump_27 rfl rfl rfl ?_
          refine aw_iinc (q := 31) dX2_placeOfJump_28 rfl rfl (by decide) (by omega) ?_
          refine aw_iload_n (q := 32) dX2_placeOfJump_31 rfl rfl rfl ?_
          refine aw_ic_ne (t := 38) (q := 35) dX2_placeOfJump_32 rfl (by decide) (fun b3 => ?_) (fun b3 => ?_)
          · skip
            refine aw_iinc (q := 41) dX2_placeOfJump_38 rfl rfl (by decide) (by omega) ?_
            refine aw_goto (q := 5) dX2_placeOfJump_41 (by decide) ?_
            exact ih (p + 1) _ _ (by omega) (by omega) (by omega) (by first | (rw [cnt_t (P := (fun p => isJ f g h kc ka kb spd p)) (by omega) (by assumption)]; omega) | (rw [cnt_f (P := (fun p => isJ f g h kc ka kb spd p)) (by assumption)]; omega)) (fun p9 h1 h2 h3 => by rcases Nat.lt_succ_iff_lt_or_eq.mp h2 with h8 | h8; exact hno p9 h1 h8 h3; subst h8; first | omega | exact absurd h3 (by assumption))
          · skip
            refine aw_iload (q := 37) dX2_placeOfJump_35 rfl rfl ?_
            exact aw_iret dX2_placeOfJump_37 rfl (by decide) (by decide) ⟨_, rfl, rfl, rfl, _, rfl, Or.inl ⟨p, hx, by omega, by omega, by assumption, by omega⟩⟩
  refine aw_iconst (q := 1) dX2_placeOfJump_0 rfl (by omega) ?_
  refine aw_istore_n (q := 2) dX2_placeOfJump_1 rfl rfl (by decide) ?_
  refine aw_iconst (q := 3) dX2_placeOfJump_2 rfl (by omega) ?_
  refine aw_istore (q := 5) dX2_placeOfJump_3 rfl (by decide) ?_
  exact loop (c + 1) 1 _ _ (by omega) rfl (by omega) rfl (fun p9 h1 h2 => by omega)
set_option maxHeartbeats 4000000 in
set_option maxRecDepth 100000 in
theorem m_X2_placeBehindGap {n : Nat} {μ : AH} {q c : Nat} {f g h : Nat → Int} {tw : Int} {kc : Nat} {ka kb : Nat → Int} {k lim : Int}  (hD : DL μ q c f g h tw kc ka kb) (hO : DOk c f g h kc ka kb) : AMet YX2_placeBehindGap [vR q, vI (k), vI (lim)] n μ (Rt (fun v n' μ' => n' = n ∧ μ' = μ ∧ ∃ r : Int, v = vI r ∧ KthR (fun p => isG f kc ka kb lim p) c k r)) := by
  refine AMet.of (by decide) rfl (Nat.le_of_ble_eq_true rfl) ?_
  obtain ⟨hc, hb, hsr, hk8, hmb, hms⟩ := id hO
  have loop : ∀ (j p : Nat) (x y : Int), c - p < j → x = (p : Int) → 1 ≤ p → y = (cnt (fun p => isG f kc ka kb lim p) p : Nat) → (∀ p9, 1 ≤ p9 → p9 < p → isG f kc ka kb lim p9 → (cnt (fun p => isG f kc ka kb lim p) p9 : Int) ≠ k) → AW YX2_placeBehindGap none (Rt (fun v n' μ' => n' = n ∧ μ' = μ ∧ ∃ r : Int, v = vI r ∧ KthR (fun p => isG f kc ka kb lim p) c k r)) 5 [some (vR q), some (vI k), some (vI lim), some (vI y), some (vI x)] [] n μ 0 0 := by
    intro j
    induction j with
    | zero => intro p x y hj; exact absurd hj (Nat.not_lt_zero _)
    | succ j ih =>
      intro p x y hj hx hp1 hy hno
      refine aw_iload (q := 7) dX2_placeBehindGap_5 rfl rfl ?_
      refine aw_aload_n (q := 8) dX2_placeBehindGap_7 rfl rfl rfl ?_
      refine aw_get (q := 11) dX2_placeBehindGap_8 rfl fl_X2_14 hD.1 rfl (fun _ => ?_)
      refine aw_get (q := 14) dX2_placeBehindGap_11 rfl fl_X2_55 hD.2.1.1 rfl (fun _ => ?_)
      refine aw_ic_ge (t := 44) (q := 17) dX2_placeBehindGap_14 rfl (by decide) (fun b1 => ?_) (fun b1 => ?_)
      · skip
        refine aw_iconst (q := 45) dX2_placeBehindGap_44 rfl (by omega) ?_
        exact aw_iret dX2_placeBehindGap_45 rfl (by decide) (by decide) ⟨_, rfl, rfl, rfl, _, rfl, Or.inr ⟨rfl, fun p9 h1 h2 h3 => hno p9 h1 (by omega) h3⟩⟩
      · skip
        have c1 := cnt_le (fun p => isG f kc ka kb lim p) p
        refine aw_aload_n (q := 18) dX2_placeBehindGap_17 rfl rfl rfl ?_
        refine aw_iload (q := 20) dX2_placeBehindGap_18 rfl rfl ?_
        refine aw_iload_n (q := 21) dX2_placeBehindGap_20 rfl rfl rfl ?_
        refine aw_callV [vI (x), vI (lim)] (q := 24) dX2_placeBehindGap_21 rfl ck_X2_isBehindGap lk_X2_62 rfl ⟨Nat.le_of_ble_eq_true rfl, Nat.le_of_ble_eq_true rfl⟩ rfl rfl hD.1 rfl (Nat.le_of_ble_eq_true rfl) (by decide) (m_X2_isBehindGap hx (by omega) (by omega) hD hO) rfl (fun _ _ _ h => (Rt_x h).elim) ?_
        rintro v n9 μ9 - ⟨v9, hv9, rfl, rfl, rfl⟩
        obtain rfl := Sum.inl.inj hv9
        refine aw_if_eq (t := 38) (q := 27) dX2_placeBehindGap_24 rfl (by decide) (fun b2 => ?_) (fun b2 => ?_)
        · skip
          replace b2 := bz_0.mp b2
          refine aw_iinc (q := 41) dX2_placeBehindGap_38 rfl rfl (by decide) (by omega) ?_
          refine aw_goto (q := 5) dX2_placeBehindGap_41 (by decide) ?_
          exact ih (p + 1) _ _ (by omega) (by omega) (by omega) (by first | (rw [cnt_t (P := (fun p => isG f kc ka kb lim p)) (by omega) (by assumption)]; omega) | (rw [cnt_f (P := (fun p => isG f kc ka kb lim p)) (by assumption)]; omega)) (fun p9 h1 h2 h3 => by rcases Nat.lt_succ_iff_lt_or_eq.mp h2 with h8 | h8; exact hno p9 h1 h8 h3; subst h8; first | omega | exact absurd h3 (by assumption))
        · skip
          replace b2 := bz_n0.mp b2
          refine aw_iload_n (q := 28) dX2_placeBehindGap_27 rfl rfl rfl ?_
          refine aw_iinc (q := 31) dX2_placeBehindGap_28 rfl rfl (by decide) (by omega) ?_
          refine aw_iload_n (q := 32) dX2_placeBehindGap_31 rfl rfl rfl ?_
          refine aw_ic_ne (t := 38) (q := 35) dX2_placeBehindGap_32 rfl (by decide) (fun b3 => ?_) (fun b3 => ?_)
          · skip
            refine aw_iinc (q := 41) dX2_placeBehindGap_38 rfl rfl (by decide) (by omega) ?_
            refine aw_goto (q := 5) dX2_placeBehindGap_41 (by decide) ?_
            exact ih (p + 1) _ _ (by omega) (by omega) (by omega) (by first | (rw [cnt_t (P := (fun p => isG f kc ka kb lim p)) (by omega) (by assumption)]; omega) | (rw [cnt_f (P := (fun p => isG f kc ka kb lim p)) (by assumption)]; omega)) (fun p9 h1 h2 h3 => by rcases Nat.lt_succ_iff_lt_or_eq.mp h2 with h8 | h8; exact hno p9 h1 h8 h3; subst h8; first | omega | exact absurd h3 (by assumption))
          · skip
            refine aw_iload (q := 37) dX2_placeBehindGap_35 rfl rfl ?_
            exact aw_iret dX2_placeBehindGap_37 rfl (by decide) (by decide) ⟨_, rfl, rfl, rfl, _, rfl, Or.inl ⟨p, hx, by omega, by omega, by assumption, by omega⟩⟩
  refine aw_iconst (q := 1) dX2_placeBehindGap_0 rfl (by omega) ?_
  refine aw_istore_n (q := 2) dX2_placeBehindGap_1 rfl rfl (by decide) ?_
  refine aw_iconst (q := 3) dX2_placeBehindGap_2 rfl (by omega) ?_
  refine aw_istore (q := 5) dX2_placeBehindGap_3 rfl (by decide) ?_
  exact loop (c + 1) 1 _ _ (by omega) rfl (by omega) rfl (fun p9 h1 h2 => by omega)
theorem nrN_a {d : Nat → Int} {c : Nat} (h : c = 0) : nrN d (c + 1) = c := by
  subst h; rfl
theorem nrN_t {d : Nat → Int} {c : Nat} (h : c ≠ 0) (h1 : d c < d (nrN d c)) : nrN d (c + 1) = c := by
  show (if c = 0 then 0 else if d c < d (nrN d c) then c else nrN d c) = c
  rw [if_neg h, if_pos h1]
theorem nrN_f {d : Nat → Int} {c : Nat} (h : c ≠ 0) (h1 : ¬ d c < d (nrN d c)) : nrN d (c + 1) = nrN d c := by
  show (if c = 0 then 0 else if d c < d (nrN d c) then c else nrN d c) = _
  rw [if_neg h, if_neg h1]
set_option maxHeartbeats 4000000 in
set_option maxRecDepth 100000 in
theorem m_X2_placeNearestTo {n : Nat} {μ : AH} {q c : Nat} {f g h : Nat → Int} {tw : Int} {kc : Nat} {ka kb : Nat → Int} {t : Int} (ht : 0 ≤ t ∧ t ≤ 1000000) (hD : DL μ q c f g h tw kc ka kb) (hO : DOk c f g h kc ka kb) : AMet YX2_placeNearestTo [vR q, vI (t)] n μ (Pv n μ (vI (if c = 0 then -1 else (nrN (fun p => zabs (tt kc ka kb (f p) - t)) c : Nat)))) := by
  refine AMet.of (by decide) rfl (Nat.le_of_ble_eq_true rfl) ?_
  obtain ⟨hc, hb, hsr, hk8, hmb, hms⟩ := id hO
  have loop : ∀ (j p : Nat) (x y z : Int), c - p < j → x = (p : Int) → p ≤ c → ((p = 0 ∧ y = -1 ∧ z = 0) ∨ (p ≠ 0 ∧ y = (nrN (fun p => zabs (tt kc ka kb (f p) - t)) p : Nat) ∧ z = (fun p => zabs (tt kc ka kb (f p) - t)) (nrN (fun p => zabs (tt kc ka kb (f p) - t)) p))) → AW YX2_placeNearestTo none (Pv n μ (vI (if c = 0 then -1 else (nrN (fun p => zabs (tt kc ka kb (f p) - t)) c : Nat)))) 7 [some (vR q), some (vI t), some (vI y), some (vI z), some (vI x), none] [] n μ 0 0 := by
    intro j
    induction j with
    | zero => intro p x y z hj; exact absurd hj (Nat.not_lt_zero _)
    | succ j ih =>
      intro p x y z hj hx hp1 hbest
      refine aw_iload (q := 9) dX2_placeNearestTo_7 rfl rfl ?_
      refine aw_aload_n (q := 10) dX2_placeNearestTo_9 rfl rfl rfl ?_
      refine aw_get (q := 13) dX2_placeNearestTo_10 rfl fl_X2_14 hD.1 rfl (fun _ => ?_)
      refine aw_get (q := 16) dX2_placeNearestTo_13 rfl fl_X2_55 hD.2.1.1 rfl (fun _ => ?_)
      refine aw_ic_ge (t := 55) (q := 19) dX2_placeNearestTo_16 rfl (by decide) (fun b1 => ?_) (fun b1 => ?_)
      · skip
        refine aw_iload_n (q := 56) dX2_placeNearestTo_55 rfl rfl rfl ?_
        exact aw_iret dX2_placeNearestTo_56 rfl (by decide) (by decide) ⟨_, rfl, rfl, rfl, congrArg vI (by rcases hbest with ⟨hp0, hy, hz⟩ | ⟨hp0, hy, hz⟩; rw [if_pos (by omega)]; exact hy; rw [if_neg (by omega), hy, show p = c by omega])⟩
      · skip
        have a1 := tt_bb hO (show p < c by omega)
        refine aw_aload_n (q := 20) dX2_placeNearestTo_19 rfl rfl rfl ?_
        refine aw_iload (q := 22) dX2_placeNearestTo_20 rfl rfl ?_
        refine aw_callV [vI (x)] (q := 25) dX2_placeNearestTo_22 rfl ck_X2_trueTimeOf lk_X2_39 rfl ⟨Nat.le_of_ble_eq_true rfl, Nat.le_of_ble_eq_true rfl⟩ rfl rfl hD.1 rfl (Nat.le_of_ble_eq_true rfl) (by decide) (m_X2_trueTimeOf hx (by omega) hD hO) rfl (fun _ _ _ h => (Rt_x h).elim) ?_
        rintro v n9 μ9 - ⟨v9, hv9, rfl, rfl, rfl⟩
        obtain rfl := Sum.inl.inj hv9
        refine aw_iload_n (q := 26) dX2_placeNearestTo_25 rfl rfl rfl ?_
        refine aw_isub (q := 27) dX2_placeNearestTo_26 rfl (by omega) ?_
        refine aw_abs (q := 30) dX2_placeNearestTo_27 rfl lk_X2_65 (by decide) (Nat.le_of_ble_eq_true rfl) (by decide) (by decide) (by split <;> omega) ?_
        refine aw_istore (q := 32) dX2_placeNearestTo_30 rfl (by decide) ?_
        rcases hbest with ⟨hp0, hy, hz⟩ | ⟨hp0, hy, hz⟩
        · skip
          refine aw_iload_n (q := 33) dX2_placeNearestTo_32 rfl rfl rfl ?_
          refine aw_iconst (q := 34) dX2_placeNearestTo_33 rfl (by omega) ?_
          refine aw_ic_eq (t := 43) (q := 37) dX2_placeNearestTo_34 rfl (by decide) (fun b2 => ?_) (fun b2 => ?_)
          · skip
            refine aw_iload (q := 45) dX2_placeNearestTo_43 rfl rfl ?_
            refine aw_istore_n (q := 46) dX2_placeNearestTo_45 rfl rfl (by decide) ?_
            refine aw_iload (q := 48) dX2_placeNearestTo_46 rfl rfl ?_
            refine aw_istore_n (q := 49) dX2_placeNearestTo_48 rfl rfl (by decide) ?_
            refine aw_iinc (q := 52) dX2_placeNearestTo_49 rfl rfl (by decide) (by omega) ?_
            refine aw_goto (q := 7) dX2_placeNearestTo_52 (by decide) ?_
            refine aw_ls (ls := [some (vR q), some (vI (t)), some (vI (x)), some (vI (if 0 ≤ ((tt kc ka kb (f p)) - t) then ((tt kc ka kb (f p)) - t) else -((tt kc ka kb (f p)) - t))), some (vI (x + 1)), none]) ⟨rfl, ⟨rfl, ⟨rfl, ⟨rfl, ⟨rfl, trivial⟩⟩⟩⟩⟩ ?_
            exact ih (p + 1) _ _ _ (by omega) (by omega) (by omega) (Or.inr ⟨by omega, by rw [nrN_a (by omega)]; exact hx, by rw [nrN_a (by omega)]; rfl⟩)
          · skip
            exact absurd b2 (by omega)
        · skip
          refine aw_iload_n (q := 33) dX2_placeNearestTo_32 rfl rfl rfl ?_
          refine aw_iconst (q := 34) dX2_placeNearestTo_33 rfl (by omega) ?_
          refine aw_ic_eq (t := 43) (q := 37) dX2_placeNearestTo_34 rfl (by decide) (fun b3 => ?_) (fun b3 => ?_)
          · skip
            exact absurd b3 (by omega)
          · skip
            refine aw_iload (q := 39) dX2_placeNearestTo_37 rfl rfl ?_
            refine aw_iload_n (q := 40) dX2_placeNearestTo_39 rfl rfl rfl ?_
            refine aw_ic_ge (t := 49) (q := 43) dX2_placeNearestTo_40 rfl (by decide) (fun b4 => ?_) (fun b4 => ?_)
            · skip
              refine aw_iinc (q := 52) dX2_placeNearestTo_49 rfl rfl (by decide) (by omega) ?_
              refine aw_goto (q := 7) dX2_placeNearestTo_52 (by decide) ?_
              refine aw_ls (ls := [some (vR q), some (vI (t)), some (vI (y)), some (vI (z)), some (vI (x + 1)), none]) ⟨rfl, ⟨rfl, ⟨rfl, ⟨rfl, ⟨rfl, trivial⟩⟩⟩⟩⟩ ?_
              exact ih (p + 1) _ _ _ (by omega) (by omega) (by omega) (Or.inr ⟨by omega, by rw [nrN_f (d := (fun p => zabs (tt kc ka kb (f p) - t))) (by omega) (by have hz2 : z = zabs (tt kc ka kb (f (nrN (fun p => zabs (tt kc ka kb (f p) - t)) p)) - t) := hz; show ¬ zabs (tt kc ka kb (f p) - t) < zabs (tt kc ka kb (f (nrN (fun p => zabs (tt kc ka kb (f p) - t)) p)) - t); rw [← hz2]; exact Int.not_lt.mpr (by assumption))]; exact hy, by rw [nrN_f (d := (fun p => zabs (tt kc ka kb (f p) - t))) (by omega) (by have hz2 : z = zabs (tt kc ka kb (f (nrN (fun p => zabs (tt kc ka kb (f p) - t)) p)) - t) := hz; show ¬ zabs (tt kc ka kb (f p) - t) < zabs (tt kc ka kb (f (nrN (fun p => zabs (tt kc ka kb (f p) - t)) p)) - t); rw [← hz2]; exact Int.not_lt.mpr (by assumption))]; exact hz⟩)
            · skip
              refine aw_iload (q := 45) dX2_placeNearestTo_43 rfl rfl ?_
              refine aw_istore_n (q := 46) dX2_placeNearestTo_45 rfl rfl (by decide) ?_
              refine aw_iload (q := 48) dX2_placeNearestTo_46 rfl rfl ?_
              refine aw_istore_n (q := 49) dX2_placeNearestTo_48 rfl rfl (by decide) ?_
              refine aw_iinc (q := 52) dX2_placeNearestTo_49 rfl rfl (by decide) (by omega) ?_
              refine aw_goto (q := 7) dX2_placeNearestTo_52 (by decide) ?_
              refine aw_ls (ls := [some (vR q), some (vI (t)), some (vI (x)), some (vI (if 0 ≤ ((tt kc ka kb (f p)) - t) then ((tt kc ka kb (f p)) - t) else -((tt kc ka kb (f p)) - t))), some (vI (x + 1)), none]) ⟨rfl, ⟨rfl, ⟨rfl, ⟨rfl, ⟨rfl, trivial⟩⟩⟩⟩⟩ ?_
              exact ih (p + 1) _ _ _ (by omega) (by omega) (by omega) (Or.inr ⟨by omega, by rw [nrN_t (d := (fun p => zabs (tt kc ka kb (f p) - t))) (by omega) (by have hz2 : z = zabs (tt kc ka kb (f (nrN (fun p => zabs (tt kc ka kb (f p) - t)) p)) - t) := hz; show zabs (tt kc ka kb (f p) - t) < zabs (tt kc ka kb (f (nrN (fun p => zabs (tt kc ka kb (f p) - t)) p)) - t); rw [← hz2]; exact Int.not_le.mp (by assumption))]; exact hx, by rw [nrN_t (d := (fun p => zabs (tt kc ka kb (f p) - t))) (by omega) (by have hz2 : z = zabs (tt kc ka kb (f (nrN (fun p => zabs (tt kc ka kb (f p) - t)) p)) - t) := hz; show zabs (tt kc ka kb (f p) - t) < zabs (tt kc ka kb (f (nrN (fun p => zabs (tt kc ka kb (f p) - t)) p)) - t); rw [← hz2]; exact Int.not_le.mp (by assumption))]; rfl⟩)
  refine aw_iconst (q := 1) dX2_placeNearestTo_0 rfl (by omega) ?_
  refine aw_istore_n (q := 2) dX2_placeNearestTo_1 rfl rfl (by decide) ?_
  refine aw_iconst (q := 3) dX2_placeNearestTo_2 rfl (by omega) ?_
  refine aw_istore_n (q := 4) dX2_placeNearestTo_3 rfl rfl (by decide) ?_
  refine aw_iconst (q := 5) dX2_placeNearestTo_4 rfl (by omega) ?_
  refine aw_istore (q := 7) dX2_placeNearestTo_5 rfl (by decide) ?_
  exact loop (c + 1) 0 _ _ _ (by omega) rfl (by omega) (Or.inl ⟨rfl, rfl, rfl⟩)
