/-! ===== TrackRows: could, in, port, weight (written by m_track2.py) ===== -/
/-- the least number of seconds, at most a million, in which a way of the root of sq is made -/
def SecR (sq spd : Int) (r : Nat) : Prop := r ≤ 1000000 ∧ (∀ t : Nat, t < r → (spd * (t : Int)) * (spd * (t : Int)) < sq) ∧ (r < 1000000 → sq ≤ (spd * (r : Int)) * (spd * (r : Int)))
theorem SecR_u {sq spd : Int} {r r' : Nat} (h : SecR sq spd r) (h' : SecR sq spd r') : r = r' := by
  rcases Nat.lt_trichotomy r r' with q | q | q
  · have a := h'.2.1 r q
    have b := h.2.2 (by have := h'.1; omega)
    omega
  · exact q
  · have a := h.2.1 r' q
    have b := h'.2.2 (by have := h.1; omega)
    omega
theorem sq_mono {spd : Int} (hs : 0 ≤ spd) {a b : Nat} (h : a ≤ b) : (spd * (a : Int)) * (spd * (a : Int)) ≤ (spd * (b : Int)) * (spd * (b : Int)) := by
  have h1 : spd * (a : Int) ≤ spd * (b : Int) := Int.mul_le_mul_of_nonneg_left (by omega) hs
  have h2 : 0 ≤ spd * (a : Int) := Int.mul_nonneg hs (by omega)
  exact Int.mul_le_mul h1 h1 h2 (by omega)
set_option maxHeartbeats 4000000 in
set_option maxRecDepth 100000 in
theorem m_X6_secondsFor {n : Nat} {μ : AH} {sq spd : Int} (hsp : 1 ≤ spd ∧ spd ≤ 100) : AMet YX6_secondsFor [vL (sq), vI (spd)] n μ (Rt (fun v n' μ' => n' = n ∧ μ' = μ ∧ ∃ r : Nat, v = vI (r : Int) ∧ SecR sq spd r)) := by
  refine AMet.of (by decide) rfl (Nat.le_of_ble_eq_true rfl) ?_
  have loop : ∀ (j lo hi : Nat) (lx ex : Int), hi - lo < j → lx = (lo : Int) → ex = (hi : Int) → lo ≤ hi → hi ≤ 1000000 → (∀ t : Nat, t < lo → (spd * (t : Int)) * (spd * (t : Int)) < sq) → (hi < 1000000 → sq ≤ (spd * (hi : Int)) * (spd * (hi : Int))) → AW YX6_secondsFor none (Rt (fun v n' μ' => n' = n ∧ μ' = μ ∧ ∃ r : Nat, v = vI (r : Int) ∧ SecR sq spd r)) 6 [some (vL sq), none, some (vI spd), some (vI lx), some (vI ex), none, none, none] [] n μ 0 0 := by
    intro j
    induction j with
    | zero => intro lo hi lx ex hj; exact absurd hj (Nat.not_lt_zero _)
    | succ j ih =>
      intro lo hi lx ex hj hlx hex hlh hhi hlt hgt
      refine aw_iload_n (q := 7) dX6_secondsFor_6 rfl rfl rfl ?_
      refine aw_iload (q := 9) dX6_secondsFor_7 rfl rfl ?_
      refine aw_ic_ge (t := 53) (q := 12) dX6_secondsFor_9 rfl (by decide) (fun bc1 => ?_) (fun bc1 => ?_)
      · skip
        refine aw_iload_n (q := 54) dX6_secondsFor_53 rfl rfl rfl ?_
        exact aw_iret dX6_secondsFor_54 rfl (by decide) (by decide) ⟨_, rfl, rfl, rfl, lo, by rw [hlx], by omega, hlt, fun h => by rw [show lo = hi by omega]; exact hgt (by omega)⟩
      · skip
        refine aw_iload_n (q := 13) dX6_secondsFor_12 rfl rfl rfl ?_
        refine aw_iload (q := 15) dX6_secondsFor_13 rfl rfl ?_
        refine aw_iadd (q := 16) dX6_secondsFor_15 rfl (by omega) ?_
        refine aw_iconst (q := 17) dX6_secondsFor_16 rfl (by omega) ?_
        refine aw_shrM 1 2 rfl (q := 18) dX6_secondsFor_17 rfl (by omega) (by omega) (by omega) ?_
        obtain ⟨mid, hmid⟩ : ∃ mid : Nat, (lx + ex) / 2 = (mid : Int) := ⟨(lo + hi) / 2, by omega⟩
        rw [hmid]
        have hmm : lo ≤ mid ∧ mid < hi := by omega
        have m1 := mul_b (u := spd) (w := (mid : Int)) 100 1000000 (by omega) (by omega) (by omega) (by omega)
        have m2 := sq_b (e := spd * (mid : Int)) 100000000 (by omega) (by omega)
        refine aw_istore (q := 20) dX6_secondsFor_18 rfl (by decide) ?_
        refine aw_iload_n (q := 21) dX6_secondsFor_20 rfl rfl rfl ?_
        refine aw_i2l (q := 22) dX6_secondsFor_21 rfl ?_
        refine aw_iload (q := 24) dX6_secondsFor_22 rfl rfl ?_
        refine aw_i2l (q := 25) dX6_secondsFor_24 rfl ?_
        refine aw_lmul (q := 26) dX6_secondsFor_25 rfl (by omega) ?_
        refine aw_lstore (q := 28) dX6_secondsFor_26 rfl (by decide) ?_
        refine aw_lload (q := 30) dX6_secondsFor_28 rfl rfl ?_
        refine aw_lload (q := 32) dX6_secondsFor_30 rfl rfl ?_
        refine aw_lmul (q := 33) dX6_secondsFor_32 rfl (by omega) ?_
        refine aw_lload_n (q := 34) dX6_secondsFor_33 rfl rfl rfl ?_
        refine aw_lcmp (q := 35) dX6_secondsFor_34 rfl ?_
        refine aw_if_lt (t := 45) (q := 38) dX6_secondsFor_35 rfl (by decide) (fun bc2 => ?_) (fun bc2 => ?_)
        · skip
          replace bc2 := cmpz_lt.mp bc2
          refine aw_iload (q := 47) dX6_secondsFor_45 rfl rfl ?_
          refine aw_iconst (q := 48) dX6_secondsFor_47 rfl (by omega) ?_
          refine aw_iadd (q := 49) dX6_secondsFor_48 rfl (by omega) ?_
          refine aw_istore_n (q := 50) dX6_secondsFor_49 rfl rfl (by decide) ?_
          refine aw_goto (q := 6) dX6_secondsFor_50 (by decide) ?_
          refine aw_ls (ls := [some (vL (sq)), none, some (vI (spd)), some (vI ((mid : Int) + 1)), some (vI (ex)), none, none, none]) ⟨rfl, ⟨rfl, ⟨rfl, ⟨rfl, trivial⟩⟩⟩⟩ ?_
          exact ih (mid + 1) hi _ _ (by omega) (by omega) hex (by omega) (by omega) (fun t ht => by have := sq_mono (spd := spd) (by omega) (show t ≤ mid by omega); omega) hgt
        · skip
          replace bc2 := mt cmpz_lt.mpr bc2
          refine aw_iload (q := 40) dX6_secondsFor_38 rfl rfl ?_
          refine aw_istore (q := 42) dX6_secondsFor_40 rfl (by decide) ?_
          refine aw_goto (q := 50) dX6_secondsFor_42 (by decide) ?_
          refine aw_goto (q := 6) dX6_secondsFor_50 (by decide) ?_
          refine aw_ls (ls := [some (vL (sq)), none, some (vI (spd)), some (vI (lx)), some (vI ((mid : Int))), none, none, none]) ⟨rfl, ⟨rfl, ⟨rfl, ⟨rfl, trivial⟩⟩⟩⟩ ?_
          exact ih lo mid _ _ (by omega) hlx rfl (by omega) (by omega) hlt (fun _ => by omega)
  refine aw_iconst (q := 1) dX6_secondsFor_0 rfl (by omega) ?_
  refine aw_istore_n (q := 2) dX6_secondsFor_1 rfl rfl (by decide) ?_
  refine aw_ldc (a := 1000000) (q := 4) dX6_secondsFor_2 rfl k_X6_139 (by omega) ?_
  refine aw_istore (q := 6) dX6_secondsFor_4 rfl (by decide) ?_
  exact loop 1000001 0 1000000 _ _ (by omega) rfl rfl (by omega) (by omega) (fun t ht => absurd ht (Nat.not_lt_zero t)) (fun h => by omega)
def sqC (v : DVt) (r : Nat) (a b : Int) : Int := (nic (v.2.2.1 r) a - v.2.2.1 r) * (nic (v.2.2.1 r) a - v.2.2.1 r) + (nic (v.2.2.2.1 r) b - v.2.2.2.1 r) * (nic (v.2.2.2.1 r) b - v.2.2.2.1 r)
/-- what could() says in the gap before place r -/
def cldR (v : DVt) (spd : Int) (r : Nat) (a b z : Int) : Prop := ∃ t1 t2 : Nat, SecR (sqC v (r - 1) a b) spd t1 ∧ SecR (sqC v r a b) spd t2 ∧ z = bz ((t1 : Int) + (t2 : Int) ≤ tB v.2.2.2.2.2.1 v.2.2.2.2.2.2.1 v.2.2.2.2.2.2.2 v.2.1 r)
abbrev gapP (v : DVt) (lim : Int) (p : Nat) : Prop := isG v.2.1 v.2.2.2.2.2.1 v.2.2.2.2.2.2.1 v.2.2.2.2.2.2.2 lim p
set_option maxHeartbeats 4000000 in
set_option maxRecDepth 100000 in
theorem m_X6_could {n : Nat} {μ : AH} {D : Nat} {dv : Nat → DVt} {Fn : Nat} {fv : Nat → FVt} {sv : SVt} {pk fd : Nat × (Nat → Int)} {spd lim B : Int} {i k a b : Int} (hC : CH μ D dv Fn fv sv pk fd spd lim) (hO : COk B D dv Fn fv sv pk fd spd lim) : AMet YX6_could [vR 0, vI (i), vI (k), vI (a), vI (b)] n μ (fun o n' μ' => n' = n ∧ μ' = μ ∧ ∃ (p z : Int), ((0 ≤ i ∧ i < (D : Int)) → KthR (fun p => gapP (dv i.toNat) lim p) (dv i.toNat).1 k p) ∧ o = ox ((0 ≤ i ∧ i < (D : Int)) ∧ p ≠ -1) IX (ox ((-200 ≤ a ∧ a ≤ 200) ∧ -200 ≤ b ∧ b ≤ 200) IA (.inl (some (vI z)))) ∧ ((0 ≤ i ∧ i < (D : Int)) → p ≠ -1 → ((-200 ≤ a ∧ a ≤ 200) ∧ -200 ≤ b ∧ b ≤ 200) → cldR (dv i.toNat) spd p.toNat a b z)) := by
  refine AMet.of (by decide) rfl (Nat.le_of_ble_eq_true rfl) ?_
  obtain ⟨h0, h1, h2, hS, ⟨mW, mL, mc, msc, mdc, hM⟩, ⟨pnx, pso, hPk⟩, ⟨enx, eso, hFd⟩, ⟨ue, uf, ug, uh, hUn⟩, hDv, hFv⟩ := id hC
  obtain ⟨hN, hdv, hFn, hfv, hsn, hsb, hpk, hfd, hfb, hs1, hs2, hl1, hl2⟩ := id hO
  refine aw_aload_n (q := 1) dX6_could_0 rfl rfl rfl ?_
  refine aw_iload_n (q := 2) dX6_could_1 rfl rfl rfl ?_
  by_cases ck1 : 0 ≤ i ∧ i < (D : Int)
  · skip
    obtain ⟨d, hi⟩ : ∃ d : Nat, i = (d : Int) := ⟨i.toNat, by omega⟩
    have hd : d < D := by omega
    have hd5 : d < 5 := by omega
    have hid : i.toNat = d := by omega
    have hdo := (hdv d hd5).1
    refine aw_callV [vI (i)] (q := 5) dX6_could_2 rfl ck_X6_deviceOf lk_X6_69 rfl ⟨Nat.le_of_ble_eq_true rfl, Nat.le_of_ble_eq_true rfl⟩ rfl rfl h0 rfl (Nat.le_of_ble_eq_true rfl) (by decide) (m_X6_deviceOf_t h0 h1 hi hd hN) rfl (fun _ _ _ h => (Rt_x h).elim) ?_
    rintro v n9 μ9 - ⟨v9, hv9, rfl, rfl, rfl⟩
    obtain rfl := Sum.inl.inj hv9
    refine aw_astore (q := 7) dX6_could_5 rfl (by decide) ?_
    refine aw_aload (q := 9) dX6_could_7 rfl rfl ?_
    refine aw_iload_n (q := 10) dX6_could_9 rfl rfl rfl ?_
    refine aw_aload_n (q := 11) dX6_could_10 rfl rfl rfl ?_
    refine aw_get (q := 14) dX6_could_11 rfl fl_X6_60 h0 rfl (fun _ => ?_)
    refine aw_callV [vI (k), vI (lim)] (q := 17) dX6_could_14 rfl ck_X2_placeBehindGap lk_X6_157 rfl ⟨Nat.le_of_ble_eq_true rfl, Nat.le_of_ble_eq_true rfl⟩ rfl rfl (hDv d hd5).1 rfl (Nat.le_of_ble_eq_true rfl) (by decide) (m_X2_placeBehindGap (hDv d hd5) hdo) rfl (fun _ _ _ h => (Rt_x h).elim) ?_
    rintro v n9 μ9 - ⟨v9, hv9, rfl, rfl, r9, rfl, hr9⟩
    obtain rfl := Sum.inl.inj hv9
    refine aw_istore (q := 19) dX6_could_17 rfl (by decide) ?_
    refine aw_iload (q := 21) dX6_could_19 rfl rfl ?_
    refine aw_iconst (q := 22) dX6_could_21 rfl (by omega) ?_
    refine aw_ic_ne (t := 33) (q := 25) dX6_could_22 rfl (by decide) (fun bc2 => ?_) (fun bc2 => ?_)
    · skip
      obtain ⟨r0, hr1, hr2, hr3, -, -⟩ : ∃ p : Nat, r9 = (p : Int) ∧ 1 ≤ p ∧ p < (dv d).1 ∧ (fun p => isG (dv d).2.1 (dv d).2.2.2.2.2.1 (dv d).2.2.2.2.2.2.1 (dv d).2.2.2.2.2.2.2 lim p) p ∧ (cnt (fun p => isG (dv d).2.1 (dv d).2.2.2.2.2.1 (dv d).2.2.2.2.2.2.1 (dv d).2.2.2.2.2.2.2 lim p) p : Int) = k := by rcases hr9 with h | h; exact h; exact absurd h.1 (by assumption)
      have hr0 : r9.toNat = r0 := by omega
      have hc60 : (dv d).1 ≤ 60 := hdo.1
      have hb1 := hdo.2.1 r0 hr3
      have hb2 := hdo.2.1 (r0 - 1) (by omega)
      refine aw_iload_n (q := 34) dX6_could_33 rfl rfl rfl ?_
      refine aw_sipush (q := 37) dX6_could_34 rfl (by decide) (by omega) ?_
      refine aw_sipush (q := 40) dX6_could_37 rfl (by decide) (by omega) ?_
      by_cases ck3 : -200 ≤ a ∧ a ≤ 200
      · skip
        refine aw_callS [vI (a), vI ((-200)), vI (200)] (q := 43) dX6_could_40 rfl ck_X6_refuseOutside lk_X6_140 rfl ⟨Nat.le_of_ble_eq_true rfl, Nat.le_of_ble_eq_true rfl⟩ rfl rfl (Nat.le_of_ble_eq_true rfl) (by decide) (m_X6_refuseOutside_t ck3) rfl (fun _ _ _ h => (Vd_x h).elim) ?_
        rintro v n9 μ9 - ⟨hv9, rfl, rfl⟩
        obtain rfl := Sum.inl.inj hv9
        refine aw_iload (q := 45) dX6_could_43 rfl rfl ?_
        refine aw_sipush (q := 48) dX6_could_45 rfl (by decide) (by omega) ?_
        refine aw_sipush (q := 51) dX6_could_48 rfl (by decide) (by omega) ?_
        by_cases ck4 : -200 ≤ b ∧ b ≤ 200
        · skip
          refine aw_callS [vI (b), vI ((-200)), vI (200)] (q := 54) dX6_could_51 rfl ck_X6_refuseOutside lk_X6_140 rfl ⟨Nat.le_of_ble_eq_true rfl, Nat.le_of_ble_eq_true rfl⟩ rfl rfl (Nat.le_of_ble_eq_true rfl) (by decide) (m_X6_refuseOutside_t ck4) rfl (fun _ _ _ h => (Vd_x h).elim) ?_
          rintro v n9 μ9 - ⟨hv9, rfl, rfl⟩
          obtain rfl := Sum.inl.inj hv9
          refine aw_aload (q := 56) dX6_could_54 rfl rfl ?_
          refine aw_get (q := 59) dX6_could_56 rfl fl_X6_73 (hDv d hd5).1 rfl (fun _ => ?_)
          refine aw_iload (q := 61) dX6_could_59 rfl rfl ?_
          refine aw_iconst (q := 62) dX6_could_61 rfl (by omega) ?_
          refine aw_isub (q := 63) dX6_could_62 rfl (by omega) ?_
          refine aw_iload_n (q := 64) dX6_could_63 rfl rfl rfl ?_
          refine aw_iload (q := 66) dX6_could_64 rfl rfl ?_
          refine aw_callV [vI (r9 - 1), vI (a), vI (b)] (q := 69) dX6_could_66 rfl ck_X5_squareToCell lk_X6_163 rfl ⟨Nat.le_of_ble_eq_true rfl, Nat.le_of_ble_eq_true rfl⟩ rfl rfl (hDv d hd5).2.1.1 rfl (Nat.le_of_ble_eq_true rfl) (by decide) (m_X5_squareToCell (r := r0 - 1) (by omega) (by omega) (by omega) (by assumption) (by assumption) (hDv d hd5).2.1 hdo.1 (Nat.le_refl 60)) rfl (fun _ _ _ h => (Rt_x h).elim) ?_
          rintro v n9 μ9 - ⟨v9, hv9, rfl, rfl, rfl⟩
          obtain rfl := Sum.inl.inj hv9
          refine aw_aload_n (q := 70) dX6_could_69 rfl rfl rfl ?_
          refine aw_get (q := 73) dX6_could_70 rfl fl_X6_57 h0 rfl (fun _ => ?_)
          refine aw_callS [vL ((nic ((dv d).2.2.1 (r0 - 1)) a - (dv d).2.2.1 (r0 - 1)) * (nic ((dv d).2.2.1 (r0 - 1)) a - (dv d).2.2.1 (r0 - 1)) + (nic ((dv d).2.2.2.1 (r0 - 1)) b - (dv d).2.2.2.1 (r0 - 1)) * (nic ((dv d).2.2.2.1 (r0 - 1)) b - (dv d).2.2.2.1 (r0 - 1))), vI (spd)] (q := 76) dX6_could_73 rfl ck_X6_secondsFor lk_X6_167 rfl ⟨Nat.le_of_ble_eq_true rfl, Nat.le_of_ble_eq_true rfl⟩ rfl rfl (Nat.le_of_ble_eq_true rfl) (by decide) (m_X6_secondsFor ⟨hs1, hs2⟩) rfl (fun _ _ _ h => (Rt_x h).elim) ?_
          rintro v n9 μ9 - ⟨v9, hv9, rfl, rfl, t1, rfl, ht1⟩
          obtain rfl := Sum.inl.inj hv9
          refine aw_istore (q := 78) dX6_could_76 rfl (by decide) ?_
          refine aw_aload (q := 80) dX6_could_78 rfl rfl ?_
          refine aw_get (q := 83) dX6_could_80 rfl fl_X6_73 (hDv d hd5).1 rfl (fun _ => ?_)
          refine aw_iload (q := 85) dX6_could_83 rfl rfl ?_
          refine aw_iload_n (q := 86) dX6_could_85 rfl rfl rfl ?_
          refine aw_iload (q := 88) dX6_could_86 rfl rfl ?_
          refine aw_callV [vI (r9), vI (a), vI (b)] (q := 91) dX6_could_88 rfl ck_X5_squareToCell lk_X6_163 rfl ⟨Nat.le_of_ble_eq_true rfl, Nat.le_of_ble_eq_true rfl⟩ rfl rfl (hDv d hd5).2.1.1 rfl (Nat.le_of_ble_eq_true rfl) (by decide) (m_X5_squareToCell (r := r0) (by omega) (by omega) (by omega) (by assumption) (by assumption) (hDv d hd5).2.1 hdo.1 (Nat.le_refl 60)) rfl (fun _ _ _ h => (Rt_x h).elim) ?_
          rintro v n9 μ9 - ⟨v9, hv9, rfl, rfl, rfl⟩
          obtain rfl := Sum.inl.inj hv9
          refine aw_aload_n (q := 92) dX6_could_91 rfl rfl rfl ?_
          refine aw_get (q := 95) dX6_could_92 rfl fl_X6_57 h0 rfl (fun _ => ?_)
          refine aw_callS [vL ((nic ((dv d).2.2.1 r0) a - (dv d).2.2.1 r0) * (nic ((dv d).2.2.1 r0) a - (dv d).2.2.1 r0) + (nic ((dv d).2.2.2.1 r0) b - (dv d).2.2.2.1 r0) * (nic ((dv d).2.2.2.1 r0) b - (dv d).2.2.2.1 r0)), vI (spd)] (q := 98) dX6_could_95 rfl ck_X6_secondsFor lk_X6_167 rfl ⟨Nat.le_of_ble_eq_true rfl, Nat.le_of_ble_eq_true rfl⟩ rfl rfl (Nat.le_of_ble_eq_true rfl) (by decide) (m_X6_secondsFor ⟨hs1, hs2⟩) rfl (fun _ _ _ h => (Rt_x h).elim) ?_
          rintro v n9 μ9 - ⟨v9, hv9, rfl, rfl, t2, rfl, ht2⟩
          obtain rfl := Sum.inl.inj hv9
          refine aw_istore (q := 100) dX6_could_98 rfl (by decide) ?_
          have q1 := ht1.1
          have q2 := ht2.1
          refine aw_iload (q := 102) dX6_could_100 rfl rfl ?_
          refine aw_iload (q := 104) dX6_could_102 rfl rfl ?_
          refine aw_iadd (q := 105) dX6_could_104 rfl (by omega) ?_
          refine aw_aload (q := 107) dX6_could_105 rfl rfl ?_
          refine aw_iload (q := 109) dX6_could_107 rfl rfl ?_
          refine aw_callV [vI (r9)] (q := 112) dX6_could_109 rfl ck_X2_trueTimeBefore lk_X6_171 rfl ⟨Nat.le_of_ble_eq_true rfl, Nat.le_of_ble_eq_true rfl⟩ rfl rfl (hDv d hd5).1 rfl (Nat.le_of_ble_eq_true rfl) (by decide) (m_X2_trueTimeBefore (r := r0) hr1 (by omega) (by omega) (hDv d hd5) hdo) rfl (fun _ _ _ h => (Rt_x h).elim) ?_
          rintro v n9 μ9 - ⟨v9, hv9, rfl, rfl, rfl⟩
          obtain rfl := Sum.inl.inj hv9
          refine aw_ic_gt (t := 119) (q := 115) dX6_could_112 rfl (by decide) (fun bc5 => ?_) (fun bc5 => ?_)
          · skip
            refine aw_iconst (q := 120) dX6_could_119 rfl (by omega) ?_
            exact aw_zret dX6_could_120 rfl (Or.inl rfl) (by decide) (by decide) ⟨rfl, rfl, r9, 0, (fun _ => by rw [hid]; exact hr9), ((ox_t ⟨ck1, by assumption⟩).trans (ox_t ⟨ck3, ck4⟩)).symm, fun _ _ _ => by rw [hid, hr0]; exact ⟨t1, t2, ht1, ht2, (bz_f (by omega)).symm⟩⟩
          · skip
            refine aw_iconst (q := 116) dX6_could_115 rfl (by omega) ?_
            refine aw_goto (q := 120) dX6_could_116 (by decide) ?_
            exact aw_zret dX6_could_120 rfl (Or.inr rfl) (by decide) (by decide) ⟨rfl, rfl, r9, 1, (fun _ => by rw [hid]; exact hr9), ((ox_t ⟨ck1, by assumption⟩).trans (ox_t ⟨ck3, ck4⟩)).symm, fun _ _ _ => by rw [hid, hr0]; exact ⟨t1, t2, ht1, ht2, (bz_t (by omega)).symm⟩⟩
        · skip
          refine aw_callS [vI (b), vI ((-200)), vI (200)] (q := 54) dX6_could_51 rfl ck_X6_refuseOutside lk_X6_140 rfl ⟨Nat.le_of_ble_eq_true rfl, Nat.le_of_ble_eq_true rfl⟩ rfl rfl (Nat.le_of_ble_eq_true rfl) (by decide) (m_X6_refuseOutside_x ck4) rfl (fun E9 n9 μ9 h9 => by obtain ⟨rfl, rfl, h8⟩ := h9; obtain rfl := Sum.inr.inj h8; exact ⟨rfl, rfl, r9, 0, (fun _ => by rw [hid]; exact hr9), ((ox_t ⟨ck1, by assumption⟩).trans (ox_f (fun h => ck4 h.2))).symm, fun _ _ h => absurd h (fun h => ck4 h.2)⟩) ?_
          rintro v n9 μ9 - ⟨-, -, h9⟩
          cases h9
      · skip
        refine aw_callS [vI (a), vI ((-200)), vI (200)] (q := 43) dX6_could_40 rfl ck_X6_refuseOutside lk_X6_140 rfl ⟨Nat.le_of_ble_eq_true rfl, Nat.le_of_ble_eq_true rfl⟩ rfl rfl (Nat.le_of_ble_eq_true rfl) (by decide) (m_X6_refuseOutside_x ck3) rfl (fun E9 n9 μ9 h9 => by obtain ⟨rfl, rfl, h8⟩ := h9; obtain rfl := Sum.inr.inj h8; exact ⟨rfl, rfl, r9, 0, (fun _ => by rw [hid]; exact hr9), ((ox_t ⟨ck1, by assumption⟩).trans (ox_f (fun h => ck3 h.1))).symm, fun _ _ h => absurd h (fun h => ck3 h.1)⟩) ?_
        rintro v n9 μ9 - ⟨-, -, h9⟩
        cases h9
    · skip
      exact aw_throw dX6_could_25 dX6_could_28 dX6_could_29 dX6_could_32 th_X6_162 rfl (by decide) (Nat.le_of_ble_eq_true rfl) (by decide) (by decide) ⟨rfl, rfl, r9, 0, (fun _ => by rw [hid]; exact hr9), (ox_f (fun h => h.2 (by omega))).symm, fun _ h => absurd (by omega) h⟩
  · skip
    refine aw_callV [vI (i)] (q := 5) dX6_could_2 rfl ck_X6_deviceOf lk_X6_69 rfl ⟨Nat.le_of_ble_eq_true rfl, Nat.le_of_ble_eq_true rfl⟩ rfl rfl h0 rfl (Nat.le_of_ble_eq_true rfl) (by decide) (m_X6_deviceOf_x h0 ck1) rfl (fun E9 n9 μ9 h9 => by obtain ⟨rfl, rfl, h8⟩ := h9; obtain rfl := Sum.inr.inj h8; exact ⟨rfl, rfl, 0, 0, fun h => absurd h ck1, (ox_f (fun h => ck1 h.1)).symm, fun h => absurd h ck1⟩) ?_
    rintro v n9 μ9 - ⟨-, -, h9⟩
    cases h9
