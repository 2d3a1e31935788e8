/-! ===== TrackRows$Clock (written by m_clock.py) ===== -/
/-- Clock at q: count c, seconds f, times g -/
def KL (μ : AH) (q c : Nat) (f g : Nat → Int) : Prop := μ q = oO 1 [vR (q + 1), vR (q + 2), vI (c : Int)] ∧ μ (q + 1) = oI 8 f ∧ μ (q + 2) = oI 8 g
abbrev MBd (c : Nat) (f g : Nat → Int) : Prop := ∀ p, p < c → 0 ≤ f p ∧ f p ≤ 1000000 ∧ 0 ≤ g p ∧ g p ≤ 1000000
abbrev MSt (c : Nat) (f g : Nat → Int) : Prop := ∀ p, p + 1 < c → f p < f (p + 1) ∧ g p < g (p + 1)
/-- the true time of a second -/
def ttB (f g : Nat → Int) (s : Int) (b : Nat) : Int := g (b - 1) + Int.tdiv ((s - f (b - 1)) * (g b - g (b - 1))) (f b - f (b - 1))
def tt (c : Nat) (f g : Nat → Int) (s : Int) : Int := if c = 0 then s else if lowb f s c 0 = 0 then g 0 + s - f 0 else if lowb f s c 0 = c then g (c - 1) + s - f (c - 1) else ttB f g s (lowb f s c 0)
theorem mul_b {u w : Int} (B C : Int) (h1 : 0 ≤ u) (h2 : u ≤ B) (h3 : 0 ≤ w) (h4 : w ≤ C) : 0 ≤ u * w ∧ u * w ≤ B * C := ⟨Int.mul_nonneg h1 h3, Int.mul_le_mul h2 h4 h3 (by omega)⟩
theorem td_b {u v w : Int} (h1 : 0 ≤ u) (h2 : u ≤ v) (h3 : 0 < v) (h4 : 0 ≤ w) : 0 ≤ Int.tdiv (u * w) v ∧ Int.tdiv (u * w) v ≤ w := by
  have h5 : 0 ≤ u * w := Int.mul_nonneg h1 h4
  rw [Int.tdiv_eq_ediv_of_nonneg h5]
  refine ⟨Int.ediv_nonneg h5 (by omega), ?_⟩
  have h6 : u * w ≤ v * w := Int.mul_le_mul_of_nonneg_right h2 h4
  have h7 : u * w / v ≤ v * w / v := Int.ediv_le_ediv h3 h6
  rwa [Int.mul_ediv_cancel_left w (by omega)] at h7
set_option maxHeartbeats 4000000 in
set_option maxRecDepth 100000 in
theorem m_X1_numberFor {n : Nat} {μ : AH} {q c : Nat} {f g : Nat → Int} {s : Int} (hK : KL μ q c f g) (hc : c ≤ 8) : AMet YX1_numberFor [vR q, vI (s)] n μ (Pv n μ (vI (lowb f s c 0 : Nat))) := by
  refine AMet.of (by decide) rfl (Nat.le_of_ble_eq_true rfl) ?_
  have loop : ∀ (j i : Nat) (x : Int), c - i < j → x = (i : Int) → i ≤ c → (∀ p, p < i → f p < s) → AW YX1_numberFor none (Pv n μ (vI (lowb f s c 0 : Nat))) 2 [some (vR q), some (vI s), some (vI x)] [] n μ 0 0 := by
    intro j
    induction j with
    | zero => intro i x hj; exact absurd hj (Nat.not_lt_zero _)
    | succ j ih =>
      intro i x hj hx hi hi3
      refine aw_iload_n (q := 3) dX1_numberFor_2 rfl rfl rfl ?_
      refine aw_aload_n (q := 4) dX1_numberFor_3 rfl rfl rfl ?_
      refine aw_get (q := 7) dX1_numberFor_4 rfl fl_X1_18 hK.1 rfl (fun _ => ?_)
      refine aw_ic_ge (t := 26) (q := 10) dX1_numberFor_7 rfl (by decide) (fun b1 => ?_) (fun b1 => ?_)
      · skip
        refine aw_iload_n (q := 27) dX1_numberFor_26 rfl rfl rfl ?_
        exact aw_iret dX1_numberFor_27 rfl (by decide) (by decide) ⟨_, rfl, rfl, rfl, congrArg vI (by rw [hx, lowb_is (r := i) (Nat.zero_le _) (by omega) (fun p _ hp => hi3 p hp) (fun _ => by omega)])⟩
      · skip
        refine aw_aload_n (q := 11) dX1_numberFor_10 rfl rfl rfl ?_
        refine aw_get (q := 14) dX1_numberFor_11 rfl fl_X1_9 hK.1 rfl (fun _ => ?_)
        refine aw_iload_n (q := 15) dX1_numberFor_14 rfl rfl rfl ?_
        refine aw_iaload (j := i) (q := 16) dX1_numberFor_15 rfl hK.2.1 (by omega) (by omega) (fun r2 => ?_)
        refine aw_iload_n (q := 17) dX1_numberFor_16 rfl rfl rfl ?_
        refine aw_ic_ge (t := 26) (q := 20) dX1_numberFor_17 rfl (by decide) (fun b3 => ?_) (fun b3 => ?_)
        · skip
          refine aw_iload_n (q := 27) dX1_numberFor_26 rfl rfl rfl ?_
          exact aw_iret dX1_numberFor_27 rfl (by decide) (by decide) ⟨_, rfl, rfl, rfl, congrArg vI (by rw [hx, lowb_is (r := i) (Nat.zero_le _) (by omega) (fun p _ hp => hi3 p hp) (fun _ => by omega)])⟩
        · skip
          refine aw_iinc (q := 23) dX1_numberFor_20 rfl rfl (by decide) (by omega) ?_
          refine aw_goto (q := 2) dX1_numberFor_23 (by decide) ?_
          exact ih (i + 1) _ (by omega) (by omega) (by omega) (fun p hp => by rcases Nat.lt_succ_iff_lt_or_eq.mp hp with h9 | h9; exact hi3 p h9; rw [h9]; omega)
  refine aw_iconst (q := 1) dX1_numberFor_0 rfl (by omega) ?_
  refine aw_istore_n (q := 2) dX1_numberFor_1 rfl rfl (by decide) ?_
  exact loop (c + 1) 0 _ (by omega) rfl (by omega) (fun p hp => absurd hp (Nat.not_lt_zero p))
set_option maxHeartbeats 4000000 in
set_option maxRecDepth 100000 in
theorem m_X1_fits {n : Nat} {μ : AH} {q c : Nat} {f g : Nat → Int} {r : Nat} {w s t : Int} (hw : w = (r : Int)) (hr : r ≤ c) (hK : KL μ q c f g) (hc : c ≤ 8) : AMet YX1_fits [vR q, vI (w), vI (s), vI (t)] n μ (Pv n μ (vI (bz ((r = 0 ∨ g (r - 1) < t) ∧ (c ≤ r ∨ (s < f r ∧ t < g r)))))) := by
  refine AMet.of (by decide) rfl (Nat.le_of_ble_eq_true rfl) ?_
  refine aw_iload_n (q := 1) dX1_fits_0 rfl rfl rfl ?_
  refine aw_if_eq (t := 16) (q := 4) dX1_fits_1 rfl (by decide) (fun b1 => ?_) (fun b1 => ?_)
  · skip
    refine aw_iconst (q := 17) dX1_fits_16 rfl (by omega) ?_
    refine aw_goto (q := 21) dX1_fits_17 (by decide) ?_
    refine aw_istore (q := 23) dX1_fits_21 rfl (by decide) ?_
    refine aw_iload_n (q := 24) dX1_fits_23 rfl rfl rfl ?_
    refine aw_aload_n (q := 25) dX1_fits_24 rfl rfl rfl ?_
    refine aw_get (q := 28) dX1_fits_25 rfl fl_X1_18 hK.1 rfl (fun _ => ?_)
    refine aw_ic_ge (t := 51) (q := 31) dX1_fits_28 rfl (by decide) (fun b2 => ?_) (fun b2 => ?_)
    · skip
      refine aw_iconst (q := 52) dX1_fits_51 rfl (by omega) ?_
      refine aw_goto (q := 56) dX1_fits_52 (by decide) ?_
      refine aw_istore (q := 58) dX1_fits_56 rfl (by decide) ?_
      refine aw_iload (q := 60) dX1_fits_58 rfl rfl ?_
      refine aw_if_eq (t := 72) (q := 63) dX1_fits_60 rfl (by decide) (fun b3 => ?_) (fun b3 => ?_)
      · skip
        refine aw_iconst (q := 73) dX1_fits_72 rfl (by omega) ?_
        exact aw_zret dX1_fits_73 rfl (Or.inl rfl) (by decide) (by decide) ⟨_, rfl, rfl, rfl, congrArg vI (bz_f (by omega)).symm⟩
      · skip
        refine aw_iload (q := 65) dX1_fits_63 rfl rfl ?_
        refine aw_if_eq (t := 72) (q := 68) dX1_fits_65 rfl (by decide) (fun b4 => ?_) (fun b4 => ?_)
        · skip
          refine aw_iconst (q := 73) dX1_fits_72 rfl (by omega) ?_
          exact aw_zret dX1_fits_73 rfl (Or.inl rfl) (by decide) (by decide) ⟨_, rfl, rfl, rfl, congrArg vI (bz_f (by omega)).symm⟩
        · skip
          refine aw_iconst (q := 69) dX1_fits_68 rfl (by omega) ?_
          refine aw_goto (q := 73) dX1_fits_69 (by decide) ?_
          exact aw_zret dX1_fits_73 rfl (Or.inr rfl) (by decide) (by decide) ⟨_, rfl, rfl, rfl, congrArg vI (bz_t (by omega)).symm⟩
    · skip
      refine aw_aload_n (q := 32) dX1_fits_31 rfl rfl rfl ?_
      refine aw_get (q := 35) dX1_fits_32 rfl fl_X1_9 hK.1 rfl (fun _ => ?_)
      refine aw_iload_n (q := 36) dX1_fits_35 rfl rfl rfl ?_
      refine aw_iaload (j := r) (q := 37) dX1_fits_36 rfl hK.2.1 (by omega) (by omega) (fun r5 => ?_)
      refine aw_iload_n (q := 38) dX1_fits_37 rfl rfl rfl ?_
      refine aw_ic_le (t := 55) (q := 41) dX1_fits_38 rfl (by decide) (fun b6 => ?_) (fun b6 => ?_)
      · skip
        refine aw_iconst (q := 56) dX1_fits_55 rfl (by omega) ?_
        refine aw_istore (q := 58) dX1_fits_56 rfl (by decide) ?_
        refine aw_iload (q := 60) dX1_fits_58 rfl rfl ?_
        refine aw_if_eq (t := 72) (q := 63) dX1_fits_60 rfl (by decide) (fun b7 => ?_) (fun b7 => ?_)
        · skip
          refine aw_iconst (q := 73) dX1_fits_72 rfl (by omega) ?_
          exact aw_zret dX1_fits_73 rfl (Or.inl rfl) (by decide) (by decide) ⟨_, rfl, rfl, rfl, congrArg vI (bz_f (by omega)).symm⟩
        · skip
          refine aw_iload (q := 65) dX1_fits_63 rfl rfl ?_
          refine aw_if_eq (t := 72) (q := 68) dX1_fits_65 rfl (by decide) (fun b8 => ?_) (fun b8 => ?_)
          · skip
            refine aw_iconst (q := 73) dX1_fits_72 rfl (by omega) ?_
            exact aw_zret dX1_fits_73 rfl (Or.inl rfl) (by decide) (by decide) ⟨_, rfl, rfl, rfl, congrArg vI (bz_f (by omega)).symm⟩
          · skip
            refine aw_iconst (q := 69) dX1_fits_68 rfl (by omega) ?_
            refine aw_goto (q := 73) dX1_fits_69 (by decide) ?_
            exact aw_zret dX1_fits_73 rfl (Or.inr rfl) (by decide) (by decide) ⟨_, rfl, rfl, rfl, congrArg vI (bz_t (by omega)).symm⟩
      · skip
        refine aw_aload_n (q := 42) dX1_fits_41 rfl rfl rfl ?_
        refine aw_get (q := 45) dX1_fits_42 rfl fl_X1_15 hK.1 rfl (fun _ => ?_)
        refine aw_iload_n (q := 46) dX1_fits_45 rfl rfl rfl ?_
        refine aw_iaload (j := r) (q := 47) dX1_fits_46 rfl hK.2.2 (by omega) (by omega) (fun r9 => ?_)
        refine aw_iload_n (q := 48) dX1_fits_47 rfl rfl rfl ?_
        refine aw_ic_le (t := 55) (q := 51) dX1_fits_48 rfl (by decide) (fun b10 => ?_) (fun b10 => ?_)
        · skip
          refine aw_iconst (q := 56) dX1_fits_55 rfl (by omega) ?_
          refine aw_istore (q := 58) dX1_fits_56 rfl (by decide) ?_
          refine aw_iload (q := 60) dX1_fits_58 rfl rfl ?_
          refine aw_if_eq (t := 72) (q := 63) dX1_fits_60 rfl (by decide) (fun b11 => ?_) (fun b11 => ?_)
          · skip
            refine aw_iconst (q := 73) dX1_fits_72 rfl (by omega) ?_
            exact aw_zret dX1_fits_73 rfl (Or.inl rfl) (by decide) (by decide) ⟨_, rfl, rfl, rfl, congrArg vI (bz_f (by omega)).symm⟩
          · skip
            refine aw_iload (q := 65) dX1_fits_63 rfl rfl ?_
            refine aw_if_eq (t := 72) (q := 68) dX1_fits_65 rfl (by decide) (fun b12 => ?_) (fun b12 => ?_)
            · skip
              refine aw_iconst (q := 73) dX1_fits_72 rfl (by omega) ?_
              exact aw_zret dX1_fits_73 rfl (Or.inl rfl) (by decide) (by decide) ⟨_, rfl, rfl, rfl, congrArg vI (bz_f (by omega)).symm⟩
            · skip
              refine aw_iconst (q := 69) dX1_fits_68 rfl (by omega) ?_
              refine aw_goto (q := 73) dX1_fits_69 (by decide) ?_
              exact aw_zret dX1_fits_73 rfl (Or.inr rfl) (by decide) (by decide) ⟨_, rfl, rfl, rfl, congrArg vI (bz_t (by omega)).symm⟩
        · skip
          refine aw_iconst (q := 52) dX1_fits_51 rfl (by omega) ?_
          refine aw_goto (q := 56) dX1_fits_52 (by decide) ?_
          refine aw_istore (q := 58) dX1_fits_56 rfl (by decide) ?_
          refine aw_iload (q := 60) dX1_fits_58 rfl rfl ?_
          refine aw_if_eq (t := 72) (q := 63) dX1_fits_60 rfl (by decide) (fun b13 => ?_) (fun b13 => ?_)
          · skip
            refine aw_iconst (q := 73) dX1_fits_72 rfl (by omega) ?_
            exact aw_zret dX1_fits_73 rfl (Or.inl rfl) (by decide) (by decide) ⟨_, rfl, rfl, rfl, congrArg vI (bz_f (by omega)).symm⟩
          · skip
            refine aw_iload (q := 65) dX1_fits_63 rfl rfl ?_
            refine aw_if_eq (t := 72) (q := 68) dX1_fits_65 rfl (by decide) (fun b14 => ?_) (fun b14 => ?_)
            · skip
              refine aw_iconst (q := 73) dX1_fits_72 rfl (by omega) ?_
              exact aw_zret dX1_fits_73 rfl (Or.inl rfl) (by decide) (by decide) ⟨_, rfl, rfl, rfl, congrArg vI (bz_f (by omega)).symm⟩
            · skip
              refine aw_iconst (q := 69) dX1_fits_68 rfl (by omega) ?_
              refine aw_goto (q := 73) dX1_fits_69 (by decide) ?_
              exact aw_zret dX1_fits_73 rfl (Or.inr rfl) (by decide) (by decide) ⟨_, rfl, rfl, rfl, congrArg vI (bz_t (by omega)).symm⟩
  · skip
    refine aw_aload_n (q := 5) dX1_fits_4 rfl rfl rfl ?_
    refine aw_get (q := 8) dX1_fits_5 rfl fl_X1_15 hK.1 rfl (fun _ => ?_)
    refine aw_iload_n (q := 9) dX1_fits_8 rfl rfl rfl ?_
    refine aw_iconst (q := 10) dX1_fits_9 rfl (by omega) ?_
    refine aw_isub (q := 11) dX1_fits_10 rfl (by omega) ?_
    refine aw_iaload (j := r - 1) (q := 12) dX1_fits_11 rfl hK.2.2 (by omega) (by omega) (fun r15 => ?_)
    refine aw_iload_n (q := 13) dX1_fits_12 rfl rfl rfl ?_
    refine aw_ic_ge (t := 20) (q := 16) dX1_fits_13 rfl (by decide) (fun b16 => ?_) (fun b16 => ?_)
    · skip
      refine aw_iconst (q := 21) dX1_fits_20 rfl (by omega) ?_
      refine aw_istore (q := 23) dX1_fits_21 rfl (by decide) ?_
      refine aw_iload_n (q := 24) dX1_fits_23 rfl rfl rfl ?_
      refine aw_aload_n (q := 25) dX1_fits_24 rfl rfl rfl ?_
      refine aw_get (q := 28) dX1_fits_25 rfl fl_X1_18 hK.1 rfl (fun _ => ?_)
      refine aw_ic_ge (t := 51) (q := 31) dX1_fits_28 rfl (by decide) (fun b17 => ?_) (fun b17 => ?_)
      · skip
        refine aw_iconst (q := 52) dX1_fits_51 rfl (by omega) ?_
        refine aw_goto (q := 56) dX1_fits_52 (by decide) ?_
        refine aw_istore (q := 58) dX1_fits_56 rfl (by decide) ?_
        refine aw_iload (q := 60) dX1_fits_58 rfl rfl ?_
        refine aw_if_eq (t := 72) (q := 63) dX1_fits_60 rfl (by decide) (fun b18 => ?_) (fun b18 => ?_)
        · skip
          refine aw_iconst (q := 73) dX1_fits_72 rfl (by omega) ?_
          exact aw_zret dX1_fits_73 rfl (Or.inl rfl) (by decide) (by decide) ⟨_, rfl, rfl, rfl, congrArg vI (bz_f (by omega)).symm⟩
        · skip
          refine aw_iload (q := 65) dX1_fits_63 rfl rfl ?_
          refine aw_if_eq (t := 72) (q := 68) dX1_fits_65 rfl (by decide) (fun b19 => ?_) (fun b19 => ?_)
          · skip
            refine aw_iconst (q := 73) dX1_fits_72 rfl (by omega) ?_
            exact aw_zret dX1_fits_73 rfl (Or.inl rfl) (by decide) (by decide) ⟨_, rfl, rfl, rfl, congrArg vI (bz_f (by omega)).symm⟩
          · skip
            refine aw_iconst (q := 69) dX1_fits_68 rfl (by omega) ?_
            refine aw_goto (q := 73) dX1_fits_69 (by decide) ?_
            exact aw_zret dX1_fits_73 rfl (Or.inr rfl) (by decide) (by decide) ⟨_, rfl, rfl, rfl, congrArg vI (bz_t (by omega)).symm⟩
      · skip
        refine aw_aload_n (q := 32) dX1_fits_31 rfl rfl rfl ?_
        refine aw_get (q := 35) dX1_fits_32 rfl fl_X1_9 hK.1 rfl (fun _ => ?_)
        refine aw_iload_n (q := 36) dX1_fits_35 rfl rfl rfl ?_
        refine aw_iaload (j := r) (q := 37) dX1_fits_36 rfl hK.2.1 (by omega) (by omega) (fun r20 => ?_)
        refine aw_iload_n (q := 38) dX1_fits_37 rfl rfl rfl ?_
        refine aw_ic_le (t := 55) (q := 41) dX1_fits_38 rfl (by decide) (fun b21 => ?_) (fun b21 => ?_)
        · skip
          refine aw_iconst (q := 56) dX1_fits_55 rfl (by omega) ?_
          refine aw_istore (q := 58) dX1_fits_56 rfl (by decide) ?_
          refine aw_iload (q := 60) dX1_fits_58 rfl rfl ?_
          refine aw_if_eq (t := 72) (q := 63) dX1_fits_60 rfl (by decide) (fun b22 => ?_) (fun b22 => ?_)
          · skip
            refine aw_iconst (q := 73) dX1_fits_72 rfl (by omega) ?_
            exact aw_zret dX1_fits_73 rfl (Or.inl rfl) (by decide) (by decide) ⟨_, rfl, rfl, rfl, congrArg vI (bz_f (by omega)).symm⟩
          · skip
            refine aw_iload (q := 65) dX1_fits_63 rfl rfl ?_
            refine aw_if_eq (t := 72) (q := 68) dX1_fits_65 rfl (by decide) (fun b23 => ?_) (fun b23 => ?_)
            · skip
              refine aw_iconst (q := 73) dX1_fits_72 rfl (by omega) ?_
              exact aw_zret dX1_fits_73 rfl (Or.inl rfl) (by decide) (by decide) ⟨_, rfl, rfl, rfl, congrArg vI (bz_f (by omega)).symm⟩
            · skip
              refine aw_iconst (q := 69) dX1_fits_68 rfl (by omega) ?_
              refine aw_goto (q := 73) dX1_fits_69 (by decide) ?_
              exact aw_zret dX1_fits_73 rfl (Or.inr rfl) (by decide) (by decide) ⟨_, rfl, rfl, rfl, congrArg vI (bz_t (by omega)).symm⟩
        · skip
          refine aw_aload_n (q := 42) dX1_fits_41 rfl rfl rfl ?_
          refine aw_get (q := 45) dX1_fits_42 rfl fl_X1_15 hK.1 rfl (fun _ => ?_)
          refine aw_iload_n (q := 46) dX1_fits_45 rfl rfl rfl ?_
          refine aw_iaload (j := r) (q := 47) dX1_fits_46 rfl hK.2.2 (by omega) (by omega) (fun r24 => ?_)
          refine aw_iload_n (q := 48) dX1_fits_47 rfl rfl rfl ?_
          refine aw_ic_le (t := 55) (q := 51) dX1_fits_48 rfl (by decide) (fun b25 => ?_) (fun b25 => ?_)
          · skip
            refine aw_iconst (q := 56) dX1_fits_55 rfl (by omega) ?_
            refine aw_istore (q := 58) dX1_fits_56 rfl (by decide) ?_
            refine aw_iload (q := 60) dX1_fits_58 rfl rfl ?_
            refine aw_if_eq (t := 72) (q := 63) dX1_fits_60 rfl (by decide) (fun b26 => ?_) (fun b26 => ?_)
            · skip
              refine aw_iconst (q := 73) dX1_fits_72 rfl (by omega) ?_
              exact aw_zret dX1_fits_73 rfl (Or.inl rfl) (by decide) (by decide) ⟨_, rfl, rfl, rfl, congrArg vI (bz_f (by omega)).symm⟩
            · skip
              refine aw_iload (q := 65) dX1_fits_63 rfl rfl ?_
              refine aw_if_eq (t := 72) (q := 68) dX1_fits_65 rfl (by decide) (fun b27 => ?_) (fun b27 => ?_)
              · skip
                refine aw_iconst (q := 73) dX1_fits_72 rfl (by omega) ?_
                exact aw_zret dX1_fits_73 rfl (Or.inl rfl) (by decide) (by decide) ⟨_, rfl, rfl, rfl, congrArg vI (bz_f (by omega)).symm⟩
              · skip
                refine aw_iconst (q := 69) dX1_fits_68 rfl (by omega) ?_
                refine aw_goto (q := 73) dX1_fits_69 (by decide) ?_
                exact aw_zret dX1_fits_73 rfl (Or.inr rfl) (by decide) (by decide) ⟨_, rfl, rfl, rfl, congrArg vI (bz_t (by omega)).symm⟩
          · skip
            refine aw_iconst (q := 52) dX1_fits_51 rfl (by omega) ?_
            refine aw_goto (q := 56) dX1_fits_52 (by decide) ?_
            refine aw_istore (q := 58) dX1_fits_56 rfl (by decide) ?_
            refine aw_iload (q := 60) dX1_fits_58 rfl rfl ?_
            refine aw_if_eq (t := 72) (q := 63) dX1_fits_60 rfl (by decide) (fun b28 => ?_) (fun b28 => ?_)
            · skip
              refine aw_iconst (q := 73) dX1_fits_72 rfl (by omega) ?_
              exact aw_zret dX1_fits_73 rfl (Or.inl rfl) (by decide) (by decide) ⟨_, rfl, rfl, rfl, congrArg vI (bz_f (by omega)).symm⟩
            · skip
              refine aw_iload (q := 65) dX1_fits_63 rfl rfl ?_
              refine aw_if_eq (t := 72) (q := 68) dX1_fits_65 rfl (by decide) (fun b29 => ?_) (fun b29 => ?_)
              · skip
                refine aw_iconst (q := 73) dX1_fits_72 rfl (by omega) ?_
                exact aw_zret dX1_fits_73 rfl (Or.inl rfl) (by decide) (by decide) ⟨_, rfl, rfl, rfl, congrArg vI (bz_f (by omega)).symm⟩
              · skip
                refine aw_iconst (q := 69) dX1_fits_68 rfl (by omega) ?_
                refine aw_goto (q := 73) dX1_fits_69 (by decide) ?_
                exact aw_zret dX1_fits_73 rfl (Or.inr rfl) (by decide) (by decide) ⟨_, rfl, rfl, rfl, congrArg vI (bz_t (by omega)).symm⟩
    · skip
      refine aw_iconst (q := 17) dX1_fits_16 rfl (by omega) ?_
      refine aw_goto (q := 21) dX1_fits_17 (by decide) ?_
      refine aw_istore (q := 23) dX1_fits_21 rfl (by decide) ?_
      refine aw_iload_n (q := 24) dX1_fits_23 rfl rfl rfl ?_
      refine aw_aload_n (q := 25) dX1_fits_24 rfl rfl rfl ?_
      refine aw_get (q := 28) dX1_fits_25 rfl fl_X1_18 hK.1 rfl (fun _ => ?_)
      refine aw_ic_ge (t := 51) (q := 31) dX1_fits_28 rfl (by decide) (fun b30 => ?_) (fun b30 => ?_)
      · skip
        refine aw_iconst (q := 52) dX1_fits_51 rfl (by omega) ?_
        refine aw_goto (q := 56) dX1_fits_52 (by decide) ?_
        refine aw_istore (q := 58) dX1_fits_56 rfl (by decide) ?_
        refine aw_iload (q := 60) dX1_fits_58 rfl rfl ?_
        refine aw_if_eq (t := 72) (q := 63) dX1_fits_60 rfl (by decide) (fun b31 => ?_) (fun b31 => ?_)
        · skip
          refine aw_iconst (q := 73) dX1_fits_72 rfl (by omega) ?_
          exact aw_zret dX1_fits_73 rfl (Or.inl rfl) (by decide) (by decide) ⟨_, rfl, rfl, rfl, congrArg vI (bz_f (by omega)).symm⟩
        · skip
          refine aw_iload (q := 65) dX1_fits_63 rfl rfl ?_
          refine aw_if_eq (t := 72) (q := 68) dX1_fits_65 rfl (by decide) (fun b32 => ?_) (fun b32 => ?_)
          · skip
            refine aw_iconst (q := 73) dX1_fits_72 rfl (by omega) ?_
            exact aw_zret dX1_fits_73 rfl (Or.inl rfl) (by decide) (by decide) ⟨_, rfl, rfl, rfl, congrArg vI (bz_f (by omega)).symm⟩
          · skip
            refine aw_iconst (q := 69) dX1_fits_68 rfl (by omega) ?_
            refine aw_goto (q := 73) dX1_fits_69 (by decide) ?_
            exact aw_zret dX1_fits_73 rfl (Or.inr rfl) (by decide) (by decide) ⟨_, rfl, rfl, rfl, congrArg vI (bz_t (by omega)).symm⟩
      · skip
        refine aw_aload_n (q := 32) dX1_fits_31 rfl rfl rfl ?_
        refine aw_get (q := 35) dX1_fits_32 rfl fl_X1_9 hK.1 rfl (fun _ => ?_)
        refine aw_iload_n (q := 36) dX1_fits_35 rfl rfl rfl ?_
        refine aw_iaload (j := r) (q := 37) dX1_fits_36 rfl hK.2.1 (by omega) (by omega) (fun r33 => ?_)
        refine aw_iload_n (q := 38) dX1_fits_37 rfl rfl rfl ?_
        refine aw_ic_le (t := 55) (q := 41) dX1_fits_38 rfl (by decide) (fun b34 => ?_) (fun b34 => ?_)
        · skip
          refine aw_iconst (q := 56) dX1_fits_55 rfl (by omega) ?_
          refine aw_istore (q := 58) dX1_fits_56 rfl (by decide) ?_
          refine aw_iload (q := 60) dX1_fits_58 rfl rfl ?_
          refine aw_if_eq (t := 72) (q := 63) dX1_fits_60 rfl (by decide) (fun b35 => ?_) (fun b35 => ?_)
          · skip
            refine aw_iconst (q := 73) dX1_fits_72 rfl (by omega) ?_
            exact aw_zret dX1_fits_73 rfl (Or.inl rfl) (by decide) (by decide) ⟨_, rfl, rfl, rfl, congrArg vI (bz_f (by omega)).symm⟩
          · skip
            refine aw_iload (q := 65) dX1_fits_63 rfl rfl ?_
            refine aw_if_eq (t := 72) (q := 68) dX1_fits_65 rfl (by decide) (fun b36 => ?_) (fun b36 => ?_)
            · skip
              refine aw_iconst (q := 73) dX1_fits_72 rfl (by omega) ?_
              exact aw_zret dX1_fits_73 rfl (Or.inl rfl) (by decide) (by decide) ⟨_, rfl, rfl, rfl, congrArg vI (bz_f (by omega)).symm⟩
            · skip
              refine aw_iconst (q := 69) dX1_fits_68 rfl (by omega) ?_
              refine aw_goto (q := 73) dX1_fits_69 (by decide) ?_
              exact aw_zret dX1_fits_73 rfl (Or.inr rfl) (by decide) (by decide) ⟨_, rfl, rfl, rfl, congrArg vI (bz_t (by omega)).symm⟩
        · skip
          refine aw_aload_n (q := 42) dX1_fits_41 rfl rfl rfl ?_
          refine aw_get (q := 45) dX1_fits_42 rfl fl_X1_15 hK.1 rfl (fun _ => ?_)
          refine aw_iload_n (q := 46) dX1_fits_45 rfl rfl rfl ?_
          refine aw_iaload (j := r) (q := 47) dX1_fits_46 rfl hK.2.2 (by omega) (by omega) (fun r37 => ?_)
          refine aw_iload_n (q := 48) dX1_fits_47 rfl rfl rfl ?_
          refine aw_ic_le (t := 55) (q := 51) dX1_fits_48 rfl (by decide) (fun b38 => ?_) (fun b38 => ?_)
          · skip
            refine aw_iconst (q := 56) dX1_fits_55 rfl (by omega) ?_
            refine aw_istore (q := 58) dX1_fits_56 rfl (by decide) ?_
            refine aw_iload (q := 60) dX1_fits_58 rfl rfl ?_
            refine aw_if_eq (t := 72) (q := 63) dX1_fits_60 rfl (by decide) (fun b39 => ?_) (fun b39 => ?_)
            · skip
              refine aw_iconst (q := 73) dX1_fits_72 rfl (by omega) ?_
              exact aw_zret dX1_fits_73 rfl (Or.inl rfl) (by decide) (by decide) ⟨_, rfl, rfl, rfl, congrArg vI (bz_f (by omega)).symm⟩
            · skip
              refine aw_iload (q := 65) dX1_fits_63 rfl rfl ?_
              refine aw_if_eq (t := 72) (q := 68) dX1_fits_65 rfl (by decide) (fun b40 => ?_) (fun b40 => ?_)
              · skip
                refine aw_iconst (q := 73) dX1_fits_72 rfl (by omega) ?_
                exact aw_zret dX1_fits_73 rfl (Or.inl rfl) (by decide) (by decide) ⟨_, rfl, rfl, rfl, congrArg vI (bz_f (by omega)).symm⟩
              · skip
                refine aw_iconst (q := 69) dX1_fits_68 rfl (by omega) ?_
                refine aw_goto (q := 73) dX1_fits_69 (by decide) ?_
                exact aw_zret dX1_fits_73 rfl (Or.inr rfl) (by decide) (by decide) ⟨_, rfl, rfl, rfl, congrArg vI (bz_t (by omega)).symm⟩
          · skip
            refine aw_iconst (q := 52) dX1_fits_51 rfl (by omega) ?_
            refine aw_goto (q := 56) dX1_fits_52 (by decide) ?_
            refine aw_istore (q := 58) dX1_fits_56 rfl (by decide) ?_
            refine aw_iload (q := 60) dX1_fits_58 rfl rfl ?_
            refine aw_if_eq (t := 72) (q := 63) dX1_fits_60 rfl (by decide) (fun b41 => ?_) (fun b41 => ?_)
            · skip
              refine aw_iconst (q := 73) dX1_fits_72 rfl (by omega) ?_
              exact aw_zret dX1_fits_73 rfl (Or.inl rfl) (by decide) (by decide) ⟨_, rfl, rfl, rfl, congrArg vI (bz_f (by omega)).symm⟩
            · skip
              refine aw_iload (q := 65) dX1_fits_63 rfl rfl ?_
              refine aw_if_eq (t := 72) (q := 68) dX1_fits_65 rfl (by decide) (fun b42 => ?_) (fun b42 => ?_)
              · skip
                refine aw_iconst (q := 73) dX1_fits_72 rfl (by omega) ?_
                exact aw_zret dX1_fits_73 rfl (Or.inl rfl) (by decide) (by decide) ⟨_, rfl, rfl, rfl, congrArg vI (bz_f (by omega)).symm⟩
              · skip
                refine aw_iconst (q := 69) dX1_fits_68 rfl (by omega) ?_
                refine aw_goto (q := 73) dX1_fits_69 (by decide) ?_
                exact aw_zret dX1_fits_73 rfl (Or.inr rfl) (by decide) (by decide) ⟨_, rfl, rfl, rfl, congrArg vI (bz_t (by omega)).symm⟩
set_option maxHeartbeats 4000000 in
set_option maxRecDepth 100000 in
theorem m_X1_insert {n : Nat} {μ : AH} {q c : Nat} {f g : Nat → Int} {r : Nat} {w s t : Int} (hw : w = (r : Int)) (hr : r ≤ c) (hc8 : c < 8) (hK : KL μ q c f g) : AMet YX1_insert [vR q, vI (w), vI (s), vI (t)] n μ (Vd (fun n' μ' => n' = n ∧ KL μ' q (c + 1) (insF f r c s) (insF g r c t) ∧ Fr [q, q + 1, q + 2] μ μ')) := by
  refine AMet.of (by decide) rfl (Nat.le_of_ble_eq_true rfl) ?_
  have loop : ∀ (j i : Nat) (k : Int) (μ1 : AH), i < j → k = (i : Int) → r ≤ i → i ≤ c → KL μ1 q c (shF f i c) (shF g i c) → Fr [q, q + 1, q + 2] μ μ1 → AW YX1_insert none (Vd (fun n' μ' => n' = n ∧ KL μ' q (c + 1) (insF f r c s) (insF g r c t) ∧ Fr [q, q + 1, q + 2] μ μ')) 16 [some (vR q), some (vI w), some (vI s), some (vI t), some (vI k)] [] n μ1 0 0 := by
    intro j
    induction j with
    | zero => intro i k μ1 hj; exact absurd hj (Nat.not_lt_zero _)
    | succ j ih =>
      intro i k μ1 hj hk hi hic hK1 hfr
      refine aw_iload (q := 18) dX1_insert_16 rfl rfl ?_
      refine aw_iload_n (q := 19) dX1_insert_18 rfl rfl rfl ?_
      refine aw_ic_le (t := 60) (q := 22) dX1_insert_19 rfl (by decide) (fun b1 => ?_) (fun b1 => ?_)
      · skip
        obtain rfl : i = r := by omega
        refine aw_aload_n (q := 61) dX1_insert_60 rfl rfl rfl ?_
        refine aw_get (q := 64) dX1_insert_61 rfl fl_X1_9 hK1.1 rfl (fun _ => ?_)
        refine aw_iload_n (q := 65) dX1_insert_64 rfl rfl rfl ?_
        refine aw_iload_n (q := 66) dX1_insert_65 rfl rfl rfl ?_
        refine aw_iastore (j := i) (q := 67) dX1_insert_66 rfl hK1.2.1 (by omega) (by omega) ?_
        refine aw_aload_n (q := 68) dX1_insert_67 rfl rfl rfl ?_
        refine aw_get (q := 71) dX1_insert_68 rfl fl_X1_15 ((hu_n (by omega)).trans hK1.1) rfl (fun _ => ?_)
        refine aw_iload_n (q := 72) dX1_insert_71 rfl rfl rfl ?_
        refine aw_iload_n (q := 73) dX1_insert_72 rfl rfl rfl ?_
        refine aw_iastore (j := i) (q := 74) dX1_insert_73 rfl ((hu_n (by omega)).trans hK1.2.2) (by omega) (by omega) ?_
        refine aw_aload_n (q := 75) dX1_insert_74 rfl rfl rfl ?_
        refine aw_dup (q := 76) dX1_insert_75 rfl rfl ?_
        refine aw_get (q := 79) dX1_insert_76 rfl fl_X1_18 ((hu_n (by omega)).trans ((hu_n (by omega)).trans hK1.1)) rfl (fun _ => ?_)
        refine aw_iconst (q := 80) dX1_insert_79 rfl (by omega) ?_
        refine aw_iadd (q := 81) dX1_insert_80 rfl (by omega) ?_
        refine aw_put (q := 84) dX1_insert_81 rfl fp_X1_18 ((hu_n (by omega)).trans ((hu_n (by omega)).trans hK1.1)) (Nat.le_of_ble_eq_true rfl) trivial ?_
        exact aw_vret dX1_insert_84 rfl (by decide) (by decide) ⟨rfl, rfl, ⟨hu_s, (((hu_n (by omega)).trans ((hu_n (by omega)).trans hu_s)).trans (congrArg (oI 8) (shF_e f s))), (((hu_n (by omega)).trans hu_s).trans (congrArg (oI 8) (shF_e g t)))⟩, (Fr_hu (Fr_hu (Fr_hu hfr (by simp)) (by simp)) (by simp))⟩
      · skip
        refine aw_aload_n (q := 23) dX1_insert_22 rfl rfl rfl ?_
        refine aw_get (q := 26) dX1_insert_23 rfl fl_X1_9 hK1.1 rfl (fun _ => ?_)
        refine aw_iload (q := 28) dX1_insert_26 rfl rfl ?_
        refine aw_aload_n (q := 29) dX1_insert_28 rfl rfl rfl ?_
        refine aw_get (q := 32) dX1_insert_29 rfl fl_X1_9 hK1.1 rfl (fun _ => ?_)
        refine aw_iload (q := 34) dX1_insert_32 rfl rfl ?_
        refine aw_iconst (q := 35) dX1_insert_34 rfl (by omega) ?_
        refine aw_isub (q := 36) dX1_insert_35 rfl (by omega) ?_
        refine aw_iaload (j := i - 1) (q := 37) dX1_insert_36 rfl hK1.2.1 (by omega) (by omega) (fun r2 => ?_)
        refine aw_iastore (j := i) (q := 38) dX1_insert_37 rfl hK1.2.1 (by omega) (by omega) ?_
        refine aw_aload_n (q := 39) dX1_insert_38 rfl rfl rfl ?_
        refine aw_get (q := 42) dX1_insert_39 rfl fl_X1_15 ((hu_n (by omega)).trans hK1.1) rfl (fun _ => ?_)
        refine aw_iload (q := 44) dX1_insert_42 rfl rfl ?_
        refine aw_aload_n (q := 45) dX1_insert_44 rfl rfl rfl ?_
        refine aw_get (q := 48) dX1_insert_45 rfl fl_X1_15 ((hu_n (by omega)).trans hK1.1) rfl (fun _ => ?_)
        refine aw_iload (q := 50) dX1_insert_48 rfl rfl ?_
        refine aw_iconst (q := 51) dX1_insert_50 rfl (by omega) ?_
        refine aw_isub (q := 52) dX1_insert_51 rfl (by omega) ?_
        refine aw_iaload (j := i - 1) (q := 53) dX1_insert_52 rfl ((hu_n (by omega)).trans hK1.2.2) (by omega) (by omega) (fun r3 => ?_)
        refine aw_iastore (j := i) (q := 54) dX1_insert_53 rfl ((hu_n (by omega)).trans hK1.2.2) (by omega) (by omega) ?_
        refine aw_iinc (q := 57) dX1_insert_54 rfl rfl (by decide) (by omega) ?_
        refine aw_goto (q := 16) dX1_insert_57 (by decide) ?_
        exact ih (i - 1) _ _ (by omega) (by omega) (by omega) (by omega) ⟨((hu_n (by omega)).trans ((hu_n (by omega)).trans hK1.1)), (((hu_n (by omega)).trans hu_s).trans (congrArg (oI 8) (shF_s f (by omega) (by omega)))), (hu_s.trans (congrArg (oI 8) (shF_s g (by omega) (by omega))))⟩ (Fr_hu (Fr_hu hfr (by simp)) (by simp))
  refine aw_aload_n (q := 1) dX1_insert_0 rfl rfl rfl ?_
  refine aw_get (q := 4) dX1_insert_1 rfl fl_X1_18 hK.1 rfl (fun _ => ?_)
  refine aw_bipush (q := 6) dX1_insert_4 rfl (by decide) (by omega) ?_
  refine aw_ic_lt (t := 10) (q := 9) dX1_insert_6 rfl (by decide) (fun b1 => ?_) (fun b1 => ?_)
  · skip
    refine aw_aload_n (q := 11) dX1_insert_10 rfl rfl rfl ?_
    refine aw_get (q := 14) dX1_insert_11 rfl fl_X1_18 hK.1 rfl (fun _ => ?_)
    refine aw_istore (q := 16) dX1_insert_14 rfl (by decide) ?_
    exact loop (c + 1) c _ μ (by omega) rfl (by omega) (by omega) (by rw [shF_0, shF_0]; exact hK) Fr_rf
  · skip
    exact absurd b1 (by omega)
set_option maxHeartbeats 4000000 in
set_option maxRecDepth 100000 in
theorem m_X1_between {n : Nat} {μ : AH} {q c : Nat} {f g : Nat → Int} {a b : Nat} {x y s : Int} (hx : x = (a : Int)) (hy : y = (b : Int)) (hab : a < c ∧ b < c) (hf : f a < f b) (hg : g a < g b) (hs : f a ≤ s ∧ s ≤ f b) (hb9 : MBd c f g) (hK : KL μ q c f g) (hc : c ≤ 8) : AMet YX1_between [vR q, vI (x), vI (y), vI (s)] n μ (Pv n μ (vI (g a + Int.tdiv ((s - f a) * (g b - g a)) (f b - f a)))) := by
  refine AMet.of (by decide) rfl (Nat.le_of_ble_eq_true rfl) ?_
  have ha1 := hb9 a (by omega)
  have hb1 := hb9 b (by omega)
  have m1 := mul_b (u := s - f a) (w := g b - g a) 1000000 1000000 (by omega) (by omega) (by omega) (by omega)
  have t1 := td_b (u := s - f a) (v := f b - f a) (w := g b - g a) (by omega) (by omega) (by omega) (by omega)
  refine aw_aload_n (q := 1) dX1_between_0 rfl rfl rfl ?_
  refine aw_get (q := 4) dX1_between_1 rfl fl_X1_9 hK.1 rfl (fun _ => ?_)
  refine aw_iload_n (q := 5) dX1_between_4 rfl rfl rfl ?_
  refine aw_iaload (j := b) (q := 6) dX1_between_5 rfl hK.2.1 (by omega) (by omega) (fun r1 => ?_)
  refine aw_aload_n (q := 7) dX1_between_6 rfl rfl rfl ?_
  refine aw_get (q := 10) dX1_between_7 rfl fl_X1_9 hK.1 rfl (fun _ => ?_)
  refine aw_iload_n (q := 11) dX1_between_10 rfl rfl rfl ?_
  refine aw_iaload (j := a) (q := 12) dX1_between_11 rfl hK.2.1 (by omega) (by omega) (fun r2 => ?_)
  refine aw_isub (q := 13) dX1_between_12 rfl (by omega) ?_
  refine aw_istore (q := 15) dX1_between_13 rfl (by decide) ?_
  refine aw_iload (q := 17) dX1_between_15 rfl rfl ?_
  refine aw_if_gt (t := 27) (q := 20) dX1_between_17 rfl (by decide) (fun b3 => ?_) (fun b3 => ?_)
  · skip
    refine aw_aload_n (q := 28) dX1_between_27 rfl rfl rfl ?_
    refine aw_get (q := 31) dX1_between_28 rfl fl_X1_15 hK.1 rfl (fun _ => ?_)
    refine aw_iload_n (q := 32) dX1_between_31 rfl rfl rfl ?_
    refine aw_iaload (j := b) (q := 33) dX1_between_32 rfl hK.2.2 (by omega) (by omega) (fun r4 => ?_)
    refine aw_aload_n (q := 34) dX1_between_33 rfl rfl rfl ?_
    refine aw_get (q := 37) dX1_between_34 rfl fl_X1_15 hK.1 rfl (fun _ => ?_)
    refine aw_iload_n (q := 38) dX1_between_37 rfl rfl rfl ?_
    refine aw_iaload (j := a) (q := 39) dX1_between_38 rfl hK.2.2 (by omega) (by omega) (fun r5 => ?_)
    refine aw_isub (q := 40) dX1_between_39 rfl (by omega) ?_
    refine aw_i2l (q := 41) dX1_between_40 rfl ?_
    refine aw_lstore (q := 43) dX1_between_41 rfl (by decide) ?_
    refine aw_aload_n (q := 44) dX1_between_43 rfl rfl rfl ?_
    refine aw_get (q := 47) dX1_between_44 rfl fl_X1_15 hK.1 rfl (fun _ => ?_)
    refine aw_iload_n (q := 48) dX1_between_47 rfl rfl rfl ?_
    refine aw_iaload (j := a) (q := 49) dX1_between_48 rfl hK.2.2 (by omega) (by omega) (fun r6 => ?_)
    refine aw_iload_n (q := 50) dX1_between_49 rfl rfl rfl ?_
    refine aw_aload_n (q := 51) dX1_between_50 rfl rfl rfl ?_
    refine aw_get (q := 54) dX1_between_51 rfl fl_X1_9 hK.1 rfl (fun _ => ?_)
    refine aw_iload_n (q := 55) dX1_between_54 rfl rfl rfl ?_
    refine aw_iaload (j := a) (q := 56) dX1_between_55 rfl hK.2.1 (by omega) (by omega) (fun r7 => ?_)
    refine aw_isub (q := 57) dX1_between_56 rfl (by omega) ?_
    refine aw_i2l (q := 58) dX1_between_57 rfl ?_
    refine aw_lload (q := 60) dX1_between_58 rfl rfl ?_
    refine aw_lmul (q := 61) dX1_between_60 rfl (by omega) ?_
    refine aw_iload (q := 63) dX1_between_61 rfl rfl ?_
    refine aw_i2l (q := 64) dX1_between_63 rfl ?_
    refine aw_ldiv (q := 65) dX1_between_64 rfl (by omega) (by omega) ?_
    refine aw_l2i (q := 66) dX1_between_65 rfl (by omega) ?_
    refine aw_iadd (q := 67) dX1_between_66 rfl (by omega) ?_
    exact aw_iret dX1_between_67 rfl (by decide) (by decide) ⟨_, rfl, rfl, rfl, rfl⟩
  · skip
    exact absurd b3 (by omega)
theorem tt_b {c : Nat} {f g : Nat → Int} {s : Int} (hb : MBd c f g) (hst : MSt c f g) (hs : 0 ≤ s ∧ s ≤ 1000000) : -1000000 ≤ tt c f g s ∧ tt c f g s ≤ 2000000 := by
  unfold tt
  split
  · omega
  · rename_i h0
    split
    · have := hb 0 (by omega); omega
    · rename_i h1
      split
      · have := hb (c - 1) (by omega); omega
      · rename_i h2
        have h3 := (lowb_le f s c 0).1
        have h4 := lowb_lt f s c 0 (lowb f s c 0 - 1) (Nat.zero_le _) (by omega)
        have h5 := lowb_ge f s c 0 (by omega)
        have h6 := hst (lowb f s c 0 - 1) (by omega)
        rw [show lowb f s c 0 - 1 + 1 = lowb f s c 0 by omega] at h6
        have h7 := hb (lowb f s c 0 - 1) (by omega)
        have h8 := hb (lowb f s c 0) (by omega)
        have h9 := td_b (u := s - f (lowb f s c 0 - 1)) (v := f (lowb f s c 0) - f (lowb f s c 0 - 1)) (w := g (lowb f s c 0) - g (lowb f s c 0 - 1)) (by omega) (by omega) (by omega) (by omega)
        unfold ttB
        omega
set_option maxHeartbeats 4000000 in
set_option maxRecDepth 100000 in
theorem m_X1_trueTime {n : Nat} {μ : AH} {q c : Nat} {f g : Nat → Int} {s : Int} (hb : MBd c f g) (hst : MSt c f g) (hs : 0 ≤ s ∧ s ≤ 1000000) (hK : KL μ q c f g) (hc : c ≤ 8) : AMet YX1_trueTime [vR q, vI (s)] n μ (Pv n μ (vI (tt c f g s))) := by
  refine AMet.of (by decide) rfl (Nat.le_of_ble_eq_true rfl) ?_
  refine aw_aload_n (q := 1) dX1_trueTime_0 rfl rfl rfl ?_
  refine aw_get (q := 4) dX1_trueTime_1 rfl fl_X1_18 hK.1 rfl (fun _ => ?_)
  refine aw_if_ne (t := 9) (q := 7) dX1_trueTime_4 rfl (by decide) (fun b1 => ?_) (fun b1 => ?_)
  · skip
    refine aw_aload_n (q := 10) dX1_trueTime_9 rfl rfl rfl ?_
    refine aw_iload_n (q := 11) dX1_trueTime_10 rfl rfl rfl ?_
    refine aw_callV [vI (s)] (q := 14) dX1_trueTime_11 rfl ck_X1_numberFor lk_X1_22 rfl ⟨Nat.le_of_ble_eq_true rfl, Nat.le_of_ble_eq_true rfl⟩ rfl rfl hK.1 rfl (Nat.le_of_ble_eq_true rfl) (by decide) (m_X1_numberFor hK hc) rfl (fun _ _ _ h => (Rt_x h).elim) ?_
    rintro v n9 μ9 - ⟨v9, hv9, rfl, rfl, rfl⟩
    obtain rfl := Sum.inl.inj hv9
    refine aw_istore_n (q := 15) dX1_trueTime_14 rfl rfl (by decide) ?_
    have h3 := (lowb_le f s c 0).1
    refine aw_iload_n (q := 16) dX1_trueTime_15 rfl rfl rfl ?_
    refine aw_if_ne (t := 35) (q := 19) dX1_trueTime_16 rfl (by decide) (fun b2 => ?_) (fun b2 => ?_)
    · skip
      refine aw_iload_n (q := 36) dX1_trueTime_35 rfl rfl rfl ?_
      refine aw_aload_n (q := 37) dX1_trueTime_36 rfl rfl rfl ?_
      refine aw_get (q := 40) dX1_trueTime_37 rfl fl_X1_18 hK.1 rfl (fun _ => ?_)
      refine aw_ic_ne (t := 69) (q := 43) dX1_trueTime_40 rfl (by decide) (fun b3 => ?_) (fun b3 => ?_)
      · skip
        have h4 := lowb_lt f s c 0 ((lowb f s c 0) - 1) (Nat.zero_le _) (by omega)
        have h5 := lowb_ge f s c 0 (by omega)
        have h6 := hst ((lowb f s c 0) - 1) (by omega)
        rw [show (lowb f s c 0) - 1 + 1 = (lowb f s c 0) by omega] at h6
        refine aw_aload_n (q := 70) dX1_trueTime_69 rfl rfl rfl ?_
        refine aw_iload_n (q := 71) dX1_trueTime_70 rfl rfl rfl ?_
        refine aw_iconst (q := 72) dX1_trueTime_71 rfl (by omega) ?_
        refine aw_isub (q := 73) dX1_trueTime_72 rfl (by omega) ?_
        refine aw_iload_n (q := 74) dX1_trueTime_73 rfl rfl rfl ?_
        refine aw_iload_n (q := 75) dX1_trueTime_74 rfl rfl rfl ?_
        refine aw_callV [vI (((lowb f s c 0) : Nat) - 1), vI (((lowb f s c 0) : Nat)), vI (s)] (q := 78) dX1_trueTime_75 rfl ck_X1_between lk_X1_26 rfl ⟨Nat.le_of_ble_eq_true rfl, Nat.le_of_ble_eq_true rfl⟩ rfl rfl hK.1 rfl (Nat.le_of_ble_eq_true rfl) (by decide) (m_X1_between (a := (lowb f s c 0) - 1) (b := (lowb f s c 0)) (by omega) rfl (by omega) (by omega) (by omega) (by omega) hb hK hc) rfl (fun _ _ _ h => (Rt_x h).elim) ?_
        rintro v n9 μ9 - ⟨v9, hv9, rfl, rfl, rfl⟩
        obtain rfl := Sum.inl.inj hv9
        exact aw_iret dX1_trueTime_78 rfl (by decide) (by decide) ⟨_, rfl, rfl, rfl, congrArg vI (by unfold tt ttB; rw [if_neg (by omega), if_neg (by omega), if_neg (by omega)])⟩
      · skip
        have h7 := hb (c - 1) (by omega)
        refine aw_aload_n (q := 44) dX1_trueTime_43 rfl rfl rfl ?_
        refine aw_get (q := 47) dX1_trueTime_44 rfl fl_X1_15 hK.1 rfl (fun _ => ?_)
        refine aw_aload_n (q := 48) dX1_trueTime_47 rfl rfl rfl ?_
        refine aw_get (q := 51) dX1_trueTime_48 rfl fl_X1_18 hK.1 rfl (fun _ => ?_)
        refine aw_iconst (q := 52) dX1_trueTime_51 rfl (by omega) ?_
        refine aw_isub (q := 53) dX1_trueTime_52 rfl (by omega) ?_
        refine aw_iaload (j := c - 1) (q := 54) dX1_trueTime_53 rfl hK.2.2 (by omega) (by omega) (fun r4 => ?_)
        refine aw_iload_n (q := 55) dX1_trueTime_54 rfl rfl rfl ?_
        refine aw_iadd (q := 56) dX1_trueTime_55 rfl (by omega) ?_
        refine aw_aload_n (q := 57) dX1_trueTime_56 rfl rfl rfl ?_
        refine aw_get (q := 60) dX1_trueTime_57 rfl fl_X1_9 hK.1 rfl (fun _ => ?_)
        refine aw_aload_n (q := 61) dX1_trueTime_60 rfl rfl rfl ?_
        refine aw_get (q := 64) dX1_trueTime_61 rfl fl_X1_18 hK.1 rfl (fun _ => ?_)
        refine aw_iconst (q := 65) dX1_trueTime_64 rfl (by omega) ?_
        refine aw_isub (q := 66) dX1_trueTime_65 rfl (by omega) ?_
        refine aw_iaload (j := c - 1) (q := 67) dX1_trueTime_66 rfl hK.2.1 (by omega) (by omega) (fun r5 => ?_)
        refine aw_isub (q := 68) dX1_trueTime_67 rfl (by omega) ?_
        exact aw_iret dX1_trueTime_68 rfl (by decide) (by decide) ⟨_, rfl, rfl, rfl, congrArg vI (by unfold tt; rw [if_neg (by omega), if_neg (by omega), if_pos (by omega)])⟩
    · skip
      have h7 := hb 0 (by omega)
      refine aw_aload_n (q := 20) dX1_trueTime_19 rfl rfl rfl ?_
      refine aw_get (q := 23) dX1_trueTime_20 rfl fl_X1_15 hK.1 rfl (fun _ => ?_)
      refine aw_iconst (q := 24) dX1_trueTime_23 rfl (by omega) ?_
      refine aw_iaload (j := 0) (q := 25) dX1_trueTime_24 rfl hK.2.2 (by omega) (by omega) (fun r6 => ?_)
      refine aw_iload_n (q := 26) dX1_trueTime_25 rfl rfl rfl ?_
      refine aw_iadd (q := 27) dX1_trueTime_26 rfl (by omega) ?_
      refine aw_aload_n (q := 28) dX1_trueTime_27 rfl rfl rfl ?_
      refine aw_get (q := 31) dX1_trueTime_28 rfl fl_X1_9 hK.1 rfl (fun _ => ?_)
      refine aw_iconst (q := 32) dX1_trueTime_31 rfl (by omega) ?_
      refine aw_iaload (j := 0) (q := 33) dX1_trueTime_32 rfl hK.2.1 (by omega) (by omega) (fun r7 => ?_)
      refine aw_isub (q := 34) dX1_trueTime_33 rfl (by omega) ?_
      exact aw_iret dX1_trueTime_34 rfl (by decide) (by decide) ⟨_, rfl, rfl, rfl, congrArg vI (by unfold tt; rw [if_neg (by omega), if_pos (by omega)])⟩
  · skip
    refine aw_iload_n (q := 8) dX1_trueTime_7 rfl rfl rfl ?_
    exact aw_iret dX1_trueTime_8 rfl (by decide) (by decide) ⟨_, rfl, rfl, rfl, congrArg vI (by unfold tt; rw [if_pos (by omega)])⟩
