/-! ===== the law: its loop, and from its entry (written by m_law.py) ===== -/
set_option maxHeartbeats 4000000 in
set_option maxRecDepth 100000 in
theorem law_loop {L : Nat} {f : Nat → Int} (hL : L ≤ 2560) : ∀ (j t : Nat) (μ : AH) (ix : Int), 600 - t < j → ix = ((5 * t : Nat) : Int) → 5 * t ≤ L + 4 → INV (t : Int) μ → AW YL_law (some (L, f)) QL 23 [some (vS), some (vR 0), some (vR 82), some (vR 101), some (vI (ix)), none, none, none] [] 102 μ (200 + 10 * t) (10000 + 60 * t) := by
  intro j
  induction j with
  | zero => intro t μ ix hj; exact absurd hj (Nat.not_lt_zero _)
  | succ j ih =>
    intro t μ ix hj hix ht0 hI
    have tail : ∀ μ' : AH, INV ((t : Int) + 1) μ' → 5 * t + 5 ≤ L → AW YL_law (some (L, f)) QL 1775 [some (vS), some (vR 0), some (vR 82), some (vR 101), some (vI (ix)), none, none, none] [] 102 μ' (200 + 10 * (t + 1)) (10000 + 60 * (t + 1)) := by
      intro μ9 hI9 ht9
      refine aw_iinc (q := 1778) dL_law_1775 rfl rfl (by decide) (by omega) ?_
      refine aw_goto (q := 23) dL_law_1778 (by decide) ?_
      exact ih (t + 1) _ _ (by omega) (by omega) (by omega) (by rw [show ((t + 1 : Nat) : Int) = (t : Int) + 1 by omega]; exact hI9)
    refine aw_iload (q := 25) dL_law_23 rfl rfl ?_
    refine aw_aload_s (q := 26) dL_law_25 rfl rfl rfl ?_
    refine aw_slen (q := 27) dL_law_26 rfl ?_
    refine aw_iconst (q := 28) dL_law_27 rfl (by omega) ?_
    refine aw_isub (q := 29) dL_law_28 rfl (by omega) ?_
    refine aw_ic_gt (t := 1781) (q := 32) dL_law_29 rfl (by decide) (fun bc1 => ?_) (fun bc1 => ?_)
    · skip
      refine aw_iconst (q := 1782) dL_law_1781 rfl (by omega) ?_
      exact aw_zret dL_law_1782 rfl (Or.inr rfl) (show 200 + 10 * t ≤ 601024 by omega) (show 10000 + 60 * t ≤ 7293034 by omega) ⟨_, rfl, rfl⟩
    · skip
      refine aw_aload_s (q := 33) dL_law_32 rfl rfl rfl ?_
      refine aw_iload (q := 35) dL_law_33 rfl rfl ?_
      refine aw_sld (j := 5 * t) (q := 36) dL_law_35 rfl (by omega) (by omega) (fun rx2 => ?_)
      refine aw_bipush (q := 38) dL_law_36 rfl (by decide) (by omega) ?_
      refine aw_maskM 5 32 rfl (q := 39) dL_law_38 rfl (by decide) rfl ?_
      by_cases w0 : (f (5 * t)) % 32 = 0
      · refine aw_tsIn (t := 152) (off := 113) dL_law_39 (by omega) (by omega) (by rw [w0]; rfl) (by decide) ?_
        exact lc_device hix (by omega) hL hI (fun μ9 h9 => tail μ9 h9 (by omega))
      by_cases w1 : (f (5 * t)) % 32 = 1
      · refine aw_tsIn (t := 196) (off := 157) dL_law_39 (by omega) (by omega) (by rw [w1]; rfl) (by decide) ?_
        exact lc_place hix (by omega) hL hI (fun μ9 h9 => tail μ9 h9 (by omega))
      by_cases w2 : (f (5 * t)) % 32 = 2
      · refine aw_tsIn (t := 288) (off := 249) dL_law_39 (by omega) (by omega) (by rw [w2]; rfl) (by decide) ?_
        exact lc_has hix (by omega) hL hI (fun μ9 h9 => tail μ9 h9 (by omega))
      by_cases w3 : (f (5 * t)) % 32 = 3
      · refine aw_tsIn (t := 356) (off := 317) dL_law_39 (by omega) (by omega) (by rw [w3]; rfl) (by decide) ?_
        exact lc_at hix (by omega) hL hI (fun μ9 h9 => tail μ9 h9 (by omega))
      by_cases w4 : (f (5 * t)) % 32 = 4
      · refine aw_tsIn (t := 436) (off := 397) dL_law_39 (by omega) (by omega) (by rw [w4]; rfl) (by decide) ?_
        exact lc_mark hix (by omega) hL hI (fun μ9 h9 => tail μ9 h9 (by omega))
      by_cases w5 : (f (5 * t)) % 32 = 5
      · refine aw_tsIn (t := 516) (off := 477) dL_law_39 (by omega) (by omega) (by rw [w5]; rfl) (by decide) ?_
        exact lc_time hix (by omega) hL hI (fun μ9 h9 => tail μ9 h9 (by omega))
      by_cases w6 : (f (5 * t)) % 32 = 6
      · refine aw_tsIn (t := 584) (off := 545) dL_law_39 (by omega) (by omega) (by rw [w6]; rfl) (by decide) ?_
        exact lc_speed hix (by omega) hL hI (fun μ9 h9 => tail μ9 h9 (by omega))
      by_cases w7 : (f (5 * t)) % 32 = 7
      · refine aw_tsIn (t := 640) (off := 601) dL_law_39 (by omega) (by omega) (by rw [w7]; rfl) (by decide) ?_
        exact lc_limit hix (by omega) hL hI (fun μ9 h9 => tail μ9 h9 (by omega))
      by_cases w8 : (f (5 * t)) % 32 = 8
      · refine aw_tsIn (t := 696) (off := 657) dL_law_39 (by omega) (by omega) (by rw [w8]; rfl) (by decide) ?_
        exact lc_jump hix (by omega) hL hI (fun μ9 h9 => tail μ9 h9 (by omega))
      by_cases w9 : (f (5 * t)) % 32 = 9
      · refine aw_tsIn (t := 764) (off := 725) dL_law_39 (by omega) (by omega) (by rw [w9]; rfl) (by decide) ?_
        exact lc_gap hix (by omega) hL hI (fun μ9 h9 => tail μ9 h9 (by omega))
      by_cases w10 : (f (5 * t)) % 32 = 10
      · refine aw_tsIn (t := 832) (off := 793) dL_law_39 (by omega) (by omega) (by rw [w10]; rfl) (by decide) ?_
        exact lc_could hix (by omega) hL hI (fun μ9 h9 => tail μ9 h9 (by omega))
      by_cases w11 : (f (5 * t)) % 32 = 11
      · refine aw_tsIn (t := 931) (off := 892) dL_law_39 (by omega) (by omega) (by rw [w11]; rfl) (by decide) ?_
        exact lc_fence hix (by omega) hL hI (fun μ9 h9 => tail μ9 h9 (by omega))
      by_cases w12 : (f (5 * t)) % 32 = 12
      · refine aw_tsIn (t := 975) (off := 936) dL_law_39 (by omega) (by omega) (by rw [w12]; rfl) (by decide) ?_
        exact lc_corner hix (by omega) hL hI (fun μ9 h9 => tail μ9 h9 (by omega))
      by_cases w13 : (f (5 * t)) % 32 = 13
      · refine aw_tsIn (t := 1055) (off := 1016) dL_law_39 (by omega) (by omega) (by rw [w13]; rfl) (by decide) ?_
        exact lc_in hix (by omega) hL hI (fun μ9 h9 => tail μ9 h9 (by omega))
      by_cases w14 : (f (5 * t)) % 32 = 14
      · refine aw_tsIn (t := 1142) (off := 1103) dL_law_39 (by omega) (by omega) (by rw [w14]; rfl) (by decide) ?_
        exact lc_port hix (by omega) hL hI (fun μ9 h9 => tail μ9 h9 (by omega))
      by_cases w15 : (f (5 * t)) % 32 = 15
      · refine aw_tsIn (t := 1210) (off := 1171) dL_law_39 (by omega) (by omega) (by rw [w15]; rfl) (by decide) ?_
        exact lc_pack hix (by omega) hL hI (fun μ9 h9 => tail μ9 h9 (by omega))
      by_cases w16 : (f (5 * t)) % 32 = 16
      · refine aw_tsIn (t := 1266) (off := 1227) dL_law_39 (by omega) (by omega) (by rw [w16]; rfl) (by decide) ?_
        exact lc_byteAt hix (by omega) hL hI (fun μ9 h9 => tail μ9 h9 (by omega))
      by_cases w17 : (f (5 * t)) % 32 = 17
      · refine aw_tsIn (t := 1322) (off := 1283) dL_law_39 (by omega) (by omega) (by rw [w17]; rfl) (by decide) ?_
        exact lc_feed hix (by omega) hL hI (fun μ9 h9 => tail μ9 h9 (by omega))
      by_cases w18 : (f (5 * t)) % 32 = 18
      · refine aw_tsIn (t := 1378) (off := 1339) dL_law_39 (by omega) (by omega) (by rw [w18]; rfl) (by decide) ?_
        exact lc_read hix (by omega) hL hI (fun μ9 h9 => tail μ9 h9 (by omega))
      by_cases w19 : (f (5 * t)) % 32 = 19
      · refine aw_tsIn (t := 1434) (off := 1395) dL_law_39 (by omega) (by omega) (by rw [w19]; rfl) (by decide) ?_
        exact lc_repeat hix (by omega) hL hI (fun μ9 h9 => tail μ9 h9 (by omega))
      by_cases w20 : (f (5 * t)) % 32 = 20
      · refine aw_tsIn (t := 1502) (off := 1463) dL_law_39 (by omega) (by omega) (by rw [w20]; rfl) (by decide) ?_
        exact lc_sight hix (by omega) hL hI (fun μ9 h9 => tail μ9 h9 (by omega))
      by_cases w21 : (f (5 * t)) % 32 = 21
      · refine aw_tsIn (t := 1582) (off := 1543) dL_law_39 (by omega) (by omega) (by rw [w21]; rfl) (by decide) ?_
        exact lc_weight hix (by omega) hL hI (fun μ9 h9 => tail μ9 h9 (by omega))
      by_cases w22 : (f (5 * t)) % 32 = 22
      · refine aw_tsIn (t := 1649) (off := 1610) dL_law_39 (by omega) (by omega) (by rw [w22]; rfl) (by decide) ?_
        exact lc_matched hix (by omega) hL hI (fun μ9 h9 => tail μ9 h9 (by omega))
      by_cases w23 : (f (5 * t)) % 32 = 23
      · refine aw_tsIn (t := 1663) (off := 1624) dL_law_39 (by omega) (by omega) (by rw [w23]; rfl) (by decide) ?_
        exact lc_match hix (by omega) hL hI (fun μ9 h9 => tail μ9 h9 (by omega))
      by_cases w24 : (f (5 * t)) % 32 = 24
      · refine aw_tsIn (t := 1719) (off := 1680) dL_law_39 (by omega) (by omega) (by rw [w24]; rfl) (by decide) ?_
        exact lc_told hix (by omega) hL hI (fun μ9 h9 => tail μ9 h9 (by omega))
      refine aw_tsOut (t := 1775) dL_law_39 (by omega) (by decide) ?_
      exact aw_widen (show 200 + 10 * t ≤ 200 + 10 * (t + 1) by omega) (show 10000 + 60 * t ≤ 10000 + 60 * (t + 1) by omega) (tail _ (INV_s hI) (by omega))
set_option maxHeartbeats 4000000 in
set_option maxRecDepth 100000 in
theorem law_all {L : Nat} {f : Nat → Int} {μ : AH} (hL : L ≤ 2560) : AW YL_law (some (L, f)) QL 0 [some (vS), none, none, none, none, none, none, none] [] 0 μ 0 0 := by
  refine aw_new (q := 3) dL_law_0 rfl nw_L_8 (show 0 + 1 < 1000000 by omega) (show 0 + 1 ≤ 601024 by omega) (show 0 + 11 ≤ 7293034 by omega) ?_
  refine aw_dup (q := 4) dL_law_3 rfl rfl ?_
  refine aw_callI [] (q := 7) dL_law_4 rfl ck_X6_init lk_L_95 rfl rfl ⟨Nat.le_of_ble_eq_true rfl, Nat.le_of_ble_eq_true rfl⟩ rfl rfl (Nat.le_of_ble_eq_true rfl) (by decide) (m_X6_init hu_s) (fun _ _ _ h => (Vd_x h).elim) ?_
  rintro v n9 μ1 - ⟨hv9, hn9, hP1, hF1⟩
  obtain rfl := hn9
  obtain rfl := Sum.inl.inj hv9
  refine aw_astore_n (q := 8) dL_law_7 rfl rfl (by decide) ?_
  refine aw_new (q := 11) dL_law_8 rfl nw_L_96 (show 82 + 1 < 1000000 by omega) (show 82 + 1 ≤ 601024 by omega) (show 2947 + 29 ≤ 7293034 by omega) ?_
  refine aw_dup (q := 12) dL_law_11 rfl rfl ?_
  refine aw_callI [] (q := 15) dL_law_12 rfl ck_X7_init lk_L_98 rfl rfl ⟨Nat.le_of_ble_eq_true rfl, Nat.le_of_ble_eq_true rfl⟩ rfl rfl (Nat.le_of_ble_eq_true rfl) (by decide) (m_X7_init hu_s) (fun _ _ _ h => (Vd_x h).elim) ?_
  rintro v n9 μ2 - ⟨hv9, hn9, hP2, hF2⟩
  obtain rfl := hn9
  obtain rfl := Sum.inl.inj hv9
  refine aw_astore_n (q := 16) dL_law_15 rfl rfl (by decide) ?_
  refine aw_ls (ls := [some (vS), some (vR 0), some (vR 82), none, none, none, none, none]) ⟨rfl, ⟨rfl, ⟨rfl, trivial⟩⟩⟩ ?_
  refine aw_iconst (q := 17) dL_law_16 rfl (by omega) ?_
  refine aw_newL 1 (q := 19) dL_law_17 rfl rfl (by omega) ac_long (show 101 + 1 < 1000000 by omega) (show 103 + 1 ≤ 601024 by omega) (show 5459 + 1 ≤ 7293034 by omega) ?_
  refine aw_astore_n (q := 20) dL_law_19 rfl rfl (by decide) ?_
  refine aw_iconst (q := 21) dL_law_20 rfl (by omega) ?_
  refine aw_istore (q := 23) dL_law_21 rfl (by decide) ?_
  refine aw_ls (ls := [some (vS), some (vR 0), some (vR 82), some (vR 101), some (vI (0)), none, none, none]) ⟨rfl, ⟨rfl, ⟨rfl, ⟨rfl, ⟨rfl, trivial⟩⟩⟩⟩⟩ ?_
  refine aw_ls (ls := [some (vS), some (vR 0), some (vR 82), some (vR 101), some (vI (0)), none, none, none]) ⟨rfl, ⟨rfl, ⟨rfl, ⟨rfl, ⟨rfl, trivial⟩⟩⟩⟩⟩ ?_
  exact aw_widen (k' := 200 + 10 * 0) (z' := 10000 + 60 * 0) (by decide) (by decide) (law_loop hL 601 0 _ _ (by omega) rfl (by omega) ⟨0, 0, fun _ => dv0, 0, fun _ => fe0, sv0, (0, zf), (0, zf), 10, 600, zf, CH_k hP1 (fun b hb => ((hu_n (by omega)).trans ((hF2 _ (by omega)).trans ((hu_n (by omega)).trans rfl)))), MM_k hP2 (fun b h1 h2 => ((hu_n (by omega)).trans rfl)), COk_0, hu_s⟩)
