/-! ===== constructors (written by m_init.py) ===== -/
abbrev zf : Nat → Int := fun _ => 0
abbrev dv0 : DVt := (0, zf, zf, zf, 0, 0, zf, zf)
abbrev fe0 : FVt := (0, zf, zf)
theorem aw_have {Y : AY} {S : AScr} {Q : AQ} {pc : Nat} {ls : List (Option AV)} {st : List AV} {n : Nat} {μ : AH} {k z : Nat} (P : AH → Prop) (h : P μ) (K : P μ → AW Y S Q pc ls st n μ k z) : AW Y S Q pc ls st n μ k z := K h
theorem FrR_mn {lo hi n N K : Nat} {μ μ1 : AH} (h : FrR lo hi μ μ1) (h1 : lo ≤ n) (h2 : n + 1 + N ≤ hi) : FrR lo hi μ (mnH μ1 n N K) := fun b hb => by
  rw [← h b hb]
  unfold mnH
  rw [if_neg (by omega), if_neg (by omega)]
set_option maxHeartbeats 4000000 in
set_option maxRecDepth 100000 in
theorem m_X0_init {μ : AH} {q : Nat} (hq : q < 900000) (h : μ q = oO 0 [vN, vI 0, vI 0, vI 0]) : AMet YX0_init [vR q] (q + 1) μ (Vd (fun n' μ' => n' = q + 2 ∧ BY μ' q 0 0 1 zf ∧ FrR q (q + 2) μ μ')) := by
  refine AMet.of (by decide) rfl (Nat.le_of_ble_eq_true rfl) ?_
  refine aw_aload_n (q := 1) dX0_init_0 rfl rfl rfl ?_
  refine aw_obj (q := 4) dX0_init_1 rfl lk_X0_3 ob_i ob_c (by decide) (Nat.le_of_ble_eq_true rfl) ?_
  refine aw_aload_n (q := 5) dX0_init_4 rfl rfl rfl ?_
  refine aw_sipush (q := 8) dX0_init_5 rfl (by decide) (by omega) ?_
  refine aw_newI 600 (q := 10) dX0_init_8 rfl rfl (by omega) ac_int (show (q + 1) + 1 < 1000000 by omega) (show 0 + 1 ≤ 1 by omega) (show 0 + 600 ≤ 600 by omega) ?_
  refine aw_putF (q := 13) dX0_init_10 rfl rfl ff_X0_9 ((hu_n (by omega)).trans h) (Nat.le_of_ble_eq_true rfl) trivial ?_
  refine aw_aload_n (q := 14) dX0_init_13 rfl rfl rfl ?_
  refine aw_iconst (q := 15) dX0_init_14 rfl (by omega) ?_
  refine aw_put (q := 18) dX0_init_15 rfl fp_X0_15 hu_s (Nat.le_of_ble_eq_true rfl) trivial ?_
  refine aw_aload_n (q := 19) dX0_init_18 rfl rfl rfl ?_
  refine aw_iconst (q := 20) dX0_init_19 rfl (by omega) ?_
  refine aw_put (q := 23) dX0_init_20 rfl fp_X0_19 hu_s (Nat.le_of_ble_eq_true rfl) trivial ?_
  refine aw_aload_n (q := 24) dX0_init_23 rfl rfl rfl ?_
  refine aw_iconst (q := 25) dX0_init_24 rfl (by omega) ?_
  refine aw_put (q := 28) dX0_init_25 rfl fp_X0_22 hu_s (Nat.le_of_ble_eq_true rfl) (Or.inr rfl) ?_
  exact aw_vret dX0_init_28 rfl (by decide) (by decide) ⟨rfl, rfl, ⟨hu_s, ((hu_n (by omega)).trans ((hu_n (by omega)).trans ((hu_n (by omega)).trans ((hu_n (by omega)).trans hu_s))))⟩, (FrR_hu (FrR_hu (FrR_hu (FrR_hu (FrR_hu (FrR_rf : FrR q (q + 2) μ μ) (by omega)) (by omega)) (by omega)) (by omega)) (by omega))⟩
set_option maxHeartbeats 4000000 in
set_option maxRecDepth 100000 in
theorem m_X1_init {μ : AH} {q : Nat} (hq : q < 900000) (h : μ q = oO 1 [vN, vN, vI 0]) : AMet YX1_init [vR q] (q + 1) μ (Vd (fun n' μ' => n' = q + 3 ∧ KL μ' q 0 zf zf ∧ FrR q (q + 3) μ μ')) := by
  refine AMet.of (by decide) rfl (Nat.le_of_ble_eq_true rfl) ?_
  refine aw_aload_n (q := 1) dX1_init_0 rfl rfl rfl ?_
  refine aw_obj (q := 4) dX1_init_1 rfl lk_X1_3 ob_i ob_c (by decide) (Nat.le_of_ble_eq_true rfl) ?_
  refine aw_aload_n (q := 5) dX1_init_4 rfl rfl rfl ?_
  refine aw_bipush (q := 7) dX1_init_5 rfl (by decide) (by omega) ?_
  refine aw_newI 8 (q := 9) dX1_init_7 rfl rfl (by omega) ac_int (show (q + 1) + 1 < 1000000 by omega) (show 0 + 1 ≤ 2 by omega) (show 0 + 8 ≤ 16 by omega) ?_
  refine aw_putF (q := 12) dX1_init_9 rfl rfl ff_X1_9 ((hu_n (by omega)).trans h) (Nat.le_of_ble_eq_true rfl) trivial ?_
  refine aw_aload_n (q := 13) dX1_init_12 rfl rfl rfl ?_
  refine aw_bipush (q := 15) dX1_init_13 rfl (by decide) (by omega) ?_
  refine aw_newI 8 (q := 17) dX1_init_15 rfl rfl (by omega) ac_int (show (q + 2) + 1 < 1000000 by omega) (show 1 + 1 ≤ 2 by omega) (show 8 + 8 ≤ 16 by omega) ?_
  refine aw_putF (q := 20) dX1_init_17 rfl rfl ff_X1_15 ((hu_n (by omega)).trans hu_s) (Nat.le_of_ble_eq_true rfl) trivial ?_
  refine aw_aload_n (q := 21) dX1_init_20 rfl rfl rfl ?_
  refine aw_iconst (q := 22) dX1_init_21 rfl (by omega) ?_
  refine aw_put (q := 25) dX1_init_22 rfl fp_X1_18 hu_s (Nat.le_of_ble_eq_true rfl) trivial ?_
  exact aw_vret dX1_init_25 rfl (by decide) (by decide) ⟨rfl, rfl, ⟨hu_s, ((hu_n (by omega)).trans ((hu_n (by omega)).trans ((hu_n (by omega)).trans ((hu_n (by omega)).trans hu_s)))), ((hu_n (by omega)).trans ((hu_n (by omega)).trans hu_s))⟩, (FrR_hu (FrR_hu (FrR_hu (FrR_hu (FrR_hu (FrR_rf : FrR q (q + 3) μ μ) (by omega)) (by omega)) (by omega)) (by omega)) (by omega))⟩
set_option maxHeartbeats 4000000 in
set_option maxRecDepth 100000 in
theorem m_X3_init {μ : AH} {q : Nat} (hq : q < 900000) (h : μ q = oO 3 [vN, vN, vI 0]) : AMet YX3_init [vR q] (q + 1) μ (Vd (fun n' μ' => n' = q + 3 ∧ FE μ' q 0 zf zf ∧ FrR q (q + 3) μ μ')) := by
  refine AMet.of (by decide) rfl (Nat.le_of_ble_eq_true rfl) ?_
  refine aw_aload_n (q := 1) dX3_init_0 rfl rfl rfl ?_
  refine aw_obj (q := 4) dX3_init_1 rfl lk_X3_3 ob_i ob_c (by decide) (Nat.le_of_ble_eq_true rfl) ?_
  refine aw_aload_n (q := 5) dX3_init_4 rfl rfl rfl ?_
  refine aw_bipush (q := 7) dX3_init_5 rfl (by decide) (by omega) ?_
  refine aw_newI 8 (q := 9) dX3_init_7 rfl rfl (by omega) ac_int (show (q + 1) + 1 < 1000000 by omega) (show 0 + 1 ≤ 2 by omega) (show 0 + 8 ≤ 16 by omega) ?_
  refine aw_putF (q := 12) dX3_init_9 rfl rfl ff_X3_9 ((hu_n (by omega)).trans h) (Nat.le_of_ble_eq_true rfl) trivial ?_
  refine aw_aload_n (q := 13) dX3_init_12 rfl rfl rfl ?_
  refine aw_bipush (q := 15) dX3_init_13 rfl (by decide) (by omega) ?_
  refine aw_newI 8 (q := 17) dX3_init_15 rfl rfl (by omega) ac_int (show (q + 2) + 1 < 1000000 by omega) (show 1 + 1 ≤ 2 by omega) (show 8 + 8 ≤ 16 by omega) ?_
  refine aw_putF (q := 20) dX3_init_17 rfl rfl ff_X3_15 ((hu_n (by omega)).trans hu_s) (Nat.le_of_ble_eq_true rfl) trivial ?_
  refine aw_aload_n (q := 21) dX3_init_20 rfl rfl rfl ?_
  refine aw_iconst (q := 22) dX3_init_21 rfl (by omega) ?_
  refine aw_put (q := 25) dX3_init_22 rfl fp_X3_18 hu_s (Nat.le_of_ble_eq_true rfl) trivial ?_
  exact aw_vret dX3_init_25 rfl (by decide) (by decide) ⟨rfl, rfl, ⟨hu_s, ((hu_n (by omega)).trans ((hu_n (by omega)).trans ((hu_n (by omega)).trans ((hu_n (by omega)).trans hu_s)))), ((hu_n (by omega)).trans ((hu_n (by omega)).trans hu_s))⟩, (FrR_hu (FrR_hu (FrR_hu (FrR_hu (FrR_hu (FrR_rf : FrR q (q + 3) μ μ) (by omega)) (by omega)) (by omega)) (by omega)) (by omega))⟩
set_option maxHeartbeats 4000000 in
set_option maxRecDepth 100000 in
theorem m_X5_init {μ : AH} {q m9 : Nat} {x : Int} (hq : q < 900000) (hx : x = (m9 : Int)) (hm : m9 ≤ 60) (h : μ q = oO 5 [vI 0, vN, vN, vN, vI 0]) : AMet YX5_init [vR q, vI (x)] (q + 1) μ (Vd (fun n' μ' => n' = q + 4 ∧ PL μ' q m9 0 zf zf zf ∧ FrR q (q + 4) μ μ')) := by
  refine AMet.of (by decide) rfl (Nat.le_of_ble_eq_true rfl) ?_
  refine aw_aload_n (q := 1) dX5_init_0 rfl rfl rfl ?_
  refine aw_obj (q := 4) dX5_init_1 rfl lk_X5_3 ob_i ob_c (by decide) (Nat.le_of_ble_eq_true rfl) ?_
  refine aw_aload_n (q := 5) dX5_init_4 rfl rfl rfl ?_
  refine aw_iconst (q := 6) dX5_init_5 rfl (by omega) ?_
  refine aw_put (q := 9) dX5_init_6 rfl fp_X5_9 h (Nat.le_of_ble_eq_true rfl) trivial ?_
  refine aw_aload_n (q := 10) dX5_init_9 rfl rfl rfl ?_
  refine aw_iload_n (q := 11) dX5_init_10 rfl rfl rfl ?_
  refine aw_putF (q := 14) dX5_init_11 rfl rfl ff_X5_15 hu_s (Nat.le_of_ble_eq_true rfl) trivial ?_
  refine aw_aload_n (q := 15) dX5_init_14 rfl rfl rfl ?_
  refine aw_iload_n (q := 16) dX5_init_15 rfl rfl rfl ?_
  refine aw_newI m9 (q := 18) dX5_init_16 rfl (by omega) (by omega) ac_int (show (q + 1) + 1 < 1000000 by omega) (show 0 + 1 ≤ 3 by omega) (show 0 + m9 ≤ 180 by omega) ?_
  refine aw_putF (q := 21) dX5_init_18 rfl rfl ff_X5_18 ((hu_n (by omega)).trans hu_s) (Nat.le_of_ble_eq_true rfl) trivial ?_
  refine aw_aload_n (q := 22) dX5_init_21 rfl rfl rfl ?_
  refine aw_iload_n (q := 23) dX5_init_22 rfl rfl rfl ?_
  refine aw_newI m9 (q := 25) dX5_init_23 rfl (by omega) (by omega) ac_int (show (q + 2) + 1 < 1000000 by omega) (show 1 + 1 ≤ 3 by omega) (show (0 + m9) + m9 ≤ 180 by omega) ?_
  refine aw_putF (q := 28) dX5_init_25 rfl rfl ff_X5_22 ((hu_n (by omega)).trans hu_s) (Nat.le_of_ble_eq_true rfl) trivial ?_
  refine aw_aload_n (q := 29) dX5_init_28 rfl rfl rfl ?_
  refine aw_iload_n (q := 30) dX5_init_29 rfl rfl rfl ?_
  refine aw_newI m9 (q := 32) dX5_init_30 rfl (by omega) (by omega) ac_int (show (q + 3) + 1 < 1000000 by omega) (show 2 + 1 ≤ 3 by omega) (show ((0 + m9) + m9) + m9 ≤ 180 by omega) ?_
  refine aw_putF (q := 35) dX5_init_32 rfl rfl ff_X5_25 ((hu_n (by omega)).trans hu_s) (Nat.le_of_ble_eq_true rfl) trivial ?_
  exact aw_vret dX5_init_35 rfl (show 3 ≤ 3 by omega) (show (((0 + m9) + m9) + m9) ≤ 180 by omega) ⟨rfl, rfl, ⟨by rw [← hx]; exact hu_s, ((hu_n (by omega)).trans ((hu_n (by omega)).trans ((hu_n (by omega)).trans ((hu_n (by omega)).trans ((hu_n (by omega)).trans hu_s))))), ((hu_n (by omega)).trans ((hu_n (by omega)).trans ((hu_n (by omega)).trans hu_s))), ((hu_n (by omega)).trans hu_s)⟩, (FrR_hu (FrR_hu (FrR_hu (FrR_hu (FrR_hu (FrR_hu (FrR_hu (FrR_hu (FrR_rf : FrR q (q + 4) μ μ) (by omega)) (by omega)) (by omega)) (by omega)) (by omega)) (by omega)) (by omega)) (by omega))⟩
set_option maxHeartbeats 4000000 in
set_option maxRecDepth 100000 in
theorem m_X2_init {μ : AH} {q : Nat} (hq : q < 800000) (h : μ q = oO 2 [vN, vN, vI 0]) : AMet YX2_init [vR q] (q + 1) μ (Vd (fun n' μ' => n' = q + 8 ∧ dv_L μ' q dv0 ∧ FrR q (q + 8) μ μ')) := by
  refine AMet.of (by decide) rfl (Nat.le_of_ble_eq_true rfl) ?_
  refine aw_aload_n (q := 1) dX2_init_0 rfl rfl rfl ?_
  refine aw_obj (q := 4) dX2_init_1 rfl lk_X2_3 ob_i ob_c (by decide) (Nat.le_of_ble_eq_true rfl) ?_
  refine aw_aload_n (q := 5) dX2_init_4 rfl rfl rfl ?_
  refine aw_new (q := 8) dX2_init_5 rfl nw_X2_9 (show (q + 1) + 1 < 1000000 by omega) (show 0 + 1 ≤ 7 by omega) (show 0 + 5 ≤ 204 by omega) ?_
  refine aw_dup (q := 9) dX2_init_8 rfl rfl ?_
  refine aw_bipush (q := 11) dX2_init_9 rfl (by decide) (by omega) ?_
  refine aw_callI [vI (60)] (q := 14) dX2_init_11 rfl ck_X5_init lk_X2_11 rfl rfl ⟨Nat.le_of_ble_eq_true rfl, Nat.le_of_ble_eq_true rfl⟩ rfl rfl (Nat.le_of_ble_eq_true rfl) (by decide) (m_X5_init (q := q + 1) (m9 := 60) (by omega) rfl (by omega) hu_s) (fun _ _ _ h => (Vd_x h).elim) ?_
  rintro v n9 μ1 - ⟨hv9, hn9, hP1, hF1⟩
  obtain rfl := hn9
  obtain rfl := Sum.inl.inj hv9
  refine aw_putF (q := 17) dX2_init_14 rfl rfl ff_X2_14 ((hF1 _ (by omega)).trans ((hu_n (by omega)).trans h)) (Nat.le_of_ble_eq_true rfl) trivial ?_
  refine aw_aload_n (q := 18) dX2_init_17 rfl rfl rfl ?_
  refine aw_new (q := 21) dX2_init_18 rfl nw_X2_20 (show (q + 5) + 1 < 1000000 by omega) (show 4 + 1 ≤ 7 by omega) (show 185 + 3 ≤ 204 by omega) ?_
  refine aw_dup (q := 22) dX2_init_21 rfl rfl ?_
  refine aw_callIN [] (q := 25) dX2_init_22 rfl ck_X1_init lk_X2_22 im_X1_init rfl rfl ⟨Nat.le_of_ble_eq_true rfl, Nat.le_of_ble_eq_true rfl⟩ rfl rfl (Nat.le_of_ble_eq_true rfl) (by decide) (m_X1_init (q := q + 5) (by omega) hu_s) (fun _ _ _ h => (Vd_x h).elim) ?_
  rintro v n9 μ2 - ⟨hv9, hn9, hP2, hF2⟩
  obtain rfl := hn9
  obtain rfl := Sum.inl.inj hv9
  refine aw_putF (q := 28) dX2_init_25 rfl rfl ff_X2_23 ((hF2 _ (by omega)).trans ((hu_n (by omega)).trans hu_s)) (Nat.le_of_ble_eq_true rfl) trivial ?_
  refine aw_aload_n (q := 29) dX2_init_28 rfl rfl rfl ?_
  refine aw_iconst (q := 30) dX2_init_29 rfl (by omega) ?_
  refine aw_put (q := 33) dX2_init_30 rfl fp_X2_27 hu_s (Nat.le_of_ble_eq_true rfl) trivial ?_
  exact aw_vret dX2_init_33 rfl (by decide) (by decide) ⟨rfl, rfl, ⟨hu_s, PL_k hP1 (fun j hj => ((hu_n (by omega)).trans ((hu_n (by omega)).trans ((hF2 _ (by omega)).trans ((hu_n (by omega)).trans ((hu_n (by omega)).trans rfl)))))), KL_k hP2 (fun j hj => ((hu_n (by omega)).trans ((hu_n (by omega)).trans rfl)))⟩, (FrR_hu (FrR_hu (FrR_tr (FrR_hu (FrR_hu (FrR_tr (FrR_hu (FrR_rf : FrR q (q + 8) μ μ) (by omega)) (FrR_w hF1 (by omega) (by omega))) (by omega)) (by omega)) (FrR_w hF2 (by omega) (by omega))) (by omega)) (by omega))⟩
set_option maxHeartbeats 4000000 in
set_option maxRecDepth 100000 in
theorem m_X4_init {μ : AH} (h : μ 7 = oO 4 [vN, vN, vN, vI 0, vI 0]) : AMet YX4_init [vR 7] (8) μ (Vd (fun n' μ' => n' = 22 ∧ MT μ' (fun _ => zf) (fun _ => zf) zf 0 0 ∧ FrR 7 22 μ μ')) := by
  refine AMet.of (by decide) rfl (Nat.le_of_ble_eq_true rfl) ?_
  refine aw_aload_n (q := 1) dX4_init_0 rfl rfl rfl ?_
  refine aw_obj (q := 4) dX4_init_1 rfl lk_X4_3 ob_i ob_c (by decide) (Nat.le_of_ble_eq_true rfl) ?_
  refine aw_aload_n (q := 5) dX4_init_4 rfl rfl rfl ?_
  refine aw_iconst (q := 6) dX4_init_5 rfl (by omega) ?_
  refine aw_iconst (q := 7) dX4_init_6 rfl (by omega) ?_
  refine aw_mna 5 5 (q := 11) dX4_init_7 rfl rfl rfl (by omega) (by omega) cl_X4_9 ac_long (show 8 + 1 + 5 < 1000000 by omega) (show 0 + (1 + 5) ≤ 14 by omega) (show 0 + (5 + 5 * 5) ≤ 233 by omega) ?_
  refine aw_putF (q := 14) dX4_init_11 rfl rfl ff_X4_11 ((mnH_n (by omega)).trans h) (Nat.le_of_ble_eq_true rfl) trivial ?_
  refine aw_aload_n (q := 15) dX4_init_14 rfl rfl rfl ?_
  refine aw_bipush (q := 17) dX4_init_15 rfl (by decide) (by omega) ?_
  refine aw_bipush (q := 19) dX4_init_17 rfl (by decide) (by omega) ?_
  refine aw_mna 6 32 (q := 23) dX4_init_19 rfl rfl rfl (by omega) (by omega) cl_X4_9 ac_long (show 14 + 1 + 6 < 1000000 by omega) (show 6 + (1 + 6) ≤ 14 by omega) (show 30 + (6 + 6 * 32) ≤ 233 by omega) ?_
  refine aw_putF (q := 26) dX4_init_23 rfl rfl ff_X4_16 ((mnH_n (by omega)).trans hu_s) (Nat.le_of_ble_eq_true rfl) trivial ?_
  refine aw_aload_n (q := 27) dX4_init_26 rfl rfl rfl ?_
  refine aw_iconst (q := 28) dX4_init_27 rfl (by omega) ?_
  refine aw_newI 5 (q := 30) dX4_init_28 rfl rfl (by omega) ac_int (show 21 + 1 < 1000000 by omega) (show 13 + 1 ≤ 14 by omega) (show 228 + 5 ≤ 233 by omega) ?_
  refine aw_putF (q := 33) dX4_init_30 rfl rfl ff_X4_19 ((hu_n (by omega)).trans hu_s) (Nat.le_of_ble_eq_true rfl) trivial ?_
  refine aw_aload_n (q := 34) dX4_init_33 rfl rfl rfl ?_
  refine aw_iconst (q := 35) dX4_init_34 rfl (by omega) ?_
  refine aw_put (q := 38) dX4_init_35 rfl fp_X4_23 hu_s (Nat.le_of_ble_eq_true rfl) trivial ?_
  refine aw_aload_n (q := 39) dX4_init_38 rfl rfl rfl ?_
  refine aw_iconst (q := 40) dX4_init_39 rfl (by omega) ?_
  refine aw_put (q := 43) dX4_init_40 rfl fp_X4_27 hu_s (Nat.le_of_ble_eq_true rfl) trivial ?_
  exact aw_vret dX4_init_43 rfl (by decide) (by decide) ⟨rfl, rfl, ⟨hu_s, ((hu_n (by omega)).trans ((hu_n (by omega)).trans ((hu_n (by omega)).trans ((hu_n (by omega)).trans ((hu_n (by omega)).trans ((mnH_n (by omega)).trans ((hu_n (by omega)).trans mnH_o))))))), (fun k hk => ((hu_n (by omega)).trans ((hu_n (by omega)).trans ((hu_n (by omega)).trans ((hu_n (by omega)).trans ((hu_n (by omega)).trans ((mnH_n (by omega)).trans ((hu_n (by omega)).trans (mnH_r hk))))))))), ((hu_n (by omega)).trans ((hu_n (by omega)).trans ((hu_n (by omega)).trans ((hu_n (by omega)).trans ((hu_n (by omega)).trans mnH_o))))), (fun k hk => ((hu_n (by omega)).trans ((hu_n (by omega)).trans ((hu_n (by omega)).trans ((hu_n (by omega)).trans ((hu_n (by omega)).trans (mnH_r hk))))))), ((hu_n (by omega)).trans ((hu_n (by omega)).trans ((hu_n (by omega)).trans hu_s)))⟩, (FrR_hu (FrR_hu (FrR_hu (FrR_hu (FrR_hu (FrR_mn (FrR_hu (FrR_mn (FrR_rf : FrR 7 22 μ μ) (by omega) (by omega)) (by omega)) (by omega) (by omega)) (by omega)) (by omega)) (by omega)) (by omega)) (by omega))⟩
/-- the class half made: i devices, j fences -/
def I6 (μ : AH) (i j : Nat) : Prop := μ 0 = oO 6 [vR 1, vR 2, vR 3, vR 7, vR 22, vR 24, vR 26, vI 0, vI 0, vI 10, vI 600] ∧ μ 1 = oR 2 5 (fun k => if k < i then some (30 + 8 * k) else none) ∧ μ 2 = oR 3 4 (fun k => if k < j then some (70 + 3 * k) else none) ∧ PL μ 3 5 0 zf zf zf ∧ MT μ (fun _ => zf) (fun _ => zf) zf 0 0 ∧ BY μ 22 0 0 1 zf ∧ BY μ 24 0 0 1 zf ∧ PL μ 26 60 0 zf zf zf ∧ (∀ d, d < i → dv_L μ (30 + 8 * d) dv0) ∧ ∀ f, f < j → FE μ (70 + 3 * f) 0 zf zf
theorem no0 (a b : Nat) : (fun _ => none : Nat → Option Nat) = fun k => if k < 0 then some (a + b * k) else none := funext fun k => (if_neg (Nat.not_lt_zero k)).symm
theorem qu_i (a b i : Nat) : qu (fun k => if k < i then some (a + b * k) else none) i (some (a + b * i)) = fun k => if k < i + 1 then some (a + b * k) else none := funext fun k => by
  by_cases e : k = i
  · subst e; rw [qu_s, if_pos (Nat.lt_succ_self k)]
  · rw [qu_n e]
    by_cases h : k < i
    · rw [if_pos h, if_pos (by omega)]
    · rw [if_neg h, if_neg (by omega)]
theorem I6_d {μ μ2 : AH} {i : Nat} {o : AO} (h : I6 μ i 0) (hi : i < 5) (hF : FrR (30 + 8 * i) (38 + 8 * i) (hu μ (30 + 8 * i) o) μ2) (hD : dv_L μ2 (30 + 8 * i) dv0) : I6 (hu μ2 1 (oR 2 5 (qu (fun k => if k < i then some (30 + 8 * k) else none) i (some (30 + 8 * i))))) (i + 1) 0 := by
  obtain ⟨a, b, c, d, e, f, g, j, k, l⟩ := h
  have key : ∀ x, x < 30 + 8 * i → x ≠ 1 → hu μ2 1 (oR 2 5 (qu (fun k => if k < i then some (30 + 8 * k) else none) i (some (30 + 8 * i)))) x = μ x := fun x h1 h2 => (hu_n h2).trans ((hF x (by omega)).trans (hu_n (by omega)))
  refine ⟨(key 0 (by omega) (by omega)).trans a, hu_s.trans (congrArg (oR 2 5) (qu_i 30 8 i)), (key 2 (by omega) (by omega)).trans c, PL_k d (fun j hj => key _ (by omega) (by omega)), MT_k e (fun b h1 h2 => key b (by omega) (by omega)), BY_k f (fun j hj => key _ (by omega) (by omega)), BY_k g (fun j hj => key _ (by omega) (by omega)), PL_k j (fun j hj => key _ (by omega) (by omega)), fun x hx => ?_, fun x hx => absurd hx (Nat.not_lt_zero x)⟩
  rcases Nat.lt_succ_iff_lt_or_eq.mp hx with q | q
  · exact DL_k (k x q) (fun j hj => key _ (by omega) (by omega))
  · subst q
    exact DL_k hD (fun j hj => hu_n (by omega))
theorem I6_f {μ μ2 : AH} {i : Nat} {o : AO} (h : I6 μ 5 i) (hi : i < 4) (hF : FrR (70 + 3 * i) (73 + 3 * i) (hu μ (70 + 3 * i) o) μ2) (hD : FE μ2 (70 + 3 * i) 0 zf zf) : I6 (hu μ2 2 (oR 3 4 (qu (fun k => if k < i then some (70 + 3 * k) else none) i (some (70 + 3 * i))))) 5 (i + 1) := by
  obtain ⟨a, b, c, d, e, f, g, j, k, l⟩ := h
  have key : ∀ x, x < 70 + 3 * i → x ≠ 2 → hu μ2 2 (oR 3 4 (qu (fun k => if k < i then some (70 + 3 * k) else none) i (some (70 + 3 * i)))) x = μ x := fun x h1 h2 => (hu_n h2).trans ((hF x (by omega)).trans (hu_n (by omega)))
  refine ⟨(key 0 (by omega) (by omega)).trans a, (key 1 (by omega) (by omega)).trans b, hu_s.trans (congrArg (oR 3 4) (qu_i 70 3 i)), PL_k d (fun j hj => key _ (by omega) (by omega)), MT_k e (fun b h1 h2 => key b (by omega) (by omega)), BY_k f (fun j hj => key _ (by omega) (by omega)), BY_k g (fun j hj => key _ (by omega) (by omega)), PL_k j (fun j hj => key _ (by omega) (by omega)), fun x hx => DL_k (k x hx) (fun j hj => key _ (by omega) (by omega)), fun x hx => ?_⟩
  rcases Nat.lt_succ_iff_lt_or_eq.mp hx with q | q
  · exact FE_k (l x q) (fun j hj => key _ (by omega) (by omega))
  · subst q
    exact FE_k hD (fun j hj => hu_n (by omega))
abbrev sv0 : SVt := (0, zf, zf, zf)
theorem I6_e {μ : AH} (h : I6 μ 5 4) : CH μ 0 (fun _ => dv0) 0 (fun _ => fe0) sv0 (0, zf) (0, zf) 10 600 := by
  obtain ⟨a, b, c, d, e, f, g, j, k, l⟩ := h
  exact ⟨a, b, c, d, ⟨_, _, _, _, _, e⟩, ⟨_, _, f⟩, ⟨_, _, g⟩, ⟨_, _, _, _, j⟩, k, l⟩
theorem COk_0 : COk 0 0 (fun _ => dv0) 0 (fun _ => fe0) sv0 (0, zf) (0, zf) 10 600 :=
  ⟨Nat.zero_le _, fun d hd => ⟨⟨Nat.zero_le _, fun p hp => absurd hp (Nat.not_lt_zero p), fun p hp => absurd hp (Nat.not_lt_zero _), Nat.zero_le _, fun p hp => absurd hp (Nat.not_lt_zero p), fun p hp => absurd hp (Nat.not_lt_zero _)⟩, Int.le_refl 0, Int.le_refl 0⟩, Nat.zero_le _, fun k hk => ⟨Nat.zero_le _, fun p hp => absurd hp (Nat.not_lt_zero p)⟩, Nat.zero_le _, fun p hp => absurd hp (Nat.not_lt_zero p), Nat.zero_le _, Nat.zero_le _, fun p hp => absurd hp (Nat.not_lt_zero p), by decide, by decide, by decide, by decide⟩
set_option maxHeartbeats 4000000 in
set_option maxRecDepth 100000 in
theorem m_X6_init {μ : AH} (h : μ 0 = oO 6 [vN, vN, vN, vN, vN, vN, vN, vI 0, vI 0, vI 0, vI 0]) : AMet YX6_init [vR 0] (1) μ (Vd (fun n' μ' => n' = 82 ∧ CH μ' 0 (fun _ => dv0) 0 (fun _ => fe0) sv0 (0, zf) (0, zf) 10 600 ∧ FrR 0 82 μ μ')) := by
  refine AMet.of (by decide) rfl (Nat.le_of_ble_eq_true rfl) ?_
  refine aw_aload_n (q := 1) dX6_init_0 rfl rfl rfl ?_
  refine aw_obj (q := 4) dX6_init_1 rfl lk_X6_1 ob_i ob_c (by decide) (Nat.le_of_ble_eq_true rfl) ?_
  refine aw_aload_n (q := 5) dX6_init_4 rfl rfl rfl ?_
  refine aw_iconst (q := 6) dX6_init_5 rfl (by omega) ?_
  refine aw_newR 5 2 "TrackRows$Device" (q := 9) dX6_init_6 rfl rfl (by omega) cl_X6_9 (Or.inl ⟨rfl, rfl⟩) (show 1 + 1 < 1000000 by omega) (show 0 + 1 ≤ 81 by omega) (show 0 + 5 ≤ 2936 by omega) ?_
  refine aw_putF (q := 12) dX6_init_9 rfl rfl ff_X6_11 ((hu_n (by omega)).trans h) (Nat.le_of_ble_eq_true rfl) trivial ?_
  refine aw_aload_n (q := 13) dX6_init_12 rfl rfl rfl ?_
  refine aw_iconst (q := 14) dX6_init_13 rfl (by omega) ?_
  refine aw_newR 4 3 "TrackRows$Fence" (q := 17) dX6_init_14 rfl rfl (by omega) cl_X6_15 (Or.inr ⟨rfl, rfl⟩) (show 2 + 1 < 1000000 by omega) (show 1 + 1 ≤ 81 by omega) (show 5 + 4 ≤ 2936 by omega) ?_
  refine aw_putF (q := 20) dX6_init_17 rfl rfl ff_X6_17 ((hu_n (by omega)).trans hu_s) (Nat.le_of_ble_eq_true rfl) trivial ?_
  refine aw_aload_n (q := 21) dX6_init_20 rfl rfl rfl ?_
  refine aw_new (q := 24) dX6_init_21 rfl nw_X6_21 (show 3 + 1 < 1000000 by omega) (show 2 + 1 ≤ 81 by omega) (show 9 + 5 ≤ 2936 by omega) ?_
  refine aw_dup (q := 25) dX6_init_24 rfl rfl ?_
  refine aw_iconst (q := 26) dX6_init_25 rfl (by omega) ?_
  refine aw_callI [vI (5)] (q := 29) dX6_init_26 rfl ck_X5_init lk_X6_23 rfl rfl ⟨Nat.le_of_ble_eq_true rfl, Nat.le_of_ble_eq_true rfl⟩ rfl rfl (Nat.le_of_ble_eq_true rfl) (by decide) (m_X5_init (q := 3) (m9 := 5) (by omega) rfl (by omega) hu_s) (fun _ _ _ h => (Vd_x h).elim) ?_
  rintro v n9 μ1 - ⟨hv9, hn9, hP1, hF1⟩
  obtain rfl := hn9
  obtain rfl := Sum.inl.inj hv9
  refine aw_putF (q := 32) dX6_init_29 rfl rfl ff_X6_26 ((hF1 _ (by omega)).trans ((hu_n (by omega)).trans hu_s)) (Nat.le_of_ble_eq_true rfl) trivial ?_
  refine aw_aload_n (q := 33) dX6_init_32 rfl rfl rfl ?_
  refine aw_new (q := 36) dX6_init_33 rfl nw_X6_30 (show 7 + 1 < 1000000 by omega) (show 6 + 1 ≤ 81 by omega) (show 194 + 5 ≤ 2936 by omega) ?_
  refine aw_dup (q := 37) dX6_init_36 rfl rfl ?_
  refine aw_callIN [] (q := 40) dX6_init_37 rfl ck_X4_init lk_X6_32 im_X4_init rfl rfl ⟨Nat.le_of_ble_eq_true rfl, Nat.le_of_ble_eq_true rfl⟩ rfl rfl (Nat.le_of_ble_eq_true rfl) (by decide) (m_X4_init hu_s) (fun _ _ _ h => (Vd_x h).elim) ?_
  rintro v n9 μ2 - ⟨hv9, hn9, hP2, hF2⟩
  obtain rfl := hn9
  obtain rfl := Sum.inl.inj hv9
  refine aw_putF (q := 43) dX6_init_40 rfl rfl ff_X6_33 ((hF2 _ (by omega)).trans ((hu_n (by omega)).trans hu_s)) (Nat.le_of_ble_eq_true rfl) trivial ?_
  refine aw_aload_n (q := 44) dX6_init_43 rfl rfl rfl ?_
  refine aw_new (q := 47) dX6_init_44 rfl nw_X6_37 (show 22 + 1 < 1000000 by omega) (show 21 + 1 ≤ 81 by omega) (show 432 + 4 ≤ 2936 by omega) ?_
  refine aw_dup (q := 48) dX6_init_47 rfl rfl ?_
  refine aw_callIN [] (q := 51) dX6_init_48 rfl ck_X0_init lk_X6_39 im_X0_init rfl rfl ⟨Nat.le_of_ble_eq_true rfl, Nat.le_of_ble_eq_true rfl⟩ rfl rfl (Nat.le_of_ble_eq_true rfl) (by decide) (m_X0_init (q := 22) (by omega) hu_s) (fun _ _ _ h => (Vd_x h).elim) ?_
  rintro v n9 μ3 - ⟨hv9, hn9, hP3, hF3⟩
  obtain rfl := hn9
  obtain rfl := Sum.inl.inj hv9
  refine aw_putF (q := 54) dX6_init_51 rfl rfl ff_X6_40 ((hF3 _ (by omega)).trans ((hu_n (by omega)).trans hu_s)) (Nat.le_of_ble_eq_true rfl) trivial ?_
  refine aw_aload_n (q := 55) dX6_init_54 rfl rfl rfl ?_
  refine aw_new (q := 58) dX6_init_55 rfl nw_X6_37 (show 24 + 1 < 1000000 by omega) (show 23 + 1 ≤ 81 by omega) (show 1036 + 4 ≤ 2936 by omega) ?_
  refine aw_dup (q := 59) dX6_init_58 rfl rfl ?_
  refine aw_callIN [] (q := 62) dX6_init_59 rfl ck_X0_init lk_X6_39 im_X0_init rfl rfl ⟨Nat.le_of_ble_eq_true rfl, Nat.le_of_ble_eq_true rfl⟩ rfl rfl (Nat.le_of_ble_eq_true rfl) (by decide) (m_X0_init (q := 24) (by omega) hu_s) (fun _ _ _ h => (Vd_x h).elim) ?_
  rintro v n9 μ4 - ⟨hv9, hn9, hP4, hF4⟩
  obtain rfl := hn9
  obtain rfl := Sum.inl.inj hv9
  refine aw_putF (q := 65) dX6_init_62 rfl rfl ff_X6_44 ((hF4 _ (by omega)).trans ((hu_n (by omega)).trans hu_s)) (Nat.le_of_ble_eq_true rfl) trivial ?_
  refine aw_aload_n (q := 66) dX6_init_65 rfl rfl rfl ?_
  refine aw_new (q := 69) dX6_init_66 rfl nw_X6_21 (show 26 + 1 < 1000000 by omega) (show 25 + 1 ≤ 81 by omega) (show 1640 + 5 ≤ 2936 by omega) ?_
  refine aw_dup (q := 70) dX6_init_69 rfl rfl ?_
  refine aw_bipush (q := 72) dX6_init_70 rfl (by decide) (by omega) ?_
  refine aw_callI [vI (60)] (q := 75) dX6_init_72 rfl ck_X5_init lk_X6_23 rfl rfl ⟨Nat.le_of_ble_eq_true rfl, Nat.le_of_ble_eq_true rfl⟩ rfl rfl (Nat.le_of_ble_eq_true rfl) (by decide) (m_X5_init (q := 26) (m9 := 60) (by omega) rfl (by omega) hu_s) (fun _ _ _ h => (Vd_x h).elim) ?_
  rintro v n9 μ5 - ⟨hv9, hn9, hP5, hF5⟩
  obtain rfl := hn9
  obtain rfl := Sum.inl.inj hv9
  refine aw_putF (q := 78) dX6_init_75 rfl rfl ff_X6_47 ((hF5 _ (by omega)).trans ((hu_n (by omega)).trans hu_s)) (Nat.le_of_ble_eq_true rfl) trivial ?_
  refine aw_aload_n (q := 79) dX6_init_78 rfl rfl rfl ?_
  refine aw_iconst (q := 80) dX6_init_79 rfl (by omega) ?_
  refine aw_put (q := 83) dX6_init_80 rfl fp_X6_50 hu_s (Nat.le_of_ble_eq_true rfl) trivial ?_
  refine aw_aload_n (q := 84) dX6_init_83 rfl rfl rfl ?_
  refine aw_iconst (q := 85) dX6_init_84 rfl (by omega) ?_
  refine aw_put (q := 88) dX6_init_85 rfl fp_X6_54 hu_s (Nat.le_of_ble_eq_true rfl) trivial ?_
  refine aw_aload_n (q := 89) dX6_init_88 rfl rfl rfl ?_
  refine aw_bipush (q := 91) dX6_init_89 rfl (by decide) (by omega) ?_
  refine aw_put (q := 94) dX6_init_91 rfl fp_X6_57 hu_s (Nat.le_of_ble_eq_true rfl) trivial ?_
  refine aw_aload_n (q := 95) dX6_init_94 rfl rfl rfl ?_
  refine aw_sipush (q := 98) dX6_init_95 rfl (by decide) (by omega) ?_
  refine aw_put (q := 101) dX6_init_98 rfl fp_X6_60 hu_s (Nat.le_of_ble_eq_true rfl) trivial ?_
  refine aw_have (fun μ => I6 μ 0 0) ?_ (fun hI0 => ?_)
  · exact ⟨hu_s, ((hu_n (by omega)).trans ((hu_n (by omega)).trans ((hu_n (by omega)).trans ((hu_n (by omega)).trans ((hu_n (by omega)).trans ((hF5 _ (by omega)).trans ((hu_n (by omega)).trans ((hu_n (by omega)).trans ((hF4 _ (by omega)).trans ((hu_n (by omega)).trans ((hu_n (by omega)).trans ((hF3 _ (by omega)).trans ((hu_n (by omega)).trans ((hu_n (by omega)).trans ((hF2 _ (by omega)).trans ((hu_n (by omega)).trans ((hu_n (by omega)).trans ((hF1 _ (by omega)).trans ((hu_n (by omega)).trans ((hu_n (by omega)).trans ((hu_n (by omega)).trans ((hu_n (by omega)).trans hu_s)))))))))))))))))))))).trans (congrArg (oR 2 5) (no0 30 8)), ((hu_n (by omega)).trans ((hu_n (by omega)).trans ((hu_n (by omega)).trans ((hu_n (by omega)).trans ((hu_n (by omega)).trans ((hF5 _ (by omega)).trans ((hu_n (by omega)).trans ((hu_n (by omega)).trans ((hF4 _ (by omega)).trans ((hu_n (by omega)).trans ((hu_n (by omega)).trans ((hF3 _ (by omega)).trans ((hu_n (by omega)).trans ((hu_n (by omega)).trans ((hF2 _ (by omega)).trans ((hu_n (by omega)).trans ((hu_n (by omega)).trans ((hF1 _ (by omega)).trans ((hu_n (by omega)).trans ((hu_n (by omega)).trans hu_s)))))))))))))))))))).trans (congrArg (oR 3 4) (no0 70 3)), PL_k hP1 (fun j hj => ((hu_n (by omega)).trans ((hu_n (by omega)).trans ((hu_n (by omega)).trans ((hu_n (by omega)).trans ((hu_n (by omega)).trans ((hF5 _ (by omega)).trans ((hu_n (by omega)).trans ((hu_n (by omega)).trans ((hF4 _ (by omega)).trans ((hu_n (by omega)).trans ((hu_n (by omega)).trans ((hF3 _ (by omega)).trans ((hu_n (by omega)).trans ((hu_n (by omega)).trans ((hF2 _ (by omega)).trans ((hu_n (by omega)).trans ((hu_n (by omega)).trans rfl)))))))))))))))))), MT_k hP2 (fun b h1 h2 => ((hu_n (by omega)).trans ((hu_n (by omega)).trans ((hu_n (by omega)).trans ((hu_n (by omega)).trans ((hu_n (by omega)).trans ((hF5 _ (by omega)).trans ((hu_n (by omega)).trans ((hu_n (by omega)).trans ((hF4 _ (by omega)).trans ((hu_n (by omega)).trans ((hu_n (by omega)).trans ((hF3 _ (by omega)).trans ((hu_n (by omega)).trans ((hu_n (by omega)).trans rfl))))))))))))))), BY_k hP3 (fun j hj => ((hu_n (by omega)).trans ((hu_n (by omega)).trans ((hu_n (by omega)).trans ((hu_n (by omega)).trans ((hu_n (by omega)).trans ((hF5 _ (by omega)).trans ((hu_n (by omega)).trans ((hu_n (by omega)).trans ((hF4 _ (by omega)).trans ((hu_n (by omega)).trans ((hu_n (by omega)).trans rfl)))))))))))), BY_k hP4 (fun j hj => ((hu_n (by omega)).trans ((hu_n (by omega)).trans ((hu_n (by omega)).trans ((hu_n (by omega)).trans ((hu_n (by omega)).trans ((hF5 _ (by omega)).trans ((hu_n (by omega)).trans ((hu_n (by omega)).trans rfl))))))))), PL_k hP5 (fun j hj => ((hu_n (by omega)).trans ((hu_n (by omega)).trans ((hu_n (by omega)).trans ((hu_n (by omega)).trans ((hu_n (by omega)).trans rfl)))))), fun d hd => absurd hd (Nat.not_lt_zero d), fun d hd => absurd hd (Nat.not_lt_zero d)⟩
  · skip
    refine aw_iconst (q := 102) dX6_init_101 rfl (by omega) ?_
    refine aw_istore_n (q := 103) dX6_init_102 rfl rfl (by decide) ?_
    refine aw_iload_n (q := 104) dX6_init_103 rfl rfl rfl ?_
    refine aw_iconst (q := 105) dX6_init_104 rfl (by omega) ?_
    refine aw_ic_ge (t := 127) (q := 108) dX6_init_105 rfl (by decide) (fun bc1 => ?_) (fun bc1 => ?_)
    · skip
      omega
    · skip
      refine aw_aload_n (q := 109) dX6_init_108 rfl rfl rfl ?_
      refine aw_get (q := 112) dX6_init_109 rfl fl_X6_11 hI0.1 rfl (fun _ => ?_)
      refine aw_iload_n (q := 113) dX6_init_112 rfl rfl rfl ?_
      refine aw_new (q := 116) dX6_init_113 rfl nw_X6_9 (show 30 + 1 < 1000000 by omega) (show 29 + 1 ≤ 81 by omega) (show 1825 + 3 ≤ 2936 by omega) ?_
      refine aw_dup (q := 117) dX6_init_116 rfl rfl ?_
      refine aw_callIN [] (q := 120) dX6_init_117 rfl ck_X2_init lk_X6_63 im_X2_init rfl rfl ⟨Nat.le_of_ble_eq_true rfl, Nat.le_of_ble_eq_true rfl⟩ rfl rfl (Nat.le_of_ble_eq_true rfl) (by decide) (m_X2_init (q := 30) (by omega) hu_s) (fun _ _ _ h => (Vd_x h).elim) ?_
      rintro v n9 μd0 - ⟨hv9, hn9, hPd0, hFd0⟩
      obtain rfl := hn9
      obtain rfl := Sum.inl.inj hv9
      refine aw_aastore (j := 0) (q := 121) dX6_init_120 rfl ((hFd0 _ (by omega)).trans ((hu_n (by omega)).trans hI0.2.1)) hPd0.1 rfl (by omega) (Or.inl ⟨rfl, rfl⟩) ?_
      have hI1 : I6 _ 1 0 := I6_d (i := 0) hI0 (by omega) hFd0 hPd0
      refine aw_iinc (q := 124) dX6_init_121 rfl rfl (by decide) (by omega) ?_
      refine aw_ls (ls := [some (vR 0), some (vI (1))]) ⟨rfl, ⟨rfl, trivial⟩⟩ ?_
      refine aw_goto (q := 103) dX6_init_124 (by decide) ?_
      refine aw_iload_n (q := 104) dX6_init_103 rfl rfl rfl ?_
      refine aw_iconst (q := 105) dX6_init_104 rfl (by omega) ?_
      refine aw_ic_ge (t := 127) (q := 108) dX6_init_105 rfl (by decide) (fun bc2 => ?_) (fun bc2 => ?_)
      · skip
        omega
      · skip
        refine aw_aload_n (q := 109) dX6_init_108 rfl rfl rfl ?_
        refine aw_get (q := 112) dX6_init_109 rfl fl_X6_11 hI1.1 rfl (fun _ => ?_)
        refine aw_iload_n (q := 113) dX6_init_112 rfl rfl rfl ?_
        refine aw_new (q := 116) dX6_init_113 rfl nw_X6_9 (show 38 + 1 < 1000000 by omega) (show 37 + 1 ≤ 81 by omega) (show 2032 + 3 ≤ 2936 by omega) ?_
        refine aw_dup (q := 117) dX6_init_116 rfl rfl ?_
        refine aw_callIN [] (q := 120) dX6_init_117 rfl ck_X2_init lk_X6_63 im_X2_init rfl rfl ⟨Nat.le_of_ble_eq_true rfl, Nat.le_of_ble_eq_true rfl⟩ rfl rfl (Nat.le_of_ble_eq_true rfl) (by decide) (m_X2_init (q := 38) (by omega) hu_s) (fun _ _ _ h => (Vd_x h).elim) ?_
        rintro v n9 μd1 - ⟨hv9, hn9, hPd1, hFd1⟩
        obtain rfl := hn9
        obtain rfl := Sum.inl.inj hv9
        refine aw_aastore (j := 1) (q := 121) dX6_init_120 rfl ((hFd1 _ (by omega)).trans ((hu_n (by omega)).trans hI1.2.1)) hPd1.1 rfl (by omega) (Or.inl ⟨rfl, rfl⟩) ?_
        have hI2 : I6 _ 2 0 := I6_d (i := 1) hI1 (by omega) hFd1 hPd1
        refine aw_iinc (q := 124) dX6_init_121 rfl rfl (by decide) (by omega) ?_
        refine aw_goto (q := 103) dX6_init_124 (by decide) ?_
        refine aw_iload_n (q := 104) dX6_init_103 rfl rfl rfl ?_
        refine aw_iconst (q := 105) dX6_init_104 rfl (by omega) ?_
        refine aw_ic_ge (t := 127) (q := 108) dX6_init_105 rfl (by decide) (fun bc3 => ?_) (fun bc3 => ?_)
        · skip
          omega
        · skip
          refine aw_aload_n (q := 109) dX6_init_108 rfl rfl rfl ?_
          refine aw_get (q := 112) dX6_init_109 rfl fl_X6_11 hI2.1 rfl (fun _ => ?_)
          refine aw_iload_n (q := 113) dX6_init_112 rfl rfl rfl ?_
          refine aw_new (q := 116) dX6_init_113 rfl nw_X6_9 (show 46 + 1 < 1000000 by omega) (show 45 + 1 ≤ 81 by omega) (show 2239 + 3 ≤ 2936 by omega) ?_
          refine aw_dup (q := 117) dX6_init_116 rfl rfl ?_
          refine aw_callIN [] (q := 120) dX6_init_117 rfl ck_X2_init lk_X6_63 im_X2_init rfl rfl ⟨Nat.le_of_ble_eq_true rfl, Nat.le_of_ble_eq_true rfl⟩ rfl rfl (Nat.le_of_ble_eq_true rfl) (by decide) (m_X2_init (q := 46) (by omega) hu_s) (fun _ _ _ h => (Vd_x h).elim) ?_
          rintro v n9 μd2 - ⟨hv9, hn9, hPd2, hFd2⟩
          obtain rfl := hn9
          obtain rfl := Sum.inl.inj hv9
          refine aw_aastore (j := 2) (q := 121) dX6_init_120 rfl ((hFd2 _ (by omega)).trans ((hu_n (by omega)).trans hI2.2.1)) hPd2.1 rfl (by omega) (Or.inl ⟨rfl, rfl⟩) ?_
          have hI3 : I6 _ 3 0 := I6_d (i := 2) hI2 (by omega) hFd2 hPd2
          refine aw_iinc (q := 124) dX6_init_121 rfl rfl (by decide) (by omega) ?_
          refine aw_ls (ls := [some (vR 0), some (vI (3))]) ⟨rfl, ⟨rfl, trivial⟩⟩ ?_
          refine aw_goto (q := 103) dX6_init_124 (by decide) ?_
          refine aw_iload_n (q := 104) dX6_init_103 rfl rfl rfl ?_
          refine aw_iconst (q := 105) dX6_init_104 rfl (by omega) ?_
          refine aw_ic_ge (t := 127) (q := 108) dX6_init_105 rfl (by decide) (fun bc4 => ?_) (fun bc4 => ?_)
          · skip
            omega
          · skip
            refine aw_aload_n (q := 109) dX6_init_108 rfl rfl rfl ?_
            refine aw_get (q := 112) dX6_init_109 rfl fl_X6_11 hI3.1 rfl (fun _ => ?_)
            refine aw_iload_n (q := 113) dX6_init_112 rfl rfl rfl ?_
            refine aw_new (q := 116) dX6_init_113 rfl nw_X6_9 (show 54 + 1 < 1000000 by omega) (show 53 + 1 ≤ 81 by omega) (show 2446 + 3 ≤ 2936 by omega) ?_
            refine aw_dup (q := 117) dX6_init_116 rfl rfl ?_
            refine aw_callIN [] (q := 120) dX6_init_117 rfl ck_X2_init lk_X6_63 im_X2_init rfl rfl ⟨Nat.le_of_ble_eq_true rfl, Nat.le_of_ble_eq_true rfl⟩ rfl rfl (Nat.le_of_ble_eq_true rfl) (by decide) (m_X2_init (q := 54) (by omega) hu_s) (fun _ _ _ h => (Vd_x h).elim) ?_
            rintro v n9 μd3 - ⟨hv9, hn9, hPd3, hFd3⟩
            obtain rfl := hn9
            obtain rfl := Sum.inl.inj hv9
            refine aw_aastore (j := 3) (q := 121) dX6_init_120 rfl ((hFd3 _ (by omega)).trans ((hu_n (by omega)).trans hI3.2.1)) hPd3.1 rfl (by omega) (Or.inl ⟨rfl, rfl⟩) ?_
            have hI4 : I6 _ 4 0 := I6_d (i := 3) hI3 (by omega) hFd3 hPd3
            refine aw_iinc (q := 124) dX6_init_121 rfl rfl (by decide) (by omega) ?_
            refine aw_goto (q := 103) dX6_init_124 (by decide) ?_
            refine aw_iload_n (q := 104) dX6_init_103 rfl rfl rfl ?_
            refine aw_iconst (q := 105) dX6_init_104 rfl (by omega) ?_
            refine aw_ic_ge (t := 127) (q := 108) dX6_init_105 rfl (by decide) (fun bc5 => ?_) (fun bc5 => ?_)
            · skip
              omega
            · skip
              refine aw_aload_n (q := 109) dX6_init_108 rfl rfl rfl ?_
              refine aw_get (q := 112) dX6_init_109 rfl fl_X6_11 hI4.1 rfl (fun _ => ?_)
              refine aw_iload_n (q := 113) dX6_init_112 rfl rfl rfl ?_
              refine aw_new (q := 116) dX6_init_113 rfl nw_X6_9 (show 62 + 1 < 1000000 by omega) (show 61 + 1 ≤ 81 by omega) (show 2653 + 3 ≤ 2936 by omega) ?_
              refine aw_dup (q := 117) dX6_init_116 rfl rfl ?_
              refine aw_callIN [] (q := 120) dX6_init_117 rfl ck_X2_init lk_X6_63 im_X2_init rfl rfl ⟨Nat.le_of_ble_eq_true rfl, Nat.le_of_ble_eq_true rfl⟩ rfl rfl (Nat.le_of_ble_eq_true rfl) (by decide) (m_X2_init (q := 62) (by omega) hu_s) (fun _ _ _ h => (Vd_x h).elim) ?_
              rintro v n9 μd4 - ⟨hv9, hn9, hPd4, hFd4⟩
              obtain rfl := hn9
              obtain rfl := Sum.inl.inj hv9
              refine aw_aastore (j := 4) (q := 121) dX6_init_120 rfl ((hFd4 _ (by omega)).trans ((hu_n (by omega)).trans hI4.2.1)) hPd4.1 rfl (by omega) (Or.inl ⟨rfl, rfl⟩) ?_
              have hI5 : I6 _ 5 0 := I6_d (i := 4) hI4 (by omega) hFd4 hPd4
              refine aw_iinc (q := 124) dX6_init_121 rfl rfl (by decide) (by omega) ?_
              refine aw_ls (ls := [some (vR 0), some (vI (5))]) ⟨rfl, ⟨rfl, trivial⟩⟩ ?_
              refine aw_goto (q := 103) dX6_init_124 (by decide) ?_
              refine aw_iload_n (q := 104) dX6_init_103 rfl rfl rfl ?_
              refine aw_iconst (q := 105) dX6_init_104 rfl (by omega) ?_
              refine aw_ic_ge (t := 127) (q := 108) dX6_init_105 rfl (by decide) (fun bc6 => ?_) (fun bc6 => ?_)
              · skip
                refine aw_iconst (q := 128) dX6_init_127 rfl (by omega) ?_
                refine aw_istore_n (q := 129) dX6_init_128 rfl rfl (by decide) ?_
                refine aw_iload_n (q := 130) dX6_init_129 rfl rfl rfl ?_
                refine aw_iconst (q := 131) dX6_init_130 rfl (by omega) ?_
                refine aw_ic_ge (t := 153) (q := 134) dX6_init_131 rfl (by decide) (fun bc7 => ?_) (fun bc7 => ?_)
                · skip
                  omega
                · skip
                  refine aw_aload_n (q := 135) dX6_init_134 rfl rfl rfl ?_
                  refine aw_get (q := 138) dX6_init_135 rfl fl_X6_17 hI5.1 rfl (fun _ => ?_)
                  refine aw_iload_n (q := 139) dX6_init_138 rfl rfl rfl ?_
                  refine aw_new (q := 142) dX6_init_139 rfl nw_X6_15 (show 70 + 1 < 1000000 by omega) (show 69 + 1 ≤ 81 by omega) (show 2860 + 3 ≤ 2936 by omega) ?_
                  refine aw_dup (q := 143) dX6_init_142 rfl rfl ?_
                  refine aw_callIN [] (q := 146) dX6_init_143 rfl ck_X3_init lk_X6_64 im_X3_init rfl rfl ⟨Nat.le_of_ble_eq_true rfl, Nat.le_of_ble_eq_true rfl⟩ rfl rfl (Nat.le_of_ble_eq_true rfl) (by decide) (m_X3_init (q := 70) (by omega) hu_s) (fun _ _ _ h => (Vd_x h).elim) ?_
                  rintro v n9 μf0 - ⟨hv9, hn9, hPf0, hFf0⟩
                  obtain rfl := hn9
                  obtain rfl := Sum.inl.inj hv9
                  refine aw_aastore (j := 0) (q := 147) dX6_init_146 rfl ((hFf0 _ (by omega)).trans ((hu_n (by omega)).trans hI5.2.2.1)) hPf0.1 rfl (by omega) (Or.inr ⟨rfl, rfl⟩) ?_
                  have hJ1 : I6 _ 5 1 := I6_f (i := 0) hI5 (by omega) hFf0 hPf0
                  refine aw_iinc (q := 150) dX6_init_147 rfl rfl (by decide) (by omega) ?_
                  refine aw_ls (ls := [some (vR 0), some (vI (1))]) ⟨rfl, ⟨rfl, trivial⟩⟩ ?_
                  refine aw_goto (q := 129) dX6_init_150 (by decide) ?_
                  refine aw_iload_n (q := 130) dX6_init_129 rfl rfl rfl ?_
                  refine aw_iconst (q := 131) dX6_init_130 rfl (by omega) ?_
                  refine aw_ic_ge (t := 153) (q := 134) dX6_init_131 rfl (by decide) (fun bc8 => ?_) (fun bc8 => ?_)
                  · skip
                    omega
                  · skip
                    refine aw_aload_n (q := 135) dX6_init_134 rfl rfl rfl ?_
                    refine aw_get (q := 138) dX6_init_135 rfl fl_X6_17 hJ1.1 rfl (fun _ => ?_)
                    refine aw_iload_n (q := 139) dX6_init_138 rfl rfl rfl ?_
                    refine aw_new (q := 142) dX6_init_139 rfl nw_X6_15 (show 73 + 1 < 1000000 by omega) (show 72 + 1 ≤ 81 by omega) (show 2879 + 3 ≤ 2936 by omega) ?_
                    refine aw_dup (q := 143) dX6_init_142 rfl rfl ?_
                    refine aw_callIN [] (q := 146) dX6_init_143 rfl ck_X3_init lk_X6_64 im_X3_init rfl rfl ⟨Nat.le_of_ble_eq_true rfl, Nat.le_of_ble_eq_true rfl⟩ rfl rfl (Nat.le_of_ble_eq_true rfl) (by decide) (m_X3_init (q := 73) (by omega) hu_s) (fun _ _ _ h => (Vd_x h).elim) ?_
                    rintro v n9 μf1 - ⟨hv9, hn9, hPf1, hFf1⟩
                    obtain rfl := hn9
                    obtain rfl := Sum.inl.inj hv9
                    refine aw_aastore (j := 1) (q := 147) dX6_init_146 rfl ((hFf1 _ (by omega)).trans ((hu_n (by omega)).trans hJ1.2.2.1)) hPf1.1 rfl (by omega) (Or.inr ⟨rfl, rfl⟩) ?_
                    have hJ2 : I6 _ 5 2 := I6_f (i := 1) hJ1 (by omega) hFf1 hPf1
                    refine aw_iinc (q := 150) dX6_init_147 rfl rfl (by decide) (by omega) ?_
                    refine aw_goto (q := 129) dX6_init_150 (by decide) ?_
                    refine aw_iload_n (q := 130) dX6_init_129 rfl rfl rfl ?_
                    refine aw_iconst (q := 131) dX6_init_130 rfl (by omega) ?_
                    refine aw_ic_ge (t := 153) (q := 134) dX6_init_131 rfl (by decide) (fun bc9 => ?_) (fun bc9 => ?_)
                    · skip
                      omega
                    · skip
                      refine aw_aload_n (q := 135) dX6_init_134 rfl rfl rfl ?_
                      refine aw_get (q := 138) dX6_init_135 rfl fl_X6_17 hJ2.1 rfl (fun _ => ?_)
                      refine aw_iload_n (q := 139) dX6_init_138 rfl rfl rfl ?_
                      refine aw_new (q := 142) dX6_init_139 rfl nw_X6_15 (show 76 + 1 < 1000000 by omega) (show 75 + 1 ≤ 81 by omega) (show 2898 + 3 ≤ 2936 by omega) ?_
                      refine aw_dup (q := 143) dX6_init_142 rfl rfl ?_
                      refine aw_callIN [] (q := 146) dX6_init_143 rfl ck_X3_init lk_X6_64 im_X3_init rfl rfl ⟨Nat.le_of_ble_eq_true rfl, Nat.le_of_ble_eq_true rfl⟩ rfl rfl (Nat.le_of_ble_eq_true rfl) (by decide) (m_X3_init (q := 76) (by omega) hu_s) (fun _ _ _ h => (Vd_x h).elim) ?_
                      rintro v n9 μf2 - ⟨hv9, hn9, hPf2, hFf2⟩
                      obtain rfl := hn9
                      obtain rfl := Sum.inl.inj hv9
                      refine aw_aastore (j := 2) (q := 147) dX6_init_146 rfl ((hFf2 _ (by omega)).trans ((hu_n (by omega)).trans hJ2.2.2.1)) hPf2.1 rfl (by omega) (Or.inr ⟨rfl, rfl⟩) ?_
                      have hJ3 : I6 _ 5 3 := I6_f (i := 2) hJ2 (by omega) hFf2 hPf2
                      refine aw_iinc (q := 150) dX6_init_147 rfl rfl (by decide) (by omega) ?_
                      refine aw_ls (ls := [some (vR 0), some (vI (3))]) ⟨rfl, ⟨rfl, trivial⟩⟩ ?_
                      refine aw_goto (q := 129) dX6_init_150 (by decide) ?_
                      refine aw_iload_n (q := 130) dX6_init_129 rfl rfl rfl ?_
                      refine aw_iconst (q := 131) dX6_init_130 rfl (by omega) ?_
                      refine aw_ic_ge (t := 153) (q := 134) dX6_init_131 rfl (by decide) (fun bc10 => ?_) (fun bc10 => ?_)
                      · skip
                        omega
                      · skip
                        refine aw_aload_n (q := 135) dX6_init_134 rfl rfl rfl ?_
                        refine aw_get (q := 138) dX6_init_135 rfl fl_X6_17 hJ3.1 rfl (fun _ => ?_)
                        refine aw_iload_n (q := 139) dX6_init_138 rfl rfl rfl ?_
                        refine aw_new (q := 142) dX6_init_139 rfl nw_X6_15 (show 79 + 1 < 1000000 by omega) (show 78 + 1 ≤ 81 by omega) (show 2917 + 3 ≤ 2936 by omega) ?_
                        refine aw_dup (q := 143) dX6_init_142 rfl rfl ?_
                        refine aw_callIN [] (q := 146) dX6_init_143 rfl ck_X3_init lk_X6_64 im_X3_init rfl rfl ⟨Nat.le_of_ble_eq_true rfl, Nat.le_of_ble_eq_true rfl⟩ rfl rfl (Nat.le_of_ble_eq_true rfl) (by decide) (m_X3_init (q := 79) (by omega) hu_s) (fun _ _ _ h => (Vd_x h).elim) ?_
                        rintro v n9 μf3 - ⟨hv9, hn9, hPf3, hFf3⟩
                        obtain rfl := hn9
                        obtain rfl := Sum.inl.inj hv9
                        refine aw_aastore (j := 3) (q := 147) dX6_init_146 rfl ((hFf3 _ (by omega)).trans ((hu_n (by omega)).trans hJ3.2.2.1)) hPf3.1 rfl (by omega) (Or.inr ⟨rfl, rfl⟩) ?_
                        have hJ4 : I6 _ 5 4 := I6_f (i := 3) hJ3 (by omega) hFf3 hPf3
                        refine aw_iinc (q := 150) dX6_init_147 rfl rfl (by decide) (by omega) ?_
                        refine aw_goto (q := 129) dX6_init_150 (by decide) ?_
                        refine aw_iload_n (q := 130) dX6_init_129 rfl rfl rfl ?_
                        refine aw_iconst (q := 131) dX6_init_130 rfl (by omega) ?_
                        refine aw_ic_ge (t := 153) (q := 134) dX6_init_131 rfl (by decide) (fun bc11 => ?_) (fun bc11 => ?_)
                        · skip
                          exact aw_vret dX6_init_153 rfl (by decide) (by decide) ⟨rfl, rfl, I6_e hJ4, (FrR_hu (FrR_tr (FrR_hu (FrR_hu (FrR_tr (FrR_hu (FrR_hu (FrR_tr (FrR_hu (FrR_hu (FrR_tr (FrR_hu (FrR_hu (FrR_tr (FrR_hu (FrR_hu (FrR_tr (FrR_hu (FrR_hu (FrR_tr (FrR_hu (FrR_hu (FrR_tr (FrR_hu (FrR_hu (FrR_tr (FrR_hu (FrR_hu (FrR_hu (FrR_hu (FrR_hu (FrR_hu (FrR_tr (FrR_hu (FrR_hu (FrR_tr (FrR_hu (FrR_hu (FrR_tr (FrR_hu (FrR_hu (FrR_tr (FrR_hu (FrR_hu (FrR_tr (FrR_hu (FrR_hu (FrR_hu (FrR_hu (FrR_hu (FrR_rf : FrR 0 82 μ μ) (by omega)) (by omega)) (by omega)) (by omega)) (by omega)) (FrR_w hF1 (by omega) (by omega))) (by omega)) (by omega)) (FrR_w hF2 (by omega) (by omega))) (by omega)) (by omega)) (FrR_w hF3 (by omega) (by omega))) (by omega)) (by omega)) (FrR_w hF4 (by omega) (by omega))) (by omega)) (by omega)) (FrR_w hF5 (by omega) (by omega))) (by omega)) (by omega)) (by omega)) (by omega)) (by omega)) (by omega)) (FrR_w hFd0 (by omega) (by omega))) (by omega)) (by omega)) (FrR_w hFd1 (by omega) (by omega))) (by omega)) (by omega)) (FrR_w hFd2 (by omega) (by omega))) (by omega)) (by omega)) (FrR_w hFd3 (by omega) (by omega))) (by omega)) (by omega)) (FrR_w hFd4 (by omega) (by omega))) (by omega)) (by omega)) (FrR_w hFf0 (by omega) (by omega))) (by omega)) (by omega)) (FrR_w hFf1 (by omega) (by omega))) (by omega)) (by omega)) (FrR_w hFf2 (by omega) (by omega))) (by omega)) (by omega)) (FrR_w hFf3 (by omega) (by omega))) (by omega))⟩
                        · skip
                          omega
              · skip
                omega
set_option maxHeartbeats 4000000 in
set_option maxRecDepth 100000 in
theorem m_X7_init {μ : AH} (h : μ 82 = oO 7 [vI 0, vI 0, vN, vN, vN, vN, vN, vN, vN, vN, vI 0, vI 0, vI 0, vN, vN, vN, vI 0, vN, vI 0, vN, vI 0, vN, vI 0, vN, vN, vN, vN, vL 0, vI 0]) : AMet YX7_init [vR 82] (83) μ (Vd (fun n' μ' => n' = 101 ∧ MM μ' 0 0 (fun _ => dv0) 0 (fun _ => fe0) sv0 (0, zf) (0, zf) 10 600 ∧ FrR 82 101 μ μ')) := by
  refine AMet.of (by decide) rfl (Nat.le_of_ble_eq_true rfl) ?_
  refine aw_aload_n (q := 1) dX7_init_0 rfl rfl rfl ?_
  refine aw_obj (q := 4) dX7_init_1 rfl lk_X7_1 ob_i ob_c (by decide) (Nat.le_of_ble_eq_true rfl) ?_
  refine aw_aload_n (q := 5) dX7_init_4 rfl rfl rfl ?_
  refine aw_iconst (q := 6) dX7_init_5 rfl (by omega) ?_
  refine aw_newI 5 (q := 8) dX7_init_6 rfl rfl (by omega) ac_int (show 83 + 1 < 1000000 by omega) (show 0 + 1 ≤ 20 by omega) (show 0 + 5 ≤ 2483 by omega) ?_
  refine aw_putF (q := 11) dX7_init_8 rfl rfl ff_X7_7 ((hu_n (by omega)).trans h) (Nat.le_of_ble_eq_true rfl) trivial ?_
  refine aw_aload_n (q := 12) dX7_init_11 rfl rfl rfl ?_
  refine aw_iconst (q := 13) dX7_init_12 rfl (by omega) ?_
  refine aw_newI 5 (q := 15) dX7_init_13 rfl rfl (by omega) ac_int (show 84 + 1 < 1000000 by omega) (show 1 + 1 ≤ 20 by omega) (show 5 + 5 ≤ 2483 by omega) ?_
  refine aw_putF (q := 18) dX7_init_15 rfl rfl ff_X7_13 ((hu_n (by omega)).trans hu_s) (Nat.le_of_ble_eq_true rfl) trivial ?_
  refine aw_aload_n (q := 19) dX7_init_18 rfl rfl rfl ?_
  refine aw_sipush (q := 22) dX7_init_19 rfl (by decide) (by omega) ?_
  refine aw_newI 300 (q := 24) dX7_init_22 rfl rfl (by omega) ac_int (show 85 + 1 < 1000000 by omega) (show 2 + 1 ≤ 20 by omega) (show 10 + 300 ≤ 2483 by omega) ?_
  refine aw_putF (q := 27) dX7_init_24 rfl rfl ff_X7_16 ((hu_n (by omega)).trans hu_s) (Nat.le_of_ble_eq_true rfl) trivial ?_
  refine aw_aload_n (q := 28) dX7_init_27 rfl rfl rfl ?_
  refine aw_sipush (q := 31) dX7_init_28 rfl (by decide) (by omega) ?_
  refine aw_newI 300 (q := 33) dX7_init_31 rfl rfl (by omega) ac_int (show 86 + 1 < 1000000 by omega) (show 3 + 1 ≤ 20 by omega) (show 310 + 300 ≤ 2483 by omega) ?_
  refine aw_putF (q := 36) dX7_init_33 rfl rfl ff_X7_19 ((hu_n (by omega)).trans hu_s) (Nat.le_of_ble_eq_true rfl) trivial ?_
  refine aw_aload_n (q := 37) dX7_init_36 rfl rfl rfl ?_
  refine aw_sipush (q := 40) dX7_init_37 rfl (by decide) (by omega) ?_
  refine aw_newI 300 (q := 42) dX7_init_40 rfl rfl (by omega) ac_int (show 87 + 1 < 1000000 by omega) (show 4 + 1 ≤ 20 by omega) (show 610 + 300 ≤ 2483 by omega) ?_
  refine aw_putF (q := 45) dX7_init_42 rfl rfl ff_X7_22 ((hu_n (by omega)).trans hu_s) (Nat.le_of_ble_eq_true rfl) trivial ?_
  refine aw_aload_n (q := 46) dX7_init_45 rfl rfl rfl ?_
  refine aw_iconst (q := 47) dX7_init_46 rfl (by omega) ?_
  refine aw_newI 5 (q := 49) dX7_init_47 rfl rfl (by omega) ac_int (show 88 + 1 < 1000000 by omega) (show 5 + 1 ≤ 20 by omega) (show 910 + 5 ≤ 2483 by omega) ?_
  refine aw_putF (q := 52) dX7_init_49 rfl rfl ff_X7_25 ((hu_n (by omega)).trans hu_s) (Nat.le_of_ble_eq_true rfl) trivial ?_
  refine aw_aload_n (q := 53) dX7_init_52 rfl rfl rfl ?_
  refine aw_bipush (q := 55) dX7_init_53 rfl (by decide) (by omega) ?_
  refine aw_newI 40 (q := 57) dX7_init_55 rfl rfl (by omega) ac_int (show 89 + 1 < 1000000 by omega) (show 6 + 1 ≤ 20 by omega) (show 915 + 40 ≤ 2483 by omega) ?_
  refine aw_putF (q := 60) dX7_init_57 rfl rfl ff_X7_28 ((hu_n (by omega)).trans hu_s) (Nat.le_of_ble_eq_true rfl) trivial ?_
  refine aw_aload_n (q := 61) dX7_init_60 rfl rfl rfl ?_
  refine aw_bipush (q := 63) dX7_init_61 rfl (by decide) (by omega) ?_
  refine aw_newI 40 (q := 65) dX7_init_63 rfl rfl (by omega) ac_int (show 90 + 1 < 1000000 by omega) (show 7 + 1 ≤ 20 by omega) (show 955 + 40 ≤ 2483 by omega) ?_
  refine aw_putF (q := 68) dX7_init_65 rfl rfl ff_X7_31 ((hu_n (by omega)).trans hu_s) (Nat.le_of_ble_eq_true rfl) trivial ?_
  refine aw_aload_n (q := 69) dX7_init_68 rfl rfl rfl ?_
  refine aw_bipush (q := 71) dX7_init_69 rfl (by decide) (by omega) ?_
  refine aw_put (q := 74) dX7_init_71 rfl fp_X7_34 hu_s (Nat.le_of_ble_eq_true rfl) trivial ?_
  refine aw_aload_n (q := 75) dX7_init_74 rfl rfl rfl ?_
  refine aw_sipush (q := 78) dX7_init_75 rfl (by decide) (by omega) ?_
  refine aw_put (q := 81) dX7_init_78 rfl fp_X7_38 hu_s (Nat.le_of_ble_eq_true rfl) trivial ?_
  refine aw_aload_n (q := 82) dX7_init_81 rfl rfl rfl ?_
  refine aw_iconst (q := 83) dX7_init_82 rfl (by omega) ?_
  refine aw_newI 4 (q := 85) dX7_init_83 rfl rfl (by omega) ac_int (show 91 + 1 < 1000000 by omega) (show 8 + 1 ≤ 20 by omega) (show 995 + 4 ≤ 2483 by omega) ?_
  refine aw_putF (q := 88) dX7_init_85 rfl rfl ff_X7_41 ((hu_n (by omega)).trans hu_s) (Nat.le_of_ble_eq_true rfl) trivial ?_
  refine aw_aload_n (q := 89) dX7_init_88 rfl rfl rfl ?_
  refine aw_bipush (q := 91) dX7_init_89 rfl (by decide) (by omega) ?_
  refine aw_newI 32 (q := 93) dX7_init_91 rfl rfl (by omega) ac_int (show 92 + 1 < 1000000 by omega) (show 9 + 1 ≤ 20 by omega) (show 999 + 32 ≤ 2483 by omega) ?_
  refine aw_putF (q := 96) dX7_init_93 rfl rfl ff_X7_44 ((hu_n (by omega)).trans hu_s) (Nat.le_of_ble_eq_true rfl) trivial ?_
  refine aw_aload_n (q := 97) dX7_init_96 rfl rfl rfl ?_
  refine aw_bipush (q := 99) dX7_init_97 rfl (by decide) (by omega) ?_
  refine aw_newI 32 (q := 101) dX7_init_99 rfl rfl (by omega) ac_int (show 93 + 1 < 1000000 by omega) (show 10 + 1 ≤ 20 by omega) (show 1031 + 32 ≤ 2483 by omega) ?_
  refine aw_putF (q := 104) dX7_init_101 rfl rfl ff_X7_47 ((hu_n (by omega)).trans hu_s) (Nat.le_of_ble_eq_true rfl) trivial ?_
  refine aw_aload_n (q := 105) dX7_init_104 rfl rfl rfl ?_
  refine aw_sipush (q := 108) dX7_init_105 rfl (by decide) (by omega) ?_
  refine aw_newI 600 (q := 110) dX7_init_108 rfl rfl (by omega) ac_int (show 94 + 1 < 1000000 by omega) (show 11 + 1 ≤ 20 by omega) (show 1063 + 600 ≤ 2483 by omega) ?_
  refine aw_putF (q := 113) dX7_init_110 rfl rfl ff_X7_50 ((hu_n (by omega)).trans hu_s) (Nat.le_of_ble_eq_true rfl) trivial ?_
  refine aw_aload_n (q := 114) dX7_init_113 rfl rfl rfl ?_
  refine aw_sipush (q := 117) dX7_init_114 rfl (by decide) (by omega) ?_
  refine aw_newI 600 (q := 119) dX7_init_117 rfl rfl (by omega) ac_int (show 95 + 1 < 1000000 by omega) (show 12 + 1 ≤ 20 by omega) (show 1663 + 600 ≤ 2483 by omega) ?_
  refine aw_putF (q := 122) dX7_init_119 rfl rfl ff_X7_53 ((hu_n (by omega)).trans hu_s) (Nat.le_of_ble_eq_true rfl) trivial ?_
  refine aw_aload_n (q := 123) dX7_init_122 rfl rfl rfl ?_
  refine aw_sipush (q := 126) dX7_init_123 rfl (by decide) (by omega) ?_
  refine aw_newI 180 (q := 128) dX7_init_126 rfl rfl (by omega) ac_int (show 96 + 1 < 1000000 by omega) (show 13 + 1 ≤ 20 by omega) (show 2263 + 180 ≤ 2483 by omega) ?_
  refine aw_putF (q := 131) dX7_init_128 rfl rfl ff_X7_56 ((hu_n (by omega)).trans hu_s) (Nat.le_of_ble_eq_true rfl) trivial ?_
  refine aw_aload_n (q := 132) dX7_init_131 rfl rfl rfl ?_
  refine aw_iconst (q := 133) dX7_init_132 rfl (by omega) ?_
  refine aw_newI 5 (q := 135) dX7_init_133 rfl rfl (by omega) ac_int (show 97 + 1 < 1000000 by omega) (show 14 + 1 ≤ 20 by omega) (show 2443 + 5 ≤ 2483 by omega) ?_
  refine aw_putF (q := 138) dX7_init_135 rfl rfl ff_X7_59 ((hu_n (by omega)).trans hu_s) (Nat.le_of_ble_eq_true rfl) trivial ?_
  refine aw_aload_n (q := 139) dX7_init_138 rfl rfl rfl ?_
  refine aw_iconst (q := 140) dX7_init_139 rfl (by omega) ?_
  refine aw_newI 5 (q := 142) dX7_init_140 rfl rfl (by omega) ac_int (show 98 + 1 < 1000000 by omega) (show 15 + 1 ≤ 20 by omega) (show 2448 + 5 ≤ 2483 by omega) ?_
  refine aw_putF (q := 145) dX7_init_142 rfl rfl ff_X7_62 ((hu_n (by omega)).trans hu_s) (Nat.le_of_ble_eq_true rfl) trivial ?_
  refine aw_aload_n (q := 146) dX7_init_145 rfl rfl rfl ?_
  refine aw_iconst (q := 147) dX7_init_146 rfl (by omega) ?_
  refine aw_newI 5 (q := 149) dX7_init_147 rfl rfl (by omega) ac_int (show 99 + 1 < 1000000 by omega) (show 16 + 1 ≤ 20 by omega) (show 2453 + 5 ≤ 2483 by omega) ?_
  refine aw_putF (q := 152) dX7_init_149 rfl rfl ff_X7_65 ((hu_n (by omega)).trans hu_s) (Nat.le_of_ble_eq_true rfl) trivial ?_
  refine aw_aload_n (q := 153) dX7_init_152 rfl rfl rfl ?_
  refine aw_bipush (q := 155) dX7_init_153 rfl (by decide) (by omega) ?_
  refine aw_newL 25 (q := 157) dX7_init_155 rfl rfl (by omega) ac_long (show 100 + 1 < 1000000 by omega) (show 17 + 1 ≤ 20 by omega) (show 2458 + 25 ≤ 2483 by omega) ?_
  refine aw_putF (q := 160) dX7_init_157 rfl rfl ff_X7_68 ((hu_n (by omega)).trans hu_s) (Nat.le_of_ble_eq_true rfl) trivial ?_
  exact aw_vret dX7_init_160 rfl (by decide) (by decide) ⟨rfl, rfl, ⟨0, 0, 0, zf, zf, zf, zf, zf, zf, zf, zf, zf, zf, zf, zf, zf, zf, zf, zf, zf, zf, hu_s, ((hu_n (by omega)).trans ((hu_n (by omega)).trans ((hu_n (by omega)).trans ((hu_n (by omega)).trans ((hu_n (by omega)).trans ((hu_n (by omega)).trans ((hu_n (by omega)).trans ((hu_n (by omega)).trans ((hu_n (by omega)).trans ((hu_n (by omega)).trans ((hu_n (by omega)).trans ((hu_n (by omega)).trans ((hu_n (by omega)).trans ((hu_n (by omega)).trans ((hu_n (by omega)).trans ((hu_n (by omega)).trans ((hu_n (by omega)).trans ((hu_n (by omega)).trans ((hu_n (by omega)).trans ((hu_n (by omega)).trans ((hu_n (by omega)).trans ((hu_n (by omega)).trans ((hu_n (by omega)).trans ((hu_n (by omega)).trans ((hu_n (by omega)).trans ((hu_n (by omega)).trans ((hu_n (by omega)).trans ((hu_n (by omega)).trans ((hu_n (by omega)).trans ((hu_n (by omega)).trans ((hu_n (by omega)).trans ((hu_n (by omega)).trans ((hu_n (by omega)).trans ((hu_n (by omega)).trans ((hu_n (by omega)).trans ((hu_n (by omega)).trans ((hu_n (by omega)).trans hu_s))))))))))))))))))))))))))))))))))))), ((hu_n (by omega)).trans ((hu_n (by omega)).trans ((hu_n (by omega)).trans ((hu_n (by omega)).trans ((hu_n (by omega)).trans ((hu_n (by omega)).trans ((hu_n (by omega)).trans ((hu_n (by omega)).trans ((hu_n (by omega)).trans ((hu_n (by omega)).trans ((hu_n (by omega)).trans ((hu_n (by omega)).trans ((hu_n (by omega)).trans ((hu_n (by omega)).trans ((hu_n (by omega)).trans ((hu_n (by omega)).trans ((hu_n (by omega)).trans ((hu_n (by omega)).trans ((hu_n (by omega)).trans ((hu_n (by omega)).trans ((hu_n (by omega)).trans ((hu_n (by omega)).trans ((hu_n (by omega)).trans ((hu_n (by omega)).trans ((hu_n (by omega)).trans ((hu_n (by omega)).trans ((hu_n (by omega)).trans ((hu_n (by omega)).trans ((hu_n (by omega)).trans ((hu_n (by omega)).trans ((hu_n (by omega)).trans ((hu_n (by omega)).trans ((hu_n (by omega)).trans ((hu_n (by omega)).trans ((hu_n (by omega)).trans hu_s))))))))))))))))))))))))))))))))))), ((hu_n (by omega)).trans ((hu_n (by omega)).trans ((hu_n (by omega)).trans ((hu_n (by omega)).trans ((hu_n (by omega)).trans ((hu_n (by omega)).trans ((hu_n (by omega)).trans ((hu_n (by omega)).trans ((hu_n (by omega)).trans ((hu_n (by omega)).trans ((hu_n (by omega)).trans ((hu_n (by omega)).trans ((hu_n (by omega)).trans ((hu_n (by omega)).trans ((hu_n (by omega)).trans ((hu_n (by omega)).trans ((hu_n (by omega)).trans ((hu_n (by omega)).trans ((hu_n (by omega)).trans ((hu_n (by omega)).trans ((hu_n (by omega)).trans ((hu_n (by omega)).trans ((hu_n (by omega)).trans ((hu_n (by omega)).trans ((hu_n (by omega)).trans ((hu_n (by omega)).trans ((hu_n (by omega)).trans ((hu_n (by omega)).trans ((hu_n (by omega)).trans ((hu_n (by omega)).trans ((hu_n (by omega)).trans ((hu_n (by omega)).trans ((hu_n (by omega)).trans hu_s))))))))))))))))))))))))))))))))), ((hu_n (by omega)).trans ((hu_n (by omega)).trans ((hu_n (by omega)).trans ((hu_n (by omega)).trans ((hu_n (by omega)).trans ((hu_n (by omega)).trans ((hu_n (by omega)).trans ((hu_n (by omega)).trans ((hu_n (by omega)).trans ((hu_n (by omega)).trans ((hu_n (by omega)).trans ((hu_n (by omega)).trans ((hu_n (by omega)).trans ((hu_n (by omega)).trans ((hu_n (by omega)).trans ((hu_n (by omega)).trans ((hu_n (by omega)).trans ((hu_n (by omega)).trans ((hu_n (by omega)).trans ((hu_n (by omega)).trans ((hu_n (by omega)).trans ((hu_n (by omega)).trans ((hu_n (by omega)).trans ((hu_n (by omega)).trans ((hu_n (by omega)).trans ((hu_n (by omega)).trans ((hu_n (by omega)).trans ((hu_n (by omega)).trans ((hu_n (by omega)).trans ((hu_n (by omega)).trans ((hu_n (by omega)).trans hu_s))))))))))))))))))))))))))))))), ((hu_n (by omega)).trans ((hu_n (by omega)).trans ((hu_n (by omega)).trans ((hu_n (by omega)).trans ((hu_n (by omega)).trans ((hu_n (by omega)).trans ((hu_n (by omega)).trans ((hu_n (by omega)).trans ((hu_n (by omega)).trans ((hu_n (by omega)).trans ((hu_n (by omega)).trans ((hu_n (by omega)).trans ((hu_n (by omega)).trans ((hu_n (by omega)).trans ((hu_n (by omega)).trans ((hu_n (by omega)).trans ((hu_n (by omega)).trans ((hu_n (by omega)).trans ((hu_n (by omega)).trans ((hu_n (by omega)).trans ((hu_n (by omega)).trans ((hu_n (by omega)).trans ((hu_n (by omega)).trans ((hu_n (by omega)).trans ((hu_n (by omega)).trans ((hu_n (by omega)).trans ((hu_n (by omega)).trans ((hu_n (by omega)).trans ((hu_n (by omega)).trans hu_s))))))))))))))))))))))))))))), ((hu_n (by omega)).trans ((hu_n (by omega)).trans ((hu_n (by omega)).trans ((hu_n (by omega)).trans ((hu_n (by omega)).trans ((hu_n (by omega)).trans ((hu_n (by omega)).trans ((hu_n (by omega)).trans ((hu_n (by omega)).trans ((hu_n (by omega)).trans ((hu_n (by omega)).trans ((hu_n (by omega)).trans ((hu_n (by omega)).trans ((hu_n (by omega)).trans ((hu_n (by omega)).trans ((hu_n (by omega)).trans ((hu_n (by omega)).trans ((hu_n (by omega)).trans ((hu_n (by omega)).trans ((hu_n (by omega)).trans ((hu_n (by omega)).trans ((hu_n (by omega)).trans ((hu_n (by omega)).trans ((hu_n (by omega)).trans ((hu_n (by omega)).trans ((hu_n (by omega)).trans ((hu_n (by omega)).trans hu_s))))))))))))))))))))))))))), ((hu_n (by omega)).trans ((hu_n (by omega)).trans ((hu_n (by omega)).trans ((hu_n (by omega)).trans ((hu_n (by omega)).trans ((hu_n (by omega)).trans ((hu_n (by omega)).trans ((hu_n (by omega)).trans ((hu_n (by omega)).trans ((hu_n (by omega)).trans ((hu_n (by omega)).trans ((hu_n (by omega)).trans ((hu_n (by omega)).trans ((hu_n (by omega)).trans ((hu_n (by omega)).trans ((hu_n (by omega)).trans ((hu_n (by omega)).trans ((hu_n (by omega)).trans ((hu_n (by omega)).trans ((hu_n (by omega)).trans ((hu_n (by omega)).trans ((hu_n (by omega)).trans ((hu_n (by omega)).trans ((hu_n (by omega)).trans ((hu_n (by omega)).trans hu_s))))))))))))))))))))))))), ((hu_n (by omega)).trans ((hu_n (by omega)).trans ((hu_n (by omega)).trans ((hu_n (by omega)).trans ((hu_n (by omega)).trans ((hu_n (by omega)).trans ((hu_n (by omega)).trans ((hu_n (by omega)).trans ((hu_n (by omega)).trans ((hu_n (by omega)).trans ((hu_n (by omega)).trans ((hu_n (by omega)).trans ((hu_n (by omega)).trans ((hu_n (by omega)).trans ((hu_n (by omega)).trans ((hu_n (by omega)).trans ((hu_n (by omega)).trans ((hu_n (by omega)).trans ((hu_n (by omega)).trans ((hu_n (by omega)).trans ((hu_n (by omega)).trans ((hu_n (by omega)).trans ((hu_n (by omega)).trans hu_s))))))))))))))))))))))), ((hu_n (by omega)).trans ((hu_n (by omega)).trans ((hu_n (by omega)).trans ((hu_n (by omega)).trans ((hu_n (by omega)).trans ((hu_n (by omega)).trans ((hu_n (by omega)).trans ((hu_n (by omega)).trans ((hu_n (by omega)).trans ((hu_n (by omega)).trans ((hu_n (by omega)).trans ((hu_n (by omega)).trans ((hu_n (by omega)).trans ((hu_n (by omega)).trans ((hu_n (by omega)).trans ((hu_n (by omega)).trans ((hu_n (by omega)).trans ((hu_n (by omega)).trans ((hu_n (by omega)).trans hu_s))))))))))))))))))), ((hu_n (by omega)).trans ((hu_n (by omega)).trans ((hu_n (by omega)).trans ((hu_n (by omega)).trans ((hu_n (by omega)).trans ((hu_n (by omega)).trans ((hu_n (by omega)).trans ((hu_n (by omega)).trans ((hu_n (by omega)).trans ((hu_n (by omega)).trans ((hu_n (by omega)).trans ((hu_n (by omega)).trans ((hu_n (by omega)).trans ((hu_n (by omega)).trans ((hu_n (by omega)).trans ((hu_n (by omega)).trans ((hu_n (by omega)).trans hu_s))))))))))))))))), ((hu_n (by omega)).trans ((hu_n (by omega)).trans ((hu_n (by omega)).trans ((hu_n (by omega)).trans ((hu_n (by omega)).trans ((hu_n (by omega)).trans ((hu_n (by omega)).trans ((hu_n (by omega)).trans ((hu_n (by omega)).trans ((hu_n (by omega)).trans ((hu_n (by omega)).trans ((hu_n (by omega)).trans ((hu_n (by omega)).trans ((hu_n (by omega)).trans ((hu_n (by omega)).trans hu_s))))))))))))))), ((hu_n (by omega)).trans ((hu_n (by omega)).trans ((hu_n (by omega)).trans ((hu_n (by omega)).trans ((hu_n (by omega)).trans ((hu_n (by omega)).trans ((hu_n (by omega)).trans ((hu_n (by omega)).trans ((hu_n (by omega)).trans ((hu_n (by omega)).trans ((hu_n (by omega)).trans ((hu_n (by omega)).trans ((hu_n (by omega)).trans hu_s))))))))))))), ((hu_n (by omega)).trans ((hu_n (by omega)).trans ((hu_n (by omega)).trans ((hu_n (by omega)).trans ((hu_n (by omega)).trans ((hu_n (by omega)).trans ((hu_n (by omega)).trans ((hu_n (by omega)).trans ((hu_n (by omega)).trans ((hu_n (by omega)).trans ((hu_n (by omega)).trans hu_s))))))))))), ((hu_n (by omega)).trans ((hu_n (by omega)).trans ((hu_n (by omega)).trans ((hu_n (by omega)).trans ((hu_n (by omega)).trans ((hu_n (by omega)).trans ((hu_n (by omega)).trans ((hu_n (by omega)).trans ((hu_n (by omega)).trans hu_s))))))))), ((hu_n (by omega)).trans ((hu_n (by omega)).trans ((hu_n (by omega)).trans ((hu_n (by omega)).trans ((hu_n (by omega)).trans ((hu_n (by omega)).trans ((hu_n (by omega)).trans hu_s))))))), ((hu_n (by omega)).trans ((hu_n (by omega)).trans ((hu_n (by omega)).trans ((hu_n (by omega)).trans ((hu_n (by omega)).trans hu_s))))), ((hu_n (by omega)).trans ((hu_n (by omega)).trans ((hu_n (by omega)).trans hu_s))), ((hu_n (by omega)).trans hu_s), (fun d hd => ⟨rfl, rfl, rfl⟩), (fun d p hd hp => absurd hp (Nat.not_lt_zero p)), (fun d p hd hp => absurd hp (Nat.not_lt_zero p)), (fun f hf => rfl), (fun d p hd hp => absurd hp (Nat.not_lt_zero p)), (fun i hi => absurd hi (Nat.not_lt_zero i)), (fun i hi => absurd hi (Nat.not_lt_zero i)), (fun i hi => absurd hi (Nat.not_lt_zero i))⟩, (FrR_hu (FrR_hu (FrR_hu (FrR_hu (FrR_hu (FrR_hu (FrR_hu (FrR_hu (FrR_hu (FrR_hu (FrR_hu (FrR_hu (FrR_hu (FrR_hu (FrR_hu (FrR_hu (FrR_hu (FrR_hu (FrR_hu (FrR_hu (FrR_hu (FrR_hu (FrR_hu (FrR_hu (FrR_hu (FrR_hu (FrR_hu (FrR_hu (FrR_hu (FrR_hu (FrR_hu (FrR_hu (FrR_hu (FrR_hu (FrR_hu (FrR_hu (FrR_hu (FrR_hu (FrR_rf : FrR 82 101 μ μ) (by omega)) (by omega)) (by omega)) (by omega)) (by omega)) (by omega)) (by omega)) (by omega)) (by omega)) (by omega)) (by omega)) (by omega)) (by omega)) (by omega)) (by omega)) (by omega)) (by omega)) (by omega)) (by omega)) (by omega)) (by omega)) (by omega)) (by omega)) (by omega)) (by omega)) (by omega)) (by omega)) (by omega)) (by omega)) (by omega)) (by omega)) (by omega)) (by omega)) (by omega)) (by omega)) (by omega)) (by omega)) (by omega))⟩
