/-! ===== TrackRows: methods that change (written by m_track4.py) ===== -/
set_option maxHeartbeats 4000000 in
set_option maxRecDepth 100000 in
theorem m_X6_device {n : Nat} {μ : AH} {D : Nat} {dv : Nat → DVt} {Fn : Nat} {fv : Nat → FVt} {sv : SVt} {pk fd : Nat × (Nat → Int)} {spd lim B : Int}  (hC : CH μ D dv Fn fv sv pk fd spd lim) (hO : COk B D dv Fn fv sv pk fd spd lim) : AMet YX6_device [vR 0] n μ (fun o n' μ' => n' = n ∧ (((D < 5) ∧ o = .inl (some (vI (D : Int))) ∧ CH μ' (D + 1) dv Fn fv sv pk fd spd lim ∧ FrC μ μ') ∨ (¬ D < 5 ∧ o = .inr IS ∧ μ' = μ))) := by
  refine AMet.of (by decide) rfl (Nat.le_of_ble_eq_true rfl) ?_
  obtain ⟨h0, h1, h2, hS, ⟨mW, mL, mc, msc, mdc, hM⟩, ⟨pnx, pso, hPk⟩, ⟨enx, eso, hFd⟩, ⟨ue, uf, ug, uh, hUn⟩, hDv, hFv⟩ := id hC
  obtain ⟨hN, hdv, hFn, hfv, hsn, hsb, hpk, hfd, hfb, hs1, hs2, hl1, hl2⟩ := id hO
  refine aw_aload_n (q := 1) dX6_device_0 rfl rfl rfl ?_
  refine aw_get (q := 4) dX6_device_1 rfl fl_X6_50 h0 rfl (fun _ => ?_)
  refine aw_iconst (q := 5) dX6_device_4 rfl (by omega) ?_
  by_cases ck1 : (D : Int) < 5
  · skip
    refine aw_callS [vI ((D : Int)), vI (5)] (q := 8) dX6_device_5 rfl ck_X6_refuseMore lk_X6_65 rfl ⟨Nat.le_of_ble_eq_true rfl, Nat.le_of_ble_eq_true rfl⟩ rfl rfl (Nat.le_of_ble_eq_true rfl) (by decide) (m_X6_refuseMore_t ck1) rfl (fun _ _ _ h => (Vd_x h).elim) ?_
    rintro v n9 μ9 - ⟨hv9, rfl, rfl⟩
    obtain rfl := Sum.inl.inj hv9
    refine aw_aload_n (q := 9) dX6_device_8 rfl rfl rfl ?_
    refine aw_dup (q := 10) dX6_device_9 rfl rfl ?_
    refine aw_get (q := 13) dX6_device_10 rfl fl_X6_50 h0 rfl (fun _ => ?_)
    refine aw_dup_x1 (q := 14) dX6_device_13 rfl rfl rfl ?_
    refine aw_iconst (q := 15) dX6_device_14 rfl (by omega) ?_
    refine aw_iadd (q := 16) dX6_device_15 rfl (by omega) ?_
    refine aw_put (q := 19) dX6_device_16 rfl fp_X6_50 h0 (Nat.le_of_ble_eq_true rfl) trivial ?_
    exact aw_iret dX6_device_19 rfl (by decide) (by decide) ⟨rfl, Or.inl ⟨by omega, rfl, CH_num hC (FrR_hu FrR_rf (by omega)) hu_s, FrR_C (FrR_hu (lo := 0) (hi := 1) FrR_rf (by omega)) (by omega)⟩⟩
  · skip
    refine aw_callS [vI ((D : Int)), vI (5)] (q := 8) dX6_device_5 rfl ck_X6_refuseMore lk_X6_65 rfl ⟨Nat.le_of_ble_eq_true rfl, Nat.le_of_ble_eq_true rfl⟩ rfl rfl (Nat.le_of_ble_eq_true rfl) (by decide) (m_X6_refuseMore_x ck1) rfl (fun E9 n9 μ9 h9 => by obtain ⟨rfl, rfl, h8⟩ := h9; obtain rfl := Sum.inr.inj h8; exact ⟨rfl, Or.inr ⟨by omega, rfl, rfl⟩⟩) ?_
    rintro v n9 μ9 - ⟨-, -, h9⟩
    cases h9
set_option maxHeartbeats 4000000 in
set_option maxRecDepth 100000 in
theorem m_X6_fence {n : Nat} {μ : AH} {D : Nat} {dv : Nat → DVt} {Fn : Nat} {fv : Nat → FVt} {sv : SVt} {pk fd : Nat × (Nat → Int)} {spd lim B : Int}  (hC : CH μ D dv Fn fv sv pk fd spd lim) (hO : COk B D dv Fn fv sv pk fd spd lim) : AMet YX6_fence [vR 0] n μ (fun o n' μ' => n' = n ∧ (((Fn < 4) ∧ o = .inl (some (vI (Fn : Int))) ∧ CH μ' D dv (Fn + 1) fv sv pk fd spd lim ∧ FrC μ μ') ∨ (¬ Fn < 4 ∧ o = .inr IS ∧ μ' = μ))) := by
  refine AMet.of (by decide) rfl (Nat.le_of_ble_eq_true rfl) ?_
  obtain ⟨h0, h1, h2, hS, ⟨mW, mL, mc, msc, mdc, hM⟩, ⟨pnx, pso, hPk⟩, ⟨enx, eso, hFd⟩, ⟨ue, uf, ug, uh, hUn⟩, hDv, hFv⟩ := id hC
  obtain ⟨hN, hdv, hFn, hfv, hsn, hsb, hpk, hfd, hfb, hs1, hs2, hl1, hl2⟩ := id hO
  refine aw_aload_n (q := 1) dX6_fence_0 rfl rfl rfl ?_
  refine aw_get (q := 4) dX6_fence_1 rfl fl_X6_54 h0 rfl (fun _ => ?_)
  refine aw_iconst (q := 5) dX6_fence_4 rfl (by omega) ?_
  by_cases ck1 : (Fn : Int) < 4
  · skip
    refine aw_callS [vI ((Fn : Int)), vI (4)] (q := 8) dX6_fence_5 rfl ck_X6_refuseMore lk_X6_65 rfl ⟨Nat.le_of_ble_eq_true rfl, Nat.le_of_ble_eq_true rfl⟩ rfl rfl (Nat.le_of_ble_eq_true rfl) (by decide) (m_X6_refuseMore_t ck1) rfl (fun _ _ _ h => (Vd_x h).elim) ?_
    rintro v n9 μ9 - ⟨hv9, rfl, rfl⟩
    obtain rfl := Sum.inl.inj hv9
    refine aw_aload_n (q := 9) dX6_fence_8 rfl rfl rfl ?_
    refine aw_dup (q := 10) dX6_fence_9 rfl rfl ?_
    refine aw_get (q := 13) dX6_fence_10 rfl fl_X6_54 h0 rfl (fun _ => ?_)
    refine aw_dup_x1 (q := 14) dX6_fence_13 rfl rfl rfl ?_
    refine aw_iconst (q := 15) dX6_fence_14 rfl (by omega) ?_
    refine aw_iadd (q := 16) dX6_fence_15 rfl (by omega) ?_
    refine aw_put (q := 19) dX6_fence_16 rfl fp_X6_54 h0 (Nat.le_of_ble_eq_true rfl) trivial ?_
    exact aw_iret dX6_fence_19 rfl (by decide) (by decide) ⟨rfl, Or.inl ⟨by omega, rfl, CH_num hC (FrR_hu FrR_rf (by omega)) hu_s, FrR_C (FrR_hu (lo := 0) (hi := 1) FrR_rf (by omega)) (by omega)⟩⟩
  · skip
    refine aw_callS [vI ((Fn : Int)), vI (4)] (q := 8) dX6_fence_5 rfl ck_X6_refuseMore lk_X6_65 rfl ⟨Nat.le_of_ble_eq_true rfl, Nat.le_of_ble_eq_true rfl⟩ rfl rfl (Nat.le_of_ble_eq_true rfl) (by decide) (m_X6_refuseMore_x ck1) rfl (fun E9 n9 μ9 h9 => by obtain ⟨rfl, rfl, h8⟩ := h9; obtain rfl := Sum.inr.inj h8; exact ⟨rfl, Or.inr ⟨by omega, rfl, rfl⟩⟩) ?_
    rintro v n9 μ9 - ⟨-, -, h9⟩
    cases h9
set_option maxHeartbeats 4000000 in
set_option maxRecDepth 100000 in
theorem m_X6_speed {n : Nat} {μ : AH} {D : Nat} {dv : Nat → DVt} {Fn : Nat} {fv : Nat → FVt} {sv : SVt} {pk fd : Nat × (Nat → Int)} {spd lim B : Int} {x : Int} (hC : CH μ D dv Fn fv sv pk fd spd lim) (hO : COk B D dv Fn fv sv pk fd spd lim) : AMet YX6_speed [vR 0, vI (x)] n μ (fun o n' μ' => n' = n ∧ ((((1 ≤ x ∧ x ≤ 100)) ∧ o = .inl (some (vI spd)) ∧ CH μ' D dv Fn fv sv pk fd x lim ∧ FrC μ μ') ∨ (¬ (1 ≤ x ∧ x ≤ 100) ∧ o = .inr IA ∧ μ' = μ))) := by
  refine AMet.of (by decide) rfl (Nat.le_of_ble_eq_true rfl) ?_
  obtain ⟨h0, h1, h2, hS, ⟨mW, mL, mc, msc, mdc, hM⟩, ⟨pnx, pso, hPk⟩, ⟨enx, eso, hFd⟩, ⟨ue, uf, ug, uh, hUn⟩, hDv, hFv⟩ := id hC
  obtain ⟨hN, hdv, hFn, hfv, hsn, hsb, hpk, hfd, hfb, hs1, hs2, hl1, hl2⟩ := id hO
  refine aw_iload_n (q := 1) dX6_speed_0 rfl rfl rfl ?_
  refine aw_iconst (q := 2) dX6_speed_1 rfl (by omega) ?_
  refine aw_bipush (q := 4) dX6_speed_2 rfl (by decide) (by omega) ?_
  by_cases ck1 : 1 ≤ x ∧ x ≤ 100
  · skip
    refine aw_callS [vI (x), vI (1), vI (100)] (q := 7) dX6_speed_4 rfl ck_X6_refuseOutside lk_X6_140 rfl ⟨Nat.le_of_ble_eq_true rfl, Nat.le_of_ble_eq_true rfl⟩ rfl rfl (Nat.le_of_ble_eq_true rfl) (by decide) (m_X6_refuseOutside_t ck1) rfl (fun _ _ _ h => (Vd_x h).elim) ?_
    rintro v n9 μ9 - ⟨hv9, rfl, rfl⟩
    obtain rfl := Sum.inl.inj hv9
    refine aw_aload_n (q := 8) dX6_speed_7 rfl rfl rfl ?_
    refine aw_get (q := 11) dX6_speed_8 rfl fl_X6_57 h0 rfl (fun _ => ?_)
    refine aw_istore_n (q := 12) dX6_speed_11 rfl rfl (by decide) ?_
    refine aw_aload_n (q := 13) dX6_speed_12 rfl rfl rfl ?_
    refine aw_iload_n (q := 14) dX6_speed_13 rfl rfl rfl ?_
    refine aw_put (q := 17) dX6_speed_14 rfl fp_X6_57 h0 (Nat.le_of_ble_eq_true rfl) trivial ?_
    refine aw_iload_n (q := 18) dX6_speed_17 rfl rfl rfl ?_
    exact aw_iret dX6_speed_18 rfl (by decide) (by decide) ⟨rfl, Or.inl ⟨ck1, rfl, CH_num hC (FrR_hu FrR_rf (by omega)) hu_s, FrR_C (FrR_hu (lo := 0) (hi := 1) FrR_rf (by omega)) (by omega)⟩⟩
  · skip
    refine aw_callS [vI (x), vI (1), vI (100)] (q := 7) dX6_speed_4 rfl ck_X6_refuseOutside lk_X6_140 rfl ⟨Nat.le_of_ble_eq_true rfl, Nat.le_of_ble_eq_true rfl⟩ rfl rfl (Nat.le_of_ble_eq_true rfl) (by decide) (m_X6_refuseOutside_x ck1) rfl (fun E9 n9 μ9 h9 => by obtain ⟨rfl, rfl, h8⟩ := h9; obtain rfl := Sum.inr.inj h8; exact ⟨rfl, Or.inr ⟨ck1, rfl, rfl⟩⟩) ?_
    rintro v n9 μ9 - ⟨-, -, h9⟩
    cases h9
set_option maxHeartbeats 4000000 in
set_option maxRecDepth 100000 in
theorem m_X6_limit {n : Nat} {μ : AH} {D : Nat} {dv : Nat → DVt} {Fn : Nat} {fv : Nat → FVt} {sv : SVt} {pk fd : Nat × (Nat → Int)} {spd lim B : Int} {x : Int} (hC : CH μ D dv Fn fv sv pk fd spd lim) (hO : COk B D dv Fn fv sv pk fd spd lim) : AMet YX6_limit [vR 0, vI (x)] n μ (fun o n' μ' => n' = n ∧ ((((1 ≤ x ∧ x ≤ 100000)) ∧ o = .inl (some (vI lim)) ∧ CH μ' D dv Fn fv sv pk fd spd x ∧ FrC μ μ') ∨ (¬ (1 ≤ x ∧ x ≤ 100000) ∧ o = .inr IA ∧ μ' = μ))) := by
  refine AMet.of (by decide) rfl (Nat.le_of_ble_eq_true rfl) ?_
  obtain ⟨h0, h1, h2, hS, ⟨mW, mL, mc, msc, mdc, hM⟩, ⟨pnx, pso, hPk⟩, ⟨enx, eso, hFd⟩, ⟨ue, uf, ug, uh, hUn⟩, hDv, hFv⟩ := id hC
  obtain ⟨hN, hdv, hFn, hfv, hsn, hsb, hpk, hfd, hfb, hs1, hs2, hl1, hl2⟩ := id hO
  refine aw_iload_n (q := 1) dX6_limit_0 rfl rfl rfl ?_
  refine aw_iconst (q := 2) dX6_limit_1 rfl (by omega) ?_
  refine aw_ldc (a := 100000) (q := 4) dX6_limit_2 rfl k_X6_152 (by omega) ?_
  by_cases ck1 : 1 ≤ x ∧ x ≤ 100000
  · skip
    refine aw_callS [vI (x), vI (1), vI (100000)] (q := 7) dX6_limit_4 rfl ck_X6_refuseOutside lk_X6_140 rfl ⟨Nat.le_of_ble_eq_true rfl, Nat.le_of_ble_eq_true rfl⟩ rfl rfl (Nat.le_of_ble_eq_true rfl) (by decide) (m_X6_refuseOutside_t ck1) rfl (fun _ _ _ h => (Vd_x h).elim) ?_
    rintro v n9 μ9 - ⟨hv9, rfl, rfl⟩
    obtain rfl := Sum.inl.inj hv9
    refine aw_aload_n (q := 8) dX6_limit_7 rfl rfl rfl ?_
    refine aw_get (q := 11) dX6_limit_8 rfl fl_X6_60 h0 rfl (fun _ => ?_)
    refine aw_istore_n (q := 12) dX6_limit_11 rfl rfl (by decide) ?_
    refine aw_aload_n (q := 13) dX6_limit_12 rfl rfl rfl ?_
    refine aw_iload_n (q := 14) dX6_limit_13 rfl rfl rfl ?_
    refine aw_put (q := 17) dX6_limit_14 rfl fp_X6_60 h0 (Nat.le_of_ble_eq_true rfl) trivial ?_
    refine aw_iload_n (q := 18) dX6_limit_17 rfl rfl rfl ?_
    exact aw_iret dX6_limit_18 rfl (by decide) (by decide) ⟨rfl, Or.inl ⟨ck1, rfl, CH_num hC (FrR_hu FrR_rf (by omega)) hu_s, FrR_C (FrR_hu (lo := 0) (hi := 1) FrR_rf (by omega)) (by omega)⟩⟩
  · skip
    refine aw_callS [vI (x), vI (1), vI (100000)] (q := 7) dX6_limit_4 rfl ck_X6_refuseOutside lk_X6_140 rfl ⟨Nat.le_of_ble_eq_true rfl, Nat.le_of_ble_eq_true rfl⟩ rfl rfl (Nat.le_of_ble_eq_true rfl) (by decide) (m_X6_refuseOutside_x ck1) rfl (fun E9 n9 μ9 h9 => by obtain ⟨rfl, rfl, h8⟩ := h9; obtain rfl := Sum.inr.inj h8; exact ⟨rfl, Or.inr ⟨ck1, rfl, rfl⟩⟩) ?_
    rintro v n9 μ9 - ⟨-, -, h9⟩
    cases h9
set_option maxHeartbeats 4000000 in
set_option maxRecDepth 100000 in
theorem m_X6_sight {n : Nat} {μ : AH} {D : Nat} {dv : Nat → DVt} {Fn : Nat} {fv : Nat → FVt} {sv : SVt} {pk fd : Nat × (Nat → Int)} {spd lim B : Int} {s x y : Int} (hC : CH μ D dv Fn fv sv pk fd spd lim) (hO : COk B D dv Fn fv sv pk fd spd lim) : AMet YX6_sight [vR 0, vI (s), vI (x), vI (y)] n μ (fun o n' μ' => n' = n ∧ ((((0 ≤ s ∧ s ≤ 1000000 ∧ -100000 ≤ x ∧ x ≤ 100000 ∧ -100000 ≤ y ∧ y ≤ 100000) ∧ sv.1 < 5) ∧ o = .inl (some (vI (sv.1 : Int))) ∧ CH μ' D dv Fn fv (sv.1 + 1, insF sv.2.1 sv.1 sv.1 s, insF sv.2.2.1 sv.1 sv.1 x, insF sv.2.2.2 sv.1 sv.1 y) pk fd spd lim ∧ FrC μ μ') ∨ (¬ (0 ≤ s ∧ s ≤ 1000000 ∧ -100000 ≤ x ∧ x ≤ 100000 ∧ -100000 ≤ y ∧ y ≤ 100000) ∧ o = .inr IA ∧ μ' = μ) ∨ (((0 ≤ s ∧ s ≤ 1000000 ∧ -100000 ≤ x ∧ x ≤ 100000 ∧ -100000 ≤ y ∧ y ≤ 100000) ∧ ¬ sv.1 < 5) ∧ o = .inr IS ∧ μ' = μ))) := by
  refine AMet.of (by decide) rfl (Nat.le_of_ble_eq_true rfl) ?_
  obtain ⟨h0, h1, h2, hS, ⟨mW, mL, mc, msc, mdc, hM⟩, ⟨pnx, pso, hPk⟩, ⟨enx, eso, hFd⟩, ⟨ue, uf, ug, uh, hUn⟩, hDv, hFv⟩ := id hC
  obtain ⟨hN, hdv, hFn, hfv, hsn, hsb, hpk, hfd, hfb, hs1, hs2, hl1, hl2⟩ := id hO
  refine aw_iload_n (q := 1) dX6_sight_0 rfl rfl rfl ?_
  refine aw_iload_n (q := 2) dX6_sight_1 rfl rfl rfl ?_
  refine aw_iload_n (q := 3) dX6_sight_2 rfl rfl rfl ?_
  by_cases ck1 : 0 ≤ s ∧ s ≤ 1000000 ∧ -100000 ≤ x ∧ x ≤ 100000 ∧ -100000 ≤ y ∧ y ≤ 100000
  · skip
    refine aw_callS [vI (s), vI (x), vI (y)] (q := 6) dX6_sight_3 rfl ck_X6_refuseUntellable lk_X6_76 rfl ⟨Nat.le_of_ble_eq_true rfl, Nat.le_of_ble_eq_true rfl⟩ rfl rfl (Nat.le_of_ble_eq_true rfl) (by decide) (m_X6_refuseUntellable_t ck1) rfl (fun _ _ _ h => (Vd_x h).elim) ?_
    rintro v n9 μ9 - ⟨hv9, rfl, rfl⟩
    obtain rfl := Sum.inl.inj hv9
    refine aw_aload_n (q := 7) dX6_sight_6 rfl rfl rfl ?_
    refine aw_get (q := 10) dX6_sight_7 rfl fl_X6_26 h0 rfl (fun _ => ?_)
    refine aw_get (q := 13) dX6_sight_10 rfl fl_X6_99 hS.1 rfl (fun _ => ?_)
    refine aw_iconst (q := 14) dX6_sight_13 rfl (by omega) ?_
    by_cases ck2 : (sv.1 : Int) < 5
    · skip
      refine aw_callS [vI ((sv.1 : Nat)), vI (5)] (q := 17) dX6_sight_14 rfl ck_X6_refuseMore lk_X6_65 rfl ⟨Nat.le_of_ble_eq_true rfl, Nat.le_of_ble_eq_true rfl⟩ rfl rfl (Nat.le_of_ble_eq_true rfl) (by decide) (m_X6_refuseMore_t ck2) rfl (fun _ _ _ h => (Vd_x h).elim) ?_
      rintro v n9 μ9 - ⟨hv9, rfl, rfl⟩
      obtain rfl := Sum.inl.inj hv9
      refine aw_aload_n (q := 18) dX6_sight_17 rfl rfl rfl ?_
      refine aw_get (q := 21) dX6_sight_18 rfl fl_X6_26 h0 rfl (fun _ => ?_)
      refine aw_aload_n (q := 22) dX6_sight_21 rfl rfl rfl ?_
      refine aw_get (q := 25) dX6_sight_22 rfl fl_X6_26 h0 rfl (fun _ => ?_)
      refine aw_get (q := 28) dX6_sight_25 rfl fl_X6_99 hS.1 rfl (fun _ => ?_)
      refine aw_iload_n (q := 29) dX6_sight_28 rfl rfl rfl ?_
      refine aw_iload_n (q := 30) dX6_sight_29 rfl rfl rfl ?_
      refine aw_iload_n (q := 31) dX6_sight_30 rfl rfl rfl ?_
      refine aw_callV [vI ((sv.1 : Nat)), vI (s), vI (x), vI (y)] (q := 34) dX6_sight_31 rfl ck_X5_insert lk_X6_102 rfl ⟨Nat.le_of_ble_eq_true rfl, Nat.le_of_ble_eq_true rfl⟩ rfl rfl hS.1 rfl (Nat.le_of_ble_eq_true rfl) (by decide) (m_X5_insert (r := sv.1) rfl (Nat.le_refl _) (by omega) (by omega) hS) rfl (fun _ _ _ h => (Vd_x h).elim) ?_
      rintro v n9 μ9 - ⟨hv9, rfl, hP2, hF2⟩
      obtain rfl := Sum.inl.inj hv9
      refine aw_aload_n (q := 35) dX6_sight_34 rfl rfl rfl ?_
      refine aw_get (q := 38) dX6_sight_35 rfl fl_X6_26 ((hF2 0 (by simp only [List.mem_cons, List.not_mem_nil, or_false]; omega)).trans h0) rfl (fun _ => ?_)
      refine aw_get (q := 41) dX6_sight_38 rfl fl_X6_99 hP2.1 rfl (fun _ => ?_)
      refine aw_iconst (q := 42) dX6_sight_41 rfl (by omega) ?_
      refine aw_isub (q := 43) dX6_sight_42 rfl (by omega) ?_
      exact aw_iret dX6_sight_43 rfl (by decide) (by decide) ⟨rfl, Or.inl ⟨⟨ck1, by omega⟩, congrArg (fun z => (Sum.inl (some (vI z)) : AOut)) (by omega), CH_sig (sv' := (sv.1 + 1, insF sv.2.1 sv.1 sv.1 s, insF sv.2.2.1 sv.1 sv.1 x, insF sv.2.2.2 sv.1 sv.1 y)) hC (FrR_of hF2 (by simp only [List.mem_cons, List.not_mem_nil, or_false]; omega)) hP2, FrR_C (FrR_of (lo := 3) (hi := 7) hF2 (by simp only [List.mem_cons, List.not_mem_nil, or_false]; omega)) (by omega)⟩⟩
    · skip
      refine aw_callS [vI ((sv.1 : Nat)), vI (5)] (q := 17) dX6_sight_14 rfl ck_X6_refuseMore lk_X6_65 rfl ⟨Nat.le_of_ble_eq_true rfl, Nat.le_of_ble_eq_true rfl⟩ rfl rfl (Nat.le_of_ble_eq_true rfl) (by decide) (m_X6_refuseMore_x ck2) rfl (fun E9 n9 μ9 h9 => by obtain ⟨rfl, rfl, h8⟩ := h9; obtain rfl := Sum.inr.inj h8; exact ⟨rfl, Or.inr (Or.inr ⟨⟨ck1, by omega⟩, rfl, rfl⟩)⟩) ?_
      rintro v n9 μ9 - ⟨-, -, h9⟩
      cases h9
  · skip
    refine aw_callS [vI (s), vI (x), vI (y)] (q := 6) dX6_sight_3 rfl ck_X6_refuseUntellable lk_X6_76 rfl ⟨Nat.le_of_ble_eq_true rfl, Nat.le_of_ble_eq_true rfl⟩ rfl rfl (Nat.le_of_ble_eq_true rfl) (by decide) (m_X6_refuseUntellable_x ck1) rfl (fun E9 n9 μ9 h9 => by obtain ⟨rfl, rfl, h8⟩ := h9; obtain rfl := Sum.inr.inj h8; exact ⟨rfl, Or.inr (Or.inl ⟨ck1, rfl, rfl⟩)⟩) ?_
    rintro v n9 μ9 - ⟨-, -, h9⟩
    cases h9
set_option maxHeartbeats 4000000 in
set_option maxRecDepth 100000 in
theorem m_X6_feed {n : Nat} {μ : AH} {D : Nat} {dv : Nat → DVt} {Fn : Nat} {fv : Nat → FVt} {sv : SVt} {pk fd : Nat × (Nat → Int)} {spd lim B : Int} {x : Int} (hC : CH μ D dv Fn fv sv pk fd spd lim) (hO : COk B D dv Fn fv sv pk fd spd lim) : AMet YX6_feed [vR 0, vI (x)] n μ (fun o n' μ' => n' = n ∧ ((((0 ≤ x ∧ x ≤ 255) ∧ fd.1 < 600) ∧ o = .inl (some (vI ((fd.1 + 1 : Nat) : Int))) ∧ CH μ' D dv Fn fv sv pk (fd.1 + 1, fu fd.2 fd.1 x) spd lim ∧ FrC μ μ') ∨ (¬ (0 ≤ x ∧ x ≤ 255) ∧ o = .inr IA ∧ μ' = μ) ∨ (((0 ≤ x ∧ x ≤ 255) ∧ ¬ fd.1 < 600) ∧ o = .inr IS ∧ μ' = μ))) := by
  refine AMet.of (by decide) rfl (Nat.le_of_ble_eq_true rfl) ?_
  obtain ⟨h0, h1, h2, hS, ⟨mW, mL, mc, msc, mdc, hM⟩, ⟨pnx, pso, hPk⟩, ⟨enx, eso, hFd⟩, ⟨ue, uf, ug, uh, hUn⟩, hDv, hFv⟩ := id hC
  obtain ⟨hN, hdv, hFn, hfv, hsn, hsb, hpk, hfd, hfb, hs1, hs2, hl1, hl2⟩ := id hO
  refine aw_iload_n (q := 1) dX6_feed_0 rfl rfl rfl ?_
  refine aw_iconst (q := 2) dX6_feed_1 rfl (by omega) ?_
  refine aw_sipush (q := 5) dX6_feed_2 rfl (by decide) (by omega) ?_
  by_cases ck1 : 0 ≤ x ∧ x ≤ 255
  · skip
    refine aw_callS [vI (x), vI (0), vI (255)] (q := 8) dX6_feed_5 rfl ck_X6_refuseOutside lk_X6_140 rfl ⟨Nat.le_of_ble_eq_true rfl, Nat.le_of_ble_eq_true rfl⟩ rfl rfl (Nat.le_of_ble_eq_true rfl) (by decide) (m_X6_refuseOutside_t ck1) rfl (fun _ _ _ h => (Vd_x h).elim) ?_
    rintro v n9 μ9 - ⟨hv9, rfl, rfl⟩
    obtain rfl := Sum.inl.inj hv9
    refine aw_aload_n (q := 9) dX6_feed_8 rfl rfl rfl ?_
    refine aw_get (q := 12) dX6_feed_9 rfl fl_X6_44 h0 rfl (fun _ => ?_)
    refine aw_get (q := 15) dX6_feed_12 rfl fl_X6_190 hFd.1 rfl (fun _ => ?_)
    refine aw_sipush (q := 18) dX6_feed_15 rfl (by decide) (by omega) ?_
    by_cases ck2 : (fd.1 : Int) < 600
    · skip
      refine aw_callS [vI ((fd.1 : Nat)), vI (600)] (q := 21) dX6_feed_18 rfl ck_X6_refuseMore lk_X6_65 rfl ⟨Nat.le_of_ble_eq_true rfl, Nat.le_of_ble_eq_true rfl⟩ rfl rfl (Nat.le_of_ble_eq_true rfl) (by decide) (m_X6_refuseMore_t ck2) rfl (fun _ _ _ h => (Vd_x h).elim) ?_
      rintro v n9 μ9 - ⟨hv9, rfl, rfl⟩
      obtain rfl := Sum.inl.inj hv9
      refine aw_aload_n (q := 22) dX6_feed_21 rfl rfl rfl ?_
      refine aw_get (q := 25) dX6_feed_22 rfl fl_X6_44 h0 rfl (fun _ => ?_)
      refine aw_iload_n (q := 26) dX6_feed_25 rfl rfl rfl ?_
      refine aw_callV [vI (x)] (q := 29) dX6_feed_26 rfl ck_X0_append lk_X6_197 rfl ⟨Nat.le_of_ble_eq_true rfl, Nat.le_of_ble_eq_true rfl⟩ rfl rfl hFd.1 rfl (Nat.le_of_ble_eq_true rfl) (by decide) (m_X0_append (by omega) hFd) rfl (fun _ _ _ h => (Vd_x h).elim) ?_
      rintro v n9 μ9 - ⟨hv9, rfl, hB2, hF2⟩
      obtain rfl := Sum.inl.inj hv9
      refine aw_aload_n (q := 30) dX6_feed_29 rfl rfl rfl ?_
      refine aw_get (q := 33) dX6_feed_30 rfl fl_X6_44 ((hF2 0 (by simp only [List.mem_cons, List.not_mem_nil, or_false]; omega)).trans h0) rfl (fun _ => ?_)
      refine aw_get (q := 36) dX6_feed_33 rfl fl_X6_190 hB2.1 rfl (fun _ => ?_)
      exact aw_iret dX6_feed_36 rfl (by decide) (by decide) ⟨rfl, Or.inl ⟨⟨ck1, by omega⟩, rfl, CH_fd (fd' := (fd.1 + 1, fu fd.2 fd.1 x)) hC (FrR_of hF2 (by simp only [List.mem_cons, List.not_mem_nil, or_false]; omega)) hB2, FrR_C (FrR_of (lo := 24) (hi := 26) hF2 (by simp only [List.mem_cons, List.not_mem_nil, or_false]; omega)) (by omega)⟩⟩
    · skip
      refine aw_callS [vI ((fd.1 : Nat)), vI (600)] (q := 21) dX6_feed_18 rfl ck_X6_refuseMore lk_X6_65 rfl ⟨Nat.le_of_ble_eq_true rfl, Nat.le_of_ble_eq_true rfl⟩ rfl rfl (Nat.le_of_ble_eq_true rfl) (by decide) (m_X6_refuseMore_x ck2) rfl (fun E9 n9 μ9 h9 => by obtain ⟨rfl, rfl, h8⟩ := h9; obtain rfl := Sum.inr.inj h8; exact ⟨rfl, Or.inr (Or.inr ⟨⟨ck1, by omega⟩, rfl, rfl⟩)⟩) ?_
      rintro v n9 μ9 - ⟨-, -, h9⟩
      cases h9
  · skip
    refine aw_callS [vI (x), vI (0), vI (255)] (q := 8) dX6_feed_5 rfl ck_X6_refuseOutside lk_X6_140 rfl ⟨Nat.le_of_ble_eq_true rfl, Nat.le_of_ble_eq_true rfl⟩ rfl rfl (Nat.le_of_ble_eq_true rfl) (by decide) (m_X6_refuseOutside_x ck1) rfl (fun E9 n9 μ9 h9 => by obtain ⟨rfl, rfl, h8⟩ := h9; obtain rfl := Sum.inr.inj h8; exact ⟨rfl, Or.inr (Or.inl ⟨ck1, rfl, rfl⟩)⟩) ?_
    rintro v n9 μ9 - ⟨-, -, h9⟩
    cases h9
set_option maxHeartbeats 4000000 in
set_option maxRecDepth 100000 in
theorem m_X6_corner {n : Nat} {μ : AH} {D : Nat} {dv : Nat → DVt} {Fn : Nat} {fv : Nat → FVt} {sv : SVt} {pk fd : Nat × (Nat → Int)} {spd lim B : Int} {j x y : Int} (hC : CH μ D dv Fn fv sv pk fd spd lim) (hO : COk B D dv Fn fv sv pk fd spd lim) : AMet YX6_corner [vR 0, vI (j), vI (x), vI (y)] n μ (fun o n' μ' => n' = n ∧ ((((((0 ≤ j ∧ j < (Fn : Int)) ∧ (-100000 ≤ x ∧ x ≤ 100000) ∧ -100000 ≤ y ∧ y ≤ 100000) ∧ (fv j.toNat).1 < 8)) ∧ o = .inl (some (vI (((fv j.toNat).1 + 1 : Nat) : Int))) ∧ CH μ' D dv Fn (fvu fv j.toNat ((fv j.toNat).1 + 1, fu (fv j.toNat).2.1 (fv j.toNat).1 x, fu (fv j.toNat).2.2 (fv j.toNat).1 y)) sv pk fd spd lim ∧ FrC μ μ') ∨ (¬ (0 ≤ j ∧ j < (Fn : Int)) ∧ o = .inr IX ∧ μ' = μ) ∨ (((0 ≤ j ∧ j < (Fn : Int)) ∧ ¬ ((-100000 ≤ x ∧ x ≤ 100000) ∧ -100000 ≤ y ∧ y ≤ 100000)) ∧ o = .inr IA ∧ μ' = μ) ∨ ((((0 ≤ j ∧ j < (Fn : Int)) ∧ (-100000 ≤ x ∧ x ≤ 100000) ∧ -100000 ≤ y ∧ y ≤ 100000) ∧ ¬ (fv j.toNat).1 < 8) ∧ o = .inr IS ∧ μ' = μ))) := by
  refine AMet.of (by decide) rfl (Nat.le_of_ble_eq_true rfl) ?_
  obtain ⟨h0, h1, h2, hS, ⟨mW, mL, mc, msc, mdc, hM⟩, ⟨pnx, pso, hPk⟩, ⟨enx, eso, hFd⟩, ⟨ue, uf, ug, uh, hUn⟩, hDv, hFv⟩ := id hC
  obtain ⟨hN, hdv, hFn, hfv, hsn, hsb, hpk, hfd, hfb, hs1, hs2, hl1, hl2⟩ := id hO
  refine aw_aload_n (q := 1) dX6_corner_0 rfl rfl rfl ?_
  refine aw_iload_n (q := 2) dX6_corner_1 rfl rfl rfl ?_
  by_cases ck1 : 0 ≤ j ∧ j < (Fn : Int)
  · skip
    obtain ⟨e, hj⟩ : ∃ e : Nat, j = (e : Int) := ⟨j.toNat, by omega⟩
    have he : e < Fn := by omega
    have he4 : e < 4 := by omega
    have hje : j.toNat = e := by omega
    obtain ⟨hfc, hfe⟩ := hfv e he4
    refine aw_callV [vI (j)] (q := 5) dX6_corner_2 rfl ck_X6_fenceOf lk_X6_174 rfl ⟨Nat.le_of_ble_eq_true rfl, Nat.le_of_ble_eq_true rfl⟩ rfl rfl h0 rfl (Nat.le_of_ble_eq_true rfl) (by decide) (m_X6_fenceOf_t h0 h2 hj he hFn) rfl (fun _ _ _ h => (Rt_x h).elim) ?_
    rintro v n9 μ9 - ⟨v9, hv9, rfl, rfl, rfl⟩
    obtain rfl := Sum.inl.inj hv9
    refine aw_astore (q := 7) dX6_corner_5 rfl (by decide) ?_
    refine aw_iload_n (q := 8) dX6_corner_7 rfl rfl rfl ?_
    refine aw_ldc (a := -100000) (q := 10) dX6_corner_8 rfl k_X6_178 (by omega) ?_
    refine aw_ldc (a := 100000) (q := 12) dX6_corner_10 rfl k_X6_152 (by omega) ?_
    by_cases ck2 : -100000 ≤ x ∧ x ≤ 100000
    · skip
      refine aw_callS [vI (x), vI ((-100000)), vI (100000)] (q := 15) dX6_corner_12 rfl ck_X6_refuseOutside lk_X6_140 rfl ⟨Nat.le_of_ble_eq_true rfl, Nat.le_of_ble_eq_true rfl⟩ rfl rfl (Nat.le_of_ble_eq_true rfl) (by decide) (m_X6_refuseOutside_t ck2) rfl (fun _ _ _ h => (Vd_x h).elim) ?_
      rintro v n9 μ9 - ⟨hv9, rfl, rfl⟩
      obtain rfl := Sum.inl.inj hv9
      refine aw_iload_n (q := 16) dX6_corner_15 rfl rfl rfl ?_
      refine aw_ldc (a := -100000) (q := 18) dX6_corner_16 rfl k_X6_178 (by omega) ?_
      refine aw_ldc (a := 100000) (q := 20) dX6_corner_18 rfl k_X6_152 (by omega) ?_
      by_cases ck3 : -100000 ≤ y ∧ y ≤ 100000
      · skip
        refine aw_callS [vI (y), vI ((-100000)), vI (100000)] (q := 23) dX6_corner_20 rfl ck_X6_refuseOutside lk_X6_140 rfl ⟨Nat.le_of_ble_eq_true rfl, Nat.le_of_ble_eq_true rfl⟩ rfl rfl (Nat.le_of_ble_eq_true rfl) (by decide) (m_X6_refuseOutside_t ck3) rfl (fun _ _ _ h => (Vd_x h).elim) ?_
        rintro v n9 μ9 - ⟨hv9, rfl, rfl⟩
        obtain rfl := Sum.inl.inj hv9
        refine aw_aload (q := 25) dX6_corner_23 rfl rfl ?_
        refine aw_get (q := 28) dX6_corner_25 rfl fl_X6_179 (hFv e he4).1 rfl (fun _ => ?_)
        refine aw_bipush (q := 30) dX6_corner_28 rfl (by decide) (by omega) ?_
        by_cases ck4 : ((fv e).1 : Int) < 8
        · skip
          refine aw_callS [vI (((fv e).1 : Nat)), vI (8)] (q := 33) dX6_corner_30 rfl ck_X6_refuseMore lk_X6_65 rfl ⟨Nat.le_of_ble_eq_true rfl, Nat.le_of_ble_eq_true rfl⟩ rfl rfl (Nat.le_of_ble_eq_true rfl) (by decide) (m_X6_refuseMore_t ck4) rfl (fun _ _ _ h => (Vd_x h).elim) ?_
          rintro v n9 μ9 - ⟨hv9, rfl, rfl⟩
          obtain rfl := Sum.inl.inj hv9
          refine aw_aload (q := 35) dX6_corner_33 rfl rfl ?_
          refine aw_iload_n (q := 36) dX6_corner_35 rfl rfl rfl ?_
          refine aw_iload_n (q := 37) dX6_corner_36 rfl rfl rfl ?_
          refine aw_callV [vI (x), vI (y)] (q := 40) dX6_corner_37 rfl ck_X3_append lk_X6_180 rfl ⟨Nat.le_of_ble_eq_true rfl, Nat.le_of_ble_eq_true rfl⟩ rfl rfl (hFv e he4).1 rfl (Nat.le_of_ble_eq_true rfl) (by decide) (m_X3_append (by omega) (hFv e he4)) rfl (fun _ _ _ h => (Vd_x h).elim) ?_
          rintro v n9 μ9 - ⟨hv9, rfl, hE2, hF2⟩
          obtain rfl := Sum.inl.inj hv9
          refine aw_aload (q := 42) dX6_corner_40 rfl rfl ?_
          refine aw_get (q := 45) dX6_corner_42 rfl fl_X6_179 hE2.1 rfl (fun _ => ?_)
          exact aw_iret dX6_corner_45 rfl (by decide) (by decide) ⟨rfl, Or.inl ⟨⟨⟨ck1, ck2, ck3⟩, by rw [hje]; omega⟩, by rw [hje], by rw [hje]; exact CH_fen (v := ((fv e).1 + 1, fu (fv e).2.1 (fv e).1 x, fu (fv e).2.2 (fv e).1 y)) hC he4 (FrR_of hF2 (by simp only [List.mem_cons, List.not_mem_nil, or_false]; omega)) hE2, FrR_C (FrR_of (lo := 70 + 3 * e) (hi := 73 + 3 * e) hF2 (by simp only [List.mem_cons, List.not_mem_nil, or_false]; omega)) (by omega)⟩⟩
        · skip
          refine aw_callS [vI (((fv e).1 : Nat)), vI (8)] (q := 33) dX6_corner_30 rfl ck_X6_refuseMore lk_X6_65 rfl ⟨Nat.le_of_ble_eq_true rfl, Nat.le_of_ble_eq_true rfl⟩ rfl rfl (Nat.le_of_ble_eq_true rfl) (by decide) (m_X6_refuseMore_x ck4) rfl (fun E9 n9 μ9 h9 => by obtain ⟨rfl, rfl, h8⟩ := h9; obtain rfl := Sum.inr.inj h8; exact ⟨rfl, Or.inr (Or.inr (Or.inr ⟨⟨⟨ck1, ck2, ck3⟩, by rw [hje]; omega⟩, rfl, rfl⟩))⟩) ?_
          rintro v n9 μ9 - ⟨-, -, h9⟩
          cases h9
      · skip
        refine aw_callS [vI (y), vI ((-100000)), vI (100000)] (q := 23) dX6_corner_20 rfl ck_X6_refuseOutside lk_X6_140 rfl ⟨Nat.le_of_ble_eq_true rfl, Nat.le_of_ble_eq_true rfl⟩ rfl rfl (Nat.le_of_ble_eq_true rfl) (by decide) (m_X6_refuseOutside_x ck3) rfl (fun E9 n9 μ9 h9 => by obtain ⟨rfl, rfl, h8⟩ := h9; obtain rfl := Sum.inr.inj h8; exact ⟨rfl, Or.inr (Or.inr (Or.inl ⟨⟨ck1, (fun h => ck3 h.2)⟩, rfl, rfl⟩))⟩) ?_
        rintro v n9 μ9 - ⟨-, -, h9⟩
        cases h9
    · skip
      refine aw_callS [vI (x), vI ((-100000)), vI (100000)] (q := 15) dX6_corner_12 rfl ck_X6_refuseOutside lk_X6_140 rfl ⟨Nat.le_of_ble_eq_true rfl, Nat.le_of_ble_eq_true rfl⟩ rfl rfl (Nat.le_of_ble_eq_true rfl) (by decide) (m_X6_refuseOutside_x ck2) rfl (fun E9 n9 μ9 h9 => by obtain ⟨rfl, rfl, h8⟩ := h9; obtain rfl := Sum.inr.inj h8; exact ⟨rfl, Or.inr (Or.inr (Or.inl ⟨⟨ck1, (fun h => ck2 h.1)⟩, rfl, rfl⟩))⟩) ?_
      rintro v n9 μ9 - ⟨-, -, h9⟩
      cases h9
  · skip
    refine aw_callV [vI (j)] (q := 5) dX6_corner_2 rfl ck_X6_fenceOf lk_X6_174 rfl ⟨Nat.le_of_ble_eq_true rfl, Nat.le_of_ble_eq_true rfl⟩ rfl rfl h0 rfl (Nat.le_of_ble_eq_true rfl) (by decide) (m_X6_fenceOf_x h0 ck1) rfl (fun E9 n9 μ9 h9 => by obtain ⟨rfl, rfl, h8⟩ := h9; obtain rfl := Sum.inr.inj h8; exact ⟨rfl, Or.inr (Or.inl ⟨ck1, rfl, rfl⟩)⟩) ?_
    rintro v n9 μ9 - ⟨-, -, h9⟩
    cases h9
set_option maxHeartbeats 4000000 in
set_option maxRecDepth 100000 in
theorem m_X6_pack {n : Nat} {μ : AH} {D : Nat} {dv : Nat → DVt} {Fn : Nat} {fv : Nat → FVt} {sv : SVt} {pk fd : Nat × (Nat → Int)} {spd lim B : Int} {i : Int} (hC : CH μ D dv Fn fv sv pk fd spd lim) (hO : COk B D dv Fn fv sv pk fd spd lim) : AMet YX6_pack [vR 0, vI (i)] n μ (fun o n' μ' => n' = n ∧ (((0 ≤ i ∧ i < (D : Int)) ∧ ∃ b' : Nat → Int, o = .inl (some (vI ((packP (dv i.toNat).2.1 (dv i.toNat).2.2.1 (dv i.toNat).2.2.2.1 (dv i.toNat).1).length : Int))) ∧ CH μ' D dv Fn fv sv ((packP (dv i.toNat).2.1 (dv i.toNat).2.2.1 (dv i.toNat).2.2.2.1 (dv i.toNat).1).length, b') fd spd lim ∧ Has b' (packP (dv i.toNat).2.1 (dv i.toNat).2.2.1 (dv i.toNat).2.2.2.1 (dv i.toNat).1) ∧ FrC μ μ') ∨ (¬ (0 ≤ i ∧ i < (D : Int)) ∧ o = .inr IX ∧ μ' = μ))) := by
  refine AMet.of (by decide) rfl (Nat.le_of_ble_eq_true rfl) ?_
  obtain ⟨h0, h1, h2, hS, ⟨mW, mL, mc, msc, mdc, hM⟩, ⟨pnx, pso, hPk⟩, ⟨enx, eso, hFd⟩, ⟨ue, uf, ug, uh, hUn⟩, hDv, hFv⟩ := id hC
  obtain ⟨hN, hdv, hFn, hfv, hsn, hsb, hpk, hfd, hfb, hs1, hs2, hl1, hl2⟩ := id hO
  refine aw_aload_n (q := 1) dX6_pack_0 rfl rfl rfl ?_
  refine aw_get (q := 4) dX6_pack_1 rfl fl_X6_40 h0 rfl (fun _ => ?_)
  refine aw_aload_n (q := 5) dX6_pack_4 rfl rfl rfl ?_
  refine aw_iload_n (q := 6) dX6_pack_5 rfl rfl rfl ?_
  by_cases ck1 : 0 ≤ i ∧ i < (D : Int)
  · skip
    obtain ⟨d, hi⟩ : ∃ d : Nat, i = (d : Int) := ⟨i.toNat, by omega⟩
    have hd : d < D := by omega
    have hd5 : d < 5 := by omega
    have hid : i.toNat = d := by omega
    have hdo := (hdv d hd5).1
    refine aw_callV [vI (i)] (q := 9) dX6_pack_6 rfl ck_X6_deviceOf lk_X6_69 rfl ⟨Nat.le_of_ble_eq_true rfl, Nat.le_of_ble_eq_true rfl⟩ rfl rfl h0 rfl (Nat.le_of_ble_eq_true rfl) (by decide) (m_X6_deviceOf_t h0 h1 hi hd hN) rfl (fun _ _ _ h => (Rt_x h).elim) ?_
    rintro v n9 μ9 - ⟨v9, hv9, rfl, rfl, rfl⟩
    obtain rfl := Sum.inl.inj hv9
    refine aw_get (q := 12) dX6_pack_9 rfl fl_X6_73 (hDv d hd5).1 rfl (fun _ => ?_)
    refine aw_callV [vR ((30 + 8 * d) + 1)] (q := 15) dX6_pack_12 rfl ck_X0_packFrom lk_X6_186 rfl ⟨Nat.le_of_ble_eq_true rfl, Nat.le_of_ble_eq_true rfl⟩ rfl rfl hPk.1 rfl (Nat.le_of_ble_eq_true rfl) (by decide) (m_X0_packFrom (hDv d hd5).2.1 (by omega) hdo.1 (Nat.le_refl 60) hdo.2.1 hPk) rfl (fun _ _ _ h => (Vd_x h).elim) ?_
    rintro v n9 μ9 - ⟨hv9, rfl, b2, hB2, hH2, hF2⟩
    obtain rfl := Sum.inl.inj hv9
    refine aw_aload_n (q := 16) dX6_pack_15 rfl rfl rfl ?_
    refine aw_get (q := 19) dX6_pack_16 rfl fl_X6_40 ((hF2 0 (by simp only [List.mem_cons, List.not_mem_nil, or_false]; omega)).trans h0) rfl (fun _ => ?_)
    refine aw_get (q := 22) dX6_pack_19 rfl fl_X6_190 hB2.1 rfl (fun _ => ?_)
    exact aw_iret dX6_pack_22 rfl (by decide) (by decide) ⟨rfl, Or.inl ⟨ck1, b2, by rw [hid], by rw [hid]; exact CH_pk (pk' := ((packP (dv d).2.1 (dv d).2.2.1 (dv d).2.2.2.1 (dv d).1).length, b2)) hC (FrR_of hF2 (by simp only [List.mem_cons, List.not_mem_nil, or_false]; omega)) hB2, by rw [hid]; exact hH2, FrR_C (FrR_of (lo := 22) (hi := 24) hF2 (by simp only [List.mem_cons, List.not_mem_nil, or_false]; omega)) (by omega)⟩⟩
  · skip
    refine aw_callV [vI (i)] (q := 9) dX6_pack_6 rfl ck_X6_deviceOf lk_X6_69 rfl ⟨Nat.le_of_ble_eq_true rfl, Nat.le_of_ble_eq_true rfl⟩ rfl rfl h0 rfl (Nat.le_of_ble_eq_true rfl) (by decide) (m_X6_deviceOf_x h0 ck1) rfl (fun E9 n9 μ9 h9 => by obtain ⟨rfl, rfl, h8⟩ := h9; obtain rfl := Sum.inr.inj h8; exact ⟨rfl, Or.inr ⟨ck1, rfl, rfl⟩⟩) ?_
    rintro v n9 μ9 - ⟨-, -, h9⟩
    cases h9
