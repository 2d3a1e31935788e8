/-! ===== TrackRowsModel: methods that ask, and small ones that change (written by m_model2.py) ===== -/
set_option maxHeartbeats 4000000 in
set_option maxRecDepth 100000 in
theorem m_X7_time {n : Nat} {μ : AH} {th B : Int} {D : Nat} {dv : Nat → DVt} {Fn : Nat} {fv : Nat → FVt} {sv : SVt} {pk fd : Nat × (Nat → Int)} {spd lim : Int} {i s : Int} (hm : MM μ th D dv Fn fv sv pk fd spd lim) (hO : COk B D dv Fn fv sv pk fd spd lim) : AMet YX7_time [vR 82, vI (i), vI (s)] n μ (fun o n' μ' => n' = n ∧ FrR 82 101 μ μ' ∧ ∃ v : Int, o = .inl (some (vI v)) ∧ MM μ' (tx2 (0 ≤ i ∧ i < (D : Int)) (0 ≤ s ∧ s ≤ 1000000)) D dv Fn fv sv pk fd spd lim ∧ (((0 ≤ i ∧ i < (D : Int)) ∧ 0 ≤ s ∧ s ≤ 1000000) → v = tt (dv i.toNat).2.2.2.2.2.1 (dv i.toNat).2.2.2.2.2.2.1 (dv i.toNat).2.2.2.2.2.2.2 s)) := by
  refine AMet.of (by decide) rfl (Nat.le_of_ble_eq_true rfl) ?_
  obtain ⟨at7, ls7, wy7, c7, t7, F7, G7, H7, k7, a7, b7, e7, X7, Y7, y7, o7, r7, s7, u7, v7, w7, h82, h83, h84, h85, h86, h87, h88, h89, h90, h91, h92, h93, h94, h95, h96, h97, h98, h99, h100, ag1, ag2, ag3, ag4, ag5, ag6, ag7, ag8⟩ := id hm
  obtain ⟨hN, hdv, hFn, hfv, hsn, hsb, hpk, hfd, hfb, hs1, hs2, hl1, hl2⟩ := id hO
  refine aw_aload_n (q := 1) dX7_time_0 rfl rfl rfl ?_
  refine aw_iconst (q := 2) dX7_time_1 rfl (by omega) ?_
  refine aw_put (q := 5) dX7_time_2 rfl fp_X7_72 h82 (Nat.le_of_ble_eq_true rfl) trivial ?_
  refine mm_z (at' := at7) (ls' := ls7) (wy' := wy7) hm (fun μ0 hm0 hF0 => ?_)
  obtain ⟨at7, ls7, wy7, c7, t7, F7, G7, H7, k7, a7, b7, e7, X7, Y7, y7, o7, r7, s7, u7, v7, w7, h82, h83, h84, h85, h86, h87, h88, h89, h90, h91, h92, h93, h94, h95, h96, h97, h98, h99, h100, ag1, ag2, ag3, ag4, ag5, ag6, ag7, ag8⟩ := id hm0
  refine aw_aload_n (q := 6) dX7_time_5 rfl rfl rfl ?_
  refine aw_aload_n (q := 7) dX7_time_6 rfl rfl rfl ?_
  refine aw_iload_n (q := 8) dX7_time_7 rfl rfl rfl ?_
  refine aw_callV [vI (i)] (q := 11) dX7_time_8 rfl ck_X7_isDevice lk_X7_78 rfl ⟨Nat.le_of_ble_eq_true rfl, Nat.le_of_ble_eq_true rfl⟩ rfl rfl h82 rfl (Nat.le_of_ble_eq_true rfl) (by decide) (m_X7_isDevice hm0 hO) rfl (fun _ _ _ h => (Rt_x h).elim) ?_
  rintro v n9 μ9 - ⟨v9, hv9, rfl, rfl, rfl⟩
  obtain rfl := Sum.inl.inj hv9
  refine aw_if_ne (t := 18) (q := 14) dX7_time_11 rfl (by decide) (fun bc1 => ?_) (fun bc1 => ?_)
  · skip
    replace bc1 := bz_n0.mp bc1
    refine aw_iconst (q := 19) dX7_time_18 rfl (by omega) ?_
    refine aw_iconst (q := 20) dX7_time_19 rfl (by omega) ?_
    refine aw_callV [vI (0), vI (1)] (q := 23) dX7_time_20 rfl ck_X7_fails lk_X7_82 rfl ⟨Nat.le_of_ble_eq_true rfl, Nat.le_of_ble_eq_true rfl⟩ rfl rfl h82 rfl (Nat.le_of_ble_eq_true rfl) (by decide) (m_X7_fails_f h82) rfl (fun _ _ _ h => (Rt_x h).elim) ?_
    rintro v n9 μ9 - ⟨v9, hv9, rfl, rfl, rfl⟩
    obtain rfl := Sum.inl.inj hv9
    refine aw_if_ne (t := 51) (q := 26) dX7_time_23 rfl (by decide) (fun bc2 => ?_) (fun bc2 => ?_)
    · skip
      omega
    · skip
      refine aw_aload_n (q := 27) dX7_time_26 rfl rfl rfl ?_
      refine aw_iload_n (q := 28) dX7_time_27 rfl rfl rfl ?_
      refine aw_i2l (q := 29) dX7_time_28 rfl ?_
      refine aw_lconst (a := 0) (q := 30) dX7_time_29 rfl rfl (by omega) ?_
      refine aw_ldc2 (a := 1000000) (q := 33) dX7_time_30 rfl k_X7_94 (by omega) ?_
      refine aw_callS [vL (s), vL (0), vL (1000000)] (q := 36) dX7_time_33 rfl ck_X7_within lk_X7_90 rfl ⟨Nat.le_of_ble_eq_true rfl, Nat.le_of_ble_eq_true rfl⟩ rfl rfl (Nat.le_of_ble_eq_true rfl) (by decide) (m_X7_within) rfl (fun _ _ _ h => (Rt_x h).elim) ?_
      rintro v n9 μ9 - ⟨v9, hv9, rfl, rfl, rfl⟩
      obtain rfl := Sum.inl.inj hv9
      refine aw_if_ne (t := 43) (q := 39) dX7_time_36 rfl (by decide) (fun bc3 => ?_) (fun bc3 => ?_)
      · skip
        replace bc3 := bz_n0.mp bc3
        refine aw_iconst (q := 44) dX7_time_43 rfl (by omega) ?_
        refine aw_iconst (q := 45) dX7_time_44 rfl (by omega) ?_
        refine aw_callV [vI (0), vI (2)] (q := 48) dX7_time_45 rfl ck_X7_fails lk_X7_82 rfl ⟨Nat.le_of_ble_eq_true rfl, Nat.le_of_ble_eq_true rfl⟩ rfl rfl h82 rfl (Nat.le_of_ble_eq_true rfl) (by decide) (m_X7_fails_f h82) rfl (fun _ _ _ h => (Rt_x h).elim) ?_
        rintro v n9 μ9 - ⟨v9, hv9, rfl, rfl, rfl⟩
        obtain rfl := Sum.inl.inj hv9
        refine aw_if_eq (t := 53) (q := 51) dX7_time_48 rfl (by decide) (fun bc4 => ?_) (fun bc4 => ?_)
        · skip
          obtain ⟨d, hi⟩ : ∃ d : Nat, i = (d : Int) := ⟨i.toNat, by omega⟩
          have hid : i.toNat = d := by omega
          have hd5 : d < 5 := by omega
          have hcd := ag1 d hd5
          have hdo := (hdv d hd5).1
          have hc60 : (dv d).1 ≤ 60 := hdo.1
          have hk8 : (dv d).2.2.2.2.2.1 ≤ 8 := hdo.2.2.2.1
          refine aw_aload_n (q := 54) dX7_time_53 rfl rfl rfl ?_
          refine aw_iload_n (q := 55) dX7_time_54 rfl rfl rfl ?_
          refine aw_iload_n (q := 56) dX7_time_55 rfl rfl rfl ?_
          refine aw_callV [vI (i), vI (s)] (q := 59) dX7_time_56 rfl ck_X7_timeOf lk_X7_115 rfl ⟨Nat.le_of_ble_eq_true rfl, Nat.le_of_ble_eq_true rfl⟩ rfl rfl h82 rfl (Nat.le_of_ble_eq_true rfl) (by decide) (m_X7_timeOf (d := d) hi hd5 (by omega) hm0 hO) rfl (fun _ _ _ h => (Rt_x h).elim) ?_
          rintro v n9 μ9 - ⟨v9, hv9, rfl, rfl, rfl⟩
          obtain rfl := Sum.inl.inj hv9
          exact aw_iret dX7_time_59 rfl (by decide) (by decide) ⟨rfl, FrR_w hF0 (by omega) (by omega), _, rfl, by rw [tx2_0 (by omega) (by omega)]; exact hm0, fun _ => by rw [hid]⟩
        · skip
          omega
      · skip
        replace bc3 := bz_0.mp bc3
        refine aw_iconst (q := 40) dX7_time_39 rfl (by omega) ?_
        refine aw_goto (q := 44) dX7_time_40 (by decide) ?_
        refine aw_iconst (q := 45) dX7_time_44 rfl (by omega) ?_
        refine aw_callV [vI (1), vI (2)] (q := 48) dX7_time_45 rfl ck_X7_fails lk_X7_82 rfl ⟨Nat.le_of_ble_eq_true rfl, Nat.le_of_ble_eq_true rfl⟩ rfl rfl h82 rfl (Nat.le_of_ble_eq_true rfl) (by decide) (m_X7_fails_t h82 (by omega)) rfl (fun _ _ _ h => (Rt_x h).elim) ?_
        rintro v n9 μ9 - ⟨v9, hv9, rfl, rfl, rfl⟩
        obtain rfl := Sum.inl.inj hv9
        refine aw_if_eq (t := 53) (q := 51) dX7_time_48 rfl (by decide) (fun bc5 => ?_) (fun bc5 => ?_)
        · skip
          omega
        · skip
          refine aw_iconst (q := 52) dX7_time_51 rfl (by omega) ?_
          exact aw_iret dX7_time_52 rfl (by decide) (by decide) ⟨rfl, FrR_w (FrR_tr hF0 (FrR_hu FrR_rf (by omega))) (by omega) (by omega), 0, rfl, by rw [tx2_2 (by omega) (by omega)]; exact MM_o hm0, fun h9 => absurd h9 (by omega)⟩
  · skip
    replace bc1 := bz_0.mp bc1
    refine aw_iconst (q := 15) dX7_time_14 rfl (by omega) ?_
    refine aw_goto (q := 19) dX7_time_15 (by decide) ?_
    refine aw_iconst (q := 20) dX7_time_19 rfl (by omega) ?_
    refine aw_callV [vI (1), vI (1)] (q := 23) dX7_time_20 rfl ck_X7_fails lk_X7_82 rfl ⟨Nat.le_of_ble_eq_true rfl, Nat.le_of_ble_eq_true rfl⟩ rfl rfl h82 rfl (Nat.le_of_ble_eq_true rfl) (by decide) (m_X7_fails_t h82 (by omega)) rfl (fun _ _ _ h => (Rt_x h).elim) ?_
    rintro v n9 μ9 - ⟨v9, hv9, rfl, rfl, rfl⟩
    obtain rfl := Sum.inl.inj hv9
    refine aw_if_ne (t := 51) (q := 26) dX7_time_23 rfl (by decide) (fun bc6 => ?_) (fun bc6 => ?_)
    · skip
      refine aw_iconst (q := 52) dX7_time_51 rfl (by omega) ?_
      exact aw_iret dX7_time_52 rfl (by decide) (by decide) ⟨rfl, FrR_w (FrR_tr hF0 (FrR_hu FrR_rf (by omega))) (by omega) (by omega), 0, rfl, by rw [tx2_1 (by omega)]; exact MM_o hm0, fun h9 => absurd h9 (by omega)⟩
    · skip
      omega
set_option maxHeartbeats 4000000 in
set_option maxRecDepth 100000 in
theorem m_X7_jump {n : Nat} {μ : AH} {th B : Int} {D : Nat} {dv : Nat → DVt} {Fn : Nat} {fv : Nat → FVt} {sv : SVt} {pk fd : Nat × (Nat → Int)} {spd lim : Int} {i k : Int} (hm : MM μ th D dv Fn fv sv pk fd spd lim) (hO : COk B D dv Fn fv sv pk fd spd lim) : AMet YX7_jump [vR 82, vI (i), vI (k)] n μ (fun o n' μ' => n' = n ∧ FrR 82 101 μ μ' ∧ ∃ v : Int, o = .inl (some (vI v)) ∧ MM μ' (tx1 (0 ≤ i ∧ i < (D : Int))) D dv Fn fv sv pk fd spd lim ∧ ((0 ≤ i ∧ i < (D : Int)) → KthR (fun p => isJ (dv i.toNat).2.1 (dv i.toNat).2.2.1 (dv i.toNat).2.2.2.1 (dv i.toNat).2.2.2.2.2.1 (dv i.toNat).2.2.2.2.2.2.1 (dv i.toNat).2.2.2.2.2.2.2 spd p) (dv i.toNat).1 k v)) := by
  refine AMet.of (by decide) rfl (Nat.le_of_ble_eq_true rfl) ?_
  obtain ⟨at7, ls7, wy7, c7, t7, F7, G7, H7, k7, a7, b7, e7, X7, Y7, y7, o7, r7, s7, u7, v7, w7, h82, h83, h84, h85, h86, h87, h88, h89, h90, h91, h92, h93, h94, h95, h96, h97, h98, h99, h100, ag1, ag2, ag3, ag4, ag5, ag6, ag7, ag8⟩ := id hm
  obtain ⟨hN, hdv, hFn, hfv, hsn, hsb, hpk, hfd, hfb, hs1, hs2, hl1, hl2⟩ := id hO
  refine aw_aload_n (q := 1) dX7_jump_0 rfl rfl rfl ?_
  refine aw_iconst (q := 2) dX7_jump_1 rfl (by omega) ?_
  refine aw_put (q := 5) dX7_jump_2 rfl fp_X7_72 h82 (Nat.le_of_ble_eq_true rfl) trivial ?_
  refine mm_z (at' := at7) (ls' := ls7) (wy' := wy7) hm (fun μ0 hm0 hF0 => ?_)
  obtain ⟨at7, ls7, wy7, c7, t7, F7, G7, H7, k7, a7, b7, e7, X7, Y7, y7, o7, r7, s7, u7, v7, w7, h82, h83, h84, h85, h86, h87, h88, h89, h90, h91, h92, h93, h94, h95, h96, h97, h98, h99, h100, ag1, ag2, ag3, ag4, ag5, ag6, ag7, ag8⟩ := id hm0
  refine aw_aload_n (q := 6) dX7_jump_5 rfl rfl rfl ?_
  refine aw_aload_n (q := 7) dX7_jump_6 rfl rfl rfl ?_
  refine aw_iload_n (q := 8) dX7_jump_7 rfl rfl rfl ?_
  refine aw_callV [vI (i)] (q := 11) dX7_jump_8 rfl ck_X7_isDevice lk_X7_78 rfl ⟨Nat.le_of_ble_eq_true rfl, Nat.le_of_ble_eq_true rfl⟩ rfl rfl h82 rfl (Nat.le_of_ble_eq_true rfl) (by decide) (m_X7_isDevice hm0 hO) rfl (fun _ _ _ h => (Rt_x h).elim) ?_
  rintro v n9 μ9 - ⟨v9, hv9, rfl, rfl, rfl⟩
  obtain rfl := Sum.inl.inj hv9
  refine aw_if_ne (t := 18) (q := 14) dX7_jump_11 rfl (by decide) (fun bc1 => ?_) (fun bc1 => ?_)
  · skip
    replace bc1 := bz_n0.mp bc1
    refine aw_iconst (q := 19) dX7_jump_18 rfl (by omega) ?_
    refine aw_iconst (q := 20) dX7_jump_19 rfl (by omega) ?_
    refine aw_callV [vI (0), vI (1)] (q := 23) dX7_jump_20 rfl ck_X7_fails lk_X7_82 rfl ⟨Nat.le_of_ble_eq_true rfl, Nat.le_of_ble_eq_true rfl⟩ rfl rfl h82 rfl (Nat.le_of_ble_eq_true rfl) (by decide) (m_X7_fails_f h82) rfl (fun _ _ _ h => (Rt_x h).elim) ?_
    rintro v n9 μ9 - ⟨v9, hv9, rfl, rfl, rfl⟩
    obtain rfl := Sum.inl.inj hv9
    refine aw_if_eq (t := 30) (q := 26) dX7_jump_23 rfl (by decide) (fun bc2 => ?_) (fun bc2 => ?_)
    · skip
      obtain ⟨d, hi⟩ : ∃ d : Nat, i = (d : Int) := ⟨i.toNat, by omega⟩
      have hid : i.toNat = d := by omega
      have hd5 : d < 5 := by omega
      have hcd := ag1 d hd5
      have hdo := (hdv d hd5).1
      have hc60 : (dv d).1 ≤ 60 := hdo.1
      have hk8 : (dv d).2.2.2.2.2.1 ≤ 8 := hdo.2.2.2.1
      refine aw_aload_n (q := 31) dX7_jump_30 rfl rfl rfl ?_
      refine aw_iload_n (q := 32) dX7_jump_31 rfl rfl rfl ?_
      refine aw_iload_n (q := 33) dX7_jump_32 rfl rfl rfl ?_
      refine aw_iconst (q := 34) dX7_jump_33 rfl (by omega) ?_
      refine aw_callV [vI (i), vI (k), vI (1)] (q := 37) dX7_jump_34 rfl ck_X7_find lk_X7_132 rfl ⟨Nat.le_of_ble_eq_true rfl, Nat.le_of_ble_eq_true rfl⟩ rfl rfl h82 rfl (Nat.le_of_ble_eq_true rfl) (by decide) (m_X7_find_j (d := d) hi hd5 hm0 hO) rfl (fun _ _ _ h => (Rt_x h).elim) ?_
      rintro v n9 μ9 - ⟨v9, hv9, rfl, rfl, r9, rfl, hr9⟩
      obtain rfl := Sum.inl.inj hv9
      exact aw_iret dX7_jump_37 rfl (by decide) (by decide) ⟨rfl, FrR_w hF0 (by omega) (by omega), _, rfl, by rw [tx1_0 (by omega)]; exact hm0, fun _ => by rw [hid]; exact hr9⟩
    · skip
      omega
  · skip
    replace bc1 := bz_0.mp bc1
    refine aw_iconst (q := 15) dX7_jump_14 rfl (by omega) ?_
    refine aw_goto (q := 19) dX7_jump_15 (by decide) ?_
    refine aw_iconst (q := 20) dX7_jump_19 rfl (by omega) ?_
    refine aw_callV [vI (1), vI (1)] (q := 23) dX7_jump_20 rfl ck_X7_fails lk_X7_82 rfl ⟨Nat.le_of_ble_eq_true rfl, Nat.le_of_ble_eq_true rfl⟩ rfl rfl h82 rfl (Nat.le_of_ble_eq_true rfl) (by decide) (m_X7_fails_t h82 (by omega)) rfl (fun _ _ _ h => (Rt_x h).elim) ?_
    rintro v n9 μ9 - ⟨v9, hv9, rfl, rfl, rfl⟩
    obtain rfl := Sum.inl.inj hv9
    refine aw_if_eq (t := 30) (q := 26) dX7_jump_23 rfl (by decide) (fun bc3 => ?_) (fun bc3 => ?_)
    · skip
      omega
    · skip
      refine aw_iconst (q := 27) dX7_jump_26 rfl (by omega) ?_
      refine aw_goto (q := 37) dX7_jump_27 (by decide) ?_
      exact aw_iret dX7_jump_37 rfl (by decide) (by decide) ⟨rfl, FrR_w (FrR_tr hF0 (FrR_hu FrR_rf (by omega))) (by omega) (by omega), 0, rfl, by rw [tx1_1 (by omega)]; exact MM_o hm0, fun h9 => absurd h9 (by omega)⟩
set_option maxHeartbeats 4000000 in
set_option maxRecDepth 100000 in
theorem m_X7_gap {n : Nat} {μ : AH} {th B : Int} {D : Nat} {dv : Nat → DVt} {Fn : Nat} {fv : Nat → FVt} {sv : SVt} {pk fd : Nat × (Nat → Int)} {spd lim : Int} {i k : Int} (hm : MM μ th D dv Fn fv sv pk fd spd lim) (hO : COk B D dv Fn fv sv pk fd spd lim) : AMet YX7_gap [vR 82, vI (i), vI (k)] n μ (fun o n' μ' => n' = n ∧ FrR 82 101 μ μ' ∧ ∃ v : Int, o = .inl (some (vI v)) ∧ MM μ' (tx1 (0 ≤ i ∧ i < (D : Int))) D dv Fn fv sv pk fd spd lim ∧ ((0 ≤ i ∧ i < (D : Int)) → KthR (fun p => isG (dv i.toNat).2.1 (dv i.toNat).2.2.2.2.2.1 (dv i.toNat).2.2.2.2.2.2.1 (dv i.toNat).2.2.2.2.2.2.2 lim p) (dv i.toNat).1 k v)) := by
  refine AMet.of (by decide) rfl (Nat.le_of_ble_eq_true rfl) ?_
  obtain ⟨at7, ls7, wy7, c7, t7, F7, G7, H7, k7, a7, b7, e7, X7, Y7, y7, o7, r7, s7, u7, v7, w7, h82, h83, h84, h85, h86, h87, h88, h89, h90, h91, h92, h93, h94, h95, h96, h97, h98, h99, h100, ag1, ag2, ag3, ag4, ag5, ag6, ag7, ag8⟩ := id hm
  obtain ⟨hN, hdv, hFn, hfv, hsn, hsb, hpk, hfd, hfb, hs1, hs2, hl1, hl2⟩ := id hO
  refine aw_aload_n (q := 1) dX7_gap_0 rfl rfl rfl ?_
  refine aw_iconst (q := 2) dX7_gap_1 rfl (by omega) ?_
  refine aw_put (q := 5) dX7_gap_2 rfl fp_X7_72 h82 (Nat.le_of_ble_eq_true rfl) trivial ?_
  refine mm_z (at' := at7) (ls' := ls7) (wy' := wy7) hm (fun μ0 hm0 hF0 => ?_)
  obtain ⟨at7, ls7, wy7, c7, t7, F7, G7, H7, k7, a7, b7, e7, X7, Y7, y7, o7, r7, s7, u7, v7, w7, h82, h83, h84, h85, h86, h87, h88, h89, h90, h91, h92, h93, h94, h95, h96, h97, h98, h99, h100, ag1, ag2, ag3, ag4, ag5, ag6, ag7, ag8⟩ := id hm0
  refine aw_aload_n (q := 6) dX7_gap_5 rfl rfl rfl ?_
  refine aw_aload_n (q := 7) dX7_gap_6 rfl rfl rfl ?_
  refine aw_iload_n (q := 8) dX7_gap_7 rfl rfl rfl ?_
  refine aw_callV [vI (i)] (q := 11) dX7_gap_8 rfl ck_X7_isDevice lk_X7_78 rfl ⟨Nat.le_of_ble_eq_true rfl, Nat.le_of_ble_eq_true rfl⟩ rfl rfl h82 rfl (Nat.le_of_ble_eq_true rfl) (by decide) (m_X7_isDevice hm0 hO) rfl (fun _ _ _ h => (Rt_x h).elim) ?_
  rintro v n9 μ9 - ⟨v9, hv9, rfl, rfl, rfl⟩
  obtain rfl := Sum.inl.inj hv9
  refine aw_if_ne (t := 18) (q := 14) dX7_gap_11 rfl (by decide) (fun bc1 => ?_) (fun bc1 => ?_)
  · skip
    replace bc1 := bz_n0.mp bc1
    refine aw_iconst (q := 19) dX7_gap_18 rfl (by omega) ?_
    refine aw_iconst (q := 20) dX7_gap_19 rfl (by omega) ?_
    refine aw_callV [vI (0), vI (1)] (q := 23) dX7_gap_20 rfl ck_X7_fails lk_X7_82 rfl ⟨Nat.le_of_ble_eq_true rfl, Nat.le_of_ble_eq_true rfl⟩ rfl rfl h82 rfl (Nat.le_of_ble_eq_true rfl) (by decide) (m_X7_fails_f h82) rfl (fun _ _ _ h => (Rt_x h).elim) ?_
    rintro v n9 μ9 - ⟨v9, hv9, rfl, rfl, rfl⟩
    obtain rfl := Sum.inl.inj hv9
    refine aw_if_eq (t := 30) (q := 26) dX7_gap_23 rfl (by decide) (fun bc2 => ?_) (fun bc2 => ?_)
    · skip
      obtain ⟨d, hi⟩ : ∃ d : Nat, i = (d : Int) := ⟨i.toNat, by omega⟩
      have hid : i.toNat = d := by omega
      have hd5 : d < 5 := by omega
      have hcd := ag1 d hd5
      have hdo := (hdv d hd5).1
      have hc60 : (dv d).1 ≤ 60 := hdo.1
      have hk8 : (dv d).2.2.2.2.2.1 ≤ 8 := hdo.2.2.2.1
      refine aw_aload_n (q := 31) dX7_gap_30 rfl rfl rfl ?_
      refine aw_iload_n (q := 32) dX7_gap_31 rfl rfl rfl ?_
      refine aw_iload_n (q := 33) dX7_gap_32 rfl rfl rfl ?_
      refine aw_iconst (q := 34) dX7_gap_33 rfl (by omega) ?_
      refine aw_callV [vI (i), vI (k), vI (0)] (q := 37) dX7_gap_34 rfl ck_X7_find lk_X7_132 rfl ⟨Nat.le_of_ble_eq_true rfl, Nat.le_of_ble_eq_true rfl⟩ rfl rfl h82 rfl (Nat.le_of_ble_eq_true rfl) (by decide) (m_X7_find_g (d := d) hi hd5 hm0 hO) rfl (fun _ _ _ h => (Rt_x h).elim) ?_
      rintro v n9 μ9 - ⟨v9, hv9, rfl, rfl, r9, rfl, hr9⟩
      obtain rfl := Sum.inl.inj hv9
      exact aw_iret dX7_gap_37 rfl (by decide) (by decide) ⟨rfl, FrR_w hF0 (by omega) (by omega), _, rfl, by rw [tx1_0 (by omega)]; exact hm0, fun _ => by rw [hid]; exact hr9⟩
    · skip
      omega
  · skip
    replace bc1 := bz_0.mp bc1
    refine aw_iconst (q := 15) dX7_gap_14 rfl (by omega) ?_
    refine aw_goto (q := 19) dX7_gap_15 (by decide) ?_
    refine aw_iconst (q := 20) dX7_gap_19 rfl (by omega) ?_
    refine aw_callV [vI (1), vI (1)] (q := 23) dX7_gap_20 rfl ck_X7_fails lk_X7_82 rfl ⟨Nat.le_of_ble_eq_true rfl, Nat.le_of_ble_eq_true rfl⟩ rfl rfl h82 rfl (Nat.le_of_ble_eq_true rfl) (by decide) (m_X7_fails_t h82 (by omega)) rfl (fun _ _ _ h => (Rt_x h).elim) ?_
    rintro v n9 μ9 - ⟨v9, hv9, rfl, rfl, rfl⟩
    obtain rfl := Sum.inl.inj hv9
    refine aw_if_eq (t := 30) (q := 26) dX7_gap_23 rfl (by decide) (fun bc3 => ?_) (fun bc3 => ?_)
    · skip
      omega
    · skip
      refine aw_iconst (q := 27) dX7_gap_26 rfl (by omega) ?_
      refine aw_goto (q := 37) dX7_gap_27 (by decide) ?_
      exact aw_iret dX7_gap_37 rfl (by decide) (by decide) ⟨rfl, FrR_w (FrR_tr hF0 (FrR_hu FrR_rf (by omega))) (by omega) (by omega), 0, rfl, by rw [tx1_1 (by omega)]; exact MM_o hm0, fun h9 => absurd h9 (by omega)⟩
set_option maxHeartbeats 4000000 in
set_option maxRecDepth 100000 in
theorem m_X7_has {n : Nat} {μ : AH} {th B : Int} {D : Nat} {dv : Nat → DVt} {Fn : Nat} {fv : Nat → FVt} {sv : SVt} {pk fd : Nat × (Nat → Int)} {spd lim : Int} {i w : Int} (hm : MM μ th D dv Fn fv sv pk fd spd lim) (hO : COk B D dv Fn fv sv pk fd spd lim) : AMet YX7_has [vR 82, vI (i), vI (w)] n μ (fun o n' μ' => n' = n ∧ FrR 82 101 μ μ' ∧ ∃ v : Int, o = .inl (some (vI v)) ∧ MM μ' (tx2 (0 ≤ i ∧ i < (D : Int)) (0 ≤ w ∧ w ≤ 4)) D dv Fn fv sv pk fd spd lim ∧ (((0 ≤ i ∧ i < (D : Int)) ∧ 0 ≤ w ∧ w ≤ 4) → v = hasV (dv i.toNat) spd lim w)) := by
  refine AMet.of (by decide) rfl (Nat.le_of_ble_eq_true rfl) ?_
  obtain ⟨at7, ls7, wy7, c7, t7, F7, G7, H7, k7, a7, b7, e7, X7, Y7, y7, o7, r7, s7, u7, v7, w7, h82, h83, h84, h85, h86, h87, h88, h89, h90, h91, h92, h93, h94, h95, h96, h97, h98, h99, h100, ag1, ag2, ag3, ag4, ag5, ag6, ag7, ag8⟩ := id hm
  obtain ⟨hN, hdv, hFn, hfv, hsn, hsb, hpk, hfd, hfb, hs1, hs2, hl1, hl2⟩ := id hO
  refine aw_aload_n (q := 1) dX7_has_0 rfl rfl rfl ?_
  refine aw_iconst (q := 2) dX7_has_1 rfl (by omega) ?_
  refine aw_put (q := 5) dX7_has_2 rfl fp_X7_72 h82 (Nat.le_of_ble_eq_true rfl) trivial ?_
  refine mm_z (at' := at7) (ls' := ls7) (wy' := wy7) hm (fun μ0 hm0 hF0 => ?_)
  obtain ⟨at7, ls7, wy7, c7, t7, F7, G7, H7, k7, a7, b7, e7, X7, Y7, y7, o7, r7, s7, u7, v7, w7, h82, h83, h84, h85, h86, h87, h88, h89, h90, h91, h92, h93, h94, h95, h96, h97, h98, h99, h100, ag1, ag2, ag3, ag4, ag5, ag6, ag7, ag8⟩ := id hm0
  refine aw_aload_n (q := 6) dX7_has_5 rfl rfl rfl ?_
  refine aw_aload_n (q := 7) dX7_has_6 rfl rfl rfl ?_
  refine aw_iload_n (q := 8) dX7_has_7 rfl rfl rfl ?_
  refine aw_callV [vI (i)] (q := 11) dX7_has_8 rfl ck_X7_isDevice lk_X7_78 rfl ⟨Nat.le_of_ble_eq_true rfl, Nat.le_of_ble_eq_true rfl⟩ rfl rfl h82 rfl (Nat.le_of_ble_eq_true rfl) (by decide) (m_X7_isDevice hm0 hO) rfl (fun _ _ _ h => (Rt_x h).elim) ?_
  rintro v n9 μ9 - ⟨v9, hv9, rfl, rfl, rfl⟩
  obtain rfl := Sum.inl.inj hv9
  refine aw_if_ne (t := 18) (q := 14) dX7_has_11 rfl (by decide) (fun bc1 => ?_) (fun bc1 => ?_)
  · skip
    replace bc1 := bz_n0.mp bc1
    refine aw_iconst (q := 19) dX7_has_18 rfl (by omega) ?_
    refine aw_iconst (q := 20) dX7_has_19 rfl (by omega) ?_
    refine aw_callV [vI (0), vI (1)] (q := 23) dX7_has_20 rfl ck_X7_fails lk_X7_82 rfl ⟨Nat.le_of_ble_eq_true rfl, Nat.le_of_ble_eq_true rfl⟩ rfl rfl h82 rfl (Nat.le_of_ble_eq_true rfl) (by decide) (m_X7_fails_f h82) rfl (fun _ _ _ h => (Rt_x h).elim) ?_
    rintro v n9 μ9 - ⟨v9, hv9, rfl, rfl, rfl⟩
    obtain rfl := Sum.inl.inj hv9
    refine aw_if_ne (t := 51) (q := 26) dX7_has_23 rfl (by decide) (fun bc2 => ?_) (fun bc2 => ?_)
    · skip
      omega
    · skip
      refine aw_aload_n (q := 27) dX7_has_26 rfl rfl rfl ?_
      refine aw_iload_n (q := 28) dX7_has_27 rfl rfl rfl ?_
      refine aw_i2l (q := 29) dX7_has_28 rfl ?_
      refine aw_lconst (a := 0) (q := 30) dX7_has_29 rfl rfl (by omega) ?_
      refine aw_ldc2 (a := 4) (q := 33) dX7_has_30 rfl k_X7_104 (by omega) ?_
      refine aw_callS [vL (w), vL (0), vL (4)] (q := 36) dX7_has_33 rfl ck_X7_within lk_X7_90 rfl ⟨Nat.le_of_ble_eq_true rfl, Nat.le_of_ble_eq_true rfl⟩ rfl rfl (Nat.le_of_ble_eq_true rfl) (by decide) (m_X7_within) rfl (fun _ _ _ h => (Rt_x h).elim) ?_
      rintro v n9 μ9 - ⟨v9, hv9, rfl, rfl, rfl⟩
      obtain rfl := Sum.inl.inj hv9
      refine aw_if_ne (t := 43) (q := 39) dX7_has_36 rfl (by decide) (fun bc3 => ?_) (fun bc3 => ?_)
      · skip
        replace bc3 := bz_n0.mp bc3
        refine aw_iconst (q := 44) dX7_has_43 rfl (by omega) ?_
        refine aw_iconst (q := 45) dX7_has_44 rfl (by omega) ?_
        refine aw_callV [vI (0), vI (2)] (q := 48) dX7_has_45 rfl ck_X7_fails lk_X7_82 rfl ⟨Nat.le_of_ble_eq_true rfl, Nat.le_of_ble_eq_true rfl⟩ rfl rfl h82 rfl (Nat.le_of_ble_eq_true rfl) (by decide) (m_X7_fails_f h82) rfl (fun _ _ _ h => (Rt_x h).elim) ?_
        rintro v n9 μ9 - ⟨v9, hv9, rfl, rfl, rfl⟩
        obtain rfl := Sum.inl.inj hv9
        refine aw_if_eq (t := 53) (q := 51) dX7_has_48 rfl (by decide) (fun bc4 => ?_) (fun bc4 => ?_)
        · skip
          obtain ⟨d, hi⟩ : ∃ d : Nat, i = (d : Int) := ⟨i.toNat, by omega⟩
          have hid : i.toNat = d := by omega
          have hd5 : d < 5 := by omega
          have hcd := ag1 d hd5
          have hdo := (hdv d hd5).1
          have hc60 : (dv d).1 ≤ 60 := hdo.1
          have hk8 : (dv d).2.2.2.2.2.1 ≤ 8 := hdo.2.2.2.1
          refine aw_iload_n (q := 54) dX7_has_53 rfl rfl rfl ?_
          by_cases w0 : w = 0
          · skip
            refine aw_tsIn (t := 84) (off := 30) dX7_has_54 (by omega) (by omega) (by first | rfl | (rw [show w = 0 by omega]; rfl)) (by decide) ?_
            refine aw_aload_n (q := 85) dX7_has_84 rfl rfl rfl ?_
            refine aw_get (q := 88) dX7_has_85 rfl fl_X7_7 h82 rfl (fun _ => ?_)
            refine aw_iload_n (q := 89) dX7_has_88 rfl rfl rfl ?_
            refine aw_iaload (j := d) (q := 90) dX7_has_89 rfl h83 (by omega) (by omega) (fun r5 => ?_)
            exact aw_iret dX7_has_90 rfl (by decide) (by decide) ⟨rfl, FrR_w hF0 (by omega) (by omega), _, rfl, by rw [tx2_0 (by omega) (by omega)]; exact hm0, fun _ => by rw [hid]; unfold hasV; rw [if_pos w0]; omega⟩
          · skip
            by_cases w1 : w = 1
            · skip
              refine aw_tsIn (t := 91) (off := 37) dX7_has_54 (by omega) (by omega) (by first | rfl | (rw [show w = 1 by omega]; rfl)) (by decide) ?_
              refine aw_aload_n (q := 92) dX7_has_91 rfl rfl rfl ?_
              refine aw_get (q := 95) dX7_has_92 rfl fl_X7_13 h82 rfl (fun _ => ?_)
              refine aw_iload_n (q := 96) dX7_has_95 rfl rfl rfl ?_
              refine aw_iaload (j := d) (q := 97) dX7_has_96 rfl h84 (by omega) (by omega) (fun r6 => ?_)
              exact aw_iret dX7_has_97 rfl (by decide) (by decide) ⟨rfl, FrR_w hF0 (by omega) (by omega), _, rfl, by rw [tx2_0 (by omega) (by omega)]; exact hm0, fun _ => by rw [hid]; unfold hasV; rw [if_neg w0]; rw [if_pos w1]; omega⟩
            · skip
              by_cases w2 : w = 2
              · skip
                refine aw_tsIn (t := 98) (off := 44) dX7_has_54 (by omega) (by omega) (by first | rfl | (rw [show w = 2 by omega]; rfl)) (by decide) ?_
                refine aw_aload_n (q := 99) dX7_has_98 rfl rfl rfl ?_
                refine aw_get (q := 102) dX7_has_99 rfl fl_X7_25 h82 rfl (fun _ => ?_)
                refine aw_iload_n (q := 103) dX7_has_102 rfl rfl rfl ?_
                refine aw_iaload (j := d) (q := 104) dX7_has_103 rfl h88 (by omega) (by omega) (fun r7 => ?_)
                exact aw_iret dX7_has_104 rfl (by decide) (by decide) ⟨rfl, FrR_w hF0 (by omega) (by omega), _, rfl, by rw [tx2_0 (by omega) (by omega)]; exact hm0, fun _ => by rw [hid]; unfold hasV; rw [if_neg w0]; rw [if_neg w1]; rw [if_pos w2]; omega⟩
              · skip
                by_cases w3 : w = 3
                · skip
                  refine aw_tsIn (t := 105) (off := 51) dX7_has_54 (by omega) (by omega) (by first | rfl | (rw [show w = 3 by omega]; rfl)) (by decide) ?_
                  refine aw_aload_n (q := 106) dX7_has_105 rfl rfl rfl ?_
                  refine aw_iload_n (q := 107) dX7_has_106 rfl rfl rfl ?_
                  refine aw_iconst (q := 108) dX7_has_107 rfl (by omega) ?_
                  refine aw_callV [vI (i), vI (1)] (q := 111) dX7_has_108 rfl ck_X7_countOf lk_X7_106 rfl ⟨Nat.le_of_ble_eq_true rfl, Nat.le_of_ble_eq_true rfl⟩ rfl rfl h82 rfl (Nat.le_of_ble_eq_true rfl) (by decide) (m_X7_countOf_j (d := d) hi hd5 hm0 hO) rfl (fun _ _ _ h => (Rt_x h).elim) ?_
                  rintro v n9 μ9 - ⟨v9, hv9, rfl, rfl, rfl⟩
                  obtain rfl := Sum.inl.inj hv9
                  exact aw_iret dX7_has_111 rfl (by decide) (by decide) ⟨rfl, FrR_w hF0 (by omega) (by omega), _, rfl, by rw [tx2_0 (by omega) (by omega)]; exact hm0, fun _ => by rw [hid]; unfold hasV; rw [if_neg w0]; rw [if_neg w1]; rw [if_neg w2]; rw [if_pos w3]⟩
                · skip
                  refine aw_tsOut (t := 112) dX7_has_54 (by omega) (by decide) ?_
                  refine aw_aload_n (q := 113) dX7_has_112 rfl rfl rfl ?_
                  refine aw_iload_n (q := 114) dX7_has_113 rfl rfl rfl ?_
                  refine aw_iconst (q := 115) dX7_has_114 rfl (by omega) ?_
                  refine aw_callV [vI (i), vI (0)] (q := 118) dX7_has_115 rfl ck_X7_countOf lk_X7_106 rfl ⟨Nat.le_of_ble_eq_true rfl, Nat.le_of_ble_eq_true rfl⟩ rfl rfl h82 rfl (Nat.le_of_ble_eq_true rfl) (by decide) (m_X7_countOf_g (d := d) hi hd5 hm0 hO) rfl (fun _ _ _ h => (Rt_x h).elim) ?_
                  rintro v n9 μ9 - ⟨v9, hv9, rfl, rfl, rfl⟩
                  obtain rfl := Sum.inl.inj hv9
                  exact aw_iret dX7_has_118 rfl (by decide) (by decide) ⟨rfl, FrR_w hF0 (by omega) (by omega), _, rfl, by rw [tx2_0 (by omega) (by omega)]; exact hm0, fun _ => by rw [hid]; unfold hasV; rw [if_neg w0]; rw [if_neg w1]; rw [if_neg w2]; rw [if_neg w3]; skip⟩
        · skip
          omega
      · skip
        replace bc3 := bz_0.mp bc3
        refine aw_iconst (q := 40) dX7_has_39 rfl (by omega) ?_
        refine aw_goto (q := 44) dX7_has_40 (by decide) ?_
        refine aw_iconst (q := 45) dX7_has_44 rfl (by omega) ?_
        refine aw_callV [vI (1), vI (2)] (q := 48) dX7_has_45 rfl ck_X7_fails lk_X7_82 rfl ⟨Nat.le_of_ble_eq_true rfl, Nat.le_of_ble_eq_true rfl⟩ rfl rfl h82 rfl (Nat.le_of_ble_eq_true rfl) (by decide) (m_X7_fails_t h82 (by omega)) rfl (fun _ _ _ h => (Rt_x h).elim) ?_
        rintro v n9 μ9 - ⟨v9, hv9, rfl, rfl, rfl⟩
        obtain rfl := Sum.inl.inj hv9
        refine aw_if_eq (t := 53) (q := 51) dX7_has_48 rfl (by decide) (fun bc8 => ?_) (fun bc8 => ?_)
        · skip
          omega
        · skip
          refine aw_iconst (q := 52) dX7_has_51 rfl (by omega) ?_
          exact aw_iret dX7_has_52 rfl (by decide) (by decide) ⟨rfl, FrR_w (FrR_tr hF0 (FrR_hu FrR_rf (by omega))) (by omega) (by omega), 0, rfl, by rw [tx2_2 (by omega) (by omega)]; exact MM_o hm0, fun h9 => absurd h9 (by omega)⟩
  · skip
    replace bc1 := bz_0.mp bc1
    refine aw_iconst (q := 15) dX7_has_14 rfl (by omega) ?_
    refine aw_goto (q := 19) dX7_has_15 (by decide) ?_
    refine aw_iconst (q := 20) dX7_has_19 rfl (by omega) ?_
    refine aw_callV [vI (1), vI (1)] (q := 23) dX7_has_20 rfl ck_X7_fails lk_X7_82 rfl ⟨Nat.le_of_ble_eq_true rfl, Nat.le_of_ble_eq_true rfl⟩ rfl rfl h82 rfl (Nat.le_of_ble_eq_true rfl) (by decide) (m_X7_fails_t h82 (by omega)) rfl (fun _ _ _ h => (Rt_x h).elim) ?_
    rintro v n9 μ9 - ⟨v9, hv9, rfl, rfl, rfl⟩
    obtain rfl := Sum.inl.inj hv9
    refine aw_if_ne (t := 51) (q := 26) dX7_has_23 rfl (by decide) (fun bc9 => ?_) (fun bc9 => ?_)
    · skip
      refine aw_iconst (q := 52) dX7_has_51 rfl (by omega) ?_
      exact aw_iret dX7_has_52 rfl (by decide) (by decide) ⟨rfl, FrR_w (FrR_tr hF0 (FrR_hu FrR_rf (by omega))) (by omega) (by omega), 0, rfl, by rw [tx2_1 (by omega)]; exact MM_o hm0, fun h9 => absurd h9 (by omega)⟩
    · skip
      omega
set_option maxHeartbeats 4000000 in
set_option maxRecDepth 100000 in
theorem m_X7_at {n : Nat} {μ : AH} {th B : Int} {D : Nat} {dv : Nat → DVt} {Fn : Nat} {fv : Nat → FVt} {sv : SVt} {pk fd : Nat × (Nat → Int)} {spd lim : Int} {i p w : Int} (hm : MM μ th D dv Fn fv sv pk fd spd lim) (hO : COk B D dv Fn fv sv pk fd spd lim) : AMet YX7_at [vR 82, vI (i), vI (p), vI (w)] n μ (fun o n' μ' => n' = n ∧ FrR 82 101 μ μ' ∧ ∃ v : Int, o = .inl (some (vI v)) ∧ MM μ' (tx2 ((0 ≤ i ∧ i < (D : Int)) ∧ 0 ≤ p ∧ p < ((dv i.toNat).1 : Int)) (0 ≤ w ∧ w ≤ 3)) D dv Fn fv sv pk fd spd lim ∧ ((((0 ≤ i ∧ i < (D : Int)) ∧ 0 ≤ p ∧ p < ((dv i.toNat).1 : Int)) ∧ 0 ≤ w ∧ w ≤ 3) → v = atV (dv i.toNat) p w)) := by
  refine AMet.of (by decide) rfl (Nat.le_of_ble_eq_true rfl) ?_
  obtain ⟨at7, ls7, wy7, c7, t7, F7, G7, H7, k7, a7, b7, e7, X7, Y7, y7, o7, r7, s7, u7, v7, w7, h82, h83, h84, h85, h86, h87, h88, h89, h90, h91, h92, h93, h94, h95, h96, h97, h98, h99, h100, ag1, ag2, ag3, ag4, ag5, ag6, ag7, ag8⟩ := id hm
  obtain ⟨hN, hdv, hFn, hfv, hsn, hsb, hpk, hfd, hfb, hs1, hs2, hl1, hl2⟩ := id hO
  refine aw_aload_n (q := 1) dX7_at_0 rfl rfl rfl ?_
  refine aw_iconst (q := 2) dX7_at_1 rfl (by omega) ?_
  refine aw_put (q := 5) dX7_at_2 rfl fp_X7_72 h82 (Nat.le_of_ble_eq_true rfl) trivial ?_
  refine mm_z (at' := at7) (ls' := ls7) (wy' := wy7) hm (fun μ0 hm0 hF0 => ?_)
  obtain ⟨at7, ls7, wy7, c7, t7, F7, G7, H7, k7, a7, b7, e7, X7, Y7, y7, o7, r7, s7, u7, v7, w7, h82, h83, h84, h85, h86, h87, h88, h89, h90, h91, h92, h93, h94, h95, h96, h97, h98, h99, h100, ag1, ag2, ag3, ag4, ag5, ag6, ag7, ag8⟩ := id hm0
  refine aw_aload_n (q := 6) dX7_at_5 rfl rfl rfl ?_
  refine aw_aload_n (q := 7) dX7_at_6 rfl rfl rfl ?_
  refine aw_iload_n (q := 8) dX7_at_7 rfl rfl rfl ?_
  refine aw_iload_n (q := 9) dX7_at_8 rfl rfl rfl ?_
  refine aw_callV [vI (i), vI (p)] (q := 12) dX7_at_9 rfl ck_X7_isPlace lk_X7_110 rfl ⟨Nat.le_of_ble_eq_true rfl, Nat.le_of_ble_eq_true rfl⟩ rfl rfl h82 rfl (Nat.le_of_ble_eq_true rfl) (by decide) (m_X7_isPlace hm0 hO) rfl (fun _ _ _ h => (Rt_x h).elim) ?_
  rintro v n9 μ9 - ⟨v9, hv9, rfl, rfl, rfl⟩
  obtain rfl := Sum.inl.inj hv9
  refine aw_if_ne (t := 19) (q := 15) dX7_at_12 rfl (by decide) (fun bc1 => ?_) (fun bc1 => ?_)
  · skip
    replace bc1 := bz_n0.mp bc1
    refine aw_iconst (q := 20) dX7_at_19 rfl (by omega) ?_
    refine aw_iconst (q := 21) dX7_at_20 rfl (by omega) ?_
    refine aw_callV [vI (0), vI (1)] (q := 24) dX7_at_21 rfl ck_X7_fails lk_X7_82 rfl ⟨Nat.le_of_ble_eq_true rfl, Nat.le_of_ble_eq_true rfl⟩ rfl rfl h82 rfl (Nat.le_of_ble_eq_true rfl) (by decide) (m_X7_fails_f h82) rfl (fun _ _ _ h => (Rt_x h).elim) ?_
    rintro v n9 μ9 - ⟨v9, hv9, rfl, rfl, rfl⟩
    obtain rfl := Sum.inl.inj hv9
    refine aw_if_ne (t := 52) (q := 27) dX7_at_24 rfl (by decide) (fun bc2 => ?_) (fun bc2 => ?_)
    · skip
      omega
    · skip
      refine aw_aload_n (q := 28) dX7_at_27 rfl rfl rfl ?_
      refine aw_iload_n (q := 29) dX7_at_28 rfl rfl rfl ?_
      refine aw_i2l (q := 30) dX7_at_29 rfl ?_
      refine aw_lconst (a := 0) (q := 31) dX7_at_30 rfl rfl (by omega) ?_
      refine aw_ldc2 (a := 3) (q := 34) dX7_at_31 rfl k_X7_113 (by omega) ?_
      refine aw_callS [vL (w), vL (0), vL (3)] (q := 37) dX7_at_34 rfl ck_X7_within lk_X7_90 rfl ⟨Nat.le_of_ble_eq_true rfl, Nat.le_of_ble_eq_true rfl⟩ rfl rfl (Nat.le_of_ble_eq_true rfl) (by decide) (m_X7_within) rfl (fun _ _ _ h => (Rt_x h).elim) ?_
      rintro v n9 μ9 - ⟨v9, hv9, rfl, rfl, rfl⟩
      obtain rfl := Sum.inl.inj hv9
      refine aw_if_ne (t := 44) (q := 40) dX7_at_37 rfl (by decide) (fun bc3 => ?_) (fun bc3 => ?_)
      · skip
        replace bc3 := bz_n0.mp bc3
        refine aw_iconst (q := 45) dX7_at_44 rfl (by omega) ?_
        refine aw_iconst (q := 46) dX7_at_45 rfl (by omega) ?_
        refine aw_callV [vI (0), vI (2)] (q := 49) dX7_at_46 rfl ck_X7_fails lk_X7_82 rfl ⟨Nat.le_of_ble_eq_true rfl, Nat.le_of_ble_eq_true rfl⟩ rfl rfl h82 rfl (Nat.le_of_ble_eq_true rfl) (by decide) (m_X7_fails_f h82) rfl (fun _ _ _ h => (Rt_x h).elim) ?_
        rintro v n9 μ9 - ⟨v9, hv9, rfl, rfl, rfl⟩
        obtain rfl := Sum.inl.inj hv9
        refine aw_if_eq (t := 54) (q := 52) dX7_at_49 rfl (by decide) (fun bc4 => ?_) (fun bc4 => ?_)
        · skip
          obtain ⟨d, hi⟩ : ∃ d : Nat, i = (d : Int) := ⟨i.toNat, by omega⟩
          have hid : i.toNat = d := by omega
          have hd5 : d < 5 := by omega
          have hcd := ag1 d hd5
          have hdo := (hdv d hd5).1
          have hc60 : (dv d).1 ≤ 60 := hdo.1
          have hk8 : (dv d).2.2.2.2.2.1 ≤ 8 := hdo.2.2.2.1
          have hplc : (0 ≤ i ∧ i < (D : Int)) ∧ 0 ≤ p ∧ p < ((dv i.toNat).1 : Int) := by assumption
          rw [hid] at hplc
          obtain ⟨r, hp⟩ : ∃ r : Nat, p = (r : Int) := ⟨p.toNat, by omega⟩
          have hr : r < (dv d).1 := by omega
          have hpr : p.toNat = r := by omega
          have hag := ag2 d r hd5 hr
          have hbr := hdo.2.1 r hr
          refine aw_bipush (q := 56) dX7_at_54 rfl (by decide) (by omega) ?_
          refine aw_iload_n (q := 57) dX7_at_56 rfl rfl rfl ?_
          refine aw_imul (q := 58) dX7_at_57 rfl (by omega) ?_
          refine aw_iload_n (q := 59) dX7_at_58 rfl rfl rfl ?_
          refine aw_iadd (q := 60) dX7_at_59 rfl (by omega) ?_
          refine aw_istore (q := 62) dX7_at_60 rfl (by decide) ?_
          refine aw_iload_n (q := 63) dX7_at_62 rfl rfl rfl ?_
          refine aw_if_ne (t := 76) (q := 66) dX7_at_63 rfl (by decide) (fun bc5 => ?_) (fun bc5 => ?_)
          · skip
            refine aw_iload_n (q := 77) dX7_at_76 rfl rfl rfl ?_
            refine aw_iconst (q := 78) dX7_at_77 rfl (by omega) ?_
            refine aw_ic_ne (t := 91) (q := 81) dX7_at_78 rfl (by decide) (fun bc6 => ?_) (fun bc6 => ?_)
            · skip
              refine aw_iload_n (q := 92) dX7_at_91 rfl rfl rfl ?_
              refine aw_iconst (q := 93) dX7_at_92 rfl (by omega) ?_
              refine aw_ic_ne (t := 106) (q := 96) dX7_at_93 rfl (by decide) (fun bc7 => ?_) (fun bc7 => ?_)
              · skip
                refine aw_aload_n (q := 107) dX7_at_106 rfl rfl rfl ?_
                refine aw_iload_n (q := 108) dX7_at_107 rfl rfl rfl ?_
                refine aw_aload_n (q := 109) dX7_at_108 rfl rfl rfl ?_
                refine aw_get (q := 112) dX7_at_109 rfl fl_X7_16 h82 rfl (fun _ => ?_)
                refine aw_iload (q := 114) dX7_at_112 rfl rfl ?_
                refine aw_iaload (j := 60 * d + r) (q := 115) dX7_at_114 rfl h85 (by omega) (by omega) (fun r8 => ?_)
                rw [hag.1]
                refine aw_callV [vI (i), vI ((dv d).2.1 r)] (q := 118) dX7_at_115 rfl ck_X7_timeOf lk_X7_115 rfl ⟨Nat.le_of_ble_eq_true rfl, Nat.le_of_ble_eq_true rfl⟩ rfl rfl h82 rfl (Nat.le_of_ble_eq_true rfl) (by decide) (m_X7_timeOf (d := d) hi hd5 (by omega) hm0 hO) rfl (fun _ _ _ h => (Rt_x h).elim) ?_
                rintro v n9 μ9 - ⟨v9, hv9, rfl, rfl, rfl⟩
                obtain rfl := Sum.inl.inj hv9
                exact aw_iret dX7_at_118 rfl (by decide) (by decide) ⟨rfl, FrR_w hF0 (by omega) (by omega), _, rfl, by rw [tx2_0 (by assumption) (by omega)]; exact hm0, fun _ => by unfold atV; rw [hid, hpr]; rw [if_neg (by omega)]; rw [if_neg (by omega)]; rw [if_neg (by omega)]; skip⟩
              · skip
                refine aw_aload_n (q := 97) dX7_at_96 rfl rfl rfl ?_
                refine aw_get (q := 100) dX7_at_97 rfl fl_X7_22 h82 rfl (fun _ => ?_)
                refine aw_iload (q := 102) dX7_at_100 rfl rfl ?_
                refine aw_iaload (j := 60 * d + r) (q := 103) dX7_at_102 rfl h87 (by omega) (by omega) (fun r9 => ?_)
                rw [hag.2.2]
                refine aw_goto (q := 118) dX7_at_103 (by decide) ?_
                exact aw_iret dX7_at_118 rfl (by decide) (by decide) ⟨rfl, FrR_w hF0 (by omega) (by omega), _, rfl, by rw [tx2_0 (by assumption) (by omega)]; exact hm0, fun _ => by unfold atV; rw [hid, hpr]; rw [if_neg (by omega)]; rw [if_neg (by omega)]; rw [if_pos (by omega)]⟩
            · skip
              refine aw_aload_n (q := 82) dX7_at_81 rfl rfl rfl ?_
              refine aw_get (q := 85) dX7_at_82 rfl fl_X7_19 h82 rfl (fun _ => ?_)
              refine aw_iload (q := 87) dX7_at_85 rfl rfl ?_
              refine aw_iaload (j := 60 * d + r) (q := 88) dX7_at_87 rfl h86 (by omega) (by omega) (fun r10 => ?_)
              rw [hag.2.1]
              refine aw_goto (q := 118) dX7_at_88 (by decide) ?_
              exact aw_iret dX7_at_118 rfl (by decide) (by decide) ⟨rfl, FrR_w hF0 (by omega) (by omega), _, rfl, by rw [tx2_0 (by assumption) (by omega)]; exact hm0, fun _ => by unfold atV; rw [hid, hpr]; rw [if_neg (by omega)]; rw [if_pos (by omega)]⟩
          · skip
            refine aw_aload_n (q := 67) dX7_at_66 rfl rfl rfl ?_
            refine aw_get (q := 70) dX7_at_67 rfl fl_X7_16 h82 rfl (fun _ => ?_)
            refine aw_iload (q := 72) dX7_at_70 rfl rfl ?_
            refine aw_iaload (j := 60 * d + r) (q := 73) dX7_at_72 rfl h85 (by omega) (by omega) (fun r11 => ?_)
            rw [hag.1]
            refine aw_goto (q := 118) dX7_at_73 (by decide) ?_
            exact aw_iret dX7_at_118 rfl (by decide) (by decide) ⟨rfl, FrR_w hF0 (by omega) (by omega), _, rfl, by rw [tx2_0 (by assumption) (by omega)]; exact hm0, fun _ => by unfold atV; rw [hid, hpr]; rw [if_pos (by omega)]⟩
        · skip
          omega
      · skip
        replace bc3 := bz_0.mp bc3
        refine aw_iconst (q := 41) dX7_at_40 rfl (by omega) ?_
        refine aw_goto (q := 45) dX7_at_41 (by decide) ?_
        refine aw_iconst (q := 46) dX7_at_45 rfl (by omega) ?_
        refine aw_callV [vI (1), vI (2)] (q := 49) dX7_at_46 rfl ck_X7_fails lk_X7_82 rfl ⟨Nat.le_of_ble_eq_true rfl, Nat.le_of_ble_eq_true rfl⟩ rfl rfl h82 rfl (Nat.le_of_ble_eq_true rfl) (by decide) (m_X7_fails_t h82 (by omega)) rfl (fun _ _ _ h => (Rt_x h).elim) ?_
        rintro v n9 μ9 - ⟨v9, hv9, rfl, rfl, rfl⟩
        obtain rfl := Sum.inl.inj hv9
        refine aw_if_eq (t := 54) (q := 52) dX7_at_49 rfl (by decide) (fun bc12 => ?_) (fun bc12 => ?_)
        · skip
          omega
        · skip
          refine aw_iconst (q := 53) dX7_at_52 rfl (by omega) ?_
          exact aw_iret dX7_at_53 rfl (by decide) (by decide) ⟨rfl, FrR_w (FrR_tr hF0 (FrR_hu FrR_rf (by omega))) (by omega) (by omega), 0, rfl, by rw [tx2_2 (by assumption) (by omega)]; exact MM_o hm0, fun h9 => absurd h9 (by omega)⟩
  · skip
    replace bc1 := bz_0.mp bc1
    refine aw_iconst (q := 16) dX7_at_15 rfl (by omega) ?_
    refine aw_goto (q := 20) dX7_at_16 (by decide) ?_
    refine aw_iconst (q := 21) dX7_at_20 rfl (by omega) ?_
    refine aw_callV [vI (1), vI (1)] (q := 24) dX7_at_21 rfl ck_X7_fails lk_X7_82 rfl ⟨Nat.le_of_ble_eq_true rfl, Nat.le_of_ble_eq_true rfl⟩ rfl rfl h82 rfl (Nat.le_of_ble_eq_true rfl) (by decide) (m_X7_fails_t h82 (by omega)) rfl (fun _ _ _ h => (Rt_x h).elim) ?_
    rintro v n9 μ9 - ⟨v9, hv9, rfl, rfl, rfl⟩
    obtain rfl := Sum.inl.inj hv9
    refine aw_if_ne (t := 52) (q := 27) dX7_at_24 rfl (by decide) (fun bc13 => ?_) (fun bc13 => ?_)
    · skip
      refine aw_iconst (q := 53) dX7_at_52 rfl (by omega) ?_
      exact aw_iret dX7_at_53 rfl (by decide) (by decide) ⟨rfl, FrR_w (FrR_tr hF0 (FrR_hu FrR_rf (by omega))) (by omega) (by omega), 0, rfl, by rw [tx2_1 (by assumption)]; exact MM_o hm0, fun h9 => absurd h9.1 (by assumption)⟩
    · skip
      omega
set_option maxHeartbeats 4000000 in
set_option maxRecDepth 100000 in
theorem m_X7_told {n : Nat} {μ : AH} {th B : Int} {D : Nat} {dv : Nat → DVt} {Fn : Nat} {fv : Nat → FVt} {sv : SVt} {pk fd : Nat × (Nat → Int)} {spd lim : Int} {w : Int} (hm : MM μ th D dv Fn fv sv pk fd spd lim) (hO : COk B D dv Fn fv sv pk fd spd lim) : AMet YX7_told [vR 82, vI (w)] n μ (fun o n' μ' => n' = n ∧ FrR 82 101 μ μ' ∧ ∃ v : Int, o = .inl (some (vI v)) ∧ MM μ' (tx1 (0 ≤ w ∧ w ≤ 6)) D dv Fn fv sv pk fd spd lim ∧ ((0 ≤ w ∧ w ≤ 6) → v = toldV D Fn sv.1 pk.1 fd.1 spd lim w)) := by
  refine AMet.of (by decide) rfl (Nat.le_of_ble_eq_true rfl) ?_
  obtain ⟨at7, ls7, wy7, c7, t7, F7, G7, H7, k7, a7, b7, e7, X7, Y7, y7, o7, r7, s7, u7, v7, w7, h82, h83, h84, h85, h86, h87, h88, h89, h90, h91, h92, h93, h94, h95, h96, h97, h98, h99, h100, ag1, ag2, ag3, ag4, ag5, ag6, ag7, ag8⟩ := id hm
  obtain ⟨hN, hdv, hFn, hfv, hsn, hsb, hpk, hfd, hfb, hs1, hs2, hl1, hl2⟩ := id hO
  refine aw_aload_n (q := 1) dX7_told_0 rfl rfl rfl ?_
  refine aw_iconst (q := 2) dX7_told_1 rfl (by omega) ?_
  refine aw_put (q := 5) dX7_told_2 rfl fp_X7_72 h82 (Nat.le_of_ble_eq_true rfl) trivial ?_
  refine mm_z (at' := at7) (ls' := ls7) (wy' := wy7) hm (fun μ0 hm0 hF0 => ?_)
  obtain ⟨at7, ls7, wy7, c7, t7, F7, G7, H7, k7, a7, b7, e7, X7, Y7, y7, o7, r7, s7, u7, v7, w7, h82, h83, h84, h85, h86, h87, h88, h89, h90, h91, h92, h93, h94, h95, h96, h97, h98, h99, h100, ag1, ag2, ag3, ag4, ag5, ag6, ag7, ag8⟩ := id hm0
  refine aw_aload_n (q := 6) dX7_told_5 rfl rfl rfl ?_
  refine aw_iload_n (q := 7) dX7_told_6 rfl rfl rfl ?_
  refine aw_i2l (q := 8) dX7_told_7 rfl ?_
  refine aw_lconst (a := 0) (q := 9) dX7_told_8 rfl rfl (by omega) ?_
  refine aw_ldc2 (a := 6) (q := 12) dX7_told_9 rfl k_X7_212 (by omega) ?_
  refine aw_callS [vL (w), vL (0), vL (6)] (q := 15) dX7_told_12 rfl ck_X7_within lk_X7_90 rfl ⟨Nat.le_of_ble_eq_true rfl, Nat.le_of_ble_eq_true rfl⟩ rfl rfl (Nat.le_of_ble_eq_true rfl) (by decide) (m_X7_within) rfl (fun _ _ _ h => (Rt_x h).elim) ?_
  rintro v n9 μ9 - ⟨v9, hv9, rfl, rfl, rfl⟩
  obtain rfl := Sum.inl.inj hv9
  refine aw_if_ne (t := 22) (q := 18) dX7_told_15 rfl (by decide) (fun bc1 => ?_) (fun bc1 => ?_)
  · skip
    replace bc1 := bz_n0.mp bc1
    refine aw_iconst (q := 23) dX7_told_22 rfl (by omega) ?_
    refine aw_iconst (q := 24) dX7_told_23 rfl (by omega) ?_
    refine aw_callV [vI (0), vI (1)] (q := 27) dX7_told_24 rfl ck_X7_fails lk_X7_82 rfl ⟨Nat.le_of_ble_eq_true rfl, Nat.le_of_ble_eq_true rfl⟩ rfl rfl h82 rfl (Nat.le_of_ble_eq_true rfl) (by decide) (m_X7_fails_f h82) rfl (fun _ _ _ h => (Rt_x h).elim) ?_
    rintro v n9 μ9 - ⟨v9, hv9, rfl, rfl, rfl⟩
    obtain rfl := Sum.inl.inj hv9
    refine aw_if_eq (t := 32) (q := 30) dX7_told_27 rfl (by decide) (fun bc2 => ?_) (fun bc2 => ?_)
    · skip
      refine aw_iload_n (q := 33) dX7_told_32 rfl rfl rfl ?_
      refine aw_if_ne (t := 43) (q := 36) dX7_told_33 rfl (by decide) (fun bc3 => ?_) (fun bc3 => ?_)
      · skip
        refine aw_iload_n (q := 44) dX7_told_43 rfl rfl rfl ?_
        refine aw_iconst (q := 45) dX7_told_44 rfl (by omega) ?_
        refine aw_ic_ne (t := 55) (q := 48) dX7_told_45 rfl (by decide) (fun bc4 => ?_) (fun bc4 => ?_)
        · skip
          refine aw_iload_n (q := 56) dX7_told_55 rfl rfl rfl ?_
          refine aw_iconst (q := 57) dX7_told_56 rfl (by omega) ?_
          refine aw_ic_ne (t := 67) (q := 60) dX7_told_57 rfl (by decide) (fun bc5 => ?_) (fun bc5 => ?_)
          · skip
            refine aw_iload_n (q := 68) dX7_told_67 rfl rfl rfl ?_
            refine aw_iconst (q := 69) dX7_told_68 rfl (by omega) ?_
            refine aw_ic_ne (t := 79) (q := 72) dX7_told_69 rfl (by decide) (fun bc6 => ?_) (fun bc6 => ?_)
            · skip
              refine aw_iload_n (q := 80) dX7_told_79 rfl rfl rfl ?_
              refine aw_iconst (q := 81) dX7_told_80 rfl (by omega) ?_
              refine aw_ic_ne (t := 91) (q := 84) dX7_told_81 rfl (by decide) (fun bc7 => ?_) (fun bc7 => ?_)
              · skip
                refine aw_iload_n (q := 92) dX7_told_91 rfl rfl rfl ?_
                refine aw_iconst (q := 93) dX7_told_92 rfl (by omega) ?_
                refine aw_ic_ne (t := 103) (q := 96) dX7_told_93 rfl (by decide) (fun bc8 => ?_) (fun bc8 => ?_)
                · skip
                  refine aw_aload_n (q := 104) dX7_told_103 rfl rfl rfl ?_
                  refine aw_get (q := 107) dX7_told_104 rfl fl_X7_38 h82 rfl (fun _ => ?_)
                  exact aw_iret dX7_told_107 rfl (by decide) (by decide) ⟨rfl, FrR_w hF0 (by omega) (by omega), _, rfl, by rw [tx1_0 (by omega)]; exact hm0, fun _ => by unfold toldV; repeat (first | rw [if_pos (by omega)] | rw [if_neg (by omega)])⟩
                · skip
                  refine aw_aload_n (q := 97) dX7_told_96 rfl rfl rfl ?_
                  refine aw_get (q := 100) dX7_told_97 rfl fl_X7_34 h82 rfl (fun _ => ?_)
                  refine aw_goto (q := 107) dX7_told_100 (by decide) ?_
                  exact aw_iret dX7_told_107 rfl (by decide) (by decide) ⟨rfl, FrR_w hF0 (by omega) (by omega), _, rfl, by rw [tx1_0 (by omega)]; exact hm0, fun _ => by unfold toldV; repeat (first | rw [if_pos (by omega)] | rw [if_neg (by omega)])⟩
              · skip
                refine aw_aload_n (q := 85) dX7_told_84 rfl rfl rfl ?_
                refine aw_get (q := 88) dX7_told_85 rfl fl_X7_168 h82 rfl (fun _ => ?_)
                refine aw_goto (q := 107) dX7_told_88 (by decide) ?_
                exact aw_iret dX7_told_107 rfl (by decide) (by decide) ⟨rfl, FrR_w hF0 (by omega) (by omega), _, rfl, by rw [tx1_0 (by omega)]; exact hm0, fun _ => by unfold toldV; repeat (first | rw [if_pos (by omega)] | rw [if_neg (by omega)])⟩
            · skip
              refine aw_aload_n (q := 73) dX7_told_72 rfl rfl rfl ?_
              refine aw_get (q := 76) dX7_told_73 rfl fl_X7_159 h82 rfl (fun _ => ?_)
              refine aw_goto (q := 107) dX7_told_76 (by decide) ?_
              exact aw_iret dX7_told_107 rfl (by decide) (by decide) ⟨rfl, FrR_w hF0 (by omega) (by omega), _, rfl, by rw [tx1_0 (by omega)]; exact hm0, fun _ => by unfold toldV; repeat (first | rw [if_pos (by omega)] | rw [if_neg (by omega)])⟩
          · skip
            refine aw_aload_n (q := 61) dX7_told_60 rfl rfl rfl ?_
            refine aw_get (q := 64) dX7_told_61 rfl fl_X7_189 h82 rfl (fun _ => ?_)
            refine aw_goto (q := 107) dX7_told_64 (by decide) ?_
            exact aw_iret dX7_told_107 rfl (by decide) (by decide) ⟨rfl, FrR_w hF0 (by omega) (by omega), _, rfl, by rw [tx1_0 (by omega)]; exact hm0, fun _ => by unfold toldV; repeat (first | rw [if_pos (by omega)] | rw [if_neg (by omega)])⟩
        · skip
          refine aw_aload_n (q := 49) dX7_told_48 rfl rfl rfl ?_
          refine aw_get (q := 52) dX7_told_49 rfl fl_X7_153 h82 rfl (fun _ => ?_)
          refine aw_goto (q := 107) dX7_told_52 (by decide) ?_
          exact aw_iret dX7_told_107 rfl (by decide) (by decide) ⟨rfl, FrR_w hF0 (by omega) (by omega), _, rfl, by rw [tx1_0 (by omega)]; exact hm0, fun _ => by unfold toldV; repeat (first | rw [if_pos (by omega)] | rw [if_neg (by omega)])⟩
      · skip
        refine aw_aload_n (q := 37) dX7_told_36 rfl rfl rfl ?_
        refine aw_get (q := 40) dX7_told_37 rfl fl_X7_75 h82 rfl (fun _ => ?_)
        refine aw_goto (q := 107) dX7_told_40 (by decide) ?_
        exact aw_iret dX7_told_107 rfl (by decide) (by decide) ⟨rfl, FrR_w hF0 (by omega) (by omega), _, rfl, by rw [tx1_0 (by omega)]; exact hm0, fun _ => by unfold toldV; repeat (first | rw [if_pos (by omega)] | rw [if_neg (by omega)])⟩
    · skip
      omega
  · skip
    replace bc1 := bz_0.mp bc1
    refine aw_iconst (q := 19) dX7_told_18 rfl (by omega) ?_
    refine aw_goto (q := 23) dX7_told_19 (by decide) ?_
    refine aw_iconst (q := 24) dX7_told_23 rfl (by omega) ?_
    refine aw_callV [vI (1), vI (1)] (q := 27) dX7_told_24 rfl ck_X7_fails lk_X7_82 rfl ⟨Nat.le_of_ble_eq_true rfl, Nat.le_of_ble_eq_true rfl⟩ rfl rfl h82 rfl (Nat.le_of_ble_eq_true rfl) (by decide) (m_X7_fails_t h82 (by omega)) rfl (fun _ _ _ h => (Rt_x h).elim) ?_
    rintro v n9 μ9 - ⟨v9, hv9, rfl, rfl, rfl⟩
    obtain rfl := Sum.inl.inj hv9
    refine aw_if_eq (t := 32) (q := 30) dX7_told_27 rfl (by decide) (fun bc9 => ?_) (fun bc9 => ?_)
    · skip
      omega
    · skip
      refine aw_iconst (q := 31) dX7_told_30 rfl (by omega) ?_
      exact aw_iret dX7_told_31 rfl (by decide) (by decide) ⟨rfl, FrR_w (FrR_tr hF0 (FrR_hu FrR_rf (by omega))) (by omega) (by omega), 0, rfl, by rw [tx1_1 (by omega)]; exact MM_o hm0, fun h9 => absurd h9 (by omega)⟩
set_option maxHeartbeats 4000000 in
set_option maxRecDepth 100000 in
theorem m_X7_byteAt {n : Nat} {μ : AH} {th B : Int} {D : Nat} {dv : Nat → DVt} {Fn : Nat} {fv : Nat → FVt} {sv : SVt} {pk fd : Nat × (Nat → Int)} {spd lim : Int} {i : Int} (hm : MM μ th D dv Fn fv sv pk fd spd lim) (hO : COk B D dv Fn fv sv pk fd spd lim) : AMet YX7_byteAt [vR 82, vI (i)] n μ (fun o n' μ' => n' = n ∧ FrR 82 101 μ μ' ∧ ∃ v : Int, o = .inl (some (vI v)) ∧ MM μ' (tx1 (0 ≤ i ∧ i < (pk.1 : Int))) D dv Fn fv sv pk fd spd lim ∧ ((0 ≤ i ∧ i < (pk.1 : Int)) → v = pk.2 i.toNat)) := by
  refine AMet.of (by decide) rfl (Nat.le_of_ble_eq_true rfl) ?_
  obtain ⟨at7, ls7, wy7, c7, t7, F7, G7, H7, k7, a7, b7, e7, X7, Y7, y7, o7, r7, s7, u7, v7, w7, h82, h83, h84, h85, h86, h87, h88, h89, h90, h91, h92, h93, h94, h95, h96, h97, h98, h99, h100, ag1, ag2, ag3, ag4, ag5, ag6, ag7, ag8⟩ := id hm
  obtain ⟨hN, hdv, hFn, hfv, hsn, hsb, hpk, hfd, hfb, hs1, hs2, hl1, hl2⟩ := id hO
  refine aw_aload_n (q := 1) dX7_byteAt_0 rfl rfl rfl ?_
  refine aw_iconst (q := 2) dX7_byteAt_1 rfl (by omega) ?_
  refine aw_put (q := 5) dX7_byteAt_2 rfl fp_X7_72 h82 (Nat.le_of_ble_eq_true rfl) trivial ?_
  refine mm_z (at' := at7) (ls' := ls7) (wy' := wy7) hm (fun μ0 hm0 hF0 => ?_)
  obtain ⟨at7, ls7, wy7, c7, t7, F7, G7, H7, k7, a7, b7, e7, X7, Y7, y7, o7, r7, s7, u7, v7, w7, h82, h83, h84, h85, h86, h87, h88, h89, h90, h91, h92, h93, h94, h95, h96, h97, h98, h99, h100, ag1, ag2, ag3, ag4, ag5, ag6, ag7, ag8⟩ := id hm0
  refine aw_aload_n (q := 6) dX7_byteAt_5 rfl rfl rfl ?_
  refine aw_iload_n (q := 7) dX7_byteAt_6 rfl rfl rfl ?_
  refine aw_if_lt (t := 18) (q := 10) dX7_byteAt_7 rfl (by decide) (fun bc1 => ?_) (fun bc1 => ?_)
  · skip
    refine aw_iconst (q := 19) dX7_byteAt_18 rfl (by omega) ?_
    refine aw_goto (q := 23) dX7_byteAt_19 (by decide) ?_
    refine aw_iconst (q := 24) dX7_byteAt_23 rfl (by omega) ?_
    refine aw_callV [vI (1), vI (1)] (q := 27) dX7_byteAt_24 rfl ck_X7_fails lk_X7_82 rfl ⟨Nat.le_of_ble_eq_true rfl, Nat.le_of_ble_eq_true rfl⟩ rfl rfl h82 rfl (Nat.le_of_ble_eq_true rfl) (by decide) (m_X7_fails_t h82 (by omega)) rfl (fun _ _ _ h => (Rt_x h).elim) ?_
    rintro v n9 μ9 - ⟨v9, hv9, rfl, rfl, rfl⟩
    obtain rfl := Sum.inl.inj hv9
    refine aw_if_eq (t := 34) (q := 30) dX7_byteAt_27 rfl (by decide) (fun bc2 => ?_) (fun bc2 => ?_)
    · skip
      omega
    · skip
      refine aw_iconst (q := 31) dX7_byteAt_30 rfl (by omega) ?_
      refine aw_goto (q := 40) dX7_byteAt_31 (by decide) ?_
      exact aw_iret dX7_byteAt_40 rfl (by decide) (by decide) ⟨rfl, FrR_w (FrR_tr hF0 (FrR_hu FrR_rf (by omega))) (by omega) (by omega), 0, rfl, by rw [tx1_1 (by omega)]; exact MM_o hm0, fun h9 => absurd h9 (by omega)⟩
  · skip
    refine aw_iload_n (q := 11) dX7_byteAt_10 rfl rfl rfl ?_
    refine aw_aload_n (q := 12) dX7_byteAt_11 rfl rfl rfl ?_
    refine aw_get (q := 15) dX7_byteAt_12 rfl fl_X7_159 h82 rfl (fun _ => ?_)
    refine aw_ic_lt (t := 22) (q := 18) dX7_byteAt_15 rfl (by decide) (fun bc3 => ?_) (fun bc3 => ?_)
    · skip
      refine aw_iconst (q := 23) dX7_byteAt_22 rfl (by omega) ?_
      refine aw_iconst (q := 24) dX7_byteAt_23 rfl (by omega) ?_
      refine aw_callV [vI (0), vI (1)] (q := 27) dX7_byteAt_24 rfl ck_X7_fails lk_X7_82 rfl ⟨Nat.le_of_ble_eq_true rfl, Nat.le_of_ble_eq_true rfl⟩ rfl rfl h82 rfl (Nat.le_of_ble_eq_true rfl) (by decide) (m_X7_fails_f h82) rfl (fun _ _ _ h => (Rt_x h).elim) ?_
      rintro v n9 μ9 - ⟨v9, hv9, rfl, rfl, rfl⟩
      obtain rfl := Sum.inl.inj hv9
      refine aw_if_eq (t := 34) (q := 30) dX7_byteAt_27 rfl (by decide) (fun bc4 => ?_) (fun bc4 => ?_)
      · skip
        obtain ⟨j, hj⟩ : ∃ j : Nat, i = (j : Int) := ⟨i.toNat, by omega⟩
        refine aw_aload_n (q := 35) dX7_byteAt_34 rfl rfl rfl ?_
        refine aw_get (q := 38) dX7_byteAt_35 rfl fl_X7_50 h82 rfl (fun _ => ?_)
        refine aw_iload_n (q := 39) dX7_byteAt_38 rfl rfl rfl ?_
        refine aw_iaload (j := j) (q := 40) dX7_byteAt_39 rfl h94 (by omega) (by omega) (fun r5 => ?_)
        rw [ag6 j (by omega)]
        exact aw_iret dX7_byteAt_40 rfl (by decide) (by decide) ⟨rfl, FrR_w hF0 (by omega) (by omega), _, rfl, by rw [tx1_0 (by omega)]; exact hm0, fun _ => by rw [show i.toNat = j by omega]⟩
      · skip
        omega
    · skip
      refine aw_iconst (q := 19) dX7_byteAt_18 rfl (by omega) ?_
      refine aw_goto (q := 23) dX7_byteAt_19 (by decide) ?_
      refine aw_iconst (q := 24) dX7_byteAt_23 rfl (by omega) ?_
      refine aw_callV [vI (1), vI (1)] (q := 27) dX7_byteAt_24 rfl ck_X7_fails lk_X7_82 rfl ⟨Nat.le_of_ble_eq_true rfl, Nat.le_of_ble_eq_true rfl⟩ rfl rfl h82 rfl (Nat.le_of_ble_eq_true rfl) (by decide) (m_X7_fails_t h82 (by omega)) rfl (fun _ _ _ h => (Rt_x h).elim) ?_
      rintro v n9 μ9 - ⟨v9, hv9, rfl, rfl, rfl⟩
      obtain rfl := Sum.inl.inj hv9
      refine aw_if_eq (t := 34) (q := 30) dX7_byteAt_27 rfl (by decide) (fun bc6 => ?_) (fun bc6 => ?_)
      · skip
        omega
      · skip
        refine aw_iconst (q := 31) dX7_byteAt_30 rfl (by omega) ?_
        refine aw_goto (q := 40) dX7_byteAt_31 (by decide) ?_
        exact aw_iret dX7_byteAt_40 rfl (by decide) (by decide) ⟨rfl, FrR_w (FrR_tr hF0 (FrR_hu FrR_rf (by omega))) (by omega) (by omega), 0, rfl, by rw [tx1_1 (by omega)]; exact MM_o hm0, fun h9 => absurd h9 (by omega)⟩
set_option maxHeartbeats 4000000 in
set_option maxRecDepth 100000 in
theorem m_X7_device {n : Nat} {μ : AH} {th B : Int} {D : Nat} {dv : Nat → DVt} {Fn : Nat} {fv : Nat → FVt} {sv : SVt} {pk fd : Nat × (Nat → Int)} {spd lim : Int}  (hm : MM μ th D dv Fn fv sv pk fd spd lim) (hO : COk B D dv Fn fv sv pk fd spd lim) : AMet YX7_device [vR 82] n μ (fun o n' μ' => n' = n ∧ FrR 82 101 μ μ' ∧ ∃ v : Int, o = .inl (some (vI v)) ∧ (((D < 5) ∧ MM μ' 0 (D + 1) dv Fn fv sv pk fd spd lim ∧ v = (D : Int)) ∨ (¬ (D < 5) ∧ MM μ' 1 D dv Fn fv sv pk fd spd lim))) := by
  refine AMet.of (by decide) rfl (Nat.le_of_ble_eq_true rfl) ?_
  obtain ⟨at7, ls7, wy7, c7, t7, F7, G7, H7, k7, a7, b7, e7, X7, Y7, y7, o7, r7, s7, u7, v7, w7, h82, h83, h84, h85, h86, h87, h88, h89, h90, h91, h92, h93, h94, h95, h96, h97, h98, h99, h100, ag1, ag2, ag3, ag4, ag5, ag6, ag7, ag8⟩ := id hm
  obtain ⟨hN, hdv, hFn, hfv, hsn, hsb, hpk, hfd, hfb, hs1, hs2, hl1, hl2⟩ := id hO
  refine aw_aload_n (q := 1) dX7_device_0 rfl rfl rfl ?_
  refine aw_iconst (q := 2) dX7_device_1 rfl (by omega) ?_
  refine aw_put (q := 5) dX7_device_2 rfl fp_X7_72 h82 (Nat.le_of_ble_eq_true rfl) trivial ?_
  refine mm_z (at' := at7) (ls' := ls7) (wy' := wy7) hm (fun μ0 hm0 hF0 => ?_)
  obtain ⟨at7, ls7, wy7, c7, t7, F7, G7, H7, k7, a7, b7, e7, X7, Y7, y7, o7, r7, s7, u7, v7, w7, h82, h83, h84, h85, h86, h87, h88, h89, h90, h91, h92, h93, h94, h95, h96, h97, h98, h99, h100, ag1, ag2, ag3, ag4, ag5, ag6, ag7, ag8⟩ := id hm0
  refine aw_aload_n (q := 6) dX7_device_5 rfl rfl rfl ?_
  refine aw_aload_n (q := 7) dX7_device_6 rfl rfl rfl ?_
  refine aw_get (q := 10) dX7_device_7 rfl fl_X7_75 h82 rfl (fun _ => ?_)
  refine aw_iconst (q := 11) dX7_device_10 rfl (by omega) ?_
  refine aw_ic_ne (t := 18) (q := 14) dX7_device_11 rfl (by decide) (fun bc1 => ?_) (fun bc1 => ?_)
  · skip
    refine aw_iconst (q := 19) dX7_device_18 rfl (by omega) ?_
    refine aw_iconst (q := 20) dX7_device_19 rfl (by omega) ?_
    refine aw_callV [vI (0), vI (1)] (q := 23) dX7_device_20 rfl ck_X7_fails lk_X7_82 rfl ⟨Nat.le_of_ble_eq_true rfl, Nat.le_of_ble_eq_true rfl⟩ rfl rfl h82 rfl (Nat.le_of_ble_eq_true rfl) (by decide) (m_X7_fails_f h82) rfl (fun _ _ _ h => (Rt_x h).elim) ?_
    rintro v n9 μ9 - ⟨v9, hv9, rfl, rfl, rfl⟩
    obtain rfl := Sum.inl.inj hv9
    refine aw_if_eq (t := 28) (q := 26) dX7_device_23 rfl (by decide) (fun bc2 => ?_) (fun bc2 => ?_)
    · skip
      refine aw_aload_n (q := 29) dX7_device_28 rfl rfl rfl ?_
      refine aw_dup (q := 30) dX7_device_29 rfl rfl ?_
      refine aw_get (q := 33) dX7_device_30 rfl fl_X7_75 h82 rfl (fun _ => ?_)
      refine aw_iconst (q := 34) dX7_device_33 rfl (by omega) ?_
      refine aw_iadd (q := 35) dX7_device_34 rfl (by omega) ?_
      refine aw_put (q := 38) dX7_device_35 rfl fp_X7_75 h82 (Nat.le_of_ble_eq_true rfl) trivial ?_
      refine aw_aload_n (q := 39) dX7_device_38 rfl rfl rfl ?_
      refine aw_get (q := 42) dX7_device_39 rfl fl_X7_75 hu_s rfl (fun _ => ?_)
      refine aw_iconst (q := 43) dX7_device_42 rfl (by omega) ?_
      refine aw_isub (q := 44) dX7_device_43 rfl (by omega) ?_
      exact aw_iret dX7_device_44 rfl (by decide) (by decide) ⟨rfl, FrR_w (FrR_tr hF0 (FrR_hu FrR_rf (by omega))) (by omega) (by omega), _, rfl, Or.inl ⟨by omega, MM_o hm0, by omega⟩⟩
    · skip
      omega
  · skip
    refine aw_iconst (q := 15) dX7_device_14 rfl (by omega) ?_
    refine aw_goto (q := 19) dX7_device_15 (by decide) ?_
    refine aw_iconst (q := 20) dX7_device_19 rfl (by omega) ?_
    refine aw_callV [vI (1), vI (1)] (q := 23) dX7_device_20 rfl ck_X7_fails lk_X7_82 rfl ⟨Nat.le_of_ble_eq_true rfl, Nat.le_of_ble_eq_true rfl⟩ rfl rfl h82 rfl (Nat.le_of_ble_eq_true rfl) (by decide) (m_X7_fails_t h82 (by omega)) rfl (fun _ _ _ h => (Rt_x h).elim) ?_
    rintro v n9 μ9 - ⟨v9, hv9, rfl, rfl, rfl⟩
    obtain rfl := Sum.inl.inj hv9
    refine aw_if_eq (t := 28) (q := 26) dX7_device_23 rfl (by decide) (fun bc3 => ?_) (fun bc3 => ?_)
    · skip
      omega
    · skip
      refine aw_iconst (q := 27) dX7_device_26 rfl (by omega) ?_
      exact aw_iret dX7_device_27 rfl (by decide) (by decide) ⟨rfl, FrR_w (FrR_tr hF0 (FrR_hu FrR_rf (by omega))) (by omega) (by omega), 0, rfl, Or.inr ⟨by omega, MM_o hm0⟩⟩
set_option maxHeartbeats 4000000 in
set_option maxRecDepth 100000 in
theorem m_X7_fence {n : Nat} {μ : AH} {th B : Int} {D : Nat} {dv : Nat → DVt} {Fn : Nat} {fv : Nat → FVt} {sv : SVt} {pk fd : Nat × (Nat → Int)} {spd lim : Int}  (hm : MM μ th D dv Fn fv sv pk fd spd lim) (hO : COk B D dv Fn fv sv pk fd spd lim) : AMet YX7_fence [vR 82] n μ (fun o n' μ' => n' = n ∧ FrR 82 101 μ μ' ∧ ∃ v : Int, o = .inl (some (vI v)) ∧ (((Fn < 4) ∧ MM μ' 0 D dv (Fn + 1) fv sv pk fd spd lim ∧ v = (Fn : Int)) ∨ (¬ (Fn < 4) ∧ MM μ' 1 D dv Fn fv sv pk fd spd lim))) := by
  refine AMet.of (by decide) rfl (Nat.le_of_ble_eq_true rfl) ?_
  obtain ⟨at7, ls7, wy7, c7, t7, F7, G7, H7, k7, a7, b7, e7, X7, Y7, y7, o7, r7, s7, u7, v7, w7, h82, h83, h84, h85, h86, h87, h88, h89, h90, h91, h92, h93, h94, h95, h96, h97, h98, h99, h100, ag1, ag2, ag3, ag4, ag5, ag6, ag7, ag8⟩ := id hm
  obtain ⟨hN, hdv, hFn, hfv, hsn, hsb, hpk, hfd, hfb, hs1, hs2, hl1, hl2⟩ := id hO
  refine aw_aload_n (q := 1) dX7_fence_0 rfl rfl rfl ?_
  refine aw_iconst (q := 2) dX7_fence_1 rfl (by omega) ?_
  refine aw_put (q := 5) dX7_fence_2 rfl fp_X7_72 h82 (Nat.le_of_ble_eq_true rfl) trivial ?_
  refine mm_z (at' := at7) (ls' := ls7) (wy' := wy7) hm (fun μ0 hm0 hF0 => ?_)
  obtain ⟨at7, ls7, wy7, c7, t7, F7, G7, H7, k7, a7, b7, e7, X7, Y7, y7, o7, r7, s7, u7, v7, w7, h82, h83, h84, h85, h86, h87, h88, h89, h90, h91, h92, h93, h94, h95, h96, h97, h98, h99, h100, ag1, ag2, ag3, ag4, ag5, ag6, ag7, ag8⟩ := id hm0
  refine aw_aload_n (q := 6) dX7_fence_5 rfl rfl rfl ?_
  refine aw_aload_n (q := 7) dX7_fence_6 rfl rfl rfl ?_
  refine aw_get (q := 10) dX7_fence_7 rfl fl_X7_153 h82 rfl (fun _ => ?_)
  refine aw_iconst (q := 11) dX7_fence_10 rfl (by omega) ?_
  refine aw_ic_ne (t := 18) (q := 14) dX7_fence_11 rfl (by decide) (fun bc1 => ?_) (fun bc1 => ?_)
  · skip
    refine aw_iconst (q := 19) dX7_fence_18 rfl (by omega) ?_
    refine aw_iconst (q := 20) dX7_fence_19 rfl (by omega) ?_
    refine aw_callV [vI (0), vI (1)] (q := 23) dX7_fence_20 rfl ck_X7_fails lk_X7_82 rfl ⟨Nat.le_of_ble_eq_true rfl, Nat.le_of_ble_eq_true rfl⟩ rfl rfl h82 rfl (Nat.le_of_ble_eq_true rfl) (by decide) (m_X7_fails_f h82) rfl (fun _ _ _ h => (Rt_x h).elim) ?_
    rintro v n9 μ9 - ⟨v9, hv9, rfl, rfl, rfl⟩
    obtain rfl := Sum.inl.inj hv9
    refine aw_if_eq (t := 28) (q := 26) dX7_fence_23 rfl (by decide) (fun bc2 => ?_) (fun bc2 => ?_)
    · skip
      refine aw_aload_n (q := 29) dX7_fence_28 rfl rfl rfl ?_
      refine aw_dup (q := 30) dX7_fence_29 rfl rfl ?_
      refine aw_get (q := 33) dX7_fence_30 rfl fl_X7_153 h82 rfl (fun _ => ?_)
      refine aw_iconst (q := 34) dX7_fence_33 rfl (by omega) ?_
      refine aw_iadd (q := 35) dX7_fence_34 rfl (by omega) ?_
      refine aw_put (q := 38) dX7_fence_35 rfl fp_X7_153 h82 (Nat.le_of_ble_eq_true rfl) trivial ?_
      refine aw_aload_n (q := 39) dX7_fence_38 rfl rfl rfl ?_
      refine aw_get (q := 42) dX7_fence_39 rfl fl_X7_153 hu_s rfl (fun _ => ?_)
      refine aw_iconst (q := 43) dX7_fence_42 rfl (by omega) ?_
      refine aw_isub (q := 44) dX7_fence_43 rfl (by omega) ?_
      exact aw_iret dX7_fence_44 rfl (by decide) (by decide) ⟨rfl, FrR_w (FrR_tr hF0 (FrR_hu FrR_rf (by omega))) (by omega) (by omega), _, rfl, Or.inl ⟨by omega, MM_o hm0, by omega⟩⟩
    · skip
      omega
  · skip
    refine aw_iconst (q := 15) dX7_fence_14 rfl (by omega) ?_
    refine aw_goto (q := 19) dX7_fence_15 (by decide) ?_
    refine aw_iconst (q := 20) dX7_fence_19 rfl (by omega) ?_
    refine aw_callV [vI (1), vI (1)] (q := 23) dX7_fence_20 rfl ck_X7_fails lk_X7_82 rfl ⟨Nat.le_of_ble_eq_true rfl, Nat.le_of_ble_eq_true rfl⟩ rfl rfl h82 rfl (Nat.le_of_ble_eq_true rfl) (by decide) (m_X7_fails_t h82 (by omega)) rfl (fun _ _ _ h => (Rt_x h).elim) ?_
    rintro v n9 μ9 - ⟨v9, hv9, rfl, rfl, rfl⟩
    obtain rfl := Sum.inl.inj hv9
    refine aw_if_eq (t := 28) (q := 26) dX7_fence_23 rfl (by decide) (fun bc3 => ?_) (fun bc3 => ?_)
    · skip
      omega
    · skip
      refine aw_iconst (q := 27) dX7_fence_26 rfl (by omega) ?_
      exact aw_iret dX7_fence_27 rfl (by decide) (by decide) ⟨rfl, FrR_w (FrR_tr hF0 (FrR_hu FrR_rf (by omega))) (by omega) (by omega), 0, rfl, Or.inr ⟨by omega, MM_o hm0⟩⟩
set_option maxHeartbeats 4000000 in
set_option maxRecDepth 100000 in
theorem m_X7_speed {n : Nat} {μ : AH} {th B : Int} {D : Nat} {dv : Nat → DVt} {Fn : Nat} {fv : Nat → FVt} {sv : SVt} {pk fd : Nat × (Nat → Int)} {spd lim : Int} {x : Int} (hm : MM μ th D dv Fn fv sv pk fd spd lim) (hO : COk B D dv Fn fv sv pk fd spd lim) : AMet YX7_speed [vR 82, vI (x)] n μ (fun o n' μ' => n' = n ∧ FrR 82 101 μ μ' ∧ ∃ v : Int, o = .inl (some (vI v)) ∧ (((1 ≤ x ∧ x ≤ 100) ∧ MM μ' 0 D dv Fn fv sv pk fd x lim ∧ v = spd) ∨ (¬ (1 ≤ x ∧ x ≤ 100) ∧ MM μ' 1 D dv Fn fv sv pk fd spd lim))) := by
  refine AMet.of (by decide) rfl (Nat.le_of_ble_eq_true rfl) ?_
  obtain ⟨at7, ls7, wy7, c7, t7, F7, G7, H7, k7, a7, b7, e7, X7, Y7, y7, o7, r7, s7, u7, v7, w7, h82, h83, h84, h85, h86, h87, h88, h89, h90, h91, h92, h93, h94, h95, h96, h97, h98, h99, h100, ag1, ag2, ag3, ag4, ag5, ag6, ag7, ag8⟩ := id hm
  obtain ⟨hN, hdv, hFn, hfv, hsn, hsb, hpk, hfd, hfb, hs1, hs2, hl1, hl2⟩ := id hO
  refine aw_aload_n (q := 1) dX7_speed_0 rfl rfl rfl ?_
  refine aw_iconst (q := 2) dX7_speed_1 rfl (by omega) ?_
  refine aw_put (q := 5) dX7_speed_2 rfl fp_X7_72 h82 (Nat.le_of_ble_eq_true rfl) trivial ?_
  refine mm_z (at' := at7) (ls' := ls7) (wy' := wy7) hm (fun μ0 hm0 hF0 => ?_)
  obtain ⟨at7, ls7, wy7, c7, t7, F7, G7, H7, k7, a7, b7, e7, X7, Y7, y7, o7, r7, s7, u7, v7, w7, h82, h83, h84, h85, h86, h87, h88, h89, h90, h91, h92, h93, h94, h95, h96, h97, h98, h99, h100, ag1, ag2, ag3, ag4, ag5, ag6, ag7, ag8⟩ := id hm0
  refine aw_aload_n (q := 6) dX7_speed_5 rfl rfl rfl ?_
  refine aw_iload_n (q := 7) dX7_speed_6 rfl rfl rfl ?_
  refine aw_i2l (q := 8) dX7_speed_7 rfl ?_
  refine aw_lconst (a := 1) (q := 9) dX7_speed_8 rfl rfl (by omega) ?_
  refine aw_ldc2 (a := 100) (q := 12) dX7_speed_9 rfl k_X7_118 (by omega) ?_
  refine aw_callS [vL (x), vL (1), vL (100)] (q := 15) dX7_speed_12 rfl ck_X7_within lk_X7_90 rfl ⟨Nat.le_of_ble_eq_true rfl, Nat.le_of_ble_eq_true rfl⟩ rfl rfl (Nat.le_of_ble_eq_true rfl) (by decide) (m_X7_within) rfl (fun _ _ _ h => (Rt_x h).elim) ?_
  rintro v n9 μ9 - ⟨v9, hv9, rfl, rfl, rfl⟩
  obtain rfl := Sum.inl.inj hv9
  refine aw_if_ne (t := 22) (q := 18) dX7_speed_15 rfl (by decide) (fun bc1 => ?_) (fun bc1 => ?_)
  · skip
    replace bc1 := bz_n0.mp bc1
    refine aw_iconst (q := 23) dX7_speed_22 rfl (by omega) ?_
    refine aw_iconst (q := 24) dX7_speed_23 rfl (by omega) ?_
    refine aw_callV [vI (0), vI (1)] (q := 27) dX7_speed_24 rfl ck_X7_fails lk_X7_82 rfl ⟨Nat.le_of_ble_eq_true rfl, Nat.le_of_ble_eq_true rfl⟩ rfl rfl h82 rfl (Nat.le_of_ble_eq_true rfl) (by decide) (m_X7_fails_f h82) rfl (fun _ _ _ h => (Rt_x h).elim) ?_
    rintro v n9 μ9 - ⟨v9, hv9, rfl, rfl, rfl⟩
    obtain rfl := Sum.inl.inj hv9
    refine aw_if_eq (t := 32) (q := 30) dX7_speed_27 rfl (by decide) (fun bc2 => ?_) (fun bc2 => ?_)
    · skip
      refine aw_aload_n (q := 33) dX7_speed_32 rfl rfl rfl ?_
      refine aw_get (q := 36) dX7_speed_33 rfl fl_X7_34 h82 rfl (fun _ => ?_)
      refine aw_istore_n (q := 37) dX7_speed_36 rfl rfl (by decide) ?_
      refine aw_aload_n (q := 38) dX7_speed_37 rfl rfl rfl ?_
      refine aw_iload_n (q := 39) dX7_speed_38 rfl rfl rfl ?_
      refine aw_put (q := 42) dX7_speed_39 rfl fp_X7_34 h82 (Nat.le_of_ble_eq_true rfl) trivial ?_
      refine aw_iload_n (q := 43) dX7_speed_42 rfl rfl rfl ?_
      exact aw_iret dX7_speed_43 rfl (by decide) (by decide) ⟨rfl, FrR_w (FrR_tr hF0 (FrR_hu FrR_rf (by omega))) (by omega) (by omega), _, rfl, Or.inl ⟨by omega, MM_o hm0, rfl⟩⟩
    · skip
      omega
  · skip
    replace bc1 := bz_0.mp bc1
    refine aw_iconst (q := 19) dX7_speed_18 rfl (by omega) ?_
    refine aw_goto (q := 23) dX7_speed_19 (by decide) ?_
    refine aw_iconst (q := 24) dX7_speed_23 rfl (by omega) ?_
    refine aw_callV [vI (1), vI (1)] (q := 27) dX7_speed_24 rfl ck_X7_fails lk_X7_82 rfl ⟨Nat.le_of_ble_eq_true rfl, Nat.le_of_ble_eq_true rfl⟩ rfl rfl h82 rfl (Nat.le_of_ble_eq_true rfl) (by decide) (m_X7_fails_t h82 (by omega)) rfl (fun _ _ _ h => (Rt_x h).elim) ?_
    rintro v n9 μ9 - ⟨v9, hv9, rfl, rfl, rfl⟩
    obtain rfl := Sum.inl.inj hv9
    refine aw_if_eq (t := 32) (q := 30) dX7_speed_27 rfl (by decide) (fun bc3 => ?_) (fun bc3 => ?_)
    · skip
      omega
    · skip
      refine aw_iconst (q := 31) dX7_speed_30 rfl (by omega) ?_
      exact aw_iret dX7_speed_31 rfl (by decide) (by decide) ⟨rfl, FrR_w (FrR_tr hF0 (FrR_hu FrR_rf (by omega))) (by omega) (by omega), 0, rfl, Or.inr ⟨by omega, MM_o hm0⟩⟩
set_option maxHeartbeats 4000000 in
set_option maxRecDepth 100000 in
theorem m_X7_limit {n : Nat} {μ : AH} {th B : Int} {D : Nat} {dv : Nat → DVt} {Fn : Nat} {fv : Nat → FVt} {sv : SVt} {pk fd : Nat × (Nat → Int)} {spd lim : Int} {x : Int} (hm : MM μ th D dv Fn fv sv pk fd spd lim) (hO : COk B D dv Fn fv sv pk fd spd lim) : AMet YX7_limit [vR 82, vI (x)] n μ (fun o n' μ' => n' = n ∧ FrR 82 101 μ μ' ∧ ∃ v : Int, o = .inl (some (vI v)) ∧ (((1 ≤ x ∧ x ≤ 100000) ∧ MM μ' 0 D dv Fn fv sv pk fd spd x ∧ v = lim) ∨ (¬ (1 ≤ x ∧ x ≤ 100000) ∧ MM μ' 1 D dv Fn fv sv pk fd spd lim))) := by
  refine AMet.of (by decide) rfl (Nat.le_of_ble_eq_true rfl) ?_
  obtain ⟨at7, ls7, wy7, c7, t7, F7, G7, H7, k7, a7, b7, e7, X7, Y7, y7, o7, r7, s7, u7, v7, w7, h82, h83, h84, h85, h86, h87, h88, h89, h90, h91, h92, h93, h94, h95, h96, h97, h98, h99, h100, ag1, ag2, ag3, ag4, ag5, ag6, ag7, ag8⟩ := id hm
  obtain ⟨hN, hdv, hFn, hfv, hsn, hsb, hpk, hfd, hfb, hs1, hs2, hl1, hl2⟩ := id hO
  refine aw_aload_n (q := 1) dX7_limit_0 rfl rfl rfl ?_
  refine aw_iconst (q := 2) dX7_limit_1 rfl (by omega) ?_
  refine aw_put (q := 5) dX7_limit_2 rfl fp_X7_72 h82 (Nat.le_of_ble_eq_true rfl) trivial ?_
  refine mm_z (at' := at7) (ls' := ls7) (wy' := wy7) hm (fun μ0 hm0 hF0 => ?_)
  obtain ⟨at7, ls7, wy7, c7, t7, F7, G7, H7, k7, a7, b7, e7, X7, Y7, y7, o7, r7, s7, u7, v7, w7, h82, h83, h84, h85, h86, h87, h88, h89, h90, h91, h92, h93, h94, h95, h96, h97, h98, h99, h100, ag1, ag2, ag3, ag4, ag5, ag6, ag7, ag8⟩ := id hm0
  refine aw_aload_n (q := 6) dX7_limit_5 rfl rfl rfl ?_
  refine aw_iload_n (q := 7) dX7_limit_6 rfl rfl rfl ?_
  refine aw_i2l (q := 8) dX7_limit_7 rfl ?_
  refine aw_lconst (a := 1) (q := 9) dX7_limit_8 rfl rfl (by omega) ?_
  refine aw_ldc2 (a := 100000) (q := 12) dX7_limit_9 rfl k_X7_88 (by omega) ?_
  refine aw_callS [vL (x), vL (1), vL (100000)] (q := 15) dX7_limit_12 rfl ck_X7_within lk_X7_90 rfl ⟨Nat.le_of_ble_eq_true rfl, Nat.le_of_ble_eq_true rfl⟩ rfl rfl (Nat.le_of_ble_eq_true rfl) (by decide) (m_X7_within) rfl (fun _ _ _ h => (Rt_x h).elim) ?_
  rintro v n9 μ9 - ⟨v9, hv9, rfl, rfl, rfl⟩
  obtain rfl := Sum.inl.inj hv9
  refine aw_if_ne (t := 22) (q := 18) dX7_limit_15 rfl (by decide) (fun bc1 => ?_) (fun bc1 => ?_)
  · skip
    replace bc1 := bz_n0.mp bc1
    refine aw_iconst (q := 23) dX7_limit_22 rfl (by omega) ?_
    refine aw_iconst (q := 24) dX7_limit_23 rfl (by omega) ?_
    refine aw_callV [vI (0), vI (1)] (q := 27) dX7_limit_24 rfl ck_X7_fails lk_X7_82 rfl ⟨Nat.le_of_ble_eq_true rfl, Nat.le_of_ble_eq_true rfl⟩ rfl rfl h82 rfl (Nat.le_of_ble_eq_true rfl) (by decide) (m_X7_fails_f h82) rfl (fun _ _ _ h => (Rt_x h).elim) ?_
    rintro v n9 μ9 - ⟨v9, hv9, rfl, rfl, rfl⟩
    obtain rfl := Sum.inl.inj hv9
    refine aw_if_eq (t := 32) (q := 30) dX7_limit_27 rfl (by decide) (fun bc2 => ?_) (fun bc2 => ?_)
    · skip
      refine aw_aload_n (q := 33) dX7_limit_32 rfl rfl rfl ?_
      refine aw_get (q := 36) dX7_limit_33 rfl fl_X7_38 h82 rfl (fun _ => ?_)
      refine aw_istore_n (q := 37) dX7_limit_36 rfl rfl (by decide) ?_
      refine aw_aload_n (q := 38) dX7_limit_37 rfl rfl rfl ?_
      refine aw_iload_n (q := 39) dX7_limit_38 rfl rfl rfl ?_
      refine aw_put (q := 42) dX7_limit_39 rfl fp_X7_38 h82 (Nat.le_of_ble_eq_true rfl) trivial ?_
      refine aw_iload_n (q := 43) dX7_limit_42 rfl rfl rfl ?_
      exact aw_iret dX7_limit_43 rfl (by decide) (by decide) ⟨rfl, FrR_w (FrR_tr hF0 (FrR_hu FrR_rf (by omega))) (by omega) (by omega), _, rfl, Or.inl ⟨by omega, MM_o hm0, rfl⟩⟩
    · skip
      omega
  · skip
    replace bc1 := bz_0.mp bc1
    refine aw_iconst (q := 19) dX7_limit_18 rfl (by omega) ?_
    refine aw_goto (q := 23) dX7_limit_19 (by decide) ?_
    refine aw_iconst (q := 24) dX7_limit_23 rfl (by omega) ?_
    refine aw_callV [vI (1), vI (1)] (q := 27) dX7_limit_24 rfl ck_X7_fails lk_X7_82 rfl ⟨Nat.le_of_ble_eq_true rfl, Nat.le_of_ble_eq_true rfl⟩ rfl rfl h82 rfl (Nat.le_of_ble_eq_true rfl) (by decide) (m_X7_fails_t h82 (by omega)) rfl (fun _ _ _ h => (Rt_x h).elim) ?_
    rintro v n9 μ9 - ⟨v9, hv9, rfl, rfl, rfl⟩
    obtain rfl := Sum.inl.inj hv9
    refine aw_if_eq (t := 32) (q := 30) dX7_limit_27 rfl (by decide) (fun bc3 => ?_) (fun bc3 => ?_)
    · skip
      omega
    · skip
      refine aw_iconst (q := 31) dX7_limit_30 rfl (by omega) ?_
      exact aw_iret dX7_limit_31 rfl (by decide) (by decide) ⟨rfl, FrR_w (FrR_tr hF0 (FrR_hu FrR_rf (by omega))) (by omega) (by omega), 0, rfl, Or.inr ⟨by omega, MM_o hm0⟩⟩
