/-! ===== TrackRowsModel: repeat, weight, could (written by m_model5.py) ===== -/
theorem nr_1 {d : Nat → Int} : nrN d 1 = 0 := rfl
theorem nr_t {d : Nat → Int} {c : Nat} (h : 0 < c) (h' : d c < d (nrN d c)) : nrN d (c + 1) = c := by
  rw [nrN, if_neg (by omega), if_pos h']
theorem nr_f {d : Nat → Int} {c : Nat} (h : 0 < c) (h' : ¬ d c < d (nrN d c)) : nrN d (c + 1) = nrN d c := by
  rw [nrN, if_neg (by omega), if_neg h']
theorem sq_ng {a b : Int} : (a - b) * (a - b) = (b - a) * (b - a) := by rw [← Int.neg_mul_neg, Int.neg_sub]
theorem wgt_0 {v : DVt} {t x y : Int} (h : v.1 = 0) : wgt v t x y = -1 := if_pos h
theorem wgt_n {v : DVt} {t x y : Int} {r : Nat} (h : v.1 ≠ 0) (hr : nrN (fun p => zabs (tt v.2.2.2.2.2.1 v.2.2.2.2.2.2.1 v.2.2.2.2.2.2.2 (v.2.1 p) - t)) v.1 = r) : wgt v t x y = (v.2.2.1 r - x) * (v.2.2.1 r - x) + (v.2.2.2.1 r - y) * (v.2.2.2.1 r - y) := by
  unfold wgt
  rw [if_neg h, hr, sq_ng (a := x), sq_ng (a := y)]
set_option maxHeartbeats 4000000 in
set_option maxRecDepth 100000 in
theorem m_X7_isSame {n : Nat} {μ : AH} {th B : Int} {D : Nat} {dv : Nat → DVt} {Fn : Nat} {fv : Nat → FVt} {sv : SVt} {pk fd : Nat × (Nat → Int)} {spd lim : Int} {i a9 b9 : Int} {d a b : Nat} (hi : i = (d : Int)) (hd : d < 5) (ha : a9 = (a : Int)) (hb : b9 = (b : Int)) (ha1 : a + 1 < (dv d).1) (hb1 : b + 1 < (dv d).1) (hm : MM μ th D dv Fn fv sv pk fd spd lim) (hO : COk B D dv Fn fv sv pk fd spd lim) : AMet YX7_isSame [vR 82, vI (i), vI (a9), vI (b9)] n μ (Pv n μ (vI (bz (smS (dv d).2.1 (dv d).2.2.1 (dv d).2.2.2.1 a b)))) := by
  refine AMet.of (by decide) rfl (Nat.le_of_ble_eq_true rfl) ?_
  obtain ⟨at7, ls7, wy7, c7, t7, F7, G7, H7, k7, a7, b7, e7, X7, Y7, y7, o7, r7, s7, u7, v7, w7, h82, h83, h84, h85, h86, h87, h88, h89, h90, h91, h92, h93, h94, h95, h96, h97, h98, h99, h100, ag1, ag2, ag3, ag4, ag5, ag6, ag7, ag8⟩ := id hm
  obtain ⟨hN, hdv, hFn, hfv, hsn, hsb, hpk, hfd, hfb, hs1, hs2, hl1, hl2⟩ := id hO
  obtain ⟨hc60, hpb, hup, hk8, hmb, hst⟩ : dv_O (dv d) := (hdv d hd).1
  have q1 := hpb a (by omega)
  have q2 := hpb (a + 1) ha1
  have q3 := hpb b (by omega)
  have q4 := hpb (b + 1) hb1
  refine aw_bipush (q := 2) dX7_isSame_0 rfl (by decide) (by omega) ?_
  refine aw_iload_n (q := 3) dX7_isSame_2 rfl rfl rfl ?_
  refine aw_imul (q := 4) dX7_isSame_3 rfl (by omega) ?_
  refine aw_iload_n (q := 5) dX7_isSame_4 rfl rfl rfl ?_
  refine aw_iadd (q := 6) dX7_isSame_5 rfl (by omega) ?_
  refine aw_istore (q := 8) dX7_isSame_6 rfl (by decide) ?_
  refine aw_bipush (q := 10) dX7_isSame_8 rfl (by decide) (by omega) ?_
  refine aw_iload_n (q := 11) dX7_isSame_10 rfl rfl rfl ?_
  refine aw_imul (q := 12) dX7_isSame_11 rfl (by omega) ?_
  refine aw_iload_n (q := 13) dX7_isSame_12 rfl rfl rfl ?_
  refine aw_iadd (q := 14) dX7_isSame_13 rfl (by omega) ?_
  refine aw_istore (q := 16) dX7_isSame_14 rfl (by decide) ?_
  refine aw_aload_n (q := 17) dX7_isSame_16 rfl rfl rfl ?_
  refine aw_get (q := 20) dX7_isSame_17 rfl fl_X7_16 h82 rfl (fun _ => ?_)
  refine aw_iload (q := 22) dX7_isSame_20 rfl rfl ?_
  refine aw_iconst (q := 23) dX7_isSame_22 rfl (by omega) ?_
  refine aw_iadd (q := 24) dX7_isSame_23 rfl (by omega) ?_
  refine aw_iaload (j := 60 * d + (a + 1)) (q := 25) dX7_isSame_24 rfl h85 (by omega) (by omega) (fun rx1 => ?_)
  rw [(ag2 d (a + 1) hd ha1).1]
  refine aw_aload_n (q := 26) dX7_isSame_25 rfl rfl rfl ?_
  refine aw_get (q := 29) dX7_isSame_26 rfl fl_X7_16 h82 rfl (fun _ => ?_)
  refine aw_iload (q := 31) dX7_isSame_29 rfl rfl ?_
  refine aw_iaload (j := 60 * d + a) (q := 32) dX7_isSame_31 rfl h85 (by omega) (by omega) (fun rx2 => ?_)
  rw [(ag2 d a hd (by omega)).1]
  refine aw_isub (q := 33) dX7_isSame_32 rfl (by omega) ?_
  refine aw_aload_n (q := 34) dX7_isSame_33 rfl rfl rfl ?_
  refine aw_get (q := 37) dX7_isSame_34 rfl fl_X7_16 h82 rfl (fun _ => ?_)
  refine aw_iload (q := 39) dX7_isSame_37 rfl rfl ?_
  refine aw_iconst (q := 40) dX7_isSame_39 rfl (by omega) ?_
  refine aw_iadd (q := 41) dX7_isSame_40 rfl (by omega) ?_
  refine aw_iaload (j := 60 * d + (b + 1)) (q := 42) dX7_isSame_41 rfl h85 (by omega) (by omega) (fun rx3 => ?_)
  rw [(ag2 d (b + 1) hd hb1).1]
  refine aw_aload_n (q := 43) dX7_isSame_42 rfl rfl rfl ?_
  refine aw_get (q := 46) dX7_isSame_43 rfl fl_X7_16 h82 rfl (fun _ => ?_)
  refine aw_iload (q := 48) dX7_isSame_46 rfl rfl ?_
  refine aw_iaload (j := 60 * d + b) (q := 49) dX7_isSame_48 rfl h85 (by omega) (by omega) (fun rx4 => ?_)
  rw [(ag2 d b hd (by omega)).1]
  refine aw_isub (q := 50) dX7_isSame_49 rfl (by omega) ?_
  refine aw_ic_ne (t := 131) (q := 53) dX7_isSame_50 rfl (by decide) (fun bc5 => ?_) (fun bc5 => ?_)
  · skip
    refine aw_iconst (q := 132) dX7_isSame_131 rfl (by omega) ?_
    exact aw_zret dX7_isSame_132 rfl (Or.inl rfl) (by decide) (by decide) ⟨_, rfl, rfl, rfl, congrArg vI (bz_f (by unfold smS; omega)).symm⟩
  · skip
    refine aw_aload_n (q := 54) dX7_isSame_53 rfl rfl rfl ?_
    refine aw_get (q := 57) dX7_isSame_54 rfl fl_X7_19 h82 rfl (fun _ => ?_)
    refine aw_iload (q := 59) dX7_isSame_57 rfl rfl ?_
    refine aw_iconst (q := 60) dX7_isSame_59 rfl (by omega) ?_
    refine aw_iadd (q := 61) dX7_isSame_60 rfl (by omega) ?_
    refine aw_iaload (j := 60 * d + (a + 1)) (q := 62) dX7_isSame_61 rfl h86 (by omega) (by omega) (fun rx6 => ?_)
    rw [(ag2 d (a + 1) hd ha1).2.1]
    refine aw_aload_n (q := 63) dX7_isSame_62 rfl rfl rfl ?_
    refine aw_get (q := 66) dX7_isSame_63 rfl fl_X7_19 h82 rfl (fun _ => ?_)
    refine aw_iload (q := 68) dX7_isSame_66 rfl rfl ?_
    refine aw_iaload (j := 60 * d + a) (q := 69) dX7_isSame_68 rfl h86 (by omega) (by omega) (fun rx7 => ?_)
    rw [(ag2 d a hd (by omega)).2.1]
    refine aw_isub (q := 70) dX7_isSame_69 rfl (by omega) ?_
    refine aw_aload_n (q := 71) dX7_isSame_70 rfl rfl rfl ?_
    refine aw_get (q := 74) dX7_isSame_71 rfl fl_X7_19 h82 rfl (fun _ => ?_)
    refine aw_iload (q := 76) dX7_isSame_74 rfl rfl ?_
    refine aw_iconst (q := 77) dX7_isSame_76 rfl (by omega) ?_
    refine aw_iadd (q := 78) dX7_isSame_77 rfl (by omega) ?_
    refine aw_iaload (j := 60 * d + (b + 1)) (q := 79) dX7_isSame_78 rfl h86 (by omega) (by omega) (fun rx8 => ?_)
    rw [(ag2 d (b + 1) hd hb1).2.1]
    refine aw_aload_n (q := 80) dX7_isSame_79 rfl rfl rfl ?_
    refine aw_get (q := 83) dX7_isSame_80 rfl fl_X7_19 h82 rfl (fun _ => ?_)
    refine aw_iload (q := 85) dX7_isSame_83 rfl rfl ?_
    refine aw_iaload (j := 60 * d + b) (q := 86) dX7_isSame_85 rfl h86 (by omega) (by omega) (fun rx9 => ?_)
    rw [(ag2 d b hd (by omega)).2.1]
    refine aw_isub (q := 87) dX7_isSame_86 rfl (by omega) ?_
    refine aw_ic_ne (t := 131) (q := 90) dX7_isSame_87 rfl (by decide) (fun bc10 => ?_) (fun bc10 => ?_)
    · skip
      refine aw_iconst (q := 132) dX7_isSame_131 rfl (by omega) ?_
      exact aw_zret dX7_isSame_132 rfl (Or.inl rfl) (by decide) (by decide) ⟨_, rfl, rfl, rfl, congrArg vI (bz_f (by unfold smS; omega)).symm⟩
    · skip
      refine aw_aload_n (q := 91) dX7_isSame_90 rfl rfl rfl ?_
      refine aw_get (q := 94) dX7_isSame_91 rfl fl_X7_22 h82 rfl (fun _ => ?_)
      refine aw_iload (q := 96) dX7_isSame_94 rfl rfl ?_
      refine aw_iconst (q := 97) dX7_isSame_96 rfl (by omega) ?_
      refine aw_iadd (q := 98) dX7_isSame_97 rfl (by omega) ?_
      refine aw_iaload (j := 60 * d + (a + 1)) (q := 99) dX7_isSame_98 rfl h87 (by omega) (by omega) (fun rx11 => ?_)
      rw [(ag2 d (a + 1) hd ha1).2.2]
      refine aw_aload_n (q := 100) dX7_isSame_99 rfl rfl rfl ?_
      refine aw_get (q := 103) dX7_isSame_100 rfl fl_X7_22 h82 rfl (fun _ => ?_)
      refine aw_iload (q := 105) dX7_isSame_103 rfl rfl ?_
      refine aw_iaload (j := 60 * d + a) (q := 106) dX7_isSame_105 rfl h87 (by omega) (by omega) (fun rx12 => ?_)
      rw [(ag2 d a hd (by omega)).2.2]
      refine aw_isub (q := 107) dX7_isSame_106 rfl (by omega) ?_
      refine aw_aload_n (q := 108) dX7_isSame_107 rfl rfl rfl ?_
      refine aw_get (q := 111) dX7_isSame_108 rfl fl_X7_22 h82 rfl (fun _ => ?_)
      refine aw_iload (q := 113) dX7_isSame_111 rfl rfl ?_
      refine aw_iconst (q := 114) dX7_isSame_113 rfl (by omega) ?_
      refine aw_iadd (q := 115) dX7_isSame_114 rfl (by omega) ?_
      refine aw_iaload (j := 60 * d + (b + 1)) (q := 116) dX7_isSame_115 rfl h87 (by omega) (by omega) (fun rx13 => ?_)
      rw [(ag2 d (b + 1) hd hb1).2.2]
      refine aw_aload_n (q := 117) dX7_isSame_116 rfl rfl rfl ?_
      refine aw_get (q := 120) dX7_isSame_117 rfl fl_X7_22 h82 rfl (fun _ => ?_)
      refine aw_iload (q := 122) dX7_isSame_120 rfl rfl ?_
      refine aw_iaload (j := 60 * d + b) (q := 123) dX7_isSame_122 rfl h87 (by omega) (by omega) (fun rx14 => ?_)
      rw [(ag2 d b hd (by omega)).2.2]
      refine aw_isub (q := 124) dX7_isSame_123 rfl (by omega) ?_
      refine aw_ic_ne (t := 131) (q := 127) dX7_isSame_124 rfl (by decide) (fun bc15 => ?_) (fun bc15 => ?_)
      · skip
        refine aw_iconst (q := 132) dX7_isSame_131 rfl (by omega) ?_
        exact aw_zret dX7_isSame_132 rfl (Or.inl rfl) (by decide) (by decide) ⟨_, rfl, rfl, rfl, congrArg vI (bz_f (by unfold smS; omega)).symm⟩
      · skip
        refine aw_iconst (q := 128) dX7_isSame_127 rfl (by omega) ?_
        refine aw_goto (q := 132) dX7_isSame_128 (by decide) ?_
        exact aw_zret dX7_isSame_132 rfl (Or.inr rfl) (by decide) (by decide) ⟨_, rfl, rfl, rfl, congrArg vI (bz_t (by unfold smS; omega)).symm⟩
set_option maxHeartbeats 4000000 in
set_option maxRecDepth 100000 in
theorem m_X7_repeat {n : Nat} {μ : AH} {th B : Int} {D : Nat} {dv : Nat → DVt} {Fn : Nat} {fv : Nat → FVt} {sv : SVt} {pk fd : Nat × (Nat → Int)} {spd lim : Int} {i w : Int} (hm : MM μ th D dv Fn fv sv pk fd spd lim) (hO : COk B D dv Fn fv sv pk fd spd lim) : AMet YX7_repeat [vR 82, vI (i), vI (w)] n μ (fun o n' μ' => n' = n ∧ FrR 82 101 μ μ' ∧ ∃ v : Int, o = .inl (some (vI v)) ∧ MM μ' (tx2 (0 ≤ i ∧ i < (D : Int)) (1 ≤ w ∧ w ≤ 30)) D dv Fn fv sv pk fd spd lim ∧ (((0 ≤ i ∧ i < (D : Int)) ∧ 1 ≤ w ∧ w ≤ 30) → RepR (dv i.toNat).2.1 (dv i.toNat).2.2.1 (dv i.toNat).2.2.2.1 (dv i.toNat).1 w.toNat v)) := by
  refine AMet.of (by decide) rfl (Nat.le_of_ble_eq_true rfl) ?_
  obtain ⟨at7, ls7, wy7, c7, t7, F7, G7, H7, k7, a7, b7, e7, X7, Y7, y7, o7, r7, s7, u7, v7, w7, h82, h83, h84, h85, h86, h87, h88, h89, h90, h91, h92, h93, h94, h95, h96, h97, h98, h99, h100, ag1, ag2, ag3, ag4, ag5, ag6, ag7, ag8⟩ := id hm
  obtain ⟨hN, hdv, hFn, hfv, hsn, hsb, hpk, hfd, hfb, hs1, hs2, hl1, hl2⟩ := id hO
  refine aw_aload_n (q := 1) dX7_repeat_0 rfl rfl rfl ?_
  refine aw_iconst (q := 2) dX7_repeat_1 rfl (by omega) ?_
  refine aw_put (q := 5) dX7_repeat_2 rfl fp_X7_72 h82 (Nat.le_of_ble_eq_true rfl) trivial ?_
  refine mm_z (at' := at7) (ls' := ls7) (wy' := wy7) hm (fun μ0 hm0 hF0 => ?_)
  obtain ⟨at7, ls7, wy7, c7, t7, F7, G7, H7, k7, a7, b7, e7, X7, Y7, y7, o7, r7, s7, u7, v7, w7, h82, h83, h84, h85, h86, h87, h88, h89, h90, h91, h92, h93, h94, h95, h96, h97, h98, h99, h100, ag1, ag2, ag3, ag4, ag5, ag6, ag7, ag8⟩ := id hm0
  refine aw_aload_n (q := 6) dX7_repeat_5 rfl rfl rfl ?_
  refine aw_aload_n (q := 7) dX7_repeat_6 rfl rfl rfl ?_
  refine aw_iload_n (q := 8) dX7_repeat_7 rfl rfl rfl ?_
  refine aw_callV [vI (i)] (q := 11) dX7_repeat_8 rfl ck_X7_isDevice lk_X7_78 rfl ⟨Nat.le_of_ble_eq_true rfl, Nat.le_of_ble_eq_true rfl⟩ rfl rfl h82 rfl (Nat.le_of_ble_eq_true rfl) (by decide) (m_X7_isDevice hm0 hO) rfl (fun _ _ _ h => (Rt_x h).elim) ?_
  rintro v n9 μ9 - ⟨v9, hv9, hn9, hm9, rfl⟩
  obtain rfl := hn9.symm
  obtain rfl := hm9.symm
  obtain rfl := Sum.inl.inj hv9
  refine aw_if_ne (t := 18) (q := 14) dX7_repeat_11 rfl (by decide) (fun bc1 => ?_) (fun bc1 => ?_)
  · skip
    replace bc1 := bz_n0.mp bc1
    refine aw_iconst (q := 19) dX7_repeat_18 rfl (by omega) ?_
    refine aw_iconst (q := 20) dX7_repeat_19 rfl (by omega) ?_
    refine aw_callV [vI (0), vI (1)] (q := 23) dX7_repeat_20 rfl ck_X7_fails lk_X7_82 rfl ⟨Nat.le_of_ble_eq_true rfl, Nat.le_of_ble_eq_true rfl⟩ rfl rfl h82 rfl (Nat.le_of_ble_eq_true rfl) (by decide) (m_X7_fails_f h82) rfl (fun _ _ _ h => (Rt_x h).elim) ?_
    rintro v n9 μ9 - ⟨v9, hv9, hn9, hm9, rfl⟩
    obtain rfl := hn9.symm
    obtain rfl := hm9.symm
    obtain rfl := Sum.inl.inj hv9
    refine aw_if_ne (t := 51) (q := 26) dX7_repeat_23 rfl (by decide) (fun bc2 => ?_) (fun bc2 => ?_)
    · skip
      omega
    · skip
      refine aw_aload_n (q := 27) dX7_repeat_26 rfl rfl rfl ?_
      refine aw_iload_n (q := 28) dX7_repeat_27 rfl rfl rfl ?_
      refine aw_i2l (q := 29) dX7_repeat_28 rfl ?_
      refine aw_lconst (a := 1) (q := 30) dX7_repeat_29 rfl rfl (by omega) ?_
      refine aw_ldc2 (a := 30) (q := 33) dX7_repeat_30 rfl k_X7_183 (by omega) ?_
      refine aw_callS [vL (w), vL (1), vL (30)] (q := 36) dX7_repeat_33 rfl ck_X7_within lk_X7_90 rfl ⟨Nat.le_of_ble_eq_true rfl, Nat.le_of_ble_eq_true rfl⟩ rfl rfl (Nat.le_of_ble_eq_true rfl) (by decide) (m_X7_within) rfl (fun _ _ _ h => (Rt_x h).elim) ?_
      rintro v n9 μ9 - ⟨v9, hv9, hn9, hm9, rfl⟩
      obtain rfl := hn9.symm
      obtain rfl := hm9.symm
      obtain rfl := Sum.inl.inj hv9
      refine aw_if_ne (t := 43) (q := 39) dX7_repeat_36 rfl (by decide) (fun bc3 => ?_) (fun bc3 => ?_)
      · skip
        replace bc3 := bz_n0.mp bc3
        refine aw_iconst (q := 44) dX7_repeat_43 rfl (by omega) ?_
        refine aw_iconst (q := 45) dX7_repeat_44 rfl (by omega) ?_
        refine aw_callV [vI (0), vI (2)] (q := 48) dX7_repeat_45 rfl ck_X7_fails lk_X7_82 rfl ⟨Nat.le_of_ble_eq_true rfl, Nat.le_of_ble_eq_true rfl⟩ rfl rfl h82 rfl (Nat.le_of_ble_eq_true rfl) (by decide) (m_X7_fails_f h82) rfl (fun _ _ _ h => (Rt_x h).elim) ?_
        rintro v n9 μ9 - ⟨v9, hv9, hn9, hm9, rfl⟩
        obtain rfl := hn9.symm
        obtain rfl := hm9.symm
        obtain rfl := Sum.inl.inj hv9
        refine aw_if_eq (t := 53) (q := 51) dX7_repeat_48 rfl (by decide) (fun bc4 => ?_) (fun bc4 => ?_)
        · skip
          refine aw_iload_n (q := 54) dX7_repeat_53 rfl rfl rfl ?_
          refine aw_istore_n (q := 55) dX7_repeat_54 rfl rfl (by decide) ?_
          obtain ⟨d, hi⟩ : ∃ d : Nat, i = (d : Int) := ⟨i.toNat, by omega⟩
          have hid : i.toNat = d := by omega
          have hd5 : d < 5 := by omega
          have hcd := ag1 d hd5
          have hdo := (hdv d hd5).1
          have hc60 : (dv d).1 ≤ 60 := hdo.1
          have hk8 : (dv d).2.2.2.2.2.1 ≤ 8 := hdo.2.2.2.1
          obtain ⟨N, hwx⟩ : ∃ N : Nat, w = (N : Int) := ⟨w.toNat, by omega⟩
          have hwN : w.toNat = N := by omega
          have lp1 : ∀ (jlp1 : Nat) (J : Nat) (jx : Int), (dv d).1 - J < jlp1 → jx = (J : Int) → N ≤ J → J ≤ 60 → (∀ j, N ≤ j → j < J → ¬ ∃ i, i + N ≤ j ∧ smN (dv d).2.1 (dv d).2.2.1 (dv d).2.2.2.1 i j N) → AW YX7_repeat none (fun o n' μ' => n' = n ∧ FrR 82 101 μ μ' ∧ ∃ v : Int, o = .inl (some (vI v)) ∧ MM μ' (tx2 (0 ≤ i ∧ i < (D : Int)) (1 ≤ w ∧ w ≤ 30)) D dv Fn fv sv pk fd spd lim ∧ (((0 ≤ i ∧ i < (D : Int)) ∧ 1 ≤ w ∧ w ≤ 30) → RepR (dv i.toNat).2.1 (dv i.toNat).2.2.1 (dv i.toNat).2.2.2.1 (dv i.toNat).1 w.toNat v)) 55 [some (vR 82), some (vI (i)), some (vI (w)), some (vI (jx)), none, none, none] [] n μ0 0 0 := by
            intro jlp1
            induction jlp1 with
            | zero => intro J jx hj; exact absurd hj (Nat.not_lt_zero _)
            | succ jlp1 ihlp1 =>
              intro J jx hjlp1 hjx hNJ hJ60 hno
              refine aw_iload_n (q := 56) dX7_repeat_55 rfl rfl rfl ?_
              refine aw_iload_n (q := 57) dX7_repeat_56 rfl rfl rfl ?_
              refine aw_iadd (q := 58) dX7_repeat_57 rfl (by omega) ?_
              refine aw_aload_n (q := 59) dX7_repeat_58 rfl rfl rfl ?_
              refine aw_get (q := 62) dX7_repeat_59 rfl fl_X7_7 h82 rfl (fun _ => ?_)
              refine aw_iload_n (q := 63) dX7_repeat_62 rfl rfl rfl ?_
              refine aw_iaload (j := d) (q := 64) dX7_repeat_63 rfl h83 (by omega) (by omega) (fun rx1 => ?_)
              refine aw_ic_ge (t := 136) (q := 67) dX7_repeat_64 rfl (by decide) (fun bc2 => ?_) (fun bc2 => ?_)
              · skip
                refine aw_iconst (q := 137) dX7_repeat_136 rfl (by omega) ?_
                exact aw_iret dX7_repeat_137 rfl (by decide) (by decide) ⟨rfl, FrR_w hF0 (by omega) (by omega), _, rfl, by rw [tx2_0 (by omega) (by omega)]; exact hm0, fun _ => by rw [hid, hwN]; exact Or.inr ⟨rfl, fun j h1 h2 => hno j h1 (by omega)⟩⟩
              · skip
                refine aw_iconst (q := 68) dX7_repeat_67 rfl (by omega) ?_
                refine aw_istore (q := 70) dX7_repeat_68 rfl (by decide) ?_
                have lp2 : ∀ (jlp2 : Nat) (I : Nat) (ix : Int), J + 1 - I < jlp2 → ix = (I : Int) → I ≤ 60 → (∀ i9, i9 < I → ¬ smN (dv d).2.1 (dv d).2.2.1 (dv d).2.2.2.1 i9 J N) → AW YX7_repeat none (fun o n' μ' => n' = n ∧ FrR 82 101 μ μ' ∧ ∃ v : Int, o = .inl (some (vI v)) ∧ MM μ' (tx2 (0 ≤ i ∧ i < (D : Int)) (1 ≤ w ∧ w ≤ 30)) D dv Fn fv sv pk fd spd lim ∧ (((0 ≤ i ∧ i < (D : Int)) ∧ 1 ≤ w ∧ w ≤ 30) → RepR (dv i.toNat).2.1 (dv i.toNat).2.2.1 (dv i.toNat).2.2.2.1 (dv i.toNat).1 w.toNat v)) 70 [some (vR 82), some (vI (i)), some (vI (w)), some (vI (jx)), some (vI (ix)), none, none] [] n μ0 0 0 := by
                  intro jlp2
                  induction jlp2 with
                  | zero => intro I ix hj; exact absurd hj (Nat.not_lt_zero _)
                  | succ jlp2 ihlp2 =>
                    intro I ix hjlp2 hix hI60 hni
                    refine aw_iload (q := 72) dX7_repeat_70 rfl rfl ?_
                    refine aw_iload_n (q := 73) dX7_repeat_72 rfl rfl rfl ?_
                    refine aw_iadd (q := 74) dX7_repeat_73 rfl (by omega) ?_
                    refine aw_iload_n (q := 75) dX7_repeat_74 rfl rfl rfl ?_
                    refine aw_ic_gt (t := 130) (q := 78) dX7_repeat_75 rfl (by decide) (fun bc1 => ?_) (fun bc1 => ?_)
                    · skip
                      refine aw_iinc (q := 133) dX7_repeat_130 rfl rfl (by decide) (by omega) ?_
                      refine aw_goto (q := 55) dX7_repeat_133 (by decide) ?_
                      refine aw_ls (ls := [some (vR 82), some (vI (i)), some (vI (w)), some (vI (jx + 1)), none, none, none]) ⟨rfl, ⟨rfl, ⟨rfl, ⟨rfl, trivial⟩⟩⟩⟩ ?_
                      exact ihlp1 (J + 1) _ (by omega) (by omega) (by omega) (by omega) (fun j h1 h2 => by rcases Nat.lt_succ_iff_lt_or_eq.mp h2 with q | q; exact hno j h1 q; subst q; rintro ⟨i9, h3, h4⟩; exact hni i9 (by omega) h4)
                    · skip
                      refine aw_iconst (q := 79) dX7_repeat_78 rfl (by omega) ?_
                      refine aw_istore (q := 81) dX7_repeat_79 rfl (by decide) ?_
                      refine aw_iconst (q := 82) dX7_repeat_81 rfl (by omega) ?_
                      refine aw_istore (q := 84) dX7_repeat_82 rfl (by decide) ?_
                      have lp3 : ∀ (jlp3 : Nat) (K : Nat) (sx kx : Int), N - K < jlp3 → kx = (K : Int) → K ≤ N → ((sx = 1 ∧ smN (dv d).2.1 (dv d).2.2.1 (dv d).2.2.2.1 I J K) ∨ (sx = 0 ∧ ¬ smN (dv d).2.1 (dv d).2.2.1 (dv d).2.2.2.1 I J N)) → AW YX7_repeat none (fun o n' μ' => n' = n ∧ FrR 82 101 μ μ' ∧ ∃ v : Int, o = .inl (some (vI v)) ∧ MM μ' (tx2 (0 ≤ i ∧ i < (D : Int)) (1 ≤ w ∧ w ≤ 30)) D dv Fn fv sv pk fd spd lim ∧ (((0 ≤ i ∧ i < (D : Int)) ∧ 1 ≤ w ∧ w ≤ 30) → RepR (dv i.toNat).2.1 (dv i.toNat).2.2.1 (dv i.toNat).2.2.2.1 (dv i.toNat).1 w.toNat v)) 84 [some (vR 82), some (vI (i)), some (vI (w)), some (vI (jx)), some (vI (ix)), some (vI (sx)), some (vI (kx))] [] n μ0 0 0 := by
                        intro jlp3
                        induction jlp3 with
                        | zero => intro K sx kx hj; exact absurd hj (Nat.not_lt_zero _)
                        | succ jlp3 ihlp3 =>
                          intro K sx kx hjlp3 hkx hKN hsx
                          refine aw_iload (q := 86) dX7_repeat_84 rfl rfl ?_
                          refine aw_iload_n (q := 87) dX7_repeat_86 rfl rfl rfl ?_
                          refine aw_ic_ge (t := 117) (q := 90) dX7_repeat_87 rfl (by decide) (fun bc1 => ?_) (fun bc1 => ?_)
                          · skip
                            refine aw_iload (q := 119) dX7_repeat_117 rfl rfl ?_
                            refine aw_if_eq (t := 124) (q := 122) dX7_repeat_119 rfl (by decide) (fun bc2 => ?_) (fun bc2 => ?_)
                            · skip
                              refine aw_iinc (q := 127) dX7_repeat_124 rfl rfl (by decide) (by omega) ?_
                              refine aw_goto (q := 70) dX7_repeat_127 (by decide) ?_
                              refine aw_ls (ls := [some (vR 82), some (vI (i)), some (vI (w)), some (vI (jx)), some (vI (ix + 1)), none, none]) ⟨rfl, ⟨rfl, ⟨rfl, ⟨rfl, ⟨rfl, trivial⟩⟩⟩⟩⟩ ?_
                              exact ihlp2 (I + 1) _ (by omega) (by omega) (by omega) (fun i9 h1 h2 => by rcases Nat.lt_succ_iff_lt_or_eq.mp h1 with q | q; exact hni i9 q h2; subst q; exact (hsx.resolve_left (fun h => by omega)).2 h2)
                            · skip
                              refine aw_iload_n (q := 123) dX7_repeat_122 rfl rfl rfl ?_
                              exact aw_iret dX7_repeat_123 rfl (by decide) (by decide) ⟨rfl, FrR_w hF0 (by omega) (by omega), _, rfl, by rw [tx2_0 (by omega) (by omega)]; exact hm0, fun _ => by rw [hid, hwN]; exact Or.inl ⟨J, hjx, hNJ, by omega, ⟨I, by omega, by have h9 := (hsx.resolve_right (fun h => by omega)).2; rw [show K = N by omega] at h9; exact h9⟩, hno⟩⟩
                          · skip
                            refine aw_iload (q := 92) dX7_repeat_90 rfl rfl ?_
                            refine aw_if_eq (t := 117) (q := 95) dX7_repeat_92 rfl (by decide) (fun bc3 => ?_) (fun bc3 => ?_)
                            · skip
                              refine aw_iload (q := 119) dX7_repeat_117 rfl rfl ?_
                              refine aw_if_eq (t := 124) (q := 122) dX7_repeat_119 rfl (by decide) (fun bc4 => ?_) (fun bc4 => ?_)
                              · skip
                                refine aw_iinc (q := 127) dX7_repeat_124 rfl rfl (by decide) (by omega) ?_
                                refine aw_goto (q := 70) dX7_repeat_127 (by decide) ?_
                                refine aw_ls (ls := [some (vR 82), some (vI (i)), some (vI (w)), some (vI (jx)), some (vI (ix + 1)), none, none]) ⟨rfl, ⟨rfl, ⟨rfl, ⟨rfl, ⟨rfl, trivial⟩⟩⟩⟩⟩ ?_
                                exact ihlp2 (I + 1) _ (by omega) (by omega) (by omega) (fun i9 h1 h2 => by rcases Nat.lt_succ_iff_lt_or_eq.mp h1 with q | q; exact hni i9 q h2; subst q; exact (hsx.resolve_left (fun h => by omega)).2 h2)
                              · skip
                                refine aw_iload_n (q := 123) dX7_repeat_122 rfl rfl rfl ?_
                                exact aw_iret dX7_repeat_123 rfl (by decide) (by decide) ⟨rfl, FrR_w hF0 (by omega) (by omega), _, rfl, by rw [tx2_0 (by omega) (by omega)]; exact hm0, fun _ => by rw [hid, hwN]; exact Or.inl ⟨J, hjx, hNJ, by omega, ⟨I, by omega, by have h9 := (hsx.resolve_right (fun h => by omega)).2; rw [show K = N by omega] at h9; exact h9⟩, hno⟩⟩
                            · skip
                              refine aw_aload_n (q := 96) dX7_repeat_95 rfl rfl rfl ?_
                              refine aw_iload_n (q := 97) dX7_repeat_96 rfl rfl rfl ?_
                              refine aw_iload (q := 99) dX7_repeat_97 rfl rfl ?_
                              refine aw_iload (q := 101) dX7_repeat_99 rfl rfl ?_
                              refine aw_iadd (q := 102) dX7_repeat_101 rfl (by omega) ?_
                              refine aw_iload_n (q := 103) dX7_repeat_102 rfl rfl rfl ?_
                              refine aw_iload (q := 105) dX7_repeat_103 rfl rfl ?_
                              refine aw_iadd (q := 106) dX7_repeat_105 rfl (by omega) ?_
                              refine aw_callV [vI (i), vI (ix + kx), vI (jx + kx)] (q := 109) dX7_repeat_106 rfl ck_X7_isSame lk_X7_185 rfl ⟨Nat.le_of_ble_eq_true rfl, Nat.le_of_ble_eq_true rfl⟩ rfl rfl h82 rfl (Nat.le_of_ble_eq_true rfl) (by decide) (m_X7_isSame (d := d) (a := I + K) (b := J + K) hi hd5 (by omega) (by omega) (by omega) (by omega) hm0 hO) rfl (fun _ _ _ h => (Rt_x h).elim) ?_
                              rintro v n9 μ9 - ⟨v9, hv9, hn9, hm9, rfl⟩
                              obtain rfl := hn9.symm
                              obtain rfl := hm9.symm
                              obtain rfl := Sum.inl.inj hv9
                              refine aw_istore (q := 111) dX7_repeat_109 rfl (by decide) ?_
                              refine aw_iinc (q := 114) dX7_repeat_111 rfl rfl (by decide) (by omega) ?_
                              refine aw_goto (q := 84) dX7_repeat_114 (by decide) ?_
                              exact ihlp3 (K + 1) _ _ (by omega) (by omega) (by omega) (by by_cases q : smS (dv d).2.1 (dv d).2.2.1 (dv d).2.2.2.1 (I + K) (J + K); exact Or.inl ⟨bz_t q, smN_s (hsx.resolve_right (fun h => by omega)).2 q⟩; exact Or.inr ⟨bz_f q, fun h => q (h K (by omega))⟩)
                      exact lp3 (N + 1) 0 _ _ (by omega) rfl (by omega) (Or.inl ⟨rfl, fun t ht => absurd ht (Nat.not_lt_zero _)⟩)
                exact lp2 (J + 2) 0 _ (by omega) rfl (by omega) (fun i9 h9 => absurd h9 (Nat.not_lt_zero _))
          exact lp1 ((dv d).1 + 1) N _ (by omega) (by omega) (Nat.le_refl _) (by omega) (fun j h1 h2 => by omega)
        · skip
          omega
      · skip
        replace bc3 := bz_0.mp bc3
        refine aw_iconst (q := 40) dX7_repeat_39 rfl (by omega) ?_
        refine aw_goto (q := 44) dX7_repeat_40 (by decide) ?_
        refine aw_iconst (q := 45) dX7_repeat_44 rfl (by omega) ?_
        refine aw_callV [vI (1), vI (2)] (q := 48) dX7_repeat_45 rfl ck_X7_fails lk_X7_82 rfl ⟨Nat.le_of_ble_eq_true rfl, Nat.le_of_ble_eq_true rfl⟩ rfl rfl h82 rfl (Nat.le_of_ble_eq_true rfl) (by decide) (m_X7_fails_t h82 (by omega)) rfl (fun _ _ _ h => (Rt_x h).elim) ?_
        rintro v n9 μ9 - ⟨v9, hv9, hn9, hm9, rfl⟩
        obtain rfl := hn9.symm
        obtain rfl := hm9.symm
        obtain rfl := Sum.inl.inj hv9
        refine aw_if_eq (t := 53) (q := 51) dX7_repeat_48 rfl (by decide) (fun bc5 => ?_) (fun bc5 => ?_)
        · skip
          omega
        · skip
          refine aw_iconst (q := 52) dX7_repeat_51 rfl (by omega) ?_
          exact aw_iret dX7_repeat_52 rfl (by decide) (by decide) ⟨rfl, FrR_w (FrR_tr hF0 (FrR_hu FrR_rf (by omega))) (by omega) (by omega), 0, rfl, by rw [tx2_2 (by omega) (by omega)]; exact MM_o hm0, fun h9 => absurd h9 (by omega)⟩
  · skip
    replace bc1 := bz_0.mp bc1
    refine aw_iconst (q := 15) dX7_repeat_14 rfl (by omega) ?_
    refine aw_goto (q := 19) dX7_repeat_15 (by decide) ?_
    refine aw_iconst (q := 20) dX7_repeat_19 rfl (by omega) ?_
    refine aw_callV [vI (1), vI (1)] (q := 23) dX7_repeat_20 rfl ck_X7_fails lk_X7_82 rfl ⟨Nat.le_of_ble_eq_true rfl, Nat.le_of_ble_eq_true rfl⟩ rfl rfl h82 rfl (Nat.le_of_ble_eq_true rfl) (by decide) (m_X7_fails_t h82 (by omega)) rfl (fun _ _ _ h => (Rt_x h).elim) ?_
    rintro v n9 μ9 - ⟨v9, hv9, hn9, hm9, rfl⟩
    obtain rfl := hn9.symm
    obtain rfl := hm9.symm
    obtain rfl := Sum.inl.inj hv9
    refine aw_if_ne (t := 51) (q := 26) dX7_repeat_23 rfl (by decide) (fun bc6 => ?_) (fun bc6 => ?_)
    · skip
      refine aw_iconst (q := 52) dX7_repeat_51 rfl (by omega) ?_
      exact aw_iret dX7_repeat_52 rfl (by decide) (by decide) ⟨rfl, FrR_w (FrR_tr hF0 (FrR_hu FrR_rf (by omega))) (by omega) (by omega), 0, rfl, by rw [tx2_1 (by omega)]; exact MM_o hm0, fun h9 => absurd h9 (by omega)⟩
    · skip
      omega
set_option maxHeartbeats 4000000 in
set_option maxRecDepth 100000 in
theorem m_X7_weightOf {n : Nat} {μ : AH} {th B : Int} {D : Nat} {dv : Nat → DVt} {Fn : Nat} {fv : Nat → FVt} {sv : SVt} {pk fd : Nat × (Nat → Int)} {spd lim : Int} {x i : Int} {s d : Nat} (hx : x = (s : Int)) (hs : s < sv.1) (hi : i = (d : Int)) (hd : d < 5) (hm : MM μ th D dv Fn fv sv pk fd spd lim) (hO : COk B D dv Fn fv sv pk fd spd lim) : AMet YX7_weightOf [vR 82, vI (x), vI (i)] n μ (Pv n μ (vL (wgt (dv d) (sv.2.1 s) (sv.2.2.1 s) (sv.2.2.2 s)))) := by
  refine AMet.of (by decide) rfl (Nat.le_of_ble_eq_true rfl) ?_
  obtain ⟨at7, ls7, wy7, c7, t7, F7, G7, H7, k7, a7, b7, e7, X7, Y7, y7, o7, r7, s7, u7, v7, w7, h82, h83, h84, h85, h86, h87, h88, h89, h90, h91, h92, h93, h94, h95, h96, h97, h98, h99, h100, ag1, ag2, ag3, ag4, ag5, ag6, ag7, ag8⟩ := id hm
  obtain ⟨hN, hdv, hFn, hfv, hsn, hsb, hpk, hfd, hfb, hs1, hs2, hl1, hl2⟩ := id hO
  have hcd := ag1 d hd
  have hdo : dv_O (dv d) := (hdv d hd).1
  obtain ⟨hc60, hpb, hup, hk8, hmb, hst⟩ : dv_O (dv d) := id hdo
  have hsg := ag8 s hs
  have hbs := hsb s hs
  obtain ⟨δ, hδ0⟩ : ∃ δ : Nat → Int, δ = fun p => zabs (tt (dv d).2.2.2.2.2.1 (dv d).2.2.2.2.2.2.1 (dv d).2.2.2.2.2.2.2 ((dv d).2.1 p) - sv.2.1 s) := ⟨_, rfl⟩
  have hδ : ∀ p, δ p = zabs (tt (dv d).2.2.2.2.2.1 (dv d).2.2.2.2.2.2.1 (dv d).2.2.2.2.2.2.2 ((dv d).2.1 p) - sv.2.1 s) := fun p => by rw [hδ0]
  refine aw_iconst (q := 1) dX7_weightOf_0 rfl (by omega) ?_
  refine aw_istore_n (q := 2) dX7_weightOf_1 rfl rfl (by decide) ?_
  refine aw_lconst (a := 0) (q := 3) dX7_weightOf_2 rfl rfl (by omega) ?_
  refine aw_lstore (q := 5) dX7_weightOf_3 rfl (by decide) ?_
  refine aw_iconst (q := 6) dX7_weightOf_5 rfl (by omega) ?_
  refine aw_istore (q := 8) dX7_weightOf_6 rfl (by decide) ?_
  have lp : ∀ (jlp : Nat) (p : Nat) (bx nx px : Int), (dv d).1 - p < jlp → px = (p : Int) → p ≤ (dv d).1 → ((p = 0 ∧ bx = -1) ∨ (0 < p ∧ bx = 60 * (d : Int) + (nrN δ p : Int) ∧ nx = δ (nrN δ p))) → AW YX7_weightOf none (Pv n μ (vL (wgt (dv d) (sv.2.1 s) (sv.2.2.1 s) (sv.2.2.2 s)))) 8 [some (vR 82), some (vI (x)), some (vI (i)), some (vI (bx)), some (vL (nx)), none, some (vI (px)), none, none] [] n μ 0 0 := by
    intro jlp
    induction jlp with
    | zero => intro p bx nx px hj; exact absurd hj (Nat.not_lt_zero _)
    | succ jlp ihlp =>
      intro p bx nx px hjlp hpx hpc hin
      refine aw_iload (q := 10) dX7_weightOf_8 rfl rfl ?_
      refine aw_aload_n (q := 11) dX7_weightOf_10 rfl rfl rfl ?_
      refine aw_get (q := 14) dX7_weightOf_11 rfl fl_X7_7 h82 rfl (fun _ => ?_)
      refine aw_iload_n (q := 15) dX7_weightOf_14 rfl rfl rfl ?_
      refine aw_iaload (j := d) (q := 16) dX7_weightOf_15 rfl h83 (by omega) (by omega) (fun rx1 => ?_)
      refine aw_ic_ge (t := 81) (q := 19) dX7_weightOf_16 rfl (by decide) (fun bc2 => ?_) (fun bc2 => ?_)
      · skip
        refine aw_iload_n (q := 82) dX7_weightOf_81 rfl rfl rfl ?_
        refine aw_iconst (q := 83) dX7_weightOf_82 rfl (by omega) ?_
        refine aw_ic_ne (t := 92) (q := 86) dX7_weightOf_83 rfl (by decide) (fun bc3 => ?_) (fun bc3 => ?_)
        · skip
          have hp0 : 0 < p := by omega
          have hpe : p = (dv d).1 := by omega
          obtain ⟨r, hr⟩ : ∃ r : Nat, nrN δ p = r := ⟨_, rfl⟩
          have hrc : r < (dv d).1 := by rw [← hr, ← hpe]; exact nrN_lt δ p hp0
          have hbx : bx = ((60 * d + r : Nat) : Int) := by rw [hr] at hin; omega
          have hag := ag2 d r hd hrc
          have hbr := hpb r hrc
          have hwg := wgt_n (v := dv d) (t := sv.2.1 s) (x := sv.2.2.1 s) (y := sv.2.2.2 s) (r := r) (by omega) (by rw [← hr, hpe]; exact congrArg (fun f => nrN f (dv d).1) (funext fun p => (hδ p).symm))
          refine aw_aload_n (q := 93) dX7_weightOf_92 rfl rfl rfl ?_
          refine aw_get (q := 96) dX7_weightOf_93 rfl fl_X7_19 h82 rfl (fun _ => ?_)
          refine aw_iload_n (q := 97) dX7_weightOf_96 rfl rfl rfl ?_
          refine aw_iaload (j := 60 * d + r) (q := 98) dX7_weightOf_97 rfl h86 (by omega) (by omega) (fun rx4 => ?_)
          rw [hag.2.1]
          refine aw_aload_n (q := 99) dX7_weightOf_98 rfl rfl rfl ?_
          refine aw_get (q := 102) dX7_weightOf_99 rfl fl_X7_62 h82 rfl (fun _ => ?_)
          refine aw_iload_n (q := 103) dX7_weightOf_102 rfl rfl rfl ?_
          refine aw_iaload (j := s) (q := 104) dX7_weightOf_103 rfl h98 (by omega) (by omega) (fun rx5 => ?_)
          rw [hsg.2.1]
          refine aw_isub (q := 105) dX7_weightOf_104 rfl (by omega) ?_
          refine aw_i2l (q := 106) dX7_weightOf_105 rfl ?_
          refine aw_aload_n (q := 107) dX7_weightOf_106 rfl rfl rfl ?_
          refine aw_get (q := 110) dX7_weightOf_107 rfl fl_X7_22 h82 rfl (fun _ => ?_)
          refine aw_iload_n (q := 111) dX7_weightOf_110 rfl rfl rfl ?_
          refine aw_iaload (j := 60 * d + r) (q := 112) dX7_weightOf_111 rfl h87 (by omega) (by omega) (fun rx6 => ?_)
          rw [hag.2.2]
          refine aw_aload_n (q := 113) dX7_weightOf_112 rfl rfl rfl ?_
          refine aw_get (q := 116) dX7_weightOf_113 rfl fl_X7_65 h82 rfl (fun _ => ?_)
          refine aw_iload_n (q := 117) dX7_weightOf_116 rfl rfl rfl ?_
          refine aw_iaload (j := s) (q := 118) dX7_weightOf_117 rfl h99 (by omega) (by omega) (fun rx7 => ?_)
          rw [hsg.2.2]
          refine aw_isub (q := 119) dX7_weightOf_118 rfl (by omega) ?_
          refine aw_i2l (q := 120) dX7_weightOf_119 rfl ?_
          refine aw_callS [vL (((dv d).2.2.1 r) - (sv.2.2.1 s)), vL (((dv d).2.2.2.1 r) - (sv.2.2.2 s))] (q := 123) dX7_weightOf_120 rfl ck_X7_square lk_X7_124 rfl ⟨Nat.le_of_ble_eq_true rfl, Nat.le_of_ble_eq_true rfl⟩ rfl rfl (Nat.le_of_ble_eq_true rfl) (by decide) (m_X7_square (by omega) (by omega)) rfl (fun _ _ _ h => (Rt_x h).elim) ?_
          rintro v n9 μ9 - ⟨v9, hv9, hn9, hm9, rfl⟩
          obtain rfl := hn9.symm
          obtain rfl := hm9.symm
          obtain rfl := Sum.inl.inj hv9
          exact aw_lret dX7_weightOf_123 rfl (by decide) (by decide) ⟨_, rfl, rfl, rfl, congrArg vL hwg.symm⟩
        · skip
          refine aw_ldc2 (a := -1) (q := 89) dX7_weightOf_86 rfl k_X7_195 (by omega) ?_
          refine aw_goto (q := 123) dX7_weightOf_89 (by decide) ?_
          exact aw_lret dX7_weightOf_123 rfl (by decide) (by decide) ⟨_, rfl, rfl, rfl, congrArg vL (wgt_0 (by omega)).symm⟩
      · skip
        have hft := tt_bb hdo (show p < (dv d).1 by omega)
        refine aw_aload_n (q := 20) dX7_weightOf_19 rfl rfl rfl ?_
        refine aw_iload_n (q := 21) dX7_weightOf_20 rfl rfl rfl ?_
        refine aw_aload_n (q := 22) dX7_weightOf_21 rfl rfl rfl ?_
        refine aw_get (q := 25) dX7_weightOf_22 rfl fl_X7_16 h82 rfl (fun _ => ?_)
        refine aw_bipush (q := 27) dX7_weightOf_25 rfl (by decide) (by omega) ?_
        refine aw_iload_n (q := 28) dX7_weightOf_27 rfl rfl rfl ?_
        refine aw_imul (q := 29) dX7_weightOf_28 rfl (by omega) ?_
        refine aw_iload (q := 31) dX7_weightOf_29 rfl rfl ?_
        refine aw_iadd (q := 32) dX7_weightOf_31 rfl (by omega) ?_
        refine aw_iaload (j := 60 * d + p) (q := 33) dX7_weightOf_32 rfl h85 (by omega) (by omega) (fun rx8 => ?_)
        rw [(ag2 d p hd (by omega)).1]
        refine aw_callV [vI (i), vI ((dv d).2.1 p)] (q := 36) dX7_weightOf_33 rfl ck_X7_timeOf lk_X7_115 rfl ⟨Nat.le_of_ble_eq_true rfl, Nat.le_of_ble_eq_true rfl⟩ rfl rfl h82 rfl (Nat.le_of_ble_eq_true rfl) (by decide) (m_X7_timeOf (d := d) hi hd (by have := hpb p (by omega); omega) hm hO) rfl (fun _ _ _ h => (Rt_x h).elim) ?_
        rintro v n9 μ9 - ⟨v9, hv9, hn9, hm9, rfl⟩
        obtain rfl := hn9.symm
        obtain rfl := hm9.symm
        obtain rfl := Sum.inl.inj hv9
        refine aw_i2l (q := 37) dX7_weightOf_36 rfl ?_
        refine aw_aload_n (q := 38) dX7_weightOf_37 rfl rfl rfl ?_
        refine aw_get (q := 41) dX7_weightOf_38 rfl fl_X7_59 h82 rfl (fun _ => ?_)
        refine aw_iload_n (q := 42) dX7_weightOf_41 rfl rfl rfl ?_
        refine aw_iaload (j := s) (q := 43) dX7_weightOf_42 rfl h97 (by omega) (by omega) (fun rx9 => ?_)
        rw [hsg.1]
        refine aw_i2l (q := 44) dX7_weightOf_43 rfl ?_
        refine aw_lsub (q := 45) dX7_weightOf_44 rfl (by omega) ?_
        refine aw_callS [vL ((tt (dv d).2.2.2.2.2.1 (dv d).2.2.2.2.2.2.1 (dv d).2.2.2.2.2.2.2 ((dv d).2.1 p)) - (sv.2.1 s))] (q := 48) dX7_weightOf_45 rfl ck_X7_size lk_X7_192 rfl ⟨Nat.le_of_ble_eq_true rfl, Nat.le_of_ble_eq_true rfl⟩ rfl rfl (Nat.le_of_ble_eq_true rfl) (by decide) (m_X7_size (by omega)) rfl (fun _ _ _ h => (Rt_x h).elim) ?_
        rintro v n9 μ9 - ⟨v9, hv9, hn9, hm9, rfl⟩
        obtain rfl := hn9.symm
        obtain rfl := hm9.symm
        obtain rfl := Sum.inl.inj hv9
        rw [← hδ p]
        refine aw_lstore (q := 50) dX7_weightOf_48 rfl (by decide) ?_
        refine aw_iload_n (q := 51) dX7_weightOf_50 rfl rfl rfl ?_
        refine aw_iconst (q := 52) dX7_weightOf_51 rfl (by omega) ?_
        refine aw_ic_eq (t := 63) (q := 55) dX7_weightOf_52 rfl (by decide) (fun bc10 => ?_) (fun bc10 => ?_)
        · skip
          refine aw_bipush (q := 65) dX7_weightOf_63 rfl (by decide) (by omega) ?_
          refine aw_iload_n (q := 66) dX7_weightOf_65 rfl rfl rfl ?_
          refine aw_imul (q := 67) dX7_weightOf_66 rfl (by omega) ?_
          refine aw_iload (q := 69) dX7_weightOf_67 rfl rfl ?_
          refine aw_iadd (q := 70) dX7_weightOf_69 rfl (by omega) ?_
          refine aw_istore_n (q := 71) dX7_weightOf_70 rfl rfl (by decide) ?_
          refine aw_lload (q := 73) dX7_weightOf_71 rfl rfl ?_
          refine aw_lstore (q := 75) dX7_weightOf_73 rfl (by decide) ?_
          refine aw_iinc (q := 78) dX7_weightOf_75 rfl rfl (by decide) (by omega) ?_
          refine aw_goto (q := 8) dX7_weightOf_78 (by decide) ?_
          refine aw_ls (ls := [some (vR 82), some (vI (x)), some (vI (i)), some (vI ((60 * i) + px)), some (vL (δ p)), none, some (vI (px + 1)), none, none]) ⟨rfl, ⟨rfl, ⟨rfl, ⟨rfl, ⟨rfl, ⟨rfl, trivial⟩⟩⟩⟩⟩⟩ ?_
          exact ihlp (p + 1) _ _ _ (by omega) (by omega) (by omega) (Or.inr ⟨by omega, by first | (rw [show p = 0 by omega, nr_1]; omega) | (rw [nr_t (by omega) (by omega)]; omega) | (rw [nr_f (by omega) (by omega)]; omega), by first | (rw [show p = 0 by omega, nr_1]) | (rw [nr_t (by omega) (by omega)]) | (rw [nr_f (by omega) (by omega)]; omega)⟩)
        · skip
          refine aw_lload (q := 57) dX7_weightOf_55 rfl rfl ?_
          refine aw_lload (q := 59) dX7_weightOf_57 rfl rfl ?_
          refine aw_lcmp (q := 60) dX7_weightOf_59 rfl ?_
          refine aw_if_ge (t := 75) (q := 63) dX7_weightOf_60 rfl (by decide) (fun bc11 => ?_) (fun bc11 => ?_)
          · skip
            replace bc11 := cmpz_ge.mp bc11
            refine aw_iinc (q := 78) dX7_weightOf_75 rfl rfl (by decide) (by omega) ?_
            refine aw_goto (q := 8) dX7_weightOf_78 (by decide) ?_
            refine aw_ls (ls := [some (vR 82), some (vI (x)), some (vI (i)), some (vI (bx)), some (vL (nx)), none, some (vI (px + 1)), none, none]) ⟨rfl, ⟨rfl, ⟨rfl, ⟨rfl, ⟨rfl, ⟨rfl, trivial⟩⟩⟩⟩⟩⟩ ?_
            exact ihlp (p + 1) _ _ _ (by omega) (by omega) (by omega) (Or.inr ⟨by omega, by first | (rw [show p = 0 by omega, nr_1]; omega) | (rw [nr_t (by omega) (by omega)]; omega) | (rw [nr_f (by omega) (by omega)]; omega), by first | (rw [show p = 0 by omega, nr_1]) | (rw [nr_t (by omega) (by omega)]) | (rw [nr_f (by omega) (by omega)]; omega)⟩)
          · skip
            replace bc11 := mt cmpz_ge.mpr bc11
            refine aw_bipush (q := 65) dX7_weightOf_63 rfl (by decide) (by omega) ?_
            refine aw_iload_n (q := 66) dX7_weightOf_65 rfl rfl rfl ?_
            refine aw_imul (q := 67) dX7_weightOf_66 rfl (by omega) ?_
            refine aw_iload (q := 69) dX7_weightOf_67 rfl rfl ?_
            refine aw_iadd (q := 70) dX7_weightOf_69 rfl (by omega) ?_
            refine aw_istore_n (q := 71) dX7_weightOf_70 rfl rfl (by decide) ?_
            refine aw_lload (q := 73) dX7_weightOf_71 rfl rfl ?_
            refine aw_lstore (q := 75) dX7_weightOf_73 rfl (by decide) ?_
            refine aw_iinc (q := 78) dX7_weightOf_75 rfl rfl (by decide) (by omega) ?_
            refine aw_goto (q := 8) dX7_weightOf_78 (by decide) ?_
            refine aw_ls (ls := [some (vR 82), some (vI (x)), some (vI (i)), some (vI ((60 * i) + px)), some (vL (δ p)), none, some (vI (px + 1)), none, none]) ⟨rfl, ⟨rfl, ⟨rfl, ⟨rfl, ⟨rfl, ⟨rfl, trivial⟩⟩⟩⟩⟩⟩ ?_
            exact ihlp (p + 1) _ _ _ (by omega) (by omega) (by omega) (Or.inr ⟨by omega, by first | (rw [show p = 0 by omega, nr_1]; omega) | (rw [nr_t (by omega) (by omega)]; omega) | (rw [nr_f (by omega) (by omega)]; omega), by first | (rw [show p = 0 by omega, nr_1]) | (rw [nr_t (by omega) (by omega)]) | (rw [nr_f (by omega) (by omega)]; omega)⟩)
  exact lp ((dv d).1 + 1) 0 _ _ _ (by omega) rfl (by omega) (Or.inl ⟨rfl, rfl⟩)
set_option maxHeartbeats 4000000 in
set_option maxRecDepth 100000 in
theorem m_X7_weight {n : Nat} {μ : AH} {th B : Int} {D : Nat} {dv : Nat → DVt} {Fn : Nat} {fv : Nat → FVt} {sv : SVt} {pk fd : Nat × (Nat → Int)} {spd lim : Int} {x i : Int} (hm : MM μ th D dv Fn fv sv pk fd spd lim) (hO : COk B D dv Fn fv sv pk fd spd lim) : AMet YX7_weight [vR 82, vI (x), vI (i)] n μ (fun o n' μ' => n' = n ∧ FrR 82 101 μ μ' ∧ ∃ v : Int, o = .inl (some (vL v)) ∧ MM μ' (tx1 ((0 ≤ x ∧ x < (sv.1 : Int)) ∧ 0 ≤ i ∧ i < (D : Int))) D dv Fn fv sv pk fd spd lim ∧ (((0 ≤ x ∧ x < (sv.1 : Int)) ∧ 0 ≤ i ∧ i < (D : Int)) → v = wgt (dv i.toNat) (sv.2.1 x.toNat) (sv.2.2.1 x.toNat) (sv.2.2.2 x.toNat))) := by
  refine AMet.of (by decide) rfl (Nat.le_of_ble_eq_true rfl) ?_
  obtain ⟨at7, ls7, wy7, c7, t7, F7, G7, H7, k7, a7, b7, e7, X7, Y7, y7, o7, r7, s7, u7, v7, w7, h82, h83, h84, h85, h86, h87, h88, h89, h90, h91, h92, h93, h94, h95, h96, h97, h98, h99, h100, ag1, ag2, ag3, ag4, ag5, ag6, ag7, ag8⟩ := id hm
  obtain ⟨hN, hdv, hFn, hfv, hsn, hsb, hpk, hfd, hfb, hs1, hs2, hl1, hl2⟩ := id hO
  refine aw_aload_n (q := 1) dX7_weight_0 rfl rfl rfl ?_
  refine aw_iconst (q := 2) dX7_weight_1 rfl (by omega) ?_
  refine aw_put (q := 5) dX7_weight_2 rfl fp_X7_72 h82 (Nat.le_of_ble_eq_true rfl) trivial ?_
  refine mm_z (at' := at7) (ls' := ls7) (wy' := wy7) hm (fun μ0 hm0 hF0 => ?_)
  obtain ⟨at7, ls7, wy7, c7, t7, F7, G7, H7, k7, a7, b7, e7, X7, Y7, y7, o7, r7, s7, u7, v7, w7, h82, h83, h84, h85, h86, h87, h88, h89, h90, h91, h92, h93, h94, h95, h96, h97, h98, h99, h100, ag1, ag2, ag3, ag4, ag5, ag6, ag7, ag8⟩ := id hm0
  refine aw_aload_n (q := 6) dX7_weight_5 rfl rfl rfl ?_
  refine aw_iload_n (q := 7) dX7_weight_6 rfl rfl rfl ?_
  refine aw_if_lt (t := 26) (q := 10) dX7_weight_7 rfl (by decide) (fun bc1 => ?_) (fun bc1 => ?_)
  · skip
    refine aw_iconst (q := 27) dX7_weight_26 rfl (by omega) ?_
    refine aw_goto (q := 31) dX7_weight_27 (by decide) ?_
    refine aw_iconst (q := 32) dX7_weight_31 rfl (by omega) ?_
    refine aw_callV [vI (1), vI (1)] (q := 35) dX7_weight_32 rfl ck_X7_fails lk_X7_82 rfl ⟨Nat.le_of_ble_eq_true rfl, Nat.le_of_ble_eq_true rfl⟩ rfl rfl h82 rfl (Nat.le_of_ble_eq_true rfl) (by decide) (m_X7_fails_t h82 (by omega)) rfl (fun _ _ _ h => (Rt_x h).elim) ?_
    rintro v n9 μ9 - ⟨v9, hv9, hn9, hm9, rfl⟩
    obtain rfl := hn9.symm
    obtain rfl := hm9.symm
    obtain rfl := Sum.inl.inj hv9
    refine aw_if_eq (t := 40) (q := 38) dX7_weight_35 rfl (by decide) (fun bc2 => ?_) (fun bc2 => ?_)
    · skip
      omega
    · skip
      refine aw_lconst (a := 0) (q := 39) dX7_weight_38 rfl rfl (by omega) ?_
      exact aw_lret dX7_weight_39 rfl (by decide) (by decide) ⟨rfl, FrR_w (FrR_tr hF0 (FrR_hu FrR_rf (by omega))) (by omega) (by omega), 0, rfl, by rw [tx1_1 (by omega)]; exact MM_o hm0, fun h9 => absurd h9 (by omega)⟩
  · skip
    refine aw_iload_n (q := 11) dX7_weight_10 rfl rfl rfl ?_
    refine aw_aload_n (q := 12) dX7_weight_11 rfl rfl rfl ?_
    refine aw_get (q := 15) dX7_weight_12 rfl fl_X7_189 h82 rfl (fun _ => ?_)
    refine aw_ic_ge (t := 26) (q := 18) dX7_weight_15 rfl (by decide) (fun bc3 => ?_) (fun bc3 => ?_)
    · skip
      refine aw_iconst (q := 27) dX7_weight_26 rfl (by omega) ?_
      refine aw_goto (q := 31) dX7_weight_27 (by decide) ?_
      refine aw_iconst (q := 32) dX7_weight_31 rfl (by omega) ?_
      refine aw_callV [vI (1), vI (1)] (q := 35) dX7_weight_32 rfl ck_X7_fails lk_X7_82 rfl ⟨Nat.le_of_ble_eq_true rfl, Nat.le_of_ble_eq_true rfl⟩ rfl rfl h82 rfl (Nat.le_of_ble_eq_true rfl) (by decide) (m_X7_fails_t h82 (by omega)) rfl (fun _ _ _ h => (Rt_x h).elim) ?_
      rintro v n9 μ9 - ⟨v9, hv9, hn9, hm9, rfl⟩
      obtain rfl := hn9.symm
      obtain rfl := hm9.symm
      obtain rfl := Sum.inl.inj hv9
      refine aw_if_eq (t := 40) (q := 38) dX7_weight_35 rfl (by decide) (fun bc4 => ?_) (fun bc4 => ?_)
      · skip
        omega
      · skip
        refine aw_lconst (a := 0) (q := 39) dX7_weight_38 rfl rfl (by omega) ?_
        exact aw_lret dX7_weight_39 rfl (by decide) (by decide) ⟨rfl, FrR_w (FrR_tr hF0 (FrR_hu FrR_rf (by omega))) (by omega) (by omega), 0, rfl, by rw [tx1_1 (by omega)]; exact MM_o hm0, fun h9 => absurd h9 (by omega)⟩
    · skip
      refine aw_aload_n (q := 19) dX7_weight_18 rfl rfl rfl ?_
      refine aw_iload_n (q := 20) dX7_weight_19 rfl rfl rfl ?_
      refine aw_callV [vI (i)] (q := 23) dX7_weight_20 rfl ck_X7_isDevice lk_X7_78 rfl ⟨Nat.le_of_ble_eq_true rfl, Nat.le_of_ble_eq_true rfl⟩ rfl rfl h82 rfl (Nat.le_of_ble_eq_true rfl) (by decide) (m_X7_isDevice hm0 hO) rfl (fun _ _ _ h => (Rt_x h).elim) ?_
      rintro v n9 μ9 - ⟨v9, hv9, hn9, hm9, rfl⟩
      obtain rfl := hn9.symm
      obtain rfl := hm9.symm
      obtain rfl := Sum.inl.inj hv9
      refine aw_if_ne (t := 30) (q := 26) dX7_weight_23 rfl (by decide) (fun bc5 => ?_) (fun bc5 => ?_)
      · skip
        replace bc5 := bz_n0.mp bc5
        refine aw_iconst (q := 31) dX7_weight_30 rfl (by omega) ?_
        refine aw_iconst (q := 32) dX7_weight_31 rfl (by omega) ?_
        refine aw_callV [vI (0), vI (1)] (q := 35) dX7_weight_32 rfl ck_X7_fails lk_X7_82 rfl ⟨Nat.le_of_ble_eq_true rfl, Nat.le_of_ble_eq_true rfl⟩ rfl rfl h82 rfl (Nat.le_of_ble_eq_true rfl) (by decide) (m_X7_fails_f h82) rfl (fun _ _ _ h => (Rt_x h).elim) ?_
        rintro v n9 μ9 - ⟨v9, hv9, hn9, hm9, rfl⟩
        obtain rfl := hn9.symm
        obtain rfl := hm9.symm
        obtain rfl := Sum.inl.inj hv9
        refine aw_if_eq (t := 40) (q := 38) dX7_weight_35 rfl (by decide) (fun bc6 => ?_) (fun bc6 => ?_)
        · skip
          obtain ⟨d, hi⟩ : ∃ d : Nat, i = (d : Int) := ⟨i.toNat, by omega⟩
          have hid : i.toNat = d := by omega
          have hd5 : d < 5 := by omega
          have hcd := ag1 d hd5
          have hdo := (hdv d hd5).1
          have hc60 : (dv d).1 ≤ 60 := hdo.1
          have hk8 : (dv d).2.2.2.2.2.1 ≤ 8 := hdo.2.2.2.1
          obtain ⟨s, hx⟩ : ∃ s : Nat, x = (s : Int) := ⟨x.toNat, by omega⟩
          have hxs : x.toNat = s := by omega
          have hs9 : s < sv.1 := by omega
          refine aw_aload_n (q := 41) dX7_weight_40 rfl rfl rfl ?_
          refine aw_iload_n (q := 42) dX7_weight_41 rfl rfl rfl ?_
          refine aw_iload_n (q := 43) dX7_weight_42 rfl rfl rfl ?_
          refine aw_callV [vI (x), vI (i)] (q := 46) dX7_weight_43 rfl ck_X7_weightOf lk_X7_197 rfl ⟨Nat.le_of_ble_eq_true rfl, Nat.le_of_ble_eq_true rfl⟩ rfl rfl h82 rfl (Nat.le_of_ble_eq_true rfl) (by decide) (m_X7_weightOf (s := s) (d := d) hx hs9 hi hd5 hm0 hO) rfl (fun _ _ _ h => (Rt_x h).elim) ?_
          rintro v n9 μ9 - ⟨v9, hv9, hn9, hm9, rfl⟩
          obtain rfl := hn9.symm
          obtain rfl := hm9.symm
          obtain rfl := Sum.inl.inj hv9
          exact aw_lret dX7_weight_46 rfl (by decide) (by decide) ⟨rfl, FrR_w hF0 (by omega) (by omega), _, rfl, by rw [tx1_0 (by omega)]; exact hm0, fun _ => by rw [hid, hxs]⟩
        · skip
          omega
      · skip
        replace bc5 := bz_0.mp bc5
        refine aw_iconst (q := 27) dX7_weight_26 rfl (by omega) ?_
        refine aw_goto (q := 31) dX7_weight_27 (by decide) ?_
        refine aw_iconst (q := 32) dX7_weight_31 rfl (by omega) ?_
        refine aw_callV [vI (1), vI (1)] (q := 35) dX7_weight_32 rfl ck_X7_fails lk_X7_82 rfl ⟨Nat.le_of_ble_eq_true rfl, Nat.le_of_ble_eq_true rfl⟩ rfl rfl h82 rfl (Nat.le_of_ble_eq_true rfl) (by decide) (m_X7_fails_t h82 (by omega)) rfl (fun _ _ _ h => (Rt_x h).elim) ?_
        rintro v n9 μ9 - ⟨v9, hv9, hn9, hm9, rfl⟩
        obtain rfl := hn9.symm
        obtain rfl := hm9.symm
        obtain rfl := Sum.inl.inj hv9
        refine aw_if_eq (t := 40) (q := 38) dX7_weight_35 rfl (by decide) (fun bc7 => ?_) (fun bc7 => ?_)
        · skip
          omega
        · skip
          refine aw_lconst (a := 0) (q := 39) dX7_weight_38 rfl rfl (by omega) ?_
          exact aw_lret dX7_weight_39 rfl (by decide) (by decide) ⟨rfl, FrR_w (FrR_tr hF0 (FrR_hu FrR_rf (by omega))) (by omega) (by omega), 0, rfl, by rw [tx1_1 (by omega)]; exact MM_o hm0, fun h9 => absurd h9 (by omega)⟩
set_option maxHeartbeats 4000000 in
set_option maxRecDepth 100000 in
theorem m_X7_secondsFor {n : Nat} {μ : AH} {th B : Int} {D : Nat} {dv : Nat → DVt} {Fn : Nat} {fv : Nat → FVt} {sv : SVt} {pk fd : Nat × (Nat → Int)} {spd lim : Int} {sq : Int} (hm : MM μ th D dv Fn fv sv pk fd spd lim) (hO : COk B D dv Fn fv sv pk fd spd lim) : AMet YX7_secondsFor [vR 82, vL (sq)] n μ (Rt (fun v n' μ' => n' = n ∧ μ' = μ ∧ ∃ r : Nat, v = vL (r : Int) ∧ SecR sq spd r)) := by
  refine AMet.of (by decide) rfl (Nat.le_of_ble_eq_true rfl) ?_
  obtain ⟨at7, ls7, wy7, c7, t7, F7, G7, H7, k7, a7, b7, e7, X7, Y7, y7, o7, r7, s7, u7, v7, w7, h82, h83, h84, h85, h86, h87, h88, h89, h90, h91, h92, h93, h94, h95, h96, h97, h98, h99, h100, ag1, ag2, ag3, ag4, ag5, ag6, ag7, ag8⟩ := id hm
  obtain ⟨hN, hdv, hFn, hfv, hsn, hsb, hpk, hfd, hfb, hs1, hs2, hl1, hl2⟩ := id hO
  refine aw_lconst (a := 0) (q := 1) dX7_secondsFor_0 rfl rfl (by omega) ?_
  refine aw_lstore_n (q := 2) dX7_secondsFor_1 rfl rfl (by decide) ?_
  refine aw_ldc2 (a := 1000000) (q := 5) dX7_secondsFor_2 rfl k_X7_94 (by omega) ?_
  refine aw_lstore (q := 7) dX7_secondsFor_5 rfl (by decide) ?_
  have lp : ∀ (jlp : Nat) (lo hi : Nat) (lx ex : Int), hi - lo < jlp → lx = (lo : Int) → ex = (hi : Int) → lo ≤ hi → hi ≤ 1000000 → (∀ t : Nat, t < lo → (spd * (t : Int)) * (spd * (t : Int)) < sq) → (hi < 1000000 → sq ≤ (spd * (hi : Int)) * (spd * (hi : Int))) → AW YX7_secondsFor none (Rt (fun v n' μ' => n' = n ∧ μ' = μ ∧ ∃ r : Nat, v = vL (r : Int) ∧ SecR sq spd r)) 7 [some (vR 82), some (vL (sq)), none, some (vL (lx)), none, some (vL (ex)), none, none, none] [] n μ 0 0 := by
    intro jlp
    induction jlp with
    | zero => intro lo hi lx ex hj; exact absurd hj (Nat.not_lt_zero _)
    | succ jlp ihlp =>
      intro lo hi lx ex hjlp hlx hex hlh hhi hlt hgt
      refine aw_lload_n (q := 8) dX7_secondsFor_7 rfl rfl rfl ?_
      refine aw_lload (q := 10) dX7_secondsFor_8 rfl rfl ?_
      refine aw_lcmp (q := 11) dX7_secondsFor_10 rfl ?_
      refine aw_if_ge (t := 61) (q := 14) dX7_secondsFor_11 rfl (by decide) (fun bc1 => ?_) (fun bc1 => ?_)
      · skip
        replace bc1 := cmpz_ge.mp bc1
        refine aw_lload_n (q := 62) dX7_secondsFor_61 rfl rfl rfl ?_
        exact aw_lret dX7_secondsFor_62 rfl (by decide) (by decide) ⟨_, rfl, rfl, rfl, lo, by rw [hlx], by omega, hlt, fun h => by rw [show lo = hi by omega]; exact hgt (by omega)⟩
      · skip
        replace bc1 := mt cmpz_ge.mpr bc1
        refine aw_lload_n (q := 15) dX7_secondsFor_14 rfl rfl rfl ?_
        refine aw_lload (q := 17) dX7_secondsFor_15 rfl rfl ?_
        refine aw_ladd (q := 18) dX7_secondsFor_17 rfl (by omega) ?_
        refine aw_ldc2 (a := 2) (q := 21) dX7_secondsFor_18 rfl k_X7_136 (by omega) ?_
        refine aw_ldiv (q := 22) dX7_secondsFor_21 rfl (by omega) (by rw [Int.tdiv_eq_ediv_of_nonneg (by omega)]; omega) ?_
        obtain ⟨mid, hmid, hmid2⟩ : ∃ mid : Nat, Int.tdiv (lx + ex) 2 = (mid : Int) ∧ (lx + ex) / 2 = (mid : Int) := ⟨(lo + hi) / 2, by rw [Int.tdiv_eq_ediv_of_nonneg (by omega)]; omega, by omega⟩
        rw [hmid]
        have hmd : lo ≤ mid ∧ mid < hi := by omega
        have m1 := mul_s (u := spd) (w := (mid : Int)) 100 1000000 (by omega) (by omega)
        have m2 := mul_s (u := spd * (mid : Int)) (w := spd) 100000000 100 (by omega) (by omega)
        have m3 := mul_s (u := spd * (mid : Int) * spd) (w := (mid : Int)) 10000000000 1000000 (by omega) (by omega)
        have m4 : spd * (mid : Int) * spd * (mid : Int) = (spd * (mid : Int)) * (spd * (mid : Int)) := Int.mul_assoc _ _ _
        refine aw_lstore (q := 24) dX7_secondsFor_22 rfl (by decide) ?_
        refine aw_aload_n (q := 25) dX7_secondsFor_24 rfl rfl rfl ?_
        refine aw_get (q := 28) dX7_secondsFor_25 rfl fl_X7_34 h82 rfl (fun _ => ?_)
        refine aw_i2l (q := 29) dX7_secondsFor_28 rfl ?_
        refine aw_lload (q := 31) dX7_secondsFor_29 rfl rfl ?_
        refine aw_lmul (q := 32) dX7_secondsFor_31 rfl (by omega) ?_
        refine aw_aload_n (q := 33) dX7_secondsFor_32 rfl rfl rfl ?_
        refine aw_get (q := 36) dX7_secondsFor_33 rfl fl_X7_34 h82 rfl (fun _ => ?_)
        refine aw_i2l (q := 37) dX7_secondsFor_36 rfl ?_
        refine aw_lmul (q := 38) dX7_secondsFor_37 rfl (by omega) ?_
        refine aw_lload (q := 40) dX7_secondsFor_38 rfl rfl ?_
        refine aw_lmul (q := 41) dX7_secondsFor_40 rfl (by omega) ?_
        refine aw_lload_n (q := 42) dX7_secondsFor_41 rfl rfl rfl ?_
        refine aw_lcmp (q := 43) dX7_secondsFor_42 rfl ?_
        refine aw_if_lt (t := 53) (q := 46) dX7_secondsFor_43 rfl (by decide) (fun bc2 => ?_) (fun bc2 => ?_)
        · skip
          replace bc2 := cmpz_lt.mp bc2
          refine aw_lload (q := 55) dX7_secondsFor_53 rfl rfl ?_
          refine aw_lconst (a := 1) (q := 56) dX7_secondsFor_55 rfl rfl (by omega) ?_
          refine aw_ladd (q := 57) dX7_secondsFor_56 rfl (by omega) ?_
          refine aw_lstore_n (q := 58) dX7_secondsFor_57 rfl rfl (by decide) ?_
          refine aw_goto (q := 7) dX7_secondsFor_58 (by decide) ?_
          refine aw_ls (ls := [some (vR 82), some (vL (sq)), none, some (vL ((mid : Int) + 1)), none, some (vL (ex)), none, none, none]) ⟨rfl, ⟨rfl, ⟨rfl, ⟨rfl, trivial⟩⟩⟩⟩ ?_
          exact ihlp (mid + 1) hi _ _ (by omega) (by omega) hex (by omega) hhi (fun t ht => by have := sq_mono (spd := spd) (by omega) (show t ≤ mid by omega); omega) hgt
        · skip
          replace bc2 := mt cmpz_lt.mpr bc2
          refine aw_lload (q := 48) dX7_secondsFor_46 rfl rfl ?_
          refine aw_lstore (q := 50) dX7_secondsFor_48 rfl (by decide) ?_
          refine aw_goto (q := 58) dX7_secondsFor_50 (by decide) ?_
          refine aw_goto (q := 7) dX7_secondsFor_58 (by decide) ?_
          refine aw_ls (ls := [some (vR 82), some (vL (sq)), none, some (vL (lx)), none, some (vL ((mid : Int))), none, none, none]) ⟨rfl, ⟨rfl, ⟨rfl, ⟨rfl, trivial⟩⟩⟩⟩ ?_
          exact ihlp lo mid _ _ (by omega) hlx rfl (by omega) (by omega) hlt (fun _ => by omega)
  exact lp 1000001 0 1000000 _ _ (by omega) rfl rfl (by omega) (by omega) (fun t ht => absurd ht (Nat.not_lt_zero _)) (fun h => by omega)
set_option maxHeartbeats 4000000 in
set_option maxRecDepth 100000 in
theorem m_X7_way {n : Nat} {μ : AH} {th B : Int} {D : Nat} {dv : Nat → DVt} {Fn : Nat} {fv : Nat → FVt} {sv : SVt} {pk fd : Nat × (Nat → Int)} {spd lim : Int} {k9 a b : Int} {d p : Nat} (hk : k9 = 60 * (d : Int) + (p : Int)) (hd : d < 5) (hp : p < (dv d).1) (ha : -200 ≤ a ∧ a ≤ 200) (hb : -200 ≤ b ∧ b ≤ 200) (hm : MM μ th D dv Fn fv sv pk fd spd lim) (hO : COk B D dv Fn fv sv pk fd spd lim) : AMet YX7_way [vR 82, vI (k9), vI (a), vI (b), vI (k9)] n μ (Rt (fun v n' μ' => n' = n ∧ μ' = μ ∧ ∃ r : Nat, v = vL (r : Int) ∧ SecR (sqC (dv d) p a b) spd r)) := by
  refine AMet.of (by decide) rfl (Nat.le_of_ble_eq_true rfl) ?_
  obtain ⟨at7, ls7, wy7, c7, t7, F7, G7, H7, k7, a7, b7, e7, X7, Y7, y7, o7, r7, s7, u7, v7, w7, h82, h83, h84, h85, h86, h87, h88, h89, h90, h91, h92, h93, h94, h95, h96, h97, h98, h99, h100, ag1, ag2, ag3, ag4, ag5, ag6, ag7, ag8⟩ := id hm
  obtain ⟨hN, hdv, hFn, hfv, hsn, hsb, hpk, hfd, hfb, hs1, hs2, hl1, hl2⟩ := id hO
  have hcd := ag1 d hd
  have hdo : dv_O (dv d) := (hdv d hd).1
  obtain ⟨hc60, hpb, hup, hk8, hmb, hst⟩ : dv_O (dv d) := id hdo
  have hag := ag2 d p hd hp
  have hbp := hpb p hp
  have n1 := nic_b (x := (dv d).2.2.1 p) (i := a) (by omega) ha
  have n2 := nic_b (x := (dv d).2.2.2.1 p) (i := b) (by omega) hb
  refine aw_aload_n (q := 1) dX7_way_0 rfl rfl rfl ?_
  refine aw_get (q := 4) dX7_way_1 rfl fl_X7_19 h82 rfl (fun _ => ?_)
  refine aw_iload (q := 6) dX7_way_4 rfl rfl ?_
  refine aw_iaload (j := 60 * d + p) (q := 7) dX7_way_6 rfl h86 (by omega) (by omega) (fun rx1 => ?_)
  rw [hag.2.1]
  refine aw_sipush (q := 10) dX7_way_7 rfl (by decide) (by omega) ?_
  refine aw_iload_n (q := 11) dX7_way_10 rfl rfl rfl ?_
  refine aw_imul (q := 12) dX7_way_11 rfl (by omega) ?_
  refine aw_callS [vI ((dv d).2.2.1 p), vI (1000 * a)] (q := 15) dX7_way_12 rfl ck_X7_nearest lk_X7_138 rfl ⟨Nat.le_of_ble_eq_true rfl, Nat.le_of_ble_eq_true rfl⟩ rfl rfl (Nat.le_of_ble_eq_true rfl) (by decide) (m_X7_nearest (i := a) rfl (by omega)) rfl (fun _ _ _ h => (Rt_x h).elim) ?_
  rintro v n9 μ9 - ⟨v9, hv9, hn9, hm9, rfl⟩
  obtain rfl := hn9.symm
  obtain rfl := hm9.symm
  obtain rfl := Sum.inl.inj hv9
  refine aw_istore (q := 17) dX7_way_15 rfl (by decide) ?_
  refine aw_aload_n (q := 18) dX7_way_17 rfl rfl rfl ?_
  refine aw_get (q := 21) dX7_way_18 rfl fl_X7_22 h82 rfl (fun _ => ?_)
  refine aw_iload (q := 23) dX7_way_21 rfl rfl ?_
  refine aw_iaload (j := 60 * d + p) (q := 24) dX7_way_23 rfl h87 (by omega) (by omega) (fun rx2 => ?_)
  rw [hag.2.2]
  refine aw_sipush (q := 27) dX7_way_24 rfl (by decide) (by omega) ?_
  refine aw_iload_n (q := 28) dX7_way_27 rfl rfl rfl ?_
  refine aw_imul (q := 29) dX7_way_28 rfl (by omega) ?_
  refine aw_callS [vI ((dv d).2.2.2.1 p), vI (1000 * b)] (q := 32) dX7_way_29 rfl ck_X7_nearest lk_X7_138 rfl ⟨Nat.le_of_ble_eq_true rfl, Nat.le_of_ble_eq_true rfl⟩ rfl rfl (Nat.le_of_ble_eq_true rfl) (by decide) (m_X7_nearest (i := b) rfl (by omega)) rfl (fun _ _ _ h => (Rt_x h).elim) ?_
  rintro v n9 μ9 - ⟨v9, hv9, hn9, hm9, rfl⟩
  obtain rfl := hn9.symm
  obtain rfl := hm9.symm
  obtain rfl := Sum.inl.inj hv9
  refine aw_istore (q := 34) dX7_way_32 rfl (by decide) ?_
  refine aw_aload_n (q := 35) dX7_way_34 rfl rfl rfl ?_
  refine aw_iload (q := 37) dX7_way_35 rfl rfl ?_
  refine aw_aload_n (q := 38) dX7_way_37 rfl rfl rfl ?_
  refine aw_get (q := 41) dX7_way_38 rfl fl_X7_19 h82 rfl (fun _ => ?_)
  refine aw_iload_n (q := 42) dX7_way_41 rfl rfl rfl ?_
  refine aw_iaload (j := 60 * d + p) (q := 43) dX7_way_42 rfl h86 (by omega) (by omega) (fun rx3 => ?_)
  rw [hag.2.1]
  refine aw_isub (q := 44) dX7_way_43 rfl (by omega) ?_
  refine aw_i2l (q := 45) dX7_way_44 rfl ?_
  refine aw_iload (q := 47) dX7_way_45 rfl rfl ?_
  refine aw_aload_n (q := 48) dX7_way_47 rfl rfl rfl ?_
  refine aw_get (q := 51) dX7_way_48 rfl fl_X7_22 h82 rfl (fun _ => ?_)
  refine aw_iload_n (q := 52) dX7_way_51 rfl rfl rfl ?_
  refine aw_iaload (j := 60 * d + p) (q := 53) dX7_way_52 rfl h87 (by omega) (by omega) (fun rx4 => ?_)
  rw [hag.2.2]
  refine aw_isub (q := 54) dX7_way_53 rfl (by omega) ?_
  refine aw_i2l (q := 55) dX7_way_54 rfl ?_
  refine aw_callS [vL ((nic ((dv d).2.2.1 p) a) - ((dv d).2.2.1 p)), vL ((nic ((dv d).2.2.2.1 p) b) - ((dv d).2.2.2.1 p))] (q := 58) dX7_way_55 rfl ck_X7_square lk_X7_124 rfl ⟨Nat.le_of_ble_eq_true rfl, Nat.le_of_ble_eq_true rfl⟩ rfl rfl (Nat.le_of_ble_eq_true rfl) (by decide) (m_X7_square (by omega) (by omega)) rfl (fun _ _ _ h => (Rt_x h).elim) ?_
  rintro v n9 μ9 - ⟨v9, hv9, hn9, hm9, rfl⟩
  obtain rfl := hn9.symm
  obtain rfl := hm9.symm
  obtain rfl := Sum.inl.inj hv9
  refine aw_callV [vL (((nic ((dv d).2.2.1 p) a) - ((dv d).2.2.1 p)) * ((nic ((dv d).2.2.1 p) a) - ((dv d).2.2.1 p)) + ((nic ((dv d).2.2.2.1 p) b) - ((dv d).2.2.2.1 p)) * ((nic ((dv d).2.2.2.1 p) b) - ((dv d).2.2.2.1 p)))] (q := 61) dX7_way_58 rfl ck_X7_secondsFor lk_X7_141 rfl ⟨Nat.le_of_ble_eq_true rfl, Nat.le_of_ble_eq_true rfl⟩ rfl rfl h82 rfl (Nat.le_of_ble_eq_true rfl) (by decide) (m_X7_secondsFor hm hO) rfl (fun _ _ _ h => (Rt_x h).elim) ?_
  rintro v n9 μ9 - ⟨v9, hv9, hn9, hm9, r9, rfl, hr9⟩
  obtain rfl := hn9.symm
  obtain rfl := hm9.symm
  obtain rfl := Sum.inl.inj hv9
  exact aw_lret dX7_way_61 rfl (by decide) (by decide) ⟨_, rfl, rfl, rfl, r9, rfl, hr9⟩
set_option maxHeartbeats 4000000 in
set_option maxRecDepth 100000 in
theorem m_X7_could {n : Nat} {μ : AH} {th B : Int} {D : Nat} {dv : Nat → DVt} {Fn : Nat} {fv : Nat → FVt} {sv : SVt} {pk fd : Nat × (Nat → Int)} {spd lim : Int} {i k a b : Int} (hm : MM μ th D dv Fn fv sv pk fd spd lim) (hO : COk B D dv Fn fv sv pk fd spd lim) : AMet YX7_could [vR 82, vI (i), vI (k), vI (a), vI (b)] n μ (fun o n' μ' => n' = n ∧ FrR 82 101 μ μ' ∧ ∃ (p v : Int), ((0 ≤ i ∧ i < (D : Int)) → KthR (fun p => gapP (dv i.toNat) lim p) (dv i.toNat).1 k p) ∧ o = .inl (some (vI v)) ∧ MM μ' (tx2 ((0 ≤ i ∧ i < (D : Int)) ∧ p ≠ -1) ((-200 ≤ a ∧ a ≤ 200) ∧ -200 ≤ b ∧ b ≤ 200)) D dv Fn fv sv pk fd spd lim ∧ ((0 ≤ i ∧ i < (D : Int)) → p ≠ -1 → ((-200 ≤ a ∧ a ≤ 200) ∧ -200 ≤ b ∧ b ≤ 200) → cldR (dv i.toNat) spd p.toNat a b v)) := by
  refine AMet.of (by decide) rfl (Nat.le_of_ble_eq_true rfl) ?_
  obtain ⟨at7, ls7, wy7, c7, t7, F7, G7, H7, k7, a7, b7, e7, X7, Y7, y7, o7, r7, s7, u7, v7, w7, h82, h83, h84, h85, h86, h87, h88, h89, h90, h91, h92, h93, h94, h95, h96, h97, h98, h99, h100, ag1, ag2, ag3, ag4, ag5, ag6, ag7, ag8⟩ := id hm
  obtain ⟨hN, hdv, hFn, hfv, hsn, hsb, hpk, hfd, hfb, hs1, hs2, hl1, hl2⟩ := id hO
  refine aw_aload_n (q := 1) dX7_could_0 rfl rfl rfl ?_
  refine aw_iconst (q := 2) dX7_could_1 rfl (by omega) ?_
  refine aw_put (q := 5) dX7_could_2 rfl fp_X7_72 h82 (Nat.le_of_ble_eq_true rfl) trivial ?_
  refine mm_z (at' := at7) (ls' := ls7) (wy' := wy7) hm (fun μ0 hm0 hF0 => ?_)
  obtain ⟨at7, ls7, wy7, c7, t7, F7, G7, H7, k7, a7, b7, e7, X7, Y7, y7, o7, r7, s7, u7, v7, w7, h82, h83, h84, h85, h86, h87, h88, h89, h90, h91, h92, h93, h94, h95, h96, h97, h98, h99, h100, ag1, ag2, ag3, ag4, ag5, ag6, ag7, ag8⟩ := id hm0
  refine aw_aload_n (q := 6) dX7_could_5 rfl rfl rfl ?_
  refine aw_iload_n (q := 7) dX7_could_6 rfl rfl rfl ?_
  refine aw_callV [vI (i)] (q := 10) dX7_could_7 rfl ck_X7_isDevice lk_X7_78 rfl ⟨Nat.le_of_ble_eq_true rfl, Nat.le_of_ble_eq_true rfl⟩ rfl rfl h82 rfl (Nat.le_of_ble_eq_true rfl) (by decide) (m_X7_isDevice hm0 hO) rfl (fun _ _ _ h => (Rt_x h).elim) ?_
  rintro v n9 μ9 - ⟨v9, hv9, hn9, hm9, rfl⟩
  obtain rfl := hn9.symm
  obtain rfl := hm9.symm
  obtain rfl := Sum.inl.inj hv9
  refine aw_if_eq (t := 23) (q := 13) dX7_could_10 rfl (by decide) (fun bc1 => ?_) (fun bc1 => ?_)
  · skip
    replace bc1 := bz_0.mp bc1
    refine aw_iconst (q := 24) dX7_could_23 rfl (by omega) ?_
    refine aw_istore (q := 26) dX7_could_24 rfl (by decide) ?_
    refine aw_aload_n (q := 27) dX7_could_26 rfl rfl rfl ?_
    refine aw_iload (q := 29) dX7_could_27 rfl rfl ?_
    refine aw_iconst (q := 30) dX7_could_29 rfl (by omega) ?_
    refine aw_ic_ne (t := 37) (q := 33) dX7_could_30 rfl (by decide) (fun bc2 => ?_) (fun bc2 => ?_)
    · skip
      omega
    · skip
      refine aw_iconst (q := 34) dX7_could_33 rfl (by omega) ?_
      refine aw_goto (q := 38) dX7_could_34 (by decide) ?_
      refine aw_iconst (q := 39) dX7_could_38 rfl (by omega) ?_
      refine aw_callV [vI (1), vI (1)] (q := 42) dX7_could_39 rfl ck_X7_fails lk_X7_82 rfl ⟨Nat.le_of_ble_eq_true rfl, Nat.le_of_ble_eq_true rfl⟩ rfl rfl h82 rfl (Nat.le_of_ble_eq_true rfl) (by decide) (m_X7_fails_t h82 (by omega)) rfl (fun _ _ _ h => (Rt_x h).elim) ?_
      rintro v n9 μ9 - ⟨v9, hv9, hn9, hm9, rfl⟩
      obtain rfl := hn9.symm
      obtain rfl := hm9.symm
      obtain rfl := Sum.inl.inj hv9
      refine aw_if_ne (t := 87) (q := 45) dX7_could_42 rfl (by decide) (fun bc3 => ?_) (fun bc3 => ?_)
      · skip
        refine aw_iconst (q := 88) dX7_could_87 rfl (by omega) ?_
        exact aw_zret dX7_could_88 rfl (Or.inl rfl) (by decide) (by decide) ⟨rfl, FrR_w (FrR_tr hF0 (FrR_hu FrR_rf (by omega))) (by omega) (by omega), (-1), 0, fun h9 => absurd h9 (by omega), rfl, by rw [tx2_1 (by omega)]; exact MM_o hm0, fun h9 h8 _ => absurd h8 (by omega)⟩
      · skip
        omega
  · skip
    replace bc1 := bz_n0.mp bc1
    obtain ⟨d, hi⟩ : ∃ d : Nat, i = (d : Int) := ⟨i.toNat, by omega⟩
    have hid : i.toNat = d := by omega
    have hd5 : d < 5 := by omega
    have hcd := ag1 d hd5
    have hdo := (hdv d hd5).1
    have hc60 : (dv d).1 ≤ 60 := hdo.1
    have hk8 : (dv d).2.2.2.2.2.1 ≤ 8 := hdo.2.2.2.1
    refine aw_aload_n (q := 14) dX7_could_13 rfl rfl rfl ?_
    refine aw_iload_n (q := 15) dX7_could_14 rfl rfl rfl ?_
    refine aw_iload_n (q := 16) dX7_could_15 rfl rfl rfl ?_
    refine aw_iconst (q := 17) dX7_could_16 rfl (by omega) ?_
    refine aw_callV [vI (i), vI (k), vI (0)] (q := 20) dX7_could_17 rfl ck_X7_find lk_X7_132 rfl ⟨Nat.le_of_ble_eq_true rfl, Nat.le_of_ble_eq_true rfl⟩ rfl rfl h82 rfl (Nat.le_of_ble_eq_true rfl) (by decide) (m_X7_find_g (d := d) hi hd5 hm0 hO) rfl (fun _ _ _ h => (Rt_x h).elim) ?_
    rintro v n9 μ9 - ⟨v9, hv9, hn9, hm9, r9, rfl, hr9⟩
    obtain rfl := hn9.symm
    obtain rfl := hm9.symm
    obtain rfl := Sum.inl.inj hv9
    refine aw_goto (q := 24) dX7_could_20 (by decide) ?_
    refine aw_istore (q := 26) dX7_could_24 rfl (by decide) ?_
    refine aw_aload_n (q := 27) dX7_could_26 rfl rfl rfl ?_
    refine aw_iload (q := 29) dX7_could_27 rfl rfl ?_
    refine aw_iconst (q := 30) dX7_could_29 rfl (by omega) ?_
    refine aw_ic_ne (t := 37) (q := 33) dX7_could_30 rfl (by decide) (fun bc4 => ?_) (fun bc4 => ?_)
    · skip
      refine aw_iconst (q := 38) dX7_could_37 rfl (by omega) ?_
      refine aw_iconst (q := 39) dX7_could_38 rfl (by omega) ?_
      refine aw_callV [vI (0), vI (1)] (q := 42) dX7_could_39 rfl ck_X7_fails lk_X7_82 rfl ⟨Nat.le_of_ble_eq_true rfl, Nat.le_of_ble_eq_true rfl⟩ rfl rfl h82 rfl (Nat.le_of_ble_eq_true rfl) (by decide) (m_X7_fails_f h82) rfl (fun _ _ _ h => (Rt_x h).elim) ?_
      rintro v n9 μ9 - ⟨v9, hv9, hn9, hm9, rfl⟩
      obtain rfl := hn9.symm
      obtain rfl := hm9.symm
      obtain rfl := Sum.inl.inj hv9
      refine aw_if_ne (t := 87) (q := 45) dX7_could_42 rfl (by decide) (fun bc5 => ?_) (fun bc5 => ?_)
      · skip
        omega
      · skip
        refine aw_aload_n (q := 46) dX7_could_45 rfl rfl rfl ?_
        refine aw_iload_n (q := 47) dX7_could_46 rfl rfl rfl ?_
        refine aw_i2l (q := 48) dX7_could_47 rfl ?_
        refine aw_ldc2 (a := -200) (q := 51) dX7_could_48 rfl k_X7_145 (by omega) ?_
        refine aw_ldc2 (a := 200) (q := 54) dX7_could_51 rfl k_X7_147 (by omega) ?_
        refine aw_callS [vL (a), vL ((-200)), vL (200)] (q := 57) dX7_could_54 rfl ck_X7_within lk_X7_90 rfl ⟨Nat.le_of_ble_eq_true rfl, Nat.le_of_ble_eq_true rfl⟩ rfl rfl (Nat.le_of_ble_eq_true rfl) (by decide) (m_X7_within) rfl (fun _ _ _ h => (Rt_x h).elim) ?_
        rintro v n9 μ9 - ⟨v9, hv9, hn9, hm9, rfl⟩
        obtain rfl := hn9.symm
        obtain rfl := hm9.symm
        obtain rfl := Sum.inl.inj hv9
        refine aw_if_eq (t := 75) (q := 60) dX7_could_57 rfl (by decide) (fun bc6 => ?_) (fun bc6 => ?_)
        · skip
          replace bc6 := bz_0.mp bc6
          refine aw_iconst (q := 76) dX7_could_75 rfl (by omega) ?_
          refine aw_goto (q := 80) dX7_could_76 (by decide) ?_
          refine aw_iconst (q := 81) dX7_could_80 rfl (by omega) ?_
          refine aw_callV [vI (1), vI (2)] (q := 84) dX7_could_81 rfl ck_X7_fails lk_X7_82 rfl ⟨Nat.le_of_ble_eq_true rfl, Nat.le_of_ble_eq_true rfl⟩ rfl rfl h82 rfl (Nat.le_of_ble_eq_true rfl) (by decide) (m_X7_fails_t h82 (by omega)) rfl (fun _ _ _ h => (Rt_x h).elim) ?_
          rintro v n9 μ9 - ⟨v9, hv9, hn9, hm9, rfl⟩
          obtain rfl := hn9.symm
          obtain rfl := hm9.symm
          obtain rfl := Sum.inl.inj hv9
          refine aw_if_eq (t := 89) (q := 87) dX7_could_84 rfl (by decide) (fun bc7 => ?_) (fun bc7 => ?_)
          · skip
            omega
          · skip
            refine aw_iconst (q := 88) dX7_could_87 rfl (by omega) ?_
            exact aw_zret dX7_could_88 rfl (Or.inl rfl) (by decide) (by decide) ⟨rfl, FrR_w (FrR_tr hF0 (FrR_hu FrR_rf (by omega))) (by omega) (by omega), r9, 0, fun h9 => by rw [hid]; exact hr9, rfl, by rw [tx2_2 (by omega) (by omega)]; exact MM_o hm0, fun _ _ h9 => absurd h9 (by omega)⟩
        · skip
          replace bc6 := bz_n0.mp bc6
          refine aw_iload (q := 62) dX7_could_60 rfl rfl ?_
          refine aw_i2l (q := 63) dX7_could_62 rfl ?_
          refine aw_ldc2 (a := -200) (q := 66) dX7_could_63 rfl k_X7_145 (by omega) ?_
          refine aw_ldc2 (a := 200) (q := 69) dX7_could_66 rfl k_X7_147 (by omega) ?_
          refine aw_callS [vL (b), vL ((-200)), vL (200)] (q := 72) dX7_could_69 rfl ck_X7_within lk_X7_90 rfl ⟨Nat.le_of_ble_eq_true rfl, Nat.le_of_ble_eq_true rfl⟩ rfl rfl (Nat.le_of_ble_eq_true rfl) (by decide) (m_X7_within) rfl (fun _ _ _ h => (Rt_x h).elim) ?_
          rintro v n9 μ9 - ⟨v9, hv9, hn9, hm9, rfl⟩
          obtain rfl := hn9.symm
          obtain rfl := hm9.symm
          obtain rfl := Sum.inl.inj hv9
          refine aw_if_ne (t := 79) (q := 75) dX7_could_72 rfl (by decide) (fun bc8 => ?_) (fun bc8 => ?_)
          · skip
            replace bc8 := bz_n0.mp bc8
            refine aw_iconst (q := 80) dX7_could_79 rfl (by omega) ?_
            refine aw_iconst (q := 81) dX7_could_80 rfl (by omega) ?_
            refine aw_callV [vI (0), vI (2)] (q := 84) dX7_could_81 rfl ck_X7_fails lk_X7_82 rfl ⟨Nat.le_of_ble_eq_true rfl, Nat.le_of_ble_eq_true rfl⟩ rfl rfl h82 rfl (Nat.le_of_ble_eq_true rfl) (by decide) (m_X7_fails_f h82) rfl (fun _ _ _ h => (Rt_x h).elim) ?_
            rintro v n9 μ9 - ⟨v9, hv9, hn9, hm9, rfl⟩
            obtain rfl := hn9.symm
            obtain rfl := hm9.symm
            obtain rfl := Sum.inl.inj hv9
            refine aw_if_eq (t := 89) (q := 87) dX7_could_84 rfl (by decide) (fun bc9 => ?_) (fun bc9 => ?_)
            · skip
              have hkp := hr9
              obtain ⟨p, hp9, hp1, hpc, -, -⟩ := hkp.resolve_right (fun h => by omega)
              have tbb := tB_b hdo hp1 hpc
              refine aw_bipush (q := 91) dX7_could_89 rfl (by decide) (by omega) ?_
              refine aw_iload_n (q := 92) dX7_could_91 rfl rfl rfl ?_
              refine aw_imul (q := 93) dX7_could_92 rfl (by omega) ?_
              refine aw_iload (q := 95) dX7_could_93 rfl rfl ?_
              refine aw_iadd (q := 96) dX7_could_95 rfl (by omega) ?_
              refine aw_istore (q := 98) dX7_could_96 rfl (by decide) ?_
              refine aw_aload_n (q := 99) dX7_could_98 rfl rfl rfl ?_
              refine aw_iload (q := 101) dX7_could_99 rfl rfl ?_
              refine aw_iconst (q := 102) dX7_could_101 rfl (by omega) ?_
              refine aw_isub (q := 103) dX7_could_102 rfl (by omega) ?_
              refine aw_iload_n (q := 104) dX7_could_103 rfl rfl rfl ?_
              refine aw_iload (q := 106) dX7_could_104 rfl rfl ?_
              refine aw_iload (q := 108) dX7_could_106 rfl rfl ?_
              refine aw_iconst (q := 109) dX7_could_108 rfl (by omega) ?_
              refine aw_isub (q := 110) dX7_could_109 rfl (by omega) ?_
              refine aw_callV [vI (((60 * i) + r9) - 1), vI (a), vI (b), vI (((60 * i) + r9) - 1)] (q := 113) dX7_could_110 rfl ck_X7_way lk_X7_149 rfl ⟨Nat.le_of_ble_eq_true rfl, Nat.le_of_ble_eq_true rfl⟩ rfl rfl h82 rfl (Nat.le_of_ble_eq_true rfl) (by decide) (m_X7_way (d := d) (p := (p - 1)) (by omega) hd5 (by omega) (by omega) (by omega) hm0 hO) rfl (fun _ _ _ h => (Rt_x h).elim) ?_
              rintro v n9 μ9 - ⟨v9, hv9, hn9, hm9, t1, rfl, ht1⟩
              obtain rfl := hn9.symm
              obtain rfl := hm9.symm
              obtain rfl := Sum.inl.inj hv9
              have htb1 := ht1.1
              refine aw_aload_n (q := 114) dX7_could_113 rfl rfl rfl ?_
              refine aw_iload (q := 116) dX7_could_114 rfl rfl ?_
              refine aw_iload_n (q := 117) dX7_could_116 rfl rfl rfl ?_
              refine aw_iload (q := 119) dX7_could_117 rfl rfl ?_
              refine aw_iload (q := 121) dX7_could_119 rfl rfl ?_
              refine aw_callV [vI ((60 * i) + r9), vI (a), vI (b), vI ((60 * i) + r9)] (q := 124) dX7_could_121 rfl ck_X7_way lk_X7_149 rfl ⟨Nat.le_of_ble_eq_true rfl, Nat.le_of_ble_eq_true rfl⟩ rfl rfl h82 rfl (Nat.le_of_ble_eq_true rfl) (by decide) (m_X7_way (d := d) (p := p) (by omega) hd5 (by omega) (by omega) (by omega) hm0 hO) rfl (fun _ _ _ h => (Rt_x h).elim) ?_
              rintro v n9 μ9 - ⟨v9, hv9, hn9, hm9, t2, rfl, ht2⟩
              obtain rfl := hn9.symm
              obtain rfl := hm9.symm
              obtain rfl := Sum.inl.inj hv9
              have htb2 := ht2.1
              refine aw_ladd (q := 125) dX7_could_124 rfl (by omega) ?_
              refine aw_aload_n (q := 126) dX7_could_125 rfl rfl rfl ?_
              refine aw_iload_n (q := 127) dX7_could_126 rfl rfl rfl ?_
              refine aw_iload (q := 129) dX7_could_127 rfl rfl ?_
              refine aw_callV [vI (i), vI (r9)] (q := 132) dX7_could_129 rfl ck_X7_between lk_X7_120 rfl ⟨Nat.le_of_ble_eq_true rfl, Nat.le_of_ble_eq_true rfl⟩ rfl rfl h82 rfl (Nat.le_of_ble_eq_true rfl) (by decide) (m_X7_between (d := d) (p := p) hi hd5 hp9 hp1 hpc hm0 hO) rfl (fun _ _ _ h => (Rt_x h).elim) ?_
              rintro v n9 μ9 - ⟨v9, hv9, hn9, hm9, rfl⟩
              obtain rfl := hn9.symm
              obtain rfl := hm9.symm
              obtain rfl := Sum.inl.inj hv9
              refine aw_lcmp (q := 133) dX7_could_132 rfl ?_
              refine aw_if_gt (t := 140) (q := 136) dX7_could_133 rfl (by decide) (fun bc10 => ?_) (fun bc10 => ?_)
              · skip
                replace bc10 := cmpz_gt.mp bc10
                refine aw_iconst (q := 141) dX7_could_140 rfl (by omega) ?_
                exact aw_zret dX7_could_141 rfl (Or.inl rfl) (by decide) (by decide) ⟨rfl, FrR_w hF0 (by omega) (by omega), r9, _, fun h9 => by rw [hid]; exact hr9, rfl, by rw [tx2_0 (by omega) (by omega)]; exact hm0, fun _ _ _ => by rw [hid, show r9.toNat = p by omega]; exact ⟨t1, t2, ht1, ht2, (bz_f (by omega)).symm⟩⟩
              · skip
                replace bc10 := mt cmpz_gt.mpr bc10
                refine aw_iconst (q := 137) dX7_could_136 rfl (by omega) ?_
                refine aw_goto (q := 141) dX7_could_137 (by decide) ?_
                exact aw_zret dX7_could_141 rfl (Or.inr rfl) (by decide) (by decide) ⟨rfl, FrR_w hF0 (by omega) (by omega), r9, _, fun h9 => by rw [hid]; exact hr9, rfl, by rw [tx2_0 (by omega) (by omega)]; exact hm0, fun _ _ _ => by rw [hid, show r9.toNat = p by omega]; exact ⟨t1, t2, ht1, ht2, (bz_t (by omega)).symm⟩⟩
            · skip
              omega
          · skip
            replace bc8 := bz_0.mp bc8
            refine aw_iconst (q := 76) dX7_could_75 rfl (by omega) ?_
            refine aw_goto (q := 80) dX7_could_76 (by decide) ?_
            refine aw_iconst (q := 81) dX7_could_80 rfl (by omega) ?_
            refine aw_callV [vI (1), vI (2)] (q := 84) dX7_could_81 rfl ck_X7_fails lk_X7_82 rfl ⟨Nat.le_of_ble_eq_true rfl, Nat.le_of_ble_eq_true rfl⟩ rfl rfl h82 rfl (Nat.le_of_ble_eq_true rfl) (by decide) (m_X7_fails_t h82 (by omega)) rfl (fun _ _ _ h => (Rt_x h).elim) ?_
            rintro v n9 μ9 - ⟨v9, hv9, hn9, hm9, rfl⟩
            obtain rfl := hn9.symm
            obtain rfl := hm9.symm
            obtain rfl := Sum.inl.inj hv9
            refine aw_if_eq (t := 89) (q := 87) dX7_could_84 rfl (by decide) (fun bc11 => ?_) (fun bc11 => ?_)
            · skip
              omega
            · skip
              refine aw_iconst (q := 88) dX7_could_87 rfl (by omega) ?_
              exact aw_zret dX7_could_88 rfl (Or.inl rfl) (by decide) (by decide) ⟨rfl, FrR_w (FrR_tr hF0 (FrR_hu FrR_rf (by omega))) (by omega) (by omega), r9, 0, fun h9 => by rw [hid]; exact hr9, rfl, by rw [tx2_2 (by omega) (by omega)]; exact MM_o hm0, fun _ _ h9 => absurd h9 (by omega)⟩
    · skip
      refine aw_iconst (q := 34) dX7_could_33 rfl (by omega) ?_
      refine aw_goto (q := 38) dX7_could_34 (by decide) ?_
      refine aw_iconst (q := 39) dX7_could_38 rfl (by omega) ?_
      refine aw_callV [vI (1), vI (1)] (q := 42) dX7_could_39 rfl ck_X7_fails lk_X7_82 rfl ⟨Nat.le_of_ble_eq_true rfl, Nat.le_of_ble_eq_true rfl⟩ rfl rfl h82 rfl (Nat.le_of_ble_eq_true rfl) (by decide) (m_X7_fails_t h82 (by omega)) rfl (fun _ _ _ h => (Rt_x h).elim) ?_
      rintro v n9 μ9 - ⟨v9, hv9, hn9, hm9, rfl⟩
      obtain rfl := hn9.symm
      obtain rfl := hm9.symm
      obtain rfl := Sum.inl.inj hv9
      refine aw_if_ne (t := 87) (q := 45) dX7_could_42 rfl (by decide) (fun bc12 => ?_) (fun bc12 => ?_)
      · skip
        refine aw_iconst (q := 88) dX7_could_87 rfl (by omega) ?_
        exact aw_zret dX7_could_88 rfl (Or.inl rfl) (by decide) (by decide) ⟨rfl, FrR_w (FrR_tr hF0 (FrR_hu FrR_rf (by omega))) (by omega) (by omega), r9, 0, fun h9 => by rw [hid]; exact hr9, rfl, by rw [tx2_1 (by omega)]; exact MM_o hm0, fun h9 h8 _ => absurd h8 (by omega)⟩
      · skip
        omega
