/-! ===== TrackRowsModel: times, jumps, gaps (written by m_model1.py) ===== -/
theorem tt_alt {c : Nat} {f g : Nat → Int} {s : Int} (hst : MSt c f g) (hc : c ≠ 0) {m : Nat} (hm : m = lowb f (s + 1) c 0 - 1) : ((s - f m < 0 ∨ m = c - 1) → tt c f g s = g m + (s - f m)) ∧ (¬ (s - f m < 0 ∨ m = c - 1) → tt c f g s = g m + Int.tdiv ((s - f m) * (g (m + 1) - g m)) (f (m + 1) - f m) ∧ m + 1 < c ∧ s < f (m + 1)) := by
  have hup : ∀ p, p + 1 < c → f p < f (p + 1) := fun p hp => (hst p hp).1
  have hL := lowb_le f s c 0
  have hlt := fun p hp => lowb_lt f s c 0 p (Nat.zero_le _) hp
  have hge := fun p h1 h2 => lowb_hi hup (s := s) (p := p) h1 h2
  generalize hLe : lowb f s c 0 = L at hL hlt hge
  unfold tt
  rw [if_neg hc, hLe]
  by_cases e : L < c ∧ f L = s
  · have hU : lowb f (s + 1) c 0 = L + 1 := lowb_is (Nat.zero_le _) (by omega) (fun p _ hp => by
      by_cases q : p = L
      · rw [q]; omega
      · have := hlt p (by omega); omega) (fun h => by have := hup L (by omega); omega)
    have hmL : m = L := by omega
    have key : (if L = 0 then g 0 + s - f 0 else if L = c then g (c - 1) + s - f (c - 1) else ttB f g s L) = g L := by
      by_cases q : L = 0
      · rw [if_pos q]; rw [q] at e ⊢; omega
      · rw [if_neg q, if_neg (by omega)]
        unfold ttB
        have h1 := hup (L - 1) (by omega)
        rw [show L - 1 + 1 = L by omega] at h1
        rw [← e.2, Int.mul_comm, Int.mul_tdiv_cancel _ (by omega)]
        omega
    rw [key, hmL]
    refine ⟨fun _ => by omega, fun h => ⟨?_, by omega, ?_⟩⟩
    · rw [show s - f L = 0 by omega, Int.zero_mul, Int.zero_tdiv]; omega
    · have := hup L (by omega); omega
  · have hU : lowb f (s + 1) c 0 = L := lowb_is (Nat.zero_le _) (by omega) (fun p _ hp => by have := hlt p hp; omega) (fun h => by have := hge L (Nat.le_refl _) (by omega); omega)
    by_cases q : L = 0
    · rw [if_pos q, show m = 0 by omega]
      have := hge 0 (by omega) (by omega)
      rw [q] at e
      refine ⟨fun _ => by omega, fun h => by omega⟩
    · rw [if_neg q]
      have h1 := hlt (L - 1) (by omega)
      have hmL : m = L - 1 := by omega
      by_cases q2 : L = c
      · rw [if_pos q2, hmL, q2]
        exact ⟨fun _ => by omega, fun h => by omega⟩
      · rw [if_neg q2, hmL]
        have h2 := hge L (Nat.le_refl _) (by omega)
        rw [show L - 1 + 1 = L by omega]
        exact ⟨fun h => by omega, fun _ => ⟨rfl, by omega, by omega⟩⟩
set_option maxHeartbeats 4000000 in
set_option maxRecDepth 100000 in
theorem m_X7_timeOf {n : Nat} {μ : AH} {th B : Int} {D : Nat} {dv : Nat → DVt} {Fn : Nat} {fv : Nat → FVt} {sv : SVt} {pk fd : Nat × (Nat → Int)} {spd lim : Int} {i s : Int} {d : Nat} (hi : i = (d : Int)) (hd : d < 5) (hs : 0 ≤ s ∧ s ≤ 1000000) (hm : MM μ th D dv Fn fv sv pk fd spd lim) (hO : COk B D dv Fn fv sv pk fd spd lim) : AMet YX7_timeOf [vR 82, vI (i), vI (s)] n μ (Pv n μ (vI (tt (dv d).2.2.2.2.2.1 (dv d).2.2.2.2.2.2.1 (dv d).2.2.2.2.2.2.2 s))) := by
  refine AMet.of (by decide) rfl (Nat.le_of_ble_eq_true rfl) ?_
  obtain ⟨at7, ls7, wy7, c7, t7, F7, G7, H7, k7, a7, b7, e7, X7, Y7, y7, o7, r7, s7, u7, v7, w7, h82, h83, h84, h85, h86, h87, h88, h89, h90, h91, h92, h93, h94, h95, h96, h97, h98, h99, h100, ag1, ag2, ag3, ag4, ag5, ag6, ag7, ag8⟩ := id hm
  obtain ⟨hN, hdv, hFn, hfv, hsn, hsb, hpk, hfd, hfb, hs1, hs2, hl1, hl2⟩ := id hO
  have hcd := ag1 d hd
  obtain ⟨hc60, hpb, hup, hk8, hmb, hst⟩ : dv_O (dv d) := (hdv d hd).1
  have hU := lowb_le (dv d).2.2.2.2.2.2.1 (s + 1) (dv d).2.2.2.2.2.1 0
  have loop : (dv d).2.2.2.2.2.1 ≠ 0 → ∀ (j k : Nat) (mx kx : Int), (dv d).2.2.2.2.2.1 - k < j → kx = 8 * (d : Int) + (k : Int) → k ≤ (dv d).2.2.2.2.2.1 → mx = 8 * (d : Int) + ((min k (lowb (dv d).2.2.2.2.2.2.1 (s + 1) (dv d).2.2.2.2.2.1 0) - 1 : Nat) : Int) → AW YX7_timeOf none (Pv n μ (vI (tt (dv d).2.2.2.2.2.1 (dv d).2.2.2.2.2.2.1 (dv d).2.2.2.2.2.2.2 s))) 22 [some (vR 82), some (vI (i)), some (vI (s)), some (vI (mx)), some (vI (kx))] [] n μ 0 0 := by
    intro hc0 j
    induction j with
    | zero => intro k mx kx hj; exact absurd hj (Nat.not_lt_zero _)
    | succ j ih =>
      intro k mx kx hj hkx hk hmx
      refine aw_iload (q := 24) dX7_timeOf_22 rfl rfl ?_
      refine aw_bipush (q := 26) dX7_timeOf_24 rfl (by decide) (by omega) ?_
      refine aw_iload_n (q := 27) dX7_timeOf_26 rfl rfl rfl ?_
      refine aw_imul (q := 28) dX7_timeOf_27 rfl (by omega) ?_
      refine aw_aload_n (q := 29) dX7_timeOf_28 rfl rfl rfl ?_
      refine aw_get (q := 32) dX7_timeOf_29 rfl fl_X7_25 h82 rfl (fun _ => ?_)
      refine aw_iload_n (q := 33) dX7_timeOf_32 rfl rfl rfl ?_
      refine aw_iaload (j := d) (q := 34) dX7_timeOf_33 rfl h88 (by omega) (by omega) (fun r1 => ?_)
      refine aw_iadd (q := 35) dX7_timeOf_34 rfl (by omega) ?_
      refine aw_ic_ge (t := 62) (q := 38) dX7_timeOf_35 rfl (by decide) (fun bc2 => ?_) (fun bc2 => ?_)
      · skip
        obtain ⟨r, hr⟩ : ∃ r : Nat, r = lowb (dv d).2.2.2.2.2.2.1 (s + 1) (dv d).2.2.2.2.2.1 0 - 1 := ⟨_, rfl⟩
        have hrc : r < (dv d).2.2.2.2.2.1 := by omega
        have hmx : mx = ((8 * d + r : Nat) : Int) := by omega
        have ea := (ag3 d r hd hrc).1
        have eb := (ag3 d r hd hrc).2
        have hta := tt_alt hst hc0 hr
        have hbr := hmb r hrc
        refine aw_iload_n (q := 63) dX7_timeOf_62 rfl rfl rfl ?_
        refine aw_aload_n (q := 64) dX7_timeOf_63 rfl rfl rfl ?_
        refine aw_get (q := 67) dX7_timeOf_64 rfl fl_X7_28 h82 rfl (fun _ => ?_)
        refine aw_iload_n (q := 68) dX7_timeOf_67 rfl rfl rfl ?_
        refine aw_iaload (j := 8 * d + r) (q := 69) dX7_timeOf_68 rfl h89 (by omega) (by omega) (fun r3 => ?_)
        rw [ea]
        refine aw_isub (q := 70) dX7_timeOf_69 rfl (by omega) ?_
        refine aw_istore (q := 72) dX7_timeOf_70 rfl (by decide) ?_
        refine aw_iload (q := 74) dX7_timeOf_72 rfl rfl ?_
        refine aw_if_lt (t := 94) (q := 77) dX7_timeOf_74 rfl (by decide) (fun bc4 => ?_) (fun bc4 => ?_)
        · skip
          have htv := hta.1 (by omega)
          refine aw_aload_n (q := 95) dX7_timeOf_94 rfl rfl rfl ?_
          refine aw_get (q := 98) dX7_timeOf_95 rfl fl_X7_31 h82 rfl (fun _ => ?_)
          refine aw_iload_n (q := 99) dX7_timeOf_98 rfl rfl rfl ?_
          refine aw_iaload (j := 8 * d + r) (q := 100) dX7_timeOf_99 rfl h90 (by omega) (by omega) (fun r5 => ?_)
          rw [eb]
          refine aw_iload (q := 102) dX7_timeOf_100 rfl rfl ?_
          refine aw_iadd (q := 103) dX7_timeOf_102 rfl (by omega) ?_
          exact aw_iret dX7_timeOf_103 rfl (by decide) (by decide) ⟨_, rfl, rfl, rfl, congrArg vI (by rw [htv])⟩
        · skip
          refine aw_iload_n (q := 78) dX7_timeOf_77 rfl rfl rfl ?_
          refine aw_bipush (q := 80) dX7_timeOf_78 rfl (by decide) (by omega) ?_
          refine aw_iload_n (q := 81) dX7_timeOf_80 rfl rfl rfl ?_
          refine aw_imul (q := 82) dX7_timeOf_81 rfl (by omega) ?_
          refine aw_aload_n (q := 83) dX7_timeOf_82 rfl rfl rfl ?_
          refine aw_get (q := 86) dX7_timeOf_83 rfl fl_X7_25 h82 rfl (fun _ => ?_)
          refine aw_iload_n (q := 87) dX7_timeOf_86 rfl rfl rfl ?_
          refine aw_iaload (j := d) (q := 88) dX7_timeOf_87 rfl h88 (by omega) (by omega) (fun r6 => ?_)
          refine aw_iadd (q := 89) dX7_timeOf_88 rfl (by omega) ?_
          refine aw_iconst (q := 90) dX7_timeOf_89 rfl (by omega) ?_
          refine aw_isub (q := 91) dX7_timeOf_90 rfl (by omega) ?_
          refine aw_ic_ne (t := 104) (q := 94) dX7_timeOf_91 rfl (by decide) (fun bc7 => ?_) (fun bc7 => ?_)
          · skip
            have hno : ¬ (s - (dv d).2.2.2.2.2.2.1 r < 0 ∨ r = (dv d).2.2.2.2.2.1 - 1) := by omega
            have htv := hta.2 hno
            have hr1 := htv.2.1
            have ea1 := (ag3 d (r + 1) hd hr1).1
            have eb1 := (ag3 d (r + 1) hd hr1).2
            have hst1 := hst r hr1
            have hbr1 := hmb (r + 1) hr1
            have hm1 := mul_b (u := s - (dv d).2.2.2.2.2.2.1 r) (w := (dv d).2.2.2.2.2.2.2 (r + 1) - (dv d).2.2.2.2.2.2.2 r) 1000000 1000000 (by omega) (by omega) (by omega) (by omega)
            have hm2 := td_b (u := s - (dv d).2.2.2.2.2.2.1 r) (v := (dv d).2.2.2.2.2.2.1 (r + 1) - (dv d).2.2.2.2.2.2.1 r) (w := (dv d).2.2.2.2.2.2.2 (r + 1) - (dv d).2.2.2.2.2.2.2 r) (by omega) (by omega) (by omega) (by omega)
            refine aw_aload_n (q := 105) dX7_timeOf_104 rfl rfl rfl ?_
            refine aw_get (q := 108) dX7_timeOf_105 rfl fl_X7_31 h82 rfl (fun _ => ?_)
            refine aw_iload_n (q := 109) dX7_timeOf_108 rfl rfl rfl ?_
            refine aw_iaload (j := 8 * d + r) (q := 110) dX7_timeOf_109 rfl h90 (by omega) (by omega) (fun r8 => ?_)
            rw [eb]
            refine aw_iload (q := 112) dX7_timeOf_110 rfl rfl ?_
            refine aw_i2l (q := 113) dX7_timeOf_112 rfl ?_
            refine aw_aload_n (q := 114) dX7_timeOf_113 rfl rfl rfl ?_
            refine aw_get (q := 117) dX7_timeOf_114 rfl fl_X7_31 h82 rfl (fun _ => ?_)
            refine aw_iload_n (q := 118) dX7_timeOf_117 rfl rfl rfl ?_
            refine aw_iconst (q := 119) dX7_timeOf_118 rfl (by omega) ?_
            refine aw_iadd (q := 120) dX7_timeOf_119 rfl (by omega) ?_
            refine aw_iaload (j := 8 * d + (r + 1)) (q := 121) dX7_timeOf_120 rfl h90 (by omega) (by omega) (fun r9 => ?_)
            rw [eb1]
            refine aw_aload_n (q := 122) dX7_timeOf_121 rfl rfl rfl ?_
            refine aw_get (q := 125) dX7_timeOf_122 rfl fl_X7_31 h82 rfl (fun _ => ?_)
            refine aw_iload_n (q := 126) dX7_timeOf_125 rfl rfl rfl ?_
            refine aw_iaload (j := 8 * d + r) (q := 127) dX7_timeOf_126 rfl h90 (by omega) (by omega) (fun r10 => ?_)
            rw [eb]
            refine aw_isub (q := 128) dX7_timeOf_127 rfl (by omega) ?_
            refine aw_i2l (q := 129) dX7_timeOf_128 rfl ?_
            refine aw_lmul (q := 130) dX7_timeOf_129 rfl (by omega) ?_
            refine aw_aload_n (q := 131) dX7_timeOf_130 rfl rfl rfl ?_
            refine aw_get (q := 134) dX7_timeOf_131 rfl fl_X7_28 h82 rfl (fun _ => ?_)
            refine aw_iload_n (q := 135) dX7_timeOf_134 rfl rfl rfl ?_
            refine aw_iconst (q := 136) dX7_timeOf_135 rfl (by omega) ?_
            refine aw_iadd (q := 137) dX7_timeOf_136 rfl (by omega) ?_
            refine aw_iaload (j := 8 * d + (r + 1)) (q := 138) dX7_timeOf_137 rfl h89 (by omega) (by omega) (fun r11 => ?_)
            rw [ea1]
            refine aw_aload_n (q := 139) dX7_timeOf_138 rfl rfl rfl ?_
            refine aw_get (q := 142) dX7_timeOf_139 rfl fl_X7_28 h82 rfl (fun _ => ?_)
            refine aw_iload_n (q := 143) dX7_timeOf_142 rfl rfl rfl ?_
            refine aw_iaload (j := 8 * d + r) (q := 144) dX7_timeOf_143 rfl h89 (by omega) (by omega) (fun r12 => ?_)
            rw [ea]
            refine aw_isub (q := 145) dX7_timeOf_144 rfl (by omega) ?_
            refine aw_i2l (q := 146) dX7_timeOf_145 rfl ?_
            refine aw_ldiv (q := 147) dX7_timeOf_146 rfl (by omega) (by omega) ?_
            refine aw_l2i (q := 148) dX7_timeOf_147 rfl (by omega) ?_
            refine aw_iadd (q := 149) dX7_timeOf_148 rfl (by omega) ?_
            exact aw_iret dX7_timeOf_149 rfl (by decide) (by decide) ⟨_, rfl, rfl, rfl, congrArg vI (by rw [htv.1])⟩
          · skip
            have htv := hta.1 (by omega)
            refine aw_aload_n (q := 95) dX7_timeOf_94 rfl rfl rfl ?_
            refine aw_get (q := 98) dX7_timeOf_95 rfl fl_X7_31 h82 rfl (fun _ => ?_)
            refine aw_iload_n (q := 99) dX7_timeOf_98 rfl rfl rfl ?_
            refine aw_iaload (j := 8 * d + r) (q := 100) dX7_timeOf_99 rfl h90 (by omega) (by omega) (fun r13 => ?_)
            rw [eb]
            refine aw_iload (q := 102) dX7_timeOf_100 rfl rfl ?_
            refine aw_iadd (q := 103) dX7_timeOf_102 rfl (by omega) ?_
            exact aw_iret dX7_timeOf_103 rfl (by decide) (by decide) ⟨_, rfl, rfl, rfl, congrArg vI (by rw [htv])⟩
      · skip
        refine aw_aload_n (q := 39) dX7_timeOf_38 rfl rfl rfl ?_
        refine aw_get (q := 42) dX7_timeOf_39 rfl fl_X7_28 h82 rfl (fun _ => ?_)
        refine aw_iload (q := 44) dX7_timeOf_42 rfl rfl ?_
        refine aw_iaload (j := 8 * d + k) (q := 45) dX7_timeOf_44 rfl h89 (by omega) (by omega) (fun r14 => ?_)
        have hag := (ag3 d k hd (by omega)).1
        have hlt : k < lowb (dv d).2.2.2.2.2.2.1 (s + 1) (dv d).2.2.2.2.2.1 0 → (dv d).2.2.2.2.2.2.1 k < s + 1 := fun h => lowb_lt (dv d).2.2.2.2.2.2.1 (s + 1) (dv d).2.2.2.2.2.1 0 k (Nat.zero_le _) h
        have hge : lowb (dv d).2.2.2.2.2.2.1 (s + 1) (dv d).2.2.2.2.2.1 0 ≤ k → s + 1 ≤ (dv d).2.2.2.2.2.2.1 k := fun h => lowb_hi (fun p hp => (hst p hp).1) h (by omega)
        refine aw_iload_n (q := 46) dX7_timeOf_45 rfl rfl rfl ?_
        refine aw_ic_gt (t := 54) (q := 49) dX7_timeOf_46 rfl (by decide) (fun bc15 => ?_) (fun bc15 => ?_)
        · skip
          refine aw_iload_n (q := 55) dX7_timeOf_54 rfl rfl rfl ?_
          refine aw_istore_n (q := 56) dX7_timeOf_55 rfl rfl (by decide) ?_
          refine aw_iinc (q := 59) dX7_timeOf_56 rfl rfl (by decide) (by omega) ?_
          refine aw_goto (q := 22) dX7_timeOf_59 (by decide) ?_
          exact ih (k + 1) _ _ (by omega) (by omega) (by omega) (by omega)
        · skip
          refine aw_iload (q := 51) dX7_timeOf_49 rfl rfl ?_
          refine aw_goto (q := 55) dX7_timeOf_51 (by decide) ?_
          refine aw_istore_n (q := 56) dX7_timeOf_55 rfl rfl (by decide) ?_
          refine aw_iinc (q := 59) dX7_timeOf_56 rfl rfl (by decide) (by omega) ?_
          refine aw_goto (q := 22) dX7_timeOf_59 (by decide) ?_
          exact ih (k + 1) _ _ (by omega) (by omega) (by omega) (by omega)
  refine aw_aload_n (q := 1) dX7_timeOf_0 rfl rfl rfl ?_
  refine aw_get (q := 4) dX7_timeOf_1 rfl fl_X7_25 h82 rfl (fun _ => ?_)
  refine aw_iload_n (q := 5) dX7_timeOf_4 rfl rfl rfl ?_
  refine aw_iaload (j := d) (q := 6) dX7_timeOf_5 rfl h88 (by omega) (by omega) (fun r1 => ?_)
  refine aw_if_ne (t := 11) (q := 9) dX7_timeOf_6 rfl (by decide) (fun bc2 => ?_) (fun bc2 => ?_)
  · skip
    have hc0 : (dv d).2.2.2.2.2.1 ≠ 0 := by omega
    refine aw_bipush (q := 13) dX7_timeOf_11 rfl (by decide) (by omega) ?_
    refine aw_iload_n (q := 14) dX7_timeOf_13 rfl rfl rfl ?_
    refine aw_imul (q := 15) dX7_timeOf_14 rfl (by omega) ?_
    refine aw_istore_n (q := 16) dX7_timeOf_15 rfl rfl (by decide) ?_
    refine aw_bipush (q := 18) dX7_timeOf_16 rfl (by decide) (by omega) ?_
    refine aw_iload_n (q := 19) dX7_timeOf_18 rfl rfl rfl ?_
    refine aw_imul (q := 20) dX7_timeOf_19 rfl (by omega) ?_
    refine aw_istore (q := 22) dX7_timeOf_20 rfl (by decide) ?_
    exact loop hc0 ((dv d).2.2.2.2.2.1 + 1) 0 _ _ (by omega) (by omega) (by omega) (by omega)
  · skip
    refine aw_iload_n (q := 10) dX7_timeOf_9 rfl rfl rfl ?_
    exact aw_iret dX7_timeOf_10 rfl (by decide) (by decide) ⟨_, rfl, rfl, rfl, congrArg vI (by unfold tt; rw [if_pos (by omega)])⟩
set_option maxHeartbeats 4000000 in
set_option maxRecDepth 100000 in
theorem m_X7_between {n : Nat} {μ : AH} {th B : Int} {D : Nat} {dv : Nat → DVt} {Fn : Nat} {fv : Nat → FVt} {sv : SVt} {pk fd : Nat × (Nat → Int)} {spd lim : Int} {i w : Int} {d p : Nat} (hi : i = (d : Int)) (hd : d < 5) (hw : w = (p : Int)) (hp1 : 1 ≤ p) (hpc : p < (dv d).1) (hm : MM μ th D dv Fn fv sv pk fd spd lim) (hO : COk B D dv Fn fv sv pk fd spd lim) : AMet YX7_between [vR 82, vI (i), vI (w)] n μ (Pv n μ (vL (tB (dv d).2.2.2.2.2.1 (dv d).2.2.2.2.2.2.1 (dv d).2.2.2.2.2.2.2 (dv d).2.1 p))) := by
  refine AMet.of (by decide) rfl (Nat.le_of_ble_eq_true rfl) ?_
  obtain ⟨at7, ls7, wy7, c7, t7, F7, G7, H7, k7, a7, b7, e7, X7, Y7, y7, o7, r7, s7, u7, v7, w7, h82, h83, h84, h85, h86, h87, h88, h89, h90, h91, h92, h93, h94, h95, h96, h97, h98, h99, h100, ag1, ag2, ag3, ag4, ag5, ag6, ag7, ag8⟩ := id hm
  obtain ⟨hN, hdv, hFn, hfv, hsn, hsb, hpk, hfd, hfb, hs1, hs2, hl1, hl2⟩ := id hO
  have hcd := ag1 d hd
  have hdo : dv_O (dv d) := (hdv d hd).1
  obtain ⟨hc60, hpb, hup, hk8, hmb, hst⟩ : dv_O (dv d) := id hdo
  have b1 := tt_bb hdo hpc
  have b2 := tt_bb hdo (show p - 1 < (dv d).1 by omega)
  refine aw_aload_n (q := 1) dX7_between_0 rfl rfl rfl ?_
  refine aw_iload_n (q := 2) dX7_between_1 rfl rfl rfl ?_
  refine aw_aload_n (q := 3) dX7_between_2 rfl rfl rfl ?_
  refine aw_get (q := 6) dX7_between_3 rfl fl_X7_16 h82 rfl (fun _ => ?_)
  refine aw_bipush (q := 8) dX7_between_6 rfl (by decide) (by omega) ?_
  refine aw_iload_n (q := 9) dX7_between_8 rfl rfl rfl ?_
  refine aw_imul (q := 10) dX7_between_9 rfl (by omega) ?_
  refine aw_iload_n (q := 11) dX7_between_10 rfl rfl rfl ?_
  refine aw_iadd (q := 12) dX7_between_11 rfl (by omega) ?_
  refine aw_iaload (j := 60 * d + p) (q := 13) dX7_between_12 rfl h85 (by omega) (by omega) (fun r1 => ?_)
  rw [(ag2 d p hd hpc).1]
  refine aw_callV [vI (i), vI ((dv d).2.1 p)] (q := 16) dX7_between_13 rfl ck_X7_timeOf lk_X7_115 rfl ⟨Nat.le_of_ble_eq_true rfl, Nat.le_of_ble_eq_true rfl⟩ rfl rfl h82 rfl (Nat.le_of_ble_eq_true rfl) (by decide) (m_X7_timeOf (d := d) hi hd (by have := hpb p (by omega); omega) hm hO) rfl (fun _ _ _ h => (Rt_x h).elim) ?_
  rintro v n9 μ9 - ⟨v9, hv9, rfl, rfl, rfl⟩
  obtain rfl := Sum.inl.inj hv9
  refine aw_aload_n (q := 17) dX7_between_16 rfl rfl rfl ?_
  refine aw_iload_n (q := 18) dX7_between_17 rfl rfl rfl ?_
  refine aw_aload_n (q := 19) dX7_between_18 rfl rfl rfl ?_
  refine aw_get (q := 22) dX7_between_19 rfl fl_X7_16 h82 rfl (fun _ => ?_)
  refine aw_bipush (q := 24) dX7_between_22 rfl (by decide) (by omega) ?_
  refine aw_iload_n (q := 25) dX7_between_24 rfl rfl rfl ?_
  refine aw_imul (q := 26) dX7_between_25 rfl (by omega) ?_
  refine aw_iload_n (q := 27) dX7_between_26 rfl rfl rfl ?_
  refine aw_iadd (q := 28) dX7_between_27 rfl (by omega) ?_
  refine aw_iconst (q := 29) dX7_between_28 rfl (by omega) ?_
  refine aw_isub (q := 30) dX7_between_29 rfl (by omega) ?_
  refine aw_iaload (j := 60 * d + (p - 1)) (q := 31) dX7_between_30 rfl h85 (by omega) (by omega) (fun r2 => ?_)
  rw [(ag2 d (p - 1) hd (by omega)).1]
  refine aw_callV [vI (i), vI ((dv d).2.1 (p - 1))] (q := 34) dX7_between_31 rfl ck_X7_timeOf lk_X7_115 rfl ⟨Nat.le_of_ble_eq_true rfl, Nat.le_of_ble_eq_true rfl⟩ rfl rfl h82 rfl (Nat.le_of_ble_eq_true rfl) (by decide) (m_X7_timeOf (d := d) hi hd (by have := hpb (p - 1) (by omega); omega) hm hO) rfl (fun _ _ _ h => (Rt_x h).elim) ?_
  rintro v n9 μ9 - ⟨v9, hv9, rfl, rfl, rfl⟩
  obtain rfl := Sum.inl.inj hv9
  refine aw_isub (q := 35) dX7_between_34 rfl (by omega) ?_
  refine aw_i2l (q := 36) dX7_between_35 rfl ?_
  exact aw_lret dX7_between_36 rfl (by decide) (by decide) ⟨_, rfl, rfl, rfl, rfl⟩
set_option maxHeartbeats 4000000 in
set_option maxRecDepth 100000 in
theorem m_X7_is_j {n : Nat} {μ : AH} {th B : Int} {D : Nat} {dv : Nat → DVt} {Fn : Nat} {fv : Nat → FVt} {sv : SVt} {pk fd : Nat × (Nat → Int)} {spd lim : Int} {i w : Int} {d p : Nat} (hi : i = (d : Int)) (hd : d < 5) (hw : w = (p : Int)) (hp1 : 1 ≤ p) (hpc : p < (dv d).1) (hm : MM μ th D dv Fn fv sv pk fd spd lim) (hO : COk B D dv Fn fv sv pk fd spd lim) : AMet YX7_is [vR 82, vI (i), vI (w), vI (1)] n μ (Pv n μ (vI (bz (isJ (dv d).2.1 (dv d).2.2.1 (dv d).2.2.2.1 (dv d).2.2.2.2.2.1 (dv d).2.2.2.2.2.2.1 (dv d).2.2.2.2.2.2.2 spd p)))) := by
  refine AMet.of (by decide) rfl (Nat.le_of_ble_eq_true rfl) ?_
  obtain ⟨at7, ls7, wy7, c7, t7, F7, G7, H7, k7, a7, b7, e7, X7, Y7, y7, o7, r7, s7, u7, v7, w7, h82, h83, h84, h85, h86, h87, h88, h89, h90, h91, h92, h93, h94, h95, h96, h97, h98, h99, h100, ag1, ag2, ag3, ag4, ag5, ag6, ag7, ag8⟩ := id hm
  obtain ⟨hN, hdv, hFn, hfv, hsn, hsb, hpk, hfd, hfb, hs1, hs2, hl1, hl2⟩ := id hO
  have hcd := ag1 d hd
  have hdo : dv_O (dv d) := (hdv d hd).1
  obtain ⟨hc60, hpb, hup, hk8, hmb, hst⟩ : dv_O (dv d) := id hdo
  have tbb := tB_b hdo hp1 hpc
  have e1 := (ag2 d p hd hpc).2.1
  have e2 := (ag2 d (p - 1) hd (by omega)).2.1
  have e3 := (ag2 d p hd hpc).2.2
  have e4 := (ag2 d (p - 1) hd (by omega)).2.2
  have q1 := hpb p hpc
  have q2 := hpb (p - 1) (by omega)
  obtain ⟨T, hT⟩ : ∃ T : Int, tB (dv d).2.2.2.2.2.1 (dv d).2.2.2.2.2.2.1 (dv d).2.2.2.2.2.2.2 (dv d).2.1 p = T := ⟨_, rfl⟩
  have hbt := m_X7_between (n := n) (d := d) (p := p) hi hd hw hp1 hpc hm hO
  rw [hT] at tbb hbt
  have m1 := mul_s (u := spd) (w := T) 100 3000000 (by omega) (by omega)
  have m2 := mul_s (u := spd * T) (w := spd) 300000000 100 (by omega) (by omega)
  have m3 := mul_s (u := spd * T * spd) (w := T) 30000000000 3000000 (by omega) (by omega)
  have s1 : ((dv d).2.2.1 p - (dv d).2.2.1 (p - 1)) * ((dv d).2.2.1 p - (dv d).2.2.1 (p - 1)) = ((dv d).2.2.1 (p - 1) - (dv d).2.2.1 p) * ((dv d).2.2.1 (p - 1) - (dv d).2.2.1 p) := by rw [← Int.neg_mul_neg, Int.neg_sub]
  have s2 : ((dv d).2.2.2.1 p - (dv d).2.2.2.1 (p - 1)) * ((dv d).2.2.2.1 p - (dv d).2.2.2.1 (p - 1)) = ((dv d).2.2.2.1 (p - 1) - (dv d).2.2.2.1 p) * ((dv d).2.2.2.1 (p - 1) - (dv d).2.2.2.1 p) := by rw [← Int.neg_mul_neg, Int.neg_sub]
  have s3 : spd * T * spd * T = (spd * T) * (spd * T) := Int.mul_assoc _ _ _
  refine aw_bipush (q := 2) dX7_is_0 rfl (by decide) (by omega) ?_
  refine aw_iload_n (q := 3) dX7_is_2 rfl rfl rfl ?_
  refine aw_imul (q := 4) dX7_is_3 rfl (by omega) ?_
  refine aw_iload_n (q := 5) dX7_is_4 rfl rfl rfl ?_
  refine aw_iadd (q := 6) dX7_is_5 rfl (by omega) ?_
  refine aw_istore (q := 8) dX7_is_6 rfl (by decide) ?_
  refine aw_aload_n (q := 9) dX7_is_8 rfl rfl rfl ?_
  refine aw_iload_n (q := 10) dX7_is_9 rfl rfl rfl ?_
  refine aw_iload_n (q := 11) dX7_is_10 rfl rfl rfl ?_
  refine aw_callV [vI (i), vI (w)] (q := 14) dX7_is_11 rfl ck_X7_between lk_X7_120 rfl ⟨Nat.le_of_ble_eq_true rfl, Nat.le_of_ble_eq_true rfl⟩ rfl rfl h82 rfl (Nat.le_of_ble_eq_true rfl) (by decide) (hbt) rfl (fun _ _ _ h => (Rt_x h).elim) ?_
  rintro v n9 μ9 - ⟨v9, hv9, rfl, rfl, rfl⟩
  obtain rfl := Sum.inl.inj hv9
  refine aw_lstore (q := 16) dX7_is_14 rfl (by decide) ?_
  refine aw_iload_n (q := 17) dX7_is_16 rfl rfl rfl ?_
  refine aw_if_eq (t := 88) (q := 20) dX7_is_17 rfl (by decide) (fun bc1 => ?_) (fun bc1 => ?_)
  · skip
    omega
  · skip
    refine aw_aload_n (q := 21) dX7_is_20 rfl rfl rfl ?_
    refine aw_get (q := 24) dX7_is_21 rfl fl_X7_19 h82 rfl (fun _ => ?_)
    refine aw_iload (q := 26) dX7_is_24 rfl rfl ?_
    refine aw_iaload (j := 60 * d + p) (q := 27) dX7_is_26 rfl h86 (by omega) (by omega) (fun r2 => ?_)
    rw [e1]
    refine aw_aload_n (q := 28) dX7_is_27 rfl rfl rfl ?_
    refine aw_get (q := 31) dX7_is_28 rfl fl_X7_19 h82 rfl (fun _ => ?_)
    refine aw_iload (q := 33) dX7_is_31 rfl rfl ?_
    refine aw_iconst (q := 34) dX7_is_33 rfl (by omega) ?_
    refine aw_isub (q := 35) dX7_is_34 rfl (by omega) ?_
    refine aw_iaload (j := 60 * d + (p - 1)) (q := 36) dX7_is_35 rfl h86 (by omega) (by omega) (fun r3 => ?_)
    rw [e2]
    refine aw_isub (q := 37) dX7_is_36 rfl (by omega) ?_
    refine aw_i2l (q := 38) dX7_is_37 rfl ?_
    refine aw_aload_n (q := 39) dX7_is_38 rfl rfl rfl ?_
    refine aw_get (q := 42) dX7_is_39 rfl fl_X7_22 h82 rfl (fun _ => ?_)
    refine aw_iload (q := 44) dX7_is_42 rfl rfl ?_
    refine aw_iaload (j := 60 * d + p) (q := 45) dX7_is_44 rfl h87 (by omega) (by omega) (fun r4 => ?_)
    rw [e3]
    refine aw_aload_n (q := 46) dX7_is_45 rfl rfl rfl ?_
    refine aw_get (q := 49) dX7_is_46 rfl fl_X7_22 h82 rfl (fun _ => ?_)
    refine aw_iload (q := 51) dX7_is_49 rfl rfl ?_
    refine aw_iconst (q := 52) dX7_is_51 rfl (by omega) ?_
    refine aw_isub (q := 53) dX7_is_52 rfl (by omega) ?_
    refine aw_iaload (j := 60 * d + (p - 1)) (q := 54) dX7_is_53 rfl h87 (by omega) (by omega) (fun r5 => ?_)
    rw [e4]
    refine aw_isub (q := 55) dX7_is_54 rfl (by omega) ?_
    refine aw_i2l (q := 56) dX7_is_55 rfl ?_
    refine aw_callS [vL (((dv d).2.2.1 p) - ((dv d).2.2.1 (p - 1))), vL (((dv d).2.2.2.1 p) - ((dv d).2.2.2.1 (p - 1)))] (q := 59) dX7_is_56 rfl ck_X7_square lk_X7_124 rfl ⟨Nat.le_of_ble_eq_true rfl, Nat.le_of_ble_eq_true rfl⟩ rfl rfl (Nat.le_of_ble_eq_true rfl) (by decide) (m_X7_square (by omega) (by omega)) rfl (fun _ _ _ h => (Rt_x h).elim) ?_
    rintro v n9 μ9 - ⟨v9, hv9, rfl, rfl, rfl⟩
    obtain rfl := Sum.inl.inj hv9
    refine aw_aload_n (q := 60) dX7_is_59 rfl rfl rfl ?_
    refine aw_get (q := 63) dX7_is_60 rfl fl_X7_34 h82 rfl (fun _ => ?_)
    refine aw_i2l (q := 64) dX7_is_63 rfl ?_
    refine aw_lload (q := 66) dX7_is_64 rfl rfl ?_
    refine aw_lmul (q := 67) dX7_is_66 rfl (by omega) ?_
    refine aw_aload_n (q := 68) dX7_is_67 rfl rfl rfl ?_
    refine aw_get (q := 71) dX7_is_68 rfl fl_X7_34 h82 rfl (fun _ => ?_)
    refine aw_i2l (q := 72) dX7_is_71 rfl ?_
    refine aw_lmul (q := 73) dX7_is_72 rfl (by omega) ?_
    refine aw_lload (q := 75) dX7_is_73 rfl rfl ?_
    refine aw_lmul (q := 76) dX7_is_75 rfl (by omega) ?_
    refine aw_lcmp (q := 77) dX7_is_76 rfl ?_
    refine aw_if_le (t := 84) (q := 80) dX7_is_77 rfl (by decide) (fun bc6 => ?_) (fun bc6 => ?_)
    · skip
      replace bc6 := cmpz_le.mp bc6
      refine aw_iconst (q := 85) dX7_is_84 rfl (by omega) ?_
      refine aw_goto (q := 104) dX7_is_85 (by decide) ?_
      exact aw_zret dX7_is_104 rfl (Or.inl rfl) (by decide) (by decide) ⟨_, rfl, rfl, rfl, congrArg vI (bz_f (by (first | unfold isJ | unfold isG); rw [hT]; omega)).symm⟩
    · skip
      replace bc6 := mt cmpz_le.mpr bc6
      refine aw_iconst (q := 81) dX7_is_80 rfl (by omega) ?_
      refine aw_goto (q := 104) dX7_is_81 (by decide) ?_
      exact aw_zret dX7_is_104 rfl (Or.inr rfl) (by decide) (by decide) ⟨_, rfl, rfl, rfl, congrArg vI (bz_t (by (first | unfold isJ | unfold isG); rw [hT]; omega)).symm⟩
set_option maxHeartbeats 4000000 in
set_option maxRecDepth 100000 in
theorem m_X7_is_g {n : Nat} {μ : AH} {th B : Int} {D : Nat} {dv : Nat → DVt} {Fn : Nat} {fv : Nat → FVt} {sv : SVt} {pk fd : Nat × (Nat → Int)} {spd lim : Int} {i w : Int} {d p : Nat} (hi : i = (d : Int)) (hd : d < 5) (hw : w = (p : Int)) (hp1 : 1 ≤ p) (hpc : p < (dv d).1) (hm : MM μ th D dv Fn fv sv pk fd spd lim) (hO : COk B D dv Fn fv sv pk fd spd lim) : AMet YX7_is [vR 82, vI (i), vI (w), vI (0)] n μ (Pv n μ (vI (bz (isG (dv d).2.1 (dv d).2.2.2.2.2.1 (dv d).2.2.2.2.2.2.1 (dv d).2.2.2.2.2.2.2 lim p)))) := by
  refine AMet.of (by decide) rfl (Nat.le_of_ble_eq_true rfl) ?_
  obtain ⟨at7, ls7, wy7, c7, t7, F7, G7, H7, k7, a7, b7, e7, X7, Y7, y7, o7, r7, s7, u7, v7, w7, h82, h83, h84, h85, h86, h87, h88, h89, h90, h91, h92, h93, h94, h95, h96, h97, h98, h99, h100, ag1, ag2, ag3, ag4, ag5, ag6, ag7, ag8⟩ := id hm
  obtain ⟨hN, hdv, hFn, hfv, hsn, hsb, hpk, hfd, hfb, hs1, hs2, hl1, hl2⟩ := id hO
  have hcd := ag1 d hd
  have hdo : dv_O (dv d) := (hdv d hd).1
  obtain ⟨hc60, hpb, hup, hk8, hmb, hst⟩ : dv_O (dv d) := id hdo
  have tbb := tB_b hdo hp1 hpc
  have e1 := (ag2 d p hd hpc).2.1
  have e2 := (ag2 d (p - 1) hd (by omega)).2.1
  have e3 := (ag2 d p hd hpc).2.2
  have e4 := (ag2 d (p - 1) hd (by omega)).2.2
  have q1 := hpb p hpc
  have q2 := hpb (p - 1) (by omega)
  obtain ⟨T, hT⟩ : ∃ T : Int, tB (dv d).2.2.2.2.2.1 (dv d).2.2.2.2.2.2.1 (dv d).2.2.2.2.2.2.2 (dv d).2.1 p = T := ⟨_, rfl⟩
  have hbt := m_X7_between (n := n) (d := d) (p := p) hi hd hw hp1 hpc hm hO
  rw [hT] at tbb hbt
  have m1 := mul_s (u := spd) (w := T) 100 3000000 (by omega) (by omega)
  have m2 := mul_s (u := spd * T) (w := spd) 300000000 100 (by omega) (by omega)
  have m3 := mul_s (u := spd * T * spd) (w := T) 30000000000 3000000 (by omega) (by omega)
  have s1 : ((dv d).2.2.1 p - (dv d).2.2.1 (p - 1)) * ((dv d).2.2.1 p - (dv d).2.2.1 (p - 1)) = ((dv d).2.2.1 (p - 1) - (dv d).2.2.1 p) * ((dv d).2.2.1 (p - 1) - (dv d).2.2.1 p) := by rw [← Int.neg_mul_neg, Int.neg_sub]
  have s2 : ((dv d).2.2.2.1 p - (dv d).2.2.2.1 (p - 1)) * ((dv d).2.2.2.1 p - (dv d).2.2.2.1 (p - 1)) = ((dv d).2.2.2.1 (p - 1) - (dv d).2.2.2.1 p) * ((dv d).2.2.2.1 (p - 1) - (dv d).2.2.2.1 p) := by rw [← Int.neg_mul_neg, Int.neg_sub]
  have s3 : spd * T * spd * T = (spd * T) * (spd * T) := Int.mul_assoc _ _ _
  refine aw_bipush (q := 2) dX7_is_0 rfl (by decide) (by omega) ?_
  refine aw_iload_n (q := 3) dX7_is_2 rfl rfl rfl ?_
  refine aw_imul (q := 4) dX7_is_3 rfl (by omega) ?_
  refine aw_iload_n (q := 5) dX7_is_4 rfl rfl rfl ?_
  refine aw_iadd (q := 6) dX7_is_5 rfl (by omega) ?_
  refine aw_istore (q := 8) dX7_is_6 rfl (by decide) ?_
  refine aw_aload_n (q := 9) dX7_is_8 rfl rfl rfl ?_
  refine aw_iload_n (q := 10) dX7_is_9 rfl rfl rfl ?_
  refine aw_iload_n (q := 11) dX7_is_10 rfl rfl rfl ?_
  refine aw_callV [vI (i), vI (w)] (q := 14) dX7_is_11 rfl ck_X7_between lk_X7_120 rfl ⟨Nat.le_of_ble_eq_true rfl, Nat.le_of_ble_eq_true rfl⟩ rfl rfl h82 rfl (Nat.le_of_ble_eq_true rfl) (by decide) (hbt) rfl (fun _ _ _ h => (Rt_x h).elim) ?_
  rintro v n9 μ9 - ⟨v9, hv9, rfl, rfl, rfl⟩
  obtain rfl := Sum.inl.inj hv9
  refine aw_lstore (q := 16) dX7_is_14 rfl (by decide) ?_
  refine aw_iload_n (q := 17) dX7_is_16 rfl rfl rfl ?_
  refine aw_if_eq (t := 88) (q := 20) dX7_is_17 rfl (by decide) (fun bc1 => ?_) (fun bc1 => ?_)
  · skip
    refine aw_lload (q := 90) dX7_is_88 rfl rfl ?_
    refine aw_aload_n (q := 91) dX7_is_90 rfl rfl rfl ?_
    refine aw_get (q := 94) dX7_is_91 rfl fl_X7_38 h82 rfl (fun _ => ?_)
    refine aw_i2l (q := 95) dX7_is_94 rfl ?_
    refine aw_lcmp (q := 96) dX7_is_95 rfl ?_
    refine aw_if_le (t := 103) (q := 99) dX7_is_96 rfl (by decide) (fun bc2 => ?_) (fun bc2 => ?_)
    · skip
      replace bc2 := cmpz_le.mp bc2
      refine aw_iconst (q := 104) dX7_is_103 rfl (by omega) ?_
      exact aw_zret dX7_is_104 rfl (Or.inl rfl) (by decide) (by decide) ⟨_, rfl, rfl, rfl, congrArg vI (bz_f (by (first | unfold isJ | unfold isG); rw [hT]; omega)).symm⟩
    · skip
      replace bc2 := mt cmpz_le.mpr bc2
      refine aw_iconst (q := 100) dX7_is_99 rfl (by omega) ?_
      refine aw_goto (q := 104) dX7_is_100 (by decide) ?_
      exact aw_zret dX7_is_104 rfl (Or.inr rfl) (by decide) (by decide) ⟨_, rfl, rfl, rfl, congrArg vI (bz_t (by (first | unfold isJ | unfold isG); rw [hT]; omega)).symm⟩
  · skip
    omega
theorem cnt_e {P : Nat → Prop} [DecidablePred P] {c p : Nat} (h : c ≤ p) (h' : p ≤ c ∨ p = 1) : cnt P p = cnt P c := by
  rcases h' with q | q
  · rw [Nat.le_antisymm q h]
  · subst q
    by_cases e : c = 1
    · rw [e]
    · rw [show c = 0 by omega]; rfl
set_option maxHeartbeats 4000000 in
set_option maxRecDepth 100000 in
theorem m_X7_countOf_j {n : Nat} {μ : AH} {th B : Int} {D : Nat} {dv : Nat → DVt} {Fn : Nat} {fv : Nat → FVt} {sv : SVt} {pk fd : Nat × (Nat → Int)} {spd lim : Int} {i : Int} {d : Nat} (hi : i = (d : Int)) (hd : d < 5) (hm : MM μ th D dv Fn fv sv pk fd spd lim) (hO : COk B D dv Fn fv sv pk fd spd lim) : AMet YX7_countOf [vR 82, vI (i), vI (1)] n μ (Pv n μ (vI (cnt (fun p => isJ (dv d).2.1 (dv d).2.2.1 (dv d).2.2.2.1 (dv d).2.2.2.2.2.1 (dv d).2.2.2.2.2.2.1 (dv d).2.2.2.2.2.2.2 spd p) (dv d).1 : Nat))) := by
  refine AMet.of (by decide) rfl (Nat.le_of_ble_eq_true rfl) ?_
  obtain ⟨at7, ls7, wy7, c7, t7, F7, G7, H7, k7, a7, b7, e7, X7, Y7, y7, o7, r7, s7, u7, v7, w7, h82, h83, h84, h85, h86, h87, h88, h89, h90, h91, h92, h93, h94, h95, h96, h97, h98, h99, h100, ag1, ag2, ag3, ag4, ag5, ag6, ag7, ag8⟩ := id hm
  obtain ⟨hN, hdv, hFn, hfv, hsn, hsb, hpk, hfd, hfb, hs1, hs2, hl1, hl2⟩ := id hO
  have hcd := ag1 d hd
  have hdo : dv_O (dv d) := (hdv d hd).1
  obtain ⟨hc60, hpb, hup, hk8, hmb, hst⟩ : dv_O (dv d) := id hdo
  have loop : ∀ (j p : Nat) (x y : Int), (dv d).1 - p < j → x = (p : Int) → 1 ≤ p → y = (cnt (fun p => isJ (dv d).2.1 (dv d).2.2.1 (dv d).2.2.2.1 (dv d).2.2.2.2.2.1 (dv d).2.2.2.2.2.2.1 (dv d).2.2.2.2.2.2.2 spd p) p : Nat) → (p ≤ (dv d).1 ∨ p = 1) → AW YX7_countOf none (Pv n μ (vI (cnt (fun p => isJ (dv d).2.1 (dv d).2.2.1 (dv d).2.2.2.1 (dv d).2.2.2.2.2.1 (dv d).2.2.2.2.2.2.1 (dv d).2.2.2.2.2.2.2 spd p) (dv d).1 : Nat))) 5 [some (vR 82), some (vI (i)), some (vI (1)), some (vI (y)), some (vI (x))] [] n μ 0 0 := by
    intro j
    induction j with
    | zero => intro p x y hj; exact absurd hj (Nat.not_lt_zero _)
    | succ j ih =>
      intro p x y hj hx hp1 hy hpc
      refine aw_iload (q := 7) dX7_countOf_5 rfl rfl ?_
      refine aw_aload_n (q := 8) dX7_countOf_7 rfl rfl rfl ?_
      refine aw_get (q := 11) dX7_countOf_8 rfl fl_X7_7 h82 rfl (fun _ => ?_)
      refine aw_iload_n (q := 12) dX7_countOf_11 rfl rfl rfl ?_
      refine aw_iaload (j := d) (q := 13) dX7_countOf_12 rfl h83 (by omega) (by omega) (fun r1 => ?_)
      refine aw_ic_ge (t := 41) (q := 16) dX7_countOf_13 rfl (by decide) (fun bc2 => ?_) (fun bc2 => ?_)
      · skip
        refine aw_iload_n (q := 42) dX7_countOf_41 rfl rfl rfl ?_
        exact aw_iret dX7_countOf_42 rfl (by decide) (by decide) ⟨_, rfl, rfl, rfl, congrArg vI (by rw [hy, cnt_e (by omega) hpc])⟩
      · skip
        have c1 := cnt_le (fun p => isJ (dv d).2.1 (dv d).2.2.1 (dv d).2.2.2.1 (dv d).2.2.2.2.2.1 (dv d).2.2.2.2.2.2.1 (dv d).2.2.2.2.2.2.2 spd p) p
        refine aw_iload_n (q := 17) dX7_countOf_16 rfl rfl rfl ?_
        refine aw_aload_n (q := 18) dX7_countOf_17 rfl rfl rfl ?_
        refine aw_iload_n (q := 19) dX7_countOf_18 rfl rfl rfl ?_
        refine aw_iload (q := 21) dX7_countOf_19 rfl rfl ?_
        refine aw_iload_n (q := 22) dX7_countOf_21 rfl rfl rfl ?_
        refine aw_callV [vI (i), vI (x), vI (1)] (q := 25) dX7_countOf_22 rfl ck_X7_is lk_X7_128 rfl ⟨Nat.le_of_ble_eq_true rfl, Nat.le_of_ble_eq_true rfl⟩ rfl rfl h82 rfl (Nat.le_of_ble_eq_true rfl) (by decide) (m_X7_is_j (d := d) (p := p) hi hd hx (by omega) (by omega) hm hO) rfl (fun _ _ _ h => (Rt_x h).elim) ?_
        rintro v n9 μ9 - ⟨v9, hv9, rfl, rfl, rfl⟩
        obtain rfl := Sum.inl.inj hv9
        refine aw_if_eq (t := 32) (q := 28) dX7_countOf_25 rfl (by decide) (fun bc3 => ?_) (fun bc3 => ?_)
        · skip
          replace bc3 := bz_0.mp bc3
          refine aw_iconst (q := 33) dX7_countOf_32 rfl (by omega) ?_
          refine aw_iadd (q := 34) dX7_countOf_33 rfl (by omega) ?_
          refine aw_istore_n (q := 35) dX7_countOf_34 rfl rfl (by decide) ?_
          refine aw_iinc (q := 38) dX7_countOf_35 rfl rfl (by decide) (by omega) ?_
          refine aw_goto (q := 5) dX7_countOf_38 (by decide) ?_
          exact ih (p + 1) _ _ (by omega) (by omega) (by omega) (by first | (rw [cnt_t (by omega) (by assumption)]; omega) | (rw [cnt_f (by assumption)]; omega)) (by omega)
        · skip
          replace bc3 := bz_n0.mp bc3
          refine aw_iconst (q := 29) dX7_countOf_28 rfl (by omega) ?_
          refine aw_goto (q := 33) dX7_countOf_29 (by decide) ?_
          refine aw_iadd (q := 34) dX7_countOf_33 rfl (by omega) ?_
          refine aw_istore_n (q := 35) dX7_countOf_34 rfl rfl (by decide) ?_
          refine aw_iinc (q := 38) dX7_countOf_35 rfl rfl (by decide) (by omega) ?_
          refine aw_goto (q := 5) dX7_countOf_38 (by decide) ?_
          exact ih (p + 1) _ _ (by omega) (by omega) (by omega) (by first | (rw [cnt_t (by omega) (by assumption)]; omega) | (rw [cnt_f (by assumption)]; omega)) (by omega)
  refine aw_iconst (q := 1) dX7_countOf_0 rfl (by omega) ?_
  refine aw_istore_n (q := 2) dX7_countOf_1 rfl rfl (by decide) ?_
  refine aw_iconst (q := 3) dX7_countOf_2 rfl (by omega) ?_
  refine aw_istore (q := 5) dX7_countOf_3 rfl (by decide) ?_
  exact loop ((dv d).1 + 1) 1 _ _ (by omega) rfl (by omega) rfl (by omega)
set_option maxHeartbeats 4000000 in
set_option maxRecDepth 100000 in
theorem m_X7_find_j {n : Nat} {μ : AH} {th B : Int} {D : Nat} {dv : Nat → DVt} {Fn : Nat} {fv : Nat → FVt} {sv : SVt} {pk fd : Nat × (Nat → Int)} {spd lim : Int} {i k : Int} {d : Nat} (hi : i = (d : Int)) (hd : d < 5) (hm : MM μ th D dv Fn fv sv pk fd spd lim) (hO : COk B D dv Fn fv sv pk fd spd lim) : AMet YX7_find [vR 82, vI (i), vI (k), vI (1)] n μ (Rt (fun v n' μ' => n' = n ∧ μ' = μ ∧ ∃ r : Int, v = vI r ∧ KthR (fun p => isJ (dv d).2.1 (dv d).2.2.1 (dv d).2.2.2.1 (dv d).2.2.2.2.2.1 (dv d).2.2.2.2.2.2.1 (dv d).2.2.2.2.2.2.2 spd p) (dv d).1 k r)) := by
  refine AMet.of (by decide) rfl (Nat.le_of_ble_eq_true rfl) ?_
  obtain ⟨at7, ls7, wy7, c7, t7, F7, G7, H7, k7, a7, b7, e7, X7, Y7, y7, o7, r7, s7, u7, v7, w7, h82, h83, h84, h85, h86, h87, h88, h89, h90, h91, h92, h93, h94, h95, h96, h97, h98, h99, h100, ag1, ag2, ag3, ag4, ag5, ag6, ag7, ag8⟩ := id hm
  obtain ⟨hN, hdv, hFn, hfv, hsn, hsb, hpk, hfd, hfb, hs1, hs2, hl1, hl2⟩ := id hO
  have hcd := ag1 d hd
  have hdo : dv_O (dv d) := (hdv d hd).1
  obtain ⟨hc60, hpb, hup, hk8, hmb, hst⟩ : dv_O (dv d) := id hdo
  have loop : ∀ (j p : Nat) (x y : Int), (dv d).1 - p < j → x = (p : Int) → 1 ≤ p → y = (cnt (fun p => isJ (dv d).2.1 (dv d).2.2.1 (dv d).2.2.2.1 (dv d).2.2.2.2.2.1 (dv d).2.2.2.2.2.2.1 (dv d).2.2.2.2.2.2.2 spd p) p : Nat) → (∀ p9, 1 ≤ p9 → p9 < p → isJ (dv d).2.1 (dv d).2.2.1 (dv d).2.2.2.1 (dv d).2.2.2.2.2.1 (dv d).2.2.2.2.2.2.1 (dv d).2.2.2.2.2.2.2 spd p9 → (cnt (fun p => isJ (dv d).2.1 (dv d).2.2.1 (dv d).2.2.2.1 (dv d).2.2.2.2.2.1 (dv d).2.2.2.2.2.2.1 (dv d).2.2.2.2.2.2.2 spd p) p9 : Int) ≠ k) → AW YX7_find none (Rt (fun v n' μ' => n' = n ∧ μ' = μ ∧ ∃ r : Int, v = vI r ∧ KthR (fun p => isJ (dv d).2.1 (dv d).2.2.1 (dv d).2.2.2.1 (dv d).2.2.2.2.2.1 (dv d).2.2.2.2.2.2.1 (dv d).2.2.2.2.2.2.2 spd p) (dv d).1 k r)) 6 [some (vR 82), some (vI (i)), some (vI (k)), some (vI (1)), some (vI (y)), some (vI (x))] [] n μ 0 0 := by
    intro j
    induction j with
    | zero => intro p x y hj; exact absurd hj (Nat.not_lt_zero _)
    | succ j ih =>
      intro p x y hj hx hp1 hy hno
      refine aw_iload (q := 8) dX7_find_6 rfl rfl ?_
      refine aw_aload_n (q := 9) dX7_find_8 rfl rfl rfl ?_
      refine aw_get (q := 12) dX7_find_9 rfl fl_X7_7 h82 rfl (fun _ => ?_)
      refine aw_iload_n (q := 13) dX7_find_12 rfl rfl rfl ?_
      refine aw_iaload (j := d) (q := 14) dX7_find_13 rfl h83 (by omega) (by omega) (fun r1 => ?_)
      refine aw_ic_ge (t := 49) (q := 17) dX7_find_14 rfl (by decide) (fun bc2 => ?_) (fun bc2 => ?_)
      · skip
        refine aw_iconst (q := 50) dX7_find_49 rfl (by omega) ?_
        exact aw_iret dX7_find_50 rfl (by decide) (by decide) ⟨_, rfl, rfl, rfl, _, rfl, Or.inr ⟨rfl, fun p9 h1 h2 h3 => hno p9 h1 (by omega) h3⟩⟩
      · skip
        have c1 := cnt_le (fun p => isJ (dv d).2.1 (dv d).2.2.1 (dv d).2.2.2.1 (dv d).2.2.2.2.2.1 (dv d).2.2.2.2.2.2.1 (dv d).2.2.2.2.2.2.2 spd p) p
        refine aw_aload_n (q := 18) dX7_find_17 rfl rfl rfl ?_
        refine aw_iload_n (q := 19) dX7_find_18 rfl rfl rfl ?_
        refine aw_iload (q := 21) dX7_find_19 rfl rfl ?_
        refine aw_iload_n (q := 22) dX7_find_21 rfl rfl rfl ?_
        refine aw_callV [vI (i), vI (x), vI (1)] (q := 25) dX7_find_22 rfl ck_X7_is lk_X7_128 rfl ⟨Nat.le_of_ble_eq_true rfl, Nat.le_of_ble_eq_true rfl⟩ rfl rfl h82 rfl (Nat.le_of_ble_eq_true rfl) (by decide) (m_X7_is_j (d := d) (p := p) hi hd hx (by omega) (by omega) hm hO) rfl (fun _ _ _ h => (Rt_x h).elim) ?_
        rintro v n9 μ9 - ⟨v9, hv9, rfl, rfl, rfl⟩
        obtain rfl := Sum.inl.inj hv9
        refine aw_if_ne (t := 31) (q := 28) dX7_find_25 rfl (by decide) (fun bc3 => ?_) (fun bc3 => ?_)
        · skip
          replace bc3 := bz_n0.mp bc3
          refine aw_iload (q := 33) dX7_find_31 rfl rfl ?_
          refine aw_iload_n (q := 34) dX7_find_33 rfl rfl rfl ?_
          refine aw_ic_ne (t := 40) (q := 37) dX7_find_34 rfl (by decide) (fun bc4 => ?_) (fun bc4 => ?_)
          · skip
            refine aw_iinc (q := 43) dX7_find_40 rfl rfl (by decide) (by omega) ?_
            refine aw_iinc (q := 46) dX7_find_43 rfl rfl (by decide) (by omega) ?_
            refine aw_goto (q := 6) dX7_find_46 (by decide) ?_
            exact ih (p + 1) _ _ (by omega) (by omega) (by omega) (by first | (rw [cnt_t (P := (fun p => isJ (dv d).2.1 (dv d).2.2.1 (dv d).2.2.2.1 (dv d).2.2.2.2.2.1 (dv d).2.2.2.2.2.2.1 (dv d).2.2.2.2.2.2.2 spd p)) (by omega) (by assumption)]; omega) | (rw [cnt_f (P := (fun p => isJ (dv d).2.1 (dv d).2.2.1 (dv d).2.2.2.1 (dv d).2.2.2.2.2.1 (dv d).2.2.2.2.2.2.1 (dv d).2.2.2.2.2.2.2 spd p)) (by assumption)]; omega)) (fun p9 h1 h2 h3 => by rcases Nat.lt_succ_iff_lt_or_eq.mp h2 with h8 | h8; exact hno p9 h1 h8 h3; subst h8; first | omega | exact absurd h3 (by assumption))
          · skip
            refine aw_iload (q := 39) dX7_find_37 rfl rfl ?_
            exact aw_iret dX7_find_39 rfl (by decide) (by decide) ⟨_, rfl, rfl, rfl, _, rfl, Or.inl ⟨p, hx, by omega, by omega, by assumption, by omega⟩⟩
        · skip
          replace bc3 := bz_0.mp bc3
          refine aw_goto (q := 43) dX7_find_28 (by decide) ?_
          refine aw_iinc (q := 46) dX7_find_43 rfl rfl (by decide) (by omega) ?_
          refine aw_goto (q := 6) dX7_find_46 (by decide) ?_
          exact ih (p + 1) _ _ (by omega) (by omega) (by omega) (by first | (rw [cnt_t (P := (fun p => isJ (dv d).2.1 (dv d).2.2.1 (dv d).2.2.2.1 (dv d).2.2.2.2.2.1 (dv d).2.2.2.2.2.2.1 (dv d).2.2.2.2.2.2.2 spd p)) (by omega) (by assumption)]; omega) | (rw [cnt_f (P := (fun p => isJ (dv d).2.1 (dv d).2.2.1 (dv d).2.2.2.1 (dv d).2.2.2.2.2.1 (dv d).2.2.2.2.2.2.1 (dv d).2.2.2.2.2.2.2 spd p)) (by assumption)]; omega)) (fun p9 h1 h2 h3 => by rcases Nat.lt_succ_iff_lt_or_eq.mp h2 with h8 | h8; exact hno p9 h1 h8 h3; subst h8; first | omega | exact absurd h3 (by assumption))
  refine aw_iconst (q := 1) dX7_find_0 rfl (by omega) ?_
  refine aw_istore (q := 3) dX7_find_1 rfl (by decide) ?_
  refine aw_iconst (q := 4) dX7_find_3 rfl (by omega) ?_
  refine aw_istore (q := 6) dX7_find_4 rfl (by decide) ?_
  exact loop ((dv d).1 + 1) 1 _ _ (by omega) rfl (by omega) rfl (fun p9 h1 h2 => by omega)
set_option maxHeartbeats 4000000 in
set_option maxRecDepth 100000 in
theorem m_X7_countOf_g {n : Nat} {μ : AH} {th B : Int} {D : Nat} {dv : Nat → DVt} {Fn : Nat} {fv : Nat → FVt} {sv : SVt} {pk fd : Nat × (Nat → Int)} {spd lim : Int} {i : Int} {d : Nat} (hi : i = (d : Int)) (hd : d < 5) (hm : MM μ th D dv Fn fv sv pk fd spd lim) (hO : COk B D dv Fn fv sv pk fd spd lim) : AMet YX7_countOf [vR 82, vI (i), vI (0)] n μ (Pv n μ (vI (cnt (fun p => isG (dv d).2.1 (dv d).2.2.2.2.2.1 (dv d).2.2.2.2.2.2.1 (dv d).2.2.2.2.2.2.2 lim p) (dv d).1 : Nat))) := by
  refine AMet.of (by decide) rfl (Nat.le_of_ble_eq_true rfl) ?_
  obtain ⟨at7, ls7, wy7, c7, t7, F7, G7, H7, k7, a7, b7, e7, X7, Y7, y7, o7, r7, s7, u7, v7, w7, h82, h83, h84, h85, h86, h87, h88, h89, h90, h91, h92, h93, h94, h95, h96, h97, h98, h99, h100, ag1, ag2, ag3, ag4, ag5, ag6, ag7, ag8⟩ := id hm
  obtain ⟨hN, hdv, hFn, hfv, hsn, hsb, hpk, hfd, hfb, hs1, hs2, hl1, hl2⟩ := id hO
  have hcd := ag1 d hd
  have hdo : dv_O (dv d) := (hdv d hd).1
  obtain ⟨hc60, hpb, hup, hk8, hmb, hst⟩ : dv_O (dv d) := id hdo
  have loop : ∀ (j p : Nat) (x y : Int), (dv d).1 - p < j → x = (p : Int) → 1 ≤ p → y = (cnt (fun p => isG (dv d).2.1 (dv d).2.2.2.2.2.1 (dv d).2.2.2.2.2.2.1 (dv d).2.2.2.2.2.2.2 lim p) p : Nat) → (p ≤ (dv d).1 ∨ p = 1) → AW YX7_countOf none (Pv n μ (vI (cnt (fun p => isG (dv d).2.1 (dv d).2.2.2.2.2.1 (dv d).2.2.2.2.2.2.1 (dv d).2.2.2.2.2.2.2 lim p) (dv d).1 : Nat))) 5 [some (vR 82), some (vI (i)), some (vI (0)), some (vI (y)), some (vI (x))] [] n μ 0 0 := by
    intro j
    induction j with
    | zero => intro p x y hj; exact absurd hj (Nat.not_lt_zero _)
    | succ j ih =>
      intro p x y hj hx hp1 hy hpc
      refine aw_iload (q := 7) dX7_countOf_5 rfl rfl ?_
      refine aw_aload_n (q := 8) dX7_countOf_7 rfl rfl rfl ?_
      refine aw_get (q := 11) dX7_countOf_8 rfl fl_X7_7 h82 rfl (fun _ => ?_)
      refine aw_iload_n (q := 12) dX7_countOf_11 rfl rfl rfl ?_
      refine aw_iaload (j := d) (q := 13) dX7_countOf_12 rfl h83 (by omega) (by omega) (fun r1 => ?_)
      refine aw_ic_ge (t := 41) (q := 16) dX7_countOf_13 rfl (by decide) (fun bc2 => ?_) (fun bc2 => ?_)
      · skip
        refine aw_iload_n (q := 42) dX7_countOf_41 rfl rfl rfl ?_
        exact aw_iret dX7_countOf_42 rfl (by decide) (by decide) ⟨_, rfl, rfl, rfl, congrArg vI (by rw [hy, cnt_e (by omega) hpc])⟩
      · skip
        have c1 := cnt_le (fun p => isG (dv d).2.1 (dv d).2.2.2.2.2.1 (dv d).2.2.2.2.2.2.1 (dv d).2.2.2.2.2.2.2 lim p) p
        refine aw_iload_n (q := 17) dX7_countOf_16 rfl rfl rfl ?_
        refine aw_aload_n (q := 18) dX7_countOf_17 rfl rfl rfl ?_
        refine aw_iload_n (q := 19) dX7_countOf_18 rfl rfl rfl ?_
        refine aw_iload (q := 21) dX7_countOf_19 rfl rfl ?_
        refine aw_iload_n (q := 22) dX7_countOf_21 rfl rfl rfl ?_
        refine aw_callV [vI (i), vI (x), vI (0)] (q := 25) dX7_countOf_22 rfl ck_X7_is lk_X7_128 rfl ⟨Nat.le_of_ble_eq_true rfl, Nat.le_of_ble_eq_true rfl⟩ rfl rfl h82 rfl (Nat.le_of_ble_eq_true rfl) (by decide) (m_X7_is_g (d := d) (p := p) hi hd hx (by omega) (by omega) hm hO) rfl (fun _ _ _ h => (Rt_x h).elim) ?_
        rintro v n9 μ9 - ⟨v9, hv9, rfl, rfl, rfl⟩
        obtain rfl := Sum.inl.inj hv9
        refine aw_if_eq (t := 32) (q := 28) dX7_countOf_25 rfl (by decide) (fun bc3 => ?_) (fun bc3 => ?_)
        · skip
          replace bc3 := bz_0.mp bc3
          refine aw_iconst (q := 33) dX7_countOf_32 rfl (by omega) ?_
          refine aw_iadd (q := 34) dX7_countOf_33 rfl (by omega) ?_
          refine aw_istore_n (q := 35) dX7_countOf_34 rfl rfl (by decide) ?_
          refine aw_iinc (q := 38) dX7_countOf_35 rfl rfl (by decide) (by omega) ?_
          refine aw_goto (q := 5) dX7_countOf_38 (by decide) ?_
          exact ih (p + 1) _ _ (by omega) (by omega) (by omega) (by first | (rw [cnt_t (by omega) (by assumption)]; omega) | (rw [cnt_f (by assumption)]; omega)) (by omega)
        · skip
          replace bc3 := bz_n0.mp bc3
          refine aw_iconst (q := 29) dX7_countOf_28 rfl (by omega) ?_
          refine aw_goto (q := 33) dX7_countOf_29 (by decide) ?_
          refine aw_iadd (q := 34) dX7_countOf_33 rfl (by omega) ?_
          refine aw_istore_n (q := 35) dX7_countOf_34 rfl rfl (by decide) ?_
          refine aw_iinc (q := 38) dX7_countOf_35 rfl rfl (by decide) (by omega) ?_
          refine aw_goto (q := 5) dX7_countOf_38 (by decide) ?_
          exact ih (p + 1) _ _ (by omega) (by omega) (by omega) (by first | (rw [cnt_t (by omega) (by assumption)]; omega) | (rw [cnt_f (by assumption)]; omega)) (by omega)
  refine aw_iconst (q := 1) dX7_countOf_0 rfl (by omega) ?_
  refine aw_istore_n (q := 2) dX7_countOf_1 rfl rfl (by decide) ?_
  refine aw_iconst (q := 3) dX7_countOf_2 rfl (by omega) ?_
  refine aw_istore (q := 5) dX7_countOf_3 rfl (by decide) ?_
  exact loop ((dv d).1 + 1) 1 _ _ (by omega) rfl (by omega) rfl (by omega)
set_option maxHeartbeats 4000000 in
set_option maxRecDepth 100000 in
theorem m_X7_find_g {n : Nat} {μ : AH} {th B : Int} {D : Nat} {dv : Nat → DVt} {Fn : Nat} {fv : Nat → FVt} {sv : SVt} {pk fd : Nat × (Nat → Int)} {spd lim : Int} {i k : Int} {d : Nat} (hi : i = (d : Int)) (hd : d < 5) (hm : MM μ th D dv Fn fv sv pk fd spd lim) (hO : COk B D dv Fn fv sv pk fd spd lim) : AMet YX7_find [vR 82, vI (i), vI (k), vI (0)] n μ (Rt (fun v n' μ' => n' = n ∧ μ' = μ ∧ ∃ r : Int, v = vI r ∧ KthR (fun p => isG (dv d).2.1 (dv d).2.2.2.2.2.1 (dv d).2.2.2.2.2.2.1 (dv d).2.2.2.2.2.2.2 lim p) (dv d).1 k r)) := by
  refine AMet.of (by decide) rfl (Nat.le_of_ble_eq_true rfl) ?_
  obtain ⟨at7, ls7, wy7, c7, t7, F7, G7, H7, k7, a7, b7, e7, X7, Y7, y7, o7, r7, s7, u7, v7, w7, h82, h83, h84, h85, h86, h87, h88, h89, h90, h91, h92, h93, h94, h95, h96, h97, h98, h99, h100, ag1, ag2, ag3, ag4, ag5, ag6, ag7, ag8⟩ := id hm
  obtain ⟨hN, hdv, hFn, hfv, hsn, hsb, hpk, hfd, hfb, hs1, hs2, hl1, hl2⟩ := id hO
  have hcd := ag1 d hd
  have hdo : dv_O (dv d) := (hdv d hd).1
  obtain ⟨hc60, hpb, hup, hk8, hmb, hst⟩ : dv_O (dv d) := id hdo
  have loop : ∀ (j p : Nat) (x y : Int), (dv d).1 - p < j → x = (p : Int) → 1 ≤ p → y = (cnt (fun p => isG (dv d).2.1 (dv d).2.2.2.2.2.1 (dv d).2.2.2.2.2.2.1 (dv d).2.2.2.2.2.2.2 lim p) p : Nat) → (∀ p9, 1 ≤ p9 → p9 < p → isG (dv d).2.1 (dv d).2.2.2.2.2.1 (dv d).2.2.2.2.2.2.1 (dv d).2.2.2.2.2.2.2 lim p9 → (cnt (fun p => isG (dv d).2.1 (dv d).2.2.2.2.2.1 (dv d).2.2.2.2.2.2.1 (dv d).2.2.2.2.2.2.2 lim p) p9 : Int) ≠ k) → AW YX7_find none (Rt (fun v n' μ' => n' = n ∧ μ' = μ ∧ ∃ r : Int, v = vI r ∧ KthR (fun p => isG (dv d).2.1 (dv d).2.2.2.2.2.1 (dv d).2.2.2.2.2.2.1 (dv d).2.2.2.2.2.2.2 lim p) (dv d).1 k r)) 6 [some (vR 82), some (vI (i)), some (vI (k)), some (vI (0)), some (vI (y)), some (vI (x))] [] n μ 0 0 := by
    intro j
    induction j with
    | zero => intro p x y hj; exact absurd hj (Nat.not_lt_zero _)
    | succ j ih =>
      intro p x y hj hx hp1 hy hno
      refine aw_iload (q := 8) dX7_find_6 rfl rfl ?_
      refine aw_aload_n (q := 9) dX7_find_8 rfl rfl rfl ?_
      refine aw_get (q := 12) dX7_find_9 rfl fl_X7_7 h82 rfl (fun _ => ?_)
      refine aw_iload_n (q := 13) dX7_find_12 rfl rfl rfl ?_
      refine aw_iaload (j := d) (q := 14) dX7_find_13 rfl h83 (by omega) (by omega) (fun r1 => ?_)
      refine aw_ic_ge (t := 49) (q := 17) dX7_find_14 rfl (by decide) (fun bc2 => ?_) (fun bc2 => ?_)
      · skip
        refine aw_iconst (q := 50) dX7_find_49 rfl (by omega) ?_
        exact aw_iret dX7_find_50 rfl (by decide) (by decide) ⟨_, rfl, rfl, rfl, _, rfl, Or.inr ⟨rfl, fun p9 h1 h2 h3 => hno p9 h1 (by omega) h3⟩⟩
      · skip
        have c1 := cnt_le (fun p => isG (dv d).2.1 (dv d).2.2.2.2.2.1 (dv d).2.2.2.2.2.2.1 (dv d).2.2.2.2.2.2.2 lim p) p
        refine aw_aload_n (q := 18) dX7_find_17 rfl rfl rfl ?_
        refine aw_iload_n (q := 19) dX7_find_18 rfl rfl rfl ?_
        refine aw_iload (q := 21) dX7_find_19 rfl rfl ?_
        refine aw_iload_n (q := 22) dX7_find_21 rfl rfl rfl ?_
        refine aw_callV [vI (i), vI (x), vI (0)] (q := 25) dX7_find_22 rfl ck_X7_is lk_X7_128 rfl ⟨Nat.le_of_ble_eq_true rfl, Nat.le_of_ble_eq_true rfl⟩ rfl rfl h82 rfl (Nat.le_of_ble_eq_true rfl) (by decide) (m_X7_is_g (d := d) (p := p) hi hd hx (by omega) (by omega) hm hO) rfl (fun _ _ _ h => (Rt_x h).elim) ?_
        rintro v n9 μ9 - ⟨v9, hv9, rfl, rfl, rfl⟩
        obtain rfl := Sum.inl.inj hv9
        refine aw_if_ne (t := 31) (q := 28) dX7_find_25 rfl (by decide) (fun bc3 => ?_) (fun bc3 => ?_)
        · skip
          replace bc3 := bz_n0.mp bc3
          refine aw_iload (q := 33) dX7_find_31 rfl rfl ?_
          refine aw_iload_n (q := 34) dX7_find_33 rfl rfl rfl ?_
          refine aw_ic_ne (t := 40) (q := 37) dX7_find_34 rfl (by decide) (fun bc4 => ?_) (fun bc4 => ?_)
          · skip
            refine aw_iinc (q := 43) dX7_find_40 rfl rfl (by decide) (by omega) ?_
            refine aw_iinc (q := 46) dX7_find_43 rfl rfl (by decide) (by omega) ?_
            refine aw_goto (q := 6) dX7_find_46 (by decide) ?_
            exact ih (p + 1) _ _ (by omega) (by omega) (by omega) (by first | (rw [cnt_t (P := (fun p => isG (dv d).2.1 (dv d).2.2.2.2.2.1 (dv d).2.2.2.2.2.2.1 (dv d).2.2.2.2.2.2.2 lim p)) (by omega) (by assumption)]; omega) | (rw [cnt_f (P := (fun p => isG (dv d).2.1 (dv d).2.2.2.2.2.1 (dv d).2.2.2.2.2.2.1 (dv d).2.2.2.2.2.2.2 lim p)) (by assumption)]; omega)) (fun p9 h1 h2 h3 => by rcases Nat.lt_succ_iff_lt_or_eq.mp h2 with h8 | h8; exact hno p9 h1 h8 h3; subst h8; first | omega | exact absurd h3 (by assumption))
          · skip
            refine aw_iload (q := 39) dX7_find_37 rfl rfl ?_
            exact aw_iret dX7_find_39 rfl (by decide) (by decide) ⟨_, rfl, rfl, rfl, _, rfl, Or.inl ⟨p, hx, by omega, by omega, by assumption, by omega⟩⟩
        · skip
          replace bc3 := bz_0.mp bc3
          refine aw_goto (q := 43) dX7_find_28 (by decide) ?_
          refine aw_iinc (q := 46) dX7_find_43 rfl rfl (by decide) (by omega) ?_
          refine aw_goto (q := 6) dX7_find_46 (by decide) ?_
          exact ih (p + 1) _ _ (by omega) (by omega) (by omega) (by first | (rw [cnt_t (P := (fun p => isG (dv d).2.1 (dv d).2.2.2.2.2.1 (dv d).2.2.2.2.2.2.1 (dv d).2.2.2.2.2.2.2 lim p)) (by omega) (by assumption)]; omega) | (rw [cnt_f (P := (fun p => isG (dv d).2.1 (dv d).2.2.2.2.2.1 (dv d).2.2.2.2.2.2.1 (dv d).2.2.2.2.2.2.2 lim p)) (by assumption)]; omega)) (fun p9 h1 h2 h3 => by rcases Nat.lt_succ_iff_lt_or_eq.mp h2 with h8 | h8; exact hno p9 h1 h8 h3; subst h8; first | omega | exact absurd h3 (by assumption))
  refine aw_iconst (q := 1) dX7_find_0 rfl (by omega) ?_
  refine aw_istore (q := 3) dX7_find_1 rfl (by decide) ?_
  refine aw_iconst (q := 4) dX7_find_3 rfl (by omega) ?_
  refine aw_istore (q := 6) dX7_find_4 rfl (by decide) ?_
  exact loop ((dv d).1 + 1) 1 _ _ (by omega) rfl (by omega) rfl (fun p9 h1 h2 => by omega)
