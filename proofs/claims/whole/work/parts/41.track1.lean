/-! ===== TrackRows: methods that ask (written by m_track1.py) ===== -/
def hasV (v : DVt) (spd lim w : Int) : Int := if w = 0 then (v.1 : Int) else if w = 1 then v.2.2.2.2.1 else if w = 2 then (v.2.2.2.2.2.1 : Int) else if w = 3 then (cnt (fun p => isJ v.2.1 v.2.2.1 v.2.2.2.1 v.2.2.2.2.2.1 v.2.2.2.2.2.2.1 v.2.2.2.2.2.2.2 spd p) v.1 : Nat) else (cnt (fun p => isG v.2.1 v.2.2.2.2.2.1 v.2.2.2.2.2.2.1 v.2.2.2.2.2.2.2 lim p) v.1 : Nat)
set_option maxHeartbeats 4000000 in
set_option maxRecDepth 100000 in
theorem m_X6_has {n : Nat} {μ : AH} {D : Nat} {dv : Nat → DVt} {Fn : Nat} {fv : Nat → FVt} {sv : SVt} {pk fd : Nat × (Nat → Int)} {spd lim B : Int} {i w : Int} (hC : CH μ D dv Fn fv sv pk fd spd lim) (hO : COk B D dv Fn fv sv pk fd spd lim) : AMet YX6_has [vR 0, vI (i), vI (w)] n μ (Pu n μ (ox (0 ≤ i ∧ i < (D : Int)) IX (ox (0 ≤ w ∧ w ≤ 4) IA (.inl (some (vI (hasV (dv i.toNat) spd lim w))))))) := by
  refine AMet.of (by decide) rfl (Nat.le_of_ble_eq_true rfl) ?_
  obtain ⟨h0, h1, h2, hS, ⟨mW, mL, mc, msc, mdc, hM⟩, ⟨pnx, pso, hPk⟩, ⟨enx, eso, hFd⟩, ⟨ue, uf, ug, uh, hUn⟩, hDv, hFv⟩ := id hC
  obtain ⟨hN, hdv, hFn, hfv, hsn, hsb, hpk, hfd, hfb, hs1, hs2, hl1, hl2⟩ := id hO
  refine aw_aload_n (q := 1) dX6_has_0 rfl rfl rfl ?_
  refine aw_iload_n (q := 2) dX6_has_1 rfl rfl rfl ?_
  by_cases ck1 : 0 ≤ i ∧ i < (D : Int)
  · skip
    obtain ⟨d, hi⟩ : ∃ d : Nat, i = (d : Int) := ⟨i.toNat, by omega⟩
    have hd : d < D := by omega
    have hd5 : d < 5 := by omega
    have hid : i.toNat = d := by omega
    have hdo := (hdv d hd5).1
    refine aw_callV [vI (i)] (q := 5) dX6_has_2 rfl ck_X6_deviceOf lk_X6_69 rfl ⟨Nat.le_of_ble_eq_true rfl, Nat.le_of_ble_eq_true rfl⟩ rfl rfl h0 rfl (Nat.le_of_ble_eq_true rfl) (by decide) (m_X6_deviceOf_t h0 h1 hi hd hN) rfl (fun _ _ _ h => (Rt_x h).elim) ?_
    rintro v n9 μ9 - ⟨v9, hv9, rfl, rfl, rfl⟩
    obtain rfl := Sum.inl.inj hv9
    refine aw_astore_n (q := 6) dX6_has_5 rfl rfl (by decide) ?_
    refine aw_iload_n (q := 7) dX6_has_6 rfl rfl rfl ?_
    by_cases w0 : w = 0
    · skip
      have hyes : 0 ≤ w ∧ w ≤ 4 := by omega
      refine aw_tsIn (t := 40) (off := 33) dX6_has_7 (by omega) (by omega) (by first | rfl | (rw [show w = 0 by omega]; rfl)) (by decide) ?_
      refine aw_aload_n (q := 41) dX6_has_40 rfl rfl rfl ?_
      refine aw_get (q := 44) dX6_has_41 rfl fl_X6_73 (hDv d hd5).1 rfl (fun _ => ?_)
      refine aw_get (q := 47) dX6_has_44 rfl fl_X6_99 (hDv d hd5).2.1.1 rfl (fun _ => ?_)
      exact aw_iret dX6_has_47 rfl (by decide) (by decide) ⟨rfl, rfl, (by rw [ox_t ck1, ox_t hyes]; exact congrArg (fun z => (Sum.inl (some (vI z)) : AOut)) (by rw [hid]; unfold hasV; rw [if_pos w0]))⟩
    · skip
      by_cases w1 : w = 1
      · skip
        have hyes : 0 ≤ w ∧ w ≤ 4 := by omega
        refine aw_tsIn (t := 48) (off := 41) dX6_has_7 (by omega) (by omega) (by first | rfl | (rw [show w = 1 by omega]; rfl)) (by decide) ?_
        refine aw_aload_n (q := 49) dX6_has_48 rfl rfl rfl ?_
        refine aw_get (q := 52) dX6_has_49 rfl fl_X6_96 (hDv d hd5).1 rfl (fun _ => ?_)
        exact aw_iret dX6_has_52 rfl (by decide) (by decide) ⟨rfl, rfl, (by rw [ox_t ck1, ox_t hyes]; exact congrArg (fun z => (Sum.inl (some (vI z)) : AOut)) (by rw [hid]; unfold hasV; rw [if_neg w0]; rw [if_pos w1]))⟩
      · skip
        by_cases w2 : w = 2
        · skip
          have hyes : 0 ≤ w ∧ w ≤ 4 := by omega
          refine aw_tsIn (t := 53) (off := 46) dX6_has_7 (by omega) (by omega) (by first | rfl | (rw [show w = 2 by omega]; rfl)) (by decide) ?_
          refine aw_aload_n (q := 54) dX6_has_53 rfl rfl rfl ?_
          refine aw_get (q := 57) dX6_has_54 rfl fl_X6_106 (hDv d hd5).1 rfl (fun _ => ?_)
          refine aw_get (q := 60) dX6_has_57 rfl fl_X6_110 (hDv d hd5).2.2.1 rfl (fun _ => ?_)
          exact aw_iret dX6_has_60 rfl (by decide) (by decide) ⟨rfl, rfl, (by rw [ox_t ck1, ox_t hyes]; exact congrArg (fun z => (Sum.inl (some (vI z)) : AOut)) (by rw [hid]; unfold hasV; rw [if_neg w0]; rw [if_neg w1]; rw [if_pos w2]))⟩
        · skip
          by_cases w3 : w = 3
          · skip
            have hyes : 0 ≤ w ∧ w ≤ 4 := by omega
            refine aw_tsIn (t := 61) (off := 54) dX6_has_7 (by omega) (by omega) (by first | rfl | (rw [show w = 3 by omega]; rfl)) (by decide) ?_
            refine aw_aload_n (q := 62) dX6_has_61 rfl rfl rfl ?_
            refine aw_aload_n (q := 63) dX6_has_62 rfl rfl rfl ?_
            refine aw_get (q := 66) dX6_has_63 rfl fl_X6_57 h0 rfl (fun _ => ?_)
            refine aw_callV [vI (spd)] (q := 69) dX6_has_66 rfl ck_X2_jumps lk_X6_113 rfl ⟨Nat.le_of_ble_eq_true rfl, Nat.le_of_ble_eq_true rfl⟩ rfl rfl (hDv d hd5).1 rfl (Nat.le_of_ble_eq_true rfl) (by decide) (m_X2_jumps ⟨hs1, hs2⟩ (hDv d hd5) hdo) rfl (fun _ _ _ h => (Rt_x h).elim) ?_
            rintro v n9 μ9 - ⟨v9, hv9, rfl, rfl, rfl⟩
            obtain rfl := Sum.inl.inj hv9
            exact aw_iret dX6_has_69 rfl (by decide) (by decide) ⟨rfl, rfl, (by rw [ox_t ck1, ox_t hyes]; exact congrArg (fun z => (Sum.inl (some (vI z)) : AOut)) (by rw [hid]; unfold hasV; rw [if_neg w0]; rw [if_neg w1]; rw [if_neg w2]; rw [if_pos w3]))⟩
          · skip
            by_cases w4 : w = 4
            · skip
              have hyes : 0 ≤ w ∧ w ≤ 4 := by omega
              refine aw_tsIn (t := 70) (off := 63) dX6_has_7 (by omega) (by omega) (by first | rfl | (rw [show w = 4 by omega]; rfl)) (by decide) ?_
              refine aw_aload_n (q := 71) dX6_has_70 rfl rfl rfl ?_
              refine aw_aload_n (q := 72) dX6_has_71 rfl rfl rfl ?_
              refine aw_get (q := 75) dX6_has_72 rfl fl_X6_60 h0 rfl (fun _ => ?_)
              refine aw_callV [vI (lim)] (q := 78) dX6_has_75 rfl ck_X2_gaps lk_X6_116 rfl ⟨Nat.le_of_ble_eq_true rfl, Nat.le_of_ble_eq_true rfl⟩ rfl rfl (hDv d hd5).1 rfl (Nat.le_of_ble_eq_true rfl) (by decide) (m_X2_gaps (hDv d hd5) hdo) rfl (fun _ _ _ h => (Rt_x h).elim) ?_
              rintro v n9 μ9 - ⟨v9, hv9, rfl, rfl, rfl⟩
              obtain rfl := Sum.inl.inj hv9
              exact aw_iret dX6_has_78 rfl (by decide) (by decide) ⟨rfl, rfl, (by rw [ox_t ck1, ox_t hyes]; exact congrArg (fun z => (Sum.inl (some (vI z)) : AOut)) (by rw [hid]; unfold hasV; rw [if_neg w0]; rw [if_neg w1]; rw [if_neg w2]; rw [if_neg w3]; skip))⟩
            · skip
              have hno : ¬ (0 ≤ w ∧ w ≤ 4) := by omega
              refine aw_tsOut (t := 79) dX6_has_7 (by omega) (by decide) ?_
              exact aw_throw dX6_has_79 dX6_has_82 dX6_has_83 dX6_has_86 th_X6_121 rfl (by decide) (Nat.le_of_ble_eq_true rfl) (by decide) (by decide) ⟨rfl, rfl, ((ox_t ck1).trans (ox_f hno)).symm⟩
  · skip
    refine aw_callV [vI (i)] (q := 5) dX6_has_2 rfl ck_X6_deviceOf lk_X6_69 rfl ⟨Nat.le_of_ble_eq_true rfl, Nat.le_of_ble_eq_true rfl⟩ rfl rfl h0 rfl (Nat.le_of_ble_eq_true rfl) (by decide) (m_X6_deviceOf_x h0 ck1) rfl (fun E9 n9 μ9 h9 => by obtain ⟨rfl, rfl, h8⟩ := h9; obtain rfl := Sum.inr.inj h8; exact ⟨rfl, rfl, (ox_f ck1).symm⟩) ?_
    rintro v n9 μ9 - ⟨-, -, h9⟩
    cases h9
def atV (v : DVt) (p w : Int) : Int := if w = 0 then v.2.1 p.toNat else if w = 1 then v.2.2.1 p.toNat else if w = 2 then v.2.2.2.1 p.toNat else tt v.2.2.2.2.2.1 v.2.2.2.2.2.2.1 v.2.2.2.2.2.2.2 (v.2.1 p.toNat)
set_option maxHeartbeats 4000000 in
set_option maxRecDepth 100000 in
theorem m_X6_at {n : Nat} {μ : AH} {D : Nat} {dv : Nat → DVt} {Fn : Nat} {fv : Nat → FVt} {sv : SVt} {pk fd : Nat × (Nat → Int)} {spd lim B : Int} {i p w : Int} (hC : CH μ D dv Fn fv sv pk fd spd lim) (hO : COk B D dv Fn fv sv pk fd spd lim) : AMet YX6_at [vR 0, vI (i), vI (p), vI (w)] n μ (Pu n μ (ox ((0 ≤ i ∧ i < (D : Int)) ∧ 0 ≤ p ∧ p < ((dv i.toNat).1 : Int)) IX (ox (0 ≤ w ∧ w ≤ 3) IA (.inl (some (vI (atV (dv i.toNat) p w))))))) := by
  refine AMet.of (by decide) rfl (Nat.le_of_ble_eq_true rfl) ?_
  obtain ⟨h0, h1, h2, hS, ⟨mW, mL, mc, msc, mdc, hM⟩, ⟨pnx, pso, hPk⟩, ⟨enx, eso, hFd⟩, ⟨ue, uf, ug, uh, hUn⟩, hDv, hFv⟩ := id hC
  obtain ⟨hN, hdv, hFn, hfv, hsn, hsb, hpk, hfd, hfb, hs1, hs2, hl1, hl2⟩ := id hO
  refine aw_aload_n (q := 1) dX6_at_0 rfl rfl rfl ?_
  refine aw_iload_n (q := 2) dX6_at_1 rfl rfl rfl ?_
  refine aw_iload_n (q := 3) dX6_at_2 rfl rfl rfl ?_
  by_cases cd : 0 ≤ i ∧ i < (D : Int)
  · skip
    obtain ⟨d, hi⟩ : ∃ d : Nat, i = (d : Int) := ⟨i.toNat, by omega⟩
    have hd : d < D := by omega
    have hd5 : d < 5 := by omega
    have hid : i.toNat = d := by omega
    have hdo := (hdv d hd5).1
    by_cases cp : 0 ≤ p ∧ p < ((dv d).1 : Int)
    · skip
      obtain ⟨r, hp⟩ : ∃ r : Nat, p = (r : Int) := ⟨p.toNat, by omega⟩
      have hr : r < (dv d).1 := by omega
      have hpr : p.toNat = r := by omega
      have hc60 : (dv d).1 ≤ 60 := hdo.1
      have ck : (0 ≤ i ∧ i < (D : Int)) ∧ 0 ≤ p ∧ p < ((dv i.toNat).1 : Int) := ⟨cd, by rw [hid]; exact cp⟩
      have hbr := hdo.2.1 r hr
      refine aw_callV [vI (i), vI (p)] (q := 6) dX6_at_3 rfl ck_X6_deviceWithPlace lk_X6_122 rfl ⟨Nat.le_of_ble_eq_true rfl, Nat.le_of_ble_eq_true rfl⟩ rfl rfl h0 rfl (Nat.le_of_ble_eq_true rfl) (by decide) (m_X6_deviceWithPlace_t h0 h1 (hDv d hd5) hi hd hN cp) rfl (fun _ _ _ h => (Rt_x h).elim) ?_
      rintro v n9 μ9 - ⟨v9, hv9, rfl, rfl, rfl⟩
      obtain rfl := Sum.inl.inj hv9
      refine aw_astore (q := 8) dX6_at_6 rfl (by decide) ?_
      refine aw_iload_n (q := 9) dX6_at_8 rfl rfl rfl ?_
      by_cases w0 : w = 0
      · skip
        have hyes : 0 ≤ w ∧ w ≤ 3 := by omega
        refine aw_tsIn (t := 40) (off := 31) dX6_at_9 (by omega) (by omega) (by first | rfl | (rw [show w = 0 by omega]; rfl)) (by decide) ?_
        refine aw_aload (q := 42) dX6_at_40 rfl rfl ?_
        refine aw_get (q := 45) dX6_at_42 rfl fl_X6_73 (hDv d hd5).1 rfl (fun _ => ?_)
        refine aw_get (q := 48) dX6_at_45 rfl fl_X6_126 (hDv d hd5).2.1.1 rfl (fun _ => ?_)
        refine aw_iload_n (q := 49) dX6_at_48 rfl rfl rfl ?_
        refine aw_iaload (j := r) (q := 50) dX6_at_49 rfl (hDv d hd5).2.1.2.1 (by omega) (by omega) (fun r1 => ?_)
        exact aw_iret dX6_at_50 rfl (by decide) (by decide) ⟨rfl, rfl, (by rw [ox_t ck, ox_t hyes]; exact congrArg (fun z => (Sum.inl (some (vI z)) : AOut)) (by rw [hid]; unfold atV; rw [hpr]; rw [if_pos w0]))⟩
      · skip
        by_cases w1 : w = 1
        · skip
          have hyes : 0 ≤ w ∧ w ≤ 3 := by omega
          refine aw_tsIn (t := 51) (off := 42) dX6_at_9 (by omega) (by omega) (by first | rfl | (rw [show w = 1 by omega]; rfl)) (by decide) ?_
          refine aw_aload (q := 53) dX6_at_51 rfl rfl ?_
          refine aw_get (q := 56) dX6_at_53 rfl fl_X6_73 (hDv d hd5).1 rfl (fun _ => ?_)
          refine aw_get (q := 59) dX6_at_56 rfl fl_X6_130 (hDv d hd5).2.1.1 rfl (fun _ => ?_)
          refine aw_iload_n (q := 60) dX6_at_59 rfl rfl rfl ?_
          refine aw_iaload (j := r) (q := 61) dX6_at_60 rfl (hDv d hd5).2.1.2.2.1 (by omega) (by omega) (fun r2 => ?_)
          exact aw_iret dX6_at_61 rfl (by decide) (by decide) ⟨rfl, rfl, (by rw [ox_t ck, ox_t hyes]; exact congrArg (fun z => (Sum.inl (some (vI z)) : AOut)) (by rw [hid]; unfold atV; rw [hpr]; rw [if_neg w0]; rw [if_pos w1]))⟩
        · skip
          by_cases w2 : w = 2
          · skip
            have hyes : 0 ≤ w ∧ w ≤ 3 := by omega
            refine aw_tsIn (t := 62) (off := 53) dX6_at_9 (by omega) (by omega) (by first | rfl | (rw [show w = 2 by omega]; rfl)) (by decide) ?_
            refine aw_aload (q := 64) dX6_at_62 rfl rfl ?_
            refine aw_get (q := 67) dX6_at_64 rfl fl_X6_73 (hDv d hd5).1 rfl (fun _ => ?_)
            refine aw_get (q := 70) dX6_at_67 rfl fl_X6_133 (hDv d hd5).2.1.1 rfl (fun _ => ?_)
            refine aw_iload_n (q := 71) dX6_at_70 rfl rfl rfl ?_
            refine aw_iaload (j := r) (q := 72) dX6_at_71 rfl (hDv d hd5).2.1.2.2.2 (by omega) (by omega) (fun r3 => ?_)
            exact aw_iret dX6_at_72 rfl (by decide) (by decide) ⟨rfl, rfl, (by rw [ox_t ck, ox_t hyes]; exact congrArg (fun z => (Sum.inl (some (vI z)) : AOut)) (by rw [hid]; unfold atV; rw [hpr]; rw [if_neg w0]; rw [if_neg w1]; rw [if_pos w2]))⟩
          · skip
            by_cases w3 : w = 3
            · skip
              have hyes : 0 ≤ w ∧ w ≤ 3 := by omega
              refine aw_tsIn (t := 73) (off := 64) dX6_at_9 (by omega) (by omega) (by first | rfl | (rw [show w = 3 by omega]; rfl)) (by decide) ?_
              refine aw_aload (q := 75) dX6_at_73 rfl rfl ?_
              refine aw_iload_n (q := 76) dX6_at_75 rfl rfl rfl ?_
              refine aw_callV [vI (p)] (q := 79) dX6_at_76 rfl ck_X2_trueTimeOf lk_X6_136 rfl ⟨Nat.le_of_ble_eq_true rfl, Nat.le_of_ble_eq_true rfl⟩ rfl rfl (hDv d hd5).1 rfl (Nat.le_of_ble_eq_true rfl) (by decide) (m_X2_trueTimeOf (r := r) hp hr (hDv d hd5) hdo) rfl (fun _ _ _ h => (Rt_x h).elim) ?_
              rintro v n9 μ9 - ⟨v9, hv9, rfl, rfl, rfl⟩
              obtain rfl := Sum.inl.inj hv9
              exact aw_iret dX6_at_79 rfl (by decide) (by decide) ⟨rfl, rfl, (by rw [ox_t ck, ox_t hyes]; exact congrArg (fun z => (Sum.inl (some (vI z)) : AOut)) (by rw [hid]; unfold atV; rw [hpr]; rw [if_neg w0]; rw [if_neg w1]; rw [if_neg w2]; skip))⟩
            · skip
              have hno : ¬ (0 ≤ w ∧ w ≤ 3) := by omega
              refine aw_tsOut (t := 80) dX6_at_9 (by omega) (by decide) ?_
              exact aw_throw dX6_at_80 dX6_at_83 dX6_at_84 dX6_at_87 th_X6_121 rfl (by decide) (Nat.le_of_ble_eq_true rfl) (by decide) (by decide) ⟨rfl, rfl, ((ox_t ck).trans (ox_f hno)).symm⟩
    · skip
      have ck : ¬ ((0 ≤ i ∧ i < (D : Int)) ∧ 0 ≤ p ∧ p < ((dv i.toNat).1 : Int)) := fun h => cp (by rw [← hid]; exact h.2)
      refine aw_callV [vI (i), vI (p)] (q := 6) dX6_at_3 rfl ck_X6_deviceWithPlace lk_X6_122 rfl ⟨Nat.le_of_ble_eq_true rfl, Nat.le_of_ble_eq_true rfl⟩ rfl rfl h0 rfl (Nat.le_of_ble_eq_true rfl) (by decide) (m_X6_deviceWithPlace_y h0 h1 (hDv d hd5) hi hd hN cp) rfl (fun E9 n9 μ9 h9 => by obtain ⟨rfl, rfl, h8⟩ := h9; obtain rfl := Sum.inr.inj h8; exact ⟨rfl, rfl, (ox_f ck).symm⟩) ?_
      rintro v n9 μ9 - ⟨-, -, h9⟩
      cases h9
  · skip
    have ck : ¬ ((0 ≤ i ∧ i < (D : Int)) ∧ 0 ≤ p ∧ p < ((dv i.toNat).1 : Int)) := fun h => cd h.1
    refine aw_callV [vI (i), vI (p)] (q := 6) dX6_at_3 rfl ck_X6_deviceWithPlace lk_X6_122 rfl ⟨Nat.le_of_ble_eq_true rfl, Nat.le_of_ble_eq_true rfl⟩ rfl rfl h0 rfl (Nat.le_of_ble_eq_true rfl) (by decide) (m_X6_deviceWithPlace_x h0 cd) rfl (fun E9 n9 μ9 h9 => by obtain ⟨rfl, rfl, h8⟩ := h9; obtain rfl := Sum.inr.inj h8; exact ⟨rfl, rfl, (ox_f ck).symm⟩) ?_
    rintro v n9 μ9 - ⟨-, -, h9⟩
    cases h9
set_option maxHeartbeats 4000000 in
set_option maxRecDepth 100000 in
theorem m_X6_time {n : Nat} {μ : AH} {D : Nat} {dv : Nat → DVt} {Fn : Nat} {fv : Nat → FVt} {sv : SVt} {pk fd : Nat × (Nat → Int)} {spd lim B : Int} {i s : Int} (hC : CH μ D dv Fn fv sv pk fd spd lim) (hO : COk B D dv Fn fv sv pk fd spd lim) : AMet YX6_time [vR 0, vI (i), vI (s)] n μ (Pu n μ (ox (0 ≤ i ∧ i < (D : Int)) IX (ox (0 ≤ s ∧ s ≤ 1000000) IA (.inl (some (vI (tt (dv i.toNat).2.2.2.2.2.1 (dv i.toNat).2.2.2.2.2.2.1 (dv i.toNat).2.2.2.2.2.2.2 s))))))) := by
  refine AMet.of (by decide) rfl (Nat.le_of_ble_eq_true rfl) ?_
  obtain ⟨h0, h1, h2, hS, ⟨mW, mL, mc, msc, mdc, hM⟩, ⟨pnx, pso, hPk⟩, ⟨enx, eso, hFd⟩, ⟨ue, uf, ug, uh, hUn⟩, hDv, hFv⟩ := id hC
  obtain ⟨hN, hdv, hFn, hfv, hsn, hsb, hpk, hfd, hfb, hs1, hs2, hl1, hl2⟩ := id hO
  refine aw_aload_n (q := 1) dX6_time_0 rfl rfl rfl ?_
  refine aw_iload_n (q := 2) dX6_time_1 rfl rfl rfl ?_
  by_cases ck1 : 0 ≤ i ∧ i < (D : Int)
  · skip
    obtain ⟨d, hi⟩ : ∃ d : Nat, i = (d : Int) := ⟨i.toNat, by omega⟩
    have hd : d < D := by omega
    have hd5 : d < 5 := by omega
    have hid : i.toNat = d := by omega
    have hdo := (hdv d hd5).1
    refine aw_callV [vI (i)] (q := 5) dX6_time_2 rfl ck_X6_deviceOf lk_X6_69 rfl ⟨Nat.le_of_ble_eq_true rfl, Nat.le_of_ble_eq_true rfl⟩ rfl rfl h0 rfl (Nat.le_of_ble_eq_true rfl) (by decide) (m_X6_deviceOf_t h0 h1 hi hd hN) rfl (fun _ _ _ h => (Rt_x h).elim) ?_
    rintro v n9 μ9 - ⟨v9, hv9, rfl, rfl, rfl⟩
    obtain rfl := Sum.inl.inj hv9
    refine aw_get (q := 8) dX6_time_5 rfl fl_X6_106 (hDv d hd5).1 rfl (fun _ => ?_)
    refine aw_astore_n (q := 9) dX6_time_8 rfl rfl (by decide) ?_
    refine aw_iload_n (q := 10) dX6_time_9 rfl rfl rfl ?_
    refine aw_iconst (q := 11) dX6_time_10 rfl (by omega) ?_
    refine aw_ldc (a := 1000000) (q := 13) dX6_time_11 rfl k_X6_139 (by omega) ?_
    by_cases ck2 : 0 ≤ s ∧ s ≤ 1000000
    · skip
      refine aw_callS [vI (s), vI (0), vI (1000000)] (q := 16) dX6_time_13 rfl ck_X6_refuseOutside lk_X6_140 rfl ⟨Nat.le_of_ble_eq_true rfl, Nat.le_of_ble_eq_true rfl⟩ rfl rfl (Nat.le_of_ble_eq_true rfl) (by decide) (m_X6_refuseOutside_t ck2) rfl (fun _ _ _ h => (Vd_x h).elim) ?_
      rintro v n9 μ9 - ⟨hv9, rfl, rfl⟩
      obtain rfl := Sum.inl.inj hv9
      refine aw_aload_n (q := 17) dX6_time_16 rfl rfl rfl ?_
      refine aw_iload_n (q := 18) dX6_time_17 rfl rfl rfl ?_
      refine aw_callV [vI (s)] (q := 21) dX6_time_18 rfl ck_X1_trueTime lk_X6_149 rfl ⟨Nat.le_of_ble_eq_true rfl, Nat.le_of_ble_eq_true rfl⟩ rfl rfl (hDv d hd5).2.2.1 rfl (Nat.le_of_ble_eq_true rfl) (by decide) (m_X1_trueTime hdo.2.2.2.2.1 hdo.2.2.2.2.2 (by assumption) (hDv d hd5).2.2 hdo.2.2.2.1) rfl (fun _ _ _ h => (Rt_x h).elim) ?_
      rintro v n9 μ9 - ⟨v9, hv9, rfl, rfl, rfl⟩
      obtain rfl := Sum.inl.inj hv9
      exact aw_iret dX6_time_21 rfl (by decide) (by decide) ⟨rfl, rfl, (by rw [ox_t ck1, ox_t ck2]; exact congrArg (fun z => (Sum.inl (some (vI z)) : AOut)) (by rw [hid]))⟩
    · skip
      refine aw_callS [vI (s), vI (0), vI (1000000)] (q := 16) dX6_time_13 rfl ck_X6_refuseOutside lk_X6_140 rfl ⟨Nat.le_of_ble_eq_true rfl, Nat.le_of_ble_eq_true rfl⟩ rfl rfl (Nat.le_of_ble_eq_true rfl) (by decide) (m_X6_refuseOutside_x ck2) rfl (fun E9 n9 μ9 h9 => by obtain ⟨rfl, rfl, h8⟩ := h9; obtain rfl := Sum.inr.inj h8; exact ⟨rfl, rfl, ((ox_t ck1).trans (ox_f ck2)).symm⟩) ?_
      rintro v n9 μ9 - ⟨-, -, h9⟩
      cases h9
  · skip
    refine aw_callV [vI (i)] (q := 5) dX6_time_2 rfl ck_X6_deviceOf lk_X6_69 rfl ⟨Nat.le_of_ble_eq_true rfl, Nat.le_of_ble_eq_true rfl⟩ rfl rfl h0 rfl (Nat.le_of_ble_eq_true rfl) (by decide) (m_X6_deviceOf_x h0 ck1) rfl (fun E9 n9 μ9 h9 => by obtain ⟨rfl, rfl, h8⟩ := h9; obtain rfl := Sum.inr.inj h8; exact ⟨rfl, rfl, (ox_f ck1).symm⟩) ?_
    rintro v n9 μ9 - ⟨-, -, h9⟩
    cases h9
set_option maxHeartbeats 4000000 in
set_option maxRecDepth 100000 in
theorem m_X6_jump {n : Nat} {μ : AH} {D : Nat} {dv : Nat → DVt} {Fn : Nat} {fv : Nat → FVt} {sv : SVt} {pk fd : Nat × (Nat → Int)} {spd lim B : Int} {i k : Int} (hC : CH μ D dv Fn fv sv pk fd spd lim) (hO : COk B D dv Fn fv sv pk fd spd lim) : AMet YX6_jump [vR 0, vI (i), vI (k)] n μ (fun o n' μ' => n' = n ∧ μ' = μ ∧ ∃ v : Int, o = ox (0 ≤ i ∧ i < (D : Int)) IX (.inl (some (vI v))) ∧ ((0 ≤ i ∧ i < (D : Int)) → KthR (fun p => isJ (dv i.toNat).2.1 (dv i.toNat).2.2.1 (dv i.toNat).2.2.2.1 (dv i.toNat).2.2.2.2.2.1 (dv i.toNat).2.2.2.2.2.2.1 (dv i.toNat).2.2.2.2.2.2.2 spd p) (dv i.toNat).1 k v)) := by
  refine AMet.of (by decide) rfl (Nat.le_of_ble_eq_true rfl) ?_
  obtain ⟨h0, h1, h2, hS, ⟨mW, mL, mc, msc, mdc, hM⟩, ⟨pnx, pso, hPk⟩, ⟨enx, eso, hFd⟩, ⟨ue, uf, ug, uh, hUn⟩, hDv, hFv⟩ := id hC
  obtain ⟨hN, hdv, hFn, hfv, hsn, hsb, hpk, hfd, hfb, hs1, hs2, hl1, hl2⟩ := id hO
  refine aw_aload_n (q := 1) dX6_jump_0 rfl rfl rfl ?_
  refine aw_iload_n (q := 2) dX6_jump_1 rfl rfl rfl ?_
  by_cases ck1 : 0 ≤ i ∧ i < (D : Int)
  · skip
    obtain ⟨d, hi⟩ : ∃ d : Nat, i = (d : Int) := ⟨i.toNat, by omega⟩
    have hd : d < D := by omega
    have hd5 : d < 5 := by omega
    have hid : i.toNat = d := by omega
    have hdo := (hdv d hd5).1
    refine aw_callV [vI (i)] (q := 5) dX6_jump_2 rfl ck_X6_deviceOf lk_X6_69 rfl ⟨Nat.le_of_ble_eq_true rfl, Nat.le_of_ble_eq_true rfl⟩ rfl rfl h0 rfl (Nat.le_of_ble_eq_true rfl) (by decide) (m_X6_deviceOf_t h0 h1 hi hd hN) rfl (fun _ _ _ h => (Rt_x h).elim) ?_
    rintro v n9 μ9 - ⟨v9, hv9, rfl, rfl, rfl⟩
    obtain rfl := Sum.inl.inj hv9
    refine aw_iload_n (q := 6) dX6_jump_5 rfl rfl rfl ?_
    refine aw_aload_n (q := 7) dX6_jump_6 rfl rfl rfl ?_
    refine aw_get (q := 10) dX6_jump_7 rfl fl_X6_57 h0 rfl (fun _ => ?_)
    refine aw_callV [vI (k), vI (spd)] (q := 13) dX6_jump_10 rfl ck_X2_placeOfJump lk_X6_153 rfl ⟨Nat.le_of_ble_eq_true rfl, Nat.le_of_ble_eq_true rfl⟩ rfl rfl (hDv d hd5).1 rfl (Nat.le_of_ble_eq_true rfl) (by decide) (m_X2_placeOfJump ⟨hs1, hs2⟩ (hDv d hd5) hdo) rfl (fun _ _ _ h => (Rt_x h).elim) ?_
    rintro v n9 μ9 - ⟨v9, hv9, rfl, rfl, r9, rfl, hr9⟩
    obtain rfl := Sum.inl.inj hv9
    exact aw_iret dX6_jump_13 rfl (by decide) (by decide) ⟨rfl, rfl, r9, (ox_t ck1).symm, fun _ => by rw [hid]; exact hr9⟩
  · skip
    refine aw_callV [vI (i)] (q := 5) dX6_jump_2 rfl ck_X6_deviceOf lk_X6_69 rfl ⟨Nat.le_of_ble_eq_true rfl, Nat.le_of_ble_eq_true rfl⟩ rfl rfl h0 rfl (Nat.le_of_ble_eq_true rfl) (by decide) (m_X6_deviceOf_x h0 ck1) rfl (fun E9 n9 μ9 h9 => by obtain ⟨rfl, rfl, h8⟩ := h9; obtain rfl := Sum.inr.inj h8; exact ⟨rfl, rfl, 0, (ox_f ck1).symm, fun h => absurd h ck1⟩) ?_
    rintro v n9 μ9 - ⟨-, -, h9⟩
    cases h9
set_option maxHeartbeats 4000000 in
set_option maxRecDepth 100000 in
theorem m_X6_gap {n : Nat} {μ : AH} {D : Nat} {dv : Nat → DVt} {Fn : Nat} {fv : Nat → FVt} {sv : SVt} {pk fd : Nat × (Nat → Int)} {spd lim B : Int} {i k : Int} (hC : CH μ D dv Fn fv sv pk fd spd lim) (hO : COk B D dv Fn fv sv pk fd spd lim) : AMet YX6_gap [vR 0, vI (i), vI (k)] n μ (fun o n' μ' => n' = n ∧ μ' = μ ∧ ∃ v : Int, o = ox (0 ≤ i ∧ i < (D : Int)) IX (.inl (some (vI v))) ∧ ((0 ≤ i ∧ i < (D : Int)) → KthR (fun p => isG (dv i.toNat).2.1 (dv i.toNat).2.2.2.2.2.1 (dv i.toNat).2.2.2.2.2.2.1 (dv i.toNat).2.2.2.2.2.2.2 lim p) (dv i.toNat).1 k v)) := by
  refine AMet.of (by decide) rfl (Nat.le_of_ble_eq_true rfl) ?_
  obtain ⟨h0, h1, h2, hS, ⟨mW, mL, mc, msc, mdc, hM⟩, ⟨pnx, pso, hPk⟩, ⟨enx, eso, hFd⟩, ⟨ue, uf, ug, uh, hUn⟩, hDv, hFv⟩ := id hC
  obtain ⟨hN, hdv, hFn, hfv, hsn, hsb, hpk, hfd, hfb, hs1, hs2, hl1, hl2⟩ := id hO
  refine aw_aload_n (q := 1) dX6_gap_0 rfl rfl rfl ?_
  refine aw_iload_n (q := 2) dX6_gap_1 rfl rfl rfl ?_
  by_cases ck1 : 0 ≤ i ∧ i < (D : Int)
  · skip
    obtain ⟨d, hi⟩ : ∃ d : Nat, i = (d : Int) := ⟨i.toNat, by omega⟩
    have hd : d < D := by omega
    have hd5 : d < 5 := by omega
    have hid : i.toNat = d := by omega
    have hdo := (hdv d hd5).1
    refine aw_callV [vI (i)] (q := 5) dX6_gap_2 rfl ck_X6_deviceOf lk_X6_69 rfl ⟨Nat.le_of_ble_eq_true rfl, Nat.le_of_ble_eq_true rfl⟩ rfl rfl h0 rfl (Nat.le_of_ble_eq_true rfl) (by decide) (m_X6_deviceOf_t h0 h1 hi hd hN) rfl (fun _ _ _ h => (Rt_x h).elim) ?_
    rintro v n9 μ9 - ⟨v9, hv9, rfl, rfl, rfl⟩
    obtain rfl := Sum.inl.inj hv9
    refine aw_iload_n (q := 6) dX6_gap_5 rfl rfl rfl ?_
    refine aw_aload_n (q := 7) dX6_gap_6 rfl rfl rfl ?_
    refine aw_get (q := 10) dX6_gap_7 rfl fl_X6_60 h0 rfl (fun _ => ?_)
    refine aw_callV [vI (k), vI (lim)] (q := 13) dX6_gap_10 rfl ck_X2_placeBehindGap lk_X6_157 rfl ⟨Nat.le_of_ble_eq_true rfl, Nat.le_of_ble_eq_true rfl⟩ rfl rfl (hDv d hd5).1 rfl (Nat.le_of_ble_eq_true rfl) (by decide) (m_X2_placeBehindGap  (hDv d hd5) hdo) rfl (fun _ _ _ h => (Rt_x h).elim) ?_
    rintro v n9 μ9 - ⟨v9, hv9, rfl, rfl, r9, rfl, hr9⟩
    obtain rfl := Sum.inl.inj hv9
    exact aw_iret dX6_gap_13 rfl (by decide) (by decide) ⟨rfl, rfl, r9, (ox_t ck1).symm, fun _ => by rw [hid]; exact hr9⟩
  · skip
    refine aw_callV [vI (i)] (q := 5) dX6_gap_2 rfl ck_X6_deviceOf lk_X6_69 rfl ⟨Nat.le_of_ble_eq_true rfl, Nat.le_of_ble_eq_true rfl⟩ rfl rfl h0 rfl (Nat.le_of_ble_eq_true rfl) (by decide) (m_X6_deviceOf_x h0 ck1) rfl (fun E9 n9 μ9 h9 => by obtain ⟨rfl, rfl, h8⟩ := h9; obtain rfl := Sum.inr.inj h8; exact ⟨rfl, rfl, 0, (ox_f ck1).symm, fun h => absurd h ck1⟩) ?_
    rintro v n9 μ9 - ⟨-, -, h9⟩
    cases h9
set_option maxHeartbeats 4000000 in
set_option maxRecDepth 100000 in
theorem m_X6_byteAt {n : Nat} {μ : AH} {D : Nat} {dv : Nat → DVt} {Fn : Nat} {fv : Nat → FVt} {sv : SVt} {pk fd : Nat × (Nat → Int)} {spd lim B : Int} {i : Int} (hC : CH μ D dv Fn fv sv pk fd spd lim) (hO : COk B D dv Fn fv sv pk fd spd lim) : AMet YX6_byteAt [vR 0, vI (i)] n μ (Pu n μ (ox (0 ≤ i ∧ i < (pk.1 : Int)) IX (.inl (some (vI (pk.2 i.toNat)))))) := by
  refine AMet.of (by decide) rfl (Nat.le_of_ble_eq_true rfl) ?_
  obtain ⟨h0, h1, h2, hS, ⟨mW, mL, mc, msc, mdc, hM⟩, ⟨pnx, pso, hPk⟩, ⟨enx, eso, hFd⟩, ⟨ue, uf, ug, uh, hUn⟩, hDv, hFv⟩ := id hC
  obtain ⟨hN, hdv, hFn, hfv, hsn, hsb, hpk, hfd, hfb, hs1, hs2, hl1, hl2⟩ := id hO
  refine aw_iload_n (q := 1) dX6_byteAt_0 rfl rfl rfl ?_
  refine aw_aload_n (q := 2) dX6_byteAt_1 rfl rfl rfl ?_
  refine aw_get (q := 5) dX6_byteAt_2 rfl fl_X6_40 h0 rfl (fun _ => ?_)
  refine aw_get (q := 8) dX6_byteAt_5 rfl fl_X6_190 hPk.1 rfl (fun _ => ?_)
  by_cases ck1 : 0 ≤ i ∧ i < (pk.1 : Int)
  · skip
    refine aw_callS [vI (i), vI ((pk.1 : Nat))] (q := 11) dX6_byteAt_8 rfl ck_X6_refuseNumber lk_X6_191 rfl ⟨Nat.le_of_ble_eq_true rfl, Nat.le_of_ble_eq_true rfl⟩ rfl rfl (Nat.le_of_ble_eq_true rfl) (by decide) (m_X6_refuseNumber_t ck1) rfl (fun _ _ _ h => (Vd_x h).elim) ?_
    rintro v n9 μ9 - ⟨hv9, rfl, rfl⟩
    obtain rfl := Sum.inl.inj hv9
    obtain ⟨j, hj⟩ : ∃ j : Nat, i = (j : Int) := ⟨i.toNat, by omega⟩
    refine aw_aload_n (q := 12) dX6_byteAt_11 rfl rfl rfl ?_
    refine aw_get (q := 15) dX6_byteAt_12 rfl fl_X6_40 h0 rfl (fun _ => ?_)
    refine aw_get (q := 18) dX6_byteAt_15 rfl fl_X6_194 hPk.1 rfl (fun _ => ?_)
    refine aw_iload_n (q := 19) dX6_byteAt_18 rfl rfl rfl ?_
    refine aw_iaload (j := j) (q := 20) dX6_byteAt_19 rfl hPk.2 (by omega) (by omega) (fun r2 => ?_)
    exact aw_iret dX6_byteAt_20 rfl (by decide) (by decide) ⟨rfl, rfl, (by rw [ox_t ck1]; exact congrArg (fun z => (Sum.inl (some (vI z)) : AOut)) (by rw [show i.toNat = j by omega]))⟩
  · skip
    refine aw_callS [vI (i), vI ((pk.1 : Nat))] (q := 11) dX6_byteAt_8 rfl ck_X6_refuseNumber lk_X6_191 rfl ⟨Nat.le_of_ble_eq_true rfl, Nat.le_of_ble_eq_true rfl⟩ rfl rfl (Nat.le_of_ble_eq_true rfl) (by decide) (m_X6_refuseNumber_x ck1) rfl (fun E9 n9 μ9 h9 => by obtain ⟨rfl, rfl, h8⟩ := h9; obtain rfl := Sum.inr.inj h8; exact ⟨rfl, rfl, (ox_f ck1).symm⟩) ?_
    rintro v n9 μ9 - ⟨-, -, h9⟩
    cases h9
set_option maxHeartbeats 4000000 in
set_option maxRecDepth 100000 in
theorem m_X6_repeat {n : Nat} {μ : AH} {D : Nat} {dv : Nat → DVt} {Fn : Nat} {fv : Nat → FVt} {sv : SVt} {pk fd : Nat × (Nat → Int)} {spd lim B : Int} {i w : Int} (hC : CH μ D dv Fn fv sv pk fd spd lim) (hO : COk B D dv Fn fv sv pk fd spd lim) : AMet YX6_repeat [vR 0, vI (i), vI (w)] n μ (fun o n' μ' => n' = n ∧ μ' = μ ∧ ∃ v : Int, o = ox (0 ≤ i ∧ i < (D : Int)) IX (ox (1 ≤ w ∧ w ≤ 30) IA (.inl (some (vI v)))) ∧ ((0 ≤ i ∧ i < (D : Int)) → (1 ≤ w ∧ w ≤ 30) → RepR (dv i.toNat).2.1 (dv i.toNat).2.2.1 (dv i.toNat).2.2.2.1 (dv i.toNat).1 w.toNat v)) := by
  refine AMet.of (by decide) rfl (Nat.le_of_ble_eq_true rfl) ?_
  obtain ⟨h0, h1, h2, hS, ⟨mW, mL, mc, msc, mdc, hM⟩, ⟨pnx, pso, hPk⟩, ⟨enx, eso, hFd⟩, ⟨ue, uf, ug, uh, hUn⟩, hDv, hFv⟩ := id hC
  obtain ⟨hN, hdv, hFn, hfv, hsn, hsb, hpk, hfd, hfb, hs1, hs2, hl1, hl2⟩ := id hO
  refine aw_aload_n (q := 1) dX6_repeat_0 rfl rfl rfl ?_
  refine aw_iload_n (q := 2) dX6_repeat_1 rfl rfl rfl ?_
  by_cases ck1 : 0 ≤ i ∧ i < (D : Int)
  · skip
    obtain ⟨d, hi⟩ : ∃ d : Nat, i = (d : Int) := ⟨i.toNat, by omega⟩
    have hd : d < D := by omega
    have hd5 : d < 5 := by omega
    have hid : i.toNat = d := by omega
    have hdo := (hdv d hd5).1
    refine aw_callV [vI (i)] (q := 5) dX6_repeat_2 rfl ck_X6_deviceOf lk_X6_69 rfl ⟨Nat.le_of_ble_eq_true rfl, Nat.le_of_ble_eq_true rfl⟩ rfl rfl h0 rfl (Nat.le_of_ble_eq_true rfl) (by decide) (m_X6_deviceOf_t h0 h1 hi hd hN) rfl (fun _ _ _ h => (Rt_x h).elim) ?_
    rintro v n9 μ9 - ⟨v9, hv9, rfl, rfl, rfl⟩
    obtain rfl := Sum.inl.inj hv9
    refine aw_get (q := 8) dX6_repeat_5 rfl fl_X6_73 (hDv d hd5).1 rfl (fun _ => ?_)
    refine aw_astore_n (q := 9) dX6_repeat_8 rfl rfl (by decide) ?_
    refine aw_iload_n (q := 10) dX6_repeat_9 rfl rfl rfl ?_
    refine aw_iconst (q := 11) dX6_repeat_10 rfl (by omega) ?_
    refine aw_bipush (q := 13) dX6_repeat_11 rfl (by decide) (by omega) ?_
    by_cases ck2 : 1 ≤ w ∧ w ≤ 30
    · skip
      refine aw_callS [vI (w), vI (1), vI (30)] (q := 16) dX6_repeat_13 rfl ck_X6_refuseOutside lk_X6_140 rfl ⟨Nat.le_of_ble_eq_true rfl, Nat.le_of_ble_eq_true rfl⟩ rfl rfl (Nat.le_of_ble_eq_true rfl) (by decide) (m_X6_refuseOutside_t ck2) rfl (fun _ _ _ h => (Vd_x h).elim) ?_
      rintro v n9 μ9 - ⟨hv9, rfl, rfl⟩
      obtain rfl := Sum.inl.inj hv9
      obtain ⟨N, hN9⟩ : ∃ N : Nat, w = (N : Int) := ⟨w.toNat, by omega⟩
      refine aw_aload_n (q := 17) dX6_repeat_16 rfl rfl rfl ?_
      refine aw_iload_n (q := 18) dX6_repeat_17 rfl rfl rfl ?_
      refine aw_callV [vI (w)] (q := 21) dX6_repeat_18 rfl ck_X5_firstRepeat lk_X6_206 rfl ⟨Nat.le_of_ble_eq_true rfl, Nat.le_of_ble_eq_true rfl⟩ rfl rfl (hDv d hd5).2.1.1 rfl (Nat.le_of_ble_eq_true rfl) (by decide) (m_X5_firstRepeat (N := N) hN9 (by omega) hdo.2.1 (hDv d hd5).2.1 hdo.1 (Nat.le_refl 60)) rfl (fun _ _ _ h => (Rt_x h).elim) ?_
      rintro v n9 μ9 - ⟨v9, hv9, rfl, rfl, r9, rfl, hr9⟩
      obtain rfl := Sum.inl.inj hv9
      exact aw_iret dX6_repeat_21 rfl (by decide) (by decide) ⟨rfl, rfl, r9, ((ox_t ck1).trans (ox_t ck2)).symm, fun _ _ => by rw [hid, show w.toNat = N by omega]; exact hr9⟩
    · skip
      refine aw_callS [vI (w), vI (1), vI (30)] (q := 16) dX6_repeat_13 rfl ck_X6_refuseOutside lk_X6_140 rfl ⟨Nat.le_of_ble_eq_true rfl, Nat.le_of_ble_eq_true rfl⟩ rfl rfl (Nat.le_of_ble_eq_true rfl) (by decide) (m_X6_refuseOutside_x ck2) rfl (fun E9 n9 μ9 h9 => by obtain ⟨rfl, rfl, h8⟩ := h9; obtain rfl := Sum.inr.inj h8; exact ⟨rfl, rfl, 0, ((ox_t ck1).trans (ox_f ck2)).symm, fun _ h => absurd h ck2⟩) ?_
      rintro v n9 μ9 - ⟨-, -, h9⟩
      cases h9
  · skip
    refine aw_callV [vI (i)] (q := 5) dX6_repeat_2 rfl ck_X6_deviceOf lk_X6_69 rfl ⟨Nat.le_of_ble_eq_true rfl, Nat.le_of_ble_eq_true rfl⟩ rfl rfl h0 rfl (Nat.le_of_ble_eq_true rfl) (by decide) (m_X6_deviceOf_x h0 ck1) rfl (fun E9 n9 μ9 h9 => by obtain ⟨rfl, rfl, h8⟩ := h9; obtain rfl := Sum.inr.inj h8; exact ⟨rfl, rfl, 0, (ox_f ck1).symm, fun h => absurd h ck1⟩) ?_
    rintro v n9 μ9 - ⟨-, -, h9⟩
    cases h9
def toldV (D Fn sn pn en : Nat) (spd lim w : Int) : Int := if w = 0 then (D : Int) else if w = 1 then (Fn : Int) else if w = 2 then (sn : Int) else if w = 3 then (pn : Int) else if w = 4 then (en : Int) else if w = 5 then spd else lim
set_option maxHeartbeats 4000000 in
set_option maxRecDepth 100000 in
theorem m_X6_told {n : Nat} {μ : AH} {D : Nat} {dv : Nat → DVt} {Fn : Nat} {fv : Nat → FVt} {sv : SVt} {pk fd : Nat × (Nat → Int)} {spd lim B : Int} {w : Int} (hC : CH μ D dv Fn fv sv pk fd spd lim) (hO : COk B D dv Fn fv sv pk fd spd lim) : AMet YX6_told [vR 0, vI (w)] n μ (Pu n μ (ox (0 ≤ w ∧ w ≤ 6) IA (.inl (some (vI (toldV D Fn sv.1 pk.1 fd.1 spd lim w)))))) := by
  refine AMet.of (by decide) rfl (Nat.le_of_ble_eq_true rfl) ?_
  obtain ⟨h0, h1, h2, hS, ⟨mW, mL, mc, msc, mdc, hM⟩, ⟨pnx, pso, hPk⟩, ⟨enx, eso, hFd⟩, ⟨ue, uf, ug, uh, hUn⟩, hDv, hFv⟩ := id hC
  obtain ⟨hN, hdv, hFn, hfv, hsn, hsb, hpk, hfd, hfb, hs1, hs2, hl1, hl2⟩ := id hO
  refine aw_iload_n (q := 1) dX6_told_0 rfl rfl rfl ?_
  by_cases w0 : w = 0
  · skip
    have hyes : 0 ≤ w ∧ w ≤ 6 := by omega
    refine aw_tsIn (t := 44) (off := 43) dX6_told_1 (by omega) (by omega) (by first | rfl | (rw [show w = 0 by omega]; rfl)) (by decide) ?_
    refine aw_aload_n (q := 45) dX6_told_44 rfl rfl rfl ?_
    refine aw_get (q := 48) dX6_told_45 rfl fl_X6_50 h0 rfl (fun _ => ?_)
    exact aw_iret dX6_told_48 rfl (by decide) (by decide) ⟨rfl, rfl, (by rw [ox_t hyes]; exact congrArg (fun z => (Sum.inl (some (vI z)) : AOut)) (by unfold toldV; rw [if_pos w0]))⟩
  · skip
    by_cases w1 : w = 1
    · skip
      have hyes : 0 ≤ w ∧ w ≤ 6 := by omega
      refine aw_tsIn (t := 49) (off := 48) dX6_told_1 (by omega) (by omega) (by first | rfl | (rw [show w = 1 by omega]; rfl)) (by decide) ?_
      refine aw_aload_n (q := 50) dX6_told_49 rfl rfl rfl ?_
      refine aw_get (q := 53) dX6_told_50 rfl fl_X6_54 h0 rfl (fun _ => ?_)
      exact aw_iret dX6_told_53 rfl (by decide) (by decide) ⟨rfl, rfl, (by rw [ox_t hyes]; exact congrArg (fun z => (Sum.inl (some (vI z)) : AOut)) (by unfold toldV; rw [if_neg w0]; rw [if_pos w1]))⟩
    · skip
      by_cases w2 : w = 2
      · skip
        have hyes : 0 ≤ w ∧ w ≤ 6 := by omega
        refine aw_tsIn (t := 54) (off := 53) dX6_told_1 (by omega) (by omega) (by first | rfl | (rw [show w = 2 by omega]; rfl)) (by decide) ?_
        refine aw_aload_n (q := 55) dX6_told_54 rfl rfl rfl ?_
        refine aw_get (q := 58) dX6_told_55 rfl fl_X6_26 h0 rfl (fun _ => ?_)
        refine aw_get (q := 61) dX6_told_58 rfl fl_X6_99 hS.1 rfl (fun _ => ?_)
        exact aw_iret dX6_told_61 rfl (by decide) (by decide) ⟨rfl, rfl, (by rw [ox_t hyes]; exact congrArg (fun z => (Sum.inl (some (vI z)) : AOut)) (by unfold toldV; rw [if_neg w0]; rw [if_neg w1]; rw [if_pos w2]))⟩
      · skip
        by_cases w3 : w = 3
        · skip
          have hyes : 0 ≤ w ∧ w ≤ 6 := by omega
          refine aw_tsIn (t := 62) (off := 61) dX6_told_1 (by omega) (by omega) (by first | rfl | (rw [show w = 3 by omega]; rfl)) (by decide) ?_
          refine aw_aload_n (q := 63) dX6_told_62 rfl rfl rfl ?_
          refine aw_get (q := 66) dX6_told_63 rfl fl_X6_40 h0 rfl (fun _ => ?_)
          refine aw_get (q := 69) dX6_told_66 rfl fl_X6_190 hPk.1 rfl (fun _ => ?_)
          exact aw_iret dX6_told_69 rfl (by decide) (by decide) ⟨rfl, rfl, (by rw [ox_t hyes]; exact congrArg (fun z => (Sum.inl (some (vI z)) : AOut)) (by unfold toldV; rw [if_neg w0]; rw [if_neg w1]; rw [if_neg w2]; rw [if_pos w3]))⟩
        · skip
          by_cases w4 : w = 4
          · skip
            have hyes : 0 ≤ w ∧ w ≤ 6 := by omega
            refine aw_tsIn (t := 70) (off := 69) dX6_told_1 (by omega) (by omega) (by first | rfl | (rw [show w = 4 by omega]; rfl)) (by decide) ?_
            refine aw_aload_n (q := 71) dX6_told_70 rfl rfl rfl ?_
            refine aw_get (q := 74) dX6_told_71 rfl fl_X6_44 h0 rfl (fun _ => ?_)
            refine aw_get (q := 77) dX6_told_74 rfl fl_X6_190 hFd.1 rfl (fun _ => ?_)
            exact aw_iret dX6_told_77 rfl (by decide) (by decide) ⟨rfl, rfl, (by rw [ox_t hyes]; exact congrArg (fun z => (Sum.inl (some (vI z)) : AOut)) (by unfold toldV; rw [if_neg w0]; rw [if_neg w1]; rw [if_neg w2]; rw [if_neg w3]; rw [if_pos w4]))⟩
          · skip
            by_cases w5 : w = 5
            · skip
              have hyes : 0 ≤ w ∧ w ≤ 6 := by omega
              refine aw_tsIn (t := 78) (off := 77) dX6_told_1 (by omega) (by omega) (by first | rfl | (rw [show w = 5 by omega]; rfl)) (by decide) ?_
              refine aw_aload_n (q := 79) dX6_told_78 rfl rfl rfl ?_
              refine aw_get (q := 82) dX6_told_79 rfl fl_X6_57 h0 rfl (fun _ => ?_)
              exact aw_iret dX6_told_82 rfl (by decide) (by decide) ⟨rfl, rfl, (by rw [ox_t hyes]; exact congrArg (fun z => (Sum.inl (some (vI z)) : AOut)) (by unfold toldV; rw [if_neg w0]; rw [if_neg w1]; rw [if_neg w2]; rw [if_neg w3]; rw [if_neg w4]; rw [if_pos w5]))⟩
            · skip
              by_cases w6 : w = 6
              · skip
                have hyes : 0 ≤ w ∧ w ≤ 6 := by omega
                refine aw_tsIn (t := 83) (off := 82) dX6_told_1 (by omega) (by omega) (by first | rfl | (rw [show w = 6 by omega]; rfl)) (by decide) ?_
                refine aw_aload_n (q := 84) dX6_told_83 rfl rfl rfl ?_
                refine aw_get (q := 87) dX6_told_84 rfl fl_X6_60 h0 rfl (fun _ => ?_)
                exact aw_iret dX6_told_87 rfl (by decide) (by decide) ⟨rfl, rfl, (by rw [ox_t hyes]; exact congrArg (fun z => (Sum.inl (some (vI z)) : AOut)) (by unfold toldV; rw [if_neg w0]; rw [if_neg w1]; rw [if_neg w2]; rw [if_neg w3]; rw [if_neg w4]; rw [if_neg w5]; skip))⟩
              · skip
                have hno : ¬ (0 ≤ w ∧ w ≤ 6) := by omega
                refine aw_tsOut (t := 88) dX6_told_1 (by omega) (by decide) ?_
                exact aw_throw dX6_told_88 dX6_told_91 dX6_told_92 dX6_told_95 th_X6_121 rfl (by decide) (Nat.le_of_ble_eq_true rfl) (by decide) (by decide) ⟨rfl, rfl, (ox_f hno).symm⟩
