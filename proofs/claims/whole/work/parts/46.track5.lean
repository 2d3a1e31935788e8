/-! ===== TrackRows: place, mark (written by m_track5.py) ===== -/
def dvTw (v : DVt) : DVt := (v.1, v.2.1, v.2.2.1, v.2.2.2.1, v.2.2.2.2.1 + 1, v.2.2.2.2.2.1, v.2.2.2.2.2.2.1, v.2.2.2.2.2.2.2)
def plc (v : DVt) (s : Int) : Nat := lowb v.2.1 s v.1 0
abbrev plHas (v : DVt) (s : Int) : Prop := plc v s < v.1 ∧ v.2.1 (plc v s) = s
abbrev plSame (v : DVt) (s x y : Int) : Prop := v.2.2.1 (plc v s) = x ∧ v.2.2.2.1 (plc v s) = y
def dvIns (v : DVt) (s x y : Int) : DVt := (v.1 + 1, insF v.2.1 (plc v s) v.1 s, insF v.2.2.1 (plc v s) v.1 x, insF v.2.2.2.1 (plc v s) v.1 y, v.2.2.2.2.1, v.2.2.2.2.2.1, v.2.2.2.2.2.2.1, v.2.2.2.2.2.2.2)
def mkc (v : DVt) (s : Int) : Nat := lowb v.2.2.2.2.2.2.1 s v.2.2.2.2.2.1 0
abbrev mkFit (v : DVt) (s t : Int) : Prop := (mkc v s = 0 ∨ v.2.2.2.2.2.2.2 (mkc v s - 1) < t) ∧ (v.2.2.2.2.2.1 ≤ mkc v s ∨ (s < v.2.2.2.2.2.2.1 (mkc v s) ∧ t < v.2.2.2.2.2.2.2 (mkc v s)))
def dvMk (v : DVt) (s t : Int) : DVt := (v.1, v.2.1, v.2.2.1, v.2.2.2.1, v.2.2.2.2.1, v.2.2.2.2.2.1 + 1, insF v.2.2.2.2.2.2.1 (mkc v s) v.2.2.2.2.2.1 s, insF v.2.2.2.2.2.2.2 (mkc v s) v.2.2.2.2.2.1 t)
set_option maxHeartbeats 4000000 in
set_option maxRecDepth 100000 in
theorem m_X6_place {n : Nat} {μ : AH} {D : Nat} {dv : Nat → DVt} {Fn : Nat} {fv : Nat → FVt} {sv : SVt} {pk fd : Nat × (Nat → Int)} {spd lim B : Int} {i s x y : Int} (hB9 : B ≤ 1000000) (hC : CH μ D dv Fn fv sv pk fd spd lim) (hO : COk B D dv Fn fv sv pk fd spd lim) : AMet YX6_place [vR 0, vI (i), vI (s), vI (x), vI (y)] n μ (fun o n' μ' => n' = n ∧ ((¬ (0 ≤ i ∧ i < (D : Int)) ∧ o = .inr IX ∧ μ' = μ) ∨ (((0 ≤ i ∧ i < (D : Int)) ∧ ¬ (0 ≤ s ∧ s ≤ 1000000 ∧ -100000 ≤ x ∧ x ≤ 100000 ∧ -100000 ≤ y ∧ y ≤ 100000)) ∧ o = .inr IA ∧ μ' = μ) ∨ (((((0 ≤ i ∧ i < (D : Int)) ∧ 0 ≤ s ∧ s ≤ 1000000 ∧ -100000 ≤ x ∧ x ≤ 100000 ∧ -100000 ≤ y ∧ y ≤ 100000) ∧ plHas (dv i.toNat) s) ∧ plSame (dv i.toNat) s x y) ∧ o = .inl (some (vI (-2))) ∧ CH μ' D (dvu dv i.toNat (dvTw (dv i.toNat))) Fn fv sv pk fd spd lim ∧ FrC μ μ') ∨ (((((0 ≤ i ∧ i < (D : Int)) ∧ 0 ≤ s ∧ s ≤ 1000000 ∧ -100000 ≤ x ∧ x ≤ 100000 ∧ -100000 ≤ y ∧ y ≤ 100000) ∧ plHas (dv i.toNat) s) ∧ ¬ plSame (dv i.toNat) s x y) ∧ o = .inr IA ∧ μ' = μ) ∨ (((((0 ≤ i ∧ i < (D : Int)) ∧ 0 ≤ s ∧ s ≤ 1000000 ∧ -100000 ≤ x ∧ x ≤ 100000 ∧ -100000 ≤ y ∧ y ≤ 100000) ∧ ¬ plHas (dv i.toNat) s) ∧ ¬ (dv i.toNat).1 < 60) ∧ o = .inr IS ∧ μ' = μ) ∨ (((((0 ≤ i ∧ i < (D : Int)) ∧ 0 ≤ s ∧ s ≤ 1000000 ∧ -100000 ≤ x ∧ x ≤ 100000 ∧ -100000 ≤ y ∧ y ≤ 100000) ∧ ¬ plHas (dv i.toNat) s) ∧ (dv i.toNat).1 < 60) ∧ o = .inl (some (vI (plc (dv i.toNat) s : Int))) ∧ CH μ' D (dvu dv i.toNat (dvIns (dv i.toNat) s x y)) Fn fv sv pk fd spd lim ∧ FrC μ μ'))) := by
  refine AMet.of (by decide) rfl (Nat.le_of_ble_eq_true rfl) ?_
  obtain ⟨h0, h1, h2, hS, ⟨mW, mL, mc, msc, mdc, hM⟩, ⟨pnx, pso, hPk⟩, ⟨enx, eso, hFd⟩, ⟨ue, uf, ug, uh, hUn⟩, hDv, hFv⟩ := id hC
  obtain ⟨hN, hdv, hFn, hfv, hsn, hsb, hpk, hfd, hfb, hs1, hs2, hl1, hl2⟩ := id hO
  refine aw_aload_n (q := 1) dX6_place_0 rfl rfl rfl ?_
  refine aw_iload_n (q := 2) dX6_place_1 rfl rfl rfl ?_
  by_cases ck1 : 0 ≤ i ∧ i < (D : Int)
  · skip
    obtain ⟨d, hi⟩ : ∃ d : Nat, i = (d : Int) := ⟨i.toNat, by omega⟩
    have hd : d < D := by omega
    have hd5 : d < 5 := by omega
    have hid : i.toNat = d := by omega
    have hdo := (hdv d hd5).1
    refine aw_callV [vI (i)] (q := 5) dX6_place_2 rfl ck_X6_deviceOf lk_X6_69 rfl ⟨Nat.le_of_ble_eq_true rfl, Nat.le_of_ble_eq_true rfl⟩ rfl rfl h0 rfl (Nat.le_of_ble_eq_true rfl) (by decide) (m_X6_deviceOf_t h0 h1 hi hd hN) rfl (fun _ _ _ h => (Rt_x h).elim) ?_
    rintro v n9 μ9 - ⟨v9, hv9, rfl, rfl, rfl⟩
    obtain rfl := Sum.inl.inj hv9
    refine aw_astore (q := 7) dX6_place_5 rfl (by decide) ?_
    refine aw_aload (q := 9) dX6_place_7 rfl rfl ?_
    refine aw_get (q := 12) dX6_place_9 rfl fl_X6_73 (hDv d hd5).1 rfl (fun _ => ?_)
    refine aw_astore (q := 14) dX6_place_12 rfl (by decide) ?_
    refine aw_iload_n (q := 15) dX6_place_14 rfl rfl rfl ?_
    refine aw_iload_n (q := 16) dX6_place_15 rfl rfl rfl ?_
    refine aw_iload (q := 18) dX6_place_16 rfl rfl ?_
    by_cases ck2 : 0 ≤ s ∧ s ≤ 1000000 ∧ -100000 ≤ x ∧ x ≤ 100000 ∧ -100000 ≤ y ∧ y ≤ 100000
    · skip
      refine aw_callS [vI (s), vI (x), vI (y)] (q := 21) dX6_place_18 rfl ck_X6_refuseUntellable lk_X6_76 rfl ⟨Nat.le_of_ble_eq_true rfl, Nat.le_of_ble_eq_true rfl⟩ rfl rfl (Nat.le_of_ble_eq_true rfl) (by decide) (m_X6_refuseUntellable_t ck2) rfl (fun _ _ _ h => (Vd_x h).elim) ?_
      rintro v n9 μ9 - ⟨hv9, rfl, rfl⟩
      obtain rfl := Sum.inl.inj hv9
      refine aw_aload (q := 23) dX6_place_21 rfl rfl ?_
      refine aw_iload_n (q := 24) dX6_place_23 rfl rfl rfl ?_
      refine aw_callV [vI (s)] (q := 27) dX6_place_24 rfl ck_X5_numberFor lk_X6_80 rfl ⟨Nat.le_of_ble_eq_true rfl, Nat.le_of_ble_eq_true rfl⟩ rfl rfl (hDv d hd5).2.1.1 rfl (Nat.le_of_ble_eq_true rfl) (by decide) (m_X5_numberFor (hDv d hd5).2.1 hdo.1 (Nat.le_refl 60)) rfl (fun _ _ _ h => (Rt_x h).elim) ?_
      rintro v n9 μ9 - ⟨v9, hv9, rfl, rfl, rfl⟩
      obtain rfl := Sum.inl.inj hv9
      have hrl : plc (dv d) s ≤ (dv d).1 := by have := (lowb_le (dv d).2.1 s (dv d).1 0).1; unfold plc; omega
      have hc60 : (dv d).1 ≤ 60 := hdo.1
      refine aw_istore (q := 29) dX6_place_27 rfl (by decide) ?_
      refine aw_aload (q := 31) dX6_place_29 rfl rfl ?_
      refine aw_iload (q := 33) dX6_place_31 rfl rfl ?_
      refine aw_iload_n (q := 34) dX6_place_33 rfl rfl rfl ?_
      refine aw_callV [vI (((plc (dv d) s) : Nat)), vI (s)] (q := 37) dX6_place_34 rfl ck_X5_hasSecond lk_X6_84 rfl ⟨Nat.le_of_ble_eq_true rfl, Nat.le_of_ble_eq_true rfl⟩ rfl rfl (hDv d hd5).2.1.1 rfl (Nat.le_of_ble_eq_true rfl) (by decide) (m_X5_hasSecond (r := (plc (dv d) s)) rfl (hDv d hd5).2.1 hdo.1 (Nat.le_refl 60)) rfl (fun _ _ _ h => (Rt_x h).elim) ?_
      rintro v n9 μ9 - ⟨v9, hv9, rfl, rfl, rfl⟩
      obtain rfl := Sum.inl.inj hv9
      refine aw_if_eq (t := 67) (q := 40) dX6_place_37 rfl (by decide) (fun bc3 => ?_) (fun bc3 => ?_)
      · skip
        replace bc3 := bz_0.mp bc3
        refine aw_aload (q := 69) dX6_place_67 rfl rfl ?_
        refine aw_get (q := 72) dX6_place_69 rfl fl_X6_99 (hDv d hd5).2.1.1 rfl (fun _ => ?_)
        refine aw_bipush (q := 74) dX6_place_72 rfl (by decide) (by omega) ?_
        by_cases ck4 : ((dv d).1 : Int) < 60
        · skip
          refine aw_callS [vI (((dv d).1 : Nat)), vI (60)] (q := 77) dX6_place_74 rfl ck_X6_refuseMore lk_X6_65 rfl ⟨Nat.le_of_ble_eq_true rfl, Nat.le_of_ble_eq_true rfl⟩ rfl rfl (Nat.le_of_ble_eq_true rfl) (by decide) (m_X6_refuseMore_t ck4) rfl (fun _ _ _ h => (Vd_x h).elim) ?_
          rintro v n9 μ9 - ⟨hv9, rfl, rfl⟩
          obtain rfl := Sum.inl.inj hv9
          refine aw_aload (q := 79) dX6_place_77 rfl rfl ?_
          refine aw_iload (q := 81) dX6_place_79 rfl rfl ?_
          refine aw_iload_n (q := 82) dX6_place_81 rfl rfl rfl ?_
          refine aw_iload_n (q := 83) dX6_place_82 rfl rfl rfl ?_
          refine aw_iload (q := 85) dX6_place_83 rfl rfl ?_
          refine aw_callV [vI (((plc (dv d) s) : Nat)), vI (s), vI (x), vI (y)] (q := 88) dX6_place_85 rfl ck_X5_insert lk_X6_102 rfl ⟨Nat.le_of_ble_eq_true rfl, Nat.le_of_ble_eq_true rfl⟩ rfl rfl (hDv d hd5).2.1.1 rfl (Nat.le_of_ble_eq_true rfl) (by decide) (m_X5_insert (r := (plc (dv d) s)) rfl hrl (by omega) (by omega) (hDv d hd5).2.1) rfl (fun _ _ _ h => (Vd_x h).elim) ?_
          rintro v n9 μ9 - ⟨hv9, rfl, hP2, hF2⟩
          obtain rfl := Sum.inl.inj hv9
          refine aw_iload (q := 90) dX6_place_88 rfl rfl ?_
          exact aw_iret dX6_place_90 rfl (by decide) (by decide) ⟨rfl, Or.inr (Or.inr (Or.inr (Or.inr (Or.inr ⟨⟨⟨⟨ck1, ck2⟩, by rw [hid]; assumption⟩, by rw [hid]; omega⟩, by rw [hid]; rfl, by rw [hid]; exact CH_dev (v := dvIns (dv d) s x y) hC hd5 (FrR_of hF2 (by simp only [List.mem_cons, List.not_mem_nil, or_false]; omega)) ⟨(hF2 (30 + 8 * d) (by simp only [List.mem_cons, List.not_mem_nil, or_false]; omega)).trans (hDv d hd5).1, hP2, KL_k (hDv d hd5).2.2 (fun j hj => hF2 _ (by simp only [List.mem_cons, List.not_mem_nil, or_false]; omega))⟩, FrR_C (FrR_of (lo := 30 + 8 * d) (hi := 38 + 8 * d) hF2 (by simp only [List.mem_cons, List.not_mem_nil, or_false]; omega)) (by omega)⟩))))⟩
        · skip
          refine aw_callS [vI (((dv d).1 : Nat)), vI (60)] (q := 77) dX6_place_74 rfl ck_X6_refuseMore lk_X6_65 rfl ⟨Nat.le_of_ble_eq_true rfl, Nat.le_of_ble_eq_true rfl⟩ rfl rfl (Nat.le_of_ble_eq_true rfl) (by decide) (m_X6_refuseMore_x ck4) rfl (fun E9 n9 μ9 h9 => by obtain ⟨rfl, rfl, h8⟩ := h9; obtain rfl := Sum.inr.inj h8; exact ⟨rfl, Or.inr (Or.inr (Or.inr (Or.inr (Or.inl ⟨⟨⟨⟨ck1, ck2⟩, by rw [hid]; assumption⟩, by rw [hid]; omega⟩, rfl, rfl⟩))))⟩) ?_
          rintro v n9 μ9 - ⟨-, -, h9⟩
          cases h9
      · skip
        replace bc3 := bz_n0.mp bc3
        refine aw_aload (q := 42) dX6_place_40 rfl rfl ?_
        refine aw_iload (q := 44) dX6_place_42 rfl rfl ?_
        refine aw_iload_n (q := 45) dX6_place_44 rfl rfl rfl ?_
        refine aw_iload (q := 47) dX6_place_45 rfl rfl ?_
        refine aw_callV [vI (((plc (dv d) s) : Nat)), vI (x), vI (y)] (q := 50) dX6_place_47 rfl ck_X5_isAt lk_X6_88 rfl ⟨Nat.le_of_ble_eq_true rfl, Nat.le_of_ble_eq_true rfl⟩ rfl rfl (hDv d hd5).2.1.1 rfl (Nat.le_of_ble_eq_true rfl) (by decide) (m_X5_isAt (r := (plc (dv d) s)) rfl (by omega) (hDv d hd5).2.1 hdo.1 (Nat.le_refl 60)) rfl (fun _ _ _ h => (Rt_x h).elim) ?_
        rintro v n9 μ9 - ⟨v9, hv9, rfl, rfl, rfl⟩
        obtain rfl := Sum.inl.inj hv9
        by_cases ck5 : plSame (dv d) s x y
        · skip
          refine aw_callS [vI (bz (plSame (dv d) s x y))] (q := 53) dX6_place_50 rfl ck_X6_refuseUnless lk_X6_92 rfl ⟨Nat.le_of_ble_eq_true rfl, Nat.le_of_ble_eq_true rfl⟩ rfl rfl (Nat.le_of_ble_eq_true rfl) (by decide) (m_X6_refuseUnless_t (bz_n0.mpr ck5)) rfl (fun _ _ _ h => (Vd_x h).elim) ?_
          rintro v n9 μ9 - ⟨hv9, rfl, rfl⟩
          obtain rfl := Sum.inl.inj hv9
          have htw := (hdv d hd5).2
          refine aw_aload (q := 55) dX6_place_53 rfl rfl ?_
          refine aw_dup (q := 56) dX6_place_55 rfl rfl ?_
          refine aw_get (q := 59) dX6_place_56 rfl fl_X6_96 (hDv d hd5).1 rfl (fun _ => ?_)
          refine aw_iconst (q := 60) dX6_place_59 rfl (by omega) ?_
          refine aw_iadd (q := 61) dX6_place_60 rfl (by omega) ?_
          refine aw_put (q := 64) dX6_place_61 rfl fp_X6_96 (hDv d hd5).1 (Nat.le_of_ble_eq_true rfl) trivial ?_
          refine aw_bipush (q := 66) dX6_place_64 rfl (by decide) (by omega) ?_
          exact aw_iret dX6_place_66 rfl (by decide) (by decide) ⟨rfl, Or.inr (Or.inr (Or.inl ⟨⟨⟨⟨ck1, ck2⟩, by rw [hid]; assumption⟩, by rw [hid]; exact ck5⟩, rfl, by rw [hid]; exact CH_dev (v := dvTw (dv d)) hC hd5 (FrR_hu FrR_rf (by omega)) ⟨hu_s, PL_k (hDv d hd5).2.1 (fun j hj => hu_n (by omega)), KL_k (hDv d hd5).2.2 (fun j hj => hu_n (by omega))⟩, FrR_C (FrR_hu (lo := 30 + 8 * d) (hi := 38 + 8 * d) FrR_rf (by omega)) (by omega)⟩))⟩
        · skip
          refine aw_callS [vI (bz (plSame (dv d) s x y))] (q := 53) dX6_place_50 rfl ck_X6_refuseUnless lk_X6_92 rfl ⟨Nat.le_of_ble_eq_true rfl, Nat.le_of_ble_eq_true rfl⟩ rfl rfl (Nat.le_of_ble_eq_true rfl) (by decide) (m_X6_refuseUnless_x (fun h => ck5 (bz_n0.mp h))) rfl (fun E9 n9 μ9 h9 => by obtain ⟨rfl, rfl, h8⟩ := h9; obtain rfl := Sum.inr.inj h8; exact ⟨rfl, Or.inr (Or.inr (Or.inr (Or.inl ⟨⟨⟨⟨ck1, ck2⟩, by rw [hid]; assumption⟩, by rw [hid]; exact ck5⟩, rfl, rfl⟩)))⟩) ?_
          rintro v n9 μ9 - ⟨-, -, h9⟩
          cases h9
    · skip
      refine aw_callS [vI (s), vI (x), vI (y)] (q := 21) dX6_place_18 rfl ck_X6_refuseUntellable lk_X6_76 rfl ⟨Nat.le_of_ble_eq_true rfl, Nat.le_of_ble_eq_true rfl⟩ rfl rfl (Nat.le_of_ble_eq_true rfl) (by decide) (m_X6_refuseUntellable_x ck2) rfl (fun E9 n9 μ9 h9 => by obtain ⟨rfl, rfl, h8⟩ := h9; obtain rfl := Sum.inr.inj h8; exact ⟨rfl, Or.inr (Or.inl ⟨⟨ck1, ck2⟩, rfl, rfl⟩)⟩) ?_
      rintro v n9 μ9 - ⟨-, -, h9⟩
      cases h9
  · skip
    refine aw_callV [vI (i)] (q := 5) dX6_place_2 rfl ck_X6_deviceOf lk_X6_69 rfl ⟨Nat.le_of_ble_eq_true rfl, Nat.le_of_ble_eq_true rfl⟩ rfl rfl h0 rfl (Nat.le_of_ble_eq_true rfl) (by decide) (m_X6_deviceOf_x h0 ck1) rfl (fun E9 n9 μ9 h9 => by obtain ⟨rfl, rfl, h8⟩ := h9; obtain rfl := Sum.inr.inj h8; exact ⟨rfl, Or.inl ⟨ck1, rfl, rfl⟩⟩) ?_
    rintro v n9 μ9 - ⟨-, -, h9⟩
    cases h9
set_option maxHeartbeats 4000000 in
set_option maxRecDepth 100000 in
theorem m_X6_mark {n : Nat} {μ : AH} {D : Nat} {dv : Nat → DVt} {Fn : Nat} {fv : Nat → FVt} {sv : SVt} {pk fd : Nat × (Nat → Int)} {spd lim B : Int} {i s t : Int} (hC : CH μ D dv Fn fv sv pk fd spd lim) (hO : COk B D dv Fn fv sv pk fd spd lim) : AMet YX6_mark [vR 0, vI (i), vI (s), vI (t)] n μ (fun o n' μ' => n' = n ∧ ((¬ (0 ≤ i ∧ i < (D : Int)) ∧ o = .inr IX ∧ μ' = μ) ∨ (((0 ≤ i ∧ i < (D : Int)) ∧ ¬ ((0 ≤ s ∧ s ≤ 1000000) ∧ 0 ≤ t ∧ t ≤ 1000000)) ∧ o = .inr IA ∧ μ' = μ) ∨ ((((0 ≤ i ∧ i < (D : Int)) ∧ (0 ≤ s ∧ s ≤ 1000000) ∧ 0 ≤ t ∧ t ≤ 1000000) ∧ ¬ mkFit (dv i.toNat) s t) ∧ o = .inr IA ∧ μ' = μ) ∨ (((((0 ≤ i ∧ i < (D : Int)) ∧ (0 ≤ s ∧ s ≤ 1000000) ∧ 0 ≤ t ∧ t ≤ 1000000) ∧ mkFit (dv i.toNat) s t) ∧ ¬ (dv i.toNat).2.2.2.2.2.1 < 8) ∧ o = .inr IS ∧ μ' = μ) ∨ (((((0 ≤ i ∧ i < (D : Int)) ∧ (0 ≤ s ∧ s ≤ 1000000) ∧ 0 ≤ t ∧ t ≤ 1000000) ∧ mkFit (dv i.toNat) s t) ∧ (dv i.toNat).2.2.2.2.2.1 < 8) ∧ o = .inl (some (vI (((dv i.toNat).2.2.2.2.2.1 + 1 : Nat) : Int))) ∧ CH μ' D (dvu dv i.toNat (dvMk (dv i.toNat) s t)) Fn fv sv pk fd spd lim ∧ FrC μ μ'))) := by
  refine AMet.of (by decide) rfl (Nat.le_of_ble_eq_true rfl) ?_
  obtain ⟨h0, h1, h2, hS, ⟨mW, mL, mc, msc, mdc, hM⟩, ⟨pnx, pso, hPk⟩, ⟨enx, eso, hFd⟩, ⟨ue, uf, ug, uh, hUn⟩, hDv, hFv⟩ := id hC
  obtain ⟨hN, hdv, hFn, hfv, hsn, hsb, hpk, hfd, hfb, hs1, hs2, hl1, hl2⟩ := id hO
  refine aw_aload_n (q := 1) dX6_mark_0 rfl rfl rfl ?_
  refine aw_iload_n (q := 2) dX6_mark_1 rfl rfl rfl ?_
  by_cases ck1 : 0 ≤ i ∧ i < (D : Int)
  · skip
    obtain ⟨d, hi⟩ : ∃ d : Nat, i = (d : Int) := ⟨i.toNat, by omega⟩
    have hd : d < D := by omega
    have hd5 : d < 5 := by omega
    have hid : i.toNat = d := by omega
    have hdo := (hdv d hd5).1
    refine aw_callV [vI (i)] (q := 5) dX6_mark_2 rfl ck_X6_deviceOf lk_X6_69 rfl ⟨Nat.le_of_ble_eq_true rfl, Nat.le_of_ble_eq_true rfl⟩ rfl rfl h0 rfl (Nat.le_of_ble_eq_true rfl) (by decide) (m_X6_deviceOf_t h0 h1 hi hd hN) rfl (fun _ _ _ h => (Rt_x h).elim) ?_
    rintro v n9 μ9 - ⟨v9, hv9, rfl, rfl, rfl⟩
    obtain rfl := Sum.inl.inj hv9
    refine aw_get (q := 8) dX6_mark_5 rfl fl_X6_106 (hDv d hd5).1 rfl (fun _ => ?_)
    refine aw_astore (q := 10) dX6_mark_8 rfl (by decide) ?_
    refine aw_iload_n (q := 11) dX6_mark_10 rfl rfl rfl ?_
    refine aw_iconst (q := 12) dX6_mark_11 rfl (by omega) ?_
    refine aw_ldc (a := 1000000) (q := 14) dX6_mark_12 rfl k_X6_139 (by omega) ?_
    by_cases ck2 : 0 ≤ s ∧ s ≤ 1000000
    · skip
      refine aw_callS [vI (s), vI (0), vI (1000000)] (q := 17) dX6_mark_14 rfl ck_X6_refuseOutside lk_X6_140 rfl ⟨Nat.le_of_ble_eq_true rfl, Nat.le_of_ble_eq_true rfl⟩ rfl rfl (Nat.le_of_ble_eq_true rfl) (by decide) (m_X6_refuseOutside_t ck2) rfl (fun _ _ _ h => (Vd_x h).elim) ?_
      rintro v n9 μ9 - ⟨hv9, rfl, rfl⟩
      obtain rfl := Sum.inl.inj hv9
      refine aw_iload_n (q := 18) dX6_mark_17 rfl rfl rfl ?_
      refine aw_iconst (q := 19) dX6_mark_18 rfl (by omega) ?_
      refine aw_ldc (a := 1000000) (q := 21) dX6_mark_19 rfl k_X6_139 (by omega) ?_
      by_cases ck3 : 0 ≤ t ∧ t ≤ 1000000
      · skip
        refine aw_callS [vI (t), vI (0), vI (1000000)] (q := 24) dX6_mark_21 rfl ck_X6_refuseOutside lk_X6_140 rfl ⟨Nat.le_of_ble_eq_true rfl, Nat.le_of_ble_eq_true rfl⟩ rfl rfl (Nat.le_of_ble_eq_true rfl) (by decide) (m_X6_refuseOutside_t ck3) rfl (fun _ _ _ h => (Vd_x h).elim) ?_
        rintro v n9 μ9 - ⟨hv9, rfl, rfl⟩
        obtain rfl := Sum.inl.inj hv9
        refine aw_aload (q := 26) dX6_mark_24 rfl rfl ?_
        refine aw_iload_n (q := 27) dX6_mark_26 rfl rfl rfl ?_
        refine aw_callV [vI (s)] (q := 30) dX6_mark_27 rfl ck_X1_numberFor lk_X6_143 rfl ⟨Nat.le_of_ble_eq_true rfl, Nat.le_of_ble_eq_true rfl⟩ rfl rfl (hDv d hd5).2.2.1 rfl (Nat.le_of_ble_eq_true rfl) (by decide) (m_X1_numberFor (hDv d hd5).2.2 hdo.2.2.2.1) rfl (fun _ _ _ h => (Rt_x h).elim) ?_
        rintro v n9 μ9 - ⟨v9, hv9, rfl, rfl, rfl⟩
        obtain rfl := Sum.inl.inj hv9
        have hrl : mkc (dv d) s ≤ (dv d).2.2.2.2.2.1 := by have := (lowb_le (dv d).2.2.2.2.2.2.1 s (dv d).2.2.2.2.2.1 0).1; unfold mkc; omega
        have hk8 : (dv d).2.2.2.2.2.1 ≤ 8 := hdo.2.2.2.1
        refine aw_istore (q := 32) dX6_mark_30 rfl (by decide) ?_
        refine aw_aload (q := 34) dX6_mark_32 rfl rfl ?_
        refine aw_iload (q := 36) dX6_mark_34 rfl rfl ?_
        refine aw_iload_n (q := 37) dX6_mark_36 rfl rfl rfl ?_
        refine aw_iload_n (q := 38) dX6_mark_37 rfl rfl rfl ?_
        refine aw_callV [vI (((mkc (dv d) s) : Nat)), vI (s), vI (t)] (q := 41) dX6_mark_38 rfl ck_X1_fits lk_X6_144 rfl ⟨Nat.le_of_ble_eq_true rfl, Nat.le_of_ble_eq_true rfl⟩ rfl rfl (hDv d hd5).2.2.1 rfl (Nat.le_of_ble_eq_true rfl) (by decide) (m_X1_fits (r := (mkc (dv d) s)) rfl hrl (hDv d hd5).2.2 hdo.2.2.2.1) rfl (fun _ _ _ h => (Rt_x h).elim) ?_
        rintro v n9 μ9 - ⟨v9, hv9, rfl, rfl, rfl⟩
        obtain rfl := Sum.inl.inj hv9
        by_cases ck4 : mkFit (dv d) s t
        · skip
          refine aw_callS [vI (bz (mkFit (dv d) s t))] (q := 44) dX6_mark_41 rfl ck_X6_refuseUnless lk_X6_92 rfl ⟨Nat.le_of_ble_eq_true rfl, Nat.le_of_ble_eq_true rfl⟩ rfl rfl (Nat.le_of_ble_eq_true rfl) (by decide) (m_X6_refuseUnless_t (bz_n0.mpr ck4)) rfl (fun _ _ _ h => (Vd_x h).elim) ?_
          rintro v n9 μ9 - ⟨hv9, rfl, rfl⟩
          obtain rfl := Sum.inl.inj hv9
          refine aw_aload (q := 46) dX6_mark_44 rfl rfl ?_
          refine aw_get (q := 49) dX6_mark_46 rfl fl_X6_110 (hDv d hd5).2.2.1 rfl (fun _ => ?_)
          refine aw_bipush (q := 51) dX6_mark_49 rfl (by decide) (by omega) ?_
          by_cases ck5 : ((dv d).2.2.2.2.2.1 : Int) < 8
          · skip
            refine aw_callS [vI (((dv d).2.2.2.2.2.1 : Nat)), vI (8)] (q := 54) dX6_mark_51 rfl ck_X6_refuseMore lk_X6_65 rfl ⟨Nat.le_of_ble_eq_true rfl, Nat.le_of_ble_eq_true rfl⟩ rfl rfl (Nat.le_of_ble_eq_true rfl) (by decide) (m_X6_refuseMore_t ck5) rfl (fun _ _ _ h => (Vd_x h).elim) ?_
            rintro v n9 μ9 - ⟨hv9, rfl, rfl⟩
            obtain rfl := Sum.inl.inj hv9
            refine aw_aload (q := 56) dX6_mark_54 rfl rfl ?_
            refine aw_iload (q := 58) dX6_mark_56 rfl rfl ?_
            refine aw_iload_n (q := 59) dX6_mark_58 rfl rfl rfl ?_
            refine aw_iload_n (q := 60) dX6_mark_59 rfl rfl rfl ?_
            refine aw_callV [vI (((mkc (dv d) s) : Nat)), vI (s), vI (t)] (q := 63) dX6_mark_60 rfl ck_X1_insert lk_X6_147 rfl ⟨Nat.le_of_ble_eq_true rfl, Nat.le_of_ble_eq_true rfl⟩ rfl rfl (hDv d hd5).2.2.1 rfl (Nat.le_of_ble_eq_true rfl) (by decide) (m_X1_insert (r := (mkc (dv d) s)) rfl hrl (by omega) (hDv d hd5).2.2) rfl (fun _ _ _ h => (Vd_x h).elim) ?_
            rintro v n9 μ9 - ⟨hv9, rfl, hK2, hF2⟩
            obtain rfl := Sum.inl.inj hv9
            refine aw_aload (q := 65) dX6_mark_63 rfl rfl ?_
            refine aw_get (q := 68) dX6_mark_65 rfl fl_X6_110 hK2.1 rfl (fun _ => ?_)
            exact aw_iret dX6_mark_68 rfl (by decide) (by decide) ⟨rfl, Or.inr (Or.inr (Or.inr (Or.inr ⟨⟨⟨⟨ck1, ck2, ck3⟩, by rw [hid]; exact ck4⟩, by rw [hid]; omega⟩, by rw [hid], by rw [hid]; exact CH_dev (v := dvMk (dv d) s t) hC hd5 (FrR_of hF2 (by simp only [List.mem_cons, List.not_mem_nil, or_false]; omega)) ⟨(hF2 (30 + 8 * d) (by simp only [List.mem_cons, List.not_mem_nil, or_false]; omega)).trans (hDv d hd5).1, PL_k (hDv d hd5).2.1 (fun j hj => hF2 _ (by simp only [List.mem_cons, List.not_mem_nil, or_false]; omega)), hK2⟩, FrR_C (FrR_of (lo := 30 + 8 * d) (hi := 38 + 8 * d) hF2 (by simp only [List.mem_cons, List.not_mem_nil, or_false]; omega)) (by omega)⟩)))⟩
          · skip
            refine aw_callS [vI (((dv d).2.2.2.2.2.1 : Nat)), vI (8)] (q := 54) dX6_mark_51 rfl ck_X6_refuseMore lk_X6_65 rfl ⟨Nat.le_of_ble_eq_true rfl, Nat.le_of_ble_eq_true rfl⟩ rfl rfl (Nat.le_of_ble_eq_true rfl) (by decide) (m_X6_refuseMore_x ck5) rfl (fun E9 n9 μ9 h9 => by obtain ⟨rfl, rfl, h8⟩ := h9; obtain rfl := Sum.inr.inj h8; exact ⟨rfl, Or.inr (Or.inr (Or.inr (Or.inl ⟨⟨⟨⟨ck1, ck2, ck3⟩, by rw [hid]; exact ck4⟩, by rw [hid]; omega⟩, rfl, rfl⟩)))⟩) ?_
            rintro v n9 μ9 - ⟨-, -, h9⟩
            cases h9
        · skip
          refine aw_callS [vI (bz (mkFit (dv d) s t))] (q := 44) dX6_mark_41 rfl ck_X6_refuseUnless lk_X6_92 rfl ⟨Nat.le_of_ble_eq_true rfl, Nat.le_of_ble_eq_true rfl⟩ rfl rfl (Nat.le_of_ble_eq_true rfl) (by decide) (m_X6_refuseUnless_x (fun h => ck4 (bz_n0.mp h))) rfl (fun E9 n9 μ9 h9 => by obtain ⟨rfl, rfl, h8⟩ := h9; obtain rfl := Sum.inr.inj h8; exact ⟨rfl, Or.inr (Or.inr (Or.inl ⟨⟨⟨ck1, ck2, ck3⟩, by rw [hid]; exact ck4⟩, rfl, rfl⟩))⟩) ?_
          rintro v n9 μ9 - ⟨-, -, h9⟩
          cases h9
      · skip
        refine aw_callS [vI (t), vI (0), vI (1000000)] (q := 24) dX6_mark_21 rfl ck_X6_refuseOutside lk_X6_140 rfl ⟨Nat.le_of_ble_eq_true rfl, Nat.le_of_ble_eq_true rfl⟩ rfl rfl (Nat.le_of_ble_eq_true rfl) (by decide) (m_X6_refuseOutside_x ck3) rfl (fun E9 n9 μ9 h9 => by obtain ⟨rfl, rfl, h8⟩ := h9; obtain rfl := Sum.inr.inj h8; exact ⟨rfl, Or.inr (Or.inl ⟨⟨ck1, (fun h => ck3 h.2)⟩, rfl, rfl⟩)⟩) ?_
        rintro v n9 μ9 - ⟨-, -, h9⟩
        cases h9
    · skip
      refine aw_callS [vI (s), vI (0), vI (1000000)] (q := 17) dX6_mark_14 rfl ck_X6_refuseOutside lk_X6_140 rfl ⟨Nat.le_of_ble_eq_true rfl, Nat.le_of_ble_eq_true rfl⟩ rfl rfl (Nat.le_of_ble_eq_true rfl) (by decide) (m_X6_refuseOutside_x ck2) rfl (fun E9 n9 μ9 h9 => by obtain ⟨rfl, rfl, h8⟩ := h9; obtain rfl := Sum.inr.inj h8; exact ⟨rfl, Or.inr (Or.inl ⟨⟨ck1, (fun h => ck2 h.1)⟩, rfl, rfl⟩)⟩) ?_
      rintro v n9 μ9 - ⟨-, -, h9⟩
      cases h9
  · skip
    refine aw_callV [vI (i)] (q := 5) dX6_mark_2 rfl ck_X6_deviceOf lk_X6_69 rfl ⟨Nat.le_of_ble_eq_true rfl, Nat.le_of_ble_eq_true rfl⟩ rfl rfl h0 rfl (Nat.le_of_ble_eq_true rfl) (by decide) (m_X6_deviceOf_x h0 ck1) rfl (fun E9 n9 μ9 h9 => by obtain ⟨rfl, rfl, h8⟩ := h9; obtain rfl := Sum.inr.inj h8; exact ⟨rfl, Or.inl ⟨ck1, rfl, rfl⟩⟩) ?_
    rintro v n9 μ9 - ⟨-, -, h9⟩
    cases h9
