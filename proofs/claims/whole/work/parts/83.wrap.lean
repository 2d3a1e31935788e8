/-! ===== the law's wrappers: what is thrown is caught and numbered (written by m_wrap.py) ===== -/
theorem cx_IX : Cond.classLink "TrackRowsLaw" 19 "java/lang/IndexOutOfBoundsException" ∈ Tb := Tb_at 376 (by decide +kernel) (by decide +kernel)
theorem cs_IX : Cond.castable "java/lang/IndexOutOfBoundsException" "java/lang/IndexOutOfBoundsException" ∈ Tb := Tb_at 391 (by decide +kernel) (by decide +kernel)
theorem cx_IA : Cond.classLink "TrackRowsLaw" 21 "java/lang/IllegalArgumentException" ∈ Tb := Tb_at 377 (by decide +kernel) (by decide +kernel)
theorem cs_IA : Cond.castable "java/lang/IllegalArgumentException" "java/lang/IllegalArgumentException" ∈ Tb := Tb_at 418 (by decide +kernel) (by decide +kernel)
theorem cx_IS : Cond.classLink "TrackRowsLaw" 13 "java/lang/IllegalStateException" ∈ Tb := Tb_at 302 (by decide +kernel) (by decide +kernel)
theorem cs_IS : Cond.castable "java/lang/IllegalStateException" "java/lang/IllegalStateException" ∈ Tb := Tb_at 312 (by decide +kernel) (by decide +kernel)
set_option maxHeartbeats 4000000 in
set_option maxRecDepth 100000 in
theorem w_device {n : Nat} {μ : AH} {Q' : AQ} {fs : List AV} {o9 : Nat → Int}  (hM : AMet YX6_device [vR 0] n μ Q') (h0 : μ 0 = oO 6 fs) (hq : ∀ (o : AOut) (n1 : Nat) (μ1 : AH), Q' o n1 μ1 → n1 = n ∧ μ1 101 = oL 1 o9 ∧ ((∃ r : Int, o = .inl (some (vI r))) ∨ o = .inr IS)) : AMet YL_device [vR 0, vR 101] n μ (Rt (fun v n' μ' => n' = n ∧ ∃ (o : AOut) (μ1 : AH), Q' o n μ1 ∧ WR [(IS, 1)] o9 o μ1 v μ')) := by
  refine AMet.ofH (by decide) (List.cons_ne_nil _ _) (Nat.le_of_ble_eq_true rfl) ?_
  refine aw_aload_n (q := 1) dL_device_0 rfl rfl rfl ?_
  refine aw_iconst (q := 2) dL_device_1 rfl (by omega) ?_
  refine aw_aload_n (q := 3) dL_device_2 rfl rfl rfl ?_
  refine aw_callVC [] (q := 6) dL_device_3 rfl ck_X6_device lk_L_7 rfl ⟨Nat.le_of_ble_eq_true rfl, Nat.le_of_ble_eq_true rfl⟩ rfl rfl h0 rfl (Nat.le_of_ble_eq_true rfl) (by decide) hM (fun E n1 μ1 hE => ?_) ?_
  · obtain ⟨hn1, h101, hk⟩ := hq _ _ _ hE
    obtain rfl := hn1.symm
    rcases hk with ⟨r, h9⟩ | h9
    · cases h9
    · obtain rfl := Sum.inr.inj h9
      refine ax_c (q := 12) (E := IS) [] [] ((0, 8, 11, 13) : Nat × Nat × Nat × Nat) rfl (fun y hy => by cases hy) (by decide) (by decide) cx_IS cs_IS (Or.inl ⟨2, dL_device_11, by decide, rfl⟩) ?_
      refine aw_iconst (q := 13) dL_device_12 rfl (by omega) ?_
      exact aw_iret dL_device_13 rfl (by decide) (by decide) ⟨_, rfl, rfl, _, _, hE, Or.inr ⟨IS, 1, by simp, rfl, rfl, rfl⟩⟩
  · rintro v n1 μ1 - hE
    obtain ⟨hn1, h101, hk⟩ := hq _ _ _ hE
    obtain rfl := hn1.symm
    obtain ⟨r, hr⟩ : ∃ r : Int, v = some (vI r) := by rcases hk with ⟨r, h9⟩ | h9; exact ⟨r, Sum.inl.inj h9⟩; cases h9
    subst hr
    refine aw_i2l (q := 7) dL_device_6 rfl ?_
    refine aw_lastore (j := 0) (q := 8) dL_device_7 rfl h101 (by omega) (by omega) ?_
    refine aw_goto (q := 14) dL_device_8 (by decide) ?_
    refine aw_iconst (q := 15) dL_device_14 rfl (by omega) ?_
    exact aw_iret dL_device_15 rfl (by decide) (by decide) ⟨_, rfl, rfl, _, _, hE, Or.inl ⟨r, Or.inl rfl, rfl, rfl⟩⟩
set_option maxHeartbeats 4000000 in
set_option maxRecDepth 100000 in
theorem w_place {n : Nat} {μ : AH} {Q' : AQ} {fs : List AV} {o9 : Nat → Int} {i s x y : Int} (hM : AMet YX6_place [vR 0, vI (i), vI (s), vI (x), vI (y)] n μ Q') (h0 : μ 0 = oO 6 fs) (hq : ∀ (o : AOut) (n1 : Nat) (μ1 : AH), Q' o n1 μ1 → n1 = n ∧ μ1 101 = oL 1 o9 ∧ ((∃ r : Int, o = .inl (some (vI r))) ∨ o = .inr IX ∨ o = .inr IA ∨ o = .inr IS)) : AMet YL_place [vR 0, vI (i), vI (s), vI (x), vI (y), vR 101] n μ (Rt (fun v n' μ' => n' = n ∧ ∃ (o : AOut) (μ1 : AH), Q' o n μ1 ∧ WR [(IX, 1), (IA, 2), (IS, 3)] o9 o μ1 v μ')) := by
  refine AMet.ofH (by decide) (List.cons_ne_nil _ _) (Nat.le_of_ble_eq_true rfl) ?_
  refine aw_aload (q := 2) dL_place_0 rfl rfl ?_
  refine aw_iconst (q := 3) dL_place_2 rfl (by omega) ?_
  refine aw_aload_n (q := 4) dL_place_3 rfl rfl rfl ?_
  refine aw_iload_n (q := 5) dL_place_4 rfl rfl rfl ?_
  refine aw_iload_n (q := 6) dL_place_5 rfl rfl rfl ?_
  refine aw_iload_n (q := 7) dL_place_6 rfl rfl rfl ?_
  refine aw_iload (q := 9) dL_place_7 rfl rfl ?_
  refine aw_callVC [vI (i), vI (s), vI (x), vI (y)] (q := 12) dL_place_9 rfl ck_X6_place lk_L_15 rfl ⟨Nat.le_of_ble_eq_true rfl, Nat.le_of_ble_eq_true rfl⟩ rfl rfl h0 rfl (Nat.le_of_ble_eq_true rfl) (by decide) hM (fun E n1 μ1 hE => ?_) ?_
  · obtain ⟨hn1, h101, hk⟩ := hq _ _ _ hE
    obtain rfl := hn1.symm
    rcases hk with ⟨r, h9⟩ | h9 | h9 | h9
    · cases h9
    · obtain rfl := Sum.inr.inj h9
      refine ax_c (q := 19) (E := IX) [] [(0, 14, 21, 21), (0, 14, 25, 13)] ((0, 14, 17, 19) : Nat × Nat × Nat × Nat) rfl (fun y hy => by cases hy) (by decide) (by decide) cx_IX cs_IX (Or.inr ⟨6, dL_place_17, by decide, rfl⟩) ?_
      refine aw_iconst (q := 20) dL_place_19 rfl (by omega) ?_
      exact aw_iret dL_place_20 rfl (by decide) (by decide) ⟨_, rfl, rfl, _, _, hE, Or.inr ⟨IX, 1, by simp, rfl, rfl, rfl⟩⟩
    · obtain rfl := Sum.inr.inj h9
      refine ax_c (q := 23) (E := IA) [(0, 14, 17, 19)] [(0, 14, 25, 13)] ((0, 14, 21, 21) : Nat × Nat × Nat × Nat) rfl (fun y hy => by simp only [List.mem_cons, List.not_mem_nil, or_false] at hy; rcases hy with rfl; exact ⟨by decide, _, cx_IX, by simp [ncs, IA]⟩) (by decide) (by decide) cx_IA cs_IA (Or.inr ⟨6, dL_place_21, by decide, rfl⟩) ?_
      refine aw_iconst (q := 24) dL_place_23 rfl (by omega) ?_
      exact aw_iret dL_place_24 rfl (by decide) (by decide) ⟨_, rfl, rfl, _, _, hE, Or.inr ⟨IA, 2, by simp, rfl, rfl, rfl⟩⟩
    · obtain rfl := Sum.inr.inj h9
      refine ax_c (q := 27) (E := IS) [(0, 14, 17, 19), (0, 14, 21, 21)] [] ((0, 14, 25, 13) : Nat × Nat × Nat × Nat) rfl (fun y hy => by simp only [List.mem_cons, List.not_mem_nil, or_false] at hy; rcases hy with rfl | rfl; exact ⟨by decide, _, cx_IX, by simp [ncs, IS]⟩; exact ⟨by decide, _, cx_IA, by simp [ncs, IS]⟩) (by decide) (by decide) cx_IS cs_IS (Or.inr ⟨6, dL_place_25, by decide, rfl⟩) ?_
      refine aw_iconst (q := 28) dL_place_27 rfl (by omega) ?_
      exact aw_iret dL_place_28 rfl (by decide) (by decide) ⟨_, rfl, rfl, _, _, hE, Or.inr ⟨IS, 3, by simp, rfl, rfl, rfl⟩⟩
  · rintro v n1 μ1 - hE
    obtain ⟨hn1, h101, hk⟩ := hq _ _ _ hE
    obtain rfl := hn1.symm
    obtain ⟨r, hr⟩ : ∃ r : Int, v = some (vI r) := by rcases hk with ⟨r, h9⟩ | h9 | h9 | h9; exact ⟨r, Sum.inl.inj h9⟩; cases h9; cases h9; cases h9
    subst hr
    refine aw_i2l (q := 13) dL_place_12 rfl ?_
    refine aw_lastore (j := 0) (q := 14) dL_place_13 rfl h101 (by omega) (by omega) ?_
    refine aw_goto (q := 29) dL_place_14 (by decide) ?_
    refine aw_iconst (q := 30) dL_place_29 rfl (by omega) ?_
    exact aw_iret dL_place_30 rfl (by decide) (by decide) ⟨_, rfl, rfl, _, _, hE, Or.inl ⟨r, Or.inl rfl, rfl, rfl⟩⟩
set_option maxHeartbeats 4000000 in
set_option maxRecDepth 100000 in
theorem w_has {n : Nat} {μ : AH} {Q' : AQ} {fs : List AV} {o9 : Nat → Int} {i w : Int} (hM : AMet YX6_has [vR 0, vI (i), vI (w)] n μ Q') (h0 : μ 0 = oO 6 fs) (hq : ∀ (o : AOut) (n1 : Nat) (μ1 : AH), Q' o n1 μ1 → n1 = n ∧ μ1 101 = oL 1 o9 ∧ ((∃ r : Int, o = .inl (some (vI r))) ∨ o = .inr IX ∨ o = .inr IA)) : AMet YL_has [vR 0, vI (i), vI (w), vR 101] n μ (Rt (fun v n' μ' => n' = n ∧ ∃ (o : AOut) (μ1 : AH), Q' o n μ1 ∧ WR [(IX, 1), (IA, 2)] o9 o μ1 v μ')) := by
  refine AMet.ofH (by decide) (List.cons_ne_nil _ _) (Nat.le_of_ble_eq_true rfl) ?_
  refine aw_aload_n (q := 1) dL_has_0 rfl rfl rfl ?_
  refine aw_iconst (q := 2) dL_has_1 rfl (by omega) ?_
  refine aw_aload_n (q := 3) dL_has_2 rfl rfl rfl ?_
  refine aw_iload_n (q := 4) dL_has_3 rfl rfl rfl ?_
  refine aw_iload_n (q := 5) dL_has_4 rfl rfl rfl ?_
  refine aw_callVC [vI (i), vI (w)] (q := 8) dL_has_5 rfl ck_X6_has lk_L_23 rfl ⟨Nat.le_of_ble_eq_true rfl, Nat.le_of_ble_eq_true rfl⟩ rfl rfl h0 rfl (Nat.le_of_ble_eq_true rfl) (by decide) hM (fun E n1 μ1 hE => ?_) ?_
  · obtain ⟨hn1, h101, hk⟩ := hq _ _ _ hE
    obtain rfl := hn1.symm
    rcases hk with ⟨r, h9⟩ | h9 | h9
    · cases h9
    · obtain rfl := Sum.inr.inj h9
      refine ax_c (q := 15) (E := IX) [] [(0, 10, 17, 21)] ((0, 10, 13, 19) : Nat × Nat × Nat × Nat) rfl (fun y hy => by cases hy) (by decide) (by decide) cx_IX cs_IX (Or.inr ⟨4, dL_has_13, by decide, rfl⟩) ?_
      refine aw_iconst (q := 16) dL_has_15 rfl (by omega) ?_
      exact aw_iret dL_has_16 rfl (by decide) (by decide) ⟨_, rfl, rfl, _, _, hE, Or.inr ⟨IX, 1, by simp, rfl, rfl, rfl⟩⟩
    · obtain rfl := Sum.inr.inj h9
      refine ax_c (q := 19) (E := IA) [(0, 10, 13, 19)] [] ((0, 10, 17, 21) : Nat × Nat × Nat × Nat) rfl (fun y hy => by simp only [List.mem_cons, List.not_mem_nil, or_false] at hy; rcases hy with rfl; exact ⟨by decide, _, cx_IX, by simp [ncs, IA]⟩) (by decide) (by decide) cx_IA cs_IA (Or.inr ⟨4, dL_has_17, by decide, rfl⟩) ?_
      refine aw_iconst (q := 20) dL_has_19 rfl (by omega) ?_
      exact aw_iret dL_has_20 rfl (by decide) (by decide) ⟨_, rfl, rfl, _, _, hE, Or.inr ⟨IA, 2, by simp, rfl, rfl, rfl⟩⟩
  · rintro v n1 μ1 - hE
    obtain ⟨hn1, h101, hk⟩ := hq _ _ _ hE
    obtain rfl := hn1.symm
    obtain ⟨r, hr⟩ : ∃ r : Int, v = some (vI r) := by rcases hk with ⟨r, h9⟩ | h9 | h9; exact ⟨r, Sum.inl.inj h9⟩; cases h9; cases h9
    subst hr
    refine aw_i2l (q := 9) dL_has_8 rfl ?_
    refine aw_lastore (j := 0) (q := 10) dL_has_9 rfl h101 (by omega) (by omega) ?_
    refine aw_goto (q := 21) dL_has_10 (by decide) ?_
    refine aw_iconst (q := 22) dL_has_21 rfl (by omega) ?_
    exact aw_iret dL_has_22 rfl (by decide) (by decide) ⟨_, rfl, rfl, _, _, hE, Or.inl ⟨r, Or.inl rfl, rfl, rfl⟩⟩
set_option maxHeartbeats 4000000 in
set_option maxRecDepth 100000 in
theorem w_at {n : Nat} {μ : AH} {Q' : AQ} {fs : List AV} {o9 : Nat → Int} {i p w : Int} (hM : AMet YX6_at [vR 0, vI (i), vI (p), vI (w)] n μ Q') (h0 : μ 0 = oO 6 fs) (hq : ∀ (o : AOut) (n1 : Nat) (μ1 : AH), Q' o n1 μ1 → n1 = n ∧ μ1 101 = oL 1 o9 ∧ ((∃ r : Int, o = .inl (some (vI r))) ∨ o = .inr IX ∨ o = .inr IA)) : AMet YL_at [vR 0, vI (i), vI (p), vI (w), vR 101] n μ (Rt (fun v n' μ' => n' = n ∧ ∃ (o : AOut) (μ1 : AH), Q' o n μ1 ∧ WR [(IX, 1), (IA, 2)] o9 o μ1 v μ')) := by
  refine AMet.ofH (by decide) (List.cons_ne_nil _ _) (Nat.le_of_ble_eq_true rfl) ?_
  refine aw_aload (q := 2) dL_at_0 rfl rfl ?_
  refine aw_iconst (q := 3) dL_at_2 rfl (by omega) ?_
  refine aw_aload_n (q := 4) dL_at_3 rfl rfl rfl ?_
  refine aw_iload_n (q := 5) dL_at_4 rfl rfl rfl ?_
  refine aw_iload_n (q := 6) dL_at_5 rfl rfl rfl ?_
  refine aw_iload_n (q := 7) dL_at_6 rfl rfl rfl ?_
  refine aw_callVC [vI (i), vI (p), vI (w)] (q := 10) dL_at_7 rfl ck_X6_at lk_L_27 rfl ⟨Nat.le_of_ble_eq_true rfl, Nat.le_of_ble_eq_true rfl⟩ rfl rfl h0 rfl (Nat.le_of_ble_eq_true rfl) (by decide) hM (fun E n1 μ1 hE => ?_) ?_
  · obtain ⟨hn1, h101, hk⟩ := hq _ _ _ hE
    obtain rfl := hn1.symm
    rcases hk with ⟨r, h9⟩ | h9 | h9
    · cases h9
    · obtain rfl := Sum.inr.inj h9
      refine ax_c (q := 17) (E := IX) [] [(0, 12, 19, 21)] ((0, 12, 15, 19) : Nat × Nat × Nat × Nat) rfl (fun y hy => by cases hy) (by decide) (by decide) cx_IX cs_IX (Or.inr ⟨5, dL_at_15, by decide, rfl⟩) ?_
      refine aw_iconst (q := 18) dL_at_17 rfl (by omega) ?_
      exact aw_iret dL_at_18 rfl (by decide) (by decide) ⟨_, rfl, rfl, _, _, hE, Or.inr ⟨IX, 1, by simp, rfl, rfl, rfl⟩⟩
    · obtain rfl := Sum.inr.inj h9
      refine ax_c (q := 21) (E := IA) [(0, 12, 15, 19)] [] ((0, 12, 19, 21) : Nat × Nat × Nat × Nat) rfl (fun y hy => by simp only [List.mem_cons, List.not_mem_nil, or_false] at hy; rcases hy with rfl; exact ⟨by decide, _, cx_IX, by simp [ncs, IA]⟩) (by decide) (by decide) cx_IA cs_IA (Or.inr ⟨5, dL_at_19, by decide, rfl⟩) ?_
      refine aw_iconst (q := 22) dL_at_21 rfl (by omega) ?_
      exact aw_iret dL_at_22 rfl (by decide) (by decide) ⟨_, rfl, rfl, _, _, hE, Or.inr ⟨IA, 2, by simp, rfl, rfl, rfl⟩⟩
  · rintro v n1 μ1 - hE
    obtain ⟨hn1, h101, hk⟩ := hq _ _ _ hE
    obtain rfl := hn1.symm
    obtain ⟨r, hr⟩ : ∃ r : Int, v = some (vI r) := by rcases hk with ⟨r, h9⟩ | h9 | h9; exact ⟨r, Sum.inl.inj h9⟩; cases h9; cases h9
    subst hr
    refine aw_i2l (q := 11) dL_at_10 rfl ?_
    refine aw_lastore (j := 0) (q := 12) dL_at_11 rfl h101 (by omega) (by omega) ?_
    refine aw_goto (q := 23) dL_at_12 (by decide) ?_
    refine aw_iconst (q := 24) dL_at_23 rfl (by omega) ?_
    exact aw_iret dL_at_24 rfl (by decide) (by decide) ⟨_, rfl, rfl, _, _, hE, Or.inl ⟨r, Or.inl rfl, rfl, rfl⟩⟩
set_option maxHeartbeats 4000000 in
set_option maxRecDepth 100000 in
theorem w_mark {n : Nat} {μ : AH} {Q' : AQ} {fs : List AV} {o9 : Nat → Int} {i s t : Int} (hM : AMet YX6_mark [vR 0, vI (i), vI (s), vI (t)] n μ Q') (h0 : μ 0 = oO 6 fs) (hq : ∀ (o : AOut) (n1 : Nat) (μ1 : AH), Q' o n1 μ1 → n1 = n ∧ μ1 101 = oL 1 o9 ∧ ((∃ r : Int, o = .inl (some (vI r))) ∨ o = .inr IX ∨ o = .inr IA ∨ o = .inr IS)) : AMet YL_mark [vR 0, vI (i), vI (s), vI (t), vR 101] n μ (Rt (fun v n' μ' => n' = n ∧ ∃ (o : AOut) (μ1 : AH), Q' o n μ1 ∧ WR [(IX, 1), (IA, 2), (IS, 3)] o9 o μ1 v μ')) := by
  refine AMet.ofH (by decide) (List.cons_ne_nil _ _) (Nat.le_of_ble_eq_true rfl) ?_
  refine aw_aload (q := 2) dL_mark_0 rfl rfl ?_
  refine aw_iconst (q := 3) dL_mark_2 rfl (by omega) ?_
  refine aw_aload_n (q := 4) dL_mark_3 rfl rfl rfl ?_
  refine aw_iload_n (q := 5) dL_mark_4 rfl rfl rfl ?_
  refine aw_iload_n (q := 6) dL_mark_5 rfl rfl rfl ?_
  refine aw_iload_n (q := 7) dL_mark_6 rfl rfl rfl ?_
  refine aw_callVC [vI (i), vI (s), vI (t)] (q := 10) dL_mark_7 rfl ck_X6_mark lk_L_31 rfl ⟨Nat.le_of_ble_eq_true rfl, Nat.le_of_ble_eq_true rfl⟩ rfl rfl h0 rfl (Nat.le_of_ble_eq_true rfl) (by decide) hM (fun E n1 μ1 hE => ?_) ?_
  · obtain ⟨hn1, h101, hk⟩ := hq _ _ _ hE
    obtain rfl := hn1.symm
    rcases hk with ⟨r, h9⟩ | h9 | h9 | h9
    · cases h9
    · obtain rfl := Sum.inr.inj h9
      refine ax_c (q := 17) (E := IX) [] [(0, 12, 19, 21), (0, 12, 23, 13)] ((0, 12, 15, 19) : Nat × Nat × Nat × Nat) rfl (fun y hy => by cases hy) (by decide) (by decide) cx_IX cs_IX (Or.inr ⟨5, dL_mark_15, by decide, rfl⟩) ?_
      refine aw_iconst (q := 18) dL_mark_17 rfl (by omega) ?_
      exact aw_iret dL_mark_18 rfl (by decide) (by decide) ⟨_, rfl, rfl, _, _, hE, Or.inr ⟨IX, 1, by simp, rfl, rfl, rfl⟩⟩
    · obtain rfl := Sum.inr.inj h9
      refine ax_c (q := 21) (E := IA) [(0, 12, 15, 19)] [(0, 12, 23, 13)] ((0, 12, 19, 21) : Nat × Nat × Nat × Nat) rfl (fun y hy => by simp only [List.mem_cons, List.not_mem_nil, or_false] at hy; rcases hy with rfl; exact ⟨by decide, _, cx_IX, by simp [ncs, IA]⟩) (by decide) (by decide) cx_IA cs_IA (Or.inr ⟨5, dL_mark_19, by decide, rfl⟩) ?_
      refine aw_iconst (q := 22) dL_mark_21 rfl (by omega) ?_
      exact aw_iret dL_mark_22 rfl (by decide) (by decide) ⟨_, rfl, rfl, _, _, hE, Or.inr ⟨IA, 2, by simp, rfl, rfl, rfl⟩⟩
    · obtain rfl := Sum.inr.inj h9
      refine ax_c (q := 25) (E := IS) [(0, 12, 15, 19), (0, 12, 19, 21)] [] ((0, 12, 23, 13) : Nat × Nat × Nat × Nat) rfl (fun y hy => by simp only [List.mem_cons, List.not_mem_nil, or_false] at hy; rcases hy with rfl | rfl; exact ⟨by decide, _, cx_IX, by simp [ncs, IS]⟩; exact ⟨by decide, _, cx_IA, by simp [ncs, IS]⟩) (by decide) (by decide) cx_IS cs_IS (Or.inr ⟨5, dL_mark_23, by decide, rfl⟩) ?_
      refine aw_iconst (q := 26) dL_mark_25 rfl (by omega) ?_
      exact aw_iret dL_mark_26 rfl (by decide) (by decide) ⟨_, rfl, rfl, _, _, hE, Or.inr ⟨IS, 3, by simp, rfl, rfl, rfl⟩⟩
  · rintro v n1 μ1 - hE
    obtain ⟨hn1, h101, hk⟩ := hq _ _ _ hE
    obtain rfl := hn1.symm
    obtain ⟨r, hr⟩ : ∃ r : Int, v = some (vI r) := by rcases hk with ⟨r, h9⟩ | h9 | h9 | h9; exact ⟨r, Sum.inl.inj h9⟩; cases h9; cases h9; cases h9
    subst hr
    refine aw_i2l (q := 11) dL_mark_10 rfl ?_
    refine aw_lastore (j := 0) (q := 12) dL_mark_11 rfl h101 (by omega) (by omega) ?_
    refine aw_goto (q := 27) dL_mark_12 (by decide) ?_
    refine aw_iconst (q := 28) dL_mark_27 rfl (by omega) ?_
    exact aw_iret dL_mark_28 rfl (by decide) (by decide) ⟨_, rfl, rfl, _, _, hE, Or.inl ⟨r, Or.inl rfl, rfl, rfl⟩⟩
set_option maxHeartbeats 4000000 in
set_option maxRecDepth 100000 in
theorem w_time {n : Nat} {μ : AH} {Q' : AQ} {fs : List AV} {o9 : Nat → Int} {i s : Int} (hM : AMet YX6_time [vR 0, vI (i), vI (s)] n μ Q') (h0 : μ 0 = oO 6 fs) (hq : ∀ (o : AOut) (n1 : Nat) (μ1 : AH), Q' o n1 μ1 → n1 = n ∧ μ1 101 = oL 1 o9 ∧ ((∃ r : Int, o = .inl (some (vI r))) ∨ o = .inr IX ∨ o = .inr IA)) : AMet YL_time [vR 0, vI (i), vI (s), vR 101] n μ (Rt (fun v n' μ' => n' = n ∧ ∃ (o : AOut) (μ1 : AH), Q' o n μ1 ∧ WR [(IX, 1), (IA, 2)] o9 o μ1 v μ')) := by
  refine AMet.ofH (by decide) (List.cons_ne_nil _ _) (Nat.le_of_ble_eq_true rfl) ?_
  refine aw_aload_n (q := 1) dL_time_0 rfl rfl rfl ?_
  refine aw_iconst (q := 2) dL_time_1 rfl (by omega) ?_
  refine aw_aload_n (q := 3) dL_time_2 rfl rfl rfl ?_
  refine aw_iload_n (q := 4) dL_time_3 rfl rfl rfl ?_
  refine aw_iload_n (q := 5) dL_time_4 rfl rfl rfl ?_
  refine aw_callVC [vI (i), vI (s)] (q := 8) dL_time_5 rfl ck_X6_time lk_L_34 rfl ⟨Nat.le_of_ble_eq_true rfl, Nat.le_of_ble_eq_true rfl⟩ rfl rfl h0 rfl (Nat.le_of_ble_eq_true rfl) (by decide) hM (fun E n1 μ1 hE => ?_) ?_
  · obtain ⟨hn1, h101, hk⟩ := hq _ _ _ hE
    obtain rfl := hn1.symm
    rcases hk with ⟨r, h9⟩ | h9 | h9
    · cases h9
    · obtain rfl := Sum.inr.inj h9
      refine ax_c (q := 15) (E := IX) [] [(0, 10, 17, 21)] ((0, 10, 13, 19) : Nat × Nat × Nat × Nat) rfl (fun y hy => by cases hy) (by decide) (by decide) cx_IX cs_IX (Or.inr ⟨4, dL_time_13, by decide, rfl⟩) ?_
      refine aw_iconst (q := 16) dL_time_15 rfl (by omega) ?_
      exact aw_iret dL_time_16 rfl (by decide) (by decide) ⟨_, rfl, rfl, _, _, hE, Or.inr ⟨IX, 1, by simp, rfl, rfl, rfl⟩⟩
    · obtain rfl := Sum.inr.inj h9
      refine ax_c (q := 19) (E := IA) [(0, 10, 13, 19)] [] ((0, 10, 17, 21) : Nat × Nat × Nat × Nat) rfl (fun y hy => by simp only [List.mem_cons, List.not_mem_nil, or_false] at hy; rcases hy with rfl; exact ⟨by decide, _, cx_IX, by simp [ncs, IA]⟩) (by decide) (by decide) cx_IA cs_IA (Or.inr ⟨4, dL_time_17, by decide, rfl⟩) ?_
      refine aw_iconst (q := 20) dL_time_19 rfl (by omega) ?_
      exact aw_iret dL_time_20 rfl (by decide) (by decide) ⟨_, rfl, rfl, _, _, hE, Or.inr ⟨IA, 2, by simp, rfl, rfl, rfl⟩⟩
  · rintro v n1 μ1 - hE
    obtain ⟨hn1, h101, hk⟩ := hq _ _ _ hE
    obtain rfl := hn1.symm
    obtain ⟨r, hr⟩ : ∃ r : Int, v = some (vI r) := by rcases hk with ⟨r, h9⟩ | h9 | h9; exact ⟨r, Sum.inl.inj h9⟩; cases h9; cases h9
    subst hr
    refine aw_i2l (q := 9) dL_time_8 rfl ?_
    refine aw_lastore (j := 0) (q := 10) dL_time_9 rfl h101 (by omega) (by omega) ?_
    refine aw_goto (q := 21) dL_time_10 (by decide) ?_
    refine aw_iconst (q := 22) dL_time_21 rfl (by omega) ?_
    exact aw_iret dL_time_22 rfl (by decide) (by decide) ⟨_, rfl, rfl, _, _, hE, Or.inl ⟨r, Or.inl rfl, rfl, rfl⟩⟩
set_option maxHeartbeats 4000000 in
set_option maxRecDepth 100000 in
theorem w_speed {n : Nat} {μ : AH} {Q' : AQ} {fs : List AV} {o9 : Nat → Int} {x : Int} (hM : AMet YX6_speed [vR 0, vI (x)] n μ Q') (h0 : μ 0 = oO 6 fs) (hq : ∀ (o : AOut) (n1 : Nat) (μ1 : AH), Q' o n1 μ1 → n1 = n ∧ μ1 101 = oL 1 o9 ∧ ((∃ r : Int, o = .inl (some (vI r))) ∨ o = .inr IA)) : AMet YL_speed [vR 0, vI (x), vR 101] n μ (Rt (fun v n' μ' => n' = n ∧ ∃ (o : AOut) (μ1 : AH), Q' o n μ1 ∧ WR [(IA, 1)] o9 o μ1 v μ')) := by
  refine AMet.ofH (by decide) (List.cons_ne_nil _ _) (Nat.le_of_ble_eq_true rfl) ?_
  refine aw_aload_n (q := 1) dL_speed_0 rfl rfl rfl ?_
  refine aw_iconst (q := 2) dL_speed_1 rfl (by omega) ?_
  refine aw_aload_n (q := 3) dL_speed_2 rfl rfl rfl ?_
  refine aw_iload_n (q := 4) dL_speed_3 rfl rfl rfl ?_
  refine aw_callVC [vI (x)] (q := 7) dL_speed_4 rfl ck_X6_speed lk_L_37 rfl ⟨Nat.le_of_ble_eq_true rfl, Nat.le_of_ble_eq_true rfl⟩ rfl rfl h0 rfl (Nat.le_of_ble_eq_true rfl) (by decide) hM (fun E n1 μ1 hE => ?_) ?_
  · obtain ⟨hn1, h101, hk⟩ := hq _ _ _ hE
    obtain rfl := hn1.symm
    rcases hk with ⟨r, h9⟩ | h9
    · cases h9
    · obtain rfl := Sum.inr.inj h9
      refine ax_c (q := 13) (E := IA) [] [] ((0, 9, 12, 21) : Nat × Nat × Nat × Nat) rfl (fun y hy => by cases hy) (by decide) (by decide) cx_IA cs_IA (Or.inl ⟨3, dL_speed_12, by decide, rfl⟩) ?_
      refine aw_iconst (q := 14) dL_speed_13 rfl (by omega) ?_
      exact aw_iret dL_speed_14 rfl (by decide) (by decide) ⟨_, rfl, rfl, _, _, hE, Or.inr ⟨IA, 1, by simp, rfl, rfl, rfl⟩⟩
  · rintro v n1 μ1 - hE
    obtain ⟨hn1, h101, hk⟩ := hq _ _ _ hE
    obtain rfl := hn1.symm
    obtain ⟨r, hr⟩ : ∃ r : Int, v = some (vI r) := by rcases hk with ⟨r, h9⟩ | h9; exact ⟨r, Sum.inl.inj h9⟩; cases h9
    subst hr
    refine aw_i2l (q := 8) dL_speed_7 rfl ?_
    refine aw_lastore (j := 0) (q := 9) dL_speed_8 rfl h101 (by omega) (by omega) ?_
    refine aw_goto (q := 15) dL_speed_9 (by decide) ?_
    refine aw_iconst (q := 16) dL_speed_15 rfl (by omega) ?_
    exact aw_iret dL_speed_16 rfl (by decide) (by decide) ⟨_, rfl, rfl, _, _, hE, Or.inl ⟨r, Or.inl rfl, rfl, rfl⟩⟩
set_option maxHeartbeats 4000000 in
set_option maxRecDepth 100000 in
theorem w_limit {n : Nat} {μ : AH} {Q' : AQ} {fs : List AV} {o9 : Nat → Int} {x : Int} (hM : AMet YX6_limit [vR 0, vI (x)] n μ Q') (h0 : μ 0 = oO 6 fs) (hq : ∀ (o : AOut) (n1 : Nat) (μ1 : AH), Q' o n1 μ1 → n1 = n ∧ μ1 101 = oL 1 o9 ∧ ((∃ r : Int, o = .inl (some (vI r))) ∨ o = .inr IA)) : AMet YL_limit [vR 0, vI (x), vR 101] n μ (Rt (fun v n' μ' => n' = n ∧ ∃ (o : AOut) (μ1 : AH), Q' o n μ1 ∧ WR [(IA, 1)] o9 o μ1 v μ')) := by
  refine AMet.ofH (by decide) (List.cons_ne_nil _ _) (Nat.le_of_ble_eq_true rfl) ?_
  refine aw_aload_n (q := 1) dL_limit_0 rfl rfl rfl ?_
  refine aw_iconst (q := 2) dL_limit_1 rfl (by omega) ?_
  refine aw_aload_n (q := 3) dL_limit_2 rfl rfl rfl ?_
  refine aw_iload_n (q := 4) dL_limit_3 rfl rfl rfl ?_
  refine aw_callVC [vI (x)] (q := 7) dL_limit_4 rfl ck_X6_limit lk_L_41 rfl ⟨Nat.le_of_ble_eq_true rfl, Nat.le_of_ble_eq_true rfl⟩ rfl rfl h0 rfl (Nat.le_of_ble_eq_true rfl) (by decide) hM (fun E n1 μ1 hE => ?_) ?_
  · obtain ⟨hn1, h101, hk⟩ := hq _ _ _ hE
    obtain rfl := hn1.symm
    rcases hk with ⟨r, h9⟩ | h9
    · cases h9
    · obtain rfl := Sum.inr.inj h9
      refine ax_c (q := 13) (E := IA) [] [] ((0, 9, 12, 21) : Nat × Nat × Nat × Nat) rfl (fun y hy => by cases hy) (by decide) (by decide) cx_IA cs_IA (Or.inl ⟨3, dL_limit_12, by decide, rfl⟩) ?_
      refine aw_iconst (q := 14) dL_limit_13 rfl (by omega) ?_
      exact aw_iret dL_limit_14 rfl (by decide) (by decide) ⟨_, rfl, rfl, _, _, hE, Or.inr ⟨IA, 1, by simp, rfl, rfl, rfl⟩⟩
  · rintro v n1 μ1 - hE
    obtain ⟨hn1, h101, hk⟩ := hq _ _ _ hE
    obtain rfl := hn1.symm
    obtain ⟨r, hr⟩ : ∃ r : Int, v = some (vI r) := by rcases hk with ⟨r, h9⟩ | h9; exact ⟨r, Sum.inl.inj h9⟩; cases h9
    subst hr
    refine aw_i2l (q := 8) dL_limit_7 rfl ?_
    refine aw_lastore (j := 0) (q := 9) dL_limit_8 rfl h101 (by omega) (by omega) ?_
    refine aw_goto (q := 15) dL_limit_9 (by decide) ?_
    refine aw_iconst (q := 16) dL_limit_15 rfl (by omega) ?_
    exact aw_iret dL_limit_16 rfl (by decide) (by decide) ⟨_, rfl, rfl, _, _, hE, Or.inl ⟨r, Or.inl rfl, rfl, rfl⟩⟩
set_option maxHeartbeats 4000000 in
set_option maxRecDepth 100000 in
theorem w_jump {n : Nat} {μ : AH} {Q' : AQ} {fs : List AV} {o9 : Nat → Int} {i k : Int} (hM : AMet YX6_jump [vR 0, vI (i), vI (k)] n μ Q') (h0 : μ 0 = oO 6 fs) (hq : ∀ (o : AOut) (n1 : Nat) (μ1 : AH), Q' o n1 μ1 → n1 = n ∧ μ1 101 = oL 1 o9 ∧ ((∃ r : Int, o = .inl (some (vI r))) ∨ o = .inr IX)) : AMet YL_jump [vR 0, vI (i), vI (k), vR 101] n μ (Rt (fun v n' μ' => n' = n ∧ ∃ (o : AOut) (μ1 : AH), Q' o n μ1 ∧ WR [(IX, 1)] o9 o μ1 v μ')) := by
  refine AMet.ofH (by decide) (List.cons_ne_nil _ _) (Nat.le_of_ble_eq_true rfl) ?_
  refine aw_aload_n (q := 1) dL_jump_0 rfl rfl rfl ?_
  refine aw_iconst (q := 2) dL_jump_1 rfl (by omega) ?_
  refine aw_aload_n (q := 3) dL_jump_2 rfl rfl rfl ?_
  refine aw_iload_n (q := 4) dL_jump_3 rfl rfl rfl ?_
  refine aw_iload_n (q := 5) dL_jump_4 rfl rfl rfl ?_
  refine aw_callVC [vI (i), vI (k)] (q := 8) dL_jump_5 rfl ck_X6_jump lk_L_44 rfl ⟨Nat.le_of_ble_eq_true rfl, Nat.le_of_ble_eq_true rfl⟩ rfl rfl h0 rfl (Nat.le_of_ble_eq_true rfl) (by decide) hM (fun E n1 μ1 hE => ?_) ?_
  · obtain ⟨hn1, h101, hk⟩ := hq _ _ _ hE
    obtain rfl := hn1.symm
    rcases hk with ⟨r, h9⟩ | h9
    · cases h9
    · obtain rfl := Sum.inr.inj h9
      refine ax_c (q := 15) (E := IX) [] [] ((0, 10, 13, 19) : Nat × Nat × Nat × Nat) rfl (fun y hy => by cases hy) (by decide) (by decide) cx_IX cs_IX (Or.inr ⟨4, dL_jump_13, by decide, rfl⟩) ?_
      refine aw_iconst (q := 16) dL_jump_15 rfl (by omega) ?_
      exact aw_iret dL_jump_16 rfl (by decide) (by decide) ⟨_, rfl, rfl, _, _, hE, Or.inr ⟨IX, 1, by simp, rfl, rfl, rfl⟩⟩
  · rintro v n1 μ1 - hE
    obtain ⟨hn1, h101, hk⟩ := hq _ _ _ hE
    obtain rfl := hn1.symm
    obtain ⟨r, hr⟩ : ∃ r : Int, v = some (vI r) := by rcases hk with ⟨r, h9⟩ | h9; exact ⟨r, Sum.inl.inj h9⟩; cases h9
    subst hr
    refine aw_i2l (q := 9) dL_jump_8 rfl ?_
    refine aw_lastore (j := 0) (q := 10) dL_jump_9 rfl h101 (by omega) (by omega) ?_
    refine aw_goto (q := 17) dL_jump_10 (by decide) ?_
    refine aw_iconst (q := 18) dL_jump_17 rfl (by omega) ?_
    exact aw_iret dL_jump_18 rfl (by decide) (by decide) ⟨_, rfl, rfl, _, _, hE, Or.inl ⟨r, Or.inl rfl, rfl, rfl⟩⟩
set_option maxHeartbeats 4000000 in
set_option maxRecDepth 100000 in
theorem w_gap {n : Nat} {μ : AH} {Q' : AQ} {fs : List AV} {o9 : Nat → Int} {i k : Int} (hM : AMet YX6_gap [vR 0, vI (i), vI (k)] n μ Q') (h0 : μ 0 = oO 6 fs) (hq : ∀ (o : AOut) (n1 : Nat) (μ1 : AH), Q' o n1 μ1 → n1 = n ∧ μ1 101 = oL 1 o9 ∧ ((∃ r : Int, o = .inl (some (vI r))) ∨ o = .inr IX)) : AMet YL_gap [vR 0, vI (i), vI (k), vR 101] n μ (Rt (fun v n' μ' => n' = n ∧ ∃ (o : AOut) (μ1 : AH), Q' o n μ1 ∧ WR [(IX, 1)] o9 o μ1 v μ')) := by
  refine AMet.ofH (by decide) (List.cons_ne_nil _ _) (Nat.le_of_ble_eq_true rfl) ?_
  refine aw_aload_n (q := 1) dL_gap_0 rfl rfl rfl ?_
  refine aw_iconst (q := 2) dL_gap_1 rfl (by omega) ?_
  refine aw_aload_n (q := 3) dL_gap_2 rfl rfl rfl ?_
  refine aw_iload_n (q := 4) dL_gap_3 rfl rfl rfl ?_
  refine aw_iload_n (q := 5) dL_gap_4 rfl rfl rfl ?_
  refine aw_callVC [vI (i), vI (k)] (q := 8) dL_gap_5 rfl ck_X6_gap lk_L_47 rfl ⟨Nat.le_of_ble_eq_true rfl, Nat.le_of_ble_eq_true rfl⟩ rfl rfl h0 rfl (Nat.le_of_ble_eq_true rfl) (by decide) hM (fun E n1 μ1 hE => ?_) ?_
  · obtain ⟨hn1, h101, hk⟩ := hq _ _ _ hE
    obtain rfl := hn1.symm
    rcases hk with ⟨r, h9⟩ | h9
    · cases h9
    · obtain rfl := Sum.inr.inj h9
      refine ax_c (q := 15) (E := IX) [] [] ((0, 10, 13, 19) : Nat × Nat × Nat × Nat) rfl (fun y hy => by cases hy) (by decide) (by decide) cx_IX cs_IX (Or.inr ⟨4, dL_gap_13, by decide, rfl⟩) ?_
      refine aw_iconst (q := 16) dL_gap_15 rfl (by omega) ?_
      exact aw_iret dL_gap_16 rfl (by decide) (by decide) ⟨_, rfl, rfl, _, _, hE, Or.inr ⟨IX, 1, by simp, rfl, rfl, rfl⟩⟩
  · rintro v n1 μ1 - hE
    obtain ⟨hn1, h101, hk⟩ := hq _ _ _ hE
    obtain rfl := hn1.symm
    obtain ⟨r, hr⟩ : ∃ r : Int, v = some (vI r) := by rcases hk with ⟨r, h9⟩ | h9; exact ⟨r, Sum.inl.inj h9⟩; cases h9
    subst hr
    refine aw_i2l (q := 9) dL_gap_8 rfl ?_
    refine aw_lastore (j := 0) (q := 10) dL_gap_9 rfl h101 (by omega) (by omega) ?_
    refine aw_goto (q := 17) dL_gap_10 (by decide) ?_
    refine aw_iconst (q := 18) dL_gap_17 rfl (by omega) ?_
    exact aw_iret dL_gap_18 rfl (by decide) (by decide) ⟨_, rfl, rfl, _, _, hE, Or.inl ⟨r, Or.inl rfl, rfl, rfl⟩⟩
set_option maxHeartbeats 4000000 in
set_option maxRecDepth 100000 in
theorem w_could {n : Nat} {μ : AH} {Q' : AQ} {fs : List AV} {o9 : Nat → Int} {i k a b : Int} (hM : AMet YX6_could [vR 0, vI (i), vI (k), vI (a), vI (b)] n μ Q') (h0 : μ 0 = oO 6 fs) (hq : ∀ (o : AOut) (n1 : Nat) (μ1 : AH), Q' o n1 μ1 → n1 = n ∧ μ1 101 = oL 1 o9 ∧ ((∃ r : Int, o = .inl (some (vI r)) ∧ (r = 0 ∨ r = 1)) ∨ o = .inr IX ∨ o = .inr IA)) : AMet YL_could [vR 0, vI (i), vI (k), vI (a), vI (b), vR 101] n μ (Rt (fun v n' μ' => n' = n ∧ ∃ (o : AOut) (μ1 : AH), Q' o n μ1 ∧ WR [(IX, 1), (IA, 2)] o9 o μ1 v μ')) := by
  refine AMet.ofH (by decide) (List.cons_ne_nil _ _) (Nat.le_of_ble_eq_true rfl) ?_
  refine aw_aload (q := 2) dL_could_0 rfl rfl ?_
  refine aw_iconst (q := 3) dL_could_2 rfl (by omega) ?_
  refine aw_aload_n (q := 4) dL_could_3 rfl rfl rfl ?_
  refine aw_iload_n (q := 5) dL_could_4 rfl rfl rfl ?_
  refine aw_iload_n (q := 6) dL_could_5 rfl rfl rfl ?_
  refine aw_iload_n (q := 7) dL_could_6 rfl rfl rfl ?_
  refine aw_iload (q := 9) dL_could_7 rfl rfl ?_
  refine aw_callVC [vI (i), vI (k), vI (a), vI (b)] (q := 12) dL_could_9 rfl ck_X6_could lk_L_50 rfl ⟨Nat.le_of_ble_eq_true rfl, Nat.le_of_ble_eq_true rfl⟩ rfl rfl h0 rfl (Nat.le_of_ble_eq_true rfl) (by decide) hM (fun E n1 μ1 hE => ?_) ?_
  · obtain ⟨hn1, h101, hk⟩ := hq _ _ _ hE
    obtain rfl := hn1.symm
    rcases hk with ⟨r, h9, _⟩ | h9 | h9
    · cases h9
    · obtain rfl := Sum.inr.inj h9
      refine ax_c (q := 26) (E := IX) [] [(0, 21, 28, 21)] ((0, 21, 24, 19) : Nat × Nat × Nat × Nat) rfl (fun y hy => by cases hy) (by decide) (by decide) cx_IX cs_IX (Or.inr ⟨6, dL_could_24, by decide, rfl⟩) ?_
      refine aw_iconst (q := 27) dL_could_26 rfl (by omega) ?_
      exact aw_iret dL_could_27 rfl (by decide) (by decide) ⟨_, rfl, rfl, _, _, hE, Or.inr ⟨IX, 1, by simp, rfl, rfl, rfl⟩⟩
    · obtain rfl := Sum.inr.inj h9
      refine ax_c (q := 30) (E := IA) [(0, 21, 24, 19)] [] ((0, 21, 28, 21) : Nat × Nat × Nat × Nat) rfl (fun y hy => by simp only [List.mem_cons, List.not_mem_nil, or_false] at hy; rcases hy with rfl; exact ⟨by decide, _, cx_IX, by simp [ncs, IA]⟩) (by decide) (by decide) cx_IA cs_IA (Or.inr ⟨6, dL_could_28, by decide, rfl⟩) ?_
      refine aw_iconst (q := 31) dL_could_30 rfl (by omega) ?_
      exact aw_iret dL_could_31 rfl (by decide) (by decide) ⟨_, rfl, rfl, _, _, hE, Or.inr ⟨IA, 2, by simp, rfl, rfl, rfl⟩⟩
  · rintro v n1 μ1 - hE
    obtain ⟨hn1, h101, hk⟩ := hq _ _ _ hE
    obtain rfl := hn1.symm
    obtain ⟨r, hr, hr01⟩ : ∃ r : Int, v = some (vI r) ∧ (r = 0 ∨ r = 1) := by rcases hk with ⟨r, h9, h8⟩ | h9 | h9; exact ⟨r, Sum.inl.inj h9, h8⟩; cases h9; cases h9
    subst hr
    refine aw_if_eq (t := 19) (q := 15) dL_could_12 rfl (by decide) (fun bc1 => ?_) (fun bc1 => ?_)
    · skip
      refine aw_lconst (a := 0) (q := 20) dL_could_19 rfl rfl (by omega) ?_
      refine aw_lastore (j := 0) (q := 21) dL_could_20 rfl h101 (by omega) (by omega) ?_
      refine aw_goto (q := 32) dL_could_21 (by decide) ?_
      refine aw_iconst (q := 33) dL_could_32 rfl (by omega) ?_
      exact aw_iret dL_could_33 rfl (by decide) (by decide) ⟨_, rfl, rfl, _, _, hE, Or.inl ⟨r, Or.inl rfl, rfl, by rw [show r = 0 by assumption]⟩⟩
    · skip
      refine aw_lconst (a := 1) (q := 16) dL_could_15 rfl rfl (by omega) ?_
      refine aw_goto (q := 20) dL_could_16 (by decide) ?_
      refine aw_lastore (j := 0) (q := 21) dL_could_20 rfl h101 (by omega) (by omega) ?_
      refine aw_goto (q := 32) dL_could_21 (by decide) ?_
      refine aw_iconst (q := 33) dL_could_32 rfl (by omega) ?_
      exact aw_iret dL_could_33 rfl (by decide) (by decide) ⟨_, rfl, rfl, _, _, hE, Or.inl ⟨r, Or.inl rfl, rfl, by rw [show r = 1 from hr01.resolve_left (by assumption)]⟩⟩
set_option maxHeartbeats 4000000 in
set_option maxRecDepth 100000 in
theorem w_fence {n : Nat} {μ : AH} {Q' : AQ} {fs : List AV} {o9 : Nat → Int}  (hM : AMet YX6_fence [vR 0] n μ Q') (h0 : μ 0 = oO 6 fs) (hq : ∀ (o : AOut) (n1 : Nat) (μ1 : AH), Q' o n1 μ1 → n1 = n ∧ μ1 101 = oL 1 o9 ∧ ((∃ r : Int, o = .inl (some (vI r))) ∨ o = .inr IS)) : AMet YL_fence [vR 0, vR 101] n μ (Rt (fun v n' μ' => n' = n ∧ ∃ (o : AOut) (μ1 : AH), Q' o n μ1 ∧ WR [(IS, 1)] o9 o μ1 v μ')) := by
  refine AMet.ofH (by decide) (List.cons_ne_nil _ _) (Nat.le_of_ble_eq_true rfl) ?_
  refine aw_aload_n (q := 1) dL_fence_0 rfl rfl rfl ?_
  refine aw_iconst (q := 2) dL_fence_1 rfl (by omega) ?_
  refine aw_aload_n (q := 3) dL_fence_2 rfl rfl rfl ?_
  refine aw_callVC [] (q := 6) dL_fence_3 rfl ck_X6_fence lk_L_54 rfl ⟨Nat.le_of_ble_eq_true rfl, Nat.le_of_ble_eq_true rfl⟩ rfl rfl h0 rfl (Nat.le_of_ble_eq_true rfl) (by decide) hM (fun E n1 μ1 hE => ?_) ?_
  · obtain ⟨hn1, h101, hk⟩ := hq _ _ _ hE
    obtain rfl := hn1.symm
    rcases hk with ⟨r, h9⟩ | h9
    · cases h9
    · obtain rfl := Sum.inr.inj h9
      refine ax_c (q := 12) (E := IS) [] [] ((0, 8, 11, 13) : Nat × Nat × Nat × Nat) rfl (fun y hy => by cases hy) (by decide) (by decide) cx_IS cs_IS (Or.inl ⟨2, dL_fence_11, by decide, rfl⟩) ?_
      refine aw_iconst (q := 13) dL_fence_12 rfl (by omega) ?_
      exact aw_iret dL_fence_13 rfl (by decide) (by decide) ⟨_, rfl, rfl, _, _, hE, Or.inr ⟨IS, 1, by simp, rfl, rfl, rfl⟩⟩
  · rintro v n1 μ1 - hE
    obtain ⟨hn1, h101, hk⟩ := hq _ _ _ hE
    obtain rfl := hn1.symm
    obtain ⟨r, hr⟩ : ∃ r : Int, v = some (vI r) := by rcases hk with ⟨r, h9⟩ | h9; exact ⟨r, Sum.inl.inj h9⟩; cases h9
    subst hr
    refine aw_i2l (q := 7) dL_fence_6 rfl ?_
    refine aw_lastore (j := 0) (q := 8) dL_fence_7 rfl h101 (by omega) (by omega) ?_
    refine aw_goto (q := 14) dL_fence_8 (by decide) ?_
    refine aw_iconst (q := 15) dL_fence_14 rfl (by omega) ?_
    exact aw_iret dL_fence_15 rfl (by decide) (by decide) ⟨_, rfl, rfl, _, _, hE, Or.inl ⟨r, Or.inl rfl, rfl, rfl⟩⟩
set_option maxHeartbeats 4000000 in
set_option maxRecDepth 100000 in
theorem w_corner {n : Nat} {μ : AH} {Q' : AQ} {fs : List AV} {o9 : Nat → Int} {j x y : Int} (hM : AMet YX6_corner [vR 0, vI (j), vI (x), vI (y)] n μ Q') (h0 : μ 0 = oO 6 fs) (hq : ∀ (o : AOut) (n1 : Nat) (μ1 : AH), Q' o n1 μ1 → n1 = n ∧ μ1 101 = oL 1 o9 ∧ ((∃ r : Int, o = .inl (some (vI r))) ∨ o = .inr IX ∨ o = .inr IA ∨ o = .inr IS)) : AMet YL_corner [vR 0, vI (j), vI (x), vI (y), vR 101] n μ (Rt (fun v n' μ' => n' = n ∧ ∃ (o : AOut) (μ1 : AH), Q' o n μ1 ∧ WR [(IX, 1), (IA, 2), (IS, 3)] o9 o μ1 v μ')) := by
  refine AMet.ofH (by decide) (List.cons_ne_nil _ _) (Nat.le_of_ble_eq_true rfl) ?_
  refine aw_aload (q := 2) dL_corner_0 rfl rfl ?_
  refine aw_iconst (q := 3) dL_corner_2 rfl (by omega) ?_
  refine aw_aload_n (q := 4) dL_corner_3 rfl rfl rfl ?_
  refine aw_iload_n (q := 5) dL_corner_4 rfl rfl rfl ?_
  refine aw_iload_n (q := 6) dL_corner_5 rfl rfl rfl ?_
  refine aw_iload_n (q := 7) dL_corner_6 rfl rfl rfl ?_
  refine aw_callVC [vI (j), vI (x), vI (y)] (q := 10) dL_corner_7 rfl ck_X6_corner lk_L_57 rfl ⟨Nat.le_of_ble_eq_true rfl, Nat.le_of_ble_eq_true rfl⟩ rfl rfl h0 rfl (Nat.le_of_ble_eq_true rfl) (by decide) hM (fun E n1 μ1 hE => ?_) ?_
  · obtain ⟨hn1, h101, hk⟩ := hq _ _ _ hE
    obtain rfl := hn1.symm
    rcases hk with ⟨r, h9⟩ | h9 | h9 | h9
    · cases h9
    · obtain rfl := Sum.inr.inj h9
      refine ax_c (q := 17) (E := IX) [] [(0, 12, 19, 21), (0, 12, 23, 13)] ((0, 12, 15, 19) : Nat × Nat × Nat × Nat) rfl (fun y hy => by cases hy) (by decide) (by decide) cx_IX cs_IX (Or.inr ⟨5, dL_corner_15, by decide, rfl⟩) ?_
      refine aw_iconst (q := 18) dL_corner_17 rfl (by omega) ?_
      exact aw_iret dL_corner_18 rfl (by decide) (by decide) ⟨_, rfl, rfl, _, _, hE, Or.inr ⟨IX, 1, by simp, rfl, rfl, rfl⟩⟩
    · obtain rfl := Sum.inr.inj h9
      refine ax_c (q := 21) (E := IA) [(0, 12, 15, 19)] [(0, 12, 23, 13)] ((0, 12, 19, 21) : Nat × Nat × Nat × Nat) rfl (fun y hy => by simp only [List.mem_cons, List.not_mem_nil, or_false] at hy; rcases hy with rfl; exact ⟨by decide, _, cx_IX, by simp [ncs, IA]⟩) (by decide) (by decide) cx_IA cs_IA (Or.inr ⟨5, dL_corner_19, by decide, rfl⟩) ?_
      refine aw_iconst (q := 22) dL_corner_21 rfl (by omega) ?_
      exact aw_iret dL_corner_22 rfl (by decide) (by decide) ⟨_, rfl, rfl, _, _, hE, Or.inr ⟨IA, 2, by simp, rfl, rfl, rfl⟩⟩
    · obtain rfl := Sum.inr.inj h9
      refine ax_c (q := 25) (E := IS) [(0, 12, 15, 19), (0, 12, 19, 21)] [] ((0, 12, 23, 13) : Nat × Nat × Nat × Nat) rfl (fun y hy => by simp only [List.mem_cons, List.not_mem_nil, or_false] at hy; rcases hy with rfl | rfl; exact ⟨by decide, _, cx_IX, by simp [ncs, IS]⟩; exact ⟨by decide, _, cx_IA, by simp [ncs, IS]⟩) (by decide) (by decide) cx_IS cs_IS (Or.inr ⟨5, dL_corner_23, by decide, rfl⟩) ?_
      refine aw_iconst (q := 26) dL_corner_25 rfl (by omega) ?_
      exact aw_iret dL_corner_26 rfl (by decide) (by decide) ⟨_, rfl, rfl, _, _, hE, Or.inr ⟨IS, 3, by simp, rfl, rfl, rfl⟩⟩
  · rintro v n1 μ1 - hE
    obtain ⟨hn1, h101, hk⟩ := hq _ _ _ hE
    obtain rfl := hn1.symm
    obtain ⟨r, hr⟩ : ∃ r : Int, v = some (vI r) := by rcases hk with ⟨r, h9⟩ | h9 | h9 | h9; exact ⟨r, Sum.inl.inj h9⟩; cases h9; cases h9; cases h9
    subst hr
    refine aw_i2l (q := 11) dL_corner_10 rfl ?_
    refine aw_lastore (j := 0) (q := 12) dL_corner_11 rfl h101 (by omega) (by omega) ?_
    refine aw_goto (q := 27) dL_corner_12 (by decide) ?_
    refine aw_iconst (q := 28) dL_corner_27 rfl (by omega) ?_
    exact aw_iret dL_corner_28 rfl (by decide) (by decide) ⟨_, rfl, rfl, _, _, hE, Or.inl ⟨r, Or.inl rfl, rfl, rfl⟩⟩
set_option maxHeartbeats 4000000 in
set_option maxRecDepth 100000 in
theorem w_in {n : Nat} {μ : AH} {Q' : AQ} {fs : List AV} {o9 : Nat → Int} {i p j : Int} (hM : AMet YX6_in [vR 0, vI (i), vI (p), vI (j)] n μ Q') (h0 : μ 0 = oO 6 fs) (hq : ∀ (o : AOut) (n1 : Nat) (μ1 : AH), Q' o n1 μ1 → n1 = n ∧ μ1 101 = oL 1 o9 ∧ ((∃ r : Int, o = .inl (some (vI r)) ∧ (r = 0 ∨ r = 1)) ∨ o = .inr IX)) : AMet YL_in [vR 0, vI (i), vI (p), vI (j), vR 101] n μ (Rt (fun v n' μ' => n' = n ∧ ∃ (o : AOut) (μ1 : AH), Q' o n μ1 ∧ WR [(IX, 1)] o9 o μ1 v μ')) := by
  refine AMet.ofH (by decide) (List.cons_ne_nil _ _) (Nat.le_of_ble_eq_true rfl) ?_
  refine aw_aload (q := 2) dL_in_0 rfl rfl ?_
  refine aw_iconst (q := 3) dL_in_2 rfl (by omega) ?_
  refine aw_aload_n (q := 4) dL_in_3 rfl rfl rfl ?_
  refine aw_iload_n (q := 5) dL_in_4 rfl rfl rfl ?_
  refine aw_iload_n (q := 6) dL_in_5 rfl rfl rfl ?_
  refine aw_iload_n (q := 7) dL_in_6 rfl rfl rfl ?_
  refine aw_callVC [vI (i), vI (p), vI (j)] (q := 10) dL_in_7 rfl ck_X6_in lk_L_60 rfl ⟨Nat.le_of_ble_eq_true rfl, Nat.le_of_ble_eq_true rfl⟩ rfl rfl h0 rfl (Nat.le_of_ble_eq_true rfl) (by decide) hM (fun E n1 μ1 hE => ?_) ?_
  · obtain ⟨hn1, h101, hk⟩ := hq _ _ _ hE
    obtain rfl := hn1.symm
    rcases hk with ⟨r, h9, _⟩ | h9
    · cases h9
    · obtain rfl := Sum.inr.inj h9
      refine ax_c (q := 24) (E := IX) [] [] ((0, 19, 22, 19) : Nat × Nat × Nat × Nat) rfl (fun y hy => by cases hy) (by decide) (by decide) cx_IX cs_IX (Or.inr ⟨5, dL_in_22, by decide, rfl⟩) ?_
      refine aw_iconst (q := 25) dL_in_24 rfl (by omega) ?_
      exact aw_iret dL_in_25 rfl (by decide) (by decide) ⟨_, rfl, rfl, _, _, hE, Or.inr ⟨IX, 1, by simp, rfl, rfl, rfl⟩⟩
  · rintro v n1 μ1 - hE
    obtain ⟨hn1, h101, hk⟩ := hq _ _ _ hE
    obtain rfl := hn1.symm
    obtain ⟨r, hr, hr01⟩ : ∃ r : Int, v = some (vI r) ∧ (r = 0 ∨ r = 1) := by rcases hk with ⟨r, h9, h8⟩ | h9; exact ⟨r, Sum.inl.inj h9, h8⟩; cases h9
    subst hr
    refine aw_if_eq (t := 17) (q := 13) dL_in_10 rfl (by decide) (fun bc1 => ?_) (fun bc1 => ?_)
    · skip
      refine aw_lconst (a := 0) (q := 18) dL_in_17 rfl rfl (by omega) ?_
      refine aw_lastore (j := 0) (q := 19) dL_in_18 rfl h101 (by omega) (by omega) ?_
      refine aw_goto (q := 26) dL_in_19 (by decide) ?_
      refine aw_iconst (q := 27) dL_in_26 rfl (by omega) ?_
      exact aw_iret dL_in_27 rfl (by decide) (by decide) ⟨_, rfl, rfl, _, _, hE, Or.inl ⟨r, Or.inl rfl, rfl, by rw [show r = 0 by assumption]⟩⟩
    · skip
      refine aw_lconst (a := 1) (q := 14) dL_in_13 rfl rfl (by omega) ?_
      refine aw_goto (q := 18) dL_in_14 (by decide) ?_
      refine aw_lastore (j := 0) (q := 19) dL_in_18 rfl h101 (by omega) (by omega) ?_
      refine aw_goto (q := 26) dL_in_19 (by decide) ?_
      refine aw_iconst (q := 27) dL_in_26 rfl (by omega) ?_
      exact aw_iret dL_in_27 rfl (by decide) (by decide) ⟨_, rfl, rfl, _, _, hE, Or.inl ⟨r, Or.inl rfl, rfl, by rw [show r = 1 from hr01.resolve_left (by assumption)]⟩⟩
set_option maxHeartbeats 4000000 in
set_option maxRecDepth 100000 in
theorem w_port {n : Nat} {μ : AH} {Q' : AQ} {fs : List AV} {o9 : Nat → Int} {i p : Int} (hM : AMet YX6_port [vR 0, vI (i), vI (p)] n μ Q') (h0 : μ 0 = oO 6 fs) (hq : ∀ (o : AOut) (n1 : Nat) (μ1 : AH), Q' o n1 μ1 → n1 = n ∧ μ1 101 = oL 1 o9 ∧ ((∃ r : Int, o = .inl (some (vI r))) ∨ o = .inr IX)) : AMet YL_port [vR 0, vI (i), vI (p), vR 101] n μ (Rt (fun v n' μ' => n' = n ∧ ∃ (o : AOut) (μ1 : AH), Q' o n μ1 ∧ WR [(IX, 1)] o9 o μ1 v μ')) := by
  refine AMet.ofH (by decide) (List.cons_ne_nil _ _) (Nat.le_of_ble_eq_true rfl) ?_
  refine aw_aload_n (q := 1) dL_port_0 rfl rfl rfl ?_
  refine aw_iconst (q := 2) dL_port_1 rfl (by omega) ?_
  refine aw_aload_n (q := 3) dL_port_2 rfl rfl rfl ?_
  refine aw_iload_n (q := 4) dL_port_3 rfl rfl rfl ?_
  refine aw_iload_n (q := 5) dL_port_4 rfl rfl rfl ?_
  refine aw_callVC [vI (i), vI (p)] (q := 8) dL_port_5 rfl ck_X6_port lk_L_64 rfl ⟨Nat.le_of_ble_eq_true rfl, Nat.le_of_ble_eq_true rfl⟩ rfl rfl h0 rfl (Nat.le_of_ble_eq_true rfl) (by decide) hM (fun E n1 μ1 hE => ?_) ?_
  · obtain ⟨hn1, h101, hk⟩ := hq _ _ _ hE
    obtain rfl := hn1.symm
    rcases hk with ⟨r, h9⟩ | h9
    · cases h9
    · obtain rfl := Sum.inr.inj h9
      refine ax_c (q := 15) (E := IX) [] [] ((0, 10, 13, 19) : Nat × Nat × Nat × Nat) rfl (fun y hy => by cases hy) (by decide) (by decide) cx_IX cs_IX (Or.inr ⟨4, dL_port_13, by decide, rfl⟩) ?_
      refine aw_iconst (q := 16) dL_port_15 rfl (by omega) ?_
      exact aw_iret dL_port_16 rfl (by decide) (by decide) ⟨_, rfl, rfl, _, _, hE, Or.inr ⟨IX, 1, by simp, rfl, rfl, rfl⟩⟩
  · rintro v n1 μ1 - hE
    obtain ⟨hn1, h101, hk⟩ := hq _ _ _ hE
    obtain rfl := hn1.symm
    obtain ⟨r, hr⟩ : ∃ r : Int, v = some (vI r) := by rcases hk with ⟨r, h9⟩ | h9; exact ⟨r, Sum.inl.inj h9⟩; cases h9
    subst hr
    refine aw_i2l (q := 9) dL_port_8 rfl ?_
    refine aw_lastore (j := 0) (q := 10) dL_port_9 rfl h101 (by omega) (by omega) ?_
    refine aw_goto (q := 17) dL_port_10 (by decide) ?_
    refine aw_iconst (q := 18) dL_port_17 rfl (by omega) ?_
    exact aw_iret dL_port_18 rfl (by decide) (by decide) ⟨_, rfl, rfl, _, _, hE, Or.inl ⟨r, Or.inl rfl, rfl, rfl⟩⟩
set_option maxHeartbeats 4000000 in
set_option maxRecDepth 100000 in
theorem w_pack {n : Nat} {μ : AH} {Q' : AQ} {fs : List AV} {o9 : Nat → Int} {i : Int} (hM : AMet YX6_pack [vR 0, vI (i)] n μ Q') (h0 : μ 0 = oO 6 fs) (hq : ∀ (o : AOut) (n1 : Nat) (μ1 : AH), Q' o n1 μ1 → n1 = n ∧ μ1 101 = oL 1 o9 ∧ ((∃ r : Int, o = .inl (some (vI r))) ∨ o = .inr IX)) : AMet YL_pack [vR 0, vI (i), vR 101] n μ (Rt (fun v n' μ' => n' = n ∧ ∃ (o : AOut) (μ1 : AH), Q' o n μ1 ∧ WR [(IX, 1)] o9 o μ1 v μ')) := by
  refine AMet.ofH (by decide) (List.cons_ne_nil _ _) (Nat.le_of_ble_eq_true rfl) ?_
  refine aw_aload_n (q := 1) dL_pack_0 rfl rfl rfl ?_
  refine aw_iconst (q := 2) dL_pack_1 rfl (by omega) ?_
  refine aw_aload_n (q := 3) dL_pack_2 rfl rfl rfl ?_
  refine aw_iload_n (q := 4) dL_pack_3 rfl rfl rfl ?_
  refine aw_callVC [vI (i)] (q := 7) dL_pack_4 rfl ck_X6_pack lk_L_67 rfl ⟨Nat.le_of_ble_eq_true rfl, Nat.le_of_ble_eq_true rfl⟩ rfl rfl h0 rfl (Nat.le_of_ble_eq_true rfl) (by decide) hM (fun E n1 μ1 hE => ?_) ?_
  · obtain ⟨hn1, h101, hk⟩ := hq _ _ _ hE
    obtain rfl := hn1.symm
    rcases hk with ⟨r, h9⟩ | h9
    · cases h9
    · obtain rfl := Sum.inr.inj h9
      refine ax_c (q := 13) (E := IX) [] [] ((0, 9, 12, 19) : Nat × Nat × Nat × Nat) rfl (fun y hy => by cases hy) (by decide) (by decide) cx_IX cs_IX (Or.inl ⟨3, dL_pack_12, by decide, rfl⟩) ?_
      refine aw_iconst (q := 14) dL_pack_13 rfl (by omega) ?_
      exact aw_iret dL_pack_14 rfl (by decide) (by decide) ⟨_, rfl, rfl, _, _, hE, Or.inr ⟨IX, 1, by simp, rfl, rfl, rfl⟩⟩
  · rintro v n1 μ1 - hE
    obtain ⟨hn1, h101, hk⟩ := hq _ _ _ hE
    obtain rfl := hn1.symm
    obtain ⟨r, hr⟩ : ∃ r : Int, v = some (vI r) := by rcases hk with ⟨r, h9⟩ | h9; exact ⟨r, Sum.inl.inj h9⟩; cases h9
    subst hr
    refine aw_i2l (q := 8) dL_pack_7 rfl ?_
    refine aw_lastore (j := 0) (q := 9) dL_pack_8 rfl h101 (by omega) (by omega) ?_
    refine aw_goto (q := 15) dL_pack_9 (by decide) ?_
    refine aw_iconst (q := 16) dL_pack_15 rfl (by omega) ?_
    exact aw_iret dL_pack_16 rfl (by decide) (by decide) ⟨_, rfl, rfl, _, _, hE, Or.inl ⟨r, Or.inl rfl, rfl, rfl⟩⟩
set_option maxHeartbeats 4000000 in
set_option maxRecDepth 100000 in
theorem w_byteAt {n : Nat} {μ : AH} {Q' : AQ} {fs : List AV} {o9 : Nat → Int} {i : Int} (hM : AMet YX6_byteAt [vR 0, vI (i)] n μ Q') (h0 : μ 0 = oO 6 fs) (hq : ∀ (o : AOut) (n1 : Nat) (μ1 : AH), Q' o n1 μ1 → n1 = n ∧ μ1 101 = oL 1 o9 ∧ ((∃ r : Int, o = .inl (some (vI r))) ∨ o = .inr IX)) : AMet YL_byteAt [vR 0, vI (i), vR 101] n μ (Rt (fun v n' μ' => n' = n ∧ ∃ (o : AOut) (μ1 : AH), Q' o n μ1 ∧ WR [(IX, 1)] o9 o μ1 v μ')) := by
  refine AMet.ofH (by decide) (List.cons_ne_nil _ _) (Nat.le_of_ble_eq_true rfl) ?_
  refine aw_aload_n (q := 1) dL_byteAt_0 rfl rfl rfl ?_
  refine aw_iconst (q := 2) dL_byteAt_1 rfl (by omega) ?_
  refine aw_aload_n (q := 3) dL_byteAt_2 rfl rfl rfl ?_
  refine aw_iload_n (q := 4) dL_byteAt_3 rfl rfl rfl ?_
  refine aw_callVC [vI (i)] (q := 7) dL_byteAt_4 rfl ck_X6_byteAt lk_L_70 rfl ⟨Nat.le_of_ble_eq_true rfl, Nat.le_of_ble_eq_true rfl⟩ rfl rfl h0 rfl (Nat.le_of_ble_eq_true rfl) (by decide) hM (fun E n1 μ1 hE => ?_) ?_
  · obtain ⟨hn1, h101, hk⟩ := hq _ _ _ hE
    obtain rfl := hn1.symm
    rcases hk with ⟨r, h9⟩ | h9
    · cases h9
    · obtain rfl := Sum.inr.inj h9
      refine ax_c (q := 13) (E := IX) [] [] ((0, 9, 12, 19) : Nat × Nat × Nat × Nat) rfl (fun y hy => by cases hy) (by decide) (by decide) cx_IX cs_IX (Or.inl ⟨3, dL_byteAt_12, by decide, rfl⟩) ?_
      refine aw_iconst (q := 14) dL_byteAt_13 rfl (by omega) ?_
      exact aw_iret dL_byteAt_14 rfl (by decide) (by decide) ⟨_, rfl, rfl, _, _, hE, Or.inr ⟨IX, 1, by simp, rfl, rfl, rfl⟩⟩
  · rintro v n1 μ1 - hE
    obtain ⟨hn1, h101, hk⟩ := hq _ _ _ hE
    obtain rfl := hn1.symm
    obtain ⟨r, hr⟩ : ∃ r : Int, v = some (vI r) := by rcases hk with ⟨r, h9⟩ | h9; exact ⟨r, Sum.inl.inj h9⟩; cases h9
    subst hr
    refine aw_i2l (q := 8) dL_byteAt_7 rfl ?_
    refine aw_lastore (j := 0) (q := 9) dL_byteAt_8 rfl h101 (by omega) (by omega) ?_
    refine aw_goto (q := 15) dL_byteAt_9 (by decide) ?_
    refine aw_iconst (q := 16) dL_byteAt_15 rfl (by omega) ?_
    exact aw_iret dL_byteAt_16 rfl (by decide) (by decide) ⟨_, rfl, rfl, _, _, hE, Or.inl ⟨r, Or.inl rfl, rfl, rfl⟩⟩
set_option maxHeartbeats 4000000 in
set_option maxRecDepth 100000 in
theorem w_feed {n : Nat} {μ : AH} {Q' : AQ} {fs : List AV} {o9 : Nat → Int} {x : Int} (hM : AMet YX6_feed [vR 0, vI (x)] n μ Q') (h0 : μ 0 = oO 6 fs) (hq : ∀ (o : AOut) (n1 : Nat) (μ1 : AH), Q' o n1 μ1 → n1 = n ∧ μ1 101 = oL 1 o9 ∧ ((∃ r : Int, o = .inl (some (vI r))) ∨ o = .inr IA ∨ o = .inr IS)) : AMet YL_feed [vR 0, vI (x), vR 101] n μ (Rt (fun v n' μ' => n' = n ∧ ∃ (o : AOut) (μ1 : AH), Q' o n μ1 ∧ WR [(IA, 1), (IS, 2)] o9 o μ1 v μ')) := by
  refine AMet.ofH (by decide) (List.cons_ne_nil _ _) (Nat.le_of_ble_eq_true rfl) ?_
  refine aw_aload_n (q := 1) dL_feed_0 rfl rfl rfl ?_
  refine aw_iconst (q := 2) dL_feed_1 rfl (by omega) ?_
  refine aw_aload_n (q := 3) dL_feed_2 rfl rfl rfl ?_
  refine aw_iload_n (q := 4) dL_feed_3 rfl rfl rfl ?_
  refine aw_callVC [vI (x)] (q := 7) dL_feed_4 rfl ck_X6_feed lk_L_73 rfl ⟨Nat.le_of_ble_eq_true rfl, Nat.le_of_ble_eq_true rfl⟩ rfl rfl h0 rfl (Nat.le_of_ble_eq_true rfl) (by decide) hM (fun E n1 μ1 hE => ?_) ?_
  · obtain ⟨hn1, h101, hk⟩ := hq _ _ _ hE
    obtain rfl := hn1.symm
    rcases hk with ⟨r, h9⟩ | h9 | h9
    · cases h9
    · obtain rfl := Sum.inr.inj h9
      refine ax_c (q := 13) (E := IA) [] [(0, 9, 15, 13)] ((0, 9, 12, 21) : Nat × Nat × Nat × Nat) rfl (fun y hy => by cases hy) (by decide) (by decide) cx_IA cs_IA (Or.inl ⟨3, dL_feed_12, by decide, rfl⟩) ?_
      refine aw_iconst (q := 14) dL_feed_13 rfl (by omega) ?_
      exact aw_iret dL_feed_14 rfl (by decide) (by decide) ⟨_, rfl, rfl, _, _, hE, Or.inr ⟨IA, 1, by simp, rfl, rfl, rfl⟩⟩
    · obtain rfl := Sum.inr.inj h9
      refine ax_c (q := 16) (E := IS) [(0, 9, 12, 21)] [] ((0, 9, 15, 13) : Nat × Nat × Nat × Nat) rfl (fun y hy => by simp only [List.mem_cons, List.not_mem_nil, or_false] at hy; rcases hy with rfl; exact ⟨by decide, _, cx_IA, by simp [ncs, IS]⟩) (by decide) (by decide) cx_IS cs_IS (Or.inl ⟨3, dL_feed_15, by decide, rfl⟩) ?_
      refine aw_iconst (q := 17) dL_feed_16 rfl (by omega) ?_
      exact aw_iret dL_feed_17 rfl (by decide) (by decide) ⟨_, rfl, rfl, _, _, hE, Or.inr ⟨IS, 2, by simp, rfl, rfl, rfl⟩⟩
  · rintro v n1 μ1 - hE
    obtain ⟨hn1, h101, hk⟩ := hq _ _ _ hE
    obtain rfl := hn1.symm
    obtain ⟨r, hr⟩ : ∃ r : Int, v = some (vI r) := by rcases hk with ⟨r, h9⟩ | h9 | h9; exact ⟨r, Sum.inl.inj h9⟩; cases h9; cases h9
    subst hr
    refine aw_i2l (q := 8) dL_feed_7 rfl ?_
    refine aw_lastore (j := 0) (q := 9) dL_feed_8 rfl h101 (by omega) (by omega) ?_
    refine aw_goto (q := 18) dL_feed_9 (by decide) ?_
    refine aw_iconst (q := 19) dL_feed_18 rfl (by omega) ?_
    exact aw_iret dL_feed_19 rfl (by decide) (by decide) ⟨_, rfl, rfl, _, _, hE, Or.inl ⟨r, Or.inl rfl, rfl, rfl⟩⟩
set_option maxHeartbeats 4000000 in
set_option maxRecDepth 100000 in
theorem w_read {n : Nat} {μ : AH} {Q' : AQ} {fs : List AV} {o9 : Nat → Int} {i : Int} (hM : AMet YX6_read [vR 0, vI (i)] n μ Q') (h0 : μ 0 = oO 6 fs) (hq : ∀ (o : AOut) (n1 : Nat) (μ1 : AH), Q' o n1 μ1 → n1 = n ∧ μ1 101 = oL 1 o9 ∧ ((∃ r : Int, o = .inl (some (vI r))) ∨ o = .inr IX)) : AMet YL_read [vR 0, vI (i), vR 101] n μ (Rt (fun v n' μ' => n' = n ∧ ∃ (o : AOut) (μ1 : AH), Q' o n μ1 ∧ WR [(IX, 1)] o9 o μ1 v μ')) := by
  refine AMet.ofH (by decide) (List.cons_ne_nil _ _) (Nat.le_of_ble_eq_true rfl) ?_
  refine aw_aload_n (q := 1) dL_read_0 rfl rfl rfl ?_
  refine aw_iconst (q := 2) dL_read_1 rfl (by omega) ?_
  refine aw_aload_n (q := 3) dL_read_2 rfl rfl rfl ?_
  refine aw_iload_n (q := 4) dL_read_3 rfl rfl rfl ?_
  refine aw_callVC [vI (i)] (q := 7) dL_read_4 rfl ck_X6_read lk_L_76 rfl ⟨Nat.le_of_ble_eq_true rfl, Nat.le_of_ble_eq_true rfl⟩ rfl rfl h0 rfl (Nat.le_of_ble_eq_true rfl) (by decide) hM (fun E n1 μ1 hE => ?_) ?_
  · obtain ⟨hn1, h101, hk⟩ := hq _ _ _ hE
    obtain rfl := hn1.symm
    rcases hk with ⟨r, h9⟩ | h9
    · cases h9
    · obtain rfl := Sum.inr.inj h9
      refine ax_c (q := 13) (E := IX) [] [] ((0, 9, 12, 19) : Nat × Nat × Nat × Nat) rfl (fun y hy => by cases hy) (by decide) (by decide) cx_IX cs_IX (Or.inl ⟨3, dL_read_12, by decide, rfl⟩) ?_
      refine aw_iconst (q := 14) dL_read_13 rfl (by omega) ?_
      exact aw_iret dL_read_14 rfl (by decide) (by decide) ⟨_, rfl, rfl, _, _, hE, Or.inr ⟨IX, 1, by simp, rfl, rfl, rfl⟩⟩
  · rintro v n1 μ1 - hE
    obtain ⟨hn1, h101, hk⟩ := hq _ _ _ hE
    obtain rfl := hn1.symm
    obtain ⟨r, hr⟩ : ∃ r : Int, v = some (vI r) := by rcases hk with ⟨r, h9⟩ | h9; exact ⟨r, Sum.inl.inj h9⟩; cases h9
    subst hr
    refine aw_i2l (q := 8) dL_read_7 rfl ?_
    refine aw_lastore (j := 0) (q := 9) dL_read_8 rfl h101 (by omega) (by omega) ?_
    refine aw_goto (q := 15) dL_read_9 (by decide) ?_
    refine aw_iconst (q := 16) dL_read_15 rfl (by omega) ?_
    exact aw_iret dL_read_16 rfl (by decide) (by decide) ⟨_, rfl, rfl, _, _, hE, Or.inl ⟨r, Or.inl rfl, rfl, rfl⟩⟩
set_option maxHeartbeats 4000000 in
set_option maxRecDepth 100000 in
theorem w_repeat {n : Nat} {μ : AH} {Q' : AQ} {fs : List AV} {o9 : Nat → Int} {i w : Int} (hM : AMet YX6_repeat [vR 0, vI (i), vI (w)] n μ Q') (h0 : μ 0 = oO 6 fs) (hq : ∀ (o : AOut) (n1 : Nat) (μ1 : AH), Q' o n1 μ1 → n1 = n ∧ μ1 101 = oL 1 o9 ∧ ((∃ r : Int, o = .inl (some (vI r))) ∨ o = .inr IX ∨ o = .inr IA)) : AMet YL_repeat [vR 0, vI (i), vI (w), vR 101] n μ (Rt (fun v n' μ' => n' = n ∧ ∃ (o : AOut) (μ1 : AH), Q' o n μ1 ∧ WR [(IX, 1), (IA, 2)] o9 o μ1 v μ')) := by
  refine AMet.ofH (by decide) (List.cons_ne_nil _ _) (Nat.le_of_ble_eq_true rfl) ?_
  refine aw_aload_n (q := 1) dL_repeat_0 rfl rfl rfl ?_
  refine aw_iconst (q := 2) dL_repeat_1 rfl (by omega) ?_
  refine aw_aload_n (q := 3) dL_repeat_2 rfl rfl rfl ?_
  refine aw_iload_n (q := 4) dL_repeat_3 rfl rfl rfl ?_
  refine aw_iload_n (q := 5) dL_repeat_4 rfl rfl rfl ?_
  refine aw_callVC [vI (i), vI (w)] (q := 8) dL_repeat_5 rfl ck_X6_repeat lk_L_79 rfl ⟨Nat.le_of_ble_eq_true rfl, Nat.le_of_ble_eq_true rfl⟩ rfl rfl h0 rfl (Nat.le_of_ble_eq_true rfl) (by decide) hM (fun E n1 μ1 hE => ?_) ?_
  · obtain ⟨hn1, h101, hk⟩ := hq _ _ _ hE
    obtain rfl := hn1.symm
    rcases hk with ⟨r, h9⟩ | h9 | h9
    · cases h9
    · obtain rfl := Sum.inr.inj h9
      refine ax_c (q := 15) (E := IX) [] [(0, 10, 17, 21)] ((0, 10, 13, 19) : Nat × Nat × Nat × Nat) rfl (fun y hy => by cases hy) (by decide) (by decide) cx_IX cs_IX (Or.inr ⟨4, dL_repeat_13, by decide, rfl⟩) ?_
      refine aw_iconst (q := 16) dL_repeat_15 rfl (by omega) ?_
      exact aw_iret dL_repeat_16 rfl (by decide) (by decide) ⟨_, rfl, rfl, _, _, hE, Or.inr ⟨IX, 1, by simp, rfl, rfl, rfl⟩⟩
    · obtain rfl := Sum.inr.inj h9
      refine ax_c (q := 19) (E := IA) [(0, 10, 13, 19)] [] ((0, 10, 17, 21) : Nat × Nat × Nat × Nat) rfl (fun y hy => by simp only [List.mem_cons, List.not_mem_nil, or_false] at hy; rcases hy with rfl; exact ⟨by decide, _, cx_IX, by simp [ncs, IA]⟩) (by decide) (by decide) cx_IA cs_IA (Or.inr ⟨4, dL_repeat_17, by decide, rfl⟩) ?_
      refine aw_iconst (q := 20) dL_repeat_19 rfl (by omega) ?_
      exact aw_iret dL_repeat_20 rfl (by decide) (by decide) ⟨_, rfl, rfl, _, _, hE, Or.inr ⟨IA, 2, by simp, rfl, rfl, rfl⟩⟩
  · rintro v n1 μ1 - hE
    obtain ⟨hn1, h101, hk⟩ := hq _ _ _ hE
    obtain rfl := hn1.symm
    obtain ⟨r, hr⟩ : ∃ r : Int, v = some (vI r) := by rcases hk with ⟨r, h9⟩ | h9 | h9; exact ⟨r, Sum.inl.inj h9⟩; cases h9; cases h9
    subst hr
    refine aw_i2l (q := 9) dL_repeat_8 rfl ?_
    refine aw_lastore (j := 0) (q := 10) dL_repeat_9 rfl h101 (by omega) (by omega) ?_
    refine aw_goto (q := 21) dL_repeat_10 (by decide) ?_
    refine aw_iconst (q := 22) dL_repeat_21 rfl (by omega) ?_
    exact aw_iret dL_repeat_22 rfl (by decide) (by decide) ⟨_, rfl, rfl, _, _, hE, Or.inl ⟨r, Or.inl rfl, rfl, rfl⟩⟩
set_option maxHeartbeats 4000000 in
set_option maxRecDepth 100000 in
theorem w_sight {n : Nat} {μ : AH} {Q' : AQ} {fs : List AV} {o9 : Nat → Int} {s x y : Int} (hM : AMet YX6_sight [vR 0, vI (s), vI (x), vI (y)] n μ Q') (h0 : μ 0 = oO 6 fs) (hq : ∀ (o : AOut) (n1 : Nat) (μ1 : AH), Q' o n1 μ1 → n1 = n ∧ μ1 101 = oL 1 o9 ∧ ((∃ r : Int, o = .inl (some (vI r))) ∨ o = .inr IA ∨ o = .inr IS)) : AMet YL_sight [vR 0, vI (s), vI (x), vI (y), vR 101] n μ (Rt (fun v n' μ' => n' = n ∧ ∃ (o : AOut) (μ1 : AH), Q' o n μ1 ∧ WR [(IA, 1), (IS, 2)] o9 o μ1 v μ')) := by
  refine AMet.ofH (by decide) (List.cons_ne_nil _ _) (Nat.le_of_ble_eq_true rfl) ?_
  refine aw_aload (q := 2) dL_sight_0 rfl rfl ?_
  refine aw_iconst (q := 3) dL_sight_2 rfl (by omega) ?_
  refine aw_aload_n (q := 4) dL_sight_3 rfl rfl rfl ?_
  refine aw_iload_n (q := 5) dL_sight_4 rfl rfl rfl ?_
  refine aw_iload_n (q := 6) dL_sight_5 rfl rfl rfl ?_
  refine aw_iload_n (q := 7) dL_sight_6 rfl rfl rfl ?_
  refine aw_callVC [vI (s), vI (x), vI (y)] (q := 10) dL_sight_7 rfl ck_X6_sight lk_L_82 rfl ⟨Nat.le_of_ble_eq_true rfl, Nat.le_of_ble_eq_true rfl⟩ rfl rfl h0 rfl (Nat.le_of_ble_eq_true rfl) (by decide) hM (fun E n1 μ1 hE => ?_) ?_
  · obtain ⟨hn1, h101, hk⟩ := hq _ _ _ hE
    obtain rfl := hn1.symm
    rcases hk with ⟨r, h9⟩ | h9 | h9
    · cases h9
    · obtain rfl := Sum.inr.inj h9
      refine ax_c (q := 17) (E := IA) [] [(0, 12, 19, 13)] ((0, 12, 15, 21) : Nat × Nat × Nat × Nat) rfl (fun y hy => by cases hy) (by decide) (by decide) cx_IA cs_IA (Or.inr ⟨5, dL_sight_15, by decide, rfl⟩) ?_
      refine aw_iconst (q := 18) dL_sight_17 rfl (by omega) ?_
      exact aw_iret dL_sight_18 rfl (by decide) (by decide) ⟨_, rfl, rfl, _, _, hE, Or.inr ⟨IA, 1, by simp, rfl, rfl, rfl⟩⟩
    · obtain rfl := Sum.inr.inj h9
      refine ax_c (q := 21) (E := IS) [(0, 12, 15, 21)] [] ((0, 12, 19, 13) : Nat × Nat × Nat × Nat) rfl (fun y hy => by simp only [List.mem_cons, List.not_mem_nil, or_false] at hy; rcases hy with rfl; exact ⟨by decide, _, cx_IA, by simp [ncs, IS]⟩) (by decide) (by decide) cx_IS cs_IS (Or.inr ⟨5, dL_sight_19, by decide, rfl⟩) ?_
      refine aw_iconst (q := 22) dL_sight_21 rfl (by omega) ?_
      exact aw_iret dL_sight_22 rfl (by decide) (by decide) ⟨_, rfl, rfl, _, _, hE, Or.inr ⟨IS, 2, by simp, rfl, rfl, rfl⟩⟩
  · rintro v n1 μ1 - hE
    obtain ⟨hn1, h101, hk⟩ := hq _ _ _ hE
    obtain rfl := hn1.symm
    obtain ⟨r, hr⟩ : ∃ r : Int, v = some (vI r) := by rcases hk with ⟨r, h9⟩ | h9 | h9; exact ⟨r, Sum.inl.inj h9⟩; cases h9; cases h9
    subst hr
    refine aw_i2l (q := 11) dL_sight_10 rfl ?_
    refine aw_lastore (j := 0) (q := 12) dL_sight_11 rfl h101 (by omega) (by omega) ?_
    refine aw_goto (q := 23) dL_sight_12 (by decide) ?_
    refine aw_iconst (q := 24) dL_sight_23 rfl (by omega) ?_
    exact aw_iret dL_sight_24 rfl (by decide) (by decide) ⟨_, rfl, rfl, _, _, hE, Or.inl ⟨r, Or.inl rfl, rfl, rfl⟩⟩
set_option maxHeartbeats 4000000 in
set_option maxRecDepth 100000 in
theorem w_weight {n : Nat} {μ : AH} {Q' : AQ} {fs : List AV} {o9 : Nat → Int} {x i : Int} (hM : AMet YX6_weight [vR 0, vI (x), vI (i)] n μ Q') (h0 : μ 0 = oO 6 fs) (hq : ∀ (o : AOut) (n1 : Nat) (μ1 : AH), Q' o n1 μ1 → n1 = n ∧ μ1 101 = oL 1 o9 ∧ ((∃ r : Int, o = .inl (some (vL r))) ∨ o = .inr IX)) : AMet YL_weight [vR 0, vI (x), vI (i), vR 101] n μ (Rt (fun v n' μ' => n' = n ∧ ∃ (o : AOut) (μ1 : AH), Q' o n μ1 ∧ WR [(IX, 1)] o9 o μ1 v μ')) := by
  refine AMet.ofH (by decide) (List.cons_ne_nil _ _) (Nat.le_of_ble_eq_true rfl) ?_
  refine aw_aload_n (q := 1) dL_weight_0 rfl rfl rfl ?_
  refine aw_iconst (q := 2) dL_weight_1 rfl (by omega) ?_
  refine aw_aload_n (q := 3) dL_weight_2 rfl rfl rfl ?_
  refine aw_iload_n (q := 4) dL_weight_3 rfl rfl rfl ?_
  refine aw_iload_n (q := 5) dL_weight_4 rfl rfl rfl ?_
  refine aw_callVC [vI (x), vI (i)] (q := 8) dL_weight_5 rfl ck_X6_weight lk_L_85 rfl ⟨Nat.le_of_ble_eq_true rfl, Nat.le_of_ble_eq_true rfl⟩ rfl rfl h0 rfl (Nat.le_of_ble_eq_true rfl) (by decide) hM (fun E n1 μ1 hE => ?_) ?_
  · obtain ⟨hn1, h101, hk⟩ := hq _ _ _ hE
    obtain rfl := hn1.symm
    rcases hk with ⟨r, h9⟩ | h9
    · cases h9
    · obtain rfl := Sum.inr.inj h9
      refine ax_c (q := 14) (E := IX) [] [] ((0, 9, 12, 19) : Nat × Nat × Nat × Nat) rfl (fun y hy => by cases hy) (by decide) (by decide) cx_IX cs_IX (Or.inr ⟨4, dL_weight_12, by decide, rfl⟩) ?_
      refine aw_iconst (q := 15) dL_weight_14 rfl (by omega) ?_
      exact aw_iret dL_weight_15 rfl (by decide) (by decide) ⟨_, rfl, rfl, _, _, hE, Or.inr ⟨IX, 1, by simp, rfl, rfl, rfl⟩⟩
  · rintro v n1 μ1 - hE
    obtain ⟨hn1, h101, hk⟩ := hq _ _ _ hE
    obtain rfl := hn1.symm
    obtain ⟨r, hr⟩ : ∃ r : Int, v = some (vL r) := by rcases hk with ⟨r, h9⟩ | h9; exact ⟨r, Sum.inl.inj h9⟩; cases h9
    subst hr
    refine aw_lastore (j := 0) (q := 9) dL_weight_8 rfl h101 (by omega) (by omega) ?_
    refine aw_goto (q := 16) dL_weight_9 (by decide) ?_
    refine aw_iconst (q := 17) dL_weight_16 rfl (by omega) ?_
    exact aw_iret dL_weight_17 rfl (by decide) (by decide) ⟨_, rfl, rfl, _, _, hE, Or.inl ⟨r, Or.inr rfl, rfl, rfl⟩⟩
set_option maxHeartbeats 4000000 in
set_option maxRecDepth 100000 in
theorem w_match {n : Nat} {μ : AH} {Q' : AQ} {fs : List AV} {o9 : Nat → Int} {x : Int} (hM : AMet YX6_match [vR 0, vI (x)] n μ Q') (h0 : μ 0 = oO 6 fs) (hq : ∀ (o : AOut) (n1 : Nat) (μ1 : AH), Q' o n1 μ1 → n1 = n ∧ μ1 101 = oL 1 o9 ∧ ((∃ r : Int, o = .inl (some (vI r))) ∨ o = .inr IX)) : AMet YL_match [vR 0, vI (x), vR 101] n μ (Rt (fun v n' μ' => n' = n ∧ ∃ (o : AOut) (μ1 : AH), Q' o n μ1 ∧ WR [(IX, 1)] o9 o μ1 v μ')) := by
  refine AMet.ofH (by decide) (List.cons_ne_nil _ _) (Nat.le_of_ble_eq_true rfl) ?_
  refine aw_aload_n (q := 1) dL_match_0 rfl rfl rfl ?_
  refine aw_iconst (q := 2) dL_match_1 rfl (by omega) ?_
  refine aw_aload_n (q := 3) dL_match_2 rfl rfl rfl ?_
  refine aw_iload_n (q := 4) dL_match_3 rfl rfl rfl ?_
  refine aw_callVC [vI (x)] (q := 7) dL_match_4 rfl ck_X6_match lk_L_89 rfl ⟨Nat.le_of_ble_eq_true rfl, Nat.le_of_ble_eq_true rfl⟩ rfl rfl h0 rfl (Nat.le_of_ble_eq_true rfl) (by decide) hM (fun E n1 μ1 hE => ?_) ?_
  · obtain ⟨hn1, h101, hk⟩ := hq _ _ _ hE
    obtain rfl := hn1.symm
    rcases hk with ⟨r, h9⟩ | h9
    · cases h9
    · obtain rfl := Sum.inr.inj h9
      refine ax_c (q := 13) (E := IX) [] [] ((0, 9, 12, 19) : Nat × Nat × Nat × Nat) rfl (fun y hy => by cases hy) (by decide) (by decide) cx_IX cs_IX (Or.inl ⟨3, dL_match_12, by decide, rfl⟩) ?_
      refine aw_iconst (q := 14) dL_match_13 rfl (by omega) ?_
      exact aw_iret dL_match_14 rfl (by decide) (by decide) ⟨_, rfl, rfl, _, _, hE, Or.inr ⟨IX, 1, by simp, rfl, rfl, rfl⟩⟩
  · rintro v n1 μ1 - hE
    obtain ⟨hn1, h101, hk⟩ := hq _ _ _ hE
    obtain rfl := hn1.symm
    obtain ⟨r, hr⟩ : ∃ r : Int, v = some (vI r) := by rcases hk with ⟨r, h9⟩ | h9; exact ⟨r, Sum.inl.inj h9⟩; cases h9
    subst hr
    refine aw_i2l (q := 8) dL_match_7 rfl ?_
    refine aw_lastore (j := 0) (q := 9) dL_match_8 rfl h101 (by omega) (by omega) ?_
    refine aw_goto (q := 15) dL_match_9 (by decide) ?_
    refine aw_iconst (q := 16) dL_match_15 rfl (by omega) ?_
    exact aw_iret dL_match_16 rfl (by decide) (by decide) ⟨_, rfl, rfl, _, _, hE, Or.inl ⟨r, Or.inl rfl, rfl, rfl⟩⟩
set_option maxHeartbeats 4000000 in
set_option maxRecDepth 100000 in
theorem w_told {n : Nat} {μ : AH} {Q' : AQ} {fs : List AV} {o9 : Nat → Int} {w : Int} (hM : AMet YX6_told [vR 0, vI (w)] n μ Q') (h0 : μ 0 = oO 6 fs) (hq : ∀ (o : AOut) (n1 : Nat) (μ1 : AH), Q' o n1 μ1 → n1 = n ∧ μ1 101 = oL 1 o9 ∧ ((∃ r : Int, o = .inl (some (vI r))) ∨ o = .inr IA)) : AMet YL_told [vR 0, vI (w), vR 101] n μ (Rt (fun v n' μ' => n' = n ∧ ∃ (o : AOut) (μ1 : AH), Q' o n μ1 ∧ WR [(IA, 1)] o9 o μ1 v μ')) := by
  refine AMet.ofH (by decide) (List.cons_ne_nil _ _) (Nat.le_of_ble_eq_true rfl) ?_
  refine aw_aload_n (q := 1) dL_told_0 rfl rfl rfl ?_
  refine aw_iconst (q := 2) dL_told_1 rfl (by omega) ?_
  refine aw_aload_n (q := 3) dL_told_2 rfl rfl rfl ?_
  refine aw_iload_n (q := 4) dL_told_3 rfl rfl rfl ?_
  refine aw_callVC [vI (w)] (q := 7) dL_told_4 rfl ck_X6_told lk_L_92 rfl ⟨Nat.le_of_ble_eq_true rfl, Nat.le_of_ble_eq_true rfl⟩ rfl rfl h0 rfl (Nat.le_of_ble_eq_true rfl) (by decide) hM (fun E n1 μ1 hE => ?_) ?_
  · obtain ⟨hn1, h101, hk⟩ := hq _ _ _ hE
    obtain rfl := hn1.symm
    rcases hk with ⟨r, h9⟩ | h9
    · cases h9
    · obtain rfl := Sum.inr.inj h9
      refine ax_c (q := 13) (E := IA) [] [] ((0, 9, 12, 21) : Nat × Nat × Nat × Nat) rfl (fun y hy => by cases hy) (by decide) (by decide) cx_IA cs_IA (Or.inl ⟨3, dL_told_12, by decide, rfl⟩) ?_
      refine aw_iconst (q := 14) dL_told_13 rfl (by omega) ?_
      exact aw_iret dL_told_14 rfl (by decide) (by decide) ⟨_, rfl, rfl, _, _, hE, Or.inr ⟨IA, 1, by simp, rfl, rfl, rfl⟩⟩
  · rintro v n1 μ1 - hE
    obtain ⟨hn1, h101, hk⟩ := hq _ _ _ hE
    obtain rfl := hn1.symm
    obtain ⟨r, hr⟩ : ∃ r : Int, v = some (vI r) := by rcases hk with ⟨r, h9⟩ | h9; exact ⟨r, Sum.inl.inj h9⟩; cases h9
    subst hr
    refine aw_i2l (q := 8) dL_told_7 rfl ?_
    refine aw_lastore (j := 0) (q := 9) dL_told_8 rfl h101 (by omega) (by omega) ?_
    refine aw_goto (q := 15) dL_told_9 (by decide) ?_
    refine aw_iconst (q := 16) dL_told_15 rfl (by omega) ?_
    exact aw_iret dL_told_16 rfl (by decide) (by decide) ⟨_, rfl, rfl, _, _, hE, Or.inl ⟨r, Or.inl rfl, rfl, rfl⟩⟩
