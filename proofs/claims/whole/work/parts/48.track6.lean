/-! ===== TrackRows: read (written by m_track6.py) ===== -/
def dvRd (v : DVt) (k : Nat) (f g h : Nat → Int) : DVt := (k, f, g, h, v.2.2.2.2.1, v.2.2.2.2.2.1, v.2.2.2.2.2.2.1, v.2.2.2.2.2.2.2)
set_option maxHeartbeats 4000000 in
set_option maxRecDepth 100000 in
theorem m_X6_read {n : Nat} {μ : AH} {D : Nat} {dv : Nat → DVt} {Fn : Nat} {fv : Nat → FVt} {sv : SVt} {pk fd : Nat × (Nat → Int)} {spd lim B : Int} {i : Int} (hC : CH μ D dv Fn fv sv pk fd spd lim) (hO : COk B D dv Fn fv sv pk fd spd lim) : AMet YX6_read [vR 0, vI (i)] n μ (fun o n' μ' => n' = n ∧ ((¬ (0 ≤ i ∧ i < (D : Int)) ∧ o = .inr IX ∧ μ' = μ) ∨ ((0 ≤ i ∧ i < (D : Int)) ∧ (∀ k, ¬ Whole fd.2 fd.1 k) ∧ o = .inl (some (vI (-1))) ∧ CH μ' D dv Fn fv sv pk (0, fd.2) spd lim ∧ FrC μ μ') ∨ ((0 ≤ i ∧ i < (D : Int)) ∧ ∃ (k : Nat) (f' g' h' : Nat → Int), Whole fd.2 fd.1 k ∧ Tells fd.2 fd.1 k f' g' h' ∧ o = .inl (some (vI (k : Int))) ∧ CH μ' D (dvu dv i.toNat (dvRd (dv i.toNat) k f' g' h')) Fn fv sv pk (0, fd.2) spd lim ∧ FrC μ μ'))) := by
  refine AMet.of (by decide) rfl (Nat.le_of_ble_eq_true rfl) ?_
  obtain ⟨h0, h1, h2, hS, ⟨mW, mL, mc, msc, mdc, hM⟩, ⟨pnx, pso, hPk⟩, ⟨enx, eso, hFd⟩, ⟨ue, uf, ug, uh, hUn⟩, hDv, hFv⟩ := id hC
  obtain ⟨hN, hdv, hFn, hfv, hsn, hsb, hpk, hfd, hfb, hs1, hs2, hl1, hl2⟩ := id hO
  refine aw_aload_n (q := 1) dX6_read_0 rfl rfl rfl ?_
  refine aw_iload_n (q := 2) dX6_read_1 rfl rfl rfl ?_
  by_cases ck1 : 0 ≤ i ∧ i < (D : Int)
  · skip
    obtain ⟨d, hi⟩ : ∃ d : Nat, i = (d : Int) := ⟨i.toNat, by omega⟩
    have hd : d < D := by omega
    have hd5 : d < 5 := by omega
    have hid : i.toNat = d := by omega
    have hdo := (hdv d hd5).1
    refine aw_callV [vI (i)] (q := 5) dX6_read_2 rfl ck_X6_deviceOf lk_X6_69 rfl ⟨Nat.le_of_ble_eq_true rfl, Nat.le_of_ble_eq_true rfl⟩ rfl rfl h0 rfl (Nat.le_of_ble_eq_true rfl) (by decide) (m_X6_deviceOf_t h0 h1 hi hd hN) rfl (fun _ _ _ h => (Rt_x h).elim) ?_
    rintro v n9 μ9 - ⟨v9, hv9, rfl, rfl, rfl⟩
    obtain rfl := Sum.inl.inj hv9
    refine aw_astore_n (q := 6) dX6_read_5 rfl rfl (by decide) ?_
    refine aw_aload_n (q := 7) dX6_read_6 rfl rfl rfl ?_
    refine aw_get (q := 10) dX6_read_7 rfl fl_X6_44 h0 rfl (fun _ => ?_)
    refine aw_aload_n (q := 11) dX6_read_10 rfl rfl rfl ?_
    refine aw_get (q := 14) dX6_read_11 rfl fl_X6_47 h0 rfl (fun _ => ?_)
    refine aw_callV [vR 26] (q := 17) dX6_read_14 rfl ck_X0_unpackTo lk_X6_199 rfl ⟨Nat.le_of_ble_eq_true rfl, Nat.le_of_ble_eq_true rfl⟩ rfl rfl hFd.1 rfl (Nat.le_of_ble_eq_true rfl) (by decide) (m_X0_unpackTo hFd hUn (by omega) hfd hfb) rfl (fun _ _ _ h => (Rt_x h).elim) ?_
    rintro v n9 μ2 - ⟨v9, hv9, rfl, nx2, so2, e2, f2, g2, h2, hB2, hU2, hF2, he2, hor⟩
    obtain rfl := Sum.inl.inj hv9
    obtain ⟨z9, rfl, hz9⟩ : ∃ z9 : Int, v9 = vI z9 ∧ ((z9 = 1 ∧ Whole fd.2 fd.1 e2 ∧ Tells fd.2 fd.1 e2 f2 g2 h2) ∨ (z9 = 0 ∧ ∀ k, ¬ Whole fd.2 fd.1 k)) := by
      rcases hor with ⟨h, a, b⟩ | ⟨h, a⟩
      · exact ⟨1, h, Or.inl ⟨rfl, a, b⟩⟩
      · exact ⟨0, h, Or.inr ⟨rfl, a⟩⟩
    refine aw_istore_n (q := 18) dX6_read_17 rfl rfl (by decide) ?_
    refine aw_aload_n (q := 19) dX6_read_18 rfl rfl rfl ?_
    refine aw_get (q := 22) dX6_read_19 rfl fl_X6_44 ((hF2 0 (by simp only [List.mem_cons, List.not_mem_nil, or_false]; omega)).trans h0) rfl (fun _ => ?_)
    refine aw_iconst (q := 23) dX6_read_22 rfl (by omega) ?_
    refine aw_put (q := 26) dX6_read_23 rfl fp_X6_190 hB2.1 (Nat.le_of_ble_eq_true rfl) trivial ?_
    refine aw_iload_n (q := 27) dX6_read_26 rfl rfl rfl ?_
    refine aw_if_ne (t := 32) (q := 30) dX6_read_27 rfl (by decide) (fun bc2 => ?_) (fun bc2 => ?_)
    · skip
      have hok : Whole fd.2 fd.1 e2 ∧ Tells fd.2 fd.1 e2 f2 g2 h2 := by rcases hz9 with h | h; exact h.2; omega
      refine aw_aload_n (q := 33) dX6_read_32 rfl rfl rfl ?_
      refine aw_get (q := 36) dX6_read_33 rfl fl_X6_73 ((hu_n (by omega)).trans ((hF2 (30 + 8 * d) (by simp only [List.mem_cons, List.not_mem_nil, or_false]; omega)).trans (hDv d hd5).1)) rfl (fun _ => ?_)
      refine aw_aload_n (q := 37) dX6_read_36 rfl rfl rfl ?_
      refine aw_get (q := 40) dX6_read_37 rfl fl_X6_47 ((hu_n (by omega)).trans ((hF2 0 (by simp only [List.mem_cons, List.not_mem_nil, or_false]; omega)).trans h0)) rfl (fun _ => ?_)
      refine aw_callV [vR 26] (q := 43) dX6_read_40 rfl ck_X5_becomeAs lk_X6_203 rfl ⟨Nat.le_of_ble_eq_true rfl, Nat.le_of_ble_eq_true rfl⟩ rfl rfl ((hu_n (by omega)).trans ((hF2 ((30 + 8 * d) + 1) (by simp only [List.mem_cons, List.not_mem_nil, or_false]; omega)).trans (hDv d hd5).2.1.1)) rfl (Nat.le_of_ble_eq_true rfl) (by decide) (m_X5_becomeAs (PL_k hU2 (fun j hj => hu_n (by omega))) (by omega) he2 he2 (Nat.le_refl 60) (Nat.le_refl 60) (PL_k (hDv d hd5).2.1 (fun j hj => (hu_n (by omega)).trans (hF2 _ (by simp only [List.mem_cons, List.not_mem_nil, or_false]; omega))))) rfl (fun _ _ _ h => (Vd_x h).elim) ?_
      rintro v n9 μ4 - ⟨hv9, rfl, f4, g4, h4, hP4, heq, hF4⟩
      obtain rfl := Sum.inl.inj hv9
      refine aw_aload_n (q := 44) dX6_read_43 rfl rfl rfl ?_
      refine aw_get (q := 47) dX6_read_44 rfl fl_X6_73 ((hF4 (30 + 8 * d) (by simp only [List.mem_cons, List.not_mem_nil, or_false]; omega)).trans ((hu_n (by omega)).trans ((hF2 (30 + 8 * d) (by simp only [List.mem_cons, List.not_mem_nil, or_false]; omega)).trans (hDv d hd5).1))) rfl (fun _ => ?_)
      refine aw_get (q := 50) dX6_read_47 rfl fl_X6_99 hP4.1 rfl (fun _ => ?_)
      exact aw_iret dX6_read_50 rfl (by decide) (by decide) ⟨rfl, Or.inr (Or.inr ⟨ck1, e2, f4, g4, h4, hok.1, fun p hp => by obtain ⟨i9, e9⟩ := hok.2 p hp; exact ⟨i9, by rw [(heq p hp).1, (heq p hp).2.1, (heq p hp).2.2]; exact e9⟩, rfl, by rw [hid]; exact CH_dev (v := dvRd (dv d) e2 f4 g4 h4) (CH_un (fd' := (0, fd.2)) (nx' := nx2) (so' := so2) hC (FrR_hu (FrR_of (lo := 24) (hi := 30) hF2 (by simp only [List.mem_cons, List.not_mem_nil, or_false]; omega)) (by omega)) ⟨hu_s, (hu_n (by omega)).trans hB2.2⟩ (PL_k hU2 (fun j hj => hu_n (by omega)))) hd5 (FrR_of hF4 (by simp only [List.mem_cons, List.not_mem_nil, or_false]; omega)) ⟨((hF4 (30 + 8 * d) (by simp only [List.mem_cons, List.not_mem_nil, or_false]; omega)).trans ((hu_n (by omega)).trans ((hF2 (30 + 8 * d) (by simp only [List.mem_cons, List.not_mem_nil, or_false]; omega)).trans (hDv d hd5).1))), hP4, KL_k (hDv d hd5).2.2 (fun j hj => (hF4 _ (by simp only [List.mem_cons, List.not_mem_nil, or_false]; omega)).trans ((hu_n (by omega)).trans (hF2 _ (by simp only [List.mem_cons, List.not_mem_nil, or_false]; omega))))⟩, fun b hb => (hF4 b (by simp only [List.mem_cons, List.not_mem_nil, or_false]; omega)).trans ((FrR_hu (FrR_of (lo := 24) (hi := 30) hF2 (by simp only [List.mem_cons, List.not_mem_nil, or_false]; omega)) (by omega)) b (by omega))⟩)⟩
    · skip
      refine aw_iconst (q := 31) dX6_read_30 rfl (by omega) ?_
      exact aw_iret dX6_read_31 rfl (by decide) (by decide) ⟨rfl, Or.inr (Or.inl ⟨ck1, by rcases hz9 with h | h; omega; exact h.2, rfl, (CH_un (fd' := (0, fd.2)) (nx' := nx2) (so' := so2) hC (FrR_hu (FrR_of (lo := 24) (hi := 30) hF2 (by simp only [List.mem_cons, List.not_mem_nil, or_false]; omega)) (by omega)) ⟨hu_s, (hu_n (by omega)).trans hB2.2⟩ (PL_k hU2 (fun j hj => hu_n (by omega)))), FrR_C (FrR_hu (FrR_of (lo := 24) (hi := 30) hF2 (by simp only [List.mem_cons, List.not_mem_nil, or_false]; omega)) (by omega)) (by omega)⟩)⟩
  · skip
    refine aw_callV [vI (i)] (q := 5) dX6_read_2 rfl ck_X6_deviceOf lk_X6_69 rfl ⟨Nat.le_of_ble_eq_true rfl, Nat.le_of_ble_eq_true rfl⟩ rfl rfl h0 rfl (Nat.le_of_ble_eq_true rfl) (by decide) (m_X6_deviceOf_x h0 ck1) rfl (fun E9 n9 μ9 h9 => by obtain ⟨rfl, rfl, h8⟩ := h9; obtain rfl := Sum.inr.inj h8; exact ⟨rfl, Or.inl ⟨ck1, rfl, rfl⟩⟩) ?_
    rintro v n9 μ9 - ⟨-, -, h9⟩
    cases h9
