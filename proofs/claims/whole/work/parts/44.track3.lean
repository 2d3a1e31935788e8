set_option maxHeartbeats 4000000 in
set_option maxRecDepth 100000 in
theorem m_X6_in {n : Nat} {μ : AH} {D : Nat} {dv : Nat → DVt} {Fn : Nat} {fv : Nat → FVt} {sv : SVt} {pk fd : Nat × (Nat → Int)} {spd lim B : Int} {i p j : Int} (hC : CH μ D dv Fn fv sv pk fd spd lim) (hO : COk B D dv Fn fv sv pk fd spd lim) : AMet YX6_in [vR 0, vI (i), vI (p), vI (j)] n μ (fun o n' μ' => n' = n ∧ μ' = μ ∧ ∃ z : Int, o = ox ((0 ≤ i ∧ i < (D : Int)) ∧ 0 ≤ p ∧ p < ((dv i.toNat).1 : Int)) IX (ox (0 ≤ j ∧ j < (Fn : Int)) IX (.inl (some (vI z)))) ∧ (((0 ≤ i ∧ i < (D : Int)) ∧ 0 ≤ p ∧ p < ((dv i.toNat).1 : Int)) → (0 ≤ j ∧ j < (Fn : Int)) → ((z = 1 ∧ inF (fv j.toNat).1 (fv j.toNat).2.1 (fv j.toNat).2.2 ((dv i.toNat).2.2.1 p.toNat) ((dv i.toNat).2.2.2.1 p.toNat)) ∨ (z = 0 ∧ ¬ inF (fv j.toNat).1 (fv j.toNat).2.1 (fv j.toNat).2.2 ((dv i.toNat).2.2.1 p.toNat) ((dv i.toNat).2.2.2.1 p.toNat))))) := by
  refine AMet.of (by decide) rfl (Nat.le_of_ble_eq_true rfl) ?_
  obtain ⟨h0, h1, h2, hS, ⟨mW, mL, mc, msc, mdc, hM⟩, ⟨pnx, pso, hPk⟩, ⟨enx, eso, hFd⟩, ⟨ue, uf, ug, uh, hUn⟩, hDv, hFv⟩ := id hC
  obtain ⟨hN, hdv, hFn, hfv, hsn, hsb, hpk, hfd, hfb, hs1, hs2, hl1, hl2⟩ := id hO
  refine aw_aload_n (q := 1) dX6_in_0 rfl rfl rfl ?_
  refine aw_iload_n (q := 2) dX6_in_1 rfl rfl rfl ?_
  refine aw_iload_n (q := 3) dX6_in_2 rfl rfl rfl ?_
  by_cases cd : 0 ≤ i ∧ i < (D : Int)
  · skip
    obtain ⟨d, hi⟩ : ∃ d : Nat, i = (d : Int) := ⟨i.toNat, by omega⟩
    have hd : d < D := by omega
    have hd5 : d < 5 := by omega
    have hid : i.toNat = d := by omega
    have hdo := (hdv d hd5).1
    by_cases cp : 0 ≤ p ∧ p < ((dv d).1 : Int)
    · skip
      obtain ⟨r, hp⟩ : ∃ r : Nat, p = (r : Int) := ⟨p.toNat, by omega⟩
      have hr : r < (dv d).1 := by omega
      have hpr : p.toNat = r := by omega
      have hc60 : (dv d).1 ≤ 60 := hdo.1
      have ck : (0 ≤ i ∧ i < (D : Int)) ∧ 0 ≤ p ∧ p < ((dv i.toNat).1 : Int) := ⟨cd, by rw [hid]; exact cp⟩
      have hbr := hdo.2.1 r hr
      refine aw_callV [vI (i), vI (p)] (q := 6) dX6_in_3 rfl ck_X6_deviceWithPlace lk_X6_122 rfl ⟨Nat.le_of_ble_eq_true rfl, Nat.le_of_ble_eq_true rfl⟩ rfl rfl h0 rfl (Nat.le_of_ble_eq_true rfl) (by decide) (m_X6_deviceWithPlace_t h0 h1 (hDv d hd5) hi hd hN cp) rfl (fun _ _ _ h => (Rt_x h).elim) ?_
      rintro v n9 μ9 - ⟨v9, hv9, rfl, rfl, rfl⟩
      obtain rfl := Sum.inl.inj hv9
      refine aw_get (q := 9) dX6_in_6 rfl fl_X6_73 (hDv d hd5).1 rfl (fun _ => ?_)
      refine aw_astore (q := 11) dX6_in_9 rfl (by decide) ?_
      refine aw_aload_n (q := 12) dX6_in_11 rfl rfl rfl ?_
      refine aw_iload_n (q := 13) dX6_in_12 rfl rfl rfl ?_
      by_cases ck1 : 0 ≤ j ∧ j < (Fn : Int)
      · skip
        obtain ⟨e, hj⟩ : ∃ e : Nat, j = (e : Int) := ⟨j.toNat, by omega⟩
        have he : e < Fn := by omega
        have he4 : e < 4 := by omega
        have hje : j.toNat = e := by omega
        obtain ⟨hfc, hfe⟩ := hfv e he4
        refine aw_callV [vI (j)] (q := 16) dX6_in_13 rfl ck_X6_fenceOf lk_X6_174 rfl ⟨Nat.le_of_ble_eq_true rfl, Nat.le_of_ble_eq_true rfl⟩ rfl rfl h0 rfl (Nat.le_of_ble_eq_true rfl) (by decide) (m_X6_fenceOf_t h0 h2 hj he hFn) rfl (fun _ _ _ h => (Rt_x h).elim) ?_
        rintro v n9 μ9 - ⟨v9, hv9, rfl, rfl, rfl⟩
        obtain rfl := Sum.inl.inj hv9
        refine aw_aload (q := 18) dX6_in_16 rfl rfl ?_
        refine aw_get (q := 21) dX6_in_18 rfl fl_X6_130 (hDv d hd5).2.1.1 rfl (fun _ => ?_)
        refine aw_iload_n (q := 22) dX6_in_21 rfl rfl rfl ?_
        refine aw_iaload (j := r) (q := 23) dX6_in_22 rfl (hDv d hd5).2.1.2.2.1 (by omega) (by omega) (fun r2 => ?_)
        refine aw_aload (q := 25) dX6_in_23 rfl rfl ?_
        refine aw_get (q := 28) dX6_in_25 rfl fl_X6_133 (hDv d hd5).2.1.1 rfl (fun _ => ?_)
        refine aw_iload_n (q := 29) dX6_in_28 rfl rfl rfl ?_
        refine aw_iaload (j := r) (q := 30) dX6_in_29 rfl (hDv d hd5).2.1.2.2.2 (by omega) (by omega) (fun r3 => ?_)
        refine aw_callV [vI ((dv d).2.2.1 r), vI ((dv d).2.2.2.1 r)] (q := 33) dX6_in_30 rfl ck_X3_holds lk_X6_183 rfl ⟨Nat.le_of_ble_eq_true rfl, Nat.le_of_ble_eq_true rfl⟩ rfl rfl (hFv e he4).1 rfl (Nat.le_of_ble_eq_true rfl) (by decide) (m_X3_holds hfe (by omega) (hFv e he4) hfc) rfl (fun _ _ _ h => (Rt_x h).elim) ?_
        rintro v n9 μ9 - ⟨v9, hv9, rfl, rfl, h9⟩
        obtain rfl := Sum.inl.inj hv9
        obtain ⟨z9, rfl, hz9⟩ : ∃ z9 : Int, v9 = vI z9 ∧ ((z9 = 1 ∧ inF (fv e).1 (fv e).2.1 (fv e).2.2 ((dv d).2.2.1 r) ((dv d).2.2.2.1 r)) ∨ (z9 = 0 ∧ ¬ inF (fv e).1 (fv e).2.1 (fv e).2.2 ((dv d).2.2.1 r) ((dv d).2.2.2.1 r))) := by rcases h9 with ⟨e9, h9⟩ | ⟨e9, h9⟩; exact ⟨1, e9, Or.inl ⟨rfl, h9⟩⟩; exact ⟨0, e9, Or.inr ⟨rfl, h9⟩⟩
        exact aw_zret dX6_in_33 rfl (by omega) (by decide) (by decide) ⟨rfl, rfl, _, ((ox_t ck).trans (ox_t ck1)).symm, fun _ _ => by rw [hid, hpr, hje]; exact hz9⟩
      · skip
        refine aw_callV [vI (j)] (q := 16) dX6_in_13 rfl ck_X6_fenceOf lk_X6_174 rfl ⟨Nat.le_of_ble_eq_true rfl, Nat.le_of_ble_eq_true rfl⟩ rfl rfl h0 rfl (Nat.le_of_ble_eq_true rfl) (by decide) (m_X6_fenceOf_x h0 ck1) rfl (fun E9 n9 μ9 h9 => by obtain ⟨rfl, rfl, h8⟩ := h9; obtain rfl := Sum.inr.inj h8; exact ⟨rfl, rfl, 0, ((ox_t ck).trans (ox_f ck1)).symm, fun _ h => absurd h ck1⟩) ?_
        rintro v n9 μ9 - ⟨-, -, h9⟩
        cases h9
    · skip
      have ck : ¬ ((0 ≤ i ∧ i < (D : Int)) ∧ 0 ≤ p ∧ p < ((dv i.toNat).1 : Int)) := fun h => cp (by rw [← hid]; exact h.2)
      refine aw_callV [vI (i), vI (p)] (q := 6) dX6_in_3 rfl ck_X6_deviceWithPlace lk_X6_122 rfl ⟨Nat.le_of_ble_eq_true rfl, Nat.le_of_ble_eq_true rfl⟩ rfl rfl h0 rfl (Nat.le_of_ble_eq_true rfl) (by decide) (m_X6_deviceWithPlace_y h0 h1 (hDv d hd5) hi hd hN cp) rfl (fun E9 n9 μ9 h9 => by obtain ⟨rfl, rfl, h8⟩ := h9; obtain rfl := Sum.inr.inj h8; exact ⟨rfl, rfl, 0, (ox_f ck).symm, fun h => absurd h ck⟩) ?_
      rintro v n9 μ9 - ⟨-, -, h9⟩
      cases h9
  · skip
    have ck : ¬ ((0 ≤ i ∧ i < (D : Int)) ∧ 0 ≤ p ∧ p < ((dv i.toNat).1 : Int)) := fun h => cd h.1
    refine aw_callV [vI (i), vI (p)] (q := 6) dX6_in_3 rfl ck_X6_deviceWithPlace lk_X6_122 rfl ⟨Nat.le_of_ble_eq_true rfl, Nat.le_of_ble_eq_true rfl⟩ rfl rfl h0 rfl (Nat.le_of_ble_eq_true rfl) (by decide) (m_X6_deviceWithPlace_x h0 cd) rfl (fun E9 n9 μ9 h9 => by obtain ⟨rfl, rfl, h8⟩ := h9; obtain rfl := Sum.inr.inj h8; exact ⟨rfl, rfl, 0, (ox_f ck).symm, fun h => absurd h ck⟩) ?_
    rintro v n9 μ9 - ⟨-, -, h9⟩
    cases h9
/-- the first of 0, 1, .. below N, or -1 -/
def PortR (N : Nat) (P : Nat → Prop) (z : Int) : Prop := (∃ k : Nat, z = (k : Int) ∧ k < N ∧ P k ∧ ∀ j, j < k → ¬ P j) ∨ (z = -1 ∧ ∀ j, j < N → ¬ P j)
theorem PortR_u {N : Nat} {P : Nat → Prop} {z z' : Int} (h : PortR N P z) (h' : PortR N P z') : z = z' := by
  rcases h with ⟨k, e, h1, h2, h3⟩ | ⟨e, h1⟩ <;> rcases h' with ⟨k', e', h1', h2', h3'⟩ | ⟨e', h1'⟩
  · rcases Nat.lt_trichotomy k k' with q | q | q
    · exact absurd h2 (h3' k q)
    · rw [e, e', q]
    · exact absurd h2' (h3 k' q)
  · exact absurd h2 (h1' k h1)
  · exact absurd h2' (h1 k' h1')
  · rw [e, e']
set_option maxHeartbeats 4000000 in
set_option maxRecDepth 100000 in
theorem m_X6_port {n : Nat} {μ : AH} {D : Nat} {dv : Nat → DVt} {Fn : Nat} {fv : Nat → FVt} {sv : SVt} {pk fd : Nat × (Nat → Int)} {spd lim B : Int} {i p : Int} (hC : CH μ D dv Fn fv sv pk fd spd lim) (hO : COk B D dv Fn fv sv pk fd spd lim) : AMet YX6_port [vR 0, vI (i), vI (p)] n μ (fun o n' μ' => n' = n ∧ μ' = μ ∧ ∃ z : Int, o = ox ((0 ≤ i ∧ i < (D : Int)) ∧ 0 ≤ p ∧ p < ((dv i.toNat).1 : Int)) IX (.inl (some (vI z))) ∧ (((0 ≤ i ∧ i < (D : Int)) ∧ 0 ≤ p ∧ p < ((dv i.toNat).1 : Int)) → PortR Fn (fun e => inF (fv e).1 (fv e).2.1 (fv e).2.2 ((dv i.toNat).2.2.1 p.toNat) ((dv i.toNat).2.2.2.1 p.toNat)) z)) := by
  refine AMet.of (by decide) rfl (Nat.le_of_ble_eq_true rfl) ?_
  obtain ⟨h0, h1, h2, hS, ⟨mW, mL, mc, msc, mdc, hM⟩, ⟨pnx, pso, hPk⟩, ⟨enx, eso, hFd⟩, ⟨ue, uf, ug, uh, hUn⟩, hDv, hFv⟩ := id hC
  obtain ⟨hN, hdv, hFn, hfv, hsn, hsb, hpk, hfd, hfb, hs1, hs2, hl1, hl2⟩ := id hO
  refine aw_aload_n (q := 1) dX6_port_0 rfl rfl rfl ?_
  refine aw_iload_n (q := 2) dX6_port_1 rfl rfl rfl ?_
  refine aw_iload_n (q := 3) dX6_port_2 rfl rfl rfl ?_
  by_cases cd : 0 ≤ i ∧ i < (D : Int)
  · skip
    obtain ⟨d, hi⟩ : ∃ d : Nat, i = (d : Int) := ⟨i.toNat, by omega⟩
    have hd : d < D := by omega
    have hd5 : d < 5 := by omega
    have hid : i.toNat = d := by omega
    have hdo := (hdv d hd5).1
    by_cases cp : 0 ≤ p ∧ p < ((dv d).1 : Int)
    · skip
      obtain ⟨r, hp⟩ : ∃ r : Nat, p = (r : Int) := ⟨p.toNat, by omega⟩
      have hr : r < (dv d).1 := by omega
      have hpr : p.toNat = r := by omega
      have hc60 : (dv d).1 ≤ 60 := hdo.1
      have ck : (0 ≤ i ∧ i < (D : Int)) ∧ 0 ≤ p ∧ p < ((dv i.toNat).1 : Int) := ⟨cd, by rw [hid]; exact cp⟩
      have hbr := hdo.2.1 r hr
      refine aw_callV [vI (i), vI (p)] (q := 6) dX6_port_3 rfl ck_X6_deviceWithPlace lk_X6_122 rfl ⟨Nat.le_of_ble_eq_true rfl, Nat.le_of_ble_eq_true rfl⟩ rfl rfl h0 rfl (Nat.le_of_ble_eq_true rfl) (by decide) (m_X6_deviceWithPlace_t h0 h1 (hDv d hd5) hi hd hN cp) rfl (fun _ _ _ h => (Rt_x h).elim) ?_
      rintro v n9 μ9 - ⟨v9, hv9, rfl, rfl, rfl⟩
      obtain rfl := Sum.inl.inj hv9
      refine aw_get (q := 9) dX6_port_6 rfl fl_X6_73 (hDv d hd5).1 rfl (fun _ => ?_)
      refine aw_astore_n (q := 10) dX6_port_9 rfl rfl (by decide) ?_
      refine aw_iconst (q := 11) dX6_port_10 rfl (by omega) ?_
      refine aw_istore (q := 13) dX6_port_11 rfl (by decide) ?_
      have loop : ∀ (j9 e : Nat) (ex : Int), Fn - e < j9 → ex = (e : Int) → e ≤ Fn → (∀ e9, e9 < e → ¬ (fun e => inF (fv e).1 (fv e).2.1 (fv e).2.2 ((dv d).2.2.1 r) ((dv d).2.2.2.1 r)) e9) → AW YX6_port none (fun o n' μ' => n' = n9 ∧ μ' = μ9 ∧ ∃ z : Int, o = ox ((0 ≤ i ∧ i < (D : Int)) ∧ 0 ≤ p ∧ p < ((dv i.toNat).1 : Int)) IX (.inl (some (vI z))) ∧ (((0 ≤ i ∧ i < (D : Int)) ∧ 0 ≤ p ∧ p < ((dv i.toNat).1 : Int)) → PortR Fn (fun e => inF (fv e).1 (fv e).2.1 (fv e).2.2 ((dv i.toNat).2.2.1 p.toNat) ((dv i.toNat).2.2.2.1 p.toNat)) z)) 13 [some (vR 0), some (vI i), some (vI p), some (vR ((30 + 8 * d) + 1)), some (vI ex)] [] n9 μ9 (2) (12) := by
        intro j9
        induction j9 with
        | zero => intro e ex hj9; exact absurd hj9 (Nat.not_lt_zero _)
        | succ j9 ih =>
          intro e ex hj9 hex heF hno
          refine aw_iload (q := 15) dX6_port_13 rfl rfl ?_
          refine aw_aload_n (q := 16) dX6_port_15 rfl rfl rfl ?_
          refine aw_get (q := 19) dX6_port_16 rfl fl_X6_54 h0 rfl (fun _ => ?_)
          refine aw_ic_ge (t := 56) (q := 22) dX6_port_19 rfl (by decide) (fun bc1 => ?_) (fun bc1 => ?_)
          · skip
            refine aw_iconst (q := 57) dX6_port_56 rfl (by omega) ?_
            exact aw_iret dX6_port_57 rfl (by decide) (by decide) ⟨rfl, rfl, _, (ox_t ck).symm, fun _ => by rw [hid, hpr]; exact Or.inr ⟨rfl, fun e9 h9 => hno e9 (by omega)⟩⟩
          · skip
            have he4 : e < 4 := by omega
            obtain ⟨hfc, hfe⟩ := hfv e he4
            refine aw_aload_n (q := 23) dX6_port_22 rfl rfl rfl ?_
            refine aw_get (q := 26) dX6_port_23 rfl fl_X6_17 h0 rfl (fun _ => ?_)
            refine aw_iload (q := 28) dX6_port_26 rfl rfl ?_
            refine aw_aaload (j := e) (b := (70 + 3 * e)) (q := 29) dX6_port_28 rfl h2 (by omega) (by omega) (by decide) (fA_at (by omega)) ?_
            refine aw_aload_n (q := 30) dX6_port_29 rfl rfl rfl ?_
            refine aw_get (q := 33) dX6_port_30 rfl fl_X6_130 (hDv d hd5).2.1.1 rfl (fun _ => ?_)
            refine aw_iload_n (q := 34) dX6_port_33 rfl rfl rfl ?_
            refine aw_iaload (j := r) (q := 35) dX6_port_34 rfl (hDv d hd5).2.1.2.2.1 (by omega) (by omega) (fun r2 => ?_)
            refine aw_aload_n (q := 36) dX6_port_35 rfl rfl rfl ?_
            refine aw_get (q := 39) dX6_port_36 rfl fl_X6_133 (hDv d hd5).2.1.1 rfl (fun _ => ?_)
            refine aw_iload_n (q := 40) dX6_port_39 rfl rfl rfl ?_
            refine aw_iaload (j := r) (q := 41) dX6_port_40 rfl (hDv d hd5).2.1.2.2.2 (by omega) (by omega) (fun r3 => ?_)
            refine aw_callV [vI ((dv d).2.2.1 r), vI ((dv d).2.2.2.1 r)] (q := 44) dX6_port_41 rfl ck_X3_holds lk_X6_183 rfl ⟨Nat.le_of_ble_eq_true rfl, Nat.le_of_ble_eq_true rfl⟩ rfl rfl (hFv e he4).1 rfl (Nat.le_of_ble_eq_true rfl) (by decide) (m_X3_holds hfe (by omega) (hFv e he4) hfc) rfl (fun _ _ _ h => (Rt_x h).elim) ?_
            rintro v n9 μ9 - ⟨v9, hv9, rfl, rfl, h9⟩
            obtain rfl := Sum.inl.inj hv9
            obtain ⟨z9, rfl, hz9⟩ : ∃ z9 : Int, v9 = vI z9 ∧ ((z9 = 1 ∧ inF (fv e).1 (fv e).2.1 (fv e).2.2 ((dv d).2.2.1 r) ((dv d).2.2.2.1 r)) ∨ (z9 = 0 ∧ ¬ inF (fv e).1 (fv e).2.1 (fv e).2.2 ((dv d).2.2.1 r) ((dv d).2.2.2.1 r))) := by rcases h9 with ⟨e9, h9⟩ | ⟨e9, h9⟩; exact ⟨1, e9, Or.inl ⟨rfl, h9⟩⟩; exact ⟨0, e9, Or.inr ⟨rfl, h9⟩⟩
            refine aw_if_eq (t := 50) (q := 47) dX6_port_44 rfl (by decide) (fun bc4 => ?_) (fun bc4 => ?_)
            · skip
              have hzn : ¬ (fun e => inF (fv e).1 (fv e).2.1 (fv e).2.2 ((dv d).2.2.1 r) ((dv d).2.2.2.1 r)) e := by rcases hz9 with ⟨h, _⟩ | ⟨_, h⟩; omega; exact h
              refine aw_iinc (q := 53) dX6_port_50 rfl rfl (by decide) (by omega) ?_
              refine aw_goto (q := 13) dX6_port_53 (by decide) ?_
              exact ih (e + 1) _ (by omega) (by omega) (by omega) (fun e9 h9 => by rcases Nat.lt_succ_iff_lt_or_eq.mp h9 with h8 | h8; exact hno e9 h8; rw [h8]; exact hzn)
            · skip
              have hzy : (fun e => inF (fv e).1 (fv e).2.1 (fv e).2.2 ((dv d).2.2.1 r) ((dv d).2.2.2.1 r)) e := by rcases hz9 with ⟨_, h⟩ | ⟨h, _⟩; exact h; exact absurd h (by assumption)
              refine aw_iload (q := 49) dX6_port_47 rfl rfl ?_
              exact aw_iret dX6_port_49 rfl (by decide) (by decide) ⟨rfl, rfl, _, (ox_t ck).symm, fun _ => by rw [hid, hpr]; exact Or.inl ⟨e, hex, by omega, hzy, hno⟩⟩
      exact loop (Fn + 1) 0 _ (by omega) rfl (by omega) (fun e9 h9 => absurd h9 (Nat.not_lt_zero e9))
    · skip
      have ck : ¬ ((0 ≤ i ∧ i < (D : Int)) ∧ 0 ≤ p ∧ p < ((dv i.toNat).1 : Int)) := fun h => cp (by rw [← hid]; exact h.2)
      refine aw_callV [vI (i), vI (p)] (q := 6) dX6_port_3 rfl ck_X6_deviceWithPlace lk_X6_122 rfl ⟨Nat.le_of_ble_eq_true rfl, Nat.le_of_ble_eq_true rfl⟩ rfl rfl h0 rfl (Nat.le_of_ble_eq_true rfl) (by decide) (m_X6_deviceWithPlace_y h0 h1 (hDv d hd5) hi hd hN cp) rfl (fun E9 n9 μ9 h9 => by obtain ⟨rfl, rfl, h8⟩ := h9; obtain rfl := Sum.inr.inj h8; exact ⟨rfl, rfl, 0, (ox_f ck).symm, fun h => absurd h ck⟩) ?_
      rintro v n9 μ9 - ⟨-, -, h9⟩
      cases h9
  · skip
    have ck : ¬ ((0 ≤ i ∧ i < (D : Int)) ∧ 0 ≤ p ∧ p < ((dv i.toNat).1 : Int)) := fun h => cd h.1
    refine aw_callV [vI (i), vI (p)] (q := 6) dX6_port_3 rfl ck_X6_deviceWithPlace lk_X6_122 rfl ⟨Nat.le_of_ble_eq_true rfl, Nat.le_of_ble_eq_true rfl⟩ rfl rfl h0 rfl (Nat.le_of_ble_eq_true rfl) (by decide) (m_X6_deviceWithPlace_x h0 cd) rfl (fun E9 n9 μ9 h9 => by obtain ⟨rfl, rfl, h8⟩ := h9; obtain rfl := Sum.inr.inj h8; exact ⟨rfl, rfl, 0, (ox_f ck).symm, fun h => absurd h ck⟩) ?_
    rintro v n9 μ9 - ⟨-, -, h9⟩
    cases h9
/-- the weight of a sight (t, x, y) and a device -/
def wgt (v : DVt) (t x y : Int) : Int := if v.1 = 0 then -1 else (x - v.2.2.1 (nrN (fun p => zabs (tt v.2.2.2.2.2.1 v.2.2.2.2.2.2.1 v.2.2.2.2.2.2.2 (v.2.1 p) - t)) v.1)) * (x - v.2.2.1 (nrN (fun p => zabs (tt v.2.2.2.2.2.1 v.2.2.2.2.2.2.1 v.2.2.2.2.2.2.2 (v.2.1 p) - t)) v.1)) + (y - v.2.2.2.1 (nrN (fun p => zabs (tt v.2.2.2.2.2.1 v.2.2.2.2.2.2.1 v.2.2.2.2.2.2.2 (v.2.1 p) - t)) v.1)) * (y - v.2.2.2.1 (nrN (fun p => zabs (tt v.2.2.2.2.2.1 v.2.2.2.2.2.2.1 v.2.2.2.2.2.2.2 (v.2.1 p) - t)) v.1))
set_option maxHeartbeats 4000000 in
set_option maxRecDepth 100000 in
theorem m_X6_weightOf {n : Nat} {μ : AH} {D : Nat} {dv : Nat → DVt} {Fn : Nat} {fv : Nat → FVt} {sv : SVt} {pk fd : Nat × (Nat → Int)} {spd lim B : Int} {x : Int} {s d : Nat} (hx : x = (s : Int)) (hs : s < sv.1) (hd5 : d < 5) (hC : CH μ D dv Fn fv sv pk fd spd lim) (hO : COk B D dv Fn fv sv pk fd spd lim) : AMet YX6_weightOf [vR 0, vI (x), vR (30 + 8 * d)] n μ (Pv n μ (vL (wgt (dv d) (sv.2.1 s) (sv.2.2.1 s) (sv.2.2.2 s)))) := by
  refine AMet.of (by decide) rfl (Nat.le_of_ble_eq_true rfl) ?_
  obtain ⟨h0, h1, h2, hS, ⟨mW, mL, mc, msc, mdc, hM⟩, ⟨pnx, pso, hPk⟩, ⟨enx, eso, hFd⟩, ⟨ue, uf, ug, uh, hUn⟩, hDv, hFv⟩ := id hC
  obtain ⟨hN, hdv, hFn, hfv, hsn, hsb, hpk, hfd, hfb, hs1, hs2, hl1, hl2⟩ := id hO
  have hdo := (hdv d hd5).1
  have hsb1 := hsb s hs
  refine aw_aload_n (q := 1) dX6_weightOf_0 rfl rfl rfl ?_
  refine aw_aload_n (q := 2) dX6_weightOf_1 rfl rfl rfl ?_
  refine aw_get (q := 5) dX6_weightOf_2 rfl fl_X6_26 h0 rfl (fun _ => ?_)
  refine aw_get (q := 8) dX6_weightOf_5 rfl fl_X6_126 hS.1 rfl (fun _ => ?_)
  refine aw_iload_n (q := 9) dX6_weightOf_8 rfl rfl rfl ?_
  refine aw_iaload (j := s) (q := 10) dX6_weightOf_9 rfl hS.2.1 (by omega) (by omega) (fun r1 => ?_)
  refine aw_callV [vI (sv.2.1 s)] (q := 13) dX6_weightOf_10 rfl ck_X2_placeNearestTo lk_X6_223 rfl ⟨Nat.le_of_ble_eq_true rfl, Nat.le_of_ble_eq_true rfl⟩ rfl rfl (hDv d hd5).1 rfl (Nat.le_of_ble_eq_true rfl) (by decide) (m_X2_placeNearestTo (by omega) (hDv d hd5) hdo) rfl (fun _ _ _ h => (Rt_x h).elim) ?_
  rintro v n9 μ9 - ⟨v9, hv9, rfl, rfl, rfl⟩
  obtain rfl := Sum.inl.inj hv9
  generalize hng : (if (dv d).1 = 0 then -1 else (((nrN (fun p => zabs (tt (dv d).2.2.2.2.2.1 (dv d).2.2.2.2.2.2.1 (dv d).2.2.2.2.2.2.2 ((dv d).2.1 p) - sv.2.1 s)) (dv d).1) : Nat) : Int)) = ng
  refine aw_istore_n (q := 14) dX6_weightOf_13 rfl rfl (by decide) ?_
  refine aw_iload_n (q := 15) dX6_weightOf_14 rfl rfl rfl ?_
  refine aw_iconst (q := 16) dX6_weightOf_15 rfl (by omega) ?_
  refine aw_ic_ne (t := 25) (q := 19) dX6_weightOf_16 rfl (by decide) (fun bc2 => ?_) (fun bc2 => ?_)
  · skip
    have hc0 : (dv d).1 ≠ 0 := fun h => by rw [if_pos h] at hng; omega
    have hnr : ng = (((nrN (fun p => zabs (tt (dv d).2.2.2.2.2.1 (dv d).2.2.2.2.2.2.1 (dv d).2.2.2.2.2.2.2 ((dv d).2.1 p) - sv.2.1 s)) (dv d).1) : Nat) : Int) := by rw [if_neg hc0] at hng; exact hng.symm
    have hnl : (nrN (fun p => zabs (tt (dv d).2.2.2.2.2.1 (dv d).2.2.2.2.2.2.1 (dv d).2.2.2.2.2.2.2 ((dv d).2.1 p) - sv.2.1 s)) (dv d).1) < (dv d).1 := nrN_lt _ _ (by omega)
    have hbn := hdo.2.1 (nrN (fun p => zabs (tt (dv d).2.2.2.2.2.1 (dv d).2.2.2.2.2.2.1 (dv d).2.2.2.2.2.2.2 ((dv d).2.1 p) - sv.2.1 s)) (dv d).1) hnl
    have hc60 : (dv d).1 ≤ 60 := hdo.1
    refine aw_aload_n (q := 26) dX6_weightOf_25 rfl rfl rfl ?_
    refine aw_get (q := 29) dX6_weightOf_26 rfl fl_X6_73 (hDv d hd5).1 rfl (fun _ => ?_)
    refine aw_iload_n (q := 30) dX6_weightOf_29 rfl rfl rfl ?_
    refine aw_aload_n (q := 31) dX6_weightOf_30 rfl rfl rfl ?_
    refine aw_get (q := 34) dX6_weightOf_31 rfl fl_X6_26 h0 rfl (fun _ => ?_)
    refine aw_get (q := 37) dX6_weightOf_34 rfl fl_X6_130 hS.1 rfl (fun _ => ?_)
    refine aw_iload_n (q := 38) dX6_weightOf_37 rfl rfl rfl ?_
    refine aw_iaload (j := s) (q := 39) dX6_weightOf_38 rfl hS.2.2.1 (by omega) (by omega) (fun r3 => ?_)
    refine aw_aload_n (q := 40) dX6_weightOf_39 rfl rfl rfl ?_
    refine aw_get (q := 43) dX6_weightOf_40 rfl fl_X6_26 h0 rfl (fun _ => ?_)
    refine aw_get (q := 46) dX6_weightOf_43 rfl fl_X6_133 hS.1 rfl (fun _ => ?_)
    refine aw_iload_n (q := 47) dX6_weightOf_46 rfl rfl rfl ?_
    refine aw_iaload (j := s) (q := 48) dX6_weightOf_47 rfl hS.2.2.2 (by omega) (by omega) (fun r4 => ?_)
    refine aw_callV [vI (ng), vI (sv.2.2.1 s), vI (sv.2.2.2 s)] (q := 51) dX6_weightOf_48 rfl ck_X5_squareTo lk_X6_228 rfl ⟨Nat.le_of_ble_eq_true rfl, Nat.le_of_ble_eq_true rfl⟩ rfl rfl (hDv d hd5).2.1.1 rfl (Nat.le_of_ble_eq_true rfl) (by decide) (m_X5_squareTo (r := (nrN (fun p => zabs (tt (dv d).2.2.2.2.2.1 (dv d).2.2.2.2.2.2.1 (dv d).2.2.2.2.2.2.2 ((dv d).2.1 p) - sv.2.1 s)) (dv d).1)) hnr (by omega) (by omega) (by omega) (by omega) (hDv d hd5).2.1 hdo.1 (Nat.le_refl 60)) rfl (fun _ _ _ h => (Rt_x h).elim) ?_
    rintro v n9 μ9 - ⟨v9, hv9, rfl, rfl, rfl⟩
    obtain rfl := Sum.inl.inj hv9
    exact aw_lret dX6_weightOf_51 rfl (by decide) (by decide) ⟨_, rfl, rfl, rfl, congrArg vL (by unfold wgt; rw [if_neg (by omega)])⟩
  · skip
    have hc0 : (dv d).1 = 0 := by by_cases h : (dv d).1 = 0; exact h; rw [if_neg h] at hng; omega
    refine aw_ldc2 (a := -1) (q := 22) dX6_weightOf_19 rfl k_X6_226 (by omega) ?_
    refine aw_goto (q := 51) dX6_weightOf_22 (by decide) ?_
    exact aw_lret dX6_weightOf_51 rfl (by decide) (by decide) ⟨_, rfl, rfl, rfl, congrArg vL (by unfold wgt; rw [if_pos (by omega)])⟩
set_option maxHeartbeats 4000000 in
set_option maxRecDepth 100000 in
theorem m_X6_weight {n : Nat} {μ : AH} {D : Nat} {dv : Nat → DVt} {Fn : Nat} {fv : Nat → FVt} {sv : SVt} {pk fd : Nat × (Nat → Int)} {spd lim B : Int} {x i : Int} (hC : CH μ D dv Fn fv sv pk fd spd lim) (hO : COk B D dv Fn fv sv pk fd spd lim) : AMet YX6_weight [vR 0, vI (x), vI (i)] n μ (Pu n μ (ox (0 ≤ x ∧ x < (sv.1 : Int)) IX (ox (0 ≤ i ∧ i < (D : Int)) IX (.inl (some (vL (wgt (dv i.toNat) (sv.2.1 x.toNat) (sv.2.2.1 x.toNat) (sv.2.2.2 x.toNat)))))))) := by
  refine AMet.of (by decide) rfl (Nat.le_of_ble_eq_true rfl) ?_
  obtain ⟨h0, h1, h2, hS, ⟨mW, mL, mc, msc, mdc, hM⟩, ⟨pnx, pso, hPk⟩, ⟨enx, eso, hFd⟩, ⟨ue, uf, ug, uh, hUn⟩, hDv, hFv⟩ := id hC
  obtain ⟨hN, hdv, hFn, hfv, hsn, hsb, hpk, hfd, hfb, hs1, hs2, hl1, hl2⟩ := id hO
  refine aw_iload_n (q := 1) dX6_weight_0 rfl rfl rfl ?_
  refine aw_aload_n (q := 2) dX6_weight_1 rfl rfl rfl ?_
  refine aw_get (q := 5) dX6_weight_2 rfl fl_X6_26 h0 rfl (fun _ => ?_)
  refine aw_get (q := 8) dX6_weight_5 rfl fl_X6_99 hS.1 rfl (fun _ => ?_)
  by_cases ck1 : 0 ≤ x ∧ x < (sv.1 : Int)
  · skip
    refine aw_callS [vI (x), vI ((sv.1 : Nat))] (q := 11) dX6_weight_8 rfl ck_X6_refuseNumber lk_X6_191 rfl ⟨Nat.le_of_ble_eq_true rfl, Nat.le_of_ble_eq_true rfl⟩ rfl rfl (Nat.le_of_ble_eq_true rfl) (by decide) (m_X6_refuseNumber_t ck1) rfl (fun _ _ _ h => (Vd_x h).elim) ?_
    rintro v n9 μ9 - ⟨hv9, rfl, rfl⟩
    obtain rfl := Sum.inl.inj hv9
    obtain ⟨s, hxs⟩ : ∃ s : Nat, x = (s : Int) := ⟨x.toNat, by omega⟩
    refine aw_aload_n (q := 12) dX6_weight_11 rfl rfl rfl ?_
    refine aw_iload_n (q := 13) dX6_weight_12 rfl rfl rfl ?_
    refine aw_aload_n (q := 14) dX6_weight_13 rfl rfl rfl ?_
    refine aw_iload_n (q := 15) dX6_weight_14 rfl rfl rfl ?_
    by_cases ck2 : 0 ≤ i ∧ i < (D : Int)
    · skip
      obtain ⟨d, hi⟩ : ∃ d : Nat, i = (d : Int) := ⟨i.toNat, by omega⟩
      have hd : d < D := by omega
      have hd5 : d < 5 := by omega
      have hid : i.toNat = d := by omega
      have hdo := (hdv d hd5).1
      refine aw_callV [vI (i)] (q := 18) dX6_weight_15 rfl ck_X6_deviceOf lk_X6_69 rfl ⟨Nat.le_of_ble_eq_true rfl, Nat.le_of_ble_eq_true rfl⟩ rfl rfl h0 rfl (Nat.le_of_ble_eq_true rfl) (by decide) (m_X6_deviceOf_t h0 h1 hi hd hN) rfl (fun _ _ _ h => (Rt_x h).elim) ?_
      rintro v n9 μ9 - ⟨v9, hv9, rfl, rfl, rfl⟩
      obtain rfl := Sum.inl.inj hv9
      refine aw_callV [vI (x), vR (30 + 8 * d)] (q := 21) dX6_weight_18 rfl ck_X6_weightOf lk_X6_209 rfl ⟨Nat.le_of_ble_eq_true rfl, Nat.le_of_ble_eq_true rfl⟩ rfl rfl h0 rfl (Nat.le_of_ble_eq_true rfl) (by decide) (m_X6_weightOf hxs (by omega) hd5 hC hO) rfl (fun _ _ _ h => (Rt_x h).elim) ?_
      rintro v n9 μ9 - ⟨v9, hv9, rfl, rfl, rfl⟩
      obtain rfl := Sum.inl.inj hv9
      exact aw_lret dX6_weight_21 rfl (by decide) (by decide) ⟨rfl, rfl, (by rw [ox_t ck1, ox_t ck2]; exact congrArg (fun z => (Sum.inl (some (vL z)) : AOut)) (by rw [hid, show x.toNat = s by omega]))⟩
    · skip
      refine aw_callV [vI (i)] (q := 18) dX6_weight_15 rfl ck_X6_deviceOf lk_X6_69 rfl ⟨Nat.le_of_ble_eq_true rfl, Nat.le_of_ble_eq_true rfl⟩ rfl rfl h0 rfl (Nat.le_of_ble_eq_true rfl) (by decide) (m_X6_deviceOf_x h0 ck2) rfl (fun E9 n9 μ9 h9 => by obtain ⟨rfl, rfl, h8⟩ := h9; obtain rfl := Sum.inr.inj h8; exact ⟨rfl, rfl, ((ox_t ck1).trans (ox_f ck2)).symm⟩) ?_
      rintro v n9 μ9 - ⟨-, -, h9⟩
      cases h9
  · skip
    refine aw_callS [vI (x), vI ((sv.1 : Nat))] (q := 11) dX6_weight_8 rfl ck_X6_refuseNumber lk_X6_191 rfl ⟨Nat.le_of_ble_eq_true rfl, Nat.le_of_ble_eq_true rfl⟩ rfl rfl (Nat.le_of_ble_eq_true rfl) (by decide) (m_X6_refuseNumber_x ck1) rfl (fun E9 n9 μ9 h9 => by obtain ⟨rfl, rfl, h8⟩ := h9; obtain rfl := Sum.inr.inj h8; exact ⟨rfl, rfl, (ox_f ck1).symm⟩) ?_
    rintro v n9 μ9 - ⟨-, -, h9⟩
    cases h9
