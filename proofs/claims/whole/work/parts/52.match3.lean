/-! ===== TrackRows: matchAll, matched, match (written by m_match3.py) ===== -/
def WF (dv : Nat → DVt) (sv : SVt) : Nat → Nat → Int := fun s d => wgt (dv d) (sv.2.1 s) (sv.2.2.1 s) (sv.2.2.2 s)
theorem wgt_b {v : DVt} {t x y : Int} (h : dv_O v) (hx : -100000 ≤ x ∧ x ≤ 100000) (hy : -100000 ≤ y ∧ y ≤ 100000) : -1 ≤ wgt v t x y ∧ wgt v t x y ≤ 80000000000 := by
  unfold wgt
  split
  · omega
  · rename_i h0
    generalize hr : nrN (fun p => zabs (tt v.2.2.2.2.2.1 v.2.2.2.2.2.2.1 v.2.2.2.2.2.2.2 (v.2.1 p) - t)) v.1 = r
    have hl : r < v.1 := by rw [← hr]; exact nrN_lt _ _ (by omega)
    have hb := h.2.1 r hl
    have a := sq_b (e := x - v.2.2.1 r) 200000 (by omega) (by omega)
    have b := sq_b (e := y - v.2.2.2.1 r) 200000 (by omega) (by omega)
    omega
theorem WF_b {B : Int} {D : Nat} {dv : Nat → DVt} {Fn : Nat} {fv : Nat → FVt} {sv : SVt} {pk fd : Nat × (Nat → Int)} {spd lim : Int} (hO : COk B D dv Fn fv sv pk fd spd lim) {s d : Nat} (hs : s < sv.1) (hd : d < 5) : -1 ≤ WF dv sv s d ∧ WF dv sv s d ≤ 80000000000 := by
  obtain ⟨hN, hdv, hFn, hfv, hsn, hsb, -⟩ := hO
  have := hsb s hs
  exact wgt_b (hdv d hd).1 (by omega) (by omega)
set_option maxHeartbeats 4000000 in
set_option maxRecDepth 100000 in
theorem m_X6_matchAll {n : Nat} {μ : AH} {D : Nat} {dv : Nat → DVt} {Fn : Nat} {fv : Nat → FVt} {sv : SVt} {pk fd : Nat × (Nat → Int)} {spd lim B : Int}  (hC : CH μ D dv Fn fv sv pk fd spd lim) (hO : COk B D dv Fn fv sv pk fd spd lim) : AMet YX6_matchAll [vR 0] n μ (Vd (fun n' μ' => n' = n ∧ ∃ (W Ls : Nat → Nat → Int) (ch : Nat → Int) (ds : List Nat), MT μ' W Ls ch (sv.1 : Int) (D : Int) ∧ CH μ' D dv Fn fv sv pk fd spd lim ∧ FrC μ μ' ∧ (∀ s d, s < sv.1 → d < D → W s d = WF dv sv s d) ∧ ds.length = sv.1 ∧ Bst (WF dv sv) D 0 0 ds ∧ ∀ s, s < sv.1 → ch s = gi (dgt ds s))) := by
  refine AMet.of (by decide) rfl (Nat.le_of_ble_eq_true rfl) ?_
  obtain ⟨h0, h1, h2, hS, ⟨mW, mL, mc, msc, mdc, hM⟩, ⟨pnx, pso, hPk⟩, ⟨enx, eso, hFd⟩, ⟨ue, uf, ug, uh, hUn⟩, hDv, hFv⟩ := id hC
  obtain ⟨hN, hdv, hFn, hfv, hsn, hsb, hpk, hfd, hfb, hs1, hs2, hl1, hl2⟩ := id hO
  have loop : ∀ (j s : Nat) (x : Int) (μ1 : AH) (W1 Ls1 : Nat → Nat → Int) (ch1 : Nat → Int) (sc1 dc1 : Int), sv.1 - s < j → x = (s : Int) → s ≤ sv.1 → CH μ1 D dv Fn fv sv pk fd spd lim → MT μ1 W1 Ls1 ch1 sc1 dc1 → FrR 7 22 μ μ1 → (∀ s' d', s' < s → d' < D → W1 s' d' = WF dv sv s' d') → AW YX6_matchAll none (Vd (fun n' μ' => n' = n ∧ ∃ (W Ls : Nat → Nat → Int) (ch : Nat → Int) (ds : List Nat), MT μ' W Ls ch (sv.1 : Int) (D : Int) ∧ CH μ' D dv Fn fv sv pk fd spd lim ∧ FrC μ μ' ∧ (∀ s d, s < sv.1 → d < D → W s d = WF dv sv s d) ∧ ds.length = sv.1 ∧ Bst (WF dv sv) D 0 0 ds ∧ ∀ s, s < sv.1 → ch s = gi (dgt ds s))) 2 [some (vR 0), some (vI x), none] [] n μ1 0 0 := by
    intro j
    induction j with
    | zero => intro s x μ1 W1 Ls1 ch1 sc1 dc1 hj; exact absurd hj (Nat.not_lt_zero _)
    | succ j ih =>
      intro s x μ1 W1 Ls1 ch1 sc1 dc1 hj hx hs hC1 hM1 hF1 hW1
      subst hx
      have inner : s < sv.1 → ∀ (i d : Nat) (x : Int) (μ1 : AH) (W1 Ls1 : Nat → Nat → Int) (ch1 : Nat → Int) (sc1 dc1 : Int), D - d < i → x = (d : Int) → d ≤ D → CH μ1 D dv Fn fv sv pk fd spd lim → MT μ1 W1 Ls1 ch1 sc1 dc1 → FrR 7 22 μ μ1 → (∀ s' d', s' < s → d' < D → W1 s' d' = WF dv sv s' d') → (∀ d', d' < d → d' < D → W1 s d' = WF dv sv s d') → AW YX6_matchAll none (Vd (fun n' μ' => n' = n ∧ ∃ (W Ls : Nat → Nat → Int) (ch : Nat → Int) (ds : List Nat), MT μ' W Ls ch (sv.1 : Int) (D : Int) ∧ CH μ' D dv Fn fv sv pk fd spd lim ∧ FrC μ μ' ∧ (∀ s d, s < sv.1 → d < D → W s d = WF dv sv s d) ∧ ds.length = sv.1 ∧ Bst (WF dv sv) D 0 0 ds ∧ ∀ s, s < sv.1 → ch s = gi (dgt ds s))) 15 [some (vR 0), some (vI (s : Int)), some (vI x)] [] n μ1 0 0 := by
        intro hss i
        induction i with
        | zero => intro d x μ1 W1 Ls1 ch1 sc1 dc1 hj; exact absurd hj (Nat.not_lt_zero _)
        | succ i ih2 =>
          intro d x μ1 W1 Ls1 ch1 sc1 dc1 hi hx hd hC1 hM1 hF1 hW1 hW2
          obtain ⟨h0, h1, h2, hS, -, -, -, -, hDv, hFv⟩ := id hC1
          refine aw_iload_n (q := 16) dX6_matchAll_15 rfl rfl rfl ?_
          refine aw_aload_n (q := 17) dX6_matchAll_16 rfl rfl rfl ?_
          refine aw_get (q := 20) dX6_matchAll_17 rfl fl_X6_50 h0 rfl (fun _ => ?_)
          refine aw_ic_ge (t := 51) (q := 23) dX6_matchAll_20 rfl (by decide) (fun bc1 => ?_) (fun bc1 => ?_)
          · skip
            refine aw_iinc (q := 54) dX6_matchAll_51 rfl rfl (by decide) (by omega) ?_
            refine aw_goto (q := 2) dX6_matchAll_54 (by decide) ?_
            refine aw_ls (ls := [some (vR 0), some (vI ((s : Int) + 1)), none]) ⟨rfl, ⟨rfl, trivial⟩⟩ ?_
            exact ih (s + 1) _ _ W1 Ls1 ch1 sc1 dc1 (by omega) (by omega) (by omega) hC1 hM1 hF1 (fun s9 d9 a b => by by_cases e : s9 = s; (subst e; exact hW2 d9 (by omega) b); exact hW1 s9 d9 (by omega) b)
          · skip
            refine aw_aload_n (q := 24) dX6_matchAll_23 rfl rfl rfl ?_
            refine aw_get (q := 27) dX6_matchAll_24 rfl fl_X6_33 h0 rfl (fun _ => ?_)
            refine aw_get (q := 30) dX6_matchAll_27 rfl fl_X6_231 hM1.1 rfl (fun _ => ?_)
            refine aw_iload_n (q := 31) dX6_matchAll_30 rfl rfl rfl ?_
            refine aw_aaload (j := s) (b := (9 + s)) (q := 32) dX6_matchAll_31 rfl hM1.2.1 (by omega) (by omega) (by decide) (if_pos (by omega)) ?_
            refine aw_iload_n (q := 33) dX6_matchAll_32 rfl rfl rfl ?_
            refine aw_aload_n (q := 34) dX6_matchAll_33 rfl rfl rfl ?_
            refine aw_iload_n (q := 35) dX6_matchAll_34 rfl rfl rfl ?_
            refine aw_aload_n (q := 36) dX6_matchAll_35 rfl rfl rfl ?_
            refine aw_get (q := 39) dX6_matchAll_36 rfl fl_X6_11 h0 rfl (fun _ => ?_)
            refine aw_iload_n (q := 40) dX6_matchAll_39 rfl rfl rfl ?_
            refine aw_aaload (j := d) (b := (30 + 8 * d)) (q := 41) dX6_matchAll_40 rfl h1 (by omega) (by omega) (by decide) (dA_at (by omega)) ?_
            refine aw_callV [vI ((s : Int)), vR (30 + 8 * d)] (q := 44) dX6_matchAll_41 rfl ck_X6_weightOf lk_X6_209 rfl ⟨Nat.le_of_ble_eq_true rfl, Nat.le_of_ble_eq_true rfl⟩ rfl rfl h0 rfl (Nat.le_of_ble_eq_true rfl) (by decide) (m_X6_weightOf (s := s) (d := d) rfl (by omega) (by omega) hC1 hO) rfl (fun _ _ _ h => (Rt_x h).elim) ?_
            rintro v n9 μ9 - ⟨v9, hv9, rfl, rfl, rfl⟩
            obtain rfl := Sum.inl.inj hv9
            refine aw_lastore (j := d) (q := 45) dX6_matchAll_44 rfl (hM1.2.2.1 s (by omega)) (by omega) (by omega) ?_
            refine aw_iinc (q := 48) dX6_matchAll_45 rfl rfl (by decide) (by omega) ?_
            refine aw_goto (q := 15) dX6_matchAll_48 (by decide) ?_
            exact ih2 (d + 1) _ _ (lsu W1 s (fu (W1 s) d (wgt (dv d) (sv.2.1 s) (sv.2.2.1 s) (sv.2.2.2 s)))) _ _ _ _ (by omega) (by omega) (by omega) (CH_mt hC1 (FrR_hu FrR_rf (by omega)) (MT_w hM1 (by omega))) (MT_w hM1 (by omega)) (FrR_hu hF1 (by omega)) (fun s9 d9 a b => by rw [lsu_n (by omega)]; exact hW1 s9 d9 a b) (fun d9 a b => by
              rw [lsu_s]
              by_cases e : d9 = d
              · subst e; rw [fu_s]; rfl
              · rw [fu_n e]; exact hW2 d9 (by omega) b)
      obtain ⟨h0, h1, h2, hS, -, -, -, -, hDv, hFv⟩ := id hC1
      refine aw_iload_n (q := 3) dX6_matchAll_2 rfl rfl rfl ?_
      refine aw_aload_n (q := 4) dX6_matchAll_3 rfl rfl rfl ?_
      refine aw_get (q := 7) dX6_matchAll_4 rfl fl_X6_26 h0 rfl (fun _ => ?_)
      refine aw_get (q := 10) dX6_matchAll_7 rfl fl_X6_99 hS.1 rfl (fun _ => ?_)
      refine aw_ic_ge (t := 57) (q := 13) dX6_matchAll_10 rfl (by decide) (fun bc1 => ?_) (fun bc1 => ?_)
      · skip
        refine aw_aload_n (q := 58) dX6_matchAll_57 rfl rfl rfl ?_
        refine aw_get (q := 61) dX6_matchAll_58 rfl fl_X6_33 h0 rfl (fun _ => ?_)
        refine aw_aload_n (q := 62) dX6_matchAll_61 rfl rfl rfl ?_
        refine aw_get (q := 65) dX6_matchAll_62 rfl fl_X6_26 h0 rfl (fun _ => ?_)
        refine aw_get (q := 68) dX6_matchAll_65 rfl fl_X6_99 hS.1 rfl (fun _ => ?_)
        refine aw_aload_n (q := 69) dX6_matchAll_68 rfl rfl rfl ?_
        refine aw_get (q := 72) dX6_matchAll_69 rfl fl_X6_50 h0 rfl (fun _ => ?_)
        refine aw_callV [vI ((sv.1 : Nat)), vI ((D : Int))] (q := 75) dX6_matchAll_72 rfl ck_X4_choose lk_X6_235 rfl ⟨Nat.le_of_ble_eq_true rfl, Nat.le_of_ble_eq_true rfl⟩ rfl rfl hM1.1 rfl (Nat.le_of_ble_eq_true rfl) (by decide) (m_X4_choose (S := sv.1) (D := D) hsn hN (fun s9 d9 a b => by rw [hW1 s9 d9 (by omega) b]; exact WF_b hO a (by omega)) hM1) rfl (fun _ _ _ h => (Vd_x h).elim) ?_
        rintro v n9 μ2 - ⟨hv9, rfl, Ls2, ch2, ds, hM2, hF2, hl2, hB2, hch2⟩
        obtain rfl := Sum.inl.inj hv9
        exact aw_vret dX6_matchAll_75 rfl (by decide) (by decide) ⟨rfl, rfl, W1, Ls2, ch2, ds, hM2, CH_mt hC1 hF2 hM2, FrR_C (FrR_tr hF1 hF2) (by omega), fun s9 d9 a b => hW1 s9 d9 (by omega) b, hl2, Bst_cg (fun s9 d9 a b => hW1 s9 d9 (by omega) b) hl2 hB2, hch2⟩
      · skip
        refine aw_iconst (q := 14) dX6_matchAll_13 rfl (by omega) ?_
        refine aw_istore_n (q := 15) dX6_matchAll_14 rfl rfl (by decide) ?_
        exact inner (by omega) (D + 1) 0 _ μ1 W1 Ls1 ch1 sc1 dc1 (by omega) rfl (by omega) hC1 hM1 hF1 hW1 (fun d9 a b => absurd a (Nat.not_lt_zero _))
  refine aw_iconst (q := 1) dX6_matchAll_0 rfl (by omega) ?_
  refine aw_istore_n (q := 2) dX6_matchAll_1 rfl rfl (by decide) ?_
  exact loop (sv.1 + 1) 0 _ μ mW mL mc msc mdc (by omega) rfl (by omega) hC hM FrR_rf (fun s9 d9 a b => absurd a (Nat.not_lt_zero _))
set_option maxHeartbeats 4000000 in
set_option maxRecDepth 100000 in
theorem m_X6_matched {n : Nat} {μ : AH} {D : Nat} {dv : Nat → DVt} {Fn : Nat} {fv : Nat → FVt} {sv : SVt} {pk fd : Nat × (Nat → Int)} {spd lim B : Int}  (hC : CH μ D dv Fn fv sv pk fd spd lim) (hO : COk B D dv Fn fv sv pk fd spd lim) : AMet YX6_matched [vR 0] n μ (fun o n' μ' => n' = n ∧ ∃ ds : List Nat, ds.length = sv.1 ∧ Bst (WF dv sv) D 0 0 ds ∧ o = .inl (some (vL (wsm (WF dv sv) ds sv.1))) ∧ CH μ' D dv Fn fv sv pk fd spd lim ∧ FrC μ μ') := by
  refine AMet.of (by decide) rfl (Nat.le_of_ble_eq_true rfl) ?_
  obtain ⟨h0, h1, h2, hS, ⟨mW, mL, mc, msc, mdc, hM⟩, ⟨pnx, pso, hPk⟩, ⟨enx, eso, hFd⟩, ⟨ue, uf, ug, uh, hUn⟩, hDv, hFv⟩ := id hC
  obtain ⟨hN, hdv, hFn, hfv, hsn, hsb, hpk, hfd, hfb, hs1, hs2, hl1, hl2⟩ := id hO
  refine aw_aload_n (q := 1) dX6_matched_0 rfl rfl rfl ?_
  refine aw_callV [] (q := 4) dX6_matched_1 rfl ck_X6_matchAll lk_X6_213 rfl ⟨Nat.le_of_ble_eq_true rfl, Nat.le_of_ble_eq_true rfl⟩ rfl rfl h0 rfl (Nat.le_of_ble_eq_true rfl) (by decide) (m_X6_matchAll hC hO) rfl (fun _ _ _ h => (Vd_x h).elim) ?_
  rintro v n9 μ2 - ⟨hv9, rfl, W2, Ls2, ch2, ds, hM2, hC2, hF2, hW2, hl2, hB2, hch2⟩
  obtain rfl := Sum.inl.inj hv9
  refine aw_aload_n (q := 5) dX6_matched_4 rfl rfl rfl ?_
  refine aw_get (q := 8) dX6_matched_5 rfl fl_X6_33 hC2.1 rfl (fun _ => ?_)
  refine aw_callV [] (q := 11) dX6_matched_8 rfl ck_X4_sum lk_X6_216 rfl ⟨Nat.le_of_ble_eq_true rfl, Nat.le_of_ble_eq_true rfl⟩ rfl rfl hM2.1 rfl (Nat.le_of_ble_eq_true rfl) (by decide) (m_X4_sum (S := sv.1) (D := D) hsn hN (fun s9 d9 a b => by rw [hW2 s9 d9 a b]; exact WF_b hO a (by omega)) hM2 hch2 (fun s9 a => by have h8 := vld_d hB2.1 s9 (by omega); rw [Nat.zero_add] at h8; rcases h8 with h | h; exact Or.inl h; exact Or.inr ⟨h.1, by rw [hW2 s9 _ a h.1]; exact h.2⟩)) rfl (fun _ _ _ h => (Rt_x h).elim) ?_
  rintro v n9 μ9 - ⟨v9, hv9, rfl, rfl, rfl⟩
  obtain rfl := Sum.inl.inj hv9
  exact aw_lret dX6_matched_11 rfl (by decide) (by decide) ⟨rfl, ds, hl2, hB2, congrArg (fun z => (Sum.inl (some (vL z)) : AOut)) (wsm_cg (fun s9 d9 a b => (hW2 s9 d9 a b).symm) hl2 hB2.1 sv.1 (Nat.le_refl _)).symm, hC2, hF2⟩
set_option maxHeartbeats 4000000 in
set_option maxRecDepth 100000 in
theorem m_X6_match {n : Nat} {μ : AH} {D : Nat} {dv : Nat → DVt} {Fn : Nat} {fv : Nat → FVt} {sv : SVt} {pk fd : Nat × (Nat → Int)} {spd lim B : Int} {x : Int} (hC : CH μ D dv Fn fv sv pk fd spd lim) (hO : COk B D dv Fn fv sv pk fd spd lim) : AMet YX6_match [vR 0, vI (x)] n μ (fun o n' μ' => n' = n ∧ ((¬ (0 ≤ x ∧ x < (sv.1 : Int)) ∧ o = .inr IX ∧ μ' = μ) ∨ ((0 ≤ x ∧ x < (sv.1 : Int)) ∧ ∃ ds : List Nat, ds.length = sv.1 ∧ Bst (WF dv sv) D 0 0 ds ∧ o = .inl (some (vI (gi (dgt ds x.toNat)))) ∧ CH μ' D dv Fn fv sv pk fd spd lim ∧ FrC μ μ'))) := by
  refine AMet.of (by decide) rfl (Nat.le_of_ble_eq_true rfl) ?_
  obtain ⟨h0, h1, h2, hS, ⟨mW, mL, mc, msc, mdc, hM⟩, ⟨pnx, pso, hPk⟩, ⟨enx, eso, hFd⟩, ⟨ue, uf, ug, uh, hUn⟩, hDv, hFv⟩ := id hC
  obtain ⟨hN, hdv, hFn, hfv, hsn, hsb, hpk, hfd, hfb, hs1, hs2, hl1, hl2⟩ := id hO
  refine aw_iload_n (q := 1) dX6_match_0 rfl rfl rfl ?_
  refine aw_aload_n (q := 2) dX6_match_1 rfl rfl rfl ?_
  refine aw_get (q := 5) dX6_match_2 rfl fl_X6_26 h0 rfl (fun _ => ?_)
  refine aw_get (q := 8) dX6_match_5 rfl fl_X6_99 hS.1 rfl (fun _ => ?_)
  by_cases ck1 : 0 ≤ x ∧ x < (sv.1 : Int)
  · skip
    refine aw_callS [vI (x), vI ((sv.1 : Nat))] (q := 11) dX6_match_8 rfl ck_X6_refuseNumber lk_X6_191 rfl ⟨Nat.le_of_ble_eq_true rfl, Nat.le_of_ble_eq_true rfl⟩ rfl rfl (Nat.le_of_ble_eq_true rfl) (by decide) (m_X6_refuseNumber_t ck1) rfl (fun _ _ _ h => (Vd_x h).elim) ?_
    rintro v n9 μ9 - ⟨hv9, rfl, rfl⟩
    obtain rfl := Sum.inl.inj hv9
    obtain ⟨s, hxs⟩ : ∃ s : Nat, x = (s : Int) := ⟨x.toNat, by omega⟩
    refine aw_aload_n (q := 12) dX6_match_11 rfl rfl rfl ?_
    refine aw_callV [] (q := 15) dX6_match_12 rfl ck_X6_matchAll lk_X6_213 rfl ⟨Nat.le_of_ble_eq_true rfl, Nat.le_of_ble_eq_true rfl⟩ rfl rfl h0 rfl (Nat.le_of_ble_eq_true rfl) (by decide) (m_X6_matchAll hC hO) rfl (fun _ _ _ h => (Vd_x h).elim) ?_
    rintro v n9 μ2 - ⟨hv9, rfl, W2, Ls2, ch2, ds, hM2, hC2, hF2, hW2, hl2, hB2, hch2⟩
    obtain rfl := Sum.inl.inj hv9
    refine aw_aload_n (q := 16) dX6_match_15 rfl rfl rfl ?_
    refine aw_get (q := 19) dX6_match_16 rfl fl_X6_33 hC2.1 rfl (fun _ => ?_)
    refine aw_get (q := 22) dX6_match_19 rfl fl_X6_220 hM2.1 rfl (fun _ => ?_)
    refine aw_iload_n (q := 23) dX6_match_22 rfl rfl rfl ?_
    refine aw_iaload (j := s) (q := 24) dX6_match_23 rfl hM2.2.2.2.2.2 (by omega) (by omega) (fun r2 => ?_)
    exact aw_iret dX6_match_24 rfl (by decide) (by decide) ⟨rfl, Or.inr ⟨ck1, ds, hl2, hB2, congrArg (fun z => (Sum.inl (some (vI z)) : AOut)) (by rw [show x.toNat = s by omega]; exact hch2 s (by omega)), hC2, hF2⟩⟩
  · skip
    refine aw_callS [vI (x), vI ((sv.1 : Nat))] (q := 11) dX6_match_8 rfl ck_X6_refuseNumber lk_X6_191 rfl ⟨Nat.le_of_ble_eq_true rfl, Nat.le_of_ble_eq_true rfl⟩ rfl rfl (Nat.le_of_ble_eq_true rfl) (by decide) (m_X6_refuseNumber_x ck1) rfl (fun E9 n9 μ9 h9 => by obtain ⟨rfl, rfl, h8⟩ := h9; obtain rfl := Sum.inr.inj h8; exact ⟨rfl, Or.inl ⟨ck1, rfl, rfl⟩⟩) ?_
    rintro v n9 μ9 - ⟨-, -, h9⟩
    cases h9
