/-! ===== TrackRowsModel: its heap, and its small methods (written by m_model0.py) ===== -/
abbrev AG1 (dv : Nat → DVt) (c7 t7 k7 : Nat → Int) : Prop := ∀ d, d < 5 → c7 d = ((dv d).1 : Int) ∧ t7 d = (dv d).2.2.2.2.1 ∧ k7 d = ((dv d).2.2.2.2.2.1 : Int)
abbrev AG2 (dv : Nat → DVt) (F7 G7 H7 : Nat → Int) : Prop := ∀ d p, d < 5 → p < (dv d).1 → F7 (60 * d + p) = (dv d).2.1 p ∧ G7 (60 * d + p) = (dv d).2.2.1 p ∧ H7 (60 * d + p) = (dv d).2.2.2.1 p
abbrev AG3 (dv : Nat → DVt) (a7 b7 : Nat → Int) : Prop := ∀ d p, d < 5 → p < (dv d).2.2.2.2.2.1 → a7 (8 * d + p) = (dv d).2.2.2.2.2.2.1 p ∧ b7 (8 * d + p) = (dv d).2.2.2.2.2.2.2 p
abbrev AG4 (fv : Nat → FVt) (e7 : Nat → Int) : Prop := ∀ f, f < 4 → e7 f = ((fv f).1 : Int)
abbrev AG5 (fv : Nat → FVt) (X7 Y7 : Nat → Int) : Prop := ∀ f p, f < 4 → p < (fv f).1 → X7 (8 * f + p) = (fv f).2.1 p ∧ Y7 (8 * f + p) = (fv f).2.2 p
abbrev AG6 (pk : Nat × (Nat → Int)) (y7 : Nat → Int) : Prop := ∀ i, i < pk.1 → y7 i = pk.2 i
abbrev AG8 (sv : SVt) (s7 u7 v7 : Nat → Int) : Prop := ∀ s, s < sv.1 → s7 s = sv.2.1 s ∧ u7 s = sv.2.2.1 s ∧ v7 s = sv.2.2.2 s
/-- the model's heap, saying the same as the class's -/
def MM (μ : AH) (th : Int) (D : Nat) (dv : Nat → DVt) (Fn : Nat) (fv : Nat → FVt) (sv : SVt) (pk fd : Nat × (Nat → Int)) (spd lim : Int) : Prop := ∃ (at7 ls7 wy7 : Int) (c7 t7 F7 G7 H7 k7 a7 b7 e7 X7 Y7 y7 o7 r7 s7 u7 v7 w7 : Nat → Int), μ 82 = oO 7 [vI th, vI (D : Int), vR 83, vR 84, vR 85, vR 86, vR 87, vR 88, vR 89, vR 90, vI spd, vI lim, vI (Fn : Int), vR 91, vR 92, vR 93, vI (pk.1 : Int), vR 94, vI (fd.1 : Int), vR 95, vI at7, vR 96, vI (sv.1 : Int), vR 97, vR 98, vR 99, vR 100, vL ls7, vI wy7] ∧ μ 83 = oI 5 c7 ∧ μ 84 = oI 5 t7 ∧ μ 85 = oI 300 F7 ∧ μ 86 = oI 300 G7 ∧ μ 87 = oI 300 H7 ∧ μ 88 = oI 5 k7 ∧ μ 89 = oI 40 a7 ∧ μ 90 = oI 40 b7 ∧ μ 91 = oI 4 e7 ∧ μ 92 = oI 32 X7 ∧ μ 93 = oI 32 Y7 ∧ μ 94 = oI 600 y7 ∧ μ 95 = oI 600 o7 ∧ μ 96 = oI 180 r7 ∧ μ 97 = oI 5 s7 ∧ μ 98 = oI 5 u7 ∧ μ 99 = oI 5 v7 ∧ μ 100 = oL 25 w7 ∧ AG1 dv c7 t7 k7 ∧ AG2 dv F7 G7 H7 ∧ AG3 dv a7 b7 ∧ AG4 fv e7 ∧ AG5 fv X7 Y7 ∧ AG6 pk y7 ∧ AG6 fd o7 ∧ AG8 sv s7 u7 v7
theorem MM_o {μ : AH} {th : Int} {D : Nat} {dv : Nat → DVt} {Fn : Nat} {fv : Nat → FVt} {sv : SVt} {pk fd : Nat × (Nat → Int)} {spd lim : Int} {th' at' ls' wy' spd' lim' : Int} {D' Fn' : Nat} (hm : MM μ th D dv Fn fv sv pk fd spd lim) : MM (hu μ 82 (oO 7 [vI th', vI (D' : Int), vR 83, vR 84, vR 85, vR 86, vR 87, vR 88, vR 89, vR 90, vI spd', vI lim', vI (Fn' : Int), vR 91, vR 92, vR 93, vI (pk.1 : Int), vR 94, vI (fd.1 : Int), vR 95, vI at', vR 96, vI (sv.1 : Int), vR 97, vR 98, vR 99, vR 100, vL ls', vI wy'])) th' D' dv Fn' fv sv pk fd spd' lim' := by
  obtain ⟨at7, ls7, wy7, c7, t7, F7, G7, H7, k7, a7, b7, e7, X7, Y7, y7, o7, r7, s7, u7, v7, w7, h82, h83, h84, h85, h86, h87, h88, h89, h90, h91, h92, h93, h94, h95, h96, h97, h98, h99, h100, ag1, ag2, ag3, ag4, ag5, ag6, ag7, ag8⟩ := id hm
  exact ⟨at', ls', wy', c7, t7, F7, G7, H7, k7, a7, b7, e7, X7, Y7, y7, o7, r7, s7, u7, v7, w7, hu_s, (hu_n (by omega)).trans h83, (hu_n (by omega)).trans h84, (hu_n (by omega)).trans h85, (hu_n (by omega)).trans h86, (hu_n (by omega)).trans h87, (hu_n (by omega)).trans h88, (hu_n (by omega)).trans h89, (hu_n (by omega)).trans h90, (hu_n (by omega)).trans h91, (hu_n (by omega)).trans h92, (hu_n (by omega)).trans h93, (hu_n (by omega)).trans h94, (hu_n (by omega)).trans h95, (hu_n (by omega)).trans h96, (hu_n (by omega)).trans h97, (hu_n (by omega)).trans h98, (hu_n (by omega)).trans h99, (hu_n (by omega)).trans h100, ag1, ag2, ag3, ag4, ag5, ag6, ag7, ag8⟩
theorem mm_z {Y : AY} {S : AScr} {Q : AQ} {pc : Nat} {ls : List (Option AV)} {st : List AV} {n : Nat} {μ : AH} {k z : Nat} {th : Int} {D : Nat} {dv : Nat → DVt} {Fn : Nat} {fv : Nat → FVt} {sv : SVt} {pk fd : Nat × (Nat → Int)} {spd lim : Int} {at' ls' wy' : Int} (hm : MM μ th D dv Fn fv sv pk fd spd lim) (K : ∀ μ0, MM μ0 0 D dv Fn fv sv pk fd spd lim → FrR 82 83 μ μ0 → AW Y S Q pc ls st n μ0 k z) : AW Y S Q pc ls st n (hu μ 82 (oO 7 [vI 0, vI (D : Int), vR 83, vR 84, vR 85, vR 86, vR 87, vR 88, vR 89, vR 90, vI spd, vI lim, vI (Fn : Int), vR 91, vR 92, vR 93, vI (pk.1 : Int), vR 94, vI (fd.1 : Int), vR 95, vI at', vR 96, vI (sv.1 : Int), vR 97, vR 98, vR 99, vR 100, vL ls', vI wy'])) k z := K _ (MM_o hm) (FrR_hu FrR_rf (by omega))
theorem FrR_w {lo hi lo' hi' : Nat} {μ μ' : AH} (h : FrR lo hi μ μ') (h1 : lo' ≤ lo) (h2 : hi ≤ hi') : FrR lo' hi' μ μ' := fun b hb => h b (by omega)
def tx1 (P : Prop) [Decidable P] : Int := if P then 0 else 1
def tx2 (P Q : Prop) [Decidable P] [Decidable Q] : Int := if P then (if Q then 0 else 2) else 1
def tx3 (P Q R : Prop) [Decidable P] [Decidable Q] [Decidable R] : Int := if P then (if Q then (if R then 0 else 3) else 2) else 1
section TX
variable {P Q R : Prop} {iP : Decidable P} {iQ : Decidable Q} {iR : Decidable R}
theorem tx1_0 (h : P) : tx1 P = 0 := if_pos h
theorem tx1_1 (h : ¬ P) : tx1 P = 1 := if_neg h
theorem tx2_0 (h : P) (h' : Q) : tx2 P Q = 0 := (if_pos h).trans (if_pos h')
theorem tx2_1 (h : ¬ P) : tx2 P Q = 1 := if_neg h
theorem tx2_2 (h : P) (h' : ¬ Q) : tx2 P Q = 2 := (if_pos h).trans (if_neg h')
theorem tx3_0 (h : P) (h' : Q) (h'' : R) : tx3 P Q R = 0 := (if_pos h).trans ((if_pos h').trans (if_pos h''))
theorem tx3_1 (h : ¬ P) : tx3 P Q R = 1 := if_neg h
theorem tx3_2 (h : P) (h' : ¬ Q) : tx3 P Q R = 2 := (if_pos h).trans (if_neg h')
theorem tx3_3 (h : P) (h' : Q) (h'' : ¬ R) : tx3 P Q R = 3 := (if_pos h).trans ((if_pos h').trans (if_neg h''))
end TX
set_option maxHeartbeats 4000000 in
set_option maxRecDepth 100000 in
theorem m_X7_thrown {n : Nat} {μ : AH} {th B : Int} {D : Nat} {dv : Nat → DVt} {Fn : Nat} {fv : Nat → FVt} {sv : SVt} {pk fd : Nat × (Nat → Int)} {spd lim : Int}  (hm : MM μ th D dv Fn fv sv pk fd spd lim) (hO : COk B D dv Fn fv sv pk fd spd lim) : AMet YX7_thrown [vR 82] n μ (Pv n μ (vI th)) := by
  refine AMet.of (by decide) rfl (Nat.le_of_ble_eq_true rfl) ?_
  obtain ⟨at7, ls7, wy7, c7, t7, F7, G7, H7, k7, a7, b7, e7, X7, Y7, y7, o7, r7, s7, u7, v7, w7, h82, h83, h84, h85, h86, h87, h88, h89, h90, h91, h92, h93, h94, h95, h96, h97, h98, h99, h100, ag1, ag2, ag3, ag4, ag5, ag6, ag7, ag8⟩ := id hm
  obtain ⟨hN, hdv, hFn, hfv, hsn, hsb, hpk, hfd, hfb, hs1, hs2, hl1, hl2⟩ := id hO
  refine aw_aload_n (q := 1) dX7_thrown_0 rfl rfl rfl ?_
  refine aw_get (q := 4) dX7_thrown_1 rfl fl_X7_72 h82 rfl (fun _ => ?_)
  exact aw_iret dX7_thrown_4 rfl (by decide) (by decide) ⟨_, rfl, rfl, rfl, rfl⟩
set_option maxHeartbeats 4000000 in
set_option maxRecDepth 100000 in
theorem m_X7_fails_f {n : Nat} {μ : AH} {fs : List AV} {kd : Int} (h : μ 82 = oO 7 (vI 0 :: fs)) : AMet YX7_fails [vR 82, vI (0), vI (kd)] n μ (Pv n μ (vI 0)) := by
  refine AMet.of (by decide) rfl (Nat.le_of_ble_eq_true rfl) ?_
  refine aw_aload_n (q := 1) dX7_fails_0 rfl rfl rfl ?_
  refine aw_get (q := 4) dX7_fails_1 rfl fl_X7_72 h rfl (fun _ => ?_)
  refine aw_if_ne (t := 16) (q := 7) dX7_fails_4 rfl (by decide) (fun bc1 => ?_) (fun bc1 => ?_)
  · skip
    omega
  · skip
    refine aw_iload_n (q := 8) dX7_fails_7 rfl rfl rfl ?_
    refine aw_if_eq (t := 16) (q := 11) dX7_fails_8 rfl (by decide) (fun bc2 => ?_) (fun bc2 => ?_)
    · skip
      refine aw_aload_n (q := 17) dX7_fails_16 rfl rfl rfl ?_
      refine aw_get (q := 20) dX7_fails_17 rfl fl_X7_72 h rfl (fun _ => ?_)
      refine aw_if_le (t := 27) (q := 23) dX7_fails_20 rfl (by decide) (fun bc3 => ?_) (fun bc3 => ?_)
      · skip
        refine aw_iconst (q := 28) dX7_fails_27 rfl (by omega) ?_
        exact aw_zret dX7_fails_28 rfl (Or.inl rfl) (by decide) (by decide) ⟨_, rfl, rfl, rfl, rfl⟩
      · skip
        omega
    · skip
      omega
set_option maxHeartbeats 4000000 in
set_option maxRecDepth 100000 in
theorem m_X7_fails_t {n : Nat} {μ : AH} {fs : List AV} {kd : Int} (h : μ 82 = oO 7 (vI 0 :: fs)) (hk : 0 < kd) : AMet YX7_fails [vR 82, vI (1), vI (kd)] n μ (Rt (fun v n' μ' => n' = n ∧ μ' = hu μ 82 (oO 7 (vI kd :: fs)) ∧ v = vI 1)) := by
  refine AMet.of (by decide) rfl (Nat.le_of_ble_eq_true rfl) ?_
  refine aw_aload_n (q := 1) dX7_fails_0 rfl rfl rfl ?_
  refine aw_get (q := 4) dX7_fails_1 rfl fl_X7_72 h rfl (fun _ => ?_)
  refine aw_if_ne (t := 16) (q := 7) dX7_fails_4 rfl (by decide) (fun bc1 => ?_) (fun bc1 => ?_)
  · skip
    omega
  · skip
    refine aw_iload_n (q := 8) dX7_fails_7 rfl rfl rfl ?_
    refine aw_if_eq (t := 16) (q := 11) dX7_fails_8 rfl (by decide) (fun bc2 => ?_) (fun bc2 => ?_)
    · skip
      omega
    · skip
      refine aw_aload_n (q := 12) dX7_fails_11 rfl rfl rfl ?_
      refine aw_iload_n (q := 13) dX7_fails_12 rfl rfl rfl ?_
      refine aw_put (q := 16) dX7_fails_13 rfl fp_X7_72 h (Nat.le_of_ble_eq_true rfl) trivial ?_
      refine aw_aload_n (q := 17) dX7_fails_16 rfl rfl rfl ?_
      refine aw_get (q := 20) dX7_fails_17 rfl fl_X7_72 hu_s rfl (fun _ => ?_)
      refine aw_if_le (t := 27) (q := 23) dX7_fails_20 rfl (by decide) (fun bc3 => ?_) (fun bc3 => ?_)
      · skip
        omega
      · skip
        refine aw_iconst (q := 24) dX7_fails_23 rfl (by omega) ?_
        refine aw_goto (q := 28) dX7_fails_24 (by decide) ?_
        exact aw_zret dX7_fails_28 rfl (Or.inr rfl) (by decide) (by decide) ⟨_, rfl, rfl, rfl, rfl⟩
set_option maxHeartbeats 4000000 in
set_option maxRecDepth 100000 in
theorem m_X7_within {n : Nat} {μ : AH} {v l u : Int} : AMet YX7_within [vL (v), vL (l), vL (u)] n μ (Pv n μ (vI (bz (l ≤ v ∧ v ≤ u)))) := by
  refine AMet.of (by decide) rfl (Nat.le_of_ble_eq_true rfl) ?_
  refine aw_lload_n (q := 1) dX7_within_0 rfl rfl rfl ?_
  refine aw_lload_n (q := 2) dX7_within_1 rfl rfl rfl ?_
  refine aw_lcmp (q := 3) dX7_within_2 rfl ?_
  refine aw_if_lt (t := 17) (q := 6) dX7_within_3 rfl (by decide) (fun bc1 => ?_) (fun bc1 => ?_)
  · skip
    replace bc1 := cmpz_lt.mp bc1
    refine aw_iconst (q := 18) dX7_within_17 rfl (by omega) ?_
    exact aw_zret dX7_within_18 rfl (Or.inl rfl) (by decide) (by decide) ⟨_, rfl, rfl, rfl, congrArg vI (bz_f (by omega)).symm⟩
  · skip
    replace bc1 := mt cmpz_lt.mpr bc1
    refine aw_lload_n (q := 7) dX7_within_6 rfl rfl rfl ?_
    refine aw_lload (q := 9) dX7_within_7 rfl rfl ?_
    refine aw_lcmp (q := 10) dX7_within_9 rfl ?_
    refine aw_if_gt (t := 17) (q := 13) dX7_within_10 rfl (by decide) (fun bc2 => ?_) (fun bc2 => ?_)
    · skip
      replace bc2 := cmpz_gt.mp bc2
      refine aw_iconst (q := 18) dX7_within_17 rfl (by omega) ?_
      exact aw_zret dX7_within_18 rfl (Or.inl rfl) (by decide) (by decide) ⟨_, rfl, rfl, rfl, congrArg vI (bz_f (by omega)).symm⟩
    · skip
      replace bc2 := mt cmpz_gt.mpr bc2
      refine aw_iconst (q := 14) dX7_within_13 rfl (by omega) ?_
      refine aw_goto (q := 18) dX7_within_14 (by decide) ?_
      exact aw_zret dX7_within_18 rfl (Or.inr rfl) (by decide) (by decide) ⟨_, rfl, rfl, rfl, congrArg vI (bz_t (by omega)).symm⟩
set_option maxHeartbeats 4000000 in
set_option maxRecDepth 100000 in
theorem m_X7_isDevice {n : Nat} {μ : AH} {th B : Int} {D : Nat} {dv : Nat → DVt} {Fn : Nat} {fv : Nat → FVt} {sv : SVt} {pk fd : Nat × (Nat → Int)} {spd lim : Int} {i : Int} (hm : MM μ th D dv Fn fv sv pk fd spd lim) (hO : COk B D dv Fn fv sv pk fd spd lim) : AMet YX7_isDevice [vR 82, vI (i)] n μ (Pv n μ (vI (bz (0 ≤ i ∧ i < (D : Int))))) := by
  refine AMet.of (by decide) rfl (Nat.le_of_ble_eq_true rfl) ?_
  obtain ⟨at7, ls7, wy7, c7, t7, F7, G7, H7, k7, a7, b7, e7, X7, Y7, y7, o7, r7, s7, u7, v7, w7, h82, h83, h84, h85, h86, h87, h88, h89, h90, h91, h92, h93, h94, h95, h96, h97, h98, h99, h100, ag1, ag2, ag3, ag4, ag5, ag6, ag7, ag8⟩ := id hm
  obtain ⟨hN, hdv, hFn, hfv, hsn, hsb, hpk, hfd, hfb, hs1, hs2, hl1, hl2⟩ := id hO
  refine aw_iload_n (q := 1) dX7_isDevice_0 rfl rfl rfl ?_
  refine aw_if_lt (t := 16) (q := 4) dX7_isDevice_1 rfl (by decide) (fun bc1 => ?_) (fun bc1 => ?_)
  · skip
    refine aw_iconst (q := 17) dX7_isDevice_16 rfl (by omega) ?_
    exact aw_zret dX7_isDevice_17 rfl (Or.inl rfl) (by decide) (by decide) ⟨_, rfl, rfl, rfl, congrArg vI (bz_f (by omega)).symm⟩
  · skip
    refine aw_iload_n (q := 5) dX7_isDevice_4 rfl rfl rfl ?_
    refine aw_aload_n (q := 6) dX7_isDevice_5 rfl rfl rfl ?_
    refine aw_get (q := 9) dX7_isDevice_6 rfl fl_X7_75 h82 rfl (fun _ => ?_)
    refine aw_ic_ge (t := 16) (q := 12) dX7_isDevice_9 rfl (by decide) (fun bc2 => ?_) (fun bc2 => ?_)
    · skip
      refine aw_iconst (q := 17) dX7_isDevice_16 rfl (by omega) ?_
      exact aw_zret dX7_isDevice_17 rfl (Or.inl rfl) (by decide) (by decide) ⟨_, rfl, rfl, rfl, congrArg vI (bz_f (by omega)).symm⟩
    · skip
      refine aw_iconst (q := 13) dX7_isDevice_12 rfl (by omega) ?_
      refine aw_goto (q := 17) dX7_isDevice_13 (by decide) ?_
      exact aw_zret dX7_isDevice_17 rfl (Or.inr rfl) (by decide) (by decide) ⟨_, rfl, rfl, rfl, congrArg vI (bz_t (by omega)).symm⟩
set_option maxHeartbeats 4000000 in
set_option maxRecDepth 100000 in
theorem m_X7_isPlace {n : Nat} {μ : AH} {th B : Int} {D : Nat} {dv : Nat → DVt} {Fn : Nat} {fv : Nat → FVt} {sv : SVt} {pk fd : Nat × (Nat → Int)} {spd lim : Int} {i p : Int} (hm : MM μ th D dv Fn fv sv pk fd spd lim) (hO : COk B D dv Fn fv sv pk fd spd lim) : AMet YX7_isPlace [vR 82, vI (i), vI (p)] n μ (Pv n μ (vI (bz ((0 ≤ i ∧ i < (D : Int)) ∧ 0 ≤ p ∧ p < ((dv i.toNat).1 : Int))))) := by
  refine AMet.of (by decide) rfl (Nat.le_of_ble_eq_true rfl) ?_
  obtain ⟨at7, ls7, wy7, c7, t7, F7, G7, H7, k7, a7, b7, e7, X7, Y7, y7, o7, r7, s7, u7, v7, w7, h82, h83, h84, h85, h86, h87, h88, h89, h90, h91, h92, h93, h94, h95, h96, h97, h98, h99, h100, ag1, ag2, ag3, ag4, ag5, ag6, ag7, ag8⟩ := id hm
  obtain ⟨hN, hdv, hFn, hfv, hsn, hsb, hpk, hfd, hfb, hs1, hs2, hl1, hl2⟩ := id hO
  refine aw_aload_n (q := 1) dX7_isPlace_0 rfl rfl rfl ?_
  refine aw_iload_n (q := 2) dX7_isPlace_1 rfl rfl rfl ?_
  refine aw_callV [vI (i)] (q := 5) dX7_isPlace_2 rfl ck_X7_isDevice lk_X7_78 rfl ⟨Nat.le_of_ble_eq_true rfl, Nat.le_of_ble_eq_true rfl⟩ rfl rfl h82 rfl (Nat.le_of_ble_eq_true rfl) (by decide) (m_X7_isDevice hm hO) rfl (fun _ _ _ h => (Rt_x h).elim) ?_
  rintro v n9 μ9 - ⟨v9, hv9, rfl, rfl, rfl⟩
  obtain rfl := Sum.inl.inj hv9
  refine aw_if_eq (t := 26) (q := 8) dX7_isPlace_5 rfl (by decide) (fun bc1 => ?_) (fun bc1 => ?_)
  · skip
    replace bc1 := bz_0.mp bc1
    refine aw_iconst (q := 27) dX7_isPlace_26 rfl (by omega) ?_
    exact aw_zret dX7_isPlace_27 rfl (Or.inl rfl) (by decide) (by decide) ⟨_, rfl, rfl, rfl, congrArg vI (bz_f (fun h => by omega)).symm⟩
  · skip
    replace bc1 := bz_n0.mp bc1
    obtain ⟨d, hi⟩ : ∃ d : Nat, i = (d : Int) := ⟨i.toNat, by omega⟩
    have hid : i.toNat = d := by omega
    have hd5 : d < 5 := by omega
    have hcd := ag1 d hd5
    have hdo := (hdv d hd5).1
    have hc60 : (dv d).1 ≤ 60 := hdo.1
    have hk8 : (dv d).2.2.2.2.2.1 ≤ 8 := hdo.2.2.2.1
    refine aw_iload_n (q := 9) dX7_isPlace_8 rfl rfl rfl ?_
    refine aw_if_lt (t := 26) (q := 12) dX7_isPlace_9 rfl (by decide) (fun bc2 => ?_) (fun bc2 => ?_)
    · skip
      refine aw_iconst (q := 27) dX7_isPlace_26 rfl (by omega) ?_
      exact aw_zret dX7_isPlace_27 rfl (Or.inl rfl) (by decide) (by decide) ⟨_, rfl, rfl, rfl, congrArg vI (bz_f (fun h => by rw [hid] at h; omega)).symm⟩
    · skip
      refine aw_iload_n (q := 13) dX7_isPlace_12 rfl rfl rfl ?_
      refine aw_aload_n (q := 14) dX7_isPlace_13 rfl rfl rfl ?_
      refine aw_get (q := 17) dX7_isPlace_14 rfl fl_X7_7 h82 rfl (fun _ => ?_)
      refine aw_iload_n (q := 18) dX7_isPlace_17 rfl rfl rfl ?_
      refine aw_iaload (j := d) (q := 19) dX7_isPlace_18 rfl h83 (by omega) (by omega) (fun r3 => ?_)
      refine aw_ic_ge (t := 26) (q := 22) dX7_isPlace_19 rfl (by decide) (fun bc4 => ?_) (fun bc4 => ?_)
      · skip
        refine aw_iconst (q := 27) dX7_isPlace_26 rfl (by omega) ?_
        exact aw_zret dX7_isPlace_27 rfl (Or.inl rfl) (by decide) (by decide) ⟨_, rfl, rfl, rfl, congrArg vI (bz_f (fun h => by rw [hid] at h; omega)).symm⟩
      · skip
        refine aw_iconst (q := 23) dX7_isPlace_22 rfl (by omega) ?_
        refine aw_goto (q := 27) dX7_isPlace_23 (by decide) ?_
        exact aw_zret dX7_isPlace_27 rfl (Or.inr rfl) (by decide) (by decide) ⟨_, rfl, rfl, rfl, congrArg vI (bz_t ⟨by omega, by rw [hid]; omega⟩).symm⟩
set_option maxHeartbeats 4000000 in
set_option maxRecDepth 100000 in
theorem m_X7_isPoint {n : Nat} {μ : AH} {x y : Int} : AMet YX7_isPoint [vI (x), vI (y)] n μ (Pv n μ (vI (bz ((-100000 ≤ x ∧ x ≤ 100000) ∧ -100000 ≤ y ∧ y ≤ 100000)))) := by
  refine AMet.of (by decide) rfl (Nat.le_of_ble_eq_true rfl) ?_
  refine aw_iload_n (q := 1) dX7_isPoint_0 rfl rfl rfl ?_
  refine aw_i2l (q := 2) dX7_isPoint_1 rfl ?_
  refine aw_ldc2 (a := -100000) (q := 5) dX7_isPoint_2 rfl k_X7_86 (by omega) ?_
  refine aw_ldc2 (a := 100000) (q := 8) dX7_isPoint_5 rfl k_X7_88 (by omega) ?_
  refine aw_callS [vL (x), vL ((-100000)), vL (100000)] (q := 11) dX7_isPoint_8 rfl ck_X7_within lk_X7_90 rfl ⟨Nat.le_of_ble_eq_true rfl, Nat.le_of_ble_eq_true rfl⟩ rfl rfl (Nat.le_of_ble_eq_true rfl) (by decide) (m_X7_within) rfl (fun _ _ _ h => (Rt_x h).elim) ?_
  rintro v n9 μ9 - ⟨v9, hv9, rfl, rfl, rfl⟩
  obtain rfl := Sum.inl.inj hv9
  refine aw_if_eq (t := 32) (q := 14) dX7_isPoint_11 rfl (by decide) (fun bc1 => ?_) (fun bc1 => ?_)
  · skip
    replace bc1 := bz_0.mp bc1
    refine aw_iconst (q := 33) dX7_isPoint_32 rfl (by omega) ?_
    exact aw_zret dX7_isPoint_33 rfl (Or.inl rfl) (by decide) (by decide) ⟨_, rfl, rfl, rfl, congrArg vI (bz_f (by omega)).symm⟩
  · skip
    replace bc1 := bz_n0.mp bc1
    refine aw_iload_n (q := 15) dX7_isPoint_14 rfl rfl rfl ?_
    refine aw_i2l (q := 16) dX7_isPoint_15 rfl ?_
    refine aw_ldc2 (a := -100000) (q := 19) dX7_isPoint_16 rfl k_X7_86 (by omega) ?_
    refine aw_ldc2 (a := 100000) (q := 22) dX7_isPoint_19 rfl k_X7_88 (by omega) ?_
    refine aw_callS [vL (y), vL ((-100000)), vL (100000)] (q := 25) dX7_isPoint_22 rfl ck_X7_within lk_X7_90 rfl ⟨Nat.le_of_ble_eq_true rfl, Nat.le_of_ble_eq_true rfl⟩ rfl rfl (Nat.le_of_ble_eq_true rfl) (by decide) (m_X7_within) rfl (fun _ _ _ h => (Rt_x h).elim) ?_
    rintro v n9 μ9 - ⟨v9, hv9, rfl, rfl, rfl⟩
    obtain rfl := Sum.inl.inj hv9
    refine aw_if_eq (t := 32) (q := 28) dX7_isPoint_25 rfl (by decide) (fun bc2 => ?_) (fun bc2 => ?_)
    · skip
      replace bc2 := bz_0.mp bc2
      refine aw_iconst (q := 33) dX7_isPoint_32 rfl (by omega) ?_
      exact aw_zret dX7_isPoint_33 rfl (Or.inl rfl) (by decide) (by decide) ⟨_, rfl, rfl, rfl, congrArg vI (bz_f (by omega)).symm⟩
    · skip
      replace bc2 := bz_n0.mp bc2
      refine aw_iconst (q := 29) dX7_isPoint_28 rfl (by omega) ?_
      refine aw_goto (q := 33) dX7_isPoint_29 (by decide) ?_
      exact aw_zret dX7_isPoint_33 rfl (Or.inr rfl) (by decide) (by decide) ⟨_, rfl, rfl, rfl, congrArg vI (bz_t (by omega)).symm⟩
set_option maxHeartbeats 4000000 in
set_option maxRecDepth 100000 in
theorem m_X7_square {n : Nat} {μ : AH} {a b : Int} (ha : -500000 ≤ a ∧ a ≤ 500000) (hb : -500000 ≤ b ∧ b ≤ 500000) : AMet YX7_square [vL (a), vL (b)] n μ (Pv n μ (vL (a * a + b * b))) := by
  refine AMet.of (by decide) rfl (Nat.le_of_ble_eq_true rfl) ?_
  have h1 := sq_b (e := a) 500000 ha.1 ha.2
  have h2 := sq_b (e := b) 500000 hb.1 hb.2
  refine aw_lload_n (q := 1) dX7_square_0 rfl rfl rfl ?_
  refine aw_lload_n (q := 2) dX7_square_1 rfl rfl rfl ?_
  refine aw_lmul (q := 3) dX7_square_2 rfl (by omega) ?_
  refine aw_lload_n (q := 4) dX7_square_3 rfl rfl rfl ?_
  refine aw_lload_n (q := 5) dX7_square_4 rfl rfl rfl ?_
  refine aw_lmul (q := 6) dX7_square_5 rfl (by omega) ?_
  refine aw_ladd (q := 7) dX7_square_6 rfl (by omega) ?_
  exact aw_lret dX7_square_7 rfl (by decide) (by decide) ⟨_, rfl, rfl, rfl, rfl⟩
set_option maxHeartbeats 4000000 in
set_option maxRecDepth 100000 in
theorem m_X7_size {n : Nat} {μ : AH} {a : Int} (ha : -10000000 ≤ a ∧ a ≤ 10000000) : AMet YX7_size [vL (a)] n μ (Pv n μ (vL (zabs a))) := by
  refine AMet.of (by decide) rfl (Nat.le_of_ble_eq_true rfl) ?_
  refine aw_lload_n (q := 1) dX7_size_0 rfl rfl rfl ?_
  refine aw_lconst (a := 0) (q := 2) dX7_size_1 rfl rfl (by omega) ?_
  refine aw_lcmp (q := 3) dX7_size_2 rfl ?_
  refine aw_if_ge (t := 11) (q := 6) dX7_size_3 rfl (by decide) (fun bc1 => ?_) (fun bc1 => ?_)
  · skip
    replace bc1 := cmpz_ge.mp bc1
    refine aw_lload_n (q := 12) dX7_size_11 rfl rfl rfl ?_
    exact aw_lret dX7_size_12 rfl (by decide) (by decide) ⟨_, rfl, rfl, rfl, congrArg vL (by unfold zabs; split <;> omega)⟩
  · skip
    replace bc1 := mt cmpz_ge.mpr bc1
    refine aw_lload_n (q := 7) dX7_size_6 rfl rfl rfl ?_
    refine aw_lneg (q := 8) dX7_size_7 rfl (by omega) ?_
    refine aw_goto (q := 12) dX7_size_8 (by decide) ?_
    exact aw_lret dX7_size_12 rfl (by decide) (by decide) ⟨_, rfl, rfl, rfl, congrArg vL (by unfold zabs; split <;> omega)⟩
set_option maxHeartbeats 4000000 in
set_option maxRecDepth 100000 in
theorem m_X7_nearest {n : Nat} {μ : AH} {x y i : Int} (hi : y = 1000 * i) (hb : -200 ≤ i ∧ i ≤ 200) : AMet YX7_nearest [vI (x), vI (y)] n μ (Pv n μ (vI (nic x i))) := by
  refine AMet.of (by decide) rfl (Nat.le_of_ble_eq_true rfl) ?_
  refine aw_iload_n (q := 1) dX7_nearest_0 rfl rfl rfl ?_
  refine aw_iload_n (q := 2) dX7_nearest_1 rfl rfl rfl ?_
  refine aw_ic_ge (t := 9) (q := 5) dX7_nearest_2 rfl (by decide) (fun bc1 => ?_) (fun bc1 => ?_)
  · skip
    refine aw_iload_n (q := 10) dX7_nearest_9 rfl rfl rfl ?_
    refine aw_iload_n (q := 11) dX7_nearest_10 rfl rfl rfl ?_
    refine aw_sipush (q := 14) dX7_nearest_11 rfl (by decide) (by omega) ?_
    refine aw_iadd (q := 15) dX7_nearest_14 rfl (by omega) ?_
    refine aw_ic_le (t := 26) (q := 18) dX7_nearest_15 rfl (by decide) (fun bc2 => ?_) (fun bc2 => ?_)
    · skip
      refine aw_iload_n (q := 27) dX7_nearest_26 rfl rfl rfl ?_
      exact aw_iret dX7_nearest_27 rfl (by decide) (by decide) ⟨_, rfl, rfl, rfl, congrArg vI (by unfold nic; omega)⟩
    · skip
      refine aw_iload_n (q := 19) dX7_nearest_18 rfl rfl rfl ?_
      refine aw_sipush (q := 22) dX7_nearest_19 rfl (by decide) (by omega) ?_
      refine aw_iadd (q := 23) dX7_nearest_22 rfl (by omega) ?_
      refine aw_goto (q := 27) dX7_nearest_23 (by decide) ?_
      exact aw_iret dX7_nearest_27 rfl (by decide) (by decide) ⟨_, rfl, rfl, rfl, congrArg vI (by unfold nic; omega)⟩
  · skip
    refine aw_iload_n (q := 6) dX7_nearest_5 rfl rfl rfl ?_
    refine aw_goto (q := 27) dX7_nearest_6 (by decide) ?_
    exact aw_iret dX7_nearest_27 rfl (by decide) (by decide) ⟨_, rfl, rfl, rfl, congrArg vI (by unfold nic; omega)⟩
theorem up_lt {f : Nat → Int} {c : Nat} (h : ∀ p, p + 1 < c → f p < f (p + 1)) : ∀ {q p : Nat}, p < q → q < c → f p < f q
  | 0, p, h1, _ => absurd h1 (Nat.not_lt_zero _)
  | q + 1, p, h1, h2 => by
    have h3 := h q h2
    rcases Nat.lt_succ_iff_lt_or_eq.mp h1 with h4 | h4
    · have := up_lt h h4 (by omega); omega
    · rw [h4]; exact h3
theorem lowb_hi {f : Nat → Int} {c : Nat} (h : ∀ p, p + 1 < c → f p < f (p + 1)) {s : Int} {p : Nat} (h1 : lowb f s c 0 ≤ p) (h2 : p < c) : s ≤ f p := by
  have h3 := lowb_ge f s c 0 (by omega)
  by_cases e : lowb f s c 0 = p
  · rw [e] at h3; exact h3
  · have := up_lt h (show lowb f s c 0 < p by omega) h2; omega
set_option maxHeartbeats 4000000 in
set_option maxRecDepth 100000 in
theorem m_X7_before {n : Nat} {μ : AH} {th B : Int} {D : Nat} {dv : Nat → DVt} {Fn : Nat} {fv : Nat → FVt} {sv : SVt} {pk fd : Nat × (Nat → Int)} {spd lim : Int} {i s : Int} {d : Nat} (hi : i = (d : Int)) (hd : d < 5) (hm : MM μ th D dv Fn fv sv pk fd spd lim) (hO : COk B D dv Fn fv sv pk fd spd lim) : AMet YX7_before [vR 82, vI (i), vI (s)] n μ (Pv n μ (vI (plc (dv d) s : Nat))) := by
  refine AMet.of (by decide) rfl (Nat.le_of_ble_eq_true rfl) ?_
  obtain ⟨at7, ls7, wy7, c7, t7, F7, G7, H7, k7, a7, b7, e7, X7, Y7, y7, o7, r7, s7, u7, v7, w7, h82, h83, h84, h85, h86, h87, h88, h89, h90, h91, h92, h93, h94, h95, h96, h97, h98, h99, h100, ag1, ag2, ag3, ag4, ag5, ag6, ag7, ag8⟩ := id hm
  obtain ⟨hN, hdv, hFn, hfv, hsn, hsb, hpk, hfd, hfb, hs1, hs2, hl1, hl2⟩ := id hO
  have hcd := ag1 d hd
  have hdo := (hdv d hd).1
  have hc60 : (dv d).1 ≤ 60 := hdo.1
  have hpl : plc (dv d) s ≤ (dv d).1 := by have := (lowb_le (dv d).2.1 s (dv d).1 0).1; unfold plc; omega
  have loop : ∀ (j k : Nat) (nv kx : Int), (dv d).1 - k < j → kx = (k : Int) → k ≤ (dv d).1 → nv = (min k (plc (dv d) s) : Nat) → AW YX7_before none (Pv n μ (vI (plc (dv d) s : Nat))) 5 [some (vR 82), some (vI (i)), some (vI (s)), some (vI (nv)), some (vI (kx))] [] n μ 0 0 := by
    intro j
    induction j with
    | zero => intro k nv kx hj; exact absurd hj (Nat.not_lt_zero _)
    | succ j ih =>
      intro k nv kx hj hkx hk hnv
      refine aw_iload (q := 7) dX7_before_5 rfl rfl ?_
      refine aw_aload_n (q := 8) dX7_before_7 rfl rfl rfl ?_
      refine aw_get (q := 11) dX7_before_8 rfl fl_X7_7 h82 rfl (fun _ => ?_)
      refine aw_iload_n (q := 12) dX7_before_11 rfl rfl rfl ?_
      refine aw_iaload (j := d) (q := 13) dX7_before_12 rfl h83 (by omega) (by omega) (fun r1 => ?_)
      refine aw_ic_ge (t := 46) (q := 16) dX7_before_13 rfl (by decide) (fun bc2 => ?_) (fun bc2 => ?_)
      · skip
        refine aw_iload_n (q := 47) dX7_before_46 rfl rfl rfl ?_
        exact aw_iret dX7_before_47 rfl (by decide) (by decide) ⟨_, rfl, rfl, rfl, congrArg vI (by omega)⟩
      · skip
        refine aw_iload_n (q := 17) dX7_before_16 rfl rfl rfl ?_
        refine aw_aload_n (q := 18) dX7_before_17 rfl rfl rfl ?_
        refine aw_get (q := 21) dX7_before_18 rfl fl_X7_16 h82 rfl (fun _ => ?_)
        refine aw_bipush (q := 23) dX7_before_21 rfl (by decide) (by omega) ?_
        refine aw_iload_n (q := 24) dX7_before_23 rfl rfl rfl ?_
        refine aw_imul (q := 25) dX7_before_24 rfl (by omega) ?_
        refine aw_iload (q := 27) dX7_before_25 rfl rfl ?_
        refine aw_iadd (q := 28) dX7_before_27 rfl (by omega) ?_
        refine aw_iaload (j := 60 * d + k) (q := 29) dX7_before_28 rfl h85 (by omega) (by omega) (fun r3 => ?_)
        have hag := (ag2 d k hd (by omega)).1
        have hlt : k < plc (dv d) s → (dv d).2.1 k < s := fun h => lowb_lt (dv d).2.1 s (dv d).1 0 k (Nat.zero_le _) h
        have hge : plc (dv d) s ≤ k → s ≤ (dv d).2.1 k := fun h => lowb_hi hdo.2.2.1 h (by omega)
        refine aw_iload_n (q := 30) dX7_before_29 rfl rfl rfl ?_
        refine aw_ic_ge (t := 37) (q := 33) dX7_before_30 rfl (by decide) (fun bc4 => ?_) (fun bc4 => ?_)
        · skip
          refine aw_iconst (q := 38) dX7_before_37 rfl (by omega) ?_
          refine aw_iadd (q := 39) dX7_before_38 rfl (by omega) ?_
          refine aw_istore_n (q := 40) dX7_before_39 rfl rfl (by decide) ?_
          refine aw_iinc (q := 43) dX7_before_40 rfl rfl (by decide) (by omega) ?_
          refine aw_goto (q := 5) dX7_before_43 (by decide) ?_
          exact ih (k + 1) _ _ (by omega) (by omega) (by omega) (by omega)
        · skip
          refine aw_iconst (q := 34) dX7_before_33 rfl (by omega) ?_
          refine aw_goto (q := 38) dX7_before_34 (by decide) ?_
          refine aw_iadd (q := 39) dX7_before_38 rfl (by omega) ?_
          refine aw_istore_n (q := 40) dX7_before_39 rfl rfl (by decide) ?_
          refine aw_iinc (q := 43) dX7_before_40 rfl rfl (by decide) (by omega) ?_
          refine aw_goto (q := 5) dX7_before_43 (by decide) ?_
          exact ih (k + 1) _ _ (by omega) (by omega) (by omega) (by omega)
  refine aw_iconst (q := 1) dX7_before_0 rfl (by omega) ?_
  refine aw_istore_n (q := 2) dX7_before_1 rfl rfl (by decide) ?_
  refine aw_iconst (q := 3) dX7_before_2 rfl (by omega) ?_
  refine aw_istore (q := 5) dX7_before_3 rfl (by decide) ?_
  exact loop ((dv d).1 + 1) 0 _ _ (by omega) rfl (by omega) (by omega)
