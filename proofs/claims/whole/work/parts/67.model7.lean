/-! ===== TrackRowsModel: put, pack, difference, read (written by m_model7.py) ===== -/
theorem tmn {v m : Nat} : Int.tmod (v : Int) (m : Int) = ((v % m : Nat) : Int) := by rw [Int.tmod_eq_emod_of_nonneg (by omega)]; rfl
theorem tdn {v m : Nat} : Int.tdiv (v : Int) (m : Int) = ((v / m : Nat) : Int) := by rw [Int.tdiv_eq_ediv_of_nonneg (by omega)]; rfl
theorem td2 {v : Int} (h : 0 ≤ v) : Int.tdiv v 2 = v / 2 := Int.tdiv_eq_ediv_of_nonneg h
theorem tm2 {v : Int} (h : 0 ≤ v) : Int.tmod v 2 = v % 2 := Int.tmod_eq_emod_of_nonneg h
theorem td3 {v : Int} (h : 0 ≤ v) : Int.tdiv (-(v + 1)) 2 = -((v + 1) / 2) := by rw [Int.neg_tdiv, Int.tdiv_eq_ediv_of_nonneg (by omega)]
theorem tm128 {v : Nat} : Int.tmod (v : Int) 128 = ((v % 128 : Nat) : Int) := tmn (m := 128)
theorem td128 {v : Nat} : Int.tdiv (v : Int) 128 = ((v / 128 : Nat) : Int) := tdn (m := 128)
set_option maxHeartbeats 4000000 in
set_option maxRecDepth 100000 in
theorem m_X7_put {n : Nat} {μ : AH} {th at7 ls7 wy7 : Int} {D : Nat} {dv : Nat → DVt} {Fn : Nat} {fv : Nat → FVt} {sv : SVt} {pk fd : Nat × (Nat → Int)} {spd lim : Int} {c : Nat} {b : Nat → Int} {l : List Int} {x : Int} (hd : -1000000 ≤ x ∧ x ≤ 1000000) (hc : c = l.length) (hh : Has b l) (hl : (l ++ enc (zig x)).length ≤ 600) (h82 : μ 82 = oO 7 [vI th, vI (D : Int), vR 83, vR 84, vR 85, vR 86, vR 87, vR 88, vR 89, vR 90, vI spd, vI lim, vI (Fn : Int), vR 91, vR 92, vR 93, vI (c : Int), vR 94, vI (fd.1 : Int), vR 95, vI at7, vR 96, vI (sv.1 : Int), vR 97, vR 98, vR 99, vR 100, vL ls7, vI wy7]) (h94 : μ 94 = oI 600 b) : AMet YX7_put [vR 82, vI (x)] n μ (Vd (fun n' μ' => n' = n ∧ ∃ b' : Nat → Int, μ' 82 = oO 7 [vI th, vI (D : Int), vR 83, vR 84, vR 85, vR 86, vR 87, vR 88, vR 89, vR 90, vI spd, vI lim, vI (Fn : Int), vR 91, vR 92, vR 93, vI ((l ++ enc (zig x)).length : Int), vR 94, vI (fd.1 : Int), vR 95, vI at7, vR 96, vI (sv.1 : Int), vR 97, vR 98, vR 99, vR 100, vL ls7, vI wy7] ∧ μ' 94 = oI 600 b' ∧ Has b' (l ++ enc (zig x)) ∧ Fr [82, 94] μ μ')) := by
  refine AMet.of (by decide) rfl (Nat.le_of_ble_eq_true rfl) ?_
  have hz : zig x < 2097152 := by unfold zig; split <;> omega
  have loop : ∀ (j v : Nat) (vx : Int) (μ1 : AH) (c1 : Nat) (b1 : Nat → Int) (l1 : List Int), v < 128 ^ j ∧ v < 2097152 ∧ (0 < v ∨ 0 < j) → vx = (v : Int) → μ1 82 = oO 7 [vI th, vI (D : Int), vR 83, vR 84, vR 85, vR 86, vR 87, vR 88, vR 89, vR 90, vI spd, vI lim, vI (Fn : Int), vR 91, vR 92, vR 93, vI (c1 : Int), vR 94, vI (fd.1 : Int), vR 95, vI at7, vR 96, vI (sv.1 : Int), vR 97, vR 98, vR 99, vR 100, vL ls7, vI wy7] → μ1 94 = oI 600 b1 → Has b1 l1 → c1 = l1.length → (l ++ enc (zig x)) = l1 ++ encF j v → Fr [82, 94] μ μ1 → AW YX7_put none (Vd (fun n' μ' => n' = n ∧ ∃ b' : Nat → Int, μ' 82 = oO 7 [vI th, vI (D : Int), vR 83, vR 84, vR 85, vR 86, vR 87, vR 88, vR 89, vR 90, vI spd, vI lim, vI (Fn : Int), vR 91, vR 92, vR 93, vI ((l ++ enc (zig x)).length : Int), vR 94, vI (fd.1 : Int), vR 95, vI at7, vR 96, vI (sv.1 : Int), vR 97, vR 98, vR 99, vR 100, vL ls7, vI wy7] ∧ μ' 94 = oI 600 b' ∧ Has b' (l ++ enc (zig x)) ∧ Fr [82, 94] μ μ')) 17 [some (vR 82), some (vI (x)), some (vI (vx))] [] n μ1 0 0 := by
    intro j
    induction j with
    | zero =>
      intro v vx μ1 c1 b1 l1 hj
      have h0 : (128 : Nat) ^ 0 = 1 := rfl
      omega
    | succ j ih =>
      intro v vx μ1 c1 b1 l1 hj hvx g82 g94 hh hc1 heq hfr
      refine aw_iload_n (q := 18) dX7_put_17 rfl rfl rfl ?_
      refine aw_bipush (q := 20) dX7_put_18 rfl (by decide) (by omega) ?_
      refine aw_ic_le (t := 60) (q := 23) dX7_put_20 rfl (by decide) (fun bc1 => ?_) (fun bc1 => ?_)
      · skip
        have e6 : encF (j + 1) v = [(v : Int)] := by show (if v ≤ 127 then _ else _) = _; rw [if_pos (by omega)]
        have hl2 := hl
        rw [heq, e6, List.length_append, ← hc1] at hl2
        have hl3 : c1 + 1 ≤ 600 := hl2
        refine aw_aload_n (q := 61) dX7_put_60 rfl rfl rfl ?_
        refine aw_get (q := 64) dX7_put_61 rfl fl_X7_50 g82 rfl (fun _ => ?_)
        refine aw_aload_n (q := 65) dX7_put_64 rfl rfl rfl ?_
        refine aw_get (q := 68) dX7_put_65 rfl fl_X7_159 g82 rfl (fun _ => ?_)
        refine aw_iload_n (q := 69) dX7_put_68 rfl rfl rfl ?_
        refine aw_iastore (j := c1) (q := 70) dX7_put_69 rfl g94 (by omega) (by omega) ?_
        refine aw_aload_n (q := 71) dX7_put_70 rfl rfl rfl ?_
        refine aw_dup (q := 72) dX7_put_71 rfl rfl ?_
        refine aw_get (q := 75) dX7_put_72 rfl fl_X7_159 ((hu_n (by omega)).trans g82) rfl (fun _ => ?_)
        refine aw_iconst (q := 76) dX7_put_75 rfl (by omega) ?_
        refine aw_iadd (q := 77) dX7_put_76 rfl (by omega) ?_
        refine aw_put (q := 80) dX7_put_77 rfl fp_X7_159 ((hu_n (by omega)).trans g82) (Nat.le_of_ble_eq_true rfl) trivial ?_
        exact aw_vret dX7_put_80 rfl (by decide) (by decide) ⟨rfl, rfl, _, by rw [heq, e6, List.length_append, ← hc1]; exact hu_s, ((hu_n (by omega)).trans hu_s), by rw [heq, e6, ← hvx]; exact Has_s hh hc1, (Fr_hu (Fr_hu hfr (by simp)) (by simp))⟩
      · skip
        have e5 : encF (j + 1) v = (128 + (v % 128 : Nat) : Int) :: encF j (v / 128) := by show (if v ≤ 127 then _ else _) = _; rw [if_neg (by omega)]
        have hlen : (encF (j + 1) v).length = 1 + (encF j (v / 128)).length := by rw [e5]; simp; omega
        have hl2 := hl
        rw [heq, List.length_append, ← hc1, hlen] at hl2
        subst hvx
        have hhas : Has (fu b1 c1 (((v % 128 : Nat) : Int) + 128)) (l1 ++ [(128 + (v % 128 : Nat) : Int)]) := by rw [Int.add_comm]; exact Has_s hh hc1
        refine aw_aload_n (q := 24) dX7_put_23 rfl rfl rfl ?_
        refine aw_get (q := 27) dX7_put_24 rfl fl_X7_50 g82 rfl (fun _ => ?_)
        refine aw_aload_n (q := 28) dX7_put_27 rfl rfl rfl ?_
        refine aw_get (q := 31) dX7_put_28 rfl fl_X7_159 g82 rfl (fun _ => ?_)
        refine aw_iload_n (q := 32) dX7_put_31 rfl rfl rfl ?_
        refine aw_sipush (q := 35) dX7_put_32 rfl (by decide) (by omega) ?_
        refine aw_irem (q := 36) dX7_put_35 rfl (by omega) (by rw [tm128]; omega) ?_
        rw [tm128]
        refine aw_sipush (q := 39) dX7_put_36 rfl (by decide) (by omega) ?_
        refine aw_iadd (q := 40) dX7_put_39 rfl (by omega) ?_
        refine aw_iastore (j := c1) (q := 41) dX7_put_40 rfl g94 (by omega) (by omega) ?_
        refine aw_aload_n (q := 42) dX7_put_41 rfl rfl rfl ?_
        refine aw_dup (q := 43) dX7_put_42 rfl rfl ?_
        refine aw_get (q := 46) dX7_put_43 rfl fl_X7_159 ((hu_n (by omega)).trans g82) rfl (fun _ => ?_)
        refine aw_iconst (q := 47) dX7_put_46 rfl (by omega) ?_
        refine aw_iadd (q := 48) dX7_put_47 rfl (by omega) ?_
        refine aw_put (q := 51) dX7_put_48 rfl fp_X7_159 ((hu_n (by omega)).trans g82) (Nat.le_of_ble_eq_true rfl) trivial ?_
        refine aw_iload_n (q := 52) dX7_put_51 rfl rfl rfl ?_
        refine aw_sipush (q := 55) dX7_put_52 rfl (by decide) (by omega) ?_
        refine aw_idiv (q := 56) dX7_put_55 rfl (by omega) (by rw [td128]; omega) ?_
        rw [td128]
        refine aw_istore_n (q := 57) dX7_put_56 rfl rfl (by decide) ?_
        refine aw_goto (q := 17) dX7_put_57 (by decide) ?_
        exact ih (v / 128) _ _ (c1 + 1) _ (l1 ++ [(128 + (v % 128 : Nat) : Int)]) (by omega) rfl hu_s (((hu_n (by omega)).trans hu_s)) hhas (by rw [List.length_append, hc1]; rfl) (by rw [heq, e5]; simp) (Fr_hu (Fr_hu hfr (by simp)) (by simp))
  refine aw_iload_n (q := 1) dX7_put_0 rfl rfl rfl ?_
  refine aw_if_ge (t := 13) (q := 4) dX7_put_1 rfl (by decide) (fun bc1 => ?_) (fun bc1 => ?_)
  · skip
    refine aw_iconst (q := 14) dX7_put_13 rfl (by omega) ?_
    refine aw_iload_n (q := 15) dX7_put_14 rfl rfl rfl ?_
    refine aw_imul (q := 16) dX7_put_15 rfl (by omega) ?_
    refine aw_istore_n (q := 17) dX7_put_16 rfl rfl (by decide) ?_
    exact loop 5 (zig x) _ μ c b l (by omega) (by rw [zig_p (by omega)]) h82 h94 hh hc rfl Fr_rf
  · skip
    refine aw_bipush (q := 6) dX7_put_4 rfl (by decide) (by omega) ?_
    refine aw_iload_n (q := 7) dX7_put_6 rfl rfl rfl ?_
    refine aw_imul (q := 8) dX7_put_7 rfl (by omega) ?_
    refine aw_iconst (q := 9) dX7_put_8 rfl (by omega) ?_
    refine aw_isub (q := 10) dX7_put_9 rfl (by omega) ?_
    refine aw_goto (q := 16) dX7_put_10 (by decide) ?_
    refine aw_istore_n (q := 17) dX7_put_16 rfl rfl (by decide) ?_
    exact loop 5 (zig x) _ μ c b l (by omega) (by rw [zig_n (by omega)]) h82 h94 hh hc rfl Fr_rf
theorem pv0 {f : Nat → Int} {p : Nat} (h : p = 0) : prv f p = 0 := if_pos h
theorem pv1 {f : Nat → Int} {p : Nat} (h : ¬ p = 0) : prv f p = f (p - 1) := if_neg h
theorem Fr_R {lo hi : Nat} {L : List Nat} {μ μ' : AH} (h : Fr L μ μ') (h' : ∀ a ∈ L, lo ≤ a ∧ a < hi) : FrR lo hi μ μ' := fun b hb => h b (fun hm => by have := h' b hm; omega)
theorem Has_u {f g : Nat → Int} {l : List Int} (h : Has f l) (h' : Has g l) {i : Nat} (hi : i < l.length) : f i = g i := (h i hi).trans (h' i hi).symm
set_option maxHeartbeats 4000000 in
set_option maxRecDepth 100000 in
theorem m_X7_pack {n : Nat} {μ : AH} {th B : Int} {D : Nat} {dv : Nat → DVt} {Fn : Nat} {fv : Nat → FVt} {sv : SVt} {pk fd : Nat × (Nat → Int)} {spd lim : Int} {i : Int} (hm : MM μ th D dv Fn fv sv pk fd spd lim) (hO : COk B D dv Fn fv sv pk fd spd lim) : AMet YX7_pack [vR 82, vI (i)] n μ (fun o n' μ' => n' = n ∧ FrR 82 101 μ μ' ∧ ∃ v : Int, o = .inl (some (vI v)) ∧ (((0 ≤ i ∧ i < (D : Int)) ∧ v = ((packP (dv i.toNat).2.1 (dv i.toNat).2.2.1 (dv i.toNat).2.2.2.1 (dv i.toNat).1).length : Int) ∧ ∀ b9, Has b9 (packP (dv i.toNat).2.1 (dv i.toNat).2.2.1 (dv i.toNat).2.2.2.1 (dv i.toNat).1) → MM μ' 0 D dv Fn fv sv ((packP (dv i.toNat).2.1 (dv i.toNat).2.2.1 (dv i.toNat).2.2.2.1 (dv i.toNat).1).length, b9) fd spd lim) ∨ (¬ (0 ≤ i ∧ i < (D : Int)) ∧ MM μ' 1 D dv Fn fv sv pk fd spd lim))) := by
  refine AMet.of (by decide) rfl (Nat.le_of_ble_eq_true rfl) ?_
  obtain ⟨at7, ls7, wy7, c7, t7, F7, G7, H7, k7, a7, b7, e7, X7, Y7, y7, o7, r7, s7, u7, v7, w7, h82, h83, h84, h85, h86, h87, h88, h89, h90, h91, h92, h93, h94, h95, h96, h97, h98, h99, h100, ag1, ag2, ag3, ag4, ag5, ag6, ag7, ag8⟩ := id hm
  obtain ⟨hN, hdv, hFn, hfv, hsn, hsb, hpk, hfd, hfb, hs1, hs2, hl1, hl2⟩ := id hO
  refine aw_aload_n (q := 1) dX7_pack_0 rfl rfl rfl ?_
  refine aw_iconst (q := 2) dX7_pack_1 rfl (by omega) ?_
  refine aw_put (q := 5) dX7_pack_2 rfl fp_X7_72 h82 (Nat.le_of_ble_eq_true rfl) trivial ?_
  refine mm_z (at' := at7) (ls' := ls7) (wy' := wy7) hm (fun μ0 hm0 hF0 => ?_)
  obtain ⟨at7, ls7, wy7, c7, t7, F7, G7, H7, k7, a7, b7, e7, X7, Y7, y7, o7, r7, s7, u7, v7, w7, h82, h83, h84, h85, h86, h87, h88, h89, h90, h91, h92, h93, h94, h95, h96, h97, h98, h99, h100, ag1, ag2, ag3, ag4, ag5, ag6, ag7, ag8⟩ := id hm0
  refine aw_aload_n (q := 6) dX7_pack_5 rfl rfl rfl ?_
  refine aw_aload_n (q := 7) dX7_pack_6 rfl rfl rfl ?_
  refine aw_iload_n (q := 8) dX7_pack_7 rfl rfl rfl ?_
  refine aw_callV [vI (i)] (q := 11) dX7_pack_8 rfl ck_X7_isDevice lk_X7_78 rfl ⟨Nat.le_of_ble_eq_true rfl, Nat.le_of_ble_eq_true rfl⟩ rfl rfl h82 rfl (Nat.le_of_ble_eq_true rfl) (by decide) (m_X7_isDevice hm0 hO) rfl (fun _ _ _ h => (Rt_x h).elim) ?_
  rintro v n9 μ9 - ⟨v9, hv9, hn9, hm9, rfl⟩
  obtain rfl := hn9.symm
  obtain rfl := hm9.symm
  obtain rfl := Sum.inl.inj hv9
  refine aw_if_ne (t := 18) (q := 14) dX7_pack_11 rfl (by decide) (fun bc1 => ?_) (fun bc1 => ?_)
  · skip
    replace bc1 := bz_n0.mp bc1
    refine aw_iconst (q := 19) dX7_pack_18 rfl (by omega) ?_
    refine aw_iconst (q := 20) dX7_pack_19 rfl (by omega) ?_
    refine aw_callV [vI (0), vI (1)] (q := 23) dX7_pack_20 rfl ck_X7_fails lk_X7_82 rfl ⟨Nat.le_of_ble_eq_true rfl, Nat.le_of_ble_eq_true rfl⟩ rfl rfl h82 rfl (Nat.le_of_ble_eq_true rfl) (by decide) (m_X7_fails_f h82) rfl (fun _ _ _ h => (Rt_x h).elim) ?_
    rintro v n9 μ9 - ⟨v9, hv9, hn9, hm9, rfl⟩
    obtain rfl := hn9.symm
    obtain rfl := hm9.symm
    obtain rfl := Sum.inl.inj hv9
    refine aw_if_eq (t := 28) (q := 26) dX7_pack_23 rfl (by decide) (fun bc2 => ?_) (fun bc2 => ?_)
    · skip
      refine aw_aload_n (q := 29) dX7_pack_28 rfl rfl rfl ?_
      refine aw_iconst (q := 30) dX7_pack_29 rfl (by omega) ?_
      refine aw_put (q := 33) dX7_pack_30 rfl fp_X7_159 h82 (Nat.le_of_ble_eq_true rfl) trivial ?_
      refine aw_iconst (q := 34) dX7_pack_33 rfl (by omega) ?_
      refine aw_istore_n (q := 35) dX7_pack_34 rfl rfl (by decide) ?_
      obtain ⟨d, hi⟩ : ∃ d : Nat, i = (d : Int) := ⟨i.toNat, by omega⟩
      have hid : i.toNat = d := by omega
      have hd5 : d < 5 := by omega
      have hcd := ag1 d hd5
      have hdo := (hdv d hd5).1
      have hc60 : (dv d).1 ≤ 60 := hdo.1
      have hk8 : (dv d).2.2.2.2.2.1 ≤ 8 := hdo.2.2.2.1
      have lp : ∀ (jlp : Nat) (p : Nat) (px : Int) (μ1 : AH) (y9 : Nat → Int), (dv d).1 - p < jlp → px = (p : Int) → p ≤ (dv d).1 → μ1 82 = oO 7 [vI 0, vI (D : Int), vR 83, vR 84, vR 85, vR 86, vR 87, vR 88, vR 89, vR 90, vI spd, vI lim, vI (Fn : Int), vR 91, vR 92, vR 93, vI ((packP (dv d).2.1 (dv d).2.2.1 (dv d).2.2.2.1 p).length : Int), vR 94, vI (fd.1 : Int), vR 95, vI at7, vR 96, vI (sv.1 : Int), vR 97, vR 98, vR 99, vR 100, vL ls7, vI wy7] → μ1 94 = oI 600 y9 → Has y9 (packP (dv d).2.1 (dv d).2.2.1 (dv d).2.2.2.1 p) → Fr [82, 94] μ0 μ1 → AW YX7_pack none (fun o n' μ' => n' = n ∧ FrR 82 101 μ μ' ∧ ∃ v : Int, o = .inl (some (vI v)) ∧ (((0 ≤ i ∧ i < (D : Int)) ∧ v = ((packP (dv i.toNat).2.1 (dv i.toNat).2.2.1 (dv i.toNat).2.2.2.1 (dv i.toNat).1).length : Int) ∧ ∀ b9, Has b9 (packP (dv i.toNat).2.1 (dv i.toNat).2.2.1 (dv i.toNat).2.2.2.1 (dv i.toNat).1) → MM μ' 0 D dv Fn fv sv ((packP (dv i.toNat).2.1 (dv i.toNat).2.2.1 (dv i.toNat).2.2.2.1 (dv i.toNat).1).length, b9) fd spd lim) ∨ (¬ (0 ≤ i ∧ i < (D : Int)) ∧ MM μ' 1 D dv Fn fv sv pk fd spd lim))) 35 [some (vR 82), some (vI (i)), some (vI (px)), none] [] n μ1 0 0 := by
        intro jlp
        induction jlp with
        | zero => intro p px μ1 y9 hj; exact absurd hj (Nat.not_lt_zero _)
        | succ jlp ihlp =>
          intro p px μ1 y9 hjlp hpx hpc g82 g94 hh hfr
          refine aw_iload_n (q := 36) dX7_pack_35 rfl rfl rfl ?_
          refine aw_aload_n (q := 37) dX7_pack_36 rfl rfl rfl ?_
          refine aw_get (q := 40) dX7_pack_37 rfl fl_X7_7 g82 rfl (fun _ => ?_)
          refine aw_iload_n (q := 41) dX7_pack_40 rfl rfl rfl ?_
          refine aw_iaload (j := d) (q := 42) dX7_pack_41 rfl ((hfr 83 (by simp)).trans h83) (by omega) (by omega) (fun rx1 => ?_)
          refine aw_ic_ge (t := 139) (q := 45) dX7_pack_42 rfl (by decide) (fun bc2 => ?_) (fun bc2 => ?_)
          · skip
            have hpe : p = (dv d).1 := by omega
            refine aw_aload_n (q := 140) dX7_pack_139 rfl rfl rfl ?_
            refine aw_get (q := 143) dX7_pack_140 rfl fl_X7_159 g82 rfl (fun _ => ?_)
            exact aw_iret dX7_pack_143 rfl (by decide) (by decide) ⟨rfl, FrR_tr (FrR_w hF0 (by omega) (by omega)) (Fr_R hfr (by simp)), _, rfl, Or.inl ⟨by omega, by rw [hid, ← hpe], fun b9 hb9 => by rw [hid, ← hpe] at hb9 ⊢; exact ⟨at7, ls7, wy7, c7, t7, F7, G7, H7, k7, a7, b7, e7, X7, Y7, y9, o7, r7, s7, u7, v7, w7, g82, ((hfr 83 (by simp)).trans h83), ((hfr 84 (by simp)).trans h84), ((hfr 85 (by simp)).trans h85), ((hfr 86 (by simp)).trans h86), ((hfr 87 (by simp)).trans h87), ((hfr 88 (by simp)).trans h88), ((hfr 89 (by simp)).trans h89), ((hfr 90 (by simp)).trans h90), ((hfr 91 (by simp)).trans h91), ((hfr 92 (by simp)).trans h92), ((hfr 93 (by simp)).trans h93), g94, ((hfr 95 (by simp)).trans h95), ((hfr 96 (by simp)).trans h96), ((hfr 97 (by simp)).trans h97), ((hfr 98 (by simp)).trans h98), ((hfr 99 (by simp)).trans h99), ((hfr 100 (by simp)).trans h100), ag1, ag2, ag3, ag4, ag5, (fun q hq => Has_u hh hb9 hq), ag7, ag8⟩⟩⟩
          · skip
            have hpc9 : p < (dv d).1 := by omega
            have hag := ag2 d p hd5 hpc9
            have hbp := hdo.2.1 p hpc9
            have hl9 := packP_len (c := (dv d).1) hdo.2.1 (p + 1) (by omega)
            have hl8 : (packP (dv d).2.1 (dv d).2.2.1 (dv d).2.2.2.1 (p + 1)) = ((packP (dv d).2.1 (dv d).2.2.1 (dv d).2.2.2.1 p ++ enc (zig ((dv d).2.1 p - prv (dv d).2.1 p))) ++ enc (zig ((dv d).2.2.1 p - prv (dv d).2.2.1 p))) ++ enc (zig ((dv d).2.2.2.1 p - prv (dv d).2.2.2.1 p)) := rfl
            rw [hl8] at hl9
            have hl5 := List.length_append (as := ((packP (dv d).2.1 (dv d).2.2.1 (dv d).2.2.2.1 p ++ enc (zig ((dv d).2.1 p - prv (dv d).2.1 p))) ++ enc (zig ((dv d).2.2.1 p - prv (dv d).2.2.1 p)))) (bs := enc (zig ((dv d).2.2.2.1 p - prv (dv d).2.2.2.1 p)))
            have hl7 := List.length_append (as := packP (dv d).2.1 (dv d).2.2.1 (dv d).2.2.2.1 p ++ enc (zig ((dv d).2.1 p - prv (dv d).2.1 p))) (bs := enc (zig ((dv d).2.2.1 p - prv (dv d).2.2.1 p)))
            have hl6 := List.length_append (as := packP (dv d).2.1 (dv d).2.2.1 (dv d).2.2.2.1 p) (bs := enc (zig ((dv d).2.1 p - prv (dv d).2.1 p)))
            refine aw_bipush (q := 47) dX7_pack_45 rfl (by decide) (by omega) ?_
            refine aw_iload_n (q := 48) dX7_pack_47 rfl rfl rfl ?_
            refine aw_imul (q := 49) dX7_pack_48 rfl (by omega) ?_
            refine aw_iload_n (q := 50) dX7_pack_49 rfl rfl rfl ?_
            refine aw_iadd (q := 51) dX7_pack_50 rfl (by omega) ?_
            refine aw_istore_n (q := 52) dX7_pack_51 rfl rfl (by decide) ?_
            refine aw_aload_n (q := 53) dX7_pack_52 rfl rfl rfl ?_
            refine aw_aload_n (q := 54) dX7_pack_53 rfl rfl rfl ?_
            refine aw_get (q := 57) dX7_pack_54 rfl fl_X7_16 g82 rfl (fun _ => ?_)
            refine aw_iload_n (q := 58) dX7_pack_57 rfl rfl rfl ?_
            refine aw_iaload (j := 60 * d + p) (q := 59) dX7_pack_58 rfl ((hfr 85 (by simp)).trans h85) (by omega) (by omega) (fun rx3 => ?_)
            rw [hag.1]
            refine aw_iload_n (q := 60) dX7_pack_59 rfl rfl rfl ?_
            refine aw_if_le (t := 74) (q := 63) dX7_pack_60 rfl (by decide) (fun bc4 => ?_) (fun bc4 => ?_)
            · skip
              refine aw_iconst (q := 75) dX7_pack_74 rfl (by omega) ?_
              refine aw_isub (q := 76) dX7_pack_75 rfl (by omega) ?_
              refine aw_callV [vI (((dv d).2.1 p) - 0)] (q := 79) dX7_pack_76 rfl ck_X7_put lk_X7_162 rfl ⟨Nat.le_of_ble_eq_true rfl, Nat.le_of_ble_eq_true rfl⟩ rfl rfl g82 rfl (Nat.le_of_ble_eq_true rfl) (by decide) ((by rw [show ((dv d).2.1 p) - 0 = (dv d).2.1 p - prv (dv d).2.1 p by (first | rw [pv0 (by omega)] | rw [pv1 (by omega)])]; exact m_X7_put (dv := dv) (fv := fv) (pk := pk) (l := (packP (dv d).2.1 (dv d).2.2.1 (dv d).2.2.2.1 p)) (by first | rw [pv0 (by omega)]; omega | rw [pv1 (by omega)]; omega) rfl hh (by omega) g82 g94)) rfl (fun _ _ _ h => (Vd_x h).elim) ?_
              rintro v n9 μ1 - ⟨hv9, hn9, b1, k821, k941, hh1, hF1⟩
              obtain rfl := hn9.symm
              obtain rfl := Sum.inl.inj hv9
              refine aw_aload_n (q := 80) dX7_pack_79 rfl rfl rfl ?_
              refine aw_aload_n (q := 81) dX7_pack_80 rfl rfl rfl ?_
              refine aw_get (q := 84) dX7_pack_81 rfl fl_X7_19 k821 rfl (fun _ => ?_)
              refine aw_iload_n (q := 85) dX7_pack_84 rfl rfl rfl ?_
              refine aw_iaload (j := 60 * d + p) (q := 86) dX7_pack_85 rfl ((hF1 86 (by simp)).trans ((hfr 86 (by simp)).trans h86)) (by omega) (by omega) (fun rx5 => ?_)
              rw [hag.2.1]
              refine aw_iload_n (q := 87) dX7_pack_86 rfl rfl rfl ?_
              refine aw_if_le (t := 101) (q := 90) dX7_pack_87 rfl (by decide) (fun bc6 => ?_) (fun bc6 => ?_)
              · skip
                refine aw_iconst (q := 102) dX7_pack_101 rfl (by omega) ?_
                refine aw_isub (q := 103) dX7_pack_102 rfl (by omega) ?_
                refine aw_callV [vI (((dv d).2.2.1 p) - 0)] (q := 106) dX7_pack_103 rfl ck_X7_put lk_X7_162 rfl ⟨Nat.le_of_ble_eq_true rfl, Nat.le_of_ble_eq_true rfl⟩ rfl rfl k821 rfl (Nat.le_of_ble_eq_true rfl) (by decide) ((by rw [show ((dv d).2.2.1 p) - 0 = (dv d).2.2.1 p - prv (dv d).2.2.1 p by (first | rw [pv0 (by omega)] | rw [pv1 (by omega)])]; exact m_X7_put (dv := dv) (fv := fv) (pk := pk) (l := (packP (dv d).2.1 (dv d).2.2.1 (dv d).2.2.2.1 p ++ enc (zig ((dv d).2.1 p - prv (dv d).2.1 p)))) (by first | rw [pv0 (by omega)]; omega | rw [pv1 (by omega)]; omega) rfl hh1 (by omega) k821 k941)) rfl (fun _ _ _ h => (Vd_x h).elim) ?_
                rintro v n9 μ2 - ⟨hv9, hn9, b2, k822, k942, hh2, hF2⟩
                obtain rfl := hn9.symm
                obtain rfl := Sum.inl.inj hv9
                refine aw_aload_n (q := 107) dX7_pack_106 rfl rfl rfl ?_
                refine aw_aload_n (q := 108) dX7_pack_107 rfl rfl rfl ?_
                refine aw_get (q := 111) dX7_pack_108 rfl fl_X7_22 k822 rfl (fun _ => ?_)
                refine aw_iload_n (q := 112) dX7_pack_111 rfl rfl rfl ?_
                refine aw_iaload (j := 60 * d + p) (q := 113) dX7_pack_112 rfl ((hF2 87 (by simp)).trans ((hF1 87 (by simp)).trans ((hfr 87 (by simp)).trans h87))) (by omega) (by omega) (fun rx7 => ?_)
                rw [hag.2.2]
                refine aw_iload_n (q := 114) dX7_pack_113 rfl rfl rfl ?_
                refine aw_if_le (t := 128) (q := 117) dX7_pack_114 rfl (by decide) (fun bc8 => ?_) (fun bc8 => ?_)
                · skip
                  refine aw_iconst (q := 129) dX7_pack_128 rfl (by omega) ?_
                  refine aw_isub (q := 130) dX7_pack_129 rfl (by omega) ?_
                  refine aw_callV [vI (((dv d).2.2.2.1 p) - 0)] (q := 133) dX7_pack_130 rfl ck_X7_put lk_X7_162 rfl ⟨Nat.le_of_ble_eq_true rfl, Nat.le_of_ble_eq_true rfl⟩ rfl rfl k822 rfl (Nat.le_of_ble_eq_true rfl) (by decide) ((by rw [show ((dv d).2.2.2.1 p) - 0 = (dv d).2.2.2.1 p - prv (dv d).2.2.2.1 p by (first | rw [pv0 (by omega)] | rw [pv1 (by omega)])]; exact m_X7_put (dv := dv) (fv := fv) (pk := pk) (l := ((packP (dv d).2.1 (dv d).2.2.1 (dv d).2.2.2.1 p ++ enc (zig ((dv d).2.1 p - prv (dv d).2.1 p))) ++ enc (zig ((dv d).2.2.1 p - prv (dv d).2.2.1 p)))) (by first | rw [pv0 (by omega)]; omega | rw [pv1 (by omega)]; omega) rfl hh2 (by omega) k822 k942)) rfl (fun _ _ _ h => (Vd_x h).elim) ?_
                  rintro v n9 μ3 - ⟨hv9, hn9, b3, k823, k943, hh3, hF3⟩
                  obtain rfl := hn9.symm
                  obtain rfl := Sum.inl.inj hv9
                  refine aw_iinc (q := 136) dX7_pack_133 rfl rfl (by decide) (by omega) ?_
                  refine aw_ls (ls := [some (vR 82), some (vI (i)), some (vI (px + 1)), some (vI ((60 * i) + px))]) ⟨rfl, ⟨rfl, ⟨rfl, ⟨rfl, trivial⟩⟩⟩⟩ ?_
                  refine aw_goto (q := 35) dX7_pack_136 (by decide) ?_
                  refine aw_ls (ls := [some (vR 82), some (vI (i)), some (vI (px + 1)), none]) ⟨rfl, ⟨rfl, ⟨rfl, trivial⟩⟩⟩ ?_
                  exact ihlp (p + 1) _ _ b3 (by omega) (by omega) (by omega) (by rw [hl8]; exact k823) k943 (by rw [hl8]; exact hh3) (Fr_tr (Fr_tr (Fr_tr hfr hF1 (fun a h => h)) hF2 (fun a h => h)) hF3 (fun a h => h))
                · skip
                  omega
              · skip
                omega
            · skip
              have hagp := ag2 d (p - 1) hd5 (by omega)
              have hbpp := hdo.2.1 (p - 1) (by omega)
              refine aw_aload_n (q := 64) dX7_pack_63 rfl rfl rfl ?_
              refine aw_get (q := 67) dX7_pack_64 rfl fl_X7_16 g82 rfl (fun _ => ?_)
              refine aw_iload_n (q := 68) dX7_pack_67 rfl rfl rfl ?_
              refine aw_iconst (q := 69) dX7_pack_68 rfl (by omega) ?_
              refine aw_isub (q := 70) dX7_pack_69 rfl (by omega) ?_
              refine aw_iaload (j := 60 * d + (p - 1)) (q := 71) dX7_pack_70 rfl ((hfr 85 (by simp)).trans h85) (by omega) (by omega) (fun rx9 => ?_)
              rw [hagp.1]
              refine aw_goto (q := 75) dX7_pack_71 (by decide) ?_
              refine aw_isub (q := 76) dX7_pack_75 rfl (by omega) ?_
              refine aw_callV [vI (((dv d).2.1 p) - ((dv d).2.1 (p - 1)))] (q := 79) dX7_pack_76 rfl ck_X7_put lk_X7_162 rfl ⟨Nat.le_of_ble_eq_true rfl, Nat.le_of_ble_eq_true rfl⟩ rfl rfl g82 rfl (Nat.le_of_ble_eq_true rfl) (by decide) ((by rw [show ((dv d).2.1 p) - ((dv d).2.1 (p - 1)) = (dv d).2.1 p - prv (dv d).2.1 p by (first | rw [pv0 (by omega)] | rw [pv1 (by omega)])]; exact m_X7_put (dv := dv) (fv := fv) (pk := pk) (l := (packP (dv d).2.1 (dv d).2.2.1 (dv d).2.2.2.1 p)) (by first | rw [pv0 (by omega)]; omega | rw [pv1 (by omega)]; omega) rfl hh (by omega) g82 g94)) rfl (fun _ _ _ h => (Vd_x h).elim) ?_
              rintro v n9 μ1 - ⟨hv9, hn9, b1, k821, k941, hh1, hF1⟩
              obtain rfl := hn9.symm
              obtain rfl := Sum.inl.inj hv9
              refine aw_aload_n (q := 80) dX7_pack_79 rfl rfl rfl ?_
              refine aw_aload_n (q := 81) dX7_pack_80 rfl rfl rfl ?_
              refine aw_get (q := 84) dX7_pack_81 rfl fl_X7_19 k821 rfl (fun _ => ?_)
              refine aw_iload_n (q := 85) dX7_pack_84 rfl rfl rfl ?_
              refine aw_iaload (j := 60 * d + p) (q := 86) dX7_pack_85 rfl ((hF1 86 (by simp)).trans ((hfr 86 (by simp)).trans h86)) (by omega) (by omega) (fun rx10 => ?_)
              rw [hag.2.1]
              refine aw_iload_n (q := 87) dX7_pack_86 rfl rfl rfl ?_
              refine aw_if_le (t := 101) (q := 90) dX7_pack_87 rfl (by decide) (fun bc11 => ?_) (fun bc11 => ?_)
              · skip
                omega
              · skip
                refine aw_aload_n (q := 91) dX7_pack_90 rfl rfl rfl ?_
                refine aw_get (q := 94) dX7_pack_91 rfl fl_X7_19 k821 rfl (fun _ => ?_)
                refine aw_iload_n (q := 95) dX7_pack_94 rfl rfl rfl ?_
                refine aw_iconst (q := 96) dX7_pack_95 rfl (by omega) ?_
                refine aw_isub (q := 97) dX7_pack_96 rfl (by omega) ?_
                refine aw_iaload (j := 60 * d + (p - 1)) (q := 98) dX7_pack_97 rfl ((hF1 86 (by simp)).trans ((hfr 86 (by simp)).trans h86)) (by omega) (by omega) (fun rx12 => ?_)
                rw [hagp.2.1]
                refine aw_goto (q := 102) dX7_pack_98 (by decide) ?_
                refine aw_isub (q := 103) dX7_pack_102 rfl (by omega) ?_
                refine aw_callV [vI (((dv d).2.2.1 p) - ((dv d).2.2.1 (p - 1)))] (q := 106) dX7_pack_103 rfl ck_X7_put lk_X7_162 rfl ⟨Nat.le_of_ble_eq_true rfl, Nat.le_of_ble_eq_true rfl⟩ rfl rfl k821 rfl (Nat.le_of_ble_eq_true rfl) (by decide) ((by rw [show ((dv d).2.2.1 p) - ((dv d).2.2.1 (p - 1)) = (dv d).2.2.1 p - prv (dv d).2.2.1 p by (first | rw [pv0 (by omega)] | rw [pv1 (by omega)])]; exact m_X7_put (dv := dv) (fv := fv) (pk := pk) (l := (packP (dv d).2.1 (dv d).2.2.1 (dv d).2.2.2.1 p ++ enc (zig ((dv d).2.1 p - prv (dv d).2.1 p)))) (by first | rw [pv0 (by omega)]; omega | rw [pv1 (by omega)]; omega) rfl hh1 (by omega) k821 k941)) rfl (fun _ _ _ h => (Vd_x h).elim) ?_
                rintro v n9 μ2 - ⟨hv9, hn9, b2, k822, k942, hh2, hF2⟩
                obtain rfl := hn9.symm
                obtain rfl := Sum.inl.inj hv9
                refine aw_aload_n (q := 107) dX7_pack_106 rfl rfl rfl ?_
                refine aw_aload_n (q := 108) dX7_pack_107 rfl rfl rfl ?_
                refine aw_get (q := 111) dX7_pack_108 rfl fl_X7_22 k822 rfl (fun _ => ?_)
                refine aw_iload_n (q := 112) dX7_pack_111 rfl rfl rfl ?_
                refine aw_iaload (j := 60 * d + p) (q := 113) dX7_pack_112 rfl ((hF2 87 (by simp)).trans ((hF1 87 (by simp)).trans ((hfr 87 (by simp)).trans h87))) (by omega) (by omega) (fun rx13 => ?_)
                rw [hag.2.2]
                refine aw_iload_n (q := 114) dX7_pack_113 rfl rfl rfl ?_
                refine aw_if_le (t := 128) (q := 117) dX7_pack_114 rfl (by decide) (fun bc14 => ?_) (fun bc14 => ?_)
                · skip
                  omega
                · skip
                  refine aw_aload_n (q := 118) dX7_pack_117 rfl rfl rfl ?_
                  refine aw_get (q := 121) dX7_pack_118 rfl fl_X7_22 k822 rfl (fun _ => ?_)
                  refine aw_iload_n (q := 122) dX7_pack_121 rfl rfl rfl ?_
                  refine aw_iconst (q := 123) dX7_pack_122 rfl (by omega) ?_
                  refine aw_isub (q := 124) dX7_pack_123 rfl (by omega) ?_
                  refine aw_iaload (j := 60 * d + (p - 1)) (q := 125) dX7_pack_124 rfl ((hF2 87 (by simp)).trans ((hF1 87 (by simp)).trans ((hfr 87 (by simp)).trans h87))) (by omega) (by omega) (fun rx15 => ?_)
                  rw [hagp.2.2]
                  refine aw_goto (q := 129) dX7_pack_125 (by decide) ?_
                  refine aw_isub (q := 130) dX7_pack_129 rfl (by omega) ?_
                  refine aw_callV [vI (((dv d).2.2.2.1 p) - ((dv d).2.2.2.1 (p - 1)))] (q := 133) dX7_pack_130 rfl ck_X7_put lk_X7_162 rfl ⟨Nat.le_of_ble_eq_true rfl, Nat.le_of_ble_eq_true rfl⟩ rfl rfl k822 rfl (Nat.le_of_ble_eq_true rfl) (by decide) ((by rw [show ((dv d).2.2.2.1 p) - ((dv d).2.2.2.1 (p - 1)) = (dv d).2.2.2.1 p - prv (dv d).2.2.2.1 p by (first | rw [pv0 (by omega)] | rw [pv1 (by omega)])]; exact m_X7_put (dv := dv) (fv := fv) (pk := pk) (l := ((packP (dv d).2.1 (dv d).2.2.1 (dv d).2.2.2.1 p ++ enc (zig ((dv d).2.1 p - prv (dv d).2.1 p))) ++ enc (zig ((dv d).2.2.1 p - prv (dv d).2.2.1 p)))) (by first | rw [pv0 (by omega)]; omega | rw [pv1 (by omega)]; omega) rfl hh2 (by omega) k822 k942)) rfl (fun _ _ _ h => (Vd_x h).elim) ?_
                  rintro v n9 μ3 - ⟨hv9, hn9, b3, k823, k943, hh3, hF3⟩
                  obtain rfl := hn9.symm
                  obtain rfl := Sum.inl.inj hv9
                  refine aw_iinc (q := 136) dX7_pack_133 rfl rfl (by decide) (by omega) ?_
                  refine aw_ls (ls := [some (vR 82), some (vI (i)), some (vI (px + 1)), some (vI ((60 * i) + px))]) ⟨rfl, ⟨rfl, ⟨rfl, ⟨rfl, trivial⟩⟩⟩⟩ ?_
                  refine aw_goto (q := 35) dX7_pack_136 (by decide) ?_
                  refine aw_ls (ls := [some (vR 82), some (vI (i)), some (vI (px + 1)), none]) ⟨rfl, ⟨rfl, ⟨rfl, trivial⟩⟩⟩ ?_
                  exact ihlp (p + 1) _ _ b3 (by omega) (by omega) (by omega) (by rw [hl8]; exact k823) k943 (by rw [hl8]; exact hh3) (Fr_tr (Fr_tr (Fr_tr hfr hF1 (fun a h => h)) hF2 (fun a h => h)) hF3 (fun a h => h))
      exact lp ((dv d).1 + 1) 0 _ _ y7 (by omega) rfl (by omega) hu_s ((hu_n (by omega)).trans h94) (fun q hq => absurd hq (Nat.not_lt_zero q)) (Fr_hu Fr_rf (by simp))
    · skip
      omega
  · skip
    replace bc1 := bz_0.mp bc1
    refine aw_iconst (q := 15) dX7_pack_14 rfl (by omega) ?_
    refine aw_goto (q := 19) dX7_pack_15 (by decide) ?_
    refine aw_iconst (q := 20) dX7_pack_19 rfl (by omega) ?_
    refine aw_callV [vI (1), vI (1)] (q := 23) dX7_pack_20 rfl ck_X7_fails lk_X7_82 rfl ⟨Nat.le_of_ble_eq_true rfl, Nat.le_of_ble_eq_true rfl⟩ rfl rfl h82 rfl (Nat.le_of_ble_eq_true rfl) (by decide) (m_X7_fails_t h82 (by omega)) rfl (fun _ _ _ h => (Rt_x h).elim) ?_
    rintro v n9 μ9 - ⟨v9, hv9, hn9, hm9, rfl⟩
    obtain rfl := hn9.symm
    obtain rfl := hm9.symm
    obtain rfl := Sum.inl.inj hv9
    refine aw_if_eq (t := 28) (q := 26) dX7_pack_23 rfl (by decide) (fun bc3 => ?_) (fun bc3 => ?_)
    · skip
      omega
    · skip
      refine aw_iconst (q := 27) dX7_pack_26 rfl (by omega) ?_
      exact aw_iret dX7_pack_27 rfl (by decide) (by decide) ⟨rfl, FrR_w (FrR_tr hF0 (FrR_hu FrR_rf (by omega))) (by omega) (by omega), 0, rfl, Or.inr ⟨by omega, MM_o hm0⟩⟩
/-- what the model has read of a difference: t bytes that go on -/
def TI (b : Nat → Int) (i t : Nat) (v u : Int) : Prop := (t = 0 ∧ v = 0 ∧ u = 1) ∨ (t = 1 ∧ v = b i - 128 ∧ u = 128 ∧ 127 < b i) ∨ (t = 2 ∧ v = b i - 128 + (b (i + 1) - 128) * 128 ∧ u = 16384 ∧ 127 < b i ∧ 127 < b (i + 1)) ∨ (t = 3 ∧ 0 ≤ v ∧ v < 2097152 ∧ u = 2097152 ∧ 127 < b i ∧ 127 < b (i + 1) ∧ 127 < b (i + 2)) ∨ (t = 4 ∧ 0 ≤ v ∧ v < 268435456 ∧ u = 268435456 ∧ 127 < b i ∧ 127 < b (i + 1) ∧ 127 < b (i + 2))
theorem TI_s {b : Nat → Int} {i t : Nat} {v u x : Int} (h : TI b i t v u) (ht : t < 4) (hx : b (i + t) = x) (h1 : 127 < x) (h2 : x ≤ 255) (hb : ∀ p, p < i + t → b p ≤ 255) : TI b i (t + 1) (v + (x - 128) * u) (128 * u) := by
  rcases h with ⟨rfl, rfl, rfl⟩ | ⟨rfl, hv, rfl, h3⟩ | ⟨rfl, hv, rfl, h3, h4⟩ | ⟨rfl, h0, hv, rfl, h3, h4, h5⟩ | ⟨rfl, h0, hv, rfl, h3, h4, h5⟩
  · rw [Nat.add_zero] at hx
    exact Or.inr (Or.inl ⟨rfl, by omega, by omega, by omega⟩)
  · exact Or.inr (Or.inr (Or.inl ⟨rfl, by omega, by omega, h3, by omega⟩))
  · have g1 := hb i (by omega)
    have g2 := hb (i + 1) (by omega)
    exact Or.inr (Or.inr (Or.inr (Or.inl ⟨rfl, by omega, by omega, by omega, h3, h4, by omega⟩)))
  · exact Or.inr (Or.inr (Or.inr (Or.inr ⟨rfl, by omega, by omega, by omega, h3, h4, h5⟩)))
  · omega
theorem TI_b {b : Nat → Int} {i t : Nat} {v u : Int} (h : TI b i t v u) (hb : ∀ p, p < i + t → b p ≤ 255) : 0 ≤ v ∧ v < u ∧ 1 ≤ u ∧ u ≤ 268435456 ∧ t ≤ 4 := by
  rcases h with ⟨rfl, rfl, rfl⟩ | ⟨rfl, hv, rfl, h3⟩ | ⟨rfl, hv, rfl, h3, h4⟩ | ⟨rfl, h0, hv, rfl, h3, h4, h5⟩ | ⟨rfl, h0, hv, rfl, h3, h4, h5⟩
  · omega
  · have := hb i (by omega); omega
  · have := hb i (by omega); have := hb (i + 1) (by omega); omega
  · omega
  · omega
/-- it ends in nothing -/
theorem TI_n {b : Nat → Int} {c i t : Nat} {v u : Int} (h : TI b i t v u) (hc : i + t ≤ c) (he : i + t = c ∨ (t = 4 ∧ 127 < b (i + t)) ∨ (0 < t ∧ b (i + t) = 0)) : dn b c i = none := by
  rcases h with ⟨rfl, rfl, rfl⟩ | ⟨rfl, hv, rfl, h3⟩ | ⟨rfl, hv, rfl, h3, h4⟩ | ⟨rfl, h0, hv, rfl, h3, h4, h5⟩ | ⟨rfl, h0, hv, rfl, h3, h4, h5⟩
  · exact dn_0 (by omega)
  · rcases he with he | he | he
    · exact dn_1c (by omega) (by omega) (by omega)
    · omega
    · by_cases q : i + 1 < c
      · exact dn_2n q (by omega) (by omega) (by omega)
      · exact dn_1c (by omega) (by omega) q
  · rcases he with he | he | he
    · exact dn_2c (by omega) (by omega) (by omega) (by omega)
    · omega
    · by_cases q : i + 2 < c
      · exact dn_3n q (by omega) (by omega) (by omega) (by omega)
      · exact dn_2c (by omega) (by omega) (by omega) q
  · exact dn_3c (by omega) (by omega) (by omega) (by omega)
  · exact dn_3c (by omega) (by omega) (by omega) (by omega)
/-- it ends in a number -/
theorem TI_e {b : Nat → Int} {c i t : Nat} {v u x V : Int} (h : TI b i t v u) (hc : i + t < c) (hx : b (i + t) = x) (h1 : 0 ≤ x) (h2 : x ≤ 127) (h3 : t = 0 ∨ x ≠ 0) (hb : ∀ p, p < i + t → b p ≤ 255) (hV : V = v + x * u) : (dn b c i = some (unz V, i + t + 1) ∧ 0 ≤ V ∧ V < 2097152) ∨ (dn b c i = none ∧ 2097152 ≤ V) := by
  rcases h with ⟨rfl, rfl, rfl⟩ | ⟨rfl, hv, rfl, h4⟩ | ⟨rfl, hv, rfl, h4, h5⟩ | ⟨rfl, h0, hv, rfl, h4, h5, h6⟩ | ⟨rfl, h0, hv, rfl, h4, h5, h6⟩
  · rw [Nat.add_zero] at hx
    left
    refine ⟨?_, by omega, by omega⟩
    rw [dn_1 (by omega) (by omega), hx, show x = V by omega]
  · have g1 := hb i (by omega)
    left
    refine ⟨?_, by omega, by omega⟩
    rw [dn_2 (by omega) (by omega) (by omega) (by omega), hx, show b i % 128 + x * 128 = V by omega]
  · have g1 := hb i (by omega)
    have g2 := hb (i + 1) (by omega)
    left
    refine ⟨?_, by omega, by omega⟩
    rw [dn_3 (by omega) (by omega) (by omega) (by omega) (by omega), hx, show b i % 128 + b (i + 1) % 128 * 128 + x * 16384 = V by omega]
  · right
    exact ⟨dn_3c (by omega) (by omega) (by omega) (by omega), by omega⟩
  · right
    exact ⟨dn_3c (by omega) (by omega) (by omega) (by omega), by omega⟩
theorem unz_v {V : Int} : unz V = if V % 2 = 0 then V / 2 else -((V + 1) / 2) := by
  unfold unz
  split
  · rfl
  · omega
set_option maxHeartbeats 4000000 in
set_option maxRecDepth 100000 in
theorem m_X7_difference {n : Nat} {μ : AH} {th ls7 wy7 : Int} {D : Nat} {dv : Nat → DVt} {Fn : Nat} {fv : Nat → FVt} {sv : SVt} {pk fd : Nat × (Nat → Int)} {spd lim : Int} {o7 : Nat → Int} {x : Int} {i : Nat} (hx : x = (i : Int)) (hic : i ≤ fd.1) (hfd : fd.1 ≤ 600) (hfb : ∀ p, p < fd.1 → 0 ≤ fd.2 p ∧ fd.2 p ≤ 255) (ag7 : AG6 fd o7) (h82 : μ 82 = oO 7 [vI th, vI (D : Int), vR 83, vR 84, vR 85, vR 86, vR 87, vR 88, vR 89, vR 90, vI spd, vI lim, vI (Fn : Int), vR 91, vR 92, vR 93, vI (pk.1 : Int), vR 94, vI (fd.1 : Int), vR 95, vI x, vR 96, vI (sv.1 : Int), vR 97, vR 98, vR 99, vR 100, vL ls7, vI wy7]) (h95 : μ 95 = oI 600 o7) : AMet YX7_difference [vR 82] n μ (Rt (fun v n' μ' => n' = n ∧ ∃ (d : Int) (i' : Nat), v = vI d ∧ FrR 82 83 μ μ' ∧ μ' 82 = oO 7 [vI th, vI (D : Int), vR 83, vR 84, vR 85, vR 86, vR 87, vR 88, vR 89, vR 90, vI spd, vI lim, vI (Fn : Int), vR 91, vR 92, vR 93, vI (pk.1 : Int), vR 94, vI (fd.1 : Int), vR 95, vI (i' : Int), vR 96, vI (sv.1 : Int), vR 97, vR 98, vR 99, vR 100, vL ls7, vI wy7] ∧ i' ≤ fd.1 ∧ -100000000 ≤ d ∧ d ≤ 100000000 ∧ (dn fd.2 fd.1 i = some (d, i') ∨ (dn fd.2 fd.1 i = none ∧ (1048576 ≤ d ∨ d ≤ -1048577))))) := by
  refine AMet.of (by decide) rfl (Nat.le_of_ble_eq_true rfl) ?_
  have loop : ∀ (j t : Nat) (v u ax : Int) (μ1 : AH), 4 - t < j → ax = ((i + t : Nat) : Int) → i + t ≤ fd.1 → TI fd.2 i t v u → μ1 82 = oO 7 [vI th, vI (D : Int), vR 83, vR 84, vR 85, vR 86, vR 87, vR 88, vR 89, vR 90, vI spd, vI lim, vI (Fn : Int), vR 91, vR 92, vR 93, vI (pk.1 : Int), vR 94, vI (fd.1 : Int), vR 95, vI ax, vR 96, vI (sv.1 : Int), vR 97, vR 98, vR 99, vR 100, vL ls7, vI wy7] → FrR 82 83 μ μ1 → AW YX7_difference none (Rt (fun v n' μ' => n' = n ∧ ∃ (d : Int) (i' : Nat), v = vI d ∧ FrR 82 83 μ μ' ∧ μ' 82 = oO 7 [vI th, vI (D : Int), vR 83, vR 84, vR 85, vR 86, vR 87, vR 88, vR 89, vR 90, vI spd, vI lim, vI (Fn : Int), vR 91, vR 92, vR 93, vI (pk.1 : Int), vR 94, vI (fd.1 : Int), vR 95, vI (i' : Int), vR 96, vI (sv.1 : Int), vR 97, vR 98, vR 99, vR 100, vL ls7, vI wy7] ∧ i' ≤ fd.1 ∧ -100000000 ≤ d ∧ d ≤ 100000000 ∧ (dn fd.2 fd.1 i = some (d, i') ∨ (dn fd.2 fd.1 i = none ∧ (1048576 ≤ d ∨ d ≤ -1048577))))) 10 [some (vR 82), some (vL (v)), none, some (vL (u)), none, some (vI (x))] [] n μ1 0 0 := by
    intro j
    induction j with
    | zero => intro t v u ax μ1 hj; exact absurd hj (Nat.not_lt_zero _)
    | succ j ih =>
      intro t v u ax μ1 hj hat hic1 hTI g82 hF1
      have hTb := TI_b hTI (fun p hp => (hfb p (by omega)).2)
      refine aw_aload_n (q := 11) dX7_difference_10 rfl rfl rfl ?_
      refine aw_get (q := 14) dX7_difference_11 rfl fl_X7_171 g82 rfl (fun _ => ?_)
      refine aw_aload_n (q := 15) dX7_difference_14 rfl rfl rfl ?_
      refine aw_get (q := 18) dX7_difference_15 rfl fl_X7_168 g82 rfl (fun _ => ?_)
      refine aw_ic_ge (t := 84) (q := 21) dX7_difference_18 rfl (by decide) (fun bc1 => ?_) (fun bc1 => ?_)
      · skip
        refine aw_aload_n (q := 85) dX7_difference_84 rfl rfl rfl ?_
        refine aw_get (q := 88) dX7_difference_85 rfl fl_X7_171 g82 rfl (fun _ => ?_)
        refine aw_aload_n (q := 89) dX7_difference_88 rfl rfl rfl ?_
        refine aw_get (q := 92) dX7_difference_89 rfl fl_X7_168 g82 rfl (fun _ => ?_)
        refine aw_ic_eq (t := 130) (q := 95) dX7_difference_92 rfl (by decide) (fun bc2 => ?_) (fun bc2 => ?_)
        · skip
          refine aw_ldc (a := 100000000) (q := 132) dX7_difference_130 rfl k_X7_176 (by omega) ?_
          exact aw_iret dX7_difference_132 rfl (by decide) (by decide) ⟨_, rfl, rfl, _, i + t, rfl, hF1, by rw [g82, hat], by omega, by omega, by omega, Or.inr ⟨TI_n hTI (by omega) (by first | exact Or.inl (by omega) | exact Or.inr (Or.inl ⟨by omega, by omega⟩) | exact Or.inr (Or.inr ⟨by omega, by omega⟩)), Or.inl (by omega)⟩⟩
        · skip
          refine aw_aload_n (q := 96) dX7_difference_95 rfl rfl rfl ?_
          refine aw_get (q := 99) dX7_difference_96 rfl fl_X7_53 g82 rfl (fun _ => ?_)
          refine aw_aload_n (q := 100) dX7_difference_99 rfl rfl rfl ?_
          refine aw_get (q := 103) dX7_difference_100 rfl fl_X7_171 g82 rfl (fun _ => ?_)
          refine aw_iaload (j := i + t) (q := 104) dX7_difference_103 rfl ((hF1 95 (by omega)).trans h95) (by omega) (by omega) (fun rx3 => ?_)
          rw [(ag7 (i + t) (by omega))]
          have hbt := hfb (i + t) (by omega)
          refine aw_bipush (q := 106) dX7_difference_104 rfl (by decide) (by omega) ?_
          refine aw_ic_gt (t := 130) (q := 109) dX7_difference_106 rfl (by decide) (fun bc4 => ?_) (fun bc4 => ?_)
          · skip
            refine aw_ldc (a := 100000000) (q := 132) dX7_difference_130 rfl k_X7_176 (by omega) ?_
            exact aw_iret dX7_difference_132 rfl (by decide) (by decide) ⟨_, rfl, rfl, _, i + t, rfl, hF1, by rw [g82, hat], by omega, by omega, by omega, Or.inr ⟨TI_n hTI (by omega) (by first | exact Or.inl (by omega) | exact Or.inr (Or.inl ⟨by omega, by omega⟩) | exact Or.inr (Or.inr ⟨by omega, by omega⟩)), Or.inl (by omega)⟩⟩
          · skip
            refine aw_aload_n (q := 110) dX7_difference_109 rfl rfl rfl ?_
            refine aw_get (q := 113) dX7_difference_110 rfl fl_X7_171 g82 rfl (fun _ => ?_)
            refine aw_iload (q := 115) dX7_difference_113 rfl rfl ?_
            refine aw_ic_le (t := 133) (q := 118) dX7_difference_115 rfl (by decide) (fun bc5 => ?_) (fun bc5 => ?_)
            · skip
              have hm8 := mul_b (u := fd.2 (i + t)) (w := u) 127 268435456 (by omega) (by omega) (by omega) (by omega)
              refine aw_lload_n (q := 134) dX7_difference_133 rfl rfl rfl ?_
              refine aw_aload_n (q := 135) dX7_difference_134 rfl rfl rfl ?_
              refine aw_get (q := 138) dX7_difference_135 rfl fl_X7_53 g82 rfl (fun _ => ?_)
              refine aw_aload_n (q := 139) dX7_difference_138 rfl rfl rfl ?_
              refine aw_get (q := 142) dX7_difference_139 rfl fl_X7_171 g82 rfl (fun _ => ?_)
              refine aw_iaload (j := i + t) (q := 143) dX7_difference_142 rfl ((hF1 95 (by omega)).trans h95) (by omega) (by omega) (fun rx6 => ?_)
              rw [(ag7 (i + t) (by omega))]
              refine aw_i2l (q := 144) dX7_difference_143 rfl ?_
              refine aw_lload_n (q := 145) dX7_difference_144 rfl rfl rfl ?_
              refine aw_lmul (q := 146) dX7_difference_145 rfl (by omega) ?_
              refine aw_ladd (q := 147) dX7_difference_146 rfl (by omega) ?_
              refine aw_lstore_n (q := 148) dX7_difference_147 rfl rfl (by decide) ?_
              obtain ⟨V, hV⟩ : ∃ V : Int, V = v + fd.2 (i + t) * u := ⟨_, rfl⟩
              rw [← hV]
              have hE := TI_e hTI (c := fd.1) (by omega) rfl (by omega) (by omega) (by omega) (fun p hp => (hfb p (by omega)).2) hV
              refine aw_aload_n (q := 149) dX7_difference_148 rfl rfl rfl ?_
              refine aw_dup (q := 150) dX7_difference_149 rfl rfl ?_
              refine aw_get (q := 153) dX7_difference_150 rfl fl_X7_171 g82 rfl (fun _ => ?_)
              refine aw_iconst (q := 154) dX7_difference_153 rfl (by omega) ?_
              refine aw_iadd (q := 155) dX7_difference_154 rfl (by omega) ?_
              refine aw_put (q := 158) dX7_difference_155 rfl fp_X7_171 g82 (Nat.le_of_ble_eq_true rfl) trivial ?_
              refine aw_lload_n (q := 159) dX7_difference_158 rfl rfl rfl ?_
              refine aw_ldc2 (a := 20000000) (q := 162) dX7_difference_159 rfl k_X7_177 (by omega) ?_
              refine aw_lcmp (q := 163) dX7_difference_162 rfl ?_
              refine aw_if_le (t := 171) (q := 166) dX7_difference_163 rfl (by decide) (fun bc7 => ?_) (fun bc7 => ?_)
              · skip
                replace bc7 := cmpz_le.mp bc7
                refine aw_lload_n (q := 172) dX7_difference_171 rfl rfl rfl ?_
                refine aw_ldc2 (a := 2) (q := 175) dX7_difference_172 rfl k_X7_136 (by omega) ?_
                refine aw_lrem (q := 176) dX7_difference_175 rfl (by omega) (by rw [tm2 (by omega)]; omega) ?_
                rw [tm2 (by omega)]
                refine aw_lconst (a := 0) (q := 177) dX7_difference_176 rfl rfl (by omega) ?_
                refine aw_lcmp (q := 178) dX7_difference_177 rfl ?_
                refine aw_if_ne (t := 190) (q := 181) dX7_difference_178 rfl (by decide) (fun bc8 => ?_) (fun bc8 => ?_)
                · skip
                  replace bc8 := mt cmpz_eq.mpr bc8
                  refine aw_lload_n (q := 191) dX7_difference_190 rfl rfl rfl ?_
                  refine aw_lconst (a := 1) (q := 192) dX7_difference_191 rfl rfl (by omega) ?_
                  refine aw_ladd (q := 193) dX7_difference_192 rfl (by omega) ?_
                  refine aw_lneg (q := 194) dX7_difference_193 rfl (by omega) ?_
                  refine aw_ldc2 (a := 2) (q := 197) dX7_difference_194 rfl k_X7_136 (by omega) ?_
                  refine aw_ldiv (q := 198) dX7_difference_197 rfl (by omega) (by rw [td3 (by omega)]; omega) ?_
                  rw [td3 (by omega)]
                  refine aw_l2i (q := 199) dX7_difference_198 rfl (by omega) ?_
                  exact aw_iret dX7_difference_199 rfl (by decide) (by decide) ⟨_, rfl, rfl, _, i + t + 1, rfl, (FrR_hu hF1 (by omega)), by rw [show ((i + t + 1 : Nat) : Int) = ax + 1 by omega]; exact hu_s, by omega, by omega, by omega, by rcases hE with ⟨h1, h2, h3⟩ | ⟨h1, h2⟩; (left; rw [h1, unz_v]; first | rw [if_pos (by assumption)] | rw [if_neg (by assumption)]); exact Or.inr ⟨h1, by omega⟩⟩
                · skip
                  replace bc8 := cmpz_eq.mp bc8
                  refine aw_lload_n (q := 182) dX7_difference_181 rfl rfl rfl ?_
                  refine aw_ldc2 (a := 2) (q := 185) dX7_difference_182 rfl k_X7_136 (by omega) ?_
                  refine aw_ldiv (q := 186) dX7_difference_185 rfl (by omega) (by rw [td2 (by omega)]; omega) ?_
                  rw [td2 (by omega)]
                  refine aw_l2i (q := 187) dX7_difference_186 rfl (by omega) ?_
                  refine aw_goto (q := 199) dX7_difference_187 (by decide) ?_
                  exact aw_iret dX7_difference_199 rfl (by decide) (by decide) ⟨_, rfl, rfl, _, i + t + 1, rfl, (FrR_hu hF1 (by omega)), by rw [show ((i + t + 1 : Nat) : Int) = ax + 1 by omega]; exact hu_s, by omega, by omega, by omega, by rcases hE with ⟨h1, h2, h3⟩ | ⟨h1, h2⟩; (left; rw [h1, unz_v]; first | rw [if_pos (by assumption)] | rw [if_neg (by assumption)]); exact Or.inr ⟨h1, by omega⟩⟩
              · skip
                replace bc7 := mt cmpz_le.mpr bc7
                refine aw_ldc (a := 100000000) (q := 168) dX7_difference_166 rfl k_X7_176 (by omega) ?_
                refine aw_goto (q := 199) dX7_difference_168 (by decide) ?_
                exact aw_iret dX7_difference_199 rfl (by decide) (by decide) ⟨_, rfl, rfl, _, i + t + 1, rfl, (FrR_hu hF1 (by omega)), by rw [show ((i + t + 1 : Nat) : Int) = ax + 1 by omega]; exact hu_s, by omega, by omega, by omega, Or.inr ⟨(hE.resolve_left (fun h => by omega)).1, Or.inl (by omega)⟩⟩
            · skip
              refine aw_aload_n (q := 119) dX7_difference_118 rfl rfl rfl ?_
              refine aw_get (q := 122) dX7_difference_119 rfl fl_X7_53 g82 rfl (fun _ => ?_)
              refine aw_aload_n (q := 123) dX7_difference_122 rfl rfl rfl ?_
              refine aw_get (q := 126) dX7_difference_123 rfl fl_X7_171 g82 rfl (fun _ => ?_)
              refine aw_iaload (j := i + t) (q := 127) dX7_difference_126 rfl ((hF1 95 (by omega)).trans h95) (by omega) (by omega) (fun rx9 => ?_)
              rw [(ag7 (i + t) (by omega))]
              refine aw_if_ne (t := 133) (q := 130) dX7_difference_127 rfl (by decide) (fun bc10 => ?_) (fun bc10 => ?_)
              · skip
                have hm8 := mul_b (u := fd.2 (i + t)) (w := u) 127 268435456 (by omega) (by omega) (by omega) (by omega)
                refine aw_lload_n (q := 134) dX7_difference_133 rfl rfl rfl ?_
                refine aw_aload_n (q := 135) dX7_difference_134 rfl rfl rfl ?_
                refine aw_get (q := 138) dX7_difference_135 rfl fl_X7_53 g82 rfl (fun _ => ?_)
                refine aw_aload_n (q := 139) dX7_difference_138 rfl rfl rfl ?_
                refine aw_get (q := 142) dX7_difference_139 rfl fl_X7_171 g82 rfl (fun _ => ?_)
                refine aw_iaload (j := i + t) (q := 143) dX7_difference_142 rfl ((hF1 95 (by omega)).trans h95) (by omega) (by omega) (fun rx11 => ?_)
                rw [(ag7 (i + t) (by omega))]
                refine aw_i2l (q := 144) dX7_difference_143 rfl ?_
                refine aw_lload_n (q := 145) dX7_difference_144 rfl rfl rfl ?_
                refine aw_lmul (q := 146) dX7_difference_145 rfl (by omega) ?_
                refine aw_ladd (q := 147) dX7_difference_146 rfl (by omega) ?_
                refine aw_lstore_n (q := 148) dX7_difference_147 rfl rfl (by decide) ?_
                obtain ⟨V, hV⟩ : ∃ V : Int, V = v + fd.2 (i + t) * u := ⟨_, rfl⟩
                rw [← hV]
                have hE := TI_e hTI (c := fd.1) (by omega) rfl (by omega) (by omega) (by omega) (fun p hp => (hfb p (by omega)).2) hV
                refine aw_aload_n (q := 149) dX7_difference_148 rfl rfl rfl ?_
                refine aw_dup (q := 150) dX7_difference_149 rfl rfl ?_
                refine aw_get (q := 153) dX7_difference_150 rfl fl_X7_171 g82 rfl (fun _ => ?_)
                refine aw_iconst (q := 154) dX7_difference_153 rfl (by omega) ?_
                refine aw_iadd (q := 155) dX7_difference_154 rfl (by omega) ?_
                refine aw_put (q := 158) dX7_difference_155 rfl fp_X7_171 g82 (Nat.le_of_ble_eq_true rfl) trivial ?_
                refine aw_lload_n (q := 159) dX7_difference_158 rfl rfl rfl ?_
                refine aw_ldc2 (a := 20000000) (q := 162) dX7_difference_159 rfl k_X7_177 (by omega) ?_
                refine aw_lcmp (q := 163) dX7_difference_162 rfl ?_
                refine aw_if_le (t := 171) (q := 166) dX7_difference_163 rfl (by decide) (fun bc12 => ?_) (fun bc12 => ?_)
                · skip
                  replace bc12 := cmpz_le.mp bc12
                  refine aw_lload_n (q := 172) dX7_difference_171 rfl rfl rfl ?_
                  refine aw_ldc2 (a := 2) (q := 175) dX7_difference_172 rfl k_X7_136 (by omega) ?_
                  refine aw_lrem (q := 176) dX7_difference_175 rfl (by omega) (by rw [tm2 (by omega)]; omega) ?_
                  rw [tm2 (by omega)]
                  refine aw_lconst (a := 0) (q := 177) dX7_difference_176 rfl rfl (by omega) ?_
                  refine aw_lcmp (q := 178) dX7_difference_177 rfl ?_
                  refine aw_if_ne (t := 190) (q := 181) dX7_difference_178 rfl (by decide) (fun bc13 => ?_) (fun bc13 => ?_)
                  · skip
                    replace bc13 := mt cmpz_eq.mpr bc13
                    refine aw_lload_n (q := 191) dX7_difference_190 rfl rfl rfl ?_
                    refine aw_lconst (a := 1) (q := 192) dX7_difference_191 rfl rfl (by omega) ?_
                    refine aw_ladd (q := 193) dX7_difference_192 rfl (by omega) ?_
                    refine aw_lneg (q := 194) dX7_difference_193 rfl (by omega) ?_
                    refine aw_ldc2 (a := 2) (q := 197) dX7_difference_194 rfl k_X7_136 (by omega) ?_
                    refine aw_ldiv (q := 198) dX7_difference_197 rfl (by omega) (by rw [td3 (by omega)]; omega) ?_
                    rw [td3 (by omega)]
                    refine aw_l2i (q := 199) dX7_difference_198 rfl (by omega) ?_
                    exact aw_iret dX7_difference_199 rfl (by decide) (by decide) ⟨_, rfl, rfl, _, i + t + 1, rfl, (FrR_hu hF1 (by omega)), by rw [show ((i + t + 1 : Nat) : Int) = ax + 1 by omega]; exact hu_s, by omega, by omega, by omega, by rcases hE with ⟨h1, h2, h3⟩ | ⟨h1, h2⟩; (left; rw [h1, unz_v]; first | rw [if_pos (by assumption)] | rw [if_neg (by assumption)]); exact Or.inr ⟨h1, by omega⟩⟩
                  · skip
                    replace bc13 := cmpz_eq.mp bc13
                    refine aw_lload_n (q := 182) dX7_difference_181 rfl rfl rfl ?_
                    refine aw_ldc2 (a := 2) (q := 185) dX7_difference_182 rfl k_X7_136 (by omega) ?_
                    refine aw_ldiv (q := 186) dX7_difference_185 rfl (by omega) (by rw [td2 (by omega)]; omega) ?_
                    rw [td2 (by omega)]
                    refine aw_l2i (q := 187) dX7_difference_186 rfl (by omega) ?_
                    refine aw_goto (q := 199) dX7_difference_187 (by decide) ?_
                    exact aw_iret dX7_difference_199 rfl (by decide) (by decide) ⟨_, rfl, rfl, _, i + t + 1, rfl, (FrR_hu hF1 (by omega)), by rw [show ((i + t + 1 : Nat) : Int) = ax + 1 by omega]; exact hu_s, by omega, by omega, by omega, by rcases hE with ⟨h1, h2, h3⟩ | ⟨h1, h2⟩; (left; rw [h1, unz_v]; first | rw [if_pos (by assumption)] | rw [if_neg (by assumption)]); exact Or.inr ⟨h1, by omega⟩⟩
                · skip
                  replace bc12 := mt cmpz_le.mpr bc12
                  refine aw_ldc (a := 100000000) (q := 168) dX7_difference_166 rfl k_X7_176 (by omega) ?_
                  refine aw_goto (q := 199) dX7_difference_168 (by decide) ?_
                  exact aw_iret dX7_difference_199 rfl (by decide) (by decide) ⟨_, rfl, rfl, _, i + t + 1, rfl, (FrR_hu hF1 (by omega)), by rw [show ((i + t + 1 : Nat) : Int) = ax + 1 by omega]; exact hu_s, by omega, by omega, by omega, Or.inr ⟨(hE.resolve_left (fun h => by omega)).1, Or.inl (by omega)⟩⟩
              · skip
                refine aw_ldc (a := 100000000) (q := 132) dX7_difference_130 rfl k_X7_176 (by omega) ?_
                exact aw_iret dX7_difference_132 rfl (by decide) (by decide) ⟨_, rfl, rfl, _, i + t, rfl, hF1, by rw [g82, hat], by omega, by omega, by omega, Or.inr ⟨TI_n hTI (by omega) (by first | exact Or.inl (by omega) | exact Or.inr (Or.inl ⟨by omega, by omega⟩) | exact Or.inr (Or.inr ⟨by omega, by omega⟩)), Or.inl (by omega)⟩⟩
      · skip
        refine aw_aload_n (q := 22) dX7_difference_21 rfl rfl rfl ?_
        refine aw_get (q := 25) dX7_difference_22 rfl fl_X7_53 g82 rfl (fun _ => ?_)
        refine aw_aload_n (q := 26) dX7_difference_25 rfl rfl rfl ?_
        refine aw_get (q := 29) dX7_difference_26 rfl fl_X7_171 g82 rfl (fun _ => ?_)
        refine aw_iaload (j := i + t) (q := 30) dX7_difference_29 rfl ((hF1 95 (by omega)).trans h95) (by omega) (by omega) (fun rx14 => ?_)
        rw [(ag7 (i + t) (by omega))]
        have hbt := hfb (i + t) (by omega)
        refine aw_bipush (q := 32) dX7_difference_30 rfl (by decide) (by omega) ?_
        refine aw_ic_le (t := 84) (q := 35) dX7_difference_32 rfl (by decide) (fun bc15 => ?_) (fun bc15 => ?_)
        · skip
          refine aw_aload_n (q := 85) dX7_difference_84 rfl rfl rfl ?_
          refine aw_get (q := 88) dX7_difference_85 rfl fl_X7_171 g82 rfl (fun _ => ?_)
          refine aw_aload_n (q := 89) dX7_difference_88 rfl rfl rfl ?_
          refine aw_get (q := 92) dX7_difference_89 rfl fl_X7_168 g82 rfl (fun _ => ?_)
          refine aw_ic_eq (t := 130) (q := 95) dX7_difference_92 rfl (by decide) (fun bc16 => ?_) (fun bc16 => ?_)
          · skip
            refine aw_ldc (a := 100000000) (q := 132) dX7_difference_130 rfl k_X7_176 (by omega) ?_
            exact aw_iret dX7_difference_132 rfl (by decide) (by decide) ⟨_, rfl, rfl, _, i + t, rfl, hF1, by rw [g82, hat], by omega, by omega, by omega, Or.inr ⟨TI_n hTI (by omega) (by first | exact Or.inl (by omega) | exact Or.inr (Or.inl ⟨by omega, by omega⟩) | exact Or.inr (Or.inr ⟨by omega, by omega⟩)), Or.inl (by omega)⟩⟩
          · skip
            refine aw_aload_n (q := 96) dX7_difference_95 rfl rfl rfl ?_
            refine aw_get (q := 99) dX7_difference_96 rfl fl_X7_53 g82 rfl (fun _ => ?_)
            refine aw_aload_n (q := 100) dX7_difference_99 rfl rfl rfl ?_
            refine aw_get (q := 103) dX7_difference_100 rfl fl_X7_171 g82 rfl (fun _ => ?_)
            refine aw_iaload (j := i + t) (q := 104) dX7_difference_103 rfl ((hF1 95 (by omega)).trans h95) (by omega) (by omega) (fun rx17 => ?_)
            rw [(ag7 (i + t) (by omega))]
            have hbt := hfb (i + t) (by omega)
            refine aw_bipush (q := 106) dX7_difference_104 rfl (by decide) (by omega) ?_
            refine aw_ic_gt (t := 130) (q := 109) dX7_difference_106 rfl (by decide) (fun bc18 => ?_) (fun bc18 => ?_)
            · skip
              refine aw_ldc (a := 100000000) (q := 132) dX7_difference_130 rfl k_X7_176 (by omega) ?_
              exact aw_iret dX7_difference_132 rfl (by decide) (by decide) ⟨_, rfl, rfl, _, i + t, rfl, hF1, by rw [g82, hat], by omega, by omega, by omega, Or.inr ⟨TI_n hTI (by omega) (by first | exact Or.inl (by omega) | exact Or.inr (Or.inl ⟨by omega, by omega⟩) | exact Or.inr (Or.inr ⟨by omega, by omega⟩)), Or.inl (by omega)⟩⟩
            · skip
              refine aw_aload_n (q := 110) dX7_difference_109 rfl rfl rfl ?_
              refine aw_get (q := 113) dX7_difference_110 rfl fl_X7_171 g82 rfl (fun _ => ?_)
              refine aw_iload (q := 115) dX7_difference_113 rfl rfl ?_
              refine aw_ic_le (t := 133) (q := 118) dX7_difference_115 rfl (by decide) (fun bc19 => ?_) (fun bc19 => ?_)
              · skip
                have hm8 := mul_b (u := fd.2 (i + t)) (w := u) 127 268435456 (by omega) (by omega) (by omega) (by omega)
                refine aw_lload_n (q := 134) dX7_difference_133 rfl rfl rfl ?_
                refine aw_aload_n (q := 135) dX7_difference_134 rfl rfl rfl ?_
                refine aw_get (q := 138) dX7_difference_135 rfl fl_X7_53 g82 rfl (fun _ => ?_)
                refine aw_aload_n (q := 139) dX7_difference_138 rfl rfl rfl ?_
                refine aw_get (q := 142) dX7_difference_139 rfl fl_X7_171 g82 rfl (fun _ => ?_)
                refine aw_iaload (j := i + t) (q := 143) dX7_difference_142 rfl ((hF1 95 (by omega)).trans h95) (by omega) (by omega) (fun rx20 => ?_)
                rw [(ag7 (i + t) (by omega))]
                refine aw_i2l (q := 144) dX7_difference_143 rfl ?_
                refine aw_lload_n (q := 145) dX7_difference_144 rfl rfl rfl ?_
                refine aw_lmul (q := 146) dX7_difference_145 rfl (by omega) ?_
                refine aw_ladd (q := 147) dX7_difference_146 rfl (by omega) ?_
                refine aw_lstore_n (q := 148) dX7_difference_147 rfl rfl (by decide) ?_
                obtain ⟨V, hV⟩ : ∃ V : Int, V = v + fd.2 (i + t) * u := ⟨_, rfl⟩
                rw [← hV]
                have hE := TI_e hTI (c := fd.1) (by omega) rfl (by omega) (by omega) (by omega) (fun p hp => (hfb p (by omega)).2) hV
                refine aw_aload_n (q := 149) dX7_difference_148 rfl rfl rfl ?_
                refine aw_dup (q := 150) dX7_difference_149 rfl rfl ?_
                refine aw_get (q := 153) dX7_difference_150 rfl fl_X7_171 g82 rfl (fun _ => ?_)
                refine aw_iconst (q := 154) dX7_difference_153 rfl (by omega) ?_
                refine aw_iadd (q := 155) dX7_difference_154 rfl (by omega) ?_
                refine aw_put (q := 158) dX7_difference_155 rfl fp_X7_171 g82 (Nat.le_of_ble_eq_true rfl) trivial ?_
                refine aw_lload_n (q := 159) dX7_difference_158 rfl rfl rfl ?_
                refine aw_ldc2 (a := 20000000) (q := 162) dX7_difference_159 rfl k_X7_177 (by omega) ?_
                refine aw_lcmp (q := 163) dX7_difference_162 rfl ?_
                refine aw_if_le (t := 171) (q := 166) dX7_difference_163 rfl (by decide) (fun bc21 => ?_) (fun bc21 => ?_)
                · skip
                  replace bc21 := cmpz_le.mp bc21
                  refine aw_lload_n (q := 172) dX7_difference_171 rfl rfl rfl ?_
                  refine aw_ldc2 (a := 2) (q := 175) dX7_difference_172 rfl k_X7_136 (by omega) ?_
                  refine aw_lrem (q := 176) dX7_difference_175 rfl (by omega) (by rw [tm2 (by omega)]; omega) ?_
                  rw [tm2 (by omega)]
                  refine aw_lconst (a := 0) (q := 177) dX7_difference_176 rfl rfl (by omega) ?_
                  refine aw_lcmp (q := 178) dX7_difference_177 rfl ?_
                  refine aw_if_ne (t := 190) (q := 181) dX7_difference_178 rfl (by decide) (fun bc22 => ?_) (fun bc22 => ?_)
                  · skip
                    replace bc22 := mt cmpz_eq.mpr bc22
                    refine aw_lload_n (q := 191) dX7_difference_190 rfl rfl rfl ?_
                    refine aw_lconst (a := 1) (q := 192) dX7_difference_191 rfl rfl (by omega) ?_
                    refine aw_ladd (q := 193) dX7_difference_192 rfl (by omega) ?_
                    refine aw_lneg (q := 194) dX7_difference_193 rfl (by omega) ?_
                    refine aw_ldc2 (a := 2) (q := 197) dX7_difference_194 rfl k_X7_136 (by omega) ?_
                    refine aw_ldiv (q := 198) dX7_difference_197 rfl (by omega) (by rw [td3 (by omega)]; omega) ?_
                    rw [td3 (by omega)]
                    refine aw_l2i (q := 199) dX7_difference_198 rfl (by omega) ?_
                    exact aw_iret dX7_difference_199 rfl (by decide) (by decide) ⟨_, rfl, rfl, _, i + t + 1, rfl, (FrR_hu hF1 (by omega)), by rw [show ((i + t + 1 : Nat) : Int) = ax + 1 by omega]; exact hu_s, by omega, by omega, by omega, by rcases hE with ⟨h1, h2, h3⟩ | ⟨h1, h2⟩; (left; rw [h1, unz_v]; first | rw [if_pos (by assumption)] | rw [if_neg (by assumption)]); exact Or.inr ⟨h1, by omega⟩⟩
                  · skip
                    replace bc22 := cmpz_eq.mp bc22
                    refine aw_lload_n (q := 182) dX7_difference_181 rfl rfl rfl ?_
                    refine aw_ldc2 (a := 2) (q := 185) dX7_difference_182 rfl k_X7_136 (by omega) ?_
                    refine aw_ldiv (q := 186) dX7_difference_185 rfl (by omega) (by rw [td2 (by omega)]; omega) ?_
                    rw [td2 (by omega)]
                    refine aw_l2i (q := 187) dX7_difference_186 rfl (by omega) ?_
                    refine aw_goto (q := 199) dX7_difference_187 (by decide) ?_
                    exact aw_iret dX7_difference_199 rfl (by decide) (by decide) ⟨_, rfl, rfl, _, i + t + 1, rfl, (FrR_hu hF1 (by omega)), by rw [show ((i + t + 1 : Nat) : Int) = ax + 1 by omega]; exact hu_s, by omega, by omega, by omega, by rcases hE with ⟨h1, h2, h3⟩ | ⟨h1, h2⟩; (left; rw [h1, unz_v]; first | rw [if_pos (by assumption)] | rw [if_neg (by assumption)]); exact Or.inr ⟨h1, by omega⟩⟩
                · skip
                  replace bc21 := mt cmpz_le.mpr bc21
                  refine aw_ldc (a := 100000000) (q := 168) dX7_difference_166 rfl k_X7_176 (by omega) ?_
                  refine aw_goto (q := 199) dX7_difference_168 (by decide) ?_
                  exact aw_iret dX7_difference_199 rfl (by decide) (by decide) ⟨_, rfl, rfl, _, i + t + 1, rfl, (FrR_hu hF1 (by omega)), by rw [show ((i + t + 1 : Nat) : Int) = ax + 1 by omega]; exact hu_s, by omega, by omega, by omega, Or.inr ⟨(hE.resolve_left (fun h => by omega)).1, Or.inl (by omega)⟩⟩
              · skip
                refine aw_aload_n (q := 119) dX7_difference_118 rfl rfl rfl ?_
                refine aw_get (q := 122) dX7_difference_119 rfl fl_X7_53 g82 rfl (fun _ => ?_)
                refine aw_aload_n (q := 123) dX7_difference_122 rfl rfl rfl ?_
                refine aw_get (q := 126) dX7_difference_123 rfl fl_X7_171 g82 rfl (fun _ => ?_)
                refine aw_iaload (j := i + t) (q := 127) dX7_difference_126 rfl ((hF1 95 (by omega)).trans h95) (by omega) (by omega) (fun rx23 => ?_)
                rw [(ag7 (i + t) (by omega))]
                refine aw_if_ne (t := 133) (q := 130) dX7_difference_127 rfl (by decide) (fun bc24 => ?_) (fun bc24 => ?_)
                · skip
                  have hm8 := mul_b (u := fd.2 (i + t)) (w := u) 127 268435456 (by omega) (by omega) (by omega) (by omega)
                  refine aw_lload_n (q := 134) dX7_difference_133 rfl rfl rfl ?_
                  refine aw_aload_n (q := 135) dX7_difference_134 rfl rfl rfl ?_
                  refine aw_get (q := 138) dX7_difference_135 rfl fl_X7_53 g82 rfl (fun _ => ?_)
                  refine aw_aload_n (q := 139) dX7_difference_138 rfl rfl rfl ?_
                  refine aw_get (q := 142) dX7_difference_139 rfl fl_X7_171 g82 rfl (fun _ => ?_)
                  refine aw_iaload (j := i + t) (q := 143) dX7_difference_142 rfl ((hF1 95 (by omega)).trans h95) (by omega) (by omega) (fun rx25 => ?_)
                  rw [(ag7 (i + t) (by omega))]
                  refine aw_i2l (q := 144) dX7_difference_143 rfl ?_
                  refine aw_lload_n (q := 145) dX7_difference_144 rfl rfl rfl ?_
                  refine aw_lmul (q := 146) dX7_difference_145 rfl (by omega) ?_
                  refine aw_ladd (q := 147) dX7_difference_146 rfl (by omega) ?_
                  refine aw_lstore_n (q := 148) dX7_difference_147 rfl rfl (by decide) ?_
                  obtain ⟨V, hV⟩ : ∃ V : Int, V = v + fd.2 (i + t) * u := ⟨_, rfl⟩
                  rw [← hV]
                  have hE := TI_e hTI (c := fd.1) (by omega) rfl (by omega) (by omega) (by omega) (fun p hp => (hfb p (by omega)).2) hV
                  refine aw_aload_n (q := 149) dX7_difference_148 rfl rfl rfl ?_
                  refine aw_dup (q := 150) dX7_difference_149 rfl rfl ?_
                  refine aw_get (q := 153) dX7_difference_150 rfl fl_X7_171 g82 rfl (fun _ => ?_)
                  refine aw_iconst (q := 154) dX7_difference_153 rfl (by omega) ?_
                  refine aw_iadd (q := 155) dX7_difference_154 rfl (by omega) ?_
                  refine aw_put (q := 158) dX7_difference_155 rfl fp_X7_171 g82 (Nat.le_of_ble_eq_true rfl) trivial ?_
                  refine aw_lload_n (q := 159) dX7_difference_158 rfl rfl rfl ?_
                  refine aw_ldc2 (a := 20000000) (q := 162) dX7_difference_159 rfl k_X7_177 (by omega) ?_
                  refine aw_lcmp (q := 163) dX7_difference_162 rfl ?_
                  refine aw_if_le (t := 171) (q := 166) dX7_difference_163 rfl (by decide) (fun bc26 => ?_) (fun bc26 => ?_)
                  · skip
                    replace bc26 := cmpz_le.mp bc26
                    refine aw_lload_n (q := 172) dX7_difference_171 rfl rfl rfl ?_
                    refine aw_ldc2 (a := 2) (q := 175) dX7_difference_172 rfl k_X7_136 (by omega) ?_
                    refine aw_lrem (q := 176) dX7_difference_175 rfl (by omega) (by rw [tm2 (by omega)]; omega) ?_
                    rw [tm2 (by omega)]
                    refine aw_lconst (a := 0) (q := 177) dX7_difference_176 rfl rfl (by omega) ?_
                    refine aw_lcmp (q := 178) dX7_difference_177 rfl ?_
                    refine aw_if_ne (t := 190) (q := 181) dX7_difference_178 rfl (by decide) (fun bc27 => ?_) (fun bc27 => ?_)
                    · skip
                      replace bc27 := mt cmpz_eq.mpr bc27
                      refine aw_lload_n (q := 191) dX7_difference_190 rfl rfl rfl ?_
                      refine aw_lconst (a := 1) (q := 192) dX7_difference_191 rfl rfl (by omega) ?_
                      refine aw_ladd (q := 193) dX7_difference_192 rfl (by omega) ?_
                      refine aw_lneg (q := 194) dX7_difference_193 rfl (by omega) ?_
                      refine aw_ldc2 (a := 2) (q := 197) dX7_difference_194 rfl k_X7_136 (by omega) ?_
                      refine aw_ldiv (q := 198) dX7_difference_197 rfl (by omega) (by rw [td3 (by omega)]; omega) ?_
                      rw [td3 (by omega)]
                      refine aw_l2i (q := 199) dX7_difference_198 rfl (by omega) ?_
                      exact aw_iret dX7_difference_199 rfl (by decide) (by decide) ⟨_, rfl, rfl, _, i + t + 1, rfl, (FrR_hu hF1 (by omega)), by rw [show ((i + t + 1 : Nat) : Int) = ax + 1 by omega]; exact hu_s, by omega, by omega, by omega, by rcases hE with ⟨h1, h2, h3⟩ | ⟨h1, h2⟩; (left; rw [h1, unz_v]; first | rw [if_pos (by assumption)] | rw [if_neg (by assumption)]); exact Or.inr ⟨h1, by omega⟩⟩
                    · skip
                      replace bc27 := cmpz_eq.mp bc27
                      refine aw_lload_n (q := 182) dX7_difference_181 rfl rfl rfl ?_
                      refine aw_ldc2 (a := 2) (q := 185) dX7_difference_182 rfl k_X7_136 (by omega) ?_
                      refine aw_ldiv (q := 186) dX7_difference_185 rfl (by omega) (by rw [td2 (by omega)]; omega) ?_
                      rw [td2 (by omega)]
                      refine aw_l2i (q := 187) dX7_difference_186 rfl (by omega) ?_
                      refine aw_goto (q := 199) dX7_difference_187 (by decide) ?_
                      exact aw_iret dX7_difference_199 rfl (by decide) (by decide) ⟨_, rfl, rfl, _, i + t + 1, rfl, (FrR_hu hF1 (by omega)), by rw [show ((i + t + 1 : Nat) : Int) = ax + 1 by omega]; exact hu_s, by omega, by omega, by omega, by rcases hE with ⟨h1, h2, h3⟩ | ⟨h1, h2⟩; (left; rw [h1, unz_v]; first | rw [if_pos (by assumption)] | rw [if_neg (by assumption)]); exact Or.inr ⟨h1, by omega⟩⟩
                  · skip
                    replace bc26 := mt cmpz_le.mpr bc26
                    refine aw_ldc (a := 100000000) (q := 168) dX7_difference_166 rfl k_X7_176 (by omega) ?_
                    refine aw_goto (q := 199) dX7_difference_168 (by decide) ?_
                    exact aw_iret dX7_difference_199 rfl (by decide) (by decide) ⟨_, rfl, rfl, _, i + t + 1, rfl, (FrR_hu hF1 (by omega)), by rw [show ((i + t + 1 : Nat) : Int) = ax + 1 by omega]; exact hu_s, by omega, by omega, by omega, Or.inr ⟨(hE.resolve_left (fun h => by omega)).1, Or.inl (by omega)⟩⟩
                · skip
                  refine aw_ldc (a := 100000000) (q := 132) dX7_difference_130 rfl k_X7_176 (by omega) ?_
                  exact aw_iret dX7_difference_132 rfl (by decide) (by decide) ⟨_, rfl, rfl, _, i + t, rfl, hF1, by rw [g82, hat], by omega, by omega, by omega, Or.inr ⟨TI_n hTI (by omega) (by first | exact Or.inl (by omega) | exact Or.inr (Or.inl ⟨by omega, by omega⟩) | exact Or.inr (Or.inr ⟨by omega, by omega⟩)), Or.inl (by omega)⟩⟩
        · skip
          refine aw_aload_n (q := 36) dX7_difference_35 rfl rfl rfl ?_
          refine aw_get (q := 39) dX7_difference_36 rfl fl_X7_171 g82 rfl (fun _ => ?_)
          refine aw_iload (q := 41) dX7_difference_39 rfl rfl ?_
          refine aw_iconst (q := 42) dX7_difference_41 rfl (by omega) ?_
          refine aw_iadd (q := 43) dX7_difference_42 rfl (by omega) ?_
          refine aw_ic_ge (t := 84) (q := 46) dX7_difference_43 rfl (by decide) (fun bc28 => ?_) (fun bc28 => ?_)
          · skip
            refine aw_aload_n (q := 85) dX7_difference_84 rfl rfl rfl ?_
            refine aw_get (q := 88) dX7_difference_85 rfl fl_X7_171 g82 rfl (fun _ => ?_)
            refine aw_aload_n (q := 89) dX7_difference_88 rfl rfl rfl ?_
            refine aw_get (q := 92) dX7_difference_89 rfl fl_X7_168 g82 rfl (fun _ => ?_)
            refine aw_ic_eq (t := 130) (q := 95) dX7_difference_92 rfl (by decide) (fun bc29 => ?_) (fun bc29 => ?_)
            · skip
              refine aw_ldc (a := 100000000) (q := 132) dX7_difference_130 rfl k_X7_176 (by omega) ?_
              exact aw_iret dX7_difference_132 rfl (by decide) (by decide) ⟨_, rfl, rfl, _, i + t, rfl, hF1, by rw [g82, hat], by omega, by omega, by omega, Or.inr ⟨TI_n hTI (by omega) (by first | exact Or.inl (by omega) | exact Or.inr (Or.inl ⟨by omega, by omega⟩) | exact Or.inr (Or.inr ⟨by omega, by omega⟩)), Or.inl (by omega)⟩⟩
            · skip
              refine aw_aload_n (q := 96) dX7_difference_95 rfl rfl rfl ?_
              refine aw_get (q := 99) dX7_difference_96 rfl fl_X7_53 g82 rfl (fun _ => ?_)
              refine aw_aload_n (q := 100) dX7_difference_99 rfl rfl rfl ?_
              refine aw_get (q := 103) dX7_difference_100 rfl fl_X7_171 g82 rfl (fun _ => ?_)
              refine aw_iaload (j := i + t) (q := 104) dX7_difference_103 rfl ((hF1 95 (by omega)).trans h95) (by omega) (by omega) (fun rx30 => ?_)
              rw [(ag7 (i + t) (by omega))]
              have hbt := hfb (i + t) (by omega)
              refine aw_bipush (q := 106) dX7_difference_104 rfl (by decide) (by omega) ?_
              refine aw_ic_gt (t := 130) (q := 109) dX7_difference_106 rfl (by decide) (fun bc31 => ?_) (fun bc31 => ?_)
              · skip
                refine aw_ldc (a := 100000000) (q := 132) dX7_difference_130 rfl k_X7_176 (by omega) ?_
                exact aw_iret dX7_difference_132 rfl (by decide) (by decide) ⟨_, rfl, rfl, _, i + t, rfl, hF1, by rw [g82, hat], by omega, by omega, by omega, Or.inr ⟨TI_n hTI (by omega) (by first | exact Or.inl (by omega) | exact Or.inr (Or.inl ⟨by omega, by omega⟩) | exact Or.inr (Or.inr ⟨by omega, by omega⟩)), Or.inl (by omega)⟩⟩
              · skip
                refine aw_aload_n (q := 110) dX7_difference_109 rfl rfl rfl ?_
                refine aw_get (q := 113) dX7_difference_110 rfl fl_X7_171 g82 rfl (fun _ => ?_)
                refine aw_iload (q := 115) dX7_difference_113 rfl rfl ?_
                refine aw_ic_le (t := 133) (q := 118) dX7_difference_115 rfl (by decide) (fun bc32 => ?_) (fun bc32 => ?_)
                · skip
                  have hm8 := mul_b (u := fd.2 (i + t)) (w := u) 127 268435456 (by omega) (by omega) (by omega) (by omega)
                  refine aw_lload_n (q := 134) dX7_difference_133 rfl rfl rfl ?_
                  refine aw_aload_n (q := 135) dX7_difference_134 rfl rfl rfl ?_
                  refine aw_get (q := 138) dX7_difference_135 rfl fl_X7_53 g82 rfl (fun _ => ?_)
                  refine aw_aload_n (q := 139) dX7_difference_138 rfl rfl rfl ?_
                  refine aw_get (q := 142) dX7_difference_139 rfl fl_X7_171 g82 rfl (fun _ => ?_)
                  refine aw_iaload (j := i + t) (q := 143) dX7_difference_142 rfl ((hF1 95 (by omega)).trans h95) (by omega) (by omega) (fun rx33 => ?_)
                  rw [(ag7 (i + t) (by omega))]
                  refine aw_i2l (q := 144) dX7_difference_143 rfl ?_
                  refine aw_lload_n (q := 145) dX7_difference_144 rfl rfl rfl ?_
                  refine aw_lmul (q := 146) dX7_difference_145 rfl (by omega) ?_
                  refine aw_ladd (q := 147) dX7_difference_146 rfl (by omega) ?_
                  refine aw_lstore_n (q := 148) dX7_difference_147 rfl rfl (by decide) ?_
                  obtain ⟨V, hV⟩ : ∃ V : Int, V = v + fd.2 (i + t) * u := ⟨_, rfl⟩
                  rw [← hV]
                  have hE := TI_e hTI (c := fd.1) (by omega) rfl (by omega) (by omega) (by omega) (fun p hp => (hfb p (by omega)).2) hV
                  refine aw_aload_n (q := 149) dX7_difference_148 rfl rfl rfl ?_
                  refine aw_dup (q := 150) dX7_difference_149 rfl rfl ?_
                  refine aw_get (q := 153) dX7_difference_150 rfl fl_X7_171 g82 rfl (fun _ => ?_)
                  refine aw_iconst (q := 154) dX7_difference_153 rfl (by omega) ?_
                  refine aw_iadd (q := 155) dX7_difference_154 rfl (by omega) ?_
                  refine aw_put (q := 158) dX7_difference_155 rfl fp_X7_171 g82 (Nat.le_of_ble_eq_true rfl) trivial ?_
                  refine aw_lload_n (q := 159) dX7_difference_158 rfl rfl rfl ?_
                  refine aw_ldc2 (a := 20000000) (q := 162) dX7_difference_159 rfl k_X7_177 (by omega) ?_
                  refine aw_lcmp (q := 163) dX7_difference_162 rfl ?_
                  refine aw_if_le (t := 171) (q := 166) dX7_difference_163 rfl (by decide) (fun bc34 => ?_) (fun bc34 => ?_)
                  · skip
                    replace bc34 := cmpz_le.mp bc34
                    refine aw_lload_n (q := 172) dX7_difference_171 rfl rfl rfl ?_
                    refine aw_ldc2 (a := 2) (q := 175) dX7_difference_172 rfl k_X7_136 (by omega) ?_
                    refine aw_lrem (q := 176) dX7_difference_175 rfl (by omega) (by rw [tm2 (by omega)]; omega) ?_
                    rw [tm2 (by omega)]
                    refine aw_lconst (a := 0) (q := 177) dX7_difference_176 rfl rfl (by omega) ?_
                    refine aw_lcmp (q := 178) dX7_difference_177 rfl ?_
                    refine aw_if_ne (t := 190) (q := 181) dX7_difference_178 rfl (by decide) (fun bc35 => ?_) (fun bc35 => ?_)
                    · skip
                      replace bc35 := mt cmpz_eq.mpr bc35
                      refine aw_lload_n (q := 191) dX7_difference_190 rfl rfl rfl ?_
                      refine aw_lconst (a := 1) (q := 192) dX7_difference_191 rfl rfl (by omega) ?_
                      refine aw_ladd (q := 193) dX7_difference_192 rfl (by omega) ?_
                      refine aw_lneg (q := 194) dX7_difference_193 rfl (by omega) ?_
                      refine aw_ldc2 (a := 2) (q := 197) dX7_difference_194 rfl k_X7_136 (by omega) ?_
                      refine aw_ldiv (q := 198) dX7_difference_197 rfl (by omega) (by rw [td3 (by omega)]; omega) ?_
                      rw [td3 (by omega)]
                      refine aw_l2i (q := 199) dX7_difference_198 rfl (by omega) ?_
                      exact aw_iret dX7_difference_199 rfl (by decide) (by decide) ⟨_, rfl, rfl, _, i + t + 1, rfl, (FrR_hu hF1 (by omega)), by rw [show ((i + t + 1 : Nat) : Int) = ax + 1 by omega]; exact hu_s, by omega, by omega, by omega, by rcases hE with ⟨h1, h2, h3⟩ | ⟨h1, h2⟩; (left; rw [h1, unz_v]; first | rw [if_pos (by assumption)] | rw [if_neg (by assumption)]); exact Or.inr ⟨h1, by omega⟩⟩
                    · skip
                      replace bc35 := cmpz_eq.mp bc35
                      refine aw_lload_n (q := 182) dX7_difference_181 rfl rfl rfl ?_
                      refine aw_ldc2 (a := 2) (q := 185) dX7_difference_182 rfl k_X7_136 (by omega) ?_
                      refine aw_ldiv (q := 186) dX7_difference_185 rfl (by omega) (by rw [td2 (by omega)]; omega) ?_
                      rw [td2 (by omega)]
                      refine aw_l2i (q := 187) dX7_difference_186 rfl (by omega) ?_
                      refine aw_goto (q := 199) dX7_difference_187 (by decide) ?_
                      exact aw_iret dX7_difference_199 rfl (by decide) (by decide) ⟨_, rfl, rfl, _, i + t + 1, rfl, (FrR_hu hF1 (by omega)), by rw [show ((i + t + 1 : Nat) : Int) = ax + 1 by omega]; exact hu_s, by omega, by omega, by omega, by rcases hE with ⟨h1, h2, h3⟩ | ⟨h1, h2⟩; (left; rw [h1, unz_v]; first | rw [if_pos (by assumption)] | rw [if_neg (by assumption)]); exact Or.inr ⟨h1, by omega⟩⟩
                  · skip
                    replace bc34 := mt cmpz_le.mpr bc34
                    refine aw_ldc (a := 100000000) (q := 168) dX7_difference_166 rfl k_X7_176 (by omega) ?_
                    refine aw_goto (q := 199) dX7_difference_168 (by decide) ?_
                    exact aw_iret dX7_difference_199 rfl (by decide) (by decide) ⟨_, rfl, rfl, _, i + t + 1, rfl, (FrR_hu hF1 (by omega)), by rw [show ((i + t + 1 : Nat) : Int) = ax + 1 by omega]; exact hu_s, by omega, by omega, by omega, Or.inr ⟨(hE.resolve_left (fun h => by omega)).1, Or.inl (by omega)⟩⟩
                · skip
                  refine aw_aload_n (q := 119) dX7_difference_118 rfl rfl rfl ?_
                  refine aw_get (q := 122) dX7_difference_119 rfl fl_X7_53 g82 rfl (fun _ => ?_)
                  refine aw_aload_n (q := 123) dX7_difference_122 rfl rfl rfl ?_
                  refine aw_get (q := 126) dX7_difference_123 rfl fl_X7_171 g82 rfl (fun _ => ?_)
                  refine aw_iaload (j := i + t) (q := 127) dX7_difference_126 rfl ((hF1 95 (by omega)).trans h95) (by omega) (by omega) (fun rx36 => ?_)
                  rw [(ag7 (i + t) (by omega))]
                  refine aw_if_ne (t := 133) (q := 130) dX7_difference_127 rfl (by decide) (fun bc37 => ?_) (fun bc37 => ?_)
                  · skip
                    have hm8 := mul_b (u := fd.2 (i + t)) (w := u) 127 268435456 (by omega) (by omega) (by omega) (by omega)
                    refine aw_lload_n (q := 134) dX7_difference_133 rfl rfl rfl ?_
                    refine aw_aload_n (q := 135) dX7_difference_134 rfl rfl rfl ?_
                    refine aw_get (q := 138) dX7_difference_135 rfl fl_X7_53 g82 rfl (fun _ => ?_)
                    refine aw_aload_n (q := 139) dX7_difference_138 rfl rfl rfl ?_
                    refine aw_get (q := 142) dX7_difference_139 rfl fl_X7_171 g82 rfl (fun _ => ?_)
                    refine aw_iaload (j := i + t) (q := 143) dX7_difference_142 rfl ((hF1 95 (by omega)).trans h95) (by omega) (by omega) (fun rx38 => ?_)
                    rw [(ag7 (i + t) (by omega))]
                    refine aw_i2l (q := 144) dX7_difference_143 rfl ?_
                    refine aw_lload_n (q := 145) dX7_difference_144 rfl rfl rfl ?_
                    refine aw_lmul (q := 146) dX7_difference_145 rfl (by omega) ?_
                    refine aw_ladd (q := 147) dX7_difference_146 rfl (by omega) ?_
                    refine aw_lstore_n (q := 148) dX7_difference_147 rfl rfl (by decide) ?_
                    obtain ⟨V, hV⟩ : ∃ V : Int, V = v + fd.2 (i + t) * u := ⟨_, rfl⟩
                    rw [← hV]
                    have hE := TI_e hTI (c := fd.1) (by omega) rfl (by omega) (by omega) (by omega) (fun p hp => (hfb p (by omega)).2) hV
                    refine aw_aload_n (q := 149) dX7_difference_148 rfl rfl rfl ?_
                    refine aw_dup (q := 150) dX7_difference_149 rfl rfl ?_
                    refine aw_get (q := 153) dX7_difference_150 rfl fl_X7_171 g82 rfl (fun _ => ?_)
                    refine aw_iconst (q := 154) dX7_difference_153 rfl (by omega) ?_
                    refine aw_iadd (q := 155) dX7_difference_154 rfl (by omega) ?_
                    refine aw_put (q := 158) dX7_difference_155 rfl fp_X7_171 g82 (Nat.le_of_ble_eq_true rfl) trivial ?_
                    refine aw_lload_n (q := 159) dX7_difference_158 rfl rfl rfl ?_
                    refine aw_ldc2 (a := 20000000) (q := 162) dX7_difference_159 rfl k_X7_177 (by omega) ?_
                    refine aw_lcmp (q := 163) dX7_difference_162 rfl ?_
                    refine aw_if_le (t := 171) (q := 166) dX7_difference_163 rfl (by decide) (fun bc39 => ?_) (fun bc39 => ?_)
                    · skip
                      replace bc39 := cmpz_le.mp bc39
                      refine aw_lload_n (q := 172) dX7_difference_171 rfl rfl rfl ?_
                      refine aw_ldc2 (a := 2) (q := 175) dX7_difference_172 rfl k_X7_136 (by omega) ?_
                      refine aw_lrem (q := 176) dX7_difference_175 rfl (by omega) (by rw [tm2 (by omega)]; omega) ?_
                      rw [tm2 (by omega)]
                      refine aw_lconst (a := 0) (q := 177) dX7_difference_176 rfl rfl (by omega) ?_
                      refine aw_lcmp (q := 178) dX7_difference_177 rfl ?_
                      refine aw_if_ne (t := 190) (q := 181) dX7_difference_178 rfl (by decide) (fun bc40 => ?_) (fun bc40 => ?_)
                      · skip
                        replace bc40 := mt cmpz_eq.mpr bc40
                        refine aw_lload_n (q := 191) dX7_difference_190 rfl rfl rfl ?_
                        refine aw_lconst (a := 1) (q := 192) dX7_difference_191 rfl rfl (by omega) ?_
                        refine aw_ladd (q := 193) dX7_difference_192 rfl (by omega) ?_
                        refine aw_lneg (q := 194) dX7_difference_193 rfl (by omega) ?_
                        refine aw_ldc2 (a := 2) (q := 197) dX7_difference_194 rfl k_X7_136 (by omega) ?_
                        refine aw_ldiv (q := 198) dX7_difference_197 rfl (by omega) (by rw [td3 (by omega)]; omega) ?_
                        rw [td3 (by omega)]
                        refine aw_l2i (q := 199) dX7_difference_198 rfl (by omega) ?_
                        exact aw_iret dX7_difference_199 rfl (by decide) (by decide) ⟨_, rfl, rfl, _, i + t + 1, rfl, (FrR_hu hF1 (by omega)), by rw [show ((i + t + 1 : Nat) : Int) = ax + 1 by omega]; exact hu_s, by omega, by omega, by omega, by rcases hE with ⟨h1, h2, h3⟩ | ⟨h1, h2⟩; (left; rw [h1, unz_v]; first | rw [if_pos (by assumption)] | rw [if_neg (by assumption)]); exact Or.inr ⟨h1, by omega⟩⟩
                      · skip
                        replace bc40 := cmpz_eq.mp bc40
                        refine aw_lload_n (q := 182) dX7_difference_181 rfl rfl rfl ?_
                        refine aw_ldc2 (a := 2) (q := 185) dX7_difference_182 rfl k_X7_136 (by omega) ?_
                        refine aw_ldiv (q := 186) dX7_difference_185 rfl (by omega) (by rw [td2 (by omega)]; omega) ?_
                        rw [td2 (by omega)]
                        refine aw_l2i (q := 187) dX7_difference_186 rfl (by omega) ?_
                        refine aw_goto (q := 199) dX7_difference_187 (by decide) ?_
                        exact aw_iret dX7_difference_199 rfl (by decide) (by decide) ⟨_, rfl, rfl, _, i + t + 1, rfl, (FrR_hu hF1 (by omega)), by rw [show ((i + t + 1 : Nat) : Int) = ax + 1 by omega]; exact hu_s, by omega, by omega, by omega, by rcases hE with ⟨h1, h2, h3⟩ | ⟨h1, h2⟩; (left; rw [h1, unz_v]; first | rw [if_pos (by assumption)] | rw [if_neg (by assumption)]); exact Or.inr ⟨h1, by omega⟩⟩
                    · skip
                      replace bc39 := mt cmpz_le.mpr bc39
                      refine aw_ldc (a := 100000000) (q := 168) dX7_difference_166 rfl k_X7_176 (by omega) ?_
                      refine aw_goto (q := 199) dX7_difference_168 (by decide) ?_
                      exact aw_iret dX7_difference_199 rfl (by decide) (by decide) ⟨_, rfl, rfl, _, i + t + 1, rfl, (FrR_hu hF1 (by omega)), by rw [show ((i + t + 1 : Nat) : Int) = ax + 1 by omega]; exact hu_s, by omega, by omega, by omega, Or.inr ⟨(hE.resolve_left (fun h => by omega)).1, Or.inl (by omega)⟩⟩
                  · skip
                    refine aw_ldc (a := 100000000) (q := 132) dX7_difference_130 rfl k_X7_176 (by omega) ?_
                    exact aw_iret dX7_difference_132 rfl (by decide) (by decide) ⟨_, rfl, rfl, _, i + t, rfl, hF1, by rw [g82, hat], by omega, by omega, by omega, Or.inr ⟨TI_n hTI (by omega) (by first | exact Or.inl (by omega) | exact Or.inr (Or.inl ⟨by omega, by omega⟩) | exact Or.inr (Or.inr ⟨by omega, by omega⟩)), Or.inl (by omega)⟩⟩
          · skip
            have hm9 := mul_b (u := fd.2 (i + t) - 128) (w := u) 127 268435456 (by omega) (by omega) (by omega) (by omega)
            refine aw_lload_n (q := 47) dX7_difference_46 rfl rfl rfl ?_
            refine aw_aload_n (q := 48) dX7_difference_47 rfl rfl rfl ?_
            refine aw_get (q := 51) dX7_difference_48 rfl fl_X7_53 g82 rfl (fun _ => ?_)
            refine aw_aload_n (q := 52) dX7_difference_51 rfl rfl rfl ?_
            refine aw_get (q := 55) dX7_difference_52 rfl fl_X7_171 g82 rfl (fun _ => ?_)
            refine aw_iaload (j := i + t) (q := 56) dX7_difference_55 rfl ((hF1 95 (by omega)).trans h95) (by omega) (by omega) (fun rx41 => ?_)
            rw [(ag7 (i + t) (by omega))]
            refine aw_sipush (q := 59) dX7_difference_56 rfl (by decide) (by omega) ?_
            refine aw_isub (q := 60) dX7_difference_59 rfl (by omega) ?_
            refine aw_i2l (q := 61) dX7_difference_60 rfl ?_
            refine aw_lload_n (q := 62) dX7_difference_61 rfl rfl rfl ?_
            refine aw_lmul (q := 63) dX7_difference_62 rfl (by omega) ?_
            refine aw_ladd (q := 64) dX7_difference_63 rfl (by omega) ?_
            refine aw_lstore_n (q := 65) dX7_difference_64 rfl rfl (by decide) ?_
            refine aw_ldc2 (a := 128) (q := 68) dX7_difference_65 rfl k_X7_174 (by omega) ?_
            refine aw_lload_n (q := 69) dX7_difference_68 rfl rfl rfl ?_
            refine aw_lmul (q := 70) dX7_difference_69 rfl (by omega) ?_
            refine aw_lstore_n (q := 71) dX7_difference_70 rfl rfl (by decide) ?_
            refine aw_ls (ls := [some (vR 82), some (vL (v + (((fd.2 (i + t)) - 128) * u))), none, some (vL (128 * u)), none, some (vI (x))]) ⟨rfl, ⟨rfl, ⟨rfl, ⟨rfl, trivial⟩⟩⟩⟩ ?_
            refine aw_aload_n (q := 72) dX7_difference_71 rfl rfl rfl ?_
            refine aw_dup (q := 73) dX7_difference_72 rfl rfl ?_
            refine aw_get (q := 76) dX7_difference_73 rfl fl_X7_171 g82 rfl (fun _ => ?_)
            refine aw_iconst (q := 77) dX7_difference_76 rfl (by omega) ?_
            refine aw_iadd (q := 78) dX7_difference_77 rfl (by omega) ?_
            refine aw_put (q := 81) dX7_difference_78 rfl fp_X7_171 g82 (Nat.le_of_ble_eq_true rfl) trivial ?_
            refine aw_goto (q := 10) dX7_difference_81 (by decide) ?_
            exact ih (t + 1) _ _ _ _ (by omega) (by omega) (by omega) (TI_s hTI (by omega) rfl (by omega) (by omega) (fun p hp => (hfb p (by omega)).2)) hu_s (FrR_hu hF1 (by omega))
  refine aw_lconst (a := 0) (q := 1) dX7_difference_0 rfl rfl (by omega) ?_
  refine aw_lstore_n (q := 2) dX7_difference_1 rfl rfl (by decide) ?_
  refine aw_lconst (a := 1) (q := 3) dX7_difference_2 rfl rfl (by omega) ?_
  refine aw_lstore_n (q := 4) dX7_difference_3 rfl rfl (by decide) ?_
  refine aw_ls (ls := [some (vR 82), some (vL (0)), none, some (vL (1)), none, none]) ⟨rfl, ⟨rfl, ⟨rfl, trivial⟩⟩⟩ ?_
  refine aw_aload_n (q := 5) dX7_difference_4 rfl rfl rfl ?_
  refine aw_get (q := 8) dX7_difference_5 rfl fl_X7_171 h82 rfl (fun _ => ?_)
  refine aw_istore (q := 10) dX7_difference_8 rfl (by decide) ?_
  exact loop 5 0 _ _ _ μ (by omega) (by omega) (by omega) (Or.inl ⟨rfl, rfl, rfl⟩) h82 FrR_rf
