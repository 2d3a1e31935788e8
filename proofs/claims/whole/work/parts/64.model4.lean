/-! ===== TrackRowsModel: mark (written by m_model4.py) ===== -/
def okm (v : DVt) (s t : Int) (p : Nat) : Prop := (v.2.2.2.2.2.2.1 p < s ∧ v.2.2.2.2.2.2.2 p < t) ∨ (s < v.2.2.2.2.2.2.1 p ∧ t < v.2.2.2.2.2.2.2 p)
theorem fit_of {v : DVt} {s t : Int} (hO : dv_O v) (h : ∀ p, p < v.2.2.2.2.2.1 → okm v s t p) : mkFit v s t := by
  obtain ⟨-, -, -, -, -, hst⟩ := hO
  have hL := lowb_le v.2.2.2.2.2.2.1 s v.2.2.2.2.2.1 0
  have hlt := fun p hp => lowb_lt v.2.2.2.2.2.2.1 s v.2.2.2.2.2.1 0 p (Nat.zero_le _) hp
  have hge := lowb_ge v.2.2.2.2.2.2.1 s v.2.2.2.2.2.1 0
  unfold mkFit mkc
  generalize lowb v.2.2.2.2.2.2.1 s v.2.2.2.2.2.1 0 = L at hL hlt hge
  constructor
  · by_cases e : L = 0
    · exact Or.inl e
    · right
      have h1 := hlt (L - 1) (by omega)
      have h2 := h (L - 1) (by omega)
      unfold okm at h2
      omega
  · by_cases e : v.2.2.2.2.2.1 ≤ L
    · exact Or.inl e
    · right
      have h1 := hge (by omega)
      have h2 := h L (by omega)
      unfold okm at h2
      omega
theorem okm_of {v : DVt} {s t : Int} (hO : dv_O v) (h : mkFit v s t) (p : Nat) (hp : p < v.2.2.2.2.2.1) : okm v s t p := by
  obtain ⟨-, -, -, -, -, hst⟩ := hO
  have hL := lowb_le v.2.2.2.2.2.2.1 s v.2.2.2.2.2.1 0
  have hlt := fun p hp => lowb_lt v.2.2.2.2.2.2.1 s v.2.2.2.2.2.1 0 p (Nat.zero_le _) hp
  unfold mkFit mkc at h
  generalize lowb v.2.2.2.2.2.2.1 s v.2.2.2.2.2.1 0 = L at hL hlt h
  unfold okm
  by_cases e : p < L
  · left
    have h1 := hlt p e
    have h2 := h.1.resolve_left (by omega)
    refine ⟨h1, ?_⟩
    by_cases q : p = L - 1
    · rw [q]; exact h2
    · have := up_lt (c := v.2.2.2.2.2.1) (fun p hp => (hst p hp).2) (show p < L - 1 by omega) (by omega)
      omega
  · right
    have h2 := h.2.resolve_left (by omega)
    by_cases q : p = L
    · rw [q]; exact h2
    · have h3 := up_lt (c := v.2.2.2.2.2.1) (fun p hp => (hst p hp).1) (show L < p by omega) hp
      have h4 := up_lt (c := v.2.2.2.2.2.1) (fun p hp => (hst p hp).2) (show L < p by omega) hp
      omega
set_option maxHeartbeats 4000000 in
set_option maxRecDepth 100000 in
theorem m_X7_mark {n : Nat} {μ : AH} {th B : Int} {D : Nat} {dv : Nat → DVt} {Fn : Nat} {fv : Nat → FVt} {sv : SVt} {pk fd : Nat × (Nat → Int)} {spd lim : Int} {i s t : Int} (hm : MM μ th D dv Fn fv sv pk fd spd lim) (hO : COk B D dv Fn fv sv pk fd spd lim) : AMet YX7_mark [vR 82, vI (i), vI (s), vI (t)] n μ (fun o n' μ' => n' = n ∧ FrR 82 101 μ μ' ∧ ∃ v : Int, o = .inl (some (vI v)) ∧ ((¬ (0 ≤ i ∧ i < (D : Int)) ∧ MM μ' 1 D dv Fn fv sv pk fd spd lim) ∨ (((0 ≤ i ∧ i < (D : Int)) ∧ ¬ ((0 ≤ s ∧ s ≤ 1000000) ∧ 0 ≤ t ∧ t ≤ 1000000)) ∧ MM μ' 2 D dv Fn fv sv pk fd spd lim) ∨ ((((0 ≤ i ∧ i < (D : Int)) ∧ (0 ≤ s ∧ s ≤ 1000000) ∧ 0 ≤ t ∧ t ≤ 1000000) ∧ ¬ mkFit (dv i.toNat) s t) ∧ MM μ' 2 D dv Fn fv sv pk fd spd lim) ∨ (((((0 ≤ i ∧ i < (D : Int)) ∧ (0 ≤ s ∧ s ≤ 1000000) ∧ 0 ≤ t ∧ t ≤ 1000000) ∧ mkFit (dv i.toNat) s t) ∧ ¬ (dv i.toNat).2.2.2.2.2.1 < 8) ∧ MM μ' 3 D dv Fn fv sv pk fd spd lim) ∨ (((((0 ≤ i ∧ i < (D : Int)) ∧ (0 ≤ s ∧ s ≤ 1000000) ∧ 0 ≤ t ∧ t ≤ 1000000) ∧ mkFit (dv i.toNat) s t) ∧ (dv i.toNat).2.2.2.2.2.1 < 8) ∧ MM μ' 0 D (dvu dv i.toNat (dvMk (dv i.toNat) s t)) Fn fv sv pk fd spd lim ∧ v = (((dv i.toNat).2.2.2.2.2.1 + 1 : Nat) : Int)))) := by
  refine AMet.of (by decide) rfl (Nat.le_of_ble_eq_true rfl) ?_
  obtain ⟨at7, ls7, wy7, c7, t7, F7, G7, H7, k7, a7, b7, e7, X7, Y7, y7, o7, r7, s7, u7, v7, w7, h82, h83, h84, h85, h86, h87, h88, h89, h90, h91, h92, h93, h94, h95, h96, h97, h98, h99, h100, ag1, ag2, ag3, ag4, ag5, ag6, ag7, ag8⟩ := id hm
  obtain ⟨hN, hdv, hFn, hfv, hsn, hsb, hpk, hfd, hfb, hs1, hs2, hl1, hl2⟩ := id hO
  refine aw_aload_n (q := 1) dX7_mark_0 rfl rfl rfl ?_
  refine aw_iconst (q := 2) dX7_mark_1 rfl (by omega) ?_
  refine aw_put (q := 5) dX7_mark_2 rfl fp_X7_72 h82 (Nat.le_of_ble_eq_true rfl) trivial ?_
  refine mm_z (at' := at7) (ls' := ls7) (wy' := wy7) hm (fun μ0 hm0 hF0 => ?_)
  obtain ⟨at7, ls7, wy7, c7, t7, F7, G7, H7, k7, a7, b7, e7, X7, Y7, y7, o7, r7, s7, u7, v7, w7, h82, h83, h84, h85, h86, h87, h88, h89, h90, h91, h92, h93, h94, h95, h96, h97, h98, h99, h100, ag1, ag2, ag3, ag4, ag5, ag6, ag7, ag8⟩ := id hm0
  refine aw_aload_n (q := 6) dX7_mark_5 rfl rfl rfl ?_
  refine aw_aload_n (q := 7) dX7_mark_6 rfl rfl rfl ?_
  refine aw_iload_n (q := 8) dX7_mark_7 rfl rfl rfl ?_
  refine aw_callV [vI (i)] (q := 11) dX7_mark_8 rfl ck_X7_isDevice lk_X7_78 rfl ⟨Nat.le_of_ble_eq_true rfl, Nat.le_of_ble_eq_true rfl⟩ rfl rfl h82 rfl (Nat.le_of_ble_eq_true rfl) (by decide) (m_X7_isDevice hm0 hO) rfl (fun _ _ _ h => (Rt_x h).elim) ?_
  rintro v n9 μ9 - ⟨v9, hv9, hn9, hm9, rfl⟩
  obtain rfl := hn9.symm
  obtain rfl := hm9.symm
  obtain rfl := Sum.inl.inj hv9
  refine aw_if_ne (t := 18) (q := 14) dX7_mark_11 rfl (by decide) (fun bc1 => ?_) (fun bc1 => ?_)
  · skip
    replace bc1 := bz_n0.mp bc1
    refine aw_iconst (q := 19) dX7_mark_18 rfl (by omega) ?_
    refine aw_iconst (q := 20) dX7_mark_19 rfl (by omega) ?_
    refine aw_callV [vI (0), vI (1)] (q := 23) dX7_mark_20 rfl ck_X7_fails lk_X7_82 rfl ⟨Nat.le_of_ble_eq_true rfl, Nat.le_of_ble_eq_true rfl⟩ rfl rfl h82 rfl (Nat.le_of_ble_eq_true rfl) (by decide) (m_X7_fails_f h82) rfl (fun _ _ _ h => (Rt_x h).elim) ?_
    rintro v n9 μ9 - ⟨v9, hv9, hn9, hm9, rfl⟩
    obtain rfl := hn9.symm
    obtain rfl := hm9.symm
    obtain rfl := Sum.inl.inj hv9
    refine aw_if_ne (t := 63) (q := 26) dX7_mark_23 rfl (by decide) (fun bc2 => ?_) (fun bc2 => ?_)
    · skip
      omega
    · skip
      refine aw_aload_n (q := 27) dX7_mark_26 rfl rfl rfl ?_
      refine aw_iload_n (q := 28) dX7_mark_27 rfl rfl rfl ?_
      refine aw_i2l (q := 29) dX7_mark_28 rfl ?_
      refine aw_lconst (a := 0) (q := 30) dX7_mark_29 rfl rfl (by omega) ?_
      refine aw_ldc2 (a := 1000000) (q := 33) dX7_mark_30 rfl k_X7_94 (by omega) ?_
      refine aw_callS [vL (s), vL (0), vL (1000000)] (q := 36) dX7_mark_33 rfl ck_X7_within lk_X7_90 rfl ⟨Nat.le_of_ble_eq_true rfl, Nat.le_of_ble_eq_true rfl⟩ rfl rfl (Nat.le_of_ble_eq_true rfl) (by decide) (m_X7_within) rfl (fun _ _ _ h => (Rt_x h).elim) ?_
      rintro v n9 μ9 - ⟨v9, hv9, hn9, hm9, rfl⟩
      obtain rfl := hn9.symm
      obtain rfl := hm9.symm
      obtain rfl := Sum.inl.inj hv9
      refine aw_if_eq (t := 51) (q := 39) dX7_mark_36 rfl (by decide) (fun bc3 => ?_) (fun bc3 => ?_)
      · skip
        replace bc3 := bz_0.mp bc3
        refine aw_iconst (q := 52) dX7_mark_51 rfl (by omega) ?_
        refine aw_goto (q := 56) dX7_mark_52 (by decide) ?_
        refine aw_iconst (q := 57) dX7_mark_56 rfl (by omega) ?_
        refine aw_callV [vI (1), vI (2)] (q := 60) dX7_mark_57 rfl ck_X7_fails lk_X7_82 rfl ⟨Nat.le_of_ble_eq_true rfl, Nat.le_of_ble_eq_true rfl⟩ rfl rfl h82 rfl (Nat.le_of_ble_eq_true rfl) (by decide) (m_X7_fails_t h82 (by omega)) rfl (fun _ _ _ h => (Rt_x h).elim) ?_
        rintro v n9 μ9 - ⟨v9, hv9, hn9, hm9, rfl⟩
        obtain rfl := hn9.symm
        obtain rfl := hm9.symm
        obtain rfl := Sum.inl.inj hv9
        refine aw_if_eq (t := 65) (q := 63) dX7_mark_60 rfl (by decide) (fun bc4 => ?_) (fun bc4 => ?_)
        · skip
          omega
        · skip
          refine aw_iconst (q := 64) dX7_mark_63 rfl (by omega) ?_
          exact aw_iret dX7_mark_64 rfl (by decide) (by decide) ⟨rfl, (FrR_hu (FrR_w hF0 (by omega) (by omega) : FrR 82 101 μ μ0) (by omega)), 0, rfl, Or.inr (Or.inl ⟨⟨by omega, by omega⟩, MM_o hm0⟩)⟩
      · skip
        replace bc3 := bz_n0.mp bc3
        refine aw_iload_n (q := 40) dX7_mark_39 rfl rfl rfl ?_
        refine aw_i2l (q := 41) dX7_mark_40 rfl ?_
        refine aw_lconst (a := 0) (q := 42) dX7_mark_41 rfl rfl (by omega) ?_
        refine aw_ldc2 (a := 1000000) (q := 45) dX7_mark_42 rfl k_X7_94 (by omega) ?_
        refine aw_callS [vL (t), vL (0), vL (1000000)] (q := 48) dX7_mark_45 rfl ck_X7_within lk_X7_90 rfl ⟨Nat.le_of_ble_eq_true rfl, Nat.le_of_ble_eq_true rfl⟩ rfl rfl (Nat.le_of_ble_eq_true rfl) (by decide) (m_X7_within) rfl (fun _ _ _ h => (Rt_x h).elim) ?_
        rintro v n9 μ9 - ⟨v9, hv9, hn9, hm9, rfl⟩
        obtain rfl := hn9.symm
        obtain rfl := hm9.symm
        obtain rfl := Sum.inl.inj hv9
        refine aw_if_ne (t := 55) (q := 51) dX7_mark_48 rfl (by decide) (fun bc5 => ?_) (fun bc5 => ?_)
        · skip
          replace bc5 := bz_n0.mp bc5
          refine aw_iconst (q := 56) dX7_mark_55 rfl (by omega) ?_
          refine aw_iconst (q := 57) dX7_mark_56 rfl (by omega) ?_
          refine aw_callV [vI (0), vI (2)] (q := 60) dX7_mark_57 rfl ck_X7_fails lk_X7_82 rfl ⟨Nat.le_of_ble_eq_true rfl, Nat.le_of_ble_eq_true rfl⟩ rfl rfl h82 rfl (Nat.le_of_ble_eq_true rfl) (by decide) (m_X7_fails_f h82) rfl (fun _ _ _ h => (Rt_x h).elim) ?_
          rintro v n9 μ9 - ⟨v9, hv9, hn9, hm9, rfl⟩
          obtain rfl := hn9.symm
          obtain rfl := hm9.symm
          obtain rfl := Sum.inl.inj hv9
          refine aw_if_eq (t := 65) (q := 63) dX7_mark_60 rfl (by decide) (fun bc6 => ?_) (fun bc6 => ?_)
          · skip
            obtain ⟨d, hi⟩ : ∃ d : Nat, i = (d : Int) := ⟨i.toNat, by omega⟩
            have hid : i.toNat = d := by omega
            have hd5 : d < 5 := by omega
            have hcd := ag1 d hd5
            have hdo := (hdv d hd5).1
            have hc60 : (dv d).1 ≤ 60 := hdo.1
            have hk8 : (dv d).2.2.2.2.2.1 ≤ 8 := hdo.2.2.2.1
            refine aw_iconst (q := 66) dX7_mark_65 rfl (by omega) ?_
            refine aw_istore (q := 68) dX7_mark_66 rfl (by decide) ?_
            refine aw_iconst (q := 69) dX7_mark_68 rfl (by omega) ?_
            refine aw_istore (q := 71) dX7_mark_69 rfl (by decide) ?_
            refine aw_bipush (q := 73) dX7_mark_71 rfl (by decide) (by omega) ?_
            refine aw_iload_n (q := 74) dX7_mark_73 rfl rfl rfl ?_
            refine aw_imul (q := 75) dX7_mark_74 rfl (by omega) ?_
            refine aw_istore (q := 77) dX7_mark_75 rfl (by decide) ?_
            have hL := (lowb_le (dv d).2.2.2.2.2.2.1 s (dv d).2.2.2.2.2.1 0).1
            have loop1 : ∀ (j k : Nat) (nv gx kx : Int), (dv d).2.2.2.2.2.1 - k < j → k ≤ (dv d).2.2.2.2.2.1 → kx = 8 * (d : Int) + (k : Int) → nv = ((min k (mkc (dv d) s) : Nat) : Int) → ((gx = 1 ∧ ∀ p, p < k → okm (dv d) s t p) ∨ (gx = 0 ∧ ¬ ∀ p, p < k → okm (dv d) s t p)) → AW YX7_mark none (fun o n' μ' => n' = n ∧ FrR 82 101 μ μ' ∧ ∃ v : Int, o = .inl (some (vI v)) ∧ ((¬ (0 ≤ i ∧ i < (D : Int)) ∧ MM μ' 1 D dv Fn fv sv pk fd spd lim) ∨ (((0 ≤ i ∧ i < (D : Int)) ∧ ¬ ((0 ≤ s ∧ s ≤ 1000000) ∧ 0 ≤ t ∧ t ≤ 1000000)) ∧ MM μ' 2 D dv Fn fv sv pk fd spd lim) ∨ ((((0 ≤ i ∧ i < (D : Int)) ∧ (0 ≤ s ∧ s ≤ 1000000) ∧ 0 ≤ t ∧ t ≤ 1000000) ∧ ¬ mkFit (dv i.toNat) s t) ∧ MM μ' 2 D dv Fn fv sv pk fd spd lim) ∨ (((((0 ≤ i ∧ i < (D : Int)) ∧ (0 ≤ s ∧ s ≤ 1000000) ∧ 0 ≤ t ∧ t ≤ 1000000) ∧ mkFit (dv i.toNat) s t) ∧ ¬ (dv i.toNat).2.2.2.2.2.1 < 8) ∧ MM μ' 3 D dv Fn fv sv pk fd spd lim) ∨ (((((0 ≤ i ∧ i < (D : Int)) ∧ (0 ≤ s ∧ s ≤ 1000000) ∧ 0 ≤ t ∧ t ≤ 1000000) ∧ mkFit (dv i.toNat) s t) ∧ (dv i.toNat).2.2.2.2.2.1 < 8) ∧ MM μ' 0 D (dvu dv i.toNat (dvMk (dv i.toNat) s t)) Fn fv sv pk fd spd lim ∧ v = (((dv i.toNat).2.2.2.2.2.1 + 1 : Nat) : Int)))) 77 [some (vR 82), some (vI (i)), some (vI (s)), some (vI (t)), some (vI (nv)), some (vI (gx)), some (vI (kx))] [] n μ0 0 0 := by
              intro j
              induction j with
              | zero => intro k nv gx kx hj; exact absurd hj (Nat.not_lt_zero _)
              | succ j ih =>
                intro k nv gx kx hj hk hkx hnv hg
                refine aw_iload (q := 79) dX7_mark_77 rfl rfl ?_
                refine aw_bipush (q := 81) dX7_mark_79 rfl (by decide) (by omega) ?_
                refine aw_iload_n (q := 82) dX7_mark_81 rfl rfl rfl ?_
                refine aw_imul (q := 83) dX7_mark_82 rfl (by omega) ?_
                refine aw_aload_n (q := 84) dX7_mark_83 rfl rfl rfl ?_
                refine aw_get (q := 87) dX7_mark_84 rfl fl_X7_25 h82 rfl (fun _ => ?_)
                refine aw_iload_n (q := 88) dX7_mark_87 rfl rfl rfl ?_
                refine aw_iaload (j := d) (q := 89) dX7_mark_88 rfl h88 (by omega) (by omega) (fun rx1 => ?_)
                refine aw_iadd (q := 90) dX7_mark_89 rfl (by omega) ?_
                refine aw_ic_ge (t := 176) (q := 93) dX7_mark_90 rfl (by decide) (fun bc2 => ?_) (fun bc2 => ?_)
                · skip
                  refine aw_aload_n (q := 177) dX7_mark_176 rfl rfl rfl ?_
                  refine aw_iload (q := 179) dX7_mark_177 rfl rfl ?_
                  refine aw_if_ne (t := 186) (q := 182) dX7_mark_179 rfl (by decide) (fun bc3 => ?_) (fun bc3 => ?_)
                  · skip
                    have hft : mkFit (dv d) s t := fit_of hdo (fun p hp => (hg.resolve_right (fun x => by omega)).2 p (by omega))
                    refine aw_iconst (q := 187) dX7_mark_186 rfl (by omega) ?_
                    refine aw_iconst (q := 188) dX7_mark_187 rfl (by omega) ?_
                    refine aw_callV [vI (0), vI (2)] (q := 191) dX7_mark_188 rfl ck_X7_fails lk_X7_82 rfl ⟨Nat.le_of_ble_eq_true rfl, Nat.le_of_ble_eq_true rfl⟩ rfl rfl h82 rfl (Nat.le_of_ble_eq_true rfl) (by decide) (m_X7_fails_f h82) rfl (fun _ _ _ h => (Rt_x h).elim) ?_
                    rintro v n9 μ9 - ⟨v9, hv9, hn9, hm9, rfl⟩
                    obtain rfl := hn9.symm
                    obtain rfl := hm9.symm
                    obtain rfl := Sum.inl.inj hv9
                    refine aw_if_ne (t := 218) (q := 194) dX7_mark_191 rfl (by decide) (fun bc4 => ?_) (fun bc4 => ?_)
                    · skip
                      omega
                    · skip
                      refine aw_aload_n (q := 195) dX7_mark_194 rfl rfl rfl ?_
                      refine aw_aload_n (q := 196) dX7_mark_195 rfl rfl rfl ?_
                      refine aw_get (q := 199) dX7_mark_196 rfl fl_X7_25 h82 rfl (fun _ => ?_)
                      refine aw_iload_n (q := 200) dX7_mark_199 rfl rfl rfl ?_
                      refine aw_iaload (j := d) (q := 201) dX7_mark_200 rfl h88 (by omega) (by omega) (fun rx5 => ?_)
                      refine aw_bipush (q := 203) dX7_mark_201 rfl (by decide) (by omega) ?_
                      refine aw_ic_ne (t := 210) (q := 206) dX7_mark_203 rfl (by decide) (fun bc6 => ?_) (fun bc6 => ?_)
                      · skip
                        refine aw_iconst (q := 211) dX7_mark_210 rfl (by omega) ?_
                        refine aw_iconst (q := 212) dX7_mark_211 rfl (by omega) ?_
                        refine aw_callV [vI (0), vI (3)] (q := 215) dX7_mark_212 rfl ck_X7_fails lk_X7_82 rfl ⟨Nat.le_of_ble_eq_true rfl, Nat.le_of_ble_eq_true rfl⟩ rfl rfl h82 rfl (Nat.le_of_ble_eq_true rfl) (by decide) (m_X7_fails_f h82) rfl (fun _ _ _ h => (Rt_x h).elim) ?_
                        rintro v n9 μ9 - ⟨v9, hv9, hn9, hm9, rfl⟩
                        obtain rfl := hn9.symm
                        obtain rfl := hm9.symm
                        obtain rfl := Sum.inl.inj hv9
                        refine aw_if_eq (t := 220) (q := 218) dX7_mark_215 rfl (by decide) (fun bc7 => ?_) (fun bc7 => ?_)
                        · skip
                          obtain ⟨r, hr⟩ : ∃ r : Nat, mkc (dv d) s = r := ⟨_, rfl⟩
                          have hrl : r ≤ (dv d).2.2.2.2.2.1 := by rw [← hr]; unfold mkc; omega
                          have hnr : nv = (r : Int) := by rw [hr] at hnv; omega
                          refine aw_bipush (q := 222) dX7_mark_220 rfl (by decide) (by omega) ?_
                          refine aw_iload_n (q := 223) dX7_mark_222 rfl rfl rfl ?_
                          refine aw_imul (q := 224) dX7_mark_223 rfl (by omega) ?_
                          refine aw_aload_n (q := 225) dX7_mark_224 rfl rfl rfl ?_
                          refine aw_get (q := 228) dX7_mark_225 rfl fl_X7_25 h82 rfl (fun _ => ?_)
                          refine aw_iload_n (q := 229) dX7_mark_228 rfl rfl rfl ?_
                          refine aw_iaload (j := d) (q := 230) dX7_mark_229 rfl h88 (by omega) (by omega) (fun rx8 => ?_)
                          refine aw_iadd (q := 231) dX7_mark_230 rfl (by omega) ?_
                          refine aw_istore (q := 233) dX7_mark_231 rfl (by decide) ?_
                          have loop2 : ∀ (j q : Nat) (qx : Int) (μ1 : AH), q < j → qx = (q : Int) → 8 * d + r ≤ q → q ≤ (8 * d + (dv d).2.2.2.2.2.1) → μ1 89 = oI 40 (shF a7 q (8 * d + (dv d).2.2.2.2.2.1)) → μ1 90 = oI 40 (shF b7 q (8 * d + (dv d).2.2.2.2.2.1)) → FrR 89 91 μ0 μ1 → AW YX7_mark none (fun o n' μ' => n' = n ∧ FrR 82 101 μ μ' ∧ ∃ v : Int, o = .inl (some (vI v)) ∧ ((¬ (0 ≤ i ∧ i < (D : Int)) ∧ MM μ' 1 D dv Fn fv sv pk fd spd lim) ∨ (((0 ≤ i ∧ i < (D : Int)) ∧ ¬ ((0 ≤ s ∧ s ≤ 1000000) ∧ 0 ≤ t ∧ t ≤ 1000000)) ∧ MM μ' 2 D dv Fn fv sv pk fd spd lim) ∨ ((((0 ≤ i ∧ i < (D : Int)) ∧ (0 ≤ s ∧ s ≤ 1000000) ∧ 0 ≤ t ∧ t ≤ 1000000) ∧ ¬ mkFit (dv i.toNat) s t) ∧ MM μ' 2 D dv Fn fv sv pk fd spd lim) ∨ (((((0 ≤ i ∧ i < (D : Int)) ∧ (0 ≤ s ∧ s ≤ 1000000) ∧ 0 ≤ t ∧ t ≤ 1000000) ∧ mkFit (dv i.toNat) s t) ∧ ¬ (dv i.toNat).2.2.2.2.2.1 < 8) ∧ MM μ' 3 D dv Fn fv sv pk fd spd lim) ∨ (((((0 ≤ i ∧ i < (D : Int)) ∧ (0 ≤ s ∧ s ≤ 1000000) ∧ 0 ≤ t ∧ t ≤ 1000000) ∧ mkFit (dv i.toNat) s t) ∧ (dv i.toNat).2.2.2.2.2.1 < 8) ∧ MM μ' 0 D (dvu dv i.toNat (dvMk (dv i.toNat) s t)) Fn fv sv pk fd spd lim ∧ v = (((dv i.toNat).2.2.2.2.2.1 + 1 : Nat) : Int)))) 233 [some (vR 82), some (vI (i)), some (vI (s)), some (vI (t)), some (vI (nv)), some (vI (gx)), some (vI (qx))] [] n μ1 0 0 := by
                            intro j
                            induction j with
                            | zero => intro q qx μ1 hj; exact absurd hj (Nat.not_lt_zero _)
                            | succ j ih2 =>
                              intro q qx μ1 hj hqx hq1 hq2 g89 g90 hF1
                              refine aw_iload (q := 235) dX7_mark_233 rfl rfl ?_
                              refine aw_bipush (q := 237) dX7_mark_235 rfl (by decide) (by omega) ?_
                              refine aw_iload_n (q := 238) dX7_mark_237 rfl rfl rfl ?_
                              refine aw_imul (q := 239) dX7_mark_238 rfl (by omega) ?_
                              refine aw_iload (q := 241) dX7_mark_239 rfl rfl ?_
                              refine aw_iadd (q := 242) dX7_mark_241 rfl (by omega) ?_
                              refine aw_ic_le (t := 283) (q := 245) dX7_mark_242 rfl (by decide) (fun bc1 => ?_) (fun bc1 => ?_)
                              · skip
                                obtain rfl : q = 8 * d + r := by omega
                                refine aw_aload_n (q := 284) dX7_mark_283 rfl rfl rfl ?_
                                refine aw_get (q := 287) dX7_mark_284 rfl fl_X7_28 ((hF1 82 (by omega)).trans h82) rfl (fun _ => ?_)
                                refine aw_bipush (q := 289) dX7_mark_287 rfl (by decide) (by omega) ?_
                                refine aw_iload_n (q := 290) dX7_mark_289 rfl rfl rfl ?_
                                refine aw_imul (q := 291) dX7_mark_290 rfl (by omega) ?_
                                refine aw_iload (q := 293) dX7_mark_291 rfl rfl ?_
                                refine aw_iadd (q := 294) dX7_mark_293 rfl (by omega) ?_
                                refine aw_iload_n (q := 295) dX7_mark_294 rfl rfl rfl ?_
                                refine aw_iastore (j := 8 * d + r) (q := 296) dX7_mark_295 rfl g89 (by omega) (by omega) ?_
                                refine aw_aload_n (q := 297) dX7_mark_296 rfl rfl rfl ?_
                                refine aw_get (q := 300) dX7_mark_297 rfl fl_X7_31 ((hu_n (by omega)).trans ((hF1 82 (by omega)).trans h82)) rfl (fun _ => ?_)
                                refine aw_bipush (q := 302) dX7_mark_300 rfl (by decide) (by omega) ?_
                                refine aw_iload_n (q := 303) dX7_mark_302 rfl rfl rfl ?_
                                refine aw_imul (q := 304) dX7_mark_303 rfl (by omega) ?_
                                refine aw_iload (q := 306) dX7_mark_304 rfl rfl ?_
                                refine aw_iadd (q := 307) dX7_mark_306 rfl (by omega) ?_
                                refine aw_iload_n (q := 308) dX7_mark_307 rfl rfl rfl ?_
                                refine aw_iastore (j := 8 * d + r) (q := 309) dX7_mark_308 rfl ((hu_n (by omega)).trans g90) (by omega) (by omega) ?_
                                refine aw_aload_n (q := 310) dX7_mark_309 rfl rfl rfl ?_
                                refine aw_get (q := 313) dX7_mark_310 rfl fl_X7_25 ((hu_n (by omega)).trans ((hu_n (by omega)).trans ((hF1 82 (by omega)).trans h82))) rfl (fun _ => ?_)
                                refine aw_iload_n (q := 314) dX7_mark_313 rfl rfl rfl ?_
                                refine aw_dup2 (q := 315) dX7_mark_314 rfl rfl rfl ?_
                                refine aw_iaload (j := d) (q := 316) dX7_mark_315 rfl ((hu_n (by omega)).trans ((hu_n (by omega)).trans ((hF1 88 (by omega)).trans h88))) (by omega) (by omega) (fun rx2 => ?_)
                                refine aw_iconst (q := 317) dX7_mark_316 rfl (by omega) ?_
                                refine aw_iadd (q := 318) dX7_mark_317 rfl (by omega) ?_
                                refine aw_iastore (j := d) (q := 319) dX7_mark_318 rfl ((hu_n (by omega)).trans ((hu_n (by omega)).trans ((hF1 88 (by omega)).trans h88))) (by omega) (by omega) ?_
                                refine aw_aload_n (q := 320) dX7_mark_319 rfl rfl rfl ?_
                                refine aw_get (q := 323) dX7_mark_320 rfl fl_X7_25 ((hu_n (by omega)).trans ((hu_n (by omega)).trans ((hu_n (by omega)).trans ((hF1 82 (by omega)).trans h82)))) rfl (fun _ => ?_)
                                refine aw_iload_n (q := 324) dX7_mark_323 rfl rfl rfl ?_
                                refine aw_iaload (j := d) (q := 325) dX7_mark_324 rfl hu_s (by omega) (by omega) (fun rx3 => ?_)
                                rw [fu_s]
                                exact aw_iret dX7_mark_325 rfl (by decide) (by decide) ⟨rfl, (FrR_hu (FrR_hu (FrR_hu (FrR_tr (FrR_w hF0 (by omega) (by omega) : FrR 82 101 μ μ0) (FrR_w hF1 (by omega) (by omega))) (by omega)) (by omega)) (by omega)), _, rfl, Or.inr (Or.inr (Or.inr (Or.inr (⟨⟨⟨⟨by omega, by omega⟩, by rw [hid]; exact hft⟩, by rw [hid]; omega⟩, by rw [hid]; exact ⟨at7, ls7, wy7, c7, t7, F7, G7, H7, (fu k7 d ((k7 d) + 1)), (fu (shF a7 (8 * d + r) (8 * d + (dv d).2.2.2.2.2.1)) (8 * d + r) s), (fu (shF b7 (8 * d + r) (8 * d + (dv d).2.2.2.2.2.1)) (8 * d + r) t), e7, X7, Y7, y7, o7, r7, s7, u7, v7, w7, ((hu_n (by omega)).trans ((hu_n (by omega)).trans ((hu_n (by omega)).trans ((hF1 82 (by omega)).trans h82)))), ((hu_n (by omega)).trans ((hu_n (by omega)).trans ((hu_n (by omega)).trans ((hF1 83 (by omega)).trans h83)))), ((hu_n (by omega)).trans ((hu_n (by omega)).trans ((hu_n (by omega)).trans ((hF1 84 (by omega)).trans h84)))), ((hu_n (by omega)).trans ((hu_n (by omega)).trans ((hu_n (by omega)).trans ((hF1 85 (by omega)).trans h85)))), ((hu_n (by omega)).trans ((hu_n (by omega)).trans ((hu_n (by omega)).trans ((hF1 86 (by omega)).trans h86)))), ((hu_n (by omega)).trans ((hu_n (by omega)).trans ((hu_n (by omega)).trans ((hF1 87 (by omega)).trans h87)))), hu_s, ((hu_n (by omega)).trans ((hu_n (by omega)).trans hu_s)), ((hu_n (by omega)).trans hu_s), ((hu_n (by omega)).trans ((hu_n (by omega)).trans ((hu_n (by omega)).trans ((hF1 91 (by omega)).trans h91)))), ((hu_n (by omega)).trans ((hu_n (by omega)).trans ((hu_n (by omega)).trans ((hF1 92 (by omega)).trans h92)))), ((hu_n (by omega)).trans ((hu_n (by omega)).trans ((hu_n (by omega)).trans ((hF1 93 (by omega)).trans h93)))), ((hu_n (by omega)).trans ((hu_n (by omega)).trans ((hu_n (by omega)).trans ((hF1 94 (by omega)).trans h94)))), ((hu_n (by omega)).trans ((hu_n (by omega)).trans ((hu_n (by omega)).trans ((hF1 95 (by omega)).trans h95)))), ((hu_n (by omega)).trans ((hu_n (by omega)).trans ((hu_n (by omega)).trans ((hF1 96 (by omega)).trans h96)))), ((hu_n (by omega)).trans ((hu_n (by omega)).trans ((hu_n (by omega)).trans ((hF1 97 (by omega)).trans h97)))), ((hu_n (by omega)).trans ((hu_n (by omega)).trans ((hu_n (by omega)).trans ((hF1 98 (by omega)).trans h98)))), ((hu_n (by omega)).trans ((hu_n (by omega)).trans ((hu_n (by omega)).trans ((hF1 99 (by omega)).trans h99)))), ((hu_n (by omega)).trans ((hu_n (by omega)).trans ((hu_n (by omega)).trans ((hF1 100 (by omega)).trans h100)))), (AG1_u ag1 (fun e q => ⟨rfl, rfl, fu_n q⟩) ⟨hcd.1, hcd.2.1, fu_s.trans (by rw [hcd.2.2]; exact (Int.natCast_succ _).symm)⟩), (AG2_u ag2 (fun e he => (hdv e he).1.1) (fun e p _ _ _ => ⟨rfl, rfl, rfl⟩) (fun p hp => ag2 d p hd5 hp)), (AG3_u ag3 (fun e he => (hdv e he).1.2.2.2.1) (fun e p q he hp => ⟨(congrFun (shF_e a7 s) _).trans (ins_out (a := 8 * d + r) (c := (8 * d + (dv d).2.2.2.2.2.1)) (by omega) (by omega)), (congrFun (shF_e b7 t) _).trans (ins_out (a := 8 * d + r) (c := (8 * d + (dv d).2.2.2.2.2.1)) (by omega) (by omega))⟩) (fun p hp => by have hp9 : p < (dv d).2.2.2.2.2.1 + 1 := hp; unfold dvMk; rw [hr]; exact ⟨(congrFun (shF_e a7 s) _).trans (ins_in (fun q hq => (ag3 d q hd5 hq).1) hrl hp9), (congrFun (shF_e b7 t) _).trans (ins_in (fun q hq => (ag3 d q hd5 hq).2) hrl hp9)⟩)), ag4, ag5, ag6, ag7, ag8⟩, by rw [hid]; omega⟩))))⟩
                              · skip
                                refine aw_aload_n (q := 246) dX7_mark_245 rfl rfl rfl ?_
                                refine aw_get (q := 249) dX7_mark_246 rfl fl_X7_28 ((hF1 82 (by omega)).trans h82) rfl (fun _ => ?_)
                                refine aw_iload (q := 251) dX7_mark_249 rfl rfl ?_
                                refine aw_aload_n (q := 252) dX7_mark_251 rfl rfl rfl ?_
                                refine aw_get (q := 255) dX7_mark_252 rfl fl_X7_28 ((hF1 82 (by omega)).trans h82) rfl (fun _ => ?_)
                                refine aw_iload (q := 257) dX7_mark_255 rfl rfl ?_
                                refine aw_iconst (q := 258) dX7_mark_257 rfl (by omega) ?_
                                refine aw_isub (q := 259) dX7_mark_258 rfl (by omega) ?_
                                refine aw_iaload (j := q - 1) (q := 260) dX7_mark_259 rfl g89 (by omega) (by omega) (fun rx4 => ?_)
                                refine aw_iastore (j := q) (q := 261) dX7_mark_260 rfl g89 (by omega) (by omega) ?_
                                refine aw_aload_n (q := 262) dX7_mark_261 rfl rfl rfl ?_
                                refine aw_get (q := 265) dX7_mark_262 rfl fl_X7_31 ((hu_n (by omega)).trans ((hF1 82 (by omega)).trans h82)) rfl (fun _ => ?_)
                                refine aw_iload (q := 267) dX7_mark_265 rfl rfl ?_
                                refine aw_aload_n (q := 268) dX7_mark_267 rfl rfl rfl ?_
                                refine aw_get (q := 271) dX7_mark_268 rfl fl_X7_31 ((hu_n (by omega)).trans ((hF1 82 (by omega)).trans h82)) rfl (fun _ => ?_)
                                refine aw_iload (q := 273) dX7_mark_271 rfl rfl ?_
                                refine aw_iconst (q := 274) dX7_mark_273 rfl (by omega) ?_
                                refine aw_isub (q := 275) dX7_mark_274 rfl (by omega) ?_
                                refine aw_iaload (j := q - 1) (q := 276) dX7_mark_275 rfl ((hu_n (by omega)).trans g90) (by omega) (by omega) (fun rx5 => ?_)
                                refine aw_iastore (j := q) (q := 277) dX7_mark_276 rfl ((hu_n (by omega)).trans g90) (by omega) (by omega) ?_
                                refine aw_iinc (q := 280) dX7_mark_277 rfl rfl (by decide) (by omega) ?_
                                refine aw_goto (q := 233) dX7_mark_280 (by decide) ?_
                                exact ih2 (q - 1) _ _ (by omega) (by omega) (by omega) (by omega) (((hu_n (by omega)).trans hu_s).trans (congrArg (oI 40) (shF_s a7 (by omega) (by omega)))) (hu_s.trans (congrArg (oI 40) (shF_s b7 (by omega) (by omega)))) (FrR_hu (FrR_hu hF1 (by omega)) (by omega))
                          exact loop2 ((8 * d + (dv d).2.2.2.2.2.1) + 1) (8 * d + (dv d).2.2.2.2.2.1) _ μ0 (by omega) (by omega) (by omega) (Nat.le_refl _) (by rw [shF_0]; exact h89) (by rw [shF_0]; exact h90) FrR_rf
                        · skip
                          omega
                      · skip
                        refine aw_iconst (q := 207) dX7_mark_206 rfl (by omega) ?_
                        refine aw_goto (q := 211) dX7_mark_207 (by decide) ?_
                        refine aw_iconst (q := 212) dX7_mark_211 rfl (by omega) ?_
                        refine aw_callV [vI (1), vI (3)] (q := 215) dX7_mark_212 rfl ck_X7_fails lk_X7_82 rfl ⟨Nat.le_of_ble_eq_true rfl, Nat.le_of_ble_eq_true rfl⟩ rfl rfl h82 rfl (Nat.le_of_ble_eq_true rfl) (by decide) (m_X7_fails_t h82 (by omega)) rfl (fun _ _ _ h => (Rt_x h).elim) ?_
                        rintro v n9 μ9 - ⟨v9, hv9, hn9, hm9, rfl⟩
                        obtain rfl := hn9.symm
                        obtain rfl := hm9.symm
                        obtain rfl := Sum.inl.inj hv9
                        refine aw_if_eq (t := 220) (q := 218) dX7_mark_215 rfl (by decide) (fun bc9 => ?_) (fun bc9 => ?_)
                        · skip
                          omega
                        · skip
                          refine aw_iconst (q := 219) dX7_mark_218 rfl (by omega) ?_
                          exact aw_iret dX7_mark_219 rfl (by decide) (by decide) ⟨rfl, (FrR_hu (FrR_w hF0 (by omega) (by omega) : FrR 82 101 μ μ0) (by omega)), 0, rfl, Or.inr (Or.inr (Or.inr (Or.inl ⟨⟨⟨⟨by omega, by omega⟩, by rw [hid]; exact hft⟩, by rw [hid]; omega⟩, MM_o hm0⟩)))⟩
                  · skip
                    have hnf : ¬ mkFit (dv d) s t := fun h => (hg.resolve_left (fun x => by omega)).2 (fun p hp => okm_of hdo h p (by omega))
                    refine aw_iconst (q := 183) dX7_mark_182 rfl (by omega) ?_
                    refine aw_goto (q := 187) dX7_mark_183 (by decide) ?_
                    refine aw_iconst (q := 188) dX7_mark_187 rfl (by omega) ?_
                    refine aw_callV [vI (1), vI (2)] (q := 191) dX7_mark_188 rfl ck_X7_fails lk_X7_82 rfl ⟨Nat.le_of_ble_eq_true rfl, Nat.le_of_ble_eq_true rfl⟩ rfl rfl h82 rfl (Nat.le_of_ble_eq_true rfl) (by decide) (m_X7_fails_t h82 (by omega)) rfl (fun _ _ _ h => (Rt_x h).elim) ?_
                    rintro v n9 μ9 - ⟨v9, hv9, hn9, hm9, rfl⟩
                    obtain rfl := hn9.symm
                    obtain rfl := hm9.symm
                    obtain rfl := Sum.inl.inj hv9
                    refine aw_if_ne (t := 218) (q := 194) dX7_mark_191 rfl (by decide) (fun bc10 => ?_) (fun bc10 => ?_)
                    · skip
                      refine aw_iconst (q := 219) dX7_mark_218 rfl (by omega) ?_
                      exact aw_iret dX7_mark_219 rfl (by decide) (by decide) ⟨rfl, (FrR_hu (FrR_w hF0 (by omega) (by omega) : FrR 82 101 μ μ0) (by omega)), 0, rfl, Or.inr (Or.inr (Or.inl ⟨⟨⟨by omega, by omega⟩, by rw [hid]; exact hnf⟩, MM_o hm0⟩))⟩
                    · skip
                      omega
                · skip
                  have hkc : k < (dv d).2.2.2.2.2.1 := by omega
                  have hag := ag3 d k hd5 hkc
                  have hlt : k < mkc (dv d) s → (dv d).2.2.2.2.2.2.1 k < s := fun h => lowb_lt (dv d).2.2.2.2.2.2.1 s (dv d).2.2.2.2.2.1 0 k (Nat.zero_le _) h
                  have hge : mkc (dv d) s ≤ k → s ≤ (dv d).2.2.2.2.2.2.1 k := fun h => lowb_hi (fun p hp => (hdo.2.2.2.2.2 p hp).1) h hkc
                  refine aw_iload (q := 95) dX7_mark_93 rfl rfl ?_
                  refine aw_if_eq (t := 146) (q := 98) dX7_mark_95 rfl (by decide) (fun bc11 => ?_) (fun bc11 => ?_)
                  · skip
                    refine aw_iconst (q := 147) dX7_mark_146 rfl (by omega) ?_
                    refine aw_istore (q := 149) dX7_mark_147 rfl (by decide) ?_
                    refine aw_iload (q := 151) dX7_mark_149 rfl rfl ?_
                    refine aw_aload_n (q := 152) dX7_mark_151 rfl rfl rfl ?_
                    refine aw_get (q := 155) dX7_mark_152 rfl fl_X7_28 h82 rfl (fun _ => ?_)
                    refine aw_iload (q := 157) dX7_mark_155 rfl rfl ?_
                    refine aw_iaload (j := 8 * d + k) (q := 158) dX7_mark_157 rfl h89 (by omega) (by omega) (fun rx12 => ?_)
                    rw [hag.1]
                    refine aw_iload_n (q := 159) dX7_mark_158 rfl rfl rfl ?_
                    refine aw_ic_ge (t := 166) (q := 162) dX7_mark_159 rfl (by decide) (fun bc13 => ?_) (fun bc13 => ?_)
                    · skip
                      refine aw_iconst (q := 167) dX7_mark_166 rfl (by omega) ?_
                      refine aw_iadd (q := 168) dX7_mark_167 rfl (by omega) ?_
                      refine aw_istore (q := 170) dX7_mark_168 rfl (by decide) ?_
                      refine aw_iinc (q := 173) dX7_mark_170 rfl rfl (by decide) (by omega) ?_
                      refine aw_goto (q := 77) dX7_mark_173 (by decide) ?_
                      exact ih (k + 1) _ _ _ (by omega) (by omega) (by omega) (by omega) (Or.inr ⟨rfl, fun hall => by first | (have h9 := hall k (by omega); unfold okm at h9; omega) | exact (hg.resolve_left (fun x => by omega)).2 (fun p hp => hall p (by omega))⟩)
                    · skip
                      refine aw_iconst (q := 163) dX7_mark_162 rfl (by omega) ?_
                      refine aw_goto (q := 167) dX7_mark_163 (by decide) ?_
                      refine aw_iadd (q := 168) dX7_mark_167 rfl (by omega) ?_
                      refine aw_istore (q := 170) dX7_mark_168 rfl (by decide) ?_
                      refine aw_iinc (q := 173) dX7_mark_170 rfl rfl (by decide) (by omega) ?_
                      refine aw_goto (q := 77) dX7_mark_173 (by decide) ?_
                      exact ih (k + 1) _ _ _ (by omega) (by omega) (by omega) (by omega) (Or.inr ⟨rfl, fun hall => by first | (have h9 := hall k (by omega); unfold okm at h9; omega) | exact (hg.resolve_left (fun x => by omega)).2 (fun p hp => hall p (by omega))⟩)
                  · skip
                    refine aw_aload_n (q := 99) dX7_mark_98 rfl rfl rfl ?_
                    refine aw_get (q := 102) dX7_mark_99 rfl fl_X7_28 h82 rfl (fun _ => ?_)
                    refine aw_iload (q := 104) dX7_mark_102 rfl rfl ?_
                    refine aw_iaload (j := 8 * d + k) (q := 105) dX7_mark_104 rfl h89 (by omega) (by omega) (fun rx14 => ?_)
                    rw [hag.1]
                    refine aw_iload_n (q := 106) dX7_mark_105 rfl rfl rfl ?_
                    refine aw_ic_ge (t := 120) (q := 109) dX7_mark_106 rfl (by decide) (fun bc15 => ?_) (fun bc15 => ?_)
                    · skip
                      refine aw_aload_n (q := 121) dX7_mark_120 rfl rfl rfl ?_
                      refine aw_get (q := 124) dX7_mark_121 rfl fl_X7_28 h82 rfl (fun _ => ?_)
                      refine aw_iload (q := 126) dX7_mark_124 rfl rfl ?_
                      refine aw_iaload (j := 8 * d + k) (q := 127) dX7_mark_126 rfl h89 (by omega) (by omega) (fun rx16 => ?_)
                      rw [hag.1]
                      refine aw_iload_n (q := 128) dX7_mark_127 rfl rfl rfl ?_
                      refine aw_ic_le (t := 146) (q := 131) dX7_mark_128 rfl (by decide) (fun bc17 => ?_) (fun bc17 => ?_)
                      · skip
                        refine aw_iconst (q := 147) dX7_mark_146 rfl (by omega) ?_
                        refine aw_istore (q := 149) dX7_mark_147 rfl (by decide) ?_
                        refine aw_iload (q := 151) dX7_mark_149 rfl rfl ?_
                        refine aw_aload_n (q := 152) dX7_mark_151 rfl rfl rfl ?_
                        refine aw_get (q := 155) dX7_mark_152 rfl fl_X7_28 h82 rfl (fun _ => ?_)
                        refine aw_iload (q := 157) dX7_mark_155 rfl rfl ?_
                        refine aw_iaload (j := 8 * d + k) (q := 158) dX7_mark_157 rfl h89 (by omega) (by omega) (fun rx18 => ?_)
                        rw [hag.1]
                        refine aw_iload_n (q := 159) dX7_mark_158 rfl rfl rfl ?_
                        refine aw_ic_ge (t := 166) (q := 162) dX7_mark_159 rfl (by decide) (fun bc19 => ?_) (fun bc19 => ?_)
                        · skip
                          refine aw_iconst (q := 167) dX7_mark_166 rfl (by omega) ?_
                          refine aw_iadd (q := 168) dX7_mark_167 rfl (by omega) ?_
                          refine aw_istore (q := 170) dX7_mark_168 rfl (by decide) ?_
                          refine aw_iinc (q := 173) dX7_mark_170 rfl rfl (by decide) (by omega) ?_
                          refine aw_goto (q := 77) dX7_mark_173 (by decide) ?_
                          exact ih (k + 1) _ _ _ (by omega) (by omega) (by omega) (by omega) (Or.inr ⟨rfl, fun hall => by first | (have h9 := hall k (by omega); unfold okm at h9; omega) | exact (hg.resolve_left (fun x => by omega)).2 (fun p hp => hall p (by omega))⟩)
                        · skip
                          refine aw_iconst (q := 163) dX7_mark_162 rfl (by omega) ?_
                          refine aw_goto (q := 167) dX7_mark_163 (by decide) ?_
                          refine aw_iadd (q := 168) dX7_mark_167 rfl (by omega) ?_
                          refine aw_istore (q := 170) dX7_mark_168 rfl (by decide) ?_
                          refine aw_iinc (q := 173) dX7_mark_170 rfl rfl (by decide) (by omega) ?_
                          refine aw_goto (q := 77) dX7_mark_173 (by decide) ?_
                          exact ih (k + 1) _ _ _ (by omega) (by omega) (by omega) (by omega) (Or.inr ⟨rfl, fun hall => by first | (have h9 := hall k (by omega); unfold okm at h9; omega) | exact (hg.resolve_left (fun x => by omega)).2 (fun p hp => hall p (by omega))⟩)
                      · skip
                        refine aw_aload_n (q := 132) dX7_mark_131 rfl rfl rfl ?_
                        refine aw_get (q := 135) dX7_mark_132 rfl fl_X7_31 h82 rfl (fun _ => ?_)
                        refine aw_iload (q := 137) dX7_mark_135 rfl rfl ?_
                        refine aw_iaload (j := 8 * d + k) (q := 138) dX7_mark_137 rfl h90 (by omega) (by omega) (fun rx20 => ?_)
                        rw [hag.2]
                        refine aw_iload_n (q := 139) dX7_mark_138 rfl rfl rfl ?_
                        refine aw_ic_le (t := 146) (q := 142) dX7_mark_139 rfl (by decide) (fun bc21 => ?_) (fun bc21 => ?_)
                        · skip
                          refine aw_iconst (q := 147) dX7_mark_146 rfl (by omega) ?_
                          refine aw_istore (q := 149) dX7_mark_147 rfl (by decide) ?_
                          refine aw_iload (q := 151) dX7_mark_149 rfl rfl ?_
                          refine aw_aload_n (q := 152) dX7_mark_151 rfl rfl rfl ?_
                          refine aw_get (q := 155) dX7_mark_152 rfl fl_X7_28 h82 rfl (fun _ => ?_)
                          refine aw_iload (q := 157) dX7_mark_155 rfl rfl ?_
                          refine aw_iaload (j := 8 * d + k) (q := 158) dX7_mark_157 rfl h89 (by omega) (by omega) (fun rx22 => ?_)
                          rw [hag.1]
                          refine aw_iload_n (q := 159) dX7_mark_158 rfl rfl rfl ?_
                          refine aw_ic_ge (t := 166) (q := 162) dX7_mark_159 rfl (by decide) (fun bc23 => ?_) (fun bc23 => ?_)
                          · skip
                            refine aw_iconst (q := 167) dX7_mark_166 rfl (by omega) ?_
                            refine aw_iadd (q := 168) dX7_mark_167 rfl (by omega) ?_
                            refine aw_istore (q := 170) dX7_mark_168 rfl (by decide) ?_
                            refine aw_iinc (q := 173) dX7_mark_170 rfl rfl (by decide) (by omega) ?_
                            refine aw_goto (q := 77) dX7_mark_173 (by decide) ?_
                            exact ih (k + 1) _ _ _ (by omega) (by omega) (by omega) (by omega) (Or.inr ⟨rfl, fun hall => by first | (have h9 := hall k (by omega); unfold okm at h9; omega) | exact (hg.resolve_left (fun x => by omega)).2 (fun p hp => hall p (by omega))⟩)
                          · skip
                            refine aw_iconst (q := 163) dX7_mark_162 rfl (by omega) ?_
                            refine aw_goto (q := 167) dX7_mark_163 (by decide) ?_
                            refine aw_iadd (q := 168) dX7_mark_167 rfl (by omega) ?_
                            refine aw_istore (q := 170) dX7_mark_168 rfl (by decide) ?_
                            refine aw_iinc (q := 173) dX7_mark_170 rfl rfl (by decide) (by omega) ?_
                            refine aw_goto (q := 77) dX7_mark_173 (by decide) ?_
                            exact ih (k + 1) _ _ _ (by omega) (by omega) (by omega) (by omega) (Or.inr ⟨rfl, fun hall => by first | (have h9 := hall k (by omega); unfold okm at h9; omega) | exact (hg.resolve_left (fun x => by omega)).2 (fun p hp => hall p (by omega))⟩)
                        · skip
                          refine aw_iconst (q := 143) dX7_mark_142 rfl (by omega) ?_
                          refine aw_goto (q := 147) dX7_mark_143 (by decide) ?_
                          refine aw_istore (q := 149) dX7_mark_147 rfl (by decide) ?_
                          refine aw_iload (q := 151) dX7_mark_149 rfl rfl ?_
                          refine aw_aload_n (q := 152) dX7_mark_151 rfl rfl rfl ?_
                          refine aw_get (q := 155) dX7_mark_152 rfl fl_X7_28 h82 rfl (fun _ => ?_)
                          refine aw_iload (q := 157) dX7_mark_155 rfl rfl ?_
                          refine aw_iaload (j := 8 * d + k) (q := 158) dX7_mark_157 rfl h89 (by omega) (by omega) (fun rx24 => ?_)
                          rw [hag.1]
                          refine aw_iload_n (q := 159) dX7_mark_158 rfl rfl rfl ?_
                          refine aw_ic_ge (t := 166) (q := 162) dX7_mark_159 rfl (by decide) (fun bc25 => ?_) (fun bc25 => ?_)
                          · skip
                            refine aw_iconst (q := 167) dX7_mark_166 rfl (by omega) ?_
                            refine aw_iadd (q := 168) dX7_mark_167 rfl (by omega) ?_
                            refine aw_istore (q := 170) dX7_mark_168 rfl (by decide) ?_
                            refine aw_iinc (q := 173) dX7_mark_170 rfl rfl (by decide) (by omega) ?_
                            refine aw_goto (q := 77) dX7_mark_173 (by decide) ?_
                            exact ih (k + 1) _ _ _ (by omega) (by omega) (by omega) (by omega) (Or.inl ⟨rfl, fun p hp => by rcases Nat.lt_succ_iff_lt_or_eq.mp hp with h | h; exact (hg.resolve_right (fun x => by omega)).2 p h; (rw [h]; unfold okm; omega)⟩)
                          · skip
                            refine aw_iconst (q := 163) dX7_mark_162 rfl (by omega) ?_
                            refine aw_goto (q := 167) dX7_mark_163 (by decide) ?_
                            refine aw_iadd (q := 168) dX7_mark_167 rfl (by omega) ?_
                            refine aw_istore (q := 170) dX7_mark_168 rfl (by decide) ?_
                            refine aw_iinc (q := 173) dX7_mark_170 rfl rfl (by decide) (by omega) ?_
                            refine aw_goto (q := 77) dX7_mark_173 (by decide) ?_
                            exact ih (k + 1) _ _ _ (by omega) (by omega) (by omega) (by omega) (Or.inl ⟨rfl, fun p hp => by rcases Nat.lt_succ_iff_lt_or_eq.mp hp with h | h; exact (hg.resolve_right (fun x => by omega)).2 p h; (rw [h]; unfold okm; omega)⟩)
                    · skip
                      refine aw_aload_n (q := 110) dX7_mark_109 rfl rfl rfl ?_
                      refine aw_get (q := 113) dX7_mark_110 rfl fl_X7_31 h82 rfl (fun _ => ?_)
                      refine aw_iload (q := 115) dX7_mark_113 rfl rfl ?_
                      refine aw_iaload (j := 8 * d + k) (q := 116) dX7_mark_115 rfl h90 (by omega) (by omega) (fun rx26 => ?_)
                      rw [hag.2]
                      refine aw_iload_n (q := 117) dX7_mark_116 rfl rfl rfl ?_
                      refine aw_ic_lt (t := 142) (q := 120) dX7_mark_117 rfl (by decide) (fun bc27 => ?_) (fun bc27 => ?_)
                      · skip
                        refine aw_iconst (q := 143) dX7_mark_142 rfl (by omega) ?_
                        refine aw_goto (q := 147) dX7_mark_143 (by decide) ?_
                        refine aw_istore (q := 149) dX7_mark_147 rfl (by decide) ?_
                        refine aw_iload (q := 151) dX7_mark_149 rfl rfl ?_
                        refine aw_aload_n (q := 152) dX7_mark_151 rfl rfl rfl ?_
                        refine aw_get (q := 155) dX7_mark_152 rfl fl_X7_28 h82 rfl (fun _ => ?_)
                        refine aw_iload (q := 157) dX7_mark_155 rfl rfl ?_
                        refine aw_iaload (j := 8 * d + k) (q := 158) dX7_mark_157 rfl h89 (by omega) (by omega) (fun rx28 => ?_)
                        rw [hag.1]
                        refine aw_iload_n (q := 159) dX7_mark_158 rfl rfl rfl ?_
                        refine aw_ic_ge (t := 166) (q := 162) dX7_mark_159 rfl (by decide) (fun bc29 => ?_) (fun bc29 => ?_)
                        · skip
                          refine aw_iconst (q := 167) dX7_mark_166 rfl (by omega) ?_
                          refine aw_iadd (q := 168) dX7_mark_167 rfl (by omega) ?_
                          refine aw_istore (q := 170) dX7_mark_168 rfl (by decide) ?_
                          refine aw_iinc (q := 173) dX7_mark_170 rfl rfl (by decide) (by omega) ?_
                          refine aw_goto (q := 77) dX7_mark_173 (by decide) ?_
                          exact ih (k + 1) _ _ _ (by omega) (by omega) (by omega) (by omega) (Or.inl ⟨rfl, fun p hp => by rcases Nat.lt_succ_iff_lt_or_eq.mp hp with h | h; exact (hg.resolve_right (fun x => by omega)).2 p h; (rw [h]; unfold okm; omega)⟩)
                        · skip
                          refine aw_iconst (q := 163) dX7_mark_162 rfl (by omega) ?_
                          refine aw_goto (q := 167) dX7_mark_163 (by decide) ?_
                          refine aw_iadd (q := 168) dX7_mark_167 rfl (by omega) ?_
                          refine aw_istore (q := 170) dX7_mark_168 rfl (by decide) ?_
                          refine aw_iinc (q := 173) dX7_mark_170 rfl rfl (by decide) (by omega) ?_
                          refine aw_goto (q := 77) dX7_mark_173 (by decide) ?_
                          exact ih (k + 1) _ _ _ (by omega) (by omega) (by omega) (by omega) (Or.inl ⟨rfl, fun p hp => by rcases Nat.lt_succ_iff_lt_or_eq.mp hp with h | h; exact (hg.resolve_right (fun x => by omega)).2 p h; (rw [h]; unfold okm; omega)⟩)
                      · skip
                        refine aw_aload_n (q := 121) dX7_mark_120 rfl rfl rfl ?_
                        refine aw_get (q := 124) dX7_mark_121 rfl fl_X7_28 h82 rfl (fun _ => ?_)
                        refine aw_iload (q := 126) dX7_mark_124 rfl rfl ?_
                        refine aw_iaload (j := 8 * d + k) (q := 127) dX7_mark_126 rfl h89 (by omega) (by omega) (fun rx30 => ?_)
                        rw [hag.1]
                        refine aw_iload_n (q := 128) dX7_mark_127 rfl rfl rfl ?_
                        refine aw_ic_le (t := 146) (q := 131) dX7_mark_128 rfl (by decide) (fun bc31 => ?_) (fun bc31 => ?_)
                        · skip
                          refine aw_iconst (q := 147) dX7_mark_146 rfl (by omega) ?_
                          refine aw_istore (q := 149) dX7_mark_147 rfl (by decide) ?_
                          refine aw_iload (q := 151) dX7_mark_149 rfl rfl ?_
                          refine aw_aload_n (q := 152) dX7_mark_151 rfl rfl rfl ?_
                          refine aw_get (q := 155) dX7_mark_152 rfl fl_X7_28 h82 rfl (fun _ => ?_)
                          refine aw_iload (q := 157) dX7_mark_155 rfl rfl ?_
                          refine aw_iaload (j := 8 * d + k) (q := 158) dX7_mark_157 rfl h89 (by omega) (by omega) (fun rx32 => ?_)
                          rw [hag.1]
                          refine aw_iload_n (q := 159) dX7_mark_158 rfl rfl rfl ?_
                          refine aw_ic_ge (t := 166) (q := 162) dX7_mark_159 rfl (by decide) (fun bc33 => ?_) (fun bc33 => ?_)
                          · skip
                            refine aw_iconst (q := 167) dX7_mark_166 rfl (by omega) ?_
                            refine aw_iadd (q := 168) dX7_mark_167 rfl (by omega) ?_
                            refine aw_istore (q := 170) dX7_mark_168 rfl (by decide) ?_
                            refine aw_iinc (q := 173) dX7_mark_170 rfl rfl (by decide) (by omega) ?_
                            refine aw_goto (q := 77) dX7_mark_173 (by decide) ?_
                            exact ih (k + 1) _ _ _ (by omega) (by omega) (by omega) (by omega) (Or.inr ⟨rfl, fun hall => by first | (have h9 := hall k (by omega); unfold okm at h9; omega) | exact (hg.resolve_left (fun x => by omega)).2 (fun p hp => hall p (by omega))⟩)
                          · skip
                            refine aw_iconst (q := 163) dX7_mark_162 rfl (by omega) ?_
                            refine aw_goto (q := 167) dX7_mark_163 (by decide) ?_
                            refine aw_iadd (q := 168) dX7_mark_167 rfl (by omega) ?_
                            refine aw_istore (q := 170) dX7_mark_168 rfl (by decide) ?_
                            refine aw_iinc (q := 173) dX7_mark_170 rfl rfl (by decide) (by omega) ?_
                            refine aw_goto (q := 77) dX7_mark_173 (by decide) ?_
                            exact ih (k + 1) _ _ _ (by omega) (by omega) (by omega) (by omega) (Or.inr ⟨rfl, fun hall => by first | (have h9 := hall k (by omega); unfold okm at h9; omega) | exact (hg.resolve_left (fun x => by omega)).2 (fun p hp => hall p (by omega))⟩)
                        · skip
                          refine aw_aload_n (q := 132) dX7_mark_131 rfl rfl rfl ?_
                          refine aw_get (q := 135) dX7_mark_132 rfl fl_X7_31 h82 rfl (fun _ => ?_)
                          refine aw_iload (q := 137) dX7_mark_135 rfl rfl ?_
                          refine aw_iaload (j := 8 * d + k) (q := 138) dX7_mark_137 rfl h90 (by omega) (by omega) (fun rx34 => ?_)
                          rw [hag.2]
                          refine aw_iload_n (q := 139) dX7_mark_138 rfl rfl rfl ?_
                          refine aw_ic_le (t := 146) (q := 142) dX7_mark_139 rfl (by decide) (fun bc35 => ?_) (fun bc35 => ?_)
                          · skip
                            refine aw_iconst (q := 147) dX7_mark_146 rfl (by omega) ?_
                            refine aw_istore (q := 149) dX7_mark_147 rfl (by decide) ?_
                            refine aw_iload (q := 151) dX7_mark_149 rfl rfl ?_
                            refine aw_aload_n (q := 152) dX7_mark_151 rfl rfl rfl ?_
                            refine aw_get (q := 155) dX7_mark_152 rfl fl_X7_28 h82 rfl (fun _ => ?_)
                            refine aw_iload (q := 157) dX7_mark_155 rfl rfl ?_
                            refine aw_iaload (j := 8 * d + k) (q := 158) dX7_mark_157 rfl h89 (by omega) (by omega) (fun rx36 => ?_)
                            rw [hag.1]
                            refine aw_iload_n (q := 159) dX7_mark_158 rfl rfl rfl ?_
                            refine aw_ic_ge (t := 166) (q := 162) dX7_mark_159 rfl (by decide) (fun bc37 => ?_) (fun bc37 => ?_)
                            · skip
                              refine aw_iconst (q := 167) dX7_mark_166 rfl (by omega) ?_
                              refine aw_iadd (q := 168) dX7_mark_167 rfl (by omega) ?_
                              refine aw_istore (q := 170) dX7_mark_168 rfl (by decide) ?_
                              refine aw_iinc (q := 173) dX7_mark_170 rfl rfl (by decide) (by omega) ?_
                              refine aw_goto (q := 77) dX7_mark_173 (by decide) ?_
                              exact ih (k + 1) _ _ _ (by omega) (by omega) (by omega) (by omega) (Or.inr ⟨rfl, fun hall => by first | (have h9 := hall k (by omega); unfold okm at h9; omega) | exact (hg.resolve_left (fun x => by omega)).2 (fun p hp => hall p (by omega))⟩)
                            · skip
                              refine aw_iconst (q := 163) dX7_mark_162 rfl (by omega) ?_
                              refine aw_goto (q := 167) dX7_mark_163 (by decide) ?_
                              refine aw_iadd (q := 168) dX7_mark_167 rfl (by omega) ?_
                              refine aw_istore (q := 170) dX7_mark_168 rfl (by decide) ?_
                              refine aw_iinc (q := 173) dX7_mark_170 rfl rfl (by decide) (by omega) ?_
                              refine aw_goto (q := 77) dX7_mark_173 (by decide) ?_
                              exact ih (k + 1) _ _ _ (by omega) (by omega) (by omega) (by omega) (Or.inr ⟨rfl, fun hall => by first | (have h9 := hall k (by omega); unfold okm at h9; omega) | exact (hg.resolve_left (fun x => by omega)).2 (fun p hp => hall p (by omega))⟩)
                          · skip
                            refine aw_iconst (q := 143) dX7_mark_142 rfl (by omega) ?_
                            refine aw_goto (q := 147) dX7_mark_143 (by decide) ?_
                            refine aw_istore (q := 149) dX7_mark_147 rfl (by decide) ?_
                            refine aw_iload (q := 151) dX7_mark_149 rfl rfl ?_
                            refine aw_aload_n (q := 152) dX7_mark_151 rfl rfl rfl ?_
                            refine aw_get (q := 155) dX7_mark_152 rfl fl_X7_28 h82 rfl (fun _ => ?_)
                            refine aw_iload (q := 157) dX7_mark_155 rfl rfl ?_
                            refine aw_iaload (j := 8 * d + k) (q := 158) dX7_mark_157 rfl h89 (by omega) (by omega) (fun rx38 => ?_)
                            rw [hag.1]
                            refine aw_iload_n (q := 159) dX7_mark_158 rfl rfl rfl ?_
                            refine aw_ic_ge (t := 166) (q := 162) dX7_mark_159 rfl (by decide) (fun bc39 => ?_) (fun bc39 => ?_)
                            · skip
                              refine aw_iconst (q := 167) dX7_mark_166 rfl (by omega) ?_
                              refine aw_iadd (q := 168) dX7_mark_167 rfl (by omega) ?_
                              refine aw_istore (q := 170) dX7_mark_168 rfl (by decide) ?_
                              refine aw_iinc (q := 173) dX7_mark_170 rfl rfl (by decide) (by omega) ?_
                              refine aw_goto (q := 77) dX7_mark_173 (by decide) ?_
                              exact ih (k + 1) _ _ _ (by omega) (by omega) (by omega) (by omega) (Or.inl ⟨rfl, fun p hp => by rcases Nat.lt_succ_iff_lt_or_eq.mp hp with h | h; exact (hg.resolve_right (fun x => by omega)).2 p h; (rw [h]; unfold okm; omega)⟩)
                            · skip
                              refine aw_iconst (q := 163) dX7_mark_162 rfl (by omega) ?_
                              refine aw_goto (q := 167) dX7_mark_163 (by decide) ?_
                              refine aw_iadd (q := 168) dX7_mark_167 rfl (by omega) ?_
                              refine aw_istore (q := 170) dX7_mark_168 rfl (by decide) ?_
                              refine aw_iinc (q := 173) dX7_mark_170 rfl rfl (by decide) (by omega) ?_
                              refine aw_goto (q := 77) dX7_mark_173 (by decide) ?_
                              exact ih (k + 1) _ _ _ (by omega) (by omega) (by omega) (by omega) (Or.inl ⟨rfl, fun p hp => by rcases Nat.lt_succ_iff_lt_or_eq.mp hp with h | h; exact (hg.resolve_right (fun x => by omega)).2 p h; (rw [h]; unfold okm; omega)⟩)
            exact loop1 ((dv d).2.2.2.2.2.1 + 1) 0 _ _ _ (by omega) (by omega) (by omega) (by omega) (Or.inl ⟨rfl, fun p hp => absurd hp (Nat.not_lt_zero _)⟩)
          · skip
            omega
        · skip
          replace bc5 := bz_0.mp bc5
          refine aw_iconst (q := 52) dX7_mark_51 rfl (by omega) ?_
          refine aw_goto (q := 56) dX7_mark_52 (by decide) ?_
          refine aw_iconst (q := 57) dX7_mark_56 rfl (by omega) ?_
          refine aw_callV [vI (1), vI (2)] (q := 60) dX7_mark_57 rfl ck_X7_fails lk_X7_82 rfl ⟨Nat.le_of_ble_eq_true rfl, Nat.le_of_ble_eq_true rfl⟩ rfl rfl h82 rfl (Nat.le_of_ble_eq_true rfl) (by decide) (m_X7_fails_t h82 (by omega)) rfl (fun _ _ _ h => (Rt_x h).elim) ?_
          rintro v n9 μ9 - ⟨v9, hv9, hn9, hm9, rfl⟩
          obtain rfl := hn9.symm
          obtain rfl := hm9.symm
          obtain rfl := Sum.inl.inj hv9
          refine aw_if_eq (t := 65) (q := 63) dX7_mark_60 rfl (by decide) (fun bc7 => ?_) (fun bc7 => ?_)
          · skip
            omega
          · skip
            refine aw_iconst (q := 64) dX7_mark_63 rfl (by omega) ?_
            exact aw_iret dX7_mark_64 rfl (by decide) (by decide) ⟨rfl, (FrR_hu (FrR_w hF0 (by omega) (by omega) : FrR 82 101 μ μ0) (by omega)), 0, rfl, Or.inr (Or.inl ⟨⟨by omega, by omega⟩, MM_o hm0⟩)⟩
  · skip
    replace bc1 := bz_0.mp bc1
    refine aw_iconst (q := 15) dX7_mark_14 rfl (by omega) ?_
    refine aw_goto (q := 19) dX7_mark_15 (by decide) ?_
    refine aw_iconst (q := 20) dX7_mark_19 rfl (by omega) ?_
    refine aw_callV [vI (1), vI (1)] (q := 23) dX7_mark_20 rfl ck_X7_fails lk_X7_82 rfl ⟨Nat.le_of_ble_eq_true rfl, Nat.le_of_ble_eq_true rfl⟩ rfl rfl h82 rfl (Nat.le_of_ble_eq_true rfl) (by decide) (m_X7_fails_t h82 (by omega)) rfl (fun _ _ _ h => (Rt_x h).elim) ?_
    rintro v n9 μ9 - ⟨v9, hv9, hn9, hm9, rfl⟩
    obtain rfl := hn9.symm
    obtain rfl := hm9.symm
    obtain rfl := Sum.inl.inj hv9
    refine aw_if_ne (t := 63) (q := 26) dX7_mark_23 rfl (by decide) (fun bc8 => ?_) (fun bc8 => ?_)
    · skip
      refine aw_iconst (q := 64) dX7_mark_63 rfl (by omega) ?_
      exact aw_iret dX7_mark_64 rfl (by decide) (by decide) ⟨rfl, (FrR_hu (FrR_w hF0 (by omega) (by omega) : FrR 82 101 μ μ0) (by omega)), 0, rfl, Or.inl ⟨by omega, MM_o hm0⟩⟩
    · skip
      omega
