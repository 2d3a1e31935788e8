/-! ===== TrackRowsModel: feed, sight, corner, place, mark (written by m_model3.py) ===== -/
theorem AG1_u {dv : Nat → DVt} {c7 t7 k7 c' t' k' : Nat → Int} {d : Nat} {v : DVt} (h : AG1 dv c7 t7 k7) (h1 : ∀ e, e ≠ d → c' e = c7 e ∧ t' e = t7 e ∧ k' e = k7 e) (h2 : c' d = (v.1 : Int) ∧ t' d = v.2.2.2.2.1 ∧ k' d = (v.2.2.2.2.2.1 : Int)) : AG1 (dvu dv d v) c' t' k' := fun e he => by
  by_cases q : e = d
  · subst q; rw [dvu_s]; exact h2
  · rw [dvu_n q, (h1 e q).1, (h1 e q).2.1, (h1 e q).2.2]; exact h e he
theorem AG2_u {dv : Nat → DVt} {F7 G7 H7 F' G' H' : Nat → Int} {d : Nat} {v : DVt} (h : AG2 dv F7 G7 H7) (hc : ∀ e, e < 5 → (dv e).1 ≤ 60) (h1 : ∀ e p, e ≠ d → e < 5 → p < 60 → F' (60 * e + p) = F7 (60 * e + p) ∧ G' (60 * e + p) = G7 (60 * e + p) ∧ H' (60 * e + p) = H7 (60 * e + p)) (h2 : ∀ p, p < v.1 → F' (60 * d + p) = v.2.1 p ∧ G' (60 * d + p) = v.2.2.1 p ∧ H' (60 * d + p) = v.2.2.2.1 p) : AG2 (dvu dv d v) F' G' H' := fun e p he hp => by
  by_cases q : e = d
  · subst q; rw [dvu_s] at hp ⊢; exact h2 p hp
  · rw [dvu_n q] at hp ⊢
    have h3 := h1 e p q he (by have := hc e he; omega)
    rw [h3.1, h3.2.1, h3.2.2]; exact h e p he hp
theorem AG3_u {dv : Nat → DVt} {a7 b7 a' b' : Nat → Int} {d : Nat} {v : DVt} (h : AG3 dv a7 b7) (hc : ∀ e, e < 5 → (dv e).2.2.2.2.2.1 ≤ 8) (h1 : ∀ e p, e ≠ d → e < 5 → p < 8 → a' (8 * e + p) = a7 (8 * e + p) ∧ b' (8 * e + p) = b7 (8 * e + p)) (h2 : ∀ p, p < v.2.2.2.2.2.1 → a' (8 * d + p) = v.2.2.2.2.2.2.1 p ∧ b' (8 * d + p) = v.2.2.2.2.2.2.2 p) : AG3 (dvu dv d v) a' b' := fun e p he hp => by
  by_cases q : e = d
  · subst q; rw [dvu_s] at hp ⊢; exact h2 p hp
  · rw [dvu_n q] at hp ⊢
    have h3 := h1 e p q he (by have := hc e he; omega)
    rw [h3.1, h3.2]; exact h e p he hp
/-- a row inside a long one -/
theorem ins_in {F f : Nat → Int} {b r c : Nat} {s : Int} (h : ∀ p, p < c → F (b + p) = f p) (hr : r ≤ c) {p : Nat} (hp : p < c + 1) : insF F (b + r) (b + c) s (b + p) = insF f r c s p := by
  unfold insF
  by_cases e : p = r
  · rw [if_pos (by omega), if_pos e]
  · rw [if_neg (by omega), if_neg e]
    by_cases q : r < p
    · rw [if_pos (by omega), if_pos (by omega), show b + p - 1 = b + (p - 1) by omega]; exact h (p - 1) (by omega)
    · rw [if_neg (by omega), if_neg (by omega)]; exact h p (by omega)
theorem ins_out {F : Nat → Int} {a c p : Nat} {s : Int} (h : p < a ∨ c < p) (hac : a ≤ c) : insF F a c s p = F p := by
  unfold insF
  rw [if_neg (by omega), if_neg (by omega)]
set_option maxHeartbeats 4000000 in
set_option maxRecDepth 100000 in
theorem m_X7_feed {n : Nat} {μ : AH} {th B : Int} {D : Nat} {dv : Nat → DVt} {Fn : Nat} {fv : Nat → FVt} {sv : SVt} {pk fd : Nat × (Nat → Int)} {spd lim : Int} {x : Int} (hm : MM μ th D dv Fn fv sv pk fd spd lim) (hO : COk B D dv Fn fv sv pk fd spd lim) : AMet YX7_feed [vR 82, vI (x)] n μ (fun o n' μ' => n' = n ∧ FrR 82 101 μ μ' ∧ ∃ v : Int, o = .inl (some (vI v)) ∧ ((((0 ≤ x ∧ x ≤ 255) ∧ fd.1 < 600) ∧ MM μ' 0 D dv Fn fv sv pk (fd.1 + 1, fu fd.2 fd.1 x) spd lim ∧ v = ((fd.1 + 1 : Nat) : Int)) ∨ (¬ (0 ≤ x ∧ x ≤ 255) ∧ MM μ' 1 D dv Fn fv sv pk fd spd lim) ∨ (((0 ≤ x ∧ x ≤ 255) ∧ ¬ fd.1 < 600) ∧ MM μ' 2 D dv Fn fv sv pk fd spd lim))) := by
  refine AMet.of (by decide) rfl (Nat.le_of_ble_eq_true rfl) ?_
  obtain ⟨at7, ls7, wy7, c7, t7, F7, G7, H7, k7, a7, b7, e7, X7, Y7, y7, o7, r7, s7, u7, v7, w7, h82, h83, h84, h85, h86, h87, h88, h89, h90, h91, h92, h93, h94, h95, h96, h97, h98, h99, h100, ag1, ag2, ag3, ag4, ag5, ag6, ag7, ag8⟩ := id hm
  obtain ⟨hN, hdv, hFn, hfv, hsn, hsb, hpk, hfd, hfb, hs1, hs2, hl1, hl2⟩ := id hO
  refine aw_aload_n (q := 1) dX7_feed_0 rfl rfl rfl ?_
  refine aw_iconst (q := 2) dX7_feed_1 rfl (by omega) ?_
  refine aw_put (q := 5) dX7_feed_2 rfl fp_X7_72 h82 (Nat.le_of_ble_eq_true rfl) trivial ?_
  refine mm_z (at' := at7) (ls' := ls7) (wy' := wy7) hm (fun μ0 hm0 hF0 => ?_)
  obtain ⟨at7, ls7, wy7, c7, t7, F7, G7, H7, k7, a7, b7, e7, X7, Y7, y7, o7, r7, s7, u7, v7, w7, h82, h83, h84, h85, h86, h87, h88, h89, h90, h91, h92, h93, h94, h95, h96, h97, h98, h99, h100, ag1, ag2, ag3, ag4, ag5, ag6, ag7, ag8⟩ := id hm0
  refine aw_aload_n (q := 6) dX7_feed_5 rfl rfl rfl ?_
  refine aw_iload_n (q := 7) dX7_feed_6 rfl rfl rfl ?_
  refine aw_i2l (q := 8) dX7_feed_7 rfl ?_
  refine aw_lconst (a := 0) (q := 9) dX7_feed_8 rfl rfl (by omega) ?_
  refine aw_ldc2 (a := 255) (q := 12) dX7_feed_9 rfl k_X7_166 (by omega) ?_
  refine aw_callS [vL (x), vL (0), vL (255)] (q := 15) dX7_feed_12 rfl ck_X7_within lk_X7_90 rfl ⟨Nat.le_of_ble_eq_true rfl, Nat.le_of_ble_eq_true rfl⟩ rfl rfl (Nat.le_of_ble_eq_true rfl) (by decide) (m_X7_within) rfl (fun _ _ _ h => (Rt_x h).elim) ?_
  rintro v n9 μ9 - ⟨v9, hv9, hn9, hm9, rfl⟩
  obtain rfl := hn9.symm
  obtain rfl := hm9.symm
  obtain rfl := Sum.inl.inj hv9
  refine aw_if_ne (t := 22) (q := 18) dX7_feed_15 rfl (by decide) (fun bc1 => ?_) (fun bc1 => ?_)
  · skip
    replace bc1 := bz_n0.mp bc1
    refine aw_iconst (q := 23) dX7_feed_22 rfl (by omega) ?_
    refine aw_iconst (q := 24) dX7_feed_23 rfl (by omega) ?_
    refine aw_callV [vI (0), vI (1)] (q := 27) dX7_feed_24 rfl ck_X7_fails lk_X7_82 rfl ⟨Nat.le_of_ble_eq_true rfl, Nat.le_of_ble_eq_true rfl⟩ rfl rfl h82 rfl (Nat.le_of_ble_eq_true rfl) (by decide) (m_X7_fails_f h82) rfl (fun _ _ _ h => (Rt_x h).elim) ?_
    rintro v n9 μ9 - ⟨v9, hv9, hn9, hm9, rfl⟩
    obtain rfl := hn9.symm
    obtain rfl := hm9.symm
    obtain rfl := Sum.inl.inj hv9
    refine aw_if_ne (t := 53) (q := 30) dX7_feed_27 rfl (by decide) (fun bc2 => ?_) (fun bc2 => ?_)
    · skip
      omega
    · skip
      refine aw_aload_n (q := 31) dX7_feed_30 rfl rfl rfl ?_
      refine aw_aload_n (q := 32) dX7_feed_31 rfl rfl rfl ?_
      refine aw_get (q := 35) dX7_feed_32 rfl fl_X7_168 h82 rfl (fun _ => ?_)
      refine aw_sipush (q := 38) dX7_feed_35 rfl (by decide) (by omega) ?_
      refine aw_ic_ne (t := 45) (q := 41) dX7_feed_38 rfl (by decide) (fun bc3 => ?_) (fun bc3 => ?_)
      · skip
        refine aw_iconst (q := 46) dX7_feed_45 rfl (by omega) ?_
        refine aw_iconst (q := 47) dX7_feed_46 rfl (by omega) ?_
        refine aw_callV [vI (0), vI (2)] (q := 50) dX7_feed_47 rfl ck_X7_fails lk_X7_82 rfl ⟨Nat.le_of_ble_eq_true rfl, Nat.le_of_ble_eq_true rfl⟩ rfl rfl h82 rfl (Nat.le_of_ble_eq_true rfl) (by decide) (m_X7_fails_f h82) rfl (fun _ _ _ h => (Rt_x h).elim) ?_
        rintro v n9 μ9 - ⟨v9, hv9, hn9, hm9, rfl⟩
        obtain rfl := hn9.symm
        obtain rfl := hm9.symm
        obtain rfl := Sum.inl.inj hv9
        refine aw_if_eq (t := 55) (q := 53) dX7_feed_50 rfl (by decide) (fun bc4 => ?_) (fun bc4 => ?_)
        · skip
          refine aw_aload_n (q := 56) dX7_feed_55 rfl rfl rfl ?_
          refine aw_get (q := 59) dX7_feed_56 rfl fl_X7_53 h82 rfl (fun _ => ?_)
          refine aw_aload_n (q := 60) dX7_feed_59 rfl rfl rfl ?_
          refine aw_get (q := 63) dX7_feed_60 rfl fl_X7_168 h82 rfl (fun _ => ?_)
          refine aw_iload_n (q := 64) dX7_feed_63 rfl rfl rfl ?_
          refine aw_iastore (j := fd.1) (q := 65) dX7_feed_64 rfl h95 (by omega) (by omega) ?_
          refine aw_aload_n (q := 66) dX7_feed_65 rfl rfl rfl ?_
          refine aw_dup (q := 67) dX7_feed_66 rfl rfl ?_
          refine aw_get (q := 70) dX7_feed_67 rfl fl_X7_168 ((hu_n (by omega)).trans h82) rfl (fun _ => ?_)
          refine aw_iconst (q := 71) dX7_feed_70 rfl (by omega) ?_
          refine aw_iadd (q := 72) dX7_feed_71 rfl (by omega) ?_
          refine aw_put (q := 75) dX7_feed_72 rfl fp_X7_168 ((hu_n (by omega)).trans h82) (Nat.le_of_ble_eq_true rfl) trivial ?_
          refine aw_aload_n (q := 76) dX7_feed_75 rfl rfl rfl ?_
          refine aw_get (q := 79) dX7_feed_76 rfl fl_X7_168 hu_s rfl (fun _ => ?_)
          exact aw_iret dX7_feed_79 rfl (by decide) (by decide) ⟨rfl, (FrR_hu (FrR_hu (FrR_w hF0 (by omega) (by omega) : FrR 82 101 μ μ0) (by omega)) (by omega)), _, rfl, Or.inl ⟨by omega, ⟨at7, ls7, wy7, c7, t7, F7, G7, H7, k7, a7, b7, e7, X7, Y7, y7, (fu o7 fd.1 x), r7, s7, u7, v7, w7, hu_s, ((hu_n (by omega)).trans ((hu_n (by omega)).trans h83)), ((hu_n (by omega)).trans ((hu_n (by omega)).trans h84)), ((hu_n (by omega)).trans ((hu_n (by omega)).trans h85)), ((hu_n (by omega)).trans ((hu_n (by omega)).trans h86)), ((hu_n (by omega)).trans ((hu_n (by omega)).trans h87)), ((hu_n (by omega)).trans ((hu_n (by omega)).trans h88)), ((hu_n (by omega)).trans ((hu_n (by omega)).trans h89)), ((hu_n (by omega)).trans ((hu_n (by omega)).trans h90)), ((hu_n (by omega)).trans ((hu_n (by omega)).trans h91)), ((hu_n (by omega)).trans ((hu_n (by omega)).trans h92)), ((hu_n (by omega)).trans ((hu_n (by omega)).trans h93)), ((hu_n (by omega)).trans ((hu_n (by omega)).trans h94)), ((hu_n (by omega)).trans hu_s), ((hu_n (by omega)).trans ((hu_n (by omega)).trans h96)), ((hu_n (by omega)).trans ((hu_n (by omega)).trans h97)), ((hu_n (by omega)).trans ((hu_n (by omega)).trans h98)), ((hu_n (by omega)).trans ((hu_n (by omega)).trans h99)), ((hu_n (by omega)).trans ((hu_n (by omega)).trans h100)), ag1, ag2, ag3, ag4, ag5, ag6, (fun i hi9 => by have hi8 : i < fd.1 + 1 := hi9; by_cases e : i = fd.1; (subst e; exact fu_s.trans fu_s.symm); exact ((fu_n e).trans (ag7 i (by omega))).trans (fu_n e).symm), ag8⟩, by omega⟩⟩
        · skip
          omega
      · skip
        refine aw_iconst (q := 42) dX7_feed_41 rfl (by omega) ?_
        refine aw_goto (q := 46) dX7_feed_42 (by decide) ?_
        refine aw_iconst (q := 47) dX7_feed_46 rfl (by omega) ?_
        refine aw_callV [vI (1), vI (2)] (q := 50) dX7_feed_47 rfl ck_X7_fails lk_X7_82 rfl ⟨Nat.le_of_ble_eq_true rfl, Nat.le_of_ble_eq_true rfl⟩ rfl rfl h82 rfl (Nat.le_of_ble_eq_true rfl) (by decide) (m_X7_fails_t h82 (by omega)) rfl (fun _ _ _ h => (Rt_x h).elim) ?_
        rintro v n9 μ9 - ⟨v9, hv9, hn9, hm9, rfl⟩
        obtain rfl := hn9.symm
        obtain rfl := hm9.symm
        obtain rfl := Sum.inl.inj hv9
        refine aw_if_eq (t := 55) (q := 53) dX7_feed_50 rfl (by decide) (fun bc5 => ?_) (fun bc5 => ?_)
        · skip
          omega
        · skip
          refine aw_iconst (q := 54) dX7_feed_53 rfl (by omega) ?_
          exact aw_iret dX7_feed_54 rfl (by decide) (by decide) ⟨rfl, (FrR_hu (FrR_w hF0 (by omega) (by omega) : FrR 82 101 μ μ0) (by omega)), 0, rfl, Or.inr (Or.inr (⟨by omega, MM_o hm0⟩))⟩
  · skip
    replace bc1 := bz_0.mp bc1
    refine aw_iconst (q := 19) dX7_feed_18 rfl (by omega) ?_
    refine aw_goto (q := 23) dX7_feed_19 (by decide) ?_
    refine aw_iconst (q := 24) dX7_feed_23 rfl (by omega) ?_
    refine aw_callV [vI (1), vI (1)] (q := 27) dX7_feed_24 rfl ck_X7_fails lk_X7_82 rfl ⟨Nat.le_of_ble_eq_true rfl, Nat.le_of_ble_eq_true rfl⟩ rfl rfl h82 rfl (Nat.le_of_ble_eq_true rfl) (by decide) (m_X7_fails_t h82 (by omega)) rfl (fun _ _ _ h => (Rt_x h).elim) ?_
    rintro v n9 μ9 - ⟨v9, hv9, hn9, hm9, rfl⟩
    obtain rfl := hn9.symm
    obtain rfl := hm9.symm
    obtain rfl := Sum.inl.inj hv9
    refine aw_if_ne (t := 53) (q := 30) dX7_feed_27 rfl (by decide) (fun bc6 => ?_) (fun bc6 => ?_)
    · skip
      refine aw_iconst (q := 54) dX7_feed_53 rfl (by omega) ?_
      exact aw_iret dX7_feed_54 rfl (by decide) (by decide) ⟨rfl, (FrR_hu (FrR_w hF0 (by omega) (by omega) : FrR 82 101 μ μ0) (by omega)), 0, rfl, Or.inr (Or.inl ⟨by omega, MM_o hm0⟩)⟩
    · skip
      omega
set_option maxHeartbeats 4000000 in
set_option maxRecDepth 100000 in
theorem m_X7_sight {n : Nat} {μ : AH} {th B : Int} {D : Nat} {dv : Nat → DVt} {Fn : Nat} {fv : Nat → FVt} {sv : SVt} {pk fd : Nat × (Nat → Int)} {spd lim : Int} {s x y : Int} (hm : MM μ th D dv Fn fv sv pk fd spd lim) (hO : COk B D dv Fn fv sv pk fd spd lim) : AMet YX7_sight [vR 82, vI (s), vI (x), vI (y)] n μ (fun o n' μ' => n' = n ∧ FrR 82 101 μ μ' ∧ ∃ v : Int, o = .inl (some (vI v)) ∧ ((((0 ≤ s ∧ s ≤ 1000000 ∧ -100000 ≤ x ∧ x ≤ 100000 ∧ -100000 ≤ y ∧ y ≤ 100000) ∧ sv.1 < 5) ∧ MM μ' 0 D dv Fn fv (sv.1 + 1, insF sv.2.1 sv.1 sv.1 s, insF sv.2.2.1 sv.1 sv.1 x, insF sv.2.2.2 sv.1 sv.1 y) pk fd spd lim ∧ v = (sv.1 : Int)) ∨ (¬ (0 ≤ s ∧ s ≤ 1000000 ∧ -100000 ≤ x ∧ x ≤ 100000 ∧ -100000 ≤ y ∧ y ≤ 100000) ∧ MM μ' 1 D dv Fn fv sv pk fd spd lim) ∨ (((0 ≤ s ∧ s ≤ 1000000 ∧ -100000 ≤ x ∧ x ≤ 100000 ∧ -100000 ≤ y ∧ y ≤ 100000) ∧ ¬ sv.1 < 5) ∧ MM μ' 2 D dv Fn fv sv pk fd spd lim))) := by
  refine AMet.of (by decide) rfl (Nat.le_of_ble_eq_true rfl) ?_
  obtain ⟨at7, ls7, wy7, c7, t7, F7, G7, H7, k7, a7, b7, e7, X7, Y7, y7, o7, r7, s7, u7, v7, w7, h82, h83, h84, h85, h86, h87, h88, h89, h90, h91, h92, h93, h94, h95, h96, h97, h98, h99, h100, ag1, ag2, ag3, ag4, ag5, ag6, ag7, ag8⟩ := id hm
  obtain ⟨hN, hdv, hFn, hfv, hsn, hsb, hpk, hfd, hfb, hs1, hs2, hl1, hl2⟩ := id hO
  refine aw_aload_n (q := 1) dX7_sight_0 rfl rfl rfl ?_
  refine aw_iconst (q := 2) dX7_sight_1 rfl (by omega) ?_
  refine aw_put (q := 5) dX7_sight_2 rfl fp_X7_72 h82 (Nat.le_of_ble_eq_true rfl) trivial ?_
  refine mm_z (at' := at7) (ls' := ls7) (wy' := wy7) hm (fun μ0 hm0 hF0 => ?_)
  obtain ⟨at7, ls7, wy7, c7, t7, F7, G7, H7, k7, a7, b7, e7, X7, Y7, y7, o7, r7, s7, u7, v7, w7, h82, h83, h84, h85, h86, h87, h88, h89, h90, h91, h92, h93, h94, h95, h96, h97, h98, h99, h100, ag1, ag2, ag3, ag4, ag5, ag6, ag7, ag8⟩ := id hm0
  refine aw_aload_n (q := 6) dX7_sight_5 rfl rfl rfl ?_
  refine aw_iload_n (q := 7) dX7_sight_6 rfl rfl rfl ?_
  refine aw_i2l (q := 8) dX7_sight_7 rfl ?_
  refine aw_lconst (a := 0) (q := 9) dX7_sight_8 rfl rfl (by omega) ?_
  refine aw_ldc2 (a := 1000000) (q := 12) dX7_sight_9 rfl k_X7_94 (by omega) ?_
  refine aw_callS [vL (s), vL (0), vL (1000000)] (q := 15) dX7_sight_12 rfl ck_X7_within lk_X7_90 rfl ⟨Nat.le_of_ble_eq_true rfl, Nat.le_of_ble_eq_true rfl⟩ rfl rfl (Nat.le_of_ble_eq_true rfl) (by decide) (m_X7_within) rfl (fun _ _ _ h => (Rt_x h).elim) ?_
  rintro v n9 μ9 - ⟨v9, hv9, hn9, hm9, rfl⟩
  obtain rfl := hn9.symm
  obtain rfl := hm9.symm
  obtain rfl := Sum.inl.inj hv9
  refine aw_if_eq (t := 26) (q := 18) dX7_sight_15 rfl (by decide) (fun bc1 => ?_) (fun bc1 => ?_)
  · skip
    replace bc1 := bz_0.mp bc1
    refine aw_iconst (q := 27) dX7_sight_26 rfl (by omega) ?_
    refine aw_goto (q := 31) dX7_sight_27 (by decide) ?_
    refine aw_iconst (q := 32) dX7_sight_31 rfl (by omega) ?_
    refine aw_callV [vI (1), vI (1)] (q := 35) dX7_sight_32 rfl ck_X7_fails lk_X7_82 rfl ⟨Nat.le_of_ble_eq_true rfl, Nat.le_of_ble_eq_true rfl⟩ rfl rfl h82 rfl (Nat.le_of_ble_eq_true rfl) (by decide) (m_X7_fails_t h82 (by omega)) rfl (fun _ _ _ h => (Rt_x h).elim) ?_
    rintro v n9 μ9 - ⟨v9, hv9, hn9, hm9, rfl⟩
    obtain rfl := hn9.symm
    obtain rfl := hm9.symm
    obtain rfl := Sum.inl.inj hv9
    refine aw_if_ne (t := 59) (q := 38) dX7_sight_35 rfl (by decide) (fun bc2 => ?_) (fun bc2 => ?_)
    · skip
      refine aw_iconst (q := 60) dX7_sight_59 rfl (by omega) ?_
      exact aw_iret dX7_sight_60 rfl (by decide) (by decide) ⟨rfl, (FrR_hu (FrR_w hF0 (by omega) (by omega) : FrR 82 101 μ μ0) (by omega)), 0, rfl, Or.inr (Or.inl ⟨by omega, MM_o hm0⟩)⟩
    · skip
      omega
  · skip
    replace bc1 := bz_n0.mp bc1
    refine aw_iload_n (q := 19) dX7_sight_18 rfl rfl rfl ?_
    refine aw_iload_n (q := 20) dX7_sight_19 rfl rfl rfl ?_
    refine aw_callS [vI (x), vI (y)] (q := 23) dX7_sight_20 rfl ck_X7_isPoint lk_X7_96 rfl ⟨Nat.le_of_ble_eq_true rfl, Nat.le_of_ble_eq_true rfl⟩ rfl rfl (Nat.le_of_ble_eq_true rfl) (by decide) (m_X7_isPoint) rfl (fun _ _ _ h => (Rt_x h).elim) ?_
    rintro v n9 μ9 - ⟨v9, hv9, hn9, hm9, rfl⟩
    obtain rfl := hn9.symm
    obtain rfl := hm9.symm
    obtain rfl := Sum.inl.inj hv9
    refine aw_if_ne (t := 30) (q := 26) dX7_sight_23 rfl (by decide) (fun bc3 => ?_) (fun bc3 => ?_)
    · skip
      replace bc3 := bz_n0.mp bc3
      refine aw_iconst (q := 31) dX7_sight_30 rfl (by omega) ?_
      refine aw_iconst (q := 32) dX7_sight_31 rfl (by omega) ?_
      refine aw_callV [vI (0), vI (1)] (q := 35) dX7_sight_32 rfl ck_X7_fails lk_X7_82 rfl ⟨Nat.le_of_ble_eq_true rfl, Nat.le_of_ble_eq_true rfl⟩ rfl rfl h82 rfl (Nat.le_of_ble_eq_true rfl) (by decide) (m_X7_fails_f h82) rfl (fun _ _ _ h => (Rt_x h).elim) ?_
      rintro v n9 μ9 - ⟨v9, hv9, hn9, hm9, rfl⟩
      obtain rfl := hn9.symm
      obtain rfl := hm9.symm
      obtain rfl := Sum.inl.inj hv9
      refine aw_if_ne (t := 59) (q := 38) dX7_sight_35 rfl (by decide) (fun bc4 => ?_) (fun bc4 => ?_)
      · skip
        omega
      · skip
        refine aw_aload_n (q := 39) dX7_sight_38 rfl rfl rfl ?_
        refine aw_aload_n (q := 40) dX7_sight_39 rfl rfl rfl ?_
        refine aw_get (q := 43) dX7_sight_40 rfl fl_X7_189 h82 rfl (fun _ => ?_)
        refine aw_iconst (q := 44) dX7_sight_43 rfl (by omega) ?_
        refine aw_ic_ne (t := 51) (q := 47) dX7_sight_44 rfl (by decide) (fun bc5 => ?_) (fun bc5 => ?_)
        · skip
          refine aw_iconst (q := 52) dX7_sight_51 rfl (by omega) ?_
          refine aw_iconst (q := 53) dX7_sight_52 rfl (by omega) ?_
          refine aw_callV [vI (0), vI (2)] (q := 56) dX7_sight_53 rfl ck_X7_fails lk_X7_82 rfl ⟨Nat.le_of_ble_eq_true rfl, Nat.le_of_ble_eq_true rfl⟩ rfl rfl h82 rfl (Nat.le_of_ble_eq_true rfl) (by decide) (m_X7_fails_f h82) rfl (fun _ _ _ h => (Rt_x h).elim) ?_
          rintro v n9 μ9 - ⟨v9, hv9, hn9, hm9, rfl⟩
          obtain rfl := hn9.symm
          obtain rfl := hm9.symm
          obtain rfl := Sum.inl.inj hv9
          refine aw_if_eq (t := 61) (q := 59) dX7_sight_56 rfl (by decide) (fun bc6 => ?_) (fun bc6 => ?_)
          · skip
            refine aw_aload_n (q := 62) dX7_sight_61 rfl rfl rfl ?_
            refine aw_get (q := 65) dX7_sight_62 rfl fl_X7_59 h82 rfl (fun _ => ?_)
            refine aw_aload_n (q := 66) dX7_sight_65 rfl rfl rfl ?_
            refine aw_get (q := 69) dX7_sight_66 rfl fl_X7_189 h82 rfl (fun _ => ?_)
            refine aw_iload_n (q := 70) dX7_sight_69 rfl rfl rfl ?_
            refine aw_iastore (j := sv.1) (q := 71) dX7_sight_70 rfl h97 (by omega) (by omega) ?_
            refine aw_aload_n (q := 72) dX7_sight_71 rfl rfl rfl ?_
            refine aw_get (q := 75) dX7_sight_72 rfl fl_X7_62 ((hu_n (by omega)).trans h82) rfl (fun _ => ?_)
            refine aw_aload_n (q := 76) dX7_sight_75 rfl rfl rfl ?_
            refine aw_get (q := 79) dX7_sight_76 rfl fl_X7_189 ((hu_n (by omega)).trans h82) rfl (fun _ => ?_)
            refine aw_iload_n (q := 80) dX7_sight_79 rfl rfl rfl ?_
            refine aw_iastore (j := sv.1) (q := 81) dX7_sight_80 rfl ((hu_n (by omega)).trans h98) (by omega) (by omega) ?_
            refine aw_aload_n (q := 82) dX7_sight_81 rfl rfl rfl ?_
            refine aw_get (q := 85) dX7_sight_82 rfl fl_X7_65 ((hu_n (by omega)).trans ((hu_n (by omega)).trans h82)) rfl (fun _ => ?_)
            refine aw_aload_n (q := 86) dX7_sight_85 rfl rfl rfl ?_
            refine aw_get (q := 89) dX7_sight_86 rfl fl_X7_189 ((hu_n (by omega)).trans ((hu_n (by omega)).trans h82)) rfl (fun _ => ?_)
            refine aw_iload_n (q := 90) dX7_sight_89 rfl rfl rfl ?_
            refine aw_iastore (j := sv.1) (q := 91) dX7_sight_90 rfl ((hu_n (by omega)).trans ((hu_n (by omega)).trans h99)) (by omega) (by omega) ?_
            refine aw_aload_n (q := 92) dX7_sight_91 rfl rfl rfl ?_
            refine aw_dup (q := 93) dX7_sight_92 rfl rfl ?_
            refine aw_get (q := 96) dX7_sight_93 rfl fl_X7_189 ((hu_n (by omega)).trans ((hu_n (by omega)).trans ((hu_n (by omega)).trans h82))) rfl (fun _ => ?_)
            refine aw_iconst (q := 97) dX7_sight_96 rfl (by omega) ?_
            refine aw_iadd (q := 98) dX7_sight_97 rfl (by omega) ?_
            refine aw_put (q := 101) dX7_sight_98 rfl fp_X7_189 ((hu_n (by omega)).trans ((hu_n (by omega)).trans ((hu_n (by omega)).trans h82))) (Nat.le_of_ble_eq_true rfl) trivial ?_
            refine aw_aload_n (q := 102) dX7_sight_101 rfl rfl rfl ?_
            refine aw_get (q := 105) dX7_sight_102 rfl fl_X7_189 hu_s rfl (fun _ => ?_)
            refine aw_iconst (q := 106) dX7_sight_105 rfl (by omega) ?_
            refine aw_isub (q := 107) dX7_sight_106 rfl (by omega) ?_
            exact aw_iret dX7_sight_107 rfl (by decide) (by decide) ⟨rfl, (FrR_hu (FrR_hu (FrR_hu (FrR_hu (FrR_w hF0 (by omega) (by omega) : FrR 82 101 μ μ0) (by omega)) (by omega)) (by omega)) (by omega)), _, rfl, Or.inl ⟨by omega, ⟨at7, ls7, wy7, c7, t7, F7, G7, H7, k7, a7, b7, e7, X7, Y7, y7, o7, r7, (fu s7 sv.1 s), (fu u7 sv.1 x), (fu v7 sv.1 y), w7, hu_s, ((hu_n (by omega)).trans ((hu_n (by omega)).trans ((hu_n (by omega)).trans ((hu_n (by omega)).trans h83)))), ((hu_n (by omega)).trans ((hu_n (by omega)).trans ((hu_n (by omega)).trans ((hu_n (by omega)).trans h84)))), ((hu_n (by omega)).trans ((hu_n (by omega)).trans ((hu_n (by omega)).trans ((hu_n (by omega)).trans h85)))), ((hu_n (by omega)).trans ((hu_n (by omega)).trans ((hu_n (by omega)).trans ((hu_n (by omega)).trans h86)))), ((hu_n (by omega)).trans ((hu_n (by omega)).trans ((hu_n (by omega)).trans ((hu_n (by omega)).trans h87)))), ((hu_n (by omega)).trans ((hu_n (by omega)).trans ((hu_n (by omega)).trans ((hu_n (by omega)).trans h88)))), ((hu_n (by omega)).trans ((hu_n (by omega)).trans ((hu_n (by omega)).trans ((hu_n (by omega)).trans h89)))), ((hu_n (by omega)).trans ((hu_n (by omega)).trans ((hu_n (by omega)).trans ((hu_n (by omega)).trans h90)))), ((hu_n (by omega)).trans ((hu_n (by omega)).trans ((hu_n (by omega)).trans ((hu_n (by omega)).trans h91)))), ((hu_n (by omega)).trans ((hu_n (by omega)).trans ((hu_n (by omega)).trans ((hu_n (by omega)).trans h92)))), ((hu_n (by omega)).trans ((hu_n (by omega)).trans ((hu_n (by omega)).trans ((hu_n (by omega)).trans h93)))), ((hu_n (by omega)).trans ((hu_n (by omega)).trans ((hu_n (by omega)).trans ((hu_n (by omega)).trans h94)))), ((hu_n (by omega)).trans ((hu_n (by omega)).trans ((hu_n (by omega)).trans ((hu_n (by omega)).trans h95)))), ((hu_n (by omega)).trans ((hu_n (by omega)).trans ((hu_n (by omega)).trans ((hu_n (by omega)).trans h96)))), ((hu_n (by omega)).trans ((hu_n (by omega)).trans ((hu_n (by omega)).trans hu_s))), ((hu_n (by omega)).trans ((hu_n (by omega)).trans hu_s)), ((hu_n (by omega)).trans hu_s), ((hu_n (by omega)).trans ((hu_n (by omega)).trans ((hu_n (by omega)).trans ((hu_n (by omega)).trans h100)))), ag1, ag2, ag3, ag4, ag5, ag6, ag7, (fun p hp9 => by have hp8 : p < sv.1 + 1 := hp9; by_cases e : p = sv.1; (subst e; exact ⟨fu_s.trans insF_a.symm, fu_s.trans insF_a.symm, fu_s.trans insF_a.symm⟩); have h8 := ag8 p (by omega); exact ⟨((fu_n e).trans h8.1).trans (insF_o (by omega)).symm, ((fu_n e).trans h8.2.1).trans (insF_o (by omega)).symm, ((fu_n e).trans h8.2.2).trans (insF_o (by omega)).symm⟩)⟩, by omega⟩⟩
          · skip
            omega
        · skip
          refine aw_iconst (q := 48) dX7_sight_47 rfl (by omega) ?_
          refine aw_goto (q := 52) dX7_sight_48 (by decide) ?_
          refine aw_iconst (q := 53) dX7_sight_52 rfl (by omega) ?_
          refine aw_callV [vI (1), vI (2)] (q := 56) dX7_sight_53 rfl ck_X7_fails lk_X7_82 rfl ⟨Nat.le_of_ble_eq_true rfl, Nat.le_of_ble_eq_true rfl⟩ rfl rfl h82 rfl (Nat.le_of_ble_eq_true rfl) (by decide) (m_X7_fails_t h82 (by omega)) rfl (fun _ _ _ h => (Rt_x h).elim) ?_
          rintro v n9 μ9 - ⟨v9, hv9, hn9, hm9, rfl⟩
          obtain rfl := hn9.symm
          obtain rfl := hm9.symm
          obtain rfl := Sum.inl.inj hv9
          refine aw_if_eq (t := 61) (q := 59) dX7_sight_56 rfl (by decide) (fun bc7 => ?_) (fun bc7 => ?_)
          · skip
            omega
          · skip
            refine aw_iconst (q := 60) dX7_sight_59 rfl (by omega) ?_
            exact aw_iret dX7_sight_60 rfl (by decide) (by decide) ⟨rfl, (FrR_hu (FrR_w hF0 (by omega) (by omega) : FrR 82 101 μ μ0) (by omega)), 0, rfl, Or.inr (Or.inr (⟨by omega, MM_o hm0⟩))⟩
    · skip
      replace bc3 := bz_0.mp bc3
      refine aw_iconst (q := 27) dX7_sight_26 rfl (by omega) ?_
      refine aw_goto (q := 31) dX7_sight_27 (by decide) ?_
      refine aw_iconst (q := 32) dX7_sight_31 rfl (by omega) ?_
      refine aw_callV [vI (1), vI (1)] (q := 35) dX7_sight_32 rfl ck_X7_fails lk_X7_82 rfl ⟨Nat.le_of_ble_eq_true rfl, Nat.le_of_ble_eq_true rfl⟩ rfl rfl h82 rfl (Nat.le_of_ble_eq_true rfl) (by decide) (m_X7_fails_t h82 (by omega)) rfl (fun _ _ _ h => (Rt_x h).elim) ?_
      rintro v n9 μ9 - ⟨v9, hv9, hn9, hm9, rfl⟩
      obtain rfl := hn9.symm
      obtain rfl := hm9.symm
      obtain rfl := Sum.inl.inj hv9
      refine aw_if_ne (t := 59) (q := 38) dX7_sight_35 rfl (by decide) (fun bc8 => ?_) (fun bc8 => ?_)
      · skip
        refine aw_iconst (q := 60) dX7_sight_59 rfl (by omega) ?_
        exact aw_iret dX7_sight_60 rfl (by decide) (by decide) ⟨rfl, (FrR_hu (FrR_w hF0 (by omega) (by omega) : FrR 82 101 μ μ0) (by omega)), 0, rfl, Or.inr (Or.inl ⟨by omega, MM_o hm0⟩)⟩
      · skip
        omega
set_option maxHeartbeats 4000000 in
set_option maxRecDepth 100000 in
theorem m_X7_corner {n : Nat} {μ : AH} {th B : Int} {D : Nat} {dv : Nat → DVt} {Fn : Nat} {fv : Nat → FVt} {sv : SVt} {pk fd : Nat × (Nat → Int)} {spd lim : Int} {j x y : Int} (hm : MM μ th D dv Fn fv sv pk fd spd lim) (hO : COk B D dv Fn fv sv pk fd spd lim) : AMet YX7_corner [vR 82, vI (j), vI (x), vI (y)] n μ (fun o n' μ' => n' = n ∧ FrR 82 101 μ μ' ∧ ∃ v : Int, o = .inl (some (vI v)) ∧ (((((0 ≤ j ∧ j < (Fn : Int)) ∧ (-100000 ≤ x ∧ x ≤ 100000) ∧ -100000 ≤ y ∧ y ≤ 100000) ∧ (fv j.toNat).1 < 8) ∧ MM μ' 0 D dv Fn (fvu fv j.toNat ((fv j.toNat).1 + 1, fu (fv j.toNat).2.1 (fv j.toNat).1 x, fu (fv j.toNat).2.2 (fv j.toNat).1 y)) sv pk fd spd lim ∧ v = (((fv j.toNat).1 + 1 : Nat) : Int)) ∨ (¬ (0 ≤ j ∧ j < (Fn : Int)) ∧ MM μ' 1 D dv Fn fv sv pk fd spd lim) ∨ (((0 ≤ j ∧ j < (Fn : Int)) ∧ ¬ ((-100000 ≤ x ∧ x ≤ 100000) ∧ -100000 ≤ y ∧ y ≤ 100000)) ∧ MM μ' 2 D dv Fn fv sv pk fd spd lim) ∨ ((((0 ≤ j ∧ j < (Fn : Int)) ∧ (-100000 ≤ x ∧ x ≤ 100000) ∧ -100000 ≤ y ∧ y ≤ 100000) ∧ ¬ (fv j.toNat).1 < 8) ∧ MM μ' 3 D dv Fn fv sv pk fd spd lim))) := by
  refine AMet.of (by decide) rfl (Nat.le_of_ble_eq_true rfl) ?_
  obtain ⟨at7, ls7, wy7, c7, t7, F7, G7, H7, k7, a7, b7, e7, X7, Y7, y7, o7, r7, s7, u7, v7, w7, h82, h83, h84, h85, h86, h87, h88, h89, h90, h91, h92, h93, h94, h95, h96, h97, h98, h99, h100, ag1, ag2, ag3, ag4, ag5, ag6, ag7, ag8⟩ := id hm
  obtain ⟨hN, hdv, hFn, hfv, hsn, hsb, hpk, hfd, hfb, hs1, hs2, hl1, hl2⟩ := id hO
  refine aw_aload_n (q := 1) dX7_corner_0 rfl rfl rfl ?_
  refine aw_iconst (q := 2) dX7_corner_1 rfl (by omega) ?_
  refine aw_put (q := 5) dX7_corner_2 rfl fp_X7_72 h82 (Nat.le_of_ble_eq_true rfl) trivial ?_
  refine mm_z (at' := at7) (ls' := ls7) (wy' := wy7) hm (fun μ0 hm0 hF0 => ?_)
  obtain ⟨at7, ls7, wy7, c7, t7, F7, G7, H7, k7, a7, b7, e7, X7, Y7, y7, o7, r7, s7, u7, v7, w7, h82, h83, h84, h85, h86, h87, h88, h89, h90, h91, h92, h93, h94, h95, h96, h97, h98, h99, h100, ag1, ag2, ag3, ag4, ag5, ag6, ag7, ag8⟩ := id hm0
  refine aw_aload_n (q := 6) dX7_corner_5 rfl rfl rfl ?_
  refine aw_iload_n (q := 7) dX7_corner_6 rfl rfl rfl ?_
  refine aw_if_lt (t := 18) (q := 10) dX7_corner_7 rfl (by decide) (fun bc1 => ?_) (fun bc1 => ?_)
  · skip
    refine aw_iconst (q := 19) dX7_corner_18 rfl (by omega) ?_
    refine aw_goto (q := 23) dX7_corner_19 (by decide) ?_
    refine aw_iconst (q := 24) dX7_corner_23 rfl (by omega) ?_
    refine aw_callV [vI (1), vI (1)] (q := 27) dX7_corner_24 rfl ck_X7_fails lk_X7_82 rfl ⟨Nat.le_of_ble_eq_true rfl, Nat.le_of_ble_eq_true rfl⟩ rfl rfl h82 rfl (Nat.le_of_ble_eq_true rfl) (by decide) (m_X7_fails_t h82 (by omega)) rfl (fun _ _ _ h => (Rt_x h).elim) ?_
    rintro v n9 μ9 - ⟨v9, hv9, hn9, hm9, rfl⟩
    obtain rfl := hn9.symm
    obtain rfl := hm9.symm
    obtain rfl := Sum.inl.inj hv9
    refine aw_if_ne (t := 75) (q := 30) dX7_corner_27 rfl (by decide) (fun bc2 => ?_) (fun bc2 => ?_)
    · skip
      refine aw_iconst (q := 76) dX7_corner_75 rfl (by omega) ?_
      exact aw_iret dX7_corner_76 rfl (by decide) (by decide) ⟨rfl, (FrR_hu (FrR_w hF0 (by omega) (by omega) : FrR 82 101 μ μ0) (by omega)), 0, rfl, Or.inr (Or.inl ⟨by omega, MM_o hm0⟩)⟩
    · skip
      omega
  · skip
    refine aw_iload_n (q := 11) dX7_corner_10 rfl rfl rfl ?_
    refine aw_aload_n (q := 12) dX7_corner_11 rfl rfl rfl ?_
    refine aw_get (q := 15) dX7_corner_12 rfl fl_X7_153 h82 rfl (fun _ => ?_)
    refine aw_ic_lt (t := 22) (q := 18) dX7_corner_15 rfl (by decide) (fun bc3 => ?_) (fun bc3 => ?_)
    · skip
      refine aw_iconst (q := 23) dX7_corner_22 rfl (by omega) ?_
      refine aw_iconst (q := 24) dX7_corner_23 rfl (by omega) ?_
      refine aw_callV [vI (0), vI (1)] (q := 27) dX7_corner_24 rfl ck_X7_fails lk_X7_82 rfl ⟨Nat.le_of_ble_eq_true rfl, Nat.le_of_ble_eq_true rfl⟩ rfl rfl h82 rfl (Nat.le_of_ble_eq_true rfl) (by decide) (m_X7_fails_f h82) rfl (fun _ _ _ h => (Rt_x h).elim) ?_
      rintro v n9 μ9 - ⟨v9, hv9, hn9, hm9, rfl⟩
      obtain rfl := hn9.symm
      obtain rfl := hm9.symm
      obtain rfl := Sum.inl.inj hv9
      refine aw_if_ne (t := 75) (q := 30) dX7_corner_27 rfl (by decide) (fun bc4 => ?_) (fun bc4 => ?_)
      · skip
        omega
      · skip
        obtain ⟨f, hj⟩ : ∃ f : Nat, j = (f : Int) := ⟨j.toNat, by omega⟩
        have hjf : j.toNat = f := by omega
        have hf4 : f < 4 := by omega
        have hef := ag4 f hf4
        have hc8 := (hfv f hf4).1
        refine aw_aload_n (q := 31) dX7_corner_30 rfl rfl rfl ?_
        refine aw_iload_n (q := 32) dX7_corner_31 rfl rfl rfl ?_
        refine aw_iload_n (q := 33) dX7_corner_32 rfl rfl rfl ?_
        refine aw_callS [vI (x), vI (y)] (q := 36) dX7_corner_33 rfl ck_X7_isPoint lk_X7_96 rfl ⟨Nat.le_of_ble_eq_true rfl, Nat.le_of_ble_eq_true rfl⟩ rfl rfl (Nat.le_of_ble_eq_true rfl) (by decide) (m_X7_isPoint) rfl (fun _ _ _ h => (Rt_x h).elim) ?_
        rintro v n9 μ9 - ⟨v9, hv9, hn9, hm9, rfl⟩
        obtain rfl := hn9.symm
        obtain rfl := hm9.symm
        obtain rfl := Sum.inl.inj hv9
        refine aw_if_ne (t := 43) (q := 39) dX7_corner_36 rfl (by decide) (fun bc5 => ?_) (fun bc5 => ?_)
        · skip
          replace bc5 := bz_n0.mp bc5
          refine aw_iconst (q := 44) dX7_corner_43 rfl (by omega) ?_
          refine aw_iconst (q := 45) dX7_corner_44 rfl (by omega) ?_
          refine aw_callV [vI (0), vI (2)] (q := 48) dX7_corner_45 rfl ck_X7_fails lk_X7_82 rfl ⟨Nat.le_of_ble_eq_true rfl, Nat.le_of_ble_eq_true rfl⟩ rfl rfl h82 rfl (Nat.le_of_ble_eq_true rfl) (by decide) (m_X7_fails_f h82) rfl (fun _ _ _ h => (Rt_x h).elim) ?_
          rintro v n9 μ9 - ⟨v9, hv9, hn9, hm9, rfl⟩
          obtain rfl := hn9.symm
          obtain rfl := hm9.symm
          obtain rfl := Sum.inl.inj hv9
          refine aw_if_ne (t := 75) (q := 51) dX7_corner_48 rfl (by decide) (fun bc6 => ?_) (fun bc6 => ?_)
          · skip
            omega
          · skip
            refine aw_aload_n (q := 52) dX7_corner_51 rfl rfl rfl ?_
            refine aw_aload_n (q := 53) dX7_corner_52 rfl rfl rfl ?_
            refine aw_get (q := 56) dX7_corner_53 rfl fl_X7_41 h82 rfl (fun _ => ?_)
            refine aw_iload_n (q := 57) dX7_corner_56 rfl rfl rfl ?_
            refine aw_iaload (j := f) (q := 58) dX7_corner_57 rfl h91 (by omega) (by omega) (fun rx7 => ?_)
            refine aw_bipush (q := 60) dX7_corner_58 rfl (by decide) (by omega) ?_
            refine aw_ic_ne (t := 67) (q := 63) dX7_corner_60 rfl (by decide) (fun bc8 => ?_) (fun bc8 => ?_)
            · skip
              refine aw_iconst (q := 68) dX7_corner_67 rfl (by omega) ?_
              refine aw_iconst (q := 69) dX7_corner_68 rfl (by omega) ?_
              refine aw_callV [vI (0), vI (3)] (q := 72) dX7_corner_69 rfl ck_X7_fails lk_X7_82 rfl ⟨Nat.le_of_ble_eq_true rfl, Nat.le_of_ble_eq_true rfl⟩ rfl rfl h82 rfl (Nat.le_of_ble_eq_true rfl) (by decide) (m_X7_fails_f h82) rfl (fun _ _ _ h => (Rt_x h).elim) ?_
              rintro v n9 μ9 - ⟨v9, hv9, hn9, hm9, rfl⟩
              obtain rfl := hn9.symm
              obtain rfl := hm9.symm
              obtain rfl := Sum.inl.inj hv9
              refine aw_if_eq (t := 77) (q := 75) dX7_corner_72 rfl (by decide) (fun bc9 => ?_) (fun bc9 => ?_)
              · skip
                refine aw_aload_n (q := 78) dX7_corner_77 rfl rfl rfl ?_
                refine aw_get (q := 81) dX7_corner_78 rfl fl_X7_44 h82 rfl (fun _ => ?_)
                refine aw_bipush (q := 83) dX7_corner_81 rfl (by decide) (by omega) ?_
                refine aw_iload_n (q := 84) dX7_corner_83 rfl rfl rfl ?_
                refine aw_imul (q := 85) dX7_corner_84 rfl (by omega) ?_
                refine aw_aload_n (q := 86) dX7_corner_85 rfl rfl rfl ?_
                refine aw_get (q := 89) dX7_corner_86 rfl fl_X7_41 h82 rfl (fun _ => ?_)
                refine aw_iload_n (q := 90) dX7_corner_89 rfl rfl rfl ?_
                refine aw_iaload (j := f) (q := 91) dX7_corner_90 rfl h91 (by omega) (by omega) (fun rx10 => ?_)
                refine aw_iadd (q := 92) dX7_corner_91 rfl (by omega) ?_
                refine aw_iload_n (q := 93) dX7_corner_92 rfl rfl rfl ?_
                refine aw_iastore (j := 8 * f + (fv f).1) (q := 94) dX7_corner_93 rfl h92 (by omega) (by omega) ?_
                refine aw_aload_n (q := 95) dX7_corner_94 rfl rfl rfl ?_
                refine aw_get (q := 98) dX7_corner_95 rfl fl_X7_47 ((hu_n (by omega)).trans h82) rfl (fun _ => ?_)
                refine aw_bipush (q := 100) dX7_corner_98 rfl (by decide) (by omega) ?_
                refine aw_iload_n (q := 101) dX7_corner_100 rfl rfl rfl ?_
                refine aw_imul (q := 102) dX7_corner_101 rfl (by omega) ?_
                refine aw_aload_n (q := 103) dX7_corner_102 rfl rfl rfl ?_
                refine aw_get (q := 106) dX7_corner_103 rfl fl_X7_41 ((hu_n (by omega)).trans h82) rfl (fun _ => ?_)
                refine aw_iload_n (q := 107) dX7_corner_106 rfl rfl rfl ?_
                refine aw_iaload (j := f) (q := 108) dX7_corner_107 rfl ((hu_n (by omega)).trans h91) (by omega) (by omega) (fun rx11 => ?_)
                refine aw_iadd (q := 109) dX7_corner_108 rfl (by omega) ?_
                refine aw_iload_n (q := 110) dX7_corner_109 rfl rfl rfl ?_
                refine aw_iastore (j := 8 * f + (fv f).1) (q := 111) dX7_corner_110 rfl ((hu_n (by omega)).trans h93) (by omega) (by omega) ?_
                refine aw_aload_n (q := 112) dX7_corner_111 rfl rfl rfl ?_
                refine aw_get (q := 115) dX7_corner_112 rfl fl_X7_41 ((hu_n (by omega)).trans ((hu_n (by omega)).trans h82)) rfl (fun _ => ?_)
                refine aw_iload_n (q := 116) dX7_corner_115 rfl rfl rfl ?_
                refine aw_dup2 (q := 117) dX7_corner_116 rfl rfl rfl ?_
                refine aw_iaload (j := f) (q := 118) dX7_corner_117 rfl ((hu_n (by omega)).trans ((hu_n (by omega)).trans h91)) (by omega) (by omega) (fun rx12 => ?_)
                refine aw_iconst (q := 119) dX7_corner_118 rfl (by omega) ?_
                refine aw_iadd (q := 120) dX7_corner_119 rfl (by omega) ?_
                refine aw_iastore (j := f) (q := 121) dX7_corner_120 rfl ((hu_n (by omega)).trans ((hu_n (by omega)).trans h91)) (by omega) (by omega) ?_
                refine aw_aload_n (q := 122) dX7_corner_121 rfl rfl rfl ?_
                refine aw_get (q := 125) dX7_corner_122 rfl fl_X7_41 ((hu_n (by omega)).trans ((hu_n (by omega)).trans ((hu_n (by omega)).trans h82))) rfl (fun _ => ?_)
                refine aw_iload_n (q := 126) dX7_corner_125 rfl rfl rfl ?_
                refine aw_iaload (j := f) (q := 127) dX7_corner_126 rfl hu_s (by omega) (by omega) (fun rx13 => ?_)
                rw [fu_s]
                exact aw_iret dX7_corner_127 rfl (by decide) (by decide) ⟨rfl, (FrR_hu (FrR_hu (FrR_hu (FrR_w hF0 (by omega) (by omega) : FrR 82 101 μ μ0) (by omega)) (by omega)) (by omega)), _, rfl, Or.inl ⟨by rw [hjf]; omega, by rw [hjf]; exact ⟨at7, ls7, wy7, c7, t7, F7, G7, H7, k7, a7, b7, (fu e7 f ((e7 f) + 1)), (fu X7 (8 * f + (fv f).1) x), (fu Y7 (8 * f + (fv f).1) y), y7, o7, r7, s7, u7, v7, w7, ((hu_n (by omega)).trans ((hu_n (by omega)).trans ((hu_n (by omega)).trans h82))), ((hu_n (by omega)).trans ((hu_n (by omega)).trans ((hu_n (by omega)).trans h83))), ((hu_n (by omega)).trans ((hu_n (by omega)).trans ((hu_n (by omega)).trans h84))), ((hu_n (by omega)).trans ((hu_n (by omega)).trans ((hu_n (by omega)).trans h85))), ((hu_n (by omega)).trans ((hu_n (by omega)).trans ((hu_n (by omega)).trans h86))), ((hu_n (by omega)).trans ((hu_n (by omega)).trans ((hu_n (by omega)).trans h87))), ((hu_n (by omega)).trans ((hu_n (by omega)).trans ((hu_n (by omega)).trans h88))), ((hu_n (by omega)).trans ((hu_n (by omega)).trans ((hu_n (by omega)).trans h89))), ((hu_n (by omega)).trans ((hu_n (by omega)).trans ((hu_n (by omega)).trans h90))), hu_s, ((hu_n (by omega)).trans ((hu_n (by omega)).trans hu_s)), ((hu_n (by omega)).trans hu_s), ((hu_n (by omega)).trans ((hu_n (by omega)).trans ((hu_n (by omega)).trans h94))), ((hu_n (by omega)).trans ((hu_n (by omega)).trans ((hu_n (by omega)).trans h95))), ((hu_n (by omega)).trans ((hu_n (by omega)).trans ((hu_n (by omega)).trans h96))), ((hu_n (by omega)).trans ((hu_n (by omega)).trans ((hu_n (by omega)).trans h97))), ((hu_n (by omega)).trans ((hu_n (by omega)).trans ((hu_n (by omega)).trans h98))), ((hu_n (by omega)).trans ((hu_n (by omega)).trans ((hu_n (by omega)).trans h99))), ((hu_n (by omega)).trans ((hu_n (by omega)).trans ((hu_n (by omega)).trans h100))), ag1, ag2, ag3, (fun g hg => by by_cases e : g = f; (subst e; rw [fvu_s]; exact fu_s.trans (by rw [hef]; exact (Int.natCast_succ _).symm)); rw [fvu_n e]; exact (fu_n e).trans (ag4 g hg)), (fun g p hg hp => by
                    by_cases e : g = f
                    · subst e
                      rw [fvu_s] at hp ⊢
                      have hp8 : p < (fv g).1 + 1 := hp
                      by_cases q : p = (fv g).1
                      · subst q; exact ⟨fu_s.trans fu_s.symm, fu_s.trans fu_s.symm⟩
                      · have h8 := ag5 g p hg (by omega)
                        exact ⟨((fu_n (by omega)).trans h8.1).trans (fu_n q).symm, ((fu_n (by omega)).trans h8.2).trans (fu_n q).symm⟩
                    · rw [fvu_n e] at hp ⊢
                      have h8 := ag5 g p hg hp
                      have h7 := (hfv g hg).1
                      exact ⟨(fu_n (by omega)).trans h8.1, (fu_n (by omega)).trans h8.2⟩), ag6, ag7, ag8⟩, by rw [hjf]; omega⟩⟩
              · skip
                omega
            · skip
              refine aw_iconst (q := 64) dX7_corner_63 rfl (by omega) ?_
              refine aw_goto (q := 68) dX7_corner_64 (by decide) ?_
              refine aw_iconst (q := 69) dX7_corner_68 rfl (by omega) ?_
              refine aw_callV [vI (1), vI (3)] (q := 72) dX7_corner_69 rfl ck_X7_fails lk_X7_82 rfl ⟨Nat.le_of_ble_eq_true rfl, Nat.le_of_ble_eq_true rfl⟩ rfl rfl h82 rfl (Nat.le_of_ble_eq_true rfl) (by decide) (m_X7_fails_t h82 (by omega)) rfl (fun _ _ _ h => (Rt_x h).elim) ?_
              rintro v n9 μ9 - ⟨v9, hv9, hn9, hm9, rfl⟩
              obtain rfl := hn9.symm
              obtain rfl := hm9.symm
              obtain rfl := Sum.inl.inj hv9
              refine aw_if_eq (t := 77) (q := 75) dX7_corner_72 rfl (by decide) (fun bc14 => ?_) (fun bc14 => ?_)
              · skip
                omega
              · skip
                refine aw_iconst (q := 76) dX7_corner_75 rfl (by omega) ?_
                exact aw_iret dX7_corner_76 rfl (by decide) (by decide) ⟨rfl, (FrR_hu (FrR_w hF0 (by omega) (by omega) : FrR 82 101 μ μ0) (by omega)), 0, rfl, Or.inr (Or.inr (Or.inr (⟨by rw [hjf]; omega, MM_o hm0⟩)))⟩
        · skip
          replace bc5 := bz_0.mp bc5
          refine aw_iconst (q := 40) dX7_corner_39 rfl (by omega) ?_
          refine aw_goto (q := 44) dX7_corner_40 (by decide) ?_
          refine aw_iconst (q := 45) dX7_corner_44 rfl (by omega) ?_
          refine aw_callV [vI (1), vI (2)] (q := 48) dX7_corner_45 rfl ck_X7_fails lk_X7_82 rfl ⟨Nat.le_of_ble_eq_true rfl, Nat.le_of_ble_eq_true rfl⟩ rfl rfl h82 rfl (Nat.le_of_ble_eq_true rfl) (by decide) (m_X7_fails_t h82 (by omega)) rfl (fun _ _ _ h => (Rt_x h).elim) ?_
          rintro v n9 μ9 - ⟨v9, hv9, hn9, hm9, rfl⟩
          obtain rfl := hn9.symm
          obtain rfl := hm9.symm
          obtain rfl := Sum.inl.inj hv9
          refine aw_if_ne (t := 75) (q := 51) dX7_corner_48 rfl (by decide) (fun bc15 => ?_) (fun bc15 => ?_)
          · skip
            refine aw_iconst (q := 76) dX7_corner_75 rfl (by omega) ?_
            exact aw_iret dX7_corner_76 rfl (by decide) (by decide) ⟨rfl, (FrR_hu (FrR_w hF0 (by omega) (by omega) : FrR 82 101 μ μ0) (by omega)), 0, rfl, Or.inr (Or.inr (Or.inl ⟨by omega, MM_o hm0⟩))⟩
          · skip
            omega
    · skip
      refine aw_iconst (q := 19) dX7_corner_18 rfl (by omega) ?_
      refine aw_goto (q := 23) dX7_corner_19 (by decide) ?_
      refine aw_iconst (q := 24) dX7_corner_23 rfl (by omega) ?_
      refine aw_callV [vI (1), vI (1)] (q := 27) dX7_corner_24 rfl ck_X7_fails lk_X7_82 rfl ⟨Nat.le_of_ble_eq_true rfl, Nat.le_of_ble_eq_true rfl⟩ rfl rfl h82 rfl (Nat.le_of_ble_eq_true rfl) (by decide) (m_X7_fails_t h82 (by omega)) rfl (fun _ _ _ h => (Rt_x h).elim) ?_
      rintro v n9 μ9 - ⟨v9, hv9, hn9, hm9, rfl⟩
      obtain rfl := hn9.symm
      obtain rfl := hm9.symm
      obtain rfl := Sum.inl.inj hv9
      refine aw_if_ne (t := 75) (q := 30) dX7_corner_27 rfl (by decide) (fun bc16 => ?_) (fun bc16 => ?_)
      · skip
        refine aw_iconst (q := 76) dX7_corner_75 rfl (by omega) ?_
        exact aw_iret dX7_corner_76 rfl (by decide) (by decide) ⟨rfl, (FrR_hu (FrR_w hF0 (by omega) (by omega) : FrR 82 101 μ μ0) (by omega)), 0, rfl, Or.inr (Or.inl ⟨by omega, MM_o hm0⟩)⟩
      · skip
        omega
set_option maxHeartbeats 4000000 in
set_option maxRecDepth 100000 in
theorem m_X7_place {n : Nat} {μ : AH} {th B : Int} {D : Nat} {dv : Nat → DVt} {Fn : Nat} {fv : Nat → FVt} {sv : SVt} {pk fd : Nat × (Nat → Int)} {spd lim : Int} {i s x y : Int} (hB9 : B ≤ 1000000) (hm : MM μ th D dv Fn fv sv pk fd spd lim) (hO : COk B D dv Fn fv sv pk fd spd lim) : AMet YX7_place [vR 82, vI (i), vI (s), vI (x), vI (y)] n μ (fun o n' μ' => n' = n ∧ FrR 82 101 μ μ' ∧ ∃ v : Int, o = .inl (some (vI v)) ∧ ((¬ (0 ≤ i ∧ i < (D : Int)) ∧ MM μ' 1 D dv Fn fv sv pk fd spd lim) ∨ (((0 ≤ i ∧ i < (D : Int)) ∧ ¬ (0 ≤ s ∧ s ≤ 1000000 ∧ -100000 ≤ x ∧ x ≤ 100000 ∧ -100000 ≤ y ∧ y ≤ 100000)) ∧ MM μ' 2 D dv Fn fv sv pk fd spd lim) ∨ (((((0 ≤ i ∧ i < (D : Int)) ∧ 0 ≤ s ∧ s ≤ 1000000 ∧ -100000 ≤ x ∧ x ≤ 100000 ∧ -100000 ≤ y ∧ y ≤ 100000) ∧ plHas (dv i.toNat) s) ∧ plSame (dv i.toNat) s x y) ∧ MM μ' 0 D (dvu dv i.toNat (dvTw (dv i.toNat))) Fn fv sv pk fd spd lim ∧ v = -2) ∨ (((((0 ≤ i ∧ i < (D : Int)) ∧ 0 ≤ s ∧ s ≤ 1000000 ∧ -100000 ≤ x ∧ x ≤ 100000 ∧ -100000 ≤ y ∧ y ≤ 100000) ∧ plHas (dv i.toNat) s) ∧ ¬ plSame (dv i.toNat) s x y) ∧ MM μ' 2 D dv Fn fv sv pk fd spd lim) ∨ (((((0 ≤ i ∧ i < (D : Int)) ∧ 0 ≤ s ∧ s ≤ 1000000 ∧ -100000 ≤ x ∧ x ≤ 100000 ∧ -100000 ≤ y ∧ y ≤ 100000) ∧ ¬ plHas (dv i.toNat) s) ∧ ¬ (dv i.toNat).1 < 60) ∧ MM μ' 3 D dv Fn fv sv pk fd spd lim) ∨ (((((0 ≤ i ∧ i < (D : Int)) ∧ 0 ≤ s ∧ s ≤ 1000000 ∧ -100000 ≤ x ∧ x ≤ 100000 ∧ -100000 ≤ y ∧ y ≤ 100000) ∧ ¬ plHas (dv i.toNat) s) ∧ (dv i.toNat).1 < 60) ∧ MM μ' 0 D (dvu dv i.toNat (dvIns (dv i.toNat) s x y)) Fn fv sv pk fd spd lim ∧ v = (plc (dv i.toNat) s : Int)))) := by
  refine AMet.of (by decide) rfl (Nat.le_of_ble_eq_true rfl) ?_
  obtain ⟨at7, ls7, wy7, c7, t7, F7, G7, H7, k7, a7, b7, e7, X7, Y7, y7, o7, r7, s7, u7, v7, w7, h82, h83, h84, h85, h86, h87, h88, h89, h90, h91, h92, h93, h94, h95, h96, h97, h98, h99, h100, ag1, ag2, ag3, ag4, ag5, ag6, ag7, ag8⟩ := id hm
  obtain ⟨hN, hdv, hFn, hfv, hsn, hsb, hpk, hfd, hfb, hs1, hs2, hl1, hl2⟩ := id hO
  refine aw_aload_n (q := 1) dX7_place_0 rfl rfl rfl ?_
  refine aw_iconst (q := 2) dX7_place_1 rfl (by omega) ?_
  refine aw_put (q := 5) dX7_place_2 rfl fp_X7_72 h82 (Nat.le_of_ble_eq_true rfl) trivial ?_
  refine mm_z (at' := at7) (ls' := ls7) (wy' := wy7) hm (fun μ0 hm0 hF0 => ?_)
  obtain ⟨at7, ls7, wy7, c7, t7, F7, G7, H7, k7, a7, b7, e7, X7, Y7, y7, o7, r7, s7, u7, v7, w7, h82, h83, h84, h85, h86, h87, h88, h89, h90, h91, h92, h93, h94, h95, h96, h97, h98, h99, h100, ag1, ag2, ag3, ag4, ag5, ag6, ag7, ag8⟩ := id hm0
  refine aw_aload_n (q := 6) dX7_place_5 rfl rfl rfl ?_
  refine aw_aload_n (q := 7) dX7_place_6 rfl rfl rfl ?_
  refine aw_iload_n (q := 8) dX7_place_7 rfl rfl rfl ?_
  refine aw_callV [vI (i)] (q := 11) dX7_place_8 rfl ck_X7_isDevice lk_X7_78 rfl ⟨Nat.le_of_ble_eq_true rfl, Nat.le_of_ble_eq_true rfl⟩ rfl rfl h82 rfl (Nat.le_of_ble_eq_true rfl) (by decide) (m_X7_isDevice hm0 hO) rfl (fun _ _ _ h => (Rt_x h).elim) ?_
  rintro v n9 μ9 - ⟨v9, hv9, hn9, hm9, rfl⟩
  obtain rfl := hn9.symm
  obtain rfl := hm9.symm
  obtain rfl := Sum.inl.inj hv9
  refine aw_if_ne (t := 18) (q := 14) dX7_place_11 rfl (by decide) (fun bc1 => ?_) (fun bc1 => ?_)
  · skip
    replace bc1 := bz_n0.mp bc1
    refine aw_iconst (q := 19) dX7_place_18 rfl (by omega) ?_
    refine aw_iconst (q := 20) dX7_place_19 rfl (by omega) ?_
    refine aw_callV [vI (0), vI (1)] (q := 23) dX7_place_20 rfl ck_X7_fails lk_X7_82 rfl ⟨Nat.le_of_ble_eq_true rfl, Nat.le_of_ble_eq_true rfl⟩ rfl rfl h82 rfl (Nat.le_of_ble_eq_true rfl) (by decide) (m_X7_fails_f h82) rfl (fun _ _ _ h => (Rt_x h).elim) ?_
    rintro v n9 μ9 - ⟨v9, hv9, hn9, hm9, rfl⟩
    obtain rfl := hn9.symm
    obtain rfl := hm9.symm
    obtain rfl := Sum.inl.inj hv9
    refine aw_if_ne (t := 60) (q := 26) dX7_place_23 rfl (by decide) (fun bc2 => ?_) (fun bc2 => ?_)
    · skip
      omega
    · skip
      refine aw_aload_n (q := 27) dX7_place_26 rfl rfl rfl ?_
      refine aw_iload_n (q := 28) dX7_place_27 rfl rfl rfl ?_
      refine aw_i2l (q := 29) dX7_place_28 rfl ?_
      refine aw_lconst (a := 0) (q := 30) dX7_place_29 rfl rfl (by omega) ?_
      refine aw_ldc2 (a := 1000000) (q := 33) dX7_place_30 rfl k_X7_94 (by omega) ?_
      refine aw_callS [vL (s), vL (0), vL (1000000)] (q := 36) dX7_place_33 rfl ck_X7_within lk_X7_90 rfl ⟨Nat.le_of_ble_eq_true rfl, Nat.le_of_ble_eq_true rfl⟩ rfl rfl (Nat.le_of_ble_eq_true rfl) (by decide) (m_X7_within) rfl (fun _ _ _ h => (Rt_x h).elim) ?_
      rintro v n9 μ9 - ⟨v9, hv9, hn9, hm9, rfl⟩
      obtain rfl := hn9.symm
      obtain rfl := hm9.symm
      obtain rfl := Sum.inl.inj hv9
      refine aw_if_eq (t := 48) (q := 39) dX7_place_36 rfl (by decide) (fun bc3 => ?_) (fun bc3 => ?_)
      · skip
        replace bc3 := bz_0.mp bc3
        refine aw_iconst (q := 49) dX7_place_48 rfl (by omega) ?_
        refine aw_goto (q := 53) dX7_place_49 (by decide) ?_
        refine aw_iconst (q := 54) dX7_place_53 rfl (by omega) ?_
        refine aw_callV [vI (1), vI (2)] (q := 57) dX7_place_54 rfl ck_X7_fails lk_X7_82 rfl ⟨Nat.le_of_ble_eq_true rfl, Nat.le_of_ble_eq_true rfl⟩ rfl rfl h82 rfl (Nat.le_of_ble_eq_true rfl) (by decide) (m_X7_fails_t h82 (by omega)) rfl (fun _ _ _ h => (Rt_x h).elim) ?_
        rintro v n9 μ9 - ⟨v9, hv9, hn9, hm9, rfl⟩
        obtain rfl := hn9.symm
        obtain rfl := hm9.symm
        obtain rfl := Sum.inl.inj hv9
        refine aw_if_eq (t := 62) (q := 60) dX7_place_57 rfl (by decide) (fun bc4 => ?_) (fun bc4 => ?_)
        · skip
          omega
        · skip
          refine aw_iconst (q := 61) dX7_place_60 rfl (by omega) ?_
          exact aw_iret dX7_place_61 rfl (by decide) (by decide) ⟨rfl, (FrR_hu (FrR_w hF0 (by omega) (by omega) : FrR 82 101 μ μ0) (by omega)), 0, rfl, Or.inr (Or.inl ⟨⟨by omega, by omega⟩, MM_o hm0⟩)⟩
      · skip
        replace bc3 := bz_n0.mp bc3
        refine aw_iload_n (q := 40) dX7_place_39 rfl rfl rfl ?_
        refine aw_iload (q := 42) dX7_place_40 rfl rfl ?_
        refine aw_callS [vI (x), vI (y)] (q := 45) dX7_place_42 rfl ck_X7_isPoint lk_X7_96 rfl ⟨Nat.le_of_ble_eq_true rfl, Nat.le_of_ble_eq_true rfl⟩ rfl rfl (Nat.le_of_ble_eq_true rfl) (by decide) (m_X7_isPoint) rfl (fun _ _ _ h => (Rt_x h).elim) ?_
        rintro v n9 μ9 - ⟨v9, hv9, hn9, hm9, rfl⟩
        obtain rfl := hn9.symm
        obtain rfl := hm9.symm
        obtain rfl := Sum.inl.inj hv9
        refine aw_if_ne (t := 52) (q := 48) dX7_place_45 rfl (by decide) (fun bc5 => ?_) (fun bc5 => ?_)
        · skip
          replace bc5 := bz_n0.mp bc5
          refine aw_iconst (q := 53) dX7_place_52 rfl (by omega) ?_
          refine aw_iconst (q := 54) dX7_place_53 rfl (by omega) ?_
          refine aw_callV [vI (0), vI (2)] (q := 57) dX7_place_54 rfl ck_X7_fails lk_X7_82 rfl ⟨Nat.le_of_ble_eq_true rfl, Nat.le_of_ble_eq_true rfl⟩ rfl rfl h82 rfl (Nat.le_of_ble_eq_true rfl) (by decide) (m_X7_fails_f h82) rfl (fun _ _ _ h => (Rt_x h).elim) ?_
          rintro v n9 μ9 - ⟨v9, hv9, hn9, hm9, rfl⟩
          obtain rfl := hn9.symm
          obtain rfl := hm9.symm
          obtain rfl := Sum.inl.inj hv9
          refine aw_if_eq (t := 62) (q := 60) dX7_place_57 rfl (by decide) (fun bc6 => ?_) (fun bc6 => ?_)
          · skip
            obtain ⟨d, hi⟩ : ∃ d : Nat, i = (d : Int) := ⟨i.toNat, by omega⟩
            have hid : i.toNat = d := by omega
            have hd5 : d < 5 := by omega
            have hcd := ag1 d hd5
            have hdo := (hdv d hd5).1
            have hc60 : (dv d).1 ≤ 60 := hdo.1
            have hk8 : (dv d).2.2.2.2.2.1 ≤ 8 := hdo.2.2.2.1
            refine aw_aload_n (q := 63) dX7_place_62 rfl rfl rfl ?_
            refine aw_iload_n (q := 64) dX7_place_63 rfl rfl rfl ?_
            refine aw_iload_n (q := 65) dX7_place_64 rfl rfl rfl ?_
            refine aw_callV [vI (i), vI (s)] (q := 68) dX7_place_65 rfl ck_X7_before lk_X7_100 rfl ⟨Nat.le_of_ble_eq_true rfl, Nat.le_of_ble_eq_true rfl⟩ rfl rfl h82 rfl (Nat.le_of_ble_eq_true rfl) (by decide) (m_X7_before (d := d) hi hd5 hm0 hO) rfl (fun _ _ _ h => (Rt_x h).elim) ?_
            rintro v n9 μ9 - ⟨v9, hv9, hn9, hm9, rfl⟩
            obtain rfl := hn9.symm
            obtain rfl := hm9.symm
            obtain rfl := Sum.inl.inj hv9
            obtain ⟨r, hr⟩ : ∃ r : Nat, plc (dv d) s = r := ⟨_, rfl⟩
            have hrl : r ≤ (dv d).1 := by rw [← hr]; have := (lowb_le (dv d).2.1 s (dv d).1 0).1; unfold plc; omega
            rw [hr]
            refine aw_istore (q := 70) dX7_place_68 rfl (by decide) ?_
            refine aw_bipush (q := 72) dX7_place_70 rfl (by decide) (by omega) ?_
            refine aw_iload_n (q := 73) dX7_place_72 rfl rfl rfl ?_
            refine aw_imul (q := 74) dX7_place_73 rfl (by omega) ?_
            refine aw_iload (q := 76) dX7_place_74 rfl rfl ?_
            refine aw_iadd (q := 77) dX7_place_76 rfl (by omega) ?_
            refine aw_istore (q := 79) dX7_place_77 rfl (by decide) ?_
            refine aw_iload (q := 81) dX7_place_79 rfl rfl ?_
            refine aw_aload_n (q := 82) dX7_place_81 rfl rfl rfl ?_
            refine aw_get (q := 85) dX7_place_82 rfl fl_X7_7 h82 rfl (fun _ => ?_)
            refine aw_iload_n (q := 86) dX7_place_85 rfl rfl rfl ?_
            refine aw_iaload (j := d) (q := 87) dX7_place_86 rfl h83 (by omega) (by omega) (fun rx7 => ?_)
            refine aw_ic_ge (t := 152) (q := 90) dX7_place_87 rfl (by decide) (fun bc8 => ?_) (fun bc8 => ?_)
            · skip
              refine aw_aload_n (q := 153) dX7_place_152 rfl rfl rfl ?_
              refine aw_aload_n (q := 154) dX7_place_153 rfl rfl rfl ?_
              refine aw_get (q := 157) dX7_place_154 rfl fl_X7_7 h82 rfl (fun _ => ?_)
              refine aw_iload_n (q := 158) dX7_place_157 rfl rfl rfl ?_
              refine aw_iaload (j := d) (q := 159) dX7_place_158 rfl h83 (by omega) (by omega) (fun rx9 => ?_)
              refine aw_bipush (q := 161) dX7_place_159 rfl (by decide) (by omega) ?_
              refine aw_ic_ne (t := 168) (q := 164) dX7_place_161 rfl (by decide) (fun bc10 => ?_) (fun bc10 => ?_)
              · skip
                refine aw_iconst (q := 169) dX7_place_168 rfl (by omega) ?_
                refine aw_iconst (q := 170) dX7_place_169 rfl (by omega) ?_
                refine aw_callV [vI (0), vI (3)] (q := 173) dX7_place_170 rfl ck_X7_fails lk_X7_82 rfl ⟨Nat.le_of_ble_eq_true rfl, Nat.le_of_ble_eq_true rfl⟩ rfl rfl h82 rfl (Nat.le_of_ble_eq_true rfl) (by decide) (m_X7_fails_f h82) rfl (fun _ _ _ h => (Rt_x h).elim) ?_
                rintro v n9 μ9 - ⟨v9, hv9, hn9, hm9, rfl⟩
                obtain rfl := hn9.symm
                obtain rfl := hm9.symm
                obtain rfl := Sum.inl.inj hv9
                refine aw_if_eq (t := 178) (q := 176) dX7_place_173 rfl (by decide) (fun bc11 => ?_) (fun bc11 => ?_)
                · skip
                  refine aw_bipush (q := 180) dX7_place_178 rfl (by decide) (by omega) ?_
                  refine aw_iload_n (q := 181) dX7_place_180 rfl rfl rfl ?_
                  refine aw_imul (q := 182) dX7_place_181 rfl (by omega) ?_
                  refine aw_aload_n (q := 183) dX7_place_182 rfl rfl rfl ?_
                  refine aw_get (q := 186) dX7_place_183 rfl fl_X7_7 h82 rfl (fun _ => ?_)
                  refine aw_iload_n (q := 187) dX7_place_186 rfl rfl rfl ?_
                  refine aw_iaload (j := d) (q := 188) dX7_place_187 rfl h83 (by omega) (by omega) (fun rx12 => ?_)
                  refine aw_iadd (q := 189) dX7_place_188 rfl (by omega) ?_
                  refine aw_istore (q := 191) dX7_place_189 rfl (by decide) ?_
                  have loop : ∀ (j k : Nat) (kx : Int) (μ1 : AH), k < j → kx = (k : Int) → 60 * d + r ≤ k → k ≤ (60 * d + (dv d).1) → μ1 85 = oI 300 (shF F7 k (60 * d + (dv d).1)) → μ1 86 = oI 300 (shF G7 k (60 * d + (dv d).1)) → μ1 87 = oI 300 (shF H7 k (60 * d + (dv d).1)) → FrR 85 88 μ0 μ1 → AW YX7_place none (fun o n' μ' => n' = n ∧ FrR 82 101 μ μ' ∧ ∃ v : Int, o = .inl (some (vI v)) ∧ ((¬ (0 ≤ i ∧ i < (D : Int)) ∧ MM μ' 1 D dv Fn fv sv pk fd spd lim) ∨ (((0 ≤ i ∧ i < (D : Int)) ∧ ¬ (0 ≤ s ∧ s ≤ 1000000 ∧ -100000 ≤ x ∧ x ≤ 100000 ∧ -100000 ≤ y ∧ y ≤ 100000)) ∧ MM μ' 2 D dv Fn fv sv pk fd spd lim) ∨ (((((0 ≤ i ∧ i < (D : Int)) ∧ 0 ≤ s ∧ s ≤ 1000000 ∧ -100000 ≤ x ∧ x ≤ 100000 ∧ -100000 ≤ y ∧ y ≤ 100000) ∧ plHas (dv i.toNat) s) ∧ plSame (dv i.toNat) s x y) ∧ MM μ' 0 D (dvu dv i.toNat (dvTw (dv i.toNat))) Fn fv sv pk fd spd lim ∧ v = -2) ∨ (((((0 ≤ i ∧ i < (D : Int)) ∧ 0 ≤ s ∧ s ≤ 1000000 ∧ -100000 ≤ x ∧ x ≤ 100000 ∧ -100000 ≤ y ∧ y ≤ 100000) ∧ plHas (dv i.toNat) s) ∧ ¬ plSame (dv i.toNat) s x y) ∧ MM μ' 2 D dv Fn fv sv pk fd spd lim) ∨ (((((0 ≤ i ∧ i < (D : Int)) ∧ 0 ≤ s ∧ s ≤ 1000000 ∧ -100000 ≤ x ∧ x ≤ 100000 ∧ -100000 ≤ y ∧ y ≤ 100000) ∧ ¬ plHas (dv i.toNat) s) ∧ ¬ (dv i.toNat).1 < 60) ∧ MM μ' 3 D dv Fn fv sv pk fd spd lim) ∨ (((((0 ≤ i ∧ i < (D : Int)) ∧ 0 ≤ s ∧ s ≤ 1000000 ∧ -100000 ≤ x ∧ x ≤ 100000 ∧ -100000 ≤ y ∧ y ≤ 100000) ∧ ¬ plHas (dv i.toNat) s) ∧ (dv i.toNat).1 < 60) ∧ MM μ' 0 D (dvu dv i.toNat (dvIns (dv i.toNat) s x y)) Fn fv sv pk fd spd lim ∧ v = (plc (dv i.toNat) s : Int)))) 191 [some (vR 82), some (vI (i)), some (vI (s)), some (vI (x)), some (vI (y)), some (vI ((r : Int))), some (vI (60 * i + (r : Int))), some (vI (kx))] [] n μ1 0 0 := by
                    intro j
                    induction j with
                    | zero => intro k kx μ1 hj; exact absurd hj (Nat.not_lt_zero _)
                    | succ j ih =>
                      intro k kx μ1 hj hkx hk1 hk2 g85 g86 g87 hF1
                      refine aw_iload (q := 193) dX7_place_191 rfl rfl ?_
                      refine aw_iload (q := 195) dX7_place_193 rfl rfl ?_
                      refine aw_ic_le (t := 252) (q := 198) dX7_place_195 rfl (by decide) (fun bc1 => ?_) (fun bc1 => ?_)
                      · skip
                        obtain rfl : k = 60 * d + r := by omega
                        refine aw_aload_n (q := 253) dX7_place_252 rfl rfl rfl ?_
                        refine aw_get (q := 256) dX7_place_253 rfl fl_X7_16 ((hF1 82 (by omega)).trans h82) rfl (fun _ => ?_)
                        refine aw_iload (q := 258) dX7_place_256 rfl rfl ?_
                        refine aw_iload_n (q := 259) dX7_place_258 rfl rfl rfl ?_
                        refine aw_iastore (j := 60 * d + r) (q := 260) dX7_place_259 rfl g85 (by omega) (by omega) ?_
                        refine aw_aload_n (q := 261) dX7_place_260 rfl rfl rfl ?_
                        refine aw_get (q := 264) dX7_place_261 rfl fl_X7_19 ((hu_n (by omega)).trans ((hF1 82 (by omega)).trans h82)) rfl (fun _ => ?_)
                        refine aw_iload (q := 266) dX7_place_264 rfl rfl ?_
                        refine aw_iload_n (q := 267) dX7_place_266 rfl rfl rfl ?_
                        refine aw_iastore (j := 60 * d + r) (q := 268) dX7_place_267 rfl ((hu_n (by omega)).trans g86) (by omega) (by omega) ?_
                        refine aw_aload_n (q := 269) dX7_place_268 rfl rfl rfl ?_
                        refine aw_get (q := 272) dX7_place_269 rfl fl_X7_22 ((hu_n (by omega)).trans ((hu_n (by omega)).trans ((hF1 82 (by omega)).trans h82))) rfl (fun _ => ?_)
                        refine aw_iload (q := 274) dX7_place_272 rfl rfl ?_
                        refine aw_iload (q := 276) dX7_place_274 rfl rfl ?_
                        refine aw_iastore (j := 60 * d + r) (q := 277) dX7_place_276 rfl ((hu_n (by omega)).trans ((hu_n (by omega)).trans g87)) (by omega) (by omega) ?_
                        refine aw_aload_n (q := 278) dX7_place_277 rfl rfl rfl ?_
                        refine aw_get (q := 281) dX7_place_278 rfl fl_X7_7 ((hu_n (by omega)).trans ((hu_n (by omega)).trans ((hu_n (by omega)).trans ((hF1 82 (by omega)).trans h82)))) rfl (fun _ => ?_)
                        refine aw_iload_n (q := 282) dX7_place_281 rfl rfl rfl ?_
                        refine aw_dup2 (q := 283) dX7_place_282 rfl rfl rfl ?_
                        refine aw_iaload (j := d) (q := 284) dX7_place_283 rfl ((hu_n (by omega)).trans ((hu_n (by omega)).trans ((hu_n (by omega)).trans ((hF1 83 (by omega)).trans h83)))) (by omega) (by omega) (fun rx2 => ?_)
                        refine aw_iconst (q := 285) dX7_place_284 rfl (by omega) ?_
                        refine aw_iadd (q := 286) dX7_place_285 rfl (by omega) ?_
                        refine aw_iastore (j := d) (q := 287) dX7_place_286 rfl ((hu_n (by omega)).trans ((hu_n (by omega)).trans ((hu_n (by omega)).trans ((hF1 83 (by omega)).trans h83)))) (by omega) (by omega) ?_
                        refine aw_iload (q := 289) dX7_place_287 rfl rfl ?_
                        exact aw_iret dX7_place_289 rfl (by decide) (by decide) ⟨rfl, (FrR_hu (FrR_hu (FrR_hu (FrR_hu (FrR_tr (FrR_w hF0 (by omega) (by omega) : FrR 82 101 μ μ0) (FrR_w hF1 (by omega) (by omega))) (by omega)) (by omega)) (by omega)) (by omega)), _, rfl, Or.inr (Or.inr (Or.inr (Or.inr (Or.inr (⟨⟨⟨⟨by omega, by omega⟩, by rw [hid]; unfold plHas; rw [hr]; omega⟩, by rw [hid]; omega⟩, by rw [hid]; exact ⟨at7, ls7, wy7, (fu c7 d ((c7 d) + 1)), t7, (fu (shF F7 (60 * d + r) (60 * d + (dv d).1)) (60 * d + r) s), (fu (shF G7 (60 * d + r) (60 * d + (dv d).1)) (60 * d + r) x), (fu (shF H7 (60 * d + r) (60 * d + (dv d).1)) (60 * d + r) y), k7, a7, b7, e7, X7, Y7, y7, o7, r7, s7, u7, v7, w7, ((hu_n (by omega)).trans ((hu_n (by omega)).trans ((hu_n (by omega)).trans ((hu_n (by omega)).trans ((hF1 82 (by omega)).trans h82))))), hu_s, ((hu_n (by omega)).trans ((hu_n (by omega)).trans ((hu_n (by omega)).trans ((hu_n (by omega)).trans ((hF1 84 (by omega)).trans h84))))), ((hu_n (by omega)).trans ((hu_n (by omega)).trans ((hu_n (by omega)).trans hu_s))), ((hu_n (by omega)).trans ((hu_n (by omega)).trans hu_s)), ((hu_n (by omega)).trans hu_s), ((hu_n (by omega)).trans ((hu_n (by omega)).trans ((hu_n (by omega)).trans ((hu_n (by omega)).trans ((hF1 88 (by omega)).trans h88))))), ((hu_n (by omega)).trans ((hu_n (by omega)).trans ((hu_n (by omega)).trans ((hu_n (by omega)).trans ((hF1 89 (by omega)).trans h89))))), ((hu_n (by omega)).trans ((hu_n (by omega)).trans ((hu_n (by omega)).trans ((hu_n (by omega)).trans ((hF1 90 (by omega)).trans h90))))), ((hu_n (by omega)).trans ((hu_n (by omega)).trans ((hu_n (by omega)).trans ((hu_n (by omega)).trans ((hF1 91 (by omega)).trans h91))))), ((hu_n (by omega)).trans ((hu_n (by omega)).trans ((hu_n (by omega)).trans ((hu_n (by omega)).trans ((hF1 92 (by omega)).trans h92))))), ((hu_n (by omega)).trans ((hu_n (by omega)).trans ((hu_n (by omega)).trans ((hu_n (by omega)).trans ((hF1 93 (by omega)).trans h93))))), ((hu_n (by omega)).trans ((hu_n (by omega)).trans ((hu_n (by omega)).trans ((hu_n (by omega)).trans ((hF1 94 (by omega)).trans h94))))), ((hu_n (by omega)).trans ((hu_n (by omega)).trans ((hu_n (by omega)).trans ((hu_n (by omega)).trans ((hF1 95 (by omega)).trans h95))))), ((hu_n (by omega)).trans ((hu_n (by omega)).trans ((hu_n (by omega)).trans ((hu_n (by omega)).trans ((hF1 96 (by omega)).trans h96))))), ((hu_n (by omega)).trans ((hu_n (by omega)).trans ((hu_n (by omega)).trans ((hu_n (by omega)).trans ((hF1 97 (by omega)).trans h97))))), ((hu_n (by omega)).trans ((hu_n (by omega)).trans ((hu_n (by omega)).trans ((hu_n (by omega)).trans ((hF1 98 (by omega)).trans h98))))), ((hu_n (by omega)).trans ((hu_n (by omega)).trans ((hu_n (by omega)).trans ((hu_n (by omega)).trans ((hF1 99 (by omega)).trans h99))))), ((hu_n (by omega)).trans ((hu_n (by omega)).trans ((hu_n (by omega)).trans ((hu_n (by omega)).trans ((hF1 100 (by omega)).trans h100))))), (AG1_u ag1 (fun e q => ⟨fu_n q, rfl, rfl⟩) ⟨fu_s.trans (by rw [hcd.1]; exact (Int.natCast_succ _).symm), hcd.2.1, hcd.2.2⟩), (AG2_u ag2 (fun e he => (hdv e he).1.1) (fun e p q he hp => ⟨(congrFun (shF_e F7 s) _).trans (ins_out (a := 60 * d + r) (c := (60 * d + (dv d).1)) (by omega) (by omega)), (congrFun (shF_e G7 x) _).trans (ins_out (a := 60 * d + r) (c := (60 * d + (dv d).1)) (by omega) (by omega)), (congrFun (shF_e H7 y) _).trans (ins_out (a := 60 * d + r) (c := (60 * d + (dv d).1)) (by omega) (by omega))⟩) (fun p hp => by have hp9 : p < (dv d).1 + 1 := hp; unfold dvIns; rw [hr]; exact ⟨(congrFun (shF_e F7 s) _).trans (ins_in (fun q hq => (ag2 d q hd5 hq).1) hrl hp9), (congrFun (shF_e G7 x) _).trans (ins_in (fun q hq => (ag2 d q hd5 hq).2.1) hrl hp9), (congrFun (shF_e H7 y) _).trans (ins_in (fun q hq => (ag2 d q hd5 hq).2.2) hrl hp9)⟩)), (AG3_u ag3 (fun e he => (hdv e he).1.2.2.2.1) (fun e p _ _ _ => ⟨rfl, rfl⟩) (fun p hp => ag3 d p hd5 hp)), ag4, ag5, ag6, ag7, ag8⟩, by rw [hid, hr]⟩)))))⟩
                      · skip
                        refine aw_aload_n (q := 199) dX7_place_198 rfl rfl rfl ?_
                        refine aw_get (q := 202) dX7_place_199 rfl fl_X7_16 ((hF1 82 (by omega)).trans h82) rfl (fun _ => ?_)
                        refine aw_iload (q := 204) dX7_place_202 rfl rfl ?_
                        refine aw_aload_n (q := 205) dX7_place_204 rfl rfl rfl ?_
                        refine aw_get (q := 208) dX7_place_205 rfl fl_X7_16 ((hF1 82 (by omega)).trans h82) rfl (fun _ => ?_)
                        refine aw_iload (q := 210) dX7_place_208 rfl rfl ?_
                        refine aw_iconst (q := 211) dX7_place_210 rfl (by omega) ?_
                        refine aw_isub (q := 212) dX7_place_211 rfl (by omega) ?_
                        refine aw_iaload (j := k - 1) (q := 213) dX7_place_212 rfl g85 (by omega) (by omega) (fun rx3 => ?_)
                        refine aw_iastore (j := k) (q := 214) dX7_place_213 rfl g85 (by omega) (by omega) ?_
                        refine aw_aload_n (q := 215) dX7_place_214 rfl rfl rfl ?_
                        refine aw_get (q := 218) dX7_place_215 rfl fl_X7_19 ((hu_n (by omega)).trans ((hF1 82 (by omega)).trans h82)) rfl (fun _ => ?_)
                        refine aw_iload (q := 220) dX7_place_218 rfl rfl ?_
                        refine aw_aload_n (q := 221) dX7_place_220 rfl rfl rfl ?_
                        refine aw_get (q := 224) dX7_place_221 rfl fl_X7_19 ((hu_n (by omega)).trans ((hF1 82 (by omega)).trans h82)) rfl (fun _ => ?_)
                        refine aw_iload (q := 226) dX7_place_224 rfl rfl ?_
                        refine aw_iconst (q := 227) dX7_place_226 rfl (by omega) ?_
                        refine aw_isub (q := 228) dX7_place_227 rfl (by omega) ?_
                        refine aw_iaload (j := k - 1) (q := 229) dX7_place_228 rfl ((hu_n (by omega)).trans g86) (by omega) (by omega) (fun rx4 => ?_)
                        refine aw_iastore (j := k) (q := 230) dX7_place_229 rfl ((hu_n (by omega)).trans g86) (by omega) (by omega) ?_
                        refine aw_aload_n (q := 231) dX7_place_230 rfl rfl rfl ?_
                        refine aw_get (q := 234) dX7_place_231 rfl fl_X7_22 ((hu_n (by omega)).trans ((hu_n (by omega)).trans ((hF1 82 (by omega)).trans h82))) rfl (fun _ => ?_)
                        refine aw_iload (q := 236) dX7_place_234 rfl rfl ?_
                        refine aw_aload_n (q := 237) dX7_place_236 rfl rfl rfl ?_
                        refine aw_get (q := 240) dX7_place_237 rfl fl_X7_22 ((hu_n (by omega)).trans ((hu_n (by omega)).trans ((hF1 82 (by omega)).trans h82))) rfl (fun _ => ?_)
                        refine aw_iload (q := 242) dX7_place_240 rfl rfl ?_
                        refine aw_iconst (q := 243) dX7_place_242 rfl (by omega) ?_
                        refine aw_isub (q := 244) dX7_place_243 rfl (by omega) ?_
                        refine aw_iaload (j := k - 1) (q := 245) dX7_place_244 rfl ((hu_n (by omega)).trans ((hu_n (by omega)).trans g87)) (by omega) (by omega) (fun rx5 => ?_)
                        refine aw_iastore (j := k) (q := 246) dX7_place_245 rfl ((hu_n (by omega)).trans ((hu_n (by omega)).trans g87)) (by omega) (by omega) ?_
                        refine aw_iinc (q := 249) dX7_place_246 rfl rfl (by decide) (by omega) ?_
                        refine aw_goto (q := 191) dX7_place_249 (by decide) ?_
                        exact ih (k - 1) _ _ (by omega) (by omega) (by omega) (by omega) (((hu_n (by omega)).trans ((hu_n (by omega)).trans hu_s)).trans (congrArg (oI 300) (shF_s F7 (by omega) (by omega)))) (((hu_n (by omega)).trans hu_s).trans (congrArg (oI 300) (shF_s G7 (by omega) (by omega)))) (hu_s.trans (congrArg (oI 300) (shF_s H7 (by omega) (by omega)))) (FrR_hu (FrR_hu (FrR_hu hF1 (by omega)) (by omega)) (by omega))
                  exact loop ((60 * d + (dv d).1) + 1) (60 * d + (dv d).1) _ μ0 (by omega) (by omega) (by omega) (Nat.le_refl _) (by rw [shF_0]; exact h85) (by rw [shF_0]; exact h86) (by rw [shF_0]; exact h87) FrR_rf
                · skip
                  omega
              · skip
                refine aw_iconst (q := 165) dX7_place_164 rfl (by omega) ?_
                refine aw_goto (q := 169) dX7_place_165 (by decide) ?_
                refine aw_iconst (q := 170) dX7_place_169 rfl (by omega) ?_
                refine aw_callV [vI (1), vI (3)] (q := 173) dX7_place_170 rfl ck_X7_fails lk_X7_82 rfl ⟨Nat.le_of_ble_eq_true rfl, Nat.le_of_ble_eq_true rfl⟩ rfl rfl h82 rfl (Nat.le_of_ble_eq_true rfl) (by decide) (m_X7_fails_t h82 (by omega)) rfl (fun _ _ _ h => (Rt_x h).elim) ?_
                rintro v n9 μ9 - ⟨v9, hv9, hn9, hm9, rfl⟩
                obtain rfl := hn9.symm
                obtain rfl := hm9.symm
                obtain rfl := Sum.inl.inj hv9
                refine aw_if_eq (t := 178) (q := 176) dX7_place_173 rfl (by decide) (fun bc13 => ?_) (fun bc13 => ?_)
                · skip
                  omega
                · skip
                  refine aw_iconst (q := 177) dX7_place_176 rfl (by omega) ?_
                  exact aw_iret dX7_place_177 rfl (by decide) (by decide) ⟨rfl, (FrR_hu (FrR_w hF0 (by omega) (by omega) : FrR 82 101 μ μ0) (by omega)), 0, rfl, Or.inr (Or.inr (Or.inr (Or.inr (Or.inl ⟨⟨⟨⟨by omega, by omega⟩, by rw [hid]; unfold plHas; rw [hr]; omega⟩, by rw [hid]; omega⟩, MM_o hm0⟩))))⟩
            · skip
              have hag := ag2 d r hd5 (by omega)
              refine aw_aload_n (q := 91) dX7_place_90 rfl rfl rfl ?_
              refine aw_get (q := 94) dX7_place_91 rfl fl_X7_16 h82 rfl (fun _ => ?_)
              refine aw_iload (q := 96) dX7_place_94 rfl rfl ?_
              refine aw_iaload (j := 60 * d + r) (q := 97) dX7_place_96 rfl h85 (by omega) (by omega) (fun rx14 => ?_)
              refine aw_iload_n (q := 98) dX7_place_97 rfl rfl rfl ?_
              refine aw_ic_ne (t := 152) (q := 101) dX7_place_98 rfl (by decide) (fun bc15 => ?_) (fun bc15 => ?_)
              · skip
                refine aw_aload_n (q := 153) dX7_place_152 rfl rfl rfl ?_
                refine aw_aload_n (q := 154) dX7_place_153 rfl rfl rfl ?_
                refine aw_get (q := 157) dX7_place_154 rfl fl_X7_7 h82 rfl (fun _ => ?_)
                refine aw_iload_n (q := 158) dX7_place_157 rfl rfl rfl ?_
                refine aw_iaload (j := d) (q := 159) dX7_place_158 rfl h83 (by omega) (by omega) (fun rx16 => ?_)
                refine aw_bipush (q := 161) dX7_place_159 rfl (by decide) (by omega) ?_
                refine aw_ic_ne (t := 168) (q := 164) dX7_place_161 rfl (by decide) (fun bc17 => ?_) (fun bc17 => ?_)
                · skip
                  refine aw_iconst (q := 169) dX7_place_168 rfl (by omega) ?_
                  refine aw_iconst (q := 170) dX7_place_169 rfl (by omega) ?_
                  refine aw_callV [vI (0), vI (3)] (q := 173) dX7_place_170 rfl ck_X7_fails lk_X7_82 rfl ⟨Nat.le_of_ble_eq_true rfl, Nat.le_of_ble_eq_true rfl⟩ rfl rfl h82 rfl (Nat.le_of_ble_eq_true rfl) (by decide) (m_X7_fails_f h82) rfl (fun _ _ _ h => (Rt_x h).elim) ?_
                  rintro v n9 μ9 - ⟨v9, hv9, hn9, hm9, rfl⟩
                  obtain rfl := hn9.symm
                  obtain rfl := hm9.symm
                  obtain rfl := Sum.inl.inj hv9
                  refine aw_if_eq (t := 178) (q := 176) dX7_place_173 rfl (by decide) (fun bc18 => ?_) (fun bc18 => ?_)
                  · skip
                    refine aw_bipush (q := 180) dX7_place_178 rfl (by decide) (by omega) ?_
                    refine aw_iload_n (q := 181) dX7_place_180 rfl rfl rfl ?_
                    refine aw_imul (q := 182) dX7_place_181 rfl (by omega) ?_
                    refine aw_aload_n (q := 183) dX7_place_182 rfl rfl rfl ?_
                    refine aw_get (q := 186) dX7_place_183 rfl fl_X7_7 h82 rfl (fun _ => ?_)
                    refine aw_iload_n (q := 187) dX7_place_186 rfl rfl rfl ?_
                    refine aw_iaload (j := d) (q := 188) dX7_place_187 rfl h83 (by omega) (by omega) (fun rx19 => ?_)
                    refine aw_iadd (q := 189) dX7_place_188 rfl (by omega) ?_
                    refine aw_istore (q := 191) dX7_place_189 rfl (by decide) ?_
                    have loop : ∀ (j k : Nat) (kx : Int) (μ1 : AH), k < j → kx = (k : Int) → 60 * d + r ≤ k → k ≤ (60 * d + (dv d).1) → μ1 85 = oI 300 (shF F7 k (60 * d + (dv d).1)) → μ1 86 = oI 300 (shF G7 k (60 * d + (dv d).1)) → μ1 87 = oI 300 (shF H7 k (60 * d + (dv d).1)) → FrR 85 88 μ0 μ1 → AW YX7_place none (fun o n' μ' => n' = n ∧ FrR 82 101 μ μ' ∧ ∃ v : Int, o = .inl (some (vI v)) ∧ ((¬ (0 ≤ i ∧ i < (D : Int)) ∧ MM μ' 1 D dv Fn fv sv pk fd spd lim) ∨ (((0 ≤ i ∧ i < (D : Int)) ∧ ¬ (0 ≤ s ∧ s ≤ 1000000 ∧ -100000 ≤ x ∧ x ≤ 100000 ∧ -100000 ≤ y ∧ y ≤ 100000)) ∧ MM μ' 2 D dv Fn fv sv pk fd spd lim) ∨ (((((0 ≤ i ∧ i < (D : Int)) ∧ 0 ≤ s ∧ s ≤ 1000000 ∧ -100000 ≤ x ∧ x ≤ 100000 ∧ -100000 ≤ y ∧ y ≤ 100000) ∧ plHas (dv i.toNat) s) ∧ plSame (dv i.toNat) s x y) ∧ MM μ' 0 D (dvu dv i.toNat (dvTw (dv i.toNat))) Fn fv sv pk fd spd lim ∧ v = -2) ∨ (((((0 ≤ i ∧ i < (D : Int)) ∧ 0 ≤ s ∧ s ≤ 1000000 ∧ -100000 ≤ x ∧ x ≤ 100000 ∧ -100000 ≤ y ∧ y ≤ 100000) ∧ plHas (dv i.toNat) s) ∧ ¬ plSame (dv i.toNat) s x y) ∧ MM μ' 2 D dv Fn fv sv pk fd spd lim) ∨ (((((0 ≤ i ∧ i < (D : Int)) ∧ 0 ≤ s ∧ s ≤ 1000000 ∧ -100000 ≤ x ∧ x ≤ 100000 ∧ -100000 ≤ y ∧ y ≤ 100000) ∧ ¬ plHas (dv i.toNat) s) ∧ ¬ (dv i.toNat).1 < 60) ∧ MM μ' 3 D dv Fn fv sv pk fd spd lim) ∨ (((((0 ≤ i ∧ i < (D : Int)) ∧ 0 ≤ s ∧ s ≤ 1000000 ∧ -100000 ≤ x ∧ x ≤ 100000 ∧ -100000 ≤ y ∧ y ≤ 100000) ∧ ¬ plHas (dv i.toNat) s) ∧ (dv i.toNat).1 < 60) ∧ MM μ' 0 D (dvu dv i.toNat (dvIns (dv i.toNat) s x y)) Fn fv sv pk fd spd lim ∧ v = (plc (dv i.toNat) s : Int)))) 191 [some (vR 82), some (vI (i)), some (vI (s)), some (vI (x)), some (vI (y)), some (vI ((r : Int))), some (vI (60 * i + (r : Int))), some (vI (kx))] [] n μ1 0 0 := by
                      intro j
                      induction j with
                      | zero => intro k kx μ1 hj; exact absurd hj (Nat.not_lt_zero _)
                      | succ j ih =>
                        intro k kx μ1 hj hkx hk1 hk2 g85 g86 g87 hF1
                        refine aw_iload (q := 193) dX7_place_191 rfl rfl ?_
                        refine aw_iload (q := 195) dX7_place_193 rfl rfl ?_
                        refine aw_ic_le (t := 252) (q := 198) dX7_place_195 rfl (by decide) (fun bc1 => ?_) (fun bc1 => ?_)
                        · skip
                          obtain rfl : k = 60 * d + r := by omega
                          refine aw_aload_n (q := 253) dX7_place_252 rfl rfl rfl ?_
                          refine aw_get (q := 256) dX7_place_253 rfl fl_X7_16 ((hF1 82 (by omega)).trans h82) rfl (fun _ => ?_)
                          refine aw_iload (q := 258) dX7_place_256 rfl rfl ?_
                          refine aw_iload_n (q := 259) dX7_place_258 rfl rfl rfl ?_
                          refine aw_iastore (j := 60 * d + r) (q := 260) dX7_place_259 rfl g85 (by omega) (by omega) ?_
                          refine aw_aload_n (q := 261) dX7_place_260 rfl rfl rfl ?_
                          refine aw_get (q := 264) dX7_place_261 rfl fl_X7_19 ((hu_n (by omega)).trans ((hF1 82 (by omega)).trans h82)) rfl (fun _ => ?_)
                          refine aw_iload (q := 266) dX7_place_264 rfl rfl ?_
                          refine aw_iload_n (q := 267) dX7_place_266 rfl rfl rfl ?_
                          refine aw_iastore (j := 60 * d + r) (q := 268) dX7_place_267 rfl ((hu_n (by omega)).trans g86) (by omega) (by omega) ?_
                          refine aw_aload_n (q := 269) dX7_place_268 rfl rfl rfl ?_
                          refine aw_get (q := 272) dX7_place_269 rfl fl_X7_22 ((hu_n (by omega)).trans ((hu_n (by omega)).trans ((hF1 82 (by omega)).trans h82))) rfl (fun _ => ?_)
                          refine aw_iload (q := 274) dX7_place_272 rfl rfl ?_
                          refine aw_iload (q := 276) dX7_place_274 rfl rfl ?_
                          refine aw_iastore (j := 60 * d + r) (q := 277) dX7_place_276 rfl ((hu_n (by omega)).trans ((hu_n (by omega)).trans g87)) (by omega) (by omega) ?_
                          refine aw_aload_n (q := 278) dX7_place_277 rfl rfl rfl ?_
                          refine aw_get (q := 281) dX7_place_278 rfl fl_X7_7 ((hu_n (by omega)).trans ((hu_n (by omega)).trans ((hu_n (by omega)).trans ((hF1 82 (by omega)).trans h82)))) rfl (fun _ => ?_)
                          refine aw_iload_n (q := 282) dX7_place_281 rfl rfl rfl ?_
                          refine aw_dup2 (q := 283) dX7_place_282 rfl rfl rfl ?_
                          refine aw_iaload (j := d) (q := 284) dX7_place_283 rfl ((hu_n (by omega)).trans ((hu_n (by omega)).trans ((hu_n (by omega)).trans ((hF1 83 (by omega)).trans h83)))) (by omega) (by omega) (fun rx2 => ?_)
                          refine aw_iconst (q := 285) dX7_place_284 rfl (by omega) ?_
                          refine aw_iadd (q := 286) dX7_place_285 rfl (by omega) ?_
                          refine aw_iastore (j := d) (q := 287) dX7_place_286 rfl ((hu_n (by omega)).trans ((hu_n (by omega)).trans ((hu_n (by omega)).trans ((hF1 83 (by omega)).trans h83)))) (by omega) (by omega) ?_
                          refine aw_iload (q := 289) dX7_place_287 rfl rfl ?_
                          exact aw_iret dX7_place_289 rfl (by decide) (by decide) ⟨rfl, (FrR_hu (FrR_hu (FrR_hu (FrR_hu (FrR_tr (FrR_w hF0 (by omega) (by omega) : FrR 82 101 μ μ0) (FrR_w hF1 (by omega) (by omega))) (by omega)) (by omega)) (by omega)) (by omega)), _, rfl, Or.inr (Or.inr (Or.inr (Or.inr (Or.inr (⟨⟨⟨⟨by omega, by omega⟩, by rw [hid]; unfold plHas; rw [hr]; omega⟩, by rw [hid]; omega⟩, by rw [hid]; exact ⟨at7, ls7, wy7, (fu c7 d ((c7 d) + 1)), t7, (fu (shF F7 (60 * d + r) (60 * d + (dv d).1)) (60 * d + r) s), (fu (shF G7 (60 * d + r) (60 * d + (dv d).1)) (60 * d + r) x), (fu (shF H7 (60 * d + r) (60 * d + (dv d).1)) (60 * d + r) y), k7, a7, b7, e7, X7, Y7, y7, o7, r7, s7, u7, v7, w7, ((hu_n (by omega)).trans ((hu_n (by omega)).trans ((hu_n (by omega)).trans ((hu_n (by omega)).trans ((hF1 82 (by omega)).trans h82))))), hu_s, ((hu_n (by omega)).trans ((hu_n (by omega)).trans ((hu_n (by omega)).trans ((hu_n (by omega)).trans ((hF1 84 (by omega)).trans h84))))), ((hu_n (by omega)).trans ((hu_n (by omega)).trans ((hu_n (by omega)).trans hu_s))), ((hu_n (by omega)).trans ((hu_n (by omega)).trans hu_s)), ((hu_n (by omega)).trans hu_s), ((hu_n (by omega)).trans ((hu_n (by omega)).trans ((hu_n (by omega)).trans ((hu_n (by omega)).trans ((hF1 88 (by omega)).trans h88))))), ((hu_n (by omega)).trans ((hu_n (by omega)).trans ((hu_n (by omega)).trans ((hu_n (by omega)).trans ((hF1 89 (by omega)).trans h89))))), ((hu_n (by omega)).trans ((hu_n (by omega)).trans ((hu_n (by omega)).trans ((hu_n (by omega)).trans ((hF1 90 (by omega)).trans h90))))), ((hu_n (by omega)).trans ((hu_n (by omega)).trans ((hu_n (by omega)).trans ((hu_n (by omega)).trans ((hF1 91 (by omega)).trans h91))))), ((hu_n (by omega)).trans ((hu_n (by omega)).trans ((hu_n (by omega)).trans ((hu_n (by omega)).trans ((hF1 92 (by omega)).trans h92))))), ((hu_n (by omega)).trans ((hu_n (by omega)).trans ((hu_n (by omega)).trans ((hu_n (by omega)).trans ((hF1 93 (by omega)).trans h93))))), ((hu_n (by omega)).trans ((hu_n (by omega)).trans ((hu_n (by omega)).trans ((hu_n (by omega)).trans ((hF1 94 (by omega)).trans h94))))), ((hu_n (by omega)).trans ((hu_n (by omega)).trans ((hu_n (by omega)).trans ((hu_n (by omega)).trans ((hF1 95 (by omega)).trans h95))))), ((hu_n (by omega)).trans ((hu_n (by omega)).trans ((hu_n (by omega)).trans ((hu_n (by omega)).trans ((hF1 96 (by omega)).trans h96))))), ((hu_n (by omega)).trans ((hu_n (by omega)).trans ((hu_n (by omega)).trans ((hu_n (by omega)).trans ((hF1 97 (by omega)).trans h97))))), ((hu_n (by omega)).trans ((hu_n (by omega)).trans ((hu_n (by omega)).trans ((hu_n (by omega)).trans ((hF1 98 (by omega)).trans h98))))), ((hu_n (by omega)).trans ((hu_n (by omega)).trans ((hu_n (by omega)).trans ((hu_n (by omega)).trans ((hF1 99 (by omega)).trans h99))))), ((hu_n (by omega)).trans ((hu_n (by omega)).trans ((hu_n (by omega)).trans ((hu_n (by omega)).trans ((hF1 100 (by omega)).trans h100))))), (AG1_u ag1 (fun e q => ⟨fu_n q, rfl, rfl⟩) ⟨fu_s.trans (by rw [hcd.1]; exact (Int.natCast_succ _).symm), hcd.2.1, hcd.2.2⟩), (AG2_u ag2 (fun e he => (hdv e he).1.1) (fun e p q he hp => ⟨(congrFun (shF_e F7 s) _).trans (ins_out (a := 60 * d + r) (c := (60 * d + (dv d).1)) (by omega) (by omega)), (congrFun (shF_e G7 x) _).trans (ins_out (a := 60 * d + r) (c := (60 * d + (dv d).1)) (by omega) (by omega)), (congrFun (shF_e H7 y) _).trans (ins_out (a := 60 * d + r) (c := (60 * d + (dv d).1)) (by omega) (by omega))⟩) (fun p hp => by have hp9 : p < (dv d).1 + 1 := hp; unfold dvIns; rw [hr]; exact ⟨(congrFun (shF_e F7 s) _).trans (ins_in (fun q hq => (ag2 d q hd5 hq).1) hrl hp9), (congrFun (shF_e G7 x) _).trans (ins_in (fun q hq => (ag2 d q hd5 hq).2.1) hrl hp9), (congrFun (shF_e H7 y) _).trans (ins_in (fun q hq => (ag2 d q hd5 hq).2.2) hrl hp9)⟩)), (AG3_u ag3 (fun e he => (hdv e he).1.2.2.2.1) (fun e p _ _ _ => ⟨rfl, rfl⟩) (fun p hp => ag3 d p hd5 hp)), ag4, ag5, ag6, ag7, ag8⟩, by rw [hid, hr]⟩)))))⟩
                        · skip
                          refine aw_aload_n (q := 199) dX7_place_198 rfl rfl rfl ?_
                          refine aw_get (q := 202) dX7_place_199 rfl fl_X7_16 ((hF1 82 (by omega)).trans h82) rfl (fun _ => ?_)
                          refine aw_iload (q := 204) dX7_place_202 rfl rfl ?_
                          refine aw_aload_n (q := 205) dX7_place_204 rfl rfl rfl ?_
                          refine aw_get (q := 208) dX7_place_205 rfl fl_X7_16 ((hF1 82 (by omega)).trans h82) rfl (fun _ => ?_)
                          refine aw_iload (q := 210) dX7_place_208 rfl rfl ?_
                          refine aw_iconst (q := 211) dX7_place_210 rfl (by omega) ?_
                          refine aw_isub (q := 212) dX7_place_211 rfl (by omega) ?_
                          refine aw_iaload (j := k - 1) (q := 213) dX7_place_212 rfl g85 (by omega) (by omega) (fun rx3 => ?_)
                          refine aw_iastore (j := k) (q := 214) dX7_place_213 rfl g85 (by omega) (by omega) ?_
                          refine aw_aload_n (q := 215) dX7_place_214 rfl rfl rfl ?_
                          refine aw_get (q := 218) dX7_place_215 rfl fl_X7_19 ((hu_n (by omega)).trans ((hF1 82 (by omega)).trans h82)) rfl (fun _ => ?_)
                          refine aw_iload (q := 220) dX7_place_218 rfl rfl ?_
                          refine aw_aload_n (q := 221) dX7_place_220 rfl rfl rfl ?_
                          refine aw_get (q := 224) dX7_place_221 rfl fl_X7_19 ((hu_n (by omega)).trans ((hF1 82 (by omega)).trans h82)) rfl (fun _ => ?_)
                          refine aw_iload (q := 226) dX7_place_224 rfl rfl ?_
                          refine aw_iconst (q := 227) dX7_place_226 rfl (by omega) ?_
                          refine aw_isub (q := 228) dX7_place_227 rfl (by omega) ?_
                          refine aw_iaload (j := k - 1) (q := 229) dX7_place_228 rfl ((hu_n (by omega)).trans g86) (by omega) (by omega) (fun rx4 => ?_)
                          refine aw_iastore (j := k) (q := 230) dX7_place_229 rfl ((hu_n (by omega)).trans g86) (by omega) (by omega) ?_
                          refine aw_aload_n (q := 231) dX7_place_230 rfl rfl rfl ?_
                          refine aw_get (q := 234) dX7_place_231 rfl fl_X7_22 ((hu_n (by omega)).trans ((hu_n (by omega)).trans ((hF1 82 (by omega)).trans h82))) rfl (fun _ => ?_)
                          refine aw_iload (q := 236) dX7_place_234 rfl rfl ?_
                          refine aw_aload_n (q := 237) dX7_place_236 rfl rfl rfl ?_
                          refine aw_get (q := 240) dX7_place_237 rfl fl_X7_22 ((hu_n (by omega)).trans ((hu_n (by omega)).trans ((hF1 82 (by omega)).trans h82))) rfl (fun _ => ?_)
                          refine aw_iload (q := 242) dX7_place_240 rfl rfl ?_
                          refine aw_iconst (q := 243) dX7_place_242 rfl (by omega) ?_
                          refine aw_isub (q := 244) dX7_place_243 rfl (by omega) ?_
                          refine aw_iaload (j := k - 1) (q := 245) dX7_place_244 rfl ((hu_n (by omega)).trans ((hu_n (by omega)).trans g87)) (by omega) (by omega) (fun rx5 => ?_)
                          refine aw_iastore (j := k) (q := 246) dX7_place_245 rfl ((hu_n (by omega)).trans ((hu_n (by omega)).trans g87)) (by omega) (by omega) ?_
                          refine aw_iinc (q := 249) dX7_place_246 rfl rfl (by decide) (by omega) ?_
                          refine aw_goto (q := 191) dX7_place_249 (by decide) ?_
                          exact ih (k - 1) _ _ (by omega) (by omega) (by omega) (by omega) (((hu_n (by omega)).trans ((hu_n (by omega)).trans hu_s)).trans (congrArg (oI 300) (shF_s F7 (by omega) (by omega)))) (((hu_n (by omega)).trans hu_s).trans (congrArg (oI 300) (shF_s G7 (by omega) (by omega)))) (hu_s.trans (congrArg (oI 300) (shF_s H7 (by omega) (by omega)))) (FrR_hu (FrR_hu (FrR_hu hF1 (by omega)) (by omega)) (by omega))
                    exact loop ((60 * d + (dv d).1) + 1) (60 * d + (dv d).1) _ μ0 (by omega) (by omega) (by omega) (Nat.le_refl _) (by rw [shF_0]; exact h85) (by rw [shF_0]; exact h86) (by rw [shF_0]; exact h87) FrR_rf
                  · skip
                    omega
                · skip
                  refine aw_iconst (q := 165) dX7_place_164 rfl (by omega) ?_
                  refine aw_goto (q := 169) dX7_place_165 (by decide) ?_
                  refine aw_iconst (q := 170) dX7_place_169 rfl (by omega) ?_
                  refine aw_callV [vI (1), vI (3)] (q := 173) dX7_place_170 rfl ck_X7_fails lk_X7_82 rfl ⟨Nat.le_of_ble_eq_true rfl, Nat.le_of_ble_eq_true rfl⟩ rfl rfl h82 rfl (Nat.le_of_ble_eq_true rfl) (by decide) (m_X7_fails_t h82 (by omega)) rfl (fun _ _ _ h => (Rt_x h).elim) ?_
                  rintro v n9 μ9 - ⟨v9, hv9, hn9, hm9, rfl⟩
                  obtain rfl := hn9.symm
                  obtain rfl := hm9.symm
                  obtain rfl := Sum.inl.inj hv9
                  refine aw_if_eq (t := 178) (q := 176) dX7_place_173 rfl (by decide) (fun bc20 => ?_) (fun bc20 => ?_)
                  · skip
                    omega
                  · skip
                    refine aw_iconst (q := 177) dX7_place_176 rfl (by omega) ?_
                    exact aw_iret dX7_place_177 rfl (by decide) (by decide) ⟨rfl, (FrR_hu (FrR_w hF0 (by omega) (by omega) : FrR 82 101 μ μ0) (by omega)), 0, rfl, Or.inr (Or.inr (Or.inr (Or.inr (Or.inl ⟨⟨⟨⟨by omega, by omega⟩, by rw [hid]; unfold plHas; rw [hr]; omega⟩, by rw [hid]; omega⟩, MM_o hm0⟩))))⟩
              · skip
                refine aw_aload_n (q := 102) dX7_place_101 rfl rfl rfl ?_
                refine aw_aload_n (q := 103) dX7_place_102 rfl rfl rfl ?_
                refine aw_get (q := 106) dX7_place_103 rfl fl_X7_19 h82 rfl (fun _ => ?_)
                refine aw_iload (q := 108) dX7_place_106 rfl rfl ?_
                refine aw_iaload (j := 60 * d + r) (q := 109) dX7_place_108 rfl h86 (by omega) (by omega) (fun rx21 => ?_)
                refine aw_iload_n (q := 110) dX7_place_109 rfl rfl rfl ?_
                refine aw_ic_ne (t := 125) (q := 113) dX7_place_110 rfl (by decide) (fun bc22 => ?_) (fun bc22 => ?_)
                · skip
                  refine aw_iconst (q := 126) dX7_place_125 rfl (by omega) ?_
                  refine aw_goto (q := 130) dX7_place_126 (by decide) ?_
                  refine aw_iconst (q := 131) dX7_place_130 rfl (by omega) ?_
                  refine aw_callV [vI (1), vI (2)] (q := 134) dX7_place_131 rfl ck_X7_fails lk_X7_82 rfl ⟨Nat.le_of_ble_eq_true rfl, Nat.le_of_ble_eq_true rfl⟩ rfl rfl h82 rfl (Nat.le_of_ble_eq_true rfl) (by decide) (m_X7_fails_t h82 (by omega)) rfl (fun _ _ _ h => (Rt_x h).elim) ?_
                  rintro v n9 μ9 - ⟨v9, hv9, hn9, hm9, rfl⟩
                  obtain rfl := hn9.symm
                  obtain rfl := hm9.symm
                  obtain rfl := Sum.inl.inj hv9
                  refine aw_if_eq (t := 139) (q := 137) dX7_place_134 rfl (by decide) (fun bc23 => ?_) (fun bc23 => ?_)
                  · skip
                    omega
                  · skip
                    refine aw_iconst (q := 138) dX7_place_137 rfl (by omega) ?_
                    exact aw_iret dX7_place_138 rfl (by decide) (by decide) ⟨rfl, (FrR_hu (FrR_w hF0 (by omega) (by omega) : FrR 82 101 μ μ0) (by omega)), 0, rfl, Or.inr (Or.inr (Or.inr (Or.inl ⟨⟨⟨⟨by omega, by omega⟩, by rw [hid]; unfold plHas; rw [hr]; omega⟩, by rw [hid]; unfold plSame; rw [hr]; omega⟩, MM_o hm0⟩)))⟩
                · skip
                  refine aw_aload_n (q := 114) dX7_place_113 rfl rfl rfl ?_
                  refine aw_get (q := 117) dX7_place_114 rfl fl_X7_22 h82 rfl (fun _ => ?_)
                  refine aw_iload (q := 119) dX7_place_117 rfl rfl ?_
                  refine aw_iaload (j := 60 * d + r) (q := 120) dX7_place_119 rfl h87 (by omega) (by omega) (fun rx24 => ?_)
                  refine aw_iload (q := 122) dX7_place_120 rfl rfl ?_
                  refine aw_ic_eq (t := 129) (q := 125) dX7_place_122 rfl (by decide) (fun bc25 => ?_) (fun bc25 => ?_)
                  · skip
                    refine aw_iconst (q := 130) dX7_place_129 rfl (by omega) ?_
                    refine aw_iconst (q := 131) dX7_place_130 rfl (by omega) ?_
                    refine aw_callV [vI (0), vI (2)] (q := 134) dX7_place_131 rfl ck_X7_fails lk_X7_82 rfl ⟨Nat.le_of_ble_eq_true rfl, Nat.le_of_ble_eq_true rfl⟩ rfl rfl h82 rfl (Nat.le_of_ble_eq_true rfl) (by decide) (m_X7_fails_f h82) rfl (fun _ _ _ h => (Rt_x h).elim) ?_
                    rintro v n9 μ9 - ⟨v9, hv9, hn9, hm9, rfl⟩
                    obtain rfl := hn9.symm
                    obtain rfl := hm9.symm
                    obtain rfl := Sum.inl.inj hv9
                    refine aw_if_eq (t := 139) (q := 137) dX7_place_134 rfl (by decide) (fun bc26 => ?_) (fun bc26 => ?_)
                    · skip
                      have htw := (hdv d hd5).2
                      refine aw_aload_n (q := 140) dX7_place_139 rfl rfl rfl ?_
                      refine aw_get (q := 143) dX7_place_140 rfl fl_X7_13 h82 rfl (fun _ => ?_)
                      refine aw_iload_n (q := 144) dX7_place_143 rfl rfl rfl ?_
                      refine aw_dup2 (q := 145) dX7_place_144 rfl rfl rfl ?_
                      refine aw_iaload (j := d) (q := 146) dX7_place_145 rfl h84 (by omega) (by omega) (fun rx27 => ?_)
                      refine aw_iconst (q := 147) dX7_place_146 rfl (by omega) ?_
                      refine aw_iadd (q := 148) dX7_place_147 rfl (by omega) ?_
                      refine aw_iastore (j := d) (q := 149) dX7_place_148 rfl h84 (by omega) (by omega) ?_
                      refine aw_bipush (q := 151) dX7_place_149 rfl (by decide) (by omega) ?_
                      exact aw_iret dX7_place_151 rfl (by decide) (by decide) ⟨rfl, (FrR_hu (FrR_w hF0 (by omega) (by omega) : FrR 82 101 μ μ0) (by omega)), _, rfl, Or.inr (Or.inr (Or.inl ⟨⟨⟨⟨by omega, by omega⟩, by rw [hid]; unfold plHas; rw [hr]; omega⟩, by rw [hid]; unfold plSame; rw [hr]; omega⟩, by rw [hid]; exact ⟨at7, ls7, wy7, c7, (fu t7 d ((t7 d) + 1)), F7, G7, H7, k7, a7, b7, e7, X7, Y7, y7, o7, r7, s7, u7, v7, w7, ((hu_n (by omega)).trans h82), ((hu_n (by omega)).trans h83), hu_s, ((hu_n (by omega)).trans h85), ((hu_n (by omega)).trans h86), ((hu_n (by omega)).trans h87), ((hu_n (by omega)).trans h88), ((hu_n (by omega)).trans h89), ((hu_n (by omega)).trans h90), ((hu_n (by omega)).trans h91), ((hu_n (by omega)).trans h92), ((hu_n (by omega)).trans h93), ((hu_n (by omega)).trans h94), ((hu_n (by omega)).trans h95), ((hu_n (by omega)).trans h96), ((hu_n (by omega)).trans h97), ((hu_n (by omega)).trans h98), ((hu_n (by omega)).trans h99), ((hu_n (by omega)).trans h100), (AG1_u ag1 (fun e q => ⟨rfl, fu_n q, rfl⟩) ⟨hcd.1, fu_s.trans (by rw [hcd.2.1]; rfl), hcd.2.2⟩), (AG2_u ag2 (fun e he => (hdv e he).1.1) (fun e p _ _ _ => ⟨rfl, rfl, rfl⟩) (fun p hp => ag2 d p hd5 hp)), (AG3_u ag3 (fun e he => (hdv e he).1.2.2.2.1) (fun e p _ _ _ => ⟨rfl, rfl⟩) (fun p hp => ag3 d p hd5 hp)), ag4, ag5, ag6, ag7, ag8⟩, rfl⟩))⟩
                    · skip
                      omega
                  · skip
                    refine aw_iconst (q := 126) dX7_place_125 rfl (by omega) ?_
                    refine aw_goto (q := 130) dX7_place_126 (by decide) ?_
                    refine aw_iconst (q := 131) dX7_place_130 rfl (by omega) ?_
                    refine aw_callV [vI (1), vI (2)] (q := 134) dX7_place_131 rfl ck_X7_fails lk_X7_82 rfl ⟨Nat.le_of_ble_eq_true rfl, Nat.le_of_ble_eq_true rfl⟩ rfl rfl h82 rfl (Nat.le_of_ble_eq_true rfl) (by decide) (m_X7_fails_t h82 (by omega)) rfl (fun _ _ _ h => (Rt_x h).elim) ?_
                    rintro v n9 μ9 - ⟨v9, hv9, hn9, hm9, rfl⟩
                    obtain rfl := hn9.symm
                    obtain rfl := hm9.symm
                    obtain rfl := Sum.inl.inj hv9
                    refine aw_if_eq (t := 139) (q := 137) dX7_place_134 rfl (by decide) (fun bc28 => ?_) (fun bc28 => ?_)
                    · skip
                      omega
                    · skip
                      refine aw_iconst (q := 138) dX7_place_137 rfl (by omega) ?_
                      exact aw_iret dX7_place_138 rfl (by decide) (by decide) ⟨rfl, (FrR_hu (FrR_w hF0 (by omega) (by omega) : FrR 82 101 μ μ0) (by omega)), 0, rfl, Or.inr (Or.inr (Or.inr (Or.inl ⟨⟨⟨⟨by omega, by omega⟩, by rw [hid]; unfold plHas; rw [hr]; omega⟩, by rw [hid]; unfold plSame; rw [hr]; omega⟩, MM_o hm0⟩)))⟩
          · skip
            omega
        · skip
          replace bc5 := bz_0.mp bc5
          refine aw_iconst (q := 49) dX7_place_48 rfl (by omega) ?_
          refine aw_goto (q := 53) dX7_place_49 (by decide) ?_
          refine aw_iconst (q := 54) dX7_place_53 rfl (by omega) ?_
          refine aw_callV [vI (1), vI (2)] (q := 57) dX7_place_54 rfl ck_X7_fails lk_X7_82 rfl ⟨Nat.le_of_ble_eq_true rfl, Nat.le_of_ble_eq_true rfl⟩ rfl rfl h82 rfl (Nat.le_of_ble_eq_true rfl) (by decide) (m_X7_fails_t h82 (by omega)) rfl (fun _ _ _ h => (Rt_x h).elim) ?_
          rintro v n9 μ9 - ⟨v9, hv9, hn9, hm9, rfl⟩
          obtain rfl := hn9.symm
          obtain rfl := hm9.symm
          obtain rfl := Sum.inl.inj hv9
          refine aw_if_eq (t := 62) (q := 60) dX7_place_57 rfl (by decide) (fun bc29 => ?_) (fun bc29 => ?_)
          · skip
            omega
          · skip
            refine aw_iconst (q := 61) dX7_place_60 rfl (by omega) ?_
            exact aw_iret dX7_place_61 rfl (by decide) (by decide) ⟨rfl, (FrR_hu (FrR_w hF0 (by omega) (by omega) : FrR 82 101 μ μ0) (by omega)), 0, rfl, Or.inr (Or.inl ⟨⟨by omega, by omega⟩, MM_o hm0⟩)⟩
  · skip
    replace bc1 := bz_0.mp bc1
    refine aw_iconst (q := 15) dX7_place_14 rfl (by omega) ?_
    refine aw_goto (q := 19) dX7_place_15 (by decide) ?_
    refine aw_iconst (q := 20) dX7_place_19 rfl (by omega) ?_
    refine aw_callV [vI (1), vI (1)] (q := 23) dX7_place_20 rfl ck_X7_fails lk_X7_82 rfl ⟨Nat.le_of_ble_eq_true rfl, Nat.le_of_ble_eq_true rfl⟩ rfl rfl h82 rfl (Nat.le_of_ble_eq_true rfl) (by decide) (m_X7_fails_t h82 (by omega)) rfl (fun _ _ _ h => (Rt_x h).elim) ?_
    rintro v n9 μ9 - ⟨v9, hv9, hn9, hm9, rfl⟩
    obtain rfl := hn9.symm
    obtain rfl := hm9.symm
    obtain rfl := Sum.inl.inj hv9
    refine aw_if_ne (t := 60) (q := 26) dX7_place_23 rfl (by decide) (fun bc30 => ?_) (fun bc30 => ?_)
    · skip
      refine aw_iconst (q := 61) dX7_place_60 rfl (by omega) ?_
      exact aw_iret dX7_place_61 rfl (by decide) (by decide) ⟨rfl, (FrR_hu (FrR_w hF0 (by omega) (by omega) : FrR 82 101 μ μ0) (by omega)), 0, rfl, Or.inl ⟨by omega, MM_o hm0⟩⟩
    · skip
      omega
