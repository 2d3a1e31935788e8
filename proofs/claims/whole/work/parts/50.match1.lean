/-! ===== TrackRows$Matching (written by m_match.py) ===== -/
def lsu (Ls : Nat → Nat → Int) (s : Nat) (g : Nat → Int) : Nat → Nat → Int := fun k => if k = s then g else Ls k
theorem lsu_s {Ls : Nat → Nat → Int} {s : Nat} {g : Nat → Int} : lsu Ls s g s = g := if_pos rfl
theorem lsu_n {Ls : Nat → Nat → Int} {s k : Nat} {g : Nat → Int} (h : k ≠ s) : lsu Ls s g k = Ls k := if_neg h
theorem MT_ls {μ : AH} {W Ls : Nat → Nat → Int} {ch : Nat → Int} {sc dc : Int} {s : Nat} {g : Nat → Int} (h : MT μ W Ls ch sc dc) (hs : s < 6) : MT (hu μ (15 + s) (oL 32 g)) W (lsu Ls s g) ch sc dc := by
  refine ⟨(hu_n (by omega)).trans h.1, (hu_n (by omega)).trans h.2.1, fun k hk => (hu_n (by omega)).trans (h.2.2.1 k hk), (hu_n (by omega)).trans h.2.2.2.1, fun k hk => ?_, (hu_n (by omega)).trans h.2.2.2.2.2⟩
  by_cases e : k = s
  · subst e; rw [lsu_s]; exact hu_s
  · rw [lsu_n e]; exact (hu_n (by omega)).trans (h.2.2.2.2.1 k hk)
theorem MT_w {μ : AH} {W Ls : Nat → Nat → Int} {ch : Nat → Int} {sc dc : Int} {s : Nat} {g : Nat → Int} (h : MT μ W Ls ch sc dc) (hs : s < 5) : MT (hu μ (9 + s) (oL 5 g)) (lsu W s g) Ls ch sc dc := by
  refine ⟨(hu_n (by omega)).trans h.1, (hu_n (by omega)).trans h.2.1, fun k hk => ?_, (hu_n (by omega)).trans h.2.2.2.1, fun k hk => (hu_n (by omega)).trans (h.2.2.2.2.1 k hk), (hu_n (by omega)).trans h.2.2.2.2.2⟩
  by_cases e : k = s
  · subst e; rw [lsu_s]; exact hu_s
  · rw [lsu_n e]; exact (hu_n (by omega)).trans (h.2.2.1 k hk)
theorem MT_c {μ : AH} {W Ls : Nat → Nat → Int} {ch g : Nat → Int} {sc dc : Int} (h : MT μ W Ls ch sc dc) : MT (hu μ 21 (oI 5 g)) W Ls g sc dc :=
  ⟨(hu_n (by omega)).trans h.1, (hu_n (by omega)).trans h.2.1, fun k hk => (hu_n (by omega)).trans (h.2.2.1 k hk), (hu_n (by omega)).trans h.2.2.2.1, fun k hk => (hu_n (by omega)).trans (h.2.2.2.2.1 k hk), hu_s⟩
theorem MT_f {μ : AH} {W Ls : Nat → Nat → Int} {ch : Nat → Int} {sc dc sc' dc' : Int} (h : MT μ W Ls ch sc dc) : MT (hu μ 7 (oO 4 [vR 8, vR 14, vR 21, vI sc', vI dc'])) W Ls ch sc' dc' :=
  ⟨hu_s, (hu_n (by omega)).trans h.2.1, fun k hk => (hu_n (by omega)).trans (h.2.2.1 k hk), (hu_n (by omega)).trans h.2.2.2.1, fun k hk => (hu_n (by omega)).trans (h.2.2.2.2.1 k hk), (hu_n (by omega)).trans h.2.2.2.2.2⟩
theorem p5_32 {D : Nat} (h : D ≤ 5) : 2 ^ D ≤ 32 := Nat.pow_le_pow_right (n := 2) (by omega) h
theorem p5_d {d : Nat} (h : d < 5) : 1 * 2 ^ d ≤ 16 := by rw [Nat.one_mul]; exact Nat.pow_le_pow_right (n := 2) (by omega) (show d ≤ 4 by omega)
theorem bt_32 {T d : Nat} (hT : T < 32) (hd : d < 5) : bt T d < 32 := bt_lt (D := 5) hT hd
set_option maxHeartbeats 4000000 in
set_option maxRecDepth 100000 in
theorem m_X4_sumWith_5 {n : Nat} {μ : AH} {W Ls : Nat → Nat → Int} {ch : Nat → Int} {sc dc : Int} {x : Int} {s T : Nat} (hx : x = (s : Int)) (hs : s < 5) (hT : T < 32) (hLT : 0 ≤ Ls (s + 1) T ∧ Ls (s + 1) T ≤ 10000000000000) (hM : MT μ W Ls ch sc dc) : AMet YX4_sumWith [vR 7, vI (x), vI ((T : Int)), vI ((-1))] n μ (Pv n μ (vL (sw W Ls s T 5))) := by
  refine AMet.of (by decide) rfl (Nat.le_of_ble_eq_true rfl) ?_
  refine aw_iload_n (q := 1) dX4_sumWith_0 rfl rfl rfl ?_
  refine aw_iconst (q := 2) dX4_sumWith_1 rfl (by omega) ?_
  refine aw_ic_ne (t := 22) (q := 5) dX4_sumWith_2 rfl (by decide) (fun bc1 => ?_) (fun bc1 => ?_)
  · skip
    omega
  · skip
    refine aw_ldc2 (a := 1000000000000) (q := 8) dX4_sumWith_5 rfl k_X4_48 (by omega) ?_
    refine aw_aload_n (q := 9) dX4_sumWith_8 rfl rfl rfl ?_
    refine aw_get (q := 12) dX4_sumWith_9 rfl fl_X4_16 hM.1 rfl (fun _ => ?_)
    refine aw_iload_n (q := 13) dX4_sumWith_12 rfl rfl rfl ?_
    refine aw_iconst (q := 14) dX4_sumWith_13 rfl (by omega) ?_
    refine aw_iadd (q := 15) dX4_sumWith_14 rfl (by omega) ?_
    refine aw_aaload (j := s + 1) (b := (15 + (s + 1))) (q := 16) dX4_sumWith_15 rfl hM.2.2.2.1 (by omega) (by omega) (by decide) (if_pos (by omega)) ?_
    refine aw_iload_n (q := 17) dX4_sumWith_16 rfl rfl rfl ?_
    refine aw_laload (j := T) (q := 18) dX4_sumWith_17 rfl (hM.2.2.2.2.1 (s + 1) (by omega)) (by omega) (by omega) (fun r2 => ?_)
    refine aw_ladd (q := 19) dX4_sumWith_18 rfl (by omega) ?_
    refine aw_goto (q := 45) dX4_sumWith_19 (by decide) ?_
    exact aw_lret dX4_sumWith_45 rfl (by decide) (by decide) ⟨_, rfl, rfl, rfl, rfl⟩
set_option maxHeartbeats 4000000 in
set_option maxRecDepth 100000 in
theorem m_X4_sumWith_d {n : Nat} {μ : AH} {W Ls : Nat → Nat → Int} {ch : Nat → Int} {sc dc : Int} {x : Int} {s T d : Nat} (hx : x = (s : Int)) (hs : s < 5) (hd : d < 5) (hT : T < 32) (hW : -1 ≤ W s d ∧ W s d ≤ 80000000000) (hLT : 0 ≤ Ls (s + 1) (T ||| 1 * 2 ^ d) ∧ Ls (s + 1) (T ||| 1 * 2 ^ d) ≤ 10000000000000) (hM : MT μ W Ls ch sc dc) : AMet YX4_sumWith [vR 7, vI (x), vI ((T : Int)), vI ((d : Int))] n μ (Pv n μ (vL (sw W Ls s T d))) := by
  refine AMet.of (by decide) rfl (Nat.le_of_ble_eq_true rfl) ?_
  have hp := p5_d hd
  have hb : T ||| 1 * 2 ^ d < 32 := bt_32 hT hd
  refine aw_iload_n (q := 1) dX4_sumWith_0 rfl rfl rfl ?_
  refine aw_iconst (q := 2) dX4_sumWith_1 rfl (by omega) ?_
  refine aw_ic_ne (t := 22) (q := 5) dX4_sumWith_2 rfl (by decide) (fun bc1 => ?_) (fun bc1 => ?_)
  · skip
    refine aw_aload_n (q := 23) dX4_sumWith_22 rfl rfl rfl ?_
    refine aw_get (q := 26) dX4_sumWith_23 rfl fl_X4_11 hM.1 rfl (fun _ => ?_)
    refine aw_iload_n (q := 27) dX4_sumWith_26 rfl rfl rfl ?_
    refine aw_aaload (j := s) (b := (9 + s)) (q := 28) dX4_sumWith_27 rfl hM.2.1 (by omega) (by omega) (by decide) (if_pos (by omega)) ?_
    refine aw_iload_n (q := 29) dX4_sumWith_28 rfl rfl rfl ?_
    refine aw_laload (j := d) (q := 30) dX4_sumWith_29 rfl (hM.2.2.1 s (by omega)) (by omega) (by omega) (fun r2 => ?_)
    refine aw_aload_n (q := 31) dX4_sumWith_30 rfl rfl rfl ?_
    refine aw_get (q := 34) dX4_sumWith_31 rfl fl_X4_16 hM.1 rfl (fun _ => ?_)
    refine aw_iload_n (q := 35) dX4_sumWith_34 rfl rfl rfl ?_
    refine aw_iconst (q := 36) dX4_sumWith_35 rfl (by omega) ?_
    refine aw_iadd (q := 37) dX4_sumWith_36 rfl (by omega) ?_
    refine aw_aaload (j := s + 1) (b := (15 + (s + 1))) (q := 38) dX4_sumWith_37 rfl hM.2.2.2.1 (by omega) (by omega) (by decide) (if_pos (by omega)) ?_
    refine aw_iload_n (q := 39) dX4_sumWith_38 rfl rfl rfl ?_
    refine aw_iconst (q := 40) dX4_sumWith_39 rfl (by omega) ?_
    refine aw_iload_n (q := 41) dX4_sumWith_40 rfl rfl rfl ?_
    refine aw_ishl (a := 1) (b := d) (q := 42) dX4_sumWith_41 rfl (by omega) (by omega) ?_
    refine aw_ior (a := T) (b := 1 * 2 ^ d) (q := 43) dX4_sumWith_42 rfl (by omega) ?_
    refine aw_laload (j := T ||| (1 * 2 ^ d)) (q := 44) dX4_sumWith_43 rfl (hM.2.2.2.2.1 (s + 1) (by omega)) (by omega) (by omega) (fun r3 => ?_)
    refine aw_ladd (q := 45) dX4_sumWith_44 rfl (by omega) ?_
    exact aw_lret dX4_sumWith_45 rfl (by decide) (by decide) ⟨_, rfl, rfl, rfl, congrArg vL (by unfold sw wg tn; rw [if_neg (by omega), if_neg (by omega)])⟩
  · skip
    omega
theorem m_X4_sumWith {n : Nat} {μ : AH} {W Ls : Nat → Nat → Int} {ch : Nat → Int} {sc dc : Int} {x r : Int} {s T g D : Nat} (hx : x = (s : Int)) (hs : s < 5) (hD : D ≤ 5) (hT : T < 32) (hg : g = 5 ∨ g < D) (hr : r = gi g) (hW : ∀ d, d < D → -1 ≤ W s d ∧ W s d ≤ 80000000000) (hL : 0 ≤ Ls (s + 1) (tn T g) ∧ Ls (s + 1) (tn T g) ≤ 10000000000000) (hM : MT μ W Ls ch sc dc) : AMet YX4_sumWith [vR 7, vI x, vI (T : Int), vI r] n μ (Pv n μ (vL (sw W Ls s T g))) := by
  subst hr
  by_cases h : g = 5
  · subst h; exact m_X4_sumWith_5 hx hs hT hL hM
  · rw [gi_n h]; rw [show tn T g = T ||| 1 * 2 ^ g from if_neg h] at hL; exact m_X4_sumWith_d hx hs (by omega) hT (hW g (by omega)) hL hM
set_option maxHeartbeats 4000000 in
set_option maxRecDepth 100000 in
theorem m_X4_firstBest {n : Nat} {μ : AH} {W Ls : Nat → Nat → Int} {ch : Nat → Int} {sc dc : Int} {x : Int} {s T D : Nat} (hx : x = (s : Int)) (hs : s < 5) (hD : D ≤ 5) (hdc : dc = (D : Int)) (hTD : T < 2 ^ D) (hW : ∀ d, d < D → -1 ≤ W s d ∧ W s d ≤ 80000000000) (hL : ∀ T, T < 2 ^ D → 0 ≤ Ls (s + 1) T ∧ Ls (s + 1) T ≤ 10000000000000) (hM : MT μ W Ls ch sc dc) : AMet YX4_firstBest [vR 7, vI (x), vI ((T : Int))] n μ (Rt (fun v n' μ' => n' = n ∧ μ' = μ ∧ ∃ g : Nat, v = vI (gi g) ∧ FB W Ls D s T g)) := by
  refine AMet.of (by decide) rfl (Nat.le_of_ble_eq_true rfl) ?_
  have hT : T < 32 := Nat.lt_of_lt_of_le hTD (p5_32 hD)
  have loop : ∀ (j k g : Nat) (r b zd : Int), k < j → k ≤ D → zd = (k : Int) - 1 → r = gi g → b = sw W Ls s T g → (g = 5 ∨ (k ≤ g ∧ g < D ∧ T &&& (1 * 2 ^ g) = 0 ∧ W s g ≠ -1)) → sw W Ls s T g ≤ sw W Ls s T 5 → (∀ e, (k ≤ e) → okg W D s T e → sw W Ls s T g < sw W Ls s T e ∨ (sw W Ls s T g = sw W Ls s T e ∧ g ≤ e)) → AW YX4_firstBest none (Rt (fun v n' μ' => n' = n ∧ μ' = μ ∧ ∃ g : Nat, v = vI (gi g) ∧ FB W Ls D s T g)) 19 [some (vR 7), some (vI (x)), some (vI ((T : Int))), some (vI (r)), some (vL (b)), none, some (vI (zd))] [] n μ 0 0 := by
    intro j
    induction j with
    | zero => intro k g r b zd hj; exact absurd hj (Nat.not_lt_zero _)
    | succ j ih =>
      intro k g r b zd hj hkD hz hr hb hg0 hg1 hg2
      refine aw_iload (q := 21) dX4_firstBest_19 rfl rfl ?_
      refine aw_if_lt (t := 82) (q := 24) dX4_firstBest_21 rfl (by decide) (fun bc1 => ?_) (fun bc1 => ?_)
      · skip
        refine aw_iload_n (q := 83) dX4_firstBest_82 rfl rfl rfl ?_
        exact aw_iret dX4_firstBest_83 rfl (by decide) (by decide) ⟨_, rfl, rfl, rfl, g, congrArg vI hr, by rcases hg0 with h | h; exact Or.inl h; exact Or.inr h.2, fun e he => hg2 e (by omega) he⟩
      · skip
        obtain ⟨d, rfl⟩ : ∃ d : Nat, zd = (d : Int) := ⟨zd.toNat, by omega⟩
        have hdD : d < D := by omega
        have hwd := hW d hdD
        have hp := p5_d (d := d) (by omega)
        have han : T &&& (1 * 2 ^ d) ≤ T := Nat.and_le_left
        have hgd : gi d = (d : Int) := gi_n (by omega)
        refine aw_iload_n (q := 25) dX4_firstBest_24 rfl rfl rfl ?_
        refine aw_iconst (q := 26) dX4_firstBest_25 rfl (by omega) ?_
        refine aw_iload (q := 28) dX4_firstBest_26 rfl rfl ?_
        refine aw_ishl (a := 1) (b := d) (q := 29) dX4_firstBest_28 rfl (by omega) (by omega) ?_
        refine aw_iand (a := T) (b := 1 * 2 ^ d) (q := 30) dX4_firstBest_29 rfl (by omega) ?_
        refine aw_if_ne (t := 76) (q := 33) dX4_firstBest_30 rfl (by decide) (fun bc2 => ?_) (fun bc2 => ?_)
        · skip
          refine aw_iinc (q := 79) dX4_firstBest_76 rfl rfl (by decide) (by omega) ?_
          refine aw_goto (q := 19) dX4_firstBest_79 (by decide) ?_
          exact ih d g _ _ _ (by omega) (by omega) (by omega) hr hb (hg0.imp_right (fun h => ⟨by omega, h.2⟩)) hg1 (fun e h1 h2 => by by_cases he : e = d; (subst he; rcases h2 with h3 | h3 <;> omega); exact hg2 e (by omega) h2)
        · skip
          refine aw_aload_n (q := 34) dX4_firstBest_33 rfl rfl rfl ?_
          refine aw_get (q := 37) dX4_firstBest_34 rfl fl_X4_11 hM.1 rfl (fun _ => ?_)
          refine aw_iload_n (q := 38) dX4_firstBest_37 rfl rfl rfl ?_
          refine aw_aaload (j := s) (b := (9 + s)) (q := 39) dX4_firstBest_38 rfl hM.2.1 (by omega) (by omega) (by decide) (if_pos (by omega)) ?_
          refine aw_iload (q := 41) dX4_firstBest_39 rfl rfl ?_
          refine aw_laload (j := d) (q := 42) dX4_firstBest_41 rfl (hM.2.2.1 s (by omega)) (by omega) (by omega) (fun r3 => ?_)
          refine aw_ldc2 (a := -1) (q := 45) dX4_firstBest_42 rfl k_X4_46 (by omega) ?_
          refine aw_lcmp (q := 46) dX4_firstBest_45 rfl ?_
          refine aw_if_eq (t := 76) (q := 49) dX4_firstBest_46 rfl (by decide) (fun bc4 => ?_) (fun bc4 => ?_)
          · skip
            replace bc4 := cmpz_eq.mp bc4
            refine aw_iinc (q := 79) dX4_firstBest_76 rfl rfl (by decide) (by omega) ?_
            refine aw_goto (q := 19) dX4_firstBest_79 (by decide) ?_
            exact ih d g _ _ _ (by omega) (by omega) (by omega) hr hb (hg0.imp_right (fun h => ⟨by omega, h.2⟩)) hg1 (fun e h1 h2 => by by_cases he : e = d; (subst he; rcases h2 with h3 | h3 <;> omega); exact hg2 e (by omega) h2)
          · skip
            replace bc4 := mt cmpz_eq.mpr bc4
            refine aw_aload_n (q := 50) dX4_firstBest_49 rfl rfl rfl ?_
            refine aw_iload_n (q := 51) dX4_firstBest_50 rfl rfl rfl ?_
            refine aw_iload_n (q := 52) dX4_firstBest_51 rfl rfl rfl ?_
            refine aw_iload (q := 54) dX4_firstBest_52 rfl rfl ?_
            refine aw_callV [vI (x), vI ((T : Int)), vI ((d : Int))] (q := 57) dX4_firstBest_54 rfl ck_X4_sumWith lk_X4_42 rfl ⟨Nat.le_of_ble_eq_true rfl, Nat.le_of_ble_eq_true rfl⟩ rfl rfl hM.1 rfl (Nat.le_of_ble_eq_true rfl) (by decide) (m_X4_sumWith_d hx hs (by omega) hT hwd (hL (bt T d) (bt_lt hTD hdD)) hM) rfl (fun _ _ _ h => (Rt_x h).elim) ?_
            rintro v n9 μ9 - ⟨v9, hv9, rfl, rfl, rfl⟩
            obtain rfl := Sum.inl.inj hv9
            refine aw_lload (q := 59) dX4_firstBest_57 rfl rfl ?_
            refine aw_lcmp (q := 60) dX4_firstBest_59 rfl ?_
            refine aw_if_gt (t := 76) (q := 63) dX4_firstBest_60 rfl (by decide) (fun bc5 => ?_) (fun bc5 => ?_)
            · skip
              replace bc5 := cmpz_gt.mp bc5
              refine aw_iinc (q := 79) dX4_firstBest_76 rfl rfl (by decide) (by omega) ?_
              refine aw_goto (q := 19) dX4_firstBest_79 (by decide) ?_
              exact ih d g _ _ _ (by omega) (by omega) (by omega) hr hb (hg0.imp_right (fun h => ⟨by omega, h.2⟩)) hg1 (fun e h1 h2 => by by_cases he : e = d; (subst he; rcases h2 with h3 | h3 <;> omega); exact hg2 e (by omega) h2)
            · skip
              replace bc5 := mt cmpz_gt.mpr bc5
              refine aw_iload (q := 65) dX4_firstBest_63 rfl rfl ?_
              refine aw_istore_n (q := 66) dX4_firstBest_65 rfl rfl (by decide) ?_
              refine aw_aload_n (q := 67) dX4_firstBest_66 rfl rfl rfl ?_
              refine aw_iload_n (q := 68) dX4_firstBest_67 rfl rfl rfl ?_
              refine aw_iload_n (q := 69) dX4_firstBest_68 rfl rfl rfl ?_
              refine aw_iload (q := 71) dX4_firstBest_69 rfl rfl ?_
              refine aw_callV [vI (x), vI ((T : Int)), vI ((d : Int))] (q := 74) dX4_firstBest_71 rfl ck_X4_sumWith lk_X4_42 rfl ⟨Nat.le_of_ble_eq_true rfl, Nat.le_of_ble_eq_true rfl⟩ rfl rfl hM.1 rfl (Nat.le_of_ble_eq_true rfl) (by decide) (m_X4_sumWith_d hx hs (by omega) hT hwd (hL (bt T d) (bt_lt hTD hdD)) hM) rfl (fun _ _ _ h => (Rt_x h).elim) ?_
              rintro v n9 μ9 - ⟨v9, hv9, rfl, rfl, rfl⟩
              obtain rfl := Sum.inl.inj hv9
              refine aw_lstore (q := 76) dX4_firstBest_74 rfl (by decide) ?_
              refine aw_iinc (q := 79) dX4_firstBest_76 rfl rfl (by decide) (by omega) ?_
              refine aw_goto (q := 19) dX4_firstBest_79 (by decide) ?_
              exact ih d d _ _ _ (by omega) (by omega) (by omega) hgd.symm rfl (Or.inr ⟨Nat.le_refl _, hdD, by omega, by assumption⟩) (by omega) (fun e h1 h2 => by by_cases he : e = d; (subst he; exact Or.inr ⟨rfl, Nat.le_refl _⟩); have h3 := hg2 e (by omega) h2; omega)
  refine aw_iconst (q := 1) dX4_firstBest_0 rfl (by omega) ?_
  refine aw_istore_n (q := 2) dX4_firstBest_1 rfl rfl (by decide) ?_
  refine aw_aload_n (q := 3) dX4_firstBest_2 rfl rfl rfl ?_
  refine aw_iload_n (q := 4) dX4_firstBest_3 rfl rfl rfl ?_
  refine aw_iload_n (q := 5) dX4_firstBest_4 rfl rfl rfl ?_
  refine aw_iconst (q := 6) dX4_firstBest_5 rfl (by omega) ?_
  refine aw_callV [vI (x), vI ((T : Int)), vI ((-1))] (q := 9) dX4_firstBest_6 rfl ck_X4_sumWith lk_X4_42 rfl ⟨Nat.le_of_ble_eq_true rfl, Nat.le_of_ble_eq_true rfl⟩ rfl rfl hM.1 rfl (Nat.le_of_ble_eq_true rfl) (by decide) (m_X4_sumWith_5 hx hs hT (hL T hTD) hM) rfl (fun _ _ _ h => (Rt_x h).elim) ?_
  rintro v n9 μ9 - ⟨v9, hv9, rfl, rfl, rfl⟩
  obtain rfl := Sum.inl.inj hv9
  refine aw_lstore (q := 11) dX4_firstBest_9 rfl (by decide) ?_
  refine aw_aload_n (q := 12) dX4_firstBest_11 rfl rfl rfl ?_
  refine aw_get (q := 15) dX4_firstBest_12 rfl fl_X4_27 hM.1 rfl (fun _ => ?_)
  refine aw_iconst (q := 16) dX4_firstBest_15 rfl (by omega) ?_
  refine aw_isub (q := 17) dX4_firstBest_16 rfl (by omega) ?_
  refine aw_istore (q := 19) dX4_firstBest_17 rfl (by decide) ?_
  exact loop (D + 1) D 5 _ _ _ (by omega) (Nat.le_refl _) (by omega) rfl rfl (Or.inl rfl) (Int.le_refl _) (fun e h1 h2 => by rcases h2 with h2 | h2; (subst h2; exact Or.inr ⟨rfl, Nat.le_refl _⟩); omega)
