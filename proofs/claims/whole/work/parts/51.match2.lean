/-! ===== TrackRows$Matching: sumUp, choose, sum (written by m_match2.py) ===== -/
theorem gi_m {g : Nat} : gi g = -1 ↔ g = 5 := by
  unfold gi
  split
  · simp_all
  · constructor
    · intro h; omega
    · intro h; omega
theorem tn_0 {T g : Nat} (h : g = 5) : (T ||| 0) = tn T g := by rw [Nat.or_zero]; exact (if_pos h).symm
theorem vld_d {W : Nat → Nat → Int} {D : Nat} : ∀ {ds : List Nat} {s T : Nat}, vld W D s T ds → ∀ k, k < ds.length → dgt ds k = 5 ∨ (dgt ds k < D ∧ W (s + k) (dgt ds k) ≠ -1)
  | [], s, T, _, k, hk => absurd hk (Nat.not_lt_zero _)
  | d :: ds, s, T, h, 0, hk => by
    rcases h.1 with h1 | h1
    · exact Or.inl h1
    · exact Or.inr ⟨h1.1, h1.2.2⟩
  | d :: ds, s, T, h, k + 1, hk => by
    have := vld_d (ds := ds) h.2 k (by simpa using hk)
    rw [show s + (k + 1) = s + 1 + k by omega]
    exact this
theorem vld_cg {W W' : Nat → Nat → Int} {D S : Nat} (hW : ∀ s d, s < S → d < D → W s d = W' s d) : ∀ {ds : List Nat} {s T : Nat}, s + ds.length ≤ S → vld W D s T ds → vld W' D s T ds
  | [], s, T, _, _ => trivial
  | d :: ds, s, T, hl, h => by
    simp only [List.length_cons] at hl
    refine ⟨?_, vld_cg hW (by omega) h.2⟩
    rcases h.1 with h1 | h1
    · exact Or.inl h1
    · exact Or.inr ⟨h1.1, h1.2.1, by rw [← hW s d (by omega) h1.1]; exact h1.2.2⟩
theorem cst_cg {W W' : Nat → Nat → Int} {D S : Nat} (hW : ∀ s d, s < S → d < D → W s d = W' s d) : ∀ {ds : List Nat} {s T : Nat}, s + ds.length ≤ S → vld W D s T ds → cst W s ds = cst W' s ds
  | [], s, T, _, _ => rfl
  | d :: ds, s, T, hl, h => by
    simp only [List.length_cons] at hl
    show wg W s d + cst W (s + 1) ds = wg W' s d + cst W' (s + 1) ds
    rw [cst_cg hW (ds := ds) (s := s + 1) (by omega) h.2]
    congr 1
    unfold wg
    split
    · rfl
    · rcases h.1 with h1 | h1
      · exact absurd h1 (by assumption)
      · exact hW s d (by omega) h1.1
theorem Bst_cg {W W' : Nat → Nat → Int} {D S : Nat} {ds : List Nat} (hW : ∀ s d, s < S → d < D → W s d = W' s d) (hl : ds.length = S) (h : Bst W D 0 0 ds) : Bst W' D 0 0 ds := by
  refine ⟨vld_cg hW (by omega) h.1, fun es he hv => ?_⟩
  have hW' : ∀ s d, s < S → d < D → W' s d = W s d := fun s d a b => (hW s d a b).symm
  have hv2 := vld_cg hW' (by omega) hv
  rw [← cst_cg hW (S := S) (by omega) h.1, ← cst_cg hW (S := S) (by omega) hv2]
  exact h.2 es he hv2
theorem wsm_cg {W W' : Nat → Nat → Int} {D S : Nat} {ds : List Nat} (hW : ∀ s d, s < S → d < D → W s d = W' s d) (hl : ds.length = S) (h : vld W D 0 0 ds) : ∀ s, s ≤ S → wsm W ds s = wsm W' ds s
  | 0, _ => rfl
  | s + 1, hs => by
    show wsm W ds s + _ = wsm W' ds s + _
    rw [wsm_cg hW hl h s (by omega)]
    congr 1
    split
    · rfl
    · rcases vld_d h s (by omega) with h1 | h1
      · exact absurd h1 (by assumption)
      · exact hW s _ (by omega) h1.1
set_option maxHeartbeats 4000000 in
set_option maxRecDepth 100000 in
theorem m_X4_sumUp {n : Nat} {μ : AH} {W Ls : Nat → Nat → Int} {ch : Nat → Int} {S D : Nat} (hS : S ≤ 5) (hD : D ≤ 5) (hW : WBd W S D) (hM : MT μ W Ls ch (S : Int) (D : Int)) : AMet YX4_sumUp [vR 7] n μ (Vd (fun n' μ' => n' = n ∧ ∃ Ls' : Nat → Nat → Int, MT μ' W Ls' ch (S : Int) (D : Int) ∧ FrR 7 22 μ μ' ∧ ∀ s T, s ≤ S → T < 2 ^ D → LG W D S s T (Ls' s T))) := by
  refine AMet.of (by decide) rfl (Nat.le_of_ble_eq_true rfl) ?_
  have h32 : 1 * 2 ^ D ≤ 32 := by rw [Nat.one_mul]; exact p5_32 hD
  have h2D : 1 * 2 ^ D = 2 ^ D := Nat.one_mul _
  have loop2 : ∀ (j k : Nat) (zs : Int) (μ1 : AH) (Ls1 : Nat → Nat → Int), k < j → k ≤ S → zs = (k : Int) - 1 → MT μ1 W Ls1 ch (S : Int) (D : Int) → FrR 7 22 μ μ1 → (∀ s T, k ≤ s → s ≤ S → T < 2 ^ D → LG W D S s T (Ls1 s T)) → AW YX4_sumUp none (Vd (fun n' μ' => n' = n ∧ ∃ Ls' : Nat → Nat → Int, MT μ' W Ls' ch (S : Int) (D : Int) ∧ FrR 7 22 μ μ' ∧ ∀ s T, s ≤ S → T < 2 ^ D → LG W D S s T (Ls' s T))) 39 [some (vR 7), some (vI (((1 * 2 ^ D : Nat) : Int))), some (vI (zs)), none] [] n μ1 0 0 := by
    intro j
    induction j with
    | zero => intro k zs μ1 Ls1 hj; exact absurd hj (Nat.not_lt_zero _)
    | succ j ih =>
      intro k zs μ1 Ls1 hj hkS hz hM1 hF1 hk
      have inner : ∀ (s : Nat), k = s + 1 → ∀ (i T : Nat) (xT : Int) (μ2 : AH) (Ls2 : Nat → Nat → Int), 1 * 2 ^ D - T < i → xT = (T : Int) → T ≤ 1 * 2 ^ D → MT μ2 W Ls2 ch (S : Int) (D : Int) → FrR 7 22 μ μ2 → (∀ s' T, s + 1 ≤ s' → s' ≤ S → T < 2 ^ D → LG W D S s' T (Ls2 s' T)) → (∀ T', T' < T → LG W D S s T' (Ls2 s T')) → AW YX4_sumUp none (Vd (fun n' μ' => n' = n ∧ ∃ Ls' : Nat → Nat → Int, MT μ' W Ls' ch (S : Int) (D : Int) ∧ FrR 7 22 μ μ' ∧ ∀ s T, s ≤ S → T < 2 ^ D → LG W D S s T (Ls' s T))) 45 [some (vR 7), some (vI (((1 * 2 ^ D : Nat) : Int))), some (vI ((s : Int))), some (vI (xT))] [] n μ2 0 0 := by
        intro s hks i
        induction i with
        | zero => intro T xT μ2 Ls2 hj; exact absurd hj (Nat.not_lt_zero _)
        | succ i ih3 =>
          intro T xT μ2 Ls2 hi hxT hTl hM2 hF2 hk2 hin
          subst hxT
          refine aw_iload_n (q := 46) dX4_sumUp_45 rfl rfl rfl ?_
          refine aw_iload_n (q := 47) dX4_sumUp_46 rfl rfl rfl ?_
          refine aw_ic_ge (t := 76) (q := 50) dX4_sumUp_47 rfl (by decide) (fun bc1 => ?_) (fun bc1 => ?_)
          · skip
            refine aw_iinc (q := 79) dX4_sumUp_76 rfl rfl (by decide) (by omega) ?_
            refine aw_goto (q := 39) dX4_sumUp_79 (by decide) ?_
            refine aw_ls (ls := [some (vR 7), some (vI (((1 * 2 ^ D : Nat) : Int))), some (vI ((s : Int) + (-1))), none]) ⟨rfl, ⟨rfl, ⟨rfl, trivial⟩⟩⟩ ?_
            exact ih s _ _ Ls2 (by omega) (by omega) (by omega) hM2 hF2 (fun s9 T9 h1 h2 h3 => by
              by_cases e : s9 = s
              · subst e; exact hin T9 (by omega)
              · exact hk2 s9 T9 (by omega) h2 h3)
          · skip
            refine aw_aload_n (q := 51) dX4_sumUp_50 rfl rfl rfl ?_
            refine aw_get (q := 54) dX4_sumUp_51 rfl fl_X4_16 hM2.1 rfl (fun _ => ?_)
            refine aw_iload_n (q := 55) dX4_sumUp_54 rfl rfl rfl ?_
            refine aw_aaload (j := s) (b := (15 + s)) (q := 56) dX4_sumUp_55 rfl hM2.2.2.2.1 (by omega) (by omega) (by decide) (if_pos (by omega)) ?_
            refine aw_iload_n (q := 57) dX4_sumUp_56 rfl rfl rfl ?_
            refine aw_aload_n (q := 58) dX4_sumUp_57 rfl rfl rfl ?_
            refine aw_iload_n (q := 59) dX4_sumUp_58 rfl rfl rfl ?_
            refine aw_iload_n (q := 60) dX4_sumUp_59 rfl rfl rfl ?_
            refine aw_aload_n (q := 61) dX4_sumUp_60 rfl rfl rfl ?_
            refine aw_iload_n (q := 62) dX4_sumUp_61 rfl rfl rfl ?_
            refine aw_iload_n (q := 63) dX4_sumUp_62 rfl rfl rfl ?_
            refine aw_callV [vI ((s : Int)), vI ((T : Int))] (q := 66) dX4_sumUp_63 rfl ck_X4_firstBest lk_X4_39 rfl ⟨Nat.le_of_ble_eq_true rfl, Nat.le_of_ble_eq_true rfl⟩ rfl rfl hM2.1 rfl (Nat.le_of_ble_eq_true rfl) (by decide) (m_X4_firstBest (D := D) rfl (by omega) hD rfl (by omega) (fun d hd => hW s d (by omega) hd) (fun T9 h9 => LG_b hW (by omega) hS (hk2 (s + 1) T9 (Nat.le_refl _) (by omega) h9)) hM2) rfl (fun _ _ _ h => (Rt_x h).elim) ?_
            rintro v n9 μ9 - ⟨v9, hv9, rfl, rfl, g, rfl, hg⟩
            obtain rfl := Sum.inl.inj hv9
            refine aw_callV [vI ((s : Int)), vI ((T : Int)), vI (gi g)] (q := 69) dX4_sumUp_66 rfl ck_X4_sumWith lk_X4_42 rfl ⟨Nat.le_of_ble_eq_true rfl, Nat.le_of_ble_eq_true rfl⟩ rfl rfl hM2.1 rfl (Nat.le_of_ble_eq_true rfl) (by decide) (m_X4_sumWith (D := D) (g := g) rfl (by omega) hD (by omega) (by rcases hg.1 with h | h; exact Or.inl h; exact Or.inr h.1) rfl (fun d hd => hW s d (by omega) hd) (LG_b hW (by omega) hS (hk2 (s + 1) (tn T g) (Nat.le_refl _) (by omega) (tn_lt (by omega) hg.1))) hM2) rfl (fun _ _ _ h => (Rt_x h).elim) ?_
            rintro v n9 μ9 - ⟨v9, hv9, rfl, rfl, rfl⟩
            obtain rfl := Sum.inl.inj hv9
            refine aw_lastore (j := T) (q := 70) dX4_sumUp_69 rfl (hM2.2.2.2.2.1 s (by omega)) (by omega) (by omega) ?_
            refine aw_iinc (q := 73) dX4_sumUp_70 rfl rfl (by decide) (by omega) ?_
            refine aw_goto (q := 45) dX4_sumUp_73 (by decide) ?_
            exact ih3 (T + 1) _ _ (lsu Ls2 s (fu (Ls2 s) T (sw W Ls2 s T g))) (by omega) (by omega) (by omega) (MT_ls hM2 (by omega)) (FrR_hu hF2 (by omega)) (fun s9 T9 h1 h2 h3 => by rw [lsu_n (by omega)]; exact hk2 s9 T9 h1 h2 h3) (fun T9 h9 => by
              rw [lsu_s]
              by_cases e : T9 = T
              · subst e; rw [fu_s]; exact LG_step hD (by omega) (by omega) (fun T8 h8 => hk2 (s + 1) T8 (Nat.le_refl _) (by omega) h8) hg
              · rw [fu_n e]; exact hin T9 (by omega))
      refine aw_iload_n (q := 40) dX4_sumUp_39 rfl rfl rfl ?_
      refine aw_if_lt (t := 82) (q := 43) dX4_sumUp_40 rfl (by decide) (fun bc1 => ?_) (fun bc1 => ?_)
      · skip
        exact aw_vret dX4_sumUp_82 rfl (by decide) (by decide) ⟨rfl, rfl, Ls1, hM1, hF1, fun s9 T9 h1 h2 => hk s9 T9 (by omega) h1 h2⟩
      · skip
        obtain ⟨s, rfl⟩ : ∃ s : Nat, zs = (s : Int) := ⟨zs.toNat, by omega⟩
        refine aw_iconst (q := 44) dX4_sumUp_43 rfl (by omega) ?_
        refine aw_istore_n (q := 45) dX4_sumUp_44 rfl rfl (by decide) ?_
        exact inner s (by omega) (1 * 2 ^ D + 1) 0 _ _ Ls1 (by omega) rfl (by omega) hM1 hF1 (fun s9 T9 h1 h2 h3 => hk s9 T9 (by omega) h2 h3) (fun T9 h9 => absurd h9 (Nat.not_lt_zero _))
  have loop1 : ∀ (j T : Nat) (x : Int) (μ1 : AH) (Ls1 : Nat → Nat → Int), 1 * 2 ^ D - T < j → x = (T : Int) → T ≤ 1 * 2 ^ D → MT μ1 W Ls1 ch (S : Int) (D : Int) → FrR 7 22 μ μ1 → (∀ T', T' < T → Ls1 S T' = 0) → AW YX4_sumUp none (Vd (fun n' μ' => n' = n ∧ ∃ Ls' : Nat → Nat → Int, MT μ' W Ls' ch (S : Int) (D : Int) ∧ FrR 7 22 μ μ' ∧ ∀ s T, s ≤ S → T < 2 ^ D → LG W D S s T (Ls' s T))) 9 [some (vR 7), some (vI (((1 * 2 ^ D : Nat) : Int))), some (vI (x)), none] [] n μ1 0 0 := by
    intro j
    induction j with
    | zero => intro T x μ1 Ls1 hj; exact absurd hj (Nat.not_lt_zero _)
    | succ j ih =>
      intro T x μ1 Ls1 hj hx hT hM1 hF1 hz
      refine aw_iload_n (q := 10) dX4_sumUp_9 rfl rfl rfl ?_
      refine aw_iload_n (q := 11) dX4_sumUp_10 rfl rfl rfl ?_
      refine aw_ic_ge (t := 32) (q := 14) dX4_sumUp_11 rfl (by decide) (fun bc1 => ?_) (fun bc1 => ?_)
      · skip
        refine aw_aload_n (q := 33) dX4_sumUp_32 rfl rfl rfl ?_
        refine aw_get (q := 36) dX4_sumUp_33 rfl fl_X4_23 hM1.1 rfl (fun _ => ?_)
        refine aw_iconst (q := 37) dX4_sumUp_36 rfl (by omega) ?_
        refine aw_isub (q := 38) dX4_sumUp_37 rfl (by omega) ?_
        refine aw_istore_n (q := 39) dX4_sumUp_38 rfl rfl (by decide) ?_
        exact loop2 (S + 1) S _ _ Ls1 (by omega) (Nat.le_refl _) (by omega) hM1 hF1 (fun s9 T9 h1 h2 h3 => by rw [show s9 = S by omega, hz T9 (by omega)]; exact LG_end)
      · skip
        refine aw_aload_n (q := 15) dX4_sumUp_14 rfl rfl rfl ?_
        refine aw_get (q := 18) dX4_sumUp_15 rfl fl_X4_16 hM1.1 rfl (fun _ => ?_)
        refine aw_aload_n (q := 19) dX4_sumUp_18 rfl rfl rfl ?_
        refine aw_get (q := 22) dX4_sumUp_19 rfl fl_X4_23 hM1.1 rfl (fun _ => ?_)
        refine aw_aaload (j := S) (b := (15 + S)) (q := 23) dX4_sumUp_22 rfl hM1.2.2.2.1 (by omega) (by omega) (by decide) (if_pos (by omega)) ?_
        refine aw_iload_n (q := 24) dX4_sumUp_23 rfl rfl rfl ?_
        refine aw_lconst (a := 0) (q := 25) dX4_sumUp_24 rfl rfl (by omega) ?_
        refine aw_lastore (j := T) (q := 26) dX4_sumUp_25 rfl (hM1.2.2.2.2.1 S (by omega)) (by omega) (by omega) ?_
        refine aw_iinc (q := 29) dX4_sumUp_26 rfl rfl (by decide) (by omega) ?_
        refine aw_goto (q := 9) dX4_sumUp_29 (by decide) ?_
        exact ih (T + 1) _ _ (lsu Ls1 S (fu (Ls1 S) T 0)) (by omega) (by omega) (by omega) (MT_ls hM1 (by omega)) (FrR_hu hF1 (by omega)) (fun T9 h9 => by
          rw [lsu_s]
          by_cases e : T9 = T
          · subst e; rw [fu_s]
          · rw [fu_n e]; exact hz T9 (by omega))
  refine aw_iconst (q := 1) dX4_sumUp_0 rfl (by omega) ?_
  refine aw_aload_n (q := 2) dX4_sumUp_1 rfl rfl rfl ?_
  refine aw_get (q := 5) dX4_sumUp_2 rfl fl_X4_27 hM.1 rfl (fun _ => ?_)
  refine aw_ishl (a := 1) (b := D) (q := 6) dX4_sumUp_5 rfl (by omega) (by omega) ?_
  refine aw_istore_n (q := 7) dX4_sumUp_6 rfl rfl (by decide) ?_
  refine aw_iconst (q := 8) dX4_sumUp_7 rfl (by omega) ?_
  refine aw_istore_n (q := 9) dX4_sumUp_8 rfl rfl (by decide) ?_
  exact loop1 (1 * 2 ^ D + 1) 0 _ _ Ls (by omega) rfl (by omega) hM FrR_rf (fun T9 h9 => absurd h9 (Nat.not_lt_zero _))
set_option maxHeartbeats 4000000 in
set_option maxRecDepth 100000 in
theorem m_X4_choose {n : Nat} {μ : AH} {W Ls : Nat → Nat → Int} {ch : Nat → Int} {sc dc : Int} {S D : Nat} (hS : S ≤ 5) (hD : D ≤ 5) (hW : WBd W S D) (hM : MT μ W Ls ch sc dc) : AMet YX4_choose [vR 7, vI ((S : Int)), vI ((D : Int))] n μ (Vd (fun n' μ' => n' = n ∧ ∃ (Ls' : Nat → Nat → Int) (ch' : Nat → Int) (ds : List Nat), MT μ' W Ls' ch' (S : Int) (D : Int) ∧ FrR 7 22 μ μ' ∧ ds.length = S ∧ Bst W D 0 0 ds ∧ ∀ s, s < S → ch' s = gi (dgt ds s))) := by
  refine AMet.of (by decide) rfl (Nat.le_of_ble_eq_true rfl) ?_
  have loop : ∀ (Ls1 : Nat → Nat → Int), (∀ s T, s ≤ S → T < 2 ^ D → LG W D S s T (Ls1 s T)) → ∀ (j s T : Nat) (x t : Int) (μ1 : AH) (ch1 : Nat → Int) (pre : List Nat), S - s < j → s ≤ S → x = (s : Int) → t = (T : Int) → T < 2 ^ D → MT μ1 W Ls1 ch1 (S : Int) (D : Int) → FrR 7 22 μ μ1 → Pre W D S s T pre → (∀ s', s' < s → ch1 s' = gi (dgt pre s')) → AW YX4_choose none (Vd (fun n' μ' => n' = n ∧ ∃ (Ls' : Nat → Nat → Int) (ch' : Nat → Int) (ds : List Nat), MT μ' W Ls' ch' (S : Int) (D : Int) ∧ FrR 7 22 μ μ' ∧ ds.length = S ∧ Bst W D 0 0 ds ∧ ∀ s, s < S → ch' s = gi (dgt ds s))) 27 [some (vR 7), none, none, some (vI (t)), some (vI (x))] [] n μ1 0 0 := by
    intro Ls1 hLG j
    induction j with
    | zero => intro s T x t μ1 ch1 pre hj; exact absurd hj (Nat.not_lt_zero _)
    | succ j ih =>
      intro s T x t μ1 ch1 pre hj hsS hx ht hT hM1 hF1 hpre hch
      subst hx ht
      refine aw_iload (q := 29) dX4_choose_27 rfl rfl ?_
      refine aw_aload_n (q := 30) dX4_choose_29 rfl rfl rfl ?_
      refine aw_get (q := 33) dX4_choose_30 rfl fl_X4_23 hM1.1 rfl (fun _ => ?_)
      refine aw_ic_ge (t := 83) (q := 36) dX4_choose_33 rfl (by decide) (fun bc1 => ?_) (fun bc1 => ?_)
      · skip
        exact aw_vret dX4_choose_83 rfl (by decide) (by decide) ⟨rfl, rfl, Ls1, ch1, pre, hM1, hF1, by rw [hpre.1]; omega, Pre_e (S := s) (T := T) (by rw [show S = s by omega] at hpre; exact hpre), fun s9 h9 => hch s9 (by omega)⟩
      · skip
        refine aw_aload_n (q := 37) dX4_choose_36 rfl rfl rfl ?_
        refine aw_get (q := 40) dX4_choose_37 rfl fl_X4_19 hM1.1 rfl (fun _ => ?_)
        refine aw_iload (q := 42) dX4_choose_40 rfl rfl ?_
        refine aw_aload_n (q := 43) dX4_choose_42 rfl rfl rfl ?_
        refine aw_iload (q := 45) dX4_choose_43 rfl rfl ?_
        refine aw_iload_n (q := 46) dX4_choose_45 rfl rfl rfl ?_
        refine aw_callV [vI ((s : Int)), vI ((T : Int))] (q := 49) dX4_choose_46 rfl ck_X4_firstBest lk_X4_39 rfl ⟨Nat.le_of_ble_eq_true rfl, Nat.le_of_ble_eq_true rfl⟩ rfl rfl hM1.1 rfl (Nat.le_of_ble_eq_true rfl) (by decide) (m_X4_firstBest (D := D) rfl (by omega) hD rfl hT (fun d hd => hW s d (by omega) hd) (fun T9 h9 => LG_b hW (by omega) hS (hLG (s + 1) T9 (by omega) h9)) hM1) rfl (fun _ _ _ h => (Rt_x h).elim) ?_
        rintro v n9 μ9 - ⟨v9, hv9, rfl, rfl, g, rfl, hg⟩
        obtain rfl := Sum.inl.inj hv9
        have hg5 : g = 5 ∨ g < D := by rcases hg.1 with h | h; exact Or.inl h; exact Or.inr h.1
        have hT32 : T < 32 := Nat.lt_of_lt_of_le hT (p5_32 hD)
        refine aw_iastore (j := s) (q := 50) dX4_choose_49 rfl hM1.2.2.2.2.2 (by omega) (by omega) ?_
        refine aw_iload_n (q := 51) dX4_choose_50 rfl rfl rfl ?_
        refine aw_aload_n (q := 52) dX4_choose_51 rfl rfl rfl ?_
        refine aw_get (q := 55) dX4_choose_52 rfl fl_X4_19 ((hu_n (by omega)).trans hM1.1) rfl (fun _ => ?_)
        refine aw_iload (q := 57) dX4_choose_55 rfl rfl ?_
        refine aw_iaload (j := s) (q := 58) dX4_choose_57 rfl hu_s (by omega) (by omega) (fun r2 => ?_)
        rw [fu_s]
        refine aw_iconst (q := 59) dX4_choose_58 rfl (by omega) ?_
        refine aw_ic_ne (t := 66) (q := 62) dX4_choose_59 rfl (by decide) (fun bc3 => ?_) (fun bc3 => ?_)
        · skip
          have hg6 : g ≠ 5 := fun h => by have := gi_m.mpr h; omega
          have hp := p5_d (d := g) (by omega)
          have hb : T ||| 1 * 2 ^ g < 32 := bt_32 hT32 (by omega)
          refine aw_iconst (q := 67) dX4_choose_66 rfl (by omega) ?_
          refine aw_aload_n (q := 68) dX4_choose_67 rfl rfl rfl ?_
          refine aw_get (q := 71) dX4_choose_68 rfl fl_X4_19 ((hu_n (by omega)).trans hM1.1) rfl (fun _ => ?_)
          refine aw_iload (q := 73) dX4_choose_71 rfl rfl ?_
          refine aw_iaload (j := s) (q := 74) dX4_choose_73 rfl hu_s (by omega) (by omega) (fun r4 => ?_)
          rw [show fu ch1 s (gi g) s = (g : Int) from fu_s.trans (gi_n hg6)]
          refine aw_ishl (a := 1) (b := g) (q := 75) dX4_choose_74 rfl (by omega) (by omega) ?_
          refine aw_ior (a := T) (b := 1 * 2 ^ g) (q := 76) dX4_choose_75 rfl (by omega) ?_
          refine aw_istore_n (q := 77) dX4_choose_76 rfl rfl (by decide) ?_
          refine aw_iinc (q := 80) dX4_choose_77 rfl rfl (by decide) (by omega) ?_
          refine aw_goto (q := 27) dX4_choose_80 (by decide) ?_
          exact ih (s + 1) (tn T g) _ _ _ (fu ch1 s (gi g)) (pre ++ [g]) (by omega) (by omega) (by omega) (congrArg Int.ofNat ((if_neg hg6).symm)) (tn_lt hT hg.1) (MT_c hM1) (FrR_hu hF1 (by omega)) (Pre_s hpre (by omega) hD hT (fun T9 h9 => hLG (s + 1) T9 (by omega) h9) hg) (fun s9 h9 => by
            by_cases e : s9 = s
            · subst e; rw [fu_s, ← hpre.1, dgt_b]
            · rw [fu_n e, dgt_a (by rw [hpre.1]; omega)]; exact hch s9 (by omega))
        · skip
          have hg6 : g = 5 := gi_m.mp (by omega)
          have hb0 : T ||| 0 = T := Nat.or_zero T
          refine aw_iconst (q := 63) dX4_choose_62 rfl (by omega) ?_
          refine aw_goto (q := 75) dX4_choose_63 (by decide) ?_
          refine aw_ior (a := T) (b := 0) (q := 76) dX4_choose_75 rfl (by omega) ?_
          refine aw_istore_n (q := 77) dX4_choose_76 rfl rfl (by decide) ?_
          refine aw_iinc (q := 80) dX4_choose_77 rfl rfl (by decide) (by omega) ?_
          refine aw_goto (q := 27) dX4_choose_80 (by decide) ?_
          exact ih (s + 1) (tn T g) _ _ _ (fu ch1 s (gi g)) (pre ++ [g]) (by omega) (by omega) (by omega) (congrArg Int.ofNat (tn_0 hg6)) (tn_lt hT hg.1) (MT_c hM1) (FrR_hu hF1 (by omega)) (Pre_s hpre (by omega) hD hT (fun T9 h9 => hLG (s + 1) T9 (by omega) h9) hg) (fun s9 h9 => by
            by_cases e : s9 = s
            · subst e; rw [fu_s, ← hpre.1, dgt_b]
            · rw [fu_n e, dgt_a (by rw [hpre.1]; omega)]; exact hch s9 (by omega))
  refine aw_aload_n (q := 1) dX4_choose_0 rfl rfl rfl ?_
  refine aw_iload_n (q := 2) dX4_choose_1 rfl rfl rfl ?_
  refine aw_iconst (q := 3) dX4_choose_2 rfl (by omega) ?_
  refine aw_min (q := 6) dX4_choose_3 rfl lk_X4_30 (by decide) (Nat.le_of_ble_eq_true rfl) (by decide) (by decide) ?_
  rw [show min (S : Int) 5 = (S : Int) by omega]
  refine aw_put (q := 9) dX4_choose_6 rfl fp_X4_23 hM.1 (Nat.le_of_ble_eq_true rfl) trivial ?_
  refine aw_aload_n (q := 10) dX4_choose_9 rfl rfl rfl ?_
  refine aw_iload_n (q := 11) dX4_choose_10 rfl rfl rfl ?_
  refine aw_iconst (q := 12) dX4_choose_11 rfl (by omega) ?_
  refine aw_min (q := 15) dX4_choose_12 rfl lk_X4_30 (by decide) (Nat.le_of_ble_eq_true rfl) (by decide) (by decide) ?_
  rw [show min (D : Int) 5 = (D : Int) by omega]
  refine aw_put (q := 18) dX4_choose_15 rfl fp_X4_27 hu_s (Nat.le_of_ble_eq_true rfl) trivial ?_
  refine aw_aload_n (q := 19) dX4_choose_18 rfl rfl rfl ?_
  refine aw_callV [] (q := 22) dX4_choose_19 rfl ck_X4_sumUp lk_X4_36 rfl ⟨Nat.le_of_ble_eq_true rfl, Nat.le_of_ble_eq_true rfl⟩ rfl rfl hu_s rfl (Nat.le_of_ble_eq_true rfl) (by decide) (m_X4_sumUp hS hD hW (MT_f (sc' := (S : Int)) (dc' := (D : Int)) (MT_f (sc' := (S : Int)) (dc' := dc) hM))) rfl (fun _ _ _ h => (Vd_x h).elim) ?_
  rintro v n9 μ2 - ⟨hv9, rfl, Ls2, hM2, hF2, hLG⟩
  obtain rfl := Sum.inl.inj hv9
  refine aw_iconst (q := 23) dX4_choose_22 rfl (by omega) ?_
  refine aw_istore_n (q := 24) dX4_choose_23 rfl rfl (by decide) ?_
  refine aw_iconst (q := 25) dX4_choose_24 rfl (by omega) ?_
  refine aw_istore (q := 27) dX4_choose_25 rfl (by decide) ?_
  refine aw_ls (ls := [some (vR 7), none, none, some (vI (0)), some (vI (0))]) ⟨rfl, ⟨rfl, ⟨rfl, trivial⟩⟩⟩ ?_
  exact loop Ls2 hLG (S + 1) 0 0 _ _ _ ch [] (by omega) (by omega) rfl rfl (Nat.pow_pos (by decide)) hM2 (FrR_tr (FrR_hu (FrR_hu FrR_rf (by omega)) (by omega)) hF2) Pre_0 (fun s9 h9 => absurd h9 (Nat.not_lt_zero _))
set_option maxHeartbeats 4000000 in
set_option maxRecDepth 100000 in
theorem m_X4_sum {n : Nat} {μ : AH} {W Ls : Nat → Nat → Int} {ch : Nat → Int} {S D : Nat} (hS : S ≤ 5) (hD : D ≤ 5) (hW : WBd W S D) (hM : MT μ W Ls ch (S : Int) (D : Int)) {ds : List Nat} (hch : ∀ s, s < S → ch s = gi (dgt ds s)) (hv : ∀ s, s < S → dgt ds s = 5 ∨ (dgt ds s < D ∧ W s (dgt ds s) ≠ -1)) : AMet YX4_sum [vR 7] n μ (Pv n μ (vL (wsm W ds S))) := by
  refine AMet.of (by decide) rfl (Nat.le_of_ble_eq_true rfl) ?_
  have loop : ∀ (j s : Nat) (x z : Int), S - s < j → x = (s : Int) → s ≤ S → z = wsm W ds s → (-100000000000 * (s : Int) ≤ z ∧ z ≤ 100000000000 * (s : Int)) → AW YX4_sum none (Pv n μ (vL (wsm W ds S))) 4 [some (vR 7), some (vL (z)), none, some (vI (x))] [] n μ 0 0 := by
    intro j
    induction j with
    | zero => intro s x z hj; exact absurd hj (Nat.not_lt_zero _)
    | succ j ih =>
      intro s x z hj hx hs hz hzb
      refine aw_iload_n (q := 5) dX4_sum_4 rfl rfl rfl ?_
      refine aw_aload_n (q := 6) dX4_sum_5 rfl rfl rfl ?_
      refine aw_get (q := 9) dX4_sum_6 rfl fl_X4_23 hM.1 rfl (fun _ => ?_)
      refine aw_ic_ge (t := 48) (q := 12) dX4_sum_9 rfl (by decide) (fun bc1 => ?_) (fun bc1 => ?_)
      · skip
        refine aw_lload_n (q := 49) dX4_sum_48 rfl rfl rfl ?_
        exact aw_lret dX4_sum_49 rfl (by decide) (by decide) ⟨_, rfl, rfl, rfl, congrArg vL (by rw [hz, show s = S by omega])⟩
      · skip
        refine aw_lload_n (q := 13) dX4_sum_12 rfl rfl rfl ?_
        refine aw_aload_n (q := 14) dX4_sum_13 rfl rfl rfl ?_
        refine aw_get (q := 17) dX4_sum_14 rfl fl_X4_19 hM.1 rfl (fun _ => ?_)
        refine aw_iload_n (q := 18) dX4_sum_17 rfl rfl rfl ?_
        refine aw_iaload (j := s) (q := 19) dX4_sum_18 rfl hM.2.2.2.2.2 (by omega) (by omega) (fun r2 => ?_)
        rw [hch s (by omega)]
        refine aw_iconst (q := 20) dX4_sum_19 rfl (by omega) ?_
        refine aw_ic_ne (t := 27) (q := 23) dX4_sum_20 rfl (by decide) (fun bc3 => ?_) (fun bc3 => ?_)
        · skip
          have hg6 : dgt ds s ≠ 5 := fun h => by have := gi_m.mpr h; omega
          have hg7 : dgt ds s < D := by rcases hv s (by omega) with h | h; exact absurd h hg6; exact h.1
          have hwb := hW s (dgt ds s) (by omega) hg7
          refine aw_aload_n (q := 28) dX4_sum_27 rfl rfl rfl ?_
          refine aw_get (q := 31) dX4_sum_28 rfl fl_X4_11 hM.1 rfl (fun _ => ?_)
          refine aw_iload_n (q := 32) dX4_sum_31 rfl rfl rfl ?_
          refine aw_aaload (j := s) (b := (9 + s)) (q := 33) dX4_sum_32 rfl hM.2.1 (by omega) (by omega) (by decide) (if_pos (by omega)) ?_
          refine aw_aload_n (q := 34) dX4_sum_33 rfl rfl rfl ?_
          refine aw_get (q := 37) dX4_sum_34 rfl fl_X4_19 hM.1 rfl (fun _ => ?_)
          refine aw_iload_n (q := 38) dX4_sum_37 rfl rfl rfl ?_
          refine aw_iaload (j := s) (q := 39) dX4_sum_38 rfl hM.2.2.2.2.2 (by omega) (by omega) (fun r4 => ?_)
          rw [hch s (by omega), gi_n hg6]
          refine aw_laload (j := dgt ds s) (q := 40) dX4_sum_39 rfl (hM.2.2.1 s (by omega)) (by omega) (by omega) (fun r5 => ?_)
          refine aw_ladd (q := 41) dX4_sum_40 rfl (by omega) ?_
          refine aw_lstore_n (q := 42) dX4_sum_41 rfl rfl (by decide) ?_
          refine aw_iinc (q := 45) dX4_sum_42 rfl rfl (by decide) (by omega) ?_
          refine aw_goto (q := 4) dX4_sum_45 (by decide) ?_
          exact ih (s + 1) _ _ (by omega) (by omega) (by omega) (by show z + _ = wsm W ds s + (if dgt ds s = 5 then 0 else W s (dgt ds s)); rw [if_neg hg6, hz]) (by omega)
        · skip
          have hg6 : dgt ds s = 5 := gi_m.mp (by omega)
          refine aw_lconst (a := 0) (q := 24) dX4_sum_23 rfl rfl (by omega) ?_
          refine aw_goto (q := 40) dX4_sum_24 (by decide) ?_
          refine aw_ladd (q := 41) dX4_sum_40 rfl (by omega) ?_
          refine aw_lstore_n (q := 42) dX4_sum_41 rfl rfl (by decide) ?_
          refine aw_iinc (q := 45) dX4_sum_42 rfl rfl (by decide) (by omega) ?_
          refine aw_goto (q := 4) dX4_sum_45 (by decide) ?_
          exact ih (s + 1) _ _ (by omega) (by omega) (by omega) (by show z + _ = wsm W ds s + (if dgt ds s = 5 then 0 else W s (dgt ds s)); rw [if_pos hg6, hz]) (by omega)
  refine aw_lconst (a := 0) (q := 1) dX4_sum_0 rfl rfl (by omega) ?_
  refine aw_lstore_n (q := 2) dX4_sum_1 rfl rfl (by decide) ?_
  refine aw_iconst (q := 3) dX4_sum_2 rfl (by omega) ?_
  refine aw_istore_n (q := 4) dX4_sum_3 rfl rfl (by decide) ?_
  exact loop (S + 1) 0 _ _ (by omega) rfl (by omega) rfl (by omega)
