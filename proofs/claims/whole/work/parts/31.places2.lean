/-! ===== TrackRows$Places, firstRepeat and becomeAs (written by m_places2.py) ===== -/
/-- the first step at which a row repeats itself by N steps, or -1 -/
def RepR (f g h : Nat → Int) (c N : Nat) (v : Int) : Prop := (∃ J : Nat, v = (J : Int) ∧ N ≤ J ∧ J + N < c ∧ (∃ i, i + N ≤ J ∧ smN f g h i J N) ∧ ∀ j, N ≤ j → j < J → ¬ ∃ i, i + N ≤ j ∧ smN f g h i j N) ∨ (v = -1 ∧ ∀ j, N ≤ j → j + N < c → ¬ ∃ i, i + N ≤ j ∧ smN f g h i j N)
theorem RepR_u {f g h : Nat → Int} {c N : Nat} {v w : Int} (h1 : RepR f g h c N v) (h2 : RepR f g h c N w) : v = w := by
  rcases h1 with ⟨J, e1, a1, a2, a3, a4⟩ | ⟨e1, a1⟩ <;> rcases h2 with ⟨J', e2, b1, b2, b3, b4⟩ | ⟨e2, b1⟩
  · rcases Nat.lt_trichotomy J J' with q | q | q
    · exact absurd a3 (b4 J a1 q)
    · rw [e1, e2, q]
    · exact absurd b3 (a4 J' b1 q)
  · exact absurd a3 (b1 J a1 a2)
  · exact absurd b3 (a1 J' b1 b2)
  · rw [e1, e2]
set_option maxHeartbeats 4000000 in
set_option maxRecDepth 100000 in
theorem m_X5_firstRepeat {n : Nat} {μ : AH} {q m c : Nat} {f g h : Nat → Int} {N : Nat} {w : Int} (hw : w = (N : Int)) (hN : 1 ≤ N ∧ N ≤ 30) (hb : PBd c f g h) (hP : PL μ q m c f g h) (hc : c ≤ m) (hm : m ≤ 60) : AMet YX5_firstRepeat [vR q, vI (w)] n μ (Rt (fun v n' μ' => n' = n ∧ μ' = μ ∧ ∃ r : Int, v = vI r ∧ RepR f g h c N r)) := by
  refine AMet.of (by decide) rfl (Nat.le_of_ble_eq_true rfl) ?_
  have loop : ∀ (j J : Nat) (jx : Int), c - J < j → jx = (J : Int) → N ≤ J ∧ J ≤ 60 → (∀ j9, N ≤ j9 → j9 < J → ¬ ∃ i, i + N ≤ j9 ∧ smN f g h i j9 N) → AW YX5_firstRepeat none (Rt (fun v n' μ' => n' = n ∧ μ' = μ ∧ ∃ r : Int, v = vI r ∧ RepR f g h c N r)) 2 [some (vR q), some (vI w), some (vI jx), none] [] n μ 0 0 := by
    intro j
    induction j with
    | zero => intro J jx hj; exact absurd hj (Nat.not_lt_zero _)
    | succ j ih =>
      intro J jx hj hJ hJN hno
      have inner : ∀ (j2 i : Nat) (ix : Int), J + N < c → J + 1 - i < j2 → ix = (i : Int) ∧ i ≤ 61 → (∀ i9, i9 < i → ¬ smN f g h i9 J N) → AW YX5_firstRepeat none (Rt (fun v n' μ' => n' = n ∧ μ' = μ ∧ ∃ r : Int, v = vI r ∧ RepR f g h c N r)) 14 [some (vR q), some (vI w), some (vI jx), some (vI ix)] [] n μ 0 0 := by
        intro j2
        induction j2 with
        | zero => intro i ix _ hj2; exact absurd hj2 (Nat.not_lt_zero _)
        | succ j2 ihi =>
          intro i ix hJc hj2 hi0 hni
          obtain ⟨hi, hi61⟩ := hi0
          replace ihi := fun i9 ix9 => ihi i9 ix9 hJc
          refine aw_iload_n (q := 15) dX5_firstRepeat_14 rfl rfl rfl ?_
          refine aw_iload_n (q := 16) dX5_firstRepeat_15 rfl rfl rfl ?_
          refine aw_iadd (q := 17) dX5_firstRepeat_16 rfl (by omega) ?_
          refine aw_iload_n (q := 18) dX5_firstRepeat_17 rfl rfl rfl ?_
          refine aw_ic_gt (t := 39) (q := 21) dX5_firstRepeat_18 rfl (by decide) (fun b1 => ?_) (fun b1 => ?_)
          · skip
            refine aw_iinc (q := 42) dX5_firstRepeat_39 rfl rfl (by decide) (by omega) ?_
            refine aw_goto (q := 2) dX5_firstRepeat_42 (by decide) ?_
            refine aw_ls (ls := [some (vR q), some (vI (w)), some (vI (jx + 1)), none]) ⟨rfl, ⟨rfl, ⟨rfl, trivial⟩⟩⟩ ?_
            exact ih (J + 1) _ (by omega) (by omega) (by omega) (fun j9 h1 h2 => by rcases Nat.lt_succ_iff_lt_or_eq.mp h2 with h8 | h8; exact hno j9 h1 h8; rw [h8]; exact fun ⟨i9, h7, h6⟩ => hni i9 (by omega) h6)
          · skip
            refine aw_aload_n (q := 22) dX5_firstRepeat_21 rfl rfl rfl ?_
            refine aw_iload_n (q := 23) dX5_firstRepeat_22 rfl rfl rfl ?_
            refine aw_iload_n (q := 24) dX5_firstRepeat_23 rfl rfl rfl ?_
            refine aw_iload_n (q := 25) dX5_firstRepeat_24 rfl rfl rfl ?_
            refine aw_callV [vI (ix), vI (jx), vI (w)] (q := 28) dX5_firstRepeat_25 rfl ck_X5_sameSteps lk_X5_52 rfl ⟨Nat.le_of_ble_eq_true rfl, Nat.le_of_ble_eq_true rfl⟩ rfl rfl hP.1 rfl (Nat.le_of_ble_eq_true rfl) (by decide) (m_X5_sameSteps (a := i) (b := J) (N := N) hi hJ hw (by omega) (by omega) hb hP hc hm) rfl (fun _ _ _ h => (Rt_x h).elim) ?_
            rintro v n9 μ9 - ⟨v9, hv9, rfl, rfl, h9⟩
            obtain rfl := Sum.inl.inj hv9
            obtain ⟨y9, rfl, hy9⟩ : ∃ y9 : Int, v9 = vI y9 ∧ ((y9 = 1 ∧ smN f g h i J N) ∨ (y9 = 0 ∧ ¬ smN f g h i J N)) := by rcases h9 with ⟨e, h9⟩ | ⟨e, h9⟩; exact ⟨1, e, Or.inl ⟨rfl, h9⟩⟩; exact ⟨0, e, Or.inr ⟨rfl, h9⟩⟩
            refine aw_if_eq (t := 33) (q := 31) dX5_firstRepeat_28 rfl (by decide) (fun b2 => ?_) (fun b2 => ?_)
            · skip
              have hsm : ¬ smN f g h i J N := by rcases hy9 with ⟨h, _⟩ | ⟨_, h⟩; omega; exact h
              refine aw_iinc (q := 36) dX5_firstRepeat_33 rfl rfl (by decide) (by omega) ?_
              refine aw_goto (q := 14) dX5_firstRepeat_36 (by decide) ?_
              exact ihi (i + 1) _ (by omega) (by omega) (fun i9 h9 => by rcases Nat.lt_succ_iff_lt_or_eq.mp h9 with h8 | h8; exact hni i9 h8; rw [h8]; exact hsm)
            · skip
              have hsm : smN f g h i J N := by rcases hy9 with ⟨_, h⟩ | ⟨h, _⟩; exact h; exact absurd h (by assumption)
              refine aw_iload_n (q := 32) dX5_firstRepeat_31 rfl rfl rfl ?_
              exact aw_iret dX5_firstRepeat_32 rfl (by decide) (by decide) ⟨_, rfl, rfl, rfl, _, rfl, Or.inl ⟨J, hJ, by omega, by omega, ⟨i, by omega, by assumption⟩, hno⟩⟩
      replace inner := fun j9 i9 ix9 hJc => inner j9 i9 ix9 hJc
      refine aw_iload_n (q := 3) dX5_firstRepeat_2 rfl rfl rfl ?_
      refine aw_iload_n (q := 4) dX5_firstRepeat_3 rfl rfl rfl ?_
      refine aw_iadd (q := 5) dX5_firstRepeat_4 rfl (by omega) ?_
      refine aw_aload_n (q := 6) dX5_firstRepeat_5 rfl rfl rfl ?_
      refine aw_get (q := 9) dX5_firstRepeat_6 rfl fl_X5_9 hP.1 rfl (fun _ => ?_)
      refine aw_ic_ge (t := 45) (q := 12) dX5_firstRepeat_9 rfl (by decide) (fun b1 => ?_) (fun b1 => ?_)
      · skip
        refine aw_iconst (q := 46) dX5_firstRepeat_45 rfl (by omega) ?_
        exact aw_iret dX5_firstRepeat_46 rfl (by decide) (by decide) ⟨_, rfl, rfl, rfl, _, rfl, Or.inr ⟨rfl, fun j9 h1 h2 => hno j9 h1 (by omega)⟩⟩
      · skip
        refine aw_iconst (q := 13) dX5_firstRepeat_12 rfl (by omega) ?_
        refine aw_istore_n (q := 14) dX5_firstRepeat_13 rfl rfl (by decide) ?_
        exact inner (J + 2) 0 _ (by omega) (by omega) ⟨rfl, by omega⟩ (fun i9 h9 => absurd h9 (Nat.not_lt_zero i9)) -- 0 _ (by omega) rfl (fun i9 h9 => absurd h9 (Nat.not_lt_zero i9))
  refine aw_iload_n (q := 1) dX5_firstRepeat_0 rfl rfl rfl ?_
  refine aw_istore_n (q := 2) dX5_firstRepeat_1 rfl rfl (by decide) ?_
  exact loop (c + 1) N _ (by omega) hw (by omega) (fun j9 h1 h2 => by omega)
theorem insF_a {f : Nat → Int} {c : Nat} {s : Int} : insF f c c s c = s := if_pos rfl
theorem insF_o {f : Nat → Int} {c p : Nat} {s : Int} (h : p < c) : insF f c c s p = f p := by
  unfold insF
  rw [if_neg (by omega), if_neg (by omega)]
set_option maxHeartbeats 4000000 in
set_option maxRecDepth 100000 in
theorem m_X5_becomeAs {n : Nat} {μ : AH} {q m c : Nat} {f g h : Nat → Int} {u m2 e : Nat} {f2 g2 h2 : Nat → Int} (hU : PL μ u m2 e f2 g2 h2) (hd : u + 3 < q ∨ q + 3 < u) (he : e ≤ m) (he2 : e ≤ m2) (hm2 : m2 ≤ 60) (hm : m ≤ 60) (hP : PL μ q m c f g h) : AMet YX5_becomeAs [vR q, vR u] n μ (Vd (fun n' μ' => n' = n ∧ ∃ f' g' h' : Nat → Int, PL μ' q m e f' g' h' ∧ (∀ p, p < e → f' p = f2 p ∧ g' p = g2 p ∧ h' p = h2 p) ∧ Fr [q, q + 1, q + 2, q + 3] μ μ')) := by
  refine AMet.of (by decide) rfl (Nat.le_of_ble_eq_true rfl) ?_
  have loop : ∀ (j k : Nat) (kx : Int) (μ1 : AH) (f1 g1 h1 : Nat → Int), e - k < j → kx = (k : Int) → k ≤ e → PL μ1 q m k f1 g1 h1 → (∀ p, p < k → f1 p = f2 p ∧ g1 p = g2 p ∧ h1 p = h2 p) → Fr [q, q + 1, q + 2, q + 3] μ μ1 → AW YX5_becomeAs none (Vd (fun n' μ' => n' = n ∧ ∃ f' g' h' : Nat → Int, PL μ' q m e f' g' h' ∧ (∀ p, p < e → f' p = f2 p ∧ g' p = g2 p ∧ h' p = h2 p) ∧ Fr [q, q + 1, q + 2, q + 3] μ μ')) 7 [some (vR q), some (vR u), some (vI kx)] [] n μ1 0 0 := by
    intro j
    induction j with
    | zero => intro k kx μ1 f1 g1 h1 hj; exact absurd hj (Nat.not_lt_zero _)
    | succ j ih =>
      intro k kx μ1 f1 g1 h1 hj hk hke hP1 hag hfr
      refine aw_iload_n (q := 8) dX5_becomeAs_7 rfl rfl rfl ?_
      have hU1 : PL μ1 u m2 e f2 g2 h2 := ⟨(hfr u (by simp only [List.mem_cons, List.not_mem_nil, or_false]; omega)).trans hU.1, (hfr (u + 1) (by simp only [List.mem_cons, List.not_mem_nil, or_false]; omega)).trans hU.2.1, (hfr (u + 2) (by simp only [List.mem_cons, List.not_mem_nil, or_false]; omega)).trans hU.2.2.1, (hfr (u + 3) (by simp only [List.mem_cons, List.not_mem_nil, or_false]; omega)).trans hU.2.2.2⟩
      refine aw_aload_n (q := 9) dX5_becomeAs_8 rfl rfl rfl ?_
      refine aw_get (q := 12) dX5_becomeAs_9 rfl fl_X5_9 hU1.1 rfl (fun _ => ?_)
      refine aw_ic_ge (t := 44) (q := 15) dX5_becomeAs_12 rfl (by decide) (fun b1 => ?_) (fun b1 => ?_)
      · skip
        exact aw_vret dX5_becomeAs_44 rfl (by decide) (by decide) ⟨rfl, rfl, f1, g1, h1, by rwa [show e = k by omega], fun p hp => hag p (by omega), hfr⟩
      · skip
        refine aw_aload_n (q := 16) dX5_becomeAs_15 rfl rfl rfl ?_
        refine aw_iload_n (q := 17) dX5_becomeAs_16 rfl rfl rfl ?_
        refine aw_aload_n (q := 18) dX5_becomeAs_17 rfl rfl rfl ?_
        refine aw_get (q := 21) dX5_becomeAs_18 rfl fl_X5_18 hU1.1 rfl (fun _ => ?_)
        refine aw_iload_n (q := 22) dX5_becomeAs_21 rfl rfl rfl ?_
        refine aw_iaload (j := k) (q := 23) dX5_becomeAs_22 rfl hU1.2.1 (by omega) (by omega) (fun r2 => ?_)
        refine aw_aload_n (q := 24) dX5_becomeAs_23 rfl rfl rfl ?_
        refine aw_get (q := 27) dX5_becomeAs_24 rfl fl_X5_22 hU1.1 rfl (fun _ => ?_)
        refine aw_iload_n (q := 28) dX5_becomeAs_27 rfl rfl rfl ?_
        refine aw_iaload (j := k) (q := 29) dX5_becomeAs_28 rfl hU1.2.2.1 (by omega) (by omega) (fun r3 => ?_)
        refine aw_aload_n (q := 30) dX5_becomeAs_29 rfl rfl rfl ?_
        refine aw_get (q := 33) dX5_becomeAs_30 rfl fl_X5_25 hU1.1 rfl (fun _ => ?_)
        refine aw_iload_n (q := 34) dX5_becomeAs_33 rfl rfl rfl ?_
        refine aw_iaload (j := k) (q := 35) dX5_becomeAs_34 rfl hU1.2.2.2 (by omega) (by omega) (fun r4 => ?_)
        refine aw_callV [vI (kx), vI (f2 k), vI (g2 k), vI (h2 k)] (q := 38) dX5_becomeAs_35 rfl ck_X5_insert lk_X5_32 rfl ⟨Nat.le_of_ble_eq_true rfl, Nat.le_of_ble_eq_true rfl⟩ rfl rfl hP1.1 rfl (Nat.le_of_ble_eq_true rfl) (by decide) (m_X5_insert (r := k) hk (by omega) (by omega) hm hP1) rfl (fun _ _ _ h => (Vd_x h).elim) ?_
        rintro v n9 μ9 - ⟨hv9, rfl, hP2, hF2⟩
        obtain rfl := Sum.inl.inj hv9
        refine aw_iinc (q := 41) dX5_becomeAs_38 rfl rfl (by decide) (by omega) ?_
        refine aw_goto (q := 7) dX5_becomeAs_41 (by decide) ?_
        exact ih (k + 1) _ _ _ _ _ (by omega) (by omega) (by omega) hP2 (fun p hp => by rcases Nat.lt_succ_iff_lt_or_eq.mp hp with h8 | h8; rw [insF_o (by omega), insF_o (by omega), insF_o (by omega)]; exact hag p h8; rw [h8, insF_a, insF_a, insF_a]; exact ⟨rfl, rfl, rfl⟩) (Fr_tr hfr hF2 (fun a h => h))
  refine aw_aload_n (q := 1) dX5_becomeAs_0 rfl rfl rfl ?_
  refine aw_iconst (q := 2) dX5_becomeAs_1 rfl (by omega) ?_
  refine aw_put (q := 5) dX5_becomeAs_2 rfl fp_X5_9 hP.1 (Nat.le_of_ble_eq_true rfl) trivial ?_
  refine aw_iconst (q := 6) dX5_becomeAs_5 rfl (by omega) ?_
  refine aw_istore_n (q := 7) dX5_becomeAs_6 rfl rfl (by decide) ?_
  exact loop (e + 1) 0 _ _ f g h (by omega) rfl (by omega) ⟨hu_s, ((hu_n (by omega)).trans hP.2.1), ((hu_n (by omega)).trans hP.2.2.1), ((hu_n (by omega)).trans hP.2.2.2)⟩ (fun p hp => absurd hp (Nat.not_lt_zero p)) (Fr_hu Fr_rf (by simp))
