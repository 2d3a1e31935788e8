/-! ===== TrackRows$Bytes: unpackTo (written by m_bytes3.py) ===== -/
abbrev TelP (s x y : Int) : Prop := 0 ≤ s ∧ s ≤ 1000000 ∧ -100000 ≤ x ∧ x ≤ 100000 ∧ -100000 ≤ y ∧ y ≤ 100000
/-- one packed place behind (i, s, x, y), k places read before -/
def stp (b : Nat → Int) (c k : Nat) (z : Nat × Int × Int × Int) : Option (Nat × Int × Int × Int) :=
  if z.1 < c then (match dn b c z.1 with
    | none => none
    | some (d1, i1) => match dn b c i1 with
      | none => none
      | some (d2, i2) => match dn b c i2 with
        | none => none
        | some (d3, i3) => if (k = 0 ∨ z.2.1 < z.2.1 + d1) ∧ TelP (z.2.1 + d1) (z.2.2.1 + d2) (z.2.2.2 + d3) then some (i3, z.2.1 + d1, z.2.2.1 + d2, z.2.2.2 + d3) else none)
  else none
/-- where k packed places end, and the last one -/
def its (b : Nat → Int) (c : Nat) : Nat → Option (Nat × Int × Int × Int)
  | 0 => some (0, 0, 0, 0)
  | k + 1 => match its b c k with
    | none => none
    | some z => stp b c k z
theorem its_s {b : Nat → Int} {c k : Nat} {z : Nat × Int × Int × Int} (h : its b c k = some z) : its b c (k + 1) = stp b c k z := by
  show (match its b c k with | none => none | some z => stp b c k z) = _
  rw [h]
theorem its_n {b : Nat → Int} {c k : Nat} (h : its b c k = none) : its b c (k + 1) = none := by
  show (match its b c k with | none => none | some z => stp b c k z) = _
  rw [h]
theorem its_nn {b : Nat → Int} {c k : Nat} (h : its b c k = none) : ∀ j, its b c (k + j) = none
  | 0 => h
  | j + 1 => its_n (its_nn h j)
/-- the bytes are k whole packed places -/
def Whole (b : Nat → Int) (c k : Nat) : Prop := k ≤ 60 ∧ ∃ s x y, its b c k = some (c, s, x, y)
theorem stp_c {b : Nat → Int} {c k : Nat} {s x y : Int} : stp b c k (c, s, x, y) = none := by
  unfold stp
  rw [if_neg (Nat.lt_irrefl c)]
theorem Whole_u {b : Nat → Int} {c k k' : Nat} (h : Whole b c k) (h' : Whole b c k') : k = k' := by
  have key : ∀ k k' : Nat, Whole b c k → Whole b c k' → k < k' → False := fun k k' h h' q => by
    obtain ⟨-, s, x, y, e⟩ := h
    obtain ⟨-, s', x', y', e'⟩ := h'
    have e1 : its b c (k + 1) = none := by rw [its_s e, stp_c]
    have e2 := its_nn e1 (k' - (k + 1))
    rw [show k + 1 + (k' - (k + 1)) = k' by omega, e'] at e2
    cases e2
  rcases Nat.lt_trichotomy k k' with q | q | q
  · exact (key k k' h h' q).elim
  · exact q
  · exact (key k' k h' h q).elim
/-- the first k places that the bytes tell -/
def Tells (b : Nat → Int) (c k : Nat) (f g h : Nat → Int) : Prop := ∀ p, p < k → ∃ i, its b c (p + 1) = some (i, f p, g p, h p)
theorem stp_b {b : Nat → Int} {c k : Nat} {z w : Nat × Int × Int × Int} (h : stp b c k z = some w) : TelP w.2.1 w.2.2.1 w.2.2.2 := by
  unfold stp at h
  split at h
  · split at h
    · cases h
    · split at h
      · cases h
      · split at h
        · cases h
        · split at h
          · rename_i h9
            cases h
            exact h9.2
          · cases h
  · cases h
theorem noW {b : Nat → Int} {c p i : Nat} {s x y : Int} (h : its b c p = some (i, s, x, y)) (h1 : i ≠ c) (h2 : ¬ (p < 60 ∧ i < c)) (k : Nat) (hk : Whole b c k) : False := by
  obtain ⟨h60, s', x', y', e⟩ := hk
  rcases Nat.lt_trichotomy k p with q | q | q
  · have e1 : its b c (k + 1) = none := by rw [its_s e, stp_c]
    have e2 := its_nn e1 (p - (k + 1))
    rw [show k + 1 + (p - (k + 1)) = p by omega, h] at e2
    cases e2
  · subst q
    rw [h] at e
    cases e
    exact h1 rfl
  · by_cases hi : i < c
    · omega
    · have e1 : its b c (p + 1) = none := by rw [its_s h]; unfold stp; rw [if_neg hi]
      have e2 := its_nn e1 (k - (p + 1))
      rw [show p + 1 + (k - (p + 1)) = k by omega, e] at e2
      cases e2
theorem noW2 {b : Nat → Int} {c p i : Nat} {s x y : Int} (h : its b c p = some (i, s, x, y)) (h1 : stp b c p (i, s, x, y) = none) (k : Nat) (hk : Whole b c k) (h2 : i < c) : False := by
  obtain ⟨h60, s', x', y', e⟩ := hk
  rcases Nat.lt_trichotomy k p with q | q | q
  · have e1 : its b c (k + 1) = none := by rw [its_s e, stp_c]
    have e2 := its_nn e1 (p - (k + 1))
    rw [show k + 1 + (p - (k + 1)) = p by omega, h] at e2
    cases e2
  · subst q
    rw [h] at e
    cases e
    exact absurd h2 (Nat.lt_irrefl _)
  · have e1 : its b c (p + 1) = none := by rw [its_s h, h1]
    have e2 := its_nn e1 (k - (p + 1))
    rw [show p + 1 + (k - (p + 1)) = k by omega, e] at e2
    cases e2
set_option maxHeartbeats 4000000 in
set_option maxRecDepth 100000 in
theorem m_X0_unpackTo {n : Nat} {μ : AH} {q u c e : Nat} {nx0 so0 : Int} {b f g h : Nat → Int} (hB : BY μ q c nx0 so0 b) (hU : PL μ u 60 e f g h) (hd : q + 1 < u ∨ u + 3 < q) (hc : c ≤ 600) (hby : ∀ p, p < c → 0 ≤ b p ∧ b p ≤ 255) : AMet YX0_unpackTo [vR q, vR u] n μ (Rt (fun v n' μ' => n' = n ∧ ∃ (nx' so' : Int) (e' : Nat) (f' g' h' : Nat → Int), BY μ' q c nx' so' b ∧ PL μ' u 60 e' f' g' h' ∧ Fr [q, u, u + 1, u + 2, u + 3] μ μ' ∧ e' ≤ 60 ∧ ((v = vI 1 ∧ Whole b c e' ∧ Tells b c e' f' g' h') ∨ (v = vI 0 ∧ ∀ k, ¬ Whole b c k)))) := by
  refine AMet.of (by decide) rfl (Nat.le_of_ble_eq_true rfl) ?_
  have loop : ∀ (j p i : Nat) (px sv xv yv nx so : Int) (μ1 : AH) (f1 g1 h1 : Nat → Int), 60 - p < j → p ≤ 60 → px = (p : Int) → i ≤ c → nx = (i : Int) → so = 1 → BY μ1 q c nx so b → PL μ1 u 60 p f1 g1 h1 → Tells b c p f1 g1 h1 → its b c p = some (i, sv, xv, yv) → Fr [q, u, u + 1, u + 2, u + 3] μ μ1 → (p ≠ 0 → sv = f1 (p - 1)) → (0 ≤ sv ∧ sv ≤ 1000000 ∧ -100000 ≤ xv ∧ xv ≤ 100000 ∧ -100000 ≤ yv ∧ yv ≤ 100000) → AW YX0_unpackTo none (Rt (fun v n' μ' => n' = n ∧ ∃ (nx' so' : Int) (e' : Nat) (f' g' h' : Nat → Int), BY μ' q c nx' so' b ∧ PL μ' u 60 e' f' g' h' ∧ Fr [q, u, u + 1, u + 2, u + 3] μ μ' ∧ e' ≤ 60 ∧ ((v = vI 1 ∧ Whole b c e' ∧ Tells b c e' f' g' h') ∨ (v = vI 0 ∧ ∀ k, ¬ Whole b c k)))) 25 [some (vR q), some (vR u), some (vI (sv)), some (vI (xv)), some (vI (yv)), some (vI (px))] [] n μ1 0 0 := by
    intro j
    induction j with
    | zero => intro p i px sv xv yv nx so μ1 f1 g1 h1 hj; exact absurd hj (Nat.not_lt_zero _)
    | succ j ih =>
      intro p i px sv xv yv nx so μ1 f1 g1 h1 hj hp60 hp hic hnx hso hB1 hU1 htl hit hfr hlast hbd
      refine aw_iload (q := 27) dX0_unpackTo_25 rfl rfl ?_
      refine aw_bipush (q := 29) dX0_unpackTo_27 rfl (by decide) (by omega) ?_
      refine aw_ic_ge (t := 102) (q := 32) dX0_unpackTo_29 rfl (by decide) (fun bc1 => ?_) (fun bc1 => ?_)
      · skip
        refine aw_aload_n (q := 103) dX0_unpackTo_102 rfl rfl rfl ?_
        refine aw_get (q := 106) dX0_unpackTo_103 rfl fl_X0_19 hB1.1 rfl (fun _ => ?_)
        refine aw_aload_n (q := 107) dX0_unpackTo_106 rfl rfl rfl ?_
        refine aw_get (q := 110) dX0_unpackTo_107 rfl fl_X0_15 hB1.1 rfl (fun _ => ?_)
        refine aw_ic_ne (t := 117) (q := 113) dX0_unpackTo_110 rfl (by decide) (fun bc2 => ?_) (fun bc2 => ?_)
        · skip
          refine aw_iconst (q := 118) dX0_unpackTo_117 rfl (by omega) ?_
          exact aw_zret dX0_unpackTo_118 rfl (Or.inl rfl) (by decide) (by decide) ⟨_, rfl, rfl, nx, so, p, f1, g1, h1, hB1, hU1, hfr, by omega, Or.inr ⟨rfl, fun k9 hk9 => noW hit (by omega) (by omega) k9 hk9⟩⟩
        · skip
          refine aw_iconst (q := 114) dX0_unpackTo_113 rfl (by omega) ?_
          refine aw_goto (q := 118) dX0_unpackTo_114 (by decide) ?_
          exact aw_zret dX0_unpackTo_118 rfl (Or.inr rfl) (by decide) (by decide) ⟨_, rfl, rfl, nx, so, p, f1, g1, h1, hB1, hU1, hfr, by omega, Or.inl ⟨rfl, ⟨by omega, sv, xv, yv, by rw [hit, show i = c by omega]⟩, htl⟩⟩
      · skip
        refine aw_aload_n (q := 33) dX0_unpackTo_32 rfl rfl rfl ?_
        refine aw_get (q := 36) dX0_unpackTo_33 rfl fl_X0_19 hB1.1 rfl (fun _ => ?_)
        refine aw_aload_n (q := 37) dX0_unpackTo_36 rfl rfl rfl ?_
        refine aw_get (q := 40) dX0_unpackTo_37 rfl fl_X0_15 hB1.1 rfl (fun _ => ?_)
        refine aw_ic_ge (t := 102) (q := 43) dX0_unpackTo_40 rfl (by decide) (fun bc3 => ?_) (fun bc3 => ?_)
        · skip
          refine aw_aload_n (q := 103) dX0_unpackTo_102 rfl rfl rfl ?_
          refine aw_get (q := 106) dX0_unpackTo_103 rfl fl_X0_19 hB1.1 rfl (fun _ => ?_)
          refine aw_aload_n (q := 107) dX0_unpackTo_106 rfl rfl rfl ?_
          refine aw_get (q := 110) dX0_unpackTo_107 rfl fl_X0_15 hB1.1 rfl (fun _ => ?_)
          refine aw_ic_ne (t := 117) (q := 113) dX0_unpackTo_110 rfl (by decide) (fun bc4 => ?_) (fun bc4 => ?_)
          · skip
            refine aw_iconst (q := 118) dX0_unpackTo_117 rfl (by omega) ?_
            exact aw_zret dX0_unpackTo_118 rfl (Or.inl rfl) (by decide) (by decide) ⟨_, rfl, rfl, nx, so, p, f1, g1, h1, hB1, hU1, hfr, by omega, Or.inr ⟨rfl, fun k9 hk9 => noW hit (by omega) (by omega) k9 hk9⟩⟩
          · skip
            refine aw_iconst (q := 114) dX0_unpackTo_113 rfl (by omega) ?_
            refine aw_goto (q := 118) dX0_unpackTo_114 (by decide) ?_
            exact aw_zret dX0_unpackTo_118 rfl (Or.inr rfl) (by decide) (by decide) ⟨_, rfl, rfl, nx, so, p, f1, g1, h1, hB1, hU1, hfr, by omega, Or.inl ⟨rfl, ⟨by omega, sv, xv, yv, by rw [hit, show i = c by omega]⟩, htl⟩⟩
        · skip
          have hzb := hbd
          refine aw_iload_n (q := 44) dX0_unpackTo_43 rfl rfl rfl ?_
          refine aw_aload_n (q := 45) dX0_unpackTo_44 rfl rfl rfl ?_
          refine aw_callV [] (q := 48) dX0_unpackTo_45 rfl ck_X0_nextDifference lk_X0_45 rfl ⟨Nat.le_of_ble_eq_true rfl, Nat.le_of_ble_eq_true rfl⟩ rfl rfl hB1.1 rfl (Nat.le_of_ble_eq_true rfl) (by decide) (m_X0_nextDifference (i := i) hnx (by omega) hc (Or.inr hso) hby hB1) rfl (fun _ _ _ h => (Rt_x h).elim) ?_
          rintro v n9 μ2 - ⟨v9, hv9, rfl, d1, nx1, so1, i1, rfl, hB2, hnx1, hF2, hd1, hq11, hq21, hq31, hq41⟩
          obtain rfl := Sum.inl.inj hv9
          have hso1 : so1 = 0 ∨ so1 = 1 := by rcases hd1 with ⟨_, h⟩ | ⟨_, h⟩ <;> omega
          refine aw_iadd (q := 49) dX0_unpackTo_48 rfl (by omega) ?_
          refine aw_istore_n (q := 50) dX0_unpackTo_49 rfl rfl (by decide) ?_
          refine aw_iload_n (q := 51) dX0_unpackTo_50 rfl rfl rfl ?_
          refine aw_aload_n (q := 52) dX0_unpackTo_51 rfl rfl rfl ?_
          refine aw_callV [] (q := 55) dX0_unpackTo_52 rfl ck_X0_nextDifference lk_X0_45 rfl ⟨Nat.le_of_ble_eq_true rfl, Nat.le_of_ble_eq_true rfl⟩ rfl rfl hB2.1 rfl (Nat.le_of_ble_eq_true rfl) (by decide) (m_X0_nextDifference (i := i1) hnx1 (by omega) hc hso1 hby hB2) rfl (fun _ _ _ h => (Rt_x h).elim) ?_
          rintro v n9 μ3 - ⟨v9, hv9, rfl, d2, nx2, so2, i2, rfl, hB3, hnx2, hF3, hd2, hq12, hq22, hq32, hq42⟩
          obtain rfl := Sum.inl.inj hv9
          have hso2 : so2 = 0 ∨ so2 = 1 := by rcases hd2 with ⟨_, h⟩ | ⟨_, h⟩ <;> omega
          refine aw_iadd (q := 56) dX0_unpackTo_55 rfl (by omega) ?_
          refine aw_istore_n (q := 57) dX0_unpackTo_56 rfl rfl (by decide) ?_
          refine aw_iload (q := 59) dX0_unpackTo_57 rfl rfl ?_
          refine aw_aload_n (q := 60) dX0_unpackTo_59 rfl rfl rfl ?_
          refine aw_callV [] (q := 63) dX0_unpackTo_60 rfl ck_X0_nextDifference lk_X0_45 rfl ⟨Nat.le_of_ble_eq_true rfl, Nat.le_of_ble_eq_true rfl⟩ rfl rfl hB3.1 rfl (Nat.le_of_ble_eq_true rfl) (by decide) (m_X0_nextDifference (i := i2) hnx2 (by omega) hc hso2 hby hB3) rfl (fun _ _ _ h => (Rt_x h).elim) ?_
          rintro v n9 μ4 - ⟨v9, hv9, rfl, d3, nx3, so3, i3, rfl, hB4, hnx3, hF4, hd3, hq13, hq23, hq33, hq43⟩
          obtain rfl := Sum.inl.inj hv9
          have hso3 : so3 = 0 ∨ so3 = 1 := by rcases hd3 with ⟨_, h⟩ | ⟨_, h⟩ <;> omega
          refine aw_iadd (q := 64) dX0_unpackTo_63 rfl (by omega) ?_
          refine aw_istore (q := 66) dX0_unpackTo_64 rfl (by decide) ?_
          have hpr : p = 0 ∨ f1 (p - 1) = sv := by by_cases h : p = 0; exact Or.inl h; exact Or.inr ((hlast h).symm)
          refine aw_aload_n (q := 67) dX0_unpackTo_66 rfl rfl rfl ?_
          refine aw_get (q := 70) dX0_unpackTo_67 rfl fl_X0_22 hB4.1 rfl (fun _ => ?_)
          refine aw_if_eq (t := 84) (q := 73) dX0_unpackTo_70 rfl (by decide) (fun bc5 => ?_) (fun bc5 => ?_)
          · skip
            have hnone : ∀ k, ¬ Whole b c k := by
              intro k9 hk9
              refine noW2 hit ?_ k9 hk9 (by omega)
              unfold stp
              rw [if_pos (by omega : i < c)]
              rcases hd1 with ⟨e1, s1⟩ | ⟨e1, s1⟩
              · rw [e1]; dsimp only
                rcases hd2 with ⟨e2, s2⟩ | ⟨e2, s2⟩
                · rw [e2]; dsimp only
                  rcases hd3 with ⟨e3, s3⟩ | ⟨e3, s3⟩
                  · rw [e3]; dsimp only
                    rw [if_neg]
                    intro h9
                    first | omega | exact absurd (show (p = 0 ∨ f1 (p - 1) < sv + d1) ∧ 0 ≤ sv + d1 ∧ sv + d1 ≤ 1000000 ∧ -100000 ≤ xv + d2 ∧ xv + d2 ≤ 100000 ∧ -100000 ≤ yv + d3 ∧ yv + d3 ≤ 100000 from ⟨by rcases h9.1 with h | h; exact Or.inl h; rcases hpr with h0 | h0; exact Or.inl h0; exact Or.inr (by rw [h0]; exact h), h9.2⟩) (by assumption)
                  · rw [e3]
                · rw [e2]
              · rw [e1]
            refine aw_iconst (q := 85) dX0_unpackTo_84 rfl (by omega) ?_
            exact aw_zret dX0_unpackTo_85 rfl (Or.inl rfl) (by decide) (by decide) ⟨_, rfl, rfl, nx3, so3, p, f1, g1, h1, hB4, ⟨((hF4 u (by simp only [List.mem_cons, List.not_mem_nil, or_false]; omega)).trans ((hF3 u (by simp only [List.mem_cons, List.not_mem_nil, or_false]; omega)).trans ((hF2 u (by simp only [List.mem_cons, List.not_mem_nil, or_false]; omega)).trans hU1.1))), ((hF4 (u + 1) (by simp only [List.mem_cons, List.not_mem_nil, or_false]; omega)).trans ((hF3 (u + 1) (by simp only [List.mem_cons, List.not_mem_nil, or_false]; omega)).trans ((hF2 (u + 1) (by simp only [List.mem_cons, List.not_mem_nil, or_false]; omega)).trans hU1.2.1))), ((hF4 (u + 2) (by simp only [List.mem_cons, List.not_mem_nil, or_false]; omega)).trans ((hF3 (u + 2) (by simp only [List.mem_cons, List.not_mem_nil, or_false]; omega)).trans ((hF2 (u + 2) (by simp only [List.mem_cons, List.not_mem_nil, or_false]; omega)).trans hU1.2.2.1))), ((hF4 (u + 3) (by simp only [List.mem_cons, List.not_mem_nil, or_false]; omega)).trans ((hF3 (u + 3) (by simp only [List.mem_cons, List.not_mem_nil, or_false]; omega)).trans ((hF2 (u + 3) (by simp only [List.mem_cons, List.not_mem_nil, or_false]; omega)).trans hU1.2.2.2)))⟩, (Fr_tr (Fr_tr (Fr_tr hfr hF2 (fun a h => by simp only [List.mem_cons, List.not_mem_nil, or_false] at h ⊢; omega)) hF3 (fun a h => by simp only [List.mem_cons, List.not_mem_nil, or_false] at h ⊢; omega)) hF4 (fun a h => by simp only [List.mem_cons, List.not_mem_nil, or_false] at h ⊢; omega)), by omega, Or.inr ⟨rfl, hnone⟩⟩
          · skip
            refine aw_aload_n (q := 74) dX0_unpackTo_73 rfl rfl rfl ?_
            refine aw_iload_n (q := 75) dX0_unpackTo_74 rfl rfl rfl ?_
            refine aw_iload_n (q := 76) dX0_unpackTo_75 rfl rfl rfl ?_
            refine aw_iload (q := 78) dX0_unpackTo_76 rfl rfl ?_
            refine aw_callV [vI (sv + d1), vI (xv + d2), vI (yv + d3)] (q := 81) dX0_unpackTo_78 rfl ck_X5_mayFollow lk_X0_49 rfl ⟨Nat.le_of_ble_eq_true rfl, Nat.le_of_ble_eq_true rfl⟩ rfl rfl ((hF4 u (by simp only [List.mem_cons, List.not_mem_nil, or_false]; omega)).trans ((hF3 u (by simp only [List.mem_cons, List.not_mem_nil, or_false]; omega)).trans ((hF2 u (by simp only [List.mem_cons, List.not_mem_nil, or_false]; omega)).trans hU1.1))) rfl (Nat.le_of_ble_eq_true rfl) (by decide) (m_X5_mayFollow (f := f1) (g := g1) (h := h1) ⟨((hF4 u (by simp only [List.mem_cons, List.not_mem_nil, or_false]; omega)).trans ((hF3 u (by simp only [List.mem_cons, List.not_mem_nil, or_false]; omega)).trans ((hF2 u (by simp only [List.mem_cons, List.not_mem_nil, or_false]; omega)).trans hU1.1))), ((hF4 (u + 1) (by simp only [List.mem_cons, List.not_mem_nil, or_false]; omega)).trans ((hF3 (u + 1) (by simp only [List.mem_cons, List.not_mem_nil, or_false]; omega)).trans ((hF2 (u + 1) (by simp only [List.mem_cons, List.not_mem_nil, or_false]; omega)).trans hU1.2.1))), ((hF4 (u + 2) (by simp only [List.mem_cons, List.not_mem_nil, or_false]; omega)).trans ((hF3 (u + 2) (by simp only [List.mem_cons, List.not_mem_nil, or_false]; omega)).trans ((hF2 (u + 2) (by simp only [List.mem_cons, List.not_mem_nil, or_false]; omega)).trans hU1.2.2.1))), ((hF4 (u + 3) (by simp only [List.mem_cons, List.not_mem_nil, or_false]; omega)).trans ((hF3 (u + 3) (by simp only [List.mem_cons, List.not_mem_nil, or_false]; omega)).trans ((hF2 (u + 3) (by simp only [List.mem_cons, List.not_mem_nil, or_false]; omega)).trans hU1.2.2.2)))⟩ (by omega) (Nat.le_refl 60)) rfl (fun _ _ _ h => (Rt_x h).elim) ?_
            rintro v n9 μ9 - ⟨v9, hv9, rfl, rfl, rfl⟩
            obtain rfl := Sum.inl.inj hv9
            refine aw_if_ne (t := 86) (q := 84) dX0_unpackTo_81 rfl (by decide) (fun bc6 => ?_) (fun bc6 => ?_)
            · skip
              replace bc6 := bz_n0.mp bc6
              have hs3 : so3 = 1 := by omega
              have e1 : dn b c i = some (d1, i1) := by rcases hd1 with ⟨e, _⟩ | ⟨_, h⟩; exact e; (rcases hd2 with ⟨_, h2⟩ | ⟨_, h2⟩ <;> rcases hd3 with ⟨_, h3⟩ | ⟨_, h3⟩ <;> omega)
              have e2 : dn b c i1 = some (d2, i2) := by rcases hd2 with ⟨e, _⟩ | ⟨_, h⟩; exact e; (rcases hd3 with ⟨_, h3⟩ | ⟨_, h3⟩ <;> omega)
              have e3 : dn b c i2 = some (d3, i3) := by rcases hd3 with ⟨e, _⟩ | ⟨_, h⟩; exact e; omega
              have hmf : (p = 0 ∨ f1 (p - 1) < sv + d1) ∧ 0 ≤ sv + d1 ∧ sv + d1 ≤ 1000000 ∧ -100000 ≤ xv + d2 ∧ xv + d2 ≤ 100000 ∧ -100000 ≤ yv + d3 ∧ yv + d3 ≤ 100000 := by assumption
              have hs1 : so = 1 := by rcases hd1 with ⟨_, h1⟩ | ⟨_, h1⟩ <;> rcases hd2 with ⟨_, h2⟩ | ⟨_, h2⟩ <;> rcases hd3 with ⟨_, h3⟩ | ⟨_, h3⟩ <;> omega
              have hit2 : its b c (p + 1) = some (i3, sv + d1, xv + d2, yv + d3) := by
                rw [its_s hit]; unfold stp; rw [if_pos (by omega : i < c), e1]; dsimp only; rw [e2]; dsimp only; rw [e3]; dsimp only
                rw [if_pos]
                exact ⟨by rcases hmf.1 with h | h; exact Or.inl h; rcases hpr with h0 | h0; exact Or.inl h0; exact Or.inr (by rw [← h0]; omega), hmf.2⟩
              have htl2 : Tells b c (p + 1) (insF f1 p p (sv + d1)) (insF g1 p p (xv + d2)) (insF h1 p p (yv + d3)) := by
                intro p9 hp9
                rcases Nat.lt_succ_iff_lt_or_eq.mp hp9 with h8 | h8
                · rw [insF_o h8, insF_o h8, insF_o h8]; exact htl p9 h8
                · rw [h8, insF_a, insF_a, insF_a]; exact ⟨i3, hit2⟩
              refine aw_aload_n (q := 87) dX0_unpackTo_86 rfl rfl rfl ?_
              refine aw_iload (q := 89) dX0_unpackTo_87 rfl rfl ?_
              refine aw_iload_n (q := 90) dX0_unpackTo_89 rfl rfl rfl ?_
              refine aw_iload_n (q := 91) dX0_unpackTo_90 rfl rfl rfl ?_
              refine aw_iload (q := 93) dX0_unpackTo_91 rfl rfl ?_
              refine aw_callV [vI (px), vI (sv + d1), vI (xv + d2), vI (yv + d3)] (q := 96) dX0_unpackTo_93 rfl ck_X5_insert lk_X0_53 rfl ⟨Nat.le_of_ble_eq_true rfl, Nat.le_of_ble_eq_true rfl⟩ rfl rfl ((hF4 u (by simp only [List.mem_cons, List.not_mem_nil, or_false]; omega)).trans ((hF3 u (by simp only [List.mem_cons, List.not_mem_nil, or_false]; omega)).trans ((hF2 u (by simp only [List.mem_cons, List.not_mem_nil, or_false]; omega)).trans hU1.1))) rfl (Nat.le_of_ble_eq_true rfl) (by decide) (m_X5_insert (r := p) (f := f1) (g := g1) (h := h1) hp (Nat.le_refl _) (by omega) (Nat.le_refl 60) ⟨((hF4 u (by simp only [List.mem_cons, List.not_mem_nil, or_false]; omega)).trans ((hF3 u (by simp only [List.mem_cons, List.not_mem_nil, or_false]; omega)).trans ((hF2 u (by simp only [List.mem_cons, List.not_mem_nil, or_false]; omega)).trans hU1.1))), ((hF4 (u + 1) (by simp only [List.mem_cons, List.not_mem_nil, or_false]; omega)).trans ((hF3 (u + 1) (by simp only [List.mem_cons, List.not_mem_nil, or_false]; omega)).trans ((hF2 (u + 1) (by simp only [List.mem_cons, List.not_mem_nil, or_false]; omega)).trans hU1.2.1))), ((hF4 (u + 2) (by simp only [List.mem_cons, List.not_mem_nil, or_false]; omega)).trans ((hF3 (u + 2) (by simp only [List.mem_cons, List.not_mem_nil, or_false]; omega)).trans ((hF2 (u + 2) (by simp only [List.mem_cons, List.not_mem_nil, or_false]; omega)).trans hU1.2.2.1))), ((hF4 (u + 3) (by simp only [List.mem_cons, List.not_mem_nil, or_false]; omega)).trans ((hF3 (u + 3) (by simp only [List.mem_cons, List.not_mem_nil, or_false]; omega)).trans ((hF2 (u + 3) (by simp only [List.mem_cons, List.not_mem_nil, or_false]; omega)).trans hU1.2.2.2)))⟩) rfl (fun _ _ _ h => (Vd_x h).elim) ?_
              rintro v n9 μ5 - ⟨hv9, rfl, hU5, hF5⟩
              obtain rfl := Sum.inl.inj hv9
              refine aw_iinc (q := 99) dX0_unpackTo_96 rfl rfl (by decide) (by omega) ?_
              refine aw_goto (q := 25) dX0_unpackTo_99 (by decide) ?_
              have hU6 : PL _ u 60 (p + 1) (insF f1 p p (sv + d1)) (insF g1 p p (xv + d2)) (insF h1 p p (yv + d3)) := hU5
              exact ih (p + 1) i3 _ _ _ _ _ _ _ _ _ _ (by omega) (by omega) (by omega) (by omega) hnx3 (by omega) ⟨(hF5 q (by simp only [List.mem_cons, List.not_mem_nil, or_false]; omega)).trans hB4.1, (hF5 (q + 1) (by simp only [List.mem_cons, List.not_mem_nil, or_false]; omega)).trans hB4.2⟩ hU6 htl2 hit2 (Fr_tr (Fr_tr (Fr_tr (Fr_tr hfr hF2 (fun a h => by simp only [List.mem_cons, List.not_mem_nil, or_false] at h ⊢; omega)) hF3 (fun a h => by simp only [List.mem_cons, List.not_mem_nil, or_false] at h ⊢; omega)) hF4 (fun a h => by simp only [List.mem_cons, List.not_mem_nil, or_false] at h ⊢; omega)) hF5 (fun a h => by simp only [List.mem_cons, List.not_mem_nil, or_false] at h ⊢; omega)) (fun _ => by rw [Nat.add_sub_cancel, insF_a]) ⟨by omega, by omega, by omega, by omega, by omega, by omega⟩
            · skip
              replace bc6 := bz_0.mp bc6
              have hnone : ∀ k, ¬ Whole b c k := by
                intro k9 hk9
                refine noW2 hit ?_ k9 hk9 (by omega)
                unfold stp
                rw [if_pos (by omega : i < c)]
                rcases hd1 with ⟨e1, s1⟩ | ⟨e1, s1⟩
                · rw [e1]; dsimp only
                  rcases hd2 with ⟨e2, s2⟩ | ⟨e2, s2⟩
                  · rw [e2]; dsimp only
                    rcases hd3 with ⟨e3, s3⟩ | ⟨e3, s3⟩
                    · rw [e3]; dsimp only
                      rw [if_neg]
                      intro h9
                      first | omega | exact absurd (show (p = 0 ∨ f1 (p - 1) < sv + d1) ∧ 0 ≤ sv + d1 ∧ sv + d1 ≤ 1000000 ∧ -100000 ≤ xv + d2 ∧ xv + d2 ≤ 100000 ∧ -100000 ≤ yv + d3 ∧ yv + d3 ≤ 100000 from ⟨by rcases h9.1 with h | h; exact Or.inl h; rcases hpr with h0 | h0; exact Or.inl h0; exact Or.inr (by rw [h0]; exact h), h9.2⟩) (by assumption)
                    · rw [e3]
                  · rw [e2]
                · rw [e1]
              refine aw_iconst (q := 85) dX0_unpackTo_84 rfl (by omega) ?_
              exact aw_zret dX0_unpackTo_85 rfl (Or.inl rfl) (by decide) (by decide) ⟨_, rfl, rfl, nx3, so3, p, f1, g1, h1, hB4, ⟨((hF4 u (by simp only [List.mem_cons, List.not_mem_nil, or_false]; omega)).trans ((hF3 u (by simp only [List.mem_cons, List.not_mem_nil, or_false]; omega)).trans ((hF2 u (by simp only [List.mem_cons, List.not_mem_nil, or_false]; omega)).trans hU1.1))), ((hF4 (u + 1) (by simp only [List.mem_cons, List.not_mem_nil, or_false]; omega)).trans ((hF3 (u + 1) (by simp only [List.mem_cons, List.not_mem_nil, or_false]; omega)).trans ((hF2 (u + 1) (by simp only [List.mem_cons, List.not_mem_nil, or_false]; omega)).trans hU1.2.1))), ((hF4 (u + 2) (by simp only [List.mem_cons, List.not_mem_nil, or_false]; omega)).trans ((hF3 (u + 2) (by simp only [List.mem_cons, List.not_mem_nil, or_false]; omega)).trans ((hF2 (u + 2) (by simp only [List.mem_cons, List.not_mem_nil, or_false]; omega)).trans hU1.2.2.1))), ((hF4 (u + 3) (by simp only [List.mem_cons, List.not_mem_nil, or_false]; omega)).trans ((hF3 (u + 3) (by simp only [List.mem_cons, List.not_mem_nil, or_false]; omega)).trans ((hF2 (u + 3) (by simp only [List.mem_cons, List.not_mem_nil, or_false]; omega)).trans hU1.2.2.2)))⟩, (Fr_tr (Fr_tr (Fr_tr hfr hF2 (fun a h => by simp only [List.mem_cons, List.not_mem_nil, or_false] at h ⊢; omega)) hF3 (fun a h => by simp only [List.mem_cons, List.not_mem_nil, or_false] at h ⊢; omega)) hF4 (fun a h => by simp only [List.mem_cons, List.not_mem_nil, or_false] at h ⊢; omega)), by omega, Or.inr ⟨rfl, hnone⟩⟩
  refine aw_aload_n (q := 1) dX0_unpackTo_0 rfl rfl rfl ?_
  refine aw_iconst (q := 2) dX0_unpackTo_1 rfl (by omega) ?_
  refine aw_put (q := 5) dX0_unpackTo_2 rfl fp_X0_26 hU.1 (Nat.le_of_ble_eq_true rfl) trivial ?_
  refine aw_aload_n (q := 6) dX0_unpackTo_5 rfl rfl rfl ?_
  refine aw_iconst (q := 7) dX0_unpackTo_6 rfl (by omega) ?_
  refine aw_put (q := 10) dX0_unpackTo_7 rfl fp_X0_19 ((hu_n (by omega)).trans hB.1) (Nat.le_of_ble_eq_true rfl) trivial ?_
  refine aw_aload_n (q := 11) dX0_unpackTo_10 rfl rfl rfl ?_
  refine aw_iconst (q := 12) dX0_unpackTo_11 rfl (by omega) ?_
  refine aw_put (q := 15) dX0_unpackTo_12 rfl fp_X0_22 hu_s (Nat.le_of_ble_eq_true rfl) (Or.inr rfl) ?_
  refine aw_iconst (q := 16) dX0_unpackTo_15 rfl (by omega) ?_
  refine aw_istore_n (q := 17) dX0_unpackTo_16 rfl rfl (by decide) ?_
  refine aw_iconst (q := 18) dX0_unpackTo_17 rfl (by omega) ?_
  refine aw_istore_n (q := 19) dX0_unpackTo_18 rfl rfl (by decide) ?_
  refine aw_iconst (q := 20) dX0_unpackTo_19 rfl (by omega) ?_
  refine aw_istore (q := 22) dX0_unpackTo_20 rfl (by decide) ?_
  refine aw_iconst (q := 23) dX0_unpackTo_22 rfl (by omega) ?_
  refine aw_istore (q := 25) dX0_unpackTo_23 rfl (by decide) ?_
  exact loop 61 0 0 _ _ _ _ _ _ _ f g h (by omega) (by omega) rfl (by omega) rfl (by omega) ⟨hu_s, ((hu_n (by omega)).trans ((hu_n (by omega)).trans ((hu_n (by omega)).trans hB.2)))⟩ ⟨((hu_n (by omega)).trans ((hu_n (by omega)).trans hu_s)), ((hu_n (by omega)).trans ((hu_n (by omega)).trans ((hu_n (by omega)).trans hU.2.1))), ((hu_n (by omega)).trans ((hu_n (by omega)).trans ((hu_n (by omega)).trans hU.2.2.1))), ((hu_n (by omega)).trans ((hu_n (by omega)).trans ((hu_n (by omega)).trans hU.2.2.2)))⟩ (fun p hp => absurd hp (Nat.not_lt_zero p)) rfl (Fr_hu (Fr_hu (Fr_hu Fr_rf (by simp)) (by simp)) (by simp)) (fun h => absurd rfl h) ⟨by omega, by omega, by omega, by omega, by omega, by omega⟩
