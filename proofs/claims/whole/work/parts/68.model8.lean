/-! ===== TrackRowsModel: read (written by m_model8.py) ===== -/
def T3 (b : Nat → Int) (c k : Nat) (r : Nat → Int) : Prop := Tells b c k (fun p => r (3 * p)) (fun p => r (3 * p + 1)) (fun p => r (3 * p + 2))
theorem T3_s {b : Nat → Int} {c k i : Nat} {r : Nat → Int} {s x y : Int} (h : T3 b c k r) (h' : its b c (k + 1) = some (i, s, x, y)) : T3 b c (k + 1) (fu (fu (fu r (3 * k) s) (3 * k + 1) x) (3 * k + 2) y) := fun p hp => by
  rcases Nat.lt_succ_iff_lt_or_eq.mp hp with q | q
  · obtain ⟨i9, e9⟩ := h p q
    refine ⟨i9, ?_⟩
    rw [e9]
    dsimp only
    rw [fu_n (by omega), fu_n (by omega), fu_n (by omega), fu_n (by omega), fu_n (by omega), fu_n (by omega), fu_n (by omega), fu_n (by omega), fu_n (by omega)]
  · subst q
    refine ⟨i, ?_⟩
    rw [h']
    dsimp only
    rw [fu_n (by omega), fu_n (by omega), fu_s, fu_n (by omega), fu_s, fu_s]
theorem T3_l {b : Nat → Int} {c k i : Nat} {r : Nat → Int} {s x y : Int} (h : T3 b c k r) (h' : its b c k = some (i, s, x, y)) (hk : 0 < k) : r (3 * k - 3) = s ∧ r (3 * k - 2) = x ∧ r (3 * k - 1) = y := by
  obtain ⟨i9, e9⟩ := h (k - 1) (by omega)
  rw [show k - 1 + 1 = k by omega, h'] at e9
  dsimp only at e9
  rw [show 3 * (k - 1) = 3 * k - 3 by omega, show 3 * k - 3 + 1 = 3 * k - 2 by omega, show 3 * k - 3 + 2 = 3 * k - 1 by omega] at e9
  cases e9
  exact ⟨rfl, rfl, rfl⟩
theorem T3_u {b : Nat → Int} {c k p : Nat} {r f g h : Nat → Int} (h1 : T3 b c k r) (h2 : Tells b c k f g h) (hp : p < k) : r (3 * p) = f p ∧ r (3 * p + 1) = g p ∧ r (3 * p + 2) = h p := by
  obtain ⟨i, e⟩ := h1 p hp
  obtain ⟨j, e'⟩ := h2 p hp
  rw [e] at e'
  dsimp only at e'
  simp only [Option.some.injEq, Prod.mk.injEq] at e'
  exact ⟨e'.2.1, e'.2.2.1, e'.2.2.2⟩
/-- q numbers of another row, laid from b on -/
def cpy (F r : Nat → Int) (b q : Nat) : Nat → Int := fun p => if b ≤ p ∧ p < b + q then r (p - b) else F p
theorem cpy_0 {F r : Nat → Int} {b : Nat} : cpy F r b 0 = F := funext fun p => if_neg (by omega)
theorem cpy_s {F r : Nat → Int} {b q : Nat} {v : Int} (hv : v = r q) : fu (cpy F r b q) (b + q) v = cpy F r b (q + 1) := funext fun p => by
  by_cases e : p = b + q
  · subst e
    rw [fu_s, hv]
    unfold cpy
    rw [if_pos (by omega), show b + q - b = q by omega]
  · rw [fu_n e]
    unfold cpy
    by_cases h : b ≤ p ∧ p < b + q
    · rw [if_pos h, if_pos (by omega)]
    · rw [if_neg h, if_neg (by omega)]
theorem cpy_i {F r : Nat → Int} {b q p : Nat} (h : p < q) : cpy F r b q (b + p) = r p := by unfold cpy; rw [if_pos (by omega), show b + p - b = p by omega]
theorem cpy_o {F r : Nat → Int} {b q p : Nat} (h : p < b ∨ b + q ≤ p) : cpy F r b q p = F p := if_neg (by omega)
theorem FrR_F {μ μ' : AH} (h : FrR 82 83 μ μ') : Fr [82] μ μ' := fun b hb => h b (by simp at hb; omega)
theorem Fr_sub {L L' : List Nat} {μ μ' : AH} (h : Fr L μ μ') (h' : ∀ a ∈ L, a ∈ L') : Fr L' μ μ' := fun b hb => h b (fun hm => hb (h' b hm))
set_option maxHeartbeats 4000000 in
set_option maxRecDepth 100000 in
theorem m_X7_read {n : Nat} {μ : AH} {th B : Int} {D : Nat} {dv : Nat → DVt} {Fn : Nat} {fv : Nat → FVt} {sv : SVt} {pk fd : Nat × (Nat → Int)} {spd lim : Int} {i : Int} (hm : MM μ th D dv Fn fv sv pk fd spd lim) (hO : COk B D dv Fn fv sv pk fd spd lim) : AMet YX7_read [vR 82, vI (i)] n μ (fun o n' μ' => n' = n ∧ FrR 82 101 μ μ' ∧ ∃ v : Int, o = .inl (some (vI v)) ∧ ((¬ (0 ≤ i ∧ i < (D : Int)) ∧ MM μ' 1 D dv Fn fv sv pk fd spd lim) ∨ ((0 ≤ i ∧ i < (D : Int)) ∧ (∀ k, ¬ Whole fd.2 fd.1 k) ∧ v = -1 ∧ MM μ' 0 D dv Fn fv sv pk (0, fd.2) spd lim) ∨ ((0 ≤ i ∧ i < (D : Int)) ∧ ∃ k : Nat, Whole fd.2 fd.1 k ∧ v = (k : Int) ∧ ∀ f g h, Tells fd.2 fd.1 k f g h → MM μ' 0 D (dvu dv i.toNat (dvRd (dv i.toNat) k f g h)) Fn fv sv pk (0, fd.2) spd lim))) := by
  refine AMet.of (by decide) rfl (Nat.le_of_ble_eq_true rfl) ?_
  obtain ⟨at7, ls7, wy7, c7, t7, F7, G7, H7, k7, a7, b7, e7, X7, Y7, y7, o7, r7, s7, u7, v7, w7, h82, h83, h84, h85, h86, h87, h88, h89, h90, h91, h92, h93, h94, h95, h96, h97, h98, h99, h100, ag1, ag2, ag3, ag4, ag5, ag6, ag7, ag8⟩ := id hm
  obtain ⟨hN, hdv, hFn, hfv, hsn, hsb, hpk, hfd, hfb, hs1, hs2, hl1, hl2⟩ := id hO
  refine aw_aload_n (q := 1) dX7_read_0 rfl rfl rfl ?_
  refine aw_iconst (q := 2) dX7_read_1 rfl (by omega) ?_
  refine aw_put (q := 5) dX7_read_2 rfl fp_X7_72 h82 (Nat.le_of_ble_eq_true rfl) trivial ?_
  refine mm_z (at' := at7) (ls' := ls7) (wy' := wy7) hm (fun μ0 hm0 hF0 => ?_)
  obtain ⟨at7, ls7, wy7, c7, t7, F7, G7, H7, k7, a7, b7, e7, X7, Y7, y7, o7, r7, s7, u7, v7, w7, h82, h83, h84, h85, h86, h87, h88, h89, h90, h91, h92, h93, h94, h95, h96, h97, h98, h99, h100, ag1, ag2, ag3, ag4, ag5, ag6, ag7, ag8⟩ := id hm0
  refine aw_aload_n (q := 6) dX7_read_5 rfl rfl rfl ?_
  refine aw_aload_n (q := 7) dX7_read_6 rfl rfl rfl ?_
  refine aw_iload_n (q := 8) dX7_read_7 rfl rfl rfl ?_
  refine aw_callV [vI (i)] (q := 11) dX7_read_8 rfl ck_X7_isDevice lk_X7_78 rfl ⟨Nat.le_of_ble_eq_true rfl, Nat.le_of_ble_eq_true rfl⟩ rfl rfl h82 rfl (Nat.le_of_ble_eq_true rfl) (by decide) (m_X7_isDevice hm0 hO) rfl (fun _ _ _ h => (Rt_x h).elim) ?_
  rintro v n9 μ9 - ⟨v9, hv9, hn9, hm9, rfl⟩
  obtain rfl := hn9.symm
  obtain rfl := hm9.symm
  obtain rfl := Sum.inl.inj hv9
  refine aw_if_ne (t := 18) (q := 14) dX7_read_11 rfl (by decide) (fun bc1 => ?_) (fun bc1 => ?_)
  · skip
    replace bc1 := bz_n0.mp bc1
    refine aw_iconst (q := 19) dX7_read_18 rfl (by omega) ?_
    refine aw_iconst (q := 20) dX7_read_19 rfl (by omega) ?_
    refine aw_callV [vI (0), vI (1)] (q := 23) dX7_read_20 rfl ck_X7_fails lk_X7_82 rfl ⟨Nat.le_of_ble_eq_true rfl, Nat.le_of_ble_eq_true rfl⟩ rfl rfl h82 rfl (Nat.le_of_ble_eq_true rfl) (by decide) (m_X7_fails_f h82) rfl (fun _ _ _ h => (Rt_x h).elim) ?_
    rintro v n9 μ9 - ⟨v9, hv9, hn9, hm9, rfl⟩
    obtain rfl := hn9.symm
    obtain rfl := hm9.symm
    obtain rfl := Sum.inl.inj hv9
    refine aw_if_eq (t := 28) (q := 26) dX7_read_23 rfl (by decide) (fun bc2 => ?_) (fun bc2 => ?_)
    · skip
      refine aw_aload_n (q := 29) dX7_read_28 rfl rfl rfl ?_
      refine aw_iconst (q := 30) dX7_read_29 rfl (by omega) ?_
      refine aw_put (q := 33) dX7_read_30 rfl fp_X7_171 h82 (Nat.le_of_ble_eq_true rfl) trivial ?_
      refine aw_iconst (q := 34) dX7_read_33 rfl (by omega) ?_
      refine aw_istore_n (q := 35) dX7_read_34 rfl rfl (by decide) ?_
      refine aw_iconst (q := 36) dX7_read_35 rfl (by omega) ?_
      refine aw_istore_n (q := 37) dX7_read_36 rfl rfl (by decide) ?_
      refine aw_ls (ls := [some (vR 82), some (vI (i)), some (vI (0)), some (vI (1)), none, none, none]) ⟨rfl, ⟨rfl, ⟨rfl, ⟨rfl, trivial⟩⟩⟩⟩ ?_
      obtain ⟨d, hi⟩ : ∃ d : Nat, i = (d : Int) := ⟨i.toNat, by omega⟩
      have hid : i.toNat = d := by omega
      have hd5 : d < 5 := by omega
      have hcd := ag1 d hd5
      have hdo := (hdv d hd5).1
      have hc60 : (dv d).1 ≤ 60 := hdo.1
      have hk8 : (dv d).2.2.2.2.2.1 ≤ 8 := hdo.2.2.2.1
      have lp : ∀ (jlp k ib : Nat) (nx gx ax : Int) (μ1 : AH) (r9 : Nat → Int), 2 * (60 - k) + gx.toNat < jlp → nx = (k : Int) → k ≤ 60 → μ1 82 = oO 7 [vI 0, vI (D : Int), vR 83, vR 84, vR 85, vR 86, vR 87, vR 88, vR 89, vR 90, vI spd, vI lim, vI (Fn : Int), vR 91, vR 92, vR 93, vI (pk.1 : Int), vR 94, vI (fd.1 : Int), vR 95, vI ax, vR 96, vI (sv.1 : Int), vR 97, vR 98, vR 99, vR 100, vL ls7, vI wy7] → μ1 96 = oI 180 r9 → Fr [82, 96] μ0 μ1 → ((gx = 1 ∧ ∃ s x y, its fd.2 fd.1 k = some (ib, s, x, y) ∧ ax = (ib : Int) ∧ ib ≤ fd.1 ∧ T3 fd.2 fd.1 k r9 ∧ 0 ≤ s ∧ s ≤ 1000000 ∧ -100000 ≤ x ∧ x ≤ 100000 ∧ -100000 ≤ y ∧ y ≤ 100000) ∨ (gx = 0 ∧ ∀ k9, ¬ Whole fd.2 fd.1 k9)) → AW YX7_read none (fun o n' μ' => n' = n ∧ FrR 82 101 μ μ' ∧ ∃ v : Int, o = .inl (some (vI v)) ∧ ((¬ (0 ≤ i ∧ i < (D : Int)) ∧ MM μ' 1 D dv Fn fv sv pk fd spd lim) ∨ ((0 ≤ i ∧ i < (D : Int)) ∧ (∀ k, ¬ Whole fd.2 fd.1 k) ∧ v = -1 ∧ MM μ' 0 D dv Fn fv sv pk (0, fd.2) spd lim) ∨ ((0 ≤ i ∧ i < (D : Int)) ∧ ∃ k : Nat, Whole fd.2 fd.1 k ∧ v = (k : Int) ∧ ∀ f g h, Tells fd.2 fd.1 k f g h → MM μ' 0 D (dvu dv i.toNat (dvRd (dv i.toNat) k f g h)) Fn fv sv pk (0, fd.2) spd lim))) 37 [some (vR 82), some (vI (i)), some (vI (nx)), some (vI (gx)), none, none, none] [] n μ1 0 0 := by
        intro jlp
        induction jlp with
        | zero => intro k ib nx gx ax μ1 r9 hj; exact absurd hj (Nat.not_lt_zero _)
        | succ jlp ihlp =>
          intro k ib nx gx ax μ1 r9 hjlp hnx hk60 g82 g96 hF1 hgx
          refine aw_iload_n (q := 38) dX7_read_37 rfl rfl rfl ?_
          refine aw_if_eq (t := 226) (q := 41) dX7_read_38 rfl (by decide) (fun bc1 => ?_) (fun bc1 => ?_)
          · skip
            refine aw_aload_n (q := 227) dX7_read_226 rfl rfl rfl ?_
            refine aw_iconst (q := 228) dX7_read_227 rfl (by omega) ?_
            refine aw_put (q := 231) dX7_read_228 rfl fp_X7_168 g82 (Nat.le_of_ble_eq_true rfl) trivial ?_
            refine aw_iload_n (q := 232) dX7_read_231 rfl rfl rfl ?_
            refine aw_if_ne (t := 237) (q := 235) dX7_read_232 rfl (by decide) (fun bc2 => ?_) (fun bc2 => ?_)
            · skip
              omega
            · skip
              refine aw_iconst (q := 236) dX7_read_235 rfl (by omega) ?_
              exact aw_iret dX7_read_236 rfl (by decide) (by decide) ⟨rfl, (FrR_tr (FrR_w hF0 (by omega) (by omega) : FrR 82 101 μ μ0) (Fr_R (Fr_hu hF1 (by simp)) (by simp))), _, rfl, Or.inr (Or.inl ⟨by omega, (hgx.resolve_left (fun h => by omega)).2, rfl, ⟨ax, ls7, wy7, c7, t7, F7, G7, H7, k7, a7, b7, e7, X7, Y7, y7, o7, r9, s7, u7, v7, w7, hu_s, ((hu_n (by omega)).trans ((hF1 83 (by simp)).trans h83)), ((hu_n (by omega)).trans ((hF1 84 (by simp)).trans h84)), ((hu_n (by omega)).trans ((hF1 85 (by simp)).trans h85)), ((hu_n (by omega)).trans ((hF1 86 (by simp)).trans h86)), ((hu_n (by omega)).trans ((hF1 87 (by simp)).trans h87)), ((hu_n (by omega)).trans ((hF1 88 (by simp)).trans h88)), ((hu_n (by omega)).trans ((hF1 89 (by simp)).trans h89)), ((hu_n (by omega)).trans ((hF1 90 (by simp)).trans h90)), ((hu_n (by omega)).trans ((hF1 91 (by simp)).trans h91)), ((hu_n (by omega)).trans ((hF1 92 (by simp)).trans h92)), ((hu_n (by omega)).trans ((hF1 93 (by simp)).trans h93)), ((hu_n (by omega)).trans ((hF1 94 (by simp)).trans h94)), ((hu_n (by omega)).trans ((hF1 95 (by simp)).trans h95)), ((hu_n (by omega)).trans g96), ((hu_n (by omega)).trans ((hF1 97 (by simp)).trans h97)), ((hu_n (by omega)).trans ((hF1 98 (by simp)).trans h98)), ((hu_n (by omega)).trans ((hF1 99 (by simp)).trans h99)), ((hu_n (by omega)).trans ((hF1 100 (by simp)).trans h100)), ag1, ag2, ag3, ag4, ag5, ag6, (fun q hq => absurd hq (Nat.not_lt_zero q)), ag8⟩⟩)⟩
          · skip
            obtain ⟨hg1, s, x, y, hit, hax, hib, htl, hbd⟩ := hgx.resolve_right (fun h => by omega)
            refine aw_aload_n (q := 42) dX7_read_41 rfl rfl rfl ?_
            refine aw_get (q := 45) dX7_read_42 rfl fl_X7_171 g82 rfl (fun _ => ?_)
            refine aw_aload_n (q := 46) dX7_read_45 rfl rfl rfl ?_
            refine aw_get (q := 49) dX7_read_46 rfl fl_X7_168 g82 rfl (fun _ => ?_)
            refine aw_ic_ge (t := 226) (q := 52) dX7_read_49 rfl (by decide) (fun bc3 => ?_) (fun bc3 => ?_)
            · skip
              refine aw_aload_n (q := 227) dX7_read_226 rfl rfl rfl ?_
              refine aw_iconst (q := 228) dX7_read_227 rfl (by omega) ?_
              refine aw_put (q := 231) dX7_read_228 rfl fp_X7_168 g82 (Nat.le_of_ble_eq_true rfl) trivial ?_
              refine aw_iload_n (q := 232) dX7_read_231 rfl rfl rfl ?_
              refine aw_if_ne (t := 237) (q := 235) dX7_read_232 rfl (by decide) (fun bc4 => ?_) (fun bc4 => ?_)
              · skip
                refine aw_iconst (q := 238) dX7_read_237 rfl (by omega) ?_
                refine aw_istore (q := 240) dX7_read_238 rfl (by decide) ?_
                have lq : ∀ (jq q : Nat) (qx : Int) (μ2 : AH), k - q < jq → qx = (q : Int) → q ≤ k → μ2 85 = oI 300 (cpy F7 (fun p => r9 (3 * p)) (60 * d) q) → μ2 86 = oI 300 (cpy G7 (fun p => r9 (3 * p + 1)) (60 * d) q) → μ2 87 = oI 300 (cpy H7 (fun p => r9 (3 * p + 2)) (60 * d) q) → μ2 82 = oO 7 [vI 0, vI (D : Int), vR 83, vR 84, vR 85, vR 86, vR 87, vR 88, vR 89, vR 90, vI spd, vI lim, vI (Fn : Int), vR 91, vR 92, vR 93, vI (pk.1 : Int), vR 94, vI 0, vR 95, vI ax, vR 96, vI (sv.1 : Int), vR 97, vR 98, vR 99, vR 100, vL ls7, vI wy7] → μ2 96 = oI 180 r9 → μ2 83 = oI 5 c7 → Fr [82, 83, 85, 86, 87, 96] μ0 μ2 → AW YX7_read none (fun o n' μ' => n' = n ∧ FrR 82 101 μ μ' ∧ ∃ v : Int, o = .inl (some (vI v)) ∧ ((¬ (0 ≤ i ∧ i < (D : Int)) ∧ MM μ' 1 D dv Fn fv sv pk fd spd lim) ∨ ((0 ≤ i ∧ i < (D : Int)) ∧ (∀ k, ¬ Whole fd.2 fd.1 k) ∧ v = -1 ∧ MM μ' 0 D dv Fn fv sv pk (0, fd.2) spd lim) ∨ ((0 ≤ i ∧ i < (D : Int)) ∧ ∃ k : Nat, Whole fd.2 fd.1 k ∧ v = (k : Int) ∧ ∀ f g h, Tells fd.2 fd.1 k f g h → MM μ' 0 D (dvu dv i.toNat (dvRd (dv i.toNat) k f g h)) Fn fv sv pk (0, fd.2) spd lim))) 240 [some (vR 82), some (vI (i)), some (vI (nx)), some (vI (gx)), some (vI (qx)), none, none] [] n μ2 0 0 := by
                  intro jq
                  induction jq with
                  | zero => intro q qx μ2 hj; exact absurd hj (Nat.not_lt_zero _)
                  | succ jq ihq =>
                    intro q qx μ2 hjq hqx hqk g85 g86 g87 e82 e96 e83 hF2
                    refine aw_iload (q := 242) dX7_read_240 rfl rfl ?_
                    refine aw_iload_n (q := 243) dX7_read_242 rfl rfl rfl ?_
                    refine aw_ic_ge (t := 319) (q := 246) dX7_read_243 rfl (by decide) (fun bc1 => ?_) (fun bc1 => ?_)
                    · skip
                      have hqe : q = k := by omega
                      rw [hqe] at g85 g86 g87
                      refine aw_aload_n (q := 320) dX7_read_319 rfl rfl rfl ?_
                      refine aw_get (q := 323) dX7_read_320 rfl fl_X7_7 e82 rfl (fun _ => ?_)
                      refine aw_iload_n (q := 324) dX7_read_323 rfl rfl rfl ?_
                      refine aw_iload_n (q := 325) dX7_read_324 rfl rfl rfl ?_
                      refine aw_iastore (j := d) (q := 326) dX7_read_325 rfl e83 (by omega) (by omega) ?_
                      refine aw_iload_n (q := 327) dX7_read_326 rfl rfl rfl ?_
                      exact aw_iret dX7_read_327 rfl (by decide) (by decide) ⟨rfl, (FrR_tr (FrR_w hF0 (by omega) (by omega) : FrR 82 101 μ μ0) (Fr_R (Fr_hu hF2 (by simp)) (by simp))), _, rfl, Or.inr (Or.inr ⟨by omega, k, ⟨hk60, s, x, y, by rw [hit, show ib = fd.1 by omega]⟩, hnx, fun f g h hT => by rw [hid]; exact ⟨ax, ls7, wy7, (fu c7 d nx), t7, (cpy F7 (fun p => r9 (3 * p)) (60 * d) k), (cpy G7 (fun p => r9 (3 * p + 1)) (60 * d) k), (cpy H7 (fun p => r9 (3 * p + 2)) (60 * d) k), k7, a7, b7, e7, X7, Y7, y7, o7, r9, s7, u7, v7, w7, ((hu_n (by omega)).trans e82), hu_s, ((hu_n (by omega)).trans ((hF2 84 (by simp)).trans h84)), ((hu_n (by omega)).trans g85), ((hu_n (by omega)).trans g86), ((hu_n (by omega)).trans g87), ((hu_n (by omega)).trans ((hF2 88 (by simp)).trans h88)), ((hu_n (by omega)).trans ((hF2 89 (by simp)).trans h89)), ((hu_n (by omega)).trans ((hF2 90 (by simp)).trans h90)), ((hu_n (by omega)).trans ((hF2 91 (by simp)).trans h91)), ((hu_n (by omega)).trans ((hF2 92 (by simp)).trans h92)), ((hu_n (by omega)).trans ((hF2 93 (by simp)).trans h93)), ((hu_n (by omega)).trans ((hF2 94 (by simp)).trans h94)), ((hu_n (by omega)).trans ((hF2 95 (by simp)).trans h95)), ((hu_n (by omega)).trans e96), ((hu_n (by omega)).trans ((hF2 97 (by simp)).trans h97)), ((hu_n (by omega)).trans ((hF2 98 (by simp)).trans h98)), ((hu_n (by omega)).trans ((hF2 99 (by simp)).trans h99)), ((hu_n (by omega)).trans ((hF2 100 (by simp)).trans h100)), (AG1_u ag1 (fun e q => ⟨fu_n q, rfl, rfl⟩) ⟨fu_s.trans hnx, hcd.2.1, hcd.2.2⟩), (AG2_u ag2 (fun e he => (hdv e he).1.1) (fun e p q he hp => ⟨cpy_o (by omega), cpy_o (by omega), cpy_o (by omega)⟩) (fun p hp => by have hp9 : p < k := hp; have hu9 := T3_u htl hT hp9; exact ⟨(cpy_i (by omega)).trans hu9.1, (cpy_i (by omega)).trans hu9.2.1, (cpy_i (by omega)).trans hu9.2.2⟩)), (AG3_u ag3 (fun e he => (hdv e he).1.2.2.2.1) (fun e p _ _ _ => ⟨rfl, rfl⟩) (fun p hp => ag3 d p hd5 hp)), ag4, ag5, ag6, (fun q hq => absurd hq (Nat.not_lt_zero q)), ag8⟩⟩)⟩
                    · skip
                      refine aw_aload_n (q := 247) dX7_read_246 rfl rfl rfl ?_
                      refine aw_get (q := 250) dX7_read_247 rfl fl_X7_16 e82 rfl (fun _ => ?_)
                      refine aw_bipush (q := 252) dX7_read_250 rfl (by decide) (by omega) ?_
                      refine aw_iload_n (q := 253) dX7_read_252 rfl rfl rfl ?_
                      refine aw_imul (q := 254) dX7_read_253 rfl (by omega) ?_
                      refine aw_iload (q := 256) dX7_read_254 rfl rfl ?_
                      refine aw_iadd (q := 257) dX7_read_256 rfl (by omega) ?_
                      refine aw_aload_n (q := 258) dX7_read_257 rfl rfl rfl ?_
                      refine aw_get (q := 261) dX7_read_258 rfl fl_X7_56 e82 rfl (fun _ => ?_)
                      refine aw_iconst (q := 262) dX7_read_261 rfl (by omega) ?_
                      refine aw_iload (q := 264) dX7_read_262 rfl rfl ?_
                      refine aw_imul (q := 265) dX7_read_264 rfl (by omega) ?_
                      refine aw_iaload (j := 3 * q) (q := 266) dX7_read_265 rfl e96 (by omega) (by omega) (fun rx2 => ?_)
                      refine aw_iastore (j := 60 * d + q) (q := 267) dX7_read_266 rfl g85 (by omega) (by omega) ?_
                      refine aw_aload_n (q := 268) dX7_read_267 rfl rfl rfl ?_
                      refine aw_get (q := 271) dX7_read_268 rfl fl_X7_19 ((hu_n (by omega)).trans e82) rfl (fun _ => ?_)
                      refine aw_bipush (q := 273) dX7_read_271 rfl (by decide) (by omega) ?_
                      refine aw_iload_n (q := 274) dX7_read_273 rfl rfl rfl ?_
                      refine aw_imul (q := 275) dX7_read_274 rfl (by omega) ?_
                      refine aw_iload (q := 277) dX7_read_275 rfl rfl ?_
                      refine aw_iadd (q := 278) dX7_read_277 rfl (by omega) ?_
                      refine aw_aload_n (q := 279) dX7_read_278 rfl rfl rfl ?_
                      refine aw_get (q := 282) dX7_read_279 rfl fl_X7_56 ((hu_n (by omega)).trans e82) rfl (fun _ => ?_)
                      refine aw_iconst (q := 283) dX7_read_282 rfl (by omega) ?_
                      refine aw_iload (q := 285) dX7_read_283 rfl rfl ?_
                      refine aw_imul (q := 286) dX7_read_285 rfl (by omega) ?_
                      refine aw_iconst (q := 287) dX7_read_286 rfl (by omega) ?_
                      refine aw_iadd (q := 288) dX7_read_287 rfl (by omega) ?_
                      refine aw_iaload (j := 3 * q + 1) (q := 289) dX7_read_288 rfl ((hu_n (by omega)).trans e96) (by omega) (by omega) (fun rx3 => ?_)
                      refine aw_iastore (j := 60 * d + q) (q := 290) dX7_read_289 rfl ((hu_n (by omega)).trans g86) (by omega) (by omega) ?_
                      refine aw_aload_n (q := 291) dX7_read_290 rfl rfl rfl ?_
                      refine aw_get (q := 294) dX7_read_291 rfl fl_X7_22 ((hu_n (by omega)).trans ((hu_n (by omega)).trans e82)) rfl (fun _ => ?_)
                      refine aw_bipush (q := 296) dX7_read_294 rfl (by decide) (by omega) ?_
                      refine aw_iload_n (q := 297) dX7_read_296 rfl rfl rfl ?_
                      refine aw_imul (q := 298) dX7_read_297 rfl (by omega) ?_
                      refine aw_iload (q := 300) dX7_read_298 rfl rfl ?_
                      refine aw_iadd (q := 301) dX7_read_300 rfl (by omega) ?_
                      refine aw_aload_n (q := 302) dX7_read_301 rfl rfl rfl ?_
                      refine aw_get (q := 305) dX7_read_302 rfl fl_X7_56 ((hu_n (by omega)).trans ((hu_n (by omega)).trans e82)) rfl (fun _ => ?_)
                      refine aw_iconst (q := 306) dX7_read_305 rfl (by omega) ?_
                      refine aw_iload (q := 308) dX7_read_306 rfl rfl ?_
                      refine aw_imul (q := 309) dX7_read_308 rfl (by omega) ?_
                      refine aw_iconst (q := 310) dX7_read_309 rfl (by omega) ?_
                      refine aw_iadd (q := 311) dX7_read_310 rfl (by omega) ?_
                      refine aw_iaload (j := 3 * q + 2) (q := 312) dX7_read_311 rfl ((hu_n (by omega)).trans ((hu_n (by omega)).trans e96)) (by omega) (by omega) (fun rx4 => ?_)
                      refine aw_iastore (j := 60 * d + q) (q := 313) dX7_read_312 rfl ((hu_n (by omega)).trans ((hu_n (by omega)).trans g87)) (by omega) (by omega) ?_
                      refine aw_iinc (q := 316) dX7_read_313 rfl rfl (by decide) (by omega) ?_
                      refine aw_goto (q := 240) dX7_read_316 (by decide) ?_
                      exact ihq (q + 1) _ _ (by omega) (by omega) (by omega) (((hu_n (by omega)).trans ((hu_n (by omega)).trans hu_s)).trans (congrArg (oI 300) (cpy_s rfl))) (((hu_n (by omega)).trans hu_s).trans (congrArg (oI 300) (cpy_s rfl))) (hu_s.trans (congrArg (oI 300) (cpy_s rfl))) ((hu_n (by omega)).trans ((hu_n (by omega)).trans ((hu_n (by omega)).trans e82))) ((hu_n (by omega)).trans ((hu_n (by omega)).trans ((hu_n (by omega)).trans e96))) ((hu_n (by omega)).trans ((hu_n (by omega)).trans ((hu_n (by omega)).trans e83))) (Fr_hu (Fr_hu (Fr_hu hF2 (by simp)) (by simp)) (by simp))
                exact lq (k + 1) 0 _ _ (by omega) rfl (by omega) (by rw [cpy_0]; exact ((hu_n (by omega)).trans ((hF1 85 (by simp)).trans h85))) (by rw [cpy_0]; exact ((hu_n (by omega)).trans ((hF1 86 (by simp)).trans h86))) (by rw [cpy_0]; exact ((hu_n (by omega)).trans ((hF1 87 (by simp)).trans h87))) hu_s ((hu_n (by omega)).trans g96) ((hu_n (by omega)).trans ((hF1 83 (by simp)).trans h83)) (Fr_sub (Fr_hu hF1 (by simp)) (by simp))
              · skip
                omega
            · skip
              refine aw_aload_n (q := 53) dX7_read_52 rfl rfl rfl ?_
              refine aw_callV [] (q := 56) dX7_read_53 rfl ck_X7_difference lk_X7_179 rfl ⟨Nat.le_of_ble_eq_true rfl, Nat.le_of_ble_eq_true rfl⟩ rfl rfl g82 rfl (Nat.le_of_ble_eq_true rfl) (by decide) (m_X7_difference (dv := dv) (fv := fv) (i := ib) hax hib hfd hfb ag7 g82 ((hF1 95 (by simp)).trans h95)) rfl (fun _ _ _ h => (Rt_x h).elim) ?_
              rintro v n9 μ2 - ⟨v9, hv9, hn9, d1, i1, rfl, hG1, k821, hi1, hlo1, hup1, hd1⟩
              obtain rfl := hn9.symm
              obtain rfl := Sum.inl.inj hv9
              refine aw_iload_n (q := 57) dX7_read_56 rfl rfl rfl ?_
              refine aw_if_le (t := 73) (q := 60) dX7_read_57 rfl (by decide) (fun bc5 => ?_) (fun bc5 => ?_)
              · skip
                have hz0 : s = 0 ∧ x = 0 ∧ y = 0 := by rw [show k = 0 by omega] at hit; cases hit; exact ⟨rfl, rfl, rfl⟩
                refine aw_iconst (q := 74) dX7_read_73 rfl (by omega) ?_
                refine aw_iadd (q := 75) dX7_read_74 rfl (by omega) ?_
                refine aw_istore (q := 77) dX7_read_75 rfl (by decide) ?_
                refine aw_aload_n (q := 78) dX7_read_77 rfl rfl rfl ?_
                refine aw_callV [] (q := 81) dX7_read_78 rfl ck_X7_difference lk_X7_179 rfl ⟨Nat.le_of_ble_eq_true rfl, Nat.le_of_ble_eq_true rfl⟩ rfl rfl k821 rfl (Nat.le_of_ble_eq_true rfl) (by decide) (m_X7_difference (dv := dv) (fv := fv) (i := i1) rfl hi1 hfd hfb ag7 k821 ((hG1 95 (by omega)).trans ((hF1 95 (by simp)).trans h95))) rfl (fun _ _ _ h => (Rt_x h).elim) ?_
                rintro v n9 μ3 - ⟨v9, hv9, hn9, d2, i2, rfl, hG2, k822, hi2, hlo2, hup2, hd2⟩
                obtain rfl := hn9.symm
                obtain rfl := Sum.inl.inj hv9
                refine aw_iload_n (q := 82) dX7_read_81 rfl rfl rfl ?_
                refine aw_if_le (t := 98) (q := 85) dX7_read_82 rfl (by decide) (fun bc6 => ?_) (fun bc6 => ?_)
                · skip
                  refine aw_iconst (q := 99) dX7_read_98 rfl (by omega) ?_
                  refine aw_iadd (q := 100) dX7_read_99 rfl (by omega) ?_
                  refine aw_istore (q := 102) dX7_read_100 rfl (by decide) ?_
                  refine aw_ls (ls := [some (vR 82), some (vI (i)), some (vI (nx)), some (vI (gx)), some (vI (d1 + 0)), some (vI (d2 + 0)), none]) ⟨rfl, ⟨rfl, ⟨rfl, ⟨rfl, ⟨rfl, ⟨rfl, trivial⟩⟩⟩⟩⟩⟩ ?_
                  refine aw_aload_n (q := 103) dX7_read_102 rfl rfl rfl ?_
                  refine aw_callV [] (q := 106) dX7_read_103 rfl ck_X7_difference lk_X7_179 rfl ⟨Nat.le_of_ble_eq_true rfl, Nat.le_of_ble_eq_true rfl⟩ rfl rfl k822 rfl (Nat.le_of_ble_eq_true rfl) (by decide) (m_X7_difference (dv := dv) (fv := fv) (i := i2) rfl hi2 hfd hfb ag7 k822 ((hG2 95 (by omega)).trans ((hG1 95 (by omega)).trans ((hF1 95 (by simp)).trans h95)))) rfl (fun _ _ _ h => (Rt_x h).elim) ?_
                  rintro v n9 μ4 - ⟨v9, hv9, hn9, d3, i3, rfl, hG3, k823, hi3, hlo3, hup3, hd3⟩
                  obtain rfl := hn9.symm
                  obtain rfl := Sum.inl.inj hv9
                  refine aw_iload_n (q := 107) dX7_read_106 rfl rfl rfl ?_
                  refine aw_if_le (t := 123) (q := 110) dX7_read_107 rfl (by decide) (fun bc7 => ?_) (fun bc7 => ?_)
                  · skip
                    refine aw_iconst (q := 124) dX7_read_123 rfl (by omega) ?_
                    refine aw_iadd (q := 125) dX7_read_124 rfl (by omega) ?_
                    refine aw_istore (q := 127) dX7_read_125 rfl (by decide) ?_
                    refine aw_iload_n (q := 128) dX7_read_127 rfl rfl rfl ?_
                    refine aw_bipush (q := 130) dX7_read_128 rfl (by decide) (by omega) ?_
                    refine aw_ic_ge (t := 180) (q := 133) dX7_read_130 rfl (by decide) (fun bc8 => ?_) (fun bc8 => ?_)
                    · skip
                      have hnone : ∀ k9, ¬ Whole fd.2 fd.1 k9 := by
                        intro k9 hk9
                        by_cases h60 : k < 60
                        · refine noW2 hit ?_ k9 hk9 (by omega)
                          unfold stp
                          rw [if_pos (by omega : ib < fd.1)]
                          rcases hd1 with e1 | ⟨e1, s1⟩
                          · rw [e1]; dsimp only
                            rcases hd2 with e2 | ⟨e2, s2⟩
                            · rw [e2]; dsimp only
                              rcases hd3 with e3 | ⟨e3, s3⟩
                              · rw [e3]; dsimp only
                                rw [if_neg]
                                intro h9
                                obtain ⟨h8, h7⟩ := h9
                                omega
                              · rw [e3]
                            · rw [e2]
                          · rw [e1]
                        · exact noW hit (by omega) (by omega) k9 hk9
                      refine aw_iconst (q := 181) dX7_read_180 rfl (by omega) ?_
                      refine aw_istore_n (q := 182) dX7_read_181 rfl rfl (by decide) ?_
                      refine aw_ls (ls := [some (vR 82), some (vI (i)), some (vI (nx)), some (vI (0)), some (vI (d1 + 0)), some (vI (d2 + 0)), some (vI (d3 + 0))]) ⟨rfl, ⟨rfl, ⟨rfl, ⟨rfl, ⟨rfl, ⟨rfl, ⟨rfl, trivial⟩⟩⟩⟩⟩⟩⟩ ?_
                      refine aw_iload_n (q := 183) dX7_read_182 rfl rfl rfl ?_
                      refine aw_if_eq (t := 223) (q := 186) dX7_read_183 rfl (by decide) (fun bc9 => ?_) (fun bc9 => ?_)
                      · skip
                        refine aw_goto (q := 37) dX7_read_223 (by decide) ?_
                        refine aw_ls (ls := [some (vR 82), some (vI (i)), some (vI (nx)), some (vI (0)), none, none, none]) ⟨rfl, ⟨rfl, ⟨rfl, ⟨rfl, trivial⟩⟩⟩⟩ ?_
                        exact ihlp k i3 nx 0 (i3 : Int) _ r9 (by rw [hg1] at hjlp; clear hgx; simp at hjlp ⊢; omega) hnx hk60 k823 ((hG3 96 (by omega)).trans ((hG2 96 (by omega)).trans ((hG1 96 (by omega)).trans g96))) (Fr_tr (Fr_tr (Fr_tr hF1 (FrR_F hG1) (fun a h => by simp at h ⊢; exact Or.inl h)) (FrR_F hG2) (fun a h => by simp at h ⊢; exact Or.inl h)) (FrR_F hG3) (fun a h => by simp at h ⊢; exact Or.inl h)) (Or.inr ⟨rfl, hnone⟩)
                      · skip
                        omega
                    · skip
                      refine aw_iload (q := 135) dX7_read_133 rfl rfl ?_
                      refine aw_i2l (q := 136) dX7_read_135 rfl ?_
                      refine aw_iload_n (q := 137) dX7_read_136 rfl rfl rfl ?_
                      refine aw_if_le (t := 156) (q := 140) dX7_read_137 rfl (by decide) (fun bc10 => ?_) (fun bc10 => ?_)
                      · skip
                        refine aw_lconst (a := 0) (q := 157) dX7_read_156 rfl rfl (by omega) ?_
                        refine aw_ldc2 (a := 1000000) (q := 160) dX7_read_157 rfl k_X7_94 (by omega) ?_
                        refine aw_callS [vL (d1 + 0), vL (0), vL (1000000)] (q := 163) dX7_read_160 rfl ck_X7_within lk_X7_90 rfl ⟨Nat.le_of_ble_eq_true rfl, Nat.le_of_ble_eq_true rfl⟩ rfl rfl (Nat.le_of_ble_eq_true rfl) (by decide) (m_X7_within) rfl (fun _ _ _ h => (Rt_x h).elim) ?_
                        rintro v n9 μ9 - ⟨v9, hv9, hn9, hm9, rfl⟩
                        obtain rfl := hn9.symm
                        obtain rfl := hm9.symm
                        obtain rfl := Sum.inl.inj hv9
                        refine aw_if_eq (t := 180) (q := 166) dX7_read_163 rfl (by decide) (fun bc11 => ?_) (fun bc11 => ?_)
                        · skip
                          replace bc11 := bz_0.mp bc11
                          have hnone : ∀ k9, ¬ Whole fd.2 fd.1 k9 := by
                            intro k9 hk9
                            by_cases h60 : k < 60
                            · refine noW2 hit ?_ k9 hk9 (by omega)
                              unfold stp
                              rw [if_pos (by omega : ib < fd.1)]
                              rcases hd1 with e1 | ⟨e1, s1⟩
                              · rw [e1]; dsimp only
                                rcases hd2 with e2 | ⟨e2, s2⟩
                                · rw [e2]; dsimp only
                                  rcases hd3 with e3 | ⟨e3, s3⟩
                                  · rw [e3]; dsimp only
                                    rw [if_neg]
                                    intro h9
                                    obtain ⟨h8, h7⟩ := h9
                                    omega
                                  · rw [e3]
                                · rw [e2]
                              · rw [e1]
                            · exact noW hit (by omega) (by omega) k9 hk9
                          refine aw_iconst (q := 181) dX7_read_180 rfl (by omega) ?_
                          refine aw_istore_n (q := 182) dX7_read_181 rfl rfl (by decide) ?_
                          refine aw_ls (ls := [some (vR 82), some (vI (i)), some (vI (nx)), some (vI (0)), some (vI (d1 + 0)), some (vI (d2 + 0)), some (vI (d3 + 0))]) ⟨rfl, ⟨rfl, ⟨rfl, ⟨rfl, ⟨rfl, ⟨rfl, ⟨rfl, trivial⟩⟩⟩⟩⟩⟩⟩ ?_
                          refine aw_iload_n (q := 183) dX7_read_182 rfl rfl rfl ?_
                          refine aw_if_eq (t := 223) (q := 186) dX7_read_183 rfl (by decide) (fun bc12 => ?_) (fun bc12 => ?_)
                          · skip
                            refine aw_goto (q := 37) dX7_read_223 (by decide) ?_
                            refine aw_ls (ls := [some (vR 82), some (vI (i)), some (vI (nx)), some (vI (0)), none, none, none]) ⟨rfl, ⟨rfl, ⟨rfl, ⟨rfl, trivial⟩⟩⟩⟩ ?_
                            exact ihlp k i3 nx 0 (i3 : Int) _ r9 (by rw [hg1] at hjlp; clear hgx; simp at hjlp ⊢; omega) hnx hk60 k823 ((hG3 96 (by omega)).trans ((hG2 96 (by omega)).trans ((hG1 96 (by omega)).trans g96))) (Fr_tr (Fr_tr (Fr_tr hF1 (FrR_F hG1) (fun a h => by simp at h ⊢; exact Or.inl h)) (FrR_F hG2) (fun a h => by simp at h ⊢; exact Or.inl h)) (FrR_F hG3) (fun a h => by simp at h ⊢; exact Or.inl h)) (Or.inr ⟨rfl, hnone⟩)
                          · skip
                            omega
                        · skip
                          replace bc11 := bz_n0.mp bc11
                          refine aw_iload (q := 168) dX7_read_166 rfl rfl ?_
                          refine aw_iload (q := 170) dX7_read_168 rfl rfl ?_
                          refine aw_callS [vI (d2 + 0), vI (d3 + 0)] (q := 173) dX7_read_170 rfl ck_X7_isPoint lk_X7_96 rfl ⟨Nat.le_of_ble_eq_true rfl, Nat.le_of_ble_eq_true rfl⟩ rfl rfl (Nat.le_of_ble_eq_true rfl) (by decide) (m_X7_isPoint) rfl (fun _ _ _ h => (Rt_x h).elim) ?_
                          rintro v n9 μ9 - ⟨v9, hv9, hn9, hm9, rfl⟩
                          obtain rfl := hn9.symm
                          obtain rfl := hm9.symm
                          obtain rfl := Sum.inl.inj hv9
                          refine aw_if_eq (t := 180) (q := 176) dX7_read_173 rfl (by decide) (fun bc13 => ?_) (fun bc13 => ?_)
                          · skip
                            replace bc13 := bz_0.mp bc13
                            have hnone : ∀ k9, ¬ Whole fd.2 fd.1 k9 := by
                              intro k9 hk9
                              by_cases h60 : k < 60
                              · refine noW2 hit ?_ k9 hk9 (by omega)
                                unfold stp
                                rw [if_pos (by omega : ib < fd.1)]
                                rcases hd1 with e1 | ⟨e1, s1⟩
                                · rw [e1]; dsimp only
                                  rcases hd2 with e2 | ⟨e2, s2⟩
                                  · rw [e2]; dsimp only
                                    rcases hd3 with e3 | ⟨e3, s3⟩
                                    · rw [e3]; dsimp only
                                      rw [if_neg]
                                      intro h9
                                      obtain ⟨h8, h7⟩ := h9
                                      omega
                                    · rw [e3]
                                  · rw [e2]
                                · rw [e1]
                              · exact noW hit (by omega) (by omega) k9 hk9
                            refine aw_iconst (q := 181) dX7_read_180 rfl (by omega) ?_
                            refine aw_istore_n (q := 182) dX7_read_181 rfl rfl (by decide) ?_
                            refine aw_ls (ls := [some (vR 82), some (vI (i)), some (vI (nx)), some (vI (0)), some (vI (d1 + 0)), some (vI (d2 + 0)), some (vI (d3 + 0))]) ⟨rfl, ⟨rfl, ⟨rfl, ⟨rfl, ⟨rfl, ⟨rfl, ⟨rfl, trivial⟩⟩⟩⟩⟩⟩⟩ ?_
                            refine aw_iload_n (q := 183) dX7_read_182 rfl rfl rfl ?_
                            refine aw_if_eq (t := 223) (q := 186) dX7_read_183 rfl (by decide) (fun bc14 => ?_) (fun bc14 => ?_)
                            · skip
                              refine aw_goto (q := 37) dX7_read_223 (by decide) ?_
                              refine aw_ls (ls := [some (vR 82), some (vI (i)), some (vI (nx)), some (vI (0)), none, none, none]) ⟨rfl, ⟨rfl, ⟨rfl, ⟨rfl, trivial⟩⟩⟩⟩ ?_
                              exact ihlp k i3 nx 0 (i3 : Int) _ r9 (by rw [hg1] at hjlp; clear hgx; simp at hjlp ⊢; omega) hnx hk60 k823 ((hG3 96 (by omega)).trans ((hG2 96 (by omega)).trans ((hG1 96 (by omega)).trans g96))) (Fr_tr (Fr_tr (Fr_tr hF1 (FrR_F hG1) (fun a h => by simp at h ⊢; exact Or.inl h)) (FrR_F hG2) (fun a h => by simp at h ⊢; exact Or.inl h)) (FrR_F hG3) (fun a h => by simp at h ⊢; exact Or.inl h)) (Or.inr ⟨rfl, hnone⟩)
                            · skip
                              omega
                          · skip
                            replace bc13 := bz_n0.mp bc13
                            refine aw_iconst (q := 177) dX7_read_176 rfl (by omega) ?_
                            refine aw_goto (q := 181) dX7_read_177 (by decide) ?_
                            refine aw_istore_n (q := 182) dX7_read_181 rfl rfl (by decide) ?_
                            refine aw_ls (ls := [some (vR 82), some (vI (i)), some (vI (nx)), some (vI (1)), some (vI (d1 + 0)), some (vI (d2 + 0)), some (vI (d3 + 0))]) ⟨rfl, ⟨rfl, ⟨rfl, ⟨rfl, ⟨rfl, ⟨rfl, ⟨rfl, trivial⟩⟩⟩⟩⟩⟩⟩ ?_
                            refine aw_iload_n (q := 183) dX7_read_182 rfl rfl rfl ?_
                            refine aw_if_eq (t := 223) (q := 186) dX7_read_183 rfl (by decide) (fun bc15 => ?_) (fun bc15 => ?_)
                            · skip
                              omega
                            · skip
                              have e1 : dn fd.2 fd.1 ib = some (d1, i1) := hd1.resolve_right (fun h => by omega)
                              have e2 : dn fd.2 fd.1 i1 = some (d2, i2) := hd2.resolve_right (fun h => by omega)
                              have e3 : dn fd.2 fd.1 i2 = some (d3, i3) := hd3.resolve_right (fun h => by omega)
                              have hit2 : its fd.2 fd.1 (k + 1) = some (i3, s + d1, x + d2, y + d3) := by
                                rw [its_s hit]; unfold stp; rw [if_pos (by omega : ib < fd.1), e1]; dsimp only; rw [e2]; dsimp only; rw [e3]; dsimp only
                                rw [if_pos (show (k = 0 ∨ s < s + d1) ∧ TelP (s + d1) (x + d2) (y + d3) from ⟨by omega, by omega, by omega, by omega, by omega, by omega, by omega⟩)]
                              refine aw_aload_n (q := 187) dX7_read_186 rfl rfl rfl ?_
                              refine aw_get (q := 190) dX7_read_187 rfl fl_X7_56 k823 rfl (fun _ => ?_)
                              refine aw_iconst (q := 191) dX7_read_190 rfl (by omega) ?_
                              refine aw_iload_n (q := 192) dX7_read_191 rfl rfl rfl ?_
                              refine aw_imul (q := 193) dX7_read_192 rfl (by omega) ?_
                              refine aw_iload (q := 195) dX7_read_193 rfl rfl ?_
                              refine aw_iastore (j := 3 * k) (q := 196) dX7_read_195 rfl ((hG3 96 (by omega)).trans ((hG2 96 (by omega)).trans ((hG1 96 (by omega)).trans g96))) (by omega) (by omega) ?_
                              refine aw_aload_n (q := 197) dX7_read_196 rfl rfl rfl ?_
                              refine aw_get (q := 200) dX7_read_197 rfl fl_X7_56 ((hu_n (by omega)).trans k823) rfl (fun _ => ?_)
                              refine aw_iconst (q := 201) dX7_read_200 rfl (by omega) ?_
                              refine aw_iload_n (q := 202) dX7_read_201 rfl rfl rfl ?_
                              refine aw_imul (q := 203) dX7_read_202 rfl (by omega) ?_
                              refine aw_iconst (q := 204) dX7_read_203 rfl (by omega) ?_
                              refine aw_iadd (q := 205) dX7_read_204 rfl (by omega) ?_
                              refine aw_iload (q := 207) dX7_read_205 rfl rfl ?_
                              refine aw_iastore (j := 3 * k + 1) (q := 208) dX7_read_207 rfl hu_s (by omega) (by omega) ?_
                              refine aw_aload_n (q := 209) dX7_read_208 rfl rfl rfl ?_
                              refine aw_get (q := 212) dX7_read_209 rfl fl_X7_56 ((hu_n (by omega)).trans ((hu_n (by omega)).trans k823)) rfl (fun _ => ?_)
                              refine aw_iconst (q := 213) dX7_read_212 rfl (by omega) ?_
                              refine aw_iload_n (q := 214) dX7_read_213 rfl rfl rfl ?_
                              refine aw_imul (q := 215) dX7_read_214 rfl (by omega) ?_
                              refine aw_iconst (q := 216) dX7_read_215 rfl (by omega) ?_
                              refine aw_iadd (q := 217) dX7_read_216 rfl (by omega) ?_
                              refine aw_iload (q := 219) dX7_read_217 rfl rfl ?_
                              refine aw_iastore (j := 3 * k + 2) (q := 220) dX7_read_219 rfl hu_s (by omega) (by omega) ?_
                              refine aw_iinc (q := 223) dX7_read_220 rfl rfl (by decide) (by omega) ?_
                              refine aw_goto (q := 37) dX7_read_223 (by decide) ?_
                              refine aw_ls (ls := [some (vR 82), some (vI (i)), some (vI (nx + 1)), some (vI (1)), none, none, none]) ⟨rfl, ⟨rfl, ⟨rfl, ⟨rfl, trivial⟩⟩⟩⟩ ?_
                              exact ihlp (k + 1) i3 (nx + 1) 1 (i3 : Int) _ _ (by omega) (by omega) (by omega) ((hu_n (by omega)).trans ((hu_n (by omega)).trans ((hu_n (by omega)).trans k823))) hu_s (Fr_hu (Fr_hu (Fr_hu (Fr_tr (Fr_tr (Fr_tr hF1 (FrR_F hG1) (fun a h => by simp at h ⊢; exact Or.inl h)) (FrR_F hG2) (fun a h => by simp at h ⊢; exact Or.inl h)) (FrR_F hG3) (fun a h => by simp at h ⊢; exact Or.inl h)) (by simp)) (by simp)) (by simp)) (Or.inl ⟨rfl, s + d1, x + d2, y + d3, hit2, rfl, hi3, by rw [show d1 + 0 = s + d1 by omega, show d2 + 0 = x + d2 by omega, show d3 + 0 = y + d3 by omega]; exact T3_s htl hit2, by omega⟩)
                      · skip
                        omega
                  · skip
                    omega
                · skip
                  omega
              · skip
                have hl := T3_l htl hit (by omega)
                refine aw_aload_n (q := 61) dX7_read_60 rfl rfl rfl ?_
                refine aw_get (q := 64) dX7_read_61 rfl fl_X7_56 k821 rfl (fun _ => ?_)
                refine aw_iconst (q := 65) dX7_read_64 rfl (by omega) ?_
                refine aw_iload_n (q := 66) dX7_read_65 rfl rfl rfl ?_
                refine aw_imul (q := 67) dX7_read_66 rfl (by omega) ?_
                refine aw_iconst (q := 68) dX7_read_67 rfl (by omega) ?_
                refine aw_isub (q := 69) dX7_read_68 rfl (by omega) ?_
                refine aw_iaload (j := 3 * k - 3) (q := 70) dX7_read_69 rfl ((hG1 96 (by omega)).trans g96) (by omega) (by omega) (fun rx16 => ?_)
                rw [hl.1]
                refine aw_goto (q := 74) dX7_read_70 (by decide) ?_
                refine aw_iadd (q := 75) dX7_read_74 rfl (by omega) ?_
                refine aw_istore (q := 77) dX7_read_75 rfl (by decide) ?_
                refine aw_aload_n (q := 78) dX7_read_77 rfl rfl rfl ?_
                refine aw_callV [] (q := 81) dX7_read_78 rfl ck_X7_difference lk_X7_179 rfl ⟨Nat.le_of_ble_eq_true rfl, Nat.le_of_ble_eq_true rfl⟩ rfl rfl k821 rfl (Nat.le_of_ble_eq_true rfl) (by decide) (m_X7_difference (dv := dv) (fv := fv) (i := i1) rfl hi1 hfd hfb ag7 k821 ((hG1 95 (by omega)).trans ((hF1 95 (by simp)).trans h95))) rfl (fun _ _ _ h => (Rt_x h).elim) ?_
                rintro v n9 μ3 - ⟨v9, hv9, hn9, d2, i2, rfl, hG2, k822, hi2, hlo2, hup2, hd2⟩
                obtain rfl := hn9.symm
                obtain rfl := Sum.inl.inj hv9
                refine aw_iload_n (q := 82) dX7_read_81 rfl rfl rfl ?_
                refine aw_if_le (t := 98) (q := 85) dX7_read_82 rfl (by decide) (fun bc17 => ?_) (fun bc17 => ?_)
                · skip
                  omega
                · skip
                  refine aw_aload_n (q := 86) dX7_read_85 rfl rfl rfl ?_
                  refine aw_get (q := 89) dX7_read_86 rfl fl_X7_56 k822 rfl (fun _ => ?_)
                  refine aw_iconst (q := 90) dX7_read_89 rfl (by omega) ?_
                  refine aw_iload_n (q := 91) dX7_read_90 rfl rfl rfl ?_
                  refine aw_imul (q := 92) dX7_read_91 rfl (by omega) ?_
                  refine aw_iconst (q := 93) dX7_read_92 rfl (by omega) ?_
                  refine aw_isub (q := 94) dX7_read_93 rfl (by omega) ?_
                  refine aw_iaload (j := 3 * k - 2) (q := 95) dX7_read_94 rfl ((hG2 96 (by omega)).trans ((hG1 96 (by omega)).trans g96)) (by omega) (by omega) (fun rx18 => ?_)
                  rw [hl.2.1]
                  refine aw_goto (q := 99) dX7_read_95 (by decide) ?_
                  refine aw_iadd (q := 100) dX7_read_99 rfl (by omega) ?_
                  refine aw_istore (q := 102) dX7_read_100 rfl (by decide) ?_
                  refine aw_ls (ls := [some (vR 82), some (vI (i)), some (vI (nx)), some (vI (gx)), some (vI (d1 + s)), some (vI (d2 + x)), none]) ⟨rfl, ⟨rfl, ⟨rfl, ⟨rfl, ⟨rfl, ⟨rfl, trivial⟩⟩⟩⟩⟩⟩ ?_
                  refine aw_aload_n (q := 103) dX7_read_102 rfl rfl rfl ?_
                  refine aw_callV [] (q := 106) dX7_read_103 rfl ck_X7_difference lk_X7_179 rfl ⟨Nat.le_of_ble_eq_true rfl, Nat.le_of_ble_eq_true rfl⟩ rfl rfl k822 rfl (Nat.le_of_ble_eq_true rfl) (by decide) (m_X7_difference (dv := dv) (fv := fv) (i := i2) rfl hi2 hfd hfb ag7 k822 ((hG2 95 (by omega)).trans ((hG1 95 (by omega)).trans ((hF1 95 (by simp)).trans h95)))) rfl (fun _ _ _ h => (Rt_x h).elim) ?_
                  rintro v n9 μ4 - ⟨v9, hv9, hn9, d3, i3, rfl, hG3, k823, hi3, hlo3, hup3, hd3⟩
                  obtain rfl := hn9.symm
                  obtain rfl := Sum.inl.inj hv9
                  refine aw_iload_n (q := 107) dX7_read_106 rfl rfl rfl ?_
                  refine aw_if_le (t := 123) (q := 110) dX7_read_107 rfl (by decide) (fun bc19 => ?_) (fun bc19 => ?_)
                  · skip
                    omega
                  · skip
                    refine aw_aload_n (q := 111) dX7_read_110 rfl rfl rfl ?_
                    refine aw_get (q := 114) dX7_read_111 rfl fl_X7_56 k823 rfl (fun _ => ?_)
                    refine aw_iconst (q := 115) dX7_read_114 rfl (by omega) ?_
                    refine aw_iload_n (q := 116) dX7_read_115 rfl rfl rfl ?_
                    refine aw_imul (q := 117) dX7_read_116 rfl (by omega) ?_
                    refine aw_iconst (q := 118) dX7_read_117 rfl (by omega) ?_
                    refine aw_isub (q := 119) dX7_read_118 rfl (by omega) ?_
                    refine aw_iaload (j := 3 * k - 1) (q := 120) dX7_read_119 rfl ((hG3 96 (by omega)).trans ((hG2 96 (by omega)).trans ((hG1 96 (by omega)).trans g96))) (by omega) (by omega) (fun rx20 => ?_)
                    rw [hl.2.2]
                    refine aw_goto (q := 124) dX7_read_120 (by decide) ?_
                    refine aw_iadd (q := 125) dX7_read_124 rfl (by omega) ?_
                    refine aw_istore (q := 127) dX7_read_125 rfl (by decide) ?_
                    refine aw_iload_n (q := 128) dX7_read_127 rfl rfl rfl ?_
                    refine aw_bipush (q := 130) dX7_read_128 rfl (by decide) (by omega) ?_
                    refine aw_ic_ge (t := 180) (q := 133) dX7_read_130 rfl (by decide) (fun bc21 => ?_) (fun bc21 => ?_)
                    · skip
                      have hnone : ∀ k9, ¬ Whole fd.2 fd.1 k9 := by
                        intro k9 hk9
                        by_cases h60 : k < 60
                        · refine noW2 hit ?_ k9 hk9 (by omega)
                          unfold stp
                          rw [if_pos (by omega : ib < fd.1)]
                          rcases hd1 with e1 | ⟨e1, s1⟩
                          · rw [e1]; dsimp only
                            rcases hd2 with e2 | ⟨e2, s2⟩
                            · rw [e2]; dsimp only
                              rcases hd3 with e3 | ⟨e3, s3⟩
                              · rw [e3]; dsimp only
                                rw [if_neg]
                                intro h9
                                obtain ⟨h8, h7⟩ := h9
                                omega
                              · rw [e3]
                            · rw [e2]
                          · rw [e1]
                        · exact noW hit (by omega) (by omega) k9 hk9
                      refine aw_iconst (q := 181) dX7_read_180 rfl (by omega) ?_
                      refine aw_istore_n (q := 182) dX7_read_181 rfl rfl (by decide) ?_
                      refine aw_ls (ls := [some (vR 82), some (vI (i)), some (vI (nx)), some (vI (0)), some (vI (d1 + s)), some (vI (d2 + x)), some (vI (d3 + y))]) ⟨rfl, ⟨rfl, ⟨rfl, ⟨rfl, ⟨rfl, ⟨rfl, ⟨rfl, trivial⟩⟩⟩⟩⟩⟩⟩ ?_
                      refine aw_iload_n (q := 183) dX7_read_182 rfl rfl rfl ?_
                      refine aw_if_eq (t := 223) (q := 186) dX7_read_183 rfl (by decide) (fun bc22 => ?_) (fun bc22 => ?_)
                      · skip
                        refine aw_goto (q := 37) dX7_read_223 (by decide) ?_
                        refine aw_ls (ls := [some (vR 82), some (vI (i)), some (vI (nx)), some (vI (0)), none, none, none]) ⟨rfl, ⟨rfl, ⟨rfl, ⟨rfl, trivial⟩⟩⟩⟩ ?_
                        exact ihlp k i3 nx 0 (i3 : Int) _ r9 (by rw [hg1] at hjlp; clear hgx; simp at hjlp ⊢; omega) hnx hk60 k823 ((hG3 96 (by omega)).trans ((hG2 96 (by omega)).trans ((hG1 96 (by omega)).trans g96))) (Fr_tr (Fr_tr (Fr_tr hF1 (FrR_F hG1) (fun a h => by simp at h ⊢; exact Or.inl h)) (FrR_F hG2) (fun a h => by simp at h ⊢; exact Or.inl h)) (FrR_F hG3) (fun a h => by simp at h ⊢; exact Or.inl h)) (Or.inr ⟨rfl, hnone⟩)
                      · skip
                        omega
                    · skip
                      refine aw_iload (q := 135) dX7_read_133 rfl rfl ?_
                      refine aw_i2l (q := 136) dX7_read_135 rfl ?_
                      refine aw_iload_n (q := 137) dX7_read_136 rfl rfl rfl ?_
                      refine aw_if_le (t := 156) (q := 140) dX7_read_137 rfl (by decide) (fun bc23 => ?_) (fun bc23 => ?_)
                      · skip
                        omega
                      · skip
                        refine aw_aload_n (q := 141) dX7_read_140 rfl rfl rfl ?_
                        refine aw_get (q := 144) dX7_read_141 rfl fl_X7_56 k823 rfl (fun _ => ?_)
                        refine aw_iconst (q := 145) dX7_read_144 rfl (by omega) ?_
                        refine aw_iload_n (q := 146) dX7_read_145 rfl rfl rfl ?_
                        refine aw_imul (q := 147) dX7_read_146 rfl (by omega) ?_
                        refine aw_iconst (q := 148) dX7_read_147 rfl (by omega) ?_
                        refine aw_isub (q := 149) dX7_read_148 rfl (by omega) ?_
                        refine aw_iaload (j := 3 * k - 3) (q := 150) dX7_read_149 rfl ((hG3 96 (by omega)).trans ((hG2 96 (by omega)).trans ((hG1 96 (by omega)).trans g96))) (by omega) (by omega) (fun rx24 => ?_)
                        rw [hl.1]
                        refine aw_iconst (q := 151) dX7_read_150 rfl (by omega) ?_
                        refine aw_iadd (q := 152) dX7_read_151 rfl (by omega) ?_
                        refine aw_i2l (q := 153) dX7_read_152 rfl ?_
                        refine aw_goto (q := 157) dX7_read_153 (by decide) ?_
                        refine aw_ldc2 (a := 1000000) (q := 160) dX7_read_157 rfl k_X7_94 (by omega) ?_
                        refine aw_callS [vL (d1 + s), vL (s + 1), vL (1000000)] (q := 163) dX7_read_160 rfl ck_X7_within lk_X7_90 rfl ⟨Nat.le_of_ble_eq_true rfl, Nat.le_of_ble_eq_true rfl⟩ rfl rfl (Nat.le_of_ble_eq_true rfl) (by decide) (m_X7_within) rfl (fun _ _ _ h => (Rt_x h).elim) ?_
                        rintro v n9 μ9 - ⟨v9, hv9, hn9, hm9, rfl⟩
                        obtain rfl := hn9.symm
                        obtain rfl := hm9.symm
                        obtain rfl := Sum.inl.inj hv9
                        refine aw_if_eq (t := 180) (q := 166) dX7_read_163 rfl (by decide) (fun bc25 => ?_) (fun bc25 => ?_)
                        · skip
                          replace bc25 := bz_0.mp bc25
                          have hnone : ∀ k9, ¬ Whole fd.2 fd.1 k9 := by
                            intro k9 hk9
                            by_cases h60 : k < 60
                            · refine noW2 hit ?_ k9 hk9 (by omega)
                              unfold stp
                              rw [if_pos (by omega : ib < fd.1)]
                              rcases hd1 with e1 | ⟨e1, s1⟩
                              · rw [e1]; dsimp only
                                rcases hd2 with e2 | ⟨e2, s2⟩
                                · rw [e2]; dsimp only
                                  rcases hd3 with e3 | ⟨e3, s3⟩
                                  · rw [e3]; dsimp only
                                    rw [if_neg]
                                    intro h9
                                    obtain ⟨h8, h7⟩ := h9
                                    omega
                                  · rw [e3]
                                · rw [e2]
                              · rw [e1]
                            · exact noW hit (by omega) (by omega) k9 hk9
                          refine aw_iconst (q := 181) dX7_read_180 rfl (by omega) ?_
                          refine aw_istore_n (q := 182) dX7_read_181 rfl rfl (by decide) ?_
                          refine aw_ls (ls := [some (vR 82), some (vI (i)), some (vI (nx)), some (vI (0)), some (vI (d1 + s)), some (vI (d2 + x)), some (vI (d3 + y))]) ⟨rfl, ⟨rfl, ⟨rfl, ⟨rfl, ⟨rfl, ⟨rfl, ⟨rfl, trivial⟩⟩⟩⟩⟩⟩⟩ ?_
                          refine aw_iload_n (q := 183) dX7_read_182 rfl rfl rfl ?_
                          refine aw_if_eq (t := 223) (q := 186) dX7_read_183 rfl (by decide) (fun bc26 => ?_) (fun bc26 => ?_)
                          · skip
                            refine aw_goto (q := 37) dX7_read_223 (by decide) ?_
                            refine aw_ls (ls := [some (vR 82), some (vI (i)), some (vI (nx)), some (vI (0)), none, none, none]) ⟨rfl, ⟨rfl, ⟨rfl, ⟨rfl, trivial⟩⟩⟩⟩ ?_
                            exact ihlp k i3 nx 0 (i3 : Int) _ r9 (by rw [hg1] at hjlp; clear hgx; simp at hjlp ⊢; omega) hnx hk60 k823 ((hG3 96 (by omega)).trans ((hG2 96 (by omega)).trans ((hG1 96 (by omega)).trans g96))) (Fr_tr (Fr_tr (Fr_tr hF1 (FrR_F hG1) (fun a h => by simp at h ⊢; exact Or.inl h)) (FrR_F hG2) (fun a h => by simp at h ⊢; exact Or.inl h)) (FrR_F hG3) (fun a h => by simp at h ⊢; exact Or.inl h)) (Or.inr ⟨rfl, hnone⟩)
                          · skip
                            omega
                        · skip
                          replace bc25 := bz_n0.mp bc25
                          refine aw_iload (q := 168) dX7_read_166 rfl rfl ?_
                          refine aw_iload (q := 170) dX7_read_168 rfl rfl ?_
                          refine aw_callS [vI (d2 + x), vI (d3 + y)] (q := 173) dX7_read_170 rfl ck_X7_isPoint lk_X7_96 rfl ⟨Nat.le_of_ble_eq_true rfl, Nat.le_of_ble_eq_true rfl⟩ rfl rfl (Nat.le_of_ble_eq_true rfl) (by decide) (m_X7_isPoint) rfl (fun _ _ _ h => (Rt_x h).elim) ?_
                          rintro v n9 μ9 - ⟨v9, hv9, hn9, hm9, rfl⟩
                          obtain rfl := hn9.symm
                          obtain rfl := hm9.symm
                          obtain rfl := Sum.inl.inj hv9
                          refine aw_if_eq (t := 180) (q := 176) dX7_read_173 rfl (by decide) (fun bc27 => ?_) (fun bc27 => ?_)
                          · skip
                            replace bc27 := bz_0.mp bc27
                            have hnone : ∀ k9, ¬ Whole fd.2 fd.1 k9 := by
                              intro k9 hk9
                              by_cases h60 : k < 60
                              · refine noW2 hit ?_ k9 hk9 (by omega)
                                unfold stp
                                rw [if_pos (by omega : ib < fd.1)]
                                rcases hd1 with e1 | ⟨e1, s1⟩
                                · rw [e1]; dsimp only
                                  rcases hd2 with e2 | ⟨e2, s2⟩
                                  · rw [e2]; dsimp only
                                    rcases hd3 with e3 | ⟨e3, s3⟩
                                    · rw [e3]; dsimp only
                                      rw [if_neg]
                                      intro h9
                                      obtain ⟨h8, h7⟩ := h9
                                      omega
                                    · rw [e3]
                                  · rw [e2]
                                · rw [e1]
                              · exact noW hit (by omega) (by omega) k9 hk9
                            refine aw_iconst (q := 181) dX7_read_180 rfl (by omega) ?_
                            refine aw_istore_n (q := 182) dX7_read_181 rfl rfl (by decide) ?_
                            refine aw_ls (ls := [some (vR 82), some (vI (i)), some (vI (nx)), some (vI (0)), some (vI (d1 + s)), some (vI (d2 + x)), some (vI (d3 + y))]) ⟨rfl, ⟨rfl, ⟨rfl, ⟨rfl, ⟨rfl, ⟨rfl, ⟨rfl, trivial⟩⟩⟩⟩⟩⟩⟩ ?_
                            refine aw_iload_n (q := 183) dX7_read_182 rfl rfl rfl ?_
                            refine aw_if_eq (t := 223) (q := 186) dX7_read_183 rfl (by decide) (fun bc28 => ?_) (fun bc28 => ?_)
                            · skip
                              refine aw_goto (q := 37) dX7_read_223 (by decide) ?_
                              refine aw_ls (ls := [some (vR 82), some (vI (i)), some (vI (nx)), some (vI (0)), none, none, none]) ⟨rfl, ⟨rfl, ⟨rfl, ⟨rfl, trivial⟩⟩⟩⟩ ?_
                              exact ihlp k i3 nx 0 (i3 : Int) _ r9 (by rw [hg1] at hjlp; clear hgx; simp at hjlp ⊢; omega) hnx hk60 k823 ((hG3 96 (by omega)).trans ((hG2 96 (by omega)).trans ((hG1 96 (by omega)).trans g96))) (Fr_tr (Fr_tr (Fr_tr hF1 (FrR_F hG1) (fun a h => by simp at h ⊢; exact Or.inl h)) (FrR_F hG2) (fun a h => by simp at h ⊢; exact Or.inl h)) (FrR_F hG3) (fun a h => by simp at h ⊢; exact Or.inl h)) (Or.inr ⟨rfl, hnone⟩)
                            · skip
                              omega
                          · skip
                            replace bc27 := bz_n0.mp bc27
                            refine aw_iconst (q := 177) dX7_read_176 rfl (by omega) ?_
                            refine aw_goto (q := 181) dX7_read_177 (by decide) ?_
                            refine aw_istore_n (q := 182) dX7_read_181 rfl rfl (by decide) ?_
                            refine aw_ls (ls := [some (vR 82), some (vI (i)), some (vI (nx)), some (vI (1)), some (vI (d1 + s)), some (vI (d2 + x)), some (vI (d3 + y))]) ⟨rfl, ⟨rfl, ⟨rfl, ⟨rfl, ⟨rfl, ⟨rfl, ⟨rfl, trivial⟩⟩⟩⟩⟩⟩⟩ ?_
                            refine aw_iload_n (q := 183) dX7_read_182 rfl rfl rfl ?_
                            refine aw_if_eq (t := 223) (q := 186) dX7_read_183 rfl (by decide) (fun bc29 => ?_) (fun bc29 => ?_)
                            · skip
                              omega
                            · skip
                              have e1 : dn fd.2 fd.1 ib = some (d1, i1) := hd1.resolve_right (fun h => by omega)
                              have e2 : dn fd.2 fd.1 i1 = some (d2, i2) := hd2.resolve_right (fun h => by omega)
                              have e3 : dn fd.2 fd.1 i2 = some (d3, i3) := hd3.resolve_right (fun h => by omega)
                              have hit2 : its fd.2 fd.1 (k + 1) = some (i3, s + d1, x + d2, y + d3) := by
                                rw [its_s hit]; unfold stp; rw [if_pos (by omega : ib < fd.1), e1]; dsimp only; rw [e2]; dsimp only; rw [e3]; dsimp only
                                rw [if_pos (show (k = 0 ∨ s < s + d1) ∧ TelP (s + d1) (x + d2) (y + d3) from ⟨by omega, by omega, by omega, by omega, by omega, by omega, by omega⟩)]
                              refine aw_aload_n (q := 187) dX7_read_186 rfl rfl rfl ?_
                              refine aw_get (q := 190) dX7_read_187 rfl fl_X7_56 k823 rfl (fun _ => ?_)
                              refine aw_iconst (q := 191) dX7_read_190 rfl (by omega) ?_
                              refine aw_iload_n (q := 192) dX7_read_191 rfl rfl rfl ?_
                              refine aw_imul (q := 193) dX7_read_192 rfl (by omega) ?_
                              refine aw_iload (q := 195) dX7_read_193 rfl rfl ?_
                              refine aw_iastore (j := 3 * k) (q := 196) dX7_read_195 rfl ((hG3 96 (by omega)).trans ((hG2 96 (by omega)).trans ((hG1 96 (by omega)).trans g96))) (by omega) (by omega) ?_
                              refine aw_aload_n (q := 197) dX7_read_196 rfl rfl rfl ?_
                              refine aw_get (q := 200) dX7_read_197 rfl fl_X7_56 ((hu_n (by omega)).trans k823) rfl (fun _ => ?_)
                              refine aw_iconst (q := 201) dX7_read_200 rfl (by omega) ?_
                              refine aw_iload_n (q := 202) dX7_read_201 rfl rfl rfl ?_
                              refine aw_imul (q := 203) dX7_read_202 rfl (by omega) ?_
                              refine aw_iconst (q := 204) dX7_read_203 rfl (by omega) ?_
                              refine aw_iadd (q := 205) dX7_read_204 rfl (by omega) ?_
                              refine aw_iload (q := 207) dX7_read_205 rfl rfl ?_
                              refine aw_iastore (j := 3 * k + 1) (q := 208) dX7_read_207 rfl hu_s (by omega) (by omega) ?_
                              refine aw_aload_n (q := 209) dX7_read_208 rfl rfl rfl ?_
                              refine aw_get (q := 212) dX7_read_209 rfl fl_X7_56 ((hu_n (by omega)).trans ((hu_n (by omega)).trans k823)) rfl (fun _ => ?_)
                              refine aw_iconst (q := 213) dX7_read_212 rfl (by omega) ?_
                              refine aw_iload_n (q := 214) dX7_read_213 rfl rfl rfl ?_
                              refine aw_imul (q := 215) dX7_read_214 rfl (by omega) ?_
                              refine aw_iconst (q := 216) dX7_read_215 rfl (by omega) ?_
                              refine aw_iadd (q := 217) dX7_read_216 rfl (by omega) ?_
                              refine aw_iload (q := 219) dX7_read_217 rfl rfl ?_
                              refine aw_iastore (j := 3 * k + 2) (q := 220) dX7_read_219 rfl hu_s (by omega) (by omega) ?_
                              refine aw_iinc (q := 223) dX7_read_220 rfl rfl (by decide) (by omega) ?_
                              refine aw_goto (q := 37) dX7_read_223 (by decide) ?_
                              refine aw_ls (ls := [some (vR 82), some (vI (i)), some (vI (nx + 1)), some (vI (1)), none, none, none]) ⟨rfl, ⟨rfl, ⟨rfl, ⟨rfl, trivial⟩⟩⟩⟩ ?_
                              exact ihlp (k + 1) i3 (nx + 1) 1 (i3 : Int) _ _ (by omega) (by omega) (by omega) ((hu_n (by omega)).trans ((hu_n (by omega)).trans ((hu_n (by omega)).trans k823))) hu_s (Fr_hu (Fr_hu (Fr_hu (Fr_tr (Fr_tr (Fr_tr hF1 (FrR_F hG1) (fun a h => by simp at h ⊢; exact Or.inl h)) (FrR_F hG2) (fun a h => by simp at h ⊢; exact Or.inl h)) (FrR_F hG3) (fun a h => by simp at h ⊢; exact Or.inl h)) (by simp)) (by simp)) (by simp)) (Or.inl ⟨rfl, s + d1, x + d2, y + d3, hit2, rfl, hi3, by rw [show d1 + s = s + d1 by omega, show d2 + x = x + d2 by omega, show d3 + y = y + d3 by omega]; exact T3_s htl hit2, by omega⟩)
      exact lp 122 0 0 _ _ _ _ r7 (by simp) rfl (by omega) hu_s ((hu_n (by omega)).trans h96) (Fr_hu Fr_rf (by simp)) (Or.inl ⟨rfl, 0, 0, 0, rfl, rfl, by omega, (fun p hp => absurd hp (Nat.not_lt_zero p)), by omega⟩)
    · skip
      omega
  · skip
    replace bc1 := bz_0.mp bc1
    refine aw_iconst (q := 15) dX7_read_14 rfl (by omega) ?_
    refine aw_goto (q := 19) dX7_read_15 (by decide) ?_
    refine aw_iconst (q := 20) dX7_read_19 rfl (by omega) ?_
    refine aw_callV [vI (1), vI (1)] (q := 23) dX7_read_20 rfl ck_X7_fails lk_X7_82 rfl ⟨Nat.le_of_ble_eq_true rfl, Nat.le_of_ble_eq_true rfl⟩ rfl rfl h82 rfl (Nat.le_of_ble_eq_true rfl) (by decide) (m_X7_fails_t h82 (by omega)) rfl (fun _ _ _ h => (Rt_x h).elim) ?_
    rintro v n9 μ9 - ⟨v9, hv9, hn9, hm9, rfl⟩
    obtain rfl := hn9.symm
    obtain rfl := hm9.symm
    obtain rfl := Sum.inl.inj hv9
    refine aw_if_eq (t := 28) (q := 26) dX7_read_23 rfl (by decide) (fun bc3 => ?_) (fun bc3 => ?_)
    · skip
      omega
    · skip
      refine aw_iconst (q := 27) dX7_read_26 rfl (by omega) ?_
      exact aw_iret dX7_read_27 rfl (by decide) (by decide) ⟨rfl, FrR_w (FrR_tr hF0 (FrR_hu FrR_rf (by omega))) (by omega) (by omega), 0, rfl, Or.inl ⟨by omega, MM_o hm0⟩⟩
