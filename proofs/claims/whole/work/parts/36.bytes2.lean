/-! ===== TrackRows$Bytes: packFrom, nextDifference (written by m_bytes2.py) ===== -/
theorem packP_len {c : Nat} {f g h : Nat → Int} (hb : PBd c f g h) : ∀ k, k ≤ c → (packP f g h k).length ≤ 9 * k
  | 0, _ => Nat.le_refl _
  | k + 1, hk => by
    have ih := packP_len hb k (by omega)
    have h1 := hb k (by omega)
    have key : ∀ F : Nat → Int, (-1000000 ≤ F k - prv F k ∧ F k - prv F k ≤ 1000000) → (enc (zig (F k - prv F k))).length ≤ 3 := fun F hF => encF_3 (by unfold zig; split <;> omega)
    have hp : ∀ F : Nat → Int, (∀ p, p < c → -1000000 ≤ F p ∧ F p ≤ 1000000) → -1000000 ≤ prv F k ∧ prv F k ≤ 1000000 := fun F hF => by
      unfold prv
      split
      · omega
      · exact hF (k - 1) (by omega)
    have kf := key f (by have := hb k (by omega); unfold prv; split; omega; have := hb (k - 1) (by omega); omega)
    have kg := key g (by have := hb k (by omega); unfold prv; split; omega; have := hb (k - 1) (by omega); omega)
    have kh := key h (by have := hb k (by omega); unfold prv; split; omega; have := hb (k - 1) (by omega); omega)
    show (((packP f g h k ++ _) ++ _) ++ _).length ≤ _
    rw [List.length_append, List.length_append, List.length_append]
    omega
set_option maxHeartbeats 4000000 in
set_option maxRecDepth 100000 in
theorem m_X0_packFrom {n : Nat} {μ : AH} {q c : Nat} {nx so : Int} {b : Nat → Int} {u m2 e : Nat} {f g h : Nat → Int} (hU : PL μ u m2 e f g h) (hd : u + 3 < q ∨ q + 1 < u) (he2 : e ≤ m2) (hm2 : m2 ≤ 60) (hb : PBd e f g h) (hB : BY μ q c nx so b) : AMet YX0_packFrom [vR q, vR u] n μ (Vd (fun n' μ' => n' = n ∧ ∃ b' : Nat → Int, BY μ' q (packP f g h e).length nx so b' ∧ Has b' (packP f g h e) ∧ Fr [q, q + 1] μ μ')) := by
  refine AMet.of (by decide) rfl (Nat.le_of_ble_eq_true rfl) ?_
  have loop : ∀ (j p : Nat) (px sv xv yv : Int) (μ1 : AH) (c1 : Nat) (b1 : Nat → Int), e - p < j → px = (p : Int) → p ≤ e → sv = prv f p → xv = prv g p → yv = prv h p → BY μ1 q c1 nx so b1 → Has b1 (packP f g h p) → c1 = (packP f g h p).length → Fr [q, q + 1] μ μ1 → AW YX0_packFrom none (Vd (fun n' μ' => n' = n ∧ ∃ b' : Nat → Int, BY μ' q (packP f g h e).length nx so b' ∧ Has b' (packP f g h e) ∧ Fr [q, q + 1] μ μ')) 15 [some (vR q), some (vR u), some (vI sv), some (vI xv), some (vI yv), some (vI px)] [] n μ1 0 0 := by
    intro j
    induction j with
    | zero => intro p px sv xv yv μ1 c1 b1 hj; exact absurd hj (Nat.not_lt_zero _)
    | succ j ih =>
      intro p px sv xv yv μ1 c1 b1 hj hp hpe hs hxv hyv hB1 hh hc1 hfr
      refine aw_iload (q := 17) dX0_packFrom_15 rfl rfl ?_
      have hU1 : PL μ1 u m2 e f g h := ⟨(hfr u (by simp only [List.mem_cons, List.not_mem_nil, or_false]; omega)).trans hU.1, (hfr (u + 1) (by simp only [List.mem_cons, List.not_mem_nil, or_false]; omega)).trans hU.2.1, (hfr (u + 2) (by simp only [List.mem_cons, List.not_mem_nil, or_false]; omega)).trans hU.2.2.1, (hfr (u + 3) (by simp only [List.mem_cons, List.not_mem_nil, or_false]; omega)).trans hU.2.2.2⟩
      refine aw_aload_n (q := 18) dX0_packFrom_17 rfl rfl rfl ?_
      refine aw_get (q := 21) dX0_packFrom_18 rfl fl_X0_26 hU1.1 rfl (fun _ => ?_)
      refine aw_ic_ge (t := 95) (q := 24) dX0_packFrom_21 rfl (by decide) (fun bc1 => ?_) (fun bc1 => ?_)
      · skip
        exact aw_vret dX0_packFrom_95 rfl (by decide) (by decide) ⟨rfl, rfl, b1, by rw [show e = p by omega, ← hc1]; exact hB1, by rw [show e = p by omega]; exact hh, hfr⟩
      · skip
        have h1 := hb p (by omega)
        have h2 : -1000000 ≤ f p - sv ∧ f p - sv ≤ 1000000 ∧ -1000000 ≤ g p - xv ∧ g p - xv ≤ 1000000 ∧ -1000000 ≤ h p - yv ∧ h p - yv ≤ 1000000 ∧ -100000 ≤ xv ∧ xv ≤ 100000 ∧ -100000 ≤ yv ∧ yv ≤ 100000 ∧ 0 ≤ sv ∧ sv ≤ 1000000 := by
          rw [hs, hxv, hyv]; unfold prv; split; omega; have := hb (p - 1) (by omega); omega
        have hl3 := packP_len hb (p + 1) (by omega)
        refine aw_aload_n (q := 25) dX0_packFrom_24 rfl rfl rfl ?_
        refine aw_aload_n (q := 26) dX0_packFrom_25 rfl rfl rfl ?_
        refine aw_get (q := 29) dX0_packFrom_26 rfl fl_X0_29 hU1.1 rfl (fun _ => ?_)
        refine aw_iload (q := 31) dX0_packFrom_29 rfl rfl ?_
        refine aw_iaload (j := p) (q := 32) dX0_packFrom_31 rfl hU1.2.1 (by omega) (by omega) (fun r2 => ?_)
        refine aw_iload_n (q := 33) dX0_packFrom_32 rfl rfl rfl ?_
        refine aw_isub (q := 34) dX0_packFrom_33 rfl (by omega) ?_
        refine aw_callV [vI ((f p) - sv)] (q := 37) dX0_packFrom_34 rfl ck_X0_appendDifference lk_X0_32 rfl ⟨Nat.le_of_ble_eq_true rfl, Nat.le_of_ble_eq_true rfl⟩ rfl rfl hB1.1 rfl (Nat.le_of_ble_eq_true rfl) (by decide) (m_X0_appendDifference (l := packP f g h p) (d := f p - sv) (by omega) (hc1) hh (by rw [hs]; have := hl3; simp only [packP, List.length_append] at this ⊢; omega) hB1) rfl (fun _ _ _ h => (Vd_x h).elim) ?_
        rintro v n9 μ2 - ⟨hv9, rfl, b2, hB2, hH2, hF2⟩
        obtain rfl := Sum.inl.inj hv9
        rw [hs] at hB2 hH2
        refine aw_aload_n (q := 38) dX0_packFrom_37 rfl rfl rfl ?_
        refine aw_aload_n (q := 39) dX0_packFrom_38 rfl rfl rfl ?_
        refine aw_get (q := 42) dX0_packFrom_39 rfl fl_X0_36 ((hF2 u (by simp only [List.mem_cons, List.not_mem_nil, or_false]; omega)).trans hU1.1) rfl (fun _ => ?_)
        refine aw_iload (q := 44) dX0_packFrom_42 rfl rfl ?_
        refine aw_iaload (j := p) (q := 45) dX0_packFrom_44 rfl ((hF2 (u + 2) (by simp only [List.mem_cons, List.not_mem_nil, or_false]; omega)).trans hU1.2.2.1) (by omega) (by omega) (fun r3 => ?_)
        refine aw_iload_n (q := 46) dX0_packFrom_45 rfl rfl rfl ?_
        refine aw_isub (q := 47) dX0_packFrom_46 rfl (by omega) ?_
        refine aw_callV [vI ((g p) - xv)] (q := 50) dX0_packFrom_47 rfl ck_X0_appendDifference lk_X0_32 rfl ⟨Nat.le_of_ble_eq_true rfl, Nat.le_of_ble_eq_true rfl⟩ rfl rfl hB2.1 rfl (Nat.le_of_ble_eq_true rfl) (by decide) (m_X0_appendDifference (l := (packP f g h p ++ enc (zig (f p - prv f p)))) (d := g p - xv) (by omega) (rfl) hH2 (by rw [hxv]; have := hl3; simp only [packP, List.length_append] at this ⊢; omega) hB2) rfl (fun _ _ _ h => (Vd_x h).elim) ?_
        rintro v n9 μ3 - ⟨hv9, rfl, b3, hB3, hH3, hF3⟩
        obtain rfl := Sum.inl.inj hv9
        rw [hxv] at hB3 hH3
        refine aw_aload_n (q := 51) dX0_packFrom_50 rfl rfl rfl ?_
        refine aw_aload_n (q := 52) dX0_packFrom_51 rfl rfl rfl ?_
        refine aw_get (q := 55) dX0_packFrom_52 rfl fl_X0_39 ((hF3 u (by simp only [List.mem_cons, List.not_mem_nil, or_false]; omega)).trans ((hF2 u (by simp only [List.mem_cons, List.not_mem_nil, or_false]; omega)).trans hU1.1)) rfl (fun _ => ?_)
        refine aw_iload (q := 57) dX0_packFrom_55 rfl rfl ?_
        refine aw_iaload (j := p) (q := 58) dX0_packFrom_57 rfl ((hF3 (u + 3) (by simp only [List.mem_cons, List.not_mem_nil, or_false]; omega)).trans ((hF2 (u + 3) (by simp only [List.mem_cons, List.not_mem_nil, or_false]; omega)).trans hU1.2.2.2)) (by omega) (by omega) (fun r4 => ?_)
        refine aw_iload (q := 60) dX0_packFrom_58 rfl rfl ?_
        refine aw_isub (q := 61) dX0_packFrom_60 rfl (by omega) ?_
        refine aw_callV [vI ((h p) - yv)] (q := 64) dX0_packFrom_61 rfl ck_X0_appendDifference lk_X0_32 rfl ⟨Nat.le_of_ble_eq_true rfl, Nat.le_of_ble_eq_true rfl⟩ rfl rfl hB3.1 rfl (Nat.le_of_ble_eq_true rfl) (by decide) (m_X0_appendDifference (l := ((packP f g h p ++ enc (zig (f p - prv f p))) ++ enc (zig (g p - prv g p)))) (d := h p - yv) (by omega) (rfl) hH3 (by rw [hyv]; have := hl3; simp only [packP, List.length_append] at this ⊢; omega) hB3) rfl (fun _ _ _ h => (Vd_x h).elim) ?_
        rintro v n9 μ4 - ⟨hv9, rfl, b4, hB4, hH4, hF4⟩
        obtain rfl := Sum.inl.inj hv9
        rw [hyv] at hB4 hH4
        refine aw_aload_n (q := 65) dX0_packFrom_64 rfl rfl rfl ?_
        refine aw_get (q := 68) dX0_packFrom_65 rfl fl_X0_29 ((hF4 u (by simp only [List.mem_cons, List.not_mem_nil, or_false]; omega)).trans ((hF3 u (by simp only [List.mem_cons, List.not_mem_nil, or_false]; omega)).trans ((hF2 u (by simp only [List.mem_cons, List.not_mem_nil, or_false]; omega)).trans hU1.1))) rfl (fun _ => ?_)
        refine aw_iload (q := 70) dX0_packFrom_68 rfl rfl ?_
        refine aw_iaload (j := p) (q := 71) dX0_packFrom_70 rfl ((hF4 (u + 1) (by simp only [List.mem_cons, List.not_mem_nil, or_false]; omega)).trans ((hF3 (u + 1) (by simp only [List.mem_cons, List.not_mem_nil, or_false]; omega)).trans ((hF2 (u + 1) (by simp only [List.mem_cons, List.not_mem_nil, or_false]; omega)).trans hU1.2.1))) (by omega) (by omega) (fun r5 => ?_)
        refine aw_istore_n (q := 72) dX0_packFrom_71 rfl rfl (by decide) ?_
        refine aw_aload_n (q := 73) dX0_packFrom_72 rfl rfl rfl ?_
        refine aw_get (q := 76) dX0_packFrom_73 rfl fl_X0_36 ((hF4 u (by simp only [List.mem_cons, List.not_mem_nil, or_false]; omega)).trans ((hF3 u (by simp only [List.mem_cons, List.not_mem_nil, or_false]; omega)).trans ((hF2 u (by simp only [List.mem_cons, List.not_mem_nil, or_false]; omega)).trans hU1.1))) rfl (fun _ => ?_)
        refine aw_iload (q := 78) dX0_packFrom_76 rfl rfl ?_
        refine aw_iaload (j := p) (q := 79) dX0_packFrom_78 rfl ((hF4 (u + 2) (by simp only [List.mem_cons, List.not_mem_nil, or_false]; omega)).trans ((hF3 (u + 2) (by simp only [List.mem_cons, List.not_mem_nil, or_false]; omega)).trans ((hF2 (u + 2) (by simp only [List.mem_cons, List.not_mem_nil, or_false]; omega)).trans hU1.2.2.1))) (by omega) (by omega) (fun r6 => ?_)
        refine aw_istore_n (q := 80) dX0_packFrom_79 rfl rfl (by decide) ?_
        refine aw_aload_n (q := 81) dX0_packFrom_80 rfl rfl rfl ?_
        refine aw_get (q := 84) dX0_packFrom_81 rfl fl_X0_39 ((hF4 u (by simp only [List.mem_cons, List.not_mem_nil, or_false]; omega)).trans ((hF3 u (by simp only [List.mem_cons, List.not_mem_nil, or_false]; omega)).trans ((hF2 u (by simp only [List.mem_cons, List.not_mem_nil, or_false]; omega)).trans hU1.1))) rfl (fun _ => ?_)
        refine aw_iload (q := 86) dX0_packFrom_84 rfl rfl ?_
        refine aw_iaload (j := p) (q := 87) dX0_packFrom_86 rfl ((hF4 (u + 3) (by simp only [List.mem_cons, List.not_mem_nil, or_false]; omega)).trans ((hF3 (u + 3) (by simp only [List.mem_cons, List.not_mem_nil, or_false]; omega)).trans ((hF2 (u + 3) (by simp only [List.mem_cons, List.not_mem_nil, or_false]; omega)).trans hU1.2.2.2))) (by omega) (by omega) (fun r7 => ?_)
        refine aw_istore (q := 89) dX0_packFrom_87 rfl (by decide) ?_
        refine aw_iinc (q := 92) dX0_packFrom_89 rfl rfl (by decide) (by omega) ?_
        refine aw_goto (q := 15) dX0_packFrom_92 (by decide) ?_
        exact ih (p + 1) _ _ _ _ _ _ _ (by omega) (by omega) (by omega) (by unfold prv; rw [if_neg (by omega)]; rfl) (by unfold prv; rw [if_neg (by omega)]; rfl) (by unfold prv; rw [if_neg (by omega)]; rfl) hB4 hH4 rfl (Fr_tr (Fr_tr (Fr_tr hfr hF2 (fun a h => h)) hF3 (fun a h => h)) hF4 (fun a h => h))
  refine aw_aload_n (q := 1) dX0_packFrom_0 rfl rfl rfl ?_
  refine aw_iconst (q := 2) dX0_packFrom_1 rfl (by omega) ?_
  refine aw_put (q := 5) dX0_packFrom_2 rfl fp_X0_15 hB.1 (Nat.le_of_ble_eq_true rfl) trivial ?_
  refine aw_iconst (q := 6) dX0_packFrom_5 rfl (by omega) ?_
  refine aw_istore_n (q := 7) dX0_packFrom_6 rfl rfl (by decide) ?_
  refine aw_iconst (q := 8) dX0_packFrom_7 rfl (by omega) ?_
  refine aw_istore_n (q := 9) dX0_packFrom_8 rfl rfl (by decide) ?_
  refine aw_iconst (q := 10) dX0_packFrom_9 rfl (by omega) ?_
  refine aw_istore (q := 12) dX0_packFrom_10 rfl (by decide) ?_
  refine aw_iconst (q := 13) dX0_packFrom_12 rfl (by omega) ?_
  refine aw_istore (q := 15) dX0_packFrom_13 rfl (by decide) ?_
  exact loop (e + 1) 0 _ _ _ _ _ _ _ (by omega) rfl (by omega) rfl rfl rfl ⟨hu_s, ((hu_n (by omega)).trans hB.2)⟩ (fun p hp => absurd hp (Nat.not_lt_zero p)) rfl (Fr_hu Fr_rf (by simp))
def unz (v : Int) : Int := if v % 2 = 0 then v / 2 else -(v / 2) - 1
theorem unz_e {X N : Int} (h : X = N) (hp : N % 2 = 0) : unz X = N / 2 := by subst h; exact if_pos hp
theorem unz_o {X N : Int} (h : X = N) (hp : ¬ N % 2 = 0) : unz X = -(N / 2) - 1 := by subst h; exact if_neg hp
/-- the number at place i of the bytes, if there is one as pack() tells it, of three bytes at most; and the place behind it -/
def dn (b : Nat → Int) (c i : Nat) : Option (Int × Nat) :=
  if i < c then (if b i < 128 then some (unz (b i), i + 1) else if i + 1 < c then (if b (i + 1) < 128 then (if 0 < b (i + 1) then some (unz (b i % 128 + b (i + 1) * 128), i + 2) else none)
    else if i + 2 < c then (if b (i + 2) < 128 then (if 0 < b (i + 2) then some (unz (b i % 128 + b (i + 1) % 128 * 128 + b (i + 2) * 16384), i + 3) else none) else none) else none) else none) else none
section DN
variable {b : Nat → Int} {c i : Nat}
theorem dn_0 (h : ¬ i < c) : dn b c i = none := by unfold dn; rw [if_neg h]
theorem dn_1 (h : i < c) (h1 : b i < 128) : dn b c i = some (unz (b i), i + 1) := by unfold dn; rw [if_pos h, if_pos h1]
theorem dn_1c (h : i < c) (h1 : ¬ b i < 128) (h2 : ¬ i + 1 < c) : dn b c i = none := by unfold dn; rw [if_pos h, if_neg h1, if_neg h2]
theorem dn_2 (h : i + 1 < c) (h1 : ¬ b i < 128) (h2 : b (i + 1) < 128) (h3 : 0 < b (i + 1)) : dn b c i = some (unz (b i % 128 + b (i + 1) * 128), i + 2) := by unfold dn; rw [if_pos (by omega), if_neg h1, if_pos h, if_pos h2, if_pos h3]
theorem dn_2n (h : i + 1 < c) (h1 : ¬ b i < 128) (h2 : b (i + 1) < 128) (h3 : ¬ 0 < b (i + 1)) : dn b c i = none := by unfold dn; rw [if_pos (by omega), if_neg h1, if_pos h, if_pos h2, if_neg h3]
theorem dn_2c (h : i + 1 < c) (h1 : ¬ b i < 128) (h2 : ¬ b (i + 1) < 128) (h3 : ¬ i + 2 < c) : dn b c i = none := by unfold dn; rw [if_pos (by omega), if_neg h1, if_pos h, if_neg h2, if_neg h3]
theorem dn_3 (h : i + 2 < c) (h1 : ¬ b i < 128) (h2 : ¬ b (i + 1) < 128) (h3 : b (i + 2) < 128) (h4 : 0 < b (i + 2)) : dn b c i = some (unz (b i % 128 + b (i + 1) % 128 * 128 + b (i + 2) * 16384), i + 3) := by unfold dn; rw [if_pos (by omega), if_neg h1, if_pos (by omega), if_neg h2, if_pos h, if_pos h3, if_pos h4]
theorem dn_3n (h : i + 2 < c) (h1 : ¬ b i < 128) (h2 : ¬ b (i + 1) < 128) (h3 : b (i + 2) < 128) (h4 : ¬ 0 < b (i + 2)) : dn b c i = none := by unfold dn; rw [if_pos (by omega), if_neg h1, if_pos (by omega), if_neg h2, if_pos h, if_pos h3, if_neg h4]
theorem dn_3c (h : i + 2 < c) (h1 : ¬ b i < 128) (h2 : ¬ b (i + 1) < 128) (h3 : ¬ b (i + 2) < 128) : dn b c i = none := by unfold dn; rw [if_pos (by omega), if_neg h1, if_pos (by omega), if_neg h2, if_pos h, if_neg h3]
end DN
set_option maxHeartbeats 4000000 in
set_option maxRecDepth 100000 in
theorem m_X0_nextDifference {n : Nat} {μ : AH} {q c i : Nat} {nx so : Int} {b : Nat → Int} (hi : nx = (i : Int)) (hic : i ≤ c) (hc : c ≤ 600) (hso : so = 0 ∨ so = 1) (hby : ∀ p, p < c → 0 ≤ b p ∧ b p ≤ 255) (hB : BY μ q c nx so b) : AMet YX0_nextDifference [vR q] n μ (Rt (fun v n' μ' => n' = n ∧ ∃ (d nx' so' : Int) (i' : Nat), v = vI d ∧ BY μ' q c nx' so' b ∧ nx' = (i' : Int) ∧ Fr [q] μ μ' ∧ ((dn b c i = some (d, i') ∧ so' = so) ∨ (dn b c i = none ∧ so' = 0)) ∧ -1048576 ≤ d ∧ d ≤ 1048576 ∧ i ≤ i' ∧ i' ≤ c)) := by
  refine AMet.of (by decide) rfl (Nat.le_of_ble_eq_true rfl) ?_
  refine aw_iconst (q := 1) dX0_nextDifference_0 rfl (by omega) ?_
  refine aw_istore_n (q := 2) dX0_nextDifference_1 rfl rfl (by decide) ?_
  refine aw_iconst (q := 3) dX0_nextDifference_2 rfl (by omega) ?_
  refine aw_istore_n (q := 4) dX0_nextDifference_3 rfl rfl (by decide) ?_
  refine aw_iload_n (q := 5) dX0_nextDifference_4 rfl rfl rfl ?_
  refine aw_iconst (q := 6) dX0_nextDifference_5 rfl (by omega) ?_
  refine aw_ic_ge (t := 108) (q := 9) dX0_nextDifference_6 rfl (by decide) (fun bc1 => ?_) (fun bc1 => ?_)
  · skip
    exact absurd bc1 (by omega)
  · skip
    refine aw_aload_n (q := 10) dX0_nextDifference_9 rfl rfl rfl ?_
    refine aw_get (q := 13) dX0_nextDifference_10 rfl fl_X0_19 hB.1 rfl (fun _ => ?_)
    refine aw_aload_n (q := 14) dX0_nextDifference_13 rfl rfl rfl ?_
    refine aw_get (q := 17) dX0_nextDifference_14 rfl fl_X0_15 hB.1 rfl (fun _ => ?_)
    refine aw_ic_ge (t := 108) (q := 20) dX0_nextDifference_17 rfl (by decide) (fun bc2 => ?_) (fun bc2 => ?_)
    · skip
      refine aw_aload_n (q := 109) dX0_nextDifference_108 rfl rfl rfl ?_
      refine aw_iconst (q := 110) dX0_nextDifference_109 rfl (by omega) ?_
      refine aw_put (q := 113) dX0_nextDifference_110 rfl fp_X0_22 hB.1 (Nat.le_of_ble_eq_true rfl) (Or.inl rfl) ?_
      refine aw_iconst (q := 114) dX0_nextDifference_113 rfl (by omega) ?_
      exact aw_iret dX0_nextDifference_114 rfl (by decide) (by decide) ⟨_, rfl, rfl, _, _, _, i + 0, rfl, ⟨hu_s, ((hu_n (by omega)).trans hB.2)⟩, by omega, (Fr_hu Fr_rf (by simp)), Or.inr ⟨dn_0 (by omega), rfl⟩, by omega, by omega, by omega, by omega⟩
    · skip
      refine aw_aload_n (q := 21) dX0_nextDifference_20 rfl rfl rfl ?_
      refine aw_get (q := 24) dX0_nextDifference_21 rfl fl_X0_9 hB.1 rfl (fun _ => ?_)
      refine aw_aload_n (q := 25) dX0_nextDifference_24 rfl rfl rfl ?_
      refine aw_get (q := 28) dX0_nextDifference_25 rfl fl_X0_19 hB.1 rfl (fun _ => ?_)
      refine aw_iaload (j := i) (q := 29) dX0_nextDifference_28 rfl hB.2 (by omega) (by omega) (fun r3 => ?_)
      have hr0 := hby i (by omega)
      refine aw_istore_n (q := 30) dX0_nextDifference_29 rfl rfl (by decide) ?_
      refine aw_aload_n (q := 31) dX0_nextDifference_30 rfl rfl rfl ?_
      refine aw_dup (q := 32) dX0_nextDifference_31 rfl rfl ?_
      refine aw_get (q := 35) dX0_nextDifference_32 rfl fl_X0_19 hB.1 rfl (fun _ => ?_)
      refine aw_iconst (q := 36) dX0_nextDifference_35 rfl (by omega) ?_
      refine aw_iadd (q := 37) dX0_nextDifference_36 rfl (by omega) ?_
      refine aw_put (q := 40) dX0_nextDifference_37 rfl fp_X0_19 hB.1 (Nat.le_of_ble_eq_true rfl) trivial ?_
      refine aw_iload_n (q := 41) dX0_nextDifference_40 rfl rfl rfl ?_
      refine aw_iload_n (q := 42) dX0_nextDifference_41 rfl rfl rfl ?_
      refine aw_bipush (q := 44) dX0_nextDifference_42 rfl (by decide) (by omega) ?_
      refine aw_maskM 7 128 rfl (q := 45) dX0_nextDifference_44 rfl (by decide) rfl ?_
      refine aw_bipush (q := 47) dX0_nextDifference_45 rfl (by decide) (by omega) ?_
      refine aw_iload_n (q := 48) dX0_nextDifference_47 rfl rfl rfl ?_
      refine aw_imul (q := 49) dX0_nextDifference_48 rfl (by omega) ?_
      refine aw_shlM 0 1 rfl (q := 50) dX0_nextDifference_49 rfl (by omega) (by omega) (by omega) (by omega) ?_
      refine aw_iadd (q := 51) dX0_nextDifference_50 rfl (by omega) ?_
      refine aw_istore_n (q := 52) dX0_nextDifference_51 rfl rfl (by decide) ?_
      refine aw_iload_n (q := 53) dX0_nextDifference_52 rfl rfl rfl ?_
      refine aw_sipush (q := 56) dX0_nextDifference_53 rfl (by decide) (by omega) ?_
      refine aw_ic_ge (t := 102) (q := 59) dX0_nextDifference_56 rfl (by decide) (fun bc4 => ?_) (fun bc4 => ?_)
      · skip
        refine aw_iinc (q := 105) dX0_nextDifference_102 rfl rfl (by decide) (by omega) ?_
        refine aw_goto (q := 4) dX0_nextDifference_105 (by decide) ?_
        refine aw_ls (ls := [some (vR q), some (vI (0 + (((b i) % 128) * 1))), some (vI (1)), some (vI (b i))]) ⟨rfl, ⟨rfl, ⟨rfl, ⟨rfl, trivial⟩⟩⟩⟩ ?_
        refine aw_iload_n (q := 5) dX0_nextDifference_4 rfl rfl rfl ?_
        refine aw_iconst (q := 6) dX0_nextDifference_5 rfl (by omega) ?_
        refine aw_ic_ge (t := 108) (q := 9) dX0_nextDifference_6 rfl (by decide) (fun bc5 => ?_) (fun bc5 => ?_)
        · skip
          exact absurd bc5 (by omega)
        · skip
          refine aw_aload_n (q := 10) dX0_nextDifference_9 rfl rfl rfl ?_
          refine aw_get (q := 13) dX0_nextDifference_10 rfl fl_X0_19 hu_s rfl (fun _ => ?_)
          refine aw_aload_n (q := 14) dX0_nextDifference_13 rfl rfl rfl ?_
          refine aw_get (q := 17) dX0_nextDifference_14 rfl fl_X0_15 hu_s rfl (fun _ => ?_)
          refine aw_ic_ge (t := 108) (q := 20) dX0_nextDifference_17 rfl (by decide) (fun bc6 => ?_) (fun bc6 => ?_)
          · skip
            refine aw_aload_n (q := 109) dX0_nextDifference_108 rfl rfl rfl ?_
            refine aw_iconst (q := 110) dX0_nextDifference_109 rfl (by omega) ?_
            refine aw_put (q := 113) dX0_nextDifference_110 rfl fp_X0_22 hu_s (Nat.le_of_ble_eq_true rfl) (Or.inl rfl) ?_
            refine aw_iconst (q := 114) dX0_nextDifference_113 rfl (by omega) ?_
            exact aw_iret dX0_nextDifference_114 rfl (by decide) (by decide) ⟨_, rfl, rfl, _, _, _, i + 1, rfl, ⟨hu_s, ((hu_n (by omega)).trans ((hu_n (by omega)).trans hB.2))⟩, by omega, (Fr_hu (Fr_hu Fr_rf (by simp)) (by simp)), Or.inr ⟨dn_1c (by omega) (by omega) (by omega), rfl⟩, by omega, by omega, by omega, by omega⟩
          · skip
            refine aw_aload_n (q := 21) dX0_nextDifference_20 rfl rfl rfl ?_
            refine aw_get (q := 24) dX0_nextDifference_21 rfl fl_X0_9 hu_s rfl (fun _ => ?_)
            refine aw_aload_n (q := 25) dX0_nextDifference_24 rfl rfl rfl ?_
            refine aw_get (q := 28) dX0_nextDifference_25 rfl fl_X0_19 hu_s rfl (fun _ => ?_)
            refine aw_iaload (j := (i + 1)) (q := 29) dX0_nextDifference_28 rfl ((hu_n (by omega)).trans hB.2) (by omega) (by omega) (fun r7 => ?_)
            have hr1 := hby (i + 1) (by omega)
            refine aw_istore_n (q := 30) dX0_nextDifference_29 rfl rfl (by decide) ?_
            refine aw_aload_n (q := 31) dX0_nextDifference_30 rfl rfl rfl ?_
            refine aw_dup (q := 32) dX0_nextDifference_31 rfl rfl ?_
            refine aw_get (q := 35) dX0_nextDifference_32 rfl fl_X0_19 hu_s rfl (fun _ => ?_)
            refine aw_iconst (q := 36) dX0_nextDifference_35 rfl (by omega) ?_
            refine aw_iadd (q := 37) dX0_nextDifference_36 rfl (by omega) ?_
            refine aw_put (q := 40) dX0_nextDifference_37 rfl fp_X0_19 hu_s (Nat.le_of_ble_eq_true rfl) trivial ?_
            refine aw_iload_n (q := 41) dX0_nextDifference_40 rfl rfl rfl ?_
            refine aw_iload_n (q := 42) dX0_nextDifference_41 rfl rfl rfl ?_
            refine aw_bipush (q := 44) dX0_nextDifference_42 rfl (by decide) (by omega) ?_
            refine aw_maskM 7 128 rfl (q := 45) dX0_nextDifference_44 rfl (by decide) rfl ?_
            refine aw_bipush (q := 47) dX0_nextDifference_45 rfl (by decide) (by omega) ?_
            refine aw_iload_n (q := 48) dX0_nextDifference_47 rfl rfl rfl ?_
            refine aw_imul (q := 49) dX0_nextDifference_48 rfl (by omega) ?_
            refine aw_shlM 7 128 rfl (q := 50) dX0_nextDifference_49 rfl (by omega) (by omega) (by omega) (by omega) ?_
            refine aw_iadd (q := 51) dX0_nextDifference_50 rfl (by omega) ?_
            refine aw_istore_n (q := 52) dX0_nextDifference_51 rfl rfl (by decide) ?_
            refine aw_iload_n (q := 53) dX0_nextDifference_52 rfl rfl rfl ?_
            refine aw_sipush (q := 56) dX0_nextDifference_53 rfl (by decide) (by omega) ?_
            refine aw_ic_ge (t := 102) (q := 59) dX0_nextDifference_56 rfl (by decide) (fun bc8 => ?_) (fun bc8 => ?_)
            · skip
              refine aw_iinc (q := 105) dX0_nextDifference_102 rfl rfl (by decide) (by omega) ?_
              refine aw_goto (q := 4) dX0_nextDifference_105 (by decide) ?_
              refine aw_ls (ls := [some (vR q), some (vI ((0 + (((b i) % 128) * 1)) + (((b (i + 1)) % 128) * 128))), some (vI (2)), some (vI (b (i + 1)))]) ⟨rfl, ⟨rfl, ⟨rfl, ⟨rfl, trivial⟩⟩⟩⟩ ?_
              refine aw_iload_n (q := 5) dX0_nextDifference_4 rfl rfl rfl ?_
              refine aw_iconst (q := 6) dX0_nextDifference_5 rfl (by omega) ?_
              refine aw_ic_ge (t := 108) (q := 9) dX0_nextDifference_6 rfl (by decide) (fun bc9 => ?_) (fun bc9 => ?_)
              · skip
                exact absurd bc9 (by omega)
              · skip
                refine aw_aload_n (q := 10) dX0_nextDifference_9 rfl rfl rfl ?_
                refine aw_get (q := 13) dX0_nextDifference_10 rfl fl_X0_19 hu_s rfl (fun _ => ?_)
                refine aw_aload_n (q := 14) dX0_nextDifference_13 rfl rfl rfl ?_
                refine aw_get (q := 17) dX0_nextDifference_14 rfl fl_X0_15 hu_s rfl (fun _ => ?_)
                refine aw_ic_ge (t := 108) (q := 20) dX0_nextDifference_17 rfl (by decide) (fun bc10 => ?_) (fun bc10 => ?_)
                · skip
                  refine aw_aload_n (q := 109) dX0_nextDifference_108 rfl rfl rfl ?_
                  refine aw_iconst (q := 110) dX0_nextDifference_109 rfl (by omega) ?_
                  refine aw_put (q := 113) dX0_nextDifference_110 rfl fp_X0_22 hu_s (Nat.le_of_ble_eq_true rfl) (Or.inl rfl) ?_
                  refine aw_iconst (q := 114) dX0_nextDifference_113 rfl (by omega) ?_
                  exact aw_iret dX0_nextDifference_114 rfl (by decide) (by decide) ⟨_, rfl, rfl, _, _, _, i + 2, rfl, ⟨hu_s, ((hu_n (by omega)).trans ((hu_n (by omega)).trans ((hu_n (by omega)).trans hB.2)))⟩, by omega, (Fr_hu (Fr_hu (Fr_hu Fr_rf (by simp)) (by simp)) (by simp)), Or.inr ⟨dn_2c (by omega) (by omega) (by omega) (by omega), rfl⟩, by omega, by omega, by omega, by omega⟩
                · skip
                  refine aw_aload_n (q := 21) dX0_nextDifference_20 rfl rfl rfl ?_
                  refine aw_get (q := 24) dX0_nextDifference_21 rfl fl_X0_9 hu_s rfl (fun _ => ?_)
                  refine aw_aload_n (q := 25) dX0_nextDifference_24 rfl rfl rfl ?_
                  refine aw_get (q := 28) dX0_nextDifference_25 rfl fl_X0_19 hu_s rfl (fun _ => ?_)
                  refine aw_iaload (j := (i + 2)) (q := 29) dX0_nextDifference_28 rfl ((hu_n (by omega)).trans ((hu_n (by omega)).trans hB.2)) (by omega) (by omega) (fun r11 => ?_)
                  have hr2 := hby (i + 2) (by omega)
                  refine aw_istore_n (q := 30) dX0_nextDifference_29 rfl rfl (by decide) ?_
                  refine aw_aload_n (q := 31) dX0_nextDifference_30 rfl rfl rfl ?_
                  refine aw_dup (q := 32) dX0_nextDifference_31 rfl rfl ?_
                  refine aw_get (q := 35) dX0_nextDifference_32 rfl fl_X0_19 hu_s rfl (fun _ => ?_)
                  refine aw_iconst (q := 36) dX0_nextDifference_35 rfl (by omega) ?_
                  refine aw_iadd (q := 37) dX0_nextDifference_36 rfl (by omega) ?_
                  refine aw_put (q := 40) dX0_nextDifference_37 rfl fp_X0_19 hu_s (Nat.le_of_ble_eq_true rfl) trivial ?_
                  refine aw_iload_n (q := 41) dX0_nextDifference_40 rfl rfl rfl ?_
                  refine aw_iload_n (q := 42) dX0_nextDifference_41 rfl rfl rfl ?_
                  refine aw_bipush (q := 44) dX0_nextDifference_42 rfl (by decide) (by omega) ?_
                  refine aw_maskM 7 128 rfl (q := 45) dX0_nextDifference_44 rfl (by decide) rfl ?_
                  refine aw_bipush (q := 47) dX0_nextDifference_45 rfl (by decide) (by omega) ?_
                  refine aw_iload_n (q := 48) dX0_nextDifference_47 rfl rfl rfl ?_
                  refine aw_imul (q := 49) dX0_nextDifference_48 rfl (by omega) ?_
                  refine aw_shlM 14 16384 rfl (q := 50) dX0_nextDifference_49 rfl (by omega) (by omega) (by omega) (by omega) ?_
                  refine aw_iadd (q := 51) dX0_nextDifference_50 rfl (by omega) ?_
                  refine aw_istore_n (q := 52) dX0_nextDifference_51 rfl rfl (by decide) ?_
                  refine aw_iload_n (q := 53) dX0_nextDifference_52 rfl rfl rfl ?_
                  refine aw_sipush (q := 56) dX0_nextDifference_53 rfl (by decide) (by omega) ?_
                  refine aw_ic_ge (t := 102) (q := 59) dX0_nextDifference_56 rfl (by decide) (fun bc12 => ?_) (fun bc12 => ?_)
                  · skip
                    refine aw_iinc (q := 105) dX0_nextDifference_102 rfl rfl (by decide) (by omega) ?_
                    refine aw_goto (q := 4) dX0_nextDifference_105 (by decide) ?_
                    refine aw_ls (ls := [some (vR q), some (vI (((0 + (((b i) % 128) * 1)) + (((b (i + 1)) % 128) * 128)) + (((b (i + 2)) % 128) * 16384))), some (vI (3)), some (vI (b (i + 2)))]) ⟨rfl, ⟨rfl, ⟨rfl, ⟨rfl, trivial⟩⟩⟩⟩ ?_
                    refine aw_iload_n (q := 5) dX0_nextDifference_4 rfl rfl rfl ?_
                    refine aw_iconst (q := 6) dX0_nextDifference_5 rfl (by omega) ?_
                    refine aw_ic_ge (t := 108) (q := 9) dX0_nextDifference_6 rfl (by decide) (fun bc13 => ?_) (fun bc13 => ?_)
                    · skip
                      refine aw_aload_n (q := 109) dX0_nextDifference_108 rfl rfl rfl ?_
                      refine aw_iconst (q := 110) dX0_nextDifference_109 rfl (by omega) ?_
                      refine aw_put (q := 113) dX0_nextDifference_110 rfl fp_X0_22 hu_s (Nat.le_of_ble_eq_true rfl) (Or.inl rfl) ?_
                      refine aw_iconst (q := 114) dX0_nextDifference_113 rfl (by omega) ?_
                      exact aw_iret dX0_nextDifference_114 rfl (by decide) (by decide) ⟨_, rfl, rfl, _, _, _, i + 3, rfl, ⟨hu_s, ((hu_n (by omega)).trans ((hu_n (by omega)).trans ((hu_n (by omega)).trans ((hu_n (by omega)).trans hB.2))))⟩, by omega, (Fr_hu (Fr_hu (Fr_hu (Fr_hu Fr_rf (by simp)) (by simp)) (by simp)) (by simp)), Or.inr ⟨dn_3c (by omega) (by omega) (by omega) (by omega), rfl⟩, by omega, by omega, by omega, by omega⟩
                    · skip
                      exact absurd bc13 (by omega)
                  · skip
                    refine aw_aload_n (q := 60) dX0_nextDifference_59 rfl rfl rfl ?_
                    refine aw_aload_n (q := 61) dX0_nextDifference_60 rfl rfl rfl ?_
                    refine aw_get (q := 64) dX0_nextDifference_61 rfl fl_X0_22 hu_s rfl (fun _ => ?_)
                    refine aw_if_eq (t := 79) (q := 67) dX0_nextDifference_64 rfl (by decide) (fun bc14 => ?_) (fun bc14 => ?_)
                    · skip
                      refine aw_iconst (q := 80) dX0_nextDifference_79 rfl (by omega) ?_
                      refine aw_put (q := 83) dX0_nextDifference_80 rfl fp_X0_22 hu_s (Nat.le_of_ble_eq_true rfl) (by first | exact Or.inl rfl | exact Or.inr rfl) ?_
                      refine aw_iload_n (q := 84) dX0_nextDifference_83 rfl rfl rfl ?_
                      refine aw_iconst (q := 85) dX0_nextDifference_84 rfl (by omega) ?_
                      refine aw_maskM 1 2 rfl (q := 86) dX0_nextDifference_85 rfl (by decide) rfl ?_
                      refine aw_if_ne (t := 95) (q := 89) dX0_nextDifference_86 rfl (by decide) (fun bc15 => ?_) (fun bc15 => ?_)
                      · skip
                        refine aw_iload_n (q := 96) dX0_nextDifference_95 rfl rfl rfl ?_
                        refine aw_iconst (q := 97) dX0_nextDifference_96 rfl (by omega) ?_
                        refine aw_shrM 1 2 rfl (q := 98) dX0_nextDifference_97 rfl (by omega) (by omega) (by omega) ?_
                        refine aw_ineg (q := 99) dX0_nextDifference_98 rfl (by omega) ?_
                        refine aw_iconst (q := 100) dX0_nextDifference_99 rfl (by omega) ?_
                        refine aw_isub (q := 101) dX0_nextDifference_100 rfl (by omega) ?_
                        exact aw_iret dX0_nextDifference_101 rfl (by decide) (by decide) ⟨_, rfl, rfl, _, _, _, i + 3, rfl, ⟨hu_s, ((hu_n (by omega)).trans ((hu_n (by omega)).trans ((hu_n (by omega)).trans ((hu_n (by omega)).trans hB.2))))⟩, by omega, (Fr_hu (Fr_hu (Fr_hu (Fr_hu Fr_rf (by simp)) (by simp)) (by simp)) (by simp)), (by by_cases h0 : 0 < b (i + 2); exact Or.inl ⟨(dn_3 (by omega) (by omega) (by omega) (by omega) (by omega)).trans (congrArg (fun z => some (z, i + 3)) (unz_o (by omega) (by assumption))), by omega⟩; exact Or.inr ⟨dn_3n (by omega) (by omega) (by omega) (by omega) h0, rfl⟩), by omega, by omega, by omega, by omega⟩
                      · skip
                        refine aw_iload_n (q := 90) dX0_nextDifference_89 rfl rfl rfl ?_
                        refine aw_iconst (q := 91) dX0_nextDifference_90 rfl (by omega) ?_
                        refine aw_shrM 1 2 rfl (q := 92) dX0_nextDifference_91 rfl (by omega) (by omega) (by omega) ?_
                        refine aw_goto (q := 101) dX0_nextDifference_92 (by decide) ?_
                        exact aw_iret dX0_nextDifference_101 rfl (by decide) (by decide) ⟨_, rfl, rfl, _, _, _, i + 3, rfl, ⟨hu_s, ((hu_n (by omega)).trans ((hu_n (by omega)).trans ((hu_n (by omega)).trans ((hu_n (by omega)).trans hB.2))))⟩, by omega, (Fr_hu (Fr_hu (Fr_hu (Fr_hu Fr_rf (by simp)) (by simp)) (by simp)) (by simp)), (by by_cases h0 : 0 < b (i + 2); exact Or.inl ⟨(dn_3 (by omega) (by omega) (by omega) (by omega) (by omega)).trans (congrArg (fun z => some (z, i + 3)) (unz_e (by omega) (by assumption))), by omega⟩; exact Or.inr ⟨dn_3n (by omega) (by omega) (by omega) (by omega) h0, rfl⟩), by omega, by omega, by omega, by omega⟩
                    · skip
                      refine aw_iload_n (q := 68) dX0_nextDifference_67 rfl rfl rfl ?_
                      refine aw_if_gt (t := 75) (q := 71) dX0_nextDifference_68 rfl (by decide) (fun bc16 => ?_) (fun bc16 => ?_)
                      · skip
                        refine aw_iconst (q := 76) dX0_nextDifference_75 rfl (by omega) ?_
                        refine aw_goto (q := 80) dX0_nextDifference_76 (by decide) ?_
                        refine aw_put (q := 83) dX0_nextDifference_80 rfl fp_X0_22 hu_s (Nat.le_of_ble_eq_true rfl) (by first | exact Or.inl rfl | exact Or.inr rfl) ?_
                        refine aw_iload_n (q := 84) dX0_nextDifference_83 rfl rfl rfl ?_
                        refine aw_iconst (q := 85) dX0_nextDifference_84 rfl (by omega) ?_
                        refine aw_maskM 1 2 rfl (q := 86) dX0_nextDifference_85 rfl (by decide) rfl ?_
                        refine aw_if_ne (t := 95) (q := 89) dX0_nextDifference_86 rfl (by decide) (fun bc17 => ?_) (fun bc17 => ?_)
                        · skip
                          refine aw_iload_n (q := 96) dX0_nextDifference_95 rfl rfl rfl ?_
                          refine aw_iconst (q := 97) dX0_nextDifference_96 rfl (by omega) ?_
                          refine aw_shrM 1 2 rfl (q := 98) dX0_nextDifference_97 rfl (by omega) (by omega) (by omega) ?_
                          refine aw_ineg (q := 99) dX0_nextDifference_98 rfl (by omega) ?_
                          refine aw_iconst (q := 100) dX0_nextDifference_99 rfl (by omega) ?_
                          refine aw_isub (q := 101) dX0_nextDifference_100 rfl (by omega) ?_
                          exact aw_iret dX0_nextDifference_101 rfl (by decide) (by decide) ⟨_, rfl, rfl, _, _, _, i + 3, rfl, ⟨hu_s, ((hu_n (by omega)).trans ((hu_n (by omega)).trans ((hu_n (by omega)).trans ((hu_n (by omega)).trans hB.2))))⟩, by omega, (Fr_hu (Fr_hu (Fr_hu (Fr_hu Fr_rf (by simp)) (by simp)) (by simp)) (by simp)), Or.inl ⟨(dn_3 (by omega) (by omega) (by omega) (by omega) (by omega)).trans (congrArg (fun z => some (z, i + 3)) (unz_o (by omega) (by assumption))), by omega⟩, by omega, by omega, by omega, by omega⟩
                        · skip
                          refine aw_iload_n (q := 90) dX0_nextDifference_89 rfl rfl rfl ?_
                          refine aw_iconst (q := 91) dX0_nextDifference_90 rfl (by omega) ?_
                          refine aw_shrM 1 2 rfl (q := 92) dX0_nextDifference_91 rfl (by omega) (by omega) (by omega) ?_
                          refine aw_goto (q := 101) dX0_nextDifference_92 (by decide) ?_
                          exact aw_iret dX0_nextDifference_101 rfl (by decide) (by decide) ⟨_, rfl, rfl, _, _, _, i + 3, rfl, ⟨hu_s, ((hu_n (by omega)).trans ((hu_n (by omega)).trans ((hu_n (by omega)).trans ((hu_n (by omega)).trans hB.2))))⟩, by omega, (Fr_hu (Fr_hu (Fr_hu (Fr_hu Fr_rf (by simp)) (by simp)) (by simp)) (by simp)), Or.inl ⟨(dn_3 (by omega) (by omega) (by omega) (by omega) (by omega)).trans (congrArg (fun z => some (z, i + 3)) (unz_e (by omega) (by assumption))), by omega⟩, by omega, by omega, by omega, by omega⟩
                      · skip
                        refine aw_iload_n (q := 72) dX0_nextDifference_71 rfl rfl rfl ?_
                        refine aw_if_ne (t := 79) (q := 75) dX0_nextDifference_72 rfl (by decide) (fun bc18 => ?_) (fun bc18 => ?_)
                        · skip
                          refine aw_iconst (q := 80) dX0_nextDifference_79 rfl (by omega) ?_
                          refine aw_put (q := 83) dX0_nextDifference_80 rfl fp_X0_22 hu_s (Nat.le_of_ble_eq_true rfl) (by first | exact Or.inl rfl | exact Or.inr rfl) ?_
                          refine aw_iload_n (q := 84) dX0_nextDifference_83 rfl rfl rfl ?_
                          refine aw_iconst (q := 85) dX0_nextDifference_84 rfl (by omega) ?_
                          refine aw_maskM 1 2 rfl (q := 86) dX0_nextDifference_85 rfl (by decide) rfl ?_
                          refine aw_if_ne (t := 95) (q := 89) dX0_nextDifference_86 rfl (by decide) (fun bc19 => ?_) (fun bc19 => ?_)
                          · skip
                            refine aw_iload_n (q := 96) dX0_nextDifference_95 rfl rfl rfl ?_
                            refine aw_iconst (q := 97) dX0_nextDifference_96 rfl (by omega) ?_
                            refine aw_shrM 1 2 rfl (q := 98) dX0_nextDifference_97 rfl (by omega) (by omega) (by omega) ?_
                            refine aw_ineg (q := 99) dX0_nextDifference_98 rfl (by omega) ?_
                            refine aw_iconst (q := 100) dX0_nextDifference_99 rfl (by omega) ?_
                            refine aw_isub (q := 101) dX0_nextDifference_100 rfl (by omega) ?_
                            exact aw_iret dX0_nextDifference_101 rfl (by decide) (by decide) ⟨_, rfl, rfl, _, _, _, i + 3, rfl, ⟨hu_s, ((hu_n (by omega)).trans ((hu_n (by omega)).trans ((hu_n (by omega)).trans ((hu_n (by omega)).trans hB.2))))⟩, by omega, (Fr_hu (Fr_hu (Fr_hu (Fr_hu Fr_rf (by simp)) (by simp)) (by simp)) (by simp)), (by by_cases h0 : 0 < b (i + 2); exact Or.inl ⟨(dn_3 (by omega) (by omega) (by omega) (by omega) (by omega)).trans (congrArg (fun z => some (z, i + 3)) (unz_o (by omega) (by assumption))), by omega⟩; exact Or.inr ⟨dn_3n (by omega) (by omega) (by omega) (by omega) h0, rfl⟩), by omega, by omega, by omega, by omega⟩
                          · skip
                            refine aw_iload_n (q := 90) dX0_nextDifference_89 rfl rfl rfl ?_
                            refine aw_iconst (q := 91) dX0_nextDifference_90 rfl (by omega) ?_
                            refine aw_shrM 1 2 rfl (q := 92) dX0_nextDifference_91 rfl (by omega) (by omega) (by omega) ?_
                            refine aw_goto (q := 101) dX0_nextDifference_92 (by decide) ?_
                            exact aw_iret dX0_nextDifference_101 rfl (by decide) (by decide) ⟨_, rfl, rfl, _, _, _, i + 3, rfl, ⟨hu_s, ((hu_n (by omega)).trans ((hu_n (by omega)).trans ((hu_n (by omega)).trans ((hu_n (by omega)).trans hB.2))))⟩, by omega, (Fr_hu (Fr_hu (Fr_hu (Fr_hu Fr_rf (by simp)) (by simp)) (by simp)) (by simp)), (by by_cases h0 : 0 < b (i + 2); exact Or.inl ⟨(dn_3 (by omega) (by omega) (by omega) (by omega) (by omega)).trans (congrArg (fun z => some (z, i + 3)) (unz_e (by omega) (by assumption))), by omega⟩; exact Or.inr ⟨dn_3n (by omega) (by omega) (by omega) (by omega) h0, rfl⟩), by omega, by omega, by omega, by omega⟩
                        · skip
                          exact absurd bc18 (by omega)
            · skip
              refine aw_aload_n (q := 60) dX0_nextDifference_59 rfl rfl rfl ?_
              refine aw_aload_n (q := 61) dX0_nextDifference_60 rfl rfl rfl ?_
              refine aw_get (q := 64) dX0_nextDifference_61 rfl fl_X0_22 hu_s rfl (fun _ => ?_)
              refine aw_if_eq (t := 79) (q := 67) dX0_nextDifference_64 rfl (by decide) (fun bc20 => ?_) (fun bc20 => ?_)
              · skip
                refine aw_iconst (q := 80) dX0_nextDifference_79 rfl (by omega) ?_
                refine aw_put (q := 83) dX0_nextDifference_80 rfl fp_X0_22 hu_s (Nat.le_of_ble_eq_true rfl) (by first | exact Or.inl rfl | exact Or.inr rfl) ?_
                refine aw_iload_n (q := 84) dX0_nextDifference_83 rfl rfl rfl ?_
                refine aw_iconst (q := 85) dX0_nextDifference_84 rfl (by omega) ?_
                refine aw_maskM 1 2 rfl (q := 86) dX0_nextDifference_85 rfl (by decide) rfl ?_
                refine aw_if_ne (t := 95) (q := 89) dX0_nextDifference_86 rfl (by decide) (fun bc21 => ?_) (fun bc21 => ?_)
                · skip
                  refine aw_iload_n (q := 96) dX0_nextDifference_95 rfl rfl rfl ?_
                  refine aw_iconst (q := 97) dX0_nextDifference_96 rfl (by omega) ?_
                  refine aw_shrM 1 2 rfl (q := 98) dX0_nextDifference_97 rfl (by omega) (by omega) (by omega) ?_
                  refine aw_ineg (q := 99) dX0_nextDifference_98 rfl (by omega) ?_
                  refine aw_iconst (q := 100) dX0_nextDifference_99 rfl (by omega) ?_
                  refine aw_isub (q := 101) dX0_nextDifference_100 rfl (by omega) ?_
                  exact aw_iret dX0_nextDifference_101 rfl (by decide) (by decide) ⟨_, rfl, rfl, _, _, _, i + 2, rfl, ⟨hu_s, ((hu_n (by omega)).trans ((hu_n (by omega)).trans ((hu_n (by omega)).trans hB.2)))⟩, by omega, (Fr_hu (Fr_hu (Fr_hu Fr_rf (by simp)) (by simp)) (by simp)), (by by_cases h0 : 0 < b (i + 1); exact Or.inl ⟨(dn_2 (by omega) (by omega) (by omega) (by omega)).trans (congrArg (fun z => some (z, i + 2)) (unz_o (by omega) (by assumption))), by omega⟩; exact Or.inr ⟨dn_2n (by omega) (by omega) (by omega) h0, rfl⟩), by omega, by omega, by omega, by omega⟩
                · skip
                  refine aw_iload_n (q := 90) dX0_nextDifference_89 rfl rfl rfl ?_
                  refine aw_iconst (q := 91) dX0_nextDifference_90 rfl (by omega) ?_
                  refine aw_shrM 1 2 rfl (q := 92) dX0_nextDifference_91 rfl (by omega) (by omega) (by omega) ?_
                  refine aw_goto (q := 101) dX0_nextDifference_92 (by decide) ?_
                  exact aw_iret dX0_nextDifference_101 rfl (by decide) (by decide) ⟨_, rfl, rfl, _, _, _, i + 2, rfl, ⟨hu_s, ((hu_n (by omega)).trans ((hu_n (by omega)).trans ((hu_n (by omega)).trans hB.2)))⟩, by omega, (Fr_hu (Fr_hu (Fr_hu Fr_rf (by simp)) (by simp)) (by simp)), (by by_cases h0 : 0 < b (i + 1); exact Or.inl ⟨(dn_2 (by omega) (by omega) (by omega) (by omega)).trans (congrArg (fun z => some (z, i + 2)) (unz_e (by omega) (by assumption))), by omega⟩; exact Or.inr ⟨dn_2n (by omega) (by omega) (by omega) h0, rfl⟩), by omega, by omega, by omega, by omega⟩
              · skip
                refine aw_iload_n (q := 68) dX0_nextDifference_67 rfl rfl rfl ?_
                refine aw_if_gt (t := 75) (q := 71) dX0_nextDifference_68 rfl (by decide) (fun bc22 => ?_) (fun bc22 => ?_)
                · skip
                  refine aw_iconst (q := 76) dX0_nextDifference_75 rfl (by omega) ?_
                  refine aw_goto (q := 80) dX0_nextDifference_76 (by decide) ?_
                  refine aw_put (q := 83) dX0_nextDifference_80 rfl fp_X0_22 hu_s (Nat.le_of_ble_eq_true rfl) (by first | exact Or.inl rfl | exact Or.inr rfl) ?_
                  refine aw_iload_n (q := 84) dX0_nextDifference_83 rfl rfl rfl ?_
                  refine aw_iconst (q := 85) dX0_nextDifference_84 rfl (by omega) ?_
                  refine aw_maskM 1 2 rfl (q := 86) dX0_nextDifference_85 rfl (by decide) rfl ?_
                  refine aw_if_ne (t := 95) (q := 89) dX0_nextDifference_86 rfl (by decide) (fun bc23 => ?_) (fun bc23 => ?_)
                  · skip
                    refine aw_iload_n (q := 96) dX0_nextDifference_95 rfl rfl rfl ?_
                    refine aw_iconst (q := 97) dX0_nextDifference_96 rfl (by omega) ?_
                    refine aw_shrM 1 2 rfl (q := 98) dX0_nextDifference_97 rfl (by omega) (by omega) (by omega) ?_
                    refine aw_ineg (q := 99) dX0_nextDifference_98 rfl (by omega) ?_
                    refine aw_iconst (q := 100) dX0_nextDifference_99 rfl (by omega) ?_
                    refine aw_isub (q := 101) dX0_nextDifference_100 rfl (by omega) ?_
                    exact aw_iret dX0_nextDifference_101 rfl (by decide) (by decide) ⟨_, rfl, rfl, _, _, _, i + 2, rfl, ⟨hu_s, ((hu_n (by omega)).trans ((hu_n (by omega)).trans ((hu_n (by omega)).trans hB.2)))⟩, by omega, (Fr_hu (Fr_hu (Fr_hu Fr_rf (by simp)) (by simp)) (by simp)), Or.inl ⟨(dn_2 (by omega) (by omega) (by omega) (by omega)).trans (congrArg (fun z => some (z, i + 2)) (unz_o (by omega) (by assumption))), by omega⟩, by omega, by omega, by omega, by omega⟩
                  · skip
                    refine aw_iload_n (q := 90) dX0_nextDifference_89 rfl rfl rfl ?_
                    refine aw_iconst (q := 91) dX0_nextDifference_90 rfl (by omega) ?_
                    refine aw_shrM 1 2 rfl (q := 92) dX0_nextDifference_91 rfl (by omega) (by omega) (by omega) ?_
                    refine aw_goto (q := 101) dX0_nextDifference_92 (by decide) ?_
                    exact aw_iret dX0_nextDifference_101 rfl (by decide) (by decide) ⟨_, rfl, rfl, _, _, _, i + 2, rfl, ⟨hu_s, ((hu_n (by omega)).trans ((hu_n (by omega)).trans ((hu_n (by omega)).trans hB.2)))⟩, by omega, (Fr_hu (Fr_hu (Fr_hu Fr_rf (by simp)) (by simp)) (by simp)), Or.inl ⟨(dn_2 (by omega) (by omega) (by omega) (by omega)).trans (congrArg (fun z => some (z, i + 2)) (unz_e (by omega) (by assumption))), by omega⟩, by omega, by omega, by omega, by omega⟩
                · skip
                  refine aw_iload_n (q := 72) dX0_nextDifference_71 rfl rfl rfl ?_
                  refine aw_if_ne (t := 79) (q := 75) dX0_nextDifference_72 rfl (by decide) (fun bc24 => ?_) (fun bc24 => ?_)
                  · skip
                    refine aw_iconst (q := 80) dX0_nextDifference_79 rfl (by omega) ?_
                    refine aw_put (q := 83) dX0_nextDifference_80 rfl fp_X0_22 hu_s (Nat.le_of_ble_eq_true rfl) (by first | exact Or.inl rfl | exact Or.inr rfl) ?_
                    refine aw_iload_n (q := 84) dX0_nextDifference_83 rfl rfl rfl ?_
                    refine aw_iconst (q := 85) dX0_nextDifference_84 rfl (by omega) ?_
                    refine aw_maskM 1 2 rfl (q := 86) dX0_nextDifference_85 rfl (by decide) rfl ?_
                    refine aw_if_ne (t := 95) (q := 89) dX0_nextDifference_86 rfl (by decide) (fun bc25 => ?_) (fun bc25 => ?_)
                    · skip
                      refine aw_iload_n (q := 96) dX0_nextDifference_95 rfl rfl rfl ?_
                      refine aw_iconst (q := 97) dX0_nextDifference_96 rfl (by omega) ?_
                      refine aw_shrM 1 2 rfl (q := 98) dX0_nextDifference_97 rfl (by omega) (by omega) (by omega) ?_
                      refine aw_ineg (q := 99) dX0_nextDifference_98 rfl (by omega) ?_
                      refine aw_iconst (q := 100) dX0_nextDifference_99 rfl (by omega) ?_
                      refine aw_isub (q := 101) dX0_nextDifference_100 rfl (by omega) ?_
                      exact aw_iret dX0_nextDifference_101 rfl (by decide) (by decide) ⟨_, rfl, rfl, _, _, _, i + 2, rfl, ⟨hu_s, ((hu_n (by omega)).trans ((hu_n (by omega)).trans ((hu_n (by omega)).trans hB.2)))⟩, by omega, (Fr_hu (Fr_hu (Fr_hu Fr_rf (by simp)) (by simp)) (by simp)), (by by_cases h0 : 0 < b (i + 1); exact Or.inl ⟨(dn_2 (by omega) (by omega) (by omega) (by omega)).trans (congrArg (fun z => some (z, i + 2)) (unz_o (by omega) (by assumption))), by omega⟩; exact Or.inr ⟨dn_2n (by omega) (by omega) (by omega) h0, rfl⟩), by omega, by omega, by omega, by omega⟩
                    · skip
                      refine aw_iload_n (q := 90) dX0_nextDifference_89 rfl rfl rfl ?_
                      refine aw_iconst (q := 91) dX0_nextDifference_90 rfl (by omega) ?_
                      refine aw_shrM 1 2 rfl (q := 92) dX0_nextDifference_91 rfl (by omega) (by omega) (by omega) ?_
                      refine aw_goto (q := 101) dX0_nextDifference_92 (by decide) ?_
                      exact aw_iret dX0_nextDifference_101 rfl (by decide) (by decide) ⟨_, rfl, rfl, _, _, _, i + 2, rfl, ⟨hu_s, ((hu_n (by omega)).trans ((hu_n (by omega)).trans ((hu_n (by omega)).trans hB.2)))⟩, by omega, (Fr_hu (Fr_hu (Fr_hu Fr_rf (by simp)) (by simp)) (by simp)), (by by_cases h0 : 0 < b (i + 1); exact Or.inl ⟨(dn_2 (by omega) (by omega) (by omega) (by omega)).trans (congrArg (fun z => some (z, i + 2)) (unz_e (by omega) (by assumption))), by omega⟩; exact Or.inr ⟨dn_2n (by omega) (by omega) (by omega) h0, rfl⟩), by omega, by omega, by omega, by omega⟩
                  · skip
                    exact absurd bc24 (by omega)
      · skip
        refine aw_aload_n (q := 60) dX0_nextDifference_59 rfl rfl rfl ?_
        refine aw_aload_n (q := 61) dX0_nextDifference_60 rfl rfl rfl ?_
        refine aw_get (q := 64) dX0_nextDifference_61 rfl fl_X0_22 hu_s rfl (fun _ => ?_)
        refine aw_if_eq (t := 79) (q := 67) dX0_nextDifference_64 rfl (by decide) (fun bc26 => ?_) (fun bc26 => ?_)
        · skip
          refine aw_iconst (q := 80) dX0_nextDifference_79 rfl (by omega) ?_
          refine aw_put (q := 83) dX0_nextDifference_80 rfl fp_X0_22 hu_s (Nat.le_of_ble_eq_true rfl) (by first | exact Or.inl rfl | exact Or.inr rfl) ?_
          refine aw_iload_n (q := 84) dX0_nextDifference_83 rfl rfl rfl ?_
          refine aw_iconst (q := 85) dX0_nextDifference_84 rfl (by omega) ?_
          refine aw_maskM 1 2 rfl (q := 86) dX0_nextDifference_85 rfl (by decide) rfl ?_
          refine aw_if_ne (t := 95) (q := 89) dX0_nextDifference_86 rfl (by decide) (fun bc27 => ?_) (fun bc27 => ?_)
          · skip
            refine aw_iload_n (q := 96) dX0_nextDifference_95 rfl rfl rfl ?_
            refine aw_iconst (q := 97) dX0_nextDifference_96 rfl (by omega) ?_
            refine aw_shrM 1 2 rfl (q := 98) dX0_nextDifference_97 rfl (by omega) (by omega) (by omega) ?_
            refine aw_ineg (q := 99) dX0_nextDifference_98 rfl (by omega) ?_
            refine aw_iconst (q := 100) dX0_nextDifference_99 rfl (by omega) ?_
            refine aw_isub (q := 101) dX0_nextDifference_100 rfl (by omega) ?_
            exact aw_iret dX0_nextDifference_101 rfl (by decide) (by decide) ⟨_, rfl, rfl, _, _, _, i + 1, rfl, ⟨hu_s, ((hu_n (by omega)).trans ((hu_n (by omega)).trans hB.2))⟩, by omega, (Fr_hu (Fr_hu Fr_rf (by simp)) (by simp)), Or.inl ⟨(dn_1 (by omega) (by omega)).trans (congrArg (fun z => some (z, i + 1)) (unz_o (by omega) (by assumption))), by omega⟩, by omega, by omega, by omega, by omega⟩
          · skip
            refine aw_iload_n (q := 90) dX0_nextDifference_89 rfl rfl rfl ?_
            refine aw_iconst (q := 91) dX0_nextDifference_90 rfl (by omega) ?_
            refine aw_shrM 1 2 rfl (q := 92) dX0_nextDifference_91 rfl (by omega) (by omega) (by omega) ?_
            refine aw_goto (q := 101) dX0_nextDifference_92 (by decide) ?_
            exact aw_iret dX0_nextDifference_101 rfl (by decide) (by decide) ⟨_, rfl, rfl, _, _, _, i + 1, rfl, ⟨hu_s, ((hu_n (by omega)).trans ((hu_n (by omega)).trans hB.2))⟩, by omega, (Fr_hu (Fr_hu Fr_rf (by simp)) (by simp)), Or.inl ⟨(dn_1 (by omega) (by omega)).trans (congrArg (fun z => some (z, i + 1)) (unz_e (by omega) (by assumption))), by omega⟩, by omega, by omega, by omega, by omega⟩
        · skip
          refine aw_iload_n (q := 68) dX0_nextDifference_67 rfl rfl rfl ?_
          refine aw_if_gt (t := 75) (q := 71) dX0_nextDifference_68 rfl (by decide) (fun bc28 => ?_) (fun bc28 => ?_)
          · skip
            refine aw_iconst (q := 76) dX0_nextDifference_75 rfl (by omega) ?_
            refine aw_goto (q := 80) dX0_nextDifference_76 (by decide) ?_
            refine aw_put (q := 83) dX0_nextDifference_80 rfl fp_X0_22 hu_s (Nat.le_of_ble_eq_true rfl) (by first | exact Or.inl rfl | exact Or.inr rfl) ?_
            refine aw_iload_n (q := 84) dX0_nextDifference_83 rfl rfl rfl ?_
            refine aw_iconst (q := 85) dX0_nextDifference_84 rfl (by omega) ?_
            refine aw_maskM 1 2 rfl (q := 86) dX0_nextDifference_85 rfl (by decide) rfl ?_
            refine aw_if_ne (t := 95) (q := 89) dX0_nextDifference_86 rfl (by decide) (fun bc29 => ?_) (fun bc29 => ?_)
            · skip
              refine aw_iload_n (q := 96) dX0_nextDifference_95 rfl rfl rfl ?_
              refine aw_iconst (q := 97) dX0_nextDifference_96 rfl (by omega) ?_
              refine aw_shrM 1 2 rfl (q := 98) dX0_nextDifference_97 rfl (by omega) (by omega) (by omega) ?_
              refine aw_ineg (q := 99) dX0_nextDifference_98 rfl (by omega) ?_
              refine aw_iconst (q := 100) dX0_nextDifference_99 rfl (by omega) ?_
              refine aw_isub (q := 101) dX0_nextDifference_100 rfl (by omega) ?_
              exact aw_iret dX0_nextDifference_101 rfl (by decide) (by decide) ⟨_, rfl, rfl, _, _, _, i + 1, rfl, ⟨hu_s, ((hu_n (by omega)).trans ((hu_n (by omega)).trans hB.2))⟩, by omega, (Fr_hu (Fr_hu Fr_rf (by simp)) (by simp)), Or.inl ⟨(dn_1 (by omega) (by omega)).trans (congrArg (fun z => some (z, i + 1)) (unz_o (by omega) (by assumption))), by omega⟩, by omega, by omega, by omega, by omega⟩
            · skip
              refine aw_iload_n (q := 90) dX0_nextDifference_89 rfl rfl rfl ?_
              refine aw_iconst (q := 91) dX0_nextDifference_90 rfl (by omega) ?_
              refine aw_shrM 1 2 rfl (q := 92) dX0_nextDifference_91 rfl (by omega) (by omega) (by omega) ?_
              refine aw_goto (q := 101) dX0_nextDifference_92 (by decide) ?_
              exact aw_iret dX0_nextDifference_101 rfl (by decide) (by decide) ⟨_, rfl, rfl, _, _, _, i + 1, rfl, ⟨hu_s, ((hu_n (by omega)).trans ((hu_n (by omega)).trans hB.2))⟩, by omega, (Fr_hu (Fr_hu Fr_rf (by simp)) (by simp)), Or.inl ⟨(dn_1 (by omega) (by omega)).trans (congrArg (fun z => some (z, i + 1)) (unz_e (by omega) (by assumption))), by omega⟩, by omega, by omega, by omega, by omega⟩
          · skip
            refine aw_iload_n (q := 72) dX0_nextDifference_71 rfl rfl rfl ?_
            refine aw_if_ne (t := 79) (q := 75) dX0_nextDifference_72 rfl (by decide) (fun bc30 => ?_) (fun bc30 => ?_)
            · skip
              exact absurd bc30 (by omega)
            · skip
              refine aw_iconst (q := 76) dX0_nextDifference_75 rfl (by omega) ?_
              refine aw_goto (q := 80) dX0_nextDifference_76 (by decide) ?_
              refine aw_put (q := 83) dX0_nextDifference_80 rfl fp_X0_22 hu_s (Nat.le_of_ble_eq_true rfl) (by first | exact Or.inl rfl | exact Or.inr rfl) ?_
              refine aw_iload_n (q := 84) dX0_nextDifference_83 rfl rfl rfl ?_
              refine aw_iconst (q := 85) dX0_nextDifference_84 rfl (by omega) ?_
              refine aw_maskM 1 2 rfl (q := 86) dX0_nextDifference_85 rfl (by decide) rfl ?_
              refine aw_if_ne (t := 95) (q := 89) dX0_nextDifference_86 rfl (by decide) (fun bc31 => ?_) (fun bc31 => ?_)
              · skip
                refine aw_iload_n (q := 96) dX0_nextDifference_95 rfl rfl rfl ?_
                refine aw_iconst (q := 97) dX0_nextDifference_96 rfl (by omega) ?_
                refine aw_shrM 1 2 rfl (q := 98) dX0_nextDifference_97 rfl (by omega) (by omega) (by omega) ?_
                refine aw_ineg (q := 99) dX0_nextDifference_98 rfl (by omega) ?_
                refine aw_iconst (q := 100) dX0_nextDifference_99 rfl (by omega) ?_
                refine aw_isub (q := 101) dX0_nextDifference_100 rfl (by omega) ?_
                exact aw_iret dX0_nextDifference_101 rfl (by decide) (by decide) ⟨_, rfl, rfl, _, _, _, i + 1, rfl, ⟨hu_s, ((hu_n (by omega)).trans ((hu_n (by omega)).trans hB.2))⟩, by omega, (Fr_hu (Fr_hu Fr_rf (by simp)) (by simp)), Or.inl ⟨(dn_1 (by omega) (by omega)).trans (congrArg (fun z => some (z, i + 1)) (unz_o (by omega) (by assumption))), by omega⟩, by omega, by omega, by omega, by omega⟩
              · skip
                refine aw_iload_n (q := 90) dX0_nextDifference_89 rfl rfl rfl ?_
                refine aw_iconst (q := 91) dX0_nextDifference_90 rfl (by omega) ?_
                refine aw_shrM 1 2 rfl (q := 92) dX0_nextDifference_91 rfl (by omega) (by omega) (by omega) ?_
                refine aw_goto (q := 101) dX0_nextDifference_92 (by decide) ?_
                exact aw_iret dX0_nextDifference_101 rfl (by decide) (by decide) ⟨_, rfl, rfl, _, _, _, i + 1, rfl, ⟨hu_s, ((hu_n (by omega)).trans ((hu_n (by omega)).trans hB.2))⟩, by omega, (Fr_hu (Fr_hu Fr_rf (by simp)) (by simp)), Or.inl ⟨(dn_1 (by omega) (by omega)).trans (congrArg (fun z => some (z, i + 1)) (unz_e (by omega) (by assumption))), by omega⟩, by omega, by omega, by omega, by omega⟩
