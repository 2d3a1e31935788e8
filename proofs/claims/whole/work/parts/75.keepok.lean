/-! ===== What stays true of the class's state, call by call (by hand) ===== -/
theorem ins_all {P : Int → Prop} {f : Nat → Int} {r c : Nat} {s : Int} (h : ∀ p, p < c → P (f p)) (hs : P s) (hr : r ≤ c) : ∀ p, p < c + 1 → P (insF f r c s p) := fun p hp => by
  unfold insF
  by_cases e : p = r
  · rw [if_pos e]; exact hs
  · rw [if_neg e]
    by_cases q : r < p ∧ p ≤ c
    · rw [if_pos q]; exact h (p - 1) (by omega)
    · rw [if_neg q]; exact h p (by omega)
theorem ins_up {f : Nat → Int} {r c : Nat} {s : Int} (hup : ∀ p, p + 1 < c → f p < f (p + 1)) (hr : r ≤ c) (hlt : ∀ p, p < r → f p < s) (hge : r < c → s < f r) : ∀ p, p + 1 < c + 1 → insF f r c s p < insF f r c s (p + 1) := fun p hp => by
  unfold insF
  by_cases e : p = r
  · subst e
    rw [if_pos rfl, if_neg (by omega), if_pos (by omega), Nat.add_sub_cancel]
    exact hge (by omega)
  · rw [if_neg e]
    by_cases e1 : p + 1 = r
    · rw [if_neg (by omega), if_pos e1]
      exact hlt p (by omega)
    · rw [if_neg e1]
      by_cases q : r < p
      · rw [if_pos (by omega), if_pos (by omega), Nat.add_sub_cancel]
        have := hup (p - 1) (by omega)
        rwa [show p - 1 + 1 = p by omega] at this
      · rw [if_neg (by omega), if_neg (by omega)]
        exact hup p (by omega)
theorem ins_lt_all {f : Nat → Int} {c r : Nat} {t : Int} (hup : ∀ p, p + 1 < c → f p < f (p + 1)) (hr : r ≤ c) (h : r = 0 ∨ f (r - 1) < t) : ∀ p, p < r → f p < t := fun p hp => by
  have h1 := h.resolve_left (by omega)
  by_cases e : p = r - 1
  · rw [e]; exact h1
  · have := up_lt hup (show p < r - 1 by omega) (by omega)
    omega
theorem O_ins {v : DVt} {s x y : Int} (hO : dv_O v) (hc : v.1 < 60) (ht : 0 ≤ s ∧ s ≤ 1000000 ∧ -100000 ≤ x ∧ x ≤ 100000 ∧ -100000 ≤ y ∧ y ≤ 100000) (hn : ¬ plHas v s) : dv_O (dvIns v s x y) := by
  obtain ⟨h1, h2, h3, h4, h5, h6⟩ := id hO
  have hL := lowb_le v.2.1 s v.1 0
  have hlt := fun p hp => lowb_lt v.2.1 s v.1 0 p (Nat.zero_le _) hp
  have hge := lowb_ge v.2.1 s v.1 0
  have hr : plc v s ≤ v.1 := by unfold plc; omega
  refine ⟨by show v.1 + 1 ≤ 60; omega, fun p hp => ?_, ins_up h3 hr (fun p hp => hlt p hp) (fun h => ?_), h4, h5, h6⟩
  · have a := ins_all (P := fun z => 0 ≤ z ∧ z ≤ 1000000) (fun p hp => ⟨(h2 p hp).1, (h2 p hp).2.1⟩) ⟨ht.1, ht.2.1⟩ hr p hp
    have b := ins_all (P := fun z => -100000 ≤ z ∧ z ≤ 100000) (f := v.2.2.1) (s := x) (fun p hp => ⟨(h2 p hp).2.2.1, (h2 p hp).2.2.2.1⟩) ⟨ht.2.2.1, ht.2.2.2.1⟩ hr p hp
    have c := ins_all (P := fun z => -100000 ≤ z ∧ z ≤ 100000) (f := v.2.2.2.1) (s := y) (fun p hp => ⟨(h2 p hp).2.2.2.2.1, (h2 p hp).2.2.2.2.2⟩) ⟨ht.2.2.2.2.1, ht.2.2.2.2.2⟩ hr p hp
    exact ⟨a.1, a.2, b.1, b.2, c.1, c.2⟩
  · have h7 := hge (by unfold plc at h; omega)
    have h8 : ¬ v.2.1 (plc v s) = s := fun e => hn ⟨h, e⟩
    unfold plc at h8 ⊢
    omega
theorem O_mk {v : DVt} {s t : Int} (hO : dv_O v) (hc : v.2.2.2.2.2.1 < 8) (hs : 0 ≤ s ∧ s ≤ 1000000) (ht : 0 ≤ t ∧ t ≤ 1000000) (hf : mkFit v s t) : dv_O (dvMk v s t) := by
  obtain ⟨h1, h2, h3, h4, h5, h6⟩ := id hO
  have hL := lowb_le v.2.2.2.2.2.2.1 s v.2.2.2.2.2.1 0
  have hlt := fun p hp => lowb_lt v.2.2.2.2.2.2.1 s v.2.2.2.2.2.1 0 p (Nat.zero_le _) hp
  have hr : mkc v s ≤ v.2.2.2.2.2.1 := by unfold mkc; omega
  have ua := ins_up (s := s) (fun p hp => (h6 p hp).1) hr (fun p hp => hlt p hp) (fun h => (hf.2.resolve_left (by omega)).1)
  have ub := ins_up (s := t) (fun p hp => (h6 p hp).2) hr (ins_lt_all (fun p hp => (h6 p hp).2) hr hf.1) (fun h => (hf.2.resolve_left (by omega)).2)
  refine ⟨h1, h2, h3, by show v.2.2.2.2.2.1 + 1 ≤ 8; omega, fun p hp => ?_, fun p hp => ⟨ua p hp, ub p hp⟩⟩
  have a := ins_all (P := fun z => 0 ≤ z ∧ z ≤ 1000000) (f := v.2.2.2.2.2.2.1) (s := s) (fun p hp => ⟨(h5 p hp).1, (h5 p hp).2.1⟩) hs hr p hp
  have b := ins_all (P := fun z => 0 ≤ z ∧ z ≤ 1000000) (f := v.2.2.2.2.2.2.2) (s := t) (fun p hp => ⟨(h5 p hp).2.2.1, (h5 p hp).2.2.2⟩) ht hr p hp
  exact ⟨a.1, a.2, b.1, b.2⟩
theorem stp_u {b : Nat → Int} {c k : Nat} {z w : Nat × Int × Int × Int} (h : stp b c k z = some w) : k = 0 ∨ z.2.1 < w.2.1 := by
  unfold stp at h
  split at h
  · split at h
    · cases h
    · split at h
      · cases h
      · split at h
        · cases h
        · split at h
          · rename_i h9
            cases h
            exact h9.1
          · cases h
  · cases h
theorem its_p {b : Nat → Int} {c k : Nat} {w : Nat × Int × Int × Int} (h : its b c (k + 1) = some w) : ∃ z, its b c k = some z ∧ stp b c k z = some w := by
  cases e : its b c k with
  | none => rw [its_n e] at h; cases h
  | some z => rw [its_s e] at h; exact ⟨z, rfl, h⟩
theorem O_rd {v : DVt} {b : Nat → Int} {c k : Nat} {f g h : Nat → Int} (hO : dv_O v) (hk : k ≤ 60) (hT : Tells b c k f g h) : dv_O (dvRd v k f g h) := by
  obtain ⟨h1, h2, h3, h4, h5, h6⟩ := id hO
  refine ⟨hk, fun p hp => ?_, fun p hp => ?_, h4, h5, h6⟩
  · obtain ⟨i, e⟩ := hT p hp
    obtain ⟨z, -, e2⟩ := its_p e
    exact stp_b e2
  · have hp9 : p + 1 < k := hp
    obtain ⟨i, e⟩ := hT p (by omega)
    obtain ⟨j, e'⟩ := hT (p + 1) hp9
    rw [its_s e] at e'
    exact (stp_u e').resolve_left (by omega)
section KO
variable {B : Int} {D : Nat} {dv : Nat → DVt} {Fn : Nat} {fv : Nat → FVt} {sv : SVt} {pk fd : Nat × (Nat → Int)} {spd lim : Int}
theorem ko_B (h : COk B D dv Fn fv sv pk fd spd lim) : COk (B + 1) D dv Fn fv sv pk fd spd lim := by
  obtain ⟨hN, hdv, hr⟩ := h
  exact ⟨hN, fun d hd => ⟨(hdv d hd).1, (hdv d hd).2.1, by have := (hdv d hd).2.2; omega⟩, hr⟩
theorem ko_D (h : COk B D dv Fn fv sv pk fd spd lim) (hD : D < 5) : COk (B + 1) (D + 1) dv Fn fv sv pk fd spd lim := ⟨hD, (ko_B h).2⟩
theorem ko_F (h : COk B D dv Fn fv sv pk fd spd lim) (hF : Fn < 4) : COk (B + 1) D dv (Fn + 1) fv sv pk fd spd lim := by
  obtain ⟨a, b, c, r⟩ := ko_B h
  exact ⟨a, b, hF, r⟩
theorem ko_spd {x : Int} (h : COk B D dv Fn fv sv pk fd spd lim) (hx : 1 ≤ x ∧ x ≤ 100) : COk (B + 1) D dv Fn fv sv pk fd x lim := by
  obtain ⟨a, b, c, d, e, f, g, i, j, k, l, m⟩ := ko_B h
  exact ⟨a, b, c, d, e, f, g, i, j, hx.1, hx.2, m⟩
theorem ko_lim {x : Int} (h : COk B D dv Fn fv sv pk fd spd lim) (hx : 1 ≤ x ∧ x ≤ 100000) : COk (B + 1) D dv Fn fv sv pk fd spd x := by
  obtain ⟨a, b, c, d, e, f, g, i, j, k, l, m⟩ := ko_B h
  exact ⟨a, b, c, d, e, f, g, i, j, k, l, hx.1, hx.2⟩
theorem ko_sv {s x y : Int} (h : COk B D dv Fn fv sv pk fd spd lim) (ht : 0 ≤ s ∧ s ≤ 1000000 ∧ -100000 ≤ x ∧ x ≤ 100000 ∧ -100000 ≤ y ∧ y ≤ 100000) (hs : sv.1 < 5) : COk (B + 1) D dv Fn fv (sv.1 + 1, insF sv.2.1 sv.1 sv.1 s, insF sv.2.2.1 sv.1 sv.1 x, insF sv.2.2.2 sv.1 sv.1 y) pk fd spd lim := by
  obtain ⟨a, b, c, d, e, f, g⟩ := ko_B h
  refine ⟨a, b, c, d, hs, fun p hp => ?_, g⟩
  have h1 := ins_all (P := fun z => 0 ≤ z ∧ z ≤ 1000000) (s := s) (fun p hp => ⟨(f p hp).1, (f p hp).2.1⟩) ⟨ht.1, ht.2.1⟩ (Nat.le_refl sv.1) p hp
  have h2 := ins_all (P := fun z => -100000 ≤ z ∧ z ≤ 100000) (f := sv.2.2.1) (s := x) (fun p hp => ⟨(f p hp).2.2.1, (f p hp).2.2.2.1⟩) ⟨ht.2.2.1, ht.2.2.2.1⟩ (Nat.le_refl sv.1) p hp
  have h3 := ins_all (P := fun z => -100000 ≤ z ∧ z ≤ 100000) (f := sv.2.2.2) (s := y) (fun p hp => ⟨(f p hp).2.2.2.2.1, (f p hp).2.2.2.2.2⟩) ⟨ht.2.2.2.2.1, ht.2.2.2.2.2⟩ (Nat.le_refl sv.1) p hp
  exact ⟨h1.1, h1.2, h2.1, h2.2, h3.1, h3.2⟩
theorem ko_fd {x : Int} (h : COk B D dv Fn fv sv pk fd spd lim) (hx : 0 ≤ x ∧ x ≤ 255) (hf : fd.1 < 600) : COk (B + 1) D dv Fn fv sv pk (fd.1 + 1, fu fd.2 fd.1 x) spd lim := by
  obtain ⟨a, b, c, d, e, f, g, i, j, k⟩ := ko_B h
  refine ⟨a, b, c, d, e, f, g, hf, fun p hp => ?_, k⟩
  have hp9 : p < fd.1 + 1 := hp
  show 0 ≤ fu fd.2 fd.1 x p ∧ fu fd.2 fd.1 x p ≤ 255
  by_cases q : p = fd.1
  · subst q; rw [fu_s]; exact hx
  · rw [fu_n q]; exact j p (by omega)
theorem ko_fd0 (h : COk B D dv Fn fv sv pk fd spd lim) : COk (B + 1) D dv Fn fv sv pk (0, fd.2) spd lim := by
  obtain ⟨a, b, c, d, e, f, g, i, j, k⟩ := ko_B h
  exact ⟨a, b, c, d, e, f, g, Nat.zero_le _, fun p hp => absurd hp (Nat.not_lt_zero p), k⟩
theorem ko_pk {m : Nat} {y : Nat → Int} (h : COk B D dv Fn fv sv pk fd spd lim) (hm : m ≤ 600) : COk (B + 1) D dv Fn fv sv (m, y) fd spd lim := by
  obtain ⟨a, b, c, d, e, f, g, r⟩ := ko_B h
  exact ⟨a, b, c, d, e, f, hm, r⟩
theorem ko_fv {j : Nat} {x y : Int} (h : COk B D dv Fn fv sv pk fd spd lim) (hp : (-100000 ≤ x ∧ x ≤ 100000) ∧ -100000 ≤ y ∧ y ≤ 100000) (hc : (fv j).1 < 8) : COk (B + 1) D dv Fn (fvu fv j ((fv j).1 + 1, fu (fv j).2.1 (fv j).1 x, fu (fv j).2.2 (fv j).1 y)) sv pk fd spd lim := by
  obtain ⟨a, b, c, d, r⟩ := ko_B h
  refine ⟨a, b, c, fun k hk => ?_, r⟩
  by_cases q : k = j
  · subst q
    rw [fvu_s]
    refine ⟨hc, fun p hp9 => ?_⟩
    have hp8 : p < (fv k).1 + 1 := hp9
    show -100000 ≤ fu (fv k).2.1 (fv k).1 x p ∧ fu (fv k).2.1 (fv k).1 x p ≤ 100000 ∧ -100000 ≤ fu (fv k).2.2 (fv k).1 y p ∧ fu (fv k).2.2 (fv k).1 y p ≤ 100000
    by_cases e : p = (fv k).1
    · subst e; rw [fu_s, fu_s]; exact ⟨hp.1.1, hp.1.2, hp.2.1, hp.2.2⟩
    · rw [fu_n e, fu_n e]; exact (d k hk).2 p (by omega)
  · rw [fvu_n q]; exact d k hk
theorem ko_dv {j : Nat} {v : DVt} (h : COk B D dv Fn fv sv pk fd spd lim) (hv : dv_O v) (ht : 0 ≤ v.2.2.2.2.1 ∧ v.2.2.2.2.1 ≤ B + 1) : COk (B + 1) D (dvu dv j v) Fn fv sv pk fd spd lim := by
  obtain ⟨a, b, r⟩ := ko_B h
  refine ⟨a, fun k hk => ?_, r⟩
  by_cases q : k = j
  · subst q; rw [dvu_s]; exact ⟨hv, ht⟩
  · rw [dvu_n q]; exact b k hk
end KO
