/-! ===== TrackRowsModel: isIn, in, port (written by m_model6.py) ===== -/
abbrev onM (f g : Nat → Int) (x y : Int) (a b : Nat) : Prop := trn f g x y a b = 0 ∧ (f a - x) * (f b - x) ≤ 0 ∧ (g a - y) * (g b - y) ≤ 0
abbrev pasM (f g : Nat → Int) (x y : Int) (a b : Nat) : Prop := ¬ (y < g a ↔ y < g b) ∧ ((g a < g b ∧ 0 < trn f g x y a b) ∨ (¬ g a < g b ∧ trn f g x y a b < 0))
theorem crs_trn {f g : Nat → Int} {x y : Int} {a b : Nat} : (f a - x) * (g b - y) - (f b - x) * (g a - y) = trn f g x y a b := by
  unfold trn
  generalize f a = p
  generalize f b = q
  generalize g a = r
  generalize g b = s
  simp only [Int.sub_mul, Int.mul_sub]
  have c1 := Int.mul_comm s x
  have c2 := Int.mul_comm r x
  have c3 := Int.mul_comm s p
  have c4 := Int.mul_comm r p
  have c5 := Int.mul_comm y q
  have c6 := Int.mul_comm y p
  have c7 := Int.mul_comm x y
  omega
theorem mul_np {u v : Int} : u * v ≤ 0 ↔ ((u ≤ 0 ∧ 0 ≤ v) ∨ (0 ≤ u ∧ v ≤ 0)) := by
  constructor
  · intro h
    rcases Int.le_total 0 u with a | a
    · rcases Int.le_total 0 v with b | b
      · have h1 := Int.mul_nonneg a b
        have h2 : u * v = 0 := by omega
        rcases Int.mul_eq_zero.mp h2 with e | e <;> omega
      · omega
    · rcases Int.le_total 0 v with b | b
      · omega
      · have h1 := Int.mul_nonneg_of_nonpos_of_nonpos a b
        have h2 : u * v = 0 := by omega
        rcases Int.mul_eq_zero.mp h2 with e | e <;> omega
  · rintro (⟨a, b⟩ | ⟨a, b⟩)
    · exact Int.mul_nonpos_of_nonpos_of_nonneg a b
    · exact Int.mul_nonpos_of_nonneg_of_nonpos a b
theorem onM_iff {f g : Nat → Int} {x y : Int} {a b : Nat} : onM f g x y a b ↔ onS f g x y a b := by
  unfold onM onS bsd
  rw [mul_np, mul_np]
  omega
theorem pasM_iff {f g : Nat → Int} {x y : Int} {a b : Nat} (h : ¬ onM f g x y a b) : pasM f g x y a b ↔ pasS f g x y a b := by
  by_cases e : trn f g x y a b = 0
  · by_cases q : (y < g a ↔ y < g b)
    · unfold pasM pasS; omega
    · exfalso
      apply h
      refine ⟨e, ?_, mul_np.mpr (by omega)⟩
      have c0 := crs_trn (f := f) (g := g) (x := x) (y := y) (a := a) (b := b)
      rw [e] at c0
      generalize f a - x = p at c0 ⊢
      generalize f b - x = r at c0 ⊢
      have q2 : (0 < g a - y ∧ g b - y ≤ 0) ∨ (g a - y ≤ 0 ∧ 0 < g b - y) := by omega
      generalize g a - y = s at c0 q2
      generalize g b - y = t at c0 q2
      have c1 : p * t = r * s := by omega
      rcases q2 with ⟨q3, q4⟩ | ⟨q3, q4⟩
      · apply Int.not_lt.mp
        intro h9
        have c2 : (p * r) * s = (p * p) * t := by rw [Int.mul_assoc, ← c1, ← Int.mul_assoc]
        have c3 := Int.mul_pos h9 q3
        have c4 := Int.mul_nonpos_of_nonneg_of_nonpos (sq_b (e := p) (zabs p) (by unfold zabs; split <;> omega) (by unfold zabs; split <;> omega)).1 q4
        omega
      · apply Int.not_lt.mp
        intro h9
        have c2 : (p * r) * t = (r * r) * s := by rw [Int.mul_comm p r, Int.mul_assoc, c1, ← Int.mul_assoc]
        have c3 := Int.mul_pos h9 q4
        have c4 := Int.mul_nonpos_of_nonneg_of_nonpos (sq_b (e := r) (zabs r) (by unfold zabs; split <;> omega) (by unfold zabs; split <;> omega)).1 q3
        omega
  · unfold pasM pasS; omega
theorem par_c {P Q : Nat → Prop} [DecidablePred P] [DecidablePred Q] : ∀ {c : Nat}, (∀ k, k < c → (P k ↔ Q k)) → par P c = par Q c
  | 0, _ => rfl
  | c + 1, h => by
    have ih := par_c (P := P) (Q := Q) (c := c) (fun k hk => h k (by omega))
    show ((par P c) != (decide (P c))) = ((par Q c) != (decide (Q c)))
    rw [ih, decide_eq_decide.mpr (h c (Nat.lt_succ_self c))]
def OnI (P : Nat → Prop) (k : Nat) (nv : Int) : Prop := (nv = 1 ∧ ∃ j, j < k ∧ P j) ∨ (nv = 0 ∧ ∀ j, j < k → ¬ P j)
theorem on_o {P : Nat → Prop} {k : Nat} {nv : Int} (h : OnI P k nv) (hn : ¬ nv = 0) : OnI P (k + 1) 1 := by
  rcases h with ⟨_, j, h1, h2⟩ | ⟨h1, _⟩
  · exact Or.inl ⟨rfl, j, by omega, h2⟩
  · exact absurd h1 hn
theorem on_n {P : Nat → Prop} {k : Nat} (hp : P k) : OnI P (k + 1) 1 := Or.inl ⟨rfl, k, Nat.lt_succ_self k, hp⟩
theorem on_f {P : Nat → Prop} {k : Nat} {nv : Int} (h : OnI P k nv) (hn : nv = 0) (hp : ¬ P k) : OnI P (k + 1) 0 := by
  rcases h with ⟨h1, _⟩ | ⟨_, h2⟩
  · omega
  · refine Or.inr ⟨rfl, fun j hj => ?_⟩
    rcases Nat.lt_succ_iff_lt_or_eq.mp hj with q | q
    · exact h2 j q
    · rw [q]; exact hp
theorem b2z_01 {b : Bool} : b2z b = 0 ∨ b2z b = 1 := by cases b; exact Or.inl rfl; exact Or.inr rfl
theorem od_x {P : Nat → Prop} [DecidablePred P] {k : Nat} {ov r : Int} (h : ov = b2z (par P k)) (h2 : (P k ∧ ov + r = 1) ∨ (¬ P k ∧ r = ov)) : r = b2z (par P (k + 1)) := by
  rcases h2 with ⟨h3, h4⟩ | ⟨h3, h4⟩
  · rw [par_t h3]
    revert h
    unfold b2z
    cases par P k <;> intro h <;> simp at h ⊢ <;> omega
  · rw [par_f h3, h4, h]
theorem inM_iff {c : Nat} {f g : Nat → Int} {x y nv ov : Int} (h : OnI (fun k => onM f g x y k (nxt c k)) c nv) (h' : ov = b2z (par (fun k => pasM f g x y k (nxt c k)) c)) : inF c f g x y ↔ (3 ≤ c ∧ (¬ nv = 0 ∨ ¬ ov = 0)) := by
  unfold inF
  rcases h with ⟨h1, j, h2, h3⟩ | ⟨h1, h2⟩
  · exact ⟨fun h => ⟨h.1, Or.inl (by omega)⟩, fun h => ⟨h.1, Or.inl ⟨j, h2, onM_iff.mp h3⟩⟩⟩
  · have e := par_c (P := fun k => pasM f g x y k (nxt c k)) (Q := fun k => pasS f g x y k (nxt c k)) (c := c) (fun k hk => pasM_iff (h2 k hk))
    rw [e] at h'
    constructor
    · rintro ⟨a, ⟨k, b, d⟩ | b⟩
      · exact absurd (onM_iff.mpr d) (h2 k b)
      · rw [b] at h'
        exact ⟨a, Or.inr (by rw [h']; decide)⟩
    · rintro ⟨a, b | b⟩
      · exact absurd h1 b
      · refine ⟨a, Or.inr ?_⟩
        cases q : par (fun k => pasS f g x y k (nxt c k)) c
        · rw [q] at h'; exact absurd h' b
        · rfl
theorem tm_nxt {c k : Nat} {kx cx : Int} (hk : kx = (k : Int)) (hc : cx = (c : Int)) (h : k < c) : Int.tmod (kx + 1) cx = ((nxt c k : Nat) : Int) := by
  subst hk
  subst hc
  unfold nxt
  split
  · rw [Int.tmod_eq_of_lt (by omega) (by omega)]; omega
  · rw [show (k : Int) + 1 = (c : Int) by omega, Int.tmod_self]; rfl
theorem nxt_lt {c k : Nat} (h : k < c) : nxt c k < c := by unfold nxt; split <;> omega
set_option maxHeartbeats 40000000 in
set_option maxRecDepth 100000 in
theorem m_X7_isIn {n : Nat} {μ : AH} {th B : Int} {D : Nat} {dv : Nat → DVt} {Fn : Nat} {fv : Nat → FVt} {sv : SVt} {pk fd : Nat × (Nat → Int)} {spd lim : Int} {k9 j : Int} {d p f : Nat} (hk9 : k9 = 60 * (d : Int) + (p : Int)) (hd : d < 5) (hp : p < (dv d).1) (hj : j = (f : Int)) (hf : f < 4) (hm : MM μ th D dv Fn fv sv pk fd spd lim) (hO : COk B D dv Fn fv sv pk fd spd lim) : AMet YX7_isIn [vR 82, vI (k9), vI (j)] n μ (Rt (fun v n' μ' => n' = n ∧ μ' = μ ∧ ∃ z : Int, v = vI z ∧ ((z = 1 ∧ inF (fv f).1 (fv f).2.1 (fv f).2.2 ((dv d).2.2.1 p) ((dv d).2.2.2.1 p)) ∨ (z = 0 ∧ ¬ inF (fv f).1 (fv f).2.1 (fv f).2.2 ((dv d).2.2.1 p) ((dv d).2.2.2.1 p))))) := by
  refine AMet.of (by decide) rfl (Nat.le_of_ble_eq_true rfl) ?_
  obtain ⟨at7, ls7, wy7, c7, t7, F7, G7, H7, k7, a7, b7, e7, X7, Y7, y7, o7, r7, s7, u7, v7, w7, h82, h83, h84, h85, h86, h87, h88, h89, h90, h91, h92, h93, h94, h95, h96, h97, h98, h99, h100, ag1, ag2, ag3, ag4, ag5, ag6, ag7, ag8⟩ := id hm
  obtain ⟨hN, hdv, hFn, hfv, hsn, hsb, hpk, hfd, hfb, hs1, hs2, hl1, hl2⟩ := id hO
  have hcd := ag1 d hd
  have hdo : dv_O (dv d) := (hdv d hd).1
  obtain ⟨hc60, hpb, hup, hk8, hmb, hst⟩ : dv_O (dv d) := id hdo
  have hag := ag2 d p hd hp
  have hbp := hpb p hp
  have hef := ag4 f hf
  have hc8 := (hfv f hf).1
  have hfb9 := (hfv f hf).2
  refine aw_aload_n (q := 1) dX7_isIn_0 rfl rfl rfl ?_
  refine aw_get (q := 4) dX7_isIn_1 rfl fl_X7_41 h82 rfl (fun _ => ?_)
  refine aw_iload_n (q := 5) dX7_isIn_4 rfl rfl rfl ?_
  refine aw_iaload (j := f) (q := 6) dX7_isIn_5 rfl h91 (by omega) (by omega) (fun rx1 => ?_)
  rw [hef]
  refine aw_istore_n (q := 7) dX7_isIn_6 rfl rfl (by decide) ?_
  refine aw_ls (ls := [some (vR 82), some (vI (k9)), some (vI (j)), some (vI (((fv f).1 : Int))), none, none, none, none, none, none, none, none, none, none, none, none, none, none, none, none, none, none, none]) ⟨rfl, ⟨rfl, ⟨rfl, ⟨rfl, trivial⟩⟩⟩⟩ ?_
  refine aw_aload_n (q := 8) dX7_isIn_7 rfl rfl rfl ?_
  refine aw_get (q := 11) dX7_isIn_8 rfl fl_X7_19 h82 rfl (fun _ => ?_)
  refine aw_iload_n (q := 12) dX7_isIn_11 rfl rfl rfl ?_
  refine aw_iaload (j := 60 * d + p) (q := 13) dX7_isIn_12 rfl h86 (by omega) (by omega) (fun rx2 => ?_)
  rw [hag.2.1]
  refine aw_i2l (q := 14) dX7_isIn_13 rfl ?_
  refine aw_lstore (q := 16) dX7_isIn_14 rfl (by decide) ?_
  refine aw_ls (ls := [some (vR 82), some (vI (k9)), some (vI (j)), some (vI (((fv f).1 : Int))), some (vL ((dv d).2.2.1 p)), none, none, none, none, none, none, none, none, none, none, none, none, none, none, none, none, none, none]) ⟨rfl, ⟨rfl, ⟨rfl, ⟨rfl, ⟨rfl, trivial⟩⟩⟩⟩⟩ ?_
  refine aw_aload_n (q := 17) dX7_isIn_16 rfl rfl rfl ?_
  refine aw_get (q := 20) dX7_isIn_17 rfl fl_X7_22 h82 rfl (fun _ => ?_)
  refine aw_iload_n (q := 21) dX7_isIn_20 rfl rfl rfl ?_
  refine aw_iaload (j := 60 * d + p) (q := 22) dX7_isIn_21 rfl h87 (by omega) (by omega) (fun rx3 => ?_)
  rw [hag.2.2]
  refine aw_i2l (q := 23) dX7_isIn_22 rfl ?_
  refine aw_lstore (q := 25) dX7_isIn_23 rfl (by decide) ?_
  refine aw_ls (ls := [some (vR 82), some (vI (k9)), some (vI (j)), some (vI (((fv f).1 : Int))), some (vL ((dv d).2.2.1 p)), none, some (vL ((dv d).2.2.2.1 p)), none, none, none, none, none, none, none, none, none, none, none, none, none, none, none, none]) ⟨rfl, ⟨rfl, ⟨rfl, ⟨rfl, ⟨rfl, ⟨rfl, trivial⟩⟩⟩⟩⟩⟩ ?_
  refine aw_iconst (q := 26) dX7_isIn_25 rfl (by omega) ?_
  refine aw_istore (q := 28) dX7_isIn_26 rfl (by decide) ?_
  refine aw_ls (ls := [some (vR 82), some (vI (k9)), some (vI (j)), some (vI (((fv f).1 : Int))), some (vL ((dv d).2.2.1 p)), none, some (vL ((dv d).2.2.2.1 p)), none, some (vI (0)), none, none, none, none, none, none, none, none, none, none, none, none, none, none]) ⟨rfl, ⟨rfl, ⟨rfl, ⟨rfl, ⟨rfl, ⟨rfl, ⟨rfl, trivial⟩⟩⟩⟩⟩⟩⟩ ?_
  refine aw_iconst (q := 29) dX7_isIn_28 rfl (by omega) ?_
  refine aw_istore (q := 31) dX7_isIn_29 rfl (by decide) ?_
  refine aw_ls (ls := [some (vR 82), some (vI (k9)), some (vI (j)), some (vI (((fv f).1 : Int))), some (vL ((dv d).2.2.1 p)), none, some (vL ((dv d).2.2.2.1 p)), none, some (vI (0)), some (vI (0)), none, none, none, none, none, none, none, none, none, none, none, none, none]) ⟨rfl, ⟨rfl, ⟨rfl, ⟨rfl, ⟨rfl, ⟨rfl, ⟨rfl, ⟨rfl, trivial⟩⟩⟩⟩⟩⟩⟩⟩ ?_
  refine aw_iconst (q := 32) dX7_isIn_31 rfl (by omega) ?_
  refine aw_istore (q := 34) dX7_isIn_32 rfl (by decide) ?_
  refine aw_ls (ls := [some (vR 82), some (vI (k9)), some (vI (j)), some (vI (((fv f).1 : Int))), some (vL ((dv d).2.2.1 p)), none, some (vL ((dv d).2.2.2.1 p)), none, some (vI (0)), some (vI (0)), some (vI (0)), none, none, none, none, none, none, none, none, none, none, none, none]) ⟨rfl, ⟨rfl, ⟨rfl, ⟨rfl, ⟨rfl, ⟨rfl, ⟨rfl, ⟨rfl, ⟨rfl, trivial⟩⟩⟩⟩⟩⟩⟩⟩⟩ ?_
  have lp : ∀ (jlp : Nat) (k : Nat) (ov nv kx : Int), (fv f).1 - k < jlp → kx = (k : Int) → k ≤ (fv f).1 → OnI (fun k => onM (fv f).2.1 (fv f).2.2 ((dv d).2.2.1 p) ((dv d).2.2.2.1 p) k (nxt (fv f).1 k)) k nv → ov = b2z (par (fun k => pasM (fv f).2.1 (fv f).2.2 ((dv d).2.2.1 p) ((dv d).2.2.2.1 p) k (nxt (fv f).1 k)) k) → AW YX7_isIn none (Rt (fun v n' μ' => n' = n ∧ μ' = μ ∧ ∃ z : Int, v = vI z ∧ ((z = 1 ∧ inF (fv f).1 (fv f).2.1 (fv f).2.2 ((dv d).2.2.1 p) ((dv d).2.2.2.1 p)) ∨ (z = 0 ∧ ¬ inF (fv f).1 (fv f).2.1 (fv f).2.2 ((dv d).2.2.1 p) ((dv d).2.2.2.1 p))))) 34 [some (vR 82), some (vI (k9)), some (vI (j)), some (vI (((fv f).1 : Int))), some (vL (((dv d).2.2.1 p))), none, some (vL (((dv d).2.2.2.1 p))), none, some (vI (ov)), some (vI (nv)), some (vI (kx)), none, none, none, none, none, none, none, none, none, none, none, none] [] n μ 0 0 := by
    intro jlp
    induction jlp with
    | zero => intro k ov nv kx hj; exact absurd hj (Nat.not_lt_zero _)
    | succ jlp ihlp =>
      intro k ov nv kx hjlp hkx hkC hon hov
      refine aw_iload (q := 36) dX7_isIn_34 rfl rfl ?_
      refine aw_iload_n (q := 37) dX7_isIn_36 rfl rfl rfl ?_
      refine aw_ic_ge (t := 246) (q := 40) dX7_isIn_37 rfl (by decide) (fun bc1 => ?_) (fun bc1 => ?_)
      · skip
        have hke : k = (fv f).1 := by omega
        rw [hke] at hon hov
        have hiff := inM_iff hon hov
        refine aw_iload_n (q := 247) dX7_isIn_246 rfl rfl rfl ?_
        refine aw_iconst (q := 248) dX7_isIn_247 rfl (by omega) ?_
        refine aw_ic_le (t := 265) (q := 251) dX7_isIn_248 rfl (by decide) (fun bc2 => ?_) (fun bc2 => ?_)
        · skip
          refine aw_iconst (q := 266) dX7_isIn_265 rfl (by omega) ?_
          exact aw_zret dX7_isIn_266 rfl (Or.inl rfl) (by decide) (by decide) ⟨_, rfl, rfl, rfl, _, rfl, Or.inr ⟨rfl, fun h9 => by have h8 := hiff.mp h9; omega⟩⟩
        · skip
          refine aw_iload (q := 253) dX7_isIn_251 rfl rfl ?_
          refine aw_if_ne (t := 261) (q := 256) dX7_isIn_253 rfl (by decide) (fun bc3 => ?_) (fun bc3 => ?_)
          · skip
            refine aw_iconst (q := 262) dX7_isIn_261 rfl (by omega) ?_
            refine aw_goto (q := 266) dX7_isIn_262 (by decide) ?_
            exact aw_zret dX7_isIn_266 rfl (Or.inr rfl) (by decide) (by decide) ⟨_, rfl, rfl, rfl, _, rfl, Or.inl ⟨rfl, hiff.mpr (by omega)⟩⟩
          · skip
            refine aw_iload (q := 258) dX7_isIn_256 rfl rfl ?_
            refine aw_if_eq (t := 265) (q := 261) dX7_isIn_258 rfl (by decide) (fun bc4 => ?_) (fun bc4 => ?_)
            · skip
              refine aw_iconst (q := 266) dX7_isIn_265 rfl (by omega) ?_
              exact aw_zret dX7_isIn_266 rfl (Or.inl rfl) (by decide) (by decide) ⟨_, rfl, rfl, rfl, _, rfl, Or.inr ⟨rfl, fun h9 => by have h8 := hiff.mp h9; omega⟩⟩
            · skip
              refine aw_iconst (q := 262) dX7_isIn_261 rfl (by omega) ?_
              refine aw_goto (q := 266) dX7_isIn_262 (by decide) ?_
              exact aw_zret dX7_isIn_266 rfl (Or.inr rfl) (by decide) (by decide) ⟨_, rfl, rfl, rfl, _, rfl, Or.inl ⟨rfl, hiff.mpr (by omega)⟩⟩
      · skip
        refine aw_bipush (q := 42) dX7_isIn_40 rfl (by decide) (by omega) ?_
        refine aw_iload_n (q := 43) dX7_isIn_42 rfl rfl rfl ?_
        refine aw_imul (q := 44) dX7_isIn_43 rfl (by omega) ?_
        refine aw_iload (q := 46) dX7_isIn_44 rfl rfl ?_
        refine aw_iadd (q := 47) dX7_isIn_46 rfl (by omega) ?_
        refine aw_istore (q := 49) dX7_isIn_47 rfl (by decide) ?_
        refine aw_ls (ls := [some (vR 82), some (vI (k9)), some (vI (j)), some (vI (((fv f).1 : Int))), some (vL (((dv d).2.2.1 p))), none, some (vL (((dv d).2.2.2.1 p))), none, some (vI (ov)), some (vI (nv)), some (vI (kx)), some (vI ((8 * j) + kx)), none, none, none, none, none, none, none, none, none, none, none]) ⟨rfl, ⟨rfl, ⟨rfl, ⟨rfl, ⟨rfl, ⟨rfl, ⟨rfl, ⟨rfl, ⟨rfl, ⟨rfl, trivial⟩⟩⟩⟩⟩⟩⟩⟩⟩⟩ ?_
        refine aw_bipush (q := 51) dX7_isIn_49 rfl (by decide) (by omega) ?_
        refine aw_iload_n (q := 52) dX7_isIn_51 rfl rfl rfl ?_
        refine aw_imul (q := 53) dX7_isIn_52 rfl (by omega) ?_
        refine aw_iload (q := 55) dX7_isIn_53 rfl rfl ?_
        refine aw_iconst (q := 56) dX7_isIn_55 rfl (by omega) ?_
        refine aw_iadd (q := 57) dX7_isIn_56 rfl (by omega) ?_
        refine aw_iload_n (q := 58) dX7_isIn_57 rfl rfl rfl ?_
        refine aw_irem (q := 59) dX7_isIn_58 rfl (by omega) (by rw [tm_nxt hkx rfl (show k < (fv f).1 by omega)]; have := nxt_lt (show k < (fv f).1 by omega); omega) ?_
        have hkc : k < (fv f).1 := by omega
        obtain ⟨e, he⟩ : ∃ e : Nat, nxt (fv f).1 k = e := ⟨_, rfl⟩
        have hec : e < (fv f).1 := by rw [← he]; exact nxt_lt hkc
        rw [tm_nxt hkx rfl hkc, he]
        have ek := ag5 f k hf hkc
        have ee := ag5 f e hf hec
        have bk := hfb9 k hkc
        have be := hfb9 e hec
        have p1 := mul_s (u := (fv f).2.1 k - ((dv d).2.2.1 p)) (w := (fv f).2.2 e - ((dv d).2.2.2.1 p)) 200000 200000 (by omega) (by omega)
        have p2 := mul_s (u := (fv f).2.1 e - ((dv d).2.2.1 p)) (w := (fv f).2.2 k - ((dv d).2.2.2.1 p)) 200000 200000 (by omega) (by omega)
        have p3 := mul_s (u := (fv f).2.1 k - ((dv d).2.2.1 p)) (w := (fv f).2.1 e - ((dv d).2.2.1 p)) 200000 200000 (by omega) (by omega)
        have p4 := mul_s (u := (fv f).2.2 k - ((dv d).2.2.2.1 p)) (w := (fv f).2.2 e - ((dv d).2.2.2.1 p)) 200000 200000 (by omega) (by omega)
        refine aw_iadd (q := 60) dX7_isIn_59 rfl (by omega) ?_
        refine aw_istore (q := 62) dX7_isIn_60 rfl (by decide) ?_
        refine aw_ls (ls := [some (vR 82), some (vI (k9)), some (vI (j)), some (vI (((fv f).1 : Int))), some (vL (((dv d).2.2.1 p))), none, some (vL (((dv d).2.2.2.1 p))), none, some (vI (ov)), some (vI (nv)), some (vI (kx)), some (vI ((8 * j) + kx)), some (vI ((8 * j) + (e : Int))), none, none, none, none, none, none, none, none, none, none]) ⟨rfl, ⟨rfl, ⟨rfl, ⟨rfl, ⟨rfl, ⟨rfl, ⟨rfl, ⟨rfl, ⟨rfl, ⟨rfl, ⟨rfl, trivial⟩⟩⟩⟩⟩⟩⟩⟩⟩⟩⟩ ?_
        refine aw_aload_n (q := 63) dX7_isIn_62 rfl rfl rfl ?_
        refine aw_get (q := 66) dX7_isIn_63 rfl fl_X7_44 h82 rfl (fun _ => ?_)
        refine aw_iload (q := 68) dX7_isIn_66 rfl rfl ?_
        refine aw_iaload (j := 8 * f + k) (q := 69) dX7_isIn_68 rfl h92 (by omega) (by omega) (fun rx5 => ?_)
        rw [ek.1]
        refine aw_i2l (q := 70) dX7_isIn_69 rfl ?_
        refine aw_lload (q := 72) dX7_isIn_70 rfl rfl ?_
        refine aw_lsub (q := 73) dX7_isIn_72 rfl (by omega) ?_
        refine aw_lstore (q := 75) dX7_isIn_73 rfl (by decide) ?_
        refine aw_ls (ls := [some (vR 82), some (vI (k9)), some (vI (j)), some (vI (((fv f).1 : Int))), some (vL (((dv d).2.2.1 p))), none, some (vL (((dv d).2.2.2.1 p))), none, some (vI (ov)), some (vI (nv)), some (vI (kx)), some (vI ((8 * j) + kx)), some (vI ((8 * j) + (e : Int))), some (vL (((fv f).2.1 k) - ((dv d).2.2.1 p))), none, none, none, none, none, none, none, none, none]) ⟨rfl, ⟨rfl, ⟨rfl, ⟨rfl, ⟨rfl, ⟨rfl, ⟨rfl, ⟨rfl, ⟨rfl, ⟨rfl, ⟨rfl, ⟨rfl, trivial⟩⟩⟩⟩⟩⟩⟩⟩⟩⟩⟩⟩ ?_
        refine aw_aload_n (q := 76) dX7_isIn_75 rfl rfl rfl ?_
        refine aw_get (q := 79) dX7_isIn_76 rfl fl_X7_47 h82 rfl (fun _ => ?_)
        refine aw_iload (q := 81) dX7_isIn_79 rfl rfl ?_
        refine aw_iaload (j := 8 * f + k) (q := 82) dX7_isIn_81 rfl h93 (by omega) (by omega) (fun rx6 => ?_)
        rw [ek.2]
        refine aw_i2l (q := 83) dX7_isIn_82 rfl ?_
        refine aw_lload (q := 85) dX7_isIn_83 rfl rfl ?_
        refine aw_lsub (q := 86) dX7_isIn_85 rfl (by omega) ?_
        refine aw_lstore (q := 88) dX7_isIn_86 rfl (by decide) ?_
        refine aw_ls (ls := [some (vR 82), some (vI (k9)), some (vI (j)), some (vI (((fv f).1 : Int))), some (vL (((dv d).2.2.1 p))), none, some (vL (((dv d).2.2.2.1 p))), none, some (vI (ov)), some (vI (nv)), some (vI (kx)), some (vI ((8 * j) + kx)), some (vI ((8 * j) + (e : Int))), some (vL (((fv f).2.1 k) - ((dv d).2.2.1 p))), none, some (vL (((fv f).2.2 k) - ((dv d).2.2.2.1 p))), none, none, none, none, none, none, none]) ⟨rfl, ⟨rfl, ⟨rfl, ⟨rfl, ⟨rfl, ⟨rfl, ⟨rfl, ⟨rfl, ⟨rfl, ⟨rfl, ⟨rfl, ⟨rfl, ⟨rfl, trivial⟩⟩⟩⟩⟩⟩⟩⟩⟩⟩⟩⟩⟩ ?_
        refine aw_aload_n (q := 89) dX7_isIn_88 rfl rfl rfl ?_
        refine aw_get (q := 92) dX7_isIn_89 rfl fl_X7_44 h82 rfl (fun _ => ?_)
        refine aw_iload (q := 94) dX7_isIn_92 rfl rfl ?_
        refine aw_iaload (j := 8 * f + e) (q := 95) dX7_isIn_94 rfl h92 (by omega) (by omega) (fun rx7 => ?_)
        rw [ee.1]
        refine aw_i2l (q := 96) dX7_isIn_95 rfl ?_
        refine aw_lload (q := 98) dX7_isIn_96 rfl rfl ?_
        refine aw_lsub (q := 99) dX7_isIn_98 rfl (by omega) ?_
        refine aw_lstore (q := 101) dX7_isIn_99 rfl (by decide) ?_
        refine aw_ls (ls := [some (vR 82), some (vI (k9)), some (vI (j)), some (vI (((fv f).1 : Int))), some (vL (((dv d).2.2.1 p))), none, some (vL (((dv d).2.2.2.1 p))), none, some (vI (ov)), some (vI (nv)), some (vI (kx)), some (vI ((8 * j) + kx)), some (vI ((8 * j) + (e : Int))), some (vL (((fv f).2.1 k) - ((dv d).2.2.1 p))), none, some (vL (((fv f).2.2 k) - ((dv d).2.2.2.1 p))), none, some (vL (((fv f).2.1 e) - ((dv d).2.2.1 p))), none, none, none, none, none]) ⟨rfl, ⟨rfl, ⟨rfl, ⟨rfl, ⟨rfl, ⟨rfl, ⟨rfl, ⟨rfl, ⟨rfl, ⟨rfl, ⟨rfl, ⟨rfl, ⟨rfl, ⟨rfl, trivial⟩⟩⟩⟩⟩⟩⟩⟩⟩⟩⟩⟩⟩⟩ ?_
        refine aw_aload_n (q := 102) dX7_isIn_101 rfl rfl rfl ?_
        refine aw_get (q := 105) dX7_isIn_102 rfl fl_X7_47 h82 rfl (fun _ => ?_)
        refine aw_iload (q := 107) dX7_isIn_105 rfl rfl ?_
        refine aw_iaload (j := 8 * f + e) (q := 108) dX7_isIn_107 rfl h93 (by omega) (by omega) (fun rx8 => ?_)
        rw [ee.2]
        refine aw_i2l (q := 109) dX7_isIn_108 rfl ?_
        refine aw_lload (q := 111) dX7_isIn_109 rfl rfl ?_
        refine aw_lsub (q := 112) dX7_isIn_111 rfl (by omega) ?_
        refine aw_lstore (q := 114) dX7_isIn_112 rfl (by decide) ?_
        refine aw_ls (ls := [some (vR 82), some (vI (k9)), some (vI (j)), some (vI (((fv f).1 : Int))), some (vL (((dv d).2.2.1 p))), none, some (vL (((dv d).2.2.2.1 p))), none, some (vI (ov)), some (vI (nv)), some (vI (kx)), some (vI ((8 * j) + kx)), some (vI ((8 * j) + (e : Int))), some (vL (((fv f).2.1 k) - ((dv d).2.2.1 p))), none, some (vL (((fv f).2.2 k) - ((dv d).2.2.2.1 p))), none, some (vL (((fv f).2.1 e) - ((dv d).2.2.1 p))), none, some (vL (((fv f).2.2 e) - ((dv d).2.2.2.1 p))), none, none, none]) ⟨rfl, ⟨rfl, ⟨rfl, ⟨rfl, ⟨rfl, ⟨rfl, ⟨rfl, ⟨rfl, ⟨rfl, ⟨rfl, ⟨rfl, ⟨rfl, ⟨rfl, ⟨rfl, ⟨rfl, trivial⟩⟩⟩⟩⟩⟩⟩⟩⟩⟩⟩⟩⟩⟩⟩ ?_
        refine aw_lload (q := 116) dX7_isIn_114 rfl rfl ?_
        refine aw_lload (q := 118) dX7_isIn_116 rfl rfl ?_
        refine aw_lmul (q := 119) dX7_isIn_118 rfl (by omega) ?_
        refine aw_lload (q := 121) dX7_isIn_119 rfl rfl ?_
        refine aw_lload (q := 123) dX7_isIn_121 rfl rfl ?_
        refine aw_lmul (q := 124) dX7_isIn_123 rfl (by omega) ?_
        refine aw_lsub (q := 125) dX7_isIn_124 rfl (by omega) ?_
        refine aw_lstore (q := 127) dX7_isIn_125 rfl (by decide) ?_
        refine aw_ls (ls := [some (vR 82), some (vI (k9)), some (vI (j)), some (vI (((fv f).1 : Int))), some (vL (((dv d).2.2.1 p))), none, some (vL (((dv d).2.2.2.1 p))), none, some (vI (ov)), some (vI (nv)), some (vI (kx)), some (vI ((8 * j) + kx)), some (vI ((8 * j) + (e : Int))), some (vL (((fv f).2.1 k) - ((dv d).2.2.1 p))), none, some (vL (((fv f).2.2 k) - ((dv d).2.2.2.1 p))), none, some (vL (((fv f).2.1 e) - ((dv d).2.2.1 p))), none, some (vL (((fv f).2.2 e) - ((dv d).2.2.2.1 p))), none, some (vL (((((fv f).2.1 k) - ((dv d).2.2.1 p)) * (((fv f).2.2 e) - ((dv d).2.2.2.1 p))) - ((((fv f).2.1 e) - ((dv d).2.2.1 p)) * (((fv f).2.2 k) - ((dv d).2.2.2.1 p))))), none]) ⟨rfl, ⟨rfl, ⟨rfl, ⟨rfl, ⟨rfl, ⟨rfl, ⟨rfl, ⟨rfl, ⟨rfl, ⟨rfl, ⟨rfl, ⟨rfl, ⟨rfl, ⟨rfl, ⟨rfl, ⟨rfl, trivial⟩⟩⟩⟩⟩⟩⟩⟩⟩⟩⟩⟩⟩⟩⟩⟩ ?_
        obtain ⟨cr, hcr⟩ : ∃ cr : Int, ((fv f).2.1 k - ((dv d).2.2.1 p)) * ((fv f).2.2 e - ((dv d).2.2.2.1 p)) - ((fv f).2.1 e - ((dv d).2.2.1 p)) * ((fv f).2.2 k - ((dv d).2.2.2.1 p)) = cr := ⟨_, rfl⟩
        rw [hcr]
        have htr : trn (fv f).2.1 (fv f).2.2 ((dv d).2.2.1 p) ((dv d).2.2.2.1 p) k e = cr := by rw [← crs_trn]; exact hcr
        have hov01 : ov = 0 ∨ ov = 1 := by rw [hov]; exact b2z_01
        have j164 : ∀ nw : Int, OnI (fun k => onM (fv f).2.1 (fv f).2.2 ((dv d).2.2.1 p) ((dv d).2.2.2.1 p) k (nxt (fv f).1 k)) (k + 1) nw → AW YX7_isIn none (Rt (fun v n' μ' => n' = n ∧ μ' = μ ∧ ∃ z : Int, v = vI z ∧ ((z = 1 ∧ inF (fv f).1 (fv f).2.1 (fv f).2.2 ((dv d).2.2.1 p) ((dv d).2.2.2.1 p)) ∨ (z = 0 ∧ ¬ inF (fv f).1 (fv f).2.1 (fv f).2.2 ((dv d).2.2.1 p) ((dv d).2.2.2.1 p))))) 164 [some (vR 82), some (vI (k9)), some (vI (j)), some (vI (((fv f).1 : Int))), some (vL (((dv d).2.2.1 p))), none, some (vL (((dv d).2.2.2.1 p))), none, some (vI (ov)), some (vI (nv)), some (vI (kx)), some (vI (8 * j + kx)), some (vI (8 * j + (e : Int))), some (vL ((fv f).2.1 k - ((dv d).2.2.1 p))), none, some (vL ((fv f).2.2 k - ((dv d).2.2.2.1 p))), none, some (vL ((fv f).2.1 e - ((dv d).2.2.1 p))), none, some (vL ((fv f).2.2 e - ((dv d).2.2.2.1 p))), none, some (vL (cr)), none] [vI nw] n μ 0 0 := by
          intro nw hon9
          refine aw_istore (q := 166) dX7_isIn_164 rfl (by decide) ?_
          refine aw_ls (ls := [some (vR 82), some (vI (k9)), some (vI (j)), some (vI (((fv f).1 : Int))), some (vL (((dv d).2.2.1 p))), none, some (vL (((dv d).2.2.2.1 p))), none, some (vI (ov)), some (vI (nw)), some (vI (kx)), some (vI (8 * j + kx)), some (vI (8 * j + (e : Int))), some (vL ((fv f).2.1 k - ((dv d).2.2.1 p))), none, some (vL ((fv f).2.2 k - ((dv d).2.2.2.1 p))), none, some (vL ((fv f).2.1 e - ((dv d).2.2.1 p))), none, some (vL ((fv f).2.2 e - ((dv d).2.2.2.1 p))), none, some (vL (cr)), none]) ⟨rfl, ⟨rfl, ⟨rfl, ⟨rfl, ⟨rfl, ⟨rfl, ⟨rfl, ⟨rfl, ⟨rfl, ⟨rfl, ⟨rfl, ⟨rfl, ⟨rfl, ⟨rfl, ⟨rfl, ⟨rfl, trivial⟩⟩⟩⟩⟩⟩⟩⟩⟩⟩⟩⟩⟩⟩⟩⟩ ?_
          refine aw_lload (q := 168) dX7_isIn_166 rfl rfl ?_
          refine aw_lconst (a := 0) (q := 169) dX7_isIn_168 rfl rfl (by omega) ?_
          refine aw_lcmp (q := 170) dX7_isIn_169 rfl ?_
          refine aw_if_le (t := 177) (q := 173) dX7_isIn_170 rfl (by decide) (fun bc1 => ?_) (fun bc1 => ?_)
          · skip
            replace bc1 := cmpz_le.mp bc1
            refine aw_iconst (q := 178) dX7_isIn_177 rfl (by omega) ?_
            refine aw_lload (q := 180) dX7_isIn_178 rfl rfl ?_
            refine aw_lconst (a := 0) (q := 181) dX7_isIn_180 rfl rfl (by omega) ?_
            refine aw_lcmp (q := 182) dX7_isIn_181 rfl ?_
            refine aw_if_le (t := 189) (q := 185) dX7_isIn_182 rfl (by decide) (fun bc2 => ?_) (fun bc2 => ?_)
            · skip
              replace bc2 := cmpz_le.mp bc2
              refine aw_iconst (q := 190) dX7_isIn_189 rfl (by omega) ?_
              refine aw_ic_eq (t := 240) (q := 193) dX7_isIn_190 rfl (by decide) (fun bc3 => ?_) (fun bc3 => ?_)
              · skip
                refine aw_ls (ls := [some (vR 82), some (vI (k9)), some (vI (j)), some (vI (((fv f).1 : Int))), some (vL (((dv d).2.2.1 p))), none, some (vL (((dv d).2.2.2.1 p))), none, some (vI (ov)), some (vI (nw)), some (vI (kx)), none, none, none, none, none, none, none, none, none, none, none, none]) ⟨rfl, ⟨rfl, ⟨rfl, ⟨rfl, ⟨rfl, ⟨rfl, ⟨rfl, ⟨rfl, ⟨rfl, trivial⟩⟩⟩⟩⟩⟩⟩⟩⟩ ?_
                refine aw_iinc (q := 243) dX7_isIn_240 rfl rfl (by decide) (by omega) ?_
                refine aw_goto (q := 34) dX7_isIn_243 (by decide) ?_
                refine aw_ls (ls := [some (vR 82), some (vI (k9)), some (vI (j)), some (vI (((fv f).1 : Int))), some (vL (((dv d).2.2.1 p))), none, some (vL (((dv d).2.2.2.1 p))), none, some (vI (ov)), some (vI (nw)), some (vI (kx + 1)), none, none, none, none, none, none, none, none, none, none, none, none]) ⟨rfl, ⟨rfl, ⟨rfl, ⟨rfl, ⟨rfl, ⟨rfl, ⟨rfl, ⟨rfl, ⟨rfl, trivial⟩⟩⟩⟩⟩⟩⟩⟩⟩ ?_
                exact ihlp (k + 1) _ _ _ (by omega) (by omega) (by omega) hon9 (by first | exact od_x (P := (fun k => pasM (fv f).2.1 (fv f).2.2 ((dv d).2.2.1 p) ((dv d).2.2.2.1 p) k (nxt (fv f).1 k))) hov (Or.inl ⟨by show pasM (fv f).2.1 (fv f).2.2 ((dv d).2.2.1 p) ((dv d).2.2.2.1 p) k (nxt (fv f).1 k); rw [he]; unfold pasM; rw [htr]; omega, by omega⟩) | exact od_x (P := (fun k => pasM (fv f).2.1 (fv f).2.2 ((dv d).2.2.1 p) ((dv d).2.2.2.1 p) k (nxt (fv f).1 k))) hov (Or.inr ⟨fun h9 => by have h8 : pasM (fv f).2.1 (fv f).2.2 ((dv d).2.2.1 p) ((dv d).2.2.2.1 p) k (nxt (fv f).1 k) := h9; rw [he] at h8; unfold pasM at h8; rw [htr] at h8; omega, by omega⟩))
              · skip
                omega
            · skip
              replace bc2 := mt cmpz_le.mpr bc2
              refine aw_iconst (q := 186) dX7_isIn_185 rfl (by omega) ?_
              refine aw_goto (q := 190) dX7_isIn_186 (by decide) ?_
              refine aw_ic_eq (t := 240) (q := 193) dX7_isIn_190 rfl (by decide) (fun bc4 => ?_) (fun bc4 => ?_)
              · skip
                omega
              · skip
                refine aw_iload (q := 195) dX7_isIn_193 rfl rfl ?_
                refine aw_lload (q := 197) dX7_isIn_195 rfl rfl ?_
                refine aw_lload (q := 199) dX7_isIn_197 rfl rfl ?_
                refine aw_lcmp (q := 200) dX7_isIn_199 rfl ?_
                refine aw_if_le (t := 218) (q := 203) dX7_isIn_200 rfl (by decide) (fun bc5 => ?_) (fun bc5 => ?_)
                · skip
                  replace bc5 := cmpz_le.mp bc5
                  refine aw_lload (q := 220) dX7_isIn_218 rfl rfl ?_
                  refine aw_lconst (a := 0) (q := 221) dX7_isIn_220 rfl rfl (by omega) ?_
                  refine aw_lcmp (q := 222) dX7_isIn_221 rfl ?_
                  refine aw_if_ge (t := 229) (q := 225) dX7_isIn_222 rfl (by decide) (fun bc6 => ?_) (fun bc6 => ?_)
                  · skip
                    replace bc6 := cmpz_ge.mp bc6
                    refine aw_iconst (q := 230) dX7_isIn_229 rfl (by omega) ?_
                    refine aw_ic_eq (t := 237) (q := 233) dX7_isIn_230 rfl (by decide) (fun bc7 => ?_) (fun bc7 => ?_)
                    · skip
                      refine aw_iconst (q := 238) dX7_isIn_237 rfl (by omega) ?_
                      refine aw_istore (q := 240) dX7_isIn_238 rfl (by decide) ?_
                      refine aw_ls (ls := [some (vR 82), some (vI (k9)), some (vI (j)), some (vI (((fv f).1 : Int))), some (vL (((dv d).2.2.1 p))), none, some (vL (((dv d).2.2.2.1 p))), none, some (vI (0)), some (vI (nw)), some (vI (kx)), none, none, none, none, none, none, none, none, none, none, none, none]) ⟨rfl, ⟨rfl, ⟨rfl, ⟨rfl, ⟨rfl, ⟨rfl, ⟨rfl, ⟨rfl, ⟨rfl, trivial⟩⟩⟩⟩⟩⟩⟩⟩⟩ ?_
                      refine aw_iinc (q := 243) dX7_isIn_240 rfl rfl (by decide) (by omega) ?_
                      refine aw_goto (q := 34) dX7_isIn_243 (by decide) ?_
                      refine aw_ls (ls := [some (vR 82), some (vI (k9)), some (vI (j)), some (vI (((fv f).1 : Int))), some (vL (((dv d).2.2.1 p))), none, some (vL (((dv d).2.2.2.1 p))), none, some (vI (0)), some (vI (nw)), some (vI (kx + 1)), none, none, none, none, none, none, none, none, none, none, none, none]) ⟨rfl, ⟨rfl, ⟨rfl, ⟨rfl, ⟨rfl, ⟨rfl, ⟨rfl, ⟨rfl, ⟨rfl, trivial⟩⟩⟩⟩⟩⟩⟩⟩⟩ ?_
                      exact ihlp (k + 1) _ _ _ (by omega) (by omega) (by omega) hon9 (by first | exact od_x (P := (fun k => pasM (fv f).2.1 (fv f).2.2 ((dv d).2.2.1 p) ((dv d).2.2.2.1 p) k (nxt (fv f).1 k))) hov (Or.inl ⟨by show pasM (fv f).2.1 (fv f).2.2 ((dv d).2.2.1 p) ((dv d).2.2.2.1 p) k (nxt (fv f).1 k); rw [he]; unfold pasM; rw [htr]; omega, by omega⟩) | exact od_x (P := (fun k => pasM (fv f).2.1 (fv f).2.2 ((dv d).2.2.1 p) ((dv d).2.2.2.1 p) k (nxt (fv f).1 k))) hov (Or.inr ⟨fun h9 => by have h8 : pasM (fv f).2.1 (fv f).2.2 ((dv d).2.2.1 p) ((dv d).2.2.2.1 p) k (nxt (fv f).1 k) := h9; rw [he] at h8; unfold pasM at h8; rw [htr] at h8; omega, by omega⟩))
                    · skip
                      refine aw_iconst (q := 234) dX7_isIn_233 rfl (by omega) ?_
                      refine aw_goto (q := 238) dX7_isIn_234 (by decide) ?_
                      refine aw_istore (q := 240) dX7_isIn_238 rfl (by decide) ?_
                      refine aw_ls (ls := [some (vR 82), some (vI (k9)), some (vI (j)), some (vI (((fv f).1 : Int))), some (vL (((dv d).2.2.1 p))), none, some (vL (((dv d).2.2.2.1 p))), none, some (vI (1)), some (vI (nw)), some (vI (kx)), none, none, none, none, none, none, none, none, none, none, none, none]) ⟨rfl, ⟨rfl, ⟨rfl, ⟨rfl, ⟨rfl, ⟨rfl, ⟨rfl, ⟨rfl, ⟨rfl, trivial⟩⟩⟩⟩⟩⟩⟩⟩⟩ ?_
                      refine aw_iinc (q := 243) dX7_isIn_240 rfl rfl (by decide) (by omega) ?_
                      refine aw_goto (q := 34) dX7_isIn_243 (by decide) ?_
                      refine aw_ls (ls := [some (vR 82), some (vI (k9)), some (vI (j)), some (vI (((fv f).1 : Int))), some (vL (((dv d).2.2.1 p))), none, some (vL (((dv d).2.2.2.1 p))), none, some (vI (1)), some (vI (nw)), some (vI (kx + 1)), none, none, none, none, none, none, none, none, none, none, none, none]) ⟨rfl, ⟨rfl, ⟨rfl, ⟨rfl, ⟨rfl, ⟨rfl, ⟨rfl, ⟨rfl, ⟨rfl, trivial⟩⟩⟩⟩⟩⟩⟩⟩⟩ ?_
                      exact ihlp (k + 1) _ _ _ (by omega) (by omega) (by omega) hon9 (by first | exact od_x (P := (fun k => pasM (fv f).2.1 (fv f).2.2 ((dv d).2.2.1 p) ((dv d).2.2.2.1 p) k (nxt (fv f).1 k))) hov (Or.inl ⟨by show pasM (fv f).2.1 (fv f).2.2 ((dv d).2.2.1 p) ((dv d).2.2.2.1 p) k (nxt (fv f).1 k); rw [he]; unfold pasM; rw [htr]; omega, by omega⟩) | exact od_x (P := (fun k => pasM (fv f).2.1 (fv f).2.2 ((dv d).2.2.1 p) ((dv d).2.2.2.1 p) k (nxt (fv f).1 k))) hov (Or.inr ⟨fun h9 => by have h8 : pasM (fv f).2.1 (fv f).2.2 ((dv d).2.2.1 p) ((dv d).2.2.2.1 p) k (nxt (fv f).1 k) := h9; rw [he] at h8; unfold pasM at h8; rw [htr] at h8; omega, by omega⟩))
                  · skip
                    replace bc6 := mt cmpz_ge.mpr bc6
                    refine aw_iconst (q := 226) dX7_isIn_225 rfl (by omega) ?_
                    refine aw_goto (q := 230) dX7_isIn_226 (by decide) ?_
                    refine aw_ic_eq (t := 237) (q := 233) dX7_isIn_230 rfl (by decide) (fun bc8 => ?_) (fun bc8 => ?_)
                    · skip
                      refine aw_iconst (q := 238) dX7_isIn_237 rfl (by omega) ?_
                      refine aw_istore (q := 240) dX7_isIn_238 rfl (by decide) ?_
                      refine aw_ls (ls := [some (vR 82), some (vI (k9)), some (vI (j)), some (vI (((fv f).1 : Int))), some (vL (((dv d).2.2.1 p))), none, some (vL (((dv d).2.2.2.1 p))), none, some (vI (0)), some (vI (nw)), some (vI (kx)), none, none, none, none, none, none, none, none, none, none, none, none]) ⟨rfl, ⟨rfl, ⟨rfl, ⟨rfl, ⟨rfl, ⟨rfl, ⟨rfl, ⟨rfl, ⟨rfl, trivial⟩⟩⟩⟩⟩⟩⟩⟩⟩ ?_
                      refine aw_iinc (q := 243) dX7_isIn_240 rfl rfl (by decide) (by omega) ?_
                      refine aw_goto (q := 34) dX7_isIn_243 (by decide) ?_
                      refine aw_ls (ls := [some (vR 82), some (vI (k9)), some (vI (j)), some (vI (((fv f).1 : Int))), some (vL (((dv d).2.2.1 p))), none, some (vL (((dv d).2.2.2.1 p))), none, some (vI (0)), some (vI (nw)), some (vI (kx + 1)), none, none, none, none, none, none, none, none, none, none, none, none]) ⟨rfl, ⟨rfl, ⟨rfl, ⟨rfl, ⟨rfl, ⟨rfl, ⟨rfl, ⟨rfl, ⟨rfl, trivial⟩⟩⟩⟩⟩⟩⟩⟩⟩ ?_
                      exact ihlp (k + 1) _ _ _ (by omega) (by omega) (by omega) hon9 (by first | exact od_x (P := (fun k => pasM (fv f).2.1 (fv f).2.2 ((dv d).2.2.1 p) ((dv d).2.2.2.1 p) k (nxt (fv f).1 k))) hov (Or.inl ⟨by show pasM (fv f).2.1 (fv f).2.2 ((dv d).2.2.1 p) ((dv d).2.2.2.1 p) k (nxt (fv f).1 k); rw [he]; unfold pasM; rw [htr]; omega, by omega⟩) | exact od_x (P := (fun k => pasM (fv f).2.1 (fv f).2.2 ((dv d).2.2.1 p) ((dv d).2.2.2.1 p) k (nxt (fv f).1 k))) hov (Or.inr ⟨fun h9 => by have h8 : pasM (fv f).2.1 (fv f).2.2 ((dv d).2.2.1 p) ((dv d).2.2.2.1 p) k (nxt (fv f).1 k) := h9; rw [he] at h8; unfold pasM at h8; rw [htr] at h8; omega, by omega⟩))
                    · skip
                      refine aw_iconst (q := 234) dX7_isIn_233 rfl (by omega) ?_
                      refine aw_goto (q := 238) dX7_isIn_234 (by decide) ?_
                      refine aw_istore (q := 240) dX7_isIn_238 rfl (by decide) ?_
                      refine aw_ls (ls := [some (vR 82), some (vI (k9)), some (vI (j)), some (vI (((fv f).1 : Int))), some (vL (((dv d).2.2.1 p))), none, some (vL (((dv d).2.2.2.1 p))), none, some (vI (1)), some (vI (nw)), some (vI (kx)), none, none, none, none, none, none, none, none, none, none, none, none]) ⟨rfl, ⟨rfl, ⟨rfl, ⟨rfl, ⟨rfl, ⟨rfl, ⟨rfl, ⟨rfl, ⟨rfl, trivial⟩⟩⟩⟩⟩⟩⟩⟩⟩ ?_
                      refine aw_iinc (q := 243) dX7_isIn_240 rfl rfl (by decide) (by omega) ?_
                      refine aw_goto (q := 34) dX7_isIn_243 (by decide) ?_
                      refine aw_ls (ls := [some (vR 82), some (vI (k9)), some (vI (j)), some (vI (((fv f).1 : Int))), some (vL (((dv d).2.2.1 p))), none, some (vL (((dv d).2.2.2.1 p))), none, some (vI (1)), some (vI (nw)), some (vI (kx + 1)), none, none, none, none, none, none, none, none, none, none, none, none]) ⟨rfl, ⟨rfl, ⟨rfl, ⟨rfl, ⟨rfl, ⟨rfl, ⟨rfl, ⟨rfl, ⟨rfl, trivial⟩⟩⟩⟩⟩⟩⟩⟩⟩ ?_
                      exact ihlp (k + 1) _ _ _ (by omega) (by omega) (by omega) hon9 (by first | exact od_x (P := (fun k => pasM (fv f).2.1 (fv f).2.2 ((dv d).2.2.1 p) ((dv d).2.2.2.1 p) k (nxt (fv f).1 k))) hov (Or.inl ⟨by show pasM (fv f).2.1 (fv f).2.2 ((dv d).2.2.1 p) ((dv d).2.2.2.1 p) k (nxt (fv f).1 k); rw [he]; unfold pasM; rw [htr]; omega, by omega⟩) | exact od_x (P := (fun k => pasM (fv f).2.1 (fv f).2.2 ((dv d).2.2.1 p) ((dv d).2.2.2.1 p) k (nxt (fv f).1 k))) hov (Or.inr ⟨fun h9 => by have h8 : pasM (fv f).2.1 (fv f).2.2 ((dv d).2.2.1 p) ((dv d).2.2.2.1 p) k (nxt (fv f).1 k) := h9; rw [he] at h8; unfold pasM at h8; rw [htr] at h8; omega, by omega⟩))
                · skip
                  replace bc5 := mt cmpz_le.mpr bc5
                  refine aw_lload (q := 205) dX7_isIn_203 rfl rfl ?_
                  refine aw_lconst (a := 0) (q := 206) dX7_isIn_205 rfl rfl (by omega) ?_
                  refine aw_lcmp (q := 207) dX7_isIn_206 rfl ?_
                  refine aw_if_le (t := 214) (q := 210) dX7_isIn_207 rfl (by decide) (fun bc9 => ?_) (fun bc9 => ?_)
                  · skip
                    replace bc9 := cmpz_le.mp bc9
                    refine aw_iconst (q := 215) dX7_isIn_214 rfl (by omega) ?_
                    refine aw_goto (q := 230) dX7_isIn_215 (by decide) ?_
                    refine aw_ic_eq (t := 237) (q := 233) dX7_isIn_230 rfl (by decide) (fun bc10 => ?_) (fun bc10 => ?_)
                    · skip
                      refine aw_iconst (q := 238) dX7_isIn_237 rfl (by omega) ?_
                      refine aw_istore (q := 240) dX7_isIn_238 rfl (by decide) ?_
                      refine aw_ls (ls := [some (vR 82), some (vI (k9)), some (vI (j)), some (vI (((fv f).1 : Int))), some (vL (((dv d).2.2.1 p))), none, some (vL (((dv d).2.2.2.1 p))), none, some (vI (0)), some (vI (nw)), some (vI (kx)), none, none, none, none, none, none, none, none, none, none, none, none]) ⟨rfl, ⟨rfl, ⟨rfl, ⟨rfl, ⟨rfl, ⟨rfl, ⟨rfl, ⟨rfl, ⟨rfl, trivial⟩⟩⟩⟩⟩⟩⟩⟩⟩ ?_
                      refine aw_iinc (q := 243) dX7_isIn_240 rfl rfl (by decide) (by omega) ?_
                      refine aw_goto (q := 34) dX7_isIn_243 (by decide) ?_
                      refine aw_ls (ls := [some (vR 82), some (vI (k9)), some (vI (j)), some (vI (((fv f).1 : Int))), some (vL (((dv d).2.2.1 p))), none, some (vL (((dv d).2.2.2.1 p))), none, some (vI (0)), some (vI (nw)), some (vI (kx + 1)), none, none, none, none, none, none, none, none, none, none, none, none]) ⟨rfl, ⟨rfl, ⟨rfl, ⟨rfl, ⟨rfl, ⟨rfl, ⟨rfl, ⟨rfl, ⟨rfl, trivial⟩⟩⟩⟩⟩⟩⟩⟩⟩ ?_
                      exact ihlp (k + 1) _ _ _ (by omega) (by omega) (by omega) hon9 (by first | exact od_x (P := (fun k => pasM (fv f).2.1 (fv f).2.2 ((dv d).2.2.1 p) ((dv d).2.2.2.1 p) k (nxt (fv f).1 k))) hov (Or.inl ⟨by show pasM (fv f).2.1 (fv f).2.2 ((dv d).2.2.1 p) ((dv d).2.2.2.1 p) k (nxt (fv f).1 k); rw [he]; unfold pasM; rw [htr]; omega, by omega⟩) | exact od_x (P := (fun k => pasM (fv f).2.1 (fv f).2.2 ((dv d).2.2.1 p) ((dv d).2.2.2.1 p) k (nxt (fv f).1 k))) hov (Or.inr ⟨fun h9 => by have h8 : pasM (fv f).2.1 (fv f).2.2 ((dv d).2.2.1 p) ((dv d).2.2.2.1 p) k (nxt (fv f).1 k) := h9; rw [he] at h8; unfold pasM at h8; rw [htr] at h8; omega, by omega⟩))
                    · skip
                      refine aw_iconst (q := 234) dX7_isIn_233 rfl (by omega) ?_
                      refine aw_goto (q := 238) dX7_isIn_234 (by decide) ?_
                      refine aw_istore (q := 240) dX7_isIn_238 rfl (by decide) ?_
                      refine aw_ls (ls := [some (vR 82), some (vI (k9)), some (vI (j)), some (vI (((fv f).1 : Int))), some (vL (((dv d).2.2.1 p))), none, some (vL (((dv d).2.2.2.1 p))), none, some (vI (1)), some (vI (nw)), some (vI (kx)), none, none, none, none, none, none, none, none, none, none, none, none]) ⟨rfl, ⟨rfl, ⟨rfl, ⟨rfl, ⟨rfl, ⟨rfl, ⟨rfl, ⟨rfl, ⟨rfl, trivial⟩⟩⟩⟩⟩⟩⟩⟩⟩ ?_
                      refine aw_iinc (q := 243) dX7_isIn_240 rfl rfl (by decide) (by omega) ?_
                      refine aw_goto (q := 34) dX7_isIn_243 (by decide) ?_
                      refine aw_ls (ls := [some (vR 82), some (vI (k9)), some (vI (j)), some (vI (((fv f).1 : Int))), some (vL (((dv d).2.2.1 p))), none, some (vL (((dv d).2.2.2.1 p))), none, some (vI (1)), some (vI (nw)), some (vI (kx + 1)), none, none, none, none, none, none, none, none, none, none, none, none]) ⟨rfl, ⟨rfl, ⟨rfl, ⟨rfl, ⟨rfl, ⟨rfl, ⟨rfl, ⟨rfl, ⟨rfl, trivial⟩⟩⟩⟩⟩⟩⟩⟩⟩ ?_
                      exact ihlp (k + 1) _ _ _ (by omega) (by omega) (by omega) hon9 (by first | exact od_x (P := (fun k => pasM (fv f).2.1 (fv f).2.2 ((dv d).2.2.1 p) ((dv d).2.2.2.1 p) k (nxt (fv f).1 k))) hov (Or.inl ⟨by show pasM (fv f).2.1 (fv f).2.2 ((dv d).2.2.1 p) ((dv d).2.2.2.1 p) k (nxt (fv f).1 k); rw [he]; unfold pasM; rw [htr]; omega, by omega⟩) | exact od_x (P := (fun k => pasM (fv f).2.1 (fv f).2.2 ((dv d).2.2.1 p) ((dv d).2.2.2.1 p) k (nxt (fv f).1 k))) hov (Or.inr ⟨fun h9 => by have h8 : pasM (fv f).2.1 (fv f).2.2 ((dv d).2.2.1 p) ((dv d).2.2.2.1 p) k (nxt (fv f).1 k) := h9; rw [he] at h8; unfold pasM at h8; rw [htr] at h8; omega, by omega⟩))
                  · skip
                    replace bc9 := mt cmpz_le.mpr bc9
                    refine aw_iconst (q := 211) dX7_isIn_210 rfl (by omega) ?_
                    refine aw_goto (q := 230) dX7_isIn_211 (by decide) ?_
                    refine aw_ic_eq (t := 237) (q := 233) dX7_isIn_230 rfl (by decide) (fun bc11 => ?_) (fun bc11 => ?_)
                    · skip
                      refine aw_iconst (q := 238) dX7_isIn_237 rfl (by omega) ?_
                      refine aw_istore (q := 240) dX7_isIn_238 rfl (by decide) ?_
                      refine aw_ls (ls := [some (vR 82), some (vI (k9)), some (vI (j)), some (vI (((fv f).1 : Int))), some (vL (((dv d).2.2.1 p))), none, some (vL (((dv d).2.2.2.1 p))), none, some (vI (0)), some (vI (nw)), some (vI (kx)), none, none, none, none, none, none, none, none, none, none, none, none]) ⟨rfl, ⟨rfl, ⟨rfl, ⟨rfl, ⟨rfl, ⟨rfl, ⟨rfl, ⟨rfl, ⟨rfl, trivial⟩⟩⟩⟩⟩⟩⟩⟩⟩ ?_
                      refine aw_iinc (q := 243) dX7_isIn_240 rfl rfl (by decide) (by omega) ?_
                      refine aw_goto (q := 34) dX7_isIn_243 (by decide) ?_
                      refine aw_ls (ls := [some (vR 82), some (vI (k9)), some (vI (j)), some (vI (((fv f).1 : Int))), some (vL (((dv d).2.2.1 p))), none, some (vL (((dv d).2.2.2.1 p))), none, some (vI (0)), some (vI (nw)), some (vI (kx + 1)), none, none, none, none, none, none, none, none, none, none, none, none]) ⟨rfl, ⟨rfl, ⟨rfl, ⟨rfl, ⟨rfl, ⟨rfl, ⟨rfl, ⟨rfl, ⟨rfl, trivial⟩⟩⟩⟩⟩⟩⟩⟩⟩ ?_
                      exact ihlp (k + 1) _ _ _ (by omega) (by omega) (by omega) hon9 (by first | exact od_x (P := (fun k => pasM (fv f).2.1 (fv f).2.2 ((dv d).2.2.1 p) ((dv d).2.2.2.1 p) k (nxt (fv f).1 k))) hov (Or.inl ⟨by show pasM (fv f).2.1 (fv f).2.2 ((dv d).2.2.1 p) ((dv d).2.2.2.1 p) k (nxt (fv f).1 k); rw [he]; unfold pasM; rw [htr]; omega, by omega⟩) | exact od_x (P := (fun k => pasM (fv f).2.1 (fv f).2.2 ((dv d).2.2.1 p) ((dv d).2.2.2.1 p) k (nxt (fv f).1 k))) hov (Or.inr ⟨fun h9 => by have h8 : pasM (fv f).2.1 (fv f).2.2 ((dv d).2.2.1 p) ((dv d).2.2.2.1 p) k (nxt (fv f).1 k) := h9; rw [he] at h8; unfold pasM at h8; rw [htr] at h8; omega, by omega⟩))
                    · skip
                      refine aw_iconst (q := 234) dX7_isIn_233 rfl (by omega) ?_
                      refine aw_goto (q := 238) dX7_isIn_234 (by decide) ?_
                      refine aw_istore (q := 240) dX7_isIn_238 rfl (by decide) ?_
                      refine aw_ls (ls := [some (vR 82), some (vI (k9)), some (vI (j)), some (vI (((fv f).1 : Int))), some (vL (((dv d).2.2.1 p))), none, some (vL (((dv d).2.2.2.1 p))), none, some (vI (1)), some (vI (nw)), some (vI (kx)), none, none, none, none, none, none, none, none, none, none, none, none]) ⟨rfl, ⟨rfl, ⟨rfl, ⟨rfl, ⟨rfl, ⟨rfl, ⟨rfl, ⟨rfl, ⟨rfl, trivial⟩⟩⟩⟩⟩⟩⟩⟩⟩ ?_
                      refine aw_iinc (q := 243) dX7_isIn_240 rfl rfl (by decide) (by omega) ?_
                      refine aw_goto (q := 34) dX7_isIn_243 (by decide) ?_
                      refine aw_ls (ls := [some (vR 82), some (vI (k9)), some (vI (j)), some (vI (((fv f).1 : Int))), some (vL (((dv d).2.2.1 p))), none, some (vL (((dv d).2.2.2.1 p))), none, some (vI (1)), some (vI (nw)), some (vI (kx + 1)), none, none, none, none, none, none, none, none, none, none, none, none]) ⟨rfl, ⟨rfl, ⟨rfl, ⟨rfl, ⟨rfl, ⟨rfl, ⟨rfl, ⟨rfl, ⟨rfl, trivial⟩⟩⟩⟩⟩⟩⟩⟩⟩ ?_
                      exact ihlp (k + 1) _ _ _ (by omega) (by omega) (by omega) hon9 (by first | exact od_x (P := (fun k => pasM (fv f).2.1 (fv f).2.2 ((dv d).2.2.1 p) ((dv d).2.2.2.1 p) k (nxt (fv f).1 k))) hov (Or.inl ⟨by show pasM (fv f).2.1 (fv f).2.2 ((dv d).2.2.1 p) ((dv d).2.2.2.1 p) k (nxt (fv f).1 k); rw [he]; unfold pasM; rw [htr]; omega, by omega⟩) | exact od_x (P := (fun k => pasM (fv f).2.1 (fv f).2.2 ((dv d).2.2.1 p) ((dv d).2.2.2.1 p) k (nxt (fv f).1 k))) hov (Or.inr ⟨fun h9 => by have h8 : pasM (fv f).2.1 (fv f).2.2 ((dv d).2.2.1 p) ((dv d).2.2.2.1 p) k (nxt (fv f).1 k) := h9; rw [he] at h8; unfold pasM at h8; rw [htr] at h8; omega, by omega⟩))
          · skip
            replace bc1 := mt cmpz_le.mpr bc1
            refine aw_iconst (q := 174) dX7_isIn_173 rfl (by omega) ?_
            refine aw_goto (q := 178) dX7_isIn_174 (by decide) ?_
            refine aw_lload (q := 180) dX7_isIn_178 rfl rfl ?_
            refine aw_lconst (a := 0) (q := 181) dX7_isIn_180 rfl rfl (by omega) ?_
            refine aw_lcmp (q := 182) dX7_isIn_181 rfl ?_
            refine aw_if_le (t := 189) (q := 185) dX7_isIn_182 rfl (by decide) (fun bc12 => ?_) (fun bc12 => ?_)
            · skip
              replace bc12 := cmpz_le.mp bc12
              refine aw_iconst (q := 190) dX7_isIn_189 rfl (by omega) ?_
              refine aw_ic_eq (t := 240) (q := 193) dX7_isIn_190 rfl (by decide) (fun bc13 => ?_) (fun bc13 => ?_)
              · skip
                omega
              · skip
                refine aw_iload (q := 195) dX7_isIn_193 rfl rfl ?_
                refine aw_lload (q := 197) dX7_isIn_195 rfl rfl ?_
                refine aw_lload (q := 199) dX7_isIn_197 rfl rfl ?_
                refine aw_lcmp (q := 200) dX7_isIn_199 rfl ?_
                refine aw_if_le (t := 218) (q := 203) dX7_isIn_200 rfl (by decide) (fun bc14 => ?_) (fun bc14 => ?_)
                · skip
                  replace bc14 := cmpz_le.mp bc14
                  refine aw_lload (q := 220) dX7_isIn_218 rfl rfl ?_
                  refine aw_lconst (a := 0) (q := 221) dX7_isIn_220 rfl rfl (by omega) ?_
                  refine aw_lcmp (q := 222) dX7_isIn_221 rfl ?_
                  refine aw_if_ge (t := 229) (q := 225) dX7_isIn_222 rfl (by decide) (fun bc15 => ?_) (fun bc15 => ?_)
                  · skip
                    replace bc15 := cmpz_ge.mp bc15
                    refine aw_iconst (q := 230) dX7_isIn_229 rfl (by omega) ?_
                    refine aw_ic_eq (t := 237) (q := 233) dX7_isIn_230 rfl (by decide) (fun bc16 => ?_) (fun bc16 => ?_)
                    · skip
                      refine aw_iconst (q := 238) dX7_isIn_237 rfl (by omega) ?_
                      refine aw_istore (q := 240) dX7_isIn_238 rfl (by decide) ?_
                      refine aw_ls (ls := [some (vR 82), some (vI (k9)), some (vI (j)), some (vI (((fv f).1 : Int))), some (vL (((dv d).2.2.1 p))), none, some (vL (((dv d).2.2.2.1 p))), none, some (vI (0)), some (vI (nw)), some (vI (kx)), none, none, none, none, none, none, none, none, none, none, none, none]) ⟨rfl, ⟨rfl, ⟨rfl, ⟨rfl, ⟨rfl, ⟨rfl, ⟨rfl, ⟨rfl, ⟨rfl, trivial⟩⟩⟩⟩⟩⟩⟩⟩⟩ ?_
                      refine aw_iinc (q := 243) dX7_isIn_240 rfl rfl (by decide) (by omega) ?_
                      refine aw_goto (q := 34) dX7_isIn_243 (by decide) ?_
                      refine aw_ls (ls := [some (vR 82), some (vI (k9)), some (vI (j)), some (vI (((fv f).1 : Int))), some (vL (((dv d).2.2.1 p))), none, some (vL (((dv d).2.2.2.1 p))), none, some (vI (0)), some (vI (nw)), some (vI (kx + 1)), none, none, none, none, none, none, none, none, none, none, none, none]) ⟨rfl, ⟨rfl, ⟨rfl, ⟨rfl, ⟨rfl, ⟨rfl, ⟨rfl, ⟨rfl, ⟨rfl, trivial⟩⟩⟩⟩⟩⟩⟩⟩⟩ ?_
                      exact ihlp (k + 1) _ _ _ (by omega) (by omega) (by omega) hon9 (by first | exact od_x (P := (fun k => pasM (fv f).2.1 (fv f).2.2 ((dv d).2.2.1 p) ((dv d).2.2.2.1 p) k (nxt (fv f).1 k))) hov (Or.inl ⟨by show pasM (fv f).2.1 (fv f).2.2 ((dv d).2.2.1 p) ((dv d).2.2.2.1 p) k (nxt (fv f).1 k); rw [he]; unfold pasM; rw [htr]; omega, by omega⟩) | exact od_x (P := (fun k => pasM (fv f).2.1 (fv f).2.2 ((dv d).2.2.1 p) ((dv d).2.2.2.1 p) k (nxt (fv f).1 k))) hov (Or.inr ⟨fun h9 => by have h8 : pasM (fv f).2.1 (fv f).2.2 ((dv d).2.2.1 p) ((dv d).2.2.2.1 p) k (nxt (fv f).1 k) := h9; rw [he] at h8; unfold pasM at h8; rw [htr] at h8; omega, by omega⟩))
                    · skip
                      refine aw_iconst (q := 234) dX7_isIn_233 rfl (by omega) ?_
                      refine aw_goto (q := 238) dX7_isIn_234 (by decide) ?_
                      refine aw_istore (q := 240) dX7_isIn_238 rfl (by decide) ?_
                      refine aw_ls (ls := [some (vR 82), some (vI (k9)), some (vI (j)), some (vI (((fv f).1 : Int))), some (vL (((dv d).2.2.1 p))), none, some (vL (((dv d).2.2.2.1 p))), none, some (vI (1)), some (vI (nw)), some (vI (kx)), none, none, none, none, none, none, none, none, none, none, none, none]) ⟨rfl, ⟨rfl, ⟨rfl, ⟨rfl, ⟨rfl, ⟨rfl, ⟨rfl, ⟨rfl, ⟨rfl, trivial⟩⟩⟩⟩⟩⟩⟩⟩⟩ ?_
                      refine aw_iinc (q := 243) dX7_isIn_240 rfl rfl (by decide) (by omega) ?_
                      refine aw_goto (q := 34) dX7_isIn_243 (by decide) ?_
                      refine aw_ls (ls := [some (vR 82), some (vI (k9)), some (vI (j)), some (vI (((fv f).1 : Int))), some (vL (((dv d).2.2.1 p))), none, some (vL (((dv d).2.2.2.1 p))), none, some (vI (1)), some (vI (nw)), some (vI (kx + 1)), none, none, none, none, none, none, none, none, none, none, none, none]) ⟨rfl, ⟨rfl, ⟨rfl, ⟨rfl, ⟨rfl, ⟨rfl, ⟨rfl, ⟨rfl, ⟨rfl, trivial⟩⟩⟩⟩⟩⟩⟩⟩⟩ ?_
                      exact ihlp (k + 1) _ _ _ (by omega) (by omega) (by omega) hon9 (by first | exact od_x (P := (fun k => pasM (fv f).2.1 (fv f).2.2 ((dv d).2.2.1 p) ((dv d).2.2.2.1 p) k (nxt (fv f).1 k))) hov (Or.inl ⟨by show pasM (fv f).2.1 (fv f).2.2 ((dv d).2.2.1 p) ((dv d).2.2.2.1 p) k (nxt (fv f).1 k); rw [he]; unfold pasM; rw [htr]; omega, by omega⟩) | exact od_x (P := (fun k => pasM (fv f).2.1 (fv f).2.2 ((dv d).2.2.1 p) ((dv d).2.2.2.1 p) k (nxt (fv f).1 k))) hov (Or.inr ⟨fun h9 => by have h8 : pasM (fv f).2.1 (fv f).2.2 ((dv d).2.2.1 p) ((dv d).2.2.2.1 p) k (nxt (fv f).1 k) := h9; rw [he] at h8; unfold pasM at h8; rw [htr] at h8; omega, by omega⟩))
                  · skip
                    replace bc15 := mt cmpz_ge.mpr bc15
                    refine aw_iconst (q := 226) dX7_isIn_225 rfl (by omega) ?_
                    refine aw_goto (q := 230) dX7_isIn_226 (by decide) ?_
                    refine aw_ic_eq (t := 237) (q := 233) dX7_isIn_230 rfl (by decide) (fun bc17 => ?_) (fun bc17 => ?_)
                    · skip
                      refine aw_iconst (q := 238) dX7_isIn_237 rfl (by omega) ?_
                      refine aw_istore (q := 240) dX7_isIn_238 rfl (by decide) ?_
                      refine aw_ls (ls := [some (vR 82), some (vI (k9)), some (vI (j)), some (vI (((fv f).1 : Int))), some (vL (((dv d).2.2.1 p))), none, some (vL (((dv d).2.2.2.1 p))), none, some (vI (0)), some (vI (nw)), some (vI (kx)), none, none, none, none, none, none, none, none, none, none, none, none]) ⟨rfl, ⟨rfl, ⟨rfl, ⟨rfl, ⟨rfl, ⟨rfl, ⟨rfl, ⟨rfl, ⟨rfl, trivial⟩⟩⟩⟩⟩⟩⟩⟩⟩ ?_
                      refine aw_iinc (q := 243) dX7_isIn_240 rfl rfl (by decide) (by omega) ?_
                      refine aw_goto (q := 34) dX7_isIn_243 (by decide) ?_
                      refine aw_ls (ls := [some (vR 82), some (vI (k9)), some (vI (j)), some (vI (((fv f).1 : Int))), some (vL (((dv d).2.2.1 p))), none, some (vL (((dv d).2.2.2.1 p))), none, some (vI (0)), some (vI (nw)), some (vI (kx + 1)), none, none, none, none, none, none, none, none, none, none, none, none]) ⟨rfl, ⟨rfl, ⟨rfl, ⟨rfl, ⟨rfl, ⟨rfl, ⟨rfl, ⟨rfl, ⟨rfl, trivial⟩⟩⟩⟩⟩⟩⟩⟩⟩ ?_
                      exact ihlp (k + 1) _ _ _ (by omega) (by omega) (by omega) hon9 (by first | exact od_x (P := (fun k => pasM (fv f).2.1 (fv f).2.2 ((dv d).2.2.1 p) ((dv d).2.2.2.1 p) k (nxt (fv f).1 k))) hov (Or.inl ⟨by show pasM (fv f).2.1 (fv f).2.2 ((dv d).2.2.1 p) ((dv d).2.2.2.1 p) k (nxt (fv f).1 k); rw [he]; unfold pasM; rw [htr]; omega, by omega⟩) | exact od_x (P := (fun k => pasM (fv f).2.1 (fv f).2.2 ((dv d).2.2.1 p) ((dv d).2.2.2.1 p) k (nxt (fv f).1 k))) hov (Or.inr ⟨fun h9 => by have h8 : pasM (fv f).2.1 (fv f).2.2 ((dv d).2.2.1 p) ((dv d).2.2.2.1 p) k (nxt (fv f).1 k) := h9; rw [he] at h8; unfold pasM at h8; rw [htr] at h8; omega, by omega⟩))
                    · skip
                      refine aw_iconst (q := 234) dX7_isIn_233 rfl (by omega) ?_
                      refine aw_goto (q := 238) dX7_isIn_234 (by decide) ?_
                      refine aw_istore (q := 240) dX7_isIn_238 rfl (by decide) ?_
                      refine aw_ls (ls := [some (vR 82), some (vI (k9)), some (vI (j)), some (vI (((fv f).1 : Int))), some (vL (((dv d).2.2.1 p))), none, some (vL (((dv d).2.2.2.1 p))), none, some (vI (1)), some (vI (nw)), some (vI (kx)), none, none, none, none, none, none, none, none, none, none, none, none]) ⟨rfl, ⟨rfl, ⟨rfl, ⟨rfl, ⟨rfl, ⟨rfl, ⟨rfl, ⟨rfl, ⟨rfl, trivial⟩⟩⟩⟩⟩⟩⟩⟩⟩ ?_
                      refine aw_iinc (q := 243) dX7_isIn_240 rfl rfl (by decide) (by omega) ?_
                      refine aw_goto (q := 34) dX7_isIn_243 (by decide) ?_
                      refine aw_ls (ls := [some (vR 82), some (vI (k9)), some (vI (j)), some (vI (((fv f).1 : Int))), some (vL (((dv d).2.2.1 p))), none, some (vL (((dv d).2.2.2.1 p))), none, some (vI (1)), some (vI (nw)), some (vI (kx + 1)), none, none, none, none, none, none, none, none, none, none, none, none]) ⟨rfl, ⟨rfl, ⟨rfl, ⟨rfl, ⟨rfl, ⟨rfl, ⟨rfl, ⟨rfl, ⟨rfl, trivial⟩⟩⟩⟩⟩⟩⟩⟩⟩ ?_
                      exact ihlp (k + 1) _ _ _ (by omega) (by omega) (by omega) hon9 (by first | exact od_x (P := (fun k => pasM (fv f).2.1 (fv f).2.2 ((dv d).2.2.1 p) ((dv d).2.2.2.1 p) k (nxt (fv f).1 k))) hov (Or.inl ⟨by show pasM (fv f).2.1 (fv f).2.2 ((dv d).2.2.1 p) ((dv d).2.2.2.1 p) k (nxt (fv f).1 k); rw [he]; unfold pasM; rw [htr]; omega, by omega⟩) | exact od_x (P := (fun k => pasM (fv f).2.1 (fv f).2.2 ((dv d).2.2.1 p) ((dv d).2.2.2.1 p) k (nxt (fv f).1 k))) hov (Or.inr ⟨fun h9 => by have h8 : pasM (fv f).2.1 (fv f).2.2 ((dv d).2.2.1 p) ((dv d).2.2.2.1 p) k (nxt (fv f).1 k) := h9; rw [he] at h8; unfold pasM at h8; rw [htr] at h8; omega, by omega⟩))
                · skip
                  replace bc14 := mt cmpz_le.mpr bc14
                  refine aw_lload (q := 205) dX7_isIn_203 rfl rfl ?_
                  refine aw_lconst (a := 0) (q := 206) dX7_isIn_205 rfl rfl (by omega) ?_
                  refine aw_lcmp (q := 207) dX7_isIn_206 rfl ?_
                  refine aw_if_le (t := 214) (q := 210) dX7_isIn_207 rfl (by decide) (fun bc18 => ?_) (fun bc18 => ?_)
                  · skip
                    replace bc18 := cmpz_le.mp bc18
                    refine aw_iconst (q := 215) dX7_isIn_214 rfl (by omega) ?_
                    refine aw_goto (q := 230) dX7_isIn_215 (by decide) ?_
                    refine aw_ic_eq (t := 237) (q := 233) dX7_isIn_230 rfl (by decide) (fun bc19 => ?_) (fun bc19 => ?_)
                    · skip
                      refine aw_iconst (q := 238) dX7_isIn_237 rfl (by omega) ?_
                      refine aw_istore (q := 240) dX7_isIn_238 rfl (by decide) ?_
                      refine aw_ls (ls := [some (vR 82), some (vI (k9)), some (vI (j)), some (vI (((fv f).1 : Int))), some (vL (((dv d).2.2.1 p))), none, some (vL (((dv d).2.2.2.1 p))), none, some (vI (0)), some (vI (nw)), some (vI (kx)), none, none, none, none, none, none, none, none, none, none, none, none]) ⟨rfl, ⟨rfl, ⟨rfl, ⟨rfl, ⟨rfl, ⟨rfl, ⟨rfl, ⟨rfl, ⟨rfl, trivial⟩⟩⟩⟩⟩⟩⟩⟩⟩ ?_
                      refine aw_iinc (q := 243) dX7_isIn_240 rfl rfl (by decide) (by omega) ?_
                      refine aw_goto (q := 34) dX7_isIn_243 (by decide) ?_
                      refine aw_ls (ls := [some (vR 82), some (vI (k9)), some (vI (j)), some (vI (((fv f).1 : Int))), some (vL (((dv d).2.2.1 p))), none, some (vL (((dv d).2.2.2.1 p))), none, some (vI (0)), some (vI (nw)), some (vI (kx + 1)), none, none, none, none, none, none, none, none, none, none, none, none]) ⟨rfl, ⟨rfl, ⟨rfl, ⟨rfl, ⟨rfl, ⟨rfl, ⟨rfl, ⟨rfl, ⟨rfl, trivial⟩⟩⟩⟩⟩⟩⟩⟩⟩ ?_
                      exact ihlp (k + 1) _ _ _ (by omega) (by omega) (by omega) hon9 (by first | exact od_x (P := (fun k => pasM (fv f).2.1 (fv f).2.2 ((dv d).2.2.1 p) ((dv d).2.2.2.1 p) k (nxt (fv f).1 k))) hov (Or.inl ⟨by show pasM (fv f).2.1 (fv f).2.2 ((dv d).2.2.1 p) ((dv d).2.2.2.1 p) k (nxt (fv f).1 k); rw [he]; unfold pasM; rw [htr]; omega, by omega⟩) | exact od_x (P := (fun k => pasM (fv f).2.1 (fv f).2.2 ((dv d).2.2.1 p) ((dv d).2.2.2.1 p) k (nxt (fv f).1 k))) hov (Or.inr ⟨fun h9 => by have h8 : pasM (fv f).2.1 (fv f).2.2 ((dv d).2.2.1 p) ((dv d).2.2.2.1 p) k (nxt (fv f).1 k) := h9; rw [he] at h8; unfold pasM at h8; rw [htr] at h8; omega, by omega⟩))
                    · skip
                      refine aw_iconst (q := 234) dX7_isIn_233 rfl (by omega) ?_
                      refine aw_goto (q := 238) dX7_isIn_234 (by decide) ?_
                      refine aw_istore (q := 240) dX7_isIn_238 rfl (by decide) ?_
                      refine aw_ls (ls := [some (vR 82), some (vI (k9)), some (vI (j)), some (vI (((fv f).1 : Int))), some (vL (((dv d).2.2.1 p))), none, some (vL (((dv d).2.2.2.1 p))), none, some (vI (1)), some (vI (nw)), some (vI (kx)), none, none, none, none, none, none, none, none, none, none, none, none]) ⟨rfl, ⟨rfl, ⟨rfl, ⟨rfl, ⟨rfl, ⟨rfl, ⟨rfl, ⟨rfl, ⟨rfl, trivial⟩⟩⟩⟩⟩⟩⟩⟩⟩ ?_
                      refine aw_iinc (q := 243) dX7_isIn_240 rfl rfl (by decide) (by omega) ?_
                      refine aw_goto (q := 34) dX7_isIn_243 (by decide) ?_
                      refine aw_ls (ls := [some (vR 82), some (vI (k9)), some (vI (j)), some (vI (((fv f).1 : Int))), some (vL (((dv d).2.2.1 p))), none, some (vL (((dv d).2.2.2.1 p))), none, some (vI (1)), some (vI (nw)), some (vI (kx + 1)), none, none, none, none, none, none, none, none, none, none, none, none]) ⟨rfl, ⟨rfl, ⟨rfl, ⟨rfl, ⟨rfl, ⟨rfl, ⟨rfl, ⟨rfl, ⟨rfl, trivial⟩⟩⟩⟩⟩⟩⟩⟩⟩ ?_
                      exact ihlp (k + 1) _ _ _ (by omega) (by omega) (by omega) hon9 (by first | exact od_x (P := (fun k => pasM (fv f).2.1 (fv f).2.2 ((dv d).2.2.1 p) ((dv d).2.2.2.1 p) k (nxt (fv f).1 k))) hov (Or.inl ⟨by show pasM (fv f).2.1 (fv f).2.2 ((dv d).2.2.1 p) ((dv d).2.2.2.1 p) k (nxt (fv f).1 k); rw [he]; unfold pasM; rw [htr]; omega, by omega⟩) | exact od_x (P := (fun k => pasM (fv f).2.1 (fv f).2.2 ((dv d).2.2.1 p) ((dv d).2.2.2.1 p) k (nxt (fv f).1 k))) hov (Or.inr ⟨fun h9 => by have h8 : pasM (fv f).2.1 (fv f).2.2 ((dv d).2.2.1 p) ((dv d).2.2.2.1 p) k (nxt (fv f).1 k) := h9; rw [he] at h8; unfold pasM at h8; rw [htr] at h8; omega, by omega⟩))
                  · skip
                    replace bc18 := mt cmpz_le.mpr bc18
                    refine aw_iconst (q := 211) dX7_isIn_210 rfl (by omega) ?_
                    refine aw_goto (q := 230) dX7_isIn_211 (by decide) ?_
                    refine aw_ic_eq (t := 237) (q := 233) dX7_isIn_230 rfl (by decide) (fun bc20 => ?_) (fun bc20 => ?_)
                    · skip
                      refine aw_iconst (q := 238) dX7_isIn_237 rfl (by omega) ?_
                      refine aw_istore (q := 240) dX7_isIn_238 rfl (by decide) ?_
                      refine aw_ls (ls := [some (vR 82), some (vI (k9)), some (vI (j)), some (vI (((fv f).1 : Int))), some (vL (((dv d).2.2.1 p))), none, some (vL (((dv d).2.2.2.1 p))), none, some (vI (0)), some (vI (nw)), some (vI (kx)), none, none, none, none, none, none, none, none, none, none, none, none]) ⟨rfl, ⟨rfl, ⟨rfl, ⟨rfl, ⟨rfl, ⟨rfl, ⟨rfl, ⟨rfl, ⟨rfl, trivial⟩⟩⟩⟩⟩⟩⟩⟩⟩ ?_
                      refine aw_iinc (q := 243) dX7_isIn_240 rfl rfl (by decide) (by omega) ?_
                      refine aw_goto (q := 34) dX7_isIn_243 (by decide) ?_
                      refine aw_ls (ls := [some (vR 82), some (vI (k9)), some (vI (j)), some (vI (((fv f).1 : Int))), some (vL (((dv d).2.2.1 p))), none, some (vL (((dv d).2.2.2.1 p))), none, some (vI (0)), some (vI (nw)), some (vI (kx + 1)), none, none, none, none, none, none, none, none, none, none, none, none]) ⟨rfl, ⟨rfl, ⟨rfl, ⟨rfl, ⟨rfl, ⟨rfl, ⟨rfl, ⟨rfl, ⟨rfl, trivial⟩⟩⟩⟩⟩⟩⟩⟩⟩ ?_
                      exact ihlp (k + 1) _ _ _ (by omega) (by omega) (by omega) hon9 (by first | exact od_x (P := (fun k => pasM (fv f).2.1 (fv f).2.2 ((dv d).2.2.1 p) ((dv d).2.2.2.1 p) k (nxt (fv f).1 k))) hov (Or.inl ⟨by show pasM (fv f).2.1 (fv f).2.2 ((dv d).2.2.1 p) ((dv d).2.2.2.1 p) k (nxt (fv f).1 k); rw [he]; unfold pasM; rw [htr]; omega, by omega⟩) | exact od_x (P := (fun k => pasM (fv f).2.1 (fv f).2.2 ((dv d).2.2.1 p) ((dv d).2.2.2.1 p) k (nxt (fv f).1 k))) hov (Or.inr ⟨fun h9 => by have h8 : pasM (fv f).2.1 (fv f).2.2 ((dv d).2.2.1 p) ((dv d).2.2.2.1 p) k (nxt (fv f).1 k) := h9; rw [he] at h8; unfold pasM at h8; rw [htr] at h8; omega, by omega⟩))
                    · skip
                      refine aw_iconst (q := 234) dX7_isIn_233 rfl (by omega) ?_
                      refine aw_goto (q := 238) dX7_isIn_234 (by decide) ?_
                      refine aw_istore (q := 240) dX7_isIn_238 rfl (by decide) ?_
                      refine aw_ls (ls := [some (vR 82), some (vI (k9)), some (vI (j)), some (vI (((fv f).1 : Int))), some (vL (((dv d).2.2.1 p))), none, some (vL (((dv d).2.2.2.1 p))), none, some (vI (1)), some (vI (nw)), some (vI (kx)), none, none, none, none, none, none, none, none, none, none, none, none]) ⟨rfl, ⟨rfl, ⟨rfl, ⟨rfl, ⟨rfl, ⟨rfl, ⟨rfl, ⟨rfl, ⟨rfl, trivial⟩⟩⟩⟩⟩⟩⟩⟩⟩ ?_
                      refine aw_iinc (q := 243) dX7_isIn_240 rfl rfl (by decide) (by omega) ?_
                      refine aw_goto (q := 34) dX7_isIn_243 (by decide) ?_
                      refine aw_ls (ls := [some (vR 82), some (vI (k9)), some (vI (j)), some (vI (((fv f).1 : Int))), some (vL (((dv d).2.2.1 p))), none, some (vL (((dv d).2.2.2.1 p))), none, some (vI (1)), some (vI (nw)), some (vI (kx + 1)), none, none, none, none, none, none, none, none, none, none, none, none]) ⟨rfl, ⟨rfl, ⟨rfl, ⟨rfl, ⟨rfl, ⟨rfl, ⟨rfl, ⟨rfl, ⟨rfl, trivial⟩⟩⟩⟩⟩⟩⟩⟩⟩ ?_
                      exact ihlp (k + 1) _ _ _ (by omega) (by omega) (by omega) hon9 (by first | exact od_x (P := (fun k => pasM (fv f).2.1 (fv f).2.2 ((dv d).2.2.1 p) ((dv d).2.2.2.1 p) k (nxt (fv f).1 k))) hov (Or.inl ⟨by show pasM (fv f).2.1 (fv f).2.2 ((dv d).2.2.1 p) ((dv d).2.2.2.1 p) k (nxt (fv f).1 k); rw [he]; unfold pasM; rw [htr]; omega, by omega⟩) | exact od_x (P := (fun k => pasM (fv f).2.1 (fv f).2.2 ((dv d).2.2.1 p) ((dv d).2.2.2.1 p) k (nxt (fv f).1 k))) hov (Or.inr ⟨fun h9 => by have h8 : pasM (fv f).2.1 (fv f).2.2 ((dv d).2.2.1 p) ((dv d).2.2.2.1 p) k (nxt (fv f).1 k) := h9; rw [he] at h8; unfold pasM at h8; rw [htr] at h8; omega, by omega⟩))
            · skip
              replace bc12 := mt cmpz_le.mpr bc12
              refine aw_iconst (q := 186) dX7_isIn_185 rfl (by omega) ?_
              refine aw_goto (q := 190) dX7_isIn_186 (by decide) ?_
              refine aw_ic_eq (t := 240) (q := 193) dX7_isIn_190 rfl (by decide) (fun bc21 => ?_) (fun bc21 => ?_)
              · skip
                refine aw_ls (ls := [some (vR 82), some (vI (k9)), some (vI (j)), some (vI (((fv f).1 : Int))), some (vL (((dv d).2.2.1 p))), none, some (vL (((dv d).2.2.2.1 p))), none, some (vI (ov)), some (vI (nw)), some (vI (kx)), none, none, none, none, none, none, none, none, none, none, none, none]) ⟨rfl, ⟨rfl, ⟨rfl, ⟨rfl, ⟨rfl, ⟨rfl, ⟨rfl, ⟨rfl, ⟨rfl, trivial⟩⟩⟩⟩⟩⟩⟩⟩⟩ ?_
                refine aw_iinc (q := 243) dX7_isIn_240 rfl rfl (by decide) (by omega) ?_
                refine aw_goto (q := 34) dX7_isIn_243 (by decide) ?_
                refine aw_ls (ls := [some (vR 82), some (vI (k9)), some (vI (j)), some (vI (((fv f).1 : Int))), some (vL (((dv d).2.2.1 p))), none, some (vL (((dv d).2.2.2.1 p))), none, some (vI (ov)), some (vI (nw)), some (vI (kx + 1)), none, none, none, none, none, none, none, none, none, none, none, none]) ⟨rfl, ⟨rfl, ⟨rfl, ⟨rfl, ⟨rfl, ⟨rfl, ⟨rfl, ⟨rfl, ⟨rfl, trivial⟩⟩⟩⟩⟩⟩⟩⟩⟩ ?_
                exact ihlp (k + 1) _ _ _ (by omega) (by omega) (by omega) hon9 (by first | exact od_x (P := (fun k => pasM (fv f).2.1 (fv f).2.2 ((dv d).2.2.1 p) ((dv d).2.2.2.1 p) k (nxt (fv f).1 k))) hov (Or.inl ⟨by show pasM (fv f).2.1 (fv f).2.2 ((dv d).2.2.1 p) ((dv d).2.2.2.1 p) k (nxt (fv f).1 k); rw [he]; unfold pasM; rw [htr]; omega, by omega⟩) | exact od_x (P := (fun k => pasM (fv f).2.1 (fv f).2.2 ((dv d).2.2.1 p) ((dv d).2.2.2.1 p) k (nxt (fv f).1 k))) hov (Or.inr ⟨fun h9 => by have h8 : pasM (fv f).2.1 (fv f).2.2 ((dv d).2.2.1 p) ((dv d).2.2.2.1 p) k (nxt (fv f).1 k) := h9; rw [he] at h8; unfold pasM at h8; rw [htr] at h8; omega, by omega⟩))
              · skip
                omega
        refine aw_iload (q := 129) dX7_isIn_127 rfl rfl ?_
        refine aw_if_ne (t := 159) (q := 132) dX7_isIn_129 rfl (by decide) (fun bc9 => ?_) (fun bc9 => ?_)
        · skip
          refine aw_iconst (q := 160) dX7_isIn_159 rfl (by omega) ?_
          refine aw_goto (q := 164) dX7_isIn_160 (by decide) ?_
          exact j164 _ (by first | exact on_o hon (by assumption) | exact on_n (P := (fun k => onM (fv f).2.1 (fv f).2.2 ((dv d).2.2.1 p) ((dv d).2.2.2.1 p) k (nxt (fv f).1 k))) (by show onM (fv f).2.1 (fv f).2.2 ((dv d).2.2.1 p) ((dv d).2.2.2.1 p) k (nxt (fv f).1 k); rw [he]; exact ⟨by rw [htr]; assumption, by omega, by omega⟩))
        · skip
          refine aw_lload (q := 134) dX7_isIn_132 rfl rfl ?_
          refine aw_lconst (a := 0) (q := 135) dX7_isIn_134 rfl rfl (by omega) ?_
          refine aw_lcmp (q := 136) dX7_isIn_135 rfl ?_
          refine aw_if_ne (t := 163) (q := 139) dX7_isIn_136 rfl (by decide) (fun bc10 => ?_) (fun bc10 => ?_)
          · skip
            replace bc10 := mt cmpz_eq.mpr bc10
            refine aw_iconst (q := 164) dX7_isIn_163 rfl (by omega) ?_
            exact j164 _ (on_f hon (by assumption) (fun h9 => by have h8 : onM (fv f).2.1 (fv f).2.2 ((dv d).2.2.1 p) ((dv d).2.2.2.1 p) k (nxt (fv f).1 k) := h9; rw [he] at h8; obtain ⟨h7, h6, h5⟩ := h8; rw [htr] at h7; omega))
          · skip
            replace bc10 := cmpz_eq.mp bc10
            refine aw_lload (q := 141) dX7_isIn_139 rfl rfl ?_
            refine aw_lload (q := 143) dX7_isIn_141 rfl rfl ?_
            refine aw_lmul (q := 144) dX7_isIn_143 rfl (by omega) ?_
            refine aw_lconst (a := 0) (q := 145) dX7_isIn_144 rfl rfl (by omega) ?_
            refine aw_lcmp (q := 146) dX7_isIn_145 rfl ?_
            refine aw_if_gt (t := 163) (q := 149) dX7_isIn_146 rfl (by decide) (fun bc11 => ?_) (fun bc11 => ?_)
            · skip
              replace bc11 := cmpz_gt.mp bc11
              refine aw_iconst (q := 164) dX7_isIn_163 rfl (by omega) ?_
              exact j164 _ (on_f hon (by assumption) (fun h9 => by have h8 : onM (fv f).2.1 (fv f).2.2 ((dv d).2.2.1 p) ((dv d).2.2.2.1 p) k (nxt (fv f).1 k) := h9; rw [he] at h8; obtain ⟨h7, h6, h5⟩ := h8; rw [htr] at h7; omega))
            · skip
              replace bc11 := mt cmpz_gt.mpr bc11
              refine aw_lload (q := 151) dX7_isIn_149 rfl rfl ?_
              refine aw_lload (q := 153) dX7_isIn_151 rfl rfl ?_
              refine aw_lmul (q := 154) dX7_isIn_153 rfl (by omega) ?_
              refine aw_lconst (a := 0) (q := 155) dX7_isIn_154 rfl rfl (by omega) ?_
              refine aw_lcmp (q := 156) dX7_isIn_155 rfl ?_
              refine aw_if_gt (t := 163) (q := 159) dX7_isIn_156 rfl (by decide) (fun bc12 => ?_) (fun bc12 => ?_)
              · skip
                replace bc12 := cmpz_gt.mp bc12
                refine aw_iconst (q := 164) dX7_isIn_163 rfl (by omega) ?_
                exact j164 _ (on_f hon (by assumption) (fun h9 => by have h8 : onM (fv f).2.1 (fv f).2.2 ((dv d).2.2.1 p) ((dv d).2.2.2.1 p) k (nxt (fv f).1 k) := h9; rw [he] at h8; obtain ⟨h7, h6, h5⟩ := h8; rw [htr] at h7; omega))
              · skip
                replace bc12 := mt cmpz_gt.mpr bc12
                refine aw_iconst (q := 160) dX7_isIn_159 rfl (by omega) ?_
                refine aw_goto (q := 164) dX7_isIn_160 (by decide) ?_
                exact j164 _ (by first | exact on_o hon (by assumption) | exact on_n (P := (fun k => onM (fv f).2.1 (fv f).2.2 ((dv d).2.2.1 p) ((dv d).2.2.2.1 p) k (nxt (fv f).1 k))) (by show onM (fv f).2.1 (fv f).2.2 ((dv d).2.2.1 p) ((dv d).2.2.2.1 p) k (nxt (fv f).1 k); rw [he]; exact ⟨by rw [htr]; assumption, by omega, by omega⟩))
  exact lp ((fv f).1 + 1) 0 _ _ _ (by omega) rfl (by omega) (Or.inr ⟨rfl, fun j hj => absurd hj (Nat.not_lt_zero _)⟩) rfl
set_option maxHeartbeats 4000000 in
set_option maxRecDepth 100000 in
theorem m_X7_in {n : Nat} {μ : AH} {th B : Int} {D : Nat} {dv : Nat → DVt} {Fn : Nat} {fv : Nat → FVt} {sv : SVt} {pk fd : Nat × (Nat → Int)} {spd lim : Int} {i p j : Int} (hm : MM μ th D dv Fn fv sv pk fd spd lim) (hO : COk B D dv Fn fv sv pk fd spd lim) : AMet YX7_in [vR 82, vI (i), vI (p), vI (j)] n μ (fun o n' μ' => n' = n ∧ FrR 82 101 μ μ' ∧ ∃ v : Int, o = .inl (some (vI v)) ∧ MM μ' (tx1 (((0 ≤ i ∧ i < (D : Int)) ∧ 0 ≤ p ∧ p < ((dv i.toNat).1 : Int)) ∧ 0 ≤ j ∧ j < (Fn : Int))) D dv Fn fv sv pk fd spd lim ∧ ((((0 ≤ i ∧ i < (D : Int)) ∧ 0 ≤ p ∧ p < ((dv i.toNat).1 : Int)) ∧ 0 ≤ j ∧ j < (Fn : Int)) → ((v = 1 ∧ inF (fv j.toNat).1 (fv j.toNat).2.1 (fv j.toNat).2.2 ((dv i.toNat).2.2.1 p.toNat) ((dv i.toNat).2.2.2.1 p.toNat)) ∨ (v = 0 ∧ ¬ inF (fv j.toNat).1 (fv j.toNat).2.1 (fv j.toNat).2.2 ((dv i.toNat).2.2.1 p.toNat) ((dv i.toNat).2.2.2.1 p.toNat))))) := by
  refine AMet.of (by decide) rfl (Nat.le_of_ble_eq_true rfl) ?_
  obtain ⟨at7, ls7, wy7, c7, t7, F7, G7, H7, k7, a7, b7, e7, X7, Y7, y7, o7, r7, s7, u7, v7, w7, h82, h83, h84, h85, h86, h87, h88, h89, h90, h91, h92, h93, h94, h95, h96, h97, h98, h99, h100, ag1, ag2, ag3, ag4, ag5, ag6, ag7, ag8⟩ := id hm
  obtain ⟨hN, hdv, hFn, hfv, hsn, hsb, hpk, hfd, hfb, hs1, hs2, hl1, hl2⟩ := id hO
  refine aw_aload_n (q := 1) dX7_in_0 rfl rfl rfl ?_
  refine aw_iconst (q := 2) dX7_in_1 rfl (by omega) ?_
  refine aw_put (q := 5) dX7_in_2 rfl fp_X7_72 h82 (Nat.le_of_ble_eq_true rfl) trivial ?_
  refine mm_z (at' := at7) (ls' := ls7) (wy' := wy7) hm (fun μ0 hm0 hF0 => ?_)
  obtain ⟨at7, ls7, wy7, c7, t7, F7, G7, H7, k7, a7, b7, e7, X7, Y7, y7, o7, r7, s7, u7, v7, w7, h82, h83, h84, h85, h86, h87, h88, h89, h90, h91, h92, h93, h94, h95, h96, h97, h98, h99, h100, ag1, ag2, ag3, ag4, ag5, ag6, ag7, ag8⟩ := id hm0
  refine aw_aload_n (q := 6) dX7_in_5 rfl rfl rfl ?_
  refine aw_aload_n (q := 7) dX7_in_6 rfl rfl rfl ?_
  refine aw_iload_n (q := 8) dX7_in_7 rfl rfl rfl ?_
  refine aw_iload_n (q := 9) dX7_in_8 rfl rfl rfl ?_
  refine aw_callV [vI (i), vI (p)] (q := 12) dX7_in_9 rfl ck_X7_isPlace lk_X7_110 rfl ⟨Nat.le_of_ble_eq_true rfl, Nat.le_of_ble_eq_true rfl⟩ rfl rfl h82 rfl (Nat.le_of_ble_eq_true rfl) (by decide) (m_X7_isPlace hm0 hO) rfl (fun _ _ _ h => (Rt_x h).elim) ?_
  rintro v n9 μ9 - ⟨v9, hv9, hn9, hm9, rfl⟩
  obtain rfl := hn9.symm
  obtain rfl := hm9.symm
  obtain rfl := Sum.inl.inj hv9
  refine aw_if_eq (t := 27) (q := 15) dX7_in_12 rfl (by decide) (fun bc1 => ?_) (fun bc1 => ?_)
  · skip
    replace bc1 := bz_0.mp bc1
    refine aw_iconst (q := 28) dX7_in_27 rfl (by omega) ?_
    refine aw_goto (q := 32) dX7_in_28 (by decide) ?_
    refine aw_iconst (q := 33) dX7_in_32 rfl (by omega) ?_
    refine aw_callV [vI (1), vI (1)] (q := 36) dX7_in_33 rfl ck_X7_fails lk_X7_82 rfl ⟨Nat.le_of_ble_eq_true rfl, Nat.le_of_ble_eq_true rfl⟩ rfl rfl h82 rfl (Nat.le_of_ble_eq_true rfl) (by decide) (m_X7_fails_t h82 (by omega)) rfl (fun _ _ _ h => (Rt_x h).elim) ?_
    rintro v n9 μ9 - ⟨v9, hv9, hn9, hm9, rfl⟩
    obtain rfl := hn9.symm
    obtain rfl := hm9.symm
    obtain rfl := Sum.inl.inj hv9
    refine aw_if_eq (t := 41) (q := 39) dX7_in_36 rfl (by decide) (fun bc2 => ?_) (fun bc2 => ?_)
    · skip
      omega
    · skip
      refine aw_iconst (q := 40) dX7_in_39 rfl (by omega) ?_
      exact aw_zret dX7_in_40 rfl (Or.inl rfl) (by decide) (by decide) ⟨rfl, FrR_w (FrR_tr hF0 (FrR_hu FrR_rf (by omega))) (by omega) (by omega), 0, rfl, by rw [tx1_1 (fun h9 => by first | exact absurd h9.1 (by assumption) | (have h8 := h9.2; omega))]; exact MM_o hm0, fun h9 => absurd h9 (fun h9 => by first | exact absurd h9.1 (by assumption) | (have h8 := h9.2; omega))⟩
  · skip
    replace bc1 := bz_n0.mp bc1
    refine aw_iload_n (q := 16) dX7_in_15 rfl rfl rfl ?_
    refine aw_if_lt (t := 27) (q := 19) dX7_in_16 rfl (by decide) (fun bc3 => ?_) (fun bc3 => ?_)
    · skip
      refine aw_iconst (q := 28) dX7_in_27 rfl (by omega) ?_
      refine aw_goto (q := 32) dX7_in_28 (by decide) ?_
      refine aw_iconst (q := 33) dX7_in_32 rfl (by omega) ?_
      refine aw_callV [vI (1), vI (1)] (q := 36) dX7_in_33 rfl ck_X7_fails lk_X7_82 rfl ⟨Nat.le_of_ble_eq_true rfl, Nat.le_of_ble_eq_true rfl⟩ rfl rfl h82 rfl (Nat.le_of_ble_eq_true rfl) (by decide) (m_X7_fails_t h82 (by omega)) rfl (fun _ _ _ h => (Rt_x h).elim) ?_
      rintro v n9 μ9 - ⟨v9, hv9, hn9, hm9, rfl⟩
      obtain rfl := hn9.symm
      obtain rfl := hm9.symm
      obtain rfl := Sum.inl.inj hv9
      refine aw_if_eq (t := 41) (q := 39) dX7_in_36 rfl (by decide) (fun bc4 => ?_) (fun bc4 => ?_)
      · skip
        omega
      · skip
        refine aw_iconst (q := 40) dX7_in_39 rfl (by omega) ?_
        exact aw_zret dX7_in_40 rfl (Or.inl rfl) (by decide) (by decide) ⟨rfl, FrR_w (FrR_tr hF0 (FrR_hu FrR_rf (by omega))) (by omega) (by omega), 0, rfl, by rw [tx1_1 (fun h9 => by first | exact absurd h9.1 (by assumption) | (have h8 := h9.2; omega))]; exact MM_o hm0, fun h9 => absurd h9 (fun h9 => by first | exact absurd h9.1 (by assumption) | (have h8 := h9.2; omega))⟩
    · skip
      refine aw_iload_n (q := 20) dX7_in_19 rfl rfl rfl ?_
      refine aw_aload_n (q := 21) dX7_in_20 rfl rfl rfl ?_
      refine aw_get (q := 24) dX7_in_21 rfl fl_X7_153 h82 rfl (fun _ => ?_)
      refine aw_ic_lt (t := 31) (q := 27) dX7_in_24 rfl (by decide) (fun bc5 => ?_) (fun bc5 => ?_)
      · skip
        refine aw_iconst (q := 32) dX7_in_31 rfl (by omega) ?_
        refine aw_iconst (q := 33) dX7_in_32 rfl (by omega) ?_
        refine aw_callV [vI (0), vI (1)] (q := 36) dX7_in_33 rfl ck_X7_fails lk_X7_82 rfl ⟨Nat.le_of_ble_eq_true rfl, Nat.le_of_ble_eq_true rfl⟩ rfl rfl h82 rfl (Nat.le_of_ble_eq_true rfl) (by decide) (m_X7_fails_f h82) rfl (fun _ _ _ h => (Rt_x h).elim) ?_
        rintro v n9 μ9 - ⟨v9, hv9, hn9, hm9, rfl⟩
        obtain rfl := hn9.symm
        obtain rfl := hm9.symm
        obtain rfl := Sum.inl.inj hv9
        refine aw_if_eq (t := 41) (q := 39) dX7_in_36 rfl (by decide) (fun bc6 => ?_) (fun bc6 => ?_)
        · skip
          obtain ⟨d, hi⟩ : ∃ d : Nat, i = (d : Int) := ⟨i.toNat, by omega⟩
          have hid : i.toNat = d := by omega
          have hd5 : d < 5 := by omega
          have hcd := ag1 d hd5
          have hdo := (hdv d hd5).1
          have hc60 : (dv d).1 ≤ 60 := hdo.1
          have hk8 : (dv d).2.2.2.2.2.1 ≤ 8 := hdo.2.2.2.1
          have hplc : (0 ≤ i ∧ i < (D : Int)) ∧ 0 ≤ p ∧ p < ((dv i.toNat).1 : Int) := by assumption
          rw [hid] at hplc
          obtain ⟨r, hp⟩ : ∃ r : Nat, p = (r : Int) := ⟨p.toNat, by omega⟩
          have hr : r < (dv d).1 := by omega
          have hpr : p.toNat = r := by omega
          have hag := ag2 d r hd5 hr
          have hbr := hdo.2.1 r hr
          obtain ⟨f, hjf⟩ : ∃ f : Nat, j = (f : Int) := ⟨j.toNat, by omega⟩
          have hjt : j.toNat = f := by omega
          have hf4 : f < 4 := by omega
          refine aw_aload_n (q := 42) dX7_in_41 rfl rfl rfl ?_
          refine aw_bipush (q := 44) dX7_in_42 rfl (by decide) (by omega) ?_
          refine aw_iload_n (q := 45) dX7_in_44 rfl rfl rfl ?_
          refine aw_imul (q := 46) dX7_in_45 rfl (by omega) ?_
          refine aw_iload_n (q := 47) dX7_in_46 rfl rfl rfl ?_
          refine aw_iadd (q := 48) dX7_in_47 rfl (by omega) ?_
          refine aw_iload_n (q := 49) dX7_in_48 rfl rfl rfl ?_
          refine aw_callV [vI ((60 * i) + p), vI (j)] (q := 52) dX7_in_49 rfl ck_X7_isIn lk_X7_156 rfl ⟨Nat.le_of_ble_eq_true rfl, Nat.le_of_ble_eq_true rfl⟩ rfl rfl h82 rfl (Nat.le_of_ble_eq_true rfl) (by decide) (m_X7_isIn (d := d) (p := r) (f := f) (by omega) hd5 hr hjf hf4 hm0 hO) rfl (fun _ _ _ h => (Rt_x h).elim) ?_
          rintro v n9 μ9 - ⟨v9, hv9, hn9, hm9, z9, rfl, hz9⟩
          obtain rfl := hn9.symm
          obtain rfl := hm9.symm
          obtain rfl := Sum.inl.inj hv9
          exact aw_zret dX7_in_52 rfl (hz9.elim (fun h => Or.inr h.1) (fun h => Or.inl h.1)) (by decide) (by decide) ⟨rfl, FrR_w hF0 (by omega) (by omega), _, rfl, by rw [tx1_0 ⟨by assumption, by omega⟩]; exact hm0, fun _ => by rw [hid, hpr, hjt]; exact hz9⟩
        · skip
          omega
      · skip
        refine aw_iconst (q := 28) dX7_in_27 rfl (by omega) ?_
        refine aw_goto (q := 32) dX7_in_28 (by decide) ?_
        refine aw_iconst (q := 33) dX7_in_32 rfl (by omega) ?_
        refine aw_callV [vI (1), vI (1)] (q := 36) dX7_in_33 rfl ck_X7_fails lk_X7_82 rfl ⟨Nat.le_of_ble_eq_true rfl, Nat.le_of_ble_eq_true rfl⟩ rfl rfl h82 rfl (Nat.le_of_ble_eq_true rfl) (by decide) (m_X7_fails_t h82 (by omega)) rfl (fun _ _ _ h => (Rt_x h).elim) ?_
        rintro v n9 μ9 - ⟨v9, hv9, hn9, hm9, rfl⟩
        obtain rfl := hn9.symm
        obtain rfl := hm9.symm
        obtain rfl := Sum.inl.inj hv9
        refine aw_if_eq (t := 41) (q := 39) dX7_in_36 rfl (by decide) (fun bc7 => ?_) (fun bc7 => ?_)
        · skip
          omega
        · skip
          refine aw_iconst (q := 40) dX7_in_39 rfl (by omega) ?_
          exact aw_zret dX7_in_40 rfl (Or.inl rfl) (by decide) (by decide) ⟨rfl, FrR_w (FrR_tr hF0 (FrR_hu FrR_rf (by omega))) (by omega) (by omega), 0, rfl, by rw [tx1_1 (fun h9 => by first | exact absurd h9.1 (by assumption) | (have h8 := h9.2; omega))]; exact MM_o hm0, fun h9 => absurd h9 (fun h9 => by first | exact absurd h9.1 (by assumption) | (have h8 := h9.2; omega))⟩
set_option maxHeartbeats 4000000 in
set_option maxRecDepth 100000 in
theorem m_X7_port {n : Nat} {μ : AH} {th B : Int} {D : Nat} {dv : Nat → DVt} {Fn : Nat} {fv : Nat → FVt} {sv : SVt} {pk fd : Nat × (Nat → Int)} {spd lim : Int} {i p : Int} (hm : MM μ th D dv Fn fv sv pk fd spd lim) (hO : COk B D dv Fn fv sv pk fd spd lim) : AMet YX7_port [vR 82, vI (i), vI (p)] n μ (fun o n' μ' => n' = n ∧ FrR 82 101 μ μ' ∧ ∃ v : Int, o = .inl (some (vI v)) ∧ MM μ' (tx1 ((0 ≤ i ∧ i < (D : Int)) ∧ 0 ≤ p ∧ p < ((dv i.toNat).1 : Int))) D dv Fn fv sv pk fd spd lim ∧ (((0 ≤ i ∧ i < (D : Int)) ∧ 0 ≤ p ∧ p < ((dv i.toNat).1 : Int)) → PortR Fn (fun e => inF (fv e).1 (fv e).2.1 (fv e).2.2 ((dv i.toNat).2.2.1 p.toNat) ((dv i.toNat).2.2.2.1 p.toNat)) v)) := by
  refine AMet.of (by decide) rfl (Nat.le_of_ble_eq_true rfl) ?_
  obtain ⟨at7, ls7, wy7, c7, t7, F7, G7, H7, k7, a7, b7, e7, X7, Y7, y7, o7, r7, s7, u7, v7, w7, h82, h83, h84, h85, h86, h87, h88, h89, h90, h91, h92, h93, h94, h95, h96, h97, h98, h99, h100, ag1, ag2, ag3, ag4, ag5, ag6, ag7, ag8⟩ := id hm
  obtain ⟨hN, hdv, hFn, hfv, hsn, hsb, hpk, hfd, hfb, hs1, hs2, hl1, hl2⟩ := id hO
  refine aw_aload_n (q := 1) dX7_port_0 rfl rfl rfl ?_
  refine aw_iconst (q := 2) dX7_port_1 rfl (by omega) ?_
  refine aw_put (q := 5) dX7_port_2 rfl fp_X7_72 h82 (Nat.le_of_ble_eq_true rfl) trivial ?_
  refine mm_z (at' := at7) (ls' := ls7) (wy' := wy7) hm (fun μ0 hm0 hF0 => ?_)
  obtain ⟨at7, ls7, wy7, c7, t7, F7, G7, H7, k7, a7, b7, e7, X7, Y7, y7, o7, r7, s7, u7, v7, w7, h82, h83, h84, h85, h86, h87, h88, h89, h90, h91, h92, h93, h94, h95, h96, h97, h98, h99, h100, ag1, ag2, ag3, ag4, ag5, ag6, ag7, ag8⟩ := id hm0
  refine aw_aload_n (q := 6) dX7_port_5 rfl rfl rfl ?_
  refine aw_aload_n (q := 7) dX7_port_6 rfl rfl rfl ?_
  refine aw_iload_n (q := 8) dX7_port_7 rfl rfl rfl ?_
  refine aw_iload_n (q := 9) dX7_port_8 rfl rfl rfl ?_
  refine aw_callV [vI (i), vI (p)] (q := 12) dX7_port_9 rfl ck_X7_isPlace lk_X7_110 rfl ⟨Nat.le_of_ble_eq_true rfl, Nat.le_of_ble_eq_true rfl⟩ rfl rfl h82 rfl (Nat.le_of_ble_eq_true rfl) (by decide) (m_X7_isPlace hm0 hO) rfl (fun _ _ _ h => (Rt_x h).elim) ?_
  rintro v n9 μ9 - ⟨v9, hv9, hn9, hm9, rfl⟩
  obtain rfl := hn9.symm
  obtain rfl := hm9.symm
  obtain rfl := Sum.inl.inj hv9
  refine aw_if_ne (t := 19) (q := 15) dX7_port_12 rfl (by decide) (fun bc1 => ?_) (fun bc1 => ?_)
  · skip
    replace bc1 := bz_n0.mp bc1
    refine aw_iconst (q := 20) dX7_port_19 rfl (by omega) ?_
    refine aw_iconst (q := 21) dX7_port_20 rfl (by omega) ?_
    refine aw_callV [vI (0), vI (1)] (q := 24) dX7_port_21 rfl ck_X7_fails lk_X7_82 rfl ⟨Nat.le_of_ble_eq_true rfl, Nat.le_of_ble_eq_true rfl⟩ rfl rfl h82 rfl (Nat.le_of_ble_eq_true rfl) (by decide) (m_X7_fails_f h82) rfl (fun _ _ _ h => (Rt_x h).elim) ?_
    rintro v n9 μ9 - ⟨v9, hv9, hn9, hm9, rfl⟩
    obtain rfl := hn9.symm
    obtain rfl := hm9.symm
    obtain rfl := Sum.inl.inj hv9
    refine aw_if_eq (t := 29) (q := 27) dX7_port_24 rfl (by decide) (fun bc2 => ?_) (fun bc2 => ?_)
    · skip
      refine aw_iconst (q := 30) dX7_port_29 rfl (by omega) ?_
      refine aw_istore_n (q := 31) dX7_port_30 rfl rfl (by decide) ?_
      obtain ⟨d, hi⟩ : ∃ d : Nat, i = (d : Int) := ⟨i.toNat, by omega⟩
      have hid : i.toNat = d := by omega
      have hd5 : d < 5 := by omega
      have hcd := ag1 d hd5
      have hdo := (hdv d hd5).1
      have hc60 : (dv d).1 ≤ 60 := hdo.1
      have hk8 : (dv d).2.2.2.2.2.1 ≤ 8 := hdo.2.2.2.1
      have hplc : (0 ≤ i ∧ i < (D : Int)) ∧ 0 ≤ p ∧ p < ((dv i.toNat).1 : Int) := by assumption
      rw [hid] at hplc
      obtain ⟨r, hp⟩ : ∃ r : Nat, p = (r : Int) := ⟨p.toNat, by omega⟩
      have hr : r < (dv d).1 := by omega
      have hpr : p.toNat = r := by omega
      have hag := ag2 d r hd5 hr
      have hbr := hdo.2.1 r hr
      have lp : ∀ (jlp : Nat) (f : Nat) (jx : Int), Fn - f < jlp → jx = (f : Int) → (∀ e9, e9 < f → ¬ inF (fv e9).1 (fv e9).2.1 (fv e9).2.2 ((dv d).2.2.1 r) ((dv d).2.2.2.1 r)) → AW YX7_port none (fun o n' μ' => n' = n ∧ FrR 82 101 μ μ' ∧ ∃ v : Int, o = .inl (some (vI v)) ∧ MM μ' (tx1 ((0 ≤ i ∧ i < (D : Int)) ∧ 0 ≤ p ∧ p < ((dv i.toNat).1 : Int))) D dv Fn fv sv pk fd spd lim ∧ (((0 ≤ i ∧ i < (D : Int)) ∧ 0 ≤ p ∧ p < ((dv i.toNat).1 : Int)) → PortR Fn (fun e => inF (fv e).1 (fv e).2.1 (fv e).2.2 ((dv i.toNat).2.2.1 p.toNat) ((dv i.toNat).2.2.2.1 p.toNat)) v)) 31 [some (vR 82), some (vI (i)), some (vI (p)), some (vI (jx))] [] n μ0 0 0 := by
        intro jlp
        induction jlp with
        | zero => intro f jx hj; exact absurd hj (Nat.not_lt_zero _)
        | succ jlp ihlp =>
          intro f jx hjlp hjf hno
          refine aw_iload_n (q := 32) dX7_port_31 rfl rfl rfl ?_
          refine aw_aload_n (q := 33) dX7_port_32 rfl rfl rfl ?_
          refine aw_get (q := 36) dX7_port_33 rfl fl_X7_153 h82 rfl (fun _ => ?_)
          refine aw_ic_ge (t := 61) (q := 39) dX7_port_36 rfl (by decide) (fun bc1 => ?_) (fun bc1 => ?_)
          · skip
            refine aw_iconst (q := 62) dX7_port_61 rfl (by omega) ?_
            exact aw_iret dX7_port_62 rfl (by decide) (by decide) ⟨rfl, FrR_w hF0 (by omega) (by omega), _, rfl, by rw [tx1_0 (by assumption)]; exact hm0, fun _ => by rw [hid, hpr]; exact Or.inr ⟨rfl, fun e9 h9 => hno e9 (by omega)⟩⟩
          · skip
            refine aw_aload_n (q := 40) dX7_port_39 rfl rfl rfl ?_
            refine aw_bipush (q := 42) dX7_port_40 rfl (by decide) (by omega) ?_
            refine aw_iload_n (q := 43) dX7_port_42 rfl rfl rfl ?_
            refine aw_imul (q := 44) dX7_port_43 rfl (by omega) ?_
            refine aw_iload_n (q := 45) dX7_port_44 rfl rfl rfl ?_
            refine aw_iadd (q := 46) dX7_port_45 rfl (by omega) ?_
            refine aw_iload_n (q := 47) dX7_port_46 rfl rfl rfl ?_
            refine aw_callV [vI ((60 * i) + p), vI (jx)] (q := 50) dX7_port_47 rfl ck_X7_isIn lk_X7_156 rfl ⟨Nat.le_of_ble_eq_true rfl, Nat.le_of_ble_eq_true rfl⟩ rfl rfl h82 rfl (Nat.le_of_ble_eq_true rfl) (by decide) (m_X7_isIn (d := d) (p := r) (f := f) (by omega) hd5 hr hjf (by omega) hm0 hO) rfl (fun _ _ _ h => (Rt_x h).elim) ?_
            rintro v n9 μ9 - ⟨v9, hv9, hn9, hm9, z9, rfl, hz9⟩
            obtain rfl := hn9.symm
            obtain rfl := hm9.symm
            obtain rfl := Sum.inl.inj hv9
            refine aw_if_eq (t := 55) (q := 53) dX7_port_50 rfl (by decide) (fun bc2 => ?_) (fun bc2 => ?_)
            · skip
              refine aw_iinc (q := 58) dX7_port_55 rfl rfl (by decide) (by omega) ?_
              refine aw_goto (q := 31) dX7_port_58 (by decide) ?_
              exact ihlp (f + 1) _ (by omega) (by omega) (fun e9 h9 => by rcases Nat.lt_succ_iff_lt_or_eq.mp h9 with q | q; exact hno e9 q; subst q; exact (hz9.resolve_left (fun h => by omega)).2)
            · skip
              refine aw_iload_n (q := 54) dX7_port_53 rfl rfl rfl ?_
              exact aw_iret dX7_port_54 rfl (by decide) (by decide) ⟨rfl, FrR_w hF0 (by omega) (by omega), _, rfl, by rw [tx1_0 (by assumption)]; exact hm0, fun _ => by rw [hid, hpr]; exact Or.inl ⟨f, hjf, by omega, (hz9.resolve_right (fun h => by omega)).2, hno⟩⟩
      exact lp (Fn + 1) 0 _ (by omega) rfl (fun e9 h9 => absurd h9 (Nat.not_lt_zero _))
    · skip
      omega
  · skip
    replace bc1 := bz_0.mp bc1
    refine aw_iconst (q := 16) dX7_port_15 rfl (by omega) ?_
    refine aw_goto (q := 20) dX7_port_16 (by decide) ?_
    refine aw_iconst (q := 21) dX7_port_20 rfl (by omega) ?_
    refine aw_callV [vI (1), vI (1)] (q := 24) dX7_port_21 rfl ck_X7_fails lk_X7_82 rfl ⟨Nat.le_of_ble_eq_true rfl, Nat.le_of_ble_eq_true rfl⟩ rfl rfl h82 rfl (Nat.le_of_ble_eq_true rfl) (by decide) (m_X7_fails_t h82 (by omega)) rfl (fun _ _ _ h => (Rt_x h).elim) ?_
    rintro v n9 μ9 - ⟨v9, hv9, hn9, hm9, rfl⟩
    obtain rfl := hn9.symm
    obtain rfl := hm9.symm
    obtain rfl := Sum.inl.inj hv9
    refine aw_if_eq (t := 29) (q := 27) dX7_port_24 rfl (by decide) (fun bc3 => ?_) (fun bc3 => ?_)
    · skip
      omega
    · skip
      refine aw_iconst (q := 28) dX7_port_27 rfl (by omega) ?_
      exact aw_iret dX7_port_28 rfl (by decide) (by decide) ⟨rfl, FrR_w (FrR_tr hF0 (FrR_hu FrR_rf (by omega))) (by omega) (by omega), 0, rfl, by rw [tx1_1 (by assumption)]; exact MM_o hm0, fun h9 => absurd h9 (by assumption)⟩
