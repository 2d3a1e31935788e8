/-! ===== the wrappers over the class (written by m_lawf.py) ===== -/
theorem WR_v {cs : List (String × Int)} {o9 : Nat → Int} {o : AOut} {μ1 μ' : AH} {v : AV} (h : WR cs o9 o μ1 v μ') : ∃ k9 : Int, v = vI k9 := by
  rcases h with ⟨r, _, h, _⟩ | ⟨E, c, _, _, h, _⟩
  · exact ⟨0, h⟩
  · exact ⟨c, h⟩
set_option maxHeartbeats 4000000 in
theorem q6_device {n n1 : Nat} {μ μ1 : AH} {D : Nat} {dv : Nat → DVt} {Fn : Nat} {fv : Nat → FVt} {sv : SVt} {pk fd : Nat × (Nat → Int)} {spd lim : Int}  {o : AOut} (hQ : ((fun o n' μ' => n' = n ∧ (((D < 5) ∧ o = .inl (some (vI (D : Int))) ∧ CH μ' (D + 1) dv Fn fv sv pk fd spd lim ∧ FrC μ μ') ∨ (¬ D < 5 ∧ o = .inr IS ∧ μ' = μ))) : AQ) o n1 μ1) : n1 = n ∧ (∀ b, 82 ≤ b → μ1 b = μ b) ∧ ((∃ r : Int, o = .inl (some (vI r))) ∨ o = .inr IS) := by
  obtain ⟨h1, hQ⟩ := hQ
  rcases hQ with ⟨_, a2, _, a4⟩ | ⟨_, a2, a3⟩
  · exact ⟨h1, fun b hb => a4 b hb, Or.inl ⟨_, a2⟩⟩
  · exact ⟨h1, fun b _ => by rw [a3], Or.inr (a2)⟩
set_option maxHeartbeats 4000000 in
theorem lf_device {n : Nat} {μ : AH} {B : Int} {D : Nat} {dv : Nat → DVt} {Fn : Nat} {fv : Nat → FVt} {sv : SVt} {pk fd : Nat × (Nat → Int)} {spd lim : Int}  {o9 : Nat → Int} (hC : CH μ D dv Fn fv sv pk fd spd lim) (hO : COk B D dv Fn fv sv pk fd spd lim) (h101 : μ 101 = oL 1 o9) : AMet YL_device [vR 0, vR 101] n μ (Rt (fun v n' μ' => n' = n ∧ ∃ k9 : Int, v = vI k9 ∧ (∀ b, 82 ≤ b → b ≠ 101 → μ' b = μ b) ∧ ∃ (o : AOut) (μ1 : AH), ((fun o n' μ' => n' = n ∧ (((D < 5) ∧ o = .inl (some (vI (D : Int))) ∧ CH μ' (D + 1) dv Fn fv sv pk fd spd lim ∧ FrC μ μ') ∨ (¬ D < 5 ∧ o = .inr IS ∧ μ' = μ))) : AQ) o n μ1 ∧ WR [(IS, 1)] o9 o μ1 (vI k9) μ')) :=
  (w_device (m_X6_device hC hO) hC.1 (fun o n1 μ1 hQ => by have h := q6_device (D := D) (dv := dv) (Fn := Fn) (fv := fv) (sv := sv) (pk := pk) (fd := fd) (spd := spd) (lim := lim) hQ; exact ⟨h.1, (h.2.1 101 (by omega)).trans h101, h.2.2⟩)).mono (fun o' n1 μ2 h => by
    obtain ⟨v, hv, hn, o, μ1, hQ, hW⟩ := h
    obtain ⟨k9, hk⟩ := WR_v hW
    subst hk
    exact ⟨_, hv, hn, k9, rfl, fun b h1 h2 => (WR_k hW b h2).trans ((q6_device (D := D) (dv := dv) (Fn := Fn) (fv := fv) (sv := sv) (pk := pk) (fd := fd) (spd := spd) (lim := lim) hQ).2.1 b h1), o, μ1, hQ, hW⟩)
set_option maxHeartbeats 4000000 in
theorem q6_place {n n1 : Nat} {μ μ1 : AH} {D : Nat} {dv : Nat → DVt} {Fn : Nat} {fv : Nat → FVt} {sv : SVt} {pk fd : Nat × (Nat → Int)} {spd lim : Int} {i s x y : Int} {o : AOut} (hQ : ((fun o n' μ' => n' = n ∧ ((¬ (0 ≤ i ∧ i < (D : Int)) ∧ o = .inr IX ∧ μ' = μ) ∨ (((0 ≤ i ∧ i < (D : Int)) ∧ ¬ (0 ≤ s ∧ s ≤ 1000000 ∧ -100000 ≤ x ∧ x ≤ 100000 ∧ -100000 ≤ y ∧ y ≤ 100000)) ∧ o = .inr IA ∧ μ' = μ) ∨ (((((0 ≤ i ∧ i < (D : Int)) ∧ 0 ≤ s ∧ s ≤ 1000000 ∧ -100000 ≤ x ∧ x ≤ 100000 ∧ -100000 ≤ y ∧ y ≤ 100000) ∧ plHas (dv i.toNat) s) ∧ plSame (dv i.toNat) s x y) ∧ o = .inl (some (vI (-2))) ∧ CH μ' D (dvu dv i.toNat (dvTw (dv i.toNat))) Fn fv sv pk fd spd lim ∧ FrC μ μ') ∨ (((((0 ≤ i ∧ i < (D : Int)) ∧ 0 ≤ s ∧ s ≤ 1000000 ∧ -100000 ≤ x ∧ x ≤ 100000 ∧ -100000 ≤ y ∧ y ≤ 100000) ∧ plHas (dv i.toNat) s) ∧ ¬ plSame (dv i.toNat) s x y) ∧ o = .inr IA ∧ μ' = μ) ∨ (((((0 ≤ i ∧ i < (D : Int)) ∧ 0 ≤ s ∧ s ≤ 1000000 ∧ -100000 ≤ x ∧ x ≤ 100000 ∧ -100000 ≤ y ∧ y ≤ 100000) ∧ ¬ plHas (dv i.toNat) s) ∧ ¬ (dv i.toNat).1 < 60) ∧ o = .inr IS ∧ μ' = μ) ∨ (((((0 ≤ i ∧ i < (D : Int)) ∧ 0 ≤ s ∧ s ≤ 1000000 ∧ -100000 ≤ x ∧ x ≤ 100000 ∧ -100000 ≤ y ∧ y ≤ 100000) ∧ ¬ plHas (dv i.toNat) s) ∧ (dv i.toNat).1 < 60) ∧ o = .inl (some (vI (plc (dv i.toNat) s : Int))) ∧ CH μ' D (dvu dv i.toNat (dvIns (dv i.toNat) s x y)) Fn fv sv pk fd spd lim ∧ FrC μ μ'))) : AQ) o n1 μ1) : n1 = n ∧ (∀ b, 82 ≤ b → μ1 b = μ b) ∧ ((∃ r : Int, o = .inl (some (vI r))) ∨ o = .inr IX ∨ o = .inr IA ∨ o = .inr IS) := by
  obtain ⟨h1, hQ⟩ := hQ
  rcases hQ with ⟨_, a2, a3⟩ | ⟨_, a2, a3⟩ | ⟨_, a2, _, a4⟩ | ⟨_, a2, a3⟩ | ⟨_, a2, a3⟩ | ⟨_, a2, _, a4⟩
  · exact ⟨h1, fun b _ => by rw [a3], Or.inr (Or.inl a2)⟩
  · exact ⟨h1, fun b _ => by rw [a3], Or.inr (Or.inr (Or.inl a2))⟩
  · exact ⟨h1, fun b hb => a4 b hb, Or.inl ⟨_, a2⟩⟩
  · exact ⟨h1, fun b _ => by rw [a3], Or.inr (Or.inr (Or.inl a2))⟩
  · exact ⟨h1, fun b _ => by rw [a3], Or.inr (Or.inr (Or.inr (a2)))⟩
  · exact ⟨h1, fun b hb => a4 b hb, Or.inl ⟨_, a2⟩⟩
set_option maxHeartbeats 4000000 in
theorem lf_place {n : Nat} {μ : AH} {B : Int} {D : Nat} {dv : Nat → DVt} {Fn : Nat} {fv : Nat → FVt} {sv : SVt} {pk fd : Nat × (Nat → Int)} {spd lim : Int} {i s x y : Int} {o9 : Nat → Int} (hB9 : B ≤ 1000000) (hC : CH μ D dv Fn fv sv pk fd spd lim) (hO : COk B D dv Fn fv sv pk fd spd lim) (h101 : μ 101 = oL 1 o9) : AMet YL_place [vR 0, vI (i), vI (s), vI (x), vI (y), vR 101] n μ (Rt (fun v n' μ' => n' = n ∧ ∃ k9 : Int, v = vI k9 ∧ (∀ b, 82 ≤ b → b ≠ 101 → μ' b = μ b) ∧ ∃ (o : AOut) (μ1 : AH), ((fun o n' μ' => n' = n ∧ ((¬ (0 ≤ i ∧ i < (D : Int)) ∧ o = .inr IX ∧ μ' = μ) ∨ (((0 ≤ i ∧ i < (D : Int)) ∧ ¬ (0 ≤ s ∧ s ≤ 1000000 ∧ -100000 ≤ x ∧ x ≤ 100000 ∧ -100000 ≤ y ∧ y ≤ 100000)) ∧ o = .inr IA ∧ μ' = μ) ∨ (((((0 ≤ i ∧ i < (D : Int)) ∧ 0 ≤ s ∧ s ≤ 1000000 ∧ -100000 ≤ x ∧ x ≤ 100000 ∧ -100000 ≤ y ∧ y ≤ 100000) ∧ plHas (dv i.toNat) s) ∧ plSame (dv i.toNat) s x y) ∧ o = .inl (some (vI (-2))) ∧ CH μ' D (dvu dv i.toNat (dvTw (dv i.toNat))) Fn fv sv pk fd spd lim ∧ FrC μ μ') ∨ (((((0 ≤ i ∧ i < (D : Int)) ∧ 0 ≤ s ∧ s ≤ 1000000 ∧ -100000 ≤ x ∧ x ≤ 100000 ∧ -100000 ≤ y ∧ y ≤ 100000) ∧ plHas (dv i.toNat) s) ∧ ¬ plSame (dv i.toNat) s x y) ∧ o = .inr IA ∧ μ' = μ) ∨ (((((0 ≤ i ∧ i < (D : Int)) ∧ 0 ≤ s ∧ s ≤ 1000000 ∧ -100000 ≤ x ∧ x ≤ 100000 ∧ -100000 ≤ y ∧ y ≤ 100000) ∧ ¬ plHas (dv i.toNat) s) ∧ ¬ (dv i.toNat).1 < 60) ∧ o = .inr IS ∧ μ' = μ) ∨ (((((0 ≤ i ∧ i < (D : Int)) ∧ 0 ≤ s ∧ s ≤ 1000000 ∧ -100000 ≤ x ∧ x ≤ 100000 ∧ -100000 ≤ y ∧ y ≤ 100000) ∧ ¬ plHas (dv i.toNat) s) ∧ (dv i.toNat).1 < 60) ∧ o = .inl (some (vI (plc (dv i.toNat) s : Int))) ∧ CH μ' D (dvu dv i.toNat (dvIns (dv i.toNat) s x y)) Fn fv sv pk fd spd lim ∧ FrC μ μ'))) : AQ) o n μ1 ∧ WR [(IX, 1), (IA, 2), (IS, 3)] o9 o μ1 (vI k9) μ')) :=
  (w_place (m_X6_place hB9 hC hO) hC.1 (fun o n1 μ1 hQ => by have h := q6_place (D := D) (dv := dv) (Fn := Fn) (fv := fv) (sv := sv) (pk := pk) (fd := fd) (spd := spd) (lim := lim) hQ; exact ⟨h.1, (h.2.1 101 (by omega)).trans h101, h.2.2⟩)).mono (fun o' n1 μ2 h => by
    obtain ⟨v, hv, hn, o, μ1, hQ, hW⟩ := h
    obtain ⟨k9, hk⟩ := WR_v hW
    subst hk
    exact ⟨_, hv, hn, k9, rfl, fun b h1 h2 => (WR_k hW b h2).trans ((q6_place (D := D) (dv := dv) (Fn := Fn) (fv := fv) (sv := sv) (pk := pk) (fd := fd) (spd := spd) (lim := lim) hQ).2.1 b h1), o, μ1, hQ, hW⟩)
set_option maxHeartbeats 4000000 in
theorem q6_has {n n1 : Nat} {μ μ1 : AH} {D : Nat} {dv : Nat → DVt} {Fn : Nat} {fv : Nat → FVt} {sv : SVt} {pk fd : Nat × (Nat → Int)} {spd lim : Int} {i w : Int} {o : AOut} (hQ : ((Pu n μ (ox (0 ≤ i ∧ i < (D : Int)) IX (ox (0 ≤ w ∧ w ≤ 4) IA (.inl (some (vI (hasV (dv i.toNat) spd lim w))))))) : AQ) o n1 μ1) : n1 = n ∧ (∀ b, 82 ≤ b → μ1 b = μ b) ∧ ((∃ r : Int, o = .inl (some (vI r))) ∨ o = .inr IX ∨ o = .inr IA) := by
  obtain ⟨h1, h2, h3⟩ := hQ
  refine ⟨h1, fun b _ => by rw [h2], ?_⟩
  by_cases p9 : 0 ≤ i ∧ i < (D : Int)
  · by_cases r9 : 0 ≤ w ∧ w ≤ 4
    · exact Or.inl ⟨_, h3.trans ((ox_t p9).trans (ox_t r9))⟩
    · exact Or.inr (Or.inr (h3.trans ((ox_t p9).trans (ox_f r9))))
  · exact Or.inr (Or.inl (h3.trans (ox_f p9)))
set_option maxHeartbeats 4000000 in
theorem lf_has {n : Nat} {μ : AH} {B : Int} {D : Nat} {dv : Nat → DVt} {Fn : Nat} {fv : Nat → FVt} {sv : SVt} {pk fd : Nat × (Nat → Int)} {spd lim : Int} {i w : Int} {o9 : Nat → Int} (hC : CH μ D dv Fn fv sv pk fd spd lim) (hO : COk B D dv Fn fv sv pk fd spd lim) (h101 : μ 101 = oL 1 o9) : AMet YL_has [vR 0, vI (i), vI (w), vR 101] n μ (Rt (fun v n' μ' => n' = n ∧ ∃ k9 : Int, v = vI k9 ∧ (∀ b, 82 ≤ b → b ≠ 101 → μ' b = μ b) ∧ ∃ (o : AOut) (μ1 : AH), ((Pu n μ (ox (0 ≤ i ∧ i < (D : Int)) IX (ox (0 ≤ w ∧ w ≤ 4) IA (.inl (some (vI (hasV (dv i.toNat) spd lim w))))))) : AQ) o n μ1 ∧ WR [(IX, 1), (IA, 2)] o9 o μ1 (vI k9) μ')) :=
  (w_has (m_X6_has hC hO) hC.1 (fun o n1 μ1 hQ => by have h := q6_has (D := D) (dv := dv) (Fn := Fn) (fv := fv) (sv := sv) (pk := pk) (fd := fd) (spd := spd) (lim := lim) hQ; exact ⟨h.1, (h.2.1 101 (by omega)).trans h101, h.2.2⟩)).mono (fun o' n1 μ2 h => by
    obtain ⟨v, hv, hn, o, μ1, hQ, hW⟩ := h
    obtain ⟨k9, hk⟩ := WR_v hW
    subst hk
    exact ⟨_, hv, hn, k9, rfl, fun b h1 h2 => (WR_k hW b h2).trans ((q6_has (D := D) (dv := dv) (Fn := Fn) (fv := fv) (sv := sv) (pk := pk) (fd := fd) (spd := spd) (lim := lim) hQ).2.1 b h1), o, μ1, hQ, hW⟩)
set_option maxHeartbeats 4000000 in
theorem q6_at {n n1 : Nat} {μ μ1 : AH} {D : Nat} {dv : Nat → DVt} {Fn : Nat} {fv : Nat → FVt} {sv : SVt} {pk fd : Nat × (Nat → Int)} {spd lim : Int} {i p w : Int} {o : AOut} (hQ : ((Pu n μ (ox ((0 ≤ i ∧ i < (D : Int)) ∧ 0 ≤ p ∧ p < ((dv i.toNat).1 : Int)) IX (ox (0 ≤ w ∧ w ≤ 3) IA (.inl (some (vI (atV (dv i.toNat) p w))))))) : AQ) o n1 μ1) : n1 = n ∧ (∀ b, 82 ≤ b → μ1 b = μ b) ∧ ((∃ r : Int, o = .inl (some (vI r))) ∨ o = .inr IX ∨ o = .inr IA) := by
  obtain ⟨h1, h2, h3⟩ := hQ
  refine ⟨h1, fun b _ => by rw [h2], ?_⟩
  by_cases p9 : (0 ≤ i ∧ i < (D : Int)) ∧ 0 ≤ p ∧ p < ((dv i.toNat).1 : Int)
  · by_cases r9 : 0 ≤ w ∧ w ≤ 3
    · exact Or.inl ⟨_, h3.trans ((ox_t p9).trans (ox_t r9))⟩
    · exact Or.inr (Or.inr (h3.trans ((ox_t p9).trans (ox_f r9))))
  · exact Or.inr (Or.inl (h3.trans (ox_f p9)))
set_option maxHeartbeats 4000000 in
theorem lf_at {n : Nat} {μ : AH} {B : Int} {D : Nat} {dv : Nat → DVt} {Fn : Nat} {fv : Nat → FVt} {sv : SVt} {pk fd : Nat × (Nat → Int)} {spd lim : Int} {i p w : Int} {o9 : Nat → Int} (hC : CH μ D dv Fn fv sv pk fd spd lim) (hO : COk B D dv Fn fv sv pk fd spd lim) (h101 : μ 101 = oL 1 o9) : AMet YL_at [vR 0, vI (i), vI (p), vI (w), vR 101] n μ (Rt (fun v n' μ' => n' = n ∧ ∃ k9 : Int, v = vI k9 ∧ (∀ b, 82 ≤ b → b ≠ 101 → μ' b = μ b) ∧ ∃ (o : AOut) (μ1 : AH), ((Pu n μ (ox ((0 ≤ i ∧ i < (D : Int)) ∧ 0 ≤ p ∧ p < ((dv i.toNat).1 : Int)) IX (ox (0 ≤ w ∧ w ≤ 3) IA (.inl (some (vI (atV (dv i.toNat) p w))))))) : AQ) o n μ1 ∧ WR [(IX, 1), (IA, 2)] o9 o μ1 (vI k9) μ')) :=
  (w_at (m_X6_at hC hO) hC.1 (fun o n1 μ1 hQ => by have h := q6_at (D := D) (dv := dv) (Fn := Fn) (fv := fv) (sv := sv) (pk := pk) (fd := fd) (spd := spd) (lim := lim) hQ; exact ⟨h.1, (h.2.1 101 (by omega)).trans h101, h.2.2⟩)).mono (fun o' n1 μ2 h => by
    obtain ⟨v, hv, hn, o, μ1, hQ, hW⟩ := h
    obtain ⟨k9, hk⟩ := WR_v hW
    subst hk
    exact ⟨_, hv, hn, k9, rfl, fun b h1 h2 => (WR_k hW b h2).trans ((q6_at (D := D) (dv := dv) (Fn := Fn) (fv := fv) (sv := sv) (pk := pk) (fd := fd) (spd := spd) (lim := lim) hQ).2.1 b h1), o, μ1, hQ, hW⟩)
set_option maxHeartbeats 4000000 in
theorem q6_mark {n n1 : Nat} {μ μ1 : AH} {D : Nat} {dv : Nat → DVt} {Fn : Nat} {fv : Nat → FVt} {sv : SVt} {pk fd : Nat × (Nat → Int)} {spd lim : Int} {i s t : Int} {o : AOut} (hQ : ((fun o n' μ' => n' = n ∧ ((¬ (0 ≤ i ∧ i < (D : Int)) ∧ o = .inr IX ∧ μ' = μ) ∨ (((0 ≤ i ∧ i < (D : Int)) ∧ ¬ ((0 ≤ s ∧ s ≤ 1000000) ∧ 0 ≤ t ∧ t ≤ 1000000)) ∧ o = .inr IA ∧ μ' = μ) ∨ ((((0 ≤ i ∧ i < (D : Int)) ∧ (0 ≤ s ∧ s ≤ 1000000) ∧ 0 ≤ t ∧ t ≤ 1000000) ∧ ¬ mkFit (dv i.toNat) s t) ∧ o = .inr IA ∧ μ' = μ) ∨ (((((0 ≤ i ∧ i < (D : Int)) ∧ (0 ≤ s ∧ s ≤ 1000000) ∧ 0 ≤ t ∧ t ≤ 1000000) ∧ mkFit (dv i.toNat) s t) ∧ ¬ (dv i.toNat).2.2.2.2.2.1 < 8) ∧ o = .inr IS ∧ μ' = μ) ∨ (((((0 ≤ i ∧ i < (D : Int)) ∧ (0 ≤ s ∧ s ≤ 1000000) ∧ 0 ≤ t ∧ t ≤ 1000000) ∧ mkFit (dv i.toNat) s t) ∧ (dv i.toNat).2.2.2.2.2.1 < 8) ∧ o = .inl (some (vI (((dv i.toNat).2.2.2.2.2.1 + 1 : Nat) : Int))) ∧ CH μ' D (dvu dv i.toNat (dvMk (dv i.toNat) s t)) Fn fv sv pk fd spd lim ∧ FrC μ μ'))) : AQ) o n1 μ1) : n1 = n ∧ (∀ b, 82 ≤ b → μ1 b = μ b) ∧ ((∃ r : Int, o = .inl (some (vI r))) ∨ o = .inr IX ∨ o = .inr IA ∨ o = .inr IS) := by
  obtain ⟨h1, hQ⟩ := hQ
  rcases hQ with ⟨_, a2, a3⟩ | ⟨_, a2, a3⟩ | ⟨_, a2, a3⟩ | ⟨_, a2, a3⟩ | ⟨_, a2, _, a4⟩
  · exact ⟨h1, fun b _ => by rw [a3], Or.inr (Or.inl a2)⟩
  · exact ⟨h1, fun b _ => by rw [a3], Or.inr (Or.inr (Or.inl a2))⟩
  · exact ⟨h1, fun b _ => by rw [a3], Or.inr (Or.inr (Or.inl a2))⟩
  · exact ⟨h1, fun b _ => by rw [a3], Or.inr (Or.inr (Or.inr (a2)))⟩
  · exact ⟨h1, fun b hb => a4 b hb, Or.inl ⟨_, a2⟩⟩
set_option maxHeartbeats 4000000 in
theorem lf_mark {n : Nat} {μ : AH} {B : Int} {D : Nat} {dv : Nat → DVt} {Fn : Nat} {fv : Nat → FVt} {sv : SVt} {pk fd : Nat × (Nat → Int)} {spd lim : Int} {i s t : Int} {o9 : Nat → Int} (hC : CH μ D dv Fn fv sv pk fd spd lim) (hO : COk B D dv Fn fv sv pk fd spd lim) (h101 : μ 101 = oL 1 o9) : AMet YL_mark [vR 0, vI (i), vI (s), vI (t), vR 101] n μ (Rt (fun v n' μ' => n' = n ∧ ∃ k9 : Int, v = vI k9 ∧ (∀ b, 82 ≤ b → b ≠ 101 → μ' b = μ b) ∧ ∃ (o : AOut) (μ1 : AH), ((fun o n' μ' => n' = n ∧ ((¬ (0 ≤ i ∧ i < (D : Int)) ∧ o = .inr IX ∧ μ' = μ) ∨ (((0 ≤ i ∧ i < (D : Int)) ∧ ¬ ((0 ≤ s ∧ s ≤ 1000000) ∧ 0 ≤ t ∧ t ≤ 1000000)) ∧ o = .inr IA ∧ μ' = μ) ∨ ((((0 ≤ i ∧ i < (D : Int)) ∧ (0 ≤ s ∧ s ≤ 1000000) ∧ 0 ≤ t ∧ t ≤ 1000000) ∧ ¬ mkFit (dv i.toNat) s t) ∧ o = .inr IA ∧ μ' = μ) ∨ (((((0 ≤ i ∧ i < (D : Int)) ∧ (0 ≤ s ∧ s ≤ 1000000) ∧ 0 ≤ t ∧ t ≤ 1000000) ∧ mkFit (dv i.toNat) s t) ∧ ¬ (dv i.toNat).2.2.2.2.2.1 < 8) ∧ o = .inr IS ∧ μ' = μ) ∨ (((((0 ≤ i ∧ i < (D : Int)) ∧ (0 ≤ s ∧ s ≤ 1000000) ∧ 0 ≤ t ∧ t ≤ 1000000) ∧ mkFit (dv i.toNat) s t) ∧ (dv i.toNat).2.2.2.2.2.1 < 8) ∧ o = .inl (some (vI (((dv i.toNat).2.2.2.2.2.1 + 1 : Nat) : Int))) ∧ CH μ' D (dvu dv i.toNat (dvMk (dv i.toNat) s t)) Fn fv sv pk fd spd lim ∧ FrC μ μ'))) : AQ) o n μ1 ∧ WR [(IX, 1), (IA, 2), (IS, 3)] o9 o μ1 (vI k9) μ')) :=
  (w_mark (m_X6_mark hC hO) hC.1 (fun o n1 μ1 hQ => by have h := q6_mark (D := D) (dv := dv) (Fn := Fn) (fv := fv) (sv := sv) (pk := pk) (fd := fd) (spd := spd) (lim := lim) hQ; exact ⟨h.1, (h.2.1 101 (by omega)).trans h101, h.2.2⟩)).mono (fun o' n1 μ2 h => by
    obtain ⟨v, hv, hn, o, μ1, hQ, hW⟩ := h
    obtain ⟨k9, hk⟩ := WR_v hW
    subst hk
    exact ⟨_, hv, hn, k9, rfl, fun b h1 h2 => (WR_k hW b h2).trans ((q6_mark (D := D) (dv := dv) (Fn := Fn) (fv := fv) (sv := sv) (pk := pk) (fd := fd) (spd := spd) (lim := lim) hQ).2.1 b h1), o, μ1, hQ, hW⟩)
set_option maxHeartbeats 4000000 in
theorem q6_time {n n1 : Nat} {μ μ1 : AH} {D : Nat} {dv : Nat → DVt} {Fn : Nat} {fv : Nat → FVt} {sv : SVt} {pk fd : Nat × (Nat → Int)} {spd lim : Int} {i s : Int} {o : AOut} (hQ : ((Pu n μ (ox (0 ≤ i ∧ i < (D : Int)) IX (ox (0 ≤ s ∧ s ≤ 1000000) IA (.inl (some (vI (tt (dv i.toNat).2.2.2.2.2.1 (dv i.toNat).2.2.2.2.2.2.1 (dv i.toNat).2.2.2.2.2.2.2 s))))))) : AQ) o n1 μ1) : n1 = n ∧ (∀ b, 82 ≤ b → μ1 b = μ b) ∧ ((∃ r : Int, o = .inl (some (vI r))) ∨ o = .inr IX ∨ o = .inr IA) := by
  obtain ⟨h1, h2, h3⟩ := hQ
  refine ⟨h1, fun b _ => by rw [h2], ?_⟩
  by_cases p9 : 0 ≤ i ∧ i < (D : Int)
  · by_cases r9 : 0 ≤ s ∧ s ≤ 1000000
    · exact Or.inl ⟨_, h3.trans ((ox_t p9).trans (ox_t r9))⟩
    · exact Or.inr (Or.inr (h3.trans ((ox_t p9).trans (ox_f r9))))
  · exact Or.inr (Or.inl (h3.trans (ox_f p9)))
set_option maxHeartbeats 4000000 in
theorem lf_time {n : Nat} {μ : AH} {B : Int} {D : Nat} {dv : Nat → DVt} {Fn : Nat} {fv : Nat → FVt} {sv : SVt} {pk fd : Nat × (Nat → Int)} {spd lim : Int} {i s : Int} {o9 : Nat → Int} (hC : CH μ D dv Fn fv sv pk fd spd lim) (hO : COk B D dv Fn fv sv pk fd spd lim) (h101 : μ 101 = oL 1 o9) : AMet YL_time [vR 0, vI (i), vI (s), vR 101] n μ (Rt (fun v n' μ' => n' = n ∧ ∃ k9 : Int, v = vI k9 ∧ (∀ b, 82 ≤ b → b ≠ 101 → μ' b = μ b) ∧ ∃ (o : AOut) (μ1 : AH), ((Pu n μ (ox (0 ≤ i ∧ i < (D : Int)) IX (ox (0 ≤ s ∧ s ≤ 1000000) IA (.inl (some (vI (tt (dv i.toNat).2.2.2.2.2.1 (dv i.toNat).2.2.2.2.2.2.1 (dv i.toNat).2.2.2.2.2.2.2 s))))))) : AQ) o n μ1 ∧ WR [(IX, 1), (IA, 2)] o9 o μ1 (vI k9) μ')) :=
  (w_time (m_X6_time hC hO) hC.1 (fun o n1 μ1 hQ => by have h := q6_time (D := D) (dv := dv) (Fn := Fn) (fv := fv) (sv := sv) (pk := pk) (fd := fd) (spd := spd) (lim := lim) hQ; exact ⟨h.1, (h.2.1 101 (by omega)).trans h101, h.2.2⟩)).mono (fun o' n1 μ2 h => by
    obtain ⟨v, hv, hn, o, μ1, hQ, hW⟩ := h
    obtain ⟨k9, hk⟩ := WR_v hW
    subst hk
    exact ⟨_, hv, hn, k9, rfl, fun b h1 h2 => (WR_k hW b h2).trans ((q6_time (D := D) (dv := dv) (Fn := Fn) (fv := fv) (sv := sv) (pk := pk) (fd := fd) (spd := spd) (lim := lim) hQ).2.1 b h1), o, μ1, hQ, hW⟩)
set_option maxHeartbeats 4000000 in
theorem q6_speed {n n1 : Nat} {μ μ1 : AH} {D : Nat} {dv : Nat → DVt} {Fn : Nat} {fv : Nat → FVt} {sv : SVt} {pk fd : Nat × (Nat → Int)} {spd lim : Int} {x : Int} {o : AOut} (hQ : ((fun o n' μ' => n' = n ∧ ((((1 ≤ x ∧ x ≤ 100)) ∧ o = .inl (some (vI spd)) ∧ CH μ' D dv Fn fv sv pk fd x lim ∧ FrC μ μ') ∨ (¬ (1 ≤ x ∧ x ≤ 100) ∧ o = .inr IA ∧ μ' = μ))) : AQ) o n1 μ1) : n1 = n ∧ (∀ b, 82 ≤ b → μ1 b = μ b) ∧ ((∃ r : Int, o = .inl (some (vI r))) ∨ o = .inr IA) := by
  obtain ⟨h1, hQ⟩ := hQ
  rcases hQ with ⟨_, a2, _, a4⟩ | ⟨_, a2, a3⟩
  · exact ⟨h1, fun b hb => a4 b hb, Or.inl ⟨_, a2⟩⟩
  · exact ⟨h1, fun b _ => by rw [a3], Or.inr (a2)⟩
set_option maxHeartbeats 4000000 in
theorem lf_speed {n : Nat} {μ : AH} {B : Int} {D : Nat} {dv : Nat → DVt} {Fn : Nat} {fv : Nat → FVt} {sv : SVt} {pk fd : Nat × (Nat → Int)} {spd lim : Int} {x : Int} {o9 : Nat → Int} (hC : CH μ D dv Fn fv sv pk fd spd lim) (hO : COk B D dv Fn fv sv pk fd spd lim) (h101 : μ 101 = oL 1 o9) : AMet YL_speed [vR 0, vI (x), vR 101] n μ (Rt (fun v n' μ' => n' = n ∧ ∃ k9 : Int, v = vI k9 ∧ (∀ b, 82 ≤ b → b ≠ 101 → μ' b = μ b) ∧ ∃ (o : AOut) (μ1 : AH), ((fun o n' μ' => n' = n ∧ ((((1 ≤ x ∧ x ≤ 100)) ∧ o = .inl (some (vI spd)) ∧ CH μ' D dv Fn fv sv pk fd x lim ∧ FrC μ μ') ∨ (¬ (1 ≤ x ∧ x ≤ 100) ∧ o = .inr IA ∧ μ' = μ))) : AQ) o n μ1 ∧ WR [(IA, 1)] o9 o μ1 (vI k9) μ')) :=
  (w_speed (m_X6_speed hC hO) hC.1 (fun o n1 μ1 hQ => by have h := q6_speed (D := D) (dv := dv) (Fn := Fn) (fv := fv) (sv := sv) (pk := pk) (fd := fd) (spd := spd) (lim := lim) hQ; exact ⟨h.1, (h.2.1 101 (by omega)).trans h101, h.2.2⟩)).mono (fun o' n1 μ2 h => by
    obtain ⟨v, hv, hn, o, μ1, hQ, hW⟩ := h
    obtain ⟨k9, hk⟩ := WR_v hW
    subst hk
    exact ⟨_, hv, hn, k9, rfl, fun b h1 h2 => (WR_k hW b h2).trans ((q6_speed (D := D) (dv := dv) (Fn := Fn) (fv := fv) (sv := sv) (pk := pk) (fd := fd) (spd := spd) (lim := lim) hQ).2.1 b h1), o, μ1, hQ, hW⟩)
set_option maxHeartbeats 4000000 in
theorem q6_limit {n n1 : Nat} {μ μ1 : AH} {D : Nat} {dv : Nat → DVt} {Fn : Nat} {fv : Nat → FVt} {sv : SVt} {pk fd : Nat × (Nat → Int)} {spd lim : Int} {x : Int} {o : AOut} (hQ : ((fun o n' μ' => n' = n ∧ ((((1 ≤ x ∧ x ≤ 100000)) ∧ o = .inl (some (vI lim)) ∧ CH μ' D dv Fn fv sv pk fd spd x ∧ FrC μ μ') ∨ (¬ (1 ≤ x ∧ x ≤ 100000) ∧ o = .inr IA ∧ μ' = μ))) : AQ) o n1 μ1) : n1 = n ∧ (∀ b, 82 ≤ b → μ1 b = μ b) ∧ ((∃ r : Int, o = .inl (some (vI r))) ∨ o = .inr IA) := by
  obtain ⟨h1, hQ⟩ := hQ
  rcases hQ with ⟨_, a2, _, a4⟩ | ⟨_, a2, a3⟩
  · exact ⟨h1, fun b hb => a4 b hb, Or.inl ⟨_, a2⟩⟩
  · exact ⟨h1, fun b _ => by rw [a3], Or.inr (a2)⟩
set_option maxHeartbeats 4000000 in
theorem lf_limit {n : Nat} {μ : AH} {B : Int} {D : Nat} {dv : Nat → DVt} {Fn : Nat} {fv : Nat → FVt} {sv : SVt} {pk fd : Nat × (Nat → Int)} {spd lim : Int} {x : Int} {o9 : Nat → Int} (hC : CH μ D dv Fn fv sv pk fd spd lim) (hO : COk B D dv Fn fv sv pk fd spd lim) (h101 : μ 101 = oL 1 o9) : AMet YL_limit [vR 0, vI (x), vR 101] n μ (Rt (fun v n' μ' => n' = n ∧ ∃ k9 : Int, v = vI k9 ∧ (∀ b, 82 ≤ b → b ≠ 101 → μ' b = μ b) ∧ ∃ (o : AOut) (μ1 : AH), ((fun o n' μ' => n' = n ∧ ((((1 ≤ x ∧ x ≤ 100000)) ∧ o = .inl (some (vI lim)) ∧ CH μ' D dv Fn fv sv pk fd spd x ∧ FrC μ μ') ∨ (¬ (1 ≤ x ∧ x ≤ 100000) ∧ o = .inr IA ∧ μ' = μ))) : AQ) o n μ1 ∧ WR [(IA, 1)] o9 o μ1 (vI k9) μ')) :=
  (w_limit (m_X6_limit hC hO) hC.1 (fun o n1 μ1 hQ => by have h := q6_limit (D := D) (dv := dv) (Fn := Fn) (fv := fv) (sv := sv) (pk := pk) (fd := fd) (spd := spd) (lim := lim) hQ; exact ⟨h.1, (h.2.1 101 (by omega)).trans h101, h.2.2⟩)).mono (fun o' n1 μ2 h => by
    obtain ⟨v, hv, hn, o, μ1, hQ, hW⟩ := h
    obtain ⟨k9, hk⟩ := WR_v hW
    subst hk
    exact ⟨_, hv, hn, k9, rfl, fun b h1 h2 => (WR_k hW b h2).trans ((q6_limit (D := D) (dv := dv) (Fn := Fn) (fv := fv) (sv := sv) (pk := pk) (fd := fd) (spd := spd) (lim := lim) hQ).2.1 b h1), o, μ1, hQ, hW⟩)
set_option maxHeartbeats 4000000 in
theorem q6_jump {n n1 : Nat} {μ μ1 : AH} {D : Nat} {dv : Nat → DVt} {Fn : Nat} {fv : Nat → FVt} {sv : SVt} {pk fd : Nat × (Nat → Int)} {spd lim : Int} {i k : Int} {o : AOut} (hQ : ((fun o n' μ' => n' = n ∧ μ' = μ ∧ ∃ v : Int, o = ox (0 ≤ i ∧ i < (D : Int)) IX (.inl (some (vI v))) ∧ ((0 ≤ i ∧ i < (D : Int)) → KthR (fun p => isJ (dv i.toNat).2.1 (dv i.toNat).2.2.1 (dv i.toNat).2.2.2.1 (dv i.toNat).2.2.2.2.2.1 (dv i.toNat).2.2.2.2.2.2.1 (dv i.toNat).2.2.2.2.2.2.2 spd p) (dv i.toNat).1 k v)) : AQ) o n1 μ1) : n1 = n ∧ (∀ b, 82 ≤ b → μ1 b = μ b) ∧ ((∃ r : Int, o = .inl (some (vI r))) ∨ o = .inr IX) := by
  obtain ⟨h1, h2, v, h3, _⟩ := hQ
  refine ⟨h1, fun b _ => by rw [h2], ?_⟩
  by_cases p9 : 0 ≤ i ∧ i < (D : Int)
  · exact Or.inl ⟨_, h3.trans (ox_t p9)⟩
  · exact Or.inr (h3.trans (ox_f p9))
set_option maxHeartbeats 4000000 in
theorem lf_jump {n : Nat} {μ : AH} {B : Int} {D : Nat} {dv : Nat → DVt} {Fn : Nat} {fv : Nat → FVt} {sv : SVt} {pk fd : Nat × (Nat → Int)} {spd lim : Int} {i k : Int} {o9 : Nat → Int} (hC : CH μ D dv Fn fv sv pk fd spd lim) (hO : COk B D dv Fn fv sv pk fd spd lim) (h101 : μ 101 = oL 1 o9) : AMet YL_jump [vR 0, vI (i), vI (k), vR 101] n μ (Rt (fun v n' μ' => n' = n ∧ ∃ k9 : Int, v = vI k9 ∧ (∀ b, 82 ≤ b → b ≠ 101 → μ' b = μ b) ∧ ∃ (o : AOut) (μ1 : AH), ((fun o n' μ' => n' = n ∧ μ' = μ ∧ ∃ v : Int, o = ox (0 ≤ i ∧ i < (D : Int)) IX (.inl (some (vI v))) ∧ ((0 ≤ i ∧ i < (D : Int)) → KthR (fun p => isJ (dv i.toNat).2.1 (dv i.toNat).2.2.1 (dv i.toNat).2.2.2.1 (dv i.toNat).2.2.2.2.2.1 (dv i.toNat).2.2.2.2.2.2.1 (dv i.toNat).2.2.2.2.2.2.2 spd p) (dv i.toNat).1 k v)) : AQ) o n μ1 ∧ WR [(IX, 1)] o9 o μ1 (vI k9) μ')) :=
  (w_jump (m_X6_jump hC hO) hC.1 (fun o n1 μ1 hQ => by have h := q6_jump (D := D) (dv := dv) (Fn := Fn) (fv := fv) (sv := sv) (pk := pk) (fd := fd) (spd := spd) (lim := lim) hQ; exact ⟨h.1, (h.2.1 101 (by omega)).trans h101, h.2.2⟩)).mono (fun o' n1 μ2 h => by
    obtain ⟨v, hv, hn, o, μ1, hQ, hW⟩ := h
    obtain ⟨k9, hk⟩ := WR_v hW
    subst hk
    exact ⟨_, hv, hn, k9, rfl, fun b h1 h2 => (WR_k hW b h2).trans ((q6_jump (D := D) (dv := dv) (Fn := Fn) (fv := fv) (sv := sv) (pk := pk) (fd := fd) (spd := spd) (lim := lim) hQ).2.1 b h1), o, μ1, hQ, hW⟩)
set_option maxHeartbeats 4000000 in
theorem q6_gap {n n1 : Nat} {μ μ1 : AH} {D : Nat} {dv : Nat → DVt} {Fn : Nat} {fv : Nat → FVt} {sv : SVt} {pk fd : Nat × (Nat → Int)} {spd lim : Int} {i k : Int} {o : AOut} (hQ : ((fun o n' μ' => n' = n ∧ μ' = μ ∧ ∃ v : Int, o = ox (0 ≤ i ∧ i < (D : Int)) IX (.inl (some (vI v))) ∧ ((0 ≤ i ∧ i < (D : Int)) → KthR (fun p => isG (dv i.toNat).2.1 (dv i.toNat).2.2.2.2.2.1 (dv i.toNat).2.2.2.2.2.2.1 (dv i.toNat).2.2.2.2.2.2.2 lim p) (dv i.toNat).1 k v)) : AQ) o n1 μ1) : n1 = n ∧ (∀ b, 82 ≤ b → μ1 b = μ b) ∧ ((∃ r : Int, o = .inl (some (vI r))) ∨ o = .inr IX) := by
  obtain ⟨h1, h2, v, h3, _⟩ := hQ
  refine ⟨h1, fun b _ => by rw [h2], ?_⟩
  by_cases p9 : 0 ≤ i ∧ i < (D : Int)
  · exact Or.inl ⟨_, h3.trans (ox_t p9)⟩
  · exact Or.inr (h3.trans (ox_f p9))
set_option maxHeartbeats 4000000 in
theorem lf_gap {n : Nat} {μ : AH} {B : Int} {D : Nat} {dv : Nat → DVt} {Fn : Nat} {fv : Nat → FVt} {sv : SVt} {pk fd : Nat × (Nat → Int)} {spd lim : Int} {i k : Int} {o9 : Nat → Int} (hC : CH μ D dv Fn fv sv pk fd spd lim) (hO : COk B D dv Fn fv sv pk fd spd lim) (h101 : μ 101 = oL 1 o9) : AMet YL_gap [vR 0, vI (i), vI (k), vR 101] n μ (Rt (fun v n' μ' => n' = n ∧ ∃ k9 : Int, v = vI k9 ∧ (∀ b, 82 ≤ b → b ≠ 101 → μ' b = μ b) ∧ ∃ (o : AOut) (μ1 : AH), ((fun o n' μ' => n' = n ∧ μ' = μ ∧ ∃ v : Int, o = ox (0 ≤ i ∧ i < (D : Int)) IX (.inl (some (vI v))) ∧ ((0 ≤ i ∧ i < (D : Int)) → KthR (fun p => isG (dv i.toNat).2.1 (dv i.toNat).2.2.2.2.2.1 (dv i.toNat).2.2.2.2.2.2.1 (dv i.toNat).2.2.2.2.2.2.2 lim p) (dv i.toNat).1 k v)) : AQ) o n μ1 ∧ WR [(IX, 1)] o9 o μ1 (vI k9) μ')) :=
  (w_gap (m_X6_gap hC hO) hC.1 (fun o n1 μ1 hQ => by have h := q6_gap (D := D) (dv := dv) (Fn := Fn) (fv := fv) (sv := sv) (pk := pk) (fd := fd) (spd := spd) (lim := lim) hQ; exact ⟨h.1, (h.2.1 101 (by omega)).trans h101, h.2.2⟩)).mono (fun o' n1 μ2 h => by
    obtain ⟨v, hv, hn, o, μ1, hQ, hW⟩ := h
    obtain ⟨k9, hk⟩ := WR_v hW
    subst hk
    exact ⟨_, hv, hn, k9, rfl, fun b h1 h2 => (WR_k hW b h2).trans ((q6_gap (D := D) (dv := dv) (Fn := Fn) (fv := fv) (sv := sv) (pk := pk) (fd := fd) (spd := spd) (lim := lim) hQ).2.1 b h1), o, μ1, hQ, hW⟩)
set_option maxHeartbeats 4000000 in
theorem q6_could {n n1 : Nat} {μ μ1 : AH} {D : Nat} {dv : Nat → DVt} {Fn : Nat} {fv : Nat → FVt} {sv : SVt} {pk fd : Nat × (Nat → Int)} {spd lim : Int} {i k a b : Int} {o : AOut} (hQ : ((fun o n' μ' => n' = n ∧ μ' = μ ∧ ∃ (p z : Int), ((0 ≤ i ∧ i < (D : Int)) → KthR (fun p => gapP (dv i.toNat) lim p) (dv i.toNat).1 k p) ∧ o = ox ((0 ≤ i ∧ i < (D : Int)) ∧ p ≠ -1) IX (ox ((-200 ≤ a ∧ a ≤ 200) ∧ -200 ≤ b ∧ b ≤ 200) IA (.inl (some (vI z)))) ∧ ((0 ≤ i ∧ i < (D : Int)) → p ≠ -1 → ((-200 ≤ a ∧ a ≤ 200) ∧ -200 ≤ b ∧ b ≤ 200) → cldR (dv i.toNat) spd p.toNat a b z)) : AQ) o n1 μ1) : n1 = n ∧ (∀ b, 82 ≤ b → μ1 b = μ b) ∧ ((∃ r : Int, o = .inl (some (vI r)) ∧ (r = 0 ∨ r = 1)) ∨ o = .inr IX ∨ o = .inr IA) := by
  obtain ⟨h1, h2, p, z, _, h3, h4⟩ := hQ
  refine ⟨h1, fun b _ => by rw [h2], ?_⟩
  by_cases p9 : (0 ≤ i ∧ i < (D : Int)) ∧ p ≠ -1
  · by_cases r9 : (-200 ≤ a ∧ a ≤ 200) ∧ -200 ≤ b ∧ b ≤ 200
    · refine Or.inl ⟨_, h3.trans ((ox_t p9).trans (ox_t r9)), ?_⟩
      obtain ⟨t1, t2, _, _, h5⟩ := h4 p9.1 p9.2 r9
      rw [h5]
      exact bz_01
    · exact Or.inr (Or.inr (h3.trans ((ox_t p9).trans (ox_f r9))))
  · exact Or.inr (Or.inl (h3.trans (ox_f p9)))
set_option maxHeartbeats 4000000 in
theorem lf_could {n : Nat} {μ : AH} {B : Int} {D : Nat} {dv : Nat → DVt} {Fn : Nat} {fv : Nat → FVt} {sv : SVt} {pk fd : Nat × (Nat → Int)} {spd lim : Int} {i k a b : Int} {o9 : Nat → Int} (hC : CH μ D dv Fn fv sv pk fd spd lim) (hO : COk B D dv Fn fv sv pk fd spd lim) (h101 : μ 101 = oL 1 o9) : AMet YL_could [vR 0, vI (i), vI (k), vI (a), vI (b), vR 101] n μ (Rt (fun v n' μ' => n' = n ∧ ∃ k9 : Int, v = vI k9 ∧ (∀ b, 82 ≤ b → b ≠ 101 → μ' b = μ b) ∧ ∃ (o : AOut) (μ1 : AH), ((fun o n' μ' => n' = n ∧ μ' = μ ∧ ∃ (p z : Int), ((0 ≤ i ∧ i < (D : Int)) → KthR (fun p => gapP (dv i.toNat) lim p) (dv i.toNat).1 k p) ∧ o = ox ((0 ≤ i ∧ i < (D : Int)) ∧ p ≠ -1) IX (ox ((-200 ≤ a ∧ a ≤ 200) ∧ -200 ≤ b ∧ b ≤ 200) IA (.inl (some (vI z)))) ∧ ((0 ≤ i ∧ i < (D : Int)) → p ≠ -1 → ((-200 ≤ a ∧ a ≤ 200) ∧ -200 ≤ b ∧ b ≤ 200) → cldR (dv i.toNat) spd p.toNat a b z)) : AQ) o n μ1 ∧ WR [(IX, 1), (IA, 2)] o9 o μ1 (vI k9) μ')) :=
  (w_could (m_X6_could hC hO) hC.1 (fun o n1 μ1 hQ => by have h := q6_could (D := D) (dv := dv) (Fn := Fn) (fv := fv) (sv := sv) (pk := pk) (fd := fd) (spd := spd) (lim := lim) hQ; exact ⟨h.1, (h.2.1 101 (by omega)).trans h101, h.2.2⟩)).mono (fun o' n1 μ2 h => by
    obtain ⟨v, hv, hn, o, μ1, hQ, hW⟩ := h
    obtain ⟨k9, hk⟩ := WR_v hW
    subst hk
    exact ⟨_, hv, hn, k9, rfl, fun b h1 h2 => (WR_k hW b h2).trans ((q6_could (D := D) (dv := dv) (Fn := Fn) (fv := fv) (sv := sv) (pk := pk) (fd := fd) (spd := spd) (lim := lim) hQ).2.1 b h1), o, μ1, hQ, hW⟩)
set_option maxHeartbeats 4000000 in
theorem q6_fence {n n1 : Nat} {μ μ1 : AH} {D : Nat} {dv : Nat → DVt} {Fn : Nat} {fv : Nat → FVt} {sv : SVt} {pk fd : Nat × (Nat → Int)} {spd lim : Int}  {o : AOut} (hQ : ((fun o n' μ' => n' = n ∧ (((Fn < 4) ∧ o = .inl (some (vI (Fn : Int))) ∧ CH μ' D dv (Fn + 1) fv sv pk fd spd lim ∧ FrC μ μ') ∨ (¬ Fn < 4 ∧ o = .inr IS ∧ μ' = μ))) : AQ) o n1 μ1) : n1 = n ∧ (∀ b, 82 ≤ b → μ1 b = μ b) ∧ ((∃ r : Int, o = .inl (some (vI r))) ∨ o = .inr IS) := by
  obtain ⟨h1, hQ⟩ := hQ
  rcases hQ with ⟨_, a2, _, a4⟩ | ⟨_, a2, a3⟩
  · exact ⟨h1, fun b hb => a4 b hb, Or.inl ⟨_, a2⟩⟩
  · exact ⟨h1, fun b _ => by rw [a3], Or.inr (a2)⟩
set_option maxHeartbeats 4000000 in
theorem lf_fence {n : Nat} {μ : AH} {B : Int} {D : Nat} {dv : Nat → DVt} {Fn : Nat} {fv : Nat → FVt} {sv : SVt} {pk fd : Nat × (Nat → Int)} {spd lim : Int}  {o9 : Nat → Int} (hC : CH μ D dv Fn fv sv pk fd spd lim) (hO : COk B D dv Fn fv sv pk fd spd lim) (h101 : μ 101 = oL 1 o9) : AMet YL_fence [vR 0, vR 101] n μ (Rt (fun v n' μ' => n' = n ∧ ∃ k9 : Int, v = vI k9 ∧ (∀ b, 82 ≤ b → b ≠ 101 → μ' b = μ b) ∧ ∃ (o : AOut) (μ1 : AH), ((fun o n' μ' => n' = n ∧ (((Fn < 4) ∧ o = .inl (some (vI (Fn : Int))) ∧ CH μ' D dv (Fn + 1) fv sv pk fd spd lim ∧ FrC μ μ') ∨ (¬ Fn < 4 ∧ o = .inr IS ∧ μ' = μ))) : AQ) o n μ1 ∧ WR [(IS, 1)] o9 o μ1 (vI k9) μ')) :=
  (w_fence (m_X6_fence hC hO) hC.1 (fun o n1 μ1 hQ => by have h := q6_fence (D := D) (dv := dv) (Fn := Fn) (fv := fv) (sv := sv) (pk := pk) (fd := fd) (spd := spd) (lim := lim) hQ; exact ⟨h.1, (h.2.1 101 (by omega)).trans h101, h.2.2⟩)).mono (fun o' n1 μ2 h => by
    obtain ⟨v, hv, hn, o, μ1, hQ, hW⟩ := h
    obtain ⟨k9, hk⟩ := WR_v hW
    subst hk
    exact ⟨_, hv, hn, k9, rfl, fun b h1 h2 => (WR_k hW b h2).trans ((q6_fence (D := D) (dv := dv) (Fn := Fn) (fv := fv) (sv := sv) (pk := pk) (fd := fd) (spd := spd) (lim := lim) hQ).2.1 b h1), o, μ1, hQ, hW⟩)
set_option maxHeartbeats 4000000 in
theorem q6_corner {n n1 : Nat} {μ μ1 : AH} {D : Nat} {dv : Nat → DVt} {Fn : Nat} {fv : Nat → FVt} {sv : SVt} {pk fd : Nat × (Nat → Int)} {spd lim : Int} {j x y : Int} {o : AOut} (hQ : ((fun o n' μ' => n' = n ∧ ((((((0 ≤ j ∧ j < (Fn : Int)) ∧ (-100000 ≤ x ∧ x ≤ 100000) ∧ -100000 ≤ y ∧ y ≤ 100000) ∧ (fv j.toNat).1 < 8)) ∧ o = .inl (some (vI (((fv j.toNat).1 + 1 : Nat) : Int))) ∧ CH μ' D dv Fn (fvu fv j.toNat ((fv j.toNat).1 + 1, fu (fv j.toNat).2.1 (fv j.toNat).1 x, fu (fv j.toNat).2.2 (fv j.toNat).1 y)) sv pk fd spd lim ∧ FrC μ μ') ∨ (¬ (0 ≤ j ∧ j < (Fn : Int)) ∧ o = .inr IX ∧ μ' = μ) ∨ (((0 ≤ j ∧ j < (Fn : Int)) ∧ ¬ ((-100000 ≤ x ∧ x ≤ 100000) ∧ -100000 ≤ y ∧ y ≤ 100000)) ∧ o = .inr IA ∧ μ' = μ) ∨ ((((0 ≤ j ∧ j < (Fn : Int)) ∧ (-100000 ≤ x ∧ x ≤ 100000) ∧ -100000 ≤ y ∧ y ≤ 100000) ∧ ¬ (fv j.toNat).1 < 8) ∧ o = .inr IS ∧ μ' = μ))) : AQ) o n1 μ1) : n1 = n ∧ (∀ b, 82 ≤ b → μ1 b = μ b) ∧ ((∃ r : Int, o = .inl (some (vI r))) ∨ o = .inr IX ∨ o = .inr IA ∨ o = .inr IS) := by
  obtain ⟨h1, hQ⟩ := hQ
  rcases hQ with ⟨_, a2, _, a4⟩ | ⟨_, a2, a3⟩ | ⟨_, a2, a3⟩ | ⟨_, a2, a3⟩
  · exact ⟨h1, fun b hb => a4 b hb, Or.inl ⟨_, a2⟩⟩
  · exact ⟨h1, fun b _ => by rw [a3], Or.inr (Or.inl a2)⟩
  · exact ⟨h1, fun b _ => by rw [a3], Or.inr (Or.inr (Or.inl a2))⟩
  · exact ⟨h1, fun b _ => by rw [a3], Or.inr (Or.inr (Or.inr (a2)))⟩
set_option maxHeartbeats 4000000 in
theorem lf_corner {n : Nat} {μ : AH} {B : Int} {D : Nat} {dv : Nat → DVt} {Fn : Nat} {fv : Nat → FVt} {sv : SVt} {pk fd : Nat × (Nat → Int)} {spd lim : Int} {j x y : Int} {o9 : Nat → Int} (hC : CH μ D dv Fn fv sv pk fd spd lim) (hO : COk B D dv Fn fv sv pk fd spd lim) (h101 : μ 101 = oL 1 o9) : AMet YL_corner [vR 0, vI (j), vI (x), vI (y), vR 101] n μ (Rt (fun v n' μ' => n' = n ∧ ∃ k9 : Int, v = vI k9 ∧ (∀ b, 82 ≤ b → b ≠ 101 → μ' b = μ b) ∧ ∃ (o : AOut) (μ1 : AH), ((fun o n' μ' => n' = n ∧ ((((((0 ≤ j ∧ j < (Fn : Int)) ∧ (-100000 ≤ x ∧ x ≤ 100000) ∧ -100000 ≤ y ∧ y ≤ 100000) ∧ (fv j.toNat).1 < 8)) ∧ o = .inl (some (vI (((fv j.toNat).1 + 1 : Nat) : Int))) ∧ CH μ' D dv Fn (fvu fv j.toNat ((fv j.toNat).1 + 1, fu (fv j.toNat).2.1 (fv j.toNat).1 x, fu (fv j.toNat).2.2 (fv j.toNat).1 y)) sv pk fd spd lim ∧ FrC μ μ') ∨ (¬ (0 ≤ j ∧ j < (Fn : Int)) ∧ o = .inr IX ∧ μ' = μ) ∨ (((0 ≤ j ∧ j < (Fn : Int)) ∧ ¬ ((-100000 ≤ x ∧ x ≤ 100000) ∧ -100000 ≤ y ∧ y ≤ 100000)) ∧ o = .inr IA ∧ μ' = μ) ∨ ((((0 ≤ j ∧ j < (Fn : Int)) ∧ (-100000 ≤ x ∧ x ≤ 100000) ∧ -100000 ≤ y ∧ y ≤ 100000) ∧ ¬ (fv j.toNat).1 < 8) ∧ o = .inr IS ∧ μ' = μ))) : AQ) o n μ1 ∧ WR [(IX, 1), (IA, 2), (IS, 3)] o9 o μ1 (vI k9) μ')) :=
  (w_corner (m_X6_corner hC hO) hC.1 (fun o n1 μ1 hQ => by have h := q6_corner (D := D) (dv := dv) (Fn := Fn) (fv := fv) (sv := sv) (pk := pk) (fd := fd) (spd := spd) (lim := lim) hQ; exact ⟨h.1, (h.2.1 101 (by omega)).trans h101, h.2.2⟩)).mono (fun o' n1 μ2 h => by
    obtain ⟨v, hv, hn, o, μ1, hQ, hW⟩ := h
    obtain ⟨k9, hk⟩ := WR_v hW
    subst hk
    exact ⟨_, hv, hn, k9, rfl, fun b h1 h2 => (WR_k hW b h2).trans ((q6_corner (D := D) (dv := dv) (Fn := Fn) (fv := fv) (sv := sv) (pk := pk) (fd := fd) (spd := spd) (lim := lim) hQ).2.1 b h1), o, μ1, hQ, hW⟩)
set_option maxHeartbeats 4000000 in
theorem q6_in {n n1 : Nat} {μ μ1 : AH} {D : Nat} {dv : Nat → DVt} {Fn : Nat} {fv : Nat → FVt} {sv : SVt} {pk fd : Nat × (Nat → Int)} {spd lim : Int} {i p j : Int} {o : AOut} (hQ : ((fun o n' μ' => n' = n ∧ μ' = μ ∧ ∃ z : Int, o = ox ((0 ≤ i ∧ i < (D : Int)) ∧ 0 ≤ p ∧ p < ((dv i.toNat).1 : Int)) IX (ox (0 ≤ j ∧ j < (Fn : Int)) IX (.inl (some (vI z)))) ∧ (((0 ≤ i ∧ i < (D : Int)) ∧ 0 ≤ p ∧ p < ((dv i.toNat).1 : Int)) → (0 ≤ j ∧ j < (Fn : Int)) → ((z = 1 ∧ inF (fv j.toNat).1 (fv j.toNat).2.1 (fv j.toNat).2.2 ((dv i.toNat).2.2.1 p.toNat) ((dv i.toNat).2.2.2.1 p.toNat)) ∨ (z = 0 ∧ ¬ inF (fv j.toNat).1 (fv j.toNat).2.1 (fv j.toNat).2.2 ((dv i.toNat).2.2.1 p.toNat) ((dv i.toNat).2.2.2.1 p.toNat))))) : AQ) o n1 μ1) : n1 = n ∧ (∀ b, 82 ≤ b → μ1 b = μ b) ∧ ((∃ r : Int, o = .inl (some (vI r)) ∧ (r = 0 ∨ r = 1)) ∨ o = .inr IX) := by
  obtain ⟨h1, h2, z, h3, h4⟩ := hQ
  refine ⟨h1, fun b _ => by rw [h2], ?_⟩
  by_cases p9 : (0 ≤ i ∧ i < (D : Int)) ∧ 0 ≤ p ∧ p < ((dv i.toNat).1 : Int)
  · by_cases r9 : 0 ≤ j ∧ j < (Fn : Int)
    · refine Or.inl ⟨_, h3.trans ((ox_t p9).trans (ox_t r9)), ?_⟩
      rcases h4 p9 r9 with h | h
      · exact Or.inr h.1
      · exact Or.inl h.1
    · exact Or.inr (h3.trans ((ox_t p9).trans (ox_f r9)))
  · exact Or.inr (h3.trans (ox_f p9))
set_option maxHeartbeats 4000000 in
theorem lf_in {n : Nat} {μ : AH} {B : Int} {D : Nat} {dv : Nat → DVt} {Fn : Nat} {fv : Nat → FVt} {sv : SVt} {pk fd : Nat × (Nat → Int)} {spd lim : Int} {i p j : Int} {o9 : Nat → Int} (hC : CH μ D dv Fn fv sv pk fd spd lim) (hO : COk B D dv Fn fv sv pk fd spd lim) (h101 : μ 101 = oL 1 o9) : AMet YL_in [vR 0, vI (i), vI (p), vI (j), vR 101] n μ (Rt (fun v n' μ' => n' = n ∧ ∃ k9 : Int, v = vI k9 ∧ (∀ b, 82 ≤ b → b ≠ 101 → μ' b = μ b) ∧ ∃ (o : AOut) (μ1 : AH), ((fun o n' μ' => n' = n ∧ μ' = μ ∧ ∃ z : Int, o = ox ((0 ≤ i ∧ i < (D : Int)) ∧ 0 ≤ p ∧ p < ((dv i.toNat).1 : Int)) IX (ox (0 ≤ j ∧ j < (Fn : Int)) IX (.inl (some (vI z)))) ∧ (((0 ≤ i ∧ i < (D : Int)) ∧ 0 ≤ p ∧ p < ((dv i.toNat).1 : Int)) → (0 ≤ j ∧ j < (Fn : Int)) → ((z = 1 ∧ inF (fv j.toNat).1 (fv j.toNat).2.1 (fv j.toNat).2.2 ((dv i.toNat).2.2.1 p.toNat) ((dv i.toNat).2.2.2.1 p.toNat)) ∨ (z = 0 ∧ ¬ inF (fv j.toNat).1 (fv j.toNat).2.1 (fv j.toNat).2.2 ((dv i.toNat).2.2.1 p.toNat) ((dv i.toNat).2.2.2.1 p.toNat))))) : AQ) o n μ1 ∧ WR [(IX, 1)] o9 o μ1 (vI k9) μ')) :=
  (w_in (m_X6_in hC hO) hC.1 (fun o n1 μ1 hQ => by have h := q6_in (D := D) (dv := dv) (Fn := Fn) (fv := fv) (sv := sv) (pk := pk) (fd := fd) (spd := spd) (lim := lim) hQ; exact ⟨h.1, (h.2.1 101 (by omega)).trans h101, h.2.2⟩)).mono (fun o' n1 μ2 h => by
    obtain ⟨v, hv, hn, o, μ1, hQ, hW⟩ := h
    obtain ⟨k9, hk⟩ := WR_v hW
    subst hk
    exact ⟨_, hv, hn, k9, rfl, fun b h1 h2 => (WR_k hW b h2).trans ((q6_in (D := D) (dv := dv) (Fn := Fn) (fv := fv) (sv := sv) (pk := pk) (fd := fd) (spd := spd) (lim := lim) hQ).2.1 b h1), o, μ1, hQ, hW⟩)
set_option maxHeartbeats 4000000 in
theorem q6_port {n n1 : Nat} {μ μ1 : AH} {D : Nat} {dv : Nat → DVt} {Fn : Nat} {fv : Nat → FVt} {sv : SVt} {pk fd : Nat × (Nat → Int)} {spd lim : Int} {i p : Int} {o : AOut} (hQ : ((fun o n' μ' => n' = n ∧ μ' = μ ∧ ∃ z : Int, o = ox ((0 ≤ i ∧ i < (D : Int)) ∧ 0 ≤ p ∧ p < ((dv i.toNat).1 : Int)) IX (.inl (some (vI z))) ∧ (((0 ≤ i ∧ i < (D : Int)) ∧ 0 ≤ p ∧ p < ((dv i.toNat).1 : Int)) → PortR Fn (fun e => inF (fv e).1 (fv e).2.1 (fv e).2.2 ((dv i.toNat).2.2.1 p.toNat) ((dv i.toNat).2.2.2.1 p.toNat)) z)) : AQ) o n1 μ1) : n1 = n ∧ (∀ b, 82 ≤ b → μ1 b = μ b) ∧ ((∃ r : Int, o = .inl (some (vI r))) ∨ o = .inr IX) := by
  obtain ⟨h1, h2, v, h3, _⟩ := hQ
  refine ⟨h1, fun b _ => by rw [h2], ?_⟩
  by_cases p9 : (0 ≤ i ∧ i < (D : Int)) ∧ 0 ≤ p ∧ p < ((dv i.toNat).1 : Int)
  · exact Or.inl ⟨_, h3.trans (ox_t p9)⟩
  · exact Or.inr (h3.trans (ox_f p9))
set_option maxHeartbeats 4000000 in
theorem lf_port {n : Nat} {μ : AH} {B : Int} {D : Nat} {dv : Nat → DVt} {Fn : Nat} {fv : Nat → FVt} {sv : SVt} {pk fd : Nat × (Nat → Int)} {spd lim : Int} {i p : Int} {o9 : Nat → Int} (hC : CH μ D dv Fn fv sv pk fd spd lim) (hO : COk B D dv Fn fv sv pk fd spd lim) (h101 : μ 101 = oL 1 o9) : AMet YL_port [vR 0, vI (i), vI (p), vR 101] n μ (Rt (fun v n' μ' => n' = n ∧ ∃ k9 : Int, v = vI k9 ∧ (∀ b, 82 ≤ b → b ≠ 101 → μ' b = μ b) ∧ ∃ (o : AOut) (μ1 : AH), ((fun o n' μ' => n' = n ∧ μ' = μ ∧ ∃ z : Int, o = ox ((0 ≤ i ∧ i < (D : Int)) ∧ 0 ≤ p ∧ p < ((dv i.toNat).1 : Int)) IX (.inl (some (vI z))) ∧ (((0 ≤ i ∧ i < (D : Int)) ∧ 0 ≤ p ∧ p < ((dv i.toNat).1 : Int)) → PortR Fn (fun e => inF (fv e).1 (fv e).2.1 (fv e).2.2 ((dv i.toNat).2.2.1 p.toNat) ((dv i.toNat).2.2.2.1 p.toNat)) z)) : AQ) o n μ1 ∧ WR [(IX, 1)] o9 o μ1 (vI k9) μ')) :=
  (w_port (m_X6_port hC hO) hC.1 (fun o n1 μ1 hQ => by have h := q6_port (D := D) (dv := dv) (Fn := Fn) (fv := fv) (sv := sv) (pk := pk) (fd := fd) (spd := spd) (lim := lim) hQ; exact ⟨h.1, (h.2.1 101 (by omega)).trans h101, h.2.2⟩)).mono (fun o' n1 μ2 h => by
    obtain ⟨v, hv, hn, o, μ1, hQ, hW⟩ := h
    obtain ⟨k9, hk⟩ := WR_v hW
    subst hk
    exact ⟨_, hv, hn, k9, rfl, fun b h1 h2 => (WR_k hW b h2).trans ((q6_port (D := D) (dv := dv) (Fn := Fn) (fv := fv) (sv := sv) (pk := pk) (fd := fd) (spd := spd) (lim := lim) hQ).2.1 b h1), o, μ1, hQ, hW⟩)
set_option maxHeartbeats 4000000 in
theorem q6_pack {n n1 : Nat} {μ μ1 : AH} {D : Nat} {dv : Nat → DVt} {Fn : Nat} {fv : Nat → FVt} {sv : SVt} {pk fd : Nat × (Nat → Int)} {spd lim : Int} {i : Int} {o : AOut} (hQ : ((fun o n' μ' => n' = n ∧ (((0 ≤ i ∧ i < (D : Int)) ∧ ∃ b' : Nat → Int, o = .inl (some (vI ((packP (dv i.toNat).2.1 (dv i.toNat).2.2.1 (dv i.toNat).2.2.2.1 (dv i.toNat).1).length : Int))) ∧ CH μ' D dv Fn fv sv ((packP (dv i.toNat).2.1 (dv i.toNat).2.2.1 (dv i.toNat).2.2.2.1 (dv i.toNat).1).length, b') fd spd lim ∧ Has b' (packP (dv i.toNat).2.1 (dv i.toNat).2.2.1 (dv i.toNat).2.2.2.1 (dv i.toNat).1) ∧ FrC μ μ') ∨ (¬ (0 ≤ i ∧ i < (D : Int)) ∧ o = .inr IX ∧ μ' = μ))) : AQ) o n1 μ1) : n1 = n ∧ (∀ b, 82 ≤ b → μ1 b = μ b) ∧ ((∃ r : Int, o = .inl (some (vI r))) ∨ o = .inr IX) := by
  obtain ⟨h1, hQ⟩ := hQ
  rcases hQ with ⟨_, b9, a2, _, _, a4⟩ | ⟨_, a2, a3⟩
  · exact ⟨h1, fun b hb => a4 b hb, Or.inl ⟨_, a2⟩⟩
  · exact ⟨h1, fun b _ => by rw [a3], Or.inr (a2)⟩
set_option maxHeartbeats 4000000 in
theorem lf_pack {n : Nat} {μ : AH} {B : Int} {D : Nat} {dv : Nat → DVt} {Fn : Nat} {fv : Nat → FVt} {sv : SVt} {pk fd : Nat × (Nat → Int)} {spd lim : Int} {i : Int} {o9 : Nat → Int} (hC : CH μ D dv Fn fv sv pk fd spd lim) (hO : COk B D dv Fn fv sv pk fd spd lim) (h101 : μ 101 = oL 1 o9) : AMet YL_pack [vR 0, vI (i), vR 101] n μ (Rt (fun v n' μ' => n' = n ∧ ∃ k9 : Int, v = vI k9 ∧ (∀ b, 82 ≤ b → b ≠ 101 → μ' b = μ b) ∧ ∃ (o : AOut) (μ1 : AH), ((fun o n' μ' => n' = n ∧ (((0 ≤ i ∧ i < (D : Int)) ∧ ∃ b' : Nat → Int, o = .inl (some (vI ((packP (dv i.toNat).2.1 (dv i.toNat).2.2.1 (dv i.toNat).2.2.2.1 (dv i.toNat).1).length : Int))) ∧ CH μ' D dv Fn fv sv ((packP (dv i.toNat).2.1 (dv i.toNat).2.2.1 (dv i.toNat).2.2.2.1 (dv i.toNat).1).length, b') fd spd lim ∧ Has b' (packP (dv i.toNat).2.1 (dv i.toNat).2.2.1 (dv i.toNat).2.2.2.1 (dv i.toNat).1) ∧ FrC μ μ') ∨ (¬ (0 ≤ i ∧ i < (D : Int)) ∧ o = .inr IX ∧ μ' = μ))) : AQ) o n μ1 ∧ WR [(IX, 1)] o9 o μ1 (vI k9) μ')) :=
  (w_pack (m_X6_pack hC hO) hC.1 (fun o n1 μ1 hQ => by have h := q6_pack (D := D) (dv := dv) (Fn := Fn) (fv := fv) (sv := sv) (pk := pk) (fd := fd) (spd := spd) (lim := lim) hQ; exact ⟨h.1, (h.2.1 101 (by omega)).trans h101, h.2.2⟩)).mono (fun o' n1 μ2 h => by
    obtain ⟨v, hv, hn, o, μ1, hQ, hW⟩ := h
    obtain ⟨k9, hk⟩ := WR_v hW
    subst hk
    exact ⟨_, hv, hn, k9, rfl, fun b h1 h2 => (WR_k hW b h2).trans ((q6_pack (D := D) (dv := dv) (Fn := Fn) (fv := fv) (sv := sv) (pk := pk) (fd := fd) (spd := spd) (lim := lim) hQ).2.1 b h1), o, μ1, hQ, hW⟩)
set_option maxHeartbeats 4000000 in
theorem q6_byteAt {n n1 : Nat} {μ μ1 : AH} {D : Nat} {dv : Nat → DVt} {Fn : Nat} {fv : Nat → FVt} {sv : SVt} {pk fd : Nat × (Nat → Int)} {spd lim : Int} {i : Int} {o : AOut} (hQ : ((Pu n μ (ox (0 ≤ i ∧ i < (pk.1 : Int)) IX (.inl (some (vI (pk.2 i.toNat)))))) : AQ) o n1 μ1) : n1 = n ∧ (∀ b, 82 ≤ b → μ1 b = μ b) ∧ ((∃ r : Int, o = .inl (some (vI r))) ∨ o = .inr IX) := by
  obtain ⟨h1, h2, h3⟩ := hQ
  refine ⟨h1, fun b _ => by rw [h2], ?_⟩
  by_cases p9 : 0 ≤ i ∧ i < (pk.1 : Int)
  · exact Or.inl ⟨_, h3.trans (ox_t p9)⟩
  · exact Or.inr (h3.trans (ox_f p9))
set_option maxHeartbeats 4000000 in
theorem lf_byteAt {n : Nat} {μ : AH} {B : Int} {D : Nat} {dv : Nat → DVt} {Fn : Nat} {fv : Nat → FVt} {sv : SVt} {pk fd : Nat × (Nat → Int)} {spd lim : Int} {i : Int} {o9 : Nat → Int} (hC : CH μ D dv Fn fv sv pk fd spd lim) (hO : COk B D dv Fn fv sv pk fd spd lim) (h101 : μ 101 = oL 1 o9) : AMet YL_byteAt [vR 0, vI (i), vR 101] n μ (Rt (fun v n' μ' => n' = n ∧ ∃ k9 : Int, v = vI k9 ∧ (∀ b, 82 ≤ b → b ≠ 101 → μ' b = μ b) ∧ ∃ (o : AOut) (μ1 : AH), ((Pu n μ (ox (0 ≤ i ∧ i < (pk.1 : Int)) IX (.inl (some (vI (pk.2 i.toNat)))))) : AQ) o n μ1 ∧ WR [(IX, 1)] o9 o μ1 (vI k9) μ')) :=
  (w_byteAt (m_X6_byteAt hC hO) hC.1 (fun o n1 μ1 hQ => by have h := q6_byteAt (D := D) (dv := dv) (Fn := Fn) (fv := fv) (sv := sv) (pk := pk) (fd := fd) (spd := spd) (lim := lim) hQ; exact ⟨h.1, (h.2.1 101 (by omega)).trans h101, h.2.2⟩)).mono (fun o' n1 μ2 h => by
    obtain ⟨v, hv, hn, o, μ1, hQ, hW⟩ := h
    obtain ⟨k9, hk⟩ := WR_v hW
    subst hk
    exact ⟨_, hv, hn, k9, rfl, fun b h1 h2 => (WR_k hW b h2).trans ((q6_byteAt (D := D) (dv := dv) (Fn := Fn) (fv := fv) (sv := sv) (pk := pk) (fd := fd) (spd := spd) (lim := lim) hQ).2.1 b h1), o, μ1, hQ, hW⟩)
set_option maxHeartbeats 4000000 in
theorem q6_feed {n n1 : Nat} {μ μ1 : AH} {D : Nat} {dv : Nat → DVt} {Fn : Nat} {fv : Nat → FVt} {sv : SVt} {pk fd : Nat × (Nat → Int)} {spd lim : Int} {x : Int} {o : AOut} (hQ : ((fun o n' μ' => n' = n ∧ ((((0 ≤ x ∧ x ≤ 255) ∧ fd.1 < 600) ∧ o = .inl (some (vI ((fd.1 + 1 : Nat) : Int))) ∧ CH μ' D dv Fn fv sv pk (fd.1 + 1, fu fd.2 fd.1 x) spd lim ∧ FrC μ μ') ∨ (¬ (0 ≤ x ∧ x ≤ 255) ∧ o = .inr IA ∧ μ' = μ) ∨ (((0 ≤ x ∧ x ≤ 255) ∧ ¬ fd.1 < 600) ∧ o = .inr IS ∧ μ' = μ))) : AQ) o n1 μ1) : n1 = n ∧ (∀ b, 82 ≤ b → μ1 b = μ b) ∧ ((∃ r : Int, o = .inl (some (vI r))) ∨ o = .inr IA ∨ o = .inr IS) := by
  obtain ⟨h1, hQ⟩ := hQ
  rcases hQ with ⟨_, a2, _, a4⟩ | ⟨_, a2, a3⟩ | ⟨_, a2, a3⟩
  · exact ⟨h1, fun b hb => a4 b hb, Or.inl ⟨_, a2⟩⟩
  · exact ⟨h1, fun b _ => by rw [a3], Or.inr (Or.inl a2)⟩
  · exact ⟨h1, fun b _ => by rw [a3], Or.inr (Or.inr (a2))⟩
set_option maxHeartbeats 4000000 in
theorem lf_feed {n : Nat} {μ : AH} {B : Int} {D : Nat} {dv : Nat → DVt} {Fn : Nat} {fv : Nat → FVt} {sv : SVt} {pk fd : Nat × (Nat → Int)} {spd lim : Int} {x : Int} {o9 : Nat → Int} (hC : CH μ D dv Fn fv sv pk fd spd lim) (hO : COk B D dv Fn fv sv pk fd spd lim) (h101 : μ 101 = oL 1 o9) : AMet YL_feed [vR 0, vI (x), vR 101] n μ (Rt (fun v n' μ' => n' = n ∧ ∃ k9 : Int, v = vI k9 ∧ (∀ b, 82 ≤ b → b ≠ 101 → μ' b = μ b) ∧ ∃ (o : AOut) (μ1 : AH), ((fun o n' μ' => n' = n ∧ ((((0 ≤ x ∧ x ≤ 255) ∧ fd.1 < 600) ∧ o = .inl (some (vI ((fd.1 + 1 : Nat) : Int))) ∧ CH μ' D dv Fn fv sv pk (fd.1 + 1, fu fd.2 fd.1 x) spd lim ∧ FrC μ μ') ∨ (¬ (0 ≤ x ∧ x ≤ 255) ∧ o = .inr IA ∧ μ' = μ) ∨ (((0 ≤ x ∧ x ≤ 255) ∧ ¬ fd.1 < 600) ∧ o = .inr IS ∧ μ' = μ))) : AQ) o n μ1 ∧ WR [(IA, 1), (IS, 2)] o9 o μ1 (vI k9) μ')) :=
  (w_feed (m_X6_feed hC hO) hC.1 (fun o n1 μ1 hQ => by have h := q6_feed (D := D) (dv := dv) (Fn := Fn) (fv := fv) (sv := sv) (pk := pk) (fd := fd) (spd := spd) (lim := lim) hQ; exact ⟨h.1, (h.2.1 101 (by omega)).trans h101, h.2.2⟩)).mono (fun o' n1 μ2 h => by
    obtain ⟨v, hv, hn, o, μ1, hQ, hW⟩ := h
    obtain ⟨k9, hk⟩ := WR_v hW
    subst hk
    exact ⟨_, hv, hn, k9, rfl, fun b h1 h2 => (WR_k hW b h2).trans ((q6_feed (D := D) (dv := dv) (Fn := Fn) (fv := fv) (sv := sv) (pk := pk) (fd := fd) (spd := spd) (lim := lim) hQ).2.1 b h1), o, μ1, hQ, hW⟩)
set_option maxHeartbeats 4000000 in
theorem q6_read {n n1 : Nat} {μ μ1 : AH} {D : Nat} {dv : Nat → DVt} {Fn : Nat} {fv : Nat → FVt} {sv : SVt} {pk fd : Nat × (Nat → Int)} {spd lim : Int} {i : Int} {o : AOut} (hQ : ((fun o n' μ' => n' = n ∧ ((¬ (0 ≤ i ∧ i < (D : Int)) ∧ o = .inr IX ∧ μ' = μ) ∨ ((0 ≤ i ∧ i < (D : Int)) ∧ (∀ k, ¬ Whole fd.2 fd.1 k) ∧ o = .inl (some (vI (-1))) ∧ CH μ' D dv Fn fv sv pk (0, fd.2) spd lim ∧ FrC μ μ') ∨ ((0 ≤ i ∧ i < (D : Int)) ∧ ∃ (k : Nat) (f' g' h' : Nat → Int), Whole fd.2 fd.1 k ∧ Tells fd.2 fd.1 k f' g' h' ∧ o = .inl (some (vI (k : Int))) ∧ CH μ' D (dvu dv i.toNat (dvRd (dv i.toNat) k f' g' h')) Fn fv sv pk (0, fd.2) spd lim ∧ FrC μ μ'))) : AQ) o n1 μ1) : n1 = n ∧ (∀ b, 82 ≤ b → μ1 b = μ b) ∧ ((∃ r : Int, o = .inl (some (vI r))) ∨ o = .inr IX) := by
  obtain ⟨h1, hQ⟩ := hQ
  rcases hQ with ⟨_, a2, a3⟩ | ⟨_, _, a2, _, a4⟩ | ⟨_, k, f1, g1, h9, _, _, a2, _, a4⟩
  · exact ⟨h1, fun b _ => by rw [a3], Or.inr (a2)⟩
  · exact ⟨h1, fun b hb => a4 b hb, Or.inl ⟨_, a2⟩⟩
  · exact ⟨h1, fun b hb => a4 b hb, Or.inl ⟨_, a2⟩⟩
set_option maxHeartbeats 4000000 in
theorem lf_read {n : Nat} {μ : AH} {B : Int} {D : Nat} {dv : Nat → DVt} {Fn : Nat} {fv : Nat → FVt} {sv : SVt} {pk fd : Nat × (Nat → Int)} {spd lim : Int} {i : Int} {o9 : Nat → Int} (hC : CH μ D dv Fn fv sv pk fd spd lim) (hO : COk B D dv Fn fv sv pk fd spd lim) (h101 : μ 101 = oL 1 o9) : AMet YL_read [vR 0, vI (i), vR 101] n μ (Rt (fun v n' μ' => n' = n ∧ ∃ k9 : Int, v = vI k9 ∧ (∀ b, 82 ≤ b → b ≠ 101 → μ' b = μ b) ∧ ∃ (o : AOut) (μ1 : AH), ((fun o n' μ' => n' = n ∧ ((¬ (0 ≤ i ∧ i < (D : Int)) ∧ o = .inr IX ∧ μ' = μ) ∨ ((0 ≤ i ∧ i < (D : Int)) ∧ (∀ k, ¬ Whole fd.2 fd.1 k) ∧ o = .inl (some (vI (-1))) ∧ CH μ' D dv Fn fv sv pk (0, fd.2) spd lim ∧ FrC μ μ') ∨ ((0 ≤ i ∧ i < (D : Int)) ∧ ∃ (k : Nat) (f' g' h' : Nat → Int), Whole fd.2 fd.1 k ∧ Tells fd.2 fd.1 k f' g' h' ∧ o = .inl (some (vI (k : Int))) ∧ CH μ' D (dvu dv i.toNat (dvRd (dv i.toNat) k f' g' h')) Fn fv sv pk (0, fd.2) spd lim ∧ FrC μ μ'))) : AQ) o n μ1 ∧ WR [(IX, 1)] o9 o μ1 (vI k9) μ')) :=
  (w_read (m_X6_read hC hO) hC.1 (fun o n1 μ1 hQ => by have h := q6_read (D := D) (dv := dv) (Fn := Fn) (fv := fv) (sv := sv) (pk := pk) (fd := fd) (spd := spd) (lim := lim) hQ; exact ⟨h.1, (h.2.1 101 (by omega)).trans h101, h.2.2⟩)).mono (fun o' n1 μ2 h => by
    obtain ⟨v, hv, hn, o, μ1, hQ, hW⟩ := h
    obtain ⟨k9, hk⟩ := WR_v hW
    subst hk
    exact ⟨_, hv, hn, k9, rfl, fun b h1 h2 => (WR_k hW b h2).trans ((q6_read (D := D) (dv := dv) (Fn := Fn) (fv := fv) (sv := sv) (pk := pk) (fd := fd) (spd := spd) (lim := lim) hQ).2.1 b h1), o, μ1, hQ, hW⟩)
set_option maxHeartbeats 4000000 in
theorem q6_repeat {n n1 : Nat} {μ μ1 : AH} {D : Nat} {dv : Nat → DVt} {Fn : Nat} {fv : Nat → FVt} {sv : SVt} {pk fd : Nat × (Nat → Int)} {spd lim : Int} {i w : Int} {o : AOut} (hQ : ((fun o n' μ' => n' = n ∧ μ' = μ ∧ ∃ v : Int, o = ox (0 ≤ i ∧ i < (D : Int)) IX (ox (1 ≤ w ∧ w ≤ 30) IA (.inl (some (vI v)))) ∧ ((0 ≤ i ∧ i < (D : Int)) → (1 ≤ w ∧ w ≤ 30) → RepR (dv i.toNat).2.1 (dv i.toNat).2.2.1 (dv i.toNat).2.2.2.1 (dv i.toNat).1 w.toNat v)) : AQ) o n1 μ1) : n1 = n ∧ (∀ b, 82 ≤ b → μ1 b = μ b) ∧ ((∃ r : Int, o = .inl (some (vI r))) ∨ o = .inr IX ∨ o = .inr IA) := by
  obtain ⟨h1, h2, v, h3, _⟩ := hQ
  refine ⟨h1, fun b _ => by rw [h2], ?_⟩
  by_cases p9 : 0 ≤ i ∧ i < (D : Int)
  · by_cases r9 : 1 ≤ w ∧ w ≤ 30
    · exact Or.inl ⟨_, h3.trans ((ox_t p9).trans (ox_t r9))⟩
    · exact Or.inr (Or.inr (h3.trans ((ox_t p9).trans (ox_f r9))))
  · exact Or.inr (Or.inl (h3.trans (ox_f p9)))
set_option maxHeartbeats 4000000 in
theorem lf_repeat {n : Nat} {μ : AH} {B : Int} {D : Nat} {dv : Nat → DVt} {Fn : Nat} {fv : Nat → FVt} {sv : SVt} {pk fd : Nat × (Nat → Int)} {spd lim : Int} {i w : Int} {o9 : Nat → Int} (hC : CH μ D dv Fn fv sv pk fd spd lim) (hO : COk B D dv Fn fv sv pk fd spd lim) (h101 : μ 101 = oL 1 o9) : AMet YL_repeat [vR 0, vI (i), vI (w), vR 101] n μ (Rt (fun v n' μ' => n' = n ∧ ∃ k9 : Int, v = vI k9 ∧ (∀ b, 82 ≤ b → b ≠ 101 → μ' b = μ b) ∧ ∃ (o : AOut) (μ1 : AH), ((fun o n' μ' => n' = n ∧ μ' = μ ∧ ∃ v : Int, o = ox (0 ≤ i ∧ i < (D : Int)) IX (ox (1 ≤ w ∧ w ≤ 30) IA (.inl (some (vI v)))) ∧ ((0 ≤ i ∧ i < (D : Int)) → (1 ≤ w ∧ w ≤ 30) → RepR (dv i.toNat).2.1 (dv i.toNat).2.2.1 (dv i.toNat).2.2.2.1 (dv i.toNat).1 w.toNat v)) : AQ) o n μ1 ∧ WR [(IX, 1), (IA, 2)] o9 o μ1 (vI k9) μ')) :=
  (w_repeat (m_X6_repeat hC hO) hC.1 (fun o n1 μ1 hQ => by have h := q6_repeat (D := D) (dv := dv) (Fn := Fn) (fv := fv) (sv := sv) (pk := pk) (fd := fd) (spd := spd) (lim := lim) hQ; exact ⟨h.1, (h.2.1 101 (by omega)).trans h101, h.2.2⟩)).mono (fun o' n1 μ2 h => by
    obtain ⟨v, hv, hn, o, μ1, hQ, hW⟩ := h
    obtain ⟨k9, hk⟩ := WR_v hW
    subst hk
    exact ⟨_, hv, hn, k9, rfl, fun b h1 h2 => (WR_k hW b h2).trans ((q6_repeat (D := D) (dv := dv) (Fn := Fn) (fv := fv) (sv := sv) (pk := pk) (fd := fd) (spd := spd) (lim := lim) hQ).2.1 b h1), o, μ1, hQ, hW⟩)
set_option maxHeartbeats 4000000 in
theorem q6_sight {n n1 : Nat} {μ μ1 : AH} {D : Nat} {dv : Nat → DVt} {Fn : Nat} {fv : Nat → FVt} {sv : SVt} {pk fd : Nat × (Nat → Int)} {spd lim : Int} {s x y : Int} {o : AOut} (hQ : ((fun o n' μ' => n' = n ∧ ((((0 ≤ s ∧ s ≤ 1000000 ∧ -100000 ≤ x ∧ x ≤ 100000 ∧ -100000 ≤ y ∧ y ≤ 100000) ∧ sv.1 < 5) ∧ o = .inl (some (vI (sv.1 : Int))) ∧ CH μ' D dv Fn fv (sv.1 + 1, insF sv.2.1 sv.1 sv.1 s, insF sv.2.2.1 sv.1 sv.1 x, insF sv.2.2.2 sv.1 sv.1 y) pk fd spd lim ∧ FrC μ μ') ∨ (¬ (0 ≤ s ∧ s ≤ 1000000 ∧ -100000 ≤ x ∧ x ≤ 100000 ∧ -100000 ≤ y ∧ y ≤ 100000) ∧ o = .inr IA ∧ μ' = μ) ∨ (((0 ≤ s ∧ s ≤ 1000000 ∧ -100000 ≤ x ∧ x ≤ 100000 ∧ -100000 ≤ y ∧ y ≤ 100000) ∧ ¬ sv.1 < 5) ∧ o = .inr IS ∧ μ' = μ))) : AQ) o n1 μ1) : n1 = n ∧ (∀ b, 82 ≤ b → μ1 b = μ b) ∧ ((∃ r : Int, o = .inl (some (vI r))) ∨ o = .inr IA ∨ o = .inr IS) := by
  obtain ⟨h1, hQ⟩ := hQ
  rcases hQ with ⟨_, a2, _, a4⟩ | ⟨_, a2, a3⟩ | ⟨_, a2, a3⟩
  · exact ⟨h1, fun b hb => a4 b hb, Or.inl ⟨_, a2⟩⟩
  · exact ⟨h1, fun b _ => by rw [a3], Or.inr (Or.inl a2)⟩
  · exact ⟨h1, fun b _ => by rw [a3], Or.inr (Or.inr (a2))⟩
set_option maxHeartbeats 4000000 in
theorem lf_sight {n : Nat} {μ : AH} {B : Int} {D : Nat} {dv : Nat → DVt} {Fn : Nat} {fv : Nat → FVt} {sv : SVt} {pk fd : Nat × (Nat → Int)} {spd lim : Int} {s x y : Int} {o9 : Nat → Int} (hC : CH μ D dv Fn fv sv pk fd spd lim) (hO : COk B D dv Fn fv sv pk fd spd lim) (h101 : μ 101 = oL 1 o9) : AMet YL_sight [vR 0, vI (s), vI (x), vI (y), vR 101] n μ (Rt (fun v n' μ' => n' = n ∧ ∃ k9 : Int, v = vI k9 ∧ (∀ b, 82 ≤ b → b ≠ 101 → μ' b = μ b) ∧ ∃ (o : AOut) (μ1 : AH), ((fun o n' μ' => n' = n ∧ ((((0 ≤ s ∧ s ≤ 1000000 ∧ -100000 ≤ x ∧ x ≤ 100000 ∧ -100000 ≤ y ∧ y ≤ 100000) ∧ sv.1 < 5) ∧ o = .inl (some (vI (sv.1 : Int))) ∧ CH μ' D dv Fn fv (sv.1 + 1, insF sv.2.1 sv.1 sv.1 s, insF sv.2.2.1 sv.1 sv.1 x, insF sv.2.2.2 sv.1 sv.1 y) pk fd spd lim ∧ FrC μ μ') ∨ (¬ (0 ≤ s ∧ s ≤ 1000000 ∧ -100000 ≤ x ∧ x ≤ 100000 ∧ -100000 ≤ y ∧ y ≤ 100000) ∧ o = .inr IA ∧ μ' = μ) ∨ (((0 ≤ s ∧ s ≤ 1000000 ∧ -100000 ≤ x ∧ x ≤ 100000 ∧ -100000 ≤ y ∧ y ≤ 100000) ∧ ¬ sv.1 < 5) ∧ o = .inr IS ∧ μ' = μ))) : AQ) o n μ1 ∧ WR [(IA, 1), (IS, 2)] o9 o μ1 (vI k9) μ')) :=
  (w_sight (m_X6_sight hC hO) hC.1 (fun o n1 μ1 hQ => by have h := q6_sight (D := D) (dv := dv) (Fn := Fn) (fv := fv) (sv := sv) (pk := pk) (fd := fd) (spd := spd) (lim := lim) hQ; exact ⟨h.1, (h.2.1 101 (by omega)).trans h101, h.2.2⟩)).mono (fun o' n1 μ2 h => by
    obtain ⟨v, hv, hn, o, μ1, hQ, hW⟩ := h
    obtain ⟨k9, hk⟩ := WR_v hW
    subst hk
    exact ⟨_, hv, hn, k9, rfl, fun b h1 h2 => (WR_k hW b h2).trans ((q6_sight (D := D) (dv := dv) (Fn := Fn) (fv := fv) (sv := sv) (pk := pk) (fd := fd) (spd := spd) (lim := lim) hQ).2.1 b h1), o, μ1, hQ, hW⟩)
set_option maxHeartbeats 4000000 in
theorem q6_weight {n n1 : Nat} {μ μ1 : AH} {D : Nat} {dv : Nat → DVt} {Fn : Nat} {fv : Nat → FVt} {sv : SVt} {pk fd : Nat × (Nat → Int)} {spd lim : Int} {x i : Int} {o : AOut} (hQ : ((Pu n μ (ox (0 ≤ x ∧ x < (sv.1 : Int)) IX (ox (0 ≤ i ∧ i < (D : Int)) IX (.inl (some (vL (wgt (dv i.toNat) (sv.2.1 x.toNat) (sv.2.2.1 x.toNat) (sv.2.2.2 x.toNat)))))))) : AQ) o n1 μ1) : n1 = n ∧ (∀ b, 82 ≤ b → μ1 b = μ b) ∧ ((∃ r : Int, o = .inl (some (vL r))) ∨ o = .inr IX) := by
  obtain ⟨h1, h2, h3⟩ := hQ
  refine ⟨h1, fun b _ => by rw [h2], ?_⟩
  by_cases p9 : 0 ≤ x ∧ x < (sv.1 : Int)
  · by_cases r9 : 0 ≤ i ∧ i < (D : Int)
    · exact Or.inl ⟨_, h3.trans ((ox_t p9).trans (ox_t r9))⟩
    · exact Or.inr (h3.trans ((ox_t p9).trans (ox_f r9)))
  · exact Or.inr (h3.trans (ox_f p9))
set_option maxHeartbeats 4000000 in
theorem lf_weight {n : Nat} {μ : AH} {B : Int} {D : Nat} {dv : Nat → DVt} {Fn : Nat} {fv : Nat → FVt} {sv : SVt} {pk fd : Nat × (Nat → Int)} {spd lim : Int} {x i : Int} {o9 : Nat → Int} (hC : CH μ D dv Fn fv sv pk fd spd lim) (hO : COk B D dv Fn fv sv pk fd spd lim) (h101 : μ 101 = oL 1 o9) : AMet YL_weight [vR 0, vI (x), vI (i), vR 101] n μ (Rt (fun v n' μ' => n' = n ∧ ∃ k9 : Int, v = vI k9 ∧ (∀ b, 82 ≤ b → b ≠ 101 → μ' b = μ b) ∧ ∃ (o : AOut) (μ1 : AH), ((Pu n μ (ox (0 ≤ x ∧ x < (sv.1 : Int)) IX (ox (0 ≤ i ∧ i < (D : Int)) IX (.inl (some (vL (wgt (dv i.toNat) (sv.2.1 x.toNat) (sv.2.2.1 x.toNat) (sv.2.2.2 x.toNat)))))))) : AQ) o n μ1 ∧ WR [(IX, 1)] o9 o μ1 (vI k9) μ')) :=
  (w_weight (m_X6_weight hC hO) hC.1 (fun o n1 μ1 hQ => by have h := q6_weight (D := D) (dv := dv) (Fn := Fn) (fv := fv) (sv := sv) (pk := pk) (fd := fd) (spd := spd) (lim := lim) hQ; exact ⟨h.1, (h.2.1 101 (by omega)).trans h101, h.2.2⟩)).mono (fun o' n1 μ2 h => by
    obtain ⟨v, hv, hn, o, μ1, hQ, hW⟩ := h
    obtain ⟨k9, hk⟩ := WR_v hW
    subst hk
    exact ⟨_, hv, hn, k9, rfl, fun b h1 h2 => (WR_k hW b h2).trans ((q6_weight (D := D) (dv := dv) (Fn := Fn) (fv := fv) (sv := sv) (pk := pk) (fd := fd) (spd := spd) (lim := lim) hQ).2.1 b h1), o, μ1, hQ, hW⟩)
set_option maxHeartbeats 4000000 in
theorem q6_match {n n1 : Nat} {μ μ1 : AH} {D : Nat} {dv : Nat → DVt} {Fn : Nat} {fv : Nat → FVt} {sv : SVt} {pk fd : Nat × (Nat → Int)} {spd lim : Int} {x : Int} {o : AOut} (hQ : ((fun o n' μ' => n' = n ∧ ((¬ (0 ≤ x ∧ x < (sv.1 : Int)) ∧ o = .inr IX ∧ μ' = μ) ∨ ((0 ≤ x ∧ x < (sv.1 : Int)) ∧ ∃ ds : List Nat, ds.length = sv.1 ∧ Bst (WF dv sv) D 0 0 ds ∧ o = .inl (some (vI (gi (dgt ds x.toNat)))) ∧ CH μ' D dv Fn fv sv pk fd spd lim ∧ FrC μ μ'))) : AQ) o n1 μ1) : n1 = n ∧ (∀ b, 82 ≤ b → μ1 b = μ b) ∧ ((∃ r : Int, o = .inl (some (vI r))) ∨ o = .inr IX) := by
  obtain ⟨h1, hQ⟩ := hQ
  rcases hQ with ⟨_, a2, a3⟩ | ⟨_, ds, _, _, a2, _, a4⟩
  · exact ⟨h1, fun b _ => by rw [a3], Or.inr (a2)⟩
  · exact ⟨h1, fun b hb => a4 b hb, Or.inl ⟨_, a2⟩⟩
set_option maxHeartbeats 4000000 in
theorem lf_match {n : Nat} {μ : AH} {B : Int} {D : Nat} {dv : Nat → DVt} {Fn : Nat} {fv : Nat → FVt} {sv : SVt} {pk fd : Nat × (Nat → Int)} {spd lim : Int} {x : Int} {o9 : Nat → Int} (hC : CH μ D dv Fn fv sv pk fd spd lim) (hO : COk B D dv Fn fv sv pk fd spd lim) (h101 : μ 101 = oL 1 o9) : AMet YL_match [vR 0, vI (x), vR 101] n μ (Rt (fun v n' μ' => n' = n ∧ ∃ k9 : Int, v = vI k9 ∧ (∀ b, 82 ≤ b → b ≠ 101 → μ' b = μ b) ∧ ∃ (o : AOut) (μ1 : AH), ((fun o n' μ' => n' = n ∧ ((¬ (0 ≤ x ∧ x < (sv.1 : Int)) ∧ o = .inr IX ∧ μ' = μ) ∨ ((0 ≤ x ∧ x < (sv.1 : Int)) ∧ ∃ ds : List Nat, ds.length = sv.1 ∧ Bst (WF dv sv) D 0 0 ds ∧ o = .inl (some (vI (gi (dgt ds x.toNat)))) ∧ CH μ' D dv Fn fv sv pk fd spd lim ∧ FrC μ μ'))) : AQ) o n μ1 ∧ WR [(IX, 1)] o9 o μ1 (vI k9) μ')) :=
  (w_match (m_X6_match hC hO) hC.1 (fun o n1 μ1 hQ => by have h := q6_match (D := D) (dv := dv) (Fn := Fn) (fv := fv) (sv := sv) (pk := pk) (fd := fd) (spd := spd) (lim := lim) hQ; exact ⟨h.1, (h.2.1 101 (by omega)).trans h101, h.2.2⟩)).mono (fun o' n1 μ2 h => by
    obtain ⟨v, hv, hn, o, μ1, hQ, hW⟩ := h
    obtain ⟨k9, hk⟩ := WR_v hW
    subst hk
    exact ⟨_, hv, hn, k9, rfl, fun b h1 h2 => (WR_k hW b h2).trans ((q6_match (D := D) (dv := dv) (Fn := Fn) (fv := fv) (sv := sv) (pk := pk) (fd := fd) (spd := spd) (lim := lim) hQ).2.1 b h1), o, μ1, hQ, hW⟩)
set_option maxHeartbeats 4000000 in
theorem q6_told {n n1 : Nat} {μ μ1 : AH} {D : Nat} {dv : Nat → DVt} {Fn : Nat} {fv : Nat → FVt} {sv : SVt} {pk fd : Nat × (Nat → Int)} {spd lim : Int} {w : Int} {o : AOut} (hQ : ((Pu n μ (ox (0 ≤ w ∧ w ≤ 6) IA (.inl (some (vI (toldV D Fn sv.1 pk.1 fd.1 spd lim w)))))) : AQ) o n1 μ1) : n1 = n ∧ (∀ b, 82 ≤ b → μ1 b = μ b) ∧ ((∃ r : Int, o = .inl (some (vI r))) ∨ o = .inr IA) := by
  obtain ⟨h1, h2, h3⟩ := hQ
  refine ⟨h1, fun b _ => by rw [h2], ?_⟩
  by_cases p9 : 0 ≤ w ∧ w ≤ 6
  · exact Or.inl ⟨_, h3.trans (ox_t p9)⟩
  · exact Or.inr (h3.trans (ox_f p9))
set_option maxHeartbeats 4000000 in
theorem lf_told {n : Nat} {μ : AH} {B : Int} {D : Nat} {dv : Nat → DVt} {Fn : Nat} {fv : Nat → FVt} {sv : SVt} {pk fd : Nat × (Nat → Int)} {spd lim : Int} {w : Int} {o9 : Nat → Int} (hC : CH μ D dv Fn fv sv pk fd spd lim) (hO : COk B D dv Fn fv sv pk fd spd lim) (h101 : μ 101 = oL 1 o9) : AMet YL_told [vR 0, vI (w), vR 101] n μ (Rt (fun v n' μ' => n' = n ∧ ∃ k9 : Int, v = vI k9 ∧ (∀ b, 82 ≤ b → b ≠ 101 → μ' b = μ b) ∧ ∃ (o : AOut) (μ1 : AH), ((Pu n μ (ox (0 ≤ w ∧ w ≤ 6) IA (.inl (some (vI (toldV D Fn sv.1 pk.1 fd.1 spd lim w)))))) : AQ) o n μ1 ∧ WR [(IA, 1)] o9 o μ1 (vI k9) μ')) :=
  (w_told (m_X6_told hC hO) hC.1 (fun o n1 μ1 hQ => by have h := q6_told (D := D) (dv := dv) (Fn := Fn) (fv := fv) (sv := sv) (pk := pk) (fd := fd) (spd := spd) (lim := lim) hQ; exact ⟨h.1, (h.2.1 101 (by omega)).trans h101, h.2.2⟩)).mono (fun o' n1 μ2 h => by
    obtain ⟨v, hv, hn, o, μ1, hQ, hW⟩ := h
    obtain ⟨k9, hk⟩ := WR_v hW
    subst hk
    exact ⟨_, hv, hn, k9, rfl, fun b h1 h2 => (WR_k hW b h2).trans ((q6_told (D := D) (dv := dv) (Fn := Fn) (fv := fv) (sv := sv) (pk := pk) (fd := fd) (spd := spd) (lim := lim) hQ).2.1 b h1), o, μ1, hQ, hW⟩)
