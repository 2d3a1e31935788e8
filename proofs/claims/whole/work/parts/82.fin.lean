/-! ===== the class and the model, call by call (written by m_fin.py) ===== -/
theorem MM_k {μ μ' : AH} {th : Int} {D : Nat} {dv : Nat → DVt} {Fn : Nat} {fv : Nat → FVt} {sv : SVt} {pk fd : Nat × (Nat → Int)} {spd lim : Int} (hm : MM μ th D dv Fn fv sv pk fd spd lim) (k : ∀ b, 82 ≤ b → b < 101 → μ' b = μ b) : MM μ' th D dv Fn fv sv pk fd spd lim := by
  obtain ⟨at7, ls7, wy7, c7, t7, F7, G7, H7, k7, a7, b7, e7, X7, Y7, y7, o7, r7, s7, u7, v7, w7, h82, h83, h84, h85, h86, h87, h88, h89, h90, h91, h92, h93, h94, h95, h96, h97, h98, h99, h100, ag1, ag2, ag3, ag4, ag5, ag6, ag7, ag8⟩ := hm
  exact ⟨at7, ls7, wy7, c7, t7, F7, G7, H7, k7, a7, b7, e7, X7, Y7, y7, o7, r7, s7, u7, v7, w7, (k 82 (by omega) (by omega)).trans h82, (k 83 (by omega) (by omega)).trans h83, (k 84 (by omega) (by omega)).trans h84, (k 85 (by omega) (by omega)).trans h85, (k 86 (by omega) (by omega)).trans h86, (k 87 (by omega) (by omega)).trans h87, (k 88 (by omega) (by omega)).trans h88, (k 89 (by omega) (by omega)).trans h89, (k 90 (by omega) (by omega)).trans h90, (k 91 (by omega) (by omega)).trans h91, (k 92 (by omega) (by omega)).trans h92, (k 93 (by omega) (by omega)).trans h93, (k 94 (by omega) (by omega)).trans h94, (k 95 (by omega) (by omega)).trans h95, (k 96 (by omega) (by omega)).trans h96, (k 97 (by omega) (by omega)).trans h97, (k 98 (by omega) (by omega)).trans h98, (k 99 (by omega) (by omega)).trans h99, (k 100 (by omega) (by omega)).trans h100, ag1, ag2, ag3, ag4, ag5, ag6, ag7, ag8⟩
theorem CH_k {μ μ' : AH} {D : Nat} {dv : Nat → DVt} {Fn : Nat} {fv : Nat → FVt} {sv : SVt} {pk fd : Nat × (Nat → Int)} {spd lim : Int} (hC : CH μ D dv Fn fv sv pk fd spd lim) (k : ∀ b, b < 82 → μ' b = μ b) : CH μ' D dv Fn fv sv pk fd spd lim := by
  obtain ⟨a, b, c, d, ⟨W, Ls, ch, sc, dc, e⟩, ⟨n1, o1, f⟩, ⟨n2, o2, g⟩, ⟨e9, f9, g9, h9, i⟩, j, l⟩ := hC
  exact ⟨(k 0 (by omega)).trans a, (k 1 (by omega)).trans b, (k 2 (by omega)).trans c, PL_k d (fun j hj => k _ (by omega)), ⟨W, Ls, ch, sc, dc, MT_k e (fun b h1 h2 => k b (by omega))⟩, ⟨n1, o1, BY_k f (fun j hj => k _ (by omega))⟩, ⟨n2, o2, BY_k g (fun j hj => k _ (by omega))⟩, ⟨e9, f9, g9, h9, PL_k i (fun j hj => k _ (by omega))⟩, fun d hd => DL_k (j d hd) (fun j hj => k _ (by omega)), fun x hx => FE_k (l x hx) (fun j hj => k _ (by omega))⟩
/-- what a wrapper makes of an outcome: cs are the numbers of the exceptions -/
def WR (cs : List (String × Int)) (o9 : Nat → Int) (o : AOut) (μ1 : AH) (v : AV) (μ' : AH) : Prop := (∃ r : Int, (o = .inl (some (vI r)) ∨ o = .inl (some (vL r))) ∧ v = vI 0 ∧ μ' = hu μ1 101 (oL 1 (fu o9 0 r))) ∨ (∃ (E : String) (c : Int), (E, c) ∈ cs ∧ o = .inr E ∧ v = vI c ∧ μ' = μ1)
theorem WR_k {cs : List (String × Int)} {o9 : Nat → Int} {o : AOut} {μ1 μ' : AH} {v : AV} (h : WR cs o9 o μ1 v μ') (b : Nat) (hb : b ≠ 101) : μ' b = μ1 b := by
  rcases h with ⟨r, _, _, rfl⟩ | ⟨E, c, _, _, _, rfl⟩
  · exact hu_n hb
  · rfl
/-- both have answered alike -/
def FIN (vk : Int → AV) (B k9 : Int) (o' : AOut) (μ3 : AH) : Prop := ∃ b : Int, o' = .inl (some (vk b)) ∧ ∃ (th : Int) (D : Nat) (dv : Nat → DVt) (Fn : Nat) (fv : Nat → FVt) (sv : SVt) (pk fd : Nat × (Nat → Int)) (spd lim : Int) (o9 : Nat → Int), th = k9 ∧ CH μ3 D dv Fn fv sv pk fd spd lim ∧ MM μ3 th D dv Fn fv sv pk fd spd lim ∧ COk (B + 1) D dv Fn fv sv pk fd spd lim ∧ μ3 101 = oL 1 o9 ∧ (k9 = 0 → o9 0 = b)
theorem fin_ok {vk : Int → AV} {cs : List (String × Int)} {o9 : Nat → Int} {v b k9 B : Int} {o o' : AOut} {μ1 μ2 μ3 : AH} {D : Nat} {dv : Nat → DVt} {Fn : Nat} {fv : Nat → FVt} {sv : SVt} {pk fd : Nat × (Nat → Int)} {spd lim : Int} (hC : CH μ1 D dv Fn fv sv pk fd spd lim) (hm : MM μ3 0 D dv Fn fv sv pk fd spd lim) (hO : COk (B + 1) D dv Fn fv sv pk fd spd lim) (hF : FrR 82 101 μ2 μ3) (hW : WR cs o9 o μ1 (vI k9) μ2) (ho : o = .inl (some (vI v)) ∨ o = .inl (some (vL v))) (ho' : o' = .inl (some (vk b))) (hb : b = v) : FIN vk B k9 o' μ3 := by
  rcases hW with ⟨r, h1, h2, h3⟩ | ⟨E, c, h1, h2, h3, h4⟩
  · have hr : r = v := by
      rcases h1 with h1 | h1 <;> rcases ho with ho | ho <;> rw [ho] at h1 <;> cases h1 <;> rfl
    have hk : k9 = 0 := by cases h2; rfl
    have hk2 : ∀ x, x ≠ 101 → μ2 x = μ1 x := fun x hx => by rw [h3]; exact hu_n hx
    refine ⟨b, ho', 0, _, _, _, _, _, _, _, _, _, fu o9 0 r, hk.symm, CH_k hC (fun x hx => (hF x (by omega)).trans (hk2 x (by omega))), hm, hO, (hF 101 (by omega)).trans (by rw [h3]; exact hu_s), fun _ => by rw [fu_s, hr, hb]⟩
  · exfalso
    rcases ho with ho | ho <;> rw [ho] at h2 <;> cases h2
theorem fin_ex {vk : Int → AV} {cs : List (String × Int)} {o9 : Nat → Int} {b k9 B c9 : Int} {E : String} {o o' : AOut} {μ1 μ2 μ3 : AH} {D : Nat} {dv : Nat → DVt} {Fn : Nat} {fv : Nat → FVt} {sv : SVt} {pk fd : Nat × (Nat → Int)} {spd lim : Int} (hC : CH μ1 D dv Fn fv sv pk fd spd lim) (hm : MM μ3 c9 D dv Fn fv sv pk fd spd lim) (hO : COk B D dv Fn fv sv pk fd spd lim) (hF : FrR 82 101 μ2 μ3) (h101 : μ1 101 = oL 1 o9) (hW : WR cs o9 o μ1 (vI k9) μ2) (ho : o = .inr E) (ho' : o' = .inl (some (vk b))) (hc : ∀ c, (E, c) ∈ cs → c = c9) (h0 : c9 ≠ 0) : FIN vk B k9 o' μ3 := by
  rcases hW with ⟨r, h1, h2, h3⟩ | ⟨E', c, h1, h2, h3, h4⟩
  · exfalso
    rcases h1 with h1 | h1 <;> rw [ho] at h1 <;> cases h1
  · rw [ho] at h2
    cases h2
    have hk : k9 = c := by cases h3; rfl
    have hcc := hc c h1
    subst h4
    exact ⟨b, ho', c9, _, _, _, _, _, _, _, _, _, o9, by omega, CH_k hC (fun x hx => hF x (by omega)), hm, ko_B hO, (hF 101 (by omega)).trans h101, fun h => by omega⟩
theorem FIN_x {vk : Int → AV} {B k9 : Int} {E : String} {μ3 : AH} (h : FIN vk B k9 (.inr E) μ3) : False := by
  obtain ⟨b, h8, _⟩ := h
  cases h8
set_option maxHeartbeats 4000000 in
theorem fin_has {n n1 n3 : Nat} {μ μ1 μ2 μ3 : AH} {th B k9 : Int} {D : Nat} {dv : Nat → DVt} {Fn : Nat} {fv : Nat → FVt} {sv : SVt} {pk fd : Nat × (Nat → Int)} {spd lim : Int} {i w : Int} {o9 : Nat → Int} {o o' : AOut} (hC : CH μ D dv Fn fv sv pk fd spd lim) (hm : MM μ th D dv Fn fv sv pk fd spd lim) (hO : COk B D dv Fn fv sv pk fd spd lim) (h101 : μ 101 = oL 1 o9)  (hQ : ((Pu n μ (ox (0 ≤ i ∧ i < (D : Int)) IX (ox (0 ≤ w ∧ w ≤ 4) IA (.inl (some (vI (hasV (dv i.toNat) spd lim w))))))) : AQ) o n1 μ1) (hW : WR [(IX, 1), (IA, 2)] o9 o μ1 (vI k9) μ2) (hQm : (fun μ : AH => ((fun o n' μ' => n' = n ∧ FrR 82 101 μ μ' ∧ ∃ v : Int, o = .inl (some (vI v)) ∧ MM μ' (tx2 (0 ≤ i ∧ i < (D : Int)) (0 ≤ w ∧ w ≤ 4)) D dv Fn fv sv pk fd spd lim ∧ (((0 ≤ i ∧ i < (D : Int)) ∧ 0 ≤ w ∧ w ≤ 4) → v = hasV (dv i.toNat) spd lim w)) : AQ)) μ2 o' n3 μ3) : FIN vI B k9 o' μ3 := by
  obtain ⟨-, rfl, rfl⟩ := hQ
  obtain ⟨-, hF, b, rfl, hmm, hv⟩ := hQm
  by_cases p9 : 0 ≤ i ∧ i < (D : Int)
  · by_cases r9 : 0 ≤ w ∧ w ≤ 4
    · rw [tx2_0 p9 r9] at hmm
      exact fin_ok hC hmm (ko_B hO) hF hW (Or.inl ((ox_t p9).trans (ox_t r9))) rfl (hv ⟨p9, r9⟩)
    · rw [tx2_2 p9 r9] at hmm
      exact fin_ex hC hmm hO hF h101 hW ((ox_t p9).trans (ox_f r9)) rfl (by simp [IX, IA, IS]) (by omega)
  · rw [tx2_1 p9] at hmm
    exact fin_ex hC hmm hO hF h101 hW (ox_f p9) rfl (by simp [IX, IA, IS]) (by omega)
set_option maxHeartbeats 4000000 in
theorem fin_at {n n1 n3 : Nat} {μ μ1 μ2 μ3 : AH} {th B k9 : Int} {D : Nat} {dv : Nat → DVt} {Fn : Nat} {fv : Nat → FVt} {sv : SVt} {pk fd : Nat × (Nat → Int)} {spd lim : Int} {i p w : Int} {o9 : Nat → Int} {o o' : AOut} (hC : CH μ D dv Fn fv sv pk fd spd lim) (hm : MM μ th D dv Fn fv sv pk fd spd lim) (hO : COk B D dv Fn fv sv pk fd spd lim) (h101 : μ 101 = oL 1 o9)  (hQ : ((Pu n μ (ox ((0 ≤ i ∧ i < (D : Int)) ∧ 0 ≤ p ∧ p < ((dv i.toNat).1 : Int)) IX (ox (0 ≤ w ∧ w ≤ 3) IA (.inl (some (vI (atV (dv i.toNat) p w))))))) : AQ) o n1 μ1) (hW : WR [(IX, 1), (IA, 2)] o9 o μ1 (vI k9) μ2) (hQm : (fun μ : AH => ((fun o n' μ' => n' = n ∧ FrR 82 101 μ μ' ∧ ∃ v : Int, o = .inl (some (vI v)) ∧ MM μ' (tx2 ((0 ≤ i ∧ i < (D : Int)) ∧ 0 ≤ p ∧ p < ((dv i.toNat).1 : Int)) (0 ≤ w ∧ w ≤ 3)) D dv Fn fv sv pk fd spd lim ∧ ((((0 ≤ i ∧ i < (D : Int)) ∧ 0 ≤ p ∧ p < ((dv i.toNat).1 : Int)) ∧ 0 ≤ w ∧ w ≤ 3) → v = atV (dv i.toNat) p w)) : AQ)) μ2 o' n3 μ3) : FIN vI B k9 o' μ3 := by
  obtain ⟨-, rfl, rfl⟩ := hQ
  obtain ⟨-, hF, b, rfl, hmm, hv⟩ := hQm
  by_cases p9 : (0 ≤ i ∧ i < (D : Int)) ∧ 0 ≤ p ∧ p < ((dv i.toNat).1 : Int)
  · by_cases r9 : 0 ≤ w ∧ w ≤ 3
    · rw [tx2_0 p9 r9] at hmm
      exact fin_ok hC hmm (ko_B hO) hF hW (Or.inl ((ox_t p9).trans (ox_t r9))) rfl (hv ⟨p9, r9⟩)
    · rw [tx2_2 p9 r9] at hmm
      exact fin_ex hC hmm hO hF h101 hW ((ox_t p9).trans (ox_f r9)) rfl (by simp [IX, IA, IS]) (by omega)
  · rw [tx2_1 p9] at hmm
    exact fin_ex hC hmm hO hF h101 hW (ox_f p9) rfl (by simp [IX, IA, IS]) (by omega)
set_option maxHeartbeats 4000000 in
theorem fin_time {n n1 n3 : Nat} {μ μ1 μ2 μ3 : AH} {th B k9 : Int} {D : Nat} {dv : Nat → DVt} {Fn : Nat} {fv : Nat → FVt} {sv : SVt} {pk fd : Nat × (Nat → Int)} {spd lim : Int} {i s : Int} {o9 : Nat → Int} {o o' : AOut} (hC : CH μ D dv Fn fv sv pk fd spd lim) (hm : MM μ th D dv Fn fv sv pk fd spd lim) (hO : COk B D dv Fn fv sv pk fd spd lim) (h101 : μ 101 = oL 1 o9)  (hQ : ((Pu n μ (ox (0 ≤ i ∧ i < (D : Int)) IX (ox (0 ≤ s ∧ s ≤ 1000000) IA (.inl (some (vI (tt (dv i.toNat).2.2.2.2.2.1 (dv i.toNat).2.2.2.2.2.2.1 (dv i.toNat).2.2.2.2.2.2.2 s))))))) : AQ) o n1 μ1) (hW : WR [(IX, 1), (IA, 2)] o9 o μ1 (vI k9) μ2) (hQm : (fun μ : AH => ((fun o n' μ' => n' = n ∧ FrR 82 101 μ μ' ∧ ∃ v : Int, o = .inl (some (vI v)) ∧ MM μ' (tx2 (0 ≤ i ∧ i < (D : Int)) (0 ≤ s ∧ s ≤ 1000000)) D dv Fn fv sv pk fd spd lim ∧ (((0 ≤ i ∧ i < (D : Int)) ∧ 0 ≤ s ∧ s ≤ 1000000) → v = tt (dv i.toNat).2.2.2.2.2.1 (dv i.toNat).2.2.2.2.2.2.1 (dv i.toNat).2.2.2.2.2.2.2 s)) : AQ)) μ2 o' n3 μ3) : FIN vI B k9 o' μ3 := by
  obtain ⟨-, rfl, rfl⟩ := hQ
  obtain ⟨-, hF, b, rfl, hmm, hv⟩ := hQm
  by_cases p9 : 0 ≤ i ∧ i < (D : Int)
  · by_cases r9 : 0 ≤ s ∧ s ≤ 1000000
    · rw [tx2_0 p9 r9] at hmm
      exact fin_ok hC hmm (ko_B hO) hF hW (Or.inl ((ox_t p9).trans (ox_t r9))) rfl (hv ⟨p9, r9⟩)
    · rw [tx2_2 p9 r9] at hmm
      exact fin_ex hC hmm hO hF h101 hW ((ox_t p9).trans (ox_f r9)) rfl (by simp [IX, IA, IS]) (by omega)
  · rw [tx2_1 p9] at hmm
    exact fin_ex hC hmm hO hF h101 hW (ox_f p9) rfl (by simp [IX, IA, IS]) (by omega)
set_option maxHeartbeats 4000000 in
theorem fin_byteAt {n n1 n3 : Nat} {μ μ1 μ2 μ3 : AH} {th B k9 : Int} {D : Nat} {dv : Nat → DVt} {Fn : Nat} {fv : Nat → FVt} {sv : SVt} {pk fd : Nat × (Nat → Int)} {spd lim : Int} {i : Int} {o9 : Nat → Int} {o o' : AOut} (hC : CH μ D dv Fn fv sv pk fd spd lim) (hm : MM μ th D dv Fn fv sv pk fd spd lim) (hO : COk B D dv Fn fv sv pk fd spd lim) (h101 : μ 101 = oL 1 o9)  (hQ : ((Pu n μ (ox (0 ≤ i ∧ i < (pk.1 : Int)) IX (.inl (some (vI (pk.2 i.toNat)))))) : AQ) o n1 μ1) (hW : WR [(IX, 1)] o9 o μ1 (vI k9) μ2) (hQm : (fun μ : AH => ((fun o n' μ' => n' = n ∧ FrR 82 101 μ μ' ∧ ∃ v : Int, o = .inl (some (vI v)) ∧ MM μ' (tx1 (0 ≤ i ∧ i < (pk.1 : Int))) D dv Fn fv sv pk fd spd lim ∧ ((0 ≤ i ∧ i < (pk.1 : Int)) → v = pk.2 i.toNat)) : AQ)) μ2 o' n3 μ3) : FIN vI B k9 o' μ3 := by
  obtain ⟨-, rfl, rfl⟩ := hQ
  obtain ⟨-, hF, b, rfl, hmm, hv⟩ := hQm
  by_cases p9 : 0 ≤ i ∧ i < (pk.1 : Int)
  · rw [tx1_0 p9] at hmm
    exact fin_ok hC hmm (ko_B hO) hF hW (Or.inl (ox_t p9)) rfl (hv p9)
  · rw [tx1_1 p9] at hmm
    exact fin_ex hC hmm hO hF h101 hW (ox_f p9) rfl (by simp [IX, IA, IS]) (by omega)
set_option maxHeartbeats 4000000 in
theorem fin_told {n n1 n3 : Nat} {μ μ1 μ2 μ3 : AH} {th B k9 : Int} {D : Nat} {dv : Nat → DVt} {Fn : Nat} {fv : Nat → FVt} {sv : SVt} {pk fd : Nat × (Nat → Int)} {spd lim : Int} {w : Int} {o9 : Nat → Int} {o o' : AOut} (hC : CH μ D dv Fn fv sv pk fd spd lim) (hm : MM μ th D dv Fn fv sv pk fd spd lim) (hO : COk B D dv Fn fv sv pk fd spd lim) (h101 : μ 101 = oL 1 o9)  (hQ : ((Pu n μ (ox (0 ≤ w ∧ w ≤ 6) IA (.inl (some (vI (toldV D Fn sv.1 pk.1 fd.1 spd lim w)))))) : AQ) o n1 μ1) (hW : WR [(IA, 1)] o9 o μ1 (vI k9) μ2) (hQm : (fun μ : AH => ((fun o n' μ' => n' = n ∧ FrR 82 101 μ μ' ∧ ∃ v : Int, o = .inl (some (vI v)) ∧ MM μ' (tx1 (0 ≤ w ∧ w ≤ 6)) D dv Fn fv sv pk fd spd lim ∧ ((0 ≤ w ∧ w ≤ 6) → v = toldV D Fn sv.1 pk.1 fd.1 spd lim w)) : AQ)) μ2 o' n3 μ3) : FIN vI B k9 o' μ3 := by
  obtain ⟨-, rfl, rfl⟩ := hQ
  obtain ⟨-, hF, b, rfl, hmm, hv⟩ := hQm
  by_cases p9 : 0 ≤ w ∧ w ≤ 6
  · rw [tx1_0 p9] at hmm
    exact fin_ok hC hmm (ko_B hO) hF hW (Or.inl (ox_t p9)) rfl (hv p9)
  · rw [tx1_1 p9] at hmm
    exact fin_ex hC hmm hO hF h101 hW (ox_f p9) rfl (by simp [IX, IA, IS]) (by omega)
set_option maxHeartbeats 4000000 in
theorem fin_jump {n n1 n3 : Nat} {μ μ1 μ2 μ3 : AH} {th B k9 : Int} {D : Nat} {dv : Nat → DVt} {Fn : Nat} {fv : Nat → FVt} {sv : SVt} {pk fd : Nat × (Nat → Int)} {spd lim : Int} {i k : Int} {o9 : Nat → Int} {o o' : AOut} (hC : CH μ D dv Fn fv sv pk fd spd lim) (hm : MM μ th D dv Fn fv sv pk fd spd lim) (hO : COk B D dv Fn fv sv pk fd spd lim) (h101 : μ 101 = oL 1 o9)  (hQ : ((fun o n' μ' => n' = n ∧ μ' = μ ∧ ∃ v : Int, o = ox (0 ≤ i ∧ i < (D : Int)) IX (.inl (some (vI v))) ∧ ((0 ≤ i ∧ i < (D : Int)) → KthR (fun p => isJ (dv i.toNat).2.1 (dv i.toNat).2.2.1 (dv i.toNat).2.2.2.1 (dv i.toNat).2.2.2.2.2.1 (dv i.toNat).2.2.2.2.2.2.1 (dv i.toNat).2.2.2.2.2.2.2 spd p) (dv i.toNat).1 k v)) : AQ) o n1 μ1) (hW : WR [(IX, 1)] o9 o μ1 (vI k9) μ2) (hQm : (fun μ : AH => ((fun o n' μ' => n' = n ∧ FrR 82 101 μ μ' ∧ ∃ v : Int, o = .inl (some (vI v)) ∧ MM μ' (tx1 (0 ≤ i ∧ i < (D : Int))) D dv Fn fv sv pk fd spd lim ∧ ((0 ≤ i ∧ i < (D : Int)) → KthR (fun p => isJ (dv i.toNat).2.1 (dv i.toNat).2.2.1 (dv i.toNat).2.2.2.1 (dv i.toNat).2.2.2.2.2.1 (dv i.toNat).2.2.2.2.2.2.1 (dv i.toNat).2.2.2.2.2.2.2 spd p) (dv i.toNat).1 k v)) : AQ)) μ2 o' n3 μ3) : FIN vI B k9 o' μ3 := by
  obtain ⟨-, rfl, v, rfl, hK⟩ := hQ
  obtain ⟨-, hF, b, rfl, hmm, hv⟩ := hQm
  by_cases p9 : 0 ≤ i ∧ i < (D : Int)
  · rw [tx1_0 p9] at hmm
    exact fin_ok hC hmm (ko_B hO) hF hW (Or.inl (ox_t p9)) rfl (KthR_u (hv p9) (hK p9))
  · rw [tx1_1 p9] at hmm
    exact fin_ex hC hmm hO hF h101 hW (ox_f p9) rfl (by simp [IX, IA, IS]) (by omega)
set_option maxHeartbeats 4000000 in
theorem fin_gap {n n1 n3 : Nat} {μ μ1 μ2 μ3 : AH} {th B k9 : Int} {D : Nat} {dv : Nat → DVt} {Fn : Nat} {fv : Nat → FVt} {sv : SVt} {pk fd : Nat × (Nat → Int)} {spd lim : Int} {i k : Int} {o9 : Nat → Int} {o o' : AOut} (hC : CH μ D dv Fn fv sv pk fd spd lim) (hm : MM μ th D dv Fn fv sv pk fd spd lim) (hO : COk B D dv Fn fv sv pk fd spd lim) (h101 : μ 101 = oL 1 o9)  (hQ : ((fun o n' μ' => n' = n ∧ μ' = μ ∧ ∃ v : Int, o = ox (0 ≤ i ∧ i < (D : Int)) IX (.inl (some (vI v))) ∧ ((0 ≤ i ∧ i < (D : Int)) → KthR (fun p => isG (dv i.toNat).2.1 (dv i.toNat).2.2.2.2.2.1 (dv i.toNat).2.2.2.2.2.2.1 (dv i.toNat).2.2.2.2.2.2.2 lim p) (dv i.toNat).1 k v)) : AQ) o n1 μ1) (hW : WR [(IX, 1)] o9 o μ1 (vI k9) μ2) (hQm : (fun μ : AH => ((fun o n' μ' => n' = n ∧ FrR 82 101 μ μ' ∧ ∃ v : Int, o = .inl (some (vI v)) ∧ MM μ' (tx1 (0 ≤ i ∧ i < (D : Int))) D dv Fn fv sv pk fd spd lim ∧ ((0 ≤ i ∧ i < (D : Int)) → KthR (fun p => isG (dv i.toNat).2.1 (dv i.toNat).2.2.2.2.2.1 (dv i.toNat).2.2.2.2.2.2.1 (dv i.toNat).2.2.2.2.2.2.2 lim p) (dv i.toNat).1 k v)) : AQ)) μ2 o' n3 μ3) : FIN vI B k9 o' μ3 := by
  obtain ⟨-, rfl, v, rfl, hK⟩ := hQ
  obtain ⟨-, hF, b, rfl, hmm, hv⟩ := hQm
  by_cases p9 : 0 ≤ i ∧ i < (D : Int)
  · rw [tx1_0 p9] at hmm
    exact fin_ok hC hmm (ko_B hO) hF hW (Or.inl (ox_t p9)) rfl (KthR_u (hv p9) (hK p9))
  · rw [tx1_1 p9] at hmm
    exact fin_ex hC hmm hO hF h101 hW (ox_f p9) rfl (by simp [IX, IA, IS]) (by omega)
set_option maxHeartbeats 4000000 in
theorem fin_repeat {n n1 n3 : Nat} {μ μ1 μ2 μ3 : AH} {th B k9 : Int} {D : Nat} {dv : Nat → DVt} {Fn : Nat} {fv : Nat → FVt} {sv : SVt} {pk fd : Nat × (Nat → Int)} {spd lim : Int} {i w : Int} {o9 : Nat → Int} {o o' : AOut} (hC : CH μ D dv Fn fv sv pk fd spd lim) (hm : MM μ th D dv Fn fv sv pk fd spd lim) (hO : COk B D dv Fn fv sv pk fd spd lim) (h101 : μ 101 = oL 1 o9)  (hQ : ((fun o n' μ' => n' = n ∧ μ' = μ ∧ ∃ v : Int, o = ox (0 ≤ i ∧ i < (D : Int)) IX (ox (1 ≤ w ∧ w ≤ 30) IA (.inl (some (vI v)))) ∧ ((0 ≤ i ∧ i < (D : Int)) → (1 ≤ w ∧ w ≤ 30) → RepR (dv i.toNat).2.1 (dv i.toNat).2.2.1 (dv i.toNat).2.2.2.1 (dv i.toNat).1 w.toNat v)) : AQ) o n1 μ1) (hW : WR [(IX, 1), (IA, 2)] o9 o μ1 (vI k9) μ2) (hQm : (fun μ : AH => ((fun o n' μ' => n' = n ∧ FrR 82 101 μ μ' ∧ ∃ v : Int, o = .inl (some (vI v)) ∧ MM μ' (tx2 (0 ≤ i ∧ i < (D : Int)) (1 ≤ w ∧ w ≤ 30)) D dv Fn fv sv pk fd spd lim ∧ (((0 ≤ i ∧ i < (D : Int)) ∧ 1 ≤ w ∧ w ≤ 30) → RepR (dv i.toNat).2.1 (dv i.toNat).2.2.1 (dv i.toNat).2.2.2.1 (dv i.toNat).1 w.toNat v)) : AQ)) μ2 o' n3 μ3) : FIN vI B k9 o' μ3 := by
  obtain ⟨-, rfl, v, rfl, hK⟩ := hQ
  obtain ⟨-, hF, b, rfl, hmm, hv⟩ := hQm
  by_cases p9 : 0 ≤ i ∧ i < (D : Int)
  · by_cases r9 : 1 ≤ w ∧ w ≤ 30
    · rw [tx2_0 p9 r9] at hmm
      exact fin_ok hC hmm (ko_B hO) hF hW (Or.inl ((ox_t p9).trans (ox_t r9))) rfl (RepR_u (hv ⟨p9, r9⟩) (hK p9 r9))
    · rw [tx2_2 p9 r9] at hmm
      exact fin_ex hC hmm hO hF h101 hW ((ox_t p9).trans (ox_f r9)) rfl (by simp [IX, IA, IS]) (by omega)
  · rw [tx2_1 p9] at hmm
    exact fin_ex hC hmm hO hF h101 hW (ox_f p9) rfl (by simp [IX, IA, IS]) (by omega)
theorem cldR_u {v : DVt} {spd : Int} {r : Nat} {a b z z' : Int} (h : cldR v spd r a b z) (h' : cldR v spd r a b z') : z = z' := by
  obtain ⟨t1, t2, a1, a2, a3⟩ := h
  obtain ⟨u1, u2, b1, b2, b3⟩ := h'
  rw [a3, b3, SecR_u a1 b1, SecR_u a2 b2]
set_option maxHeartbeats 4000000 in
theorem fin_could {n n1 n3 : Nat} {μ μ1 μ2 μ3 : AH} {th B k9 : Int} {D : Nat} {dv : Nat → DVt} {Fn : Nat} {fv : Nat → FVt} {sv : SVt} {pk fd : Nat × (Nat → Int)} {spd lim : Int} {i k a b : Int} {o9 : Nat → Int} {o o' : AOut} (hC : CH μ D dv Fn fv sv pk fd spd lim) (hm : MM μ th D dv Fn fv sv pk fd spd lim) (hO : COk B D dv Fn fv sv pk fd spd lim) (h101 : μ 101 = oL 1 o9)  (hQ : ((fun o n' μ' => n' = n ∧ μ' = μ ∧ ∃ (p z : Int), ((0 ≤ i ∧ i < (D : Int)) → KthR (fun p => gapP (dv i.toNat) lim p) (dv i.toNat).1 k p) ∧ o = ox ((0 ≤ i ∧ i < (D : Int)) ∧ p ≠ -1) IX (ox ((-200 ≤ a ∧ a ≤ 200) ∧ -200 ≤ b ∧ b ≤ 200) IA (.inl (some (vI z)))) ∧ ((0 ≤ i ∧ i < (D : Int)) → p ≠ -1 → ((-200 ≤ a ∧ a ≤ 200) ∧ -200 ≤ b ∧ b ≤ 200) → cldR (dv i.toNat) spd p.toNat a b z)) : AQ) o n1 μ1) (hW : WR [(IX, 1), (IA, 2)] o9 o μ1 (vI k9) μ2) (hQm : (fun μ : AH => ((fun o n' μ' => n' = n ∧ FrR 82 101 μ μ' ∧ ∃ (p v : Int), ((0 ≤ i ∧ i < (D : Int)) → KthR (fun p => gapP (dv i.toNat) lim p) (dv i.toNat).1 k p) ∧ o = .inl (some (vI v)) ∧ MM μ' (tx2 ((0 ≤ i ∧ i < (D : Int)) ∧ p ≠ -1) ((-200 ≤ a ∧ a ≤ 200) ∧ -200 ≤ b ∧ b ≤ 200)) D dv Fn fv sv pk fd spd lim ∧ ((0 ≤ i ∧ i < (D : Int)) → p ≠ -1 → ((-200 ≤ a ∧ a ≤ 200) ∧ -200 ≤ b ∧ b ≤ 200) → cldR (dv i.toNat) spd p.toNat a b v)) : AQ)) μ2 o' n3 μ3) : FIN vI B k9 o' μ3 := by
  obtain ⟨-, rfl, p, z, hK, rfl, hc⟩ := hQ
  obtain ⟨-, hF, p', b', hK', rfl, hmm, hv⟩ := hQm
  by_cases p9 : 0 ≤ i ∧ i < (D : Int)
  · obtain rfl := KthR_u (hK p9) (hK' p9)
    by_cases q9 : p ≠ -1
    · by_cases r9 : (-200 ≤ a ∧ a ≤ 200) ∧ -200 ≤ b ∧ b ≤ 200
      · rw [tx2_0 ⟨p9, q9⟩ r9] at hmm
        exact fin_ok hC hmm (ko_B hO) hF hW (Or.inl ((ox_t ⟨p9, q9⟩).trans (ox_t r9))) rfl (cldR_u (hv p9 q9 r9) (hc p9 q9 r9))
      · rw [tx2_2 ⟨p9, q9⟩ r9] at hmm
        exact fin_ex hC hmm hO hF h101 hW ((ox_t ⟨p9, q9⟩).trans (ox_f r9)) rfl (by simp [IX, IA, IS]) (by omega)
    · rw [tx2_1 (fun h => q9 h.2)] at hmm
      exact fin_ex hC hmm hO hF h101 hW (ox_f (fun h => q9 h.2)) rfl (by simp [IX, IA, IS]) (by omega)
  · rw [tx2_1 (fun h => p9 h.1)] at hmm
    exact fin_ex hC hmm hO hF h101 hW (ox_f (fun h => p9 h.1)) rfl (by simp [IX, IA, IS]) (by omega)
set_option maxHeartbeats 4000000 in
theorem fin_in {n n1 n3 : Nat} {μ μ1 μ2 μ3 : AH} {th B k9 : Int} {D : Nat} {dv : Nat → DVt} {Fn : Nat} {fv : Nat → FVt} {sv : SVt} {pk fd : Nat × (Nat → Int)} {spd lim : Int} {i p j : Int} {o9 : Nat → Int} {o o' : AOut} (hC : CH μ D dv Fn fv sv pk fd spd lim) (hm : MM μ th D dv Fn fv sv pk fd spd lim) (hO : COk B D dv Fn fv sv pk fd spd lim) (h101 : μ 101 = oL 1 o9)  (hQ : ((fun o n' μ' => n' = n ∧ μ' = μ ∧ ∃ z : Int, o = ox ((0 ≤ i ∧ i < (D : Int)) ∧ 0 ≤ p ∧ p < ((dv i.toNat).1 : Int)) IX (ox (0 ≤ j ∧ j < (Fn : Int)) IX (.inl (some (vI z)))) ∧ (((0 ≤ i ∧ i < (D : Int)) ∧ 0 ≤ p ∧ p < ((dv i.toNat).1 : Int)) → (0 ≤ j ∧ j < (Fn : Int)) → ((z = 1 ∧ inF (fv j.toNat).1 (fv j.toNat).2.1 (fv j.toNat).2.2 ((dv i.toNat).2.2.1 p.toNat) ((dv i.toNat).2.2.2.1 p.toNat)) ∨ (z = 0 ∧ ¬ inF (fv j.toNat).1 (fv j.toNat).2.1 (fv j.toNat).2.2 ((dv i.toNat).2.2.1 p.toNat) ((dv i.toNat).2.2.2.1 p.toNat))))) : AQ) o n1 μ1) (hW : WR [(IX, 1)] o9 o μ1 (vI k9) μ2) (hQm : (fun μ : AH => ((fun o n' μ' => n' = n ∧ FrR 82 101 μ μ' ∧ ∃ v : Int, o = .inl (some (vI v)) ∧ MM μ' (tx1 (((0 ≤ i ∧ i < (D : Int)) ∧ 0 ≤ p ∧ p < ((dv i.toNat).1 : Int)) ∧ 0 ≤ j ∧ j < (Fn : Int))) D dv Fn fv sv pk fd spd lim ∧ ((((0 ≤ i ∧ i < (D : Int)) ∧ 0 ≤ p ∧ p < ((dv i.toNat).1 : Int)) ∧ 0 ≤ j ∧ j < (Fn : Int)) → ((v = 1 ∧ inF (fv j.toNat).1 (fv j.toNat).2.1 (fv j.toNat).2.2 ((dv i.toNat).2.2.1 p.toNat) ((dv i.toNat).2.2.2.1 p.toNat)) ∨ (v = 0 ∧ ¬ inF (fv j.toNat).1 (fv j.toNat).2.1 (fv j.toNat).2.2 ((dv i.toNat).2.2.1 p.toNat) ((dv i.toNat).2.2.2.1 p.toNat))))) : AQ)) μ2 o' n3 μ3) : FIN vI B k9 o' μ3 := by
  obtain ⟨-, rfl, z, rfl, hc⟩ := hQ
  obtain ⟨-, hF, b', rfl, hmm, hv⟩ := hQm
  by_cases p9 : (0 ≤ i ∧ i < (D : Int)) ∧ 0 ≤ p ∧ p < ((dv i.toNat).1 : Int)
  · by_cases r9 : 0 ≤ j ∧ j < (Fn : Int)
    · rw [tx1_0 ⟨p9, r9⟩] at hmm
      refine fin_ok hC hmm (ko_B hO) hF hW (Or.inl ((ox_t p9).trans (ox_t r9))) rfl ?_
      rcases hv ⟨p9, r9⟩ with ⟨a1, a2⟩ | ⟨a1, a2⟩ <;> rcases hc p9 r9 with ⟨b1, b2⟩ | ⟨b1, b2⟩
      · rw [a1, b1]
      · exact absurd a2 b2
      · exact absurd b2 a2
      · rw [a1, b1]
    · rw [tx1_1 (fun h => r9 h.2)] at hmm
      exact fin_ex hC hmm hO hF h101 hW ((ox_t p9).trans (ox_f r9)) rfl (by simp [IX, IA, IS]) (by omega)
  · rw [tx1_1 (fun h => p9 h.1)] at hmm
    exact fin_ex hC hmm hO hF h101 hW (ox_f p9) rfl (by simp [IX, IA, IS]) (by omega)
set_option maxHeartbeats 4000000 in
theorem fin_port {n n1 n3 : Nat} {μ μ1 μ2 μ3 : AH} {th B k9 : Int} {D : Nat} {dv : Nat → DVt} {Fn : Nat} {fv : Nat → FVt} {sv : SVt} {pk fd : Nat × (Nat → Int)} {spd lim : Int} {i p : Int} {o9 : Nat → Int} {o o' : AOut} (hC : CH μ D dv Fn fv sv pk fd spd lim) (hm : MM μ th D dv Fn fv sv pk fd spd lim) (hO : COk B D dv Fn fv sv pk fd spd lim) (h101 : μ 101 = oL 1 o9)  (hQ : ((fun o n' μ' => n' = n ∧ μ' = μ ∧ ∃ z : Int, o = ox ((0 ≤ i ∧ i < (D : Int)) ∧ 0 ≤ p ∧ p < ((dv i.toNat).1 : Int)) IX (.inl (some (vI z))) ∧ (((0 ≤ i ∧ i < (D : Int)) ∧ 0 ≤ p ∧ p < ((dv i.toNat).1 : Int)) → PortR Fn (fun e => inF (fv e).1 (fv e).2.1 (fv e).2.2 ((dv i.toNat).2.2.1 p.toNat) ((dv i.toNat).2.2.2.1 p.toNat)) z)) : AQ) o n1 μ1) (hW : WR [(IX, 1)] o9 o μ1 (vI k9) μ2) (hQm : (fun μ : AH => ((fun o n' μ' => n' = n ∧ FrR 82 101 μ μ' ∧ ∃ v : Int, o = .inl (some (vI v)) ∧ MM μ' (tx1 ((0 ≤ i ∧ i < (D : Int)) ∧ 0 ≤ p ∧ p < ((dv i.toNat).1 : Int))) D dv Fn fv sv pk fd spd lim ∧ (((0 ≤ i ∧ i < (D : Int)) ∧ 0 ≤ p ∧ p < ((dv i.toNat).1 : Int)) → PortR Fn (fun e => inF (fv e).1 (fv e).2.1 (fv e).2.2 ((dv i.toNat).2.2.1 p.toNat) ((dv i.toNat).2.2.2.1 p.toNat)) v)) : AQ)) μ2 o' n3 μ3) : FIN vI B k9 o' μ3 := by
  obtain ⟨-, rfl, z, rfl, hc⟩ := hQ
  obtain ⟨-, hF, b', rfl, hmm, hv⟩ := hQm
  by_cases p9 : (0 ≤ i ∧ i < (D : Int)) ∧ 0 ≤ p ∧ p < ((dv i.toNat).1 : Int)
  · rw [tx1_0 p9] at hmm
    exact fin_ok hC hmm (ko_B hO) hF hW (Or.inl (ox_t p9)) rfl (PortR_u (hv p9) (hc p9))
  · rw [tx1_1 p9] at hmm
    exact fin_ex hC hmm hO hF h101 hW (ox_f p9) rfl (by simp [IX, IA, IS]) (by omega)
set_option maxHeartbeats 4000000 in
theorem fin_weight {n n1 n3 : Nat} {μ μ1 μ2 μ3 : AH} {th B k9 : Int} {D : Nat} {dv : Nat → DVt} {Fn : Nat} {fv : Nat → FVt} {sv : SVt} {pk fd : Nat × (Nat → Int)} {spd lim : Int} {x i : Int} {o9 : Nat → Int} {o o' : AOut} (hC : CH μ D dv Fn fv sv pk fd spd lim) (hm : MM μ th D dv Fn fv sv pk fd spd lim) (hO : COk B D dv Fn fv sv pk fd spd lim) (h101 : μ 101 = oL 1 o9)  (hQ : ((Pu n μ (ox (0 ≤ x ∧ x < (sv.1 : Int)) IX (ox (0 ≤ i ∧ i < (D : Int)) IX (.inl (some (vL (wgt (dv i.toNat) (sv.2.1 x.toNat) (sv.2.2.1 x.toNat) (sv.2.2.2 x.toNat)))))))) : AQ) o n1 μ1) (hW : WR [(IX, 1)] o9 o μ1 (vI k9) μ2) (hQm : (fun μ : AH => ((fun o n' μ' => n' = n ∧ FrR 82 101 μ μ' ∧ ∃ v : Int, o = .inl (some (vL v)) ∧ MM μ' (tx1 ((0 ≤ x ∧ x < (sv.1 : Int)) ∧ 0 ≤ i ∧ i < (D : Int))) D dv Fn fv sv pk fd spd lim ∧ (((0 ≤ x ∧ x < (sv.1 : Int)) ∧ 0 ≤ i ∧ i < (D : Int)) → v = wgt (dv i.toNat) (sv.2.1 x.toNat) (sv.2.2.1 x.toNat) (sv.2.2.2 x.toNat))) : AQ)) μ2 o' n3 μ3) : FIN vL B k9 o' μ3 := by
  obtain ⟨-, rfl, rfl⟩ := hQ
  obtain ⟨-, hF, b', rfl, hmm, hv⟩ := hQm
  by_cases p9 : 0 ≤ x ∧ x < (sv.1 : Int)
  · by_cases r9 : 0 ≤ i ∧ i < (D : Int)
    · rw [tx1_0 ⟨p9, r9⟩] at hmm
      exact fin_ok hC hmm (ko_B hO) hF hW (Or.inr ((ox_t p9).trans (ox_t r9))) rfl (hv ⟨p9, r9⟩)
    · rw [tx1_1 (fun h => r9 h.2)] at hmm
      exact fin_ex hC hmm hO hF h101 hW ((ox_t p9).trans (ox_f r9)) rfl (by simp [IX, IA, IS]) (by omega)
  · rw [tx1_1 (fun h => p9 h.1)] at hmm
    exact fin_ex hC hmm hO hF h101 hW (ox_f p9) rfl (by simp [IX, IA, IS]) (by omega)
set_option maxHeartbeats 4000000 in
theorem fin_device {n n1 n3 : Nat} {μ μ1 μ2 μ3 : AH} {th B k9 : Int} {D : Nat} {dv : Nat → DVt} {Fn : Nat} {fv : Nat → FVt} {sv : SVt} {pk fd : Nat × (Nat → Int)} {spd lim : Int}  {o9 : Nat → Int} {o o' : AOut} (hC : CH μ D dv Fn fv sv pk fd spd lim) (hm : MM μ th D dv Fn fv sv pk fd spd lim) (hO : COk B D dv Fn fv sv pk fd spd lim) (h101 : μ 101 = oL 1 o9)  (hQ : ((fun o n' μ' => n' = n ∧ (((D < 5) ∧ o = .inl (some (vI (D : Int))) ∧ CH μ' (D + 1) dv Fn fv sv pk fd spd lim ∧ FrC μ μ') ∨ (¬ D < 5 ∧ o = .inr IS ∧ μ' = μ))) : AQ) o n1 μ1) (hW : WR [(IS, 1)] o9 o μ1 (vI k9) μ2) (hQm : (fun μ : AH => ((fun o n' μ' => n' = n ∧ FrR 82 101 μ μ' ∧ ∃ v : Int, o = .inl (some (vI v)) ∧ (((D < 5) ∧ MM μ' 0 (D + 1) dv Fn fv sv pk fd spd lim ∧ v = (D : Int)) ∨ (¬ (D < 5) ∧ MM μ' 1 D dv Fn fv sv pk fd spd lim))) : AQ)) μ2 o' n3 μ3) : FIN vI B k9 o' μ3 := by
  obtain ⟨-, hQ⟩ := hQ
  obtain ⟨-, hF, b', rfl, hQm⟩ := hQm
  rcases hQ with ⟨a1, rfl, a3, a4⟩ | ⟨a1, rfl, rfl⟩ <;> rcases hQm with ⟨b1, b2, b3⟩ | ⟨b1, b2⟩
  · exact fin_ok a3 b2 (ko_D hO a1) hF hW (Or.inl rfl) rfl b3
  · exact absurd a1 b1
  · exact absurd b1 a1
  · exact fin_ex hC b2 hO hF h101 hW rfl rfl (by simp [IX, IA, IS]) (by omega)
set_option maxHeartbeats 4000000 in
theorem fin_fence {n n1 n3 : Nat} {μ μ1 μ2 μ3 : AH} {th B k9 : Int} {D : Nat} {dv : Nat → DVt} {Fn : Nat} {fv : Nat → FVt} {sv : SVt} {pk fd : Nat × (Nat → Int)} {spd lim : Int}  {o9 : Nat → Int} {o o' : AOut} (hC : CH μ D dv Fn fv sv pk fd spd lim) (hm : MM μ th D dv Fn fv sv pk fd spd lim) (hO : COk B D dv Fn fv sv pk fd spd lim) (h101 : μ 101 = oL 1 o9)  (hQ : ((fun o n' μ' => n' = n ∧ (((Fn < 4) ∧ o = .inl (some (vI (Fn : Int))) ∧ CH μ' D dv (Fn + 1) fv sv pk fd spd lim ∧ FrC μ μ') ∨ (¬ Fn < 4 ∧ o = .inr IS ∧ μ' = μ))) : AQ) o n1 μ1) (hW : WR [(IS, 1)] o9 o μ1 (vI k9) μ2) (hQm : (fun μ : AH => ((fun o n' μ' => n' = n ∧ FrR 82 101 μ μ' ∧ ∃ v : Int, o = .inl (some (vI v)) ∧ (((Fn < 4) ∧ MM μ' 0 D dv (Fn + 1) fv sv pk fd spd lim ∧ v = (Fn : Int)) ∨ (¬ (Fn < 4) ∧ MM μ' 1 D dv Fn fv sv pk fd spd lim))) : AQ)) μ2 o' n3 μ3) : FIN vI B k9 o' μ3 := by
  obtain ⟨-, hQ⟩ := hQ
  obtain ⟨-, hF, b', rfl, hQm⟩ := hQm
  rcases hQ with ⟨a1, rfl, a3, a4⟩ | ⟨a1, rfl, rfl⟩ <;> rcases hQm with ⟨b1, b2, b3⟩ | ⟨b1, b2⟩
  · exact fin_ok a3 b2 (ko_F hO a1) hF hW (Or.inl rfl) rfl b3
  · exact absurd a1 b1
  · exact absurd b1 a1
  · exact fin_ex hC b2 hO hF h101 hW rfl rfl (by simp [IX, IA, IS]) (by omega)
set_option maxHeartbeats 4000000 in
theorem fin_speed {n n1 n3 : Nat} {μ μ1 μ2 μ3 : AH} {th B k9 : Int} {D : Nat} {dv : Nat → DVt} {Fn : Nat} {fv : Nat → FVt} {sv : SVt} {pk fd : Nat × (Nat → Int)} {spd lim : Int} {x : Int} {o9 : Nat → Int} {o o' : AOut} (hC : CH μ D dv Fn fv sv pk fd spd lim) (hm : MM μ th D dv Fn fv sv pk fd spd lim) (hO : COk B D dv Fn fv sv pk fd spd lim) (h101 : μ 101 = oL 1 o9)  (hQ : ((fun o n' μ' => n' = n ∧ ((((1 ≤ x ∧ x ≤ 100)) ∧ o = .inl (some (vI spd)) ∧ CH μ' D dv Fn fv sv pk fd x lim ∧ FrC μ μ') ∨ (¬ (1 ≤ x ∧ x ≤ 100) ∧ o = .inr IA ∧ μ' = μ))) : AQ) o n1 μ1) (hW : WR [(IA, 1)] o9 o μ1 (vI k9) μ2) (hQm : (fun μ : AH => ((fun o n' μ' => n' = n ∧ FrR 82 101 μ μ' ∧ ∃ v : Int, o = .inl (some (vI v)) ∧ (((1 ≤ x ∧ x ≤ 100) ∧ MM μ' 0 D dv Fn fv sv pk fd x lim ∧ v = spd) ∨ (¬ (1 ≤ x ∧ x ≤ 100) ∧ MM μ' 1 D dv Fn fv sv pk fd spd lim))) : AQ)) μ2 o' n3 μ3) : FIN vI B k9 o' μ3 := by
  obtain ⟨-, hQ⟩ := hQ
  obtain ⟨-, hF, b', rfl, hQm⟩ := hQm
  rcases hQ with ⟨a1, rfl, a3, a4⟩ | ⟨a1, rfl, rfl⟩ <;> rcases hQm with ⟨b1, b2, b3⟩ | ⟨b1, b2⟩
  · exact fin_ok a3 b2 (ko_spd hO a1) hF hW (Or.inl rfl) rfl b3
  · exact absurd a1 b1
  · exact absurd b1 a1
  · exact fin_ex hC b2 hO hF h101 hW rfl rfl (by simp [IX, IA, IS]) (by omega)
set_option maxHeartbeats 4000000 in
theorem fin_limit {n n1 n3 : Nat} {μ μ1 μ2 μ3 : AH} {th B k9 : Int} {D : Nat} {dv : Nat → DVt} {Fn : Nat} {fv : Nat → FVt} {sv : SVt} {pk fd : Nat × (Nat → Int)} {spd lim : Int} {x : Int} {o9 : Nat → Int} {o o' : AOut} (hC : CH μ D dv Fn fv sv pk fd spd lim) (hm : MM μ th D dv Fn fv sv pk fd spd lim) (hO : COk B D dv Fn fv sv pk fd spd lim) (h101 : μ 101 = oL 1 o9)  (hQ : ((fun o n' μ' => n' = n ∧ ((((1 ≤ x ∧ x ≤ 100000)) ∧ o = .inl (some (vI lim)) ∧ CH μ' D dv Fn fv sv pk fd spd x ∧ FrC μ μ') ∨ (¬ (1 ≤ x ∧ x ≤ 100000) ∧ o = .inr IA ∧ μ' = μ))) : AQ) o n1 μ1) (hW : WR [(IA, 1)] o9 o μ1 (vI k9) μ2) (hQm : (fun μ : AH => ((fun o n' μ' => n' = n ∧ FrR 82 101 μ μ' ∧ ∃ v : Int, o = .inl (some (vI v)) ∧ (((1 ≤ x ∧ x ≤ 100000) ∧ MM μ' 0 D dv Fn fv sv pk fd spd x ∧ v = lim) ∨ (¬ (1 ≤ x ∧ x ≤ 100000) ∧ MM μ' 1 D dv Fn fv sv pk fd spd lim))) : AQ)) μ2 o' n3 μ3) : FIN vI B k9 o' μ3 := by
  obtain ⟨-, hQ⟩ := hQ
  obtain ⟨-, hF, b', rfl, hQm⟩ := hQm
  rcases hQ with ⟨a1, rfl, a3, a4⟩ | ⟨a1, rfl, rfl⟩ <;> rcases hQm with ⟨b1, b2, b3⟩ | ⟨b1, b2⟩
  · exact fin_ok a3 b2 (ko_lim hO a1) hF hW (Or.inl rfl) rfl b3
  · exact absurd a1 b1
  · exact absurd b1 a1
  · exact fin_ex hC b2 hO hF h101 hW rfl rfl (by simp [IX, IA, IS]) (by omega)
set_option maxHeartbeats 4000000 in
theorem fin_sight {n n1 n3 : Nat} {μ μ1 μ2 μ3 : AH} {th B k9 : Int} {D : Nat} {dv : Nat → DVt} {Fn : Nat} {fv : Nat → FVt} {sv : SVt} {pk fd : Nat × (Nat → Int)} {spd lim : Int} {s x y : Int} {o9 : Nat → Int} {o o' : AOut} (hC : CH μ D dv Fn fv sv pk fd spd lim) (hm : MM μ th D dv Fn fv sv pk fd spd lim) (hO : COk B D dv Fn fv sv pk fd spd lim) (h101 : μ 101 = oL 1 o9)  (hQ : ((fun o n' μ' => n' = n ∧ ((((0 ≤ s ∧ s ≤ 1000000 ∧ -100000 ≤ x ∧ x ≤ 100000 ∧ -100000 ≤ y ∧ y ≤ 100000) ∧ sv.1 < 5) ∧ o = .inl (some (vI (sv.1 : Int))) ∧ CH μ' D dv Fn fv (sv.1 + 1, insF sv.2.1 sv.1 sv.1 s, insF sv.2.2.1 sv.1 sv.1 x, insF sv.2.2.2 sv.1 sv.1 y) pk fd spd lim ∧ FrC μ μ') ∨ (¬ (0 ≤ s ∧ s ≤ 1000000 ∧ -100000 ≤ x ∧ x ≤ 100000 ∧ -100000 ≤ y ∧ y ≤ 100000) ∧ o = .inr IA ∧ μ' = μ) ∨ (((0 ≤ s ∧ s ≤ 1000000 ∧ -100000 ≤ x ∧ x ≤ 100000 ∧ -100000 ≤ y ∧ y ≤ 100000) ∧ ¬ sv.1 < 5) ∧ o = .inr IS ∧ μ' = μ))) : AQ) o n1 μ1) (hW : WR [(IA, 1), (IS, 2)] o9 o μ1 (vI k9) μ2) (hQm : (fun μ : AH => ((fun o n' μ' => n' = n ∧ FrR 82 101 μ μ' ∧ ∃ v : Int, o = .inl (some (vI v)) ∧ ((((0 ≤ s ∧ s ≤ 1000000 ∧ -100000 ≤ x ∧ x ≤ 100000 ∧ -100000 ≤ y ∧ y ≤ 100000) ∧ sv.1 < 5) ∧ MM μ' 0 D dv Fn fv (sv.1 + 1, insF sv.2.1 sv.1 sv.1 s, insF sv.2.2.1 sv.1 sv.1 x, insF sv.2.2.2 sv.1 sv.1 y) pk fd spd lim ∧ v = (sv.1 : Int)) ∨ (¬ (0 ≤ s ∧ s ≤ 1000000 ∧ -100000 ≤ x ∧ x ≤ 100000 ∧ -100000 ≤ y ∧ y ≤ 100000) ∧ MM μ' 1 D dv Fn fv sv pk fd spd lim) ∨ (((0 ≤ s ∧ s ≤ 1000000 ∧ -100000 ≤ x ∧ x ≤ 100000 ∧ -100000 ≤ y ∧ y ≤ 100000) ∧ ¬ sv.1 < 5) ∧ MM μ' 2 D dv Fn fv sv pk fd spd lim))) : AQ)) μ2 o' n3 μ3) : FIN vI B k9 o' μ3 := by
  obtain ⟨-, hQ⟩ := hQ
  obtain ⟨-, hF, b', rfl, hQm⟩ := hQm
  rcases hQ with ⟨a1, rfl, a3, a4⟩ | ⟨a1, rfl, rfl⟩ | ⟨a1, rfl, rfl⟩ <;> rcases hQm with ⟨b1, b2, b3⟩ | ⟨b1, b2⟩ | ⟨b1, b2⟩
  · exact fin_ok a3 b2 (ko_sv hO a1.1 a1.2) hF hW (Or.inl rfl) rfl b3
  · exact absurd a1.1 b1
  · exact absurd a1.2 b1.2
  · exact absurd b1.1 a1
  · exact fin_ex hC b2 hO hF h101 hW rfl rfl (by simp [IX, IA, IS]) (by omega)
  · exact absurd b1.1 a1
  · exact absurd b1.2 a1.2
  · exact absurd a1.1 b1
  · exact fin_ex hC b2 hO hF h101 hW rfl rfl (by simp [IX, IA, IS]) (by omega)
set_option maxHeartbeats 4000000 in
theorem fin_feed {n n1 n3 : Nat} {μ μ1 μ2 μ3 : AH} {th B k9 : Int} {D : Nat} {dv : Nat → DVt} {Fn : Nat} {fv : Nat → FVt} {sv : SVt} {pk fd : Nat × (Nat → Int)} {spd lim : Int} {x : Int} {o9 : Nat → Int} {o o' : AOut} (hC : CH μ D dv Fn fv sv pk fd spd lim) (hm : MM μ th D dv Fn fv sv pk fd spd lim) (hO : COk B D dv Fn fv sv pk fd spd lim) (h101 : μ 101 = oL 1 o9)  (hQ : ((fun o n' μ' => n' = n ∧ ((((0 ≤ x ∧ x ≤ 255) ∧ fd.1 < 600) ∧ o = .inl (some (vI ((fd.1 + 1 : Nat) : Int))) ∧ CH μ' D dv Fn fv sv pk (fd.1 + 1, fu fd.2 fd.1 x) spd lim ∧ FrC μ μ') ∨ (¬ (0 ≤ x ∧ x ≤ 255) ∧ o = .inr IA ∧ μ' = μ) ∨ (((0 ≤ x ∧ x ≤ 255) ∧ ¬ fd.1 < 600) ∧ o = .inr IS ∧ μ' = μ))) : AQ) o n1 μ1) (hW : WR [(IA, 1), (IS, 2)] o9 o μ1 (vI k9) μ2) (hQm : (fun μ : AH => ((fun o n' μ' => n' = n ∧ FrR 82 101 μ μ' ∧ ∃ v : Int, o = .inl (some (vI v)) ∧ ((((0 ≤ x ∧ x ≤ 255) ∧ fd.1 < 600) ∧ MM μ' 0 D dv Fn fv sv pk (fd.1 + 1, fu fd.2 fd.1 x) spd lim ∧ v = ((fd.1 + 1 : Nat) : Int)) ∨ (¬ (0 ≤ x ∧ x ≤ 255) ∧ MM μ' 1 D dv Fn fv sv pk fd spd lim) ∨ (((0 ≤ x ∧ x ≤ 255) ∧ ¬ fd.1 < 600) ∧ MM μ' 2 D dv Fn fv sv pk fd spd lim))) : AQ)) μ2 o' n3 μ3) : FIN vI B k9 o' μ3 := by
  obtain ⟨-, hQ⟩ := hQ
  obtain ⟨-, hF, b', rfl, hQm⟩ := hQm
  rcases hQ with ⟨a1, rfl, a3, a4⟩ | ⟨a1, rfl, rfl⟩ | ⟨a1, rfl, rfl⟩ <;> rcases hQm with ⟨b1, b2, b3⟩ | ⟨b1, b2⟩ | ⟨b1, b2⟩
  · exact fin_ok a3 b2 (ko_fd hO a1.1 a1.2) hF hW (Or.inl rfl) rfl b3
  · exact absurd a1.1 b1
  · exact absurd a1.2 b1.2
  · exact absurd b1.1 a1
  · exact fin_ex hC b2 hO hF h101 hW rfl rfl (by simp [IX, IA, IS]) (by omega)
  · exact absurd b1.1 a1
  · exact absurd b1.2 a1.2
  · exact absurd a1.1 b1
  · exact fin_ex hC b2 hO hF h101 hW rfl rfl (by simp [IX, IA, IS]) (by omega)
set_option maxHeartbeats 4000000 in
theorem fin_corner {n n1 n3 : Nat} {μ μ1 μ2 μ3 : AH} {th B k9 : Int} {D : Nat} {dv : Nat → DVt} {Fn : Nat} {fv : Nat → FVt} {sv : SVt} {pk fd : Nat × (Nat → Int)} {spd lim : Int} {j x y : Int} {o9 : Nat → Int} {o o' : AOut} (hC : CH μ D dv Fn fv sv pk fd spd lim) (hm : MM μ th D dv Fn fv sv pk fd spd lim) (hO : COk B D dv Fn fv sv pk fd spd lim) (h101 : μ 101 = oL 1 o9)  (hQ : ((fun o n' μ' => n' = n ∧ ((((((0 ≤ j ∧ j < (Fn : Int)) ∧ (-100000 ≤ x ∧ x ≤ 100000) ∧ -100000 ≤ y ∧ y ≤ 100000) ∧ (fv j.toNat).1 < 8)) ∧ o = .inl (some (vI (((fv j.toNat).1 + 1 : Nat) : Int))) ∧ CH μ' D dv Fn (fvu fv j.toNat ((fv j.toNat).1 + 1, fu (fv j.toNat).2.1 (fv j.toNat).1 x, fu (fv j.toNat).2.2 (fv j.toNat).1 y)) sv pk fd spd lim ∧ FrC μ μ') ∨ (¬ (0 ≤ j ∧ j < (Fn : Int)) ∧ o = .inr IX ∧ μ' = μ) ∨ (((0 ≤ j ∧ j < (Fn : Int)) ∧ ¬ ((-100000 ≤ x ∧ x ≤ 100000) ∧ -100000 ≤ y ∧ y ≤ 100000)) ∧ o = .inr IA ∧ μ' = μ) ∨ ((((0 ≤ j ∧ j < (Fn : Int)) ∧ (-100000 ≤ x ∧ x ≤ 100000) ∧ -100000 ≤ y ∧ y ≤ 100000) ∧ ¬ (fv j.toNat).1 < 8) ∧ o = .inr IS ∧ μ' = μ))) : AQ) o n1 μ1) (hW : WR [(IX, 1), (IA, 2), (IS, 3)] o9 o μ1 (vI k9) μ2) (hQm : (fun μ : AH => ((fun o n' μ' => n' = n ∧ FrR 82 101 μ μ' ∧ ∃ v : Int, o = .inl (some (vI v)) ∧ (((((0 ≤ j ∧ j < (Fn : Int)) ∧ (-100000 ≤ x ∧ x ≤ 100000) ∧ -100000 ≤ y ∧ y ≤ 100000) ∧ (fv j.toNat).1 < 8) ∧ MM μ' 0 D dv Fn (fvu fv j.toNat ((fv j.toNat).1 + 1, fu (fv j.toNat).2.1 (fv j.toNat).1 x, fu (fv j.toNat).2.2 (fv j.toNat).1 y)) sv pk fd spd lim ∧ v = (((fv j.toNat).1 + 1 : Nat) : Int)) ∨ (¬ (0 ≤ j ∧ j < (Fn : Int)) ∧ MM μ' 1 D dv Fn fv sv pk fd spd lim) ∨ (((0 ≤ j ∧ j < (Fn : Int)) ∧ ¬ ((-100000 ≤ x ∧ x ≤ 100000) ∧ -100000 ≤ y ∧ y ≤ 100000)) ∧ MM μ' 2 D dv Fn fv sv pk fd spd lim) ∨ ((((0 ≤ j ∧ j < (Fn : Int)) ∧ (-100000 ≤ x ∧ x ≤ 100000) ∧ -100000 ≤ y ∧ y ≤ 100000) ∧ ¬ (fv j.toNat).1 < 8) ∧ MM μ' 3 D dv Fn fv sv pk fd spd lim))) : AQ)) μ2 o' n3 μ3) : FIN vI B k9 o' μ3 := by
  obtain ⟨-, hQ⟩ := hQ
  obtain ⟨-, hF, b', rfl, hQm⟩ := hQm
  rcases hQ with ⟨a1, rfl, a3, a4⟩ | ⟨a1, rfl, rfl⟩ | ⟨a1, rfl, rfl⟩ | ⟨a1, rfl, rfl⟩ <;> rcases hQm with ⟨b1, b2, b3⟩ | ⟨b1, b2⟩ | ⟨b1, b2⟩ | ⟨b1, b2⟩
  · exact fin_ok a3 b2 (ko_fv hO a1.1.2 a1.2) hF hW (Or.inl rfl) rfl b3
  · exact absurd a1.1.1 b1
  · exact absurd a1.1.2 b1.2
  · exact absurd a1.2 b1.2
  · exact absurd b1.1.1 a1
  · exact fin_ex hC b2 hO hF h101 hW rfl rfl (by simp [IX, IA, IS]) (by omega)
  · exact absurd b1.1 a1
  · exact absurd b1.1.1 a1
  · exact absurd b1.1.2 a1.2
  · exact absurd a1.1 b1
  · exact fin_ex hC b2 hO hF h101 hW rfl rfl (by simp [IX, IA, IS]) (by omega)
  · exact absurd b1.1.2 a1.2
  · exact absurd b1.2 a1.2
  · exact absurd a1.1.1 b1
  · exact absurd a1.1.2 b1.2
  · exact fin_ex hC b2 hO hF h101 hW rfl rfl (by simp [IX, IA, IS]) (by omega)
set_option maxHeartbeats 4000000 in
theorem fin_place {n n1 n3 : Nat} {μ μ1 μ2 μ3 : AH} {th B k9 : Int} {D : Nat} {dv : Nat → DVt} {Fn : Nat} {fv : Nat → FVt} {sv : SVt} {pk fd : Nat × (Nat → Int)} {spd lim : Int} {i s x y : Int} {o9 : Nat → Int} {o o' : AOut} (hC : CH μ D dv Fn fv sv pk fd spd lim) (hm : MM μ th D dv Fn fv sv pk fd spd lim) (hO : COk B D dv Fn fv sv pk fd spd lim) (h101 : μ 101 = oL 1 o9)  (hQ : ((fun o n' μ' => n' = n ∧ ((¬ (0 ≤ i ∧ i < (D : Int)) ∧ o = .inr IX ∧ μ' = μ) ∨ (((0 ≤ i ∧ i < (D : Int)) ∧ ¬ (0 ≤ s ∧ s ≤ 1000000 ∧ -100000 ≤ x ∧ x ≤ 100000 ∧ -100000 ≤ y ∧ y ≤ 100000)) ∧ o = .inr IA ∧ μ' = μ) ∨ (((((0 ≤ i ∧ i < (D : Int)) ∧ 0 ≤ s ∧ s ≤ 1000000 ∧ -100000 ≤ x ∧ x ≤ 100000 ∧ -100000 ≤ y ∧ y ≤ 100000) ∧ plHas (dv i.toNat) s) ∧ plSame (dv i.toNat) s x y) ∧ o = .inl (some (vI (-2))) ∧ CH μ' D (dvu dv i.toNat (dvTw (dv i.toNat))) Fn fv sv pk fd spd lim ∧ FrC μ μ') ∨ (((((0 ≤ i ∧ i < (D : Int)) ∧ 0 ≤ s ∧ s ≤ 1000000 ∧ -100000 ≤ x ∧ x ≤ 100000 ∧ -100000 ≤ y ∧ y ≤ 100000) ∧ plHas (dv i.toNat) s) ∧ ¬ plSame (dv i.toNat) s x y) ∧ o = .inr IA ∧ μ' = μ) ∨ (((((0 ≤ i ∧ i < (D : Int)) ∧ 0 ≤ s ∧ s ≤ 1000000 ∧ -100000 ≤ x ∧ x ≤ 100000 ∧ -100000 ≤ y ∧ y ≤ 100000) ∧ ¬ plHas (dv i.toNat) s) ∧ ¬ (dv i.toNat).1 < 60) ∧ o = .inr IS ∧ μ' = μ) ∨ (((((0 ≤ i ∧ i < (D : Int)) ∧ 0 ≤ s ∧ s ≤ 1000000 ∧ -100000 ≤ x ∧ x ≤ 100000 ∧ -100000 ≤ y ∧ y ≤ 100000) ∧ ¬ plHas (dv i.toNat) s) ∧ (dv i.toNat).1 < 60) ∧ o = .inl (some (vI (plc (dv i.toNat) s : Int))) ∧ CH μ' D (dvu dv i.toNat (dvIns (dv i.toNat) s x y)) Fn fv sv pk fd spd lim ∧ FrC μ μ'))) : AQ) o n1 μ1) (hW : WR [(IX, 1), (IA, 2), (IS, 3)] o9 o μ1 (vI k9) μ2) (hQm : (fun μ : AH => ((fun o n' μ' => n' = n ∧ FrR 82 101 μ μ' ∧ ∃ v : Int, o = .inl (some (vI v)) ∧ ((¬ (0 ≤ i ∧ i < (D : Int)) ∧ MM μ' 1 D dv Fn fv sv pk fd spd lim) ∨ (((0 ≤ i ∧ i < (D : Int)) ∧ ¬ (0 ≤ s ∧ s ≤ 1000000 ∧ -100000 ≤ x ∧ x ≤ 100000 ∧ -100000 ≤ y ∧ y ≤ 100000)) ∧ MM μ' 2 D dv Fn fv sv pk fd spd lim) ∨ (((((0 ≤ i ∧ i < (D : Int)) ∧ 0 ≤ s ∧ s ≤ 1000000 ∧ -100000 ≤ x ∧ x ≤ 100000 ∧ -100000 ≤ y ∧ y ≤ 100000) ∧ plHas (dv i.toNat) s) ∧ plSame (dv i.toNat) s x y) ∧ MM μ' 0 D (dvu dv i.toNat (dvTw (dv i.toNat))) Fn fv sv pk fd spd lim ∧ v = -2) ∨ (((((0 ≤ i ∧ i < (D : Int)) ∧ 0 ≤ s ∧ s ≤ 1000000 ∧ -100000 ≤ x ∧ x ≤ 100000 ∧ -100000 ≤ y ∧ y ≤ 100000) ∧ plHas (dv i.toNat) s) ∧ ¬ plSame (dv i.toNat) s x y) ∧ MM μ' 2 D dv Fn fv sv pk fd spd lim) ∨ (((((0 ≤ i ∧ i < (D : Int)) ∧ 0 ≤ s ∧ s ≤ 1000000 ∧ -100000 ≤ x ∧ x ≤ 100000 ∧ -100000 ≤ y ∧ y ≤ 100000) ∧ ¬ plHas (dv i.toNat) s) ∧ ¬ (dv i.toNat).1 < 60) ∧ MM μ' 3 D dv Fn fv sv pk fd spd lim) ∨ (((((0 ≤ i ∧ i < (D : Int)) ∧ 0 ≤ s ∧ s ≤ 1000000 ∧ -100000 ≤ x ∧ x ≤ 100000 ∧ -100000 ≤ y ∧ y ≤ 100000) ∧ ¬ plHas (dv i.toNat) s) ∧ (dv i.toNat).1 < 60) ∧ MM μ' 0 D (dvu dv i.toNat (dvIns (dv i.toNat) s x y)) Fn fv sv pk fd spd lim ∧ v = (plc (dv i.toNat) s : Int)))) : AQ)) μ2 o' n3 μ3) : FIN vI B k9 o' μ3 := by
  have hI5 : (0 ≤ i ∧ i < (D : Int)) → i.toNat < 5 := fun h => by have := hO.1; omega
  obtain ⟨-, hQ⟩ := hQ
  obtain ⟨-, hF, b', rfl, hQm⟩ := hQm
  rcases hQ with ⟨a1, rfl, rfl⟩ | ⟨a1, rfl, rfl⟩ | ⟨a1, rfl, a3, a4⟩ | ⟨a1, rfl, rfl⟩ | ⟨a1, rfl, rfl⟩ | ⟨a1, rfl, a3, a4⟩ <;> rcases hQm with ⟨b1, b2⟩ | ⟨b1, b2⟩ | ⟨b1, b2, b3⟩ | ⟨b1, b2⟩ | ⟨b1, b2⟩ | ⟨b1, b2, b3⟩
  · exact fin_ex hC b2 hO hF h101 hW rfl rfl (by simp [IX, IA, IS]) (by omega)
  · exact absurd (b1.1) (a1)
  · exact absurd (b1.1.1.1) (a1)
  · exact absurd (b1.1.1.1) (a1)
  · exact absurd (b1.1.1.1) (a1)
  · exact absurd (b1.1.1.1) (a1)
  · exact absurd (a1.1) (b1)
  · exact fin_ex hC b2 hO hF h101 hW rfl rfl (by simp [IX, IA, IS]) (by omega)
  · exact absurd (b1.1.1.2) (a1.2)
  · exact absurd (b1.1.1.2) (a1.2)
  · exact absurd (b1.1.1.2) (a1.2)
  · exact absurd (b1.1.1.2) (a1.2)
  · exact absurd (a1.1.1.1) (b1)
  · exact absurd (a1.1.1.2) (b1.2)
  · exact fin_ok a3 b2 (ko_dv hO (hO.2.1 i.toNat (hI5 a1.1.1.1)).1 ⟨by have := (hO.2.1 i.toNat (hI5 a1.1.1.1)).2.1; show 0 ≤ (dv i.toNat).2.2.2.2.1 + 1; omega, by have := (hO.2.1 i.toNat (hI5 a1.1.1.1)).2.2; show (dv i.toNat).2.2.2.2.1 + 1 ≤ B + 1; omega⟩) hF hW (Or.inl rfl) rfl b3
  · exact absurd (a1.2) (b1.2)
  · exact absurd (a1.1.2) (b1.1.2)
  · exact absurd (a1.1.2) (b1.1.2)
  · exact absurd (a1.1.1.1) (b1)
  · exact absurd (a1.1.1.2) (b1.2)
  · exact absurd (b1.2) (a1.2)
  · exact fin_ex hC b2 hO hF h101 hW rfl rfl (by simp [IX, IA, IS]) (by omega)
  · exact absurd (a1.1.2) (b1.1.2)
  · exact absurd (a1.1.2) (b1.1.2)
  · exact absurd (a1.1.1.1) (b1)
  · exact absurd (a1.1.1.2) (b1.2)
  · exact absurd (b1.1.2) (a1.1.2)
  · exact absurd (b1.1.2) (a1.1.2)
  · exact fin_ex hC b2 hO hF h101 hW rfl rfl (by simp [IX, IA, IS]) (by omega)
  · exact absurd (b1.2) (a1.2)
  · exact absurd (a1.1.1.1) (b1)
  · exact absurd (a1.1.1.2) (b1.2)
  · exact absurd (b1.1.2) (a1.1.2)
  · exact absurd (b1.1.2) (a1.1.2)
  · exact absurd (a1.2) (b1.2)
  · exact fin_ok a3 b2 (ko_dv hO (O_ins (hO.2.1 i.toNat (hI5 a1.1.1.1)).1 a1.2 a1.1.1.2 a1.1.2) ⟨(hO.2.1 i.toNat (hI5 a1.1.1.1)).2.1, by have := (hO.2.1 i.toNat (hI5 a1.1.1.1)).2.2; show (dv i.toNat).2.2.2.2.1 ≤ B + 1; omega⟩) hF hW (Or.inl rfl) rfl b3
set_option maxHeartbeats 4000000 in
theorem fin_mark {n n1 n3 : Nat} {μ μ1 μ2 μ3 : AH} {th B k9 : Int} {D : Nat} {dv : Nat → DVt} {Fn : Nat} {fv : Nat → FVt} {sv : SVt} {pk fd : Nat × (Nat → Int)} {spd lim : Int} {i s t : Int} {o9 : Nat → Int} {o o' : AOut} (hC : CH μ D dv Fn fv sv pk fd spd lim) (hm : MM μ th D dv Fn fv sv pk fd spd lim) (hO : COk B D dv Fn fv sv pk fd spd lim) (h101 : μ 101 = oL 1 o9)  (hQ : ((fun o n' μ' => n' = n ∧ ((¬ (0 ≤ i ∧ i < (D : Int)) ∧ o = .inr IX ∧ μ' = μ) ∨ (((0 ≤ i ∧ i < (D : Int)) ∧ ¬ ((0 ≤ s ∧ s ≤ 1000000) ∧ 0 ≤ t ∧ t ≤ 1000000)) ∧ o = .inr IA ∧ μ' = μ) ∨ ((((0 ≤ i ∧ i < (D : Int)) ∧ (0 ≤ s ∧ s ≤ 1000000) ∧ 0 ≤ t ∧ t ≤ 1000000) ∧ ¬ mkFit (dv i.toNat) s t) ∧ o = .inr IA ∧ μ' = μ) ∨ (((((0 ≤ i ∧ i < (D : Int)) ∧ (0 ≤ s ∧ s ≤ 1000000) ∧ 0 ≤ t ∧ t ≤ 1000000) ∧ mkFit (dv i.toNat) s t) ∧ ¬ (dv i.toNat).2.2.2.2.2.1 < 8) ∧ o = .inr IS ∧ μ' = μ) ∨ (((((0 ≤ i ∧ i < (D : Int)) ∧ (0 ≤ s ∧ s ≤ 1000000) ∧ 0 ≤ t ∧ t ≤ 1000000) ∧ mkFit (dv i.toNat) s t) ∧ (dv i.toNat).2.2.2.2.2.1 < 8) ∧ o = .inl (some (vI (((dv i.toNat).2.2.2.2.2.1 + 1 : Nat) : Int))) ∧ CH μ' D (dvu dv i.toNat (dvMk (dv i.toNat) s t)) Fn fv sv pk fd spd lim ∧ FrC μ μ'))) : AQ) o n1 μ1) (hW : WR [(IX, 1), (IA, 2), (IS, 3)] o9 o μ1 (vI k9) μ2) (hQm : (fun μ : AH => ((fun o n' μ' => n' = n ∧ FrR 82 101 μ μ' ∧ ∃ v : Int, o = .inl (some (vI v)) ∧ ((¬ (0 ≤ i ∧ i < (D : Int)) ∧ MM μ' 1 D dv Fn fv sv pk fd spd lim) ∨ (((0 ≤ i ∧ i < (D : Int)) ∧ ¬ ((0 ≤ s ∧ s ≤ 1000000) ∧ 0 ≤ t ∧ t ≤ 1000000)) ∧ MM μ' 2 D dv Fn fv sv pk fd spd lim) ∨ ((((0 ≤ i ∧ i < (D : Int)) ∧ (0 ≤ s ∧ s ≤ 1000000) ∧ 0 ≤ t ∧ t ≤ 1000000) ∧ ¬ mkFit (dv i.toNat) s t) ∧ MM μ' 2 D dv Fn fv sv pk fd spd lim) ∨ (((((0 ≤ i ∧ i < (D : Int)) ∧ (0 ≤ s ∧ s ≤ 1000000) ∧ 0 ≤ t ∧ t ≤ 1000000) ∧ mkFit (dv i.toNat) s t) ∧ ¬ (dv i.toNat).2.2.2.2.2.1 < 8) ∧ MM μ' 3 D dv Fn fv sv pk fd spd lim) ∨ (((((0 ≤ i ∧ i < (D : Int)) ∧ (0 ≤ s ∧ s ≤ 1000000) ∧ 0 ≤ t ∧ t ≤ 1000000) ∧ mkFit (dv i.toNat) s t) ∧ (dv i.toNat).2.2.2.2.2.1 < 8) ∧ MM μ' 0 D (dvu dv i.toNat (dvMk (dv i.toNat) s t)) Fn fv sv pk fd spd lim ∧ v = (((dv i.toNat).2.2.2.2.2.1 + 1 : Nat) : Int)))) : AQ)) μ2 o' n3 μ3) : FIN vI B k9 o' μ3 := by
  have hI5 : (0 ≤ i ∧ i < (D : Int)) → i.toNat < 5 := fun h => by have := hO.1; omega
  obtain ⟨-, hQ⟩ := hQ
  obtain ⟨-, hF, b', rfl, hQm⟩ := hQm
  rcases hQ with ⟨a1, rfl, rfl⟩ | ⟨a1, rfl, rfl⟩ | ⟨a1, rfl, rfl⟩ | ⟨a1, rfl, rfl⟩ | ⟨a1, rfl, a3, a4⟩ <;> rcases hQm with ⟨b1, b2⟩ | ⟨b1, b2⟩ | ⟨b1, b2⟩ | ⟨b1, b2⟩ | ⟨b1, b2, b3⟩
  · exact fin_ex hC b2 hO hF h101 hW rfl rfl (by simp [IX, IA, IS]) (by omega)
  · exact absurd (b1.1) (a1)
  · exact absurd (b1.1.1) (a1)
  · exact absurd (b1.1.1.1) (a1)
  · exact absurd (b1.1.1.1) (a1)
  · exact absurd (a1.1) (b1)
  · exact fin_ex hC b2 hO hF h101 hW rfl rfl (by simp [IX, IA, IS]) (by omega)
  · exact absurd (b1.1.2) (a1.2)
  · exact absurd (b1.1.1.2) (a1.2)
  · exact absurd (b1.1.1.2) (a1.2)
  · exact absurd (a1.1.1) (b1)
  · exact absurd (a1.1.2) (b1.2)
  · exact fin_ex hC b2 hO hF h101 hW rfl rfl (by simp [IX, IA, IS]) (by omega)
  · exact absurd (b1.1.2) (a1.2)
  · exact absurd (b1.1.2) (a1.2)
  · exact absurd (a1.1.1.1) (b1)
  · exact absurd (a1.1.1.2) (b1.2)
  · exact absurd (a1.1.2) (b1.2)
  · exact fin_ex hC b2 hO hF h101 hW rfl rfl (by simp [IX, IA, IS]) (by omega)
  · exact absurd (b1.2) (a1.2)
  · exact absurd (a1.1.1.1) (b1)
  · exact absurd (a1.1.1.2) (b1.2)
  · exact absurd (a1.1.2) (b1.2)
  · exact absurd (a1.2) (b1.2)
  · exact fin_ok a3 b2 (ko_dv hO (O_mk (hO.2.1 i.toNat (hI5 a1.1.1.1)).1 a1.2 a1.1.1.2.1 a1.1.1.2.2 a1.1.2) ⟨(hO.2.1 i.toNat (hI5 a1.1.1.1)).2.1, by have := (hO.2.1 i.toNat (hI5 a1.1.1.1)).2.2; show (dv i.toNat).2.2.2.2.1 ≤ B + 1; omega⟩) hF hW (Or.inl rfl) rfl b3
set_option maxHeartbeats 4000000 in
theorem fin_pack {n n1 n3 : Nat} {μ μ1 μ2 μ3 : AH} {th B k9 : Int} {D : Nat} {dv : Nat → DVt} {Fn : Nat} {fv : Nat → FVt} {sv : SVt} {pk fd : Nat × (Nat → Int)} {spd lim : Int} {i : Int} {o9 : Nat → Int} {o o' : AOut} (hC : CH μ D dv Fn fv sv pk fd spd lim) (hm : MM μ th D dv Fn fv sv pk fd spd lim) (hO : COk B D dv Fn fv sv pk fd spd lim) (h101 : μ 101 = oL 1 o9)  (hQ : ((fun o n' μ' => n' = n ∧ (((0 ≤ i ∧ i < (D : Int)) ∧ ∃ b' : Nat → Int, o = .inl (some (vI ((packP (dv i.toNat).2.1 (dv i.toNat).2.2.1 (dv i.toNat).2.2.2.1 (dv i.toNat).1).length : Int))) ∧ CH μ' D dv Fn fv sv ((packP (dv i.toNat).2.1 (dv i.toNat).2.2.1 (dv i.toNat).2.2.2.1 (dv i.toNat).1).length, b') fd spd lim ∧ Has b' (packP (dv i.toNat).2.1 (dv i.toNat).2.2.1 (dv i.toNat).2.2.2.1 (dv i.toNat).1) ∧ FrC μ μ') ∨ (¬ (0 ≤ i ∧ i < (D : Int)) ∧ o = .inr IX ∧ μ' = μ))) : AQ) o n1 μ1) (hW : WR [(IX, 1)] o9 o μ1 (vI k9) μ2) (hQm : (fun μ : AH => ((fun o n' μ' => n' = n ∧ FrR 82 101 μ μ' ∧ ∃ v : Int, o = .inl (some (vI v)) ∧ (((0 ≤ i ∧ i < (D : Int)) ∧ v = ((packP (dv i.toNat).2.1 (dv i.toNat).2.2.1 (dv i.toNat).2.2.2.1 (dv i.toNat).1).length : Int) ∧ ∀ b9, Has b9 (packP (dv i.toNat).2.1 (dv i.toNat).2.2.1 (dv i.toNat).2.2.2.1 (dv i.toNat).1) → MM μ' 0 D dv Fn fv sv ((packP (dv i.toNat).2.1 (dv i.toNat).2.2.1 (dv i.toNat).2.2.2.1 (dv i.toNat).1).length, b9) fd spd lim) ∨ (¬ (0 ≤ i ∧ i < (D : Int)) ∧ MM μ' 1 D dv Fn fv sv pk fd spd lim))) : AQ)) μ2 o' n3 μ3) : FIN vI B k9 o' μ3 := by
  obtain ⟨-, hQ⟩ := hQ
  obtain ⟨-, hF, b', rfl, hQm⟩ := hQm
  rcases hQ with ⟨a1, b9, rfl, a3, a4, a5⟩ | ⟨a1, rfl, rfl⟩ <;> rcases hQm with ⟨b1, b2, b3⟩ | ⟨b1, b2⟩
  · have hl := packP_len (c := (dv i.toNat).1) (hO.2.1 i.toNat (by have := hO.1; omega)).1.2.1 (dv i.toNat).1 (Nat.le_refl _)
    have h60 : (dv i.toNat).1 ≤ 60 := (hO.2.1 i.toNat (by have := hO.1; omega)).1.1
    exact fin_ok a3 (b3 b9 a4) (ko_pk hO (by omega)) hF hW (Or.inl rfl) rfl b2
  · exact absurd a1 b1
  · exact absurd b1 a1
  · exact fin_ex hC b2 hO hF h101 hW rfl rfl (by simp [IX, IA, IS]) (by omega)
set_option maxHeartbeats 4000000 in
theorem fin_read {n n1 n3 : Nat} {μ μ1 μ2 μ3 : AH} {th B k9 : Int} {D : Nat} {dv : Nat → DVt} {Fn : Nat} {fv : Nat → FVt} {sv : SVt} {pk fd : Nat × (Nat → Int)} {spd lim : Int} {i : Int} {o9 : Nat → Int} {o o' : AOut} (hC : CH μ D dv Fn fv sv pk fd spd lim) (hm : MM μ th D dv Fn fv sv pk fd spd lim) (hO : COk B D dv Fn fv sv pk fd spd lim) (h101 : μ 101 = oL 1 o9)  (hQ : ((fun o n' μ' => n' = n ∧ ((¬ (0 ≤ i ∧ i < (D : Int)) ∧ o = .inr IX ∧ μ' = μ) ∨ ((0 ≤ i ∧ i < (D : Int)) ∧ (∀ k, ¬ Whole fd.2 fd.1 k) ∧ o = .inl (some (vI (-1))) ∧ CH μ' D dv Fn fv sv pk (0, fd.2) spd lim ∧ FrC μ μ') ∨ ((0 ≤ i ∧ i < (D : Int)) ∧ ∃ (k : Nat) (f' g' h' : Nat → Int), Whole fd.2 fd.1 k ∧ Tells fd.2 fd.1 k f' g' h' ∧ o = .inl (some (vI (k : Int))) ∧ CH μ' D (dvu dv i.toNat (dvRd (dv i.toNat) k f' g' h')) Fn fv sv pk (0, fd.2) spd lim ∧ FrC μ μ'))) : AQ) o n1 μ1) (hW : WR [(IX, 1)] o9 o μ1 (vI k9) μ2) (hQm : (fun μ : AH => ((fun o n' μ' => n' = n ∧ FrR 82 101 μ μ' ∧ ∃ v : Int, o = .inl (some (vI v)) ∧ ((¬ (0 ≤ i ∧ i < (D : Int)) ∧ MM μ' 1 D dv Fn fv sv pk fd spd lim) ∨ ((0 ≤ i ∧ i < (D : Int)) ∧ (∀ k, ¬ Whole fd.2 fd.1 k) ∧ v = -1 ∧ MM μ' 0 D dv Fn fv sv pk (0, fd.2) spd lim) ∨ ((0 ≤ i ∧ i < (D : Int)) ∧ ∃ k : Nat, Whole fd.2 fd.1 k ∧ v = (k : Int) ∧ ∀ f g h, Tells fd.2 fd.1 k f g h → MM μ' 0 D (dvu dv i.toNat (dvRd (dv i.toNat) k f g h)) Fn fv sv pk (0, fd.2) spd lim))) : AQ)) μ2 o' n3 μ3) : FIN vI B k9 o' μ3 := by
  obtain ⟨-, hQ⟩ := hQ
  obtain ⟨-, hF, b', rfl, hQm⟩ := hQm
  rcases hQ with ⟨a1, rfl, rfl⟩ | ⟨a1, a2, rfl, a3, a4⟩ | ⟨a1, k, f', g', h', a2, a3, rfl, a4, a5⟩ <;> rcases hQm with ⟨b1, b2⟩ | ⟨b1, b2, b3, b4⟩ | ⟨b1, k', b2, b3, b4⟩
  · exact fin_ex hC b2 hO hF h101 hW rfl rfl (by simp [IX, IA, IS]) (by omega)
  · exact absurd b1 a1
  · exact absurd b1 a1
  · exact absurd a1 b1
  · exact fin_ok a3 b4 (ko_fd0 hO) hF hW (Or.inl rfl) rfl b3
  · exact absurd b2 (a2 k')
  · exact absurd a1 b1
  · exact absurd a2 (b2 k)
  · obtain rfl := Whole_u a2 b2
    have hd := hO.2.1 i.toNat (by have := hO.1; omega)
    have h9 := ko_dv (j := i.toNat) (v := dvRd (dv i.toNat) k f' g' h') hO (O_rd hd.1 a2.1 a3) ⟨hd.2.1, by have := hd.2.2; show (dv i.toNat).2.2.2.2.1 ≤ B + 1; omega⟩
    have h8 : COk (B + 1) D (dvu dv i.toNat (dvRd (dv i.toNat) k f' g' h')) Fn fv sv pk (0, fd.2) spd lim := by
      obtain ⟨c1, c2, c3, c4, c5, c6, c7, c8, c9, c10⟩ := h9
      exact ⟨c1, c2, c3, c4, c5, c6, c7, Nat.zero_le _, fun p hp => absurd hp (Nat.not_lt_zero p), c10⟩
    exact fin_ok a4 (b4 f' g' h' a3) h8 hF hW (Or.inl rfl) rfl b3
set_option maxHeartbeats 4000000 in
theorem fin_match {n n1 n3 : Nat} {μ μ1 μ2 μ3 : AH} {th B k9 : Int} {D : Nat} {dv : Nat → DVt} {Fn : Nat} {fv : Nat → FVt} {sv : SVt} {pk fd : Nat × (Nat → Int)} {spd lim : Int} {x : Int} {o9 : Nat → Int} {o o' : AOut} (hC : CH μ D dv Fn fv sv pk fd spd lim) (hm : MM μ th D dv Fn fv sv pk fd spd lim) (hO : COk B D dv Fn fv sv pk fd spd lim) (h101 : μ 101 = oL 1 o9)  (hQ : ((fun o n' μ' => n' = n ∧ ((¬ (0 ≤ x ∧ x < (sv.1 : Int)) ∧ o = .inr IX ∧ μ' = μ) ∨ ((0 ≤ x ∧ x < (sv.1 : Int)) ∧ ∃ ds : List Nat, ds.length = sv.1 ∧ Bst (WF dv sv) D 0 0 ds ∧ o = .inl (some (vI (gi (dgt ds x.toNat)))) ∧ CH μ' D dv Fn fv sv pk fd spd lim ∧ FrC μ μ'))) : AQ) o n1 μ1) (hW : WR [(IX, 1)] o9 o μ1 (vI k9) μ2) (hQm : (fun μ : AH => ((fun o n' μ' => n' = n ∧ FrR 82 101 μ μ' ∧ ∃ v : Int, o = .inl (some (vI v)) ∧ ((¬ (0 ≤ x ∧ x < (sv.1 : Int)) ∧ MM μ' 1 D dv Fn fv sv pk fd spd lim) ∨ ((0 ≤ x ∧ x < (sv.1 : Int)) ∧ ∃ ds : List Nat, ds.length = sv.1 ∧ Bst (WF dv sv) D 0 0 ds ∧ v = gi (dgt ds x.toNat) ∧ MM μ' 0 D dv Fn fv sv pk fd spd lim))) : AQ)) μ2 o' n3 μ3) : FIN vI B k9 o' μ3 := by
  obtain ⟨-, hQ⟩ := hQ
  obtain ⟨-, hF, b', rfl, hQm⟩ := hQm
  rcases hQ with ⟨a1, rfl, rfl⟩ | ⟨a1, ds, a2, a3, rfl, a4, a5⟩ <;> rcases hQm with ⟨b1, b2⟩ | ⟨b1, es, b2, b3, b4, b5⟩
  · exact fin_ex hC b2 hO hF h101 hW rfl rfl (by simp [IX, IA, IS]) (by omega)
  · exact absurd b1 a1
  · exact absurd a1 b1
  · obtain rfl := Bst_u hO.1 a3 b3 (b2.trans a2.symm)
    exact fin_ok a4 b5 (ko_B hO) hF hW (Or.inl rfl) rfl b4
