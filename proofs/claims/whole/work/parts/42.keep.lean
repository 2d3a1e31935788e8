/-! ===== what stays when a part of the heap changes ===== -/
/-- nothing outside lo .. hi changed -/
def FrR (lo hi : Nat) (μ μ' : AH) : Prop := ∀ b, b < lo ∨ hi ≤ b → μ' b = μ b
theorem FrR_of {L : List Nat} {lo hi : Nat} {μ μ' : AH} (h : Fr L μ μ') (hL : ∀ a, a ∈ L → lo ≤ a ∧ a < hi) : FrR lo hi μ μ' := fun b hb => h b (fun x => by have := hL b x; omega)
theorem FrR_hu {lo hi : Nat} {μ μ1 : AH} {a : Nat} {o : AO} (h : FrR lo hi μ μ1) (ha : lo ≤ a ∧ a < hi) : FrR lo hi μ (hu μ1 a o) := fun b hb => (hu_n (by omega)).trans (h b hb)
theorem FrR_rf {lo hi : Nat} {μ : AH} : FrR lo hi μ μ := fun _ _ => rfl
theorem FrR_tr {lo hi : Nat} {μ μ1 μ2 : AH} (h : FrR lo hi μ μ1) (h' : FrR lo hi μ1 μ2) : FrR lo hi μ μ2 := fun b hb => (h' b hb).trans (h b hb)
theorem FrR_C {lo hi : Nat} {μ μ' : AH} (h : FrR lo hi μ μ') (hh : hi ≤ 82) : FrC μ μ' := fun b hb => h b (by omega)
theorem PL_k {μ μ' : AH} {q m c : Nat} {f g h : Nat → Int} (hP : PL μ q m c f g h) (k : ∀ j, j < 4 → μ' (q + j) = μ (q + j)) : PL μ' q m c f g h := ⟨(k 0 (by omega)).trans hP.1, (k 1 (by omega)).trans hP.2.1, (k 2 (by omega)).trans hP.2.2.1, (k 3 (by omega)).trans hP.2.2.2⟩
theorem KL_k {μ μ' : AH} {q c : Nat} {f g : Nat → Int} (hP : KL μ q c f g) (k : ∀ j, j < 3 → μ' (q + j) = μ (q + j)) : KL μ' q c f g := ⟨(k 0 (by omega)).trans hP.1, (k 1 (by omega)).trans hP.2.1, (k 2 (by omega)).trans hP.2.2⟩
theorem FE_k {μ μ' : AH} {q c : Nat} {f g : Nat → Int} (hP : FE μ q c f g) (k : ∀ j, j < 3 → μ' (q + j) = μ (q + j)) : FE μ' q c f g := ⟨(k 0 (by omega)).trans hP.1, (k 1 (by omega)).trans hP.2.1, (k 2 (by omega)).trans hP.2.2⟩
theorem BY_k {μ μ' : AH} {q c : Nat} {nx so : Int} {f : Nat → Int} (hP : BY μ q c nx so f) (k : ∀ j, j < 2 → μ' (q + j) = μ (q + j)) : BY μ' q c nx so f := ⟨(k 0 (by omega)).trans hP.1, (k 1 (by omega)).trans hP.2⟩
theorem DL_k {μ μ' : AH} {q : Nat} {v : DVt} (hD : dv_L μ q v) (k : ∀ j, j < 8 → μ' (q + j) = μ (q + j)) : dv_L μ' q v := ⟨(k 0 (by omega)).trans hD.1, PL_k hD.2.1 (fun j hj => by rw [Nat.add_assoc]; exact k (1 + j) (by omega)), KL_k hD.2.2 (fun j hj => by rw [Nat.add_assoc]; exact k (5 + j) (by omega))⟩
theorem MT_k {μ μ' : AH} {W Ls : Nat → Nat → Int} {ch : Nat → Int} {sc dc : Int} (hM : MT μ W Ls ch sc dc) (k : ∀ b, 7 ≤ b → b < 22 → μ' b = μ b) : MT μ' W Ls ch sc dc := ⟨(k 7 (by omega) (by omega)).trans hM.1, (k 8 (by omega) (by omega)).trans hM.2.1, fun j hj => (k (9 + j) (by omega) (by omega)).trans (hM.2.2.1 j hj), (k 14 (by omega) (by omega)).trans hM.2.2.2.1, fun j hj => (k (15 + j) (by omega) (by omega)).trans (hM.2.2.2.2.1 j hj), (k 21 (by omega) (by omega)).trans hM.2.2.2.2.2⟩
def dvu (dv : Nat → DVt) (d : Nat) (v : DVt) : Nat → DVt := fun k => if k = d then v else dv k
def fvu (fv : Nat → FVt) (d : Nat) (v : FVt) : Nat → FVt := fun k => if k = d then v else fv k
theorem dvu_s {dv : Nat → DVt} {d : Nat} {v : DVt} : dvu dv d v d = v := if_pos rfl
theorem dvu_n {dv : Nat → DVt} {d k : Nat} {v : DVt} (h : k ≠ d) : dvu dv d v k = dv k := if_neg h
theorem fvu_s {fv : Nat → FVt} {d : Nat} {v : FVt} : fvu fv d v d = v := if_pos rfl
theorem fvu_n {fv : Nat → FVt} {d k : Nat} {v : FVt} (h : k ≠ d) : fvu fv d v k = fv k := if_neg h
section KP
variable {μ μ' : AH} {D : Nat} {dv : Nat → DVt} {Fn : Nat} {fv : Nat → FVt} {sv : SVt} {pk fd : Nat × (Nat → Int)} {spd lim : Int}
/-- a device's part has changed -/
theorem CH_dev {d : Nat} {v : DVt} (hC : CH μ D dv Fn fv sv pk fd spd lim) (hd : d < 5) (hF : FrR (30 + 8 * d) (38 + 8 * d) μ μ') (hv : dv_L μ' (30 + 8 * d) v) : CH μ' D (dvu dv d v) Fn fv sv pk fd spd lim := by
  obtain ⟨h0, h1, h2, hS, ⟨mW, mL, mc, msc, mdc, hM⟩, ⟨pnx, pso, hPk⟩, ⟨enx, eso, hFd⟩, ⟨ue, uf, ug, uh, hUn⟩, hDv, hFv⟩ := hC
  refine ⟨(hF 0 (by omega)).trans h0, (hF 1 (by omega)).trans h1, (hF 2 (by omega)).trans h2, PL_k hS (fun j hj => hF _ (by omega)), ⟨mW, mL, mc, msc, mdc, MT_k hM (fun b h1 h2 => hF b (by omega))⟩, ⟨pnx, pso, BY_k hPk (fun j hj => hF _ (by omega))⟩, ⟨enx, eso, BY_k hFd (fun j hj => hF _ (by omega))⟩, ⟨ue, uf, ug, uh, PL_k hUn (fun j hj => hF _ (by omega))⟩, fun d' hd' => ?_, fun k hk => FE_k (hFv k hk) (fun j hj => hF _ (by omega))⟩
  by_cases e : d' = d
  · subst e; rw [dvu_s]; exact hv
  · rw [dvu_n e]; exact DL_k (hDv d' hd') (fun j hj => hF _ (by omega))
theorem CH_fen {d : Nat} {v : FVt} (hC : CH μ D dv Fn fv sv pk fd spd lim) (hd : d < 4) (hF : FrR (70 + 3 * d) (73 + 3 * d) μ μ') (hv : FE μ' (70 + 3 * d) v.1 v.2.1 v.2.2) : CH μ' D dv Fn (fvu fv d v) sv pk fd spd lim := by
  obtain ⟨h0, h1, h2, hS, ⟨mW, mL, mc, msc, mdc, hM⟩, ⟨pnx, pso, hPk⟩, ⟨enx, eso, hFd⟩, ⟨ue, uf, ug, uh, hUn⟩, hDv, hFv⟩ := hC
  refine ⟨(hF 0 (by omega)).trans h0, (hF 1 (by omega)).trans h1, (hF 2 (by omega)).trans h2, PL_k hS (fun j hj => hF _ (by omega)), ⟨mW, mL, mc, msc, mdc, MT_k hM (fun b h1 h2 => hF b (by omega))⟩, ⟨pnx, pso, BY_k hPk (fun j hj => hF _ (by omega))⟩, ⟨enx, eso, BY_k hFd (fun j hj => hF _ (by omega))⟩, ⟨ue, uf, ug, uh, PL_k hUn (fun j hj => hF _ (by omega))⟩, fun d' hd' => DL_k (hDv d' hd') (fun j hj => hF _ (by omega)), fun k hk => ?_⟩
  by_cases e : k = d
  · subst e; rw [fvu_s]; exact hv
  · rw [fvu_n e]; exact FE_k (hFv k hk) (fun j hj => hF _ (by omega))
theorem CH_num {D' Fn' : Nat} {spd' lim' : Int} (hC : CH μ D dv Fn fv sv pk fd spd lim) (hF : FrR 0 1 μ μ') (h0' : μ' 0 = oO 6 [vR 1, vR 2, vR 3, vR 7, vR 22, vR 24, vR 26, vI (D' : Int), vI (Fn' : Int), vI spd', vI lim']) : CH μ' D' dv Fn' fv sv pk fd spd' lim' := by
  obtain ⟨h0, h1, h2, hS, ⟨mW, mL, mc, msc, mdc, hM⟩, ⟨pnx, pso, hPk⟩, ⟨enx, eso, hFd⟩, ⟨ue, uf, ug, uh, hUn⟩, hDv, hFv⟩ := hC
  exact ⟨h0', (hF 1 (by omega)).trans h1, (hF 2 (by omega)).trans h2, PL_k hS (fun j hj => hF _ (by omega)), ⟨mW, mL, mc, msc, mdc, MT_k hM (fun b h1 h2 => hF b (by omega))⟩, ⟨pnx, pso, BY_k hPk (fun j hj => hF _ (by omega))⟩, ⟨enx, eso, BY_k hFd (fun j hj => hF _ (by omega))⟩, ⟨ue, uf, ug, uh, PL_k hUn (fun j hj => hF _ (by omega))⟩, fun d' hd' => DL_k (hDv d' hd') (fun j hj => hF _ (by omega)), fun k hk => FE_k (hFv k hk) (fun j hj => hF _ (by omega))⟩
theorem CH_sig {sv' : SVt} (hC : CH μ D dv Fn fv sv pk fd spd lim) (hF : FrR 3 7 μ μ') (hS' : PL μ' 3 5 sv'.1 sv'.2.1 sv'.2.2.1 sv'.2.2.2) : CH μ' D dv Fn fv sv' pk fd spd lim := by
  obtain ⟨h0, h1, h2, hS, ⟨mW, mL, mc, msc, mdc, hM⟩, ⟨pnx, pso, hPk⟩, ⟨enx, eso, hFd⟩, ⟨ue, uf, ug, uh, hUn⟩, hDv, hFv⟩ := hC
  exact ⟨(hF 0 (by omega)).trans h0, (hF 1 (by omega)).trans h1, (hF 2 (by omega)).trans h2, hS', ⟨mW, mL, mc, msc, mdc, MT_k hM (fun b h1 h2 => hF b (by omega))⟩, ⟨pnx, pso, BY_k hPk (fun j hj => hF _ (by omega))⟩, ⟨enx, eso, BY_k hFd (fun j hj => hF _ (by omega))⟩, ⟨ue, uf, ug, uh, PL_k hUn (fun j hj => hF _ (by omega))⟩, fun d' hd' => DL_k (hDv d' hd') (fun j hj => hF _ (by omega)), fun k hk => FE_k (hFv k hk) (fun j hj => hF _ (by omega))⟩
theorem CH_pk {pk' : Nat × (Nat → Int)} {nx' so' : Int} (hC : CH μ D dv Fn fv sv pk fd spd lim) (hF : FrR 22 24 μ μ') (hB : BY μ' 22 pk'.1 nx' so' pk'.2) : CH μ' D dv Fn fv sv pk' fd spd lim := by
  obtain ⟨h0, h1, h2, hS, ⟨mW, mL, mc, msc, mdc, hM⟩, ⟨pnx, pso, hPk⟩, ⟨enx, eso, hFd⟩, ⟨ue, uf, ug, uh, hUn⟩, hDv, hFv⟩ := hC
  exact ⟨(hF 0 (by omega)).trans h0, (hF 1 (by omega)).trans h1, (hF 2 (by omega)).trans h2, PL_k hS (fun j hj => hF _ (by omega)), ⟨mW, mL, mc, msc, mdc, MT_k hM (fun b h1 h2 => hF b (by omega))⟩, ⟨nx', so', hB⟩, ⟨enx, eso, BY_k hFd (fun j hj => hF _ (by omega))⟩, ⟨ue, uf, ug, uh, PL_k hUn (fun j hj => hF _ (by omega))⟩, fun d' hd' => DL_k (hDv d' hd') (fun j hj => hF _ (by omega)), fun k hk => FE_k (hFv k hk) (fun j hj => hF _ (by omega))⟩
theorem CH_fd {fd' : Nat × (Nat → Int)} {nx' so' : Int} (hC : CH μ D dv Fn fv sv pk fd spd lim) (hF : FrR 24 26 μ μ') (hB : BY μ' 24 fd'.1 nx' so' fd'.2) : CH μ' D dv Fn fv sv pk fd' spd lim := by
  obtain ⟨h0, h1, h2, hS, ⟨mW, mL, mc, msc, mdc, hM⟩, ⟨pnx, pso, hPk⟩, ⟨enx, eso, hFd⟩, ⟨ue, uf, ug, uh, hUn⟩, hDv, hFv⟩ := hC
  exact ⟨(hF 0 (by omega)).trans h0, (hF 1 (by omega)).trans h1, (hF 2 (by omega)).trans h2, PL_k hS (fun j hj => hF _ (by omega)), ⟨mW, mL, mc, msc, mdc, MT_k hM (fun b h1 h2 => hF b (by omega))⟩, ⟨pnx, pso, BY_k hPk (fun j hj => hF _ (by omega))⟩, ⟨nx', so', hB⟩, ⟨ue, uf, ug, uh, PL_k hUn (fun j hj => hF _ (by omega))⟩, fun d' hd' => DL_k (hDv d' hd') (fun j hj => hF _ (by omega)), fun k hk => FE_k (hFv k hk) (fun j hj => hF _ (by omega))⟩
/-- the row to be unpacked to, and the bytes to be read, have changed -/
theorem CH_un {fd' : Nat × (Nat → Int)} {nx' so' : Int} {e' : Nat} {f' g' h' : Nat → Int} (hC : CH μ D dv Fn fv sv pk fd spd lim) (hF : FrR 24 30 μ μ') (hB : BY μ' 24 fd'.1 nx' so' fd'.2) (hU : PL μ' 26 60 e' f' g' h') : CH μ' D dv Fn fv sv pk fd' spd lim := by
  obtain ⟨h0, h1, h2, hS, ⟨mW, mL, mc, msc, mdc, hM⟩, ⟨pnx, pso, hPk⟩, ⟨enx, eso, hFd⟩, ⟨ue, uf, ug, uh, hUn⟩, hDv, hFv⟩ := hC
  exact ⟨(hF 0 (by omega)).trans h0, (hF 1 (by omega)).trans h1, (hF 2 (by omega)).trans h2, PL_k hS (fun j hj => hF _ (by omega)), ⟨mW, mL, mc, msc, mdc, MT_k hM (fun b h1 h2 => hF b (by omega))⟩, ⟨pnx, pso, BY_k hPk (fun j hj => hF _ (by omega))⟩, ⟨nx', so', hB⟩, ⟨e', f', g', h', hU⟩, fun d' hd' => DL_k (hDv d' hd') (fun j hj => hF _ (by omega)), fun k hk => FE_k (hFv k hk) (fun j hj => hF _ (by omega))⟩
theorem CH_mt {W' Ls' : Nat → Nat → Int} {ch' : Nat → Int} {sc' dc' : Int} (hC : CH μ D dv Fn fv sv pk fd spd lim) (hF : FrR 7 22 μ μ') (hM' : MT μ' W' Ls' ch' sc' dc') : CH μ' D dv Fn fv sv pk fd spd lim := by
  obtain ⟨h0, h1, h2, hS, ⟨mW, mL, mc, msc, mdc, hM⟩, ⟨pnx, pso, hPk⟩, ⟨enx, eso, hFd⟩, ⟨ue, uf, ug, uh, hUn⟩, hDv, hFv⟩ := hC
  exact ⟨(hF 0 (by omega)).trans h0, (hF 1 (by omega)).trans h1, (hF 2 (by omega)).trans h2, PL_k hS (fun j hj => hF _ (by omega)), ⟨W', Ls', ch', sc', dc', hM'⟩, ⟨pnx, pso, BY_k hPk (fun j hj => hF _ (by omega))⟩, ⟨enx, eso, BY_k hFd (fun j hj => hF _ (by omega))⟩, ⟨ue, uf, ug, uh, PL_k hUn (fun j hj => hF _ (by omega))⟩, fun d' hd' => DL_k (hDv d' hd') (fun j hj => hF _ (by omega)), fun k hk => FE_k (hFv k hk) (fun j hj => hF _ (by omega))⟩
end KP
