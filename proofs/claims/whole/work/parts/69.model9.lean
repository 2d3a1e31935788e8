/-! ===== Codes of digits (by hand), and the model's search (written by m_model9.py) ===== -/
/-- a number's S digits to the base 6, the highest first -/
def dgs : Nat → Nat → List Nat
  | 0, _ => []
  | S + 1, K => (K / 6 ^ S % 6) :: dgs S K
theorem p6_p (s : Nat) : 0 < 6 ^ s := Nat.pow_pos (by omega)
theorem p6_b {s : Nat} (h : s ≤ 5) : 6 ^ s ≤ 7776 := Nat.le_trans (Nat.pow_le_pow_right (by omega) h) (by decide)
theorem dgs_len : ∀ {S K : Nat}, (dgs S K).length = S
  | 0, _ => rfl
  | S + 1, K => by show (dgs S K).length + 1 = S + 1; rw [dgs_len]
theorem nmb_dgs : ∀ {S K : Nat}, nmb (dgs S K) = K % 6 ^ S
  | 0, K => by show 0 = K % 1; omega
  | S + 1, K => by
    show (K / 6 ^ S % 6) * 6 ^ (dgs S K).length + nmb (dgs S K) = K % 6 ^ (S + 1)
    rw [dgs_len, nmb_dgs, Nat.pow_succ, Nat.mod_mul, Nat.mul_comm, Nat.add_comm]
theorem dgs_add : ∀ {l a K : Nat}, dgs l (a * 6 ^ l + K) = dgs l K
  | 0, _, _ => rfl
  | l + 1, a, K => by
    have h1 : a * 6 ^ (l + 1) + K = (a * 6) * 6 ^ l + K := by rw [Nat.pow_succ, Nat.mul_comm (6 ^ l) 6, ← Nat.mul_assoc]
    show ((a * 6 ^ (l + 1) + K) / 6 ^ l % 6) :: dgs l (a * 6 ^ (l + 1) + K) = (K / 6 ^ l % 6) :: dgs l K
    rw [h1, dgs_add, Nat.add_comm, Nat.add_mul_div_right _ _ (p6_p l)]
    congr 1
    omega
theorem dgs_nmb {W : Nat → Nat → Int} {D : Nat} (hD : D ≤ 5) : ∀ {ds : List Nat} {s T : Nat}, vld W D s T ds → dgs ds.length (nmb ds) = ds
  | [], _, _, _ => rfl
  | d :: ds, s, T, h => by
    have h1 := nmb_lt hD (ds := ds) h.2
    have h2 := okg_5 hD h.1
    have h3 := dgs_nmb hD (ds := ds) h.2
    show ((d * 6 ^ ds.length + nmb ds) / 6 ^ ds.length % 6) :: dgs ds.length (d * 6 ^ ds.length + nmb ds) = d :: ds
    rw [dgs_add, h3, Nat.add_comm, Nat.add_mul_div_right _ _ (p6_p _), Nat.div_eq_of_lt h1]
    congr 1
    omega
theorem Bst_u {W : Nat → Nat → Int} {D : Nat} (hD : D ≤ 5) {ds es : List Nat} (h : Bst W D 0 0 ds) (h' : Bst W D 0 0 es) (hl : es.length = ds.length) : ds = es := by
  have a := h.2 es hl h'.1
  have b := h'.2 ds hl.symm h.1
  have c : nmb ds = nmb es := by omega
  rw [← dgs_nmb hD h.1, ← dgs_nmb hD h'.1, c, hl]
theorem dgt_dgs : ∀ {S s K : Nat}, s < S → dgt (dgs S K) s = K / 6 ^ (S - 1 - s) % 6
  | 0, s, _, h => absurd h (Nat.not_lt_zero s)
  | S + 1, 0, K, _ => by
    show K / 6 ^ S % 6 = _
    rw [show S + 1 - 1 - 0 = S by omega]
  | S + 1, s + 1, K, h => by
    show dgt (dgs S K) s = _
    rw [dgt_dgs (by omega), show S + 1 - 1 - (s + 1) = S - 1 - s by omega]
theorem drop_dgt {ds : List Nat} {s : Nat} (h : s < ds.length) : ds.drop s = dgt ds s :: ds.drop (s + 1) := by
  rw [List.drop_eq_getElem_cons h]
  congr 1
  unfold dgt
  rw [List.getD_eq_getElem?_getD, List.getElem?_eq_getElem h]
  rfl
/-- how many of the first s are matched -/
def mny (ds : List Nat) : Nat → Nat
  | 0 => 0
  | s + 1 => mny ds s + (if dgt ds s = 5 then 0 else 1)
theorem mny_5 {ds : List Nat} {s : Nat} (h : dgt ds s = 5) : mny ds (s + 1) = mny ds s := by show mny ds s + _ = _; rw [if_pos h]; exact Nat.add_zero _
theorem mny_n {ds : List Nat} {s : Nat} (h : dgt ds s ≠ 5) : mny ds (s + 1) = mny ds s + 1 := by show mny ds s + _ = _; rw [if_neg h]
theorem mny_le {ds : List Nat} : ∀ s, mny ds s ≤ s
  | 0 => Nat.le_refl 0
  | s + 1 => by
    have := mny_le (ds := ds) s
    show mny ds s + _ ≤ _
    split <;> omega
theorem wsm_5 {W : Nat → Nat → Int} {ds : List Nat} {s : Nat} (h : dgt ds s = 5) : wsm W ds (s + 1) = wsm W ds s := by show wsm W ds s + _ = _; rw [if_pos h]; omega
theorem wsm_n {W : Nat → Nat → Int} {ds : List Nat} {s : Nat} (h : dgt ds s ≠ 5) : wsm W ds (s + 1) = wsm W ds s + W s (dgt ds s) := by show wsm W ds s + _ = _; rw [if_neg h]
theorem cst_d {W : Nat → Nat → Int} {ds : List Nat} : ∀ s, s ≤ ds.length → cst W 0 ds = 1000000000000 * ((s : Int) - (mny ds s : Int)) + wsm W ds s + cst W s (ds.drop s)
  | 0, _ => by show _ = 1000000000000 * (((0 : Nat) : Int) - ((0 : Nat) : Int)) + 0 + cst W 0 ds; omega
  | s + 1, h => by
    have ih := cst_d (W := W) (ds := ds) s (by omega)
    rw [drop_dgt (by omega : s < ds.length)] at ih
    have h1 : cst W s (dgt ds s :: ds.drop (s + 1)) = wg W s (dgt ds s) + cst W (s + 1) (ds.drop (s + 1)) := rfl
    rw [h1] at ih
    by_cases e : dgt ds s = 5
    · rw [mny_5 e, wsm_5 e]
      rw [e] at ih
      have h2 : wg W s 5 = 1000000000000 := rfl
      rw [h2] at ih
      omega
    · rw [mny_n e, wsm_n e]
      have h2 : wg W s (dgt ds s) = W s (dgt ds s) := if_neg e
      rw [h2] at ih
      omega
theorem cst_m {W : Nat → Nat → Int} {ds : List Nat} {S : Nat} (h : ds.length = S) : cst W 0 ds = 1000000000000 * ((S : Int) - (mny ds S : Int)) + wsm W ds S := by
  subst h
  have := cst_d (W := W) (ds := ds) ds.length (Nat.le_refl _)
  rw [List.drop_length] at this
  have h1 : cst W ds.length [] = 0 := rfl
  omega
theorem vld_at {W : Nat → Nat → Int} {D : Nat} : ∀ {ds : List Nat} {s T : Nat}, vld W D s T ds → ∀ k, k < ds.length → dgt ds k = 5 ∨ (dgt ds k < D ∧ W (s + k) (dgt ds k) ≠ -1)
  | [], _, _, _, k, h => absurd h (Nat.not_lt_zero k)
  | d :: ds, s, T, h, 0, _ => by
    rcases h.1 with h1 | ⟨h1, _, h2⟩
    · exact Or.inl h1
    · exact Or.inr ⟨h1, h2⟩
  | d :: ds, s, T, h, k + 1, hk => by
    have h1 := vld_at (ds := ds) h.2 k (by simpa using hk)
    show dgt ds k = 5 ∨ (dgt ds k < D ∧ W (s + (k + 1)) (dgt ds k) ≠ -1)
    rw [show s + (k + 1) = s + 1 + k by omega]
    exact h1
theorem wsm_b {W : Nat → Nat → Int} {S D : Nat} (hW : WBd W S D) {ds : List Nat} (h : vld W D 0 0 ds) (hl : ds.length = S) : ∀ s, s ≤ S → 0 ≤ wsm W ds s ∧ wsm W ds s ≤ 80000000000 * (s : Int)
  | 0, _ => ⟨Int.le_refl _, by show (0 : Int) ≤ _; omega⟩
  | s + 1, hs => by
    have ih := wsm_b hW h hl s (by omega)
    have h1 := vld_at h s (by omega)
    rw [Nat.zero_add] at h1
    by_cases e : dgt ds s = 5
    · rw [wsm_5 e]; omega
    · rw [wsm_n e]
      obtain ⟨h2, h3⟩ := h1.resolve_left e
      have := hW s (dgt ds s) (by omega) h2
      omega
/-- the best of the codes below K -/
def BI (W : Nat → Nat → Int) (D S K : Nat) (mx lx wy : Int) : Prop := (mx = -1 ∧ ∀ es : List Nat, es.length = S → vld W D 0 0 es → K ≤ nmb es) ∨ (∃ ds : List Nat, ds.length = S ∧ vld W D 0 0 ds ∧ nmb ds < K ∧ wy = (nmb ds : Int) ∧ mx = (mny ds S : Int) ∧ lx = wsm W ds S ∧ ∀ es : List Nat, es.length = S → vld W D 0 0 es → nmb es < K → cst W 0 ds < cst W 0 es ∨ (cst W 0 ds = cst W 0 es ∧ nmb ds ≤ nmb es))
section BIs
variable {W : Nat → Nat → Int} {D S K : Nat} {mx lx wy : Int}
theorem BI_0 : BI W D S 0 (-1) lx wy := Or.inl ⟨rfl, fun _ _ _ => Nat.zero_le _⟩
theorem BI_no (hD : D ≤ 5) (h : BI W D S K mx lx wy) (hn : ¬ vld W D 0 0 (dgs S K)) : BI W D S (K + 1) mx lx wy := by
  have key : ∀ es : List Nat, es.length = S → vld W D 0 0 es → nmb es ≠ K := fun es h1 h2 h3 => by
    have h4 := dgs_nmb hD h2
    rw [h1, h3] at h4
    rw [h4] at hn
    exact hn h2
  rcases h with ⟨h1, h2⟩ | ⟨ds, h1, h2, h3, h4, h5, h6, h7⟩
  · exact Or.inl ⟨h1, fun es a b => by have := h2 es a b; have := key es a b; omega⟩
  · exact Or.inr ⟨ds, h1, h2, by omega, h4, h5, h6, fun es a b c => h7 es a b (by have := key es a b; omega)⟩
theorem BI_keep (hD : D ≤ 5) (hS : S ≤ 5) (hW : WBd W S D) (hK : K < 6 ^ S) (h : BI W D S K mx lx wy) (hv : vld W D 0 0 (dgs S K)) (hb : ¬ (mx < (mny (dgs S K) S : Int) ∨ ((mny (dgs S K) S : Int) = mx ∧ wsm W (dgs S K) S < lx))) : BI W D S (K + 1) mx lx wy := by
  rcases h with ⟨h1, h2⟩ | ⟨ds, h1, h2, h3, h4, h5, h6, h7⟩
  · omega
  · refine Or.inr ⟨ds, h1, h2, by omega, h4, h5, h6, fun es a b c => ?_⟩
    by_cases e : nmb es = K
    · have h8 := dgs_nmb hD b
      rw [a, e] at h8
      rw [← h8]
      rw [cst_m h1, cst_m (dgs_len (S := S) (K := K)), nmb_dgs, Nat.mod_eq_of_lt hK]
      have b1 := wsm_b hW h2 h1 S (Nat.le_refl S)
      have b2 := wsm_b hW hv dgs_len S (Nat.le_refl S)
      omega
    · exact h7 es a b (by omega)
theorem BI_new (hD : D ≤ 5) (hS : S ≤ 5) (hW : WBd W S D) (hK : K < 6 ^ S) (h : BI W D S K mx lx wy) (hv : vld W D 0 0 (dgs S K)) (hb : mx < (mny (dgs S K) S : Int) ∨ ((mny (dgs S K) S : Int) = mx ∧ wsm W (dgs S K) S < lx)) : BI W D S (K + 1) (mny (dgs S K) S : Int) (wsm W (dgs S K) S) (K : Int) := by
  have hn : nmb (dgs S K) = K := by rw [nmb_dgs, Nat.mod_eq_of_lt hK]
  refine Or.inr ⟨dgs S K, dgs_len, hv, by omega, by omega, rfl, rfl, fun es a b c => ?_⟩
  by_cases e : nmb es = K
  · have h8 := dgs_nmb hD b
    rw [a, e] at h8
    rw [← h8]
    exact Or.inr ⟨rfl, Nat.le_refl _⟩
  · rcases h with ⟨h1, h2⟩ | ⟨ds, h1, h2, h3, h4, h5, h6, h7⟩
    · have := h2 es a b; omega
    · have h8 := h7 es a b (by omega)
      rw [cst_m h1] at h8
      rw [cst_m (dgs_len (S := S) (K := K))]
      have b1 := wsm_b hW h2 h1 S (Nat.le_refl S)
      have b2 := wsm_b hW hv dgs_len S (Nat.le_refl S)
      left
      omega
theorem vld_5 : ∀ {k s T : Nat}, vld W D s T (List.replicate k 5)
  | 0, _, _ => trivial
  | k + 1, s, T => ⟨Or.inl rfl, vld_5⟩
theorem BI_e (hD : D ≤ 5) (h : BI W D S (6 ^ S) mx lx wy) : ∃ ds : List Nat, ds.length = S ∧ Bst W D 0 0 ds ∧ lx = wsm W ds S ∧ wy = (nmb ds : Int) := by
  rcases h with ⟨h1, h2⟩ | ⟨ds, h1, h2, h3, h4, h5, h6, h7⟩
  · have h3 := h2 (List.replicate S 5) List.length_replicate vld_5
    have h4 := nmb_lt hD (vld_5 (W := W) (D := D) (k := S) (s := 0) (T := 0))
    rw [List.length_replicate] at h4
    omega
  · refine ⟨ds, h1, ⟨h2, fun es a b => h7 es (a.trans h1) b ?_⟩, h6, h4⟩
    have := nmb_lt hD b
    rwa [a, h1] at this
end BIs
/-- what is known of a code when s digits are looked at -/
def VI (W : Nat → Nat → Int) (D s T : Nat) (ds : List Nat) (gx : Int) : Prop := (gx = 1 ∧ T < 2 ^ D ∧ (vld W D 0 0 ds ↔ vld W D s T (ds.drop s))) ∨ (gx = 0 ∧ ¬ vld W D 0 0 ds)
theorem VI_0 {W : Nat → Nat → Int} {D : Nat} {ds : List Nat} : VI W D 0 0 ds 1 := Or.inl ⟨rfl, Nat.pow_pos (by omega), Iff.rfl⟩
theorem VI_t {W : Nat → Nat → Int} {D s T d : Nat} {ds : List Nat} {gx : Int} (h : VI W D s T ds gx) (hg : ¬ gx = 0) (hs : s < ds.length) (hd : dgt ds s = d) (ho : okg W D s T d) : VI W D (s + 1) (tn T d) ds 1 := by
  obtain ⟨_, h1, h2⟩ := h.resolve_right (fun h => hg h.1)
  refine Or.inl ⟨rfl, tn_lt h1 ho, ?_⟩
  rw [h2, drop_dgt hs, hd]
  exact ⟨fun h => h.2, fun h => ⟨ho, h⟩⟩
theorem VI_f {W : Nat → Nat → Int} {D s T T' d : Nat} {ds : List Nat} {gx : Int} (h : VI W D s T ds gx) (hg : ¬ gx = 0) (hs : s < ds.length) (hd : dgt ds s = d) (ho : ¬ okg W D s T d) : VI W D (s + 1) T' ds 0 := by
  obtain ⟨_, h1, h2⟩ := h.resolve_right (fun h => hg h.1)
  refine Or.inr ⟨rfl, ?_⟩
  rw [h2, drop_dgt hs, hd]
  exact fun h => ho h.1
theorem VI_e {W : Nat → Nat → Int} {D S s T : Nat} {ds : List Nat} {gx : Int} (h : VI W D s T ds gx) (hg : ¬ gx = 0) (hs : ds.length ≤ s) : vld W D 0 0 ds := by
  obtain ⟨_, h1, h2⟩ := h.resolve_right (fun h => hg h.1)
  rw [h2, List.drop_eq_nil_of_le hs]
  trivial
theorem VI_T {W : Nat → Nat → Int} {D s T : Nat} {ds : List Nat} {gx : Int} (hD : D ≤ 5) (h : VI W D s T ds gx) (hg : ¬ gx = 0) : T < 32 := by
  obtain ⟨_, h1, h2⟩ := h.resolve_right (fun h => hg h.1)
  exact Nat.lt_of_lt_of_le h1 (Nat.le_trans (Nat.pow_le_pow_right (by omega) hD) (by decide))
theorem p2_b {d : Nat} (h : d < 5) : 1 * 2 ^ d ≤ 16 := by rw [Nat.one_mul]; exact Nat.le_trans (Nat.pow_le_pow_right (by omega) (show d ≤ 4 by omega)) (by decide)
theorem or_b {T d : Nat} (hT : T < 32) (h : d < 5) : T ||| (1 * 2 ^ d) < 32 := by
  have := Nat.or_lt_two_pow (n := 5) (x := T) (y := 1 * 2 ^ d) hT (Nat.lt_of_le_of_lt (p2_b h) (by decide))
  exact this
theorem td6 {v : Nat} : Int.tdiv (v : Int) 6 = ((v / 6 : Nat) : Int) := tdn (m := 6)
theorem tm6 {v : Nat} : Int.tmod (v : Int) 6 = ((v % 6 : Nat) : Int) := tmn (m := 6)
theorem WF_bd {B : Int} {D : Nat} {dv : Nat → DVt} {Fn : Nat} {fv : Nat → FVt} {sv : SVt} {pk fd : Nat × (Nat → Int)} {spd lim : Int} (hO : COk B D dv Fn fv sv pk fd spd lim) : WBd (WF dv sv) sv.1 D := fun s d hs hd => by
  obtain ⟨hN, hdv, hFn, hfv, hsn, hsb, hpk, hfd, hfb, hs1, hs2, hl1, hl2⟩ := id hO
  have := hsb s hs
  exact wgt_b (hdv d (by omega)).1 (by omega) (by omega)
set_option maxHeartbeats 4000000 in
set_option maxRecDepth 100000 in
theorem m_X7_digit {n : Nat} {μ : AH} {th B : Int} {D : Nat} {dv : Nat → DVt} {Fn : Nat} {fv : Nat → FVt} {sv : SVt} {pk fd : Nat × (Nat → Int)} {spd lim : Int} {K9 x : Int} {K s : Nat} (hK : K9 = (K : Int)) (hKm : K ≤ 7776) (hx : x = (s : Int)) (hs : s < sv.1) (hm : MM μ th D dv Fn fv sv pk fd spd lim) (hO : COk B D dv Fn fv sv pk fd spd lim) : AMet YX7_digit [vR 82, vI (K9), vI (x)] n μ (Pv n μ (vI (((K / 6 ^ (sv.1 - 1 - s) % 6 : Nat)) : Int))) := by
  refine AMet.of (by decide) rfl (Nat.le_of_ble_eq_true rfl) ?_
  obtain ⟨at7, ls7, wy7, c7, t7, F7, G7, H7, k7, a7, b7, e7, X7, Y7, y7, o7, r7, s7, u7, v7, w7, h82, h83, h84, h85, h86, h87, h88, h89, h90, h91, h92, h93, h94, h95, h96, h97, h98, h99, h100, ag1, ag2, ag3, ag4, ag5, ag6, ag7, ag8⟩ := id hm
  obtain ⟨hN, hdv, hFn, hfv, hsn, hsb, hpk, hfd, hfb, hs1, hs2, hl1, hl2⟩ := id hO
  refine aw_iload_n (q := 1) dX7_digit_0 rfl rfl rfl ?_
  refine aw_istore_n (q := 2) dX7_digit_1 rfl rfl (by decide) ?_
  refine aw_aload_n (q := 3) dX7_digit_2 rfl rfl rfl ?_
  refine aw_get (q := 6) dX7_digit_3 rfl fl_X7_189 h82 rfl (fun _ => ?_)
  refine aw_iconst (q := 7) dX7_digit_6 rfl (by omega) ?_
  refine aw_isub (q := 8) dX7_digit_7 rfl (by omega) ?_
  refine aw_istore (q := 10) dX7_digit_8 rfl (by decide) ?_
  refine aw_ls (ls := [some (vR 82), some (vI (K9)), some (vI (x)), some (vI (K9)), some (vI ((sv.1 : Int) - 1))]) ⟨rfl, ⟨rfl, ⟨rfl, ⟨rfl, ⟨rfl, trivial⟩⟩⟩⟩⟩ ?_
  have hKb : ∀ t : Nat, K / 6 ^ t ≤ K := fun t => Nat.div_le_self _ _
  have lp : ∀ (jlp : Nat) (t : Nat) (vx kx : Int), sv.1 - 1 - s - t < jlp → kx = (sv.1 : Int) - 1 - (t : Int) → vx = ((K / 6 ^ t : Nat) : Int) → t ≤ sv.1 - 1 - s → AW YX7_digit none (Pv n μ (vI (((K / 6 ^ (sv.1 - 1 - s) % 6 : Nat)) : Int))) 10 [some (vR 82), some (vI (K9)), some (vI (x)), some (vI (vx)), some (vI (kx))] [] n μ 0 0 := by
    intro jlp
    induction jlp with
    | zero => intro t vx kx hj; exact absurd hj (Nat.not_lt_zero _)
    | succ jlp ihlp =>
      intro t vx kx hjlp hkx hvx hts
      refine aw_iload (q := 12) dX7_digit_10 rfl rfl ?_
      refine aw_iload_n (q := 13) dX7_digit_12 rfl rfl rfl ?_
      refine aw_ic_le (t := 27) (q := 16) dX7_digit_13 rfl (by decide) (fun bc1 => ?_) (fun bc1 => ?_)
      · skip
        have hKt := hKb t
        obtain ⟨v, hv⟩ : ∃ v : Nat, K / 6 ^ t = v := ⟨_, rfl⟩
        rw [hv] at hKt hvx
        subst hvx
        refine aw_iload_n (q := 28) dX7_digit_27 rfl rfl rfl ?_
        refine aw_bipush (q := 30) dX7_digit_28 rfl (by decide) (by omega) ?_
        refine aw_irem (q := 31) dX7_digit_30 rfl (by omega) (by rw [tm6]; omega) ?_
        rw [tm6]
        exact aw_iret dX7_digit_31 rfl (by decide) (by decide) ⟨_, rfl, rfl, rfl, congrArg vI (by rw [show sv.1 - 1 - s = t by omega, hv])⟩
      · skip
        have hKt := hKb t
        obtain ⟨v, hv⟩ : ∃ v : Nat, K / 6 ^ t = v := ⟨_, rfl⟩
        rw [hv] at hKt hvx
        subst hvx
        refine aw_iload_n (q := 17) dX7_digit_16 rfl rfl rfl ?_
        refine aw_bipush (q := 19) dX7_digit_17 rfl (by decide) (by omega) ?_
        refine aw_idiv (q := 20) dX7_digit_19 rfl (by omega) (by rw [td6]; omega) ?_
        rw [td6]
        refine aw_istore_n (q := 21) dX7_digit_20 rfl rfl (by decide) ?_
        refine aw_iinc (q := 24) dX7_digit_21 rfl rfl (by decide) (by omega) ?_
        refine aw_ls (ls := [some (vR 82), some (vI (K9)), some (vI (x)), some (vI (((v / 6 : Nat) : Int))), some (vI (kx + (-1)))]) ⟨rfl, ⟨rfl, ⟨rfl, ⟨rfl, ⟨rfl, trivial⟩⟩⟩⟩⟩ ?_
        refine aw_goto (q := 10) dX7_digit_24 (by decide) ?_
        exact ihlp (t + 1) _ _ (by omega) (by omega) (by rw [Nat.pow_succ, ← Nat.div_div_eq_div_mul, hv]) (by omega)
  exact lp (sv.1 + 1) 0 _ _ (by omega) (by omega) (by rw [Nat.pow_zero, Nat.div_one]; exact hK) (by omega)
set_option maxHeartbeats 4000000 in
set_option maxRecDepth 100000 in
theorem m_X7_findWay {n : Nat} {μ : AH} {th B : Int} {D : Nat} {dv : Nat → DVt} {Fn : Nat} {fv : Nat → FVt} {sv : SVt} {pk fd : Nat × (Nat → Int)} {spd lim : Int}  (hm : MM μ th D dv Fn fv sv pk fd spd lim) (hO : COk B D dv Fn fv sv pk fd spd lim) : AMet YX7_findWay [vR 82] n μ (Vd (fun n' μ' => n' = n ∧ FrR 82 101 μ μ' ∧ MM μ' th D dv Fn fv sv pk fd spd lim ∧ ∃ (ds : List Nat) (a9 : Int), ds.length = sv.1 ∧ Bst (WF dv sv) D 0 0 ds ∧ μ' 82 = oO 7 [vI th, vI (D : Int), vR 83, vR 84, vR 85, vR 86, vR 87, vR 88, vR 89, vR 90, vI spd, vI lim, vI (Fn : Int), vR 91, vR 92, vR 93, vI (pk.1 : Int), vR 94, vI (fd.1 : Int), vR 95, vI a9, vR 96, vI (sv.1 : Int), vR 97, vR 98, vR 99, vR 100, vL (wsm (WF dv sv) ds sv.1), vI (nmb ds : Int)])) := by
  refine AMet.of (by decide) rfl (Nat.le_of_ble_eq_true rfl) ?_
  obtain ⟨at7, ls7, wy7, c7, t7, F7, G7, H7, k7, a7, b7, e7, X7, Y7, y7, o7, r7, s7, u7, v7, w7, h82, h83, h84, h85, h86, h87, h88, h89, h90, h91, h92, h93, h94, h95, h96, h97, h98, h99, h100, ag1, ag2, ag3, ag4, ag5, ag6, ag7, ag8⟩ := id hm
  obtain ⟨hN, hdv, hFn, hfv, hsn, hsb, hpk, hfd, hfb, hs1, hs2, hl1, hl2⟩ := id hO
  have hWb := WF_bd hO
  refine aw_iconst (q := 1) dX7_findWay_0 rfl (by omega) ?_
  refine aw_istore_n (q := 2) dX7_findWay_1 rfl rfl (by decide) ?_
  have la : ∀ (jla s : Nat) (sx : Int) (μ1 : AH) (w9 : Nat → Int), sv.1 - s < jla → sx = (s : Int) → s ≤ sv.1 → μ1 100 = oL 25 w9 → (∀ s9 d9, s9 < s → d9 < D → w9 (5 * s9 + d9) = WF dv sv s9 d9) → Fr [100] μ μ1 → AW YX7_findWay none (Vd (fun n' μ' => n' = n ∧ FrR 82 101 μ μ' ∧ MM μ' th D dv Fn fv sv pk fd spd lim ∧ ∃ (ds : List Nat) (a9 : Int), ds.length = sv.1 ∧ Bst (WF dv sv) D 0 0 ds ∧ μ' 82 = oO 7 [vI th, vI (D : Int), vR 83, vR 84, vR 85, vR 86, vR 87, vR 88, vR 89, vR 90, vI spd, vI lim, vI (Fn : Int), vR 91, vR 92, vR 93, vI (pk.1 : Int), vR 94, vI (fd.1 : Int), vR 95, vI a9, vR 96, vI (sv.1 : Int), vR 97, vR 98, vR 99, vR 100, vL (wsm (WF dv sv) ds sv.1), vI (nmb ds : Int)])) 2 [some (vR 82), some (vI (sx)), none, none, none, none, none, none, none, none, none] [] n μ1 0 0 := by
    intro jla
    induction jla with
    | zero => intro s sx μ1 w9 hj; exact absurd hj (Nat.not_lt_zero _)
    | succ jla ihla =>
      intro s sx μ1 w9 hjla hsx hsS g100 hdn hF1
      refine aw_iload_n (q := 3) dX7_findWay_2 rfl rfl rfl ?_
      refine aw_aload_n (q := 4) dX7_findWay_3 rfl rfl rfl ?_
      refine aw_get (q := 7) dX7_findWay_4 rfl fl_X7_189 ((hF1 82 (by simp)).trans h82) rfl (fun _ => ?_)
      refine aw_ic_ge (t := 48) (q := 10) dX7_findWay_7 rfl (by decide) (fun bc1 => ?_) (fun bc1 => ?_)
      · skip
        have hWs : ∀ s9 d9, s9 < sv.1 → d9 < D → w9 (5 * s9 + d9) = WF dv sv s9 d9 := fun s9 d9 h8 h9 => hdn s9 d9 (by omega) h9
        refine aw_iconst (q := 49) dX7_findWay_48 rfl (by omega) ?_
        refine aw_istore_n (q := 50) dX7_findWay_49 rfl rfl (by decide) ?_
        refine aw_iconst (q := 51) dX7_findWay_50 rfl (by omega) ?_
        refine aw_istore_n (q := 52) dX7_findWay_51 rfl rfl (by decide) ?_
        refine aw_ls (ls := [some (vR 82), some (vI (1)), some (vI (0)), none, none, none, none, none, none, none, none]) ⟨rfl, ⟨rfl, ⟨rfl, trivial⟩⟩⟩ ?_
        have lc : ∀ (jlc t : Nat) (ax tx : Int), sv.1 - t < jlc → tx = (t : Int) → t ≤ sv.1 → ax = ((6 ^ t : Nat) : Int) → AW YX7_findWay none (Vd (fun n' μ' => n' = n ∧ FrR 82 101 μ μ' ∧ MM μ' th D dv Fn fv sv pk fd spd lim ∧ ∃ (ds : List Nat) (a9 : Int), ds.length = sv.1 ∧ Bst (WF dv sv) D 0 0 ds ∧ μ' 82 = oO 7 [vI th, vI (D : Int), vR 83, vR 84, vR 85, vR 86, vR 87, vR 88, vR 89, vR 90, vI spd, vI lim, vI (Fn : Int), vR 91, vR 92, vR 93, vI (pk.1 : Int), vR 94, vI (fd.1 : Int), vR 95, vI a9, vR 96, vI (sv.1 : Int), vR 97, vR 98, vR 99, vR 100, vL (wsm (WF dv sv) ds sv.1), vI (nmb ds : Int)])) 52 [some (vR 82), some (vI (ax)), some (vI (tx)), none, none, none, none, none, none, none, none] [] n μ1 0 0 := by
          intro jlc
          induction jlc with
          | zero => intro t ax tx hj; exact absurd hj (Nat.not_lt_zero _)
          | succ jlc ihlc =>
            intro t ax tx hjlc htx hts hax
            have hp6 := p6_b (show t ≤ 5 by omega)
            have hp60 := p6_p t
            refine aw_iload_n (q := 53) dX7_findWay_52 rfl rfl rfl ?_
            refine aw_aload_n (q := 54) dX7_findWay_53 rfl rfl rfl ?_
            refine aw_get (q := 57) dX7_findWay_54 rfl fl_X7_189 ((hF1 82 (by simp)).trans h82) rfl (fun _ => ?_)
            refine aw_ic_ge (t := 71) (q := 60) dX7_findWay_57 rfl (by decide) (fun bc1 => ?_) (fun bc1 => ?_)
            · skip
              refine aw_iconst (q := 72) dX7_findWay_71 rfl (by omega) ?_
              refine aw_istore_n (q := 73) dX7_findWay_72 rfl rfl (by decide) ?_
              refine aw_iconst (q := 74) dX7_findWay_73 rfl (by omega) ?_
              refine aw_istore_n (q := 75) dX7_findWay_74 rfl rfl (by decide) ?_
              refine aw_ls (ls := [some (vR 82), some (vI (ax)), some (vI ((-1))), some (vI (0)), none, none, none, none, none, none, none]) ⟨rfl, ⟨rfl, ⟨rfl, ⟨rfl, trivial⟩⟩⟩⟩ ?_
              have hte : t = sv.1 := by omega
              rw [hte] at hax hp6 hp60
              have ld : ∀ (jld K : Nat) (mx Kx lx wx : Int) (μ2 : AH), 6 ^ sv.1 - K < jld → Kx = (K : Int) → K ≤ 6 ^ sv.1 → BI (WF dv sv) D sv.1 K mx lx wx → μ2 82 = oO 7 [vI th, vI (D : Int), vR 83, vR 84, vR 85, vR 86, vR 87, vR 88, vR 89, vR 90, vI spd, vI lim, vI (Fn : Int), vR 91, vR 92, vR 93, vI (pk.1 : Int), vR 94, vI (fd.1 : Int), vR 95, vI at7, vR 96, vI (sv.1 : Int), vR 97, vR 98, vR 99, vR 100, vL lx, vI wx] → Fr [82] μ1 μ2 → AW YX7_findWay none (Vd (fun n' μ' => n' = n ∧ FrR 82 101 μ μ' ∧ MM μ' th D dv Fn fv sv pk fd spd lim ∧ ∃ (ds : List Nat) (a9 : Int), ds.length = sv.1 ∧ Bst (WF dv sv) D 0 0 ds ∧ μ' 82 = oO 7 [vI th, vI (D : Int), vR 83, vR 84, vR 85, vR 86, vR 87, vR 88, vR 89, vR 90, vI spd, vI lim, vI (Fn : Int), vR 91, vR 92, vR 93, vI (pk.1 : Int), vR 94, vI (fd.1 : Int), vR 95, vI a9, vR 96, vI (sv.1 : Int), vR 97, vR 98, vR 99, vR 100, vL (wsm (WF dv sv) ds sv.1), vI (nmb ds : Int)])) 75 [some (vR 82), some (vI (ax)), some (vI (mx)), some (vI (Kx)), none, none, none, none, none, none, none] [] n μ2 0 0 := by
                intro jld
                induction jld with
                | zero => intro K mx Kx lx wx μ2 hj; exact absurd hj (Nat.not_lt_zero _)
                | succ jld ihld =>
                  intro K mx Kx lx wx μ2 hjld hKx hKS1 hBI g82 hF2
                  refine aw_iload_n (q := 76) dX7_findWay_75 rfl rfl rfl ?_
                  refine aw_iload_n (q := 77) dX7_findWay_76 rfl rfl rfl ?_
                  refine aw_ic_ge (t := 261) (q := 80) dX7_findWay_77 rfl (by decide) (fun bc1 => ?_) (fun bc1 => ?_)
                  · skip
                    rw [show K = 6 ^ sv.1 by omega] at hBI
                    obtain ⟨ds, e1, e2, e3, e4⟩ := BI_e hN hBI
                    have hfin : ∃ (ds : List Nat) (a9 : Int), ds.length = sv.1 ∧ Bst (WF dv sv) D 0 0 ds ∧ μ2 82 = oO 7 [vI th, vI (D : Int), vR 83, vR 84, vR 85, vR 86, vR 87, vR 88, vR 89, vR 90, vI spd, vI lim, vI (Fn : Int), vR 91, vR 92, vR 93, vI (pk.1 : Int), vR 94, vI (fd.1 : Int), vR 95, vI a9, vR 96, vI (sv.1 : Int), vR 97, vR 98, vR 99, vR 100, vL (wsm (WF dv sv) ds sv.1), vI (nmb ds : Int)] := ⟨ds, at7, e1, e2, by rw [g82, e3, e4]⟩
                    exact aw_vret dX7_findWay_261 rfl (by decide) (by decide) ⟨rfl, rfl, FrR_tr (Fr_R hF1 (by simp)) (Fr_R hF2 (by simp)), ⟨at7, lx, wx, c7, t7, F7, G7, H7, k7, a7, b7, e7, X7, Y7, y7, o7, r7, s7, u7, v7, w9, g82, ((hF2 83 (by simp)).trans ((hF1 83 (by simp)).trans h83)), ((hF2 84 (by simp)).trans ((hF1 84 (by simp)).trans h84)), ((hF2 85 (by simp)).trans ((hF1 85 (by simp)).trans h85)), ((hF2 86 (by simp)).trans ((hF1 86 (by simp)).trans h86)), ((hF2 87 (by simp)).trans ((hF1 87 (by simp)).trans h87)), ((hF2 88 (by simp)).trans ((hF1 88 (by simp)).trans h88)), ((hF2 89 (by simp)).trans ((hF1 89 (by simp)).trans h89)), ((hF2 90 (by simp)).trans ((hF1 90 (by simp)).trans h90)), ((hF2 91 (by simp)).trans ((hF1 91 (by simp)).trans h91)), ((hF2 92 (by simp)).trans ((hF1 92 (by simp)).trans h92)), ((hF2 93 (by simp)).trans ((hF1 93 (by simp)).trans h93)), ((hF2 94 (by simp)).trans ((hF1 94 (by simp)).trans h94)), ((hF2 95 (by simp)).trans ((hF1 95 (by simp)).trans h95)), ((hF2 96 (by simp)).trans ((hF1 96 (by simp)).trans h96)), ((hF2 97 (by simp)).trans ((hF1 97 (by simp)).trans h97)), ((hF2 98 (by simp)).trans ((hF1 98 (by simp)).trans h98)), ((hF2 99 (by simp)).trans ((hF1 99 (by simp)).trans h99)), ((hF2 100 (by simp)).trans g100), ag1, ag2, ag3, ag4, ag5, ag6, ag7, ag8⟩, hfin⟩
                  · skip
                    have hKS : K < 6 ^ sv.1 := by omega
                    have hm2 : MM μ2 th D dv Fn fv sv pk fd spd lim := ⟨at7, lx, wx, c7, t7, F7, G7, H7, k7, a7, b7, e7, X7, Y7, y7, o7, r7, s7, u7, v7, w9, g82, ((hF2 83 (by simp)).trans ((hF1 83 (by simp)).trans h83)), ((hF2 84 (by simp)).trans ((hF1 84 (by simp)).trans h84)), ((hF2 85 (by simp)).trans ((hF1 85 (by simp)).trans h85)), ((hF2 86 (by simp)).trans ((hF1 86 (by simp)).trans h86)), ((hF2 87 (by simp)).trans ((hF1 87 (by simp)).trans h87)), ((hF2 88 (by simp)).trans ((hF1 88 (by simp)).trans h88)), ((hF2 89 (by simp)).trans ((hF1 89 (by simp)).trans h89)), ((hF2 90 (by simp)).trans ((hF1 90 (by simp)).trans h90)), ((hF2 91 (by simp)).trans ((hF1 91 (by simp)).trans h91)), ((hF2 92 (by simp)).trans ((hF1 92 (by simp)).trans h92)), ((hF2 93 (by simp)).trans ((hF1 93 (by simp)).trans h93)), ((hF2 94 (by simp)).trans ((hF1 94 (by simp)).trans h94)), ((hF2 95 (by simp)).trans ((hF1 95 (by simp)).trans h95)), ((hF2 96 (by simp)).trans ((hF1 96 (by simp)).trans h96)), ((hF2 97 (by simp)).trans ((hF1 97 (by simp)).trans h97)), ((hF2 98 (by simp)).trans ((hF1 98 (by simp)).trans h98)), ((hF2 99 (by simp)).trans ((hF1 99 (by simp)).trans h99)), ((hF2 100 (by simp)).trans g100), ag1, ag2, ag3, ag4, ag5, ag6, ag7, ag8⟩
                    refine aw_iconst (q := 81) dX7_findWay_80 rfl (by omega) ?_
                    refine aw_istore (q := 83) dX7_findWay_81 rfl (by decide) ?_
                    refine aw_iconst (q := 84) dX7_findWay_83 rfl (by omega) ?_
                    refine aw_istore (q := 86) dX7_findWay_84 rfl (by decide) ?_
                    refine aw_ls (ls := [some (vR 82), some (vI (ax)), some (vI (mx)), some (vI (Kx)), some (vI (0)), some (vI (0)), none, none, none, none, none]) ⟨rfl, ⟨rfl, ⟨rfl, ⟨rfl, ⟨rfl, ⟨rfl, trivial⟩⟩⟩⟩⟩⟩ ?_
                    refine aw_lconst (a := 0) (q := 87) dX7_findWay_86 rfl rfl (by omega) ?_
                    refine aw_lstore (q := 89) dX7_findWay_87 rfl (by decide) ?_
                    refine aw_iconst (q := 90) dX7_findWay_89 rfl (by omega) ?_
                    refine aw_istore (q := 92) dX7_findWay_90 rfl (by decide) ?_
                    refine aw_ls (ls := [some (vR 82), some (vI (ax)), some (vI (mx)), some (vI (Kx)), some (vI (0)), some (vI (0)), some (vL (0)), none, some (vI (1)), none, none]) ⟨rfl, ⟨rfl, ⟨rfl, ⟨rfl, ⟨rfl, ⟨rfl, ⟨rfl, ⟨rfl, trivial⟩⟩⟩⟩⟩⟩⟩⟩ ?_
                    refine aw_iconst (q := 93) dX7_findWay_92 rfl (by omega) ?_
                    refine aw_istore (q := 95) dX7_findWay_93 rfl (by decide) ?_
                    refine aw_ls (ls := [some (vR 82), some (vI (ax)), some (vI (mx)), some (vI (Kx)), some (vI (0)), some (vI (0)), some (vL (0)), none, some (vI (1)), some (vI (0)), none]) ⟨rfl, ⟨rfl, ⟨rfl, ⟨rfl, ⟨rfl, ⟨rfl, ⟨rfl, ⟨rfl, ⟨rfl, trivial⟩⟩⟩⟩⟩⟩⟩⟩⟩ ?_
                    have le : ∀ (jle s T : Nat) (nx cx gx sx : Int), sv.1 - s < jle → sx = (s : Int) → s ≤ sv.1 → VI (WF dv sv) D s T (dgs sv.1 K) gx → (gx = 1 → nx = (mny (dgs sv.1 K) s : Int) ∧ cx = wsm (WF dv sv) (dgs sv.1 K) s ∧ 0 ≤ cx ∧ cx ≤ 80000000000 * (s : Int)) → AW YX7_findWay none (Vd (fun n' μ' => n' = n ∧ FrR 82 101 μ μ' ∧ MM μ' th D dv Fn fv sv pk fd spd lim ∧ ∃ (ds : List Nat) (a9 : Int), ds.length = sv.1 ∧ Bst (WF dv sv) D 0 0 ds ∧ μ' 82 = oO 7 [vI th, vI (D : Int), vR 83, vR 84, vR 85, vR 86, vR 87, vR 88, vR 89, vR 90, vI spd, vI lim, vI (Fn : Int), vR 91, vR 92, vR 93, vI (pk.1 : Int), vR 94, vI (fd.1 : Int), vR 95, vI a9, vR 96, vI (sv.1 : Int), vR 97, vR 98, vR 99, vR 100, vL (wsm (WF dv sv) ds sv.1), vI (nmb ds : Int)])) 95 [some (vR 82), some (vI (ax)), some (vI (mx)), some (vI (Kx)), some (vI ((T : Int))), some (vI (nx)), some (vL (cx)), none, some (vI (gx)), some (vI (sx)), none] [] n μ2 0 0 := by
                      intro jle
                      induction jle with
                      | zero => intro s T nx cx gx sx hj; exact absurd hj (Nat.not_lt_zero _)
                      | succ jle ihle =>
                        intro s T nx cx gx sx hjle hsx9 hsS hVI hgn
                        refine aw_iload (q := 97) dX7_findWay_95 rfl rfl ?_
                        refine aw_aload_n (q := 98) dX7_findWay_97 rfl rfl rfl ?_
                        refine aw_get (q := 101) dX7_findWay_98 rfl fl_X7_189 g82 rfl (fun _ => ?_)
                        refine aw_ic_ge (t := 214) (q := 104) dX7_findWay_101 rfl (by decide) (fun bc1 => ?_) (fun bc1 => ?_)
                        · skip
                          refine aw_iload (q := 216) dX7_findWay_214 rfl rfl ?_
                          refine aw_if_eq (t := 255) (q := 219) dX7_findWay_216 rfl (by decide) (fun bc2 => ?_) (fun bc2 => ?_)
                          · skip
                            have hnv : ¬ vld (WF dv sv) D 0 0 (dgs sv.1 K) := by rcases hVI with ⟨h, _⟩ | h; omega; exact h.2
                            refine aw_iinc (q := 258) dX7_findWay_255 rfl rfl (by decide) (by omega) ?_
                            refine aw_goto (q := 75) dX7_findWay_258 (by decide) ?_
                            refine aw_ls (ls := [some (vR 82), some (vI (ax)), some (vI (mx)), some (vI (Kx + 1)), none, none, none, none, none, none, none]) ⟨rfl, ⟨rfl, ⟨rfl, ⟨rfl, trivial⟩⟩⟩⟩ ?_
                            exact ihld (K + 1) _ _ _ _ _ (by omega) (by omega) (by omega) (BI_no hN hBI hnv) g82 hF2
                          · skip
                            have hvl : vld (WF dv sv) D 0 0 (dgs sv.1 K) := VI_e (S := sv.1) hVI (by assumption) (by rw [dgs_len]; omega)
                            have hse : s = sv.1 := by omega
                            have hg1 : gx = 1 := by rcases hVI with h | h; exact h.1; exact absurd h.1 (by assumption)
                            have hgv := hgn hg1
                            rw [hse] at hgv
                            have hnS := hgv.1
                            have hcS := hgv.2.1
                            have hml := mny_le (ds := (dgs sv.1 K)) sv.1
                            refine aw_iload (q := 221) dX7_findWay_219 rfl rfl ?_
                            refine aw_iload_n (q := 222) dX7_findWay_221 rfl rfl rfl ?_
                            refine aw_ic_gt (t := 241) (q := 225) dX7_findWay_222 rfl (by decide) (fun bc3 => ?_) (fun bc3 => ?_)
                            · skip
                              refine aw_iload (q := 243) dX7_findWay_241 rfl rfl ?_
                              refine aw_istore_n (q := 244) dX7_findWay_243 rfl rfl (by decide) ?_
                              refine aw_aload_n (q := 245) dX7_findWay_244 rfl rfl rfl ?_
                              refine aw_lload (q := 247) dX7_findWay_245 rfl rfl ?_
                              refine aw_put (q := 250) dX7_findWay_247 rfl fp_X7_203 g82 (Nat.le_of_ble_eq_true rfl) trivial ?_
                              refine aw_aload_n (q := 251) dX7_findWay_250 rfl rfl rfl ?_
                              refine aw_iload_n (q := 252) dX7_findWay_251 rfl rfl rfl ?_
                              refine aw_put (q := 255) dX7_findWay_252 rfl fp_X7_207 hu_s (Nat.le_of_ble_eq_true rfl) trivial ?_
                              refine aw_iinc (q := 258) dX7_findWay_255 rfl rfl (by decide) (by omega) ?_
                              refine aw_ls (ls := [some (vR 82), some (vI (ax)), some (vI (nx)), some (vI (Kx + 1)), some (vI ((T : Int))), some (vI (nx)), some (vL (cx)), none, some (vI (gx)), some (vI (sx)), none]) ⟨rfl, ⟨rfl, ⟨rfl, ⟨rfl, ⟨rfl, ⟨rfl, ⟨rfl, ⟨rfl, ⟨rfl, trivial⟩⟩⟩⟩⟩⟩⟩⟩⟩ ?_
                              refine aw_goto (q := 75) dX7_findWay_258 (by decide) ?_
                              refine aw_ls (ls := [some (vR 82), some (vI (ax)), some (vI (nx)), some (vI (Kx + 1)), none, none, none, none, none, none, none]) ⟨rfl, ⟨rfl, ⟨rfl, ⟨rfl, trivial⟩⟩⟩⟩ ?_
                              exact ihld (K + 1) _ _ _ _ _ (by omega) (by omega) (by omega) (by have h9 := BI_new hN hsn hWb hKS hBI hvl (by omega); rw [← hnS, ← hcS, ← hKx] at h9; exact h9) hu_s (Fr_hu (Fr_hu hF2 (by simp)) (by simp))
                            · skip
                              refine aw_iload (q := 227) dX7_findWay_225 rfl rfl ?_
                              refine aw_iload_n (q := 228) dX7_findWay_227 rfl rfl rfl ?_
                              refine aw_ic_ne (t := 255) (q := 231) dX7_findWay_228 rfl (by decide) (fun bc4 => ?_) (fun bc4 => ?_)
                              · skip
                                refine aw_iinc (q := 258) dX7_findWay_255 rfl rfl (by decide) (by omega) ?_
                                refine aw_goto (q := 75) dX7_findWay_258 (by decide) ?_
                                refine aw_ls (ls := [some (vR 82), some (vI (ax)), some (vI (mx)), some (vI (Kx + 1)), none, none, none, none, none, none, none]) ⟨rfl, ⟨rfl, ⟨rfl, ⟨rfl, trivial⟩⟩⟩⟩ ?_
                                exact ihld (K + 1) _ _ _ _ _ (by omega) (by omega) (by omega) (BI_keep hN hsn hWb hKS hBI hvl (by omega)) g82 hF2
                              · skip
                                refine aw_lload (q := 233) dX7_findWay_231 rfl rfl ?_
                                refine aw_aload_n (q := 234) dX7_findWay_233 rfl rfl rfl ?_
                                refine aw_get (q := 237) dX7_findWay_234 rfl fl_X7_203 g82 rfl (fun _ => ?_)
                                refine aw_lcmp (q := 238) dX7_findWay_237 rfl ?_
                                refine aw_if_ge (t := 255) (q := 241) dX7_findWay_238 rfl (by decide) (fun bc5 => ?_) (fun bc5 => ?_)
                                · skip
                                  replace bc5 := cmpz_ge.mp bc5
                                  refine aw_iinc (q := 258) dX7_findWay_255 rfl rfl (by decide) (by omega) ?_
                                  refine aw_goto (q := 75) dX7_findWay_258 (by decide) ?_
                                  refine aw_ls (ls := [some (vR 82), some (vI (ax)), some (vI (mx)), some (vI (Kx + 1)), none, none, none, none, none, none, none]) ⟨rfl, ⟨rfl, ⟨rfl, ⟨rfl, trivial⟩⟩⟩⟩ ?_
                                  exact ihld (K + 1) _ _ _ _ _ (by omega) (by omega) (by omega) (BI_keep hN hsn hWb hKS hBI hvl (by omega)) g82 hF2
                                · skip
                                  replace bc5 := mt cmpz_ge.mpr bc5
                                  refine aw_iload (q := 243) dX7_findWay_241 rfl rfl ?_
                                  refine aw_istore_n (q := 244) dX7_findWay_243 rfl rfl (by decide) ?_
                                  refine aw_aload_n (q := 245) dX7_findWay_244 rfl rfl rfl ?_
                                  refine aw_lload (q := 247) dX7_findWay_245 rfl rfl ?_
                                  refine aw_put (q := 250) dX7_findWay_247 rfl fp_X7_203 g82 (Nat.le_of_ble_eq_true rfl) trivial ?_
                                  refine aw_aload_n (q := 251) dX7_findWay_250 rfl rfl rfl ?_
                                  refine aw_iload_n (q := 252) dX7_findWay_251 rfl rfl rfl ?_
                                  refine aw_put (q := 255) dX7_findWay_252 rfl fp_X7_207 hu_s (Nat.le_of_ble_eq_true rfl) trivial ?_
                                  refine aw_iinc (q := 258) dX7_findWay_255 rfl rfl (by decide) (by omega) ?_
                                  refine aw_ls (ls := [some (vR 82), some (vI (ax)), some (vI (nx)), some (vI (Kx + 1)), some (vI ((T : Int))), some (vI (nx)), some (vL (cx)), none, some (vI (gx)), some (vI (sx)), none]) ⟨rfl, ⟨rfl, ⟨rfl, ⟨rfl, ⟨rfl, ⟨rfl, ⟨rfl, ⟨rfl, ⟨rfl, trivial⟩⟩⟩⟩⟩⟩⟩⟩⟩ ?_
                                  refine aw_goto (q := 75) dX7_findWay_258 (by decide) ?_
                                  refine aw_ls (ls := [some (vR 82), some (vI (ax)), some (vI (nx)), some (vI (Kx + 1)), none, none, none, none, none, none, none]) ⟨rfl, ⟨rfl, ⟨rfl, ⟨rfl, trivial⟩⟩⟩⟩ ?_
                                  exact ihld (K + 1) _ _ _ _ _ (by omega) (by omega) (by omega) (by have h9 := BI_new hN hsn hWb hKS hBI hvl (by omega); rw [← hnS, ← hcS, ← hKx] at h9; exact h9) hu_s (Fr_hu (Fr_hu hF2 (by simp)) (by simp))
                        · skip
                          refine aw_iload (q := 106) dX7_findWay_104 rfl rfl ?_
                          refine aw_if_eq (t := 214) (q := 109) dX7_findWay_106 rfl (by decide) (fun bc6 => ?_) (fun bc6 => ?_)
                          · skip
                            refine aw_iload (q := 216) dX7_findWay_214 rfl rfl ?_
                            refine aw_if_eq (t := 255) (q := 219) dX7_findWay_216 rfl (by decide) (fun bc7 => ?_) (fun bc7 => ?_)
                            · skip
                              have hnv : ¬ vld (WF dv sv) D 0 0 (dgs sv.1 K) := by rcases hVI with ⟨h, _⟩ | h; omega; exact h.2
                              refine aw_iinc (q := 258) dX7_findWay_255 rfl rfl (by decide) (by omega) ?_
                              refine aw_goto (q := 75) dX7_findWay_258 (by decide) ?_
                              refine aw_ls (ls := [some (vR 82), some (vI (ax)), some (vI (mx)), some (vI (Kx + 1)), none, none, none, none, none, none, none]) ⟨rfl, ⟨rfl, ⟨rfl, ⟨rfl, trivial⟩⟩⟩⟩ ?_
                              exact ihld (K + 1) _ _ _ _ _ (by omega) (by omega) (by omega) (BI_no hN hBI hnv) g82 hF2
                            · skip
                              omega
                          · skip
                            have hg1 : gx = 1 := by rcases hVI with h | h; exact h.1; exact absurd h.1 (by assumption)
                            have hg0 : ¬ gx = 0 := by omega
                            have hgv := hgn hg1
                            have hT32 := VI_T hN hVI hg0
                            have hss : s < sv.1 := by omega
                            have hsl : s < (dgs sv.1 K).length := by rw [dgs_len]; exact hss
                            obtain ⟨d, hd⟩ : ∃ d : Nat, dgt (dgs sv.1 K) s = d := ⟨_, rfl⟩
                            have hd6 : d ≤ 5 := by rw [← hd, dgt_dgs hss]; omega
                            have hml := mny_le (ds := (dgs sv.1 K)) s
                            refine aw_aload_n (q := 110) dX7_findWay_109 rfl rfl rfl ?_
                            refine aw_iload_n (q := 111) dX7_findWay_110 rfl rfl rfl ?_
                            refine aw_iload (q := 113) dX7_findWay_111 rfl rfl ?_
                            refine aw_callV [vI (Kx), vI (sx)] (q := 116) dX7_findWay_113 rfl ck_X7_digit lk_X7_200 rfl ⟨Nat.le_of_ble_eq_true rfl, Nat.le_of_ble_eq_true rfl⟩ rfl rfl g82 rfl (Nat.le_of_ble_eq_true rfl) (by decide) (m_X7_digit (K := K) (s := s) hKx (by omega) hsx9 hss hm2 hO) rfl (fun _ _ _ h => (Rt_x h).elim) ?_
                            rintro v n9 μ9 - ⟨v9, hv9, hn9, hm9, rfl⟩
                            obtain rfl := hn9.symm
                            obtain rfl := hm9.symm
                            obtain rfl := Sum.inl.inj hv9
                            rw [← dgt_dgs hss, hd]
                            refine aw_istore (q := 118) dX7_findWay_116 rfl (by decide) ?_
                            refine aw_iload (q := 120) dX7_findWay_118 rfl rfl ?_
                            refine aw_iconst (q := 121) dX7_findWay_120 rfl (by omega) ?_
                            refine aw_ic_ne (t := 127) (q := 124) dX7_findWay_121 rfl (by decide) (fun bc8 => ?_) (fun bc8 => ?_)
                            · skip
                              have hd5 : ¬ d = 5 := by omega
                              have hp2 := p2_b (show d < 5 by omega)
                              have hob := or_b hT32 (show d < 5 by omega)
                              have hands := and0_5 T hT32 d (by omega)
                              have ha1 : T / 2 ^ d &&& 1 = T / 2 ^ d % 2 := Nat.and_one_is_mod _
                              refine aw_iload (q := 129) dX7_findWay_127 rfl rfl ?_
                              refine aw_aload_n (q := 130) dX7_findWay_129 rfl rfl rfl ?_
                              refine aw_get (q := 133) dX7_findWay_130 rfl fl_X7_75 g82 rfl (fun _ => ?_)
                              refine aw_ic_ge (t := 167) (q := 136) dX7_findWay_133 rfl (by decide) (fun bc9 => ?_) (fun bc9 => ?_)
                              · skip
                                have hbad : ¬ okg (WF dv sv) D s T d := fun h9 => by rcases h9 with h9 | ⟨h8, h7, h6⟩; exact hd5 h9; have := hands.mp h7; omega
                                refine aw_iconst (q := 168) dX7_findWay_167 rfl (by omega) ?_
                                refine aw_istore (q := 170) dX7_findWay_168 rfl (by decide) ?_
                                refine aw_ls (ls := [some (vR 82), some (vI (ax)), some (vI (mx)), some (vI (Kx)), some (vI ((T : Int))), some (vI (nx)), some (vL (cx)), none, some (vI (0)), some (vI (sx)), some (vI ((d : Int)))]) ⟨rfl, ⟨rfl, ⟨rfl, ⟨rfl, ⟨rfl, ⟨rfl, ⟨rfl, ⟨rfl, ⟨rfl, ⟨rfl, trivial⟩⟩⟩⟩⟩⟩⟩⟩⟩⟩ ?_
                                refine aw_iload (q := 172) dX7_findWay_170 rfl rfl ?_
                                refine aw_iconst (q := 173) dX7_findWay_172 rfl (by omega) ?_
                                refine aw_iload (q := 175) dX7_findWay_173 rfl rfl ?_
                                refine aw_ishl (a := 1) (b := d) (q := 176) dX7_findWay_175 rfl (by omega) (by omega) ?_
                                refine aw_ior (a := T) (b := 1 * 2 ^ d) (q := 177) dX7_findWay_176 rfl (by omega) ?_
                                refine aw_istore (q := 179) dX7_findWay_177 rfl (by decide) ?_
                                refine aw_iinc (q := 182) dX7_findWay_179 rfl rfl (by decide) (by omega) ?_
                                refine aw_ls (ls := [some (vR 82), some (vI (ax)), some (vI (mx)), some (vI (Kx)), some (vI (((T ||| (1 * 2 ^ d) : Nat) : Int))), some (vI (nx + 1)), some (vL (cx)), none, some (vI (0)), some (vI (sx)), some (vI ((d : Int)))]) ⟨rfl, ⟨rfl, ⟨rfl, ⟨rfl, ⟨rfl, ⟨rfl, ⟨rfl, ⟨rfl, ⟨rfl, ⟨rfl, trivial⟩⟩⟩⟩⟩⟩⟩⟩⟩⟩ ?_
                                refine aw_lload (q := 184) dX7_findWay_182 rfl rfl ?_
                                refine aw_iload (q := 186) dX7_findWay_184 rfl rfl ?_
                                refine aw_if_eq (t := 204) (q := 189) dX7_findWay_186 rfl (by decide) (fun bc10 => ?_) (fun bc10 => ?_)
                                · skip
                                  refine aw_lconst (a := 0) (q := 205) dX7_findWay_204 rfl rfl (by omega) ?_
                                  refine aw_ladd (q := 206) dX7_findWay_205 rfl (by omega) ?_
                                  refine aw_lstore (q := 208) dX7_findWay_206 rfl (by decide) ?_
                                  refine aw_iinc (q := 211) dX7_findWay_208 rfl rfl (by decide) (by omega) ?_
                                  refine aw_ls (ls := [some (vR 82), some (vI (ax)), some (vI (mx)), some (vI (Kx)), some (vI (((T ||| (1 * 2 ^ d) : Nat) : Int))), some (vI (nx + 1)), some (vL (cx + 0)), none, some (vI (0)), some (vI (sx + 1)), some (vI ((d : Int)))]) ⟨rfl, ⟨rfl, ⟨rfl, ⟨rfl, ⟨rfl, ⟨rfl, ⟨rfl, ⟨rfl, ⟨rfl, ⟨rfl, trivial⟩⟩⟩⟩⟩⟩⟩⟩⟩⟩ ?_
                                  refine aw_goto (q := 95) dX7_findWay_211 (by decide) ?_
                                  refine aw_ls (ls := [some (vR 82), some (vI (ax)), some (vI (mx)), some (vI (Kx)), some (vI (((T ||| (1 * 2 ^ d) : Nat) : Int))), some (vI (nx + 1)), some (vL (cx + 0)), none, some (vI (0)), some (vI (sx + 1)), none]) ⟨rfl, ⟨rfl, ⟨rfl, ⟨rfl, ⟨rfl, ⟨rfl, ⟨rfl, ⟨rfl, ⟨rfl, trivial⟩⟩⟩⟩⟩⟩⟩⟩⟩ ?_
                                  exact ihle (s + 1) (bt T d) _ _ _ _ (by omega) (by omega) (by omega) (VI_f hVI hg0 hsl hd hbad) (fun h9 => by omega)
                                · skip
                                  omega
                              · skip
                                refine aw_iload (q := 138) dX7_findWay_136 rfl rfl ?_
                                refine aw_iload (q := 140) dX7_findWay_138 rfl rfl ?_
                                refine aw_ishr (a := T) (b := d) (q := 141) dX7_findWay_140 rfl (by omega) ?_
                                refine aw_iconst (q := 142) dX7_findWay_141 rfl (by omega) ?_
                                refine aw_iand (a := T / 2 ^ d) (b := 1) (q := 143) dX7_findWay_142 rfl (by rw [ha1]; omega) ?_
                                refine aw_if_ne (t := 167) (q := 146) dX7_findWay_143 rfl (by decide) (fun bc11 => ?_) (fun bc11 => ?_)
                                · skip
                                  have hbad : ¬ okg (WF dv sv) D s T d := fun h9 => by rcases h9 with h9 | ⟨h8, h7, h6⟩; exact hd5 h9; have := hands.mp h7; omega
                                  refine aw_iconst (q := 168) dX7_findWay_167 rfl (by omega) ?_
                                  refine aw_istore (q := 170) dX7_findWay_168 rfl (by decide) ?_
                                  refine aw_ls (ls := [some (vR 82), some (vI (ax)), some (vI (mx)), some (vI (Kx)), some (vI ((T : Int))), some (vI (nx)), some (vL (cx)), none, some (vI (0)), some (vI (sx)), some (vI ((d : Int)))]) ⟨rfl, ⟨rfl, ⟨rfl, ⟨rfl, ⟨rfl, ⟨rfl, ⟨rfl, ⟨rfl, ⟨rfl, ⟨rfl, trivial⟩⟩⟩⟩⟩⟩⟩⟩⟩⟩ ?_
                                  refine aw_iload (q := 172) dX7_findWay_170 rfl rfl ?_
                                  refine aw_iconst (q := 173) dX7_findWay_172 rfl (by omega) ?_
                                  refine aw_iload (q := 175) dX7_findWay_173 rfl rfl ?_
                                  refine aw_ishl (a := 1) (b := d) (q := 176) dX7_findWay_175 rfl (by omega) (by omega) ?_
                                  refine aw_ior (a := T) (b := 1 * 2 ^ d) (q := 177) dX7_findWay_176 rfl (by omega) ?_
                                  refine aw_istore (q := 179) dX7_findWay_177 rfl (by decide) ?_
                                  refine aw_iinc (q := 182) dX7_findWay_179 rfl rfl (by decide) (by omega) ?_
                                  refine aw_ls (ls := [some (vR 82), some (vI (ax)), some (vI (mx)), some (vI (Kx)), some (vI (((T ||| (1 * 2 ^ d) : Nat) : Int))), some (vI (nx + 1)), some (vL (cx)), none, some (vI (0)), some (vI (sx)), some (vI ((d : Int)))]) ⟨rfl, ⟨rfl, ⟨rfl, ⟨rfl, ⟨rfl, ⟨rfl, ⟨rfl, ⟨rfl, ⟨rfl, ⟨rfl, trivial⟩⟩⟩⟩⟩⟩⟩⟩⟩⟩ ?_
                                  refine aw_lload (q := 184) dX7_findWay_182 rfl rfl ?_
                                  refine aw_iload (q := 186) dX7_findWay_184 rfl rfl ?_
                                  refine aw_if_eq (t := 204) (q := 189) dX7_findWay_186 rfl (by decide) (fun bc12 => ?_) (fun bc12 => ?_)
                                  · skip
                                    refine aw_lconst (a := 0) (q := 205) dX7_findWay_204 rfl rfl (by omega) ?_
                                    refine aw_ladd (q := 206) dX7_findWay_205 rfl (by omega) ?_
                                    refine aw_lstore (q := 208) dX7_findWay_206 rfl (by decide) ?_
                                    refine aw_iinc (q := 211) dX7_findWay_208 rfl rfl (by decide) (by omega) ?_
                                    refine aw_ls (ls := [some (vR 82), some (vI (ax)), some (vI (mx)), some (vI (Kx)), some (vI (((T ||| (1 * 2 ^ d) : Nat) : Int))), some (vI (nx + 1)), some (vL (cx + 0)), none, some (vI (0)), some (vI (sx + 1)), some (vI ((d : Int)))]) ⟨rfl, ⟨rfl, ⟨rfl, ⟨rfl, ⟨rfl, ⟨rfl, ⟨rfl, ⟨rfl, ⟨rfl, ⟨rfl, trivial⟩⟩⟩⟩⟩⟩⟩⟩⟩⟩ ?_
                                    refine aw_goto (q := 95) dX7_findWay_211 (by decide) ?_
                                    refine aw_ls (ls := [some (vR 82), some (vI (ax)), some (vI (mx)), some (vI (Kx)), some (vI (((T ||| (1 * 2 ^ d) : Nat) : Int))), some (vI (nx + 1)), some (vL (cx + 0)), none, some (vI (0)), some (vI (sx + 1)), none]) ⟨rfl, ⟨rfl, ⟨rfl, ⟨rfl, ⟨rfl, ⟨rfl, ⟨rfl, ⟨rfl, ⟨rfl, trivial⟩⟩⟩⟩⟩⟩⟩⟩⟩ ?_
                                    exact ihle (s + 1) (bt T d) _ _ _ _ (by omega) (by omega) (by omega) (VI_f hVI hg0 hsl hd hbad) (fun h9 => by omega)
                                  · skip
                                    omega
                                · skip
                                  have hdD : d < D := by omega
                                  have hwb := hWb s d hss hdD
                                  refine aw_aload_n (q := 147) dX7_findWay_146 rfl rfl rfl ?_
                                  refine aw_get (q := 150) dX7_findWay_147 rfl fl_X7_68 g82 rfl (fun _ => ?_)
                                  refine aw_iconst (q := 151) dX7_findWay_150 rfl (by omega) ?_
                                  refine aw_iload (q := 153) dX7_findWay_151 rfl rfl ?_
                                  refine aw_imul (q := 154) dX7_findWay_153 rfl (by omega) ?_
                                  refine aw_iload (q := 156) dX7_findWay_154 rfl rfl ?_
                                  refine aw_iadd (q := 157) dX7_findWay_156 rfl (by omega) ?_
                                  refine aw_laload (j := 5 * s + d) (q := 158) dX7_findWay_157 rfl ((hF2 100 (by simp)).trans g100) (by omega) (by omega) (fun rx13 => ?_)
                                  rw [hWs s d hss hdD]
                                  refine aw_lconst (a := 0) (q := 159) dX7_findWay_158 rfl rfl (by omega) ?_
                                  refine aw_lcmp (q := 160) dX7_findWay_159 rfl ?_
                                  refine aw_if_lt (t := 167) (q := 163) dX7_findWay_160 rfl (by decide) (fun bc14 => ?_) (fun bc14 => ?_)
                                  · skip
                                    replace bc14 := cmpz_lt.mp bc14
                                    have hbad : ¬ okg (WF dv sv) D s T d := fun h9 => by rcases h9 with h9 | ⟨h8, h7, h6⟩; exact hd5 h9; have := hands.mp h7; omega
                                    refine aw_iconst (q := 168) dX7_findWay_167 rfl (by omega) ?_
                                    refine aw_istore (q := 170) dX7_findWay_168 rfl (by decide) ?_
                                    refine aw_ls (ls := [some (vR 82), some (vI (ax)), some (vI (mx)), some (vI (Kx)), some (vI ((T : Int))), some (vI (nx)), some (vL (cx)), none, some (vI (0)), some (vI (sx)), some (vI ((d : Int)))]) ⟨rfl, ⟨rfl, ⟨rfl, ⟨rfl, ⟨rfl, ⟨rfl, ⟨rfl, ⟨rfl, ⟨rfl, ⟨rfl, trivial⟩⟩⟩⟩⟩⟩⟩⟩⟩⟩ ?_
                                    refine aw_iload (q := 172) dX7_findWay_170 rfl rfl ?_
                                    refine aw_iconst (q := 173) dX7_findWay_172 rfl (by omega) ?_
                                    refine aw_iload (q := 175) dX7_findWay_173 rfl rfl ?_
                                    refine aw_ishl (a := 1) (b := d) (q := 176) dX7_findWay_175 rfl (by omega) (by omega) ?_
                                    refine aw_ior (a := T) (b := 1 * 2 ^ d) (q := 177) dX7_findWay_176 rfl (by omega) ?_
                                    refine aw_istore (q := 179) dX7_findWay_177 rfl (by decide) ?_
                                    refine aw_iinc (q := 182) dX7_findWay_179 rfl rfl (by decide) (by omega) ?_
                                    refine aw_ls (ls := [some (vR 82), some (vI (ax)), some (vI (mx)), some (vI (Kx)), some (vI (((T ||| (1 * 2 ^ d) : Nat) : Int))), some (vI (nx + 1)), some (vL (cx)), none, some (vI (0)), some (vI (sx)), some (vI ((d : Int)))]) ⟨rfl, ⟨rfl, ⟨rfl, ⟨rfl, ⟨rfl, ⟨rfl, ⟨rfl, ⟨rfl, ⟨rfl, ⟨rfl, trivial⟩⟩⟩⟩⟩⟩⟩⟩⟩⟩ ?_
                                    refine aw_lload (q := 184) dX7_findWay_182 rfl rfl ?_
                                    refine aw_iload (q := 186) dX7_findWay_184 rfl rfl ?_
                                    refine aw_if_eq (t := 204) (q := 189) dX7_findWay_186 rfl (by decide) (fun bc15 => ?_) (fun bc15 => ?_)
                                    · skip
                                      refine aw_lconst (a := 0) (q := 205) dX7_findWay_204 rfl rfl (by omega) ?_
                                      refine aw_ladd (q := 206) dX7_findWay_205 rfl (by omega) ?_
                                      refine aw_lstore (q := 208) dX7_findWay_206 rfl (by decide) ?_
                                      refine aw_iinc (q := 211) dX7_findWay_208 rfl rfl (by decide) (by omega) ?_
                                      refine aw_ls (ls := [some (vR 82), some (vI (ax)), some (vI (mx)), some (vI (Kx)), some (vI (((T ||| (1 * 2 ^ d) : Nat) : Int))), some (vI (nx + 1)), some (vL (cx + 0)), none, some (vI (0)), some (vI (sx + 1)), some (vI ((d : Int)))]) ⟨rfl, ⟨rfl, ⟨rfl, ⟨rfl, ⟨rfl, ⟨rfl, ⟨rfl, ⟨rfl, ⟨rfl, ⟨rfl, trivial⟩⟩⟩⟩⟩⟩⟩⟩⟩⟩ ?_
                                      refine aw_goto (q := 95) dX7_findWay_211 (by decide) ?_
                                      refine aw_ls (ls := [some (vR 82), some (vI (ax)), some (vI (mx)), some (vI (Kx)), some (vI (((T ||| (1 * 2 ^ d) : Nat) : Int))), some (vI (nx + 1)), some (vL (cx + 0)), none, some (vI (0)), some (vI (sx + 1)), none]) ⟨rfl, ⟨rfl, ⟨rfl, ⟨rfl, ⟨rfl, ⟨rfl, ⟨rfl, ⟨rfl, ⟨rfl, trivial⟩⟩⟩⟩⟩⟩⟩⟩⟩ ?_
                                      exact ihle (s + 1) (bt T d) _ _ _ _ (by omega) (by omega) (by omega) (VI_f hVI hg0 hsl hd hbad) (fun h9 => by omega)
                                    · skip
                                      omega
                                  · skip
                                    replace bc14 := mt cmpz_lt.mpr bc14
                                    have hgood : okg (WF dv sv) D s T d := Or.inr ⟨hdD, hands.mpr (by omega), by omega⟩
                                    refine aw_iconst (q := 164) dX7_findWay_163 rfl (by omega) ?_
                                    refine aw_goto (q := 168) dX7_findWay_164 (by decide) ?_
                                    refine aw_istore (q := 170) dX7_findWay_168 rfl (by decide) ?_
                                    refine aw_ls (ls := [some (vR 82), some (vI (ax)), some (vI (mx)), some (vI (Kx)), some (vI ((T : Int))), some (vI (nx)), some (vL (cx)), none, some (vI (1)), some (vI (sx)), some (vI ((d : Int)))]) ⟨rfl, ⟨rfl, ⟨rfl, ⟨rfl, ⟨rfl, ⟨rfl, ⟨rfl, ⟨rfl, ⟨rfl, ⟨rfl, trivial⟩⟩⟩⟩⟩⟩⟩⟩⟩⟩ ?_
                                    refine aw_iload (q := 172) dX7_findWay_170 rfl rfl ?_
                                    refine aw_iconst (q := 173) dX7_findWay_172 rfl (by omega) ?_
                                    refine aw_iload (q := 175) dX7_findWay_173 rfl rfl ?_
                                    refine aw_ishl (a := 1) (b := d) (q := 176) dX7_findWay_175 rfl (by omega) (by omega) ?_
                                    refine aw_ior (a := T) (b := 1 * 2 ^ d) (q := 177) dX7_findWay_176 rfl (by omega) ?_
                                    refine aw_istore (q := 179) dX7_findWay_177 rfl (by decide) ?_
                                    refine aw_iinc (q := 182) dX7_findWay_179 rfl rfl (by decide) (by omega) ?_
                                    refine aw_ls (ls := [some (vR 82), some (vI (ax)), some (vI (mx)), some (vI (Kx)), some (vI (((T ||| (1 * 2 ^ d) : Nat) : Int))), some (vI (nx + 1)), some (vL (cx)), none, some (vI (1)), some (vI (sx)), some (vI ((d : Int)))]) ⟨rfl, ⟨rfl, ⟨rfl, ⟨rfl, ⟨rfl, ⟨rfl, ⟨rfl, ⟨rfl, ⟨rfl, ⟨rfl, trivial⟩⟩⟩⟩⟩⟩⟩⟩⟩⟩ ?_
                                    refine aw_lload (q := 184) dX7_findWay_182 rfl rfl ?_
                                    refine aw_iload (q := 186) dX7_findWay_184 rfl rfl ?_
                                    refine aw_if_eq (t := 204) (q := 189) dX7_findWay_186 rfl (by decide) (fun bc16 => ?_) (fun bc16 => ?_)
                                    · skip
                                      omega
                                    · skip
                                      refine aw_aload_n (q := 190) dX7_findWay_189 rfl rfl rfl ?_
                                      refine aw_get (q := 193) dX7_findWay_190 rfl fl_X7_68 g82 rfl (fun _ => ?_)
                                      refine aw_iconst (q := 194) dX7_findWay_193 rfl (by omega) ?_
                                      refine aw_iload (q := 196) dX7_findWay_194 rfl rfl ?_
                                      refine aw_imul (q := 197) dX7_findWay_196 rfl (by omega) ?_
                                      refine aw_iload (q := 199) dX7_findWay_197 rfl rfl ?_
                                      refine aw_iadd (q := 200) dX7_findWay_199 rfl (by omega) ?_
                                      refine aw_laload (j := 5 * s + d) (q := 201) dX7_findWay_200 rfl ((hF2 100 (by simp)).trans g100) (by omega) (by omega) (fun rx17 => ?_)
                                      rw [hWs s d hss hdD]
                                      refine aw_goto (q := 205) dX7_findWay_201 (by decide) ?_
                                      refine aw_ladd (q := 206) dX7_findWay_205 rfl (by omega) ?_
                                      refine aw_lstore (q := 208) dX7_findWay_206 rfl (by decide) ?_
                                      refine aw_iinc (q := 211) dX7_findWay_208 rfl rfl (by decide) (by omega) ?_
                                      refine aw_ls (ls := [some (vR 82), some (vI (ax)), some (vI (mx)), some (vI (Kx)), some (vI (((T ||| (1 * 2 ^ d) : Nat) : Int))), some (vI (nx + 1)), some (vL (cx + (WF dv sv s d))), none, some (vI (1)), some (vI (sx + 1)), some (vI ((d : Int)))]) ⟨rfl, ⟨rfl, ⟨rfl, ⟨rfl, ⟨rfl, ⟨rfl, ⟨rfl, ⟨rfl, ⟨rfl, ⟨rfl, trivial⟩⟩⟩⟩⟩⟩⟩⟩⟩⟩ ?_
                                      refine aw_goto (q := 95) dX7_findWay_211 (by decide) ?_
                                      refine aw_ls (ls := [some (vR 82), some (vI (ax)), some (vI (mx)), some (vI (Kx)), some (vI (((T ||| (1 * 2 ^ d) : Nat) : Int))), some (vI (nx + 1)), some (vL (cx + (WF dv sv s d))), none, some (vI (1)), some (vI (sx + 1)), none]) ⟨rfl, ⟨rfl, ⟨rfl, ⟨rfl, ⟨rfl, ⟨rfl, ⟨rfl, ⟨rfl, ⟨rfl, trivial⟩⟩⟩⟩⟩⟩⟩⟩⟩ ?_
                                      exact ihle (s + 1) (bt T d) _ _ _ _ (by omega) (by omega) (by omega) (by have h9 := VI_t hVI hg0 hsl hd hgood; unfold tn at h9; rw [if_neg hd5] at h9; exact h9) (fun _ => ⟨by rw [mny_n (by rw [hd]; exact hd5)]; omega, by rw [wsm_n (by rw [hd]; exact hd5), hd, hgv.2.1], by omega, by omega⟩)
                            · skip
                              refine aw_goto (q := 208) dX7_findWay_124 (by decide) ?_
                              refine aw_iinc (q := 211) dX7_findWay_208 rfl rfl (by decide) (by omega) ?_
                              refine aw_ls (ls := [some (vR 82), some (vI (ax)), some (vI (mx)), some (vI (Kx)), some (vI ((T : Int))), some (vI (nx)), some (vL (cx)), none, some (vI (gx)), some (vI (sx + 1)), some (vI ((d : Int)))]) ⟨rfl, ⟨rfl, ⟨rfl, ⟨rfl, ⟨rfl, ⟨rfl, ⟨rfl, ⟨rfl, ⟨rfl, ⟨rfl, trivial⟩⟩⟩⟩⟩⟩⟩⟩⟩⟩ ?_
                              refine aw_goto (q := 95) dX7_findWay_211 (by decide) ?_
                              refine aw_ls (ls := [some (vR 82), some (vI (ax)), some (vI (mx)), some (vI (Kx)), some (vI ((T : Int))), some (vI (nx)), some (vL (cx)), none, some (vI (gx)), some (vI (sx + 1)), none]) ⟨rfl, ⟨rfl, ⟨rfl, ⟨rfl, ⟨rfl, ⟨rfl, ⟨rfl, ⟨rfl, ⟨rfl, trivial⟩⟩⟩⟩⟩⟩⟩⟩⟩ ?_
                              exact ihle (s + 1) T _ _ _ _ (by omega) (by omega) (by omega) (by rw [hg1]; have h9 := VI_t hVI hg0 hsl (hd.trans (show d = 5 by omega)) (Or.inl rfl); exact h9) (fun _ => ⟨by rw [mny_5 (hd.trans (show d = 5 by omega))]; exact hgv.1, by rw [wsm_5 (hd.trans (show d = 5 by omega))]; exact hgv.2.1, by omega, by omega⟩)
                    exact le (sv.1 + 1) 0 0 _ _ _ _ (by omega) rfl (by omega) VI_0 (fun _ => ⟨rfl, rfl, by omega, by omega⟩)
              exact ld (6 ^ sv.1 + 1) 0 _ _ _ _ μ1 (by omega) rfl (by omega) BI_0 ((hF1 82 (by simp)).trans h82) Fr_rf
            · skip
              refine aw_bipush (q := 62) dX7_findWay_60 rfl (by decide) (by omega) ?_
              refine aw_iload_n (q := 63) dX7_findWay_62 rfl rfl rfl ?_
              refine aw_imul (q := 64) dX7_findWay_63 rfl (by omega) ?_
              refine aw_istore_n (q := 65) dX7_findWay_64 rfl rfl (by decide) ?_
              refine aw_iinc (q := 68) dX7_findWay_65 rfl rfl (by decide) (by omega) ?_
              refine aw_ls (ls := [some (vR 82), some (vI (6 * ax)), some (vI (tx + 1)), none, none, none, none, none, none, none, none]) ⟨rfl, ⟨rfl, ⟨rfl, trivial⟩⟩⟩ ?_
              refine aw_goto (q := 52) dX7_findWay_68 (by decide) ?_
              exact ihlc (t + 1) _ _ (by omega) (by omega) (by omega) (by rw [Nat.pow_succ]; omega)
        exact lc (sv.1 + 1) 0 _ _ (by omega) rfl (by omega) (by rw [Nat.pow_zero]; rfl)
      · skip
        refine aw_iconst (q := 11) dX7_findWay_10 rfl (by omega) ?_
        refine aw_istore_n (q := 12) dX7_findWay_11 rfl rfl (by decide) ?_
        have lb : ∀ (jlb d : Nat) (dx : Int) (μ1 : AH) (w9 : Nat → Int), D - d < jlb → dx = (d : Int) → d ≤ D → μ1 100 = oL 25 w9 → (∀ s9 d9, s9 < s → d9 < D → w9 (5 * s9 + d9) = WF dv sv s9 d9) → (∀ d9, d9 < d → w9 (5 * s + d9) = WF dv sv s d9) → Fr [100] μ μ1 → AW YX7_findWay none (Vd (fun n' μ' => n' = n ∧ FrR 82 101 μ μ' ∧ MM μ' th D dv Fn fv sv pk fd spd lim ∧ ∃ (ds : List Nat) (a9 : Int), ds.length = sv.1 ∧ Bst (WF dv sv) D 0 0 ds ∧ μ' 82 = oO 7 [vI th, vI (D : Int), vR 83, vR 84, vR 85, vR 86, vR 87, vR 88, vR 89, vR 90, vI spd, vI lim, vI (Fn : Int), vR 91, vR 92, vR 93, vI (pk.1 : Int), vR 94, vI (fd.1 : Int), vR 95, vI a9, vR 96, vI (sv.1 : Int), vR 97, vR 98, vR 99, vR 100, vL (wsm (WF dv sv) ds sv.1), vI (nmb ds : Int)])) 12 [some (vR 82), some (vI (sx)), some (vI (dx)), none, none, none, none, none, none, none, none] [] n μ1 0 0 := by
          intro jlb
          induction jlb with
          | zero => intro d dx μ1 w9 hj; exact absurd hj (Nat.not_lt_zero _)
          | succ jlb ihlb =>
            intro d dx μ1 w9 hjlb hdx hdD g100 hdn hde hF1
            have hm1 : MM μ1 th D dv Fn fv sv pk fd spd lim := ⟨at7, ls7, wy7, c7, t7, F7, G7, H7, k7, a7, b7, e7, X7, Y7, y7, o7, r7, s7, u7, v7, w9, ((hF1 82 (by simp)).trans h82), ((hF1 83 (by simp)).trans h83), ((hF1 84 (by simp)).trans h84), ((hF1 85 (by simp)).trans h85), ((hF1 86 (by simp)).trans h86), ((hF1 87 (by simp)).trans h87), ((hF1 88 (by simp)).trans h88), ((hF1 89 (by simp)).trans h89), ((hF1 90 (by simp)).trans h90), ((hF1 91 (by simp)).trans h91), ((hF1 92 (by simp)).trans h92), ((hF1 93 (by simp)).trans h93), ((hF1 94 (by simp)).trans h94), ((hF1 95 (by simp)).trans h95), ((hF1 96 (by simp)).trans h96), ((hF1 97 (by simp)).trans h97), ((hF1 98 (by simp)).trans h98), ((hF1 99 (by simp)).trans h99), g100, ag1, ag2, ag3, ag4, ag5, ag6, ag7, ag8⟩
            refine aw_iload_n (q := 13) dX7_findWay_12 rfl rfl rfl ?_
            refine aw_aload_n (q := 14) dX7_findWay_13 rfl rfl rfl ?_
            refine aw_get (q := 17) dX7_findWay_14 rfl fl_X7_75 ((hF1 82 (by simp)).trans h82) rfl (fun _ => ?_)
            refine aw_ic_ge (t := 42) (q := 20) dX7_findWay_17 rfl (by decide) (fun bc1 => ?_) (fun bc1 => ?_)
            · skip
              refine aw_iinc (q := 45) dX7_findWay_42 rfl rfl (by decide) (by omega) ?_
              refine aw_goto (q := 2) dX7_findWay_45 (by decide) ?_
              refine aw_ls (ls := [some (vR 82), some (vI (sx + 1)), none, none, none, none, none, none, none, none, none]) ⟨rfl, ⟨rfl, trivial⟩⟩ ?_
              exact ihla (s + 1) _ _ _ (by omega) (by omega) (by omega) g100 (fun s9 d9 h8 h9 => by rcases Nat.lt_succ_iff_lt_or_eq.mp h8 with q | q; exact hdn s9 d9 q h9; subst q; exact hde d9 (by omega)) hF1
            · skip
              refine aw_aload_n (q := 21) dX7_findWay_20 rfl rfl rfl ?_
              refine aw_get (q := 24) dX7_findWay_21 rfl fl_X7_68 ((hF1 82 (by simp)).trans h82) rfl (fun _ => ?_)
              refine aw_iconst (q := 25) dX7_findWay_24 rfl (by omega) ?_
              refine aw_iload_n (q := 26) dX7_findWay_25 rfl rfl rfl ?_
              refine aw_imul (q := 27) dX7_findWay_26 rfl (by omega) ?_
              refine aw_iload_n (q := 28) dX7_findWay_27 rfl rfl rfl ?_
              refine aw_iadd (q := 29) dX7_findWay_28 rfl (by omega) ?_
              refine aw_aload_n (q := 30) dX7_findWay_29 rfl rfl rfl ?_
              refine aw_iload_n (q := 31) dX7_findWay_30 rfl rfl rfl ?_
              refine aw_iload_n (q := 32) dX7_findWay_31 rfl rfl rfl ?_
              refine aw_callV [vI (sx), vI (dx)] (q := 35) dX7_findWay_32 rfl ck_X7_weightOf lk_X7_197 rfl ⟨Nat.le_of_ble_eq_true rfl, Nat.le_of_ble_eq_true rfl⟩ rfl rfl ((hF1 82 (by simp)).trans h82) rfl (Nat.le_of_ble_eq_true rfl) (by decide) (m_X7_weightOf (s := s) (d := d) hsx (by omega) hdx (by omega) hm1 hO) rfl (fun _ _ _ h => (Rt_x h).elim) ?_
              rintro v n9 μ9 - ⟨v9, hv9, hn9, hm9, rfl⟩
              obtain rfl := hn9.symm
              obtain rfl := hm9.symm
              obtain rfl := Sum.inl.inj hv9
              refine aw_lastore (j := 5 * s + d) (q := 36) dX7_findWay_35 rfl g100 (by omega) (by omega) ?_
              refine aw_iinc (q := 39) dX7_findWay_36 rfl rfl (by decide) (by omega) ?_
              refine aw_goto (q := 12) dX7_findWay_39 (by decide) ?_
              exact ihlb (d + 1) _ _ _ (by omega) (by omega) (by omega) hu_s (fun s9 d9 h8 h9 => (fu_n (by omega)).trans (hdn s9 d9 h8 h9)) (fun d9 h9 => by rcases Nat.lt_succ_iff_lt_or_eq.mp h9 with q | q; exact (fu_n (by omega)).trans (hde d9 q); subst q; exact fu_s) (Fr_hu hF1 (by simp))
        exact lb (D + 1) 0 _ _ w9 (by omega) rfl (by omega) g100 hdn (fun d9 h9 => absurd h9 (Nat.not_lt_zero _)) hF1
  exact la (sv.1 + 1) 0 _ _ w7 (by omega) rfl (by omega) h100 (fun s9 d9 h8 h9 => absurd h8 (Nat.not_lt_zero _)) Fr_rf
set_option maxHeartbeats 4000000 in
set_option maxRecDepth 100000 in
theorem m_X7_matched {n : Nat} {μ : AH} {th B : Int} {D : Nat} {dv : Nat → DVt} {Fn : Nat} {fv : Nat → FVt} {sv : SVt} {pk fd : Nat × (Nat → Int)} {spd lim : Int}  (hm : MM μ th D dv Fn fv sv pk fd spd lim) (hO : COk B D dv Fn fv sv pk fd spd lim) : AMet YX7_matched [vR 82] n μ (fun o n' μ' => n' = n ∧ FrR 82 101 μ μ' ∧ ∃ ds : List Nat, ds.length = sv.1 ∧ Bst (WF dv sv) D 0 0 ds ∧ o = .inl (some (vL (wsm (WF dv sv) ds sv.1))) ∧ MM μ' 0 D dv Fn fv sv pk fd spd lim) := by
  refine AMet.of (by decide) rfl (Nat.le_of_ble_eq_true rfl) ?_
  obtain ⟨at7, ls7, wy7, c7, t7, F7, G7, H7, k7, a7, b7, e7, X7, Y7, y7, o7, r7, s7, u7, v7, w7, h82, h83, h84, h85, h86, h87, h88, h89, h90, h91, h92, h93, h94, h95, h96, h97, h98, h99, h100, ag1, ag2, ag3, ag4, ag5, ag6, ag7, ag8⟩ := id hm
  obtain ⟨hN, hdv, hFn, hfv, hsn, hsb, hpk, hfd, hfb, hs1, hs2, hl1, hl2⟩ := id hO
  refine aw_aload_n (q := 1) dX7_matched_0 rfl rfl rfl ?_
  refine aw_iconst (q := 2) dX7_matched_1 rfl (by omega) ?_
  refine aw_put (q := 5) dX7_matched_2 rfl fp_X7_72 h82 (Nat.le_of_ble_eq_true rfl) trivial ?_
  refine mm_z (at' := at7) (ls' := ls7) (wy' := wy7) hm (fun μ0 hm0 hF0 => ?_)
  obtain ⟨at7, ls7, wy7, c7, t7, F7, G7, H7, k7, a7, b7, e7, X7, Y7, y7, o7, r7, s7, u7, v7, w7, h82, h83, h84, h85, h86, h87, h88, h89, h90, h91, h92, h93, h94, h95, h96, h97, h98, h99, h100, ag1, ag2, ag3, ag4, ag5, ag6, ag7, ag8⟩ := id hm0
  refine aw_aload_n (q := 6) dX7_matched_5 rfl rfl rfl ?_
  refine aw_callV [] (q := 9) dX7_matched_6 rfl ck_X7_findWay lk_X7_209 rfl ⟨Nat.le_of_ble_eq_true rfl, Nat.le_of_ble_eq_true rfl⟩ rfl rfl h82 rfl (Nat.le_of_ble_eq_true rfl) (by decide) (m_X7_findWay hm0 hO) rfl (fun _ _ _ h => (Vd_x h).elim) ?_
  rintro v n9 μ9 - ⟨hv9, hn9, hF9, hmw, ds, a9, e1, e2, k82⟩
  obtain rfl := hn9.symm
  obtain rfl := Sum.inl.inj hv9
  refine aw_aload_n (q := 10) dX7_matched_9 rfl rfl rfl ?_
  refine aw_get (q := 13) dX7_matched_10 rfl fl_X7_203 k82 rfl (fun _ => ?_)
  exact aw_lret dX7_matched_13 rfl (by decide) (by decide) ⟨rfl, FrR_tr (FrR_w hF0 (by omega) (by omega)) hF9, ds, e1, e2, rfl, hmw⟩
set_option maxHeartbeats 4000000 in
set_option maxRecDepth 100000 in
theorem m_X7_match {n : Nat} {μ : AH} {th B : Int} {D : Nat} {dv : Nat → DVt} {Fn : Nat} {fv : Nat → FVt} {sv : SVt} {pk fd : Nat × (Nat → Int)} {spd lim : Int} {x : Int} (hm : MM μ th D dv Fn fv sv pk fd spd lim) (hO : COk B D dv Fn fv sv pk fd spd lim) : AMet YX7_match [vR 82, vI (x)] n μ (fun o n' μ' => n' = n ∧ FrR 82 101 μ μ' ∧ ∃ v : Int, o = .inl (some (vI v)) ∧ ((¬ (0 ≤ x ∧ x < (sv.1 : Int)) ∧ MM μ' 1 D dv Fn fv sv pk fd spd lim) ∨ ((0 ≤ x ∧ x < (sv.1 : Int)) ∧ ∃ ds : List Nat, ds.length = sv.1 ∧ Bst (WF dv sv) D 0 0 ds ∧ v = gi (dgt ds x.toNat) ∧ MM μ' 0 D dv Fn fv sv pk fd spd lim))) := by
  refine AMet.of (by decide) rfl (Nat.le_of_ble_eq_true rfl) ?_
  obtain ⟨at7, ls7, wy7, c7, t7, F7, G7, H7, k7, a7, b7, e7, X7, Y7, y7, o7, r7, s7, u7, v7, w7, h82, h83, h84, h85, h86, h87, h88, h89, h90, h91, h92, h93, h94, h95, h96, h97, h98, h99, h100, ag1, ag2, ag3, ag4, ag5, ag6, ag7, ag8⟩ := id hm
  obtain ⟨hN, hdv, hFn, hfv, hsn, hsb, hpk, hfd, hfb, hs1, hs2, hl1, hl2⟩ := id hO
  refine aw_aload_n (q := 1) dX7_match_0 rfl rfl rfl ?_
  refine aw_iconst (q := 2) dX7_match_1 rfl (by omega) ?_
  refine aw_put (q := 5) dX7_match_2 rfl fp_X7_72 h82 (Nat.le_of_ble_eq_true rfl) trivial ?_
  refine mm_z (at' := at7) (ls' := ls7) (wy' := wy7) hm (fun μ0 hm0 hF0 => ?_)
  obtain ⟨at7, ls7, wy7, c7, t7, F7, G7, H7, k7, a7, b7, e7, X7, Y7, y7, o7, r7, s7, u7, v7, w7, h82, h83, h84, h85, h86, h87, h88, h89, h90, h91, h92, h93, h94, h95, h96, h97, h98, h99, h100, ag1, ag2, ag3, ag4, ag5, ag6, ag7, ag8⟩ := id hm0
  refine aw_aload_n (q := 6) dX7_match_5 rfl rfl rfl ?_
  refine aw_iload_n (q := 7) dX7_match_6 rfl rfl rfl ?_
  refine aw_if_lt (t := 18) (q := 10) dX7_match_7 rfl (by decide) (fun bc1 => ?_) (fun bc1 => ?_)
  · skip
    refine aw_iconst (q := 19) dX7_match_18 rfl (by omega) ?_
    refine aw_goto (q := 23) dX7_match_19 (by decide) ?_
    refine aw_iconst (q := 24) dX7_match_23 rfl (by omega) ?_
    refine aw_callV [vI (1), vI (1)] (q := 27) dX7_match_24 rfl ck_X7_fails lk_X7_82 rfl ⟨Nat.le_of_ble_eq_true rfl, Nat.le_of_ble_eq_true rfl⟩ rfl rfl h82 rfl (Nat.le_of_ble_eq_true rfl) (by decide) (m_X7_fails_t h82 (by omega)) rfl (fun _ _ _ h => (Rt_x h).elim) ?_
    rintro v n9 μ9 - ⟨v9, hv9, hn9, hm9, rfl⟩
    obtain rfl := hn9.symm
    obtain rfl := hm9.symm
    obtain rfl := Sum.inl.inj hv9
    refine aw_if_eq (t := 32) (q := 30) dX7_match_27 rfl (by decide) (fun bc2 => ?_) (fun bc2 => ?_)
    · skip
      omega
    · skip
      refine aw_iconst (q := 31) dX7_match_30 rfl (by omega) ?_
      exact aw_iret dX7_match_31 rfl (by decide) (by decide) ⟨rfl, FrR_w (FrR_tr hF0 (FrR_hu FrR_rf (by omega))) (by omega) (by omega), 0, rfl, Or.inl ⟨by omega, MM_o hm0⟩⟩
  · skip
    refine aw_iload_n (q := 11) dX7_match_10 rfl rfl rfl ?_
    refine aw_aload_n (q := 12) dX7_match_11 rfl rfl rfl ?_
    refine aw_get (q := 15) dX7_match_12 rfl fl_X7_189 h82 rfl (fun _ => ?_)
    refine aw_ic_lt (t := 22) (q := 18) dX7_match_15 rfl (by decide) (fun bc3 => ?_) (fun bc3 => ?_)
    · skip
      refine aw_iconst (q := 23) dX7_match_22 rfl (by omega) ?_
      refine aw_iconst (q := 24) dX7_match_23 rfl (by omega) ?_
      refine aw_callV [vI (0), vI (1)] (q := 27) dX7_match_24 rfl ck_X7_fails lk_X7_82 rfl ⟨Nat.le_of_ble_eq_true rfl, Nat.le_of_ble_eq_true rfl⟩ rfl rfl h82 rfl (Nat.le_of_ble_eq_true rfl) (by decide) (m_X7_fails_f h82) rfl (fun _ _ _ h => (Rt_x h).elim) ?_
      rintro v n9 μ9 - ⟨v9, hv9, hn9, hm9, rfl⟩
      obtain rfl := hn9.symm
      obtain rfl := hm9.symm
      obtain rfl := Sum.inl.inj hv9
      refine aw_if_eq (t := 32) (q := 30) dX7_match_27 rfl (by decide) (fun bc4 => ?_) (fun bc4 => ?_)
      · skip
        obtain ⟨s, hx⟩ : ∃ s : Nat, x = (s : Int) := ⟨x.toNat, by omega⟩
        have hxs : x.toNat = s := by omega
        have hs9 : s < sv.1 := by omega
        refine aw_aload_n (q := 33) dX7_match_32 rfl rfl rfl ?_
        refine aw_callV [] (q := 36) dX7_match_33 rfl ck_X7_findWay lk_X7_209 rfl ⟨Nat.le_of_ble_eq_true rfl, Nat.le_of_ble_eq_true rfl⟩ rfl rfl h82 rfl (Nat.le_of_ble_eq_true rfl) (by decide) (m_X7_findWay hm0 hO) rfl (fun _ _ _ h => (Vd_x h).elim) ?_
        rintro v n9 μ9 - ⟨hv9, hn9, hF9, hmw, ds, a9, e1, e2, k82⟩
        obtain rfl := hn9.symm
        obtain rfl := Sum.inl.inj hv9
        have hdg : dgs sv.1 (nmb ds) = ds := by have h9 := dgs_nmb hN e2.1; rw [e1] at h9; exact h9
        obtain ⟨d, hd⟩ : ∃ d : Nat, dgt ds s = d := ⟨_, rfl⟩
        have hnl := nmb_lt hN e2.1
        rw [e1] at hnl
        have hp6 := p6_b hsn
        refine aw_aload_n (q := 37) dX7_match_36 rfl rfl rfl ?_
        refine aw_aload_n (q := 38) dX7_match_37 rfl rfl rfl ?_
        refine aw_get (q := 41) dX7_match_38 rfl fl_X7_207 k82 rfl (fun _ => ?_)
        refine aw_iload_n (q := 42) dX7_match_41 rfl rfl rfl ?_
        refine aw_callV [vI ((nmb ds : Int)), vI (x)] (q := 45) dX7_match_42 rfl ck_X7_digit lk_X7_200 rfl ⟨Nat.le_of_ble_eq_true rfl, Nat.le_of_ble_eq_true rfl⟩ rfl rfl k82 rfl (Nat.le_of_ble_eq_true rfl) (by decide) (m_X7_digit (K := nmb ds) (s := s) rfl (by omega) hx hs9 hmw hO) rfl (fun _ _ _ h => (Rt_x h).elim) ?_
        rintro v n9 μ9 - ⟨v9, hv9, hn9, hm9, rfl⟩
        obtain rfl := hn9.symm
        obtain rfl := hm9.symm
        obtain rfl := Sum.inl.inj hv9
        rw [← dgt_dgs hs9, hdg, hd]
        refine aw_istore_n (q := 46) dX7_match_45 rfl rfl (by decide) ?_
        refine aw_iload_n (q := 47) dX7_match_46 rfl rfl rfl ?_
        refine aw_iconst (q := 48) dX7_match_47 rfl (by omega) ?_
        refine aw_ic_ne (t := 55) (q := 51) dX7_match_48 rfl (by decide) (fun bc5 => ?_) (fun bc5 => ?_)
        · skip
          refine aw_iload_n (q := 56) dX7_match_55 rfl rfl rfl ?_
          exact aw_iret dX7_match_56 rfl (by decide) (by decide) ⟨rfl, FrR_tr (FrR_w hF0 (by omega) (by omega)) hF9, _, rfl, Or.inr ⟨by omega, ds, e1, e2, by rw [hxs, hd]; exact (gi_n (by omega)).symm, hmw⟩⟩
        · skip
          refine aw_iconst (q := 52) dX7_match_51 rfl (by omega) ?_
          refine aw_goto (q := 56) dX7_match_52 (by decide) ?_
          exact aw_iret dX7_match_56 rfl (by decide) (by decide) ⟨rfl, FrR_tr (FrR_w hF0 (by omega) (by omega)) hF9, _, rfl, Or.inr ⟨by omega, ds, e1, e2, by rw [hxs, hd, show d = 5 by omega]; rfl, hmw⟩⟩
      · skip
        omega
    · skip
      refine aw_iconst (q := 19) dX7_match_18 rfl (by omega) ?_
      refine aw_goto (q := 23) dX7_match_19 (by decide) ?_
      refine aw_iconst (q := 24) dX7_match_23 rfl (by omega) ?_
      refine aw_callV [vI (1), vI (1)] (q := 27) dX7_match_24 rfl ck_X7_fails lk_X7_82 rfl ⟨Nat.le_of_ble_eq_true rfl, Nat.le_of_ble_eq_true rfl⟩ rfl rfl h82 rfl (Nat.le_of_ble_eq_true rfl) (by decide) (m_X7_fails_t h82 (by omega)) rfl (fun _ _ _ h => (Rt_x h).elim) ?_
      rintro v n9 μ9 - ⟨v9, hv9, hn9, hm9, rfl⟩
      obtain rfl := hn9.symm
      obtain rfl := hm9.symm
      obtain rfl := Sum.inl.inj hv9
      refine aw_if_eq (t := 32) (q := 30) dX7_match_27 rfl (by decide) (fun bc6 => ?_) (fun bc6 => ?_)
      · skip
        omega
      · skip
        refine aw_iconst (q := 31) dX7_match_30 rfl (by omega) ?_
        exact aw_iret dX7_match_31 rfl (by decide) (by decide) ⟨rfl, FrR_w (FrR_tr hF0 (FrR_hu FrR_rf (by omega))) (by omega) (by omega), 0, rfl, Or.inl ⟨by omega, MM_o hm0⟩⟩
