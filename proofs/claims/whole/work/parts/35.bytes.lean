/-! ===== TrackRows$Bytes: packing (written by m_bytes.py) ===== -/
/-- Bytes at q: count c, next, sound, the row f -/
def BY (μ : AH) (q c : Nat) (nx so : Int) (f : Nat → Int) : Prop := μ q = oO 0 [vR (q + 1), vI (c : Int), vI nx, vI so] ∧ μ (q + 1) = oI 600 f
/-- a row begins with a list -/
def Has (f : Nat → Int) (l : List Int) : Prop := ∀ p, p < l.length → f p = l.getD p 0
theorem Has_s {f : Nat → Int} {l : List Int} {c : Nat} {b : Int} (h : Has f l) (hc : c = l.length) : Has (fu f c b) (l ++ [b]) := by
  intro p hp
  rw [List.length_append, List.length_singleton] at hp
  subst hc
  by_cases e : p = l.length
  · subst e
    rw [fu_s]
    simp
  · rw [fu_n e, h p (by omega)]
    simp only [List.getD_eq_getElem?_getD]
    rw [List.getElem?_append_left (by omega)]
/-- a number's bytes -/
def encF : Nat → Nat → List Int
  | 0, _ => []
  | k + 1, v => if v ≤ 127 then [(v : Int)] else (128 + (v % 128 : Nat) : Int) :: encF k (v / 128)
abbrev enc (v : Nat) : List Int := encF 5 v
def zig (d : Int) : Nat := if 0 ≤ d then (2 * d).toNat else (-2 * d - 1).toNat
theorem zig_p {d : Int} (h : 0 ≤ d) : ((zig d : Nat) : Int) = 2 * d := by unfold zig; rw [if_pos h]; omega
theorem zig_n {d : Int} (h : ¬ 0 ≤ d) : ((zig d : Nat) : Int) = -2 * d - 1 := by unfold zig; rw [if_neg h]; omega
theorem encF_3 {v : Nat} (h : v < 2097152) : (enc v).length ≤ 3 := by
  have e0 : enc v = if v ≤ 127 then [(v : Int)] else (128 + (v % 128 : Nat) : Int) :: encF 4 (v / 128) := rfl
  have e1 : encF 4 (v / 128) = if v / 128 ≤ 127 then [((v / 128 : Nat) : Int)] else (128 + (v / 128 % 128 : Nat) : Int) :: encF 3 (v / 128 / 128) := rfl
  have e2 : encF 3 (v / 128 / 128) = if v / 128 / 128 ≤ 127 then [((v / 128 / 128 : Nat) : Int)] else (128 + (v / 128 / 128 % 128 : Nat) : Int) :: encF 2 (v / 128 / 128 / 128) := rfl
  rw [e0]
  split
  · simp
  · rw [e1]
    split
    · simp
    · rw [e2, if_pos (by omega)]
      simp
/-- the packed places below k -/
def prv (f : Nat → Int) (p : Nat) : Int := if p = 0 then 0 else f (p - 1)
def packP (f g h : Nat → Int) : Nat → List Int
  | 0 => []
  | p + 1 => ((packP f g h p ++ enc (zig (f p - prv f p))) ++ enc (zig (g p - prv g p))) ++ enc (zig (h p - prv h p))
theorem and127 (v : Nat) : v &&& 127 = v % 128 := Nat.and_two_pow_sub_one_eq_mod v 7
set_option maxHeartbeats 4000000 in
set_option maxRecDepth 100000 in
theorem m_X0_append {n : Nat} {μ : AH} {q c : Nat} {nx so : Int} {b : Nat → Int} {x : Int} (hc : c < 600) (hB : BY μ q c nx so b) : AMet YX0_append [vR q, vI (x)] n μ (Vd (fun n' μ' => n' = n ∧ BY μ' q (c + 1) nx so (fu b c x) ∧ Fr [q, q + 1] μ μ')) := by
  refine AMet.of (by decide) rfl (Nat.le_of_ble_eq_true rfl) ?_
  refine aw_aload_n (q := 1) dX0_append_0 rfl rfl rfl ?_
  refine aw_get (q := 4) dX0_append_1 rfl fl_X0_15 hB.1 rfl (fun _ => ?_)
  refine aw_sipush (q := 7) dX0_append_4 rfl (by decide) (by omega) ?_
  refine aw_ic_ge (t := 30) (q := 10) dX0_append_7 rfl (by decide) (fun b1 => ?_) (fun b1 => ?_)
  · skip
    exact absurd b1 (by omega)
  · skip
    refine aw_aload_n (q := 11) dX0_append_10 rfl rfl rfl ?_
    refine aw_get (q := 14) dX0_append_11 rfl fl_X0_9 hB.1 rfl (fun _ => ?_)
    refine aw_aload_n (q := 15) dX0_append_14 rfl rfl rfl ?_
    refine aw_get (q := 18) dX0_append_15 rfl fl_X0_15 hB.1 rfl (fun _ => ?_)
    refine aw_iload_n (q := 19) dX0_append_18 rfl rfl rfl ?_
    refine aw_iastore (j := c) (q := 20) dX0_append_19 rfl hB.2 (by omega) (by omega) ?_
    refine aw_aload_n (q := 21) dX0_append_20 rfl rfl rfl ?_
    refine aw_dup (q := 22) dX0_append_21 rfl rfl ?_
    refine aw_get (q := 25) dX0_append_22 rfl fl_X0_15 ((hu_n (by omega)).trans hB.1) rfl (fun _ => ?_)
    refine aw_iconst (q := 26) dX0_append_25 rfl (by omega) ?_
    refine aw_iadd (q := 27) dX0_append_26 rfl (by omega) ?_
    refine aw_put (q := 30) dX0_append_27 rfl fp_X0_15 ((hu_n (by omega)).trans hB.1) (Nat.le_of_ble_eq_true rfl) trivial ?_
    exact aw_vret dX0_append_30 rfl (by decide) (by decide) ⟨rfl, rfl, ⟨hu_s, ((hu_n (by omega)).trans hu_s)⟩, (Fr_hu (Fr_hu Fr_rf (by simp)) (by simp))⟩
set_option maxHeartbeats 4000000 in
set_option maxRecDepth 100000 in
theorem m_X0_appendDifference {n : Nat} {μ : AH} {q c : Nat} {nx so : Int} {b : Nat → Int} {d : Int} {l : List Int} (hd : -1000000 ≤ d ∧ d ≤ 1000000) (hc : c = l.length) (hh : Has b l) (hl : (l ++ enc (zig d)).length ≤ 600) (hB : BY μ q c nx so b) : AMet YX0_appendDifference [vR q, vI (d)] n μ (Vd (fun n' μ' => n' = n ∧ ∃ b' : Nat → Int, BY μ' q (l ++ enc (zig d)).length nx so b' ∧ Has b' (l ++ enc (zig d)) ∧ Fr [q, q + 1] μ μ')) := by
  refine AMet.of (by decide) rfl (Nat.le_of_ble_eq_true rfl) ?_
  have hz : zig d < 2097152 := by unfold zig; split <;> omega
  have loop : ∀ (j v : Nat) (rx : Int) (μ1 : AH) (c1 : Nat) (b1 : Nat → Int) (l1 : List Int), v < 128 ^ j ∧ v < 2097152 ∧ (0 < v ∨ 0 < j) → rx = (v : Int) → BY μ1 q c1 nx so b1 → Has b1 l1 → c1 = l1.length → l ++ enc (zig d) = l1 ++ encF j v → Fr [q, q + 1] μ μ1 → AW YX0_appendDifference none (Vd (fun n' μ' => n' = n ∧ ∃ b' : Nat → Int, BY μ' q (l ++ enc (zig d)).length nx so b' ∧ Has b' (l ++ enc (zig d)) ∧ Fr [q, q + 1] μ μ')) 17 [some (vR q), some (vI d), some (vI rx)] [] n μ1 0 0 := by
    intro j
    induction j with
    | zero =>
      intro v rx μ1 c1 b1 l1 hj
      have h0 : (128 : Nat) ^ 0 = 1 := rfl
      omega
    | succ j ih =>
      intro v rx μ1 c1 b1 l1 hj hrx hB1 hh hc1 heq hfr
      refine aw_iload_n (q := 18) dX0_appendDifference_17 rfl rfl rfl ?_
      refine aw_bipush (q := 20) dX0_appendDifference_18 rfl (by decide) (by omega) ?_
      refine aw_ic_le (t := 43) (q := 23) dX0_appendDifference_20 rfl (by decide) (fun b1 => ?_) (fun b1 => ?_)
      · skip
        have e6 : encF (j + 1) v = [(v : Int)] := by show (if v ≤ 127 then _ else _) = _; rw [if_pos (by omega)]
        have hl2 := hl
        rw [heq, e6, List.length_append, ← hc1] at hl2
        have hl3 : c1 + 1 ≤ 600 := hl2
        refine aw_aload_n (q := 44) dX0_appendDifference_43 rfl rfl rfl ?_
        refine aw_iload_n (q := 45) dX0_appendDifference_44 rfl rfl rfl ?_
        refine aw_callV [vI (rx)] (q := 48) dX0_appendDifference_45 rfl ck_X0_append lk_X0_42 rfl ⟨Nat.le_of_ble_eq_true rfl, Nat.le_of_ble_eq_true rfl⟩ rfl rfl hB1.1 rfl (Nat.le_of_ble_eq_true rfl) (by decide) (m_X0_append (by omega) hB1) rfl (fun _ _ _ h => (Vd_x h).elim) ?_
        rintro v n9 μ9 - ⟨hv9, rfl, hB2, hF2⟩
        obtain rfl := Sum.inl.inj hv9
        exact aw_vret dX0_appendDifference_48 rfl (by decide) (by decide) ⟨rfl, rfl, _, by rw [heq, e6, List.length_append, ← hc1]; exact hB2, by rw [heq, e6, ← hrx]; exact Has_s hh hc1, Fr_tr hfr hF2 (fun a h => h)⟩
      · skip
        have e5 : encF (j + 1) v = (128 + (v % 128 : Nat) : Int) :: encF j (v / 128) := by show (if v ≤ 127 then _ else _) = _; rw [if_neg (by omega)]
        have hlen : (encF (j + 1) v).length = 1 + (encF j (v / 128)).length := by rw [e5]; simp; omega
        have hl2 := hl
        rw [heq, List.length_append, ← hc1, hlen] at hl2
        subst hrx
        refine aw_aload_n (q := 24) dX0_appendDifference_23 rfl rfl rfl ?_
        refine aw_sipush (q := 27) dX0_appendDifference_24 rfl (by decide) (by omega) ?_
        refine aw_iload_n (q := 28) dX0_appendDifference_27 rfl rfl rfl ?_
        refine aw_bipush (q := 30) dX0_appendDifference_28 rfl (by decide) (by omega) ?_
        refine aw_iand (a := v) (b := 127) (q := 31) dX0_appendDifference_30 rfl (by rw [and127]; omega) ?_
        refine aw_iadd (q := 32) dX0_appendDifference_31 rfl (by rw [and127]; omega) ?_
        refine aw_callV [vI (128 + ((v &&& 127 : Nat) : Int))] (q := 35) dX0_appendDifference_32 rfl ck_X0_append lk_X0_42 rfl ⟨Nat.le_of_ble_eq_true rfl, Nat.le_of_ble_eq_true rfl⟩ rfl rfl hB1.1 rfl (Nat.le_of_ble_eq_true rfl) (by decide) (m_X0_append (by omega) hB1) rfl (fun _ _ _ h => (Vd_x h).elim) ?_
        rintro v n9 μ9 - ⟨hv9, rfl, hB2, hF2⟩
        obtain rfl := Sum.inl.inj hv9
        refine aw_iload_n (q := 36) dX0_appendDifference_35 rfl rfl rfl ?_
        refine aw_bipush (q := 38) dX0_appendDifference_36 rfl (by decide) (by omega) ?_
        refine aw_ishr (a := v) (b := 7) (q := 39) dX0_appendDifference_38 rfl (by omega) ?_
        refine aw_istore_n (q := 40) dX0_appendDifference_39 rfl rfl (by decide) ?_
        refine aw_goto (q := 17) dX0_appendDifference_40 (by decide) ?_
        exact ih (v / 128) _ _ _ _ (l1 ++ [(128 + (v % 128 : Nat) : Int)]) (by omega) (by rw [show (2 : Nat) ^ 7 = 128 from rfl]) hB2 (by rw [and127]; exact Has_s hh hc1) (by rw [List.length_append, hc1]; rfl) (by rw [heq, e5]; simp) (Fr_tr hfr hF2 (fun a h => h))
  refine aw_iload_n (q := 1) dX0_appendDifference_0 rfl rfl rfl ?_
  refine aw_if_lt (t := 10) (q := 4) dX0_appendDifference_1 rfl (by decide) (fun b1 => ?_) (fun b1 => ?_)
  · skip
    refine aw_bipush (q := 12) dX0_appendDifference_10 rfl (by decide) (by omega) ?_
    refine aw_iload_n (q := 13) dX0_appendDifference_12 rfl rfl rfl ?_
    refine aw_imul (q := 14) dX0_appendDifference_13 rfl (by omega) ?_
    refine aw_iconst (q := 15) dX0_appendDifference_14 rfl (by omega) ?_
    refine aw_isub (q := 16) dX0_appendDifference_15 rfl (by omega) ?_
    refine aw_istore_n (q := 17) dX0_appendDifference_16 rfl rfl (by decide) ?_
    exact loop 5 (zig d) _ _ _ _ l (by omega) (by rw [zig_n (by omega)]) hB hh hc rfl Fr_rf
  · skip
    refine aw_iconst (q := 5) dX0_appendDifference_4 rfl (by omega) ?_
    refine aw_iload_n (q := 6) dX0_appendDifference_5 rfl rfl rfl ?_
    refine aw_imul (q := 7) dX0_appendDifference_6 rfl (by omega) ?_
    refine aw_goto (q := 16) dX0_appendDifference_7 (by decide) ?_
    refine aw_istore_n (q := 17) dX0_appendDifference_16 rfl rfl (by decide) ?_
    exact loop 5 (zig d) _ _ _ _ l (by omega) (by rw [zig_p (by omega)]) hB hh hc rfl Fr_rf
