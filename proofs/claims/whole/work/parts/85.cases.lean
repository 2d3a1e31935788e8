/-! ===== the law, case by case (written by m_law.py) ===== -/
abbrev YL_law : AY := (yL_law, cL_law, 8, some .boolean, [], room_1)
/-- before every call: class and model say the same -/
def INV (B : Int) (μ : AH) : Prop := ∃ (th : Int) (D : Nat) (dv : Nat → DVt) (Fn : Nat) (fv : Nat → FVt) (sv : SVt) (pk fd : Nat × (Nat → Int)) (spd lim : Int) (o9 : Nat → Int), CH μ D dv Fn fv sv pk fd spd lim ∧ MM μ th D dv Fn fv sv pk fd spd lim ∧ COk B D dv Fn fv sv pk fd spd lim ∧ μ 101 = oL 1 o9
def QL : AQ := Rt (fun v _ _ => v = vI 1)
theorem MM_82 {μ : AH} {th : Int} {D : Nat} {dv : Nat → DVt} {Fn : Nat} {fv : Nat → FVt} {sv : SVt} {pk fd : Nat × (Nat → Int)} {spd lim : Int} (hm : MM μ th D dv Fn fv sv pk fd spd lim) : ∃ fs, μ 82 = oO 7 fs := by
  obtain ⟨at7, ls7, wy7, c7, t7, F7, G7, H7, k7, a7, b7, e7, X7, Y7, y7, o7, r7, s7, u7, v7, w7, h82, _⟩ := hm
  exact ⟨_, h82⟩
theorem b01 {cs : List (String × Int)} {o9 o9' : Nat → Int} {o : AOut} {k9 : Int} {μ1 μ2 μ3 : AH} (hq : (∃ r : Int, o = .inl (some (vI r)) ∧ (r = 0 ∨ r = 1)) ∨ (∃ E, o = .inr E)) (hW : WR cs o9 o μ1 (vI k9) μ2) (hF : FrR 82 101 μ2 μ3) (h : μ3 101 = oL 1 o9') (hc : ∀ E c, (E, c) ∈ cs → c ≠ 0) (h0 : k9 = 0) : o9' 0 = 0 ∨ o9' 0 = 1 := by
  rcases hW with ⟨r, h1, h2, h3⟩ | ⟨E, c, h1, h2, h3, h4⟩
  · have e : μ3 101 = oL 1 (fu o9 0 r) := (hF 101 (by omega)).trans (by rw [h3]; exact hu_s)
    rw [h] at e
    have e2 : o9' = fu o9 0 r := (Prod.mk.inj (Sum.inl.inj (Sum.inr.inj (Sum.inr.inj e)))).2
    rw [e2, fu_s]
    rcases hq with ⟨r', q1, q2⟩ | ⟨E, q1⟩
    · rw [q1] at h1
      rcases h1 with h1 | h1
      · cases h1; exact q2
      · cases h1
    · rw [q1] at h1
      rcases h1 with h1 | h1 <;> cases h1
  · cases h3
    exact absurd h0 (hc E _ h1)
theorem INV_s {B : Int} {μ : AH} (h : INV B μ) : INV (B + 1) μ := by
  obtain ⟨th, D, dv, Fn, fv, sv, pk, fd, spd, lim, o9, hC, hm, hO, h101⟩ := h
  exact ⟨th, D, dv, Fn, fv, sv, pk, fd, spd, lim, o9, hC, hm, ko_B hO, h101⟩
set_option maxHeartbeats 4000000 in
set_option maxRecDepth 100000 in
theorem lc_device {L : Nat} {f : Nat → Int} {μ : AH} {t : Nat} {ix : Int} (hix : ix = ((5 * t : Nat) : Int)) (ht : 5 * t + 5 ≤ L) (hL : L ≤ 2560) (hI : INV (t : Int) μ) (K : ∀ μ' : AH, INV ((t : Int) + 1) μ' → AW YL_law (some (L, f)) QL 1775 [some (vS), some (vR 0), some (vR 82), some (vR 101), some (vI (ix)), none, none, none] [] 102 μ' (200 + 10 * (t + 1)) (10000 + 60 * (t + 1))) : AW YL_law (some (L, f)) QL 152 [some (vS), some (vR 0), some (vR 82), some (vR 101), some (vI (ix)), none, none, none] [] 102 μ (200 + 10 * t) (10000 + 60 * t) := by
  obtain ⟨th, D, dv, Fn, fv, sv, pk, fd, spd, lim, o9, hC, hm, hO, h101⟩ := hI
  refine aw_aload_n (q := 153) dL_law_152 rfl rfl rfl ?_
  refine aw_aload_n (q := 154) dL_law_153 rfl rfl rfl ?_
  refine aw_callSH [vR 0, vR 101] (q := 157) dL_law_154 rfl ck_L_device lk_L_99 (List.cons_ne_nil _ _) ⟨Nat.le_of_ble_eq_true rfl, Nat.le_of_ble_eq_true rfl⟩ rfl rfl (Nat.le_of_ble_eq_true rfl) ⟨show 200 + 10 * t + 1 ≤ 601024 by omega, show 10000 + 60 * t + 6 ≤ 7293034 by omega⟩ (lf_device hC hO h101) (fun _ _ _ h => Rt_x h) ?_
  rintro v n9 μ2 - ⟨v9, hv9, hn9, k9, hk9, hfr, o, μ1, hQ, hW⟩
  obtain rfl := hn9
  subst hk9
  obtain rfl := Sum.inl.inj hv9
  have hm2 : MM μ2 th D dv Fn fv sv pk fd spd lim := MM_k hm (fun b h1 h2 => hfr b h1 (by omega))
  obtain ⟨fs2, h822⟩ := MM_82 hm2
  refine aw_istore (q := 159) dL_law_157 rfl (by decide) ?_
  refine aw_aload_n (q := 160) dL_law_159 rfl rfl rfl ?_
  refine aw_callV [] (q := 163) dL_law_160 rfl ck_X7_device lk_L_104 rfl ⟨Nat.le_of_ble_eq_true rfl, Nat.le_of_ble_eq_true rfl⟩ rfl rfl h822 rfl (Nat.le_of_ble_eq_true rfl) ⟨show 200 + 10 * t + 1 + 0 ≤ 601024 by omega, show 10000 + 60 * t + 6 + 0 ≤ 7293034 by omega⟩ (m_X7_device hm2 hO) rfl (fun E n1 μ9 h => (FIN_x (fin_device hC hm hO h101 hQ hW h)).elim) ?_
  rintro v n9 μ3 - hQm
  obtain ⟨b, hb, th', D', dv', Fn', fv', sv', pk', fd', spd', lim', o9', hth, hC', hm', hO', h101', hk0⟩ := fin_device hC hm hO h101 hQ hW hQm
  have hn9 := hQm.1
  obtain rfl := hn9
  obtain rfl := Sum.inl.inj hb
  obtain ⟨fs3, h823⟩ := MM_82 hm'
  refine aw_istore (q := 165) dL_law_163 rfl (by decide) ?_
  refine aw_ls (ls := [some (vS), some (vR 0), some (vR 82), some (vR 101), some (vI (ix)), some (vI (k9)), some (vI (b)), none]) ⟨rfl, ⟨rfl, ⟨rfl, ⟨rfl, ⟨rfl, ⟨rfl, ⟨rfl, trivial⟩⟩⟩⟩⟩⟩⟩ ?_
  refine aw_aload_n (q := 166) dL_law_165 rfl rfl rfl ?_
  refine aw_callV [] (q := 169) dL_law_166 rfl ck_X7_thrown lk_L_105 rfl ⟨Nat.le_of_ble_eq_true rfl, Nat.le_of_ble_eq_true rfl⟩ rfl rfl h823 rfl (Nat.le_of_ble_eq_true rfl) ⟨show 200 + 10 * t + 1 + 0 ≤ 601024 by omega, show 10000 + 60 * t + 6 + 0 ≤ 7293034 by omega⟩ (m_X7_thrown hm' hO') rfl (fun _ _ _ h => (Rt_x h).elim) ?_
  rintro v n9 μ9 - ⟨v9, hv9, hn9, hm9, rfl⟩
  obtain rfl := hn9.symm
  obtain rfl := hm9.symm
  obtain rfl := Sum.inl.inj hv9
  refine aw_iload (q := 171) dL_law_169 rfl rfl ?_
  refine aw_ic_eq (t := 176) (q := 174) dL_law_171 rfl (by decide) (fun bc1 => ?_) (fun bc1 => ?_)
  · skip
    refine aw_iload (q := 178) dL_law_176 rfl rfl ?_
    refine aw_if_ne (t := 193) (q := 181) dL_law_178 rfl (by decide) (fun bc2 => ?_) (fun bc2 => ?_)
    · skip
      refine aw_goto (q := 1775) dL_law_193 (by decide) ?_
      refine aw_ls (ls := [some (vS), some (vR 0), some (vR 82), some (vR 101), some (vI (ix)), none, none, none]) ⟨rfl, ⟨rfl, ⟨rfl, ⟨rfl, ⟨rfl, trivial⟩⟩⟩⟩⟩ ?_
      exact aw_widen (show 200 + 10 * t + 1 ≤ 200 + 10 * (t + 1) by omega) (show 10000 + 60 * t + 6 ≤ 10000 + 60 * (t + 1) by omega) (K _ ⟨th', D', dv', Fn', fv', sv', pk', fd', spd', lim', o9', hC', hm', hO', h101'⟩)
    · skip
      have hk1 := hk0 (by omega)
      refine aw_aload_n (q := 182) dL_law_181 rfl rfl rfl ?_
      refine aw_iconst (q := 183) dL_law_182 rfl (by omega) ?_
      refine aw_laload (j := 0) (q := 184) dL_law_183 rfl h101' (by omega) (by omega) (fun rx3 => ?_)
      refine aw_iload (q := 186) dL_law_184 rfl rfl ?_
      refine aw_i2l (q := 187) dL_law_186 rfl ?_
      refine aw_lcmp (q := 188) dL_law_187 rfl ?_
      refine aw_if_eq (t := 193) (q := 191) dL_law_188 rfl (by decide) (fun bc4 => ?_) (fun bc4 => ?_)
      · skip
        replace bc4 := cmpz_eq.mp bc4
        refine aw_goto (q := 1775) dL_law_193 (by decide) ?_
        refine aw_ls (ls := [some (vS), some (vR 0), some (vR 82), some (vR 101), some (vI (ix)), none, none, none]) ⟨rfl, ⟨rfl, ⟨rfl, ⟨rfl, ⟨rfl, trivial⟩⟩⟩⟩⟩ ?_
        exact aw_widen (show 200 + 10 * t + 1 ≤ 200 + 10 * (t + 1) by omega) (show 10000 + 60 * t + 6 ≤ 10000 + 60 * (t + 1) by omega) (K _ ⟨th', D', dv', Fn', fv', sv', pk', fd', spd', lim', o9', hC', hm', hO', h101'⟩)
      · skip
        replace bc4 := mt cmpz_eq.mpr bc4
        omega
  · skip
    omega
set_option maxHeartbeats 4000000 in
set_option maxRecDepth 100000 in
theorem lc_place {L : Nat} {f : Nat → Int} {μ : AH} {t : Nat} {ix : Int} (hix : ix = ((5 * t : Nat) : Int)) (ht : 5 * t + 5 ≤ L) (hL : L ≤ 2560) (hI : INV (t : Int) μ) (K : ∀ μ' : AH, INV ((t : Int) + 1) μ' → AW YL_law (some (L, f)) QL 1775 [some (vS), some (vR 0), some (vR 82), some (vR 101), some (vI (ix)), none, none, none] [] 102 μ' (200 + 10 * (t + 1)) (10000 + 60 * (t + 1))) : AW YL_law (some (L, f)) QL 196 [some (vS), some (vR 0), some (vR 82), some (vR 101), some (vI (ix)), none, none, none] [] 102 μ (200 + 10 * t) (10000 + 60 * t) := by
  obtain ⟨th, D, dv, Fn, fv, sv, pk, fd, spd, lim, o9, hC, hm, hO, h101⟩ := hI
  refine aw_aload_n (q := 197) dL_law_196 rfl rfl rfl ?_
  refine aw_aload_s (q := 198) dL_law_197 rfl rfl rfl ?_
  refine aw_iload (q := 200) dL_law_198 rfl rfl ?_
  refine aw_iconst (q := 201) dL_law_200 rfl (by omega) ?_
  refine aw_iadd (q := 202) dL_law_201 rfl (by omega) ?_
  refine aw_sld (j := 5 * t + 1) (q := 203) dL_law_202 rfl (by omega) (by omega) (fun rx1 => ?_)
  refine aw_aload_s (q := 204) dL_law_203 rfl rfl rfl ?_
  refine aw_iload (q := 206) dL_law_204 rfl rfl ?_
  refine aw_iconst (q := 207) dL_law_206 rfl (by omega) ?_
  refine aw_iadd (q := 208) dL_law_207 rfl (by omega) ?_
  refine aw_sld (j := 5 * t + 2) (q := 209) dL_law_208 rfl (by omega) (by omega) (fun rx2 => ?_)
  refine aw_aload_s (q := 210) dL_law_209 rfl rfl rfl ?_
  refine aw_iload (q := 212) dL_law_210 rfl rfl ?_
  refine aw_iconst (q := 213) dL_law_212 rfl (by omega) ?_
  refine aw_iadd (q := 214) dL_law_213 rfl (by omega) ?_
  refine aw_sld (j := 5 * t + 3) (q := 215) dL_law_214 rfl (by omega) (by omega) (fun rx3 => ?_)
  refine aw_aload_s (q := 216) dL_law_215 rfl rfl rfl ?_
  refine aw_iload (q := 218) dL_law_216 rfl rfl ?_
  refine aw_iconst (q := 219) dL_law_218 rfl (by omega) ?_
  refine aw_iadd (q := 220) dL_law_219 rfl (by omega) ?_
  refine aw_sld (j := 5 * t + 4) (q := 221) dL_law_220 rfl (by omega) (by omega) (fun rx4 => ?_)
  refine aw_aload_n (q := 222) dL_law_221 rfl rfl rfl ?_
  refine aw_callSH [vR 0, vI (f (5 * t + 1)), vI (f (5 * t + 2)), vI (f (5 * t + 3)), vI (f (5 * t + 4)), vR 101] (q := 225) dL_law_222 rfl ck_L_place lk_L_108 (List.cons_ne_nil _ _) ⟨Nat.le_of_ble_eq_true rfl, Nat.le_of_ble_eq_true rfl⟩ rfl rfl (Nat.le_of_ble_eq_true rfl) ⟨show 200 + 10 * t + 4 ≤ 601024 by omega, show 10000 + 60 * t + 24 ≤ 7293034 by omega⟩ (lf_place (by omega) hC hO h101) (fun _ _ _ h => Rt_x h) ?_
  rintro v n9 μ2 - ⟨v9, hv9, hn9, k9, hk9, hfr, o, μ1, hQ, hW⟩
  obtain rfl := hn9
  subst hk9
  obtain rfl := Sum.inl.inj hv9
  have hm2 : MM μ2 th D dv Fn fv sv pk fd spd lim := MM_k hm (fun b h1 h2 => hfr b h1 (by omega))
  obtain ⟨fs2, h822⟩ := MM_82 hm2
  refine aw_istore (q := 227) dL_law_225 rfl (by decide) ?_
  refine aw_aload_n (q := 228) dL_law_227 rfl rfl rfl ?_
  refine aw_aload_s (q := 229) dL_law_228 rfl rfl rfl ?_
  refine aw_iload (q := 231) dL_law_229 rfl rfl ?_
  refine aw_iconst (q := 232) dL_law_231 rfl (by omega) ?_
  refine aw_iadd (q := 233) dL_law_232 rfl (by omega) ?_
  refine aw_sld (j := 5 * t + 1) (q := 234) dL_law_233 rfl (by omega) (by omega) (fun rx5 => ?_)
  refine aw_aload_s (q := 235) dL_law_234 rfl rfl rfl ?_
  refine aw_iload (q := 237) dL_law_235 rfl rfl ?_
  refine aw_iconst (q := 238) dL_law_237 rfl (by omega) ?_
  refine aw_iadd (q := 239) dL_law_238 rfl (by omega) ?_
  refine aw_sld (j := 5 * t + 2) (q := 240) dL_law_239 rfl (by omega) (by omega) (fun rx6 => ?_)
  refine aw_aload_s (q := 241) dL_law_240 rfl rfl rfl ?_
  refine aw_iload (q := 243) dL_law_241 rfl rfl ?_
  refine aw_iconst (q := 244) dL_law_243 rfl (by omega) ?_
  refine aw_iadd (q := 245) dL_law_244 rfl (by omega) ?_
  refine aw_sld (j := 5 * t + 3) (q := 246) dL_law_245 rfl (by omega) (by omega) (fun rx7 => ?_)
  refine aw_aload_s (q := 247) dL_law_246 rfl rfl rfl ?_
  refine aw_iload (q := 249) dL_law_247 rfl rfl ?_
  refine aw_iconst (q := 250) dL_law_249 rfl (by omega) ?_
  refine aw_iadd (q := 251) dL_law_250 rfl (by omega) ?_
  refine aw_sld (j := 5 * t + 4) (q := 252) dL_law_251 rfl (by omega) (by omega) (fun rx8 => ?_)
  refine aw_callV [vI (f (5 * t + 1)), vI (f (5 * t + 2)), vI (f (5 * t + 3)), vI (f (5 * t + 4))] (q := 255) dL_law_252 rfl ck_X7_place lk_L_111 rfl ⟨Nat.le_of_ble_eq_true rfl, Nat.le_of_ble_eq_true rfl⟩ rfl rfl h822 rfl (Nat.le_of_ble_eq_true rfl) ⟨show 200 + 10 * t + 4 + 0 ≤ 601024 by omega, show 10000 + 60 * t + 24 + 0 ≤ 7293034 by omega⟩ (m_X7_place (by omega) hm2 hO) rfl (fun E n1 μ9 h => (FIN_x (fin_place hC hm hO h101 hQ hW h)).elim) ?_
  rintro v n9 μ3 - hQm
  obtain ⟨b, hb, th', D', dv', Fn', fv', sv', pk', fd', spd', lim', o9', hth, hC', hm', hO', h101', hk0⟩ := fin_place hC hm hO h101 hQ hW hQm
  have hn9 := hQm.1
  obtain rfl := hn9
  obtain rfl := Sum.inl.inj hb
  obtain ⟨fs3, h823⟩ := MM_82 hm'
  refine aw_istore (q := 257) dL_law_255 rfl (by decide) ?_
  refine aw_ls (ls := [some (vS), some (vR 0), some (vR 82), some (vR 101), some (vI (ix)), some (vI (k9)), some (vI (b)), none]) ⟨rfl, ⟨rfl, ⟨rfl, ⟨rfl, ⟨rfl, ⟨rfl, ⟨rfl, trivial⟩⟩⟩⟩⟩⟩⟩ ?_
  refine aw_aload_n (q := 258) dL_law_257 rfl rfl rfl ?_
  refine aw_callV [] (q := 261) dL_law_258 rfl ck_X7_thrown lk_L_105 rfl ⟨Nat.le_of_ble_eq_true rfl, Nat.le_of_ble_eq_true rfl⟩ rfl rfl h823 rfl (Nat.le_of_ble_eq_true rfl) ⟨show 200 + 10 * t + 4 + 0 ≤ 601024 by omega, show 10000 + 60 * t + 24 + 0 ≤ 7293034 by omega⟩ (m_X7_thrown hm' hO') rfl (fun _ _ _ h => (Rt_x h).elim) ?_
  rintro v n9 μ9 - ⟨v9, hv9, hn9, hm9, rfl⟩
  obtain rfl := hn9.symm
  obtain rfl := hm9.symm
  obtain rfl := Sum.inl.inj hv9
  refine aw_iload (q := 263) dL_law_261 rfl rfl ?_
  refine aw_ic_eq (t := 268) (q := 266) dL_law_263 rfl (by decide) (fun bc9 => ?_) (fun bc9 => ?_)
  · skip
    refine aw_iload (q := 270) dL_law_268 rfl rfl ?_
    refine aw_if_ne (t := 285) (q := 273) dL_law_270 rfl (by decide) (fun bc10 => ?_) (fun bc10 => ?_)
    · skip
      refine aw_goto (q := 1775) dL_law_285 (by decide) ?_
      refine aw_ls (ls := [some (vS), some (vR 0), some (vR 82), some (vR 101), some (vI (ix)), none, none, none]) ⟨rfl, ⟨rfl, ⟨rfl, ⟨rfl, ⟨rfl, trivial⟩⟩⟩⟩⟩ ?_
      exact aw_widen (show 200 + 10 * t + 4 ≤ 200 + 10 * (t + 1) by omega) (show 10000 + 60 * t + 24 ≤ 10000 + 60 * (t + 1) by omega) (K _ ⟨th', D', dv', Fn', fv', sv', pk', fd', spd', lim', o9', hC', hm', hO', h101'⟩)
    · skip
      have hk1 := hk0 (by omega)
      refine aw_aload_n (q := 274) dL_law_273 rfl rfl rfl ?_
      refine aw_iconst (q := 275) dL_law_274 rfl (by omega) ?_
      refine aw_laload (j := 0) (q := 276) dL_law_275 rfl h101' (by omega) (by omega) (fun rx11 => ?_)
      refine aw_iload (q := 278) dL_law_276 rfl rfl ?_
      refine aw_i2l (q := 279) dL_law_278 rfl ?_
      refine aw_lcmp (q := 280) dL_law_279 rfl ?_
      refine aw_if_eq (t := 285) (q := 283) dL_law_280 rfl (by decide) (fun bc12 => ?_) (fun bc12 => ?_)
      · skip
        replace bc12 := cmpz_eq.mp bc12
        refine aw_goto (q := 1775) dL_law_285 (by decide) ?_
        refine aw_ls (ls := [some (vS), some (vR 0), some (vR 82), some (vR 101), some (vI (ix)), none, none, none]) ⟨rfl, ⟨rfl, ⟨rfl, ⟨rfl, ⟨rfl, trivial⟩⟩⟩⟩⟩ ?_
        exact aw_widen (show 200 + 10 * t + 4 ≤ 200 + 10 * (t + 1) by omega) (show 10000 + 60 * t + 24 ≤ 10000 + 60 * (t + 1) by omega) (K _ ⟨th', D', dv', Fn', fv', sv', pk', fd', spd', lim', o9', hC', hm', hO', h101'⟩)
      · skip
        replace bc12 := mt cmpz_eq.mpr bc12
        omega
  · skip
    omega
set_option maxHeartbeats 4000000 in
set_option maxRecDepth 100000 in
theorem lc_has {L : Nat} {f : Nat → Int} {μ : AH} {t : Nat} {ix : Int} (hix : ix = ((5 * t : Nat) : Int)) (ht : 5 * t + 5 ≤ L) (hL : L ≤ 2560) (hI : INV (t : Int) μ) (K : ∀ μ' : AH, INV ((t : Int) + 1) μ' → AW YL_law (some (L, f)) QL 1775 [some (vS), some (vR 0), some (vR 82), some (vR 101), some (vI (ix)), none, none, none] [] 102 μ' (200 + 10 * (t + 1)) (10000 + 60 * (t + 1))) : AW YL_law (some (L, f)) QL 288 [some (vS), some (vR 0), some (vR 82), some (vR 101), some (vI (ix)), none, none, none] [] 102 μ (200 + 10 * t) (10000 + 60 * t) := by
  obtain ⟨th, D, dv, Fn, fv, sv, pk, fd, spd, lim, o9, hC, hm, hO, h101⟩ := hI
  refine aw_aload_n (q := 289) dL_law_288 rfl rfl rfl ?_
  refine aw_aload_s (q := 290) dL_law_289 rfl rfl rfl ?_
  refine aw_iload (q := 292) dL_law_290 rfl rfl ?_
  refine aw_iconst (q := 293) dL_law_292 rfl (by omega) ?_
  refine aw_iadd (q := 294) dL_law_293 rfl (by omega) ?_
  refine aw_sld (j := 5 * t + 1) (q := 295) dL_law_294 rfl (by omega) (by omega) (fun rx1 => ?_)
  refine aw_aload_s (q := 296) dL_law_295 rfl rfl rfl ?_
  refine aw_iload (q := 298) dL_law_296 rfl rfl ?_
  refine aw_iconst (q := 299) dL_law_298 rfl (by omega) ?_
  refine aw_iadd (q := 300) dL_law_299 rfl (by omega) ?_
  refine aw_sld (j := 5 * t + 2) (q := 301) dL_law_300 rfl (by omega) (by omega) (fun rx2 => ?_)
  refine aw_aload_n (q := 302) dL_law_301 rfl rfl rfl ?_
  refine aw_callSH [vR 0, vI (f (5 * t + 1)), vI (f (5 * t + 2)), vR 101] (q := 305) dL_law_302 rfl ck_L_has lk_L_112 (List.cons_ne_nil _ _) ⟨Nat.le_of_ble_eq_true rfl, Nat.le_of_ble_eq_true rfl⟩ rfl rfl (Nat.le_of_ble_eq_true rfl) ⟨show 200 + 10 * t + 2 ≤ 601024 by omega, show 10000 + 60 * t + 12 ≤ 7293034 by omega⟩ (lf_has hC hO h101) (fun _ _ _ h => Rt_x h) ?_
  rintro v n9 μ2 - ⟨v9, hv9, hn9, k9, hk9, hfr, o, μ1, hQ, hW⟩
  obtain rfl := hn9
  subst hk9
  obtain rfl := Sum.inl.inj hv9
  have hm2 : MM μ2 th D dv Fn fv sv pk fd spd lim := MM_k hm (fun b h1 h2 => hfr b h1 (by omega))
  obtain ⟨fs2, h822⟩ := MM_82 hm2
  refine aw_istore (q := 307) dL_law_305 rfl (by decide) ?_
  refine aw_aload_n (q := 308) dL_law_307 rfl rfl rfl ?_
  refine aw_aload_s (q := 309) dL_law_308 rfl rfl rfl ?_
  refine aw_iload (q := 311) dL_law_309 rfl rfl ?_
  refine aw_iconst (q := 312) dL_law_311 rfl (by omega) ?_
  refine aw_iadd (q := 313) dL_law_312 rfl (by omega) ?_
  refine aw_sld (j := 5 * t + 1) (q := 314) dL_law_313 rfl (by omega) (by omega) (fun rx3 => ?_)
  refine aw_aload_s (q := 315) dL_law_314 rfl rfl rfl ?_
  refine aw_iload (q := 317) dL_law_315 rfl rfl ?_
  refine aw_iconst (q := 318) dL_law_317 rfl (by omega) ?_
  refine aw_iadd (q := 319) dL_law_318 rfl (by omega) ?_
  refine aw_sld (j := 5 * t + 2) (q := 320) dL_law_319 rfl (by omega) (by omega) (fun rx4 => ?_)
  refine aw_callV [vI (f (5 * t + 1)), vI (f (5 * t + 2))] (q := 323) dL_law_320 rfl ck_X7_has lk_L_115 rfl ⟨Nat.le_of_ble_eq_true rfl, Nat.le_of_ble_eq_true rfl⟩ rfl rfl h822 rfl (Nat.le_of_ble_eq_true rfl) ⟨show 200 + 10 * t + 2 + 0 ≤ 601024 by omega, show 10000 + 60 * t + 12 + 0 ≤ 7293034 by omega⟩ (m_X7_has hm2 hO) rfl (fun E n1 μ9 h => (FIN_x (fin_has hC hm hO h101 hQ hW h)).elim) ?_
  rintro v n9 μ3 - hQm
  obtain ⟨b, hb, th', D', dv', Fn', fv', sv', pk', fd', spd', lim', o9', hth, hC', hm', hO', h101', hk0⟩ := fin_has hC hm hO h101 hQ hW hQm
  have hn9 := hQm.1
  obtain rfl := hn9
  obtain rfl := Sum.inl.inj hb
  obtain ⟨fs3, h823⟩ := MM_82 hm'
  refine aw_istore (q := 325) dL_law_323 rfl (by decide) ?_
  refine aw_ls (ls := [some (vS), some (vR 0), some (vR 82), some (vR 101), some (vI (ix)), some (vI (k9)), some (vI (b)), none]) ⟨rfl, ⟨rfl, ⟨rfl, ⟨rfl, ⟨rfl, ⟨rfl, ⟨rfl, trivial⟩⟩⟩⟩⟩⟩⟩ ?_
  refine aw_aload_n (q := 326) dL_law_325 rfl rfl rfl ?_
  refine aw_callV [] (q := 329) dL_law_326 rfl ck_X7_thrown lk_L_105 rfl ⟨Nat.le_of_ble_eq_true rfl, Nat.le_of_ble_eq_true rfl⟩ rfl rfl h823 rfl (Nat.le_of_ble_eq_true rfl) ⟨show 200 + 10 * t + 2 + 0 ≤ 601024 by omega, show 10000 + 60 * t + 12 + 0 ≤ 7293034 by omega⟩ (m_X7_thrown hm' hO') rfl (fun _ _ _ h => (Rt_x h).elim) ?_
  rintro v n9 μ9 - ⟨v9, hv9, hn9, hm9, rfl⟩
  obtain rfl := hn9.symm
  obtain rfl := hm9.symm
  obtain rfl := Sum.inl.inj hv9
  refine aw_iload (q := 331) dL_law_329 rfl rfl ?_
  refine aw_ic_eq (t := 336) (q := 334) dL_law_331 rfl (by decide) (fun bc5 => ?_) (fun bc5 => ?_)
  · skip
    refine aw_iload (q := 338) dL_law_336 rfl rfl ?_
    refine aw_if_ne (t := 353) (q := 341) dL_law_338 rfl (by decide) (fun bc6 => ?_) (fun bc6 => ?_)
    · skip
      refine aw_goto (q := 1775) dL_law_353 (by decide) ?_
      refine aw_ls (ls := [some (vS), some (vR 0), some (vR 82), some (vR 101), some (vI (ix)), none, none, none]) ⟨rfl, ⟨rfl, ⟨rfl, ⟨rfl, ⟨rfl, trivial⟩⟩⟩⟩⟩ ?_
      exact aw_widen (show 200 + 10 * t + 2 ≤ 200 + 10 * (t + 1) by omega) (show 10000 + 60 * t + 12 ≤ 10000 + 60 * (t + 1) by omega) (K _ ⟨th', D', dv', Fn', fv', sv', pk', fd', spd', lim', o9', hC', hm', hO', h101'⟩)
    · skip
      have hk1 := hk0 (by omega)
      refine aw_aload_n (q := 342) dL_law_341 rfl rfl rfl ?_
      refine aw_iconst (q := 343) dL_law_342 rfl (by omega) ?_
      refine aw_laload (j := 0) (q := 344) dL_law_343 rfl h101' (by omega) (by omega) (fun rx7 => ?_)
      refine aw_iload (q := 346) dL_law_344 rfl rfl ?_
      refine aw_i2l (q := 347) dL_law_346 rfl ?_
      refine aw_lcmp (q := 348) dL_law_347 rfl ?_
      refine aw_if_eq (t := 353) (q := 351) dL_law_348 rfl (by decide) (fun bc8 => ?_) (fun bc8 => ?_)
      · skip
        replace bc8 := cmpz_eq.mp bc8
        refine aw_goto (q := 1775) dL_law_353 (by decide) ?_
        refine aw_ls (ls := [some (vS), some (vR 0), some (vR 82), some (vR 101), some (vI (ix)), none, none, none]) ⟨rfl, ⟨rfl, ⟨rfl, ⟨rfl, ⟨rfl, trivial⟩⟩⟩⟩⟩ ?_
        exact aw_widen (show 200 + 10 * t + 2 ≤ 200 + 10 * (t + 1) by omega) (show 10000 + 60 * t + 12 ≤ 10000 + 60 * (t + 1) by omega) (K _ ⟨th', D', dv', Fn', fv', sv', pk', fd', spd', lim', o9', hC', hm', hO', h101'⟩)
      · skip
        replace bc8 := mt cmpz_eq.mpr bc8
        omega
  · skip
    omega
set_option maxHeartbeats 4000000 in
set_option maxRecDepth 100000 in
theorem lc_at {L : Nat} {f : Nat → Int} {μ : AH} {t : Nat} {ix : Int} (hix : ix = ((5 * t : Nat) : Int)) (ht : 5 * t + 5 ≤ L) (hL : L ≤ 2560) (hI : INV (t : Int) μ) (K : ∀ μ' : AH, INV ((t : Int) + 1) μ' → AW YL_law (some (L, f)) QL 1775 [some (vS), some (vR 0), some (vR 82), some (vR 101), some (vI (ix)), none, none, none] [] 102 μ' (200 + 10 * (t + 1)) (10000 + 60 * (t + 1))) : AW YL_law (some (L, f)) QL 356 [some (vS), some (vR 0), some (vR 82), some (vR 101), some (vI (ix)), none, none, none] [] 102 μ (200 + 10 * t) (10000 + 60 * t) := by
  obtain ⟨th, D, dv, Fn, fv, sv, pk, fd, spd, lim, o9, hC, hm, hO, h101⟩ := hI
  refine aw_aload_n (q := 357) dL_law_356 rfl rfl rfl ?_
  refine aw_aload_s (q := 358) dL_law_357 rfl rfl rfl ?_
  refine aw_iload (q := 360) dL_law_358 rfl rfl ?_
  refine aw_iconst (q := 361) dL_law_360 rfl (by omega) ?_
  refine aw_iadd (q := 362) dL_law_361 rfl (by omega) ?_
  refine aw_sld (j := 5 * t + 1) (q := 363) dL_law_362 rfl (by omega) (by omega) (fun rx1 => ?_)
  refine aw_aload_s (q := 364) dL_law_363 rfl rfl rfl ?_
  refine aw_iload (q := 366) dL_law_364 rfl rfl ?_
  refine aw_iconst (q := 367) dL_law_366 rfl (by omega) ?_
  refine aw_iadd (q := 368) dL_law_367 rfl (by omega) ?_
  refine aw_sld (j := 5 * t + 2) (q := 369) dL_law_368 rfl (by omega) (by omega) (fun rx2 => ?_)
  refine aw_aload_s (q := 370) dL_law_369 rfl rfl rfl ?_
  refine aw_iload (q := 372) dL_law_370 rfl rfl ?_
  refine aw_iconst (q := 373) dL_law_372 rfl (by omega) ?_
  refine aw_iadd (q := 374) dL_law_373 rfl (by omega) ?_
  refine aw_sld (j := 5 * t + 3) (q := 375) dL_law_374 rfl (by omega) (by omega) (fun rx3 => ?_)
  refine aw_aload_n (q := 376) dL_law_375 rfl rfl rfl ?_
  refine aw_callSH [vR 0, vI (f (5 * t + 1)), vI (f (5 * t + 2)), vI (f (5 * t + 3)), vR 101] (q := 379) dL_law_376 rfl ck_L_at lk_L_116 (List.cons_ne_nil _ _) ⟨Nat.le_of_ble_eq_true rfl, Nat.le_of_ble_eq_true rfl⟩ rfl rfl (Nat.le_of_ble_eq_true rfl) ⟨show 200 + 10 * t + 3 ≤ 601024 by omega, show 10000 + 60 * t + 18 ≤ 7293034 by omega⟩ (lf_at hC hO h101) (fun _ _ _ h => Rt_x h) ?_
  rintro v n9 μ2 - ⟨v9, hv9, hn9, k9, hk9, hfr, o, μ1, hQ, hW⟩
  obtain rfl := hn9
  subst hk9
  obtain rfl := Sum.inl.inj hv9
  have hm2 : MM μ2 th D dv Fn fv sv pk fd spd lim := MM_k hm (fun b h1 h2 => hfr b h1 (by omega))
  obtain ⟨fs2, h822⟩ := MM_82 hm2
  refine aw_istore (q := 381) dL_law_379 rfl (by decide) ?_
  refine aw_aload_n (q := 382) dL_law_381 rfl rfl rfl ?_
  refine aw_aload_s (q := 383) dL_law_382 rfl rfl rfl ?_
  refine aw_iload (q := 385) dL_law_383 rfl rfl ?_
  refine aw_iconst (q := 386) dL_law_385 rfl (by omega) ?_
  refine aw_iadd (q := 387) dL_law_386 rfl (by omega) ?_
  refine aw_sld (j := 5 * t + 1) (q := 388) dL_law_387 rfl (by omega) (by omega) (fun rx4 => ?_)
  refine aw_aload_s (q := 389) dL_law_388 rfl rfl rfl ?_
  refine aw_iload (q := 391) dL_law_389 rfl rfl ?_
  refine aw_iconst (q := 392) dL_law_391 rfl (by omega) ?_
  refine aw_iadd (q := 393) dL_law_392 rfl (by omega) ?_
  refine aw_sld (j := 5 * t + 2) (q := 394) dL_law_393 rfl (by omega) (by omega) (fun rx5 => ?_)
  refine aw_aload_s (q := 395) dL_law_394 rfl rfl rfl ?_
  refine aw_iload (q := 397) dL_law_395 rfl rfl ?_
  refine aw_iconst (q := 398) dL_law_397 rfl (by omega) ?_
  refine aw_iadd (q := 399) dL_law_398 rfl (by omega) ?_
  refine aw_sld (j := 5 * t + 3) (q := 400) dL_law_399 rfl (by omega) (by omega) (fun rx6 => ?_)
  refine aw_callV [vI (f (5 * t + 1)), vI (f (5 * t + 2)), vI (f (5 * t + 3))] (q := 403) dL_law_400 rfl ck_X7_at lk_L_119 rfl ⟨Nat.le_of_ble_eq_true rfl, Nat.le_of_ble_eq_true rfl⟩ rfl rfl h822 rfl (Nat.le_of_ble_eq_true rfl) ⟨show 200 + 10 * t + 3 + 0 ≤ 601024 by omega, show 10000 + 60 * t + 18 + 0 ≤ 7293034 by omega⟩ (m_X7_at hm2 hO) rfl (fun E n1 μ9 h => (FIN_x (fin_at hC hm hO h101 hQ hW h)).elim) ?_
  rintro v n9 μ3 - hQm
  obtain ⟨b, hb, th', D', dv', Fn', fv', sv', pk', fd', spd', lim', o9', hth, hC', hm', hO', h101', hk0⟩ := fin_at hC hm hO h101 hQ hW hQm
  have hn9 := hQm.1
  obtain rfl := hn9
  obtain rfl := Sum.inl.inj hb
  obtain ⟨fs3, h823⟩ := MM_82 hm'
  refine aw_istore (q := 405) dL_law_403 rfl (by decide) ?_
  refine aw_ls (ls := [some (vS), some (vR 0), some (vR 82), some (vR 101), some (vI (ix)), some (vI (k9)), some (vI (b)), none]) ⟨rfl, ⟨rfl, ⟨rfl, ⟨rfl, ⟨rfl, ⟨rfl, ⟨rfl, trivial⟩⟩⟩⟩⟩⟩⟩ ?_
  refine aw_aload_n (q := 406) dL_law_405 rfl rfl rfl ?_
  refine aw_callV [] (q := 409) dL_law_406 rfl ck_X7_thrown lk_L_105 rfl ⟨Nat.le_of_ble_eq_true rfl, Nat.le_of_ble_eq_true rfl⟩ rfl rfl h823 rfl (Nat.le_of_ble_eq_true rfl) ⟨show 200 + 10 * t + 3 + 0 ≤ 601024 by omega, show 10000 + 60 * t + 18 + 0 ≤ 7293034 by omega⟩ (m_X7_thrown hm' hO') rfl (fun _ _ _ h => (Rt_x h).elim) ?_
  rintro v n9 μ9 - ⟨v9, hv9, hn9, hm9, rfl⟩
  obtain rfl := hn9.symm
  obtain rfl := hm9.symm
  obtain rfl := Sum.inl.inj hv9
  refine aw_iload (q := 411) dL_law_409 rfl rfl ?_
  refine aw_ic_eq (t := 416) (q := 414) dL_law_411 rfl (by decide) (fun bc7 => ?_) (fun bc7 => ?_)
  · skip
    refine aw_iload (q := 418) dL_law_416 rfl rfl ?_
    refine aw_if_ne (t := 433) (q := 421) dL_law_418 rfl (by decide) (fun bc8 => ?_) (fun bc8 => ?_)
    · skip
      refine aw_goto (q := 1775) dL_law_433 (by decide) ?_
      refine aw_ls (ls := [some (vS), some (vR 0), some (vR 82), some (vR 101), some (vI (ix)), none, none, none]) ⟨rfl, ⟨rfl, ⟨rfl, ⟨rfl, ⟨rfl, trivial⟩⟩⟩⟩⟩ ?_
      exact aw_widen (show 200 + 10 * t + 3 ≤ 200 + 10 * (t + 1) by omega) (show 10000 + 60 * t + 18 ≤ 10000 + 60 * (t + 1) by omega) (K _ ⟨th', D', dv', Fn', fv', sv', pk', fd', spd', lim', o9', hC', hm', hO', h101'⟩)
    · skip
      have hk1 := hk0 (by omega)
      refine aw_aload_n (q := 422) dL_law_421 rfl rfl rfl ?_
      refine aw_iconst (q := 423) dL_law_422 rfl (by omega) ?_
      refine aw_laload (j := 0) (q := 424) dL_law_423 rfl h101' (by omega) (by omega) (fun rx9 => ?_)
      refine aw_iload (q := 426) dL_law_424 rfl rfl ?_
      refine aw_i2l (q := 427) dL_law_426 rfl ?_
      refine aw_lcmp (q := 428) dL_law_427 rfl ?_
      refine aw_if_eq (t := 433) (q := 431) dL_law_428 rfl (by decide) (fun bc10 => ?_) (fun bc10 => ?_)
      · skip
        replace bc10 := cmpz_eq.mp bc10
        refine aw_goto (q := 1775) dL_law_433 (by decide) ?_
        refine aw_ls (ls := [some (vS), some (vR 0), some (vR 82), some (vR 101), some (vI (ix)), none, none, none]) ⟨rfl, ⟨rfl, ⟨rfl, ⟨rfl, ⟨rfl, trivial⟩⟩⟩⟩⟩ ?_
        exact aw_widen (show 200 + 10 * t + 3 ≤ 200 + 10 * (t + 1) by omega) (show 10000 + 60 * t + 18 ≤ 10000 + 60 * (t + 1) by omega) (K _ ⟨th', D', dv', Fn', fv', sv', pk', fd', spd', lim', o9', hC', hm', hO', h101'⟩)
      · skip
        replace bc10 := mt cmpz_eq.mpr bc10
        omega
  · skip
    omega
set_option maxHeartbeats 4000000 in
set_option maxRecDepth 100000 in
theorem lc_mark {L : Nat} {f : Nat → Int} {μ : AH} {t : Nat} {ix : Int} (hix : ix = ((5 * t : Nat) : Int)) (ht : 5 * t + 5 ≤ L) (hL : L ≤ 2560) (hI : INV (t : Int) μ) (K : ∀ μ' : AH, INV ((t : Int) + 1) μ' → AW YL_law (some (L, f)) QL 1775 [some (vS), some (vR 0), some (vR 82), some (vR 101), some (vI (ix)), none, none, none] [] 102 μ' (200 + 10 * (t + 1)) (10000 + 60 * (t + 1))) : AW YL_law (some (L, f)) QL 436 [some (vS), some (vR 0), some (vR 82), some (vR 101), some (vI (ix)), none, none, none] [] 102 μ (200 + 10 * t) (10000 + 60 * t) := by
  obtain ⟨th, D, dv, Fn, fv, sv, pk, fd, spd, lim, o9, hC, hm, hO, h101⟩ := hI
  refine aw_aload_n (q := 437) dL_law_436 rfl rfl rfl ?_
  refine aw_aload_s (q := 438) dL_law_437 rfl rfl rfl ?_
  refine aw_iload (q := 440) dL_law_438 rfl rfl ?_
  refine aw_iconst (q := 441) dL_law_440 rfl (by omega) ?_
  refine aw_iadd (q := 442) dL_law_441 rfl (by omega) ?_
  refine aw_sld (j := 5 * t + 1) (q := 443) dL_law_442 rfl (by omega) (by omega) (fun rx1 => ?_)
  refine aw_aload_s (q := 444) dL_law_443 rfl rfl rfl ?_
  refine aw_iload (q := 446) dL_law_444 rfl rfl ?_
  refine aw_iconst (q := 447) dL_law_446 rfl (by omega) ?_
  refine aw_iadd (q := 448) dL_law_447 rfl (by omega) ?_
  refine aw_sld (j := 5 * t + 2) (q := 449) dL_law_448 rfl (by omega) (by omega) (fun rx2 => ?_)
  refine aw_aload_s (q := 450) dL_law_449 rfl rfl rfl ?_
  refine aw_iload (q := 452) dL_law_450 rfl rfl ?_
  refine aw_iconst (q := 453) dL_law_452 rfl (by omega) ?_
  refine aw_iadd (q := 454) dL_law_453 rfl (by omega) ?_
  refine aw_sld (j := 5 * t + 3) (q := 455) dL_law_454 rfl (by omega) (by omega) (fun rx3 => ?_)
  refine aw_aload_n (q := 456) dL_law_455 rfl rfl rfl ?_
  refine aw_callSH [vR 0, vI (f (5 * t + 1)), vI (f (5 * t + 2)), vI (f (5 * t + 3)), vR 101] (q := 459) dL_law_456 rfl ck_L_mark lk_L_120 (List.cons_ne_nil _ _) ⟨Nat.le_of_ble_eq_true rfl, Nat.le_of_ble_eq_true rfl⟩ rfl rfl (Nat.le_of_ble_eq_true rfl) ⟨show 200 + 10 * t + 5 ≤ 601024 by omega, show 10000 + 60 * t + 30 ≤ 7293034 by omega⟩ (lf_mark hC hO h101) (fun _ _ _ h => Rt_x h) ?_
  rintro v n9 μ2 - ⟨v9, hv9, hn9, k9, hk9, hfr, o, μ1, hQ, hW⟩
  obtain rfl := hn9
  subst hk9
  obtain rfl := Sum.inl.inj hv9
  have hm2 : MM μ2 th D dv Fn fv sv pk fd spd lim := MM_k hm (fun b h1 h2 => hfr b h1 (by omega))
  obtain ⟨fs2, h822⟩ := MM_82 hm2
  refine aw_istore (q := 461) dL_law_459 rfl (by decide) ?_
  refine aw_aload_n (q := 462) dL_law_461 rfl rfl rfl ?_
  refine aw_aload_s (q := 463) dL_law_462 rfl rfl rfl ?_
  refine aw_iload (q := 465) dL_law_463 rfl rfl ?_
  refine aw_iconst (q := 466) dL_law_465 rfl (by omega) ?_
  refine aw_iadd (q := 467) dL_law_466 rfl (by omega) ?_
  refine aw_sld (j := 5 * t + 1) (q := 468) dL_law_467 rfl (by omega) (by omega) (fun rx4 => ?_)
  refine aw_aload_s (q := 469) dL_law_468 rfl rfl rfl ?_
  refine aw_iload (q := 471) dL_law_469 rfl rfl ?_
  refine aw_iconst (q := 472) dL_law_471 rfl (by omega) ?_
  refine aw_iadd (q := 473) dL_law_472 rfl (by omega) ?_
  refine aw_sld (j := 5 * t + 2) (q := 474) dL_law_473 rfl (by omega) (by omega) (fun rx5 => ?_)
  refine aw_aload_s (q := 475) dL_law_474 rfl rfl rfl ?_
  refine aw_iload (q := 477) dL_law_475 rfl rfl ?_
  refine aw_iconst (q := 478) dL_law_477 rfl (by omega) ?_
  refine aw_iadd (q := 479) dL_law_478 rfl (by omega) ?_
  refine aw_sld (j := 5 * t + 3) (q := 480) dL_law_479 rfl (by omega) (by omega) (fun rx6 => ?_)
  refine aw_callV [vI (f (5 * t + 1)), vI (f (5 * t + 2)), vI (f (5 * t + 3))] (q := 483) dL_law_480 rfl ck_X7_mark lk_L_122 rfl ⟨Nat.le_of_ble_eq_true rfl, Nat.le_of_ble_eq_true rfl⟩ rfl rfl h822 rfl (Nat.le_of_ble_eq_true rfl) ⟨show 200 + 10 * t + 5 + 0 ≤ 601024 by omega, show 10000 + 60 * t + 30 + 0 ≤ 7293034 by omega⟩ (m_X7_mark hm2 hO) rfl (fun E n1 μ9 h => (FIN_x (fin_mark hC hm hO h101 hQ hW h)).elim) ?_
  rintro v n9 μ3 - hQm
  obtain ⟨b, hb, th', D', dv', Fn', fv', sv', pk', fd', spd', lim', o9', hth, hC', hm', hO', h101', hk0⟩ := fin_mark hC hm hO h101 hQ hW hQm
  have hn9 := hQm.1
  obtain rfl := hn9
  obtain rfl := Sum.inl.inj hb
  obtain ⟨fs3, h823⟩ := MM_82 hm'
  refine aw_istore (q := 485) dL_law_483 rfl (by decide) ?_
  refine aw_ls (ls := [some (vS), some (vR 0), some (vR 82), some (vR 101), some (vI (ix)), some (vI (k9)), some (vI (b)), none]) ⟨rfl, ⟨rfl, ⟨rfl, ⟨rfl, ⟨rfl, ⟨rfl, ⟨rfl, trivial⟩⟩⟩⟩⟩⟩⟩ ?_
  refine aw_aload_n (q := 486) dL_law_485 rfl rfl rfl ?_
  refine aw_callV [] (q := 489) dL_law_486 rfl ck_X7_thrown lk_L_105 rfl ⟨Nat.le_of_ble_eq_true rfl, Nat.le_of_ble_eq_true rfl⟩ rfl rfl h823 rfl (Nat.le_of_ble_eq_true rfl) ⟨show 200 + 10 * t + 5 + 0 ≤ 601024 by omega, show 10000 + 60 * t + 30 + 0 ≤ 7293034 by omega⟩ (m_X7_thrown hm' hO') rfl (fun _ _ _ h => (Rt_x h).elim) ?_
  rintro v n9 μ9 - ⟨v9, hv9, hn9, hm9, rfl⟩
  obtain rfl := hn9.symm
  obtain rfl := hm9.symm
  obtain rfl := Sum.inl.inj hv9
  refine aw_iload (q := 491) dL_law_489 rfl rfl ?_
  refine aw_ic_eq (t := 496) (q := 494) dL_law_491 rfl (by decide) (fun bc7 => ?_) (fun bc7 => ?_)
  · skip
    refine aw_iload (q := 498) dL_law_496 rfl rfl ?_
    refine aw_if_ne (t := 513) (q := 501) dL_law_498 rfl (by decide) (fun bc8 => ?_) (fun bc8 => ?_)
    · skip
      refine aw_goto (q := 1775) dL_law_513 (by decide) ?_
      refine aw_ls (ls := [some (vS), some (vR 0), some (vR 82), some (vR 101), some (vI (ix)), none, none, none]) ⟨rfl, ⟨rfl, ⟨rfl, ⟨rfl, ⟨rfl, trivial⟩⟩⟩⟩⟩ ?_
      exact aw_widen (show 200 + 10 * t + 5 ≤ 200 + 10 * (t + 1) by omega) (show 10000 + 60 * t + 30 ≤ 10000 + 60 * (t + 1) by omega) (K _ ⟨th', D', dv', Fn', fv', sv', pk', fd', spd', lim', o9', hC', hm', hO', h101'⟩)
    · skip
      have hk1 := hk0 (by omega)
      refine aw_aload_n (q := 502) dL_law_501 rfl rfl rfl ?_
      refine aw_iconst (q := 503) dL_law_502 rfl (by omega) ?_
      refine aw_laload (j := 0) (q := 504) dL_law_503 rfl h101' (by omega) (by omega) (fun rx9 => ?_)
      refine aw_iload (q := 506) dL_law_504 rfl rfl ?_
      refine aw_i2l (q := 507) dL_law_506 rfl ?_
      refine aw_lcmp (q := 508) dL_law_507 rfl ?_
      refine aw_if_eq (t := 513) (q := 511) dL_law_508 rfl (by decide) (fun bc10 => ?_) (fun bc10 => ?_)
      · skip
        replace bc10 := cmpz_eq.mp bc10
        refine aw_goto (q := 1775) dL_law_513 (by decide) ?_
        refine aw_ls (ls := [some (vS), some (vR 0), some (vR 82), some (vR 101), some (vI (ix)), none, none, none]) ⟨rfl, ⟨rfl, ⟨rfl, ⟨rfl, ⟨rfl, trivial⟩⟩⟩⟩⟩ ?_
        exact aw_widen (show 200 + 10 * t + 5 ≤ 200 + 10 * (t + 1) by omega) (show 10000 + 60 * t + 30 ≤ 10000 + 60 * (t + 1) by omega) (K _ ⟨th', D', dv', Fn', fv', sv', pk', fd', spd', lim', o9', hC', hm', hO', h101'⟩)
      · skip
        replace bc10 := mt cmpz_eq.mpr bc10
        omega
  · skip
    omega
set_option maxHeartbeats 4000000 in
set_option maxRecDepth 100000 in
theorem lc_time {L : Nat} {f : Nat → Int} {μ : AH} {t : Nat} {ix : Int} (hix : ix = ((5 * t : Nat) : Int)) (ht : 5 * t + 5 ≤ L) (hL : L ≤ 2560) (hI : INV (t : Int) μ) (K : ∀ μ' : AH, INV ((t : Int) + 1) μ' → AW YL_law (some (L, f)) QL 1775 [some (vS), some (vR 0), some (vR 82), some (vR 101), some (vI (ix)), none, none, none] [] 102 μ' (200 + 10 * (t + 1)) (10000 + 60 * (t + 1))) : AW YL_law (some (L, f)) QL 516 [some (vS), some (vR 0), some (vR 82), some (vR 101), some (vI (ix)), none, none, none] [] 102 μ (200 + 10 * t) (10000 + 60 * t) := by
  obtain ⟨th, D, dv, Fn, fv, sv, pk, fd, spd, lim, o9, hC, hm, hO, h101⟩ := hI
  refine aw_aload_n (q := 517) dL_law_516 rfl rfl rfl ?_
  refine aw_aload_s (q := 518) dL_law_517 rfl rfl rfl ?_
  refine aw_iload (q := 520) dL_law_518 rfl rfl ?_
  refine aw_iconst (q := 521) dL_law_520 rfl (by omega) ?_
  refine aw_iadd (q := 522) dL_law_521 rfl (by omega) ?_
  refine aw_sld (j := 5 * t + 1) (q := 523) dL_law_522 rfl (by omega) (by omega) (fun rx1 => ?_)
  refine aw_aload_s (q := 524) dL_law_523 rfl rfl rfl ?_
  refine aw_iload (q := 526) dL_law_524 rfl rfl ?_
  refine aw_iconst (q := 527) dL_law_526 rfl (by omega) ?_
  refine aw_iadd (q := 528) dL_law_527 rfl (by omega) ?_
  refine aw_sld (j := 5 * t + 2) (q := 529) dL_law_528 rfl (by omega) (by omega) (fun rx2 => ?_)
  refine aw_aload_n (q := 530) dL_law_529 rfl rfl rfl ?_
  refine aw_callSH [vR 0, vI (f (5 * t + 1)), vI (f (5 * t + 2)), vR 101] (q := 533) dL_law_530 rfl ck_L_time lk_L_123 (List.cons_ne_nil _ _) ⟨Nat.le_of_ble_eq_true rfl, Nat.le_of_ble_eq_true rfl⟩ rfl rfl (Nat.le_of_ble_eq_true rfl) ⟨show 200 + 10 * t + 2 ≤ 601024 by omega, show 10000 + 60 * t + 12 ≤ 7293034 by omega⟩ (lf_time hC hO h101) (fun _ _ _ h => Rt_x h) ?_
  rintro v n9 μ2 - ⟨v9, hv9, hn9, k9, hk9, hfr, o, μ1, hQ, hW⟩
  obtain rfl := hn9
  subst hk9
  obtain rfl := Sum.inl.inj hv9
  have hm2 : MM μ2 th D dv Fn fv sv pk fd spd lim := MM_k hm (fun b h1 h2 => hfr b h1 (by omega))
  obtain ⟨fs2, h822⟩ := MM_82 hm2
  refine aw_istore (q := 535) dL_law_533 rfl (by decide) ?_
  refine aw_aload_n (q := 536) dL_law_535 rfl rfl rfl ?_
  refine aw_aload_s (q := 537) dL_law_536 rfl rfl rfl ?_
  refine aw_iload (q := 539) dL_law_537 rfl rfl ?_
  refine aw_iconst (q := 540) dL_law_539 rfl (by omega) ?_
  refine aw_iadd (q := 541) dL_law_540 rfl (by omega) ?_
  refine aw_sld (j := 5 * t + 1) (q := 542) dL_law_541 rfl (by omega) (by omega) (fun rx3 => ?_)
  refine aw_aload_s (q := 543) dL_law_542 rfl rfl rfl ?_
  refine aw_iload (q := 545) dL_law_543 rfl rfl ?_
  refine aw_iconst (q := 546) dL_law_545 rfl (by omega) ?_
  refine aw_iadd (q := 547) dL_law_546 rfl (by omega) ?_
  refine aw_sld (j := 5 * t + 2) (q := 548) dL_law_547 rfl (by omega) (by omega) (fun rx4 => ?_)
  refine aw_callV [vI (f (5 * t + 1)), vI (f (5 * t + 2))] (q := 551) dL_law_548 rfl ck_X7_time lk_L_125 rfl ⟨Nat.le_of_ble_eq_true rfl, Nat.le_of_ble_eq_true rfl⟩ rfl rfl h822 rfl (Nat.le_of_ble_eq_true rfl) ⟨show 200 + 10 * t + 2 + 0 ≤ 601024 by omega, show 10000 + 60 * t + 12 + 0 ≤ 7293034 by omega⟩ (m_X7_time hm2 hO) rfl (fun E n1 μ9 h => (FIN_x (fin_time hC hm hO h101 hQ hW h)).elim) ?_
  rintro v n9 μ3 - hQm
  obtain ⟨b, hb, th', D', dv', Fn', fv', sv', pk', fd', spd', lim', o9', hth, hC', hm', hO', h101', hk0⟩ := fin_time hC hm hO h101 hQ hW hQm
  have hn9 := hQm.1
  obtain rfl := hn9
  obtain rfl := Sum.inl.inj hb
  obtain ⟨fs3, h823⟩ := MM_82 hm'
  refine aw_istore (q := 553) dL_law_551 rfl (by decide) ?_
  refine aw_ls (ls := [some (vS), some (vR 0), some (vR 82), some (vR 101), some (vI (ix)), some (vI (k9)), some (vI (b)), none]) ⟨rfl, ⟨rfl, ⟨rfl, ⟨rfl, ⟨rfl, ⟨rfl, ⟨rfl, trivial⟩⟩⟩⟩⟩⟩⟩ ?_
  refine aw_aload_n (q := 554) dL_law_553 rfl rfl rfl ?_
  refine aw_callV [] (q := 557) dL_law_554 rfl ck_X7_thrown lk_L_105 rfl ⟨Nat.le_of_ble_eq_true rfl, Nat.le_of_ble_eq_true rfl⟩ rfl rfl h823 rfl (Nat.le_of_ble_eq_true rfl) ⟨show 200 + 10 * t + 2 + 0 ≤ 601024 by omega, show 10000 + 60 * t + 12 + 0 ≤ 7293034 by omega⟩ (m_X7_thrown hm' hO') rfl (fun _ _ _ h => (Rt_x h).elim) ?_
  rintro v n9 μ9 - ⟨v9, hv9, hn9, hm9, rfl⟩
  obtain rfl := hn9.symm
  obtain rfl := hm9.symm
  obtain rfl := Sum.inl.inj hv9
  refine aw_iload (q := 559) dL_law_557 rfl rfl ?_
  refine aw_ic_eq (t := 564) (q := 562) dL_law_559 rfl (by decide) (fun bc5 => ?_) (fun bc5 => ?_)
  · skip
    refine aw_iload (q := 566) dL_law_564 rfl rfl ?_
    refine aw_if_ne (t := 581) (q := 569) dL_law_566 rfl (by decide) (fun bc6 => ?_) (fun bc6 => ?_)
    · skip
      refine aw_goto (q := 1775) dL_law_581 (by decide) ?_
      refine aw_ls (ls := [some (vS), some (vR 0), some (vR 82), some (vR 101), some (vI (ix)), none, none, none]) ⟨rfl, ⟨rfl, ⟨rfl, ⟨rfl, ⟨rfl, trivial⟩⟩⟩⟩⟩ ?_
      exact aw_widen (show 200 + 10 * t + 2 ≤ 200 + 10 * (t + 1) by omega) (show 10000 + 60 * t + 12 ≤ 10000 + 60 * (t + 1) by omega) (K _ ⟨th', D', dv', Fn', fv', sv', pk', fd', spd', lim', o9', hC', hm', hO', h101'⟩)
    · skip
      have hk1 := hk0 (by omega)
      refine aw_aload_n (q := 570) dL_law_569 rfl rfl rfl ?_
      refine aw_iconst (q := 571) dL_law_570 rfl (by omega) ?_
      refine aw_laload (j := 0) (q := 572) dL_law_571 rfl h101' (by omega) (by omega) (fun rx7 => ?_)
      refine aw_iload (q := 574) dL_law_572 rfl rfl ?_
      refine aw_i2l (q := 575) dL_law_574 rfl ?_
      refine aw_lcmp (q := 576) dL_law_575 rfl ?_
      refine aw_if_eq (t := 581) (q := 579) dL_law_576 rfl (by decide) (fun bc8 => ?_) (fun bc8 => ?_)
      · skip
        replace bc8 := cmpz_eq.mp bc8
        refine aw_goto (q := 1775) dL_law_581 (by decide) ?_
        refine aw_ls (ls := [some (vS), some (vR 0), some (vR 82), some (vR 101), some (vI (ix)), none, none, none]) ⟨rfl, ⟨rfl, ⟨rfl, ⟨rfl, ⟨rfl, trivial⟩⟩⟩⟩⟩ ?_
        exact aw_widen (show 200 + 10 * t + 2 ≤ 200 + 10 * (t + 1) by omega) (show 10000 + 60 * t + 12 ≤ 10000 + 60 * (t + 1) by omega) (K _ ⟨th', D', dv', Fn', fv', sv', pk', fd', spd', lim', o9', hC', hm', hO', h101'⟩)
      · skip
        replace bc8 := mt cmpz_eq.mpr bc8
        omega
  · skip
    omega
set_option maxHeartbeats 4000000 in
set_option maxRecDepth 100000 in
theorem lc_speed {L : Nat} {f : Nat → Int} {μ : AH} {t : Nat} {ix : Int} (hix : ix = ((5 * t : Nat) : Int)) (ht : 5 * t + 5 ≤ L) (hL : L ≤ 2560) (hI : INV (t : Int) μ) (K : ∀ μ' : AH, INV ((t : Int) + 1) μ' → AW YL_law (some (L, f)) QL 1775 [some (vS), some (vR 0), some (vR 82), some (vR 101), some (vI (ix)), none, none, none] [] 102 μ' (200 + 10 * (t + 1)) (10000 + 60 * (t + 1))) : AW YL_law (some (L, f)) QL 584 [some (vS), some (vR 0), some (vR 82), some (vR 101), some (vI (ix)), none, none, none] [] 102 μ (200 + 10 * t) (10000 + 60 * t) := by
  obtain ⟨th, D, dv, Fn, fv, sv, pk, fd, spd, lim, o9, hC, hm, hO, h101⟩ := hI
  refine aw_aload_n (q := 585) dL_law_584 rfl rfl rfl ?_
  refine aw_aload_s (q := 586) dL_law_585 rfl rfl rfl ?_
  refine aw_iload (q := 588) dL_law_586 rfl rfl ?_
  refine aw_iconst (q := 589) dL_law_588 rfl (by omega) ?_
  refine aw_iadd (q := 590) dL_law_589 rfl (by omega) ?_
  refine aw_sld (j := 5 * t + 1) (q := 591) dL_law_590 rfl (by omega) (by omega) (fun rx1 => ?_)
  refine aw_aload_n (q := 592) dL_law_591 rfl rfl rfl ?_
  refine aw_callSH [vR 0, vI (f (5 * t + 1)), vR 101] (q := 595) dL_law_592 rfl ck_L_speed lk_L_126 (List.cons_ne_nil _ _) ⟨Nat.le_of_ble_eq_true rfl, Nat.le_of_ble_eq_true rfl⟩ rfl rfl (Nat.le_of_ble_eq_true rfl) ⟨show 200 + 10 * t + 1 ≤ 601024 by omega, show 10000 + 60 * t + 6 ≤ 7293034 by omega⟩ (lf_speed hC hO h101) (fun _ _ _ h => Rt_x h) ?_
  rintro v n9 μ2 - ⟨v9, hv9, hn9, k9, hk9, hfr, o, μ1, hQ, hW⟩
  obtain rfl := hn9
  subst hk9
  obtain rfl := Sum.inl.inj hv9
  have hm2 : MM μ2 th D dv Fn fv sv pk fd spd lim := MM_k hm (fun b h1 h2 => hfr b h1 (by omega))
  obtain ⟨fs2, h822⟩ := MM_82 hm2
  refine aw_istore (q := 597) dL_law_595 rfl (by decide) ?_
  refine aw_aload_n (q := 598) dL_law_597 rfl rfl rfl ?_
  refine aw_aload_s (q := 599) dL_law_598 rfl rfl rfl ?_
  refine aw_iload (q := 601) dL_law_599 rfl rfl ?_
  refine aw_iconst (q := 602) dL_law_601 rfl (by omega) ?_
  refine aw_iadd (q := 603) dL_law_602 rfl (by omega) ?_
  refine aw_sld (j := 5 * t + 1) (q := 604) dL_law_603 rfl (by omega) (by omega) (fun rx2 => ?_)
  refine aw_callV [vI (f (5 * t + 1))] (q := 607) dL_law_604 rfl ck_X7_speed lk_L_129 rfl ⟨Nat.le_of_ble_eq_true rfl, Nat.le_of_ble_eq_true rfl⟩ rfl rfl h822 rfl (Nat.le_of_ble_eq_true rfl) ⟨show 200 + 10 * t + 1 + 0 ≤ 601024 by omega, show 10000 + 60 * t + 6 + 0 ≤ 7293034 by omega⟩ (m_X7_speed hm2 hO) rfl (fun E n1 μ9 h => (FIN_x (fin_speed hC hm hO h101 hQ hW h)).elim) ?_
  rintro v n9 μ3 - hQm
  obtain ⟨b, hb, th', D', dv', Fn', fv', sv', pk', fd', spd', lim', o9', hth, hC', hm', hO', h101', hk0⟩ := fin_speed hC hm hO h101 hQ hW hQm
  have hn9 := hQm.1
  obtain rfl := hn9
  obtain rfl := Sum.inl.inj hb
  obtain ⟨fs3, h823⟩ := MM_82 hm'
  refine aw_istore (q := 609) dL_law_607 rfl (by decide) ?_
  refine aw_ls (ls := [some (vS), some (vR 0), some (vR 82), some (vR 101), some (vI (ix)), some (vI (k9)), some (vI (b)), none]) ⟨rfl, ⟨rfl, ⟨rfl, ⟨rfl, ⟨rfl, ⟨rfl, ⟨rfl, trivial⟩⟩⟩⟩⟩⟩⟩ ?_
  refine aw_aload_n (q := 610) dL_law_609 rfl rfl rfl ?_
  refine aw_callV [] (q := 613) dL_law_610 rfl ck_X7_thrown lk_L_105 rfl ⟨Nat.le_of_ble_eq_true rfl, Nat.le_of_ble_eq_true rfl⟩ rfl rfl h823 rfl (Nat.le_of_ble_eq_true rfl) ⟨show 200 + 10 * t + 1 + 0 ≤ 601024 by omega, show 10000 + 60 * t + 6 + 0 ≤ 7293034 by omega⟩ (m_X7_thrown hm' hO') rfl (fun _ _ _ h => (Rt_x h).elim) ?_
  rintro v n9 μ9 - ⟨v9, hv9, hn9, hm9, rfl⟩
  obtain rfl := hn9.symm
  obtain rfl := hm9.symm
  obtain rfl := Sum.inl.inj hv9
  refine aw_iload (q := 615) dL_law_613 rfl rfl ?_
  refine aw_ic_eq (t := 620) (q := 618) dL_law_615 rfl (by decide) (fun bc3 => ?_) (fun bc3 => ?_)
  · skip
    refine aw_iload (q := 622) dL_law_620 rfl rfl ?_
    refine aw_if_ne (t := 637) (q := 625) dL_law_622 rfl (by decide) (fun bc4 => ?_) (fun bc4 => ?_)
    · skip
      refine aw_goto (q := 1775) dL_law_637 (by decide) ?_
      refine aw_ls (ls := [some (vS), some (vR 0), some (vR 82), some (vR 101), some (vI (ix)), none, none, none]) ⟨rfl, ⟨rfl, ⟨rfl, ⟨rfl, ⟨rfl, trivial⟩⟩⟩⟩⟩ ?_
      exact aw_widen (show 200 + 10 * t + 1 ≤ 200 + 10 * (t + 1) by omega) (show 10000 + 60 * t + 6 ≤ 10000 + 60 * (t + 1) by omega) (K _ ⟨th', D', dv', Fn', fv', sv', pk', fd', spd', lim', o9', hC', hm', hO', h101'⟩)
    · skip
      have hk1 := hk0 (by omega)
      refine aw_aload_n (q := 626) dL_law_625 rfl rfl rfl ?_
      refine aw_iconst (q := 627) dL_law_626 rfl (by omega) ?_
      refine aw_laload (j := 0) (q := 628) dL_law_627 rfl h101' (by omega) (by omega) (fun rx5 => ?_)
      refine aw_iload (q := 630) dL_law_628 rfl rfl ?_
      refine aw_i2l (q := 631) dL_law_630 rfl ?_
      refine aw_lcmp (q := 632) dL_law_631 rfl ?_
      refine aw_if_eq (t := 637) (q := 635) dL_law_632 rfl (by decide) (fun bc6 => ?_) (fun bc6 => ?_)
      · skip
        replace bc6 := cmpz_eq.mp bc6
        refine aw_goto (q := 1775) dL_law_637 (by decide) ?_
        refine aw_ls (ls := [some (vS), some (vR 0), some (vR 82), some (vR 101), some (vI (ix)), none, none, none]) ⟨rfl, ⟨rfl, ⟨rfl, ⟨rfl, ⟨rfl, trivial⟩⟩⟩⟩⟩ ?_
        exact aw_widen (show 200 + 10 * t + 1 ≤ 200 + 10 * (t + 1) by omega) (show 10000 + 60 * t + 6 ≤ 10000 + 60 * (t + 1) by omega) (K _ ⟨th', D', dv', Fn', fv', sv', pk', fd', spd', lim', o9', hC', hm', hO', h101'⟩)
      · skip
        replace bc6 := mt cmpz_eq.mpr bc6
        omega
  · skip
    omega
set_option maxHeartbeats 4000000 in
set_option maxRecDepth 100000 in
theorem lc_limit {L : Nat} {f : Nat → Int} {μ : AH} {t : Nat} {ix : Int} (hix : ix = ((5 * t : Nat) : Int)) (ht : 5 * t + 5 ≤ L) (hL : L ≤ 2560) (hI : INV (t : Int) μ) (K : ∀ μ' : AH, INV ((t : Int) + 1) μ' → AW YL_law (some (L, f)) QL 1775 [some (vS), some (vR 0), some (vR 82), some (vR 101), some (vI (ix)), none, none, none] [] 102 μ' (200 + 10 * (t + 1)) (10000 + 60 * (t + 1))) : AW YL_law (some (L, f)) QL 640 [some (vS), some (vR 0), some (vR 82), some (vR 101), some (vI (ix)), none, none, none] [] 102 μ (200 + 10 * t) (10000 + 60 * t) := by
  obtain ⟨th, D, dv, Fn, fv, sv, pk, fd, spd, lim, o9, hC, hm, hO, h101⟩ := hI
  refine aw_aload_n (q := 641) dL_law_640 rfl rfl rfl ?_
  refine aw_aload_s (q := 642) dL_law_641 rfl rfl rfl ?_
  refine aw_iload (q := 644) dL_law_642 rfl rfl ?_
  refine aw_iconst (q := 645) dL_law_644 rfl (by omega) ?_
  refine aw_iadd (q := 646) dL_law_645 rfl (by omega) ?_
  refine aw_sld (j := 5 * t + 1) (q := 647) dL_law_646 rfl (by omega) (by omega) (fun rx1 => ?_)
  refine aw_aload_n (q := 648) dL_law_647 rfl rfl rfl ?_
  refine aw_callSH [vR 0, vI (f (5 * t + 1)), vR 101] (q := 651) dL_law_648 rfl ck_L_limit lk_L_130 (List.cons_ne_nil _ _) ⟨Nat.le_of_ble_eq_true rfl, Nat.le_of_ble_eq_true rfl⟩ rfl rfl (Nat.le_of_ble_eq_true rfl) ⟨show 200 + 10 * t + 1 ≤ 601024 by omega, show 10000 + 60 * t + 6 ≤ 7293034 by omega⟩ (lf_limit hC hO h101) (fun _ _ _ h => Rt_x h) ?_
  rintro v n9 μ2 - ⟨v9, hv9, hn9, k9, hk9, hfr, o, μ1, hQ, hW⟩
  obtain rfl := hn9
  subst hk9
  obtain rfl := Sum.inl.inj hv9
  have hm2 : MM μ2 th D dv Fn fv sv pk fd spd lim := MM_k hm (fun b h1 h2 => hfr b h1 (by omega))
  obtain ⟨fs2, h822⟩ := MM_82 hm2
  refine aw_istore (q := 653) dL_law_651 rfl (by decide) ?_
  refine aw_aload_n (q := 654) dL_law_653 rfl rfl rfl ?_
  refine aw_aload_s (q := 655) dL_law_654 rfl rfl rfl ?_
  refine aw_iload (q := 657) dL_law_655 rfl rfl ?_
  refine aw_iconst (q := 658) dL_law_657 rfl (by omega) ?_
  refine aw_iadd (q := 659) dL_law_658 rfl (by omega) ?_
  refine aw_sld (j := 5 * t + 1) (q := 660) dL_law_659 rfl (by omega) (by omega) (fun rx2 => ?_)
  refine aw_callV [vI (f (5 * t + 1))] (q := 663) dL_law_660 rfl ck_X7_limit lk_L_132 rfl ⟨Nat.le_of_ble_eq_true rfl, Nat.le_of_ble_eq_true rfl⟩ rfl rfl h822 rfl (Nat.le_of_ble_eq_true rfl) ⟨show 200 + 10 * t + 1 + 0 ≤ 601024 by omega, show 10000 + 60 * t + 6 + 0 ≤ 7293034 by omega⟩ (m_X7_limit hm2 hO) rfl (fun E n1 μ9 h => (FIN_x (fin_limit hC hm hO h101 hQ hW h)).elim) ?_
  rintro v n9 μ3 - hQm
  obtain ⟨b, hb, th', D', dv', Fn', fv', sv', pk', fd', spd', lim', o9', hth, hC', hm', hO', h101', hk0⟩ := fin_limit hC hm hO h101 hQ hW hQm
  have hn9 := hQm.1
  obtain rfl := hn9
  obtain rfl := Sum.inl.inj hb
  obtain ⟨fs3, h823⟩ := MM_82 hm'
  refine aw_istore (q := 665) dL_law_663 rfl (by decide) ?_
  refine aw_ls (ls := [some (vS), some (vR 0), some (vR 82), some (vR 101), some (vI (ix)), some (vI (k9)), some (vI (b)), none]) ⟨rfl, ⟨rfl, ⟨rfl, ⟨rfl, ⟨rfl, ⟨rfl, ⟨rfl, trivial⟩⟩⟩⟩⟩⟩⟩ ?_
  refine aw_aload_n (q := 666) dL_law_665 rfl rfl rfl ?_
  refine aw_callV [] (q := 669) dL_law_666 rfl ck_X7_thrown lk_L_105 rfl ⟨Nat.le_of_ble_eq_true rfl, Nat.le_of_ble_eq_true rfl⟩ rfl rfl h823 rfl (Nat.le_of_ble_eq_true rfl) ⟨show 200 + 10 * t + 1 + 0 ≤ 601024 by omega, show 10000 + 60 * t + 6 + 0 ≤ 7293034 by omega⟩ (m_X7_thrown hm' hO') rfl (fun _ _ _ h => (Rt_x h).elim) ?_
  rintro v n9 μ9 - ⟨v9, hv9, hn9, hm9, rfl⟩
  obtain rfl := hn9.symm
  obtain rfl := hm9.symm
  obtain rfl := Sum.inl.inj hv9
  refine aw_iload (q := 671) dL_law_669 rfl rfl ?_
  refine aw_ic_eq (t := 676) (q := 674) dL_law_671 rfl (by decide) (fun bc3 => ?_) (fun bc3 => ?_)
  · skip
    refine aw_iload (q := 678) dL_law_676 rfl rfl ?_
    refine aw_if_ne (t := 693) (q := 681) dL_law_678 rfl (by decide) (fun bc4 => ?_) (fun bc4 => ?_)
    · skip
      refine aw_goto (q := 1775) dL_law_693 (by decide) ?_
      refine aw_ls (ls := [some (vS), some (vR 0), some (vR 82), some (vR 101), some (vI (ix)), none, none, none]) ⟨rfl, ⟨rfl, ⟨rfl, ⟨rfl, ⟨rfl, trivial⟩⟩⟩⟩⟩ ?_
      exact aw_widen (show 200 + 10 * t + 1 ≤ 200 + 10 * (t + 1) by omega) (show 10000 + 60 * t + 6 ≤ 10000 + 60 * (t + 1) by omega) (K _ ⟨th', D', dv', Fn', fv', sv', pk', fd', spd', lim', o9', hC', hm', hO', h101'⟩)
    · skip
      have hk1 := hk0 (by omega)
      refine aw_aload_n (q := 682) dL_law_681 rfl rfl rfl ?_
      refine aw_iconst (q := 683) dL_law_682 rfl (by omega) ?_
      refine aw_laload (j := 0) (q := 684) dL_law_683 rfl h101' (by omega) (by omega) (fun rx5 => ?_)
      refine aw_iload (q := 686) dL_law_684 rfl rfl ?_
      refine aw_i2l (q := 687) dL_law_686 rfl ?_
      refine aw_lcmp (q := 688) dL_law_687 rfl ?_
      refine aw_if_eq (t := 693) (q := 691) dL_law_688 rfl (by decide) (fun bc6 => ?_) (fun bc6 => ?_)
      · skip
        replace bc6 := cmpz_eq.mp bc6
        refine aw_goto (q := 1775) dL_law_693 (by decide) ?_
        refine aw_ls (ls := [some (vS), some (vR 0), some (vR 82), some (vR 101), some (vI (ix)), none, none, none]) ⟨rfl, ⟨rfl, ⟨rfl, ⟨rfl, ⟨rfl, trivial⟩⟩⟩⟩⟩ ?_
        exact aw_widen (show 200 + 10 * t + 1 ≤ 200 + 10 * (t + 1) by omega) (show 10000 + 60 * t + 6 ≤ 10000 + 60 * (t + 1) by omega) (K _ ⟨th', D', dv', Fn', fv', sv', pk', fd', spd', lim', o9', hC', hm', hO', h101'⟩)
      · skip
        replace bc6 := mt cmpz_eq.mpr bc6
        omega
  · skip
    omega
set_option maxHeartbeats 4000000 in
set_option maxRecDepth 100000 in
theorem lc_jump {L : Nat} {f : Nat → Int} {μ : AH} {t : Nat} {ix : Int} (hix : ix = ((5 * t : Nat) : Int)) (ht : 5 * t + 5 ≤ L) (hL : L ≤ 2560) (hI : INV (t : Int) μ) (K : ∀ μ' : AH, INV ((t : Int) + 1) μ' → AW YL_law (some (L, f)) QL 1775 [some (vS), some (vR 0), some (vR 82), some (vR 101), some (vI (ix)), none, none, none] [] 102 μ' (200 + 10 * (t + 1)) (10000 + 60 * (t + 1))) : AW YL_law (some (L, f)) QL 696 [some (vS), some (vR 0), some (vR 82), some (vR 101), some (vI (ix)), none, none, none] [] 102 μ (200 + 10 * t) (10000 + 60 * t) := by
  obtain ⟨th, D, dv, Fn, fv, sv, pk, fd, spd, lim, o9, hC, hm, hO, h101⟩ := hI
  refine aw_aload_n (q := 697) dL_law_696 rfl rfl rfl ?_
  refine aw_aload_s (q := 698) dL_law_697 rfl rfl rfl ?_
  refine aw_iload (q := 700) dL_law_698 rfl rfl ?_
  refine aw_iconst (q := 701) dL_law_700 rfl (by omega) ?_
  refine aw_iadd (q := 702) dL_law_701 rfl (by omega) ?_
  refine aw_sld (j := 5 * t + 1) (q := 703) dL_law_702 rfl (by omega) (by omega) (fun rx1 => ?_)
  refine aw_aload_s (q := 704) dL_law_703 rfl rfl rfl ?_
  refine aw_iload (q := 706) dL_law_704 rfl rfl ?_
  refine aw_iconst (q := 707) dL_law_706 rfl (by omega) ?_
  refine aw_iadd (q := 708) dL_law_707 rfl (by omega) ?_
  refine aw_sld (j := 5 * t + 2) (q := 709) dL_law_708 rfl (by omega) (by omega) (fun rx2 => ?_)
  refine aw_aload_n (q := 710) dL_law_709 rfl rfl rfl ?_
  refine aw_callSH [vR 0, vI (f (5 * t + 1)), vI (f (5 * t + 2)), vR 101] (q := 713) dL_law_710 rfl ck_L_jump lk_L_133 (List.cons_ne_nil _ _) ⟨Nat.le_of_ble_eq_true rfl, Nat.le_of_ble_eq_true rfl⟩ rfl rfl (Nat.le_of_ble_eq_true rfl) ⟨show 200 + 10 * t + 1 ≤ 601024 by omega, show 10000 + 60 * t + 6 ≤ 7293034 by omega⟩ (lf_jump hC hO h101) (fun _ _ _ h => Rt_x h) ?_
  rintro v n9 μ2 - ⟨v9, hv9, hn9, k9, hk9, hfr, o, μ1, hQ, hW⟩
  obtain rfl := hn9
  subst hk9
  obtain rfl := Sum.inl.inj hv9
  have hm2 : MM μ2 th D dv Fn fv sv pk fd spd lim := MM_k hm (fun b h1 h2 => hfr b h1 (by omega))
  obtain ⟨fs2, h822⟩ := MM_82 hm2
  refine aw_istore (q := 715) dL_law_713 rfl (by decide) ?_
  refine aw_aload_n (q := 716) dL_law_715 rfl rfl rfl ?_
  refine aw_aload_s (q := 717) dL_law_716 rfl rfl rfl ?_
  refine aw_iload (q := 719) dL_law_717 rfl rfl ?_
  refine aw_iconst (q := 720) dL_law_719 rfl (by omega) ?_
  refine aw_iadd (q := 721) dL_law_720 rfl (by omega) ?_
  refine aw_sld (j := 5 * t + 1) (q := 722) dL_law_721 rfl (by omega) (by omega) (fun rx3 => ?_)
  refine aw_aload_s (q := 723) dL_law_722 rfl rfl rfl ?_
  refine aw_iload (q := 725) dL_law_723 rfl rfl ?_
  refine aw_iconst (q := 726) dL_law_725 rfl (by omega) ?_
  refine aw_iadd (q := 727) dL_law_726 rfl (by omega) ?_
  refine aw_sld (j := 5 * t + 2) (q := 728) dL_law_727 rfl (by omega) (by omega) (fun rx4 => ?_)
  refine aw_callV [vI (f (5 * t + 1)), vI (f (5 * t + 2))] (q := 731) dL_law_728 rfl ck_X7_jump lk_L_135 rfl ⟨Nat.le_of_ble_eq_true rfl, Nat.le_of_ble_eq_true rfl⟩ rfl rfl h822 rfl (Nat.le_of_ble_eq_true rfl) ⟨show 200 + 10 * t + 1 + 0 ≤ 601024 by omega, show 10000 + 60 * t + 6 + 0 ≤ 7293034 by omega⟩ (m_X7_jump hm2 hO) rfl (fun E n1 μ9 h => (FIN_x (fin_jump hC hm hO h101 hQ hW h)).elim) ?_
  rintro v n9 μ3 - hQm
  obtain ⟨b, hb, th', D', dv', Fn', fv', sv', pk', fd', spd', lim', o9', hth, hC', hm', hO', h101', hk0⟩ := fin_jump hC hm hO h101 hQ hW hQm
  have hn9 := hQm.1
  obtain rfl := hn9
  obtain rfl := Sum.inl.inj hb
  obtain ⟨fs3, h823⟩ := MM_82 hm'
  refine aw_istore (q := 733) dL_law_731 rfl (by decide) ?_
  refine aw_ls (ls := [some (vS), some (vR 0), some (vR 82), some (vR 101), some (vI (ix)), some (vI (k9)), some (vI (b)), none]) ⟨rfl, ⟨rfl, ⟨rfl, ⟨rfl, ⟨rfl, ⟨rfl, ⟨rfl, trivial⟩⟩⟩⟩⟩⟩⟩ ?_
  refine aw_aload_n (q := 734) dL_law_733 rfl rfl rfl ?_
  refine aw_callV [] (q := 737) dL_law_734 rfl ck_X7_thrown lk_L_105 rfl ⟨Nat.le_of_ble_eq_true rfl, Nat.le_of_ble_eq_true rfl⟩ rfl rfl h823 rfl (Nat.le_of_ble_eq_true rfl) ⟨show 200 + 10 * t + 1 + 0 ≤ 601024 by omega, show 10000 + 60 * t + 6 + 0 ≤ 7293034 by omega⟩ (m_X7_thrown hm' hO') rfl (fun _ _ _ h => (Rt_x h).elim) ?_
  rintro v n9 μ9 - ⟨v9, hv9, hn9, hm9, rfl⟩
  obtain rfl := hn9.symm
  obtain rfl := hm9.symm
  obtain rfl := Sum.inl.inj hv9
  refine aw_iload (q := 739) dL_law_737 rfl rfl ?_
  refine aw_ic_eq (t := 744) (q := 742) dL_law_739 rfl (by decide) (fun bc5 => ?_) (fun bc5 => ?_)
  · skip
    refine aw_iload (q := 746) dL_law_744 rfl rfl ?_
    refine aw_if_ne (t := 761) (q := 749) dL_law_746 rfl (by decide) (fun bc6 => ?_) (fun bc6 => ?_)
    · skip
      refine aw_goto (q := 1775) dL_law_761 (by decide) ?_
      refine aw_ls (ls := [some (vS), some (vR 0), some (vR 82), some (vR 101), some (vI (ix)), none, none, none]) ⟨rfl, ⟨rfl, ⟨rfl, ⟨rfl, ⟨rfl, trivial⟩⟩⟩⟩⟩ ?_
      exact aw_widen (show 200 + 10 * t + 1 ≤ 200 + 10 * (t + 1) by omega) (show 10000 + 60 * t + 6 ≤ 10000 + 60 * (t + 1) by omega) (K _ ⟨th', D', dv', Fn', fv', sv', pk', fd', spd', lim', o9', hC', hm', hO', h101'⟩)
    · skip
      have hk1 := hk0 (by omega)
      refine aw_aload_n (q := 750) dL_law_749 rfl rfl rfl ?_
      refine aw_iconst (q := 751) dL_law_750 rfl (by omega) ?_
      refine aw_laload (j := 0) (q := 752) dL_law_751 rfl h101' (by omega) (by omega) (fun rx7 => ?_)
      refine aw_iload (q := 754) dL_law_752 rfl rfl ?_
      refine aw_i2l (q := 755) dL_law_754 rfl ?_
      refine aw_lcmp (q := 756) dL_law_755 rfl ?_
      refine aw_if_eq (t := 761) (q := 759) dL_law_756 rfl (by decide) (fun bc8 => ?_) (fun bc8 => ?_)
      · skip
        replace bc8 := cmpz_eq.mp bc8
        refine aw_goto (q := 1775) dL_law_761 (by decide) ?_
        refine aw_ls (ls := [some (vS), some (vR 0), some (vR 82), some (vR 101), some (vI (ix)), none, none, none]) ⟨rfl, ⟨rfl, ⟨rfl, ⟨rfl, ⟨rfl, trivial⟩⟩⟩⟩⟩ ?_
        exact aw_widen (show 200 + 10 * t + 1 ≤ 200 + 10 * (t + 1) by omega) (show 10000 + 60 * t + 6 ≤ 10000 + 60 * (t + 1) by omega) (K _ ⟨th', D', dv', Fn', fv', sv', pk', fd', spd', lim', o9', hC', hm', hO', h101'⟩)
      · skip
        replace bc8 := mt cmpz_eq.mpr bc8
        omega
  · skip
    omega
set_option maxHeartbeats 4000000 in
set_option maxRecDepth 100000 in
theorem lc_gap {L : Nat} {f : Nat → Int} {μ : AH} {t : Nat} {ix : Int} (hix : ix = ((5 * t : Nat) : Int)) (ht : 5 * t + 5 ≤ L) (hL : L ≤ 2560) (hI : INV (t : Int) μ) (K : ∀ μ' : AH, INV ((t : Int) + 1) μ' → AW YL_law (some (L, f)) QL 1775 [some (vS), some (vR 0), some (vR 82), some (vR 101), some (vI (ix)), none, none, none] [] 102 μ' (200 + 10 * (t + 1)) (10000 + 60 * (t + 1))) : AW YL_law (some (L, f)) QL 764 [some (vS), some (vR 0), some (vR 82), some (vR 101), some (vI (ix)), none, none, none] [] 102 μ (200 + 10 * t) (10000 + 60 * t) := by
  obtain ⟨th, D, dv, Fn, fv, sv, pk, fd, spd, lim, o9, hC, hm, hO, h101⟩ := hI
  refine aw_aload_n (q := 765) dL_law_764 rfl rfl rfl ?_
  refine aw_aload_s (q := 766) dL_law_765 rfl rfl rfl ?_
  refine aw_iload (q := 768) dL_law_766 rfl rfl ?_
  refine aw_iconst (q := 769) dL_law_768 rfl (by omega) ?_
  refine aw_iadd (q := 770) dL_law_769 rfl (by omega) ?_
  refine aw_sld (j := 5 * t + 1) (q := 771) dL_law_770 rfl (by omega) (by omega) (fun rx1 => ?_)
  refine aw_aload_s (q := 772) dL_law_771 rfl rfl rfl ?_
  refine aw_iload (q := 774) dL_law_772 rfl rfl ?_
  refine aw_iconst (q := 775) dL_law_774 rfl (by omega) ?_
  refine aw_iadd (q := 776) dL_law_775 rfl (by omega) ?_
  refine aw_sld (j := 5 * t + 2) (q := 777) dL_law_776 rfl (by omega) (by omega) (fun rx2 => ?_)
  refine aw_aload_n (q := 778) dL_law_777 rfl rfl rfl ?_
  refine aw_callSH [vR 0, vI (f (5 * t + 1)), vI (f (5 * t + 2)), vR 101] (q := 781) dL_law_778 rfl ck_L_gap lk_L_136 (List.cons_ne_nil _ _) ⟨Nat.le_of_ble_eq_true rfl, Nat.le_of_ble_eq_true rfl⟩ rfl rfl (Nat.le_of_ble_eq_true rfl) ⟨show 200 + 10 * t + 1 ≤ 601024 by omega, show 10000 + 60 * t + 6 ≤ 7293034 by omega⟩ (lf_gap hC hO h101) (fun _ _ _ h => Rt_x h) ?_
  rintro v n9 μ2 - ⟨v9, hv9, hn9, k9, hk9, hfr, o, μ1, hQ, hW⟩
  obtain rfl := hn9
  subst hk9
  obtain rfl := Sum.inl.inj hv9
  have hm2 : MM μ2 th D dv Fn fv sv pk fd spd lim := MM_k hm (fun b h1 h2 => hfr b h1 (by omega))
  obtain ⟨fs2, h822⟩ := MM_82 hm2
  refine aw_istore (q := 783) dL_law_781 rfl (by decide) ?_
  refine aw_aload_n (q := 784) dL_law_783 rfl rfl rfl ?_
  refine aw_aload_s (q := 785) dL_law_784 rfl rfl rfl ?_
  refine aw_iload (q := 787) dL_law_785 rfl rfl ?_
  refine aw_iconst (q := 788) dL_law_787 rfl (by omega) ?_
  refine aw_iadd (q := 789) dL_law_788 rfl (by omega) ?_
  refine aw_sld (j := 5 * t + 1) (q := 790) dL_law_789 rfl (by omega) (by omega) (fun rx3 => ?_)
  refine aw_aload_s (q := 791) dL_law_790 rfl rfl rfl ?_
  refine aw_iload (q := 793) dL_law_791 rfl rfl ?_
  refine aw_iconst (q := 794) dL_law_793 rfl (by omega) ?_
  refine aw_iadd (q := 795) dL_law_794 rfl (by omega) ?_
  refine aw_sld (j := 5 * t + 2) (q := 796) dL_law_795 rfl (by omega) (by omega) (fun rx4 => ?_)
  refine aw_callV [vI (f (5 * t + 1)), vI (f (5 * t + 2))] (q := 799) dL_law_796 rfl ck_X7_gap lk_L_138 rfl ⟨Nat.le_of_ble_eq_true rfl, Nat.le_of_ble_eq_true rfl⟩ rfl rfl h822 rfl (Nat.le_of_ble_eq_true rfl) ⟨show 200 + 10 * t + 1 + 0 ≤ 601024 by omega, show 10000 + 60 * t + 6 + 0 ≤ 7293034 by omega⟩ (m_X7_gap hm2 hO) rfl (fun E n1 μ9 h => (FIN_x (fin_gap hC hm hO h101 hQ hW h)).elim) ?_
  rintro v n9 μ3 - hQm
  obtain ⟨b, hb, th', D', dv', Fn', fv', sv', pk', fd', spd', lim', o9', hth, hC', hm', hO', h101', hk0⟩ := fin_gap hC hm hO h101 hQ hW hQm
  have hn9 := hQm.1
  obtain rfl := hn9
  obtain rfl := Sum.inl.inj hb
  obtain ⟨fs3, h823⟩ := MM_82 hm'
  refine aw_istore (q := 801) dL_law_799 rfl (by decide) ?_
  refine aw_ls (ls := [some (vS), some (vR 0), some (vR 82), some (vR 101), some (vI (ix)), some (vI (k9)), some (vI (b)), none]) ⟨rfl, ⟨rfl, ⟨rfl, ⟨rfl, ⟨rfl, ⟨rfl, ⟨rfl, trivial⟩⟩⟩⟩⟩⟩⟩ ?_
  refine aw_aload_n (q := 802) dL_law_801 rfl rfl rfl ?_
  refine aw_callV [] (q := 805) dL_law_802 rfl ck_X7_thrown lk_L_105 rfl ⟨Nat.le_of_ble_eq_true rfl, Nat.le_of_ble_eq_true rfl⟩ rfl rfl h823 rfl (Nat.le_of_ble_eq_true rfl) ⟨show 200 + 10 * t + 1 + 0 ≤ 601024 by omega, show 10000 + 60 * t + 6 + 0 ≤ 7293034 by omega⟩ (m_X7_thrown hm' hO') rfl (fun _ _ _ h => (Rt_x h).elim) ?_
  rintro v n9 μ9 - ⟨v9, hv9, hn9, hm9, rfl⟩
  obtain rfl := hn9.symm
  obtain rfl := hm9.symm
  obtain rfl := Sum.inl.inj hv9
  refine aw_iload (q := 807) dL_law_805 rfl rfl ?_
  refine aw_ic_eq (t := 812) (q := 810) dL_law_807 rfl (by decide) (fun bc5 => ?_) (fun bc5 => ?_)
  · skip
    refine aw_iload (q := 814) dL_law_812 rfl rfl ?_
    refine aw_if_ne (t := 829) (q := 817) dL_law_814 rfl (by decide) (fun bc6 => ?_) (fun bc6 => ?_)
    · skip
      refine aw_goto (q := 1775) dL_law_829 (by decide) ?_
      refine aw_ls (ls := [some (vS), some (vR 0), some (vR 82), some (vR 101), some (vI (ix)), none, none, none]) ⟨rfl, ⟨rfl, ⟨rfl, ⟨rfl, ⟨rfl, trivial⟩⟩⟩⟩⟩ ?_
      exact aw_widen (show 200 + 10 * t + 1 ≤ 200 + 10 * (t + 1) by omega) (show 10000 + 60 * t + 6 ≤ 10000 + 60 * (t + 1) by omega) (K _ ⟨th', D', dv', Fn', fv', sv', pk', fd', spd', lim', o9', hC', hm', hO', h101'⟩)
    · skip
      have hk1 := hk0 (by omega)
      refine aw_aload_n (q := 818) dL_law_817 rfl rfl rfl ?_
      refine aw_iconst (q := 819) dL_law_818 rfl (by omega) ?_
      refine aw_laload (j := 0) (q := 820) dL_law_819 rfl h101' (by omega) (by omega) (fun rx7 => ?_)
      refine aw_iload (q := 822) dL_law_820 rfl rfl ?_
      refine aw_i2l (q := 823) dL_law_822 rfl ?_
      refine aw_lcmp (q := 824) dL_law_823 rfl ?_
      refine aw_if_eq (t := 829) (q := 827) dL_law_824 rfl (by decide) (fun bc8 => ?_) (fun bc8 => ?_)
      · skip
        replace bc8 := cmpz_eq.mp bc8
        refine aw_goto (q := 1775) dL_law_829 (by decide) ?_
        refine aw_ls (ls := [some (vS), some (vR 0), some (vR 82), some (vR 101), some (vI (ix)), none, none, none]) ⟨rfl, ⟨rfl, ⟨rfl, ⟨rfl, ⟨rfl, trivial⟩⟩⟩⟩⟩ ?_
        exact aw_widen (show 200 + 10 * t + 1 ≤ 200 + 10 * (t + 1) by omega) (show 10000 + 60 * t + 6 ≤ 10000 + 60 * (t + 1) by omega) (K _ ⟨th', D', dv', Fn', fv', sv', pk', fd', spd', lim', o9', hC', hm', hO', h101'⟩)
      · skip
        replace bc8 := mt cmpz_eq.mpr bc8
        omega
  · skip
    omega
set_option maxHeartbeats 4000000 in
set_option maxRecDepth 100000 in
theorem lc_could {L : Nat} {f : Nat → Int} {μ : AH} {t : Nat} {ix : Int} (hix : ix = ((5 * t : Nat) : Int)) (ht : 5 * t + 5 ≤ L) (hL : L ≤ 2560) (hI : INV (t : Int) μ) (K : ∀ μ' : AH, INV ((t : Int) + 1) μ' → AW YL_law (some (L, f)) QL 1775 [some (vS), some (vR 0), some (vR 82), some (vR 101), some (vI (ix)), none, none, none] [] 102 μ' (200 + 10 * (t + 1)) (10000 + 60 * (t + 1))) : AW YL_law (some (L, f)) QL 832 [some (vS), some (vR 0), some (vR 82), some (vR 101), some (vI (ix)), none, none, none] [] 102 μ (200 + 10 * t) (10000 + 60 * t) := by
  obtain ⟨th, D, dv, Fn, fv, sv, pk, fd, spd, lim, o9, hC, hm, hO, h101⟩ := hI
  refine aw_aload_n (q := 833) dL_law_832 rfl rfl rfl ?_
  refine aw_aload_s (q := 834) dL_law_833 rfl rfl rfl ?_
  refine aw_iload (q := 836) dL_law_834 rfl rfl ?_
  refine aw_iconst (q := 837) dL_law_836 rfl (by omega) ?_
  refine aw_iadd (q := 838) dL_law_837 rfl (by omega) ?_
  refine aw_sld (j := 5 * t + 1) (q := 839) dL_law_838 rfl (by omega) (by omega) (fun rx1 => ?_)
  refine aw_aload_s (q := 840) dL_law_839 rfl rfl rfl ?_
  refine aw_iload (q := 842) dL_law_840 rfl rfl ?_
  refine aw_iconst (q := 843) dL_law_842 rfl (by omega) ?_
  refine aw_iadd (q := 844) dL_law_843 rfl (by omega) ?_
  refine aw_sld (j := 5 * t + 2) (q := 845) dL_law_844 rfl (by omega) (by omega) (fun rx2 => ?_)
  refine aw_aload_s (q := 846) dL_law_845 rfl rfl rfl ?_
  refine aw_iload (q := 848) dL_law_846 rfl rfl ?_
  refine aw_iconst (q := 849) dL_law_848 rfl (by omega) ?_
  refine aw_iadd (q := 850) dL_law_849 rfl (by omega) ?_
  refine aw_sld (j := 5 * t + 3) (q := 851) dL_law_850 rfl (by omega) (by omega) (fun rx3 => ?_)
  refine aw_aload_s (q := 852) dL_law_851 rfl rfl rfl ?_
  refine aw_iload (q := 854) dL_law_852 rfl rfl ?_
  refine aw_iconst (q := 855) dL_law_854 rfl (by omega) ?_
  refine aw_iadd (q := 856) dL_law_855 rfl (by omega) ?_
  refine aw_sld (j := 5 * t + 4) (q := 857) dL_law_856 rfl (by omega) (by omega) (fun rx4 => ?_)
  refine aw_aload_n (q := 858) dL_law_857 rfl rfl rfl ?_
  refine aw_callSH [vR 0, vI (f (5 * t + 1)), vI (f (5 * t + 2)), vI (f (5 * t + 3)), vI (f (5 * t + 4)), vR 101] (q := 861) dL_law_858 rfl ck_L_could lk_L_139 (List.cons_ne_nil _ _) ⟨Nat.le_of_ble_eq_true rfl, Nat.le_of_ble_eq_true rfl⟩ rfl rfl (Nat.le_of_ble_eq_true rfl) ⟨show 200 + 10 * t + 4 ≤ 601024 by omega, show 10000 + 60 * t + 24 ≤ 7293034 by omega⟩ (lf_could hC hO h101) (fun _ _ _ h => Rt_x h) ?_
  rintro v n9 μ2 - ⟨v9, hv9, hn9, k9, hk9, hfr, o, μ1, hQ, hW⟩
  obtain rfl := hn9
  subst hk9
  obtain rfl := Sum.inl.inj hv9
  have hm2 : MM μ2 th D dv Fn fv sv pk fd spd lim := MM_k hm (fun b h1 h2 => hfr b h1 (by omega))
  obtain ⟨fs2, h822⟩ := MM_82 hm2
  refine aw_istore (q := 863) dL_law_861 rfl (by decide) ?_
  refine aw_aload_n (q := 864) dL_law_863 rfl rfl rfl ?_
  refine aw_aload_s (q := 865) dL_law_864 rfl rfl rfl ?_
  refine aw_iload (q := 867) dL_law_865 rfl rfl ?_
  refine aw_iconst (q := 868) dL_law_867 rfl (by omega) ?_
  refine aw_iadd (q := 869) dL_law_868 rfl (by omega) ?_
  refine aw_sld (j := 5 * t + 1) (q := 870) dL_law_869 rfl (by omega) (by omega) (fun rx5 => ?_)
  refine aw_aload_s (q := 871) dL_law_870 rfl rfl rfl ?_
  refine aw_iload (q := 873) dL_law_871 rfl rfl ?_
  refine aw_iconst (q := 874) dL_law_873 rfl (by omega) ?_
  refine aw_iadd (q := 875) dL_law_874 rfl (by omega) ?_
  refine aw_sld (j := 5 * t + 2) (q := 876) dL_law_875 rfl (by omega) (by omega) (fun rx6 => ?_)
  refine aw_aload_s (q := 877) dL_law_876 rfl rfl rfl ?_
  refine aw_iload (q := 879) dL_law_877 rfl rfl ?_
  refine aw_iconst (q := 880) dL_law_879 rfl (by omega) ?_
  refine aw_iadd (q := 881) dL_law_880 rfl (by omega) ?_
  refine aw_sld (j := 5 * t + 3) (q := 882) dL_law_881 rfl (by omega) (by omega) (fun rx7 => ?_)
  refine aw_aload_s (q := 883) dL_law_882 rfl rfl rfl ?_
  refine aw_iload (q := 885) dL_law_883 rfl rfl ?_
  refine aw_iconst (q := 886) dL_law_885 rfl (by omega) ?_
  refine aw_iadd (q := 887) dL_law_886 rfl (by omega) ?_
  refine aw_sld (j := 5 * t + 4) (q := 888) dL_law_887 rfl (by omega) (by omega) (fun rx8 => ?_)
  refine aw_callV [vI (f (5 * t + 1)), vI (f (5 * t + 2)), vI (f (5 * t + 3)), vI (f (5 * t + 4))] (q := 891) dL_law_888 rfl ck_X7_could lk_L_141 rfl ⟨Nat.le_of_ble_eq_true rfl, Nat.le_of_ble_eq_true rfl⟩ rfl rfl h822 rfl (Nat.le_of_ble_eq_true rfl) ⟨show 200 + 10 * t + 4 + 0 ≤ 601024 by omega, show 10000 + 60 * t + 24 + 0 ≤ 7293034 by omega⟩ (m_X7_could hm2 hO) rfl (fun E n1 μ9 h => (FIN_x (fin_could hC hm hO h101 hQ hW h)).elim) ?_
  rintro v n9 μ3 - hQm
  obtain ⟨b, hb, th', D', dv', Fn', fv', sv', pk', fd', spd', lim', o9', hth, hC', hm', hO', h101', hk0⟩ := fin_could hC hm hO h101 hQ hW hQm
  have hn9 := hQm.1
  obtain rfl := hn9
  obtain rfl := Sum.inl.inj hb
  obtain ⟨fs3, h823⟩ := MM_82 hm'
  refine aw_istore (q := 893) dL_law_891 rfl (by decide) ?_
  refine aw_ls (ls := [some (vS), some (vR 0), some (vR 82), some (vR 101), some (vI (ix)), some (vI (k9)), some (vI (b)), none]) ⟨rfl, ⟨rfl, ⟨rfl, ⟨rfl, ⟨rfl, ⟨rfl, ⟨rfl, trivial⟩⟩⟩⟩⟩⟩⟩ ?_
  refine aw_aload_n (q := 894) dL_law_893 rfl rfl rfl ?_
  refine aw_callV [] (q := 897) dL_law_894 rfl ck_X7_thrown lk_L_105 rfl ⟨Nat.le_of_ble_eq_true rfl, Nat.le_of_ble_eq_true rfl⟩ rfl rfl h823 rfl (Nat.le_of_ble_eq_true rfl) ⟨show 200 + 10 * t + 4 + 0 ≤ 601024 by omega, show 10000 + 60 * t + 24 + 0 ≤ 7293034 by omega⟩ (m_X7_thrown hm' hO') rfl (fun _ _ _ h => (Rt_x h).elim) ?_
  rintro v n9 μ9 - ⟨v9, hv9, hn9, hm9, rfl⟩
  obtain rfl := hn9.symm
  obtain rfl := hm9.symm
  obtain rfl := Sum.inl.inj hv9
  refine aw_iload (q := 899) dL_law_897 rfl rfl ?_
  refine aw_ic_eq (t := 904) (q := 902) dL_law_899 rfl (by decide) (fun bc9 => ?_) (fun bc9 => ?_)
  · skip
    refine aw_iload (q := 906) dL_law_904 rfl rfl ?_
    refine aw_if_ne (t := 928) (q := 909) dL_law_906 rfl (by decide) (fun bc10 => ?_) (fun bc10 => ?_)
    · skip
      refine aw_goto (q := 1775) dL_law_928 (by decide) ?_
      refine aw_ls (ls := [some (vS), some (vR 0), some (vR 82), some (vR 101), some (vI (ix)), none, none, none]) ⟨rfl, ⟨rfl, ⟨rfl, ⟨rfl, ⟨rfl, trivial⟩⟩⟩⟩⟩ ?_
      exact aw_widen (show 200 + 10 * t + 4 ≤ 200 + 10 * (t + 1) by omega) (show 10000 + 60 * t + 24 ≤ 10000 + 60 * (t + 1) by omega) (K _ ⟨th', D', dv', Fn', fv', sv', pk', fd', spd', lim', o9', hC', hm', hO', h101'⟩)
    · skip
      have hk1 := hk0 (by omega)
      have hb01 := b01 ((q6_could (D := D) (dv := dv) (Fn := Fn) (fv := fv) (sv := sv) (pk := pk) (fd := fd) (spd := spd) (lim := lim) hQ).2.2.imp_right (fun h => h.elim (fun h => ⟨_, h⟩) (fun h => ⟨_, h⟩))) hW hQm.2.1 h101' (fun E c h => by simp at h; omega) (by omega)
      refine aw_aload_n (q := 910) dL_law_909 rfl rfl rfl ?_
      refine aw_iconst (q := 911) dL_law_910 rfl (by omega) ?_
      refine aw_laload (j := 0) (q := 912) dL_law_911 rfl h101' (by omega) (by omega) (fun rx11 => ?_)
      refine aw_iload (q := 914) dL_law_912 rfl rfl ?_
      refine aw_if_eq (t := 921) (q := 917) dL_law_914 rfl (by decide) (fun bc12 => ?_) (fun bc12 => ?_)
      · skip
        refine aw_lconst (a := 0) (q := 922) dL_law_921 rfl rfl (by omega) ?_
        refine aw_lcmp (q := 923) dL_law_922 rfl ?_
        refine aw_if_eq (t := 928) (q := 926) dL_law_923 rfl (by decide) (fun bc13 => ?_) (fun bc13 => ?_)
        · skip
          replace bc13 := cmpz_eq.mp bc13
          refine aw_goto (q := 1775) dL_law_928 (by decide) ?_
          refine aw_ls (ls := [some (vS), some (vR 0), some (vR 82), some (vR 101), some (vI (ix)), none, none, none]) ⟨rfl, ⟨rfl, ⟨rfl, ⟨rfl, ⟨rfl, trivial⟩⟩⟩⟩⟩ ?_
          exact aw_widen (show 200 + 10 * t + 4 ≤ 200 + 10 * (t + 1) by omega) (show 10000 + 60 * t + 24 ≤ 10000 + 60 * (t + 1) by omega) (K _ ⟨th', D', dv', Fn', fv', sv', pk', fd', spd', lim', o9', hC', hm', hO', h101'⟩)
        · skip
          replace bc13 := mt cmpz_eq.mpr bc13
          omega
      · skip
        refine aw_lconst (a := 1) (q := 918) dL_law_917 rfl rfl (by omega) ?_
        refine aw_goto (q := 922) dL_law_918 (by decide) ?_
        refine aw_lcmp (q := 923) dL_law_922 rfl ?_
        refine aw_if_eq (t := 928) (q := 926) dL_law_923 rfl (by decide) (fun bc14 => ?_) (fun bc14 => ?_)
        · skip
          replace bc14 := cmpz_eq.mp bc14
          refine aw_goto (q := 1775) dL_law_928 (by decide) ?_
          refine aw_ls (ls := [some (vS), some (vR 0), some (vR 82), some (vR 101), some (vI (ix)), none, none, none]) ⟨rfl, ⟨rfl, ⟨rfl, ⟨rfl, ⟨rfl, trivial⟩⟩⟩⟩⟩ ?_
          exact aw_widen (show 200 + 10 * t + 4 ≤ 200 + 10 * (t + 1) by omega) (show 10000 + 60 * t + 24 ≤ 10000 + 60 * (t + 1) by omega) (K _ ⟨th', D', dv', Fn', fv', sv', pk', fd', spd', lim', o9', hC', hm', hO', h101'⟩)
        · skip
          replace bc14 := mt cmpz_eq.mpr bc14
          omega
  · skip
    omega
set_option maxHeartbeats 4000000 in
set_option maxRecDepth 100000 in
theorem lc_fence {L : Nat} {f : Nat → Int} {μ : AH} {t : Nat} {ix : Int} (hix : ix = ((5 * t : Nat) : Int)) (ht : 5 * t + 5 ≤ L) (hL : L ≤ 2560) (hI : INV (t : Int) μ) (K : ∀ μ' : AH, INV ((t : Int) + 1) μ' → AW YL_law (some (L, f)) QL 1775 [some (vS), some (vR 0), some (vR 82), some (vR 101), some (vI (ix)), none, none, none] [] 102 μ' (200 + 10 * (t + 1)) (10000 + 60 * (t + 1))) : AW YL_law (some (L, f)) QL 931 [some (vS), some (vR 0), some (vR 82), some (vR 101), some (vI (ix)), none, none, none] [] 102 μ (200 + 10 * t) (10000 + 60 * t) := by
  obtain ⟨th, D, dv, Fn, fv, sv, pk, fd, spd, lim, o9, hC, hm, hO, h101⟩ := hI
  refine aw_aload_n (q := 932) dL_law_931 rfl rfl rfl ?_
  refine aw_aload_n (q := 933) dL_law_932 rfl rfl rfl ?_
  refine aw_callSH [vR 0, vR 101] (q := 936) dL_law_933 rfl ck_L_fence lk_L_142 (List.cons_ne_nil _ _) ⟨Nat.le_of_ble_eq_true rfl, Nat.le_of_ble_eq_true rfl⟩ rfl rfl (Nat.le_of_ble_eq_true rfl) ⟨show 200 + 10 * t + 1 ≤ 601024 by omega, show 10000 + 60 * t + 6 ≤ 7293034 by omega⟩ (lf_fence hC hO h101) (fun _ _ _ h => Rt_x h) ?_
  rintro v n9 μ2 - ⟨v9, hv9, hn9, k9, hk9, hfr, o, μ1, hQ, hW⟩
  obtain rfl := hn9
  subst hk9
  obtain rfl := Sum.inl.inj hv9
  have hm2 : MM μ2 th D dv Fn fv sv pk fd spd lim := MM_k hm (fun b h1 h2 => hfr b h1 (by omega))
  obtain ⟨fs2, h822⟩ := MM_82 hm2
  refine aw_istore (q := 938) dL_law_936 rfl (by decide) ?_
  refine aw_aload_n (q := 939) dL_law_938 rfl rfl rfl ?_
  refine aw_callV [] (q := 942) dL_law_939 rfl ck_X7_fence lk_L_144 rfl ⟨Nat.le_of_ble_eq_true rfl, Nat.le_of_ble_eq_true rfl⟩ rfl rfl h822 rfl (Nat.le_of_ble_eq_true rfl) ⟨show 200 + 10 * t + 1 + 0 ≤ 601024 by omega, show 10000 + 60 * t + 6 + 0 ≤ 7293034 by omega⟩ (m_X7_fence hm2 hO) rfl (fun E n1 μ9 h => (FIN_x (fin_fence hC hm hO h101 hQ hW h)).elim) ?_
  rintro v n9 μ3 - hQm
  obtain ⟨b, hb, th', D', dv', Fn', fv', sv', pk', fd', spd', lim', o9', hth, hC', hm', hO', h101', hk0⟩ := fin_fence hC hm hO h101 hQ hW hQm
  have hn9 := hQm.1
  obtain rfl := hn9
  obtain rfl := Sum.inl.inj hb
  obtain ⟨fs3, h823⟩ := MM_82 hm'
  refine aw_istore (q := 944) dL_law_942 rfl (by decide) ?_
  refine aw_ls (ls := [some (vS), some (vR 0), some (vR 82), some (vR 101), some (vI (ix)), some (vI (k9)), some (vI (b)), none]) ⟨rfl, ⟨rfl, ⟨rfl, ⟨rfl, ⟨rfl, ⟨rfl, ⟨rfl, trivial⟩⟩⟩⟩⟩⟩⟩ ?_
  refine aw_aload_n (q := 945) dL_law_944 rfl rfl rfl ?_
  refine aw_callV [] (q := 948) dL_law_945 rfl ck_X7_thrown lk_L_105 rfl ⟨Nat.le_of_ble_eq_true rfl, Nat.le_of_ble_eq_true rfl⟩ rfl rfl h823 rfl (Nat.le_of_ble_eq_true rfl) ⟨show 200 + 10 * t + 1 + 0 ≤ 601024 by omega, show 10000 + 60 * t + 6 + 0 ≤ 7293034 by omega⟩ (m_X7_thrown hm' hO') rfl (fun _ _ _ h => (Rt_x h).elim) ?_
  rintro v n9 μ9 - ⟨v9, hv9, hn9, hm9, rfl⟩
  obtain rfl := hn9.symm
  obtain rfl := hm9.symm
  obtain rfl := Sum.inl.inj hv9
  refine aw_iload (q := 950) dL_law_948 rfl rfl ?_
  refine aw_ic_eq (t := 955) (q := 953) dL_law_950 rfl (by decide) (fun bc1 => ?_) (fun bc1 => ?_)
  · skip
    refine aw_iload (q := 957) dL_law_955 rfl rfl ?_
    refine aw_if_ne (t := 972) (q := 960) dL_law_957 rfl (by decide) (fun bc2 => ?_) (fun bc2 => ?_)
    · skip
      refine aw_goto (q := 1775) dL_law_972 (by decide) ?_
      refine aw_ls (ls := [some (vS), some (vR 0), some (vR 82), some (vR 101), some (vI (ix)), none, none, none]) ⟨rfl, ⟨rfl, ⟨rfl, ⟨rfl, ⟨rfl, trivial⟩⟩⟩⟩⟩ ?_
      exact aw_widen (show 200 + 10 * t + 1 ≤ 200 + 10 * (t + 1) by omega) (show 10000 + 60 * t + 6 ≤ 10000 + 60 * (t + 1) by omega) (K _ ⟨th', D', dv', Fn', fv', sv', pk', fd', spd', lim', o9', hC', hm', hO', h101'⟩)
    · skip
      have hk1 := hk0 (by omega)
      refine aw_aload_n (q := 961) dL_law_960 rfl rfl rfl ?_
      refine aw_iconst (q := 962) dL_law_961 rfl (by omega) ?_
      refine aw_laload (j := 0) (q := 963) dL_law_962 rfl h101' (by omega) (by omega) (fun rx3 => ?_)
      refine aw_iload (q := 965) dL_law_963 rfl rfl ?_
      refine aw_i2l (q := 966) dL_law_965 rfl ?_
      refine aw_lcmp (q := 967) dL_law_966 rfl ?_
      refine aw_if_eq (t := 972) (q := 970) dL_law_967 rfl (by decide) (fun bc4 => ?_) (fun bc4 => ?_)
      · skip
        replace bc4 := cmpz_eq.mp bc4
        refine aw_goto (q := 1775) dL_law_972 (by decide) ?_
        refine aw_ls (ls := [some (vS), some (vR 0), some (vR 82), some (vR 101), some (vI (ix)), none, none, none]) ⟨rfl, ⟨rfl, ⟨rfl, ⟨rfl, ⟨rfl, trivial⟩⟩⟩⟩⟩ ?_
        exact aw_widen (show 200 + 10 * t + 1 ≤ 200 + 10 * (t + 1) by omega) (show 10000 + 60 * t + 6 ≤ 10000 + 60 * (t + 1) by omega) (K _ ⟨th', D', dv', Fn', fv', sv', pk', fd', spd', lim', o9', hC', hm', hO', h101'⟩)
      · skip
        replace bc4 := mt cmpz_eq.mpr bc4
        omega
  · skip
    omega
set_option maxHeartbeats 4000000 in
set_option maxRecDepth 100000 in
theorem lc_corner {L : Nat} {f : Nat → Int} {μ : AH} {t : Nat} {ix : Int} (hix : ix = ((5 * t : Nat) : Int)) (ht : 5 * t + 5 ≤ L) (hL : L ≤ 2560) (hI : INV (t : Int) μ) (K : ∀ μ' : AH, INV ((t : Int) + 1) μ' → AW YL_law (some (L, f)) QL 1775 [some (vS), some (vR 0), some (vR 82), some (vR 101), some (vI (ix)), none, none, none] [] 102 μ' (200 + 10 * (t + 1)) (10000 + 60 * (t + 1))) : AW YL_law (some (L, f)) QL 975 [some (vS), some (vR 0), some (vR 82), some (vR 101), some (vI (ix)), none, none, none] [] 102 μ (200 + 10 * t) (10000 + 60 * t) := by
  obtain ⟨th, D, dv, Fn, fv, sv, pk, fd, spd, lim, o9, hC, hm, hO, h101⟩ := hI
  refine aw_aload_n (q := 976) dL_law_975 rfl rfl rfl ?_
  refine aw_aload_s (q := 977) dL_law_976 rfl rfl rfl ?_
  refine aw_iload (q := 979) dL_law_977 rfl rfl ?_
  refine aw_iconst (q := 980) dL_law_979 rfl (by omega) ?_
  refine aw_iadd (q := 981) dL_law_980 rfl (by omega) ?_
  refine aw_sld (j := 5 * t + 1) (q := 982) dL_law_981 rfl (by omega) (by omega) (fun rx1 => ?_)
  refine aw_aload_s (q := 983) dL_law_982 rfl rfl rfl ?_
  refine aw_iload (q := 985) dL_law_983 rfl rfl ?_
  refine aw_iconst (q := 986) dL_law_985 rfl (by omega) ?_
  refine aw_iadd (q := 987) dL_law_986 rfl (by omega) ?_
  refine aw_sld (j := 5 * t + 2) (q := 988) dL_law_987 rfl (by omega) (by omega) (fun rx2 => ?_)
  refine aw_aload_s (q := 989) dL_law_988 rfl rfl rfl ?_
  refine aw_iload (q := 991) dL_law_989 rfl rfl ?_
  refine aw_iconst (q := 992) dL_law_991 rfl (by omega) ?_
  refine aw_iadd (q := 993) dL_law_992 rfl (by omega) ?_
  refine aw_sld (j := 5 * t + 3) (q := 994) dL_law_993 rfl (by omega) (by omega) (fun rx3 => ?_)
  refine aw_aload_n (q := 995) dL_law_994 rfl rfl rfl ?_
  refine aw_callSH [vR 0, vI (f (5 * t + 1)), vI (f (5 * t + 2)), vI (f (5 * t + 3)), vR 101] (q := 998) dL_law_995 rfl ck_L_corner lk_L_145 (List.cons_ne_nil _ _) ⟨Nat.le_of_ble_eq_true rfl, Nat.le_of_ble_eq_true rfl⟩ rfl rfl (Nat.le_of_ble_eq_true rfl) ⟨show 200 + 10 * t + 4 ≤ 601024 by omega, show 10000 + 60 * t + 24 ≤ 7293034 by omega⟩ (lf_corner hC hO h101) (fun _ _ _ h => Rt_x h) ?_
  rintro v n9 μ2 - ⟨v9, hv9, hn9, k9, hk9, hfr, o, μ1, hQ, hW⟩
  obtain rfl := hn9
  subst hk9
  obtain rfl := Sum.inl.inj hv9
  have hm2 : MM μ2 th D dv Fn fv sv pk fd spd lim := MM_k hm (fun b h1 h2 => hfr b h1 (by omega))
  obtain ⟨fs2, h822⟩ := MM_82 hm2
  refine aw_istore (q := 1000) dL_law_998 rfl (by decide) ?_
  refine aw_aload_n (q := 1001) dL_law_1000 rfl rfl rfl ?_
  refine aw_aload_s (q := 1002) dL_law_1001 rfl rfl rfl ?_
  refine aw_iload (q := 1004) dL_law_1002 rfl rfl ?_
  refine aw_iconst (q := 1005) dL_law_1004 rfl (by omega) ?_
  refine aw_iadd (q := 1006) dL_law_1005 rfl (by omega) ?_
  refine aw_sld (j := 5 * t + 1) (q := 1007) dL_law_1006 rfl (by omega) (by omega) (fun rx4 => ?_)
  refine aw_aload_s (q := 1008) dL_law_1007 rfl rfl rfl ?_
  refine aw_iload (q := 1010) dL_law_1008 rfl rfl ?_
  refine aw_iconst (q := 1011) dL_law_1010 rfl (by omega) ?_
  refine aw_iadd (q := 1012) dL_law_1011 rfl (by omega) ?_
  refine aw_sld (j := 5 * t + 2) (q := 1013) dL_law_1012 rfl (by omega) (by omega) (fun rx5 => ?_)
  refine aw_aload_s (q := 1014) dL_law_1013 rfl rfl rfl ?_
  refine aw_iload (q := 1016) dL_law_1014 rfl rfl ?_
  refine aw_iconst (q := 1017) dL_law_1016 rfl (by omega) ?_
  refine aw_iadd (q := 1018) dL_law_1017 rfl (by omega) ?_
  refine aw_sld (j := 5 * t + 3) (q := 1019) dL_law_1018 rfl (by omega) (by omega) (fun rx6 => ?_)
  refine aw_callV [vI (f (5 * t + 1)), vI (f (5 * t + 2)), vI (f (5 * t + 3))] (q := 1022) dL_law_1019 rfl ck_X7_corner lk_L_147 rfl ⟨Nat.le_of_ble_eq_true rfl, Nat.le_of_ble_eq_true rfl⟩ rfl rfl h822 rfl (Nat.le_of_ble_eq_true rfl) ⟨show 200 + 10 * t + 4 + 0 ≤ 601024 by omega, show 10000 + 60 * t + 24 + 0 ≤ 7293034 by omega⟩ (m_X7_corner hm2 hO) rfl (fun E n1 μ9 h => (FIN_x (fin_corner hC hm hO h101 hQ hW h)).elim) ?_
  rintro v n9 μ3 - hQm
  obtain ⟨b, hb, th', D', dv', Fn', fv', sv', pk', fd', spd', lim', o9', hth, hC', hm', hO', h101', hk0⟩ := fin_corner hC hm hO h101 hQ hW hQm
  have hn9 := hQm.1
  obtain rfl := hn9
  obtain rfl := Sum.inl.inj hb
  obtain ⟨fs3, h823⟩ := MM_82 hm'
  refine aw_istore (q := 1024) dL_law_1022 rfl (by decide) ?_
  refine aw_ls (ls := [some (vS), some (vR 0), some (vR 82), some (vR 101), some (vI (ix)), some (vI (k9)), some (vI (b)), none]) ⟨rfl, ⟨rfl, ⟨rfl, ⟨rfl, ⟨rfl, ⟨rfl, ⟨rfl, trivial⟩⟩⟩⟩⟩⟩⟩ ?_
  refine aw_aload_n (q := 1025) dL_law_1024 rfl rfl rfl ?_
  refine aw_callV [] (q := 1028) dL_law_1025 rfl ck_X7_thrown lk_L_105 rfl ⟨Nat.le_of_ble_eq_true rfl, Nat.le_of_ble_eq_true rfl⟩ rfl rfl h823 rfl (Nat.le_of_ble_eq_true rfl) ⟨show 200 + 10 * t + 4 + 0 ≤ 601024 by omega, show 10000 + 60 * t + 24 + 0 ≤ 7293034 by omega⟩ (m_X7_thrown hm' hO') rfl (fun _ _ _ h => (Rt_x h).elim) ?_
  rintro v n9 μ9 - ⟨v9, hv9, hn9, hm9, rfl⟩
  obtain rfl := hn9.symm
  obtain rfl := hm9.symm
  obtain rfl := Sum.inl.inj hv9
  refine aw_iload (q := 1030) dL_law_1028 rfl rfl ?_
  refine aw_ic_eq (t := 1035) (q := 1033) dL_law_1030 rfl (by decide) (fun bc7 => ?_) (fun bc7 => ?_)
  · skip
    refine aw_iload (q := 1037) dL_law_1035 rfl rfl ?_
    refine aw_if_ne (t := 1052) (q := 1040) dL_law_1037 rfl (by decide) (fun bc8 => ?_) (fun bc8 => ?_)
    · skip
      refine aw_goto (q := 1775) dL_law_1052 (by decide) ?_
      refine aw_ls (ls := [some (vS), some (vR 0), some (vR 82), some (vR 101), some (vI (ix)), none, none, none]) ⟨rfl, ⟨rfl, ⟨rfl, ⟨rfl, ⟨rfl, trivial⟩⟩⟩⟩⟩ ?_
      exact aw_widen (show 200 + 10 * t + 4 ≤ 200 + 10 * (t + 1) by omega) (show 10000 + 60 * t + 24 ≤ 10000 + 60 * (t + 1) by omega) (K _ ⟨th', D', dv', Fn', fv', sv', pk', fd', spd', lim', o9', hC', hm', hO', h101'⟩)
    · skip
      have hk1 := hk0 (by omega)
      refine aw_aload_n (q := 1041) dL_law_1040 rfl rfl rfl ?_
      refine aw_iconst (q := 1042) dL_law_1041 rfl (by omega) ?_
      refine aw_laload (j := 0) (q := 1043) dL_law_1042 rfl h101' (by omega) (by omega) (fun rx9 => ?_)
      refine aw_iload (q := 1045) dL_law_1043 rfl rfl ?_
      refine aw_i2l (q := 1046) dL_law_1045 rfl ?_
      refine aw_lcmp (q := 1047) dL_law_1046 rfl ?_
      refine aw_if_eq (t := 1052) (q := 1050) dL_law_1047 rfl (by decide) (fun bc10 => ?_) (fun bc10 => ?_)
      · skip
        replace bc10 := cmpz_eq.mp bc10
        refine aw_goto (q := 1775) dL_law_1052 (by decide) ?_
        refine aw_ls (ls := [some (vS), some (vR 0), some (vR 82), some (vR 101), some (vI (ix)), none, none, none]) ⟨rfl, ⟨rfl, ⟨rfl, ⟨rfl, ⟨rfl, trivial⟩⟩⟩⟩⟩ ?_
        exact aw_widen (show 200 + 10 * t + 4 ≤ 200 + 10 * (t + 1) by omega) (show 10000 + 60 * t + 24 ≤ 10000 + 60 * (t + 1) by omega) (K _ ⟨th', D', dv', Fn', fv', sv', pk', fd', spd', lim', o9', hC', hm', hO', h101'⟩)
      · skip
        replace bc10 := mt cmpz_eq.mpr bc10
        omega
  · skip
    omega
set_option maxHeartbeats 4000000 in
set_option maxRecDepth 100000 in
theorem lc_in {L : Nat} {f : Nat → Int} {μ : AH} {t : Nat} {ix : Int} (hix : ix = ((5 * t : Nat) : Int)) (ht : 5 * t + 5 ≤ L) (hL : L ≤ 2560) (hI : INV (t : Int) μ) (K : ∀ μ' : AH, INV ((t : Int) + 1) μ' → AW YL_law (some (L, f)) QL 1775 [some (vS), some (vR 0), some (vR 82), some (vR 101), some (vI (ix)), none, none, none] [] 102 μ' (200 + 10 * (t + 1)) (10000 + 60 * (t + 1))) : AW YL_law (some (L, f)) QL 1055 [some (vS), some (vR 0), some (vR 82), some (vR 101), some (vI (ix)), none, none, none] [] 102 μ (200 + 10 * t) (10000 + 60 * t) := by
  obtain ⟨th, D, dv, Fn, fv, sv, pk, fd, spd, lim, o9, hC, hm, hO, h101⟩ := hI
  refine aw_aload_n (q := 1056) dL_law_1055 rfl rfl rfl ?_
  refine aw_aload_s (q := 1057) dL_law_1056 rfl rfl rfl ?_
  refine aw_iload (q := 1059) dL_law_1057 rfl rfl ?_
  refine aw_iconst (q := 1060) dL_law_1059 rfl (by omega) ?_
  refine aw_iadd (q := 1061) dL_law_1060 rfl (by omega) ?_
  refine aw_sld (j := 5 * t + 1) (q := 1062) dL_law_1061 rfl (by omega) (by omega) (fun rx1 => ?_)
  refine aw_aload_s (q := 1063) dL_law_1062 rfl rfl rfl ?_
  refine aw_iload (q := 1065) dL_law_1063 rfl rfl ?_
  refine aw_iconst (q := 1066) dL_law_1065 rfl (by omega) ?_
  refine aw_iadd (q := 1067) dL_law_1066 rfl (by omega) ?_
  refine aw_sld (j := 5 * t + 2) (q := 1068) dL_law_1067 rfl (by omega) (by omega) (fun rx2 => ?_)
  refine aw_aload_s (q := 1069) dL_law_1068 rfl rfl rfl ?_
  refine aw_iload (q := 1071) dL_law_1069 rfl rfl ?_
  refine aw_iconst (q := 1072) dL_law_1071 rfl (by omega) ?_
  refine aw_iadd (q := 1073) dL_law_1072 rfl (by omega) ?_
  refine aw_sld (j := 5 * t + 3) (q := 1074) dL_law_1073 rfl (by omega) (by omega) (fun rx3 => ?_)
  refine aw_aload_n (q := 1075) dL_law_1074 rfl rfl rfl ?_
  refine aw_callSH [vR 0, vI (f (5 * t + 1)), vI (f (5 * t + 2)), vI (f (5 * t + 3)), vR 101] (q := 1078) dL_law_1075 rfl ck_L_in lk_L_148 (List.cons_ne_nil _ _) ⟨Nat.le_of_ble_eq_true rfl, Nat.le_of_ble_eq_true rfl⟩ rfl rfl (Nat.le_of_ble_eq_true rfl) ⟨show 200 + 10 * t + 3 ≤ 601024 by omega, show 10000 + 60 * t + 18 ≤ 7293034 by omega⟩ (lf_in hC hO h101) (fun _ _ _ h => Rt_x h) ?_
  rintro v n9 μ2 - ⟨v9, hv9, hn9, k9, hk9, hfr, o, μ1, hQ, hW⟩
  obtain rfl := hn9
  subst hk9
  obtain rfl := Sum.inl.inj hv9
  have hm2 : MM μ2 th D dv Fn fv sv pk fd spd lim := MM_k hm (fun b h1 h2 => hfr b h1 (by omega))
  obtain ⟨fs2, h822⟩ := MM_82 hm2
  refine aw_istore (q := 1080) dL_law_1078 rfl (by decide) ?_
  refine aw_aload_n (q := 1081) dL_law_1080 rfl rfl rfl ?_
  refine aw_aload_s (q := 1082) dL_law_1081 rfl rfl rfl ?_
  refine aw_iload (q := 1084) dL_law_1082 rfl rfl ?_
  refine aw_iconst (q := 1085) dL_law_1084 rfl (by omega) ?_
  refine aw_iadd (q := 1086) dL_law_1085 rfl (by omega) ?_
  refine aw_sld (j := 5 * t + 1) (q := 1087) dL_law_1086 rfl (by omega) (by omega) (fun rx4 => ?_)
  refine aw_aload_s (q := 1088) dL_law_1087 rfl rfl rfl ?_
  refine aw_iload (q := 1090) dL_law_1088 rfl rfl ?_
  refine aw_iconst (q := 1091) dL_law_1090 rfl (by omega) ?_
  refine aw_iadd (q := 1092) dL_law_1091 rfl (by omega) ?_
  refine aw_sld (j := 5 * t + 2) (q := 1093) dL_law_1092 rfl (by omega) (by omega) (fun rx5 => ?_)
  refine aw_aload_s (q := 1094) dL_law_1093 rfl rfl rfl ?_
  refine aw_iload (q := 1096) dL_law_1094 rfl rfl ?_
  refine aw_iconst (q := 1097) dL_law_1096 rfl (by omega) ?_
  refine aw_iadd (q := 1098) dL_law_1097 rfl (by omega) ?_
  refine aw_sld (j := 5 * t + 3) (q := 1099) dL_law_1098 rfl (by omega) (by omega) (fun rx6 => ?_)
  refine aw_callV [vI (f (5 * t + 1)), vI (f (5 * t + 2)), vI (f (5 * t + 3))] (q := 1102) dL_law_1099 rfl ck_X7_in lk_L_150 rfl ⟨Nat.le_of_ble_eq_true rfl, Nat.le_of_ble_eq_true rfl⟩ rfl rfl h822 rfl (Nat.le_of_ble_eq_true rfl) ⟨show 200 + 10 * t + 3 + 0 ≤ 601024 by omega, show 10000 + 60 * t + 18 + 0 ≤ 7293034 by omega⟩ (m_X7_in hm2 hO) rfl (fun E n1 μ9 h => (FIN_x (fin_in hC hm hO h101 hQ hW h)).elim) ?_
  rintro v n9 μ3 - hQm
  obtain ⟨b, hb, th', D', dv', Fn', fv', sv', pk', fd', spd', lim', o9', hth, hC', hm', hO', h101', hk0⟩ := fin_in hC hm hO h101 hQ hW hQm
  have hn9 := hQm.1
  obtain rfl := hn9
  obtain rfl := Sum.inl.inj hb
  obtain ⟨fs3, h823⟩ := MM_82 hm'
  refine aw_istore (q := 1104) dL_law_1102 rfl (by decide) ?_
  refine aw_ls (ls := [some (vS), some (vR 0), some (vR 82), some (vR 101), some (vI (ix)), some (vI (k9)), some (vI (b)), none]) ⟨rfl, ⟨rfl, ⟨rfl, ⟨rfl, ⟨rfl, ⟨rfl, ⟨rfl, trivial⟩⟩⟩⟩⟩⟩⟩ ?_
  refine aw_aload_n (q := 1105) dL_law_1104 rfl rfl rfl ?_
  refine aw_callV [] (q := 1108) dL_law_1105 rfl ck_X7_thrown lk_L_105 rfl ⟨Nat.le_of_ble_eq_true rfl, Nat.le_of_ble_eq_true rfl⟩ rfl rfl h823 rfl (Nat.le_of_ble_eq_true rfl) ⟨show 200 + 10 * t + 3 + 0 ≤ 601024 by omega, show 10000 + 60 * t + 18 + 0 ≤ 7293034 by omega⟩ (m_X7_thrown hm' hO') rfl (fun _ _ _ h => (Rt_x h).elim) ?_
  rintro v n9 μ9 - ⟨v9, hv9, hn9, hm9, rfl⟩
  obtain rfl := hn9.symm
  obtain rfl := hm9.symm
  obtain rfl := Sum.inl.inj hv9
  refine aw_iload (q := 1110) dL_law_1108 rfl rfl ?_
  refine aw_ic_eq (t := 1115) (q := 1113) dL_law_1110 rfl (by decide) (fun bc7 => ?_) (fun bc7 => ?_)
  · skip
    refine aw_iload (q := 1117) dL_law_1115 rfl rfl ?_
    refine aw_if_ne (t := 1139) (q := 1120) dL_law_1117 rfl (by decide) (fun bc8 => ?_) (fun bc8 => ?_)
    · skip
      refine aw_goto (q := 1775) dL_law_1139 (by decide) ?_
      refine aw_ls (ls := [some (vS), some (vR 0), some (vR 82), some (vR 101), some (vI (ix)), none, none, none]) ⟨rfl, ⟨rfl, ⟨rfl, ⟨rfl, ⟨rfl, trivial⟩⟩⟩⟩⟩ ?_
      exact aw_widen (show 200 + 10 * t + 3 ≤ 200 + 10 * (t + 1) by omega) (show 10000 + 60 * t + 18 ≤ 10000 + 60 * (t + 1) by omega) (K _ ⟨th', D', dv', Fn', fv', sv', pk', fd', spd', lim', o9', hC', hm', hO', h101'⟩)
    · skip
      have hk1 := hk0 (by omega)
      have hb01 := b01 ((q6_in (D := D) (dv := dv) (Fn := Fn) (fv := fv) (sv := sv) (pk := pk) (fd := fd) (spd := spd) (lim := lim) hQ).2.2.imp_right (fun h => ⟨_, h⟩)) hW hQm.2.1 h101' (fun E c h => by simp at h; omega) (by omega)
      refine aw_aload_n (q := 1121) dL_law_1120 rfl rfl rfl ?_
      refine aw_iconst (q := 1122) dL_law_1121 rfl (by omega) ?_
      refine aw_laload (j := 0) (q := 1123) dL_law_1122 rfl h101' (by omega) (by omega) (fun rx9 => ?_)
      refine aw_iload (q := 1125) dL_law_1123 rfl rfl ?_
      refine aw_if_eq (t := 1132) (q := 1128) dL_law_1125 rfl (by decide) (fun bc10 => ?_) (fun bc10 => ?_)
      · skip
        refine aw_lconst (a := 0) (q := 1133) dL_law_1132 rfl rfl (by omega) ?_
        refine aw_lcmp (q := 1134) dL_law_1133 rfl ?_
        refine aw_if_eq (t := 1139) (q := 1137) dL_law_1134 rfl (by decide) (fun bc11 => ?_) (fun bc11 => ?_)
        · skip
          replace bc11 := cmpz_eq.mp bc11
          refine aw_goto (q := 1775) dL_law_1139 (by decide) ?_
          refine aw_ls (ls := [some (vS), some (vR 0), some (vR 82), some (vR 101), some (vI (ix)), none, none, none]) ⟨rfl, ⟨rfl, ⟨rfl, ⟨rfl, ⟨rfl, trivial⟩⟩⟩⟩⟩ ?_
          exact aw_widen (show 200 + 10 * t + 3 ≤ 200 + 10 * (t + 1) by omega) (show 10000 + 60 * t + 18 ≤ 10000 + 60 * (t + 1) by omega) (K _ ⟨th', D', dv', Fn', fv', sv', pk', fd', spd', lim', o9', hC', hm', hO', h101'⟩)
        · skip
          replace bc11 := mt cmpz_eq.mpr bc11
          omega
      · skip
        refine aw_lconst (a := 1) (q := 1129) dL_law_1128 rfl rfl (by omega) ?_
        refine aw_goto (q := 1133) dL_law_1129 (by decide) ?_
        refine aw_lcmp (q := 1134) dL_law_1133 rfl ?_
        refine aw_if_eq (t := 1139) (q := 1137) dL_law_1134 rfl (by decide) (fun bc12 => ?_) (fun bc12 => ?_)
        · skip
          replace bc12 := cmpz_eq.mp bc12
          refine aw_goto (q := 1775) dL_law_1139 (by decide) ?_
          refine aw_ls (ls := [some (vS), some (vR 0), some (vR 82), some (vR 101), some (vI (ix)), none, none, none]) ⟨rfl, ⟨rfl, ⟨rfl, ⟨rfl, ⟨rfl, trivial⟩⟩⟩⟩⟩ ?_
          exact aw_widen (show 200 + 10 * t + 3 ≤ 200 + 10 * (t + 1) by omega) (show 10000 + 60 * t + 18 ≤ 10000 + 60 * (t + 1) by omega) (K _ ⟨th', D', dv', Fn', fv', sv', pk', fd', spd', lim', o9', hC', hm', hO', h101'⟩)
        · skip
          replace bc12 := mt cmpz_eq.mpr bc12
          omega
  · skip
    omega
set_option maxHeartbeats 4000000 in
set_option maxRecDepth 100000 in
theorem lc_port {L : Nat} {f : Nat → Int} {μ : AH} {t : Nat} {ix : Int} (hix : ix = ((5 * t : Nat) : Int)) (ht : 5 * t + 5 ≤ L) (hL : L ≤ 2560) (hI : INV (t : Int) μ) (K : ∀ μ' : AH, INV ((t : Int) + 1) μ' → AW YL_law (some (L, f)) QL 1775 [some (vS), some (vR 0), some (vR 82), some (vR 101), some (vI (ix)), none, none, none] [] 102 μ' (200 + 10 * (t + 1)) (10000 + 60 * (t + 1))) : AW YL_law (some (L, f)) QL 1142 [some (vS), some (vR 0), some (vR 82), some (vR 101), some (vI (ix)), none, none, none] [] 102 μ (200 + 10 * t) (10000 + 60 * t) := by
  obtain ⟨th, D, dv, Fn, fv, sv, pk, fd, spd, lim, o9, hC, hm, hO, h101⟩ := hI
  refine aw_aload_n (q := 1143) dL_law_1142 rfl rfl rfl ?_
  refine aw_aload_s (q := 1144) dL_law_1143 rfl rfl rfl ?_
  refine aw_iload (q := 1146) dL_law_1144 rfl rfl ?_
  refine aw_iconst (q := 1147) dL_law_1146 rfl (by omega) ?_
  refine aw_iadd (q := 1148) dL_law_1147 rfl (by omega) ?_
  refine aw_sld (j := 5 * t + 1) (q := 1149) dL_law_1148 rfl (by omega) (by omega) (fun rx1 => ?_)
  refine aw_aload_s (q := 1150) dL_law_1149 rfl rfl rfl ?_
  refine aw_iload (q := 1152) dL_law_1150 rfl rfl ?_
  refine aw_iconst (q := 1153) dL_law_1152 rfl (by omega) ?_
  refine aw_iadd (q := 1154) dL_law_1153 rfl (by omega) ?_
  refine aw_sld (j := 5 * t + 2) (q := 1155) dL_law_1154 rfl (by omega) (by omega) (fun rx2 => ?_)
  refine aw_aload_n (q := 1156) dL_law_1155 rfl rfl rfl ?_
  refine aw_callSH [vR 0, vI (f (5 * t + 1)), vI (f (5 * t + 2)), vR 101] (q := 1159) dL_law_1156 rfl ck_L_port lk_L_151 (List.cons_ne_nil _ _) ⟨Nat.le_of_ble_eq_true rfl, Nat.le_of_ble_eq_true rfl⟩ rfl rfl (Nat.le_of_ble_eq_true rfl) ⟨show 200 + 10 * t + 2 ≤ 601024 by omega, show 10000 + 60 * t + 12 ≤ 7293034 by omega⟩ (lf_port hC hO h101) (fun _ _ _ h => Rt_x h) ?_
  rintro v n9 μ2 - ⟨v9, hv9, hn9, k9, hk9, hfr, o, μ1, hQ, hW⟩
  obtain rfl := hn9
  subst hk9
  obtain rfl := Sum.inl.inj hv9
  have hm2 : MM μ2 th D dv Fn fv sv pk fd spd lim := MM_k hm (fun b h1 h2 => hfr b h1 (by omega))
  obtain ⟨fs2, h822⟩ := MM_82 hm2
  refine aw_istore (q := 1161) dL_law_1159 rfl (by decide) ?_
  refine aw_aload_n (q := 1162) dL_law_1161 rfl rfl rfl ?_
  refine aw_aload_s (q := 1163) dL_law_1162 rfl rfl rfl ?_
  refine aw_iload (q := 1165) dL_law_1163 rfl rfl ?_
  refine aw_iconst (q := 1166) dL_law_1165 rfl (by omega) ?_
  refine aw_iadd (q := 1167) dL_law_1166 rfl (by omega) ?_
  refine aw_sld (j := 5 * t + 1) (q := 1168) dL_law_1167 rfl (by omega) (by omega) (fun rx3 => ?_)
  refine aw_aload_s (q := 1169) dL_law_1168 rfl rfl rfl ?_
  refine aw_iload (q := 1171) dL_law_1169 rfl rfl ?_
  refine aw_iconst (q := 1172) dL_law_1171 rfl (by omega) ?_
  refine aw_iadd (q := 1173) dL_law_1172 rfl (by omega) ?_
  refine aw_sld (j := 5 * t + 2) (q := 1174) dL_law_1173 rfl (by omega) (by omega) (fun rx4 => ?_)
  refine aw_callV [vI (f (5 * t + 1)), vI (f (5 * t + 2))] (q := 1177) dL_law_1174 rfl ck_X7_port lk_L_153 rfl ⟨Nat.le_of_ble_eq_true rfl, Nat.le_of_ble_eq_true rfl⟩ rfl rfl h822 rfl (Nat.le_of_ble_eq_true rfl) ⟨show 200 + 10 * t + 2 + 0 ≤ 601024 by omega, show 10000 + 60 * t + 12 + 0 ≤ 7293034 by omega⟩ (m_X7_port hm2 hO) rfl (fun E n1 μ9 h => (FIN_x (fin_port hC hm hO h101 hQ hW h)).elim) ?_
  rintro v n9 μ3 - hQm
  obtain ⟨b, hb, th', D', dv', Fn', fv', sv', pk', fd', spd', lim', o9', hth, hC', hm', hO', h101', hk0⟩ := fin_port hC hm hO h101 hQ hW hQm
  have hn9 := hQm.1
  obtain rfl := hn9
  obtain rfl := Sum.inl.inj hb
  obtain ⟨fs3, h823⟩ := MM_82 hm'
  refine aw_istore (q := 1179) dL_law_1177 rfl (by decide) ?_
  refine aw_ls (ls := [some (vS), some (vR 0), some (vR 82), some (vR 101), some (vI (ix)), some (vI (k9)), some (vI (b)), none]) ⟨rfl, ⟨rfl, ⟨rfl, ⟨rfl, ⟨rfl, ⟨rfl, ⟨rfl, trivial⟩⟩⟩⟩⟩⟩⟩ ?_
  refine aw_aload_n (q := 1180) dL_law_1179 rfl rfl rfl ?_
  refine aw_callV [] (q := 1183) dL_law_1180 rfl ck_X7_thrown lk_L_105 rfl ⟨Nat.le_of_ble_eq_true rfl, Nat.le_of_ble_eq_true rfl⟩ rfl rfl h823 rfl (Nat.le_of_ble_eq_true rfl) ⟨show 200 + 10 * t + 2 + 0 ≤ 601024 by omega, show 10000 + 60 * t + 12 + 0 ≤ 7293034 by omega⟩ (m_X7_thrown hm' hO') rfl (fun _ _ _ h => (Rt_x h).elim) ?_
  rintro v n9 μ9 - ⟨v9, hv9, hn9, hm9, rfl⟩
  obtain rfl := hn9.symm
  obtain rfl := hm9.symm
  obtain rfl := Sum.inl.inj hv9
  refine aw_iload (q := 1185) dL_law_1183 rfl rfl ?_
  refine aw_ic_eq (t := 1190) (q := 1188) dL_law_1185 rfl (by decide) (fun bc5 => ?_) (fun bc5 => ?_)
  · skip
    refine aw_iload (q := 1192) dL_law_1190 rfl rfl ?_
    refine aw_if_ne (t := 1207) (q := 1195) dL_law_1192 rfl (by decide) (fun bc6 => ?_) (fun bc6 => ?_)
    · skip
      refine aw_goto (q := 1775) dL_law_1207 (by decide) ?_
      refine aw_ls (ls := [some (vS), some (vR 0), some (vR 82), some (vR 101), some (vI (ix)), none, none, none]) ⟨rfl, ⟨rfl, ⟨rfl, ⟨rfl, ⟨rfl, trivial⟩⟩⟩⟩⟩ ?_
      exact aw_widen (show 200 + 10 * t + 2 ≤ 200 + 10 * (t + 1) by omega) (show 10000 + 60 * t + 12 ≤ 10000 + 60 * (t + 1) by omega) (K _ ⟨th', D', dv', Fn', fv', sv', pk', fd', spd', lim', o9', hC', hm', hO', h101'⟩)
    · skip
      have hk1 := hk0 (by omega)
      refine aw_aload_n (q := 1196) dL_law_1195 rfl rfl rfl ?_
      refine aw_iconst (q := 1197) dL_law_1196 rfl (by omega) ?_
      refine aw_laload (j := 0) (q := 1198) dL_law_1197 rfl h101' (by omega) (by omega) (fun rx7 => ?_)
      refine aw_iload (q := 1200) dL_law_1198 rfl rfl ?_
      refine aw_i2l (q := 1201) dL_law_1200 rfl ?_
      refine aw_lcmp (q := 1202) dL_law_1201 rfl ?_
      refine aw_if_eq (t := 1207) (q := 1205) dL_law_1202 rfl (by decide) (fun bc8 => ?_) (fun bc8 => ?_)
      · skip
        replace bc8 := cmpz_eq.mp bc8
        refine aw_goto (q := 1775) dL_law_1207 (by decide) ?_
        refine aw_ls (ls := [some (vS), some (vR 0), some (vR 82), some (vR 101), some (vI (ix)), none, none, none]) ⟨rfl, ⟨rfl, ⟨rfl, ⟨rfl, ⟨rfl, trivial⟩⟩⟩⟩⟩ ?_
        exact aw_widen (show 200 + 10 * t + 2 ≤ 200 + 10 * (t + 1) by omega) (show 10000 + 60 * t + 12 ≤ 10000 + 60 * (t + 1) by omega) (K _ ⟨th', D', dv', Fn', fv', sv', pk', fd', spd', lim', o9', hC', hm', hO', h101'⟩)
      · skip
        replace bc8 := mt cmpz_eq.mpr bc8
        omega
  · skip
    omega
set_option maxHeartbeats 4000000 in
set_option maxRecDepth 100000 in
theorem lc_pack {L : Nat} {f : Nat → Int} {μ : AH} {t : Nat} {ix : Int} (hix : ix = ((5 * t : Nat) : Int)) (ht : 5 * t + 5 ≤ L) (hL : L ≤ 2560) (hI : INV (t : Int) μ) (K : ∀ μ' : AH, INV ((t : Int) + 1) μ' → AW YL_law (some (L, f)) QL 1775 [some (vS), some (vR 0), some (vR 82), some (vR 101), some (vI (ix)), none, none, none] [] 102 μ' (200 + 10 * (t + 1)) (10000 + 60 * (t + 1))) : AW YL_law (some (L, f)) QL 1210 [some (vS), some (vR 0), some (vR 82), some (vR 101), some (vI (ix)), none, none, none] [] 102 μ (200 + 10 * t) (10000 + 60 * t) := by
  obtain ⟨th, D, dv, Fn, fv, sv, pk, fd, spd, lim, o9, hC, hm, hO, h101⟩ := hI
  refine aw_aload_n (q := 1211) dL_law_1210 rfl rfl rfl ?_
  refine aw_aload_s (q := 1212) dL_law_1211 rfl rfl rfl ?_
  refine aw_iload (q := 1214) dL_law_1212 rfl rfl ?_
  refine aw_iconst (q := 1215) dL_law_1214 rfl (by omega) ?_
  refine aw_iadd (q := 1216) dL_law_1215 rfl (by omega) ?_
  refine aw_sld (j := 5 * t + 1) (q := 1217) dL_law_1216 rfl (by omega) (by omega) (fun rx1 => ?_)
  refine aw_aload_n (q := 1218) dL_law_1217 rfl rfl rfl ?_
  refine aw_callSH [vR 0, vI (f (5 * t + 1)), vR 101] (q := 1221) dL_law_1218 rfl ck_L_pack lk_L_154 (List.cons_ne_nil _ _) ⟨Nat.le_of_ble_eq_true rfl, Nat.le_of_ble_eq_true rfl⟩ rfl rfl (Nat.le_of_ble_eq_true rfl) ⟨show 200 + 10 * t + 1 ≤ 601024 by omega, show 10000 + 60 * t + 6 ≤ 7293034 by omega⟩ (lf_pack hC hO h101) (fun _ _ _ h => Rt_x h) ?_
  rintro v n9 μ2 - ⟨v9, hv9, hn9, k9, hk9, hfr, o, μ1, hQ, hW⟩
  obtain rfl := hn9
  subst hk9
  obtain rfl := Sum.inl.inj hv9
  have hm2 : MM μ2 th D dv Fn fv sv pk fd spd lim := MM_k hm (fun b h1 h2 => hfr b h1 (by omega))
  obtain ⟨fs2, h822⟩ := MM_82 hm2
  refine aw_istore (q := 1223) dL_law_1221 rfl (by decide) ?_
  refine aw_aload_n (q := 1224) dL_law_1223 rfl rfl rfl ?_
  refine aw_aload_s (q := 1225) dL_law_1224 rfl rfl rfl ?_
  refine aw_iload (q := 1227) dL_law_1225 rfl rfl ?_
  refine aw_iconst (q := 1228) dL_law_1227 rfl (by omega) ?_
  refine aw_iadd (q := 1229) dL_law_1228 rfl (by omega) ?_
  refine aw_sld (j := 5 * t + 1) (q := 1230) dL_law_1229 rfl (by omega) (by omega) (fun rx2 => ?_)
  refine aw_callV [vI (f (5 * t + 1))] (q := 1233) dL_law_1230 rfl ck_X7_pack lk_L_156 rfl ⟨Nat.le_of_ble_eq_true rfl, Nat.le_of_ble_eq_true rfl⟩ rfl rfl h822 rfl (Nat.le_of_ble_eq_true rfl) ⟨show 200 + 10 * t + 1 + 0 ≤ 601024 by omega, show 10000 + 60 * t + 6 + 0 ≤ 7293034 by omega⟩ (m_X7_pack hm2 hO) rfl (fun E n1 μ9 h => (FIN_x (fin_pack hC hm hO h101 hQ hW h)).elim) ?_
  rintro v n9 μ3 - hQm
  obtain ⟨b, hb, th', D', dv', Fn', fv', sv', pk', fd', spd', lim', o9', hth, hC', hm', hO', h101', hk0⟩ := fin_pack hC hm hO h101 hQ hW hQm
  have hn9 := hQm.1
  obtain rfl := hn9
  obtain rfl := Sum.inl.inj hb
  obtain ⟨fs3, h823⟩ := MM_82 hm'
  refine aw_istore (q := 1235) dL_law_1233 rfl (by decide) ?_
  refine aw_ls (ls := [some (vS), some (vR 0), some (vR 82), some (vR 101), some (vI (ix)), some (vI (k9)), some (vI (b)), none]) ⟨rfl, ⟨rfl, ⟨rfl, ⟨rfl, ⟨rfl, ⟨rfl, ⟨rfl, trivial⟩⟩⟩⟩⟩⟩⟩ ?_
  refine aw_aload_n (q := 1236) dL_law_1235 rfl rfl rfl ?_
  refine aw_callV [] (q := 1239) dL_law_1236 rfl ck_X7_thrown lk_L_105 rfl ⟨Nat.le_of_ble_eq_true rfl, Nat.le_of_ble_eq_true rfl⟩ rfl rfl h823 rfl (Nat.le_of_ble_eq_true rfl) ⟨show 200 + 10 * t + 1 + 0 ≤ 601024 by omega, show 10000 + 60 * t + 6 + 0 ≤ 7293034 by omega⟩ (m_X7_thrown hm' hO') rfl (fun _ _ _ h => (Rt_x h).elim) ?_
  rintro v n9 μ9 - ⟨v9, hv9, hn9, hm9, rfl⟩
  obtain rfl := hn9.symm
  obtain rfl := hm9.symm
  obtain rfl := Sum.inl.inj hv9
  refine aw_iload (q := 1241) dL_law_1239 rfl rfl ?_
  refine aw_ic_eq (t := 1246) (q := 1244) dL_law_1241 rfl (by decide) (fun bc3 => ?_) (fun bc3 => ?_)
  · skip
    refine aw_iload (q := 1248) dL_law_1246 rfl rfl ?_
    refine aw_if_ne (t := 1263) (q := 1251) dL_law_1248 rfl (by decide) (fun bc4 => ?_) (fun bc4 => ?_)
    · skip
      refine aw_goto (q := 1775) dL_law_1263 (by decide) ?_
      refine aw_ls (ls := [some (vS), some (vR 0), some (vR 82), some (vR 101), some (vI (ix)), none, none, none]) ⟨rfl, ⟨rfl, ⟨rfl, ⟨rfl, ⟨rfl, trivial⟩⟩⟩⟩⟩ ?_
      exact aw_widen (show 200 + 10 * t + 1 ≤ 200 + 10 * (t + 1) by omega) (show 10000 + 60 * t + 6 ≤ 10000 + 60 * (t + 1) by omega) (K _ ⟨th', D', dv', Fn', fv', sv', pk', fd', spd', lim', o9', hC', hm', hO', h101'⟩)
    · skip
      have hk1 := hk0 (by omega)
      refine aw_aload_n (q := 1252) dL_law_1251 rfl rfl rfl ?_
      refine aw_iconst (q := 1253) dL_law_1252 rfl (by omega) ?_
      refine aw_laload (j := 0) (q := 1254) dL_law_1253 rfl h101' (by omega) (by omega) (fun rx5 => ?_)
      refine aw_iload (q := 1256) dL_law_1254 rfl rfl ?_
      refine aw_i2l (q := 1257) dL_law_1256 rfl ?_
      refine aw_lcmp (q := 1258) dL_law_1257 rfl ?_
      refine aw_if_eq (t := 1263) (q := 1261) dL_law_1258 rfl (by decide) (fun bc6 => ?_) (fun bc6 => ?_)
      · skip
        replace bc6 := cmpz_eq.mp bc6
        refine aw_goto (q := 1775) dL_law_1263 (by decide) ?_
        refine aw_ls (ls := [some (vS), some (vR 0), some (vR 82), some (vR 101), some (vI (ix)), none, none, none]) ⟨rfl, ⟨rfl, ⟨rfl, ⟨rfl, ⟨rfl, trivial⟩⟩⟩⟩⟩ ?_
        exact aw_widen (show 200 + 10 * t + 1 ≤ 200 + 10 * (t + 1) by omega) (show 10000 + 60 * t + 6 ≤ 10000 + 60 * (t + 1) by omega) (K _ ⟨th', D', dv', Fn', fv', sv', pk', fd', spd', lim', o9', hC', hm', hO', h101'⟩)
      · skip
        replace bc6 := mt cmpz_eq.mpr bc6
        omega
  · skip
    omega
set_option maxHeartbeats 4000000 in
set_option maxRecDepth 100000 in
theorem lc_byteAt {L : Nat} {f : Nat → Int} {μ : AH} {t : Nat} {ix : Int} (hix : ix = ((5 * t : Nat) : Int)) (ht : 5 * t + 5 ≤ L) (hL : L ≤ 2560) (hI : INV (t : Int) μ) (K : ∀ μ' : AH, INV ((t : Int) + 1) μ' → AW YL_law (some (L, f)) QL 1775 [some (vS), some (vR 0), some (vR 82), some (vR 101), some (vI (ix)), none, none, none] [] 102 μ' (200 + 10 * (t + 1)) (10000 + 60 * (t + 1))) : AW YL_law (some (L, f)) QL 1266 [some (vS), some (vR 0), some (vR 82), some (vR 101), some (vI (ix)), none, none, none] [] 102 μ (200 + 10 * t) (10000 + 60 * t) := by
  obtain ⟨th, D, dv, Fn, fv, sv, pk, fd, spd, lim, o9, hC, hm, hO, h101⟩ := hI
  refine aw_aload_n (q := 1267) dL_law_1266 rfl rfl rfl ?_
  refine aw_aload_s (q := 1268) dL_law_1267 rfl rfl rfl ?_
  refine aw_iload (q := 1270) dL_law_1268 rfl rfl ?_
  refine aw_iconst (q := 1271) dL_law_1270 rfl (by omega) ?_
  refine aw_iadd (q := 1272) dL_law_1271 rfl (by omega) ?_
  refine aw_sld (j := 5 * t + 1) (q := 1273) dL_law_1272 rfl (by omega) (by omega) (fun rx1 => ?_)
  refine aw_aload_n (q := 1274) dL_law_1273 rfl rfl rfl ?_
  refine aw_callSH [vR 0, vI (f (5 * t + 1)), vR 101] (q := 1277) dL_law_1274 rfl ck_L_byteAt lk_L_157 (List.cons_ne_nil _ _) ⟨Nat.le_of_ble_eq_true rfl, Nat.le_of_ble_eq_true rfl⟩ rfl rfl (Nat.le_of_ble_eq_true rfl) ⟨show 200 + 10 * t + 1 ≤ 601024 by omega, show 10000 + 60 * t + 6 ≤ 7293034 by omega⟩ (lf_byteAt hC hO h101) (fun _ _ _ h => Rt_x h) ?_
  rintro v n9 μ2 - ⟨v9, hv9, hn9, k9, hk9, hfr, o, μ1, hQ, hW⟩
  obtain rfl := hn9
  subst hk9
  obtain rfl := Sum.inl.inj hv9
  have hm2 : MM μ2 th D dv Fn fv sv pk fd spd lim := MM_k hm (fun b h1 h2 => hfr b h1 (by omega))
  obtain ⟨fs2, h822⟩ := MM_82 hm2
  refine aw_istore (q := 1279) dL_law_1277 rfl (by decide) ?_
  refine aw_aload_n (q := 1280) dL_law_1279 rfl rfl rfl ?_
  refine aw_aload_s (q := 1281) dL_law_1280 rfl rfl rfl ?_
  refine aw_iload (q := 1283) dL_law_1281 rfl rfl ?_
  refine aw_iconst (q := 1284) dL_law_1283 rfl (by omega) ?_
  refine aw_iadd (q := 1285) dL_law_1284 rfl (by omega) ?_
  refine aw_sld (j := 5 * t + 1) (q := 1286) dL_law_1285 rfl (by omega) (by omega) (fun rx2 => ?_)
  refine aw_callV [vI (f (5 * t + 1))] (q := 1289) dL_law_1286 rfl ck_X7_byteAt lk_L_159 rfl ⟨Nat.le_of_ble_eq_true rfl, Nat.le_of_ble_eq_true rfl⟩ rfl rfl h822 rfl (Nat.le_of_ble_eq_true rfl) ⟨show 200 + 10 * t + 1 + 0 ≤ 601024 by omega, show 10000 + 60 * t + 6 + 0 ≤ 7293034 by omega⟩ (m_X7_byteAt hm2 hO) rfl (fun E n1 μ9 h => (FIN_x (fin_byteAt hC hm hO h101 hQ hW h)).elim) ?_
  rintro v n9 μ3 - hQm
  obtain ⟨b, hb, th', D', dv', Fn', fv', sv', pk', fd', spd', lim', o9', hth, hC', hm', hO', h101', hk0⟩ := fin_byteAt hC hm hO h101 hQ hW hQm
  have hn9 := hQm.1
  obtain rfl := hn9
  obtain rfl := Sum.inl.inj hb
  obtain ⟨fs3, h823⟩ := MM_82 hm'
  refine aw_istore (q := 1291) dL_law_1289 rfl (by decide) ?_
  refine aw_ls (ls := [some (vS), some (vR 0), some (vR 82), some (vR 101), some (vI (ix)), some (vI (k9)), some (vI (b)), none]) ⟨rfl, ⟨rfl, ⟨rfl, ⟨rfl, ⟨rfl, ⟨rfl, ⟨rfl, trivial⟩⟩⟩⟩⟩⟩⟩ ?_
  refine aw_aload_n (q := 1292) dL_law_1291 rfl rfl rfl ?_
  refine aw_callV [] (q := 1295) dL_law_1292 rfl ck_X7_thrown lk_L_105 rfl ⟨Nat.le_of_ble_eq_true rfl, Nat.le_of_ble_eq_true rfl⟩ rfl rfl h823 rfl (Nat.le_of_ble_eq_true rfl) ⟨show 200 + 10 * t + 1 + 0 ≤ 601024 by omega, show 10000 + 60 * t + 6 + 0 ≤ 7293034 by omega⟩ (m_X7_thrown hm' hO') rfl (fun _ _ _ h => (Rt_x h).elim) ?_
  rintro v n9 μ9 - ⟨v9, hv9, hn9, hm9, rfl⟩
  obtain rfl := hn9.symm
  obtain rfl := hm9.symm
  obtain rfl := Sum.inl.inj hv9
  refine aw_iload (q := 1297) dL_law_1295 rfl rfl ?_
  refine aw_ic_eq (t := 1302) (q := 1300) dL_law_1297 rfl (by decide) (fun bc3 => ?_) (fun bc3 => ?_)
  · skip
    refine aw_iload (q := 1304) dL_law_1302 rfl rfl ?_
    refine aw_if_ne (t := 1319) (q := 1307) dL_law_1304 rfl (by decide) (fun bc4 => ?_) (fun bc4 => ?_)
    · skip
      refine aw_goto (q := 1775) dL_law_1319 (by decide) ?_
      refine aw_ls (ls := [some (vS), some (vR 0), some (vR 82), some (vR 101), some (vI (ix)), none, none, none]) ⟨rfl, ⟨rfl, ⟨rfl, ⟨rfl, ⟨rfl, trivial⟩⟩⟩⟩⟩ ?_
      exact aw_widen (show 200 + 10 * t + 1 ≤ 200 + 10 * (t + 1) by omega) (show 10000 + 60 * t + 6 ≤ 10000 + 60 * (t + 1) by omega) (K _ ⟨th', D', dv', Fn', fv', sv', pk', fd', spd', lim', o9', hC', hm', hO', h101'⟩)
    · skip
      have hk1 := hk0 (by omega)
      refine aw_aload_n (q := 1308) dL_law_1307 rfl rfl rfl ?_
      refine aw_iconst (q := 1309) dL_law_1308 rfl (by omega) ?_
      refine aw_laload (j := 0) (q := 1310) dL_law_1309 rfl h101' (by omega) (by omega) (fun rx5 => ?_)
      refine aw_iload (q := 1312) dL_law_1310 rfl rfl ?_
      refine aw_i2l (q := 1313) dL_law_1312 rfl ?_
      refine aw_lcmp (q := 1314) dL_law_1313 rfl ?_
      refine aw_if_eq (t := 1319) (q := 1317) dL_law_1314 rfl (by decide) (fun bc6 => ?_) (fun bc6 => ?_)
      · skip
        replace bc6 := cmpz_eq.mp bc6
        refine aw_goto (q := 1775) dL_law_1319 (by decide) ?_
        refine aw_ls (ls := [some (vS), some (vR 0), some (vR 82), some (vR 101), some (vI (ix)), none, none, none]) ⟨rfl, ⟨rfl, ⟨rfl, ⟨rfl, ⟨rfl, trivial⟩⟩⟩⟩⟩ ?_
        exact aw_widen (show 200 + 10 * t + 1 ≤ 200 + 10 * (t + 1) by omega) (show 10000 + 60 * t + 6 ≤ 10000 + 60 * (t + 1) by omega) (K _ ⟨th', D', dv', Fn', fv', sv', pk', fd', spd', lim', o9', hC', hm', hO', h101'⟩)
      · skip
        replace bc6 := mt cmpz_eq.mpr bc6
        omega
  · skip
    omega
set_option maxHeartbeats 4000000 in
set_option maxRecDepth 100000 in
theorem lc_feed {L : Nat} {f : Nat → Int} {μ : AH} {t : Nat} {ix : Int} (hix : ix = ((5 * t : Nat) : Int)) (ht : 5 * t + 5 ≤ L) (hL : L ≤ 2560) (hI : INV (t : Int) μ) (K : ∀ μ' : AH, INV ((t : Int) + 1) μ' → AW YL_law (some (L, f)) QL 1775 [some (vS), some (vR 0), some (vR 82), some (vR 101), some (vI (ix)), none, none, none] [] 102 μ' (200 + 10 * (t + 1)) (10000 + 60 * (t + 1))) : AW YL_law (some (L, f)) QL 1322 [some (vS), some (vR 0), some (vR 82), some (vR 101), some (vI (ix)), none, none, none] [] 102 μ (200 + 10 * t) (10000 + 60 * t) := by
  obtain ⟨th, D, dv, Fn, fv, sv, pk, fd, spd, lim, o9, hC, hm, hO, h101⟩ := hI
  refine aw_aload_n (q := 1323) dL_law_1322 rfl rfl rfl ?_
  refine aw_aload_s (q := 1324) dL_law_1323 rfl rfl rfl ?_
  refine aw_iload (q := 1326) dL_law_1324 rfl rfl ?_
  refine aw_iconst (q := 1327) dL_law_1326 rfl (by omega) ?_
  refine aw_iadd (q := 1328) dL_law_1327 rfl (by omega) ?_
  refine aw_sld (j := 5 * t + 1) (q := 1329) dL_law_1328 rfl (by omega) (by omega) (fun rx1 => ?_)
  refine aw_aload_n (q := 1330) dL_law_1329 rfl rfl rfl ?_
  refine aw_callSH [vR 0, vI (f (5 * t + 1)), vR 101] (q := 1333) dL_law_1330 rfl ck_L_feed lk_L_160 (List.cons_ne_nil _ _) ⟨Nat.le_of_ble_eq_true rfl, Nat.le_of_ble_eq_true rfl⟩ rfl rfl (Nat.le_of_ble_eq_true rfl) ⟨show 200 + 10 * t + 2 ≤ 601024 by omega, show 10000 + 60 * t + 12 ≤ 7293034 by omega⟩ (lf_feed hC hO h101) (fun _ _ _ h => Rt_x h) ?_
  rintro v n9 μ2 - ⟨v9, hv9, hn9, k9, hk9, hfr, o, μ1, hQ, hW⟩
  obtain rfl := hn9
  subst hk9
  obtain rfl := Sum.inl.inj hv9
  have hm2 : MM μ2 th D dv Fn fv sv pk fd spd lim := MM_k hm (fun b h1 h2 => hfr b h1 (by omega))
  obtain ⟨fs2, h822⟩ := MM_82 hm2
  refine aw_istore (q := 1335) dL_law_1333 rfl (by decide) ?_
  refine aw_aload_n (q := 1336) dL_law_1335 rfl rfl rfl ?_
  refine aw_aload_s (q := 1337) dL_law_1336 rfl rfl rfl ?_
  refine aw_iload (q := 1339) dL_law_1337 rfl rfl ?_
  refine aw_iconst (q := 1340) dL_law_1339 rfl (by omega) ?_
  refine aw_iadd (q := 1341) dL_law_1340 rfl (by omega) ?_
  refine aw_sld (j := 5 * t + 1) (q := 1342) dL_law_1341 rfl (by omega) (by omega) (fun rx2 => ?_)
  refine aw_callV [vI (f (5 * t + 1))] (q := 1345) dL_law_1342 rfl ck_X7_feed lk_L_162 rfl ⟨Nat.le_of_ble_eq_true rfl, Nat.le_of_ble_eq_true rfl⟩ rfl rfl h822 rfl (Nat.le_of_ble_eq_true rfl) ⟨show 200 + 10 * t + 2 + 0 ≤ 601024 by omega, show 10000 + 60 * t + 12 + 0 ≤ 7293034 by omega⟩ (m_X7_feed hm2 hO) rfl (fun E n1 μ9 h => (FIN_x (fin_feed hC hm hO h101 hQ hW h)).elim) ?_
  rintro v n9 μ3 - hQm
  obtain ⟨b, hb, th', D', dv', Fn', fv', sv', pk', fd', spd', lim', o9', hth, hC', hm', hO', h101', hk0⟩ := fin_feed hC hm hO h101 hQ hW hQm
  have hn9 := hQm.1
  obtain rfl := hn9
  obtain rfl := Sum.inl.inj hb
  obtain ⟨fs3, h823⟩ := MM_82 hm'
  refine aw_istore (q := 1347) dL_law_1345 rfl (by decide) ?_
  refine aw_ls (ls := [some (vS), some (vR 0), some (vR 82), some (vR 101), some (vI (ix)), some (vI (k9)), some (vI (b)), none]) ⟨rfl, ⟨rfl, ⟨rfl, ⟨rfl, ⟨rfl, ⟨rfl, ⟨rfl, trivial⟩⟩⟩⟩⟩⟩⟩ ?_
  refine aw_aload_n (q := 1348) dL_law_1347 rfl rfl rfl ?_
  refine aw_callV [] (q := 1351) dL_law_1348 rfl ck_X7_thrown lk_L_105 rfl ⟨Nat.le_of_ble_eq_true rfl, Nat.le_of_ble_eq_true rfl⟩ rfl rfl h823 rfl (Nat.le_of_ble_eq_true rfl) ⟨show 200 + 10 * t + 2 + 0 ≤ 601024 by omega, show 10000 + 60 * t + 12 + 0 ≤ 7293034 by omega⟩ (m_X7_thrown hm' hO') rfl (fun _ _ _ h => (Rt_x h).elim) ?_
  rintro v n9 μ9 - ⟨v9, hv9, hn9, hm9, rfl⟩
  obtain rfl := hn9.symm
  obtain rfl := hm9.symm
  obtain rfl := Sum.inl.inj hv9
  refine aw_iload (q := 1353) dL_law_1351 rfl rfl ?_
  refine aw_ic_eq (t := 1358) (q := 1356) dL_law_1353 rfl (by decide) (fun bc3 => ?_) (fun bc3 => ?_)
  · skip
    refine aw_iload (q := 1360) dL_law_1358 rfl rfl ?_
    refine aw_if_ne (t := 1375) (q := 1363) dL_law_1360 rfl (by decide) (fun bc4 => ?_) (fun bc4 => ?_)
    · skip
      refine aw_goto (q := 1775) dL_law_1375 (by decide) ?_
      refine aw_ls (ls := [some (vS), some (vR 0), some (vR 82), some (vR 101), some (vI (ix)), none, none, none]) ⟨rfl, ⟨rfl, ⟨rfl, ⟨rfl, ⟨rfl, trivial⟩⟩⟩⟩⟩ ?_
      exact aw_widen (show 200 + 10 * t + 2 ≤ 200 + 10 * (t + 1) by omega) (show 10000 + 60 * t + 12 ≤ 10000 + 60 * (t + 1) by omega) (K _ ⟨th', D', dv', Fn', fv', sv', pk', fd', spd', lim', o9', hC', hm', hO', h101'⟩)
    · skip
      have hk1 := hk0 (by omega)
      refine aw_aload_n (q := 1364) dL_law_1363 rfl rfl rfl ?_
      refine aw_iconst (q := 1365) dL_law_1364 rfl (by omega) ?_
      refine aw_laload (j := 0) (q := 1366) dL_law_1365 rfl h101' (by omega) (by omega) (fun rx5 => ?_)
      refine aw_iload (q := 1368) dL_law_1366 rfl rfl ?_
      refine aw_i2l (q := 1369) dL_law_1368 rfl ?_
      refine aw_lcmp (q := 1370) dL_law_1369 rfl ?_
      refine aw_if_eq (t := 1375) (q := 1373) dL_law_1370 rfl (by decide) (fun bc6 => ?_) (fun bc6 => ?_)
      · skip
        replace bc6 := cmpz_eq.mp bc6
        refine aw_goto (q := 1775) dL_law_1375 (by decide) ?_
        refine aw_ls (ls := [some (vS), some (vR 0), some (vR 82), some (vR 101), some (vI (ix)), none, none, none]) ⟨rfl, ⟨rfl, ⟨rfl, ⟨rfl, ⟨rfl, trivial⟩⟩⟩⟩⟩ ?_
        exact aw_widen (show 200 + 10 * t + 2 ≤ 200 + 10 * (t + 1) by omega) (show 10000 + 60 * t + 12 ≤ 10000 + 60 * (t + 1) by omega) (K _ ⟨th', D', dv', Fn', fv', sv', pk', fd', spd', lim', o9', hC', hm', hO', h101'⟩)
      · skip
        replace bc6 := mt cmpz_eq.mpr bc6
        omega
  · skip
    omega
set_option maxHeartbeats 4000000 in
set_option maxRecDepth 100000 in
theorem lc_read {L : Nat} {f : Nat → Int} {μ : AH} {t : Nat} {ix : Int} (hix : ix = ((5 * t : Nat) : Int)) (ht : 5 * t + 5 ≤ L) (hL : L ≤ 2560) (hI : INV (t : Int) μ) (K : ∀ μ' : AH, INV ((t : Int) + 1) μ' → AW YL_law (some (L, f)) QL 1775 [some (vS), some (vR 0), some (vR 82), some (vR 101), some (vI (ix)), none, none, none] [] 102 μ' (200 + 10 * (t + 1)) (10000 + 60 * (t + 1))) : AW YL_law (some (L, f)) QL 1378 [some (vS), some (vR 0), some (vR 82), some (vR 101), some (vI (ix)), none, none, none] [] 102 μ (200 + 10 * t) (10000 + 60 * t) := by
  obtain ⟨th, D, dv, Fn, fv, sv, pk, fd, spd, lim, o9, hC, hm, hO, h101⟩ := hI
  refine aw_aload_n (q := 1379) dL_law_1378 rfl rfl rfl ?_
  refine aw_aload_s (q := 1380) dL_law_1379 rfl rfl rfl ?_
  refine aw_iload (q := 1382) dL_law_1380 rfl rfl ?_
  refine aw_iconst (q := 1383) dL_law_1382 rfl (by omega) ?_
  refine aw_iadd (q := 1384) dL_law_1383 rfl (by omega) ?_
  refine aw_sld (j := 5 * t + 1) (q := 1385) dL_law_1384 rfl (by omega) (by omega) (fun rx1 => ?_)
  refine aw_aload_n (q := 1386) dL_law_1385 rfl rfl rfl ?_
  refine aw_callSH [vR 0, vI (f (5 * t + 1)), vR 101] (q := 1389) dL_law_1386 rfl ck_L_read lk_L_163 (List.cons_ne_nil _ _) ⟨Nat.le_of_ble_eq_true rfl, Nat.le_of_ble_eq_true rfl⟩ rfl rfl (Nat.le_of_ble_eq_true rfl) ⟨show 200 + 10 * t + 1 ≤ 601024 by omega, show 10000 + 60 * t + 6 ≤ 7293034 by omega⟩ (lf_read hC hO h101) (fun _ _ _ h => Rt_x h) ?_
  rintro v n9 μ2 - ⟨v9, hv9, hn9, k9, hk9, hfr, o, μ1, hQ, hW⟩
  obtain rfl := hn9
  subst hk9
  obtain rfl := Sum.inl.inj hv9
  have hm2 : MM μ2 th D dv Fn fv sv pk fd spd lim := MM_k hm (fun b h1 h2 => hfr b h1 (by omega))
  obtain ⟨fs2, h822⟩ := MM_82 hm2
  refine aw_istore (q := 1391) dL_law_1389 rfl (by decide) ?_
  refine aw_aload_n (q := 1392) dL_law_1391 rfl rfl rfl ?_
  refine aw_aload_s (q := 1393) dL_law_1392 rfl rfl rfl ?_
  refine aw_iload (q := 1395) dL_law_1393 rfl rfl ?_
  refine aw_iconst (q := 1396) dL_law_1395 rfl (by omega) ?_
  refine aw_iadd (q := 1397) dL_law_1396 rfl (by omega) ?_
  refine aw_sld (j := 5 * t + 1) (q := 1398) dL_law_1397 rfl (by omega) (by omega) (fun rx2 => ?_)
  refine aw_callV [vI (f (5 * t + 1))] (q := 1401) dL_law_1398 rfl ck_X7_read lk_L_165 rfl ⟨Nat.le_of_ble_eq_true rfl, Nat.le_of_ble_eq_true rfl⟩ rfl rfl h822 rfl (Nat.le_of_ble_eq_true rfl) ⟨show 200 + 10 * t + 1 + 0 ≤ 601024 by omega, show 10000 + 60 * t + 6 + 0 ≤ 7293034 by omega⟩ (m_X7_read hm2 hO) rfl (fun E n1 μ9 h => (FIN_x (fin_read hC hm hO h101 hQ hW h)).elim) ?_
  rintro v n9 μ3 - hQm
  obtain ⟨b, hb, th', D', dv', Fn', fv', sv', pk', fd', spd', lim', o9', hth, hC', hm', hO', h101', hk0⟩ := fin_read hC hm hO h101 hQ hW hQm
  have hn9 := hQm.1
  obtain rfl := hn9
  obtain rfl := Sum.inl.inj hb
  obtain ⟨fs3, h823⟩ := MM_82 hm'
  refine aw_istore (q := 1403) dL_law_1401 rfl (by decide) ?_
  refine aw_ls (ls := [some (vS), some (vR 0), some (vR 82), some (vR 101), some (vI (ix)), some (vI (k9)), some (vI (b)), none]) ⟨rfl, ⟨rfl, ⟨rfl, ⟨rfl, ⟨rfl, ⟨rfl, ⟨rfl, trivial⟩⟩⟩⟩⟩⟩⟩ ?_
  refine aw_aload_n (q := 1404) dL_law_1403 rfl rfl rfl ?_
  refine aw_callV [] (q := 1407) dL_law_1404 rfl ck_X7_thrown lk_L_105 rfl ⟨Nat.le_of_ble_eq_true rfl, Nat.le_of_ble_eq_true rfl⟩ rfl rfl h823 rfl (Nat.le_of_ble_eq_true rfl) ⟨show 200 + 10 * t + 1 + 0 ≤ 601024 by omega, show 10000 + 60 * t + 6 + 0 ≤ 7293034 by omega⟩ (m_X7_thrown hm' hO') rfl (fun _ _ _ h => (Rt_x h).elim) ?_
  rintro v n9 μ9 - ⟨v9, hv9, hn9, hm9, rfl⟩
  obtain rfl := hn9.symm
  obtain rfl := hm9.symm
  obtain rfl := Sum.inl.inj hv9
  refine aw_iload (q := 1409) dL_law_1407 rfl rfl ?_
  refine aw_ic_eq (t := 1414) (q := 1412) dL_law_1409 rfl (by decide) (fun bc3 => ?_) (fun bc3 => ?_)
  · skip
    refine aw_iload (q := 1416) dL_law_1414 rfl rfl ?_
    refine aw_if_ne (t := 1431) (q := 1419) dL_law_1416 rfl (by decide) (fun bc4 => ?_) (fun bc4 => ?_)
    · skip
      refine aw_goto (q := 1775) dL_law_1431 (by decide) ?_
      refine aw_ls (ls := [some (vS), some (vR 0), some (vR 82), some (vR 101), some (vI (ix)), none, none, none]) ⟨rfl, ⟨rfl, ⟨rfl, ⟨rfl, ⟨rfl, trivial⟩⟩⟩⟩⟩ ?_
      exact aw_widen (show 200 + 10 * t + 1 ≤ 200 + 10 * (t + 1) by omega) (show 10000 + 60 * t + 6 ≤ 10000 + 60 * (t + 1) by omega) (K _ ⟨th', D', dv', Fn', fv', sv', pk', fd', spd', lim', o9', hC', hm', hO', h101'⟩)
    · skip
      have hk1 := hk0 (by omega)
      refine aw_aload_n (q := 1420) dL_law_1419 rfl rfl rfl ?_
      refine aw_iconst (q := 1421) dL_law_1420 rfl (by omega) ?_
      refine aw_laload (j := 0) (q := 1422) dL_law_1421 rfl h101' (by omega) (by omega) (fun rx5 => ?_)
      refine aw_iload (q := 1424) dL_law_1422 rfl rfl ?_
      refine aw_i2l (q := 1425) dL_law_1424 rfl ?_
      refine aw_lcmp (q := 1426) dL_law_1425 rfl ?_
      refine aw_if_eq (t := 1431) (q := 1429) dL_law_1426 rfl (by decide) (fun bc6 => ?_) (fun bc6 => ?_)
      · skip
        replace bc6 := cmpz_eq.mp bc6
        refine aw_goto (q := 1775) dL_law_1431 (by decide) ?_
        refine aw_ls (ls := [some (vS), some (vR 0), some (vR 82), some (vR 101), some (vI (ix)), none, none, none]) ⟨rfl, ⟨rfl, ⟨rfl, ⟨rfl, ⟨rfl, trivial⟩⟩⟩⟩⟩ ?_
        exact aw_widen (show 200 + 10 * t + 1 ≤ 200 + 10 * (t + 1) by omega) (show 10000 + 60 * t + 6 ≤ 10000 + 60 * (t + 1) by omega) (K _ ⟨th', D', dv', Fn', fv', sv', pk', fd', spd', lim', o9', hC', hm', hO', h101'⟩)
      · skip
        replace bc6 := mt cmpz_eq.mpr bc6
        omega
  · skip
    omega
set_option maxHeartbeats 4000000 in
set_option maxRecDepth 100000 in
theorem lc_repeat {L : Nat} {f : Nat → Int} {μ : AH} {t : Nat} {ix : Int} (hix : ix = ((5 * t : Nat) : Int)) (ht : 5 * t + 5 ≤ L) (hL : L ≤ 2560) (hI : INV (t : Int) μ) (K : ∀ μ' : AH, INV ((t : Int) + 1) μ' → AW YL_law (some (L, f)) QL 1775 [some (vS), some (vR 0), some (vR 82), some (vR 101), some (vI (ix)), none, none, none] [] 102 μ' (200 + 10 * (t + 1)) (10000 + 60 * (t + 1))) : AW YL_law (some (L, f)) QL 1434 [some (vS), some (vR 0), some (vR 82), some (vR 101), some (vI (ix)), none, none, none] [] 102 μ (200 + 10 * t) (10000 + 60 * t) := by
  obtain ⟨th, D, dv, Fn, fv, sv, pk, fd, spd, lim, o9, hC, hm, hO, h101⟩ := hI
  refine aw_aload_n (q := 1435) dL_law_1434 rfl rfl rfl ?_
  refine aw_aload_s (q := 1436) dL_law_1435 rfl rfl rfl ?_
  refine aw_iload (q := 1438) dL_law_1436 rfl rfl ?_
  refine aw_iconst (q := 1439) dL_law_1438 rfl (by omega) ?_
  refine aw_iadd (q := 1440) dL_law_1439 rfl (by omega) ?_
  refine aw_sld (j := 5 * t + 1) (q := 1441) dL_law_1440 rfl (by omega) (by omega) (fun rx1 => ?_)
  refine aw_aload_s (q := 1442) dL_law_1441 rfl rfl rfl ?_
  refine aw_iload (q := 1444) dL_law_1442 rfl rfl ?_
  refine aw_iconst (q := 1445) dL_law_1444 rfl (by omega) ?_
  refine aw_iadd (q := 1446) dL_law_1445 rfl (by omega) ?_
  refine aw_sld (j := 5 * t + 2) (q := 1447) dL_law_1446 rfl (by omega) (by omega) (fun rx2 => ?_)
  refine aw_aload_n (q := 1448) dL_law_1447 rfl rfl rfl ?_
  refine aw_callSH [vR 0, vI (f (5 * t + 1)), vI (f (5 * t + 2)), vR 101] (q := 1451) dL_law_1448 rfl ck_L_repeat lk_L_166 (List.cons_ne_nil _ _) ⟨Nat.le_of_ble_eq_true rfl, Nat.le_of_ble_eq_true rfl⟩ rfl rfl (Nat.le_of_ble_eq_true rfl) ⟨show 200 + 10 * t + 2 ≤ 601024 by omega, show 10000 + 60 * t + 12 ≤ 7293034 by omega⟩ (lf_repeat hC hO h101) (fun _ _ _ h => Rt_x h) ?_
  rintro v n9 μ2 - ⟨v9, hv9, hn9, k9, hk9, hfr, o, μ1, hQ, hW⟩
  obtain rfl := hn9
  subst hk9
  obtain rfl := Sum.inl.inj hv9
  have hm2 : MM μ2 th D dv Fn fv sv pk fd spd lim := MM_k hm (fun b h1 h2 => hfr b h1 (by omega))
  obtain ⟨fs2, h822⟩ := MM_82 hm2
  refine aw_istore (q := 1453) dL_law_1451 rfl (by decide) ?_
  refine aw_aload_n (q := 1454) dL_law_1453 rfl rfl rfl ?_
  refine aw_aload_s (q := 1455) dL_law_1454 rfl rfl rfl ?_
  refine aw_iload (q := 1457) dL_law_1455 rfl rfl ?_
  refine aw_iconst (q := 1458) dL_law_1457 rfl (by omega) ?_
  refine aw_iadd (q := 1459) dL_law_1458 rfl (by omega) ?_
  refine aw_sld (j := 5 * t + 1) (q := 1460) dL_law_1459 rfl (by omega) (by omega) (fun rx3 => ?_)
  refine aw_aload_s (q := 1461) dL_law_1460 rfl rfl rfl ?_
  refine aw_iload (q := 1463) dL_law_1461 rfl rfl ?_
  refine aw_iconst (q := 1464) dL_law_1463 rfl (by omega) ?_
  refine aw_iadd (q := 1465) dL_law_1464 rfl (by omega) ?_
  refine aw_sld (j := 5 * t + 2) (q := 1466) dL_law_1465 rfl (by omega) (by omega) (fun rx4 => ?_)
  refine aw_callV [vI (f (5 * t + 1)), vI (f (5 * t + 2))] (q := 1469) dL_law_1466 rfl ck_X7_repeat lk_L_168 rfl ⟨Nat.le_of_ble_eq_true rfl, Nat.le_of_ble_eq_true rfl⟩ rfl rfl h822 rfl (Nat.le_of_ble_eq_true rfl) ⟨show 200 + 10 * t + 2 + 0 ≤ 601024 by omega, show 10000 + 60 * t + 12 + 0 ≤ 7293034 by omega⟩ (m_X7_repeat hm2 hO) rfl (fun E n1 μ9 h => (FIN_x (fin_repeat hC hm hO h101 hQ hW h)).elim) ?_
  rintro v n9 μ3 - hQm
  obtain ⟨b, hb, th', D', dv', Fn', fv', sv', pk', fd', spd', lim', o9', hth, hC', hm', hO', h101', hk0⟩ := fin_repeat hC hm hO h101 hQ hW hQm
  have hn9 := hQm.1
  obtain rfl := hn9
  obtain rfl := Sum.inl.inj hb
  obtain ⟨fs3, h823⟩ := MM_82 hm'
  refine aw_istore (q := 1471) dL_law_1469 rfl (by decide) ?_
  refine aw_ls (ls := [some (vS), some (vR 0), some (vR 82), some (vR 101), some (vI (ix)), some (vI (k9)), some (vI (b)), none]) ⟨rfl, ⟨rfl, ⟨rfl, ⟨rfl, ⟨rfl, ⟨rfl, ⟨rfl, trivial⟩⟩⟩⟩⟩⟩⟩ ?_
  refine aw_aload_n (q := 1472) dL_law_1471 rfl rfl rfl ?_
  refine aw_callV [] (q := 1475) dL_law_1472 rfl ck_X7_thrown lk_L_105 rfl ⟨Nat.le_of_ble_eq_true rfl, Nat.le_of_ble_eq_true rfl⟩ rfl rfl h823 rfl (Nat.le_of_ble_eq_true rfl) ⟨show 200 + 10 * t + 2 + 0 ≤ 601024 by omega, show 10000 + 60 * t + 12 + 0 ≤ 7293034 by omega⟩ (m_X7_thrown hm' hO') rfl (fun _ _ _ h => (Rt_x h).elim) ?_
  rintro v n9 μ9 - ⟨v9, hv9, hn9, hm9, rfl⟩
  obtain rfl := hn9.symm
  obtain rfl := hm9.symm
  obtain rfl := Sum.inl.inj hv9
  refine aw_iload (q := 1477) dL_law_1475 rfl rfl ?_
  refine aw_ic_eq (t := 1482) (q := 1480) dL_law_1477 rfl (by decide) (fun bc5 => ?_) (fun bc5 => ?_)
  · skip
    refine aw_iload (q := 1484) dL_law_1482 rfl rfl ?_
    refine aw_if_ne (t := 1499) (q := 1487) dL_law_1484 rfl (by decide) (fun bc6 => ?_) (fun bc6 => ?_)
    · skip
      refine aw_goto (q := 1775) dL_law_1499 (by decide) ?_
      refine aw_ls (ls := [some (vS), some (vR 0), some (vR 82), some (vR 101), some (vI (ix)), none, none, none]) ⟨rfl, ⟨rfl, ⟨rfl, ⟨rfl, ⟨rfl, trivial⟩⟩⟩⟩⟩ ?_
      exact aw_widen (show 200 + 10 * t + 2 ≤ 200 + 10 * (t + 1) by omega) (show 10000 + 60 * t + 12 ≤ 10000 + 60 * (t + 1) by omega) (K _ ⟨th', D', dv', Fn', fv', sv', pk', fd', spd', lim', o9', hC', hm', hO', h101'⟩)
    · skip
      have hk1 := hk0 (by omega)
      refine aw_aload_n (q := 1488) dL_law_1487 rfl rfl rfl ?_
      refine aw_iconst (q := 1489) dL_law_1488 rfl (by omega) ?_
      refine aw_laload (j := 0) (q := 1490) dL_law_1489 rfl h101' (by omega) (by omega) (fun rx7 => ?_)
      refine aw_iload (q := 1492) dL_law_1490 rfl rfl ?_
      refine aw_i2l (q := 1493) dL_law_1492 rfl ?_
      refine aw_lcmp (q := 1494) dL_law_1493 rfl ?_
      refine aw_if_eq (t := 1499) (q := 1497) dL_law_1494 rfl (by decide) (fun bc8 => ?_) (fun bc8 => ?_)
      · skip
        replace bc8 := cmpz_eq.mp bc8
        refine aw_goto (q := 1775) dL_law_1499 (by decide) ?_
        refine aw_ls (ls := [some (vS), some (vR 0), some (vR 82), some (vR 101), some (vI (ix)), none, none, none]) ⟨rfl, ⟨rfl, ⟨rfl, ⟨rfl, ⟨rfl, trivial⟩⟩⟩⟩⟩ ?_
        exact aw_widen (show 200 + 10 * t + 2 ≤ 200 + 10 * (t + 1) by omega) (show 10000 + 60 * t + 12 ≤ 10000 + 60 * (t + 1) by omega) (K _ ⟨th', D', dv', Fn', fv', sv', pk', fd', spd', lim', o9', hC', hm', hO', h101'⟩)
      · skip
        replace bc8 := mt cmpz_eq.mpr bc8
        omega
  · skip
    omega
set_option maxHeartbeats 4000000 in
set_option maxRecDepth 100000 in
theorem lc_sight {L : Nat} {f : Nat → Int} {μ : AH} {t : Nat} {ix : Int} (hix : ix = ((5 * t : Nat) : Int)) (ht : 5 * t + 5 ≤ L) (hL : L ≤ 2560) (hI : INV (t : Int) μ) (K : ∀ μ' : AH, INV ((t : Int) + 1) μ' → AW YL_law (some (L, f)) QL 1775 [some (vS), some (vR 0), some (vR 82), some (vR 101), some (vI (ix)), none, none, none] [] 102 μ' (200 + 10 * (t + 1)) (10000 + 60 * (t + 1))) : AW YL_law (some (L, f)) QL 1502 [some (vS), some (vR 0), some (vR 82), some (vR 101), some (vI (ix)), none, none, none] [] 102 μ (200 + 10 * t) (10000 + 60 * t) := by
  obtain ⟨th, D, dv, Fn, fv, sv, pk, fd, spd, lim, o9, hC, hm, hO, h101⟩ := hI
  refine aw_aload_n (q := 1503) dL_law_1502 rfl rfl rfl ?_
  refine aw_aload_s (q := 1504) dL_law_1503 rfl rfl rfl ?_
  refine aw_iload (q := 1506) dL_law_1504 rfl rfl ?_
  refine aw_iconst (q := 1507) dL_law_1506 rfl (by omega) ?_
  refine aw_iadd (q := 1508) dL_law_1507 rfl (by omega) ?_
  refine aw_sld (j := 5 * t + 1) (q := 1509) dL_law_1508 rfl (by omega) (by omega) (fun rx1 => ?_)
  refine aw_aload_s (q := 1510) dL_law_1509 rfl rfl rfl ?_
  refine aw_iload (q := 1512) dL_law_1510 rfl rfl ?_
  refine aw_iconst (q := 1513) dL_law_1512 rfl (by omega) ?_
  refine aw_iadd (q := 1514) dL_law_1513 rfl (by omega) ?_
  refine aw_sld (j := 5 * t + 2) (q := 1515) dL_law_1514 rfl (by omega) (by omega) (fun rx2 => ?_)
  refine aw_aload_s (q := 1516) dL_law_1515 rfl rfl rfl ?_
  refine aw_iload (q := 1518) dL_law_1516 rfl rfl ?_
  refine aw_iconst (q := 1519) dL_law_1518 rfl (by omega) ?_
  refine aw_iadd (q := 1520) dL_law_1519 rfl (by omega) ?_
  refine aw_sld (j := 5 * t + 3) (q := 1521) dL_law_1520 rfl (by omega) (by omega) (fun rx3 => ?_)
  refine aw_aload_n (q := 1522) dL_law_1521 rfl rfl rfl ?_
  refine aw_callSH [vR 0, vI (f (5 * t + 1)), vI (f (5 * t + 2)), vI (f (5 * t + 3)), vR 101] (q := 1525) dL_law_1522 rfl ck_L_sight lk_L_169 (List.cons_ne_nil _ _) ⟨Nat.le_of_ble_eq_true rfl, Nat.le_of_ble_eq_true rfl⟩ rfl rfl (Nat.le_of_ble_eq_true rfl) ⟨show 200 + 10 * t + 2 ≤ 601024 by omega, show 10000 + 60 * t + 12 ≤ 7293034 by omega⟩ (lf_sight hC hO h101) (fun _ _ _ h => Rt_x h) ?_
  rintro v n9 μ2 - ⟨v9, hv9, hn9, k9, hk9, hfr, o, μ1, hQ, hW⟩
  obtain rfl := hn9
  subst hk9
  obtain rfl := Sum.inl.inj hv9
  have hm2 : MM μ2 th D dv Fn fv sv pk fd spd lim := MM_k hm (fun b h1 h2 => hfr b h1 (by omega))
  obtain ⟨fs2, h822⟩ := MM_82 hm2
  refine aw_istore (q := 1527) dL_law_1525 rfl (by decide) ?_
  refine aw_aload_n (q := 1528) dL_law_1527 rfl rfl rfl ?_
  refine aw_aload_s (q := 1529) dL_law_1528 rfl rfl rfl ?_
  refine aw_iload (q := 1531) dL_law_1529 rfl rfl ?_
  refine aw_iconst (q := 1532) dL_law_1531 rfl (by omega) ?_
  refine aw_iadd (q := 1533) dL_law_1532 rfl (by omega) ?_
  refine aw_sld (j := 5 * t + 1) (q := 1534) dL_law_1533 rfl (by omega) (by omega) (fun rx4 => ?_)
  refine aw_aload_s (q := 1535) dL_law_1534 rfl rfl rfl ?_
  refine aw_iload (q := 1537) dL_law_1535 rfl rfl ?_
  refine aw_iconst (q := 1538) dL_law_1537 rfl (by omega) ?_
  refine aw_iadd (q := 1539) dL_law_1538 rfl (by omega) ?_
  refine aw_sld (j := 5 * t + 2) (q := 1540) dL_law_1539 rfl (by omega) (by omega) (fun rx5 => ?_)
  refine aw_aload_s (q := 1541) dL_law_1540 rfl rfl rfl ?_
  refine aw_iload (q := 1543) dL_law_1541 rfl rfl ?_
  refine aw_iconst (q := 1544) dL_law_1543 rfl (by omega) ?_
  refine aw_iadd (q := 1545) dL_law_1544 rfl (by omega) ?_
  refine aw_sld (j := 5 * t + 3) (q := 1546) dL_law_1545 rfl (by omega) (by omega) (fun rx6 => ?_)
  refine aw_callV [vI (f (5 * t + 1)), vI (f (5 * t + 2)), vI (f (5 * t + 3))] (q := 1549) dL_law_1546 rfl ck_X7_sight lk_L_171 rfl ⟨Nat.le_of_ble_eq_true rfl, Nat.le_of_ble_eq_true rfl⟩ rfl rfl h822 rfl (Nat.le_of_ble_eq_true rfl) ⟨show 200 + 10 * t + 2 + 0 ≤ 601024 by omega, show 10000 + 60 * t + 12 + 0 ≤ 7293034 by omega⟩ (m_X7_sight hm2 hO) rfl (fun E n1 μ9 h => (FIN_x (fin_sight hC hm hO h101 hQ hW h)).elim) ?_
  rintro v n9 μ3 - hQm
  obtain ⟨b, hb, th', D', dv', Fn', fv', sv', pk', fd', spd', lim', o9', hth, hC', hm', hO', h101', hk0⟩ := fin_sight hC hm hO h101 hQ hW hQm
  have hn9 := hQm.1
  obtain rfl := hn9
  obtain rfl := Sum.inl.inj hb
  obtain ⟨fs3, h823⟩ := MM_82 hm'
  refine aw_istore (q := 1551) dL_law_1549 rfl (by decide) ?_
  refine aw_ls (ls := [some (vS), some (vR 0), some (vR 82), some (vR 101), some (vI (ix)), some (vI (k9)), some (vI (b)), none]) ⟨rfl, ⟨rfl, ⟨rfl, ⟨rfl, ⟨rfl, ⟨rfl, ⟨rfl, trivial⟩⟩⟩⟩⟩⟩⟩ ?_
  refine aw_aload_n (q := 1552) dL_law_1551 rfl rfl rfl ?_
  refine aw_callV [] (q := 1555) dL_law_1552 rfl ck_X7_thrown lk_L_105 rfl ⟨Nat.le_of_ble_eq_true rfl, Nat.le_of_ble_eq_true rfl⟩ rfl rfl h823 rfl (Nat.le_of_ble_eq_true rfl) ⟨show 200 + 10 * t + 2 + 0 ≤ 601024 by omega, show 10000 + 60 * t + 12 + 0 ≤ 7293034 by omega⟩ (m_X7_thrown hm' hO') rfl (fun _ _ _ h => (Rt_x h).elim) ?_
  rintro v n9 μ9 - ⟨v9, hv9, hn9, hm9, rfl⟩
  obtain rfl := hn9.symm
  obtain rfl := hm9.symm
  obtain rfl := Sum.inl.inj hv9
  refine aw_iload (q := 1557) dL_law_1555 rfl rfl ?_
  refine aw_ic_eq (t := 1562) (q := 1560) dL_law_1557 rfl (by decide) (fun bc7 => ?_) (fun bc7 => ?_)
  · skip
    refine aw_iload (q := 1564) dL_law_1562 rfl rfl ?_
    refine aw_if_ne (t := 1579) (q := 1567) dL_law_1564 rfl (by decide) (fun bc8 => ?_) (fun bc8 => ?_)
    · skip
      refine aw_goto (q := 1775) dL_law_1579 (by decide) ?_
      refine aw_ls (ls := [some (vS), some (vR 0), some (vR 82), some (vR 101), some (vI (ix)), none, none, none]) ⟨rfl, ⟨rfl, ⟨rfl, ⟨rfl, ⟨rfl, trivial⟩⟩⟩⟩⟩ ?_
      exact aw_widen (show 200 + 10 * t + 2 ≤ 200 + 10 * (t + 1) by omega) (show 10000 + 60 * t + 12 ≤ 10000 + 60 * (t + 1) by omega) (K _ ⟨th', D', dv', Fn', fv', sv', pk', fd', spd', lim', o9', hC', hm', hO', h101'⟩)
    · skip
      have hk1 := hk0 (by omega)
      refine aw_aload_n (q := 1568) dL_law_1567 rfl rfl rfl ?_
      refine aw_iconst (q := 1569) dL_law_1568 rfl (by omega) ?_
      refine aw_laload (j := 0) (q := 1570) dL_law_1569 rfl h101' (by omega) (by omega) (fun rx9 => ?_)
      refine aw_iload (q := 1572) dL_law_1570 rfl rfl ?_
      refine aw_i2l (q := 1573) dL_law_1572 rfl ?_
      refine aw_lcmp (q := 1574) dL_law_1573 rfl ?_
      refine aw_if_eq (t := 1579) (q := 1577) dL_law_1574 rfl (by decide) (fun bc10 => ?_) (fun bc10 => ?_)
      · skip
        replace bc10 := cmpz_eq.mp bc10
        refine aw_goto (q := 1775) dL_law_1579 (by decide) ?_
        refine aw_ls (ls := [some (vS), some (vR 0), some (vR 82), some (vR 101), some (vI (ix)), none, none, none]) ⟨rfl, ⟨rfl, ⟨rfl, ⟨rfl, ⟨rfl, trivial⟩⟩⟩⟩⟩ ?_
        exact aw_widen (show 200 + 10 * t + 2 ≤ 200 + 10 * (t + 1) by omega) (show 10000 + 60 * t + 12 ≤ 10000 + 60 * (t + 1) by omega) (K _ ⟨th', D', dv', Fn', fv', sv', pk', fd', spd', lim', o9', hC', hm', hO', h101'⟩)
      · skip
        replace bc10 := mt cmpz_eq.mpr bc10
        omega
  · skip
    omega
set_option maxHeartbeats 4000000 in
set_option maxRecDepth 100000 in
theorem lc_weight {L : Nat} {f : Nat → Int} {μ : AH} {t : Nat} {ix : Int} (hix : ix = ((5 * t : Nat) : Int)) (ht : 5 * t + 5 ≤ L) (hL : L ≤ 2560) (hI : INV (t : Int) μ) (K : ∀ μ' : AH, INV ((t : Int) + 1) μ' → AW YL_law (some (L, f)) QL 1775 [some (vS), some (vR 0), some (vR 82), some (vR 101), some (vI (ix)), none, none, none] [] 102 μ' (200 + 10 * (t + 1)) (10000 + 60 * (t + 1))) : AW YL_law (some (L, f)) QL 1582 [some (vS), some (vR 0), some (vR 82), some (vR 101), some (vI (ix)), none, none, none] [] 102 μ (200 + 10 * t) (10000 + 60 * t) := by
  obtain ⟨th, D, dv, Fn, fv, sv, pk, fd, spd, lim, o9, hC, hm, hO, h101⟩ := hI
  refine aw_aload_n (q := 1583) dL_law_1582 rfl rfl rfl ?_
  refine aw_aload_s (q := 1584) dL_law_1583 rfl rfl rfl ?_
  refine aw_iload (q := 1586) dL_law_1584 rfl rfl ?_
  refine aw_iconst (q := 1587) dL_law_1586 rfl (by omega) ?_
  refine aw_iadd (q := 1588) dL_law_1587 rfl (by omega) ?_
  refine aw_sld (j := 5 * t + 1) (q := 1589) dL_law_1588 rfl (by omega) (by omega) (fun rx1 => ?_)
  refine aw_aload_s (q := 1590) dL_law_1589 rfl rfl rfl ?_
  refine aw_iload (q := 1592) dL_law_1590 rfl rfl ?_
  refine aw_iconst (q := 1593) dL_law_1592 rfl (by omega) ?_
  refine aw_iadd (q := 1594) dL_law_1593 rfl (by omega) ?_
  refine aw_sld (j := 5 * t + 2) (q := 1595) dL_law_1594 rfl (by omega) (by omega) (fun rx2 => ?_)
  refine aw_aload_n (q := 1596) dL_law_1595 rfl rfl rfl ?_
  refine aw_callSH [vR 0, vI (f (5 * t + 1)), vI (f (5 * t + 2)), vR 101] (q := 1599) dL_law_1596 rfl ck_L_weight lk_L_172 (List.cons_ne_nil _ _) ⟨Nat.le_of_ble_eq_true rfl, Nat.le_of_ble_eq_true rfl⟩ rfl rfl (Nat.le_of_ble_eq_true rfl) ⟨show 200 + 10 * t + 2 ≤ 601024 by omega, show 10000 + 60 * t + 12 ≤ 7293034 by omega⟩ (lf_weight hC hO h101) (fun _ _ _ h => Rt_x h) ?_
  rintro v n9 μ2 - ⟨v9, hv9, hn9, k9, hk9, hfr, o, μ1, hQ, hW⟩
  obtain rfl := hn9
  subst hk9
  obtain rfl := Sum.inl.inj hv9
  have hm2 : MM μ2 th D dv Fn fv sv pk fd spd lim := MM_k hm (fun b h1 h2 => hfr b h1 (by omega))
  obtain ⟨fs2, h822⟩ := MM_82 hm2
  refine aw_istore (q := 1601) dL_law_1599 rfl (by decide) ?_
  refine aw_aload_n (q := 1602) dL_law_1601 rfl rfl rfl ?_
  refine aw_aload_s (q := 1603) dL_law_1602 rfl rfl rfl ?_
  refine aw_iload (q := 1605) dL_law_1603 rfl rfl ?_
  refine aw_iconst (q := 1606) dL_law_1605 rfl (by omega) ?_
  refine aw_iadd (q := 1607) dL_law_1606 rfl (by omega) ?_
  refine aw_sld (j := 5 * t + 1) (q := 1608) dL_law_1607 rfl (by omega) (by omega) (fun rx3 => ?_)
  refine aw_aload_s (q := 1609) dL_law_1608 rfl rfl rfl ?_
  refine aw_iload (q := 1611) dL_law_1609 rfl rfl ?_
  refine aw_iconst (q := 1612) dL_law_1611 rfl (by omega) ?_
  refine aw_iadd (q := 1613) dL_law_1612 rfl (by omega) ?_
  refine aw_sld (j := 5 * t + 2) (q := 1614) dL_law_1613 rfl (by omega) (by omega) (fun rx4 => ?_)
  refine aw_callV [vI (f (5 * t + 1)), vI (f (5 * t + 2))] (q := 1617) dL_law_1614 rfl ck_X7_weight lk_L_174 rfl ⟨Nat.le_of_ble_eq_true rfl, Nat.le_of_ble_eq_true rfl⟩ rfl rfl h822 rfl (Nat.le_of_ble_eq_true rfl) ⟨show 200 + 10 * t + 2 + 0 ≤ 601024 by omega, show 10000 + 60 * t + 12 + 0 ≤ 7293034 by omega⟩ (m_X7_weight hm2 hO) rfl (fun E n1 μ9 h => (FIN_x (fin_weight hC hm hO h101 hQ hW h)).elim) ?_
  rintro v n9 μ3 - hQm
  obtain ⟨b, hb, th', D', dv', Fn', fv', sv', pk', fd', spd', lim', o9', hth, hC', hm', hO', h101', hk0⟩ := fin_weight hC hm hO h101 hQ hW hQm
  have hn9 := hQm.1
  obtain rfl := hn9
  obtain rfl := Sum.inl.inj hb
  obtain ⟨fs3, h823⟩ := MM_82 hm'
  refine aw_lstore (q := 1619) dL_law_1617 rfl (by decide) ?_
  refine aw_ls (ls := [some (vS), some (vR 0), some (vR 82), some (vR 101), some (vI (ix)), some (vI (k9)), some (vL (b)), none]) ⟨rfl, ⟨rfl, ⟨rfl, ⟨rfl, ⟨rfl, ⟨rfl, ⟨rfl, trivial⟩⟩⟩⟩⟩⟩⟩ ?_
  refine aw_aload_n (q := 1620) dL_law_1619 rfl rfl rfl ?_
  refine aw_callV [] (q := 1623) dL_law_1620 rfl ck_X7_thrown lk_L_105 rfl ⟨Nat.le_of_ble_eq_true rfl, Nat.le_of_ble_eq_true rfl⟩ rfl rfl h823 rfl (Nat.le_of_ble_eq_true rfl) ⟨show 200 + 10 * t + 2 + 0 ≤ 601024 by omega, show 10000 + 60 * t + 12 + 0 ≤ 7293034 by omega⟩ (m_X7_thrown hm' hO') rfl (fun _ _ _ h => (Rt_x h).elim) ?_
  rintro v n9 μ9 - ⟨v9, hv9, hn9, hm9, rfl⟩
  obtain rfl := hn9.symm
  obtain rfl := hm9.symm
  obtain rfl := Sum.inl.inj hv9
  refine aw_iload (q := 1625) dL_law_1623 rfl rfl ?_
  refine aw_ic_eq (t := 1630) (q := 1628) dL_law_1625 rfl (by decide) (fun bc5 => ?_) (fun bc5 => ?_)
  · skip
    refine aw_iload (q := 1632) dL_law_1630 rfl rfl ?_
    refine aw_if_ne (t := 1646) (q := 1635) dL_law_1632 rfl (by decide) (fun bc6 => ?_) (fun bc6 => ?_)
    · skip
      refine aw_goto (q := 1775) dL_law_1646 (by decide) ?_
      refine aw_ls (ls := [some (vS), some (vR 0), some (vR 82), some (vR 101), some (vI (ix)), none, none, none]) ⟨rfl, ⟨rfl, ⟨rfl, ⟨rfl, ⟨rfl, trivial⟩⟩⟩⟩⟩ ?_
      exact aw_widen (show 200 + 10 * t + 2 ≤ 200 + 10 * (t + 1) by omega) (show 10000 + 60 * t + 12 ≤ 10000 + 60 * (t + 1) by omega) (K _ ⟨th', D', dv', Fn', fv', sv', pk', fd', spd', lim', o9', hC', hm', hO', h101'⟩)
    · skip
      have hk1 := hk0 (by omega)
      refine aw_aload_n (q := 1636) dL_law_1635 rfl rfl rfl ?_
      refine aw_iconst (q := 1637) dL_law_1636 rfl (by omega) ?_
      refine aw_laload (j := 0) (q := 1638) dL_law_1637 rfl h101' (by omega) (by omega) (fun rx7 => ?_)
      refine aw_lload (q := 1640) dL_law_1638 rfl rfl ?_
      refine aw_lcmp (q := 1641) dL_law_1640 rfl ?_
      refine aw_if_eq (t := 1646) (q := 1644) dL_law_1641 rfl (by decide) (fun bc8 => ?_) (fun bc8 => ?_)
      · skip
        replace bc8 := cmpz_eq.mp bc8
        refine aw_goto (q := 1775) dL_law_1646 (by decide) ?_
        refine aw_ls (ls := [some (vS), some (vR 0), some (vR 82), some (vR 101), some (vI (ix)), none, none, none]) ⟨rfl, ⟨rfl, ⟨rfl, ⟨rfl, ⟨rfl, trivial⟩⟩⟩⟩⟩ ?_
        exact aw_widen (show 200 + 10 * t + 2 ≤ 200 + 10 * (t + 1) by omega) (show 10000 + 60 * t + 12 ≤ 10000 + 60 * (t + 1) by omega) (K _ ⟨th', D', dv', Fn', fv', sv', pk', fd', spd', lim', o9', hC', hm', hO', h101'⟩)
      · skip
        replace bc8 := mt cmpz_eq.mpr bc8
        omega
  · skip
    omega
set_option maxHeartbeats 4000000 in
set_option maxRecDepth 100000 in
theorem lc_match {L : Nat} {f : Nat → Int} {μ : AH} {t : Nat} {ix : Int} (hix : ix = ((5 * t : Nat) : Int)) (ht : 5 * t + 5 ≤ L) (hL : L ≤ 2560) (hI : INV (t : Int) μ) (K : ∀ μ' : AH, INV ((t : Int) + 1) μ' → AW YL_law (some (L, f)) QL 1775 [some (vS), some (vR 0), some (vR 82), some (vR 101), some (vI (ix)), none, none, none] [] 102 μ' (200 + 10 * (t + 1)) (10000 + 60 * (t + 1))) : AW YL_law (some (L, f)) QL 1663 [some (vS), some (vR 0), some (vR 82), some (vR 101), some (vI (ix)), none, none, none] [] 102 μ (200 + 10 * t) (10000 + 60 * t) := by
  obtain ⟨th, D, dv, Fn, fv, sv, pk, fd, spd, lim, o9, hC, hm, hO, h101⟩ := hI
  refine aw_aload_n (q := 1664) dL_law_1663 rfl rfl rfl ?_
  refine aw_aload_s (q := 1665) dL_law_1664 rfl rfl rfl ?_
  refine aw_iload (q := 1667) dL_law_1665 rfl rfl ?_
  refine aw_iconst (q := 1668) dL_law_1667 rfl (by omega) ?_
  refine aw_iadd (q := 1669) dL_law_1668 rfl (by omega) ?_
  refine aw_sld (j := 5 * t + 1) (q := 1670) dL_law_1669 rfl (by omega) (by omega) (fun rx1 => ?_)
  refine aw_aload_n (q := 1671) dL_law_1670 rfl rfl rfl ?_
  refine aw_callSH [vR 0, vI (f (5 * t + 1)), vR 101] (q := 1674) dL_law_1671 rfl ck_L_match lk_L_180 (List.cons_ne_nil _ _) ⟨Nat.le_of_ble_eq_true rfl, Nat.le_of_ble_eq_true rfl⟩ rfl rfl (Nat.le_of_ble_eq_true rfl) ⟨show 200 + 10 * t + 1 ≤ 601024 by omega, show 10000 + 60 * t + 6 ≤ 7293034 by omega⟩ (lf_match hC hO h101) (fun _ _ _ h => Rt_x h) ?_
  rintro v n9 μ2 - ⟨v9, hv9, hn9, k9, hk9, hfr, o, μ1, hQ, hW⟩
  obtain rfl := hn9
  subst hk9
  obtain rfl := Sum.inl.inj hv9
  have hm2 : MM μ2 th D dv Fn fv sv pk fd spd lim := MM_k hm (fun b h1 h2 => hfr b h1 (by omega))
  obtain ⟨fs2, h822⟩ := MM_82 hm2
  refine aw_istore (q := 1676) dL_law_1674 rfl (by decide) ?_
  refine aw_aload_n (q := 1677) dL_law_1676 rfl rfl rfl ?_
  refine aw_aload_s (q := 1678) dL_law_1677 rfl rfl rfl ?_
  refine aw_iload (q := 1680) dL_law_1678 rfl rfl ?_
  refine aw_iconst (q := 1681) dL_law_1680 rfl (by omega) ?_
  refine aw_iadd (q := 1682) dL_law_1681 rfl (by omega) ?_
  refine aw_sld (j := 5 * t + 1) (q := 1683) dL_law_1682 rfl (by omega) (by omega) (fun rx2 => ?_)
  refine aw_callV [vI (f (5 * t + 1))] (q := 1686) dL_law_1683 rfl ck_X7_match lk_L_182 rfl ⟨Nat.le_of_ble_eq_true rfl, Nat.le_of_ble_eq_true rfl⟩ rfl rfl h822 rfl (Nat.le_of_ble_eq_true rfl) ⟨show 200 + 10 * t + 1 + 0 ≤ 601024 by omega, show 10000 + 60 * t + 6 + 0 ≤ 7293034 by omega⟩ (m_X7_match hm2 hO) rfl (fun E n1 μ9 h => (FIN_x (fin_match hC hm hO h101 hQ hW h)).elim) ?_
  rintro v n9 μ3 - hQm
  obtain ⟨b, hb, th', D', dv', Fn', fv', sv', pk', fd', spd', lim', o9', hth, hC', hm', hO', h101', hk0⟩ := fin_match hC hm hO h101 hQ hW hQm
  have hn9 := hQm.1
  obtain rfl := hn9
  obtain rfl := Sum.inl.inj hb
  obtain ⟨fs3, h823⟩ := MM_82 hm'
  refine aw_istore (q := 1688) dL_law_1686 rfl (by decide) ?_
  refine aw_ls (ls := [some (vS), some (vR 0), some (vR 82), some (vR 101), some (vI (ix)), some (vI (k9)), some (vI (b)), none]) ⟨rfl, ⟨rfl, ⟨rfl, ⟨rfl, ⟨rfl, ⟨rfl, ⟨rfl, trivial⟩⟩⟩⟩⟩⟩⟩ ?_
  refine aw_aload_n (q := 1689) dL_law_1688 rfl rfl rfl ?_
  refine aw_callV [] (q := 1692) dL_law_1689 rfl ck_X7_thrown lk_L_105 rfl ⟨Nat.le_of_ble_eq_true rfl, Nat.le_of_ble_eq_true rfl⟩ rfl rfl h823 rfl (Nat.le_of_ble_eq_true rfl) ⟨show 200 + 10 * t + 1 + 0 ≤ 601024 by omega, show 10000 + 60 * t + 6 + 0 ≤ 7293034 by omega⟩ (m_X7_thrown hm' hO') rfl (fun _ _ _ h => (Rt_x h).elim) ?_
  rintro v n9 μ9 - ⟨v9, hv9, hn9, hm9, rfl⟩
  obtain rfl := hn9.symm
  obtain rfl := hm9.symm
  obtain rfl := Sum.inl.inj hv9
  refine aw_iload (q := 1694) dL_law_1692 rfl rfl ?_
  refine aw_ic_eq (t := 1699) (q := 1697) dL_law_1694 rfl (by decide) (fun bc3 => ?_) (fun bc3 => ?_)
  · skip
    refine aw_iload (q := 1701) dL_law_1699 rfl rfl ?_
    refine aw_if_ne (t := 1716) (q := 1704) dL_law_1701 rfl (by decide) (fun bc4 => ?_) (fun bc4 => ?_)
    · skip
      refine aw_goto (q := 1775) dL_law_1716 (by decide) ?_
      refine aw_ls (ls := [some (vS), some (vR 0), some (vR 82), some (vR 101), some (vI (ix)), none, none, none]) ⟨rfl, ⟨rfl, ⟨rfl, ⟨rfl, ⟨rfl, trivial⟩⟩⟩⟩⟩ ?_
      exact aw_widen (show 200 + 10 * t + 1 ≤ 200 + 10 * (t + 1) by omega) (show 10000 + 60 * t + 6 ≤ 10000 + 60 * (t + 1) by omega) (K _ ⟨th', D', dv', Fn', fv', sv', pk', fd', spd', lim', o9', hC', hm', hO', h101'⟩)
    · skip
      have hk1 := hk0 (by omega)
      refine aw_aload_n (q := 1705) dL_law_1704 rfl rfl rfl ?_
      refine aw_iconst (q := 1706) dL_law_1705 rfl (by omega) ?_
      refine aw_laload (j := 0) (q := 1707) dL_law_1706 rfl h101' (by omega) (by omega) (fun rx5 => ?_)
      refine aw_iload (q := 1709) dL_law_1707 rfl rfl ?_
      refine aw_i2l (q := 1710) dL_law_1709 rfl ?_
      refine aw_lcmp (q := 1711) dL_law_1710 rfl ?_
      refine aw_if_eq (t := 1716) (q := 1714) dL_law_1711 rfl (by decide) (fun bc6 => ?_) (fun bc6 => ?_)
      · skip
        replace bc6 := cmpz_eq.mp bc6
        refine aw_goto (q := 1775) dL_law_1716 (by decide) ?_
        refine aw_ls (ls := [some (vS), some (vR 0), some (vR 82), some (vR 101), some (vI (ix)), none, none, none]) ⟨rfl, ⟨rfl, ⟨rfl, ⟨rfl, ⟨rfl, trivial⟩⟩⟩⟩⟩ ?_
        exact aw_widen (show 200 + 10 * t + 1 ≤ 200 + 10 * (t + 1) by omega) (show 10000 + 60 * t + 6 ≤ 10000 + 60 * (t + 1) by omega) (K _ ⟨th', D', dv', Fn', fv', sv', pk', fd', spd', lim', o9', hC', hm', hO', h101'⟩)
      · skip
        replace bc6 := mt cmpz_eq.mpr bc6
        omega
  · skip
    omega
set_option maxHeartbeats 4000000 in
set_option maxRecDepth 100000 in
theorem lc_told {L : Nat} {f : Nat → Int} {μ : AH} {t : Nat} {ix : Int} (hix : ix = ((5 * t : Nat) : Int)) (ht : 5 * t + 5 ≤ L) (hL : L ≤ 2560) (hI : INV (t : Int) μ) (K : ∀ μ' : AH, INV ((t : Int) + 1) μ' → AW YL_law (some (L, f)) QL 1775 [some (vS), some (vR 0), some (vR 82), some (vR 101), some (vI (ix)), none, none, none] [] 102 μ' (200 + 10 * (t + 1)) (10000 + 60 * (t + 1))) : AW YL_law (some (L, f)) QL 1719 [some (vS), some (vR 0), some (vR 82), some (vR 101), some (vI (ix)), none, none, none] [] 102 μ (200 + 10 * t) (10000 + 60 * t) := by
  obtain ⟨th, D, dv, Fn, fv, sv, pk, fd, spd, lim, o9, hC, hm, hO, h101⟩ := hI
  refine aw_aload_n (q := 1720) dL_law_1719 rfl rfl rfl ?_
  refine aw_aload_s (q := 1721) dL_law_1720 rfl rfl rfl ?_
  refine aw_iload (q := 1723) dL_law_1721 rfl rfl ?_
  refine aw_iconst (q := 1724) dL_law_1723 rfl (by omega) ?_
  refine aw_iadd (q := 1725) dL_law_1724 rfl (by omega) ?_
  refine aw_sld (j := 5 * t + 1) (q := 1726) dL_law_1725 rfl (by omega) (by omega) (fun rx1 => ?_)
  refine aw_aload_n (q := 1727) dL_law_1726 rfl rfl rfl ?_
  refine aw_callSH [vR 0, vI (f (5 * t + 1)), vR 101] (q := 1730) dL_law_1727 rfl ck_L_told lk_L_183 (List.cons_ne_nil _ _) ⟨Nat.le_of_ble_eq_true rfl, Nat.le_of_ble_eq_true rfl⟩ rfl rfl (Nat.le_of_ble_eq_true rfl) ⟨show 200 + 10 * t + 1 ≤ 601024 by omega, show 10000 + 60 * t + 6 ≤ 7293034 by omega⟩ (lf_told hC hO h101) (fun _ _ _ h => Rt_x h) ?_
  rintro v n9 μ2 - ⟨v9, hv9, hn9, k9, hk9, hfr, o, μ1, hQ, hW⟩
  obtain rfl := hn9
  subst hk9
  obtain rfl := Sum.inl.inj hv9
  have hm2 : MM μ2 th D dv Fn fv sv pk fd spd lim := MM_k hm (fun b h1 h2 => hfr b h1 (by omega))
  obtain ⟨fs2, h822⟩ := MM_82 hm2
  refine aw_istore (q := 1732) dL_law_1730 rfl (by decide) ?_
  refine aw_aload_n (q := 1733) dL_law_1732 rfl rfl rfl ?_
  refine aw_aload_s (q := 1734) dL_law_1733 rfl rfl rfl ?_
  refine aw_iload (q := 1736) dL_law_1734 rfl rfl ?_
  refine aw_iconst (q := 1737) dL_law_1736 rfl (by omega) ?_
  refine aw_iadd (q := 1738) dL_law_1737 rfl (by omega) ?_
  refine aw_sld (j := 5 * t + 1) (q := 1739) dL_law_1738 rfl (by omega) (by omega) (fun rx2 => ?_)
  refine aw_callV [vI (f (5 * t + 1))] (q := 1742) dL_law_1739 rfl ck_X7_told lk_L_185 rfl ⟨Nat.le_of_ble_eq_true rfl, Nat.le_of_ble_eq_true rfl⟩ rfl rfl h822 rfl (Nat.le_of_ble_eq_true rfl) ⟨show 200 + 10 * t + 1 + 0 ≤ 601024 by omega, show 10000 + 60 * t + 6 + 0 ≤ 7293034 by omega⟩ (m_X7_told hm2 hO) rfl (fun E n1 μ9 h => (FIN_x (fin_told hC hm hO h101 hQ hW h)).elim) ?_
  rintro v n9 μ3 - hQm
  obtain ⟨b, hb, th', D', dv', Fn', fv', sv', pk', fd', spd', lim', o9', hth, hC', hm', hO', h101', hk0⟩ := fin_told hC hm hO h101 hQ hW hQm
  have hn9 := hQm.1
  obtain rfl := hn9
  obtain rfl := Sum.inl.inj hb
  obtain ⟨fs3, h823⟩ := MM_82 hm'
  refine aw_istore (q := 1744) dL_law_1742 rfl (by decide) ?_
  refine aw_ls (ls := [some (vS), some (vR 0), some (vR 82), some (vR 101), some (vI (ix)), some (vI (k9)), some (vI (b)), none]) ⟨rfl, ⟨rfl, ⟨rfl, ⟨rfl, ⟨rfl, ⟨rfl, ⟨rfl, trivial⟩⟩⟩⟩⟩⟩⟩ ?_
  refine aw_aload_n (q := 1745) dL_law_1744 rfl rfl rfl ?_
  refine aw_callV [] (q := 1748) dL_law_1745 rfl ck_X7_thrown lk_L_105 rfl ⟨Nat.le_of_ble_eq_true rfl, Nat.le_of_ble_eq_true rfl⟩ rfl rfl h823 rfl (Nat.le_of_ble_eq_true rfl) ⟨show 200 + 10 * t + 1 + 0 ≤ 601024 by omega, show 10000 + 60 * t + 6 + 0 ≤ 7293034 by omega⟩ (m_X7_thrown hm' hO') rfl (fun _ _ _ h => (Rt_x h).elim) ?_
  rintro v n9 μ9 - ⟨v9, hv9, hn9, hm9, rfl⟩
  obtain rfl := hn9.symm
  obtain rfl := hm9.symm
  obtain rfl := Sum.inl.inj hv9
  refine aw_iload (q := 1750) dL_law_1748 rfl rfl ?_
  refine aw_ic_eq (t := 1755) (q := 1753) dL_law_1750 rfl (by decide) (fun bc3 => ?_) (fun bc3 => ?_)
  · skip
    refine aw_iload (q := 1757) dL_law_1755 rfl rfl ?_
    refine aw_if_ne (t := 1772) (q := 1760) dL_law_1757 rfl (by decide) (fun bc4 => ?_) (fun bc4 => ?_)
    · skip
      refine aw_goto (q := 1775) dL_law_1772 (by decide) ?_
      refine aw_ls (ls := [some (vS), some (vR 0), some (vR 82), some (vR 101), some (vI (ix)), none, none, none]) ⟨rfl, ⟨rfl, ⟨rfl, ⟨rfl, ⟨rfl, trivial⟩⟩⟩⟩⟩ ?_
      exact aw_widen (show 200 + 10 * t + 1 ≤ 200 + 10 * (t + 1) by omega) (show 10000 + 60 * t + 6 ≤ 10000 + 60 * (t + 1) by omega) (K _ ⟨th', D', dv', Fn', fv', sv', pk', fd', spd', lim', o9', hC', hm', hO', h101'⟩)
    · skip
      have hk1 := hk0 (by omega)
      refine aw_aload_n (q := 1761) dL_law_1760 rfl rfl rfl ?_
      refine aw_iconst (q := 1762) dL_law_1761 rfl (by omega) ?_
      refine aw_laload (j := 0) (q := 1763) dL_law_1762 rfl h101' (by omega) (by omega) (fun rx5 => ?_)
      refine aw_iload (q := 1765) dL_law_1763 rfl rfl ?_
      refine aw_i2l (q := 1766) dL_law_1765 rfl ?_
      refine aw_lcmp (q := 1767) dL_law_1766 rfl ?_
      refine aw_if_eq (t := 1772) (q := 1770) dL_law_1767 rfl (by decide) (fun bc6 => ?_) (fun bc6 => ?_)
      · skip
        replace bc6 := cmpz_eq.mp bc6
        refine aw_goto (q := 1775) dL_law_1772 (by decide) ?_
        refine aw_ls (ls := [some (vS), some (vR 0), some (vR 82), some (vR 101), some (vI (ix)), none, none, none]) ⟨rfl, ⟨rfl, ⟨rfl, ⟨rfl, ⟨rfl, trivial⟩⟩⟩⟩⟩ ?_
        exact aw_widen (show 200 + 10 * t + 1 ≤ 200 + 10 * (t + 1) by omega) (show 10000 + 60 * t + 6 ≤ 10000 + 60 * (t + 1) by omega) (K _ ⟨th', D', dv', Fn', fv', sv', pk', fd', spd', lim', o9', hC', hm', hO', h101'⟩)
      · skip
        replace bc6 := mt cmpz_eq.mpr bc6
        omega
  · skip
    omega
set_option maxHeartbeats 4000000 in
set_option maxRecDepth 100000 in
theorem lc_matched {L : Nat} {f : Nat → Int} {μ : AH} {t : Nat} {ix : Int} (hix : ix = ((5 * t : Nat) : Int)) (ht : 5 * t + 5 ≤ L) (hL : L ≤ 2560) (hI : INV (t : Int) μ) (K : ∀ μ' : AH, INV ((t : Int) + 1) μ' → AW YL_law (some (L, f)) QL 1775 [some (vS), some (vR 0), some (vR 82), some (vR 101), some (vI (ix)), none, none, none] [] 102 μ' (200 + 10 * (t + 1)) (10000 + 60 * (t + 1))) : AW YL_law (some (L, f)) QL 1649 [some (vS), some (vR 0), some (vR 82), some (vR 101), some (vI (ix)), none, none, none] [] 102 μ (200 + 10 * t) (10000 + 60 * t) := by
  obtain ⟨th, D, dv, Fn, fv, sv, pk, fd, spd, lim, o9, hC, hm, hO, h101⟩ := hI
  refine aw_aload_n (q := 1650) dL_law_1649 rfl rfl rfl ?_
  refine aw_callV [] (q := 1653) dL_law_1650 rfl ck_X6_matched lk_L_175 rfl ⟨Nat.le_of_ble_eq_true rfl, Nat.le_of_ble_eq_true rfl⟩ rfl rfl hC.1 rfl (Nat.le_of_ble_eq_true rfl) ⟨show 200 + 10 * t + 0 ≤ 601024 by omega, show 10000 + 60 * t + 0 ≤ 7293034 by omega⟩ (m_X6_matched hC hO) rfl (fun E n1 μ9 h => by obtain ⟨_, ds, _, _, h9, _⟩ := h; cases h9) ?_
  rintro v n9 μ1 - ⟨hn9, ds, e1, e2, hv9, hC1, hF1⟩
  obtain rfl := hn9
  obtain rfl := Sum.inl.inj hv9
  have hm1 : MM μ1 th D dv Fn fv sv pk fd spd lim := MM_k hm (fun b h1 h2 => hF1 b h1)
  obtain ⟨fs2, h822⟩ := MM_82 hm1
  refine aw_aload_n (q := 1654) dL_law_1653 rfl rfl rfl ?_
  refine aw_callV [] (q := 1657) dL_law_1654 rfl ck_X7_matched lk_L_179 rfl ⟨Nat.le_of_ble_eq_true rfl, Nat.le_of_ble_eq_true rfl⟩ rfl rfl h822 rfl (Nat.le_of_ble_eq_true rfl) ⟨show 200 + 10 * t + 0 ≤ 601024 by omega, show 10000 + 60 * t + 0 ≤ 7293034 by omega⟩ (m_X7_matched hm1 hO) rfl (fun E n1 μ9 h => by obtain ⟨_, _, ds, _, _, h9, _⟩ := h; cases h9) ?_
  rintro v n9 μ3 - ⟨hn9, hF3, es, d1, d2, hv9, hm3⟩
  obtain rfl := hn9
  obtain rfl := Sum.inl.inj hv9
  obtain rfl := Bst_u hO.1 e2 d2 (d1.trans e1.symm)
  have hC3 := CH_k hC1 (fun b hb => hF3 b (by omega))
  have h1013 : μ3 101 = oL 1 o9 := (hF3 101 (by omega)).trans ((hF1 101 (by omega)).trans h101)
  refine aw_lcmp (q := 1658) dL_law_1657 rfl ?_
  refine aw_if_eq (t := 1775) (q := 1661) dL_law_1658 rfl (by decide) (fun bc1 => ?_) (fun bc1 => ?_)
  · skip
    replace bc1 := cmpz_eq.mp bc1
    exact aw_widen (show 200 + 10 * t ≤ 200 + 10 * (t + 1) by omega) (show 10000 + 60 * t ≤ 10000 + 60 * (t + 1) by omega) (K _ ⟨0, D, dv, Fn, fv, sv, pk, fd, spd, lim, o9, hC3, hm3, ko_B hO, h1013⟩)
  · skip
    replace bc1 := mt cmpz_eq.mpr bc1
    exact absurd rfl bc1
