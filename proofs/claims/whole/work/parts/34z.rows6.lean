/-! ===== rows: shifts of Ints ===== -/
theorem aw_shlZ {Y : AY} {S : AScr} {Q : AQ} {pc q : Nat} {ls : List (Option AV)} {st : List AV} {n : Nat} {μ : AH} {k z : Nat} {a b' : Int} (b : Nat) (hd : decode Y.cc pc = .ok (.ishl, 1)) (hq : pc + 1 = q) (hb' : b' = (b : Int)) (hb : b < 32) (ha : 0 ≤ a) (hr : iR (a * (2 ^ b : Nat))) (K : AW Y S Q q ls (vI (a * (2 ^ b : Nat)) :: st) n μ k z) : AW Y S Q pc ls (vI b' :: vI a :: st) n μ k z := by
  subst hb'
  obtain ⟨w, rfl⟩ : ∃ w : Nat, a = (w : Int) := ⟨a.toNat, by omega⟩
  have e : ((w * 2 ^ b : Nat) : Int) = (w : Int) * ((2 ^ b : Nat) : Int) := Int.natCast_mul _ _
  refine aw_ishl (a := w) (b := b) hd hq hb (by rw [e]; exact hr) ?_
  rw [e]
  exact K
theorem aw_shrZ {Y : AY} {S : AScr} {Q : AQ} {pc q : Nat} {ls : List (Option AV)} {st : List AV} {n : Nat} {μ : AH} {k z : Nat} {a b' : Int} (b : Nat) (hd : decode Y.cc pc = .ok (.ishr, 1)) (hq : pc + 1 = q) (hb' : b' = (b : Int)) (hb : b < 32) (ha : 0 ≤ a) (K : AW Y S Q q ls (vI (a / (2 ^ b : Nat)) :: st) n μ k z) : AW Y S Q pc ls (vI b' :: vI a :: st) n μ k z := by
  subst hb'
  obtain ⟨w, rfl⟩ : ∃ w : Nat, a = (w : Int) := ⟨a.toNat, by omega⟩
  have e : ((w / 2 ^ b : Nat) : Int) = (w : Int) / ((2 ^ b : Nat) : Int) := Int.natCast_ediv _ _
  refine aw_ishr (a := w) (b := b) hd hq hb ?_
  rw [e]
  exact K
theorem aw_maskM {Y : AY} {S : AScr} {Q : AQ} {pc q : Nat} {ls : List (Option AV)} {st : List AV} {n : Nat} {μ : AH} {k z : Nat} {a b : Int} (j : Nat) (M : Int) (hM : ((2 ^ j : Nat) : Int) = M) (hd : decode Y.cc pc = .ok (.iand, 1)) (hq : pc + 1 = q) (hj : j < 31) (hb : b = M - 1) (K : AW Y S Q q ls (vI (a % M) :: st) n μ k z) : AW Y S Q pc ls (vI b :: vI a :: st) n μ k z := by
  subst hM
  refine aw_imask j hd hq hj ?_ K
  have : 0 < 2 ^ j := Nat.pow_pos (by decide)
  omega
theorem aw_shlM {Y : AY} {S : AScr} {Q : AQ} {pc q : Nat} {ls : List (Option AV)} {st : List AV} {n : Nat} {μ : AH} {k z : Nat} {a b' : Int} (b : Nat) (M : Int) (hM : ((2 ^ b : Nat) : Int) = M) (hd : decode Y.cc pc = .ok (.ishl, 1)) (hq : pc + 1 = q) (hb' : b' = (b : Int)) (hb : b < 32) (ha : 0 ≤ a) (hr : iR (a * M)) (K : AW Y S Q q ls (vI (a * M) :: st) n μ k z) : AW Y S Q pc ls (vI b' :: vI a :: st) n μ k z := by
  subst hM
  exact aw_shlZ b hd hq hb' hb ha hr K
theorem aw_shrM {Y : AY} {S : AScr} {Q : AQ} {pc q : Nat} {ls : List (Option AV)} {st : List AV} {n : Nat} {μ : AH} {k z : Nat} {a b' : Int} (b : Nat) (M : Int) (hM : ((2 ^ b : Nat) : Int) = M) (hd : decode Y.cc pc = .ok (.ishr, 1)) (hq : pc + 1 = q) (hb' : b' = (b : Int)) (hb : b < 32) (ha : 0 ≤ a) (K : AW Y S Q q ls (vI (a / M) :: st) n μ k z) : AW Y S Q pc ls (vI b' :: vI a :: st) n μ k z := by
  subst hM
  exact aw_shrZ b hd hq hb' hb ha K
