/-! ===== a quotient between one and six ===== -/
theorem fd_num {a : Nat} (h0 : 0 < a) (ha : a < 2 ^ 31) : ∃ c q, FP.Core.val64 (FP.Core.i2d (nI a)) = .fin false c q ∧ 0 < c ∧ c * 2 ^ q.toNat = a * 2 ^ (-q).toNat := by
  have h := FP.Core.i2d_int (nI a)
  unfold FP.Core.DInt at h
  rw [nI_toInt ha] at h
  generalize FP.Core.val64 (FP.Core.i2d (nI a)) = v at h ⊢
  cases v with
  | nan => exact h.elim
  | inf s => exact h.elim
  | fin s c q =>
    have h : FP.Core.signed s (c * 2 ^ q.toNat) = (a : Int) * ((2 ^ (-q).toNat : Nat) : Int) := h
    have hp : 0 < a * 2 ^ (-q).toNat := Nat.mul_pos h0 (Nat.two_pow_pos _)
    rw [← Int.natCast_mul] at h
    cases s with
    | true =>
      have h2 : -((c * 2 ^ q.toNat : Nat) : Int) = ((a * 2 ^ (-q).toNat : Nat) : Int) := h
      generalize c * 2 ^ q.toNat = u at h2
      generalize a * 2 ^ (-q).toNat = w at h2 hp
      omega
    | false =>
      have h2 : ((c * 2 ^ q.toNat : Nat) : Int) = ((a * 2 ^ (-q).toNat : Nat) : Int) := h
      have h3 : c * 2 ^ q.toNat = a * 2 ^ (-q).toNat := Int.ofNat.inj h2
      refine ⟨c, q, rfl, Nat.pos_of_ne_zero (fun z => ?_), h3⟩
      rw [z, Nat.zero_mul] at h3
      omega
theorem fd_div {a b : Nat} (ha0 : 0 < a) (ha : a < 2 ^ 31) (hb0 : 0 < b) (hb : b < 2 ^ 31) : FP.Core.val64 (FP.Core.ddiv (FP.Core.i2d (nI a)) (FP.Core.i2d (nI b))) = FP.Core.roundRatio FP.Core.b64 false a b 0 := by
  obtain ⟨c, q, hx, hc, h1⟩ := fd_num ha0 ha
  obtain ⟨d, r, hy, hd, h2⟩ := fd_num hb0 hb
  rw [FP.Core.val64_ddiv, hx, hy]
  show (if d = 0 then (if c = 0 then FP.Core.Datum.nan else FP.Core.Datum.inf (false != false)) else FP.Core.roundRatio FP.Core.b64 (false != false) c d (q - r)) = _
  rw [if_neg (by omega)]
  refine FP.Core.roundRatio_congr (s := false) hd hb0 ?_
  obtain ⟨t, t1, t2⟩ : ∃ t, q.toNat + (-r).toNat = (q - r - 0).toNat + t ∧ (-q).toNat + r.toNat = (0 - (q - r)).toNat + t := ⟨min (q.toNat + (-r).toNat) ((-q).toNat + r.toNat), by omega, by omega⟩
  have key : c * b * 2 ^ (q.toNat + (-r).toNat) = a * d * 2 ^ ((-q).toNat + r.toNat) := by
    rw [Nat.pow_add, Nat.pow_add]
    calc c * b * (2 ^ q.toNat * 2 ^ (-r).toNat) = (c * 2 ^ q.toNat) * (b * 2 ^ (-r).toNat) := by ac_rfl
      _ = (a * 2 ^ (-q).toNat) * (d * 2 ^ r.toNat) := by rw [h1, ← h2]
      _ = a * d * (2 ^ (-q).toNat * 2 ^ r.toNat) := by ac_rfl
  rw [t1, t2, Nat.pow_add, Nat.pow_add, ← Nat.mul_assoc, ← Nat.mul_assoc] at key
  exact Nat.eq_of_mul_eq_mul_right (Nat.two_pow_pos t) key
theorem fd_zval {k : Nat} (hk0 : 0 < k) (hk : k < 2 ^ 31) : FP.Core.zmag FP.Core.b64 (FP.Core.val64 (FP.Core.i2d (nI k))) = k * FP.Core.one64 ∧ FP.Core.zval FP.Core.b64 (FP.Core.val64 (FP.Core.i2d (nI k))) = ((k * FP.Core.one64 : Nat) : Int) := by
  have h := FP.Core.DInt_zval (FP.Core.i2d_int (nI k))
  rw [nI_toInt hk, ← Int.natCast_mul] at h
  obtain ⟨c, q, hx, -, -⟩ := fd_num hk0 hk
  refine ⟨?_, h⟩
  rw [hx] at h ⊢
  have h2 : ((FP.Core.zmag FP.Core.b64 (.fin false c q) : Nat) : Int) = ((k * FP.Core.one64 : Nat) : Int) := h
  exact Int.ofNat.inj h2
theorem fd_unit (a : Nat) : FP.Core.inUnits a 0 FP.Core.b64.qmin = a * FP.Core.one64 := by
  unfold FP.Core.inUnits
  rw [← FP.Core.pow_qmin64, Int.zero_sub]
theorem fd_q0 : (FP.Core.b64.qmin - FP.Core.b64.qmin).toNat = 0 := by rw [Int.sub_self]; rfl
theorem fd_qn : FP.Core.b64.qmin ≤ 0 := by decide +kernel
theorem fd_le {a b k : Nat} (hb0 : 0 < b) (hk0 : 0 < k) (hk : k < 2 ^ 31) (h : a ≤ k * b) : FP.Core.zmag FP.Core.b64 (FP.Core.roundRatio FP.Core.b64 false a b 0) ≤ k * FP.Core.one64 := by
  have hz := (fd_zval hk0 hk).1
  have := FP.Core.zmag_roundRatio_le FP.Core.good_b64 (s := false) (A := a) (B := b) (e := 0) (e0 := FP.Core.b64.qmin) (V := FP.Core.val64 (FP.Core.i2d (nI k))) hb0 (FP.Core.val64_fits _) (FP.Core.DInt_ne_nan (FP.Core.i2d_int (nI k))) (Int.le_refl _) fd_qn (by
    rw [fd_unit, hz, fd_q0, Nat.pow_zero, Nat.mul_one]
    calc a * FP.Core.one64 ≤ k * b * FP.Core.one64 := Nat.mul_le_mul_right _ h
      _ = k * FP.Core.one64 * b := Nat.mul_right_comm _ _ _)
  rw [hz] at this
  exact this
theorem fd_ge {a b : Nat} (hb0 : 0 < b) (h : b ≤ a) : 1 * FP.Core.one64 ≤ FP.Core.zmag FP.Core.b64 (FP.Core.roundRatio FP.Core.b64 false a b 0) := by
  have hz := (fd_zval (k := 1) (by decide) (by decide)).1
  have := FP.Core.zmag_roundRatio_ge FP.Core.good_b64 (s := false) (A := a) (B := b) (e := 0) (e0 := FP.Core.b64.qmin) (V := FP.Core.val64 (FP.Core.i2d (nI 1))) hb0 (FP.Core.val64_fits _) (Int.le_refl _) fd_qn (by
    rw [fd_unit, hz, fd_q0, Nat.pow_zero, Nat.mul_one]
    calc 1 * FP.Core.one64 * b = b * FP.Core.one64 := by rw [Nat.one_mul, Nat.mul_comm]
      _ ≤ a * FP.Core.one64 := Nat.mul_le_mul_right _ h)
  rw [hz] at this
  exact this
theorem cmp_gt {x y : Int} (h : y < x) : compare x y = .gt := by
  simp only [compare, compareOfLessAndEq]
  rw [if_neg (by omega), if_neg (by omega)]
theorem cmp_le {x y : Int} (h : x ≤ y) : compare x y = .lt ∨ compare x y = .eq := by
  simp only [compare, compareOfLessAndEq]
  by_cases e : x < y
  · rw [if_pos e]; exact Or.inl rfl
  · rw [if_neg e, if_pos (by omega)]; exact Or.inr rfl
theorem six_bits : FP.Core.i2d (nI 6) = 4618441417868443648 := by decide +kernel
theorem zero_bits : FP.Core.i2d (nI 0) = FP.dconst0 := by decide +kernel
theorem ck_all {a b : Nat} (h0 : 0 < b) (h1 : b ≤ 190) (h2 : b ≤ a) (h3 : a ≤ 6 * b) : FP.dcmp (FP.ddiv (FP.i2d (nI a)) (FP.i2d (nI b))) FP.dconst0 = some .gt ∧ (FP.dcmp (FP.ddiv (FP.i2d (nI a)) (FP.i2d (nI b))) 4618441417868443648 = some .lt ∨ FP.dcmp (FP.ddiv (FP.i2d (nI a)) (FP.i2d (nI b))) 4618441417868443648 = some .eq) := by
  have hv := fd_div (a := a) (b := b) (by omega) (by omega) h0 (by omega)
  have hn : FP.Core.val64 (FP.Core.ddiv (FP.Core.i2d (nI a)) (FP.Core.i2d (nI b))) ≠ .nan := by
    rw [hv]; exact FP.Core.roundRatio_ne_nan _ _ _ _ _
  have hz : FP.Core.zval FP.Core.b64 (FP.Core.val64 (FP.Core.ddiv (FP.Core.i2d (nI a)) (FP.Core.i2d (nI b)))) = ((FP.Core.zmag FP.Core.b64 (FP.Core.roundRatio FP.Core.b64 false a b 0) : Nat) : Int) := by
    rw [hv]
    unfold FP.Core.zval
    rw [FP.Core.sgn_roundRatio]
    rfl
  have hle := fd_le (a := a) (b := b) (k := 6) h0 (by decide) (by decide) h3
  have hge := fd_ge h0 h2
  have hp := FP.Core.one64_pos
  constructor
  · show FP.Core.dcmp (FP.Core.ddiv (FP.Core.i2d (nI a)) (FP.Core.i2d (nI b))) FP.dconst0 = _
    rw [← zero_bits, FP.Core.dcmp_zval hn (FP.Core.DInt_ne_nan (FP.Core.i2d_int (nI 0))), hz, FP.Core.DInt_zval (FP.Core.i2d_int (nI 0)), nI_toInt (by decide)]
    rw [cmp_gt (by
      rw [show ((0 : Nat) : Int) * (FP.Core.one64 : Int) = 0 from Int.zero_mul _]
      omega)]
  · show FP.Core.dcmp (FP.Core.ddiv (FP.Core.i2d (nI a)) (FP.Core.i2d (nI b))) _ = _ ∨ FP.Core.dcmp (FP.Core.ddiv (FP.Core.i2d (nI a)) (FP.Core.i2d (nI b))) _ = _
    rw [← six_bits, FP.Core.dcmp_zval hn (FP.Core.DInt_ne_nan (FP.Core.i2d_int (nI 6))), hz, (fd_zval (k := 6) (by decide) (by decide)).2]
    rcases cmp_le (Int.ofNat_le.mpr hle) with h | h
    · exact Or.inl (congrArg some h)
    · exact Or.inr (congrArg some h)
