theorem k_in15625 (x : Int32) (h0 : ¬ x < 0) (h1 : ¬ (15625 : Int32) ≤ x) : (1 : Int32) = bI (pOf 15625 x).isSome := by
  have e0 : (0 : Int32).toInt = 0 := by decide
  have e1 : (15625 : Int32).toInt = 15625 := by decide
  rw [i32_lt, e0] at h0
  rw [i32_le, e1] at h1
  rw [show (pOf 15625 x).isSome = true from pOf_iff.mpr ⟨by omega, by omega⟩]
  rfl
theorem k_out15625 (x : Int32) (h : x < 0 ∨ (15625 : Int32) ≤ x) : (0 : Int32) = bI (pOf 15625 x).isSome := by
  have e0 : (0 : Int32).toInt = 0 := by decide
  have e1 : (15625 : Int32).toInt = 15625 := by decide
  rw [i32_lt, e0, i32_le, e1] at h
  have h2 : ¬ (pOf 15625 x).isSome = true := fun z => by
    have := pOf_iff.mp z
    omega
  rw [Bool.not_eq_true] at h2
  rw [h2]; rfl
theorem ok_isShield (M : KM) (x : Int32) : OkF mX8_isShield [vI x] M (some (vI (bI (pOf 15625 x).isSome))) M := by
  refine ok_of (by decide) rfl (Nat.le_of_ble_eq_true rfl) ⟨rfl, rfl⟩ ?_
  show Go mX8_isShield (Zm (QF (some (vI (bI (pOf 15625 x).isSome))) M)) M [some (vI x)] [] 0
  refine go_iload_n (q := 1) dX8_isShield_0 rfl rfl rfl ?_
  refine go_if_lt (q := 4) (t := 15) dX8_isShield_1 (by decide) rfl (fun c_1 => ?_) (fun c_1 => ?_)
  · refine go_iconst (q := 16) (v := 0) dX8_isShield_15 (by decide) rfl ?_
    exact go_rz dX8_isShield_16 rfl (k_out15625 _ (by first | exact Or.inl (by assumption) | exact Or.inr (by assumption))) rfl
  · refine go_iload_n (q := 5) dX8_isShield_4 rfl rfl rfl ?_
    refine go_sipush (q := 8) (v := 15625) dX8_isShield_5 (by decide) rfl ?_
    refine go_icmp_ge (q := 11) (t := 15) dX8_isShield_8 (by decide) rfl (fun c_8 => ?_) (fun c_8 => ?_)
    · refine go_iconst (q := 16) (v := 0) dX8_isShield_15 (by decide) rfl ?_
      exact go_rz dX8_isShield_16 rfl (k_out15625 _ (by first | exact Or.inl (by assumption) | exact Or.inr (by assumption))) rfl
    · refine go_iconst (q := 12) (v := 1) dX8_isShield_11 (by decide) rfl ?_
      refine go_goto (q := 16) dX8_isShield_12 (by decide) ?_
      exact go_rz dX8_isShield_16 rfl (k_in15625 _ (by assumption) (by assumption)) rfl
theorem k_in6 (x : Int32) (h0 : ¬ x < 0) (h1 : ¬ (6 : Int32) ≤ x) : (1 : Int32) = bI (pOf 6 x).isSome := by
  have e0 : (0 : Int32).toInt = 0 := by decide
  have e1 : (6 : Int32).toInt = 6 := by decide
  rw [i32_lt, e0] at h0
  rw [i32_le, e1] at h1
  rw [show (pOf 6 x).isSome = true from pOf_iff.mpr ⟨by omega, by omega⟩]
  rfl
theorem k_out6 (x : Int32) (h : x < 0 ∨ (6 : Int32) ≤ x) : (0 : Int32) = bI (pOf 6 x).isSome := by
  have e0 : (0 : Int32).toInt = 0 := by decide
  have e1 : (6 : Int32).toInt = 6 := by decide
  rw [i32_lt, e0, i32_le, e1] at h
  have h2 : ¬ (pOf 6 x).isSome = true := fun z => by
    have := pOf_iff.mp z
    omega
  rw [Bool.not_eq_true] at h2
  rw [h2]; rfl
theorem ok_isPlace (M : KM) (x : Int32) : OkF mX8_isPlace [vI x] M (some (vI (bI (pOf 6 x).isSome))) M := by
  refine ok_of (by decide) rfl (Nat.le_of_ble_eq_true rfl) ⟨rfl, rfl⟩ ?_
  show Go mX8_isPlace (Zm (QF (some (vI (bI (pOf 6 x).isSome))) M)) M [some (vI x)] [] 0
  refine go_iload_n (q := 1) dX8_isPlace_0 rfl rfl rfl ?_
  refine go_if_lt (q := 4) (t := 14) dX8_isPlace_1 (by decide) rfl (fun c_1 => ?_) (fun c_1 => ?_)
  · refine go_iconst (q := 15) (v := 0) dX8_isPlace_14 (by decide) rfl ?_
    exact go_rz dX8_isPlace_15 rfl (k_out6 _ (by first | exact Or.inl (by assumption) | exact Or.inr (by assumption))) rfl
  · refine go_iload_n (q := 5) dX8_isPlace_4 rfl rfl rfl ?_
    refine go_bipush (q := 7) (v := 6) dX8_isPlace_5 (by decide) rfl ?_
    refine go_icmp_ge (q := 10) (t := 14) dX8_isPlace_7 (by decide) rfl (fun c_7 => ?_) (fun c_7 => ?_)
    · refine go_iconst (q := 15) (v := 0) dX8_isPlace_14 (by decide) rfl ?_
      exact go_rz dX8_isPlace_15 rfl (k_out6 _ (by first | exact Or.inl (by assumption) | exact Or.inr (by assumption))) rfl
    · refine go_iconst (q := 11) (v := 1) dX8_isPlace_10 (by decide) rfl ?_
      refine go_goto (q := 15) dX8_isPlace_11 (by decide) ?_
      exact go_rz dX8_isPlace_15 rfl (k_in6 _ (by assumption) (by assumption)) rfl
theorem k_in5 (x : Int32) (h0 : ¬ x < 0) (h1 : ¬ (5 : Int32) ≤ x) : (1 : Int32) = bI (pOf 5 x).isSome := by
  have e0 : (0 : Int32).toInt = 0 := by decide
  have e1 : (5 : Int32).toInt = 5 := by decide
  rw [i32_lt, e0] at h0
  rw [i32_le, e1] at h1
  rw [show (pOf 5 x).isSome = true from pOf_iff.mpr ⟨by omega, by omega⟩]
  rfl
theorem k_out5 (x : Int32) (h : x < 0 ∨ (5 : Int32) ≤ x) : (0 : Int32) = bI (pOf 5 x).isSome := by
  have e0 : (0 : Int32).toInt = 0 := by decide
  have e1 : (5 : Int32).toInt = 5 := by decide
  rw [i32_lt, e0, i32_le, e1] at h
  have h2 : ¬ (pOf 5 x).isSome = true := fun z => by
    have := pOf_iff.mp z
    omega
  rw [Bool.not_eq_true] at h2
  rw [h2]; rfl
theorem ok_isMark (M : KM) (x : Int32) : OkF mX8_isMark [vI x] M (some (vI (bI (pOf 5 x).isSome))) M := by
  refine ok_of (by decide) rfl (Nat.le_of_ble_eq_true rfl) ⟨rfl, rfl⟩ ?_
  show Go mX8_isMark (Zm (QF (some (vI (bI (pOf 5 x).isSome))) M)) M [some (vI x)] [] 0
  refine go_iload_n (q := 1) dX8_isMark_0 rfl rfl rfl ?_
  refine go_if_lt (q := 4) (t := 13) dX8_isMark_1 (by decide) rfl (fun c_1 => ?_) (fun c_1 => ?_)
  · refine go_iconst (q := 14) (v := 0) dX8_isMark_13 (by decide) rfl ?_
    exact go_rz dX8_isMark_14 rfl (k_out5 _ (by first | exact Or.inl (by assumption) | exact Or.inr (by assumption))) rfl
  · refine go_iload_n (q := 5) dX8_isMark_4 rfl rfl rfl ?_
    refine go_iconst (q := 6) (v := 5) dX8_isMark_5 (by decide) rfl ?_
    refine go_icmp_ge (q := 9) (t := 13) dX8_isMark_6 (by decide) rfl (fun c_6 => ?_) (fun c_6 => ?_)
    · refine go_iconst (q := 14) (v := 0) dX8_isMark_13 (by decide) rfl ?_
      exact go_rz dX8_isMark_14 rfl (k_out5 _ (by first | exact Or.inl (by assumption) | exact Or.inr (by assumption))) rfl
    · refine go_iconst (q := 10) (v := 1) dX8_isMark_9 (by decide) rfl ?_
      refine go_goto (q := 14) dX8_isMark_10 (by decide) ?_
      exact go_rz dX8_isMark_14 rfl (k_in5 _ (by assumption) (by assumption)) rfl
theorem div_pow {a j : Nat} : a / 5 ^ j / 5 = a / 5 ^ (j + 1) := by rw [Nat.div_div_eq_div_mul, ← Nat.pow_succ]
theorem div_small {a j : Nat} (ha : a < 2 ^ 31) : a / 5 ^ j < 2 ^ 31 := Nat.lt_of_le_of_lt (Nat.div_le_self _ _) ha
theorem lp_markAt {M : KM} {a k : Nat} (ha : a < 2 ^ 31) (hk : k < 6) : ∀ (d : Nat) (j : Nat) (x y : Int32), k - j < d → (x = nI (a / 5 ^ j)) → (y = nI j) → (j ≤ k) → Go mX8_markAt (Zm (QF (some (vI (nI (mk a k)))) M)) M [some (vI (nI a)), some (vI (nI k)), some (vI x), some (vI y)] [] 4 := by
  intro d
  induction d with
  | zero => intro j x y hd; exact absurd hd (Nat.not_lt_zero _)
  | succ d ih =>
    intro j x y hd h0 h1 h2
    refine go_iload_n (q := 5) dX8_markAt_4 rfl rfl rfl ?_
    refine go_iload_n (q := 6) dX8_markAt_5 rfl rfl rfl ?_
    refine go_icmp_geN j k (q := 9) (t := 25) dX8_markAt_6 (by decide) rfl h1 rfl (by omega) (by omega) (fun c_6 => ?_) (fun c_6 => ?_)
    · refine go_iload_n (q := 26) dX8_markAt_25 rfl rfl rfl ?_
      refine go_iconst (q := 27) (v := 5) dX8_markAt_26 (by decide) rfl ?_
      refine go_irem (q := 28) dX8_markAt_27 (by decide) rfl ?_
      exact go_ri dX8_markAt_28 rfl (by rw [h0, nI_rem5 (div_small ha), show j = k by omega]; rfl) rfl
    · refine go_iload_n (q := 10) dX8_markAt_9 rfl rfl rfl ?_
      refine go_bipush (q := 12) (v := 6) dX8_markAt_10 (by decide) rfl ?_
      refine go_icmp_geN j 6 (q := 15) (t := 25) dX8_markAt_12 (by decide) rfl h1 rfl (by omega) (by omega) (fun c_12 => ?_) (fun c_12 => ?_)
      · omega
      · refine go_iload_n (q := 16) dX8_markAt_15 rfl rfl rfl ?_
        refine go_iconst (q := 17) (v := 5) dX8_markAt_16 (by decide) rfl ?_
        refine go_idiv (q := 18) dX8_markAt_17 (by decide) rfl ?_
        refine go_topi (v := nI (a / 5 ^ (j + 1))) (by rw [h0, nI_div5 (div_small ha), div_pow]) ?_
        refine go_istore_n (q := 19) dX8_markAt_18 rfl (by decide) rfl rfl ?_
        refine go_iinc (q := 22) (v := 1) dX8_markAt_19 (by decide) rfl (by decide) rfl rfl ?_
        refine go_goto (q := 4) dX8_markAt_22 (by decide) ?_
        exact ih (j + 1) _ _ (by omega) rfl (by rw [h1, nI_1]) (by omega)
theorem ok_markAt {M : KM} {a k : Nat} (ha : a < 2 ^ 31) (hk : k < 6) : OkF mX8_markAt [vI (nI a), vI (nI k)] M (some (vI (nI (mk a k)))) M := by
  refine ok_of (by decide) rfl (Nat.le_of_ble_eq_true rfl) ⟨rfl, rfl⟩ ?_
  show Go mX8_markAt (Zm (QF (some (vI (nI (mk a k)))) M)) M [some (vI (nI a)), some (vI (nI k)), none, none] [] 0
  refine go_iload_n (q := 1) dX8_markAt_0 rfl rfl rfl ?_
  refine go_istore_n (q := 2) dX8_markAt_1 rfl (by decide) rfl rfl ?_
  refine go_iconst (q := 3) (v := 0) dX8_markAt_2 (by decide) rfl ?_
  refine go_istore_n (q := 4) dX8_markAt_3 rfl (by decide) rfl rfl ?_
  exact lp_markAt ha hk (k + 1) 0 _ _ (by omega) (by simp) rfl (by omega)
theorem lp_weightOf {M : KM} {k : Nat} (hk : k < 6) : ∀ (d : Nat) (j : Nat) (x y : Int32), k - j < d → (x = nI (5 ^ j)) → (y = nI j) → (j ≤ k) → Go mX8_weightOf (Zm (QF (some (vI (nI (5 ^ k)))) M)) M [some (vI (nI k)), some (vI x), some (vI y)] [] 4 := by
  intro d
  induction d with
  | zero => intro j x y hd; exact absurd hd (Nat.not_lt_zero _)
  | succ d ih =>
    intro j x y hd h0 h1 h2
    refine go_iload_n (q := 5) dX8_weightOf_4 rfl rfl rfl ?_
    refine go_iload_n (q := 6) dX8_weightOf_5 rfl rfl rfl ?_
    refine go_icmp_geN j k (q := 9) (t := 25) dX8_weightOf_6 (by decide) rfl h1 rfl (by omega) (by omega) (fun c_6 => ?_) (fun c_6 => ?_)
    · refine go_iload_n (q := 26) dX8_weightOf_25 rfl rfl rfl ?_
      exact go_ri dX8_weightOf_26 rfl (by rw [h0, show j = k by omega]) rfl
    · refine go_iload_n (q := 10) dX8_weightOf_9 rfl rfl rfl ?_
      refine go_bipush (q := 12) (v := 6) dX8_weightOf_10 (by decide) rfl ?_
      refine go_icmp_geN j 6 (q := 15) (t := 25) dX8_weightOf_12 (by decide) rfl h1 rfl (by omega) (by omega) (fun c_12 => ?_) (fun c_12 => ?_)
      · omega
      · refine go_iload_n (q := 16) dX8_weightOf_15 rfl rfl rfl ?_
        refine go_iconst (q := 17) (v := 5) dX8_weightOf_16 (by decide) rfl ?_
        refine go_imul (q := 18) dX8_weightOf_17 rfl ?_
        refine go_topi (v := nI (5 ^ (j + 1))) (by rw [h0, nI_mul5, ← Nat.pow_succ]) ?_
        refine go_istore_n (q := 19) dX8_weightOf_18 rfl (by decide) rfl rfl ?_
        refine go_iinc (q := 22) (v := 1) dX8_weightOf_19 (by decide) rfl (by decide) rfl rfl ?_
        refine go_goto (q := 4) dX8_weightOf_22 (by decide) ?_
        exact ih (j + 1) _ _ (by omega) rfl (by rw [h1, nI_1]) (by omega)
theorem ok_weightOf {M : KM} {k : Nat} (hk : k < 6) : OkF mX8_weightOf [vI (nI k)] M (some (vI (nI (5 ^ k)))) M := by
  refine ok_of (by decide) rfl (Nat.le_of_ble_eq_true rfl) ⟨rfl, rfl⟩ ?_
  show Go mX8_weightOf (Zm (QF (some (vI (nI (5 ^ k)))) M)) M [some (vI (nI k)), none, none] [] 0
  refine go_iconst (q := 1) (v := 1) dX8_weightOf_0 (by decide) rfl ?_
  refine go_istore_n (q := 2) dX8_weightOf_1 rfl (by decide) rfl rfl ?_
  refine go_iconst (q := 3) (v := 0) dX8_weightOf_2 (by decide) rfl ?_
  refine go_istore_n (q := 4) dX8_weightOf_3 rfl (by decide) rfl rfl ?_
  exact lp_weightOf hk (k + 1) 0 _ _ (by omega) (by simp; rfl) rfl (by omega)
theorem ok_withMark {M : KM} {a k m : Nat} (ha : a < 2 ^ 31) (hk : k < 6) : OkF mX8_withMark [vI (nI a), vI (nI k), vI (nI m)] M (some (vI (nI (wm a k m)))) M := by
  refine ok_of (by decide) rfl (Nat.le_of_ble_eq_true rfl) ⟨rfl, rfl⟩ ?_
  show Go mX8_withMark (Zm (QF (some (vI (nI (wm a k m)))) M)) M [some (vI (nI a)), some (vI (nI k)), some (vI (nI m))] [] 0
  refine go_iload_n (q := 1) dX8_withMark_0 rfl rfl rfl ?_
  refine go_iload_n (q := 2) dX8_withMark_1 rfl rfl rfl ?_
  refine go_iload_n (q := 3) dX8_withMark_2 rfl rfl rfl ?_
  refine go_iload_n (q := 4) dX8_withMark_3 rfl rfl rfl ?_
  refine go_cS2 (cal := mX8_markAt) (q := 7) dX8_withMark_4 lRX8_9 vX8_markAt ⟨by decide, by decide⟩ (Nat.le_of_ble_eq_true rfl) (ok_markAt ha hk) rfl ?_
  refine go_isub (q := 8) dX8_withMark_7 rfl ?_
  refine go_iload_n (q := 9) dX8_withMark_8 rfl rfl rfl ?_
  refine go_cS1 (cal := mX8_weightOf) (q := 12) dX8_withMark_9 lRX8_15 vX8_weightOf ⟨by decide, by decide⟩ (Nat.le_of_ble_eq_true rfl) (ok_weightOf hk) rfl ?_
  refine go_imul (q := 13) dX8_withMark_12 rfl ?_
  refine go_iadd (q := 14) dX8_withMark_13 rfl ?_
  exact go_ri dX8_withMark_14 rfl (wm_nI a k m) rfl
theorem lp_apart {M : KM} {a b : Nat} (ha : a < 2 ^ 31) (hb : b < 2 ^ 31) : ∀ (d : Nat) (j : Nat) (x y z w : Int32), 6 - j < d → (x = nI (a / 5 ^ j)) → (y = nI (b / 5 ^ j)) → (z = nI (cn (fun k => mk a k != mk b k) j)) → (w = nI j) → (j ≤ 6) → Go mX8_apart (Zm (QF (some (vI (nI (ap a b)))) M)) M [some (vI x), some (vI y), some (vI z), some (vI w)] [] 4 := by
  intro d
  induction d with
  | zero => intro j x y z w hd; exact absurd hd (Nat.not_lt_zero _)
  | succ d ih =>
    intro j x y z w hd h0 h1 h2 h3 h4
    refine go_iload_n (q := 5) dX8_apart_4 rfl rfl rfl ?_
    refine go_bipush (q := 7) (v := 6) dX8_apart_5 (by decide) rfl ?_
    refine go_icmp_geN j 6 (q := 10) (t := 36) dX8_apart_7 (by decide) rfl h3 rfl (by omega) (by omega) (fun c_7 => ?_) (fun c_7 => ?_)
    · refine go_iload_n (q := 37) dX8_apart_36 rfl rfl rfl ?_
      exact go_ri dX8_apart_37 rfl (by rw [h2, show j = 6 by omega]; rfl) rfl
    · refine go_iload_n (q := 11) dX8_apart_10 rfl rfl rfl ?_
      refine go_iconst (q := 12) (v := 5) dX8_apart_11 (by decide) rfl ?_
      refine go_irem (q := 13) dX8_apart_12 (by decide) rfl ?_
      refine go_topi (v := nI (mk a j)) (by rw [h0, nI_rem5 (div_small ha)]; rfl) ?_
      refine go_iload_n (q := 14) dX8_apart_13 rfl rfl rfl ?_
      refine go_iconst (q := 15) (v := 5) dX8_apart_14 (by decide) rfl ?_
      refine go_irem (q := 16) dX8_apart_15 (by decide) rfl ?_
      refine go_topi (v := nI (mk b j)) (by rw [h1, nI_rem5 (div_small hb)]; rfl) ?_
      refine go_icmp_eqN (mk a j) (mk b j) (q := 19) (t := 22) dX8_apart_16 (by decide) rfl rfl rfl (by have := mk_lt a j; omega) (by have := mk_lt b j; omega) (fun c_16 => ?_) (fun c_16 => ?_)
      · refine go_iload_n (q := 23) dX8_apart_22 rfl rfl rfl ?_
        refine go_iconst (q := 24) (v := 5) dX8_apart_23 (by decide) rfl ?_
        refine go_idiv (q := 25) dX8_apart_24 (by decide) rfl ?_
        refine go_topi (v := nI (a / 5 ^ (j + 1))) (by rw [h0, nI_div5 (div_small ha), div_pow]) ?_
        refine go_istore_n (q := 26) dX8_apart_25 rfl (by decide) rfl rfl ?_
        refine go_iload_n (q := 27) dX8_apart_26 rfl rfl rfl ?_
        refine go_iconst (q := 28) (v := 5) dX8_apart_27 (by decide) rfl ?_
        refine go_idiv (q := 29) dX8_apart_28 (by decide) rfl ?_
        refine go_topi (v := nI (b / 5 ^ (j + 1))) (by rw [h1, nI_div5 (div_small hb), div_pow]) ?_
        refine go_istore_n (q := 30) dX8_apart_29 rfl (by decide) rfl rfl ?_
        refine go_iinc (q := 33) (v := 1) dX8_apart_30 (by decide) rfl (by decide) rfl rfl ?_
        refine go_goto (q := 4) dX8_apart_33 (by decide) ?_
        exact ih (j + 1) _ _ _ _ (by omega) rfl rfl (by rw [h2, cn_f (by simp [c_16])]) (by rw [h3, nI_1]) (by omega)
      · refine go_iinc (q := 22) (v := 1) dX8_apart_19 (by decide) rfl (by decide) rfl rfl ?_
        refine go_iload_n (q := 23) dX8_apart_22 rfl rfl rfl ?_
        refine go_iconst (q := 24) (v := 5) dX8_apart_23 (by decide) rfl ?_
        refine go_idiv (q := 25) dX8_apart_24 (by decide) rfl ?_
        refine go_topi (v := nI (a / 5 ^ (j + 1))) (by rw [h0, nI_div5 (div_small ha), div_pow]) ?_
        refine go_istore_n (q := 26) dX8_apart_25 rfl (by decide) rfl rfl ?_
        refine go_iload_n (q := 27) dX8_apart_26 rfl rfl rfl ?_
        refine go_iconst (q := 28) (v := 5) dX8_apart_27 (by decide) rfl ?_
        refine go_idiv (q := 29) dX8_apart_28 (by decide) rfl ?_
        refine go_topi (v := nI (b / 5 ^ (j + 1))) (by rw [h1, nI_div5 (div_small hb), div_pow]) ?_
        refine go_istore_n (q := 30) dX8_apart_29 rfl (by decide) rfl rfl ?_
        refine go_iinc (q := 33) (v := 1) dX8_apart_30 (by decide) rfl (by decide) rfl rfl ?_
        refine go_goto (q := 4) dX8_apart_33 (by decide) ?_
        exact ih (j + 1) _ _ _ _ (by omega) rfl rfl (by rw [h2, cn_t (by simp [c_16]), nI_1]) (by rw [h3, nI_1]) (by omega)
theorem ok_apart {M : KM} {a b : Nat} (ha : a < 2 ^ 31) (hb : b < 2 ^ 31) : OkF mX8_apart [vI (nI a), vI (nI b)] M (some (vI (nI (ap a b)))) M := by
  refine ok_of (by decide) rfl (Nat.le_of_ble_eq_true rfl) ⟨rfl, rfl⟩ ?_
  show Go mX8_apart (Zm (QF (some (vI (nI (ap a b)))) M)) M [some (vI (nI a)), some (vI (nI b)), none, none] [] 0
  refine go_iconst (q := 1) (v := 0) dX8_apart_0 (by decide) rfl ?_
  refine go_istore_n (q := 2) dX8_apart_1 rfl (by decide) rfl rfl ?_
  refine go_iconst (q := 3) (v := 0) dX8_apart_2 (by decide) rfl ?_
  refine go_istore_n (q := 4) dX8_apart_3 rfl (by decide) rfl rfl ?_
  exact lp_apart ha hb 7 0 _ _ _ _ (by omega) (by simp) (by simp) rfl rfl (by omega)
