/-! ===== the model: how its array holds a roll ===== -/
def ZF (f : Nat → Int32) (b : Nat) (R : RO) : Prop := f (b + 0) = nI (rN R) ∧ f (b + 1) = nI (rF R) ∧ f (b + 2) = nI (rH R) ∧ rN R ≤ 20 ∧ ∀ p, p < rN R → f (b + (3 + 5 * p + 0)) = nI (rS R p) ∧ f (b + (3 + 5 * p + 1)) = bI (rL R p) ∧ f (b + (3 + 5 * p + 2)) = e4 (rP R p) ∧ f (b + (3 + 5 * p + 3)) = e4 (rK R p) ∧ f (b + (3 + 5 * p + 4)) = e4 (rM R p)
def ZA (M : KM) (R : RO) : Prop := ZF (M.1 15 0) 0 R
section ZAx
variable {M : KM} {p : Nat} {R : RO}
theorem ZA.sz (h : ZA M R) : M.1 15 0 0 = nI (rN R) := h.1
theorem ZA.re (h : ZA M R) : M.1 15 0 1 = nI (rF R) := h.2.1
theorem ZA.he (h : ZA M R) : M.1 15 0 2 = nI (rH R) := h.2.2.1
theorem ZA.le (h : ZA M R) : rN R ≤ 20 := h.2.2.2.1
theorem ZA.sh (h : ZA M R) (hp : p < rN R) : M.1 15 0 (3 + 5 * p + 0) = nI (rS R p) := by have := (h.2.2.2.2 p hp).1; rwa [Nat.zero_add] at this
theorem ZA.al (h : ZA M R) (hp : p < rN R) : M.1 15 0 (3 + 5 * p + 1) = bI (rL R p) := by have := (h.2.2.2.2 p hp).2.1; rwa [Nat.zero_add] at this
theorem ZA.fa (h : ZA M R) (hp : p < rN R) : M.1 15 0 (3 + 5 * p + 2) = e4 (rP R p) := by have := (h.2.2.2.2 p hp).2.2.1; rwa [Nat.zero_add] at this
theorem ZA.pl (h : ZA M R) (hp : p < rN R) : M.1 15 0 (3 + 5 * p + 3) = e4 (rK R p) := by have := (h.2.2.2.2 p hp).2.2.2.1; rwa [Nat.zero_add] at this
theorem ZA.mk (h : ZA M R) (hp : p < rN R) : M.1 15 0 (3 + 5 * p + 4) = e4 (rM R p) := by have := (h.2.2.2.2 p hp).2.2.2.2; rwa [Nat.zero_add] at this
theorem ZA.lt (h : ZA M R) (hp : p < rN R) : p < 20 := Nat.lt_of_lt_of_le hp h.le
theorem ZA.b (h : ZA M R) (hp : p < rN R) : p < 2 ^ 31 := by have := h.lt hp; omega
theorem ZA.pt (h : ZA M R) (hp : p < rN R) : pOf (rN R) (nI p) = some p := pOf_nI hp (by have := h.le; omega)
end ZAx
theorem z_at (p w : Nat) : (3 : Int32) + 5 * nI p + nI w = nI (3 + 5 * p + w) := by
  rw [k_l5, show (3 : Int32) = nI 3 from rfl, pk_mul, nI_add, nI_add]
theorem e4_nI {o : Option Nat} {f : Nat} (h : ∀ k, o = some k → k < 2 ^ 31) (hf : f < 2 ^ 31) : e4 o = nI f ↔ o = some f := by
  cases o with
  | none =>
    simp only [e4, reduceCtorEq, iff_false]
    exact fun z => nI_neg hf (by decide) z.symm
  | some k => simp only [e4, nI_eq (h k rfl) hf, Option.some.injEq]
theorem e4_inj {a b : Option Nat} (ha : ∀ k, a = some k → k < 2 ^ 31) (hb : ∀ k, b = some k → k < 2 ^ 31) (h : e4 a = e4 b) : a = b := by
  cases b with
  | none => exact (e4_eq ha).mp h
  | some k => exact (e4_nI ha (hb k rfl)).mp h
theorem in_pOf {n : Nat} (hn : n < 2 ^ 31) (x : Int32) : (decide ((0 : Int32) ≤ x) && decide (x ≤ nI n - 1)) = (pOf n x).isSome := by
  rw [Bool.eq_iff_iff, Bool.and_eq_true, decide_eq_true_iff, decide_eq_true_iff, pOf_iff, i32_le, i32_le]
  have e0 : (0 : Int32).toInt = 0 := by decide
  have e2 : (nI n - 1).toInt = (n : Int) - 1 := by
    cases n with
    | zero => decide
    | succ n => rw [← nI_1, Int32.add_sub_cancel, nI_toInt (by omega)]; omega
  rw [e0, e2]
  omega
theorem ok_min (M : KM) (x a b : Int32) : OkF mX10_in [vI x, vI a, vI b] M (some (vI (bI (decide (a ≤ x) && decide (x ≤ b))))) M := by
  refine ok_of (by decide) rfl (Nat.le_of_ble_eq_true rfl) ⟨rfl, rfl⟩ ?_
  show Go mX10_in (Zm (QF (some (vI (bI (decide (a ≤ x) && decide (x ≤ b))))) M)) M [some (vI x), some (vI a), some (vI b)] [] 0
  refine go_iload_n (q := 1) dX10_in_0 rfl rfl rfl ?_
  refine go_iload_n (q := 2) dX10_in_1 rfl rfl rfl ?_
  refine go_icmp_lt (q := 5) (t := 14) dX10_in_2 (by decide) rfl (fun c_2 => ?_) (fun c_2 => ?_)
  · refine go_iconst (q := 15) (v := 0) dX10_in_14 (by decide) rfl ?_
    exact go_rz dX10_in_15 rfl (by rw [decide_eq_false (fun z => absurd c_2 (Int32.not_lt.mpr z))]; rfl) rfl
  · refine go_iload_n (q := 6) dX10_in_5 rfl rfl rfl ?_
    refine go_iload_n (q := 7) dX10_in_6 rfl rfl rfl ?_
    refine go_icmp_gt (q := 10) (t := 14) dX10_in_7 (by decide) rfl (fun c_7 => ?_) (fun c_7 => ?_)
    · refine go_iconst (q := 15) (v := 0) dX10_in_14 (by decide) rfl ?_
      exact go_rz dX10_in_15 rfl (by rw [decide_eq_false (fun z => absurd c_7 (Int32.not_lt.mpr z)), Bool.and_false]; rfl) rfl
    · refine go_iconst (q := 11) (v := 1) dX10_in_10 (by decide) rfl ?_
      refine go_goto (q := 15) dX10_in_11 (by decide) ?_
      exact go_rz dX10_in_15 rfl (by rw [decide_eq_true (Int32.not_lt.mp c_2), decide_eq_true (Int32.not_lt.mp c_7)]; rfl) rfl
theorem ok_mof {M : KM} {p w : Nat} (hp : p < 20) (hw : w < 5) : OkF mX10_of [vR 14 0, vI (nI p), vI (nI w)] M (some (vI (M.1 15 0 (3 + 5 * p + w)))) M := by
  refine ok_of (by decide) rfl (Nat.le_of_ble_eq_true rfl) ⟨rfl, rfl⟩ ?_
  show Go mX10_of (Zm (QF (some (vI (M.1 15 0 (3 + 5 * p + w)))) M)) M [some (vR 14 0), some (vI (nI p)), some (vI (nI w))] [] 0
  refine go_aload_n (q := 1) dX10_of_0 rfl rfl rfl ?_
  refine go_getf (q := 4) dX10_of_1 fRX10_7 rfl (by decide) rfl rfl ?_
  refine go_iconst (q := 5) (v := 3) dX10_of_4 (by decide) rfl ?_
  refine go_iconst (q := 6) (v := 5) dX10_of_5 (by decide) rfl ?_
  refine go_iload_n (q := 7) dX10_of_6 rfl rfl rfl ?_
  refine go_imul (q := 8) dX10_of_7 rfl ?_
  refine go_iadd (q := 9) dX10_of_8 rfl ?_
  refine go_iload_n (q := 10) dX10_of_9 rfl rfl rfl ?_
  refine go_iadd (q := 11) dX10_of_10 rfl ?_
  refine go_topi (z_at p w) ?_
  refine go_iald (q := 12) (3 + 5 * p + w) dX10_of_11 rfl rfl (by decide) rfl (by omega) rfl ?_
  exact go_ri dX10_of_12 rfl rfl rfl
theorem ok_mlay {M : KM} {p w : Nat} (hp : p < 20) (hw : w < 5) (v : Int32) : OkF mX10_lay [vR 14 0, vI (nI p), vI (nI w), vI v] M none (k_si M 15 0 (3 + 5 * p + w) v) := by
  refine ok_of (by decide) rfl (Nat.le_of_ble_eq_true rfl) ⟨rfl, rfl⟩ ?_
  show Go mX10_lay (Zm (QF none (k_si M 15 0 (3 + 5 * p + w) v))) M [some (vR 14 0), some (vI (nI p)), some (vI (nI w)), some (vI v)] [] 0
  refine go_aload_n (q := 1) dX10_lay_0 rfl rfl rfl ?_
  refine go_getf (q := 4) dX10_lay_1 fRX10_7 rfl (by decide) rfl rfl ?_
  refine go_iconst (q := 5) (v := 3) dX10_lay_4 (by decide) rfl ?_
  refine go_iconst (q := 6) (v := 5) dX10_lay_5 (by decide) rfl ?_
  refine go_iload_n (q := 7) dX10_lay_6 rfl rfl rfl ?_
  refine go_imul (q := 8) dX10_lay_7 rfl ?_
  refine go_iadd (q := 9) dX10_lay_8 rfl ?_
  refine go_iload_n (q := 10) dX10_lay_9 rfl rfl rfl ?_
  refine go_iadd (q := 11) dX10_lay_10 rfl ?_
  refine go_topi (z_at p w) ?_
  refine go_iload_n (q := 12) dX10_lay_11 rfl rfl rfl ?_
  refine go_iast (q := 13) (3 + 5 * p + w) dX10_lay_12 rfl rfl (by decide) rfl (by omega) rfl ?_
  exact go_rv dX10_lay_13 rfl rfl
theorem ok_misPerson {M : KM} {R : RO} (hZ : ZA M R) (x : Int32) : OkF mX10_isPerson [vR 14 0, vI x] M (some (vI (bI (pOf (rN R) x).isSome))) M := by
  refine ok_of (by decide) rfl (Nat.le_of_ble_eq_true rfl) ⟨rfl, rfl⟩ ?_
  show Go mX10_isPerson (Zm (QF (some (vI (bI (pOf (rN R) x).isSome))) M)) M [some (vR 14 0), some (vI x)] [] 0
  refine go_iload_n (q := 1) dX10_isPerson_0 rfl rfl rfl ?_
  refine go_iconst (q := 2) (v := 0) dX10_isPerson_1 (by decide) rfl ?_
  refine go_aload_n (q := 3) dX10_isPerson_2 rfl rfl rfl ?_
  refine go_getf (q := 6) dX10_isPerson_3 fRX10_7 rfl (by decide) rfl rfl ?_
  refine go_iconst (q := 7) (v := 0) dX10_isPerson_6 (by decide) rfl ?_
  refine go_iald (q := 8) 0 dX10_isPerson_7 rfl rfl (by decide) rfl (by decide) rfl ?_
  refine go_topi hZ.sz ?_
  refine go_iconst (q := 9) (v := 1) dX10_isPerson_8 (by decide) rfl ?_
  refine go_isub (q := 10) dX10_isPerson_9 rfl ?_
  refine go_cS3 (cal := mX10_in) (q := 13) dX10_isPerson_10 lRX10_41 vX10_in ⟨by decide, by decide⟩ (Nat.le_of_ble_eq_true rfl) (ok_min M _ _ _) rfl ?_
  exact go_rz dX10_isPerson_13 rfl (by rw [in_pOf (by have := hZ.le; omega)]) rfl
theorem ok_misShield (M : KM) (x : Int32) : OkF mX10_isShield [vI x] M (some (vI (bI (pOf 15625 x).isSome))) M := by
  refine ok_of (by decide) rfl (Nat.le_of_ble_eq_true rfl) ⟨rfl, rfl⟩ ?_
  show Go mX10_isShield (Zm (QF (some (vI (bI (pOf 15625 x).isSome))) M)) M [some (vI x)] [] 0
  refine go_iload_n (q := 1) dX10_isShield_0 rfl rfl rfl ?_
  refine go_iconst (q := 2) (v := 0) dX10_isShield_1 (by decide) rfl ?_
  refine go_sipush (q := 5) (v := 15624) dX10_isShield_2 (by decide) rfl ?_
  refine go_cS3 (cal := mX10_in) (q := 8) dX10_isShield_5 lRX10_41 vX10_in ⟨by decide, by decide⟩ (Nat.le_of_ble_eq_true rfl) (ok_min M _ _ _) rfl ?_
  exact go_rz dX10_isShield_8 rfl (by rw [← in_pOf (by decide)]; rfl) rfl
theorem ok_mlives {M : KM} {R : RO} (hZ : ZA M R) {p : Nat} (hp : p < rN R) : OkF mX10_lives [vR 14 0, vI (nI p)] M (some (vI (bI (rL R p)))) M := by
  refine ok_of (by decide) rfl (Nat.le_of_ble_eq_true rfl) ⟨rfl, rfl⟩ ?_
  show Go mX10_lives (Zm (QF (some (vI (bI (rL R p)))) M)) M [some (vR 14 0), some (vI (nI p))] [] 0
  refine go_aload_n (q := 1) dX10_lives_0 rfl rfl rfl ?_
  refine go_iload_n (q := 2) dX10_lives_1 rfl rfl rfl ?_
  refine go_iconst (q := 3) (v := 1) dX10_lives_2 (by decide) rfl ?_
  refine go_cV2 (cal := mX10_of) (q := 6) dX10_lives_3 lRX10_45 vX10_of ⟨by decide, by decide⟩ rfl (by decide) (Nat.le_of_ble_eq_true rfl) (ok_mof (w := 1) (hZ.lt hp) (by decide)) rfl ?_
  refine go_topi (hZ.al hp) ?_
  refine go_iconst (q := 7) (v := 1) dX10_lives_6 (by decide) rfl ?_
  refine go_icmp_ne (q := 10) (t := 14) dX10_lives_7 (by decide) rfl (fun c_7 => ?_) (fun c_7 => ?_)
  · refine go_iconst (q := 15) (v := 0) dX10_lives_14 (by decide) rfl ?_
    exact go_rz dX10_lives_15 rfl (by rw [show rL R p = false from by cases h : rL R p; rfl; exact absurd (by rw [h]; rfl) c_7]; rfl) rfl
  · refine go_iconst (q := 11) (v := 1) dX10_lives_10 (by decide) rfl ?_
    refine go_goto (q := 15) dX10_lives_11 (by decide) ?_
    exact go_rz dX10_lives_15 rfl (by rw [bI_eq1.mp (Classical.not_not.mp c_7)]; rfl) rfl
theorem lp_mpower {M : KM} {k : Nat} (hk : k < 6) : ∀ (d : Nat) (j : Nat) (x y : Int32), k - j < d → (x = nI (5 ^ j)) → (y = nI j) → (j ≤ k) → Go mX10_power (Zm (QF (some (vI (nI (5 ^ k)))) M)) M [some (vI (nI k)), some (vI x), some (vI y)] [] 4 := by
  intro d
  induction d with
  | zero => intro j x y hd; exact absurd hd (Nat.not_lt_zero _)
  | succ d ih =>
    intro j x y hd h0 h1 h2
    refine go_iload_n (q := 5) dX10_power_4 rfl rfl rfl ?_
    refine go_iload_n (q := 6) dX10_power_5 rfl rfl rfl ?_
    refine go_icmp_geN j k (q := 9) (t := 19) dX10_power_6 (by decide) rfl h1 rfl (by omega) (by omega) (fun c_6 => ?_) (fun c_6 => ?_)
    · refine go_iload_n (q := 20) dX10_power_19 rfl rfl rfl ?_
      exact go_ri dX10_power_20 rfl (by rw [h0, show j = k by omega]) rfl
    · refine go_iload_n (q := 10) dX10_power_9 rfl rfl rfl ?_
      refine go_iconst (q := 11) (v := 5) dX10_power_10 (by decide) rfl ?_
      refine go_imul (q := 12) dX10_power_11 rfl ?_
      refine go_topi (v := nI (5 ^ (j + 1))) (by rw [h0, nI_mul5, ← Nat.pow_succ]) ?_
      refine go_istore_n (q := 13) dX10_power_12 rfl (by decide) rfl rfl ?_
      refine go_iinc (q := 16) (v := 1) dX10_power_13 (by decide) rfl (by decide) rfl rfl ?_
      refine go_goto (q := 4) dX10_power_16 (by decide) ?_
      exact ih (j + 1) _ _ (by omega) rfl (by rw [h1, nI_1]) (by omega)
theorem ok_mpower {M : KM} {k : Nat} (hk : k < 6) : OkF mX10_power [vI (nI k)] M (some (vI (nI (5 ^ k)))) M := by
  refine ok_of (by decide) rfl (Nat.le_of_ble_eq_true rfl) ⟨rfl, rfl⟩ ?_
  show Go mX10_power (Zm (QF (some (vI (nI (5 ^ k)))) M)) M [some (vI (nI k)), none, none] [] 0
  refine go_iconst (q := 1) (v := 1) dX10_power_0 (by decide) rfl ?_
  refine go_istore_n (q := 2) dX10_power_1 rfl (by decide) rfl rfl ?_
  refine go_iconst (q := 3) (v := 0) dX10_power_2 (by decide) rfl ?_
  refine go_istore_n (q := 4) dX10_power_3 rfl (by decide) rfl rfl ?_
  exact lp_mpower hk (k + 1) 0 _ _ (by omega) (by simp; rfl) rfl (by omega)
theorem ok_mmarkOf {M : KM} {a k : Nat} (ha : a < 2 ^ 31) (hk : k < 6) : OkF mX10_markOf [vI (nI a), vI (nI k)] M (some (vI (nI (mk a k)))) M := by
  refine ok_of (by decide) rfl (Nat.le_of_ble_eq_true rfl) ⟨rfl, rfl⟩ ?_
  show Go mX10_markOf (Zm (QF (some (vI (nI (mk a k)))) M)) M [some (vI (nI a)), some (vI (nI k))] [] 0
  refine go_iload_n (q := 1) dX10_markOf_0 rfl rfl rfl ?_
  refine go_iload_n (q := 2) dX10_markOf_1 rfl rfl rfl ?_
  refine go_cS1 (cal := mX10_power) (q := 5) dX10_markOf_2 lRX10_49 vX10_power ⟨by decide, by decide⟩ (Nat.le_of_ble_eq_true rfl) (ok_mpower hk) rfl ?_
  refine go_idiv (q := 6) dX10_markOf_5 (nI_ne0 (Nat.pow_pos (by decide)) (by have := pow5_lt hk; omega)) rfl ?_
  refine go_topi (v := nI (a / 5 ^ k)) (pk_div ha (Nat.pow_pos (by decide)) (by have := pow5_lt hk; omega)) ?_
  refine go_iconst (q := 7) (v := 5) dX10_markOf_6 (by decide) rfl ?_
  refine go_irem (q := 8) dX10_markOf_7 (by decide) rfl ?_
  refine go_topi (v := nI (mk a k)) (nI_rem5 (div_small ha)) ?_
  exact go_ri dX10_markOf_8 rfl rfl rfl
theorem ok_mwith {M : KM} {a k : Nat} (ha : a < 2 ^ 31) (hk : k < 6) {m : Nat} : OkF mX10_with [vI (nI a), vI (nI k), vI (nI m)] M (some (vI (nI (wm a k m)))) M := by
  refine ok_of (by decide) rfl (Nat.le_of_ble_eq_true rfl) ⟨rfl, rfl⟩ ?_
  show Go mX10_with (Zm (QF (some (vI (nI (wm a k m)))) M)) M [some (vI (nI a)), some (vI (nI k)), some (vI (nI m))] [] 0
  refine go_iload_n (q := 1) dX10_with_0 rfl rfl rfl ?_
  refine go_iload_n (q := 2) dX10_with_1 rfl rfl rfl ?_
  refine go_iload_n (q := 3) dX10_with_2 rfl rfl rfl ?_
  refine go_iload_n (q := 4) dX10_with_3 rfl rfl rfl ?_
  refine go_cS2 (cal := mX10_markOf) (q := 7) dX10_with_4 lRX10_53 vX10_markOf ⟨by decide, by decide⟩ (Nat.le_of_ble_eq_true rfl) (ok_mmarkOf ha hk) rfl ?_
  refine go_isub (q := 8) dX10_with_7 rfl ?_
  refine go_iload_n (q := 9) dX10_with_8 rfl rfl rfl ?_
  refine go_cS1 (cal := mX10_power) (q := 12) dX10_with_9 lRX10_49 vX10_power ⟨by decide, by decide⟩ (Nat.le_of_ble_eq_true rfl) (ok_mpower hk) rfl ?_
  refine go_imul (q := 13) dX10_with_12 rfl ?_
  refine go_iadd (q := 14) dX10_with_13 rfl ?_
  exact go_ri dX10_with_14 rfl (wm_nI a k m) rfl
theorem lp_mfar {M : KM} {a b : Nat} (ha : a < 2 ^ 31) (hb : b < 2 ^ 31) : ∀ (d : Nat) (j : Nat) (z w : Int32), 6 - j < d → (z = nI (cn (fun k => mk a k != mk b k) j)) → (w = nI j) → (j ≤ 6) → Go mX10_far (Zm (QF (some (vI (nI (ap a b)))) M)) M [some (vI (nI a)), some (vI (nI b)), some (vI z), some (vI w)] [] 4 := by
  intro d
  induction d with
  | zero => intro j z w hd; exact absurd hd (Nat.not_lt_zero _)
  | succ d ih =>
    intro j z w hd h0 h1 h2
    refine go_iload_n (q := 5) dX10_far_4 rfl rfl rfl ?_
    refine go_bipush (q := 7) (v := 6) dX10_far_5 (by decide) rfl ?_
    refine go_icmp_geN j 6 (q := 10) (t := 37) dX10_far_7 (by decide) rfl h1 rfl (by omega) (by omega) (fun c_7 => ?_) (fun c_7 => ?_)
    · refine go_iload_n (q := 38) dX10_far_37 rfl rfl rfl ?_
      exact go_ri dX10_far_38 rfl (by rw [h0, show j = 6 by omega]; rfl) rfl
    · subst h1
      refine go_iload_n (q := 11) dX10_far_10 rfl rfl rfl ?_
      refine go_iload_n (q := 12) dX10_far_11 rfl rfl rfl ?_
      refine go_iload_n (q := 13) dX10_far_12 rfl rfl rfl ?_
      refine go_cS2 (cal := mX10_markOf) (q := 16) dX10_far_13 lRX10_53 vX10_markOf ⟨by decide, by decide⟩ (Nat.le_of_ble_eq_true rfl) (ok_mmarkOf ha c_7) rfl ?_
      refine go_iload_n (q := 17) dX10_far_16 rfl rfl rfl ?_
      refine go_iload_n (q := 18) dX10_far_17 rfl rfl rfl ?_
      refine go_cS2 (cal := mX10_markOf) (q := 21) dX10_far_18 lRX10_53 vX10_markOf ⟨by decide, by decide⟩ (Nat.le_of_ble_eq_true rfl) (ok_mmarkOf hb c_7) rfl ?_
      refine go_icmp_neN (mk a j) (mk b j) (q := 24) (t := 28) dX10_far_21 (by decide) rfl rfl rfl (by have := mk_lt a j; omega) (by have := mk_lt b j; omega) (fun c_21 => ?_) (fun c_21 => ?_)
      · refine go_iconst (q := 29) (v := 1) dX10_far_28 (by decide) rfl ?_
        refine go_iadd (q := 30) dX10_far_29 rfl ?_
        refine go_istore_n (q := 31) dX10_far_30 rfl (by decide) rfl rfl ?_
        refine go_iinc (q := 34) (v := 1) dX10_far_31 (by decide) rfl (by decide) rfl rfl ?_
        refine go_goto (q := 4) dX10_far_34 (by decide) ?_
        exact ih (j + 1) _ _ (by omega) (by rw [h0, cn_t (by simp [c_21]), nI_1]) (nI_1 j) (by omega)
      · refine go_iconst (q := 25) (v := 0) dX10_far_24 (by decide) rfl ?_
        refine go_goto (q := 29) dX10_far_25 (by decide) ?_
        refine go_iadd (q := 30) dX10_far_29 rfl ?_
        refine go_istore_n (q := 31) dX10_far_30 rfl (by decide) rfl rfl ?_
        refine go_iinc (q := 34) (v := 1) dX10_far_31 (by decide) rfl (by decide) rfl rfl ?_
        refine go_goto (q := 4) dX10_far_34 (by decide) ?_
        exact ih (j + 1) _ _ (by omega) (by rw [h0, cn_f (by simp [c_21])]; exact Int32.add_zero _) (nI_1 j) (by omega)
theorem ok_mfar {M : KM} {a b : Nat} (ha : a < 2 ^ 31) (hb : b < 2 ^ 31) : OkF mX10_far [vI (nI a), vI (nI b)] M (some (vI (nI (ap a b)))) M := by
  refine ok_of (by decide) rfl (Nat.le_of_ble_eq_true rfl) ⟨rfl, rfl⟩ ?_
  show Go mX10_far (Zm (QF (some (vI (nI (ap a b)))) M)) M [some (vI (nI a)), some (vI (nI b)), none, none] [] 0
  refine go_iconst (q := 1) (v := 0) dX10_far_0 (by decide) rfl ?_
  refine go_istore_n (q := 2) dX10_far_1 rfl (by decide) rfl rfl ?_
  refine go_iconst (q := 3) (v := 0) dX10_far_2 (by decide) rfl ?_
  refine go_istore_n (q := 4) dX10_far_3 rfl (by decide) rfl rfl ?_
  exact lp_mfar ha hb 7 0 _ _ (by omega) rfl rfl (by omega)
theorem lst1_some {P : Nat → Bool} : ∀ {n k : Nat}, lst1 P n = some k → k < n ∧ P k = true
  | 0, k => by simp [lst1]
  | n + 1, k => by
    unfold lst1
    by_cases h : P n = true
    · rw [if_pos h]; intro e; cases e; exact ⟨by omega, h⟩
    · rw [if_neg h]; intro e; have := lst1_some e; exact ⟨by omega, this.2⟩
theorem lst1_none {P : Nat → Bool} : ∀ {n : Nat}, lst1 P n = none → ∀ i, i < n → P i = false
  | 0 => fun _ i hi => absurd hi (Nat.not_lt_zero _)
  | n + 1 => by
    unfold lst1
    by_cases h : P n = true
    · rw [if_pos h]; intro e; cases e
    · rw [if_neg h]; intro e i hi
      by_cases e2 : i = n
      · subst e2; simpa using h
      · exact lst1_none e i (by omega)
theorem lst1_fst1 {P : Nat → Bool} {n : Nat} (hu : ∀ a b, a < n → b < n → P a = true → P b = true → a = b) : lst1 P n = fst1 P n := by
  cases h : lst1 P n with
  | none => exact (fst1_none.mpr (lst1_none h)).symm
  | some k =>
    obtain ⟨h1, h2⟩ := lst1_some h
    refine (fst1_some.mpr ⟨h1, h2, fun i hi => ?_⟩).symm
    cases h3 : P i with
    | false => rfl
    | true => have := hu i k (by omega) h1 h3 h2; omega
theorem bear_lst {R : RO} (hW : rW R) (s : Nat) : lst1 (fun p => rL R p && rS R p == s) (rN R) = bear R s := lst1_fst1 (fun a b ha hb h1 h2 => by
  simp only [Bool.and_eq_true, beq_iff_eq] at h1 h2
  exact hW.2.2.2.2 a b ha hb h1.1 h2.1 (h1.2.trans h2.2.symm))
theorem lp_mbears {M : KM} {R : RO} (hZ : ZA M R) (hW : rW R) {s : Nat} (hs : s < 2 ^ 31) : ∀ (d : Nat) (j : Nat) (x y : Int32), rN R - j < d → (x = e4 (lst1 (fun p => rL R p && rS R p == s) j)) → (y = nI j) → (j ≤ rN R) → Go mX10_bears (Zm (QF (some (vI (e4 (bear R s)))) M)) M [some (vR 14 0), some (vI (nI s)), some (vI x), some (vI y)] [] 5 := by
  intro d
  induction d with
  | zero => intro j x y hd; exact absurd hd (Nat.not_lt_zero _)
  | succ d ih =>
    intro j x y hd h0 h1 h2
    refine go_iload_n (q := 6) dX10_bears_5 rfl rfl rfl ?_
    refine go_aload_n (q := 7) dX10_bears_6 rfl rfl rfl ?_
    refine go_getf (q := 10) dX10_bears_7 fRX10_7 rfl (by decide) rfl rfl ?_
    refine go_iconst (q := 11) (v := 0) dX10_bears_10 (by decide) rfl ?_
    refine go_iald (q := 12) 0 dX10_bears_11 rfl rfl (by decide) rfl (by decide) rfl ?_
    refine go_icmp_geN j (rN R) (q := 15) (t := 45) dX10_bears_12 (by decide) rfl h1 (hZ.sz) (by have := hZ.le; omega) (by have := hZ.le; omega) (fun c_12 => ?_) (fun c_12 => ?_)
    · refine go_iload_n (q := 46) dX10_bears_45 rfl rfl rfl ?_
      exact go_ri dX10_bears_46 rfl (by rw [h0, show j = rN R by omega, bear_lst hW]) rfl
    · subst h1
      refine go_aload_n (q := 16) dX10_bears_15 rfl rfl rfl ?_
      refine go_iload_n (q := 17) dX10_bears_16 rfl rfl rfl ?_
      refine go_cV1 (cal := mX10_lives) (q := 20) dX10_bears_17 lRX10_56 vX10_lives ⟨by decide, by decide⟩ rfl (by decide) (Nat.le_of_ble_eq_true rfl) (ok_mlives hZ c_12) rfl ?_
      refine go_if_eqB (q := 23) (t := 37) dX10_bears_20 (by decide) rfl (fun c_20 => ?_) (fun c_20 => ?_)
      · refine go_iload_n (q := 38) dX10_bears_37 rfl rfl rfl ?_
        refine go_istore_n (q := 39) dX10_bears_38 rfl (by decide) rfl rfl ?_
        refine go_iinc (q := 42) (v := 1) dX10_bears_39 (by decide) rfl (by decide) rfl rfl ?_
        refine go_goto (q := 5) dX10_bears_42 (by decide) ?_
        exact ih (j + 1) _ _ (by omega) (by rw [h0]; simp [lst1, c_20]) (nI_1 j) (by omega)
      · refine go_aload_n (q := 24) dX10_bears_23 rfl rfl rfl ?_
        refine go_iload_n (q := 25) dX10_bears_24 rfl rfl rfl ?_
        refine go_iconst (q := 26) (v := 0) dX10_bears_25 (by decide) rfl ?_
        refine go_cV2 (cal := mX10_of) (q := 29) dX10_bears_26 lRX10_45 vX10_of ⟨by decide, by decide⟩ rfl (by decide) (Nat.le_of_ble_eq_true rfl) (ok_mof (w := 0) (hZ.lt c_12) (by decide)) rfl ?_
        refine go_topi (hZ.sh c_12) ?_
        refine go_iload_n (q := 30) dX10_bears_29 rfl rfl rfl ?_
        refine go_icmp_neN (rS R j) s (q := 33) (t := 37) dX10_bears_30 (by decide) rfl rfl rfl (by have := hW.2.1 j c_12; omega) hs (fun c_30 => ?_) (fun c_30 => ?_)
        · refine go_iload_n (q := 38) dX10_bears_37 rfl rfl rfl ?_
          refine go_istore_n (q := 39) dX10_bears_38 rfl (by decide) rfl rfl ?_
          refine go_iinc (q := 42) (v := 1) dX10_bears_39 (by decide) rfl (by decide) rfl rfl ?_
          refine go_goto (q := 5) dX10_bears_42 (by decide) ?_
          exact ih (j + 1) _ _ (by omega) (by rw [h0]; simp [lst1, c_30]) (nI_1 j) (by omega)
        · refine go_iload_n (q := 34) dX10_bears_33 rfl rfl rfl ?_
          refine go_goto (q := 38) dX10_bears_34 (by decide) ?_
          refine go_istore_n (q := 39) dX10_bears_38 rfl (by decide) rfl rfl ?_
          refine go_iinc (q := 42) (v := 1) dX10_bears_39 (by decide) rfl (by decide) rfl rfl ?_
          refine go_goto (q := 5) dX10_bears_42 (by decide) ?_
          exact ih (j + 1) _ _ (by omega) (by simp [lst1, c_20, c_30, e4]) (nI_1 j) (by omega)
theorem ok_mbears {M : KM} {R : RO} (hZ : ZA M R) (hW : rW R) {s : Nat} (hs : s < 2 ^ 31) : OkF mX10_bears [vR 14 0, vI (nI s)] M (some (vI (e4 (bear R s)))) M := by
  refine ok_of (by decide) rfl (Nat.le_of_ble_eq_true rfl) ⟨rfl, rfl⟩ ?_
  show Go mX10_bears (Zm (QF (some (vI (e4 (bear R s)))) M)) M [some (vR 14 0), some (vI (nI s)), none, none] [] 0
  refine go_bipush (q := 2) (v := (-4)) dX10_bears_0 (by decide) rfl ?_
  refine go_istore_n (q := 3) dX10_bears_2 rfl (by decide) rfl rfl ?_
  refine go_iconst (q := 4) (v := 0) dX10_bears_3 (by decide) rfl ?_
  refine go_istore_n (q := 5) dX10_bears_4 rfl (by decide) rfl rfl ?_
  exact lp_mbears hZ hW hs (rN R + 1) 0 _ _ (by omega) rfl rfl (by omega)
theorem cn_b {P : Nat → Bool} {j : Nat} : nI (cn P j) + bI (P j) = nI (cn P (j + 1)) := by
  cases h : P j with
  | false => rw [cn_f h]; exact Int32.add_zero _
  | true => rw [cn_t h]; exact nI_1 _
theorem lp_mliving {M : KM} {R : RO} (hZ : ZA M R) : ∀ (d : Nat) (j : Nat) (x y : Int32), rN R - j < d → (x = nI (cn (rL R) j)) → (y = nI j) → (j ≤ rN R) → Go mX10_living (Zm (QF (some (vI (nI (cn (rL R) (rN R))))) M)) M [some (vR 14 0), some (vI x), some (vI y)] [] 4 := by
  intro d
  induction d with
  | zero => intro j x y hd; exact absurd hd (Nat.not_lt_zero _)
  | succ d ih =>
    intro j x y hd h0 h1 h2
    refine go_iload_n (q := 5) dX10_living_4 rfl rfl rfl ?_
    refine go_aload_n (q := 6) dX10_living_5 rfl rfl rfl ?_
    refine go_getf (q := 9) dX10_living_6 fRX10_7 rfl (by decide) rfl rfl ?_
    refine go_iconst (q := 10) (v := 0) dX10_living_9 (by decide) rfl ?_
    refine go_iald (q := 11) 0 dX10_living_10 rfl rfl (by decide) rfl (by decide) rfl ?_
    refine go_icmp_geN j (rN R) (q := 14) (t := 29) dX10_living_11 (by decide) rfl h1 (hZ.sz) (by have := hZ.le; omega) (by have := hZ.le; omega) (fun c_11 => ?_) (fun c_11 => ?_)
    · refine go_iload_n (q := 30) dX10_living_29 rfl rfl rfl ?_
      exact go_ri dX10_living_30 rfl (by rw [h0, show j = rN R by omega]) rfl
    · subst h1
      refine go_iload_n (q := 15) dX10_living_14 rfl rfl rfl ?_
      refine go_aload_n (q := 16) dX10_living_15 rfl rfl rfl ?_
      refine go_iload_n (q := 17) dX10_living_16 rfl rfl rfl ?_
      refine go_iconst (q := 18) (v := 1) dX10_living_17 (by decide) rfl ?_
      refine go_cV2 (cal := mX10_of) (q := 21) dX10_living_18 lRX10_45 vX10_of ⟨by decide, by decide⟩ rfl (by decide) (Nat.le_of_ble_eq_true rfl) (ok_mof (w := 1) (hZ.lt c_11) (by decide)) rfl ?_
      refine go_topi (hZ.al c_11) ?_
      refine go_iadd (q := 22) dX10_living_21 rfl ?_
      refine go_istore_n (q := 23) dX10_living_22 rfl (by decide) rfl rfl ?_
      refine go_iinc (q := 26) (v := 1) dX10_living_23 (by decide) rfl (by decide) rfl rfl ?_
      refine go_goto (q := 4) dX10_living_26 (by decide) ?_
      exact ih (j + 1) _ _ (by omega) (by rw [h0, cn_b]) (nI_1 j) (by omega)
theorem ok_mliving {M : KM} {R : RO} (hZ : ZA M R) : OkF mX10_living [vR 14 0] M (some (vI (nI (cn (rL R) (rN R))))) M := by
  refine ok_of (by decide) rfl (Nat.le_of_ble_eq_true rfl) ⟨rfl, rfl⟩ ?_
  show Go mX10_living (Zm (QF (some (vI (nI (cn (rL R) (rN R))))) M)) M [some (vR 14 0), none, none] [] 0
  refine go_iconst (q := 1) (v := 0) dX10_living_0 (by decide) rfl ?_
  refine go_istore_n (q := 2) dX10_living_1 rfl (by decide) rfl rfl ?_
  refine go_iconst (q := 3) (v := 0) dX10_living_2 (by decide) rfl ?_
  refine go_istore_n (q := 4) dX10_living_3 rfl (by decide) rfl rfl ?_
  exact lp_mliving hZ (rN R + 1) 0 _ _ (by omega) rfl rfl (by omega)
