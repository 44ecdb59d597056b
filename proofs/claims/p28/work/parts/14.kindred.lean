theorem lp_livingSons {M : KM} {i : Nat} {R : RO} (hi : i < 8) (hR : RA M i R) (hW : rW R) {p : Nat} (hp : p < rN R) : ∀ (d : Nat) (j : Nat) (x y : Int32), rN R - j < d → (x = nI (cn (fun i => rL R i && rP R i == some p) j)) → (y = nI j) → (j ≤ rN R) → Go mX3_livingSons (Zm (QF (some (vI (nI (cn (fun i => rL R i && rP R i == some p) (rN R))))) M)) M [some (vR 1 i), some (vI (nI p)), some (vI x), some (vI y)] [] 4 := by
  intro d
  induction d with
  | zero => intro j x y hd; exact absurd hd (Nat.not_lt_zero _)
  | succ d ih =>
    intro j x y hd h0 h1 h2
    refine go_iload_n (q := 5) dX3_livingSons_4 rfl rfl rfl ?_
    refine go_aload_n (q := 6) dX3_livingSons_5 rfl rfl rfl ?_
    refine go_cV0 (cal := mX6_size) (q := 9) dX3_livingSons_6 lRX3_9 vX6_size ⟨by decide, by decide⟩ rfl hi (Nat.le_of_ble_eq_true rfl) (ok_size hi hR) rfl ?_
    refine go_icmp_geN j (rN R) (q := 12) (t := 38) dX3_livingSons_9 (by decide) rfl h1 rfl (by have := hR.le; omega) (by have := hR.le; omega) (fun c_9 => ?_) (fun c_9 => ?_)
    · refine go_iload_n (q := 39) dX3_livingSons_38 rfl rfl rfl ?_
      exact go_ri dX3_livingSons_39 rfl (by rw [h0, show j = rN R by omega]) rfl
    · subst h1
      refine go_aload_n (q := 13) dX3_livingSons_12 rfl rfl rfl ?_
      refine go_iload_n (q := 14) dX3_livingSons_13 rfl rfl rfl ?_
      refine go_cV1 (cal := mX6_isAlive) (q := 17) dX3_livingSons_14 lRX3_15 vX6_isAlive ⟨by decide, by decide⟩ rfl hi (Nat.le_of_ble_eq_true rfl) (ok_isAlive hi hR _) rfl ?_
      refine go_if_eqB (q := 20) (t := 32) dX3_livingSons_17 (by decide) rfl (fun c_17 => ?_) (fun c_17 => ?_)
      · rw [pOf_at hR c_9, oL_some] at c_17
        refine go_iinc (q := 35) (v := 1) dX3_livingSons_32 (by decide) rfl (by decide) rfl rfl ?_
        refine go_goto (q := 4) dX3_livingSons_35 (by decide) ?_
        exact ih (j + 1) _ _ (by omega) (by rw [h0, cn_f (by simp [c_17])]) (nI_1 j) (by omega)
      · rw [pOf_at hR c_9, oL_some] at c_17
        refine go_aload_n (q := 21) dX3_livingSons_20 rfl rfl rfl ?_
        refine go_iload_n (q := 22) dX3_livingSons_21 rfl rfl rfl ?_
        refine go_cV1 (cal := mX6_fatherOf) (q := 25) dX3_livingSons_22 lRX3_19 vX6_fatherOf ⟨by decide, by decide⟩ rfl hi (Nat.le_of_ble_eq_true rfl) (ok_fatherOf hi hR _) rfl ?_
        refine go_iload_n (q := 26) dX3_livingSons_25 rfl rfl rfl ?_
        rw [pOf_at hR c_9, oP_some]
        refine go_icmp_ne (q := 29) (t := 32) dX3_livingSons_26 (by decide) rfl (fun c_26 => ?_) (fun c_26 => ?_)
        · refine go_iinc (q := 35) (v := 1) dX3_livingSons_32 (by decide) rfl (by decide) rfl rfl ?_
          refine go_goto (q := 4) dX3_livingSons_35 (by decide) ?_
          exact ih (j + 1) _ _ (by omega) (by rw [h0, cn_f (by have h : ¬ rP R j = some p := fun z => c_26 ((e1_nI (rP_big hW c_9) (by have := hR.lt hp; omega)).mpr z); simp [h])]) (nI_1 j) (by omega)
        · refine go_iinc (q := 32) (v := 1) dX3_livingSons_29 (by decide) rfl (by decide) rfl rfl ?_
          refine go_iinc (q := 35) (v := 1) dX3_livingSons_32 (by decide) rfl (by decide) rfl rfl ?_
          refine go_goto (q := 4) dX3_livingSons_35 (by decide) ?_
          exact ih (j + 1) _ _ (by omega) (by rw [h0, cn_t (by simp [c_17, (e1_nI (rP_big hW c_9) (by have := hR.lt hp; omega)).mp (Classical.not_not.mp c_26)]), nI_1]) (nI_1 j) (by omega)
theorem ok_livingSons {M : KM} {i : Nat} {R : RO} (hi : i < 8) (hR : RA M i R) (hW : rW R) {p : Nat} (hp : p < rN R) : OkF mX3_livingSons [vR 1 i, vI (nI p)] M (some (vI (nI (cn (fun i => rL R i && rP R i == some p) (rN R))))) M := by
  refine ok_of (by decide) rfl (Nat.le_of_ble_eq_true rfl) ⟨rfl, rfl⟩ ?_
  show Go mX3_livingSons (Zm (QF (some (vI (nI (cn (fun i => rL R i && rP R i == some p) (rN R))))) M)) M [some (vR 1 i), some (vI (nI p)), none, none] [] 0
  refine go_iconst (q := 1) (v := 0) dX3_livingSons_0 (by decide) rfl ?_
  refine go_istore_n (q := 2) dX3_livingSons_1 rfl (by decide) rfl rfl ?_
  refine go_iconst (q := 3) (v := 0) dX3_livingSons_2 (by decide) rfl ?_
  refine go_istore_n (q := 4) dX3_livingSons_3 rfl (by decide) rfl rfl ?_
  exact lp_livingSons hi hR hW hp (rN R + 1) 0 _ _ (by omega) rfl rfl (by omega)
theorem lp_livingBrothers {M : KM} {i : Nat} {R : RO} (hi : i < 8) (hR : RA M i R) (hW : rW R) {p : Nat} (hp : p < rN R) : ∀ (d : Nat) (j : Nat) (x y : Int32), rN R - j < d → (x = nI (cn (fun i => rL R i && br R (some i) (some p)) j)) → (y = nI j) → (j ≤ rN R) → Go mX3_livingBrothers (Zm (QF (some (vI (nI (cn (fun i => rL R i && br R (some i) (some p)) (rN R))))) M)) M [some (vR 1 i), some (vI (nI p)), some (vI x), some (vI y)] [] 4 := by
  intro d
  induction d with
  | zero => intro j x y hd; exact absurd hd (Nat.not_lt_zero _)
  | succ d ih =>
    intro j x y hd h0 h1 h2
    refine go_iload_n (q := 5) dX3_livingBrothers_4 rfl rfl rfl ?_
    refine go_aload_n (q := 6) dX3_livingBrothers_5 rfl rfl rfl ?_
    refine go_cV0 (cal := mX6_size) (q := 9) dX3_livingBrothers_6 lRX3_9 vX6_size ⟨by decide, by decide⟩ rfl hi (Nat.le_of_ble_eq_true rfl) (ok_size hi hR) rfl ?_
    refine go_icmp_geN j (rN R) (q := 12) (t := 38) dX3_livingBrothers_9 (by decide) rfl h1 rfl (by have := hR.le; omega) (by have := hR.le; omega) (fun c_9 => ?_) (fun c_9 => ?_)
    · refine go_iload_n (q := 39) dX3_livingBrothers_38 rfl rfl rfl ?_
      exact go_ri dX3_livingBrothers_39 rfl (by rw [h0, show j = rN R by omega]) rfl
    · subst h1
      refine go_aload_n (q := 13) dX3_livingBrothers_12 rfl rfl rfl ?_
      refine go_iload_n (q := 14) dX3_livingBrothers_13 rfl rfl rfl ?_
      refine go_cV1 (cal := mX6_isAlive) (q := 17) dX3_livingBrothers_14 lRX3_15 vX6_isAlive ⟨by decide, by decide⟩ rfl hi (Nat.le_of_ble_eq_true rfl) (ok_isAlive hi hR _) rfl ?_
      refine go_if_eqB (q := 20) (t := 32) dX3_livingBrothers_17 (by decide) rfl (fun c_17 => ?_) (fun c_17 => ?_)
      · rw [pOf_at hR c_9, oL_some] at c_17
        refine go_iinc (q := 35) (v := 1) dX3_livingBrothers_32 (by decide) rfl (by decide) rfl rfl ?_
        refine go_goto (q := 4) dX3_livingBrothers_35 (by decide) ?_
        exact ih (j + 1) _ _ (by omega) (by rw [h0, cn_f (by simp [c_17])]) (nI_1 j) (by omega)
      · rw [pOf_at hR c_9, oL_some] at c_17
        refine go_aload_n (q := 21) dX3_livingBrothers_20 rfl rfl rfl ?_
        refine go_iload_n (q := 22) dX3_livingBrothers_21 rfl rfl rfl ?_
        refine go_iload_n (q := 23) dX3_livingBrothers_22 rfl rfl rfl ?_
        refine go_cV2 (cal := mX6_areBrothers) (q := 26) dX3_livingBrothers_23 lRX3_23 vX6_areBrothers ⟨by decide, by decide⟩ rfl hi (Nat.le_of_ble_eq_true rfl) (ok_areBrothers hi hR hW _ _) rfl ?_
        rw [pOf_at hR c_9, pOf_at hR hp]
        refine go_if_eqB (q := 29) (t := 32) dX3_livingBrothers_26 (by decide) rfl (fun c_26 => ?_) (fun c_26 => ?_)
        · refine go_iinc (q := 35) (v := 1) dX3_livingBrothers_32 (by decide) rfl (by decide) rfl rfl ?_
          refine go_goto (q := 4) dX3_livingBrothers_35 (by decide) ?_
          exact ih (j + 1) _ _ (by omega) (by rw [h0, cn_f (by simp [c_26])]) (nI_1 j) (by omega)
        · refine go_iinc (q := 32) (v := 1) dX3_livingBrothers_29 (by decide) rfl (by decide) rfl rfl ?_
          refine go_iinc (q := 35) (v := 1) dX3_livingBrothers_32 (by decide) rfl (by decide) rfl rfl ?_
          refine go_goto (q := 4) dX3_livingBrothers_35 (by decide) ?_
          exact ih (j + 1) _ _ (by omega) (by rw [h0, cn_t (by simp [c_17, c_26]), nI_1]) (nI_1 j) (by omega)
theorem ok_livingBrothers {M : KM} {i : Nat} {R : RO} (hi : i < 8) (hR : RA M i R) (hW : rW R) {p : Nat} (hp : p < rN R) : OkF mX3_livingBrothers [vR 1 i, vI (nI p)] M (some (vI (nI (cn (fun i => rL R i && br R (some i) (some p)) (rN R))))) M := by
  refine ok_of (by decide) rfl (Nat.le_of_ble_eq_true rfl) ⟨rfl, rfl⟩ ?_
  show Go mX3_livingBrothers (Zm (QF (some (vI (nI (cn (fun i => rL R i && br R (some i) (some p)) (rN R))))) M)) M [some (vR 1 i), some (vI (nI p)), none, none] [] 0
  refine go_iconst (q := 1) (v := 0) dX3_livingBrothers_0 (by decide) rfl ?_
  refine go_istore_n (q := 2) dX3_livingBrothers_1 rfl (by decide) rfl rfl ?_
  refine go_iconst (q := 3) (v := 0) dX3_livingBrothers_2 (by decide) rfl ?_
  refine go_istore_n (q := 4) dX3_livingBrothers_3 rfl (by decide) rfl rfl ?_
  exact lp_livingBrothers hi hR hW hp (rN R + 1) 0 _ _ (by omega) rfl rfl (by omega)
theorem lp_livingCousins {M : KM} {i : Nat} {R : RO} (hi : i < 8) (hR : RA M i R) (hW : rW R) {p : Nat} (hp : p < rN R) : ∀ (d : Nat) (j : Nat) (x y : Int32), rN R - j < d → (x = nI (cn (fun i => rL R i && br R (rP R i) (rP R p)) j)) → (y = nI j) → (j ≤ rN R) → Go mX3_livingCousins (Zm (QF (some (vI (nI (cn (fun i => rL R i && br R (rP R i) (rP R p)) (rN R))))) M)) M [some (vR 1 i), some (vI (nI p)), some (vI x), some (vI y)] [] 4 := by
  intro d
  induction d with
  | zero => intro j x y hd; exact absurd hd (Nat.not_lt_zero _)
  | succ d ih =>
    intro j x y hd h0 h1 h2
    refine go_iload_n (q := 5) dX3_livingCousins_4 rfl rfl rfl ?_
    refine go_aload_n (q := 6) dX3_livingCousins_5 rfl rfl rfl ?_
    refine go_cV0 (cal := mX6_size) (q := 9) dX3_livingCousins_6 lRX3_9 vX6_size ⟨by decide, by decide⟩ rfl hi (Nat.le_of_ble_eq_true rfl) (ok_size hi hR) rfl ?_
    refine go_icmp_geN j (rN R) (q := 12) (t := 46) dX3_livingCousins_9 (by decide) rfl h1 rfl (by have := hR.le; omega) (by have := hR.le; omega) (fun c_9 => ?_) (fun c_9 => ?_)
    · refine go_iload_n (q := 47) dX3_livingCousins_46 rfl rfl rfl ?_
      exact go_ri dX3_livingCousins_47 rfl (by rw [h0, show j = rN R by omega]) rfl
    · subst h1
      refine go_aload_n (q := 13) dX3_livingCousins_12 rfl rfl rfl ?_
      refine go_iload_n (q := 14) dX3_livingCousins_13 rfl rfl rfl ?_
      refine go_cV1 (cal := mX6_isAlive) (q := 17) dX3_livingCousins_14 lRX3_15 vX6_isAlive ⟨by decide, by decide⟩ rfl hi (Nat.le_of_ble_eq_true rfl) (ok_isAlive hi hR _) rfl ?_
      refine go_if_eqB (q := 20) (t := 40) dX3_livingCousins_17 (by decide) rfl (fun c_17 => ?_) (fun c_17 => ?_)
      · rw [pOf_at hR c_9, oL_some] at c_17
        refine go_iinc (q := 43) (v := 1) dX3_livingCousins_40 (by decide) rfl (by decide) rfl rfl ?_
        refine go_goto (q := 4) dX3_livingCousins_43 (by decide) ?_
        exact ih (j + 1) _ _ (by omega) (by rw [h0, cn_f (by simp [c_17])]) (nI_1 j) (by omega)
      · rw [pOf_at hR c_9, oL_some] at c_17
        refine go_aload_n (q := 21) dX3_livingCousins_20 rfl rfl rfl ?_
        refine go_aload_n (q := 22) dX3_livingCousins_21 rfl rfl rfl ?_
        refine go_iload_n (q := 23) dX3_livingCousins_22 rfl rfl rfl ?_
        refine go_cV1 (cal := mX6_fatherOf) (q := 26) dX3_livingCousins_23 lRX3_19 vX6_fatherOf ⟨by decide, by decide⟩ rfl hi (Nat.le_of_ble_eq_true rfl) (ok_fatherOf hi hR _) rfl ?_
        rw [pOf_at hR c_9, oP_some]
        refine go_aload_n (q := 27) dX3_livingCousins_26 rfl rfl rfl ?_
        refine go_iload_n (q := 28) dX3_livingCousins_27 rfl rfl rfl ?_
        refine go_cV1 (cal := mX6_fatherOf) (q := 31) dX3_livingCousins_28 lRX3_19 vX6_fatherOf ⟨by decide, by decide⟩ rfl hi (Nat.le_of_ble_eq_true rfl) (ok_fatherOf hi hR _) rfl ?_
        rw [pOf_at hR hp, oP_some]
        refine go_cV2 (cal := mX6_areBrothers) (q := 34) dX3_livingCousins_31 lRX3_23 vX6_areBrothers ⟨by decide, by decide⟩ rfl hi (Nat.le_of_ble_eq_true rfl) (ok_areBrothers hi hR hW _ _) rfl ?_
        rw [pOf_e1 (rP_n hW c_9) (by have := hR.le; omega), pOf_e1 (rP_n hW hp) (by have := hR.le; omega)]
        refine go_if_eqB (q := 37) (t := 40) dX3_livingCousins_34 (by decide) rfl (fun c_34 => ?_) (fun c_34 => ?_)
        · refine go_iinc (q := 43) (v := 1) dX3_livingCousins_40 (by decide) rfl (by decide) rfl rfl ?_
          refine go_goto (q := 4) dX3_livingCousins_43 (by decide) ?_
          exact ih (j + 1) _ _ (by omega) (by rw [h0, cn_f (by simp [c_34])]) (nI_1 j) (by omega)
        · refine go_iinc (q := 40) (v := 1) dX3_livingCousins_37 (by decide) rfl (by decide) rfl rfl ?_
          refine go_iinc (q := 43) (v := 1) dX3_livingCousins_40 (by decide) rfl (by decide) rfl rfl ?_
          refine go_goto (q := 4) dX3_livingCousins_43 (by decide) ?_
          exact ih (j + 1) _ _ (by omega) (by rw [h0, cn_t (by simp [c_17, c_34]), nI_1]) (nI_1 j) (by omega)
theorem ok_livingCousins {M : KM} {i : Nat} {R : RO} (hi : i < 8) (hR : RA M i R) (hW : rW R) {p : Nat} (hp : p < rN R) : OkF mX3_livingCousins [vR 1 i, vI (nI p)] M (some (vI (nI (cn (fun i => rL R i && br R (rP R i) (rP R p)) (rN R))))) M := by
  refine ok_of (by decide) rfl (Nat.le_of_ble_eq_true rfl) ⟨rfl, rfl⟩ ?_
  show Go mX3_livingCousins (Zm (QF (some (vI (nI (cn (fun i => rL R i && br R (rP R i) (rP R p)) (rN R))))) M)) M [some (vR 1 i), some (vI (nI p)), none, none] [] 0
  refine go_iconst (q := 1) (v := 0) dX3_livingCousins_0 (by decide) rfl ?_
  refine go_istore_n (q := 2) dX3_livingCousins_1 rfl (by decide) rfl rfl ?_
  refine go_iconst (q := 3) (v := 0) dX3_livingCousins_2 (by decide) rfl ?_
  refine go_istore_n (q := 4) dX3_livingCousins_3 rfl (by decide) rfl rfl ?_
  exact lp_livingCousins hi hR hW hp (rN R + 1) 0 _ _ (by omega) rfl rfl (by omega)
/-! ===== forefathers ===== -/
def dep (R : RO) : Nat → Nat → Nat
  | 0, _ => 0
  | d + 1, p => match rP R p with
    | none => 0
    | some g => dep R d g + 1
def depth (R : RO) (p : Nat) : Nat := dep R (p + 1) p
theorem dep_st {R : RO} (hW : rW R) : ∀ (d d' p : Nat), p < rN R → p < d → p < d' → dep R d p = dep R d' p := by
  intro d
  induction d with
  | zero => intro d' p _ h; exact absurd h (Nat.not_lt_zero _)
  | succ d ih =>
    intro d' p hp h h'
    obtain ⟨e, rfl⟩ : ∃ e, d' = e + 1 := ⟨d' - 1, by omega⟩
    unfold dep
    cases hf : rP R p with
    | none => rfl
    | some g =>
      have := rP_lt hW hp g hf
      simp only
      rw [ih e g (by omega) (by omega) (by omega)]
theorem depth_eq {R : RO} (hW : rW R) {p : Nat} (hp : p < rN R) : depth R p = match rP R p with
    | none => 0
    | some g => depth R g + 1 := by
  unfold depth
  rw [show dep R (p + 1) p = match rP R p with
    | none => 0
    | some g => dep R p g + 1 from rfl]
  cases hf : rP R p with
  | none => rfl
  | some g =>
    have := rP_lt hW hp g hf
    simp only
    rw [dep_st hW p (g + 1) g (by omega) (by omega) (by omega)]
theorem depth_none {R : RO} (hW : rW R) {p : Nat} (hp : p < rN R) (h : rP R p = none) : depth R p = 0 := by rw [depth_eq hW hp, h]
theorem depth_some {R : RO} (hW : rW R) {p g : Nat} (hp : p < rN R) (h : rP R p = some g) : depth R p = depth R g + 1 := by rw [depth_eq hW hp, h]
theorem depth_le {R : RO} (hW : rW R) : ∀ (d p : Nat), p < d → p < rN R → depth R p ≤ p := by
  intro d
  induction d with
  | zero => intro p h; exact absurd h (Nat.not_lt_zero _)
  | succ d ih =>
    intro p h hp
    cases hf : rP R p with
    | none => rw [depth_none hW hp hf]; omega
    | some g =>
      have h1 := rP_lt hW hp g hf
      have h2 := ih g (by omega) (by omega)
      rw [depth_some hW hp hf]; omega
def an (R : RO) (f : Nat) : Nat → Nat → Bool
  | 0, _ => false
  | d + 1, p => match rP R p with
    | none => false
    | some g => g == f || an R f d g
/-- whether p comes from f -/
def anc (R : RO) (f p : Nat) : Bool := an R f (p + 1) p
theorem an_st {R : RO} (hW : rW R) (f : Nat) : ∀ (d d' p : Nat), p < rN R → p < d → p < d' → an R f d p = an R f d' p := by
  intro d
  induction d with
  | zero => intro d' p _ h; exact absurd h (Nat.not_lt_zero _)
  | succ d ih =>
    intro d' p hp h h'
    obtain ⟨e, rfl⟩ : ∃ e, d' = e + 1 := ⟨d' - 1, by omega⟩
    unfold an
    cases hf : rP R p with
    | none => rfl
    | some g =>
      have := rP_lt hW hp g hf
      simp only
      rw [ih e g (by omega) (by omega) (by omega)]
theorem anc_none {R : RO} {f p : Nat} (h : rP R p = none) : anc R f p = false := by
  unfold anc an
  rw [h]
theorem anc_some {R : RO} (hW : rW R) {f p g : Nat} (hp : p < rN R) (h : rP R p = some g) : anc R f p = (g == f || anc R f g) := by
  have := rP_lt hW hp g h
  show an R f (p + 1) p = _
  unfold an
  rw [h]
  simp only
  rw [an_st hW f p (g + 1) g (by omega) (by omega) (by omega)]
  rfl
theorem anc_le {R : RO} (hW : rW R) {f : Nat} : ∀ (d p : Nat), p < d → p < rN R → anc R f p = true → f < p := by
  intro d
  induction d with
  | zero => intro p h; exact absurd h (Nat.not_lt_zero _)
  | succ d ih =>
    intro p h hp ha
    cases hf : rP R p with
    | none => rw [anc_none hf] at ha; cases ha
    | some g =>
      have h1 := rP_lt hW hp g hf
      rw [anc_some hW hp hf, Bool.or_eq_true, beq_iff_eq] at ha
      rcases ha with rfl | ha
      · exact h1
      · have := ih g (by omega) (by omega) ha; omega
theorem lp_stepsFF {M : KM} {i : Nat} {R : RO} (hi : i < 8) (hR : RA M i R) (hW : rW R) {p : Nat} (hp : p < rN R) : ∀ (d : Nat) (a s : Nat) (y : Int32), a < d → (a < rN R) → (depth R p = s + depth R a) → (y = nI s) → Go mX3_stepsFromFounder (Zm (QF (some (vI (nI (depth R p)))) M)) M [some (vR 1 i), some (vI (nI p)), some (vI (nI a)), some (vI y)] [] 4 := by
  intro d
  induction d with
  | zero => intro a s y hd; exact absurd hd (Nat.not_lt_zero _)
  | succ d ih =>
    intro a s y hd h0 h1 h2
    refine go_iload_n (q := 5) dX3_stepsFromFounder_4 rfl rfl rfl ?_
    refine go_bipush (q := 7) (v := 20) dX3_stepsFromFounder_5 (by decide) rfl ?_
    refine go_icmp_geN s 20 (q := 10) (t := 31) dX3_stepsFromFounder_7 (by decide) rfl h2 rfl (by have := depth_le hW (p + 1) p (by omega) hp; have := hR.lt hp; omega) (by omega) (fun c_7 => ?_) (fun c_7 => ?_)
    · have := depth_le hW (p + 1) p (by omega) hp; have := hR.lt hp; omega
    · refine go_aload_n (q := 11) dX3_stepsFromFounder_10 rfl rfl rfl ?_
      refine go_iload_n (q := 12) dX3_stepsFromFounder_11 rfl rfl rfl ?_
      refine go_cV1 (cal := mX6_fatherOf) (q := 15) dX3_stepsFromFounder_12 lRX3_19 vX6_fatherOf ⟨by decide, by decide⟩ rfl hi (Nat.le_of_ble_eq_true rfl) (ok_fatherOf hi hR _) rfl ?_
      rw [pOf_at hR h0, oP_some]
      refine go_iconst (q := 16) (v := (-1)) dX3_stepsFromFounder_15 (by decide) rfl ?_
      refine go_icmp_eq (q := 19) (t := 31) dX3_stepsFromFounder_16 (by decide) rfl (fun c_16 => ?_) (fun c_16 => ?_)
      · refine go_iload_n (q := 32) dX3_stepsFromFounder_31 rfl rfl rfl ?_
        exact go_ri dX3_stepsFromFounder_32 rfl (by rw [h2, h1, depth_none hW h0 ((e1_eq (rP_big hW h0)).mp c_16)]; rfl) rfl
      · obtain ⟨g, hg⟩ : ∃ g, rP R a = some g := by
          cases h : rP R a with
          | none => exact absurd ((e1_eq (rP_big hW h0)).mpr h) c_16
          | some g => exact ⟨g, rfl⟩
        have hlt := rP_lt hW h0 g hg
        refine go_aload_n (q := 20) dX3_stepsFromFounder_19 rfl rfl rfl ?_
        refine go_iload_n (q := 21) dX3_stepsFromFounder_20 rfl rfl rfl ?_
        refine go_cV1 (cal := mX6_fatherOf) (q := 24) dX3_stepsFromFounder_21 lRX3_19 vX6_fatherOf ⟨by decide, by decide⟩ rfl hi (Nat.le_of_ble_eq_true rfl) (ok_fatherOf hi hR _) rfl ?_
        rw [pOf_at hR h0, oP_some, hg]
        refine go_istore_n (q := 25) dX3_stepsFromFounder_24 rfl (by decide) rfl rfl ?_
        refine go_iinc (q := 28) (v := 1) dX3_stepsFromFounder_25 (by decide) rfl (by decide) rfl rfl ?_
        refine go_goto (q := 4) dX3_stepsFromFounder_28 (by decide) ?_
        exact ih g (s + 1) _ (by omega) (by omega) (by rw [h1, depth_some hW h0 hg]; omega) (by rw [h2, nI_1])
theorem ok_stepsFF {M : KM} {i : Nat} {R : RO} (hi : i < 8) (hR : RA M i R) (hW : rW R) {p : Nat} (hp : p < rN R) : OkF mX3_stepsFromFounder [vR 1 i, vI (nI p)] M (some (vI (nI (depth R p)))) M := by
  refine ok_of (by decide) rfl (Nat.le_of_ble_eq_true rfl) ⟨rfl, rfl⟩ ?_
  show Go mX3_stepsFromFounder (Zm (QF (some (vI (nI (depth R p)))) M)) M [some (vR 1 i), some (vI (nI p)), none, none] [] 0
  refine go_iload_n (q := 1) dX3_stepsFromFounder_0 rfl rfl rfl ?_
  refine go_istore_n (q := 2) dX3_stepsFromFounder_1 rfl (by decide) rfl rfl ?_
  refine go_iconst (q := 3) (v := 0) dX3_stepsFromFounder_2 (by decide) rfl ?_
  refine go_istore_n (q := 4) dX3_stepsFromFounder_3 rfl (by decide) rfl rfl ?_
  exact lp_stepsFF hi hR hW hp (p + 1) p 0 _ (by omega) hp (by omega) rfl
theorem i_le_e1 {o : Option Nat} {f : Nat} (ho : ∀ k, o = some k → k < 2 ^ 31) (hf : f < 2 ^ 31) : e1 o ≤ nI f ↔ ∀ k, o = some k → k ≤ f := by
  have hm : (-1 : Int32).toInt = -1 := by decide
  rw [i32_le, nI_toInt hf]
  cases o with
  | none => simp [e1]
  | some k =>
    simp only [e1, Option.some.injEq]
    rw [nI_toInt (ho k rfl)]
    constructor
    · rintro h _ rfl; omega
    · intro h; have := h k rfl; omega
/-- a forefather, or the person itself, that is f -/
def ancO (R : RO) (f : Nat) : Option Nat → Bool
  | none => false
  | some a => decide (a = f) || anc R f a
theorem k_cf0 {R : RO} (hW : rW R) {a : Option Nat} {f : Nat} (ha : ∀ k, a = some k → k < rN R) (hle : ∀ k, a = some k → k ≤ f) (hne : ¬ a = some f) : ancO R f a = false := by
  cases a with
  | none => rfl
  | some k =>
    have h1 := hle k rfl
    have h2 : ¬ k = f := fun z => hne (by rw [z])
    have h3 : anc R f k = false := by
      rw [← Bool.not_eq_true]
      intro z
      have := anc_le hW (k + 1) k (by omega) (ha k rfl) z
      omega
    show (decide (k = f) || anc R f k) = false
    rw [h3, decide_eq_false h2]; rfl
theorem k_cf1 {R : RO} (hW : rW R) {a f : Nat} (ha : a < rN R) (hgt : f < a) : ancO R f (some a) = ancO R f (rP R a) := by
  show (decide (a = f) || anc R f a) = _
  rw [decide_eq_false (by omega), Bool.false_or]
  cases hf : rP R a with
  | none => rw [anc_none hf]; rfl
  | some g =>
    rw [anc_some hW ha hf]
    show _ = (decide (g = f) || anc R f g)
    rw [show (g == f) = decide (g = f) from rfl]
def oM1 : Option Nat → Nat
  | none => 0
  | some k => k + 1
theorem oM1_up {R : RO} (hW : rW R) {a : Nat} (ha : a < rN R) : oM1 (rP R a) ≤ a := by
  cases hg : rP R a with
  | none => exact Nat.zero_le _
  | some g => exact rP_lt hW ha g hg
theorem lp_comesFrom {M : KM} {i : Nat} {R : RO} (hi : i < 8) (hR : RA M i R) (hW : rW R) {p f : Nat} (hp : p < rN R) (hf : f < rN R) : ∀ (d : Nat) (a : Option Nat) (s : Nat) (y : Int32), oM1 a < d → (∀ k, a = some k → k < rN R) → (ancO R f (some p) = ancO R f a) → (y = nI s) → (s + oM1 a ≤ 20) → Go mX3_comesFrom (Zm (QF (some (vI (bI (ancO R f (some p))))) M)) M [some (vR 1 i), some (vI (nI p)), some (vI (nI f)), some (vI (e1 a)), some (vI y)] [] 5 := by
  intro d
  induction d with
  | zero => intro a s y hd; exact absurd hd (Nat.not_lt_zero _)
  | succ d ih =>
    intro a s y hd h0 h1 h2 h3
    refine go_iload (q := 7) dX3_comesFrom_5 rfl rfl ?_
    refine go_bipush (q := 9) (v := 20) dX3_comesFrom_7 (by decide) rfl ?_
    refine go_icmp_geN s 20 (q := 12) (t := 29) dX3_comesFrom_9 (by decide) rfl h2 rfl (by omega) (by omega) (fun c_9 => ?_) (fun c_9 => ?_)
    · have c14 : ∀ k, a = some k → k ≤ f := fun k hk => by
        subst hk
        have h3b : s + (k + 1) ≤ 20 := h3
        omega
      refine go_iload_n (q := 30) dX3_comesFrom_29 rfl rfl rfl ?_
      refine go_iload_n (q := 31) dX3_comesFrom_30 rfl rfl rfl ?_
      refine go_icmp_ne (q := 34) (t := 38) dX3_comesFrom_31 (by decide) rfl (fun c_31 => ?_) (fun c_31 => ?_)
      · refine go_iconst (q := 39) (v := 0) dX3_comesFrom_38 (by decide) rfl ?_
        exact go_rz dX3_comesFrom_39 rfl (by have h31 : ¬ a = some f := fun z => c_31 ((e1_nI (fun k hk => by have := h0 k hk; have := hR.le; omega) (by have := hR.lt hf; omega)).mpr z); rw [h1, k_cf0 hW h0 c14 h31]; rfl) rfl
      · refine go_iconst (q := 35) (v := 1) dX3_comesFrom_34 (by decide) rfl ?_
        refine go_goto (q := 39) dX3_comesFrom_35 (by decide) ?_
        exact go_rz dX3_comesFrom_39 rfl (by have h31 : a = some f := (e1_nI (fun k hk => by have := h0 k hk; have := hR.le; omega) (by have := hR.lt hf; omega)).mp (Classical.not_not.mp c_31); rw [h1, h31]; simp [bI, ancO]) rfl
    · refine go_iload_n (q := 13) dX3_comesFrom_12 rfl rfl rfl ?_
      refine go_iload_n (q := 14) dX3_comesFrom_13 rfl rfl rfl ?_
      refine go_icmp_le (q := 17) (t := 29) dX3_comesFrom_14 (by decide) rfl (fun c_14 => ?_) (fun c_14 => ?_)
      · have c14 := (i_le_e1 (fun k hk => by have := h0 k hk; have := hR.le; omega) (by have := hR.lt hf; omega)).mp c_14
        refine go_iload_n (q := 30) dX3_comesFrom_29 rfl rfl rfl ?_
        refine go_iload_n (q := 31) dX3_comesFrom_30 rfl rfl rfl ?_
        refine go_icmp_ne (q := 34) (t := 38) dX3_comesFrom_31 (by decide) rfl (fun c_31 => ?_) (fun c_31 => ?_)
        · refine go_iconst (q := 39) (v := 0) dX3_comesFrom_38 (by decide) rfl ?_
          exact go_rz dX3_comesFrom_39 rfl (by have h31 : ¬ a = some f := fun z => c_31 ((e1_nI (fun k hk => by have := h0 k hk; have := hR.le; omega) (by have := hR.lt hf; omega)).mpr z); rw [h1, k_cf0 hW h0 c14 h31]; rfl) rfl
        · refine go_iconst (q := 35) (v := 1) dX3_comesFrom_34 (by decide) rfl ?_
          refine go_goto (q := 39) dX3_comesFrom_35 (by decide) ?_
          exact go_rz dX3_comesFrom_39 rfl (by have h31 : a = some f := (e1_nI (fun k hk => by have := h0 k hk; have := hR.le; omega) (by have := hR.lt hf; omega)).mp (Classical.not_not.mp c_31); rw [h1, h31]; simp [bI, ancO]) rfl
      · obtain ⟨k, rfl, hgt⟩ : ∃ k, a = some k ∧ f < k := by
          cases a with
          | none => exact absurd ((i_le_e1 (fun k hk => by have := h0 k hk; have := hR.le; omega) (by have := hR.lt hf; omega)).mpr (fun k hk => by cases hk)) c_14
          | some k => exact ⟨k, rfl, Nat.lt_of_not_le fun z => c_14 ((i_le_e1 (fun k hk => by have := h0 k hk; have := hR.le; omega) (by have := hR.lt hf; omega)).mpr (fun k2 hk => by cases hk; exact z))⟩
        refine go_aload_n (q := 18) dX3_comesFrom_17 rfl rfl rfl ?_
        refine go_iload_n (q := 19) dX3_comesFrom_18 rfl rfl rfl ?_
        refine go_cV1 (cal := mX6_fatherOf) (q := 22) dX3_comesFrom_19 lRX3_19 vX6_fatherOf ⟨by decide, by decide⟩ rfl hi (Nat.le_of_ble_eq_true rfl) (ok_fatherOf hi hR _) rfl ?_
        rw [show pOf (rN R) (e1 (some k)) = some k from pOf_at hR (h0 k rfl), oP_some]
        refine go_istore_n (q := 23) dX3_comesFrom_22 rfl (by decide) rfl rfl ?_
        refine go_iinc (q := 26) (v := 1) dX3_comesFrom_23 (by decide) rfl (by decide) rfl rfl ?_
        refine go_goto (q := 5) dX3_comesFrom_26 (by decide) ?_
        exact ih (rP R k) (s + 1) _ (by have := oM1_up hW (h0 k rfl); have hd2 : k + 1 < d + 1 := hd; omega) (fun g hg => rP_n hW (h0 k rfl) g hg) (by rw [h1, k_cf1 hW (h0 k rfl) hgt]) (by rw [h2, nI_1]) (by have := oM1_up hW (h0 k rfl); have h3b : s + (k + 1) ≤ 20 := h3; omega)
theorem ok_comesFrom {M : KM} {i : Nat} {R : RO} (hi : i < 8) (hR : RA M i R) (hW : rW R) {p f : Nat} (hp : p < rN R) (hf : f < rN R) : OkF mX3_comesFrom [vR 1 i, vI (nI p), vI (nI f)] M (some (vI (bI (ancO R f (some p))))) M := by
  refine ok_of (by decide) rfl (Nat.le_of_ble_eq_true rfl) ⟨rfl, rfl⟩ ?_
  show Go mX3_comesFrom (Zm (QF (some (vI (bI (ancO R f (some p))))) M)) M [some (vR 1 i), some (vI (nI p)), some (vI (nI f)), none, none] [] 0
  refine go_iload_n (q := 1) dX3_comesFrom_0 rfl rfl rfl ?_
  refine go_istore_n (q := 2) dX3_comesFrom_1 rfl (by decide) rfl rfl ?_
  refine go_iconst (q := 3) (v := 0) dX3_comesFrom_2 (by decide) rfl ?_
  refine go_istore (q := 5) dX3_comesFrom_3 (by decide) rfl rfl ?_
  exact lp_comesFrom hi hR hW hp hf (p + 2) (some p) 0 _ (by show p + 1 < p + 2; omega) (fun k hk => by cases hk; exact hp) rfl rfl (by show 0 + (p + 1) ≤ 20; have := hR.lt hp; omega)
theorem cn_0 {P : Nat → Bool} : ∀ {n : Nat}, (∀ i, i < n → P i = false) → cn P n = 0
  | 0, _ => rfl
  | n + 1, h => by rw [cn_f (h n (by omega))]; exact cn_0 (fun i hi => h i (by omega))
theorem lp_descendants {M : KM} {i : Nat} {R : RO} (hi : i < 8) (hR : RA M i R) (hW : rW R) {p : Nat} (hp : p < rN R) : ∀ (d : Nat) (j : Nat) (x y : Int32), rN R - j < d → (x = nI (cn (fun q => decide (p < q) && anc R p q) j)) → (y = nI j) → (j ≤ rN R) → (p < j) → Go mX3_descendants (Zm (QF (some (vI (nI (cn (fun q => decide (p < q) && anc R p q) (rN R))))) M)) M [some (vR 1 i), some (vI (nI p)), some (vI x), some (vI y)] [] 6 := by
  intro d
  induction d with
  | zero => intro j x y hd; exact absurd hd (Nat.not_lt_zero _)
  | succ d ih =>
    intro j x y hd h0 h1 h2 h3
    refine go_iload_n (q := 7) dX3_descendants_6 rfl rfl rfl ?_
    refine go_aload_n (q := 8) dX3_descendants_7 rfl rfl rfl ?_
    refine go_cV0 (cal := mX6_size) (q := 11) dX3_descendants_8 lRX3_9 vX6_size ⟨by decide, by decide⟩ rfl hi (Nat.le_of_ble_eq_true rfl) (ok_size hi hR) rfl ?_
    refine go_icmp_geN j (rN R) (q := 14) (t := 32) dX3_descendants_11 (by decide) rfl h1 rfl (by have := hR.le; omega) (by have := hR.le; omega) (fun c_11 => ?_) (fun c_11 => ?_)
    · refine go_iload_n (q := 33) dX3_descendants_32 rfl rfl rfl ?_
      exact go_ri dX3_descendants_33 rfl (by rw [h0, show j = rN R by omega]) rfl
    · subst h1
      refine go_aload_n (q := 15) dX3_descendants_14 rfl rfl rfl ?_
      refine go_iload_n (q := 16) dX3_descendants_15 rfl rfl rfl ?_
      refine go_iload_n (q := 17) dX3_descendants_16 rfl rfl rfl ?_
      refine go_cS3 (cal := mX3_comesFrom) (q := 20) dX3_descendants_17 lRX3_27 vX3_comesFrom ⟨by decide, by decide⟩ (Nat.le_of_ble_eq_true rfl) (ok_comesFrom hi hR hW c_11 hp) rfl ?_
      refine go_if_eqB (q := 23) (t := 26) dX3_descendants_20 (by decide) rfl (fun c_20 => ?_) (fun c_20 => ?_)
      · refine go_iinc (q := 29) (v := 1) dX3_descendants_26 (by decide) rfl (by decide) rfl rfl ?_
        refine go_goto (q := 6) dX3_descendants_29 (by decide) ?_
        exact ih (j + 1) _ _ (by omega) (by rw [h0, cn_f (by have h := c_20; simp only [ancO, Bool.or_eq_false_iff] at h; rw [h.2]; simp)]) (nI_1 j) (by omega) (by omega)
      · refine go_iinc (q := 26) (v := 1) dX3_descendants_23 (by decide) rfl (by decide) rfl rfl ?_
        refine go_iinc (q := 29) (v := 1) dX3_descendants_26 (by decide) rfl (by decide) rfl rfl ?_
        refine go_goto (q := 6) dX3_descendants_29 (by decide) ?_
        exact ih (j + 1) _ _ (by omega) (by rw [h0, cn_t (by have h := c_20; simp only [ancO, Bool.or_eq_true, decide_eq_true_eq] at h; rcases h with h | h; omega; rw [h]; simp; omega), nI_1]) (nI_1 j) (by omega) (by omega)
theorem ok_descendants {M : KM} {i : Nat} {R : RO} (hi : i < 8) (hR : RA M i R) (hW : rW R) {p : Nat} (hp : p < rN R) : OkF mX3_descendants [vR 1 i, vI (nI p)] M (some (vI (nI (cn (fun q => decide (p < q) && anc R p q) (rN R))))) M := by
  refine ok_of (by decide) rfl (Nat.le_of_ble_eq_true rfl) ⟨rfl, rfl⟩ ?_
  show Go mX3_descendants (Zm (QF (some (vI (nI (cn (fun q => decide (p < q) && anc R p q) (rN R))))) M)) M [some (vR 1 i), some (vI (nI p)), none, none] [] 0
  refine go_iconst (q := 1) (v := 0) dX3_descendants_0 (by decide) rfl ?_
  refine go_istore_n (q := 2) dX3_descendants_1 rfl (by decide) rfl rfl ?_
  refine go_iload_n (q := 3) dX3_descendants_2 rfl rfl rfl ?_
  refine go_iconst (q := 4) (v := 1) dX3_descendants_3 (by decide) rfl ?_
  refine go_iadd (q := 5) dX3_descendants_4 rfl ?_
  refine go_topi (nI_1 p) ?_
  refine go_istore_n (q := 6) dX3_descendants_5 rfl (by decide) rfl rfl ?_
  exact lp_descendants hi hR hW hp (rN R + 1) (p + 1) _ _ (by omega) (by rw [cn_0 (fun i hi => by rw [decide_eq_false (by omega)]; rfl)]; rfl) rfl (by omega) (by omega)
/-- how far from the father's shield -/
def pF (R : RO) (p : Nat) : Option Nat := (rP R p).map (fun g => ap (rS R p) (rS R g))
theorem pF_big {R : RO} {p : Nat} : ∀ k, pF R p = some k → k < 2 ^ 31 := fun k hk => by
  unfold pF at hk
  cases h : rP R p with
  | none => rw [h] at hk; cases hk
  | some g => rw [h] at hk; cases hk; have := ap_le (rS R p) (rS R g); show ap (rS R p) (rS R g) < 2 ^ 31; omega
theorem ok_placesFF {M : KM} {i : Nat} {R : RO} (hi : i < 8) (hR : RA M i R) (hW : rW R) {p : Nat} (hp : p < rN R) : OkF mX3_placesFromFather [vR 1 i, vI (nI p)] M (some (vI (e4 (pF R p)))) M := by
  refine ok_of (by decide) rfl (Nat.le_of_ble_eq_true rfl) ⟨rfl, rfl⟩ ?_
  show Go mX3_placesFromFather (Zm (QF (some (vI (e4 (pF R p)))) M)) M [some (vR 1 i), some (vI (nI p)), none] [] 0
  refine go_aload_n (q := 1) dX3_placesFromFather_0 rfl rfl rfl ?_
  refine go_iload_n (q := 2) dX3_placesFromFather_1 rfl rfl rfl ?_
  refine go_cV1 (cal := mX6_fatherOf) (q := 5) dX3_placesFromFather_2 lRX3_19 vX6_fatherOf ⟨by decide, by decide⟩ rfl hi (Nat.le_of_ble_eq_true rfl) (ok_fatherOf hi hR _) rfl ?_
  rw [pOf_at hR hp, oP_some]
  refine go_istore_n (q := 6) dX3_placesFromFather_5 rfl (by decide) rfl rfl ?_
  refine go_iload_n (q := 7) dX3_placesFromFather_6 rfl rfl rfl ?_
  refine go_iconst (q := 8) (v := (-1)) dX3_placesFromFather_7 (by decide) rfl ?_
  refine go_icmp_ne (q := 11) (t := 14) dX3_placesFromFather_8 (by decide) rfl (fun c_8 => ?_) (fun c_8 => ?_)
  · obtain ⟨g, hg⟩ : ∃ g, rP R p = some g := by
      cases h : rP R p with
      | none => exact absurd ((e1_eq (rP_big hW hp)).mpr h) c_8
      | some g => exact ⟨g, rfl⟩
    rw [hg]
    refine go_aload_n (q := 15) dX3_placesFromFather_14 rfl rfl rfl ?_
    refine go_iload_n (q := 16) dX3_placesFromFather_15 rfl rfl rfl ?_
    refine go_cV1 (cal := mX6_shieldOf) (q := 19) dX3_placesFromFather_16 lRX3_33 vX6_shieldOf ⟨by decide, by decide⟩ rfl hi (Nat.le_of_ble_eq_true rfl) (ok_shieldOf hi hR _) rfl ?_
    rw [pOf_at hR hp, oS_some]
    refine go_aload_n (q := 20) dX3_placesFromFather_19 rfl rfl rfl ?_
    refine go_iload_n (q := 21) dX3_placesFromFather_20 rfl rfl rfl ?_
    refine go_cV1 (cal := mX6_shieldOf) (q := 24) dX3_placesFromFather_21 lRX3_33 vX6_shieldOf ⟨by decide, by decide⟩ rfl hi (Nat.le_of_ble_eq_true rfl) (ok_shieldOf hi hR _) rfl ?_
    rw [show pOf (rN R) (e1 (some g)) = some g from pOf_at hR (rP_n hW hp g hg), oS_some]
    refine go_cS2 (cal := mX8_apart) (q := 27) dX3_placesFromFather_24 lRX3_36 vX8_apart ⟨by decide, by decide⟩ (Nat.le_of_ble_eq_true rfl) (ok_apart (by have := hW.2.1 p hp; omega) (by have := hW.2.1 g (rP_n hW hp g hg); omega)) rfl ?_
    exact go_ri dX3_placesFromFather_27 rfl (by rw [show pF R p = some (ap (rS R p) (rS R g)) from by unfold pF; rw [hg]; rfl]; rfl) rfl
  · refine go_bipush (q := 13) (v := (-4)) dX3_placesFromFather_11 (by decide) rfl ?_
    exact go_ri dX3_placesFromFather_13 rfl (by rw [show pF R p = none from by unfold pF; rw [(e1_eq (rP_big hW hp)).mp (Classical.not_not.mp c_8)]; rfl]; rfl) rfl
def heirB (R : RO) (p : Nat) (j : Nat) : Bool := rL R j && (rP R j == some p && whyH R j == 0)
theorem lp_heirOf {M : KM} {i : Nat} {R : RO} (hi : i < 8) (hR : RA M i R) (hW : rW R) {p : Nat} (hp : p < rN R) : ∀ (d : Nat) (j : Nat) (y : Int32), rN R - j < d → (∀ a, a < j → heirB R p a = false) → (y = nI j) → (j ≤ rN R) → Go mX3_heirOf (Zm (QF (some (vI (e1 (fst1 (heirB R p) (rN R))))) M)) M [some (vR 1 i), some (vI (nI p)), some (vI y)] [] 2 := by
  intro d
  induction d with
  | zero => intro j y hd; exact absurd hd (Nat.not_lt_zero _)
  | succ d ih =>
    intro j y hd h0 h1 h2
    refine go_iload_n (q := 3) dX3_heirOf_2 rfl rfl rfl ?_
    refine go_aload_n (q := 4) dX3_heirOf_3 rfl rfl rfl ?_
    refine go_cV0 (cal := mX6_size) (q := 7) dX3_heirOf_4 lRX3_9 vX6_size ⟨by decide, by decide⟩ rfl hi (Nat.le_of_ble_eq_true rfl) (ok_size hi hR) rfl ?_
    refine go_icmp_geN j (rN R) (q := 10) (t := 43) dX3_heirOf_7 (by decide) rfl h1 rfl (by have := hR.le; omega) (by have := hR.le; omega) (fun c_7 => ?_) (fun c_7 => ?_)
    · refine go_iconst (q := 44) (v := (-1)) dX3_heirOf_43 (by decide) rfl ?_
      exact go_ri dX3_heirOf_44 rfl (by rw [show fst1 (heirB R p) (rN R) = none from fst1_none.mpr (fun a ha => h0 a (by omega))]; rfl) rfl
    · subst h1
      refine go_aload_n (q := 11) dX3_heirOf_10 rfl rfl rfl ?_
      refine go_iload_n (q := 12) dX3_heirOf_11 rfl rfl rfl ?_
      refine go_cV1 (cal := mX6_isAlive) (q := 15) dX3_heirOf_12 lRX3_15 vX6_isAlive ⟨by decide, by decide⟩ rfl hi (Nat.le_of_ble_eq_true rfl) (ok_isAlive hi hR _) rfl ?_
      refine go_if_eqB (q := 18) (t := 37) dX3_heirOf_15 (by decide) rfl (fun c_15 => ?_) (fun c_15 => ?_)
      · rw [pOf_at hR c_7, oL_some] at c_15
        refine go_iinc (q := 40) (v := 1) dX3_heirOf_37 (by decide) rfl (by decide) rfl rfl ?_
        refine go_goto (q := 2) dX3_heirOf_40 (by decide) ?_
        exact ih (j + 1) _ (by omega) (fun a ha => by
          by_cases hj : a = j
          · subst hj
            simp [heirB, c_15]
          · exact h0 a (by omega)) (nI_1 j) (by omega)
      · rw [pOf_at hR c_7, oL_some] at c_15
        refine go_aload_n (q := 19) dX3_heirOf_18 rfl rfl rfl ?_
        refine go_iload_n (q := 20) dX3_heirOf_19 rfl rfl rfl ?_
        refine go_cV1 (cal := mX6_fatherOf) (q := 23) dX3_heirOf_20 lRX3_19 vX6_fatherOf ⟨by decide, by decide⟩ rfl hi (Nat.le_of_ble_eq_true rfl) (ok_fatherOf hi hR _) rfl ?_
        rw [pOf_at hR c_7, oP_some]
        refine go_iload_n (q := 24) dX3_heirOf_23 rfl rfl rfl ?_
        refine go_icmp_ne (q := 27) (t := 37) dX3_heirOf_24 (by decide) rfl (fun c_24 => ?_) (fun c_24 => ?_)
        · refine go_iinc (q := 40) (v := 1) dX3_heirOf_37 (by decide) rfl (by decide) rfl rfl ?_
          refine go_goto (q := 2) dX3_heirOf_40 (by decide) ?_
          exact ih (j + 1) _ (by omega) (fun a ha => by
            by_cases hj : a = j
            · subst hj
              have h : ¬ rP R a = some p := fun z => c_24 ((e1_nI (rP_big hW c_7) (by have := hR.lt hp; omega)).mpr z)
              simp [heirB, h]
            · exact h0 a (by omega)) (nI_1 j) (by omega)
        · refine go_aload_n (q := 28) dX3_heirOf_27 rfl rfl rfl ?_
          refine go_iload_n (q := 29) dX3_heirOf_28 rfl rfl rfl ?_
          refine go_cV1 (cal := mX6_reasonAgainstHeir) (q := 32) dX3_heirOf_29 lRX3_42 vX6_reasonAgainstHeir ⟨by decide, by decide⟩ rfl hi (Nat.le_of_ble_eq_true rfl) (ok_reasonAgainstHeir hi hR hW c_7) rfl ?_
          refine go_if_ne (q := 35) (t := 37) dX3_heirOf_32 (by decide) rfl (fun c_32 => ?_) (fun c_32 => ?_)
          · refine go_iinc (q := 40) (v := 1) dX3_heirOf_37 (by decide) rfl (by decide) rfl rfl ?_
            refine go_goto (q := 2) dX3_heirOf_40 (by decide) ?_
            exact ih (j + 1) _ (by omega) (fun a ha => by
              by_cases hj : a = j
              · subst hj
                have h : ¬ whyH R a = 0 := fun z => c_32 (by rw [z]; rfl)
                simp [heirB, h]
              · exact h0 a (by omega)) (nI_1 j) (by omega)
          · refine go_iload_n (q := 36) dX3_heirOf_35 rfl rfl rfl ?_
            exact go_ri dX3_heirOf_36 rfl (by rw [show fst1 (heirB R p) (rN R) = some j from fst1_some.mpr ⟨c_7, by simp [heirB, c_15, (e1_nI (rP_big hW c_7) (by have := hR.lt hp; omega)).mp (Classical.not_not.mp c_24), (nI_eq (whyH_big R j) (by decide)).mp (Classical.not_not.mp c_32)], h0⟩]; rfl) rfl
theorem ok_heirOf {M : KM} {i : Nat} {R : RO} (hi : i < 8) (hR : RA M i R) (hW : rW R) {p : Nat} (hp : p < rN R) : OkF mX3_heirOf [vR 1 i, vI (nI p)] M (some (vI (e1 (fst1 (heirB R p) (rN R))))) M := by
  refine ok_of (by decide) rfl (Nat.le_of_ble_eq_true rfl) ⟨rfl, rfl⟩ ?_
  show Go mX3_heirOf (Zm (QF (some (vI (e1 (fst1 (heirB R p) (rN R))))) M)) M [some (vR 1 i), some (vI (nI p)), none] [] 0
  refine go_iconst (q := 1) (v := 0) dX3_heirOf_0 (by decide) rfl ?_
  refine go_istore_n (q := 2) dX3_heirOf_1 rfl (by decide) rfl rfl ?_
  exact lp_heirOf hi hR hW hp (rN R + 1) 0 _ (by omega) (fun a ha => absurd ha (Nat.not_lt_zero _)) rfl (by omega)
/-- the nearness, with fuel -/
def kn (R : RO) : Nat → Nat → Nat → Option Nat
  | 0, _, _ => none
  | d + 1, a, b => if a = b then some 0 else if b < a then match rP R a with
      | none => none
      | some g => (kn R d g b).map (fun x => x + 1)
    else match rP R b with
      | none => none
      | some g => (kn R d a g).map (fun x => x + 1)
def kinR (R : RO) (a b : Nat) : Option Nat := kn R (a + b + 1) a b
theorem kn_st {R : RO} (hW : rW R) : ∀ (d d' a b : Nat), a < rN R → b < rN R → a + b < d → a + b < d' → kn R d a b = kn R d' a b := by
  intro d
  induction d with
  | zero => intro d' a b _ _ h; exact absurd h (Nat.not_lt_zero _)
  | succ d ih =>
    intro d' a b ha hb h h'
    obtain ⟨e, rfl⟩ : ∃ e, d' = e + 1 := ⟨d' - 1, by omega⟩
    unfold kn
    by_cases h1 : a = b
    · rw [if_pos h1, if_pos h1]
    · rw [if_neg h1, if_neg h1]
      by_cases h2 : b < a
      · rw [if_pos h2, if_pos h2]
        cases hf : rP R a with
        | none => rfl
        | some g =>
          have := rP_lt hW ha g hf
          simp only
          rw [ih e g b (by omega) hb (by omega) (by omega)]
      · rw [if_neg h2, if_neg h2]
        cases hf : rP R b with
        | none => rfl
        | some g =>
          have := rP_lt hW hb g hf
          simp only
          rw [ih e a g ha (by omega) (by omega) (by omega)]
theorem kin_self {R : RO} (a : Nat) : kinR R a a = some 0 := by
  unfold kinR kn
  rw [if_pos rfl]
theorem kin_gt {R : RO} (hW : rW R) {a b : Nat} (ha : a < rN R) (hb : b < rN R) (h : b < a) : kinR R a b = (rP R a).bind (fun g => (kinR R g b).map (fun x => x + 1)) := by
  show kn R (a + b + 1) a b = _
  unfold kn
  rw [if_neg (by omega), if_pos h]
  cases hf : rP R a with
  | none => rfl
  | some g =>
    have := rP_lt hW ha g hf
    show (kn R (a + b) g b).map _ = (kinR R g b).map _
    rw [kn_st hW (a + b) (g + b + 1) g b (by omega) hb (by omega) (by omega)]
    rfl
theorem kin_lt {R : RO} (hW : rW R) {a b : Nat} (ha : a < rN R) (hb : b < rN R) (h : a < b) : kinR R a b = (rP R b).bind (fun g => (kinR R a g).map (fun x => x + 1)) := by
  show kn R (a + b + 1) a b = _
  unfold kn
  rw [if_neg (by omega), if_neg (by omega)]
  cases hf : rP R b with
  | none => rfl
  | some g =>
    have := rP_lt hW hb g hf
    show (kn R (a + b) a g).map _ = (kinR R a g).map _
    rw [kn_st hW (a + b) (a + g + 1) a g ha (by omega) (by omega) (by omega)]
    rfl
def kO (R : RO) : Option Nat → Option Nat → Option Nat
  | some a, some b => kinR R a b
  | _, _ => none
theorem kO_l {R : RO} (hW : rW R) {a : Nat} {b : Option Nat} (ha : a < rN R) (hb : ∀ k, b = some k → k < rN R) (h : ∀ k, b = some k → k < a) : kO R (some a) b = (kO R (rP R a) b).map (fun x => x + 1) := by
  cases b with
  | none => show none = (kO R (rP R a) none).map _; cases rP R a <;> rfl
  | some b =>
    show kinR R a b = _
    rw [kin_gt hW ha (hb b rfl) (h b rfl)]
    cases rP R a <;> rfl
theorem kO_r {R : RO} (hW : rW R) {b : Nat} {a : Option Nat} (hb : b < rN R) (ha : ∀ k, a = some k → k < rN R) (h : ∀ k, a = some k → k < b) : kO R a (some b) = (kO R a (rP R b)).map (fun x => x + 1) := by
  cases a with
  | none => show none = (kO R none (rP R b)).map _; cases rP R b <;> rfl
  | some a =>
    show kinR R a b = _
    rw [kin_lt hW (ha a rfl) hb (h a rfl)]
    cases rP R b <;> rfl
theorem map_add {o : Option Nat} {s : Nat} : (o.map (fun x => x + 1)).map (fun x => x + s) = o.map (fun x => x + (s + 1)) := by
  cases o with
  | none => rfl
  | some x => show some (x + 1 + s) = some (x + (s + 1)); congr 1; omega
theorem e4_some (k : Nat) : e4 (some k) = nI k := rfl
def gtO : Option Nat → Option Nat → Prop
  | some x, some y => y < x
  | some _, none => True
  | none, _ => False
theorem go_icmp_leO {I : KI} {Z : KZ} {M : KM} {loc : List (Option KV)} {st : List KV} {pc q t : Nat} {off : Int} (a b : Option Nat) (hd : decode I.2.1 pc = .ok (.if_icmp .le off, 3)) (ht : (pc : Int) + off = (t : Int)) (hq : pc + 3 = q) (ha : ∀ k, a = some k → k < 2 ^ 31) (hb : ∀ k, b = some k → k < 2 ^ 31) (k1 : ¬ gtO a b → Go I Z M loc st t) (k2 : gtO a b → Go I Z M loc st q) : Go I Z M loc (vI (e1 b) :: vI (e1 a) :: st) pc := by
  have hm : (-1 : Int32).toInt = -1 := by decide
  have key : e1 a ≤ e1 b ↔ ¬ gtO a b := by
    rw [i32_le]
    cases a with
    | none => cases b with
      | none => simp [e1, gtO]
      | some y =>
        simp only [e1, gtO, not_false_eq_true, iff_true]
        rw [nI_toInt (hb y rfl), hm]; omega
    | some x => cases b with
      | none =>
        simp only [e1, gtO, not_true_eq_false, iff_false]
        rw [nI_toInt (ha x rfl), hm]; omega
      | some y =>
        simp only [e1, gtO]
        rw [nI_toInt (ha x rfl), nI_toInt (hb y rfl)]; omega
  exact go_icmp_le hd ht hq (fun z => k1 (key.mp z)) (fun z => k2 (Classical.not_not.mp fun w => z (key.mpr w)))
theorem lp_nearness {M : KM} {i : Nat} {R : RO} (hi : i < 8) (hR : RA M i R) (hW : rW R) {p q : Nat} (hp : p < rN R) (hq : q < rN R) : ∀ (d : Nat) (a b : Option Nat) (s : Nat) (y : Int32), oM1 a + oM1 b < d → (∀ k, a = some k → k < rN R) → (∀ k, b = some k → k < rN R) → (kinR R p q = (kO R a b).map (fun x => x + s)) → (y = nI s) → (s + oM1 a + oM1 b ≤ 40) → Go mX3_nearness (Zm (QF (some (vI (e4 (kinR R p q)))) M)) M [some (vR 1 i), some (vI (e1 a)), some (vI (e1 b)), some (vI y)] [] 2 := by
  intro d
  induction d with
  | zero => intro a b s y hd; exact absurd hd (Nat.not_lt_zero _)
  | succ d ih =>
    intro a b s y hd h0 h1 h2 h3 h4
    refine go_iload_n (q := 3) dX3_nearness_2 rfl rfl rfl ?_
    refine go_bipush (q := 5) (v := 40) dX3_nearness_3 (by decide) rfl ?_
    refine go_icmp_geN s 40 (q := 8) (t := 39) dX3_nearness_5 (by decide) rfl h3 rfl (by omega) (by omega) (fun c_5 => ?_) (fun c_5 => ?_)
    · refine go_iload_n (q := 40) dX3_nearness_39 rfl rfl rfl ?_
      refine go_iload_n (q := 41) dX3_nearness_40 rfl rfl rfl ?_
      refine go_icmp_ne (q := 44) (t := 53) dX3_nearness_41 (by decide) rfl (fun c_41 => ?_) (fun c_41 => ?_)
      · refine go_bipush (q := 55) (v := (-4)) dX3_nearness_53 (by decide) rfl ?_
        exact go_ri dX3_nearness_55 rfl (by have ha : a = none := (by cases a with | none => rfl | some k => have h4b : s + (k + 1) + oM1 b ≤ 40 := h4; omega); rw [h2, ha]; show _ = e4 ((kO R none b).map _); rfl) rfl
      · refine go_iload_n (q := 45) dX3_nearness_44 rfl rfl rfl ?_
        refine go_iconst (q := 46) (v := (-1)) dX3_nearness_45 (by decide) rfl ?_
        refine go_icmp_eq (q := 49) (t := 53) dX3_nearness_46 (by decide) rfl (fun c_46 => ?_) (fun c_46 => ?_)
        · refine go_bipush (q := 55) (v := (-4)) dX3_nearness_53 (by decide) rfl ?_
          exact go_ri dX3_nearness_55 rfl (by have ha : a = none := (by cases a with | none => rfl | some k => have h4b : s + (k + 1) + oM1 b ≤ 40 := h4; omega); rw [h2, ha]; show _ = e4 ((kO R none b).map _); rfl) rfl
        · refine go_iload_n (q := 50) dX3_nearness_49 rfl rfl rfl ?_
          refine go_goto (q := 55) dX3_nearness_50 (by decide) ?_
          exact go_ri dX3_nearness_55 rfl (by exfalso; have ha : a = none := (by cases a with | none => rfl | some k => (have h4b : s + (k + 1) + oM1 b ≤ 40 := h4; omega)); subst ha; exact c_46 rfl) rfl
    · refine go_iload_n (q := 9) dX3_nearness_8 rfl rfl rfl ?_
      refine go_iload_n (q := 10) dX3_nearness_9 rfl rfl rfl ?_
      refine go_icmp_eq (q := 13) (t := 39) dX3_nearness_10 (by decide) rfl (fun c_10 => ?_) (fun c_10 => ?_)
      · refine go_iload_n (q := 40) dX3_nearness_39 rfl rfl rfl ?_
        refine go_iload_n (q := 41) dX3_nearness_40 rfl rfl rfl ?_
        refine go_icmp_ne (q := 44) (t := 53) dX3_nearness_41 (by decide) rfl (fun c_41 => ?_) (fun c_41 => ?_)
        · refine go_bipush (q := 55) (v := (-4)) dX3_nearness_53 (by decide) rfl ?_
          exact go_ri dX3_nearness_55 rfl (by exact absurd c_10 c_41) rfl
        · refine go_iload_n (q := 45) dX3_nearness_44 rfl rfl rfl ?_
          refine go_iconst (q := 46) (v := (-1)) dX3_nearness_45 (by decide) rfl ?_
          refine go_icmp_eq (q := 49) (t := 53) dX3_nearness_46 (by decide) rfl (fun c_46 => ?_) (fun c_46 => ?_)
          · refine go_bipush (q := 55) (v := (-4)) dX3_nearness_53 (by decide) rfl ?_
            exact go_ri dX3_nearness_55 rfl (by have e : a = none := (e1_eq (fun k hk => by have := h0 k hk; have := hR.le; omega)).mp c_46; subst e; rw [h2]; rfl) rfl
          · refine go_iload_n (q := 50) dX3_nearness_49 rfl rfl rfl ?_
            refine go_goto (q := 55) dX3_nearness_50 (by decide) ?_
            exact go_ri dX3_nearness_55 rfl (by have e : a = b := e1_inj (fun k hk => by have := h0 k hk; have := hR.le; omega) (fun k hk => by have := h1 k hk; have := hR.le; omega) (Classical.not_not.mp c_41); subst e; cases a with | none => exact absurd rfl c_46 | some k => (rw [h2, show kO R (some k) (some k) = some 0 from kin_self k, h3]; show _ = nI (0 + s); rw [Nat.zero_add])) rfl
      · refine go_iload_n (q := 14) dX3_nearness_13 rfl rfl rfl ?_
        refine go_iload_n (q := 15) dX3_nearness_14 rfl rfl rfl ?_
        refine go_icmp_leO a b (q := 18) (t := 27) dX3_nearness_15 (by decide) rfl (fun k hk => by have := h0 k hk; have := hR.le; omega) (fun k hk => by have := h1 k hk; have := hR.le; omega) (fun c_15 => ?_) (fun c_15 => ?_)
        · obtain ⟨k, rfl, hgt⟩ : ∃ k, b = some k ∧ ∀ z, a = some z → z < k := by
            cases b with
            | none => cases a with
              | none => exact absurd rfl c_10
              | some k => exact absurd trivial c_15
            | some k => exact ⟨k, rfl, fun z hz => by subst hz; have h5 : ¬ k < z := c_15; have h6 : ¬ z = k := fun w => c_10 (by rw [w]); omega⟩
          refine go_aload_n (q := 28) dX3_nearness_27 rfl rfl rfl ?_
          refine go_iload_n (q := 29) dX3_nearness_28 rfl rfl rfl ?_
          refine go_cV1 (cal := mX6_fatherOf) (q := 32) dX3_nearness_29 lRX3_19 vX6_fatherOf ⟨by decide, by decide⟩ rfl hi (Nat.le_of_ble_eq_true rfl) (ok_fatherOf hi hR _) rfl ?_
          rw [show pOf (rN R) (e1 (some k)) = some k from pOf_at hR (h1 k rfl), oP_some]
          refine go_istore_n (q := 33) dX3_nearness_32 rfl (by decide) rfl rfl ?_
          refine go_iinc (q := 36) (v := 1) dX3_nearness_33 (by decide) rfl (by decide) rfl rfl ?_
          refine go_goto (q := 2) dX3_nearness_36 (by decide) ?_
          exact ih a (rP R k) (s + 1) _ (by have := oM1_up hW (h1 k rfl); have hd2 : oM1 a + (k + 1) < d + 1 := hd; omega) h0 (rP_n hW (h1 k rfl)) (by rw [h2, kO_r hW (h1 k rfl) h0 hgt, map_add]) (by rw [h3, nI_1]) (by have := oM1_up hW (h1 k rfl); have h4b : s + oM1 a + (k + 1) ≤ 40 := h4; omega)
        · obtain ⟨k, rfl, hgt⟩ : ∃ k, a = some k ∧ ∀ z, b = some z → z < k := by
            cases a with
            | none => exact absurd c_15 (by cases b <;> simp [gtO])
            | some k => exact ⟨k, rfl, fun z hz => by subst hz; exact c_15⟩
          refine go_aload_n (q := 19) dX3_nearness_18 rfl rfl rfl ?_
          refine go_iload_n (q := 20) dX3_nearness_19 rfl rfl rfl ?_
          refine go_cV1 (cal := mX6_fatherOf) (q := 23) dX3_nearness_20 lRX3_19 vX6_fatherOf ⟨by decide, by decide⟩ rfl hi (Nat.le_of_ble_eq_true rfl) (ok_fatherOf hi hR _) rfl ?_
          rw [show pOf (rN R) (e1 (some k)) = some k from pOf_at hR (h0 k rfl), oP_some]
          refine go_istore_n (q := 24) dX3_nearness_23 rfl (by decide) rfl rfl ?_
          refine go_goto (q := 33) dX3_nearness_24 (by decide) ?_
          refine go_iinc (q := 36) (v := 1) dX3_nearness_33 (by decide) rfl (by decide) rfl rfl ?_
          refine go_goto (q := 2) dX3_nearness_36 (by decide) ?_
          exact ih (rP R k) b (s + 1) _ (by have := oM1_up hW (h0 k rfl); have hd2 : k + 1 + oM1 b < d + 1 := hd; omega) (rP_n hW (h0 k rfl)) h1 (by rw [h2, kO_l hW (h0 k rfl) h1 hgt, map_add]) (by rw [h3, nI_1]) (by have := oM1_up hW (h0 k rfl); have h4b : s + (k + 1) + oM1 b ≤ 40 := h4; omega)
theorem ok_nearness {M : KM} {i : Nat} {R : RO} (hi : i < 8) (hR : RA M i R) (hW : rW R) {p q : Nat} (hp : p < rN R) (hq : q < rN R) : OkF mX3_nearness [vR 1 i, vI (nI p), vI (nI q)] M (some (vI (e4 (kinR R p q)))) M := by
  refine ok_of (by decide) rfl (Nat.le_of_ble_eq_true rfl) ⟨rfl, rfl⟩ ?_
  show Go mX3_nearness (Zm (QF (some (vI (e4 (kinR R p q)))) M)) M [some (vR 1 i), some (vI (nI p)), some (vI (nI q)), none] [] 0
  refine go_iconst (q := 1) (v := 0) dX3_nearness_0 (by decide) rfl ?_
  refine go_istore_n (q := 2) dX3_nearness_1 rfl (by decide) rfl rfl ?_
  exact lp_nearness hi hR hW hp hq (p + q + 3) (some p) (some q) 0 _ (by show p + 1 + (q + 1) < _; omega) (fun k hk => by cases hk; exact hp) (fun k hk => by cases hk; exact hq) (by show _ = (kinR R p q).map _; cases kinR R p q <;> rfl) rfl (by show 0 + (p + 1) + (q + 1) ≤ 40; have := hR.lt hp; have := hR.lt hq; omega)
