theorem lp_founders {M : KM} {i : Nat} {R : RO} (hi : i < 8) (hR : RA M i R) (hW : rW R) : ∀ (d : Nat) (j : Nat) (x y : Int32), rN R - j < d → (x = nI (cn (fun i => rP R i == none) j)) → (y = nI j) → (j ≤ rN R) → Go mX0_founders (Zm (QF (some (vI (nI (cn (fun i => rP R i == none) (rN R))))) M)) M [some (vR 1 i), some (vI x), some (vI y)] [] 4 := by
  intro d
  induction d with
  | zero => intro j x y hd; exact absurd hd (Nat.not_lt_zero _)
  | succ d ih =>
    intro j x y hd h0 h1 h2
    refine go_iload_n (q := 5) dX0_founders_4 rfl rfl rfl ?_
    refine go_aload_n (q := 6) dX0_founders_5 rfl rfl rfl ?_
    refine go_cV0 (cal := mX6_size) (q := 9) dX0_founders_6 lRX0_9 vX6_size ⟨by decide, by decide⟩ rfl hi (Nat.le_of_ble_eq_true rfl) (ok_size hi hR) rfl ?_
    refine go_icmp_geN j (rN R) (q := 12) (t := 30) dX0_founders_9 (by decide) rfl h1 rfl (by have := hR.le; omega) (by have := hR.le; omega) (fun c_9 => ?_) (fun c_9 => ?_)
    · refine go_iload_n (q := 31) dX0_founders_30 rfl rfl rfl ?_
      exact go_ri dX0_founders_31 rfl (by rw [h0, show j = rN R by omega]) rfl
    · subst h1
      refine go_aload_n (q := 13) dX0_founders_12 rfl rfl rfl ?_
      refine go_iload_n (q := 14) dX0_founders_13 rfl rfl rfl ?_
      refine go_cV1 (cal := mX6_fatherOf) (q := 17) dX0_founders_14 lRX0_15 vX6_fatherOf ⟨by decide, by decide⟩ rfl hi (Nat.le_of_ble_eq_true rfl) (ok_fatherOf hi hR _) rfl ?_
      refine go_iconst (q := 18) (v := (-1)) dX0_founders_17 (by decide) rfl ?_
      rw [pOf_at hR c_9, oP_some]
      refine go_icmp_ne (q := 21) (t := 24) dX0_founders_18 (by decide) rfl (fun c_18 => ?_) (fun c_18 => ?_)
      · refine go_iinc (q := 27) (v := 1) dX0_founders_24 (by decide) rfl (by decide) rfl rfl ?_
        refine go_goto (q := 4) dX0_founders_27 (by decide) ?_
        exact ih (j + 1) _ _ (by omega) (by rw [h0, cn_f (by exact beq_eq_false_iff_ne.mpr (fun z => c_18 ((e1_eq (rP_big hW c_9)).mpr z)))]) (nI_1 j) (by omega)
      · refine go_iinc (q := 24) (v := 1) dX0_founders_21 (by decide) rfl (by decide) rfl rfl ?_
        refine go_iinc (q := 27) (v := 1) dX0_founders_24 (by decide) rfl (by decide) rfl rfl ?_
        refine go_goto (q := 4) dX0_founders_27 (by decide) ?_
        exact ih (j + 1) _ _ (by omega) (by rw [h0, cn_t (by exact beq_iff_eq.mpr ((e1_eq (rP_big hW c_9)).mp (Classical.not_not.mp c_18))), nI_1]) (nI_1 j) (by omega)
theorem ok_founders {M : KM} {i : Nat} {R : RO} (hi : i < 8) (hR : RA M i R) (hW : rW R) : OkF mX0_founders [vR 1 i] M (some (vI (nI (cn (fun i => rP R i == none) (rN R))))) M := by
  refine ok_of (by decide) rfl (Nat.le_of_ble_eq_true rfl) ⟨rfl, rfl⟩ ?_
  show Go mX0_founders (Zm (QF (some (vI (nI (cn (fun i => rP R i == none) (rN R))))) M)) M [some (vR 1 i), none, none] [] 0
  refine go_iconst (q := 1) (v := 0) dX0_founders_0 (by decide) rfl ?_
  refine go_istore_n (q := 2) dX0_founders_1 rfl (by decide) rfl rfl ?_
  refine go_iconst (q := 3) (v := 0) dX0_founders_2 (by decide) rfl ?_
  refine go_istore_n (q := 4) dX0_founders_3 rfl (by decide) rfl rfl ?_
  exact lp_founders hi hR hW (rN R + 1) 0 _ _ (by omega) rfl rfl (by omega)
theorem k_pf1F {R : RO} {p : Nat} (h : e4 (pF R p) ≤ (1 : Int32)) : (match pF R p with | some k => decide (1 < k) | none => false) = false := by
  have hb := pF_big (R := R) (p := p)
  cases hk : pF R p with
  | none => rfl
  | some k =>
    rw [hk] at h
    have h2 : nI k ≤ nI 1 := h
    have := (nI_leI (hb k hk) (by decide)).mp h2
    simp only [decide_eq_false_iff_not]; omega
theorem k_pf1T {R : RO} {p : Nat} (h : ¬ e4 (pF R p) ≤ (1 : Int32)) : (match pF R p with | some k => decide (1 < k) | none => false) = true := by
  have hb := pF_big (R := R) (p := p)
  cases hk : pF R p with
  | none => rw [hk] at h; exact absurd (by decide) h
  | some k =>
    rw [hk] at h
    have h2 : ¬ nI k ≤ nI 1 := h
    have : ¬ k ≤ 1 := fun z => h2 ((nI_leI (hb k hk) (by decide)).mpr z)
    simp only [decide_eq_true_eq]; omega
theorem lp_farFF {M : KM} {i : Nat} {R : RO} (hi : i < 8) (hR : RA M i R) (hW : rW R) : ∀ (d : Nat) (j : Nat) (x y : Int32), rN R - j < d → (x = nI (cn (fun i => rL R i && (match pF R i with | some k => decide (1 < k) | none => false)) j)) → (y = nI j) → (j ≤ rN R) → Go mX0_farFromFather (Zm (QF (some (vI (nI (cn (fun i => rL R i && (match pF R i with | some k => decide (1 < k) | none => false)) (rN R))))) M)) M [some (vR 1 i), some (vI x), some (vI y)] [] 4 := by
  intro d
  induction d with
  | zero => intro j x y hd; exact absurd hd (Nat.not_lt_zero _)
  | succ d ih =>
    intro j x y hd h0 h1 h2
    refine go_iload_n (q := 5) dX0_farFromFather_4 rfl rfl rfl ?_
    refine go_aload_n (q := 6) dX0_farFromFather_5 rfl rfl rfl ?_
    refine go_cV0 (cal := mX6_size) (q := 9) dX0_farFromFather_6 lRX0_9 vX6_size ⟨by decide, by decide⟩ rfl hi (Nat.le_of_ble_eq_true rfl) (ok_size hi hR) rfl ?_
    refine go_icmp_geN j (rN R) (q := 12) (t := 38) dX0_farFromFather_9 (by decide) rfl h1 rfl (by have := hR.le; omega) (by have := hR.le; omega) (fun c_9 => ?_) (fun c_9 => ?_)
    · refine go_iload_n (q := 39) dX0_farFromFather_38 rfl rfl rfl ?_
      exact go_ri dX0_farFromFather_39 rfl (by rw [h0, show j = rN R by omega]) rfl
    · subst h1
      refine go_aload_n (q := 13) dX0_farFromFather_12 rfl rfl rfl ?_
      refine go_iload_n (q := 14) dX0_farFromFather_13 rfl rfl rfl ?_
      refine go_cV1 (cal := mX6_isAlive) (q := 17) dX0_farFromFather_14 lRX0_25 vX6_isAlive ⟨by decide, by decide⟩ rfl hi (Nat.le_of_ble_eq_true rfl) (ok_isAlive hi hR _) rfl ?_
      refine go_if_eqB (q := 20) (t := 32) dX0_farFromFather_17 (by decide) rfl (fun c_17 => ?_) (fun c_17 => ?_)
      · rw [pOf_at hR c_9, oL_some] at c_17
        refine go_iinc (q := 35) (v := 1) dX0_farFromFather_32 (by decide) rfl (by decide) rfl rfl ?_
        refine go_goto (q := 4) dX0_farFromFather_35 (by decide) ?_
        exact ih (j + 1) _ _ (by omega) (by rw [h0, cn_f (by simp [c_17])]) (nI_1 j) (by omega)
      · rw [pOf_at hR c_9, oL_some] at c_17
        refine go_aload_n (q := 21) dX0_farFromFather_20 rfl rfl rfl ?_
        refine go_iload_n (q := 22) dX0_farFromFather_21 rfl rfl rfl ?_
        refine go_cS2 (cal := mX3_placesFromFather) (q := 25) dX0_farFromFather_22 lRX0_53 vX3_placesFromFather ⟨by decide, by decide⟩ (Nat.le_of_ble_eq_true rfl) (ok_placesFF hi hR hW c_9) rfl ?_
        refine go_iconst (q := 26) (v := 1) dX0_farFromFather_25 (by decide) rfl ?_
        refine go_icmp_le (q := 29) (t := 32) dX0_farFromFather_26 (by decide) rfl (fun c_26 => ?_) (fun c_26 => ?_)
        · refine go_iinc (q := 35) (v := 1) dX0_farFromFather_32 (by decide) rfl (by decide) rfl rfl ?_
          refine go_goto (q := 4) dX0_farFromFather_35 (by decide) ?_
          exact ih (j + 1) _ _ (by omega) (by rw [h0, cn_f (by rw [k_pf1F c_26]; simp)]) (nI_1 j) (by omega)
        · refine go_iinc (q := 32) (v := 1) dX0_farFromFather_29 (by decide) rfl (by decide) rfl rfl ?_
          refine go_iinc (q := 35) (v := 1) dX0_farFromFather_32 (by decide) rfl (by decide) rfl rfl ?_
          refine go_goto (q := 4) dX0_farFromFather_35 (by decide) ?_
          exact ih (j + 1) _ _ (by omega) (by rw [h0, cn_t (by rw [c_17, k_pf1T c_26]; rfl), nI_1]) (nI_1 j) (by omega)
theorem ok_farFF {M : KM} {i : Nat} {R : RO} (hi : i < 8) (hR : RA M i R) (hW : rW R) : OkF mX0_farFromFather [vR 1 i] M (some (vI (nI (cn (fun i => rL R i && (match pF R i with | some k => decide (1 < k) | none => false)) (rN R))))) M := by
  refine ok_of (by decide) rfl (Nat.le_of_ble_eq_true rfl) ⟨rfl, rfl⟩ ?_
  show Go mX0_farFromFather (Zm (QF (some (vI (nI (cn (fun i => rL R i && (match pF R i with | some k => decide (1 < k) | none => false)) (rN R))))) M)) M [some (vR 1 i), none, none] [] 0
  refine go_iconst (q := 1) (v := 0) dX0_farFromFather_0 (by decide) rfl ?_
  refine go_istore_n (q := 2) dX0_farFromFather_1 rfl (by decide) rfl rfl ?_
  refine go_iconst (q := 3) (v := 0) dX0_farFromFather_2 (by decide) rfl ?_
  refine go_istore_n (q := 4) dX0_farFromFather_3 rfl (by decide) rfl rfl ?_
  exact lp_farFF hi hR hW (rN R + 1) 0 _ _ (by omega) rfl rfl (by omega)
theorem lp_sonless {M : KM} {i : Nat} {R : RO} (hi : i < 8) (hR : RA M i R) (hW : rW R) : ∀ (d : Nat) (j : Nat) (x y : Int32), rN R - j < d → (x = nI (cn (fun i => rL R i && sonsN R i == 0) j)) → (y = nI j) → (j ≤ rN R) → Go mX0_livingSonless (Zm (QF (some (vI (nI (cn (fun i => rL R i && sonsN R i == 0) (rN R))))) M)) M [some (vR 1 i), some (vI x), some (vI y)] [] 4 := by
  intro d
  induction d with
  | zero => intro j x y hd; exact absurd hd (Nat.not_lt_zero _)
  | succ d ih =>
    intro j x y hd h0 h1 h2
    refine go_iload_n (q := 5) dX0_livingSonless_4 rfl rfl rfl ?_
    refine go_aload_n (q := 6) dX0_livingSonless_5 rfl rfl rfl ?_
    refine go_cV0 (cal := mX6_size) (q := 9) dX0_livingSonless_6 lRX0_9 vX6_size ⟨by decide, by decide⟩ rfl hi (Nat.le_of_ble_eq_true rfl) (ok_size hi hR) rfl ?_
    refine go_icmp_geN j (rN R) (q := 12) (t := 37) dX0_livingSonless_9 (by decide) rfl h1 rfl (by have := hR.le; omega) (by have := hR.le; omega) (fun c_9 => ?_) (fun c_9 => ?_)
    · refine go_iload_n (q := 38) dX0_livingSonless_37 rfl rfl rfl ?_
      exact go_ri dX0_livingSonless_38 rfl (by rw [h0, show j = rN R by omega]) rfl
    · subst h1
      refine go_aload_n (q := 13) dX0_livingSonless_12 rfl rfl rfl ?_
      refine go_iload_n (q := 14) dX0_livingSonless_13 rfl rfl rfl ?_
      refine go_cV1 (cal := mX6_isAlive) (q := 17) dX0_livingSonless_14 lRX0_25 vX6_isAlive ⟨by decide, by decide⟩ rfl hi (Nat.le_of_ble_eq_true rfl) (ok_isAlive hi hR _) rfl ?_
      refine go_if_eqB (q := 20) (t := 31) dX0_livingSonless_17 (by decide) rfl (fun c_17 => ?_) (fun c_17 => ?_)
      · rw [pOf_at hR c_9, oL_some] at c_17
        refine go_iinc (q := 34) (v := 1) dX0_livingSonless_31 (by decide) rfl (by decide) rfl rfl ?_
        refine go_goto (q := 4) dX0_livingSonless_34 (by decide) ?_
        exact ih (j + 1) _ _ (by omega) (by rw [h0, cn_f (by simp [c_17])]) (nI_1 j) (by omega)
      · rw [pOf_at hR c_9, oL_some] at c_17
        refine go_aload_n (q := 21) dX0_livingSonless_20 rfl rfl rfl ?_
        refine go_iload_n (q := 22) dX0_livingSonless_21 rfl rfl rfl ?_
        refine go_cV1 (cal := mX6_sonsOf) (q := 25) dX0_livingSonless_22 lRX0_56 vX6_sonsOf ⟨by decide, by decide⟩ rfl hi (Nat.le_of_ble_eq_true rfl) (ok_sonsOf hi hR hW (by have := hR.lt c_9; omega)) rfl ?_
        refine go_if_ne (q := 28) (t := 31) dX0_livingSonless_25 (by decide) rfl (fun c_25 => ?_) (fun c_25 => ?_)
        · refine go_iinc (q := 34) (v := 1) dX0_livingSonless_31 (by decide) rfl (by decide) rfl rfl ?_
          refine go_goto (q := 4) dX0_livingSonless_34 (by decide) ?_
          exact ih (j + 1) _ _ (by omega) (by rw [h0, cn_f (by have h : ¬ sonsN R j = 0 := fun z => c_25 (by rw [z]; rfl); simp [h])]) (nI_1 j) (by omega)
        · refine go_iinc (q := 31) (v := 1) dX0_livingSonless_28 (by decide) rfl (by decide) rfl rfl ?_
          refine go_iinc (q := 34) (v := 1) dX0_livingSonless_31 (by decide) rfl (by decide) rfl rfl ?_
          refine go_goto (q := 4) dX0_livingSonless_34 (by decide) ?_
          exact ih (j + 1) _ _ (by omega) (by rw [h0, cn_t (by have h : sonsN R j = 0 := (nI_eq (by have := sonsN_le hW j; omega) (by decide)).mp (Classical.not_not.mp c_25); simp [c_17, h]), nI_1]) (nI_1 j) (by omega)
theorem ok_sonless {M : KM} {i : Nat} {R : RO} (hi : i < 8) (hR : RA M i R) (hW : rW R) : OkF mX0_livingSonless [vR 1 i] M (some (vI (nI (cn (fun i => rL R i && sonsN R i == 0) (rN R))))) M := by
  refine ok_of (by decide) rfl (Nat.le_of_ble_eq_true rfl) ⟨rfl, rfl⟩ ?_
  show Go mX0_livingSonless (Zm (QF (some (vI (nI (cn (fun i => rL R i && sonsN R i == 0) (rN R))))) M)) M [some (vR 1 i), none, none] [] 0
  refine go_iconst (q := 1) (v := 0) dX0_livingSonless_0 (by decide) rfl ?_
  refine go_istore_n (q := 2) dX0_livingSonless_1 rfl (by decide) rfl rfl ?_
  refine go_iconst (q := 3) (v := 0) dX0_livingSonless_2 (by decide) rfl ?_
  refine go_istore_n (q := 4) dX0_livingSonless_3 rfl (by decide) rfl rfl ?_
  exact lp_sonless hi hR hW (rN R + 1) 0 _ _ (by omega) rfl rfl (by omega)
theorem lp_withMark2 {M : KM} {i : Nat} {R : RO} (hi : i < 8) (hR : RA M i R) (hW : rW R) {k m : Nat} (hk : k < 6) (hm : m < 5) : ∀ (d : Nat) (j : Nat) (x y : Int32), rN R - j < d → (x = nI (cn (fun i => rL R i && mk (rS R i) k == m) j)) → (y = nI j) → (j ≤ rN R) → Go mX0_livingWithMark (Zm (QF (some (vI (nI (cn (fun i => rL R i && mk (rS R i) k == m) (rN R))))) M)) M [some (vR 1 i), some (vI (nI k)), some (vI (nI m)), some (vI x), some (vI y)] [] 5 := by
  intro d
  induction d with
  | zero => intro j x y hd; exact absurd hd (Nat.not_lt_zero _)
  | succ d ih =>
    intro j x y hd h0 h1 h2
    refine go_iload (q := 7) dX0_livingWithMark_5 rfl rfl ?_
    refine go_aload_n (q := 8) dX0_livingWithMark_7 rfl rfl rfl ?_
    refine go_cV0 (cal := mX6_size) (q := 11) dX0_livingWithMark_8 lRX0_9 vX6_size ⟨by decide, by decide⟩ rfl hi (Nat.le_of_ble_eq_true rfl) (ok_size hi hR) rfl ?_
    refine go_icmp_geN j (rN R) (q := 14) (t := 46) dX0_livingWithMark_11 (by decide) rfl h1 rfl (by have := hR.le; omega) (by have := hR.le; omega) (fun c_11 => ?_) (fun c_11 => ?_)
    · refine go_iload_n (q := 47) dX0_livingWithMark_46 rfl rfl rfl ?_
      exact go_ri dX0_livingWithMark_47 rfl (by rw [h0, show j = rN R by omega]) rfl
    · subst h1
      refine go_aload_n (q := 15) dX0_livingWithMark_14 rfl rfl rfl ?_
      refine go_iload (q := 17) dX0_livingWithMark_15 rfl rfl ?_
      refine go_cV1 (cal := mX6_isAlive) (q := 20) dX0_livingWithMark_17 lRX0_25 vX6_isAlive ⟨by decide, by decide⟩ rfl hi (Nat.le_of_ble_eq_true rfl) (ok_isAlive hi hR _) rfl ?_
      refine go_if_eqB (q := 23) (t := 40) dX0_livingWithMark_20 (by decide) rfl (fun c_20 => ?_) (fun c_20 => ?_)
      · rw [pOf_at hR c_11, oL_some] at c_20
        refine go_iinc (q := 43) (v := 1) dX0_livingWithMark_40 (by decide) rfl (by decide) rfl rfl ?_
        refine go_goto (q := 5) dX0_livingWithMark_43 (by decide) ?_
        exact ih (j + 1) _ _ (by omega) (by rw [h0, cn_f (by simp [c_20])]) (nI_1 j) (by omega)
      · rw [pOf_at hR c_11, oL_some] at c_20
        refine go_aload_n (q := 24) dX0_livingWithMark_23 rfl rfl rfl ?_
        refine go_iload (q := 26) dX0_livingWithMark_24 rfl rfl ?_
        refine go_cV1 (cal := mX6_shieldOf) (q := 29) dX0_livingWithMark_26 lRX0_29 vX6_shieldOf ⟨by decide, by decide⟩ rfl hi (Nat.le_of_ble_eq_true rfl) (ok_shieldOf hi hR _) rfl ?_
        rw [pOf_at hR c_11, oS_some]
        refine go_iload_n (q := 30) dX0_livingWithMark_29 rfl rfl rfl ?_
        refine go_cS2 (cal := mX8_markAt) (q := 33) dX0_livingWithMark_30 lRX0_59 vX8_markAt ⟨by decide, by decide⟩ (Nat.le_of_ble_eq_true rfl) (ok_markAt (by have := hW.2.1 j c_11; omega) hk) rfl ?_
        refine go_iload_n (q := 34) dX0_livingWithMark_33 rfl rfl rfl ?_
        refine go_icmp_neN (mk (rS R j) k) m (q := 37) (t := 40) dX0_livingWithMark_34 (by decide) rfl rfl rfl (by have := mk_lt (rS R j) k; omega) (by omega) (fun c_34 => ?_) (fun c_34 => ?_)
        · refine go_iinc (q := 43) (v := 1) dX0_livingWithMark_40 (by decide) rfl (by decide) rfl rfl ?_
          refine go_goto (q := 5) dX0_livingWithMark_43 (by decide) ?_
          exact ih (j + 1) _ _ (by omega) (by rw [h0, cn_f (by simp [c_34])]) (nI_1 j) (by omega)
        · refine go_iinc (q := 40) (v := 1) dX0_livingWithMark_37 (by decide) rfl (by decide) rfl rfl ?_
          refine go_iinc (q := 43) (v := 1) dX0_livingWithMark_40 (by decide) rfl (by decide) rfl rfl ?_
          refine go_goto (q := 5) dX0_livingWithMark_43 (by decide) ?_
          exact ih (j + 1) _ _ (by omega) (by rw [h0, cn_t (by simp [c_20, c_34]), nI_1]) (nI_1 j) (by omega)
theorem ok_withMark2 {M : KM} {i : Nat} {R : RO} (hi : i < 8) (hR : RA M i R) (hW : rW R) {k m : Nat} (hk : k < 6) (hm : m < 5) : OkF mX0_livingWithMark [vR 1 i, vI (nI k), vI (nI m)] M (some (vI (nI (cn (fun i => rL R i && mk (rS R i) k == m) (rN R))))) M := by
  refine ok_of (by decide) rfl (Nat.le_of_ble_eq_true rfl) ⟨rfl, rfl⟩ ?_
  show Go mX0_livingWithMark (Zm (QF (some (vI (nI (cn (fun i => rL R i && mk (rS R i) k == m) (rN R))))) M)) M [some (vR 1 i), some (vI (nI k)), some (vI (nI m)), none, none] [] 0
  refine go_iconst (q := 1) (v := 0) dX0_livingWithMark_0 (by decide) rfl ?_
  refine go_istore_n (q := 2) dX0_livingWithMark_1 rfl (by decide) rfl rfl ?_
  refine go_iconst (q := 3) (v := 0) dX0_livingWithMark_2 (by decide) rfl ?_
  refine go_istore (q := 5) dX0_livingWithMark_3 (by decide) rfl rfl ?_
  exact lp_withMark2 hi hR hW hk hm (rN R + 1) 0 _ _ (by omega) rfl rfl (by omega)
def newS (R : RO) (p : Nat) : Bool := !(ex (fun j => rS R j == rS R p) p)
theorem lp_isFirst {M : KM} {i : Nat} {R : RO} (hi : i < 8) (hR : RA M i R) (hW : rW R) {p : Nat} (hp : p < rN R) : ∀ (d : Nat) (j : Nat) (y : Int32), p - j < d → (∀ a, a < j → (rS R a == rS R p) = false) → (y = nI j) → (j ≤ p) → Go mX0_isFirstWithItsShield (Zm (QF (some (vI (bI (newS R p)))) M)) M [some (vR 1 i), some (vI (nI p)), some (vI y)] [] 2 := by
  intro d
  induction d with
  | zero => intro j y hd; exact absurd hd (Nat.not_lt_zero _)
  | succ d ih =>
    intro j y hd h0 h1 h2
    refine go_iload_n (q := 3) dX0_isFirstWithItsShield_2 rfl rfl rfl ?_
    refine go_iload_n (q := 4) dX0_isFirstWithItsShield_3 rfl rfl rfl ?_
    refine go_icmp_geN j p (q := 7) (t := 28) dX0_isFirstWithItsShield_4 (by decide) rfl h1 rfl (by have := hR.lt hp; omega) (by have := hR.lt hp; omega) (fun c_4 => ?_) (fun c_4 => ?_)
    · refine go_iconst (q := 29) (v := 1) dX0_isFirstWithItsShield_28 (by decide) rfl ?_
      exact go_rz dX0_isFirstWithItsShield_29 rfl (by rw [show newS R p = true from by unfold newS; rw [ex_f (fun a ha => h0 a (by omega))]; rfl]; rfl) rfl
    · subst h1
      have hjn : j < rN R := by omega
      refine go_aload_n (q := 8) dX0_isFirstWithItsShield_7 rfl rfl rfl ?_
      refine go_iload_n (q := 9) dX0_isFirstWithItsShield_8 rfl rfl rfl ?_
      refine go_cV1 (cal := mX6_shieldOf) (q := 12) dX0_isFirstWithItsShield_9 lRX0_29 vX6_shieldOf ⟨by decide, by decide⟩ rfl hi (Nat.le_of_ble_eq_true rfl) (ok_shieldOf hi hR _) rfl ?_
      rw [pOf_at hR hjn, oS_some]
      refine go_aload_n (q := 13) dX0_isFirstWithItsShield_12 rfl rfl rfl ?_
      refine go_iload_n (q := 14) dX0_isFirstWithItsShield_13 rfl rfl rfl ?_
      refine go_cV1 (cal := mX6_shieldOf) (q := 17) dX0_isFirstWithItsShield_14 lRX0_29 vX6_shieldOf ⟨by decide, by decide⟩ rfl hi (Nat.le_of_ble_eq_true rfl) (ok_shieldOf hi hR _) rfl ?_
      rw [pOf_at hR hp, oS_some]
      refine go_icmp_neN (rS R j) (rS R p) (q := 20) (t := 22) dX0_isFirstWithItsShield_17 (by decide) rfl rfl rfl (by have := hW.2.1 j hjn; omega) (by have := hW.2.1 p hp; omega) (fun c_17 => ?_) (fun c_17 => ?_)
      · refine go_iinc (q := 25) (v := 1) dX0_isFirstWithItsShield_22 (by decide) rfl (by decide) rfl rfl ?_
        refine go_goto (q := 2) dX0_isFirstWithItsShield_25 (by decide) ?_
        exact ih (j + 1) _ (by omega) (fun a ha => by
          by_cases hj : a = j
          · subst hj; simpa using c_17
          · exact h0 a (by omega)) (nI_1 j) (by omega)
      · refine go_iconst (q := 21) (v := 0) dX0_isFirstWithItsShield_20 (by decide) rfl ?_
        exact go_rz dX0_isFirstWithItsShield_21 rfl (by rw [show newS R p = false from by unfold newS; rw [ex_t c_4 (by simpa using c_17)]; rfl]; rfl) rfl
theorem ok_isFirst {M : KM} {i : Nat} {R : RO} (hi : i < 8) (hR : RA M i R) (hW : rW R) {p : Nat} (hp : p < rN R) : OkF mX0_isFirstWithItsShield [vR 1 i, vI (nI p)] M (some (vI (bI (newS R p)))) M := by
  refine ok_of (by decide) rfl (Nat.le_of_ble_eq_true rfl) ⟨rfl, rfl⟩ ?_
  show Go mX0_isFirstWithItsShield (Zm (QF (some (vI (bI (newS R p)))) M)) M [some (vR 1 i), some (vI (nI p)), none] [] 0
  refine go_iconst (q := 1) (v := 0) dX0_isFirstWithItsShield_0 (by decide) rfl ?_
  refine go_istore_n (q := 2) dX0_isFirstWithItsShield_1 rfl (by decide) rfl rfl ?_
  exact lp_isFirst hi hR hW hp (p + 1) 0 _ (by omega) (fun a ha => absurd ha (Nat.not_lt_zero _)) rfl (by omega)
theorem lp_diffShields {M : KM} {i : Nat} {R : RO} (hi : i < 8) (hR : RA M i R) (hW : rW R) : ∀ (d : Nat) (j : Nat) (x y : Int32), rN R - j < d → (x = nI (cn (newS R) j)) → (y = nI j) → (j ≤ rN R) → Go mX0_differentShields (Zm (QF (some (vI (nI (cn (newS R) (rN R))))) M)) M [some (vR 1 i), some (vI x), some (vI y)] [] 4 := by
  intro d
  induction d with
  | zero => intro j x y hd; exact absurd hd (Nat.not_lt_zero _)
  | succ d ih =>
    intro j x y hd h0 h1 h2
    refine go_iload_n (q := 5) dX0_differentShields_4 rfl rfl rfl ?_
    refine go_aload_n (q := 6) dX0_differentShields_5 rfl rfl rfl ?_
    refine go_cV0 (cal := mX6_size) (q := 9) dX0_differentShields_6 lRX0_9 vX6_size ⟨by decide, by decide⟩ rfl hi (Nat.le_of_ble_eq_true rfl) (ok_size hi hR) rfl ?_
    refine go_icmp_geN j (rN R) (q := 12) (t := 29) dX0_differentShields_9 (by decide) rfl h1 rfl (by have := hR.le; omega) (by have := hR.le; omega) (fun c_9 => ?_) (fun c_9 => ?_)
    · refine go_iload_n (q := 30) dX0_differentShields_29 rfl rfl rfl ?_
      exact go_ri dX0_differentShields_30 rfl (by rw [h0, show j = rN R by omega]) rfl
    · subst h1
      refine go_aload_n (q := 13) dX0_differentShields_12 rfl rfl rfl ?_
      refine go_iload_n (q := 14) dX0_differentShields_13 rfl rfl rfl ?_
      refine go_cS2 (cal := mX0_isFirstWithItsShield) (q := 17) dX0_differentShields_14 lRX0_49 vX0_isFirstWithItsShield ⟨by decide, by decide⟩ (Nat.le_of_ble_eq_true rfl) (ok_isFirst hi hR hW c_9) rfl ?_
      refine go_if_eqB (q := 20) (t := 23) dX0_differentShields_17 (by decide) rfl (fun c_17 => ?_) (fun c_17 => ?_)
      · refine go_iinc (q := 26) (v := 1) dX0_differentShields_23 (by decide) rfl (by decide) rfl rfl ?_
        refine go_goto (q := 4) dX0_differentShields_26 (by decide) ?_
        exact ih (j + 1) _ _ (by omega) (by rw [h0, cn_f (by exact c_17)]) (nI_1 j) (by omega)
      · refine go_iinc (q := 23) (v := 1) dX0_differentShields_20 (by decide) rfl (by decide) rfl rfl ?_
        refine go_iinc (q := 26) (v := 1) dX0_differentShields_23 (by decide) rfl (by decide) rfl rfl ?_
        refine go_goto (q := 4) dX0_differentShields_26 (by decide) ?_
        exact ih (j + 1) _ _ (by omega) (by rw [h0, cn_t (by exact c_17), nI_1]) (nI_1 j) (by omega)
theorem ok_diffShields {M : KM} {i : Nat} {R : RO} (hi : i < 8) (hR : RA M i R) (hW : rW R) : OkF mX0_differentShields [vR 1 i] M (some (vI (nI (cn (newS R) (rN R))))) M := by
  refine ok_of (by decide) rfl (Nat.le_of_ble_eq_true rfl) ⟨rfl, rfl⟩ ?_
  show Go mX0_differentShields (Zm (QF (some (vI (nI (cn (newS R) (rN R))))) M)) M [some (vR 1 i), none, none] [] 0
  refine go_iconst (q := 1) (v := 0) dX0_differentShields_0 (by decide) rfl ?_
  refine go_istore_n (q := 2) dX0_differentShields_1 rfl (by decide) rfl rfl ?_
  refine go_iconst (q := 3) (v := 0) dX0_differentShields_2 (by decide) rfl ?_
  refine go_istore_n (q := 4) dX0_differentShields_3 rfl (by decide) rfl rfl ?_
  exact lp_diffShields hi hR hW (rN R + 1) 0 _ _ (by omega) rfl rfl (by omega)
def mx (F : Nat → Nat) : Nat → Nat
  | 0 => 0
  | n + 1 => if mx F n < F n then F n else mx F n
theorem mx_le {F : Nat → Nat} {b : Nat} : ∀ {n : Nat}, (∀ i, i < n → F i ≤ b) → mx F n ≤ b
  | 0, _ => Nat.zero_le _
  | n + 1, h => by
    unfold mx
    split
    · exact h n (by omega)
    · exact mx_le (fun i hi => h i (by omega))
def sm (F : Nat → Nat) : Nat → Nat
  | 0 => 0
  | n + 1 => sm F n + F n
theorem k_maxN {a b : Nat} (ha : a < 2 ^ 31) (hb : b < 2 ^ 31) : (if nI a < nI b then nI b else nI a) = nI (if a < b then b else a) := by
  by_cases h : a < b
  · rw [if_pos h, if_pos ((nI_ltI ha hb).mpr h)]
  · rw [if_neg h, if_neg (fun z => h ((nI_ltI ha hb).mp z))]
theorem k_minN {a b : Nat} (ha : a < 2 ^ 31) (hb : b < 2 ^ 31) : (if nI b < nI a then nI b else nI a) = nI (if b < a then b else a) := by
  by_cases h : b < a
  · rw [if_pos h, if_pos ((nI_ltI hb ha).mpr h)]
  · rw [if_neg h, if_neg (fun z => h ((nI_ltI hb ha).mp z))]
theorem depth_lt {R : RO} (hW : rW R) {p : Nat} (hp : p < rN R) : depth R p < 20 := by
  have := depth_le hW (p + 1) p (by omega) hp
  have := hW.1
  omega
theorem lp_mostSteps {M : KM} {i : Nat} {R : RO} (hi : i < 8) (hR : RA M i R) (hW : rW R) : ∀ (d : Nat) (j : Nat) (x y : Int32), rN R - j < d → (x = nI (mx (depth R) j)) → (y = nI j) → (j ≤ rN R) → Go mX0_mostStepsFromFounder (Zm (QF (some (vI (nI (mx (depth R) (rN R))))) M)) M [some (vR 1 i), some (vI x), some (vI y)] [] 4 := by
  intro d
  induction d with
  | zero => intro j x y hd; exact absurd hd (Nat.not_lt_zero _)
  | succ d ih =>
    intro j x y hd h0 h1 h2
    refine go_iload_n (q := 5) dX0_mostStepsFromFounder_4 rfl rfl rfl ?_
    refine go_aload_n (q := 6) dX0_mostStepsFromFounder_5 rfl rfl rfl ?_
    refine go_cV0 (cal := mX6_size) (q := 9) dX0_mostStepsFromFounder_6 lRX0_9 vX6_size ⟨by decide, by decide⟩ rfl hi (Nat.le_of_ble_eq_true rfl) (ok_size hi hR) rfl ?_
    refine go_icmp_geN j (rN R) (q := 12) (t := 28) dX0_mostStepsFromFounder_9 (by decide) rfl h1 rfl (by have := hR.le; omega) (by have := hR.le; omega) (fun c_9 => ?_) (fun c_9 => ?_)
    · refine go_iload_n (q := 29) dX0_mostStepsFromFounder_28 rfl rfl rfl ?_
      exact go_ri dX0_mostStepsFromFounder_29 rfl (by rw [h0, show j = rN R by omega]) rfl
    · subst h1
      refine go_iload_n (q := 13) dX0_mostStepsFromFounder_12 rfl rfl rfl ?_
      refine go_aload_n (q := 14) dX0_mostStepsFromFounder_13 rfl rfl rfl ?_
      refine go_iload_n (q := 15) dX0_mostStepsFromFounder_14 rfl rfl rfl ?_
      refine go_cS2 (cal := mX3_stepsFromFounder) (q := 18) dX0_mostStepsFromFounder_15 lRX0_38 vX3_stepsFromFounder ⟨by decide, by decide⟩ (Nat.le_of_ble_eq_true rfl) (ok_stepsFF hi hR hW c_9) rfl ?_
      refine go_mmax (q := 21) dX0_mostStepsFromFounder_18 lRX0_44 lM_max.1 lM_max.2.1 lM_max.2.2 ⟨by decide, by decide⟩ (Nat.le_of_ble_eq_true rfl) rfl ?_
      refine go_topi (v := nI (mx (depth R) (j + 1))) (by rw [h0, k_maxN (by have := mx_le (F := depth R) (b := 20) (n := j) (fun i hi => by have := depth_lt hW (show i < rN R by omega); omega); omega) (by have := depth_lt hW c_9; omega)]; rfl) ?_
      refine go_istore_n (q := 22) dX0_mostStepsFromFounder_21 rfl (by decide) rfl rfl ?_
      refine go_iinc (q := 25) (v := 1) dX0_mostStepsFromFounder_22 (by decide) rfl (by decide) rfl rfl ?_
      refine go_goto (q := 4) dX0_mostStepsFromFounder_25 (by decide) ?_
      exact ih (j + 1) _ _ (by omega) rfl (nI_1 j) (by omega)
theorem ok_mostSteps {M : KM} {i : Nat} {R : RO} (hi : i < 8) (hR : RA M i R) (hW : rW R) : OkF mX0_mostStepsFromFounder [vR 1 i] M (some (vI (nI (mx (depth R) (rN R))))) M := by
  refine ok_of (by decide) rfl (Nat.le_of_ble_eq_true rfl) ⟨rfl, rfl⟩ ?_
  show Go mX0_mostStepsFromFounder (Zm (QF (some (vI (nI (mx (depth R) (rN R))))) M)) M [some (vR 1 i), none, none] [] 0
  refine go_iconst (q := 1) (v := 0) dX0_mostStepsFromFounder_0 (by decide) rfl ?_
  refine go_istore_n (q := 2) dX0_mostStepsFromFounder_1 rfl (by decide) rfl rfl ?_
  refine go_iconst (q := 3) (v := 0) dX0_mostStepsFromFounder_2 (by decide) rfl ?_
  refine go_istore_n (q := 4) dX0_mostStepsFromFounder_3 rfl (by decide) rfl rfl ?_
  exact lp_mostSteps hi hR hW (rN R + 1) 0 _ _ (by omega) rfl rfl (by omega)
/-- confused: both live, shields differ in one place, neither is the other's father -/
def conf (R : RO) (a b : Nat) : Bool := rL R a && (rL R b && (!(rP R a == some b || rP R b == some a) && ap (rS R a) (rS R b) == 1))
theorem ok_areConfused {M : KM} {i : Nat} {R : RO} (hi : i < 8) (hR : RA M i R) (hW : rW R) {a b : Nat} (ha : a < rN R) (hb : b < rN R) : OkF mX0_areConfused [vR 1 i, vI (nI a), vI (nI b)] M (some (vI (bI (conf R a b)))) M := by
  refine ok_of (by decide) rfl (Nat.le_of_ble_eq_true rfl) ⟨rfl, rfl⟩ ?_
  show Go mX0_areConfused (Zm (QF (some (vI (bI (conf R a b)))) M)) M [some (vR 1 i), some (vI (nI a)), some (vI (nI b))] [] 0
  refine go_aload_n (q := 1) dX0_areConfused_0 rfl rfl rfl ?_
  refine go_iload_n (q := 2) dX0_areConfused_1 rfl rfl rfl ?_
  refine go_cV1 (cal := mX6_isAlive) (q := 5) dX0_areConfused_2 lRX0_25 vX6_isAlive ⟨by decide, by decide⟩ rfl hi (Nat.le_of_ble_eq_true rfl) (ok_isAlive hi hR _) rfl ?_
  refine go_if_eqB (q := 8) (t := 55) dX0_areConfused_5 (by decide) rfl (fun c_5 => ?_) (fun c_5 => ?_)
  · rw [pOf_at hR ha, oL_some] at c_5
    refine go_iconst (q := 56) (v := 0) dX0_areConfused_55 (by decide) rfl ?_
    exact go_rz dX0_areConfused_56 rfl (by rw [show conf R a b = false from by simp [conf, c_5]]; rfl) rfl
  · rw [pOf_at hR ha, oL_some] at c_5
    refine go_aload_n (q := 9) dX0_areConfused_8 rfl rfl rfl ?_
    refine go_iload_n (q := 10) dX0_areConfused_9 rfl rfl rfl ?_
    refine go_cV1 (cal := mX6_isAlive) (q := 13) dX0_areConfused_10 lRX0_25 vX6_isAlive ⟨by decide, by decide⟩ rfl hi (Nat.le_of_ble_eq_true rfl) (ok_isAlive hi hR _) rfl ?_
    refine go_if_eqB (q := 16) (t := 55) dX0_areConfused_13 (by decide) rfl (fun c_13 => ?_) (fun c_13 => ?_)
    · rw [pOf_at hR hb, oL_some] at c_13
      refine go_iconst (q := 56) (v := 0) dX0_areConfused_55 (by decide) rfl ?_
      exact go_rz dX0_areConfused_56 rfl (by rw [show conf R a b = false from by simp [conf, c_13]]; rfl) rfl
    · rw [pOf_at hR hb, oL_some] at c_13
      refine go_aload_n (q := 17) dX0_areConfused_16 rfl rfl rfl ?_
      refine go_iload_n (q := 18) dX0_areConfused_17 rfl rfl rfl ?_
      refine go_cV1 (cal := mX6_fatherOf) (q := 21) dX0_areConfused_18 lRX0_15 vX6_fatherOf ⟨by decide, by decide⟩ rfl hi (Nat.le_of_ble_eq_true rfl) (ok_fatherOf hi hR _) rfl ?_
      rw [pOf_at hR ha, oP_some]
      refine go_iload_n (q := 22) dX0_areConfused_21 rfl rfl rfl ?_
      refine go_icmp_eq (q := 25) (t := 55) dX0_areConfused_22 (by decide) rfl (fun c_22 => ?_) (fun c_22 => ?_)
      · refine go_iconst (q := 56) (v := 0) dX0_areConfused_55 (by decide) rfl ?_
        exact go_rz dX0_areConfused_56 rfl (by rw [show conf R a b = false from by simp [conf, (e1_nI (rP_big hW ha) (by have := hR.lt hb; omega)).mp c_22]]; rfl) rfl
      · refine go_aload_n (q := 26) dX0_areConfused_25 rfl rfl rfl ?_
        refine go_iload_n (q := 27) dX0_areConfused_26 rfl rfl rfl ?_
        refine go_cV1 (cal := mX6_fatherOf) (q := 30) dX0_areConfused_27 lRX0_15 vX6_fatherOf ⟨by decide, by decide⟩ rfl hi (Nat.le_of_ble_eq_true rfl) (ok_fatherOf hi hR _) rfl ?_
        rw [pOf_at hR hb, oP_some]
        refine go_iload_n (q := 31) dX0_areConfused_30 rfl rfl rfl ?_
        refine go_icmp_eq (q := 34) (t := 55) dX0_areConfused_31 (by decide) rfl (fun c_31 => ?_) (fun c_31 => ?_)
        · refine go_iconst (q := 56) (v := 0) dX0_areConfused_55 (by decide) rfl ?_
          exact go_rz dX0_areConfused_56 rfl (by rw [show conf R a b = false from by simp [conf, (e1_nI (rP_big hW hb) (by have := hR.lt ha; omega)).mp c_31]]; rfl) rfl
        · refine go_aload_n (q := 35) dX0_areConfused_34 rfl rfl rfl ?_
          refine go_iload_n (q := 36) dX0_areConfused_35 rfl rfl rfl ?_
          refine go_cV1 (cal := mX6_shieldOf) (q := 39) dX0_areConfused_36 lRX0_29 vX6_shieldOf ⟨by decide, by decide⟩ rfl hi (Nat.le_of_ble_eq_true rfl) (ok_shieldOf hi hR _) rfl ?_
          rw [pOf_at hR ha, oS_some]
          refine go_aload_n (q := 40) dX0_areConfused_39 rfl rfl rfl ?_
          refine go_iload_n (q := 41) dX0_areConfused_40 rfl rfl rfl ?_
          refine go_cV1 (cal := mX6_shieldOf) (q := 44) dX0_areConfused_41 lRX0_29 vX6_shieldOf ⟨by decide, by decide⟩ rfl hi (Nat.le_of_ble_eq_true rfl) (ok_shieldOf hi hR _) rfl ?_
          rw [pOf_at hR hb, oS_some]
          refine go_cS2 (cal := mX8_apart) (q := 47) dX0_areConfused_44 lRX0_32 vX8_apart ⟨by decide, by decide⟩ (Nat.le_of_ble_eq_true rfl) (ok_apart (by have := hW.2.1 a ha; omega) (by have := hW.2.1 b hb; omega)) rfl ?_
          refine go_iconst (q := 48) (v := 1) dX0_areConfused_47 (by decide) rfl ?_
          refine go_icmp_neN (ap (rS R a) (rS R b)) 1 (q := 51) (t := 55) dX0_areConfused_48 (by decide) rfl rfl rfl (by have := ap_le (rS R a) (rS R b); omega) (by omega) (fun c_48 => ?_) (fun c_48 => ?_)
          · refine go_iconst (q := 56) (v := 0) dX0_areConfused_55 (by decide) rfl ?_
            exact go_rz dX0_areConfused_56 rfl (by rw [show conf R a b = false from by simp [conf, c_48]]; rfl) rfl
          · refine go_iconst (q := 52) (v := 1) dX0_areConfused_51 (by decide) rfl ?_
            refine go_goto (q := 56) dX0_areConfused_52 (by decide) ?_
            exact go_rz dX0_areConfused_56 rfl (by have n1 : ¬ rP R a = some b := fun z => c_22 ((e1_nI (rP_big hW ha) (by have := hR.lt hb; omega)).mpr z); have n2 : ¬ rP R b = some a := fun z => c_31 ((e1_nI (rP_big hW hb) (by have := hR.lt ha; omega)).mpr z); rw [show conf R a b = true from by simp [conf, c_5, c_13, n1, n2, c_48]]; rfl) rfl
/-- over the pairs a < j: row a up to n, all rows before a -/
def prow (F : Nat → Nat → Nat) (a n : Nat) : Nat := sm (fun j => if a < j then F a j else 0) n
def psum (F : Nat → Nat → Nat) (n a : Nat) : Nat := sm (fun a => prow F a n) a
theorem sm_0 {F : Nat → Nat} : ∀ {n : Nat}, (∀ i, i < n → F i = 0) → sm F n = 0
  | 0, _ => rfl
  | n + 1, h => by
    show sm F n + F n = 0
    rw [sm_0 (fun i hi => h i (by omega)), h n (by omega)]
theorem prow_0 {F : Nat → Nat → Nat} {a n : Nat} (h : n ≤ a + 1) : prow F a n = 0 := sm_0 (fun i hi => if_neg (by omega))
theorem prow_s {F : Nat → Nat → Nat} {a n : Nat} (h : a < n) : prow F a (n + 1) = prow F a n + F a n := by
  show sm _ n + (if a < n then F a n else 0) = _
  rw [if_pos h]; rfl
theorem psum_s {F : Nat → Nat → Nat} {n a : Nat} : psum F n (a + 1) = psum F n a + prow F a n := rfl
def bN (b : Bool) : Nat := if b then 1 else 0
def confN (R : RO) : Nat := psum (fun a b => bN (conf R a b)) (rN R) (rN R)
theorem lp_confIn {M : KM} {i : Nat} {R : RO} (hi : i < 8) (hR : RA M i R) (hW : rW R) {a : Nat} (ha : a < rN R) (hout : ∀ (x : Int32), x = nI (psum (fun a b => bN (conf R a b)) (rN R) (a + 1)) → Go mX0_confusedPairs (Zm (QF (some (vI (nI (confN R)))) M)) M [some (vR 1 i), some (vI x), some (vI (nI (a + 1))), none] [] 4) : ∀ (d : Nat) (j : Nat) (x y : Int32), rN R - j < d → (x = nI (psum (fun a b => bN (conf R a b)) (rN R) a + prow (fun a b => bN (conf R a b)) a j)) → (y = nI j) → (a < j) → (j ≤ rN R) → Go mX0_confusedPairs (Zm (QF (some (vI (nI (confN R)))) M)) M [some (vR 1 i), some (vI x), some (vI (nI a)), some (vI y)] [] 16 := by
  intro d
  induction d with
  | zero => intro j x y hd; exact absurd hd (Nat.not_lt_zero _)
  | succ d ih =>
    intro j x y hd h0 h1 h2 h3
    refine go_iload_n (q := 17) dX0_confusedPairs_16 rfl rfl rfl ?_
    refine go_aload_n (q := 18) dX0_confusedPairs_17 rfl rfl rfl ?_
    refine go_cV0 (cal := mX6_size) (q := 21) dX0_confusedPairs_18 lRX0_9 vX6_size ⟨by decide, by decide⟩ rfl hi (Nat.le_of_ble_eq_true rfl) (ok_size hi hR) rfl ?_
    refine go_icmp_geN j (rN R) (q := 24) (t := 42) dX0_confusedPairs_21 (by decide) rfl h1 rfl (by have := hR.le; omega) (by have := hR.le; omega) (fun c_21 => ?_) (fun c_21 => ?_)
    · refine go_iinc (q := 45) (v := 1) dX0_confusedPairs_42 (by decide) rfl (by decide) rfl rfl ?_
      refine go_goto (q := 4) dX0_confusedPairs_45 (by decide) ?_
      refine go_weak (l1 := [some (vR 1 i), some (vI x), some (vI (nI (a + 1))), none]) (by rw [← nI_1]; exact k_le_s (k_le_s (k_le_s (k_le_n k_le_nil)))) (hout x (by rw [h0, psum_s, show j = rN R by omega]))
    · subst h1
      refine go_aload_n (q := 25) dX0_confusedPairs_24 rfl rfl rfl ?_
      refine go_iload_n (q := 26) dX0_confusedPairs_25 rfl rfl rfl ?_
      refine go_iload_n (q := 27) dX0_confusedPairs_26 rfl rfl rfl ?_
      refine go_cS3 (cal := mX0_areConfused) (q := 30) dX0_confusedPairs_27 lRX0_19 vX0_areConfused ⟨by decide, by decide⟩ (Nat.le_of_ble_eq_true rfl) (ok_areConfused hi hR hW ha c_21) rfl ?_
      refine go_if_eqB (q := 33) (t := 36) dX0_confusedPairs_30 (by decide) rfl (fun c_30 => ?_) (fun c_30 => ?_)
      · refine go_iinc (q := 39) (v := 1) dX0_confusedPairs_36 (by decide) rfl (by decide) rfl rfl ?_
        refine go_goto (q := 16) dX0_confusedPairs_39 (by decide) ?_
        exact ih (j + 1) _ _ (by omega) (by rw [h0, prow_s h2, c_30]; rfl) (nI_1 j) (by omega) (by omega)
      · refine go_iinc (q := 36) (v := 1) dX0_confusedPairs_33 (by decide) rfl (by decide) rfl rfl ?_
        refine go_iinc (q := 39) (v := 1) dX0_confusedPairs_36 (by decide) rfl (by decide) rfl rfl ?_
        refine go_goto (q := 16) dX0_confusedPairs_39 (by decide) ?_
        exact ih (j + 1) _ _ (by omega) (by rw [h0, prow_s h2, c_30]; exact nI_1 _) (nI_1 j) (by omega) (by omega)
theorem lp_conf {M : KM} {i : Nat} {R : RO} (hi : i < 8) (hR : RA M i R) (hW : rW R) : ∀ (d : Nat) (a : Nat) (x y : Int32), rN R - a < d → (x = nI (psum (fun a b => bN (conf R a b)) (rN R) a)) → (y = nI a) → (a ≤ rN R) → Go mX0_confusedPairs (Zm (QF (some (vI (nI (confN R)))) M)) M [some (vR 1 i), some (vI x), some (vI y), none] [] 4 := by
  intro d
  induction d with
  | zero => intro a x y hd; exact absurd hd (Nat.not_lt_zero _)
  | succ d ih =>
    intro a x y hd h0 h1 h2
    refine go_iload_n (q := 5) dX0_confusedPairs_4 rfl rfl rfl ?_
    refine go_aload_n (q := 6) dX0_confusedPairs_5 rfl rfl rfl ?_
    refine go_cV0 (cal := mX6_size) (q := 9) dX0_confusedPairs_6 lRX0_9 vX6_size ⟨by decide, by decide⟩ rfl hi (Nat.le_of_ble_eq_true rfl) (ok_size hi hR) rfl ?_
    refine go_icmp_geN a (rN R) (q := 12) (t := 48) dX0_confusedPairs_9 (by decide) rfl h1 rfl (by have := hR.le; omega) (by have := hR.le; omega) (fun c_9 => ?_) (fun c_9 => ?_)
    · refine go_iload_n (q := 49) dX0_confusedPairs_48 rfl rfl rfl ?_
      exact go_ri dX0_confusedPairs_49 rfl (by rw [h0, show a = rN R by omega]; rfl) rfl
    · subst h1
      refine go_iload_n (q := 13) dX0_confusedPairs_12 rfl rfl rfl ?_
      refine go_iconst (q := 14) (v := 1) dX0_confusedPairs_13 (by decide) rfl ?_
      refine go_iadd (q := 15) dX0_confusedPairs_14 rfl ?_
      refine go_topi (nI_1 a) ?_
      refine go_istore_n (q := 16) dX0_confusedPairs_15 rfl (by decide) rfl rfl ?_
      exact lp_confIn hi hR hW c_9 (fun x hx => ih (a + 1) x _ (by omega) hx rfl (by omega)) (rN R + 1) (a + 1) _ _ (by omega) (by rw [h0, prow_0 (Nat.le_refl _)]; rfl) rfl (by omega) (by omega)
theorem ok_confusedPairs {M : KM} {i : Nat} {R : RO} (hi : i < 8) (hR : RA M i R) (hW : rW R) : OkF mX0_confusedPairs [vR 1 i] M (some (vI (nI (confN R)))) M := by
  refine ok_of (by decide) rfl (Nat.le_of_ble_eq_true rfl) ⟨rfl, rfl⟩ ?_
  show Go mX0_confusedPairs (Zm (QF (some (vI (nI (confN R)))) M)) M [some (vR 1 i), none, none, none] [] 0
  refine go_iconst (q := 1) (v := 0) dX0_confusedPairs_0 (by decide) rfl ?_
  refine go_istore_n (q := 2) dX0_confusedPairs_1 rfl (by decide) rfl rfl ?_
  refine go_iconst (q := 3) (v := 0) dX0_confusedPairs_2 (by decide) rfl ?_
  refine go_istore_n (q := 4) dX0_confusedPairs_3 rfl (by decide) rfl rfl ?_
  exact lp_conf hi hR hW (rN R + 1) 0 _ _ (by omega) rfl rfl (by omega)
theorem k_ddiv {a b : Int32} (hb : ¬ b = 0) : vf_n64 (FP.ddiv (FP.i2d a) (FP.i2d b)) := by
  have hfa : FP.Core.dIsNaN (FP.i2d a) = false := by
    rw [← Bool.not_eq_true]
    intro z
    have h1 := (FP.Core.isNaN_bits _).mp z
    have h2 := (FP.Core.fin_bits _).mp (FP.Core.i2d_fin a)
    exact absurd h1 (Nat.not_lt.mpr (Nat.le_of_lt h2))
  have hz : ¬ FP.Core.DZero (FP.i2d b) := fun z => FP.Core.i2d_ne_zero hb ((FP.Core.zero_bits2 _).mp z)
  have h := FP.Core.ddiv_out hfa (FP.Core.i2d_fin b) hz
  unfold vf_n64
  rw [UInt64.le_iff_toNat_le, FP.Core.mask_toNat]
  have h1 : ¬ 9218868437227405312 < (FP.ddiv (FP.i2d a) (FP.i2d b)).toNat % 2 ^ 63 := fun z => by
    have := (FP.Core.isNaN_bits _).mpr z
    rw [h] at this; cases this
  exact Nat.not_lt.mp h1
def bothL (R : RO) (a b : Nat) : Bool := rL R a && rL R b
def apN (R : RO) : Nat := psum (fun a b => if bothL R a b = true then ap (rS R a) (rS R b) else 0) (rN R) (rN R)
def prN (R : RO) : Nat := psum (fun a b => bN (bothL R a b)) (rN R) (rN R)
def meanU (R : RO) : UInt64 := if prN R = 0 then FP.dconst0 else FP.ddiv (FP.i2d (nI (apN R))) (FP.i2d (nI (prN R)))
theorem sm_le {F : Nat → Nat} {b : Nat} : ∀ {n : Nat}, (∀ i, i < n → F i ≤ b) → sm F n ≤ n * b
  | 0, _ => by simp [sm]
  | n + 1, h => by
    have h1 := sm_le (n := n) (fun i hi => h i (by omega))
    have h2 := h n (by omega)
    show sm F n + F n ≤ _
    rw [Nat.succ_mul]; omega
theorem prN_lt {R : RO} (hW : rW R) : prN R < 2 ^ 31 := by
  have h1 : ∀ a, prow (fun a b => bN (bothL R a b)) a (rN R) ≤ rN R * 1 := fun a => sm_le (fun i hi => by show (if a < i then bN (bothL R a i) else 0) ≤ 1; unfold bN; split <;> (try split) <;> omega)
  have h2 : prN R ≤ rN R * (rN R * 1) := sm_le (fun i hi => h1 i)
  have h3 := hW.1
  have h4 : rN R * (rN R * 1) ≤ 20 * 20 := Nat.mul_le_mul h3 (by omega)
  omega
theorem lp_meanIn {M : KM} {i : Nat} {R : RO} (hi : i < 8) (hR : RA M i R) (hW : rW R) {a : Nat} (ha : a < rN R) (hout : ∀ (x w : Int32), x = nI (psum (fun a b => if bothL R a b = true then ap (rS R a) (rS R b) else 0) (rN R) (a + 1)) → w = nI (psum (fun a b => bN (bothL R a b)) (rN R) (a + 1)) → Go mX0_meanApart (Zm (QF (some (vD (meanU R))) M)) M [some (vR 1 i), some (vI x), some (vI w), some (vI (nI (a + 1))), none] [] 6) : ∀ (d : Nat) (j : Nat) (x w y : Int32), rN R - j < d → (x = nI (psum (fun a b => if bothL R a b = true then ap (rS R a) (rS R b) else 0) (rN R) a + prow (fun a b => if bothL R a b = true then ap (rS R a) (rS R b) else 0) a j)) → (w = nI (psum (fun a b => bN (bothL R a b)) (rN R) a + prow (fun a b => bN (bothL R a b)) a j)) → (y = nI j) → (a < j) → (j ≤ rN R) → Go mX0_meanApart (Zm (QF (some (vD (meanU R))) M)) M [some (vR 1 i), some (vI x), some (vI w), some (vI (nI a)), some (vI y)] [] 19 := by
  intro d
  induction d with
  | zero => intro j x w y hd; exact absurd hd (Nat.not_lt_zero _)
  | succ d ih =>
    intro j x w y hd h0 h1 h2 h3 h4
    refine go_iload (q := 21) dX0_meanApart_19 rfl rfl ?_
    refine go_aload_n (q := 22) dX0_meanApart_21 rfl rfl rfl ?_
    refine go_cV0 (cal := mX6_size) (q := 25) dX0_meanApart_22 lRX0_9 vX6_size ⟨by decide, by decide⟩ rfl hi (Nat.le_of_ble_eq_true rfl) (ok_size hi hR) rfl ?_
    refine go_icmp_geN j (rN R) (q := 28) (t := 71) dX0_meanApart_25 (by decide) rfl h2 rfl (by have := hR.le; omega) (by have := hR.le; omega) (fun c_25 => ?_) (fun c_25 => ?_)
    · refine go_iinc (q := 74) (v := 1) dX0_meanApart_71 (by decide) rfl (by decide) rfl rfl ?_
      refine go_goto (q := 6) dX0_meanApart_74 (by decide) ?_
      exact go_weak (l1 := [some (vR 1 i), some (vI x), some (vI w), some (vI (nI (a + 1))), none]) (by rw [← nI_1]; exact k_le_s (k_le_s (k_le_s (k_le_s (k_le_n k_le_nil))))) (hout x w (by rw [h0, psum_s, show j = rN R by omega]) (by rw [h1, psum_s, show j = rN R by omega]))
    · subst h2
      refine go_aload_n (q := 29) dX0_meanApart_28 rfl rfl rfl ?_
      refine go_iload_n (q := 30) dX0_meanApart_29 rfl rfl rfl ?_
      refine go_cV1 (cal := mX6_isAlive) (q := 33) dX0_meanApart_30 lRX0_25 vX6_isAlive ⟨by decide, by decide⟩ rfl hi (Nat.le_of_ble_eq_true rfl) (ok_isAlive hi hR _) rfl ?_
      refine go_if_eqB (q := 36) (t := 65) dX0_meanApart_33 (by decide) rfl (fun c_33 => ?_) (fun c_33 => ?_)
      · rw [pOf_at hR ha, oL_some] at c_33
        refine go_iinc (q := 68) (v := 1) dX0_meanApart_65 (by decide) rfl (by decide) rfl rfl ?_
        refine go_goto (q := 19) dX0_meanApart_68 (by decide) ?_
        have hb : bothL R a j = false := by simp [bothL, c_33]
        exact ih (j + 1) _ _ _ (by omega) (by rw [h0, prow_s h3, hb]; rfl) (by rw [h1, prow_s h3, hb]; rfl) (nI_1 j) (by omega) (by omega)
      · rw [pOf_at hR ha, oL_some] at c_33
        refine go_aload_n (q := 37) dX0_meanApart_36 rfl rfl rfl ?_
        refine go_iload (q := 39) dX0_meanApart_37 rfl rfl ?_
        refine go_cV1 (cal := mX6_isAlive) (q := 42) dX0_meanApart_39 lRX0_25 vX6_isAlive ⟨by decide, by decide⟩ rfl hi (Nat.le_of_ble_eq_true rfl) (ok_isAlive hi hR _) rfl ?_
        refine go_if_eqB (q := 45) (t := 65) dX0_meanApart_42 (by decide) rfl (fun c_42 => ?_) (fun c_42 => ?_)
        · rw [pOf_at hR c_25, oL_some] at c_42
          refine go_iinc (q := 68) (v := 1) dX0_meanApart_65 (by decide) rfl (by decide) rfl rfl ?_
          refine go_goto (q := 19) dX0_meanApart_68 (by decide) ?_
          have hb : bothL R a j = false := by simp [bothL, c_42]
          exact ih (j + 1) _ _ _ (by omega) (by rw [h0, prow_s h3, hb]; rfl) (by rw [h1, prow_s h3, hb]; rfl) (nI_1 j) (by omega) (by omega)
        · rw [pOf_at hR c_25, oL_some] at c_42
          refine go_iload_n (q := 46) dX0_meanApart_45 rfl rfl rfl ?_
          refine go_aload_n (q := 47) dX0_meanApart_46 rfl rfl rfl ?_
          refine go_iload_n (q := 48) dX0_meanApart_47 rfl rfl rfl ?_
          refine go_cV1 (cal := mX6_shieldOf) (q := 51) dX0_meanApart_48 lRX0_29 vX6_shieldOf ⟨by decide, by decide⟩ rfl hi (Nat.le_of_ble_eq_true rfl) (ok_shieldOf hi hR _) rfl ?_
          rw [pOf_at hR ha, oS_some]
          refine go_aload_n (q := 52) dX0_meanApart_51 rfl rfl rfl ?_
          refine go_iload (q := 54) dX0_meanApart_52 rfl rfl ?_
          refine go_cV1 (cal := mX6_shieldOf) (q := 57) dX0_meanApart_54 lRX0_29 vX6_shieldOf ⟨by decide, by decide⟩ rfl hi (Nat.le_of_ble_eq_true rfl) (ok_shieldOf hi hR _) rfl ?_
          rw [pOf_at hR c_25, oS_some]
          refine go_cS2 (cal := mX8_apart) (q := 60) dX0_meanApart_57 lRX0_32 vX8_apart ⟨by decide, by decide⟩ (Nat.le_of_ble_eq_true rfl) (ok_apart (by have := hW.2.1 a ha; omega) (by have := hW.2.1 j c_25; omega)) rfl ?_
          refine go_iadd (q := 61) dX0_meanApart_60 rfl ?_
          refine go_istore_n (q := 62) dX0_meanApart_61 rfl (by decide) rfl rfl ?_
          refine go_iinc (q := 65) (v := 1) dX0_meanApart_62 (by decide) rfl (by decide) rfl rfl ?_
          refine go_iinc (q := 68) (v := 1) dX0_meanApart_65 (by decide) rfl (by decide) rfl rfl ?_
          refine go_goto (q := 19) dX0_meanApart_68 (by decide) ?_
          have hb : bothL R a j = true := by simp [bothL, c_33, c_42]
          exact ih (j + 1) _ _ _ (by omega) (by rw [h0, prow_s h3, hb, nI_add, if_pos rfl, Nat.add_assoc]) (by rw [h1, prow_s h3, hb, nI_1, Nat.add_assoc]; rfl) (nI_1 j) (by omega) (by omega)
theorem lp_mean {M : KM} {i : Nat} {R : RO} (hi : i < 8) (hR : RA M i R) (hW : rW R) : ∀ (d : Nat) (a : Nat) (x w y : Int32), rN R - a < d → (x = nI (psum (fun a b => if bothL R a b = true then ap (rS R a) (rS R b) else 0) (rN R) a)) → (w = nI (psum (fun a b => bN (bothL R a b)) (rN R) a)) → (y = nI a) → (a ≤ rN R) → Go mX0_meanApart (Zm (QF (some (vD (meanU R))) M)) M [some (vR 1 i), some (vI x), some (vI w), some (vI y), none] [] 6 := by
  intro d
  induction d with
  | zero => intro a x w y hd; exact absurd hd (Nat.not_lt_zero _)
  | succ d ih =>
    intro a x w y hd h0 h1 h2 h3
    refine go_iload_n (q := 7) dX0_meanApart_6 rfl rfl rfl ?_
    refine go_aload_n (q := 8) dX0_meanApart_7 rfl rfl rfl ?_
    refine go_cV0 (cal := mX6_size) (q := 11) dX0_meanApart_8 lRX0_9 vX6_size ⟨by decide, by decide⟩ rfl hi (Nat.le_of_ble_eq_true rfl) (ok_size hi hR) rfl ?_
    refine go_icmp_geN a (rN R) (q := 14) (t := 77) dX0_meanApart_11 (by decide) rfl h2 rfl (by have := hR.le; omega) (by have := hR.le; omega) (fun c_11 => ?_) (fun c_11 => ?_)
    · obtain rfl : a = rN R := by omega
      subst h0
      subst h1
      refine go_iload_n (q := 78) dX0_meanApart_77 rfl rfl rfl ?_
      refine go_if_ne (q := 81) (t := 85) dX0_meanApart_78 (by decide) rfl (fun c_78 => ?_) (fun c_78 => ?_)
      · have h78 : ¬ prN R = 0 := fun z => c_78 (by show nI (prN R) = 0; rw [z]; rfl)
        refine go_iload_n (q := 86) dX0_meanApart_85 rfl rfl rfl ?_
        refine go_i2d (q := 87) dX0_meanApart_86 rfl ?_
        refine go_iload_n (q := 88) dX0_meanApart_87 rfl rfl rfl ?_
        refine go_i2d (q := 89) dX0_meanApart_88 rfl ?_
        refine go_ddiv (q := 90) dX0_meanApart_89 (k_ddiv c_78) rfl ?_
        exact go_rd dX0_meanApart_90 rfl (by rw [show meanU R = _ from if_neg h78]; rfl) rfl
      · have h78 : prN R = 0 := (nI_eq (prN_lt hW) (by decide)).mp (Classical.not_not.mp c_78)
        refine go_dconst0 (q := 82) dX0_meanApart_81 rfl ?_
        refine go_goto (q := 90) dX0_meanApart_82 (by decide) ?_
        exact go_rd dX0_meanApart_90 rfl (by rw [show meanU R = _ from if_pos h78]) rfl
    · subst h2
      refine go_iload_n (q := 15) dX0_meanApart_14 rfl rfl rfl ?_
      refine go_iconst (q := 16) (v := 1) dX0_meanApart_15 (by decide) rfl ?_
      refine go_iadd (q := 17) dX0_meanApart_16 rfl ?_
      refine go_topi (nI_1 a) ?_
      refine go_istore (q := 19) dX0_meanApart_17 (by decide) rfl rfl ?_
      exact lp_meanIn hi hR hW c_11 (fun x w hx hw => ih (a + 1) x w _ (by omega) hx hw rfl (by omega)) (rN R + 1) (a + 1) _ _ _ (by omega) (by rw [h0, prow_0 (Nat.le_refl _)]; rfl) (by rw [h1, prow_0 (Nat.le_refl _)]; rfl) rfl (by omega) (by omega)
theorem ok_meanApart {M : KM} {i : Nat} {R : RO} (hi : i < 8) (hR : RA M i R) (hW : rW R) : OkF mX0_meanApart [vR 1 i] M (some (vD (meanU R))) M := by
  refine ok_of (by decide) rfl (Nat.le_of_ble_eq_true rfl) ⟨rfl, rfl⟩ ?_
  show Go mX0_meanApart (Zm (QF (some (vD (meanU R))) M)) M [some (vR 1 i), none, none, none, none] [] 0
  refine go_iconst (q := 1) (v := 0) dX0_meanApart_0 (by decide) rfl ?_
  refine go_istore_n (q := 2) dX0_meanApart_1 rfl (by decide) rfl rfl ?_
  refine go_iconst (q := 3) (v := 0) dX0_meanApart_2 (by decide) rfl ?_
  refine go_istore_n (q := 4) dX0_meanApart_3 rfl (by decide) rfl rfl ?_
  refine go_iconst (q := 5) (v := 0) dX0_meanApart_4 (by decide) rfl ?_
  refine go_istore_n (q := 6) dX0_meanApart_5 rfl (by decide) rfl rfl ?_
  exact lp_mean hi hR hW (rN R + 1) 0 _ _ _ (by omega) rfl rfl rfl (by omega)
