theorem wm_lt {a k m : Nat} (ha : a < 15625) (hk : k < 6) (hm : m < 5) : wm a k m < 15625 := by
  unfold wm mk
  rcases (show k = 0 ∨ k = 1 ∨ k = 2 ∨ k = 3 ∨ k = 4 ∨ k = 5 by omega) with rfl | rfl | rfl | rfl | rfl | rfl <;> simp only [Nat.reducePow] <;> omega
theorem bear_some {R : RO} {s p : Nat} : bear R s = some p → p < rN R ∧ rL R p = true ∧ rS R p = s := fun h => by
  obtain ⟨h1, h2, -⟩ := fst1_some.mp h
  simp only [Bool.and_eq_true, beq_iff_eq] at h2
  exact ⟨h1, h2.1, h2.2⟩
theorem bear_big {R : RO} {s : Nat} (hW : rW R) : ∀ k, bear R s = some k → k < 2 ^ 31 := fun k h => by
  have := (bear_some h).1
  have := hW.1
  omega
/-- why a son is not born: 0 if he is -/
def whyS (R : RO) (f k m : Nat) : Nat := if rL R f = false then 1 else if mk (rS R f) k = m then 2 else if ¬ bear R (wm (rS R f) k m) = none then 3 else if cous R f k = true then 4 else if 4 ≤ sonsN R f then 5 else 0
/-- an elder brother lives -/
def eldB (R : RO) (p : Nat) : Bool := ex (fun j => rL R j && br R (some j) (some p)) p
/-- why somebody does not become heir -/
def whyH (R : RO) (p : Nat) : Nat := match rP R p with
  | none => 7
  | some f => if rL R f = true then 7 else if eldB R p = true then 8 else if ¬ bear R (rS R f) = none then 3 else 0
theorem sonsN_le {R : RO} (hW : rW R) (f : Nat) : sonsN R f ≤ 4 := hW.2.2.2.1 f
theorem ok_reasonAgainstSon {M : KM} {i : Nat} {R : RO} (hi : i < 8) (hR : RA M i R) (hW : rW R) {f k m : Nat} (hf : f < rN R) (hk : k < 6) (hm : m < 5) : OkF mX6_reasonAgainstSon [vR 1 i, vI (nI f), vI (nI k), vI (nI m)] M (some (vI (nI (whyS R f k m)))) M := by
  refine ok_of (by decide) rfl (Nat.le_of_ble_eq_true rfl) ⟨rfl, rfl⟩ ?_
  show Go mX6_reasonAgainstSon (Zm (QF (some (vI (nI (whyS R f k m)))) M)) M [some (vR 1 i), some (vI (nI f)), some (vI (nI k)), some (vI (nI m))] [] 0
  refine go_aload_n (q := 1) dX6_reasonAgainstSon_0 rfl rfl rfl ?_
  refine go_iload_n (q := 2) dX6_reasonAgainstSon_1 rfl rfl rfl ?_
  refine go_cV1 (cal := mX6_isAlive) (q := 5) dX6_reasonAgainstSon_2 lRX6_42 vX6_isAlive ⟨by decide, by decide⟩ rfl hi (Nat.le_of_ble_eq_true rfl) (ok_isAlive hi hR _) rfl ?_
  refine go_if_neB (q := 8) (t := 10) dX6_reasonAgainstSon_5 (by decide) rfl (fun c_5 => ?_) (fun c_5 => ?_)
  · rw [pOf_at hR hf, oL_some] at c_5
    refine go_aload_n (q := 11) dX6_reasonAgainstSon_10 rfl rfl rfl ?_
    refine go_iload_n (q := 12) dX6_reasonAgainstSon_11 rfl rfl rfl ?_
    refine go_cV1 (cal := mX6_shieldOf) (q := 15) dX6_reasonAgainstSon_12 lRX6_74 vX6_shieldOf ⟨by decide, by decide⟩ rfl hi (Nat.le_of_ble_eq_true rfl) (ok_shieldOf hi hR _) rfl ?_
    rw [pOf_at hR hf, oS_some]
    refine go_iload_n (q := 16) dX6_reasonAgainstSon_15 rfl rfl rfl ?_
    refine go_cS2 (cal := mX8_markAt) (q := 19) dX6_reasonAgainstSon_16 lRX6_91 vX8_markAt ⟨by decide, by decide⟩ (Nat.le_of_ble_eq_true rfl) (ok_markAt (by have := hW.2.1 f hf; omega) hk) rfl ?_
    refine go_iload_n (q := 20) dX6_reasonAgainstSon_19 rfl rfl rfl ?_
    refine go_icmp_neN (mk (rS R f) k) m (q := 23) (t := 25) dX6_reasonAgainstSon_20 (by decide) rfl rfl rfl (by have := mk_lt (rS R f) k; omega) (by omega) (fun c_20 => ?_) (fun c_20 => ?_)
    · refine go_aload_n (q := 26) dX6_reasonAgainstSon_25 rfl rfl rfl ?_
      refine go_aload_n (q := 27) dX6_reasonAgainstSon_26 rfl rfl rfl ?_
      refine go_iload_n (q := 28) dX6_reasonAgainstSon_27 rfl rfl rfl ?_
      refine go_cV1 (cal := mX6_shieldOf) (q := 31) dX6_reasonAgainstSon_28 lRX6_74 vX6_shieldOf ⟨by decide, by decide⟩ rfl hi (Nat.le_of_ble_eq_true rfl) (ok_shieldOf hi hR _) rfl ?_
      rw [pOf_at hR hf, oS_some]
      refine go_iload_n (q := 32) dX6_reasonAgainstSon_31 rfl rfl rfl ?_
      refine go_iload_n (q := 33) dX6_reasonAgainstSon_32 rfl rfl rfl ?_
      refine go_cS3 (cal := mX8_withMark) (q := 36) dX6_reasonAgainstSon_33 lRX6_77 vX8_withMark ⟨by decide, by decide⟩ (Nat.le_of_ble_eq_true rfl) (ok_withMark (by have := hW.2.1 f hf; omega) hk) rfl ?_
      refine go_cV1 (cal := mX6_livingWith) (q := 39) dX6_reasonAgainstSon_36 lRX6_54 vX6_livingWith ⟨by decide, by decide⟩ rfl hi (Nat.le_of_ble_eq_true rfl) (ok_livingWith hi hR hW (by have := wm_lt (hW.2.1 f hf) hk hm; omega)) rfl ?_
      refine go_iconst (q := 40) (v := (-1)) dX6_reasonAgainstSon_39 (by decide) rfl ?_
      refine go_icmp_eq (q := 43) (t := 45) dX6_reasonAgainstSon_40 (by decide) rfl (fun c_40 => ?_) (fun c_40 => ?_)
      · have h40 : bear R (wm (rS R f) k m) = none := (e1_eq (bear_big hW)).mp c_40
        refine go_aload_n (q := 46) dX6_reasonAgainstSon_45 rfl rfl rfl ?_
        refine go_iload_n (q := 47) dX6_reasonAgainstSon_46 rfl rfl rfl ?_
        refine go_iload_n (q := 48) dX6_reasonAgainstSon_47 rfl rfl rfl ?_
        refine go_cV2 (cal := mX6_cousinChanged) (q := 51) dX6_reasonAgainstSon_48 lRX6_94 vX6_cousinChanged ⟨by decide, by decide⟩ rfl hi (Nat.le_of_ble_eq_true rfl) (ok_cousinChanged hi hR hW hf hk) rfl ?_
        refine go_if_eqB (q := 54) (t := 56) dX6_reasonAgainstSon_51 (by decide) rfl (fun c_51 => ?_) (fun c_51 => ?_)
        · refine go_aload_n (q := 57) dX6_reasonAgainstSon_56 rfl rfl rfl ?_
          refine go_iload_n (q := 58) dX6_reasonAgainstSon_57 rfl rfl rfl ?_
          refine go_cV1 (cal := mX6_sonsOf) (q := 61) dX6_reasonAgainstSon_58 lRX6_98 vX6_sonsOf ⟨by decide, by decide⟩ rfl hi (Nat.le_of_ble_eq_true rfl) (ok_sonsOf hi hR hW (by have := hR.lt hf; omega)) rfl ?_
          refine go_iconst (q := 62) (v := 4) dX6_reasonAgainstSon_61 (by decide) rfl ?_
          refine go_icmp_ltN (sonsN R f) 4 (q := 65) (t := 69) dX6_reasonAgainstSon_62 (by decide) rfl rfl rfl (by have := sonsN_le hW f; omega) (by omega) (fun c_62 => ?_) (fun c_62 => ?_)
          · refine go_iconst (q := 70) (v := 0) dX6_reasonAgainstSon_69 (by decide) rfl ?_
            exact go_ri dX6_reasonAgainstSon_70 rfl (by rw [show whyS R f k m = 0 by simp [whyS, c_5, c_20, h40, c_51, Nat.not_le.mpr c_62]]; rfl) rfl
          · refine go_iconst (q := 66) (v := 5) dX6_reasonAgainstSon_65 (by decide) rfl ?_
            refine go_goto (q := 70) dX6_reasonAgainstSon_66 (by decide) ?_
            exact go_ri dX6_reasonAgainstSon_70 rfl (by rw [show whyS R f k m = 5 by simp [whyS, c_5, c_20, h40, c_51, c_62]]; rfl) rfl
        · refine go_iconst (q := 55) (v := 4) dX6_reasonAgainstSon_54 (by decide) rfl ?_
          exact go_ri dX6_reasonAgainstSon_55 rfl (by rw [show whyS R f k m = 4 by simp [whyS, c_5, c_20, h40, c_51]]; rfl) rfl
      · have h40 : ¬ bear R (wm (rS R f) k m) = none := fun z => c_40 ((e1_eq (bear_big hW)).mpr z)
        refine go_iconst (q := 44) (v := 3) dX6_reasonAgainstSon_43 (by decide) rfl ?_
        exact go_ri dX6_reasonAgainstSon_44 rfl (by rw [show whyS R f k m = 3 by simp [whyS, c_5, c_20, h40]]; rfl) rfl
    · refine go_iconst (q := 24) (v := 2) dX6_reasonAgainstSon_23 (by decide) rfl ?_
      exact go_ri dX6_reasonAgainstSon_24 rfl (by rw [show whyS R f k m = 2 by simp [whyS, c_5, c_20]]; rfl) rfl
  · rw [pOf_at hR hf, oL_some] at c_5
    refine go_iconst (q := 9) (v := 1) dX6_reasonAgainstSon_8 (by decide) rfl ?_
    exact go_ri dX6_reasonAgainstSon_9 rfl (by rw [show whyS R f k m = 1 by simp [whyS, c_5]]; rfl) rfl
theorem lp_reasonAgainstHeir {M : KM} {i : Nat} {R : RO} (hi : i < 8) (hR : RA M i R) (hW : rW R) {p : Nat} (hp : p < rN R) {f : Nat} (hf : rP R p = some f) (hl : rL R f = false) : ∀ (d : Nat) (j : Nat) (y : Int32), p - j < d → (∀ a, a < j → (rL R a && br R (some a) (some p)) = false) → (y = nI j) → (j ≤ p) → Go mX6_reasonAgainstHeir (Zm (QF (some (vI (nI (whyH R p)))) M)) M [some (vR 1 i), some (vI (nI p)), some (vI (nI f)), some (vI y)] [] 24 := by
  intro d
  induction d with
  | zero => intro j y hd; exact absurd hd (Nat.not_lt_zero _)
  | succ d ih =>
    intro j y hd h0 h1 h2
    refine go_iload_n (q := 25) dX6_reasonAgainstHeir_24 rfl rfl rfl ?_
    refine go_iload_n (q := 26) dX6_reasonAgainstHeir_25 rfl rfl rfl ?_
    refine go_icmp_geN j p (q := 29) (t := 55) dX6_reasonAgainstHeir_26 (by decide) rfl h1 rfl (by have := hR.lt hp; omega) (by have := hR.lt hp; omega) (fun c_26 => ?_) (fun c_26 => ?_)
    · have hfn : f < rN R := rP_n hW hp f hf
      refine go_aload_n (q := 56) dX6_reasonAgainstHeir_55 rfl rfl rfl ?_
      refine go_aload_n (q := 57) dX6_reasonAgainstHeir_56 rfl rfl rfl ?_
      refine go_iload_n (q := 58) dX6_reasonAgainstHeir_57 rfl rfl rfl ?_
      refine go_cV1 (cal := mX6_shieldOf) (q := 61) dX6_reasonAgainstHeir_58 lRX6_74 vX6_shieldOf ⟨by decide, by decide⟩ rfl hi (Nat.le_of_ble_eq_true rfl) (ok_shieldOf hi hR _) rfl ?_
      rw [pOf_at hR hfn, oS_some]
      refine go_cV1 (cal := mX6_livingWith) (q := 64) dX6_reasonAgainstHeir_61 lRX6_54 vX6_livingWith ⟨by decide, by decide⟩ rfl hi (Nat.le_of_ble_eq_true rfl) (ok_livingWith hi hR hW (by have := hW.2.1 f hfn; omega)) rfl ?_
      refine go_iconst (q := 65) (v := (-1)) dX6_reasonAgainstHeir_64 (by decide) rfl ?_
      refine go_icmp_eq (q := 68) (t := 72) dX6_reasonAgainstHeir_65 (by decide) rfl (fun c_65 => ?_) (fun c_65 => ?_)
      · refine go_iconst (q := 73) (v := 0) dX6_reasonAgainstHeir_72 (by decide) rfl ?_
        exact go_ri dX6_reasonAgainstHeir_73 rfl (by have h65 : bear R (rS R f) = none := (e1_eq (bear_big hW)).mp c_65; rw [show whyH R p = 0 by simp [whyH, hf, hl, show eldB R p = false from (ex_f (fun a ha => h0 a (by omega))), h65]]; rfl) rfl
      · refine go_iconst (q := 69) (v := 3) dX6_reasonAgainstHeir_68 (by decide) rfl ?_
        refine go_goto (q := 73) dX6_reasonAgainstHeir_69 (by decide) ?_
        exact go_ri dX6_reasonAgainstHeir_73 rfl (by have h65 : ¬ bear R (rS R f) = none := fun z => c_65 ((e1_eq (bear_big hW)).mpr z); rw [show whyH R p = 3 by simp [whyH, hf, hl, show eldB R p = false from (ex_f (fun a ha => h0 a (by omega))), h65]]; rfl) rfl
    · subst h1
      have hjn : j < rN R := by omega
      refine go_aload_n (q := 30) dX6_reasonAgainstHeir_29 rfl rfl rfl ?_
      refine go_iload_n (q := 31) dX6_reasonAgainstHeir_30 rfl rfl rfl ?_
      refine go_cV1 (cal := mX6_isAlive) (q := 34) dX6_reasonAgainstHeir_31 lRX6_42 vX6_isAlive ⟨by decide, by decide⟩ rfl hi (Nat.le_of_ble_eq_true rfl) (ok_isAlive hi hR _) rfl ?_
      refine go_if_eqB (q := 37) (t := 49) dX6_reasonAgainstHeir_34 (by decide) rfl (fun c_34 => ?_) (fun c_34 => ?_)
      · rw [pOf_at hR hjn, oL_some] at c_34
        refine go_iinc (q := 52) (v := 1) dX6_reasonAgainstHeir_49 (by decide) rfl (by decide) rfl rfl ?_
        refine go_goto (q := 24) dX6_reasonAgainstHeir_52 (by decide) ?_
        exact ih (j + 1) _ (by omega) (fun a ha => by
          by_cases hj : a = j
          · subst hj; simp [c_34]
          · exact h0 a (by omega)) (nI_1 j) (by omega)
      · rw [pOf_at hR hjn, oL_some] at c_34
        refine go_aload_n (q := 38) dX6_reasonAgainstHeir_37 rfl rfl rfl ?_
        refine go_iload_n (q := 39) dX6_reasonAgainstHeir_38 rfl rfl rfl ?_
        refine go_iload_n (q := 40) dX6_reasonAgainstHeir_39 rfl rfl rfl ?_
        refine go_cV2 (cal := mX6_areBrothers) (q := 43) dX6_reasonAgainstHeir_40 lRX6_104 vX6_areBrothers ⟨by decide, by decide⟩ rfl hi (Nat.le_of_ble_eq_true rfl) (ok_areBrothers hi hR hW _ _) rfl ?_
        rw [pOf_at hR hjn, pOf_at hR hp]
        refine go_if_eqB (q := 46) (t := 49) dX6_reasonAgainstHeir_43 (by decide) rfl (fun c_43 => ?_) (fun c_43 => ?_)
        · refine go_iinc (q := 52) (v := 1) dX6_reasonAgainstHeir_49 (by decide) rfl (by decide) rfl rfl ?_
          refine go_goto (q := 24) dX6_reasonAgainstHeir_52 (by decide) ?_
          exact ih (j + 1) _ (by omega) (fun a ha => by
            by_cases hj : a = j
            · subst hj; simp [c_43]
            · exact h0 a (by omega)) (nI_1 j) (by omega)
        · refine go_bipush (q := 48) (v := 8) dX6_reasonAgainstHeir_46 (by decide) rfl ?_
          exact go_ri dX6_reasonAgainstHeir_48 rfl (by rw [show whyH R p = 8 by simp [whyH, hf, hl, show eldB R p = true from ex_t c_26 (by simp [c_34, c_43])]]; rfl) rfl
theorem ok_reasonAgainstHeir {M : KM} {i : Nat} {R : RO} (hi : i < 8) (hR : RA M i R) (hW : rW R) {p : Nat} (hp : p < rN R) : OkF mX6_reasonAgainstHeir [vR 1 i, vI (nI p)] M (some (vI (nI (whyH R p)))) M := by
  refine ok_of (by decide) rfl (Nat.le_of_ble_eq_true rfl) ⟨rfl, rfl⟩ ?_
  show Go mX6_reasonAgainstHeir (Zm (QF (some (vI (nI (whyH R p)))) M)) M [some (vR 1 i), some (vI (nI p)), none, none] [] 0
  refine go_aload_n (q := 1) dX6_reasonAgainstHeir_0 rfl rfl rfl ?_
  refine go_iload_n (q := 2) dX6_reasonAgainstHeir_1 rfl rfl rfl ?_
  refine go_cV1 (cal := mX6_fatherOf) (q := 5) dX6_reasonAgainstHeir_2 lRX6_45 vX6_fatherOf ⟨by decide, by decide⟩ rfl hi (Nat.le_of_ble_eq_true rfl) (ok_fatherOf hi hR _) rfl ?_
  rw [pOf_at hR hp, oP_some]
  refine go_istore_n (q := 6) dX6_reasonAgainstHeir_5 rfl (by decide) rfl rfl ?_
  refine go_iload_n (q := 7) dX6_reasonAgainstHeir_6 rfl rfl rfl ?_
  refine go_iconst (q := 8) (v := (-1)) dX6_reasonAgainstHeir_7 (by decide) rfl ?_
  refine go_icmp_eq (q := 11) (t := 19) dX6_reasonAgainstHeir_8 (by decide) rfl (fun c_8 => ?_) (fun c_8 => ?_)
  · refine go_bipush (q := 21) (v := 7) dX6_reasonAgainstHeir_19 (by decide) rfl ?_
    exact go_ri dX6_reasonAgainstHeir_21 rfl (by rw [show whyH R p = 7 by simp [whyH, (e1_eq (rP_big hW hp)).mp c_8]]; rfl) rfl
  · obtain ⟨f, hf⟩ : ∃ f, rP R p = some f := by
      cases h : rP R p with
      | none => exact absurd ((e1_eq (rP_big hW hp)).mpr h) c_8
      | some f => exact ⟨f, rfl⟩
    refine go_aload_n (q := 12) dX6_reasonAgainstHeir_11 rfl rfl rfl ?_
    refine go_iload_n (q := 13) dX6_reasonAgainstHeir_12 rfl rfl rfl ?_
    refine go_cV1 (cal := mX6_isAlive) (q := 16) dX6_reasonAgainstHeir_13 lRX6_42 vX6_isAlive ⟨by decide, by decide⟩ rfl hi (Nat.le_of_ble_eq_true rfl) (ok_isAlive hi hR _) rfl ?_
    rw [pOf_e1 (rP_n hW hp) (by have := hR.le; omega), hf, oL_some]
    refine go_if_eqB (q := 19) (t := 22) dX6_reasonAgainstHeir_16 (by decide) rfl (fun c_16 => ?_) (fun c_16 => ?_)
    · refine go_iconst (q := 23) (v := 0) dX6_reasonAgainstHeir_22 (by decide) rfl ?_
      refine go_istore_n (q := 24) dX6_reasonAgainstHeir_23 rfl (by decide) rfl rfl ?_
      exact lp_reasonAgainstHeir hi hR hW hp hf c_16 (p + 1) 0 _ (by omega) (fun a ha => absurd ha (Nat.not_lt_zero _)) rfl (by omega)
    · refine go_bipush (q := 21) (v := 7) dX6_reasonAgainstHeir_19 (by decide) rfl ?_
      exact go_ri dX6_reasonAgainstHeir_21 rfl (by rw [show whyH R p = 7 by simp [whyH, hf, c_16]]; rfl) rfl
