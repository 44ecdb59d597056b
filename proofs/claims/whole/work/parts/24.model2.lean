/-! ===== the model: kin, reasons, looks ===== -/
theorem rP_not4 {R : RO} {p : Nat} (h : ¬ e4 (rP R p) = -4) : ∃ g, rP R p = some g := by
  cases h2 : rP R p with
  | none => exact absurd (by rw [h2]; rfl) h
  | some g => exact ⟨g, rfl⟩
theorem br_comm (R : RO) (a b : Option Nat) : br R a b = br R b a := by
  cases a with
  | none => cases b <;> rfl
  | some p => cases b with
    | none => rfl
    | some q =>
      rw [Bool.eq_iff_iff]
      simp only [br, Bool.and_eq_true, bne_iff_ne, ne_eq, beq_iff_eq]
      constructor
      · rintro ⟨h1, h2, h3⟩; exact ⟨fun z => h1 z.symm, by rw [← h3]; exact h2, h3.symm⟩
      · rintro ⟨h1, h2, h3⟩; exact ⟨fun z => h1 z.symm, by rw [← h3]; exact h2, h3.symm⟩
theorem ok_mareBrothers {M : KM} {R : RO} (hZ : ZA M R) (hW : rW R) {p q : Nat} (hp : p < rN R) (hq : q < rN R) : OkF mX10_areBrothers [vR 14 0, vI (nI p), vI (nI q)] M (some (vI (bI (br R (some p) (some q))))) M := by
  refine ok_of (by decide) rfl (Nat.le_of_ble_eq_true rfl) ⟨rfl, rfl⟩ ?_
  show Go mX10_areBrothers (Zm (QF (some (vI (bI (br R (some p) (some q))))) M)) M [some (vR 14 0), some (vI (nI p)), some (vI (nI q))] [] 0
  refine go_iload_n (q := 1) dX10_areBrothers_0 rfl rfl rfl ?_
  refine go_iload_n (q := 2) dX10_areBrothers_1 rfl rfl rfl ?_
  refine go_icmp_eqN p q (q := 5) (t := 35) dX10_areBrothers_2 (by decide) rfl rfl rfl (hZ.b hp) (hZ.b hq) (fun c_2 => ?_) (fun c_2 => ?_)
  · refine go_iconst (q := 36) (v := 0) dX10_areBrothers_35 (by decide) rfl ?_
    exact go_rz dX10_areBrothers_36 rfl (by simp [br, c_2, bI]) rfl
  · refine go_aload_n (q := 6) dX10_areBrothers_5 rfl rfl rfl ?_
    refine go_iload_n (q := 7) dX10_areBrothers_6 rfl rfl rfl ?_
    refine go_iconst (q := 8) (v := 2) dX10_areBrothers_7 (by decide) rfl ?_
    refine go_cV2 (cal := mX10_of) (q := 11) dX10_areBrothers_8 lRX10_45 vX10_of ⟨by decide, by decide⟩ rfl (by decide) (Nat.le_of_ble_eq_true rfl) (ok_mof (w := 2) (hZ.lt hp) (by decide)) rfl ?_
    refine go_topi (hZ.fa hp) ?_
    refine go_bipush (q := 13) (v := (-4)) dX10_areBrothers_11 (by decide) rfl ?_
    refine go_icmp_eq (q := 16) (t := 35) dX10_areBrothers_13 (by decide) rfl (fun c_13 => ?_) (fun c_13 => ?_)
    · refine go_iconst (q := 36) (v := 0) dX10_areBrothers_35 (by decide) rfl ?_
      exact go_rz dX10_areBrothers_36 rfl (by simp [br, (e4_eq (rP_big hW hp)).mp c_13, bI]) rfl
    · refine go_aload_n (q := 17) dX10_areBrothers_16 rfl rfl rfl ?_
      refine go_iload_n (q := 18) dX10_areBrothers_17 rfl rfl rfl ?_
      refine go_iconst (q := 19) (v := 2) dX10_areBrothers_18 (by decide) rfl ?_
      refine go_cV2 (cal := mX10_of) (q := 22) dX10_areBrothers_19 lRX10_45 vX10_of ⟨by decide, by decide⟩ rfl (by decide) (Nat.le_of_ble_eq_true rfl) (ok_mof (w := 2) (hZ.lt hp) (by decide)) rfl ?_
      refine go_topi (hZ.fa hp) ?_
      refine go_aload_n (q := 23) dX10_areBrothers_22 rfl rfl rfl ?_
      refine go_iload_n (q := 24) dX10_areBrothers_23 rfl rfl rfl ?_
      refine go_iconst (q := 25) (v := 2) dX10_areBrothers_24 (by decide) rfl ?_
      refine go_cV2 (cal := mX10_of) (q := 28) dX10_areBrothers_25 lRX10_45 vX10_of ⟨by decide, by decide⟩ rfl (by decide) (Nat.le_of_ble_eq_true rfl) (ok_mof (w := 2) (hZ.lt hq) (by decide)) rfl ?_
      refine go_topi (hZ.fa hq) ?_
      refine go_icmp_ne (q := 31) (t := 35) dX10_areBrothers_28 (by decide) rfl (fun c_28 => ?_) (fun c_28 => ?_)
      · refine go_iconst (q := 36) (v := 0) dX10_areBrothers_35 (by decide) rfl ?_
        exact go_rz dX10_areBrothers_36 rfl (by have : ¬ rP R p = rP R q := fun z => c_28 (by rw [z]); simp [br, this, bI]) rfl
      · refine go_iconst (q := 32) (v := 1) dX10_areBrothers_31 (by decide) rfl ?_
        refine go_goto (q := 36) dX10_areBrothers_32 (by decide) ?_
        exact go_rz dX10_areBrothers_36 rfl (by have h1 : ¬ rP R p = none := fun z => c_13 ((e4_eq (rP_big hW hp)).mpr z); have h2 : rP R p = rP R q := e4_inj (rP_big hW hp) (rP_big hW hq) (Classical.not_not.mp c_28); rw [h2] at h1; simp [br, c_2, h2, h1, bI]) rfl
theorem ok_mareCousins {M : KM} {R : RO} (hZ : ZA M R) (hW : rW R) {p q : Nat} (hp : p < rN R) (hq : q < rN R) : OkF mX10_areCousins [vR 14 0, vI (nI p), vI (nI q)] M (some (vI (bI (br R (rP R p) (rP R q))))) M := by
  refine ok_of (by decide) rfl (Nat.le_of_ble_eq_true rfl) ⟨rfl, rfl⟩ ?_
  show Go mX10_areCousins (Zm (QF (some (vI (bI (br R (rP R p) (rP R q))))) M)) M [some (vR 14 0), some (vI (nI p)), some (vI (nI q))] [] 0
  refine go_aload_n (q := 1) dX10_areCousins_0 rfl rfl rfl ?_
  refine go_iload_n (q := 2) dX10_areCousins_1 rfl rfl rfl ?_
  refine go_iconst (q := 3) (v := 2) dX10_areCousins_2 (by decide) rfl ?_
  refine go_cV2 (cal := mX10_of) (q := 6) dX10_areCousins_3 lRX10_45 vX10_of ⟨by decide, by decide⟩ rfl (by decide) (Nat.le_of_ble_eq_true rfl) (ok_mof (w := 2) (hZ.lt hp) (by decide)) rfl ?_
  refine go_topi (hZ.fa hp) ?_
  refine go_bipush (q := 8) (v := (-4)) dX10_areCousins_6 (by decide) rfl ?_
  refine go_icmp_eq (q := 11) (t := 45) dX10_areCousins_8 (by decide) rfl (fun c_8 => ?_) (fun c_8 => ?_)
  · refine go_iconst (q := 46) (v := 0) dX10_areCousins_45 (by decide) rfl ?_
    exact go_rz dX10_areCousins_46 rfl (by simp [br, (e4_eq (rP_big hW hp)).mp c_8, bI]) rfl
  · refine go_aload_n (q := 12) dX10_areCousins_11 rfl rfl rfl ?_
    refine go_iload_n (q := 13) dX10_areCousins_12 rfl rfl rfl ?_
    refine go_iconst (q := 14) (v := 2) dX10_areCousins_13 (by decide) rfl ?_
    refine go_cV2 (cal := mX10_of) (q := 17) dX10_areCousins_14 lRX10_45 vX10_of ⟨by decide, by decide⟩ rfl (by decide) (Nat.le_of_ble_eq_true rfl) (ok_mof (w := 2) (hZ.lt hq) (by decide)) rfl ?_
    refine go_topi (hZ.fa hq) ?_
    refine go_bipush (q := 19) (v := (-4)) dX10_areCousins_17 (by decide) rfl ?_
    refine go_icmp_eq (q := 22) (t := 45) dX10_areCousins_19 (by decide) rfl (fun c_19 => ?_) (fun c_19 => ?_)
    · refine go_iconst (q := 46) (v := 0) dX10_areCousins_45 (by decide) rfl ?_
      exact go_rz dX10_areCousins_46 rfl (by rw [(e4_eq (rP_big hW hq)).mp c_19]; cases rP R p <;> rfl) rfl
    · obtain ⟨g, hg⟩ := rP_not4 c_8
      obtain ⟨g2, hg2⟩ := rP_not4 c_19
      refine go_aload_n (q := 23) dX10_areCousins_22 rfl rfl rfl ?_
      refine go_aload_n (q := 24) dX10_areCousins_23 rfl rfl rfl ?_
      refine go_iload_n (q := 25) dX10_areCousins_24 rfl rfl rfl ?_
      refine go_iconst (q := 26) (v := 2) dX10_areCousins_25 (by decide) rfl ?_
      refine go_cV2 (cal := mX10_of) (q := 29) dX10_areCousins_26 lRX10_45 vX10_of ⟨by decide, by decide⟩ rfl (by decide) (Nat.le_of_ble_eq_true rfl) (ok_mof (w := 2) (hZ.lt hp) (by decide)) rfl ?_
      refine go_topi (v := nI g) ((hZ.fa hp).trans (by rw [hg]; rfl)) ?_
      refine go_aload_n (q := 30) dX10_areCousins_29 rfl rfl rfl ?_
      refine go_iload_n (q := 31) dX10_areCousins_30 rfl rfl rfl ?_
      refine go_iconst (q := 32) (v := 2) dX10_areCousins_31 (by decide) rfl ?_
      refine go_cV2 (cal := mX10_of) (q := 35) dX10_areCousins_32 lRX10_45 vX10_of ⟨by decide, by decide⟩ rfl (by decide) (Nat.le_of_ble_eq_true rfl) (ok_mof (w := 2) (hZ.lt hq) (by decide)) rfl ?_
      refine go_topi (v := nI g2) ((hZ.fa hq).trans (by rw [hg2]; rfl)) ?_
      refine go_cV2 (cal := mX10_areBrothers) (q := 38) dX10_areCousins_35 lRX10_78 vX10_areBrothers ⟨by decide, by decide⟩ rfl (by decide) (Nat.le_of_ble_eq_true rfl) (ok_mareBrothers hZ hW (rP_n hW hp g hg) (rP_n hW hq g2 hg2)) rfl ?_
      refine go_if_eqB (q := 41) (t := 45) dX10_areCousins_38 (by decide) rfl (fun c_38 => ?_) (fun c_38 => ?_)
      · refine go_iconst (q := 46) (v := 0) dX10_areCousins_45 (by decide) rfl ?_
        exact go_rz dX10_areCousins_46 rfl (by rw [hg, hg2, c_38]; rfl) rfl
      · refine go_iconst (q := 42) (v := 1) dX10_areCousins_41 (by decide) rfl ?_
        refine go_goto (q := 46) dX10_areCousins_42 (by decide) ?_
        exact go_rz dX10_areCousins_46 rfl (by rw [hg, hg2, c_38]; rfl) rfl
theorem lp_msonsOf {M : KM} {R : RO} (hZ : ZA M R) (hW : rW R) {f : Nat} (hf : f < 2 ^ 31) (b : Bool) : ∀ (d : Nat) (j : Nat) (x y : Int32), rN R - j < d → (x = nI (cn (fun i => rP R i == some f && (!b || rL R i)) j)) → (y = nI j) → (j ≤ rN R) → Go mX10_sonsOf (Zm (QF (some (vI (nI (cn (fun i => rP R i == some f && (!b || rL R i)) (rN R))))) M)) M [some (vR 14 0), some (vI (nI f)), some (vI (bI b)), some (vI x), some (vI y)] [] 5 := by
  intro d
  induction d with
  | zero => intro j x y hd; exact absurd hd (Nat.not_lt_zero _)
  | succ d ih =>
    intro j x y hd h0 h1 h2
    refine go_iload (q := 7) dX10_sonsOf_5 rfl rfl ?_
    refine go_aload_n (q := 8) dX10_sonsOf_7 rfl rfl rfl ?_
    refine go_getf (q := 11) dX10_sonsOf_8 fRX10_7 rfl (by decide) rfl rfl ?_
    refine go_iconst (q := 12) (v := 0) dX10_sonsOf_11 (by decide) rfl ?_
    refine go_iald (q := 13) 0 dX10_sonsOf_12 rfl rfl (by decide) rfl (by decide) rfl ?_
    refine go_icmp_geN j (rN R) (q := 16) (t := 54) dX10_sonsOf_13 (by decide) rfl h1 (hZ.sz) (by have := hZ.le; omega) (by have := hZ.le; omega) (fun c_13 => ?_) (fun c_13 => ?_)
    · refine go_iload_n (q := 55) dX10_sonsOf_54 rfl rfl rfl ?_
      exact go_ri dX10_sonsOf_55 rfl (by rw [h0, show j = rN R by omega]) rfl
    · subst h1
      refine go_iload_n (q := 17) dX10_sonsOf_16 rfl rfl rfl ?_
      refine go_aload_n (q := 18) dX10_sonsOf_17 rfl rfl rfl ?_
      refine go_iload (q := 20) dX10_sonsOf_18 rfl rfl ?_
      refine go_iconst (q := 21) (v := 2) dX10_sonsOf_20 (by decide) rfl ?_
      refine go_cV2 (cal := mX10_of) (q := 24) dX10_sonsOf_21 lRX10_45 vX10_of ⟨by decide, by decide⟩ rfl (by decide) (Nat.le_of_ble_eq_true rfl) (ok_mof (w := 2) (hZ.lt c_13) (by decide)) rfl ?_
      refine go_topi (hZ.fa c_13) ?_
      refine go_iload_n (q := 25) dX10_sonsOf_24 rfl rfl rfl ?_
      refine go_icmp_ne (q := 28) (t := 45) dX10_sonsOf_25 (by decide) rfl (fun c_25 => ?_) (fun c_25 => ?_)
      · refine go_iconst (q := 46) (v := 0) dX10_sonsOf_45 (by decide) rfl ?_
        refine go_iadd (q := 47) dX10_sonsOf_46 rfl ?_
        refine go_istore_n (q := 48) dX10_sonsOf_47 rfl (by decide) rfl rfl ?_
        refine go_iinc (q := 51) (v := 1) dX10_sonsOf_48 (by decide) rfl (by decide) rfl rfl ?_
        refine go_goto (q := 5) dX10_sonsOf_51 (by decide) ?_
        exact ih (j + 1) _ _ (by omega) (by rw [h0, cn_f (by have hn : ¬ rP R j = some f := fun z => c_25 ((e4_nI (rP_big hW c_13) hf).mpr z); simp [hn])]; exact Int32.add_zero _) (nI_1 j) (by omega)
      · refine go_iload_n (q := 29) dX10_sonsOf_28 rfl rfl rfl ?_
        refine go_if_eqB (q := 32) (t := 41) dX10_sonsOf_29 (by decide) rfl (fun c_29 => ?_) (fun c_29 => ?_)
        · refine go_iconst (q := 42) (v := 1) dX10_sonsOf_41 (by decide) rfl ?_
          refine go_goto (q := 46) dX10_sonsOf_42 (by decide) ?_
          refine go_iadd (q := 47) dX10_sonsOf_46 rfl ?_
          refine go_istore_n (q := 48) dX10_sonsOf_47 rfl (by decide) rfl rfl ?_
          refine go_iinc (q := 51) (v := 1) dX10_sonsOf_48 (by decide) rfl (by decide) rfl rfl ?_
          refine go_goto (q := 5) dX10_sonsOf_51 (by decide) ?_
          exact ih (j + 1) _ _ (by omega) (by rw [h0, cn_t (by have hy : rP R j = some f := (e4_nI (rP_big hW c_13) hf).mp (Classical.not_not.mp c_25); simp [hy, c_29]), nI_1]) (nI_1 j) (by omega)
        · refine go_aload_n (q := 33) dX10_sonsOf_32 rfl rfl rfl ?_
          refine go_iload (q := 35) dX10_sonsOf_33 rfl rfl ?_
          refine go_cV1 (cal := mX10_lives) (q := 38) dX10_sonsOf_35 lRX10_56 vX10_lives ⟨by decide, by decide⟩ rfl (by decide) (Nat.le_of_ble_eq_true rfl) (ok_mlives hZ c_13) rfl ?_
          refine go_if_eqB (q := 41) (t := 45) dX10_sonsOf_38 (by decide) rfl (fun c_38 => ?_) (fun c_38 => ?_)
          · refine go_iconst (q := 46) (v := 0) dX10_sonsOf_45 (by decide) rfl ?_
            refine go_iadd (q := 47) dX10_sonsOf_46 rfl ?_
            refine go_istore_n (q := 48) dX10_sonsOf_47 rfl (by decide) rfl rfl ?_
            refine go_iinc (q := 51) (v := 1) dX10_sonsOf_48 (by decide) rfl (by decide) rfl rfl ?_
            refine go_goto (q := 5) dX10_sonsOf_51 (by decide) ?_
            exact ih (j + 1) _ _ (by omega) (by rw [h0, cn_f (by simp [c_29, c_38])]; exact Int32.add_zero _) (nI_1 j) (by omega)
          · refine go_iconst (q := 42) (v := 1) dX10_sonsOf_41 (by decide) rfl ?_
            refine go_goto (q := 46) dX10_sonsOf_42 (by decide) ?_
            refine go_iadd (q := 47) dX10_sonsOf_46 rfl ?_
            refine go_istore_n (q := 48) dX10_sonsOf_47 rfl (by decide) rfl rfl ?_
            refine go_iinc (q := 51) (v := 1) dX10_sonsOf_48 (by decide) rfl (by decide) rfl rfl ?_
            refine go_goto (q := 5) dX10_sonsOf_51 (by decide) ?_
            exact ih (j + 1) _ _ (by omega) (by rw [h0, cn_t (by have hy : rP R j = some f := (e4_nI (rP_big hW c_13) hf).mp (Classical.not_not.mp c_25); simp [hy, c_29, c_38]), nI_1]) (nI_1 j) (by omega)
theorem ok_msonsOf {M : KM} {R : RO} (hZ : ZA M R) (hW : rW R) {f : Nat} (hf : f < 2 ^ 31) (b : Bool) : OkF mX10_sonsOf [vR 14 0, vI (nI f), vI (bI b)] M (some (vI (nI (cn (fun i => rP R i == some f && (!b || rL R i)) (rN R))))) M := by
  refine ok_of (by decide) rfl (Nat.le_of_ble_eq_true rfl) ⟨rfl, rfl⟩ ?_
  show Go mX10_sonsOf (Zm (QF (some (vI (nI (cn (fun i => rP R i == some f && (!b || rL R i)) (rN R))))) M)) M [some (vR 14 0), some (vI (nI f)), some (vI (bI b)), none, none] [] 0
  refine go_iconst (q := 1) (v := 0) dX10_sonsOf_0 (by decide) rfl ?_
  refine go_istore_n (q := 2) dX10_sonsOf_1 rfl (by decide) rfl rfl ?_
  refine go_iconst (q := 3) (v := 0) dX10_sonsOf_2 (by decide) rfl ?_
  refine go_istore (q := 5) dX10_sonsOf_3 (by decide) rfl rfl ?_
  exact lp_msonsOf hZ hW hf b (rN R + 1) 0 _ _ (by omega) rfl rfl (by omega)
theorem ok_msons0 {M : KM} {R : RO} (hZ : ZA M R) (hW : rW R) {f : Nat} (hf : f < 2 ^ 31) : OkF mX10_sonsOf [vR 14 0, vI (nI f), vI 0] M (some (vI (nI (sonsN R f)))) M := by
  have h := ok_msonsOf hZ hW hf false
  rw [cn_congr (Q := fun i => rP R i == some f) (fun i _ => by simp)] at h
  exact h
theorem ok_msons1 {M : KM} {R : RO} (hZ : ZA M R) (hW : rW R) {f : Nat} (hf : f < 2 ^ 31) : OkF mX10_sonsOf [vR 14 0, vI (nI f), vI 1] M (some (vI (nI (cn (fun i => rL R i && rP R i == some f) (rN R))))) M := by
  have h := ok_msonsOf hZ hW hf true
  rw [cn_congr (Q := fun i => rL R i && rP R i == some f) (fun i _ => by simp [Bool.and_comm])] at h
  exact h
theorem lp_mdepth {M : KM} {R : RO} (hZ : ZA M R) (hW : rW R) {p : Nat} (hp : p < rN R) : ∀ (d : Nat) (a s : Nat) (y : Int32), a < d → (a < rN R) → (depth R p = s + depth R a) → (y = nI s) → Go mX10_depth (Zm (QF (some (vI (nI (depth R p)))) M)) M [some (vR 14 0), some (vI (nI p)), some (vI y), some (vI (nI a))] [] 4 := by
  intro d
  induction d with
  | zero => intro a s y hd; exact absurd hd (Nat.not_lt_zero _)
  | succ d ih =>
    intro a s y hd h0 h1 h2
    refine go_aload_n (q := 5) dX10_depth_4 rfl rfl rfl ?_
    refine go_iload_n (q := 6) dX10_depth_5 rfl rfl rfl ?_
    refine go_iconst (q := 7) (v := 2) dX10_depth_6 (by decide) rfl ?_
    refine go_cV2 (cal := mX10_of) (q := 10) dX10_depth_7 lRX10_45 vX10_of ⟨by decide, by decide⟩ rfl (by decide) (Nat.le_of_ble_eq_true rfl) (ok_mof (w := 2) (hZ.lt h0) (by decide)) rfl ?_
    refine go_topi (hZ.fa h0) ?_
    refine go_bipush (q := 12) (v := (-4)) dX10_depth_10 (by decide) rfl ?_
    refine go_icmp_eq (q := 15) (t := 28) dX10_depth_12 (by decide) rfl (fun c_12 => ?_) (fun c_12 => ?_)
    · refine go_iload_n (q := 29) dX10_depth_28 rfl rfl rfl ?_
      exact go_ri dX10_depth_29 rfl (by rw [h2, h1, depth_none hW h0 ((e4_eq (rP_big hW h0)).mp c_12)]; rfl) rfl
    · obtain ⟨g, hg⟩ := rP_not4 c_12
      refine go_iinc (q := 18) (v := 1) dX10_depth_15 (by decide) rfl (by decide) rfl rfl ?_
      refine go_aload_n (q := 19) dX10_depth_18 rfl rfl rfl ?_
      refine go_iload_n (q := 20) dX10_depth_19 rfl rfl rfl ?_
      refine go_iconst (q := 21) (v := 2) dX10_depth_20 (by decide) rfl ?_
      refine go_cV2 (cal := mX10_of) (q := 24) dX10_depth_21 lRX10_45 vX10_of ⟨by decide, by decide⟩ rfl (by decide) (Nat.le_of_ble_eq_true rfl) (ok_mof (w := 2) (hZ.lt h0) (by decide)) rfl ?_
      refine go_topi (v := nI g) ((hZ.fa h0).trans (by rw [hg]; rfl)) ?_
      refine go_istore_n (q := 25) dX10_depth_24 rfl (by decide) rfl rfl ?_
      refine go_goto (q := 4) dX10_depth_25 (by decide) ?_
      exact ih g (s + 1) _ (by have := rP_lt hW h0 g hg; omega) (rP_n hW h0 g hg) (by rw [h1, depth_some hW h0 hg]; omega) (by rw [h2, nI_1])
theorem ok_mdepth {M : KM} {R : RO} (hZ : ZA M R) (hW : rW R) {p : Nat} (hp : p < rN R) : OkF mX10_depth [vR 14 0, vI (nI p)] M (some (vI (nI (depth R p)))) M := by
  refine ok_of (by decide) rfl (Nat.le_of_ble_eq_true rfl) ⟨rfl, rfl⟩ ?_
  show Go mX10_depth (Zm (QF (some (vI (nI (depth R p)))) M)) M [some (vR 14 0), some (vI (nI p)), none, none] [] 0
  refine go_iconst (q := 1) (v := 0) dX10_depth_0 (by decide) rfl ?_
  refine go_istore_n (q := 2) dX10_depth_1 rfl (by decide) rfl rfl ?_
  refine go_iload_n (q := 3) dX10_depth_2 rfl rfl rfl ?_
  refine go_istore_n (q := 4) dX10_depth_3 rfl (by decide) rfl rfl ?_
  exact lp_mdepth hZ hW hp (p + 1) p 0 _ (by omega) hp (by omega) rfl
/-- the first between j and n -/
def FD (P : Nat → Bool) (n j : Nat) : Option Nat → Prop
  | none => ∀ i, j ≤ i → i < n → P i = false
  | some k => j ≤ k ∧ k < n ∧ P k = true ∧ ∀ i, j ≤ i → i < k → P i = false
theorem FD_0 {P : Nat → Bool} {n : Nat} {o : Option Nat} (h : FD P n 0 o) : o = fst1 P n := by
  cases o with
  | none => exact (fst1_none.mpr (fun i hi => h i (Nat.zero_le _) hi)).symm
  | some k => exact (fst1_some.mpr ⟨h.2.1, h.2.2.1, fun i hi => h.2.2.2 i (Nat.zero_le _) hi⟩).symm
theorem FD_n {P : Nat → Bool} {n : Nat} : FD P n n none := fun i h1 h2 => by omega
theorem FD_t {P : Nat → Bool} {n j : Nat} (hj : j < n) (h : P j = true) : FD P n j (some j) := ⟨Nat.le_refl _, hj, h, fun i h1 h2 => by omega⟩
theorem FD_f {P : Nat → Bool} {n j : Nat} {o : Option Nat} (h : FD P n (j + 1) o) (hf : P j = false) : FD P n j o := by
  cases o with
  | none => exact fun i h1 h2 => if e : i = j then e ▸ hf else h i (by omega) h2
  | some k => exact ⟨by have := h.1; omega, h.2.1, h.2.2.1, fun i h1 h2 => if e : i = j then e ▸ hf else h.2.2.2 i (by omega) h2⟩
theorem dn_m1 {j : Nat} : nI (j + 1) - 1 = nI j := by rw [← nI_1, Int32.add_sub_cancel]
theorem dn_pos {j : Nat} {y : Int32} (h : y = nI j - 1) (hc : ¬ y < 0) : ∃ i, j = i + 1 ∧ y = nI i := by
  cases j with
  | zero => rw [h] at hc; exact absurd (by decide) hc
  | succ i => exact ⟨i, rfl, by rw [h, dn_m1]⟩
theorem dn_zero {j : Nat} {y : Int32} (hj : j < 2 ^ 31) (h : y = nI j - 1) (hc : y < 0) : j = 0 := by
  cases j with
  | zero => rfl
  | succ i => rw [h, dn_m1] at hc; exact absurd hc (Int32.not_lt.mpr (nI_pos' (by omega)))
theorem lp_meldest {M : KM} {R : RO} (hZ : ZA M R) (hW : rW R) {f : Nat} (hf : f < 2 ^ 31) : ∀ (d : Nat) (j : Nat) (o : Option Nat) (x y : Int32), j < d → (FD (fun i => rP R i == some f && rL R i) (rN R) j o) → (x = e4 o) → (y = nI j - 1) → (j ≤ rN R) → Go mX10_eldest (Zm (QF (some (vI (e4 (fst1 (fun i => rP R i == some f && rL R i) (rN R))))) M)) M [some (vR 14 0), some (vI (nI f)), some (vI x), some (vI y)] [] 12 := by
  intro d
  induction d with
  | zero => intro j o x y hd; exact absurd hd (Nat.not_lt_zero _)
  | succ d ih =>
    intro j o x y hd h0 h1 h2 h3
    refine go_iload_n (q := 13) dX10_eldest_12 rfl rfl rfl ?_
    refine go_if_lt (q := 16) (t := 46) dX10_eldest_13 (by decide) rfl (fun c_13 => ?_) (fun c_13 => ?_)
    · obtain rfl := dn_zero (by have := hZ.le; omega) h2 c_13
      refine go_iload_n (q := 47) dX10_eldest_46 rfl rfl rfl ?_
      exact go_ri dX10_eldest_47 rfl (by rw [h1, FD_0 h0]) rfl
    · obtain ⟨j, rfl, rfl⟩ := dn_pos h2 c_13
      have hj : j < rN R := by omega
      refine go_aload_n (q := 17) dX10_eldest_16 rfl rfl rfl ?_
      refine go_iload_n (q := 18) dX10_eldest_17 rfl rfl rfl ?_
      refine go_iconst (q := 19) (v := 2) dX10_eldest_18 (by decide) rfl ?_
      refine go_cV2 (cal := mX10_of) (q := 22) dX10_eldest_19 lRX10_45 vX10_of ⟨by decide, by decide⟩ rfl (by decide) (Nat.le_of_ble_eq_true rfl) (ok_mof (w := 2) (hZ.lt hj) (by decide)) rfl ?_
      refine go_topi (hZ.fa hj) ?_
      refine go_iload_n (q := 23) dX10_eldest_22 rfl rfl rfl ?_
      refine go_icmp_ne (q := 26) (t := 38) dX10_eldest_23 (by decide) rfl (fun c_23 => ?_) (fun c_23 => ?_)
      · refine go_iload_n (q := 39) dX10_eldest_38 rfl rfl rfl ?_
        refine go_istore_n (q := 40) dX10_eldest_39 rfl (by decide) rfl rfl ?_
        refine go_iinc (q := 43) (v := (-1)) dX10_eldest_40 (by decide) rfl (by decide) rfl rfl ?_
        refine go_goto (q := 12) dX10_eldest_43 (by decide) ?_
        exact ih j o _ _ (by omega) (FD_f h0 (by have hn : ¬ rP R j = some f := fun z => c_23 ((e4_nI (rP_big hW hj) hf).mpr z); simp [hn])) h1 (Int32.sub_eq_add_neg ..).symm (by omega)
      · refine go_aload_n (q := 27) dX10_eldest_26 rfl rfl rfl ?_
        refine go_iload_n (q := 28) dX10_eldest_27 rfl rfl rfl ?_
        refine go_cV1 (cal := mX10_lives) (q := 31) dX10_eldest_28 lRX10_56 vX10_lives ⟨by decide, by decide⟩ rfl (by decide) (Nat.le_of_ble_eq_true rfl) (ok_mlives hZ hj) rfl ?_
        refine go_if_eqB (q := 34) (t := 38) dX10_eldest_31 (by decide) rfl (fun c_31 => ?_) (fun c_31 => ?_)
        · refine go_iload_n (q := 39) dX10_eldest_38 rfl rfl rfl ?_
          refine go_istore_n (q := 40) dX10_eldest_39 rfl (by decide) rfl rfl ?_
          refine go_iinc (q := 43) (v := (-1)) dX10_eldest_40 (by decide) rfl (by decide) rfl rfl ?_
          refine go_goto (q := 12) dX10_eldest_43 (by decide) ?_
          exact ih j o _ _ (by omega) (FD_f h0 (by simp [c_31])) h1 (Int32.sub_eq_add_neg ..).symm (by omega)
        · refine go_iload_n (q := 35) dX10_eldest_34 rfl rfl rfl ?_
          refine go_goto (q := 39) dX10_eldest_35 (by decide) ?_
          refine go_istore_n (q := 40) dX10_eldest_39 rfl (by decide) rfl rfl ?_
          refine go_iinc (q := 43) (v := (-1)) dX10_eldest_40 (by decide) rfl (by decide) rfl rfl ?_
          refine go_goto (q := 12) dX10_eldest_43 (by decide) ?_
          exact ih j (some j) _ _ (by omega) (FD_t hj (by have hy : rP R j = some f := (e4_nI (rP_big hW hj) hf).mp (Classical.not_not.mp c_23); simp [hy, c_31])) rfl (Int32.sub_eq_add_neg ..).symm (by omega)
theorem ok_meldest {M : KM} {R : RO} (hZ : ZA M R) (hW : rW R) {f : Nat} (hf : f < 2 ^ 31) : OkF mX10_eldest [vR 14 0, vI (nI f)] M (some (vI (e4 (fst1 (fun i => rP R i == some f && rL R i) (rN R))))) M := by
  refine ok_of (by decide) rfl (Nat.le_of_ble_eq_true rfl) ⟨rfl, rfl⟩ ?_
  show Go mX10_eldest (Zm (QF (some (vI (e4 (fst1 (fun i => rP R i == some f && rL R i) (rN R))))) M)) M [some (vR 14 0), some (vI (nI f)), none, none] [] 0
  refine go_bipush (q := 2) (v := (-4)) dX10_eldest_0 (by decide) rfl ?_
  refine go_istore_n (q := 3) dX10_eldest_2 rfl (by decide) rfl rfl ?_
  refine go_aload_n (q := 4) dX10_eldest_3 rfl rfl rfl ?_
  refine go_getf (q := 7) dX10_eldest_4 fRX10_7 rfl (by decide) rfl rfl ?_
  refine go_iconst (q := 8) (v := 0) dX10_eldest_7 (by decide) rfl ?_
  refine go_iald (q := 9) 0 dX10_eldest_8 rfl rfl (by decide) rfl (by decide) rfl ?_
  refine go_topi hZ.sz ?_
  refine go_iconst (q := 10) (v := 1) dX10_eldest_9 (by decide) rfl ?_
  refine go_isub (q := 11) dX10_eldest_10 rfl ?_
  refine go_istore_n (q := 12) dX10_eldest_11 rfl (by decide) rfl rfl ?_
  exact lp_meldest hZ hW hf (rN R + 1) (rN R) none _ _ (by omega) FD_n rfl rfl (Nat.le_refl _)
theorem ok_misChange (M : KM) (x y : Int32) : OkF mX10_isChange [vI x, vI y] M (some (vI (bI ((pOf 6 x).isSome && (pOf 5 y).isSome)))) M := by
  refine ok_of (by decide) rfl (Nat.le_of_ble_eq_true rfl) ⟨rfl, rfl⟩ ?_
  show Go mX10_isChange (Zm (QF (some (vI (bI ((pOf 6 x).isSome && (pOf 5 y).isSome)))) M)) M [some (vI x), some (vI y)] [] 0
  refine go_iload_n (q := 1) dX10_isChange_0 rfl rfl rfl ?_
  refine go_iconst (q := 2) (v := 0) dX10_isChange_1 (by decide) rfl ?_
  refine go_iconst (q := 3) (v := 5) dX10_isChange_2 (by decide) rfl ?_
  refine go_cS3 (cal := mX10_in) (q := 6) dX10_isChange_3 lRX10_41 vX10_in ⟨by decide, by decide⟩ (Nat.le_of_ble_eq_true rfl) (ok_min M _ _ _) rfl ?_
  refine go_topi (v := bI (pOf 6 x).isSome) (by rw [← in_pOf (by decide)]; rfl) ?_
  refine go_if_eqB (q := 9) (t := 22) dX10_isChange_6 (by decide) rfl (fun c_6 => ?_) (fun c_6 => ?_)
  · refine go_iconst (q := 23) (v := 0) dX10_isChange_22 (by decide) rfl ?_
    exact go_rz dX10_isChange_23 rfl (by rw [c_6]; rfl) rfl
  · refine go_iload_n (q := 10) dX10_isChange_9 rfl rfl rfl ?_
    refine go_iconst (q := 11) (v := 0) dX10_isChange_10 (by decide) rfl ?_
    refine go_iconst (q := 12) (v := 4) dX10_isChange_11 (by decide) rfl ?_
    refine go_cS3 (cal := mX10_in) (q := 15) dX10_isChange_12 lRX10_41 vX10_in ⟨by decide, by decide⟩ (Nat.le_of_ble_eq_true rfl) (ok_min M _ _ _) rfl ?_
    refine go_topi (v := bI (pOf 5 y).isSome) (by rw [← in_pOf (by decide)]; rfl) ?_
    refine go_if_eqB (q := 18) (t := 22) dX10_isChange_15 (by decide) rfl (fun c_15 => ?_) (fun c_15 => ?_)
    · refine go_iconst (q := 23) (v := 0) dX10_isChange_22 (by decide) rfl ?_
      exact go_rz dX10_isChange_23 rfl (by rw [c_6, c_15]; rfl) rfl
    · refine go_iconst (q := 19) (v := 1) dX10_isChange_18 (by decide) rfl ?_
      refine go_goto (q := 23) dX10_isChange_19 (by decide) ?_
      exact go_rz dX10_isChange_23 rfl (by rw [c_6, c_15]; rfl) rfl
theorem lp_misCousins {M : KM} {R : RO} (hZ : ZA M R) (hW : rW R) {f k : Nat} (hf : f < rN R) (hk : k < 6) : ∀ (d : Nat) (j : Nat) (b : Bool) (y : Int32), rN R - j < d → (b = ex (cousB R f k) j) → (y = nI j) → (j ≤ rN R) → Go mX10_isCousins (Zm (QF (some (vI (bI (cous R f k)))) M)) M [some (vR 14 0), some (vI (nI f)), some (vI (nI k)), some (vI (bI b)), some (vI y), none] [] 5 := by
  intro d
  induction d with
  | zero => intro j b y hd; exact absurd hd (Nat.not_lt_zero _)
  | succ d ih =>
    intro j b y hd h0 h1 h2
    refine go_iload (q := 7) dX10_isCousins_5 rfl rfl ?_
    refine go_aload_n (q := 8) dX10_isCousins_7 rfl rfl rfl ?_
    refine go_getf (q := 11) dX10_isCousins_8 fRX10_7 rfl (by decide) rfl rfl ?_
    refine go_iconst (q := 12) (v := 0) dX10_isCousins_11 (by decide) rfl ?_
    refine go_iald (q := 13) 0 dX10_isCousins_12 rfl rfl (by decide) rfl (by decide) rfl ?_
    refine go_icmp_geN j (rN R) (q := 16) (t := 91) dX10_isCousins_13 (by decide) rfl h1 (hZ.sz) (by have := hZ.le; omega) (by have := hZ.le; omega) (fun c_13 => ?_) (fun c_13 => ?_)
    · refine go_iload_n (q := 92) dX10_isCousins_91 rfl rfl rfl ?_
      exact go_rz dX10_isCousins_92 rfl (by rw [h0, show j = rN R by omega]; rfl) rfl
    · subst h1
      refine go_aload_n (q := 17) dX10_isCousins_16 rfl rfl rfl ?_
      refine go_iload (q := 19) dX10_isCousins_17 rfl rfl ?_
      refine go_iconst (q := 20) (v := 2) dX10_isCousins_19 (by decide) rfl ?_
      refine go_cV2 (cal := mX10_of) (q := 23) dX10_isCousins_20 lRX10_45 vX10_of ⟨by decide, by decide⟩ rfl (by decide) (Nat.le_of_ble_eq_true rfl) (ok_mof (w := 2) (hZ.lt c_13) (by decide)) rfl ?_
      refine go_topi (hZ.fa c_13) ?_
      refine go_bipush (q := 25) (v := (-4)) dX10_isCousins_23 (by decide) rfl ?_
      refine go_icmp_eq (q := 28) (t := 47) dX10_isCousins_25 (by decide) rfl (fun c_25 => ?_) (fun c_25 => ?_)
      · refine go_iconst (q := 48) (v := 0) dX10_isCousins_47 (by decide) rfl ?_
        refine go_istore (q := 50) dX10_isCousins_48 (by decide) rfl rfl ?_
        refine go_iload_n (q := 51) dX10_isCousins_50 rfl rfl rfl ?_
        refine go_if_neB (q := 54) (t := 79) dX10_isCousins_51 (by decide) rfl (fun c_51 => ?_) (fun c_51 => ?_)
        · refine go_iconst (q := 80) (v := 1) dX10_isCousins_79 (by decide) rfl ?_
          refine go_goto (q := 84) dX10_isCousins_80 (by decide) ?_
          refine go_istore_n (q := 85) dX10_isCousins_84 rfl (by decide) rfl rfl ?_
          refine go_iinc (q := 88) (v := 1) dX10_isCousins_85 (by decide) rfl (by decide) rfl rfl ?_
          refine go_goto (q := 5) dX10_isCousins_88 (by decide) ?_
          refine go_weak (l1 := [some (vR 14 0), some (vI _), some (vI _), some (vI _), some (vI _), none]) (k_le_s (k_le_s (k_le_s (k_le_s (k_le_s (k_le_n k_le_nil)))))) ?_
          exact ih (j + 1) true _ (by omega) (by
            show true = (ex (cousB R f k) j || _); rw [← h0, c_51]; rfl) (nI_1 j) (by omega)
        · refine go_aload_n (q := 55) dX10_isCousins_54 rfl rfl rfl ?_
          refine go_iload (q := 57) dX10_isCousins_55 rfl rfl ?_
          refine go_cV1 (cal := mX10_lives) (q := 60) dX10_isCousins_57 lRX10_56 vX10_lives ⟨by decide, by decide⟩ rfl (by decide) (Nat.le_of_ble_eq_true rfl) (ok_mlives hZ c_13) rfl ?_
          refine go_if_eqB (q := 63) (t := 83) dX10_isCousins_60 (by decide) rfl (fun c_60 => ?_) (fun c_60 => ?_)
          · refine go_iconst (q := 84) (v := 0) dX10_isCousins_83 (by decide) rfl ?_
            refine go_istore_n (q := 85) dX10_isCousins_84 rfl (by decide) rfl rfl ?_
            refine go_iinc (q := 88) (v := 1) dX10_isCousins_85 (by decide) rfl (by decide) rfl rfl ?_
            refine go_goto (q := 5) dX10_isCousins_88 (by decide) ?_
            refine go_weak (l1 := [some (vR 14 0), some (vI _), some (vI _), some (vI _), some (vI _), none]) (k_le_s (k_le_s (k_le_s (k_le_s (k_le_s (k_le_n k_le_nil)))))) ?_
            exact ih (j + 1) false _ (by omega) (by
              show false = (ex (cousB R f k) j || cousB R f k j)
              rw [← h0, c_51]
              simp [cousB, c_60]) (nI_1 j) (by omega)
          · refine go_iload (q := 65) dX10_isCousins_63 rfl rfl ?_
            refine go_if_eq (q := 68) (t := 83) dX10_isCousins_65 (by decide) rfl (fun _ => ?_) (fun z => absurd rfl z)
            refine go_iconst (q := 84) (v := 0) dX10_isCousins_83 (by decide) rfl ?_
            refine go_istore_n (q := 85) dX10_isCousins_84 rfl (by decide) rfl rfl ?_
            refine go_iinc (q := 88) (v := 1) dX10_isCousins_85 (by decide) rfl (by decide) rfl rfl ?_
            refine go_goto (q := 5) dX10_isCousins_88 (by decide) ?_
            refine go_weak (l1 := [some (vR 14 0), some (vI _), some (vI _), some (vI _), some (vI _), none]) (k_le_s (k_le_s (k_le_s (k_le_s (k_le_s (k_le_n k_le_nil)))))) ?_
            exact ih (j + 1) false _ (by omega) (by
              show false = (ex (cousB R f k) j || cousB R f k j)
              rw [← h0, c_51]
              simp [cousB, (e4_eq (rP_big hW c_13)).mp c_25, br]) (nI_1 j) (by omega)
      · obtain ⟨g, hg⟩ := rP_not4 c_25
        refine go_aload_n (q := 29) dX10_isCousins_28 rfl rfl rfl ?_
        refine go_aload_n (q := 30) dX10_isCousins_29 rfl rfl rfl ?_
        refine go_iload (q := 32) dX10_isCousins_30 rfl rfl ?_
        refine go_iconst (q := 33) (v := 2) dX10_isCousins_32 (by decide) rfl ?_
        refine go_cV2 (cal := mX10_of) (q := 36) dX10_isCousins_33 lRX10_45 vX10_of ⟨by decide, by decide⟩ rfl (by decide) (Nat.le_of_ble_eq_true rfl) (ok_mof (w := 2) (hZ.lt c_13) (by decide)) rfl ?_
        refine go_topi (v := nI g) ((hZ.fa c_13).trans (by rw [hg]; rfl)) ?_
        refine go_iload_n (q := 37) dX10_isCousins_36 rfl rfl rfl ?_
        refine go_cV2 (cal := mX10_areBrothers) (q := 40) dX10_isCousins_37 lRX10_78 vX10_areBrothers ⟨by decide, by decide⟩ rfl (by decide) (Nat.le_of_ble_eq_true rfl) (ok_mareBrothers hZ hW (rP_n hW c_13 g hg) hf) rfl ?_
        refine go_if_eqB (q := 43) (t := 47) dX10_isCousins_40 (by decide) rfl (fun c_40 => ?_) (fun c_40 => ?_)
        · refine go_iconst (q := 48) (v := 0) dX10_isCousins_47 (by decide) rfl ?_
          refine go_istore (q := 50) dX10_isCousins_48 (by decide) rfl rfl ?_
          refine go_iload_n (q := 51) dX10_isCousins_50 rfl rfl rfl ?_
          refine go_if_neB (q := 54) (t := 79) dX10_isCousins_51 (by decide) rfl (fun c_51 => ?_) (fun c_51 => ?_)
          · refine go_iconst (q := 80) (v := 1) dX10_isCousins_79 (by decide) rfl ?_
            refine go_goto (q := 84) dX10_isCousins_80 (by decide) ?_
            refine go_istore_n (q := 85) dX10_isCousins_84 rfl (by decide) rfl rfl ?_
            refine go_iinc (q := 88) (v := 1) dX10_isCousins_85 (by decide) rfl (by decide) rfl rfl ?_
            refine go_goto (q := 5) dX10_isCousins_88 (by decide) ?_
            refine go_weak (l1 := [some (vR 14 0), some (vI _), some (vI _), some (vI _), some (vI _), none]) (k_le_s (k_le_s (k_le_s (k_le_s (k_le_s (k_le_n k_le_nil)))))) ?_
            exact ih (j + 1) true _ (by omega) (by
              show true = (ex (cousB R f k) j || _); rw [← h0, c_51]; rfl) (nI_1 j) (by omega)
          · refine go_aload_n (q := 55) dX10_isCousins_54 rfl rfl rfl ?_
            refine go_iload (q := 57) dX10_isCousins_55 rfl rfl ?_
            refine go_cV1 (cal := mX10_lives) (q := 60) dX10_isCousins_57 lRX10_56 vX10_lives ⟨by decide, by decide⟩ rfl (by decide) (Nat.le_of_ble_eq_true rfl) (ok_mlives hZ c_13) rfl ?_
            refine go_if_eqB (q := 63) (t := 83) dX10_isCousins_60 (by decide) rfl (fun c_60 => ?_) (fun c_60 => ?_)
            · refine go_iconst (q := 84) (v := 0) dX10_isCousins_83 (by decide) rfl ?_
              refine go_istore_n (q := 85) dX10_isCousins_84 rfl (by decide) rfl rfl ?_
              refine go_iinc (q := 88) (v := 1) dX10_isCousins_85 (by decide) rfl (by decide) rfl rfl ?_
              refine go_goto (q := 5) dX10_isCousins_88 (by decide) ?_
              refine go_weak (l1 := [some (vR 14 0), some (vI _), some (vI _), some (vI _), some (vI _), none]) (k_le_s (k_le_s (k_le_s (k_le_s (k_le_s (k_le_n k_le_nil)))))) ?_
              exact ih (j + 1) false _ (by omega) (by
                show false = (ex (cousB R f k) j || cousB R f k j)
                rw [← h0, c_51]
                simp [cousB, c_60]) (nI_1 j) (by omega)
            · refine go_iload (q := 65) dX10_isCousins_63 rfl rfl ?_
              refine go_if_eq (q := 68) (t := 83) dX10_isCousins_65 (by decide) rfl (fun _ => ?_) (fun z => absurd rfl z)
              refine go_iconst (q := 84) (v := 0) dX10_isCousins_83 (by decide) rfl ?_
              refine go_istore_n (q := 85) dX10_isCousins_84 rfl (by decide) rfl rfl ?_
              refine go_iinc (q := 88) (v := 1) dX10_isCousins_85 (by decide) rfl (by decide) rfl rfl ?_
              refine go_goto (q := 5) dX10_isCousins_88 (by decide) ?_
              refine go_weak (l1 := [some (vR 14 0), some (vI _), some (vI _), some (vI _), some (vI _), none]) (k_le_s (k_le_s (k_le_s (k_le_s (k_le_s (k_le_n k_le_nil)))))) ?_
              exact ih (j + 1) false _ (by omega) (by
                show false = (ex (cousB R f k) j || cousB R f k j)
                rw [← h0, c_51]
                simp [cousB, hg, c_40]) (nI_1 j) (by omega)
        · refine go_iconst (q := 44) (v := 1) dX10_isCousins_43 (by decide) rfl ?_
          refine go_goto (q := 48) dX10_isCousins_44 (by decide) ?_
          refine go_istore (q := 50) dX10_isCousins_48 (by decide) rfl rfl ?_
          refine go_iload_n (q := 51) dX10_isCousins_50 rfl rfl rfl ?_
          refine go_if_neB (q := 54) (t := 79) dX10_isCousins_51 (by decide) rfl (fun c_51 => ?_) (fun c_51 => ?_)
          · refine go_iconst (q := 80) (v := 1) dX10_isCousins_79 (by decide) rfl ?_
            refine go_goto (q := 84) dX10_isCousins_80 (by decide) ?_
            refine go_istore_n (q := 85) dX10_isCousins_84 rfl (by decide) rfl rfl ?_
            refine go_iinc (q := 88) (v := 1) dX10_isCousins_85 (by decide) rfl (by decide) rfl rfl ?_
            refine go_goto (q := 5) dX10_isCousins_88 (by decide) ?_
            refine go_weak (l1 := [some (vR 14 0), some (vI _), some (vI _), some (vI _), some (vI _), none]) (k_le_s (k_le_s (k_le_s (k_le_s (k_le_s (k_le_n k_le_nil)))))) ?_
            exact ih (j + 1) true _ (by omega) (by
              show true = (ex (cousB R f k) j || _); rw [← h0, c_51]; rfl) (nI_1 j) (by omega)
          · refine go_aload_n (q := 55) dX10_isCousins_54 rfl rfl rfl ?_
            refine go_iload (q := 57) dX10_isCousins_55 rfl rfl ?_
            refine go_cV1 (cal := mX10_lives) (q := 60) dX10_isCousins_57 lRX10_56 vX10_lives ⟨by decide, by decide⟩ rfl (by decide) (Nat.le_of_ble_eq_true rfl) (ok_mlives hZ c_13) rfl ?_
            refine go_if_eqB (q := 63) (t := 83) dX10_isCousins_60 (by decide) rfl (fun c_60 => ?_) (fun c_60 => ?_)
            · refine go_iconst (q := 84) (v := 0) dX10_isCousins_83 (by decide) rfl ?_
              refine go_istore_n (q := 85) dX10_isCousins_84 rfl (by decide) rfl rfl ?_
              refine go_iinc (q := 88) (v := 1) dX10_isCousins_85 (by decide) rfl (by decide) rfl rfl ?_
              refine go_goto (q := 5) dX10_isCousins_88 (by decide) ?_
              refine go_weak (l1 := [some (vR 14 0), some (vI _), some (vI _), some (vI _), some (vI _), none]) (k_le_s (k_le_s (k_le_s (k_le_s (k_le_s (k_le_n k_le_nil)))))) ?_
              exact ih (j + 1) false _ (by omega) (by
                show false = (ex (cousB R f k) j || cousB R f k j)
                rw [← h0, c_51]
                simp [cousB, c_60]) (nI_1 j) (by omega)
            · refine go_iload (q := 65) dX10_isCousins_63 rfl rfl ?_
              refine go_if_eq (q := 68) (t := 83) dX10_isCousins_65 (by decide) rfl (fun z => absurd z (by decide)) (fun _ => ?_)
              refine go_aload_n (q := 69) dX10_isCousins_68 rfl rfl rfl ?_
              refine go_iload (q := 71) dX10_isCousins_69 rfl rfl ?_
              refine go_iconst (q := 72) (v := 3) dX10_isCousins_71 (by decide) rfl ?_
              refine go_cV2 (cal := mX10_of) (q := 75) dX10_isCousins_72 lRX10_45 vX10_of ⟨by decide, by decide⟩ rfl (by decide) (Nat.le_of_ble_eq_true rfl) (ok_mof (w := 3) (hZ.lt c_13) (by decide)) rfl ?_
              refine go_topi (hZ.pl c_13) ?_
              refine go_iload_n (q := 76) dX10_isCousins_75 rfl rfl rfl ?_
              refine go_icmp_ne (q := 79) (t := 83) dX10_isCousins_76 (by decide) rfl (fun c_76 => ?_) (fun c_76 => ?_)
              · refine go_iconst (q := 84) (v := 0) dX10_isCousins_83 (by decide) rfl ?_
                refine go_istore_n (q := 85) dX10_isCousins_84 rfl (by decide) rfl rfl ?_
                refine go_iinc (q := 88) (v := 1) dX10_isCousins_85 (by decide) rfl (by decide) rfl rfl ?_
                refine go_goto (q := 5) dX10_isCousins_88 (by decide) ?_
                refine go_weak (l1 := [some (vR 14 0), some (vI _), some (vI _), some (vI _), some (vI _), none]) (k_le_s (k_le_s (k_le_s (k_le_s (k_le_s (k_le_n k_le_nil)))))) ?_
                exact ih (j + 1) false _ (by omega) (by
                  show false = (ex (cousB R f k) j || cousB R f k j)
                  rw [← h0, c_51]
                  have hn : ¬ rK R j = some k := fun z => c_76 ((e4_nI (rK_big hW c_13) (by omega)).mpr z)
                  simp [cousB, hn]) (nI_1 j) (by omega)
              · refine go_iconst (q := 80) (v := 1) dX10_isCousins_79 (by decide) rfl ?_
                refine go_goto (q := 84) dX10_isCousins_80 (by decide) ?_
                refine go_istore_n (q := 85) dX10_isCousins_84 rfl (by decide) rfl rfl ?_
                refine go_iinc (q := 88) (v := 1) dX10_isCousins_85 (by decide) rfl (by decide) rfl rfl ?_
                refine go_goto (q := 5) dX10_isCousins_88 (by decide) ?_
                refine go_weak (l1 := [some (vR 14 0), some (vI _), some (vI _), some (vI _), some (vI _), none]) (k_le_s (k_le_s (k_le_s (k_le_s (k_le_s (k_le_n k_le_nil)))))) ?_
                exact ih (j + 1) true _ (by omega) (by
                  show true = (ex (cousB R f k) j || cousB R f k j)
                  rw [← h0, c_51]
                  have hn : rK R j = some k := (e4_nI (rK_big hW c_13) (by omega)).mp (Classical.not_not.mp c_76)
                  simp [cousB, hn, hg, c_40, c_60]) (nI_1 j) (by omega)
theorem ok_misCousins {M : KM} {R : RO} (hZ : ZA M R) (hW : rW R) {f k : Nat} (hf : f < rN R) (hk : k < 6) : OkF mX10_isCousins [vR 14 0, vI (nI f), vI (nI k)] M (some (vI (bI (cous R f k)))) M := by
  refine ok_of (by decide) rfl (Nat.le_of_ble_eq_true rfl) ⟨rfl, rfl⟩ ?_
  show Go mX10_isCousins (Zm (QF (some (vI (bI (cous R f k)))) M)) M [some (vR 14 0), some (vI (nI f)), some (vI (nI k)), none, none, none] [] 0
  refine go_iconst (q := 1) (v := 0) dX10_isCousins_0 (by decide) rfl ?_
  refine go_istore_n (q := 2) dX10_isCousins_1 rfl (by decide) rfl rfl ?_
  refine go_iconst (q := 3) (v := 0) dX10_isCousins_2 (by decide) rfl ?_
  refine go_istore (q := 5) dX10_isCousins_3 (by decide) rfl rfl ?_
  exact lp_misCousins hZ hW hf hk (rN R + 1) 0 false _ (by omega) rfl rfl (by omega)
theorem ok_mreason {M : KM} {R : RO} (hZ : ZA M R) (hW : rW R) {f k m : Nat} (hf : f < rN R) (hk : k < 6) (hm : m < 5) : OkF mX10_reason [vR 14 0, vI (nI f), vI (nI k), vI (nI m)] M (some (vI (nI (whyS R f k m)))) M := by
  refine ok_of (by decide) rfl (Nat.le_of_ble_eq_true rfl) ⟨rfl, rfl⟩ ?_
  show Go mX10_reason (Zm (QF (some (vI (nI (whyS R f k m)))) M)) M [some (vR 14 0), some (vI (nI f)), some (vI (nI k)), some (vI (nI m)), none] [] 0
  refine go_aload_n (q := 1) dX10_reason_0 rfl rfl rfl ?_
  refine go_iload_n (q := 2) dX10_reason_1 rfl rfl rfl ?_
  refine go_iconst (q := 3) (v := 0) dX10_reason_2 (by decide) rfl ?_
  refine go_cV2 (cal := mX10_of) (q := 6) dX10_reason_3 lRX10_45 vX10_of ⟨by decide, by decide⟩ rfl (by decide) (Nat.le_of_ble_eq_true rfl) (ok_mof (w := 0) (hZ.lt hf) (by decide)) rfl ?_
  refine go_topi (hZ.sh hf) ?_
  refine go_istore (q := 8) dX10_reason_6 (by decide) rfl rfl ?_
  refine go_aload_n (q := 9) dX10_reason_8 rfl rfl rfl ?_
  refine go_iload_n (q := 10) dX10_reason_9 rfl rfl rfl ?_
  refine go_cV1 (cal := mX10_lives) (q := 13) dX10_reason_10 lRX10_56 vX10_lives ⟨by decide, by decide⟩ rfl (by decide) (Nat.le_of_ble_eq_true rfl) (ok_mlives hZ hf) rfl ?_
  refine go_if_neB (q := 16) (t := 18) dX10_reason_13 (by decide) rfl (fun c_13 => ?_) (fun c_13 => ?_)
  · refine go_iload (q := 20) dX10_reason_18 rfl rfl ?_
    refine go_iload_n (q := 21) dX10_reason_20 rfl rfl rfl ?_
    refine go_cS2 (cal := mX10_markOf) (q := 24) dX10_reason_21 lRX10_53 vX10_markOf ⟨by decide, by decide⟩ (Nat.le_of_ble_eq_true rfl) (ok_mmarkOf (by have := hW.2.1 f hf; omega) hk) rfl ?_
    refine go_iload_n (q := 25) dX10_reason_24 rfl rfl rfl ?_
    refine go_icmp_neN (mk (rS R f) k) m (q := 28) (t := 30) dX10_reason_25 (by decide) rfl rfl rfl (by have := mk_lt (rS R f) k; omega) (by omega) (fun c_25 => ?_) (fun c_25 => ?_)
    · refine go_aload_n (q := 31) dX10_reason_30 rfl rfl rfl ?_
      refine go_iload (q := 33) dX10_reason_31 rfl rfl ?_
      refine go_iload_n (q := 34) dX10_reason_33 rfl rfl rfl ?_
      refine go_iload_n (q := 35) dX10_reason_34 rfl rfl rfl ?_
      refine go_cS3 (cal := mX10_with) (q := 38) dX10_reason_35 lRX10_105 vX10_with ⟨by decide, by decide⟩ (Nat.le_of_ble_eq_true rfl) (ok_mwith (by have := hW.2.1 f hf; omega) hk) rfl ?_
      refine go_cV1 (cal := mX10_bears) (q := 41) dX10_reason_38 lRX10_89 vX10_bears ⟨by decide, by decide⟩ rfl (by decide) (Nat.le_of_ble_eq_true rfl) (ok_mbears hZ hW (by have := wm_lt (hW.2.1 f hf) hk hm; omega)) rfl ?_
      refine go_bipush (q := 43) (v := (-4)) dX10_reason_41 (by decide) rfl ?_
      refine go_icmp_eq (q := 46) (t := 48) dX10_reason_43 (by decide) rfl (fun c_43 => ?_) (fun c_43 => ?_)
      · refine go_aload_n (q := 49) dX10_reason_48 rfl rfl rfl ?_
        refine go_iload_n (q := 50) dX10_reason_49 rfl rfl rfl ?_
        refine go_iload_n (q := 51) dX10_reason_50 rfl rfl rfl ?_
        refine go_cV2 (cal := mX10_isCousins) (q := 54) dX10_reason_51 lRX10_109 vX10_isCousins ⟨by decide, by decide⟩ rfl (by decide) (Nat.le_of_ble_eq_true rfl) (ok_misCousins hZ hW hf hk) rfl ?_
        refine go_if_eqB (q := 57) (t := 61) dX10_reason_54 (by decide) rfl (fun c_54 => ?_) (fun c_54 => ?_)
        · refine go_aload_n (q := 62) dX10_reason_61 rfl rfl rfl ?_
          refine go_iload_n (q := 63) dX10_reason_62 rfl rfl rfl ?_
          refine go_iconst (q := 64) (v := 0) dX10_reason_63 (by decide) rfl ?_
          refine go_cV2 (cal := mX10_sonsOf) (q := 67) dX10_reason_64 lRX10_112 vX10_sonsOf ⟨by decide, by decide⟩ rfl (by decide) (Nat.le_of_ble_eq_true rfl) (ok_msons0 hZ hW (hZ.b hf)) rfl ?_
          refine go_iconst (q := 68) (v := 4) dX10_reason_67 (by decide) rfl ?_
          refine go_icmp_neN (sonsN R f) 4 (q := 71) (t := 75) dX10_reason_68 (by decide) rfl rfl rfl (by have := sonsN_le hW f; omega) (by omega) (fun c_68 => ?_) (fun c_68 => ?_)
          · refine go_iconst (q := 76) (v := 0) dX10_reason_75 (by decide) rfl ?_
            exact go_ri dX10_reason_76 rfl (by have h43 : bear R (wm (rS R f) k m) = none := (e4_eq (bear_big hW)).mp c_43; have hl := sonsN_le hW f; rw [show whyS R f k m = 0 by simp [whyS, c_13, c_25, h43, c_54]; omega]; rfl) rfl
          · refine go_iconst (q := 72) (v := 5) dX10_reason_71 (by decide) rfl ?_
            refine go_goto (q := 76) dX10_reason_72 (by decide) ?_
            exact go_ri dX10_reason_76 rfl (by have h43 : bear R (wm (rS R f) k m) = none := (e4_eq (bear_big hW)).mp c_43; rw [show whyS R f k m = 5 by simp [whyS, c_13, c_25, h43, c_54, c_68]]; rfl) rfl
        · refine go_iconst (q := 58) (v := 4) dX10_reason_57 (by decide) rfl ?_
          refine go_goto (q := 76) dX10_reason_58 (by decide) ?_
          exact go_ri dX10_reason_76 rfl (by have h43 : bear R (wm (rS R f) k m) = none := (e4_eq (bear_big hW)).mp c_43; rw [show whyS R f k m = 4 by simp [whyS, c_13, c_25, h43, c_54]]; rfl) rfl
      · refine go_iconst (q := 47) (v := 3) dX10_reason_46 (by decide) rfl ?_
        exact go_ri dX10_reason_47 rfl (by have h43 : ¬ bear R (wm (rS R f) k m) = none := fun z => c_43 (by rw [z]; rfl); rw [show whyS R f k m = 3 by simp [whyS, c_13, c_25, h43]]; rfl) rfl
    · refine go_iconst (q := 29) (v := 2) dX10_reason_28 (by decide) rfl ?_
      exact go_ri dX10_reason_29 rfl (by rw [show whyS R f k m = 2 by simp [whyS, c_13, c_25]]; rfl) rfl
  · refine go_iconst (q := 17) (v := 1) dX10_reason_16 (by decide) rfl ?_
    exact go_ri dX10_reason_17 rfl (by rw [show whyS R f k m = 1 by simp [whyS, c_13]]; rfl) rfl
theorem lp_mlivingKin {M : KM} {R : RO} (hZ : ZA M R) (hW : rW R) {p : Nat} (hp : p < rN R) (b : Bool) : ∀ (d : Nat) (j : Nat) (x y : Int32), rN R - j < d → (x = nI (cn (fun i => rL R i && (if b then br R (rP R p) (rP R i) else br R (some p) (some i))) j)) → (y = nI j) → (j ≤ rN R) → Go mX10_livingKin (Zm (QF (some (vI (nI (cn (fun i => rL R i && (if b then br R (rP R p) (rP R i) else br R (some p) (some i))) (rN R))))) M)) M [some (vR 14 0), some (vI (nI p)), some (vI (bI b)), some (vI x), some (vI y), none] [] 5 := by
  intro d
  induction d with
  | zero => intro j x y hd; exact absurd hd (Nat.not_lt_zero _)
  | succ d ih =>
    intro j x y hd h0 h1 h2
    refine go_iload (q := 7) dX10_livingKin_5 rfl rfl ?_
    refine go_aload_n (q := 8) dX10_livingKin_7 rfl rfl rfl ?_
    refine go_getf (q := 11) dX10_livingKin_8 fRX10_7 rfl (by decide) rfl rfl ?_
    refine go_iconst (q := 12) (v := 0) dX10_livingKin_11 (by decide) rfl ?_
    refine go_iald (q := 13) 0 dX10_livingKin_12 rfl rfl (by decide) rfl (by decide) rfl ?_
    refine go_icmp_geN j (rN R) (q := 16) (t := 67) dX10_livingKin_13 (by decide) rfl h1 (hZ.sz) (by have := hZ.le; omega) (by have := hZ.le; omega) (fun c_13 => ?_) (fun c_13 => ?_)
    · refine go_iload_n (q := 68) dX10_livingKin_67 rfl rfl rfl ?_
      exact go_ri dX10_livingKin_68 rfl (by rw [h0, show j = rN R by omega]) rfl
    · subst h1
      refine go_iload_n (q := 17) dX10_livingKin_16 rfl rfl rfl ?_
      refine go_if_eqB (q := 20) (t := 30) dX10_livingKin_17 (by decide) rfl (fun c_17 => ?_) (fun c_17 => ?_)
      · refine go_aload_n (q := 31) dX10_livingKin_30 rfl rfl rfl ?_
        refine go_iload_n (q := 32) dX10_livingKin_31 rfl rfl rfl ?_
        refine go_iload (q := 34) dX10_livingKin_32 rfl rfl ?_
        refine go_cV2 (cal := mX10_areBrothers) (q := 37) dX10_livingKin_34 lRX10_78 vX10_areBrothers ⟨by decide, by decide⟩ rfl (by decide) (Nat.le_of_ble_eq_true rfl) (ok_mareBrothers hZ hW hp c_13) rfl ?_
        refine go_istore (q := 39) dX10_livingKin_37 (by decide) rfl rfl ?_
        refine go_iload_n (q := 40) dX10_livingKin_39 rfl rfl rfl ?_
        refine go_aload_n (q := 41) dX10_livingKin_40 rfl rfl rfl ?_
        refine go_iload (q := 43) dX10_livingKin_41 rfl rfl ?_
        refine go_cV1 (cal := mX10_lives) (q := 46) dX10_livingKin_43 lRX10_56 vX10_lives ⟨by decide, by decide⟩ rfl (by decide) (Nat.le_of_ble_eq_true rfl) (ok_mlives hZ c_13) rfl ?_
        refine go_if_eqB (q := 49) (t := 58) dX10_livingKin_46 (by decide) rfl (fun c_46 => ?_) (fun c_46 => ?_)
        · refine go_iconst (q := 59) (v := 0) dX10_livingKin_58 (by decide) rfl ?_
          refine go_iadd (q := 60) dX10_livingKin_59 rfl ?_
          refine go_istore_n (q := 61) dX10_livingKin_60 rfl (by decide) rfl rfl ?_
          refine go_iinc (q := 64) (v := 1) dX10_livingKin_61 (by decide) rfl (by decide) rfl rfl ?_
          refine go_goto (q := 5) dX10_livingKin_64 (by decide) ?_
          refine go_weak (l1 := [some (vR 14 0), some (vI _), some (vI _), some (vI _), some (vI _), none]) (k_le_s (k_le_s (k_le_s (k_le_s (k_le_s (k_le_n k_le_nil)))))) ?_
          exact ih (j + 1) _ _ (by omega) (by rw [h0, cn_f (by simp [c_46])]; exact Int32.add_zero _) (nI_1 j) (by omega)
        · refine go_iload (q := 51) dX10_livingKin_49 rfl rfl ?_
          refine go_if_eqB (q := 54) (t := 58) dX10_livingKin_51 (by decide) rfl (fun c_51 => ?_) (fun c_51 => ?_)
          · refine go_iconst (q := 59) (v := 0) dX10_livingKin_58 (by decide) rfl ?_
            refine go_iadd (q := 60) dX10_livingKin_59 rfl ?_
            refine go_istore_n (q := 61) dX10_livingKin_60 rfl (by decide) rfl rfl ?_
            refine go_iinc (q := 64) (v := 1) dX10_livingKin_61 (by decide) rfl (by decide) rfl rfl ?_
            refine go_goto (q := 5) dX10_livingKin_64 (by decide) ?_
            refine go_weak (l1 := [some (vR 14 0), some (vI _), some (vI _), some (vI _), some (vI _), none]) (k_le_s (k_le_s (k_le_s (k_le_s (k_le_s (k_le_n k_le_nil)))))) ?_
            exact ih (j + 1) _ _ (by omega) (by rw [h0, cn_f (by simp [c_17, c_51])]; exact Int32.add_zero _) (nI_1 j) (by omega)
          · refine go_iconst (q := 55) (v := 1) dX10_livingKin_54 (by decide) rfl ?_
            refine go_goto (q := 59) dX10_livingKin_55 (by decide) ?_
            refine go_iadd (q := 60) dX10_livingKin_59 rfl ?_
            refine go_istore_n (q := 61) dX10_livingKin_60 rfl (by decide) rfl rfl ?_
            refine go_iinc (q := 64) (v := 1) dX10_livingKin_61 (by decide) rfl (by decide) rfl rfl ?_
            refine go_goto (q := 5) dX10_livingKin_64 (by decide) ?_
            refine go_weak (l1 := [some (vR 14 0), some (vI _), some (vI _), some (vI _), some (vI _), none]) (k_le_s (k_le_s (k_le_s (k_le_s (k_le_s (k_le_n k_le_nil)))))) ?_
            exact ih (j + 1) _ _ (by omega) (by rw [h0, cn_t (by simp [c_17, c_46, c_51]), nI_1]) (nI_1 j) (by omega)
      · refine go_aload_n (q := 21) dX10_livingKin_20 rfl rfl rfl ?_
        refine go_iload_n (q := 22) dX10_livingKin_21 rfl rfl rfl ?_
        refine go_iload (q := 24) dX10_livingKin_22 rfl rfl ?_
        refine go_cV2 (cal := mX10_areCousins) (q := 27) dX10_livingKin_24 lRX10_180 vX10_areCousins ⟨by decide, by decide⟩ rfl (by decide) (Nat.le_of_ble_eq_true rfl) (ok_mareCousins hZ hW hp c_13) rfl ?_
        refine go_goto (q := 37) dX10_livingKin_27 (by decide) ?_
        refine go_istore (q := 39) dX10_livingKin_37 (by decide) rfl rfl ?_
        refine go_iload_n (q := 40) dX10_livingKin_39 rfl rfl rfl ?_
        refine go_aload_n (q := 41) dX10_livingKin_40 rfl rfl rfl ?_
        refine go_iload (q := 43) dX10_livingKin_41 rfl rfl ?_
        refine go_cV1 (cal := mX10_lives) (q := 46) dX10_livingKin_43 lRX10_56 vX10_lives ⟨by decide, by decide⟩ rfl (by decide) (Nat.le_of_ble_eq_true rfl) (ok_mlives hZ c_13) rfl ?_
        refine go_if_eqB (q := 49) (t := 58) dX10_livingKin_46 (by decide) rfl (fun c_46 => ?_) (fun c_46 => ?_)
        · refine go_iconst (q := 59) (v := 0) dX10_livingKin_58 (by decide) rfl ?_
          refine go_iadd (q := 60) dX10_livingKin_59 rfl ?_
          refine go_istore_n (q := 61) dX10_livingKin_60 rfl (by decide) rfl rfl ?_
          refine go_iinc (q := 64) (v := 1) dX10_livingKin_61 (by decide) rfl (by decide) rfl rfl ?_
          refine go_goto (q := 5) dX10_livingKin_64 (by decide) ?_
          refine go_weak (l1 := [some (vR 14 0), some (vI _), some (vI _), some (vI _), some (vI _), none]) (k_le_s (k_le_s (k_le_s (k_le_s (k_le_s (k_le_n k_le_nil)))))) ?_
          exact ih (j + 1) _ _ (by omega) (by rw [h0, cn_f (by simp [c_46])]; exact Int32.add_zero _) (nI_1 j) (by omega)
        · refine go_iload (q := 51) dX10_livingKin_49 rfl rfl ?_
          refine go_if_eqB (q := 54) (t := 58) dX10_livingKin_51 (by decide) rfl (fun c_51 => ?_) (fun c_51 => ?_)
          · refine go_iconst (q := 59) (v := 0) dX10_livingKin_58 (by decide) rfl ?_
            refine go_iadd (q := 60) dX10_livingKin_59 rfl ?_
            refine go_istore_n (q := 61) dX10_livingKin_60 rfl (by decide) rfl rfl ?_
            refine go_iinc (q := 64) (v := 1) dX10_livingKin_61 (by decide) rfl (by decide) rfl rfl ?_
            refine go_goto (q := 5) dX10_livingKin_64 (by decide) ?_
            refine go_weak (l1 := [some (vR 14 0), some (vI _), some (vI _), some (vI _), some (vI _), none]) (k_le_s (k_le_s (k_le_s (k_le_s (k_le_s (k_le_n k_le_nil)))))) ?_
            exact ih (j + 1) _ _ (by omega) (by rw [h0, cn_f (by simp [c_17, c_51])]; exact Int32.add_zero _) (nI_1 j) (by omega)
          · refine go_iconst (q := 55) (v := 1) dX10_livingKin_54 (by decide) rfl ?_
            refine go_goto (q := 59) dX10_livingKin_55 (by decide) ?_
            refine go_iadd (q := 60) dX10_livingKin_59 rfl ?_
            refine go_istore_n (q := 61) dX10_livingKin_60 rfl (by decide) rfl rfl ?_
            refine go_iinc (q := 64) (v := 1) dX10_livingKin_61 (by decide) rfl (by decide) rfl rfl ?_
            refine go_goto (q := 5) dX10_livingKin_64 (by decide) ?_
            refine go_weak (l1 := [some (vR 14 0), some (vI _), some (vI _), some (vI _), some (vI _), none]) (k_le_s (k_le_s (k_le_s (k_le_s (k_le_s (k_le_n k_le_nil)))))) ?_
            exact ih (j + 1) _ _ (by omega) (by rw [h0, cn_t (by simp [c_17, c_46, c_51]), nI_1]) (nI_1 j) (by omega)
theorem ok_mlivingKin {M : KM} {R : RO} (hZ : ZA M R) (hW : rW R) {p : Nat} (hp : p < rN R) (b : Bool) : OkF mX10_livingKin [vR 14 0, vI (nI p), vI (bI b)] M (some (vI (nI (cn (fun i => rL R i && (if b then br R (rP R p) (rP R i) else br R (some p) (some i))) (rN R))))) M := by
  refine ok_of (by decide) rfl (Nat.le_of_ble_eq_true rfl) ⟨rfl, rfl⟩ ?_
  show Go mX10_livingKin (Zm (QF (some (vI (nI (cn (fun i => rL R i && (if b then br R (rP R p) (rP R i) else br R (some p) (some i))) (rN R))))) M)) M [some (vR 14 0), some (vI (nI p)), some (vI (bI b)), none, none, none] [] 0
  refine go_iconst (q := 1) (v := 0) dX10_livingKin_0 (by decide) rfl ?_
  refine go_istore_n (q := 2) dX10_livingKin_1 rfl (by decide) rfl rfl ?_
  refine go_iconst (q := 3) (v := 0) dX10_livingKin_2 (by decide) rfl ?_
  refine go_istore (q := 5) dX10_livingKin_3 (by decide) rfl rfl ?_
  exact lp_mlivingKin hZ hW hp b (rN R + 1) 0 _ _ (by omega) rfl rfl (by omega)
theorem ok_mkin0 {M : KM} {R : RO} (hZ : ZA M R) (hW : rW R) {p : Nat} (hp : p < rN R) : OkF mX10_livingKin [vR 14 0, vI (nI p), vI 0] M (some (vI (nI (cn (fun i => rL R i && br R (some i) (some p)) (rN R))))) M := by
  have h := ok_mlivingKin hZ hW hp false
  rw [cn_congr (Q := fun i => rL R i && br R (some i) (some p)) (fun i _ => by simp [br_comm R (some i) (some p)])] at h
  exact h
theorem ok_mkin1 {M : KM} {R : RO} (hZ : ZA M R) (hW : rW R) {p : Nat} (hp : p < rN R) : OkF mX10_livingKin [vR 14 0, vI (nI p), vI 1] M (some (vI (nI (cn (fun i => rL R i && br R (rP R i) (rP R p)) (rN R))))) M := by
  have h := ok_mlivingKin hZ hW hp true
  rw [cn_congr (Q := fun i => rL R i && br R (rP R i) (rP R p)) (fun i _ => by simp [br_comm R (rP R i) (rP R p)])] at h
  exact h
theorem anc_O {R : RO} (hW : rW R) {f p : Nat} (hp : p < rN R) : anc R f p = ancO R f (rP R p) := by
  cases h : rP R p with
  | none => rw [anc_none h]; rfl
  | some g => rw [anc_some hW hp h]; rfl
theorem lp_mcomesFrom {M : KM} {R : RO} (hZ : ZA M R) (hW : rW R) {p f : Nat} (hp : p < rN R) (hf : f < 2 ^ 31) : ∀ (d : Nat) (o : Option Nat) (b : Bool) (x : Int32), oM1 o < d → (∀ g, o = some g → g < rN R) → (anc R f p = (b || ancO R f o)) → (x = e4 o) → Go mX10_comesFrom (Zm (QF (some (vI (bI (anc R f p)))) M)) M [some (vR 14 0), some (vI (nI p)), some (vI (nI f)), some (vI (bI b)), some (vI x)] [] 10 := by
  intro d
  induction d with
  | zero => intro o b x hd; exact absurd hd (Nat.not_lt_zero _)
  | succ d ih =>
    intro o b x hd h0 h1 h2
    refine go_iload (q := 12) dX10_comesFrom_10 rfl rfl ?_
    refine go_bipush (q := 14) (v := (-4)) dX10_comesFrom_12 (by decide) rfl ?_
    refine go_icmp_eq (q := 17) (t := 45) dX10_comesFrom_14 (by decide) rfl (fun c_14 => ?_) (fun c_14 => ?_)
    · obtain rfl : o = none := (e4_eq (fun k hk => hZ.b (h0 k hk))).mp (h2.symm.trans c_14)
      refine go_iload_n (q := 46) dX10_comesFrom_45 rfl rfl rfl ?_
      exact go_rz dX10_comesFrom_46 rfl (by rw [h1]; simp [ancO]) rfl
    · obtain ⟨g, rfl⟩ : ∃ g, o = some g := by
        cases o with
        | none => exact absurd h2 c_14
        | some g => exact ⟨g, rfl⟩
      have hg := h0 g rfl
      obtain rfl : x = nI g := h2
      refine go_iload_n (q := 18) dX10_comesFrom_17 rfl rfl rfl ?_
      refine go_if_neB (q := 21) (t := 27) dX10_comesFrom_18 (by decide) rfl (fun c_18 => ?_) (fun c_18 => ?_)
      · refine go_iconst (q := 28) (v := 1) dX10_comesFrom_27 (by decide) rfl ?_
        refine go_goto (q := 32) dX10_comesFrom_28 (by decide) ?_
        refine go_istore_n (q := 33) dX10_comesFrom_32 rfl (by decide) rfl rfl ?_
        refine go_aload_n (q := 34) dX10_comesFrom_33 rfl rfl rfl ?_
        refine go_iload (q := 36) dX10_comesFrom_34 rfl rfl ?_
        refine go_iconst (q := 37) (v := 2) dX10_comesFrom_36 (by decide) rfl ?_
        refine go_cV2 (cal := mX10_of) (q := 40) dX10_comesFrom_37 lRX10_45 vX10_of ⟨by decide, by decide⟩ rfl (by decide) (Nat.le_of_ble_eq_true rfl) (ok_mof (w := 2) (hZ.lt hg) (by decide)) rfl ?_
        refine go_topi (hZ.fa hg) ?_
        refine go_istore (q := 42) dX10_comesFrom_40 (by decide) rfl rfl ?_
        refine go_goto (q := 10) dX10_comesFrom_42 (by decide) ?_
        exact ih (rP R g) true _ (by have := oM1_up hW hg; show _ < _; simp only [oM1] at hd; omega) (rP_n hW hg) (by rw [h1, c_18]; rfl) rfl
      · refine go_iload (q := 23) dX10_comesFrom_21 rfl rfl ?_
        refine go_iload_n (q := 24) dX10_comesFrom_23 rfl rfl rfl ?_
        refine go_icmp_neN g f (q := 27) (t := 31) dX10_comesFrom_24 (by decide) rfl rfl rfl (hZ.b hg) hf (fun c_24 => ?_) (fun c_24 => ?_)
        · refine go_iconst (q := 32) (v := 0) dX10_comesFrom_31 (by decide) rfl ?_
          refine go_istore_n (q := 33) dX10_comesFrom_32 rfl (by decide) rfl rfl ?_
          refine go_aload_n (q := 34) dX10_comesFrom_33 rfl rfl rfl ?_
          refine go_iload (q := 36) dX10_comesFrom_34 rfl rfl ?_
          refine go_iconst (q := 37) (v := 2) dX10_comesFrom_36 (by decide) rfl ?_
          refine go_cV2 (cal := mX10_of) (q := 40) dX10_comesFrom_37 lRX10_45 vX10_of ⟨by decide, by decide⟩ rfl (by decide) (Nat.le_of_ble_eq_true rfl) (ok_mof (w := 2) (hZ.lt hg) (by decide)) rfl ?_
          refine go_topi (hZ.fa hg) ?_
          refine go_istore (q := 42) dX10_comesFrom_40 (by decide) rfl rfl ?_
          refine go_goto (q := 10) dX10_comesFrom_42 (by decide) ?_
          exact ih (rP R g) false _ (by have := oM1_up hW hg; show _ < _; simp only [oM1] at hd; omega) (rP_n hW hg) (by rw [h1, c_18]; show (false || (decide (g = f) || anc R f g)) = _; rw [decide_eq_false c_24, anc_O hW hg]; rfl) rfl
        · refine go_iconst (q := 28) (v := 1) dX10_comesFrom_27 (by decide) rfl ?_
          refine go_goto (q := 32) dX10_comesFrom_28 (by decide) ?_
          refine go_istore_n (q := 33) dX10_comesFrom_32 rfl (by decide) rfl rfl ?_
          refine go_aload_n (q := 34) dX10_comesFrom_33 rfl rfl rfl ?_
          refine go_iload (q := 36) dX10_comesFrom_34 rfl rfl ?_
          refine go_iconst (q := 37) (v := 2) dX10_comesFrom_36 (by decide) rfl ?_
          refine go_cV2 (cal := mX10_of) (q := 40) dX10_comesFrom_37 lRX10_45 vX10_of ⟨by decide, by decide⟩ rfl (by decide) (Nat.le_of_ble_eq_true rfl) (ok_mof (w := 2) (hZ.lt hg) (by decide)) rfl ?_
          refine go_topi (hZ.fa hg) ?_
          refine go_istore (q := 42) dX10_comesFrom_40 (by decide) rfl rfl ?_
          refine go_goto (q := 10) dX10_comesFrom_42 (by decide) ?_
          exact ih (rP R g) true _ (by have := oM1_up hW hg; show _ < _; simp only [oM1] at hd; omega) (rP_n hW hg) (by rw [h1, c_18]; show (false || (decide (g = f) || anc R f g)) = _; rw [decide_eq_true c_24]; rfl) rfl
theorem ok_mcomesFrom {M : KM} {R : RO} (hZ : ZA M R) (hW : rW R) {p f : Nat} (hp : p < rN R) (hf : f < 2 ^ 31) : OkF mX10_comesFrom [vR 14 0, vI (nI p), vI (nI f)] M (some (vI (bI (anc R f p)))) M := by
  refine ok_of (by decide) rfl (Nat.le_of_ble_eq_true rfl) ⟨rfl, rfl⟩ ?_
  show Go mX10_comesFrom (Zm (QF (some (vI (bI (anc R f p)))) M)) M [some (vR 14 0), some (vI (nI p)), some (vI (nI f)), none, none] [] 0
  refine go_iconst (q := 1) (v := 0) dX10_comesFrom_0 (by decide) rfl ?_
  refine go_istore_n (q := 2) dX10_comesFrom_1 rfl (by decide) rfl rfl ?_
  refine go_aload_n (q := 3) dX10_comesFrom_2 rfl rfl rfl ?_
  refine go_iload_n (q := 4) dX10_comesFrom_3 rfl rfl rfl ?_
  refine go_iconst (q := 5) (v := 2) dX10_comesFrom_4 (by decide) rfl ?_
  refine go_cV2 (cal := mX10_of) (q := 8) dX10_comesFrom_5 lRX10_45 vX10_of ⟨by decide, by decide⟩ rfl (by decide) (Nat.le_of_ble_eq_true rfl) (ok_mof (w := 2) (hZ.lt hp) (by decide)) rfl ?_
  refine go_topi (hZ.fa hp) ?_
  refine go_istore (q := 10) dX10_comesFrom_8 (by decide) rfl rfl ?_
  exact lp_mcomesFrom hZ hW hp hf _ (rP R p) false _ (Nat.lt_succ_self _) (rP_n hW hp) (by rw [anc_O hW hp]; rfl) rfl
theorem lp_mallFrom {M : KM} {R : RO} (hZ : ZA M R) (hW : rW R) {p : Nat} (hp : p < rN R) : ∀ (d : Nat) (j : Nat) (x y : Int32), rN R - j < d → (x = nI (cn (anc R p) j)) → (y = nI j) → (j ≤ rN R) → Go mX10_allFrom (Zm (QF (some (vI (nI (cn (anc R p) (rN R))))) M)) M [some (vR 14 0), some (vI (nI p)), some (vI x), some (vI y)] [] 4 := by
  intro d
  induction d with
  | zero => intro j x y hd; exact absurd hd (Nat.not_lt_zero _)
  | succ d ih =>
    intro j x y hd h0 h1 h2
    refine go_iload_n (q := 5) dX10_allFrom_4 rfl rfl rfl ?_
    refine go_aload_n (q := 6) dX10_allFrom_5 rfl rfl rfl ?_
    refine go_getf (q := 9) dX10_allFrom_6 fRX10_7 rfl (by decide) rfl rfl ?_
    refine go_iconst (q := 10) (v := 0) dX10_allFrom_9 (by decide) rfl ?_
    refine go_iald (q := 11) 0 dX10_allFrom_10 rfl rfl (by decide) rfl (by decide) rfl ?_
    refine go_icmp_geN j (rN R) (q := 14) (t := 37) dX10_allFrom_11 (by decide) rfl h1 (hZ.sz) (by have := hZ.le; omega) (by have := hZ.le; omega) (fun c_11 => ?_) (fun c_11 => ?_)
    · refine go_iload_n (q := 38) dX10_allFrom_37 rfl rfl rfl ?_
      exact go_ri dX10_allFrom_38 rfl (by rw [h0, show j = rN R by omega]) rfl
    · subst h1
      refine go_iload_n (q := 15) dX10_allFrom_14 rfl rfl rfl ?_
      refine go_aload_n (q := 16) dX10_allFrom_15 rfl rfl rfl ?_
      refine go_iload_n (q := 17) dX10_allFrom_16 rfl rfl rfl ?_
      refine go_iload_n (q := 18) dX10_allFrom_17 rfl rfl rfl ?_
      refine go_cV2 (cal := mX10_comesFrom) (q := 21) dX10_allFrom_18 lRX10_183 vX10_comesFrom ⟨by decide, by decide⟩ rfl (by decide) (Nat.le_of_ble_eq_true rfl) (ok_mcomesFrom hZ hW c_11 (hZ.b hp)) rfl ?_
      refine go_if_eqB (q := 24) (t := 28) dX10_allFrom_21 (by decide) rfl (fun c_21 => ?_) (fun c_21 => ?_)
      · refine go_iconst (q := 29) (v := 0) dX10_allFrom_28 (by decide) rfl ?_
        refine go_iadd (q := 30) dX10_allFrom_29 rfl ?_
        refine go_istore_n (q := 31) dX10_allFrom_30 rfl (by decide) rfl rfl ?_
        refine go_iinc (q := 34) (v := 1) dX10_allFrom_31 (by decide) rfl (by decide) rfl rfl ?_
        refine go_goto (q := 4) dX10_allFrom_34 (by decide) ?_
        exact ih (j + 1) _ _ (by omega) (by rw [h0, cn_f c_21]; exact Int32.add_zero _) (nI_1 j) (by omega)
      · refine go_iconst (q := 25) (v := 1) dX10_allFrom_24 (by decide) rfl ?_
        refine go_goto (q := 29) dX10_allFrom_25 (by decide) ?_
        refine go_iadd (q := 30) dX10_allFrom_29 rfl ?_
        refine go_istore_n (q := 31) dX10_allFrom_30 rfl (by decide) rfl rfl ?_
        refine go_iinc (q := 34) (v := 1) dX10_allFrom_31 (by decide) rfl (by decide) rfl rfl ?_
        refine go_goto (q := 4) dX10_allFrom_34 (by decide) ?_
        exact ih (j + 1) _ _ (by omega) (by rw [h0, cn_t c_21, nI_1]) (nI_1 j) (by omega)
theorem anc_cn {R : RO} (hW : rW R) (p : Nat) : cn (anc R p) (rN R) = cn (fun q => decide (p < q) && anc R p q) (rN R) := cn_congr (fun i hi => by
  cases h : anc R p i with
  | false => rw [Bool.and_false]
  | true => rw [decide_eq_true (anc_le hW (i + 1) i (by omega) hi h)]; rfl)
theorem ok_mallFrom {M : KM} {R : RO} (hZ : ZA M R) (hW : rW R) {p : Nat} (hp : p < rN R) : OkF mX10_allFrom [vR 14 0, vI (nI p)] M (some (vI (nI (cn (fun q => decide (p < q) && anc R p q) (rN R))))) M := by
  refine ok_of (by decide) rfl (Nat.le_of_ble_eq_true rfl) ⟨rfl, rfl⟩ ?_
  show Go mX10_allFrom (Zm (QF (some (vI (nI (cn (fun q => decide (p < q) && anc R p q) (rN R))))) M)) M [some (vR 14 0), some (vI (nI p)), none, none] [] 0
  refine go_iconst (q := 1) (v := 0) dX10_allFrom_0 (by decide) rfl ?_
  refine go_istore_n (q := 2) dX10_allFrom_1 rfl (by decide) rfl rfl ?_
  refine go_iconst (q := 3) (v := 0) dX10_allFrom_2 (by decide) rfl ?_
  refine go_istore_n (q := 4) dX10_allFrom_3 rfl (by decide) rfl rfl ?_
  rw [← anc_cn hW p]
  exact lp_mallFrom hZ hW hp (rN R + 1) 0 _ _ (by omega) rfl rfl (by omega)
theorem ok_mfarFF {M : KM} {R : RO} (hZ : ZA M R) (hW : rW R) {p : Nat} (hp : p < rN R) : OkF mX10_farFromFather [vR 14 0, vI (nI p)] M (some (vI (e4 (pF R p)))) M := by
  refine ok_of (by decide) rfl (Nat.le_of_ble_eq_true rfl) ⟨rfl, rfl⟩ ?_
  show Go mX10_farFromFather (Zm (QF (some (vI (e4 (pF R p)))) M)) M [some (vR 14 0), some (vI (nI p)), none] [] 0
  refine go_aload_n (q := 1) dX10_farFromFather_0 rfl rfl rfl ?_
  refine go_iload_n (q := 2) dX10_farFromFather_1 rfl rfl rfl ?_
  refine go_iconst (q := 3) (v := 2) dX10_farFromFather_2 (by decide) rfl ?_
  refine go_cV2 (cal := mX10_of) (q := 6) dX10_farFromFather_3 lRX10_45 vX10_of ⟨by decide, by decide⟩ rfl (by decide) (Nat.le_of_ble_eq_true rfl) (ok_mof (w := 2) (hZ.lt hp) (by decide)) rfl ?_
  refine go_topi (hZ.fa hp) ?_
  refine go_istore_n (q := 7) dX10_farFromFather_6 rfl (by decide) rfl rfl ?_
  refine go_iload_n (q := 8) dX10_farFromFather_7 rfl rfl rfl ?_
  refine go_bipush (q := 10) (v := (-4)) dX10_farFromFather_8 (by decide) rfl ?_
  refine go_icmp_ne (q := 13) (t := 18) dX10_farFromFather_10 (by decide) rfl (fun c_10 => ?_) (fun c_10 => ?_)
  · obtain ⟨g, hg⟩ := rP_not4 c_10
    have hgl := rP_n hW hp g hg
    refine go_aload_n (q := 19) dX10_farFromFather_18 rfl rfl rfl ?_
    refine go_iload_n (q := 20) dX10_farFromFather_19 rfl rfl rfl ?_
    refine go_iconst (q := 21) (v := 0) dX10_farFromFather_20 (by decide) rfl ?_
    refine go_cV2 (cal := mX10_of) (q := 24) dX10_farFromFather_21 lRX10_45 vX10_of ⟨by decide, by decide⟩ rfl (by decide) (Nat.le_of_ble_eq_true rfl) (ok_mof (w := 0) (hZ.lt hp) (by decide)) rfl ?_
    refine go_topi (hZ.sh hp) ?_
    refine go_aload_n (q := 25) dX10_farFromFather_24 rfl rfl rfl ?_
    refine go_iload_n (q := 26) dX10_farFromFather_25 rfl rfl rfl ?_
    refine go_topi (v := nI g) (by rw [hg]; rfl) ?_
    refine go_iconst (q := 27) (v := 0) dX10_farFromFather_26 (by decide) rfl ?_
    refine go_cV2 (cal := mX10_of) (q := 30) dX10_farFromFather_27 lRX10_45 vX10_of ⟨by decide, by decide⟩ rfl (by decide) (Nat.le_of_ble_eq_true rfl) (ok_mof (w := 0) (hZ.lt hgl) (by decide)) rfl ?_
    refine go_topi (hZ.sh hgl) ?_
    refine go_cS2 (cal := mX10_far) (q := 33) dX10_farFromFather_30 lRX10_137 vX10_far ⟨by decide, by decide⟩ (Nat.le_of_ble_eq_true rfl) (ok_mfar (by have := hW.2.1 p hp; omega) (by have := hW.2.1 g hgl; omega)) rfl ?_
    exact go_ri dX10_farFromFather_33 rfl (by unfold pF; rw [hg]; rfl) rfl
  · refine go_bipush (q := 15) (v := (-4)) dX10_farFromFather_13 (by decide) rfl ?_
    refine go_goto (q := 33) dX10_farFromFather_15 (by decide) ?_
    exact go_ri dX10_farFromFather_33 rfl (by unfold pF; rw [(e4_eq (rP_big hW hp)).mp (Classical.not_not.mp c_10)]; rfl) rfl
theorem ok_mperson {M : KM} {R : RO} (hZ : ZA M R) (hW : rW R) (x w : Int32) : OkF mX10_person [vR 14 0, vI x, vI w] M (some (vI (aPerson R x w))) M := by
  refine ok_of (by decide) rfl (Nat.le_of_ble_eq_true rfl) ⟨rfl, rfl⟩ ?_
  show Go mX10_person (Zm (QF (some (vI (aPerson R x w))) M)) M [some (vR 14 0), some (vI x), some (vI w)] [] 0
  refine go_aload_n (q := 1) dX10_person_0 rfl rfl rfl ?_
  refine go_iload_n (q := 2) dX10_person_1 rfl rfl rfl ?_
  refine go_cV1 (cal := mX10_isPerson) (q := 5) dX10_person_2 lRX10_116 vX10_isPerson ⟨by decide, by decide⟩ rfl (by decide) (Nat.le_of_ble_eq_true rfl) (ok_misPerson hZ _) rfl ?_
  refine go_if_neB (q := 8) (t := 10) dX10_person_5 (by decide) rfl (fun c_5 => ?_) (fun c_5 => ?_)
  · obtain ⟨p, hp⟩ := isSome_t c_5
    obtain ⟨hlt, rfl⟩ := pOf_some hp
    cases hk : pOf 12 w with
    | none =>
      refine go_iload_n (q := 11) dX10_person_10 rfl rfl rfl ?_
      refine go_tableOut (q := 125) dX10_person_11 (pOf12_out hk) (by decide) ?_
      refine go_iconst (q := 126) (v := (-1)) dX10_person_125 (by decide) rfl ?_
      exact go_ri dX10_person_126 rfl (by simp [aPerson, hk]) rfl
    | some k =>
      obtain ⟨hkl, rfl⟩ := pOf_some hk
      rcases (show k = 0 ∨ k = 1 ∨ k = 2 ∨ k = 3 ∨ k = 4 ∨ k = 5 ∨ k = 6 ∨ k = 7 ∨ k = 8 ∨ k = 9 ∨ k = 10 ∨ k = 11 by omega) with rfl | rfl | rfl | rfl | rfl | rfl | rfl | rfl | rfl | rfl | rfl | rfl
      · refine go_iload_n (q := 11) dX10_person_10 rfl rfl rfl ?_
        refine go_tableIn 0 (q := 72) dX10_person_11 (show (nI 0).toInt = 0 from by decide) (by decide) (by decide) rfl (by decide) ?_
        refine go_aload_n (q := 73) dX10_person_72 rfl rfl rfl ?_
        refine go_iload_n (q := 74) dX10_person_73 rfl rfl rfl ?_
        refine go_iload_n (q := 75) dX10_person_74 rfl rfl rfl ?_
        refine go_cV2 (cal := mX10_of) (q := 78) dX10_person_75 lRX10_45 vX10_of ⟨by decide, by decide⟩ rfl (by decide) (Nat.le_of_ble_eq_true rfl) (ok_mof (w := 0) (hZ.lt hlt) (by decide)) rfl ?_
        refine go_topi (hZ.sh hlt) ?_
        exact go_ri dX10_person_78 rfl (by simp [aPerson, hp, hk, pers]) rfl
      · refine go_iload_n (q := 11) dX10_person_10 rfl rfl rfl ?_
        refine go_tableIn 1 (q := 72) dX10_person_11 (show (nI 1).toInt = 1 from by decide) (by decide) (by decide) rfl (by decide) ?_
        refine go_aload_n (q := 73) dX10_person_72 rfl rfl rfl ?_
        refine go_iload_n (q := 74) dX10_person_73 rfl rfl rfl ?_
        refine go_iload_n (q := 75) dX10_person_74 rfl rfl rfl ?_
        refine go_cV2 (cal := mX10_of) (q := 78) dX10_person_75 lRX10_45 vX10_of ⟨by decide, by decide⟩ rfl (by decide) (Nat.le_of_ble_eq_true rfl) (ok_mof (w := 1) (hZ.lt hlt) (by decide)) rfl ?_
        refine go_topi (hZ.al hlt) ?_
        exact go_ri dX10_person_78 rfl (by simp [aPerson, hp, hk, pers]) rfl
      · refine go_iload_n (q := 11) dX10_person_10 rfl rfl rfl ?_
        refine go_tableIn 2 (q := 72) dX10_person_11 (show (nI 2).toInt = 2 from by decide) (by decide) (by decide) rfl (by decide) ?_
        refine go_aload_n (q := 73) dX10_person_72 rfl rfl rfl ?_
        refine go_iload_n (q := 74) dX10_person_73 rfl rfl rfl ?_
        refine go_iload_n (q := 75) dX10_person_74 rfl rfl rfl ?_
        refine go_cV2 (cal := mX10_of) (q := 78) dX10_person_75 lRX10_45 vX10_of ⟨by decide, by decide⟩ rfl (by decide) (Nat.le_of_ble_eq_true rfl) (ok_mof (w := 2) (hZ.lt hlt) (by decide)) rfl ?_
        refine go_topi (hZ.fa hlt) ?_
        exact go_ri dX10_person_78 rfl (by simp [aPerson, hp, hk, pers]) rfl
      · refine go_iload_n (q := 11) dX10_person_10 rfl rfl rfl ?_
        refine go_tableIn 3 (q := 72) dX10_person_11 (show (nI 3).toInt = 3 from by decide) (by decide) (by decide) rfl (by decide) ?_
        refine go_aload_n (q := 73) dX10_person_72 rfl rfl rfl ?_
        refine go_iload_n (q := 74) dX10_person_73 rfl rfl rfl ?_
        refine go_iload_n (q := 75) dX10_person_74 rfl rfl rfl ?_
        refine go_cV2 (cal := mX10_of) (q := 78) dX10_person_75 lRX10_45 vX10_of ⟨by decide, by decide⟩ rfl (by decide) (Nat.le_of_ble_eq_true rfl) (ok_mof (w := 3) (hZ.lt hlt) (by decide)) rfl ?_
        refine go_topi (hZ.pl hlt) ?_
        exact go_ri dX10_person_78 rfl (by simp [aPerson, hp, hk, pers]) rfl
      · refine go_iload_n (q := 11) dX10_person_10 rfl rfl rfl ?_
        refine go_tableIn 4 (q := 72) dX10_person_11 (show (nI 4).toInt = 4 from by decide) (by decide) (by decide) rfl (by decide) ?_
        refine go_aload_n (q := 73) dX10_person_72 rfl rfl rfl ?_
        refine go_iload_n (q := 74) dX10_person_73 rfl rfl rfl ?_
        refine go_iload_n (q := 75) dX10_person_74 rfl rfl rfl ?_
        refine go_cV2 (cal := mX10_of) (q := 78) dX10_person_75 lRX10_45 vX10_of ⟨by decide, by decide⟩ rfl (by decide) (Nat.le_of_ble_eq_true rfl) (ok_mof (w := 4) (hZ.lt hlt) (by decide)) rfl ?_
        refine go_topi (hZ.mk hlt) ?_
        exact go_ri dX10_person_78 rfl (by simp [aPerson, hp, hk, pers]) rfl
      · refine go_iload_n (q := 11) dX10_person_10 rfl rfl rfl ?_
        refine go_tableIn 5 (q := 79) dX10_person_11 (show (nI 5).toInt = 5 from by decide) (by decide) (by decide) rfl (by decide) ?_
        refine go_aload_n (q := 80) dX10_person_79 rfl rfl rfl ?_
        refine go_iload_n (q := 81) dX10_person_80 rfl rfl rfl ?_
        refine go_iconst (q := 82) (v := 0) dX10_person_81 (by decide) rfl ?_
        refine go_cV2 (cal := mX10_sonsOf) (q := 85) dX10_person_82 lRX10_112 vX10_sonsOf ⟨by decide, by decide⟩ rfl (by decide) (Nat.le_of_ble_eq_true rfl) (ok_msons0 hZ hW (hZ.b hlt)) rfl ?_
        exact go_ri dX10_person_85 rfl (by simp [aPerson, hp, hk, pers]) rfl
      · refine go_iload_n (q := 11) dX10_person_10 rfl rfl rfl ?_
        refine go_tableIn 6 (q := 86) dX10_person_11 (show (nI 6).toInt = 6 from by decide) (by decide) (by decide) rfl (by decide) ?_
        refine go_aload_n (q := 87) dX10_person_86 rfl rfl rfl ?_
        refine go_iload_n (q := 88) dX10_person_87 rfl rfl rfl ?_
        refine go_iconst (q := 89) (v := 1) dX10_person_88 (by decide) rfl ?_
        refine go_cV2 (cal := mX10_sonsOf) (q := 92) dX10_person_89 lRX10_112 vX10_sonsOf ⟨by decide, by decide⟩ rfl (by decide) (Nat.le_of_ble_eq_true rfl) (ok_msons1 hZ hW (hZ.b hlt)) rfl ?_
        exact go_ri dX10_person_92 rfl (by simp [aPerson, hp, hk, pers]) rfl
      · refine go_iload_n (q := 11) dX10_person_10 rfl rfl rfl ?_
        refine go_tableIn 7 (q := 93) dX10_person_11 (show (nI 7).toInt = 7 from by decide) (by decide) (by decide) rfl (by decide) ?_
        refine go_aload_n (q := 94) dX10_person_93 rfl rfl rfl ?_
        refine go_iload_n (q := 95) dX10_person_94 rfl rfl rfl ?_
        refine go_iconst (q := 96) (v := 0) dX10_person_95 (by decide) rfl ?_
        refine go_cV2 (cal := mX10_livingKin) (q := 99) dX10_person_96 lRX10_186 vX10_livingKin ⟨by decide, by decide⟩ rfl (by decide) (Nat.le_of_ble_eq_true rfl) (ok_mkin0 hZ hW hlt) rfl ?_
        exact go_ri dX10_person_99 rfl (by simp [aPerson, hp, hk, pers]) rfl
      · refine go_iload_n (q := 11) dX10_person_10 rfl rfl rfl ?_
        refine go_tableIn 8 (q := 100) dX10_person_11 (show (nI 8).toInt = 8 from by decide) (by decide) (by decide) rfl (by decide) ?_
        refine go_aload_n (q := 101) dX10_person_100 rfl rfl rfl ?_
        refine go_iload_n (q := 102) dX10_person_101 rfl rfl rfl ?_
        refine go_iconst (q := 103) (v := 1) dX10_person_102 (by decide) rfl ?_
        refine go_cV2 (cal := mX10_livingKin) (q := 106) dX10_person_103 lRX10_186 vX10_livingKin ⟨by decide, by decide⟩ rfl (by decide) (Nat.le_of_ble_eq_true rfl) (ok_mkin1 hZ hW hlt) rfl ?_
        exact go_ri dX10_person_106 rfl (by simp [aPerson, hp, hk, pers]) rfl
      · refine go_iload_n (q := 11) dX10_person_10 rfl rfl rfl ?_
        refine go_tableIn 9 (q := 107) dX10_person_11 (show (nI 9).toInt = 9 from by decide) (by decide) (by decide) rfl (by decide) ?_
        refine go_aload_n (q := 108) dX10_person_107 rfl rfl rfl ?_
        refine go_iload_n (q := 109) dX10_person_108 rfl rfl rfl ?_
        refine go_cV1 (cal := mX10_allFrom) (q := 112) dX10_person_109 lRX10_189 vX10_allFrom ⟨by decide, by decide⟩ rfl (by decide) (Nat.le_of_ble_eq_true rfl) (ok_mallFrom hZ hW hlt) rfl ?_
        exact go_ri dX10_person_112 rfl (by simp [aPerson, hp, hk, pers]) rfl
      · refine go_iload_n (q := 11) dX10_person_10 rfl rfl rfl ?_
        refine go_tableIn 10 (q := 113) dX10_person_11 (show (nI 10).toInt = 10 from by decide) (by decide) (by decide) rfl (by decide) ?_
        refine go_aload_n (q := 114) dX10_person_113 rfl rfl rfl ?_
        refine go_iload_n (q := 115) dX10_person_114 rfl rfl rfl ?_
        refine go_cV1 (cal := mX10_depth) (q := 118) dX10_person_115 lRX10_192 vX10_depth ⟨by decide, by decide⟩ rfl (by decide) (Nat.le_of_ble_eq_true rfl) (ok_mdepth hZ hW hlt) rfl ?_
        exact go_ri dX10_person_118 rfl (by simp [aPerson, hp, hk, pers]) rfl
      · refine go_iload_n (q := 11) dX10_person_10 rfl rfl rfl ?_
        refine go_tableIn 11 (q := 119) dX10_person_11 (show (nI 11).toInt = 11 from by decide) (by decide) (by decide) rfl (by decide) ?_
        refine go_aload_n (q := 120) dX10_person_119 rfl rfl rfl ?_
        refine go_iload_n (q := 121) dX10_person_120 rfl rfl rfl ?_
        refine go_cV1 (cal := mX10_farFromFather) (q := 124) dX10_person_121 lRX10_195 vX10_farFromFather ⟨by decide, by decide⟩ rfl (by decide) (Nat.le_of_ble_eq_true rfl) (ok_mfarFF hZ hW hlt) rfl ?_
        exact go_ri dX10_person_124 rfl (by simp [aPerson, hp, hk, pers]) rfl
  · refine go_iconst (q := 9) (v := (-1)) dX10_person_8 (by decide) rfl ?_
    exact go_ri dX10_person_9 rfl (by simp [aPerson, isSome_f c_5]) rfl
theorem ok_mmark {M : KM} {R : RO} (hZ : ZA M R) (hW : rW R) (x y : Int32) : OkF mX10_mark [vR 14 0, vI x, vI y] M (some (vI (aMark R x y))) M := by
  refine ok_of (by decide) rfl (Nat.le_of_ble_eq_true rfl) ⟨rfl, rfl⟩ ?_
  show Go mX10_mark (Zm (QF (some (vI (aMark R x y))) M)) M [some (vR 14 0), some (vI x), some (vI y)] [] 0
  refine go_aload_n (q := 1) dX10_mark_0 rfl rfl rfl ?_
  refine go_iload_n (q := 2) dX10_mark_1 rfl rfl rfl ?_
  refine go_cV1 (cal := mX10_isPerson) (q := 5) dX10_mark_2 lRX10_116 vX10_isPerson ⟨by decide, by decide⟩ rfl (by decide) (Nat.le_of_ble_eq_true rfl) (ok_misPerson hZ _) rfl ?_
  refine go_if_eqB (q := 8) (t := 30) dX10_mark_5 (by decide) rfl (fun c_5 => ?_) (fun c_5 => ?_)
  · refine go_iconst (q := 31) (v := (-1)) dX10_mark_30 (by decide) rfl ?_
    exact go_ri dX10_mark_31 rfl (by simp [aMark, isSome_f c_5]) rfl
  · refine go_iload_n (q := 9) dX10_mark_8 rfl rfl rfl ?_
    refine go_iconst (q := 10) (v := 0) dX10_mark_9 (by decide) rfl ?_
    refine go_iconst (q := 11) (v := 5) dX10_mark_10 (by decide) rfl ?_
    refine go_cS3 (cal := mX10_in) (q := 14) dX10_mark_11 lRX10_41 vX10_in ⟨by decide, by decide⟩ (Nat.le_of_ble_eq_true rfl) (ok_min M _ _ _) rfl ?_
    refine go_topi (v := bI (pOf 6 y).isSome) (by rw [← in_pOf (by decide)]; rfl) ?_
    refine go_if_eqB (q := 17) (t := 30) dX10_mark_14 (by decide) rfl (fun c_14 => ?_) (fun c_14 => ?_)
    · refine go_iconst (q := 31) (v := (-1)) dX10_mark_30 (by decide) rfl ?_
      exact go_ri dX10_mark_31 rfl (by simp [aMark, isSome_f c_14]) rfl
    · obtain ⟨p, hp⟩ := isSome_t c_5
      obtain ⟨hlt, rfl⟩ := pOf_some hp
      obtain ⟨k, hk⟩ := isSome_t c_14
      obtain ⟨hkl, rfl⟩ := pOf_some hk
      refine go_aload_n (q := 18) dX10_mark_17 rfl rfl rfl ?_
      refine go_iload_n (q := 19) dX10_mark_18 rfl rfl rfl ?_
      refine go_iconst (q := 20) (v := 0) dX10_mark_19 (by decide) rfl ?_
      refine go_cV2 (cal := mX10_of) (q := 23) dX10_mark_20 lRX10_45 vX10_of ⟨by decide, by decide⟩ rfl (by decide) (Nat.le_of_ble_eq_true rfl) (ok_mof (w := 0) (hZ.lt hlt) (by decide)) rfl ?_
      refine go_topi (hZ.sh hlt) ?_
      refine go_iload_n (q := 24) dX10_mark_23 rfl rfl rfl ?_
      refine go_cS2 (cal := mX10_markOf) (q := 27) dX10_mark_24 lRX10_53 vX10_markOf ⟨by decide, by decide⟩ (Nat.le_of_ble_eq_true rfl) (ok_mmarkOf (by have := hW.2.1 p hlt; omega) hkl) rfl ?_
      refine go_goto (q := 31) dX10_mark_27 (by decide) ?_
      exact go_ri dX10_mark_31 rfl (by simp [aMark, hp, hk]) rfl
theorem ok_mwhyNot {M : KM} {R : RO} (hZ : ZA M R) (hW : rW R) (x y z : Int32) : OkF mX10_whyNot [vR 14 0, vI x, vI y, vI z] M (some (vI (aWhyNot R x y z))) M := by
  refine ok_of (by decide) rfl (Nat.le_of_ble_eq_true rfl) ⟨rfl, rfl⟩ ?_
  show Go mX10_whyNot (Zm (QF (some (vI (aWhyNot R x y z))) M)) M [some (vR 14 0), some (vI x), some (vI y), some (vI z)] [] 0
  refine go_aload_n (q := 1) dX10_whyNot_0 rfl rfl rfl ?_
  refine go_iload_n (q := 2) dX10_whyNot_1 rfl rfl rfl ?_
  refine go_cV1 (cal := mX10_isPerson) (q := 5) dX10_whyNot_2 lRX10_116 vX10_isPerson ⟨by decide, by decide⟩ rfl (by decide) (Nat.le_of_ble_eq_true rfl) (ok_misPerson hZ _) rfl ?_
  refine go_if_eqB (q := 8) (t := 26) dX10_whyNot_5 (by decide) rfl (fun c_5 => ?_) (fun c_5 => ?_)
  · refine go_iconst (q := 27) (v := (-1)) dX10_whyNot_26 (by decide) rfl ?_
    exact go_ri dX10_whyNot_27 rfl (by simp [aWhyNot, isSome_f c_5]) rfl
  · refine go_iload_n (q := 9) dX10_whyNot_8 rfl rfl rfl ?_
    refine go_iload_n (q := 10) dX10_whyNot_9 rfl rfl rfl ?_
    refine go_cS2 (cal := mX10_isChange) (q := 13) dX10_whyNot_10 lRX10_119 vX10_isChange ⟨by decide, by decide⟩ (Nat.le_of_ble_eq_true rfl) (ok_misChange M _ _) rfl ?_
    refine go_if_eqB (q := 16) (t := 26) dX10_whyNot_13 (by decide) rfl (fun c_13 => ?_) (fun c_13 => ?_)
    · refine go_iconst (q := 27) (v := (-1)) dX10_whyNot_26 (by decide) rfl ?_
      exact go_ri dX10_whyNot_27 rfl (by unfold aWhyNot; revert c_13; cases pOf (rN R) x <;> cases pOf 6 y <;> cases pOf 5 z <;> simp) rfl
    · obtain ⟨p, hp⟩ := isSome_t c_5
      obtain ⟨hlt, rfl⟩ := pOf_some hp
      have h1 : (pOf 6 y).isSome = true := by revert c_13; cases (pOf 6 y).isSome <;> simp
      have h2 : (pOf 5 z).isSome = true := by revert c_13; cases (pOf 6 y).isSome <;> cases (pOf 5 z).isSome <;> simp
      obtain ⟨k, hk⟩ := isSome_t h1
      obtain ⟨hkl, rfl⟩ := pOf_some hk
      obtain ⟨m, hm⟩ := isSome_t h2
      obtain ⟨hml, rfl⟩ := pOf_some hm
      refine go_aload_n (q := 17) dX10_whyNot_16 rfl rfl rfl ?_
      refine go_iload_n (q := 18) dX10_whyNot_17 rfl rfl rfl ?_
      refine go_iload_n (q := 19) dX10_whyNot_18 rfl rfl rfl ?_
      refine go_iload_n (q := 20) dX10_whyNot_19 rfl rfl rfl ?_
      refine go_cV3 (cal := mX10_reason) (q := 23) dX10_whyNot_20 lRX10_122 vX10_reason ⟨by decide, by decide⟩ rfl (by decide) (Nat.le_of_ble_eq_true rfl) (ok_mreason hZ hW hlt hkl hml) rfl ?_
      refine go_goto (q := 27) dX10_whyNot_23 (by decide) ?_
      exact go_ri dX10_whyNot_27 rfl (by simp [aWhyNot, hp, hk, hm]) rfl
theorem lp_mchoicesOf {M : KM} {R : RO} (hZ : ZA M R) (hW : rW R) {f : Nat} (hf : f < rN R) : ∀ (d : Nat) (j : Nat) (x y : Int32), 30 - j < d → (x = nI (cn (fun c => whyS R f (c / 5) (c % 5) == 0) j)) → (y = nI j) → (j ≤ 30) → Go mX10_choicesOf (Zm (QF (some (vI (nI (left1 R f)))) M)) M [some (vR 14 0), some (vI (nI f)), some (vI x), some (vI y)] [] 4 := by
  intro d
  induction d with
  | zero => intro j x y hd; exact absurd hd (Nat.not_lt_zero _)
  | succ d ih =>
    intro j x y hd h0 h1 h2
    refine go_iload_n (q := 5) dX10_choicesOf_4 rfl rfl rfl ?_
    refine go_bipush (q := 7) (v := 30) dX10_choicesOf_5 (by decide) rfl ?_
    refine go_icmp_geN j 30 (q := 10) (t := 38) dX10_choicesOf_7 (by decide) rfl h1 rfl (by omega) (by omega) (fun c_7 => ?_) (fun c_7 => ?_)
    · refine go_iload_n (q := 39) dX10_choicesOf_38 rfl rfl rfl ?_
      exact go_ri dX10_choicesOf_39 rfl (by rw [h0, show j = 30 by omega]; rfl) rfl
    · subst h1
      refine go_iload_n (q := 11) dX10_choicesOf_10 rfl rfl rfl ?_
      refine go_aload_n (q := 12) dX10_choicesOf_11 rfl rfl rfl ?_
      refine go_iload_n (q := 13) dX10_choicesOf_12 rfl rfl rfl ?_
      refine go_iload_n (q := 14) dX10_choicesOf_13 rfl rfl rfl ?_
      refine go_iconst (q := 15) (v := 5) dX10_choicesOf_14 (by decide) rfl ?_
      refine go_idiv (q := 16) dX10_choicesOf_15 (by decide) rfl ?_
      refine go_topi (v := nI (j / 5)) (nI_div5 (by omega)) ?_
      refine go_iload_n (q := 17) dX10_choicesOf_16 rfl rfl rfl ?_
      refine go_iconst (q := 18) (v := 5) dX10_choicesOf_17 (by decide) rfl ?_
      refine go_irem (q := 19) dX10_choicesOf_18 (by decide) rfl ?_
      refine go_topi (v := nI (j % 5)) (nI_rem5 (by omega)) ?_
      refine go_cV3 (cal := mX10_reason) (q := 22) dX10_choicesOf_19 lRX10_122 vX10_reason ⟨by decide, by decide⟩ rfl (by decide) (Nat.le_of_ble_eq_true rfl) (ok_mreason hZ hW hf (by omega) (by omega)) rfl ?_
      refine go_if_neN (whyS R f (j / 5) (j % 5)) (q := 25) (t := 29) dX10_choicesOf_22 (by decide) rfl rfl (by have := whyS_big R f (j / 5) (j % 5); omega) (fun c_22 => ?_) (fun c_22 => ?_)
      · refine go_iconst (q := 30) (v := 0) dX10_choicesOf_29 (by decide) rfl ?_
        refine go_iadd (q := 31) dX10_choicesOf_30 rfl ?_
        refine go_istore_n (q := 32) dX10_choicesOf_31 rfl (by decide) rfl rfl ?_
        refine go_iinc (q := 35) (v := 1) dX10_choicesOf_32 (by decide) rfl (by decide) rfl rfl ?_
        refine go_goto (q := 4) dX10_choicesOf_35 (by decide) ?_
        exact ih (j + 1) _ _ (by omega) (by rw [h0, cn_f (by simpa using c_22)]; exact Int32.add_zero _) (nI_1 j) (by omega)
      · refine go_iconst (q := 26) (v := 1) dX10_choicesOf_25 (by decide) rfl ?_
        refine go_goto (q := 30) dX10_choicesOf_26 (by decide) ?_
        refine go_iadd (q := 31) dX10_choicesOf_30 rfl ?_
        refine go_istore_n (q := 32) dX10_choicesOf_31 rfl (by decide) rfl rfl ?_
        refine go_iinc (q := 35) (v := 1) dX10_choicesOf_32 (by decide) rfl (by decide) rfl rfl ?_
        refine go_goto (q := 4) dX10_choicesOf_35 (by decide) ?_
        exact ih (j + 1) _ _ (by omega) (by rw [h0, cn_t (by simpa using c_22), nI_1]) (nI_1 j) (by omega)
theorem ok_mchoicesOf {M : KM} {R : RO} (hZ : ZA M R) (hW : rW R) {f : Nat} (hf : f < rN R) : OkF mX10_choicesOf [vR 14 0, vI (nI f)] M (some (vI (nI (left1 R f)))) M := by
  refine ok_of (by decide) rfl (Nat.le_of_ble_eq_true rfl) ⟨rfl, rfl⟩ ?_
  show Go mX10_choicesOf (Zm (QF (some (vI (nI (left1 R f)))) M)) M [some (vR 14 0), some (vI (nI f)), none, none] [] 0
  refine go_iconst (q := 1) (v := 0) dX10_choicesOf_0 (by decide) rfl ?_
  refine go_istore_n (q := 2) dX10_choicesOf_1 rfl (by decide) rfl rfl ?_
  refine go_iconst (q := 3) (v := 0) dX10_choicesOf_2 (by decide) rfl ?_
  refine go_istore_n (q := 4) dX10_choicesOf_3 rfl (by decide) rfl rfl ?_
  exact lp_mchoicesOf hZ hW hf 31 0 _ _ (by omega) rfl rfl (by omega)
theorem ok_mchoices {M : KM} {R : RO} (hZ : ZA M R) (hW : rW R) (x w : Int32) : OkF mX10_choices [vR 14 0, vI x, vI w] M (some (vI (aChoices R x w))) M := by
  refine ok_of (by decide) rfl (Nat.le_of_ble_eq_true rfl) ⟨rfl, rfl⟩ ?_
  show Go mX10_choices (Zm (QF (some (vI (aChoices R x w))) M)) M [some (vR 14 0), some (vI x), some (vI w)] [] 0
  refine go_aload_n (q := 1) dX10_choices_0 rfl rfl rfl ?_
  refine go_iload_n (q := 2) dX10_choices_1 rfl rfl rfl ?_
  refine go_cV1 (cal := mX10_isPerson) (q := 5) dX10_choices_2 lRX10_116 vX10_isPerson ⟨by decide, by decide⟩ rfl (by decide) (Nat.le_of_ble_eq_true rfl) (ok_misPerson hZ _) rfl ?_
  refine go_if_eqB (q := 8) (t := 25) dX10_choices_5 (by decide) rfl (fun c_5 => ?_) (fun c_5 => ?_)
  · refine go_iconst (q := 26) (v := (-1)) dX10_choices_25 (by decide) rfl ?_
    exact go_ri dX10_choices_26 rfl (by simp [aChoices, isSome_f c_5]) rfl
  · refine go_iload_n (q := 9) dX10_choices_8 rfl rfl rfl ?_
    refine go_iconst (q := 10) (v := 0) dX10_choices_9 (by decide) rfl ?_
    refine go_iconst (q := 11) (v := 1) dX10_choices_10 (by decide) rfl ?_
    refine go_cS3 (cal := mX10_in) (q := 14) dX10_choices_11 lRX10_41 vX10_in ⟨by decide, by decide⟩ (Nat.le_of_ble_eq_true rfl) (ok_min M _ _ _) rfl ?_
    refine go_topi (v := bI (pOf 2 w).isSome) (by rw [← in_pOf (by decide)]; rfl) ?_
    refine go_if_eqB (q := 17) (t := 25) dX10_choices_14 (by decide) rfl (fun c_14 => ?_) (fun c_14 => ?_)
    · refine go_iconst (q := 26) (v := (-1)) dX10_choices_25 (by decide) rfl ?_
      exact go_ri dX10_choices_26 rfl (by simp [aChoices, isSome_f c_14]) rfl
    · obtain ⟨p, hp⟩ := isSome_t c_5
      obtain ⟨hlt, rfl⟩ := pOf_some hp
      obtain ⟨k, hk⟩ := isSome_t c_14
      refine go_aload_n (q := 18) dX10_choices_17 rfl rfl rfl ?_
      refine go_iload_n (q := 19) dX10_choices_18 rfl rfl rfl ?_
      refine go_cV1 (cal := mX10_choicesOf) (q := 22) dX10_choices_19 lRX10_198 vX10_choicesOf ⟨by decide, by decide⟩ rfl (by decide) (Nat.le_of_ble_eq_true rfl) (ok_mchoicesOf hZ hW hlt) rfl ?_
      refine go_goto (q := 26) dX10_choices_22 (by decide) ?_
      exact go_ri dX10_choices_26 rfl (by simp [aChoices, hp, hk]) rfl
theorem ok_mbearer {M : KM} {R : RO} (hZ : ZA M R) (hW : rW R) (x : Int32) : OkF mX10_bearer [vR 14 0, vI x] M (some (vI (aBearer R x))) M := by
  refine ok_of (by decide) rfl (Nat.le_of_ble_eq_true rfl) ⟨rfl, rfl⟩ ?_
  show Go mX10_bearer (Zm (QF (some (vI (aBearer R x))) M)) M [some (vR 14 0), some (vI x)] [] 0
  refine go_iload_n (q := 1) dX10_bearer_0 rfl rfl rfl ?_
  refine go_cS1 (cal := mX10_isShield) (q := 4) dX10_bearer_1 lRX10_86 vX10_isShield ⟨by decide, by decide⟩ (Nat.le_of_ble_eq_true rfl) (ok_misShield M _) rfl ?_
  refine go_if_eqB (q := 7) (t := 15) dX10_bearer_4 (by decide) rfl (fun c_4 => ?_) (fun c_4 => ?_)
  · refine go_iconst (q := 16) (v := (-1)) dX10_bearer_15 (by decide) rfl ?_
    exact go_ri dX10_bearer_16 rfl (by simp [aBearer, isSome_f c_4]) rfl
  · obtain ⟨p, hp⟩ := isSome_t c_4
    obtain ⟨hlt, rfl⟩ := pOf_some hp
    refine go_aload_n (q := 8) dX10_bearer_7 rfl rfl rfl ?_
    refine go_iload_n (q := 9) dX10_bearer_8 rfl rfl rfl ?_
    refine go_cV1 (cal := mX10_bears) (q := 12) dX10_bearer_9 lRX10_89 vX10_bears ⟨by decide, by decide⟩ rfl (by decide) (Nat.le_of_ble_eq_true rfl) (ok_mbears hZ hW (by omega)) rfl ?_
    refine go_goto (q := 16) dX10_bearer_12 (by decide) ?_
    exact go_ri dX10_bearer_16 rfl (by simp [aBearer, hp]) rfl
theorem lp_mkin {M : KM} {R : RO} (hZ : ZA M R) (hW : rW R) {p q : Nat} (hp : p < rN R) (hq : q < rN R) : ∀ (d : Nat) (a b s : Nat) (y : Int32), a + b < d → (a < rN R) → (b < rN R) → (kinR R p q = (kinR R a b).map (fun x => x + s)) → (y = nI s) → Go mX10_kin (Zm (QF (some (vI (e4 (kinR R p q)))) M)) M [some (vR 14 0), some (vI (nI p)), some (vI (nI q)), some (vI (nI a)), some (vI (nI b)), some (vI y)] [] 26 := by
  intro d
  induction d with
  | zero => intro a b s y hd; exact absurd hd (Nat.not_lt_zero _)
  | succ d ih =>
    intro a b s y hd h0 h1 h2 h3
    refine go_iload_n (q := 27) dX10_kin_26 rfl rfl rfl ?_
    refine go_iload (q := 29) dX10_kin_27 rfl rfl ?_
    refine go_icmp_eqN a b (q := 32) (t := 90) dX10_kin_29 (by decide) rfl rfl rfl (hZ.b h0) (hZ.b h1) (fun c_29 => ?_) (fun c_29 => ?_)
    · refine go_iload_n (q := 91) dX10_kin_90 rfl rfl rfl ?_
      refine go_iload (q := 93) dX10_kin_91 rfl rfl ?_
      refine go_icmp_neN a b (q := 96) (t := 101) dX10_kin_93 (by decide) rfl rfl rfl (hZ.b h0) (hZ.b h1) (fun c_93 => ?_) (fun c_93 => ?_)
      · omega
      · refine go_iload (q := 98) dX10_kin_96 rfl rfl ?_
        refine go_goto (q := 103) dX10_kin_98 (by decide) ?_
        exact go_ri dX10_kin_103 rfl (by rw [h2, show b = a by omega, kin_self, h3]; show nI s = nI (0 + s); rw [Nat.zero_add]) rfl
    · refine go_iload_n (q := 33) dX10_kin_32 rfl rfl rfl ?_
      refine go_iload (q := 35) dX10_kin_33 rfl rfl ?_
      refine go_icmp_leN a b (q := 38) (t := 47) dX10_kin_35 (by decide) rfl rfl rfl (hZ.b h0) (hZ.b h1) (fun c_35 => ?_) (fun c_35 => ?_)
      · refine go_aload_n (q := 48) dX10_kin_47 rfl rfl rfl ?_
        refine go_iload (q := 50) dX10_kin_48 rfl rfl ?_
        refine go_iconst (q := 51) (v := 2) dX10_kin_50 (by decide) rfl ?_
        refine go_cV2 (cal := mX10_of) (q := 54) dX10_kin_51 lRX10_45 vX10_of ⟨by decide, by decide⟩ rfl (by decide) (Nat.le_of_ble_eq_true rfl) (ok_mof (w := 2) (hZ.lt h1) (by decide)) rfl ?_
        refine go_topi (hZ.fa h1) ?_
        refine go_bipush (q := 56) (v := (-4)) dX10_kin_54 (by decide) rfl ?_
        refine go_icmp_eq (q := 59) (t := 90) dX10_kin_56 (by decide) rfl (fun c_56 => ?_) (fun c_56 => ?_)
        · have h56 : kinR R p q = none := by rw [h2, kin_lt hW h0 h1 (by omega), (e4_eq (rP_big hW h1)).mp c_56]; rfl
          refine go_iload_n (q := 91) dX10_kin_90 rfl rfl rfl ?_
          refine go_iload (q := 93) dX10_kin_91 rfl rfl ?_
          refine go_icmp_neN a b (q := 96) (t := 101) dX10_kin_93 (by decide) rfl rfl rfl (hZ.b h0) (hZ.b h1) (fun c_93 => ?_) (fun c_93 => ?_)
          · refine go_bipush (q := 103) (v := (-4)) dX10_kin_101 (by decide) rfl ?_
            exact go_ri dX10_kin_103 rfl (by rw [h56]; rfl) rfl
          · omega
        · obtain ⟨g, hg⟩ := rP_not4 c_56
          refine go_iload_n (q := 60) dX10_kin_59 rfl rfl rfl ?_
          refine go_iload (q := 62) dX10_kin_60 rfl rfl ?_
          refine go_icmp_leN a b (q := 65) (t := 75) dX10_kin_62 (by decide) rfl rfl rfl (hZ.b h0) (hZ.b h1) (fun c_62 => ?_) (fun c_62 => ?_)
          · refine go_aload_n (q := 76) dX10_kin_75 rfl rfl rfl ?_
            refine go_iload (q := 78) dX10_kin_76 rfl rfl ?_
            refine go_iconst (q := 79) (v := 2) dX10_kin_78 (by decide) rfl ?_
            refine go_cV2 (cal := mX10_of) (q := 82) dX10_kin_79 lRX10_45 vX10_of ⟨by decide, by decide⟩ rfl (by decide) (Nat.le_of_ble_eq_true rfl) (ok_mof (w := 2) (hZ.lt h1) (by decide)) rfl ?_
            refine go_topi (v := nI g) ((hZ.fa h1).trans (by rw [hg]; rfl)) ?_
            refine go_istore (q := 84) dX10_kin_82 (by decide) rfl rfl ?_
            refine go_iinc (q := 87) (v := 1) dX10_kin_84 (by decide) rfl (by decide) rfl rfl ?_
            refine go_goto (q := 26) dX10_kin_87 (by decide) ?_
            exact ih a g (s + 1) _ (by have := rP_lt hW h1 g hg; omega) h0 (rP_n hW h1 g hg) (by rw [h2, kin_lt hW h0 h1 (by omega), hg]; exact map_add) (by rw [h3, nI_1])
          · omega
      · refine go_aload_n (q := 39) dX10_kin_38 rfl rfl rfl ?_
        refine go_iload_n (q := 40) dX10_kin_39 rfl rfl rfl ?_
        refine go_iconst (q := 41) (v := 2) dX10_kin_40 (by decide) rfl ?_
        refine go_cV2 (cal := mX10_of) (q := 44) dX10_kin_41 lRX10_45 vX10_of ⟨by decide, by decide⟩ rfl (by decide) (Nat.le_of_ble_eq_true rfl) (ok_mof (w := 2) (hZ.lt h0) (by decide)) rfl ?_
        refine go_topi (hZ.fa h0) ?_
        refine go_goto (q := 54) dX10_kin_44 (by decide) ?_
        refine go_bipush (q := 56) (v := (-4)) dX10_kin_54 (by decide) rfl ?_
        refine go_icmp_eq (q := 59) (t := 90) dX10_kin_56 (by decide) rfl (fun c_56 => ?_) (fun c_56 => ?_)
        · have h56 : kinR R p q = none := by rw [h2, kin_gt hW h0 h1 (by omega), (e4_eq (rP_big hW h0)).mp c_56]; rfl
          refine go_iload_n (q := 91) dX10_kin_90 rfl rfl rfl ?_
          refine go_iload (q := 93) dX10_kin_91 rfl rfl ?_
          refine go_icmp_neN a b (q := 96) (t := 101) dX10_kin_93 (by decide) rfl rfl rfl (hZ.b h0) (hZ.b h1) (fun c_93 => ?_) (fun c_93 => ?_)
          · refine go_bipush (q := 103) (v := (-4)) dX10_kin_101 (by decide) rfl ?_
            exact go_ri dX10_kin_103 rfl (by rw [h56]; rfl) rfl
          · omega
        · obtain ⟨g, hg⟩ := rP_not4 c_56
          refine go_iload_n (q := 60) dX10_kin_59 rfl rfl rfl ?_
          refine go_iload (q := 62) dX10_kin_60 rfl rfl ?_
          refine go_icmp_leN a b (q := 65) (t := 75) dX10_kin_62 (by decide) rfl rfl rfl (hZ.b h0) (hZ.b h1) (fun c_62 => ?_) (fun c_62 => ?_)
          · omega
          · refine go_aload_n (q := 66) dX10_kin_65 rfl rfl rfl ?_
            refine go_iload_n (q := 67) dX10_kin_66 rfl rfl rfl ?_
            refine go_iconst (q := 68) (v := 2) dX10_kin_67 (by decide) rfl ?_
            refine go_cV2 (cal := mX10_of) (q := 71) dX10_kin_68 lRX10_45 vX10_of ⟨by decide, by decide⟩ rfl (by decide) (Nat.le_of_ble_eq_true rfl) (ok_mof (w := 2) (hZ.lt h0) (by decide)) rfl ?_
            refine go_topi (v := nI g) ((hZ.fa h0).trans (by rw [hg]; rfl)) ?_
            refine go_istore_n (q := 72) dX10_kin_71 rfl (by decide) rfl rfl ?_
            refine go_goto (q := 84) dX10_kin_72 (by decide) ?_
            refine go_iinc (q := 87) (v := 1) dX10_kin_84 (by decide) rfl (by decide) rfl rfl ?_
            refine go_goto (q := 26) dX10_kin_87 (by decide) ?_
            exact ih g b (s + 1) _ (by have := rP_lt hW h0 g hg; omega) (rP_n hW h0 g hg) h1 (by rw [h2, kin_gt hW h0 h1 (by omega), hg]; exact map_add) (by rw [h3, nI_1])
theorem ok_mkin {M : KM} {R : RO} (hZ : ZA M R) (hW : rW R) (x y : Int32) : OkF mX10_kin [vR 14 0, vI x, vI y] M (some (vI (aKin R x y))) M := by
  refine ok_of (by decide) rfl (Nat.le_of_ble_eq_true rfl) ⟨rfl, rfl⟩ ?_
  show Go mX10_kin (Zm (QF (some (vI (aKin R x y))) M)) M [some (vR 14 0), some (vI x), some (vI y), none, none, none] [] 0
  refine go_aload_n (q := 1) dX10_kin_0 rfl rfl rfl ?_
  refine go_iload_n (q := 2) dX10_kin_1 rfl rfl rfl ?_
  refine go_cV1 (cal := mX10_isPerson) (q := 5) dX10_kin_2 lRX10_116 vX10_isPerson ⟨by decide, by decide⟩ rfl (by decide) (Nat.le_of_ble_eq_true rfl) (ok_misPerson hZ _) rfl ?_
  refine go_if_eqB (q := 8) (t := 16) dX10_kin_5 (by decide) rfl (fun c_5 => ?_) (fun c_5 => ?_)
  · refine go_iconst (q := 17) (v := (-1)) dX10_kin_16 (by decide) rfl ?_
    exact go_ri dX10_kin_17 rfl (by simp [aKin, isSome_f c_5]) rfl
  · refine go_aload_n (q := 9) dX10_kin_8 rfl rfl rfl ?_
    refine go_iload_n (q := 10) dX10_kin_9 rfl rfl rfl ?_
    refine go_cV1 (cal := mX10_isPerson) (q := 13) dX10_kin_10 lRX10_116 vX10_isPerson ⟨by decide, by decide⟩ rfl (by decide) (Nat.le_of_ble_eq_true rfl) (ok_misPerson hZ _) rfl ?_
    refine go_if_neB (q := 16) (t := 18) dX10_kin_13 (by decide) rfl (fun c_13 => ?_) (fun c_13 => ?_)
    · obtain ⟨p, hp⟩ := isSome_t c_5
      obtain ⟨hlt, rfl⟩ := pOf_some hp
      obtain ⟨q, hq⟩ := isSome_t c_13
      obtain ⟨hql, rfl⟩ := pOf_some hq
      refine go_iload_n (q := 19) dX10_kin_18 rfl rfl rfl ?_
      refine go_istore_n (q := 20) dX10_kin_19 rfl (by decide) rfl rfl ?_
      refine go_iload_n (q := 21) dX10_kin_20 rfl rfl rfl ?_
      refine go_istore (q := 23) dX10_kin_21 (by decide) rfl rfl ?_
      refine go_iconst (q := 24) (v := 0) dX10_kin_23 (by decide) rfl ?_
      refine go_istore (q := 26) dX10_kin_24 (by decide) rfl rfl ?_
      rw [show aKin R (nI p) (nI q) = e4 (kinR R p q) by simp [aKin, hp, hq]]
      exact lp_mkin hZ hW hlt hql _ p q 0 _ (Nat.lt_succ_self _) hlt hql (by cases kinR R p q <;> rfl) rfl
    · refine go_iconst (q := 17) (v := (-1)) dX10_kin_16 (by decide) rfl ?_
      exact go_ri dX10_kin_17 rfl (by simp [aKin, isSome_f c_13]) rfl
