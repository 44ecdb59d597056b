/-! ===== the law's methods: act, found and bear ===== -/
theorem go_if_eqN {I : KI} {Z : KZ} {M : KM} {loc : List (Option KV)} {st : List KV} {pc q t : Nat} {off : Int} {x : Int32} (a : Nat) (hd : decode I.2.1 pc = .ok (.ifCond .eq off, 3)) (ht : (pc : Int) + off = (t : Int)) (hq : pc + 3 = q) (hx : x = nI a) (ha : a < 2 ^ 31) (k1 : a = 0 → Go I Z M loc st t) (k2 : ¬ a = 0 → Go I Z M loc st q) : Go I Z M loc (vI x :: st) pc := by
  subst hx
  exact go_if_eq hd ht hq (fun z => k1 ((nI_eq (b := 0) ha (by decide)).mp z)) (fun z => k2 (fun w => z (by rw [w]; rfl)))
theorem df_val {R : RO} {s : Nat} (hs : s < 15625) : dFound R (nI s) = if 20 ≤ rN R then (-3, R) else if ¬ bear R s = none then (3, rRef R) else (nI (10 + rN R), rAdd R s none) := by
  unfold dFound
  rw [pOf_nI hs (by decide)]
theorem df_20 {R : RO} {s : Nat} (hs : s < 15625) (h : rN R = 20) : (dFound R (nI s)).1 = -3 := by rw [df_val hs, if_pos (by omega)]
theorem df_3 {R : RO} {s : Nat} (hW : rW R) (hs : s < 15625) (h : ¬ rN R = 20) (hb : ¬ bear R s = none) : (dFound R (nI s)).1 = 3 := by
  have := hW.1
  rw [df_val hs, if_neg (by omega), if_pos hb]
theorem df_n {R : RO} {s : Nat} (hW : rW R) (hs : s < 15625) (h : ¬ rN R = 20) (hb : bear R s = none) : (dFound R (nI s)).1 = nI (10 + rN R) := by
  have := hW.1
  rw [df_val hs, if_neg (by omega), if_neg (fun z => z hb)]
theorem df_big {R : RO} {s : Nat} (hs : s < 15625) (h : ¬ (dFound R (nI s)).1 < 10) : rN R < 20 ∧ bear R s = none ∧ dFound R (nI s) = (nI (10 + rN R), rAdd R s none) := by
  rw [df_val hs] at h ⊢
  by_cases h1 : 20 ≤ rN R
  · rw [if_pos h1] at h; exact absurd (show (-3 : Int32) < 10 by decide) h
  · rw [if_neg h1] at h ⊢
    by_cases h2 : ¬ bear R s = none
    · rw [if_pos h2] at h; exact absurd (show (3 : Int32) < 10 by decide) h
    · rw [if_neg h2]; exact ⟨by omega, Classical.not_not.mp h2, rfl⟩
theorem db_val {R : RO} {f k m : Nat} (hW : rW R) (hf : f < rN R) (hk : k < 6) (hm : m < 5) : dBear R (nI f) (nI k) (nI m) = if 20 ≤ rN R then (-3, R) else if ¬ whyS R f k m = 0 then (nI (whyS R f k m), rRef R) else (nI (10 + rN R), rAdd R (wm (rS R f) k m) (some (f, k, m))) := by
  unfold dBear
  rw [pOf_nI hf (by have := hW.1; omega), pOf_nI hk (by decide), pOf_nI hm (by decide)]
theorem db_20 {R : RO} {f k m : Nat} (hW : rW R) (hf : f < rN R) (hk : k < 6) (hm : m < 5) (h : rN R = 20) : (dBear R (nI f) (nI k) (nI m)).1 = -3 := by rw [db_val hW hf hk hm, if_pos (by omega)]
theorem db_why {R : RO} {f k m : Nat} (hW : rW R) (hf : f < rN R) (hk : k < 6) (hm : m < 5) (h : ¬ rN R = 20) (hw : ¬ whyS R f k m = 0) : (dBear R (nI f) (nI k) (nI m)).1 = nI (whyS R f k m) := by
  have := hW.1
  rw [db_val hW hf hk hm, if_neg (by omega), if_pos hw]
theorem db_n {R : RO} {f k m : Nat} (hW : rW R) (hf : f < rN R) (hk : k < 6) (hm : m < 5) (h : ¬ rN R = 20) (hw : whyS R f k m = 0) : (dBear R (nI f) (nI k) (nI m)).1 = nI (10 + rN R) := by
  have := hW.1
  rw [db_val hW hf hk hm, if_neg (by omega), if_neg (fun z => z hw)]
theorem db_big {R : RO} {f k m : Nat} (hW : rW R) (hf : f < rN R) (hk : k < 6) (hm : m < 5) (h : ¬ (dBear R (nI f) (nI k) (nI m)).1 < 10) : rN R < 20 ∧ whyS R f k m = 0 ∧ dBear R (nI f) (nI k) (nI m) = (nI (10 + rN R), rAdd R (wm (rS R f) k m) (some (f, k, m))) := by
  rw [db_val hW hf hk hm] at h ⊢
  by_cases h1 : 20 ≤ rN R
  · rw [if_pos h1] at h; exact absurd (show (-3 : Int32) < 10 by decide) h
  · rw [if_neg h1] at h ⊢
    by_cases h2 : ¬ whyS R f k m = 0
    · rw [if_pos h2] at h
      exact absurd (nI_lt (b := 10) (Nat.lt_trans (whyS_lt R f k m) (by decide)) (by decide)) h
    · rw [if_neg h2]; exact ⟨by omega, Classical.not_not.mp h2, rfl⟩
theorem whyS_mk {R : RO} {f k m : Nat} (h : whyS R f k m = 0) : mk (rS R f) k ≠ m := by
  intro z
  unfold whyS at h
  by_cases h1 : rL R f = false
  · rw [if_pos h1] at h; cases h
  · rw [if_neg h1, if_pos z] at h; cases h
theorem left1_pos {R : RO} {f k m : Nat} (hk : k < 6) (hm : m < 5) (h : whyS R f k m = 0) : 0 < left1 R f := cn_pos (k := 5 * k + m) (by omega) (by
  show (whyS R f ((5 * k + m) / 5) ((5 * k + m) % 5) == 0) = true
  rw [show (5 * k + m) / 5 = k by omega, show (5 * k + m) % 5 = m by omega, h]
  rfl)
theorem left1_big (R : RO) (f : Nat) : left1 R f < 2 ^ 31 := Nat.lt_of_le_of_lt (cn_le _ 30) (by decide)
theorem actS_lt {R : RO} (hW : rW R) (X : Nat) : actS R X < 15625 := by
  unfold actS
  split
  · exact Nat.mod_lt _ (by decide)
  · rename_i h
    exact hW.2.1 _ (Nat.mod_lt _ (Nat.pos_of_ne_zero (fun z => h (Or.inl z))))
theorem actF_lt {R : RO} {X : Nat} (h0 : ¬ rN R = 0) : actF R X < rN R := by
  unfold actF
  split
  · exact Nat.mod_lt _ (by omega)
  · have h1 : X / 12 / 3 % (if rN R < 4 then rN R else 4) < (if rN R < 4 then rN R else 4) := Nat.mod_lt _ (by split <;> omega)
    exact Nat.lt_of_lt_of_le h1 (by split <;> omega)
theorem ac_f2 {M : KM} {σ : ST} (hC : CI M σ) {X : Nat} (hX : X < 2 ^ 31) {s : Nat} (hs : s < 15625) : Go mL_act (Zm (QC M (dFound σ.1 (nI s)).1 (sDeed2 σ (dFound σ.1 (nI s))))) M [some (vR 0 0), some (vI (nI X)), some (vI (nI (X % 12))), some (vI (nI (X / 12))), some (vI (nI (rN σ.1))), some (vI (nI (cn (rL σ.1) (rN σ.1)))), none, none, none, none, none, none, none, none, none] [vI (nI s)] 65 := by
  have hn := hC.2.1.1
  refine go_istore (q := 67) dL_act_65 (by decide) rfl rfl ?_
  refine go_aload_n (q := 68) dL_act_67 rfl rfl rfl ?_
  refine go_iload (q := 70) dL_act_68 rfl rfl ?_
  refine go_cV1 (cal := mX9_bearer) (q := 73) dL_act_70 lRL_26 vX9_bearer ⟨by decide, by decide⟩ rfl (by decide) (Nat.le_of_ble_eq_true rfl) (ok_bearer hC.1 hC.2.1 _) rfl ?_
  refine go_topi (aBr hs) ?_
  refine go_istore (q := 75) dL_act_73 (by decide) rfl rfl ?_
  refine go_aload_n (q := 76) dL_act_75 rfl rfl rfl ?_
  refine go_iload (q := 78) dL_act_76 rfl rfl ?_
  refine go_callV [vI (nI s)] (cal := mX9_found) (q := 81) dL_act_78 lRL_51 vX9_found ⟨by decide, by decide⟩ rfl rfl (by decide) (Nat.le_of_ble_eq_true rfl) (ok_found hC _) rfl (fun r78 M78 h78 => ?_)
  obtain ⟨rfl, hC1, hf1⟩ := h78
  refine go_istore (q := 83) dL_act_81 (by decide) rfl rfl ?_
  refine go_iload (q := 85) dL_act_83 rfl rfl ?_
  refine go_iload (q := 87) dL_act_85 rfl rfl ?_
  refine go_bipush (q := 89) (v := 20) dL_act_87 (by decide) rfl ?_
  refine go_join2 (J := 111) (v := (dFound σ.1 (nI s)).1) ?_ (fun j111 => ?_)
  · refine go_icmp_ne (q := 114) (t := 162) dL_act_111 (by decide) rfl (fun z => absurd z (nn rfl)) (fun _ => ?_)
    refine go_iload (q := 116) dL_act_114 rfl rfl ?_
    refine go_bipush (q := 118) (v := 10) dL_act_116 (by decide) rfl ?_
    refine go_icmp_lt (q := 121) (t := 157) dL_act_118 (by decide) rfl (fun c_118 => ?_) (fun c_118 => ?_)
    · refine go_iload (q := 159) dL_act_157 rfl rfl ?_
      refine go_goto (q := 164) dL_act_159 (by decide) ?_
      exact go_ireti dL_act_164 rfl ⟨rfl, hC1, hf1⟩
    · obtain ⟨hn20, hbn, hd⟩ := df_big hs c_118
      have e1 : (sDeed2 σ (dFound σ.1 (nI s))).1 = rAdd σ.1 s none := by rw [sD1 (eFound hC.2.1 _), hd]
      have hR1 := hC1.1
      have hW1 := hC1.2.1
      rw [e1] at hR1 hW1
      have hn1 : rN σ.1 < rN (rAdd σ.1 s none) := Nat.lt_succ_self _
      refine go_aload_n (q := 122) dL_act_121 rfl rfl rfl ?_
      refine go_iload (q := 124) dL_act_122 rfl rfl ?_
      refine go_iconst (q := 125) (v := 0) dL_act_124 (by decide) rfl ?_
      refine go_cV2 (cal := mX9_person) (q := 128) dL_act_125 lRL_20 vX9_person ⟨by decide, by decide⟩ rfl (by decide) (Nat.le_of_ble_eq_true rfl) (ok_person hR1 hW1 _ _) rfl ?_
      refine go_topi (show aPerson (rAdd σ.1 s none) (nI (rN σ.1)) 0 = nI s from by rw [aP0 hW1 hn1, rS_add]) ?_
      refine go_iload (q := 130) dL_act_128 rfl rfl ?_
      refine go_icmp_ne (q := 133) (t := 162) dL_act_130 (by decide) rfl (fun z => absurd z (nn rfl)) (fun _ => ?_)
      refine go_aload_n (q := 134) dL_act_133 rfl rfl rfl ?_
      refine go_iload (q := 136) dL_act_134 rfl rfl ?_
      refine go_iconst (q := 137) (v := 2) dL_act_136 (by decide) rfl ?_
      refine go_cV2 (cal := mX9_person) (q := 140) dL_act_137 lRL_20 vX9_person ⟨by decide, by decide⟩ rfl (by decide) (Nat.le_of_ble_eq_true rfl) (ok_person hR1 hW1 _ _) rfl ?_
      refine go_topi (show aPerson (rAdd σ.1 s none) (nI (rN σ.1)) 2 = -4 from by rw [aP2 hW1 hn1, rP_addn]; rfl) ?_
      refine go_bipush (q := 142) (v := (-4)) dL_act_140 (by decide) rfl ?_
      refine go_icmp_ne (q := 145) (t := 162) dL_act_142 (by decide) rfl (fun z => absurd z (nn rfl)) (fun _ => ?_)
      refine go_aload_n (q := 146) dL_act_145 rfl rfl rfl ?_
      refine go_iconst (q := 147) (v := 1) dL_act_146 (by decide) rfl ?_
      refine go_cV1 (cal := mX9_count) (q := 150) dL_act_147 lRL_14 vX9_count ⟨by decide, by decide⟩ rfl (by decide) (Nat.le_of_ble_eq_true rfl) (ok_count hR1 hW1 hC1.2.2.2.2.2.2.1 hC1.2.2.2.2.1 _) rfl ?_
      refine go_topi (show aCount (rAdd σ.1 s none) _ _ 1 = nI (cn (rL σ.1) (rN σ.1) + 1) from by rw [aN1]; exact congrArg nI cnL_add) ?_
      refine go_iload (q := 152) dL_act_150 rfl rfl ?_
      refine go_iconst (q := 153) (v := 1) dL_act_152 (by decide) rfl ?_
      refine go_iadd (q := 154) dL_act_153 rfl ?_
      refine go_topi (nI_add _ 1) ?_
      refine go_icmp_ne (q := 157) (t := 162) dL_act_154 (by decide) rfl (fun z => absurd z (nn rfl)) (fun _ => ?_)
      refine go_iload (q := 159) dL_act_157 rfl rfl ?_
      refine go_goto (q := 164) dL_act_159 (by decide) ?_
      exact go_ireti dL_act_164 rfl ⟨rfl, hC1, hf1⟩
  · refine go_icmp_neN (rN σ.1) 20 (q := 92) (t := 97) dL_act_89 (by decide) rfl rfl rfl (by omega) (by decide) (fun c_89 => ?_) (fun c_89 => ?_)
    · refine go_iload (q := 99) dL_act_97 rfl rfl ?_
      refine go_if_lt (q := 102) (t := 106) dL_act_99 (by decide) rfl (fun c_99 => ?_) (fun c_99 => ?_)
      · refine go_bipush (q := 108) (v := 10) dL_act_106 (by decide) rfl ?_
        refine go_iload (q := 110) dL_act_108 rfl rfl ?_
        refine go_iadd (q := 111) dL_act_110 rfl ?_
        refine go_topi (k_10 _) ?_
        exact j111 _ (df_n hC.2.1 hs c_89 ((e4_neg (bear_bg hC.2.1)).mp c_99)).symm
      · refine go_iconst (q := 103) (v := 3) dL_act_102 (by decide) rfl ?_
        refine go_goto (q := 111) dL_act_103 (by decide) ?_
        exact j111 _ (df_3 hC.2.1 hs c_89 (fun z => c_99 ((e4_neg (bear_bg hC.2.1)).mpr z))).symm
    · refine go_bipush (q := 94) (v := (-3)) dL_act_92 (by decide) rfl ?_
      refine go_goto (q := 111) dL_act_94 (by decide) ?_
      exact j111 _ (df_20 hs c_89).symm
theorem ac_found {M : KM} {σ : ST} (hC : CI M σ) {X : Nat} (hX : X < 2 ^ 31) (hcase : X % 12 = 0 ∨ rN σ.1 = 0) : Go mL_act (Zm (QC M (actD σ.1 X).1 (sDeed2 σ (actD σ.1 X)))) M [some (vR 0 0), some (vI (nI X)), some (vI (nI (X % 12))), some (vI (nI (X / 12))), some (vI (nI (rN σ.1))), some (vI (nI (cn (rL σ.1) (rN σ.1)))), none, none, none, none, none, none, none, none, none] [] 33 := by
  rw [show actD σ.1 X = dFound σ.1 (nI (actS σ.1 X)) from if_pos hcase]
  have hn := hC.2.1.1
  refine go_iload (q := 35) dL_act_33 rfl rfl ?_
  refine go_join1 (J := 65) (v := nI (actS σ.1 X)) ?_ (fun j65 => ?_)
  · exact ac_f2 hC hX (actS_lt hC.2.1 X)
  · refine go_if_eqN (rN σ.1) (q := 38) (t := 44) dL_act_35 (by decide) rfl rfl (by omega) (fun c_35 => ?_) (fun c_35 => ?_)
    · refine go_iload_n (q := 45) dL_act_44 rfl rfl rfl ?_
      refine go_iconst (q := 46) (v := 2) dL_act_45 (by decide) rfl ?_
      refine go_idiv (q := 47) dL_act_46 (by decide) rfl ?_
      refine go_topi (show nI (X / 12) / 2 = nI ((X / 12) / 2) from pk_div (d := 2) (by omega) (by decide) (by decide)) ?_
      refine go_sipush (q := 50) (v := 15625) dL_act_47 (by decide) rfl ?_
      refine go_irem (q := 51) dL_act_50 (by decide) rfl ?_
      refine go_topi (show nI (X / 12 / 2) - nI (X / 12 / 2) / 15625 * 15625 = nI ((X / 12 / 2) % 15625) from pk_rem (d := 15625) (by omega) (by decide) (by decide)) ?_
      refine go_goto (q := 65) dL_act_51 (by decide) ?_
      exact j65 _ (show nI (X / 12 / 2 % 15625) = nI (actS σ.1 X) from by unfold actS; rw [if_pos (Or.inl c_35)])
    · refine go_iload_n (q := 39) dL_act_38 rfl rfl rfl ?_
      refine go_iconst (q := 40) (v := 2) dL_act_39 (by decide) rfl ?_
      refine go_irem (q := 41) dL_act_40 (by decide) rfl ?_
      refine go_topi (show nI (X / 12) - nI (X / 12) / 2 * 2 = nI ((X / 12) % 2) from pk_rem (d := 2) (by omega) (by decide) (by decide)) ?_
      refine go_if_neN (X / 12 % 2) (q := 44) (t := 54) dL_act_41 (by decide) rfl rfl (by omega) (fun c_41 => ?_) (fun c_41 => ?_)
      · refine go_aload_n (q := 55) dL_act_54 rfl rfl rfl ?_
        refine go_iload_n (q := 56) dL_act_55 rfl rfl rfl ?_
        refine go_iconst (q := 57) (v := 2) dL_act_56 (by decide) rfl ?_
        refine go_idiv (q := 58) dL_act_57 (by decide) rfl ?_
        refine go_topi (show nI (X / 12) / 2 = nI ((X / 12) / 2) from pk_div (d := 2) (by omega) (by decide) (by decide)) ?_
        refine go_iload (q := 60) dL_act_58 rfl rfl ?_
        refine go_irem (q := 61) dL_act_60 (nI_ne0 (n := rN σ.1) (by omega) (by omega)) rfl ?_
        refine go_topi (pk_rem (a := X / 12 / 2) (d := rN σ.1) (by omega) (by omega) (by omega)) ?_
        refine go_iconst (q := 62) (v := 0) dL_act_61 (by decide) rfl ?_
        refine go_cV2 (cal := mX9_person) (q := 65) dL_act_62 lRL_20 vX9_person ⟨by decide, by decide⟩ rfl (by decide) (Nat.le_of_ble_eq_true rfl) (ok_person hC.1 hC.2.1 _ _) rfl ?_
        refine go_topi (aP0 hC.2.1 (Nat.mod_lt _ (Nat.pos_of_ne_zero c_35))) ?_
        exact j65 _ (show nI (rS σ.1 (X / 12 / 2 % rN σ.1)) = nI (actS σ.1 X) from by unfold actS; rw [if_neg (fun z => z.elim c_35 c_41)])
      · refine go_iload_n (q := 45) dL_act_44 rfl rfl rfl ?_
        refine go_iconst (q := 46) (v := 2) dL_act_45 (by decide) rfl ?_
        refine go_idiv (q := 47) dL_act_46 (by decide) rfl ?_
        refine go_topi (show nI (X / 12) / 2 = nI ((X / 12) / 2) from pk_div (d := 2) (by omega) (by decide) (by decide)) ?_
        refine go_sipush (q := 50) (v := 15625) dL_act_47 (by decide) rfl ?_
        refine go_irem (q := 51) dL_act_50 (by decide) rfl ?_
        refine go_topi (show nI (X / 12 / 2) - nI (X / 12 / 2) / 15625 * 15625 = nI ((X / 12 / 2) % 15625) from pk_rem (d := 15625) (by omega) (by decide) (by decide)) ?_
        refine go_goto (q := 65) dL_act_51 (by decide) ?_
        exact j65 _ (show nI (X / 12 / 2 % 15625) = nI (actS σ.1 X) from by unfold actS; rw [if_pos (Or.inr c_41)])
theorem ac_b2 {M : KM} {σ : ST} (hC : CI M σ) {X : Nat} (hX : X < 2 ^ 31) {f k m : Nat} (hf : f < rN σ.1) (hk : k < 6) (hm : m < 5) : Go mL_act (Zm (QC M (dBear σ.1 (nI f) (nI k) (nI m)).1 (sDeed2 σ (dBear σ.1 (nI f) (nI k) (nI m))))) M [some (vR 0 0), some (vI (nI X)), some (vI (nI (X % 12))), some (vI (nI (X / 12))), some (vI (nI (rN σ.1))), some (vI (nI (cn (rL σ.1) (rN σ.1)))), some (vI (nI f)), some (vI (nI k)), some (vI (nI m)), none, none, none, none, none, none] [] 222 := by
  have hn := hC.2.1.1
  refine go_aload_n (q := 223) dL_act_222 rfl rfl rfl ?_
  refine go_iload (q := 225) dL_act_223 rfl rfl ?_
  refine go_iload (q := 227) dL_act_225 rfl rfl ?_
  refine go_iload (q := 229) dL_act_227 rfl rfl ?_
  refine go_cV3 (cal := mX9_whyNot) (q := 232) dL_act_229 lRL_63 vX9_whyNot ⟨by decide, by decide⟩ rfl (by decide) (Nat.le_of_ble_eq_true rfl) (ok_whyNot hC.1 hC.2.1 _ _ _) rfl ?_
  refine go_topi (aWn hC.2.1 hf hk hm) ?_
  refine go_istore (q := 234) dL_act_232 (by decide) rfl rfl ?_
  refine go_aload_n (q := 235) dL_act_234 rfl rfl rfl ?_
  refine go_iload (q := 237) dL_act_235 rfl rfl ?_
  refine go_iconst (q := 238) (v := 1) dL_act_237 (by decide) rfl ?_
  refine go_cV2 (cal := mX9_choices) (q := 241) dL_act_238 lRL_66 vX9_choices ⟨by decide, by decide⟩ rfl (by decide) (Nat.le_of_ble_eq_true rfl) (ok_choices hC.1 hC.2.1 _ _) rfl ?_
  refine go_topi (aCh hC.2.1 hf) ?_
  refine go_istore (q := 243) dL_act_241 (by decide) rfl rfl ?_
  refine go_aload_n (q := 244) dL_act_243 rfl rfl rfl ?_
  refine go_iload (q := 246) dL_act_244 rfl rfl ?_
  refine go_iload (q := 248) dL_act_246 rfl rfl ?_
  refine go_iload (q := 250) dL_act_248 rfl rfl ?_
  refine go_callV [vI (nI f), vI (nI k), vI (nI m)] (cal := mX9_bear) (q := 253) dL_act_250 lRL_54 vX9_bear ⟨by decide, by decide⟩ rfl rfl (by decide) (Nat.le_of_ble_eq_true rfl) (ok_bear hC _ _ _) rfl (fun r250 M250 h250 => ?_)
  obtain ⟨rfl, hC1, hf1⟩ := h250
  refine go_istore (q := 255) dL_act_253 (by decide) rfl rfl ?_
  refine go_iload (q := 257) dL_act_255 rfl rfl ?_
  refine go_iload (q := 259) dL_act_257 rfl rfl ?_
  refine go_bipush (q := 261) (v := 20) dL_act_259 (by decide) rfl ?_
  refine go_join2 (J := 284) (v := (dBear σ.1 (nI f) (nI k) (nI m)).1) ?_ (fun j284 => ?_)
  · refine go_icmp_ne (q := 287) (t := 377) dL_act_284 (by decide) rfl (fun z => absurd z (nn rfl)) (fun _ => ?_)
    refine go_iload (q := 289) dL_act_287 rfl rfl ?_
    refine go_bipush (q := 291) (v := 10) dL_act_289 (by decide) rfl ?_
    refine go_icmp_lt (q := 294) (t := 372) dL_act_291 (by decide) rfl (fun c_291 => ?_) (fun c_291 => ?_)
    · refine go_iload (q := 374) dL_act_372 rfl rfl ?_
      refine go_goto (q := 379) dL_act_374 (by decide) ?_
      exact go_ireti dL_act_379 rfl ⟨rfl, hC1, hf1⟩
    · obtain ⟨hn20, hw0, hd⟩ := db_big hC.2.1 hf hk hm c_291
      have e1 : (sDeed2 σ (dBear σ.1 (nI f) (nI k) (nI m))).1 = (rAdd σ.1 (wm (rS σ.1 f) k m) (some (f, k, m))) := by rw [sD1 (eBear hC.2.1 _ _ _), hd]
      have hR1 := hC1.1
      have hW1 := hC1.2.1
      rw [e1] at hR1 hW1
      have hn1 : rN σ.1 < rN (rAdd σ.1 (wm (rS σ.1 f) k m) (some (f, k, m))) := Nat.lt_succ_self _
      refine go_iload (q := 296) dL_act_294 rfl rfl ?_
      refine go_if_le (q := 299) (t := 377) dL_act_296 (by decide) rfl (fun z => absurd z (nI_nle (left1_pos hk hm hw0) (left1_big _ _))) (fun _ => ?_)
      refine go_aload_n (q := 300) dL_act_299 rfl rfl rfl ?_
      refine go_iload (q := 302) dL_act_300 rfl rfl ?_
      refine go_iload (q := 304) dL_act_302 rfl rfl ?_
      refine go_cV2 (cal := mX9_mark) (q := 307) dL_act_304 lRL_48 vX9_mark ⟨by decide, by decide⟩ rfl (by decide) (Nat.le_of_ble_eq_true rfl) (ok_mark hR1 hW1 _ _) rfl ?_
      refine go_topi (show aMark (rAdd σ.1 (wm (rS σ.1 f) k m) (some (f, k, m))) (nI (rN σ.1)) (nI k) = nI m from by rw [aMk hW1 hn1 hk, rS_add, mk_wm (hC.2.1.2.1 f hf) hk hm]) ?_
      refine go_iload (q := 309) dL_act_307 rfl rfl ?_
      refine go_icmp_ne (q := 312) (t := 377) dL_act_309 (by decide) rfl (fun z => absurd z (nn rfl)) (fun _ => ?_)
      refine go_aload_n (q := 313) dL_act_312 rfl rfl rfl ?_
      refine go_iload (q := 315) dL_act_313 rfl rfl ?_
      refine go_iconst (q := 316) (v := 2) dL_act_315 (by decide) rfl ?_
      refine go_cV2 (cal := mX9_person) (q := 319) dL_act_316 lRL_20 vX9_person ⟨by decide, by decide⟩ rfl (by decide) (Nat.le_of_ble_eq_true rfl) (ok_person hR1 hW1 _ _) rfl ?_
      refine go_topi (show aPerson (rAdd σ.1 (wm (rS σ.1 f) k m) (some (f, k, m))) (nI (rN σ.1)) 2 = nI f from by rw [aP2 hW1 hn1, rP_addn]; rfl) ?_
      refine go_iload (q := 321) dL_act_319 rfl rfl ?_
      refine go_icmp_ne (q := 324) (t := 377) dL_act_321 (by decide) rfl (fun z => absurd z (nn rfl)) (fun _ => ?_)
      refine go_aload_n (q := 325) dL_act_324 rfl rfl rfl ?_
      refine go_iload (q := 327) dL_act_325 rfl rfl ?_
      refine go_iconst (q := 328) (v := 3) dL_act_327 (by decide) rfl ?_
      refine go_cV2 (cal := mX9_person) (q := 331) dL_act_328 lRL_20 vX9_person ⟨by decide, by decide⟩ rfl (by decide) (Nat.le_of_ble_eq_true rfl) (ok_person hR1 hW1 _ _) rfl ?_
      refine go_topi (show aPerson (rAdd σ.1 (wm (rS σ.1 f) k m) (some (f, k, m))) (nI (rN σ.1)) 3 = nI k from by rw [aP3 hW1 hn1, rK_addn]; rfl) ?_
      refine go_iload (q := 333) dL_act_331 rfl rfl ?_
      refine go_icmp_ne (q := 336) (t := 377) dL_act_333 (by decide) rfl (fun z => absurd z (nn rfl)) (fun _ => ?_)
      refine go_aload_n (q := 337) dL_act_336 rfl rfl rfl ?_
      refine go_iload (q := 339) dL_act_337 rfl rfl ?_
      refine go_iconst (q := 340) (v := 4) dL_act_339 (by decide) rfl ?_
      refine go_cV2 (cal := mX9_person) (q := 343) dL_act_340 lRL_20 vX9_person ⟨by decide, by decide⟩ rfl (by decide) (Nat.le_of_ble_eq_true rfl) (ok_person hR1 hW1 _ _) rfl ?_
      refine go_topi (show aPerson (rAdd σ.1 (wm (rS σ.1 f) k m) (some (f, k, m))) (nI (rN σ.1)) 4 = nI m from by rw [aP4 hW1 hn1, rM_addn]; rfl) ?_
      refine go_iload (q := 345) dL_act_343 rfl rfl ?_
      refine go_icmp_ne (q := 348) (t := 377) dL_act_345 (by decide) rfl (fun z => absurd z (nn rfl)) (fun _ => ?_)
      refine go_aload_n (q := 349) dL_act_348 rfl rfl rfl ?_
      refine go_iload (q := 351) dL_act_349 rfl rfl ?_
      refine go_iload (q := 353) dL_act_351 rfl rfl ?_
      refine go_cV2 (cal := mX9_differs) (q := 356) dL_act_353 lRL_32 vX9_differs ⟨by decide, by decide⟩ rfl (by decide) (Nat.le_of_ble_eq_true rfl) (ok_differs hR1 hW1 _ _) rfl ?_
      refine go_topi (show aDiffers (rAdd σ.1 (wm (rS σ.1 f) k m) (some (f, k, m))) (nI (rN σ.1)) (nI f) = 1 from by rw [aDf hW1 hn1 (Nat.lt_trans hf hn1), rS_add, rS_addo hf, ap_symm, ap_wm (hC.2.1.2.1 f hf) hk hm (whyS_mk hw0)]; rfl) ?_
      refine go_iconst (q := 357) (v := 1) dL_act_356 (by decide) rfl ?_
      refine go_icmp_ne (q := 360) (t := 377) dL_act_357 (by decide) rfl (fun z => absurd z (nn rfl)) (fun _ => ?_)
      refine go_aload_n (q := 361) dL_act_360 rfl rfl rfl ?_
      refine go_iconst (q := 362) (v := 1) dL_act_361 (by decide) rfl ?_
      refine go_cV1 (cal := mX9_count) (q := 365) dL_act_362 lRL_14 vX9_count ⟨by decide, by decide⟩ rfl (by decide) (Nat.le_of_ble_eq_true rfl) (ok_count hR1 hW1 hC1.2.2.2.2.2.2.1 hC1.2.2.2.2.1 _) rfl ?_
      refine go_topi (show aCount (rAdd σ.1 (wm (rS σ.1 f) k m) (some (f, k, m))) _ _ 1 = nI (cn (rL σ.1) (rN σ.1) + 1) from by rw [aN1]; exact congrArg nI cnL_add) ?_
      refine go_iload (q := 367) dL_act_365 rfl rfl ?_
      refine go_iconst (q := 368) (v := 1) dL_act_367 (by decide) rfl ?_
      refine go_iadd (q := 369) dL_act_368 rfl ?_
      refine go_topi (nI_add _ 1) ?_
      refine go_icmp_ne (q := 372) (t := 377) dL_act_369 (by decide) rfl (fun z => absurd z (nn rfl)) (fun _ => ?_)
      refine go_iload (q := 374) dL_act_372 rfl rfl ?_
      refine go_goto (q := 379) dL_act_374 (by decide) ?_
      exact go_ireti dL_act_379 rfl ⟨rfl, hC1, hf1⟩
  · refine go_icmp_neN (rN σ.1) 20 (q := 264) (t := 269) dL_act_261 (by decide) rfl rfl rfl (by omega) (by decide) (fun c_261 => ?_) (fun c_261 => ?_)
    · refine go_iload (q := 271) dL_act_269 rfl rfl ?_
      refine go_if_le (q := 274) (t := 279) dL_act_271 (by decide) rfl (fun c_271 => ?_) (fun c_271 => ?_)
      · refine go_bipush (q := 281) (v := 10) dL_act_279 (by decide) rfl ?_
        refine go_iload (q := 283) dL_act_281 rfl rfl ?_
        refine go_iadd (q := 284) dL_act_283 rfl ?_
        refine go_topi (k_10 _) ?_
        exact j284 _ (db_n hC.2.1 hf hk hm c_261 (Nat.eq_zero_of_not_pos (fun z => nI_nle z (by have := whyS_lt σ.1 f k m; omega) c_271))).symm
      · refine go_iload (q := 276) dL_act_274 rfl rfl ?_
        refine go_goto (q := 284) dL_act_276 (by decide) ?_
        exact j284 _ (db_why hC.2.1 hf hk hm c_261 (fun z => c_271 (by rw [z]; exact Int32.le_refl _))).symm
    · refine go_bipush (q := 266) (v := (-3)) dL_act_264 (by decide) rfl ?_
      refine go_goto (q := 284) dL_act_266 (by decide) ?_
      exact j284 _ (db_20 hC.2.1 hf hk hm c_261).symm
theorem ac_b1 {M : KM} {σ : ST} (hC : CI M σ) {X : Nat} (hX : X < 2 ^ 31) {f : Nat} (hf : f < rN σ.1) : Go mL_act (Zm (QC M (dBear σ.1 (nI f) (nI (X / 12 / 60 % 6)) (nI (X / 12 / 360 % 5))).1 (sDeed2 σ (dBear σ.1 (nI f) (nI (X / 12 / 60 % 6)) (nI (X / 12 / 360 % 5)))))) M [some (vR 0 0), some (vI (nI X)), some (vI (nI (X % 12))), some (vI (nI (X / 12))), some (vI (nI (rN σ.1))), some (vI (nI (cn (rL σ.1) (rN σ.1)))), none, none, none, none, none, none, none, none, none] [vI (nI f)] 202 := by
  refine go_istore (q := 204) dL_act_202 (by decide) rfl rfl ?_
  refine go_iload_n (q := 205) dL_act_204 rfl rfl rfl ?_
  refine go_bipush (q := 207) (v := 60) dL_act_205 (by decide) rfl ?_
  refine go_idiv (q := 208) dL_act_207 (by decide) rfl ?_
  refine go_topi (show nI (X / 12) / 60 = nI ((X / 12) / 60) from pk_div (d := 60) (by omega) (by decide) (by decide)) ?_
  refine go_bipush (q := 210) (v := 6) dL_act_208 (by decide) rfl ?_
  refine go_irem (q := 211) dL_act_210 (by decide) rfl ?_
  refine go_topi (show nI (X / 12 / 60) - nI (X / 12 / 60) / 6 * 6 = nI ((X / 12 / 60) % 6) from pk_rem (d := 6) (by omega) (by decide) (by decide)) ?_
  refine go_istore (q := 213) dL_act_211 (by decide) rfl rfl ?_
  refine go_iload_n (q := 214) dL_act_213 rfl rfl rfl ?_
  refine go_sipush (q := 217) (v := 360) dL_act_214 (by decide) rfl ?_
  refine go_idiv (q := 218) dL_act_217 (by decide) rfl ?_
  refine go_topi (show nI (X / 12) / 360 = nI ((X / 12) / 360) from pk_div (d := 360) (by omega) (by decide) (by decide)) ?_
  refine go_iconst (q := 219) (v := 5) dL_act_218 (by decide) rfl ?_
  refine go_irem (q := 220) dL_act_219 (by decide) rfl ?_
  refine go_topi (show nI (X / 12 / 360) - nI (X / 12 / 360) / 5 * 5 = nI ((X / 12 / 360) % 5) from pk_rem (d := 5) (by omega) (by decide) (by decide)) ?_
  refine go_istore (q := 222) dL_act_220 (by decide) rfl rfl ?_
  exact ac_b2 hC hX hf (Nat.mod_lt _ (by decide)) (Nat.mod_lt _ (by decide))
theorem ac_bear {M : KM} {σ : ST} (hC : CI M σ) {X : Nat} (hX : X < 2 ^ 31) (h0 : ¬ X % 12 = 0) (hn0 : ¬ rN σ.1 = 0) (h8 : X % 12 < 8) : Go mL_act (Zm (QC M (actD σ.1 X).1 (sDeed2 σ (actD σ.1 X)))) M [some (vR 0 0), some (vI (nI X)), some (vI (nI (X % 12))), some (vI (nI (X / 12))), some (vI (nI (rN σ.1))), some (vI (nI (cn (rL σ.1) (rN σ.1)))), none, none, none, none, none, none, none, none, none] [] 171 := by
  rw [show actD σ.1 X = dBear σ.1 (nI (actF σ.1 X)) (nI (X / 12 / 60 % 6)) (nI (X / 12 / 360 % 5)) from by unfold actD; rw [if_neg (fun z => z.elim h0 hn0), if_pos h8]]
  have hn := hC.2.1.1
  refine go_iload_n (q := 172) dL_act_171 rfl rfl rfl ?_
  refine go_iconst (q := 173) (v := 3) dL_act_172 (by decide) rfl ?_
  refine go_irem (q := 174) dL_act_173 (by decide) rfl ?_
  refine go_topi (show nI (X / 12) - nI (X / 12) / 3 * 3 = nI ((X / 12) % 3) from pk_rem (d := 3) (by omega) (by decide) (by decide)) ?_
  refine go_join1 (J := 202) (v := nI (actF σ.1 X)) ?_ (fun j202 => ?_)
  · exact ac_b1 hC hX (actF_lt hn0)
  · refine go_if_neN (X / 12 % 3) (q := 177) (t := 186) dL_act_174 (by decide) rfl rfl (by omega) (fun c_174 => ?_) (fun c_174 => ?_)
    · refine go_iload_n (q := 187) dL_act_186 rfl rfl rfl ?_
      refine go_iconst (q := 188) (v := 3) dL_act_187 (by decide) rfl ?_
      refine go_idiv (q := 189) dL_act_188 (by decide) rfl ?_
      refine go_topi (show nI (X / 12) / 3 = nI ((X / 12) / 3) from pk_div (d := 3) (by omega) (by decide) (by decide)) ?_
      refine go_iload (q := 191) dL_act_189 rfl rfl ?_
      refine go_iconst (q := 192) (v := 4) dL_act_191 (by decide) rfl ?_
      refine go_join2 (J := 201) (v := nI (if rN σ.1 < 4 then rN σ.1 else 4)) ?_ (fun j201 => ?_)
      · refine go_irem (q := 202) dL_act_201 (nI_ne0 (n := (if rN σ.1 < 4 then rN σ.1 else 4)) (by split <;> omega) (by split <;> omega)) rfl ?_
        refine go_topi (pk_rem (a := X / 12 / 3) (d := (if rN σ.1 < 4 then rN σ.1 else 4)) (by omega) (by split <;> omega) (by split <;> omega)) ?_
        exact j202 _ (show nI (X / 12 / 3 % (if rN σ.1 < 4 then rN σ.1 else 4)) = nI (actF σ.1 X) from by unfold actF; rw [if_neg c_174])
      · refine go_icmp_geN (rN σ.1) 4 (q := 195) (t := 200) dL_act_192 (by decide) rfl rfl rfl (by omega) (by omega) (fun c_192 => ?_) (fun c_192 => ?_)
        · refine go_iconst (q := 201) (v := 4) dL_act_200 (by decide) rfl ?_
          exact j201 _ (by rw [if_neg (by omega)]; rfl)
        · refine go_iload (q := 197) dL_act_195 rfl rfl ?_
          refine go_goto (q := 201) dL_act_197 (by decide) ?_
          exact j201 _ (by rw [if_pos c_192])
    · refine go_iload_n (q := 178) dL_act_177 rfl rfl rfl ?_
      refine go_iconst (q := 179) (v := 3) dL_act_178 (by decide) rfl ?_
      refine go_idiv (q := 180) dL_act_179 (by decide) rfl ?_
      refine go_topi (show nI (X / 12) / 3 = nI ((X / 12) / 3) from pk_div (d := 3) (by omega) (by decide) (by decide)) ?_
      refine go_iload (q := 182) dL_act_180 rfl rfl ?_
      refine go_irem (q := 183) dL_act_182 (nI_ne0 (n := rN σ.1) (by omega) (by omega)) rfl ?_
      refine go_topi (pk_rem (a := X / 12 / 3) (d := rN σ.1) (by omega) (by omega) (by omega)) ?_
      refine go_goto (q := 202) dL_act_183 (by decide) ?_
      exact j202 _ (show nI (X / 12 / 3 % rN σ.1) = nI (actF σ.1 X) from by unfold actF; rw [if_pos c_174])
