/-! ===== a deed of the pad ===== -/
def diAt (n : Nat) (c : Nat → Nat) (j : Nat) : Int32 := nI (ch n c j) - 48
def nuAt (n : Nat) (c : Nat → Nat) (j : Nat) : Int32 := if isB (ch n c (j + 1)) 48 57 = true then 10 * (nI (ch n c j) - 48) + (nI (ch n c (j + 1)) - 48) else nI (ch n c j) - 48
def afAt (n : Nat) (c : Nat → Nat) (j : Nat) : Nat := if isB (ch n c (j + 1)) 48 57 = true then j + 2 else j + 1
theorem afAt_le (n : Nat) (c : Nat → Nat) (j : Nat) : afAt n c j ≤ j + 2 := by unfold afAt; split <;> omega
def dAt (n : Nat) (c : Nat → Nat) (R : RO) (j : Nat) : Int32 × RO := if ch n c j = 100 then dDie R (nuAt n c (j + 1)) else if ch n c j = 102 then dFound R (shAt n c (j + 1) 6) else if ch n c j = 115 then dBear R (nuAt n c (j + 1)) (diAt n c (afAt n c (j + 1) + 1)) (diAt n c (afAt n c (j + 1) + 3)) else dHeir R (nuAt n c (j + 1))
theorem rW_dAt {n : Nat} {c : Nat → Nat} {R : RO} {j : Nat} (h : rW R) : rW (dAt n c R j).2 := by
  unfold dAt
  split
  · exact rW_dDie h _
  · split
    · exact rW_found h _
    · split
      · exact rW_bear h _ _ _
      · exact rW_dHeir h _
theorem ok_enrolDeed {M : KM} {R : RO} (hR : RA M 0 R) (hW : rW R) {n : Nat} {c : Nat → Nat} (hP : PA M n c) {j : Nat} (hj : j < 60) : Ok mX9_enrolDeed [vR 0 0, vI (nI j)] M (KQ 0 M (dAt n c R j).1 (dAt n c R j).2) := by
  refine ok_of (by decide) rfl (Nat.le_of_ble_eq_true rfl) ⟨rfl, rfl⟩ ?_
  show Go mX9_enrolDeed (Zm (KQ 0 M (dAt n c R j).1 (dAt n c R j).2)) M [some (vR 0 0), some (vI (nI j)), none] [] 0
  by_cases h100 : ch n c j = 100
  · refine go_aload_n (q := 1) dX9_enrolDeed_0 rfl rfl rfl ?_
    refine go_getf (q := 4) dX9_enrolDeed_1 fRX9_32 rfl (by decide) rfl rfl ?_
    refine go_iload_n (q := 5) dX9_enrolDeed_4 rfl rfl rfl ?_
    refine go_cV1 (cal := mX5_signAt) (q := 8) dX9_enrolDeed_5 lRX9_106 vX5_signAt ⟨by decide, by decide⟩ rfl (by decide) (Nat.le_of_ble_eq_true rfl) (ok_signAt hP (by omega)) rfl ?_
    refine go_lookup (off := 103) (q := 111) dX9_enrolDeed_8 rfl (by rw [(show (nI (ch n c j)).toInt = 100 from by rw [h100, nI_toInt (by decide)]; rfl)]; try rfl) (by decide) ?_
    refine go_aload_n (q := 112) dX9_enrolDeed_111 rfl rfl rfl ?_
    refine go_getf (q := 115) dX9_enrolDeed_112 fRX9_10 rfl (by decide) rfl rfl ?_
    refine go_aload_n (q := 116) dX9_enrolDeed_115 rfl rfl rfl ?_
    refine go_getf (q := 119) dX9_enrolDeed_116 fRX9_32 rfl (by decide) rfl rfl ?_
    refine go_iload_n (q := 120) dX9_enrolDeed_119 rfl rfl rfl ?_
    refine go_iconst (q := 121) (v := 1) dX9_enrolDeed_120 (by decide) rfl ?_
    refine go_iadd (q := 122) dX9_enrolDeed_121 rfl ?_
    refine go_topi (nI_1 j) ?_
    refine go_cV1 (cal := mX5_numberAt) (q := 125) dX9_enrolDeed_122 lRX9_115 vX5_numberAt ⟨by decide, by decide⟩ rfl (by decide) (Nat.le_of_ble_eq_true rfl) (ok_numberAt hP (by omega)) rfl ?_
    refine go_kV1 (cal := mX6_goes) (q := 128) dX9_enrolDeed_125 lRX9_72 vX6_goes ⟨by decide, by decide⟩ rfl (by decide) (Nat.le_of_ble_eq_true rfl) (ok_goes (by decide) hR _) rfl (fun M1 hR1 hk1 => ?_)
    exact go_ireti dX9_enrolDeed_128 rfl (by have e : dAt n c R j = _ := if_pos h100; rw [e]; exact ⟨rfl, hR1, hk1⟩)
  by_cases h102 : ch n c j = 102
  · refine go_aload_n (q := 1) dX9_enrolDeed_0 rfl rfl rfl ?_
    refine go_getf (q := 4) dX9_enrolDeed_1 fRX9_32 rfl (by decide) rfl rfl ?_
    refine go_iload_n (q := 5) dX9_enrolDeed_4 rfl rfl rfl ?_
    refine go_cV1 (cal := mX5_signAt) (q := 8) dX9_enrolDeed_5 lRX9_106 vX5_signAt ⟨by decide, by decide⟩ rfl (by decide) (Nat.le_of_ble_eq_true rfl) (ok_signAt hP (by omega)) rfl ?_
    refine go_lookup (off := 36) (q := 44) dX9_enrolDeed_8 rfl (by rw [(show (nI (ch n c j)).toInt = 102 from by rw [h102, nI_toInt (by decide)]; rfl)]; try rfl) (by decide) ?_
    refine go_aload_n (q := 45) dX9_enrolDeed_44 rfl rfl rfl ?_
    refine go_getf (q := 48) dX9_enrolDeed_45 fRX9_10 rfl (by decide) rfl rfl ?_
    refine go_aload_n (q := 49) dX9_enrolDeed_48 rfl rfl rfl ?_
    refine go_getf (q := 52) dX9_enrolDeed_49 fRX9_32 rfl (by decide) rfl rfl ?_
    refine go_iload_n (q := 53) dX9_enrolDeed_52 rfl rfl rfl ?_
    refine go_iconst (q := 54) (v := 1) dX9_enrolDeed_53 (by decide) rfl ?_
    refine go_iadd (q := 55) dX9_enrolDeed_54 rfl ?_
    refine go_topi (nI_1 j) ?_
    refine go_cV1 (cal := mX5_shieldAt) (q := 58) dX9_enrolDeed_55 lRX9_109 vX5_shieldAt ⟨by decide, by decide⟩ rfl (by decide) (Nat.le_of_ble_eq_true rfl) (ok_shieldAt hP (by omega)) rfl ?_
    refine go_kV1 (cal := mX6_founderComes) (q := 61) dX9_enrolDeed_58 lRX9_61 vX6_founderComes ⟨by decide, by decide⟩ rfl (by decide) (Nat.le_of_ble_eq_true rfl) (ok_founderComes (by decide) hR hW _) rfl (fun M1 hR1 hk1 => ?_)
    exact go_ireti dX9_enrolDeed_61 rfl (by have e : dAt n c R j = _ := (if_neg h100).trans (if_pos h102); rw [e]; exact ⟨rfl, hR1, hk1⟩)
  by_cases h115 : ch n c j = 115
  · refine go_aload_n (q := 1) dX9_enrolDeed_0 rfl rfl rfl ?_
    refine go_getf (q := 4) dX9_enrolDeed_1 fRX9_32 rfl (by decide) rfl rfl ?_
    refine go_iload_n (q := 5) dX9_enrolDeed_4 rfl rfl rfl ?_
    refine go_cV1 (cal := mX5_signAt) (q := 8) dX9_enrolDeed_5 lRX9_106 vX5_signAt ⟨by decide, by decide⟩ rfl (by decide) (Nat.le_of_ble_eq_true rfl) (ok_signAt hP (by omega)) rfl ?_
    refine go_lookup (off := 54) (q := 62) dX9_enrolDeed_8 rfl (by rw [(show (nI (ch n c j)).toInt = 115 from by rw [h115, nI_toInt (by decide)]; rfl)]; try rfl) (by decide) ?_
    refine go_aload_n (q := 63) dX9_enrolDeed_62 rfl rfl rfl ?_
    refine go_getf (q := 66) dX9_enrolDeed_63 fRX9_32 rfl (by decide) rfl rfl ?_
    refine go_iload_n (q := 67) dX9_enrolDeed_66 rfl rfl rfl ?_
    refine go_iconst (q := 68) (v := 1) dX9_enrolDeed_67 (by decide) rfl ?_
    refine go_iadd (q := 69) dX9_enrolDeed_68 rfl ?_
    refine go_topi (nI_1 j) ?_
    refine go_cV1 (cal := mX5_afterNumber) (q := 72) dX9_enrolDeed_69 lRX9_112 vX5_afterNumber ⟨by decide, by decide⟩ rfl (by decide) (Nat.le_of_ble_eq_true rfl) (ok_afterNumber hP (by omega)) rfl ?_
    refine go_istore_n (q := 73) dX9_enrolDeed_72 rfl (by decide) rfl rfl ?_
    refine go_aload_n (q := 74) dX9_enrolDeed_73 rfl rfl rfl ?_
    refine go_getf (q := 77) dX9_enrolDeed_74 fRX9_10 rfl (by decide) rfl rfl ?_
    refine go_aload_n (q := 78) dX9_enrolDeed_77 rfl rfl rfl ?_
    refine go_getf (q := 81) dX9_enrolDeed_78 fRX9_32 rfl (by decide) rfl rfl ?_
    refine go_iload_n (q := 82) dX9_enrolDeed_81 rfl rfl rfl ?_
    refine go_iconst (q := 83) (v := 1) dX9_enrolDeed_82 (by decide) rfl ?_
    refine go_iadd (q := 84) dX9_enrolDeed_83 rfl ?_
    refine go_topi (nI_1 j) ?_
    refine go_cV1 (cal := mX5_numberAt) (q := 87) dX9_enrolDeed_84 lRX9_115 vX5_numberAt ⟨by decide, by decide⟩ rfl (by decide) (Nat.le_of_ble_eq_true rfl) (ok_numberAt hP (by omega)) rfl ?_
    refine go_aload_n (q := 88) dX9_enrolDeed_87 rfl rfl rfl ?_
    refine go_getf (q := 91) dX9_enrolDeed_88 fRX9_32 rfl (by decide) rfl rfl ?_
    refine go_iload_n (q := 92) dX9_enrolDeed_91 rfl rfl rfl ?_
    refine go_iconst (q := 93) (v := 1) dX9_enrolDeed_92 (by decide) rfl ?_
    refine go_iadd (q := 94) dX9_enrolDeed_93 rfl ?_
    refine go_topi (nI_1 _) ?_
    refine go_cV1 (cal := mX5_digitAt) (q := 97) dX9_enrolDeed_94 lRX9_118 vX5_digitAt ⟨by decide, by decide⟩ rfl (by decide) (Nat.le_of_ble_eq_true rfl) (ok_digitAt hP (by have := afAt_le n c (j + 1); unfold afAt at this; omega)) rfl ?_
    refine go_aload_n (q := 98) dX9_enrolDeed_97 rfl rfl rfl ?_
    refine go_getf (q := 101) dX9_enrolDeed_98 fRX9_32 rfl (by decide) rfl rfl ?_
    refine go_iload_n (q := 102) dX9_enrolDeed_101 rfl rfl rfl ?_
    refine go_iconst (q := 103) (v := 3) dX9_enrolDeed_102 (by decide) rfl ?_
    refine go_iadd (q := 104) dX9_enrolDeed_103 rfl ?_
    refine go_topi (nI_add _ 3) ?_
    refine go_cV1 (cal := mX5_digitAt) (q := 107) dX9_enrolDeed_104 lRX9_118 vX5_digitAt ⟨by decide, by decide⟩ rfl (by decide) (Nat.le_of_ble_eq_true rfl) (ok_digitAt hP (by have := afAt_le n c (j + 1); unfold afAt at this; omega)) rfl ?_
    refine go_kV3 (cal := mX6_sonComes) (q := 110) dX9_enrolDeed_107 lRX9_68 vX6_sonComes ⟨by decide, by decide⟩ rfl (by decide) (Nat.le_of_ble_eq_true rfl) (ok_sonComes (by decide) hR hW _ _ _) rfl (fun M1 hR1 hk1 => ?_)
    exact go_ireti dX9_enrolDeed_110 rfl (by have e : dAt n c R j = _ := (if_neg h100).trans ((if_neg h102).trans (if_pos h115)); rw [e]; exact ⟨rfl, hR1, hk1⟩)
  · refine go_aload_n (q := 1) dX9_enrolDeed_0 rfl rfl rfl ?_
    refine go_getf (q := 4) dX9_enrolDeed_1 fRX9_32 rfl (by decide) rfl rfl ?_
    refine go_iload_n (q := 5) dX9_enrolDeed_4 rfl rfl rfl ?_
    refine go_cV1 (cal := mX5_signAt) (q := 8) dX9_enrolDeed_5 lRX9_106 vX5_signAt ⟨by decide, by decide⟩ rfl (by decide) (Nat.le_of_ble_eq_true rfl) (ok_signAt hP (by omega)) rfl ?_
    refine go_lookup (off := 121) (q := 129) dX9_enrolDeed_8 rfl (by rw [nI_toInt (by have := ch_lt hP j; omega)]; simp only [Op.lookupswitch.offset_cons, Op.lookupswitch.offset_nil]; rw [if_neg (by omega), if_neg (by omega), if_neg (by omega)]) (by decide) ?_
    refine go_aload_n (q := 130) dX9_enrolDeed_129 rfl rfl rfl ?_
    refine go_getf (q := 133) dX9_enrolDeed_130 fRX9_10 rfl (by decide) rfl rfl ?_
    refine go_aload_n (q := 134) dX9_enrolDeed_133 rfl rfl rfl ?_
    refine go_getf (q := 137) dX9_enrolDeed_134 fRX9_32 rfl (by decide) rfl rfl ?_
    refine go_iload_n (q := 138) dX9_enrolDeed_137 rfl rfl rfl ?_
    refine go_iconst (q := 139) (v := 1) dX9_enrolDeed_138 (by decide) rfl ?_
    refine go_iadd (q := 140) dX9_enrolDeed_139 rfl ?_
    refine go_topi (nI_1 j) ?_
    refine go_cV1 (cal := mX5_numberAt) (q := 143) dX9_enrolDeed_140 lRX9_115 vX5_numberAt ⟨by decide, by decide⟩ rfl (by decide) (Nat.le_of_ble_eq_true rfl) (ok_numberAt hP (by omega)) rfl ?_
    refine go_kV1 (cal := mX6_becomesHeir) (q := 146) dX9_enrolDeed_143 lRX9_75 vX6_becomesHeir ⟨by decide, by decide⟩ rfl (by decide) (Nat.le_of_ble_eq_true rfl) (ok_becomesHeir (by decide) hR hW _) rfl (fun M1 hR1 hk1 => ?_)
    exact go_ireti dX9_enrolDeed_146 rfl (by have e : dAt n c R j = _ := (if_neg h100).trans ((if_neg h102).trans (if_neg h115)); rw [e]; exact ⟨rfl, hR1, hk1⟩)
theorem d_ne0 {n : Nat} {c : Nat → Nat} {R : RO} {j : Nat} (hW : rW R) : ¬ (dAt n c R j).1 = 0 := by
  have hn := hW.1
  have k0 : ∀ {k : Nat}, 0 < k → k < 2 ^ 31 → ¬ nI k = 0 := fun h1 h2 => nI_ne0 h1 h2
  unfold dAt
  split
  · unfold dDie
    cases h : pOf (rN R) (nuAt n c (j + 1)) with
    | none => exact (by decide : ¬ (-1 : Int32) = 0)
    | some p =>
      simp only
      by_cases h1 : rL R p = false
      · rw [if_pos h1]; exact (by decide : ¬ (6 : Int32) = 0)
      · rw [if_neg h1]; exact k0 (k := 10 + cn (rL (rDie R p)) (rN R)) (by omega) (by have := cn_le (rL (rDie R p)) (rN R); omega)
  · split
    · unfold dFound
      cases h : pOf 15625 (shAt n c (j + 1) 6) with
      | none => exact (by decide : ¬ (-1 : Int32) = 0)
      | some s =>
        simp only
        by_cases h1 : 20 ≤ rN R
        · rw [if_pos h1]; exact (by decide : ¬ (-3 : Int32) = 0)
        · rw [if_neg h1]
          by_cases h2 : ¬ bear R s = none
          · rw [if_pos h2]; exact (by decide : ¬ (3 : Int32) = 0)
          · rw [if_neg h2]; exact k0 (k := 10 + rN R) (by omega) (by omega)
    · split
      · unfold dBear
        cases h : pOf (rN R) (nuAt n c (j + 1)) with
        | none => exact (by decide : ¬ (-1 : Int32) = 0)
        | some f =>
          cases hk : pOf 6 (diAt n c (afAt n c (j + 1) + 1)) with
          | none => exact (by decide : ¬ (-1 : Int32) = 0)
          | some k =>
            cases hm : pOf 5 (diAt n c (afAt n c (j + 1) + 3)) with
            | none => exact (by decide : ¬ (-1 : Int32) = 0)
            | some m =>
              simp only
              by_cases h1 : 20 ≤ rN R
              · rw [if_pos h1]; exact (by decide : ¬ (-3 : Int32) = 0)
              · rw [if_neg h1]
                by_cases h2 : ¬ whyS R f k m = 0
                · rw [if_pos h2]; exact k0 (k := whyS R f k m) (by omega) (whyS_big R f k m)
                · rw [if_neg h2]; exact k0 (k := 10 + rN R) (by omega) (by omega)
      · unfold dHeir
        cases h : pOf (rN R) (nuAt n c (j + 1)) with
        | none => exact (by decide : ¬ (-1 : Int32) = 0)
        | some p =>
          simp only
          by_cases h1 : rL R p = false
          · rw [if_pos h1]; exact (by decide : ¬ (-2 : Int32) = 0)
          · rw [if_neg h1]
            by_cases h2 : ¬ whyH R p = 0
            · rw [if_pos h2]; exact k0 (k := whyH R p) (by omega) (whyH_big R p)
            · rw [if_neg h2]; exact k0 (k := 10 + ap (rS R p) (oS R (rP R p))) (by omega) (by have := ap_le (rS R p) (oS R (rP R p)); omega)
/-- the deeds of the pad, told by places: the roll, how many are done, where it stopped -/
def eC (n : Nat) (c : Nat → Nat) (R0 : RO) : Nat → RO × Nat × Option (Int32 × Int32 × Int32)
  | 0 => (R0, 0, none)
  | j + 1 => if (eC n c R0 j).2.2.isSome = true then eC n c R0 j else if j = 0 ∨ ch n c (j - 1) = 59 then (if (dAt n c (eC n c R0 j).1 j).1 < 10 then ((dAt n c (eC n c R0 j).1 j).2, (eC n c R0 j).2.1, some ((dAt n c (eC n c R0 j).1 j).1, nI (eC n c R0 j).2.1, nI j)) else ((dAt n c (eC n c R0 j).1 j).2, (eC n c R0 j).2.1 + 1, none)) else eC n c R0 j
theorem eC_stop {n : Nat} {c : Nat → Nat} {R0 : RO} {j : Nat} (h : (eC n c R0 j).2.2.isSome = true) : ∀ k, j ≤ k → eC n c R0 k = eC n c R0 j := fun k hk => by
  induction k with
  | zero => obtain rfl : j = 0 := by omega
            rfl
  | succ k ih =>
    by_cases e : j ≤ k
    · have h2 := ih e
      show (if (eC n c R0 k).2.2.isSome = true then eC n c R0 k else _) = _
      rw [if_pos (by rw [h2]; exact h), h2]
    · obtain rfl : j = k + 1 := by omega
      rfl
abbrev WT : Type := Option (Int32 × Int32 × Int32)
/-- what an enrol does to the state -/
def aEnrol (σ : ST) : Int32 × ST := match pfault (padN σ) (padC σ) with
  | some _ => (-2, σ)
  | none => (nI (eC (padN σ) (padC σ) σ.1 (padN σ)).2.1, ((eC (padN σ) (padC σ) σ.1 (padN σ)).1, σ.2.1, hKeep σ.2.2.1.1 σ.2.2.1.2 σ.1, (0, padC σ), (eC (padN σ) (padC σ) σ.1 (padN σ)).2.2))
theorem CI_why {M M' : KM} {σ : ST} (w : WT) (h : CI M σ) (e : ∀ k b, ¬ k = 0 → M'.1 k b = M.1 k b) (e6 : M'.1 0 0 6 = M.1 0 0 6) (e2 : M'.2 = M.2) (hw : WA M' w) : CI M' (σ.1, σ.2.1, σ.2.2.1, σ.2.2.2.1, w) := by
  obtain ⟨a1, a2, a3, a4, a5, a6, a7, a8, a9⟩ := h
  refine ⟨a1.cg (fun k h1 _ => e k 0 (by omega)), a2, e6.trans a3, fun s hs => ⟨(a4 s hs).1.cg (fun k h1 _ => e k 1 (by omega)), (a4 s hs).2⟩, ⟨?_, a5.2.1, ?_, ?_, fun j hj => ?_⟩, a6, PA_keep a7 (e 9 0 (by decide)) (e 10 0 (by decide)), hw, ?_⟩
  · rw [e 7 0 (by decide)]; exact a5.1
  · rw [e2]; exact a5.2.2.1
  · rw [e2]; exact a5.2.2.2.1
  · rw [e2]; exact (a5.2.2.2.2 j hj).cg (fun k h1 _ => e k _ (by omega))
  · rw [e2]; exact a9
def EI (M M1 : KM) (σ : ST) (s : RO × Nat × WT) : Prop := CI M1 (s.1, σ.2.1, σ.2.2.1, σ.2.2.2.1, s.2.2) ∧ RA M1 (M1.2.2 8 σ.2.2.1.1) σ.1 ∧ fc M M1
theorem EI_start {M M1 : KM} {σ : ST} (h : CI M σ) (h1 : RA M1 (M.2.2 8 σ.2.2.1.1) σ.1) (k1 : kRoll (M.2.2 8 σ.2.2.1.1) M M1) : EI M (k_si M1 0 0 7 0) σ (σ.1, 0, none) := by
  obtain ⟨f1, f2, f3⟩ := HA_free h.2.2.2.2.1
  refine ⟨CI_why none (CI_roll h k1 (by omega) (by omega) f1) (fun k b hk => k_si_ne M1 0 (fun z => hk z.1)) rfl rfl rfl, ?_, k1.fc.tr (fun k b hk => k_si_ne M1 0 (fun z => by omega))⟩
  show RA _ (M1.2.2 8 _) _
  rw [k1.1]
  exact h1.cg (fun k hk1 _ => k_si_ne M1 0 (fun z => by omega))
theorem EI_deed {M M1 M2 : KM} {σ : ST} {s : RO × Nat × WT} {R' : RO} {d : Nat} (h : EI M M1 σ s) (hR : RA M2 0 R') (hk : kRoll 0 M1 M2) (hW : rW R') : EI M M2 σ (R', d, s.2.2) := by
  obtain ⟨h1, h2, h3⟩ := h
  have f2 := (HA_free h1.2.2.2.2.1).2.1
  refine ⟨CI_set h1 hk hR hW, ?_, h3.tr hk.fc⟩
  rw [hk.1]
  exact h2.keep hk (by have : 3 ≤ M1.2.2 8 σ.2.2.1.1 := f2; omega)
theorem EI_stop {M M1 : KM} {σ : ST} {s : RO × Nat × WT} {d : Nat} {a b e : Int32} (h : EI M M1 σ s) (ha : ¬ a = 0) : EI M (k_si (k_si (k_si M1 0 0 7 a) 0 0 8 b) 0 0 9 e) σ (s.1, d, some (a, b, e)) := by
  obtain ⟨h1, h2, h3⟩ := h
  have ek : ∀ k b2, ¬ k = 0 → (k_si (k_si (k_si M1 0 0 7 a) 0 0 8 b) 0 0 9 e).1 k b2 = M1.1 k b2 := fun k b2 hk => (k_si_ne _ e (fun z => hk z.1)).trans ((k_si_ne _ b (fun z => hk z.1)).trans (k_si_ne _ a (fun z => hk z.1)))
  exact ⟨CI_why (some (a, b, e)) h1 ek rfl rfl ⟨rfl, ha, rfl, rfl⟩, h2.cg (fun k hk1 _ => ek k _ (by omega)), h3.tr (fun k b2 hk => ek k b2 (by omega))⟩
theorem lp_enrol {M : KM} {σ : ST} (h : CI M σ) (hnof : aEnrol σ = (nI (eC (padN σ) (padC σ) σ.1 (padN σ)).2.1, ((eC (padN σ) (padC σ) σ.1 (padN σ)).1, σ.2.1, hKeep σ.2.2.1.1 σ.2.2.1.2 σ.1, (0, padC σ), (eC (padN σ) (padC σ) σ.1 (padN σ)).2.2))) : ∀ (d : Nat) (M1 : KM) (j : Nat) (x y : Int32), (padN σ) - j < d → (EI M M1 σ (eC (padN σ) (padC σ) σ.1 j)) → (x = nI (eC (padN σ) (padC σ) σ.1 j).2.1) → (y = nI j) → (j ≤ padN σ) → Go mX9_enrol (Zm (QC M (aEnrol σ).1 (aEnrol σ).2)) M1 [some (vR 0 0), some (vI x), some (vI y), none] [] 35 := by
  intro d
  induction d with
  | zero => intro M1 j x y hd; exact absurd hd (Nat.not_lt_zero _)
  | succ d ih =>
    intro M1 j x y hd h0 h1 h2 h3
    refine go_iload_n (q := 36) dX9_enrol_35 rfl rfl rfl ?_
    refine go_aload_n (q := 37) dX9_enrol_36 rfl rfl rfl ?_
    refine go_getf (q := 40) dX9_enrol_37 fRX9_32 rfl (by decide) rfl rfl ?_
    refine go_cV0 (cal := mX5_length) (q := 43) dX9_enrol_40 lRX9_89 vX5_length ⟨by decide, by decide⟩ rfl (by decide) (Nat.le_of_ble_eq_true rfl) (ok_plen h0.1.2.2.2.2.2.2.1) rfl ?_
    refine go_icmp_geN j (padN σ) (q := 46) (t := 106) dX9_enrol_43 (by decide) rfl h2 rfl (by have hp60 : padN σ ≤ 60 := h.2.2.2.2.2.2.1.2.1; omega) (by have hp60 : padN σ ≤ 60 := h.2.2.2.2.2.2.1.2.1; omega) (fun c_43 => ?_) (fun c_43 => ?_)
    · have hend : eC (padN σ) (padC σ) σ.1 j = eC (padN σ) (padC σ) σ.1 (padN σ) := by rw [show j = padN σ by omega]
      refine go_aload_n (q := 107) dX9_enrol_106 rfl rfl rfl ?_
      refine go_getf (q := 110) dX9_enrol_107 fRX9_25 rfl (by decide) rfl rfl ?_
      refine go_callV [] (cal := mX2_keepNoted) (q := 113) dX9_enrol_110 lRX9_78 vX2_keepNoted ⟨by decide, by decide⟩ rfl rfl (by decide) (Nat.le_of_ble_eq_true rfl) (ok_keepNoted h0.1.2.2.2.2.1 h0.2.1) rfl (fun r110 M110 h110 => ?_)
      obtain ⟨rfl, hH110, hk110⟩ := h110
      have cK := CI_keep h0.1 hk110 hH110 h.2.1
      refine go_aload_n (q := 114) dX9_enrol_113 rfl rfl rfl ?_
      refine go_getf (q := 117) dX9_enrol_114 fRX9_32 rfl (by decide) rfl rfl ?_
      refine go_callV [] (cal := mX5_empty) (q := 120) dX9_enrol_117 lRX9_93 vX5_empty ⟨by decide, by decide⟩ rfl rfl (by decide) (Nat.le_of_ble_eq_true rfl) (ok_empty cK.2.2.2.2.2.2.1) rfl (fun r117 M117 h117 => ?_)
      obtain ⟨rfl, hP117, hk117⟩ := h117
      refine go_iload_n (q := 121) dX9_enrol_120 rfl rfl rfl ?_
      exact go_ireti dX9_enrol_121 rfl (by have e : aEnrol σ = _ := hnof; rw [e]; exact ⟨by rw [h1, hend], by rw [← hend]; exact (CI_pad cK hk117 hP117).1, (h0.2.2.tr hk110.fc).tr (CI_pad cK hk117 hP117).2⟩)
    · subst h2
      refine go_aload_n (q := 47) dX9_enrol_46 rfl rfl rfl ?_
      refine go_getf (q := 50) dX9_enrol_47 fRX9_47 rfl (by decide) rfl rfl ?_
      refine go_if_ne (q := 53) (t := 106) dX9_enrol_50 (by decide) rfl (fun c_50 => ?_) (fun c_50 => ?_)
      · have hend : eC (padN σ) (padC σ) σ.1 j = eC (padN σ) (padC σ) σ.1 (padN σ) := by
          refine (eC_stop ?_ (padN σ) (by omega)).symm
          have hA := h0.1.2.2.2.2.2.2.2.1
          revert hA
          show WA M1 (eC (padN σ) (padC σ) σ.1 j).2.2 → _
          cases (eC (padN σ) (padC σ) σ.1 j).2.2 with
          | none => intro hA; exact absurd hA c_50
          | some w => intro _; rfl
        refine go_aload_n (q := 107) dX9_enrol_106 rfl rfl rfl ?_
        refine go_getf (q := 110) dX9_enrol_107 fRX9_25 rfl (by decide) rfl rfl ?_
        refine go_callV [] (cal := mX2_keepNoted) (q := 113) dX9_enrol_110 lRX9_78 vX2_keepNoted ⟨by decide, by decide⟩ rfl rfl (by decide) (Nat.le_of_ble_eq_true rfl) (ok_keepNoted h0.1.2.2.2.2.1 h0.2.1) rfl (fun r110 M110 h110 => ?_)
        obtain ⟨rfl, hH110, hk110⟩ := h110
        have cK := CI_keep h0.1 hk110 hH110 h.2.1
        refine go_aload_n (q := 114) dX9_enrol_113 rfl rfl rfl ?_
        refine go_getf (q := 117) dX9_enrol_114 fRX9_32 rfl (by decide) rfl rfl ?_
        refine go_callV [] (cal := mX5_empty) (q := 120) dX9_enrol_117 lRX9_93 vX5_empty ⟨by decide, by decide⟩ rfl rfl (by decide) (Nat.le_of_ble_eq_true rfl) (ok_empty cK.2.2.2.2.2.2.1) rfl (fun r117 M117 h117 => ?_)
        obtain ⟨rfl, hP117, hk117⟩ := h117
        refine go_iload_n (q := 121) dX9_enrol_120 rfl rfl rfl ?_
        exact go_ireti dX9_enrol_121 rfl (by have e : aEnrol σ = _ := hnof; rw [e]; exact ⟨by rw [h1, hend], by rw [← hend]; exact (CI_pad cK hk117 hP117).1, (h0.2.2.tr hk110.fc).tr (CI_pad cK hk117 hP117).2⟩)
      · have hw : (eC (padN σ) (padC σ) σ.1 j).2.2 = none := by
          have hA := h0.1.2.2.2.2.2.2.2.1
          revert hA
          show WA M1 (eC (padN σ) (padC σ) σ.1 j).2.2 → _
          cases (eC (padN σ) (padC σ) σ.1 j).2.2 with
          | none => intro _; rfl
          | some w => obtain ⟨a, b, d⟩ := w; intro hA; exact absurd (hA.1.symm.trans (Classical.not_not.mp c_50)) hA.2.1
        refine go_aload_n (q := 54) dX9_enrol_53 rfl rfl rfl ?_
        refine go_getf (q := 57) dX9_enrol_54 fRX9_32 rfl (by decide) rfl rfl ?_
        refine go_iload_n (q := 58) dX9_enrol_57 rfl rfl rfl ?_
        refine go_cV1 (cal := mX5_startsDeed) (q := 61) dX9_enrol_58 lRX9_99 vX5_startsDeed ⟨by decide, by decide⟩ rfl (by decide) (Nat.le_of_ble_eq_true rfl) (ok_startsDeed h0.1.2.2.2.2.2.2.1 (by have hp60 : padN σ ≤ 60 := h.2.2.2.2.2.2.1.2.1; omega)) rfl ?_
        refine go_if_neB (q := 64) (t := 67) dX9_enrol_61 (by decide) rfl (fun c_61 => ?_) (fun c_61 => ?_)
        · refine go_aload_n (q := 68) dX9_enrol_67 rfl rfl rfl ?_
          refine go_iload_n (q := 69) dX9_enrol_68 rfl rfl rfl ?_
          refine go_kV1 (cal := mX9_enrolDeed) (q := 72) dX9_enrol_69 lRX9_103 vX9_enrolDeed ⟨by decide, by decide⟩ rfl (by decide) (Nat.le_of_ble_eq_true rfl) (ok_enrolDeed h0.1.1 h0.1.2.1 h0.1.2.2.2.2.2.2.1 (by have hp60 : padN σ ≤ 60 := h.2.2.2.2.2.2.1.2.1; omega)) rfl (fun M2 hR2 hk2 => ?_)
          refine go_istore_n (q := 73) dX9_enrol_72 rfl (by decide) rfl rfl ?_
          refine go_iload_n (q := 74) dX9_enrol_73 rfl rfl rfl ?_
          refine go_bipush (q := 76) (v := 10) dX9_enrol_74 (by decide) rfl ?_
          refine go_icmp_lt (q := 79) (t := 85) dX9_enrol_76 (by decide) rfl (fun c_76 => ?_) (fun c_76 => ?_)
          · have hs4 : eC (padN σ) (padC σ) σ.1 (j + 1) = ((dAt (padN σ) (padC σ) (eC (padN σ) (padC σ) σ.1 j).1 j).2, (eC (padN σ) (padC σ) σ.1 j).2.1, some ((dAt (padN σ) (padC σ) (eC (padN σ) (padC σ) σ.1 j).1 j).1, nI (eC (padN σ) (padC σ) σ.1 j).2.1, nI j)) := by
              show (if (eC (padN σ) (padC σ) σ.1 j).2.2.isSome = true then _ else _) = _
              rw [if_neg (by rw [hw]; decide), if_pos (of_decide_eq_true c_61), if_pos c_76]
            refine go_aload_n (q := 86) dX9_enrol_85 rfl rfl rfl ?_
            refine go_iload_n (q := 87) dX9_enrol_86 rfl rfl rfl ?_
            refine go_puti (q := 90) dX9_enrol_87 pRX9_47 rfl (by decide) rfl rfl rfl (Nat.le_of_ble_eq_true rfl) rfl ?_
            refine go_aload_n (q := 91) dX9_enrol_90 rfl rfl rfl ?_
            refine go_iload_n (q := 92) dX9_enrol_91 rfl rfl rfl ?_
            refine go_puti (q := 95) dX9_enrol_92 pRX9_51 rfl (by decide) rfl rfl rfl (Nat.le_of_ble_eq_true rfl) rfl ?_
            refine go_aload_n (q := 96) dX9_enrol_95 rfl rfl rfl ?_
            refine go_iload_n (q := 97) dX9_enrol_96 rfl rfl rfl ?_
            refine go_puti (q := 100) dX9_enrol_97 pRX9_54 rfl (by decide) rfl rfl rfl (Nat.le_of_ble_eq_true rfl) rfl ?_
            refine go_iinc (q := 103) (v := 1) dX9_enrol_100 (by decide) rfl (by decide) rfl rfl ?_
            refine go_goto (q := 35) dX9_enrol_103 (by decide) ?_
            refine go_weak (l1 := [some (vR 0 0), some (vI _), some (vI _), none]) (k_le_s (k_le_s (k_le_s (k_le_n k_le_nil)))) ?_
            refine ih _ (j + 1) _ _ (by omega) ?_ (by rw [h1, hs4]) (nI_1 j) (by omega)
            rw [hs4, ← h1]
            exact EI_stop (EI_deed (d := 0) h0 hR2 hk2 (rW_dAt h0.1.2.1)) (d_ne0 h0.1.2.1)
          · have hs4 : eC (padN σ) (padC σ) σ.1 (j + 1) = ((dAt (padN σ) (padC σ) (eC (padN σ) (padC σ) σ.1 j).1 j).2, (eC (padN σ) (padC σ) σ.1 j).2.1 + 1, none) := by
              show (if (eC (padN σ) (padC σ) σ.1 j).2.2.isSome = true then _ else _) = _
              rw [if_neg (by rw [hw]; decide), if_pos (of_decide_eq_true c_61), if_neg c_76]
            refine go_iinc (q := 82) (v := 1) dX9_enrol_79 (by decide) rfl (by decide) rfl rfl ?_
            refine go_goto (q := 100) dX9_enrol_82 (by decide) ?_
            refine go_iinc (q := 103) (v := 1) dX9_enrol_100 (by decide) rfl (by decide) rfl rfl ?_
            refine go_goto (q := 35) dX9_enrol_103 (by decide) ?_
            refine go_weak (l1 := [some (vR 0 0), some (vI _), some (vI _), none]) (k_le_s (k_le_s (k_le_s (k_le_n k_le_nil)))) ?_
            refine ih M2 (j + 1) _ _ (by omega) ?_ (by rw [h1, hs4]; exact nI_1 _) (nI_1 j) (by omega)
            rw [hs4]
            have e := EI_deed (d := (eC (padN σ) (padC σ) σ.1 j).2.1 + 1) h0 hR2 hk2 (rW_dAt h0.1.2.1)
            rw [hw] at e
            exact e
        · have hs4 : eC (padN σ) (padC σ) σ.1 (j + 1) = (eC (padN σ) (padC σ) σ.1 j) := by
            show (if (eC (padN σ) (padC σ) σ.1 j).2.2.isSome = true then _ else _) = _
            rw [if_neg (by rw [hw]; decide), if_neg (of_decide_eq_false c_61)]
          refine go_goto (q := 100) dX9_enrol_64 (by decide) ?_
          refine go_iinc (q := 103) (v := 1) dX9_enrol_100 (by decide) rfl (by decide) rfl rfl ?_
          refine go_goto (q := 35) dX9_enrol_103 (by decide) ?_
          refine go_weak (l1 := [some (vR 0 0), some (vI _), some (vI _), none]) (k_le_s (k_le_s (k_le_s (k_le_n k_le_nil)))) ?_
          exact ih M1 (j + 1) _ _ (by omega) (by rw [hs4]; exact h0) (by rw [h1, hs4]) (nI_1 j) (by omega)
theorem pf_big {M : KM} {n : Nat} {c : Nat → Nat} (h : PA M n c) : ∀ k, pfault n c = some k → k < 2 ^ 31 := fun k hk => by
  have hn := h.2.1
  have hr : ∀ j k, run c j = .inr k → k < j := by
    intro j
    induction j with
    | zero => intro k h; cases h
    | succ j ih =>
      intro k h
      unfold run at h
      cases hr : run c j with
      | inr u => rw [hr] at h; cases h; have := ih _ hr; omega
      | inl s =>
        rw [hr] at h
        simp only at h
        cases hs : sA s (c j) with
        | none => rw [hs] at h; cases h; omega
        | some t => rw [hs] at h; cases h
  unfold pfault at hk
  cases hr2 : run c n with
  | inr u => rw [hr2] at hk; cases hk; have := hr n _ hr2; omega
  | inl s =>
    rw [hr2] at hk
    simp only at hk
    split at hk
    · cases hk
    · cases hk; omega
theorem ok_enrol {M : KM} {σ : ST} (h : CI M σ) : Ok mX9_enrol [vR 0 0] M (QC M (aEnrol σ).1 (aEnrol σ).2) := by
  refine ok_of (by decide) rfl (Nat.le_of_ble_eq_true rfl) ⟨rfl, rfl⟩ ?_
  show Go mX9_enrol (Zm (QC M (aEnrol σ).1 (aEnrol σ).2)) M [some (vR 0 0), none, none, none] [] 0
  refine go_aload_n (q := 1) dX9_enrol_0 rfl rfl rfl ?_
  refine go_getf (q := 4) dX9_enrol_1 fRX9_32 rfl (by decide) rfl rfl ?_
  refine go_cV0 (cal := mX5_firstFault) (q := 7) dX9_enrol_4 lRX9_96 vX5_firstFault ⟨by decide, by decide⟩ rfl (by decide) (Nat.le_of_ble_eq_true rfl) (ok_firstFault h.2.2.2.2.2.2.1) rfl ?_
  refine go_bipush (q := 9) (v := (-4)) dX9_enrol_7 (by decide) rfl ?_
  refine go_icmp_eq (q := 12) (t := 15) dX9_enrol_9 (by decide) rfl (fun c_9 => ?_) (fun c_9 => ?_)
  · have hf : pfault (padN σ) (padC σ) = none := (e4_eq (pf_big h.2.2.2.2.2.2.1)).mp c_9
    refine go_aload_n (q := 16) dX9_enrol_15 rfl rfl rfl ?_
    refine go_getf (q := 19) dX9_enrol_16 fRX9_25 rfl (by decide) rfl rfl ?_
    refine go_aload_n (q := 20) dX9_enrol_19 rfl rfl rfl ?_
    refine go_getf (q := 23) dX9_enrol_20 fRX9_10 rfl (by decide) rfl rfl ?_
    refine go_kuV1 (cal := mX2_note) (q := 26) dX9_enrol_23 lRX9_57 vX2_note ⟨by decide, by decide⟩ rfl (by decide) (Nat.le_of_ble_eq_true rfl) (ok_note h.2.2.2.2.1 h.1) rfl (fun M1 hR1 hk1 => ?_)
    refine go_iconst (q := 27) (v := 0) dX9_enrol_26 (by decide) rfl ?_
    refine go_istore_n (q := 28) dX9_enrol_27 rfl (by decide) rfl rfl ?_
    refine go_aload_n (q := 29) dX9_enrol_28 rfl rfl rfl ?_
    refine go_iconst (q := 30) (v := 0) dX9_enrol_29 (by decide) rfl ?_
    refine go_puti (q := 33) dX9_enrol_30 pRX9_47 rfl (by decide) rfl rfl rfl (Nat.le_of_ble_eq_true rfl) rfl ?_
    refine go_iconst (q := 34) (v := 0) dX9_enrol_33 (by decide) rfl ?_
    refine go_istore_n (q := 35) dX9_enrol_34 rfl (by decide) rfl rfl ?_
    exact lp_enrol h (by unfold aEnrol; rw [hf]) (padN σ + 1) _ 0 _ _ (by omega) (EI_start h hR1 hk1) rfl rfl (by omega)
  · obtain ⟨k, hf⟩ : ∃ k, pfault (padN σ) (padC σ) = some k := by
      cases hf : pfault (padN σ) (padC σ) with
      | none => exact absurd (by rw [hf]; rfl) c_9
      | some k => exact ⟨k, rfl⟩
    refine go_bipush (q := 14) (v := (-2)) dX9_enrol_12 (by decide) rfl ?_
    exact go_ireti dX9_enrol_14 rfl ⟨by simp [aEnrol, hf], by simpa [aEnrol, hf] using h, fc.rf⟩
def LnC (R : RO) (x y w v : Int32) : Prop := match pOf (rN R) x, pOf 15625 y, pOf 2 w with
  | some p, some s, some k => if rL R p = false then v = -2 else if rS R p = s then v = 0 else if ¬ bear R s = none then v = -4 else ∃ o, v = e4 o ∧ (if k = 0 then FW R (rS R p) s o else FW R s (rS R p) o)
  | _, _, _ => v = -1
def KLN (M : KM) (R : RO) (x y w : Int32) : Option KV → KM → Prop := fun r M' => ∃ v, r = some (vI v) ∧ LnC R x y w v ∧ qq (M'.2.2 11 1) (M'.2.2 11 2) ∧ kL M M'
theorem ok_line {M : KM} {R : RO} (hR : RA M 0 R) (hW : rW R) (hq : qq (M.2.2 11 1) (M.2.2 11 2)) (x y w : Int32) : Ok mX9_line [vR 0 0, vI x, vI y, vI w] M (KLN M R x y w) := by
  refine ok_of (by decide) rfl (Nat.le_of_ble_eq_true rfl) ⟨rfl, rfl⟩ ?_
  show Go mX9_line (Zm (KLN M R x y w)) M [some (vR 0 0), some (vI x), some (vI y), some (vI w), none] [] 0
  refine go_aload_n (q := 1) dX9_line_0 rfl rfl rfl ?_
  refine go_getf (q := 4) dX9_line_1 fRX9_10 rfl (by decide) rfl rfl ?_
  refine go_iload_n (q := 5) dX9_line_4 rfl rfl rfl ?_
  refine go_cV1 (cal := mX6_has) (q := 8) dX9_line_5 lRX9_121 vX6_has ⟨by decide, by decide⟩ rfl (by decide) (Nat.le_of_ble_eq_true rfl) (ok_has (by decide) hR _) rfl ?_
  refine go_if_eqB (q := 11) (t := 25) dX9_line_8 (by decide) rfl (fun c_8 => ?_) (fun c_8 => ?_)
  · refine go_iconst (q := 26) (v := (-1)) dX9_line_25 (by decide) rfl ?_
    exact go_ireti dX9_line_26 rfl ⟨_, rfl, by simp [LnC, isSome_f c_8], hq, kL.rf⟩
  · refine go_iload_n (q := 12) dX9_line_11 rfl rfl rfl ?_
    refine go_cS1 (cal := mX8_isShield) (q := 15) dX9_line_12 lRX9_202 vX8_isShield ⟨by decide, by decide⟩ (Nat.le_of_ble_eq_true rfl) (ok_isShield M _) rfl ?_
    refine go_if_eqB (q := 18) (t := 25) dX9_line_15 (by decide) rfl (fun c_15 => ?_) (fun c_15 => ?_)
    · refine go_iconst (q := 26) (v := (-1)) dX9_line_25 (by decide) rfl ?_
      exact go_ireti dX9_line_26 rfl ⟨_, rfl, by simp [LnC, isSome_f c_15], hq, kL.rf⟩
    · refine go_iload_n (q := 19) dX9_line_18 rfl rfl rfl ?_
      refine go_cS1 (cal := mX9_isWay) (q := 22) dX9_line_19 lRX9_181 vX9_isWay ⟨by decide, by decide⟩ (Nat.le_of_ble_eq_true rfl) (ok_isWay _) rfl ?_
      refine go_if_neB (q := 25) (t := 27) dX9_line_22 (by decide) rfl (fun c_22 => ?_) (fun c_22 => ?_)
      · obtain ⟨p, hp⟩ := isSome_t c_8
        obtain ⟨hlt, rfl⟩ := pOf_some hp
        obtain ⟨s, hs⟩ := isSome_t c_15
        obtain ⟨hsl, rfl⟩ := pOf_some hs
        obtain ⟨k, hk⟩ := isSome_t c_22
        obtain ⟨hkl, rfl⟩ := pOf_some hk
        refine go_aload_n (q := 28) dX9_line_27 rfl rfl rfl ?_
        refine go_getf (q := 31) dX9_line_28 fRX9_10 rfl (by decide) rfl rfl ?_
        refine go_iload_n (q := 32) dX9_line_31 rfl rfl rfl ?_
        refine go_cV1 (cal := mX6_isAlive) (q := 35) dX9_line_32 lRX9_127 vX6_isAlive ⟨by decide, by decide⟩ rfl (by decide) (Nat.le_of_ble_eq_true rfl) (ok_isAlive (by decide) hR _) rfl ?_
        rw [hp, oL_some]
        refine go_if_neB (q := 38) (t := 41) dX9_line_35 (by decide) rfl (fun c_35 => ?_) (fun c_35 => ?_)
        · refine go_aload_n (q := 42) dX9_line_41 rfl rfl rfl ?_
          refine go_getf (q := 45) dX9_line_42 fRX9_10 rfl (by decide) rfl rfl ?_
          refine go_iload_n (q := 46) dX9_line_45 rfl rfl rfl ?_
          refine go_cV1 (cal := mX6_shieldOf) (q := 49) dX9_line_46 lRX9_124 vX6_shieldOf ⟨by decide, by decide⟩ rfl (by decide) (Nat.le_of_ble_eq_true rfl) (ok_shieldOf (by decide) hR _) rfl ?_
          rw [hp, oS_some]
          refine go_istore (q := 51) dX9_line_49 (by decide) rfl rfl ?_
          refine go_iload (q := 53) dX9_line_51 rfl rfl ?_
          refine go_iload_n (q := 54) dX9_line_53 rfl rfl rfl ?_
          refine go_icmp_neN (rS R p) s (q := 57) (t := 59) dX9_line_54 (by decide) rfl rfl rfl (by have := hW.2.1 p hlt; omega) (by omega) (fun c_54 => ?_) (fun c_54 => ?_)
          · refine go_aload_n (q := 60) dX9_line_59 rfl rfl rfl ?_
            refine go_getf (q := 63) dX9_line_60 fRX9_10 rfl (by decide) rfl rfl ?_
            refine go_iload_n (q := 64) dX9_line_63 rfl rfl rfl ?_
            refine go_cV1 (cal := mX6_livingWith) (q := 67) dX9_line_64 lRX9_205 vX6_livingWith ⟨by decide, by decide⟩ rfl (by decide) (Nat.le_of_ble_eq_true rfl) (ok_livingWith (by decide) hR hW (by omega)) rfl ?_
            refine go_iconst (q := 68) (v := (-1)) dX9_line_67 (by decide) rfl ?_
            refine go_icmp_eq (q := 71) (t := 74) dX9_line_68 (by decide) rfl (fun c_68 => ?_) (fun c_68 => ?_)
            · have h68 : bear R s = none := (e1_eq (bear_big hW)).mp c_68
              refine go_iload_n (q := 75) dX9_line_74 rfl rfl rfl ?_
              refine go_if_ne (q := 78) (t := 95) dX9_line_75 (by decide) rfl (fun c_75 => ?_) (fun c_75 => ?_)
              · obtain rfl : k = 1 := by
                  have : ¬ k = 0 := fun z => c_75 (by rw [z]; rfl)
                  omega
                refine go_aload_n (q := 96) dX9_line_95 rfl rfl rfl ?_
                refine go_getf (q := 99) dX9_line_96 fRX9_39 rfl (by decide) rfl rfl ?_
                refine go_aload_n (q := 100) dX9_line_99 rfl rfl rfl ?_
                refine go_getf (q := 103) dX9_line_100 fRX9_10 rfl (by decide) rfl rfl ?_
                refine go_iload_n (q := 104) dX9_line_103 rfl rfl rfl ?_
                refine go_iload (q := 106) dX9_line_104 rfl rfl ?_
                refine go_callV [vR 1 0, vI (nI s), vI (nI (rS R p))] (cal := mX4_fewest) (q := 109) dX9_line_106 lRX9_208 vX4_fewest ⟨by decide, by decide⟩ rfl rfl (by decide) (Nat.le_of_ble_eq_true rfl) (ok_fewest hR hW (by first | exact hW.2.1 p hlt | exact hsl) (by first | exact hsl | exact hW.2.1 p hlt) hq) rfl (fun r106 M106 h106 => ?_)
                obtain ⟨o106, rfl, hf106, hq106, hk106⟩ := h106
                exact go_ireti dX9_line_109 rfl ⟨_, rfl, by simp only [LnC, hp, hs, hk]; rw [if_neg (by rw [c_35]; decide), if_neg c_54, if_neg (by rw [h68]; simp)]; exact ⟨o106, rfl, by simpa using hf106⟩, hq106, hk106⟩
              · obtain rfl : k = 0 := (nI_eq (by omega) (by decide)).mp (Classical.not_not.mp c_75)
                refine go_aload_n (q := 79) dX9_line_78 rfl rfl rfl ?_
                refine go_getf (q := 82) dX9_line_79 fRX9_39 rfl (by decide) rfl rfl ?_
                refine go_aload_n (q := 83) dX9_line_82 rfl rfl rfl ?_
                refine go_getf (q := 86) dX9_line_83 fRX9_10 rfl (by decide) rfl rfl ?_
                refine go_iload (q := 88) dX9_line_86 rfl rfl ?_
                refine go_iload_n (q := 89) dX9_line_88 rfl rfl rfl ?_
                refine go_callV [vR 1 0, vI (nI (rS R p)), vI (nI s)] (cal := mX4_fewest) (q := 92) dX9_line_89 lRX9_208 vX4_fewest ⟨by decide, by decide⟩ rfl rfl (by decide) (Nat.le_of_ble_eq_true rfl) (ok_fewest hR hW (by first | exact hW.2.1 p hlt | exact hsl) (by first | exact hsl | exact hW.2.1 p hlt) hq) rfl (fun r89 M89 h89 => ?_)
                obtain ⟨o89, rfl, hf89, hq89, hk89⟩ := h89
                refine go_goto (q := 109) dX9_line_92 (by decide) ?_
                exact go_ireti dX9_line_109 rfl ⟨_, rfl, by simp only [LnC, hp, hs, hk]; rw [if_neg (by rw [c_35]; decide), if_neg c_54, if_neg (by rw [h68]; simp)]; exact ⟨o89, rfl, by simpa using hf89⟩, hq89, hk89⟩
            · have h68 : ¬ bear R s = none := fun z => c_68 (by rw [z]; rfl)
              refine go_bipush (q := 73) (v := (-4)) dX9_line_71 (by decide) rfl ?_
              exact go_ireti dX9_line_73 rfl ⟨_, rfl, by simp [LnC, hp, hs, hk, c_35, c_54, h68], hq, kL.rf⟩
          · refine go_iconst (q := 58) (v := 0) dX9_line_57 (by decide) rfl ?_
            exact go_ireti dX9_line_58 rfl ⟨_, rfl, by simp [LnC, hp, hs, hk, c_35, c_54], hq, kL.rf⟩
        · refine go_bipush (q := 40) (v := (-2)) dX9_line_38 (by decide) rfl ?_
          exact go_ireti dX9_line_40 rfl ⟨_, rfl, by simp [LnC, hp, hs, hk, c_35], hq, kL.rf⟩
      · refine go_iconst (q := 26) (v := (-1)) dX9_line_25 (by decide) rfl ?_
        exact go_ireti dX9_line_26 rfl ⟨_, rfl, by simp [LnC, isSome_f c_22], hq, kL.rf⟩
theorem CI_line {M M' : KM} {σ : ST} (h : CI M σ) (hk : kL M M') (hq : qq (M'.2.2 11 1) (M'.2.2 11 2)) : CI M' σ ∧ fc M M' := by
  obtain ⟨a1, a2, a3, a4, a5, a6, a7, a8, a9⟩ := h
  have e : ∀ k b, M'.1 k b = M.1 k b := fun k b => by rw [hk.1]
  refine ⟨⟨hk.ra a1, a2, ?_, fun s hs => ⟨hk.ra (a4 s hs).1, (a4 s hs).2⟩, ⟨?_, a5.2.1, ?_, ?_, fun j hj => ?_⟩, a6, PA_keep a7 (e 9 0) (e 10 0), WA_keep a8 (e 0 0), hq⟩, fun k b _ => e k b⟩
  · rw [hk.1]; exact a3
  · rw [hk.1]; exact a5.1
  · intro j; rw [hk.2]; exact a5.2.2.1 j
  · intro a b; rw [hk.2, hk.2]; exact a5.2.2.2.1 a b
  · rw [hk.2]; exact hk.ra (a5.2.2.2.2 j hj)
