/-! ===== the model: enrol ===== -/
theorem eC_deed {n : Nat} {c : Nat → Nat} {R0 R : RO} {p i : Nat} (h : eC n c R0 p = (R, i, none)) (hp : p = 0 ∨ ch n c (p - 1) = 59) : eC n c R0 (p + 1) = if (dAt n c R p).1 < 10 then ((dAt n c R p).2, i, some ((dAt n c R p).1, nI i, nI p)) else ((dAt n c R p).2, i + 1, none) := by
  show (if (eC n c R0 p).2.2.isSome = true then _ else if p = 0 ∨ ch n c (p - 1) = 59 then _ else _) = _
  rw [h]
  simp only
  rw [if_neg (by decide), if_pos hp]
theorem eC_const {n : Nat} {c : Nat → Nat} {R0 : RO} {a : Nat} (ha : 1 ≤ a) : ∀ b, a ≤ b → (∀ x, a ≤ x → x < b → ch n c (x - 1) ≠ 59) → eC n c R0 b = eC n c R0 a := by
  intro b hb hx
  induction b with
  | zero => omega
  | succ b ih =>
    by_cases e : a = b + 1
    · rw [e]
    · rw [← ih (by omega) (fun x h1 h2 => hx x h1 (by omega))]
      show (if (eC n c R0 b).2.2.isSome = true then eC n c R0 b else if b = 0 ∨ ch n c (b - 1) = 59 then _ else eC n c R0 b) = _
      rw [if_neg (c := b = 0 ∨ ch n c (b - 1) = 59) (fun z => z.elim (fun z => by omega) (hx b (by omega) (by omega)))]
      split <;> rfl
/-- where deed i begins, the end behind the last -/
def pe (n t : Nat) (p : Nat → Nat) (i : Nat) : Nat := if i < t then p i else n
theorem eC_next {M : KM} {n : Nat} {c : Nat → Nat} {R0 R : RO} {t i : Nat} {p : Nat → Nat} (hT : TL M n c t p n) (hi : i < t) (h : eC n c R0 (pe n t p i) = (R, i, none)) : eC n c R0 (pe n t p (i + 1)) = if (dAt n c R (p i)).1 < 10 then ((dAt n c R (p i)).2, i, some ((dAt n c R (p i)).1, nI i, nI (p i))) else ((dAt n c R (p i)).2, i + 1, none) := by
  obtain ⟨a1, a2, a3, a4, a5, a6⟩ := hT
  rw [show pe n t p i = p i from if_pos hi] at h
  have hs : p i = 0 ∨ ch n c (p i - 1) = 59 := by
    cases i with
    | zero => exact Or.inl a2
    | succ i =>
      right
      have h1 := (a4 i hi)
      have h2 := (a3 (i + 1) hi).1
      rw [ch_in (by omega)]; exact h1.2.2.1
  rw [← eC_deed h hs]
  by_cases e : i + 1 < t
  · rw [show pe n t p (i + 1) = p (i + 1) from if_pos e]
    have h1 := a4 i e
    have h2 := (a3 (i + 1) e).1
    exact eC_const (by omega) _ (by have := h1.2.1; omega) (fun x hx1 hx2 => by rw [ch_in (by omega)]; exact h1.2.2.2 (x - 1) (by omega) (by omega))
  · rw [show pe n t p (i + 1) = n from if_neg e]
    have h2 := (a3 i hi).1
    exact eC_const (by omega) _ (by omega) (fun x hx1 hx2 => by rw [ch_in (by omega)]; exact a5 (x - 1) (by rw [show t - 1 = i by omega]; omega) (by omega))
theorem TDm_all {M : KM} {n : Nat} {c : Nat → Nat} {t : Nat} {p : Nat → Nat} (hT : TL M n c t p n) {i : Nat} (hi : i < t) : TDm M i n c (p i) := by
  by_cases e : i + 1 < t
  · exact (hT.2.2.2.1 i e).1
  · have := hT.2.2.2.2.2 (by rw [ch_out (Nat.le_refl _)]; decide)
    rw [show i = t - 1 by omega]; exact this
theorem MI_why {M M' : KM} {σ : ST} (w : WT) (h : MI M σ) (e : ∀ k, k ≠ 14 → M'.1 k 0 = M.1 k 0) (e14 : ∀ c, c < 7 → M'.1 14 0 c = M.1 14 0 c) (hw : WZ M' w) : MI M' (σ.1, σ.2.1, σ.2.2.1, σ.2.2.2.1, w) := by
  obtain ⟨a1, a2, a3, a4, a5, a6, a7, a8⟩ := h
  refine ⟨?_, a2, ?_, fun s hs => ?_, HZ_keep a5 (e 16 (by decide)) (e14 2 (by decide)), a6, PZ_keep a7 (e 18 (by decide)) (e14 6 (by decide)), hw⟩
  · show ZF (M'.1 15 0) 0 _
    rw [e 15 (by decide)]; exact a1
  · rw [e14 4 (by decide)]; exact a3
  · rw [e 17 (by decide)]; exact a4 s hs
theorem MI_type0 {M : KM} {σ : ST} (h : MI M σ) : MI (k_si M 14 0 6 0) (σ.1, σ.2.1, σ.2.2.1, (0, padC σ), σ.2.2.2.2) := MI_pad h ⟨sg .., Nat.zero_le _, fun j hj => absurd hj (Nat.not_lt_zero _)⟩ (fun k h1 h2 => k_si_ne _ _ (fun z => h2 z.1)) (fun c hc => sgn2 _ _ hc)
theorem lp_menrol {M : KM} {σ : ST} (h : MI M σ) {M1 : KM} {t : Nat} {p : Nat → Nat} (hT : TL M1 (padN σ) (padC σ) t p (padN σ)) (ht : t ≤ 20) (hnof : aEnrol σ = (nI (eC (padN σ) (padC σ) σ.1 (padN σ)).2.1, ((eC (padN σ) (padC σ) σ.1 (padN σ)).1, σ.2.1, hKeep σ.2.2.1.1 σ.2.2.1.2 σ.1, (0, padC σ), (eC (padN σ) (padC σ) σ.1 (padN σ)).2.2))) : ∀ (d : Nat) (M4 : KM) (R : RO) (i : Nat), t - i < d → (MI M4 (R, σ.2.1, hKeep σ.2.2.1.1 σ.2.2.1.2 σ.1, σ.2.2.2.1, none)) → (fm M M4) → (M4.1 19 0 = M1.1 19 0) → (M4.1 14 0 12 = nI t) → (i ≤ t) → (eC (padN σ) (padC σ) σ.1 (pe (padN σ) t p i) = (R, i, none)) → Go mX10_enrol (Zm (QM M (aEnrol σ).1 (aEnrol σ).2)) M4 [some (vR 14 0), some (vI (nI i)), some (vI 1), none] [] 36 := by
  intro d
  induction d with
  | zero => intro M4 R i hd; exact absurd hd (Nat.not_lt_zero _)
  | succ d ih =>
    intro M4 R i hd h0 h1 h2 h3 h4 h5
    refine go_iload_n (q := 37) dX10_enrol_36 rfl rfl rfl ?_
    refine go_if_eq (q := 40) (t := 101) dX10_enrol_37 (by decide) rfl (fun z => absurd z (by decide)) (fun _ => ?_)
    refine go_iload_n (q := 41) dX10_enrol_40 rfl rfl rfl ?_
    refine go_aload_n (q := 42) dX10_enrol_41 rfl rfl rfl ?_
    refine go_getf (q := 45) dX10_enrol_42 fRX10_158 rfl (by decide) rfl rfl ?_
    refine go_topi h3 ?_
    refine go_icmp_geN i t (q := 48) (t := 101) dX10_enrol_45 (by decide) rfl rfl rfl (by omega) (by omega) (fun c_45 => ?_) (fun c_45 => ?_)
    · refine go_aload_n (q := 102) dX10_enrol_101 rfl rfl rfl ?_
      refine go_iconst (q := 103) (v := 0) dX10_enrol_102 (by decide) rfl ?_
      refine go_puti (q := 106) dX10_enrol_103 pRX10_146 rfl (by decide) rfl rfl rfl (Nat.le_of_ble_eq_true rfl) rfl ?_
      refine go_iload_n (q := 107) dX10_enrol_106 rfl rfl rfl ?_
      exact go_ireti dX10_enrol_107 rfl (by
          have e3 : (eC (padN σ) (padC σ) σ.1 (padN σ)) = (R, i, none) := by
            rw [← h5, show pe (padN σ) t p i = padN σ from if_neg (by omega)]
          rw [hnof, e3]
          exact ⟨rfl, MI_type0 h0, h1.tr (fm.rf.si (by decide))⟩)
    · refine go_aload_n (q := 49) dX10_enrol_48 rfl rfl rfl ?_
      refine go_iload_n (q := 50) dX10_enrol_49 rfl rfl rfl ?_
      refine go_callV [vI (nI i)] (cal := mX10_doDeed) (q := 53) dX10_enrol_50 lRX10_177 vX10_doDeed ⟨by decide, by decide⟩ rfl rfl (by decide) (Nat.le_of_ble_eq_true rfl) (ok_mdoDeed h0.1 h0.2.1 h0.2.2.2.2.2.2.1 (i := i) (q := p i) (by omega) (hT.2.2.1 i c_45).1 ((congrFun h2 _).trans (hT.2.2.1 i c_45).2) (congrFun h2 _) (congrFun h2 _) (congrFun h2 _)) rfl (fun r50 M50 h50 => ?_)
      obtain ⟨rfl, hZ2, hk2⟩ := h50
      have hdt := TDm_all hT c_45 R
      rw [ch_in (hT.2.2.1 i c_45).1] at hdt
      have hM5 := MI_setZ h0 hk2 hZ2 (by rw [hdt]; exact rW_dAt h0.2.1)
      have hnx := eC_next hT c_45 h5
      rw [hdt] at hM5 hZ2
      rw [hdt]
      refine go_istore_n (q := 54) dX10_enrol_53 rfl (by decide) rfl rfl ?_
      refine go_iload_n (q := 55) dX10_enrol_54 rfl rfl rfl ?_
      refine go_bipush (q := 57) (v := 10) dX10_enrol_55 (by decide) rfl ?_
      refine go_icmp_lt (q := 60) (t := 64) dX10_enrol_57 (by decide) rfl (fun c_57 => ?_) (fun c_57 => ?_)
      · refine go_iconst (q := 65) (v := 0) dX10_enrol_64 (by decide) rfl ?_
        refine go_istore_n (q := 66) dX10_enrol_65 rfl (by decide) rfl rfl ?_
        refine go_iload_n (q := 67) dX10_enrol_66 rfl rfl rfl ?_
        refine go_if_eq (q := 70) (t := 76) dX10_enrol_67 (by decide) rfl (fun _ => ?_) (fun z => absurd rfl z)
        refine go_aload_n (q := 77) dX10_enrol_76 rfl rfl rfl ?_
        refine go_iload_n (q := 78) dX10_enrol_77 rfl rfl rfl ?_
        refine go_puti (q := 81) dX10_enrol_78 pRX10_22 rfl (by decide) rfl rfl rfl (Nat.le_of_ble_eq_true rfl) rfl ?_
        refine go_aload_n (q := 82) dX10_enrol_81 rfl rfl rfl ?_
        refine go_iload_n (q := 83) dX10_enrol_82 rfl rfl rfl ?_
        refine go_puti (q := 86) dX10_enrol_83 pRX10_26 rfl (by decide) rfl rfl rfl (Nat.le_of_ble_eq_true rfl) rfl ?_
        refine go_aload_n (q := 87) dX10_enrol_86 rfl rfl rfl ?_
        refine go_aload_n (q := 88) dX10_enrol_87 rfl rfl rfl ?_
        refine go_getf (q := 91) dX10_enrol_88 fRX10_32 rfl (by decide) rfl rfl ?_
        refine go_iconst (q := 92) (v := 4) dX10_enrol_91 (by decide) rfl ?_
        refine go_iload_n (q := 93) dX10_enrol_92 rfl rfl rfl ?_
        refine go_imul (q := 94) dX10_enrol_93 rfl ?_
        refine go_topi (pk_mul 4 i) ?_
        refine go_iald (q := 95) (4 * i) dX10_enrol_94 rfl rfl (by decide) rfl (by omega) rfl ?_
        refine go_topi (v := nI (p i)) ((congrFun ((k_si_ne _ _ (fun z => by omega)).trans ((k_si_ne _ _ (fun z => by omega)).trans ((hk2.2 19 0 (by decide)).trans h2))) _).trans (hT.2.2.1 i c_45).2) ?_
        refine go_puti (q := 98) dX10_enrol_95 pRX10_29 rfl (by decide) rfl rfl rfl (Nat.le_of_ble_eq_true rfl) rfl ?_
        refine go_goto (q := 36) dX10_enrol_98 (by decide) ?_
        refine go_iload_n (q := 37) dX10_enrol_36 rfl rfl rfl ?_
        refine go_if_eq (q := 40) (t := 101) dX10_enrol_37 (by decide) rfl (fun _ => ?_) (fun z => absurd rfl z)
        refine go_aload_n (q := 102) dX10_enrol_101 rfl rfl rfl ?_
        refine go_iconst (q := 103) (v := 0) dX10_enrol_102 (by decide) rfl ?_
        refine go_puti (q := 106) dX10_enrol_103 pRX10_146 rfl (by decide) rfl rfl rfl (Nat.le_of_ble_eq_true rfl) rfl ?_
        refine go_iload_n (q := 107) dX10_enrol_106 rfl rfl rfl ?_
        exact go_ireti dX10_enrol_107 rfl (by
            have e2 : eC (padN σ) (padC σ) σ.1 (pe (padN σ) t p (i + 1)) = ((dAt (padN σ) (padC σ) R (p i)).2, i, some ((dAt (padN σ) (padC σ) R (p i)).1, nI i, nI (p i))) := hnx.trans (if_pos c_57)
            have e3 : (eC (padN σ) (padC σ) σ.1 (padN σ)) = ((dAt (padN σ) (padC σ) R (p i)).2, i, some ((dAt (padN σ) (padC σ) R (p i)).1, nI i, nI (p i))) := by
              rw [← e2]
              exact eC_stop (by rw [e2]; rfl) _ (by unfold pe; split; exact Nat.le_of_lt (hT.2.2.1 _ (by assumption)).1; exact Nat.le_refl _)
            rw [hnof, e3]
            refine ⟨rfl, MI_type0 (MI_why (some ((dAt (padN σ) (padC σ) R (p i)).1, nI i, nI (p i))) hM5 (fun k hk => (k_si_ne _ _ (fun z => hk z.1)).trans ((k_si_ne _ _ (fun z => hk z.1)).trans (k_si_ne _ _ (fun z => hk z.1)))) (fun c hc => (sgn2 _ _ (by omega)).trans ((sgn2 _ _ (by omega)).trans (sgn2 _ _ (by omega)))) ⟨(sgn2 _ _ (by decide)).trans ((sgn2 _ _ (by decide)).trans (sg ..)), (sgn2 _ _ (by decide)).trans (sg ..), sg ..⟩), ?_⟩
            exact (h1.tr hk2.fm).tr ((((fm.rf.si (by decide)).si (by decide)).si (by decide)).si (by decide)))
      · refine go_iconst (q := 61) (v := 1) dX10_enrol_60 (by decide) rfl ?_
        refine go_goto (q := 65) dX10_enrol_61 (by decide) ?_
        refine go_istore_n (q := 66) dX10_enrol_65 rfl (by decide) rfl rfl ?_
        refine go_iload_n (q := 67) dX10_enrol_66 rfl rfl rfl ?_
        refine go_if_eq (q := 70) (t := 76) dX10_enrol_67 (by decide) rfl (fun z => absurd z (by decide)) (fun _ => ?_)
        refine go_iinc (q := 73) (v := 1) dX10_enrol_70 (by decide) rfl (by decide) rfl rfl ?_
        refine go_goto (q := 98) dX10_enrol_73 (by decide) ?_
        refine go_goto (q := 36) dX10_enrol_98 (by decide) ?_
        refine go_weak (l1 := [some (vR 14 0), some (vI _), some (vI _), none]) (k_le_s (k_le_s (k_le_s (k_le_n k_le_nil)))) ?_
        rw [nI_1 i]
        exact ih _ _ (i + 1) (by omega) hM5 (h1.tr hk2.fm) ((hk2.2 19 0 (by decide)).trans h2) ((congrFun (hk2.2 14 0 (by decide)) 12).trans h3) (by omega) (hnx.trans (if_neg c_57))
theorem ok_menrol {M : KM} {σ : ST} (h : MI M σ) : Ok mX10_enrol [vR 14 0] M (QM M (aEnrol σ).1 (aEnrol σ).2) := by
  refine ok_of (by decide) rfl (Nat.le_of_ble_eq_true rfl) ⟨rfl, rfl⟩ ?_
  show Go mX10_enrol (Zm (QM M (aEnrol σ).1 (aEnrol σ).2)) M [some (vR 14 0), none, none, none] [] 0
  refine go_aload_n (q := 1) dX10_enrol_0 rfl rfl rfl ?_
  refine go_callV [] (cal := mX10_readPad) (q := 4) dX10_enrol_1 lRX10_174 vX10_readPad ⟨by decide, by decide⟩ rfl rfl (by decide) (Nat.le_of_ble_eq_true rfl) (ok_mreadPad h.2.2.2.2.2.2.1) rfl (fun r1 M1 h1 => ?_)
  skip
  obtain ⟨hK, hO⟩ := h1
  rcases hO with ⟨rfl, hf, t, p, g1, g2, hT⟩ | ⟨rfl, k, hf, hk⟩
  · refine go_if_ne (q := 7) (t := 10) dX10_enrol_4 (by decide) rfl (fun _ => ?_) (fun z => absurd (by decide) z)
    refine go_aload_n (q := 11) dX10_enrol_10 rfl rfl rfl ?_
    refine go_callV [] (cal := mX10_record) (q := 14) dX10_enrol_11 lRX10_75 vX10_record ⟨by decide, by decide⟩ rfl rfl (by decide) (Nat.le_of_ble_eq_true rfl) (ok_mrecord (MI_D h hK).2.2.2.2.1 (MI_D h hK).1) rfl (fun r11 M11 h11 => ?_)
    obtain ⟨rfl, hH, hkN⟩ := h11
    have hI := MI_rec (MI_D h hK) hkN hH h.2.1
    refine go_aload_n (q := 15) dX10_enrol_14 rfl rfl rfl ?_
    refine go_bipush (q := 17) (v := (-4)) dX10_enrol_15 (by decide) rfl ?_
    refine go_puti (q := 20) dX10_enrol_17 pRX10_22 rfl (by decide) rfl rfl rfl (Nat.le_of_ble_eq_true rfl) rfl ?_
    refine go_aload_n (q := 21) dX10_enrol_20 rfl rfl rfl ?_
    refine go_bipush (q := 23) (v := (-4)) dX10_enrol_21 (by decide) rfl ?_
    refine go_puti (q := 26) dX10_enrol_23 pRX10_26 rfl (by decide) rfl rfl rfl (Nat.le_of_ble_eq_true rfl) rfl ?_
    refine go_aload_n (q := 27) dX10_enrol_26 rfl rfl rfl ?_
    refine go_bipush (q := 29) (v := (-4)) dX10_enrol_27 (by decide) rfl ?_
    refine go_puti (q := 32) dX10_enrol_29 pRX10_29 rfl (by decide) rfl rfl rfl (Nat.le_of_ble_eq_true rfl) rfl ?_
    refine go_iconst (q := 33) (v := 0) dX10_enrol_32 (by decide) rfl ?_
    refine go_istore_n (q := 34) dX10_enrol_33 rfl (by decide) rfl rfl ?_
    refine go_iconst (q := 35) (v := 1) dX10_enrol_34 (by decide) rfl ?_
    refine go_istore_n (q := 36) dX10_enrol_35 rfl (by decide) rfl rfl ?_
    have hnof : aEnrol σ = (nI (eC (padN σ) (padC σ) σ.1 (padN σ)).2.1, ((eC (padN σ) (padC σ) σ.1 (padN σ)).1, σ.2.1, hKeep σ.2.2.1.1 σ.2.2.1.2 σ.1, (0, padC σ), (eC (padN σ) (padC σ) σ.1 (padN σ)).2.2)) := by unfold aEnrol; rw [hf]
    exact lp_menrol h hT g2 hnof (t + 1) (k_si (k_si (k_si M11 14 0 7 (-4)) 14 0 8 (-4)) 14 0 9 (-4)) σ.1 0 (by omega) (MI_why none hI (fun k hk => (k_si_ne _ _ (fun z => hk z.1)).trans ((k_si_ne _ _ (fun z => hk z.1)).trans (k_si_ne _ _ (fun z => hk z.1)))) (fun c hc => (sgn2 _ _ (by omega)).trans ((sgn2 _ _ (by omega)).trans (sgn2 _ _ (by omega)))) ⟨(sgn2 _ _ (by decide)).trans ((sgn2 _ _ (by decide)).trans (sg ..)), (sgn2 _ _ (by decide)).trans (sg ..), sg ..⟩) ((hK.fm.tr hkN.fm).tr (((fm.rf.si (by decide)).si (by decide)).si (by decide))) ((k_si_ne _ _ (fun z => by omega)).trans ((k_si_ne _ _ (fun z => by omega)).trans ((k_si_ne _ _ (fun z => by omega)).trans (hkN.2.1 19 0 (by decide) (by decide))))) ((sgn2 _ _ (by decide)).trans ((sgn2 _ _ (by decide)).trans ((sgn2 _ _ (by decide)).trans ((hkN.2.2 12 (by decide)).trans g1)))) (Nat.zero_le _) (by rw [show pe (padN σ) t p 0 = 0 from (if_pos (by have := hT.1; omega)).trans hT.2.1]; rfl)
  · have e : aEnrol σ = (-2, σ) := by unfold aEnrol; rw [hf]
    rw [e]
    refine go_if_ne (q := 7) (t := 10) dX10_enrol_4 (by decide) rfl (fun z => absurd z (fun w => w rfl)) (fun _ => ?_)
    refine go_bipush (q := 9) (v := (-2)) dX10_enrol_7 (by decide) rfl ?_
    exact go_ireti dX10_enrol_9 rfl ⟨rfl, MI_D h hK, hK.fm⟩
