/-! ===== the model: the pad read, fault, enrol ===== -/
def TL (M : KM) (n : Nat) (c : Nat → Nat) (t : Nat) (p : Nat → Nat) (s' : Nat) : Prop := 1 ≤ t ∧ p 0 = 0 ∧ (∀ i, i < t → p i < s' ∧ M.1 19 0 (4 * i) = nI (p i)) ∧ (∀ i, i + 1 < t → TDm M i n c (p i) ∧ p i < p (i + 1) ∧ c (p (i + 1) - 1) = 59 ∧ ∀ x, p i ≤ x → x < p (i + 1) - 1 → c x ≠ 59) ∧ (∀ x, p (t - 1) ≤ x → x < s' → c x ≠ 59) ∧ (isB (ch n c s') 48 57 = false → TDm M (t - 1) n c (p (t - 1)))
def PRQ (M : KM) (n : Nat) (c : Nat → Nat) : Option KV → KM → Prop := fun r M' => kD M M' ∧ ((r = some (vI 1) ∧ pfault n c = none ∧ ∃ t p, M'.1 14 0 12 = nI t ∧ t ≤ 20 ∧ TL M' n c t p n) ∨ (r = some (vI 0) ∧ ∃ k, pfault n c = some k ∧ M'.1 14 0 10 = nI k))
theorem okE_59 {n : Nat} {c : Nat → Nat} {s : Nat} (h : okE n c s) (e : ch n c s = 59) : s < n ∧ run c (s + 1) = .inl 7 := by
  obtain ⟨q, hq, h1⟩ := h
  rcases h1 with rfl | ⟨rfl, h2⟩
  · exact st_go hq (by rw [e]; rfl)
  · exact st_go hq (by rw [e]; rfl)
theorem okE_no {n : Nat} {c : Nat → Nat} {s : Nat} (h : okE n c s) (hs : s < n) (e : ch n c s ≠ 59) : pfault n c = some s := by
  obtain ⟨q, hq, h1⟩ := h
  rcases h1 with rfl | ⟨rfl, h2⟩
  · exact st_no hq (by omega) (if_neg e) (Or.inl hs)
  · exact st_no hq (by omega) (by show (if isB (ch n c s) 48 57 = true then some 0 else sDeed (ch n c s)) = none; rw [h2]; exact if_neg e) (Or.inl hs)
theorem okE_end {n : Nat} {c : Nat → Nat} (h : okE n c n) : pfault n c = none := by
  obtain ⟨q, hq, h1⟩ := h
  unfold pfault
  rw [hq]
  simp only
  rw [if_pos (by omega)]
theorem TDm_keep {M M' : KM} {i n : Nat} {c : Nat → Nat} {s : Nat} (h : TDm M i n c s) (e : ∀ x, x < 4 * i + 4 → M'.1 19 0 x = M.1 19 0 x) : TDm M' i n c s := fun R => by
  rw [e _ (by omega), e _ (by omega), e _ (by omega)]; exact h R
theorem TL_one {M : KM} {n : Nat} {c : Nat → Nat} {s : Nat} (hs : 1 ≤ s) (h9 : M.1 19 0 (4 * 0) = nI 0) (h4 : ∀ x, 0 ≤ x → x < s → c x ≠ 59) (h5 : isB (ch n c s) 48 57 = false → TDm M 0 n c 0) : TL M n c 1 (fun _ => 0) s := by
  refine ⟨Nat.le_refl _, rfl, fun i hi => ?_, fun i hi => absurd hi (by omega), h4, h5⟩
  obtain rfl : i = 0 := by omega
  exact ⟨hs, h9⟩
theorem TL_next {M1 M3 : KM} {n : Nat} {c : Nat → Nat} {t : Nat} {p : Nat → Nat} {s s2 : Nat} (h : TL M1 n c t p s) (h59 : ch n c s = 59) (hsn : s < n) (hs2 : s + 1 + 2 ≤ s2) (hx : ∀ x, s + 1 ≤ x → x < s2 → c x ≠ 59) (hT : isB (ch n c s2) 48 57 = false → TDm M3 t n c (s + 1)) (hk : ∀ x, x < 4 * t → M3.1 19 0 x = M1.1 19 0 x) (hn : M3.1 19 0 (4 * t) = nI (s + 1)) : TL M3 n c (t + 1) (fun i => if i = t then s + 1 else p i) s2 := by
  obtain ⟨a1, a2, a3, a4, a5, a6⟩ := h
  refine ⟨by omega, ?_, fun i hi => ?_, fun i hi => ?_, ?_, ?_⟩
  · show (if 0 = t then s + 1 else p 0) = 0
    rw [if_neg (by omega)]; exact a2
  · show (if i = t then s + 1 else p i) < s2 ∧ M3.1 19 0 (4 * i) = nI (if i = t then s + 1 else p i)
    by_cases e : i = t
    · rw [if_pos e, e]; exact ⟨by omega, hn⟩
    · rw [if_neg e, hk _ (by omega)]
      have := a3 i (by omega)
      exact ⟨by omega, this.2⟩
  · have hit : i < t := by omega
    simp only [if_neg (show ¬ i = t by omega)]
    by_cases e : i + 1 = t
    · simp only [if_pos e]
      have ei : i = t - 1 := by omega
      refine ⟨TDm_keep (by rw [ei]; exact a6 (by rw [h59]; rfl)) (fun x hx2 => hk x (by omega)), by have := (a3 i hit).1; omega, ?_, fun x h1 h2 => ?_⟩
      · show c (s + 1 - 1) = 59
        rw [Nat.add_sub_cancel, ← ch_in (n := n) (c := c) hsn]; exact h59
      · exact a5 x (by rw [← ei]; exact h1) (by have : x < s + 1 - 1 := h2; omega)
    · simp only [if_neg e]
      obtain ⟨b1, b2⟩ := a4 i (by omega)
      exact ⟨TDm_keep b1 (fun x hx2 => hk x (by omega)), b2⟩
  · show ∀ x, (if t + 1 - 1 = t then s + 1 else _) ≤ x → _
    rw [if_pos (by omega)]; exact hx
  · show _ → TDm M3 (t + 1 - 1) n c (if t + 1 - 1 = t then s + 1 else _)
    rw [if_pos (by omega), Nat.add_sub_cancel]; exact hT
theorem lp_mreadPad {M : KM} {n : Nat} {c : Nat → Nat} (hP : PZ M n c) : ∀ (d : Nat) (M1 : KM) (s t : Nat) (p : Nat → Nat), n - s < d → (kD M M1) → (s ≤ n) → (okE n c s) → (M1.1 14 0 10 = nI s) → (M1.1 14 0 12 = nI t) → (3 * t ≤ s + 1) → (TL M1 n c t p s) → Go mX10_readPad (Zm (PRQ M n c)) M1 [some (vR 14 0), some (vI 1)] [] 15 := by
  intro d
  induction d with
  | zero => intro M1 s t p hd; exact absurd hd (Nat.not_lt_zero _)
  | succ d ih =>
    intro M1 s t p hd h0 h1 h2 h3 h4 h5 h6
    refine go_iload_n (q := 16) dX10_readPad_15 rfl rfl rfl ?_
    refine go_if_eq (q := 19) (t := 55) dX10_readPad_16 (by decide) rfl (fun z => absurd z (by decide)) (fun _ => ?_)
    refine go_aload_n (q := 20) dX10_readPad_19 rfl rfl rfl ?_
    refine go_getf (q := 23) dX10_readPad_20 fRX10_149 rfl (by decide) rfl rfl ?_
    refine go_topi h3 ?_
    refine go_aload_n (q := 24) dX10_readPad_23 rfl rfl rfl ?_
    refine go_getf (q := 27) dX10_readPad_24 fRX10_146 rfl (by decide) rfl rfl ?_
    refine go_topi (h0.pz hP).1 ?_
    refine go_icmp_geN s n (q := 30) (t := 55) dX10_readPad_27 (by decide) rfl rfl rfl (by have := hP.2.1; omega) (by have := hP.2.1; omega) (fun c_27 => ?_) (fun c_27 => ?_)
    · obtain rfl : s = n := by omega
      refine go_iload_n (q := 56) dX10_readPad_55 rfl rfl rfl ?_
      exact go_iretz dX10_readPad_56 rfl (by decide) ⟨h0, Or.inl ⟨rfl, okE_end h2, t, p, h4, by have := hP.2.1; omega, h6⟩⟩
    · rw [← sp_se h3]
      refine go_aload_n (q := 31) dX10_readPad_30 rfl rfl rfl ?_
      refine go_bipush (q := 33) (v := 59) dX10_readPad_31 (by decide) rfl ?_
      refine go_cV1 (cal := mX10_takes) (q := 36) dX10_readPad_33 lRX10_167 vX10_takes ⟨by decide, by decide⟩ rfl (by decide) (Nat.le_of_ble_eq_true rfl) (ok_mtakes (h0.pz hP) (s := s) (by have := hP.2.1; omega) (a := 59) (by decide) (by decide)) rfl ?_
      refine go_if_eqB (q := 39) (t := 50) dX10_readPad_36 (by decide) rfl (fun c_36 => ?_) (fun c_36 => ?_)
      · refine go_iconst (q := 51) (v := 0) dX10_readPad_50 (by decide) rfl ?_
        refine go_istore_n (q := 52) dX10_readPad_51 rfl (by decide) rfl rfl ?_
        refine go_goto (q := 15) dX10_readPad_52 (by decide) ?_
        rw [if_neg (by rw [c_36]; decide)]
        refine go_iload_n (q := 16) dX10_readPad_15 rfl rfl rfl ?_
        refine go_if_eq (q := 19) (t := 55) dX10_readPad_16 (by decide) rfl (fun _ => ?_) (fun z => absurd rfl z)
        refine go_iload_n (q := 56) dX10_readPad_55 rfl rfl rfl ?_
        exact go_iretz dX10_readPad_56 rfl (by decide) ⟨h0.f (Or.inl rfl), Or.inr ⟨rfl, s, okE_no h2 c_27 (isB_ne c_36), sg ..⟩⟩
      · have hst := okE_59 h2 (isB_eq.mp c_36)
        have hD2 : kD M (sp M1 (s + 1)) := h0.f (Or.inl rfl)
        rw [if_pos c_36]
        refine go_aload_n (q := 40) dX10_readPad_39 rfl rfl rfl ?_
        refine go_callV [] (cal := mX10_readDeed) (q := 43) dX10_readPad_40 lRX10_170 vX10_readDeed ⟨by decide, by decide⟩ rfl rfl (by decide) (Nat.le_of_ble_eq_true rfl) (ok_mreadDeed (M := sp M1 (s + 1)) (hD2.pz hP) (s := s + 1) (t := t) hst.1 hst.2 (sg ..) ((sgn2 _ _ (by decide)).trans h4) (by omega)) rfl (fun r40 M40 h40 => ?_)
        skip
        obtain ⟨hK, hO⟩ := h40
        rcases hO with ⟨rfl, s2, g1, g2, g3, g4, g5, g6, g7, g8, g9⟩ | ⟨rfl, s2, g1, g2⟩
        · refine go_if_eq (q := 46) (t := 50) dX10_readPad_43 (by decide) rfl (fun z => absurd z (by decide)) (fun _ => ?_)
          refine go_iconst (q := 47) (v := 1) dX10_readPad_46 (by decide) rfl ?_
          refine go_goto (q := 51) dX10_readPad_47 (by decide) ?_
          refine go_istore_n (q := 52) dX10_readPad_51 rfl (by decide) rfl rfl ?_
          refine go_goto (q := 15) dX10_readPad_52 (by decide) ?_
          exact ih M40 s2 (t + 1) _ (by omega) (hD2.tr hK) g2 g3 g6 g7 (by omega) (TL_next h6 (isB_eq.mp c_36) hst.1 g1 g4 g5 (fun x hx => (g8 x hx).trans (congrFun (k_si_ne _ _ (fun z => by omega)) x)) g9)
        · refine go_if_eq (q := 46) (t := 50) dX10_readPad_43 (by decide) rfl (fun _ => ?_) (fun z => absurd rfl z)
          refine go_iconst (q := 51) (v := 0) dX10_readPad_50 (by decide) rfl ?_
          refine go_istore_n (q := 52) dX10_readPad_51 rfl (by decide) rfl rfl ?_
          refine go_goto (q := 15) dX10_readPad_52 (by decide) ?_
          refine go_iload_n (q := 16) dX10_readPad_15 rfl rfl rfl ?_
          refine go_if_eq (q := 19) (t := 55) dX10_readPad_16 (by decide) rfl (fun _ => ?_) (fun z => absurd rfl z)
          refine go_iload_n (q := 56) dX10_readPad_55 rfl rfl rfl ?_
          exact go_iretz dX10_readPad_56 rfl (by decide) ⟨hD2.tr hK, Or.inr ⟨rfl, s2, g2, g1⟩⟩
theorem ok_mreadPad {M : KM} {n : Nat} {c : Nat → Nat} (hP : PZ M n c) : Ok mX10_readPad [vR 14 0] M (PRQ M n c) := by
  refine ok_of (by decide) rfl (Nat.le_of_ble_eq_true rfl) ⟨rfl, rfl⟩ ?_
  show Go mX10_readPad (Zm (PRQ M n c)) M [some (vR 14 0), none] [] 0
  refine go_aload_n (q := 1) dX10_readPad_0 rfl rfl rfl ?_
  refine go_iconst (q := 2) (v := 0) dX10_readPad_1 (by decide) rfl ?_
  refine go_puti (q := 5) dX10_readPad_2 pRX10_149 rfl (by decide) rfl rfl rfl (Nat.le_of_ble_eq_true rfl) rfl ?_
  refine go_aload_n (q := 6) dX10_readPad_5 rfl rfl rfl ?_
  refine go_iconst (q := 7) (v := 0) dX10_readPad_6 (by decide) rfl ?_
  refine go_puti (q := 10) dX10_readPad_7 pRX10_158 rfl (by decide) rfl rfl rfl (Nat.le_of_ble_eq_true rfl) rfl ?_
  refine go_aload_n (q := 11) dX10_readPad_10 rfl rfl rfl ?_
  refine go_callV [] (cal := mX10_readDeed) (q := 14) dX10_readPad_11 lRX10_170 vX10_readDeed ⟨by decide, by decide⟩ rfl rfl (by decide) (Nat.le_of_ble_eq_true rfl) (ok_mreadDeed (M := (k_si (k_si M 14 0 10 0) 14 0 12 0)) (((kD.rf.f (Or.inl rfl)).f (Or.inr rfl)).pz hP) (s := 0) (t := 0) (Nat.zero_le _) rfl ((sgn2 _ _ (by decide)).trans (sg ..)) (sg ..) (by omega)) rfl (fun r11 M11 h11 => ?_)
  skip
  have hD0 : kD M (k_si (k_si M 14 0 10 0) 14 0 12 0) := (kD.rf.f (Or.inl rfl)).f (Or.inr rfl)
  obtain ⟨hK, hO⟩ := h11
  rcases hO with ⟨rfl, s2, g1, g2, g3, g4, g5, g6, g7, g8, g9⟩ | ⟨rfl, s2, g1, g2⟩
  · refine go_istore_n (q := 15) dX10_readPad_14 rfl (by decide) rfl rfl ?_
    exact lp_mreadPad hP (n + 1) M11 s2 1 (fun _ => 0) (by omega) (hD0.tr hK) g2 g3 g6 g7 (by omega) (TL_one (by omega) g9 g4 g5)
  · refine go_istore_n (q := 15) dX10_readPad_14 rfl (by decide) rfl rfl ?_
    refine go_iload_n (q := 16) dX10_readPad_15 rfl rfl rfl ?_
    refine go_if_eq (q := 19) (t := 55) dX10_readPad_16 (by decide) rfl (fun _ => ?_) (fun z => absurd rfl z)
    refine go_iload_n (q := 56) dX10_readPad_55 rfl rfl rfl ?_
    exact go_iretz dX10_readPad_56 rfl (by decide) ⟨hD0.tr hK, Or.inr ⟨rfl, s2, g2, g1⟩⟩
theorem MI_D {M M' : KM} {σ : ST} (h : MI M σ) (hk : kD M M') : MI M' σ := by
  obtain ⟨a1, a2, a3, a4, a5, a6, a7, a8⟩ := h
  have e : ∀ k, k ≠ 14 → k ≠ 19 → M'.1 k 0 = M.1 k 0 := fun k h1 h2 => hk.2.1 k 0 h1 h2
  refine ⟨?_, a2, ?_, fun s hs => ?_, HZ_keep a5 (e 16 (by decide) (by decide)) (hk.2.2 2 (by decide) (by decide)), a6, hk.pz a7, WZ_keep a8 (fun c h1 h2 => hk.2.2 c (by omega) (by omega))⟩
  · show ZF (M'.1 15 0) 0 _
    rw [e 15 (by decide) (by decide)]; exact a1
  · rw [hk.2.2 4 (by decide) (by decide)]; exact a3
  · rw [e 17 (by decide) (by decide)]; exact a4 s hs
theorem kD.fm {M M' : KM} (h : kD M M') : fm M M' := ⟨h.1, fun k b hk => h.2.1 k b (by omega) (by omega)⟩
theorem ok_mfault {M : KM} {σ : ST} (h : MI M σ) : Ok mX10_fault [vR 14 0] M (QM M (e4 (pfault (padN σ) (padC σ))) σ) := by
  refine ok_of (by decide) rfl (Nat.le_of_ble_eq_true rfl) ⟨rfl, rfl⟩ ?_
  show Go mX10_fault (Zm (QM M (e4 (pfault (padN σ) (padC σ))) σ)) M [some (vR 14 0)] [] 0
  refine go_aload_n (q := 1) dX10_fault_0 rfl rfl rfl ?_
  refine go_callV [] (cal := mX10_readPad) (q := 4) dX10_fault_1 lRX10_174 vX10_readPad ⟨by decide, by decide⟩ rfl rfl (by decide) (Nat.le_of_ble_eq_true rfl) (ok_mreadPad h.2.2.2.2.2.2.1) rfl (fun r1 M1 h1 => ?_)
  skip
  obtain ⟨hK, hO⟩ := h1
  rcases hO with ⟨rfl, hf, -⟩ | ⟨rfl, k, hf, hk⟩
  · refine go_if_eq (q := 7) (t := 12) dX10_fault_4 (by decide) rfl (fun z => absurd z (by decide)) (fun _ => ?_)
    refine go_bipush (q := 9) (v := (-4)) dX10_fault_7 (by decide) rfl ?_
    refine go_goto (q := 16) dX10_fault_9 (by decide) ?_
    exact go_ireti dX10_fault_16 rfl ⟨by rw [hf]; rfl, MI_D h hK, hK.fm⟩
  · refine go_if_eq (q := 7) (t := 12) dX10_fault_4 (by decide) rfl (fun _ => ?_) (fun z => absurd rfl z)
    refine go_aload_n (q := 13) dX10_fault_12 rfl rfl rfl ?_
    refine go_getf (q := 16) dX10_fault_13 fRX10_149 rfl (by decide) rfl rfl ?_
    refine go_topi hk ?_
    exact go_ireti dX10_fault_16 rfl ⟨by rw [hf]; rfl, MI_D h hK, hK.fm⟩
theorem ok_mdoDeed {M : KM} {R : RO} (hZ : ZA M R) (hW : rW R) {n : Nat} {c : Nat → Nat} (hP : PZ M n c) {i q : Nat} (hi : i < 20) (hq : q < n) (h0 : M.1 19 0 (4 * i) = nI q) {a b d : Int32} (ha : M.1 19 0 (4 * i + 1) = a) (hb : M.1 19 0 (4 * i + 2) = b) (hd : M.1 19 0 (4 * i + 3) = d) : Ok mX10_doDeed [vR 14 0, vI (nI i)] M (KZQ M (dT (c q) R a b d).1 (dT (c q) R a b d).2) := by
  refine ok_of (by decide) rfl (Nat.le_of_ble_eq_true rfl) ⟨rfl, rfl⟩ ?_
  show Go mX10_doDeed (Zm (KZQ M (dT (c q) R a b d).1 (dT (c q) R a b d).2)) M [some (vR 14 0), some (vI (nI i)), none, none, none, none] [] 0
  by_cases h100 : c q = 100
  · rw [show dT (c q) R a b d = dDie R a from if_pos h100]
    refine go_aload_n (q := 1) dX10_doDeed_0 rfl rfl rfl ?_
    refine go_getf (q := 4) dX10_doDeed_1 fRX10_32 rfl (by decide) rfl rfl ?_
    refine go_iconst (q := 5) (v := 4) dX10_doDeed_4 (by decide) rfl ?_
    refine go_iload_n (q := 6) dX10_doDeed_5 rfl rfl rfl ?_
    refine go_imul (q := 7) dX10_doDeed_6 rfl ?_
    refine go_topi (pk_mul 4 i) ?_
    refine go_iconst (q := 8) (v := 1) dX10_doDeed_7 (by decide) rfl ?_
    refine go_iadd (q := 9) dX10_doDeed_8 rfl ?_
    refine go_topi (nI_add (4 * i) 1) ?_
    refine go_iald (q := 10) (4 * i + 1) dX10_doDeed_9 rfl rfl (by decide) rfl (by omega) rfl ?_
    refine go_topi ha ?_
    refine go_istore_n (q := 11) dX10_doDeed_10 rfl (by decide) rfl rfl ?_
    refine go_aload_n (q := 12) dX10_doDeed_11 rfl rfl rfl ?_
    refine go_getf (q := 15) dX10_doDeed_12 fRX10_32 rfl (by decide) rfl rfl ?_
    refine go_iconst (q := 16) (v := 4) dX10_doDeed_15 (by decide) rfl ?_
    refine go_iload_n (q := 17) dX10_doDeed_16 rfl rfl rfl ?_
    refine go_imul (q := 18) dX10_doDeed_17 rfl ?_
    refine go_topi (pk_mul 4 i) ?_
    refine go_iconst (q := 19) (v := 2) dX10_doDeed_18 (by decide) rfl ?_
    refine go_iadd (q := 20) dX10_doDeed_19 rfl ?_
    refine go_topi (nI_add (4 * i) 2) ?_
    refine go_iald (q := 21) (4 * i + 2) dX10_doDeed_20 rfl rfl (by decide) rfl (by omega) rfl ?_
    refine go_topi hb ?_
    refine go_istore_n (q := 22) dX10_doDeed_21 rfl (by decide) rfl rfl ?_
    refine go_aload_n (q := 23) dX10_doDeed_22 rfl rfl rfl ?_
    refine go_getf (q := 26) dX10_doDeed_23 fRX10_32 rfl (by decide) rfl rfl ?_
    refine go_iconst (q := 27) (v := 4) dX10_doDeed_26 (by decide) rfl ?_
    refine go_iload_n (q := 28) dX10_doDeed_27 rfl rfl rfl ?_
    refine go_imul (q := 29) dX10_doDeed_28 rfl ?_
    refine go_topi (pk_mul 4 i) ?_
    refine go_iconst (q := 30) (v := 3) dX10_doDeed_29 (by decide) rfl ?_
    refine go_iadd (q := 31) dX10_doDeed_30 rfl ?_
    refine go_topi (nI_add (4 * i) 3) ?_
    refine go_iald (q := 32) (4 * i + 3) dX10_doDeed_31 rfl rfl (by decide) rfl (by omega) rfl ?_
    refine go_topi hd ?_
    refine go_istore (q := 34) dX10_doDeed_32 (by decide) rfl rfl ?_
    refine go_aload_n (q := 35) dX10_doDeed_34 rfl rfl rfl ?_
    refine go_getf (q := 38) dX10_doDeed_35 fRX10_19 rfl (by decide) rfl rfl ?_
    refine go_aload_n (q := 39) dX10_doDeed_38 rfl rfl rfl ?_
    refine go_getf (q := 42) dX10_doDeed_39 fRX10_32 rfl (by decide) rfl rfl ?_
    refine go_iconst (q := 43) (v := 4) dX10_doDeed_42 (by decide) rfl ?_
    refine go_iload_n (q := 44) dX10_doDeed_43 rfl rfl rfl ?_
    refine go_imul (q := 45) dX10_doDeed_44 rfl ?_
    refine go_topi (pk_mul 4 i) ?_
    refine go_iald (q := 46) (4 * i) dX10_doDeed_45 rfl rfl (by decide) rfl (by omega) rfl ?_
    refine go_topi h0 ?_
    refine go_iald (q := 47) q dX10_doDeed_46 rfl rfl (by decide) rfl (by have := hP.2.1; omega) rfl ?_
    refine go_topi (hP.2.2 q hq).1 ?_
    refine go_lookup (off := 85) (q := 132) dX10_doDeed_47 rfl (by rw [(show (nI (c q)).toInt = 100 from by rw [h100, nI_toInt (by decide)]; rfl)]; try rfl) (by decide) ?_
    refine go_aload_n (q := 133) dX10_doDeed_132 rfl rfl rfl ?_
    refine go_iload_n (q := 134) dX10_doDeed_133 rfl rfl rfl ?_
    refine go_cV1 (cal := mX10_isPerson) (q := 137) dX10_doDeed_134 lRX10_116 vX10_isPerson ⟨by decide, by decide⟩ rfl (by decide) (Nat.le_of_ble_eq_true rfl) (ok_misPerson hZ _) rfl ?_
    refine go_if_eqB (q := 140) (t := 148) dX10_doDeed_137 (by decide) rfl (fun c_137 => ?_) (fun c_137 => ?_)
    · rw [show dDie R a = (-1, R) from by unfold dDie; rw [isSome_f c_137]]
      refine go_iconst (q := 149) (v := (-1)) dX10_doDeed_148 (by decide) rfl ?_
      exact go_ireti dX10_doDeed_149 rfl ⟨rfl, hZ, kZ.rf⟩
    · obtain ⟨p, hp⟩ := isSome_t c_137
      obtain ⟨hlt, rfl⟩ := pOf_some hp
      refine go_aload_n (q := 141) dX10_doDeed_140 rfl rfl rfl ?_
      refine go_iload_n (q := 142) dX10_doDeed_141 rfl rfl rfl ?_
      refine go_callV [vI (nI p)] (cal := mX10_dieNow) (q := 145) dX10_doDeed_142 lRX10_131 vX10_dieNow ⟨by decide, by decide⟩ rfl rfl (by decide) (Nat.le_of_ble_eq_true rfl) (ok_mdieNow hZ hW hlt) rfl (fun r142 M142 h142 => ?_)
      obtain ⟨rfl, hZ2, hk2⟩ := h142
      refine go_goto (q := 149) dX10_doDeed_145 (by decide) ?_
      exact go_ireti dX10_doDeed_149 rfl ⟨rfl, hZ2, hk2⟩
  by_cases h102 : c q = 102
  · rw [show dT (c q) R a b d = dFound R a from dT_f h102]
    refine go_aload_n (q := 1) dX10_doDeed_0 rfl rfl rfl ?_
    refine go_getf (q := 4) dX10_doDeed_1 fRX10_32 rfl (by decide) rfl rfl ?_
    refine go_iconst (q := 5) (v := 4) dX10_doDeed_4 (by decide) rfl ?_
    refine go_iload_n (q := 6) dX10_doDeed_5 rfl rfl rfl ?_
    refine go_imul (q := 7) dX10_doDeed_6 rfl ?_
    refine go_topi (pk_mul 4 i) ?_
    refine go_iconst (q := 8) (v := 1) dX10_doDeed_7 (by decide) rfl ?_
    refine go_iadd (q := 9) dX10_doDeed_8 rfl ?_
    refine go_topi (nI_add (4 * i) 1) ?_
    refine go_iald (q := 10) (4 * i + 1) dX10_doDeed_9 rfl rfl (by decide) rfl (by omega) rfl ?_
    refine go_topi ha ?_
    refine go_istore_n (q := 11) dX10_doDeed_10 rfl (by decide) rfl rfl ?_
    refine go_aload_n (q := 12) dX10_doDeed_11 rfl rfl rfl ?_
    refine go_getf (q := 15) dX10_doDeed_12 fRX10_32 rfl (by decide) rfl rfl ?_
    refine go_iconst (q := 16) (v := 4) dX10_doDeed_15 (by decide) rfl ?_
    refine go_iload_n (q := 17) dX10_doDeed_16 rfl rfl rfl ?_
    refine go_imul (q := 18) dX10_doDeed_17 rfl ?_
    refine go_topi (pk_mul 4 i) ?_
    refine go_iconst (q := 19) (v := 2) dX10_doDeed_18 (by decide) rfl ?_
    refine go_iadd (q := 20) dX10_doDeed_19 rfl ?_
    refine go_topi (nI_add (4 * i) 2) ?_
    refine go_iald (q := 21) (4 * i + 2) dX10_doDeed_20 rfl rfl (by decide) rfl (by omega) rfl ?_
    refine go_topi hb ?_
    refine go_istore_n (q := 22) dX10_doDeed_21 rfl (by decide) rfl rfl ?_
    refine go_aload_n (q := 23) dX10_doDeed_22 rfl rfl rfl ?_
    refine go_getf (q := 26) dX10_doDeed_23 fRX10_32 rfl (by decide) rfl rfl ?_
    refine go_iconst (q := 27) (v := 4) dX10_doDeed_26 (by decide) rfl ?_
    refine go_iload_n (q := 28) dX10_doDeed_27 rfl rfl rfl ?_
    refine go_imul (q := 29) dX10_doDeed_28 rfl ?_
    refine go_topi (pk_mul 4 i) ?_
    refine go_iconst (q := 30) (v := 3) dX10_doDeed_29 (by decide) rfl ?_
    refine go_iadd (q := 31) dX10_doDeed_30 rfl ?_
    refine go_topi (nI_add (4 * i) 3) ?_
    refine go_iald (q := 32) (4 * i + 3) dX10_doDeed_31 rfl rfl (by decide) rfl (by omega) rfl ?_
    refine go_topi hd ?_
    refine go_istore (q := 34) dX10_doDeed_32 (by decide) rfl rfl ?_
    refine go_aload_n (q := 35) dX10_doDeed_34 rfl rfl rfl ?_
    refine go_getf (q := 38) dX10_doDeed_35 fRX10_19 rfl (by decide) rfl rfl ?_
    refine go_aload_n (q := 39) dX10_doDeed_38 rfl rfl rfl ?_
    refine go_getf (q := 42) dX10_doDeed_39 fRX10_32 rfl (by decide) rfl rfl ?_
    refine go_iconst (q := 43) (v := 4) dX10_doDeed_42 (by decide) rfl ?_
    refine go_iload_n (q := 44) dX10_doDeed_43 rfl rfl rfl ?_
    refine go_imul (q := 45) dX10_doDeed_44 rfl ?_
    refine go_topi (pk_mul 4 i) ?_
    refine go_iald (q := 46) (4 * i) dX10_doDeed_45 rfl rfl (by decide) rfl (by omega) rfl ?_
    refine go_topi h0 ?_
    refine go_iald (q := 47) q dX10_doDeed_46 rfl rfl (by decide) rfl (by have := hP.2.1; omega) rfl ?_
    refine go_topi (hP.2.2 q hq).1 ?_
    refine go_lookup (off := 33) (q := 80) dX10_doDeed_47 rfl (by rw [(show (nI (c q)).toInt = 102 from by rw [h102, nI_toInt (by decide)]; rfl)]; try rfl) (by decide) ?_
    refine go_aload_n (q := 81) dX10_doDeed_80 rfl rfl rfl ?_
    refine go_iload_n (q := 82) dX10_doDeed_81 rfl rfl rfl ?_
    refine go_cV1 (cal := mX10_whyNotFound) (q := 85) dX10_doDeed_82 lRX10_99 vX10_whyNotFound ⟨by decide, by decide⟩ rfl (by decide) (Nat.le_of_ble_eq_true rfl) (ok_mwhyNotFound hZ _) rfl ?_
    refine go_istore (q := 87) dX10_doDeed_85 (by decide) rfl rfl ?_
    refine go_iload (q := 89) dX10_doDeed_87 rfl rfl ?_
    refine go_if_ge (q := 92) (t := 97) dX10_doDeed_89 (by decide) rfl (fun c_89 => ?_) (fun c_89 => ?_)
    · obtain ⟨s, hs, hn⟩ := wF_pos hZ.le c_89
      obtain ⟨hsl, rfl⟩ := pOf_some hs
      refine go_aload_n (q := 98) dX10_doDeed_97 rfl rfl rfl ?_
      refine go_iload_n (q := 99) dX10_doDeed_98 rfl rfl rfl ?_
      refine go_callV [vI (nI s)] (cal := mX10_foundNow) (q := 102) dX10_doDeed_99 lRX10_102 vX10_foundNow ⟨by decide, by decide⟩ rfl rfl (by decide) (Nat.le_of_ble_eq_true rfl) (ok_mfoundNow hZ hW hsl hn) rfl (fun r99 M99 h99 => ?_)
      obtain ⟨rfl, hZ2, hk2⟩ := h99
      exact go_ireti dX10_doDeed_102 rfl ⟨rfl, hZ2, hk2⟩
    · rw [wF_neg hZ.le c_89]
      refine go_iload (q := 94) dX10_doDeed_92 rfl rfl ?_
      refine go_goto (q := 102) dX10_doDeed_94 (by decide) ?_
      exact go_ireti dX10_doDeed_102 rfl ⟨rfl, hZ, kZ.rf⟩
  by_cases h115 : c q = 115
  · rw [show dT (c q) R a b d = dBear R a b d from dT_s h115]
    refine go_aload_n (q := 1) dX10_doDeed_0 rfl rfl rfl ?_
    refine go_getf (q := 4) dX10_doDeed_1 fRX10_32 rfl (by decide) rfl rfl ?_
    refine go_iconst (q := 5) (v := 4) dX10_doDeed_4 (by decide) rfl ?_
    refine go_iload_n (q := 6) dX10_doDeed_5 rfl rfl rfl ?_
    refine go_imul (q := 7) dX10_doDeed_6 rfl ?_
    refine go_topi (pk_mul 4 i) ?_
    refine go_iconst (q := 8) (v := 1) dX10_doDeed_7 (by decide) rfl ?_
    refine go_iadd (q := 9) dX10_doDeed_8 rfl ?_
    refine go_topi (nI_add (4 * i) 1) ?_
    refine go_iald (q := 10) (4 * i + 1) dX10_doDeed_9 rfl rfl (by decide) rfl (by omega) rfl ?_
    refine go_topi ha ?_
    refine go_istore_n (q := 11) dX10_doDeed_10 rfl (by decide) rfl rfl ?_
    refine go_aload_n (q := 12) dX10_doDeed_11 rfl rfl rfl ?_
    refine go_getf (q := 15) dX10_doDeed_12 fRX10_32 rfl (by decide) rfl rfl ?_
    refine go_iconst (q := 16) (v := 4) dX10_doDeed_15 (by decide) rfl ?_
    refine go_iload_n (q := 17) dX10_doDeed_16 rfl rfl rfl ?_
    refine go_imul (q := 18) dX10_doDeed_17 rfl ?_
    refine go_topi (pk_mul 4 i) ?_
    refine go_iconst (q := 19) (v := 2) dX10_doDeed_18 (by decide) rfl ?_
    refine go_iadd (q := 20) dX10_doDeed_19 rfl ?_
    refine go_topi (nI_add (4 * i) 2) ?_
    refine go_iald (q := 21) (4 * i + 2) dX10_doDeed_20 rfl rfl (by decide) rfl (by omega) rfl ?_
    refine go_topi hb ?_
    refine go_istore_n (q := 22) dX10_doDeed_21 rfl (by decide) rfl rfl ?_
    refine go_aload_n (q := 23) dX10_doDeed_22 rfl rfl rfl ?_
    refine go_getf (q := 26) dX10_doDeed_23 fRX10_32 rfl (by decide) rfl rfl ?_
    refine go_iconst (q := 27) (v := 4) dX10_doDeed_26 (by decide) rfl ?_
    refine go_iload_n (q := 28) dX10_doDeed_27 rfl rfl rfl ?_
    refine go_imul (q := 29) dX10_doDeed_28 rfl ?_
    refine go_topi (pk_mul 4 i) ?_
    refine go_iconst (q := 30) (v := 3) dX10_doDeed_29 (by decide) rfl ?_
    refine go_iadd (q := 31) dX10_doDeed_30 rfl ?_
    refine go_topi (nI_add (4 * i) 3) ?_
    refine go_iald (q := 32) (4 * i + 3) dX10_doDeed_31 rfl rfl (by decide) rfl (by omega) rfl ?_
    refine go_topi hd ?_
    refine go_istore (q := 34) dX10_doDeed_32 (by decide) rfl rfl ?_
    refine go_aload_n (q := 35) dX10_doDeed_34 rfl rfl rfl ?_
    refine go_getf (q := 38) dX10_doDeed_35 fRX10_19 rfl (by decide) rfl rfl ?_
    refine go_aload_n (q := 39) dX10_doDeed_38 rfl rfl rfl ?_
    refine go_getf (q := 42) dX10_doDeed_39 fRX10_32 rfl (by decide) rfl rfl ?_
    refine go_iconst (q := 43) (v := 4) dX10_doDeed_42 (by decide) rfl ?_
    refine go_iload_n (q := 44) dX10_doDeed_43 rfl rfl rfl ?_
    refine go_imul (q := 45) dX10_doDeed_44 rfl ?_
    refine go_topi (pk_mul 4 i) ?_
    refine go_iald (q := 46) (4 * i) dX10_doDeed_45 rfl rfl (by decide) rfl (by omega) rfl ?_
    refine go_topi h0 ?_
    refine go_iald (q := 47) q dX10_doDeed_46 rfl rfl (by decide) rfl (by have := hP.2.1; omega) rfl ?_
    refine go_topi (hP.2.2 q hq).1 ?_
    refine go_lookup (off := 56) (q := 103) dX10_doDeed_47 rfl (by rw [(show (nI (c q)).toInt = 115 from by rw [h115, nI_toInt (by decide)]; rfl)]; try rfl) (by decide) ?_
    refine go_aload_n (q := 104) dX10_doDeed_103 rfl rfl rfl ?_
    refine go_iload_n (q := 105) dX10_doDeed_104 rfl rfl rfl ?_
    refine go_iload_n (q := 106) dX10_doDeed_105 rfl rfl rfl ?_
    refine go_iload (q := 108) dX10_doDeed_106 rfl rfl ?_
    refine go_cV3 (cal := mX10_whyNotBear) (q := 111) dX10_doDeed_108 lRX10_125 vX10_whyNotBear ⟨by decide, by decide⟩ rfl (by decide) (Nat.le_of_ble_eq_true rfl) (ok_mwhyNotBear hZ _ _ _) rfl ?_
    refine go_istore (q := 113) dX10_doDeed_111 (by decide) rfl rfl ?_
    refine go_iload (q := 115) dX10_doDeed_113 rfl rfl ?_
    refine go_if_ge (q := 118) (t := 123) dX10_doDeed_115 (by decide) rfl (fun c_115 => ?_) (fun c_115 => ?_)
    · obtain ⟨f, k, m, hf, hkk, hm, hn⟩ := wB_pos hZ.le c_115
      obtain ⟨hfl, rfl⟩ := pOf_some hf
      obtain ⟨hkl, rfl⟩ := pOf_some hkk
      obtain ⟨hml, rfl⟩ := pOf_some hm
      refine go_aload_n (q := 124) dX10_doDeed_123 rfl rfl rfl ?_
      refine go_iload_n (q := 125) dX10_doDeed_124 rfl rfl rfl ?_
      refine go_iload_n (q := 126) dX10_doDeed_125 rfl rfl rfl ?_
      refine go_iload (q := 128) dX10_doDeed_126 rfl rfl ?_
      refine go_callV [vI (nI f), vI (nI k), vI (nI m)] (cal := mX10_bearNow) (q := 131) dX10_doDeed_128 lRX10_128 vX10_bearNow ⟨by decide, by decide⟩ rfl rfl (by decide) (Nat.le_of_ble_eq_true rfl) (ok_mbearNow hZ hW hfl hkl hml hn) rfl (fun r128 M128 h128 => ?_)
      obtain ⟨rfl, hZ2, hk2⟩ := h128
      exact go_ireti dX10_doDeed_131 rfl ⟨rfl, hZ2, hk2⟩
    · rw [wB_neg hZ.le c_115]
      refine go_iload (q := 120) dX10_doDeed_118 rfl rfl ?_
      refine go_goto (q := 131) dX10_doDeed_120 (by decide) ?_
      exact go_ireti dX10_doDeed_131 rfl ⟨rfl, hZ, kZ.rf⟩
  · rw [show dT (c q) R a b d = dHeir R a from (if_neg h100).trans ((if_neg h102).trans (if_neg h115))]
    refine go_aload_n (q := 1) dX10_doDeed_0 rfl rfl rfl ?_
    refine go_getf (q := 4) dX10_doDeed_1 fRX10_32 rfl (by decide) rfl rfl ?_
    refine go_iconst (q := 5) (v := 4) dX10_doDeed_4 (by decide) rfl ?_
    refine go_iload_n (q := 6) dX10_doDeed_5 rfl rfl rfl ?_
    refine go_imul (q := 7) dX10_doDeed_6 rfl ?_
    refine go_topi (pk_mul 4 i) ?_
    refine go_iconst (q := 8) (v := 1) dX10_doDeed_7 (by decide) rfl ?_
    refine go_iadd (q := 9) dX10_doDeed_8 rfl ?_
    refine go_topi (nI_add (4 * i) 1) ?_
    refine go_iald (q := 10) (4 * i + 1) dX10_doDeed_9 rfl rfl (by decide) rfl (by omega) rfl ?_
    refine go_topi ha ?_
    refine go_istore_n (q := 11) dX10_doDeed_10 rfl (by decide) rfl rfl ?_
    refine go_aload_n (q := 12) dX10_doDeed_11 rfl rfl rfl ?_
    refine go_getf (q := 15) dX10_doDeed_12 fRX10_32 rfl (by decide) rfl rfl ?_
    refine go_iconst (q := 16) (v := 4) dX10_doDeed_15 (by decide) rfl ?_
    refine go_iload_n (q := 17) dX10_doDeed_16 rfl rfl rfl ?_
    refine go_imul (q := 18) dX10_doDeed_17 rfl ?_
    refine go_topi (pk_mul 4 i) ?_
    refine go_iconst (q := 19) (v := 2) dX10_doDeed_18 (by decide) rfl ?_
    refine go_iadd (q := 20) dX10_doDeed_19 rfl ?_
    refine go_topi (nI_add (4 * i) 2) ?_
    refine go_iald (q := 21) (4 * i + 2) dX10_doDeed_20 rfl rfl (by decide) rfl (by omega) rfl ?_
    refine go_topi hb ?_
    refine go_istore_n (q := 22) dX10_doDeed_21 rfl (by decide) rfl rfl ?_
    refine go_aload_n (q := 23) dX10_doDeed_22 rfl rfl rfl ?_
    refine go_getf (q := 26) dX10_doDeed_23 fRX10_32 rfl (by decide) rfl rfl ?_
    refine go_iconst (q := 27) (v := 4) dX10_doDeed_26 (by decide) rfl ?_
    refine go_iload_n (q := 28) dX10_doDeed_27 rfl rfl rfl ?_
    refine go_imul (q := 29) dX10_doDeed_28 rfl ?_
    refine go_topi (pk_mul 4 i) ?_
    refine go_iconst (q := 30) (v := 3) dX10_doDeed_29 (by decide) rfl ?_
    refine go_iadd (q := 31) dX10_doDeed_30 rfl ?_
    refine go_topi (nI_add (4 * i) 3) ?_
    refine go_iald (q := 32) (4 * i + 3) dX10_doDeed_31 rfl rfl (by decide) rfl (by omega) rfl ?_
    refine go_topi hd ?_
    refine go_istore (q := 34) dX10_doDeed_32 (by decide) rfl rfl ?_
    refine go_aload_n (q := 35) dX10_doDeed_34 rfl rfl rfl ?_
    refine go_getf (q := 38) dX10_doDeed_35 fRX10_19 rfl (by decide) rfl rfl ?_
    refine go_aload_n (q := 39) dX10_doDeed_38 rfl rfl rfl ?_
    refine go_getf (q := 42) dX10_doDeed_39 fRX10_32 rfl (by decide) rfl rfl ?_
    refine go_iconst (q := 43) (v := 4) dX10_doDeed_42 (by decide) rfl ?_
    refine go_iload_n (q := 44) dX10_doDeed_43 rfl rfl rfl ?_
    refine go_imul (q := 45) dX10_doDeed_44 rfl ?_
    refine go_topi (pk_mul 4 i) ?_
    refine go_iald (q := 46) (4 * i) dX10_doDeed_45 rfl rfl (by decide) rfl (by omega) rfl ?_
    refine go_topi h0 ?_
    refine go_iald (q := 47) q dX10_doDeed_46 rfl rfl (by decide) rfl (by have := hP.2.1; omega) rfl ?_
    refine go_topi (hP.2.2 q hq).1 ?_
    refine go_lookup (off := 103) (q := 150) dX10_doDeed_47 rfl (by rw [nI_toInt (by have := (hP.2.2 q hq).2.2; omega)]; simp only [Op.lookupswitch.offset_cons, Op.lookupswitch.offset_nil]; rw [if_neg (by omega), if_neg (by omega), if_neg (by omega)]) (by decide) ?_
    refine go_aload_n (q := 151) dX10_doDeed_150 rfl rfl rfl ?_
    refine go_iload_n (q := 152) dX10_doDeed_151 rfl rfl rfl ?_
    refine go_cV1 (cal := mX10_whyNotInherit) (q := 155) dX10_doDeed_152 lRX10_140 vX10_whyNotInherit ⟨by decide, by decide⟩ rfl (by decide) (Nat.le_of_ble_eq_true rfl) (ok_mwhyNotInherit hZ _) rfl ?_
    refine go_istore (q := 157) dX10_doDeed_155 (by decide) rfl rfl ?_
    refine go_iload (q := 159) dX10_doDeed_157 rfl rfl ?_
    refine go_if_ge (q := 162) (t := 167) dX10_doDeed_159 (by decide) rfl (fun c_159 => ?_) (fun c_159 => ?_)
    · obtain ⟨p, hp, hl⟩ := wH_pos c_159
      obtain ⟨hlt, rfl⟩ := pOf_some hp
      refine go_aload_n (q := 168) dX10_doDeed_167 rfl rfl rfl ?_
      refine go_iload_n (q := 169) dX10_doDeed_168 rfl rfl rfl ?_
      refine go_callV [vI (nI p)] (cal := mX10_inheritNow) (q := 172) dX10_doDeed_169 lRX10_143 vX10_inheritNow ⟨by decide, by decide⟩ rfl rfl (by decide) (Nat.le_of_ble_eq_true rfl) (ok_minheritNow hZ hW hlt hl) rfl (fun r169 M169 h169 => ?_)
      obtain ⟨rfl, hZ2, hk2⟩ := h169
      exact go_ireti dX10_doDeed_172 rfl ⟨rfl, hZ2, hk2⟩
    · rw [wH_neg c_159]
      refine go_iload (q := 164) dX10_doDeed_162 rfl rfl ?_
      refine go_goto (q := 172) dX10_doDeed_164 (by decide) ?_
      exact go_ireti dX10_doDeed_172 rfl ⟨rfl, hZ, kZ.rf⟩
