/-! ===== the model: undo, save, restore, append, clear, why ===== -/
theorem MI_undo {M M' : KM} {σ : ST} {g : Nat} (h : MI M σ) (hg : σ.2.2.1.1 = g + 1) (hZ : ZA M' (σ.2.2.1.2 g)) (e : ∀ k, k ≠ 15 → k ≠ 14 → M'.1 k 0 = M.1 k 0) (e14 : ∀ c, c ≠ 2 → M'.1 14 0 c = M.1 14 0 c) (e2 : M'.1 14 0 2 = nI g) : MI M' (σ.2.2.1.2 g, σ.2.1, (g, σ.2.2.1.2), σ.2.2.2) := by
  obtain ⟨a1, a2, a3, a4, a5, a6, a7, a8⟩ := h
  refine ⟨hZ, a6 g (by omega), ?_, fun s hs => ?_, ⟨e2, by have := a5.2.1; show g ≤ 4; omega, fun j hj => ?_⟩, fun j hj => a6 j (by have : j < g := hj; omega), PZ_keep a7 (e 18 (by decide) (by decide)) (e14 6 (by decide)), WZ_keep a8 (fun c h1 h2 => e14 c (by omega))⟩
  · rw [e14 4 (by decide)]; exact a3
  · rw [e 17 (by decide) (by decide)]; exact a4 s hs
  · rw [e 16 (by decide) (by decide)]; exact a5.2.2 j (by have : j < g := hj; omega)
theorem MI_save {M M' : KM} {σ : ST} (h : MI M σ) (h17 : ZF (M'.1 17 0) 0 σ.1) (e : ∀ k, k ≠ 17 → k ≠ 14 → M'.1 k 0 = M.1 k 0) (e14 : ∀ c, c ≠ 4 → M'.1 14 0 c = M.1 14 0 c) (e4 : M'.1 14 0 4 = 1) : MI M' (σ.1, some σ.1, σ.2.2) := by
  obtain ⟨a1, a2, a3, a4, a5, a6, a7, a8⟩ := h
  refine ⟨?_, a2, e4, fun s hs => ?_, HZ_keep a5 (e 16 (by decide) (by decide)) (e14 2 (by decide)), a6, PZ_keep a7 (e 18 (by decide) (by decide)) (e14 6 (by decide)), WZ_keep a8 (fun c h1 h2 => e14 c (by omega))⟩
  · show ZF (M'.1 15 0) 0 _
    rw [e 15 (by decide) (by decide)]; exact a1
  · cases hs; exact ⟨h17, a2⟩
theorem MI_pad {M M' : KM} {σ : ST} {n : Nat} {c : Nat → Nat} (h : MI M σ) (hP : PZ M' n c) (e : ∀ k, k ≠ 18 → k ≠ 14 → M'.1 k 0 = M.1 k 0) (e14 : ∀ c, c ≠ 6 → M'.1 14 0 c = M.1 14 0 c) : MI M' (sPad σ n c) := by
  obtain ⟨a1, a2, a3, a4, a5, a6, a7, a8⟩ := h
  refine ⟨?_, a2, ?_, fun s hs => ?_, HZ_keep a5 (e 16 (by decide) (by decide)) (e14 2 (by decide)), a6, hP, WZ_keep a8 (fun c h1 h2 => e14 c (by omega))⟩
  · show ZF (M'.1 15 0) 0 _
    rw [e 15 (by decide) (by decide)]; exact a1
  · rw [e14 4 (by decide)]; exact a3
  · rw [e 17 (by decide) (by decide)]; exact a4 s hs
theorem sgn_in (x : Int32) : (decide ((33 : Int32) ≤ x) && decide (x ≤ 126)) = (sgn x).isSome := by
  have e33 : (33 : Int32).toInt = 33 := by decide
  have e126 : (126 : Int32).toInt = 126 := by decide
  cases h : pOf 127 x with
  | none =>
    rw [show sgn x = none by unfold sgn; rw [h]]
    rcases pOf_none h with h1 | h1
    · rw [decide_eq_false (by rw [i32_le, e33]; omega)]; rfl
    · rw [decide_eq_false (p := x ≤ 126) (by rw [i32_le, e126]; omega), Bool.and_false]; rfl
  | some k =>
    obtain ⟨hk, rfl⟩ := pOf_some h
    rw [show sgn (nI k) = if 33 ≤ k then some k else none by unfold sgn; rw [h], decide_eq_true (p := nI k ≤ 126) (by rw [i32_le, e126, nI_toInt (by omega)]; omega), Bool.and_true]
    by_cases h1 : 33 ≤ k
    · rw [if_pos h1, decide_eq_true (by rw [i32_le, e33, nI_toInt (by omega)]; omega)]; rfl
    · rw [if_neg h1, decide_eq_false (by rw [i32_le, e33, nI_toInt (by omega)]; omega)]; rfl
theorem sgn_ok {x : Int32} {k : Nat} (h : sgn x = some k) : x = nI k ∧ 33 ≤ k ∧ k ≤ 126 := by
  unfold sgn at h
  cases h1 : pOf 127 x with
  | none => rw [h1] at h; cases h
  | some j =>
    rw [h1] at h
    obtain ⟨hk, rfl⟩ := pOf_some h1
    simp only at h
    split at h
    · cases h; exact ⟨rfl, by assumption, by omega⟩
    · cases h
theorem why_0 {M : KM} {w : Option (Int32 × Int32 × Int32)} (h : WZ M w) : M.1 14 0 7 = aWhy w 0 := by
  unfold aWhy
  rw [show pOf 3 (0 : Int32) = some 0 by decide]
  cases w with
  | none => exact h.1
  | some a => exact h.1
theorem why_1 {M : KM} {w : Option (Int32 × Int32 × Int32)} (h : WZ M w) : M.1 14 0 8 = aWhy w 1 := by
  unfold aWhy
  rw [show pOf 3 (1 : Int32) = some 1 by decide]
  cases w with
  | none => exact h.2.1
  | some a => exact h.2.1
theorem why_2 {M : KM} {w : Option (Int32 × Int32 × Int32)} (h : WZ M w) : M.1 14 0 9 = aWhy w 2 := by
  unfold aWhy
  rw [show pOf 3 (2 : Int32) = some 2 by decide]
  cases w with
  | none => exact h.2.2
  | some a => exact h.2.2
theorem why_o {w : Option (Int32 × Int32 × Int32)} {x : Int32} (h0 : ¬ x = 0) (h1 : ¬ x = 1) (h2 : ¬ x = 2) : aWhy w x = -1 := by
  unfold aWhy
  cases h : pOf 3 x with
  | none => rfl
  | some k =>
    obtain ⟨hk, rfl⟩ := pOf_some h
    rcases (show k = 0 ∨ k = 1 ∨ k = 2 by omega) with rfl | rfl | rfl
    · exact absurd rfl h0
    · exact absurd rfl h1
    · exact absurd rfl h2
theorem ok_mundo {M : KM} {σ : ST} (h : MI M σ) : Ok mX10_undo [vR 14 0] M (QM M (aUndo σ).1 (aUndo σ).2) := by
  refine ok_of (by decide) rfl (Nat.le_of_ble_eq_true rfl) ⟨rfl, rfl⟩ ?_
  show Go mX10_undo (Zm (QM M (aUndo σ).1 (aUndo σ).2)) M [some (vR 14 0)] [] 0
  refine go_aload_n (q := 1) dX10_undo_0 rfl rfl rfl ?_
  refine go_getf (q := 4) dX10_undo_1 fRX10_60 rfl (by decide) rfl rfl ?_
  refine go_topi h.2.2.2.2.1.1 ?_
  refine go_if_neN σ.2.2.1.1 (q := 7) (t := 10) dX10_undo_4 (by decide) rfl rfl (by have := h.2.2.2.2.1.2.1; omega) (fun c_4 => ?_) (fun c_4 => ?_)
  · obtain ⟨g, hg⟩ : ∃ g, σ.2.2.1.1 = g + 1 := ⟨σ.2.2.1.1 - 1, by omega⟩
    have e : aUndo σ = (nI g, (σ.2.2.1.2 g, σ.2.1, (g, σ.2.2.1.2), σ.2.2.2)) := by unfold aUndo; rw [hg]
    rw [e]
    refine go_aload_n (q := 11) dX10_undo_10 rfl rfl rfl ?_
    refine go_dup (q := 12) dX10_undo_11 rfl rfl ?_
    refine go_getf (q := 15) dX10_undo_12 fRX10_60 rfl (by decide) rfl rfl ?_
    refine go_topi h.2.2.2.2.1.1 ?_
    refine go_iconst (q := 16) (v := 1) dX10_undo_15 (by decide) rfl ?_
    refine go_isub (q := 17) dX10_undo_16 rfl ?_
    refine go_topi (v := nI g) (by rw [hg]; exact dn_m1) ?_
    refine go_puti (q := 20) dX10_undo_17 pRX10_60 rfl (by decide) rfl rfl rfl (Nat.le_of_ble_eq_true rfl) rfl ?_
    refine go_aload_n (q := 21) dX10_undo_20 rfl rfl rfl ?_
    refine go_getf (q := 24) dX10_undo_21 fRX10_13 rfl (by decide) rfl rfl ?_
    refine go_bipush (q := 26) (v := 103) dX10_undo_24 (by decide) rfl ?_
    refine go_aload_n (q := 27) dX10_undo_26 rfl rfl rfl ?_
    refine go_getf (q := 30) dX10_undo_27 fRX10_60 rfl (by decide) rfl rfl ?_
    refine go_topi (sg ..) ?_
    refine go_imul (q := 31) dX10_undo_30 rfl ?_
    refine go_topi (k_103 g) ?_
    refine go_aload_n (q := 32) dX10_undo_31 rfl rfl rfl ?_
    refine go_getf (q := 35) dX10_undo_32 fRX10_7 rfl (by decide) rfl rfl ?_
    refine go_iconst (q := 36) (v := 0) dX10_undo_35 (by decide) rfl ?_
    refine go_uS4 (cal := mX10_copyState) (q := 39) dX10_undo_36 lRX10_63 vX10_copyState ⟨by decide, by decide⟩ (Nat.le_of_ble_eq_true rfl) (ok_mcp1615 (fa := 103 * g) (tb := 0) (by have := h.2.2.2.2.1.2.1; omega) (by omega)) rfl ?_
    refine go_aload_n (q := 40) dX10_undo_39 rfl rfl rfl ?_
    refine go_getf (q := 43) dX10_undo_40 fRX10_60 rfl (by decide) rfl rfl ?_
    refine go_topi ((congrFun (kcs_ne (by decide)) 2).trans (sg ..)) ?_
    exact go_ireti dX10_undo_43 rfl ⟨rfl, MI_undo h hg (M' := (kcs (k_si M 14 0 2 (nI g)) 16 (103 * g) 15 0 103)) (ZF_cp (by rw [k_si_ne _ _ (fun z => by omega)]; exact h.2.2.2.2.1.2.2 g (by omega))) (fun k h1 h2 => (kcs_ne h1).trans (k_si_ne _ _ (fun z => h2 z.1))) (fun c hc => (congrFun (kcs_ne (by decide)) c).trans (sgn2 _ _ hc)) ((congrFun (kcs_ne (by decide)) 2).trans (sg ..)), ⟨rfl, fun k b hk => (kcs_ne (by omega)).trans (k_si_ne _ _ (fun z => by omega))⟩⟩
  · have e : aUndo σ = (-2, σ) := by unfold aUndo; rw [c_4]
    rw [e]
    refine go_bipush (q := 9) (v := (-2)) dX10_undo_7 (by decide) rfl ?_
    exact go_ireti dX10_undo_9 rfl ⟨rfl, h, fm.rf⟩
theorem ok_msave {M : KM} {σ : ST} (h : MI M σ) : Ok mX10_save [vR 14 0] M (QM M (aSave σ).1 (aSave σ).2) := by
  refine ok_of (by decide) rfl (Nat.le_of_ble_eq_true rfl) ⟨rfl, rfl⟩ ?_
  show Go mX10_save (Zm (QM M (aSave σ).1 (aSave σ).2)) M [some (vR 14 0)] [] 0
  refine go_aload_n (q := 1) dX10_save_0 rfl rfl rfl ?_
  refine go_getf (q := 4) dX10_save_1 fRX10_7 rfl (by decide) rfl rfl ?_
  refine go_iconst (q := 5) (v := 0) dX10_save_4 (by decide) rfl ?_
  refine go_aload_n (q := 6) dX10_save_5 rfl rfl rfl ?_
  refine go_getf (q := 9) dX10_save_6 fRX10_16 rfl (by decide) rfl rfl ?_
  refine go_iconst (q := 10) (v := 0) dX10_save_9 (by decide) rfl ?_
  refine go_uS4 (cal := mX10_copyState) (q := 13) dX10_save_10 lRX10_63 vX10_copyState ⟨by decide, by decide⟩ (Nat.le_of_ble_eq_true rfl) (ok_mcp1517 (fa := 0) (tb := 0) (by omega) (by omega)) rfl ?_
  refine go_aload_n (q := 14) dX10_save_13 rfl rfl rfl ?_
  refine go_iconst (q := 15) (v := 1) dX10_save_14 (by decide) rfl ?_
  refine go_puti (q := 18) dX10_save_15 pRX10_67 rfl (by decide) rfl (by decide) rfl (Nat.le_of_ble_eq_true rfl) rfl ?_
  refine go_aload_n (q := 19) dX10_save_18 rfl rfl rfl ?_
  refine go_cV0 (cal := mX10_living) (q := 22) dX10_save_19 lRX10_71 vX10_living ⟨by decide, by decide⟩ rfl (by decide) (Nat.le_of_ble_eq_true rfl) (ok_mliving (show ZA (k_si (kcs M 15 0 17 0 103) 14 0 4 1) σ.1 from (by unfold ZA; rw [k_si_ne _ _ (fun z => by omega), kcs_ne (by decide)]; exact h.1))) rfl ?_
  exact go_ireti dX10_save_22 rfl ⟨rfl, MI_save h (by rw [k_si_ne _ _ (fun z => by omega)]; exact ZF_cp h.1) (fun k h1 h2 => (k_si_ne _ _ (fun z => h2 z.1)).trans (kcs_ne h1)) (fun c hc => (sgn2 _ _ hc).trans (congrFun (kcs_ne (by decide)) c)) (sg ..), ⟨rfl, fun k b hk => (k_si_ne _ _ (fun z => by omega)).trans (kcs_ne (by omega))⟩⟩
theorem ok_mrestore {M : KM} {σ : ST} (h : MI M σ) : Ok mX10_restore [vR 14 0] M (QM M (aRestore σ).1 (aRestore σ).2) := by
  refine ok_of (by decide) rfl (Nat.le_of_ble_eq_true rfl) ⟨rfl, rfl⟩ ?_
  show Go mX10_restore (Zm (QM M (aRestore σ).1 (aRestore σ).2)) M [some (vR 14 0)] [] 0
  refine go_aload_n (q := 1) dX10_restore_0 rfl rfl rfl ?_
  refine go_getf (q := 4) dX10_restore_1 fRX10_67 rfl (by decide) rfl rfl ?_
  refine go_topi h.2.2.1 ?_
  refine go_if_neB (q := 7) (t := 10) dX10_restore_4 (by decide) rfl (fun c_4 => ?_) (fun c_4 => ?_)
  · obtain ⟨s, hs⟩ := isSome_t c_4
    have e : aRestore σ = (nI (cn (rL s) (rN s)), sKeep (s, σ.2) σ.1) := by unfold aRestore; rw [hs]
    rw [e]
    refine go_aload_n (q := 11) dX10_restore_10 rfl rfl rfl ?_
    refine go_callV [] (cal := mX10_record) (q := 14) dX10_restore_11 lRX10_75 vX10_record ⟨by decide, by decide⟩ rfl rfl (by decide) (Nat.le_of_ble_eq_true rfl) (ok_mrecord h.2.2.2.2.1 h.1) rfl (fun r11 M11 h11 => ?_)
    obtain ⟨rfl, hH, hk⟩ := h11
    have hZ1 := ZA_N h.1 hk
    refine go_aload_n (q := 15) dX10_restore_14 rfl rfl rfl ?_
    refine go_getf (q := 18) dX10_restore_15 fRX10_16 rfl (by decide) rfl rfl ?_
    refine go_iconst (q := 19) (v := 0) dX10_restore_18 (by decide) rfl ?_
    refine go_aload_n (q := 20) dX10_restore_19 rfl rfl rfl ?_
    refine go_getf (q := 23) dX10_restore_20 fRX10_7 rfl (by decide) rfl rfl ?_
    refine go_iconst (q := 24) (v := 0) dX10_restore_23 (by decide) rfl ?_
    refine go_uS4 (cal := mX10_copyState) (q := 27) dX10_restore_24 lRX10_63 vX10_copyState ⟨by decide, by decide⟩ (Nat.le_of_ble_eq_true rfl) (ok_mcp1715 (fa := 0) (tb := 0) (by omega) (by omega)) rfl ?_
    have hZs : ZA (kcs M11 17 0 15 0 103) s := ZF_cp (by rw [hk.2.1 17 0 (by decide) (by decide)]; exact (h.2.2.2.1 s hs).1)
    refine go_aload_n (q := 28) dX10_restore_27 rfl rfl rfl ?_
    refine go_cV0 (cal := mX10_living) (q := 31) dX10_restore_28 lRX10_71 vX10_living ⟨by decide, by decide⟩ rfl (by decide) (Nat.le_of_ble_eq_true rfl) (ok_mliving hZs) rfl ?_
    exact go_ireti dX10_restore_31 rfl ⟨rfl, MI_setZ (MI_rec h hk hH h.2.1) ⟨rfl, fun k b hk2 => kcs_ne hk2⟩ hZs (h.2.2.2.1 s hs).2, hk.fm.tr ⟨rfl, fun k b hk2 => kcs_ne (by omega)⟩⟩
  · have e : aRestore σ = (-2, σ) := by unfold aRestore; rw [isSome_f c_4]
    rw [e]
    refine go_bipush (q := 9) (v := (-2)) dX10_restore_7 (by decide) rfl ?_
    exact go_ireti dX10_restore_9 rfl ⟨rfl, h, fm.rf⟩
theorem ok_mappend {M : KM} {σ : ST} (h : MI M σ) (x : Int32) : Ok mX10_append [vR 14 0, vI x] M (QM M (aAppend σ x).1 (aAppend σ x).2) := by
  refine ok_of (by decide) rfl (Nat.le_of_ble_eq_true rfl) ⟨rfl, rfl⟩ ?_
  show Go mX10_append (Zm (QM M (aAppend σ x).1 (aAppend σ x).2)) M [some (vR 14 0), some (vI x)] [] 0
  refine go_iload_n (q := 1) dX10_append_0 rfl rfl rfl ?_
  refine go_bipush (q := 3) (v := 33) dX10_append_1 (by decide) rfl ?_
  refine go_bipush (q := 5) (v := 126) dX10_append_3 (by decide) rfl ?_
  refine go_cS3 (cal := mX10_in) (q := 8) dX10_append_5 lRX10_41 vX10_in ⟨by decide, by decide⟩ (Nat.le_of_ble_eq_true rfl) (ok_min M _ _ _) rfl ?_
  refine go_topi (v := bI (sgn x).isSome) (by rw [sgn_in]) ?_
  refine go_if_neB (q := 11) (t := 13) dX10_append_8 (by decide) rfl (fun c_8 => ?_) (fun c_8 => ?_)
  · obtain ⟨k, hk⟩ := isSome_t c_8
    obtain ⟨rfl, hk1, hk2⟩ := sgn_ok hk
    have hp60 : padN σ ≤ 60 := h.2.2.2.2.2.2.1.2.1
    refine go_aload_n (q := 14) dX10_append_13 rfl rfl rfl ?_
    refine go_getf (q := 17) dX10_append_14 fRX10_146 rfl (by decide) rfl rfl ?_
    refine go_topi h.2.2.2.2.2.2.1.1 ?_
    refine go_bipush (q := 19) (v := 60) dX10_append_17 (by decide) rfl ?_
    refine go_icmp_neN (padN σ) 60 (q := 22) (t := 25) dX10_append_19 (by decide) rfl rfl rfl (by have := h.2.2.2.2.2.2.1.2.1; show padN σ < _; omega) (by omega) (fun c_19 => ?_) (fun c_19 => ?_)
    · have hp2 : padN σ < 60 := by omega
      have e : aAppend σ (nI k) = (nI (padN σ + 1), sPad σ (padN σ + 1) (fun j => if j = padN σ then k else padC σ j)) := by unfold aAppend; rw [hk]; exact if_neg (by omega)
      rw [e]
      refine go_aload_n (q := 26) dX10_append_25 rfl rfl rfl ?_
      refine go_getf (q := 29) dX10_append_26 fRX10_19 rfl (by decide) rfl rfl ?_
      refine go_aload_n (q := 30) dX10_append_29 rfl rfl rfl ?_
      refine go_getf (q := 33) dX10_append_30 fRX10_146 rfl (by decide) rfl rfl ?_
      refine go_topi h.2.2.2.2.2.2.1.1 ?_
      refine go_iload_n (q := 34) dX10_append_33 rfl rfl rfl ?_
      refine go_iast (q := 35) (padN σ) dX10_append_34 rfl rfl (by decide) rfl (by omega) rfl ?_
      refine go_aload_n (q := 36) dX10_append_35 rfl rfl rfl ?_
      refine go_dup (q := 37) dX10_append_36 rfl rfl ?_
      refine go_getf (q := 40) dX10_append_37 fRX10_146 rfl (by decide) rfl rfl ?_
      refine go_topi ((congrFun (k_si_ne _ _ (fun z => by omega)) 6).trans h.2.2.2.2.2.2.1.1) ?_
      refine go_iconst (q := 41) (v := 1) dX10_append_40 (by decide) rfl ?_
      refine go_iadd (q := 42) dX10_append_41 rfl ?_
      refine go_topi (nI_1 _) ?_
      refine go_puti (q := 45) dX10_append_42 pRX10_146 rfl (by decide) rfl rfl rfl (Nat.le_of_ble_eq_true rfl) rfl ?_
      refine go_aload_n (q := 46) dX10_append_45 rfl rfl rfl ?_
      refine go_getf (q := 49) dX10_append_46 fRX10_146 rfl (by decide) rfl rfl ?_
      refine go_topi (sg ..) ?_
      exact go_ireti dX10_append_49 rfl ⟨rfl, MI_pad h (M' := (k_si (k_si M 18 0 (padN σ) (nI k)) 14 0 6 (nI (padN σ + 1)))) ⟨sg .., hp2, fun j hj => (by
          rw [k_si_ne _ _ (fun z => by omega)]
          show (if 18 = 18 ∧ j = padN σ ∧ 0 = 0 then nI k else M.1 18 0 j) = nI (if j = padN σ then k else padC σ j) ∧ 33 ≤ (if j = padN σ then k else padC σ j) ∧ (if j = padN σ then k else padC σ j) ≤ 126
          by_cases e : j = padN σ
          · rw [if_pos ⟨rfl, e, rfl⟩, if_pos e]; exact ⟨rfl, hk1, hk2⟩
          · rw [if_neg (fun z => e z.2.1), if_neg e]; exact h.2.2.2.2.2.2.1.2.2 j (by have : j < padN σ + 1 := hj; show j < padN σ; omega))⟩ (fun k h1 h2 => (k_si_ne _ _ (fun z => h2 z.1)).trans (k_si_ne _ _ (fun z => h1 z.1))) (fun c hc => (sgn2 _ _ hc).trans (congrFun (k_si_ne _ _ (fun z => by omega)) c)), (fm.rf.si (by decide)).si (by decide)⟩
    · have e : aAppend σ (nI k) = (-3, σ) := by unfold aAppend; rw [hk]; exact if_pos (by omega)
      rw [e]
      refine go_bipush (q := 24) (v := (-3)) dX10_append_22 (by decide) rfl ?_
      exact go_ireti dX10_append_24 rfl ⟨rfl, h, fm.rf⟩
  · have e : aAppend σ x = (-1, σ) := by unfold aAppend; rw [isSome_f c_8]
    rw [e]
    refine go_iconst (q := 12) (v := (-1)) dX10_append_11 (by decide) rfl ?_
    exact go_ireti dX10_append_12 rfl ⟨rfl, h, fm.rf⟩
theorem ok_mclear {M : KM} {σ : ST} (h : MI M σ) : Ok mX10_clear [vR 14 0] M (QM M (nI (padN σ)) (sPad σ 0 (padC σ))) := by
  refine ok_of (by decide) rfl (Nat.le_of_ble_eq_true rfl) ⟨rfl, rfl⟩ ?_
  show Go mX10_clear (Zm (QM M (nI (padN σ)) (sPad σ 0 (padC σ)))) M [some (vR 14 0), none] [] 0
  refine go_aload_n (q := 1) dX10_clear_0 rfl rfl rfl ?_
  refine go_getf (q := 4) dX10_clear_1 fRX10_146 rfl (by decide) rfl rfl ?_
  refine go_topi h.2.2.2.2.2.2.1.1 ?_
  refine go_istore_n (q := 5) dX10_clear_4 rfl (by decide) rfl rfl ?_
  refine go_aload_n (q := 6) dX10_clear_5 rfl rfl rfl ?_
  refine go_iconst (q := 7) (v := 0) dX10_clear_6 (by decide) rfl ?_
  refine go_puti (q := 10) dX10_clear_7 pRX10_146 rfl (by decide) rfl rfl rfl (Nat.le_of_ble_eq_true rfl) rfl ?_
  refine go_iload_n (q := 11) dX10_clear_10 rfl rfl rfl ?_
  exact go_ireti dX10_clear_11 rfl ⟨rfl, MI_pad h ⟨sg .., Nat.zero_le _, fun j hj => absurd hj (Nat.not_lt_zero _)⟩ (fun k h1 h2 => k_si_ne _ _ (fun z => h2 z.1)) (fun c hc => sgn2 _ _ hc), fm.rf.si (by decide)⟩
theorem ok_mwhy {M : KM} {σ : ST} (h : MI M σ) (x : Int32) : OkF mX10_why [vR 14 0, vI x] M (some (vI (aWhy σ.2.2.2.2 x))) M := by
  refine ok_of (by decide) rfl (Nat.le_of_ble_eq_true rfl) ⟨rfl, rfl⟩ ?_
  show Go mX10_why (Zm (QF (some (vI (aWhy σ.2.2.2.2 x))) M)) M [some (vR 14 0), some (vI x)] [] 0
  refine go_iload_n (q := 1) dX10_why_0 rfl rfl rfl ?_
  refine go_if_ne (q := 4) (t := 11) dX10_why_1 (by decide) rfl (fun c_1 => ?_) (fun c_1 => ?_)
  · refine go_iload_n (q := 12) dX10_why_11 rfl rfl rfl ?_
    refine go_iconst (q := 13) (v := 1) dX10_why_12 (by decide) rfl ?_
    refine go_icmp_ne (q := 16) (t := 23) dX10_why_13 (by decide) rfl (fun c_13 => ?_) (fun c_13 => ?_)
    · refine go_iload_n (q := 24) dX10_why_23 rfl rfl rfl ?_
      refine go_iconst (q := 25) (v := 2) dX10_why_24 (by decide) rfl ?_
      refine go_icmp_ne (q := 28) (t := 35) dX10_why_25 (by decide) rfl (fun c_25 => ?_) (fun c_25 => ?_)
      · refine go_iconst (q := 36) (v := (-1)) dX10_why_35 (by decide) rfl ?_
        exact go_ri dX10_why_36 rfl (by rw [why_o c_1 c_13 c_25]) rfl
      · refine go_aload_n (q := 29) dX10_why_28 rfl rfl rfl ?_
        refine go_getf (q := 32) dX10_why_29 fRX10_29 rfl (by decide) rfl rfl ?_
        refine go_goto (q := 36) dX10_why_32 (by decide) ?_
        exact go_ri dX10_why_36 rfl (by rw [Classical.not_not.mp c_25]; exact why_2 h.2.2.2.2.2.2.2) rfl
    · refine go_aload_n (q := 17) dX10_why_16 rfl rfl rfl ?_
      refine go_getf (q := 20) dX10_why_17 fRX10_26 rfl (by decide) rfl rfl ?_
      refine go_goto (q := 36) dX10_why_20 (by decide) ?_
      exact go_ri dX10_why_36 rfl (by rw [Classical.not_not.mp c_13]; exact why_1 h.2.2.2.2.2.2.2) rfl
  · refine go_aload_n (q := 5) dX10_why_4 rfl rfl rfl ?_
    refine go_getf (q := 8) dX10_why_5 fRX10_22 rfl (by decide) rfl rfl ?_
    refine go_goto (q := 36) dX10_why_8 (by decide) ?_
    exact go_ri dX10_why_36 rfl (by rw [Classical.not_not.mp c_1]; exact why_0 h.2.2.2.2.2.2.2) rfl
