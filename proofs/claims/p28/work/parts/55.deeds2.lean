/-! ===== what a deed leaves ===== -/
theorem cnL_add {R : RO} {s : Nat} {b : Option (Nat × Nat × Nat)} : cn (rL (rAdd R s b)) (rN R + 1) = cn (rL R) (rN R) + 1 := by
  rw [cn_t (show rL (rAdd R s b) (rN R) = true from if_pos rfl)]
  congr 1
  exact cn_congr (fun i hi => if_neg (by omega))
theorem rS_add {R : RO} {s : Nat} {b : Option (Nat × Nat × Nat)} : rS (rAdd R s b) (rN R) = s := if_pos rfl
theorem rS_addo {R : RO} {s i : Nat} {b : Option (Nat × Nat × Nat)} (h : i < rN R) : rS (rAdd R s b) i = rS R i := if_neg (by omega)
theorem rL_addo {R : RO} {s i : Nat} {b : Option (Nat × Nat × Nat)} (h : i < rN R) : rL (rAdd R s b) i = rL R i := if_neg (by omega)
theorem rB_addn {R : RO} {s : Nat} {b : Option (Nat × Nat × Nat)} : rB (rAdd R s b) (rN R) = b := if_pos rfl
theorem rB_addo {R : RO} {s i : Nat} {b : Option (Nat × Nat × Nat)} (h : i < rN R) : rB (rAdd R s b) i = rB R i := if_neg (by omega)
theorem rP_addn {R : RO} {s : Nat} {b : Option (Nat × Nat × Nat)} : rP (rAdd R s b) (rN R) = b.map (fun b => b.1) := by unfold rP; rw [rB_addn]
theorem rK_addn {R : RO} {s : Nat} {b : Option (Nat × Nat × Nat)} : rK (rAdd R s b) (rN R) = b.map (fun b => b.2.1) := by unfold rK; rw [rB_addn]
theorem rM_addn {R : RO} {s : Nat} {b : Option (Nat × Nat × Nat)} : rM (rAdd R s b) (rN R) = b.map (fun b => b.2.2) := by unfold rM; rw [rB_addn]
theorem rP_addo {R : RO} {s i : Nat} {b : Option (Nat × Nat × Nat)} (h : i < rN R) : rP (rAdd R s b) i = rP R i := by unfold rP; rw [rB_addo h]
theorem rI_ref {R : RO} (h : rI R) : rI (rRef R) := h
theorem rI_add {R : RO} {s : Nat} {b : Option (Nat × Nat × Nat)} (hW : rW R) (h : rI R) : rI (rAdd R s b) := by
  have h1 : cn (hD (rAdd R s b)) (rN R) = cn (hD R) (rN R) := cn_congr (fun i hi => by
    unfold hD
    rw [rP_addo hi]
    cases hp : rP R i with
    | none => rfl
    | some f =>
      have := rP_n hW hi f hp
      show (!rL (rAdd R s b) f && rS (rAdd R s b) i == rS (rAdd R s b) f) = _
      rw [rL_addo this, rS_addo hi, rS_addo this])
  have h2 : cn (hD (rAdd R s b)) (rN R + 1) = cn (hD (rAdd R s b)) (rN R) + _ := cn_s
  show rH R ≤ cn (hD (rAdd R s b)) (rN R + 1)
  unfold rI at h
  omega
theorem rL_die {R : RO} {d i : Nat} (h : rL (rDie R d) i = true) : i ≠ d ∧ rL R i = true := by
  have h2 : (if i = d then false else rL R i) = true := h
  by_cases e : i = d
  · rw [if_pos e] at h2; cases h2
  · rw [if_neg e] at h2; exact ⟨e, h2⟩
theorem rI_die {R : RO} {d : Nat} (h : rI R) : rI (rDie R d) := by
  refine Nat.le_trans h (cn_mono (fun i hi h2 => ?_))
  unfold hD at h2 ⊢
  show (match rP R i with | some f => !rL (rDie R d) f && rS R i == rS R f | none => false) = true
  cases hp : rP R i with
  | none => rw [hp] at h2; cases h2
  | some f =>
    rw [hp] at h2
    have h3 : rL R f = false ∧ rS R i = rS R f := by simpa using h2
    have h4 : rL (rDie R d) f = false := by
      cases h5 : rL (rDie R d) f with
      | false => rfl
      | true => rw [(rL_die h5).2] at h3; cases h3.1
    show (!rL (rDie R d) f && rS R i == rS R f) = true
    rw [h4, h3.2]
    simp
theorem cnL_die {R : RO} {p : Nat} (hp : p < rN R) (hl : rL R p = true) : cn (rL R) (rN R) = cn (rL (rDie R p)) (rN R) + 1 := by
  have h1 := cn_add1 (P := rL (rDie R p)) (Q := rL R) (k := p) (if_pos rfl) hl hp (fun i hi h => (rL_die h).2)
  have h2 := (cn_off (P := rL R) (Q := rL (rDie R p)) (k := p) (N := rN R) (fun i hi hne => (if_neg hne).symm) (rN R) (Nat.le_refl _)).1
  omega
theorem whyH_0 {R : RO} {p : Nat} (h : whyH R p = 0) : ∃ f, rP R p = some f ∧ rL R f = false ∧ eldB R p = false ∧ bear R (rS R f) = none := by
  unfold whyH at h
  cases hp : rP R p with
  | none => rw [hp] at h; cases h
  | some f =>
    rw [hp] at h
    have h : (if rL R f = true then 7 else if eldB R p = true then 8 else if ¬ bear R (rS R f) = none then 3 else 0) = 0 := h
    refine ⟨f, rfl, ?_⟩
    by_cases h1 : rL R f = true
    · rw [if_pos h1] at h; cases h
    · rw [if_neg h1] at h
      by_cases h2 : eldB R p = true
      · rw [if_pos h2] at h; cases h
      · rw [if_neg h2] at h
        by_cases h3 : ¬ bear R (rS R f) = none
        · rw [if_pos h3] at h; cases h
        · exact ⟨by simpa using h1, by simpa using h2, Classical.not_not.mp h3⟩
theorem rS_heir {R : RO} {p s i : Nat} (h : i ≠ p) : rS (rHeir R p s) i = rS R i := if_neg h
theorem rS_heirp {R : RO} {p s : Nat} : rS (rHeir R p s) p = s := if_pos rfl
theorem rI_heir {R : RO} {p f : Nat} (hW : rW R) (h : rI R) (hp : p < rN R) (hl : rL R p = true) (hf : rP R p = some f) (hd : rL R f = false) (hb : bear R (rS R f) = none) : rI (rHeir R p (rS R f)) := by
  have hfp := rP_lt hW hp f hf
  have hDp : hD R p = false := by
    unfold hD
    rw [hf]
    show (!rL R f && rS R p == rS R f) = false
    cases e : (rS R p == rS R f) with
    | false => simp
    | true =>
      have e2 : rS R p = rS R f := by simpa using e
      exact absurd e2 (bear_none hb p hp hl)
  have h1 : cn (hD R) (rN R) + 1 ≤ cn (hD (rHeir R p (rS R f))) (rN R) := by
    refine cn_add1 (k := p) hDp ?_ hp (fun i hi h2 => ?_)
    · unfold hD
      show (match rP R p with | some f' => !rL R f' && rS (rHeir R p (rS R f)) p == rS (rHeir R p (rS R f)) f' | none => false) = true
      rw [hf]
      show (!rL R f && rS (rHeir R p (rS R f)) p == rS (rHeir R p (rS R f)) f) = true
      rw [hd, rS_heirp, rS_heir (by omega)]
      simp
    · have hip : i ≠ p := fun z => by rw [z, hDp] at h2; cases h2
      unfold hD at h2 ⊢
      show (match rP R i with | some f' => !rL R f' && rS (rHeir R p (rS R f)) i == rS (rHeir R p (rS R f)) f' | none => false) = true
      cases hg : rP R i with
      | none => rw [hg] at h2; cases h2
      | some g =>
        rw [hg] at h2
        have h3 : rL R g = false ∧ rS R i = rS R g := by simpa using h2
        have hgp : g ≠ p := fun z => by rw [z, hl] at h3; cases h3.1
        show (!rL R g && rS (rHeir R p (rS R f)) i == rS (rHeir R p (rS R f)) g) = true
        rw [rS_heir hip, rS_heir hgp, h3.1, h3.2]
        simp
  show rH R + 1 ≤ cn (hD (rHeir R p (rS R f))) (rN R)
  unfold rI at h
  omega
/-- what every deed keeps and leaves -/
def dOK (R : RO) (d : Int32 × RO) : Prop := rW d.2 ∧ rI d.2 ∧ ¬ d.1 = -9 ∧ (d.1 < 0 → d.2 = R) ∧ (¬ d.1 < 0 → rF d.2 = rF R + (if d.1 < 10 then 1 else 0))
theorem dOK_err {R : RO} (hW : rW R) (hI : rI R) {x : Int32} (h9 : ¬ x = -9) (hx : x < 0) : dOK R (x, R) := ⟨hW, hI, h9, fun _ => rfl, fun z => absurd hx z⟩
theorem dOK_ref {R : RO} (hW : rW R) (hI : rI R) {k : Nat} (hk : k < 10) : dOK R (nI k, rRef R) := by
  refine ⟨hW, hI, fun z => absurd z (nI_neg (by omega) (by decide)), fun z => absurd z (nI_pos (by omega)), fun _ => ?_⟩
  have h10 : nI k < 10 := nI_lt (b := 10) hk (by decide)
  show rF R + 1 = rF R + (if nI k < 10 then 1 else 0)
  rw [if_pos h10]
theorem dOK_done {R R' : RO} {k : Nat} (hW : rW R') (hI : rI R') (hF : rF R' = rF R) (hk : k < 1000) : dOK R (nI (10 + k), R') := by
  refine ⟨hW, hI, fun z => absurd z (nI_neg (by omega) (by decide)), fun z => absurd z (nI_pos (by omega)), fun _ => ?_⟩
  have h10 : ¬ nI (10 + k) < 10 := nI_nlt (b := 10) (by omega) (by omega)
  show rF R' = rF R + (if nI (10 + k) < 10 then 1 else 0)
  rw [if_neg h10, hF]
  rfl
theorem dOK_found {R : RO} (hW : rW R) (hI : rI R) (x : Int32) : dOK R (dFound R x) := by
  have hw := rW_found hW x
  revert hw
  unfold dFound
  split
  · intro _; exact dOK_err hW hI (by decide) (by decide)
  · split
    · intro _; exact dOK_err hW hI (by decide) (by decide)
    · split
      · intro _; exact dOK_ref (k := 3) hW hI (by decide)
      · intro hw; exact dOK_done hw (rI_add hW hI) rfl (by have := hW.1; omega)
theorem whyS_lt (R : RO) (f k m : Nat) : whyS R f k m < 6 := by
  unfold whyS
  repeat' split
  all_goals decide
theorem whyH_lt (R : RO) (p : Nat) : whyH R p < 9 := by
  unfold whyH
  repeat' split
  all_goals decide
theorem dOK_bear {R : RO} (hW : rW R) (hI : rI R) (x y z : Int32) : dOK R (dBear R x y z) := by
  have hw := rW_bear hW x y z
  revert hw
  unfold dBear
  split
  · split
    · intro _; exact dOK_err hW hI (by decide) (by decide)
    · split
      · intro _; exact dOK_ref hW hI (Nat.lt_trans (whyS_lt _ _ _ _) (by decide))
      · intro hw; exact dOK_done hw (rI_add hW hI) rfl (by have := hW.1; omega)
  · intro _; exact dOK_err hW hI (by decide) (by decide)
theorem dOK_die {R : RO} (hW : rW R) (hI : rI R) (x : Int32) : dOK R (dDie R x) := by
  have hw := rW_dDie hW x
  revert hw
  unfold dDie
  split
  · intro _; exact dOK_err hW hI (by decide) (by decide)
  · split
    · intro _; exact dOK_ref (k := 6) hW hI (by decide)
    · intro hw
      exact dOK_done hw (rI_die hI) rfl (by have := hW.1; rename_i p _ _; have := cn_le (rL (rDie R p)) (rN R); omega)
theorem dOK_heir {R : RO} (hW : rW R) (hI : rI R) (x : Int32) : dOK R (dHeir R x) := by
  have hw := rW_dHeir hW x
  revert hw
  unfold dHeir
  split
  · intro _; exact dOK_err hW hI (by decide) (by decide)
  · rename_i p hp
    split
    · intro _; exact dOK_err hW hI (by decide) (by decide)
    · rename_i hl
      split
      · intro _; exact dOK_ref hW hI (Nat.lt_trans (whyH_lt R p) (by decide))
      · rename_i h0
        intro hw
        obtain ⟨f, h1, h2, h3, h4⟩ := whyH_0 (Classical.not_not.mp h0)
        have hpn := (pOf_some hp).1
        rw [h1] at hw ⊢
        exact dOK_done hw (rI_heir hW hI hpn (by simpa using hl) h1 h2 h4) rfl (by have := ap_le (rS R p) (oS R (some f)); omega)
/-- the state behind a deed -/
theorem sD1 {σ : ST} {d : Int32 × RO} (h : d.1 < 0 → d.2 = σ.1) : (sDeed2 σ d).1 = d.2 := by
  unfold sDeed2
  split
  · rename_i h1; exact (h h1).symm
  · rfl
/-- what the deed of act is -/
def actS (R : RO) (X : Nat) : Nat := if rN R = 0 ∨ X / 12 % 2 = 0 then X / 12 / 2 % 15625 else rS R (X / 12 / 2 % rN R)
def actF (R : RO) (X : Nat) : Nat := if X / 12 % 3 = 0 then X / 12 / 3 % rN R else X / 12 / 3 % (if rN R < 4 then rN R else 4)
def actD (R : RO) (X : Nat) : Int32 × RO := if X % 12 = 0 ∨ rN R = 0 then dFound R (nI (actS R X)) else if X % 12 < 8 then dBear R (nI (actF R X)) (nI (X / 12 / 60 % 6)) (nI (X / 12 / 360 % 5)) else if X % 12 < 10 then dDie R (nI (X / 12 % rN R)) else dHeir R (nI (X / 12 % rN R))
theorem dOK_act {R : RO} (hW : rW R) (hI : rI R) (X : Nat) : dOK R (actD R X) := by
  unfold actD
  split
  · exact dOK_found hW hI _
  · split
    · exact dOK_bear hW hI _ _ _
    · split
      · exact dOK_die hW hI _
      · exact dOK_heir hW hI _
/-- the states' own law -/
def SI (σ : ST) : Prop := rI σ.1 ∧ (∀ s, σ.2.1 = some s → rI s) ∧ (∀ j, j < σ.2.2.1.1 → rI (σ.2.2.1.2 j)) ∧ padN σ = 0
theorem rI_keep {h : Nat} {hs : Nat → RO} {R : RO} (hh : ∀ j, j < h → rI (hs j)) (hR : rI R) (h4 : h ≤ 4) : ∀ j, j < (hKeep h hs R).1 → rI ((hKeep h hs R).2 j) := by
  unfold hKeep
  intro j hj
  split at hj
  · rename_i hlt
    rw [if_pos hlt]
    show rI (if j = h then R else hs j)
    have hj : j < h + 1 := hj
    split
    · exact hR
    · exact hh j (by omega)
  · rename_i hlt
    rw [if_neg hlt]
    show rI (if j = 3 then R else hs (j + 1))
    have hj : j < 4 := hj
    split
    · exact hR
    · exact hh (j + 1) (by omega)
theorem SI_keep {σ : ST} {R : RO} (h : SI σ) (hR : rI R) (h4 : σ.2.2.1.1 ≤ 4) : SI (sKeep (R, σ.2) σ.1) := ⟨hR, h.2.1, rI_keep h.2.2.1 h.1 h4, h.2.2.2⟩
theorem SI_deed {σ : ST} {d : Int32 × RO} (h : SI σ) (hd : dOK σ.1 d) (h4 : σ.2.2.1.1 ≤ 4) : SI (sDeed2 σ d) := by
  unfold sDeed2
  split
  · exact h
  · exact SI_keep h hd.2.1 h4
/-- the latest state of the history is what was -/
theorem hKeep_1 (h : Nat) (hs : Nat → RO) (R : RO) (h4 : h ≤ 4) : (hKeep h hs R).1 = (if h < 4 then h + 1 else 4) := by
  unfold hKeep
  split <;> rfl
theorem hKeep_last (h : Nat) (hs : Nat → RO) (R : RO) (h4 : h ≤ 4) : (hKeep h hs R).1 = (if h < 4 then h else 3) + 1 ∧ (hKeep h hs R).2 (if h < 4 then h else 3) = R := by
  unfold hKeep
  split
  · exact ⟨rfl, show (if h = h then R else hs h) = R from if_pos rfl⟩
  · exact ⟨rfl, show (if 3 = 3 then R else hs (3 + 1)) = R from if_pos rfl⟩
theorem undo_keep {σ : ST} {R : RO} (h4 : σ.2.2.1.1 ≤ 4) : aUndo (sKeep (R, σ.2) σ.1) = (nI (if σ.2.2.1.1 < 4 then σ.2.2.1.1 else 3), (σ.1, σ.2.1, (if σ.2.2.1.1 < 4 then σ.2.2.1.1 else 3, (hKeep σ.2.2.1.1 σ.2.2.1.2 σ.1).2), σ.2.2.2)) := by
  obtain ⟨h1, h2⟩ := hKeep_last σ.2.2.1.1 σ.2.2.1.2 σ.1 h4
  unfold aUndo
  show (match (hKeep σ.2.2.1.1 σ.2.2.1.2 σ.1).1 with
  | 0 => (-2, sKeep (R, σ.2) σ.1)
  | g + 1 => (nI g, ((hKeep σ.2.2.1.1 σ.2.2.1.2 σ.1).2 g, σ.2.1, (g, (hKeep σ.2.2.1.1 σ.2.2.1.2 σ.1).2), σ.2.2.2))) = _
  rw [h1]
  show (_, (_, _, _, _)) = _
  rw [h2]
