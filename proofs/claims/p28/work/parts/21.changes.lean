/-! ===== the system's state, and how the class holds it ===== -/
abbrev ST : Type := RO × Option RO × (Nat × (Nat → RO)) × (Nat × (Nat → Nat)) × Option (Int32 × Int32 × Int32)
def WA (M : KM) : Option (Int32 × Int32 × Int32) → Prop
  | none => M.1 0 0 7 = 0
  | some (a, b, c) => M.1 0 0 7 = a ∧ ¬ a = 0 ∧ M.1 0 0 8 = b ∧ M.1 0 0 9 = c
def CI (M : KM) (σ : ST) : Prop := RA M 0 σ.1 ∧ rW σ.1 ∧ M.1 0 0 6 = bI σ.2.1.isSome ∧ (∀ s, σ.2.1 = some s → RA M 1 s ∧ rW s) ∧ HA M σ.2.2.1.1 σ.2.2.1.2 ∧ (∀ j, j < σ.2.2.1.1 → rW (σ.2.2.1.2 j)) ∧ PA M σ.2.2.2.1.1 σ.2.2.2.1.2 ∧ WA M σ.2.2.2.2 ∧ qq (M.2.2 11 1) (M.2.2 11 2)
def fc (M M' : KM) : Prop := ∀ k b, 14 ≤ k → M'.1 k b = M.1 k b
theorem fc.rf {M : KM} : fc M M := fun _ _ _ => rfl
theorem fc.tr {M M1 M2 : KM} (h1 : fc M M1) (h2 : fc M1 M2) : fc M M2 := fun k b h => (h2 k b h).trans (h1 k b h)
theorem kRoll.fc {i : Nat} {M M' : KM} (h : kRoll i M M') : fc M M' := fun k b hk => h.2 k b (fun z => by omega)
theorem kH.fc {M M' : KM} (h : kH M M') : fc M M' := fun k b hk => h.2.2 k b (by omega)
theorem HA_keep {M M' : KM} {h i : Nat} {hs : Nat → RO} (hH : HA M h hs) (hk : kRoll i M M') (hi : ∀ j, j < h → M.2.2 8 j ≠ i) : HA M' h hs := by
  refine ⟨?_, hH.2.1, ?_, ?_, fun j hj => ?_⟩
  · rw [hk.2 7 0 (fun z => by omega)]; exact hH.1
  · rw [hk.1]; exact hH.2.2.1
  · rw [hk.1]; exact hH.2.2.2.1
  · rw [hk.1]; exact (hH.2.2.2.2 j hj).keep hk (hi j hj)
theorem PA_keep {M M' : KM} {n : Nat} {c : Nat → Nat} (h : PA M n c) (e9 : M'.1 9 0 = M.1 9 0) (e10 : M'.1 10 0 = M.1 10 0) : PA M' n c := by
  unfold PA
  rw [e9, e10]; exact h
theorem WA_keep {M M' : KM} {w : Option (Int32 × Int32 × Int32)} (h : WA M w) (e : M'.1 0 0 = M.1 0 0) : WA M' w := by
  unfold WA
  rw [e]; exact h
/-- the cell that is noted into: none of those kept, none of the three rolls -/
theorem HA_free {M : KM} {h : Nat} {hs : Nat → RO} (hH : HA M h hs) : (∀ j, j < h → M.2.2 8 j ≠ M.2.2 8 h) ∧ 3 ≤ M.2.2 8 h ∧ M.2.2 8 h < 8 := by
  have h4 := hH.2.1
  exact ⟨fun j hj e => by have := hH.2.2.2.1 j h (by omega) (by omega) e; omega, (hH.2.2.1 h (by omega)).1, (hH.2.2.1 h (by omega)).2⟩
theorem HA_not0 {M : KM} {h i : Nat} {hs : Nat → RO} (hH : HA M h hs) (hi : i < 3) : ∀ j, j < h → M.2.2 8 j ≠ i := fun j hj e => by
  have h4 := hH.2.1
  have := (hH.2.2.1 j (by omega)).1
  omega
/-- a change of a roll that isn't the roll itself, nor the snapshot, nor kept -/
theorem CI_roll {M M' : KM} {σ : ST} {i : Nat} (h : CI M σ) (hk : kRoll i M M') (h0 : 0 ≠ i) (h1 : 1 ≠ i) (hi : ∀ j, j < σ.2.2.1.1 → M.2.2 8 j ≠ i) : CI M' σ := by
  obtain ⟨a1, a2, a3, a4, a5, a6, a7, a8, a9⟩ := h
  refine ⟨a1.keep hk h0, a2, ?_, fun s hs => ⟨(a4 s hs).1.keep hk h1, (a4 s hs).2⟩, HA_keep a5 hk hi, a6, PA_keep a7 (hk.2 9 0 (fun z => by omega)) (hk.2 10 0 (fun z => by omega)), WA_keep a8 (hk.2 0 0 (fun z => by omega)), ?_⟩
  · rw [hk.2 0 0 (fun z => by omega)]; exact a3
  · rw [hk.1]; exact a9
/-- a change of the roll itself -/
theorem CI_set {M M' : KM} {σ : ST} {R' : RO} (h : CI M σ) (hk : kRoll 0 M M') (hR : RA M' 0 R') (hW : rW R') : CI M' (R', σ.2) := by
  obtain ⟨a1, a2, a3, a4, a5, a6, a7, a8, a9⟩ := h
  refine ⟨hR, hW, ?_, fun s hs => ⟨(a4 s hs).1.keep hk (by decide), (a4 s hs).2⟩, HA_keep a5 hk (HA_not0 a5 (by decide)), a6, PA_keep a7 (hk.2 9 0 (fun z => by omega)) (hk.2 10 0 (fun z => by omega)), WA_keep a8 (hk.2 0 0 (fun z => by omega)), ?_⟩
  · show M'.1 0 0 6 = _
    rw [hk.2 0 0 (fun z => by omega)]; exact a3
  · rw [hk.1]; exact a9
def sKeep (σ : ST) (R : RO) : ST := (σ.1, σ.2.1, hKeep σ.2.2.1.1 σ.2.2.1.2 R, σ.2.2.2)
theorem rW_keep {h : Nat} {hs : Nat → RO} {R : RO} (hh : ∀ j, j < h → rW (hs j)) (hR : rW R) (h4 : h ≤ 4) : ∀ j, j < (hKeep h hs R).1 → rW ((hKeep h hs R).2 j) := by
  unfold hKeep
  intro j hj
  split at hj
  · rename_i hlt
    rw [if_pos hlt]
    show rW (if j = h then R else hs j)
    have hj' : j < h + 1 := hj
    split
    · exact hR
    · exact hh j (by omega)
  · rename_i hlt
    rw [if_neg hlt]
    show rW (if j = 3 then R else hs (j + 1))
    have hj' : j < 4 := hj
    split
    · exact hR
    · exact hh (j + 1) (by omega)
theorem CI_keep {M M' : KM} {σ : ST} {R : RO} (h : CI M σ) (hk : kH M M') (hH : HA M' (hKeep σ.2.2.1.1 σ.2.2.1.2 R).1 (hKeep σ.2.2.1.1 σ.2.2.1.2 R).2) (hR : rW R) : CI M' (sKeep σ R) := by
  obtain ⟨a1, a2, a3, a4, a5, a6, a7, a8, a9⟩ := h
  have e : ∀ k b, k ≠ 7 → M'.1 k b = M.1 k b := hk.2.2
  refine ⟨a1.cg (fun k h1 h6 => e k 0 (by omega)), a2, ?_, fun s hs => ⟨(a4 s hs).1.cg (fun k h1 h6 => e k 1 (by omega)), (a4 s hs).2⟩, hH, rW_keep a6 hR a5.2.1, PA_keep a7 (e 9 0 (by decide)) (e 10 0 (by decide)), WA_keep a8 (e 0 0 (by decide)), ?_⟩
  · show M'.1 0 0 6 = _
    rw [e 0 0 (by decide)]; exact a3
  · rw [hk.2.1, hk.2.1]; exact a9
def QC (M : KM) (v : Int32) (σ : ST) : Option KV → KM → Prop := fun r M' => r = some (vI v) ∧ CI M' σ ∧ fc M M'
/-- the state behind a deed: kept, if it is no error -/
def sDeed2 (σ : ST) (d : Int32 × RO) : ST := if d.1 < 0 then σ else sKeep (d.2, σ.2) σ.1
def KIC (M : KM) (h : Nat) (hs : Nat → RO) (R : RO) (x : Int32) : Option KV → KM → Prop := fun r M' => r = some (vI x) ∧ ((x < 0 ∧ M' = M) ∨ (¬ x < 0 ∧ HA M' (hKeep h hs R).1 (hKeep h hs R).2 ∧ kH M M'))
theorem ok_keepIf {M : KM} {h : Nat} {hs : Nat → RO} {R : RO} (hH : HA M h hs) (hR : RA M (M.2.2 8 h) R) (x : Int32) : Ok mX9_keepIfChanged [vR 0 0, vI x] M (KIC M h hs R x) := by
  refine ok_of (by decide) rfl (Nat.le_of_ble_eq_true rfl) ⟨rfl, rfl⟩ ?_
  show Go mX9_keepIfChanged (Zm (KIC M h hs R x)) M [some (vR 0 0), some (vI x)] [] 0
  refine go_iload_n (q := 1) dX9_keepIfChanged_0 rfl rfl rfl ?_
  refine go_if_lt (q := 4) (t := 11) dX9_keepIfChanged_1 (by decide) rfl (fun c_1 => ?_) (fun c_1 => ?_)
  · refine go_iload_n (q := 12) dX9_keepIfChanged_11 rfl rfl rfl ?_
    exact go_ireti dX9_keepIfChanged_12 rfl ⟨rfl, Or.inl ⟨c_1, rfl⟩⟩
  · refine go_aload_n (q := 5) dX9_keepIfChanged_4 rfl rfl rfl ?_
    refine go_getf (q := 8) dX9_keepIfChanged_5 fRX9_25 rfl (by decide) rfl rfl ?_
    refine go_callV [] (cal := mX2_keepNoted) (q := 11) dX9_keepIfChanged_8 lRX9_78 vX2_keepNoted ⟨by decide, by decide⟩ rfl rfl (by decide) (Nat.le_of_ble_eq_true rfl) (ok_keepNoted hH hR) rfl (fun r8 M8 h8 => ?_)
    obtain ⟨rfl, hH8, hk8⟩ := h8
    refine go_iload_n (q := 12) dX9_keepIfChanged_11 rfl rfl rfl ?_
    exact go_ireti dX9_keepIfChanged_12 rfl ⟨rfl, Or.inr ⟨c_1, hH8, hk8⟩⟩
theorem CI_deed {M M1 M2 M3 : KM} {σ : ST} {d : Int32 × RO} {r : Option KV} (h : CI M σ) (h1 : RA M1 (M.2.2 8 σ.2.2.1.1) σ.1) (k1 : kRoll (M.2.2 8 σ.2.2.1.1) M M1) (h2 : RA M2 0 d.2) (k2 : kRoll 0 M1 M2) (hW : rW d.2) (he : d.1 < 0 → d.2 = σ.1) (h3 : KIC M2 σ.2.2.1.1 σ.2.2.1.2 σ.1 d.1 r M3) : QC M d.1 (sDeed2 σ d) r M3 := by
  obtain ⟨f1, f2, f3⟩ := HA_free h.2.2.2.2.1
  have c1 : CI M1 σ := CI_roll h k1 (by omega) (by omega) f1
  have c2 : CI M2 (d.2, σ.2) := CI_set c1 k2 h2 hW
  obtain ⟨rfl, ⟨hx, rfl⟩ | ⟨hx, hH, hk⟩⟩ := h3
  · refine ⟨rfl, ?_, k1.fc.tr k2.fc⟩
    rw [show sDeed2 σ d = σ from if_pos hx]
    rw [he hx] at c2
    exact c2
  · refine ⟨rfl, ?_, (k1.fc.tr k2.fc).tr hk.fc⟩
    rw [show sDeed2 σ d = sKeep (d.2, σ.2) σ.1 from if_neg hx]
    exact CI_keep c2 hk hH h.2.1
theorem noted {M M1 M2 : KM} {σ : ST} (h : CI M σ) (h1 : RA M1 (M.2.2 8 σ.2.2.1.1) σ.1) (k1 : kRoll (M.2.2 8 σ.2.2.1.1) M M1) (k2 : kRoll 0 M1 M2) : HA M2 σ.2.2.1.1 σ.2.2.1.2 ∧ RA M2 (M2.2.2 8 σ.2.2.1.1) σ.1 := by
  obtain ⟨f1, f2, f3⟩ := HA_free h.2.2.2.2.1
  have e1 := HA_keep h.2.2.2.2.1 k1 f1
  refine ⟨HA_keep e1 k2 (HA_not0 e1 (by decide)), ?_⟩
  rw [k2.1, k1.1]
  exact h1.keep k2 (by omega)
theorem roll0 {M M1 : KM} {σ : ST} (h : CI M σ) (k1 : kRoll (M.2.2 8 σ.2.2.1.1) M M1) : RA M1 0 σ.1 := h.1.keep k1 (by have := (HA_free h.2.2.2.2.1).2.1; omega)
theorem nI_ge0 {k : Nat} {x : Int32} (hk : k < 2 ^ 31) (h : nI k < 0) : x < 0 := k_neg hk h
theorem eFound {R : RO} (hW : rW R) (x : Int32) : (dFound R x).1 < 0 → (dFound R x).2 = R := by
  have hn := hW.1
  unfold dFound
  cases h : pOf 15625 x with
  | none => intro _; rfl
  | some s =>
    simp only
    by_cases h1 : 20 ≤ rN R
    · rw [if_pos h1]; intro _; rfl
    · rw [if_neg h1]
      by_cases h2 : ¬ bear R s = none
      · rw [if_pos h2]; intro z; exact absurd (show (3 : Int32) < 0 from z) (by decide)
      · rw [if_neg h2]; intro z; exact k_neg (show 10 + rN R < 2 ^ 31 by omega) z
theorem eBear {R : RO} (hW : rW R) (x y w : Int32) : (dBear R x y w).1 < 0 → (dBear R x y w).2 = R := by
  have hn := hW.1
  unfold dBear
  cases h : pOf (rN R) x with
  | none => intro _; rfl
  | some f =>
    cases hk : pOf 6 y with
    | none => intro _; rfl
    | some k =>
      cases hm : pOf 5 w with
      | none => intro _; rfl
      | some m =>
        simp only
        by_cases h1 : 20 ≤ rN R
        · rw [if_pos h1]; intro _; rfl
        · rw [if_neg h1]
          by_cases h2 : ¬ whyS R f k m = 0
          · rw [if_pos h2]; intro z; exact k_neg (whyS_big R f k m) z
          · rw [if_neg h2]; intro z; exact k_neg (show 10 + rN R < 2 ^ 31 by omega) z
theorem eDie {R : RO} (hW : rW R) (x : Int32) : (dDie R x).1 < 0 → (dDie R x).2 = R := by
  have hn := hW.1
  unfold dDie
  cases h : pOf (rN R) x with
  | none => intro _; rfl
  | some p =>
    simp only
    by_cases h1 : rL R p = false
    · rw [if_pos h1]; intro z; exact absurd (show (6 : Int32) < 0 from z) (by decide)
    · rw [if_neg h1]; intro z; exact k_neg (show 10 + cn (rL (rDie R p)) (rN R) < 2 ^ 31 by have := cn_le (rL (rDie R p)) (rN R); omega) z
theorem eHeir {R : RO} (hW : rW R) (x : Int32) : (dHeir R x).1 < 0 → (dHeir R x).2 = R := by
  have hn := hW.1
  unfold dHeir
  cases h : pOf (rN R) x with
  | none => intro _; rfl
  | some p =>
    simp only
    by_cases h1 : rL R p = false
    · rw [if_pos h1]; intro _; rfl
    · rw [if_neg h1]
      by_cases h2 : ¬ whyH R p = 0
      · rw [if_pos h2]; intro z; exact k_neg (whyH_big R p) z
      · rw [if_neg h2]; intro z; exact k_neg (show 10 + ap (rS R p) (oS R (rP R p)) < 2 ^ 31 by have := ap_le (rS R p) (oS R (rP R p)); omega) z
theorem ok_found {M : KM} {σ : ST} (h : CI M σ) (x : Int32) : Ok mX9_found [vR 0 0, vI x] M (QC M (dFound σ.1 x).1 (sDeed2 σ (dFound σ.1 x))) := by
  refine ok_of (by decide) rfl (Nat.le_of_ble_eq_true rfl) ⟨rfl, rfl⟩ ?_
  show Go mX9_found (Zm (QC M (dFound σ.1 x).1 (sDeed2 σ (dFound σ.1 x)))) M [some (vR 0 0), some (vI x)] [] 0
  refine go_aload_n (q := 1) dX9_found_0 rfl rfl rfl ?_
  refine go_getf (q := 4) dX9_found_1 fRX9_25 rfl (by decide) rfl rfl ?_
  refine go_aload_n (q := 5) dX9_found_4 rfl rfl rfl ?_
  refine go_getf (q := 8) dX9_found_5 fRX9_10 rfl (by decide) rfl rfl ?_
  refine go_kuV1 (cal := mX2_note) (q := 11) dX9_found_8 lRX9_57 vX2_note ⟨by decide, by decide⟩ rfl (by decide) (Nat.le_of_ble_eq_true rfl) (ok_note h.2.2.2.2.1 h.1) rfl (fun M1 hR1 hk1 => ?_)
  refine go_aload_n (q := 12) dX9_found_11 rfl rfl rfl ?_
  refine go_aload_n (q := 13) dX9_found_12 rfl rfl rfl ?_
  refine go_getf (q := 16) dX9_found_13 fRX9_10 rfl (by decide) rfl rfl ?_
  refine go_iload_n (q := 17) dX9_found_16 rfl rfl rfl ?_
  refine go_kV1 (cal := mX6_founderComes) (q := 20) dX9_found_17 lRX9_61 vX6_founderComes ⟨by decide, by decide⟩ rfl (by decide) (Nat.le_of_ble_eq_true rfl) (ok_founderComes (by decide) (roll0 h hk1) h.2.1 _) rfl (fun M2 hR2 hk2 => ?_)
  refine go_callV [vI (dFound σ.1 x).1] (cal := mX9_keepIfChanged) (q := 23) dX9_found_20 lRX9_65 vX9_keepIfChanged ⟨by decide, by decide⟩ rfl rfl (by decide) (Nat.le_of_ble_eq_true rfl) (ok_keepIf (noted h hR1 hk1 hk2).1 (noted h hR1 hk1 hk2).2 _) rfl (fun r20 M20 h20 => ?_)
  obtain rfl : r20 = some (vI (dFound σ.1 x).1) := h20.1
  exact go_ireti dX9_found_23 rfl (CI_deed h hR1 hk1 hR2 hk2 (rW_found h.2.1 x) (eFound h.2.1 x) h20)
theorem ok_bear {M : KM} {σ : ST} (h : CI M σ) (x y z : Int32) : Ok mX9_bear [vR 0 0, vI x, vI y, vI z] M (QC M (dBear σ.1 x y z).1 (sDeed2 σ (dBear σ.1 x y z))) := by
  refine ok_of (by decide) rfl (Nat.le_of_ble_eq_true rfl) ⟨rfl, rfl⟩ ?_
  show Go mX9_bear (Zm (QC M (dBear σ.1 x y z).1 (sDeed2 σ (dBear σ.1 x y z)))) M [some (vR 0 0), some (vI x), some (vI y), some (vI z)] [] 0
  refine go_aload_n (q := 1) dX9_bear_0 rfl rfl rfl ?_
  refine go_getf (q := 4) dX9_bear_1 fRX9_25 rfl (by decide) rfl rfl ?_
  refine go_aload_n (q := 5) dX9_bear_4 rfl rfl rfl ?_
  refine go_getf (q := 8) dX9_bear_5 fRX9_10 rfl (by decide) rfl rfl ?_
  refine go_kuV1 (cal := mX2_note) (q := 11) dX9_bear_8 lRX9_57 vX2_note ⟨by decide, by decide⟩ rfl (by decide) (Nat.le_of_ble_eq_true rfl) (ok_note h.2.2.2.2.1 h.1) rfl (fun M1 hR1 hk1 => ?_)
  refine go_aload_n (q := 12) dX9_bear_11 rfl rfl rfl ?_
  refine go_aload_n (q := 13) dX9_bear_12 rfl rfl rfl ?_
  refine go_getf (q := 16) dX9_bear_13 fRX9_10 rfl (by decide) rfl rfl ?_
  refine go_iload_n (q := 17) dX9_bear_16 rfl rfl rfl ?_
  refine go_iload_n (q := 18) dX9_bear_17 rfl rfl rfl ?_
  refine go_iload_n (q := 19) dX9_bear_18 rfl rfl rfl ?_
  refine go_kV3 (cal := mX6_sonComes) (q := 22) dX9_bear_19 lRX9_68 vX6_sonComes ⟨by decide, by decide⟩ rfl (by decide) (Nat.le_of_ble_eq_true rfl) (ok_sonComes (by decide) (roll0 h hk1) h.2.1 _ _ _) rfl (fun M2 hR2 hk2 => ?_)
  refine go_callV [vI (dBear σ.1 x y z).1] (cal := mX9_keepIfChanged) (q := 25) dX9_bear_22 lRX9_65 vX9_keepIfChanged ⟨by decide, by decide⟩ rfl rfl (by decide) (Nat.le_of_ble_eq_true rfl) (ok_keepIf (noted h hR1 hk1 hk2).1 (noted h hR1 hk1 hk2).2 _) rfl (fun r22 M22 h22 => ?_)
  obtain rfl : r22 = some (vI (dBear σ.1 x y z).1) := h22.1
  exact go_ireti dX9_bear_25 rfl (CI_deed h hR1 hk1 hR2 hk2 (rW_bear h.2.1 x y z) (eBear h.2.1 x y z) h22)
theorem ok_die {M : KM} {σ : ST} (h : CI M σ) (x : Int32) : Ok mX9_die [vR 0 0, vI x] M (QC M (dDie σ.1 x).1 (sDeed2 σ (dDie σ.1 x))) := by
  refine ok_of (by decide) rfl (Nat.le_of_ble_eq_true rfl) ⟨rfl, rfl⟩ ?_
  show Go mX9_die (Zm (QC M (dDie σ.1 x).1 (sDeed2 σ (dDie σ.1 x)))) M [some (vR 0 0), some (vI x)] [] 0
  refine go_aload_n (q := 1) dX9_die_0 rfl rfl rfl ?_
  refine go_getf (q := 4) dX9_die_1 fRX9_25 rfl (by decide) rfl rfl ?_
  refine go_aload_n (q := 5) dX9_die_4 rfl rfl rfl ?_
  refine go_getf (q := 8) dX9_die_5 fRX9_10 rfl (by decide) rfl rfl ?_
  refine go_kuV1 (cal := mX2_note) (q := 11) dX9_die_8 lRX9_57 vX2_note ⟨by decide, by decide⟩ rfl (by decide) (Nat.le_of_ble_eq_true rfl) (ok_note h.2.2.2.2.1 h.1) rfl (fun M1 hR1 hk1 => ?_)
  refine go_aload_n (q := 12) dX9_die_11 rfl rfl rfl ?_
  refine go_aload_n (q := 13) dX9_die_12 rfl rfl rfl ?_
  refine go_getf (q := 16) dX9_die_13 fRX9_10 rfl (by decide) rfl rfl ?_
  refine go_iload_n (q := 17) dX9_die_16 rfl rfl rfl ?_
  refine go_kV1 (cal := mX6_goes) (q := 20) dX9_die_17 lRX9_72 vX6_goes ⟨by decide, by decide⟩ rfl (by decide) (Nat.le_of_ble_eq_true rfl) (ok_goes (by decide) (roll0 h hk1) _) rfl (fun M2 hR2 hk2 => ?_)
  refine go_callV [vI (dDie σ.1 x).1] (cal := mX9_keepIfChanged) (q := 23) dX9_die_20 lRX9_65 vX9_keepIfChanged ⟨by decide, by decide⟩ rfl rfl (by decide) (Nat.le_of_ble_eq_true rfl) (ok_keepIf (noted h hR1 hk1 hk2).1 (noted h hR1 hk1 hk2).2 _) rfl (fun r20 M20 h20 => ?_)
  obtain rfl : r20 = some (vI (dDie σ.1 x).1) := h20.1
  exact go_ireti dX9_die_23 rfl (CI_deed h hR1 hk1 hR2 hk2 (rW_dDie h.2.1 x) (eDie h.2.1 x) h20)
theorem ok_inherit {M : KM} {σ : ST} (h : CI M σ) (x : Int32) : Ok mX9_inherit [vR 0 0, vI x] M (QC M (dHeir σ.1 x).1 (sDeed2 σ (dHeir σ.1 x))) := by
  refine ok_of (by decide) rfl (Nat.le_of_ble_eq_true rfl) ⟨rfl, rfl⟩ ?_
  show Go mX9_inherit (Zm (QC M (dHeir σ.1 x).1 (sDeed2 σ (dHeir σ.1 x)))) M [some (vR 0 0), some (vI x)] [] 0
  refine go_aload_n (q := 1) dX9_inherit_0 rfl rfl rfl ?_
  refine go_getf (q := 4) dX9_inherit_1 fRX9_25 rfl (by decide) rfl rfl ?_
  refine go_aload_n (q := 5) dX9_inherit_4 rfl rfl rfl ?_
  refine go_getf (q := 8) dX9_inherit_5 fRX9_10 rfl (by decide) rfl rfl ?_
  refine go_kuV1 (cal := mX2_note) (q := 11) dX9_inherit_8 lRX9_57 vX2_note ⟨by decide, by decide⟩ rfl (by decide) (Nat.le_of_ble_eq_true rfl) (ok_note h.2.2.2.2.1 h.1) rfl (fun M1 hR1 hk1 => ?_)
  refine go_aload_n (q := 12) dX9_inherit_11 rfl rfl rfl ?_
  refine go_aload_n (q := 13) dX9_inherit_12 rfl rfl rfl ?_
  refine go_getf (q := 16) dX9_inherit_13 fRX9_10 rfl (by decide) rfl rfl ?_
  refine go_iload_n (q := 17) dX9_inherit_16 rfl rfl rfl ?_
  refine go_kV1 (cal := mX6_becomesHeir) (q := 20) dX9_inherit_17 lRX9_75 vX6_becomesHeir ⟨by decide, by decide⟩ rfl (by decide) (Nat.le_of_ble_eq_true rfl) (ok_becomesHeir (by decide) (roll0 h hk1) h.2.1 _) rfl (fun M2 hR2 hk2 => ?_)
  refine go_callV [vI (dHeir σ.1 x).1] (cal := mX9_keepIfChanged) (q := 23) dX9_inherit_20 lRX9_65 vX9_keepIfChanged ⟨by decide, by decide⟩ rfl rfl (by decide) (Nat.le_of_ble_eq_true rfl) (ok_keepIf (noted h hR1 hk1 hk2).1 (noted h hR1 hk1 hk2).2 _) rfl (fun r20 M20 h20 => ?_)
  obtain rfl : r20 = some (vI (dHeir σ.1 x).1) := h20.1
  exact go_ireti dX9_inherit_23 rfl (CI_deed h hR1 hk1 hR2 hk2 (rW_dHeir h.2.1 x) (eHeir h.2.1 x) h20)
theorem CI_pad {M M' : KM} {σ : ST} {n : Nat} {c : Nat → Nat} (h : CI M σ) (hk : kP M M') (hP : PA M' n c) : CI M' (σ.1, σ.2.1, σ.2.2.1, (n, c), σ.2.2.2.2) ∧ fc M M' := by
  obtain ⟨a1, a2, a3, a4, a5, a6, a7, a8, a9⟩ := h
  have e : ∀ k b, k < 9 → M'.1 k b = M.1 k b := fun k b hk2 => hk.2 k b (by omega) (by omega)
  refine ⟨⟨a1.cg (fun k _ h6 => e k 0 (by omega)), a2, ?_, fun s hs => ⟨(a4 s hs).1.cg (fun k _ h6 => e k 1 (by omega)), (a4 s hs).2⟩, ?_, a6, hP, WA_keep a8 (e 0 0 (by decide)), ?_⟩, fun k b h14 => hk.2 k b (by omega) (by omega)⟩
  · show M'.1 0 0 6 = _
    rw [e 0 0 (by decide)]; exact a3
  · refine ⟨?_, a5.2.1, ?_, ?_, fun j hj => ?_⟩
    · rw [e 7 0 (by decide)]; exact a5.1
    · rw [hk.1]; exact a5.2.2.1
    · rw [hk.1]; exact a5.2.2.2.1
    · rw [hk.1]; exact (a5.2.2.2.2 j hj).cg (fun k _ h6 => e k _ (by omega))
  · rw [hk.1]; exact a9
abbrev padN (σ : ST) : Nat := σ.2.2.2.1.1
abbrev padC (σ : ST) : Nat → Nat := σ.2.2.2.1.2
def sPad (σ : ST) (n : Nat) (c : Nat → Nat) : ST := (σ.1, σ.2.1, σ.2.2.1, (n, c), σ.2.2.2.2)
/-- the code of a sign that may be appended -/
def sgn (x : Int32) : Option Nat := match pOf 127 x with
  | some k => if 33 ≤ k then some k else none
  | none => none
def aAppend (σ : ST) (x : Int32) : Int32 × ST := match sgn x with
  | none => (-1, σ)
  | some k => if 60 ≤ padN σ then (-3, σ) else (nI (padN σ + 1), sPad σ (padN σ + 1) (fun j => if j = padN σ then k else padC σ j))
theorem sgn_some {x : Int32} (h1 : ¬ x < 33) (h2 : x ≤ 126) : ∃ k, sgn x = some k ∧ x = nI k ∧ 33 ≤ k ∧ k ≤ 126 := by
  have e33 : (33 : Int32).toInt = 33 := by decide
  have e126 : (126 : Int32).toInt = 126 := by decide
  rw [i32_lt, e33] at h1
  rw [i32_le, e126] at h2
  obtain ⟨k, hk⟩ := isSome_t (pOf_iff (n := 127) (x := x) |>.mpr ⟨by omega, by omega⟩)
  obtain ⟨hlt, rfl⟩ := pOf_some hk
  rw [nI_toInt (by omega)] at h1
  refine ⟨k, ?_, rfl, by omega, by omega⟩
  unfold sgn
  rw [hk]
  simp only
  rw [if_pos (by omega)]
theorem sgn_none {x : Int32} (h : x < 33 ∨ ¬ x ≤ 126) : sgn x = none := by
  have e33 : (33 : Int32).toInt = 33 := by decide
  have e126 : (126 : Int32).toInt = 126 := by decide
  rw [i32_lt, i32_le, e33, e126] at h
  unfold sgn
  cases hk : pOf 127 x with
  | none => rfl
  | some k =>
    obtain ⟨hlt, rfl⟩ := pOf_some hk
    rw [nI_toInt (by omega)] at h
    simp only
    rw [if_neg (by omega)]
theorem ok_append {M : KM} {σ : ST} (h : CI M σ) (x : Int32) : Ok mX9_append [vR 0 0, vI x] M (QC M (aAppend σ x).1 (aAppend σ x).2) := by
  refine ok_of (by decide) rfl (Nat.le_of_ble_eq_true rfl) ⟨rfl, rfl⟩ ?_
  show Go mX9_append (Zm (QC M (aAppend σ x).1 (aAppend σ x).2)) M [some (vR 0 0), some (vI x)] [] 0
  refine go_iload_n (q := 1) dX9_append_0 rfl rfl rfl ?_
  refine go_bipush (q := 3) (v := 33) dX9_append_1 (by decide) rfl ?_
  refine go_icmp_lt (q := 6) (t := 12) dX9_append_3 (by decide) rfl (fun c_3 => ?_) (fun c_3 => ?_)
  · refine go_iconst (q := 13) (v := (-1)) dX9_append_12 (by decide) rfl ?_
    exact go_ireti dX9_append_13 rfl ⟨by simp [aAppend, sgn_none (Or.inl c_3)], by simpa [aAppend, sgn_none (Or.inl c_3)] using h, fc.rf⟩
  · refine go_iload_n (q := 7) dX9_append_6 rfl rfl rfl ?_
    refine go_bipush (q := 9) (v := 126) dX9_append_7 (by decide) rfl ?_
    refine go_icmp_le (q := 12) (t := 14) dX9_append_9 (by decide) rfl (fun c_9 => ?_) (fun c_9 => ?_)
    · obtain ⟨k, hsg, rfl, hk33, hk126⟩ := sgn_some c_3 c_9
      refine go_aload_n (q := 15) dX9_append_14 rfl rfl rfl ?_
      refine go_getf (q := 18) dX9_append_15 fRX9_32 rfl (by decide) rfl rfl ?_
      refine go_cV0 (cal := mX5_isFull) (q := 21) dX9_append_18 lRX9_81 vX5_isFull ⟨by decide, by decide⟩ rfl (by decide) (Nat.le_of_ble_eq_true rfl) (ok_isFull h.2.2.2.2.2.2.1) rfl ?_
      refine go_if_eqB (q := 24) (t := 27) dX9_append_21 (by decide) rfl (fun c_21 => ?_) (fun c_21 => ?_)
      · refine go_aload_n (q := 28) dX9_append_27 rfl rfl rfl ?_
        refine go_getf (q := 31) dX9_append_28 fRX9_32 rfl (by decide) rfl rfl ?_
        refine go_iload_n (q := 32) dX9_append_31 rfl rfl rfl ?_
        refine go_callV [vI (nI k)] (cal := mX5_put) (q := 35) dX9_append_32 lRX9_85 vX5_put ⟨by decide, by decide⟩ rfl rfl (by decide) (Nat.le_of_ble_eq_true rfl) (ok_put h.2.2.2.2.2.2.1 (by have := of_decide_eq_false c_21; omega) hk33 hk126) rfl (fun r32 M32 h32 => ?_)
        obtain ⟨rfl, hP32, hk32⟩ := h32
        refine go_aload_n (q := 36) dX9_append_35 rfl rfl rfl ?_
        refine go_getf (q := 39) dX9_append_36 fRX9_32 rfl (by decide) rfl rfl ?_
        refine go_cV0 (cal := mX5_length) (q := 42) dX9_append_39 lRX9_89 vX5_length ⟨by decide, by decide⟩ rfl (by decide) (Nat.le_of_ble_eq_true rfl) (ok_plen hP32) rfl ?_
        exact go_ireti dX9_append_42 rfl ⟨by simp [aAppend, hsg, of_decide_eq_false c_21], by rw [show (aAppend σ (nI k)).2 = sPad σ (padN σ + 1) (fun j => if j = padN σ then k else padC σ j) from by simp [aAppend, hsg, of_decide_eq_false c_21]]; exact (CI_pad h hk32 hP32).1, (CI_pad h hk32 hP32).2⟩
      · refine go_bipush (q := 26) (v := (-3)) dX9_append_24 (by decide) rfl ?_
        exact go_ireti dX9_append_26 rfl ⟨by simp [aAppend, hsg, of_decide_eq_true c_21], by simpa [aAppend, hsg, of_decide_eq_true c_21] using h, fc.rf⟩
    · refine go_iconst (q := 13) (v := (-1)) dX9_append_12 (by decide) rfl ?_
      exact go_ireti dX9_append_13 rfl ⟨by simp [aAppend, sgn_none (Or.inr c_9)], by simpa [aAppend, sgn_none (Or.inr c_9)] using h, fc.rf⟩
theorem ok_clear {M : KM} {σ : ST} (h : CI M σ) : Ok mX9_clear [vR 0 0] M (QC M (nI (padN σ)) (sPad σ 0 (padC σ))) := by
  refine ok_of (by decide) rfl (Nat.le_of_ble_eq_true rfl) ⟨rfl, rfl⟩ ?_
  show Go mX9_clear (Zm (QC M (nI (padN σ)) (sPad σ 0 (padC σ)))) M [some (vR 0 0), none] [] 0
  refine go_aload_n (q := 1) dX9_clear_0 rfl rfl rfl ?_
  refine go_getf (q := 4) dX9_clear_1 fRX9_32 rfl (by decide) rfl rfl ?_
  refine go_cV0 (cal := mX5_length) (q := 7) dX9_clear_4 lRX9_89 vX5_length ⟨by decide, by decide⟩ rfl (by decide) (Nat.le_of_ble_eq_true rfl) (ok_plen h.2.2.2.2.2.2.1) rfl ?_
  refine go_istore_n (q := 8) dX9_clear_7 rfl (by decide) rfl rfl ?_
  refine go_aload_n (q := 9) dX9_clear_8 rfl rfl rfl ?_
  refine go_getf (q := 12) dX9_clear_9 fRX9_32 rfl (by decide) rfl rfl ?_
  refine go_callV [] (cal := mX5_empty) (q := 15) dX9_clear_12 lRX9_93 vX5_empty ⟨by decide, by decide⟩ rfl rfl (by decide) (Nat.le_of_ble_eq_true rfl) (ok_empty h.2.2.2.2.2.2.1) rfl (fun r12 M12 h12 => ?_)
  obtain ⟨rfl, hP12, hk12⟩ := h12
  refine go_iload_n (q := 16) dX9_clear_15 rfl rfl rfl ?_
  exact go_ireti dX9_clear_16 rfl ⟨rfl, (CI_pad h hk12 hP12).1, (CI_pad h hk12 hP12).2⟩
theorem ok_fault {M : KM} {σ : ST} (h : CI M σ) : OkF mX9_fault [vR 0 0] M (some (vI (e4 (pfault (padN σ) (padC σ))))) M := by
  refine ok_of (by decide) rfl (Nat.le_of_ble_eq_true rfl) ⟨rfl, rfl⟩ ?_
  show Go mX9_fault (Zm (QF (some (vI (e4 (pfault (padN σ) (padC σ))))) M)) M [some (vR 0 0)] [] 0
  refine go_aload_n (q := 1) dX9_fault_0 rfl rfl rfl ?_
  refine go_getf (q := 4) dX9_fault_1 fRX9_32 rfl (by decide) rfl rfl ?_
  refine go_cV0 (cal := mX5_firstFault) (q := 7) dX9_fault_4 lRX9_96 vX5_firstFault ⟨by decide, by decide⟩ rfl (by decide) (Nat.le_of_ble_eq_true rfl) (ok_firstFault h.2.2.2.2.2.2.1) rfl ?_
  exact go_ri dX9_fault_7 rfl (by rfl) rfl
def aWhy (w : Option (Int32 × Int32 × Int32)) (x : Int32) : Int32 := match pOf 3 x with
  | none => -1
  | some k => match w with
    | none => -4
    | some (a, b, c) => if k = 0 then a else if k = 1 then b else c
theorem in3_t {x : Int32} (h1 : ¬ x < 0) (h2 : x ≤ 2) : ∃ k, pOf 3 x = some k ∧ k < 3 ∧ x = nI k := by
  obtain ⟨k, hk⟩ := isSome_t (in3.mpr ⟨h1, h2⟩)
  exact ⟨k, hk, pOf_some hk⟩
theorem ok_why {M : KM} {σ : ST} (h : CI M σ) (x : Int32) : OkF mX9_why [vR 0 0, vI x] M (some (vI (aWhy σ.2.2.2.2 x))) M := by
  refine ok_of (by decide) rfl (Nat.le_of_ble_eq_true rfl) ⟨rfl, rfl⟩ ?_
  show Go mX9_why (Zm (QF (some (vI (aWhy σ.2.2.2.2 x))) M)) M [some (vR 0 0), some (vI x)] [] 0
  refine go_iload_n (q := 1) dX9_why_0 rfl rfl rfl ?_
  refine go_if_lt (q := 4) (t := 9) dX9_why_1 (by decide) rfl (fun c_1 => ?_) (fun c_1 => ?_)
  · refine go_iconst (q := 10) (v := (-1)) dX9_why_9 (by decide) rfl ?_
    exact go_ri dX9_why_10 rfl (by simp [aWhy, in3_f (Or.inl c_1)]) rfl
  · refine go_iload_n (q := 5) dX9_why_4 rfl rfl rfl ?_
    refine go_iconst (q := 6) (v := 2) dX9_why_5 (by decide) rfl ?_
    refine go_icmp_le (q := 9) (t := 11) dX9_why_6 (by decide) rfl (fun c_6 => ?_) (fun c_6 => ?_)
    · obtain ⟨k, hk, hkl, rfl⟩ := in3_t c_1 c_6
      have hA := h.2.2.2.2.2.2.2.1
      refine go_aload_n (q := 12) dX9_why_11 rfl rfl rfl ?_
      refine go_getf (q := 15) dX9_why_12 fRX9_47 rfl (by decide) rfl rfl ?_
      refine go_if_ne (q := 18) (t := 21) dX9_why_15 (by decide) rfl (fun c_15 => ?_) (fun c_15 => ?_)
      · obtain ⟨wa, wb, wc, hw⟩ : ∃ a b d, σ.2.2.2.2 = some (a, b, d) := by
          cases hw : σ.2.2.2.2 with
          | none => rw [hw] at hA; exact absurd hA c_15
          | some w => exact ⟨w.1, w.2.1, w.2.2, rfl⟩
        rw [hw] at hA
        refine go_iload_n (q := 22) dX9_why_21 rfl rfl rfl ?_
        refine go_if_ne (q := 25) (t := 30) dX9_why_22 (by decide) rfl (fun c_22 => ?_) (fun c_22 => ?_)
        · refine go_iload_n (q := 31) dX9_why_30 rfl rfl rfl ?_
          refine go_iconst (q := 32) (v := 1) dX9_why_31 (by decide) rfl ?_
          refine go_icmp_ne (q := 35) (t := 42) dX9_why_32 (by decide) rfl (fun c_32 => ?_) (fun c_32 => ?_)
          · refine go_aload_n (q := 43) dX9_why_42 rfl rfl rfl ?_
            refine go_getf (q := 46) dX9_why_43 fRX9_54 rfl (by decide) rfl rfl ?_
            exact go_ri dX9_why_46 rfl (by have h22 : ¬ k = 0 := fun z => c_22 (by rw [z]; rfl); have h32 : ¬ k = 1 := fun z => c_32 (by rw [z]; rfl); simp [aWhy, hk, hw, h22, h32]; exact hA.2.2.2) rfl
          · refine go_aload_n (q := 36) dX9_why_35 rfl rfl rfl ?_
            refine go_getf (q := 39) dX9_why_36 fRX9_51 rfl (by decide) rfl rfl ?_
            refine go_goto (q := 46) dX9_why_39 (by decide) ?_
            exact go_ri dX9_why_46 rfl (by have h32 : k = 1 := (nI_eq (by omega) (by decide)).mp (Classical.not_not.mp c_32); simp [aWhy, hk, hw, h32]; exact hA.2.2.1) rfl
        · refine go_aload_n (q := 26) dX9_why_25 rfl rfl rfl ?_
          refine go_getf (q := 29) dX9_why_26 fRX9_47 rfl (by decide) rfl rfl ?_
          exact go_ri dX9_why_29 rfl (by simp [aWhy, hk, hw, (nI_eq (by omega) (by decide)).mp (Classical.not_not.mp c_22)]; exact hA.1) rfl
      · have hw : σ.2.2.2.2 = none := by
          cases hw : σ.2.2.2.2 with
          | none => rfl
          | some w => rw [hw] at hA; obtain ⟨a, b, d⟩ := w; exact absurd (hA.1.symm.trans (Classical.not_not.mp c_15)) hA.2.1
        refine go_bipush (q := 20) (v := (-4)) dX9_why_18 (by decide) rfl ?_
        exact go_ri dX9_why_20 rfl (by simp [aWhy, hk, hw]) rfl
    · refine go_iconst (q := 10) (v := (-1)) dX9_why_9 (by decide) rfl ?_
      exact go_ri dX9_why_10 rfl (by simp [aWhy, in3_f (Or.inr c_6)]) rfl
def aUndo (σ : ST) : Int32 × ST := match σ.2.2.1.1 with
  | 0 => (-2, σ)
  | g + 1 => (nI g, (σ.2.2.1.2 g, σ.2.1, (g, σ.2.2.1.2), σ.2.2.2))
def aSave (σ : ST) : Int32 × ST := (nI (cn (rL σ.1) (rN σ.1)), (σ.1, some σ.1, σ.2.2))
def aRestore (σ : ST) : Int32 × ST := match σ.2.1 with
  | none => (-2, σ)
  | some s => (nI (cn (rL s) (rN s)), sKeep (s, σ.2) σ.1)
theorem CI_undo {M M' : KM} {σ : ST} {g : Nat} (h : CI M σ) (hg : σ.2.2.1.1 = g + 1) (hR : RA M' 0 (σ.2.2.1.2 g)) (hH : HA M' g σ.2.2.1.2) (hk : kT M M') : CI M' (σ.2.2.1.2 g, σ.2.1, (g, σ.2.2.1.2), σ.2.2.2) ∧ fc M M' := by
  obtain ⟨a1, a2, a3, a4, a5, a6, a7, a8, a9⟩ := h
  refine ⟨⟨hR, a6 g (by omega), ?_, fun s hs => ⟨(a4 s hs).1.cg (fun k _ h6 => hk.2 k 1 (by omega) (by omega)), (a4 s hs).2⟩, hH, fun j hj => a6 j (by have : j < g := hj; omega), PA_keep a7 (hk.2 9 0 (by decide) (by omega)) (hk.2 10 0 (by decide) (by omega)), WA_keep a8 (hk.2 0 0 (by decide) (by omega)), ?_⟩, fun k b h14 => hk.2 k b (by omega) (by omega)⟩
  · show M'.1 0 0 6 = _
    rw [hk.2 0 0 (by decide) (by omega)]; exact a3
  · rw [hk.1]; exact a9
theorem CI_save {M M' : KM} {σ : ST} (h : CI M σ) (hk : kRoll 1 M M') (hR : RA M' 1 σ.1) : CI (k_si M' 0 0 6 1) (σ.1, some σ.1, σ.2.2) ∧ fc M (k_si M' 0 0 6 1) := by
  obtain ⟨a1, a2, a3, a4, a5, a6, a7, a8, a9⟩ := h
  have e : ∀ k b, k ≠ 0 → (k_si M' 0 0 6 1).1 k b = M'.1 k b := fun k b h0 => k_si_ne M' 1 (fun z => h0 z.1)
  have hH := HA_keep a5 hk (HA_not0 a5 (by decide))
  refine ⟨⟨(a1.keep hk (by decide)).cg (fun k h1 _ => e k 0 (by omega)), a2, rfl, fun s hs => ?_, ⟨hH.1, hH.2.1, hH.2.2.1, hH.2.2.2.1, fun j hj => (hH.2.2.2.2 j hj).cg (fun k h1 _ => e k _ (by omega))⟩, a6, PA_keep a7 ((e 9 0 (by decide)).trans (hk.2 9 0 (fun z => by omega))) ((e 10 0 (by decide)).trans (hk.2 10 0 (fun z => by omega))), ?_, ?_⟩, fun k b h14 => (e k b (by omega)).trans (hk.2 k b (fun z => by omega))⟩
  · cases hs
    exact ⟨hR.cg (fun k h1 _ => e k 1 (by omega)), a2⟩
  · have e0 : M'.1 0 0 = M.1 0 0 := hk.2 0 0 (fun z => by omega)
    have a8' := WA_keep a8 e0
    revert a8'
    show WA M' σ.2.2.2.2 → WA (k_si M' 0 0 6 1) σ.2.2.2.2
    cases σ.2.2.2.2 with
    | none => exact fun z => z
    | some w => exact fun z => z
  · show qq (M'.2.2 11 1) (M'.2.2 11 2)
    rw [hk.1]; exact a9
theorem go_if_neN {I : KI} {Z : KZ} {M : KM} {loc : List (Option KV)} {st : List KV} {pc q t : Nat} {off : Int} {x : Int32} (a : Nat) (hd : decode I.2.1 pc = .ok (.ifCond .ne off, 3)) (ht : (pc : Int) + off = (t : Int)) (hq : pc + 3 = q) (hx : x = nI a) (ha : a < 2 ^ 31) (k1 : ¬ a = 0 → Go I Z M loc st t) (k2 : a = 0 → Go I Z M loc st q) : Go I Z M loc (vI x :: st) pc := by
  subst hx
  exact go_if_ne hd ht hq (fun z => k1 (fun w => z (by rw [w]; rfl))) (fun z => k2 ((nI_eq ha (by decide)).mp (Classical.not_not.mp z)))
theorem ok_undo {M : KM} {σ : ST} (h : CI M σ) : Ok mX9_undo [vR 0 0] M (QC M (aUndo σ).1 (aUndo σ).2) := by
  refine ok_of (by decide) rfl (Nat.le_of_ble_eq_true rfl) ⟨rfl, rfl⟩ ?_
  show Go mX9_undo (Zm (QC M (aUndo σ).1 (aUndo σ).2)) M [some (vR 0 0)] [] 0
  refine go_aload_n (q := 1) dX9_undo_0 rfl rfl rfl ?_
  refine go_getf (q := 4) dX9_undo_1 fRX9_25 rfl (by decide) rfl rfl ?_
  refine go_cV0 (cal := mX2_size) (q := 7) dX9_undo_4 lRX9_244 vX2_size ⟨by decide, by decide⟩ rfl (by decide) (Nat.le_of_ble_eq_true rfl) (ok_hsize h.2.2.2.2.1) rfl ?_
  refine go_if_neN σ.2.2.1.1 (q := 10) (t := 13) dX9_undo_7 (by decide) rfl rfl (by have := h.2.2.2.2.1.2.1; omega) (fun c_7 => ?_) (fun c_7 => ?_)
  · obtain ⟨g, hg⟩ : ∃ g, σ.2.2.1.1 = g + 1 := ⟨σ.2.2.1.1 - 1, by omega⟩
    have hHg : HA M (g + 1) σ.2.2.1.2 := by rw [← hg]; exact h.2.2.2.2.1
    refine go_aload_n (q := 14) dX9_undo_13 rfl rfl rfl ?_
    refine go_getf (q := 17) dX9_undo_14 fRX9_25 rfl (by decide) rfl rfl ?_
    refine go_aload_n (q := 18) dX9_undo_17 rfl rfl rfl ?_
    refine go_getf (q := 21) dX9_undo_18 fRX9_10 rfl (by decide) rfl rfl ?_
    refine go_callV [vR 1 0] (cal := mX2_takeBack) (q := 24) dX9_undo_21 lRX9_261 vX2_takeBack ⟨by decide, by decide⟩ rfl rfl (by decide) (Nat.le_of_ble_eq_true rfl) (ok_takeBack hHg) rfl (fun r21 M21 h21 => ?_)
    obtain ⟨rfl, hR21, hH21, hk21⟩ := h21
    refine go_aload_n (q := 25) dX9_undo_24 rfl rfl rfl ?_
    refine go_getf (q := 28) dX9_undo_25 fRX9_25 rfl (by decide) rfl rfl ?_
    refine go_cV0 (cal := mX2_size) (q := 31) dX9_undo_28 lRX9_244 vX2_size ⟨by decide, by decide⟩ rfl (by decide) (Nat.le_of_ble_eq_true rfl) (ok_hsize hH21) rfl ?_
    exact go_ireti dX9_undo_31 rfl ⟨by simp [aUndo, hg], by simpa [aUndo, hg] using (CI_undo h hg hR21 hH21 hk21).1, (CI_undo h hg hR21 hH21 hk21).2⟩
  · refine go_bipush (q := 12) (v := (-2)) dX9_undo_10 (by decide) rfl ?_
    exact go_ireti dX9_undo_12 rfl ⟨by simp [aUndo, c_7], by simpa [aUndo, c_7] using h, fc.rf⟩
theorem ok_save {M : KM} {σ : ST} (h : CI M σ) : Ok mX9_save [vR 0 0] M (QC M (aSave σ).1 (aSave σ).2) := by
  refine ok_of (by decide) rfl (Nat.le_of_ble_eq_true rfl) ⟨rfl, rfl⟩ ?_
  show Go mX9_save (Zm (QC M (aSave σ).1 (aSave σ).2)) M [some (vR 0 0)] [] 0
  refine go_aload_n (q := 1) dX9_save_0 rfl rfl rfl ?_
  refine go_getf (q := 4) dX9_save_1 fRX9_16 rfl (by decide) rfl rfl ?_
  refine go_aload_n (q := 5) dX9_save_4 rfl rfl rfl ?_
  refine go_getf (q := 8) dX9_save_5 fRX9_10 rfl (by decide) rfl rfl ?_
  refine go_kuV1 (cal := mX6_copyFrom) (q := 11) dX9_save_8 lRX9_252 vX6_copyFrom ⟨by decide, by decide⟩ rfl (by decide) (Nat.le_of_ble_eq_true rfl) (ok_copyFrom (by decide) (by decide) h.1 (by decide)) rfl (fun M1 hR1 hk1 => ?_)
  refine go_aload_n (q := 12) dX9_save_11 rfl rfl rfl ?_
  refine go_iconst (q := 13) (v := 1) dX9_save_12 (by decide) rfl ?_
  refine go_puti (q := 16) dX9_save_13 pRX9_43 rfl (by decide) rfl (by decide) rfl (Nat.le_of_ble_eq_true rfl) rfl ?_
  refine go_aload_n (q := 17) dX9_save_16 rfl rfl rfl ?_
  refine go_getf (q := 20) dX9_save_17 fRX9_10 rfl (by decide) rfl rfl ?_
  refine go_cV0 (cal := mX6_living) (q := 23) dX9_save_20 lRX9_214 vX6_living ⟨by decide, by decide⟩ rfl (by decide) (Nat.le_of_ble_eq_true rfl) (ok_living (by decide) (CI_save h hk1 hR1).1.1) rfl ?_
  exact go_ireti dX9_save_23 rfl ⟨rfl, (CI_save h hk1 hR1).1, (CI_save h hk1 hR1).2⟩
theorem ok_restore {M : KM} {σ : ST} (h : CI M σ) : Ok mX9_restore [vR 0 0] M (QC M (aRestore σ).1 (aRestore σ).2) := by
  refine ok_of (by decide) rfl (Nat.le_of_ble_eq_true rfl) ⟨rfl, rfl⟩ ?_
  show Go mX9_restore (Zm (QC M (aRestore σ).1 (aRestore σ).2)) M [some (vR 0 0)] [] 0
  refine go_aload_n (q := 1) dX9_restore_0 rfl rfl rfl ?_
  refine go_getf (q := 4) dX9_restore_1 fRX9_43 rfl (by decide) rfl rfl ?_
  refine go_topi h.2.2.1 ?_
  refine go_if_neB (q := 7) (t := 10) dX9_restore_4 (by decide) rfl (fun c_4 => ?_) (fun c_4 => ?_)
  · obtain ⟨s, hsn⟩ := isSome_t c_4
    refine go_aload_n (q := 11) dX9_restore_10 rfl rfl rfl ?_
    refine go_getf (q := 14) dX9_restore_11 fRX9_25 rfl (by decide) rfl rfl ?_
    refine go_aload_n (q := 15) dX9_restore_14 rfl rfl rfl ?_
    refine go_getf (q := 18) dX9_restore_15 fRX9_10 rfl (by decide) rfl rfl ?_
    refine go_kuV1 (cal := mX2_note) (q := 21) dX9_restore_18 lRX9_57 vX2_note ⟨by decide, by decide⟩ rfl (by decide) (Nat.le_of_ble_eq_true rfl) (ok_note h.2.2.2.2.1 h.1) rfl (fun M1 hR1 hk1 => ?_)
    refine go_aload_n (q := 22) dX9_restore_21 rfl rfl rfl ?_
    refine go_getf (q := 25) dX9_restore_22 fRX9_10 rfl (by decide) rfl rfl ?_
    refine go_aload_n (q := 26) dX9_restore_25 rfl rfl rfl ?_
    refine go_getf (q := 29) dX9_restore_26 fRX9_16 rfl (by decide) rfl rfl ?_
    refine go_kuV1 (cal := mX6_copyFrom) (q := 32) dX9_restore_29 lRX9_252 vX6_copyFrom ⟨by decide, by decide⟩ rfl (by decide) (Nat.le_of_ble_eq_true rfl) (ok_copyFrom (by decide) (by decide) ((h.2.2.2.1 s hsn).1.keep hk1 (by have := (HA_free h.2.2.2.2.1).2.1; omega)) (by decide)) rfl (fun M2 hR2 hk2 => ?_)
    refine go_aload_n (q := 33) dX9_restore_32 rfl rfl rfl ?_
    refine go_getf (q := 36) dX9_restore_33 fRX9_25 rfl (by decide) rfl rfl ?_
    refine go_callV [] (cal := mX2_keepNoted) (q := 39) dX9_restore_36 lRX9_78 vX2_keepNoted ⟨by decide, by decide⟩ rfl rfl (by decide) (Nat.le_of_ble_eq_true rfl) (ok_keepNoted (noted h hR1 hk1 hk2).1 (noted h hR1 hk1 hk2).2) rfl (fun r36 M36 h36 => ?_)
    obtain ⟨rfl, hH36, hk36⟩ := h36
    have cF : CI M36 (sKeep (s, σ.2) σ.1) := CI_keep (CI_set (CI_roll h hk1 (by have := (HA_free h.2.2.2.2.1).2.1; omega) (by have := (HA_free h.2.2.2.2.1).2.1; omega) (HA_free h.2.2.2.2.1).1) hk2 hR2 (h.2.2.2.1 s hsn).2) hk36 hH36 h.2.1
    refine go_aload_n (q := 40) dX9_restore_39 rfl rfl rfl ?_
    refine go_getf (q := 43) dX9_restore_40 fRX9_10 rfl (by decide) rfl rfl ?_
    refine go_cV0 (cal := mX6_living) (q := 46) dX9_restore_43 lRX9_214 vX6_living ⟨by decide, by decide⟩ rfl (by decide) (Nat.le_of_ble_eq_true rfl) (ok_living (by decide) cF.1) rfl ?_
    exact go_ireti dX9_restore_46 rfl ⟨by simp [aRestore, hsn] <;> rfl, by simpa [aRestore, hsn] using cF, ((hk1.fc).tr hk2.fc).tr hk36.fc⟩
  · have hsn : σ.2.1 = none := isSome_f c_4
    refine go_bipush (q := 9) (v := (-2)) dX9_restore_7 (by decide) rfl ?_
    exact go_ireti dX9_restore_9 rfl ⟨by simp [aRestore, hsn], by simpa [aRestore, hsn] using h, fc.rf⟩
