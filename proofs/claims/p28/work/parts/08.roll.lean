/-! ===== a roll as a value, and how a Roll holds it ===== -/
abbrev RO : Type := Nat × (Nat → Nat) × (Nat → Bool) × (Nat → Option (Nat × Nat × Nat)) × Nat × Nat
def rN (R : RO) : Nat := R.1
def rS (R : RO) (p : Nat) : Nat := R.2.1 p
def rL (R : RO) (p : Nat) : Bool := R.2.2.1 p
def rB (R : RO) (p : Nat) : Option (Nat × Nat × Nat) := R.2.2.2.1 p
def rH (R : RO) : Nat := R.2.2.2.2.1
def rF (R : RO) : Nat := R.2.2.2.2.2
def rP (R : RO) (p : Nat) : Option Nat := (rB R p).map (fun b => b.1)
def rK (R : RO) (p : Nat) : Option Nat := (rB R p).map (fun b => b.2.1)
def rM (R : RO) (p : Nat) : Option Nat := (rB R p).map (fun b => b.2.2)
/-- a roll that can be: persons, fathers before their sons, at most four sons, no shield borne by two living -/
def rW (R : RO) : Prop := rN R ≤ 20 ∧ (∀ p, p < rN R → rS R p < 15625) ∧ (∀ p f k m, p < rN R → rB R p = some (f, k, m) → f < p ∧ k < 6 ∧ m < 5) ∧ (∀ f, cn (fun i => rP R i == some f) (rN R) ≤ 4) ∧ (∀ p q, p < rN R → q < rN R → rL R p = true → rL R q = true → rS R p = rS R q → p = q)
def RA (M : KM) (i : Nat) (R : RO) : Prop := M.1 1 i 5 = nI (rN R) ∧ M.1 1 i 6 = nI (rH R) ∧ M.1 1 i 7 = nI (rF R) ∧ rN R ≤ 20 ∧ (∀ p, p < 20 → ∃ b, M.1 3 i p = bI b) ∧ ∀ p, p < rN R → M.1 2 i p = nI (rS R p) ∧ M.1 3 i p = bI (rL R p) ∧ M.1 4 i p = e1 (rP R p) ∧ M.1 5 i p = e1 (rK R p) ∧ M.1 6 i p = e1 (rM R p)
section RAx
variable {M : KM} {i p : Nat} {R : RO}
theorem RA.sz (h : RA M i R) : M.1 1 i 5 = nI (rN R) := h.1
theorem RA.he (h : RA M i R) : M.1 1 i 6 = nI (rH R) := h.2.1
theorem RA.re (h : RA M i R) : M.1 1 i 7 = nI (rF R) := h.2.2.1
theorem RA.le (h : RA M i R) : rN R ≤ 20 := h.2.2.2.1
theorem RA.sh (h : RA M i R) (hp : p < rN R) : M.1 2 i p = nI (rS R p) := (h.2.2.2.2.2 p hp).1
theorem RA.al (h : RA M i R) (hp : p < rN R) : M.1 3 i p = bI (rL R p) := (h.2.2.2.2.2 p hp).2.1
theorem RA.fa (h : RA M i R) (hp : p < rN R) : M.1 4 i p = e1 (rP R p) := (h.2.2.2.2.2 p hp).2.2.1
theorem RA.pl (h : RA M i R) (hp : p < rN R) : M.1 5 i p = e1 (rK R p) := (h.2.2.2.2.2 p hp).2.2.2.1
theorem RA.mk (h : RA M i R) (hp : p < rN R) : M.1 6 i p = e1 (rM R p) := (h.2.2.2.2.2 p hp).2.2.2.2
theorem RA.z (h : RA M i R) (hp : p < 20) : ∃ b, M.1 3 i p = bI b := h.2.2.2.2.1 p hp
theorem RA.lt (h : RA M i R) (hp : p < rN R) : p < 20 := Nat.lt_of_lt_of_le hp h.le
theorem rP_lt (h : rW R) (hp : p < rN R) : ∀ f, rP R p = some f → f < p := fun f hf => by
  unfold rP at hf
  cases hb : rB R p with
  | none => rw [hb] at hf; cases hf
  | some b =>
    obtain ⟨g, k, m⟩ := b
    rw [hb] at hf
    cases hf
    exact (h.2.2.1 p _ k m hp hb).1
theorem rK_lt (h : rW R) (hp : p < rN R) : ∀ f, rK R p = some f → f < 6 := fun f hf => by
  unfold rK at hf
  cases hb : rB R p with
  | none => rw [hb] at hf; cases hf
  | some b =>
    obtain ⟨g, k, m⟩ := b
    rw [hb] at hf
    cases hf
    exact (h.2.2.1 p g _ m hp hb).2.1
theorem rM_lt (h : rW R) (hp : p < rN R) : ∀ f, rM R p = some f → f < 5 := fun f hf => by
  unfold rM at hf
  cases hb : rB R p with
  | none => rw [hb] at hf; cases hf
  | some b =>
    obtain ⟨g, k, m⟩ := b
    rw [hb] at hf
    cases hf
    exact (h.2.2.1 p g k _ hp hb).2.2
theorem rP_n (h : rW R) (hp : p < rN R) : ∀ f, rP R p = some f → f < rN R := fun f hf => Nat.lt_trans (rP_lt h hp f hf) hp
end RAx
def oS (R : RO) (o : Option Nat) : Nat := match o with | some p => rS R p | none => 0
def oL (R : RO) (o : Option Nat) : Bool := match o with | some p => rL R p | none => false
theorem oL_some {R : RO} {p : Nat} : oL R (some p) = rL R p := rfl
def oP (R : RO) (o : Option Nat) : Option Nat := match o with | some p => rP R p | none => none
def oK (R : RO) (o : Option Nat) : Option Nat := match o with | some p => rK R p | none => none
def oM (R : RO) (o : Option Nat) : Option Nat := match o with | some p => rM R p | none => none
/-- brothers -/
def br (R : RO) (a b : Option Nat) : Bool := match a, b with
  | some p, some q => p != q && (rP R p != none && rP R p == rP R q)
  | _, _ => false
/-- the least, the last below n; whether there is one -/
def fst1 (P : Nat → Bool) : Nat → Option Nat
  | 0 => none
  | n + 1 => match fst1 P n with
    | some k => some k
    | none => if P n then some n else none
def lst1 (P : Nat → Bool) : Nat → Option Nat
  | 0 => none
  | n + 1 => if P n then some n else lst1 P n
def ex (P : Nat → Bool) : Nat → Bool
  | 0 => false
  | n + 1 => ex P n || P n
theorem fst1_none {P : Nat → Bool} : ∀ {n : Nat}, fst1 P n = none ↔ ∀ i, i < n → P i = false
  | 0 => by simp [fst1]
  | n + 1 => by
    unfold fst1
    cases h : fst1 P n with
    | none =>
      have h2 := fst1_none.mp h
      simp only
      constructor
      · intro h3 i hi
        by_cases hin : i < n
        · exact h2 i hin
        · have : i = n := by omega
          subst this
          by_cases h4 : P i = true
          · rw [if_pos h4] at h3; cases h3
          · simpa using h4
      · intro h3
        rw [if_neg (by rw [h3 n (by omega)]; decide)]
    | some k =>
      simp only [reduceCtorEq, false_iff]
      intro h3
      have : fst1 P n = none := fst1_none.mpr (fun i hi => h3 i (by omega))
      rw [h] at this; cases this
theorem fst1_some {P : Nat → Bool} : ∀ {n k : Nat}, fst1 P n = some k ↔ k < n ∧ P k = true ∧ ∀ i, i < k → P i = false
  | 0, k => by simp [fst1]
  | n + 1, k => by
    unfold fst1
    cases h : fst1 P n with
    | none =>
      have h2 := fst1_none.mp h
      simp only
      constructor
      · intro h3
        by_cases h4 : P n = true
        · rw [if_pos h4] at h3
          cases h3
          exact ⟨by omega, h4, h2⟩
        · rw [if_neg h4] at h3; cases h3
      · intro ⟨h3, h4, h5⟩
        have : k = n := by
          by_cases hk : k < n
          · rw [h2 k hk] at h4; cases h4
          · omega
        subst this
        rw [if_pos h4]
    | some j =>
      have h2 := fst1_some.mp h
      simp only [Option.some.injEq]
      constructor
      · rintro rfl
        exact ⟨by omega, h2.2.1, h2.2.2⟩
      · intro ⟨h3, h4, h5⟩
        by_cases a : j < k
        · rw [h5 j a] at h2; cases h2.2.1
        · by_cases b : k < j
          · rw [h2.2.2 k b] at h4; cases h4
          · omega
theorem ex_iff {P : Nat → Bool} : ∀ {n : Nat}, ex P n = true ↔ ∃ i, i < n ∧ P i = true
  | 0 => by simp [ex]
  | n + 1 => by
    unfold ex
    rw [Bool.or_eq_true, ex_iff]
    constructor
    · rintro (⟨i, h1, h2⟩ | h)
      · exact ⟨i, by omega, h2⟩
      · exact ⟨n, by omega, h⟩
    · rintro ⟨i, h1, h2⟩
      by_cases hi : i < n
      · exact Or.inl ⟨i, hi, h2⟩
      · have : i = n := by omega
        subst this
        exact Or.inr h2
theorem ex_f {P : Nat → Bool} {n : Nat} (h : ∀ i, i < n → P i = false) : ex P n = false := by
  rw [← Bool.not_eq_true, ex_iff]
  rintro ⟨i, h1, h2⟩
  rw [h i h1] at h2; cases h2
theorem ex_t {P : Nat → Bool} {n i : Nat} (hi : i < n) (h : P i = true) : ex P n = true := ex_iff.mpr ⟨i, hi, h⟩
theorem k_hasT {n : Nat} (hn : n ≤ 20) {x : Int32} (h0 : ¬ x < 0) (h1 : ¬ nI n ≤ x) : (1 : Int32) = bI (pOf n x).isSome := by
  have e0 : (0 : Int32).toInt = 0 := by decide
  rw [i32_lt, e0] at h0
  rw [i32_le, nI_toInt (by omega)] at h1
  rw [show (pOf n x).isSome = true from pOf_iff.mpr ⟨by omega, by omega⟩]
  rfl
theorem k_hasF {n : Nat} (hn : n ≤ 20) {x : Int32} (h : x < 0 ∨ nI n ≤ x ∨ (20 : Int32) ≤ x) : (0 : Int32) = bI (pOf n x).isSome := by
  have e0 : (0 : Int32).toInt = 0 := by decide
  have e20 : (20 : Int32).toInt = 20 := by decide
  rw [i32_lt, e0, i32_le, nI_toInt (by omega), i32_le, e20] at h
  have h2 : ¬ (pOf n x).isSome = true := fun z => by
    have := pOf_iff.mp z
    omega
  rw [Bool.not_eq_true] at h2
  rw [h2]; rfl
theorem ok_size {M : KM} {i : Nat} {R : RO} (hi : i < 8) (hR : RA M i R) : OkF mX6_size [vR 1 i] M (some (vI (nI (rN R)))) M := by
  refine ok_of (by decide) rfl (Nat.le_of_ble_eq_true rfl) ⟨rfl, rfl⟩ ?_
  show Go mX6_size (Zm (QF (some (vI (nI (rN R)))) M)) M [some (vR 1 i)] [] 0
  refine go_aload_n (q := 1) dX6_size_0 rfl rfl rfl ?_
  refine go_getf (q := 4) dX6_size_1 fRX6_28 rfl hi rfl rfl ?_
  refine go_topi hR.sz ?_
  exact go_ri dX6_size_4 rfl (by rfl) rfl
theorem ok_heirs {M : KM} {i : Nat} {R : RO} (hi : i < 8) (hR : RA M i R) : OkF mX6_heirs [vR 1 i] M (some (vI (nI (rH R)))) M := by
  refine ok_of (by decide) rfl (Nat.le_of_ble_eq_true rfl) ⟨rfl, rfl⟩ ?_
  show Go mX6_heirs (Zm (QF (some (vI (nI (rH R)))) M)) M [some (vR 1 i)] [] 0
  refine go_aload_n (q := 1) dX6_heirs_0 rfl rfl rfl ?_
  refine go_getf (q := 4) dX6_heirs_1 fRX6_32 rfl hi rfl rfl ?_
  refine go_topi hR.he ?_
  exact go_ri dX6_heirs_4 rfl (by rfl) rfl
theorem ok_refusals {M : KM} {i : Nat} {R : RO} (hi : i < 8) (hR : RA M i R) : OkF mX6_refusals [vR 1 i] M (some (vI (nI (rF R)))) M := by
  refine ok_of (by decide) rfl (Nat.le_of_ble_eq_true rfl) ⟨rfl, rfl⟩ ?_
  show Go mX6_refusals (Zm (QF (some (vI (nI (rF R)))) M)) M [some (vR 1 i)] [] 0
  refine go_aload_n (q := 1) dX6_refusals_0 rfl rfl rfl ?_
  refine go_getf (q := 4) dX6_refusals_1 fRX6_35 rfl hi rfl rfl ?_
  refine go_topi hR.re ?_
  exact go_ri dX6_refusals_4 rfl (by rfl) rfl
theorem ok_has {M : KM} {i : Nat} {R : RO} (hi : i < 8) (hR : RA M i R) (x : Int32) : OkF mX6_has [vR 1 i, vI x] M (some (vI (bI (pOf (rN R) x).isSome))) M := by
  refine ok_of (by decide) rfl (Nat.le_of_ble_eq_true rfl) ⟨rfl, rfl⟩ ?_
  show Go mX6_has (Zm (QF (some (vI (bI (pOf (rN R) x).isSome))) M)) M [some (vR 1 i), some (vI x)] [] 0
  refine go_iload_n (q := 1) dX6_has_0 rfl rfl rfl ?_
  refine go_if_lt (q := 4) (t := 22) dX6_has_1 (by decide) rfl (fun c_1 => ?_) (fun c_1 => ?_)
  · refine go_iconst (q := 23) (v := 0) dX6_has_22 (by decide) rfl ?_
    exact go_rz dX6_has_23 rfl (k_hasF hR.le (by first | exact Or.inl (by assumption) | exact Or.inr (Or.inl (by assumption)) | exact Or.inr (Or.inr (by assumption)))) rfl
  · refine go_iload_n (q := 5) dX6_has_4 rfl rfl rfl ?_
    refine go_aload_n (q := 6) dX6_has_5 rfl rfl rfl ?_
    refine go_getf (q := 9) dX6_has_6 fRX6_28 rfl hi rfl rfl ?_
    refine go_topi hR.sz ?_
    refine go_icmp_ge (q := 12) (t := 22) dX6_has_9 (by decide) rfl (fun c_9 => ?_) (fun c_9 => ?_)
    · refine go_iconst (q := 23) (v := 0) dX6_has_22 (by decide) rfl ?_
      exact go_rz dX6_has_23 rfl (k_hasF hR.le (by first | exact Or.inl (by assumption) | exact Or.inr (Or.inl (by assumption)) | exact Or.inr (Or.inr (by assumption)))) rfl
    · refine go_iload_n (q := 13) dX6_has_12 rfl rfl rfl ?_
      refine go_bipush (q := 15) (v := 20) dX6_has_13 (by decide) rfl ?_
      refine go_icmp_ge (q := 18) (t := 22) dX6_has_15 (by decide) rfl (fun c_15 => ?_) (fun c_15 => ?_)
      · refine go_iconst (q := 23) (v := 0) dX6_has_22 (by decide) rfl ?_
        exact go_rz dX6_has_23 rfl (k_hasF hR.le (by first | exact Or.inl (by assumption) | exact Or.inr (Or.inl (by assumption)) | exact Or.inr (Or.inr (by assumption)))) rfl
      · refine go_iconst (q := 19) (v := 1) dX6_has_18 (by decide) rfl ?_
        refine go_goto (q := 23) dX6_has_19 (by decide) ?_
        exact go_rz dX6_has_23 rfl (k_hasT hR.le (by assumption) (by assumption)) rfl
theorem ok_shieldOf {M : KM} {i : Nat} {R : RO} (hi : i < 8) (hR : RA M i R) (x : Int32) : OkF mX6_shieldOf [vR 1 i, vI x] M (some (vI (nI (oS R (pOf (rN R) x))))) M := by
  refine ok_of (by decide) rfl (Nat.le_of_ble_eq_true rfl) ⟨rfl, rfl⟩ ?_
  show Go mX6_shieldOf (Zm (QF (some (vI (nI (oS R (pOf (rN R) x))))) M)) M [some (vR 1 i), some (vI x)] [] 0
  refine go_aload_n (q := 1) dX6_shieldOf_0 rfl rfl rfl ?_
  refine go_iload_n (q := 2) dX6_shieldOf_1 rfl rfl rfl ?_
  refine go_cV1 (cal := mX6_has) (q := 5) dX6_shieldOf_2 lRX6_38 vX6_has ⟨by decide, by decide⟩ rfl hi (Nat.le_of_ble_eq_true rfl) (ok_has hi hR _) rfl ?_
  refine go_if_eqB (q := 8) (t := 17) dX6_shieldOf_5 (by decide) rfl (fun c_5 => ?_) (fun c_5 => ?_)
  · refine go_iconst (q := 18) (v := 0) dX6_shieldOf_17 (by decide) rfl ?_
    exact go_ri dX6_shieldOf_18 rfl (by rw [Option.isSome_eq_false_iff, Option.isNone_iff_eq_none] at c_5; rw [c_5]; rfl) rfl
  · obtain ⟨p, hp⟩ := Option.isSome_iff_exists.mp c_5
    obtain ⟨hlt, rfl⟩ := pOf_some hp
    refine go_aload_n (q := 9) dX6_shieldOf_8 rfl rfl rfl ?_
    refine go_getf (q := 12) dX6_shieldOf_9 fRX6_9 rfl hi rfl rfl ?_
    refine go_iload_n (q := 13) dX6_shieldOf_12 rfl rfl rfl ?_
    refine go_iald (q := 14) p dX6_shieldOf_13 rfl rfl hi rfl (hR.lt hlt) rfl ?_
    refine go_goto (q := 18) dX6_shieldOf_14 (by decide) ?_
    exact go_ri dX6_shieldOf_18 rfl (by rw [hp]; exact hR.sh hlt) rfl
theorem ok_fatherOf {M : KM} {i : Nat} {R : RO} (hi : i < 8) (hR : RA M i R) (x : Int32) : OkF mX6_fatherOf [vR 1 i, vI x] M (some (vI (e1 (oP R (pOf (rN R) x))))) M := by
  refine ok_of (by decide) rfl (Nat.le_of_ble_eq_true rfl) ⟨rfl, rfl⟩ ?_
  show Go mX6_fatherOf (Zm (QF (some (vI (e1 (oP R (pOf (rN R) x))))) M)) M [some (vR 1 i), some (vI x)] [] 0
  refine go_aload_n (q := 1) dX6_fatherOf_0 rfl rfl rfl ?_
  refine go_iload_n (q := 2) dX6_fatherOf_1 rfl rfl rfl ?_
  refine go_cV1 (cal := mX6_has) (q := 5) dX6_fatherOf_2 lRX6_38 vX6_has ⟨by decide, by decide⟩ rfl hi (Nat.le_of_ble_eq_true rfl) (ok_has hi hR _) rfl ?_
  refine go_if_eqB (q := 8) (t := 17) dX6_fatherOf_5 (by decide) rfl (fun c_5 => ?_) (fun c_5 => ?_)
  · refine go_iconst (q := 18) (v := (-1)) dX6_fatherOf_17 (by decide) rfl ?_
    exact go_ri dX6_fatherOf_18 rfl (by rw [Option.isSome_eq_false_iff, Option.isNone_iff_eq_none] at c_5; rw [c_5]; rfl) rfl
  · obtain ⟨p, hp⟩ := Option.isSome_iff_exists.mp c_5
    obtain ⟨hlt, rfl⟩ := pOf_some hp
    refine go_aload_n (q := 9) dX6_fatherOf_8 rfl rfl rfl ?_
    refine go_getf (q := 12) dX6_fatherOf_9 fRX6_19 rfl hi rfl rfl ?_
    refine go_iload_n (q := 13) dX6_fatherOf_12 rfl rfl rfl ?_
    refine go_iald (q := 14) p dX6_fatherOf_13 rfl rfl hi rfl (hR.lt hlt) rfl ?_
    refine go_goto (q := 18) dX6_fatherOf_14 (by decide) ?_
    exact go_ri dX6_fatherOf_18 rfl (by rw [hp]; exact hR.fa hlt) rfl
theorem ok_birthPlaceOf {M : KM} {i : Nat} {R : RO} (hi : i < 8) (hR : RA M i R) (x : Int32) : OkF mX6_birthPlaceOf [vR 1 i, vI x] M (some (vI (e1 (oK R (pOf (rN R) x))))) M := by
  refine ok_of (by decide) rfl (Nat.le_of_ble_eq_true rfl) ⟨rfl, rfl⟩ ?_
  show Go mX6_birthPlaceOf (Zm (QF (some (vI (e1 (oK R (pOf (rN R) x))))) M)) M [some (vR 1 i), some (vI x)] [] 0
  refine go_aload_n (q := 1) dX6_birthPlaceOf_0 rfl rfl rfl ?_
  refine go_iload_n (q := 2) dX6_birthPlaceOf_1 rfl rfl rfl ?_
  refine go_cV1 (cal := mX6_has) (q := 5) dX6_birthPlaceOf_2 lRX6_38 vX6_has ⟨by decide, by decide⟩ rfl hi (Nat.le_of_ble_eq_true rfl) (ok_has hi hR _) rfl ?_
  refine go_if_eqB (q := 8) (t := 17) dX6_birthPlaceOf_5 (by decide) rfl (fun c_5 => ?_) (fun c_5 => ?_)
  · refine go_iconst (q := 18) (v := (-1)) dX6_birthPlaceOf_17 (by decide) rfl ?_
    exact go_ri dX6_birthPlaceOf_18 rfl (by rw [Option.isSome_eq_false_iff, Option.isNone_iff_eq_none] at c_5; rw [c_5]; rfl) rfl
  · obtain ⟨p, hp⟩ := Option.isSome_iff_exists.mp c_5
    obtain ⟨hlt, rfl⟩ := pOf_some hp
    refine go_aload_n (q := 9) dX6_birthPlaceOf_8 rfl rfl rfl ?_
    refine go_getf (q := 12) dX6_birthPlaceOf_9 fRX6_22 rfl hi rfl rfl ?_
    refine go_iload_n (q := 13) dX6_birthPlaceOf_12 rfl rfl rfl ?_
    refine go_iald (q := 14) p dX6_birthPlaceOf_13 rfl rfl hi rfl (hR.lt hlt) rfl ?_
    refine go_goto (q := 18) dX6_birthPlaceOf_14 (by decide) ?_
    exact go_ri dX6_birthPlaceOf_18 rfl (by rw [hp]; exact hR.pl hlt) rfl
theorem ok_birthMarkOf {M : KM} {i : Nat} {R : RO} (hi : i < 8) (hR : RA M i R) (x : Int32) : OkF mX6_birthMarkOf [vR 1 i, vI x] M (some (vI (e1 (oM R (pOf (rN R) x))))) M := by
  refine ok_of (by decide) rfl (Nat.le_of_ble_eq_true rfl) ⟨rfl, rfl⟩ ?_
  show Go mX6_birthMarkOf (Zm (QF (some (vI (e1 (oM R (pOf (rN R) x))))) M)) M [some (vR 1 i), some (vI x)] [] 0
  refine go_aload_n (q := 1) dX6_birthMarkOf_0 rfl rfl rfl ?_
  refine go_iload_n (q := 2) dX6_birthMarkOf_1 rfl rfl rfl ?_
  refine go_cV1 (cal := mX6_has) (q := 5) dX6_birthMarkOf_2 lRX6_38 vX6_has ⟨by decide, by decide⟩ rfl hi (Nat.le_of_ble_eq_true rfl) (ok_has hi hR _) rfl ?_
  refine go_if_eqB (q := 8) (t := 17) dX6_birthMarkOf_5 (by decide) rfl (fun c_5 => ?_) (fun c_5 => ?_)
  · refine go_iconst (q := 18) (v := (-1)) dX6_birthMarkOf_17 (by decide) rfl ?_
    exact go_ri dX6_birthMarkOf_18 rfl (by rw [Option.isSome_eq_false_iff, Option.isNone_iff_eq_none] at c_5; rw [c_5]; rfl) rfl
  · obtain ⟨p, hp⟩ := Option.isSome_iff_exists.mp c_5
    obtain ⟨hlt, rfl⟩ := pOf_some hp
    refine go_aload_n (q := 9) dX6_birthMarkOf_8 rfl rfl rfl ?_
    refine go_getf (q := 12) dX6_birthMarkOf_9 fRX6_25 rfl hi rfl rfl ?_
    refine go_iload_n (q := 13) dX6_birthMarkOf_12 rfl rfl rfl ?_
    refine go_iald (q := 14) p dX6_birthMarkOf_13 rfl rfl hi rfl (hR.lt hlt) rfl ?_
    refine go_goto (q := 18) dX6_birthMarkOf_14 (by decide) ?_
    exact go_ri dX6_birthMarkOf_18 rfl (by rw [hp]; exact hR.mk hlt) rfl
theorem ok_isAlive {M : KM} {i : Nat} {R : RO} (hi : i < 8) (hR : RA M i R) (x : Int32) : OkF mX6_isAlive [vR 1 i, vI x] M (some (vI (bI (oL R (pOf (rN R) x))))) M := by
  refine ok_of (by decide) rfl (Nat.le_of_ble_eq_true rfl) ⟨rfl, rfl⟩ ?_
  show Go mX6_isAlive (Zm (QF (some (vI (bI (oL R (pOf (rN R) x))))) M)) M [some (vR 1 i), some (vI x)] [] 0
  refine go_aload_n (q := 1) dX6_isAlive_0 rfl rfl rfl ?_
  refine go_iload_n (q := 2) dX6_isAlive_1 rfl rfl rfl ?_
  refine go_cV1 (cal := mX6_has) (q := 5) dX6_isAlive_2 lRX6_38 vX6_has ⟨by decide, by decide⟩ rfl hi (Nat.le_of_ble_eq_true rfl) (ok_has hi hR _) rfl ?_
  refine go_if_eqB (q := 8) (t := 21) dX6_isAlive_5 (by decide) rfl (fun c_5 => ?_) (fun c_5 => ?_)
  · refine go_iconst (q := 22) (v := 0) dX6_isAlive_21 (by decide) rfl ?_
    exact go_rz dX6_isAlive_22 rfl (by rw [Option.isSome_eq_false_iff, Option.isNone_iff_eq_none] at c_5; rw [c_5]; rfl) rfl
  · obtain ⟨p, hp⟩ := Option.isSome_iff_exists.mp c_5
    obtain ⟨hlt, rfl⟩ := pOf_some hp
    refine go_aload_n (q := 9) dX6_isAlive_8 rfl rfl rfl ?_
    refine go_getf (q := 12) dX6_isAlive_9 fRX6_15 rfl hi rfl rfl ?_
    refine go_iload_n (q := 13) dX6_isAlive_12 rfl rfl rfl ?_
    refine go_zald (q := 14) p dX6_isAlive_13 hi rfl (hR.lt hlt) rfl ?_
    refine go_topi (hR.al hlt) ?_
    refine go_if_eqB (q := 17) (t := 21) dX6_isAlive_14 (by decide) rfl (fun c_14 => ?_) (fun c_14 => ?_)
    · refine go_iconst (q := 22) (v := 0) dX6_isAlive_21 (by decide) rfl ?_
      exact go_rz dX6_isAlive_22 rfl (by rw [hp]; show _ = bI (rL R p); rw [c_14]; rfl) rfl
    · refine go_iconst (q := 18) (v := 1) dX6_isAlive_17 (by decide) rfl ?_
      refine go_goto (q := 22) dX6_isAlive_18 (by decide) ?_
      exact go_rz dX6_isAlive_22 rfl (by rw [hp]; show _ = bI (rL R p); rw [c_14]; rfl) rfl
theorem pOf_at {M : KM} {i : Nat} {R : RO} (hR : RA M i R) {j : Nat} (hj : j < rN R) : pOf (rN R) (nI j) = some j := pOf_nI hj (by have := hR.le; omega)
theorem lp_living {M : KM} {i : Nat} {R : RO} (hi : i < 8) (hR : RA M i R) : ∀ (d : Nat) (j : Nat) (x y : Int32), rN R - j < d → (x = nI (cn (rL R) j)) → (y = nI j) → (j ≤ rN R) → Go mX6_living (Zm (QF (some (vI (nI (cn (rL R) (rN R))))) M)) M [some (vR 1 i), some (vI x), some (vI y)] [] 4 := by
  intro d
  induction d with
  | zero => intro j x y hd; exact absurd hd (Nat.not_lt_zero _)
  | succ d ih =>
    intro j x y hd h0 h1 h2
    refine go_iload_n (q := 5) dX6_living_4 rfl rfl rfl ?_
    refine go_aload_n (q := 6) dX6_living_5 rfl rfl rfl ?_
    refine go_getf (q := 9) dX6_living_6 fRX6_28 rfl hi rfl rfl ?_
    refine go_topi hR.sz ?_
    refine go_icmp_geN j (rN R) (q := 12) (t := 29) dX6_living_9 (by decide) rfl h1 rfl (by have := hR.le; omega) (by have := hR.le; omega) (fun c_9 => ?_) (fun c_9 => ?_)
    · refine go_iload_n (q := 30) dX6_living_29 rfl rfl rfl ?_
      exact go_ri dX6_living_30 rfl (by rw [h0, show j = rN R by omega]) rfl
    · subst h1
      refine go_aload_n (q := 13) dX6_living_12 rfl rfl rfl ?_
      refine go_iload_n (q := 14) dX6_living_13 rfl rfl rfl ?_
      refine go_cV1 (cal := mX6_isAlive) (q := 17) dX6_living_14 lRX6_42 vX6_isAlive ⟨by decide, by decide⟩ rfl hi (Nat.le_of_ble_eq_true rfl) (ok_isAlive hi hR _) rfl ?_
      refine go_if_eqB (q := 20) (t := 23) dX6_living_17 (by decide) rfl (fun c_17 => ?_) (fun c_17 => ?_)
      · rw [pOf_at hR c_9, oL_some] at c_17
        refine go_iinc (q := 26) (v := 1) dX6_living_23 (by decide) rfl (by decide) rfl rfl ?_
        refine go_goto (q := 4) dX6_living_26 (by decide) ?_
        exact ih (j + 1) _ _ (by omega) (by rw [h0, cn_f c_17]) (nI_1 j) (by omega)
      · rw [pOf_at hR c_9, oL_some] at c_17
        refine go_iinc (q := 23) (v := 1) dX6_living_20 (by decide) rfl (by decide) rfl rfl ?_
        refine go_iinc (q := 26) (v := 1) dX6_living_23 (by decide) rfl (by decide) rfl rfl ?_
        refine go_goto (q := 4) dX6_living_26 (by decide) ?_
        exact ih (j + 1) _ _ (by omega) (by rw [h0, cn_t c_17, nI_1]) (nI_1 j) (by omega)
theorem ok_living {M : KM} {i : Nat} {R : RO} (hi : i < 8) (hR : RA M i R) : OkF mX6_living [vR 1 i] M (some (vI (nI (cn (rL R) (rN R))))) M := by
  refine ok_of (by decide) rfl (Nat.le_of_ble_eq_true rfl) ⟨rfl, rfl⟩ ?_
  show Go mX6_living (Zm (QF (some (vI (nI (cn (rL R) (rN R))))) M)) M [some (vR 1 i), none, none] [] 0
  refine go_iconst (q := 1) (v := 0) dX6_living_0 (by decide) rfl ?_
  refine go_istore_n (q := 2) dX6_living_1 rfl (by decide) rfl rfl ?_
  refine go_iconst (q := 3) (v := 0) dX6_living_2 (by decide) rfl ?_
  refine go_istore_n (q := 4) dX6_living_3 rfl (by decide) rfl rfl ?_
  exact lp_living hi hR (rN R + 1) 0 _ _ (by omega) rfl rfl (by omega)
theorem oP_some {R : RO} {p : Nat} : oP R (some p) = rP R p := rfl
theorem oK_some {R : RO} {p : Nat} : oK R (some p) = rK R p := rfl
theorem oM_some {R : RO} {p : Nat} : oM R (some p) = rM R p := rfl
theorem oS_some {R : RO} {p : Nat} : oS R (some p) = rS R p := rfl
/-- the living person who bears a shield (the first one) -/
def bear (R : RO) (s : Nat) : Option Nat := fst1 (fun p => rL R p && rS R p == s) (rN R)
theorem lp_livingWith {M : KM} {i : Nat} {R : RO} (hi : i < 8) (hR : RA M i R) (hW : rW R) {s : Nat} (hs : s < 2 ^ 31) : ∀ (d : Nat) (j : Nat) (y : Int32), rN R - j < d → (∀ a, a < j → (rL R a && rS R a == s) = false) → (y = nI j) → (j ≤ rN R) → Go mX6_livingWith (Zm (QF (some (vI (e1 (bear R s)))) M)) M [some (vR 1 i), some (vI (nI s)), some (vI y)] [] 2 := by
  intro d
  induction d with
  | zero => intro j y hd; exact absurd hd (Nat.not_lt_zero _)
  | succ d ih =>
    intro j y hd h0 h1 h2
    refine go_iload_n (q := 3) dX6_livingWith_2 rfl rfl rfl ?_
    refine go_aload_n (q := 4) dX6_livingWith_3 rfl rfl rfl ?_
    refine go_getf (q := 7) dX6_livingWith_4 fRX6_28 rfl hi rfl rfl ?_
    refine go_topi hR.sz ?_
    refine go_icmp_geN j (rN R) (q := 10) (t := 43) dX6_livingWith_7 (by decide) rfl h1 rfl (by have := hR.le; omega) (by have := hR.le; omega) (fun c_7 => ?_) (fun c_7 => ?_)
    · refine go_iconst (q := 44) (v := (-1)) dX6_livingWith_43 (by decide) rfl ?_
      exact go_ri dX6_livingWith_44 rfl (by rw [show bear R s = none from fst1_none.mpr (fun a ha => h0 a (by omega))]; rfl) rfl
    · subst h1
      refine go_iload_n (q := 11) dX6_livingWith_10 rfl rfl rfl ?_
      refine go_bipush (q := 13) (v := 20) dX6_livingWith_11 (by decide) rfl ?_
      refine go_icmp_geN j 20 (q := 16) (t := 43) dX6_livingWith_13 (by decide) rfl rfl rfl (by have := hR.le; omega) (by omega) (fun c_13 => ?_) (fun c_13 => ?_)
      · have := hR.le; omega
      · refine go_aload_n (q := 17) dX6_livingWith_16 rfl rfl rfl ?_
        refine go_getf (q := 20) dX6_livingWith_17 fRX6_15 rfl hi rfl rfl ?_
        refine go_iload_n (q := 21) dX6_livingWith_20 rfl rfl rfl ?_
        refine go_zald (q := 22) j dX6_livingWith_21 hi rfl (hR.lt c_7) rfl ?_
        refine go_topi (hR.al c_7) ?_
        refine go_if_eqB (q := 25) (t := 37) dX6_livingWith_22 (by decide) rfl (fun c_22 => ?_) (fun c_22 => ?_)
        · refine go_iinc (q := 40) (v := 1) dX6_livingWith_37 (by decide) rfl (by decide) rfl rfl ?_
          refine go_goto (q := 2) dX6_livingWith_40 (by decide) ?_
          exact ih (j + 1) _ (by omega) (fun a ha => by
            by_cases hj : a = j
            · subst hj; simp [c_22]
            · exact h0 a (by omega)) (nI_1 j) (by omega)
        · refine go_aload_n (q := 26) dX6_livingWith_25 rfl rfl rfl ?_
          refine go_getf (q := 29) dX6_livingWith_26 fRX6_9 rfl hi rfl rfl ?_
          refine go_iload_n (q := 30) dX6_livingWith_29 rfl rfl rfl ?_
          refine go_iald (q := 31) j dX6_livingWith_30 rfl rfl hi rfl (hR.lt c_7) rfl ?_
          refine go_topi (hR.sh c_7) ?_
          refine go_iload_n (q := 32) dX6_livingWith_31 rfl rfl rfl ?_
          refine go_icmp_neN (rS R j) s (q := 35) (t := 37) dX6_livingWith_32 (by decide) rfl rfl rfl (by have := hW.2.1 j c_7; omega) hs (fun c_32 => ?_) (fun c_32 => ?_)
          · refine go_iinc (q := 40) (v := 1) dX6_livingWith_37 (by decide) rfl (by decide) rfl rfl ?_
            refine go_goto (q := 2) dX6_livingWith_40 (by decide) ?_
            exact ih (j + 1) _ (by omega) (fun a ha => by
              by_cases hj : a = j
              · subst hj; simp [c_32]
              · exact h0 a (by omega)) (nI_1 j) (by omega)
          · refine go_iload_n (q := 36) dX6_livingWith_35 rfl rfl rfl ?_
            exact go_ri dX6_livingWith_36 rfl (by rw [show bear R s = some j from fst1_some.mpr ⟨c_7, by simp [c_22, c_32], h0⟩]; rfl) rfl
theorem ok_livingWith {M : KM} {i : Nat} {R : RO} (hi : i < 8) (hR : RA M i R) (hW : rW R) {s : Nat} (hs : s < 2 ^ 31) : OkF mX6_livingWith [vR 1 i, vI (nI s)] M (some (vI (e1 (bear R s)))) M := by
  refine ok_of (by decide) rfl (Nat.le_of_ble_eq_true rfl) ⟨rfl, rfl⟩ ?_
  show Go mX6_livingWith (Zm (QF (some (vI (e1 (bear R s)))) M)) M [some (vR 1 i), some (vI (nI s)), none] [] 0
  refine go_iconst (q := 1) (v := 0) dX6_livingWith_0 (by decide) rfl ?_
  refine go_istore_n (q := 2) dX6_livingWith_1 rfl (by decide) rfl rfl ?_
  exact lp_livingWith hi hR hW hs (rN R + 1) 0 _ (by omega) (fun a ha => absurd ha (Nat.not_lt_zero _)) rfl (by omega)
/-- how many sons -/
def sonsN (R : RO) (f : Nat) : Nat := cn (fun i => rP R i == some f) (rN R)
theorem e1_nI {o : Option Nat} {f : Nat} (h : ∀ k, o = some k → k < 2 ^ 31) (hf : f < 2 ^ 31) : e1 o = nI f ↔ o = some f := by
  cases o with
  | none =>
    simp only [e1, reduceCtorEq, iff_false]
    exact fun z => nI_neg hf (by decide) z.symm
  | some k => simp only [e1, nI_eq (h k rfl) hf, Option.some.injEq]
theorem rP_big {R : RO} {p : Nat} (hW : rW R) (hp : p < rN R) : ∀ k, rP R p = some k → k < 2 ^ 31 := fun k h => by
  have := rP_n hW hp k h
  have := hW.1
  omega
theorem rK_big {R : RO} {p : Nat} (hW : rW R) (hp : p < rN R) : ∀ k, rK R p = some k → k < 2 ^ 31 := fun k h => by
  have := rK_lt hW hp k h
  omega
theorem lp_sonsOf {M : KM} {i : Nat} {R : RO} (hi : i < 8) (hR : RA M i R) (hW : rW R) {f : Nat} (hf : f < 2 ^ 31) : ∀ (d : Nat) (j : Nat) (x y : Int32), rN R - j < d → (x = nI (cn (fun i => rP R i == some f) j)) → (y = nI j) → (j ≤ rN R) → Go mX6_sonsOf (Zm (QF (some (vI (nI (sonsN R f)))) M)) M [some (vR 1 i), some (vI (nI f)), some (vI x), some (vI y)] [] 4 := by
  intro d
  induction d with
  | zero => intro j x y hd; exact absurd hd (Nat.not_lt_zero _)
  | succ d ih =>
    intro j x y hd h0 h1 h2
    refine go_iload_n (q := 5) dX6_sonsOf_4 rfl rfl rfl ?_
    refine go_aload_n (q := 6) dX6_sonsOf_5 rfl rfl rfl ?_
    refine go_getf (q := 9) dX6_sonsOf_6 fRX6_28 rfl hi rfl rfl ?_
    refine go_topi hR.sz ?_
    refine go_icmp_geN j (rN R) (q := 12) (t := 30) dX6_sonsOf_9 (by decide) rfl h1 rfl (by have := hR.le; omega) (by have := hR.le; omega) (fun c_9 => ?_) (fun c_9 => ?_)
    · refine go_iload_n (q := 31) dX6_sonsOf_30 rfl rfl rfl ?_
      exact go_ri dX6_sonsOf_31 rfl (by rw [h0, show j = rN R by omega]; rfl) rfl
    · subst h1
      refine go_aload_n (q := 13) dX6_sonsOf_12 rfl rfl rfl ?_
      refine go_iload_n (q := 14) dX6_sonsOf_13 rfl rfl rfl ?_
      refine go_cV1 (cal := mX6_fatherOf) (q := 17) dX6_sonsOf_14 lRX6_45 vX6_fatherOf ⟨by decide, by decide⟩ rfl hi (Nat.le_of_ble_eq_true rfl) (ok_fatherOf hi hR _) rfl ?_
      refine go_iload_n (q := 18) dX6_sonsOf_17 rfl rfl rfl ?_
      rw [pOf_at hR c_9, oP_some]
      refine go_icmp_ne (q := 21) (t := 24) dX6_sonsOf_18 (by decide) rfl (fun c_18 => ?_) (fun c_18 => ?_)
      · refine go_iinc (q := 27) (v := 1) dX6_sonsOf_24 (by decide) rfl (by decide) rfl rfl ?_
        refine go_goto (q := 4) dX6_sonsOf_27 (by decide) ?_
        exact ih (j + 1) _ _ (by omega) (by rw [h0, cn_f (by simpa using fun z => c_18 ((e1_nI (rP_big hW c_9) hf).mpr z))]) (nI_1 j) (by omega)
      · refine go_iinc (q := 24) (v := 1) dX6_sonsOf_21 (by decide) rfl (by decide) rfl rfl ?_
        refine go_iinc (q := 27) (v := 1) dX6_sonsOf_24 (by decide) rfl (by decide) rfl rfl ?_
        refine go_goto (q := 4) dX6_sonsOf_27 (by decide) ?_
        exact ih (j + 1) _ _ (by omega) (by rw [h0, cn_t (by simpa using (e1_nI (rP_big hW c_9) hf).mp (Classical.not_not.mp c_18)), nI_1]) (nI_1 j) (by omega)
theorem ok_sonsOf {M : KM} {i : Nat} {R : RO} (hi : i < 8) (hR : RA M i R) (hW : rW R) {f : Nat} (hf : f < 2 ^ 31) : OkF mX6_sonsOf [vR 1 i, vI (nI f)] M (some (vI (nI (sonsN R f)))) M := by
  refine ok_of (by decide) rfl (Nat.le_of_ble_eq_true rfl) ⟨rfl, rfl⟩ ?_
  show Go mX6_sonsOf (Zm (QF (some (vI (nI (sonsN R f)))) M)) M [some (vR 1 i), some (vI (nI f)), none, none] [] 0
  refine go_iconst (q := 1) (v := 0) dX6_sonsOf_0 (by decide) rfl ?_
  refine go_istore_n (q := 2) dX6_sonsOf_1 rfl (by decide) rfl rfl ?_
  refine go_iconst (q := 3) (v := 0) dX6_sonsOf_2 (by decide) rfl ?_
  refine go_istore_n (q := 4) dX6_sonsOf_3 rfl (by decide) rfl rfl ?_
  exact lp_sonsOf hi hR hW hf (rN R + 1) 0 _ _ (by omega) rfl rfl (by omega)
theorem e1_inj {a b : Option Nat} (ha : ∀ k, a = some k → k < 2 ^ 31) (hb : ∀ k, b = some k → k < 2 ^ 31) (h : e1 a = e1 b) : a = b := by
  cases b with
  | none => exact (e1_eq ha).mp h
  | some k => exact (e1_nI ha (hb k rfl)).mp h
theorem ok_areBrothers {M : KM} {i : Nat} {R : RO} (hi : i < 8) (hR : RA M i R) (hW : rW R) (x y : Int32) : OkF mX6_areBrothers [vR 1 i, vI x, vI y] M (some (vI (bI (br R (pOf (rN R) x) (pOf (rN R) y))))) M := by
  refine ok_of (by decide) rfl (Nat.le_of_ble_eq_true rfl) ⟨rfl, rfl⟩ ?_
  show Go mX6_areBrothers (Zm (QF (some (vI (bI (br R (pOf (rN R) x) (pOf (rN R) y))))) M)) M [some (vR 1 i), some (vI x), some (vI y)] [] 0
  refine go_aload_n (q := 1) dX6_areBrothers_0 rfl rfl rfl ?_
  refine go_iload_n (q := 2) dX6_areBrothers_1 rfl rfl rfl ?_
  refine go_cV1 (cal := mX6_has) (q := 5) dX6_areBrothers_2 lRX6_38 vX6_has ⟨by decide, by decide⟩ rfl hi (Nat.le_of_ble_eq_true rfl) (ok_has hi hR _) rfl ?_
  refine go_if_eqB (q := 8) (t := 50) dX6_areBrothers_5 (by decide) rfl (fun c_5 => ?_) (fun c_5 => ?_)
  · refine go_iconst (q := 51) (v := 0) dX6_areBrothers_50 (by decide) rfl ?_
    exact go_rz dX6_areBrothers_51 rfl (by rw [Option.isSome_eq_false_iff, Option.isNone_iff_eq_none] at c_5; rw [c_5]; rfl) rfl
  · obtain ⟨p, hp⟩ := Option.isSome_iff_exists.mp c_5
    obtain ⟨hlt, rfl⟩ := pOf_some hp
    refine go_aload_n (q := 9) dX6_areBrothers_8 rfl rfl rfl ?_
    refine go_iload_n (q := 10) dX6_areBrothers_9 rfl rfl rfl ?_
    refine go_cV1 (cal := mX6_has) (q := 13) dX6_areBrothers_10 lRX6_38 vX6_has ⟨by decide, by decide⟩ rfl hi (Nat.le_of_ble_eq_true rfl) (ok_has hi hR _) rfl ?_
    refine go_if_eqB (q := 16) (t := 50) dX6_areBrothers_13 (by decide) rfl (fun c_13 => ?_) (fun c_13 => ?_)
    · refine go_iconst (q := 51) (v := 0) dX6_areBrothers_50 (by decide) rfl ?_
      exact go_rz dX6_areBrothers_51 rfl (by rw [Option.isSome_eq_false_iff, Option.isNone_iff_eq_none] at c_13; rw [c_13]; cases pOf (rN R) _ <;> rfl) rfl
    · obtain ⟨p2, hp2⟩ := Option.isSome_iff_exists.mp c_13
      obtain ⟨hlt2, rfl⟩ := pOf_some hp2
      refine go_iload_n (q := 17) dX6_areBrothers_16 rfl rfl rfl ?_
      refine go_iload_n (q := 18) dX6_areBrothers_17 rfl rfl rfl ?_
      refine go_icmp_eqN p p2 (q := 21) (t := 50) dX6_areBrothers_18 (by decide) rfl rfl rfl (by have := hR.lt hlt; omega) (by have := hR.lt hlt2; omega) (fun c_18 => ?_) (fun c_18 => ?_)
      · refine go_iconst (q := 51) (v := 0) dX6_areBrothers_50 (by decide) rfl ?_
        exact go_rz dX6_areBrothers_51 rfl (by rw [hp, hp2]; simp [br, c_18, bI]) rfl
      · refine go_aload_n (q := 22) dX6_areBrothers_21 rfl rfl rfl ?_
        refine go_getf (q := 25) dX6_areBrothers_22 fRX6_19 rfl hi rfl rfl ?_
        refine go_iload_n (q := 26) dX6_areBrothers_25 rfl rfl rfl ?_
        refine go_iald (q := 27) p dX6_areBrothers_26 rfl rfl hi rfl (hR.lt hlt) rfl ?_
        refine go_topi (hR.fa hlt) ?_
        refine go_iconst (q := 28) (v := (-1)) dX6_areBrothers_27 (by decide) rfl ?_
        refine go_icmp_eq (q := 31) (t := 50) dX6_areBrothers_28 (by decide) rfl (fun c_28 => ?_) (fun c_28 => ?_)
        · refine go_iconst (q := 51) (v := 0) dX6_areBrothers_50 (by decide) rfl ?_
          exact go_rz dX6_areBrothers_51 rfl (by rw [hp, hp2]; simp [br, (e1_eq (rP_big hW hlt)).mp c_28, bI]) rfl
        · refine go_aload_n (q := 32) dX6_areBrothers_31 rfl rfl rfl ?_
          refine go_getf (q := 35) dX6_areBrothers_32 fRX6_19 rfl hi rfl rfl ?_
          refine go_iload_n (q := 36) dX6_areBrothers_35 rfl rfl rfl ?_
          refine go_iald (q := 37) p dX6_areBrothers_36 rfl rfl hi rfl (hR.lt hlt) rfl ?_
          refine go_topi (hR.fa hlt) ?_
          refine go_aload_n (q := 38) dX6_areBrothers_37 rfl rfl rfl ?_
          refine go_getf (q := 41) dX6_areBrothers_38 fRX6_19 rfl hi rfl rfl ?_
          refine go_iload_n (q := 42) dX6_areBrothers_41 rfl rfl rfl ?_
          refine go_iald (q := 43) p2 dX6_areBrothers_42 rfl rfl hi rfl (hR.lt hlt2) rfl ?_
          refine go_topi (hR.fa hlt2) ?_
          refine go_icmp_ne (q := 46) (t := 50) dX6_areBrothers_43 (by decide) rfl (fun c_43 => ?_) (fun c_43 => ?_)
          · refine go_iconst (q := 51) (v := 0) dX6_areBrothers_50 (by decide) rfl ?_
            exact go_rz dX6_areBrothers_51 rfl (by rw [hp, hp2]; have : ¬ rP R p = rP R p2 := fun z => c_43 (by rw [z]); simp [br, this, bI]) rfl
          · refine go_iconst (q := 47) (v := 1) dX6_areBrothers_46 (by decide) rfl ?_
            refine go_goto (q := 51) dX6_areBrothers_47 (by decide) ?_
            exact go_rz dX6_areBrothers_51 rfl (by rw [hp, hp2]; have h1 : ¬ rP R p = none := fun z => c_28 ((e1_eq (rP_big hW hlt)).mpr z); have h2 : rP R p = rP R p2 := e1_inj (rP_big hW hlt) (rP_big hW hlt2) (Classical.not_not.mp c_43); rw [h2] at h1; simp [br, c_18, h2, h1, bI]) rfl
/-- a living cousin of a son of f changed a mark at k -/
def cousB (R : RO) (f k : Nat) (p : Nat) : Bool := rL R p && (rK R p == some k && br R (rP R p) (some f))
def cous (R : RO) (f k : Nat) : Bool := ex (cousB R f k) (rN R)
theorem lp_cousinChanged {M : KM} {i : Nat} {R : RO} (hi : i < 8) (hR : RA M i R) (hW : rW R) {f k : Nat} (hf : f < rN R) (hk : k < 6) : ∀ (d : Nat) (j : Nat) (y : Int32), rN R - j < d → (∀ a, a < j → cousB R f k a = false) → (y = nI j) → (j ≤ rN R) → Go mX6_cousinChanged (Zm (QF (some (vI (bI (cous R f k)))) M)) M [some (vR 1 i), some (vI (nI f)), some (vI (nI k)), some (vI y)] [] 2 := by
  intro d
  induction d with
  | zero => intro j y hd; exact absurd hd (Nat.not_lt_zero _)
  | succ d ih =>
    intro j y hd h0 h1 h2
    refine go_iload_n (q := 3) dX6_cousinChanged_2 rfl rfl rfl ?_
    refine go_aload_n (q := 4) dX6_cousinChanged_3 rfl rfl rfl ?_
    refine go_getf (q := 7) dX6_cousinChanged_4 fRX6_28 rfl hi rfl rfl ?_
    refine go_topi hR.sz ?_
    refine go_icmp_geN j (rN R) (q := 10) (t := 48) dX6_cousinChanged_7 (by decide) rfl h1 rfl (by have := hR.le; omega) (by have := hR.le; omega) (fun c_7 => ?_) (fun c_7 => ?_)
    · refine go_iconst (q := 49) (v := 0) dX6_cousinChanged_48 (by decide) rfl ?_
      exact go_rz dX6_cousinChanged_49 rfl (by rw [show cous R f k = false from ex_f (fun a ha => h0 a (by omega))]; rfl) rfl
    · subst h1
      refine go_aload_n (q := 11) dX6_cousinChanged_10 rfl rfl rfl ?_
      refine go_iload_n (q := 12) dX6_cousinChanged_11 rfl rfl rfl ?_
      refine go_cV1 (cal := mX6_isAlive) (q := 15) dX6_cousinChanged_12 lRX6_42 vX6_isAlive ⟨by decide, by decide⟩ rfl hi (Nat.le_of_ble_eq_true rfl) (ok_isAlive hi hR _) rfl ?_
      refine go_if_eqB (q := 18) (t := 42) dX6_cousinChanged_15 (by decide) rfl (fun c_15 => ?_) (fun c_15 => ?_)
      · rw [pOf_at hR c_7, oL_some] at c_15
        refine go_iinc (q := 45) (v := 1) dX6_cousinChanged_42 (by decide) rfl (by decide) rfl rfl ?_
        refine go_goto (q := 2) dX6_cousinChanged_45 (by decide) ?_
        exact ih (j + 1) _ (by omega) (fun a ha => by
          by_cases hj : a = j
          · subst hj
            simp [cousB, c_15]
          · exact h0 a (by omega)) (nI_1 j) (by omega)
      · rw [pOf_at hR c_7, oL_some] at c_15
        refine go_aload_n (q := 19) dX6_cousinChanged_18 rfl rfl rfl ?_
        refine go_iload_n (q := 20) dX6_cousinChanged_19 rfl rfl rfl ?_
        refine go_cV1 (cal := mX6_birthPlaceOf) (q := 23) dX6_cousinChanged_20 lRX6_101 vX6_birthPlaceOf ⟨by decide, by decide⟩ rfl hi (Nat.le_of_ble_eq_true rfl) (ok_birthPlaceOf hi hR _) rfl ?_
        refine go_iload_n (q := 24) dX6_cousinChanged_23 rfl rfl rfl ?_
        rw [pOf_at hR c_7, oK_some]
        refine go_icmp_ne (q := 27) (t := 42) dX6_cousinChanged_24 (by decide) rfl (fun c_24 => ?_) (fun c_24 => ?_)
        · refine go_iinc (q := 45) (v := 1) dX6_cousinChanged_42 (by decide) rfl (by decide) rfl rfl ?_
          refine go_goto (q := 2) dX6_cousinChanged_45 (by decide) ?_
          exact ih (j + 1) _ (by omega) (fun a ha => by
            by_cases hj : a = j
            · subst hj
              have h : ¬ rK R a = some k := fun z => c_24 ((e1_nI (rK_big hW c_7) (by omega)).mpr z)
              simp [cousB, h]
            · exact h0 a (by omega)) (nI_1 j) (by omega)
        · refine go_aload_n (q := 28) dX6_cousinChanged_27 rfl rfl rfl ?_
          refine go_aload_n (q := 29) dX6_cousinChanged_28 rfl rfl rfl ?_
          refine go_iload_n (q := 30) dX6_cousinChanged_29 rfl rfl rfl ?_
          refine go_cV1 (cal := mX6_fatherOf) (q := 33) dX6_cousinChanged_30 lRX6_45 vX6_fatherOf ⟨by decide, by decide⟩ rfl hi (Nat.le_of_ble_eq_true rfl) (ok_fatherOf hi hR _) rfl ?_
          refine go_iload_n (q := 34) dX6_cousinChanged_33 rfl rfl rfl ?_
          rw [pOf_at hR c_7, oP_some]
          refine go_cV2 (cal := mX6_areBrothers) (q := 37) dX6_cousinChanged_34 lRX6_104 vX6_areBrothers ⟨by decide, by decide⟩ rfl hi (Nat.le_of_ble_eq_true rfl) (ok_areBrothers hi hR hW _ _) rfl ?_
          rw [pOf_e1 (rP_n hW c_7) (by have := hR.le; omega), pOf_at hR hf]
          refine go_if_eqB (q := 40) (t := 42) dX6_cousinChanged_37 (by decide) rfl (fun c_37 => ?_) (fun c_37 => ?_)
          · refine go_iinc (q := 45) (v := 1) dX6_cousinChanged_42 (by decide) rfl (by decide) rfl rfl ?_
            refine go_goto (q := 2) dX6_cousinChanged_45 (by decide) ?_
            exact ih (j + 1) _ (by omega) (fun a ha => by
              by_cases hj : a = j
              · subst hj
                simp [cousB, c_37]
              · exact h0 a (by omega)) (nI_1 j) (by omega)
          · refine go_iconst (q := 41) (v := 1) dX6_cousinChanged_40 (by decide) rfl ?_
            exact go_rz dX6_cousinChanged_41 rfl (by rw [show cous R f k = true from ex_t c_7 (by simp [cousB, c_15, c_37, (e1_nI (rK_big hW c_7) (by omega)).mp (Classical.not_not.mp c_24)])]; rfl) rfl
theorem ok_cousinChanged {M : KM} {i : Nat} {R : RO} (hi : i < 8) (hR : RA M i R) (hW : rW R) {f k : Nat} (hf : f < rN R) (hk : k < 6) : OkF mX6_cousinChanged [vR 1 i, vI (nI f), vI (nI k)] M (some (vI (bI (cous R f k)))) M := by
  refine ok_of (by decide) rfl (Nat.le_of_ble_eq_true rfl) ⟨rfl, rfl⟩ ?_
  show Go mX6_cousinChanged (Zm (QF (some (vI (bI (cous R f k)))) M)) M [some (vR 1 i), some (vI (nI f)), some (vI (nI k)), none] [] 0
  refine go_iconst (q := 1) (v := 0) dX6_cousinChanged_0 (by decide) rfl ?_
  refine go_istore_n (q := 2) dX6_cousinChanged_1 rfl (by decide) rfl rfl ?_
  exact lp_cousinChanged hi hR hW hf hk (rN R + 1) 0 _ (by omega) (fun a ha => absurd ha (Nat.not_lt_zero _)) rfl (by omega)
