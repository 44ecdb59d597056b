/-! ===== what the answers about a roll are like ===== -/
theorem sm_mono {F G : Nat → Nat} : ∀ {n : Nat}, (∀ i, i < n → F i ≤ G i) → sm F n ≤ sm G n
  | 0, _ => Nat.le_refl _
  | n + 1, h => by
    have h1 := sm_mono (n := n) (fun i hi => h i (by omega))
    have h2 := h n (by omega)
    show sm F n + F n ≤ sm G n + G n
    omega
theorem cn_surj {P Q : Nat → Bool} {g : Nat → Nat} {c N : Nat} (hg : ∀ i, g i < c) (h : ∀ m, m < c → Q m = true → ∃ i, i < N ∧ P i = true ∧ g i = m) : cn Q c ≤ cn P N := by
  rw [cn_part (P := P) hg (n := N), cn_sm]
  refine sm_mono (fun m hm => ?_)
  unfold bN
  split
  · rename_i hq
    obtain ⟨i, h1, h2, h3⟩ := h m hm hq
    exact cn_pos h1 (by simp [h2, h3])
  · exact Nat.zero_le _
theorem cn_miss {P : Nat → Bool} {N p : Nat} (hp : p < N) (h : P p = false) : cn P N + 1 ≤ N := by
  have h1 := cn_not (P := P) (n := N)
  have h2 : 0 < cn (fun i => !P i) N := cn_pos hp (by simp [h])
  omega
theorem cn_mono {P Q : Nat → Bool} : ∀ {n : Nat}, (∀ i, i < n → P i = true → Q i = true) → cn P n ≤ cn Q n
  | 0, _ => Nat.le_refl _
  | n + 1, h => by
    have h1 := cn_mono (n := n) (fun i hi => h i (by omega))
    rw [cn_s, cn_s]
    cases hp : P n with
    | false => simp; omega
    | true => rw [h n (by omega) hp]; simp; omega
theorem aP {R : RO} (hW : rW R) {p w : Nat} (hp : p < rN R) (hw : w < 12) : aPerson R (nI p) (nI w) = pers R p w := by
  unfold aPerson
  rw [pOf_nI hp (by have := hW.1; omega), pOf_nI hw (by decide)]
theorem aP0 {R : RO} (hW : rW R) {p : Nat} (hp : p < rN R) : aPerson R (nI p) 0 = nI (rS R p) := aP (w := 0) hW hp (by decide)
theorem aP1 {R : RO} (hW : rW R) {p : Nat} (hp : p < rN R) : aPerson R (nI p) 1 = bI (rL R p) := aP (w := 1) hW hp (by decide)
theorem aP2 {R : RO} (hW : rW R) {p : Nat} (hp : p < rN R) : aPerson R (nI p) 2 = e4 (rP R p) := aP (w := 2) hW hp (by decide)
theorem aP3 {R : RO} (hW : rW R) {p : Nat} (hp : p < rN R) : aPerson R (nI p) 3 = e4 (rK R p) := aP (w := 3) hW hp (by decide)
theorem aP4 {R : RO} (hW : rW R) {p : Nat} (hp : p < rN R) : aPerson R (nI p) 4 = e4 (rM R p) := aP (w := 4) hW hp (by decide)
theorem aP5 {R : RO} (hW : rW R) {p : Nat} (hp : p < rN R) : aPerson R (nI p) 5 = nI (sonsN R p) := aP (w := 5) hW hp (by decide)
theorem aP6 {R : RO} (hW : rW R) {p : Nat} (hp : p < rN R) : aPerson R (nI p) 6 = nI (cn (fun i => rL R i && rP R i == some p) (rN R)) := aP (w := 6) hW hp (by decide)
theorem aP7 {R : RO} (hW : rW R) {p : Nat} (hp : p < rN R) : aPerson R (nI p) 7 = nI (cn (fun i => rL R i && br R (some i) (some p)) (rN R)) := aP (w := 7) hW hp (by decide)
theorem aP8 {R : RO} (hW : rW R) {p : Nat} (hp : p < rN R) : aPerson R (nI p) 8 = nI (cn (fun i => rL R i && br R (rP R i) (rP R p)) (rN R)) := aP (w := 8) hW hp (by decide)
theorem aP9 {R : RO} (hW : rW R) {p : Nat} (hp : p < rN R) : aPerson R (nI p) 9 = nI (cn (fun q => decide (p < q) && anc R p q) (rN R)) := aP (w := 9) hW hp (by decide)
theorem aP10 {R : RO} (hW : rW R) {p : Nat} (hp : p < rN R) : aPerson R (nI p) 10 = nI (depth R p) := aP (w := 10) hW hp (by decide)
theorem aP11 {R : RO} (hW : rW R) {p : Nat} (hp : p < rN R) : aPerson R (nI p) 11 = e4 (pF R p) := aP (w := 11) hW hp (by decide)
theorem aN {R : RO} {pad hist w : Nat} (hw : w < 12) : aCount R pad hist (nI w) = numR R pad hist w := by
  unfold aCount
  rw [pOf_nI hw (by decide)]
theorem aN0 {R : RO} {pad hist : Nat} : aCount R pad hist 0 = nI (rN R) := aN (w := 0) (by decide)
theorem aN1 {R : RO} {pad hist : Nat} : aCount R pad hist 1 = nI (cn (rL R) (rN R)) := aN (w := 1) (by decide)
theorem aN2 {R : RO} {pad hist : Nat} : aCount R pad hist 2 = nI (cn (fun i => rP R i == none) (rN R)) := aN (w := 2) (by decide)
theorem aN3 {R : RO} {pad hist : Nat} : aCount R pad hist 3 = nI (confN R) := aN (w := 3) (by decide)
theorem aN4 {R : RO} {pad hist : Nat} : aCount R pad hist 4 = nI (mx (depth R) (rN R)) := aN (w := 4) (by decide)
theorem aN5 {R : RO} {pad hist : Nat} : aCount R pad hist 5 = nI (cn (newS R) (rN R)) := aN (w := 5) (by decide)
theorem aN6 {R : RO} {pad hist : Nat} : aCount R pad hist 6 = nI (cn (fun i => rL R i && (match pF R i with | some k => decide (1 < k) | none => false)) (rN R)) := aN (w := 6) (by decide)
theorem aN7 {R : RO} {pad hist : Nat} : aCount R pad hist 7 = nI (cn (fun i => rL R i && sonsN R i == 0) (rN R)) := aN (w := 7) (by decide)
theorem aN8 {R : RO} {pad hist : Nat} : aCount R pad hist 8 = nI (rH R) := aN (w := 8) (by decide)
theorem aN9 {R : RO} {pad hist : Nat} : aCount R pad hist 9 = nI (rF R) := aN (w := 9) (by decide)
theorem aN10 {R : RO} {pad hist : Nat} : aCount R pad hist 10 = nI pad := aN (w := 10) (by decide)
theorem aN11 {R : RO} {pad hist : Nat} : aCount R pad hist 11 = nI hist := aN (w := 11) (by decide)
theorem aKn {R : RO} (hW : rW R) {p q : Nat} (hp : p < rN R) (hq : q < rN R) : aKin R (nI p) (nI q) = e4 (kinR R p q) := by
  unfold aKin
  rw [pOf_nI hp (by have := hW.1; omega), pOf_nI hq (by have := hW.1; omega)]
theorem aDf {R : RO} (hW : rW R) {p q : Nat} (hp : p < rN R) (hq : q < rN R) : aDiffers R (nI p) (nI q) = nI (ap (rS R p) (rS R q)) := by
  unfold aDiffers
  rw [pOf_nI hp (by have := hW.1; omega), pOf_nI hq (by have := hW.1; omega)]
theorem aBr {R : RO} {s : Nat} (hs : s < 15625) : aBearer R (nI s) = e4 (bear R s) := by
  unfold aBearer
  rw [pOf_nI hs (by decide)]
theorem aBo {R : RO} {k m : Nat} (hk : k < 6) (hm : m < 5) : aBorne R (nI k) (nI m) = nI (cn (fun i => rL R i && mk (rS R i) k == m) (rN R)) := by
  unfold aBorne
  rw [pOf_nI hk (by decide), pOf_nI hm (by decide)]
theorem aMk {R : RO} (hW : rW R) {p k : Nat} (hp : p < rN R) (hk : k < 6) : aMark R (nI p) (nI k) = nI (mk (rS R p) k) := by
  unfold aMark
  rw [pOf_nI hp (by have := hW.1; omega), pOf_nI hk (by decide)]
theorem aWn {R : RO} (hW : rW R) {f k m : Nat} (hf : f < rN R) (hk : k < 6) (hm : m < 5) : aWhyNot R (nI f) (nI k) (nI m) = nI (whyS R f k m) := by
  unfold aWhyNot
  rw [pOf_nI hf (by have := hW.1; omega), pOf_nI hk (by decide), pOf_nI hm (by decide)]
theorem aCh {R : RO} (hW : rW R) {f : Nat} (hf : f < rN R) : aChoices R (nI f) 1 = nI (left1 R f) := by
  unfold aChoices
  rw [pOf_nI hf (by have := hW.1; omega), show pOf 2 (1 : Int32) = some 1 from pOf_nI (n := 2) (p := 1) (by decide) (by decide)]
theorem e4_nI {o : Option Nat} {f : Nat} (h : ∀ k, o = some k → k < 2 ^ 31) (hf : f < 2 ^ 31) : e4 o = nI f ↔ o = some f := by
  cases o with
  | none => exact ⟨fun z => absurd z.symm (nI_neg hf (by decide)), fun z => by cases z⟩
  | some k => exact ⟨fun z => by rw [(nI_eq (h k rfl) hf).mp z], fun z => by cases z; rfl⟩
theorem e4_neg {o : Option Nat} (h : ∀ k, o = some k → k < 2 ^ 31) : e4 o < 0 ↔ o = none := by
  cases o with
  | none => exact ⟨fun _ => rfl, fun _ => (by decide : (-4 : Int32) < 0)⟩
  | some k => exact ⟨fun z => absurd z (nI_pos (h k rfl)), fun z => by cases z⟩
theorem e4_lt {o : Option Nat} {k : Nat} (h : ∀ g, o = some g → g < k) (hk : k < 2 ^ 31) : e4 o < nI k := by
  cases o with
  | none =>
    rw [i32_lt, nI_toInt hk]
    have : (e4 none).toInt = -4 := by decide
    omega
  | some g => exact nI_lt (h g rfl) hk
/-- who bears a person's shield -/
theorem q_bear {R : RO} (hW : rW R) {p : Nat} (hp : p < rN R) (hl : rL R p = true) : bear R (rS R p) = some p := by
  unfold bear
  rw [fst1_some]
  refine ⟨hp, by simp [hl], fun i hi => ?_⟩
  cases h : (rL R i && rS R i == rS R p) with
  | false => rfl
  | true =>
    have h2 : rL R i = true ∧ rS R i = rS R p := by simpa using h
    have := hW.2.2.2.2 i p (by omega) hp h2.1 hl h2.2
    omega
theorem q_bearD {R : RO} {s p : Nat} (hl : rL R p = false) : ¬ bear R s = some p := fun h => by
  rw [(bear_some h).2.1] at hl
  cases hl
theorem bear_lt {R : RO} {s p : Nat} (h : bear R s = some p) : p < rN R := (bear_some h).1
theorem q_sonsL (R : RO) (p : Nat) : cn (fun i => rL R i && rP R i == some p) (rN R) ≤ sonsN R p := cn_mono (fun i hi h => by
  have : rL R i = true ∧ rP R i = some p := by simpa using h
  simp [this.2])
theorem q_desc {R : RO} (hW : rW R) (p : Nat) : sonsN R p ≤ cn (fun q => decide (p < q) && anc R p q) (rN R) := cn_mono (fun i hi h => by
  have h1 : rP R i = some p := by simpa using h
  have h2 := rP_lt hW hi p h1
  rw [anc_some hW hi h1]
  simp [h2])
theorem cn_add1 {P Q : Nat → Bool} {k : Nat} (hP : P k = false) (hQ : Q k = true) : ∀ {n : Nat}, k < n → (∀ i, i < n → P i = true → Q i = true) → cn P n + 1 ≤ cn Q n
  | 0, h, _ => absurd h (Nat.not_lt_zero _)
  | n + 1, h, hs => by
    rw [cn_s, cn_s]
    by_cases e : k = n
    · subst e
      have := cn_mono (P := P) (Q := Q) (n := k) (fun i hi => hs i (by omega))
      rw [hP, hQ]
      simp
      omega
    · have h1 := cn_add1 hP hQ (n := n) (by omega) (fun i hi => hs i (by omega))
      cases hp : P n with
      | false => simp; omega
      | true => rw [hs n (by omega) hp]; simp; omega
theorem br_none {R : RO} {a : Option Nat} {p : Nat} (h : rP R p = none) : br R a (some p) = false := by
  cases a with
  | none => rfl
  | some i => simp only [br, h]; cases hq : rP R i <;> simp
theorem br_some {R : RO} {i p f : Nat} (h : rP R p = some f) : br R (some i) (some p) = (i != p && rP R i == some f) := by
  simp only [br, h]
  cases hq : rP R i with
  | none => simp
  | some v =>
    rw [show ((some v : Option Nat) != none) = true from rfl]
    simp
theorem br_n2 {R : RO} {a : Option Nat} : br R a none = false := by cases a <;> rfl
theorem q_bro0 {R : RO} {p : Nat} (h : rP R p = none) : cn (fun i => rL R i && br R (some i) (some p)) (rN R) = 0 := cn_0 (fun i _ => by rw [br_none h]; simp)
theorem q_cou0 {R : RO} {p : Nat} (h : rP R p = none) : cn (fun i => rL R i && br R (rP R i) (rP R p)) (rN R) = 0 := cn_0 (fun i _ => by rw [h, br_n2]; simp)
theorem q_bro {R : RO} (hW : rW R) {p : Nat} (hp : p < rN R) : cn (fun i => rL R i && br R (some i) (some p)) (rN R) ≤ 3 := by
  cases h : rP R p with
  | none => rw [q_bro0 h]; exact Nat.zero_le _
  | some f =>
    have h1 : cn (fun i => rL R i && br R (some i) (some p)) (rN R) + 1 ≤ sonsN R f := by
      refine cn_add1 (k := p) ?_ ?_ hp (fun i hi h2 => ?_)
      · show (rL R p && br R (some p) (some p)) = false
        rw [br_some h]; simp
      · show (rP R p == some f) = true
        simp [h]
      · have h3 : rL R i = true ∧ br R (some i) (some p) = true := by simpa using h2
        have h4 := h3.2
        rw [br_some h] at h4
        have h5 : (i != p) = true ∧ (rP R i == some f) = true := by simpa [Bool.and_eq_true] using h4
        exact h5.2
    have := sonsN_le hW f
    omega
theorem q_kin1 {R : RO} (hW : rW R) {p f : Nat} (hp : p < rN R) (h : rP R p = some f) : kinR R p f = some 1 := by
  have hf := rP_lt hW hp f h
  rw [kin_gt hW hp (by omega) hf, h]
  show (kinR R f f).map _ = _
  rw [kin_self]; rfl
theorem rB_none {R : RO} {p : Nat} (h : rP R p = none) : rB R p = none := by
  unfold rP at h
  cases hb : rB R p with
  | none => rfl
  | some b => rw [hb] at h; cases h
theorem rK_none {R : RO} {p : Nat} (h : rP R p = none) : rK R p = none := by unfold rK; rw [rB_none h]; rfl
theorem rM_none {R : RO} {p : Nat} (h : rP R p = none) : rM R p = none := by unfold rM; rw [rB_none h]; rfl
theorem rP_some {R : RO} (hW : rW R) {p f : Nat} (hp : p < rN R) (h : rP R p = some f) : ∃ k m, rK R p = some k ∧ k < 6 ∧ rM R p = some m ∧ m < 5 ∧ rB R p = some (f, k, m) := by
  unfold rP at h
  cases hb : rB R p with
  | none => rw [hb] at h; cases h
  | some b =>
    obtain ⟨g, k, m⟩ := b
    rw [hb] at h
    have hg : g = f := by simpa using h
    subst hg
    have := hW.2.2.1 p g k m hp hb
    exact ⟨k, m, by unfold rK; rw [hb]; rfl, this.2.1, by unfold rM; rw [hb]; rfl, this.2.2, rfl⟩
theorem pF_none {R : RO} {p : Nat} (h : rP R p = none) : pF R p = none := by unfold pF; rw [h]; rfl
theorem pF_some {R : RO} {p f : Nat} (h : rP R p = some f) : pF R p = some (ap (rS R p) (rS R f)) := by unfold pF; rw [h]; rfl
/-- founders and sons, told together -/
theorem q_sons {R : RO} (hW : rW R) : sm (sonsN R) (rN R) + cn (fun i => rP R i == none) (rN R) = rN R := by
  by_cases h0 : rN R = 0
  · rw [h0]; rfl
  · have h1 := cn_part (P := fun i => (rP R i).isSome) (g := fun i => match rP R i with | some f => if f < rN R then f else 0 | none => 0) (c := rN R) (n := rN R) (fun i => by
      show (match rP R i with | some f => if f < rN R then f else 0 | none => 0) < rN R
      split
      · split
        · assumption
        · omega
      · omega)
    have h2 : sm (fun m => cn (fun i => (rP R i).isSome && (match rP R i with | some f => if f < rN R then f else 0 | none => 0) == m) (rN R)) (rN R) = sm (sonsN R) (rN R) := sm_congr (fun m hm => cn_congr (fun i hi => by
      cases h : rP R i with
      | none => simp
      | some f =>
        have := rP_n hW hi f h
        simp [this]))
    have h3 := cn_not (P := fun i => (rP R i).isSome) (n := rN R)
    have h4 : cn (fun i => !(rP R i).isSome) (rN R) = cn (fun i => rP R i == none) (rN R) := cn_congr (fun i _ => by cases rP R i <;> rfl)
    omega
theorem q_borne (R : RO) : sm (fun m => cn (fun i => rL R i && mk (rS R i) 3 == m) (rN R)) 5 = cn (rL R) (rN R) := (cn_part (P := rL R) (g := fun i => mk (rS R i) 3) (c := 5) (fun i => mk_lt _ _)).symm
theorem q_new {R : RO} (hW : rW R) : cn (rL R) (rN R) ≤ cn (newS R) (rN R) := by
  by_cases h0 : rN R = 0
  · rw [h0]; exact Nat.le_refl _
  · refine cn_surj (g := fun i => (bear R (rS R i)).getD 0) (fun i => ?_) (fun m hm hl => ?_)
    · show (bear R (rS R i)).getD 0 < rN R
      cases h : bear R (rS R i) with
      | none => show 0 < _; omega
      | some p => exact bear_lt h
    · cases hf : fst1 (fun j => rS R j == rS R m) (m + 1) with
      | none =>
        have := fst1_none.mp hf m (by omega)
        simp at this
      | some i =>
        obtain ⟨h1, h2, h3⟩ := fst1_some.mp hf
        have h2' : rS R i = rS R m := by simpa using h2
        refine ⟨i, by omega, ?_, ?_⟩
        · unfold newS
          rw [ex_f (fun j hj => by rw [h2']; exact h3 j hj)]
          rfl
        · show (bear R (rS R i)).getD 0 = m
          rw [h2', q_bear hW hm hl]; rfl
theorem q_far (R : RO) : cn (fun i => rL R i && (match pF R i with | some k => decide (1 < k) | none => false)) (rN R) ≤ cn (rL R) (rN R) := cn_mono (fun i _ h => by
  have : rL R i = true ∧ _ := Bool.and_eq_true _ _ ▸ h
  exact this.1)
theorem q_depth {R : RO} (hW : rW R) (h0 : ¬ rN R = 0) : mx (depth R) (rN R) < rN R := by
  have : mx (depth R) (rN R) ≤ rN R - 1 := mx_le (fun i hi => by
    have := depth_le hW (i + 1) i (by omega) hi
    omega)
  omega
/-- who has taken up a dead father's shield -/
def hD (R : RO) (p : Nat) : Bool := match rP R p with
  | some f => !rL R f && rS R p == rS R f
  | none => false
def rI (R : RO) : Prop := rH R ≤ cn (hD R) (rN R)
theorem q_heirs {R : RO} (h : rI R) : rH R + cn (fun i => rP R i == none) (rN R) ≤ rN R := by
  have h1 : cn (hD R) (rN R) ≤ cn (fun i => !(rP R i == none)) (rN R) := cn_mono (fun i _ h => by
    unfold hD at h
    cases hp : rP R i with
    | none => rw [hp] at h; cases h
    | some f => rfl)
  have h2 := cn_not (P := fun i => rP R i == none) (n := rN R)
  unfold rI at h
  omega
