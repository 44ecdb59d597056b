/-! ===== the model: fewest, line ===== -/
/-- a walk of n steps, free behind its first shield -/
def Wd (R : RO) (fr : Nat) : Nat → Nat → Prop
  | 0, v => v = fr
  | n + 1, v => ∃ u c, Wd R fr n u ∧ c < 30 ∧ v = wm u (c / 5) (c % 5) ∧ bear R v = none
def LW (R : RO) (fr to : Nat) : Option Nat → Prop
  | some m => Wd R fr m to ∧ ∀ m', m' < m → ¬ Wd R fr m' to
  | none => ∀ m, ¬ Wd R fr m to
theorem inj_le : ∀ (n m : Nat) (f : Nat → Nat), (∀ i, i < m → f i < n) → (∀ i j, i < m → j < m → f i = f j → i = j) → m ≤ n := by
  intro n
  induction n with
  | zero => intro m f h _; cases m with
    | zero => exact Nat.le_refl _
    | succ m => exact absurd (h 0 (by omega)) (Nat.not_lt_zero _)
  | succ n ih =>
    intro m f h hi
    cases m with
    | zero => exact Nat.zero_le _
    | succ m =>
      have h1 : m ≤ n := by
        by_cases e : f m = n
        · refine ih m f (fun i hm => ?_) (fun i j a b => hi i j (by omega) (by omega))
          have h2 := h i (by omega)
          by_cases e2 : f i = n
          · have := hi i m (by omega) (by omega) (e2.trans e.symm); omega
          · omega
        · have hm := h m (by omega)
          refine ih m (fun i => if f i = n then f m else f i) (fun i hm2 => ?_) (fun i j a b hij => ?_)
          · show (if f i = n then f m else f i) < n
            have h2 := h i (by omega)
            split <;> omega
          · have hij : (if f i = n then f m else f i) = (if f j = n then f m else f j) := hij
            by_cases e1 : f i = n
            · by_cases e2 : f j = n
              · exact hi i j (by omega) (by omega) (e1.trans e2.symm)
              · rw [if_pos e1, if_neg e2] at hij
                have := hi m j (by omega) (by omega) hij; omega
            · by_cases e2 : f j = n
              · rw [if_neg e1, if_pos e2] at hij
                have := hi i m (by omega) (by omega) hij; omega
              · rw [if_neg e1, if_neg e2] at hij
                exact hi i j (by omega) (by omega) hij
      omega
/-- the search's state: so many reached, k of them gone over, and c changes of the next -/
def BI (R : RO) (fr : Nat) (S Q : Nat → Int32) (many k c : Nat) (q D : Nat → Nat) : Prop :=
  (∀ i, i < many → q i < 15625 ∧ Q i = nI (q i) ∧ S (q i) = nI (D i)) ∧
  (∀ i j, i < many → j < many → q i = q j → i = j) ∧
  (∀ v, v < 15625 → (∀ i, i < many → q i ≠ v) → S v = if bear R v = none then -1 else -2) ∧
  (q 0 = fr ∧ D 0 = 0 ∧ 1 ≤ many ∧ many ≤ 15625 ∧ k ≤ many) ∧
  (∀ i, i < many → Wd R fr (D i) (q i) ∧ ∀ m, m < D i → ¬ Wd R fr m (q i)) ∧
  (∀ i j, i ≤ j → j < many → D i ≤ D j) ∧
  (k < many → ∀ i, i < many → D i ≤ D k + 1) ∧
  (∀ i, i < many → ∀ c', c' < 30 → (i < k ∨ i = k ∧ c' < c) → bear R (wm (q i) (c' / 5) (c' % 5)) = none → ∃ j, j < many ∧ q j = wm (q i) (c' / 5) (c' % 5) ∧ D j ≤ D i + 1) ∧
  (∀ i, i < many → D i ≤ i)
theorem BI_all {R : RO} {fr many k c : Nat} {S Q : Nat → Int32} {q D : Nat → Nat} (h : BI R fr S Q many k c q D) : ∀ (m v : Nat), Wd R fr m v → (k < many → m ≤ D k) → ∃ j, j < many ∧ q j = v ∧ D j ≤ m := by
  obtain ⟨h1, h2, h3, ⟨h4, h5, h6, h7, h8⟩, h9, h10, h11, h12, h13⟩ := h
  intro m
  induction m with
  | zero => intro v hv _; exact ⟨0, by omega, h4.trans hv.symm, by omega⟩
  | succ m ih =>
    intro v hv hm
    obtain ⟨u, c', hu, hc, rfl, hb⟩ := hv
    obtain ⟨j, hj, rfl, hd⟩ := ih u hu (fun z => by have := hm z; omega)
    have hjk : j < k := by
      by_cases e : k < many
      · by_cases e2 : j < k
        · exact e2
        · have := h10 k j (by omega) hj
          have := hm e
          omega
      · omega
    obtain ⟨j2, a1, a2, a3⟩ := h12 j hj c' hc (Or.inl hjk) hb
    exact ⟨j2, a1, a2, by omega⟩
theorem BI_k {R : RO} {fr many k : Nat} {S Q : Nat → Int32} {q D : Nat → Nat} (h : BI R fr S Q many k 30 q D) (hk : k < many) : BI R fr S Q many (k + 1) 0 q D := by
  obtain ⟨h1, h2, h3, ⟨h4, h5, h6, h7, h8⟩, h9, h10, h11, h12, h13⟩ := h
  refine ⟨h1, h2, h3, ⟨h4, h5, h6, h7, hk⟩, h9, h10, fun hk2 i hi => ?_, fun i hi c' hc hx => h12 i hi c' hc ?_, h13⟩
  · have := h11 hk i hi
    have := h10 k (k + 1) (by omega) hk2
    omega
  · rcases hx with hx | hx
    · by_cases e : i = k
      · exact Or.inr ⟨e, hc⟩
      · exact Or.inl (by omega)
    · omega
theorem BI_in {R : RO} {fr many k c : Nat} {S Q : Nat → Int32} {q D : Nat → Nat} (h : BI R fr S Q many k c q D) {v : Nat} (hv : v < 15625) (hs : ¬ S v = -1) (hb : bear R v = none) : ∃ j, j < many ∧ q j = v := by
  apply Classical.byContradiction
  intro z
  have := h.2.2.1 v hv (fun i hi e => z ⟨i, hi, e⟩)
  rw [if_pos hb] at this
  exact hs this
/-- a change that leads to nothing new -/
theorem BI_old {R : RO} {fr many k c : Nat} {S Q : Nat → Int32} {q D : Nat → Nat} (h : BI R fr S Q many k c q D) (hk : k < many) (hw : wm (q k) (c / 5) (c % 5) < 15625) (hs : ¬ S (wm (q k) (c / 5) (c % 5)) = -1) : BI R fr S Q many k (c + 1) q D := by
  have hin := fun hb => BI_in h hw hs hb
  obtain ⟨h1, h2, h3, h4, h9, h10, h11, h12, h13⟩ := h
  refine ⟨h1, h2, h3, h4, h9, h10, h11, fun i hi c' hc hx hb => ?_, h13⟩
  rcases hx with hx | ⟨rfl, hx⟩
  · exact h12 i hi c' hc (Or.inl hx) hb
  · by_cases e : c' = c
    · subst e
      obtain ⟨j, hj, hq⟩ := hin hb
      exact ⟨j, hj, hq, h11 hi j hj⟩
    · exact h12 i hi c' hc (Or.inr ⟨rfl, by omega⟩) hb
/-- a change that leads to something new -/
theorem BI_new {R : RO} {fr many k c : Nat} {S Q : Nat → Int32} {q D : Nat → Nat} (h : BI R fr S Q many k c q D) (hk : k < many) (hc30 : c < 30) {w : Nat} (ew : w = wm (q k) (c / 5) (c % 5)) (hw : w < 15625) (hs : S w = -1) : many < 15625 ∧ BI R fr (fun x => if x = w then nI (D k + 1) else S x) (fun x => if x = many then nI w else Q x) (many + 1) k (c + 1) (fun i => if i = many then w else q i) (fun i => if i = many then D k + 1 else D i) := by
  have hall := BI_all h
  obtain ⟨h1, h2, h3, ⟨h4, h5, h6, h7, h8⟩, h9, h10, h11, h12, h13⟩ := h
  have hnew : ∀ i, i < many → q i ≠ w := fun i hi e => by
    have := (h1 i hi).2.2
    rw [e, hs] at this
    have hd := h13 i hi
    exact nI_neg (show D i < 2 ^ 31 by omega) (by decide) this.symm
  have hfree : bear R w = none := by
    have := h3 w hw hnew
    rw [hs] at this
    by_cases e : bear R w = none
    · exact e
    · rw [if_neg e] at this; exact absurd this (by decide)
  have hmany : many + 1 ≤ 15625 := by
    refine inj_le 15625 (many + 1) (fun i => if i = many then w else q i) (fun i hi => ?_) (fun i j hi hj hij => ?_)
    · show (if i = many then w else q i) < 15625
      split
      · exact hw
      · exact (h1 i (by omega)).1
    · have hij : (if i = many then w else q i) = (if j = many then w else q j) := hij
      by_cases e1 : i = many
      · by_cases e2 : j = many
        · omega
        · rw [if_pos e1, if_neg e2] at hij; exact absurd hij.symm (hnew j (by omega))
      · by_cases e2 : j = many
        · rw [if_neg e1, if_pos e2] at hij; exact absurd hij (hnew i (by omega))
        · rw [if_neg e1, if_neg e2] at hij; exact h2 i j (by omega) (by omega) hij
  have kk : ¬ k = many := by omega
  refine ⟨hmany, fun i hi => ?_, fun i j hi hj hij => ?_, fun v hv hx => ?_, ⟨?_, ?_, by omega, hmany, by omega⟩, fun i hi => ?_, fun i j hij hj => ?_, fun _ i hi => ?_, fun i hi c' hc hx hb => ?_, fun i hi => ?_⟩
  · show (if i = many then w else q i) < 15625 ∧ (if i = many then nI w else Q i) = nI (if i = many then w else q i) ∧ (if (if i = many then w else q i) = w then nI (D k + 1) else S (if i = many then w else q i)) = nI (if i = many then D k + 1 else D i)
    by_cases e : i = many
    · exact ⟨by rw [if_pos e]; exact hw, by rw [if_pos e, if_pos e], by rw [if_pos e, if_pos rfl, if_pos e]⟩
    · simp only [if_neg e, if_neg (hnew i (by omega))]; exact h1 i (by omega)
  · have hij : (if i = many then w else q i) = (if j = many then w else q j) := hij
    by_cases e1 : i = many
    · by_cases e2 : j = many
      · omega
      · rw [if_pos e1, if_neg e2] at hij; exact absurd hij.symm (hnew j (by omega))
    · by_cases e2 : j = many
      · rw [if_neg e1, if_pos e2] at hij; exact absurd hij (hnew i (by omega))
      · rw [if_neg e1, if_neg e2] at hij; exact h2 i j (by omega) (by omega) hij
  · have hvw : ¬ v = w := fun e => hx many (by omega) (by show (if many = many then w else q many) = v; rw [if_pos rfl, e])
    show (if v = w then _ else S v) = _
    rw [if_neg hvw]
    exact h3 v hv (fun i hi e => hx i (by omega) (by show (if i = many then w else q i) = v; rw [if_neg (by omega)]; exact e))
  · show (if 0 = many then w else q 0) = fr
    rw [if_neg (by omega)]; exact h4
  · show (if 0 = many then D k + 1 else D 0) = 0
    rw [if_neg (by omega)]; exact h5
  · show Wd R fr (if i = many then D k + 1 else D i) (if i = many then w else q i) ∧ ∀ m, m < (if i = many then D k + 1 else D i) → ¬ Wd R fr m (if i = many then w else q i)
    by_cases e : i = many
    · simp only [if_pos e]
      refine ⟨⟨q k, c, (h9 k hk).1, hc30, ew, hfree⟩, fun m hm hwd => ?_⟩
      obtain ⟨j, hj, hq, -⟩ := hall m w hwd (fun _ => by omega)
      exact hnew j hj hq
    · simp only [if_neg e]; exact h9 i (by omega)
  · show (if i = many then D k + 1 else D i) ≤ (if j = many then D k + 1 else D j)
    by_cases e2 : j = many
    · rw [if_pos e2]
      by_cases e1 : i = many
      · rw [if_pos e1]; exact Nat.le_refl _
      · rw [if_neg e1]; exact h11 hk i (by omega)
    · rw [if_neg e2, if_neg (by omega)]; exact h10 i j hij (by omega)
  · show (if i = many then D k + 1 else D i) ≤ (if k = many then D k + 1 else D k) + 1
    rw [if_neg kk]
    split
    · exact Nat.le_refl _
    · exact h11 hk i (by omega)
  · have hin : i < many := by
      rcases hx with hx | hx <;> omega
    have ei : ¬ i = many := by omega
    simp only [if_neg ei] at hb ⊢
    have old : (∃ j, j < many ∧ q j = wm (q i) (c' / 5) (c' % 5) ∧ D j ≤ D i + 1) → ∃ j, j < many + 1 ∧ (if j = many then w else q j) = wm (q i) (c' / 5) (c' % 5) ∧ (if j = many then D k + 1 else D j) ≤ D i + 1 := fun ⟨j, a1, a2, a3⟩ => ⟨j, by omega, by rw [if_neg (by omega)]; exact a2, by rw [if_neg (by omega)]; exact a3⟩
    rcases hx with hx | ⟨rfl, hx⟩
    · exact old (h12 i hin c' hc (Or.inl hx) hb)
    · by_cases e : c' = c
      · subst e
        exact ⟨many, by omega, by rw [if_pos rfl]; exact ew, by rw [if_pos rfl]; exact Nat.le_refl _⟩
      · exact old (h12 i hin c' hc (Or.inr ⟨rfl, by omega⟩) hb)
  · show (if i = many then D k + 1 else D i) ≤ i
    split
    · have := h13 k hk; omega
    · exact h13 i (by omega)
/-- what the search answers -/
theorem BI_end {R : RO} {fr many k : Nat} {S Q : Nat → Int32} {q D : Nat → Nat} (h : BI R fr S Q many k 0 q D) {to : Nat} (hto : to < 15625) (hx : k = many ∨ ¬ S to = -1) : ∃ o : Option Nat, LW R fr to o ∧ (o = none → S to = -1 ∨ S to = -2) ∧ ∀ m, o = some m → S to = nI m ∧ m < 15625 := by
  have hall := BI_all h
  obtain ⟨h1, h2, h3, ⟨h4, h5, h6, h7, h8⟩, h9, h10, h11, h12, h13⟩ := h
  by_cases e : ∃ j, j < many ∧ q j = to
  · obtain ⟨j, hj, rfl⟩ := e
    refine ⟨some (D j), h9 j hj, fun z => (by cases z), fun m hm => ?_⟩
    cases hm
    exact ⟨(h1 j hj).2.2, by have := h13 j hj; omega⟩
  · have hn := h3 to hto (fun i hi z => e ⟨i, hi, z⟩)
    refine ⟨none, fun m hm => ?_, fun _ => ?_, fun m z => by cases z⟩
    · by_cases hb : bear R to = none
      · rw [if_pos hb] at hn
        rcases hx with rfl | hx
        · obtain ⟨j, hj, hq, -⟩ := hall m to hm (fun z => absurd z (Nat.lt_irrefl _))
          exact e ⟨j, hj, hq⟩
        · exact hx hn
      · cases m with
        | zero => exact e ⟨0, by omega, h4.trans hm.symm⟩
        | succ m => obtain ⟨u, c, -, -, -, hb2⟩ := hm; exact hb hb2
    · by_cases hb : bear R to = none
      · rw [if_pos hb] at hn; exact Or.inl hn
      · rw [if_neg hb] at hn; exact Or.inr hn
def kB (M M' : KM) : Prop := M'.2 = M.2 ∧ ∀ k b, k ≠ 20 → k ≠ 21 → M'.1 k b = M.1 k b
theorem kB.rf {M : KM} : kB M M := ⟨rfl, fun _ _ _ _ => rfl⟩
theorem kB.si {M M' : KM} {k j : Nat} {v : Int32} (h : kB M M') (hk : k = 20 ∨ k = 21) : kB M (k_si M' k 0 j v) := ⟨h.1, fun a b h1 h2 => (k_si_ne _ _ (fun z => by omega)).trans (h.2 a b h1 h2)⟩
theorem kB.z {M M' : KM} {R : RO} (h : kB M M') (hZ : ZA M R) : ZA M' R := by
  unfold ZA; rw [h.2 15 0 (by decide) (by decide)]; exact hZ
theorem sq (M : KM) (k j x : Nat) (v : Int32) : (k_si M k 0 j v).1 k 0 x = if x = j then v else M.1 k 0 x := by
  show (if k = k ∧ x = j ∧ 0 = 0 then v else M.1 k 0 x) = _
  by_cases h : x = j <;> simp [h]
def KFW (M : KM) (R : RO) (fr to : Nat) : Option KV → KM → Prop := fun r M' => ∃ o : Option Nat, r = some (vI (e4 o)) ∧ LW R fr to o ∧ kB M M'
abbrev exB (R : RO) (j v : Nat) : Bool := ex (fun p => rL R p && rS R p == v) j
theorem exB_n {R : RO} {v : Nat} : exB R (rN R) v = true ↔ ¬ bear R v = none := by
  rw [ex_iff]
  constructor
  · rintro ⟨i, h1, h2⟩ z
    have := fst1_none.mp z i h1
    rw [h2] at this; cases this
  · intro h
    cases hb : bear R v with
    | none => exact absurd hb h
    | some p =>
      obtain ⟨a1, a2, -⟩ := fst1_some.mp hb
      exact ⟨p, a1, a2⟩
theorem lp_mfewIn {M : KM} {R : RO} (hZ : ZA M R) (hW : rW R) {fr to : Nat} (hfr : fr < 15625) (hto : to < 15625) {k : Nat} (hout : ∀ (M2 : KM) (many : Nat) (q D : Nat → Nat), kB M M2 → BI R fr (M2.1 20 0) (M2.1 21 0) many (k + 1) 0 q D → Go mX10_fewest (Zm (KFW M R fr to)) M2 [some (vR 14 0), some (vI (nI fr)), some (vI (nI to)), some (vI (nI many)), some (vI (nI (k + 1))), none, none] [] 94) : ∀ (d : Nat) (M1 : KM) (many c : Nat) (q D : Nat → Nat), 30 - c < d → (kB M M1) → (BI R fr (M1.1 20 0) (M1.1 21 0) many k c q D) → (c ≤ 30) → (k < many) → Go mX10_fewest (Zm (KFW M R fr to)) M1 [some (vR 14 0), some (vI (nI fr)), some (vI (nI to)), some (vI (nI many)), some (vI (nI k)), some (vI (nI c)), none] [] 113 := by
  intro d
  induction d with
  | zero => intro M1 many c q D hd; exact absurd hd (Nat.not_lt_zero _)
  | succ d ih =>
    intro M1 many c q D hd h0 h1 h2 h3
    refine go_iload (q := 115) dX10_fewest_113 rfl rfl ?_
    refine go_bipush (q := 117) (v := 30) dX10_fewest_115 (by decide) rfl ?_
    refine go_icmp_geN c 30 (q := 120) (t := 189) dX10_fewest_117 (by decide) rfl rfl rfl (by omega) (by omega) (fun c_117 => ?_) (fun c_117 => ?_)
    · refine go_iinc (q := 192) (v := 1) dX10_fewest_189 (by decide) rfl (by decide) rfl rfl ?_
      refine go_goto (q := 94) dX10_fewest_192 (by decide) ?_
      refine go_weak (l1 := [some (vR 14 0), some (vI _), some (vI _), some (vI _), some (vI (nI (k + 1))), none, none]) (by rw [← nI_1 k]; exact k_le_s (k_le_s (k_le_s (k_le_s (k_le_s (k_le_n (k_le_n k_le_nil))))))) ?_
      exact hout M1 many q D h0 (BI_k (by rw [show (30 : Nat) = c by omega]; exact h1) h3)
    · have hwl : (wm (q k) (c / 5) (c % 5)) < 15625 := wm_lt (h1.1 k h3).1 (by omega) (by omega)
      refine go_aload_n (q := 121) dX10_fewest_120 rfl rfl rfl ?_
      refine go_getf (q := 124) dX10_fewest_121 fRX10_38 rfl (by decide) rfl rfl ?_
      refine go_iload (q := 126) dX10_fewest_124 rfl rfl ?_
      refine go_iald (q := 127) k dX10_fewest_126 rfl rfl (by decide) rfl (by have := h1.2.2.2.1; omega) rfl ?_
      refine go_topi (h1.1 k h3).2.1 ?_
      refine go_iload (q := 129) dX10_fewest_127 rfl rfl ?_
      refine go_iconst (q := 130) (v := 5) dX10_fewest_129 (by decide) rfl ?_
      refine go_idiv (q := 131) dX10_fewest_130 (by decide) rfl ?_
      refine go_topi (v := nI (c / 5)) (nI_div5 (by omega)) ?_
      refine go_iload (q := 133) dX10_fewest_131 rfl rfl ?_
      refine go_iconst (q := 134) (v := 5) dX10_fewest_133 (by decide) rfl ?_
      refine go_irem (q := 135) dX10_fewest_134 (by decide) rfl ?_
      refine go_topi (v := nI (c % 5)) (nI_rem5 (by omega)) ?_
      refine go_cS3 (cal := mX10_with) (q := 138) dX10_fewest_135 lRX10_105 vX10_with ⟨by decide, by decide⟩ (Nat.le_of_ble_eq_true rfl) (ok_mwith (by have := (h1.1 k h3).1; omega) (by omega)) rfl ?_
      refine go_istore (q := 140) dX10_fewest_138 (by decide) rfl rfl ?_
      refine go_aload_n (q := 141) dX10_fewest_140 rfl rfl rfl ?_
      refine go_getf (q := 144) dX10_fewest_141 fRX10_35 rfl (by decide) rfl rfl ?_
      refine go_iload (q := 146) dX10_fewest_144 rfl rfl ?_
      refine go_iald (q := 147) (wm (q k) (c / 5) (c % 5)) dX10_fewest_146 rfl rfl (by decide) rfl hwl rfl ?_
      refine go_iconst (q := 148) (v := (-1)) dX10_fewest_147 (by decide) rfl ?_
      refine go_icmp_ne (q := 151) (t := 183) dX10_fewest_148 (by decide) rfl (fun c_148 => ?_) (fun c_148 => ?_)
      · refine go_iinc (q := 186) (v := 1) dX10_fewest_183 (by decide) rfl (by decide) rfl rfl ?_
        refine go_goto (q := 113) dX10_fewest_186 (by decide) ?_
        refine go_weak (l1 := [some (vR 14 0), some (vI _), some (vI _), some (vI _), some (vI _), some (vI _), none]) (k_le_s (k_le_s (k_le_s (k_le_s (k_le_s (k_le_s (k_le_n k_le_nil))))))) ?_
        rw [nI_1 c]
        exact ih M1 many (c + 1) q D (by omega) h0 (BI_old h1 h3 hwl c_148) (by omega) h3
      · have hnw := BI_new h1 h3 c_117 rfl hwl (Classical.not_not.mp c_148)
        refine go_aload_n (q := 152) dX10_fewest_151 rfl rfl rfl ?_
        refine go_getf (q := 155) dX10_fewest_152 fRX10_35 rfl (by decide) rfl rfl ?_
        refine go_iload (q := 157) dX10_fewest_155 rfl rfl ?_
        refine go_aload_n (q := 158) dX10_fewest_157 rfl rfl rfl ?_
        refine go_getf (q := 161) dX10_fewest_158 fRX10_35 rfl (by decide) rfl rfl ?_
        refine go_aload_n (q := 162) dX10_fewest_161 rfl rfl rfl ?_
        refine go_getf (q := 165) dX10_fewest_162 fRX10_38 rfl (by decide) rfl rfl ?_
        refine go_iload (q := 167) dX10_fewest_165 rfl rfl ?_
        refine go_iald (q := 168) k dX10_fewest_167 rfl rfl (by decide) rfl (by have := h1.2.2.2.1; omega) rfl ?_
        refine go_topi (h1.1 k h3).2.1 ?_
        refine go_iald (q := 169) (q k) dX10_fewest_168 rfl rfl (by decide) rfl (h1.1 k h3).1 rfl ?_
        refine go_topi (h1.1 k h3).2.2 ?_
        refine go_iconst (q := 170) (v := 1) dX10_fewest_169 (by decide) rfl ?_
        refine go_iadd (q := 171) dX10_fewest_170 rfl ?_
        refine go_topi (nI_1 _) ?_
        refine go_iast (q := 172) (wm (q k) (c / 5) (c % 5)) dX10_fewest_171 rfl rfl (by decide) rfl hwl rfl ?_
        refine go_aload_n (q := 173) dX10_fewest_172 rfl rfl rfl ?_
        refine go_getf (q := 176) dX10_fewest_173 fRX10_38 rfl (by decide) rfl rfl ?_
        refine go_iload_n (q := 177) dX10_fewest_176 rfl rfl rfl ?_
        refine go_iload (q := 179) dX10_fewest_177 rfl rfl ?_
        refine go_iast (q := 180) many dX10_fewest_179 rfl rfl (by decide) rfl hnw.1 rfl ?_
        refine go_iinc (q := 183) (v := 1) dX10_fewest_180 (by decide) rfl (by decide) rfl rfl ?_
        refine go_iinc (q := 186) (v := 1) dX10_fewest_183 (by decide) rfl (by decide) rfl rfl ?_
        refine go_goto (q := 113) dX10_fewest_186 (by decide) ?_
        refine go_weak (l1 := [some (vR 14 0), some (vI _), some (vI _), some (vI _), some (vI _), some (vI _), none]) (k_le_s (k_le_s (k_le_s (k_le_s (k_le_s (k_le_s (k_le_n k_le_nil))))))) ?_
        rw [nI_1 c, nI_1 many]
        exact ih _ (many + 1) (c + 1) _ _ (by omega) ((h0.si (Or.inl rfl)).si (Or.inr rfl)) (by
          have e20 : (k_si (k_si M1 20 0 (wm (q k) (c / 5) (c % 5)) (nI (D k + 1))) 21 0 many (nI (wm (q k) (c / 5) (c % 5)))).1 20 0 = fun x => if x = (wm (q k) (c / 5) (c % 5)) then nI (D k + 1) else M1.1 20 0 x := by
            rw [k_si_ne _ _ (fun z => by omega)]; funext x; exact sq ..
          have e21 : (k_si (k_si M1 20 0 (wm (q k) (c / 5) (c % 5)) (nI (D k + 1))) 21 0 many (nI (wm (q k) (c / 5) (c % 5)))).1 21 0 = fun x => if x = many then nI (wm (q k) (c / 5) (c % 5)) else M1.1 21 0 x := by
            funext x; rw [sq, k_si_ne _ _ (fun z => by omega)]
          rw [e20, e21]; exact hnw.2) (by omega) (by omega)
theorem lp_mfewOut {M : KM} {R : RO} (hZ : ZA M R) (hW : rW R) {fr to : Nat} (hfr : fr < 15625) (hto : to < 15625) : ∀ (d : Nat) (M1 : KM) (many k : Nat) (q D : Nat → Nat), 15625 - k < d → (kB M M1) → (BI R fr (M1.1 20 0) (M1.1 21 0) many k 0 q D) → Go mX10_fewest (Zm (KFW M R fr to)) M1 [some (vR 14 0), some (vI (nI fr)), some (vI (nI to)), some (vI (nI many)), some (vI (nI k)), none, none] [] 94 := by
  intro d
  induction d with
  | zero => intro M1 many k q D hd; exact absurd hd (Nat.not_lt_zero _)
  | succ d ih =>
    intro M1 many k q D hd h0 h1
    refine go_iload (q := 96) dX10_fewest_94 rfl rfl ?_
    refine go_iload_n (q := 97) dX10_fewest_96 rfl rfl rfl ?_
    refine go_icmp_geN k many (q := 100) (t := 195) dX10_fewest_97 (by decide) rfl rfl rfl (by have := h1.2.2.2.1; omega) (by have := h1.2.2.2.1; omega) (fun c_97 => ?_) (fun c_97 => ?_)
    · obtain ⟨o, hl, hno, hso⟩ := BI_end h1 hto (Or.inl (by have := h1.2.2.2.1; omega))
      refine go_aload_n (q := 196) dX10_fewest_195 rfl rfl rfl ?_
      refine go_getf (q := 199) dX10_fewest_196 fRX10_35 rfl (by decide) rfl rfl ?_
      refine go_iload_n (q := 200) dX10_fewest_199 rfl rfl rfl ?_
      refine go_iald (q := 201) to dX10_fewest_200 rfl rfl (by decide) rfl hto rfl ?_
      refine go_if_ge (q := 204) (t := 209) dX10_fewest_201 (by decide) rfl (fun c_201 => ?_) (fun c_201 => ?_)
      · refine go_aload_n (q := 210) dX10_fewest_209 rfl rfl rfl ?_
        refine go_getf (q := 213) dX10_fewest_210 fRX10_35 rfl (by decide) rfl rfl ?_
        refine go_iload_n (q := 214) dX10_fewest_213 rfl rfl rfl ?_
        refine go_iald (q := 215) to dX10_fewest_214 rfl rfl (by decide) rfl hto rfl ?_
        exact go_ireti dX10_fewest_215 rfl (by
          cases o with
          | none => rcases hno rfl with z | z <;> (rw [z] at c_201; exact absurd c_201 (by decide))
          | some m => exact ⟨some m, by rw [(hso m rfl).1]; rfl, hl, h0⟩)
      · refine go_bipush (q := 206) (v := (-4)) dX10_fewest_204 (by decide) rfl ?_
        refine go_goto (q := 215) dX10_fewest_206 (by decide) ?_
        exact go_ireti dX10_fewest_215 rfl ⟨none, rfl, (by
          cases o with
          | none => exact hl
          | some m => exact absurd (by rw [(hso m rfl).1]; exact nI_pos' (by have := (hso m rfl).2; omega)) c_201), h0⟩
    · refine go_aload_n (q := 101) dX10_fewest_100 rfl rfl rfl ?_
      refine go_getf (q := 104) dX10_fewest_101 fRX10_35 rfl (by decide) rfl rfl ?_
      refine go_iload_n (q := 105) dX10_fewest_104 rfl rfl rfl ?_
      refine go_iald (q := 106) to dX10_fewest_105 rfl rfl (by decide) rfl hto rfl ?_
      refine go_iconst (q := 107) (v := (-1)) dX10_fewest_106 (by decide) rfl ?_
      refine go_icmp_ne (q := 110) (t := 195) dX10_fewest_107 (by decide) rfl (fun c_107 => ?_) (fun c_107 => ?_)
      · obtain ⟨o, hl, hno, hso⟩ := BI_end h1 hto (Or.inr c_107)
        refine go_aload_n (q := 196) dX10_fewest_195 rfl rfl rfl ?_
        refine go_getf (q := 199) dX10_fewest_196 fRX10_35 rfl (by decide) rfl rfl ?_
        refine go_iload_n (q := 200) dX10_fewest_199 rfl rfl rfl ?_
        refine go_iald (q := 201) to dX10_fewest_200 rfl rfl (by decide) rfl hto rfl ?_
        refine go_if_ge (q := 204) (t := 209) dX10_fewest_201 (by decide) rfl (fun c_201 => ?_) (fun c_201 => ?_)
        · refine go_aload_n (q := 210) dX10_fewest_209 rfl rfl rfl ?_
          refine go_getf (q := 213) dX10_fewest_210 fRX10_35 rfl (by decide) rfl rfl ?_
          refine go_iload_n (q := 214) dX10_fewest_213 rfl rfl rfl ?_
          refine go_iald (q := 215) to dX10_fewest_214 rfl rfl (by decide) rfl hto rfl ?_
          exact go_ireti dX10_fewest_215 rfl (by
            cases o with
            | none => rcases hno rfl with z | z <;> (rw [z] at c_201; exact absurd c_201 (by decide))
            | some m => exact ⟨some m, by rw [(hso m rfl).1]; rfl, hl, h0⟩)
        · refine go_bipush (q := 206) (v := (-4)) dX10_fewest_204 (by decide) rfl ?_
          refine go_goto (q := 215) dX10_fewest_206 (by decide) ?_
          exact go_ireti dX10_fewest_215 rfl ⟨none, rfl, (by
            cases o with
            | none => exact hl
            | some m => exact absurd (by rw [(hso m rfl).1]; exact nI_pos' (by have := (hso m rfl).2; omega)) c_201), h0⟩
      · refine go_iconst (q := 111) (v := 0) dX10_fewest_110 (by decide) rfl ?_
        refine go_istore (q := 113) dX10_fewest_111 (by decide) rfl rfl ?_
        exact lp_mfewIn hZ hW hfr hto (fun M2 many2 q2 D2 g1 g2 => ih M2 many2 (k + 1) q2 D2 (by have := g2.2.2.2.1; omega) g1 g2) 31 M1 many 0 q D (by omega) h0 h1 (by omega) c_97
theorem BI_0 {R : RO} {fr : Nat} {S Q : Nat → Int32} (hfr : fr < 15625) (hS : ∀ v, v < 15625 → S v = if v = fr then 0 else if bear R v = none then -1 else -2) (hQ : Q 0 = nI fr) : BI R fr S Q 1 0 0 (fun _ => fr) (fun _ => 0) := by
  refine ⟨fun i hi => ⟨hfr, ?_, ?_⟩, fun i j hi hj _ => by omega, fun v hv hx => ?_, ⟨rfl, rfl, Nat.le_refl _, by omega, Nat.zero_le _⟩, fun i hi => ⟨rfl, fun m hm => absurd hm (Nat.not_lt_zero _)⟩, fun i j _ _ => Nat.le_refl _, fun _ i hi => Nat.zero_le _, fun i hi c' hc hx => by omega, fun i hi => Nat.zero_le _⟩
  · obtain rfl : i = 0 := by omega
    exact hQ
  · rw [hS fr hfr, if_pos rfl]; rfl
  · rw [hS v hv, if_neg (fun z => hx 0 (by omega) z.symm)]
theorem lp_mfew24 {M : KM} {R : RO} (hZ : ZA M R) (hW : rW R) {fr to : Nat} (hfr : fr < 15625) (hto : to < 15625) : ∀ (d : Nat) (M1 : KM) (j : Nat) (y : Int32), rN R - j < d → (kB M M1) → (∀ v, v < 15625 → M1.1 20 0 v = if exB R j v = true then -2 else -1) → (y = nI j) → (j ≤ rN R) → Go mX10_fewest (Zm (KFW M R fr to)) M1 [some (vR 14 0), some (vI (nI fr)), some (vI (nI to)), some (vI y), none, none, none] [] 24 := by
  intro d
  induction d with
  | zero => intro M1 j y hd; exact absurd hd (Nat.not_lt_zero _)
  | succ d ih =>
    intro M1 j y hd h0 h1 h2 h3
    refine go_iload_n (q := 25) dX10_fewest_24 rfl rfl rfl ?_
    refine go_aload_n (q := 26) dX10_fewest_25 rfl rfl rfl ?_
    refine go_getf (q := 29) dX10_fewest_26 fRX10_7 rfl (by decide) rfl rfl ?_
    refine go_iconst (q := 30) (v := 0) dX10_fewest_29 (by decide) rfl ?_
    refine go_iald (q := 31) 0 dX10_fewest_30 rfl rfl (by decide) rfl (by decide) rfl ?_
    refine go_icmp_geN j (rN R) (q := 34) (t := 75) dX10_fewest_31 (by decide) rfl h2 (h0.z hZ).sz (by have := hZ.le; omega) (by have := hZ.le; omega) (fun c_31 => ?_) (fun c_31 => ?_)
    · refine go_iconst (q := 76) (v := 1) dX10_fewest_75 (by decide) rfl ?_
      refine go_istore_n (q := 77) dX10_fewest_76 rfl (by decide) rfl rfl ?_
      refine go_aload_n (q := 78) dX10_fewest_77 rfl rfl rfl ?_
      refine go_getf (q := 81) dX10_fewest_78 fRX10_35 rfl (by decide) rfl rfl ?_
      refine go_iload_n (q := 82) dX10_fewest_81 rfl rfl rfl ?_
      refine go_iconst (q := 83) (v := 0) dX10_fewest_82 (by decide) rfl ?_
      refine go_iast (q := 84) fr dX10_fewest_83 rfl rfl (by decide) rfl hfr rfl ?_
      refine go_aload_n (q := 85) dX10_fewest_84 rfl rfl rfl ?_
      refine go_getf (q := 88) dX10_fewest_85 fRX10_38 rfl (by decide) rfl rfl ?_
      refine go_iconst (q := 89) (v := 0) dX10_fewest_88 (by decide) rfl ?_
      refine go_iload_n (q := 90) dX10_fewest_89 rfl rfl rfl ?_
      refine go_iast (q := 91) 0 dX10_fewest_90 rfl rfl (by decide) rfl (by omega) rfl ?_
      refine go_iconst (q := 92) (v := 0) dX10_fewest_91 (by decide) rfl ?_
      refine go_istore (q := 94) dX10_fewest_92 (by decide) rfl rfl ?_
      refine go_weak (l1 := [some (vR 14 0), some (vI _), some (vI _), some (vI (nI 1)), some (vI (nI 0)), none, none]) (k_le_s (k_le_s (k_le_s (k_le_s (k_le_s (k_le_n (k_le_n k_le_nil))))))) ?_
      refine lp_mfewOut hZ hW hfr hto 15626 (k_si (k_si M1 20 0 fr 0) 21 0 0 (nI fr)) 1 0 (fun _ => fr) (fun _ => 0) (by omega) ((h0.si (Or.inl rfl)).si (Or.inr rfl)) (BI_0 hfr (fun v hv => ?_) (sg ..))
      rw [k_si_ne _ _ (fun z => by omega), sq]
      by_cases e : v = fr
      · rw [if_pos e, if_pos e]
      · rw [if_neg e, if_neg e, h1 v hv, show j = rN R by omega]
        by_cases e2 : bear R v = none
        · rw [if_pos e2, if_neg (fun z => (exB_n.mp z) e2)]
        · rw [if_neg e2, if_pos (exB_n.mpr e2)]
    · subst h2
      have hZ1 := h0.z hZ
      refine go_aload_n (q := 35) dX10_fewest_34 rfl rfl rfl ?_
      refine go_getf (q := 38) dX10_fewest_35 fRX10_35 rfl (by decide) rfl rfl ?_
      refine go_aload_n (q := 39) dX10_fewest_38 rfl rfl rfl ?_
      refine go_iload_n (q := 40) dX10_fewest_39 rfl rfl rfl ?_
      refine go_iconst (q := 41) (v := 0) dX10_fewest_40 (by decide) rfl ?_
      refine go_cV2 (cal := mX10_of) (q := 44) dX10_fewest_41 lRX10_45 vX10_of ⟨by decide, by decide⟩ rfl (by decide) (Nat.le_of_ble_eq_true rfl) (ok_mof (w := 0) (hZ.lt c_31) (by decide)) rfl ?_
      refine go_topi (hZ1.sh c_31) ?_
      refine go_aload_n (q := 45) dX10_fewest_44 rfl rfl rfl ?_
      refine go_iload_n (q := 46) dX10_fewest_45 rfl rfl rfl ?_
      refine go_cV1 (cal := mX10_lives) (q := 49) dX10_fewest_46 lRX10_56 vX10_lives ⟨by decide, by decide⟩ rfl (by decide) (Nat.le_of_ble_eq_true rfl) (ok_mlives hZ1 c_31) rfl ?_
      refine go_if_eqB (q := 52) (t := 57) dX10_fewest_49 (by decide) rfl (fun c_49 => ?_) (fun c_49 => ?_)
      · refine go_aload_n (q := 58) dX10_fewest_57 rfl rfl rfl ?_
        refine go_getf (q := 61) dX10_fewest_58 fRX10_35 rfl (by decide) rfl rfl ?_
        refine go_aload_n (q := 62) dX10_fewest_61 rfl rfl rfl ?_
        refine go_iload_n (q := 63) dX10_fewest_62 rfl rfl rfl ?_
        refine go_iconst (q := 64) (v := 0) dX10_fewest_63 (by decide) rfl ?_
        refine go_cV2 (cal := mX10_of) (q := 67) dX10_fewest_64 lRX10_45 vX10_of ⟨by decide, by decide⟩ rfl (by decide) (Nat.le_of_ble_eq_true rfl) (ok_mof (w := 0) (hZ.lt c_31) (by decide)) rfl ?_
        refine go_topi (hZ1.sh c_31) ?_
        refine go_iald (q := 68) (rS R j) dX10_fewest_67 rfl rfl (by decide) rfl (hW.2.1 j c_31) rfl ?_
        refine go_iast (q := 69) (rS R j) dX10_fewest_68 rfl rfl (by decide) rfl (hW.2.1 j c_31) rfl ?_
        refine go_iinc (q := 72) (v := 1) dX10_fewest_69 (by decide) rfl (by decide) rfl rfl ?_
        refine go_goto (q := 24) dX10_fewest_72 (by decide) ?_
        exact ih _ (j + 1) _ (by omega) (h0.si (Or.inl rfl)) (fun v hv => by
          have hx : exB R (j + 1) v = exB R j v := by
            show (exB R j v || (rL R j && rS R j == v)) = _
            rw [c_49]; simp
          rw [hx, sq]
          by_cases e : v = rS R j
          · rw [if_pos e, ← e]; exact h1 v hv
          · rw [if_neg e]; exact h1 v hv) (nI_1 j) (by omega)
      · refine go_bipush (q := 54) (v := (-2)) dX10_fewest_52 (by decide) rfl ?_
        refine go_goto (q := 68) dX10_fewest_54 (by decide) ?_
        refine go_iast (q := 69) (rS R j) dX10_fewest_68 rfl rfl (by decide) rfl (hW.2.1 j c_31) rfl ?_
        refine go_iinc (q := 72) (v := 1) dX10_fewest_69 (by decide) rfl (by decide) rfl rfl ?_
        refine go_goto (q := 24) dX10_fewest_72 (by decide) ?_
        exact ih _ (j + 1) _ (by omega) (h0.si (Or.inl rfl)) (fun v hv => by
          have hx : exB R (j + 1) v = (exB R j v || (rS R j == v)) := by
            show (exB R j v || (rL R j && rS R j == v)) = _
            rw [c_49]; rfl
          rw [hx, sq]
          by_cases e : v = rS R j
          · rw [if_pos e, e]; simp
          · rw [if_neg e, show (rS R j == v) = false from by simpa using fun z => e z.symm, Bool.or_false]; exact h1 v hv) (nI_1 j) (by omega)
theorem lp_mfew2 {M : KM} {R : RO} (hZ : ZA M R) (hW : rW R) {fr to : Nat} (hfr : fr < 15625) (hto : to < 15625) : ∀ (d : Nat) (M1 : KM) (j : Nat) (y : Int32), 15625 - j < d → (kB M M1) → (∀ v, v < j → M1.1 20 0 v = -1) → (y = nI j) → (j ≤ 15625) → Go mX10_fewest (Zm (KFW M R fr to)) M1 [some (vR 14 0), some (vI (nI fr)), some (vI (nI to)), some (vI y), none, none, none] [] 2 := by
  intro d
  induction d with
  | zero => intro M1 j y hd; exact absurd hd (Nat.not_lt_zero _)
  | succ d ih =>
    intro M1 j y hd h0 h1 h2 h3
    refine go_iload_n (q := 3) dX10_fewest_2 rfl rfl rfl ?_
    refine go_sipush (q := 6) (v := 15625) dX10_fewest_3 (by decide) rfl ?_
    refine go_icmp_geN j 15625 (q := 9) (t := 22) dX10_fewest_6 (by decide) rfl h2 rfl (by omega) (by omega) (fun c_6 => ?_) (fun c_6 => ?_)
    · refine go_iconst (q := 23) (v := 0) dX10_fewest_22 (by decide) rfl ?_
      refine go_istore_n (q := 24) dX10_fewest_23 rfl (by decide) rfl rfl ?_
      exact lp_mfew24 hZ hW hfr hto (rN R + 1) M1 0 _ (by omega) h0 (fun v hv => (h1 v (by omega)).trans (if_neg (fun z => absurd (show false = true from z) (by decide))).symm) rfl (by omega)
    · subst h2
      refine go_aload_n (q := 10) dX10_fewest_9 rfl rfl rfl ?_
      refine go_getf (q := 13) dX10_fewest_10 fRX10_35 rfl (by decide) rfl rfl ?_
      refine go_iload_n (q := 14) dX10_fewest_13 rfl rfl rfl ?_
      refine go_iconst (q := 15) (v := (-1)) dX10_fewest_14 (by decide) rfl ?_
      refine go_iast (q := 16) j dX10_fewest_15 rfl rfl (by decide) rfl (by omega) rfl ?_
      refine go_iinc (q := 19) (v := 1) dX10_fewest_16 (by decide) rfl (by decide) rfl rfl ?_
      refine go_goto (q := 2) dX10_fewest_19 (by decide) ?_
      exact ih _ (j + 1) _ (by omega) (h0.si (Or.inl rfl)) (fun v hv => by
        rw [sq]
        by_cases e : v = j
        · rw [if_pos e]
        · rw [if_neg e]; exact h1 v (by omega)) (nI_1 j) (by omega)
theorem ok_mfewest {M : KM} {R : RO} (hZ : ZA M R) (hW : rW R) {fr to : Nat} (hfr : fr < 15625) (hto : to < 15625) : Ok mX10_fewest [vR 14 0, vI (nI fr), vI (nI to)] M (KFW M R fr to) := by
  refine ok_of (by decide) rfl (Nat.le_of_ble_eq_true rfl) ⟨rfl, rfl⟩ ?_
  show Go mX10_fewest (Zm (KFW M R fr to)) M [some (vR 14 0), some (vI (nI fr)), some (vI (nI to)), none, none, none, none] [] 0
  refine go_iconst (q := 1) (v := 0) dX10_fewest_0 (by decide) rfl ?_
  refine go_istore_n (q := 2) dX10_fewest_1 rfl (by decide) rfl rfl ?_
  exact lp_mfew2 hZ hW hfr hto 15626 M 0 _ (by omega) kB.rf (fun v hv => absurd hv (Nat.not_lt_zero _)) rfl (by omega)
def LnM (R : RO) (x y w v : Int32) : Prop := match pOf (rN R) x, pOf 15625 y, pOf 2 w with
  | some p, some s, some _ => if rL R p = false then v = -2 else ∃ o, v = e4 o ∧ LW R (rS R p) s o
  | _, _, _ => v = -1
def KLM (M : KM) (R : RO) (x y w : Int32) : Option KV → KM → Prop := fun r M' => ∃ v, r = some (vI v) ∧ LnM R x y w v ∧ kB M M'
theorem ok_mline {M : KM} {R : RO} (hZ : ZA M R) (hW : rW R) (x y w : Int32) : Ok mX10_line [vR 14 0, vI x, vI y, vI w] M (KLM M R x y w) := by
  refine ok_of (by decide) rfl (Nat.le_of_ble_eq_true rfl) ⟨rfl, rfl⟩ ?_
  show Go mX10_line (Zm (KLM M R x y w)) M [some (vR 14 0), some (vI x), some (vI y), some (vI w)] [] 0
  refine go_aload_n (q := 1) dX10_line_0 rfl rfl rfl ?_
  refine go_iload_n (q := 2) dX10_line_1 rfl rfl rfl ?_
  refine go_cV1 (cal := mX10_isPerson) (q := 5) dX10_line_2 lRX10_116 vX10_isPerson ⟨by decide, by decide⟩ rfl (by decide) (Nat.le_of_ble_eq_true rfl) (ok_misPerson hZ _) rfl ?_
  refine go_if_eqB (q := 8) (t := 24) dX10_line_5 (by decide) rfl (fun c_5 => ?_) (fun c_5 => ?_)
  · refine go_iconst (q := 25) (v := (-1)) dX10_line_24 (by decide) rfl ?_
    exact go_ireti dX10_line_25 rfl ⟨_, rfl, by simp [LnM, isSome_f c_5], kB.rf⟩
  · refine go_iload_n (q := 9) dX10_line_8 rfl rfl rfl ?_
    refine go_cS1 (cal := mX10_isShield) (q := 12) dX10_line_9 lRX10_86 vX10_isShield ⟨by decide, by decide⟩ (Nat.le_of_ble_eq_true rfl) (ok_misShield M _) rfl ?_
    refine go_if_eqB (q := 15) (t := 24) dX10_line_12 (by decide) rfl (fun c_12 => ?_) (fun c_12 => ?_)
    · refine go_iconst (q := 25) (v := (-1)) dX10_line_24 (by decide) rfl ?_
      exact go_ireti dX10_line_25 rfl ⟨_, rfl, by simp [LnM, isSome_f c_12], kB.rf⟩
    · refine go_iload_n (q := 16) dX10_line_15 rfl rfl rfl ?_
      refine go_iconst (q := 17) (v := 0) dX10_line_16 (by decide) rfl ?_
      refine go_iconst (q := 18) (v := 1) dX10_line_17 (by decide) rfl ?_
      refine go_cS3 (cal := mX10_in) (q := 21) dX10_line_18 lRX10_41 vX10_in ⟨by decide, by decide⟩ (Nat.le_of_ble_eq_true rfl) (ok_min M _ _ _) rfl ?_
      refine go_topi (v := bI (pOf 2 w).isSome) (by rw [← in_pOf (by decide)]; rfl) ?_
      refine go_if_neB (q := 24) (t := 26) dX10_line_21 (by decide) rfl (fun c_21 => ?_) (fun c_21 => ?_)
      · obtain ⟨p, hp⟩ := isSome_t c_5
        obtain ⟨hlt, rfl⟩ := pOf_some hp
        obtain ⟨s, hs⟩ := isSome_t c_12
        obtain ⟨hsl, rfl⟩ := pOf_some hs
        obtain ⟨k, hk⟩ := isSome_t c_21
        refine go_aload_n (q := 27) dX10_line_26 rfl rfl rfl ?_
        refine go_iload_n (q := 28) dX10_line_27 rfl rfl rfl ?_
        refine go_cV1 (cal := mX10_lives) (q := 31) dX10_line_28 lRX10_56 vX10_lives ⟨by decide, by decide⟩ rfl (by decide) (Nat.le_of_ble_eq_true rfl) (ok_mlives hZ hlt) rfl ?_
        refine go_if_eqB (q := 34) (t := 48) dX10_line_31 (by decide) rfl (fun c_31 => ?_) (fun c_31 => ?_)
        · refine go_bipush (q := 50) (v := (-2)) dX10_line_48 (by decide) rfl ?_
          exact go_ireti dX10_line_50 rfl ⟨_, rfl, by simp [LnM, hp, hs, hk, c_31], kB.rf⟩
        · refine go_aload_n (q := 35) dX10_line_34 rfl rfl rfl ?_
          refine go_aload_n (q := 36) dX10_line_35 rfl rfl rfl ?_
          refine go_iload_n (q := 37) dX10_line_36 rfl rfl rfl ?_
          refine go_iconst (q := 38) (v := 0) dX10_line_37 (by decide) rfl ?_
          refine go_cV2 (cal := mX10_of) (q := 41) dX10_line_38 lRX10_45 vX10_of ⟨by decide, by decide⟩ rfl (by decide) (Nat.le_of_ble_eq_true rfl) (ok_mof (w := 0) (hZ.lt hlt) (by decide)) rfl ?_
          refine go_topi (hZ.sh hlt) ?_
          refine go_iload_n (q := 42) dX10_line_41 rfl rfl rfl ?_
          refine go_callV [vI (nI (rS R p)), vI (nI s)] (cal := mX10_fewest) (q := 45) dX10_line_42 lRX10_204 vX10_fewest ⟨by decide, by decide⟩ rfl rfl (by decide) (Nat.le_of_ble_eq_true rfl) (ok_mfewest hZ hW (hW.2.1 p hlt) hsl) rfl (fun r42 M42 h42 => ?_)
          obtain ⟨o9, rfl, hl9, hk9⟩ := h42
          refine go_goto (q := 50) dX10_line_45 (by decide) ?_
          exact go_ireti dX10_line_50 rfl ⟨_, rfl, by simp only [LnM, hp, hs, hk]; rw [if_neg (by rw [c_31]; decide)]; exact ⟨o9, rfl, hl9⟩, hk9⟩
      · refine go_iconst (q := 25) (v := (-1)) dX10_line_24 (by decide) rfl ?_
        exact go_ireti dX10_line_25 rfl ⟨_, rfl, by simp [LnM, isSome_f c_21], kB.rf⟩
