/-! ===== no line is longer than the way and two ===== -/
theorem sm_mono {F G : Nat → Nat} : ∀ {n : Nat}, (∀ i, i < n → F i ≤ G i) → sm F n ≤ sm G n
  | 0, _ => Nat.le_refl _
  | n + 1, h => by
    have h1 := sm_mono (n := n) (fun i hi => h i (by omega))
    have h2 := h n (by omega)
    show sm F n + F n ≤ sm G n + G n
    omega
theorem cn_surj {P Q : Nat → Bool} {g : Nat → Nat} {c N : Nat} (hg : ∀ i, g i < c) (h : ∀ m, m < c → Q m = true → ∃ i, i < N ∧ P i = true ∧ g i = m) : cn Q c ≤ cn P N := by
  rw [cn_part (P := P) hg (n := N), cn_sm]
  refine sm_mono (fun m hm => ?_)
  unfold bN
  split
  · rename_i hq
    obtain ⟨i, h1, h2, h3⟩ := h m hm hq
    exact cn_pos h1 (by simp [h2, h3])
  · exact Nat.zero_le _
theorem cn_miss {P : Nat → Bool} {N p : Nat} (hp : p < N) (h : P p = false) : cn P N + 1 ≤ N := by
  have h1 := cn_not (P := P) (n := N)
  have h2 : 0 < cn (fun i => !P i) N := cn_pos hp (by simp [h])
  omega
theorem cn_mono {P Q : Nat → Bool} : ∀ {n : Nat}, (∀ i, i < n → P i = true → Q i = true) → cn P n ≤ cn Q n
  | 0, _ => Nat.le_refl _
  | n + 1, h => by
    have h1 := cn_mono (n := n) (fun i hi => h i (by omega))
    rw [cn_s, cn_s]
    cases hp : P n with
    | false => simp; omega
    | true => rw [h n (by omega) hp]; simp; omega
/-- foreign to both: a digit that neither end has -/
def fgn (a b w i : Nat) : Bool := mk w i != mk a i && mk w i != mk b i
def dif (a b i : Nat) : Bool := mk a i != mk b i
/-- which way a shield blocks -/
def way (a b w : Nat) : Nat := match fst1 (fgn a b w) 6 with
  | some k => 5 * k + mk w k
  | none => match fst1 (dif a b) 6 with
    | some d => if mk w d = mk b d then 30 else 31
    | none => 31
theorem way_lt (a b w : Nat) : way a b w < 32 := by
  unfold way
  cases h : fst1 (fgn a b w) 6 with
  | some k =>
    have := (fst1_some.mp h).1
    have := mk_lt w k
    show 5 * k + mk w k < 32
    omega
  | none =>
    simp only
    cases h2 : fst1 (dif a b) 6 with
    | none => show 31 < 32; omega
    | some d => show (if mk w d = mk b d then 30 else 31) < 32; split <;> omega
/-- set a place to a foreign digit, the others one by one to the end's -/
def Xp (a b k m : Nat) : Nat → Nat
  | 0 => wm a k m
  | j + 1 => if j = k then Xp a b k m j else wm (Xp a b k m j) j (mk b j)
def Yp (a b : Nat) : Nat → Nat
  | 0 => a
  | j + 1 => wm (Yp a b j) j (mk b j)
def Zp (a b : Nat) : Nat → Nat
  | 0 => a
  | j + 1 => wm (Zp a b j) (5 - j) (mk b (5 - j))
theorem Xp_d {a b k m : Nat} (ha : a < 15625) (hk : k < 6) (hm : m < 5) : ∀ j, j ≤ 6 → Xp a b k m j < 15625 ∧ ∀ i, i < 6 → mk (Xp a b k m j) i = if i = k then m else if i < j then mk b i else mk a i := fun j => by
  induction j with
  | zero =>
    intro _
    refine ⟨wm_lt ha hk hm, fun i hi => ?_⟩
    show mk (wm a k m) i = _
    by_cases e : i = k
    · rw [if_pos e, e]; exact mk_wm ha hk hm
    · rw [if_neg e, if_neg (by omega)]; exact mk_wm_ne ha hk hm hi e
  | succ j ih =>
    intro hj
    obtain ⟨h1, h2⟩ := ih (by omega)
    show (if j = k then Xp a b k m j else wm (Xp a b k m j) j (mk b j)) < 15625 ∧ ∀ i, i < 6 → mk (if j = k then Xp a b k m j else wm (Xp a b k m j) j (mk b j)) i = _
    by_cases e : j = k
    · rw [if_pos e]
      refine ⟨h1, fun i hi => ?_⟩
      rw [h2 i hi]
      by_cases e2 : i = k
      · rw [if_pos e2, if_pos e2]
      · rw [if_neg e2, if_neg e2]
        by_cases e3 : i < j
        · rw [if_pos e3, if_pos (by omega)]
        · rw [if_neg e3, if_neg (by omega)]
    · rw [if_neg e]
      refine ⟨wm_lt h1 (by omega) (mk_lt _ _), fun i hi => ?_⟩
      by_cases e2 : i = j
      · subst e2
        rw [mk_wm h1 hi (mk_lt _ _), if_neg e, if_pos (by omega)]
      · rw [mk_wm_ne h1 (by omega) (mk_lt _ _) hi e2, h2 i hi]
        by_cases e3 : i = k
        · rw [if_pos e3, if_pos e3]
        · rw [if_neg e3, if_neg e3]
          by_cases e4 : i < j
          · rw [if_pos e4, if_pos (by omega)]
          · rw [if_neg e4, if_neg (by omega)]
theorem Yp_d {a b : Nat} (ha : a < 15625) : ∀ j, j ≤ 6 → Yp a b j < 15625 ∧ ∀ i, i < 6 → mk (Yp a b j) i = if i < j then mk b i else mk a i := fun j => by
  induction j with
  | zero => intro _; exact ⟨ha, fun i hi => by rw [if_neg (by omega)]; rfl⟩
  | succ j ih =>
    intro hj
    obtain ⟨h1, h2⟩ := ih (by omega)
    refine ⟨wm_lt h1 (by omega) (mk_lt _ _), fun i hi => ?_⟩
    show mk (wm (Yp a b j) j (mk b j)) i = _
    by_cases e2 : i = j
    · subst e2
      rw [mk_wm h1 hi (mk_lt _ _), if_pos (by omega)]
    · rw [mk_wm_ne h1 (by omega) (mk_lt _ _) hi e2, h2 i hi]
      by_cases e4 : i < j
      · rw [if_pos e4, if_pos (by omega)]
      · rw [if_neg e4, if_neg (by omega)]
theorem Zp_d {a b : Nat} (ha : a < 15625) : ∀ j, j ≤ 6 → Zp a b j < 15625 ∧ ∀ i, i < 6 → mk (Zp a b j) i = if 6 ≤ i + j then mk b i else mk a i := fun j => by
  induction j with
  | zero => intro _; exact ⟨ha, fun i hi => by rw [if_neg (by omega)]; rfl⟩
  | succ j ih =>
    intro hj
    obtain ⟨h1, h2⟩ := ih (by omega)
    refine ⟨wm_lt h1 (by omega) (mk_lt _ _), fun i hi => ?_⟩
    show mk (wm (Zp a b j) (5 - j) (mk b (5 - j))) i = _
    by_cases e2 : i = 5 - j
    · rw [e2, mk_wm h1 (by omega) (mk_lt _ _), if_pos (by omega)]
    · rw [mk_wm_ne h1 (by omega) (mk_lt _ _) hi e2, h2 i hi]
      by_cases e4 : 6 ≤ i + j
      · rw [if_pos e4, if_pos (by omega)]
      · rw [if_neg e4, if_neg (by omega)]
section Ways
variable {R : RO} {a b : Nat}
theorem X_walk {k m : Nat} (ha : a < 15625) (hb : b < 15625) (hk : k < 6) (hm : m < 5) (hok : ∀ j, j ≤ 6 → okL R b (Xp a b k m j)) : ∃ n, n ≤ ap a b + 2 ∧ EW R a b n := by
  have h1 : ∀ j, j ≤ 6 → SQ (okL R b) a (Xp a b k m j) (1 + cn (fun i => decide (i ≠ k) && dif a b i) j) := fun j => by
    induction j with
    | zero => intro _; exact SQ_ext SQ_0 (Nb_wm hk hm) (hok 0 (by omega))
    | succ j ih =>
      intro hj
      have h2 := ih (by omega)
      have hd := Xp_d (b := b) ha hk hm j (by omega)
      have ho := hok (j + 1) hj
      have e0 : Xp a b k m (j + 1) = if j = k then Xp a b k m j else wm (Xp a b k m j) j (mk b j) := rfl
      by_cases e : j = k
      · rw [e0, if_pos e, cn_f (by simp [e])]; exact h2
      · rw [if_neg e] at e0
        cases hdif : dif a b j with
        | false =>
          have h3 : mk (Xp a b k m j) j = mk b j := by
            rw [hd.2 j (by omega), if_neg e, if_neg (by omega)]
            simpa [dif] using hdif
          rw [e0, ← h3, wm_self hd.1 (by omega), cn_f (by simp [hdif])]; exact h2
        | true =>
          rw [cn_t (by simp [e, hdif])]
          rw [e0] at ho ⊢
          exact SQ_ext h2 (Nb_wm (by omega) (mk_lt _ _)) ho
  have hd := Xp_d (b := b) ha hk hm 6 (Nat.le_refl _)
  have hl : wm (Xp a b k m 6) k (mk b k) = b := mk_ext (wm_lt hd.1 hk (mk_lt _ _)) hb (fun i hi => by
    by_cases e : i = k
    · rw [e]; exact mk_wm hd.1 hk (mk_lt _ _)
    · rw [mk_wm_ne hd.1 hk (mk_lt _ _) hi e, hd.2 i hi, if_neg e, if_pos hi])
  have hn := Nb_wm (u := Xp a b k m 6) hk (mk_lt b k)
  rw [hl] at hn
  obtain ⟨n, hn1, hn2⟩ := SQ_EW (SQ_ext (h1 6 (Nat.le_refl _)) hn (Or.inl rfl))
  have : cn (fun i => decide (i ≠ k) && dif a b i) 6 ≤ ap a b := cn_mono (fun i _ hx => by
    simp only [Bool.and_eq_true] at hx
    exact hx.2)
  exact ⟨n, by omega, hn2⟩
theorem Y_walk (ha : a < 15625) (hb : b < 15625) (hok : ∀ j, j ≤ 6 → Yp a b j ≠ a → okL R b (Yp a b j)) : ∃ n, n ≤ ap a b + 2 ∧ EW R a b n := by
  have h1 : ∀ j, j ≤ 6 → SQ (okL R b) a (Yp a b j) (cn (dif a b) j) := fun j => by
    induction j with
    | zero => intro _; exact SQ_0
    | succ j ih =>
      intro hj
      have h2 := ih (by omega)
      have hd := Yp_d (b := b) ha j (by omega)
      have hd1 := Yp_d (b := b) ha (j + 1) hj
      have e0 : Yp a b (j + 1) = wm (Yp a b j) j (mk b j) := rfl
      cases hdif : dif a b j with
      | false =>
        have h3 : mk (Yp a b j) j = mk b j := by
          rw [hd.2 j (by omega), if_neg (by omega)]
          simpa [dif] using hdif
        rw [e0, ← h3, wm_self hd.1 (by omega), cn_f hdif]; exact h2
      | true =>
        have hne : Yp a b (j + 1) ≠ a := fun z => by
          have h4 := hd1.2 j (by omega)
          rw [z, if_pos (by omega)] at h4
          simp [dif, h4] at hdif
        have ho := hok (j + 1) hj hne
        rw [cn_t hdif]
        rw [e0] at ho ⊢
        exact SQ_ext h2 (Nb_wm (by omega) (mk_lt _ _)) ho
  have hd := Yp_d (b := b) ha 6 (Nat.le_refl _)
  have hl : Yp a b 6 = b := mk_ext hd.1 hb (fun i hi => by rw [hd.2 i hi, if_pos hi])
  have h6 := h1 6 (Nat.le_refl _)
  rw [hl] at h6
  obtain ⟨n, hn1, hn2⟩ := SQ_EW h6
  have : cn (dif a b) 6 = ap a b := rfl
  exact ⟨n, by omega, hn2⟩
theorem Z_walk (ha : a < 15625) (hb : b < 15625) (hok : ∀ j, j ≤ 6 → Zp a b j ≠ a → okL R b (Zp a b j)) : ∃ n, n ≤ ap a b + 2 ∧ EW R a b n := by
  have h1 : ∀ j, j ≤ 6 → SQ (okL R b) a (Zp a b j) (cn (fun t => dif a b (5 - t)) j) := fun j => by
    induction j with
    | zero => intro _; exact SQ_0
    | succ j ih =>
      intro hj
      have h2 := ih (by omega)
      have hd := Zp_d (b := b) ha j (by omega)
      have hd1 := Zp_d (b := b) ha (j + 1) hj
      have e0 : Zp a b (j + 1) = wm (Zp a b j) (5 - j) (mk b (5 - j)) := rfl
      cases hdif : dif a b (5 - j) with
      | false =>
        have h3 : mk (Zp a b j) (5 - j) = mk b (5 - j) := by
          rw [hd.2 (5 - j) (by omega), if_neg (by omega)]
          simpa [dif] using hdif
        rw [e0, ← h3, wm_self hd.1 (by omega), cn_f (P := fun t => dif a b (5 - t)) hdif]; exact h2
      | true =>
        have hne : Zp a b (j + 1) ≠ a := fun z => by
          have h4 := hd1.2 (5 - j) (by omega)
          rw [z, if_pos (by omega)] at h4
          simp [dif, h4] at hdif
        have ho := hok (j + 1) hj hne
        rw [cn_t (P := fun t => dif a b (5 - t)) hdif]
        rw [e0] at ho ⊢
        exact SQ_ext h2 (Nb_wm (by omega) (mk_lt _ _)) ho
  have hd := Zp_d (b := b) ha 6 (Nat.le_refl _)
  have hl : Zp a b 6 = b := mk_ext hd.1 hb (fun i hi => by rw [hd.2 i hi, if_pos (by omega)])
  have h6 := h1 6 (Nat.le_refl _)
  rw [hl] at h6
  obtain ⟨n, hn1, hn2⟩ := SQ_EW h6
  have h7 : ap a b = cn (fun t => dif a b (5 - t)) 6 := by
    show cn (dif a b) 6 = _
    simp only [cn, show 5 - 0 = 5 from rfl, show 5 - 1 = 4 from rfl, show 5 - 2 = 3 from rfl, show 5 - 3 = 2 from rfl, show 5 - 4 = 1 from rfl, show 5 - 5 = 0 from rfl]
    omega
  exact ⟨n, by omega, hn2⟩
theorem way_X {k m j : Nat} (ha : a < 15625) (hk : k < 6) (hm : m < 5) (h1 : m ≠ mk a k) (h2 : m ≠ mk b k) (hj : j ≤ 6) : way a b (Xp a b k m j) = 5 * k + m := by
  have hd := (Xp_d (b := b) ha hk hm j hj).2
  have hf : fst1 (fgn a b (Xp a b k m j)) 6 = some k := fst1_some.mpr ⟨hk, by
    unfold fgn
    rw [hd k hk, if_pos rfl]
    simp [h1, h2], fun i hi => by
    unfold fgn
    rw [hd i (by omega), if_neg (by omega)]
    split <;> simp⟩
  unfold way
  rw [hf]
  show 5 * k + mk (Xp a b k m j) k = _
  rw [hd k hk, if_pos rfl]
theorem way_Y {j : Nat} (ha : a < 15625) (hj : j ≤ 6) (hne : Yp a b j ≠ a) : way a b (Yp a b j) = 30 := by
  have hd := Yp_d (b := b) ha j hj
  have hf : fst1 (fgn a b (Yp a b j)) 6 = none := fst1_none.mpr (fun i hi => by
    unfold fgn
    rw [hd.2 i hi]
    split <;> simp)
  have hex : ∃ d, fst1 (dif a b) 6 = some d ∧ d < j := by
    cases h : fst1 (dif a b) 6 with
    | none => exact absurd (mk_ext hd.1 ha (fun i hi => by
        rw [hd.2 i hi]
        have h2 := fst1_none.mp h i hi
        simp only [dif, bne_eq_false_iff_eq] at h2
        split
        · exact h2.symm
        · rfl)) hne
    | some d =>
      refine ⟨d, rfl, ?_⟩
      apply Classical.byContradiction
      intro z
      refine hne (mk_ext hd.1 ha (fun i hi => ?_))
      rw [hd.2 i hi]
      split
      · have h2 := (fst1_some.mp h).2.2 i (by omega)
        simp only [dif, bne_eq_false_iff_eq] at h2
        exact h2.symm
      · rfl
  obtain ⟨d, h1, h2⟩ := hex
  unfold way
  rw [hf]
  simp only
  rw [h1]
  show (if mk (Yp a b j) d = mk b d then 30 else 31) = 30
  rw [hd.2 d (by omega), if_pos h2, if_pos rfl]
theorem way_Z {j : Nat} (ha : a < 15625) (hb : b < 15625) (hj : j ≤ 6) (hne : Zp a b j ≠ b) : way a b (Zp a b j) = 31 := by
  have hd := Zp_d (b := b) ha j hj
  have hf : fst1 (fgn a b (Zp a b j)) 6 = none := fst1_none.mpr (fun i hi => by
    unfold fgn
    rw [hd.2 i hi]
    split <;> simp)
  unfold way
  rw [hf]
  simp only
  cases h : fst1 (dif a b) 6 with
  | none => rfl
  | some d =>
    have hds := fst1_some.mp h
    have hdj : d + j < 6 := by
      apply Classical.byContradiction
      intro z
      refine hne (mk_ext hd.1 hb (fun i hi => ?_))
      rw [hd.2 i hi]
      split
      · rfl
      · have h2 := hds.2.2 i (by omega)
        simp only [dif, bne_eq_false_iff_eq] at h2
        exact h2
    show (if mk (Zp a b j) d = mk b d then 30 else 31) = 31
    rw [hd.2 d hds.1, if_neg (c := 6 ≤ d + j) (by omega), if_neg]
    have h2 := hds.2.1
    simpa [dif] using h2
def opn (a b c : Nat) : Bool := if c < 30 then (c % 5 != mk a (c / 5) && c % 5 != mk b (c / 5)) else true
theorem five : ∀ x, x < 5 → ∀ y, y < 5 → cn (fun m => m != x && m != y) 5 + bN (x != y) = 4 := by decide
theorem five2 : ∀ x, x < 5 → ∀ y, y < 5 → 3 ≤ cn (fun m => m != x && m != y) 5 := by decide
theorem opn_cn : 20 ≤ cn (opn a b) 32 := by
  have h0 : cn (opn a b) 32 = cn (opn a b) 30 + 1 + 1 := by
    rw [cn_t (show opn a b 31 = true from rfl), cn_t (show opn a b 30 = true from rfl)]
  have h1 : cn (opn a b) 30 = cn (fun c => (fun k m => m != mk a k && m != mk b k) (c / 5) (c % 5)) (5 * 6 + 0) := cn_congr (fun c hc => by unfold opn; rw [if_pos hc])
  rw [cn_blk (P := fun k m => m != mk a k && m != mk b k) 6 0 (by omega)] at h1
  have h2 : 18 ≤ sm (fun k => cn (fun m => m != mk a k && m != mk b k) 5) 6 := sm_mono (F := fun _ => 3) (n := 6) (fun k hk => five2 _ (mk_lt _ _) _ (mk_lt _ _))
  omega
theorem blocked {v : Nat} (h : ¬ okL R b v) : v ≠ b ∧ ∃ p, p < rN R ∧ rL R p = true ∧ rS R p = v := by
  refine ⟨fun e => h (Or.inl e), ?_⟩
  cases hb : bear R v with
  | none => exact absurd (Or.inr hb) h
  | some p => obtain ⟨h1, h2, h3⟩ := bear_some hb; exact ⟨p, h1, h2, h3⟩
theorem line_short (hW : rW R) (ha : a < 15625) (hb : b < 15625) {p0 : Nat} (hp : p0 < rN R) (h0 : rS R p0 = a ∨ rS R p0 = b) : ∃ n, n ≤ ap a b + 2 ∧ EW R a b n := by
  apply Classical.byContradiction
  intro hno
  have key : cn (opn a b) 32 ≤ cn (fun p => rL R p && p != p0) (rN R) := by
    refine cn_surj (g := fun p => way a b (rS R p)) (fun p => way_lt _ _ _) (fun c hc hq => ?_)
    have fin : ∀ v, v ≠ a → ¬ okL R b v → way a b v = c → ∃ i, i < rN R ∧ (rL R i && i != p0) = true ∧ way a b (rS R i) = c := fun v hva hv hw => by
      obtain ⟨hvb, p, h1, h2, h3⟩ := blocked hv
      refine ⟨p, h1, ?_, by rw [h3]; exact hw⟩
      have : ¬ p = p0 := fun e => by
        rw [e] at h3
        rcases h0 with h0 | h0
        · exact hva (h3.symm.trans h0)
        · exact hvb (h3.symm.trans h0)
      simp [h2, this]
    by_cases h30 : c < 30
    · have hk : c / 5 < 6 := by omega
      have hm : c % 5 < 5 := by omega
      unfold opn at hq
      rw [if_pos h30] at hq
      simp only [Bool.and_eq_true, bne_iff_ne, ne_eq] at hq
      apply Classical.byContradiction
      intro z
      refine hno (X_walk (k := c / 5) (m := c % 5) ha hb hk hm (fun j hj => ?_))
      apply Classical.byContradiction
      intro hv
      refine z (fin _ (fun e => hq.1 ?_) hv ?_)
      · have := (Xp_d (b := b) ha hk hm j hj).2 (c / 5) hk
        rw [e, if_pos rfl] at this; exact this.symm
      · rw [way_X ha hk hm hq.1 hq.2 hj]; omega
    · by_cases e30 : c = 30
      · apply Classical.byContradiction
        intro z
        refine hno (Y_walk ha hb (fun j hj hne => ?_))
        apply Classical.byContradiction
        intro hv
        exact z (fin _ hne hv (by rw [way_Y ha hj hne, e30]))
      · apply Classical.byContradiction
        intro z
        refine hno (Z_walk ha hb (fun j hj hne => ?_))
        apply Classical.byContradiction
        intro hv
        exact z (fin _ hne hv (by rw [way_Z ha hb hj (blocked hv).1]; omega))
  have h1 := opn_cn (a := a) (b := b)
  have h2 : cn (fun p => rL R p && p != p0) (rN R) + 1 ≤ rN R := cn_miss hp (by simp)
  have h3 := hW.1
  omega
end Ways
/-- the search of the class and the search of the model find the same -/
theorem FW_LW {R : RO} {a b fr to : Nat} {o o' : Option Nat} (hW : rW R) (ha : a < 15625) (hb : b < 15625) (hne : a ≠ b) {p0 : Nat} (hp : p0 < rN R) (h0 : rS R p0 = a ∨ rS R p0 = b) (hbr : bear R to = none) (hfr : fr < 15625) (hne2 : fr ≠ to) (hs : ∀ n, EW R fr to n ↔ EW R a b n) (hF : FW R a b o) (hL : LW R fr to o') : o = o' := by
  have hre : ∀ m, RE R a b m ↔ ∃ n, n ≤ m ∧ EW R a b n := fun m => RE_iff ha hne
  have hwd : ∀ n, Wd R fr n to ↔ EW R a b n := fun n => (Wd_iff hne2 hbr).trans (hs n)
  obtain ⟨n, hn, hE⟩ := line_short hW ha hb hp h0
  cases o' with
  | none => exact absurd ((hwd n).mpr hE) (hL n)
  | some m' =>
    obtain ⟨h1, h2⟩ := hL
    have hE' := (hwd m').mp h1
    have hm' : m' ≤ n := by
      apply Classical.byContradiction
      intro z
      exact h2 n (by omega) ((hwd n).mpr hE)
    have hap := EW_ap ha hE'
    cases o with
    | none => exact absurd ((hre m').mpr ⟨m', Nat.le_refl _, hE'⟩) (hF m' hap (by omega))
    | some m =>
      obtain ⟨a1, a2, a3, a4⟩ := hF
      obtain ⟨k, hk, hEk⟩ := (hre m).mp a3
      have h3 : m' ≤ k := by
        apply Classical.byContradiction
        intro z
        exact h2 k (by omega) ((hwd k).mpr hEk)
      have h4 : m ≤ m' := by
        apply Classical.byContradiction
        intro z
        exact a4 m' hap (by omega) ((hre m').mpr ⟨m', Nat.le_refl _, hE'⟩)
      have : m = m' := by omega
      rw [this]
theorem Wd_borne {R : RO} {fr to m : Nat} (hne : fr ≠ to) (hb : ¬ bear R to = none) : ¬ Wd R fr m to := by
  cases m with
  | zero => exact fun h => hne (show to = fr from h).symm
  | succ m => exact fun ⟨u, c, _, _, _, h⟩ => hb h
/-- a line: one answer -/
theorem line_eq {R : RO} (hW : rW R) {x y w v v' : Int32} (h : LnC R x y w v) (h' : LnM R x y w v') : v = v' := by
  unfold LnC at h
  unfold LnM at h'
  cases hp : pOf (rN R) x with
  | none => rw [hp] at h h'; exact h.trans h'.symm
  | some p => cases hs : pOf 15625 y with
    | none => rw [hp, hs] at h h'; exact h.trans h'.symm
    | some s => cases hk : pOf 2 w with
      | none => rw [hp, hs, hk] at h h'; exact h.trans h'.symm
      | some k =>
        rw [hp, hs, hk] at h h'
        simp only at h h'
        have hpl := (pOf_some hp).1
        have hsl := (pOf_some hs).1
        have hPl := hW.2.1 p hpl
        cases hl : rL R p with
        | false => rw [if_pos hl] at h h'; exact h.trans h'.symm
        | true =>
          have hl2 : ¬ rL R p = false := by rw [hl]; decide
          rw [if_neg hl2] at h h'
          obtain ⟨o', rfl, hL⟩ := h'
          by_cases e : rS R p = s
          · rw [if_pos e] at h
            rw [h]
            cases o' with
            | none => exact absurd e.symm (hL 0)
            | some m =>
              cases m with
              | zero => rfl
              | succ m => exact absurd (show Wd R (rS R p) 0 s from e.symm) (hL.2 0 (by omega))
          · rw [if_neg e] at h
            by_cases hb : bear R s = none
            · rw [if_neg (fun z => z hb)] at h
              obtain ⟨o, rfl, hF⟩ := h
              by_cases hk0 : k = 0
              · rw [if_pos hk0] at hF
                rw [FW_LW hW hPl hsl e hpl (Or.inl rfl) hb hPl e (fun n => Iff.rfl) hF hL]
              · rw [if_neg hk0] at hF
                rw [FW_LW hW hsl hPl (fun z => e z.symm) hpl (Or.inr rfl) hb hPl e (fun n => ⟨EW_sym hPl, EW_sym hsl⟩) hF hL]
            · rw [if_pos hb] at h
              rw [h]
              cases o' with
              | none => rfl
              | some m => exact absurd hL.1 (Wd_borne e hb)
