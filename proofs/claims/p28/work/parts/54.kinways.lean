/-! ===== likeness and kin, both ways and by a third one ===== -/
theorem ap_symm (a b : Nat) : ap a b = ap b a := cn_congr (fun i _ => by
  show (mk a i != mk b i) = (mk b i != mk a i)
  by_cases h : mk a i = mk b i
  · rw [h]
  · have h2 : ¬ mk b i = mk a i := fun z => h z.symm
    show (!(mk a i == mk b i)) = (!(mk b i == mk a i))
    rw [beq_eq_false_iff_ne.mpr h, beq_eq_false_iff_ne.mpr h2])
theorem cn_or {P Q S : Nat → Bool} : ∀ {n : Nat}, (∀ i, i < n → P i = true → Q i = true ∨ S i = true) → cn P n ≤ cn Q n + cn S n
  | 0, _ => Nat.le_refl _
  | n + 1, h => by
    have h1 := cn_or (n := n) (fun i hi => h i (by omega))
    rw [cn_s, cn_s, cn_s]
    cases hp : P n with
    | false => simp; omega
    | true =>
      rcases h n (by omega) hp with h2 | h2
      · rw [h2]; simp; omega
      · rw [h2]; simp; omega
theorem ap_tri (a b c : Nat) : ap a c ≤ ap a b + ap b c := cn_or (fun i _ h => by
  have h1 : ¬ mk a i = mk c i := by simpa using h
  by_cases h2 : mk a i = mk b i
  · right
    have h3 : ¬ mk b i = mk c i := fun z => h1 (h2.trans z)
    simpa using h3
  · left
    simpa using h2)
theorem ap_zero {a b : Nat} (ha : a < 15625) (hb : b < 15625) (h : ap a b = 0) : a = b := mk_ext ha hb (fun j hj => by
  refine Classical.byContradiction fun z => ?_
  have : 0 < ap a b := cn_pos hj (by simpa using z)
  omega)
theorem q_apart {R : RO} (hW : rW R) {p q : Nat} (hp : p < rN R) (hq : q < rN R) (h1 : rL R p = true) (h2 : rL R q = true) (hne : ¬ p = q) : 0 < ap (rS R p) (rS R q) := by
  refine Nat.pos_of_ne_zero (fun z => hne ?_)
  exact hW.2.2.2.2 p q hp hq h1 h2 (ap_zero (hW.2.1 p hp) (hW.2.1 q hq) z)
theorem kin_sym {R : RO} (hW : rW R) : ∀ (d a b : Nat), a + b < d → a < rN R → b < rN R → kinR R a b = kinR R b a := by
  intro d
  induction d with
  | zero => intro a b h; exact absurd h (Nat.not_lt_zero _)
  | succ d ih =>
    intro a b hd ha hb
    rcases Nat.lt_trichotomy a b with h | h | h
    · rw [kin_lt hW ha hb h, kin_gt hW hb ha h]
      cases hg : rP R b with
      | none => rfl
      | some g =>
        have := rP_lt hW hb g hg
        show (kinR R a g).map _ = (kinR R g a).map _
        rw [ih a g (by omega) ha (by omega)]
    · rw [h]
    · rw [kin_gt hW ha hb h, kin_lt hW hb ha h]
      cases hg : rP R a with
      | none => rfl
      | some g =>
        have := rP_lt hW ha g hg
        show (kinR R g b).map _ = (kinR R b g).map _
        rw [ih g b (by omega) (by omega) hb]
theorem kin_step {R : RO} (hW : rW R) {x y : Nat} (hx : x < rN R) (hy : rP R x = some y) : ∀ (d b : Nat), b < d → b < rN R → (∀ k, kinR R x b = some k → ∃ k', k' ≤ k + 1 ∧ kinR R y b = some k') ∧ (∀ k, kinR R y b = some k → ∃ k', k' ≤ k + 1 ∧ kinR R x b = some k') := by
  have hyx := rP_lt hW hx y hy
  intro d
  induction d with
  | zero => intro b h; exact absurd h (Nat.not_lt_zero _)
  | succ d ih =>
    intro b hd hb
    rcases Nat.lt_trichotomy x b with h | h | h
    · have e1 := kin_lt hW hx hb h
      have e2 := kin_lt hW (show y < rN R by omega) hb (show y < b by omega)
      cases hg : rP R b with
      | none =>
        rw [hg] at e1 e2
        exact ⟨fun k hk => (by rw [e1] at hk; cases hk), fun k hk => (by rw [e2] at hk; cases hk)⟩
      | some g =>
        rw [hg] at e1 e2
        have hgb := rP_lt hW hb g hg
        have e1' : kinR R x b = (kinR R x g).map (fun x => x + 1) := e1
        have e2' : kinR R y b = (kinR R y g).map (fun x => x + 1) := e2
        obtain ⟨i1, i2⟩ := ih g (by omega) (by omega)
        constructor
        · intro k hk
          rw [e1'] at hk
          obtain ⟨k0, h0, h1⟩ := Option.map_eq_some_iff.mp hk
          obtain ⟨k', h2, h3⟩ := i1 k0 h0
          exact ⟨k' + 1, by omega, by rw [e2', h3]; rfl⟩
        · intro k hk
          rw [e2'] at hk
          obtain ⟨k0, h0, h1⟩ := Option.map_eq_some_iff.mp hk
          obtain ⟨k', h2, h3⟩ := i2 k0 h0
          exact ⟨k' + 1, by omega, by rw [e1', h3]; rfl⟩
    · subst h
      have e1 : kinR R y x = some 1 := by
        rw [kin_lt hW (by omega) hx hyx, hy]
        show (kinR R y y).map _ = _
        rw [kin_self]; rfl
      exact ⟨fun k hk => ⟨1, by omega, e1⟩, fun k hk => ⟨0, by omega, kin_self x⟩⟩
    · have e1 : kinR R x b = (kinR R y b).map (fun x => x + 1) := by
        rw [kin_gt hW hx hb h, hy]; rfl
      constructor
      · intro k hk
        rw [e1] at hk
        obtain ⟨k0, h0, h1⟩ := Option.map_eq_some_iff.mp hk
        exact ⟨k0, by omega, h0⟩
      · intro k hk
        exact ⟨k + 1, by omega, by rw [e1, hk]; rfl⟩
theorem kin_tri {R : RO} (hW : rW R) {c : Nat} (hc : c < rN R) : ∀ (d a b k j : Nat), a + b < d → a < rN R → b < rN R → kinR R a b = some k → kinR R b c = some j → ∃ i, i ≤ k + j ∧ kinR R a c = some i := by
  intro d
  induction d with
  | zero => intro a b k j h; exact absurd h (Nat.not_lt_zero _)
  | succ d ih =>
    intro a b k j hd ha hb h1 h2
    rcases Nat.lt_trichotomy a b with h | h | h
    · rw [kin_lt hW ha hb h] at h1
      cases hg : rP R b with
      | none => rw [hg] at h1; cases h1
      | some g =>
        rw [hg] at h1
        have hgb := rP_lt hW hb g hg
        obtain ⟨k0, h3, h4⟩ := Option.map_eq_some_iff.mp (show (kinR R a g).map (fun x => x + 1) = some k from h1)
        obtain ⟨j', h5, h6⟩ := (kin_step hW hb hg (c + 1) c (by omega) hc).1 j h2
        obtain ⟨i, h7, h8⟩ := ih a g k0 j' (by omega) ha (by omega) h3 h6
        exact ⟨i, by omega, h8⟩
    · subst h
      exact ⟨j, by omega, h2⟩
    · rw [kin_gt hW ha hb h] at h1
      cases hg : rP R a with
      | none => rw [hg] at h1; cases h1
      | some g =>
        rw [hg] at h1
        have hga := rP_lt hW ha g hg
        obtain ⟨k0, h3, h4⟩ := Option.map_eq_some_iff.mp (show (kinR R g b).map (fun x => x + 1) = some k from h1)
        obtain ⟨i, h5, h6⟩ := ih g b k0 j (by omega) (by omega) hb h3 h2
        obtain ⟨i', h7, h8⟩ := (kin_step hW ha hg (c + 1) c (by omega) hc).2 i h6
        exact ⟨i', by omega, h8⟩
theorem kin_le {R : RO} (hW : rW R) : ∀ (d a b k : Nat), a + b < d → a < rN R → b < rN R → kinR R a b = some k → k ≤ a + b ∧ (k = 0 ↔ a = b) := by
  intro d
  induction d with
  | zero => intro a b k h; exact absurd h (Nat.not_lt_zero _)
  | succ d ih =>
    intro a b k hd ha hb h1
    rcases Nat.lt_trichotomy a b with h | h | h
    · rw [kin_lt hW ha hb h] at h1
      cases hg : rP R b with
      | none => rw [hg] at h1; cases h1
      | some g =>
        rw [hg] at h1
        have hgb := rP_lt hW hb g hg
        obtain ⟨k0, h3, h4⟩ := Option.map_eq_some_iff.mp (show (kinR R a g).map (fun x => x + 1) = some k from h1)
        have := ih a g k0 (by omega) ha (by omega) h3
        omega
    · subst h
      rw [kin_self] at h1
      cases h1
      omega
    · rw [kin_gt hW ha hb h] at h1
      cases hg : rP R a with
      | none => rw [hg] at h1; cases h1
      | some g =>
        rw [hg] at h1
        have hga := rP_lt hW ha g hg
        obtain ⟨k0, h3, h4⟩ := Option.map_eq_some_iff.mp (show (kinR R g b).map (fun x => x + 1) = some k from h1)
        have := ih g b k0 (by omega) (by omega) hb h3
        omega
theorem kin_big {R : RO} (hW : rW R) {a b : Nat} (ha : a < rN R) (hb : b < rN R) : ∀ k, kinR R a b = some k → k < 100 := fun k h => by
  have := (kin_le hW (a + b + 1) a b k (by omega) ha hb h).1
  have := hW.1
  omega
/-- sums over pairs -/
theorem sm_le_mul {F G : Nat → Nat} {c : Nat} : ∀ {n : Nat}, (∀ i, i < n → F i ≤ c * G i) → sm F n ≤ c * sm G n
  | 0, _ => Nat.zero_le _
  | n + 1, h => by
    have h1 := sm_le_mul (n := n) (fun i hi => h i (by omega))
    have h2 := h n (by omega)
    show sm F n + F n ≤ c * (sm G n + G n)
    rw [Nat.mul_add]
    omega
theorem psum_le_mul {F G : Nat → Nat → Nat} {c n : Nat} (h : ∀ a b, a < b → b < n → F a b ≤ c * G a b) : psum F n n ≤ c * psum G n n := sm_le_mul (fun a ha => sm_le_mul (fun b hb => by
  by_cases e : a < b
  · rw [if_pos e, if_pos e]; exact h a b e hb
  · rw [if_neg e]; exact Nat.zero_le _))
theorem sm_pos {F : Nat → Nat} : ∀ {n i : Nat}, i < n → 0 < F i → 0 < sm F n
  | 0, _, h, _ => absurd h (Nat.not_lt_zero _)
  | n + 1, i, h, hf => by
    show 0 < sm F n + F n
    by_cases e : i = n
    · subst e; omega
    · have := sm_pos (n := n) (i := i) (by omega) hf
      omega
theorem psum_pos {F : Nat → Nat → Nat} {n a b : Nat} (hab : a < b) (hb : b < n) (h : 0 < F a b) : 0 < psum F n n := sm_pos (i := a) (by omega) (sm_pos (i := b) hb (by rw [if_pos hab]; exact h))
theorem psum_0 {F : Nat → Nat → Nat} {n : Nat} (h : ∀ a b, a < b → b < n → F a b = 0) : psum F n n = 0 := sm_0 (fun a ha => sm_0 (fun b hb => by
  by_cases e : a < b
  · rw [if_pos e]; exact h a b e hb
  · rw [if_neg e]))
theorem prow_le {F : Nat → Nat → Nat} {a : Nat} (h : ∀ b, F a b ≤ 1) : ∀ n, prow F a n ≤ n - 1 - a
  | 0 => Nat.zero_le _
  | n + 1 => by
    by_cases e : a < n
    · rw [prow_s e]
      have h1 := prow_le h n
      have h2 := h n
      omega
    · rw [prow_0 (by omega)]; exact Nat.zero_le _
theorem sm_len {F : Nat → Nat} {n : Nat} : ∀ (d : Nat), sm F n ≤ sm F (n + d)
  | 0 => Nat.le_refl _
  | d + 1 => Nat.le_trans (sm_len d) (Nat.le_add_right _ _)
theorem bN_le (b : Bool) : bN b ≤ 1 := by cases b <;> decide
theorem q_prN {R : RO} (hW : rW R) : prN R ≤ 190 := by
  have hn := hW.1
  have h1 : prN R ≤ sm (fun a => 19 - a) (rN R) := sm_mono (fun a ha => by
    have := prow_le (F := fun a b => bN (bothL R a b)) (a := a) (fun b => bN_le _) (rN R)
    omega)
  have h2 : sm (fun a => 19 - a) (rN R) ≤ sm (fun a => 19 - a) (rN R + (20 - rN R)) := sm_len _
  have h3 : sm (fun a => 19 - a) 20 = 190 := by decide
  rw [show rN R + (20 - rN R) = 20 by omega, h3] at h2
  omega
theorem one_of_cn {P : Nat → Bool} : ∀ {n : Nat}, 1 ≤ cn P n → ∃ j, j < n ∧ P j = true
  | 0, h => absurd h (by show ¬ 1 ≤ 0; decide)
  | n + 1, h => by
    cases hp : P n with
    | true => exact ⟨n, by omega, hp⟩
    | false =>
      rw [cn_f hp] at h
      obtain ⟨j, h1, h2⟩ := one_of_cn h
      exact ⟨j, by omega, h2⟩
theorem two_of_cn {P : Nat → Bool} : ∀ {n : Nat}, 2 ≤ cn P n → ∃ j k, j < k ∧ k < n ∧ P j = true ∧ P k = true
  | 0, h => absurd h (by show ¬ 2 ≤ 0; decide)
  | n + 1, h => by
    cases hp : P n with
    | true =>
      rw [cn_t hp] at h
      obtain ⟨j, h1, h2⟩ := one_of_cn (P := P) (n := n) (by omega)
      exact ⟨j, n, h1, by omega, h2, hp⟩
    | false =>
      rw [cn_f hp] at h
      obtain ⟨j, k, h1, h2, h3⟩ := two_of_cn h
      exact ⟨j, k, h1, by omega, h3⟩
theorem q_prN0 {R : RO} : prN R = 0 ↔ cn (rL R) (rN R) ≤ 1 := by
  constructor
  · intro h
    refine Classical.byContradiction fun z => ?_
    obtain ⟨j, k, h1, h2, h3, h4⟩ := two_of_cn (P := rL R) (n := rN R) (by omega)
    have : 0 < prN R := psum_pos h1 h2 (by show 0 < bN (rL R j && rL R k); rw [h3, h4]; decide)
    omega
  · intro h
    refine psum_0 (fun a b hab hb => ?_)
    show bN (rL R a && rL R b) = 0
    cases h1 : rL R a with
    | false => rfl
    | true =>
      cases h2 : rL R b with
      | false => rfl
      | true =>
        have := cn_two (P := rL R) (n := rN R) (show a < rN R by omega) hb (by omega) h1 h2
        omega
theorem q_apN {R : RO} (hW : rW R) : prN R ≤ apN R ∧ apN R ≤ 6 * prN R := by
  constructor
  · have : prN R ≤ 1 * apN R := psum_le_mul (fun a b hab hb => by
      show bN (bothL R a b) ≤ 1 * (if bothL R a b = true then ap (rS R a) (rS R b) else 0)
      by_cases e : bothL R a b = true
      · rw [if_pos e, e]
        have h2 : rL R a = true ∧ rL R b = true := by simpa [bothL] using e
        have := q_apart hW (show a < rN R by omega) hb h2.1 h2.2 (by omega)
        show 1 ≤ 1 * _
        omega
      · have e2 : bothL R a b = false := by simpa using e
        rw [e2]; exact Nat.zero_le _)
    omega
  · exact psum_le_mul (fun a b hab hb => by
      show (if bothL R a b = true then ap (rS R a) (rS R b) else 0) ≤ 6 * bN (bothL R a b)
      by_cases e : bothL R a b = true
      · rw [if_pos e, e]
        exact ap_le _ _
      · rw [if_neg e]; exact Nat.zero_le _)
