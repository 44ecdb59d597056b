/-! ===== a line: what both sides answer ===== -/
def Nb (u v : Nat) : Prop := ∃ c, c < 30 ∧ v = wm u (c / 5) (c % 5)
theorem Nb_wm {u k m : Nat} (hk : k < 6) (hm : m < 5) : Nb u (wm u k m) := ⟨5 * k + m, by omega, by rw [show (5 * k + m) / 5 = k by omega, show (5 * k + m) % 5 = m by omega]⟩
theorem Nb_lt {u v : Nat} (hu : u < 15625) (h : Nb u v) : v < 15625 := by
  obtain ⟨c, hc, rfl⟩ := h
  exact wm_lt hu (by omega) (by omega)
theorem wm_back {u k m : Nat} (hu : u < 15625) (hk : k < 6) (hm : m < 5) : wm (wm u k m) k (mk u k) = u := mk_ext (wm_lt (wm_lt hu hk hm) hk (mk_lt _ _)) hu (fun j hj => by
  by_cases e : j = k
  · subst e; exact mk_wm (wm_lt hu hk hm) hk (mk_lt _ _)
  · rw [mk_wm_ne (wm_lt hu hk hm) hk (mk_lt _ _) hj e, mk_wm_ne hu hk hm hj e])
theorem wm_self {u k : Nat} (hu : u < 15625) (hk : k < 6) : wm u k (mk u k) = u := mk_ext (wm_lt hu hk (mk_lt _ _)) hu (fun j hj => by
  by_cases e : j = k
  · subst e; exact mk_wm hu hk (mk_lt _ _)
  · exact mk_wm_ne hu hk (mk_lt _ _) hj e)
theorem Nb_sym {u v : Nat} (hu : u < 15625) (h : Nb u v) : Nb v u := by
  obtain ⟨c, hc, rfl⟩ := h
  have := Nb_wm (u := wm u (c / 5) (c % 5)) (k := c / 5) (m := mk u (c / 5)) (by omega) (mk_lt _ _)
  rwa [wm_back hu (by omega) (by omega)] at this
/-- a walk of n steps; each shield behind the first meets A -/
def SQ (A : Nat → Prop) (a v n : Nat) : Prop := ∃ f : Nat → Nat, f 0 = a ∧ f n = v ∧ (∀ i, i < n → Nb (f i) (f (i + 1))) ∧ ∀ i, 0 < i → i ≤ n → A (f i)
theorem SQ_0 {A : Nat → Prop} {a : Nat} : SQ A a a 0 := ⟨fun _ => a, rfl, rfl, fun i hi => absurd hi (Nat.not_lt_zero _), fun i h1 h2 => by omega⟩
theorem SQ_ext {A : Nat → Prop} {a u v n : Nat} (h : SQ A a u n) (hn : Nb u v) (hA : A v) : SQ A a v (n + 1) := by
  obtain ⟨f, h0, h1, h2, h3⟩ := h
  refine ⟨fun i => if i ≤ n then f i else v, ?_, ?_, fun i hi => ?_, fun i hi1 hi2 => ?_⟩
  · show (if 0 ≤ n then f 0 else v) = a
    rw [if_pos (Nat.zero_le _)]; exact h0
  · show (if n + 1 ≤ n then f (n + 1) else v) = v
    rw [if_neg (by omega)]
  · show Nb (if i ≤ n then f i else v) (if i + 1 ≤ n then f (i + 1) else v)
    by_cases e : i = n
    · rw [if_pos (by omega), if_neg (by omega), e, h1]; exact hn
    · rw [if_pos (by omega), if_pos (by omega)]; exact h2 i (by omega)
  · show A (if i ≤ n then f i else v)
    by_cases e : i ≤ n
    · rw [if_pos e]; exact h3 i hi1 e
    · rw [if_neg e]; exact hA
theorem sq_lt {f : Nat → Nat} {n : Nat} (h0 : f 0 < 15625) (h2 : ∀ i, i < n → Nb (f i) (f (i + 1))) : ∀ i, i ≤ n → f i < 15625 := fun i => by
  induction i with
  | zero => exact fun _ => h0
  | succ i ih => exact fun hi => Nb_lt (ih (by omega)) (h2 i (by omega))
/-- a walk of n steps, free inside -/
def EW (R : RO) (a b n : Nat) : Prop := ∃ f : Nat → Nat, f 0 = a ∧ f n = b ∧ (∀ i, i < n → Nb (f i) (f (i + 1))) ∧ ∀ i, 0 < i → i < n → bear R (f i) = none
theorem EW_sym {R : RO} {a b n : Nat} (ha : a < 15625) (h : EW R a b n) : EW R b a n := by
  obtain ⟨f, h0, h1, h2, h3⟩ := h
  have hl := sq_lt (by rw [h0]; exact ha) h2
  refine ⟨fun i => f (n - i), ?_, ?_, fun i hi => ?_, fun i hi1 hi2 => h3 (n - i) (by omega) (by omega)⟩
  · show f (n - 0) = b
    rw [Nat.sub_zero]; exact h1
  · show f (n - n) = a
    rw [Nat.sub_self]; exact h0
  · show Nb (f (n - i)) (f (n - (i + 1)))
    have h4 := h2 (n - (i + 1)) (by omega)
    rw [show n - (i + 1) + 1 = n - i by omega] at h4
    exact Nb_sym (hl _ (by omega)) h4
theorem SQ_EW {R : RO} {fr to n : Nat} (h : SQ (okL R to) fr to n) : ∃ m, m ≤ n ∧ EW R fr to m := by
  obtain ⟨f, h0, h1, h2, h3⟩ := h
  cases hf : fst1 (fun i => f i == to) (n + 1) with
  | none => have := fst1_none.mp hf n (by omega); simp [h1] at this
  | some m =>
    obtain ⟨a1, a2, a3⟩ := fst1_some.mp hf
    refine ⟨m, by omega, f, h0, by simpa using a2, fun i hi => h2 i (by omega), fun i b1 b2 => ?_⟩
    rcases h3 i b1 (by omega) with e | e
    · have := a3 i b2; simp [e] at this
    · exact e
theorem EW_SQ {R : RO} {fr to n : Nat} (h : EW R fr to n) : SQ (okL R to) fr to n := by
  obtain ⟨f, h0, h1, h2, h3⟩ := h
  refine ⟨f, h0, h1, h2, fun i a b => ?_⟩
  by_cases e : i = n
  · exact Or.inl (by rw [e, h1])
  · exact Or.inr (h3 i a (by omega))
theorem cn_off {P Q : Nat → Bool} {k N : Nat} (h : ∀ i, i < N → i ≠ k → P i = Q i) : ∀ n, n ≤ N → cn P n ≤ cn Q n + 1 ∧ (n ≤ k → cn P n = cn Q n)
  | 0, _ => ⟨Nat.zero_le _, fun _ => rfl⟩
  | n + 1, hn => by
    have h1 := cn_off h n (by omega)
    rw [cn_s, cn_s]
    by_cases e : n = k
    · have := h1.2 (by omega)
      refine ⟨?_, fun z => by omega⟩
      split <;> split <;> omega
    · rw [h n (by omega) e]
      exact ⟨by omega, fun z => by have := h1.2 (by omega); omega⟩
theorem ap_nb {u v to : Nat} (hu : u < 15625) (h : Nb u v) : ap u to ≤ ap v to + 1 := by
  obtain ⟨c, hc, rfl⟩ := h
  exact (cn_off (k := c / 5) (N := 6) (fun i hi hne => by rw [mk_wm_ne hu (by omega) (by omega) hi hne]) 6 (Nat.le_refl _)).1
theorem ap_self (a : Nat) : ap a a = 0 := cn_0 (fun i _ => by simp)
theorem ap_rem {f : Nat → Nat} {n to : Nat} (h0 : f 0 < 15625) (h1 : f n = to) (h2 : ∀ i, i < n → Nb (f i) (f (i + 1))) : ∀ d i, i + d = n → ap (f i) to ≤ d := fun d => by
  induction d with
  | zero => intro i hi; rw [show i = n by omega, h1, ap_self]; exact Nat.le_refl _
  | succ d ih =>
    intro i hi
    have := ap_nb (to := to) (sq_lt h0 h2 i (by omega)) (h2 i (by omega))
    have := ih (i + 1) (by omega)
    omega
theorem EW_ap {R : RO} {a b n : Nat} (ha : a < 15625) (h : EW R a b n) : ap a b ≤ n := by
  obtain ⟨f, h0, h1, h2, -⟩ := h
  have := ap_rem (by rw [h0]; exact ha) h1 h2 n 0 (by omega)
  rwa [h0] at this
/-! what the class's search reaches -/
theorem bL_S {R : RO} {fr to most : Nat} : ∀ {k v : Nat}, (bL R fr to most k).1 v → ∃ j, j ≤ k ∧ (bL R fr to most j).2 v
  | 0, v, h => ⟨0, Nat.le_refl _, h⟩
  | k + 1, v, h => by
    by_cases e : (bL R fr to most k).1 v
    · obtain ⟨j, hj, h2⟩ := bL_S e
      exact ⟨j, by omega, h2⟩
    · rcases h with h | h
      · exact absurd h e
      · exact ⟨k + 1, Nat.le_refl _, Or.inr ⟨e, h⟩⟩
theorem bL_SQ {R : RO} {fr to most : Nat} : ∀ {k v : Nat}, (bL R fr to most k).2 v → SQ (okL R to) fr v k
  | 0, v, h => by rw [show v = fr from h]; exact SQ_0
  | k + 1, v, h => by
    rcases h with h | ⟨-, s, -, -, hA, c, hc, hv, -, hok⟩
    · exact h.elim
    · exact SQ_ext (bL_SQ hA) ⟨c, hc, hv⟩ hok
theorem bL_cp {R : RO} {fr to most n : Nat} {f : Nat → Nat} (hfr : fr < 15625) (h0 : f 0 = fr) (h1 : f n = to) (h2 : ∀ i, i < n → Nb (f i) (f (i + 1))) (h3 : ∀ i, 0 < i → i ≤ n → okL R to (f i)) (hn : n ≤ most) : ∀ i, i ≤ n → ∃ j, j ≤ i ∧ (bL R fr to most j).2 (f i) := fun i => by
  induction i with
  | zero => exact fun _ => ⟨0, Nat.le_refl _, h0⟩
  | succ i ih =>
    intro hi
    obtain ⟨j, hj, hF⟩ := ih (by omega)
    by_cases e : (bL R fr to most j).1 (f (i + 1))
    · obtain ⟨j2, hj2, h5⟩ := bL_S e
      exact ⟨j2, by omega, h5⟩
    · have hl := sq_lt (by rw [h0]; exact hfr) h2
      obtain ⟨c, hc, hv⟩ := h2 i (by omega)
      have ha := ap_rem (by rw [h0]; exact hfr) h1 h2 (n - (i + 1)) (i + 1) (by omega)
      exact ⟨j + 1, by omega, Or.inr ⟨e, f i, by have := hl i (by omega); omega, hl i (by omega), hF, c, hc, hv, by omega, h3 (i + 1) (by omega) hi⟩⟩
theorem RE_iff {R : RO} {fr to most : Nat} (hfr : fr < 15625) (hne : fr ≠ to) : RE R fr to most ↔ ∃ n, n ≤ most ∧ EW R fr to n := by
  constructor
  · rintro ⟨k, -, hk, h⟩
    obtain ⟨m, hm, h2⟩ := SQ_EW (bL_SQ h)
    exact ⟨m, by omega, h2⟩
  · rintro ⟨n, hn, h⟩
    obtain ⟨f, h0, h1, h2, h3⟩ := EW_SQ h
    obtain ⟨j, hj, hF⟩ := bL_cp hfr h0 h1 h2 h3 hn n (Nat.le_refl _)
    rw [h1] at hF
    refine ⟨j, ?_, by omega, hF⟩
    cases j with
    | zero => exact absurd (show to = fr from hF).symm hne
    | succ j => omega
