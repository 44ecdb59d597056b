/-! ===== a line told both ways; joins of branches ===== -/
theorem RE_sym {R : RO} {a b m : Nat} (ha : a < 15625) (hb : b < 15625) (hne : a ≠ b) : RE R a b m ↔ RE R b a m := by
  rw [RE_iff ha hne, RE_iff hb (fun z => hne z.symm)]
  constructor
  · rintro ⟨n, h1, h2⟩; exact ⟨n, h1, EW_sym ha h2⟩
  · rintro ⟨n, h1, h2⟩; exact ⟨n, h1, EW_sym hb h2⟩
theorem FW_two {R : RO} {a b : Nat} {o o' : Option Nat} (ha : a < 15625) (hb : b < 15625) (hne : a ≠ b) (h : FW R a b o) (h' : FW R b a o') : o = o' := by
  have hs := ap_symm a b
  cases o with
  | none =>
    cases o' with
    | none => rfl
    | some m' =>
      obtain ⟨g1, g2, g3, g4⟩ : ap b a ≤ m' ∧ m' ≤ ap b a + 2 ∧ RE R b a m' ∧ ∀ m2, ap b a ≤ m2 → m2 < m' → ¬ RE R b a m2 := h'
      have h0 : ∀ m2, ap a b ≤ m2 → m2 ≤ ap a b + 2 → ¬ RE R a b m2 := h
      exact absurd ((RE_sym ha hb hne).mpr g3) (h0 m' (by omega) (by omega))
  | some m =>
    obtain ⟨f1, f2, f3, f4⟩ : ap a b ≤ m ∧ m ≤ ap a b + 2 ∧ RE R a b m ∧ ∀ m2, ap a b ≤ m2 → m2 < m → ¬ RE R a b m2 := h
    cases o' with
    | none =>
      have h0 : ∀ m2, ap b a ≤ m2 → m2 ≤ ap b a + 2 → ¬ RE R b a m2 := h'
      exact absurd ((RE_sym ha hb hne).mp f3) (h0 m (by omega) (by omega))
    | some m' =>
      obtain ⟨g1, g2, g3, g4⟩ : ap b a ≤ m' ∧ m' ≤ ap b a + 2 ∧ RE R b a m' ∧ ∀ m2, ap b a ≤ m2 → m2 < m' → ¬ RE R b a m2 := h'
      rcases Nat.lt_trichotomy m m' with e | e | e
      · exact absurd ((RE_sym ha hb hne).mp f3) (g4 m (by omega) e)
      · rw [e]
      · exact absurd ((RE_sym ha hb hne).mpr g3) (f4 m' (by omega) e)
theorem ln_at {R : RO} {p s w : Nat} {v : Int32} (hW : rW R) (hp : p < rN R) (hs : s < 15625) (hw : w < 2) (h : LnC R (nI p) (nI s) (nI w) v) : if rL R p = false then v = -2 else if rS R p = s then v = 0 else if ¬ bear R s = none then v = -4 else ∃ o, v = e4 o ∧ (if w = 0 then FW R (rS R p) s o else FW R s (rS R p) o) := by
  unfold LnC at h
  rw [pOf_nI hp (by have := hW.1; omega), pOf_nI hs (by decide), pOf_nI hw (by decide)] at h
  exact h
/-- what a line's two answers are -/
theorem ln_two {R : RO} {p s : Nat} {v v' : Int32} (hW : rW R) (hp : p < rN R) (hs : s < 15625) (h : LnC R (nI p) (nI s) (nI 0) v) (h' : LnC R (nI p) (nI s) (nI 1) v') : v = v' := by
  have h1 := ln_at hW hp hs (by decide) h
  have h2 := ln_at hW hp hs (by decide) h'
  by_cases e1 : rL R p = false
  · rw [if_pos e1] at h1 h2; rw [h1, h2]
  · rw [if_neg e1] at h1 h2
    by_cases e2 : rS R p = s
    · rw [if_pos e2] at h1 h2; rw [h1, h2]
    · rw [if_neg e2] at h1 h2
      by_cases e3 : ¬ bear R s = none
      · rw [if_pos e3] at h1 h2; rw [h1, h2]
      · rw [if_neg e3] at h1 h2
        obtain ⟨o, rfl, f1⟩ := h1
        obtain ⟨o', rfl, f2⟩ := h2
        rw [if_pos rfl] at f1
        rw [if_neg (by decide)] at f2
        rw [FW_two (hW.2.1 p hp) hs e2 f1 f2]
theorem ln_dead {R : RO} {p s : Nat} {v : Int32} (hW : rW R) (hp : p < rN R) (hs : s < 15625) (h : LnC R (nI p) (nI s) (nI 0) v) (hl : rL R p = false) : v = -2 := by
  have h1 := ln_at hW hp hs (by decide) h
  rw [if_pos hl] at h1; exact h1
theorem ln_borne {R : RO} {p q s : Nat} {v : Int32} (hW : rW R) (hp : p < rN R) (hs : s < 15625) (h : LnC R (nI p) (nI s) (nI 0) v) (hl : rL R p = true) (hb : bear R s = some q) (hq : q ≠ p) : v = -4 := by
  have h1 := ln_at hW hp hs (by decide) h
  rw [if_neg (by rw [hl]; decide)] at h1
  have e2 : ¬ rS R p = s := fun z => by
    rw [← z, q_bear hW hp hl] at hb
    exact hq (Option.some.inj hb).symm
  rw [if_neg e2, if_pos (by rw [hb]; simp)] at h1
  exact h1
theorem ln_free {R : RO} {p s : Nat} {v : Int32} (hW : rW R) (hp : p < rN R) (hs : s < 15625) (h : LnC R (nI p) (nI s) (nI 0) v) (hl : rL R p = true) (hb : ∀ q, bear R s = some q → q = p) (h4 : ¬ v = -4) : ∃ m, m < 100 ∧ v = nI m ∧ ap s (rS R p) ≤ m ∧ (0 < m ↔ 0 < ap s (rS R p)) := by
  have h1 := ln_at hW hp hs (by decide) h
  rw [if_neg (by rw [hl]; decide)] at h1
  have hsp := hW.2.1 p hp
  by_cases e2 : rS R p = s
  · rw [if_pos e2] at h1
    refine ⟨0, by decide, h1, ?_, ?_⟩
    · rw [e2, ap_self]; exact Nat.le_refl _
    · rw [e2, ap_self]
  · rw [if_neg e2] at h1
    have hbn : bear R s = none := by
      cases hq : bear R s with
      | none => rfl
      | some q =>
        have := hb q hq
        subst this
        exact absurd (bear_some hq).2.2 e2
    rw [if_neg (fun z => z hbn)] at h1
    obtain ⟨o, h2, h3⟩ := h1
    rw [if_pos rfl] at h3
    cases o with
    | none => exact absurd h2 h4
    | some m =>
      obtain ⟨f1, f2, -⟩ : ap (rS R p) s ≤ m ∧ m ≤ ap (rS R p) s + 2 ∧ RE R (rS R p) s m ∧ _ := h3
      have h5 := ap_symm s (rS R p)
      have h6 := ap_le (rS R p) s
      have h7 : 0 < ap (rS R p) s := Nat.pos_of_ne_zero (fun z => e2 (ap_zero hsp hs z))
      exact ⟨m, by omega, h2, by omega, by omega⟩
section Joins
variable {I : KI} {Z : KZ} {M : KM} {loc : List (Option KV)} {st : List KV} {pc J : Nat} {v : Int32} {a b : KV}
theorem go_join0 (h : Go I Z M loc (vI v :: st) J) (k : (∀ v', v' = v → Go I Z M loc (vI v' :: st) J) → Go I Z M loc st pc) : Go I Z M loc st pc := k (fun v' e => e ▸ h)
theorem go_join1 (h : Go I Z M loc (vI v :: st) J) (k : (∀ v', v' = v → Go I Z M loc (vI v' :: st) J) → Go I Z M loc (a :: st) pc) : Go I Z M loc (a :: st) pc := k (fun v' e => e ▸ h)
theorem go_join2 (h : Go I Z M loc (vI v :: st) J) (k : (∀ v', v' = v → Go I Z M loc (vI v' :: st) J) → Go I Z M loc (a :: b :: st) pc) : Go I Z M loc (a :: b :: st) pc := k (fun v' e => e ▸ h)
/-- a join that pushes nothing -/
theorem go_meet1 (h : Go I Z M loc st J) (k : Go I Z M loc st J → Go I Z M loc (a :: st) pc) : Go I Z M loc (a :: st) pc := k h
theorem go_meet2 (h : Go I Z M loc st J) (k : Go I Z M loc st J → Go I Z M loc (a :: b :: st) pc) : Go I Z M loc (a :: b :: st) pc := k h
end Joins
theorem sel0 {b : Bool} {Q : Prop} (h : b = true ↔ Q) (c : ¬ Q) : (0 : Int32) = bI b := by
  cases b with
  | false => rfl
  | true => exact absurd (h.mp rfl) c
theorem sel1 {b : Bool} {Q : Prop} (h : b = true ↔ Q) (c : Q) : (1 : Int32) = bI b := by
  rw [h.mpr c]; rfl
theorem selB0 {b : Bool} (c : b = false) : (0 : Int32) = bI b := by rw [c]; rfl
theorem selB1 {b : Bool} (c : b = true) : (1 : Int32) = bI b := by rw [c]; rfl
theorem nn {x y : Int32} (h : x = y) : ¬ (x ≠ y) := fun z => z h
theorem lit_nlt {x : Int32} {a b : Nat} (e : x = nI a) (h : b ≤ a) (ha : a < 2 ^ 31) : ¬ x < nI b := e ▸ nI_nlt h ha
theorem lit_nge {x : Int32} {a b : Nat} (e : x = nI b) (h : a < b) (hb : b < 2 ^ 31) : ¬ x ≤ nI a := e ▸ nI_ge h hb
theorem cnB (Q : Nat → Bool) (k : Nat) : nI (cn Q k) + bI (Q k) = nI (cn Q (k + 1)) := by
  rw [cn_s]
  cases Q k with
  | false => exact nI_add _ 0
  | true => exact nI_add _ 1
theorem cn_big (Q : Nat → Bool) {R : RO} (hW : rW R) : cn Q (rN R) < 2 ^ 31 := by
  have := cn_le Q (rN R)
  have := hW.1
  omega
theorem opt_big {o : Option Nat} {n : Nat} (h : ∀ k, o = some k → k < n) (hn : n < 2 ^ 31) : ∀ k, o = some k → k < 2 ^ 31 := fun k hk => Nat.lt_trans (h k hk) hn
theorem rP_bg {R : RO} {p : Nat} (hW : rW R) (hp : p < rN R) : ∀ k, rP R p = some k → k < 2 ^ 31 := opt_big (rP_n hW hp) (by have := hW.1; omega)
theorem bear_bg {R : RO} {s : Nat} (hW : rW R) : ∀ k, bear R s = some k → k < 2 ^ 31 := opt_big (fun k h => bear_lt h) (by have := hW.1; omega)
theorem kin_bg {R : RO} (hW : rW R) {a b : Nat} (ha : a < rN R) (hb : b < rN R) : ∀ k, kinR R a b = some k → k < 2 ^ 31 := opt_big (kin_big hW ha hb) (by decide)
