/-! ===== what deeds keep ===== -/
theorem rW_ref {R : RO} (h : rW R) : rW (rRef R) := h
theorem rW_die {R : RO} {d : Nat} (h : rW R) : rW (rDie R d) := by
  refine ⟨h.1, h.2.1, h.2.2.1, h.2.2.2.1, fun p q hp hq h1 h2 h3 => ?_⟩
  have e : ∀ x, rL (rDie R d) x = true → rL R x = true := fun x hx => by
    have hx2 : (if x = d then false else rL R x) = true := hx
    by_cases e : x = d
    · rw [if_pos e] at hx2; cases hx2
    · rw [if_neg e] at hx2; exact hx2
  exact h.2.2.2.2 p q hp hq (e p h1) (e q h2) h3
theorem bear_none {R : RO} {s : Nat} (h : bear R s = none) : ∀ p, p < rN R → rL R p = true → rS R p ≠ s := fun p hp hl he => by
  have := fst1_none.mp h p hp
  rw [hl, show (rS R p == s) = true from by simpa using he] at this
  cases this
theorem rW_heir {R : RO} {d s : Nat} (h : rW R) (hs : s < 15625) (hb : bear R s = none) : rW (rHeir R d s) := by
  refine ⟨h.1, fun p hp => ?_, h.2.2.1, h.2.2.2.1, fun p q hp hq h1 h2 h3 => ?_⟩
  · show (if p = d then s else rS R p) < 15625
    split
    · exact hs
    · exact h.2.1 p hp
  · have h3' : (if p = d then s else rS R p) = (if q = d then s else rS R q) := h3
    by_cases e1 : p = d <;> by_cases e2 : q = d
    · omega
    · rw [if_pos e1, if_neg e2] at h3'
      exact absurd h3'.symm (bear_none hb q hq h2)
    · rw [if_neg e1, if_pos e2] at h3'
      exact absurd h3' (bear_none hb p hp h1)
    · rw [if_neg e1, if_neg e2] at h3'
      exact h.2.2.2.2 p q hp hq h1 h2 h3'
theorem rB_add {R : RO} {s p : Nat} {b : Option (Nat × Nat × Nat)} : rB (rAdd R s b) p = if p = rN R then b else rB R p := rfl
theorem sons_add {R : RO} {s : Nat} {b : Option (Nat × Nat × Nat)} (f : Nat) : cn (fun i => rP (rAdd R s b) i == some f) (rN R + 1) = sonsN R f + (if (b.map (fun b => b.1) == some f) = true then 1 else 0) := by
  rw [cn_s]
  congr 1
  · refine cn_congr (fun i hi => ?_)
    show ((if i = rN R then b else rB R i).map _ == some f) = _
    rw [if_neg (by omega)]; rfl
  · show (if ((if rN R = rN R then b else rB R (rN R)).map _ == some f) = true then 1 else 0) = _
    rw [if_pos rfl]
theorem rW_add {R : RO} {s : Nat} {b : Option (Nat × Nat × Nat)} (h : rW R) (hn : rN R < 20) (hs : s < 15625) (hb : bear R s = none) (hbb : ∀ f k m, b = some (f, k, m) → f < rN R ∧ k < 6 ∧ m < 5 ∧ sonsN R f < 4) : rW (rAdd R s b) := by
  refine ⟨hn, fun p hp => ?_, fun p f k m hp hq => ?_, fun f => ?_, fun p q hp hq h1 h2 h3 => ?_⟩
  · show (if p = rN R then s else rS R p) < 15625
    have hp' : p < rN R + 1 := hp
    by_cases e : p = rN R
    · rw [if_pos e]; exact hs
    · rw [if_neg e]; exact h.2.1 p (by omega)
  · have hp' : p < rN R + 1 := hp
    rw [rB_add] at hq
    by_cases e : p = rN R
    · rw [if_pos e] at hq
      have := hbb f k m hq
      exact ⟨by omega, this.2.1, this.2.2.1⟩
    · rw [if_neg e] at hq
      exact h.2.2.1 p f k m (by omega) hq
  · show cn (fun i => rP (rAdd R s b) i == some f) (rN R + 1) ≤ 4
    rw [sons_add]
    have := sonsN_le h f
    by_cases e : (b.map (fun b => b.1) == some f) = true
    · rw [if_pos e]
      cases b with
      | none => cases e
      | some b =>
        obtain ⟨f2, k, m⟩ := b
        have e2 : f2 = f := by simpa using e
        subst e2
        have := (hbb f2 k m rfl).2.2.2
        omega
    · rw [if_neg e]; exact this
  · have hp' : p < rN R + 1 := hp
    have hq' : q < rN R + 1 := hq
    have h1' : (if p = rN R then true else rL R p) = true := h1
    have h2' : (if q = rN R then true else rL R q) = true := h2
    have h3' : (if p = rN R then s else rS R p) = (if q = rN R then s else rS R q) := h3
    by_cases e1 : p = rN R <;> by_cases e2 : q = rN R
    · omega
    · rw [if_neg e2] at h2'
      rw [if_pos e1, if_neg e2] at h3'
      exact absurd h3'.symm (bear_none hb q (by omega) h2')
    · rw [if_neg e1] at h1'
      rw [if_neg e1, if_pos e2] at h3'
      exact absurd h3' (bear_none hb p (by omega) h1')
    · rw [if_neg e1] at h1'
      rw [if_neg e2] at h2'
      rw [if_neg e1, if_neg e2] at h3'
      exact h.2.2.2.2 p q (by omega) (by omega) h1' h2' h3'
theorem rW_found {R : RO} (h : rW R) (x : Int32) : rW (dFound R x).2 := by
  unfold dFound
  split
  · exact h
  · rename_i s hs
    split
    · exact h
    · split
      · exact h
      · rename_i h1 h2
        exact rW_add h (by omega) (pOf_some hs).1 (Classical.not_not.mp h2) (fun f k m z => by cases z)
theorem why_z {R : RO} {f k m : Nat} (h : whyS R f k m = 0) : rL R f = true ∧ bear R (wm (rS R f) k m) = none ∧ sonsN R f < 4 := by
  unfold whyS at h
  split at h
  · cases h
  · split at h
    · cases h
    · split at h
      · cases h
      · split at h
        · cases h
        · split at h
          · cases h
          · rename_i h1 h2 h3 h4 h5
            exact ⟨by simpa using h1, Classical.not_not.mp h3, by omega⟩
theorem rW_bear {R : RO} (h : rW R) (x y z : Int32) : rW (dBear R x y z).2 := by
  unfold dBear
  split
  · rename_i f k m hf hk hm
    split
    · exact h
    · split
      · exact h
      · rename_i h1 h2
        have h3 := why_z (Classical.not_not.mp h2)
        have hf1 := (pOf_some hf).1
        have hk1 := (pOf_some hk).1
        have hm1 := (pOf_some hm).1
        exact rW_add h (by omega) (wm_lt (h.2.1 f hf1) hk1 hm1) h3.2.1 (fun f2 k2 m2 e => by cases e; exact ⟨hf1, hk1, hm1, h3.2.2⟩)
  · exact h
theorem rW_dDie {R : RO} (h : rW R) (x : Int32) : rW (dDie R x).2 := by
  unfold dDie
  split
  · exact h
  · split
    · exact h
    · exact rW_die h
theorem whyH_z {R : RO} {p : Nat} (h : whyH R p = 0) : ∃ f, rP R p = some f ∧ rL R f = false ∧ eldB R p = false ∧ bear R (rS R f) = none := by
  unfold whyH at h
  split at h
  · cases h
  · rename_i f hf
    split at h
    · cases h
    · split at h
      · cases h
      · split at h
        · cases h
        · rename_i h1 h2 h3
          exact ⟨f, hf, by simpa using h1, by simpa using h2, Classical.not_not.mp h3⟩
theorem rW_dHeir {R : RO} (h : rW R) (x : Int32) : rW (dHeir R x).2 := by
  unfold dHeir
  split
  · exact h
  · rename_i p hp
    split
    · exact h
    · split
      · exact h
      · rename_i h1 h2
        obtain ⟨f, hf, -, -, hb⟩ := whyH_z (Classical.not_not.mp h2)
        rw [hf]
        exact rW_heir h (h.2.1 f (rP_n h (pOf_some hp).1 f hf)) hb
/-! ===== answers ===== -/
def aMark (R : RO) (x y : Int32) : Int32 := match pOf (rN R) x, pOf 6 y with
  | some p, some k => nI (mk (rS R p) k)
  | _, _ => -1
def aWhyNot (R : RO) (x y z : Int32) : Int32 := match pOf (rN R) x, pOf 6 y, pOf 5 z with
  | some f, some k, some m => nI (whyS R f k m)
  | _, _, _ => -1
def aChoices (R : RO) (x w : Int32) : Int32 := match pOf (rN R) x, pOf 2 w with
  | some f, some _ => nI (left1 R f)
  | _, _ => -1
def aBest (R : RO) (x : Int32) : Int32 := match pOf (rN R) x with
  | some f => e4 (bestR R f)
  | none => -1
def aDiffers (R : RO) (x y : Int32) : Int32 := match pOf (rN R) x, pOf (rN R) y with
  | some p, some q => nI (ap (rS R p) (rS R q))
  | _, _ => -1
def aKin (R : RO) (x y : Int32) : Int32 := match pOf (rN R) x, pOf (rN R) y with
  | some p, some q => e4 (kinR R p q)
  | _, _ => -1
def aBearer (R : RO) (x : Int32) : Int32 := match pOf 15625 x with
  | some s => e4 (bear R s)
  | none => -1
def aBorne (R : RO) (y z : Int32) : Int32 := match pOf 6 y, pOf 5 z with
  | some k, some m => nI (cn (fun i => rL R i && mk (rS R i) k == m) (rN R))
  | _, _ => -1
def pers (R : RO) (p : Nat) : Nat → Int32
  | 0 => nI (rS R p)
  | 1 => bI (rL R p)
  | 2 => e4 (rP R p)
  | 3 => e4 (rK R p)
  | 4 => e4 (rM R p)
  | 5 => nI (sonsN R p)
  | 6 => nI (cn (fun i => rL R i && rP R i == some p) (rN R))
  | 7 => nI (cn (fun i => rL R i && br R (some i) (some p)) (rN R))
  | 8 => nI (cn (fun i => rL R i && br R (rP R i) (rP R p)) (rN R))
  | 9 => nI (cn (fun q => decide (p < q) && anc R p q) (rN R))
  | 10 => nI (depth R p)
  | _ => e4 (pF R p)
def aPerson (R : RO) (x w : Int32) : Int32 := match pOf (rN R) x, pOf 12 w with
  | some p, some k => pers R p k
  | _, _ => -1
def numR (R : RO) (pad hist : Nat) : Nat → Int32
  | 0 => nI (rN R)
  | 1 => nI (cn (rL R) (rN R))
  | 2 => nI (cn (fun i => rP R i == none) (rN R))
  | 3 => nI (confN R)
  | 4 => nI (mx (depth R) (rN R))
  | 5 => nI (cn (newS R) (rN R))
  | 6 => nI (cn (fun i => rL R i && (match pF R i with | some k => decide (1 < k) | none => false)) (rN R))
  | 7 => nI (cn (fun i => rL R i && sonsN R i == 0) (rN R))
  | 8 => nI (rH R)
  | 9 => nI (rF R)
  | 10 => nI pad
  | _ => nI hist
def aCount (R : RO) (pad hist : Nat) (w : Int32) : Int32 := match pOf 12 w with
  | some k => numR R pad hist k
  | none => -1
def aIfDead (R : RO) (x w : Int32) : Int32 := match pOf (rN R) x, pOf 3 w with
  | some p, some k => if rL R p = false then -2 else if k = 0 then e4 (fst1 (fun j => rL (rDie R p) j && rP R j == some p) (rN R)) else if k = 1 then nI (confN (rDie R p)) else nI (sm (left1 (rDie R p)) (rN R))
  | _, _ => -1
theorem pOf_out {n : Nat} {x : Int32} (h : x.toInt < 0 ∨ (n : Int) - 1 < x.toInt) : pOf n x = none := by
  unfold pOf
  rw [if_neg (by omega)]
theorem pOf12_out {x : Int32} (h : pOf 12 x = none) : x.toInt < 0 ∨ (11 : Int) < x.toInt := by
  rcases pOf_none h with h | h
  · exact Or.inl h
  · exact Or.inr (by omega)
theorem isSome_f {α : Type} {o : Option α} (h : o.isSome = false) : o = none := by cases o; rfl; cases h
theorem isSome_t {α : Type} {o : Option α} (h : o.isSome = true) : ∃ k, o = some k := by cases o with | none => cases h | some k => exact ⟨k, rfl⟩
theorem ok_orNF {M : KM} {a : Option Nat} (ha : ∀ k, a = some k → k < 2 ^ 31) : OkF mX9_orNotFound [vI (e1 a)] M (some (vI (e4 a))) M := by
  refine ok_of (by decide) rfl (Nat.le_of_ble_eq_true rfl) ⟨rfl, rfl⟩ ?_
  show Go mX9_orNotFound (Zm (QF (some (vI (e4 a))) M)) M [some (vI (e1 a))] [] 0
  refine go_iload_n (q := 1) dX9_orNotFound_0 rfl rfl rfl ?_
  refine go_if_ge (q := 4) (t := 9) dX9_orNotFound_1 (by decide) rfl (fun c_1 => ?_) (fun c_1 => ?_)
  · refine go_iload_n (q := 10) dX9_orNotFound_9 rfl rfl rfl ?_
    exact go_ri dX9_orNotFound_10 rfl (by cases a with | none => exact absurd c_1 (by decide) | some k => rfl) rfl
  · refine go_bipush (q := 6) (v := (-4)) dX9_orNotFound_4 (by decide) rfl ?_
    refine go_goto (q := 10) dX9_orNotFound_6 (by decide) ?_
    exact go_ri dX9_orNotFound_10 rfl (by cases a with | none => rfl | some k => exact absurd (nI_pos' (ha k rfl)) c_1) rfl
theorem way_iff {x : Int32} : (pOf 2 x).isSome = true ↔ x = 0 ∨ x = 1 := by
  rw [pOf_iff]
  have e0 : (0 : Int32).toInt = 0 := by decide
  have e1 : (1 : Int32).toInt = 1 := by decide
  rw [← Int32.toInt_inj, ← Int32.toInt_inj, e0, e1]
  omega
theorem way_t {x : Int32} (h : x = 0 ∨ x = 1) : (pOf 2 x).isSome = true := way_iff.mpr h
theorem way_f {x : Int32} (h : ¬ x = 0) (h1 : ¬ x = 1) : (pOf 2 x).isSome = false := by
  rw [← Bool.not_eq_true]
  intro z
  rcases way_iff.mp z with z | z
  · exact h z
  · exact h1 z
theorem ok_isWay {M : KM} (x : Int32) : OkF mX9_isWay [vI x] M (some (vI (bI (pOf 2 x).isSome))) M := by
  refine ok_of (by decide) rfl (Nat.le_of_ble_eq_true rfl) ⟨rfl, rfl⟩ ?_
  show Go mX9_isWay (Zm (QF (some (vI (bI (pOf 2 x).isSome))) M)) M [some (vI x)] [] 0
  refine go_iload_n (q := 1) dX9_isWay_0 rfl rfl rfl ?_
  refine go_if_eq (q := 4) (t := 9) dX9_isWay_1 (by decide) rfl (fun c_1 => ?_) (fun c_1 => ?_)
  · refine go_iconst (q := 10) (v := 1) dX9_isWay_9 (by decide) rfl ?_
    refine go_goto (q := 14) dX9_isWay_10 (by decide) ?_
    exact go_rz dX9_isWay_14 rfl (by rw [way_t (Or.inl c_1)]; rfl) rfl
  · refine go_iload_n (q := 5) dX9_isWay_4 rfl rfl rfl ?_
    refine go_iconst (q := 6) (v := 1) dX9_isWay_5 (by decide) rfl ?_
    refine go_icmp_ne (q := 9) (t := 13) dX9_isWay_6 (by decide) rfl (fun c_6 => ?_) (fun c_6 => ?_)
    · refine go_iconst (q := 14) (v := 0) dX9_isWay_13 (by decide) rfl ?_
      exact go_rz dX9_isWay_14 rfl (by rw [way_f c_1 c_6]; rfl) rfl
    · refine go_iconst (q := 10) (v := 1) dX9_isWay_9 (by decide) rfl ?_
      refine go_goto (q := 14) dX9_isWay_10 (by decide) ?_
      exact go_rz dX9_isWay_14 rfl (by rw [way_t (Or.inr (Classical.not_not.mp c_6))]; rfl) rfl
theorem ok_mark {M : KM} {R : RO} (hR : RA M 0 R) (hW : rW R) (x y : Int32) : OkF mX9_mark [vR 0 0, vI x, vI y] M (some (vI (aMark R x y))) M := by
  refine ok_of (by decide) rfl (Nat.le_of_ble_eq_true rfl) ⟨rfl, rfl⟩ ?_
  show Go mX9_mark (Zm (QF (some (vI (aMark R x y))) M)) M [some (vR 0 0), some (vI x), some (vI y)] [] 0
  refine go_aload_n (q := 1) dX9_mark_0 rfl rfl rfl ?_
  refine go_getf (q := 4) dX9_mark_1 fRX9_10 rfl (by decide) rfl rfl ?_
  refine go_iload_n (q := 5) dX9_mark_4 rfl rfl rfl ?_
  refine go_cV1 (cal := mX6_has) (q := 8) dX9_mark_5 lRX9_121 vX6_has ⟨by decide, by decide⟩ rfl (by decide) (Nat.le_of_ble_eq_true rfl) (ok_has (by decide) hR _) rfl ?_
  refine go_if_eqB (q := 11) (t := 18) dX9_mark_8 (by decide) rfl (fun c_8 => ?_) (fun c_8 => ?_)
  · refine go_iconst (q := 19) (v := (-1)) dX9_mark_18 (by decide) rfl ?_
    exact go_ri dX9_mark_19 rfl (by simp [aMark, isSome_f c_8]) rfl
  · refine go_iload_n (q := 12) dX9_mark_11 rfl rfl rfl ?_
    refine go_cS1 (cal := mX8_isPlace) (q := 15) dX9_mark_12 lRX9_166 vX8_isPlace ⟨by decide, by decide⟩ (Nat.le_of_ble_eq_true rfl) (ok_isPlace M _) rfl ?_
    refine go_if_neB (q := 18) (t := 20) dX9_mark_15 (by decide) rfl (fun c_15 => ?_) (fun c_15 => ?_)
    · obtain ⟨p, hp⟩ := isSome_t c_8
      obtain ⟨hlt, rfl⟩ := pOf_some hp
      obtain ⟨k, hk⟩ := isSome_t c_15
      obtain ⟨hkl, rfl⟩ := pOf_some hk
      refine go_aload_n (q := 21) dX9_mark_20 rfl rfl rfl ?_
      refine go_getf (q := 24) dX9_mark_21 fRX9_10 rfl (by decide) rfl rfl ?_
      refine go_iload_n (q := 25) dX9_mark_24 rfl rfl rfl ?_
      refine go_cV1 (cal := mX6_shieldOf) (q := 28) dX9_mark_25 lRX9_124 vX6_shieldOf ⟨by decide, by decide⟩ rfl (by decide) (Nat.le_of_ble_eq_true rfl) (ok_shieldOf (by decide) hR _) rfl ?_
      rw [hp, oS_some]
      refine go_iload_n (q := 29) dX9_mark_28 rfl rfl rfl ?_
      refine go_cS2 (cal := mX8_markAt) (q := 32) dX9_mark_29 lRX9_171 vX8_markAt ⟨by decide, by decide⟩ (Nat.le_of_ble_eq_true rfl) (ok_markAt (by have := hW.2.1 p hlt; omega) hkl) rfl ?_
      exact go_ri dX9_mark_32 rfl (by simp [aMark, hp, hk]) rfl
    · refine go_iconst (q := 19) (v := (-1)) dX9_mark_18 (by decide) rfl ?_
      exact go_ri dX9_mark_19 rfl (by simp [aMark, isSome_f c_15]) rfl
theorem ok_whyNot {M : KM} {R : RO} (hR : RA M 0 R) (hW : rW R) (x y z : Int32) : OkF mX9_whyNot [vR 0 0, vI x, vI y, vI z] M (some (vI (aWhyNot R x y z))) M := by
  refine ok_of (by decide) rfl (Nat.le_of_ble_eq_true rfl) ⟨rfl, rfl⟩ ?_
  show Go mX9_whyNot (Zm (QF (some (vI (aWhyNot R x y z))) M)) M [some (vR 0 0), some (vI x), some (vI y), some (vI z)] [] 0
  refine go_aload_n (q := 1) dX9_whyNot_0 rfl rfl rfl ?_
  refine go_getf (q := 4) dX9_whyNot_1 fRX9_10 rfl (by decide) rfl rfl ?_
  refine go_iload_n (q := 5) dX9_whyNot_4 rfl rfl rfl ?_
  refine go_cV1 (cal := mX6_has) (q := 8) dX9_whyNot_5 lRX9_121 vX6_has ⟨by decide, by decide⟩ rfl (by decide) (Nat.le_of_ble_eq_true rfl) (ok_has (by decide) hR _) rfl ?_
  refine go_if_eqB (q := 11) (t := 25) dX9_whyNot_8 (by decide) rfl (fun c_8 => ?_) (fun c_8 => ?_)
  · refine go_iconst (q := 26) (v := (-1)) dX9_whyNot_25 (by decide) rfl ?_
    exact go_ri dX9_whyNot_26 rfl (by simp [aWhyNot, isSome_f c_8]) rfl
  · refine go_iload_n (q := 12) dX9_whyNot_11 rfl rfl rfl ?_
    refine go_cS1 (cal := mX8_isPlace) (q := 15) dX9_whyNot_12 lRX9_166 vX8_isPlace ⟨by decide, by decide⟩ (Nat.le_of_ble_eq_true rfl) (ok_isPlace M _) rfl ?_
    refine go_if_eqB (q := 18) (t := 25) dX9_whyNot_15 (by decide) rfl (fun c_15 => ?_) (fun c_15 => ?_)
    · refine go_iconst (q := 26) (v := (-1)) dX9_whyNot_25 (by decide) rfl ?_
      exact go_ri dX9_whyNot_26 rfl (by simp [aWhyNot, isSome_f c_15]) rfl
    · refine go_iload_n (q := 19) dX9_whyNot_18 rfl rfl rfl ?_
      refine go_cS1 (cal := mX8_isMark) (q := 22) dX9_whyNot_19 lRX9_175 vX8_isMark ⟨by decide, by decide⟩ (Nat.le_of_ble_eq_true rfl) (ok_isMark M _) rfl ?_
      refine go_if_neB (q := 25) (t := 27) dX9_whyNot_22 (by decide) rfl (fun c_22 => ?_) (fun c_22 => ?_)
      · obtain ⟨p, hp⟩ := isSome_t c_8
        obtain ⟨hlt, rfl⟩ := pOf_some hp
        obtain ⟨k, hk⟩ := isSome_t c_15
        obtain ⟨hkl, rfl⟩ := pOf_some hk
        obtain ⟨m, hm⟩ := isSome_t c_22
        obtain ⟨hml, rfl⟩ := pOf_some hm
        refine go_aload_n (q := 28) dX9_whyNot_27 rfl rfl rfl ?_
        refine go_getf (q := 31) dX9_whyNot_28 fRX9_10 rfl (by decide) rfl rfl ?_
        refine go_iload_n (q := 32) dX9_whyNot_31 rfl rfl rfl ?_
        refine go_iload_n (q := 33) dX9_whyNot_32 rfl rfl rfl ?_
        refine go_iload_n (q := 34) dX9_whyNot_33 rfl rfl rfl ?_
        refine go_cV3 (cal := mX6_reasonAgainstSon) (q := 37) dX9_whyNot_34 lRX9_178 vX6_reasonAgainstSon ⟨by decide, by decide⟩ rfl (by decide) (Nat.le_of_ble_eq_true rfl) (ok_reasonAgainstSon (by decide) hR hW hlt hkl hml) rfl ?_
        exact go_ri dX9_whyNot_37 rfl (by simp [aWhyNot, hp, hk, hm]) rfl
      · refine go_iconst (q := 26) (v := (-1)) dX9_whyNot_25 (by decide) rfl ?_
        exact go_ri dX9_whyNot_26 rfl (by simp [aWhyNot, isSome_f c_22]) rfl
theorem ok_choices {M : KM} {R : RO} (hR : RA M 0 R) (hW : rW R) (x w : Int32) : OkF mX9_choices [vR 0 0, vI x, vI w] M (some (vI (aChoices R x w))) M := by
  refine ok_of (by decide) rfl (Nat.le_of_ble_eq_true rfl) ⟨rfl, rfl⟩ ?_
  show Go mX9_choices (Zm (QF (some (vI (aChoices R x w))) M)) M [some (vR 0 0), some (vI x), some (vI w)] [] 0
  refine go_aload_n (q := 1) dX9_choices_0 rfl rfl rfl ?_
  refine go_getf (q := 4) dX9_choices_1 fRX9_10 rfl (by decide) rfl rfl ?_
  refine go_iload_n (q := 5) dX9_choices_4 rfl rfl rfl ?_
  refine go_cV1 (cal := mX6_has) (q := 8) dX9_choices_5 lRX9_121 vX6_has ⟨by decide, by decide⟩ rfl (by decide) (Nat.le_of_ble_eq_true rfl) (ok_has (by decide) hR _) rfl ?_
  refine go_if_eqB (q := 11) (t := 18) dX9_choices_8 (by decide) rfl (fun c_8 => ?_) (fun c_8 => ?_)
  · refine go_iconst (q := 19) (v := (-1)) dX9_choices_18 (by decide) rfl ?_
    exact go_ri dX9_choices_19 rfl (by simp [aChoices, isSome_f c_8]) rfl
  · refine go_iload_n (q := 12) dX9_choices_11 rfl rfl rfl ?_
    refine go_cS1 (cal := mX9_isWay) (q := 15) dX9_choices_12 lRX9_181 vX9_isWay ⟨by decide, by decide⟩ (Nat.le_of_ble_eq_true rfl) (ok_isWay _) rfl ?_
    refine go_if_neB (q := 18) (t := 20) dX9_choices_15 (by decide) rfl (fun c_15 => ?_) (fun c_15 => ?_)
    · obtain ⟨p, hp⟩ := isSome_t c_8
      obtain ⟨hlt, rfl⟩ := pOf_some hp
      obtain ⟨k, hk⟩ := isSome_t c_15
      refine go_iload_n (q := 21) dX9_choices_20 rfl rfl rfl ?_
      refine go_if_ne (q := 24) (t := 35) dX9_choices_21 (by decide) rfl (fun c_21 => ?_) (fun c_21 => ?_)
      · refine go_aload_n (q := 36) dX9_choices_35 rfl rfl rfl ?_
        refine go_getf (q := 39) dX9_choices_36 fRX9_10 rfl (by decide) rfl rfl ?_
        refine go_iload_n (q := 40) dX9_choices_39 rfl rfl rfl ?_
        refine go_cS2 (cal := mX1_leftByPlaces) (q := 43) dX9_choices_40 lRX9_189 vX1_leftByPlaces ⟨by decide, by decide⟩ (Nat.le_of_ble_eq_true rfl) (ok_leftByPlaces (by decide) hR hW hlt) rfl ?_
        exact go_ri dX9_choices_43 rfl (by simp [aChoices, hp, hk]) rfl
      · refine go_aload_n (q := 25) dX9_choices_24 rfl rfl rfl ?_
        refine go_getf (q := 28) dX9_choices_25 fRX9_10 rfl (by decide) rfl rfl ?_
        refine go_iload_n (q := 29) dX9_choices_28 rfl rfl rfl ?_
        refine go_cS2 (cal := mX1_leftByTrying) (q := 32) dX9_choices_29 lRX9_184 vX1_leftByTrying ⟨by decide, by decide⟩ (Nat.le_of_ble_eq_true rfl) (ok_leftByTrying (by decide) hR hW hlt) rfl ?_
        refine go_goto (q := 43) dX9_choices_32 (by decide) ?_
        exact go_ri dX9_choices_43 rfl (by simp [aChoices, hp, hk]) rfl
    · refine go_iconst (q := 19) (v := (-1)) dX9_choices_18 (by decide) rfl ?_
      exact go_ri dX9_choices_19 rfl (by simp [aChoices, isSome_f c_15]) rfl
theorem ok_best {M : KM} {R : RO} (hR : RA M 0 R) (hW : rW R) (x : Int32) : OkF mX9_best [vR 0 0, vI x] M (some (vI (aBest R x))) M := by
  refine ok_of (by decide) rfl (Nat.le_of_ble_eq_true rfl) ⟨rfl, rfl⟩ ?_
  show Go mX9_best (Zm (QF (some (vI (aBest R x))) M)) M [some (vR 0 0), some (vI x)] [] 0
  refine go_aload_n (q := 1) dX9_best_0 rfl rfl rfl ?_
  refine go_getf (q := 4) dX9_best_1 fRX9_10 rfl (by decide) rfl rfl ?_
  refine go_iload_n (q := 5) dX9_best_4 rfl rfl rfl ?_
  refine go_cV1 (cal := mX6_has) (q := 8) dX9_best_5 lRX9_121 vX6_has ⟨by decide, by decide⟩ rfl (by decide) (Nat.le_of_ble_eq_true rfl) (ok_has (by decide) hR _) rfl ?_
  refine go_if_neB (q := 11) (t := 13) dX9_best_8 (by decide) rfl (fun c_8 => ?_) (fun c_8 => ?_)
  · obtain ⟨p, hp⟩ := isSome_t c_8
    obtain ⟨hlt, rfl⟩ := pOf_some hp
    refine go_aload_n (q := 14) dX9_best_13 rfl rfl rfl ?_
    refine go_getf (q := 17) dX9_best_14 fRX9_10 rfl (by decide) rfl rfl ?_
    refine go_iload_n (q := 18) dX9_best_17 rfl rfl rfl ?_
    refine go_cS2 (cal := mX1_farthest) (q := 21) dX9_best_18 lRX9_192 vX1_farthest ⟨by decide, by decide⟩ (Nat.le_of_ble_eq_true rfl) (ok_farthest (by decide) hR hW hlt) rfl ?_
    exact go_ri dX9_best_21 rfl (by simp [aBest, hp]) rfl
  · refine go_iconst (q := 12) (v := (-1)) dX9_best_11 (by decide) rfl ?_
    exact go_ri dX9_best_12 rfl (by simp [aBest, isSome_f c_8]) rfl
theorem ok_differs {M : KM} {R : RO} (hR : RA M 0 R) (hW : rW R) (x y : Int32) : OkF mX9_differs [vR 0 0, vI x, vI y] M (some (vI (aDiffers R x y))) M := by
  refine ok_of (by decide) rfl (Nat.le_of_ble_eq_true rfl) ⟨rfl, rfl⟩ ?_
  show Go mX9_differs (Zm (QF (some (vI (aDiffers R x y))) M)) M [some (vR 0 0), some (vI x), some (vI y)] [] 0
  refine go_aload_n (q := 1) dX9_differs_0 rfl rfl rfl ?_
  refine go_getf (q := 4) dX9_differs_1 fRX9_10 rfl (by decide) rfl rfl ?_
  refine go_iload_n (q := 5) dX9_differs_4 rfl rfl rfl ?_
  refine go_cV1 (cal := mX6_has) (q := 8) dX9_differs_5 lRX9_121 vX6_has ⟨by decide, by decide⟩ rfl (by decide) (Nat.le_of_ble_eq_true rfl) (ok_has (by decide) hR _) rfl ?_
  refine go_if_eqB (q := 11) (t := 22) dX9_differs_8 (by decide) rfl (fun c_8 => ?_) (fun c_8 => ?_)
  · refine go_iconst (q := 23) (v := (-1)) dX9_differs_22 (by decide) rfl ?_
    exact go_ri dX9_differs_23 rfl (by simp [aDiffers, isSome_f c_8]) rfl
  · refine go_aload_n (q := 12) dX9_differs_11 rfl rfl rfl ?_
    refine go_getf (q := 15) dX9_differs_12 fRX9_10 rfl (by decide) rfl rfl ?_
    refine go_iload_n (q := 16) dX9_differs_15 rfl rfl rfl ?_
    refine go_cV1 (cal := mX6_has) (q := 19) dX9_differs_16 lRX9_121 vX6_has ⟨by decide, by decide⟩ rfl (by decide) (Nat.le_of_ble_eq_true rfl) (ok_has (by decide) hR _) rfl ?_
    refine go_if_neB (q := 22) (t := 24) dX9_differs_19 (by decide) rfl (fun c_19 => ?_) (fun c_19 => ?_)
    · obtain ⟨p, hp⟩ := isSome_t c_8
      obtain ⟨hlt, rfl⟩ := pOf_some hp
      obtain ⟨k, hk⟩ := isSome_t c_19
      obtain ⟨hkl, rfl⟩ := pOf_some hk
      refine go_aload_n (q := 25) dX9_differs_24 rfl rfl rfl ?_
      refine go_getf (q := 28) dX9_differs_25 fRX9_10 rfl (by decide) rfl rfl ?_
      refine go_iload_n (q := 29) dX9_differs_28 rfl rfl rfl ?_
      refine go_cV1 (cal := mX6_shieldOf) (q := 32) dX9_differs_29 lRX9_124 vX6_shieldOf ⟨by decide, by decide⟩ rfl (by decide) (Nat.le_of_ble_eq_true rfl) (ok_shieldOf (by decide) hR _) rfl ?_
      rw [hp, oS_some]
      refine go_aload_n (q := 33) dX9_differs_32 rfl rfl rfl ?_
      refine go_getf (q := 36) dX9_differs_33 fRX9_10 rfl (by decide) rfl rfl ?_
      refine go_iload_n (q := 37) dX9_differs_36 rfl rfl rfl ?_
      refine go_cV1 (cal := mX6_shieldOf) (q := 40) dX9_differs_37 lRX9_124 vX6_shieldOf ⟨by decide, by decide⟩ rfl (by decide) (Nat.le_of_ble_eq_true rfl) (ok_shieldOf (by decide) hR _) rfl ?_
      rw [hk, oS_some]
      refine go_cS2 (cal := mX8_apart) (q := 43) dX9_differs_40 lRX9_195 vX8_apart ⟨by decide, by decide⟩ (Nat.le_of_ble_eq_true rfl) (ok_apart (by have := hW.2.1 p hlt; omega) (by have := hW.2.1 k hkl; omega)) rfl ?_
      exact go_ri dX9_differs_43 rfl (by simp [aDiffers, hp, hk]) rfl
    · refine go_iconst (q := 23) (v := (-1)) dX9_differs_22 (by decide) rfl ?_
      exact go_ri dX9_differs_23 rfl (by simp [aDiffers, isSome_f c_19]) rfl
theorem ok_kin {M : KM} {R : RO} (hR : RA M 0 R) (hW : rW R) (x y : Int32) : OkF mX9_kin [vR 0 0, vI x, vI y] M (some (vI (aKin R x y))) M := by
  refine ok_of (by decide) rfl (Nat.le_of_ble_eq_true rfl) ⟨rfl, rfl⟩ ?_
  show Go mX9_kin (Zm (QF (some (vI (aKin R x y))) M)) M [some (vR 0 0), some (vI x), some (vI y)] [] 0
  refine go_aload_n (q := 1) dX9_kin_0 rfl rfl rfl ?_
  refine go_getf (q := 4) dX9_kin_1 fRX9_10 rfl (by decide) rfl rfl ?_
  refine go_iload_n (q := 5) dX9_kin_4 rfl rfl rfl ?_
  refine go_cV1 (cal := mX6_has) (q := 8) dX9_kin_5 lRX9_121 vX6_has ⟨by decide, by decide⟩ rfl (by decide) (Nat.le_of_ble_eq_true rfl) (ok_has (by decide) hR _) rfl ?_
  refine go_if_eqB (q := 11) (t := 22) dX9_kin_8 (by decide) rfl (fun c_8 => ?_) (fun c_8 => ?_)
  · refine go_iconst (q := 23) (v := (-1)) dX9_kin_22 (by decide) rfl ?_
    exact go_ri dX9_kin_23 rfl (by simp [aKin, isSome_f c_8]) rfl
  · refine go_aload_n (q := 12) dX9_kin_11 rfl rfl rfl ?_
    refine go_getf (q := 15) dX9_kin_12 fRX9_10 rfl (by decide) rfl rfl ?_
    refine go_iload_n (q := 16) dX9_kin_15 rfl rfl rfl ?_
    refine go_cV1 (cal := mX6_has) (q := 19) dX9_kin_16 lRX9_121 vX6_has ⟨by decide, by decide⟩ rfl (by decide) (Nat.le_of_ble_eq_true rfl) (ok_has (by decide) hR _) rfl ?_
    refine go_if_neB (q := 22) (t := 24) dX9_kin_19 (by decide) rfl (fun c_19 => ?_) (fun c_19 => ?_)
    · obtain ⟨p, hp⟩ := isSome_t c_8
      obtain ⟨hlt, rfl⟩ := pOf_some hp
      obtain ⟨k, hk⟩ := isSome_t c_19
      obtain ⟨hkl, rfl⟩ := pOf_some hk
      refine go_aload_n (q := 25) dX9_kin_24 rfl rfl rfl ?_
      refine go_getf (q := 28) dX9_kin_25 fRX9_10 rfl (by decide) rfl rfl ?_
      refine go_iload_n (q := 29) dX9_kin_28 rfl rfl rfl ?_
      refine go_iload_n (q := 30) dX9_kin_29 rfl rfl rfl ?_
      refine go_cS3 (cal := mX3_nearness) (q := 33) dX9_kin_30 lRX9_198 vX3_nearness ⟨by decide, by decide⟩ (Nat.le_of_ble_eq_true rfl) (ok_nearness (by decide) hR hW hlt hkl) rfl ?_
      exact go_ri dX9_kin_33 rfl (by simp [aKin, hp, hk]) rfl
    · refine go_iconst (q := 23) (v := (-1)) dX9_kin_22 (by decide) rfl ?_
      exact go_ri dX9_kin_23 rfl (by simp [aKin, isSome_f c_19]) rfl
theorem ok_bearer {M : KM} {R : RO} (hR : RA M 0 R) (hW : rW R) (x : Int32) : OkF mX9_bearer [vR 0 0, vI x] M (some (vI (aBearer R x))) M := by
  refine ok_of (by decide) rfl (Nat.le_of_ble_eq_true rfl) ⟨rfl, rfl⟩ ?_
  show Go mX9_bearer (Zm (QF (some (vI (aBearer R x))) M)) M [some (vR 0 0), some (vI x)] [] 0
  refine go_iload_n (q := 1) dX9_bearer_0 rfl rfl rfl ?_
  refine go_cS1 (cal := mX8_isShield) (q := 4) dX9_bearer_1 lRX9_202 vX8_isShield ⟨by decide, by decide⟩ (Nat.le_of_ble_eq_true rfl) (ok_isShield M _) rfl ?_
  refine go_if_neB (q := 7) (t := 9) dX9_bearer_4 (by decide) rfl (fun c_4 => ?_) (fun c_4 => ?_)
  · obtain ⟨p, hp⟩ := isSome_t c_4
    obtain ⟨hlt, rfl⟩ := pOf_some hp
    refine go_aload_n (q := 10) dX9_bearer_9 rfl rfl rfl ?_
    refine go_getf (q := 13) dX9_bearer_10 fRX9_10 rfl (by decide) rfl rfl ?_
    refine go_iload_n (q := 14) dX9_bearer_13 rfl rfl rfl ?_
    refine go_cV1 (cal := mX6_livingWith) (q := 17) dX9_bearer_14 lRX9_205 vX6_livingWith ⟨by decide, by decide⟩ rfl (by decide) (Nat.le_of_ble_eq_true rfl) (ok_livingWith (by decide) hR hW (by omega)) rfl ?_
    refine go_cS1 (cal := mX9_orNotFound) (q := 20) dX9_bearer_17 lRX9_133 vX9_orNotFound ⟨by decide, by decide⟩ (Nat.le_of_ble_eq_true rfl) (ok_orNF (bear_big hW)) rfl ?_
    exact go_ri dX9_bearer_20 rfl (by simp [aBearer, hp]) rfl
  · refine go_iconst (q := 8) (v := (-1)) dX9_bearer_7 (by decide) rfl ?_
    exact go_ri dX9_bearer_8 rfl (by simp [aBearer, isSome_f c_4]) rfl
theorem ok_borne {M : KM} {R : RO} (hR : RA M 0 R) (hW : rW R) (x y : Int32) : OkF mX9_borne [vR 0 0, vI x, vI y] M (some (vI (aBorne R x y))) M := by
  refine ok_of (by decide) rfl (Nat.le_of_ble_eq_true rfl) ⟨rfl, rfl⟩ ?_
  show Go mX9_borne (Zm (QF (some (vI (aBorne R x y))) M)) M [some (vR 0 0), some (vI x), some (vI y)] [] 0
  refine go_iload_n (q := 1) dX9_borne_0 rfl rfl rfl ?_
  refine go_cS1 (cal := mX8_isPlace) (q := 4) dX9_borne_1 lRX9_166 vX8_isPlace ⟨by decide, by decide⟩ (Nat.le_of_ble_eq_true rfl) (ok_isPlace M _) rfl ?_
  refine go_if_eqB (q := 7) (t := 14) dX9_borne_4 (by decide) rfl (fun c_4 => ?_) (fun c_4 => ?_)
  · refine go_iconst (q := 15) (v := (-1)) dX9_borne_14 (by decide) rfl ?_
    exact go_ri dX9_borne_15 rfl (by simp [aBorne, isSome_f c_4]) rfl
  · refine go_iload_n (q := 8) dX9_borne_7 rfl rfl rfl ?_
    refine go_cS1 (cal := mX8_isMark) (q := 11) dX9_borne_8 lRX9_175 vX8_isMark ⟨by decide, by decide⟩ (Nat.le_of_ble_eq_true rfl) (ok_isMark M _) rfl ?_
    refine go_if_neB (q := 14) (t := 16) dX9_borne_11 (by decide) rfl (fun c_11 => ?_) (fun c_11 => ?_)
    · obtain ⟨p, hp⟩ := isSome_t c_4
      obtain ⟨hlt, rfl⟩ := pOf_some hp
      obtain ⟨k, hk⟩ := isSome_t c_11
      obtain ⟨hkl, rfl⟩ := pOf_some hk
      refine go_aload_n (q := 17) dX9_borne_16 rfl rfl rfl ?_
      refine go_getf (q := 20) dX9_borne_17 fRX9_10 rfl (by decide) rfl rfl ?_
      refine go_iload_n (q := 21) dX9_borne_20 rfl rfl rfl ?_
      refine go_iload_n (q := 22) dX9_borne_21 rfl rfl rfl ?_
      refine go_cS3 (cal := mX0_livingWithMark) (q := 25) dX9_borne_22 lRX9_245 vX0_livingWithMark ⟨by decide, by decide⟩ (Nat.le_of_ble_eq_true rfl) (ok_withMark2 (by decide) hR hW hlt hkl) rfl ?_
      exact go_ri dX9_borne_25 rfl (by simp [aBorne, hp, hk]) rfl
    · refine go_iconst (q := 15) (v := (-1)) dX9_borne_14 (by decide) rfl ?_
      exact go_ri dX9_borne_15 rfl (by simp [aBorne, isSome_f c_11]) rfl
theorem ok_unlike {M : KM} {R : RO} (hR : RA M 0 R) (hW : rW R) : OkF mX9_unlike [vR 0 0] M (some (vD (meanU R))) M := by
  refine ok_of (by decide) rfl (Nat.le_of_ble_eq_true rfl) ⟨rfl, rfl⟩ ?_
  show Go mX9_unlike (Zm (QF (some (vD (meanU R))) M)) M [some (vR 0 0)] [] 0
  refine go_aload_n (q := 1) dX9_unlike_0 rfl rfl rfl ?_
  refine go_getf (q := 4) dX9_unlike_1 fRX9_10 rfl (by decide) rfl rfl ?_
  refine go_cS1 (cal := mX0_meanApart) (q := 7) dX9_unlike_4 lRX9_248 vX0_meanApart ⟨by decide, by decide⟩ (Nat.le_of_ble_eq_true rfl) (ok_meanApart (by decide) hR hW) rfl ?_
  exact go_rd dX9_unlike_7 rfl (by rfl) rfl
theorem rM_big {R : RO} {p : Nat} (hW : rW R) (hp : p < rN R) : ∀ k, rM R p = some k → k < 2 ^ 31 := fun k h => by
  have := rM_lt hW hp k h
  omega
theorem ok_person {M : KM} {R : RO} (hR : RA M 0 R) (hW : rW R) (x w : Int32) : OkF mX9_person [vR 0 0, vI x, vI w] M (some (vI (aPerson R x w))) M := by
  refine ok_of (by decide) rfl (Nat.le_of_ble_eq_true rfl) ⟨rfl, rfl⟩ ?_
  show Go mX9_person (Zm (QF (some (vI (aPerson R x w))) M)) M [some (vR 0 0), some (vI x), some (vI w)] [] 0
  refine go_aload_n (q := 1) dX9_person_0 rfl rfl rfl ?_
  refine go_getf (q := 4) dX9_person_1 fRX9_10 rfl (by decide) rfl rfl ?_
  refine go_iload_n (q := 5) dX9_person_4 rfl rfl rfl ?_
  refine go_cV1 (cal := mX6_has) (q := 8) dX9_person_5 lRX9_121 vX6_has ⟨by decide, by decide⟩ rfl (by decide) (Nat.le_of_ble_eq_true rfl) (ok_has (by decide) hR _) rfl ?_
  refine go_if_neB (q := 11) (t := 13) dX9_person_8 (by decide) rfl (fun c_8 => ?_) (fun c_8 => ?_)
  · obtain ⟨p, hp⟩ := isSome_t c_8
    obtain ⟨hlt, rfl⟩ := pOf_some hp
    refine go_iload_n (q := 14) dX9_person_13 rfl rfl rfl ?_
    cases hk : pOf 12 w with
    | none =>
      refine go_tableOut (q := 201) dX9_person_14 (pOf12_out hk) (by decide) ?_
      refine go_iconst (q := 202) (v := (-1)) dX9_person_201 (by decide) rfl ?_
      exact go_ri dX9_person_202 rfl (by simp [aPerson, hk]) rfl
    | some k =>
      obtain ⟨hkl, rfl⟩ := pOf_some hk
      rcases (show k = 0 ∨ k = 1 ∨ k = 2 ∨ k = 3 ∨ k = 4 ∨ k = 5 ∨ k = 6 ∨ k = 7 ∨ k = 8 ∨ k = 9 ∨ k = 10 ∨ k = 11 by omega) with rfl | rfl | rfl | rfl | rfl | rfl | rfl | rfl | rfl | rfl | rfl | rfl
      · refine go_tableIn 0 (q := 76) dX9_person_14 (show (nI 0).toInt = 0 from by decide) (by decide) (by decide) rfl (by decide) ?_
        refine go_aload_n (q := 77) dX9_person_76 rfl rfl rfl ?_
        refine go_getf (q := 80) dX9_person_77 fRX9_10 rfl (by decide) rfl rfl ?_
        refine go_iload_n (q := 81) dX9_person_80 rfl rfl rfl ?_
        refine go_cV1 (cal := mX6_shieldOf) (q := 84) dX9_person_81 lRX9_124 vX6_shieldOf ⟨by decide, by decide⟩ rfl (by decide) (Nat.le_of_ble_eq_true rfl) (ok_shieldOf (by decide) hR _) rfl ?_
        exact go_ri dX9_person_84 rfl (by rw [hp]; simp [aPerson, hp, hk, pers, oS]) rfl
      · refine go_tableIn 1 (q := 85) dX9_person_14 (show (nI 1).toInt = 1 from by decide) (by decide) (by decide) rfl (by decide) ?_
        refine go_aload_n (q := 86) dX9_person_85 rfl rfl rfl ?_
        refine go_getf (q := 89) dX9_person_86 fRX9_10 rfl (by decide) rfl rfl ?_
        refine go_iload_n (q := 90) dX9_person_89 rfl rfl rfl ?_
        refine go_cV1 (cal := mX6_isAlive) (q := 93) dX9_person_90 lRX9_127 vX6_isAlive ⟨by decide, by decide⟩ rfl (by decide) (Nat.le_of_ble_eq_true rfl) (ok_isAlive (by decide) hR _) rfl ?_
        refine go_if_eqB (q := 96) (t := 100) dX9_person_93 (by decide) rfl (fun c_93 => ?_) (fun c_93 => ?_)
        · refine go_iconst (q := 101) (v := 0) dX9_person_100 (by decide) rfl ?_
          exact go_ri dX9_person_101 rfl (by rw [hp, oL_some] at c_93; simp [aPerson, hp, hk, pers, c_93, bI]) rfl
        · refine go_iconst (q := 97) (v := 1) dX9_person_96 (by decide) rfl ?_
          refine go_goto (q := 101) dX9_person_97 (by decide) ?_
          exact go_ri dX9_person_101 rfl (by rw [hp, oL_some] at c_93; simp [aPerson, hp, hk, pers, c_93, bI]) rfl
      · refine go_tableIn 2 (q := 102) dX9_person_14 (show (nI 2).toInt = 2 from by decide) (by decide) (by decide) rfl (by decide) ?_
        refine go_aload_n (q := 103) dX9_person_102 rfl rfl rfl ?_
        refine go_getf (q := 106) dX9_person_103 fRX9_10 rfl (by decide) rfl rfl ?_
        refine go_iload_n (q := 107) dX9_person_106 rfl rfl rfl ?_
        refine go_cV1 (cal := mX6_fatherOf) (q := 110) dX9_person_107 lRX9_130 vX6_fatherOf ⟨by decide, by decide⟩ rfl (by decide) (Nat.le_of_ble_eq_true rfl) (ok_fatherOf (by decide) hR _) rfl ?_
        rw [hp, oP_some]
        refine go_cS1 (cal := mX9_orNotFound) (q := 113) dX9_person_110 lRX9_133 vX9_orNotFound ⟨by decide, by decide⟩ (Nat.le_of_ble_eq_true rfl) (ok_orNF (rP_big hW hlt)) rfl ?_
        exact go_ri dX9_person_113 rfl (by simp [aPerson, hp, hk, pers]) rfl
      · refine go_tableIn 3 (q := 114) dX9_person_14 (show (nI 3).toInt = 3 from by decide) (by decide) (by decide) rfl (by decide) ?_
        refine go_aload_n (q := 115) dX9_person_114 rfl rfl rfl ?_
        refine go_getf (q := 118) dX9_person_115 fRX9_10 rfl (by decide) rfl rfl ?_
        refine go_iload_n (q := 119) dX9_person_118 rfl rfl rfl ?_
        refine go_cV1 (cal := mX6_birthPlaceOf) (q := 122) dX9_person_119 lRX9_136 vX6_birthPlaceOf ⟨by decide, by decide⟩ rfl (by decide) (Nat.le_of_ble_eq_true rfl) (ok_birthPlaceOf (by decide) hR _) rfl ?_
        rw [hp, oK_some]
        refine go_cS1 (cal := mX9_orNotFound) (q := 125) dX9_person_122 lRX9_133 vX9_orNotFound ⟨by decide, by decide⟩ (Nat.le_of_ble_eq_true rfl) (ok_orNF (rK_big hW hlt)) rfl ?_
        exact go_ri dX9_person_125 rfl (by simp [aPerson, hp, hk, pers]) rfl
      · refine go_tableIn 4 (q := 126) dX9_person_14 (show (nI 4).toInt = 4 from by decide) (by decide) (by decide) rfl (by decide) ?_
        refine go_aload_n (q := 127) dX9_person_126 rfl rfl rfl ?_
        refine go_getf (q := 130) dX9_person_127 fRX9_10 rfl (by decide) rfl rfl ?_
        refine go_iload_n (q := 131) dX9_person_130 rfl rfl rfl ?_
        refine go_cV1 (cal := mX6_birthMarkOf) (q := 134) dX9_person_131 lRX9_139 vX6_birthMarkOf ⟨by decide, by decide⟩ rfl (by decide) (Nat.le_of_ble_eq_true rfl) (ok_birthMarkOf (by decide) hR _) rfl ?_
        rw [hp, oM_some]
        refine go_cS1 (cal := mX9_orNotFound) (q := 137) dX9_person_134 lRX9_133 vX9_orNotFound ⟨by decide, by decide⟩ (Nat.le_of_ble_eq_true rfl) (ok_orNF (rM_big hW hlt)) rfl ?_
        exact go_ri dX9_person_137 rfl (by simp [aPerson, hp, hk, pers]) rfl
      · refine go_tableIn 5 (q := 138) dX9_person_14 (show (nI 5).toInt = 5 from by decide) (by decide) (by decide) rfl (by decide) ?_
        refine go_aload_n (q := 139) dX9_person_138 rfl rfl rfl ?_
        refine go_getf (q := 142) dX9_person_139 fRX9_10 rfl (by decide) rfl rfl ?_
        refine go_iload_n (q := 143) dX9_person_142 rfl rfl rfl ?_
        refine go_cV1 (cal := mX6_sonsOf) (q := 146) dX9_person_143 lRX9_142 vX6_sonsOf ⟨by decide, by decide⟩ rfl (by decide) (Nat.le_of_ble_eq_true rfl) (ok_sonsOf (by decide) hR hW (by have := hR.lt hlt; omega)) rfl ?_
        exact go_ri dX9_person_146 rfl (by simp [aPerson, hp, hk, pers]) rfl
      · refine go_tableIn 6 (q := 147) dX9_person_14 (show (nI 6).toInt = 6 from by decide) (by decide) (by decide) rfl (by decide) ?_
        refine go_aload_n (q := 148) dX9_person_147 rfl rfl rfl ?_
        refine go_getf (q := 151) dX9_person_148 fRX9_10 rfl (by decide) rfl rfl ?_
        refine go_iload_n (q := 152) dX9_person_151 rfl rfl rfl ?_
        refine go_cS2 (cal := mX3_livingSons) (q := 155) dX9_person_152 lRX9_145 vX3_livingSons ⟨by decide, by decide⟩ (Nat.le_of_ble_eq_true rfl) (ok_livingSons (by decide) hR hW hlt) rfl ?_
        exact go_ri dX9_person_155 rfl (by simp [aPerson, hp, hk, pers]) rfl
      · refine go_tableIn 7 (q := 156) dX9_person_14 (show (nI 7).toInt = 7 from by decide) (by decide) (by decide) rfl (by decide) ?_
        refine go_aload_n (q := 157) dX9_person_156 rfl rfl rfl ?_
        refine go_getf (q := 160) dX9_person_157 fRX9_10 rfl (by decide) rfl rfl ?_
        refine go_iload_n (q := 161) dX9_person_160 rfl rfl rfl ?_
        refine go_cS2 (cal := mX3_livingBrothers) (q := 164) dX9_person_161 lRX9_151 vX3_livingBrothers ⟨by decide, by decide⟩ (Nat.le_of_ble_eq_true rfl) (ok_livingBrothers (by decide) hR hW hlt) rfl ?_
        exact go_ri dX9_person_164 rfl (by simp [aPerson, hp, hk, pers]) rfl
      · refine go_tableIn 8 (q := 165) dX9_person_14 (show (nI 8).toInt = 8 from by decide) (by decide) (by decide) rfl (by decide) ?_
        refine go_aload_n (q := 166) dX9_person_165 rfl rfl rfl ?_
        refine go_getf (q := 169) dX9_person_166 fRX9_10 rfl (by decide) rfl rfl ?_
        refine go_iload_n (q := 170) dX9_person_169 rfl rfl rfl ?_
        refine go_cS2 (cal := mX3_livingCousins) (q := 173) dX9_person_170 lRX9_154 vX3_livingCousins ⟨by decide, by decide⟩ (Nat.le_of_ble_eq_true rfl) (ok_livingCousins (by decide) hR hW hlt) rfl ?_
        exact go_ri dX9_person_173 rfl (by simp [aPerson, hp, hk, pers]) rfl
      · refine go_tableIn 9 (q := 174) dX9_person_14 (show (nI 9).toInt = 9 from by decide) (by decide) (by decide) rfl (by decide) ?_
        refine go_aload_n (q := 175) dX9_person_174 rfl rfl rfl ?_
        refine go_getf (q := 178) dX9_person_175 fRX9_10 rfl (by decide) rfl rfl ?_
        refine go_iload_n (q := 179) dX9_person_178 rfl rfl rfl ?_
        refine go_cS2 (cal := mX3_descendants) (q := 182) dX9_person_179 lRX9_157 vX3_descendants ⟨by decide, by decide⟩ (Nat.le_of_ble_eq_true rfl) (ok_descendants (by decide) hR hW hlt) rfl ?_
        exact go_ri dX9_person_182 rfl (by simp [aPerson, hp, hk, pers]) rfl
      · refine go_tableIn 10 (q := 183) dX9_person_14 (show (nI 10).toInt = 10 from by decide) (by decide) (by decide) rfl (by decide) ?_
        refine go_aload_n (q := 184) dX9_person_183 rfl rfl rfl ?_
        refine go_getf (q := 187) dX9_person_184 fRX9_10 rfl (by decide) rfl rfl ?_
        refine go_iload_n (q := 188) dX9_person_187 rfl rfl rfl ?_
        refine go_cS2 (cal := mX3_stepsFromFounder) (q := 191) dX9_person_188 lRX9_160 vX3_stepsFromFounder ⟨by decide, by decide⟩ (Nat.le_of_ble_eq_true rfl) (ok_stepsFF (by decide) hR hW hlt) rfl ?_
        exact go_ri dX9_person_191 rfl (by simp [aPerson, hp, hk, pers]) rfl
      · refine go_tableIn 11 (q := 192) dX9_person_14 (show (nI 11).toInt = 11 from by decide) (by decide) (by decide) rfl (by decide) ?_
        refine go_aload_n (q := 193) dX9_person_192 rfl rfl rfl ?_
        refine go_getf (q := 196) dX9_person_193 fRX9_10 rfl (by decide) rfl rfl ?_
        refine go_iload_n (q := 197) dX9_person_196 rfl rfl rfl ?_
        refine go_cS2 (cal := mX3_placesFromFather) (q := 200) dX9_person_197 lRX9_163 vX3_placesFromFather ⟨by decide, by decide⟩ (Nat.le_of_ble_eq_true rfl) (ok_placesFF (by decide) hR hW hlt) rfl ?_
        exact go_ri dX9_person_200 rfl (by simp [aPerson, hp, hk, pers]) rfl
  · refine go_iconst (q := 12) (v := (-1)) dX9_person_11 (by decide) rfl ?_
    exact go_ri dX9_person_12 rfl (by simp [aPerson, isSome_f c_8]) rfl
theorem ok_count {M : KM} {R : RO} (hR : RA M 0 R) (hW : rW R) {n : Nat} {c : Nat → Nat} (hP : PA M n c) {h : Nat} {hs : Nat → RO} (hH : HA M h hs) (w : Int32) : OkF mX9_count [vR 0 0, vI w] M (some (vI (aCount R n h w))) M := by
  refine ok_of (by decide) rfl (Nat.le_of_ble_eq_true rfl) ⟨rfl, rfl⟩ ?_
  show Go mX9_count (Zm (QF (some (vI (aCount R n h w))) M)) M [some (vR 0 0), some (vI w)] [] 0
  cases hk : pOf 12 w with
  | none =>
    refine go_iload_n (q := 1) dX9_count_0 rfl rfl rfl ?_
    refine go_tableOut (q := 160) dX9_count_1 (pOf12_out hk) (by decide) ?_
    refine go_iconst (q := 161) (v := (-1)) dX9_count_160 (by decide) rfl ?_
    exact go_ri dX9_count_161 rfl (by simp [aCount, hk]) rfl
  | some k =>
    obtain ⟨hkl, rfl⟩ := pOf_some hk
    rcases (show k = 0 ∨ k = 1 ∨ k = 2 ∨ k = 3 ∨ k = 4 ∨ k = 5 ∨ k = 6 ∨ k = 7 ∨ k = 8 ∨ k = 9 ∨ k = 10 ∨ k = 11 by omega) with rfl | rfl | rfl | rfl | rfl | rfl | rfl | rfl | rfl | rfl | rfl | rfl
    · refine go_iload_n (q := 1) dX9_count_0 rfl rfl rfl ?_
      refine go_tableIn 0 (q := 64) dX9_count_1 (show (nI 0).toInt = 0 from by decide) (by decide) (by decide) rfl (by decide) ?_
      refine go_aload_n (q := 65) dX9_count_64 rfl rfl rfl ?_
      refine go_getf (q := 68) dX9_count_65 fRX9_10 rfl (by decide) rfl rfl ?_
      refine go_cV0 (cal := mX6_size) (q := 71) dX9_count_68 lRX9_211 vX6_size ⟨by decide, by decide⟩ rfl (by decide) (Nat.le_of_ble_eq_true rfl) (ok_size (by decide) hR) rfl ?_
      exact go_ri dX9_count_71 rfl (by simp [aCount, hk, numR] <;> rfl) rfl
    · refine go_iload_n (q := 1) dX9_count_0 rfl rfl rfl ?_
      refine go_tableIn 1 (q := 72) dX9_count_1 (show (nI 1).toInt = 1 from by decide) (by decide) (by decide) rfl (by decide) ?_
      refine go_aload_n (q := 73) dX9_count_72 rfl rfl rfl ?_
      refine go_getf (q := 76) dX9_count_73 fRX9_10 rfl (by decide) rfl rfl ?_
      refine go_cV0 (cal := mX6_living) (q := 79) dX9_count_76 lRX9_214 vX6_living ⟨by decide, by decide⟩ rfl (by decide) (Nat.le_of_ble_eq_true rfl) (ok_living (by decide) hR) rfl ?_
      exact go_ri dX9_count_79 rfl (by simp [aCount, hk, numR] <;> rfl) rfl
    · refine go_iload_n (q := 1) dX9_count_0 rfl rfl rfl ?_
      refine go_tableIn 2 (q := 80) dX9_count_1 (show (nI 2).toInt = 2 from by decide) (by decide) (by decide) rfl (by decide) ?_
      refine go_aload_n (q := 81) dX9_count_80 rfl rfl rfl ?_
      refine go_getf (q := 84) dX9_count_81 fRX9_10 rfl (by decide) rfl rfl ?_
      refine go_cS1 (cal := mX0_founders) (q := 87) dX9_count_84 lRX9_217 vX0_founders ⟨by decide, by decide⟩ (Nat.le_of_ble_eq_true rfl) (ok_founders (by decide) hR hW) rfl ?_
      exact go_ri dX9_count_87 rfl (by simp [aCount, hk, numR] <;> rfl) rfl
    · refine go_iload_n (q := 1) dX9_count_0 rfl rfl rfl ?_
      refine go_tableIn 3 (q := 88) dX9_count_1 (show (nI 3).toInt = 3 from by decide) (by decide) (by decide) rfl (by decide) ?_
      refine go_aload_n (q := 89) dX9_count_88 rfl rfl rfl ?_
      refine go_getf (q := 92) dX9_count_89 fRX9_10 rfl (by decide) rfl rfl ?_
      refine go_cS1 (cal := mX0_confusedPairs) (q := 95) dX9_count_92 lRX9_223 vX0_confusedPairs ⟨by decide, by decide⟩ (Nat.le_of_ble_eq_true rfl) (ok_confusedPairs (by decide) hR hW) rfl ?_
      exact go_ri dX9_count_95 rfl (by simp [aCount, hk, numR] <;> rfl) rfl
    · refine go_iload_n (q := 1) dX9_count_0 rfl rfl rfl ?_
      refine go_tableIn 4 (q := 96) dX9_count_1 (show (nI 4).toInt = 4 from by decide) (by decide) (by decide) rfl (by decide) ?_
      refine go_aload_n (q := 97) dX9_count_96 rfl rfl rfl ?_
      refine go_getf (q := 100) dX9_count_97 fRX9_10 rfl (by decide) rfl rfl ?_
      refine go_cS1 (cal := mX0_mostStepsFromFounder) (q := 103) dX9_count_100 lRX9_226 vX0_mostStepsFromFounder ⟨by decide, by decide⟩ (Nat.le_of_ble_eq_true rfl) (ok_mostSteps (by decide) hR hW) rfl ?_
      exact go_ri dX9_count_103 rfl (by simp [aCount, hk, numR] <;> rfl) rfl
    · refine go_iload_n (q := 1) dX9_count_0 rfl rfl rfl ?_
      refine go_tableIn 5 (q := 104) dX9_count_1 (show (nI 5).toInt = 5 from by decide) (by decide) (by decide) rfl (by decide) ?_
      refine go_aload_n (q := 105) dX9_count_104 rfl rfl rfl ?_
      refine go_getf (q := 108) dX9_count_105 fRX9_10 rfl (by decide) rfl rfl ?_
      refine go_cS1 (cal := mX0_differentShields) (q := 111) dX9_count_108 lRX9_229 vX0_differentShields ⟨by decide, by decide⟩ (Nat.le_of_ble_eq_true rfl) (ok_diffShields (by decide) hR hW) rfl ?_
      exact go_ri dX9_count_111 rfl (by simp [aCount, hk, numR] <;> rfl) rfl
    · refine go_iload_n (q := 1) dX9_count_0 rfl rfl rfl ?_
      refine go_tableIn 6 (q := 112) dX9_count_1 (show (nI 6).toInt = 6 from by decide) (by decide) (by decide) rfl (by decide) ?_
      refine go_aload_n (q := 113) dX9_count_112 rfl rfl rfl ?_
      refine go_getf (q := 116) dX9_count_113 fRX9_10 rfl (by decide) rfl rfl ?_
      refine go_cS1 (cal := mX0_farFromFather) (q := 119) dX9_count_116 lRX9_232 vX0_farFromFather ⟨by decide, by decide⟩ (Nat.le_of_ble_eq_true rfl) (ok_farFF (by decide) hR hW) rfl ?_
      exact go_ri dX9_count_119 rfl (by simp [aCount, hk, numR] <;> rfl) rfl
    · refine go_iload_n (q := 1) dX9_count_0 rfl rfl rfl ?_
      refine go_tableIn 7 (q := 120) dX9_count_1 (show (nI 7).toInt = 7 from by decide) (by decide) (by decide) rfl (by decide) ?_
      refine go_aload_n (q := 121) dX9_count_120 rfl rfl rfl ?_
      refine go_getf (q := 124) dX9_count_121 fRX9_10 rfl (by decide) rfl rfl ?_
      refine go_cS1 (cal := mX0_livingSonless) (q := 127) dX9_count_124 lRX9_235 vX0_livingSonless ⟨by decide, by decide⟩ (Nat.le_of_ble_eq_true rfl) (ok_sonless (by decide) hR hW) rfl ?_
      exact go_ri dX9_count_127 rfl (by simp [aCount, hk, numR] <;> rfl) rfl
    · refine go_iload_n (q := 1) dX9_count_0 rfl rfl rfl ?_
      refine go_tableIn 8 (q := 128) dX9_count_1 (show (nI 8).toInt = 8 from by decide) (by decide) (by decide) rfl (by decide) ?_
      refine go_aload_n (q := 129) dX9_count_128 rfl rfl rfl ?_
      refine go_getf (q := 132) dX9_count_129 fRX9_10 rfl (by decide) rfl rfl ?_
      refine go_cV0 (cal := mX6_heirs) (q := 135) dX9_count_132 lRX9_238 vX6_heirs ⟨by decide, by decide⟩ rfl (by decide) (Nat.le_of_ble_eq_true rfl) (ok_heirs (by decide) hR) rfl ?_
      exact go_ri dX9_count_135 rfl (by simp [aCount, hk, numR] <;> rfl) rfl
    · refine go_iload_n (q := 1) dX9_count_0 rfl rfl rfl ?_
      refine go_tableIn 9 (q := 136) dX9_count_1 (show (nI 9).toInt = 9 from by decide) (by decide) (by decide) rfl (by decide) ?_
      refine go_aload_n (q := 137) dX9_count_136 rfl rfl rfl ?_
      refine go_getf (q := 140) dX9_count_137 fRX9_10 rfl (by decide) rfl rfl ?_
      refine go_cV0 (cal := mX6_refusals) (q := 143) dX9_count_140 lRX9_241 vX6_refusals ⟨by decide, by decide⟩ rfl (by decide) (Nat.le_of_ble_eq_true rfl) (ok_refusals (by decide) hR) rfl ?_
      exact go_ri dX9_count_143 rfl (by simp [aCount, hk, numR] <;> rfl) rfl
    · refine go_iload_n (q := 1) dX9_count_0 rfl rfl rfl ?_
      refine go_tableIn 10 (q := 144) dX9_count_1 (show (nI 10).toInt = 10 from by decide) (by decide) (by decide) rfl (by decide) ?_
      refine go_aload_n (q := 145) dX9_count_144 rfl rfl rfl ?_
      refine go_getf (q := 148) dX9_count_145 fRX9_32 rfl (by decide) rfl rfl ?_
      refine go_cV0 (cal := mX5_length) (q := 151) dX9_count_148 lRX9_89 vX5_length ⟨by decide, by decide⟩ rfl (by decide) (Nat.le_of_ble_eq_true rfl) (ok_plen hP) rfl ?_
      exact go_ri dX9_count_151 rfl (by simp [aCount, hk, numR] <;> rfl) rfl
    · refine go_iload_n (q := 1) dX9_count_0 rfl rfl rfl ?_
      refine go_tableIn 11 (q := 152) dX9_count_1 (show (nI 11).toInt = 11 from by decide) (by decide) (by decide) rfl (by decide) ?_
      refine go_aload_n (q := 153) dX9_count_152 rfl rfl rfl ?_
      refine go_getf (q := 156) dX9_count_153 fRX9_25 rfl (by decide) rfl rfl ?_
      refine go_cV0 (cal := mX2_size) (q := 159) dX9_count_156 lRX9_244 vX2_size ⟨by decide, by decide⟩ rfl (by decide) (Nat.le_of_ble_eq_true rfl) (ok_hsize hH) rfl ?_
      exact go_ri dX9_count_159 rfl (by simp [aCount, hk, numR] <;> rfl) rfl
theorem rDie_L {R : RO} {p : Nat} : rL (rDie R p) p = false := if_pos rfl
theorem heir_dead {R : RO} (hW : rW R) {p : Nat} (hp : p < rN R) (hl : rL R p = true) : fst1 (heirB (rDie R p) p) (rN R) = fst1 (fun j => rL (rDie R p) j && rP R j == some p) (rN R) := by
  have hb : bear (rDie R p) (rS R p) = none := fst1_none.mpr (fun q hq => by
    rw [← Bool.not_eq_true]
    intro z
    simp only [Bool.and_eq_true, beq_iff_eq] at z
    have e : ¬ q = p := fun w => by rw [w, rDie_L] at z; cases z.1
    have hlq : rL R q = true := by have : (if q = p then false else rL R q) = true := z.1; rwa [if_neg e] at this
    exact e (hW.2.2.2.2 q p hq hp hlq hl z.2))
  cases hf : fst1 (fun j => rL (rDie R p) j && rP R j == some p) (rN R) with
  | none =>
    refine fst1_none.mpr (fun j hj => ?_)
    have h1 : (rL (rDie R p) j && rP R j == some p) = false := fst1_none.mp hf j hj
    show (rL (rDie R p) j && (rP R j == some p && _)) = false
    rw [← Bool.and_assoc, h1]; rfl
  | some j =>
    obtain ⟨hj, h1, h2⟩ := fst1_some.mp hf
    simp only [Bool.and_eq_true, beq_iff_eq] at h1
    refine fst1_some.mpr ⟨hj, ?_, fun i hi => ?_⟩
    · have hw : whyH (rDie R p) j = 0 := by
        have hfj : rP (rDie R p) j = some p := h1.2
        have he : eldB (rDie R p) j = false := ex_f (fun i hi => by
          rw [← Bool.not_eq_true]
          intro z
          rw [Bool.and_eq_true] at z
          have hbr : br (rDie R p) (some i) (some j) = true := z.2
          have hbr2 : (i != j && (rP (rDie R p) i != none && rP (rDie R p) i == rP (rDie R p) j)) = true := hbr
          simp only [Bool.and_eq_true, beq_iff_eq] at hbr2
          have h3 := h2 i hi
          rw [z.1, show (rP R i == some p) = true from by rw [beq_iff_eq]; exact hbr2.2.2.trans hfj] at h3
          cases h3)
        unfold whyH
        rw [hfj]
        simp only
        rw [if_neg (by rw [rDie_L]; decide), if_neg (by rw [he]; decide), if_neg (by rw [show rS (rDie R p) p = rS R p from rfl, hb]; simp)]
      show (rL (rDie R p) j && (rP R j == some p && whyH (rDie R p) j == 0)) = true
      rw [h1.1, hw, show (rP R j == some p) = true from by simpa using h1.2]; rfl
    · have h3 := h2 i hi
      show (rL (rDie R p) i && (rP R i == some p && _)) = false
      rw [← Bool.and_assoc, h3]; rfl
theorem in3 {x : Int32} : (pOf 3 x).isSome = true ↔ ¬ x < 0 ∧ x ≤ 2 := by
  rw [pOf_iff, i32_lt, i32_le]
  have e0 : (0 : Int32).toInt = 0 := by decide
  have e2 : (2 : Int32).toInt = 2 := by decide
  rw [e0, e2]; omega
theorem in3_f {x : Int32} (h : x < 0 ∨ ¬ x ≤ 2) : pOf 3 x = none := isSome_f (by
  rw [← Bool.not_eq_true, in3]
  rintro ⟨h1, h2⟩
  rcases h with h | h
  · exact h1 h
  · exact h h2)
def KDQ (M : KM) (v : Int32) : Option KV → KM → Prop := fun r M' => r = some (vI v) ∧ kRoll 2 M M'
theorem ok_ifDead {M : KM} {R : RO} (hR : RA M 0 R) (hW : rW R) (x w : Int32) : Ok mX9_ifDead [vR 0 0, vI x, vI w] M (KDQ M (aIfDead R x w)) := by
  refine ok_of (by decide) rfl (Nat.le_of_ble_eq_true rfl) ⟨rfl, rfl⟩ ?_
  show Go mX9_ifDead (Zm (KDQ M (aIfDead R x w))) M [some (vR 0 0), some (vI x), some (vI w)] [] 0
  refine go_aload_n (q := 1) dX9_ifDead_0 rfl rfl rfl ?_
  refine go_getf (q := 4) dX9_ifDead_1 fRX9_10 rfl (by decide) rfl rfl ?_
  refine go_iload_n (q := 5) dX9_ifDead_4 rfl rfl rfl ?_
  refine go_cV1 (cal := mX6_has) (q := 8) dX9_ifDead_5 lRX9_121 vX6_has ⟨by decide, by decide⟩ rfl (by decide) (Nat.le_of_ble_eq_true rfl) (ok_has (by decide) hR _) rfl ?_
  refine go_if_eqB (q := 11) (t := 20) dX9_ifDead_8 (by decide) rfl (fun c_8 => ?_) (fun c_8 => ?_)
  · refine go_iconst (q := 21) (v := (-1)) dX9_ifDead_20 (by decide) rfl ?_
    exact go_ireti dX9_ifDead_21 rfl ⟨by simp [aIfDead, isSome_f c_8], kRoll.rf⟩
  · refine go_iload_n (q := 12) dX9_ifDead_11 rfl rfl rfl ?_
    refine go_if_lt (q := 15) (t := 20) dX9_ifDead_12 (by decide) rfl (fun c_12 => ?_) (fun c_12 => ?_)
    · refine go_iconst (q := 21) (v := (-1)) dX9_ifDead_20 (by decide) rfl ?_
      exact go_ireti dX9_ifDead_21 rfl ⟨by simp [aIfDead, in3_f (Or.inl c_12)], kRoll.rf⟩
    · refine go_iload_n (q := 16) dX9_ifDead_15 rfl rfl rfl ?_
      refine go_iconst (q := 17) (v := 2) dX9_ifDead_16 (by decide) rfl ?_
      refine go_icmp_le (q := 20) (t := 22) dX9_ifDead_17 (by decide) rfl (fun c_17 => ?_) (fun c_17 => ?_)
      · obtain ⟨p, hp⟩ := isSome_t c_8
        obtain ⟨hlt, rfl⟩ := pOf_some hp
        obtain ⟨k, hk⟩ := isSome_t (in3.mpr ⟨c_12, c_17⟩)
        obtain ⟨hkl, rfl⟩ := pOf_some hk
        refine go_aload_n (q := 23) dX9_ifDead_22 rfl rfl rfl ?_
        refine go_getf (q := 26) dX9_ifDead_23 fRX9_10 rfl (by decide) rfl rfl ?_
        refine go_iload_n (q := 27) dX9_ifDead_26 rfl rfl rfl ?_
        refine go_cV1 (cal := mX6_isAlive) (q := 30) dX9_ifDead_27 lRX9_127 vX6_isAlive ⟨by decide, by decide⟩ rfl (by decide) (Nat.le_of_ble_eq_true rfl) (ok_isAlive (by decide) hR _) rfl ?_
        refine go_if_neB (q := 33) (t := 36) dX9_ifDead_30 (by decide) rfl (fun c_30 => ?_) (fun c_30 => ?_)
        · rw [hp, oL_some] at c_30
          refine go_aload_n (q := 37) dX9_ifDead_36 rfl rfl rfl ?_
          refine go_getf (q := 40) dX9_ifDead_37 fRX9_19 rfl (by decide) rfl rfl ?_
          refine go_aload_n (q := 41) dX9_ifDead_40 rfl rfl rfl ?_
          refine go_getf (q := 44) dX9_ifDead_41 fRX9_10 rfl (by decide) rfl rfl ?_
          refine go_kuV1 (cal := mX6_copyFrom) (q := 47) dX9_ifDead_44 lRX9_252 vX6_copyFrom ⟨by decide, by decide⟩ rfl (by decide) (Nat.le_of_ble_eq_true rfl) (ok_copyFrom (by decide) (by decide) hR (by decide)) rfl (fun M1 hR1 hk1 => ?_)
          refine go_aload_n (q := 48) dX9_ifDead_47 rfl rfl rfl ?_
          refine go_getf (q := 51) dX9_ifDead_48 fRX9_19 rfl (by decide) rfl rfl ?_
          refine go_iload_n (q := 52) dX9_ifDead_51 rfl rfl rfl ?_
          refine go_kV1 (cal := mX6_goes) (q := 55) dX9_ifDead_52 lRX9_72 vX6_goes ⟨by decide, by decide⟩ rfl (by decide) (Nat.le_of_ble_eq_true rfl) (ok_goes (by decide) hR1 (nI p)) rfl (fun M2 hR2 hk2 => ?_)
          rw [show (dDie R (nI p)).2 = rDie R p from by simp [dDie, hp, c_30]] at hR2
          refine go_pop (q := 56) dX9_ifDead_55 rfl rfl ?_
          refine go_iload_n (q := 57) dX9_ifDead_56 rfl rfl rfl ?_
          refine go_if_ne (q := 60) (t := 72) dX9_ifDead_57 (by decide) rfl (fun c_57 => ?_) (fun c_57 => ?_)
          · have h57 : ¬ k = 0 := fun z => c_57 (by rw [z]; rfl)
            refine go_iload_n (q := 73) dX9_ifDead_72 rfl rfl rfl ?_
            refine go_iconst (q := 74) (v := 1) dX9_ifDead_73 (by decide) rfl ?_
            refine go_icmp_ne (q := 77) (t := 87) dX9_ifDead_74 (by decide) rfl (fun c_74 => ?_) (fun c_74 => ?_)
            · have h74 : ¬ k = 1 := fun z => c_74 (by rw [z]; rfl)
              refine go_aload_n (q := 88) dX9_ifDead_87 rfl rfl rfl ?_
              refine go_getf (q := 91) dX9_ifDead_88 fRX9_19 rfl (by decide) rfl rfl ?_
              refine go_cS1 (cal := mX1_leftToAll) (q := 94) dX9_ifDead_91 lRX9_258 vX1_leftToAll ⟨by decide, by decide⟩ (Nat.le_of_ble_eq_true rfl) (ok_leftToAll (by decide) hR2 (rW_die hW)) rfl ?_
              exact go_ireti dX9_ifDead_94 rfl ⟨by rw [show rN (rDie R p) = rN R from rfl]; simp [aIfDead, hp, hk, c_30, h57, h74], hk1.tr hk2⟩
            · obtain rfl : k = 1 := (nI_eq (by omega) (by decide)).mp (Classical.not_not.mp c_74)
              refine go_aload_n (q := 78) dX9_ifDead_77 rfl rfl rfl ?_
              refine go_getf (q := 81) dX9_ifDead_78 fRX9_19 rfl (by decide) rfl rfl ?_
              refine go_cS1 (cal := mX0_confusedPairs) (q := 84) dX9_ifDead_81 lRX9_223 vX0_confusedPairs ⟨by decide, by decide⟩ (Nat.le_of_ble_eq_true rfl) (ok_confusedPairs (by decide) hR2 (rW_die hW)) rfl ?_
              refine go_goto (q := 94) dX9_ifDead_84 (by decide) ?_
              exact go_ireti dX9_ifDead_94 rfl ⟨by simp [aIfDead, hp, hk, c_30], hk1.tr hk2⟩
          · obtain rfl : k = 0 := (nI_eq (by omega) (by decide)).mp (Classical.not_not.mp c_57)
            refine go_aload_n (q := 61) dX9_ifDead_60 rfl rfl rfl ?_
            refine go_getf (q := 64) dX9_ifDead_61 fRX9_19 rfl (by decide) rfl rfl ?_
            refine go_iload_n (q := 65) dX9_ifDead_64 rfl rfl rfl ?_
            refine go_cS2 (cal := mX3_heirOf) (q := 68) dX9_ifDead_65 lRX9_255 vX3_heirOf ⟨by decide, by decide⟩ (Nat.le_of_ble_eq_true rfl) (ok_heirOf (by decide) hR2 (rW_die hW) hlt) rfl ?_
            refine go_cS1 (cal := mX9_orNotFound) (q := 71) dX9_ifDead_68 lRX9_133 vX9_orNotFound ⟨by decide, by decide⟩ (Nat.le_of_ble_eq_true rfl) (ok_orNF (fun k hk2 => by have := (fst1_some.mp hk2).1; have := hW.1; have h4 : k < rN R := (fst1_some.mp hk2).1; omega)) rfl ?_
            exact go_ireti dX9_ifDead_71 rfl ⟨by rw [show rN (rDie R p) = rN R from rfl, heir_dead hW hlt c_30]; simp [aIfDead, hp, hk, c_30], hk1.tr hk2⟩
        · refine go_bipush (q := 35) (v := (-2)) dX9_ifDead_33 (by decide) rfl ?_
          exact go_ireti dX9_ifDead_35 rfl ⟨by rw [hp, oL_some] at c_30; simp [aIfDead, hp, hk, c_30], kRoll.rf⟩
      · refine go_iconst (q := 21) (v := (-1)) dX9_ifDead_20 (by decide) rfl ?_
        exact go_ireti dX9_ifDead_21 rfl ⟨by simp [aIfDead, in3_f (Or.inr c_17)], kRoll.rf⟩
