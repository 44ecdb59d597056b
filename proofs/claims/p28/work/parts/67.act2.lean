/-! ===== the law's methods: act, die and inherit ===== -/
theorem dd_val {R : RO} {p : Nat} (hW : rW R) (hp : p < rN R) : dDie R (nI p) = if rL R p = false then (6, rRef R) else (nI (10 + cn (rL (rDie R p)) (rN R)), rDie R p) := by
  unfold dDie
  rw [pOf_nI hp (by have := hW.1; omega)]
theorem dd_6 {R : RO} {p : Nat} (hW : rW R) (hp : p < rN R) (hl : rL R p = false) : (dDie R (nI p)).1 = 6 := by rw [dd_val hW hp, if_pos hl]
theorem dd_n {R : RO} {p : Nat} (hW : rW R) (hp : p < rN R) (hl : rL R p = true) : (dDie R (nI p)).1 = nI (9 + cn (rL R) (rN R)) := by
  rw [dd_val hW hp, if_neg (by rw [hl]; decide)]
  show nI (10 + cn (rL (rDie R p)) (rN R)) = _
  rw [cnL_die hp hl]
  congr 1
  omega
theorem dd_dead {R : RO} {p : Nat} (hW : rW R) (hp : p < rN R) : rL (dDie R (nI p)).2 p = false ∧ rN (dDie R (nI p)).2 = rN R := by
  rw [dd_val hW hp]
  by_cases h : rL R p = false
  · rw [if_pos h]; exact ⟨h, rfl⟩
  · rw [if_neg h]; exact ⟨if_pos rfl, rfl⟩
theorem dh_val {R : RO} {p : Nat} (hW : rW R) (hp : p < rN R) : dHeir R (nI p) = if rL R p = false then (-2, R) else if ¬ whyH R p = 0 then (nI (whyH R p), rRef R) else (nI (10 + ap (rS R p) (oS R (rP R p))), rHeir R p (oS R (rP R p))) := by
  unfold dHeir
  rw [pOf_nI hp (by have := hW.1; omega)]
theorem dh_2 {R : RO} {p : Nat} (hW : rW R) (hp : p < rN R) (hl : rL R p = false) : (dHeir R (nI p)).1 = -2 := by rw [dh_val hW hp, if_pos hl]
/-- whether the father is dead, and p lives; an elder living brother below j; whether p becomes heir -/
def hr0 (R : RO) (p : Nat) : Bool := rL R p && (match rP R p with | some f => !rL R f | none => false)
def eB (R : RO) (p j : Nat) : Bool := ex (fun i => rL R i && rP R i == rP R p) j
def fr0 (R : RO) (p : Nat) : Bool := (hr0 R p && !eB R p p) && (match rP R p with | some f => (bear R (rS R f)).isNone | none => false)
theorem hr0_some {R : RO} {p f : Nat} (h : rP R p = some f) : hr0 R p = (rL R p && !rL R f) := by unfold hr0; rw [h]
theorem hr0_none {R : RO} {p : Nat} (h : rP R p = none) : hr0 R p = false := by
  unfold hr0
  rw [h]
  cases rL R p <;> rfl
theorem fr0_some {R : RO} {p f : Nat} (h : rP R p = some f) : fr0 R p = ((hr0 R p && !eB R p p) && (bear R (rS R f)).isNone) := by unfold fr0; rw [h]
theorem eB_s (R : RO) (p j : Nat) : eB R p (j + 1) = (eB R p j || (rL R j && rP R j == rP R p)) := rfl
theorem hb1 {a e x : Bool} (c : (a && !e) = false) : (a && !(e || x)) = false := by
  revert c
  cases a <;> cases e <;> cases x <;> decide
theorem hb2 {a e x : Bool} (c : (a && !e) = true) (hx : x = false) : (a && !(e || x)) = true := by
  subst hx
  revert c
  cases a <;> cases e <;> decide
theorem hb3 {a e x : Bool} (hx : x = true) : (a && !(e || x)) = false := by
  subst hx
  cases a <;> cases e <;> decide
theorem ex_cg {P Q : Nat → Bool} : ∀ {n : Nat}, (∀ i, i < n → P i = Q i) → ex P n = ex Q n
  | 0, _ => rfl
  | n + 1, h => by
    show (ex P n || P n) = (ex Q n || Q n)
    rw [ex_cg (fun i hi => h i (by omega)), h n (by omega)]
theorem eB_eld {R : RO} {p f : Nat} (h : rP R p = some f) : eB R p p = eldB R p := ex_cg (fun i hi => by
  show (rL R i && rP R i == rP R p) = (rL R i && br R (some i) (some p))
  rw [br_some h, h, show (i != p) = true from by simpa using (show ¬ i = p by omega)]
  simp)
theorem e4_inj {a b : Option Nat} (ha : ∀ k, a = some k → k < 2 ^ 31) (hb : ∀ k, b = some k → k < 2 ^ 31) (h : e4 a = e4 b) : a = b := by
  cases b with
  | none => exact (e4_eq ha).mp h
  | some k => exact (e4_nI ha (hb k rfl)).mp h
theorem pr_f {R : RO} {p j : Nat} (c : e4 (rP R j) ≠ e4 (rP R p)) : (rL R j && rP R j == rP R p) = false := by
  have : ¬ rP R j = rP R p := fun z => c (by rw [z])
  simp [this]
theorem pr_t {R : RO} {p j : Nat} (hW : rW R) (hj : j < rN R) (hp : p < rN R) (c : ¬ (e4 (rP R j) ≠ e4 (rP R p))) (hl : rL R j = true) : (rL R j && rP R j == rP R p) = true := by
  have : rP R j = rP R p := e4_inj (rP_bg hW hj) (rP_bg hW hp) (Classical.not_not.mp c)
  rw [hl, this]
  simp
theorem hr0_t {R : RO} {p : Nat} {x : Bool} (h : (hr0 R p && x) = true) : ∃ f, rP R p = some f ∧ rL R f = false ∧ rL R p = true := by
  have h1 : hr0 R p = true := (Bool.and_eq_true _ _ ▸ h).1
  cases hp : rP R p with
  | none => rw [hr0_none hp] at h1; cases h1
  | some f =>
    rw [hr0_some hp] at h1
    have h2 : rL R p = true ∧ rL R f = false := by simpa using h1
    exact ⟨f, rfl, h2.2, h2.1⟩
/-- who becomes heir, and what is left then -/
theorem fr_t {R : RO} {p : Nat} (hW : rW R) (hp : p < rN R) (h : fr0 R p = true) : ∃ f, rP R p = some f ∧ f < p ∧ dHeir R (nI p) = (nI (10 + ap (rS R p) (rS R f)), rHeir R p (rS R f)) := by
  have h1 : (hr0 R p && !eB R p p) = true := (Bool.and_eq_true _ _ ▸ h).1
  obtain ⟨f, hf, hd, hl⟩ := hr0_t h1
  rw [fr0_some hf] at h
  have h2 : (bear R (rS R f)).isNone = true := (Bool.and_eq_true _ _ ▸ h).2
  have h3 : eldB R p = false := by
    rw [← eB_eld hf]
    have := (Bool.and_eq_true _ _ ▸ h1).2
    simpa using this
  have h4 : bear R (rS R f) = none := by simpa using h2
  have h5 : whyH R p = 0 := by
    unfold whyH
    rw [hf]
    show (if rL R f = true then 7 else if eldB R p = true then 8 else if ¬ bear R (rS R f) = none then 3 else 0) = 0
    rw [if_neg (by rw [hd]; decide), if_neg (by rw [h3]; decide), if_neg (fun z => z h4)]
  refine ⟨f, hf, rP_lt hW hp f hf, ?_⟩
  rw [dh_val hW hp, if_neg (by rw [hl]; decide), if_neg (fun z => z h5), hf]
  rfl
/-- who does not, and why -/
theorem fr_f {R : RO} {p : Nat} (hW : rW R) (hp : p < rN R) (hl : rL R p = true) (h : fr0 R p = false) : ∃ v : Int32, (v = 3 ∨ v = 7 ∨ v = 8) ∧ ((hr0 R p && !eB R p p) = true ↔ v = 3) ∧ (v = 7 ↔ ∀ f, rP R p = some f → rL R f = true) ∧ dHeir R (nI p) = (v, rRef R) := by
  have key : ∀ k : Nat, whyH R p = k → k ≠ 0 → dHeir R (nI p) = (nI k, rRef R) := fun k hk h0 => by
    rw [dh_val hW hp, if_neg (by rw [hl]; decide), if_pos (by rw [hk]; exact h0), hk]
  cases hf : rP R p with
  | none =>
    refine ⟨7, by decide, ?_, ⟨fun _ f h => (by cases h), fun _ => rfl⟩, key 7 (by unfold whyH; rw [hf]) (by decide)⟩
    rw [hr0_none hf]
    exact ⟨fun z => (by cases z), fun z => absurd z (by decide)⟩
  | some f =>
    have hw : whyH R p = if rL R f = true then 7 else if eldB R p = true then 8 else if ¬ bear R (rS R f) = none then 3 else 0 := by unfold whyH; rw [hf]
    rw [hr0_some hf, hl, eB_eld hf]
    by_cases h1 : rL R f = true
    · rw [if_pos h1] at hw
      refine ⟨7, by decide, ?_, ⟨fun _ g hg => by cases hg; exact h1, fun _ => rfl⟩, key 7 hw (by decide)⟩
      rw [h1]
      exact ⟨fun z => (by simp at z), fun z => absurd z (by decide)⟩
    · rw [if_neg h1] at hw
      have h1' : rL R f = false := by simpa using h1
      by_cases h2 : eldB R p = true
      · rw [if_pos h2] at hw
        refine ⟨8, by decide, ?_, ⟨fun z => absurd z (by decide), fun z => absurd (z f rfl) h1⟩, key 8 hw (by decide)⟩
        rw [h2]
        exact ⟨fun z => (by simp at z), fun z => absurd z (by decide)⟩
      · rw [if_neg h2] at hw
        have h2' : eldB R p = false := by simpa using h2
        have h3 : ¬ bear R (rS R f) = none := fun z => by
          rw [fr0_some hf, hr0_some hf, hl, h1', eB_eld hf, h2', z] at h
          cases h
        rw [if_pos h3] at hw
        refine ⟨3, by decide, ?_, ⟨fun z => absurd z (by decide), fun z => absurd (z f rfl) h1⟩, key 3 hw (by decide)⟩
        rw [h1', h2']
        exact ⟨fun _ => rfl, fun _ => rfl⟩
theorem ac_die {M : KM} {σ : ST} (hC : CI M σ) {X : Nat} (hX : X < 2 ^ 31) {p : Nat} (hp : p < rN σ.1) : Go mL_act (Zm (QC M (dDie σ.1 (nI p)).1 (sDeed2 σ (dDie σ.1 (nI p))))) M [some (vR 0 0), some (vI (nI X)), some (vI (nI (X % 12))), some (vI (nI (X / 12))), some (vI (nI (rN σ.1))), some (vI (nI (cn (rL σ.1) (rN σ.1)))), some (vI (nI p)), some (vI (bI (rL σ.1 p))), none, none, none, none, none, none, none] [] 410 := by
  refine go_aload_n (q := 411) dL_act_410 rfl rfl rfl ?_
  refine go_iload (q := 413) dL_act_411 rfl rfl ?_
  refine go_callV [vI (nI p)] (cal := mX9_die) (q := 416) dL_act_413 lRL_57 vX9_die ⟨by decide, by decide⟩ rfl rfl (by decide) (Nat.le_of_ble_eq_true rfl) (ok_die hC _) rfl (fun r413 M413 h413 => ?_)
  obtain ⟨rfl, hC1, hf1⟩ := h413
  refine go_istore (q := 418) dL_act_416 (by decide) rfl rfl ?_
  refine go_iload (q := 420) dL_act_418 rfl rfl ?_
  refine go_iload (q := 422) dL_act_420 rfl rfl ?_
  refine go_join1 (J := 435) (v := (dDie σ.1 (nI p)).1) ?_ (fun j435 => ?_)
  · refine go_icmp_ne (q := 438) (t := 453) dL_act_435 (by decide) rfl (fun z => absurd z (nn rfl)) (fun _ => ?_)
    have hde := dd_dead hC.2.1 hp
    have e1 : (sDeed2 σ (dDie σ.1 (nI p))).1 = (dDie σ.1 (nI p)).2 := sD1 (eDie hC.2.1 _)
    have hR1 := hC1.1
    have hW1 := hC1.2.1
    rw [e1] at hR1 hW1
    refine go_aload_n (q := 439) dL_act_438 rfl rfl rfl ?_
    refine go_iload (q := 441) dL_act_439 rfl rfl ?_
    refine go_iconst (q := 442) (v := 1) dL_act_441 (by decide) rfl ?_
    refine go_cV2 (cal := mX9_person) (q := 445) dL_act_442 lRL_20 vX9_person ⟨by decide, by decide⟩ rfl (by decide) (Nat.le_of_ble_eq_true rfl) (ok_person hR1 hW1 _ _) rfl ?_
    refine go_topi (show aPerson (dDie σ.1 (nI p)).2 (nI p) 1 = 0 from by rw [aP1 hW1 (by rw [hde.2]; exact hp), hde.1]; rfl) ?_
    refine go_if_ne (q := 448) (t := 453) dL_act_445 (by decide) rfl (fun z => absurd z (nn rfl)) (fun _ => ?_)
    refine go_iload (q := 450) dL_act_448 rfl rfl ?_
    refine go_goto (q := 455) dL_act_450 (by decide) ?_
    exact go_ireti dL_act_455 rfl ⟨rfl, hC1, hf1⟩
  · refine go_if_eqB (q := 425) (t := 433) dL_act_422 (by decide) rfl (fun c_422 => ?_) (fun c_422 => ?_)
    · refine go_bipush (q := 435) (v := 6) dL_act_433 (by decide) rfl ?_
      exact j435 _ (dd_6 hC.2.1 hp c_422).symm
    · refine go_bipush (q := 427) (v := 9) dL_act_425 (by decide) rfl ?_
      refine go_iload (q := 429) dL_act_427 rfl rfl ?_
      refine go_iadd (q := 430) dL_act_429 rfl ?_
      refine go_topi (show (9 : Int32) + nI (cn (rL σ.1) (rN σ.1)) = nI (9 + cn (rL σ.1) (rN σ.1)) from nI_add 9 _) ?_
      refine go_goto (q := 435) dL_act_430 (by decide) ?_
      exact j435 _ (dd_n hC.2.1 hp c_422).symm
theorem ac_h3 {M : KM} {σ : ST} (hC : CI M σ) {X : Nat} (hX : X < 2 ^ 31) {p : Nat} (hp : p < rN σ.1) {v : Int32} (hv : v = 3 ∨ v = 7 ∨ v = 8) {b12 : Bool} (h3 : b12 = true ↔ v = 3) (h7 : v = 7 ↔ ∀ f, rP σ.1 p = some f → rL σ.1 f = true) {M1 : KM} {σ1 : ST} (hC1 : CI M1 σ1) (hf1 : fc M M1) (hR1 : RA M1 0 (rRef σ.1)) (hW1 : rW (rRef σ.1)) {l13 : Option KV} : Go mL_act (Zm (QC M v σ1)) M1 [some (vR 0 0), some (vI (nI X)), some (vI (nI (X % 12))), some (vI (nI (X / 12))), some (vI (nI (rN σ.1))), some (vI (nI (cn (rL σ.1) (rN σ.1)))), some (vI (nI p)), some (vI (bI (rL σ.1 p))), some (vI (e4 (rP σ.1 p))), some (vI (nI (rH σ.1))), some (vI (nI (rS σ.1 p))), some (vI (e4 (pF σ.1 p))), some (vI (bI b12)), l13, some (vI v)] [] 674 := by
  refine go_iload (q := 676) dL_act_674 rfl rfl ?_
  refine go_iconst (q := 677) (v := 3) dL_act_676 (by decide) rfl ?_
  refine go_meet2 (J := 694) ?_ (fun j694 => ?_)
  · refine go_iload (q := 696) dL_act_694 rfl rfl ?_
    refine go_iconst (q := 697) (v := 3) dL_act_696 (by decide) rfl ?_
    refine go_join2 (J := 705) (v := bI b12) ?_ (fun j705 => ?_)
    · refine go_iload (q := 707) dL_act_705 rfl rfl ?_
      refine go_icmp_ne (q := 710) (t := 774) dL_act_707 (by decide) rfl (fun z => absurd z (nn rfl)) (fun _ => ?_)
      refine go_iload (q := 712) dL_act_710 rfl rfl ?_
      refine go_bipush (q := 714) (v := 7) dL_act_712 (by decide) rfl ?_
      refine go_join2 (J := 722) (v := bI (decide (v = 7))) ?_ (fun j722 => ?_)
      · refine go_iload (q := 724) dL_act_722 rfl rfl ?_
        refine go_join1 (J := 743) (v := bI (decide (v = 7))) ?_ (fun j743 => ?_)
        · refine go_icmp_ne (q := 746) (t := 774) dL_act_743 (by decide) rfl (fun z => absurd z (nn rfl)) (fun _ => ?_)
          refine go_aload_n (q := 747) dL_act_746 rfl rfl rfl ?_
          refine go_iload (q := 749) dL_act_747 rfl rfl ?_
          refine go_iconst (q := 750) (v := 0) dL_act_749 (by decide) rfl ?_
          refine go_cV2 (cal := mX9_person) (q := 753) dL_act_750 lRL_20 vX9_person ⟨by decide, by decide⟩ rfl (by decide) (Nat.le_of_ble_eq_true rfl) (ok_person hR1 hW1 _ _) rfl ?_
          refine go_topi (show aPerson (rRef σ.1) (nI p) 0 = nI (rS σ.1 p) from aP0 (R := rRef σ.1) hW1 hp) ?_
          refine go_iload (q := 755) dL_act_753 rfl rfl ?_
          refine go_icmp_ne (q := 758) (t := 774) dL_act_755 (by decide) rfl (fun z => absurd z (nn rfl)) (fun _ => ?_)
          refine go_aload_n (q := 759) dL_act_758 rfl rfl rfl ?_
          refine go_bipush (q := 761) (v := 8) dL_act_759 (by decide) rfl ?_
          refine go_cV1 (cal := mX9_count) (q := 764) dL_act_761 lRL_14 vX9_count ⟨by decide, by decide⟩ rfl (by decide) (Nat.le_of_ble_eq_true rfl) (ok_count hR1 hW1 hC1.2.2.2.2.2.2.1 hC1.2.2.2.2.1 _) rfl ?_
          refine go_topi (show aCount (rRef σ.1) _ _ 8 = nI (rH σ.1) from aN8) ?_
          refine go_iload (q := 766) dL_act_764 rfl rfl ?_
          refine go_icmp_ne (q := 769) (t := 774) dL_act_766 (by decide) rfl (fun z => absurd z (nn rfl)) (fun _ => ?_)
          refine go_iload (q := 771) dL_act_769 rfl rfl ?_
          refine go_goto (q := 776) dL_act_771 (by decide) ?_
          exact go_ireti dL_act_776 rfl ⟨rfl, hC1, hf1⟩
        · refine go_if_lt (q := 727) (t := 738) dL_act_724 (by decide) rfl (fun c_724 => ?_) (fun c_724 => ?_)
          · refine go_iconst (q := 739) (v := 1) dL_act_738 (by decide) rfl ?_
            refine go_goto (q := 743) dL_act_739 (by decide) ?_
            exact j743 _ (sel1 decide_eq_true_iff (h7.mpr (fun f hf => by rw [(e4_neg (rP_bg hC.2.1 hp)).mp c_724] at hf; cases hf)))
          · obtain ⟨f, hf⟩ := e4_ge (rP_bg hC.2.1 hp) c_724
            refine go_aload_n (q := 728) dL_act_727 rfl rfl rfl ?_
            refine go_iload (q := 730) dL_act_728 rfl rfl ?_
            refine go_iconst (q := 731) (v := 1) dL_act_730 (by decide) rfl ?_
            refine go_cV2 (cal := mX9_person) (q := 734) dL_act_731 lRL_20 vX9_person ⟨by decide, by decide⟩ rfl (by decide) (Nat.le_of_ble_eq_true rfl) (ok_person hR1 hW1 _ _) rfl ?_
            refine go_topi (show aPerson (rRef σ.1) (e4 (rP σ.1 p)) 1 = bI (rL σ.1 f) from by rw [hf]; exact aP1 (R := rRef σ.1) hW1 (rP_n hC.2.1 hp f hf)) ?_
            refine go_iconst (q := 735) (v := 1) dL_act_734 (by decide) rfl ?_
            refine go_icmp_ne (q := 738) (t := 742) dL_act_735 (by decide) rfl (fun c_735 => ?_) (fun c_735 => ?_)
            · refine go_iconst (q := 743) (v := 0) dL_act_742 (by decide) rfl ?_
              exact j743 _ (sel0 decide_eq_true_iff (fun z => by have := bne1 c_735; rw [h7.mp z f hf] at this; cases this))
            · refine go_iconst (q := 739) (v := 1) dL_act_738 (by decide) rfl ?_
              refine go_goto (q := 743) dL_act_739 (by decide) ?_
              exact j743 _ (sel1 decide_eq_true_iff (h7.mpr (fun g hg => by rw [hf] at hg; cases hg; exact be1 c_735)))
      · refine go_icmp_ne (q := 717) (t := 721) dL_act_714 (by decide) rfl (fun c_714 => ?_) (fun c_714 => ?_)
        · refine go_iconst (q := 722) (v := 0) dL_act_721 (by decide) rfl ?_
          exact j722 _ (sel0 decide_eq_true_iff c_714)
        · refine go_iconst (q := 718) (v := 1) dL_act_717 (by decide) rfl ?_
          refine go_goto (q := 722) dL_act_718 (by decide) ?_
          exact j722 _ (sel1 decide_eq_true_iff (Classical.not_not.mp c_714))
    · refine go_icmp_ne (q := 700) (t := 704) dL_act_697 (by decide) rfl (fun c_697 => ?_) (fun c_697 => ?_)
      · refine go_iconst (q := 705) (v := 0) dL_act_704 (by decide) rfl ?_
        exact j705 _ (sel0 h3 c_697)
      · refine go_iconst (q := 701) (v := 1) dL_act_700 (by decide) rfl ?_
        refine go_goto (q := 705) dL_act_701 (by decide) ?_
        exact j705 _ (sel1 h3 (Classical.not_not.mp c_697))
  · refine go_icmp_eq (q := 680) (t := 694) dL_act_677 (by decide) rfl (fun c_677 => ?_) (fun c_677 => ?_)
    · exact j694
    · refine go_iload (q := 682) dL_act_680 rfl rfl ?_
      refine go_bipush (q := 684) (v := 7) dL_act_682 (by decide) rfl ?_
      refine go_icmp_eq (q := 687) (t := 694) dL_act_684 (by decide) rfl (fun c_684 => ?_) (fun c_684 => ?_)
      · exact j694
      · refine go_iload (q := 689) dL_act_687 rfl rfl ?_
        refine go_bipush (q := 691) (v := 8) dL_act_689 (by decide) rfl ?_
        refine go_icmp_ne (q := 694) (t := 774) dL_act_691 (by decide) rfl (fun z => absurd z (nn (by rcases hv with z | z | z; exact absurd z c_677; exact absurd z c_684; exact z))) (fun _ => ?_)
        exact j694
theorem ac_h2 {M : KM} {σ : ST} (hC : CI M σ) {X : Nat} (hX : X < 2 ^ 31) {p : Nat} (hp : p < rN σ.1) : Go mL_act (Zm (QC M (dHeir σ.1 (nI p)).1 (sDeed2 σ (dHeir σ.1 (nI p))))) M [some (vR 0 0), some (vI (nI X)), some (vI (nI (X % 12))), some (vI (nI (X / 12))), some (vI (nI (rN σ.1))), some (vI (nI (cn (rL σ.1) (rN σ.1)))), some (vI (nI p)), some (vI (bI (rL σ.1 p))), some (vI (e4 (rP σ.1 p))), some (vI (nI (rH σ.1))), some (vI (nI (rS σ.1 p))), some (vI (e4 (pF σ.1 p))), some (vI (bI (hr0 σ.1 p && !eB σ.1 p p))), some (vI (bI (fr0 σ.1 p))), none] [] 597 := by
  refine go_aload_n (q := 598) dL_act_597 rfl rfl rfl ?_
  refine go_iload (q := 600) dL_act_598 rfl rfl ?_
  refine go_callV [vI (nI p)] (cal := mX9_inherit) (q := 603) dL_act_600 lRL_60 vX9_inherit ⟨by decide, by decide⟩ rfl rfl (by decide) (Nat.le_of_ble_eq_true rfl) (ok_inherit hC _) rfl (fun r600 M600 h600 => ?_)
  obtain ⟨rfl, hC1, hf1⟩ := h600
  refine go_istore (q := 605) dL_act_603 (by decide) rfl rfl ?_
  refine go_iload (q := 607) dL_act_605 rfl rfl ?_
  refine go_if_neB (q := 610) (t := 625) dL_act_607 (by decide) rfl (fun c_607 => ?_) (fun c_607 => ?_)
  · refine go_iload (q := 627) dL_act_625 rfl rfl ?_
    refine go_if_eqB (q := 630) (t := 674) dL_act_627 (by decide) rfl (fun c_627 => ?_) (fun c_627 => ?_)
    · obtain ⟨v, hv, h3, h7, hd⟩ := fr_f hC.2.1 hp c_607 c_627
      have e1 : (sDeed2 σ (dHeir σ.1 (nI p))).1 = rRef σ.1 := by rw [sD1 (eHeir hC.2.1 _), hd]
      have hR1 := hC1.1
      have hW1 := hC1.2.1
      rw [e1] at hR1 hW1
      have ev : (dHeir σ.1 (nI p)).1 = v := by rw [hd]
      generalize sDeed2 σ (dHeir σ.1 (nI p)) = σ1 at hC1 ⊢
      rw [ev]
      exact ac_h3 hC hX hp hv h3 h7 hC1 hf1 hR1 hW1
    · obtain ⟨f, hf, hfp, hd⟩ := fr_t hC.2.1 hp c_627
      have e1 : (sDeed2 σ (dHeir σ.1 (nI p))).1 = rHeir σ.1 p (rS σ.1 f) := by rw [sD1 (eHeir hC.2.1 _), hd]
      have hR1 := hC1.1
      have hW1 := hC1.2.1
      rw [e1] at hR1 hW1
      refine go_iload (q := 632) dL_act_630 rfl rfl ?_
      refine go_bipush (q := 634) (v := 10) dL_act_632 (by decide) rfl ?_
      refine go_iload (q := 636) dL_act_634 rfl rfl ?_
      refine go_iadd (q := 637) dL_act_636 rfl ?_
      refine go_topi (show (10 : Int32) + e4 (pF σ.1 p) = nI (10 + ap (rS σ.1 p) (rS σ.1 f)) from by rw [pF_some hf]; exact nI_add 10 _) ?_
      refine go_icmp_ne (q := 640) (t := 669) dL_act_637 (by decide) rfl (fun z => absurd z (nn (by rw [hd]))) (fun _ => ?_)
      refine go_aload_n (q := 641) dL_act_640 rfl rfl rfl ?_
      refine go_iload (q := 643) dL_act_641 rfl rfl ?_
      refine go_bipush (q := 645) (v := 11) dL_act_643 (by decide) rfl ?_
      refine go_cV2 (cal := mX9_person) (q := 648) dL_act_645 lRL_20 vX9_person ⟨by decide, by decide⟩ rfl (by decide) (Nat.le_of_ble_eq_true rfl) (ok_person hR1 hW1 _ _) rfl ?_
      refine go_topi (show aPerson (rHeir σ.1 p (rS σ.1 f)) (nI p) 11 = 0 from by rw [aP11 hW1 hp, pF_some (R := rHeir σ.1 p (rS σ.1 f)) hf, rS_heirp, rS_heir (by omega), ap_self]; rfl) ?_
      refine go_if_ne (q := 651) (t := 669) dL_act_648 (by decide) rfl (fun z => absurd z (nn rfl)) (fun _ => ?_)
      refine go_aload_n (q := 652) dL_act_651 rfl rfl rfl ?_
      refine go_bipush (q := 654) (v := 8) dL_act_652 (by decide) rfl ?_
      refine go_cV1 (cal := mX9_count) (q := 657) dL_act_654 lRL_14 vX9_count ⟨by decide, by decide⟩ rfl (by decide) (Nat.le_of_ble_eq_true rfl) (ok_count hR1 hW1 hC1.2.2.2.2.2.2.1 hC1.2.2.2.2.1 _) rfl ?_
      refine go_topi (show aCount (rHeir σ.1 p (rS σ.1 f)) _ _ 8 = nI (rH σ.1 + 1) from aN8) ?_
      refine go_iload (q := 659) dL_act_657 rfl rfl ?_
      refine go_iconst (q := 660) (v := 1) dL_act_659 (by decide) rfl ?_
      refine go_iadd (q := 661) dL_act_660 rfl ?_
      refine go_topi (nI_add _ 1) ?_
      refine go_icmp_ne (q := 664) (t := 669) dL_act_661 (by decide) rfl (fun z => absurd z (nn rfl)) (fun _ => ?_)
      refine go_iload (q := 666) dL_act_664 rfl rfl ?_
      refine go_goto (q := 776) dL_act_666 (by decide) ?_
      exact go_ireti dL_act_776 rfl ⟨rfl, hC1, hf1⟩
  · refine go_iload (q := 612) dL_act_610 rfl rfl ?_
    refine go_bipush (q := 614) (v := (-2)) dL_act_612 (by decide) rfl ?_
    refine go_icmp_ne (q := 617) (t := 622) dL_act_614 (by decide) rfl (fun z => absurd z (nn (dh_2 hC.2.1 hp c_607))) (fun _ => ?_)
    refine go_iload (q := 619) dL_act_617 rfl rfl ?_
    refine go_goto (q := 624) dL_act_619 (by decide) ?_
    exact go_ireti dL_act_624 rfl ⟨rfl, hC1, hf1⟩
theorem ac_h1 {M : KM} {σ : ST} (hC : CI M σ) {X : Nat} (hX : X < 2 ^ 31) {p : Nat} (hp : p < rN σ.1) {l13 : Option KV} : Go mL_act (Zm (QC M (dHeir σ.1 (nI p)).1 (sDeed2 σ (dHeir σ.1 (nI p))))) M [some (vR 0 0), some (vI (nI X)), some (vI (nI (X % 12))), some (vI (nI (X / 12))), some (vI (nI (rN σ.1))), some (vI (nI (cn (rL σ.1) (rN σ.1)))), some (vI (nI p)), some (vI (bI (rL σ.1 p))), some (vI (e4 (rP σ.1 p))), some (vI (nI (rH σ.1))), some (vI (nI (rS σ.1 p))), some (vI (e4 (pF σ.1 p))), some (vI (bI (hr0 σ.1 p && !eB σ.1 p p))), l13, none] [] 569 := by
  refine go_iload (q := 571) dL_act_569 rfl rfl ?_
  refine go_join1 (J := 595) (v := bI (fr0 σ.1 p)) ?_ (fun j595 => ?_)
  · refine go_istore (q := 597) dL_act_595 (by decide) rfl rfl ?_
    exact ac_h2 hC hX hp
  · refine go_if_eqB (q := 574) (t := 594) dL_act_571 (by decide) rfl (fun c_571 => ?_) (fun c_571 => ?_)
    · refine go_iconst (q := 595) (v := 0) dL_act_594 (by decide) rfl ?_
      exact j595 _ (show (0 : Int32) = bI (fr0 σ.1 p) from by unfold fr0; rw [c_571]; rfl)
    · obtain ⟨f, hf, hfd, -⟩ := hr0_t c_571
      refine go_aload_n (q := 575) dL_act_574 rfl rfl rfl ?_
      refine go_aload_n (q := 576) dL_act_575 rfl rfl rfl ?_
      refine go_iload (q := 578) dL_act_576 rfl rfl ?_
      refine go_iconst (q := 579) (v := 0) dL_act_578 (by decide) rfl ?_
      refine go_cV2 (cal := mX9_person) (q := 582) dL_act_579 lRL_20 vX9_person ⟨by decide, by decide⟩ rfl (by decide) (Nat.le_of_ble_eq_true rfl) (ok_person hC.1 hC.2.1 _ _) rfl ?_
      refine go_topi (show aPerson σ.1 (e4 (rP σ.1 p)) 0 = nI (rS σ.1 f) from by rw [hf]; exact aP0 hC.2.1 (rP_n hC.2.1 hp f hf)) ?_
      refine go_cV1 (cal := mX9_bearer) (q := 585) dL_act_582 lRL_26 vX9_bearer ⟨by decide, by decide⟩ rfl (by decide) (Nat.le_of_ble_eq_true rfl) (ok_bearer hC.1 hC.2.1 _) rfl ?_
      refine go_topi (aBr (hC.2.1.2.1 f (rP_n hC.2.1 hp f hf))) ?_
      refine go_bipush (q := 587) (v := (-4)) dL_act_585 (by decide) rfl ?_
      refine go_icmp_ne (q := 590) (t := 594) dL_act_587 (by decide) rfl (fun c_587 => ?_) (fun c_587 => ?_)
      · refine go_iconst (q := 595) (v := 0) dL_act_594 (by decide) rfl ?_
        exact j595 _ (show (0 : Int32) = bI (fr0 σ.1 p) from by rw [fr0_some hf, c_571, show (bear σ.1 (rS σ.1 f)).isNone = false from by cases hb : bear σ.1 (rS σ.1 f) with | none => exact absurd (by rw [hb]; rfl) c_587 | some q => rfl]; rfl)
      · refine go_iconst (q := 591) (v := 1) dL_act_590 (by decide) rfl ?_
        refine go_goto (q := 595) dL_act_591 (by decide) ?_
        exact j595 _ (show (1 : Int32) = bI (fr0 σ.1 p) from by rw [fr0_some hf, c_571, show (bear σ.1 (rS σ.1 f)) = none from (e4_eq (bear_bg hC.2.1)).mp (Classical.not_not.mp c_587)]; rfl)
theorem ac_h0 {M : KM} {σ : ST} (hC : CI M σ) {X : Nat} (hX : X < 2 ^ 31) {p : Nat} (hp : p < rN σ.1) : ∀ (d : Nat) (j : Nat), p - j < d → (j ≤ p) → Go mL_act (Zm (QC M (dHeir σ.1 (nI p)).1 (sDeed2 σ (dHeir σ.1 (nI p))))) M [some (vR 0 0), some (vI (nI X)), some (vI (nI (X % 12))), some (vI (nI (X / 12))), some (vI (nI (rN σ.1))), some (vI (nI (cn (rL σ.1) (rN σ.1)))), some (vI (nI p)), some (vI (bI (rL σ.1 p))), some (vI (e4 (rP σ.1 p))), some (vI (nI (rH σ.1))), some (vI (nI (rS σ.1 p))), some (vI (e4 (pF σ.1 p))), some (vI (bI (hr0 σ.1 p && !eB σ.1 p j))), some (vI (nI j)), none] [] 522 := by
  intro d
  induction d with
  | zero => intro j hd; exact absurd hd (Nat.not_lt_zero _)
  | succ d ih =>
    intro j hd h0
    have hn := hC.2.1.1
    refine go_iload (q := 524) dL_act_522 rfl rfl ?_
    refine go_iload (q := 526) dL_act_524 rfl rfl ?_
    refine go_icmp_geN j p (q := 529) (t := 569) dL_act_526 (by decide) rfl rfl rfl (by omega) (by omega) (fun c_526 => ?_) (fun c_526 => ?_)
    · obtain rfl : j = p := by omega
      exact ac_h1 hC hX hp
    · refine go_iload (q := 531) dL_act_529 rfl rfl ?_
      refine go_join1 (J := 561) (v := bI (hr0 σ.1 p && !eB σ.1 p (j + 1))) ?_ (fun j561 => ?_)
      · refine go_istore (q := 563) dL_act_561 (by decide) rfl rfl ?_
        refine go_iinc (q := 566) (v := 1) dL_act_563 (by decide) rfl (by decide) rfl rfl ?_
        refine go_goto (q := 522) dL_act_566 (by decide) ?_
        rw [show nI j + 1 = nI (j + 1) from nI_add j 1]
        exact ih (j + 1) (by omega) (by omega)
      · refine go_if_eqB (q := 534) (t := 560) dL_act_531 (by decide) rfl (fun c_531 => ?_) (fun c_531 => ?_)
        · refine go_iconst (q := 561) (v := 0) dL_act_560 (by decide) rfl ?_
          exact j561 _ (show (0 : Int32) = bI (hr0 σ.1 p && !eB σ.1 p (j + 1)) from by rw [eB_s, hb1 c_531]; rfl)
        · refine go_aload_n (q := 535) dL_act_534 rfl rfl rfl ?_
          refine go_iload (q := 537) dL_act_535 rfl rfl ?_
          refine go_iconst (q := 538) (v := 2) dL_act_537 (by decide) rfl ?_
          refine go_cV2 (cal := mX9_person) (q := 541) dL_act_538 lRL_20 vX9_person ⟨by decide, by decide⟩ rfl (by decide) (Nat.le_of_ble_eq_true rfl) (ok_person hC.1 hC.2.1 _ _) rfl ?_
          refine go_topi (aP2 hC.2.1 (Nat.lt_trans c_526 hp)) ?_
          refine go_iload (q := 543) dL_act_541 rfl rfl ?_
          refine go_icmp_ne (q := 546) (t := 556) dL_act_543 (by decide) rfl (fun c_543 => ?_) (fun c_543 => ?_)
          · refine go_iconst (q := 557) (v := 1) dL_act_556 (by decide) rfl ?_
            refine go_goto (q := 561) dL_act_557 (by decide) ?_
            exact j561 _ (show (1 : Int32) = bI (hr0 σ.1 p && !eB σ.1 p (j + 1)) from by rw [eB_s, hb2 c_531 (pr_f c_543)]; rfl)
          · refine go_aload_n (q := 547) dL_act_546 rfl rfl rfl ?_
            refine go_iload (q := 549) dL_act_547 rfl rfl ?_
            refine go_iconst (q := 550) (v := 1) dL_act_549 (by decide) rfl ?_
            refine go_cV2 (cal := mX9_person) (q := 553) dL_act_550 lRL_20 vX9_person ⟨by decide, by decide⟩ rfl (by decide) (Nat.le_of_ble_eq_true rfl) (ok_person hC.1 hC.2.1 _ _) rfl ?_
            refine go_topi (aP1 hC.2.1 (Nat.lt_trans c_526 hp)) ?_
            refine go_if_neB (q := 556) (t := 560) dL_act_553 (by decide) rfl (fun c_553 => ?_) (fun c_553 => ?_)
            · refine go_iconst (q := 561) (v := 0) dL_act_560 (by decide) rfl ?_
              exact j561 _ (show (0 : Int32) = bI (hr0 σ.1 p && !eB σ.1 p (j + 1)) from by rw [eB_s, hb3 (pr_t hC.2.1 (Nat.lt_trans c_526 hp) hp c_543 c_553)]; rfl)
            · refine go_iconst (q := 557) (v := 1) dL_act_556 (by decide) rfl ?_
              refine go_goto (q := 561) dL_act_557 (by decide) ?_
              exact j561 _ (show (1 : Int32) = bI (hr0 σ.1 p && !eB σ.1 p (j + 1)) from by rw [eB_s, hb2 c_531 (by rw [c_553]; rfl)]; rfl)
theorem ac_heir {M : KM} {σ : ST} (hC : CI M σ) {X : Nat} (hX : X < 2 ^ 31) {p : Nat} (hp : p < rN σ.1) : Go mL_act (Zm (QC M (dHeir σ.1 (nI p)).1 (sDeed2 σ (dHeir σ.1 (nI p))))) M [some (vR 0 0), some (vI (nI X)), some (vI (nI (X % 12))), some (vI (nI (X / 12))), some (vI (nI (rN σ.1))), some (vI (nI (cn (rL σ.1) (rN σ.1)))), some (vI (nI p)), some (vI (bI (rL σ.1 p))), none, none, none, none, none, none, none] [] 456 := by
  refine go_aload_n (q := 457) dL_act_456 rfl rfl rfl ?_
  refine go_iload (q := 459) dL_act_457 rfl rfl ?_
  refine go_iconst (q := 460) (v := 2) dL_act_459 (by decide) rfl ?_
  refine go_cV2 (cal := mX9_person) (q := 463) dL_act_460 lRL_20 vX9_person ⟨by decide, by decide⟩ rfl (by decide) (Nat.le_of_ble_eq_true rfl) (ok_person hC.1 hC.2.1 _ _) rfl ?_
  refine go_topi (aP2 hC.2.1 hp) ?_
  refine go_istore (q := 465) dL_act_463 (by decide) rfl rfl ?_
  refine go_aload_n (q := 466) dL_act_465 rfl rfl rfl ?_
  refine go_bipush (q := 468) (v := 8) dL_act_466 (by decide) rfl ?_
  refine go_cV1 (cal := mX9_count) (q := 471) dL_act_468 lRL_14 vX9_count ⟨by decide, by decide⟩ rfl (by decide) (Nat.le_of_ble_eq_true rfl) (ok_count hC.1 hC.2.1 hC.2.2.2.2.2.2.1 hC.2.2.2.2.1 _) rfl ?_
  refine go_topi (aN8) ?_
  refine go_istore (q := 473) dL_act_471 (by decide) rfl rfl ?_
  refine go_aload_n (q := 474) dL_act_473 rfl rfl rfl ?_
  refine go_iload (q := 476) dL_act_474 rfl rfl ?_
  refine go_iconst (q := 477) (v := 0) dL_act_476 (by decide) rfl ?_
  refine go_cV2 (cal := mX9_person) (q := 480) dL_act_477 lRL_20 vX9_person ⟨by decide, by decide⟩ rfl (by decide) (Nat.le_of_ble_eq_true rfl) (ok_person hC.1 hC.2.1 _ _) rfl ?_
  refine go_topi (aP0 hC.2.1 hp) ?_
  refine go_istore (q := 482) dL_act_480 (by decide) rfl rfl ?_
  refine go_aload_n (q := 483) dL_act_482 rfl rfl rfl ?_
  refine go_iload (q := 485) dL_act_483 rfl rfl ?_
  refine go_bipush (q := 487) (v := 11) dL_act_485 (by decide) rfl ?_
  refine go_cV2 (cal := mX9_person) (q := 490) dL_act_487 lRL_20 vX9_person ⟨by decide, by decide⟩ rfl (by decide) (Nat.le_of_ble_eq_true rfl) (ok_person hC.1 hC.2.1 _ _) rfl ?_
  refine go_topi (aP11 hC.2.1 hp) ?_
  refine go_istore (q := 492) dL_act_490 (by decide) rfl rfl ?_
  refine go_iload (q := 494) dL_act_492 rfl rfl ?_
  refine go_join1 (J := 517) (v := bI (hr0 σ.1 p)) ?_ (fun j517 => ?_)
  · refine go_istore (q := 519) dL_act_517 (by decide) rfl rfl ?_
    refine go_iconst (q := 520) (v := 0) dL_act_519 (by decide) rfl ?_
    refine go_istore (q := 522) dL_act_520 (by decide) rfl rfl ?_
    have key := ac_h0 hC hX hp (p + 1) 0 (by omega) (by omega)
    rw [show (hr0 σ.1 p && !eB σ.1 p 0) = hr0 σ.1 p from by show (hr0 σ.1 p && !false) = _; simp] at key
    exact key
  · refine go_if_eqB (q := 497) (t := 516) dL_act_494 (by decide) rfl (fun c_494 => ?_) (fun c_494 => ?_)
    · refine go_iconst (q := 517) (v := 0) dL_act_516 (by decide) rfl ?_
      exact j517 _ (show (0 : Int32) = bI (hr0 σ.1 p) from by unfold hr0; rw [c_494]; rfl)
    · refine go_iload (q := 499) dL_act_497 rfl rfl ?_
      refine go_if_lt (q := 502) (t := 516) dL_act_499 (by decide) rfl (fun c_499 => ?_) (fun c_499 => ?_)
      · refine go_iconst (q := 517) (v := 0) dL_act_516 (by decide) rfl ?_
        exact j517 _ (show (0 : Int32) = bI (hr0 σ.1 p) from by rw [hr0_none ((e4_neg (rP_bg hC.2.1 hp)).mp c_499)]; rfl)
      · obtain ⟨f, hf⟩ := e4_ge (rP_bg hC.2.1 hp) c_499
        refine go_aload_n (q := 503) dL_act_502 rfl rfl rfl ?_
        refine go_iload (q := 505) dL_act_503 rfl rfl ?_
        refine go_iconst (q := 506) (v := 1) dL_act_505 (by decide) rfl ?_
        refine go_cV2 (cal := mX9_person) (q := 509) dL_act_506 lRL_20 vX9_person ⟨by decide, by decide⟩ rfl (by decide) (Nat.le_of_ble_eq_true rfl) (ok_person hC.1 hC.2.1 _ _) rfl ?_
        refine go_topi (show aPerson σ.1 (e4 (rP σ.1 p)) 1 = bI (rL σ.1 f) from by rw [hf]; exact aP1 hC.2.1 (rP_n hC.2.1 hp f hf)) ?_
        refine go_if_neB (q := 512) (t := 516) dL_act_509 (by decide) rfl (fun c_509 => ?_) (fun c_509 => ?_)
        · refine go_iconst (q := 517) (v := 0) dL_act_516 (by decide) rfl ?_
          exact j517 _ (show (0 : Int32) = bI (hr0 σ.1 p) from by rw [hr0_some hf, c_494, c_509]; rfl)
        · refine go_iconst (q := 513) (v := 1) dL_act_512 (by decide) rfl ?_
          refine go_goto (q := 517) dL_act_513 (by decide) ?_
          exact j517 _ (show (1 : Int32) = bI (hr0 σ.1 p) from by rw [hr0_some hf, c_494, c_509]; rfl)
theorem ac_last {M : KM} {σ : ST} (hC : CI M σ) {X : Nat} (hX : X < 2 ^ 31) (h0 : ¬ X % 12 = 0) (hn0 : ¬ rN σ.1 = 0) (h8 : 8 ≤ X % 12) : Go mL_act (Zm (QC M (actD σ.1 X).1 (sDeed2 σ (actD σ.1 X)))) M [some (vR 0 0), some (vI (nI X)), some (vI (nI (X % 12))), some (vI (nI (X / 12))), some (vI (nI (rN σ.1))), some (vI (nI (cn (rL σ.1) (rN σ.1)))), none, none, none, none, none, none, none, none, none] [] 380 := by
  have hn := hC.2.1.1
  have hp : X / 12 % rN σ.1 < rN σ.1 := Nat.mod_lt _ (by omega)
  refine go_iload_n (q := 381) dL_act_380 rfl rfl rfl ?_
  refine go_iload (q := 383) dL_act_381 rfl rfl ?_
  refine go_irem (q := 384) dL_act_383 (nI_ne0 (n := rN σ.1) (by omega) (by omega)) rfl ?_
  refine go_topi (pk_rem (a := X / 12) (d := rN σ.1) (by omega) (by omega) (by omega)) ?_
  refine go_istore (q := 386) dL_act_384 (by decide) rfl rfl ?_
  refine go_aload_n (q := 387) dL_act_386 rfl rfl rfl ?_
  refine go_iload (q := 389) dL_act_387 rfl rfl ?_
  refine go_iconst (q := 390) (v := 1) dL_act_389 (by decide) rfl ?_
  refine go_cV2 (cal := mX9_person) (q := 393) dL_act_390 lRL_20 vX9_person ⟨by decide, by decide⟩ rfl (by decide) (Nat.le_of_ble_eq_true rfl) (ok_person hC.1 hC.2.1 _ _) rfl ?_
  refine go_topi (aP1 hC.2.1 hp) ?_
  refine go_iconst (q := 394) (v := 1) dL_act_393 (by decide) rfl ?_
  refine go_join2 (J := 402) (v := bI (rL σ.1 (X / 12 % rN σ.1))) ?_ (fun j402 => ?_)
  · refine go_istore (q := 404) dL_act_402 (by decide) rfl rfl ?_
    refine go_iload_n (q := 405) dL_act_404 rfl rfl rfl ?_
    refine go_bipush (q := 407) (v := 10) dL_act_405 (by decide) rfl ?_
    refine go_icmp_geN (X % 12) 10 (q := 410) (t := 456) dL_act_407 (by decide) rfl rfl rfl (by omega) (by omega) (fun c_407 => ?_) (fun c_407 => ?_)
    · rw [show actD σ.1 X = dHeir σ.1 (nI (X / 12 % rN σ.1)) from by unfold actD; rw [if_neg (fun z => z.elim h0 hn0), if_neg (by omega), if_neg (by omega)]]
      exact ac_heir hC hX hp
    · rw [show actD σ.1 X = dDie σ.1 (nI (X / 12 % rN σ.1)) from by unfold actD; rw [if_neg (fun z => z.elim h0 hn0), if_neg (by omega), if_pos c_407]]
      exact ac_die hC hX hp
  · refine go_icmp_ne (q := 397) (t := 401) dL_act_394 (by decide) rfl (fun c_394 => ?_) (fun c_394 => ?_)
    · refine go_iconst (q := 402) (v := 0) dL_act_401 (by decide) rfl ?_
      exact j402 _ (sel0 bI_eq1.symm c_394)
    · refine go_iconst (q := 398) (v := 1) dL_act_397 (by decide) rfl ?_
      refine go_goto (q := 402) dL_act_398 (by decide) ?_
      exact j402 _ (sel1 bI_eq1.symm (Classical.not_not.mp c_394))
theorem ok_act {M : KM} {σ : ST} (hC : CI M σ) {X : Nat} (hX : X < 2 ^ 31) : Ok mL_act [vR 0 0, vI (nI X)] M (QC M (actD σ.1 X).1 (sDeed2 σ (actD σ.1 X))) := by
  refine ok_of (by decide) rfl (Nat.le_of_ble_eq_true rfl) ⟨rfl, rfl⟩ ?_
  show Go mL_act (Zm (QC M (actD σ.1 X).1 (sDeed2 σ (actD σ.1 X)))) M [some (vR 0 0), some (vI (nI X)), none, none, none, none, none, none, none, none, none, none, none, none, none] [] 0
  have hn := hC.2.1.1
  refine go_iload_n (q := 1) dL_act_0 rfl rfl rfl ?_
  refine go_bipush (q := 3) (v := 12) dL_act_1 (by decide) rfl ?_
  refine go_irem (q := 4) dL_act_3 (by decide) rfl ?_
  refine go_topi (show nI (X) - nI (X) / 12 * 12 = nI ((X) % 12) from pk_rem (d := 12) (by omega) (by decide) (by decide)) ?_
  refine go_istore_n (q := 5) dL_act_4 rfl (by decide) rfl rfl ?_
  refine go_iload_n (q := 6) dL_act_5 rfl rfl rfl ?_
  refine go_bipush (q := 8) (v := 12) dL_act_6 (by decide) rfl ?_
  refine go_idiv (q := 9) dL_act_8 (by decide) rfl ?_
  refine go_topi (show nI (X) / 12 = nI ((X) / 12) from pk_div (d := 12) (by omega) (by decide) (by decide)) ?_
  refine go_istore_n (q := 10) dL_act_9 rfl (by decide) rfl rfl ?_
  refine go_aload_n (q := 11) dL_act_10 rfl rfl rfl ?_
  refine go_iconst (q := 12) (v := 0) dL_act_11 (by decide) rfl ?_
  refine go_cV1 (cal := mX9_count) (q := 15) dL_act_12 lRL_14 vX9_count ⟨by decide, by decide⟩ rfl (by decide) (Nat.le_of_ble_eq_true rfl) (ok_count hC.1 hC.2.1 hC.2.2.2.2.2.2.1 hC.2.2.2.2.1 _) rfl ?_
  refine go_topi (aN0) ?_
  refine go_istore (q := 17) dL_act_15 (by decide) rfl rfl ?_
  refine go_aload_n (q := 18) dL_act_17 rfl rfl rfl ?_
  refine go_iconst (q := 19) (v := 1) dL_act_18 (by decide) rfl ?_
  refine go_cV1 (cal := mX9_count) (q := 22) dL_act_19 lRL_14 vX9_count ⟨by decide, by decide⟩ rfl (by decide) (Nat.le_of_ble_eq_true rfl) (ok_count hC.1 hC.2.1 hC.2.2.2.2.2.2.1 hC.2.2.2.2.1 _) rfl ?_
  refine go_topi (aN1) ?_
  refine go_istore (q := 24) dL_act_22 (by decide) rfl rfl ?_
  refine go_iload_n (q := 25) dL_act_24 rfl rfl rfl ?_
  refine go_if_eqN (X % 12) (q := 28) (t := 33) dL_act_25 (by decide) rfl rfl (by omega) (fun c_25 => ?_) (fun c_25 => ?_)
  · exact ac_found hC hX (Or.inl c_25)
  · refine go_iload (q := 30) dL_act_28 rfl rfl ?_
    refine go_if_neN (rN σ.1) (q := 33) (t := 165) dL_act_30 (by decide) rfl rfl (by omega) (fun c_30 => ?_) (fun c_30 => ?_)
    · refine go_iload_n (q := 166) dL_act_165 rfl rfl rfl ?_
      refine go_bipush (q := 168) (v := 8) dL_act_166 (by decide) rfl ?_
      refine go_icmp_geN (X % 12) 8 (q := 171) (t := 380) dL_act_168 (by decide) rfl rfl rfl (by omega) (by omega) (fun c_168 => ?_) (fun c_168 => ?_)
      · exact ac_last hC hX c_25 c_30 c_168
      · exact ac_bear hC hX c_25 c_30 c_168
    · exact ac_found hC hX (Or.inr c_30)
