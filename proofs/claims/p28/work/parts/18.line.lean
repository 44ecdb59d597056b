/-! ===== the search for a line ===== -/
def okL (R : RO) (to v : Nat) : Prop := v = to ∨ bear R v = none
/-- the change c of s leads to v, near enough to the end, and free -/
def gP (R : RO) (s to L c v : Nat) : Prop := v = wm s (c / 5) (c % 5) ∧ ap v to ≤ L ∧ okL R to v
def gG (R : RO) (s to L v : Nat) : Prop := ∃ c, c < 30 ∧ gP R s to L c v
def qq (q1 q2 : Nat) : Prop := q1 = 1 ∧ q2 = 2 ∨ q1 = 2 ∧ q2 = 1
def LA (M : KM) (q1 q2 : Nat) (S A N : Nat → Prop) : Prop := M.2.2 11 1 = q1 ∧ M.2.2 11 2 = q2 ∧ qq q1 q2 ∧ SA M 0 S ∧ SA M q1 A ∧ SA M q2 N
def kL (M M' : KM) : Prop := M'.1 = M.1 ∧ ∀ c, M'.2.2 8 c = M.2.2 8 c
theorem kL.rf {M : KM} : kL M M := ⟨rfl, fun _ => rfl⟩
theorem kL.tr {M M1 M2 : KM} (h1 : kL M M1) (h2 : kL M1 M2) : kL M M2 := ⟨h2.1.trans h1.1, fun c => (h2.2 c).trans (h1.2 c)⟩
theorem kL.ra {M M' : KM} {i : Nat} {R : RO} (h : kL M M') (hR : RA M i R) : RA M' i R := hR.cg (fun k _ _ => by rw [h.1])
theorem qq.lt1 {q1 q2 : Nat} (h : qq q1 q2) : q1 < 3 := by rcases h with ⟨rfl, rfl⟩ | ⟨rfl, rfl⟩ <;> decide
theorem qq.lt2 {q1 q2 : Nat} (h : qq q1 q2) : q2 < 3 := by rcases h with ⟨rfl, rfl⟩ | ⟨rfl, rfl⟩ <;> decide
theorem qq.n10 {q1 q2 : Nat} (h : qq q1 q2) : q1 ≠ 0 := by rcases h with ⟨rfl, rfl⟩ | ⟨rfl, rfl⟩ <;> decide
theorem qq.n20 {q1 q2 : Nat} (h : qq q1 q2) : q2 ≠ 0 := by rcases h with ⟨rfl, rfl⟩ | ⟨rfl, rfl⟩ <;> decide
theorem qq.n12 {q1 q2 : Nat} (h : qq q1 q2) : q1 ≠ q2 := by rcases h with ⟨rfl, rfl⟩ | ⟨rfl, rfl⟩ <;> decide
theorem qq.sw {q1 q2 : Nat} (h : qq q1 q2) : qq q2 q1 := by rcases h with ⟨rfl, rfl⟩ | ⟨rfl, rfl⟩; exact Or.inr ⟨rfl, rfl⟩; exact Or.inl ⟨rfl, rfl⟩
theorem SA.cg {M : KM} {i : Nat} {S S' : Nat → Prop} (h : SA M i S) (e : ∀ v, v < 15625 → (S v ↔ S' v)) : SA M i S' := fun s hs => (h s hs).trans (e s hs)
theorem LA.cg {M : KM} {q1 q2 : Nat} {S A N S' A' N' : Nat → Prop} (h : LA M q1 q2 S A N) (e1 : ∀ v, v < 15625 → (S v ↔ S' v)) (e2 : ∀ v, v < 15625 → (A v ↔ A' v)) (e3 : ∀ v, v < 15625 → (N v ↔ N' v)) : LA M q1 q2 S' A' N' :=
  ⟨h.1, h.2.1, h.2.2.1, h.2.2.2.1.cg e1, h.2.2.2.2.1.cg e2, h.2.2.2.2.2.cg e3⟩
abbrev k_add (M : KM) (i s : Nat) : KM := k_sl M i (s / 64) (M.2.1 i (s / 64) ||| ((1 : Int64) <<< ((nI (s % 64)).toInt64 &&& 63)))
/-- added to seen and next -/
theorem LA_add {M : KM} {q1 q2 s : Nat} {S A N : Nat → Prop} (h : LA M q1 q2 S A N) (hs : s < 15625) : LA (k_add (k_add M 0 s) q2 s) q1 q2 (fun v => S v ∨ v = s) A (fun v => N v ∨ v = s) := by
  obtain ⟨h1, h2, hq, hS, hA, hN⟩ := h
  refine ⟨h1, h2, hq, ?_, ?_, ?_⟩
  · exact SA_keep (SA_add hS hs) (k_sl_ne hq.n20.symm)
  · exact SA_keep (SA_keep hA (k_sl_ne hq.n10)) (k_sl_ne hq.n12)
  · exact SA_add (SA_keep hN (k_sl_ne hq.n20)) hs
def sS (R : RO) (S : Nat → Prop) (s to L c : Nat) (v : Nat) : Prop := S v ∨ ∃ c', c' < c ∧ gP R s to L c' v
def sN (R : RO) (S N : Nat → Prop) (s to L c : Nat) (v : Nat) : Prop := N v ∨ (¬ S v ∧ ∃ c', c' < c ∧ gP R s to L c' v)
theorem ex_s {c : Nat} {P : Nat → Prop} : (∃ c', c' < c + 1 ∧ P c') ↔ (∃ c', c' < c ∧ P c') ∨ P c := by
  constructor
  · rintro ⟨c', h1, h2⟩
    by_cases e : c' = c
    · subst e; exact Or.inr h2
    · exact Or.inl ⟨c', by omega, h2⟩
  · rintro (⟨c', h1, h2⟩ | h)
    · exact ⟨c', by omega, h2⟩
    · exact ⟨c, by omega, h⟩
/-- nothing is added: the candidate doesn't do, or is seen -/
theorem LA_skip {M : KM} {q1 q2 : Nat} {R : RO} {S A N : Nat → Prop} {s to L c : Nat} (h : LA M q1 q2 (sS R S s to L c) A (sN R S N s to L c)) (hx : ∀ v, gP R s to L c v → sS R S s to L c v) : LA M q1 q2 (sS R S s to L (c + 1)) A (sN R S N s to L (c + 1)) := by
  refine h.cg (fun v _ => ?_) (fun v _ => Iff.rfl) (fun v _ => ?_)
  · unfold sS
    rw [ex_s]
    constructor
    · rintro (h1 | h1)
      · exact Or.inl h1
      · exact Or.inr (Or.inl h1)
    · rintro (h1 | h1 | h1)
      · exact Or.inl h1
      · exact Or.inr h1
      · exact hx v h1
  · unfold sN
    rw [ex_s]
    constructor
    · rintro (h1 | ⟨h1, h2⟩)
      · exact Or.inl h1
      · exact Or.inr ⟨h1, Or.inl h2⟩
    · rintro (h1 | ⟨h1, h2 | h2⟩)
      · exact Or.inl h1
      · exact Or.inr ⟨h1, h2⟩
      · rcases hx v h2 with h3 | h3
        · exact absurd h3 h1
        · exact Or.inr ⟨h1, h3⟩
theorem LA_more {M : KM} {q1 q2 : Nat} {R : RO} {S A N : Nat → Prop} {s to L c w : Nat} (h : LA M q1 q2 (sS R S s to L c) A (sN R S N s to L c)) (hw : w < 15625) (hg : gP R s to L c w) (hn : ¬ sS R S s to L c w) : LA (k_add (k_add M 0 w) q2 w) q1 q2 (sS R S s to L (c + 1)) A (sN R S N s to L (c + 1)) := by
  have hu : ∀ v, gP R s to L c v ↔ v = w := fun v => ⟨fun z => z.1.trans hg.1.symm, fun z => z ▸ hg⟩
  refine (LA_add h hw).cg (fun v _ => ?_) (fun v _ => Iff.rfl) (fun v _ => ?_)
  · unfold sS
    rw [ex_s, hu v, or_assoc]
  · unfold sN
    rw [ex_s, hu v]
    constructor
    · rintro ((h1 | ⟨h1, h2⟩) | h1)
      · exact Or.inl h1
      · exact Or.inr ⟨h1, Or.inl h2⟩
      · exact Or.inr ⟨fun z => hn (Or.inl (h1 ▸ z)), Or.inr h1⟩
    · rintro (h1 | ⟨h1, h2 | h2⟩)
      · exact Or.inl (Or.inl h1)
      · exact Or.inl (Or.inr ⟨h1, h2⟩)
      · exact Or.inr h2
theorem kL_add {M : KM} {i s : Nat} : kL M (k_add M i s) := ⟨rfl, fun _ => rfl⟩
theorem has_iff {M : KM} {i s : Nat} {S : Nat → Prop} (h : SA M i S) (hs : s < 15625) : (decide (s < 15625) && bit (M.2.1 i (s / 64)) (s % 64)) = true ↔ S s := by
  rw [decide_eq_true hs, Bool.true_and]; exact h s hs
def KLQ (M : KM) (q1 q2 : Nat) (S A N : Nat → Prop) : Option KV → KM → Prop := fun r M' => r = none ∧ LA M' q1 q2 S A N ∧ kL M M'
theorem lp_goOnFrom {M : KM} {R : RO} (hR : RA M 0 R) (hW : rW R) {q1 q2 : Nat} {S A N : Nat → Prop} {s to L : Nat} (hs : s < 15625) (hto : to < 15625) (hL : L < 2 ^ 31) : ∀ (d : Nat) (M1 : KM) (c : Nat) (y : Int32), 30 - c < d → (LA M1 q1 q2 (sS R S s to L c) A (sN R S N s to L c)) → (kL M M1) → (y = nI c) → (c ≤ 30) → Go mX4_goOnFrom (Zm (KLQ M q1 q2 (sS R S s to L 30) A (sN R S N s to L 30))) M1 [some (vR 11 0), some (vR 1 0), some (vI (nI s)), some (vI (nI to)), some (vI (nI L)), some (vI y), none] [] 3 := by
  intro d
  induction d with
  | zero => intro M1 c y hd; exact absurd hd (Nat.not_lt_zero _)
  | succ d ih =>
    intro M1 c y hd h0 h1 h2 h3
    refine go_iload (q := 5) dX4_goOnFrom_3 rfl rfl ?_
    refine go_bipush (q := 7) (v := 30) dX4_goOnFrom_5 (by decide) rfl ?_
    refine go_icmp_geN c 30 (q := 10) (t := 90) dX4_goOnFrom_7 (by decide) rfl h2 rfl (by omega) (by omega) (fun c_7 => ?_) (fun c_7 => ?_)
    · obtain rfl : c = 30 := by omega
      exact go_vret dX4_goOnFrom_90 rfl ⟨rfl, h0, h1⟩
    · subst h2
      have hR1 := h1.ra hR
      have hwl : (wm s (c / 5) (c % 5)) < 15625 := wm_lt hs (by omega) (Nat.mod_lt _ (by decide))
      have hq := h0.2.2.1
      refine go_iload_n (q := 11) dX4_goOnFrom_10 rfl rfl rfl ?_
      refine go_iload (q := 13) dX4_goOnFrom_11 rfl rfl ?_
      refine go_iconst (q := 14) (v := 5) dX4_goOnFrom_13 (by decide) rfl ?_
      refine go_idiv (q := 15) dX4_goOnFrom_14 (by decide) rfl ?_
      refine go_topi (v := nI (c / 5)) (nI_div5 (by omega)) ?_
      refine go_iload (q := 17) dX4_goOnFrom_15 rfl rfl ?_
      refine go_iconst (q := 18) (v := 5) dX4_goOnFrom_17 (by decide) rfl ?_
      refine go_irem (q := 19) dX4_goOnFrom_18 (by decide) rfl ?_
      refine go_topi (v := nI (c % 5)) (nI_rem5 (by omega)) ?_
      refine go_cS3 (cal := mX8_withMark) (q := 22) dX4_goOnFrom_19 lRX4_56 vX8_withMark ⟨by decide, by decide⟩ (Nat.le_of_ble_eq_true rfl) (ok_withMark (by omega) (by omega)) rfl ?_
      refine go_istore (q := 24) dX4_goOnFrom_22 (by decide) rfl rfl ?_
      refine go_iload (q := 26) dX4_goOnFrom_24 rfl rfl ?_
      refine go_iload_n (q := 27) dX4_goOnFrom_26 rfl rfl rfl ?_
      refine go_cS2 (cal := mX8_apart) (q := 30) dX4_goOnFrom_27 lRX4_24 vX8_apart ⟨by decide, by decide⟩ (Nat.le_of_ble_eq_true rfl) (ok_apart (by omega) (by omega)) rfl ?_
      refine go_iload (q := 32) dX4_goOnFrom_30 rfl rfl ?_
      refine go_icmp_gtN (ap (wm s (c / 5) (c % 5)) to) L (q := 35) (t := 84) dX4_goOnFrom_32 (by decide) rfl rfl rfl (by have := ap_le (wm s (c / 5) (c % 5)) to; omega) hL (fun c_32 => ?_) (fun c_32 => ?_)
      · refine go_iinc (q := 87) (v := 1) dX4_goOnFrom_84 (by decide) rfl (by decide) rfl rfl ?_
        refine go_goto (q := 3) dX4_goOnFrom_87 (by decide) ?_
        refine go_weak (l1 := [some (vR 11 0), some (vR 1 0), some (vI (nI s)), some (vI (nI to)), some (vI (nI L)), some (vI _), none]) (k_le_s (k_le_s (k_le_s (k_le_s (k_le_s (k_le_s (k_le_n k_le_nil))))))) ?_
        exact ih M1 (c + 1) _ (by omega) (LA_skip h0 (fun v hv => absurd hv.2.1 (by rw [hv.1]; omega))) h1 (nI_1 c) (by omega)
      · refine go_aload_n (q := 36) dX4_goOnFrom_35 rfl rfl rfl ?_
        refine go_getf (q := 39) dX4_goOnFrom_36 fRX4_12 rfl (by decide) rfl rfl ?_
        refine go_iload (q := 41) dX4_goOnFrom_39 rfl rfl ?_
        refine go_cV1 (cal := mX7_has) (q := 44) dX4_goOnFrom_41 lRX4_45 vX7_has ⟨by decide, by decide⟩ rfl (by decide) (Nat.le_of_ble_eq_true rfl) (ok_setHas (by decide) (by omega)) rfl ?_
        refine go_if_eqB (q := 47) (t := 50) dX4_goOnFrom_44 (by decide) rfl (fun c_44 => ?_) (fun c_44 => ?_)
        · refine go_iload (q := 52) dX4_goOnFrom_50 rfl rfl ?_
          refine go_iload_n (q := 53) dX4_goOnFrom_52 rfl rfl rfl ?_
          refine go_icmp_eqN (wm s (c / 5) (c % 5)) to (q := 56) (t := 66) dX4_goOnFrom_53 (by decide) rfl rfl rfl (by omega) (by omega) (fun c_53 => ?_) (fun c_53 => ?_)
          · refine go_aload_n (q := 67) dX4_goOnFrom_66 rfl rfl rfl ?_
            refine go_getf (q := 70) dX4_goOnFrom_67 fRX4_12 rfl (by decide) rfl rfl ?_
            refine go_iload (q := 72) dX4_goOnFrom_70 rfl rfl ?_
            refine go_uV1 (cal := mX7_add) (q := 75) dX4_goOnFrom_72 lRX4_37 vX7_add ⟨by decide, by decide⟩ rfl (by decide) (Nat.le_of_ble_eq_true rfl) (ok_setAdd (by first | decide | exact hq.lt2) hwl) rfl ?_
            refine go_aload_n (q := 76) dX4_goOnFrom_75 rfl rfl rfl ?_
            refine go_getf (q := 79) dX4_goOnFrom_76 fRX4_21 rfl (by decide) rfl rfl ?_
            rw [show (k_add M1 0 (wm s (c / 5) (c % 5))).2.2 11 2 = q2 from h0.2.1]
            refine go_iload (q := 81) dX4_goOnFrom_79 rfl rfl ?_
            refine go_uV1 (cal := mX7_add) (q := 84) dX4_goOnFrom_81 lRX4_37 vX7_add ⟨by decide, by decide⟩ rfl hq.lt2 (Nat.le_of_ble_eq_true rfl) (ok_setAdd (by first | decide | exact hq.lt2) hwl) rfl ?_
            refine go_iinc (q := 87) (v := 1) dX4_goOnFrom_84 (by decide) rfl (by decide) rfl rfl ?_
            refine go_goto (q := 3) dX4_goOnFrom_87 (by decide) ?_
            refine go_weak (l1 := [some (vR 11 0), some (vR 1 0), some (vI (nI s)), some (vI (nI to)), some (vI (nI L)), some (vI _), none]) (k_le_s (k_le_s (k_le_s (k_le_s (k_le_s (k_le_s (k_le_n k_le_nil))))))) ?_
            exact ih _ (c + 1) _ (by omega) (LA_more h0 hwl ⟨rfl, by omega, Or.inl c_53⟩ (fun z => by rw [(has_iff h0.2.2.2.1 hwl).mpr z] at c_44; cases c_44)) ((h1.tr kL_add).tr kL_add) (nI_1 c) (by omega)
          · refine go_aload_n (q := 57) dX4_goOnFrom_56 rfl rfl rfl ?_
            refine go_iload (q := 59) dX4_goOnFrom_57 rfl rfl ?_
            refine go_cV1 (cal := mX6_livingWith) (q := 62) dX4_goOnFrom_59 lRX4_60 vX6_livingWith ⟨by decide, by decide⟩ rfl (by decide) (Nat.le_of_ble_eq_true rfl) (ok_livingWith (by decide) hR1 hW (by omega)) rfl ?_
            refine go_iconst (q := 63) (v := (-1)) dX4_goOnFrom_62 (by decide) rfl ?_
            refine go_icmp_ne (q := 66) (t := 84) dX4_goOnFrom_63 (by decide) rfl (fun c_63 => ?_) (fun c_63 => ?_)
            · refine go_iinc (q := 87) (v := 1) dX4_goOnFrom_84 (by decide) rfl (by decide) rfl rfl ?_
              refine go_goto (q := 3) dX4_goOnFrom_87 (by decide) ?_
              refine go_weak (l1 := [some (vR 11 0), some (vR 1 0), some (vI (nI s)), some (vI (nI to)), some (vI (nI L)), some (vI _), none]) (k_le_s (k_le_s (k_le_s (k_le_s (k_le_s (k_le_s (k_le_n k_le_nil))))))) ?_
              exact ih M1 (c + 1) _ (by omega) (LA_skip h0 (fun v hv => absurd hv.2.2 (by rw [hv.1]; rintro (z | z); exact c_53 z; exact c_63 (by rw [z]; rfl)))) h1 (nI_1 c) (by omega)
            · refine go_aload_n (q := 67) dX4_goOnFrom_66 rfl rfl rfl ?_
              refine go_getf (q := 70) dX4_goOnFrom_67 fRX4_12 rfl (by decide) rfl rfl ?_
              refine go_iload (q := 72) dX4_goOnFrom_70 rfl rfl ?_
              refine go_uV1 (cal := mX7_add) (q := 75) dX4_goOnFrom_72 lRX4_37 vX7_add ⟨by decide, by decide⟩ rfl (by decide) (Nat.le_of_ble_eq_true rfl) (ok_setAdd (by first | decide | exact hq.lt2) hwl) rfl ?_
              refine go_aload_n (q := 76) dX4_goOnFrom_75 rfl rfl rfl ?_
              refine go_getf (q := 79) dX4_goOnFrom_76 fRX4_21 rfl (by decide) rfl rfl ?_
              rw [show (k_add M1 0 (wm s (c / 5) (c % 5))).2.2 11 2 = q2 from h0.2.1]
              refine go_iload (q := 81) dX4_goOnFrom_79 rfl rfl ?_
              refine go_uV1 (cal := mX7_add) (q := 84) dX4_goOnFrom_81 lRX4_37 vX7_add ⟨by decide, by decide⟩ rfl hq.lt2 (Nat.le_of_ble_eq_true rfl) (ok_setAdd (by first | decide | exact hq.lt2) hwl) rfl ?_
              refine go_iinc (q := 87) (v := 1) dX4_goOnFrom_84 (by decide) rfl (by decide) rfl rfl ?_
              refine go_goto (q := 3) dX4_goOnFrom_87 (by decide) ?_
              refine go_weak (l1 := [some (vR 11 0), some (vR 1 0), some (vI (nI s)), some (vI (nI to)), some (vI (nI L)), some (vI _), none]) (k_le_s (k_le_s (k_le_s (k_le_s (k_le_s (k_le_s (k_le_n k_le_nil))))))) ?_
              exact ih _ (c + 1) _ (by omega) (LA_more h0 hwl ⟨rfl, by omega, Or.inr ((e1_eq (bear_big hW)).mp (Classical.not_not.mp c_63))⟩ (fun z => by rw [(has_iff h0.2.2.2.1 hwl).mpr z] at c_44; cases c_44)) ((h1.tr kL_add).tr kL_add) (nI_1 c) (by omega)
        · refine go_goto (q := 84) dX4_goOnFrom_47 (by decide) ?_
          refine go_iinc (q := 87) (v := 1) dX4_goOnFrom_84 (by decide) rfl (by decide) rfl rfl ?_
          refine go_goto (q := 3) dX4_goOnFrom_87 (by decide) ?_
          refine go_weak (l1 := [some (vR 11 0), some (vR 1 0), some (vI (nI s)), some (vI (nI to)), some (vI (nI L)), some (vI _), none]) (k_le_s (k_le_s (k_le_s (k_le_s (k_le_s (k_le_s (k_le_n k_le_nil))))))) ?_
          exact ih M1 (c + 1) _ (by omega) (LA_skip h0 (fun v hv => by rw [hv.1]; exact (has_iff h0.2.2.2.1 hwl).mp c_44)) h1 (nI_1 c) (by omega)
theorem ok_goOnFrom {M : KM} {R : RO} (hR : RA M 0 R) (hW : rW R) {q1 q2 : Nat} {S A N : Nat → Prop} {s to L : Nat} (hs : s < 15625) (hto : to < 15625) (hL : L < 2 ^ 31) (h : LA M q1 q2 S A N) : Ok mX4_goOnFrom [vR 11 0, vR 1 0, vI (nI s), vI (nI to), vI (nI L)] M (KLQ M q1 q2 (sS R S s to L 30) A (sN R S N s to L 30)) := by
  refine ok_of (by decide) rfl (Nat.le_of_ble_eq_true rfl) ⟨rfl, rfl⟩ ?_
  show Go mX4_goOnFrom (Zm (KLQ M q1 q2 (sS R S s to L 30) A (sN R S N s to L 30))) M [some (vR 11 0), some (vR 1 0), some (vI (nI s)), some (vI (nI to)), some (vI (nI L)), none, none] [] 0
  refine go_iconst (q := 1) (v := 0) dX4_goOnFrom_0 (by decide) rfl ?_
  refine go_istore (q := 3) dX4_goOnFrom_1 (by decide) rfl rfl ?_
  exact lp_goOnFrom hR hW hs hto hL 31 M 0 _ (by omega) (h.cg (fun v _ => ⟨Or.inl, fun z => z.elim id (fun z => by obtain ⟨c, h1, -⟩ := z; exact absurd h1 (Nat.not_lt_zero _))⟩) (fun v _ => Iff.rfl) (fun v _ => ⟨Or.inl, fun z => z.elim id (fun z => by obtain ⟨-, c, h1, -⟩ := z; exact absurd h1 (Nat.not_lt_zero _))⟩)) kL.rf rfl (by omega)
