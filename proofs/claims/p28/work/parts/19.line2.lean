/-! ===== one step of all that is reached; all steps ===== -/
def tS (R : RO) (S A : Nat → Prop) (to L t : Nat) (v : Nat) : Prop := S v ∨ ∃ s, s < t ∧ s < 15625 ∧ A s ∧ gG R s to L v
def tN (R : RO) (S A N : Nat → Prop) (to L t : Nat) (v : Nat) : Prop := N v ∨ (¬ S v ∧ ∃ s, s < t ∧ s < 15625 ∧ A s ∧ gG R s to L v)
theorem tS_no {R : RO} {S A : Nat → Prop} {to L t : Nat} (h : ¬ (t < 15625 ∧ A t)) (v : Nat) : tS R S A to L t v ↔ tS R S A to L (t + 1) v := by
  unfold tS
  rw [ex_s]
  constructor
  · rintro (h1 | h1)
    · exact Or.inl h1
    · exact Or.inr (Or.inl h1)
  · rintro (h1 | h1 | ⟨h1, h2, -⟩)
    · exact Or.inl h1
    · exact Or.inr h1
    · exact absurd ⟨h1, h2⟩ h
theorem tN_no {R : RO} {S A N : Nat → Prop} {to L t : Nat} (h : ¬ (t < 15625 ∧ A t)) (v : Nat) : tN R S A N to L t v ↔ tN R S A N to L (t + 1) v := by
  unfold tN
  rw [ex_s]
  constructor
  · rintro (h1 | ⟨h1, h2⟩)
    · exact Or.inl h1
    · exact Or.inr ⟨h1, Or.inl h2⟩
  · rintro (h1 | ⟨h1, h2 | ⟨h2, h3, -⟩⟩)
    · exact Or.inl h1
    · exact Or.inr ⟨h1, h2⟩
    · exact absurd ⟨h2, h3⟩ h
theorem tS_s {R : RO} {S A : Nat → Prop} {to L t v : Nat} : tS R S A to L (t + 1) v ↔ S v ∨ ((∃ s, s < t ∧ s < 15625 ∧ A s ∧ gG R s to L v) ∨ (t < 15625 ∧ A t ∧ gG R t to L v)) := by
  unfold tS
  rw [ex_s (c := t) (P := fun s => s < 15625 ∧ A s ∧ gG R s to L v)]
theorem tN_s {R : RO} {S A N : Nat → Prop} {to L t v : Nat} : tN R S A N to L (t + 1) v ↔ N v ∨ (¬ S v ∧ ((∃ s, s < t ∧ s < 15625 ∧ A s ∧ gG R s to L v) ∨ (t < 15625 ∧ A t ∧ gG R t to L v))) := by
  unfold tN
  rw [ex_s (c := t) (P := fun s => s < 15625 ∧ A s ∧ gG R s to L v)]
theorem tS_yes {R : RO} {S A : Nat → Prop} {to L t : Nat} (h1 : t < 15625) (h2 : A t) (v : Nat) : sS R (tS R S A to L t) t to L 30 v ↔ tS R S A to L (t + 1) v := by
  rw [tS_s]
  unfold sS tS
  constructor
  · rintro ((h | h) | h)
    · exact Or.inl h
    · exact Or.inr (Or.inl h)
    · exact Or.inr (Or.inr ⟨h1, h2, h⟩)
  · rintro (h | h | ⟨-, -, h⟩)
    · exact Or.inl (Or.inl h)
    · exact Or.inl (Or.inr h)
    · exact Or.inr h
theorem tN_yes {R : RO} {S A N : Nat → Prop} {to L t : Nat} (h1 : t < 15625) (h2 : A t) (v : Nat) : sN R (tS R S A to L t) (tN R S A N to L t) t to L 30 v ↔ tN R S A N to L (t + 1) v := by
  rw [tN_s]
  unfold sN
  constructor
  · rintro ((h | ⟨h3, h4⟩) | ⟨h3, h4⟩)
    · exact Or.inl h
    · exact Or.inr ⟨h3, Or.inl h4⟩
    · exact Or.inr ⟨fun z => h3 (Or.inl z), Or.inr ⟨h1, h2, h4⟩⟩
  · rintro (h | ⟨h3, h4 | ⟨-, -, h4⟩⟩)
    · exact Or.inl (Or.inl h)
    · exact Or.inl (Or.inr ⟨h3, h4⟩)
    · by_cases h5 : tS R S A to L t v
      · rcases h5 with h5 | h5
        · exact absurd h5 h3
        · exact Or.inl (Or.inr ⟨h3, h5⟩)
      · exact Or.inr ⟨h5, h4⟩
theorem tS_jump {R : RO} {S A : Nat → Prop} {to L t : Nat} : ∀ (k : Nat), (∀ j, j < k → ¬ (t + j < 15625 ∧ A (t + j))) → ∀ v, tS R S A to L t v ↔ tS R S A to L (t + k) v
  | 0, _, _ => Iff.rfl
  | k + 1, h, v => (tS_jump k (fun j hj => h j (by omega)) v).trans (tS_no (h k (by omega)) v)
theorem tN_jump {R : RO} {S A N : Nat → Prop} {to L t : Nat} : ∀ (k : Nat), (∀ j, j < k → ¬ (t + j < 15625 ∧ A (t + j))) → ∀ v, tN R S A N to L t v ↔ tN R S A N to L (t + k) v
  | 0, _, _ => Iff.rfl
  | k + 1, h, v => (tN_jump k (fun j hj => h j (by omega)) v).trans (tN_no (h k (by omega)) v)
theorem k_64 (w : Nat) : nI w * (64 : Int32) = nI (w * 64) := pk_mul w 64
theorem k_p64 (w : Nat) : nI w + (64 : Int32) = nI (w + 64) := nI_add w 64
theorem gG_lt {R : RO} {s to L v : Nat} (hs : s < 15625) (h : gG R s to L v) : v < 15625 := by
  obtain ⟨c, h1, h2, -⟩ := h
  rw [h2]
  exact wm_lt hs (by omega) (Nat.mod_lt _ (by decide))
theorem lp_goOnIn {M : KM} {R : RO} (hR : RA M 0 R) (hW : rW R) {q1 q2 : Nat} {S A N : Nat → Prop} {to L : Nat} (hto : to < 15625) (hL : L < 2 ^ 31) {w : Nat} (hw : w < 245) (hout : ∀ (M1 : KM), LA M1 q1 q2 (tS R S A to L (w * 64 + 64)) A (tN R S A N to L (w * 64 + 64)) → kL M M1 → Go mX4_goOn (Zm (KLQ M q1 q2 (tS R S A to L 15680) A (tN R S A N to L 15680))) M1 [some (vR 11 0), some (vR 1 0), some (vI (nI to)), some (vI (nI L)), some (vI (nI (w + 1))), none] [] 3) : ∀ (d : Nat) (M1 : KM) (t : Nat) (y : Int32), (w * 64 + 64) - t < d → (LA M1 q1 q2 (tS R S A to L t) A (tN R S A N to L t)) → (kL M M1) → (y = nI t) → (w * 64 ≤ t) → (t ≤ w * 64 + 64) → Go mX4_goOn (Zm (KLQ M q1 q2 (tS R S A to L 15680) A (tN R S A N to L 15680))) M1 [some (vR 11 0), some (vR 1 0), some (vI (nI to)), some (vI (nI L)), some (vI (nI w)), some (vI y)] [] 33 := by
  intro d
  induction d with
  | zero => intro M1 t y hd; exact absurd hd (Nat.not_lt_zero _)
  | succ d ih =>
    intro M1 t y hd h0 h1 h2 h3 h4
    refine go_iload (q := 35) dX4_goOn_33 rfl rfl ?_
    refine go_iload (q := 37) dX4_goOn_35 rfl rfl ?_
    refine go_bipush (q := 39) (v := 64) dX4_goOn_37 (by decide) rfl ?_
    refine go_imul (q := 40) dX4_goOn_39 rfl ?_
    refine go_topi (k_64 w) ?_
    refine go_bipush (q := 42) (v := 64) dX4_goOn_40 (by decide) rfl ?_
    refine go_iadd (q := 43) dX4_goOn_42 rfl ?_
    refine go_topi (k_p64 _) ?_
    refine go_icmp_geN t (w * 64 + 64) (q := 46) (t := 73) dX4_goOn_43 (by decide) rfl h2 rfl (by omega) (by omega) (fun c_43 => ?_) (fun c_43 => ?_)
    · obtain rfl : t = w * 64 + 64 := by omega
      refine go_iinc (q := 76) (v := 1) dX4_goOn_73 (by decide) rfl (by decide) rfl rfl ?_
      refine go_goto (q := 3) dX4_goOn_76 (by decide) ?_
      refine go_weak (l1 := [some (vR 11 0), some (vR 1 0), some (vI (nI to)), some (vI (nI L)), some (vI _), none]) (k_le_s (k_le_s (k_le_s (k_le_s (k_le_s (k_le_n k_le_nil)))))) ?_
      rw [nI_1]
      exact hout M1 h0 h1
    · subst h2
      refine go_aload_n (q := 47) dX4_goOn_46 rfl rfl rfl ?_
      refine go_getf (q := 50) dX4_goOn_47 fRX4_18 rfl (by decide) rfl rfl ?_
      rw [show M1.2.2 11 1 = q1 from h0.1]
      refine go_iload (q := 52) dX4_goOn_50 rfl rfl ?_
      refine go_cV1 (cal := mX7_has) (q := 55) dX4_goOn_52 lRX4_45 vX7_has ⟨by decide, by decide⟩ rfl h0.2.2.1.lt1 (Nat.le_of_ble_eq_true rfl) (ok_setHas h0.2.2.1.lt1 (by omega)) rfl ?_
      refine go_if_eqB (q := 58) (t := 67) dX4_goOn_55 (by decide) rfl (fun c_55 => ?_) (fun c_55 => ?_)
      · have hno : ¬ (t < 15625 ∧ A t) := fun z => by
          rw [(has_iff h0.2.2.2.2.1 z.1).mpr z.2] at c_55; cases c_55
        refine go_iinc (q := 70) (v := 1) dX4_goOn_67 (by decide) rfl (by decide) rfl rfl ?_
        refine go_goto (q := 33) dX4_goOn_70 (by decide) ?_
        exact ih M1 (t + 1) _ (by omega) (h0.cg (fun v _ => tS_no hno v) (fun v _ => Iff.rfl) (fun v _ => tN_no hno v)) h1 (nI_1 t) (by omega) (by omega)
      · obtain ⟨ht0, hb⟩ := Bool.and_eq_true_iff.mp c_55
        have ht : t < 15625 := of_decide_eq_true ht0
        have hA : A t := (h0.2.2.2.2.1 t ht).mp hb
        refine go_aload_n (q := 59) dX4_goOn_58 rfl rfl rfl ?_
        refine go_aload_n (q := 60) dX4_goOn_59 rfl rfl rfl ?_
        refine go_iload (q := 62) dX4_goOn_60 rfl rfl ?_
        refine go_iload_n (q := 63) dX4_goOn_62 rfl rfl rfl ?_
        refine go_iload_n (q := 64) dX4_goOn_63 rfl rfl rfl ?_
        refine go_callV [vR 1 0, vI (nI t), vI (nI to), vI (nI L)] (cal := mX4_goOnFrom) (q := 67) dX4_goOn_64 lRX4_52 vX4_goOnFrom ⟨by decide, by decide⟩ rfl rfl (by decide) (Nat.le_of_ble_eq_true rfl) (ok_goOnFrom (h1.ra hR) hW ht hto hL h0) rfl (fun r64 M64 h64 => ?_)
        obtain ⟨rfl, hL64, hk64⟩ := h64
        refine go_iinc (q := 70) (v := 1) dX4_goOn_67 (by decide) rfl (by decide) rfl rfl ?_
        refine go_goto (q := 33) dX4_goOn_70 (by decide) ?_
        exact ih M64 (t + 1) _ (by omega) (hL64.cg (fun v _ => tS_yes ht hA v) (fun v _ => Iff.rfl) (fun v _ => tN_yes ht hA v)) (h1.tr hk64) (nI_1 t) (by omega) (by omega)
theorem lp_goOn {M : KM} {R : RO} (hR : RA M 0 R) (hW : rW R) {q1 q2 : Nat} {S A N : Nat → Prop} {to L : Nat} (hto : to < 15625) (hL : L < 2 ^ 31) : ∀ (d : Nat) (M1 : KM) (w : Nat) (y : Int32), 245 - w < d → (LA M1 q1 q2 (tS R S A to L (w * 64)) A (tN R S A N to L (w * 64))) → (kL M M1) → (y = nI w) → (w ≤ 245) → Go mX4_goOn (Zm (KLQ M q1 q2 (tS R S A to L 15680) A (tN R S A N to L 15680))) M1 [some (vR 11 0), some (vR 1 0), some (vI (nI to)), some (vI (nI L)), some (vI y), none] [] 3 := by
  intro d
  induction d with
  | zero => intro M1 w y hd; exact absurd hd (Nat.not_lt_zero _)
  | succ d ih =>
    intro M1 w y hd h0 h1 h2 h3
    refine go_iload (q := 5) dX4_goOn_3 rfl rfl ?_
    refine go_sipush (q := 8) (v := 245) dX4_goOn_5 (by decide) rfl ?_
    refine go_icmp_geN w 245 (q := 11) (t := 79) dX4_goOn_8 (by decide) rfl h2 rfl (by omega) (by omega) (fun c_8 => ?_) (fun c_8 => ?_)
    · obtain rfl : w = 245 := by omega
      exact go_vret dX4_goOn_79 rfl ⟨rfl, h0, h1⟩
    · subst h2
      refine go_aload_n (q := 12) dX4_goOn_11 rfl rfl rfl ?_
      refine go_getf (q := 15) dX4_goOn_12 fRX4_18 rfl (by decide) rfl rfl ?_
      rw [show M1.2.2 11 1 = q1 from h0.1]
      refine go_iload (q := 17) dX4_goOn_15 rfl rfl ?_
      refine go_cV1 (cal := mX7_isWordEmpty) (q := 20) dX4_goOn_17 lRX4_49 vX7_isWordEmpty ⟨by decide, by decide⟩ rfl h0.2.2.1.lt1 (Nat.le_of_ble_eq_true rfl) (ok_wordEmpty h0.2.2.1.lt1 c_8) rfl ?_
      refine go_if_eqB (q := 23) (t := 26) dX4_goOn_20 (by decide) rfl (fun c_20 => ?_) (fun c_20 => ?_)
      · refine go_iload (q := 28) dX4_goOn_26 rfl rfl ?_
        refine go_bipush (q := 30) (v := 64) dX4_goOn_28 (by decide) rfl ?_
        refine go_imul (q := 31) dX4_goOn_30 rfl ?_
        refine go_topi (k_64 w) ?_
        refine go_istore (q := 33) dX4_goOn_31 (by decide) rfl rfl ?_
        exact lp_goOnIn hR hW hto hL c_8 (fun M2 hA2 hk2 => ih M2 (w + 1) _ (by omega) (by rw [show (w + 1) * 64 = w * 64 + 64 by omega]; exact hA2) hk2 rfl (by omega)) 65 M1 (w * 64) _ (by omega) h0 h1 rfl (by omega) (by omega)
      · have hno : ∀ j, j < 64 → ¬ (w * 64 + j < 15625 ∧ A (w * 64 + j)) := fun j hj z => by
          have := (h0.2.2.2.2.1 _ z.1).mpr z.2
          rw [show (w * 64 + j) / 64 = w by omega, of_decide_eq_true c_20, bit_0] at this
          cases this
        refine go_goto (q := 73) dX4_goOn_23 (by decide) ?_
        refine go_iinc (q := 76) (v := 1) dX4_goOn_73 (by decide) rfl (by decide) rfl rfl ?_
        refine go_goto (q := 3) dX4_goOn_76 (by decide) ?_
        refine go_weak (l1 := [some (vR 11 0), some (vR 1 0), some (vI (nI to)), some (vI (nI L)), some (vI _), none]) (k_le_s (k_le_s (k_le_s (k_le_s (k_le_s (k_le_n k_le_nil)))))) ?_
        rw [nI_1]
        exact ih M1 (w + 1) _ (by omega) (h0.cg (fun v _ => by rw [show (w + 1) * 64 = w * 64 + 64 by omega]; exact tS_jump 64 hno v) (fun v _ => Iff.rfl) (fun v _ => by rw [show (w + 1) * 64 = w * 64 + 64 by omega]; exact tN_jump 64 hno v)) h1 rfl (by omega)
theorem ok_goOn {M : KM} {R : RO} (hR : RA M 0 R) (hW : rW R) {q1 q2 : Nat} {S A N : Nat → Prop} {to L : Nat} (hto : to < 15625) (hL : L < 2 ^ 31) (h : LA M q1 q2 S A N) : Ok mX4_goOn [vR 11 0, vR 1 0, vI (nI to), vI (nI L)] M (KLQ M q1 q2 (tS R S A to L 15680) A (tN R S A N to L 15680)) := by
  refine ok_of (by decide) rfl (Nat.le_of_ble_eq_true rfl) ⟨rfl, rfl⟩ ?_
  show Go mX4_goOn (Zm (KLQ M q1 q2 (tS R S A to L 15680) A (tN R S A N to L 15680))) M [some (vR 11 0), some (vR 1 0), some (vI (nI to)), some (vI (nI L)), none, none] [] 0
  refine go_iconst (q := 1) (v := 0) dX4_goOn_0 (by decide) rfl ?_
  refine go_istore (q := 3) dX4_goOn_1 (by decide) rfl rfl ?_
  exact lp_goOn hR hW hto hL 246 M 0 _ (by omega) (h.cg (fun v _ => ⟨Or.inl, fun z => z.elim id (fun z => by obtain ⟨s, h1, -⟩ := z; omega)⟩) (fun v _ => Iff.rfl) (fun v _ => ⟨Or.inl, fun z => z.elim id (fun z => by obtain ⟨-, s, h1, -⟩ := z; omega)⟩)) kL.rf rfl (by omega)
/-- what is seen and reached behind k steps of at most 'most' -/
def bL (R : RO) (fr to most : Nat) : Nat → (Nat → Prop) × (Nat → Prop)
  | 0 => (fun v => v = fr, fun v => v = fr)
  | k + 1 => (tS R (bL R fr to most k).1 (bL R fr to most k).2 to (most - (k + 1)) 15680, tN R (bL R fr to most k).1 (bL R fr to most k).2 (fun _ => False) to (most - (k + 1)) 15680)
def RE (R : RO) (fr to most : Nat) : Prop := ∃ k, 1 ≤ k ∧ k ≤ most ∧ (bL R fr to most k).2 to
theorem LA_start {M : KM} {q1 q2 fr : Nat} (h1 : M.2.2 11 1 = q1) (h2 : M.2.2 11 2 = q2) (hq : qq q1 q2) (hf : fr < 15625) : LA (k_add (k_add (kem (kem M 0 245) q1 245) 0 fr) q1 fr) q1 q2 (fun v => v = fr) (fun v => v = fr) (fun s => bit (M.2.1 q2 (s / 64)) (s % 64) = true) := by
  refine ⟨h1, h2, hq, ?_, ?_, ?_⟩
  · have h3 : SA (kem (kem M 0 245) q1 245) 0 (fun _ => False) := SA_keep (SA_em M 0) (kem_ne hq.n10.symm)
    exact (SA_keep (SA_add h3 hf) (k_sl_ne hq.n10.symm)).cg (fun v _ => by simp)
  · have h3 : SA (k_add (kem (kem M 0 245) q1 245) 0 fr) q1 (fun _ => False) := SA_keep (SA_em (kem M 0 245) q1) (k_sl_ne hq.n10)
    exact (SA_add h3 hf).cg (fun v _ => by simp)
  · have e : (k_add (k_add (kem (kem M 0 245) q1 245) 0 fr) q1 fr).2.1 q2 = M.2.1 q2 := (k_sl_ne hq.n12.symm).trans ((k_sl_ne hq.n20).trans ((kem_ne hq.n12.symm).trans (kem_ne hq.n20)))
    exact fun s _ => by rw [e]
theorem LA_emN {M : KM} {q1 q2 : Nat} {S A N : Nat → Prop} (h : LA M q1 q2 S A N) : LA (kem M q2 245) q1 q2 S A (fun _ => False) :=
  ⟨h.1, h.2.1, h.2.2.1, SA_keep h.2.2.2.1 (kem_ne h.2.2.1.n20.symm), SA_keep h.2.2.2.2.1 (kem_ne h.2.2.1.n12), SA_em M q2⟩
theorem LA_swap {M : KM} {q1 q2 : Nat} {S A N : Nat → Prop} (h : LA M q1 q2 S A N) : LA (k_sr (k_sr M 11 1 q2) 11 2 q1) q2 q1 S N A :=
  ⟨rfl, rfl, h.2.2.1.sw, h.2.2.2.1, h.2.2.2.2.2, h.2.2.2.2.1⟩
def KRQ (M : KM) (P : Prop) : Option KV → KM → Prop := fun r M' => ∃ b : Bool, r = some (vI (bI b)) ∧ (b = true ↔ P) ∧ qq (M'.2.2 11 1) (M'.2.2 11 2) ∧ kL M M'
theorem lp_reaches {M : KM} {R : RO} (hR : RA M 0 R) (hW : rW R) {fr to most : Nat} (hfr : fr < 15625) (hto : to < 15625) (hm : most < 2 ^ 30) : ∀ (d : Nat) (M1 : KM) (k q1 q2 : Nat) (N : Nat → Prop) (y : Int32), most - k < d → (LA M1 q1 q2 (bL R fr to most k).1 (bL R fr to most k).2 N) → (kL M M1) → (y = nI (k + 1)) → (∀ j, 1 ≤ j → j ≤ k → ¬ (bL R fr to most j).2 to) → (k ≤ most) → Go mX4_reaches (Zm (KRQ M (RE R fr to most))) M1 [some (vR 11 0), some (vR 1 0), some (vI (nI fr)), some (vI (nI to)), some (vI (nI most)), some (vI y), none] [] 33 := by
  intro d
  induction d with
  | zero => intro M1 k q1 q2 N y hd; exact absurd hd (Nat.not_lt_zero _)
  | succ d ih =>
    intro M1 k q1 q2 N y hd h0 h1 h2 h3 h4
    refine go_iload (q := 35) dX4_reaches_33 rfl rfl ?_
    refine go_iload (q := 37) dX4_reaches_35 rfl rfl ?_
    refine go_icmp_gtN (k + 1) most (q := 40) (t := 97) dX4_reaches_37 (by decide) rfl h2 rfl (by omega) (by omega) (fun c_37 => ?_) (fun c_37 => ?_)
    · refine go_iconst (q := 98) (v := 0) dX4_reaches_97 (by decide) rfl ?_
      exact go_iretz dX4_reaches_98 rfl (bI_nar false) ⟨false, rfl, ⟨(fun z => by cases z), (fun z => by obtain ⟨j, hj1, hj2, hj3⟩ := z; exact absurd hj3 (h3 j hj1 (by omega)))⟩, by rw [h0.1, h0.2.1]; exact h0.2.2.1, h1⟩
    · subst h2
      have hq := h0.2.2.1
      have hE := LA_emN h0
      have hkE : kL M (kem M1 q2 245) := h1.tr ⟨rfl, fun _ => rfl⟩
      refine go_aload_n (q := 41) dX4_reaches_40 rfl rfl rfl ?_
      refine go_getf (q := 44) dX4_reaches_41 fRX4_21 rfl (by decide) rfl rfl ?_
      rw [show M1.2.2 11 2 = q2 from h0.2.1]
      refine go_uV0 (cal := mX7_empty) (q := 47) dX4_reaches_44 lRX4_34 vX7_empty ⟨by decide, by decide⟩ rfl hq.lt2 (Nat.le_of_ble_eq_true rfl) (ok_setEmpty hq.lt2) rfl ?_
      refine go_aload_n (q := 48) dX4_reaches_47 rfl rfl rfl ?_
      refine go_aload_n (q := 49) dX4_reaches_48 rfl rfl rfl ?_
      refine go_iload_n (q := 50) dX4_reaches_49 rfl rfl rfl ?_
      refine go_iload (q := 52) dX4_reaches_50 rfl rfl ?_
      refine go_iload (q := 54) dX4_reaches_52 rfl rfl ?_
      refine go_isub (q := 55) dX4_reaches_54 rfl ?_
      refine go_topi (pk_sub (by omega)) ?_
      refine go_callV [vR 1 0, vI (nI to), vI (nI (most - (k + 1)))] (cal := mX4_goOn) (q := 58) dX4_reaches_55 lRX4_41 vX4_goOn ⟨by decide, by decide⟩ rfl rfl (by decide) (Nat.le_of_ble_eq_true rfl) (ok_goOn (hkE.ra hR) hW hto (by omega) hE) rfl (fun r55 M55 h55 => ?_)
      obtain ⟨rfl, hL55, hk55⟩ := h55
      have hk2 := hkE.tr hk55
      refine go_aload_n (q := 59) dX4_reaches_58 rfl rfl rfl ?_
      refine go_getf (q := 62) dX4_reaches_59 fRX4_21 rfl (by decide) rfl rfl ?_
      rw [show M55.2.2 11 2 = q2 from hL55.2.1]
      refine go_iload_n (q := 63) dX4_reaches_62 rfl rfl rfl ?_
      refine go_cV1 (cal := mX7_has) (q := 66) dX4_reaches_63 lRX4_45 vX7_has ⟨by decide, by decide⟩ rfl hq.lt2 (Nat.le_of_ble_eq_true rfl) (ok_setHas hq.lt2 (by omega)) rfl ?_
      refine go_if_eqB (q := 69) (t := 71) dX4_reaches_66 (by decide) rfl (fun c_66 => ?_) (fun c_66 => ?_)
      · have hno : ¬ (bL R fr to most (k + 1)).2 to := fun z => by rw [(has_iff hL55.2.2.2.2.2 hto).mpr z] at c_66; cases c_66
        refine go_aload_n (q := 72) dX4_reaches_71 rfl rfl rfl ?_
        refine go_getf (q := 75) dX4_reaches_72 fRX4_18 rfl (by decide) rfl rfl ?_
        rw [show M55.2.2 11 1 = q1 from hL55.1]
        refine go_astore (q := 77) dX4_reaches_75 (by decide) rfl rfl ?_
        refine go_aload_n (q := 78) dX4_reaches_77 rfl rfl rfl ?_
        refine go_aload_n (q := 79) dX4_reaches_78 rfl rfl rfl ?_
        refine go_getf (q := 82) dX4_reaches_79 fRX4_21 rfl (by decide) rfl rfl ?_
        rw [show M55.2.2 11 2 = q2 from hL55.2.1]
        refine go_putr (q := 85) dX4_reaches_82 pRX4_18 (by decide) rfl ?_
        refine go_aload_n (q := 86) dX4_reaches_85 rfl rfl rfl ?_
        refine go_aload (q := 88) dX4_reaches_86 rfl rfl ?_
        refine go_putr (q := 91) dX4_reaches_88 pRX4_21 (by decide) rfl ?_
        refine go_iinc (q := 94) (v := 1) dX4_reaches_91 (by decide) rfl (by decide) rfl rfl ?_
        refine go_goto (q := 33) dX4_reaches_94 (by decide) ?_
        refine go_weak (l1 := [some (vR 11 0), some (vR 1 0), some (vI (nI fr)), some (vI (nI to)), some (vI (nI most)), some (vI _), none]) (k_le_s (k_le_s (k_le_s (k_le_s (k_le_s (k_le_s (k_le_n k_le_nil))))))) ?_
        exact ih _ (k + 1) q2 q1 _ _ (by omega) (LA_swap hL55) (hk2.tr ⟨rfl, fun _ => rfl⟩) (nI_1 (k + 1)) (fun j hj1 hj2 => by
          by_cases e : j = k + 1
          · subst e; exact hno
          · exact h3 j hj1 (by omega)) (by omega)
      · have hre : (bL R fr to most (k + 1)).2 to := (has_iff hL55.2.2.2.2.2 hto).mp c_66
        refine go_iconst (q := 70) (v := 1) dX4_reaches_69 (by decide) rfl ?_
        exact go_iretz dX4_reaches_70 rfl (bI_nar true) ⟨true, rfl, ⟨fun _ => ⟨k + 1, by omega, by omega, hre⟩, fun _ => rfl⟩, by rw [hL55.1, hL55.2.1]; exact hL55.2.2.1, hk2⟩
theorem ok_reaches {M : KM} {R : RO} (hR : RA M 0 R) (hW : rW R) {fr to most : Nat} (hfr : fr < 15625) (hto : to < 15625) (hm : most < 2 ^ 30) (hq : qq (M.2.2 11 1) (M.2.2 11 2)) : Ok mX4_reaches [vR 11 0, vR 1 0, vI (nI fr), vI (nI to), vI (nI most)] M (KRQ M (RE R fr to most)) := by
  refine ok_of (by decide) rfl (Nat.le_of_ble_eq_true rfl) ⟨rfl, rfl⟩ ?_
  show Go mX4_reaches (Zm (KRQ M (RE R fr to most))) M [some (vR 11 0), some (vR 1 0), some (vI (nI fr)), some (vI (nI to)), some (vI (nI most)), none, none] [] 0
  refine go_aload_n (q := 1) dX4_reaches_0 rfl rfl rfl ?_
  refine go_getf (q := 4) dX4_reaches_1 fRX4_12 rfl (by decide) rfl rfl ?_
  refine go_uV0 (cal := mX7_empty) (q := 7) dX4_reaches_4 lRX4_34 vX7_empty ⟨by decide, by decide⟩ rfl (by decide) (Nat.le_of_ble_eq_true rfl) (ok_setEmpty (by decide)) rfl ?_
  refine go_aload_n (q := 8) dX4_reaches_7 rfl rfl rfl ?_
  refine go_getf (q := 11) dX4_reaches_8 fRX4_18 rfl (by decide) rfl rfl ?_
  refine go_uV0 (cal := mX7_empty) (q := 14) dX4_reaches_11 lRX4_34 vX7_empty ⟨by decide, by decide⟩ rfl hq.lt1 (Nat.le_of_ble_eq_true rfl) (ok_setEmpty hq.lt1) rfl ?_
  refine go_aload_n (q := 15) dX4_reaches_14 rfl rfl rfl ?_
  refine go_getf (q := 18) dX4_reaches_15 fRX4_12 rfl (by decide) rfl rfl ?_
  refine go_iload_n (q := 19) dX4_reaches_18 rfl rfl rfl ?_
  refine go_uV1 (cal := mX7_add) (q := 22) dX4_reaches_19 lRX4_37 vX7_add ⟨by decide, by decide⟩ rfl (by decide) (Nat.le_of_ble_eq_true rfl) (ok_setAdd (by decide) hfr) rfl ?_
  refine go_aload_n (q := 23) dX4_reaches_22 rfl rfl rfl ?_
  refine go_getf (q := 26) dX4_reaches_23 fRX4_18 rfl (by decide) rfl rfl ?_
  refine go_iload_n (q := 27) dX4_reaches_26 rfl rfl rfl ?_
  refine go_uV1 (cal := mX7_add) (q := 30) dX4_reaches_27 lRX4_37 vX7_add ⟨by decide, by decide⟩ rfl hq.lt1 (Nat.le_of_ble_eq_true rfl) (ok_setAdd hq.lt1 hfr) rfl ?_
  refine go_iconst (q := 31) (v := 1) dX4_reaches_30 (by decide) rfl ?_
  refine go_istore (q := 33) dX4_reaches_31 (by decide) rfl rfl ?_
  exact lp_reaches hR hW hfr hto hm (most + 1) _ 0 _ _ _ _ (by omega) (LA_start rfl rfl hq hfr) ⟨rfl, fun _ => rfl⟩ rfl (fun j h1 h2 => by omega) (by omega)
def FW (R : RO) (fr to : Nat) : Option Nat → Prop
  | some m => ap fr to ≤ m ∧ m ≤ ap fr to + 2 ∧ RE R fr to m ∧ ∀ m', ap fr to ≤ m' → m' < m → ¬ RE R fr to m'
  | none => ∀ m', ap fr to ≤ m' → m' ≤ ap fr to + 2 → ¬ RE R fr to m'
def KFQ (M : KM) (R : RO) (fr to : Nat) : Option KV → KM → Prop := fun r M' => ∃ o : Option Nat, r = some (vI (e4 o)) ∧ FW R fr to o ∧ qq (M'.2.2 11 1) (M'.2.2 11 2) ∧ kL M M'
theorem lp_fewest {M : KM} {R : RO} (hR : RA M 0 R) (hW : rW R) {fr to : Nat} (hfr : fr < 15625) (hto : to < 15625) : ∀ (d : Nat) (M1 : KM) (m : Nat) (y : Int32), (ap fr to + 3) - m < d → (y = nI m) → (kL M M1) → (∀ m1, ap fr to ≤ m1 → m1 < m → ¬ RE R fr to m1) → (qq (M1.2.2 11 1) (M1.2.2 11 2)) → (ap fr to ≤ m) → (m ≤ ap fr to + 3) → Go mX4_fewest (Zm (KFQ M R fr to)) M1 [some (vR 11 0), some (vR 1 0), some (vI (nI fr)), some (vI (nI to)), some (vI (nI (ap fr to))), some (vI y)] [] 11 := by
  intro d
  induction d with
  | zero => intro M1 m y hd; exact absurd hd (Nat.not_lt_zero _)
  | succ d ih =>
    intro M1 m y hd h0 h1 h2 h3 h4 h5
    refine go_iload (q := 13) dX4_fewest_11 rfl rfl ?_
    refine go_iload (q := 15) dX4_fewest_13 rfl rfl ?_
    refine go_iconst (q := 16) (v := 2) dX4_fewest_15 (by decide) rfl ?_
    refine go_iadd (q := 17) dX4_fewest_16 rfl ?_
    refine go_topi (nI_add _ 2) ?_
    refine go_icmp_gtN m (ap fr to + 2) (q := 20) (t := 41) dX4_fewest_17 (by decide) rfl h0 rfl (by have := ap_le fr to; omega) (by have := ap_le fr to; omega) (fun c_17 => ?_) (fun c_17 => ?_)
    · refine go_bipush (q := 43) (v := (-4)) dX4_fewest_41 (by decide) rfl ?_
      exact go_ireti dX4_fewest_43 rfl ⟨none, rfl, fun m1 h5 h6 => h2 m1 h5 (by omega), h3, h1⟩
    · have hap := ap_le fr to
      refine go_aload_n (q := 21) dX4_fewest_20 rfl rfl rfl ?_
      refine go_aload_n (q := 22) dX4_fewest_21 rfl rfl rfl ?_
      refine go_iload_n (q := 23) dX4_fewest_22 rfl rfl rfl ?_
      refine go_iload_n (q := 24) dX4_fewest_23 rfl rfl rfl ?_
      refine go_iload (q := 26) dX4_fewest_24 rfl rfl ?_
      refine go_callV [vR 1 0, vI (nI fr), vI (nI to), vI y] (cal := mX4_reaches) (q := 29) dX4_fewest_26 lRX4_30 vX4_reaches ⟨by decide, by decide⟩ rfl rfl (by decide) (Nat.le_of_ble_eq_true rfl) (by rw [h0]; exact ok_reaches (h1.ra hR) hW hfr hto (by omega) h3) rfl (fun r26 M26 h26 => ?_)
      obtain ⟨b, rfl, hb26, hq26, hk26⟩ := h26
      show Go mX4_fewest _ M26 _ [vI (bI b)] 29
      refine go_if_eqB (q := 32) (t := 35) dX4_fewest_29 (by decide) rfl (fun c_29 => ?_) (fun c_29 => ?_)
      · subst c_29
        have hno : ¬ RE R fr to m := fun z => by have := hb26.mpr z; cases this
        refine go_iinc (q := 38) (v := 1) dX4_fewest_35 (by decide) rfl (by decide) rfl rfl ?_
        refine go_goto (q := 11) dX4_fewest_38 (by decide) ?_
        exact ih M26 (m + 1) _ (by omega) (by rw [h0, nI_1]) (h1.tr hk26) (fun m1 h5 h6 => by
          by_cases e : m1 = m
          · subst e; exact hno
          · exact h2 m1 h5 (by omega)) hq26 (by omega) (by omega)
      · subst c_29
        refine go_iload (q := 34) dX4_fewest_32 rfl rfl ?_
        exact go_ireti dX4_fewest_34 rfl ⟨some m, by rw [h0]; rfl, ⟨h4, by omega, hb26.mp rfl, h2⟩, hq26, h1.tr hk26⟩
theorem ok_fewest {M : KM} {R : RO} (hR : RA M 0 R) (hW : rW R) {fr to : Nat} (hfr : fr < 15625) (hto : to < 15625) (hq : qq (M.2.2 11 1) (M.2.2 11 2)) : Ok mX4_fewest [vR 11 0, vR 1 0, vI (nI fr), vI (nI to)] M (KFQ M R fr to) := by
  refine ok_of (by decide) rfl (Nat.le_of_ble_eq_true rfl) ⟨rfl, rfl⟩ ?_
  show Go mX4_fewest (Zm (KFQ M R fr to)) M [some (vR 11 0), some (vR 1 0), some (vI (nI fr)), some (vI (nI to)), none, none] [] 0
  refine go_iload_n (q := 1) dX4_fewest_0 rfl rfl rfl ?_
  refine go_iload_n (q := 2) dX4_fewest_1 rfl rfl rfl ?_
  refine go_cS2 (cal := mX8_apart) (q := 5) dX4_fewest_2 lRX4_24 vX8_apart ⟨by decide, by decide⟩ (Nat.le_of_ble_eq_true rfl) (ok_apart (by omega) (by omega)) rfl ?_
  refine go_istore (q := 7) dX4_fewest_5 (by decide) rfl rfl ?_
  refine go_iload (q := 9) dX4_fewest_7 rfl rfl ?_
  refine go_istore (q := 11) dX4_fewest_9 (by decide) rfl rfl ?_
  exact lp_fewest hR hW hfr hto 4 M _ _ (by omega) rfl kL.rf (fun m1 h1 h2 => by omega) hq (Nat.le_refl _) (by omega)
