/-! ===== the law's methods: seen ===== -/
def sc (R : RO) : Nat → Int64
  | 0 => 179
  | k + 1 => 31 * sc R k + (numR R 0 0 k).toInt64
def sp (R : RO) : Nat → Int64
  | 0 => sc R 10
  | j + 1 => 31 * sp R j + (aPerson R (nI (j / 5)) (nI (j % 5))).toInt64
/-- all that belongs to a state, as one number -/
def seenR (R : RO) : Int64 := sp R 100
theorem aC0 {R : RO} {n h k : Nat} (hk : k < 10) : aCount R n h (nI k) = numR R 0 0 k := by
  rw [aN (by omega)]
  rcases (show k = 0 ∨ k = 1 ∨ k = 2 ∨ k = 3 ∨ k = 4 ∨ k = 5 ∨ k = 6 ∨ k = 7 ∨ k = 8 ∨ k = 9 by omega) with rfl | rfl | rfl | rfl | rfl | rfl | rfl | rfl | rfl | rfl <;> rfl
theorem sp_s {R : RO} {k w : Nat} (hk : k < 20) (hw : w < 5) : 31 * sp R (5 * k + w) + (aPerson R (nI k) (nI w)).toInt64 = sp R (5 * k + (w + 1)) := by
  show _ = 31 * sp R (5 * k + w) + (aPerson R (nI ((5 * k + w) / 5)) (nI ((5 * k + w) % 5))).toInt64
  rw [show (5 * k + w) / 5 = k by omega, show (5 * k + w) % 5 = w by omega]
theorem lp_seenIn {M : KM} {R : RO} (hR : RA M 0 R) (hW : rW R) {n : Nat} {c : Nat → Nat} (hP : PA M n c) {h : Nat} {hs : Nat → RO} (hH : HA M h hs) {k : Nat} (hk : k < 20) (hout : Go mL_seen (Zm (QF (some (vJ (seenR R))) M)) M [some (vR 0 0), some (vJ (sp R (5 * k + 5))), none, some (vI (nI k)), some (vI (nI 5))] [] 69) : ∀ (d : Nat) (w : Nat), 5 - w < d → (w ≤ 5) → Go mL_seen (Zm (QF (some (vJ (seenR R))) M)) M [some (vR 0 0), some (vJ (sp R (5 * k + w))), none, some (vI (nI k)), some (vI (nI w))] [] 42 := by
  intro d
  induction d with
  | zero => intro w hd; exact absurd hd (Nat.not_lt_zero _)
  | succ d ih =>
    intro w hd h0
    refine go_iload (q := 44) dL_seen_42 rfl rfl ?_
    refine go_iconst (q := 45) (v := 5) dL_seen_44 (by decide) rfl ?_
    refine go_icmp_geN w 5 (q := 48) (t := 69) dL_seen_45 (by decide) rfl rfl rfl (by omega) (by omega) (fun c_45 => ?_) (fun c_45 => ?_)
    · obtain rfl : w = 5 := by omega
      exact hout
    · refine go_ldc2 (q := 51) dL_seen_48 kcRL_12 rfl ?_
      refine go_lload_n (q := 52) dL_seen_51 rfl rfl rfl ?_
      refine go_lmul (q := 53) dL_seen_52 rfl ?_
      refine go_aload_n (q := 54) dL_seen_53 rfl rfl rfl ?_
      refine go_iload_n (q := 55) dL_seen_54 rfl rfl rfl ?_
      refine go_iload (q := 57) dL_seen_55 rfl rfl ?_
      refine go_cV2 (cal := mX9_person) (q := 60) dL_seen_57 lRL_20 vX9_person ⟨by decide, by decide⟩ rfl (by decide) (Nat.le_of_ble_eq_true rfl) (ok_person hR hW _ _) rfl ?_
      refine go_i2l (q := 61) dL_seen_60 rfl ?_
      refine go_ladd (q := 62) dL_seen_61 rfl ?_
      refine go_lstore_n (q := 63) dL_seen_62 rfl (by decide) rfl rfl ?_
      refine go_iinc (q := 66) (v := 1) dL_seen_63 (by decide) rfl (by decide) rfl rfl ?_
      refine go_goto (q := 42) dL_seen_66 (by decide) ?_
      rw [sp_s hk c_45, show nI w + 1 = nI (w + 1) from nI_add w 1]
      exact ih (w + 1) (by omega) (by omega)
theorem lp_seen2 {M : KM} {R : RO} (hR : RA M 0 R) (hW : rW R) {n : Nat} {c : Nat → Nat} (hP : PA M n c) {h : Nat} {hs : Nat → RO} (hH : HA M h hs) : ∀ (d : Nat) (k : Nat), 20 - k < d → (k ≤ 20) → Go mL_seen (Zm (QF (some (vJ (seenR R))) M)) M [some (vR 0 0), some (vJ (sp R (5 * k))), none, some (vI (nI k)), none] [] 33 := by
  intro d
  induction d with
  | zero => intro k hd; exact absurd hd (Nat.not_lt_zero _)
  | succ d ih =>
    intro k hd h0
    refine go_iload_n (q := 34) dL_seen_33 rfl rfl rfl ?_
    refine go_bipush (q := 36) (v := 20) dL_seen_34 (by decide) rfl ?_
    refine go_icmp_geN k 20 (q := 39) (t := 75) dL_seen_36 (by decide) rfl rfl rfl (by omega) (by omega) (fun c_36 => ?_) (fun c_36 => ?_)
    · refine go_lload_n (q := 76) dL_seen_75 rfl rfl rfl ?_
      exact go_rl dL_seen_76 rfl (by obtain rfl : k = 20 := (by omega); rfl) rfl
    · refine go_iconst (q := 40) (v := 0) dL_seen_39 (by decide) rfl ?_
      refine go_istore (q := 42) dL_seen_40 (by decide) rfl rfl ?_
      refine lp_seenIn hR hW hP hH c_36 ?_ 6 0 (by omega) (by omega)
      refine go_iinc (q := 72) (v := 1) dL_seen_69 (by decide) rfl (by decide) rfl rfl ?_
      refine go_goto (q := 33) dL_seen_72 (by decide) ?_
      rw [show nI k + 1 = nI (k + 1) from nI_add k 1]
      exact go_weak (k_le_s (k_le_s (k_le_n (k_le_s (k_le_n k_le_nil))))) (ih (k + 1) (by omega) (by omega))
theorem lp_seen1 {M : KM} {R : RO} (hR : RA M 0 R) (hW : rW R) {n : Nat} {c : Nat → Nat} (hP : PA M n c) {h : Nat} {hs : Nat → RO} (hH : HA M h hs) : ∀ (d : Nat) (k : Nat), 10 - k < d → (k ≤ 10) → Go mL_seen (Zm (QF (some (vJ (seenR R))) M)) M [some (vR 0 0), some (vJ (sc R k)), none, some (vI (nI k)), none] [] 6 := by
  intro d
  induction d with
  | zero => intro k hd; exact absurd hd (Nat.not_lt_zero _)
  | succ d ih =>
    intro k hd h0
    refine go_iload_n (q := 7) dL_seen_6 rfl rfl rfl ?_
    refine go_bipush (q := 9) (v := 10) dL_seen_7 (by decide) rfl ?_
    refine go_icmp_geN k 10 (q := 12) (t := 31) dL_seen_9 (by decide) rfl rfl rfl (by omega) (by omega) (fun c_9 => ?_) (fun c_9 => ?_)
    · refine go_iconst (q := 32) (v := 0) dL_seen_31 (by decide) rfl ?_
      refine go_istore_n (q := 33) dL_seen_32 rfl (by decide) rfl rfl ?_
      obtain rfl : k = 10 := by omega
      exact lp_seen2 hR hW hP hH 21 0 (by omega) (by omega)
    · refine go_ldc2 (q := 15) dL_seen_12 kcRL_12 rfl ?_
      refine go_lload_n (q := 16) dL_seen_15 rfl rfl rfl ?_
      refine go_lmul (q := 17) dL_seen_16 rfl ?_
      refine go_aload_n (q := 18) dL_seen_17 rfl rfl rfl ?_
      refine go_iload_n (q := 19) dL_seen_18 rfl rfl rfl ?_
      refine go_cV1 (cal := mX9_count) (q := 22) dL_seen_19 lRL_14 vX9_count ⟨by decide, by decide⟩ rfl (by decide) (Nat.le_of_ble_eq_true rfl) (ok_count hR hW hP hH _) rfl ?_
      refine go_i2l (q := 23) dL_seen_22 rfl ?_
      refine go_ladd (q := 24) dL_seen_23 rfl ?_
      refine go_lstore_n (q := 25) dL_seen_24 rfl (by decide) rfl rfl ?_
      refine go_iinc (q := 28) (v := 1) dL_seen_25 (by decide) rfl (by decide) rfl rfl ?_
      refine go_goto (q := 6) dL_seen_28 (by decide) ?_
      rw [aC0 c_9, show nI k + 1 = nI (k + 1) from nI_add k 1]
      exact ih (k + 1) (by omega) (by omega)
theorem ok_seen {M : KM} {R : RO} (hR : RA M 0 R) (hW : rW R) {n : Nat} {c : Nat → Nat} (hP : PA M n c) {h : Nat} {hs : Nat → RO} (hH : HA M h hs) : OkF mL_seen [vR 0 0] M (some (vJ (seenR R))) M := by
  refine ok_of (by decide) rfl (Nat.le_of_ble_eq_true rfl) ⟨rfl, rfl⟩ ?_
  show Go mL_seen (Zm (QF (some (vJ (seenR R))) M)) M [some (vR 0 0), none, none, none, none] [] 0
  refine go_ldc2 (q := 3) dL_seen_0 kcRL_10 rfl ?_
  refine go_lstore_n (q := 4) dL_seen_3 rfl (by decide) rfl rfl ?_
  refine go_iconst (q := 5) (v := 0) dL_seen_4 (by decide) rfl ?_
  refine go_istore_n (q := 6) dL_seen_5 rfl (by decide) rfl rfl ?_
  exact lp_seen1 hR hW hP hH 11 0 (by omega) (by omega)
