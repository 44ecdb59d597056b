theorem ts_bit {w : Int64} {s : UInt64} {j : Nat} (hj : j < 64) (hs : s.toNat = j) : ((w.toUInt64 >>> s).toInt64 &&& 1) = 0 ↔ w.toBitVec.getLsbD j = false := by
  have e : (w.toUInt64 >>> s).toInt64.toBitVec = w.toBitVec >>> j := by
    apply BitVec.eq_of_toNat_eq
    show (w.toUInt64 >>> s).toNat = _
    rw [UInt64.toNat_shiftRight, hs, Nat.mod_eq_of_lt hj, BitVec.toNat_ushiftRight]
    rfl
  rw [← Int64.toBitVec_inj, Int64.toBitVec_and, e]
  show w.toBitVec >>> j &&& 1#64 = 0#64 ↔ _
  constructor
  · intro h
    have t := congrArg (fun x => x.getLsbD 0) h
    simpa using t
  · intro h
    apply BitVec.eq_of_getLsbD_eq
    intro i hi
    cases i with
    | zero => simp [h]
    | succ i => simp

/-! ===== sets of shields in bits ===== -/
theorem k_sh6 {s : Nat} (h : s < 2 ^ 31) : nI s >>> ((6 : Int32) &&& 31) = nI (s / 64) := pk_shrN h _ 6 (by decide)
theorem k_a63 {s : Nat} (h : s < 2 ^ 31) : nI s &&& (63 : Int32) = nI (s % 64) := pk_andN (by omega) 6 (by decide)
theorem k_s63 : ∀ j, j < 64 → ((nI j).toInt64.toUInt64 &&& Int64.toUInt64 63).toNat = j := by decide +kernel
theorem k_l63 : ∀ j, j < 64 → ((1 : Int64) <<< ((nI j).toInt64 &&& 63)).toBitVec = BitVec.twoPow 64 j := by decide +kernel
theorem k_cmp0 {x : Int64} : lg_cmp x 0 = 0 ↔ x = 0 := by
  unfold lg_cmp
  split
  · rename_i h
    constructor
    · intro z; exact absurd z (by decide)
    · rintro rfl; exact absurd h (by decide)
  · split
    · rename_i h; simp [h]
    · rename_i h
      constructor
      · intro z; exact absurd z (by decide)
      · intro z; exact absurd z h
def bit (w : Int64) (j : Nat) : Bool := w.toBitVec.getLsbD j
theorem bit_0 (j : Nat) : bit 0 j = false := by
  unfold bit
  rw [show (0 : Int64).toBitVec = 0#64 from rfl]
  simp
theorem bit_or {w : Int64} {j k : Nat} (hj : j < 64) (hk : k < 64) : bit (w ||| ((1 : Int64) <<< ((nI j).toInt64 &&& 63))) k = (bit w k || decide (k = j)) := by
  unfold bit
  rw [Int64.toBitVec_or, BitVec.getLsbD_or, k_l63 j hj, BitVec.getLsbD_twoPow]
  congr 1
  by_cases e : k = j
  · subst e; simp [hk]
  · have : ¬ j = k := fun z => e z.symm
    simp [e, this]
theorem bit_test {w : Int64} {j : Nat} (hj : j < 64) : ((w.toUInt64 >>> ((nI j).toInt64.toUInt64 &&& Int64.toUInt64 63)).toInt64 &&& 1) = 0 ↔ bit w j = false := ts_bit hj (k_s63 j hj)
/-- the set i holds the shields of S -/
def SA (M : KM) (i : Nat) (S : Nat → Prop) : Prop := ∀ s, s < 15625 → (bit (M.2.1 i (s / 64)) (s % 64) = true ↔ S s)
theorem k_isSh {s : Nat} (h : s < 2 ^ 31) : (pOf 15625 (nI s)).isSome = decide (s < 15625) := by
  by_cases e : s < 15625
  · rw [pOf_nI e (by decide), decide_eq_true e]; rfl
  · rw [pOf_big (by omega) h, decide_eq_false e]; rfl
theorem ok_setHas {M : KM} {i : Nat} (hi : i < 3) {s : Nat} (hs : s < 2 ^ 31) : OkF mX7_has [vR 12 i, vI (nI s)] M (some (vI (bI (decide (s < 15625) && bit (M.2.1 i (s / 64)) (s % 64))))) M := by
  refine ok_of (by decide) rfl (Nat.le_of_ble_eq_true rfl) ⟨rfl, rfl⟩ ?_
  show Go mX7_has (Zm (QF (some (vI (bI (decide (s < 15625) && bit (M.2.1 i (s / 64)) (s % 64))))) M)) M [some (vR 12 i), some (vI (nI s))] [] 0
  refine go_iload_n (q := 1) dX7_has_0 rfl rfl rfl ?_
  refine go_cS1 (cal := mX8_isShield) (q := 4) dX7_has_1 lRX7_15 vX8_isShield ⟨by decide, by decide⟩ (Nat.le_of_ble_eq_true rfl) (ok_isShield M _) rfl ?_
  refine go_if_eqB (q := 7) (t := 32) dX7_has_4 (by decide) rfl (fun c_4 => ?_) (fun c_4 => ?_)
  · rw [k_isSh hs] at c_4
    refine go_iconst (q := 33) (v := 0) dX7_has_32 (by decide) rfl ?_
    exact go_rz dX7_has_33 rfl (by rw [c_4]; rfl) rfl
  · rw [k_isSh hs] at c_4
    have hs2 : s < 15625 := of_decide_eq_true c_4
    refine go_aload_n (q := 8) dX7_has_7 rfl rfl rfl ?_
    refine go_getf (q := 11) dX7_has_8 fRX7_11 rfl hi rfl rfl ?_
    refine go_iload_n (q := 12) dX7_has_11 rfl rfl rfl ?_
    refine go_bipush (q := 14) (v := 6) dX7_has_12 (by decide) rfl ?_
    refine go_ishr (q := 15) dX7_has_14 rfl ?_
    refine go_topi (k_sh6 hs) ?_
    refine go_lald (q := 16) (s / 64) dX7_has_15 hi rfl (by omega) rfl ?_
    refine go_iload_n (q := 17) dX7_has_16 rfl rfl rfl ?_
    refine go_bipush (q := 19) (v := 63) dX7_has_17 (by decide) rfl ?_
    refine go_iand (q := 20) dX7_has_19 rfl ?_
    refine go_topi (k_a63 hs) ?_
    refine go_lushr (q := 21) dX7_has_20 rfl ?_
    refine go_lconst (q := 22) (v := 1) dX7_has_21 (by decide) rfl ?_
    refine go_land (q := 23) dX7_has_22 rfl ?_
    refine go_lconst (q := 24) (v := 0) dX7_has_23 (by decide) rfl ?_
    refine go_lcmp (q := 25) dX7_has_24 rfl ?_
    refine go_if_eq (q := 28) (t := 32) dX7_has_25 (by decide) rfl (fun c_25 => ?_) (fun c_25 => ?_)
    · refine go_iconst (q := 33) (v := 0) dX7_has_32 (by decide) rfl ?_
      exact go_rz dX7_has_33 rfl (by rw [(bit_test (Nat.mod_lt s (by decide))).mp (k_cmp0.mp c_25), Bool.and_false]; rfl) rfl
    · refine go_iconst (q := 29) (v := 1) dX7_has_28 (by decide) rfl ?_
      refine go_goto (q := 33) dX7_has_29 (by decide) ?_
      exact go_rz dX7_has_33 rfl (by rw [c_4, show bit (M.2.1 i (s / 64)) (s % 64) = true from by rw [← Bool.not_eq_false]; exact fun z => c_25 (k_cmp0.mpr ((bit_test (Nat.mod_lt s (by decide))).mpr z))]; rfl) rfl
theorem ok_setAdd {M : KM} {i : Nat} (hi : i < 3) {s : Nat} (hs : s < 15625) : OkF mX7_add [vR 12 i, vI (nI s)] M none (k_sl M i (s / 64) (M.2.1 i (s / 64) ||| ((1 : Int64) <<< ((nI (s % 64)).toInt64 &&& 63)))) := by
  refine ok_of (by decide) rfl (Nat.le_of_ble_eq_true rfl) ⟨rfl, rfl⟩ ?_
  show Go mX7_add (Zm (QF none (k_sl M i (s / 64) (M.2.1 i (s / 64) ||| ((1 : Int64) <<< ((nI (s % 64)).toInt64 &&& 63)))))) M [some (vR 12 i), some (vI (nI s))] [] 0
  refine go_iload_n (q := 1) dX7_add_0 rfl rfl rfl ?_
  refine go_cS1 (cal := mX8_isShield) (q := 4) dX7_add_1 lRX7_15 vX8_isShield ⟨by decide, by decide⟩ (Nat.le_of_ble_eq_true rfl) (ok_isShield M _) rfl ?_
  refine go_if_eqB (q := 7) (t := 25) dX7_add_4 (by decide) rfl (fun c_4 => ?_) (fun c_4 => ?_)
  · rw [k_isSh (by omega), decide_eq_true hs] at c_4; cases c_4
  · refine go_aload_n (q := 8) dX7_add_7 rfl rfl rfl ?_
    refine go_getf (q := 11) dX7_add_8 fRX7_11 rfl hi rfl rfl ?_
    refine go_iload_n (q := 12) dX7_add_11 rfl rfl rfl ?_
    refine go_bipush (q := 14) (v := 6) dX7_add_12 (by decide) rfl ?_
    refine go_ishr (q := 15) dX7_add_14 rfl ?_
    refine go_topi (k_sh6 (by omega)) ?_
    refine go_dup2 (q := 16) dX7_add_15 rfl rfl rfl ?_
    refine go_lald (q := 17) (s / 64) dX7_add_16 hi rfl (by omega) rfl ?_
    refine go_lconst (q := 18) (v := 1) dX7_add_17 (by decide) rfl ?_
    refine go_iload_n (q := 19) dX7_add_18 rfl rfl rfl ?_
    refine go_bipush (q := 21) (v := 63) dX7_add_19 (by decide) rfl ?_
    refine go_iand (q := 22) dX7_add_21 rfl ?_
    refine go_topi (k_a63 (by omega)) ?_
    refine go_lshl (q := 23) dX7_add_22 rfl ?_
    refine go_lor (q := 24) dX7_add_23 rfl ?_
    refine go_last (q := 25) (s / 64) dX7_add_24 hi rfl (by omega) rfl ?_
    exact go_rv dX7_add_25 rfl rfl
def kem (M : KM) (i j : Nat) : KM := (M.1, (fun a c => if a = i ∧ c < j then 0 else M.2.1 a c), M.2.2)
theorem kem_0 (M : KM) (i : Nat) : kem M i 0 = M := by
  refine Prod.ext rfl (Prod.ext ?_ rfl)
  funext a c
  show (if a = i ∧ c < 0 then _ else M.2.1 a c) = _
  rw [if_neg (fun z => Nat.not_lt_zero _ z.2)]
theorem kem_step (M : KM) (i j : Nat) : k_sl (kem M i j) i j 0 = kem M i (j + 1) := by
  refine Prod.ext rfl (Prod.ext ?_ rfl)
  funext a c
  show (if a = i ∧ c = j then 0 else (if a = i ∧ c < j then 0 else M.2.1 a c)) = (if a = i ∧ c < j + 1 then 0 else M.2.1 a c)
  by_cases h : a = i
  · by_cases hc : c = j
    · rw [if_pos ⟨h, hc⟩, if_pos ⟨h, by omega⟩]
    · rw [if_neg (fun z => hc z.2)]
      by_cases h2 : c < j
      · rw [if_pos ⟨h, h2⟩, if_pos ⟨h, by omega⟩]
      · rw [if_neg (fun z => h2 z.2), if_neg (fun z => by omega)]
  · rw [if_neg (fun z => h z.1), if_neg (fun z => h z.1), if_neg (fun z => h z.1)]
theorem SA_em (M : KM) (i : Nat) : SA (kem M i 245) i (fun _ => False) := fun s hs => by
  show bit (if i = i ∧ s / 64 < 245 then 0 else _) _ = true ↔ False
  rw [if_pos ⟨rfl, by omega⟩, bit_0]
  simp
theorem SA_keep {M M' : KM} {i : Nat} {S : Nat → Prop} (h : SA M i S) (e : M'.2.1 i = M.2.1 i) : SA M' i S := fun s hs => by
  rw [e]; exact h s hs
theorem SA_add {M : KM} {i s : Nat} {S : Nat → Prop} (h : SA M i S) (hs : s < 15625) : SA (k_sl M i (s / 64) (M.2.1 i (s / 64) ||| ((1 : Int64) <<< ((nI (s % 64)).toInt64 &&& 63)))) i (fun v => S v ∨ v = s) := fun v hv => by
  show bit (if i = i ∧ v / 64 = s / 64 then _ else M.2.1 i (v / 64)) (v % 64) = true ↔ _
  by_cases e : v / 64 = s / 64
  · rw [if_pos ⟨rfl, e⟩, bit_or (Nat.mod_lt _ (by decide)) (Nat.mod_lt _ (by decide)), ← e, Bool.or_eq_true, h v hv, decide_eq_true_eq]
    constructor
    · rintro (h1 | h1)
      · exact Or.inl h1
      · exact Or.inr (by omega)
    · rintro (h1 | rfl)
      · exact Or.inl h1
      · exact Or.inr rfl
  · rw [if_neg (fun z => e z.2), h v hv]
    constructor
    · exact Or.inl
    · rintro (h1 | rfl)
      · exact h1
      · exact absurd rfl e
theorem kem_ne {M : KM} {i j a : Nat} (h : a ≠ i) : (kem M i j).2.1 a = M.2.1 a := by
  funext c
  show (if a = i ∧ c < j then 0 else M.2.1 a c) = _
  rw [if_neg (fun z => h z.1)]
theorem k_sl_ne {M : KM} {i j a : Nat} {v : Int64} (h : a ≠ i) : (k_sl M i j v).2.1 a = M.2.1 a := by
  funext c
  show (if a = i ∧ c = j then v else M.2.1 a c) = _
  rw [if_neg (fun z => h z.1)]
theorem lp_setEmpty {M : KM} {i : Nat} (hi : i < 3) : ∀ (d : Nat) (j : Nat) (y : Int32), 245 - j < d → (y = nI j) → (j ≤ 245) → Go mX7_empty (Zm (QF none (kem M i 245))) (kem M i j) [some (vR 12 i), some (vI y)] [] 2 := by
  intro d
  induction d with
  | zero => intro j y hd; exact absurd hd (Nat.not_lt_zero _)
  | succ d ih =>
    intro j y hd h0 h1
    refine go_iload_n (q := 3) dX7_empty_2 rfl rfl rfl ?_
    refine go_sipush (q := 6) (v := 245) dX7_empty_3 (by decide) rfl ?_
    refine go_icmp_geN j 245 (q := 9) (t := 22) dX7_empty_6 (by decide) rfl h0 rfl (by omega) (by omega) (fun c_6 => ?_) (fun c_6 => ?_)
    · obtain rfl : j = 245 := by omega
      exact go_rv dX7_empty_22 rfl rfl
    · subst h0
      refine go_aload_n (q := 10) dX7_empty_9 rfl rfl rfl ?_
      refine go_getf (q := 13) dX7_empty_10 fRX7_11 rfl hi rfl rfl ?_
      refine go_iload_n (q := 14) dX7_empty_13 rfl rfl rfl ?_
      refine go_lconst (q := 15) (v := 0) dX7_empty_14 (by decide) rfl ?_
      refine go_last (q := 16) j dX7_empty_15 hi rfl (by omega) rfl ?_
      refine go_iinc (q := 19) (v := 1) dX7_empty_16 (by decide) rfl (by decide) rfl rfl ?_
      refine go_goto (q := 2) dX7_empty_19 (by decide) ?_
      exact go_mem (kem_step M i j) (ih (j + 1) _ (by omega) (nI_1 j) (by omega))
theorem ok_setEmpty {M : KM} {i : Nat} (hi : i < 3) : OkF mX7_empty [vR 12 i] M none (kem M i 245) := by
  refine ok_of (by decide) rfl (Nat.le_of_ble_eq_true rfl) ⟨rfl, rfl⟩ ?_
  show Go mX7_empty (Zm (QF none (kem M i 245))) M [some (vR 12 i), none] [] 0
  refine go_iconst (q := 1) (v := 0) dX7_empty_0 (by decide) rfl ?_
  refine go_istore_n (q := 2) dX7_empty_1 rfl (by decide) rfl rfl ?_
  have := lp_setEmpty (M := M) hi 246 0 0 (by omega) rfl (by omega)
  rw [kem_0] at this
  exact this
theorem ok_wordEmpty {M : KM} {i : Nat} (hi : i < 3) {w : Nat} (hw : w < 245) : OkF mX7_isWordEmpty [vR 12 i, vI (nI w)] M (some (vI (bI (decide (M.2.1 i w = 0))))) M := by
  refine ok_of (by decide) rfl (Nat.le_of_ble_eq_true rfl) ⟨rfl, rfl⟩ ?_
  show Go mX7_isWordEmpty (Zm (QF (some (vI (bI (decide (M.2.1 i w = 0))))) M)) M [some (vR 12 i), some (vI (nI w))] [] 0
  refine go_iload_n (q := 1) dX7_isWordEmpty_0 rfl rfl rfl ?_
  refine go_if_lt (q := 4) (t := 22) dX7_isWordEmpty_1 (by decide) rfl (fun c_1 => ?_) (fun c_1 => ?_)
  · exact k_neg (by omega) c_1
  · refine go_iload_n (q := 5) dX7_isWordEmpty_4 rfl rfl rfl ?_
    refine go_sipush (q := 8) (v := 245) dX7_isWordEmpty_5 (by decide) rfl ?_
    refine go_icmp_geN w 245 (q := 11) (t := 22) dX7_isWordEmpty_8 (by decide) rfl rfl rfl (by omega) (by omega) (fun c_8 => ?_) (fun c_8 => ?_)
    · omega
    · refine go_aload_n (q := 12) dX7_isWordEmpty_11 rfl rfl rfl ?_
      refine go_getf (q := 15) dX7_isWordEmpty_12 fRX7_11 rfl hi rfl rfl ?_
      refine go_iload_n (q := 16) dX7_isWordEmpty_15 rfl rfl rfl ?_
      refine go_lald (q := 17) w dX7_isWordEmpty_16 hi rfl hw rfl ?_
      refine go_lconst (q := 18) (v := 0) dX7_isWordEmpty_17 (by decide) rfl ?_
      refine go_lcmp (q := 19) dX7_isWordEmpty_18 rfl ?_
      refine go_if_ne (q := 22) (t := 26) dX7_isWordEmpty_19 (by decide) rfl (fun c_19 => ?_) (fun c_19 => ?_)
      · refine go_iconst (q := 27) (v := 0) dX7_isWordEmpty_26 (by decide) rfl ?_
        exact go_rz dX7_isWordEmpty_27 rfl (by rw [decide_eq_false (fun z => c_19 (k_cmp0.mpr z))]; rfl) rfl
      · refine go_iconst (q := 23) (v := 1) dX7_isWordEmpty_22 (by decide) rfl ?_
        refine go_goto (q := 27) dX7_isWordEmpty_23 (by decide) ?_
        exact go_rz dX7_isWordEmpty_27 rfl (by rw [decide_eq_true (k_cmp0.mp (Classical.not_not.mp c_19))]; rfl) rfl
