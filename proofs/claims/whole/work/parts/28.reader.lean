/-! ===== the model's reader of the pad ===== -/
abbrev sp (M : KM) (s : Nat) : KM := k_si M 14 0 10 (nI s)
theorem sp_sp (M : KM) (s t : Nat) : k_si (sp M s) 14 0 10 (nI t) = sp M t := by
  refine Prod.ext ?_ rfl
  funext a b c
  simp only [k_si]
  by_cases e : a = 14 ∧ c = 10 ∧ b = 0
  · rw [if_pos e, if_pos e]
  · rw [if_neg e, if_neg e, if_neg e]
theorem sp_se {M : KM} {s : Nat} (h : M.1 14 0 10 = nI s) : sp M s = M := by
  refine Prod.ext ?_ rfl
  funext a b c
  simp only [k_si]
  by_cases e : a = 14 ∧ c = 10 ∧ b = 0
  · rw [if_pos e]; obtain ⟨rfl, rfl, rfl⟩ := e; exact h.symm
  · rw [if_neg e]
theorem sp_n {M : KM} {n : Nat} {c : Nat → Nat} (hP : PZ M n c) (s : Nat) : (sp M s).1 14 0 6 = nI n := (sgn2 _ _ (by decide)).trans hP.1
theorem sp_c {M : KM} {n : Nat} {c : Nat → Nat} (hP : PZ M n c) (s : Nat) {j : Nat} (hj : j < n) : (sp M s).1 18 0 j = nI (c j) := (congrFun (k_si_ne _ _ (fun z => by omega)) j).trans (hP.2.2 j hj).1
theorem dle {x y : Nat} (hx : x < 2 ^ 31) (hy : y < 2 ^ 31) : decide (nI x ≤ nI y) = decide (x ≤ y) := by
  rw [Bool.eq_iff_iff, decide_eq_true_iff, decide_eq_true_iff]
  exact nI_leI hx hy
theorem chZ {M : KM} {n : Nat} {c : Nat → Nat} (hP : PZ M n c) (j : Nat) : ch n c j < 127 := by
  unfold ch
  split
  · have := (hP.2.2 j (by assumption)).2.2; omega
  · decide
theorem ch_in {n : Nat} {c : Nat → Nat} {j : Nat} (h : j < n) : ch n c j = c j := if_pos h
theorem ch_out {n : Nat} {c : Nat → Nat} {j : Nat} (h : n ≤ j) : ch n c j = 0 := if_neg (by omega)
theorem isB_0 {a b : Nat} (h : 1 ≤ a) : isB 0 a b = false := by unfold isB; rw [decide_eq_false (by omega)]; rfl
theorem isB_n {n : Nat} {c : Nat → Nat} {j a b : Nat} (h1 : 1 ≤ a) (h : isB (ch n c j) a b = true) : j < n := by
  by_cases e : j < n
  · exact e
  · rw [ch_out (by omega), isB_0 h1] at h; cases h
theorem ok_msees {M : KM} {n : Nat} {c : Nat → Nat} (hP : PZ M n c) {s : Nat} (hs : s < 2 ^ 30) {a b : Nat} (ha : 1 ≤ a) (ha2 : a < 2 ^ 31) (hb : b < 2 ^ 31) : OkF mX10_sees [vR 14 0, vI (nI a), vI (nI b)] (sp M s) (some (vI (bI (isB (ch n c s) a b)))) (sp M s) := by
  refine ok_of (by decide) rfl (Nat.le_of_ble_eq_true rfl) ⟨rfl, rfl⟩ ?_
  show Go mX10_sees (Zm (QF (some (vI (bI (isB (ch n c s) a b)))) (sp M s))) (sp M s) [some (vR 14 0), some (vI (nI a)), some (vI (nI b))] [] 0
  refine go_aload_n (q := 1) dX10_sees_0 rfl rfl rfl ?_
  refine go_getf (q := 4) dX10_sees_1 fRX10_149 rfl (by decide) rfl rfl ?_
  refine go_topi (sg ..) ?_
  refine go_aload_n (q := 5) dX10_sees_4 rfl rfl rfl ?_
  refine go_getf (q := 8) dX10_sees_5 fRX10_146 rfl (by decide) rfl rfl ?_
  refine go_topi (sp_n hP s) ?_
  refine go_icmp_geN s n (q := 11) (t := 32) dX10_sees_8 (by decide) rfl rfl rfl (by omega) (by have := hP.2.1; omega) (fun c_8 => ?_) (fun c_8 => ?_)
  · refine go_iconst (q := 33) (v := 0) dX10_sees_32 (by decide) rfl ?_
    exact go_rz dX10_sees_33 rfl (by rw [ch_out c_8, isB_0 ha]; rfl) rfl
  · refine go_aload_n (q := 12) dX10_sees_11 rfl rfl rfl ?_
    refine go_getf (q := 15) dX10_sees_12 fRX10_19 rfl (by decide) rfl rfl ?_
    refine go_aload_n (q := 16) dX10_sees_15 rfl rfl rfl ?_
    refine go_getf (q := 19) dX10_sees_16 fRX10_149 rfl (by decide) rfl rfl ?_
    refine go_topi (sg ..) ?_
    refine go_iald (q := 20) s dX10_sees_19 rfl rfl (by decide) rfl (by have := hP.2.1; omega) rfl ?_
    refine go_topi (sp_c hP s c_8) ?_
    refine go_iload_n (q := 21) dX10_sees_20 rfl rfl rfl ?_
    refine go_iload_n (q := 22) dX10_sees_21 rfl rfl rfl ?_
    refine go_cS3 (cal := mX10_in) (q := 25) dX10_sees_22 lRX10_41 vX10_in ⟨by decide, by decide⟩ (Nat.le_of_ble_eq_true rfl) (ok_min _ _ _ _) rfl ?_
    refine go_topi (v := bI (isB (ch n c s) a b)) (by have h9 := (hP.2.2 s c_8).2.2; rw [dle ha2 (by omega), dle (by omega) hb, ch_in c_8]; rfl) ?_
    refine go_if_eqB (q := 28) (t := 32) dX10_sees_25 (by decide) rfl (fun c_25 => ?_) (fun c_25 => ?_)
    · refine go_iconst (q := 33) (v := 0) dX10_sees_32 (by decide) rfl ?_
      exact go_rz dX10_sees_33 rfl (by rw [c_25]; rfl) rfl
    · refine go_iconst (q := 29) (v := 1) dX10_sees_28 (by decide) rfl ?_
      refine go_goto (q := 33) dX10_sees_29 (by decide) ?_
      exact go_rz dX10_sees_33 rfl (by rw [c_25]; rfl) rfl
theorem ok_mtakes {M : KM} {n : Nat} {c : Nat → Nat} (hP : PZ M n c) {s : Nat} (hs : s < 2 ^ 30) {a : Nat} (ha : 1 ≤ a) (ha2 : a < 2 ^ 31) : OkF mX10_takes [vR 14 0, vI (nI a)] (sp M s) (some (vI (bI (isB (ch n c s) a a)))) (sp M (if (isB (ch n c s) a a) = true then s + 1 else s)) := by
  refine ok_of (by decide) rfl (Nat.le_of_ble_eq_true rfl) ⟨rfl, rfl⟩ ?_
  show Go mX10_takes (Zm (QF (some (vI (bI (isB (ch n c s) a a)))) (sp M (if (isB (ch n c s) a a) = true then s + 1 else s)))) (sp M s) [some (vR 14 0), some (vI (nI a)), none] [] 0
  refine go_aload_n (q := 1) dX10_takes_0 rfl rfl rfl ?_
  refine go_iload_n (q := 2) dX10_takes_1 rfl rfl rfl ?_
  refine go_iload_n (q := 3) dX10_takes_2 rfl rfl rfl ?_
  refine go_cV2 (cal := mX10_sees) (q := 6) dX10_takes_3 lRX10_152 vX10_sees ⟨by decide, by decide⟩ rfl (by decide) (Nat.le_of_ble_eq_true rfl) (ok_msees hP hs ha ha2 ha2) rfl ?_
  refine go_istore_n (q := 7) dX10_takes_6 rfl (by decide) rfl rfl ?_
  refine go_aload_n (q := 8) dX10_takes_7 rfl rfl rfl ?_
  refine go_dup (q := 9) dX10_takes_8 rfl rfl ?_
  refine go_getf (q := 12) dX10_takes_9 fRX10_149 rfl (by decide) rfl rfl ?_
  refine go_topi (sg ..) ?_
  refine go_iload_n (q := 13) dX10_takes_12 rfl rfl rfl ?_
  refine go_if_eqB (q := 16) (t := 20) dX10_takes_13 (by decide) rfl (fun c_13 => ?_) (fun c_13 => ?_)
  · refine go_iconst (q := 21) (v := 0) dX10_takes_20 (by decide) rfl ?_
    refine go_iadd (q := 22) dX10_takes_21 rfl ?_
    refine go_puti (q := 25) dX10_takes_22 pRX10_149 rfl (by decide) rfl rfl rfl (Nat.le_of_ble_eq_true rfl) rfl ?_
    refine go_iload_n (q := 26) dX10_takes_25 rfl rfl rfl ?_
    exact go_rz dX10_takes_26 rfl (by rfl) (by rw [c_13, Int32.add_zero]; exact sp_sp M s s)
  · refine go_iconst (q := 17) (v := 1) dX10_takes_16 (by decide) rfl ?_
    refine go_goto (q := 21) dX10_takes_17 (by decide) ?_
    refine go_iadd (q := 22) dX10_takes_21 rfl ?_
    refine go_puti (q := 25) dX10_takes_22 pRX10_149 rfl (by decide) rfl rfl rfl (Nat.le_of_ble_eq_true rfl) rfl ?_
    refine go_iload_n (q := 26) dX10_takes_25 rfl rfl rfl ?_
    exact go_rz dX10_takes_26 rfl (by rfl) (by rw [c_13, nI_1]; exact sp_sp M s (s + 1))
def dV (n : Nat) (c : Nat → Nat) (s h : Nat) : Int32 := if isB (ch n c s) 48 (48 + h) = true then nI (ch n c s) - 48 else -4
def dS (n : Nat) (c : Nat → Nat) (s h : Nat) : Nat := if isB (ch n c s) 48 (48 + h) = true then s + 1 else s
theorem dS_le (n : Nat) (c : Nat → Nat) (s h : Nat) : dS n c s h ≤ s + 1 := by unfold dS; split <;> omega
theorem ok_mdigit {M : KM} {n : Nat} {c : Nat → Nat} (hP : PZ M n c) {s : Nat} (hs : s < 2 ^ 30) {h : Nat} (hh : h < 100) : OkF mX10_digit [vR 14 0, vI (nI h)] (sp M s) (some (vI (dV n c s h))) (sp M (dS n c s h)) := by
  refine ok_of (by decide) rfl (Nat.le_of_ble_eq_true rfl) ⟨rfl, rfl⟩ ?_
  show Go mX10_digit (Zm (QF (some (vI (dV n c s h))) (sp M (dS n c s h)))) (sp M s) [some (vR 14 0), some (vI (nI h))] [] 0
  refine go_aload_n (q := 1) dX10_digit_0 rfl rfl rfl ?_
  refine go_bipush (q := 3) (v := 48) dX10_digit_1 (by decide) rfl ?_
  refine go_bipush (q := 5) (v := 48) dX10_digit_3 (by decide) rfl ?_
  refine go_iload_n (q := 6) dX10_digit_5 rfl rfl rfl ?_
  refine go_iadd (q := 7) dX10_digit_6 rfl ?_
  refine go_topi (nI_add 48 h) ?_
  refine go_cV2 (cal := mX10_sees) (q := 10) dX10_digit_7 lRX10_152 vX10_sees ⟨by decide, by decide⟩ rfl (by decide) (Nat.le_of_ble_eq_true rfl) (ok_msees hP hs (a := 48) (b := 48 + h) (by decide) (by decide) (by omega)) rfl ?_
  refine go_if_neB (q := 13) (t := 16) dX10_digit_10 (by decide) rfl (fun c_10 => ?_) (fun c_10 => ?_)
  · refine go_aload_n (q := 17) dX10_digit_16 rfl rfl rfl ?_
    refine go_dup (q := 18) dX10_digit_17 rfl rfl ?_
    refine go_getf (q := 21) dX10_digit_18 fRX10_149 rfl (by decide) rfl rfl ?_
    refine go_topi (sg ..) ?_
    refine go_iconst (q := 22) (v := 1) dX10_digit_21 (by decide) rfl ?_
    refine go_iadd (q := 23) dX10_digit_22 rfl ?_
    refine go_topi (nI_1 s) ?_
    refine go_puti (q := 26) dX10_digit_23 pRX10_149 rfl (by decide) rfl rfl rfl (Nat.le_of_ble_eq_true rfl) rfl ?_
    rw [sp_sp]
    refine go_aload_n (q := 27) dX10_digit_26 rfl rfl rfl ?_
    refine go_getf (q := 30) dX10_digit_27 fRX10_19 rfl (by decide) rfl rfl ?_
    refine go_aload_n (q := 31) dX10_digit_30 rfl rfl rfl ?_
    refine go_getf (q := 34) dX10_digit_31 fRX10_149 rfl (by decide) rfl rfl ?_
    refine go_topi (sg ..) ?_
    refine go_iconst (q := 35) (v := 1) dX10_digit_34 (by decide) rfl ?_
    refine go_isub (q := 36) dX10_digit_35 rfl ?_
    refine go_topi (v := nI s) dn_m1 ?_
    refine go_iald (q := 37) s dX10_digit_36 rfl rfl (by decide) rfl (by have := isB_n (by decide) c_10; have := hP.2.1; omega) rfl ?_
    refine go_topi (sp_c hP (s + 1) (isB_n (by decide) c_10)) ?_
    refine go_bipush (q := 39) (v := 48) dX10_digit_37 (by decide) rfl ?_
    refine go_isub (q := 40) dX10_digit_39 rfl ?_
    exact go_ri dX10_digit_40 rfl (by unfold dV; rw [if_pos c_10, ch_in (isB_n (by decide) c_10)]) (by unfold dS; rw [if_pos c_10])
  · refine go_bipush (q := 15) (v := (-4)) dX10_digit_13 (by decide) rfl ?_
    exact go_ri dX10_digit_15 rfl (by unfold dV; rw [c_10]; rfl) (by unfold dS; rw [c_10]; rfl)
def nV (n : Nat) (c : Nat → Nat) (s : Nat) : Int32 := if (dV n c s 9 = 1 ∧ isB (ch n c (dS n c s 9)) 48 57 = true) then 10 + dV n c (dS n c s 9) 9 else dV n c s 9
def nS (n : Nat) (c : Nat → Nat) (s : Nat) : Nat := if (dV n c s 9 = 1 ∧ isB (ch n c (dS n c s 9)) 48 57 = true) then dS n c (dS n c s 9) 9 else dS n c s 9
theorem ok_mnumber {M : KM} {n : Nat} {c : Nat → Nat} (hP : PZ M n c) {s : Nat} (hs : s < 2 ^ 30) (hs2 : s + 1 < 2 ^ 30) : OkF mX10_number [vR 14 0] (sp M s) (some (vI (nV n c s))) (sp M (nS n c s)) := by
  refine ok_of (by decide) rfl (Nat.le_of_ble_eq_true rfl) ⟨rfl, rfl⟩ ?_
  show Go mX10_number (Zm (QF (some (vI (nV n c s))) (sp M (nS n c s)))) (sp M s) [some (vR 14 0), none] [] 0
  refine go_aload_n (q := 1) dX10_number_0 rfl rfl rfl ?_
  refine go_bipush (q := 3) (v := 9) dX10_number_1 (by decide) rfl ?_
  refine go_cV1 (cal := mX10_digit) (q := 6) dX10_number_3 lRX10_155 vX10_digit ⟨by decide, by decide⟩ rfl (by decide) (Nat.le_of_ble_eq_true rfl) (ok_mdigit hP hs (h := 9) (by decide)) rfl ?_
  refine go_istore_n (q := 7) dX10_number_6 rfl (by decide) rfl rfl ?_
  refine go_iload_n (q := 8) dX10_number_7 rfl rfl rfl ?_
  refine go_iconst (q := 9) (v := 1) dX10_number_8 (by decide) rfl ?_
  refine go_icmp_ne (q := 12) (t := 33) dX10_number_9 (by decide) rfl (fun c_9 => ?_) (fun c_9 => ?_)
  · refine go_iload_n (q := 34) dX10_number_33 rfl rfl rfl ?_
    exact go_ri dX10_number_34 rfl (by have h9 : ¬ (dV n c s 9 = 1 ∧ isB (ch n c (dS n c s 9)) 48 57 = true) := fun z => c_9 z.1; unfold nV; rw [if_neg h9]) (by have h9 : ¬ (dV n c s 9 = 1 ∧ isB (ch n c (dS n c s 9)) 48 57 = true) := fun z => c_9 z.1; unfold nS; rw [if_neg h9])
  · refine go_aload_n (q := 13) dX10_number_12 rfl rfl rfl ?_
    refine go_bipush (q := 15) (v := 48) dX10_number_13 (by decide) rfl ?_
    refine go_bipush (q := 17) (v := 57) dX10_number_15 (by decide) rfl ?_
    refine go_cV2 (cal := mX10_sees) (q := 20) dX10_number_17 lRX10_152 vX10_sees ⟨by decide, by decide⟩ rfl (by decide) (Nat.le_of_ble_eq_true rfl) (ok_msees hP (s := dS n c s 9) (by have := dS_le n c s 9; omega) (a := 48) (b := 57) (by decide) (by decide) (by decide)) rfl ?_
    refine go_if_eqB (q := 23) (t := 33) dX10_number_20 (by decide) rfl (fun c_20 => ?_) (fun c_20 => ?_)
    · refine go_iload_n (q := 34) dX10_number_33 rfl rfl rfl ?_
      exact go_ri dX10_number_34 rfl (by have h9 : ¬ (dV n c s 9 = 1 ∧ isB (ch n c (dS n c s 9)) 48 57 = true) := fun z => (by rw [c_20] at z; exact absurd z.2 (by decide)); unfold nV; rw [if_neg h9]) (by have h9 : ¬ (dV n c s 9 = 1 ∧ isB (ch n c (dS n c s 9)) 48 57 = true) := fun z => (by rw [c_20] at z; exact absurd z.2 (by decide)); unfold nS; rw [if_neg h9])
    · refine go_bipush (q := 25) (v := 10) dX10_number_23 (by decide) rfl ?_
      refine go_aload_n (q := 26) dX10_number_25 rfl rfl rfl ?_
      refine go_bipush (q := 28) (v := 9) dX10_number_26 (by decide) rfl ?_
      refine go_cV1 (cal := mX10_digit) (q := 31) dX10_number_28 lRX10_155 vX10_digit ⟨by decide, by decide⟩ rfl (by decide) (Nat.le_of_ble_eq_true rfl) (ok_mdigit hP (s := dS n c s 9) (by have := dS_le n c s 9; omega) (h := 9) (by decide)) rfl ?_
      refine go_iadd (q := 32) dX10_number_31 rfl ?_
      refine go_istore_n (q := 33) dX10_number_32 rfl (by decide) rfl rfl ?_
      refine go_iload_n (q := 34) dX10_number_33 rfl rfl rfl ?_
      exact go_ri dX10_number_34 rfl (by have h9 : (dV n c s 9 = 1 ∧ isB (ch n c (dS n c s 9)) 48 57 = true) := ⟨Classical.not_not.mp c_9, c_20⟩; unfold nV; rw [if_pos h9]) (by have h9 : (dV n c s 9 = 1 ∧ isB (ch n c (dS n c s 9)) 48 57 = true) := ⟨Classical.not_not.mp c_9, c_20⟩; unfold nS; rw [if_pos h9])
def SHQ (M : KM) (n : Nat) (c : Nat → Nat) (s : Nat) : Option KV → KM → Prop := fun r M' => (∃ k, k < 6 ∧ (∀ i, i < k → isB (ch n c (s + i)) 48 52 = true) ∧ isB (ch n c (s + k)) 48 52 = false ∧ r = some (vI (-4)) ∧ M' = sp M (s + k)) ∨ ((∀ i, i < 6 → isB (ch n c (s + i)) 48 52 = true) ∧ r = some (vI (shAt n c s 6)) ∧ M' = sp M (s + 6))
theorem nI_s48 {x : Nat} (h : 48 ≤ x) : nI x - 48 = nI (x - 48) := by
  rw [show nI x = nI (x - 48) + 48 from by rw [show (48 : Int32) = nI 48 from rfl, nI_add, Nat.sub_add_cancel h], Int32.add_sub_cancel]
theorem isB_ge {x a b : Nat} (h : isB x a b = true) : a ≤ x ∧ x ≤ b := by
  unfold isB at h
  rw [Bool.and_eq_true, decide_eq_true_iff, decide_eq_true_iff] at h
  exact h
theorem dV_t {n : Nat} {c : Nat → Nat} {s h : Nat} (e : isB (ch n c s) 48 (48 + h) = true) : dV n c s h = nI (ch n c s) - 48 := if_pos e
theorem dV_f {n : Nat} {c : Nat → Nat} {s h : Nat} (e : isB (ch n c s) 48 (48 + h) = false) : dV n c s h = -4 := if_neg (by rw [e]; decide)
theorem dS_t {n : Nat} {c : Nat → Nat} {s h : Nat} (e : isB (ch n c s) 48 (48 + h) = true) : dS n c s h = s + 1 := if_pos e
theorem dS_f {n : Nat} {c : Nat → Nat} {s h : Nat} (e : isB (ch n c s) 48 (48 + h) = false) : dS n c s h = s := if_neg (by rw [e]; decide)
theorem d_ne4 {x : Nat} (h : 48 ≤ x) (h2 : x < 1000) : ¬ nI x - 48 = (-4 : Int32) := by
  rw [nI_s48 h]; exact nI_neg (by omega) (by decide)
theorem dV_4 {M : KM} {n : Nat} {c : Nat → Nat} (hP : PZ M n c) {s h : Nat} (e : dV n c s h = -4) : isB (ch n c s) 48 (48 + h) = false := by
  cases h1 : isB (ch n c s) 48 (48 + h) with
  | false => rfl
  | true =>
    rw [dV_t h1] at e
    exact absurd e (d_ne4 (isB_ge h1).1 (by have := chZ hP s; omega))
theorem dV_n4 {n : Nat} {c : Nat → Nat} {s h : Nat} (e : ¬ dV n c s h = -4) : isB (ch n c s) 48 (48 + h) = true := by
  cases h1 : isB (ch n c s) 48 (48 + h) with
  | true => rfl
  | false => exact absurd (dV_f h1) e
theorem lp_mshield {M : KM} {n : Nat} {c : Nat → Nat} (hP : PZ M n c) {s : Nat} (hs : s < 1000) : ∀ (d : Nat) (k : Nat) (x y : Int32), 6 - k < d → (x = shAt n c s k) → (y = nI k) → (k ≤ 6) → (∀ i, i < k → isB (ch n c (s + i)) 48 52 = true) → Go mX10_readShield (Zm (SHQ M n c s)) (sp M (s + k)) [some (vR 14 0), some (vI x), some (vI y), none] [] 4 := by
  intro d
  induction d with
  | zero => intro k x y hd; exact absurd hd (Nat.not_lt_zero _)
  | succ d ih =>
    intro k x y hd h0 h1 h2 h3
    refine go_iload_n (q := 5) dX10_readShield_4 rfl rfl rfl ?_
    refine go_bipush (q := 7) (v := 6) dX10_readShield_5 (by decide) rfl ?_
    refine go_icmp_geN k 6 (q := 10) (t := 40) dX10_readShield_7 (by decide) rfl h1 rfl (by omega) (by omega) (fun c_7 => ?_) (fun c_7 => ?_)
    · refine go_iload_n (q := 41) dX10_readShield_40 rfl rfl rfl ?_
      exact go_ireti dX10_readShield_41 rfl (Or.inr ⟨fun i hi => h3 i (by omega), by rw [h0, show k = 6 by omega], by rw [show k = 6 by omega]⟩)
    · subst h1
      refine go_aload_n (q := 11) dX10_readShield_10 rfl rfl rfl ?_
      refine go_iconst (q := 12) (v := 4) dX10_readShield_11 (by decide) rfl ?_
      refine go_cV1 (cal := mX10_digit) (q := 15) dX10_readShield_12 lRX10_155 vX10_digit ⟨by decide, by decide⟩ rfl (by decide) (Nat.le_of_ble_eq_true rfl) (ok_mdigit hP (s := s + k) (by omega) (h := 4) (by decide)) rfl ?_
      refine go_istore_n (q := 16) dX10_readShield_15 rfl (by decide) rfl rfl ?_
      refine go_iload_n (q := 17) dX10_readShield_16 rfl rfl rfl ?_
      refine go_bipush (q := 19) (v := (-4)) dX10_readShield_17 (by decide) rfl ?_
      refine go_icmp_ne (q := 22) (t := 25) dX10_readShield_19 (by decide) rfl (fun c_19 => ?_) (fun c_19 => ?_)
      · have ht := dV_n4 (h := 4) c_19
        rw [dS_t ht, dV_t ht]
        refine go_iload_n (q := 26) dX10_readShield_25 rfl rfl rfl ?_
        refine go_iload_n (q := 27) dX10_readShield_26 rfl rfl rfl ?_
        refine go_iload_n (q := 28) dX10_readShield_27 rfl rfl rfl ?_
        refine go_cS1 (cal := mX10_power) (q := 31) dX10_readShield_28 lRX10_49 vX10_power ⟨by decide, by decide⟩ (Nat.le_of_ble_eq_true rfl) (ok_mpower c_7) rfl ?_
        refine go_imul (q := 32) dX10_readShield_31 rfl ?_
        refine go_iadd (q := 33) dX10_readShield_32 rfl ?_
        refine go_istore_n (q := 34) dX10_readShield_33 rfl (by decide) rfl rfl ?_
        refine go_iinc (q := 37) (v := 1) dX10_readShield_34 (by decide) rfl (by decide) rfl rfl ?_
        refine go_goto (q := 4) dX10_readShield_37 (by decide) ?_
        refine go_weak (l1 := [some (vR 14 0), some (vI _), some (vI _), none]) (k_le_s (k_le_s (k_le_s (k_le_n k_le_nil)))) ?_
        exact ih (k + 1) _ _ (by omega) (by rw [h0]; rfl) (nI_1 k) (by omega) (fun i hi => if e : i = k then e ▸ ht else h3 i (by omega))
      · have hf := dV_4 hP (h := 4) (Classical.not_not.mp c_19)
        rw [dS_f hf]
        refine go_bipush (q := 24) (v := (-4)) dX10_readShield_22 (by decide) rfl ?_
        exact go_ireti dX10_readShield_24 rfl (Or.inl ⟨k, c_7, h3, hf, rfl, rfl⟩)
theorem ok_mreadShield {M : KM} {n : Nat} {c : Nat → Nat} (hP : PZ M n c) {s : Nat} (hs : s < 1000) : Ok mX10_readShield [vR 14 0] (sp M s) (SHQ M n c s) := by
  refine ok_of (by decide) rfl (Nat.le_of_ble_eq_true rfl) ⟨rfl, rfl⟩ ?_
  show Go mX10_readShield (Zm (SHQ M n c s)) (sp M s) [some (vR 14 0), none, none, none] [] 0
  refine go_iconst (q := 1) (v := 0) dX10_readShield_0 (by decide) rfl ?_
  refine go_istore_n (q := 2) dX10_readShield_1 rfl (by decide) rfl rfl ?_
  refine go_iconst (q := 3) (v := 0) dX10_readShield_2 (by decide) rfl ?_
  refine go_istore_n (q := 4) dX10_readShield_3 rfl (by decide) rfl rfl ?_
  exact lp_mshield hP hs 7 0 _ _ (by omega) rfl rfl (by omega) (fun i hi => absurd hi (Nat.not_lt_zero _))
theorem sA_0 (t : Nat) : sA t 0 = none := by
  unfold sA
  split <;> first | rfl | (rw [isB_0 (by decide)]; rfl)
theorem sA_59 {t : Nat} (h0 : t ≠ 0) (h14 : t ≠ 14) : sA t 59 = none := by
  unfold sA
  split <;> first | rfl | (exact absurd rfl h0) | (exact absurd rfl h14) | (rw [show isB 59 48 52 = false from by decide]; rfl)
theorem st_go {n : Nat} {c : Nat → Nat} {s t u : Nat} (h : run c s = .inl t) (hu : sA t (ch n c s) = some u) : s < n ∧ run c (s + 1) = .inl u := by
  by_cases e : s < n
  · refine ⟨e, ?_⟩
    rw [ch_in e] at hu
    unfold run
    rw [h]; simp only; rw [hu]
  · rw [ch_out (by omega), sA_0] at hu; cases hu
theorem st_no {n : Nat} {c : Nat → Nat} {s t : Nat} (h : run c s = .inl t) (hs : s ≤ n) (hu : sA t (ch n c s) = none) (hf : s < n ∨ (t ≠ 0 ∧ t ≠ 14)) : pfault n c = some s := by
  by_cases e : s < n
  · rw [ch_in e] at hu
    have h1 : run c (s + 1) = .inr s := by
      unfold run
      rw [h]; simp only; rw [hu]
    unfold pfault
    rw [run_inr h1 n e]
  · obtain rfl : s = n := by omega
    unfold pfault
    rw [h]
    simp only
    rcases hf with hf | hf
    · omega
    · rw [if_neg (fun z => by omega)]
theorem st_59 {n : Nat} {c : Nat → Nat} {s t u : Nat} (h0 : t ≠ 0) (h14 : t ≠ 14) (hs : s < n) (hu : sA t (ch n c s) = some u) : c s ≠ 59 := fun e => by
  rw [ch_in hs, e, sA_59 h0 h14] at hu; cases hu
/-- a number read: where the automaton is -/
theorem num_sp {M : KM} {n : Nat} {c : Nat → Nat} (hP : PZ M n c) {s q a b : Nat} (hs : s ≤ n) (hr : run c s = .inl q) (hq : (q = 8 ∧ a = 9 ∧ b = 10) ∨ (q = 13 ∧ a = 14 ∧ b = 0)) :
    (nV n c s = -4 ∧ nS n c s = s ∧ pfault n c = some s) ∨
    (¬ nV n c s = -4 ∧ s + 1 ≤ nS n c s ∧ nS n c s ≤ n ∧ nS n c s ≤ s + 2 ∧ (∀ x, s ≤ x → x < nS n c s → c x ≠ 59) ∧ ((run c (nS n c s) = .inl a ∧ isB (ch n c (nS n c s)) 48 57 = false) ∨ run c (nS n c s) = .inl b) ∧ (isB (ch n c (nS n c s)) 48 57 = false → nV n c s = nuAt n c s ∧ nS n c s = afAt n c s)) := by
  have hsq : ∀ x, sA q x = sDig x a b := fun x => by
    rcases hq with ⟨rfl, rfl, rfl⟩ | ⟨rfl, rfl, rfl⟩ <;> rfl
  have hsa : ∀ x, isB x 48 57 = true → sA a x = some b := fun x hx => by
    rcases hq with ⟨rfl, rfl, rfl⟩ | ⟨rfl, rfl, rfl⟩ <;> exact if_pos hx
  have hq0 : q ≠ 0 ∧ q ≠ 14 := by omega
  have ha0 : a ≠ 0 := by omega
  cases h1 : isB (ch n c s) 48 57 with
  | false =>
    left
    have hv : dV n c s 9 = -4 := dV_f h1
    have h9 : ¬ (dV n c s 9 = 1 ∧ isB (ch n c (dS n c s 9)) 48 57 = true) := fun z => by rw [hv] at z; exact absurd z.1 (by decide)
    refine ⟨by unfold nV; rw [if_neg h9]; exact hv, by unfold nS; rw [if_neg h9]; exact dS_f h1, st_no hr hs (by rw [hsq]; unfold sDig; rw [if_pos h1]) (Or.inr hq0)⟩
  | true =>
    right
    have hx := isB_ge h1
    have hsn : s < n := isB_n (by decide) h1
    have hv : dV n c s 9 = nI (ch n c s) - 48 := dV_t h1
    have hd : dS n c s 9 = s + 1 := dS_t h1
    have h59 : c s ≠ 59 := fun e => by rw [ch_in hsn, e] at h1; exact absurd h1 (by decide)
    by_cases h49 : ch n c s = 49
    · have hst := st_go (n := n) hr (u := a) (by rw [hsq]; unfold sDig; rw [if_neg (by rw [h1]; decide), if_pos h49])
      have hv1 : dV n c s 9 = 1 := by rw [hv, h49]; decide
      cases h2 : isB (ch n c (s + 1)) 48 57 with
      | true =>
        have h9 : dV n c s 9 = 1 ∧ isB (ch n c (dS n c s 9)) 48 57 = true := ⟨hv1, by rw [hd]; exact h2⟩
        have hs1 : s + 1 < n := isB_n (by decide) h2
        have en : nS n c s = s + 2 := by unfold nS; rw [if_pos h9, hd]; exact dS_t h2
        have ev : nV n c s = 10 + (nI (ch n c (s + 1)) - 48) := by unfold nV; rw [if_pos h9, hd, dV_t h2]
        have hst2 := st_go (n := n) hst.2 (u := b) (hsa _ h2)
        refine ⟨?_, by omega, by omega, by omega, fun x hx1 hx2 => ?_, Or.inr (by rw [en]; exact hst2.2), fun _ => ⟨?_, ?_⟩⟩
        · have := isB_ge h2
          rw [ev, nI_s48 this.1, show (10 : Int32) = nI 10 from rfl, nI_add]; exact nI_neg (by omega) (by decide)
        · rcases (show x = s ∨ x = s + 1 by omega) with rfl | rfl
          · exact h59
          · intro e; rw [ch_in hs1, e] at h2; exact absurd h2 (by decide)
        · rw [ev]; unfold nuAt; rw [if_pos h2, h49]; rfl
        · rw [en]; unfold afAt; rw [if_pos h2]
      | false =>
        have h9 : ¬ (dV n c s 9 = 1 ∧ isB (ch n c (dS n c s 9)) 48 57 = true) := fun z => by rw [hd, h2] at z; exact absurd z.2 (by decide)
        have en : nS n c s = s + 1 := by unfold nS; rw [if_neg h9]; exact hd
        have ev : nV n c s = nI (ch n c s) - 48 := by unfold nV; rw [if_neg h9]; exact hv
        refine ⟨by rw [ev]; exact d_ne4 hx.1 (by omega), by omega, by omega, by omega, fun x hx1 hx2 => ?_, Or.inl (by rw [en]; exact ⟨hst.2, h2⟩), fun _ => ⟨?_, ?_⟩⟩
        · rcases (show x = s by omega) with rfl
          exact h59
        · rw [ev]; unfold nuAt; rw [if_neg (by rw [h2]; decide)]
        · rw [en]; unfold afAt; rw [if_neg (by rw [h2]; decide)]
    · have hst := st_go (n := n) hr (u := b) (by rw [hsq]; unfold sDig; rw [if_neg (by rw [h1]; decide), if_neg h49])
      have h9 : ¬ (dV n c s 9 = 1 ∧ isB (ch n c (dS n c s 9)) 48 57 = true) := fun z => h49 (by
        have z1 := z.1
        rw [hv, nI_s48 hx.1] at z1
        have := (nI_eq (by omega) (by decide)).mp (show nI (ch n c s - 48) = nI 1 from z1)
        omega)
      have en : nS n c s = s + 1 := by unfold nS; rw [if_neg h9]; exact hd
      have ev : nV n c s = nI (ch n c s) - 48 := by unfold nV; rw [if_neg h9]; exact hv
      refine ⟨by rw [ev]; exact d_ne4 hx.1 (by omega), by omega, by omega, by omega, fun x hx1 hx2 => ?_, Or.inr (by rw [en]; exact hst.2), fun h2 => ⟨?_, ?_⟩⟩
      · rcases (show x = s by omega) with rfl
        exact h59
      · rw [en] at h2; rw [ev]; unfold nuAt; rw [if_neg (by rw [h2]; decide)]
      · rw [en] at h2; rw [en]; unfold afAt; rw [if_neg (by rw [h2]; decide)]
