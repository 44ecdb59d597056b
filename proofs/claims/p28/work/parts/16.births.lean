/-! ===== digits ===== -/
theorem dg_ext : ∀ (n a b : Nat), a < 5 ^ n → b < 5 ^ n → (∀ j, j < n → mk a j = mk b j) → a = b := by
  intro n
  induction n with
  | zero => intro a b ha hb _; simp at ha hb; omega
  | succ n ih =>
    intro a b ha hb h
    have h0 : a % 5 = b % 5 := by
      have := h 0 (by omega)
      unfold mk at this
      simpa using this
    have h1 : a / 5 = b / 5 := by
      refine ih (a / 5) (b / 5) ?_ ?_ (fun j hj => ?_)
      · rw [Nat.pow_succ] at ha; omega
      · rw [Nat.pow_succ] at hb; omega
      · have := h (j + 1) (by omega)
        unfold mk at this ⊢
        rw [Nat.pow_succ, Nat.mul_comm] at this
        rwa [← Nat.div_div_eq_div_mul, ← Nat.div_div_eq_div_mul] at this
    omega
theorem mk_ext {a b : Nat} (ha : a < 15625) (hb : b < 15625) (h : ∀ j, j < 6 → mk a j = mk b j) : a = b := dg_ext 6 a b ha hb h
theorem mk_wm {a k m : Nat} (ha : a < 15625) (hk : k < 6) (hm : m < 5) : mk (wm a k m) k = m := by
  unfold wm mk
  rcases (show k = 0 ∨ k = 1 ∨ k = 2 ∨ k = 3 ∨ k = 4 ∨ k = 5 by omega) with rfl | rfl | rfl | rfl | rfl | rfl <;> simp only [Nat.reducePow] <;> omega
theorem mk_wm_ne {a k m j : Nat} (ha : a < 15625) (hk : k < 6) (hm : m < 5) (hj : j < 6) (h : j ≠ k) : mk (wm a k m) j = mk a j := by
  unfold wm mk
  rcases (show k = 0 ∨ k = 1 ∨ k = 2 ∨ k = 3 ∨ k = 4 ∨ k = 5 by omega) with rfl | rfl | rfl | rfl | rfl | rfl <;> rcases (show j = 0 ∨ j = 1 ∨ j = 2 ∨ j = 3 ∨ j = 4 ∨ j = 5 by omega) with rfl | rfl | rfl | rfl | rfl | rfl <;> first | exact absurd rfl h | (simp only [Nat.reducePow]; omega)
theorem cn_pos {P : Nat → Bool} : ∀ {n k : Nat}, k < n → P k = true → 0 < cn P n
  | n + 1, k, hk, h => by
    by_cases e : k = n
    · subst e; rw [cn_t h]; omega
    · have := cn_pos (P := P) (n := n) (k := k) (by omega) h
      unfold cn; omega
theorem cn_two {P : Nat → Bool} : ∀ {n j k : Nat}, j < n → k < n → j ≠ k → P j = true → P k = true → 2 ≤ cn P n
  | n + 1, j, k, hj, hk, hne, h1, h2 => by
    by_cases e : j = n
    · subst e; rw [cn_t h1]; have := cn_pos (P := P) (n := j) (k := k) (by omega) h2; omega
    · by_cases e2 : k = n
      · subst e2; rw [cn_t h2]; have := cn_pos (P := P) (n := k) (k := j) (by omega) h1; omega
      · have := cn_two (P := P) (n := n) (j := j) (k := k) (by omega) (by omega) hne h1 h2
        unfold cn; omega
/-- who differs at k, and in one place alone, is the other with his own mark there -/
theorem ap_one {a b k : Nat} (ha : a < 15625) (hb : b < 15625) (hk : k < 6) (h1 : ap a b = 1) (hne : mk a k ≠ mk b k) : b = wm a k (mk b k) := by
  refine mk_ext hb (wm_lt ha hk (mk_lt b k)) (fun j hj => ?_)
  by_cases e : j = k
  · subst e; rw [mk_wm ha hk (mk_lt b j)]
  · rw [mk_wm_ne ha hk (mk_lt b k) hj e]
    exact Classical.byContradiction fun hx => by
      have h2 : 2 ≤ ap a b := cn_two hj hk e (by simpa using fun z => hx z.symm) (by simpa using hne)
      omega
theorem ap_wm {a k m : Nat} (ha : a < 15625) (hk : k < 6) (hm : m < 5) (h : mk a k ≠ m) : ap a (wm a k m) = 1 := by
  have h1 : 0 < ap a (wm a k m) := cn_pos (k := k) hk (by simp [mk_wm ha hk hm, h])
  have h2 : ap a (wm a k m) = cn (fun j => j == k) 6 := cn_congr (fun j hj => by
    by_cases e : j = k
    · subst e; simp [mk_wm ha hk hm, h]
    · simp [mk_wm_ne ha hk hm hj e, e])
  rw [h2]
  rcases (show k = 0 ∨ k = 1 ∨ k = 2 ∨ k = 3 ∨ k = 4 ∨ k = 5 by omega) with rfl | rfl | rfl | rfl | rfl | rfl <;> rfl
theorem cn_one {P : Nat → Bool} : ∀ {n : Nat}, (∀ i j, i < n → j < n → P i = true → P j = true → i = j) → cn P n = bN (fst1 P n).isSome
  | 0, _ => rfl
  | n + 1, h => by
    have h1 := cn_one (P := P) (n := n) (fun i j hi hj => h i j (by omega) (by omega))
    by_cases e : P n = true
    · have h2 : ∀ i, i < n → P i = false := fun i hi => by
        rw [← Bool.not_eq_true]
        intro z
        have := h i n (by omega) (by omega) z e
        omega
      rw [cn_t e, cn_0 h2, show fst1 P (n + 1) = some n from fst1_some.mpr ⟨by omega, e, h2⟩]; rfl
    · rw [Bool.not_eq_true] at e
      rw [cn_f e, h1]
      have h2 : fst1 P (n + 1) = fst1 P n := by
        show (match fst1 P n with | some k => some k | none => if P n = true then some n else none) = fst1 P n
        cases fst1 P n with
        | none => simp [e]
        | some k => rfl
      rw [h2]
theorem sm_add {F G : Nat → Nat} : ∀ {n : Nat}, sm (fun i => F i + G i) n = sm F n + sm G n
  | 0 => rfl
  | n + 1 => by
    show sm _ n + (F n + G n) = (sm F n + F n) + (sm G n + G n)
    rw [sm_add]; omega
theorem sm_congr {F G : Nat → Nat} : ∀ {n : Nat}, (∀ i, i < n → F i = G i) → sm F n = sm G n
  | 0, _ => rfl
  | n + 1, h => by
    show sm F n + F n = sm G n + G n
    rw [sm_congr (fun i hi => h i (by omega)), h n (by omega)]
theorem sm_ite {b v : Nat} : ∀ {n : Nat}, b < n → sm (fun m => if m = b then v else 0) n = v
  | n + 1, h => by
    show sm _ n + (if n = b then v else 0) = v
    by_cases e : n = b
    · subst e; rw [if_pos rfl, sm_0 (fun i hi => if_neg (by omega))]; omega
    · rw [if_neg e, sm_ite (by omega)]; rfl
theorem cn_part {P : Nat → Bool} {g : Nat → Nat} {c : Nat} (hg : ∀ i, g i < c) : ∀ {n : Nat}, cn P n = sm (fun m => cn (fun i => P i && g i == m) n) c
  | 0 => (sm_0 (fun _ _ => rfl)).symm
  | n + 1 => by
    have h1 := cn_part (P := P) hg (n := n)
    have h2 : sm (fun m => cn (fun i => P i && g i == m) (n + 1)) c = sm (fun m => cn (fun i => P i && g i == m) n + (if m = g n then (if P n = true then 1 else 0) else 0)) c := by
      refine sm_congr (fun m _ => ?_)
      show cn _ n + (if (P n && g n == m) = true then 1 else 0) = _
      congr 1
      by_cases e : m = g n
      · subst e; simp
      · have : ¬ g n = m := fun z => e z.symm
        simp [e, this]
    rw [h2, sm_add, sm_ite (hg n), ← h1]
    rfl
theorem cn_sm (P : Nat → Bool) : ∀ n, cn P n = sm (fun i => bN (P i)) n
  | 0 => rfl
  | n + 1 => by
    show cn P n + _ = sm _ n + _
    rw [cn_sm P n]; rfl
/-- how many changes are left, told by trying -/
def left1 (R : RO) (f : Nat) : Nat := cn (fun c => whyS R f (c / 5) (c % 5) == 0) 30
def lAp (R : RO) (f k : Nat) : Nat := cn (fun i => rL R i && (ap (rS R f) (rS R i) == 1 && mk (rS R i) k != mk (rS R f) k)) (rN R)
theorem cn_s {P : Nat → Bool} {n : Nat} : cn P (n + 1) = cn P n + if P n = true then 1 else 0 := rfl
theorem cn_blk {P : Nat → Nat → Bool} : ∀ (k m : Nat), m ≤ 5 → cn (fun c => P (c / 5) (c % 5)) (5 * k + m) = sm (fun k => cn (P k) 5) k + cn (P k) m := by
  intro k
  induction k with
  | zero =>
    intro m
    induction m with
    | zero => intro _; rfl
    | succ m ih2 =>
      intro hm
      have := ih2 (by omega)
      rw [show 5 * 0 + (m + 1) = 5 * 0 + m + 1 from rfl, cn_s, this]
      show _ + (if P ((5 * 0 + m) / 5) ((5 * 0 + m) % 5) = true then 1 else 0) = _
      rw [show (5 * 0 + m) / 5 = 0 by omega, show (5 * 0 + m) % 5 = m by omega]
      show 0 + cn (P 0) m + _ = 0 + (cn (P 0) m + _)
      omega
  | succ k ih =>
    intro m
    induction m with
    | zero =>
      intro _
      rw [show 5 * (k + 1) + 0 = 5 * k + 5 by omega, ih 5 (by omega)]
      rfl
    | succ m ih2 =>
      intro hm
      have := ih2 (by omega)
      rw [show 5 * (k + 1) + (m + 1) = 5 * (k + 1) + m + 1 from rfl, cn_s, this]
      show _ + (if P ((5 * (k + 1) + m) / 5) ((5 * (k + 1) + m) % 5) = true then 1 else 0) = _
      rw [show (5 * (k + 1) + m) / 5 = k + 1 by omega, show (5 * (k + 1) + m) % 5 = m by omega]
      show _ + cn (P (k + 1)) m + _ = _ + (cn (P (k + 1)) m + _)
      omega
theorem left1_sm (R : RO) (f : Nat) : left1 R f = sm (fun k => cn (fun m => whyS R f k m == 0) 5) 6 := by
  have := cn_blk (P := fun k m => whyS R f k m == 0) 6 0 (by omega)
  exact this
theorem cn_not {P : Nat → Bool} : ∀ {n : Nat}, cn (fun i => !P i) n + cn P n = n
  | 0 => rfl
  | n + 1 => by
    have := cn_not (P := P) (n := n)
    unfold cn
    cases P n <;> simp <;> omega
theorem lAp_eq {R : RO} (hW : rW R) {f k : Nat} (hf : f < rN R) (hk : k < 6) : lAp R f k = cn (fun m => (bear R (wm (rS R f) k m)).isSome && m != mk (rS R f) k) 5 := by
  have hs := hW.2.1 f hf
  unfold lAp
  rw [cn_part (P := fun i => rL R i && (ap (rS R f) (rS R i) == 1 && mk (rS R i) k != mk (rS R f) k)) (g := fun i => mk (rS R i) k) (c := 5) (fun i => mk_lt _ _), cn_sm]
  refine sm_congr (fun m hm => ?_)
  by_cases e : m = mk (rS R f) k
  · rw [cn_0 (fun i hi => by
      by_cases e2 : mk (rS R i) k = m
      · simp [e2, e]
      · simp [e2])]
    simp [e, bN]
  · have h1 : cn (fun i => rL R i && (ap (rS R f) (rS R i) == 1 && mk (rS R i) k != mk (rS R f) k) && mk (rS R i) k == m) (rN R) = cn (fun i => rL R i && rS R i == wm (rS R f) k m) (rN R) := cn_congr (fun i hi => by
      by_cases hl : rL R i = true
      · by_cases e2 : rS R i = wm (rS R f) k m
        · have h3 : mk (rS R i) k = m := by rw [e2]; exact mk_wm hs hk hm
          have h4 : ap (rS R f) (rS R i) = 1 := by rw [e2]; exact ap_wm hs hk hm (fun z => e z.symm)
          have h5 : (rS R i == wm (rS R f) k m) = true := by simpa using e2
          rw [h5, hl, h4, h3]
          simp [e]
        · have h5 : (rS R i == wm (rS R f) k m) = false := by simpa using e2
          rw [h5, hl]
          by_cases h6 : mk (rS R i) k = m
          · by_cases h7 : ap (rS R f) (rS R i) = 1
            · exact absurd (by rw [← h6]; exact ap_one hs (hW.2.1 i hi) hk h7 (by rw [h6]; exact fun z => e z.symm)) e2
            · simp [h7]
          · simp [h6]
      · simp [hl])
    rw [h1, cn_one (fun i j hi hj h2 h3 => by
      simp only [Bool.and_eq_true, beq_iff_eq] at h2 h3
      exact hW.2.2.2.2 i j hi hj h2.1 h3.1 (h2.2.trans h3.2.symm))]
    show bN (bear R _).isSome = _
    rw [show (m != mk (rS R f) k) = true from by simpa using e, Bool.and_true]
theorem free_eq {R : RO} (hW : rW R) {f k : Nat} (hf : f < rN R) (hk : k < 6) (hl : rL R f = true) (hs4 : sonsN R f < 4) (hc : cous R f k = false) : cn (fun m => whyS R f k m == 0) 5 + lAp R f k = 4 := by
  rw [lAp_eq hW hf hk]
  have hm0 := mk_lt (rS R f) k
  have h1 : cn (fun m => whyS R f k m == 0) 5 = cn (fun m => !((bear R (wm (rS R f) k m)).isSome && m != mk (rS R f) k || m == mk (rS R f) k)) 5 := cn_congr (fun m hm => by
    by_cases e : mk (rS R f) k = m
    · simp [whyS, hl, e]
    · have e' : ¬ m = mk (rS R f) k := fun z => e z.symm
      cases hb : bear R (wm (rS R f) k m) with
      | none => simp [whyS, hl, e, e', hb, hc, Nat.not_le.mpr hs4]
      | some p => simp [whyS, hl, e, e', hb])
  have h2 := cn_not (P := fun m => (bear R (wm (rS R f) k m)).isSome && m != mk (rS R f) k || m == mk (rS R f) k) (n := 5)
  have h3 : ∀ n, cn (fun m => (bear R (wm (rS R f) k m)).isSome && m != mk (rS R f) k || m == mk (rS R f) k) n = cn (fun m => (bear R (wm (rS R f) k m)).isSome && m != mk (rS R f) k) n + cn (fun m => m == mk (rS R f) k) n := by
    intro n
    induction n with
    | zero => rfl
    | succ n ih =>
      unfold cn
      rw [ih]
      by_cases e : n = mk (rS R f) k
      · simp [e]; omega
      · have e' : (n == mk (rS R f) k) = false := by simpa using e
        simp only [e', Bool.or_false]
        split <;> simp <;> omega
  have h4 : cn (fun m => m == mk (rS R f) k) 5 = 1 := by
    rcases (show mk (rS R f) k = 0 ∨ mk (rS R f) k = 1 ∨ mk (rS R f) k = 2 ∨ mk (rS R f) k = 3 ∨ mk (rS R f) k = 4 by omega) with e | e | e | e | e <;> rw [e] <;> rfl
  have h5 := h3 5
  omega
theorem left1_dead {R : RO} {f : Nat} (h : rL R f = false) : left1 R f = 0 := cn_0 (fun c hc => by simp [whyS, h])
theorem left1_sons {R : RO} {f : Nat} (h : 4 ≤ sonsN R f) : left1 R f = 0 := cn_0 (fun c hc => by
  have : ¬ whyS R f (c / 5) (c % 5) = 0 := by
    unfold whyS
    repeat' split
    all_goals omega
  simpa using this)
theorem free_cous {R : RO} {f k : Nat} (h : cous R f k = true) : cn (fun m => whyS R f k m == 0) 5 = 0 := cn_0 (fun m hm => by
  have : ¬ whyS R f k m = 0 := by
    unfold whyS
    rw [h]
    repeat' split
    all_goals first | omega | simp_all
  simpa using this)
theorem lp_lAp {M : KM} {i : Nat} {R : RO} (hi : i < 8) (hR : RA M i R) (hW : rW R) {f : Nat} (hf : f < rN R) {k : Nat} (hk : k < 6) : ∀ (d : Nat) (j : Nat) (x y : Int32), rN R - j < d → (x = nI (cn (fun i => rL R i && (ap (rS R f) (rS R i) == 1 && mk (rS R i) k != mk (rS R f) k)) j)) → (y = nI j) → (j ≤ rN R) → Go mX1_livingApartAt (Zm (QF (some (vI (nI (lAp R f k)))) M)) M [some (vR 1 i), some (vI (nI f)), some (vI (nI k)), some (vI (nI (rS R f))), some (vI (nI (mk (rS R f) k))), some (vI x), some (vI y), none] [] 19 := by
  intro d
  induction d with
  | zero => intro j x y hd; exact absurd hd (Nat.not_lt_zero _)
  | succ d ih =>
    intro j x y hd h0 h1 h2
    refine go_iload (q := 21) dX1_livingApartAt_19 rfl rfl ?_
    refine go_aload_n (q := 22) dX1_livingApartAt_21 rfl rfl rfl ?_
    refine go_cV0 (cal := mX6_size) (q := 25) dX1_livingApartAt_22 lRX1_42 vX6_size ⟨by decide, by decide⟩ rfl hi (Nat.le_of_ble_eq_true rfl) (ok_size hi hR) rfl ?_
    refine go_icmp_geN j (rN R) (q := 28) (t := 75) dX1_livingApartAt_25 (by decide) rfl h1 rfl (by have := hR.le; omega) (by have := hR.le; omega) (fun c_25 => ?_) (fun c_25 => ?_)
    · refine go_iload (q := 77) dX1_livingApartAt_75 rfl rfl ?_
      exact go_ri dX1_livingApartAt_77 rfl (by rw [h0, show j = rN R by omega]; rfl) rfl
    · subst h1
      refine go_aload_n (q := 29) dX1_livingApartAt_28 rfl rfl rfl ?_
      refine go_iload (q := 31) dX1_livingApartAt_29 rfl rfl ?_
      refine go_cV1 (cal := mX6_shieldOf) (q := 34) dX1_livingApartAt_31 lRX1_33 vX6_shieldOf ⟨by decide, by decide⟩ rfl hi (Nat.le_of_ble_eq_true rfl) (ok_shieldOf hi hR _) rfl ?_
      rw [pOf_at hR c_25, oS_some]
      refine go_istore (q := 36) dX1_livingApartAt_34 (by decide) rfl rfl ?_
      refine go_aload_n (q := 37) dX1_livingApartAt_36 rfl rfl rfl ?_
      refine go_iload (q := 39) dX1_livingApartAt_37 rfl rfl ?_
      refine go_cV1 (cal := mX6_isAlive) (q := 42) dX1_livingApartAt_39 lRX1_15 vX6_isAlive ⟨by decide, by decide⟩ rfl hi (Nat.le_of_ble_eq_true rfl) (ok_isAlive hi hR _) rfl ?_
      refine go_if_eqB (q := 45) (t := 69) dX1_livingApartAt_42 (by decide) rfl (fun c_42 => ?_) (fun c_42 => ?_)
      · rw [pOf_at hR c_25, oL_some] at c_42
        refine go_iinc (q := 72) (v := 1) dX1_livingApartAt_69 (by decide) rfl (by decide) rfl rfl ?_
        refine go_goto (q := 19) dX1_livingApartAt_72 (by decide) ?_
        refine go_weak (l1 := [some (vR 1 i), some (vI (nI f)), some (vI (nI k)), some (vI (nI (rS R f))), some (vI (nI (mk (rS R f) k))), some (vI _), some (vI _), none]) (k_le_s (k_le_s (k_le_s (k_le_s (k_le_s (k_le_s (k_le_s (k_le_n k_le_nil)))))))) ?_
        exact ih (j + 1) _ _ (by omega) (by rw [h0, cn_f (by simp [c_42])]) (nI_1 j) (by omega)
      · rw [pOf_at hR c_25, oL_some] at c_42
        refine go_iload_n (q := 46) dX1_livingApartAt_45 rfl rfl rfl ?_
        refine go_iload (q := 48) dX1_livingApartAt_46 rfl rfl ?_
        refine go_cS2 (cal := mX8_apart) (q := 51) dX1_livingApartAt_48 lRX1_46 vX8_apart ⟨by decide, by decide⟩ (Nat.le_of_ble_eq_true rfl) (ok_apart (by have := hW.2.1 f hf; omega) (by have := hW.2.1 j c_25; omega)) rfl ?_
        refine go_iconst (q := 52) (v := 1) dX1_livingApartAt_51 (by decide) rfl ?_
        refine go_icmp_neN (ap (rS R f) (rS R j)) 1 (q := 55) (t := 69) dX1_livingApartAt_52 (by decide) rfl rfl rfl (by have := ap_le (rS R f) (rS R j); omega) (by omega) (fun c_52 => ?_) (fun c_52 => ?_)
        · refine go_iinc (q := 72) (v := 1) dX1_livingApartAt_69 (by decide) rfl (by decide) rfl rfl ?_
          refine go_goto (q := 19) dX1_livingApartAt_72 (by decide) ?_
          refine go_weak (l1 := [some (vR 1 i), some (vI (nI f)), some (vI (nI k)), some (vI (nI (rS R f))), some (vI (nI (mk (rS R f) k))), some (vI _), some (vI _), none]) (k_le_s (k_le_s (k_le_s (k_le_s (k_le_s (k_le_s (k_le_s (k_le_n k_le_nil)))))))) ?_
          exact ih (j + 1) _ _ (by omega) (by rw [h0, cn_f (by simp [c_52])]) (nI_1 j) (by omega)
        · refine go_iload (q := 57) dX1_livingApartAt_55 rfl rfl ?_
          refine go_iload_n (q := 58) dX1_livingApartAt_57 rfl rfl rfl ?_
          refine go_cS2 (cal := mX8_markAt) (q := 61) dX1_livingApartAt_58 lRX1_36 vX8_markAt ⟨by decide, by decide⟩ (Nat.le_of_ble_eq_true rfl) (ok_markAt (by have := hW.2.1 j c_25; omega) hk) rfl ?_
          refine go_iload (q := 63) dX1_livingApartAt_61 rfl rfl ?_
          refine go_icmp_eqN (mk (rS R j) k) (mk (rS R f) k) (q := 66) (t := 69) dX1_livingApartAt_63 (by decide) rfl rfl rfl (by have := mk_lt (rS R j) k; omega) (by have := mk_lt (rS R f) k; omega) (fun c_63 => ?_) (fun c_63 => ?_)
          · refine go_iinc (q := 72) (v := 1) dX1_livingApartAt_69 (by decide) rfl (by decide) rfl rfl ?_
            refine go_goto (q := 19) dX1_livingApartAt_72 (by decide) ?_
            refine go_weak (l1 := [some (vR 1 i), some (vI (nI f)), some (vI (nI k)), some (vI (nI (rS R f))), some (vI (nI (mk (rS R f) k))), some (vI _), some (vI _), none]) (k_le_s (k_le_s (k_le_s (k_le_s (k_le_s (k_le_s (k_le_s (k_le_n k_le_nil)))))))) ?_
            exact ih (j + 1) _ _ (by omega) (by rw [h0, cn_f (by simp [c_63])]) (nI_1 j) (by omega)
          · refine go_iinc (q := 69) (v := 1) dX1_livingApartAt_66 (by decide) rfl (by decide) rfl rfl ?_
            refine go_iinc (q := 72) (v := 1) dX1_livingApartAt_69 (by decide) rfl (by decide) rfl rfl ?_
            refine go_goto (q := 19) dX1_livingApartAt_72 (by decide) ?_
            refine go_weak (l1 := [some (vR 1 i), some (vI (nI f)), some (vI (nI k)), some (vI (nI (rS R f))), some (vI (nI (mk (rS R f) k))), some (vI _), some (vI _), none]) (k_le_s (k_le_s (k_le_s (k_le_s (k_le_s (k_le_s (k_le_s (k_le_n k_le_nil)))))))) ?_
            exact ih (j + 1) _ _ (by omega) (by rw [h0, cn_t (by simp [c_42, c_52, c_63]), nI_1]) (nI_1 j) (by omega)
theorem ok_lAp {M : KM} {i : Nat} {R : RO} (hi : i < 8) (hR : RA M i R) (hW : rW R) {f : Nat} (hf : f < rN R) {k : Nat} (hk : k < 6) : OkF mX1_livingApartAt [vR 1 i, vI (nI f), vI (nI k)] M (some (vI (nI (lAp R f k)))) M := by
  refine ok_of (by decide) rfl (Nat.le_of_ble_eq_true rfl) ⟨rfl, rfl⟩ ?_
  show Go mX1_livingApartAt (Zm (QF (some (vI (nI (lAp R f k)))) M)) M [some (vR 1 i), some (vI (nI f)), some (vI (nI k)), none, none, none, none, none] [] 0
  refine go_aload_n (q := 1) dX1_livingApartAt_0 rfl rfl rfl ?_
  refine go_iload_n (q := 2) dX1_livingApartAt_1 rfl rfl rfl ?_
  refine go_cV1 (cal := mX6_shieldOf) (q := 5) dX1_livingApartAt_2 lRX1_33 vX6_shieldOf ⟨by decide, by decide⟩ rfl hi (Nat.le_of_ble_eq_true rfl) (ok_shieldOf hi hR _) rfl ?_
  rw [pOf_at hR hf, oS_some]
  refine go_istore_n (q := 6) dX1_livingApartAt_5 rfl (by decide) rfl rfl ?_
  refine go_iload_n (q := 7) dX1_livingApartAt_6 rfl rfl rfl ?_
  refine go_iload_n (q := 8) dX1_livingApartAt_7 rfl rfl rfl ?_
  refine go_cS2 (cal := mX8_markAt) (q := 11) dX1_livingApartAt_8 lRX1_36 vX8_markAt ⟨by decide, by decide⟩ (Nat.le_of_ble_eq_true rfl) (ok_markAt (by have := hW.2.1 f hf; omega) hk) rfl ?_
  refine go_istore (q := 13) dX1_livingApartAt_11 (by decide) rfl rfl ?_
  refine go_iconst (q := 14) (v := 0) dX1_livingApartAt_13 (by decide) rfl ?_
  refine go_istore (q := 16) dX1_livingApartAt_14 (by decide) rfl rfl ?_
  refine go_iconst (q := 17) (v := 0) dX1_livingApartAt_16 (by decide) rfl ?_
  refine go_istore (q := 19) dX1_livingApartAt_17 (by decide) rfl rfl ?_
  exact lp_lAp hi hR hW hf hk (rN R + 1) 0 _ _ (by omega) rfl rfl (by omega)
theorem lp_tryIn {M : KM} {i : Nat} {R : RO} (hi : i < 8) (hR : RA M i R) (hW : rW R) {f : Nat} (hf : f < rN R) {k : Nat} (hk : k < 6) (hout : ∀ (x : Int32), x = nI (cn (fun c => whyS R f (c / 5) (c % 5) == 0) (5 * (k + 1))) → Go mX1_leftByTrying (Zm (QF (some (vI (nI (left1 R f)))) M)) M [some (vR 1 i), some (vI (nI f)), some (vI x), some (vI (nI (k + 1))), none] [] 4) : ∀ (d : Nat) (m : Nat) (x y : Int32), 5 - m < d → (x = nI (cn (fun c => whyS R f (c / 5) (c % 5) == 0) (5 * k + m))) → (y = nI m) → (m ≤ 5) → Go mX1_leftByTrying (Zm (QF (some (vI (nI (left1 R f)))) M)) M [some (vR 1 i), some (vI (nI f)), some (vI x), some (vI (nI k)), some (vI y)] [] 13 := by
  intro d
  induction d with
  | zero => intro m x y hd; exact absurd hd (Nat.not_lt_zero _)
  | succ d ih =>
    intro m x y hd h0 h1 h2
    refine go_iload (q := 15) dX1_leftByTrying_13 rfl rfl ?_
    refine go_iconst (q := 16) (v := 5) dX1_leftByTrying_15 (by decide) rfl ?_
    refine go_icmp_geN m 5 (q := 19) (t := 39) dX1_leftByTrying_16 (by decide) rfl h1 rfl (by omega) (by omega) (fun c_16 => ?_) (fun c_16 => ?_)
    · refine go_iinc (q := 42) (v := 1) dX1_leftByTrying_39 (by decide) rfl (by decide) rfl rfl ?_
      refine go_goto (q := 4) dX1_leftByTrying_42 (by decide) ?_
      exact go_weak (l1 := [some (vR 1 i), some (vI (nI f)), some (vI x), some (vI (nI (k + 1))), none]) (by rw [← nI_1]; exact k_le_s (k_le_s (k_le_s (k_le_s (k_le_n k_le_nil))))) (hout x (by rw [h0, show 5 * k + m = 5 * (k + 1) by omega]))
    · subst h1
      have e1 : (5 * k + m) / 5 = k := by omega
      have e2 : (5 * k + m) % 5 = m := by omega
      refine go_aload_n (q := 20) dX1_leftByTrying_19 rfl rfl rfl ?_
      refine go_iload_n (q := 21) dX1_leftByTrying_20 rfl rfl rfl ?_
      refine go_iload_n (q := 22) dX1_leftByTrying_21 rfl rfl rfl ?_
      refine go_iload (q := 24) dX1_leftByTrying_22 rfl rfl ?_
      refine go_cV3 (cal := mX6_reasonAgainstSon) (q := 27) dX1_leftByTrying_24 lRX1_9 vX6_reasonAgainstSon ⟨by decide, by decide⟩ rfl hi (Nat.le_of_ble_eq_true rfl) (ok_reasonAgainstSon hi hR hW hf hk c_16) rfl ?_
      refine go_if_ne (q := 30) (t := 33) dX1_leftByTrying_27 (by decide) rfl (fun c_27 => ?_) (fun c_27 => ?_)
      · refine go_iinc (q := 36) (v := 1) dX1_leftByTrying_33 (by decide) rfl (by decide) rfl rfl ?_
        refine go_goto (q := 13) dX1_leftByTrying_36 (by decide) ?_
        exact ih (m + 1) _ _ (by omega) (by rw [h0, ← Nat.add_assoc, cn_f (by rw [e1, e2]; exact beq_eq_false_iff_ne.mpr (fun z => c_27 (by rw [z]; rfl)))]) (nI_1 m) (by omega)
      · refine go_iinc (q := 33) (v := 1) dX1_leftByTrying_30 (by decide) rfl (by decide) rfl rfl ?_
        refine go_iinc (q := 36) (v := 1) dX1_leftByTrying_33 (by decide) rfl (by decide) rfl rfl ?_
        refine go_goto (q := 13) dX1_leftByTrying_36 (by decide) ?_
        exact ih (m + 1) _ _ (by omega) (by rw [h0, ← Nat.add_assoc, cn_t (by rw [e1, e2]; exact beq_iff_eq.mpr ((nI_eq (whyS_big R f k m) (by decide)).mp (Classical.not_not.mp c_27))), nI_1]) (nI_1 m) (by omega)
theorem lp_try {M : KM} {i : Nat} {R : RO} (hi : i < 8) (hR : RA M i R) (hW : rW R) {f : Nat} (hf : f < rN R) : ∀ (d : Nat) (k : Nat) (x y : Int32), 6 - k < d → (x = nI (cn (fun c => whyS R f (c / 5) (c % 5) == 0) (5 * k))) → (y = nI k) → (k ≤ 6) → Go mX1_leftByTrying (Zm (QF (some (vI (nI (left1 R f)))) M)) M [some (vR 1 i), some (vI (nI f)), some (vI x), some (vI y), none] [] 4 := by
  intro d
  induction d with
  | zero => intro k x y hd; exact absurd hd (Nat.not_lt_zero _)
  | succ d ih =>
    intro k x y hd h0 h1 h2
    refine go_iload_n (q := 5) dX1_leftByTrying_4 rfl rfl rfl ?_
    refine go_bipush (q := 7) (v := 6) dX1_leftByTrying_5 (by decide) rfl ?_
    refine go_icmp_geN k 6 (q := 10) (t := 45) dX1_leftByTrying_7 (by decide) rfl h1 rfl (by omega) (by omega) (fun c_7 => ?_) (fun c_7 => ?_)
    · refine go_iload_n (q := 46) dX1_leftByTrying_45 rfl rfl rfl ?_
      exact go_ri dX1_leftByTrying_46 rfl (by rw [h0, show 5 * k = 30 by omega]; rfl) rfl
    · subst h1
      refine go_iconst (q := 11) (v := 0) dX1_leftByTrying_10 (by decide) rfl ?_
      refine go_istore (q := 13) dX1_leftByTrying_11 (by decide) rfl rfl ?_
      exact lp_tryIn hi hR hW hf c_7 (fun x hx => ih (k + 1) x _ (by omega) hx rfl (by omega)) 6 0 _ _ (by omega) h0 rfl (by omega)
theorem ok_leftByTrying {M : KM} {i : Nat} {R : RO} (hi : i < 8) (hR : RA M i R) (hW : rW R) {f : Nat} (hf : f < rN R) : OkF mX1_leftByTrying [vR 1 i, vI (nI f)] M (some (vI (nI (left1 R f)))) M := by
  refine ok_of (by decide) rfl (Nat.le_of_ble_eq_true rfl) ⟨rfl, rfl⟩ ?_
  show Go mX1_leftByTrying (Zm (QF (some (vI (nI (left1 R f)))) M)) M [some (vR 1 i), some (vI (nI f)), none, none, none] [] 0
  refine go_iconst (q := 1) (v := 0) dX1_leftByTrying_0 (by decide) rfl ?_
  refine go_istore_n (q := 2) dX1_leftByTrying_1 rfl (by decide) rfl rfl ?_
  refine go_iconst (q := 3) (v := 0) dX1_leftByTrying_2 (by decide) rfl ?_
  refine go_istore_n (q := 4) dX1_leftByTrying_3 rfl (by decide) rfl rfl ?_
  exact lp_try hi hR hW hf 7 0 _ _ (by omega) rfl rfl (by omega)
theorem lp_places {M : KM} {i : Nat} {R : RO} (hi : i < 8) (hR : RA M i R) (hW : rW R) {f : Nat} (hf : f < rN R) (hl : rL R f = true) (hs4 : sonsN R f < 4) : ∀ (d : Nat) (k : Nat) (x y : Int32), 6 - k < d → (x = nI (sm (fun k => cn (fun m => whyS R f k m == 0) 5) k)) → (y = nI k) → (k ≤ 6) → Go mX1_leftByPlaces (Zm (QF (some (vI (nI (left1 R f)))) M)) M [some (vR 1 i), some (vI (nI f)), some (vI x), some (vI y)] [] 23 := by
  intro d
  induction d with
  | zero => intro k x y hd; exact absurd hd (Nat.not_lt_zero _)
  | succ d ih =>
    intro k x y hd h0 h1 h2
    refine go_iload_n (q := 24) dX1_leftByPlaces_23 rfl rfl rfl ?_
    refine go_bipush (q := 26) (v := 6) dX1_leftByPlaces_24 (by decide) rfl ?_
    refine go_icmp_geN k 6 (q := 29) (t := 55) dX1_leftByPlaces_26 (by decide) rfl h1 rfl (by omega) (by omega) (fun c_26 => ?_) (fun c_26 => ?_)
    · refine go_iload_n (q := 56) dX1_leftByPlaces_55 rfl rfl rfl ?_
      exact go_ri dX1_leftByPlaces_56 rfl (by rw [h0, left1_sm, show k = 6 by omega]) rfl
    · subst h1
      refine go_aload_n (q := 30) dX1_leftByPlaces_29 rfl rfl rfl ?_
      refine go_iload_n (q := 31) dX1_leftByPlaces_30 rfl rfl rfl ?_
      refine go_iload_n (q := 32) dX1_leftByPlaces_31 rfl rfl rfl ?_
      refine go_cV2 (cal := mX6_cousinChanged) (q := 35) dX1_leftByPlaces_32 lRX1_23 vX6_cousinChanged ⟨by decide, by decide⟩ rfl hi (Nat.le_of_ble_eq_true rfl) (ok_cousinChanged hi hR hW hf c_26) rfl ?_
      refine go_if_neB (q := 38) (t := 49) dX1_leftByPlaces_35 (by decide) rfl (fun c_35 => ?_) (fun c_35 => ?_)
      · refine go_iinc (q := 52) (v := 1) dX1_leftByPlaces_49 (by decide) rfl (by decide) rfl rfl ?_
        refine go_goto (q := 23) dX1_leftByPlaces_52 (by decide) ?_
        exact ih (k + 1) _ _ (by omega) (by rw [h0]; show _ = nI (sm _ k + cn _ 5); rw [free_cous c_35]; rfl) (nI_1 k) (by omega)
      · have hfr := free_eq hW hf c_26 hl hs4 c_35
        refine go_iload_n (q := 39) dX1_leftByPlaces_38 rfl rfl rfl ?_
        refine go_iconst (q := 40) (v := 4) dX1_leftByPlaces_39 (by decide) rfl ?_
        refine go_aload_n (q := 41) dX1_leftByPlaces_40 rfl rfl rfl ?_
        refine go_iload_n (q := 42) dX1_leftByPlaces_41 rfl rfl rfl ?_
        refine go_iload_n (q := 43) dX1_leftByPlaces_42 rfl rfl rfl ?_
        refine go_cS3 (cal := mX1_livingApartAt) (q := 46) dX1_leftByPlaces_43 lRX1_27 vX1_livingApartAt ⟨by decide, by decide⟩ (Nat.le_of_ble_eq_true rfl) (ok_lAp hi hR hW hf c_26) rfl ?_
        refine go_isub (q := 47) dX1_leftByPlaces_46 rfl ?_
        refine go_topi (v := nI (cn (fun m => whyS R f k m == 0) 5)) (by rw [show (4 : Int32) = nI 4 from rfl, pk_sub (by omega)]; congr 1; omega) ?_
        refine go_iadd (q := 48) dX1_leftByPlaces_47 rfl ?_
        refine go_topi (v := nI (sm (fun k => cn (fun m => whyS R f k m == 0) 5) (k + 1))) (by rw [h0, nI_add]; rfl) ?_
        refine go_istore_n (q := 49) dX1_leftByPlaces_48 rfl (by decide) rfl rfl ?_
        refine go_iinc (q := 52) (v := 1) dX1_leftByPlaces_49 (by decide) rfl (by decide) rfl rfl ?_
        refine go_goto (q := 23) dX1_leftByPlaces_52 (by decide) ?_
        exact ih (k + 1) _ _ (by omega) rfl (nI_1 k) (by omega)
theorem ok_leftByPlaces {M : KM} {i : Nat} {R : RO} (hi : i < 8) (hR : RA M i R) (hW : rW R) {f : Nat} (hf : f < rN R) : OkF mX1_leftByPlaces [vR 1 i, vI (nI f)] M (some (vI (nI (left1 R f)))) M := by
  refine ok_of (by decide) rfl (Nat.le_of_ble_eq_true rfl) ⟨rfl, rfl⟩ ?_
  show Go mX1_leftByPlaces (Zm (QF (some (vI (nI (left1 R f)))) M)) M [some (vR 1 i), some (vI (nI f)), none, none] [] 0
  refine go_aload_n (q := 1) dX1_leftByPlaces_0 rfl rfl rfl ?_
  refine go_iload_n (q := 2) dX1_leftByPlaces_1 rfl rfl rfl ?_
  refine go_cV1 (cal := mX6_isAlive) (q := 5) dX1_leftByPlaces_2 lRX1_15 vX6_isAlive ⟨by decide, by decide⟩ rfl hi (Nat.le_of_ble_eq_true rfl) (ok_isAlive hi hR _) rfl ?_
  refine go_if_eqB (q := 8) (t := 17) dX1_leftByPlaces_5 (by decide) rfl (fun c_5 => ?_) (fun c_5 => ?_)
  · rw [pOf_at hR hf, oL_some] at c_5
    refine go_iconst (q := 18) (v := 0) dX1_leftByPlaces_17 (by decide) rfl ?_
    exact go_ri dX1_leftByPlaces_18 rfl (by rw [left1_dead c_5]; rfl) rfl
  · rw [pOf_at hR hf, oL_some] at c_5
    refine go_aload_n (q := 9) dX1_leftByPlaces_8 rfl rfl rfl ?_
    refine go_iload_n (q := 10) dX1_leftByPlaces_9 rfl rfl rfl ?_
    refine go_cV1 (cal := mX6_sonsOf) (q := 13) dX1_leftByPlaces_10 lRX1_19 vX6_sonsOf ⟨by decide, by decide⟩ rfl hi (Nat.le_of_ble_eq_true rfl) (ok_sonsOf hi hR hW (by have := hR.lt hf; omega)) rfl ?_
    refine go_iconst (q := 14) (v := 4) dX1_leftByPlaces_13 (by decide) rfl ?_
    refine go_icmp_ltN (sonsN R f) 4 (q := 17) (t := 19) dX1_leftByPlaces_14 (by decide) rfl rfl rfl (by have := sonsN_le hW f; omega) (by omega) (fun c_14 => ?_) (fun c_14 => ?_)
    · refine go_iconst (q := 20) (v := 0) dX1_leftByPlaces_19 (by decide) rfl ?_
      refine go_istore_n (q := 21) dX1_leftByPlaces_20 rfl (by decide) rfl rfl ?_
      refine go_iconst (q := 22) (v := 0) dX1_leftByPlaces_21 (by decide) rfl ?_
      refine go_istore_n (q := 23) dX1_leftByPlaces_22 rfl (by decide) rfl rfl ?_
      exact lp_places hi hR hW hf c_5 c_14 7 0 _ _ (by omega) rfl rfl (by omega)
    · refine go_iconst (q := 18) (v := 0) dX1_leftByPlaces_17 (by decide) rfl ?_
      exact go_ri dX1_leftByPlaces_18 rfl (by rw [left1_sons c_14]; rfl) rfl
theorem lp_leftAll {M : KM} {i : Nat} {R : RO} (hi : i < 8) (hR : RA M i R) (hW : rW R) : ∀ (d : Nat) (j : Nat) (x y : Int32), rN R - j < d → (x = nI (sm (left1 R) j)) → (y = nI j) → (j ≤ rN R) → Go mX1_leftToAll (Zm (QF (some (vI (nI (sm (left1 R) (rN R))))) M)) M [some (vR 1 i), some (vI x), some (vI y)] [] 4 := by
  intro d
  induction d with
  | zero => intro j x y hd; exact absurd hd (Nat.not_lt_zero _)
  | succ d ih =>
    intro j x y hd h0 h1 h2
    refine go_iload_n (q := 5) dX1_leftToAll_4 rfl rfl rfl ?_
    refine go_aload_n (q := 6) dX1_leftToAll_5 rfl rfl rfl ?_
    refine go_cV0 (cal := mX6_size) (q := 9) dX1_leftToAll_6 lRX1_42 vX6_size ⟨by decide, by decide⟩ rfl hi (Nat.le_of_ble_eq_true rfl) (ok_size hi hR) rfl ?_
    refine go_icmp_geN j (rN R) (q := 12) (t := 26) dX1_leftToAll_9 (by decide) rfl h1 rfl (by have := hR.le; omega) (by have := hR.le; omega) (fun c_9 => ?_) (fun c_9 => ?_)
    · refine go_iload_n (q := 27) dX1_leftToAll_26 rfl rfl rfl ?_
      exact go_ri dX1_leftToAll_27 rfl (by rw [h0, show j = rN R by omega]) rfl
    · subst h1
      refine go_iload_n (q := 13) dX1_leftToAll_12 rfl rfl rfl ?_
      refine go_aload_n (q := 14) dX1_leftToAll_13 rfl rfl rfl ?_
      refine go_iload_n (q := 15) dX1_leftToAll_14 rfl rfl rfl ?_
      refine go_cS2 (cal := mX1_leftByPlaces) (q := 18) dX1_leftToAll_15 lRX1_49 vX1_leftByPlaces ⟨by decide, by decide⟩ (Nat.le_of_ble_eq_true rfl) (ok_leftByPlaces hi hR hW c_9) rfl ?_
      refine go_iadd (q := 19) dX1_leftToAll_18 rfl ?_
      refine go_topi (v := nI (sm (left1 R) (j + 1))) (by rw [h0, nI_add]; rfl) ?_
      refine go_istore_n (q := 20) dX1_leftToAll_19 rfl (by decide) rfl rfl ?_
      refine go_iinc (q := 23) (v := 1) dX1_leftToAll_20 (by decide) rfl (by decide) rfl rfl ?_
      refine go_goto (q := 4) dX1_leftToAll_23 (by decide) ?_
      exact ih (j + 1) _ _ (by omega) rfl (nI_1 j) (by omega)
theorem ok_leftToAll {M : KM} {i : Nat} {R : RO} (hi : i < 8) (hR : RA M i R) (hW : rW R) : OkF mX1_leftToAll [vR 1 i] M (some (vI (nI (sm (left1 R) (rN R))))) M := by
  refine ok_of (by decide) rfl (Nat.le_of_ble_eq_true rfl) ⟨rfl, rfl⟩ ?_
  show Go mX1_leftToAll (Zm (QF (some (vI (nI (sm (left1 R) (rN R))))) M)) M [some (vR 1 i), none, none] [] 0
  refine go_iconst (q := 1) (v := 0) dX1_leftToAll_0 (by decide) rfl ?_
  refine go_istore_n (q := 2) dX1_leftToAll_1 rfl (by decide) rfl rfl ?_
  refine go_iconst (q := 3) (v := 0) dX1_leftToAll_2 (by decide) rfl ?_
  refine go_istore_n (q := 4) dX1_leftToAll_3 rfl (by decide) rfl rfl ?_
  exact lp_leftAll hi hR hW (rN R + 1) 0 _ _ (by omega) rfl rfl (by omega)
/-- in how many places a shield differs at least from those of the living but one -/
def lA (R : RO) (s f : Nat) : Nat → Nat
  | 0 => 6
  | n + 1 => if rL R n = true ∧ n ≠ f ∧ ap s (rS R n) < lA R s f n then ap s (rS R n) else lA R s f n
theorem lA_le (R : RO) (s f : Nat) : ∀ n, lA R s f n ≤ 6
  | 0 => Nat.le_refl 6
  | n + 1 => by
    unfold lA
    split
    · exact ap_le _ _
    · exact lA_le R s f n
def lAs (R : RO) (s f : Nat) : Nat := lA R s f (rN R)
theorem lp_leastApart {M : KM} {i : Nat} {R : RO} (hi : i < 8) (hR : RA M i R) (hW : rW R) {f : Nat} (hf : f < rN R) {s : Nat} (hs : s < 2 ^ 31) : ∀ (d : Nat) (j : Nat) (x y : Int32), rN R - j < d → (x = nI (lA R s f j)) → (y = nI j) → (j ≤ rN R) → Go mX1_leastApart (Zm (QF (some (vI (nI (lAs R s f)))) M)) M [some (vR 1 i), some (vI (nI s)), some (vI (nI f)), some (vI x), some (vI y)] [] 6 := by
  intro d
  induction d with
  | zero => intro j x y hd; exact absurd hd (Nat.not_lt_zero _)
  | succ d ih =>
    intro j x y hd h0 h1 h2
    refine go_iload (q := 8) dX1_leastApart_6 rfl rfl ?_
    refine go_aload_n (q := 9) dX1_leastApart_8 rfl rfl rfl ?_
    refine go_cV0 (cal := mX6_size) (q := 12) dX1_leastApart_9 lRX1_42 vX6_size ⟨by decide, by decide⟩ rfl hi (Nat.le_of_ble_eq_true rfl) (ok_size hi hR) rfl ?_
    refine go_icmp_geN j (rN R) (q := 15) (t := 51) dX1_leastApart_12 (by decide) rfl h1 rfl (by have := hR.le; omega) (by have := hR.le; omega) (fun c_12 => ?_) (fun c_12 => ?_)
    · refine go_iload_n (q := 52) dX1_leastApart_51 rfl rfl rfl ?_
      exact go_ri dX1_leastApart_52 rfl (by rw [h0, show j = rN R by omega]; rfl) rfl
    · subst h1
      refine go_aload_n (q := 16) dX1_leastApart_15 rfl rfl rfl ?_
      refine go_iload (q := 18) dX1_leastApart_16 rfl rfl ?_
      refine go_cV1 (cal := mX6_isAlive) (q := 21) dX1_leastApart_18 lRX1_15 vX6_isAlive ⟨by decide, by decide⟩ rfl hi (Nat.le_of_ble_eq_true rfl) (ok_isAlive hi hR _) rfl ?_
      refine go_if_eqB (q := 24) (t := 45) dX1_leastApart_21 (by decide) rfl (fun c_21 => ?_) (fun c_21 => ?_)
      · rw [pOf_at hR c_12, oL_some] at c_21
        refine go_iinc (q := 48) (v := 1) dX1_leastApart_45 (by decide) rfl (by decide) rfl rfl ?_
        refine go_goto (q := 6) dX1_leastApart_48 (by decide) ?_
        exact ih (j + 1) _ _ (by omega) (by rw [h0, show lA R s f (j + 1) = lA R s f j from if_neg (fun z => by rw [c_21] at z; exact absurd z.1 (by decide))]) (nI_1 j) (by omega)
      · rw [pOf_at hR c_12, oL_some] at c_21
        refine go_iload (q := 26) dX1_leastApart_24 rfl rfl ?_
        refine go_iload_n (q := 27) dX1_leastApart_26 rfl rfl rfl ?_
        refine go_icmp_eqN j f (q := 30) (t := 45) dX1_leastApart_27 (by decide) rfl rfl rfl (by have := hR.lt c_12; omega) (by have := hR.lt hf; omega) (fun c_27 => ?_) (fun c_27 => ?_)
        · refine go_iinc (q := 48) (v := 1) dX1_leastApart_45 (by decide) rfl (by decide) rfl rfl ?_
          refine go_goto (q := 6) dX1_leastApart_48 (by decide) ?_
          exact ih (j + 1) _ _ (by omega) (by rw [h0, show lA R s f (j + 1) = lA R s f j from if_neg (fun z => z.2.1 c_27)]) (nI_1 j) (by omega)
        · refine go_iload_n (q := 31) dX1_leastApart_30 rfl rfl rfl ?_
          refine go_iload_n (q := 32) dX1_leastApart_31 rfl rfl rfl ?_
          refine go_aload_n (q := 33) dX1_leastApart_32 rfl rfl rfl ?_
          refine go_iload (q := 35) dX1_leastApart_33 rfl rfl ?_
          refine go_cV1 (cal := mX6_shieldOf) (q := 38) dX1_leastApart_35 lRX1_33 vX6_shieldOf ⟨by decide, by decide⟩ rfl hi (Nat.le_of_ble_eq_true rfl) (ok_shieldOf hi hR _) rfl ?_
          rw [pOf_at hR c_12, oS_some]
          refine go_cS2 (cal := mX8_apart) (q := 41) dX1_leastApart_38 lRX1_46 vX8_apart ⟨by decide, by decide⟩ (Nat.le_of_ble_eq_true rfl) (ok_apart hs (by have := hW.2.1 j c_12; omega)) rfl ?_
          refine go_mmin (q := 44) dX1_leastApart_41 lRX1_59 lM_min.1 lM_min.2.1 lM_min.2.2 ⟨by decide, by decide⟩ (Nat.le_of_ble_eq_true rfl) rfl ?_
          refine go_topi (v := nI (lA R s f (j + 1))) (by rw [h0, k_minN (by have := lA_le R s f j; omega) (by have := ap_le s (rS R j); omega)]; congr 1; show _ = (if rL R j = true ∧ j ≠ f ∧ ap s (rS R j) < lA R s f j then ap s (rS R j) else lA R s f j); by_cases h : ap s (rS R j) < lA R s f j; rw [if_pos h, if_pos ⟨c_21, c_27, h⟩]; rw [if_neg h, if_neg (fun z => h z.2.2)]) ?_
          refine go_istore_n (q := 45) dX1_leastApart_44 rfl (by decide) rfl rfl ?_
          refine go_iinc (q := 48) (v := 1) dX1_leastApart_45 (by decide) rfl (by decide) rfl rfl ?_
          refine go_goto (q := 6) dX1_leastApart_48 (by decide) ?_
          exact ih (j + 1) _ _ (by omega) rfl (nI_1 j) (by omega)
theorem ok_leastApart {M : KM} {i : Nat} {R : RO} (hi : i < 8) (hR : RA M i R) (hW : rW R) {f : Nat} (hf : f < rN R) {s : Nat} (hs : s < 2 ^ 31) : OkF mX1_leastApart [vR 1 i, vI (nI s), vI (nI f)] M (some (vI (nI (lAs R s f)))) M := by
  refine ok_of (by decide) rfl (Nat.le_of_ble_eq_true rfl) ⟨rfl, rfl⟩ ?_
  show Go mX1_leastApart (Zm (QF (some (vI (nI (lAs R s f)))) M)) M [some (vR 1 i), some (vI (nI s)), some (vI (nI f)), none, none] [] 0
  refine go_bipush (q := 2) (v := 6) dX1_leastApart_0 (by decide) rfl ?_
  refine go_istore_n (q := 3) dX1_leastApart_2 rfl (by decide) rfl rfl ?_
  refine go_iconst (q := 4) (v := 0) dX1_leastApart_3 (by decide) rfl ?_
  refine go_istore (q := 6) dX1_leastApart_4 (by decide) rfl rfl ?_
  exact lp_leastApart hi hR hW hf hs (rN R + 1) 0 _ _ (by omega) rfl rfl (by omega)
/-- the best change so far, and one more than its distance -/
def bF (R : RO) (f : Nat) : Nat → Option Nat × Nat
  | 0 => (none, 0)
  | c + 1 => if whyS R f (c / 5) (c % 5) = 0 ∧ (bF R f c).2 < lAs R (wm (rS R f) (c / 5) (c % 5)) f + 1 then (some c, lAs R (wm (rS R f) (c / 5) (c % 5)) f + 1) else bF R f c
theorem bF_le (R : RO) (f : Nat) : ∀ c, (bF R f c).2 ≤ 7
  | 0 => by show 0 ≤ 7; omega
  | c + 1 => by
    unfold bF
    split
    · have := lA_le R (wm (rS R f) (c / 5) (c % 5)) f (rN R)
      show lAs R _ f + 1 ≤ 7
      unfold lAs; omega
    · exact bF_le R f c
def bestR (R : RO) (f : Nat) : Option Nat := (bF R f 30).1
theorem k_leM {a b : Nat} (ha : a < 100) (hb : b < 100) : nI a ≤ nI b + (-1) ↔ a + 1 ≤ b := by
  have h1 : (nI b + (-1)).toInt = (b : Int) - 1 := by
    cases b with
    | zero => decide
    | succ b => rw [pk_m1, nI_toInt (by omega)]; omega
  rw [i32_le, nI_toInt (by omega), h1]; omega
theorem lp_farthest {M : KM} {i : Nat} {R : RO} (hi : i < 8) (hR : RA M i R) (hW : rW R) {f : Nat} (hf : f < rN R) : ∀ (d : Nat) (j : Nat) (x w y : Int32), 30 - j < d → (x = e4 (bF R f j).1) → (w = nI (bF R f j).2 + (-1)) → (y = nI j) → (j ≤ 30) → Go mX1_farthest (Zm (QF (some (vI (e4 (bestR R f)))) M)) M [some (vR 1 i), some (vI (nI f)), some (vI x), some (vI w), some (vI y), none, none, none] [] 8 := by
  intro d
  induction d with
  | zero => intro j x w y hd; exact absurd hd (Nat.not_lt_zero _)
  | succ d ih =>
    intro j x w y hd h0 h1 h2 h3
    refine go_iload (q := 10) dX1_farthest_8 rfl rfl ?_
    refine go_bipush (q := 12) (v := 30) dX1_farthest_10 (by decide) rfl ?_
    refine go_icmp_geN j 30 (q := 15) (t := 79) dX1_farthest_12 (by decide) rfl h2 rfl (by omega) (by omega) (fun c_12 => ?_) (fun c_12 => ?_)
    · refine go_iload_n (q := 80) dX1_farthest_79 rfl rfl rfl ?_
      exact go_ri dX1_farthest_80 rfl (by rw [h0, show j = 30 by omega]; rfl) rfl
    · subst h2
      refine go_iload (q := 17) dX1_farthest_15 rfl rfl ?_
      refine go_iconst (q := 18) (v := 5) dX1_farthest_17 (by decide) rfl ?_
      refine go_idiv (q := 19) dX1_farthest_18 (by decide) rfl ?_
      refine go_topi (v := nI (j / 5)) (nI_div5 (by omega)) ?_
      refine go_istore (q := 21) dX1_farthest_19 (by decide) rfl rfl ?_
      refine go_iload (q := 23) dX1_farthest_21 rfl rfl ?_
      refine go_iconst (q := 24) (v := 5) dX1_farthest_23 (by decide) rfl ?_
      refine go_irem (q := 25) dX1_farthest_24 (by decide) rfl ?_
      refine go_topi (v := nI (j % 5)) (nI_rem5 (by omega)) ?_
      refine go_istore (q := 27) dX1_farthest_25 (by decide) rfl rfl ?_
      refine go_aload_n (q := 28) dX1_farthest_27 rfl rfl rfl ?_
      refine go_iload_n (q := 29) dX1_farthest_28 rfl rfl rfl ?_
      refine go_iload (q := 31) dX1_farthest_29 rfl rfl ?_
      refine go_iload (q := 33) dX1_farthest_31 rfl rfl ?_
      refine go_cV3 (cal := mX6_reasonAgainstSon) (q := 36) dX1_farthest_33 lRX1_9 vX6_reasonAgainstSon ⟨by decide, by decide⟩ rfl hi (Nat.le_of_ble_eq_true rfl) (ok_reasonAgainstSon hi hR hW hf (by omega) (Nat.mod_lt _ (by decide))) rfl ?_
      refine go_if_eq (q := 39) (t := 42) dX1_farthest_36 (by decide) rfl (fun c_36 => ?_) (fun c_36 => ?_)
      · have h36 : whyS R f (j / 5) (j % 5) = 0 := (nI_eq (whyS_big R f _ _) (by decide)).mp c_36
        refine go_aload_n (q := 43) dX1_farthest_42 rfl rfl rfl ?_
        refine go_aload_n (q := 44) dX1_farthest_43 rfl rfl rfl ?_
        refine go_iload_n (q := 45) dX1_farthest_44 rfl rfl rfl ?_
        refine go_cV1 (cal := mX6_shieldOf) (q := 48) dX1_farthest_45 lRX1_33 vX6_shieldOf ⟨by decide, by decide⟩ rfl hi (Nat.le_of_ble_eq_true rfl) (ok_shieldOf hi hR _) rfl ?_
        rw [pOf_at hR hf, oS_some]
        refine go_iload (q := 50) dX1_farthest_48 rfl rfl ?_
        refine go_iload (q := 52) dX1_farthest_50 rfl rfl ?_
        refine go_cS3 (cal := mX8_withMark) (q := 55) dX1_farthest_52 lRX1_53 vX8_withMark ⟨by decide, by decide⟩ (Nat.le_of_ble_eq_true rfl) (ok_withMark (by have := hW.2.1 f hf; omega) (by omega)) rfl ?_
        refine go_iload_n (q := 56) dX1_farthest_55 rfl rfl rfl ?_
        refine go_cS3 (cal := mX1_leastApart) (q := 59) dX1_farthest_56 lRX1_56 vX1_leastApart ⟨by decide, by decide⟩ (Nat.le_of_ble_eq_true rfl) (ok_leastApart hi hR hW hf (by have := wm_lt (hW.2.1 f hf) (show j / 5 < 6 by omega) (Nat.mod_lt j (show 0 < 5 by decide)); omega)) rfl ?_
        refine go_istore (q := 61) dX1_farthest_59 (by decide) rfl rfl ?_
        refine go_iload (q := 63) dX1_farthest_61 rfl rfl ?_
        refine go_iload_n (q := 64) dX1_farthest_63 rfl rfl rfl ?_
        refine go_icmp_le (q := 67) (t := 73) dX1_farthest_64 (by decide) rfl (fun c_64 => ?_) (fun c_64 => ?_)
        · rw [h1] at c_64
          have hlt := (k_leM (by have := lA_le R (wm (rS R f) (j / 5) (j % 5)) f (rN R); unfold lAs; omega) (by have := bF_le R f j; omega)).mp c_64
          have hno : bF R f (j + 1) = bF R f j := if_neg (fun z => by omega)
          refine go_iinc (q := 76) (v := 1) dX1_farthest_73 (by decide) rfl (by decide) rfl rfl ?_
          refine go_goto (q := 8) dX1_farthest_76 (by decide) ?_
          refine go_weak (l1 := [some (vR 1 i), some (vI (nI f)), some (vI _), some (vI _), some (vI _), none, none, none]) (k_le_s (k_le_s (k_le_s (k_le_s (k_le_s (k_le_n (k_le_n (k_le_n k_le_nil)))))))) ?_
          exact ih (j + 1) _ _ _ (by omega) (by rw [h0, hno]) (by rw [h1, hno]) (nI_1 j) (by omega)
        · refine go_iload (q := 69) dX1_farthest_67 rfl rfl ?_
          refine go_istore_n (q := 70) dX1_farthest_69 rfl (by decide) rfl rfl ?_
          refine go_iload (q := 72) dX1_farthest_70 rfl rfl ?_
          refine go_istore_n (q := 73) dX1_farthest_72 rfl (by decide) rfl rfl ?_
          rw [h1] at c_64
          have hlt : ¬ _ := fun z => c_64 ((k_leM (by have := lA_le R (wm (rS R f) (j / 5) (j % 5)) f (rN R); unfold lAs; omega) (by have := bF_le R f j; omega)).mpr z)
          have hyes : bF R f (j + 1) = (some j, lAs R (wm (rS R f) (j / 5) (j % 5)) f + 1) := if_pos ⟨h36, by omega⟩
          refine go_iinc (q := 76) (v := 1) dX1_farthest_73 (by decide) rfl (by decide) rfl rfl ?_
          refine go_goto (q := 8) dX1_farthest_76 (by decide) ?_
          refine go_weak (l1 := [some (vR 1 i), some (vI (nI f)), some (vI _), some (vI _), some (vI _), none, none, none]) (k_le_s (k_le_s (k_le_s (k_le_s (k_le_s (k_le_n (k_le_n (k_le_n k_le_nil)))))))) ?_
          exact ih (j + 1) _ _ _ (by omega) (by rw [hyes]; rfl) (by rw [hyes]; exact (pk_m1 _).symm) (nI_1 j) (by omega)
      · refine go_goto (q := 73) dX1_farthest_39 (by decide) ?_
        have hno : bF R f (j + 1) = bF R f j := if_neg (fun z => c_36 (by rw [z.1]; rfl))
        refine go_iinc (q := 76) (v := 1) dX1_farthest_73 (by decide) rfl (by decide) rfl rfl ?_
        refine go_goto (q := 8) dX1_farthest_76 (by decide) ?_
        refine go_weak (l1 := [some (vR 1 i), some (vI (nI f)), some (vI _), some (vI _), some (vI _), none, none, none]) (k_le_s (k_le_s (k_le_s (k_le_s (k_le_s (k_le_n (k_le_n (k_le_n k_le_nil)))))))) ?_
        exact ih (j + 1) _ _ _ (by omega) (by rw [h0, hno]) (by rw [h1, hno]) (nI_1 j) (by omega)
theorem ok_farthest {M : KM} {i : Nat} {R : RO} (hi : i < 8) (hR : RA M i R) (hW : rW R) {f : Nat} (hf : f < rN R) : OkF mX1_farthest [vR 1 i, vI (nI f)] M (some (vI (e4 (bestR R f)))) M := by
  refine ok_of (by decide) rfl (Nat.le_of_ble_eq_true rfl) ⟨rfl, rfl⟩ ?_
  show Go mX1_farthest (Zm (QF (some (vI (e4 (bestR R f)))) M)) M [some (vR 1 i), some (vI (nI f)), none, none, none, none, none, none] [] 0
  refine go_bipush (q := 2) (v := (-4)) dX1_farthest_0 (by decide) rfl ?_
  refine go_istore_n (q := 3) dX1_farthest_2 rfl (by decide) rfl rfl ?_
  refine go_iconst (q := 4) (v := (-1)) dX1_farthest_3 (by decide) rfl ?_
  refine go_istore_n (q := 5) dX1_farthest_4 rfl (by decide) rfl rfl ?_
  refine go_iconst (q := 6) (v := 0) dX1_farthest_5 (by decide) rfl ?_
  refine go_istore (q := 8) dX1_farthest_6 (by decide) rfl rfl ?_
  exact lp_farthest hi hR hW hf 31 0 _ _ _ (by omega) rfl (show (-1 : Int32) = nI 0 + (-1) from by decide) rfl (by omega)
