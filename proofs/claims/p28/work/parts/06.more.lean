/-! ===== numbers, and rows that speak of them ===== -/
abbrev QF (r : Option KV) (M : KM) : Option KV → KM → Prop := fun a b => a = r ∧ b = M
def bI (b : Bool) : Int32 := if b then 1 else 0
theorem bI_t : bI true = 1 := rfl
theorem bI_f : bI false = 0 := rfl
theorem bI_nar (b : Bool) : narrow .boolean (.int (bI b)) = .int (bI b) := by cases b <;> decide
theorem bI_eq0 {b : Bool} : bI b = 0 ↔ b = false := by cases b <;> decide
theorem bI_eq1 {b : Bool} : bI b = 1 ↔ b = true := by cases b <;> decide
theorem bI_inj {a b : Bool} : bI a = bI b ↔ a = b := by cases a <;> cases b <;> decide
def e1 : Option Nat → Int32
  | none => -1
  | some k => nI k
def e4 : Option Nat → Int32
  | none => -4
  | some k => nI k
theorem nI_neg {k : Nat} {m : Int32} (hk : k < 2 ^ 31) (hm : m.toInt < 0) : ¬ nI k = m := fun h => by
  have := congrArg Int32.toInt h
  rw [nI_toInt hk] at this
  omega
theorem e1_eq {o : Option Nat} (h : ∀ k, o = some k → k < 2 ^ 31) : e1 o = -1 ↔ o = none := by
  cases o with
  | none => simp [e1]
  | some k =>
    simp only [e1, reduceCtorEq, iff_false]
    exact nI_neg (h k rfl) (by decide)
theorem e4_eq {o : Option Nat} (h : ∀ k, o = some k → k < 2 ^ 31) : e4 o = -4 ↔ o = none := by
  cases o with
  | none => simp [e4]
  | some k =>
    simp only [e4, reduceCtorEq, iff_false]
    exact nI_neg (h k rfl) (by decide)
/-- the number below n that an int means -/
def pOf (n : Nat) (x : Int32) : Option Nat := if 0 ≤ x.toInt ∧ x.toInt < (n : Int) then some x.toInt.toNat else none
theorem pOf_some {n p : Nat} {x : Int32} (h : pOf n x = some p) : p < n ∧ x = nI p := by
  unfold pOf at h
  split at h
  · rename_i h1
    cases h
    refine ⟨by omega, ?_⟩
    have hx : x.toInt.toNat < 2 ^ 31 := by
      have := Int32.toInt_lt x
      omega
    apply Int32.toInt_inj.mp
    rw [nI_toInt hx]
    omega
  · cases h
theorem pOf_none {n : Nat} {x : Int32} (h : pOf n x = none) : x.toInt < 0 ∨ (n : Int) ≤ x.toInt := by
  unfold pOf at h
  split at h
  · cases h
  · omega
theorem pOf_nI {n p : Nat} (hp : p < n) (hn : n < 2 ^ 31) : pOf n (nI p) = some p := by
  unfold pOf
  rw [nI_toInt (by omega), if_pos ⟨by omega, by omega⟩]
  simp
theorem pOf_big {n p : Nat} (hp : n ≤ p) (hn : p < 2 ^ 31) : pOf n (nI p) = none := by
  unfold pOf
  rw [nI_toInt hn, if_neg (by omega)]
theorem pOf_m1 {n : Nat} : pOf n (-1) = none := by
  unfold pOf
  rw [if_neg]
  intro h
  have : (-1 : Int32).toInt = -1 := by decide
  omega
theorem pOf_m4 {n : Nat} : pOf n (-4) = none := by
  unfold pOf
  rw [if_neg]
  intro h
  have : (-4 : Int32).toInt = -4 := by decide
  omega
theorem pOf_e1 {n : Nat} {o : Option Nat} (h : ∀ k, o = some k → k < n) (hn : n < 2 ^ 31) : pOf n (e1 o) = o := by
  cases o with
  | none => exact pOf_m1
  | some k => exact pOf_nI (h k rfl) hn
theorem i32_lt {x y : Int32} : x < y ↔ x.toInt < y.toInt := Int32.lt_iff_toInt_lt
theorem i32_le {x y : Int32} : x ≤ y ↔ x.toInt ≤ y.toInt := Int32.le_iff_toInt_le
theorem pOf_iff {n : Nat} {x : Int32} : (pOf n x).isSome = true ↔ (0 ≤ x.toInt ∧ x.toInt < (n : Int)) := by
  unfold pOf
  split <;> simp_all
/-- how many below n -/
def cn (P : Nat → Bool) : Nat → Nat
  | 0 => 0
  | n + 1 => cn P n + if P n then 1 else 0
theorem cn_le (P : Nat → Bool) : ∀ n, cn P n ≤ n
  | 0 => Nat.le_refl 0
  | n + 1 => by
    have := cn_le P n
    unfold cn
    split <;> omega
theorem cn_t {P : Nat → Bool} {n : Nat} (h : P n = true) : cn P (n + 1) = cn P n + 1 := by simp [cn, h]
theorem cn_f {P : Nat → Bool} {n : Nat} (h : P n = false) : cn P (n + 1) = cn P n := by simp [cn, h]
theorem cn_congr {P Q : Nat → Bool} : ∀ {n : Nat}, (∀ i, i < n → P i = Q i) → cn P n = cn Q n
  | 0, _ => rfl
  | n + 1, h => by
    unfold cn
    rw [cn_congr (fun i hi => h i (by omega)), h n (by omega)]
section MoreRows
variable {I : KI} {Z : KZ} {M M' : KM} {loc : List (Option KV)} {st : List KV} {pc q t : Nat} {off : Int} {x y : Int32}
theorem go_ri (hd : decode I.2.1 pc = .ok (.ireturn, 1)) (hr : I.2.2.2.1 = some .int) (h : x = y) (hM : M = M') : Go I (Zm (fun a b => a = some (vI y) ∧ b = M')) M loc [vI x] pc :=
  go_ireti hd hr ⟨by rw [h], hM⟩
theorem go_rz {b : Bool} (hd : decode I.2.1 pc = .ok (.ireturn, 1)) (hr : I.2.2.2.1 = some .boolean) (h : x = bI b) (hM : M = M') : Go I (Zm (fun a b' => a = some (vI (bI b)) ∧ b' = M')) M loc [vI x] pc := by
  subst h
  exact go_iretz hd hr (bI_nar b) ⟨rfl, hM⟩
theorem go_rv (hd : decode I.2.1 pc = .ok (.return_, 1)) (hr : I.2.2.2.1 = none) (hM : M = M') : Go I (Zm (fun a b' => a = none ∧ b' = M')) M loc [] pc :=
  go_vret hd hr ⟨rfl, hM⟩
theorem go_rd {x y : UInt64} (hd : decode I.2.1 pc = .ok (.dreturn, 1)) (hr : I.2.2.2.1 = some .double) (h : x = y) (hM : M = M') : Go I (Zm (fun a b' => a = some (vD y) ∧ b' = M')) M loc [vD x] pc :=
  go_dret hd hr ⟨by rw [h], hM⟩
theorem go_loc {l1 l2 : List (Option KV)} (h : l1 = l2) (k : Go I Z M l2 st pc) : Go I Z M l1 st pc := h ▸ k
theorem go_mem (h : M = M') (k : Go I Z M' loc st pc) : Go I Z M loc st pc := h ▸ k
theorem go_topi {v : Int32} (h : x = v) (k : Go I Z M loc (vI v :: st) pc) : Go I Z M loc (vI x :: st) pc := h ▸ k
theorem go_if_eqB {b : Bool} (hd : decode I.2.1 pc = .ok (.ifCond .eq off, 3)) (ht : (pc : Int) + off = (t : Int)) (hq : pc + 3 = q) (k1 : b = false → Go I Z M loc st t) (k2 : b = true → Go I Z M loc st q) : Go I Z M loc (vI (bI b) :: st) pc :=
  go_if_eq hd ht hq (fun z => k1 (bI_eq0.mp z)) (fun z => k2 (by cases b; exact absurd rfl z; rfl))
theorem go_if_neB {b : Bool} (hd : decode I.2.1 pc = .ok (.ifCond .ne off, 3)) (ht : (pc : Int) + off = (t : Int)) (hq : pc + 3 = q) (k1 : b = true → Go I Z M loc st t) (k2 : b = false → Go I Z M loc st q) : Go I Z M loc (vI (bI b) :: st) pc :=
  go_if_ne hd ht hq (fun z => k1 (by cases b; exact absurd rfl z; rfl)) (fun z => k2 (by cases b; rfl; exact absurd (by decide) z))
theorem go_icmp_ltN (a b : Nat) (hd : decode I.2.1 pc = .ok (.if_icmp .lt off, 3)) (ht : (pc : Int) + off = (t : Int)) (hq : pc + 3 = q) (hx : x = nI a) (hy : y = nI b) (ha : a < 2 ^ 31) (hb : b < 2 ^ 31) (k1 : a < b → Go I Z M loc st t) (k2 : b ≤ a → Go I Z M loc st q) : Go I Z M loc (vI y :: vI x :: st) pc := by
  subst hx; subst hy
  exact go_icmp_lt hd ht hq (fun z => k1 ((nI_ltI ha hb).mp z)) (fun z => k2 (Nat.le_of_not_lt fun w => z ((nI_ltI ha hb).mpr w)))
theorem go_icmp_geN (a b : Nat) (hd : decode I.2.1 pc = .ok (.if_icmp .ge off, 3)) (ht : (pc : Int) + off = (t : Int)) (hq : pc + 3 = q) (hx : x = nI a) (hy : y = nI b) (ha : a < 2 ^ 31) (hb : b < 2 ^ 31) (k1 : b ≤ a → Go I Z M loc st t) (k2 : a < b → Go I Z M loc st q) : Go I Z M loc (vI y :: vI x :: st) pc := by
  subst hx; subst hy
  exact go_icmp_ge hd ht hq (fun z => k1 ((nI_leI hb ha).mp z)) (fun z => k2 (Nat.lt_of_not_le fun w => z ((nI_leI hb ha).mpr w)))
theorem go_icmp_gtN (a b : Nat) (hd : decode I.2.1 pc = .ok (.if_icmp .gt off, 3)) (ht : (pc : Int) + off = (t : Int)) (hq : pc + 3 = q) (hx : x = nI a) (hy : y = nI b) (ha : a < 2 ^ 31) (hb : b < 2 ^ 31) (k1 : b < a → Go I Z M loc st t) (k2 : a ≤ b → Go I Z M loc st q) : Go I Z M loc (vI y :: vI x :: st) pc := by
  subst hx; subst hy
  exact go_icmp_gt hd ht hq (fun z => k1 ((nI_ltI hb ha).mp z)) (fun z => k2 (Nat.le_of_not_lt fun w => z ((nI_ltI hb ha).mpr w)))
theorem go_icmp_leN (a b : Nat) (hd : decode I.2.1 pc = .ok (.if_icmp .le off, 3)) (ht : (pc : Int) + off = (t : Int)) (hq : pc + 3 = q) (hx : x = nI a) (hy : y = nI b) (ha : a < 2 ^ 31) (hb : b < 2 ^ 31) (k1 : a ≤ b → Go I Z M loc st t) (k2 : b < a → Go I Z M loc st q) : Go I Z M loc (vI y :: vI x :: st) pc := by
  subst hx; subst hy
  exact go_icmp_le hd ht hq (fun z => k1 ((nI_leI ha hb).mp z)) (fun z => k2 (Nat.lt_of_not_le fun w => z ((nI_leI ha hb).mpr w)))
theorem go_icmp_eqN (a b : Nat) (hd : decode I.2.1 pc = .ok (.if_icmp .eq off, 3)) (ht : (pc : Int) + off = (t : Int)) (hq : pc + 3 = q) (hx : x = nI a) (hy : y = nI b) (ha : a < 2 ^ 31) (hb : b < 2 ^ 31) (k1 : a = b → Go I Z M loc st t) (k2 : ¬ a = b → Go I Z M loc st q) : Go I Z M loc (vI y :: vI x :: st) pc := by
  subst hx; subst hy
  exact go_icmp_eq hd ht hq (fun z => k1 ((nI_eq ha hb).mp z)) (fun z => k2 fun w => z ((nI_eq ha hb).mpr w))
theorem go_icmp_neN (a b : Nat) (hd : decode I.2.1 pc = .ok (.if_icmp .ne off, 3)) (ht : (pc : Int) + off = (t : Int)) (hq : pc + 3 = q) (hx : x = nI a) (hy : y = nI b) (ha : a < 2 ^ 31) (hb : b < 2 ^ 31) (k1 : ¬ a = b → Go I Z M loc st t) (k2 : a = b → Go I Z M loc st q) : Go I Z M loc (vI y :: vI x :: st) pc := by
  subst hx; subst hy
  exact go_icmp_ne hd ht hq (fun z => k1 fun w => z ((nI_eq ha hb).mpr w)) (fun z => k2 (by
    apply (nI_eq ha hb).mp
    exact Classical.byContradiction fun w => z w))
/-- two tops that are booleans -/
theorem go_icmp_neB {a b : Bool} (hd : decode I.2.1 pc = .ok (.if_icmp .ne off, 3)) (ht : (pc : Int) + off = (t : Int)) (hq : pc + 3 = q) (k1 : ¬ a = b → Go I Z M loc st t) (k2 : a = b → Go I Z M loc st q) : Go I Z M loc (vI (bI b) :: vI (bI a) :: st) pc :=
  go_icmp_ne hd ht hq (fun z => k1 fun w => z (bI_inj.mpr w)) (fun z => k2 (bI_inj.mp (Classical.byContradiction fun w => z w)))
end MoreRows
/-! ===== shields as numbers ===== -/
def mk (a k : Nat) : Nat := a / 5 ^ k % 5
def wm (a k m : Nat) : Nat := a + m * 5 ^ k - mk a k * 5 ^ k
def ap (a b : Nat) : Nat := cn (fun k => mk a k != mk b k) 6
theorem mk_lt (a k : Nat) : mk a k < 5 := Nat.mod_lt _ (by decide)
theorem ap_le (a b : Nat) : ap a b ≤ 6 := cn_le _ 6
theorem k_l5 : (5 : Int32) = nI 5 := rfl
theorem nI_div5 {a : Nat} (h : a < 2 ^ 31) : nI a / 5 = nI (a / 5) := by rw [k_l5]; exact pk_div h (by decide) (by decide)
theorem nI_rem5 {a : Nat} (h : a < 2 ^ 31) : nI a - nI a / 5 * 5 = nI (a % 5) := by rw [k_l5]; exact pk_rem h (by decide) (by decide)
theorem nI_mul5 (a : Nat) : nI a * 5 = nI (a * 5) := by rw [k_l5]; exact pk_mul a 5
theorem mk_wle (a k : Nat) : mk a k * 5 ^ k ≤ a := by
  unfold mk
  calc a / 5 ^ k % 5 * 5 ^ k ≤ a / 5 ^ k * 5 ^ k := Nat.mul_le_mul_right _ (Nat.mod_le _ _)
    _ ≤ a := Nat.div_mul_le_self a (5 ^ k)
theorem wm_nI (a k m : Nat) : nI a + (nI m - nI (mk a k)) * nI (5 ^ k) = nI (wm a k m) := by
  have h1 : nI (wm a k m) + nI (mk a k * 5 ^ k) = nI (a + m * 5 ^ k) := by
    rw [nI_add]
    congr 1
    unfold wm
    have := mk_wle a k
    omega
  have h2 : nI (wm a k m) = nI (a + m * 5 ^ k) - nI (mk a k * 5 ^ k) := by
    rw [← h1, Int32.add_sub_cancel]
  rw [h2, ← nI_add, ← pk_mul, ← pk_mul, Int32.sub_mul]
  rw [Int32.sub_eq_add_neg, Int32.sub_eq_add_neg, Int32.add_assoc]
theorem pow5_lt {k : Nat} (h : k < 6) : 5 ^ k ≤ 3125 := by
  rcases (show k = 0 ∨ k = 1 ∨ k = 2 ∨ k = 3 ∨ k = 4 ∨ k = 5 by omega) with rfl | rfl | rfl | rfl | rfl | rfl <;> decide
