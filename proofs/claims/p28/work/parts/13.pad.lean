/-! ===== switches ===== -/
section SwRows
variable {I : KI} {Z : KZ} {M : KM} {loc : List (Option KV)} {st : List KV} {pc q len : Nat} {x : Int32}
theorem go_tableIn (k : Int) {dflt lo hi off : Int} {offs : Array Int} (hd : decode I.2.1 pc = .ok (.tableswitch dflt lo hi offs, len)) (hk : x.toInt = k) (h1 : ¬ k < lo) (h2 : ¬ hi < k) (ho : offs[(k - lo).toNat]? = some off) (ht : (pc : Int) + off = (q : Int)) (h : Go I Z M loc st q) : Go I Z M loc (vI x :: st) pc := by
  subst hk
  intro G Hb p l e R s m args below meth c cells slots Qf hC hZ H ls locs hW hF hL hl
  obtain ⟨hx, hb, hml, hrt, hown, hlk, hts, hK, hRf, hRl, hce, hsl⟩ := id hC
  exact lv_tableIn hx hb hd h1 h2 ho ht (h G Hb p l e R s m args below meth c cells slots Qf hC hZ H ls locs hW hF hL hl)
theorem go_tableOut {dflt lo hi : Int} {offs : Array Int} (hd : decode I.2.1 pc = .ok (.tableswitch dflt lo hi offs, len)) (hk : x.toInt < lo ∨ hi < x.toInt) (ht : (pc : Int) + dflt = (q : Int)) (h : Go I Z M loc st q) : Go I Z M loc (vI x :: st) pc := by
  intro G Hb p l e R s m args below meth c cells slots Qf hC hZ H ls locs hW hF hL hl
  obtain ⟨hx, hb, hml, hrt, hown, hlk, hts, hK, hRf, hRl, hce, hsl⟩ := id hC
  exact lv_tableOut hx hb hd hk ht (h G Hb p l e R s m args below meth c cells slots Qf hC hZ H ls locs hW hF hL hl)
theorem go_lookup {dflt off : Int} {ps : Array (Int × Int)} (hd : decode I.2.1 pc = .ok (.lookupswitch dflt ps, len)) (hp : (ps.toList.zip (ps.toList.drop 1)).all (fun (a, next) => a.1 < next.1) = true) (ho : Op.lookupswitch.offset ps.toList dflt x.toInt = off) (ht : (pc : Int) + off = (q : Int)) (h : Go I Z M loc st q) : Go I Z M loc (vI x :: st) pc := by
  intro G Hb p l e R s m args below meth c cells slots Qf hC hZ H ls locs hW hF hL hl
  obtain ⟨hx, hb, hml, hrt, hown, hlk, hts, hK, hRf, hRl, hce, hsl⟩ := id hC
  exact lv_lookup hx hb hd hp ho ht (h G Hb p l e R s m args below meth c cells slots Qf hC hZ H ls locs hW hF hL hl)
end SwRows
/-! ===== the pad ===== -/
def PA (M : KM) (n : Nat) (c : Nat → Nat) : Prop := M.1 9 0 1 = nI n ∧ n ≤ 60 ∧ ∀ j, j < n → M.1 10 0 j = nI (c j) ∧ 33 ≤ c j ∧ c j ≤ 126
/-- the sign at a place, 0 where there is none -/
def ch (n : Nat) (c : Nat → Nat) (j : Nat) : Nat := if j < n then c j else 0
theorem PA.ln {M : KM} {n : Nat} {c : Nat → Nat} (h : PA M n c) : M.1 9 0 1 = nI n := h.1
theorem ch_lt {M : KM} {n : Nat} {c : Nat → Nat} (h : PA M n c) (j : Nat) : ch n c j < 127 := by
  unfold ch
  split
  · have := (h.2.2 j (by assumption)).2.2; omega
  · decide
def isB (x a b : Nat) : Bool := decide (a ≤ x) && decide (x ≤ b)
/-- the states of the pad's reader: what comes next; none: wrong -/
def sDeed (x : Nat) : Option Nat := if x = 59 then some 7 else none
def sLet (x : Nat) : Option Nat := if x = 102 then some 6 else if x = 115 then some 8 else if x = 100 ∨ x = 104 then some 13 else none
def sFat (x : Nat) : Option Nat := if x = 46 then some 11 else none
def sDig (x a b : Nat) : Option Nat := if isB x 48 57 = false then none else if x = 49 then some a else some b
def sA (s x : Nat) : Option Nat := match s with
  | 0 => sDeed x
  | 7 => sLet x
  | 8 => sDig x 9 10
  | 9 => if isB x 48 57 = true then some 10 else sFat x
  | 10 => sFat x
  | 11 => if isB x 48 53 = true then some 12 else none
  | 12 => if x = 61 then some 1 else none
  | 13 => sDig x 14 0
  | 14 => if isB x 48 57 = true then some 0 else sDeed x
  | s => if isB x 48 52 = true then some (s - 1) else none
theorem ok_plen {M : KM} {n : Nat} {c : Nat → Nat} (hP : PA M n c) : OkF mX5_length [vR 9 0] M (some (vI (nI n))) M := by
  refine ok_of (by decide) rfl (Nat.le_of_ble_eq_true rfl) ⟨rfl, rfl⟩ ?_
  show Go mX5_length (Zm (QF (some (vI (nI n))) M)) M [some (vR 9 0)] [] 0
  refine go_aload_n (q := 1) dX5_length_0 rfl rfl rfl ?_
  refine go_getf (q := 4) dX5_length_1 fRX5_15 rfl (by decide) rfl rfl ?_
  refine go_topi hP.ln ?_
  exact go_ri dX5_length_4 rfl (by rfl) rfl
theorem ok_isFull {M : KM} {n : Nat} {c : Nat → Nat} (hP : PA M n c) : OkF mX5_isFull [vR 9 0] M (some (vI (bI (decide (60 ≤ n))))) M := by
  refine ok_of (by decide) rfl (Nat.le_of_ble_eq_true rfl) ⟨rfl, rfl⟩ ?_
  show Go mX5_isFull (Zm (QF (some (vI (bI (decide (60 ≤ n))))) M)) M [some (vR 9 0)] [] 0
  refine go_aload_n (q := 1) dX5_isFull_0 rfl rfl rfl ?_
  refine go_getf (q := 4) dX5_isFull_1 fRX5_15 rfl (by decide) rfl rfl ?_
  refine go_topi hP.ln ?_
  refine go_bipush (q := 6) (v := 60) dX5_isFull_4 (by decide) rfl ?_
  refine go_icmp_ltN n 60 (q := 9) (t := 13) dX5_isFull_6 (by decide) rfl rfl rfl (by have := hP.2.1; omega) (by omega) (fun c_6 => ?_) (fun c_6 => ?_)
  · refine go_iconst (q := 14) (v := 0) dX5_isFull_13 (by decide) rfl ?_
    exact go_rz dX5_isFull_14 rfl (by rw [decide_eq_false (by omega)]; rfl) rfl
  · refine go_iconst (q := 10) (v := 1) dX5_isFull_9 (by decide) rfl ?_
    refine go_goto (q := 14) dX5_isFull_10 (by decide) ?_
    exact go_rz dX5_isFull_14 rfl (by rw [decide_eq_true (by omega)]; rfl) rfl
theorem k_neg {n : Nat} {A : Prop} (hn : n < 2 ^ 31) (h : nI n < 0) : A := by
  have e0 : (0 : Int32).toInt = 0 := by decide
  rw [i32_lt, nI_toInt hn, e0] at h
  omega
theorem PA_put {M : KM} {n x : Nat} {c : Nat → Nat} (hP : PA M n c) (hn : n < 60) (h1 : 33 ≤ x) (h2 : x ≤ 126) : PA (k_si (k_si M 10 0 n (nI x)) 9 0 1 (nI n + 1)) (n + 1) (fun j => if j = n then x else c j) := by
  refine ⟨nI_1 n, hn, fun j hj => ?_⟩
  show (if 10 = 10 ∧ j = n ∧ 0 = 0 then nI x else M.1 10 0 j) = nI (if j = n then x else c j) ∧ 33 ≤ (if j = n then x else c j) ∧ (if j = n then x else c j) ≤ 126
  by_cases h : j = n
  · rw [if_pos ⟨rfl, h, rfl⟩, if_pos h]; exact ⟨rfl, h1, h2⟩
  · rw [if_neg (fun z => h z.2.1), if_neg h]; exact hP.2.2 j (by omega)
def kP (M M' : KM) : Prop := M'.2 = M.2 ∧ ∀ k b, k ≠ 9 → k ≠ 10 → M'.1 k b = M.1 k b
def KPQ (M : KM) (n : Nat) (c : Nat → Nat) : Option KV → KM → Prop := fun r M' => r = none ∧ PA M' n c ∧ kP M M'
theorem go_kpV0 {I cal : KI} {Z : KZ} {M : KM} {loc : List (Option KV)} {rest : List KV} {pc q idx k i n : Nat} {c : Nat → Nat} (hd : decode I.2.1 pc = .ok (.invokevirtual idx, 3)) (hlink : Cond.methodLink I.1.cls idx cal.1 ∈ k_tb) (hc : KCV cal 0) (hR : KR I cal) (hcls : (k_oc k).bind (fun ci => (vwCl[ci]?).map (fun q => q.1)) = some cal.1.cls) (hi : i < k_cnt k) (hr : (rest.map k_cat).sum ≤ 8) (hok : Ok cal (vR k i :: []) M (KPQ M n c)) (hq : pc + 3 = q) (kk : ∀ M1, PA M1 n c → kP M M1 → Go I Z M1 loc rest q) : Go I Z M loc (vR k i :: rest) pc :=
  go_callV [] hd hlink hc hR rfl hcls hi hr hok hq (fun r M2 hrm => by obtain ⟨rfl, h1, h2⟩ := hrm; exact kk M2 h1 h2)
theorem go_kpV1 {I cal : KI} {Z : KZ} {M : KM} {loc : List (Option KV)} {rest : List KV} {pc q idx k i n : Nat} {a0 : KV} {c : Nat → Nat} (hd : decode I.2.1 pc = .ok (.invokevirtual idx, 3)) (hlink : Cond.methodLink I.1.cls idx cal.1 ∈ k_tb) (hc : KCV cal 1) (hR : KR I cal) (hcls : (k_oc k).bind (fun ci => (vwCl[ci]?).map (fun q => q.1)) = some cal.1.cls) (hi : i < k_cnt k) (hr : (rest.map k_cat).sum ≤ 8) (hok : Ok cal (vR k i :: [a0]) M (KPQ M n c)) (hq : pc + 3 = q) (kk : ∀ M1, PA M1 n c → kP M M1 → Go I Z M1 loc rest q) : Go I Z M loc (a0 :: vR k i :: rest) pc :=
  go_callV [a0] hd hlink hc hR rfl hcls hi hr hok hq (fun r M2 hrm => by obtain ⟨rfl, h1, h2⟩ := hrm; exact kk M2 h1 h2)
theorem ok_put {M : KM} {n : Nat} {c : Nat → Nat} (hP : PA M n c) (hn : n < 60) {x : Nat} (h1 : 33 ≤ x) (h2 : x ≤ 126) : Ok mX5_put [vR 9 0, vI (nI x)] M (KPQ M (n + 1) (fun j => if j = n then x else c j)) := by
  refine ok_of (by decide) rfl (Nat.le_of_ble_eq_true rfl) ⟨rfl, rfl⟩ ?_
  show Go mX5_put (Zm (KPQ M (n + 1) (fun j => if j = n then x else c j))) M [some (vR 9 0), some (vI (nI x))] [] 0
  refine go_aload_n (q := 1) dX5_put_0 rfl rfl rfl ?_
  refine go_getf (q := 4) dX5_put_1 fRX5_15 rfl (by decide) rfl rfl ?_
  refine go_topi hP.ln ?_
  refine go_if_lt (q := 7) (t := 36) dX5_put_4 (by decide) rfl (fun c_4 => ?_) (fun c_4 => ?_)
  · exact k_neg (by omega) c_4
  · refine go_aload_n (q := 8) dX5_put_7 rfl rfl rfl ?_
    refine go_getf (q := 11) dX5_put_8 fRX5_15 rfl (by decide) rfl rfl ?_
    refine go_topi hP.ln ?_
    refine go_bipush (q := 13) (v := 60) dX5_put_11 (by decide) rfl ?_
    refine go_icmp_geN n 60 (q := 16) (t := 36) dX5_put_13 (by decide) rfl rfl rfl (by omega) (by omega) (fun c_13 => ?_) (fun c_13 => ?_)
    · omega
    · refine go_aload_n (q := 17) dX5_put_16 rfl rfl rfl ?_
      refine go_getf (q := 20) dX5_put_17 fRX5_11 rfl (by decide) rfl rfl ?_
      refine go_aload_n (q := 21) dX5_put_20 rfl rfl rfl ?_
      refine go_getf (q := 24) dX5_put_21 fRX5_15 rfl (by decide) rfl rfl ?_
      refine go_topi hP.ln ?_
      refine go_iload_n (q := 25) dX5_put_24 rfl rfl rfl ?_
      refine go_iast (q := 26) n dX5_put_25 rfl rfl (by decide) rfl hn rfl ?_
      refine go_aload_n (q := 27) dX5_put_26 rfl rfl rfl ?_
      refine go_dup (q := 28) dX5_put_27 rfl rfl ?_
      refine go_getf (q := 31) dX5_put_28 fRX5_15 rfl (by decide) rfl rfl ?_
      refine go_topi hP.ln ?_
      refine go_iconst (q := 32) (v := 1) dX5_put_31 (by decide) rfl ?_
      refine go_iadd (q := 33) dX5_put_32 rfl ?_
      refine go_puti (q := 36) dX5_put_33 pRX5_15 rfl (by decide) rfl rfl rfl (Nat.le_of_ble_eq_true rfl) rfl ?_
      exact go_vret dX5_put_36 rfl ⟨rfl, PA_put hP hn h1 h2, rfl, fun k b h9 h10 => (k_si_ne _ _ (fun z => h9 z.1)).trans (k_si_ne _ _ (fun z => h10 z.1))⟩
theorem ok_empty {M : KM} {n : Nat} {c : Nat → Nat} (hP : PA M n c) : Ok mX5_empty [vR 9 0] M (KPQ M 0 c) := by
  refine ok_of (by decide) rfl (Nat.le_of_ble_eq_true rfl) ⟨rfl, rfl⟩ ?_
  show Go mX5_empty (Zm (KPQ M 0 c)) M [some (vR 9 0)] [] 0
  refine go_aload_n (q := 1) dX5_empty_0 rfl rfl rfl ?_
  refine go_iconst (q := 2) (v := 0) dX5_empty_1 (by decide) rfl ?_
  refine go_puti (q := 5) dX5_empty_2 pRX5_15 rfl (by decide) rfl rfl rfl (Nat.le_of_ble_eq_true rfl) rfl ?_
  exact go_vret dX5_empty_5 rfl ⟨rfl, ⟨rfl, by decide, fun j hj => absurd hj (Nat.not_lt_zero _)⟩, rfl, fun k b h9 h10 => k_si_ne _ _ (fun z => h9 z.1)⟩
theorem ok_signAt {M : KM} {n : Nat} {c : Nat → Nat} (hP : PA M n c) {j : Nat} (hj : j < 2 ^ 31) : OkF mX5_signAt [vR 9 0, vI (nI j)] M (some (vI (nI (ch n c j)))) M := by
  refine ok_of (by decide) rfl (Nat.le_of_ble_eq_true rfl) ⟨rfl, rfl⟩ ?_
  show Go mX5_signAt (Zm (QF (some (vI (nI (ch n c j)))) M)) M [some (vR 9 0), some (vI (nI j))] [] 0
  refine go_iload_n (q := 1) dX5_signAt_0 rfl rfl rfl ?_
  refine go_if_lt (q := 4) (t := 27) dX5_signAt_1 (by decide) rfl (fun c_1 => ?_) (fun c_1 => ?_)
  · exact k_neg hj c_1
  · refine go_iload_n (q := 5) dX5_signAt_4 rfl rfl rfl ?_
    refine go_aload_n (q := 6) dX5_signAt_5 rfl rfl rfl ?_
    refine go_getf (q := 9) dX5_signAt_6 fRX5_15 rfl (by decide) rfl rfl ?_
    refine go_topi hP.ln ?_
    refine go_icmp_geN j n (q := 12) (t := 27) dX5_signAt_9 (by decide) rfl rfl rfl hj (by have := hP.2.1; omega) (fun c_9 => ?_) (fun c_9 => ?_)
    · refine go_iconst (q := 28) (v := 0) dX5_signAt_27 (by decide) rfl ?_
      exact go_ri dX5_signAt_28 rfl (by rw [show ch n c j = 0 from if_neg (by omega)]; rfl) rfl
    · refine go_iload_n (q := 13) dX5_signAt_12 rfl rfl rfl ?_
      refine go_bipush (q := 15) (v := 60) dX5_signAt_13 (by decide) rfl ?_
      refine go_icmp_geN j 60 (q := 18) (t := 27) dX5_signAt_15 (by decide) rfl rfl rfl (by omega) (by omega) (fun c_15 => ?_) (fun c_15 => ?_)
      · have := hP.2.1; omega
      · refine go_aload_n (q := 19) dX5_signAt_18 rfl rfl rfl ?_
        refine go_getf (q := 22) dX5_signAt_19 fRX5_11 rfl (by decide) rfl rfl ?_
        refine go_iload_n (q := 23) dX5_signAt_22 rfl rfl rfl ?_
        refine go_iald (q := 24) j dX5_signAt_23 rfl rfl (by decide) rfl (by omega) rfl ?_
        refine go_goto (q := 28) dX5_signAt_24 (by decide) ?_
        exact go_ri dX5_signAt_28 rfl (by rw [show ch n c j = c j from if_pos c_9]; exact (hP.2.2 j c_9).1) rfl
theorem ok_startsDeed {M : KM} {n : Nat} {c : Nat → Nat} (hP : PA M n c) {j : Nat} (hj : j < 2 ^ 31) : OkF mX5_startsDeed [vR 9 0, vI (nI j)] M (some (vI (bI (decide (j = 0 ∨ ch n c (j - 1) = 59))))) M := by
  refine ok_of (by decide) rfl (Nat.le_of_ble_eq_true rfl) ⟨rfl, rfl⟩ ?_
  show Go mX5_startsDeed (Zm (QF (some (vI (bI (decide (j = 0 ∨ ch n c (j - 1) = 59))))) M)) M [some (vR 9 0), some (vI (nI j))] [] 0
  refine go_iload_n (q := 1) dX5_startsDeed_0 rfl rfl rfl ?_
  refine go_if_eq (q := 4) (t := 16) dX5_startsDeed_1 (by decide) rfl (fun c_1 => ?_) (fun c_1 => ?_)
  · refine go_iconst (q := 17) (v := 1) dX5_startsDeed_16 (by decide) rfl ?_
    refine go_goto (q := 21) dX5_startsDeed_17 (by decide) ?_
    exact go_rz dX5_startsDeed_21 rfl (by rw [decide_eq_true (Or.inl ((nI_eq hj (by decide)).mp c_1))]; rfl) rfl
  · have hj0 : 0 < j := by
      rcases Nat.eq_zero_or_pos j with h | h
      · subst h; exact absurd rfl c_1
      · exact h
    refine go_aload_n (q := 5) dX5_startsDeed_4 rfl rfl rfl ?_
    refine go_iload_n (q := 6) dX5_startsDeed_5 rfl rfl rfl ?_
    refine go_iconst (q := 7) (v := 1) dX5_startsDeed_6 (by decide) rfl ?_
    refine go_isub (q := 8) dX5_startsDeed_7 rfl ?_
    refine go_topi (v := nI (j - 1)) (by obtain ⟨i, rfl⟩ : ∃ i, j = i + 1 := ⟨j - 1, by omega⟩; exact nI_pred i) ?_
    refine go_cV1 (cal := mX5_signAt) (q := 11) dX5_startsDeed_8 lRX5_19 vX5_signAt ⟨by decide, by decide⟩ rfl (by decide) (Nat.le_of_ble_eq_true rfl) (ok_signAt hP (by omega)) rfl ?_
    refine go_bipush (q := 13) (v := 59) dX5_startsDeed_11 (by decide) rfl ?_
    refine go_icmp_neN (ch n c (j - 1)) 59 (q := 16) (t := 20) dX5_startsDeed_13 (by decide) rfl rfl rfl (by have := ch_lt hP (j - 1); omega) (by omega) (fun c_13 => ?_) (fun c_13 => ?_)
    · refine go_iconst (q := 21) (v := 0) dX5_startsDeed_20 (by decide) rfl ?_
      exact go_rz dX5_startsDeed_21 rfl (by rw [decide_eq_false (by omega)]; rfl) rfl
    · refine go_iconst (q := 17) (v := 1) dX5_startsDeed_16 (by decide) rfl ?_
      refine go_goto (q := 21) dX5_startsDeed_17 (by decide) ?_
      exact go_rz dX5_startsDeed_21 rfl (by rw [decide_eq_true (Or.inr c_13)]; rfl) rfl
theorem ok_digitAt {M : KM} {n : Nat} {c : Nat → Nat} (hP : PA M n c) {j : Nat} (hj : j < 2 ^ 31) : OkF mX5_digitAt [vR 9 0, vI (nI j)] M (some (vI (nI (ch n c j) - 48))) M := by
  refine ok_of (by decide) rfl (Nat.le_of_ble_eq_true rfl) ⟨rfl, rfl⟩ ?_
  show Go mX5_digitAt (Zm (QF (some (vI (nI (ch n c j) - 48))) M)) M [some (vR 9 0), some (vI (nI j))] [] 0
  refine go_aload_n (q := 1) dX5_digitAt_0 rfl rfl rfl ?_
  refine go_iload_n (q := 2) dX5_digitAt_1 rfl rfl rfl ?_
  refine go_cV1 (cal := mX5_signAt) (q := 5) dX5_digitAt_2 lRX5_19 vX5_signAt ⟨by decide, by decide⟩ rfl (by decide) (Nat.le_of_ble_eq_true rfl) (ok_signAt hP hj) rfl ?_
  refine go_bipush (q := 7) (v := 48) dX5_digitAt_5 (by decide) rfl ?_
  refine go_isub (q := 8) dX5_digitAt_7 rfl ?_
  exact go_ri dX5_digitAt_8 rfl (by rfl) rfl
theorem ok_isBetween {M : KM} {x a b : Nat} (hx : x < 2 ^ 31) (ha : a < 2 ^ 31) (hb : b < 2 ^ 31) : OkF mX5_isBetween [vI (nI x), vI (nI a), vI (nI b)] M (some (vI (bI (isB x a b)))) M := by
  refine ok_of (by decide) rfl (Nat.le_of_ble_eq_true rfl) ⟨rfl, rfl⟩ ?_
  show Go mX5_isBetween (Zm (QF (some (vI (bI (isB x a b)))) M)) M [some (vI (nI x)), some (vI (nI a)), some (vI (nI b))] [] 0
  refine go_iload_n (q := 1) dX5_isBetween_0 rfl rfl rfl ?_
  refine go_iload_n (q := 2) dX5_isBetween_1 rfl rfl rfl ?_
  refine go_icmp_ltN x a (q := 5) (t := 14) dX5_isBetween_2 (by decide) rfl rfl rfl hx ha (fun c_2 => ?_) (fun c_2 => ?_)
  · refine go_iconst (q := 15) (v := 0) dX5_isBetween_14 (by decide) rfl ?_
    exact go_rz dX5_isBetween_15 rfl (by rw [show isB x a b = false from by simp [isB]; omega]; rfl) rfl
  · refine go_iload_n (q := 6) dX5_isBetween_5 rfl rfl rfl ?_
    refine go_iload_n (q := 7) dX5_isBetween_6 rfl rfl rfl ?_
    refine go_icmp_gtN x b (q := 10) (t := 14) dX5_isBetween_7 (by decide) rfl rfl rfl hx hb (fun c_7 => ?_) (fun c_7 => ?_)
    · refine go_iconst (q := 15) (v := 0) dX5_isBetween_14 (by decide) rfl ?_
      exact go_rz dX5_isBetween_15 rfl (by rw [show isB x a b = false from by simp [isB]; omega]; rfl) rfl
    · refine go_iconst (q := 11) (v := 1) dX5_isBetween_10 (by decide) rfl ?_
      refine go_goto (q := 15) dX5_isBetween_11 (by decide) ?_
      exact go_rz dX5_isBetween_15 rfl (by rw [show isB x a b = true from by simp [isB]; omega]; rfl) rfl
theorem ok_afterNumber {M : KM} {n : Nat} {c : Nat → Nat} (hP : PA M n c) {j : Nat} (hj : j + 1 < 2 ^ 31) : OkF mX5_afterNumber [vR 9 0, vI (nI j)] M (some (vI (nI (if isB (ch n c (j + 1)) 48 57 = true then j + 2 else j + 1)))) M := by
  refine ok_of (by decide) rfl (Nat.le_of_ble_eq_true rfl) ⟨rfl, rfl⟩ ?_
  show Go mX5_afterNumber (Zm (QF (some (vI (nI (if isB (ch n c (j + 1)) 48 57 = true then j + 2 else j + 1)))) M)) M [some (vR 9 0), some (vI (nI j))] [] 0
  refine go_aload_n (q := 1) dX5_afterNumber_0 rfl rfl rfl ?_
  refine go_iload_n (q := 2) dX5_afterNumber_1 rfl rfl rfl ?_
  refine go_iconst (q := 3) (v := 1) dX5_afterNumber_2 (by decide) rfl ?_
  refine go_iadd (q := 4) dX5_afterNumber_3 rfl ?_
  refine go_topi (nI_1 j) ?_
  refine go_cV1 (cal := mX5_signAt) (q := 7) dX5_afterNumber_4 lRX5_19 vX5_signAt ⟨by decide, by decide⟩ rfl (by decide) (Nat.le_of_ble_eq_true rfl) (ok_signAt hP hj) rfl ?_
  refine go_bipush (q := 9) (v := 48) dX5_afterNumber_7 (by decide) rfl ?_
  refine go_bipush (q := 11) (v := 57) dX5_afterNumber_9 (by decide) rfl ?_
  refine go_cS3 (cal := mX5_isBetween) (q := 14) dX5_afterNumber_11 lRX5_23 vX5_isBetween ⟨by decide, by decide⟩ (Nat.le_of_ble_eq_true rfl) (ok_isBetween (by have := ch_lt hP (j + 1); omega) (by decide) (by decide)) rfl ?_
  refine go_if_eqB (q := 17) (t := 23) dX5_afterNumber_14 (by decide) rfl (fun c_14 => ?_) (fun c_14 => ?_)
  · refine go_iload_n (q := 24) dX5_afterNumber_23 rfl rfl rfl ?_
    refine go_iconst (q := 25) (v := 1) dX5_afterNumber_24 (by decide) rfl ?_
    refine go_iadd (q := 26) dX5_afterNumber_25 rfl ?_
    exact go_ri dX5_afterNumber_26 rfl (by rw [c_14]; exact nI_add j 1) rfl
  · refine go_iload_n (q := 18) dX5_afterNumber_17 rfl rfl rfl ?_
    refine go_iconst (q := 19) (v := 2) dX5_afterNumber_18 (by decide) rfl ?_
    refine go_iadd (q := 20) dX5_afterNumber_19 rfl ?_
    refine go_goto (q := 26) dX5_afterNumber_20 (by decide) ?_
    exact go_ri dX5_afterNumber_26 rfl (by rw [c_14]; exact nI_add j 2) rfl
theorem ok_numberAt {M : KM} {n : Nat} {c : Nat → Nat} (hP : PA M n c) {j : Nat} (hj : j + 1 < 2 ^ 31) : OkF mX5_numberAt [vR 9 0, vI (nI j)] M (some (vI (if isB (ch n c (j + 1)) 48 57 = true then 10 * (nI (ch n c j) - 48) + (nI (ch n c (j + 1)) - 48) else nI (ch n c j) - 48))) M := by
  refine ok_of (by decide) rfl (Nat.le_of_ble_eq_true rfl) ⟨rfl, rfl⟩ ?_
  show Go mX5_numberAt (Zm (QF (some (vI (if isB (ch n c (j + 1)) 48 57 = true then 10 * (nI (ch n c j) - 48) + (nI (ch n c (j + 1)) - 48) else nI (ch n c j) - 48))) M)) M [some (vR 9 0), some (vI (nI j))] [] 0
  refine go_aload_n (q := 1) dX5_numberAt_0 rfl rfl rfl ?_
  refine go_iload_n (q := 2) dX5_numberAt_1 rfl rfl rfl ?_
  refine go_iconst (q := 3) (v := 1) dX5_numberAt_2 (by decide) rfl ?_
  refine go_iadd (q := 4) dX5_numberAt_3 rfl ?_
  refine go_topi (nI_1 j) ?_
  refine go_cV1 (cal := mX5_signAt) (q := 7) dX5_numberAt_4 lRX5_19 vX5_signAt ⟨by decide, by decide⟩ rfl (by decide) (Nat.le_of_ble_eq_true rfl) (ok_signAt hP hj) rfl ?_
  refine go_bipush (q := 9) (v := 48) dX5_numberAt_7 (by decide) rfl ?_
  refine go_bipush (q := 11) (v := 57) dX5_numberAt_9 (by decide) rfl ?_
  refine go_cS3 (cal := mX5_isBetween) (q := 14) dX5_numberAt_11 lRX5_23 vX5_isBetween ⟨by decide, by decide⟩ (Nat.le_of_ble_eq_true rfl) (ok_isBetween (by have := ch_lt hP (j + 1); omega) (by decide) (by decide)) rfl ?_
  refine go_if_eqB (q := 17) (t := 36) dX5_numberAt_14 (by decide) rfl (fun c_14 => ?_) (fun c_14 => ?_)
  · refine go_aload_n (q := 37) dX5_numberAt_36 rfl rfl rfl ?_
    refine go_iload_n (q := 38) dX5_numberAt_37 rfl rfl rfl ?_
    refine go_cV1 (cal := mX5_digitAt) (q := 41) dX5_numberAt_38 lRX5_27 vX5_digitAt ⟨by decide, by decide⟩ rfl (by decide) (Nat.le_of_ble_eq_true rfl) (ok_digitAt hP (by omega)) rfl ?_
    exact go_ri dX5_numberAt_41 rfl (by rw [c_14]; rfl) rfl
  · refine go_bipush (q := 19) (v := 10) dX5_numberAt_17 (by decide) rfl ?_
    refine go_aload_n (q := 20) dX5_numberAt_19 rfl rfl rfl ?_
    refine go_iload_n (q := 21) dX5_numberAt_20 rfl rfl rfl ?_
    refine go_cV1 (cal := mX5_digitAt) (q := 24) dX5_numberAt_21 lRX5_27 vX5_digitAt ⟨by decide, by decide⟩ rfl (by decide) (Nat.le_of_ble_eq_true rfl) (ok_digitAt hP (by omega)) rfl ?_
    refine go_imul (q := 25) dX5_numberAt_24 rfl ?_
    refine go_aload_n (q := 26) dX5_numberAt_25 rfl rfl rfl ?_
    refine go_iload_n (q := 27) dX5_numberAt_26 rfl rfl rfl ?_
    refine go_iconst (q := 28) (v := 1) dX5_numberAt_27 (by decide) rfl ?_
    refine go_iadd (q := 29) dX5_numberAt_28 rfl ?_
    refine go_topi (nI_1 j) ?_
    refine go_cV1 (cal := mX5_digitAt) (q := 32) dX5_numberAt_29 lRX5_27 vX5_digitAt ⟨by decide, by decide⟩ rfl (by decide) (Nat.le_of_ble_eq_true rfl) (ok_digitAt hP (by omega)) rfl ?_
    refine go_iadd (q := 33) dX5_numberAt_32 rfl ?_
    refine go_goto (q := 41) dX5_numberAt_33 (by decide) ?_
    exact go_ri dX5_numberAt_41 rfl (by rw [c_14]; rfl) rfl
/-- the shield that six signs tell -/
def shAt (n : Nat) (c : Nat → Nat) (j : Nat) : Nat → Int32
  | 0 => 0
  | k + 1 => shAt n c j k + (nI (ch n c (j + k)) - 48) * nI (5 ^ k)
theorem lp_shieldAt {M : KM} {n : Nat} {c : Nat → Nat} (hP : PA M n c) {j : Nat} (hj : j < 2 ^ 30) : ∀ (d : Nat) (k : Nat) (x y : Int32), 6 - k < d → (x = shAt n c j k) → (y = nI k) → (k ≤ 6) → Go mX5_shieldAt (Zm (QF (some (vI (shAt n c j 6))) M)) M [some (vR 9 0), some (vI (nI j)), some (vI x), some (vI y)] [] 4 := by
  intro d
  induction d with
  | zero => intro k x y hd; exact absurd hd (Nat.not_lt_zero _)
  | succ d ih =>
    intro k x y hd h0 h1 h2
    refine go_iload_n (q := 5) dX5_shieldAt_4 rfl rfl rfl ?_
    refine go_bipush (q := 7) (v := 6) dX5_shieldAt_5 (by decide) rfl ?_
    refine go_icmp_geN k 6 (q := 10) (t := 31) dX5_shieldAt_7 (by decide) rfl h1 rfl (by omega) (by omega) (fun c_7 => ?_) (fun c_7 => ?_)
    · refine go_iload_n (q := 32) dX5_shieldAt_31 rfl rfl rfl ?_
      exact go_ri dX5_shieldAt_32 rfl (by rw [h0, show k = 6 by omega]) rfl
    · subst h1
      refine go_iload_n (q := 11) dX5_shieldAt_10 rfl rfl rfl ?_
      refine go_aload_n (q := 12) dX5_shieldAt_11 rfl rfl rfl ?_
      refine go_iload_n (q := 13) dX5_shieldAt_12 rfl rfl rfl ?_
      refine go_iload_n (q := 14) dX5_shieldAt_13 rfl rfl rfl ?_
      refine go_iadd (q := 15) dX5_shieldAt_14 rfl ?_
      refine go_topi (nI_add j k) ?_
      refine go_cV1 (cal := mX5_digitAt) (q := 18) dX5_shieldAt_15 lRX5_27 vX5_digitAt ⟨by decide, by decide⟩ rfl (by decide) (Nat.le_of_ble_eq_true rfl) (ok_digitAt hP (by omega)) rfl ?_
      refine go_iload_n (q := 19) dX5_shieldAt_18 rfl rfl rfl ?_
      refine go_cS1 (cal := mX8_weightOf) (q := 22) dX5_shieldAt_19 lRX5_30 vX8_weightOf ⟨by decide, by decide⟩ (Nat.le_of_ble_eq_true rfl) (ok_weightOf (by omega)) rfl ?_
      refine go_imul (q := 23) dX5_shieldAt_22 rfl ?_
      refine go_iadd (q := 24) dX5_shieldAt_23 rfl ?_
      refine go_istore_n (q := 25) dX5_shieldAt_24 rfl (by decide) rfl rfl ?_
      refine go_iinc (q := 28) (v := 1) dX5_shieldAt_25 (by decide) rfl (by decide) rfl rfl ?_
      refine go_goto (q := 4) dX5_shieldAt_28 (by decide) ?_
      exact ih (k + 1) _ _ (by omega) (by rw [h0]; rfl) (nI_1 k) (by omega)
theorem ok_shieldAt {M : KM} {n : Nat} {c : Nat → Nat} (hP : PA M n c) {j : Nat} (hj : j < 2 ^ 30) : OkF mX5_shieldAt [vR 9 0, vI (nI j)] M (some (vI (shAt n c j 6))) M := by
  refine ok_of (by decide) rfl (Nat.le_of_ble_eq_true rfl) ⟨rfl, rfl⟩ ?_
  show Go mX5_shieldAt (Zm (QF (some (vI (shAt n c j 6))) M)) M [some (vR 9 0), some (vI (nI j)), none, none] [] 0
  refine go_iconst (q := 1) (v := 0) dX5_shieldAt_0 (by decide) rfl ?_
  refine go_istore_n (q := 2) dX5_shieldAt_1 rfl (by decide) rfl rfl ?_
  refine go_iconst (q := 3) (v := 0) dX5_shieldAt_2 (by decide) rfl ?_
  refine go_istore_n (q := 4) dX5_shieldAt_3 rfl (by decide) rfl rfl ?_
  exact lp_shieldAt hP hj 7 0 _ _ (by omega) rfl rfl (by omega)
theorem ok_stateAfterFather {M : KM} {x : Nat} (hx : x < 127) : OkF mX5_stateAfterFather [vI (nI x)] M (some (vI (e1 (sFat x)))) M := by
  refine ok_of (by decide) rfl (Nat.le_of_ble_eq_true rfl) ⟨rfl, rfl⟩ ?_
  show Go mX5_stateAfterFather (Zm (QF (some (vI (e1 (sFat x)))) M)) M [some (vI (nI x))] [] 0
  refine go_iload_n (q := 1) dX5_stateAfterFather_0 rfl rfl rfl ?_
  refine go_bipush (q := 3) (v := 46) dX5_stateAfterFather_1 (by decide) rfl ?_
  refine go_icmp_neN x 46 (q := 6) (t := 11) dX5_stateAfterFather_3 (by decide) rfl rfl rfl (by omega) (by omega) (fun c_3 => ?_) (fun c_3 => ?_)
  · refine go_iconst (q := 12) (v := (-1)) dX5_stateAfterFather_11 (by decide) rfl ?_
    exact go_ri dX5_stateAfterFather_12 rfl (by rw [show sFat x = none from if_neg c_3]; rfl) rfl
  · refine go_bipush (q := 8) (v := 11) dX5_stateAfterFather_6 (by decide) rfl ?_
    refine go_goto (q := 12) dX5_stateAfterFather_8 (by decide) ?_
    exact go_ri dX5_stateAfterFather_12 rfl (by rw [show sFat x = some _ from if_pos c_3]; rfl) rfl
theorem ok_stateAfterDeed {M : KM} {x : Nat} (hx : x < 127) : OkF mX5_stateAfterDeed [vI (nI x)] M (some (vI (e1 (sDeed x)))) M := by
  refine ok_of (by decide) rfl (Nat.le_of_ble_eq_true rfl) ⟨rfl, rfl⟩ ?_
  show Go mX5_stateAfterDeed (Zm (QF (some (vI (e1 (sDeed x)))) M)) M [some (vI (nI x))] [] 0
  refine go_iload_n (q := 1) dX5_stateAfterDeed_0 rfl rfl rfl ?_
  refine go_bipush (q := 3) (v := 59) dX5_stateAfterDeed_1 (by decide) rfl ?_
  refine go_icmp_neN x 59 (q := 6) (t := 11) dX5_stateAfterDeed_3 (by decide) rfl rfl rfl (by omega) (by omega) (fun c_3 => ?_) (fun c_3 => ?_)
  · refine go_iconst (q := 12) (v := (-1)) dX5_stateAfterDeed_11 (by decide) rfl ?_
    exact go_ri dX5_stateAfterDeed_12 rfl (by rw [show sDeed x = none from if_neg c_3]; rfl) rfl
  · refine go_bipush (q := 8) (v := 7) dX5_stateAfterDeed_6 (by decide) rfl ?_
    refine go_goto (q := 12) dX5_stateAfterDeed_8 (by decide) ?_
    exact go_ri dX5_stateAfterDeed_12 rfl (by rw [show sDeed x = some _ from if_pos c_3]; rfl) rfl
theorem ok_stateAfterDigit {M : KM} {x : Nat} (hx : x < 127) {a b : Nat} : OkF mX5_stateAfterDigit [vI (nI x), vI (nI a), vI (nI b)] M (some (vI (e1 (sDig x a b)))) M := by
  refine ok_of (by decide) rfl (Nat.le_of_ble_eq_true rfl) ⟨rfl, rfl⟩ ?_
  show Go mX5_stateAfterDigit (Zm (QF (some (vI (e1 (sDig x a b)))) M)) M [some (vI (nI x)), some (vI (nI a)), some (vI (nI b))] [] 0
  refine go_iload_n (q := 1) dX5_stateAfterDigit_0 rfl rfl rfl ?_
  refine go_bipush (q := 3) (v := 48) dX5_stateAfterDigit_1 (by decide) rfl ?_
  refine go_bipush (q := 5) (v := 57) dX5_stateAfterDigit_3 (by decide) rfl ?_
  refine go_cS3 (cal := mX5_isBetween) (q := 8) dX5_stateAfterDigit_5 lRX5_23 vX5_isBetween ⟨by decide, by decide⟩ (Nat.le_of_ble_eq_true rfl) (ok_isBetween (by omega) (by decide) (by decide)) rfl ?_
  refine go_if_neB (q := 11) (t := 13) dX5_stateAfterDigit_8 (by decide) rfl (fun c_8 => ?_) (fun c_8 => ?_)
  · refine go_iload_n (q := 14) dX5_stateAfterDigit_13 rfl rfl rfl ?_
    refine go_bipush (q := 16) (v := 49) dX5_stateAfterDigit_14 (by decide) rfl ?_
    refine go_icmp_neN x 49 (q := 19) (t := 23) dX5_stateAfterDigit_16 (by decide) rfl rfl rfl (by omega) (by omega) (fun c_16 => ?_) (fun c_16 => ?_)
    · refine go_iload_n (q := 24) dX5_stateAfterDigit_23 rfl rfl rfl ?_
      exact go_ri dX5_stateAfterDigit_24 rfl (by show _ = e1 (if isB x 48 57 = false then none else if x = 49 then _ else _); rw [c_8, if_neg (by decide), if_neg c_16]; rfl) rfl
    · refine go_iload_n (q := 20) dX5_stateAfterDigit_19 rfl rfl rfl ?_
      refine go_goto (q := 24) dX5_stateAfterDigit_20 (by decide) ?_
      exact go_ri dX5_stateAfterDigit_24 rfl (by show _ = e1 (if isB x 48 57 = false then none else if x = 49 then _ else _); rw [c_8, if_neg (by decide), if_pos c_16]; rfl) rfl
  · refine go_iconst (q := 12) (v := (-1)) dX5_stateAfterDigit_11 (by decide) rfl ?_
    exact go_ri dX5_stateAfterDigit_12 rfl (by rw [show sDig x a b = none from if_pos c_8]; rfl) rfl
theorem ok_stateAfterLetter {M : KM} {x : Nat} (hx : x < 127) : OkF mX5_stateAfterLetter [vI (nI x)] M (some (vI (e1 (sLet x)))) M := by
  refine ok_of (by decide) rfl (Nat.le_of_ble_eq_true rfl) ⟨rfl, rfl⟩ ?_
  show Go mX5_stateAfterLetter (Zm (QF (some (vI (e1 (sLet x)))) M)) M [some (vI (nI x))] [] 0
  by_cases h100 : x = 100
  · subst h100
    refine go_iload_n (q := 1) dX5_stateAfterLetter_0 rfl rfl rfl ?_
    refine go_lookup (off := 49) (q := 50) dX5_stateAfterLetter_1 rfl (by rw [(show (nI 100).toInt = 100 from by decide)]; try rfl) (by decide) ?_
    refine go_bipush (q := 52) (v := 13) dX5_stateAfterLetter_50 (by decide) rfl ?_
    exact go_ri dX5_stateAfterLetter_52 rfl rfl rfl
  by_cases h102 : x = 102
  · subst h102
    refine go_iload_n (q := 1) dX5_stateAfterLetter_0 rfl rfl rfl ?_
    refine go_lookup (off := 43) (q := 44) dX5_stateAfterLetter_1 rfl (by rw [(show (nI 102).toInt = 102 from by decide)]; try rfl) (by decide) ?_
    refine go_bipush (q := 46) (v := 6) dX5_stateAfterLetter_44 (by decide) rfl ?_
    exact go_ri dX5_stateAfterLetter_46 rfl rfl rfl
  by_cases h104 : x = 104
  · subst h104
    refine go_iload_n (q := 1) dX5_stateAfterLetter_0 rfl rfl rfl ?_
    refine go_lookup (off := 49) (q := 50) dX5_stateAfterLetter_1 rfl (by rw [(show (nI 104).toInt = 104 from by decide)]; try rfl) (by decide) ?_
    refine go_bipush (q := 52) (v := 13) dX5_stateAfterLetter_50 (by decide) rfl ?_
    exact go_ri dX5_stateAfterLetter_52 rfl rfl rfl
  by_cases h115 : x = 115
  · subst h115
    refine go_iload_n (q := 1) dX5_stateAfterLetter_0 rfl rfl rfl ?_
    refine go_lookup (off := 46) (q := 47) dX5_stateAfterLetter_1 rfl (by rw [(show (nI 115).toInt = 115 from by decide)]; try rfl) (by decide) ?_
    refine go_bipush (q := 49) (v := 8) dX5_stateAfterLetter_47 (by decide) rfl ?_
    exact go_ri dX5_stateAfterLetter_49 rfl rfl rfl
  refine go_iload_n (q := 1) dX5_stateAfterLetter_0 rfl rfl rfl ?_
  refine go_lookup (off := 52) (q := 53) dX5_stateAfterLetter_1 rfl (by rw [nI_toInt (by omega)]; simp only [Op.lookupswitch.offset_cons, Op.lookupswitch.offset_nil]; rw [if_neg (by omega), if_neg (by omega), if_neg (by omega), if_neg (by omega)]) (by decide) ?_
  refine go_iconst (q := 54) (v := (-1)) dX5_stateAfterLetter_53 (by decide) rfl ?_
  exact go_ri dX5_stateAfterLetter_54 rfl (by simp [sLet, h100, h102, h104, h115, e1]) rfl
theorem ok_sA0 {M : KM} {x : Nat} (hx : x < 127) : OkF mX5_stateAfter [vI (nI 0), vI (nI x)] M (some (vI (e1 (sA 0 x)))) M := by
  refine ok_of (by decide) rfl (Nat.le_of_ble_eq_true rfl) ⟨rfl, rfl⟩ ?_
  show Go mX5_stateAfter (Zm (QF (some (vI (e1 (sA 0 x)))) M)) M [some (vI (nI 0)), some (vI (nI x))] [] 0
  refine go_iload_n (q := 1) dX5_stateAfter_0 rfl rfl rfl ?_
  refine go_tableIn 0 (q := 76) dX5_stateAfter_1 (show (nI 0).toInt = 0 from by decide) (by decide) (by decide) rfl (by decide) ?_
  refine go_iload_n (q := 77) dX5_stateAfter_76 rfl rfl rfl ?_
  refine go_cS1 (cal := mX5_stateAfterDeed) (q := 80) dX5_stateAfter_77 lRX5_39 vX5_stateAfterDeed ⟨by decide, by decide⟩ (Nat.le_of_ble_eq_true rfl) (ok_stateAfterDeed hx) rfl ?_
  exact go_ri dX5_stateAfter_80 rfl rfl rfl
theorem ok_sA1 {M : KM} {x : Nat} (hx : x < 127) : OkF mX5_stateAfter [vI (nI 1), vI (nI x)] M (some (vI (e1 (sA 1 x)))) M := by
  refine ok_of (by decide) rfl (Nat.le_of_ble_eq_true rfl) ⟨rfl, rfl⟩ ?_
  show Go mX5_stateAfter (Zm (QF (some (vI (e1 (sA 1 x)))) M)) M [some (vI (nI 1)), some (vI (nI x))] [] 0
  refine go_iload_n (q := 1) dX5_stateAfter_0 rfl rfl rfl ?_
  refine go_tableIn 1 (q := 179) dX5_stateAfter_1 (show (nI 1).toInt = 1 from by decide) (by decide) (by decide) rfl (by decide) ?_
  refine go_iload_n (q := 180) dX5_stateAfter_179 rfl rfl rfl ?_
  refine go_bipush (q := 182) (v := 48) dX5_stateAfter_180 (by decide) rfl ?_
  refine go_bipush (q := 184) (v := 52) dX5_stateAfter_182 (by decide) rfl ?_
  refine go_cS3 (cal := mX5_isBetween) (q := 187) dX5_stateAfter_184 lRX5_23 vX5_isBetween ⟨by decide, by decide⟩ (Nat.le_of_ble_eq_true rfl) (ok_isBetween (by omega) (by decide) (by decide)) rfl ?_
  refine go_if_eqB (q := 190) (t := 196) dX5_stateAfter_187 (by decide) rfl (fun c_187 => ?_) (fun c_187 => ?_)
  · refine go_iconst (q := 197) (v := (-1)) dX5_stateAfter_196 (by decide) rfl ?_
    exact go_ri dX5_stateAfter_197 rfl (by show _ = e1 (if isB x _ _ = true then _ else _); rw [c_187]; first | rfl | decide) rfl
  · refine go_iload_n (q := 191) dX5_stateAfter_190 rfl rfl rfl ?_
    refine go_iconst (q := 192) (v := 1) dX5_stateAfter_191 (by decide) rfl ?_
    refine go_isub (q := 193) dX5_stateAfter_192 rfl ?_
    refine go_goto (q := 197) dX5_stateAfter_193 (by decide) ?_
    exact go_ri dX5_stateAfter_197 rfl (by show _ = e1 (if isB x _ _ = true then _ else _); rw [c_187]; first | rfl | decide) rfl
theorem ok_sA2 {M : KM} {x : Nat} (hx : x < 127) : OkF mX5_stateAfter [vI (nI 2), vI (nI x)] M (some (vI (e1 (sA 2 x)))) M := by
  refine ok_of (by decide) rfl (Nat.le_of_ble_eq_true rfl) ⟨rfl, rfl⟩ ?_
  show Go mX5_stateAfter (Zm (QF (some (vI (e1 (sA 2 x)))) M)) M [some (vI (nI 2)), some (vI (nI x))] [] 0
  refine go_iload_n (q := 1) dX5_stateAfter_0 rfl rfl rfl ?_
  refine go_tableIn 2 (q := 179) dX5_stateAfter_1 (show (nI 2).toInt = 2 from by decide) (by decide) (by decide) rfl (by decide) ?_
  refine go_iload_n (q := 180) dX5_stateAfter_179 rfl rfl rfl ?_
  refine go_bipush (q := 182) (v := 48) dX5_stateAfter_180 (by decide) rfl ?_
  refine go_bipush (q := 184) (v := 52) dX5_stateAfter_182 (by decide) rfl ?_
  refine go_cS3 (cal := mX5_isBetween) (q := 187) dX5_stateAfter_184 lRX5_23 vX5_isBetween ⟨by decide, by decide⟩ (Nat.le_of_ble_eq_true rfl) (ok_isBetween (by omega) (by decide) (by decide)) rfl ?_
  refine go_if_eqB (q := 190) (t := 196) dX5_stateAfter_187 (by decide) rfl (fun c_187 => ?_) (fun c_187 => ?_)
  · refine go_iconst (q := 197) (v := (-1)) dX5_stateAfter_196 (by decide) rfl ?_
    exact go_ri dX5_stateAfter_197 rfl (by show _ = e1 (if isB x _ _ = true then _ else _); rw [c_187]; first | rfl | decide) rfl
  · refine go_iload_n (q := 191) dX5_stateAfter_190 rfl rfl rfl ?_
    refine go_iconst (q := 192) (v := 1) dX5_stateAfter_191 (by decide) rfl ?_
    refine go_isub (q := 193) dX5_stateAfter_192 rfl ?_
    refine go_goto (q := 197) dX5_stateAfter_193 (by decide) ?_
    exact go_ri dX5_stateAfter_197 rfl (by show _ = e1 (if isB x _ _ = true then _ else _); rw [c_187]; first | rfl | decide) rfl
theorem ok_sA3 {M : KM} {x : Nat} (hx : x < 127) : OkF mX5_stateAfter [vI (nI 3), vI (nI x)] M (some (vI (e1 (sA 3 x)))) M := by
  refine ok_of (by decide) rfl (Nat.le_of_ble_eq_true rfl) ⟨rfl, rfl⟩ ?_
  show Go mX5_stateAfter (Zm (QF (some (vI (e1 (sA 3 x)))) M)) M [some (vI (nI 3)), some (vI (nI x))] [] 0
  refine go_iload_n (q := 1) dX5_stateAfter_0 rfl rfl rfl ?_
  refine go_tableIn 3 (q := 179) dX5_stateAfter_1 (show (nI 3).toInt = 3 from by decide) (by decide) (by decide) rfl (by decide) ?_
  refine go_iload_n (q := 180) dX5_stateAfter_179 rfl rfl rfl ?_
  refine go_bipush (q := 182) (v := 48) dX5_stateAfter_180 (by decide) rfl ?_
  refine go_bipush (q := 184) (v := 52) dX5_stateAfter_182 (by decide) rfl ?_
  refine go_cS3 (cal := mX5_isBetween) (q := 187) dX5_stateAfter_184 lRX5_23 vX5_isBetween ⟨by decide, by decide⟩ (Nat.le_of_ble_eq_true rfl) (ok_isBetween (by omega) (by decide) (by decide)) rfl ?_
  refine go_if_eqB (q := 190) (t := 196) dX5_stateAfter_187 (by decide) rfl (fun c_187 => ?_) (fun c_187 => ?_)
  · refine go_iconst (q := 197) (v := (-1)) dX5_stateAfter_196 (by decide) rfl ?_
    exact go_ri dX5_stateAfter_197 rfl (by show _ = e1 (if isB x _ _ = true then _ else _); rw [c_187]; first | rfl | decide) rfl
  · refine go_iload_n (q := 191) dX5_stateAfter_190 rfl rfl rfl ?_
    refine go_iconst (q := 192) (v := 1) dX5_stateAfter_191 (by decide) rfl ?_
    refine go_isub (q := 193) dX5_stateAfter_192 rfl ?_
    refine go_goto (q := 197) dX5_stateAfter_193 (by decide) ?_
    exact go_ri dX5_stateAfter_197 rfl (by show _ = e1 (if isB x _ _ = true then _ else _); rw [c_187]; first | rfl | decide) rfl
theorem ok_sA4 {M : KM} {x : Nat} (hx : x < 127) : OkF mX5_stateAfter [vI (nI 4), vI (nI x)] M (some (vI (e1 (sA 4 x)))) M := by
  refine ok_of (by decide) rfl (Nat.le_of_ble_eq_true rfl) ⟨rfl, rfl⟩ ?_
  show Go mX5_stateAfter (Zm (QF (some (vI (e1 (sA 4 x)))) M)) M [some (vI (nI 4)), some (vI (nI x))] [] 0
  refine go_iload_n (q := 1) dX5_stateAfter_0 rfl rfl rfl ?_
  refine go_tableIn 4 (q := 179) dX5_stateAfter_1 (show (nI 4).toInt = 4 from by decide) (by decide) (by decide) rfl (by decide) ?_
  refine go_iload_n (q := 180) dX5_stateAfter_179 rfl rfl rfl ?_
  refine go_bipush (q := 182) (v := 48) dX5_stateAfter_180 (by decide) rfl ?_
  refine go_bipush (q := 184) (v := 52) dX5_stateAfter_182 (by decide) rfl ?_
  refine go_cS3 (cal := mX5_isBetween) (q := 187) dX5_stateAfter_184 lRX5_23 vX5_isBetween ⟨by decide, by decide⟩ (Nat.le_of_ble_eq_true rfl) (ok_isBetween (by omega) (by decide) (by decide)) rfl ?_
  refine go_if_eqB (q := 190) (t := 196) dX5_stateAfter_187 (by decide) rfl (fun c_187 => ?_) (fun c_187 => ?_)
  · refine go_iconst (q := 197) (v := (-1)) dX5_stateAfter_196 (by decide) rfl ?_
    exact go_ri dX5_stateAfter_197 rfl (by show _ = e1 (if isB x _ _ = true then _ else _); rw [c_187]; first | rfl | decide) rfl
  · refine go_iload_n (q := 191) dX5_stateAfter_190 rfl rfl rfl ?_
    refine go_iconst (q := 192) (v := 1) dX5_stateAfter_191 (by decide) rfl ?_
    refine go_isub (q := 193) dX5_stateAfter_192 rfl ?_
    refine go_goto (q := 197) dX5_stateAfter_193 (by decide) ?_
    exact go_ri dX5_stateAfter_197 rfl (by show _ = e1 (if isB x _ _ = true then _ else _); rw [c_187]; first | rfl | decide) rfl
theorem ok_sA5 {M : KM} {x : Nat} (hx : x < 127) : OkF mX5_stateAfter [vI (nI 5), vI (nI x)] M (some (vI (e1 (sA 5 x)))) M := by
  refine ok_of (by decide) rfl (Nat.le_of_ble_eq_true rfl) ⟨rfl, rfl⟩ ?_
  show Go mX5_stateAfter (Zm (QF (some (vI (e1 (sA 5 x)))) M)) M [some (vI (nI 5)), some (vI (nI x))] [] 0
  refine go_iload_n (q := 1) dX5_stateAfter_0 rfl rfl rfl ?_
  refine go_tableIn 5 (q := 179) dX5_stateAfter_1 (show (nI 5).toInt = 5 from by decide) (by decide) (by decide) rfl (by decide) ?_
  refine go_iload_n (q := 180) dX5_stateAfter_179 rfl rfl rfl ?_
  refine go_bipush (q := 182) (v := 48) dX5_stateAfter_180 (by decide) rfl ?_
  refine go_bipush (q := 184) (v := 52) dX5_stateAfter_182 (by decide) rfl ?_
  refine go_cS3 (cal := mX5_isBetween) (q := 187) dX5_stateAfter_184 lRX5_23 vX5_isBetween ⟨by decide, by decide⟩ (Nat.le_of_ble_eq_true rfl) (ok_isBetween (by omega) (by decide) (by decide)) rfl ?_
  refine go_if_eqB (q := 190) (t := 196) dX5_stateAfter_187 (by decide) rfl (fun c_187 => ?_) (fun c_187 => ?_)
  · refine go_iconst (q := 197) (v := (-1)) dX5_stateAfter_196 (by decide) rfl ?_
    exact go_ri dX5_stateAfter_197 rfl (by show _ = e1 (if isB x _ _ = true then _ else _); rw [c_187]; first | rfl | decide) rfl
  · refine go_iload_n (q := 191) dX5_stateAfter_190 rfl rfl rfl ?_
    refine go_iconst (q := 192) (v := 1) dX5_stateAfter_191 (by decide) rfl ?_
    refine go_isub (q := 193) dX5_stateAfter_192 rfl ?_
    refine go_goto (q := 197) dX5_stateAfter_193 (by decide) ?_
    exact go_ri dX5_stateAfter_197 rfl (by show _ = e1 (if isB x _ _ = true then _ else _); rw [c_187]; first | rfl | decide) rfl
theorem ok_sA6 {M : KM} {x : Nat} (hx : x < 127) : OkF mX5_stateAfter [vI (nI 6), vI (nI x)] M (some (vI (e1 (sA 6 x)))) M := by
  refine ok_of (by decide) rfl (Nat.le_of_ble_eq_true rfl) ⟨rfl, rfl⟩ ?_
  show Go mX5_stateAfter (Zm (QF (some (vI (e1 (sA 6 x)))) M)) M [some (vI (nI 6)), some (vI (nI x))] [] 0
  refine go_iload_n (q := 1) dX5_stateAfter_0 rfl rfl rfl ?_
  refine go_tableIn 6 (q := 179) dX5_stateAfter_1 (show (nI 6).toInt = 6 from by decide) (by decide) (by decide) rfl (by decide) ?_
  refine go_iload_n (q := 180) dX5_stateAfter_179 rfl rfl rfl ?_
  refine go_bipush (q := 182) (v := 48) dX5_stateAfter_180 (by decide) rfl ?_
  refine go_bipush (q := 184) (v := 52) dX5_stateAfter_182 (by decide) rfl ?_
  refine go_cS3 (cal := mX5_isBetween) (q := 187) dX5_stateAfter_184 lRX5_23 vX5_isBetween ⟨by decide, by decide⟩ (Nat.le_of_ble_eq_true rfl) (ok_isBetween (by omega) (by decide) (by decide)) rfl ?_
  refine go_if_eqB (q := 190) (t := 196) dX5_stateAfter_187 (by decide) rfl (fun c_187 => ?_) (fun c_187 => ?_)
  · refine go_iconst (q := 197) (v := (-1)) dX5_stateAfter_196 (by decide) rfl ?_
    exact go_ri dX5_stateAfter_197 rfl (by show _ = e1 (if isB x _ _ = true then _ else _); rw [c_187]; first | rfl | decide) rfl
  · refine go_iload_n (q := 191) dX5_stateAfter_190 rfl rfl rfl ?_
    refine go_iconst (q := 192) (v := 1) dX5_stateAfter_191 (by decide) rfl ?_
    refine go_isub (q := 193) dX5_stateAfter_192 rfl ?_
    refine go_goto (q := 197) dX5_stateAfter_193 (by decide) ?_
    exact go_ri dX5_stateAfter_197 rfl (by show _ = e1 (if isB x _ _ = true then _ else _); rw [c_187]; first | rfl | decide) rfl
theorem ok_sA7 {M : KM} {x : Nat} (hx : x < 127) : OkF mX5_stateAfter [vI (nI 7), vI (nI x)] M (some (vI (e1 (sA 7 x)))) M := by
  refine ok_of (by decide) rfl (Nat.le_of_ble_eq_true rfl) ⟨rfl, rfl⟩ ?_
  show Go mX5_stateAfter (Zm (QF (some (vI (e1 (sA 7 x)))) M)) M [some (vI (nI 7)), some (vI (nI x))] [] 0
  refine go_iload_n (q := 1) dX5_stateAfter_0 rfl rfl rfl ?_
  refine go_tableIn 7 (q := 81) dX5_stateAfter_1 (show (nI 7).toInt = 7 from by decide) (by decide) (by decide) rfl (by decide) ?_
  refine go_iload_n (q := 82) dX5_stateAfter_81 rfl rfl rfl ?_
  refine go_cS1 (cal := mX5_stateAfterLetter) (q := 85) dX5_stateAfter_82 lRX5_42 vX5_stateAfterLetter ⟨by decide, by decide⟩ (Nat.le_of_ble_eq_true rfl) (ok_stateAfterLetter hx) rfl ?_
  exact go_ri dX5_stateAfter_85 rfl rfl rfl
theorem ok_sA8 {M : KM} {x : Nat} (hx : x < 127) : OkF mX5_stateAfter [vI (nI 8), vI (nI x)] M (some (vI (e1 (sA 8 x)))) M := by
  refine ok_of (by decide) rfl (Nat.le_of_ble_eq_true rfl) ⟨rfl, rfl⟩ ?_
  show Go mX5_stateAfter (Zm (QF (some (vI (e1 (sA 8 x)))) M)) M [some (vI (nI 8)), some (vI (nI x))] [] 0
  refine go_iload_n (q := 1) dX5_stateAfter_0 rfl rfl rfl ?_
  refine go_tableIn 8 (q := 86) dX5_stateAfter_1 (show (nI 8).toInt = 8 from by decide) (by decide) (by decide) rfl (by decide) ?_
  refine go_iload_n (q := 87) dX5_stateAfter_86 rfl rfl rfl ?_
  refine go_bipush (q := 89) (v := 9) dX5_stateAfter_87 (by decide) rfl ?_
  refine go_bipush (q := 91) (v := 10) dX5_stateAfter_89 (by decide) rfl ?_
  refine go_cS3 (cal := mX5_stateAfterDigit) (q := 94) dX5_stateAfter_91 lRX5_45 vX5_stateAfterDigit ⟨by decide, by decide⟩ (Nat.le_of_ble_eq_true rfl) (ok_stateAfterDigit hx) rfl ?_
  exact go_ri dX5_stateAfter_94 rfl rfl rfl
theorem ok_sA9 {M : KM} {x : Nat} (hx : x < 127) : OkF mX5_stateAfter [vI (nI 9), vI (nI x)] M (some (vI (e1 (sA 9 x)))) M := by
  refine ok_of (by decide) rfl (Nat.le_of_ble_eq_true rfl) ⟨rfl, rfl⟩ ?_
  show Go mX5_stateAfter (Zm (QF (some (vI (e1 (sA 9 x)))) M)) M [some (vI (nI 9)), some (vI (nI x))] [] 0
  refine go_iload_n (q := 1) dX5_stateAfter_0 rfl rfl rfl ?_
  refine go_tableIn 9 (q := 95) dX5_stateAfter_1 (show (nI 9).toInt = 9 from by decide) (by decide) (by decide) rfl (by decide) ?_
  refine go_iload_n (q := 96) dX5_stateAfter_95 rfl rfl rfl ?_
  refine go_bipush (q := 98) (v := 48) dX5_stateAfter_96 (by decide) rfl ?_
  refine go_bipush (q := 100) (v := 57) dX5_stateAfter_98 (by decide) rfl ?_
  refine go_cS3 (cal := mX5_isBetween) (q := 103) dX5_stateAfter_100 lRX5_23 vX5_isBetween ⟨by decide, by decide⟩ (Nat.le_of_ble_eq_true rfl) (ok_isBetween (by omega) (by decide) (by decide)) rfl ?_
  refine go_if_eqB (q := 106) (t := 111) dX5_stateAfter_103 (by decide) rfl (fun c_103 => ?_) (fun c_103 => ?_)
  · refine go_iload_n (q := 112) dX5_stateAfter_111 rfl rfl rfl ?_
    refine go_cS1 (cal := mX5_stateAfterFather) (q := 115) dX5_stateAfter_112 lRX5_49 vX5_stateAfterFather ⟨by decide, by decide⟩ (Nat.le_of_ble_eq_true rfl) (ok_stateAfterFather hx) rfl ?_
    exact go_ri dX5_stateAfter_115 rfl (by show _ = e1 (if isB x _ _ = true then _ else _); rw [c_103]; first | rfl | decide) rfl
  · refine go_bipush (q := 108) (v := 10) dX5_stateAfter_106 (by decide) rfl ?_
    refine go_goto (q := 115) dX5_stateAfter_108 (by decide) ?_
    exact go_ri dX5_stateAfter_115 rfl (by show _ = e1 (if isB x _ _ = true then _ else _); rw [c_103]; first | rfl | decide) rfl
theorem ok_sA10 {M : KM} {x : Nat} (hx : x < 127) : OkF mX5_stateAfter [vI (nI 10), vI (nI x)] M (some (vI (e1 (sA 10 x)))) M := by
  refine ok_of (by decide) rfl (Nat.le_of_ble_eq_true rfl) ⟨rfl, rfl⟩ ?_
  show Go mX5_stateAfter (Zm (QF (some (vI (e1 (sA 10 x)))) M)) M [some (vI (nI 10)), some (vI (nI x))] [] 0
  refine go_iload_n (q := 1) dX5_stateAfter_0 rfl rfl rfl ?_
  refine go_tableIn 10 (q := 116) dX5_stateAfter_1 (show (nI 10).toInt = 10 from by decide) (by decide) (by decide) rfl (by decide) ?_
  refine go_iload_n (q := 117) dX5_stateAfter_116 rfl rfl rfl ?_
  refine go_cS1 (cal := mX5_stateAfterFather) (q := 120) dX5_stateAfter_117 lRX5_49 vX5_stateAfterFather ⟨by decide, by decide⟩ (Nat.le_of_ble_eq_true rfl) (ok_stateAfterFather hx) rfl ?_
  exact go_ri dX5_stateAfter_120 rfl rfl rfl
theorem ok_sA11 {M : KM} {x : Nat} (hx : x < 127) : OkF mX5_stateAfter [vI (nI 11), vI (nI x)] M (some (vI (e1 (sA 11 x)))) M := by
  refine ok_of (by decide) rfl (Nat.le_of_ble_eq_true rfl) ⟨rfl, rfl⟩ ?_
  show Go mX5_stateAfter (Zm (QF (some (vI (e1 (sA 11 x)))) M)) M [some (vI (nI 11)), some (vI (nI x))] [] 0
  refine go_iload_n (q := 1) dX5_stateAfter_0 rfl rfl rfl ?_
  refine go_tableIn 11 (q := 121) dX5_stateAfter_1 (show (nI 11).toInt = 11 from by decide) (by decide) (by decide) rfl (by decide) ?_
  refine go_iload_n (q := 122) dX5_stateAfter_121 rfl rfl rfl ?_
  refine go_bipush (q := 124) (v := 48) dX5_stateAfter_122 (by decide) rfl ?_
  refine go_bipush (q := 126) (v := 53) dX5_stateAfter_124 (by decide) rfl ?_
  refine go_cS3 (cal := mX5_isBetween) (q := 129) dX5_stateAfter_126 lRX5_23 vX5_isBetween ⟨by decide, by decide⟩ (Nat.le_of_ble_eq_true rfl) (ok_isBetween (by omega) (by decide) (by decide)) rfl ?_
  refine go_if_eqB (q := 132) (t := 137) dX5_stateAfter_129 (by decide) rfl (fun c_129 => ?_) (fun c_129 => ?_)
  · refine go_iconst (q := 138) (v := (-1)) dX5_stateAfter_137 (by decide) rfl ?_
    exact go_ri dX5_stateAfter_138 rfl (by show _ = e1 (if isB x _ _ = true then _ else _); rw [c_129]; first | rfl | decide) rfl
  · refine go_bipush (q := 134) (v := 12) dX5_stateAfter_132 (by decide) rfl ?_
    refine go_goto (q := 138) dX5_stateAfter_134 (by decide) ?_
    exact go_ri dX5_stateAfter_138 rfl (by show _ = e1 (if isB x _ _ = true then _ else _); rw [c_129]; first | rfl | decide) rfl
theorem ok_sA12 {M : KM} {x : Nat} (hx : x < 127) : OkF mX5_stateAfter [vI (nI 12), vI (nI x)] M (some (vI (e1 (sA 12 x)))) M := by
  refine ok_of (by decide) rfl (Nat.le_of_ble_eq_true rfl) ⟨rfl, rfl⟩ ?_
  show Go mX5_stateAfter (Zm (QF (some (vI (e1 (sA 12 x)))) M)) M [some (vI (nI 12)), some (vI (nI x))] [] 0
  refine go_iload_n (q := 1) dX5_stateAfter_0 rfl rfl rfl ?_
  refine go_tableIn 12 (q := 139) dX5_stateAfter_1 (show (nI 12).toInt = 12 from by decide) (by decide) (by decide) rfl (by decide) ?_
  refine go_iload_n (q := 140) dX5_stateAfter_139 rfl rfl rfl ?_
  refine go_bipush (q := 142) (v := 61) dX5_stateAfter_140 (by decide) rfl ?_
  refine go_icmp_neN x 61 (q := 145) (t := 149) dX5_stateAfter_142 (by decide) rfl rfl rfl (by omega) (by omega) (fun c_142 => ?_) (fun c_142 => ?_)
  · refine go_iconst (q := 150) (v := (-1)) dX5_stateAfter_149 (by decide) rfl ?_
    exact go_ri dX5_stateAfter_150 rfl (by show _ = e1 (if x = 61 then _ else _); rw [if_neg c_142]; rfl) rfl
  · refine go_iconst (q := 146) (v := 1) dX5_stateAfter_145 (by decide) rfl ?_
    refine go_goto (q := 150) dX5_stateAfter_146 (by decide) ?_
    exact go_ri dX5_stateAfter_150 rfl (by show _ = e1 (if x = 61 then _ else _); rw [if_pos c_142]; rfl) rfl
theorem ok_sA13 {M : KM} {x : Nat} (hx : x < 127) : OkF mX5_stateAfter [vI (nI 13), vI (nI x)] M (some (vI (e1 (sA 13 x)))) M := by
  refine ok_of (by decide) rfl (Nat.le_of_ble_eq_true rfl) ⟨rfl, rfl⟩ ?_
  show Go mX5_stateAfter (Zm (QF (some (vI (e1 (sA 13 x)))) M)) M [some (vI (nI 13)), some (vI (nI x))] [] 0
  refine go_iload_n (q := 1) dX5_stateAfter_0 rfl rfl rfl ?_
  refine go_tableIn 13 (q := 151) dX5_stateAfter_1 (show (nI 13).toInt = 13 from by decide) (by decide) (by decide) rfl (by decide) ?_
  refine go_iload_n (q := 152) dX5_stateAfter_151 rfl rfl rfl ?_
  refine go_bipush (q := 154) (v := 14) dX5_stateAfter_152 (by decide) rfl ?_
  refine go_iconst (q := 155) (v := 0) dX5_stateAfter_154 (by decide) rfl ?_
  refine go_cS3 (cal := mX5_stateAfterDigit) (q := 158) dX5_stateAfter_155 lRX5_45 vX5_stateAfterDigit ⟨by decide, by decide⟩ (Nat.le_of_ble_eq_true rfl) (ok_stateAfterDigit hx) rfl ?_
  exact go_ri dX5_stateAfter_158 rfl rfl rfl
theorem ok_sA14 {M : KM} {x : Nat} (hx : x < 127) : OkF mX5_stateAfter [vI (nI 14), vI (nI x)] M (some (vI (e1 (sA 14 x)))) M := by
  refine ok_of (by decide) rfl (Nat.le_of_ble_eq_true rfl) ⟨rfl, rfl⟩ ?_
  show Go mX5_stateAfter (Zm (QF (some (vI (e1 (sA 14 x)))) M)) M [some (vI (nI 14)), some (vI (nI x))] [] 0
  refine go_iload_n (q := 1) dX5_stateAfter_0 rfl rfl rfl ?_
  refine go_tableIn 14 (q := 159) dX5_stateAfter_1 (show (nI 14).toInt = 14 from by decide) (by decide) (by decide) rfl (by decide) ?_
  refine go_iload_n (q := 160) dX5_stateAfter_159 rfl rfl rfl ?_
  refine go_bipush (q := 162) (v := 48) dX5_stateAfter_160 (by decide) rfl ?_
  refine go_bipush (q := 164) (v := 57) dX5_stateAfter_162 (by decide) rfl ?_
  refine go_cS3 (cal := mX5_isBetween) (q := 167) dX5_stateAfter_164 lRX5_23 vX5_isBetween ⟨by decide, by decide⟩ (Nat.le_of_ble_eq_true rfl) (ok_isBetween (by omega) (by decide) (by decide)) rfl ?_
  refine go_if_eqB (q := 170) (t := 174) dX5_stateAfter_167 (by decide) rfl (fun c_167 => ?_) (fun c_167 => ?_)
  · refine go_iload_n (q := 175) dX5_stateAfter_174 rfl rfl rfl ?_
    refine go_cS1 (cal := mX5_stateAfterDeed) (q := 178) dX5_stateAfter_175 lRX5_39 vX5_stateAfterDeed ⟨by decide, by decide⟩ (Nat.le_of_ble_eq_true rfl) (ok_stateAfterDeed hx) rfl ?_
    exact go_ri dX5_stateAfter_178 rfl (by show _ = e1 (if isB x _ _ = true then _ else _); rw [c_167]; first | rfl | decide) rfl
  · refine go_iconst (q := 171) (v := 0) dX5_stateAfter_170 (by decide) rfl ?_
    refine go_goto (q := 178) dX5_stateAfter_171 (by decide) ?_
    exact go_ri dX5_stateAfter_178 rfl (by show _ = e1 (if isB x _ _ = true then _ else _); rw [c_167]; first | rfl | decide) rfl
theorem ok_stateAfter {M : KM} {x : Nat} (hx : x < 127) {s : Nat} (hs : s < 15) : OkF mX5_stateAfter [vI (nI s), vI (nI x)] M (some (vI (e1 (sA s x)))) M := by
  rcases (show s = 0 ∨ s = 1 ∨ s = 2 ∨ s = 3 ∨ s = 4 ∨ s = 5 ∨ s = 6 ∨ s = 7 ∨ s = 8 ∨ s = 9 ∨ s = 10 ∨ s = 11 ∨ s = 12 ∨ s = 13 ∨ s = 14 by omega) with rfl | rfl | rfl | rfl | rfl | rfl | rfl | rfl | rfl | rfl | rfl | rfl | rfl | rfl | rfl
  · exact ok_sA0 hx
  · exact ok_sA1 hx
  · exact ok_sA2 hx
  · exact ok_sA3 hx
  · exact ok_sA4 hx
  · exact ok_sA5 hx
  · exact ok_sA6 hx
  · exact ok_sA7 hx
  · exact ok_sA8 hx
  · exact ok_sA9 hx
  · exact ok_sA10 hx
  · exact ok_sA11 hx
  · exact ok_sA12 hx
  · exact ok_sA13 hx
  · exact ok_sA14 hx
theorem sA_lt {s x t : Nat} (hs : s < 15) (h : sA s x = some t) : t < 15 := by
  unfold sA at h
  split at h <;> (try unfold sDeed at h) <;> (try unfold sLet at h) <;> (try unfold sDig at h) <;> (try unfold sFat at h) <;> (repeat' split at h) <;> first | (cases h; omega) | cases h
/-- the state after j signs, or the first wrong place -/
def run (c : Nat → Nat) : Nat → Nat ⊕ Nat
  | 0 => .inl 7
  | j + 1 => match run c j with
    | .inr k => .inr k
    | .inl s => match sA s (c j) with
      | some t => .inl t
      | none => .inr j
/-- the fault of the pad -/
def pfault (n : Nat) (c : Nat → Nat) : Option Nat := match run c n with
  | .inr k => some k
  | .inl s => if s = 0 ∨ s = 14 then none else some n
theorem run_lt {c : Nat → Nat} : ∀ {j s : Nat}, run c j = .inl s → s < 15
  | 0, s, h => by cases h; decide
  | j + 1, s, h => by
    unfold run at h
    cases hr : run c j with
    | inr k => rw [hr] at h; cases h
    | inl u =>
      rw [hr] at h
      simp only at h
      cases hs : sA u (c j) with
      | none => rw [hs] at h; cases h
      | some t => rw [hs] at h; cases h; exact sA_lt (run_lt hr) hs
theorem run_inr {c : Nat → Nat} {j k : Nat} (h : run c j = .inr k) : ∀ n, j ≤ n → run c n = .inr k := fun n hn => by
  induction n with
  | zero => obtain rfl : j = 0 := by omega
            exact h
  | succ n ih =>
    by_cases hj : j ≤ n
    · unfold run; rw [ih hj]
    · obtain rfl : j = n + 1 := by omega
      exact h
theorem lp_firstFault {M : KM} {n : Nat} {c : Nat → Nat} (hP : PA M n c) : ∀ (d : Nat) (j s : Nat) (y : Int32), n - j < d → (run c j = .inl s) → (y = nI j) → (j ≤ n) → Go mX5_firstFault (Zm (QF (some (vI (e4 (pfault n c)))) M)) M [some (vR 9 0), some (vI (nI s)), some (vI y)] [] 5 := by
  intro d
  induction d with
  | zero => intro j s y hd; exact absurd hd (Nat.not_lt_zero _)
  | succ d ih =>
    intro j s y hd h0 h1 h2
    refine go_iload_n (q := 6) dX5_firstFault_5 rfl rfl rfl ?_
    refine go_aload_n (q := 7) dX5_firstFault_6 rfl rfl rfl ?_
    refine go_getf (q := 10) dX5_firstFault_7 fRX5_15 rfl (by decide) rfl rfl ?_
    refine go_topi hP.ln ?_
    refine go_icmp_geN j n (q := 13) (t := 36) dX5_firstFault_10 (by decide) rfl h1 rfl (by have := hP.2.1; omega) (by have := hP.2.1; omega) (fun c_10 => ?_) (fun c_10 => ?_)
    · have hs := run_lt h0
      refine go_iload_n (q := 37) dX5_firstFault_36 rfl rfl rfl ?_
      refine go_if_eq (q := 40) (t := 46) dX5_firstFault_37 (by decide) rfl (fun c_37 => ?_) (fun c_37 => ?_)
      · refine go_bipush (q := 48) (v := (-4)) dX5_firstFault_46 (by decide) rfl ?_
        refine go_goto (q := 55) dX5_firstFault_48 (by decide) ?_
        exact go_ri dX5_firstFault_55 rfl (by rw [show pfault n c = none from by unfold pfault; rw [show n = j by omega, h0]; simp [(nI_eq (show s < 2 ^ 31 by omega) (by decide)).mp c_37]]; rfl) rfl
      · refine go_iload_n (q := 41) dX5_firstFault_40 rfl rfl rfl ?_
        refine go_bipush (q := 43) (v := 14) dX5_firstFault_41 (by decide) rfl ?_
        refine go_icmp_neN s 14 (q := 46) (t := 51) dX5_firstFault_43 (by decide) rfl rfl rfl (by omega) (by omega) (fun c_43 => ?_) (fun c_43 => ?_)
        · refine go_aload_n (q := 52) dX5_firstFault_51 rfl rfl rfl ?_
          refine go_getf (q := 55) dX5_firstFault_52 fRX5_15 rfl (by decide) rfl rfl ?_
          refine go_topi hP.ln ?_
          exact go_ri dX5_firstFault_55 rfl (by have h37 : ¬ s = 0 := fun z => c_37 (by rw [z]; rfl); rw [show pfault n c = some n from by have e := h0; rw [show j = n by omega] at e; unfold pfault; rw [e]; simp [h37, c_43]]; rfl) rfl
        · refine go_bipush (q := 48) (v := (-4)) dX5_firstFault_46 (by decide) rfl ?_
          refine go_goto (q := 55) dX5_firstFault_48 (by decide) ?_
          exact go_ri dX5_firstFault_55 rfl (by rw [show pfault n c = none from by unfold pfault; rw [show n = j by omega, h0]; simp [c_43]]; rfl) rfl
    · subst h1
      have hs := run_lt h0
      have h127 := (hP.2.2 j c_10).2.2
      refine go_iload_n (q := 14) dX5_firstFault_13 rfl rfl rfl ?_
      refine go_aload_n (q := 15) dX5_firstFault_14 rfl rfl rfl ?_
      refine go_iload_n (q := 16) dX5_firstFault_15 rfl rfl rfl ?_
      refine go_cV1 (cal := mX5_signAt) (q := 19) dX5_firstFault_16 lRX5_19 vX5_signAt ⟨by decide, by decide⟩ rfl (by decide) (Nat.le_of_ble_eq_true rfl) (ok_signAt hP (by have := hP.2.1; omega)) rfl ?_
      rw [show ch n c j = c j from if_pos c_10]
      refine go_cS2 (cal := mX5_stateAfter) (q := 22) dX5_firstFault_19 lRX5_35 vX5_stateAfter ⟨by decide, by decide⟩ (Nat.le_of_ble_eq_true rfl) (ok_stateAfter (by omega) hs) rfl ?_
      refine go_istore_n (q := 23) dX5_firstFault_22 rfl (by decide) rfl rfl ?_
      refine go_iload_n (q := 24) dX5_firstFault_23 rfl rfl rfl ?_
      refine go_iconst (q := 25) (v := (-1)) dX5_firstFault_24 (by decide) rfl ?_
      refine go_icmp_ne (q := 28) (t := 30) dX5_firstFault_25 (by decide) rfl (fun c_25 => ?_) (fun c_25 => ?_)
      · obtain ⟨t, ht⟩ : ∃ t, sA s (c j) = some t := by
          cases h : sA s (c j) with
          | none => exact absurd (by rw [h]; rfl) c_25
          | some t => exact ⟨t, rfl⟩
        rw [ht]
        refine go_iinc (q := 33) (v := 1) dX5_firstFault_30 (by decide) rfl (by decide) rfl rfl ?_
        refine go_goto (q := 5) dX5_firstFault_33 (by decide) ?_
        exact ih (j + 1) t _ (by omega) (by unfold run; rw [h0]; simp only; rw [ht]) (nI_1 j) (by omega)
      · have hsn : sA s (c j) = none := (e1_eq (fun k hk => by have := sA_lt hs hk; omega)).mp (Classical.not_not.mp c_25)
        refine go_iload_n (q := 29) dX5_firstFault_28 rfl rfl rfl ?_
        exact go_ri dX5_firstFault_29 rfl (by rw [show pfault n c = some j from by unfold pfault; rw [run_inr (j := j + 1) (by unfold run; rw [h0]; simp only; rw [hsn]) n c_10]]; rfl) rfl
theorem ok_firstFault {M : KM} {n : Nat} {c : Nat → Nat} (hP : PA M n c) : OkF mX5_firstFault [vR 9 0] M (some (vI (e4 (pfault n c)))) M := by
  refine ok_of (by decide) rfl (Nat.le_of_ble_eq_true rfl) ⟨rfl, rfl⟩ ?_
  show Go mX5_firstFault (Zm (QF (some (vI (e4 (pfault n c)))) M)) M [some (vR 9 0), none, none] [] 0
  refine go_bipush (q := 2) (v := 7) dX5_firstFault_0 (by decide) rfl ?_
  refine go_istore_n (q := 3) dX5_firstFault_2 rfl (by decide) rfl rfl ?_
  refine go_iconst (q := 4) (v := 0) dX5_firstFault_3 (by decide) rfl ?_
  refine go_istore_n (q := 5) dX5_firstFault_4 rfl (by decide) rfl rfl ?_
  exact lp_firstFault hP (n + 1) 0 7 _ (by omega) rfl rfl (by omega)
