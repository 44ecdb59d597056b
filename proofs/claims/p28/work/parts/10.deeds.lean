/-! ===== deeds ===== -/
def rRef (R : RO) : RO := (rN R, rS R, rL R, rB R, rH R, rF R + 1)
def rAdd (R : RO) (s : Nat) (b : Option (Nat × Nat × Nat)) : RO := (rN R + 1, (fun p => if p = rN R then s else rS R p), (fun p => if p = rN R then true else rL R p), (fun p => if p = rN R then b else rB R p), rH R, rF R)
def rDie (R : RO) (d : Nat) : RO := (rN R, rS R, (fun p => if p = d then false else rL R p), rB R, rH R, rF R)
def rHeir (R : RO) (d s : Nat) : RO := (rN R, (fun p => if p = d then s else rS R p), rL R, rB R, rH R + 1, rF R)
/-- what a deed answers, and the roll behind it -/
def dFound (R : RO) (x : Int32) : Int32 × RO := match pOf 15625 x with
  | none => (-1, R)
  | some s => if 20 ≤ rN R then (-3, R) else if ¬ bear R s = none then (3, rRef R) else (nI (10 + rN R), rAdd R s none)
def dBear (R : RO) (x y z : Int32) : Int32 × RO := match pOf (rN R) x, pOf 6 y, pOf 5 z with
  | some f, some k, some m => if 20 ≤ rN R then (-3, R) else if ¬ whyS R f k m = 0 then (nI (whyS R f k m), rRef R) else (nI (10 + rN R), rAdd R (wm (rS R f) k m) (some (f, k, m)))
  | _, _, _ => (-1, R)
def dDie (R : RO) (x : Int32) : Int32 × RO := match pOf (rN R) x with
  | none => (-1, R)
  | some p => if rL R p = false then (6, rRef R) else (nI (10 + cn (rL (rDie R p)) (rN R)), rDie R p)
def dHeir (R : RO) (x : Int32) : Int32 × RO := match pOf (rN R) x with
  | none => (-1, R)
  | some p => if rL R p = false then (-2, R) else if ¬ whyH R p = 0 then (nI (whyH R p), rRef R) else (nI (10 + ap (rS R p) (oS R (rP R p))), rHeir R p (oS R (rP R p)))
/-- nothing but roll i was touched -/
def kRoll (i : Nat) (M M' : KM) : Prop := M'.2 = M.2 ∧ ∀ k b, ¬ (b = i ∧ 1 ≤ k ∧ k ≤ 6) → M'.1 k b = M.1 k b
theorem kRoll.rf {i : Nat} {M : KM} : kRoll i M M := ⟨rfl, fun _ _ _ => rfl⟩
theorem kRoll.tr {i : Nat} {M M1 M2 : KM} (h1 : kRoll i M M1) (h2 : kRoll i M1 M2) : kRoll i M M2 := ⟨h2.1.trans h1.1, fun k b h => (h2.2 k b h).trans (h1.2 k b h)⟩
theorem kRoll.si {i k j : Nat} {M M' : KM} {v : Int32} (h : kRoll i M M') (h1 : 1 ≤ k) (h6 : k ≤ 6) : kRoll i M (k_si M' k i j v) := by
  refine ⟨h.1, fun a b hab => ?_⟩
  rw [k_si_ne M' v (fun z => hab ⟨z.2, by omega, by omega⟩)]
  exact h.2 a b hab
theorem RA.keep {i b : Nat} {M M' : KM} {R : RO} (h : RA M b R) (hk : kRoll i M M') (hb : b ≠ i) : RA M' b R := by
  have e : ∀ k, M'.1 k b = M.1 k b := fun k => hk.2 k b (fun z => hb z.1)
  unfold RA at h ⊢
  rw [e, e, e, e, e, e]
  exact h
def KQ (i : Nat) (M : KM) (v : Int32) (R' : RO) : Option KV → KM → Prop := fun r M' => r = some (vI v) ∧ RA M' i R' ∧ kRoll i M M'
def KU (i : Nat) (M : KM) (R' : RO) : Option KV → KM → Prop := fun r M' => r = none ∧ RA M' i R' ∧ kRoll i M M'
theorem go_kV0 {I cal : KI} {Z : KZ} {M : KM} {loc : List (Option KV)} {rest : List KV} {pc q idx k i b : Nat} {v : Int32} {R : RO} (hd : decode I.2.1 pc = .ok (.invokevirtual idx, 3)) (hlink : Cond.methodLink I.1.cls idx cal.1 ∈ k_tb) (hc : KCV cal 0) (hR : KR I cal) (hcls : (k_oc k).bind (fun ci => (vwCl[ci]?).map (fun q => q.1)) = some cal.1.cls) (hi : i < k_cnt k) (hr : (rest.map k_cat).sum ≤ 8) (hok : Ok cal (vR k i :: []) M (KQ b M v R)) (hq : pc + 3 = q) (kk : ∀ M1, RA M1 b R → kRoll b M M1 → Go I Z M1 loc (vI v :: rest) q) : Go I Z M loc (vR k i :: rest) pc :=
  go_callV [] hd hlink hc hR rfl hcls hi hr hok hq (fun r M2 hrm => by obtain ⟨rfl, h1, h2⟩ := hrm; exact kk M2 h1 h2)
theorem go_kuV0 {I cal : KI} {Z : KZ} {M : KM} {loc : List (Option KV)} {rest : List KV} {pc q idx k i b : Nat} {R : RO} (hd : decode I.2.1 pc = .ok (.invokevirtual idx, 3)) (hlink : Cond.methodLink I.1.cls idx cal.1 ∈ k_tb) (hc : KCV cal 0) (hR : KR I cal) (hcls : (k_oc k).bind (fun ci => (vwCl[ci]?).map (fun q => q.1)) = some cal.1.cls) (hi : i < k_cnt k) (hr : (rest.map k_cat).sum ≤ 8) (hok : Ok cal (vR k i :: []) M (KU b M R)) (hq : pc + 3 = q) (kk : ∀ M1, RA M1 b R → kRoll b M M1 → Go I Z M1 loc rest q) : Go I Z M loc (vR k i :: rest) pc :=
  go_callV [] hd hlink hc hR rfl hcls hi hr hok hq (fun r M2 hrm => by obtain ⟨rfl, h1, h2⟩ := hrm; exact kk M2 h1 h2)
theorem go_kV1 {I cal : KI} {Z : KZ} {M : KM} {loc : List (Option KV)} {rest : List KV} {pc q idx k i b : Nat} {a0 : KV} {v : Int32} {R : RO} (hd : decode I.2.1 pc = .ok (.invokevirtual idx, 3)) (hlink : Cond.methodLink I.1.cls idx cal.1 ∈ k_tb) (hc : KCV cal 1) (hR : KR I cal) (hcls : (k_oc k).bind (fun ci => (vwCl[ci]?).map (fun q => q.1)) = some cal.1.cls) (hi : i < k_cnt k) (hr : (rest.map k_cat).sum ≤ 8) (hok : Ok cal (vR k i :: [a0]) M (KQ b M v R)) (hq : pc + 3 = q) (kk : ∀ M1, RA M1 b R → kRoll b M M1 → Go I Z M1 loc (vI v :: rest) q) : Go I Z M loc (a0 :: vR k i :: rest) pc :=
  go_callV [a0] hd hlink hc hR rfl hcls hi hr hok hq (fun r M2 hrm => by obtain ⟨rfl, h1, h2⟩ := hrm; exact kk M2 h1 h2)
theorem go_kuV1 {I cal : KI} {Z : KZ} {M : KM} {loc : List (Option KV)} {rest : List KV} {pc q idx k i b : Nat} {a0 : KV} {R : RO} (hd : decode I.2.1 pc = .ok (.invokevirtual idx, 3)) (hlink : Cond.methodLink I.1.cls idx cal.1 ∈ k_tb) (hc : KCV cal 1) (hR : KR I cal) (hcls : (k_oc k).bind (fun ci => (vwCl[ci]?).map (fun q => q.1)) = some cal.1.cls) (hi : i < k_cnt k) (hr : (rest.map k_cat).sum ≤ 8) (hok : Ok cal (vR k i :: [a0]) M (KU b M R)) (hq : pc + 3 = q) (kk : ∀ M1, RA M1 b R → kRoll b M M1 → Go I Z M1 loc rest q) : Go I Z M loc (a0 :: vR k i :: rest) pc :=
  go_callV [a0] hd hlink hc hR rfl hcls hi hr hok hq (fun r M2 hrm => by obtain ⟨rfl, h1, h2⟩ := hrm; exact kk M2 h1 h2)
theorem go_kV2 {I cal : KI} {Z : KZ} {M : KM} {loc : List (Option KV)} {rest : List KV} {pc q idx k i b : Nat} {a0 a1 : KV} {v : Int32} {R : RO} (hd : decode I.2.1 pc = .ok (.invokevirtual idx, 3)) (hlink : Cond.methodLink I.1.cls idx cal.1 ∈ k_tb) (hc : KCV cal 2) (hR : KR I cal) (hcls : (k_oc k).bind (fun ci => (vwCl[ci]?).map (fun q => q.1)) = some cal.1.cls) (hi : i < k_cnt k) (hr : (rest.map k_cat).sum ≤ 8) (hok : Ok cal (vR k i :: [a0, a1]) M (KQ b M v R)) (hq : pc + 3 = q) (kk : ∀ M1, RA M1 b R → kRoll b M M1 → Go I Z M1 loc (vI v :: rest) q) : Go I Z M loc (a1 :: a0 :: vR k i :: rest) pc :=
  go_callV [a0, a1] hd hlink hc hR rfl hcls hi hr hok hq (fun r M2 hrm => by obtain ⟨rfl, h1, h2⟩ := hrm; exact kk M2 h1 h2)
theorem go_kuV2 {I cal : KI} {Z : KZ} {M : KM} {loc : List (Option KV)} {rest : List KV} {pc q idx k i b : Nat} {a0 a1 : KV} {R : RO} (hd : decode I.2.1 pc = .ok (.invokevirtual idx, 3)) (hlink : Cond.methodLink I.1.cls idx cal.1 ∈ k_tb) (hc : KCV cal 2) (hR : KR I cal) (hcls : (k_oc k).bind (fun ci => (vwCl[ci]?).map (fun q => q.1)) = some cal.1.cls) (hi : i < k_cnt k) (hr : (rest.map k_cat).sum ≤ 8) (hok : Ok cal (vR k i :: [a0, a1]) M (KU b M R)) (hq : pc + 3 = q) (kk : ∀ M1, RA M1 b R → kRoll b M M1 → Go I Z M1 loc rest q) : Go I Z M loc (a1 :: a0 :: vR k i :: rest) pc :=
  go_callV [a0, a1] hd hlink hc hR rfl hcls hi hr hok hq (fun r M2 hrm => by obtain ⟨rfl, h1, h2⟩ := hrm; exact kk M2 h1 h2)
theorem go_kV3 {I cal : KI} {Z : KZ} {M : KM} {loc : List (Option KV)} {rest : List KV} {pc q idx k i b : Nat} {a0 a1 a2 : KV} {v : Int32} {R : RO} (hd : decode I.2.1 pc = .ok (.invokevirtual idx, 3)) (hlink : Cond.methodLink I.1.cls idx cal.1 ∈ k_tb) (hc : KCV cal 3) (hR : KR I cal) (hcls : (k_oc k).bind (fun ci => (vwCl[ci]?).map (fun q => q.1)) = some cal.1.cls) (hi : i < k_cnt k) (hr : (rest.map k_cat).sum ≤ 8) (hok : Ok cal (vR k i :: [a0, a1, a2]) M (KQ b M v R)) (hq : pc + 3 = q) (kk : ∀ M1, RA M1 b R → kRoll b M M1 → Go I Z M1 loc (vI v :: rest) q) : Go I Z M loc (a2 :: a1 :: a0 :: vR k i :: rest) pc :=
  go_callV [a0, a1, a2] hd hlink hc hR rfl hcls hi hr hok hq (fun r M2 hrm => by obtain ⟨rfl, h1, h2⟩ := hrm; exact kk M2 h1 h2)
theorem go_kuV3 {I cal : KI} {Z : KZ} {M : KM} {loc : List (Option KV)} {rest : List KV} {pc q idx k i b : Nat} {a0 a1 a2 : KV} {R : RO} (hd : decode I.2.1 pc = .ok (.invokevirtual idx, 3)) (hlink : Cond.methodLink I.1.cls idx cal.1 ∈ k_tb) (hc : KCV cal 3) (hR : KR I cal) (hcls : (k_oc k).bind (fun ci => (vwCl[ci]?).map (fun q => q.1)) = some cal.1.cls) (hi : i < k_cnt k) (hr : (rest.map k_cat).sum ≤ 8) (hok : Ok cal (vR k i :: [a0, a1, a2]) M (KU b M R)) (hq : pc + 3 = q) (kk : ∀ M1, RA M1 b R → kRoll b M M1 → Go I Z M1 loc rest q) : Go I Z M loc (a2 :: a1 :: a0 :: vR k i :: rest) pc :=
  go_callV [a0, a1, a2] hd hlink hc hR rfl hcls hi hr hok hq (fun r M2 hrm => by obtain ⟨rfl, h1, h2⟩ := hrm; exact kk M2 h1 h2)
theorem go_kV4 {I cal : KI} {Z : KZ} {M : KM} {loc : List (Option KV)} {rest : List KV} {pc q idx k i b : Nat} {a0 a1 a2 a3 : KV} {v : Int32} {R : RO} (hd : decode I.2.1 pc = .ok (.invokevirtual idx, 3)) (hlink : Cond.methodLink I.1.cls idx cal.1 ∈ k_tb) (hc : KCV cal 4) (hR : KR I cal) (hcls : (k_oc k).bind (fun ci => (vwCl[ci]?).map (fun q => q.1)) = some cal.1.cls) (hi : i < k_cnt k) (hr : (rest.map k_cat).sum ≤ 8) (hok : Ok cal (vR k i :: [a0, a1, a2, a3]) M (KQ b M v R)) (hq : pc + 3 = q) (kk : ∀ M1, RA M1 b R → kRoll b M M1 → Go I Z M1 loc (vI v :: rest) q) : Go I Z M loc (a3 :: a2 :: a1 :: a0 :: vR k i :: rest) pc :=
  go_callV [a0, a1, a2, a3] hd hlink hc hR rfl hcls hi hr hok hq (fun r M2 hrm => by obtain ⟨rfl, h1, h2⟩ := hrm; exact kk M2 h1 h2)
theorem go_kuV4 {I cal : KI} {Z : KZ} {M : KM} {loc : List (Option KV)} {rest : List KV} {pc q idx k i b : Nat} {a0 a1 a2 a3 : KV} {R : RO} (hd : decode I.2.1 pc = .ok (.invokevirtual idx, 3)) (hlink : Cond.methodLink I.1.cls idx cal.1 ∈ k_tb) (hc : KCV cal 4) (hR : KR I cal) (hcls : (k_oc k).bind (fun ci => (vwCl[ci]?).map (fun q => q.1)) = some cal.1.cls) (hi : i < k_cnt k) (hr : (rest.map k_cat).sum ≤ 8) (hok : Ok cal (vR k i :: [a0, a1, a2, a3]) M (KU b M R)) (hq : pc + 3 = q) (kk : ∀ M1, RA M1 b R → kRoll b M M1 → Go I Z M1 loc rest q) : Go I Z M loc (a3 :: a2 :: a1 :: a0 :: vR k i :: rest) pc :=
  go_callV [a0, a1, a2, a3] hd hlink hc hR rfl hcls hi hr hok hq (fun r M2 hrm => by obtain ⟨rfl, h1, h2⟩ := hrm; exact kk M2 h1 h2)
theorem RA_ref {M : KM} {i : Nat} {R : RO} (hR : RA M i R) : RA (k_si M 1 i 7 (M.1 1 i 7 + 1)) i (rRef R) := by
  refine ⟨hR.sz, hR.he, ?_, hR.le, fun p hp => hR.z hp, fun p hp => ⟨hR.sh hp, hR.al hp, hR.fa hp, hR.pl hp, hR.mk hp⟩⟩
  show (if 1 = 1 ∧ 7 = 7 ∧ i = i then _ else _) = nI (rF R + 1)
  rw [if_pos ⟨rfl, rfl, rfl⟩, hR.re, nI_1]
theorem RA_die {M : KM} {i d : Nat} {R : RO} (hR : RA M i R) (hd : d < rN R) : RA (k_si M 3 i d 0) i (rDie R d) := by
  refine ⟨hR.sz, hR.he, hR.re, hR.le, fun p hp => ?_, fun p hp => ⟨hR.sh hp, ?_, hR.fa hp, hR.pl hp, hR.mk hp⟩⟩
  · show ∃ b, (if 3 = 3 ∧ p = d ∧ i = i then (0 : Int32) else M.1 3 i p) = bI b
    by_cases h : p = d
    · exact ⟨false, by rw [if_pos ⟨rfl, h, rfl⟩]; rfl⟩
    · rw [if_neg (fun z => h z.2.1)]; exact hR.z hp
  · show (if 3 = 3 ∧ p = d ∧ i = i then (0 : Int32) else M.1 3 i p) = bI (if p = d then false else rL R p)
    by_cases h : p = d
    · rw [if_pos ⟨rfl, h, rfl⟩, if_pos h]; rfl
    · rw [if_neg (fun z => h z.2.1), if_neg h]; exact hR.al hp
theorem RA_heir {M : KM} {i d s : Nat} {R : RO} (hR : RA M i R) (hd : d < rN R) : RA (k_si (k_si M 2 i d (nI s)) 1 i 6 (M.1 1 i 6 + 1)) i (rHeir R d s) := by
  refine ⟨hR.sz, ?_, hR.re, hR.le, fun p hp => hR.z hp, fun p hp => ⟨?_, hR.al hp, hR.fa hp, hR.pl hp, hR.mk hp⟩⟩
  · show (if 1 = 1 ∧ 6 = 6 ∧ i = i then _ else _) = nI (rH R + 1)
    rw [if_pos ⟨rfl, rfl, rfl⟩, hR.he, nI_1]
  · show (if 2 = 2 ∧ p = d ∧ i = i then (nI s) else M.1 2 i p) = nI (if p = d then s else rS R p)
    by_cases h : p = d
    · rw [if_pos ⟨rfl, h, rfl⟩, if_pos h]
    · rw [if_neg (fun z => h z.2.1), if_neg h]; exact hR.sh hp
theorem RA_add {M : KM} {i s : Nat} {R : RO} {b : Option (Nat × Nat × Nat)} (hR : RA M i R) (hn : rN R < 20) :
    RA (k_si (k_si (k_si (k_si (k_si (k_si M 2 i (rN R) (nI s)) 3 i (rN R) 1) 4 i (rN R) (e1 (b.map (fun b => b.1)))) 5 i (rN R) (e1 (b.map (fun b => b.2.1)))) 6 i (rN R) (e1 (b.map (fun b => b.2.2)))) 1 i 5 (nI (rN R) + 1)) i (rAdd R s b) := by
  refine ⟨?_, hR.he, hR.re, hn, fun p hp => ?_, fun p hp => ?_⟩
  · show (if 1 = 1 ∧ 5 = 5 ∧ i = i then _ else _) = nI (rN R + 1)
    rw [if_pos ⟨rfl, rfl, rfl⟩, nI_1]
  · show ∃ b, (if 3 = 3 ∧ p = rN R ∧ i = i then (1 : Int32) else M.1 3 i p) = bI b
    by_cases h : p = rN R
    · exact ⟨true, by rw [if_pos ⟨rfl, h, rfl⟩]; rfl⟩
    · rw [if_neg (fun z => h z.2.1)]; exact hR.z hp
  · show (if 2 = 2 ∧ p = rN R ∧ i = i then (nI s) else M.1 2 i p) = nI (if p = rN R then s else rS R p) ∧ (if 3 = 3 ∧ p = rN R ∧ i = i then (1 : Int32) else M.1 3 i p) = bI (if p = rN R then true else rL R p) ∧ (if 4 = 4 ∧ p = rN R ∧ i = i then (e1 (b.map (fun b => b.1))) else M.1 4 i p) = e1 ((if p = rN R then b else rB R p).map (fun b => b.1)) ∧ (if 5 = 5 ∧ p = rN R ∧ i = i then (e1 (b.map (fun b => b.2.1))) else M.1 5 i p) = e1 ((if p = rN R then b else rB R p).map (fun b => b.2.1)) ∧ (if 6 = 6 ∧ p = rN R ∧ i = i then (e1 (b.map (fun b => b.2.2))) else M.1 6 i p) = e1 ((if p = rN R then b else rB R p).map (fun b => b.2.2))
    by_cases h : p = rN R
    · simp [h, bI]
    · have hp' : p < rN R := by
        have : p < rN R + 1 := hp
        omega
      simp only [h, and_false, false_and, if_false]
      exact ⟨hR.sh hp', hR.al hp', hR.fa hp', hR.pl hp', hR.mk hp'⟩
theorem k_10 (n : Nat) : (10 : Int32) + nI n = nI (10 + n) := nI_add 10 n
theorem ok_refuse {M : KM} {i : Nat} {R : RO} (hi : i < 8) (hR : RA M i R) (x : Int32) : Ok mX6_refuse [vR 1 i, vI x] M (KQ i M x (rRef R)) := by
  refine ok_of (by decide) rfl (Nat.le_of_ble_eq_true rfl) ⟨rfl, rfl⟩ ?_
  show Go mX6_refuse (Zm (KQ i M x (rRef R))) M [some (vR 1 i), some (vI x)] [] 0
  refine go_aload_n (q := 1) dX6_refuse_0 rfl rfl rfl ?_
  refine go_dup (q := 2) dX6_refuse_1 rfl rfl ?_
  refine go_getf (q := 5) dX6_refuse_2 fRX6_35 rfl hi rfl rfl ?_
  refine go_iconst (q := 6) (v := 1) dX6_refuse_5 (by decide) rfl ?_
  refine go_iadd (q := 7) dX6_refuse_6 rfl ?_
  refine go_puti (q := 10) dX6_refuse_7 pRX6_35 rfl hi rfl rfl rfl (Nat.le_of_ble_eq_true rfl) rfl ?_
  refine go_iload_n (q := 11) dX6_refuse_10 rfl rfl rfl ?_
  exact go_ireti dX6_refuse_11 rfl ⟨rfl, RA_ref hR, kRoll.rf.si (by decide) (by decide)⟩
theorem ok_add {M : KM} {i : Nat} {R : RO} (hi : i < 8) (hR : RA M i R) (hn : rN R < 20) (s : Nat) (b : Option (Nat × Nat × Nat)) : Ok mX6_add [vR 1 i, vI (nI s), vI (e1 (b.map (fun b => b.1))), vI (e1 (b.map (fun b => b.2.1))), vI (e1 (b.map (fun b => b.2.2)))] M (KQ i M (nI (10 + rN R)) (rAdd R s b)) := by
  refine ok_of (by decide) rfl (Nat.le_of_ble_eq_true rfl) ⟨rfl, rfl⟩ ?_
  show Go mX6_add (Zm (KQ i M (nI (10 + rN R)) (rAdd R s b))) M [some (vR 1 i), some (vI (nI s)), some (vI (e1 (b.map (fun b => b.1)))), some (vI (e1 (b.map (fun b => b.2.1)))), some (vI (e1 (b.map (fun b => b.2.2)))), none] [] 0
  refine go_aload_n (q := 1) dX6_add_0 rfl rfl rfl ?_
  refine go_getf (q := 4) dX6_add_1 fRX6_28 rfl hi rfl rfl ?_
  refine go_topi hR.sz ?_
  refine go_istore (q := 6) dX6_add_4 (by decide) rfl rfl ?_
  refine go_iload (q := 8) dX6_add_6 rfl rfl ?_
  refine go_bipush (q := 10) (v := 20) dX6_add_8 (by decide) rfl ?_
  refine go_icmp_ltN (rN R) 20 (q := 13) (t := 16) dX6_add_10 (by decide) rfl rfl rfl (by omega) (by omega) (fun c_10 => ?_) (fun c_10 => ?_)
  · refine go_aload_n (q := 17) dX6_add_16 rfl rfl rfl ?_
    refine go_getf (q := 20) dX6_add_17 fRX6_9 rfl hi rfl rfl ?_
    refine go_iload (q := 22) dX6_add_20 rfl rfl ?_
    refine go_iload_n (q := 23) dX6_add_22 rfl rfl rfl ?_
    refine go_iast (q := 24) (rN R) dX6_add_23 rfl rfl hi rfl hn rfl ?_
    refine go_aload_n (q := 25) dX6_add_24 rfl rfl rfl ?_
    refine go_getf (q := 28) dX6_add_25 fRX6_15 rfl hi rfl rfl ?_
    refine go_iload (q := 30) dX6_add_28 rfl rfl ?_
    refine go_iconst (q := 31) (v := 1) dX6_add_30 (by decide) rfl ?_
    refine go_zast (q := 32) (rN R) dX6_add_31 hi rfl hn (by decide) rfl ?_
    refine go_aload_n (q := 33) dX6_add_32 rfl rfl rfl ?_
    refine go_getf (q := 36) dX6_add_33 fRX6_19 rfl hi rfl rfl ?_
    refine go_iload (q := 38) dX6_add_36 rfl rfl ?_
    refine go_iload_n (q := 39) dX6_add_38 rfl rfl rfl ?_
    refine go_iast (q := 40) (rN R) dX6_add_39 rfl rfl hi rfl hn rfl ?_
    refine go_aload_n (q := 41) dX6_add_40 rfl rfl rfl ?_
    refine go_getf (q := 44) dX6_add_41 fRX6_22 rfl hi rfl rfl ?_
    refine go_iload (q := 46) dX6_add_44 rfl rfl ?_
    refine go_iload_n (q := 47) dX6_add_46 rfl rfl rfl ?_
    refine go_iast (q := 48) (rN R) dX6_add_47 rfl rfl hi rfl hn rfl ?_
    refine go_aload_n (q := 49) dX6_add_48 rfl rfl rfl ?_
    refine go_getf (q := 52) dX6_add_49 fRX6_25 rfl hi rfl rfl ?_
    refine go_iload (q := 54) dX6_add_52 rfl rfl ?_
    refine go_iload (q := 56) dX6_add_54 rfl rfl ?_
    refine go_iast (q := 57) (rN R) dX6_add_56 rfl rfl hi rfl hn rfl ?_
    refine go_aload_n (q := 58) dX6_add_57 rfl rfl rfl ?_
    refine go_dup (q := 59) dX6_add_58 rfl rfl ?_
    refine go_getf (q := 62) dX6_add_59 fRX6_28 rfl hi rfl rfl ?_
    refine go_topi hR.sz ?_
    refine go_iconst (q := 63) (v := 1) dX6_add_62 (by decide) rfl ?_
    refine go_iadd (q := 64) dX6_add_63 rfl ?_
    refine go_puti (q := 67) dX6_add_64 pRX6_28 rfl hi rfl rfl rfl (Nat.le_of_ble_eq_true rfl) rfl ?_
    refine go_bipush (q := 69) (v := 10) dX6_add_67 (by decide) rfl ?_
    refine go_iload (q := 71) dX6_add_69 rfl rfl ?_
    refine go_iadd (q := 72) dX6_add_71 rfl ?_
    exact go_ireti dX6_add_72 rfl ⟨by rw [k_10], RA_add hR hn, ((((((kRoll.rf.si (by decide) (by decide)).si (by decide) (by decide)).si (by decide) (by decide)).si (by decide) (by decide)).si (by decide) (by decide)).si (by decide) (by decide))⟩
  · omega
theorem ok_goes {M : KM} {i : Nat} {R : RO} (hi : i < 8) (hR : RA M i R) (x : Int32) : Ok mX6_goes [vR 1 i, vI x] M (KQ i M (dDie R x).1 (dDie R x).2) := by
  refine ok_of (by decide) rfl (Nat.le_of_ble_eq_true rfl) ⟨rfl, rfl⟩ ?_
  show Go mX6_goes (Zm (KQ i M (dDie R x).1 (dDie R x).2)) M [some (vR 1 i), some (vI x)] [] 0
  refine go_aload_n (q := 1) dX6_goes_0 rfl rfl rfl ?_
  refine go_iload_n (q := 2) dX6_goes_1 rfl rfl rfl ?_
  refine go_cV1 (cal := mX6_has) (q := 5) dX6_goes_2 lRX6_38 vX6_has ⟨by decide, by decide⟩ rfl hi (Nat.le_of_ble_eq_true rfl) (ok_has hi hR _) rfl ?_
  refine go_if_neB (q := 8) (t := 10) dX6_goes_5 (by decide) rfl (fun c_5 => ?_) (fun c_5 => ?_)
  · obtain ⟨p, hp⟩ := Option.isSome_iff_exists.mp c_5
    obtain ⟨hlt, rfl⟩ := pOf_some hp
    refine go_aload_n (q := 11) dX6_goes_10 rfl rfl rfl ?_
    refine go_iload_n (q := 12) dX6_goes_11 rfl rfl rfl ?_
    refine go_cV1 (cal := mX6_isAlive) (q := 15) dX6_goes_12 lRX6_42 vX6_isAlive ⟨by decide, by decide⟩ rfl hi (Nat.le_of_ble_eq_true rfl) (ok_isAlive hi hR _) rfl ?_
    rw [hp, oL_some]
    refine go_if_neB (q := 18) (t := 25) dX6_goes_15 (by decide) rfl (fun c_15 => ?_) (fun c_15 => ?_)
    · refine go_aload_n (q := 26) dX6_goes_25 rfl rfl rfl ?_
      refine go_getf (q := 29) dX6_goes_26 fRX6_15 rfl hi rfl rfl ?_
      refine go_iload_n (q := 30) dX6_goes_29 rfl rfl rfl ?_
      refine go_iconst (q := 31) (v := 0) dX6_goes_30 (by decide) rfl ?_
      refine go_zast (q := 32) p dX6_goes_31 hi rfl (hR.lt hlt) (by decide) rfl ?_
      refine go_bipush (q := 34) (v := 10) dX6_goes_32 (by decide) rfl ?_
      refine go_aload_n (q := 35) dX6_goes_34 rfl rfl rfl ?_
      refine go_cV0 (cal := mX6_living) (q := 38) dX6_goes_35 lRX6_80 vX6_living ⟨by decide, by decide⟩ rfl hi (Nat.le_of_ble_eq_true rfl) (ok_living hi (RA_die hR hlt)) rfl ?_
      refine go_iadd (q := 39) dX6_goes_38 rfl ?_
      exact go_ireti dX6_goes_39 rfl ⟨by simp [dDie, hp, c_15, k_10, show rN (rDie R p) = rN R from rfl], by simpa [dDie, hp, c_15] using RA_die hR hlt, kRoll.rf.si (by decide) (by decide)⟩
    · refine go_aload_n (q := 19) dX6_goes_18 rfl rfl rfl ?_
      refine go_bipush (q := 21) (v := 6) dX6_goes_19 (by decide) rfl ?_
      refine go_kV1 (cal := mX6_refuse) (q := 24) dX6_goes_21 lRX6_57 vX6_refuse ⟨by decide, by decide⟩ rfl hi (Nat.le_of_ble_eq_true rfl) (ok_refuse hi hR _) rfl (fun M1 hR1 hk1 => ?_)
      exact go_ireti dX6_goes_24 rfl ⟨by simp [dDie, hp, c_15], by simpa [dDie, hp, c_15] using hR1, hk1⟩
  · rw [Option.isSome_eq_false_iff, Option.isNone_iff_eq_none] at c_5
    refine go_iconst (q := 9) (v := (-1)) dX6_goes_8 (by decide) rfl ?_
    exact go_ireti dX6_goes_9 rfl ⟨by simp [dDie, c_5], by simpa [dDie, c_5] using hR, kRoll.rf⟩
theorem ok_founderComes {M : KM} {i : Nat} {R : RO} (hi : i < 8) (hR : RA M i R) (hW : rW R) (x : Int32) : Ok mX6_founderComes [vR 1 i, vI x] M (KQ i M (dFound R x).1 (dFound R x).2) := by
  refine ok_of (by decide) rfl (Nat.le_of_ble_eq_true rfl) ⟨rfl, rfl⟩ ?_
  show Go mX6_founderComes (Zm (KQ i M (dFound R x).1 (dFound R x).2)) M [some (vR 1 i), some (vI x)] [] 0
  refine go_iload_n (q := 1) dX6_founderComes_0 rfl rfl rfl ?_
  refine go_cS1 (cal := mX8_isShield) (q := 4) dX6_founderComes_1 lRX6_49 vX8_isShield ⟨by decide, by decide⟩ (Nat.le_of_ble_eq_true rfl) (ok_isShield M _) rfl ?_
  refine go_if_neB (q := 7) (t := 9) dX6_founderComes_4 (by decide) rfl (fun c_4 => ?_) (fun c_4 => ?_)
  · obtain ⟨s, hs⟩ := Option.isSome_iff_exists.mp c_4
    obtain ⟨hlt, rfl⟩ := pOf_some hs
    refine go_aload_n (q := 10) dX6_founderComes_9 rfl rfl rfl ?_
    refine go_getf (q := 13) dX6_founderComes_10 fRX6_28 rfl hi rfl rfl ?_
    refine go_topi hR.sz ?_
    refine go_bipush (q := 15) (v := 20) dX6_founderComes_13 (by decide) rfl ?_
    refine go_icmp_ltN (rN R) 20 (q := 18) (t := 21) dX6_founderComes_15 (by decide) rfl rfl rfl (by have := hR.le; omega) (by omega) (fun c_15 => ?_) (fun c_15 => ?_)
    · refine go_aload_n (q := 22) dX6_founderComes_21 rfl rfl rfl ?_
      refine go_iload_n (q := 23) dX6_founderComes_22 rfl rfl rfl ?_
      refine go_cV1 (cal := mX6_livingWith) (q := 26) dX6_founderComes_23 lRX6_54 vX6_livingWith ⟨by decide, by decide⟩ rfl hi (Nat.le_of_ble_eq_true rfl) (ok_livingWith hi hR hW (by omega)) rfl ?_
      refine go_iconst (q := 27) (v := (-1)) dX6_founderComes_26 (by decide) rfl ?_
      refine go_icmp_eq (q := 30) (t := 36) dX6_founderComes_27 (by decide) rfl (fun c_27 => ?_) (fun c_27 => ?_)
      · have h27 : bear R s = none := (e1_eq (bear_big hW)).mp c_27
        refine go_aload_n (q := 37) dX6_founderComes_36 rfl rfl rfl ?_
        refine go_iload_n (q := 38) dX6_founderComes_37 rfl rfl rfl ?_
        refine go_iconst (q := 39) (v := (-1)) dX6_founderComes_38 (by decide) rfl ?_
        refine go_iconst (q := 40) (v := (-1)) dX6_founderComes_39 (by decide) rfl ?_
        refine go_iconst (q := 41) (v := (-1)) dX6_founderComes_40 (by decide) rfl ?_
        refine go_kV4 (cal := mX6_add) (q := 44) dX6_founderComes_41 lRX6_60 vX6_add ⟨by decide, by decide⟩ rfl hi (Nat.le_of_ble_eq_true rfl) (ok_add hi hR c_15 s none) rfl (fun M1 hR1 hk1 => ?_)
        exact go_ireti dX6_founderComes_44 rfl ⟨by simp [dFound, hs, Nat.not_le.mpr c_15, h27], by simpa [dFound, hs, Nat.not_le.mpr c_15, h27] using hR1, hk1⟩
      · have h27 : ¬ bear R s = none := fun z => c_27 ((e1_eq (bear_big hW)).mpr z)
        refine go_aload_n (q := 31) dX6_founderComes_30 rfl rfl rfl ?_
        refine go_iconst (q := 32) (v := 3) dX6_founderComes_31 (by decide) rfl ?_
        refine go_kV1 (cal := mX6_refuse) (q := 35) dX6_founderComes_32 lRX6_57 vX6_refuse ⟨by decide, by decide⟩ rfl hi (Nat.le_of_ble_eq_true rfl) (ok_refuse hi hR _) rfl (fun M1 hR1 hk1 => ?_)
        exact go_ireti dX6_founderComes_35 rfl ⟨by simp [dFound, hs, Nat.not_le.mpr c_15, h27], by simpa [dFound, hs, Nat.not_le.mpr c_15, h27] using hR1, hk1⟩
    · refine go_bipush (q := 20) (v := (-3)) dX6_founderComes_18 (by decide) rfl ?_
      exact go_ireti dX6_founderComes_20 rfl ⟨by simp [dFound, hs, c_15], by simpa [dFound, hs, c_15] using hR, kRoll.rf⟩
  · rw [Option.isSome_eq_false_iff, Option.isNone_iff_eq_none] at c_4
    refine go_iconst (q := 8) (v := (-1)) dX6_founderComes_7 (by decide) rfl ?_
    exact go_ireti dX6_founderComes_8 rfl ⟨by simp [dFound, c_4], by simpa [dFound, c_4] using hR, kRoll.rf⟩
theorem whyS_big (R : RO) (f k m : Nat) : whyS R f k m < 2 ^ 31 := by
  unfold whyS
  repeat' split
  all_goals omega
theorem whyH_big (R : RO) (p : Nat) : whyH R p < 2 ^ 31 := by
  unfold whyH
  repeat' split
  all_goals omega
theorem ok_sonComes {M : KM} {i : Nat} {R : RO} (hi : i < 8) (hR : RA M i R) (hW : rW R) (x y z : Int32) : Ok mX6_sonComes [vR 1 i, vI x, vI y, vI z] M (KQ i M (dBear R x y z).1 (dBear R x y z).2) := by
  refine ok_of (by decide) rfl (Nat.le_of_ble_eq_true rfl) ⟨rfl, rfl⟩ ?_
  show Go mX6_sonComes (Zm (KQ i M (dBear R x y z).1 (dBear R x y z).2)) M [some (vR 1 i), some (vI x), some (vI y), some (vI z), none] [] 0
  refine go_aload_n (q := 1) dX6_sonComes_0 rfl rfl rfl ?_
  refine go_iload_n (q := 2) dX6_sonComes_1 rfl rfl rfl ?_
  refine go_cV1 (cal := mX6_has) (q := 5) dX6_sonComes_2 lRX6_38 vX6_has ⟨by decide, by decide⟩ rfl hi (Nat.le_of_ble_eq_true rfl) (ok_has hi hR _) rfl ?_
  refine go_if_eqB (q := 8) (t := 22) dX6_sonComes_5 (by decide) rfl (fun c_5 => ?_) (fun c_5 => ?_)
  · rw [Option.isSome_eq_false_iff, Option.isNone_iff_eq_none] at c_5
    refine go_iconst (q := 23) (v := (-1)) dX6_sonComes_22 (by decide) rfl ?_
    exact go_ireti dX6_sonComes_23 rfl ⟨by simp [dBear, c_5], by simpa [dBear, c_5] using hR, kRoll.rf⟩
  · refine go_iload_n (q := 9) dX6_sonComes_8 rfl rfl rfl ?_
    refine go_cS1 (cal := mX8_isPlace) (q := 12) dX6_sonComes_9 lRX6_64 vX8_isPlace ⟨by decide, by decide⟩ (Nat.le_of_ble_eq_true rfl) (ok_isPlace M _) rfl ?_
    refine go_if_eqB (q := 15) (t := 22) dX6_sonComes_12 (by decide) rfl (fun c_12 => ?_) (fun c_12 => ?_)
    · rw [Option.isSome_eq_false_iff, Option.isNone_iff_eq_none] at c_12
      refine go_iconst (q := 23) (v := (-1)) dX6_sonComes_22 (by decide) rfl ?_
      exact go_ireti dX6_sonComes_23 rfl ⟨by simp [dBear, c_12], by simpa [dBear, c_12] using hR, kRoll.rf⟩
    · refine go_iload_n (q := 16) dX6_sonComes_15 rfl rfl rfl ?_
      refine go_cS1 (cal := mX8_isMark) (q := 19) dX6_sonComes_16 lRX6_67 vX8_isMark ⟨by decide, by decide⟩ (Nat.le_of_ble_eq_true rfl) (ok_isMark M _) rfl ?_
      refine go_if_neB (q := 22) (t := 24) dX6_sonComes_19 (by decide) rfl (fun c_19 => ?_) (fun c_19 => ?_)
      · obtain ⟨p, hp⟩ := Option.isSome_iff_exists.mp c_5
        obtain ⟨hlt, rfl⟩ := pOf_some hp
        obtain ⟨k, hk2⟩ := Option.isSome_iff_exists.mp c_12
        obtain ⟨hkl, rfl⟩ := pOf_some hk2
        obtain ⟨m, hm2⟩ := Option.isSome_iff_exists.mp c_19
        obtain ⟨hml, rfl⟩ := pOf_some hm2
        refine go_aload_n (q := 25) dX6_sonComes_24 rfl rfl rfl ?_
        refine go_getf (q := 28) dX6_sonComes_25 fRX6_28 rfl hi rfl rfl ?_
        refine go_topi hR.sz ?_
        refine go_bipush (q := 30) (v := 20) dX6_sonComes_28 (by decide) rfl ?_
        refine go_icmp_ltN (rN R) 20 (q := 33) (t := 36) dX6_sonComes_30 (by decide) rfl rfl rfl (by have := hR.le; omega) (by omega) (fun c_30 => ?_) (fun c_30 => ?_)
        · refine go_aload_n (q := 37) dX6_sonComes_36 rfl rfl rfl ?_
          refine go_iload_n (q := 38) dX6_sonComes_37 rfl rfl rfl ?_
          refine go_iload_n (q := 39) dX6_sonComes_38 rfl rfl rfl ?_
          refine go_iload_n (q := 40) dX6_sonComes_39 rfl rfl rfl ?_
          refine go_cV3 (cal := mX6_reasonAgainstSon) (q := 43) dX6_sonComes_40 lRX6_70 vX6_reasonAgainstSon ⟨by decide, by decide⟩ rfl hi (Nat.le_of_ble_eq_true rfl) (ok_reasonAgainstSon hi hR hW hlt hkl hml) rfl ?_
          refine go_istore (q := 45) dX6_sonComes_43 (by decide) rfl rfl ?_
          refine go_iload (q := 47) dX6_sonComes_45 rfl rfl ?_
          refine go_if_eq (q := 50) (t := 57) dX6_sonComes_47 (by decide) rfl (fun c_47 => ?_) (fun c_47 => ?_)
          · have h47 : whyS R p k m = 0 := (nI_eq (whyS_big R p k m) (by decide)).mp c_47
            refine go_aload_n (q := 58) dX6_sonComes_57 rfl rfl rfl ?_
            refine go_aload_n (q := 59) dX6_sonComes_58 rfl rfl rfl ?_
            refine go_iload_n (q := 60) dX6_sonComes_59 rfl rfl rfl ?_
            refine go_cV1 (cal := mX6_shieldOf) (q := 63) dX6_sonComes_60 lRX6_74 vX6_shieldOf ⟨by decide, by decide⟩ rfl hi (Nat.le_of_ble_eq_true rfl) (ok_shieldOf hi hR _) rfl ?_
            rw [hp, oS_some]
            refine go_iload_n (q := 64) dX6_sonComes_63 rfl rfl rfl ?_
            refine go_iload_n (q := 65) dX6_sonComes_64 rfl rfl rfl ?_
            refine go_cS3 (cal := mX8_withMark) (q := 68) dX6_sonComes_65 lRX6_77 vX8_withMark ⟨by decide, by decide⟩ (Nat.le_of_ble_eq_true rfl) (ok_withMark (by have := hW.2.1 p hlt; omega) hkl) rfl ?_
            refine go_iload_n (q := 69) dX6_sonComes_68 rfl rfl rfl ?_
            refine go_iload_n (q := 70) dX6_sonComes_69 rfl rfl rfl ?_
            refine go_iload_n (q := 71) dX6_sonComes_70 rfl rfl rfl ?_
            refine go_kV4 (cal := mX6_add) (q := 74) dX6_sonComes_71 lRX6_60 vX6_add ⟨by decide, by decide⟩ rfl hi (Nat.le_of_ble_eq_true rfl) (ok_add hi hR c_30 (wm (rS R p) k m) (some (p, k, m))) rfl (fun M1 hR1 hk1 => ?_)
            exact go_ireti dX6_sonComes_74 rfl ⟨by simp [dBear, hp, hk2, hm2, Nat.not_le.mpr c_30, h47], by simpa [dBear, hp, hk2, hm2, Nat.not_le.mpr c_30, h47] using hR1, hk1⟩
          · have h47 : ¬ whyS R p k m = 0 := fun z => c_47 (by rw [z]; rfl)
            refine go_aload_n (q := 51) dX6_sonComes_50 rfl rfl rfl ?_
            refine go_iload (q := 53) dX6_sonComes_51 rfl rfl ?_
            refine go_kV1 (cal := mX6_refuse) (q := 56) dX6_sonComes_53 lRX6_57 vX6_refuse ⟨by decide, by decide⟩ rfl hi (Nat.le_of_ble_eq_true rfl) (ok_refuse hi hR _) rfl (fun M1 hR1 hk1 => ?_)
            exact go_ireti dX6_sonComes_56 rfl ⟨by simp [dBear, hp, hk2, hm2, Nat.not_le.mpr c_30, h47], by simpa [dBear, hp, hk2, hm2, Nat.not_le.mpr c_30, h47] using hR1, hk1⟩
        · refine go_bipush (q := 35) (v := (-3)) dX6_sonComes_33 (by decide) rfl ?_
          exact go_ireti dX6_sonComes_35 rfl ⟨by simp [dBear, hp, hk2, hm2, c_30], by simpa [dBear, hp, hk2, hm2, c_30] using hR, kRoll.rf⟩
      · rw [Option.isSome_eq_false_iff, Option.isNone_iff_eq_none] at c_19
        refine go_iconst (q := 23) (v := (-1)) dX6_sonComes_22 (by decide) rfl ?_
        exact go_ireti dX6_sonComes_23 rfl ⟨by simp [dBear, c_19], by simpa [dBear, c_19] using hR, kRoll.rf⟩
theorem ok_becomesHeir {M : KM} {i : Nat} {R : RO} (hi : i < 8) (hR : RA M i R) (hW : rW R) (x : Int32) : Ok mX6_becomesHeir [vR 1 i, vI x] M (KQ i M (dHeir R x).1 (dHeir R x).2) := by
  refine ok_of (by decide) rfl (Nat.le_of_ble_eq_true rfl) ⟨rfl, rfl⟩ ?_
  show Go mX6_becomesHeir (Zm (KQ i M (dHeir R x).1 (dHeir R x).2)) M [some (vR 1 i), some (vI x), none, none] [] 0
  refine go_aload_n (q := 1) dX6_becomesHeir_0 rfl rfl rfl ?_
  refine go_iload_n (q := 2) dX6_becomesHeir_1 rfl rfl rfl ?_
  refine go_cV1 (cal := mX6_has) (q := 5) dX6_becomesHeir_2 lRX6_38 vX6_has ⟨by decide, by decide⟩ rfl hi (Nat.le_of_ble_eq_true rfl) (ok_has hi hR _) rfl ?_
  refine go_if_neB (q := 8) (t := 10) dX6_becomesHeir_5 (by decide) rfl (fun c_5 => ?_) (fun c_5 => ?_)
  · obtain ⟨p, hp⟩ := Option.isSome_iff_exists.mp c_5
    obtain ⟨hlt, rfl⟩ := pOf_some hp
    refine go_aload_n (q := 11) dX6_becomesHeir_10 rfl rfl rfl ?_
    refine go_iload_n (q := 12) dX6_becomesHeir_11 rfl rfl rfl ?_
    refine go_cV1 (cal := mX6_isAlive) (q := 15) dX6_becomesHeir_12 lRX6_42 vX6_isAlive ⟨by decide, by decide⟩ rfl hi (Nat.le_of_ble_eq_true rfl) (ok_isAlive hi hR _) rfl ?_
    rw [hp, oL_some]
    refine go_if_neB (q := 18) (t := 21) dX6_becomesHeir_15 (by decide) rfl (fun c_15 => ?_) (fun c_15 => ?_)
    · refine go_aload_n (q := 22) dX6_becomesHeir_21 rfl rfl rfl ?_
      refine go_iload_n (q := 23) dX6_becomesHeir_22 rfl rfl rfl ?_
      refine go_cV1 (cal := mX6_reasonAgainstHeir) (q := 26) dX6_becomesHeir_23 lRX6_84 vX6_reasonAgainstHeir ⟨by decide, by decide⟩ rfl hi (Nat.le_of_ble_eq_true rfl) (ok_reasonAgainstHeir hi hR hW hlt) rfl ?_
      refine go_istore_n (q := 27) dX6_becomesHeir_26 rfl (by decide) rfl rfl ?_
      refine go_iload_n (q := 28) dX6_becomesHeir_27 rfl rfl rfl ?_
      refine go_if_eq (q := 31) (t := 37) dX6_becomesHeir_28 (by decide) rfl (fun c_28 => ?_) (fun c_28 => ?_)
      · have h28 : whyH R p = 0 := (nI_eq (whyH_big R p) (by decide)).mp c_28
        refine go_aload_n (q := 38) dX6_becomesHeir_37 rfl rfl rfl ?_
        refine go_iload_n (q := 39) dX6_becomesHeir_38 rfl rfl rfl ?_
        refine go_cV1 (cal := mX6_shieldOf) (q := 42) dX6_becomesHeir_39 lRX6_74 vX6_shieldOf ⟨by decide, by decide⟩ rfl hi (Nat.le_of_ble_eq_true rfl) (ok_shieldOf hi hR _) rfl ?_
        rw [hp, oS_some]
        refine go_istore_n (q := 43) dX6_becomesHeir_42 rfl (by decide) rfl rfl ?_
        refine go_aload_n (q := 44) dX6_becomesHeir_43 rfl rfl rfl ?_
        refine go_getf (q := 47) dX6_becomesHeir_44 fRX6_9 rfl hi rfl rfl ?_
        refine go_iload_n (q := 48) dX6_becomesHeir_47 rfl rfl rfl ?_
        refine go_aload_n (q := 49) dX6_becomesHeir_48 rfl rfl rfl ?_
        refine go_aload_n (q := 50) dX6_becomesHeir_49 rfl rfl rfl ?_
        refine go_iload_n (q := 51) dX6_becomesHeir_50 rfl rfl rfl ?_
        refine go_cV1 (cal := mX6_fatherOf) (q := 54) dX6_becomesHeir_51 lRX6_45 vX6_fatherOf ⟨by decide, by decide⟩ rfl hi (Nat.le_of_ble_eq_true rfl) (ok_fatherOf hi hR _) rfl ?_
        rw [hp, oP_some]
        refine go_cV1 (cal := mX6_shieldOf) (q := 57) dX6_becomesHeir_54 lRX6_74 vX6_shieldOf ⟨by decide, by decide⟩ rfl hi (Nat.le_of_ble_eq_true rfl) (ok_shieldOf hi hR _) rfl ?_
        rw [pOf_e1 (rP_n hW hlt) (by have := hR.le; omega)]
        refine go_iast (q := 58) p dX6_becomesHeir_57 rfl rfl hi rfl (hR.lt hlt) rfl ?_
        refine go_aload_n (q := 59) dX6_becomesHeir_58 rfl rfl rfl ?_
        refine go_dup (q := 60) dX6_becomesHeir_59 rfl rfl ?_
        refine go_getf (q := 63) dX6_becomesHeir_60 fRX6_32 rfl hi rfl rfl ?_
        refine go_iconst (q := 64) (v := 1) dX6_becomesHeir_63 (by decide) rfl ?_
        refine go_iadd (q := 65) dX6_becomesHeir_64 rfl ?_
        refine go_puti (q := 68) dX6_becomesHeir_65 pRX6_32 rfl hi rfl rfl rfl (Nat.le_of_ble_eq_true rfl) rfl ?_
        have hR2 := RA_heir (s := oS R (rP R p)) hR hlt
        have hob : oS R (rP R p) < 2 ^ 31 := by
          cases h : rP R p with
          | none => exact (by decide : 0 < 2 ^ 31)
          | some f => have := hW.2.1 f (rP_n hW hlt f h); show rS R f < _; omega
        refine go_bipush (q := 70) (v := 10) dX6_becomesHeir_68 (by decide) rfl ?_
        refine go_iload_n (q := 71) dX6_becomesHeir_70 rfl rfl rfl ?_
        refine go_aload_n (q := 72) dX6_becomesHeir_71 rfl rfl rfl ?_
        refine go_iload_n (q := 73) dX6_becomesHeir_72 rfl rfl rfl ?_
        refine go_cV1 (cal := mX6_shieldOf) (q := 76) dX6_becomesHeir_73 lRX6_74 vX6_shieldOf ⟨by decide, by decide⟩ rfl hi (Nat.le_of_ble_eq_true rfl) (ok_shieldOf hi hR2 _) rfl ?_
        rw [show oS (rHeir R p (oS R (rP R p))) (pOf (rN (rHeir R p (oS R (rP R p)))) (nI p)) = oS R (rP R p) from by rw [show pOf (rN (rHeir R p (oS R (rP R p)))) (nI p) = some p from hp]; simp [oS, rS, rHeir]]
        refine go_cS2 (cal := mX8_apart) (q := 79) dX6_becomesHeir_76 lRX6_87 vX8_apart ⟨by decide, by decide⟩ (Nat.le_of_ble_eq_true rfl) (ok_apart (by have := hW.2.1 p hlt; omega) hob) rfl ?_
        refine go_iadd (q := 80) dX6_becomesHeir_79 rfl ?_
        exact go_ireti dX6_becomesHeir_80 rfl ⟨by simp [dHeir, hp, c_15, h28, k_10], by simpa [dHeir, hp, c_15, h28] using hR2, (kRoll.rf.si (by decide) (by decide)).si (by decide) (by decide)⟩
      · have h28 : ¬ whyH R p = 0 := fun z => c_28 (by rw [z]; rfl)
        refine go_aload_n (q := 32) dX6_becomesHeir_31 rfl rfl rfl ?_
        refine go_iload_n (q := 33) dX6_becomesHeir_32 rfl rfl rfl ?_
        refine go_kV1 (cal := mX6_refuse) (q := 36) dX6_becomesHeir_33 lRX6_57 vX6_refuse ⟨by decide, by decide⟩ rfl hi (Nat.le_of_ble_eq_true rfl) (ok_refuse hi hR _) rfl (fun M1 hR1 hk1 => ?_)
        exact go_ireti dX6_becomesHeir_36 rfl ⟨by simp [dHeir, hp, c_15, h28], by simpa [dHeir, hp, c_15, h28] using hR1, hk1⟩
    · refine go_bipush (q := 20) (v := (-2)) dX6_becomesHeir_18 (by decide) rfl ?_
      exact go_ireti dX6_becomesHeir_20 rfl ⟨by simp [dHeir, hp, c_15], by simpa [dHeir, hp, c_15] using hR, kRoll.rf⟩
  · rw [Option.isSome_eq_false_iff, Option.isNone_iff_eq_none] at c_5
    refine go_iconst (q := 9) (v := (-1)) dX6_becomesHeir_8 (by decide) rfl ?_
    exact go_ireti dX6_becomesHeir_9 rfl ⟨by simp [dHeir, c_5], by simpa [dHeir, c_5] using hR, kRoll.rf⟩
