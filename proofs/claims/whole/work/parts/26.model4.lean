/-! ===== the model's state ===== -/
def HZ (M : KM) (h : Nat) (hs : Nat → RO) : Prop := M.1 14 0 2 = nI h ∧ h ≤ 4 ∧ ∀ j, j < h → ZF (M.1 16 0) (103 * j) (hs j)
def PZ (M : KM) (n : Nat) (c : Nat → Nat) : Prop := M.1 14 0 6 = nI n ∧ n ≤ 60 ∧ ∀ j, j < n → M.1 18 0 j = nI (c j) ∧ 33 ≤ c j ∧ c j ≤ 126
def WZ (M : KM) : Option (Int32 × Int32 × Int32) → Prop
  | none => M.1 14 0 7 = -4 ∧ M.1 14 0 8 = -4 ∧ M.1 14 0 9 = -4
  | some (a, b, c) => M.1 14 0 7 = a ∧ M.1 14 0 8 = b ∧ M.1 14 0 9 = c
def MI (M : KM) (σ : ST) : Prop := ZA M σ.1 ∧ rW σ.1 ∧ M.1 14 0 4 = bI σ.2.1.isSome ∧ (∀ s, σ.2.1 = some s → ZF (M.1 17 0) 0 s ∧ rW s) ∧ HZ M σ.2.2.1.1 σ.2.2.1.2 ∧ (∀ j, j < σ.2.2.1.1 → rW (σ.2.2.1.2 j)) ∧ PZ M σ.2.2.2.1.1 σ.2.2.2.1.2 ∧ WZ M σ.2.2.2.2
def fm (M M' : KM) : Prop := M'.2 = M.2 ∧ ∀ k b, k < 14 → M'.1 k b = M.1 k b
theorem fm.rf {M : KM} : fm M M := ⟨rfl, fun _ _ _ => rfl⟩
theorem fm.tr {M M1 M2 : KM} (h1 : fm M M1) (h2 : fm M1 M2) : fm M M2 := ⟨h2.1.trans h1.1, fun k b h => (h2.2 k b h).trans (h1.2 k b h)⟩
theorem fm.si {M M' : KM} {k j : Nat} {v : Int32} (h : fm M M') (hk : 14 ≤ k) : fm M (k_si M' k 0 j v) := ⟨h.1, fun a b hab => (k_si_ne M' v (fun z => by omega)).trans (h.2 a b hab)⟩
def kZ (M M' : KM) : Prop := M'.2 = M.2 ∧ ∀ k b, k ≠ 15 → M'.1 k b = M.1 k b
theorem kZ.rf {M : KM} : kZ M M := ⟨rfl, fun _ _ _ => rfl⟩
theorem kZ.tr {M M1 M2 : KM} (h1 : kZ M M1) (h2 : kZ M1 M2) : kZ M M2 := ⟨h2.1.trans h1.1, fun k b h => (h2.2 k b h).trans (h1.2 k b h)⟩
theorem kZ.si {M M' : KM} {j : Nat} {v : Int32} (h : kZ M M') : kZ M (k_si M' 15 0 j v) := ⟨h.1, fun a b hab => (k_si_ne M' v (fun z => hab z.1)).trans (h.2 a b hab)⟩
theorem kZ.fm {M M' : KM} (h : kZ M M') : fm M M' := ⟨h.1, fun k b hk => h.2 k b (by omega)⟩
def kN (M M' : KM) : Prop := M'.2 = M.2 ∧ (∀ k b, k ≠ 16 → k ≠ 14 → M'.1 k b = M.1 k b) ∧ ∀ c, c ≠ 2 → M'.1 14 0 c = M.1 14 0 c
theorem kN.fm {M M' : KM} (h : kN M M') : fm M M' := ⟨h.1, fun k b hk => h.2.1 k b (by omega) (by omega)⟩
theorem kN.tr {M M1 M2 : KM} (h1 : kN M M1) (h2 : kN M1 M2) : kN M M2 := ⟨h2.1.trans h1.1, fun k b h h' => (h2.2.1 k b h h').trans (h1.2.1 k b h h'), fun c hc => (h2.2.2 c hc).trans (h1.2.2 c hc)⟩
theorem sg (M : KM) (k i j : Nat) (v : Int32) : (k_si M k i j v).1 k i j = v := by
  show (if k = k ∧ j = j ∧ i = i then v else M.1 k i j) = v
  rw [if_pos ⟨rfl, rfl, rfl⟩]
theorem sgn2 (M : KM) {k i j c : Nat} (v : Int32) (h : c ≠ j) : (k_si M k i j v).1 k i c = M.1 k i c := by
  show (if k = k ∧ c = j ∧ i = i then v else M.1 k i c) = _
  rw [if_neg (fun z => h z.2.1)]
theorem HZ_keep {M M' : KM} {h : Nat} {hs : Nat → RO} (hH : HZ M h hs) (e16 : M'.1 16 0 = M.1 16 0) (e2 : M'.1 14 0 2 = M.1 14 0 2) : HZ M' h hs := by
  unfold HZ; rw [e16, e2]; exact hH
theorem PZ_keep {M M' : KM} {n : Nat} {c : Nat → Nat} (h : PZ M n c) (e18 : M'.1 18 0 = M.1 18 0) (e6 : M'.1 14 0 6 = M.1 14 0 6) : PZ M' n c := by
  unfold PZ; rw [e18, e6]; exact h
theorem WZ_keep {M M' : KM} {w : Option (Int32 × Int32 × Int32)} (h : WZ M w) (e : ∀ c, 7 ≤ c → c ≤ 9 → M'.1 14 0 c = M.1 14 0 c) : WZ M' w := by
  unfold WZ; rw [e 7 (by decide) (by decide), e 8 (by decide) (by decide), e 9 (by decide) (by decide)]; exact h
theorem MI_setZ {M M' : KM} {σ : ST} {R' : RO} (h : MI M σ) (hk : kZ M M') (hZ : ZA M' R') (hW : rW R') : MI M' (R', σ.2) := by
  obtain ⟨a1, a2, a3, a4, a5, a6, a7, a8⟩ := h
  have e : ∀ k, k ≠ 15 → M'.1 k 0 = M.1 k 0 := fun k hk2 => hk.2 k 0 hk2
  refine ⟨hZ, hW, ?_, fun s hs => ?_, HZ_keep a5 (e 16 (by decide)) (congrFun (e 14 (by decide)) 2), a6, PZ_keep a7 (e 18 (by decide)) (congrFun (e 14 (by decide)) 6), WZ_keep a8 (fun c _ _ => congrFun (e 14 (by decide)) c)⟩
  · rw [e 14 (by decide)]; exact a3
  · rw [e 17 (by decide)]; exact a4 s hs
theorem MI_rec {M M' : KM} {σ : ST} {R : RO} (h : MI M σ) (hk : kN M M') (hH : HZ M' (hKeep σ.2.2.1.1 σ.2.2.1.2 R).1 (hKeep σ.2.2.1.1 σ.2.2.1.2 R).2) (hW : rW R) : MI M' (sKeep σ R) := by
  obtain ⟨a1, a2, a3, a4, a5, a6, a7, a8⟩ := h
  have e : ∀ k, k ≠ 16 → k ≠ 14 → M'.1 k 0 = M.1 k 0 := fun k h1 h2 => hk.2.1 k 0 h1 h2
  refine ⟨?_, a2, ?_, fun s hs => ?_, hH, rW_keep a6 hW a5.2.1, PZ_keep a7 (e 18 (by decide) (by decide)) (hk.2.2 6 (by decide)), WZ_keep a8 (fun c h1 h2 => hk.2.2 c (by omega))⟩
  · show ZF (M'.1 15 0) 0 _
    rw [e 15 (by decide) (by decide)]; exact a1
  · rw [hk.2.2 4 (by decide)]; exact a3
  · rw [e 17 (by decide) (by decide)]; exact a4 s hs
def QM (M : KM) (v : Int32) (σ : ST) : Option KV → KM → Prop := fun r M' => r = some (vI v) ∧ MI M' σ ∧ fm M M'
def KZQ (M : KM) (v : Int32) (R' : RO) : Option KV → KM → Prop := fun r M' => r = some (vI v) ∧ ZA M' R' ∧ kZ M M'
/-! ===== a state copied ===== -/
def kcs (M : KM) (a fa b tb j : Nat) : KM := (fun k i c => if k = b ∧ i = 0 ∧ tb ≤ c ∧ c < tb + j then M.1 a 0 (fa + (c - tb)) else M.1 k i c, M.2)
theorem kcs_ne {M : KM} {a fa b tb j k i : Nat} (h : k ≠ b) : (kcs M a fa b tb j).1 k i = M.1 k i := by
  funext c
  exact if_neg (fun z => h z.1)
theorem kcs_in {M : KM} {a fa b tb j c : Nat} (h : c < j) : (kcs M a fa b tb j).1 b 0 (tb + c) = M.1 a 0 (fa + c) := by
  show (if b = b ∧ 0 = 0 ∧ tb ≤ tb + c ∧ tb + c < tb + j then _ else _) = _
  rw [if_pos ⟨rfl, rfl, by omega, by omega⟩, Nat.add_sub_cancel_left]
theorem kcs_out {M : KM} {a fa b tb j c : Nat} (h : c < tb ∨ tb + j ≤ c) : (kcs M a fa b tb j).1 b 0 c = M.1 b 0 c := by
  show (if b = b ∧ 0 = 0 ∧ tb ≤ c ∧ c < tb + j then _ else _) = _
  rw [if_neg (fun z => by omega)]
theorem kcs_0 {M : KM} {a fa b tb : Nat} : kcs M a fa b tb 0 = M := by
  refine Prod.ext ?_ rfl
  funext k i c
  exact if_neg (fun z => by omega)
theorem kcs_s {M : KM} {a fa b tb j : Nat} (h : a ≠ b) : k_si (kcs M a fa b tb j) b 0 (tb + j) ((kcs M a fa b tb j).1 a 0 (fa + j)) = kcs M a fa b tb (j + 1) := by
  rw [kcs_ne h]
  refine Prod.ext ?_ rfl
  funext k i c
  show (if k = b ∧ c = tb + j ∧ i = 0 then M.1 a 0 (fa + j) else if k = b ∧ i = 0 ∧ tb ≤ c ∧ c < tb + j then M.1 a 0 (fa + (c - tb)) else M.1 k i c) = if k = b ∧ i = 0 ∧ tb ≤ c ∧ c < tb + (j + 1) then M.1 a 0 (fa + (c - tb)) else M.1 k i c
  by_cases h1 : k = b ∧ i = 0
  · by_cases h2 : c = tb + j
    · rw [if_pos ⟨h1.1, h2, h1.2⟩, if_pos ⟨h1.1, h1.2, by omega, by omega⟩, h2, Nat.add_sub_cancel_left]
    · rw [if_neg (fun z => h2 z.2.1)]
      by_cases h3 : tb ≤ c ∧ c < tb + j
      · rw [if_pos ⟨h1.1, h1.2, h3.1, h3.2⟩, if_pos ⟨h1.1, h1.2, h3.1, by omega⟩]
      · rw [if_neg (fun z => h3 z.2.2), if_neg (fun z => h3 ⟨z.2.2.1, by omega⟩)]
  · rw [if_neg (fun z => h1 ⟨z.1, z.2.2⟩), if_neg (fun z => h1 ⟨z.1, z.2.1⟩), if_neg (fun z => h1 ⟨z.1, z.2.1⟩)]
theorem ZF_cg {f g : Nat → Int32} {fa tb : Nat} {R : RO} (h : ZF f fa R) (e : ∀ c, c < 103 → g (tb + c) = f (fa + c)) : ZF g tb R := by
  have hl := h.2.2.2.1
  refine ⟨(e 0 (by decide)).trans h.1, (e 1 (by decide)).trans h.2.1, (e 2 (by decide)).trans h.2.2.1, hl, fun p hp => ?_⟩
  obtain ⟨a1, a2, a3, a4, a5⟩ := h.2.2.2.2 p hp
  exact ⟨(e _ (by omega)).trans a1, (e _ (by omega)).trans a2, (e _ (by omega)).trans a3, (e _ (by omega)).trans a4, (e _ (by omega)).trans a5⟩
theorem ZF_cp {M : KM} {a fa b tb : Nat} {R : RO} (h : ZF (M.1 a 0) fa R) : ZF ((kcs M a fa b tb 103).1 b 0) tb R := ZF_cg h (fun _ hc => kcs_in hc)
theorem lp_mcp1516 {M : KM} {fa tb : Nat} (hfa : fa + 103 ≤ 103) (htb : tb + 103 ≤ 412) : ∀ (d : Nat) (j : Nat) (y : Int32), 103 - j < d → (y = nI j) → (j ≤ 103) → Go mX10_copyState (Zm (QF none (kcs M 15 fa 16 tb 103))) (kcs M 15 fa 16 tb j) [some (vR 15 0), some (vI (nI fa)), some (vR 16 0), some (vI (nI tb)), some (vI y)] [] 3 := by
  intro d
  induction d with
  | zero => intro j y hd; exact absurd hd (Nat.not_lt_zero _)
  | succ d ih =>
    intro j y hd h0 h1
    refine go_iload (q := 5) dX10_copyState_3 rfl rfl ?_
    refine go_bipush (q := 7) (v := 103) dX10_copyState_5 (by decide) rfl ?_
    refine go_icmp_geN j 103 (q := 10) (t := 28) dX10_copyState_7 (by decide) rfl h0 rfl (by omega) (by omega) (fun c_7 => ?_) (fun c_7 => ?_)
    · exact go_rv dX10_copyState_28 rfl (by rw [show j = 103 by omega])
    · subst h0
      refine go_aload_n (q := 11) dX10_copyState_10 rfl rfl rfl ?_
      refine go_iload_n (q := 12) dX10_copyState_11 rfl rfl rfl ?_
      refine go_iload (q := 14) dX10_copyState_12 rfl rfl ?_
      refine go_iadd (q := 15) dX10_copyState_14 rfl ?_
      refine go_topi (nI_add _ _) ?_
      refine go_aload_n (q := 16) dX10_copyState_15 rfl rfl rfl ?_
      refine go_iload_n (q := 17) dX10_copyState_16 rfl rfl rfl ?_
      refine go_iload (q := 19) dX10_copyState_17 rfl rfl ?_
      refine go_iadd (q := 20) dX10_copyState_19 rfl ?_
      refine go_topi (nI_add _ _) ?_
      refine go_iald (q := 21) (fa + j) dX10_copyState_20 rfl rfl (by decide) rfl (by omega) rfl ?_
      refine go_iast (q := 22) (tb + j) dX10_copyState_21 rfl rfl (by decide) rfl (by omega) rfl ?_
      refine go_iinc (q := 25) (v := 1) dX10_copyState_22 (by decide) rfl (by decide) rfl rfl ?_
      refine go_goto (q := 3) dX10_copyState_25 (by decide) ?_
      rw [kcs_s (by decide)]
      exact ih (j + 1) _ (by omega) (nI_1 j) (by omega)
theorem ok_mcp1516 {M : KM} {fa tb : Nat} (hfa : fa + 103 ≤ 103) (htb : tb + 103 ≤ 412) : OkF mX10_copyState [vR 15 0, vI (nI fa), vR 16 0, vI (nI tb)] M none (kcs M 15 fa 16 tb 103) := by
  refine ok_of (by decide) rfl (Nat.le_of_ble_eq_true rfl) ⟨rfl, rfl⟩ ?_
  show Go mX10_copyState (Zm (QF none (kcs M 15 fa 16 tb 103))) M [some (vR 15 0), some (vI (nI fa)), some (vR 16 0), some (vI (nI tb)), none] [] 0
  refine go_iconst (q := 1) (v := 0) dX10_copyState_0 (by decide) rfl ?_
  refine go_istore (q := 3) dX10_copyState_1 (by decide) rfl rfl ?_
  have h := lp_mcp1516 (M := M) hfa htb 104 0 0 (by omega) rfl (by omega)
  rw [kcs_0] at h
  exact h
theorem lp_mcp1615 {M : KM} {fa tb : Nat} (hfa : fa + 103 ≤ 412) (htb : tb + 103 ≤ 103) : ∀ (d : Nat) (j : Nat) (y : Int32), 103 - j < d → (y = nI j) → (j ≤ 103) → Go mX10_copyState (Zm (QF none (kcs M 16 fa 15 tb 103))) (kcs M 16 fa 15 tb j) [some (vR 16 0), some (vI (nI fa)), some (vR 15 0), some (vI (nI tb)), some (vI y)] [] 3 := by
  intro d
  induction d with
  | zero => intro j y hd; exact absurd hd (Nat.not_lt_zero _)
  | succ d ih =>
    intro j y hd h0 h1
    refine go_iload (q := 5) dX10_copyState_3 rfl rfl ?_
    refine go_bipush (q := 7) (v := 103) dX10_copyState_5 (by decide) rfl ?_
    refine go_icmp_geN j 103 (q := 10) (t := 28) dX10_copyState_7 (by decide) rfl h0 rfl (by omega) (by omega) (fun c_7 => ?_) (fun c_7 => ?_)
    · exact go_rv dX10_copyState_28 rfl (by rw [show j = 103 by omega])
    · subst h0
      refine go_aload_n (q := 11) dX10_copyState_10 rfl rfl rfl ?_
      refine go_iload_n (q := 12) dX10_copyState_11 rfl rfl rfl ?_
      refine go_iload (q := 14) dX10_copyState_12 rfl rfl ?_
      refine go_iadd (q := 15) dX10_copyState_14 rfl ?_
      refine go_topi (nI_add _ _) ?_
      refine go_aload_n (q := 16) dX10_copyState_15 rfl rfl rfl ?_
      refine go_iload_n (q := 17) dX10_copyState_16 rfl rfl rfl ?_
      refine go_iload (q := 19) dX10_copyState_17 rfl rfl ?_
      refine go_iadd (q := 20) dX10_copyState_19 rfl ?_
      refine go_topi (nI_add _ _) ?_
      refine go_iald (q := 21) (fa + j) dX10_copyState_20 rfl rfl (by decide) rfl (by omega) rfl ?_
      refine go_iast (q := 22) (tb + j) dX10_copyState_21 rfl rfl (by decide) rfl (by omega) rfl ?_
      refine go_iinc (q := 25) (v := 1) dX10_copyState_22 (by decide) rfl (by decide) rfl rfl ?_
      refine go_goto (q := 3) dX10_copyState_25 (by decide) ?_
      rw [kcs_s (by decide)]
      exact ih (j + 1) _ (by omega) (nI_1 j) (by omega)
theorem ok_mcp1615 {M : KM} {fa tb : Nat} (hfa : fa + 103 ≤ 412) (htb : tb + 103 ≤ 103) : OkF mX10_copyState [vR 16 0, vI (nI fa), vR 15 0, vI (nI tb)] M none (kcs M 16 fa 15 tb 103) := by
  refine ok_of (by decide) rfl (Nat.le_of_ble_eq_true rfl) ⟨rfl, rfl⟩ ?_
  show Go mX10_copyState (Zm (QF none (kcs M 16 fa 15 tb 103))) M [some (vR 16 0), some (vI (nI fa)), some (vR 15 0), some (vI (nI tb)), none] [] 0
  refine go_iconst (q := 1) (v := 0) dX10_copyState_0 (by decide) rfl ?_
  refine go_istore (q := 3) dX10_copyState_1 (by decide) rfl rfl ?_
  have h := lp_mcp1615 (M := M) hfa htb 104 0 0 (by omega) rfl (by omega)
  rw [kcs_0] at h
  exact h
theorem lp_mcp1517 {M : KM} {fa tb : Nat} (hfa : fa + 103 ≤ 103) (htb : tb + 103 ≤ 103) : ∀ (d : Nat) (j : Nat) (y : Int32), 103 - j < d → (y = nI j) → (j ≤ 103) → Go mX10_copyState (Zm (QF none (kcs M 15 fa 17 tb 103))) (kcs M 15 fa 17 tb j) [some (vR 15 0), some (vI (nI fa)), some (vR 17 0), some (vI (nI tb)), some (vI y)] [] 3 := by
  intro d
  induction d with
  | zero => intro j y hd; exact absurd hd (Nat.not_lt_zero _)
  | succ d ih =>
    intro j y hd h0 h1
    refine go_iload (q := 5) dX10_copyState_3 rfl rfl ?_
    refine go_bipush (q := 7) (v := 103) dX10_copyState_5 (by decide) rfl ?_
    refine go_icmp_geN j 103 (q := 10) (t := 28) dX10_copyState_7 (by decide) rfl h0 rfl (by omega) (by omega) (fun c_7 => ?_) (fun c_7 => ?_)
    · exact go_rv dX10_copyState_28 rfl (by rw [show j = 103 by omega])
    · subst h0
      refine go_aload_n (q := 11) dX10_copyState_10 rfl rfl rfl ?_
      refine go_iload_n (q := 12) dX10_copyState_11 rfl rfl rfl ?_
      refine go_iload (q := 14) dX10_copyState_12 rfl rfl ?_
      refine go_iadd (q := 15) dX10_copyState_14 rfl ?_
      refine go_topi (nI_add _ _) ?_
      refine go_aload_n (q := 16) dX10_copyState_15 rfl rfl rfl ?_
      refine go_iload_n (q := 17) dX10_copyState_16 rfl rfl rfl ?_
      refine go_iload (q := 19) dX10_copyState_17 rfl rfl ?_
      refine go_iadd (q := 20) dX10_copyState_19 rfl ?_
      refine go_topi (nI_add _ _) ?_
      refine go_iald (q := 21) (fa + j) dX10_copyState_20 rfl rfl (by decide) rfl (by omega) rfl ?_
      refine go_iast (q := 22) (tb + j) dX10_copyState_21 rfl rfl (by decide) rfl (by omega) rfl ?_
      refine go_iinc (q := 25) (v := 1) dX10_copyState_22 (by decide) rfl (by decide) rfl rfl ?_
      refine go_goto (q := 3) dX10_copyState_25 (by decide) ?_
      rw [kcs_s (by decide)]
      exact ih (j + 1) _ (by omega) (nI_1 j) (by omega)
theorem ok_mcp1517 {M : KM} {fa tb : Nat} (hfa : fa + 103 ≤ 103) (htb : tb + 103 ≤ 103) : OkF mX10_copyState [vR 15 0, vI (nI fa), vR 17 0, vI (nI tb)] M none (kcs M 15 fa 17 tb 103) := by
  refine ok_of (by decide) rfl (Nat.le_of_ble_eq_true rfl) ⟨rfl, rfl⟩ ?_
  show Go mX10_copyState (Zm (QF none (kcs M 15 fa 17 tb 103))) M [some (vR 15 0), some (vI (nI fa)), some (vR 17 0), some (vI (nI tb)), none] [] 0
  refine go_iconst (q := 1) (v := 0) dX10_copyState_0 (by decide) rfl ?_
  refine go_istore (q := 3) dX10_copyState_1 (by decide) rfl rfl ?_
  have h := lp_mcp1517 (M := M) hfa htb 104 0 0 (by omega) rfl (by omega)
  rw [kcs_0] at h
  exact h
theorem lp_mcp1715 {M : KM} {fa tb : Nat} (hfa : fa + 103 ≤ 103) (htb : tb + 103 ≤ 103) : ∀ (d : Nat) (j : Nat) (y : Int32), 103 - j < d → (y = nI j) → (j ≤ 103) → Go mX10_copyState (Zm (QF none (kcs M 17 fa 15 tb 103))) (kcs M 17 fa 15 tb j) [some (vR 17 0), some (vI (nI fa)), some (vR 15 0), some (vI (nI tb)), some (vI y)] [] 3 := by
  intro d
  induction d with
  | zero => intro j y hd; exact absurd hd (Nat.not_lt_zero _)
  | succ d ih =>
    intro j y hd h0 h1
    refine go_iload (q := 5) dX10_copyState_3 rfl rfl ?_
    refine go_bipush (q := 7) (v := 103) dX10_copyState_5 (by decide) rfl ?_
    refine go_icmp_geN j 103 (q := 10) (t := 28) dX10_copyState_7 (by decide) rfl h0 rfl (by omega) (by omega) (fun c_7 => ?_) (fun c_7 => ?_)
    · exact go_rv dX10_copyState_28 rfl (by rw [show j = 103 by omega])
    · subst h0
      refine go_aload_n (q := 11) dX10_copyState_10 rfl rfl rfl ?_
      refine go_iload_n (q := 12) dX10_copyState_11 rfl rfl rfl ?_
      refine go_iload (q := 14) dX10_copyState_12 rfl rfl ?_
      refine go_iadd (q := 15) dX10_copyState_14 rfl ?_
      refine go_topi (nI_add _ _) ?_
      refine go_aload_n (q := 16) dX10_copyState_15 rfl rfl rfl ?_
      refine go_iload_n (q := 17) dX10_copyState_16 rfl rfl rfl ?_
      refine go_iload (q := 19) dX10_copyState_17 rfl rfl ?_
      refine go_iadd (q := 20) dX10_copyState_19 rfl ?_
      refine go_topi (nI_add _ _) ?_
      refine go_iald (q := 21) (fa + j) dX10_copyState_20 rfl rfl (by decide) rfl (by omega) rfl ?_
      refine go_iast (q := 22) (tb + j) dX10_copyState_21 rfl rfl (by decide) rfl (by omega) rfl ?_
      refine go_iinc (q := 25) (v := 1) dX10_copyState_22 (by decide) rfl (by decide) rfl rfl ?_
      refine go_goto (q := 3) dX10_copyState_25 (by decide) ?_
      rw [kcs_s (by decide)]
      exact ih (j + 1) _ (by omega) (nI_1 j) (by omega)
theorem ok_mcp1715 {M : KM} {fa tb : Nat} (hfa : fa + 103 ≤ 103) (htb : tb + 103 ≤ 103) : OkF mX10_copyState [vR 17 0, vI (nI fa), vR 15 0, vI (nI tb)] M none (kcs M 17 fa 15 tb 103) := by
  refine ok_of (by decide) rfl (Nat.le_of_ble_eq_true rfl) ⟨rfl, rfl⟩ ?_
  show Go mX10_copyState (Zm (QF none (kcs M 17 fa 15 tb 103))) M [some (vR 17 0), some (vI (nI fa)), some (vR 15 0), some (vI (nI tb)), none] [] 0
  refine go_iconst (q := 1) (v := 0) dX10_copyState_0 (by decide) rfl ?_
  refine go_istore (q := 3) dX10_copyState_1 (by decide) rfl rfl ?_
  have h := lp_mcp1715 (M := M) hfa htb 104 0 0 (by omega) rfl (by omega)
  rw [kcs_0] at h
  exact h
def ksh (M : KM) (j : Nat) : KM := (fun k i c => if k = 16 ∧ i = 0 ∧ c < j then M.1 16 0 (c + 103) else M.1 k i c, M.2)
theorem ksh_0 {M : KM} : ksh M 0 = M := by
  refine Prod.ext ?_ rfl
  funext k i c
  exact if_neg (fun z => by omega)
theorem ksh_ne {M : KM} {j k i : Nat} (h : k ≠ 16) : (ksh M j).1 k i = M.1 k i := by
  funext c
  exact if_neg (fun z => h z.1)
theorem ksh_s {M : KM} {j : Nat} : k_si (ksh M j) 16 0 j ((ksh M j).1 16 0 (j + 103)) = ksh M (j + 1) := by
  refine Prod.ext ?_ rfl
  funext k i c
  show (if k = 16 ∧ c = j ∧ i = 0 then (if 16 = 16 ∧ 0 = 0 ∧ j + 103 < j then _ else M.1 16 0 (j + 103)) else if k = 16 ∧ i = 0 ∧ c < j then M.1 16 0 (c + 103) else M.1 k i c) = if k = 16 ∧ i = 0 ∧ c < j + 1 then M.1 16 0 (c + 103) else M.1 k i c
  rw [if_neg (c := 16 = 16 ∧ 0 = 0 ∧ j + 103 < j) (fun z => by omega)]
  by_cases h1 : k = 16 ∧ i = 0
  · by_cases h2 : c = j
    · rw [if_pos ⟨h1.1, h2, h1.2⟩, if_pos ⟨h1.1, h1.2, by omega⟩, h2]
    · rw [if_neg (fun z => h2 z.2.1)]
      by_cases h3 : c < j
      · rw [if_pos ⟨h1.1, h1.2, h3⟩, if_pos ⟨h1.1, h1.2, by omega⟩]
      · rw [if_neg (fun z => h3 z.2.2), if_neg (fun z => by omega)]
  · rw [if_neg (fun z => h1 ⟨z.1, z.2.2⟩), if_neg (fun z => h1 ⟨z.1, z.2.1⟩), if_neg (fun z => h1 ⟨z.1, z.2.1⟩)]
abbrev krc (M : KM) (h : Nat) : KM := k_si (kcs M 15 0 16 (103 * h) 103) 14 0 2 (nI (h + 1))
theorem HZ_app {M : KM} {h : Nat} {hs : Nat → RO} {R : RO} (hH : HZ M h hs) (h4 : h < 4) (hZ : ZA M R) : HZ (krc M h) (h + 1) (fun j => if j = h then R else hs j) := by
  refine ⟨sg .., h4, fun j hj => ?_⟩
  rw [k_si_ne _ _ (fun z => by omega)]
  by_cases e : j = h
  · subst e; simp only [if_true]; exact ZF_cp hZ
  · simp only [if_neg e]
    exact ZF_cg (hH.2.2 j (by omega)) (fun c hc => kcs_out (by omega))
theorem kN_rc {M : KM} {h : Nat} : kN M (krc M h) := ⟨rfl, fun k b h1 h2 => (k_si_ne _ _ (fun z => h2 z.1)).trans (kcs_ne h1), fun c hc => (sgn2 _ _ hc).trans (congrFun (kcs_ne (by decide)) c)⟩
abbrev ksf (M : KM) : KM := k_si (ksh M 309) 14 0 2 (nI 3)
theorem HZ_sh {M : KM} {hs : Nat → RO} (hH : HZ M 4 hs) : HZ (ksf M) 3 (fun j => hs (j + 1)) := by
  refine ⟨sg .., by decide, fun j hj => ?_⟩
  rw [k_si_ne _ _ (fun z => by omega)]
  refine ZF_cg (hH.2.2 (j + 1) (by omega)) (fun c hc => ?_)
  show (if 16 = 16 ∧ 0 = 0 ∧ 103 * j + c < 309 then M.1 16 0 (103 * j + c + 103) else _) = _
  rw [if_pos ⟨rfl, rfl, by omega⟩]
  exact congrArg (M.1 16 0) (by omega)
theorem kN_sf {M : KM} : kN M (ksf M) := ⟨rfl, fun k b h1 h2 => (k_si_ne _ _ (fun z => h2 z.1)).trans (ksh_ne h1), fun c hc => (sgn2 _ _ hc).trans (congrFun (ksh_ne (by decide)) c)⟩
theorem ZA_N {M M' : KM} {R : RO} (h : ZA M R) (hk : kN M M') : ZA M' R := by
  unfold ZA; rw [hk.2.1 15 0 (by decide) (by decide)]; exact h
theorem k_103 (h : Nat) : (103 : Int32) * nI h = nI (103 * h) := pk_mul 103 h
theorem lp_mrec48 {M : KM} {h : Nat} (hh : M.1 14 0 2 = nI h) (h4 : h < 4) {Q : Option KV → KM → Prop} (hq : Q none (krc M h)) {u : Option KV} : Go mX10_record (Zm Q) M [some (vR 14 0), u] [] 48 := by
  refine go_aload_n (q := 49) dX10_record_48 rfl rfl rfl ?_
  refine go_getf (q := 52) dX10_record_49 fRX10_7 rfl (by decide) rfl rfl ?_
  refine go_iconst (q := 53) (v := 0) dX10_record_52 (by decide) rfl ?_
  refine go_aload_n (q := 54) dX10_record_53 rfl rfl rfl ?_
  refine go_getf (q := 57) dX10_record_54 fRX10_13 rfl (by decide) rfl rfl ?_
  refine go_bipush (q := 59) (v := 103) dX10_record_57 (by decide) rfl ?_
  refine go_aload_n (q := 60) dX10_record_59 rfl rfl rfl ?_
  refine go_getf (q := 63) dX10_record_60 fRX10_60 rfl (by decide) rfl rfl ?_
  refine go_topi hh ?_
  refine go_imul (q := 64) dX10_record_63 rfl ?_
  refine go_topi (k_103 h) ?_
  refine go_uS4 (cal := mX10_copyState) (q := 67) dX10_record_64 lRX10_63 vX10_copyState ⟨by decide, by decide⟩ (Nat.le_of_ble_eq_true rfl) (ok_mcp1516 (fa := 0) (tb := 103 * h) (by omega) (by omega)) rfl ?_
  refine go_aload_n (q := 68) dX10_record_67 rfl rfl rfl ?_
  refine go_dup (q := 69) dX10_record_68 rfl rfl ?_
  refine go_getf (q := 72) dX10_record_69 fRX10_60 rfl (by decide) rfl rfl ?_
  refine go_topi ((congrFun (kcs_ne (by decide)) 2).trans hh) ?_
  refine go_iconst (q := 73) (v := 1) dX10_record_72 (by decide) rfl ?_
  refine go_iadd (q := 74) dX10_record_73 rfl ?_
  refine go_topi (nI_1 h) ?_
  refine go_puti (q := 77) dX10_record_74 pRX10_60 rfl (by decide) rfl rfl rfl (Nat.le_of_ble_eq_true rfl) rfl ?_
  exact go_vret dX10_record_77 rfl hq
theorem lp_mrec10 {M : KM} (hh : M.1 14 0 2 = nI 4) {Q : Option KV → KM → Prop} (hq : Q none (krc (ksf M) 3)) : ∀ (d : Nat) (j : Nat) (y : Int32), 309 - j < d → (y = nI j) → (j ≤ 309) → Go mX10_record (Zm (Q)) (ksh M j) [some (vR 14 0), some (vI y)] [] 10 := by
  intro d
  induction d with
  | zero => intro j y hd; exact absurd hd (Nat.not_lt_zero _)
  | succ d ih =>
    intro j y hd h0 h1
    refine go_iload_n (q := 11) dX10_record_10 rfl rfl rfl ?_
    refine go_sipush (q := 14) (v := 309) dX10_record_11 (by decide) rfl ?_
    refine go_icmp_geN j 309 (q := 17) (t := 38) dX10_record_14 (by decide) rfl h0 rfl (by omega) (by omega) (fun c_14 => ?_) (fun c_14 => ?_)
    · refine go_aload_n (q := 39) dX10_record_38 rfl rfl rfl ?_
      refine go_dup (q := 40) dX10_record_39 rfl rfl ?_
      refine go_getf (q := 43) dX10_record_40 fRX10_60 rfl (by decide) rfl rfl ?_
      refine go_topi ((congrFun (ksh_ne (by decide)) 2).trans hh) ?_
      refine go_iconst (q := 44) (v := 1) dX10_record_43 (by decide) rfl ?_
      refine go_isub (q := 45) dX10_record_44 rfl ?_
      refine go_topi (v := nI 3) (by decide) ?_
      refine go_puti (q := 48) dX10_record_45 pRX10_60 rfl (by decide) rfl rfl rfl (Nat.le_of_ble_eq_true rfl) rfl ?_
      rw [show j = 309 by omega]
      exact lp_mrec48 (M := ksf M) (sg ..) (by decide) hq
    · subst h0
      refine go_aload_n (q := 18) dX10_record_17 rfl rfl rfl ?_
      refine go_getf (q := 21) dX10_record_18 fRX10_13 rfl (by decide) rfl rfl ?_
      refine go_iload_n (q := 22) dX10_record_21 rfl rfl rfl ?_
      refine go_aload_n (q := 23) dX10_record_22 rfl rfl rfl ?_
      refine go_getf (q := 26) dX10_record_23 fRX10_13 rfl (by decide) rfl rfl ?_
      refine go_iload_n (q := 27) dX10_record_26 rfl rfl rfl ?_
      refine go_bipush (q := 29) (v := 103) dX10_record_27 (by decide) rfl ?_
      refine go_iadd (q := 30) dX10_record_29 rfl ?_
      refine go_topi (v := nI (j + 103)) (by rw [← nI_add]; rfl) ?_
      refine go_iald (q := 31) (j + 103) dX10_record_30 rfl rfl (by decide) rfl (by omega) rfl ?_
      refine go_iast (q := 32) j dX10_record_31 rfl rfl (by decide) rfl (by omega) rfl ?_
      refine go_iinc (q := 35) (v := 1) dX10_record_32 (by decide) rfl (by decide) rfl rfl ?_
      refine go_goto (q := 10) dX10_record_35 (by decide) ?_
      rw [ksh_s]
      exact ih (j + 1) _ (by omega) (nI_1 j) (by omega)
def KRC (M : KM) (h : Nat) (hs : Nat → RO) (R : RO) : Option KV → KM → Prop := fun r M' => r = none ∧ HZ M' (hKeep h hs R).1 (hKeep h hs R).2 ∧ kN M M'
theorem ok_mrecord {M : KM} {h : Nat} {hs : Nat → RO} {R : RO} (hH : HZ M h hs) (hZ : ZA M R) : Ok mX10_record [vR 14 0] M (KRC M h hs R) := by
  refine ok_of (by decide) rfl (Nat.le_of_ble_eq_true rfl) ⟨rfl, rfl⟩ ?_
  show Go mX10_record (Zm (KRC M h hs R)) M [some (vR 14 0), none] [] 0
  refine go_aload_n (q := 1) dX10_record_0 rfl rfl rfl ?_
  refine go_getf (q := 4) dX10_record_1 fRX10_60 rfl (by decide) rfl rfl ?_
  refine go_topi hH.1 ?_
  refine go_iconst (q := 5) (v := 4) dX10_record_4 (by decide) rfl ?_
  refine go_icmp_neN h 4 (q := 8) (t := 48) dX10_record_5 (by decide) rfl rfl rfl (by have := hH.2.1; omega) (by omega) (fun c_5 => ?_) (fun c_5 => ?_)
  · exact lp_mrec48 hH.1 (by have := hH.2.1; omega) ⟨rfl, by unfold hKeep; rw [if_pos (by have := hH.2.1; omega)]; exact HZ_app hH (by have := hH.2.1; omega) hZ, kN_rc⟩
  · refine go_iconst (q := 9) (v := 0) dX10_record_8 (by decide) rfl ?_
    refine go_istore_n (q := 10) dX10_record_9 rfl (by decide) rfl rfl ?_
    subst c_5
    have h := lp_mrec10 (M := M) hH.1 (Q := KRC M 4 hs R) ⟨rfl, by unfold hKeep; rw [if_neg (by decide)]; exact HZ_app (HZ_sh hH) (by decide) (ZA_N hZ kN_sf), kN_sf.tr kN_rc⟩ 310 0 0 (by omega) rfl (by omega)
    rw [ksh_0] at h
    exact h
theorem ZA_ref {M : KM} {R : RO} (hZ : ZA M R) : ZA (k_si M 15 0 1 (M.1 15 0 1 + 1)) (rRef R) := by
  refine ⟨(zs ..).trans ((if_neg (by decide)).trans hZ.1), ?_, (zs ..).trans ((if_neg (by decide)).trans hZ.2.2.1), hZ.le, fun q hq => ?_⟩
  · rw [zs, if_pos rfl, hZ.re]; exact nI_1 _
  · obtain ⟨a1, a2, a3, a4, a5⟩ := hZ.2.2.2.2 q hq
    exact ⟨(zs ..).trans ((if_neg (by omega)).trans a1), (zs ..).trans ((if_neg (by omega)).trans a2), (zs ..).trans ((if_neg (by omega)).trans a3), (zs ..).trans ((if_neg (by omega)).trans a4), (zs ..).trans ((if_neg (by omega)).trans a5)⟩
abbrev zch (M : KM) (n : Nat) (a b c d : Int32) : KM := k_si (k_si (k_si (k_si (k_si M 15 0 (3 + 5 * n + 0) a) 15 0 (3 + 5 * n + 1) 1) 15 0 (3 + 5 * n + 2) b) 15 0 (3 + 5 * n + 3) c) 15 0 (3 + 5 * n + 4) d
theorem zrd (M : KM) (n : Nat) (a b c d : Int32) (x : Nat) : (zch M n a b c d).1 15 0 x = if x = 3 + 5 * n + 4 then d else if x = 3 + 5 * n + 3 then c else if x = 3 + 5 * n + 2 then b else if x = 3 + 5 * n + 1 then 1 else if x = 3 + 5 * n + 0 then a else M.1 15 0 x := by
  simp only [zs]
theorem zrd_o (M : KM) (n : Nat) (a b c d : Int32) (x : Nat) (h : x < 3 + 5 * n) : (zch M n a b c d).1 15 0 x = M.1 15 0 x := by
  rw [zrd, if_neg (by omega), if_neg (by omega), if_neg (by omega), if_neg (by omega), if_neg (by omega)]
theorem ZA_add {M : KM} {R : RO} {s : Nat} {o : Option (Nat × Nat × Nat)} (hZ : ZA M R) (hn : rN R < 20) {a b c d : Int32} (ha : a = nI s) (hb : b = e4 (o.map (fun b => b.1))) (hc : c = e4 (o.map (fun b => b.2.1))) (hd : d = e4 (o.map (fun b => b.2.2))) : ZA (k_si (zch M (rN R) a b c d) 15 0 0 ((zch M (rN R) a b c d).1 15 0 0 + 1)) (rAdd R s o) := by
  have hz : ∀ x v, x ≠ 0 → (k_si (zch M (rN R) a b c d) 15 0 0 v).1 15 0 x = (zch M (rN R) a b c d).1 15 0 x := fun x v hx => (zs ..).trans (if_neg hx)
  refine ⟨?_, (hz _ _ (by decide)).trans ((zrd_o _ _ _ _ _ _ _ (by omega)).trans hZ.2.1), (hz _ _ (by decide)).trans ((zrd_o _ _ _ _ _ _ _ (by omega)).trans hZ.2.2.1), hn, fun q hq => ?_⟩
  · rw [zs, if_pos rfl, zrd_o _ _ _ _ _ _ _ (by omega), hZ.sz]; exact nI_1 _
  · rw [Nat.zero_add, Nat.zero_add, Nat.zero_add, Nat.zero_add, Nat.zero_add, hz _ _ (by omega), hz _ _ (by omega), hz _ _ (by omega), hz _ _ (by omega), hz _ _ (by omega)]
    by_cases e : q = rN R
    · subst e
      have hB : rB (rAdd R s o) (rN R) = o := if_pos rfl
      refine ⟨?_, ?_, ?_, ?_, ?_⟩
      · rw [zrd, if_neg (by omega), if_neg (by omega), if_neg (by omega), if_neg (by omega), if_pos rfl, ha]; exact congrArg nI (if_pos rfl).symm
      · rw [zrd, if_neg (by omega), if_neg (by omega), if_neg (by omega), if_pos rfl]; exact (show bI true = bI (if rN R = rN R then true else rL R (rN R)) from by rw [if_pos rfl])
      · rw [zrd, if_neg (by omega), if_neg (by omega), if_pos rfl, hb]; unfold rP; rw [hB]
      · rw [zrd, if_neg (by omega), if_pos rfl, hc]; unfold rK; rw [hB]
      · rw [zrd, if_pos rfl, hd]; unfold rM; rw [hB]
    · have hq2 : q < rN R := by have : q < rN R + 1 := hq; omega
      have hB : rB (rAdd R s o) q = rB R q := if_neg e
      have h1 : rS (rAdd R s o) q = rS R q := if_neg e
      have h2 : rL (rAdd R s o) q = rL R q := if_neg e
      unfold rP rK rM
      rw [hB, h1, h2]
      rw [zrd_o _ _ _ _ _ _ _ (by omega), zrd_o _ _ _ _ _ _ _ (by omega), zrd_o _ _ _ _ _ _ _ (by omega), zrd_o _ _ _ _ _ _ _ (by omega), zrd_o _ _ _ _ _ _ _ (by omega)]
      exact ⟨hZ.sh hq2, hZ.al hq2, hZ.fa hq2, hZ.pl hq2, hZ.mk hq2⟩
theorem ZA_heir {M : KM} {R : RO} {p s : Nat} (hZ : ZA M R) : ZA (k_si (k_si M 15 0 (3 + 5 * p + 0) (nI s)) 15 0 2 ((k_si M 15 0 (3 + 5 * p + 0) (nI s)).1 15 0 2 + 1)) (rHeir R p s) := by
  refine ⟨?_, ?_, ?_, hZ.le, fun q hq => ?_⟩
  · rw [zs, if_neg (by decide), zs, if_neg (by omega)]; exact hZ.1
  · rw [zs, if_neg (by decide), zs, if_neg (by omega)]; exact hZ.2.1
  · rw [zs, if_pos rfl, zs, if_neg (by omega), hZ.he]; exact nI_1 _
  · obtain ⟨a1, a2, a3, a4, a5⟩ := hZ.2.2.2.2 q hq
    refine ⟨?_, (zs ..).trans ((if_neg (by omega)).trans ((zs ..).trans ((if_neg (by omega)).trans a2))), (zs ..).trans ((if_neg (by omega)).trans ((zs ..).trans ((if_neg (by omega)).trans a3))), (zs ..).trans ((if_neg (by omega)).trans ((zs ..).trans ((if_neg (by omega)).trans a4))), (zs ..).trans ((if_neg (by omega)).trans ((zs ..).trans ((if_neg (by omega)).trans a5)))⟩
    rw [zs, if_neg (by omega), zs]
    show _ = nI (if q = p then s else rS R q)
    by_cases e : q = p
    · subst e; rw [if_pos (by omega), if_pos rfl]
    · rw [if_neg (by omega), if_neg e]; exact a1
theorem fst1_eld {R : RO} {p f : Nat} (hp : p < rN R) (hl : rL R p = true) (hf : rP R p = some f) : fst1 (fun i => rP R i == some f && rL R i) (rN R) = some p ↔ eldB R p = false := by
  rw [fst1_some]
  constructor
  · rintro ⟨-, -, h⟩
    refine ex_f (fun i hi => ?_)
    have h1 := h i hi
    rw [← Bool.not_eq_true]
    intro z
    simp only [br, Bool.and_eq_true, bne_iff_ne, beq_iff_eq] at z
    rw [hf] at z
    simp only [z.1, z.2.2.2, beq_self_eq_true, Bool.and_self] at h1
    cases h1
  · intro h
    refine ⟨hp, by rw [hf, hl]; simp, fun i hi => ?_⟩
    rw [← Bool.not_eq_true]
    intro z
    simp only [Bool.and_eq_true, beq_iff_eq] at z
    have : eldB R p = true := ex_t hi (by
      have e : ¬ i = p := by omega
      simp [br, z.1, z.2, hf, e])
    rw [h] at this; cases this
theorem ok_mrefuse {M : KM} (r : Int32) : OkF mX10_refuse [vR 14 0, vI r] M (some (vI r)) (k_si M 15 0 1 (M.1 15 0 1 + 1)) := by
  refine ok_of (by decide) rfl (Nat.le_of_ble_eq_true rfl) ⟨rfl, rfl⟩ ?_
  show Go mX10_refuse (Zm (QF (some (vI r)) (k_si M 15 0 1 (M.1 15 0 1 + 1)))) M [some (vR 14 0), some (vI r)] [] 0
  refine go_aload_n (q := 1) dX10_refuse_0 rfl rfl rfl ?_
  refine go_getf (q := 4) dX10_refuse_1 fRX10_7 rfl (by decide) rfl rfl ?_
  refine go_iconst (q := 5) (v := 1) dX10_refuse_4 (by decide) rfl ?_
  refine go_dup2 (q := 6) dX10_refuse_5 rfl rfl rfl ?_
  refine go_iald (q := 7) 1 dX10_refuse_6 rfl rfl (by decide) rfl (by decide) rfl ?_
  refine go_iconst (q := 8) (v := 1) dX10_refuse_7 (by decide) rfl ?_
  refine go_iadd (q := 9) dX10_refuse_8 rfl ?_
  refine go_iast (q := 10) 1 dX10_refuse_9 rfl rfl (by decide) rfl (by decide) rfl ?_
  refine go_iload_n (q := 11) dX10_refuse_10 rfl rfl rfl ?_
  exact go_ri dX10_refuse_11 rfl rfl rfl
theorem ok_mcome {M : KM} {R : RO} (hZ : ZA M R) (hn : rN R < 20) {s : Nat} {o : Option (Nat × Nat × Nat)} : Ok mX10_come [vR 14 0, vI (nI s), vI (e4 (o.map (fun b => b.1))), vI (e4 (o.map (fun b => b.2.1))), vI (e4 (o.map (fun b => b.2.2)))] M (KZQ M (nI (10 + rN R)) (rAdd R s o)) := by
  refine ok_of (by decide) rfl (Nat.le_of_ble_eq_true rfl) ⟨rfl, rfl⟩ ?_
  show Go mX10_come (Zm (KZQ M (nI (10 + rN R)) (rAdd R s o))) M [some (vR 14 0), some (vI (nI s)), some (vI (e4 (o.map (fun b => b.1)))), some (vI (e4 (o.map (fun b => b.2.1)))), some (vI (e4 (o.map (fun b => b.2.2)))), none] [] 0
  refine go_aload_n (q := 1) dX10_come_0 rfl rfl rfl ?_
  refine go_getf (q := 4) dX10_come_1 fRX10_7 rfl (by decide) rfl rfl ?_
  refine go_iconst (q := 5) (v := 0) dX10_come_4 (by decide) rfl ?_
  refine go_iald (q := 6) 0 dX10_come_5 rfl rfl (by decide) rfl (by decide) rfl ?_
  refine go_topi hZ.sz ?_
  refine go_istore (q := 8) dX10_come_6 (by decide) rfl rfl ?_
  refine go_aload_n (q := 9) dX10_come_8 rfl rfl rfl ?_
  refine go_iload (q := 11) dX10_come_9 rfl rfl ?_
  refine go_iconst (q := 12) (v := 0) dX10_come_11 (by decide) rfl ?_
  refine go_iload_n (q := 13) dX10_come_12 rfl rfl rfl ?_
  refine go_uV3 (cal := mX10_lay) (q := 16) dX10_come_13 lRX10_82 vX10_lay ⟨by decide, by decide⟩ rfl (by decide) (Nat.le_of_ble_eq_true rfl) (ok_mlay (w := 0) hn (by decide) _) rfl ?_
  refine go_aload_n (q := 17) dX10_come_16 rfl rfl rfl ?_
  refine go_iload (q := 19) dX10_come_17 rfl rfl ?_
  refine go_iconst (q := 20) (v := 1) dX10_come_19 (by decide) rfl ?_
  refine go_iconst (q := 21) (v := 1) dX10_come_20 (by decide) rfl ?_
  refine go_uV3 (cal := mX10_lay) (q := 24) dX10_come_21 lRX10_82 vX10_lay ⟨by decide, by decide⟩ rfl (by decide) (Nat.le_of_ble_eq_true rfl) (ok_mlay (w := 1) hn (by decide) _) rfl ?_
  refine go_aload_n (q := 25) dX10_come_24 rfl rfl rfl ?_
  refine go_iload (q := 27) dX10_come_25 rfl rfl ?_
  refine go_iconst (q := 28) (v := 2) dX10_come_27 (by decide) rfl ?_
  refine go_iload_n (q := 29) dX10_come_28 rfl rfl rfl ?_
  refine go_uV3 (cal := mX10_lay) (q := 32) dX10_come_29 lRX10_82 vX10_lay ⟨by decide, by decide⟩ rfl (by decide) (Nat.le_of_ble_eq_true rfl) (ok_mlay (w := 2) hn (by decide) _) rfl ?_
  refine go_aload_n (q := 33) dX10_come_32 rfl rfl rfl ?_
  refine go_iload (q := 35) dX10_come_33 rfl rfl ?_
  refine go_iconst (q := 36) (v := 3) dX10_come_35 (by decide) rfl ?_
  refine go_iload_n (q := 37) dX10_come_36 rfl rfl rfl ?_
  refine go_uV3 (cal := mX10_lay) (q := 40) dX10_come_37 lRX10_82 vX10_lay ⟨by decide, by decide⟩ rfl (by decide) (Nat.le_of_ble_eq_true rfl) (ok_mlay (w := 3) hn (by decide) _) rfl ?_
  refine go_aload_n (q := 41) dX10_come_40 rfl rfl rfl ?_
  refine go_iload (q := 43) dX10_come_41 rfl rfl ?_
  refine go_iconst (q := 44) (v := 4) dX10_come_43 (by decide) rfl ?_
  refine go_iload (q := 46) dX10_come_44 rfl rfl ?_
  refine go_uV3 (cal := mX10_lay) (q := 49) dX10_come_46 lRX10_82 vX10_lay ⟨by decide, by decide⟩ rfl (by decide) (Nat.le_of_ble_eq_true rfl) (ok_mlay (w := 4) hn (by decide) _) rfl ?_
  refine go_aload_n (q := 50) dX10_come_49 rfl rfl rfl ?_
  refine go_getf (q := 53) dX10_come_50 fRX10_7 rfl (by decide) rfl rfl ?_
  refine go_iconst (q := 54) (v := 0) dX10_come_53 (by decide) rfl ?_
  refine go_dup2 (q := 55) dX10_come_54 rfl rfl rfl ?_
  refine go_iald (q := 56) 0 dX10_come_55 rfl rfl (by decide) rfl (by decide) rfl ?_
  refine go_iconst (q := 57) (v := 1) dX10_come_56 (by decide) rfl ?_
  refine go_iadd (q := 58) dX10_come_57 rfl ?_
  refine go_iast (q := 59) 0 dX10_come_58 rfl rfl (by decide) rfl (by decide) rfl ?_
  refine go_bipush (q := 61) (v := 10) dX10_come_59 (by decide) rfl ?_
  refine go_iload (q := 63) dX10_come_61 rfl rfl ?_
  refine go_iadd (q := 64) dX10_come_63 rfl ?_
  refine go_topi (v := nI (10 + rN R)) (nI_add 10 _) ?_
  exact go_ireti dX10_come_64 rfl ⟨rfl, ZA_add hZ hn rfl rfl rfl rfl, kZ.rf.si.si.si.si.si.si⟩
def wF (R : RO) (x : Int32) : Int32 := match pOf 15625 x with
  | none => -1
  | some _ => if rN R = 20 then -3 else 0
def wB (R : RO) (x y z : Int32) : Int32 := match pOf (rN R) x, pOf 6 y, pOf 5 z with
  | some _, some _, some _ => if rN R = 20 then -3 else 0
  | _, _, _ => -1
def wH (R : RO) (x : Int32) : Int32 := match pOf (rN R) x with
  | none => -1
  | some p => if rL R p = true then 0 else -2
theorem wF_neg {R : RO} {x : Int32} (h20 : rN R ≤ 20) (h : ¬ 0 ≤ wF R x) : dFound R x = (wF R x, R) := by
  unfold wF at h ⊢; unfold dFound
  cases hs : pOf 15625 x with
  | none => rfl
  | some s =>
    rw [hs] at h
    simp only at h ⊢
    by_cases e : rN R = 20
    · rw [if_pos e, if_pos (by omega)]
    · rw [if_neg e] at h; exact absurd (by decide) h
theorem wF_pos {R : RO} {x : Int32} (h20 : rN R ≤ 20) (h : 0 ≤ wF R x) : ∃ s, pOf 15625 x = some s ∧ rN R < 20 := by
  unfold wF at h
  cases hs : pOf 15625 x with
  | none => rw [hs] at h; exact absurd (show (0 : Int32) ≤ -1 from h) (by decide)
  | some s =>
    rw [hs] at h
    simp only at h
    by_cases e : rN R = 20
    · rw [if_pos e] at h; exact absurd h (by decide)
    · exact ⟨s, rfl, by omega⟩
theorem wB_neg {R : RO} {x y z : Int32} (h20 : rN R ≤ 20) (h : ¬ 0 ≤ wB R x y z) : dBear R x y z = (wB R x y z, R) := by
  unfold wB at h ⊢; unfold dBear
  cases h1 : pOf (rN R) x with
  | none => rfl
  | some f => cases h2 : pOf 6 y with
    | none => rfl
    | some k => cases h3 : pOf 5 z with
      | none => rfl
      | some m =>
        rw [h1, h2, h3] at h
        simp only at h ⊢
        by_cases e : rN R = 20
        · rw [if_pos e, if_pos (by omega)]
        · rw [if_neg e] at h; exact absurd (by decide) h
theorem wB_pos {R : RO} {x y z : Int32} (h20 : rN R ≤ 20) (h : 0 ≤ wB R x y z) : ∃ f k m, pOf (rN R) x = some f ∧ pOf 6 y = some k ∧ pOf 5 z = some m ∧ rN R < 20 := by
  unfold wB at h
  cases h1 : pOf (rN R) x with
  | none => rw [h1] at h; exact absurd (show (0 : Int32) ≤ -1 from h) (by decide)
  | some f => cases h2 : pOf 6 y with
    | none => rw [h1, h2] at h; exact absurd (show (0 : Int32) ≤ -1 from h) (by decide)
    | some k => cases h3 : pOf 5 z with
      | none => rw [h1, h2, h3] at h; exact absurd (show (0 : Int32) ≤ -1 from h) (by decide)
      | some m =>
        rw [h1, h2, h3] at h
        simp only at h
        by_cases e : rN R = 20
        · rw [if_pos e] at h; exact absurd h (by decide)
        · exact ⟨f, k, m, rfl, rfl, rfl, by omega⟩
theorem wH_neg {R : RO} {x : Int32} (h : ¬ 0 ≤ wH R x) : dHeir R x = (wH R x, R) := by
  unfold wH at h ⊢; unfold dHeir
  cases hs : pOf (rN R) x with
  | none => rfl
  | some p =>
    rw [hs] at h
    simp only at h ⊢
    cases e : rL R p with
    | true => rw [if_pos e] at h; exact absurd (by decide) h
    | false => simp
theorem wH_pos {R : RO} {x : Int32} (h : 0 ≤ wH R x) : ∃ p, pOf (rN R) x = some p ∧ rL R p = true := by
  unfold wH at h
  cases hs : pOf (rN R) x with
  | none => rw [hs] at h; exact absurd (show (0 : Int32) ≤ -1 from h) (by decide)
  | some p =>
    rw [hs] at h
    simp only at h
    by_cases e : rL R p = true
    · exact ⟨p, rfl, e⟩
    · rw [if_neg e] at h; exact absurd h (by decide)
theorem ok_mwhyNotFound {M : KM} {R : RO} (hZ : ZA M R) (x : Int32) : OkF mX10_whyNotFound [vR 14 0, vI x] M (some (vI (wF R x))) M := by
  refine ok_of (by decide) rfl (Nat.le_of_ble_eq_true rfl) ⟨rfl, rfl⟩ ?_
  show Go mX10_whyNotFound (Zm (QF (some (vI (wF R x))) M)) M [some (vR 14 0), some (vI x)] [] 0
  refine go_iload_n (q := 1) dX10_whyNotFound_0 rfl rfl rfl ?_
  refine go_cS1 (cal := mX10_isShield) (q := 4) dX10_whyNotFound_1 lRX10_86 vX10_isShield ⟨by decide, by decide⟩ (Nat.le_of_ble_eq_true rfl) (ok_misShield M _) rfl ?_
  refine go_if_neB (q := 7) (t := 11) dX10_whyNotFound_4 (by decide) rfl (fun c_4 => ?_) (fun c_4 => ?_)
  · refine go_aload_n (q := 12) dX10_whyNotFound_11 rfl rfl rfl ?_
    refine go_getf (q := 15) dX10_whyNotFound_12 fRX10_7 rfl (by decide) rfl rfl ?_
    refine go_iconst (q := 16) (v := 0) dX10_whyNotFound_15 (by decide) rfl ?_
    refine go_iald (q := 17) 0 dX10_whyNotFound_16 rfl rfl (by decide) rfl (by decide) rfl ?_
    refine go_bipush (q := 19) (v := 20) dX10_whyNotFound_17 (by decide) rfl ?_
    refine go_icmp_neN (rN R) 20 (q := 22) (t := 27) dX10_whyNotFound_19 (by decide) rfl hZ.sz rfl (by have := hZ.le; omega) (by omega) (fun c_19 => ?_) (fun c_19 => ?_)
    · refine go_iconst (q := 28) (v := 0) dX10_whyNotFound_27 (by decide) rfl ?_
      exact go_ri dX10_whyNotFound_28 rfl (by obtain ⟨s, hs⟩ := isSome_t c_4; simp [wF, hs, c_19]) rfl
    · refine go_bipush (q := 24) (v := (-3)) dX10_whyNotFound_22 (by decide) rfl ?_
      refine go_goto (q := 28) dX10_whyNotFound_24 (by decide) ?_
      exact go_ri dX10_whyNotFound_28 rfl (by obtain ⟨s, hs⟩ := isSome_t c_4; simp [wF, hs, c_19]) rfl
  · refine go_iconst (q := 8) (v := (-1)) dX10_whyNotFound_7 (by decide) rfl ?_
    refine go_goto (q := 28) dX10_whyNotFound_8 (by decide) ?_
    exact go_ri dX10_whyNotFound_28 rfl (by simp [wF, isSome_f c_4]) rfl
theorem ok_mfoundNow {M : KM} {R : RO} (hZ : ZA M R) (hW : rW R) {s : Nat} (hs : s < 15625) (hn : rN R < 20) : Ok mX10_foundNow [vR 14 0, vI (nI s)] M (KZQ M (dFound R (nI s)).1 (dFound R (nI s)).2) := by
  refine ok_of (by decide) rfl (Nat.le_of_ble_eq_true rfl) ⟨rfl, rfl⟩ ?_
  show Go mX10_foundNow (Zm (KZQ M (dFound R (nI s)).1 (dFound R (nI s)).2)) M [some (vR 14 0), some (vI (nI s))] [] 0
  refine go_aload_n (q := 1) dX10_foundNow_0 rfl rfl rfl ?_
  refine go_iload_n (q := 2) dX10_foundNow_1 rfl rfl rfl ?_
  refine go_cV1 (cal := mX10_bears) (q := 5) dX10_foundNow_2 lRX10_89 vX10_bears ⟨by decide, by decide⟩ rfl (by decide) (Nat.le_of_ble_eq_true rfl) (ok_mbears hZ hW (by omega)) rfl ?_
  refine go_bipush (q := 7) (v := (-4)) dX10_foundNow_5 (by decide) rfl ?_
  refine go_icmp_eq (q := 10) (t := 18) dX10_foundNow_7 (by decide) rfl (fun c_7 => ?_) (fun c_7 => ?_)
  · have h7 : dFound R (nI s) = (nI (10 + rN R), rAdd R s none) := by
      unfold dFound
      rw [pOf_nI hs (by decide)]
      simp only
      rw [if_neg (by omega), if_neg (fun z => z ((e4_eq (bear_big hW)).mp c_7))]
    rw [h7]
    refine go_aload_n (q := 19) dX10_foundNow_18 rfl rfl rfl ?_
    refine go_iload_n (q := 20) dX10_foundNow_19 rfl rfl rfl ?_
    refine go_bipush (q := 22) (v := (-4)) dX10_foundNow_20 (by decide) rfl ?_
    refine go_bipush (q := 24) (v := (-4)) dX10_foundNow_22 (by decide) rfl ?_
    refine go_bipush (q := 26) (v := (-4)) dX10_foundNow_24 (by decide) rfl ?_
    refine go_callV [vI (nI s), vI (-4), vI (-4), vI (-4)] (cal := mX10_come) (q := 29) dX10_foundNow_26 lRX10_95 vX10_come ⟨by decide, by decide⟩ rfl rfl (by decide) (Nat.le_of_ble_eq_true rfl) (ok_mcome hZ hn (s := s) (o := none)) rfl (fun r26 M26 h26 => ?_)
    obtain ⟨rfl, hZ2, hk2⟩ := h26
    exact go_ireti dX10_foundNow_29 rfl ⟨rfl, hZ2, hk2⟩
  · have h7 : dFound R (nI s) = (3, rRef R) := by
      unfold dFound
      rw [pOf_nI hs (by decide)]
      simp only
      rw [if_neg (by omega), if_pos (fun z => c_7 (by rw [z]; rfl))]
    rw [h7]
    refine go_aload_n (q := 11) dX10_foundNow_10 rfl rfl rfl ?_
    refine go_iconst (q := 12) (v := 3) dX10_foundNow_11 (by decide) rfl ?_
    refine go_cV1 (cal := mX10_refuse) (q := 15) dX10_foundNow_12 lRX10_92 vX10_refuse ⟨by decide, by decide⟩ rfl (by decide) (Nat.le_of_ble_eq_true rfl) (ok_mrefuse 3) rfl ?_
    refine go_goto (q := 29) dX10_foundNow_15 (by decide) ?_
    exact go_ireti dX10_foundNow_29 rfl ⟨rfl, ZA_ref hZ, kZ.rf.si⟩
theorem ok_mwhyNotBear {M : KM} {R : RO} (hZ : ZA M R) (x y z : Int32) : OkF mX10_whyNotBear [vR 14 0, vI x, vI y, vI z] M (some (vI (wB R x y z))) M := by
  refine ok_of (by decide) rfl (Nat.le_of_ble_eq_true rfl) ⟨rfl, rfl⟩ ?_
  show Go mX10_whyNotBear (Zm (QF (some (vI (wB R x y z))) M)) M [some (vR 14 0), some (vI x), some (vI y), some (vI z)] [] 0
  refine go_aload_n (q := 1) dX10_whyNotBear_0 rfl rfl rfl ?_
  refine go_iload_n (q := 2) dX10_whyNotBear_1 rfl rfl rfl ?_
  refine go_cV1 (cal := mX10_isPerson) (q := 5) dX10_whyNotBear_2 lRX10_116 vX10_isPerson ⟨by decide, by decide⟩ rfl (by decide) (Nat.le_of_ble_eq_true rfl) (ok_misPerson hZ _) rfl ?_
  refine go_if_eqB (q := 8) (t := 16) dX10_whyNotBear_5 (by decide) rfl (fun c_5 => ?_) (fun c_5 => ?_)
  · refine go_iconst (q := 17) (v := (-1)) dX10_whyNotBear_16 (by decide) rfl ?_
    refine go_goto (q := 37) dX10_whyNotBear_17 (by decide) ?_
    exact go_ri dX10_whyNotBear_37 rfl (by simp [wB, isSome_f c_5]) rfl
  · refine go_iload_n (q := 9) dX10_whyNotBear_8 rfl rfl rfl ?_
    refine go_iload_n (q := 10) dX10_whyNotBear_9 rfl rfl rfl ?_
    refine go_cS2 (cal := mX10_isChange) (q := 13) dX10_whyNotBear_10 lRX10_119 vX10_isChange ⟨by decide, by decide⟩ (Nat.le_of_ble_eq_true rfl) (ok_misChange M _ _) rfl ?_
    refine go_if_neB (q := 16) (t := 20) dX10_whyNotBear_13 (by decide) rfl (fun c_13 => ?_) (fun c_13 => ?_)
    · refine go_aload_n (q := 21) dX10_whyNotBear_20 rfl rfl rfl ?_
      refine go_getf (q := 24) dX10_whyNotBear_21 fRX10_7 rfl (by decide) rfl rfl ?_
      refine go_iconst (q := 25) (v := 0) dX10_whyNotBear_24 (by decide) rfl ?_
      refine go_iald (q := 26) 0 dX10_whyNotBear_25 rfl rfl (by decide) rfl (by decide) rfl ?_
      refine go_bipush (q := 28) (v := 20) dX10_whyNotBear_26 (by decide) rfl ?_
      refine go_icmp_neN (rN R) 20 (q := 31) (t := 36) dX10_whyNotBear_28 (by decide) rfl hZ.sz rfl (by have := hZ.le; omega) (by omega) (fun c_28 => ?_) (fun c_28 => ?_)
      · refine go_iconst (q := 37) (v := 0) dX10_whyNotBear_36 (by decide) rfl ?_
        exact go_ri dX10_whyNotBear_37 rfl (by obtain ⟨f, hf⟩ := isSome_t c_5; unfold wB; revert c_13; rw [hf]; cases pOf 6 y <;> cases pOf 5 z <;> simp [c_28]) rfl
      · refine go_bipush (q := 33) (v := (-3)) dX10_whyNotBear_31 (by decide) rfl ?_
        refine go_goto (q := 37) dX10_whyNotBear_33 (by decide) ?_
        exact go_ri dX10_whyNotBear_37 rfl (by obtain ⟨f, hf⟩ := isSome_t c_5; unfold wB; revert c_13; rw [hf]; cases pOf 6 y <;> cases pOf 5 z <;> simp [c_28]) rfl
    · refine go_iconst (q := 17) (v := (-1)) dX10_whyNotBear_16 (by decide) rfl ?_
      refine go_goto (q := 37) dX10_whyNotBear_17 (by decide) ?_
      exact go_ri dX10_whyNotBear_37 rfl (by unfold wB; revert c_13; cases pOf (rN R) x <;> cases pOf 6 y <;> cases pOf 5 z <;> simp) rfl
theorem nI_le0 {a : Nat} (h : a < 2 ^ 31) : nI a ≤ 0 ↔ a = 0 := by
  rw [i32_le, nI_toInt h, show (0 : Int32).toInt = 0 from by decide]; omega
theorem ok_mbearNow {M : KM} {R : RO} (hZ : ZA M R) (hW : rW R) {f k m : Nat} (hf : f < rN R) (hk : k < 6) (hm : m < 5) (hn : rN R < 20) : Ok mX10_bearNow [vR 14 0, vI (nI f), vI (nI k), vI (nI m)] M (KZQ M (dBear R (nI f) (nI k) (nI m)).1 (dBear R (nI f) (nI k) (nI m)).2) := by
  refine ok_of (by decide) rfl (Nat.le_of_ble_eq_true rfl) ⟨rfl, rfl⟩ ?_
  show Go mX10_bearNow (Zm (KZQ M (dBear R (nI f) (nI k) (nI m)).1 (dBear R (nI f) (nI k) (nI m)).2)) M [some (vR 14 0), some (vI (nI f)), some (vI (nI k)), some (vI (nI m)), none] [] 0
  refine go_aload_n (q := 1) dX10_bearNow_0 rfl rfl rfl ?_
  refine go_iload_n (q := 2) dX10_bearNow_1 rfl rfl rfl ?_
  refine go_iload_n (q := 3) dX10_bearNow_2 rfl rfl rfl ?_
  refine go_iload_n (q := 4) dX10_bearNow_3 rfl rfl rfl ?_
  refine go_cV3 (cal := mX10_reason) (q := 7) dX10_bearNow_4 lRX10_122 vX10_reason ⟨by decide, by decide⟩ rfl (by decide) (Nat.le_of_ble_eq_true rfl) (ok_mreason hZ hW hf hk hm) rfl ?_
  refine go_istore (q := 9) dX10_bearNow_7 (by decide) rfl rfl ?_
  refine go_iload (q := 11) dX10_bearNow_9 rfl rfl ?_
  refine go_if_le (q := 14) (t := 23) dX10_bearNow_11 (by decide) rfl (fun c_11 => ?_) (fun c_11 => ?_)
  · have h7 : (dBear R (nI f) (nI k) (nI m)) = (nI (10 + rN R), rAdd R (wm (rS R f) k m) (some (f, k, m))) := by
      unfold dBear
      rw [pOf_nI hf (by omega), pOf_nI hk (by decide), pOf_nI hm (by decide)]
      simp only
      rw [if_neg (by omega), if_neg (fun z => z ((nI_le0 (whyS_big R f k m)).mp c_11))]
    rw [h7]
    refine go_aload_n (q := 24) dX10_bearNow_23 rfl rfl rfl ?_
    refine go_aload_n (q := 25) dX10_bearNow_24 rfl rfl rfl ?_
    refine go_iload_n (q := 26) dX10_bearNow_25 rfl rfl rfl ?_
    refine go_iconst (q := 27) (v := 0) dX10_bearNow_26 (by decide) rfl ?_
    refine go_cV2 (cal := mX10_of) (q := 30) dX10_bearNow_27 lRX10_45 vX10_of ⟨by decide, by decide⟩ rfl (by decide) (Nat.le_of_ble_eq_true rfl) (ok_mof (w := 0) (hZ.lt hf) (by decide)) rfl ?_
    refine go_topi (hZ.sh hf) ?_
    refine go_iload_n (q := 31) dX10_bearNow_30 rfl rfl rfl ?_
    refine go_iload_n (q := 32) dX10_bearNow_31 rfl rfl rfl ?_
    refine go_cS3 (cal := mX10_with) (q := 35) dX10_bearNow_32 lRX10_105 vX10_with ⟨by decide, by decide⟩ (Nat.le_of_ble_eq_true rfl) (ok_mwith (by have := hW.2.1 f hf; omega) hk) rfl ?_
    refine go_iload_n (q := 36) dX10_bearNow_35 rfl rfl rfl ?_
    refine go_iload_n (q := 37) dX10_bearNow_36 rfl rfl rfl ?_
    refine go_iload_n (q := 38) dX10_bearNow_37 rfl rfl rfl ?_
    refine go_callV [vI (nI (wm (rS R f) k m)), vI (nI f), vI (nI k), vI (nI m)] (cal := mX10_come) (q := 41) dX10_bearNow_38 lRX10_95 vX10_come ⟨by decide, by decide⟩ rfl rfl (by decide) (Nat.le_of_ble_eq_true rfl) (ok_mcome hZ hn (s := wm (rS R f) k m) (o := some (f, k, m))) rfl (fun r38 M38 h38 => ?_)
    obtain ⟨rfl, hZ2, hk2⟩ := h38
    exact go_ireti dX10_bearNow_41 rfl ⟨rfl, hZ2, hk2⟩
  · have h7 : (dBear R (nI f) (nI k) (nI m)) = (nI (whyS R f k m), rRef R) := by
      unfold dBear
      rw [pOf_nI hf (by omega), pOf_nI hk (by decide), pOf_nI hm (by decide)]
      simp only
      rw [if_neg (by omega), if_pos (fun z => c_11 ((nI_le0 (whyS_big R f k m)).mpr z))]
    rw [h7]
    refine go_aload_n (q := 15) dX10_bearNow_14 rfl rfl rfl ?_
    refine go_iload (q := 17) dX10_bearNow_15 rfl rfl ?_
    refine go_cV1 (cal := mX10_refuse) (q := 20) dX10_bearNow_17 lRX10_92 vX10_refuse ⟨by decide, by decide⟩ rfl (by decide) (Nat.le_of_ble_eq_true rfl) (ok_mrefuse _) rfl ?_
    refine go_goto (q := 41) dX10_bearNow_20 (by decide) ?_
    exact go_ireti dX10_bearNow_41 rfl ⟨rfl, ZA_ref hZ, kZ.rf.si⟩
theorem ok_mdieNow {M : KM} {R : RO} (hZ : ZA M R) (hW : rW R) {p : Nat} (hp : p < rN R) : Ok mX10_dieNow [vR 14 0, vI (nI p)] M (KZQ M (dDie R (nI p)).1 (dDie R (nI p)).2) := by
  refine ok_of (by decide) rfl (Nat.le_of_ble_eq_true rfl) ⟨rfl, rfl⟩ ?_
  show Go mX10_dieNow (Zm (KZQ M (dDie R (nI p)).1 (dDie R (nI p)).2)) M [some (vR 14 0), some (vI (nI p))] [] 0
  refine go_aload_n (q := 1) dX10_dieNow_0 rfl rfl rfl ?_
  refine go_iload_n (q := 2) dX10_dieNow_1 rfl rfl rfl ?_
  refine go_cV1 (cal := mX10_lives) (q := 5) dX10_dieNow_2 lRX10_56 vX10_lives ⟨by decide, by decide⟩ rfl (by decide) (Nat.le_of_ble_eq_true rfl) (ok_mlives hZ hp) rfl ?_
  refine go_if_neB (q := 8) (t := 15) dX10_dieNow_5 (by decide) rfl (fun c_5 => ?_) (fun c_5 => ?_)
  · have h7 : (dDie R (nI p)) = (nI (10 + cn (rL (rDie R p)) (rN R)), rDie R p) := by
      unfold dDie
      rw [hZ.pt hp]
      simp only
      rw [if_neg (by rw [c_5]; decide)]
    rw [h7]
    refine go_aload_n (q := 16) dX10_dieNow_15 rfl rfl rfl ?_
    refine go_iload_n (q := 17) dX10_dieNow_16 rfl rfl rfl ?_
    refine go_iconst (q := 18) (v := 1) dX10_dieNow_17 (by decide) rfl ?_
    refine go_iconst (q := 19) (v := 0) dX10_dieNow_18 (by decide) rfl ?_
    refine go_uV3 (cal := mX10_lay) (q := 22) dX10_dieNow_19 lRX10_82 vX10_lay ⟨by decide, by decide⟩ rfl (by decide) (Nat.le_of_ble_eq_true rfl) (ok_mlay (w := 1) (hZ.lt hp) (by decide) 0) rfl ?_
    refine go_bipush (q := 24) (v := 10) dX10_dieNow_22 (by decide) rfl ?_
    refine go_aload_n (q := 25) dX10_dieNow_24 rfl rfl rfl ?_
    refine go_cV0 (cal := mX10_living) (q := 28) dX10_dieNow_25 lRX10_71 vX10_living ⟨by decide, by decide⟩ rfl (by decide) (Nat.le_of_ble_eq_true rfl) (ok_mliving (ZA_die hZ)) rfl ?_
    refine go_iadd (q := 29) dX10_dieNow_28 rfl ?_
    refine go_topi (v := nI (10 + cn (rL (rDie R p)) (rN R))) (nI_add 10 _) ?_
    exact go_ireti dX10_dieNow_29 rfl ⟨rfl, ZA_die hZ, kZ.rf.si⟩
  · have h7 : (dDie R (nI p)) = (6, rRef R) := by
      unfold dDie
      rw [hZ.pt hp]
      simp only
      rw [if_pos c_5]
    rw [h7]
    refine go_aload_n (q := 9) dX10_dieNow_8 rfl rfl rfl ?_
    refine go_bipush (q := 11) (v := 6) dX10_dieNow_9 (by decide) rfl ?_
    refine go_cV1 (cal := mX10_refuse) (q := 14) dX10_dieNow_11 lRX10_92 vX10_refuse ⟨by decide, by decide⟩ rfl (by decide) (Nat.le_of_ble_eq_true rfl) (ok_mrefuse 6) rfl ?_
    exact go_ireti dX10_dieNow_14 rfl ⟨rfl, ZA_ref hZ, kZ.rf.si⟩
theorem ok_mwhyNotInherit {M : KM} {R : RO} (hZ : ZA M R) (x : Int32) : OkF mX10_whyNotInherit [vR 14 0, vI x] M (some (vI (wH R x))) M := by
  refine ok_of (by decide) rfl (Nat.le_of_ble_eq_true rfl) ⟨rfl, rfl⟩ ?_
  show Go mX10_whyNotInherit (Zm (QF (some (vI (wH R x))) M)) M [some (vR 14 0), some (vI x)] [] 0
  refine go_aload_n (q := 1) dX10_whyNotInherit_0 rfl rfl rfl ?_
  refine go_iload_n (q := 2) dX10_whyNotInherit_1 rfl rfl rfl ?_
  refine go_cV1 (cal := mX10_isPerson) (q := 5) dX10_whyNotInherit_2 lRX10_116 vX10_isPerson ⟨by decide, by decide⟩ rfl (by decide) (Nat.le_of_ble_eq_true rfl) (ok_misPerson hZ _) rfl ?_
  refine go_if_neB (q := 8) (t := 12) dX10_whyNotInherit_5 (by decide) rfl (fun c_5 => ?_) (fun c_5 => ?_)
  · obtain ⟨p, hp⟩ := isSome_t c_5
    obtain ⟨hlt, rfl⟩ := pOf_some hp
    refine go_aload_n (q := 13) dX10_whyNotInherit_12 rfl rfl rfl ?_
    refine go_iload_n (q := 14) dX10_whyNotInherit_13 rfl rfl rfl ?_
    refine go_cV1 (cal := mX10_lives) (q := 17) dX10_whyNotInherit_14 lRX10_56 vX10_lives ⟨by decide, by decide⟩ rfl (by decide) (Nat.le_of_ble_eq_true rfl) (ok_mlives hZ hlt) rfl ?_
    refine go_if_eqB (q := 20) (t := 24) dX10_whyNotInherit_17 (by decide) rfl (fun c_17 => ?_) (fun c_17 => ?_)
    · refine go_bipush (q := 26) (v := (-2)) dX10_whyNotInherit_24 (by decide) rfl ?_
      exact go_ri dX10_whyNotInherit_26 rfl (by simp [wH, hp, c_17]) rfl
    · refine go_iconst (q := 21) (v := 0) dX10_whyNotInherit_20 (by decide) rfl ?_
      refine go_goto (q := 26) dX10_whyNotInherit_21 (by decide) ?_
      exact go_ri dX10_whyNotInherit_26 rfl (by simp [wH, hp, c_17]) rfl
  · refine go_iconst (q := 9) (v := (-1)) dX10_whyNotInherit_8 (by decide) rfl ?_
    refine go_goto (q := 26) dX10_whyNotInherit_9 (by decide) ?_
    exact go_ri dX10_whyNotInherit_26 rfl (by simp [wH, isSome_f c_5]) rfl
theorem ok_minheritNow {M : KM} {R : RO} (hZ : ZA M R) (hW : rW R) {p : Nat} (hp : p < rN R) (hl : rL R p = true) : Ok mX10_inheritNow [vR 14 0, vI (nI p)] M (KZQ M (dHeir R (nI p)).1 (dHeir R (nI p)).2) := by
  refine ok_of (by decide) rfl (Nat.le_of_ble_eq_true rfl) ⟨rfl, rfl⟩ ?_
  show Go mX10_inheritNow (Zm (KZQ M (dHeir R (nI p)).1 (dHeir R (nI p)).2)) M [some (vR 14 0), some (vI (nI p)), none, none, none] [] 0
  refine go_aload_n (q := 1) dX10_inheritNow_0 rfl rfl rfl ?_
  refine go_iload_n (q := 2) dX10_inheritNow_1 rfl rfl rfl ?_
  refine go_iconst (q := 3) (v := 2) dX10_inheritNow_2 (by decide) rfl ?_
  refine go_cV2 (cal := mX10_of) (q := 6) dX10_inheritNow_3 lRX10_45 vX10_of ⟨by decide, by decide⟩ rfl (by decide) (Nat.le_of_ble_eq_true rfl) (ok_mof (w := 2) (hZ.lt hp) (by decide)) rfl ?_
  refine go_topi (hZ.fa hp) ?_
  refine go_istore_n (q := 7) dX10_inheritNow_6 rfl (by decide) rfl rfl ?_
  refine go_iload_n (q := 8) dX10_inheritNow_7 rfl rfl rfl ?_
  refine go_bipush (q := 10) (v := (-4)) dX10_inheritNow_8 (by decide) rfl ?_
  refine go_icmp_eq (q := 13) (t := 21) dX10_inheritNow_10 (by decide) rfl (fun c_10 => ?_) (fun c_10 => ?_)
  · have h7 : (dHeir R (nI p)) = (7, rRef R) := by
      unfold dHeir
      rw [hZ.pt hp]
      simp only
      rw [if_neg (by rw [hl]; decide)]
      have hw : whyH R p = 7 := by
        unfold whyH
        rw [(e4_eq (rP_big hW hp)).mp c_10]
      rw [if_pos (by rw [hw]; decide), hw]; rfl
    rw [h7]
    refine go_aload_n (q := 22) dX10_inheritNow_21 rfl rfl rfl ?_
    refine go_bipush (q := 24) (v := 7) dX10_inheritNow_22 (by decide) rfl ?_
    refine go_cV1 (cal := mX10_refuse) (q := 27) dX10_inheritNow_24 lRX10_92 vX10_refuse ⟨by decide, by decide⟩ rfl (by decide) (Nat.le_of_ble_eq_true rfl) (ok_mrefuse 7) rfl ?_
    exact go_ireti dX10_inheritNow_27 rfl ⟨rfl, ZA_ref hZ, kZ.rf.si⟩
  · obtain ⟨g, hg⟩ := rP_not4 c_10
    have hgl := rP_n hW hp g hg
    rw [show e4 (rP R p) = nI g from by rw [hg]; rfl]
    refine go_aload_n (q := 14) dX10_inheritNow_13 rfl rfl rfl ?_
    refine go_iload_n (q := 15) dX10_inheritNow_14 rfl rfl rfl ?_
    refine go_cV1 (cal := mX10_lives) (q := 18) dX10_inheritNow_15 lRX10_56 vX10_lives ⟨by decide, by decide⟩ rfl (by decide) (Nat.le_of_ble_eq_true rfl) (ok_mlives hZ hgl) rfl ?_
    refine go_if_eqB (q := 21) (t := 28) dX10_inheritNow_18 (by decide) rfl (fun c_18 => ?_) (fun c_18 => ?_)
    · refine go_aload_n (q := 29) dX10_inheritNow_28 rfl rfl rfl ?_
      refine go_iload_n (q := 30) dX10_inheritNow_29 rfl rfl rfl ?_
      refine go_cV1 (cal := mX10_eldest) (q := 33) dX10_inheritNow_30 lRX10_134 vX10_eldest ⟨by decide, by decide⟩ rfl (by decide) (Nat.le_of_ble_eq_true rfl) (ok_meldest hZ hW (hZ.b hgl)) rfl ?_
      refine go_iload_n (q := 34) dX10_inheritNow_33 rfl rfl rfl ?_
      refine go_icmp_eq (q := 37) (t := 44) dX10_inheritNow_34 (by decide) rfl (fun c_34 => ?_) (fun c_34 => ?_)
      · have hb9 : ∀ k, fst1 (fun i => rP R i == some g && rL R i) (rN R) = some k → k < 2 ^ 31 := fun k hk => hZ.b (fst1_some.mp hk).1
        have he : eldB R p = false := (fst1_eld hp hl hg).mp ((e4_nI hb9 (hZ.b hp)).mp c_34)
        refine go_aload_n (q := 45) dX10_inheritNow_44 rfl rfl rfl ?_
        refine go_iload_n (q := 46) dX10_inheritNow_45 rfl rfl rfl ?_
        refine go_iconst (q := 47) (v := 0) dX10_inheritNow_46 (by decide) rfl ?_
        refine go_cV2 (cal := mX10_of) (q := 50) dX10_inheritNow_47 lRX10_45 vX10_of ⟨by decide, by decide⟩ rfl (by decide) (Nat.le_of_ble_eq_true rfl) (ok_mof (w := 0) (hZ.lt hgl) (by decide)) rfl ?_
        refine go_topi (hZ.sh hgl) ?_
        refine go_istore_n (q := 51) dX10_inheritNow_50 rfl (by decide) rfl rfl ?_
        refine go_aload_n (q := 52) dX10_inheritNow_51 rfl rfl rfl ?_
        refine go_iload_n (q := 53) dX10_inheritNow_52 rfl rfl rfl ?_
        refine go_cV1 (cal := mX10_bears) (q := 56) dX10_inheritNow_53 lRX10_89 vX10_bears ⟨by decide, by decide⟩ rfl (by decide) (Nat.le_of_ble_eq_true rfl) (ok_mbears hZ hW (by have := hW.2.1 g hgl; omega)) rfl ?_
        refine go_bipush (q := 58) (v := (-4)) dX10_inheritNow_56 (by decide) rfl ?_
        refine go_icmp_eq (q := 61) (t := 67) dX10_inheritNow_58 (by decide) rfl (fun c_58 => ?_) (fun c_58 => ?_)
        · have h7 : (dHeir R (nI p)) = (nI (10 + ap (rS R p) (rS R g)), rHeir R p (rS R g)) := by
            unfold dHeir
            rw [hZ.pt hp]
            simp only
            rw [if_neg (by rw [hl]; decide)]
            have hw : whyH R p = 0 := by
              unfold whyH
              rw [hg]; simp only; rw [if_neg (by rw [c_18]; decide), if_neg (by rw [he]; decide), if_neg (fun z => z ((e4_eq (bear_big hW)).mp c_58))]
            rw [if_neg (fun z => z hw), hg]; rfl
          rw [h7]
          refine go_aload_n (q := 68) dX10_inheritNow_67 rfl rfl rfl ?_
          refine go_iload_n (q := 69) dX10_inheritNow_68 rfl rfl rfl ?_
          refine go_iconst (q := 70) (v := 0) dX10_inheritNow_69 (by decide) rfl ?_
          refine go_cV2 (cal := mX10_of) (q := 73) dX10_inheritNow_70 lRX10_45 vX10_of ⟨by decide, by decide⟩ rfl (by decide) (Nat.le_of_ble_eq_true rfl) (ok_mof (w := 0) (hZ.lt hp) (by decide)) rfl ?_
          refine go_topi (hZ.sh hp) ?_
          refine go_iload_n (q := 74) dX10_inheritNow_73 rfl rfl rfl ?_
          refine go_cS2 (cal := mX10_far) (q := 77) dX10_inheritNow_74 lRX10_137 vX10_far ⟨by decide, by decide⟩ (Nat.le_of_ble_eq_true rfl) (ok_mfar (by have := hW.2.1 p hp; omega) (by have := hW.2.1 g hgl; omega)) rfl ?_
          refine go_istore (q := 79) dX10_inheritNow_77 (by decide) rfl rfl ?_
          refine go_aload_n (q := 80) dX10_inheritNow_79 rfl rfl rfl ?_
          refine go_iload_n (q := 81) dX10_inheritNow_80 rfl rfl rfl ?_
          refine go_iconst (q := 82) (v := 0) dX10_inheritNow_81 (by decide) rfl ?_
          refine go_iload_n (q := 83) dX10_inheritNow_82 rfl rfl rfl ?_
          refine go_uV3 (cal := mX10_lay) (q := 86) dX10_inheritNow_83 lRX10_82 vX10_lay ⟨by decide, by decide⟩ rfl (by decide) (Nat.le_of_ble_eq_true rfl) (ok_mlay (w := 0) (hZ.lt hp) (by decide) _) rfl ?_
          refine go_aload_n (q := 87) dX10_inheritNow_86 rfl rfl rfl ?_
          refine go_getf (q := 90) dX10_inheritNow_87 fRX10_7 rfl (by decide) rfl rfl ?_
          refine go_iconst (q := 91) (v := 2) dX10_inheritNow_90 (by decide) rfl ?_
          refine go_dup2 (q := 92) dX10_inheritNow_91 rfl rfl rfl ?_
          refine go_iald (q := 93) 2 dX10_inheritNow_92 rfl rfl (by decide) rfl (by decide) rfl ?_
          refine go_iconst (q := 94) (v := 1) dX10_inheritNow_93 (by decide) rfl ?_
          refine go_iadd (q := 95) dX10_inheritNow_94 rfl ?_
          refine go_iast (q := 96) 2 dX10_inheritNow_95 rfl rfl (by decide) rfl (by decide) rfl ?_
          refine go_bipush (q := 98) (v := 10) dX10_inheritNow_96 (by decide) rfl ?_
          refine go_iload (q := 100) dX10_inheritNow_98 rfl rfl ?_
          refine go_iadd (q := 101) dX10_inheritNow_100 rfl ?_
          refine go_topi (v := nI (10 + ap (rS R p) (rS R g))) (nI_add 10 _) ?_
          exact go_ireti dX10_inheritNow_101 rfl ⟨rfl, ZA_heir hZ, kZ.rf.si.si⟩
        · have h7 : (dHeir R (nI p)) = (3, rRef R) := by
            unfold dHeir
            rw [hZ.pt hp]
            simp only
            rw [if_neg (by rw [hl]; decide)]
            have hw : whyH R p = 3 := by
              unfold whyH
              rw [hg]; simp only; rw [if_neg (by rw [c_18]; decide), if_neg (by rw [he]; decide), if_pos (fun z => c_58 (by rw [z]; rfl))]
            rw [if_pos (by rw [hw]; decide), hw]; rfl
          rw [h7]
          refine go_aload_n (q := 62) dX10_inheritNow_61 rfl rfl rfl ?_
          refine go_iconst (q := 63) (v := 3) dX10_inheritNow_62 (by decide) rfl ?_
          refine go_cV1 (cal := mX10_refuse) (q := 66) dX10_inheritNow_63 lRX10_92 vX10_refuse ⟨by decide, by decide⟩ rfl (by decide) (Nat.le_of_ble_eq_true rfl) (ok_mrefuse 3) rfl ?_
          exact go_ireti dX10_inheritNow_66 rfl ⟨rfl, ZA_ref hZ, kZ.rf.si⟩
      · have he : eldB R p = true := by
          rw [← Bool.not_eq_false]
          exact fun z => c_34 (by rw [(fst1_eld hp hl hg).mpr z]; rfl)
        have h7 : (dHeir R (nI p)) = (8, rRef R) := by
          unfold dHeir
          rw [hZ.pt hp]
          simp only
          rw [if_neg (by rw [hl]; decide)]
          have hw : whyH R p = 8 := by
            unfold whyH
            rw [hg]; simp only; rw [if_neg (by rw [c_18]; decide), if_pos he]
          rw [if_pos (by rw [hw]; decide), hw]; rfl
        rw [h7]
        refine go_aload_n (q := 38) dX10_inheritNow_37 rfl rfl rfl ?_
        refine go_bipush (q := 40) (v := 8) dX10_inheritNow_38 (by decide) rfl ?_
        refine go_cV1 (cal := mX10_refuse) (q := 43) dX10_inheritNow_40 lRX10_92 vX10_refuse ⟨by decide, by decide⟩ rfl (by decide) (Nat.le_of_ble_eq_true rfl) (ok_mrefuse 8) rfl ?_
        exact go_ireti dX10_inheritNow_43 rfl ⟨rfl, ZA_ref hZ, kZ.rf.si⟩
    · have h7 : (dHeir R (nI p)) = (7, rRef R) := by
        unfold dHeir
        rw [hZ.pt hp]
        simp only
        rw [if_neg (by rw [hl]; decide)]
        have hw : whyH R p = 7 := by
          unfold whyH
          rw [hg]; simp only; rw [if_pos c_18]
        rw [if_pos (by rw [hw]; decide), hw]; rfl
      rw [h7]
      refine go_aload_n (q := 22) dX10_inheritNow_21 rfl rfl rfl ?_
      refine go_bipush (q := 24) (v := 7) dX10_inheritNow_22 (by decide) rfl ?_
      refine go_cV1 (cal := mX10_refuse) (q := 27) dX10_inheritNow_24 lRX10_92 vX10_refuse ⟨by decide, by decide⟩ rfl (by decide) (Nat.le_of_ble_eq_true rfl) (ok_mrefuse 7) rfl ?_
      exact go_ireti dX10_inheritNow_27 rfl ⟨rfl, ZA_ref hZ, kZ.rf.si⟩
theorem dF_pos {R : RO} {x : Int32} {s : Nat} (hs : pOf 15625 x = some s) (hn : rN R < 20) : ¬ (dFound R x).1 < 0 := by
  unfold dFound; rw [hs]; simp only
  rw [if_neg (by omega)]
  split
  · exact (by decide : ¬ (3 : Int32) < 0)
  · exact Int32.not_lt.mpr (nI_pos' (by omega))
theorem dB_pos {R : RO} {x y z : Int32} {f k m : Nat} (hf : pOf (rN R) x = some f) (hk : pOf 6 y = some k) (hm : pOf 5 z = some m) (hn : rN R < 20) : ¬ (dBear R x y z).1 < 0 := by
  unfold dBear; rw [hf, hk, hm]; simp only
  rw [if_neg (by omega)]
  split
  · exact Int32.not_lt.mpr (nI_pos' (whyS_big R f k m))
  · exact Int32.not_lt.mpr (nI_pos' (by omega))
theorem dD_pos {R : RO} {x : Int32} {p : Nat} (h20 : rN R ≤ 20) (hp : pOf (rN R) x = some p) : ¬ (dDie R x).1 < 0 := by
  unfold dDie; rw [hp]; simp only
  split
  · exact (by decide : ¬ (6 : Int32) < 0)
  · exact Int32.not_lt.mpr (nI_pos' (by have := cn_le (rL (rDie R p)) (rN R); have := h20; omega))
theorem dH_pos {R : RO} {x : Int32} {p : Nat} (hp : pOf (rN R) x = some p) (hl : rL R p = true) : ¬ (dHeir R x).1 < 0 := by
  unfold dHeir; rw [hp]; simp only
  rw [if_neg (by rw [hl]; decide)]
  split
  · exact Int32.not_lt.mpr (nI_pos' (whyH_big R p))
  · exact Int32.not_lt.mpr (nI_pos' (by have := ap_le (rS R p) (oS R (rP R p)); omega))
theorem MI_deed {M M1 M2 : KM} {σ : ST} {d : Int32 × RO} (h : MI M σ) (hH : HZ M1 (hKeep σ.2.2.1.1 σ.2.2.1.2 σ.1).1 (hKeep σ.2.2.1.1 σ.2.2.1.2 σ.1).2) (hk : kN M M1) (hZ : ZA M2 d.2) (hk2 : kZ M1 M2) (hW : rW d.2) (hd : ¬ d.1 < 0) : QM M d.1 (sDeed2 σ d) (some (vI d.1)) M2 := by
  refine ⟨rfl, ?_, hk.fm.tr hk2.fm⟩
  unfold sDeed2
  rw [if_neg hd]
  exact MI_setZ (MI_rec h hk hH h.2.1) hk2 hZ hW
theorem MI_bad {M : KM} {σ : ST} {d : Int32 × RO} {v : Int32} (h : MI M σ) (hd : d = (v, σ.1)) (hv : ¬ 0 ≤ v) : QM M d.1 (sDeed2 σ d) (some (vI v)) M := by
  subst hd
  refine ⟨rfl, ?_, fm.rf⟩
  unfold sDeed2
  rw [if_pos (Int32.not_le.mp hv)]
  exact h
theorem ZA_rec {M M1 : KM} {R : RO} (h : ZA M R) (hk : kN M M1) : ZA M1 R := ZA_N h hk
theorem ok_mfound {M : KM} {σ : ST} (h : MI M σ) (x : Int32) : Ok mX10_found [vR 14 0, vI x] M (QM M (dFound σ.1 x).1 (sDeed2 σ (dFound σ.1 x))) := by
  refine ok_of (by decide) rfl (Nat.le_of_ble_eq_true rfl) ⟨rfl, rfl⟩ ?_
  show Go mX10_found (Zm (QM M (dFound σ.1 x).1 (sDeed2 σ (dFound σ.1 x)))) M [some (vR 14 0), some (vI x), none] [] 0
  refine go_aload_n (q := 1) dX10_found_0 rfl rfl rfl ?_
  refine go_iload_n (q := 2) dX10_found_1 rfl rfl rfl ?_
  refine go_cV1 (cal := mX10_whyNotFound) (q := 5) dX10_found_2 lRX10_99 vX10_whyNotFound ⟨by decide, by decide⟩ rfl (by decide) (Nat.le_of_ble_eq_true rfl) (ok_mwhyNotFound h.1 _) rfl ?_
  refine go_istore_n (q := 6) dX10_found_5 rfl (by decide) rfl rfl ?_
  refine go_iload_n (q := 7) dX10_found_6 rfl rfl rfl ?_
  refine go_if_ge (q := 10) (t := 12) dX10_found_7 (by decide) rfl (fun c_7 => ?_) (fun c_7 => ?_)
  · obtain ⟨s, hs, hn⟩ := wF_pos h.2.1.1 c_7
    have hpos := dF_pos hs hn
    obtain ⟨hsl, rfl⟩ := pOf_some hs
    refine go_aload_n (q := 13) dX10_found_12 rfl rfl rfl ?_
    refine go_callV [] (cal := mX10_record) (q := 16) dX10_found_13 lRX10_75 vX10_record ⟨by decide, by decide⟩ rfl rfl (by decide) (Nat.le_of_ble_eq_true rfl) (ok_mrecord h.2.2.2.2.1 h.1) rfl (fun r13 M13 h13 => ?_)
    obtain ⟨rfl, hH, hk⟩ := h13
    have hZ1 := ZA_N h.1 hk
    refine go_aload_n (q := 17) dX10_found_16 rfl rfl rfl ?_
    refine go_iload_n (q := 18) dX10_found_17 rfl rfl rfl ?_
    refine go_callV [vI (nI s)] (cal := mX10_foundNow) (q := 21) dX10_found_18 lRX10_102 vX10_foundNow ⟨by decide, by decide⟩ rfl rfl (by decide) (Nat.le_of_ble_eq_true rfl) (ok_mfoundNow hZ1 h.2.1 hsl hn) rfl (fun r18 M18 h18 => ?_)
    obtain ⟨rfl, hZ2, hk2⟩ := h18
    exact go_ireti dX10_found_21 rfl (MI_deed h hH hk hZ2 hk2 (rW_found h.2.1 _) hpos)
  · refine go_iload_n (q := 11) dX10_found_10 rfl rfl rfl ?_
    exact go_ireti dX10_found_11 rfl (MI_bad h (wF_neg h.2.1.1 c_7) c_7)
theorem ok_mbear {M : KM} {σ : ST} (h : MI M σ) (x y z : Int32) : Ok mX10_bear [vR 14 0, vI x, vI y, vI z] M (QM M (dBear σ.1 x y z).1 (sDeed2 σ (dBear σ.1 x y z))) := by
  refine ok_of (by decide) rfl (Nat.le_of_ble_eq_true rfl) ⟨rfl, rfl⟩ ?_
  show Go mX10_bear (Zm (QM M (dBear σ.1 x y z).1 (sDeed2 σ (dBear σ.1 x y z)))) M [some (vR 14 0), some (vI x), some (vI y), some (vI z), none] [] 0
  refine go_aload_n (q := 1) dX10_bear_0 rfl rfl rfl ?_
  refine go_iload_n (q := 2) dX10_bear_1 rfl rfl rfl ?_
  refine go_iload_n (q := 3) dX10_bear_2 rfl rfl rfl ?_
  refine go_iload_n (q := 4) dX10_bear_3 rfl rfl rfl ?_
  refine go_cV3 (cal := mX10_whyNotBear) (q := 7) dX10_bear_4 lRX10_125 vX10_whyNotBear ⟨by decide, by decide⟩ rfl (by decide) (Nat.le_of_ble_eq_true rfl) (ok_mwhyNotBear h.1 _ _ _) rfl ?_
  refine go_istore (q := 9) dX10_bear_7 (by decide) rfl rfl ?_
  refine go_iload (q := 11) dX10_bear_9 rfl rfl ?_
  refine go_if_ge (q := 14) (t := 17) dX10_bear_11 (by decide) rfl (fun c_11 => ?_) (fun c_11 => ?_)
  · obtain ⟨f, k, m, hf, hkk, hm, hn⟩ := wB_pos h.2.1.1 c_11
    have hpos := dB_pos hf hkk hm hn
    obtain ⟨hfl, rfl⟩ := pOf_some hf
    obtain ⟨hkl, rfl⟩ := pOf_some hkk
    obtain ⟨hml, rfl⟩ := pOf_some hm
    refine go_aload_n (q := 18) dX10_bear_17 rfl rfl rfl ?_
    refine go_callV [] (cal := mX10_record) (q := 21) dX10_bear_18 lRX10_75 vX10_record ⟨by decide, by decide⟩ rfl rfl (by decide) (Nat.le_of_ble_eq_true rfl) (ok_mrecord h.2.2.2.2.1 h.1) rfl (fun r18 M18 h18 => ?_)
    obtain ⟨rfl, hH, hk⟩ := h18
    have hZ1 := ZA_N h.1 hk
    refine go_aload_n (q := 22) dX10_bear_21 rfl rfl rfl ?_
    refine go_iload_n (q := 23) dX10_bear_22 rfl rfl rfl ?_
    refine go_iload_n (q := 24) dX10_bear_23 rfl rfl rfl ?_
    refine go_iload_n (q := 25) dX10_bear_24 rfl rfl rfl ?_
    refine go_callV [vI (nI f), vI (nI k), vI (nI m)] (cal := mX10_bearNow) (q := 28) dX10_bear_25 lRX10_128 vX10_bearNow ⟨by decide, by decide⟩ rfl rfl (by decide) (Nat.le_of_ble_eq_true rfl) (ok_mbearNow hZ1 h.2.1 hfl hkl hml hn) rfl (fun r25 M25 h25 => ?_)
    obtain ⟨rfl, hZ2, hk2⟩ := h25
    exact go_ireti dX10_bear_28 rfl (MI_deed h hH hk hZ2 hk2 (rW_bear h.2.1 _ _ _) hpos)
  · refine go_iload (q := 16) dX10_bear_14 rfl rfl ?_
    exact go_ireti dX10_bear_16 rfl (MI_bad h (wB_neg h.2.1.1 c_11) c_11)
theorem ok_mdie {M : KM} {σ : ST} (h : MI M σ) (x : Int32) : Ok mX10_die [vR 14 0, vI x] M (QM M (dDie σ.1 x).1 (sDeed2 σ (dDie σ.1 x))) := by
  refine ok_of (by decide) rfl (Nat.le_of_ble_eq_true rfl) ⟨rfl, rfl⟩ ?_
  show Go mX10_die (Zm (QM M (dDie σ.1 x).1 (sDeed2 σ (dDie σ.1 x)))) M [some (vR 14 0), some (vI x)] [] 0
  refine go_aload_n (q := 1) dX10_die_0 rfl rfl rfl ?_
  refine go_iload_n (q := 2) dX10_die_1 rfl rfl rfl ?_
  refine go_cV1 (cal := mX10_isPerson) (q := 5) dX10_die_2 lRX10_116 vX10_isPerson ⟨by decide, by decide⟩ rfl (by decide) (Nat.le_of_ble_eq_true rfl) (ok_misPerson h.1 _) rfl ?_
  refine go_if_neB (q := 8) (t := 10) dX10_die_5 (by decide) rfl (fun c_5 => ?_) (fun c_5 => ?_)
  · obtain ⟨p, hp⟩ := isSome_t c_5
    have hpos := dD_pos h.2.1.1 hp
    obtain ⟨hlt, rfl⟩ := pOf_some hp
    refine go_aload_n (q := 11) dX10_die_10 rfl rfl rfl ?_
    refine go_callV [] (cal := mX10_record) (q := 14) dX10_die_11 lRX10_75 vX10_record ⟨by decide, by decide⟩ rfl rfl (by decide) (Nat.le_of_ble_eq_true rfl) (ok_mrecord h.2.2.2.2.1 h.1) rfl (fun r11 M11 h11 => ?_)
    obtain ⟨rfl, hH, hk⟩ := h11
    have hZ1 := ZA_N h.1 hk
    refine go_aload_n (q := 15) dX10_die_14 rfl rfl rfl ?_
    refine go_iload_n (q := 16) dX10_die_15 rfl rfl rfl ?_
    refine go_callV [vI (nI p)] (cal := mX10_dieNow) (q := 19) dX10_die_16 lRX10_131 vX10_dieNow ⟨by decide, by decide⟩ rfl rfl (by decide) (Nat.le_of_ble_eq_true rfl) (ok_mdieNow hZ1 h.2.1 hlt) rfl (fun r16 M16 h16 => ?_)
    obtain ⟨rfl, hZ2, hk2⟩ := h16
    exact go_ireti dX10_die_19 rfl (MI_deed h hH hk hZ2 hk2 (rW_dDie h.2.1 _) hpos)
  · refine go_iconst (q := 9) (v := (-1)) dX10_die_8 (by decide) rfl ?_
    exact go_ireti dX10_die_9 rfl (MI_bad h (v := -1) (by unfold dDie; rw [isSome_f c_5]) (by decide))
theorem ok_minherit {M : KM} {σ : ST} (h : MI M σ) (x : Int32) : Ok mX10_inherit [vR 14 0, vI x] M (QM M (dHeir σ.1 x).1 (sDeed2 σ (dHeir σ.1 x))) := by
  refine ok_of (by decide) rfl (Nat.le_of_ble_eq_true rfl) ⟨rfl, rfl⟩ ?_
  show Go mX10_inherit (Zm (QM M (dHeir σ.1 x).1 (sDeed2 σ (dHeir σ.1 x)))) M [some (vR 14 0), some (vI x), none] [] 0
  refine go_aload_n (q := 1) dX10_inherit_0 rfl rfl rfl ?_
  refine go_iload_n (q := 2) dX10_inherit_1 rfl rfl rfl ?_
  refine go_cV1 (cal := mX10_whyNotInherit) (q := 5) dX10_inherit_2 lRX10_140 vX10_whyNotInherit ⟨by decide, by decide⟩ rfl (by decide) (Nat.le_of_ble_eq_true rfl) (ok_mwhyNotInherit h.1 _) rfl ?_
  refine go_istore_n (q := 6) dX10_inherit_5 rfl (by decide) rfl rfl ?_
  refine go_iload_n (q := 7) dX10_inherit_6 rfl rfl rfl ?_
  refine go_if_ge (q := 10) (t := 12) dX10_inherit_7 (by decide) rfl (fun c_7 => ?_) (fun c_7 => ?_)
  · obtain ⟨p, hp, hl⟩ := wH_pos c_7
    have hpos := dH_pos hp hl
    obtain ⟨hlt, rfl⟩ := pOf_some hp
    refine go_aload_n (q := 13) dX10_inherit_12 rfl rfl rfl ?_
    refine go_callV [] (cal := mX10_record) (q := 16) dX10_inherit_13 lRX10_75 vX10_record ⟨by decide, by decide⟩ rfl rfl (by decide) (Nat.le_of_ble_eq_true rfl) (ok_mrecord h.2.2.2.2.1 h.1) rfl (fun r13 M13 h13 => ?_)
    obtain ⟨rfl, hH, hk⟩ := h13
    have hZ1 := ZA_N h.1 hk
    refine go_aload_n (q := 17) dX10_inherit_16 rfl rfl rfl ?_
    refine go_iload_n (q := 18) dX10_inherit_17 rfl rfl rfl ?_
    refine go_callV [vI (nI p)] (cal := mX10_inheritNow) (q := 21) dX10_inherit_18 lRX10_143 vX10_inheritNow ⟨by decide, by decide⟩ rfl rfl (by decide) (Nat.le_of_ble_eq_true rfl) (ok_minheritNow hZ1 h.2.1 hlt hl) rfl (fun r18 M18 h18 => ?_)
    obtain ⟨rfl, hZ2, hk2⟩ := h18
    exact go_ireti dX10_inherit_21 rfl (MI_deed h hH hk hZ2 hk2 (rW_dHeir h.2.1 _) hpos)
  · refine go_iload_n (q := 11) dX10_inherit_10 rfl rfl rfl ?_
    exact go_ireti dX10_inherit_11 rfl (MI_bad h (wH_neg c_7) c_7)
