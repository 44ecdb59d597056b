/-! ===== the history kept, taken back ===== -/
def khs (M : KM) (j : Nat) : KM := (M.1, M.2.1, fun a c => if a = 8 ∧ c < j then M.2.2 8 (c + 1) else M.2.2 a c)
theorem khs_0 (M : KM) : khs M 0 = M := by
  refine Prod.ext rfl (Prod.ext rfl ?_)
  funext a c
  show (if a = 8 ∧ c < 0 then _ else M.2.2 a c) = _
  rw [if_neg (fun z => Nat.not_lt_zero _ z.2)]
theorem khs_rd (M : KM) (j : Nat) : (khs M j).2.2 8 (j + 1) = M.2.2 8 (j + 1) := by
  show (if 8 = 8 ∧ j + 1 < j then _ else M.2.2 8 (j + 1)) = _
  rw [if_neg (by omega)]
theorem khs_step (M : KM) (j : Nat) : k_sr (khs M j) 8 j ((khs M j).2.2 8 (j + 1)) = khs M (j + 1) := by
  rw [khs_rd]
  refine Prod.ext rfl (Prod.ext rfl ?_)
  funext a c
  show (if a = 8 ∧ c = j then M.2.2 8 (j + 1) else (if a = 8 ∧ c < j then M.2.2 8 (c + 1) else M.2.2 a c)) = (if a = 8 ∧ c < j + 1 then M.2.2 8 (c + 1) else M.2.2 a c)
  by_cases h : a = 8
  · by_cases hc : c = j
    · subst hc
      rw [if_pos ⟨h, rfl⟩, if_pos ⟨h, by omega⟩]
    · rw [if_neg (fun z => hc z.2)]
      by_cases h2 : c < j
      · rw [if_pos ⟨h, h2⟩, if_pos ⟨h, by omega⟩]
      · rw [if_neg (fun z => h2 z.2), if_neg (fun z => by omega)]
  · rw [if_neg (fun z => h z.1), if_neg (fun z => h z.1), if_neg (fun z => h z.1)]
def hKeep (h : Nat) (hs : Nat → RO) (R : RO) : Nat × (Nat → RO) := if h < 4 then (h + 1, fun j => if j = h then R else hs j) else (4, fun j => if j = 3 then R else hs (j + 1))
def kH (M M' : KM) : Prop := M'.2.1 = M.2.1 ∧ (∀ c, M'.2.2 11 c = M.2.2 11 c) ∧ ∀ k b, k ≠ 7 → M'.1 k b = M.1 k b
theorem RA.cg {M M' : KM} {b : Nat} {R : RO} (h : RA M b R) (e : ∀ k, 1 ≤ k → k ≤ 6 → M'.1 k b = M.1 k b) : RA M' b R := by
  unfold RA at h ⊢
  rw [e 1 (by decide) (by decide), e 2 (by decide) (by decide), e 3 (by decide) (by decide), e 4 (by decide) (by decide), e 5 (by decide) (by decide), e 6 (by decide) (by decide)]
  exact h
theorem HA_inc {M : KM} {h : Nat} {hs : Nat → RO} {R : RO} (hH : HA M h hs) (hR : RA M (M.2.2 8 h) R) (h4 : h < 4) : HA (k_si M 7 0 1 (nI h + 1)) (hKeep h hs R).1 (hKeep h hs R).2 := by
  have e : ∀ b R', RA M b R' → RA (k_si M 7 0 1 (nI h + 1)) b R' := fun b R' h => h.cg (fun k h1 h6 => k_si_ne M _ (fun z => by omega))
  rw [show hKeep h hs R = (h + 1, fun j => if j = h then R else hs j) from if_pos h4]
  refine ⟨?_, by show h + 1 ≤ 4; omega, hH.2.2.1, hH.2.2.2.1, fun j hj => ?_⟩
  · exact nI_1 h
  · show RA _ (M.2.2 8 j) (if j = h then R else hs j)
    have hj' : j < h + 1 := hj
    by_cases hjh : j = h
    · subst hjh
      rw [if_pos rfl]; exact e _ _ hR
    · rw [if_neg hjh]; exact e _ _ (hH.2.2.2.2 j (by omega))
theorem HA_rot {M : KM} {h : Nat} {hs : Nat → RO} {R : RO} (hH : HA M h hs) (hR : RA M (M.2.2 8 h) R) (h4 : 4 ≤ h) : HA (k_sr (khs M 4) 8 4 (M.2.2 8 0)) (hKeep h hs R).1 (hKeep h hs R).2 := by
  obtain rfl : h = 4 := by have := hH.2.1; omega
  rw [show hKeep 4 hs R = (4, fun j => if j = 3 then R else hs (j + 1)) from if_neg (by omega)]
  have ev : ∀ j, j < 5 → (k_sr (khs M 4) 8 4 (M.2.2 8 0)).2.2 8 j = if j = 4 then M.2.2 8 0 else M.2.2 8 (j + 1) := fun j hj => by
    show (if 8 = 8 ∧ j = 4 then M.2.2 8 0 else (if 8 = 8 ∧ j < 4 then M.2.2 8 (j + 1) else M.2.2 8 j)) = _
    by_cases h : j = 4
    · rw [if_pos ⟨rfl, h⟩, if_pos h]
    · rw [if_neg (fun z => h z.2), if_neg h, if_pos ⟨rfl, by omega⟩]
  refine ⟨hH.1, Nat.le_refl 4, fun j hj => ?_, fun a b ha hb hab => ?_, fun j hj => ?_⟩
  · rw [ev j hj]
    by_cases h : j = 4
    · rw [if_pos h]; exact hH.2.2.1 0 (by decide)
    · rw [if_neg h]; exact hH.2.2.1 (j + 1) (by omega)
  · rw [ev a ha, ev b hb] at hab
    by_cases h1 : a = 4 <;> by_cases h2 : b = 4
    · omega
    · rw [if_pos h1, if_neg h2] at hab
      have := hH.2.2.2.1 0 (b + 1) (by decide) (by omega) hab
      omega
    · rw [if_neg h1, if_pos h2] at hab
      have := hH.2.2.2.1 (a + 1) 0 (by omega) (by decide) hab
      omega
    · rw [if_neg h1, if_neg h2] at hab
      have := hH.2.2.2.1 (a + 1) (b + 1) (by omega) (by omega) hab
      omega
  · have hj4 : j < 4 := hj
    rw [ev j (by omega), if_neg (by omega)]
    show RA _ (M.2.2 8 (j + 1)) (if j = 3 then R else hs (j + 1))
    by_cases h : j = 3
    · subst h
      rw [if_pos rfl]; exact hR.cg (fun _ _ _ => rfl)
    · rw [if_neg h]; exact (hH.2.2.2.2 (j + 1) (by omega)).cg (fun _ _ _ => rfl)
def KK (M : KM) (h : Nat) (hs : Nat → RO) (R : RO) : Option KV → KM → Prop := fun r M' => r = none ∧ HA M' (hKeep h hs R).1 (hKeep h hs R).2 ∧ kH M M'
def kT (M M' : KM) : Prop := M'.2 = M.2 ∧ ∀ k b, k ≠ 7 → ¬ (b = 0 ∧ 1 ≤ k ∧ k ≤ 6) → M'.1 k b = M.1 k b
def KB (M : KM) (g : Nat) (hs : Nat → RO) : Option KV → KM → Prop := fun r M' => r = none ∧ RA M' 0 (hs g) ∧ HA M' g hs ∧ kT M M'
theorem lp_keepNoted {M : KM} {h : Nat} {hs : Nat → RO} {R : RO} (hH : HA M h hs) (hR : RA M (M.2.2 8 h) R) (h4 : 4 ≤ h) : ∀ (d : Nat) (j : Nat) (y : Int32), 4 - j < d → (y = nI j) → (j ≤ 4) → Go mX2_keepNoted (Zm (KK M h hs R)) (khs M j) [some (vR 7 0), some (vR 1 (M.2.2 8 0)), some (vI y)] [] 28 := by
  intro d
  induction d with
  | zero => intro j y hd; exact absurd hd (Nat.not_lt_zero _)
  | succ d ih =>
    intro j y hd h0 h1
    refine go_iload_n (q := 29) dX2_keepNoted_28 rfl rfl rfl ?_
    refine go_iconst (q := 30) (v := 4) dX2_keepNoted_29 (by decide) rfl ?_
    refine go_icmp_geN j 4 (q := 33) (t := 53) dX2_keepNoted_30 (by decide) rfl h0 rfl (by omega) (by omega) (fun c_30 => ?_) (fun c_30 => ?_)
    · obtain rfl : j = 4 := by omega
      refine go_aload_n (q := 54) dX2_keepNoted_53 rfl rfl rfl ?_
      refine go_getf (q := 57) dX2_keepNoted_54 fRX2_11 rfl (by decide) rfl rfl ?_
      refine go_iconst (q := 58) (v := 4) dX2_keepNoted_57 (by decide) rfl ?_
      refine go_aload_n (q := 59) dX2_keepNoted_58 rfl rfl rfl ?_
      refine go_aast (q := 60) 4 dX2_keepNoted_59 (hH.2.2.1 0 (by decide)).2 rfl (by decide) rfl ?_
      exact go_vret dX2_keepNoted_60 rfl ⟨rfl, HA_rot hH hR h4, rfl, fun c => rfl, fun k b _ => rfl⟩
    · subst h0
      refine go_aload_n (q := 34) dX2_keepNoted_33 rfl rfl rfl ?_
      refine go_getf (q := 37) dX2_keepNoted_34 fRX2_11 rfl (by decide) rfl rfl ?_
      refine go_iload_n (q := 38) dX2_keepNoted_37 rfl rfl rfl ?_
      refine go_aload_n (q := 39) dX2_keepNoted_38 rfl rfl rfl ?_
      refine go_getf (q := 42) dX2_keepNoted_39 fRX2_11 rfl (by decide) rfl rfl ?_
      refine go_iload_n (q := 43) dX2_keepNoted_42 rfl rfl rfl ?_
      refine go_iconst (q := 44) (v := 1) dX2_keepNoted_43 (by decide) rfl ?_
      refine go_iadd (q := 45) dX2_keepNoted_44 rfl ?_
      refine go_aald (q := 46) (j + 1) dX2_keepNoted_45 (nI_1 j) (by omega) rfl ?_
      refine go_aast (q := 47) j dX2_keepNoted_46 (by rw [khs_rd]; exact (hH.2.2.1 (j + 1) (by omega)).2) rfl (by omega) rfl ?_
      refine go_iinc (q := 50) (v := 1) dX2_keepNoted_47 (by decide) rfl (by decide) rfl rfl ?_
      refine go_goto (q := 28) dX2_keepNoted_50 (by decide) ?_
      exact go_mem (khs_step M j) (ih (j + 1) _ (by omega) (nI_1 j) (by omega))
theorem ok_keepNoted {M : KM} {h : Nat} {hs : Nat → RO} {R : RO} (hH : HA M h hs) (hR : RA M (M.2.2 8 h) R) : Ok mX2_keepNoted [vR 7 0] M (KK M h hs R) := by
  refine ok_of (by decide) rfl (Nat.le_of_ble_eq_true rfl) ⟨rfl, rfl⟩ ?_
  show Go mX2_keepNoted (Zm (KK M h hs R)) M [some (vR 7 0), none, none] [] 0
  refine go_aload_n (q := 1) dX2_keepNoted_0 rfl rfl rfl ?_
  refine go_getf (q := 4) dX2_keepNoted_1 fRX2_17 rfl (by decide) rfl rfl ?_
  refine go_topi hH.1 ?_
  refine go_iconst (q := 5) (v := 4) dX2_keepNoted_4 (by decide) rfl ?_
  refine go_icmp_geN h 4 (q := 8) (t := 19) dX2_keepNoted_5 (by decide) rfl rfl rfl (by have := hH.2.1; omega) (by omega) (fun c_5 => ?_) (fun c_5 => ?_)
  · refine go_aload_n (q := 20) dX2_keepNoted_19 rfl rfl rfl ?_
    refine go_getf (q := 23) dX2_keepNoted_20 fRX2_11 rfl (by decide) rfl rfl ?_
    refine go_iconst (q := 24) (v := 0) dX2_keepNoted_23 (by decide) rfl ?_
    refine go_aald (q := 25) 0 dX2_keepNoted_24 rfl (by decide) rfl ?_
    refine go_astore_n (q := 26) dX2_keepNoted_25 rfl (by decide) rfl rfl ?_
    refine go_iconst (q := 27) (v := 0) dX2_keepNoted_26 (by decide) rfl ?_
    refine go_istore_n (q := 28) dX2_keepNoted_27 rfl (by decide) rfl rfl ?_
    have := lp_keepNoted hH hR c_5 5 0 0 (by omega) rfl (by omega)
    rw [khs_0] at this
    exact this
  · refine go_aload_n (q := 9) dX2_keepNoted_8 rfl rfl rfl ?_
    refine go_dup (q := 10) dX2_keepNoted_9 rfl rfl ?_
    refine go_getf (q := 13) dX2_keepNoted_10 fRX2_17 rfl (by decide) rfl rfl ?_
    refine go_topi hH.1 ?_
    refine go_iconst (q := 14) (v := 1) dX2_keepNoted_13 (by decide) rfl ?_
    refine go_iadd (q := 15) dX2_keepNoted_14 rfl ?_
    refine go_puti (q := 18) dX2_keepNoted_15 pRX2_17 rfl (by decide) rfl rfl rfl (Nat.le_of_ble_eq_true rfl) rfl ?_
    exact go_vret dX2_keepNoted_18 rfl ⟨rfl, HA_inc hH hR c_5, rfl, fun c => rfl, fun k b hk => k_si_ne M _ (fun z => hk z.1)⟩
theorem HA_dec {M M1 : KM} {g : Nat} {hs : Nat → RO} {R : RO} (hH : HA M (g + 1) hs) (hk : kRoll 0 M M1) (v : Int32) (hv : v = nI g) : HA (k_si M1 7 0 1 v) g hs := by
  refine ⟨?_, by have := hH.2.1; omega, ?_, ?_, fun j hj => ?_⟩
  · exact hv
  · show ∀ j, j < 5 → 3 ≤ M1.2.2 8 j ∧ M1.2.2 8 j < 8
    rw [hk.1]; exact hH.2.2.1
  · show ∀ a b, a < 5 → b < 5 → M1.2.2 8 a = M1.2.2 8 b → a = b
    rw [hk.1]; exact hH.2.2.2.1
  · show RA _ (M1.2.2 8 j) _
    rw [hk.1]
    have h3 := (hH.2.2.1 j (by have := hH.2.1; omega)).1
    exact ((hH.2.2.2.2 j (by omega)).keep hk (by omega)).cg (fun k h1 h6 => k_si_ne M1 _ (fun z => by omega))
theorem ok_takeBack {M : KM} {g : Nat} {hs : Nat → RO} (hH : HA M (g + 1) hs) : Ok mX2_takeBack [vR 7 0, vR 1 0] M (KB M g hs) := by
  refine ok_of (by decide) rfl (Nat.le_of_ble_eq_true rfl) ⟨rfl, rfl⟩ ?_
  show Go mX2_takeBack (Zm (KB M g hs)) M [some (vR 7 0), some (vR 1 0), none] [] 0
  refine go_aload_n (q := 1) dX2_takeBack_0 rfl rfl rfl ?_
  refine go_aload_n (q := 2) dX2_takeBack_1 rfl rfl rfl ?_
  refine go_getf (q := 5) dX2_takeBack_2 fRX2_17 rfl (by decide) rfl rfl ?_
  refine go_topi hH.1 ?_
  refine go_iconst (q := 6) (v := 1) dX2_takeBack_5 (by decide) rfl ?_
  refine go_isub (q := 7) dX2_takeBack_6 rfl ?_
  refine go_topi (nI_pred g) ?_
  refine go_cV1 (cal := mX2_stateAt) (q := 10) dX2_takeBack_7 lRX2_22 vX2_stateAt ⟨by decide, by decide⟩ rfl (by decide) (Nat.le_of_ble_eq_true rfl) (ok_stateAt (by have := hH.2.1; omega)) rfl ?_
  refine go_astore_n (q := 11) dX2_takeBack_10 rfl (by decide) rfl rfl ?_
  refine go_aload_n (q := 12) dX2_takeBack_11 rfl rfl rfl ?_
  refine go_ifnull (q := 15) dX2_takeBack_12 rfl ?_
  refine go_aload_n (q := 16) dX2_takeBack_15 rfl rfl rfl ?_
  refine go_aload_n (q := 17) dX2_takeBack_16 rfl rfl rfl ?_
  refine go_kuV1 (cal := mX6_copyFrom) (q := 20) dX2_takeBack_17 lRX2_26 vX6_copyFrom ⟨by decide, by decide⟩ rfl (by decide) (Nat.le_of_ble_eq_true rfl) (ok_copyFrom (by decide) (hH.2.2.1 g (by have := hH.2.1; omega)).2 (hH.2.2.2.2 g (by omega)) (by have := (hH.2.2.1 g (by have := hH.2.1; omega)).1; omega)) rfl (fun M1 hR1 hk1 => ?_)
  refine go_aload_n (q := 21) dX2_takeBack_20 rfl rfl rfl ?_
  refine go_dup (q := 22) dX2_takeBack_21 rfl rfl ?_
  refine go_getf (q := 25) dX2_takeBack_22 fRX2_17 rfl (by decide) rfl rfl ?_
  refine go_topi (v := nI (g + 1)) (by rw [hk1.2 7 0 (by omega)]; exact hH.1) ?_
  refine go_iconst (q := 26) (v := 1) dX2_takeBack_25 (by decide) rfl ?_
  refine go_isub (q := 27) dX2_takeBack_26 rfl ?_
  refine go_topi (nI_pred g) ?_
  refine go_puti (q := 30) dX2_takeBack_27 pRX2_17 rfl (by decide) rfl rfl rfl (Nat.le_of_ble_eq_true rfl) rfl ?_
  exact go_vret dX2_takeBack_30 rfl ⟨rfl, hR1.cg (fun k h1 h6 => k_si_ne M1 _ (fun z => by omega)), HA_dec (R := hs g) hH hk1 _ rfl, hk1.1, fun k b h7 hb => (k_si_ne M1 _ (fun z => h7 z.1)).trans (hk1.2 k b hb)⟩
