/-! ===== a roll copied ===== -/
def kcp (M : KM) (i i2 j : Nat) : KM := (fun k b c => if b = i ∧ 2 ≤ k ∧ k ≤ 6 ∧ c < j then M.1 k i2 c else M.1 k b c, M.2)
theorem kcp_rd {M : KM} {i i2 j k : Nat} : (kcp M i i2 j).1 k i2 j = M.1 k i2 j := by
  show (if i2 = i ∧ 2 ≤ k ∧ k ≤ 6 ∧ j < j then M.1 k i2 j else M.1 k i2 j) = _
  split <;> rfl
theorem kcp_nar {M : KM} {i i2 j : Nat} {R : RO} (hR : RA M i2 R) (hj : j < 20) : narrow .boolean (.int ((kcp M i i2 j).1 3 i2 j)) = .int ((kcp M i i2 j).1 3 i2 j) := by
  rw [kcp_rd]
  obtain ⟨b, hb⟩ := hR.z hj
  rw [hb]
  exact bI_nar b
theorem kcp_step (M : KM) (i i2 j : Nat) : k_si (k_si (k_si (k_si (k_si (kcp M i i2 j) 2 i j ((kcp M i i2 j).1 2 i2 j)) 3 i j ((kcp M i i2 j).1 3 i2 j)) 4 i j ((kcp M i i2 j).1 4 i2 j)) 5 i j ((kcp M i i2 j).1 5 i2 j)) 6 i j ((kcp M i i2 j).1 6 i2 j) = kcp M i i2 (j + 1) := by
  simp only [kcp_rd]
  refine Prod.ext ?_ rfl
  funext k b c
  simp only [k_si, kcp]
  by_cases hb : b = i
  · by_cases hc : c = j
    · subst hc
      by_cases h2 : 2 ≤ k ∧ k ≤ 6
      · rcases (show k = 2 ∨ k = 3 ∨ k = 4 ∨ k = 5 ∨ k = 6 by omega) with rfl | rfl | rfl | rfl | rfl <;> simp [hb]
      · have e2 : ¬ k = 2 := by omega
        have e3 : ¬ k = 3 := by omega
        have e4 : ¬ k = 4 := by omega
        have e5 : ¬ k = 5 := by omega
        have e6 : ¬ k = 6 := by omega
        have e7 : ¬ (b = i ∧ 2 ≤ k ∧ k ≤ 6 ∧ c < c + 1) := fun z => h2 ⟨z.2.1, z.2.2.1⟩
        simp only [e2, e3, e4, e5, e6, false_and, if_false, if_neg e7, Nat.lt_irrefl, and_false]
    · have e : (b = i ∧ 2 ≤ k ∧ k ≤ 6 ∧ c < j) ↔ (b = i ∧ 2 ≤ k ∧ k ≤ 6 ∧ c < j + 1) := by
        constructor
        · rintro ⟨a1, a2, a3, a4⟩; exact ⟨a1, a2, a3, by omega⟩
        · rintro ⟨a1, a2, a3, a4⟩; exact ⟨a1, a2, a3, by omega⟩
      simp only [hc, false_and, and_false, if_false, e]
  · simp only [hb, false_and, and_false, if_false]
theorem kcp_0 (M : KM) (i i2 : Nat) : kcp M i i2 0 = M := by
  refine Prod.ext ?_ rfl
  funext k b c
  show (if b = i ∧ 2 ≤ k ∧ k ≤ 6 ∧ c < 0 then M.1 k i2 c else M.1 k b c) = _
  rw [if_neg (fun z => Nat.not_lt_zero _ z.2.2.2)]
theorem kRoll_cp {M : KM} {i i2 j : Nat} : kRoll i M (kcp M i i2 j) := by
  refine ⟨rfl, fun k b h => ?_⟩
  funext c
  show (if b = i ∧ 2 ≤ k ∧ k ≤ 6 ∧ c < j then M.1 k i2 c else M.1 k b c) = _
  rw [if_neg (fun z => h ⟨z.1, by omega, z.2.2.1⟩)]
theorem RA_cp {M : KM} {i i2 : Nat} {R : RO} (hR : RA M i2 R) : RA (k_si (k_si (k_si (kcp M i i2 20) 1 i 5 (M.1 1 i2 5)) 1 i 6 (M.1 1 i2 6)) 1 i 7 (M.1 1 i2 7)) i R := by
  have e : ∀ k p, 2 ≤ k → k ≤ 6 → p < 20 → (kcp M i i2 20).1 k i p = M.1 k i2 p := fun k p h2 h6 hp => by
    show (if i = i ∧ 2 ≤ k ∧ k ≤ 6 ∧ p < 20 then M.1 k i2 p else M.1 k i p) = _
    rw [if_pos ⟨rfl, h2, h6, hp⟩]
  refine ⟨?_, ?_, ?_, hR.le, fun p hp => ?_, fun p hp => ?_⟩
  · show (if 1 = 1 ∧ 5 = 5 ∧ i = i then _ else _) = _
    rw [if_pos ⟨rfl, rfl, rfl⟩]; exact hR.sz
  · show (if 1 = 1 ∧ 6 = 6 ∧ i = i then _ else _) = _
    rw [if_pos ⟨rfl, rfl, rfl⟩]; exact hR.he
  · show (if 1 = 1 ∧ 7 = 7 ∧ i = i then _ else _) = _
    rw [if_pos ⟨rfl, rfl, rfl⟩]; exact hR.re
  · show ∃ b, (kcp M i i2 20).1 3 i p = bI b
    rw [e 3 p (by decide) (by decide) hp]; exact hR.z hp
  · have h20 := hR.lt hp
    show (kcp M i i2 20).1 2 i p = _ ∧ (kcp M i i2 20).1 3 i p = _ ∧ (kcp M i i2 20).1 4 i p = _ ∧ (kcp M i i2 20).1 5 i p = _ ∧ (kcp M i i2 20).1 6 i p = _
    rw [e 2 p (by decide) (by decide) h20, e 3 p (by decide) (by decide) h20, e 4 p (by decide) (by decide) h20, e 5 p (by decide) (by decide) h20, e 6 p (by decide) (by decide) h20]
    exact ⟨hR.sh hp, hR.al hp, hR.fa hp, hR.pl hp, hR.mk hp⟩
theorem kcp_f {M : KM} {i i2 j c : Nat} : (kcp M i i2 j).1 1 i2 c = M.1 1 i2 c := by
  show (if i2 = i ∧ 2 ≤ 1 ∧ 1 ≤ 6 ∧ c < j then M.1 1 i2 c else M.1 1 i2 c) = _
  split <;> rfl
theorem lp_copyFrom {M : KM} {i i2 : Nat} {R : RO} (hi : i < 8) (hi2 : i2 < 8) (hR : RA M i2 R) (hne : i2 ≠ i) : ∀ (d : Nat) (j : Nat) (y : Int32), 20 - j < d → (y = nI j) → (j ≤ 20) → Go mX6_copyFrom (Zm (KU i M R)) (kcp M i i2 j) [some (vR 1 i), some (vR 1 i2), some (vI y)] [] 2 := by
  intro d
  induction d with
  | zero => intro j y hd; exact absurd hd (Nat.not_lt_zero _)
  | succ d ih =>
    intro j y hd h0 h1
    refine go_iload_n (q := 3) dX6_copyFrom_2 rfl rfl rfl ?_
    refine go_bipush (q := 5) (v := 20) dX6_copyFrom_3 (by decide) rfl ?_
    refine go_icmp_geN j 20 (q := 8) (t := 74) dX6_copyFrom_5 (by decide) rfl h0 rfl (by omega) (by omega) (fun c_5 => ?_) (fun c_5 => ?_)
    · obtain rfl : j = 20 := by omega
      refine go_aload_n (q := 75) dX6_copyFrom_74 rfl rfl rfl ?_
      refine go_aload_n (q := 76) dX6_copyFrom_75 rfl rfl rfl ?_
      refine go_getf (q := 79) dX6_copyFrom_76 fRX6_28 rfl hi2 rfl rfl ?_
      refine go_topi (v := M.1 1 i2 5) kcp_f ?_
      refine go_puti (q := 82) dX6_copyFrom_79 pRX6_28 rfl hi rfl rfl rfl (Nat.le_of_ble_eq_true rfl) rfl ?_
      refine go_aload_n (q := 83) dX6_copyFrom_82 rfl rfl rfl ?_
      refine go_aload_n (q := 84) dX6_copyFrom_83 rfl rfl rfl ?_
      refine go_getf (q := 87) dX6_copyFrom_84 fRX6_32 rfl hi2 rfl rfl ?_
      refine go_topi (v := M.1 1 i2 6) (show (kcp M i i2 20).1 1 i2 6 = _ from kcp_f) ?_
      refine go_puti (q := 90) dX6_copyFrom_87 pRX6_32 rfl hi rfl rfl rfl (Nat.le_of_ble_eq_true rfl) rfl ?_
      refine go_aload_n (q := 91) dX6_copyFrom_90 rfl rfl rfl ?_
      refine go_aload_n (q := 92) dX6_copyFrom_91 rfl rfl rfl ?_
      refine go_getf (q := 95) dX6_copyFrom_92 fRX6_35 rfl hi2 rfl rfl ?_
      refine go_topi (v := M.1 1 i2 7) (show (kcp M i i2 20).1 1 i2 7 = _ from kcp_f) ?_
      refine go_puti (q := 98) dX6_copyFrom_95 pRX6_35 rfl hi rfl rfl rfl (Nat.le_of_ble_eq_true rfl) rfl ?_
      exact go_vret dX6_copyFrom_98 rfl ⟨rfl, RA_cp hR, ((kRoll_cp.si (by decide) (by decide)).si (by decide) (by decide)).si (by decide) (by decide)⟩
    · subst h0
      refine go_aload_n (q := 9) dX6_copyFrom_8 rfl rfl rfl ?_
      refine go_getf (q := 12) dX6_copyFrom_9 fRX6_9 rfl hi rfl rfl ?_
      refine go_iload_n (q := 13) dX6_copyFrom_12 rfl rfl rfl ?_
      refine go_aload_n (q := 14) dX6_copyFrom_13 rfl rfl rfl ?_
      refine go_getf (q := 17) dX6_copyFrom_14 fRX6_9 rfl hi2 rfl rfl ?_
      refine go_iload_n (q := 18) dX6_copyFrom_17 rfl rfl rfl ?_
      refine go_iald (q := 19) j dX6_copyFrom_18 rfl rfl hi2 rfl (by omega) rfl ?_
      refine go_iast (q := 20) j dX6_copyFrom_19 rfl rfl hi rfl (by omega) rfl ?_
      refine go_aload_n (q := 21) dX6_copyFrom_20 rfl rfl rfl ?_
      refine go_getf (q := 24) dX6_copyFrom_21 fRX6_15 rfl hi rfl rfl ?_
      refine go_iload_n (q := 25) dX6_copyFrom_24 rfl rfl rfl ?_
      refine go_aload_n (q := 26) dX6_copyFrom_25 rfl rfl rfl ?_
      refine go_getf (q := 29) dX6_copyFrom_26 fRX6_15 rfl hi2 rfl rfl ?_
      refine go_iload_n (q := 30) dX6_copyFrom_29 rfl rfl rfl ?_
      refine go_zald (q := 31) j dX6_copyFrom_30 hi2 rfl (by omega) rfl ?_
      refine go_zast (q := 32) j dX6_copyFrom_31 hi rfl (by omega) (kcp_nar hR (by omega)) rfl ?_
      refine go_aload_n (q := 33) dX6_copyFrom_32 rfl rfl rfl ?_
      refine go_getf (q := 36) dX6_copyFrom_33 fRX6_19 rfl hi rfl rfl ?_
      refine go_iload_n (q := 37) dX6_copyFrom_36 rfl rfl rfl ?_
      refine go_aload_n (q := 38) dX6_copyFrom_37 rfl rfl rfl ?_
      refine go_getf (q := 41) dX6_copyFrom_38 fRX6_19 rfl hi2 rfl rfl ?_
      refine go_iload_n (q := 42) dX6_copyFrom_41 rfl rfl rfl ?_
      refine go_iald (q := 43) j dX6_copyFrom_42 rfl rfl hi2 rfl (by omega) rfl ?_
      refine go_iast (q := 44) j dX6_copyFrom_43 rfl rfl hi rfl (by omega) rfl ?_
      refine go_aload_n (q := 45) dX6_copyFrom_44 rfl rfl rfl ?_
      refine go_getf (q := 48) dX6_copyFrom_45 fRX6_22 rfl hi rfl rfl ?_
      refine go_iload_n (q := 49) dX6_copyFrom_48 rfl rfl rfl ?_
      refine go_aload_n (q := 50) dX6_copyFrom_49 rfl rfl rfl ?_
      refine go_getf (q := 53) dX6_copyFrom_50 fRX6_22 rfl hi2 rfl rfl ?_
      refine go_iload_n (q := 54) dX6_copyFrom_53 rfl rfl rfl ?_
      refine go_iald (q := 55) j dX6_copyFrom_54 rfl rfl hi2 rfl (by omega) rfl ?_
      refine go_iast (q := 56) j dX6_copyFrom_55 rfl rfl hi rfl (by omega) rfl ?_
      refine go_aload_n (q := 57) dX6_copyFrom_56 rfl rfl rfl ?_
      refine go_getf (q := 60) dX6_copyFrom_57 fRX6_25 rfl hi rfl rfl ?_
      refine go_iload_n (q := 61) dX6_copyFrom_60 rfl rfl rfl ?_
      refine go_aload_n (q := 62) dX6_copyFrom_61 rfl rfl rfl ?_
      refine go_getf (q := 65) dX6_copyFrom_62 fRX6_25 rfl hi2 rfl rfl ?_
      refine go_iload_n (q := 66) dX6_copyFrom_65 rfl rfl rfl ?_
      refine go_iald (q := 67) j dX6_copyFrom_66 rfl rfl hi2 rfl (by omega) rfl ?_
      refine go_iast (q := 68) j dX6_copyFrom_67 rfl rfl hi rfl (by omega) rfl ?_
      refine go_iinc (q := 71) (v := 1) dX6_copyFrom_68 (by decide) rfl (by decide) rfl rfl ?_
      refine go_goto (q := 2) dX6_copyFrom_71 (by decide) ?_
      exact go_mem (kcp_step M i i2 j) (ih (j + 1) _ (by omega) (nI_1 j) (by omega))
theorem ok_copyFrom {M : KM} {i i2 : Nat} {R : RO} (hi : i < 8) (hi2 : i2 < 8) (hR : RA M i2 R) (hne : i2 ≠ i) : Ok mX6_copyFrom [vR 1 i, vR 1 i2] M (KU i M R) := by
  refine ok_of (by decide) rfl (Nat.le_of_ble_eq_true rfl) ⟨rfl, rfl⟩ ?_
  show Go mX6_copyFrom (Zm (KU i M R)) M [some (vR 1 i), some (vR 1 i2), none] [] 0
  refine go_iconst (q := 1) (v := 0) dX6_copyFrom_0 (by decide) rfl ?_
  refine go_istore_n (q := 2) dX6_copyFrom_1 rfl (by decide) rfl rfl ?_
  rw [← kcp_0 M i i2]
  have := lp_copyFrom hi hi2 hR hne 21 0 0 (by omega) rfl (by omega)
  rw [kcp_0] at this ⊢
  exact this
/-! ===== the history ===== -/
theorem go_alen8 {I : KI} {Z : KZ} {M : KM} {loc : List (Option KV)} {st : List KV} {pc q : Nat} (hd : decode I.2.1 pc = .ok (.arraylength, 1)) (hq : pc + 1 = q) (h : Go I Z M loc (vI 5 :: st) q) : Go I Z M loc (vR 8 0 :: st) pc := by
  subst hq
  intro G Hb p l e R s m args below meth c cells slots Qf hC hZ H ls locs hW hF hL hl
  obtain ⟨hx, hb, hml, hrt, hown, hlk, hts, hK, hRf, hRl, hce, hsl⟩ := id hC
  have hat : va_at G.2.1 vwCl (G.1 + k_off 8 0, .inl (G.2.2.2.2.2, 5, .inr (.inr (.inr (.inr (fun j => some (G.1 + k_off 1 (M.2.2 8 j)))))))) H := hW 8 0 (by decide)
  exact W.alen hx hb hat ((hK.2 3 _ rfl).1 5 (fun j => va_rf (some (G.1 + k_off 1 (M.2.2 8 j))))) (by show (arrV _ _ _).slots.size.toInt32 = 5; rw [arrV_size]; rfl) rfl rfl hd (h G Hb p l e R s m args below meth c cells slots Qf hC hZ H ls locs hW hF hL hl)
def HA (M : KM) (h : Nat) (hs : Nat → RO) : Prop := M.1 7 0 1 = nI h ∧ h ≤ 4 ∧ (∀ j, j < 5 → 3 ≤ M.2.2 8 j ∧ M.2.2 8 j < 8) ∧ (∀ a b, a < 5 → b < 5 → M.2.2 8 a = M.2.2 8 b → a = b) ∧ ∀ j, j < h → RA M (M.2.2 8 j) (hs j)
theorem k_hin {j : Nat} {A : Prop} (hj : j < 5) (h : nI j < 0 ∨ (5 : Int32) ≤ nI j) : A := by
  have e5 : (5 : Int32).toInt = 5 := by decide
  have e0 : (0 : Int32).toInt = 0 := by decide
  rw [i32_lt, i32_le, nI_toInt (by omega), e0, e5] at h
  omega
theorem ok_hsize {M : KM} {h : Nat} {hs : Nat → RO} (hH : HA M h hs) : OkF mX2_size [vR 7 0] M (some (vI (nI h))) M := by
  refine ok_of (by decide) rfl (Nat.le_of_ble_eq_true rfl) ⟨rfl, rfl⟩ ?_
  show Go mX2_size (Zm (QF (some (vI (nI h))) M)) M [some (vR 7 0)] [] 0
  refine go_aload_n (q := 1) dX2_size_0 rfl rfl rfl ?_
  refine go_getf (q := 4) dX2_size_1 fRX2_17 rfl (by decide) rfl rfl ?_
  refine go_topi hH.1 ?_
  exact go_ri dX2_size_4 rfl (by rfl) rfl
theorem ok_stateAt {M : KM} {j : Nat} (hj : j < 5) : OkF mX2_stateAt [vR 7 0, vI (nI j)] M (some (vR 1 (M.2.2 8 j))) M := by
  refine ok_of (by decide) rfl (Nat.le_of_ble_eq_true rfl) ⟨rfl, rfl⟩ ?_
  show Go mX2_stateAt (Zm (QF (some (vR 1 (M.2.2 8 j))) M)) M [some (vR 7 0), some (vI (nI j))] [] 0
  refine go_iload_n (q := 1) dX2_stateAt_0 rfl rfl rfl ?_
  refine go_if_lt (q := 4) (t := 22) dX2_stateAt_1 (by decide) rfl (fun c_1 => ?_) (fun c_1 => ?_)
  · exact k_hin hj (Or.inl c_1)
  · refine go_iload_n (q := 5) dX2_stateAt_4 rfl rfl rfl ?_
    refine go_aload_n (q := 6) dX2_stateAt_5 rfl rfl rfl ?_
    refine go_getf (q := 9) dX2_stateAt_6 fRX2_11 rfl (by decide) rfl rfl ?_
    refine go_alen8 (q := 10) dX2_stateAt_9 rfl ?_
    refine go_icmp_ge (q := 13) (t := 22) dX2_stateAt_10 (by decide) rfl (fun c_10 => ?_) (fun c_10 => ?_)
    · exact k_hin hj (Or.inr c_10)
    · refine go_aload_n (q := 14) dX2_stateAt_13 rfl rfl rfl ?_
      refine go_getf (q := 17) dX2_stateAt_14 fRX2_11 rfl (by decide) rfl rfl ?_
      refine go_iload_n (q := 18) dX2_stateAt_17 rfl rfl rfl ?_
      refine go_aald (q := 19) j dX2_stateAt_18 rfl hj rfl ?_
      refine go_goto (q := 23) dX2_stateAt_19 (by decide) ?_
      exact go_aret dX2_stateAt_23 rfl ⟨rfl, rfl⟩
theorem ok_note {M : KM} {h : Nat} {hs : Nat → RO} {R : RO} (hH : HA M h hs) (hR : RA M 0 R) : Ok mX2_note [vR 7 0, vR 1 0] M (KU (M.2.2 8 h) M R) := by
  refine ok_of (by decide) rfl (Nat.le_of_ble_eq_true rfl) ⟨rfl, rfl⟩ ?_
  show Go mX2_note (Zm (KU (M.2.2 8 h) M R)) M [some (vR 7 0), some (vR 1 0), none] [] 0
  refine go_aload_n (q := 1) dX2_note_0 rfl rfl rfl ?_
  refine go_aload_n (q := 2) dX2_note_1 rfl rfl rfl ?_
  refine go_getf (q := 5) dX2_note_2 fRX2_17 rfl (by decide) rfl rfl ?_
  refine go_topi hH.1 ?_
  refine go_cV1 (cal := mX2_stateAt) (q := 8) dX2_note_5 lRX2_22 vX2_stateAt ⟨by decide, by decide⟩ rfl (by decide) (Nat.le_of_ble_eq_true rfl) (ok_stateAt (by have := hH.2.1; omega)) rfl ?_
  refine go_astore_n (q := 9) dX2_note_8 rfl (by decide) rfl rfl ?_
  refine go_aload_n (q := 10) dX2_note_9 rfl rfl rfl ?_
  refine go_ifnull (q := 13) dX2_note_10 rfl ?_
  refine go_aload_n (q := 14) dX2_note_13 rfl rfl rfl ?_
  refine go_aload_n (q := 15) dX2_note_14 rfl rfl rfl ?_
  refine go_kuV1 (cal := mX6_copyFrom) (q := 18) dX2_note_15 lRX2_26 vX6_copyFrom ⟨by decide, by decide⟩ rfl (hH.2.2.1 h (by have := hH.2.1; omega)).2 (Nat.le_of_ble_eq_true rfl) (ok_copyFrom (hH.2.2.1 h (by have := hH.2.1; omega)).2 (by decide) hR (by have := (hH.2.2.1 h (by have := hH.2.1; omega)).1; omega)) rfl (fun M1 hR1 hk1 => ?_)
  exact go_vret dX2_note_18 rfl ⟨rfl, hR1, hk1⟩
