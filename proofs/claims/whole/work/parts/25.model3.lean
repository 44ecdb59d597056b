/-! ===== the model: best, counts, unlike, ifDead ===== -/
theorem k_lc_set2 {b nL i : Nat} {ls : Array Slot} {loc : List (Option KV)} {v : KV} (hd : k_nd loc i = true) (hl : lv_has ls nL ((i, k_cv b v) :: (k_lc b 0 loc).filter (fun q => !(q.1 == i) && (!(q.1 == i + 1) && !(q.1 + 1 == i && q.2.category == 2))))) : lv_has ls nL (k_lc b 0 ((loc.set (i + 1) none).set i (some v))) := by
  refine ⟨hl.1, hl.2.1, fun q hq => ?_⟩
  obtain ⟨j, u, h1, h2⟩ := (k_lc_mem _ 0 q).mp hq
  apply hl.2.2 q
  rw [h2]
  by_cases hji : j = i
  · subst hji
    have hlt : j < (loc.set (j + 1) none).length := by
      have := (List.getElem?_eq_some_iff.mp h1).1
      rwa [List.length_set] at this
    rw [List.getElem?_set_self hlt] at h1
    have : v = u := by simpa using h1
    subst this
    simp
  · rw [List.getElem?_set_ne (fun e => hji e.symm)] at h1
    by_cases hj2 : j = i + 1
    · subst hj2
      have hlt : i + 1 < loc.length := by
        have := (List.getElem?_eq_some_iff.mp h1).1
        rwa [List.length_set] at this
      rw [List.getElem?_set_self hlt] at h1
      simp at h1
    · rw [List.getElem?_set_ne (fun e => hj2 e.symm)] at h1
      refine List.mem_cons_of_mem _ (List.mem_filter.mpr ⟨(k_lc_mem _ 0 _).mpr ⟨j, u, h1, rfl⟩, ?_⟩)
      simp only [Nat.zero_add, Bool.and_eq_true, Bool.not_eq_true']
      refine ⟨by simpa using hji, by simpa using hj2, ?_⟩
      by_cases h3 : j + 1 = i
      · subst h3
        have h4 : k_cat u = 1 := by
          simp only [k_nd, h1] at hd
          simpa using hd
        rw [k_cat_eq, h4]
        simp
      · simp [h3]
theorem go_dstore_n {I : KI} {Z : KZ} {M : KM} {loc : List (Option KV)} {st : List KV} {pc q : Nat} {k : Fin 4} {i : Nat} {x : UInt64} (hd : decode I.2.1 pc = .ok (.dstore_n k, 1)) (hi : (k : Nat) = i) (hn : i + 1 < I.2.2.1) (hc : k_nd loc i = true) (hq : pc + 1 = q) (h : Go I Z M ((loc.set (i + 1) none).set i (some (vD x))) st q) : Go I Z M loc (vD x :: st) pc := by
  subst hq
  intro G Hb p l e R s m args below meth c cells slots Qf hC hZ H ls locs hW hF hL hl
  obtain ⟨hx, hb, hml, hrt, hown, hlk, hts, hK, hRf, hRl, hce, hsl⟩ := id hC
  exact lv_dstore_n hx hb hd hi hl hn rfl (fun ls' hl' => h G Hb p l e R s m args below meth c cells slots Qf hC hZ H ls' locs hW hF hL (k_lc_set2 hc hl'))
theorem go_dstore {I : KI} {Z : KZ} {M : KM} {loc : List (Option KV)} {st : List KV} {pc q : Nat} {i : Nat} {x : UInt64} (hd : decode I.2.1 pc = .ok (.dstore i, 2)) (hn : i + 1 < I.2.2.1) (hc : k_nd loc i = true) (hq : pc + 2 = q) (h : Go I Z M ((loc.set (i + 1) none).set i (some (vD x))) st q) : Go I Z M loc (vD x :: st) pc := by
  subst hq
  intro G Hb p l e R s m args below meth c cells slots Qf hC hZ H ls locs hW hF hL hl
  obtain ⟨hx, hb, hml, hrt, hown, hlk, hts, hK, hRf, hRl, hce, hsl⟩ := id hC
  exact lv_dstore hx hb hd hl hn rfl (fun ls' hl' => h G Hb p l e R s m args below meth c cells slots Qf hC hZ H ls' locs hW hF hL (k_lc_set2 hc hl'))
theorem lp_mleastFar {M : KM} {R : RO} (hZ : ZA M R) (hW : rW R) {s f : Nat} (hs : s < 2 ^ 31) (hf : f < rN R) : ∀ (d : Nat) (j : Nat) (x y : Int32), rN R - j < d → (x = nI (lA R s f j)) → (y = nI j) → (j ≤ rN R) → Go mX10_leastFar (Zm (QF (some (vI (nI (lAs R s f)))) M)) M [some (vR 14 0), some (vI (nI s)), some (vI (nI f)), some (vI x), some (vI y), none] [] 6 := by
  intro d
  induction d with
  | zero => intro j x y hd; exact absurd hd (Nat.not_lt_zero _)
  | succ d ih =>
    intro j x y hd h0 h1 h2
    refine go_iload (q := 8) dX10_leastFar_6 rfl rfl ?_
    refine go_aload_n (q := 9) dX10_leastFar_8 rfl rfl rfl ?_
    refine go_getf (q := 12) dX10_leastFar_9 fRX10_7 rfl (by decide) rfl rfl ?_
    refine go_iconst (q := 13) (v := 0) dX10_leastFar_12 (by decide) rfl ?_
    refine go_iald (q := 14) 0 dX10_leastFar_13 rfl rfl (by decide) rfl (by decide) rfl ?_
    refine go_icmp_geN j (rN R) (q := 17) (t := 69) dX10_leastFar_14 (by decide) rfl h1 (hZ.sz) (by have := hZ.le; omega) (by have := hZ.le; omega) (fun c_14 => ?_) (fun c_14 => ?_)
    · refine go_iload_n (q := 70) dX10_leastFar_69 rfl rfl rfl ?_
      exact go_ri dX10_leastFar_70 rfl (by rw [h0, show j = rN R by omega]; rfl) rfl
    · subst h1
      refine go_iload (q := 19) dX10_leastFar_17 rfl rfl ?_
      refine go_iload_n (q := 20) dX10_leastFar_19 rfl rfl rfl ?_
      refine go_icmp_eqN j f (q := 23) (t := 46) dX10_leastFar_20 (by decide) rfl rfl rfl (hZ.b c_14) (hZ.b hf) (fun c_20 => ?_) (fun c_20 => ?_)
      · refine go_bipush (q := 48) (v := 6) dX10_leastFar_46 (by decide) rfl ?_
        refine go_istore (q := 50) dX10_leastFar_48 (by decide) rfl rfl ?_
        refine go_iload (q := 52) dX10_leastFar_50 rfl rfl ?_
        refine go_iload_n (q := 53) dX10_leastFar_52 rfl rfl rfl ?_
        refine go_icmp_geN 6 (lA R s f j) (q := 56) (t := 61) dX10_leastFar_53 (by decide) rfl rfl h0 (by decide) (by have := lA_le R s f j; omega) (fun c_53 => ?_) (fun c_53 => ?_)
        · refine go_iload_n (q := 62) dX10_leastFar_61 rfl rfl rfl ?_
          refine go_istore_n (q := 63) dX10_leastFar_62 rfl (by decide) rfl rfl ?_
          refine go_iinc (q := 66) (v := 1) dX10_leastFar_63 (by decide) rfl (by decide) rfl rfl ?_
          refine go_goto (q := 6) dX10_leastFar_66 (by decide) ?_
          refine go_weak (l1 := [some (vR 14 0), some (vI _), some (vI _), some (vI _), some (vI _), none]) (k_le_s (k_le_s (k_le_s (k_le_s (k_le_s (k_le_n k_le_nil)))))) ?_
          exact ih (j + 1) _ _ (by omega) (by rw [h0, show lA R s f (j + 1) = lA R s f j from if_neg (fun z => z.2.1 c_20)]) (nI_1 j) (by omega)
        · have := lA_le R s f j; omega
      · refine go_aload_n (q := 24) dX10_leastFar_23 rfl rfl rfl ?_
        refine go_iload (q := 26) dX10_leastFar_24 rfl rfl ?_
        refine go_cV1 (cal := mX10_lives) (q := 29) dX10_leastFar_26 lRX10_56 vX10_lives ⟨by decide, by decide⟩ rfl (by decide) (Nat.le_of_ble_eq_true rfl) (ok_mlives hZ c_14) rfl ?_
        refine go_if_eqB (q := 32) (t := 46) dX10_leastFar_29 (by decide) rfl (fun c_29 => ?_) (fun c_29 => ?_)
        · refine go_bipush (q := 48) (v := 6) dX10_leastFar_46 (by decide) rfl ?_
          refine go_istore (q := 50) dX10_leastFar_48 (by decide) rfl rfl ?_
          refine go_iload (q := 52) dX10_leastFar_50 rfl rfl ?_
          refine go_iload_n (q := 53) dX10_leastFar_52 rfl rfl rfl ?_
          refine go_icmp_geN 6 (lA R s f j) (q := 56) (t := 61) dX10_leastFar_53 (by decide) rfl rfl h0 (by decide) (by have := lA_le R s f j; omega) (fun c_53 => ?_) (fun c_53 => ?_)
          · refine go_iload_n (q := 62) dX10_leastFar_61 rfl rfl rfl ?_
            refine go_istore_n (q := 63) dX10_leastFar_62 rfl (by decide) rfl rfl ?_
            refine go_iinc (q := 66) (v := 1) dX10_leastFar_63 (by decide) rfl (by decide) rfl rfl ?_
            refine go_goto (q := 6) dX10_leastFar_66 (by decide) ?_
            refine go_weak (l1 := [some (vR 14 0), some (vI _), some (vI _), some (vI _), some (vI _), none]) (k_le_s (k_le_s (k_le_s (k_le_s (k_le_s (k_le_n k_le_nil)))))) ?_
            exact ih (j + 1) _ _ (by omega) (by rw [h0, show lA R s f (j + 1) = lA R s f j from if_neg (fun z => by rw [c_29] at z; exact absurd z.1 (by decide))]) (nI_1 j) (by omega)
          · have := lA_le R s f j; omega
        · refine go_iload_n (q := 33) dX10_leastFar_32 rfl rfl rfl ?_
          refine go_aload_n (q := 34) dX10_leastFar_33 rfl rfl rfl ?_
          refine go_iload (q := 36) dX10_leastFar_34 rfl rfl ?_
          refine go_iconst (q := 37) (v := 0) dX10_leastFar_36 (by decide) rfl ?_
          refine go_cV2 (cal := mX10_of) (q := 40) dX10_leastFar_37 lRX10_45 vX10_of ⟨by decide, by decide⟩ rfl (by decide) (Nat.le_of_ble_eq_true rfl) (ok_mof (w := 0) (hZ.lt c_14) (by decide)) rfl ?_
          refine go_topi (hZ.sh c_14) ?_
          refine go_cS2 (cal := mX10_far) (q := 43) dX10_leastFar_40 lRX10_137 vX10_far ⟨by decide, by decide⟩ (Nat.le_of_ble_eq_true rfl) (ok_mfar hs (by have := hW.2.1 j c_14; omega)) rfl ?_
          refine go_goto (q := 48) dX10_leastFar_43 (by decide) ?_
          refine go_istore (q := 50) dX10_leastFar_48 (by decide) rfl rfl ?_
          refine go_iload (q := 52) dX10_leastFar_50 rfl rfl ?_
          refine go_iload_n (q := 53) dX10_leastFar_52 rfl rfl rfl ?_
          refine go_icmp_geN (ap s (rS R j)) (lA R s f j) (q := 56) (t := 61) dX10_leastFar_53 (by decide) rfl rfl h0 (by have := ap_le s (rS R j); omega) (by have := lA_le R s f j; omega) (fun c_53 => ?_) (fun c_53 => ?_)
          · refine go_iload_n (q := 62) dX10_leastFar_61 rfl rfl rfl ?_
            refine go_istore_n (q := 63) dX10_leastFar_62 rfl (by decide) rfl rfl ?_
            refine go_iinc (q := 66) (v := 1) dX10_leastFar_63 (by decide) rfl (by decide) rfl rfl ?_
            refine go_goto (q := 6) dX10_leastFar_66 (by decide) ?_
            refine go_weak (l1 := [some (vR 14 0), some (vI _), some (vI _), some (vI _), some (vI _), none]) (k_le_s (k_le_s (k_le_s (k_le_s (k_le_s (k_le_n k_le_nil)))))) ?_
            exact ih (j + 1) _ _ (by omega) (by rw [h0, show lA R s f (j + 1) = lA R s f j from if_neg (fun z => by have := z.2.2; omega)]) (nI_1 j) (by omega)
          · refine go_iload (q := 58) dX10_leastFar_56 rfl rfl ?_
            refine go_goto (q := 62) dX10_leastFar_58 (by decide) ?_
            refine go_istore_n (q := 63) dX10_leastFar_62 rfl (by decide) rfl rfl ?_
            refine go_iinc (q := 66) (v := 1) dX10_leastFar_63 (by decide) rfl (by decide) rfl rfl ?_
            refine go_goto (q := 6) dX10_leastFar_66 (by decide) ?_
            refine go_weak (l1 := [some (vR 14 0), some (vI _), some (vI _), some (vI _), some (vI _), none]) (k_le_s (k_le_s (k_le_s (k_le_s (k_le_s (k_le_n k_le_nil)))))) ?_
            exact ih (j + 1) _ _ (by omega) (by rw [show lA R s f (j + 1) = ap s (rS R j) from if_pos ⟨c_29, c_20, c_53⟩]) (nI_1 j) (by omega)
theorem ok_mleastFar {M : KM} {R : RO} (hZ : ZA M R) (hW : rW R) {s f : Nat} (hs : s < 2 ^ 31) (hf : f < rN R) : OkF mX10_leastFar [vR 14 0, vI (nI s), vI (nI f)] M (some (vI (nI (lAs R s f)))) M := by
  refine ok_of (by decide) rfl (Nat.le_of_ble_eq_true rfl) ⟨rfl, rfl⟩ ?_
  show Go mX10_leastFar (Zm (QF (some (vI (nI (lAs R s f)))) M)) M [some (vR 14 0), some (vI (nI s)), some (vI (nI f)), none, none, none] [] 0
  refine go_bipush (q := 2) (v := 6) dX10_leastFar_0 (by decide) rfl ?_
  refine go_istore_n (q := 3) dX10_leastFar_2 rfl (by decide) rfl rfl ?_
  refine go_iconst (q := 4) (v := 0) dX10_leastFar_3 (by decide) rfl ?_
  refine go_istore (q := 6) dX10_leastFar_4 (by decide) rfl rfl ?_
  exact lp_mleastFar hZ hW hs hf (rN R + 1) 0 _ _ (by omega) rfl rfl (by omega)
theorem k_m1M {b : Nat} (hb : b < 100) : (-1 : Int32) ≤ nI b + (-1) := by
  cases b with
  | zero => decide
  | succ k => rw [← Int32.sub_eq_add_neg, dn_m1, i32_le, nI_toInt (by omega), show (-1 : Int32).toInt = -1 from by decide]; omega
theorem k_upM (k : Nat) : nI k = nI (k + 1) + (-1) := by rw [← Int32.sub_eq_add_neg, dn_m1]
theorem lp_mbest {M : KM} {R : RO} (hZ : ZA M R) (hW : rW R) {f : Nat} (hf : f < rN R) : ∀ (d : Nat) (j : Nat) (x w y : Int32), 30 - j < d → (x = e4 (bF R f j).1) → (w = nI (bF R f j).2 + (-1)) → (y = nI j) → (j ≤ 30) → Go mX10_best (Zm (QF (some (vI (e4 (bestR R f)))) M)) M [some (vR 14 0), some (vI (nI f)), some (vI x), some (vI w), some (vI y), none, none] [] 18 := by
  intro d
  induction d with
  | zero => intro j x w y hd; exact absurd hd (Nat.not_lt_zero _)
  | succ d ih =>
    intro j x w y hd h0 h1 h2 h3
    refine go_iload (q := 20) dX10_best_18 rfl rfl ?_
    refine go_bipush (q := 22) (v := 30) dX10_best_20 (by decide) rfl ?_
    refine go_icmp_geN j 30 (q := 25) (t := 113) dX10_best_22 (by decide) rfl h2 rfl (by omega) (by omega) (fun c_22 => ?_) (fun c_22 => ?_)
    · refine go_iload_n (q := 114) dX10_best_113 rfl rfl rfl ?_
      exact go_ri dX10_best_114 rfl (by rw [h0, show j = 30 by omega]; rfl) rfl
    · subst h2
      refine go_aload_n (q := 26) dX10_best_25 rfl rfl rfl ?_
      refine go_iload_n (q := 27) dX10_best_26 rfl rfl rfl ?_
      refine go_iload (q := 29) dX10_best_27 rfl rfl ?_
      refine go_iconst (q := 30) (v := 5) dX10_best_29 (by decide) rfl ?_
      refine go_idiv (q := 31) dX10_best_30 (by decide) rfl ?_
      refine go_topi (v := nI (j / 5)) (nI_div5 (by omega)) ?_
      refine go_iload (q := 33) dX10_best_31 rfl rfl ?_
      refine go_iconst (q := 34) (v := 5) dX10_best_33 (by decide) rfl ?_
      refine go_irem (q := 35) dX10_best_34 (by decide) rfl ?_
      refine go_topi (v := nI (j % 5)) (nI_rem5 (by omega)) ?_
      refine go_cV3 (cal := mX10_reason) (q := 38) dX10_best_35 lRX10_122 vX10_reason ⟨by decide, by decide⟩ rfl (by decide) (Nat.le_of_ble_eq_true rfl) (ok_mreason hZ hW hf (by omega) (by omega)) rfl ?_
      refine go_if_neN (whyS R f (j / 5) (j % 5)) (q := 41) (t := 45) dX10_best_38 (by decide) rfl rfl (by have := whyS_big R f (j / 5) (j % 5); omega) (fun c_38 => ?_) (fun c_38 => ?_)
      · refine go_iconst (q := 46) (v := 0) dX10_best_45 (by decide) rfl ?_
        refine go_istore (q := 48) dX10_best_46 (by decide) rfl rfl ?_
        refine go_iload (q := 50) dX10_best_48 rfl rfl ?_
        refine go_if_eq (q := 53) (t := 78) dX10_best_50 (by decide) rfl (fun _ => ?_) (fun z => absurd rfl z)
        refine go_iconst (q := 79) (v := (-1)) dX10_best_78 (by decide) rfl ?_
        refine go_istore (q := 81) dX10_best_79 (by decide) rfl rfl ?_
        refine go_iload (q := 83) dX10_best_81 rfl rfl ?_
        refine go_iload_n (q := 84) dX10_best_83 rfl rfl rfl ?_
        refine go_icmp_le (q := 87) (t := 92) dX10_best_84 (by decide) rfl (fun c_84 => ?_) (fun c_84 => ?_)
        · refine go_iload_n (q := 93) dX10_best_92 rfl rfl rfl ?_
          refine go_istore_n (q := 94) dX10_best_93 rfl (by decide) rfl rfl ?_
          refine go_iload (q := 96) dX10_best_94 rfl rfl ?_
          refine go_iload_n (q := 97) dX10_best_96 rfl rfl rfl ?_
          refine go_icmp_le (q := 100) (t := 105) dX10_best_97 (by decide) rfl (fun c_97 => ?_) (fun c_97 => ?_)
          · refine go_iload_n (q := 106) dX10_best_105 rfl rfl rfl ?_
            refine go_istore_n (q := 107) dX10_best_106 rfl (by decide) rfl rfl ?_
            refine go_iinc (q := 110) (v := 1) dX10_best_107 (by decide) rfl (by decide) rfl rfl ?_
            refine go_goto (q := 18) dX10_best_110 (by decide) ?_
            refine go_weak (l1 := [some (vR 14 0), some (vI _), some (vI _), some (vI _), some (vI _), none, none]) (k_le_s (k_le_s (k_le_s (k_le_s (k_le_s (k_le_n (k_le_n k_le_nil))))))) ?_
            exact ih (j + 1) _ _ _ (by omega) (by rw [h0, show bF R f (j + 1) = bF R f j from if_neg (fun z => c_38 z.1)]) (by rw [h1, show bF R f (j + 1) = bF R f j from if_neg (fun z => c_38 z.1)]) (nI_1 j) (by omega)
          · exact absurd c_84 c_97
        · exact absurd (by rw [h1]; exact k_m1M (by have := bF_le R f j; omega)) c_84
      · refine go_iconst (q := 42) (v := 1) dX10_best_41 (by decide) rfl ?_
        refine go_goto (q := 46) dX10_best_42 (by decide) ?_
        refine go_istore (q := 48) dX10_best_46 (by decide) rfl rfl ?_
        refine go_iload (q := 50) dX10_best_48 rfl rfl ?_
        refine go_if_eq (q := 53) (t := 78) dX10_best_50 (by decide) rfl (fun z => absurd z (by decide)) (fun _ => ?_)
        refine go_aload_n (q := 54) dX10_best_53 rfl rfl rfl ?_
        refine go_aload_n (q := 55) dX10_best_54 rfl rfl rfl ?_
        refine go_iload_n (q := 56) dX10_best_55 rfl rfl rfl ?_
        refine go_iconst (q := 57) (v := 0) dX10_best_56 (by decide) rfl ?_
        refine go_cV2 (cal := mX10_of) (q := 60) dX10_best_57 lRX10_45 vX10_of ⟨by decide, by decide⟩ rfl (by decide) (Nat.le_of_ble_eq_true rfl) (ok_mof (w := 0) (hZ.lt hf) (by decide)) rfl ?_
        refine go_topi (hZ.sh hf) ?_
        refine go_iload (q := 62) dX10_best_60 rfl rfl ?_
        refine go_iconst (q := 63) (v := 5) dX10_best_62 (by decide) rfl ?_
        refine go_idiv (q := 64) dX10_best_63 (by decide) rfl ?_
        refine go_topi (v := nI (j / 5)) (nI_div5 (by omega)) ?_
        refine go_iload (q := 66) dX10_best_64 rfl rfl ?_
        refine go_iconst (q := 67) (v := 5) dX10_best_66 (by decide) rfl ?_
        refine go_irem (q := 68) dX10_best_67 (by decide) rfl ?_
        refine go_topi (v := nI (j % 5)) (nI_rem5 (by omega)) ?_
        refine go_cS3 (cal := mX10_with) (q := 71) dX10_best_68 lRX10_105 vX10_with ⟨by decide, by decide⟩ (Nat.le_of_ble_eq_true rfl) (ok_mwith (by have := hW.2.1 f hf; omega) (by omega)) rfl ?_
        refine go_iload_n (q := 72) dX10_best_71 rfl rfl rfl ?_
        refine go_cV2 (cal := mX10_leastFar) (q := 75) dX10_best_72 lRX10_201 vX10_leastFar ⟨by decide, by decide⟩ rfl (by decide) (Nat.le_of_ble_eq_true rfl) (ok_mleastFar hZ hW (by have := wm_lt (k := j / 5) (m := j % 5) (hW.2.1 f hf) (by omega) (by omega); omega) hf) rfl ?_
        refine go_goto (q := 79) dX10_best_75 (by decide) ?_
        refine go_istore (q := 81) dX10_best_79 (by decide) rfl rfl ?_
        refine go_iload (q := 83) dX10_best_81 rfl rfl ?_
        refine go_iload_n (q := 84) dX10_best_83 rfl rfl rfl ?_
        refine go_icmp_le (q := 87) (t := 92) dX10_best_84 (by decide) rfl (fun c_84 => ?_) (fun c_84 => ?_)
        · refine go_iload_n (q := 93) dX10_best_92 rfl rfl rfl ?_
          refine go_istore_n (q := 94) dX10_best_93 rfl (by decide) rfl rfl ?_
          refine go_iload (q := 96) dX10_best_94 rfl rfl ?_
          refine go_iload_n (q := 97) dX10_best_96 rfl rfl rfl ?_
          refine go_icmp_le (q := 100) (t := 105) dX10_best_97 (by decide) rfl (fun c_97 => ?_) (fun c_97 => ?_)
          · refine go_iload_n (q := 106) dX10_best_105 rfl rfl rfl ?_
            refine go_istore_n (q := 107) dX10_best_106 rfl (by decide) rfl rfl ?_
            refine go_iinc (q := 110) (v := 1) dX10_best_107 (by decide) rfl (by decide) rfl rfl ?_
            refine go_goto (q := 18) dX10_best_110 (by decide) ?_
            have hb : bF R f (j + 1) = bF R f j := if_neg (fun z => by have h9 := (k_leM (a := (lAs R (wm (rS R f) (j / 5) (j % 5)) f)) (b := (bF R f j).2) (by have := lA_le R (wm (rS R f) (j / 5) (j % 5)) f (rN R); unfold lAs; omega) (by have := bF_le R f j; omega)).mp (by rw [← h1]; exact c_84); have := z.2; omega)
            refine go_weak (l1 := [some (vR 14 0), some (vI _), some (vI _), some (vI _), some (vI _), none, none]) (k_le_s (k_le_s (k_le_s (k_le_s (k_le_s (k_le_n (k_le_n k_le_nil))))))) ?_
            exact ih (j + 1) _ _ _ (by omega) (by rw [h0, hb]) (by rw [h1, hb]) (nI_1 j) (by omega)
          · exact absurd c_84 c_97
        · refine go_iload (q := 89) dX10_best_87 rfl rfl ?_
          refine go_goto (q := 93) dX10_best_89 (by decide) ?_
          refine go_istore_n (q := 94) dX10_best_93 rfl (by decide) rfl rfl ?_
          refine go_iload (q := 96) dX10_best_94 rfl rfl ?_
          refine go_iload_n (q := 97) dX10_best_96 rfl rfl rfl ?_
          refine go_icmp_le (q := 100) (t := 105) dX10_best_97 (by decide) rfl (fun c_97 => ?_) (fun c_97 => ?_)
          · exact absurd c_97 c_84
          · refine go_iload (q := 102) dX10_best_100 rfl rfl ?_
            refine go_goto (q := 106) dX10_best_102 (by decide) ?_
            refine go_istore_n (q := 107) dX10_best_106 rfl (by decide) rfl rfl ?_
            refine go_iinc (q := 110) (v := 1) dX10_best_107 (by decide) rfl (by decide) rfl rfl ?_
            refine go_goto (q := 18) dX10_best_110 (by decide) ?_
            have hb : bF R f (j + 1) = (some j, (lAs R (wm (rS R f) (j / 5) (j % 5)) f) + 1) := if_pos ⟨c_38, by
              have h9 : ¬ (lAs R (wm (rS R f) (j / 5) (j % 5)) f) + 1 ≤ (bF R f j).2 := fun z => c_84 (by rw [h1]; exact (k_leM (a := (lAs R (wm (rS R f) (j / 5) (j % 5)) f)) (b := (bF R f j).2) (by have := lA_le R (wm (rS R f) (j / 5) (j % 5)) f (rN R); unfold lAs; omega) (by have := bF_le R f j; omega)).mpr z)
              omega⟩
            refine go_weak (l1 := [some (vR 14 0), some (vI _), some (vI _), some (vI _), some (vI _), none, none]) (k_le_s (k_le_s (k_le_s (k_le_s (k_le_s (k_le_n (k_le_n k_le_nil))))))) ?_
            exact ih (j + 1) _ _ _ (by omega) (by rw [hb]; rfl) (by rw [hb]; exact k_upM _) (nI_1 j) (by omega)
theorem ok_mbest {M : KM} {R : RO} (hZ : ZA M R) (hW : rW R) (x : Int32) : OkF mX10_best [vR 14 0, vI x] M (some (vI (aBest R x))) M := by
  refine ok_of (by decide) rfl (Nat.le_of_ble_eq_true rfl) ⟨rfl, rfl⟩ ?_
  show Go mX10_best (Zm (QF (some (vI (aBest R x))) M)) M [some (vR 14 0), some (vI x), none, none, none, none, none] [] 0
  refine go_aload_n (q := 1) dX10_best_0 rfl rfl rfl ?_
  refine go_iload_n (q := 2) dX10_best_1 rfl rfl rfl ?_
  refine go_cV1 (cal := mX10_isPerson) (q := 5) dX10_best_2 lRX10_116 vX10_isPerson ⟨by decide, by decide⟩ rfl (by decide) (Nat.le_of_ble_eq_true rfl) (ok_misPerson hZ _) rfl ?_
  refine go_if_neB (q := 8) (t := 10) dX10_best_5 (by decide) rfl (fun c_5 => ?_) (fun c_5 => ?_)
  · obtain ⟨p, hp⟩ := isSome_t c_5
    obtain ⟨hlt, rfl⟩ := pOf_some hp
    refine go_bipush (q := 12) (v := (-4)) dX10_best_10 (by decide) rfl ?_
    refine go_istore_n (q := 13) dX10_best_12 rfl (by decide) rfl rfl ?_
    refine go_iconst (q := 14) (v := (-1)) dX10_best_13 (by decide) rfl ?_
    refine go_istore_n (q := 15) dX10_best_14 rfl (by decide) rfl rfl ?_
    refine go_iconst (q := 16) (v := 0) dX10_best_15 (by decide) rfl ?_
    refine go_istore (q := 18) dX10_best_16 (by decide) rfl rfl ?_
    rw [show aBest R (nI p) = e4 (bestR R p) by simp [aBest, hp]]
    exact lp_mbest hZ hW hlt 31 0 _ _ _ (by omega) rfl (show (-1 : Int32) = nI 0 + (-1) from by decide) rfl (by omega)
  · refine go_iconst (q := 9) (v := (-1)) dX10_best_8 (by decide) rfl ?_
    exact go_ri dX10_best_9 rfl (by simp [aBest, isSome_f c_5]) rfl
theorem ok_mdiffers {M : KM} {R : RO} (hZ : ZA M R) (hW : rW R) (x y : Int32) : OkF mX10_differs [vR 14 0, vI x, vI y] M (some (vI (aDiffers R x y))) M := by
  refine ok_of (by decide) rfl (Nat.le_of_ble_eq_true rfl) ⟨rfl, rfl⟩ ?_
  show Go mX10_differs (Zm (QF (some (vI (aDiffers R x y))) M)) M [some (vR 14 0), some (vI x), some (vI y)] [] 0
  refine go_aload_n (q := 1) dX10_differs_0 rfl rfl rfl ?_
  refine go_iload_n (q := 2) dX10_differs_1 rfl rfl rfl ?_
  refine go_cV1 (cal := mX10_isPerson) (q := 5) dX10_differs_2 lRX10_116 vX10_isPerson ⟨by decide, by decide⟩ rfl (by decide) (Nat.le_of_ble_eq_true rfl) (ok_misPerson hZ _) rfl ?_
  refine go_if_eqB (q := 8) (t := 34) dX10_differs_5 (by decide) rfl (fun c_5 => ?_) (fun c_5 => ?_)
  · refine go_iconst (q := 35) (v := (-1)) dX10_differs_34 (by decide) rfl ?_
    exact go_ri dX10_differs_35 rfl (by simp [aDiffers, isSome_f c_5]) rfl
  · refine go_aload_n (q := 9) dX10_differs_8 rfl rfl rfl ?_
    refine go_iload_n (q := 10) dX10_differs_9 rfl rfl rfl ?_
    refine go_cV1 (cal := mX10_isPerson) (q := 13) dX10_differs_10 lRX10_116 vX10_isPerson ⟨by decide, by decide⟩ rfl (by decide) (Nat.le_of_ble_eq_true rfl) (ok_misPerson hZ _) rfl ?_
    refine go_if_eqB (q := 16) (t := 34) dX10_differs_13 (by decide) rfl (fun c_13 => ?_) (fun c_13 => ?_)
    · refine go_iconst (q := 35) (v := (-1)) dX10_differs_34 (by decide) rfl ?_
      exact go_ri dX10_differs_35 rfl (by simp [aDiffers, isSome_f c_13]) rfl
    · obtain ⟨p, hp⟩ := isSome_t c_5
      obtain ⟨hlt, rfl⟩ := pOf_some hp
      obtain ⟨k, hk⟩ := isSome_t c_13
      obtain ⟨hkl, rfl⟩ := pOf_some hk
      refine go_aload_n (q := 17) dX10_differs_16 rfl rfl rfl ?_
      refine go_iload_n (q := 18) dX10_differs_17 rfl rfl rfl ?_
      refine go_iconst (q := 19) (v := 0) dX10_differs_18 (by decide) rfl ?_
      refine go_cV2 (cal := mX10_of) (q := 22) dX10_differs_19 lRX10_45 vX10_of ⟨by decide, by decide⟩ rfl (by decide) (Nat.le_of_ble_eq_true rfl) (ok_mof (w := 0) (hZ.lt hlt) (by decide)) rfl ?_
      refine go_topi (hZ.sh hlt) ?_
      refine go_aload_n (q := 23) dX10_differs_22 rfl rfl rfl ?_
      refine go_iload_n (q := 24) dX10_differs_23 rfl rfl rfl ?_
      refine go_iconst (q := 25) (v := 0) dX10_differs_24 (by decide) rfl ?_
      refine go_cV2 (cal := mX10_of) (q := 28) dX10_differs_25 lRX10_45 vX10_of ⟨by decide, by decide⟩ rfl (by decide) (Nat.le_of_ble_eq_true rfl) (ok_mof (w := 0) (hZ.lt hkl) (by decide)) rfl ?_
      refine go_topi (hZ.sh hkl) ?_
      refine go_cS2 (cal := mX10_far) (q := 31) dX10_differs_28 lRX10_137 vX10_far ⟨by decide, by decide⟩ (Nat.le_of_ble_eq_true rfl) (ok_mfar (by have := hW.2.1 p hlt; omega) (by have := hW.2.1 k hkl; omega)) rfl ?_
      refine go_goto (q := 35) dX10_differs_31 (by decide) ?_
      exact go_ri dX10_differs_35 rfl (by simp [aDiffers, hp, hk]) rfl
theorem ok_misConfused {M : KM} {R : RO} (hZ : ZA M R) (hW : rW R) {a b : Nat} (ha : a < rN R) (hb : b < rN R) : OkF mX10_isConfused [vR 14 0, vI (nI a), vI (nI b)] M (some (vI (bI (conf R a b)))) M := by
  refine ok_of (by decide) rfl (Nat.le_of_ble_eq_true rfl) ⟨rfl, rfl⟩ ?_
  show Go mX10_isConfused (Zm (QF (some (vI (bI (conf R a b)))) M)) M [some (vR 14 0), some (vI (nI a)), some (vI (nI b)), none] [] 0
  refine go_aload_n (q := 1) dX10_isConfused_0 rfl rfl rfl ?_
  refine go_iload_n (q := 2) dX10_isConfused_1 rfl rfl rfl ?_
  refine go_iconst (q := 3) (v := 2) dX10_isConfused_2 (by decide) rfl ?_
  refine go_cV2 (cal := mX10_of) (q := 6) dX10_isConfused_3 lRX10_45 vX10_of ⟨by decide, by decide⟩ rfl (by decide) (Nat.le_of_ble_eq_true rfl) (ok_mof (w := 2) (hZ.lt ha) (by decide)) rfl ?_
  refine go_topi (hZ.fa ha) ?_
  refine go_iload_n (q := 7) dX10_isConfused_6 rfl rfl rfl ?_
  refine go_icmp_eq (q := 10) (t := 20) dX10_isConfused_7 (by decide) rfl (fun c_7 => ?_) (fun c_7 => ?_)
  · refine go_iconst (q := 21) (v := 1) dX10_isConfused_20 (by decide) rfl ?_
    refine go_goto (q := 25) dX10_isConfused_21 (by decide) ?_
    refine go_istore_n (q := 26) dX10_isConfused_25 rfl (by decide) rfl rfl ?_
    refine go_aload_n (q := 27) dX10_isConfused_26 rfl rfl rfl ?_
    refine go_iload_n (q := 28) dX10_isConfused_27 rfl rfl rfl ?_
    refine go_cV1 (cal := mX10_lives) (q := 31) dX10_isConfused_28 lRX10_56 vX10_lives ⟨by decide, by decide⟩ rfl (by decide) (Nat.le_of_ble_eq_true rfl) (ok_mlives hZ ha) rfl ?_
    refine go_if_eqB (q := 34) (t := 69) dX10_isConfused_31 (by decide) rfl (fun c_31 => ?_) (fun c_31 => ?_)
    · refine go_iconst (q := 70) (v := 0) dX10_isConfused_69 (by decide) rfl ?_
      exact go_rz dX10_isConfused_70 rfl (by rw [show conf R a b = false from by simp [conf, c_31]]; rfl) rfl
    · refine go_aload_n (q := 35) dX10_isConfused_34 rfl rfl rfl ?_
      refine go_iload_n (q := 36) dX10_isConfused_35 rfl rfl rfl ?_
      refine go_cV1 (cal := mX10_lives) (q := 39) dX10_isConfused_36 lRX10_56 vX10_lives ⟨by decide, by decide⟩ rfl (by decide) (Nat.le_of_ble_eq_true rfl) (ok_mlives hZ hb) rfl ?_
      refine go_if_eqB (q := 42) (t := 69) dX10_isConfused_39 (by decide) rfl (fun c_39 => ?_) (fun c_39 => ?_)
      · refine go_iconst (q := 70) (v := 0) dX10_isConfused_69 (by decide) rfl ?_
        exact go_rz dX10_isConfused_70 rfl (by rw [show conf R a b = false from by simp [conf, c_39]]; rfl) rfl
      · refine go_iload_n (q := 43) dX10_isConfused_42 rfl rfl rfl ?_
        refine go_if_ne (q := 46) (t := 69) dX10_isConfused_43 (by decide) rfl (fun _ => ?_) (fun z => absurd (by decide) z)
        refine go_iconst (q := 70) (v := 0) dX10_isConfused_69 (by decide) rfl ?_
        exact go_rz dX10_isConfused_70 rfl (by rw [show conf R a b = false from by simp [conf, (e4_nI (rP_big hW ha) (hZ.b hb)).mp c_7]]; rfl) rfl
  · refine go_aload_n (q := 11) dX10_isConfused_10 rfl rfl rfl ?_
    refine go_iload_n (q := 12) dX10_isConfused_11 rfl rfl rfl ?_
    refine go_iconst (q := 13) (v := 2) dX10_isConfused_12 (by decide) rfl ?_
    refine go_cV2 (cal := mX10_of) (q := 16) dX10_isConfused_13 lRX10_45 vX10_of ⟨by decide, by decide⟩ rfl (by decide) (Nat.le_of_ble_eq_true rfl) (ok_mof (w := 2) (hZ.lt hb) (by decide)) rfl ?_
    refine go_topi (hZ.fa hb) ?_
    refine go_iload_n (q := 17) dX10_isConfused_16 rfl rfl rfl ?_
    refine go_icmp_ne (q := 20) (t := 24) dX10_isConfused_17 (by decide) rfl (fun c_17 => ?_) (fun c_17 => ?_)
    · refine go_iconst (q := 25) (v := 0) dX10_isConfused_24 (by decide) rfl ?_
      refine go_istore_n (q := 26) dX10_isConfused_25 rfl (by decide) rfl rfl ?_
      refine go_aload_n (q := 27) dX10_isConfused_26 rfl rfl rfl ?_
      refine go_iload_n (q := 28) dX10_isConfused_27 rfl rfl rfl ?_
      refine go_cV1 (cal := mX10_lives) (q := 31) dX10_isConfused_28 lRX10_56 vX10_lives ⟨by decide, by decide⟩ rfl (by decide) (Nat.le_of_ble_eq_true rfl) (ok_mlives hZ ha) rfl ?_
      refine go_if_eqB (q := 34) (t := 69) dX10_isConfused_31 (by decide) rfl (fun c_31 => ?_) (fun c_31 => ?_)
      · refine go_iconst (q := 70) (v := 0) dX10_isConfused_69 (by decide) rfl ?_
        exact go_rz dX10_isConfused_70 rfl (by rw [show conf R a b = false from by simp [conf, c_31]]; rfl) rfl
      · refine go_aload_n (q := 35) dX10_isConfused_34 rfl rfl rfl ?_
        refine go_iload_n (q := 36) dX10_isConfused_35 rfl rfl rfl ?_
        refine go_cV1 (cal := mX10_lives) (q := 39) dX10_isConfused_36 lRX10_56 vX10_lives ⟨by decide, by decide⟩ rfl (by decide) (Nat.le_of_ble_eq_true rfl) (ok_mlives hZ hb) rfl ?_
        refine go_if_eqB (q := 42) (t := 69) dX10_isConfused_39 (by decide) rfl (fun c_39 => ?_) (fun c_39 => ?_)
        · refine go_iconst (q := 70) (v := 0) dX10_isConfused_69 (by decide) rfl ?_
          exact go_rz dX10_isConfused_70 rfl (by rw [show conf R a b = false from by simp [conf, c_39]]; rfl) rfl
        · refine go_iload_n (q := 43) dX10_isConfused_42 rfl rfl rfl ?_
          refine go_if_ne (q := 46) (t := 69) dX10_isConfused_43 (by decide) rfl (fun z => absurd z (fun w => w rfl)) (fun _ => ?_)
          refine go_aload_n (q := 47) dX10_isConfused_46 rfl rfl rfl ?_
          refine go_iload_n (q := 48) dX10_isConfused_47 rfl rfl rfl ?_
          refine go_iconst (q := 49) (v := 0) dX10_isConfused_48 (by decide) rfl ?_
          refine go_cV2 (cal := mX10_of) (q := 52) dX10_isConfused_49 lRX10_45 vX10_of ⟨by decide, by decide⟩ rfl (by decide) (Nat.le_of_ble_eq_true rfl) (ok_mof (w := 0) (hZ.lt ha) (by decide)) rfl ?_
          refine go_topi (hZ.sh ha) ?_
          refine go_aload_n (q := 53) dX10_isConfused_52 rfl rfl rfl ?_
          refine go_iload_n (q := 54) dX10_isConfused_53 rfl rfl rfl ?_
          refine go_iconst (q := 55) (v := 0) dX10_isConfused_54 (by decide) rfl ?_
          refine go_cV2 (cal := mX10_of) (q := 58) dX10_isConfused_55 lRX10_45 vX10_of ⟨by decide, by decide⟩ rfl (by decide) (Nat.le_of_ble_eq_true rfl) (ok_mof (w := 0) (hZ.lt hb) (by decide)) rfl ?_
          refine go_topi (hZ.sh hb) ?_
          refine go_cS2 (cal := mX10_far) (q := 61) dX10_isConfused_58 lRX10_137 vX10_far ⟨by decide, by decide⟩ (Nat.le_of_ble_eq_true rfl) (ok_mfar (by have := hW.2.1 a ha; omega) (by have := hW.2.1 b hb; omega)) rfl ?_
          refine go_iconst (q := 62) (v := 1) dX10_isConfused_61 (by decide) rfl ?_
          refine go_icmp_neN (ap (rS R a) (rS R b)) 1 (q := 65) (t := 69) dX10_isConfused_62 (by decide) rfl rfl rfl (by have := ap_le (rS R a) (rS R b); omega) (by omega) (fun c_62 => ?_) (fun c_62 => ?_)
          · refine go_iconst (q := 70) (v := 0) dX10_isConfused_69 (by decide) rfl ?_
            exact go_rz dX10_isConfused_70 rfl (by rw [show conf R a b = false from by simp [conf, c_62]]; rfl) rfl
          · refine go_iconst (q := 66) (v := 1) dX10_isConfused_65 (by decide) rfl ?_
            refine go_goto (q := 70) dX10_isConfused_66 (by decide) ?_
            exact go_rz dX10_isConfused_70 rfl (by have n1 : ¬ rP R a = some b := fun z => c_7 ((e4_nI (rP_big hW ha) (hZ.b hb)).mpr z); have n2 : ¬ rP R b = some a := fun z => c_17 ((e4_nI (rP_big hW hb) (hZ.b ha)).mpr z); rw [show conf R a b = true from by simp [conf, c_31, c_39, n1, n2, c_62]]; rfl) rfl
    · refine go_iconst (q := 21) (v := 1) dX10_isConfused_20 (by decide) rfl ?_
      refine go_goto (q := 25) dX10_isConfused_21 (by decide) ?_
      refine go_istore_n (q := 26) dX10_isConfused_25 rfl (by decide) rfl rfl ?_
      refine go_aload_n (q := 27) dX10_isConfused_26 rfl rfl rfl ?_
      refine go_iload_n (q := 28) dX10_isConfused_27 rfl rfl rfl ?_
      refine go_cV1 (cal := mX10_lives) (q := 31) dX10_isConfused_28 lRX10_56 vX10_lives ⟨by decide, by decide⟩ rfl (by decide) (Nat.le_of_ble_eq_true rfl) (ok_mlives hZ ha) rfl ?_
      refine go_if_eqB (q := 34) (t := 69) dX10_isConfused_31 (by decide) rfl (fun c_31 => ?_) (fun c_31 => ?_)
      · refine go_iconst (q := 70) (v := 0) dX10_isConfused_69 (by decide) rfl ?_
        exact go_rz dX10_isConfused_70 rfl (by rw [show conf R a b = false from by simp [conf, c_31]]; rfl) rfl
      · refine go_aload_n (q := 35) dX10_isConfused_34 rfl rfl rfl ?_
        refine go_iload_n (q := 36) dX10_isConfused_35 rfl rfl rfl ?_
        refine go_cV1 (cal := mX10_lives) (q := 39) dX10_isConfused_36 lRX10_56 vX10_lives ⟨by decide, by decide⟩ rfl (by decide) (Nat.le_of_ble_eq_true rfl) (ok_mlives hZ hb) rfl ?_
        refine go_if_eqB (q := 42) (t := 69) dX10_isConfused_39 (by decide) rfl (fun c_39 => ?_) (fun c_39 => ?_)
        · refine go_iconst (q := 70) (v := 0) dX10_isConfused_69 (by decide) rfl ?_
          exact go_rz dX10_isConfused_70 rfl (by rw [show conf R a b = false from by simp [conf, c_39]]; rfl) rfl
        · refine go_iload_n (q := 43) dX10_isConfused_42 rfl rfl rfl ?_
          refine go_if_ne (q := 46) (t := 69) dX10_isConfused_43 (by decide) rfl (fun _ => ?_) (fun z => absurd (by decide) z)
          refine go_iconst (q := 70) (v := 0) dX10_isConfused_69 (by decide) rfl ?_
          exact go_rz dX10_isConfused_70 rfl (by rw [show conf R a b = false from by simp [conf, (e4_nI (rP_big hW hb) (hZ.b ha)).mp (Classical.not_not.mp c_17)]]; rfl) rfl
theorem lp_mconfIn {M : KM} {R : RO} (hZ : ZA M R) (hW : rW R) {a : Nat} (ha : a < rN R) (hout : ∀ (x : Int32), x = nI (psum (fun a b => bN (conf R a b)) (rN R) (a + 1)) → Go mX10_confused (Zm (QF (some (vI (nI (confN R)))) M)) M [some (vR 14 0), some (vI x), some (vI (nI (a + 1))), none] [] 4) : ∀ (d : Nat) (j : Nat) (x y : Int32), rN R - j < d → (x = nI (psum (fun a b => bN (conf R a b)) (rN R) a + prow (fun a b => bN (conf R a b)) a j)) → (y = nI j) → (a < j) → (j ≤ rN R) → Go mX10_confused (Zm (QF (some (vI (nI (confN R)))) M)) M [some (vR 14 0), some (vI x), some (vI (nI a)), some (vI y)] [] 18 := by
  intro d
  induction d with
  | zero => intro j x y hd; exact absurd hd (Nat.not_lt_zero _)
  | succ d ih =>
    intro j x y hd h0 h1 h2 h3
    refine go_iload_n (q := 19) dX10_confused_18 rfl rfl rfl ?_
    refine go_aload_n (q := 20) dX10_confused_19 rfl rfl rfl ?_
    refine go_getf (q := 23) dX10_confused_20 fRX10_7 rfl (by decide) rfl rfl ?_
    refine go_iconst (q := 24) (v := 0) dX10_confused_23 (by decide) rfl ?_
    refine go_iald (q := 25) 0 dX10_confused_24 rfl rfl (by decide) rfl (by decide) rfl ?_
    refine go_icmp_geN j (rN R) (q := 28) (t := 51) dX10_confused_25 (by decide) rfl h1 (hZ.sz) (by have := hZ.le; omega) (by have := hZ.le; omega) (fun c_25 => ?_) (fun c_25 => ?_)
    · refine go_iinc (q := 54) (v := 1) dX10_confused_51 (by decide) rfl (by decide) rfl rfl ?_
      refine go_goto (q := 4) dX10_confused_54 (by decide) ?_
      refine go_weak (l1 := [some (vR 14 0), some (vI x), some (vI (nI (a + 1))), none]) (by rw [← nI_1]; exact k_le_s (k_le_s (k_le_s (k_le_n k_le_nil)))) (hout x (by rw [h0, psum_s, show j = rN R by omega]))
    · subst h1
      refine go_iload_n (q := 29) dX10_confused_28 rfl rfl rfl ?_
      refine go_aload_n (q := 30) dX10_confused_29 rfl rfl rfl ?_
      refine go_iload_n (q := 31) dX10_confused_30 rfl rfl rfl ?_
      refine go_iload_n (q := 32) dX10_confused_31 rfl rfl rfl ?_
      refine go_cV2 (cal := mX10_isConfused) (q := 35) dX10_confused_32 lRX10_207 vX10_isConfused ⟨by decide, by decide⟩ rfl (by decide) (Nat.le_of_ble_eq_true rfl) (ok_misConfused hZ hW ha c_25) rfl ?_
      refine go_if_eqB (q := 38) (t := 42) dX10_confused_35 (by decide) rfl (fun c_35 => ?_) (fun c_35 => ?_)
      · refine go_iconst (q := 43) (v := 0) dX10_confused_42 (by decide) rfl ?_
        refine go_iadd (q := 44) dX10_confused_43 rfl ?_
        refine go_istore_n (q := 45) dX10_confused_44 rfl (by decide) rfl rfl ?_
        refine go_iinc (q := 48) (v := 1) dX10_confused_45 (by decide) rfl (by decide) rfl rfl ?_
        refine go_goto (q := 18) dX10_confused_48 (by decide) ?_
        exact ih (j + 1) _ _ (by omega) (by rw [h0, prow_s h2, c_35]; exact Int32.add_zero _) (nI_1 j) (by omega) (by omega)
      · refine go_iconst (q := 39) (v := 1) dX10_confused_38 (by decide) rfl ?_
        refine go_goto (q := 43) dX10_confused_39 (by decide) ?_
        refine go_iadd (q := 44) dX10_confused_43 rfl ?_
        refine go_istore_n (q := 45) dX10_confused_44 rfl (by decide) rfl rfl ?_
        refine go_iinc (q := 48) (v := 1) dX10_confused_45 (by decide) rfl (by decide) rfl rfl ?_
        refine go_goto (q := 18) dX10_confused_48 (by decide) ?_
        exact ih (j + 1) _ _ (by omega) (by rw [h0, prow_s h2, c_35]; exact nI_1 _) (nI_1 j) (by omega) (by omega)
theorem lp_mconf {M : KM} {R : RO} (hZ : ZA M R) (hW : rW R) : ∀ (d : Nat) (a : Nat) (x y : Int32), rN R - a < d → (x = nI (psum (fun a b => bN (conf R a b)) (rN R) a)) → (y = nI a) → (a ≤ rN R) → Go mX10_confused (Zm (QF (some (vI (nI (confN R)))) M)) M [some (vR 14 0), some (vI x), some (vI y), none] [] 4 := by
  intro d
  induction d with
  | zero => intro a x y hd; exact absurd hd (Nat.not_lt_zero _)
  | succ d ih =>
    intro a x y hd h0 h1 h2
    refine go_iload_n (q := 5) dX10_confused_4 rfl rfl rfl ?_
    refine go_aload_n (q := 6) dX10_confused_5 rfl rfl rfl ?_
    refine go_getf (q := 9) dX10_confused_6 fRX10_7 rfl (by decide) rfl rfl ?_
    refine go_iconst (q := 10) (v := 0) dX10_confused_9 (by decide) rfl ?_
    refine go_iald (q := 11) 0 dX10_confused_10 rfl rfl (by decide) rfl (by decide) rfl ?_
    refine go_icmp_geN a (rN R) (q := 14) (t := 57) dX10_confused_11 (by decide) rfl h1 (hZ.sz) (by have := hZ.le; omega) (by have := hZ.le; omega) (fun c_11 => ?_) (fun c_11 => ?_)
    · refine go_iload_n (q := 58) dX10_confused_57 rfl rfl rfl ?_
      exact go_ri dX10_confused_58 rfl (by rw [h0, show a = rN R by omega]; rfl) rfl
    · subst h1
      refine go_iload_n (q := 15) dX10_confused_14 rfl rfl rfl ?_
      refine go_iconst (q := 16) (v := 1) dX10_confused_15 (by decide) rfl ?_
      refine go_iadd (q := 17) dX10_confused_16 rfl ?_
      refine go_topi (nI_1 a) ?_
      refine go_istore_n (q := 18) dX10_confused_17 rfl (by decide) rfl rfl ?_
      exact lp_mconfIn hZ hW c_11 (fun x hx => ih (a + 1) x _ (by omega) hx rfl (by omega)) (rN R + 1) (a + 1) _ _ (by omega) (by rw [h0, prow_0 (Nat.le_refl _)]; rfl) rfl (by omega) (by omega)
theorem ok_mconfused {M : KM} {R : RO} (hZ : ZA M R) (hW : rW R) : OkF mX10_confused [vR 14 0] M (some (vI (nI (confN R)))) M := by
  refine ok_of (by decide) rfl (Nat.le_of_ble_eq_true rfl) ⟨rfl, rfl⟩ ?_
  show Go mX10_confused (Zm (QF (some (vI (nI (confN R)))) M)) M [some (vR 14 0), none, none, none] [] 0
  refine go_iconst (q := 1) (v := 0) dX10_confused_0 (by decide) rfl ?_
  refine go_istore_n (q := 2) dX10_confused_1 rfl (by decide) rfl rfl ?_
  refine go_iconst (q := 3) (v := 0) dX10_confused_2 (by decide) rfl ?_
  refine go_istore_n (q := 4) dX10_confused_3 rfl (by decide) rfl rfl ?_
  exact lp_mconf hZ hW (rN R + 1) 0 _ _ (by omega) rfl rfl (by omega)
theorem lp_mfounders {M : KM} {R : RO} (hZ : ZA M R) (hW : rW R) : ∀ (d : Nat) (j : Nat) (x y : Int32), rN R - j < d → (x = nI (cn (fun i => rP R i == none) j)) → (y = nI j) → (j ≤ rN R) → Go mX10_founders (Zm (QF (some (vI (nI (cn (fun i => rP R i == none) (rN R))))) M)) M [some (vR 14 0), some (vI x), some (vI y)] [] 4 := by
  intro d
  induction d with
  | zero => intro j x y hd; exact absurd hd (Nat.not_lt_zero _)
  | succ d ih =>
    intro j x y hd h0 h1 h2
    refine go_iload_n (q := 5) dX10_founders_4 rfl rfl rfl ?_
    refine go_aload_n (q := 6) dX10_founders_5 rfl rfl rfl ?_
    refine go_getf (q := 9) dX10_founders_6 fRX10_7 rfl (by decide) rfl rfl ?_
    refine go_iconst (q := 10) (v := 0) dX10_founders_9 (by decide) rfl ?_
    refine go_iald (q := 11) 0 dX10_founders_10 rfl rfl (by decide) rfl (by decide) rfl ?_
    refine go_icmp_geN j (rN R) (q := 14) (t := 39) dX10_founders_11 (by decide) rfl h1 (hZ.sz) (by have := hZ.le; omega) (by have := hZ.le; omega) (fun c_11 => ?_) (fun c_11 => ?_)
    · refine go_iload_n (q := 40) dX10_founders_39 rfl rfl rfl ?_
      exact go_ri dX10_founders_40 rfl (by rw [h0, show j = rN R by omega]) rfl
    · subst h1
      refine go_iload_n (q := 15) dX10_founders_14 rfl rfl rfl ?_
      refine go_aload_n (q := 16) dX10_founders_15 rfl rfl rfl ?_
      refine go_iload_n (q := 17) dX10_founders_16 rfl rfl rfl ?_
      refine go_iconst (q := 18) (v := 2) dX10_founders_17 (by decide) rfl ?_
      refine go_cV2 (cal := mX10_of) (q := 21) dX10_founders_18 lRX10_45 vX10_of ⟨by decide, by decide⟩ rfl (by decide) (Nat.le_of_ble_eq_true rfl) (ok_mof (w := 2) (hZ.lt c_11) (by decide)) rfl ?_
      refine go_topi (hZ.fa c_11) ?_
      refine go_bipush (q := 23) (v := (-4)) dX10_founders_21 (by decide) rfl ?_
      refine go_icmp_ne (q := 26) (t := 30) dX10_founders_23 (by decide) rfl (fun c_23 => ?_) (fun c_23 => ?_)
      · refine go_iconst (q := 31) (v := 0) dX10_founders_30 (by decide) rfl ?_
        refine go_iadd (q := 32) dX10_founders_31 rfl ?_
        refine go_istore_n (q := 33) dX10_founders_32 rfl (by decide) rfl rfl ?_
        refine go_iinc (q := 36) (v := 1) dX10_founders_33 (by decide) rfl (by decide) rfl rfl ?_
        refine go_goto (q := 4) dX10_founders_36 (by decide) ?_
        exact ih (j + 1) _ _ (by omega) (by rw [h0, cn_f (by rw [beq_eq_false_iff_ne]; exact fun z => c_23 ((e4_eq (rP_big hW c_11)).mpr z))]; exact Int32.add_zero _) (nI_1 j) (by omega)
      · refine go_iconst (q := 27) (v := 1) dX10_founders_26 (by decide) rfl ?_
        refine go_goto (q := 31) dX10_founders_27 (by decide) ?_
        refine go_iadd (q := 32) dX10_founders_31 rfl ?_
        refine go_istore_n (q := 33) dX10_founders_32 rfl (by decide) rfl rfl ?_
        refine go_iinc (q := 36) (v := 1) dX10_founders_33 (by decide) rfl (by decide) rfl rfl ?_
        refine go_goto (q := 4) dX10_founders_36 (by decide) ?_
        exact ih (j + 1) _ _ (by omega) (by rw [h0, cn_t (by simpa using (e4_eq (rP_big hW c_11)).mp (Classical.not_not.mp c_23)), nI_1]) (nI_1 j) (by omega)
theorem ok_mfounders {M : KM} {R : RO} (hZ : ZA M R) (hW : rW R) : OkF mX10_founders [vR 14 0] M (some (vI (nI (cn (fun i => rP R i == none) (rN R))))) M := by
  refine ok_of (by decide) rfl (Nat.le_of_ble_eq_true rfl) ⟨rfl, rfl⟩ ?_
  show Go mX10_founders (Zm (QF (some (vI (nI (cn (fun i => rP R i == none) (rN R))))) M)) M [some (vR 14 0), none, none] [] 0
  refine go_iconst (q := 1) (v := 0) dX10_founders_0 (by decide) rfl ?_
  refine go_istore_n (q := 2) dX10_founders_1 rfl (by decide) rfl rfl ?_
  refine go_iconst (q := 3) (v := 0) dX10_founders_2 (by decide) rfl ?_
  refine go_istore_n (q := 4) dX10_founders_3 rfl (by decide) rfl rfl ?_
  exact lp_mfounders hZ hW (rN R + 1) 0 _ _ (by omega) rfl rfl (by omega)
theorem lp_mdeepest {M : KM} {R : RO} (hZ : ZA M R) (hW : rW R) : ∀ (d : Nat) (j : Nat) (x y : Int32), rN R - j < d → (x = nI (mx (depth R) j)) → (y = nI j) → (j ≤ rN R) → Go mX10_deepest (Zm (QF (some (vI (nI (mx (depth R) (rN R))))) M)) M [some (vR 14 0), some (vI x), some (vI y)] [] 4 := by
  intro d
  induction d with
  | zero => intro j x y hd; exact absurd hd (Nat.not_lt_zero _)
  | succ d ih =>
    intro j x y hd h0 h1 h2
    refine go_iload_n (q := 5) dX10_deepest_4 rfl rfl rfl ?_
    refine go_aload_n (q := 6) dX10_deepest_5 rfl rfl rfl ?_
    refine go_getf (q := 9) dX10_deepest_6 fRX10_7 rfl (by decide) rfl rfl ?_
    refine go_iconst (q := 10) (v := 0) dX10_deepest_9 (by decide) rfl ?_
    refine go_iald (q := 11) 0 dX10_deepest_10 rfl rfl (by decide) rfl (by decide) rfl ?_
    refine go_icmp_geN j (rN R) (q := 14) (t := 39) dX10_deepest_11 (by decide) rfl h1 (hZ.sz) (by have := hZ.le; omega) (by have := hZ.le; omega) (fun c_11 => ?_) (fun c_11 => ?_)
    · refine go_iload_n (q := 40) dX10_deepest_39 rfl rfl rfl ?_
      exact go_ri dX10_deepest_40 rfl (by rw [h0, show j = rN R by omega]) rfl
    · subst h1
      refine go_aload_n (q := 15) dX10_deepest_14 rfl rfl rfl ?_
      refine go_iload_n (q := 16) dX10_deepest_15 rfl rfl rfl ?_
      refine go_cV1 (cal := mX10_depth) (q := 19) dX10_deepest_16 lRX10_192 vX10_depth ⟨by decide, by decide⟩ rfl (by decide) (Nat.le_of_ble_eq_true rfl) (ok_mdepth hZ hW c_11) rfl ?_
      refine go_iload_n (q := 20) dX10_deepest_19 rfl rfl rfl ?_
      refine go_icmp_leN (depth R j) (mx (depth R) j) (q := 23) (t := 31) dX10_deepest_20 (by decide) rfl rfl h0 (by have := depth_lt hW c_11; omega) (by have := mx_le (F := depth R) (b := 20) (n := j) (fun i hi => by have := depth_lt hW (show i < rN R by omega); omega); omega) (fun c_20 => ?_) (fun c_20 => ?_)
      · refine go_iload_n (q := 32) dX10_deepest_31 rfl rfl rfl ?_
        refine go_istore_n (q := 33) dX10_deepest_32 rfl (by decide) rfl rfl ?_
        refine go_iinc (q := 36) (v := 1) dX10_deepest_33 (by decide) rfl (by decide) rfl rfl ?_
        refine go_goto (q := 4) dX10_deepest_36 (by decide) ?_
        exact ih (j + 1) _ _ (by omega) (by rw [h0, show mx (depth R) (j + 1) = mx (depth R) j from if_neg (by omega)]) (nI_1 j) (by omega)
      · refine go_aload_n (q := 24) dX10_deepest_23 rfl rfl rfl ?_
        refine go_iload_n (q := 25) dX10_deepest_24 rfl rfl rfl ?_
        refine go_cV1 (cal := mX10_depth) (q := 28) dX10_deepest_25 lRX10_192 vX10_depth ⟨by decide, by decide⟩ rfl (by decide) (Nat.le_of_ble_eq_true rfl) (ok_mdepth hZ hW c_11) rfl ?_
        refine go_goto (q := 32) dX10_deepest_28 (by decide) ?_
        refine go_istore_n (q := 33) dX10_deepest_32 rfl (by decide) rfl rfl ?_
        refine go_iinc (q := 36) (v := 1) dX10_deepest_33 (by decide) rfl (by decide) rfl rfl ?_
        refine go_goto (q := 4) dX10_deepest_36 (by decide) ?_
        exact ih (j + 1) _ _ (by omega) (by rw [show mx (depth R) (j + 1) = depth R j from if_pos c_20]) (nI_1 j) (by omega)
theorem ok_mdeepest {M : KM} {R : RO} (hZ : ZA M R) (hW : rW R) : OkF mX10_deepest [vR 14 0] M (some (vI (nI (mx (depth R) (rN R))))) M := by
  refine ok_of (by decide) rfl (Nat.le_of_ble_eq_true rfl) ⟨rfl, rfl⟩ ?_
  show Go mX10_deepest (Zm (QF (some (vI (nI (mx (depth R) (rN R))))) M)) M [some (vR 14 0), none, none] [] 0
  refine go_iconst (q := 1) (v := 0) dX10_deepest_0 (by decide) rfl ?_
  refine go_istore_n (q := 2) dX10_deepest_1 rfl (by decide) rfl rfl ?_
  refine go_iconst (q := 3) (v := 0) dX10_deepest_2 (by decide) rfl ?_
  refine go_istore_n (q := 4) dX10_deepest_3 rfl (by decide) rfl rfl ?_
  exact lp_mdeepest hZ hW (rN R + 1) 0 _ _ (by omega) rfl rfl (by omega)
theorem lp_mdiffIn {M : KM} {R : RO} (hZ : ZA M R) (hW : rW R) {p : Nat} (hp : p < rN R) {x : Int32} (hx : x = nI (cn (newS R) p)) (hout : ∀ (x : Int32), x = nI (cn (newS R) (p + 1)) → Go mX10_differentShields (Zm (QF (some (vI (nI (cn (newS R) (rN R))))) M)) M [some (vR 14 0), some (vI x), some (vI (nI (p + 1))), none, none] [] 4) : ∀ (d : Nat) (j : Nat) (b : Bool) (y : Int32), p - j < d → (b = !(ex (fun a => rS R a == rS R p) j)) → (y = nI j) → (j ≤ p) → Go mX10_differentShields (Zm (QF (some (vI (nI (cn (newS R) (rN R))))) M)) M [some (vR 14 0), some (vI x), some (vI (nI p)), some (vI (bI b)), some (vI y)] [] 19 := by
  intro d
  induction d with
  | zero => intro j b y hd; exact absurd hd (Nat.not_lt_zero _)
  | succ d ih =>
    intro j b y hd h0 h1 h2
    refine go_iload (q := 21) dX10_differentShields_19 rfl rfl ?_
    refine go_iload_n (q := 22) dX10_differentShields_21 rfl rfl rfl ?_
    refine go_icmp_geN j p (q := 25) (t := 57) dX10_differentShields_22 (by decide) rfl h1 rfl (by have := hZ.lt hp; omega) (hZ.b hp) (fun c_22 => ?_) (fun c_22 => ?_)
    · have hn : newS R p = b := by rw [h0, show j = p by omega]; rfl
      refine go_iload_n (q := 58) dX10_differentShields_57 rfl rfl rfl ?_
      refine go_iload_n (q := 59) dX10_differentShields_58 rfl rfl rfl ?_
      refine go_if_eqB (q := 62) (t := 66) dX10_differentShields_59 (by decide) rfl (fun c_59 => ?_) (fun c_59 => ?_)
      · refine go_iconst (q := 67) (v := 0) dX10_differentShields_66 (by decide) rfl ?_
        refine go_iadd (q := 68) dX10_differentShields_67 rfl ?_
        refine go_istore_n (q := 69) dX10_differentShields_68 rfl (by decide) rfl rfl ?_
        refine go_iinc (q := 72) (v := 1) dX10_differentShields_69 (by decide) rfl (by decide) rfl rfl ?_
        refine go_goto (q := 4) dX10_differentShields_72 (by decide) ?_
        refine go_weak (l1 := [some (vR 14 0), some (vI _), some (vI (nI (p + 1))), none, none]) (by rw [← nI_1]; exact k_le_s (k_le_s (k_le_s (k_le_n (k_le_n k_le_nil))))) (hout _ (by rw [hx, cn_f (hn.trans c_59)]; exact Int32.add_zero _))
      · refine go_iconst (q := 63) (v := 1) dX10_differentShields_62 (by decide) rfl ?_
        refine go_goto (q := 67) dX10_differentShields_63 (by decide) ?_
        refine go_iadd (q := 68) dX10_differentShields_67 rfl ?_
        refine go_istore_n (q := 69) dX10_differentShields_68 rfl (by decide) rfl rfl ?_
        refine go_iinc (q := 72) (v := 1) dX10_differentShields_69 (by decide) rfl (by decide) rfl rfl ?_
        refine go_goto (q := 4) dX10_differentShields_72 (by decide) ?_
        refine go_weak (l1 := [some (vR 14 0), some (vI _), some (vI (nI (p + 1))), none, none]) (by rw [← nI_1]; exact k_le_s (k_le_s (k_le_s (k_le_n (k_le_n k_le_nil))))) (hout _ (by rw [hx, cn_t (hn.trans c_59), nI_1]))
    · subst h1
      refine go_iload_n (q := 26) dX10_differentShields_25 rfl rfl rfl ?_
      refine go_if_eqB (q := 29) (t := 49) dX10_differentShields_26 (by decide) rfl (fun c_26 => ?_) (fun c_26 => ?_)
      · refine go_iconst (q := 50) (v := 0) dX10_differentShields_49 (by decide) rfl ?_
        refine go_istore_n (q := 51) dX10_differentShields_50 rfl (by decide) rfl rfl ?_
        refine go_iinc (q := 54) (v := 1) dX10_differentShields_51 (by decide) rfl (by decide) rfl rfl ?_
        refine go_goto (q := 19) dX10_differentShields_54 (by decide) ?_
        exact ih (j + 1) false _ (by omega) (by
          have h9 : ex (fun a => rS R a == rS R p) j = true := by revert h0; rw [c_26]; cases ex (fun a => rS R a == rS R p) j <;> simp
          show false = !(ex (fun a => rS R a == rS R p) j || _); rw [h9]; rfl) (nI_1 j) (by omega)
      · refine go_aload_n (q := 30) dX10_differentShields_29 rfl rfl rfl ?_
        refine go_iload (q := 32) dX10_differentShields_30 rfl rfl ?_
        refine go_iconst (q := 33) (v := 0) dX10_differentShields_32 (by decide) rfl ?_
        refine go_cV2 (cal := mX10_of) (q := 36) dX10_differentShields_33 lRX10_45 vX10_of ⟨by decide, by decide⟩ rfl (by decide) (Nat.le_of_ble_eq_true rfl) (ok_mof (w := 0) (hZ.lt (Nat.lt_trans c_22 hp)) (by decide)) rfl ?_
        refine go_topi (hZ.sh (Nat.lt_trans c_22 hp)) ?_
        refine go_aload_n (q := 37) dX10_differentShields_36 rfl rfl rfl ?_
        refine go_iload_n (q := 38) dX10_differentShields_37 rfl rfl rfl ?_
        refine go_iconst (q := 39) (v := 0) dX10_differentShields_38 (by decide) rfl ?_
        refine go_cV2 (cal := mX10_of) (q := 42) dX10_differentShields_39 lRX10_45 vX10_of ⟨by decide, by decide⟩ rfl (by decide) (Nat.le_of_ble_eq_true rfl) (ok_mof (w := 0) (hZ.lt hp) (by decide)) rfl ?_
        refine go_topi (hZ.sh hp) ?_
        refine go_icmp_eqN (rS R j) (rS R p) (q := 45) (t := 49) dX10_differentShields_42 (by decide) rfl rfl rfl (by have := hW.2.1 j (Nat.lt_trans c_22 hp); omega) (by have := hW.2.1 p hp; omega) (fun c_42 => ?_) (fun c_42 => ?_)
        · refine go_iconst (q := 50) (v := 0) dX10_differentShields_49 (by decide) rfl ?_
          refine go_istore_n (q := 51) dX10_differentShields_50 rfl (by decide) rfl rfl ?_
          refine go_iinc (q := 54) (v := 1) dX10_differentShields_51 (by decide) rfl (by decide) rfl rfl ?_
          refine go_goto (q := 19) dX10_differentShields_54 (by decide) ?_
          exact ih (j + 1) false _ (by omega) (by
            show false = !(ex (fun a => rS R a == rS R p) j || (rS R j == rS R p)); rw [c_42]; simp) (nI_1 j) (by omega)
        · refine go_iconst (q := 46) (v := 1) dX10_differentShields_45 (by decide) rfl ?_
          refine go_goto (q := 50) dX10_differentShields_46 (by decide) ?_
          refine go_istore_n (q := 51) dX10_differentShields_50 rfl (by decide) rfl rfl ?_
          refine go_iinc (q := 54) (v := 1) dX10_differentShields_51 (by decide) rfl (by decide) rfl rfl ?_
          refine go_goto (q := 19) dX10_differentShields_54 (by decide) ?_
          exact ih (j + 1) true _ (by omega) (by
            have h9 : ex (fun a => rS R a == rS R p) j = false := by revert h0; rw [c_26]; cases ex (fun a => rS R a == rS R p) j <;> simp
            show true = !(ex (fun a => rS R a == rS R p) j || (rS R j == rS R p)); rw [h9]; simp [c_42]) (nI_1 j) (by omega)
theorem lp_mdiff {M : KM} {R : RO} (hZ : ZA M R) (hW : rW R) : ∀ (d : Nat) (p : Nat) (x y : Int32), rN R - p < d → (x = nI (cn (newS R) p)) → (y = nI p) → (p ≤ rN R) → Go mX10_differentShields (Zm (QF (some (vI (nI (cn (newS R) (rN R))))) M)) M [some (vR 14 0), some (vI x), some (vI y), none, none] [] 4 := by
  intro d
  induction d with
  | zero => intro p x y hd; exact absurd hd (Nat.not_lt_zero _)
  | succ d ih =>
    intro p x y hd h0 h1 h2
    refine go_iload_n (q := 5) dX10_differentShields_4 rfl rfl rfl ?_
    refine go_aload_n (q := 6) dX10_differentShields_5 rfl rfl rfl ?_
    refine go_getf (q := 9) dX10_differentShields_6 fRX10_7 rfl (by decide) rfl rfl ?_
    refine go_iconst (q := 10) (v := 0) dX10_differentShields_9 (by decide) rfl ?_
    refine go_iald (q := 11) 0 dX10_differentShields_10 rfl rfl (by decide) rfl (by decide) rfl ?_
    refine go_icmp_geN p (rN R) (q := 14) (t := 75) dX10_differentShields_11 (by decide) rfl h1 (hZ.sz) (by have := hZ.le; omega) (by have := hZ.le; omega) (fun c_11 => ?_) (fun c_11 => ?_)
    · refine go_iload_n (q := 76) dX10_differentShields_75 rfl rfl rfl ?_
      exact go_ri dX10_differentShields_76 rfl (by rw [h0, show p = rN R by omega]) rfl
    · subst h1
      refine go_iconst (q := 15) (v := 1) dX10_differentShields_14 (by decide) rfl ?_
      refine go_istore_n (q := 16) dX10_differentShields_15 rfl (by decide) rfl rfl ?_
      refine go_iconst (q := 17) (v := 0) dX10_differentShields_16 (by decide) rfl ?_
      refine go_istore (q := 19) dX10_differentShields_17 (by decide) rfl rfl ?_
      exact lp_mdiffIn hZ hW c_11 h0 (fun x hx => ih (p + 1) x _ (by omega) hx rfl (by omega)) (p + 1) 0 true _ (by omega) rfl rfl (by omega)
theorem ok_mdifferentShields {M : KM} {R : RO} (hZ : ZA M R) (hW : rW R) : OkF mX10_differentShields [vR 14 0] M (some (vI (nI (cn (newS R) (rN R))))) M := by
  refine ok_of (by decide) rfl (Nat.le_of_ble_eq_true rfl) ⟨rfl, rfl⟩ ?_
  show Go mX10_differentShields (Zm (QF (some (vI (nI (cn (newS R) (rN R))))) M)) M [some (vR 14 0), none, none, none, none] [] 0
  refine go_iconst (q := 1) (v := 0) dX10_differentShields_0 (by decide) rfl ?_
  refine go_istore_n (q := 2) dX10_differentShields_1 rfl (by decide) rfl rfl ?_
  refine go_iconst (q := 3) (v := 0) dX10_differentShields_2 (by decide) rfl ?_
  refine go_istore_n (q := 4) dX10_differentShields_3 rfl (by decide) rfl rfl ?_
  exact lp_mdiff hZ hW (rN R + 1) 0 _ _ (by omega) rfl rfl (by omega)
theorem lp_mlivingBy6 {M : KM} {R : RO} (hZ : ZA M R) (hW : rW R) : ∀ (d : Nat) (j : Nat) (x y : Int32), rN R - j < d → (x = nI (cn (fun i => rL R i && (match pF R i with | some k => decide (1 < k) | none => false)) j)) → (y = nI j) → (j ≤ rN R) → Go mX10_livingBy (Zm (QF (some (vI (nI (cn (fun i => rL R i && (match pF R i with | some k => decide (1 < k) | none => false)) (rN R))))) M)) M [some (vR 14 0), some (vI (nI 6)), some (vI x), some (vI y), none] [] 4 := by
  intro d
  induction d with
  | zero => intro j x y hd; exact absurd hd (Nat.not_lt_zero _)
  | succ d ih =>
    intro j x y hd h0 h1 h2
    refine go_iload_n (q := 5) dX10_livingBy_4 rfl rfl rfl ?_
    refine go_aload_n (q := 6) dX10_livingBy_5 rfl rfl rfl ?_
    refine go_getf (q := 9) dX10_livingBy_6 fRX10_7 rfl (by decide) rfl rfl ?_
    refine go_iconst (q := 10) (v := 0) dX10_livingBy_9 (by decide) rfl ?_
    refine go_iald (q := 11) 0 dX10_livingBy_10 rfl rfl (by decide) rfl (by decide) rfl ?_
    refine go_icmp_geN j (rN R) (q := 14) (t := 80) dX10_livingBy_11 (by decide) rfl h1 (hZ.sz) (by have := hZ.le; omega) (by have := hZ.le; omega) (fun c_11 => ?_) (fun c_11 => ?_)
    · refine go_iload_n (q := 81) dX10_livingBy_80 rfl rfl rfl ?_
      exact go_ri dX10_livingBy_81 rfl (by rw [h0, show j = rN R by omega]) rfl
    · subst h1
      refine go_iload_n (q := 15) dX10_livingBy_14 rfl rfl rfl ?_
      refine go_bipush (q := 17) (v := 6) dX10_livingBy_15 (by decide) rfl ?_
      refine go_icmp_ne (q := 20) (t := 37) dX10_livingBy_17 (by decide) rfl (fun z => absurd z (fun w => w rfl)) (fun _ => ?_)
      refine go_aload_n (q := 21) dX10_livingBy_20 rfl rfl rfl ?_
      refine go_iload_n (q := 22) dX10_livingBy_21 rfl rfl rfl ?_
      refine go_cV1 (cal := mX10_farFromFather) (q := 25) dX10_livingBy_22 lRX10_195 vX10_farFromFather ⟨by decide, by decide⟩ rfl (by decide) (Nat.le_of_ble_eq_true rfl) (ok_mfarFF hZ hW c_11) rfl ?_
      refine go_iconst (q := 26) (v := 1) dX10_livingBy_25 (by decide) rfl ?_
      refine go_icmp_le (q := 29) (t := 33) dX10_livingBy_26 (by decide) rfl (fun c_26 => ?_) (fun c_26 => ?_)
      · refine go_iconst (q := 34) (v := 0) dX10_livingBy_33 (by decide) rfl ?_
        refine go_goto (q := 51) dX10_livingBy_34 (by decide) ?_
        refine go_istore (q := 53) dX10_livingBy_51 (by decide) rfl rfl ?_
        refine go_iload_n (q := 54) dX10_livingBy_53 rfl rfl rfl ?_
        refine go_aload_n (q := 55) dX10_livingBy_54 rfl rfl rfl ?_
        refine go_iload_n (q := 56) dX10_livingBy_55 rfl rfl rfl ?_
        refine go_cV1 (cal := mX10_lives) (q := 59) dX10_livingBy_56 lRX10_56 vX10_lives ⟨by decide, by decide⟩ rfl (by decide) (Nat.le_of_ble_eq_true rfl) (ok_mlives hZ c_11) rfl ?_
        refine go_if_eqB (q := 62) (t := 71) dX10_livingBy_59 (by decide) rfl (fun c_59 => ?_) (fun c_59 => ?_)
        · refine go_iconst (q := 72) (v := 0) dX10_livingBy_71 (by decide) rfl ?_
          refine go_iadd (q := 73) dX10_livingBy_72 rfl ?_
          refine go_istore_n (q := 74) dX10_livingBy_73 rfl (by decide) rfl rfl ?_
          refine go_iinc (q := 77) (v := 1) dX10_livingBy_74 (by decide) rfl (by decide) rfl rfl ?_
          refine go_goto (q := 4) dX10_livingBy_77 (by decide) ?_
          refine go_weak (l1 := [some (vR 14 0), some (vI _), some (vI _), some (vI _), none]) (k_le_s (k_le_s (k_le_s (k_le_s (k_le_n k_le_nil))))) ?_
          exact ih (j + 1) _ _ (by omega) (by rw [h0, cn_f (by rw [c_59]; rfl)]; exact Int32.add_zero _) (nI_1 j) (by omega)
        · refine go_iload (q := 64) dX10_livingBy_62 rfl rfl ?_
          refine go_if_eq (q := 67) (t := 71) dX10_livingBy_64 (by decide) rfl (fun _ => ?_) (fun z => absurd rfl z)
          refine go_iconst (q := 72) (v := 0) dX10_livingBy_71 (by decide) rfl ?_
          refine go_iadd (q := 73) dX10_livingBy_72 rfl ?_
          refine go_istore_n (q := 74) dX10_livingBy_73 rfl (by decide) rfl rfl ?_
          refine go_iinc (q := 77) (v := 1) dX10_livingBy_74 (by decide) rfl (by decide) rfl rfl ?_
          refine go_goto (q := 4) dX10_livingBy_77 (by decide) ?_
          refine go_weak (l1 := [some (vR 14 0), some (vI _), some (vI _), some (vI _), none]) (k_le_s (k_le_s (k_le_s (k_le_s (k_le_n k_le_nil))))) ?_
          exact ih (j + 1) _ _ (by omega) (by rw [h0, cn_f (by rw [c_59]; exact k_pf1F c_26)]; exact Int32.add_zero _) (nI_1 j) (by omega)
      · refine go_iconst (q := 30) (v := 1) dX10_livingBy_29 (by decide) rfl ?_
        refine go_goto (q := 51) dX10_livingBy_30 (by decide) ?_
        refine go_istore (q := 53) dX10_livingBy_51 (by decide) rfl rfl ?_
        refine go_iload_n (q := 54) dX10_livingBy_53 rfl rfl rfl ?_
        refine go_aload_n (q := 55) dX10_livingBy_54 rfl rfl rfl ?_
        refine go_iload_n (q := 56) dX10_livingBy_55 rfl rfl rfl ?_
        refine go_cV1 (cal := mX10_lives) (q := 59) dX10_livingBy_56 lRX10_56 vX10_lives ⟨by decide, by decide⟩ rfl (by decide) (Nat.le_of_ble_eq_true rfl) (ok_mlives hZ c_11) rfl ?_
        refine go_if_eqB (q := 62) (t := 71) dX10_livingBy_59 (by decide) rfl (fun c_59 => ?_) (fun c_59 => ?_)
        · refine go_iconst (q := 72) (v := 0) dX10_livingBy_71 (by decide) rfl ?_
          refine go_iadd (q := 73) dX10_livingBy_72 rfl ?_
          refine go_istore_n (q := 74) dX10_livingBy_73 rfl (by decide) rfl rfl ?_
          refine go_iinc (q := 77) (v := 1) dX10_livingBy_74 (by decide) rfl (by decide) rfl rfl ?_
          refine go_goto (q := 4) dX10_livingBy_77 (by decide) ?_
          refine go_weak (l1 := [some (vR 14 0), some (vI _), some (vI _), some (vI _), none]) (k_le_s (k_le_s (k_le_s (k_le_s (k_le_n k_le_nil))))) ?_
          exact ih (j + 1) _ _ (by omega) (by rw [h0, cn_f (by rw [c_59]; rfl)]; exact Int32.add_zero _) (nI_1 j) (by omega)
        · refine go_iload (q := 64) dX10_livingBy_62 rfl rfl ?_
          refine go_if_eq (q := 67) (t := 71) dX10_livingBy_64 (by decide) rfl (fun z => absurd z (by decide)) (fun _ => ?_)
          refine go_iconst (q := 68) (v := 1) dX10_livingBy_67 (by decide) rfl ?_
          refine go_goto (q := 72) dX10_livingBy_68 (by decide) ?_
          refine go_iadd (q := 73) dX10_livingBy_72 rfl ?_
          refine go_istore_n (q := 74) dX10_livingBy_73 rfl (by decide) rfl rfl ?_
          refine go_iinc (q := 77) (v := 1) dX10_livingBy_74 (by decide) rfl (by decide) rfl rfl ?_
          refine go_goto (q := 4) dX10_livingBy_77 (by decide) ?_
          refine go_weak (l1 := [some (vR 14 0), some (vI _), some (vI _), some (vI _), none]) (k_le_s (k_le_s (k_le_s (k_le_s (k_le_n k_le_nil))))) ?_
          exact ih (j + 1) _ _ (by omega) (by rw [h0, cn_t (by rw [c_59]; exact k_pf1T c_26), nI_1]) (nI_1 j) (by omega)
theorem ok_mlivingBy6 {M : KM} {R : RO} (hZ : ZA M R) (hW : rW R) : OkF mX10_livingBy [vR 14 0, vI (nI 6)] M (some (vI (nI (cn (fun i => rL R i && (match pF R i with | some k => decide (1 < k) | none => false)) (rN R))))) M := by
  refine ok_of (by decide) rfl (Nat.le_of_ble_eq_true rfl) ⟨rfl, rfl⟩ ?_
  show Go mX10_livingBy (Zm (QF (some (vI (nI (cn (fun i => rL R i && (match pF R i with | some k => decide (1 < k) | none => false)) (rN R))))) M)) M [some (vR 14 0), some (vI (nI 6)), none, none, none] [] 0
  refine go_iconst (q := 1) (v := 0) dX10_livingBy_0 (by decide) rfl ?_
  refine go_istore_n (q := 2) dX10_livingBy_1 rfl (by decide) rfl rfl ?_
  refine go_iconst (q := 3) (v := 0) dX10_livingBy_2 (by decide) rfl ?_
  refine go_istore_n (q := 4) dX10_livingBy_3 rfl (by decide) rfl rfl ?_
  exact lp_mlivingBy6 hZ hW (rN R + 1) 0 _ _ (by omega) rfl rfl (by omega)
theorem lp_mlivingBy7 {M : KM} {R : RO} (hZ : ZA M R) (hW : rW R) : ∀ (d : Nat) (j : Nat) (x y : Int32), rN R - j < d → (x = nI (cn (fun i => rL R i && sonsN R i == 0) j)) → (y = nI j) → (j ≤ rN R) → Go mX10_livingBy (Zm (QF (some (vI (nI (cn (fun i => rL R i && sonsN R i == 0) (rN R))))) M)) M [some (vR 14 0), some (vI (nI 7)), some (vI x), some (vI y), none] [] 4 := by
  intro d
  induction d with
  | zero => intro j x y hd; exact absurd hd (Nat.not_lt_zero _)
  | succ d ih =>
    intro j x y hd h0 h1 h2
    refine go_iload_n (q := 5) dX10_livingBy_4 rfl rfl rfl ?_
    refine go_aload_n (q := 6) dX10_livingBy_5 rfl rfl rfl ?_
    refine go_getf (q := 9) dX10_livingBy_6 fRX10_7 rfl (by decide) rfl rfl ?_
    refine go_iconst (q := 10) (v := 0) dX10_livingBy_9 (by decide) rfl ?_
    refine go_iald (q := 11) 0 dX10_livingBy_10 rfl rfl (by decide) rfl (by decide) rfl ?_
    refine go_icmp_geN j (rN R) (q := 14) (t := 80) dX10_livingBy_11 (by decide) rfl h1 (hZ.sz) (by have := hZ.le; omega) (by have := hZ.le; omega) (fun c_11 => ?_) (fun c_11 => ?_)
    · refine go_iload_n (q := 81) dX10_livingBy_80 rfl rfl rfl ?_
      exact go_ri dX10_livingBy_81 rfl (by rw [h0, show j = rN R by omega]) rfl
    · subst h1
      refine go_iload_n (q := 15) dX10_livingBy_14 rfl rfl rfl ?_
      refine go_bipush (q := 17) (v := 6) dX10_livingBy_15 (by decide) rfl ?_
      refine go_icmp_ne (q := 20) (t := 37) dX10_livingBy_17 (by decide) rfl (fun _ => ?_) (fun z => absurd (by decide) z)
      refine go_aload_n (q := 38) dX10_livingBy_37 rfl rfl rfl ?_
      refine go_iload_n (q := 39) dX10_livingBy_38 rfl rfl rfl ?_
      refine go_iconst (q := 40) (v := 0) dX10_livingBy_39 (by decide) rfl ?_
      refine go_cV2 (cal := mX10_sonsOf) (q := 43) dX10_livingBy_40 lRX10_112 vX10_sonsOf ⟨by decide, by decide⟩ rfl (by decide) (Nat.le_of_ble_eq_true rfl) (ok_msons0 hZ hW (hZ.b c_11)) rfl ?_
      refine go_if_neN (sonsN R j) (q := 46) (t := 50) dX10_livingBy_43 (by decide) rfl rfl (by have := sonsN_le hW j; omega) (fun c_43 => ?_) (fun c_43 => ?_)
      · refine go_iconst (q := 51) (v := 0) dX10_livingBy_50 (by decide) rfl ?_
        refine go_istore (q := 53) dX10_livingBy_51 (by decide) rfl rfl ?_
        refine go_iload_n (q := 54) dX10_livingBy_53 rfl rfl rfl ?_
        refine go_aload_n (q := 55) dX10_livingBy_54 rfl rfl rfl ?_
        refine go_iload_n (q := 56) dX10_livingBy_55 rfl rfl rfl ?_
        refine go_cV1 (cal := mX10_lives) (q := 59) dX10_livingBy_56 lRX10_56 vX10_lives ⟨by decide, by decide⟩ rfl (by decide) (Nat.le_of_ble_eq_true rfl) (ok_mlives hZ c_11) rfl ?_
        refine go_if_eqB (q := 62) (t := 71) dX10_livingBy_59 (by decide) rfl (fun c_59 => ?_) (fun c_59 => ?_)
        · refine go_iconst (q := 72) (v := 0) dX10_livingBy_71 (by decide) rfl ?_
          refine go_iadd (q := 73) dX10_livingBy_72 rfl ?_
          refine go_istore_n (q := 74) dX10_livingBy_73 rfl (by decide) rfl rfl ?_
          refine go_iinc (q := 77) (v := 1) dX10_livingBy_74 (by decide) rfl (by decide) rfl rfl ?_
          refine go_goto (q := 4) dX10_livingBy_77 (by decide) ?_
          refine go_weak (l1 := [some (vR 14 0), some (vI _), some (vI _), some (vI _), none]) (k_le_s (k_le_s (k_le_s (k_le_s (k_le_n k_le_nil))))) ?_
          exact ih (j + 1) _ _ (by omega) (by rw [h0, cn_f (by rw [c_59]; rfl)]; exact Int32.add_zero _) (nI_1 j) (by omega)
        · refine go_iload (q := 64) dX10_livingBy_62 rfl rfl ?_
          refine go_if_eq (q := 67) (t := 71) dX10_livingBy_64 (by decide) rfl (fun _ => ?_) (fun z => absurd rfl z)
          refine go_iconst (q := 72) (v := 0) dX10_livingBy_71 (by decide) rfl ?_
          refine go_iadd (q := 73) dX10_livingBy_72 rfl ?_
          refine go_istore_n (q := 74) dX10_livingBy_73 rfl (by decide) rfl rfl ?_
          refine go_iinc (q := 77) (v := 1) dX10_livingBy_74 (by decide) rfl (by decide) rfl rfl ?_
          refine go_goto (q := 4) dX10_livingBy_77 (by decide) ?_
          refine go_weak (l1 := [some (vR 14 0), some (vI _), some (vI _), some (vI _), none]) (k_le_s (k_le_s (k_le_s (k_le_s (k_le_n k_le_nil))))) ?_
          exact ih (j + 1) _ _ (by omega) (by rw [h0, cn_f (by rw [c_59]; exact show (sonsN R j == 0) = false from by simpa using c_43)]; exact Int32.add_zero _) (nI_1 j) (by omega)
      · refine go_iconst (q := 47) (v := 1) dX10_livingBy_46 (by decide) rfl ?_
        refine go_goto (q := 51) dX10_livingBy_47 (by decide) ?_
        refine go_istore (q := 53) dX10_livingBy_51 (by decide) rfl rfl ?_
        refine go_iload_n (q := 54) dX10_livingBy_53 rfl rfl rfl ?_
        refine go_aload_n (q := 55) dX10_livingBy_54 rfl rfl rfl ?_
        refine go_iload_n (q := 56) dX10_livingBy_55 rfl rfl rfl ?_
        refine go_cV1 (cal := mX10_lives) (q := 59) dX10_livingBy_56 lRX10_56 vX10_lives ⟨by decide, by decide⟩ rfl (by decide) (Nat.le_of_ble_eq_true rfl) (ok_mlives hZ c_11) rfl ?_
        refine go_if_eqB (q := 62) (t := 71) dX10_livingBy_59 (by decide) rfl (fun c_59 => ?_) (fun c_59 => ?_)
        · refine go_iconst (q := 72) (v := 0) dX10_livingBy_71 (by decide) rfl ?_
          refine go_iadd (q := 73) dX10_livingBy_72 rfl ?_
          refine go_istore_n (q := 74) dX10_livingBy_73 rfl (by decide) rfl rfl ?_
          refine go_iinc (q := 77) (v := 1) dX10_livingBy_74 (by decide) rfl (by decide) rfl rfl ?_
          refine go_goto (q := 4) dX10_livingBy_77 (by decide) ?_
          refine go_weak (l1 := [some (vR 14 0), some (vI _), some (vI _), some (vI _), none]) (k_le_s (k_le_s (k_le_s (k_le_s (k_le_n k_le_nil))))) ?_
          exact ih (j + 1) _ _ (by omega) (by rw [h0, cn_f (by rw [c_59]; rfl)]; exact Int32.add_zero _) (nI_1 j) (by omega)
        · refine go_iload (q := 64) dX10_livingBy_62 rfl rfl ?_
          refine go_if_eq (q := 67) (t := 71) dX10_livingBy_64 (by decide) rfl (fun z => absurd z (by decide)) (fun _ => ?_)
          refine go_iconst (q := 68) (v := 1) dX10_livingBy_67 (by decide) rfl ?_
          refine go_goto (q := 72) dX10_livingBy_68 (by decide) ?_
          refine go_iadd (q := 73) dX10_livingBy_72 rfl ?_
          refine go_istore_n (q := 74) dX10_livingBy_73 rfl (by decide) rfl rfl ?_
          refine go_iinc (q := 77) (v := 1) dX10_livingBy_74 (by decide) rfl (by decide) rfl rfl ?_
          refine go_goto (q := 4) dX10_livingBy_77 (by decide) ?_
          refine go_weak (l1 := [some (vR 14 0), some (vI _), some (vI _), some (vI _), none]) (k_le_s (k_le_s (k_le_s (k_le_s (k_le_n k_le_nil))))) ?_
          exact ih (j + 1) _ _ (by omega) (by rw [h0, cn_t (by rw [c_59]; exact show (sonsN R j == 0) = true from by simpa using c_43), nI_1]) (nI_1 j) (by omega)
theorem ok_mlivingBy7 {M : KM} {R : RO} (hZ : ZA M R) (hW : rW R) : OkF mX10_livingBy [vR 14 0, vI (nI 7)] M (some (vI (nI (cn (fun i => rL R i && sonsN R i == 0) (rN R))))) M := by
  refine ok_of (by decide) rfl (Nat.le_of_ble_eq_true rfl) ⟨rfl, rfl⟩ ?_
  show Go mX10_livingBy (Zm (QF (some (vI (nI (cn (fun i => rL R i && sonsN R i == 0) (rN R))))) M)) M [some (vR 14 0), some (vI (nI 7)), none, none, none] [] 0
  refine go_iconst (q := 1) (v := 0) dX10_livingBy_0 (by decide) rfl ?_
  refine go_istore_n (q := 2) dX10_livingBy_1 rfl (by decide) rfl rfl ?_
  refine go_iconst (q := 3) (v := 0) dX10_livingBy_2 (by decide) rfl ?_
  refine go_istore_n (q := 4) dX10_livingBy_3 rfl (by decide) rfl rfl ?_
  exact lp_mlivingBy7 hZ hW (rN R + 1) 0 _ _ (by omega) rfl rfl (by omega)
theorem ok_mcount {M : KM} {R : RO} (hZ : ZA M R) (hW : rW R) {n h : Nat} (ht : M.1 14 0 6 = nI n) (hh : M.1 14 0 2 = nI h) (w : Int32) : OkF mX10_count [vR 14 0, vI w] M (some (vI (aCount R n h w))) M := by
  refine ok_of (by decide) rfl (Nat.le_of_ble_eq_true rfl) ⟨rfl, rfl⟩ ?_
  show Go mX10_count (Zm (QF (some (vI (aCount R n h w))) M)) M [some (vR 14 0), some (vI w)] [] 0
  cases hk : pOf 12 w with
  | none =>
    refine go_iload_n (q := 1) dX10_count_0 rfl rfl rfl ?_
    refine go_tableOut (q := 126) dX10_count_1 (pOf12_out hk) (by decide) ?_
    refine go_iconst (q := 127) (v := (-1)) dX10_count_126 (by decide) rfl ?_
    exact go_ri dX10_count_127 rfl (by simp [aCount, hk]) rfl
  | some k =>
    obtain ⟨hkl, rfl⟩ := pOf_some hk
    rcases (show k = 0 ∨ k = 1 ∨ k = 2 ∨ k = 3 ∨ k = 4 ∨ k = 5 ∨ k = 6 ∨ k = 7 ∨ k = 8 ∨ k = 9 ∨ k = 10 ∨ k = 11 by omega) with rfl | rfl | rfl | rfl | rfl | rfl | rfl | rfl | rfl | rfl | rfl | rfl
    · refine go_iload_n (q := 1) dX10_count_0 rfl rfl rfl ?_
      refine go_tableIn 0 (q := 64) dX10_count_1 (show (nI 0).toInt = 0 from by decide) (by decide) (by decide) rfl (by decide) ?_
      refine go_aload_n (q := 65) dX10_count_64 rfl rfl rfl ?_
      refine go_getf (q := 68) dX10_count_65 fRX10_7 rfl (by decide) rfl rfl ?_
      refine go_iconst (q := 69) (v := 0) dX10_count_68 (by decide) rfl ?_
      refine go_iald (q := 70) 0 dX10_count_69 rfl rfl (by decide) rfl (by decide) rfl ?_
      refine go_topi hZ.sz ?_
      exact go_ri dX10_count_70 rfl (by simp [aCount, hk, numR] <;> rfl) rfl
    · refine go_iload_n (q := 1) dX10_count_0 rfl rfl rfl ?_
      refine go_tableIn 1 (q := 71) dX10_count_1 (show (nI 1).toInt = 1 from by decide) (by decide) (by decide) rfl (by decide) ?_
      refine go_aload_n (q := 72) dX10_count_71 rfl rfl rfl ?_
      refine go_cV0 (cal := mX10_living) (q := 75) dX10_count_72 lRX10_71 vX10_living ⟨by decide, by decide⟩ rfl (by decide) (Nat.le_of_ble_eq_true rfl) (ok_mliving hZ) rfl ?_
      exact go_ri dX10_count_75 rfl (by simp [aCount, hk, numR] <;> rfl) rfl
    · refine go_iload_n (q := 1) dX10_count_0 rfl rfl rfl ?_
      refine go_tableIn 2 (q := 76) dX10_count_1 (show (nI 2).toInt = 2 from by decide) (by decide) (by decide) rfl (by decide) ?_
      refine go_aload_n (q := 77) dX10_count_76 rfl rfl rfl ?_
      refine go_cV0 (cal := mX10_founders) (q := 80) dX10_count_77 lRX10_210 vX10_founders ⟨by decide, by decide⟩ rfl (by decide) (Nat.le_of_ble_eq_true rfl) (ok_mfounders hZ hW) rfl ?_
      exact go_ri dX10_count_80 rfl (by simp [aCount, hk, numR] <;> rfl) rfl
    · refine go_iload_n (q := 1) dX10_count_0 rfl rfl rfl ?_
      refine go_tableIn 3 (q := 81) dX10_count_1 (show (nI 3).toInt = 3 from by decide) (by decide) (by decide) rfl (by decide) ?_
      refine go_aload_n (q := 82) dX10_count_81 rfl rfl rfl ?_
      refine go_cV0 (cal := mX10_confused) (q := 85) dX10_count_82 lRX10_213 vX10_confused ⟨by decide, by decide⟩ rfl (by decide) (Nat.le_of_ble_eq_true rfl) (ok_mconfused hZ hW) rfl ?_
      exact go_ri dX10_count_85 rfl (by simp [aCount, hk, numR] <;> rfl) rfl
    · refine go_iload_n (q := 1) dX10_count_0 rfl rfl rfl ?_
      refine go_tableIn 4 (q := 86) dX10_count_1 (show (nI 4).toInt = 4 from by decide) (by decide) (by decide) rfl (by decide) ?_
      refine go_aload_n (q := 87) dX10_count_86 rfl rfl rfl ?_
      refine go_cV0 (cal := mX10_deepest) (q := 90) dX10_count_87 lRX10_216 vX10_deepest ⟨by decide, by decide⟩ rfl (by decide) (Nat.le_of_ble_eq_true rfl) (ok_mdeepest hZ hW) rfl ?_
      exact go_ri dX10_count_90 rfl (by simp [aCount, hk, numR] <;> rfl) rfl
    · refine go_iload_n (q := 1) dX10_count_0 rfl rfl rfl ?_
      refine go_tableIn 5 (q := 91) dX10_count_1 (show (nI 5).toInt = 5 from by decide) (by decide) (by decide) rfl (by decide) ?_
      refine go_aload_n (q := 92) dX10_count_91 rfl rfl rfl ?_
      refine go_cV0 (cal := mX10_differentShields) (q := 95) dX10_count_92 lRX10_219 vX10_differentShields ⟨by decide, by decide⟩ rfl (by decide) (Nat.le_of_ble_eq_true rfl) (ok_mdifferentShields hZ hW) rfl ?_
      exact go_ri dX10_count_95 rfl (by simp [aCount, hk, numR] <;> rfl) rfl
    · refine go_iload_n (q := 1) dX10_count_0 rfl rfl rfl ?_
      refine go_tableIn 6 (q := 96) dX10_count_1 (show (nI 6).toInt = 6 from by decide) (by decide) (by decide) rfl (by decide) ?_
      refine go_aload_n (q := 97) dX10_count_96 rfl rfl rfl ?_
      refine go_iload_n (q := 98) dX10_count_97 rfl rfl rfl ?_
      refine go_cV1 (cal := mX10_livingBy) (q := 101) dX10_count_98 lRX10_222 vX10_livingBy ⟨by decide, by decide⟩ rfl (by decide) (Nat.le_of_ble_eq_true rfl) (ok_mlivingBy6 hZ hW) rfl ?_
      exact go_ri dX10_count_101 rfl (by simp [aCount, hk, numR] <;> rfl) rfl
    · refine go_iload_n (q := 1) dX10_count_0 rfl rfl rfl ?_
      refine go_tableIn 7 (q := 96) dX10_count_1 (show (nI 7).toInt = 7 from by decide) (by decide) (by decide) rfl (by decide) ?_
      refine go_aload_n (q := 97) dX10_count_96 rfl rfl rfl ?_
      refine go_iload_n (q := 98) dX10_count_97 rfl rfl rfl ?_
      refine go_cV1 (cal := mX10_livingBy) (q := 101) dX10_count_98 lRX10_222 vX10_livingBy ⟨by decide, by decide⟩ rfl (by decide) (Nat.le_of_ble_eq_true rfl) (ok_mlivingBy7 hZ hW) rfl ?_
      exact go_ri dX10_count_101 rfl (by simp [aCount, hk, numR] <;> rfl) rfl
    · refine go_iload_n (q := 1) dX10_count_0 rfl rfl rfl ?_
      refine go_tableIn 8 (q := 102) dX10_count_1 (show (nI 8).toInt = 8 from by decide) (by decide) (by decide) rfl (by decide) ?_
      refine go_aload_n (q := 103) dX10_count_102 rfl rfl rfl ?_
      refine go_getf (q := 106) dX10_count_103 fRX10_7 rfl (by decide) rfl rfl ?_
      refine go_iconst (q := 107) (v := 2) dX10_count_106 (by decide) rfl ?_
      refine go_iald (q := 108) 2 dX10_count_107 rfl rfl (by decide) rfl (by decide) rfl ?_
      refine go_topi hZ.he ?_
      exact go_ri dX10_count_108 rfl (by simp [aCount, hk, numR] <;> rfl) rfl
    · refine go_iload_n (q := 1) dX10_count_0 rfl rfl rfl ?_
      refine go_tableIn 9 (q := 109) dX10_count_1 (show (nI 9).toInt = 9 from by decide) (by decide) (by decide) rfl (by decide) ?_
      refine go_aload_n (q := 110) dX10_count_109 rfl rfl rfl ?_
      refine go_getf (q := 113) dX10_count_110 fRX10_7 rfl (by decide) rfl rfl ?_
      refine go_iconst (q := 114) (v := 1) dX10_count_113 (by decide) rfl ?_
      refine go_iald (q := 115) 1 dX10_count_114 rfl rfl (by decide) rfl (by decide) rfl ?_
      refine go_topi hZ.re ?_
      exact go_ri dX10_count_115 rfl (by simp [aCount, hk, numR] <;> rfl) rfl
    · refine go_iload_n (q := 1) dX10_count_0 rfl rfl rfl ?_
      refine go_tableIn 10 (q := 116) dX10_count_1 (show (nI 10).toInt = 10 from by decide) (by decide) (by decide) rfl (by decide) ?_
      refine go_aload_n (q := 117) dX10_count_116 rfl rfl rfl ?_
      refine go_getf (q := 120) dX10_count_117 fRX10_146 rfl (by decide) rfl rfl ?_
      refine go_topi ht ?_
      exact go_ri dX10_count_120 rfl (by simp [aCount, hk, numR] <;> rfl) rfl
    · refine go_iload_n (q := 1) dX10_count_0 rfl rfl rfl ?_
      refine go_tableIn 11 (q := 121) dX10_count_1 (show (nI 11).toInt = 11 from by decide) (by decide) (by decide) rfl (by decide) ?_
      refine go_aload_n (q := 122) dX10_count_121 rfl rfl rfl ?_
      refine go_getf (q := 125) dX10_count_122 fRX10_60 rfl (by decide) rfl rfl ?_
      refine go_topi hh ?_
      exact go_ri dX10_count_125 rfl (by simp [aCount, hk, numR] <;> rfl) rfl
theorem lp_mborne {M : KM} {R : RO} (hZ : ZA M R) (hW : rW R) {k m : Nat} (hk : k < 6) (hm : m < 5) : ∀ (d : Nat) (j : Nat) (x y : Int32), rN R - j < d → (x = nI (cn (fun i => rL R i && mk (rS R i) k == m) j)) → (y = nI j) → (j ≤ rN R) → Go mX10_borne (Zm (QF (some (vI (nI (cn (fun i => rL R i && mk (rS R i) k == m) (rN R))))) M)) M [some (vR 14 0), some (vI (nI k)), some (vI (nI m)), some (vI x), some (vI y)] [] 15 := by
  intro d
  induction d with
  | zero => intro j x y hd; exact absurd hd (Nat.not_lt_zero _)
  | succ d ih =>
    intro j x y hd h0 h1 h2
    refine go_iload (q := 17) dX10_borne_15 rfl rfl ?_
    refine go_aload_n (q := 18) dX10_borne_17 rfl rfl rfl ?_
    refine go_getf (q := 21) dX10_borne_18 fRX10_7 rfl (by decide) rfl rfl ?_
    refine go_iconst (q := 22) (v := 0) dX10_borne_21 (by decide) rfl ?_
    refine go_iald (q := 23) 0 dX10_borne_22 rfl rfl (by decide) rfl (by decide) rfl ?_
    refine go_icmp_geN j (rN R) (q := 26) (t := 64) dX10_borne_23 (by decide) rfl h1 (hZ.sz) (by have := hZ.le; omega) (by have := hZ.le; omega) (fun c_23 => ?_) (fun c_23 => ?_)
    · refine go_iload_n (q := 65) dX10_borne_64 rfl rfl rfl ?_
      exact go_ri dX10_borne_65 rfl (by rw [h0, show j = rN R by omega]) rfl
    · subst h1
      refine go_iload_n (q := 27) dX10_borne_26 rfl rfl rfl ?_
      refine go_aload_n (q := 28) dX10_borne_27 rfl rfl rfl ?_
      refine go_iload (q := 30) dX10_borne_28 rfl rfl ?_
      refine go_cV1 (cal := mX10_lives) (q := 33) dX10_borne_30 lRX10_56 vX10_lives ⟨by decide, by decide⟩ rfl (by decide) (Nat.le_of_ble_eq_true rfl) (ok_mlives hZ c_23) rfl ?_
      refine go_if_eqB (q := 36) (t := 55) dX10_borne_33 (by decide) rfl (fun c_33 => ?_) (fun c_33 => ?_)
      · refine go_iconst (q := 56) (v := 0) dX10_borne_55 (by decide) rfl ?_
        refine go_iadd (q := 57) dX10_borne_56 rfl ?_
        refine go_istore_n (q := 58) dX10_borne_57 rfl (by decide) rfl rfl ?_
        refine go_iinc (q := 61) (v := 1) dX10_borne_58 (by decide) rfl (by decide) rfl rfl ?_
        refine go_goto (q := 15) dX10_borne_61 (by decide) ?_
        exact ih (j + 1) _ _ (by omega) (by rw [h0, cn_f (by simp [c_33])]; exact Int32.add_zero _) (nI_1 j) (by omega)
      · refine go_aload_n (q := 37) dX10_borne_36 rfl rfl rfl ?_
        refine go_iload (q := 39) dX10_borne_37 rfl rfl ?_
        refine go_iconst (q := 40) (v := 0) dX10_borne_39 (by decide) rfl ?_
        refine go_cV2 (cal := mX10_of) (q := 43) dX10_borne_40 lRX10_45 vX10_of ⟨by decide, by decide⟩ rfl (by decide) (Nat.le_of_ble_eq_true rfl) (ok_mof (w := 0) (hZ.lt c_23) (by decide)) rfl ?_
        refine go_topi (hZ.sh c_23) ?_
        refine go_iload_n (q := 44) dX10_borne_43 rfl rfl rfl ?_
        refine go_cS2 (cal := mX10_markOf) (q := 47) dX10_borne_44 lRX10_53 vX10_markOf ⟨by decide, by decide⟩ (Nat.le_of_ble_eq_true rfl) (ok_mmarkOf (by have := hW.2.1 j c_23; omega) hk) rfl ?_
        refine go_iload_n (q := 48) dX10_borne_47 rfl rfl rfl ?_
        refine go_icmp_neN (mk (rS R j) k) m (q := 51) (t := 55) dX10_borne_48 (by decide) rfl rfl rfl (by have := mk_lt (rS R j) k; omega) (by omega) (fun c_48 => ?_) (fun c_48 => ?_)
        · refine go_iconst (q := 56) (v := 0) dX10_borne_55 (by decide) rfl ?_
          refine go_iadd (q := 57) dX10_borne_56 rfl ?_
          refine go_istore_n (q := 58) dX10_borne_57 rfl (by decide) rfl rfl ?_
          refine go_iinc (q := 61) (v := 1) dX10_borne_58 (by decide) rfl (by decide) rfl rfl ?_
          refine go_goto (q := 15) dX10_borne_61 (by decide) ?_
          exact ih (j + 1) _ _ (by omega) (by rw [h0, cn_f (by simp [c_48])]; exact Int32.add_zero _) (nI_1 j) (by omega)
        · refine go_iconst (q := 52) (v := 1) dX10_borne_51 (by decide) rfl ?_
          refine go_goto (q := 56) dX10_borne_52 (by decide) ?_
          refine go_iadd (q := 57) dX10_borne_56 rfl ?_
          refine go_istore_n (q := 58) dX10_borne_57 rfl (by decide) rfl rfl ?_
          refine go_iinc (q := 61) (v := 1) dX10_borne_58 (by decide) rfl (by decide) rfl rfl ?_
          refine go_goto (q := 15) dX10_borne_61 (by decide) ?_
          exact ih (j + 1) _ _ (by omega) (by rw [h0, cn_t (by simp [c_33, c_48]), nI_1]) (nI_1 j) (by omega)
theorem ok_mborne {M : KM} {R : RO} (hZ : ZA M R) (hW : rW R) (x y : Int32) : OkF mX10_borne [vR 14 0, vI x, vI y] M (some (vI (aBorne R x y))) M := by
  refine ok_of (by decide) rfl (Nat.le_of_ble_eq_true rfl) ⟨rfl, rfl⟩ ?_
  show Go mX10_borne (Zm (QF (some (vI (aBorne R x y))) M)) M [some (vR 14 0), some (vI x), some (vI y), none, none] [] 0
  refine go_iload_n (q := 1) dX10_borne_0 rfl rfl rfl ?_
  refine go_iload_n (q := 2) dX10_borne_1 rfl rfl rfl ?_
  refine go_cS2 (cal := mX10_isChange) (q := 5) dX10_borne_2 lRX10_119 vX10_isChange ⟨by decide, by decide⟩ (Nat.le_of_ble_eq_true rfl) (ok_misChange M _ _) rfl ?_
  refine go_if_neB (q := 8) (t := 10) dX10_borne_5 (by decide) rfl (fun c_5 => ?_) (fun c_5 => ?_)
  · have h1 : (pOf 6 x).isSome = true := by revert c_5; cases (pOf 6 x).isSome <;> simp
    have h2 : (pOf 5 y).isSome = true := by revert c_5; cases (pOf 6 x).isSome <;> cases (pOf 5 y).isSome <;> simp
    obtain ⟨k, hk⟩ := isSome_t h1
    obtain ⟨hkl, rfl⟩ := pOf_some hk
    obtain ⟨m, hm⟩ := isSome_t h2
    obtain ⟨hml, rfl⟩ := pOf_some hm
    refine go_iconst (q := 11) (v := 0) dX10_borne_10 (by decide) rfl ?_
    refine go_istore_n (q := 12) dX10_borne_11 rfl (by decide) rfl rfl ?_
    refine go_iconst (q := 13) (v := 0) dX10_borne_12 (by decide) rfl ?_
    refine go_istore (q := 15) dX10_borne_13 (by decide) rfl rfl ?_
    rw [show aBorne R (nI k) (nI m) = nI (cn (fun i => rL R i && mk (rS R i) k == m) (rN R)) by simp [aBorne, hk, hm]]
    exact lp_mborne hZ hW hkl hml (rN R + 1) 0 _ _ (by omega) rfl rfl (by omega)
  · refine go_iconst (q := 9) (v := (-1)) dX10_borne_8 (by decide) rfl ?_
    exact go_ri dX10_borne_9 rfl (by unfold aBorne; revert c_5; cases pOf 6 x <;> cases pOf 5 y <;> simp) rfl
theorem lp_munIn {M : KM} {R : RO} (hZ : ZA M R) (hW : rW R) {a : Nat} (ha : a < rN R) (hout : ∀ (x w : Int32), x = nI (psum (fun a b => if bothL R a b = true then ap (rS R a) (rS R b) else 0) (rN R) (a + 1)) → w = nI (psum (fun a b => bN (bothL R a b)) (rN R) (a + 1)) → Go mX10_unlike (Zm (QF (some (vD (meanU R))) M)) M [some (vR 14 0), some (vI x), some (vI w), some (vI (nI (a + 1))), none, none, none] [] 6) : ∀ (d : Nat) (j : Nat) (x w y : Int32), rN R - j < d → (x = nI (psum (fun a b => if bothL R a b = true then ap (rS R a) (rS R b) else 0) (rN R) a + prow (fun a b => if bothL R a b = true then ap (rS R a) (rS R b) else 0) a j)) → (w = nI (psum (fun a b => bN (bothL R a b)) (rN R) a + prow (fun a b => bN (bothL R a b)) a j)) → (y = nI j) → (a < j) → (j ≤ rN R) → Go mX10_unlike (Zm (QF (some (vD (meanU R))) M)) M [some (vR 14 0), some (vI x), some (vI w), some (vI (nI a)), some (vI y), none, none] [] 21 := by
  intro d
  induction d with
  | zero => intro j x w y hd; exact absurd hd (Nat.not_lt_zero _)
  | succ d ih =>
    intro j x w y hd h0 h1 h2 h3 h4
    refine go_iload (q := 23) dX10_unlike_21 rfl rfl ?_
    refine go_aload_n (q := 24) dX10_unlike_23 rfl rfl rfl ?_
    refine go_getf (q := 27) dX10_unlike_24 fRX10_7 rfl (by decide) rfl rfl ?_
    refine go_iconst (q := 28) (v := 0) dX10_unlike_27 (by decide) rfl ?_
    refine go_iald (q := 29) 0 dX10_unlike_28 rfl rfl (by decide) rfl (by decide) rfl ?_
    refine go_icmp_geN j (rN R) (q := 32) (t := 77) dX10_unlike_29 (by decide) rfl h2 (hZ.sz) (by have := hZ.le; omega) (by have := hZ.le; omega) (fun c_29 => ?_) (fun c_29 => ?_)
    · refine go_iinc (q := 80) (v := 1) dX10_unlike_77 (by decide) rfl (by decide) rfl rfl ?_
      refine go_goto (q := 6) dX10_unlike_80 (by decide) ?_
      exact go_weak (l1 := [some (vR 14 0), some (vI x), some (vI w), some (vI (nI (a + 1))), none, none, none]) (by rw [← nI_1]; exact k_le_s (k_le_s (k_le_s (k_le_s (k_le_n (k_le_n (k_le_n k_le_nil))))))) (hout x w (by rw [h0, psum_s, show j = rN R by omega]) (by rw [h1, psum_s, show j = rN R by omega]))
    · subst h2
      refine go_aload_n (q := 33) dX10_unlike_32 rfl rfl rfl ?_
      refine go_iload_n (q := 34) dX10_unlike_33 rfl rfl rfl ?_
      refine go_cV1 (cal := mX10_lives) (q := 37) dX10_unlike_34 lRX10_56 vX10_lives ⟨by decide, by decide⟩ rfl (by decide) (Nat.le_of_ble_eq_true rfl) (ok_mlives hZ ha) rfl ?_
      refine go_if_eqB (q := 40) (t := 71) dX10_unlike_37 (by decide) rfl (fun c_37 => ?_) (fun c_37 => ?_)
      · refine go_iinc (q := 74) (v := 1) dX10_unlike_71 (by decide) rfl (by decide) rfl rfl ?_
        refine go_goto (q := 21) dX10_unlike_74 (by decide) ?_
        have hb : bothL R a j = false := by simp [bothL, c_37]
        exact ih (j + 1) _ _ _ (by omega) (by rw [h0, prow_s h3, hb]; rfl) (by rw [h1, prow_s h3, hb]; rfl) (nI_1 j) (by omega) (by omega)
      · refine go_aload_n (q := 41) dX10_unlike_40 rfl rfl rfl ?_
        refine go_iload (q := 43) dX10_unlike_41 rfl rfl ?_
        refine go_cV1 (cal := mX10_lives) (q := 46) dX10_unlike_43 lRX10_56 vX10_lives ⟨by decide, by decide⟩ rfl (by decide) (Nat.le_of_ble_eq_true rfl) (ok_mlives hZ c_29) rfl ?_
        refine go_if_eqB (q := 49) (t := 71) dX10_unlike_46 (by decide) rfl (fun c_46 => ?_) (fun c_46 => ?_)
        · refine go_iinc (q := 74) (v := 1) dX10_unlike_71 (by decide) rfl (by decide) rfl rfl ?_
          refine go_goto (q := 21) dX10_unlike_74 (by decide) ?_
          have hb : bothL R a j = false := by simp [bothL, c_46]
          exact ih (j + 1) _ _ _ (by omega) (by rw [h0, prow_s h3, hb]; rfl) (by rw [h1, prow_s h3, hb]; rfl) (nI_1 j) (by omega) (by omega)
        · refine go_iload_n (q := 50) dX10_unlike_49 rfl rfl rfl ?_
          refine go_aload_n (q := 51) dX10_unlike_50 rfl rfl rfl ?_
          refine go_iload_n (q := 52) dX10_unlike_51 rfl rfl rfl ?_
          refine go_iconst (q := 53) (v := 0) dX10_unlike_52 (by decide) rfl ?_
          refine go_cV2 (cal := mX10_of) (q := 56) dX10_unlike_53 lRX10_45 vX10_of ⟨by decide, by decide⟩ rfl (by decide) (Nat.le_of_ble_eq_true rfl) (ok_mof (w := 0) (hZ.lt ha) (by decide)) rfl ?_
          refine go_topi (hZ.sh ha) ?_
          refine go_aload_n (q := 57) dX10_unlike_56 rfl rfl rfl ?_
          refine go_iload (q := 59) dX10_unlike_57 rfl rfl ?_
          refine go_iconst (q := 60) (v := 0) dX10_unlike_59 (by decide) rfl ?_
          refine go_cV2 (cal := mX10_of) (q := 63) dX10_unlike_60 lRX10_45 vX10_of ⟨by decide, by decide⟩ rfl (by decide) (Nat.le_of_ble_eq_true rfl) (ok_mof (w := 0) (hZ.lt c_29) (by decide)) rfl ?_
          refine go_topi (hZ.sh c_29) ?_
          refine go_cS2 (cal := mX10_far) (q := 66) dX10_unlike_63 lRX10_137 vX10_far ⟨by decide, by decide⟩ (Nat.le_of_ble_eq_true rfl) (ok_mfar (by have := hW.2.1 a ha; omega) (by have := hW.2.1 j c_29; omega)) rfl ?_
          refine go_iadd (q := 67) dX10_unlike_66 rfl ?_
          refine go_istore_n (q := 68) dX10_unlike_67 rfl (by decide) rfl rfl ?_
          refine go_iinc (q := 71) (v := 1) dX10_unlike_68 (by decide) rfl (by decide) rfl rfl ?_
          refine go_iinc (q := 74) (v := 1) dX10_unlike_71 (by decide) rfl (by decide) rfl rfl ?_
          refine go_goto (q := 21) dX10_unlike_74 (by decide) ?_
          have hb : bothL R a j = true := by simp [bothL, c_37, c_46]
          exact ih (j + 1) _ _ _ (by omega) (by rw [h0, prow_s h3, hb, nI_add, if_pos rfl, Nat.add_assoc]) (by rw [h1, prow_s h3, hb, nI_1, Nat.add_assoc]; rfl) (nI_1 j) (by omega) (by omega)
theorem lp_mun {M : KM} {R : RO} (hZ : ZA M R) (hW : rW R) : ∀ (d : Nat) (a : Nat) (x w y : Int32), rN R - a < d → (x = nI (psum (fun a b => if bothL R a b = true then ap (rS R a) (rS R b) else 0) (rN R) a)) → (w = nI (psum (fun a b => bN (bothL R a b)) (rN R) a)) → (y = nI a) → (a ≤ rN R) → Go mX10_unlike (Zm (QF (some (vD (meanU R))) M)) M [some (vR 14 0), some (vI x), some (vI w), some (vI y), none, none, none] [] 6 := by
  intro d
  induction d with
  | zero => intro a x w y hd; exact absurd hd (Nat.not_lt_zero _)
  | succ d ih =>
    intro a x w y hd h0 h1 h2 h3
    refine go_iload_n (q := 7) dX10_unlike_6 rfl rfl rfl ?_
    refine go_aload_n (q := 8) dX10_unlike_7 rfl rfl rfl ?_
    refine go_getf (q := 11) dX10_unlike_8 fRX10_7 rfl (by decide) rfl rfl ?_
    refine go_iconst (q := 12) (v := 0) dX10_unlike_11 (by decide) rfl ?_
    refine go_iald (q := 13) 0 dX10_unlike_12 rfl rfl (by decide) rfl (by decide) rfl ?_
    refine go_icmp_geN a (rN R) (q := 16) (t := 83) dX10_unlike_13 (by decide) rfl h2 (hZ.sz) (by have := hZ.le; omega) (by have := hZ.le; omega) (fun c_13 => ?_) (fun c_13 => ?_)
    · obtain rfl : a = rN R := by omega
      subst h0
      subst h1
      refine go_iload_n (q := 84) dX10_unlike_83 rfl rfl rfl ?_
      refine go_i2d (q := 85) dX10_unlike_84 rfl ?_
      refine go_dstore_n (q := 86) dX10_unlike_85 rfl (by decide) rfl rfl ?_
      refine go_iload_n (q := 87) dX10_unlike_86 rfl rfl rfl ?_
      refine go_i2d (q := 88) dX10_unlike_87 rfl ?_
      refine go_dstore (q := 90) dX10_unlike_88 (by decide) rfl rfl ?_
      refine go_iload_n (q := 91) dX10_unlike_90 rfl rfl rfl ?_
      refine go_if_ne (q := 94) (t := 98) dX10_unlike_91 (by decide) rfl (fun c_91 => ?_) (fun c_91 => ?_)
      · have h91 : ¬ prN R = 0 := fun z => c_91 (by show nI (prN R) = 0; rw [z]; rfl)
        refine go_dload_n (q := 99) dX10_unlike_98 rfl rfl rfl ?_
        refine go_dload (q := 101) dX10_unlike_99 rfl rfl ?_
        refine go_ddiv (q := 102) dX10_unlike_101 (k_ddiv c_91) rfl ?_
        exact go_rd dX10_unlike_102 rfl (by rw [show meanU R = _ from if_neg h91]; rfl) rfl
      · have h91 : prN R = 0 := (nI_eq (prN_lt hW) (by decide)).mp (Classical.not_not.mp c_91)
        refine go_dconst0 (q := 95) dX10_unlike_94 rfl ?_
        refine go_goto (q := 102) dX10_unlike_95 (by decide) ?_
        exact go_rd dX10_unlike_102 rfl (by rw [show meanU R = _ from if_pos h91]) rfl
    · subst h2
      refine go_iload_n (q := 17) dX10_unlike_16 rfl rfl rfl ?_
      refine go_iconst (q := 18) (v := 1) dX10_unlike_17 (by decide) rfl ?_
      refine go_iadd (q := 19) dX10_unlike_18 rfl ?_
      refine go_topi (nI_1 a) ?_
      refine go_istore (q := 21) dX10_unlike_19 (by decide) rfl rfl ?_
      exact lp_munIn hZ hW c_13 (fun x w hx hw => ih (a + 1) x w _ (by omega) hx hw rfl (by omega)) (rN R + 1) (a + 1) _ _ _ (by omega) (by rw [h0, prow_0 (Nat.le_refl _)]; rfl) (by rw [h1, prow_0 (Nat.le_refl _)]; rfl) rfl (by omega) (by omega)
theorem ok_munlike {M : KM} {R : RO} (hZ : ZA M R) (hW : rW R) : OkF mX10_unlike [vR 14 0] M (some (vD (meanU R))) M := by
  refine ok_of (by decide) rfl (Nat.le_of_ble_eq_true rfl) ⟨rfl, rfl⟩ ?_
  show Go mX10_unlike (Zm (QF (some (vD (meanU R))) M)) M [some (vR 14 0), none, none, none, none, none, none] [] 0
  refine go_iconst (q := 1) (v := 0) dX10_unlike_0 (by decide) rfl ?_
  refine go_istore_n (q := 2) dX10_unlike_1 rfl (by decide) rfl rfl ?_
  refine go_iconst (q := 3) (v := 0) dX10_unlike_2 (by decide) rfl ?_
  refine go_istore_n (q := 4) dX10_unlike_3 rfl (by decide) rfl rfl ?_
  refine go_iconst (q := 5) (v := 0) dX10_unlike_4 (by decide) rfl ?_
  refine go_istore_n (q := 6) dX10_unlike_5 rfl (by decide) rfl rfl ?_
  exact lp_mun hZ hW (rN R + 1) 0 _ _ _ (by omega) rfl rfl rfl (by omega)
theorem lp_mallChoices {M : KM} {R : RO} (hZ : ZA M R) (hW : rW R) : ∀ (d : Nat) (j : Nat) (x y : Int32), rN R - j < d → (x = nI (sm (left1 R) j)) → (y = nI j) → (j ≤ rN R) → Go mX10_allChoices (Zm (QF (some (vI (nI (sm (left1 R) (rN R))))) M)) M [some (vR 14 0), some (vI x), some (vI y)] [] 4 := by
  intro d
  induction d with
  | zero => intro j x y hd; exact absurd hd (Nat.not_lt_zero _)
  | succ d ih =>
    intro j x y hd h0 h1 h2
    refine go_iload_n (q := 5) dX10_allChoices_4 rfl rfl rfl ?_
    refine go_aload_n (q := 6) dX10_allChoices_5 rfl rfl rfl ?_
    refine go_getf (q := 9) dX10_allChoices_6 fRX10_7 rfl (by decide) rfl rfl ?_
    refine go_iconst (q := 10) (v := 0) dX10_allChoices_9 (by decide) rfl ?_
    refine go_iald (q := 11) 0 dX10_allChoices_10 rfl rfl (by decide) rfl (by decide) rfl ?_
    refine go_icmp_geN j (rN R) (q := 14) (t := 40) dX10_allChoices_11 (by decide) rfl h1 (hZ.sz) (by have := hZ.le; omega) (by have := hZ.le; omega) (fun c_11 => ?_) (fun c_11 => ?_)
    · refine go_iload_n (q := 41) dX10_allChoices_40 rfl rfl rfl ?_
      exact go_ri dX10_allChoices_41 rfl (by rw [h0, show j = rN R by omega]) rfl
    · subst h1
      refine go_iload_n (q := 15) dX10_allChoices_14 rfl rfl rfl ?_
      refine go_aload_n (q := 16) dX10_allChoices_15 rfl rfl rfl ?_
      refine go_iload_n (q := 17) dX10_allChoices_16 rfl rfl rfl ?_
      refine go_cV1 (cal := mX10_lives) (q := 20) dX10_allChoices_17 lRX10_56 vX10_lives ⟨by decide, by decide⟩ rfl (by decide) (Nat.le_of_ble_eq_true rfl) (ok_mlives hZ c_11) rfl ?_
      refine go_if_eqB (q := 23) (t := 31) dX10_allChoices_20 (by decide) rfl (fun c_20 => ?_) (fun c_20 => ?_)
      · refine go_iconst (q := 32) (v := 0) dX10_allChoices_31 (by decide) rfl ?_
        refine go_iadd (q := 33) dX10_allChoices_32 rfl ?_
        refine go_istore_n (q := 34) dX10_allChoices_33 rfl (by decide) rfl rfl ?_
        refine go_iinc (q := 37) (v := 1) dX10_allChoices_34 (by decide) rfl (by decide) rfl rfl ?_
        refine go_goto (q := 4) dX10_allChoices_37 (by decide) ?_
        exact ih (j + 1) _ _ (by omega) (by rw [h0]; show _ = nI (sm (left1 R) j + left1 R j); rw [left1_dead c_20]; exact Int32.add_zero _) (nI_1 j) (by omega)
      · refine go_aload_n (q := 24) dX10_allChoices_23 rfl rfl rfl ?_
        refine go_iload_n (q := 25) dX10_allChoices_24 rfl rfl rfl ?_
        refine go_cV1 (cal := mX10_choicesOf) (q := 28) dX10_allChoices_25 lRX10_198 vX10_choicesOf ⟨by decide, by decide⟩ rfl (by decide) (Nat.le_of_ble_eq_true rfl) (ok_mchoicesOf hZ hW c_11) rfl ?_
        refine go_goto (q := 32) dX10_allChoices_28 (by decide) ?_
        refine go_iadd (q := 33) dX10_allChoices_32 rfl ?_
        refine go_istore_n (q := 34) dX10_allChoices_33 rfl (by decide) rfl rfl ?_
        refine go_iinc (q := 37) (v := 1) dX10_allChoices_34 (by decide) rfl (by decide) rfl rfl ?_
        refine go_goto (q := 4) dX10_allChoices_37 (by decide) ?_
        exact ih (j + 1) _ _ (by omega) (by rw [h0]; show _ = nI (sm (left1 R) j + left1 R j); exact nI_add _ _) (nI_1 j) (by omega)
theorem ok_mallChoices {M : KM} {R : RO} (hZ : ZA M R) (hW : rW R) : OkF mX10_allChoices [vR 14 0] M (some (vI (nI (sm (left1 R) (rN R))))) M := by
  refine ok_of (by decide) rfl (Nat.le_of_ble_eq_true rfl) ⟨rfl, rfl⟩ ?_
  show Go mX10_allChoices (Zm (QF (some (vI (nI (sm (left1 R) (rN R))))) M)) M [some (vR 14 0), none, none] [] 0
  refine go_iconst (q := 1) (v := 0) dX10_allChoices_0 (by decide) rfl ?_
  refine go_istore_n (q := 2) dX10_allChoices_1 rfl (by decide) rfl rfl ?_
  refine go_iconst (q := 3) (v := 0) dX10_allChoices_2 (by decide) rfl ?_
  refine go_istore_n (q := 4) dX10_allChoices_3 rfl (by decide) rfl rfl ?_
  exact lp_mallChoices hZ hW (rN R + 1) 0 _ _ (by omega) rfl rfl (by omega)
theorem zs (M : KM) (j x : Nat) (v : Int32) : (k_si M 15 0 j v).1 15 0 x = if x = j then v else M.1 15 0 x := by
  show (if 15 = 15 ∧ x = j ∧ 0 = 0 then v else M.1 15 0 x) = _
  by_cases h : x = j <;> simp [h]
theorem ZA_die {M : KM} {R : RO} {p : Nat} (h : ZA M R) : ZA (k_si M 15 0 (3 + 5 * p + 1) 0) (rDie R p) := by
  refine ⟨(zs ..).trans ((if_neg (by omega)).trans h.1), (zs ..).trans ((if_neg (by omega)).trans h.2.1), (zs ..).trans ((if_neg (by omega)).trans h.2.2.1), h.le, fun q hq => ?_⟩
  obtain ⟨a1, a2, a3, a4, a5⟩ := h.2.2.2.2 q hq
  refine ⟨(zs ..).trans ((if_neg (by omega)).trans a1), ?_, (zs ..).trans ((if_neg (by omega)).trans a3), (zs ..).trans ((if_neg (by omega)).trans a4), (zs ..).trans ((if_neg (by omega)).trans a5)⟩
  rw [zs]
  show _ = bI (if q = p then false else rL R q)
  by_cases e : q = p
  · subst e; rw [if_pos (by omega), if_pos rfl]; rfl
  · rw [if_neg (by omega), if_neg e]; exact a2
theorem z_back {M : KM} {j : Nat} {v : Int32} (h : M.1 15 0 j = v) (w : Int32) : k_si (k_si M 15 0 j w) 15 0 j v = M := by
  refine Prod.ext ?_ rfl
  funext a b c
  simp only [k_si]
  by_cases e : a = 15 ∧ c = j ∧ b = 0
  · rw [if_pos e]; obtain ⟨rfl, rfl, rfl⟩ := e; exact h.symm
  · rw [if_neg e, if_neg e]
theorem ok_mifDead {M : KM} {R : RO} (hZ : ZA M R) (hW : rW R) (x w : Int32) : OkF mX10_ifDead [vR 14 0, vI x, vI w] M (some (vI (aIfDead R x w))) M := by
  refine ok_of (by decide) rfl (Nat.le_of_ble_eq_true rfl) ⟨rfl, rfl⟩ ?_
  show Go mX10_ifDead (Zm (QF (some (vI (aIfDead R x w))) M)) M [some (vR 14 0), some (vI x), some (vI w), none] [] 0
  refine go_aload_n (q := 1) dX10_ifDead_0 rfl rfl rfl ?_
  refine go_iload_n (q := 2) dX10_ifDead_1 rfl rfl rfl ?_
  refine go_cV1 (cal := mX10_isPerson) (q := 5) dX10_ifDead_2 lRX10_116 vX10_isPerson ⟨by decide, by decide⟩ rfl (by decide) (Nat.le_of_ble_eq_true rfl) (ok_misPerson hZ _) rfl ?_
  refine go_if_eqB (q := 8) (t := 17) dX10_ifDead_5 (by decide) rfl (fun c_5 => ?_) (fun c_5 => ?_)
  · refine go_iconst (q := 18) (v := (-1)) dX10_ifDead_17 (by decide) rfl ?_
    exact go_ri dX10_ifDead_18 rfl (by simp [aIfDead, isSome_f c_5]) rfl
  · refine go_iload_n (q := 9) dX10_ifDead_8 rfl rfl rfl ?_
    refine go_iconst (q := 10) (v := 0) dX10_ifDead_9 (by decide) rfl ?_
    refine go_iconst (q := 11) (v := 2) dX10_ifDead_10 (by decide) rfl ?_
    refine go_cS3 (cal := mX10_in) (q := 14) dX10_ifDead_11 lRX10_41 vX10_in ⟨by decide, by decide⟩ (Nat.le_of_ble_eq_true rfl) (ok_min M _ _ _) rfl ?_
    refine go_topi (v := bI (pOf 3 w).isSome) (by rw [← in_pOf (by decide)]; rfl) ?_
    refine go_if_neB (q := 17) (t := 19) dX10_ifDead_14 (by decide) rfl (fun c_14 => ?_) (fun c_14 => ?_)
    · obtain ⟨p, hp⟩ := isSome_t c_5
      obtain ⟨hlt, rfl⟩ := pOf_some hp
      obtain ⟨k, hk⟩ := isSome_t c_14
      obtain ⟨hkl, rfl⟩ := pOf_some hk
      refine go_aload_n (q := 20) dX10_ifDead_19 rfl rfl rfl ?_
      refine go_iload_n (q := 21) dX10_ifDead_20 rfl rfl rfl ?_
      refine go_cV1 (cal := mX10_lives) (q := 24) dX10_ifDead_21 lRX10_56 vX10_lives ⟨by decide, by decide⟩ rfl (by decide) (Nat.le_of_ble_eq_true rfl) (ok_mlives hZ hlt) rfl ?_
      refine go_if_neB (q := 27) (t := 30) dX10_ifDead_24 (by decide) rfl (fun c_24 => ?_) (fun c_24 => ?_)
      · refine go_aload_n (q := 31) dX10_ifDead_30 rfl rfl rfl ?_
        refine go_iload_n (q := 32) dX10_ifDead_31 rfl rfl rfl ?_
        refine go_iconst (q := 33) (v := 1) dX10_ifDead_32 (by decide) rfl ?_
        refine go_iconst (q := 34) (v := 0) dX10_ifDead_33 (by decide) rfl ?_
        refine go_uV3 (cal := mX10_lay) (q := 37) dX10_ifDead_34 lRX10_82 vX10_lay ⟨by decide, by decide⟩ rfl (by decide) (Nat.le_of_ble_eq_true rfl) (ok_mlay (w := 1) (hZ.lt hlt) (by decide) 0) rfl ?_
        refine go_iload_n (q := 38) dX10_ifDead_37 rfl rfl rfl ?_
        refine go_if_ne (q := 41) (t := 49) dX10_ifDead_38 (by decide) rfl (fun c_38 => ?_) (fun c_38 => ?_)
        · refine go_iload_n (q := 50) dX10_ifDead_49 rfl rfl rfl ?_
          refine go_iconst (q := 51) (v := 1) dX10_ifDead_50 (by decide) rfl ?_
          refine go_icmp_ne (q := 54) (t := 61) dX10_ifDead_51 (by decide) rfl (fun c_51 => ?_) (fun c_51 => ?_)
          · refine go_aload_n (q := 62) dX10_ifDead_61 rfl rfl rfl ?_
            refine go_cV0 (cal := mX10_allChoices) (q := 65) dX10_ifDead_62 lRX10_225 vX10_allChoices ⟨by decide, by decide⟩ rfl (by decide) (Nat.le_of_ble_eq_true rfl) (ok_mallChoices (ZA_die hZ) (rW_die hW)) rfl ?_
            refine go_istore_n (q := 66) dX10_ifDead_65 rfl (by decide) rfl rfl ?_
            refine go_aload_n (q := 67) dX10_ifDead_66 rfl rfl rfl ?_
            refine go_iload_n (q := 68) dX10_ifDead_67 rfl rfl rfl ?_
            refine go_iconst (q := 69) (v := 1) dX10_ifDead_68 (by decide) rfl ?_
            refine go_iconst (q := 70) (v := 1) dX10_ifDead_69 (by decide) rfl ?_
            refine go_uV3 (cal := mX10_lay) (q := 73) dX10_ifDead_70 lRX10_82 vX10_lay ⟨by decide, by decide⟩ rfl (by decide) (Nat.le_of_ble_eq_true rfl) (ok_mlay (w := 1) (hZ.lt hlt) (by decide) 1) rfl ?_
            refine go_iload_n (q := 74) dX10_ifDead_73 rfl rfl rfl ?_
            exact go_ri dX10_ifDead_74 rfl (by have hn0 : ¬ k = 0 := fun z => c_38 (by rw [z]; rfl); have hn1 : ¬ k = 1 := fun z => c_51 (by rw [z]; rfl); rw [show aIfDead R (nI p) (nI _) = nI (sm (left1 (rDie R p)) (rN R)) from by simp [aIfDead, hp, hk, c_24, hn0, hn1]]; try rfl) (z_back ((hZ.al hlt).trans (by rw [c_24]; rfl)) 0)
          · refine go_aload_n (q := 55) dX10_ifDead_54 rfl rfl rfl ?_
            refine go_cV0 (cal := mX10_confused) (q := 58) dX10_ifDead_55 lRX10_213 vX10_confused ⟨by decide, by decide⟩ rfl (by decide) (Nat.le_of_ble_eq_true rfl) (ok_mconfused (ZA_die hZ) (rW_die hW)) rfl ?_
            refine go_goto (q := 65) dX10_ifDead_58 (by decide) ?_
            refine go_istore_n (q := 66) dX10_ifDead_65 rfl (by decide) rfl rfl ?_
            refine go_aload_n (q := 67) dX10_ifDead_66 rfl rfl rfl ?_
            refine go_iload_n (q := 68) dX10_ifDead_67 rfl rfl rfl ?_
            refine go_iconst (q := 69) (v := 1) dX10_ifDead_68 (by decide) rfl ?_
            refine go_iconst (q := 70) (v := 1) dX10_ifDead_69 (by decide) rfl ?_
            refine go_uV3 (cal := mX10_lay) (q := 73) dX10_ifDead_70 lRX10_82 vX10_lay ⟨by decide, by decide⟩ rfl (by decide) (Nat.le_of_ble_eq_true rfl) (ok_mlay (w := 1) (hZ.lt hlt) (by decide) 1) rfl ?_
            refine go_iload_n (q := 74) dX10_ifDead_73 rfl rfl rfl ?_
            exact go_ri dX10_ifDead_74 rfl (by obtain rfl : k = 1 := (nI_eq (by omega) (by decide)).mp (Classical.not_not.mp c_51); rw [show aIfDead R (nI p) (nI _) = nI (confN (rDie R p)) from by simp [aIfDead, hp, hk, c_24, if_true]]; try rfl) (z_back ((hZ.al hlt).trans (by rw [c_24]; rfl)) 0)
        · refine go_aload_n (q := 42) dX10_ifDead_41 rfl rfl rfl ?_
          refine go_iload_n (q := 43) dX10_ifDead_42 rfl rfl rfl ?_
          refine go_cV1 (cal := mX10_eldest) (q := 46) dX10_ifDead_43 lRX10_134 vX10_eldest ⟨by decide, by decide⟩ rfl (by decide) (Nat.le_of_ble_eq_true rfl) (ok_meldest (ZA_die hZ) (rW_die hW) (hZ.b hlt)) rfl ?_
          refine go_goto (q := 65) dX10_ifDead_46 (by decide) ?_
          refine go_istore_n (q := 66) dX10_ifDead_65 rfl (by decide) rfl rfl ?_
          refine go_aload_n (q := 67) dX10_ifDead_66 rfl rfl rfl ?_
          refine go_iload_n (q := 68) dX10_ifDead_67 rfl rfl rfl ?_
          refine go_iconst (q := 69) (v := 1) dX10_ifDead_68 (by decide) rfl ?_
          refine go_iconst (q := 70) (v := 1) dX10_ifDead_69 (by decide) rfl ?_
          refine go_uV3 (cal := mX10_lay) (q := 73) dX10_ifDead_70 lRX10_82 vX10_lay ⟨by decide, by decide⟩ rfl (by decide) (Nat.le_of_ble_eq_true rfl) (ok_mlay (w := 1) (hZ.lt hlt) (by decide) 1) rfl ?_
          refine go_iload_n (q := 74) dX10_ifDead_73 rfl rfl rfl ?_
          exact go_ri dX10_ifDead_74 rfl (by obtain rfl : k = 0 := (nI_eq (by omega) (by decide)).mp (Classical.not_not.mp c_38); rw [show aIfDead R (nI p) (nI _) = e4 (fst1 (fun j => rL (rDie R p) j && rP R j == some p) (rN R)) from by simp [aIfDead, hp, hk, c_24, if_true]]; exact congrArg (fun f => e4 (fst1 f (rN R))) (funext (fun i => Bool.and_comm _ _))) (z_back ((hZ.al hlt).trans (by rw [c_24]; rfl)) 0)
      · refine go_bipush (q := 29) (v := (-2)) dX10_ifDead_27 (by decide) rfl ?_
        exact go_ri dX10_ifDead_29 rfl (by simp [aIfDead, hp, hk, c_24]) rfl
    · refine go_iconst (q := 18) (v := (-1)) dX10_ifDead_17 (by decide) rfl ?_
      exact go_ri dX10_ifDead_18 rfl (by simp [aIfDead, isSome_f c_14]) rfl
