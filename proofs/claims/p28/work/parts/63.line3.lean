/-! ===== the law's methods: isLine, cell ===== -/
theorem CI_qq {M : KM} {σ : ST} (h : CI M σ) : qq (M.2.2 11 1) (M.2.2 11 2) := h.2.2.2.2.2.2.2.2
theorem bne_d (a b : Nat) : (a != b) = true ↔ ¬ a = b := by simp
theorem il_free {M0 : KM} {σ : ST} {p s : Nat} (hp : p < rN σ.1) (hs : s < 15625) {M : KM} (hF : fc M0 M) (hC : CI M σ) {v : Int32} (hv : LnC σ.1 (nI p) (nI s) (nI 0) v) (hl : rL σ.1 p = true) (hb : ∀ q, bear σ.1 s = some q → q = p) {l5 l6 : Option KV} : Go mL_isLine (Zm (QC M0 1 σ)) M [some (vR 0 0), some (vI (nI p)), some (vI (nI s)), some (vI v), some (vI (nI (ap s (rS σ.1 p)))), l5, l6] [] 115 := by
  refine go_iload_n (q := 116) dL_isLine_115 rfl rfl rfl ?_
  refine go_bipush (q := 118) (v := (-4)) dL_isLine_116 (by decide) rfl ?_
  refine go_icmp_eq (q := 121) (t := 149) dL_isLine_118 (by decide) rfl (fun c_118 => ?_) (fun c_118 => ?_)
  · refine go_iconst (q := 150) (v := 1) dL_isLine_149 (by decide) rfl ?_
    refine go_goto (q := 154) dL_isLine_150 (by decide) ?_
    exact go_iretz dL_isLine_154 rfl (by decide) ⟨rfl, hC, hF⟩
  · obtain ⟨m, hm, rfl, h1, h2⟩ := ln_free hC.2.1 hp hs hv hl hb c_118
    have hap := ap_le s (rS σ.1 p)
    refine go_iload_n (q := 122) dL_isLine_121 rfl rfl rfl ?_
    refine go_iload (q := 124) dL_isLine_122 rfl rfl ?_
    refine go_icmp_lt (q := 127) (t := 153) dL_isLine_124 (by decide) rfl (fun z => absurd z (nI_nlt h1 (by omega))) (fun _ => ?_)
    refine go_iload_n (q := 128) dL_isLine_127 rfl rfl rfl ?_
    refine go_join1 (J := 136) (v := bI (decide (0 < m))) ?_ (fun j136 => ?_)
    · refine go_iload (q := 138) dL_isLine_136 rfl rfl ?_
      refine go_join1 (J := 146) (v := bI (decide (0 < m))) ?_ (fun j146 => ?_)
      · refine go_icmp_ne (q := 149) (t := 153) dL_isLine_146 (by decide) rfl (fun z => absurd z (nn rfl)) (fun _ => ?_)
        refine go_iconst (q := 150) (v := 1) dL_isLine_149 (by decide) rfl ?_
        refine go_goto (q := 154) dL_isLine_150 (by decide) ?_
        exact go_iretz dL_isLine_154 rfl (by decide) ⟨rfl, hC, hF⟩
      · refine go_if_le (q := 141) (t := 145) dL_isLine_138 (by decide) rfl (fun c_138 => ?_) (fun c_138 => ?_)
        · refine go_iconst (q := 146) (v := 0) dL_isLine_145 (by decide) rfl ?_
          exact j146 _ (sel0 decide_eq_true_iff (fun z => nI_nle (h2.mp z) (by omega) c_138))
        · refine go_iconst (q := 142) (v := 1) dL_isLine_141 (by decide) rfl ?_
          refine go_goto (q := 146) dL_isLine_142 (by decide) ?_
          exact j146 _ (sel1 decide_eq_true_iff (h2.mpr (Nat.pos_of_ne_zero (fun z => c_138 (by rw [z]; exact Int32.le_refl _)))))
    · refine go_if_le (q := 131) (t := 135) dL_isLine_128 (by decide) rfl (fun c_128 => ?_) (fun c_128 => ?_)
      · refine go_iconst (q := 136) (v := 0) dL_isLine_135 (by decide) rfl ?_
        exact j136 _ (sel0 decide_eq_true_iff (fun z => nI_nle z (by omega) c_128))
      · refine go_iconst (q := 132) (v := 1) dL_isLine_131 (by decide) rfl ?_
        refine go_goto (q := 136) dL_isLine_132 (by decide) ?_
        exact j136 _ (sel1 decide_eq_true_iff (Nat.pos_of_ne_zero (fun z => c_128 (by rw [z]; exact Int32.le_refl _))))
theorem il_alive {M0 : KM} {σ : ST} {p s : Nat} (hp : p < rN σ.1) (hs : s < 15625) {M : KM} (hF : fc M0 M) (hC : CI M σ) {v : Int32} (hv : LnC σ.1 (nI p) (nI s) (nI 0) v) (hl : rL σ.1 p = true) {l5 l6 : Option KV} : Go mL_isLine (Zm (QC M0 1 σ)) M [some (vR 0 0), some (vI (nI p)), some (vI (nI s)), some (vI v), some (vI (nI (ap s (rS σ.1 p)))), l5, l6] [] 89 := by
  by_cases hb : ∀ q, bear σ.1 s = some q → q = p
  · skip
    refine go_aload_n (q := 90) dL_isLine_89 rfl rfl rfl ?_
    refine go_iload_n (q := 91) dL_isLine_90 rfl rfl rfl ?_
    refine go_cV1 (cal := mX9_bearer) (q := 94) dL_isLine_91 lRL_26 vX9_bearer ⟨by decide, by decide⟩ rfl (by decide) (Nat.le_of_ble_eq_true rfl) (ok_bearer hC.1 hC.2.1 _) rfl ?_
    refine go_topi (aBr hs) ?_
    refine go_if_lt (q := 97) (t := 115) dL_isLine_94 (by decide) rfl (fun c_94 => ?_) (fun c_94 => ?_)
    · exact il_free hp hs hF hC hv hl hb
    · refine go_aload_n (q := 98) dL_isLine_97 rfl rfl rfl ?_
      refine go_iload_n (q := 99) dL_isLine_98 rfl rfl rfl ?_
      refine go_cV1 (cal := mX9_bearer) (q := 102) dL_isLine_99 lRL_26 vX9_bearer ⟨by decide, by decide⟩ rfl (by decide) (Nat.le_of_ble_eq_true rfl) (ok_bearer hC.1 hC.2.1 _) rfl ?_
      refine go_topi (aBr hs) ?_
      refine go_iload_n (q := 103) dL_isLine_102 rfl rfl rfl ?_
      refine go_icmp_eq (q := 106) (t := 115) dL_isLine_103 (by decide) rfl (fun c_103 => ?_) (fun c_103 => ?_)
      · exact il_free hp hs hF hC hv hl hb
      · exact absurd (show e4 (bear σ.1 s) = nI p from by obtain ⟨q, hq⟩ := e4_ge (bear_bg hC.2.1) c_94; rw [hq, hb q hq]; rfl) c_103
  · obtain ⟨q, hq, hqp⟩ : ∃ q, bear σ.1 s = some q ∧ q ≠ p := by
      refine Classical.byContradiction fun z => hb (fun q hq => Classical.byContradiction fun z2 => z ⟨q, hq, z2⟩)
    refine go_aload_n (q := 90) dL_isLine_89 rfl rfl rfl ?_
    refine go_iload_n (q := 91) dL_isLine_90 rfl rfl rfl ?_
    refine go_cV1 (cal := mX9_bearer) (q := 94) dL_isLine_91 lRL_26 vX9_bearer ⟨by decide, by decide⟩ rfl (by decide) (Nat.le_of_ble_eq_true rfl) (ok_bearer hC.1 hC.2.1 _) rfl ?_
    refine go_topi (aBr hs) ?_
    refine go_if_lt (q := 97) (t := 115) dL_isLine_94 (by decide) rfl (fun z => absurd z (fun z => by rw [(e4_neg (bear_bg hC.2.1)).mp z] at hq; cases hq)) (fun _ => ?_)
    refine go_aload_n (q := 98) dL_isLine_97 rfl rfl rfl ?_
    refine go_iload_n (q := 99) dL_isLine_98 rfl rfl rfl ?_
    refine go_cV1 (cal := mX9_bearer) (q := 102) dL_isLine_99 lRL_26 vX9_bearer ⟨by decide, by decide⟩ rfl (by decide) (Nat.le_of_ble_eq_true rfl) (ok_bearer hC.1 hC.2.1 _) rfl ?_
    refine go_topi (aBr hs) ?_
    refine go_iload_n (q := 103) dL_isLine_102 rfl rfl rfl ?_
    refine go_icmp_eq (q := 106) (t := 115) dL_isLine_103 (by decide) rfl (fun z => absurd z (fun z => hqp (Option.some.inj (hq.symm.trans ((e4_nI (bear_bg hC.2.1) (by have := hC.2.1.1; omega)).mp z))))) (fun _ => ?_)
    refine go_iload_n (q := 107) dL_isLine_106 rfl rfl rfl ?_
    refine go_bipush (q := 109) (v := (-4)) dL_isLine_107 (by decide) rfl ?_
    refine go_icmp_ne (q := 112) (t := 153) dL_isLine_109 (by decide) rfl (fun z => absurd z (nn (ln_borne hC.2.1 hp hs hv hl hq hqp))) (fun _ => ?_)
    refine go_goto (q := 149) dL_isLine_112 (by decide) ?_
    refine go_iconst (q := 150) (v := 1) dL_isLine_149 (by decide) rfl ?_
    refine go_goto (q := 154) dL_isLine_150 (by decide) ?_
    exact go_iretz dL_isLine_154 rfl (by decide) ⟨rfl, hC, hF⟩
theorem il_two {M0 : KM} {σ : ST} {p s : Nat} (hp : p < rN σ.1) (hs : s < 15625) {M : KM} (hF : fc M0 M) (hC : CI M σ) {v : Int32} (hv : LnC σ.1 (nI p) (nI s) (nI 0) v) {l5 l6 : Option KV} : Go mL_isLine (Zm (QC M0 1 σ)) M [some (vR 0 0), some (vI (nI p)), some (vI (nI s)), some (vI v), some (vI (nI (ap s (rS σ.1 p)))), l5, l6] [] 60 := by
  refine go_iload_n (q := 61) dL_isLine_60 rfl rfl rfl ?_
  refine go_aload_n (q := 62) dL_isLine_61 rfl rfl rfl ?_
  refine go_iload_n (q := 63) dL_isLine_62 rfl rfl rfl ?_
  refine go_iload_n (q := 64) dL_isLine_63 rfl rfl rfl ?_
  refine go_iconst (q := 65) (v := 1) dL_isLine_64 (by decide) rfl ?_
  refine go_callV [vI (nI p), vI (nI s), vI 1] (cal := mX9_line) (q := 68) dL_isLine_65 lRL_44 vX9_line ⟨by decide, by decide⟩ rfl rfl (by decide) (Nat.le_of_ble_eq_true rfl) (ok_line hC.1 hC.2.1 (CI_qq hC) _ _ _) rfl (fun r65 M65 h65 => ?_)
  obtain ⟨v', rfl, hv', hq4, hk4⟩ := h65
  obtain ⟨hC1, hf1⟩ := CI_line hC hk4 hq4
  replace hF := hF.tr hf1
  replace hC := hC1
  refine go_icmp_ne (q := 71) (t := 153) dL_isLine_68 (by decide) rfl (fun z => absurd z (nn (ln_two hC.2.1 hp hs hv hv'))) (fun _ => ?_)
  refine go_aload_n (q := 72) dL_isLine_71 rfl rfl rfl ?_
  refine go_iload_n (q := 73) dL_isLine_72 rfl rfl rfl ?_
  refine go_iconst (q := 74) (v := 1) dL_isLine_73 (by decide) rfl ?_
  refine go_cV2 (cal := mX9_person) (q := 77) dL_isLine_74 lRL_20 vX9_person ⟨by decide, by decide⟩ rfl (by decide) (Nat.le_of_ble_eq_true rfl) (ok_person hC.1 hC.2.1 _ _) rfl ?_
  refine go_topi (aP1 hC.2.1 hp) ?_
  refine go_if_neB (q := 80) (t := 89) dL_isLine_77 (by decide) rfl (fun c_77 => ?_) (fun c_77 => ?_)
  · exact il_alive hp hs hF hC hv c_77
  · refine go_iload_n (q := 81) dL_isLine_80 rfl rfl rfl ?_
    refine go_bipush (q := 83) (v := (-2)) dL_isLine_81 (by decide) rfl ?_
    refine go_icmp_ne (q := 86) (t := 153) dL_isLine_83 (by decide) rfl (fun z => absurd z (nn (ln_dead hC.2.1 hp hs hv c_77))) (fun _ => ?_)
    refine go_goto (q := 149) dL_isLine_86 (by decide) ?_
    refine go_iconst (q := 150) (v := 1) dL_isLine_149 (by decide) rfl ?_
    refine go_goto (q := 154) dL_isLine_150 (by decide) ?_
    exact go_iretz dL_isLine_154 rfl (by decide) ⟨rfl, hC, hF⟩
theorem lp_far {M0 : KM} {σ : ST} {p s : Nat} (hp : p < rN σ.1) (hs : s < 15625) {M : KM} (hF : fc M0 M) (hC : CI M σ) {v : Int32} (hv : LnC σ.1 (nI p) (nI s) (nI 0) v) : ∀ (d : Nat) (j : Nat), 6 - j < d → (j ≤ 6) → Go mL_isLine (Zm (QC M0 1 σ)) M [some (vR 0 0), some (vI (nI p)), some (vI (nI s)), some (vI v), some (vI (nI (cn (fun j => mk s j != mk (rS σ.1 p) j) j))), some (vI (nI (s / 5 ^ j))), some (vI (nI j))] [] 17 := by
  intro d
  induction d with
  | zero => intro j hd; exact absurd hd (Nat.not_lt_zero _)
  | succ d ih =>
    intro j hd h0
    refine go_iload (q := 19) dL_isLine_17 rfl rfl ?_
    refine go_bipush (q := 21) (v := 6) dL_isLine_19 (by decide) rfl ?_
    refine go_icmp_geN j 6 (q := 24) (t := 60) dL_isLine_21 (by decide) rfl rfl rfl (by omega) (by omega) (fun c_21 => ?_) (fun c_21 => ?_)
    · obtain rfl : j = 6 := by omega
      exact il_two hp hs hF hC hv
    · refine go_iload (q := 26) dL_isLine_24 rfl rfl ?_
      refine go_iload (q := 28) dL_isLine_26 rfl rfl ?_
      refine go_iconst (q := 29) (v := 5) dL_isLine_28 (by decide) rfl ?_
      refine go_irem (q := 30) dL_isLine_29 (by decide) rfl ?_
      refine go_topi (nI_rem5 (div_small (by omega))) ?_
      refine go_aload_n (q := 31) dL_isLine_30 rfl rfl rfl ?_
      refine go_iload_n (q := 32) dL_isLine_31 rfl rfl rfl ?_
      refine go_iload (q := 34) dL_isLine_32 rfl rfl ?_
      refine go_cV2 (cal := mX9_mark) (q := 37) dL_isLine_34 lRL_48 vX9_mark ⟨by decide, by decide⟩ rfl (by decide) (Nat.le_of_ble_eq_true rfl) (ok_mark hC.1 hC.2.1 _ _) rfl ?_
      refine go_topi (aMk hC.2.1 hp c_21) ?_
      refine go_join2 (J := 45) (v := bI (mk s j != mk (rS σ.1 p) j)) ?_ (fun j45 => ?_)
      · refine go_iadd (q := 46) dL_isLine_45 rfl ?_
        refine go_topi (cnB (fun j => mk s j != mk (rS σ.1 p) j) j) ?_
        refine go_istore (q := 48) dL_isLine_46 (by decide) rfl rfl ?_
        refine go_iload (q := 50) dL_isLine_48 rfl rfl ?_
        refine go_iconst (q := 51) (v := 5) dL_isLine_50 (by decide) rfl ?_
        refine go_idiv (q := 52) dL_isLine_51 (by decide) rfl ?_
        refine go_topi ((nI_div5 (div_small (by omega))).trans (by rw [div_pow])) ?_
        refine go_istore (q := 54) dL_isLine_52 (by decide) rfl rfl ?_
        refine go_iinc (q := 57) (v := 1) dL_isLine_54 (by decide) rfl (by decide) rfl rfl ?_
        refine go_goto (q := 17) dL_isLine_57 (by decide) ?_
        rw [show nI j + 1 = nI (j + 1) from nI_add j 1]
        exact ih (j + 1) (by omega) (by omega)
      · refine go_icmp_neN (mk s j) (mk (rS σ.1 p) j) (q := 40) (t := 44) dL_isLine_37 (by decide) rfl rfl rfl (Nat.lt_trans (mk_lt _ _) (by decide)) (Nat.lt_trans (mk_lt _ _) (by decide)) (fun c_37 => ?_) (fun c_37 => ?_)
        · refine go_iconst (q := 45) (v := 1) dL_isLine_44 (by decide) rfl ?_
          exact j45 _ (sel1 (bne_d _ _) c_37)
        · refine go_iconst (q := 41) (v := 0) dL_isLine_40 (by decide) rfl ?_
          refine go_goto (q := 45) dL_isLine_41 (by decide) ?_
          exact j45 _ (sel0 (bne_d _ _) (fun z => z c_37))
theorem ok_isLine {M : KM} {σ : ST} (hC : CI M σ) {p s : Nat} (hp : p < rN σ.1) (hs : s < 15625) : Ok mL_isLine [vR 0 0, vI (nI p), vI (nI s)] M (QC M 1 σ) := by
  refine ok_of (by decide) rfl (Nat.le_of_ble_eq_true rfl) ⟨rfl, rfl⟩ ?_
  show Go mL_isLine (Zm (QC M 1 σ)) M [some (vR 0 0), some (vI (nI p)), some (vI (nI s)), none, none, none, none] [] 0
  refine go_aload_n (q := 1) dL_isLine_0 rfl rfl rfl ?_
  refine go_iload_n (q := 2) dL_isLine_1 rfl rfl rfl ?_
  refine go_iload_n (q := 3) dL_isLine_2 rfl rfl rfl ?_
  refine go_iconst (q := 4) (v := 0) dL_isLine_3 (by decide) rfl ?_
  refine go_callV [vI (nI p), vI (nI s), vI 0] (cal := mX9_line) (q := 7) dL_isLine_4 lRL_44 vX9_line ⟨by decide, by decide⟩ rfl rfl (by decide) (Nat.le_of_ble_eq_true rfl) (ok_line hC.1 hC.2.1 (CI_qq hC) _ _ _) rfl (fun r4 M4 h4 => ?_)
  obtain ⟨v, rfl, hv, hq4, hk4⟩ := h4
  obtain ⟨hC1, hf1⟩ := CI_line hC hk4 hq4
  refine go_istore_n (q := 8) dL_isLine_7 rfl (by decide) rfl rfl ?_
  refine go_iconst (q := 9) (v := 0) dL_isLine_8 (by decide) rfl ?_
  refine go_istore (q := 11) dL_isLine_9 (by decide) rfl rfl ?_
  refine go_iload_n (q := 12) dL_isLine_11 rfl rfl rfl ?_
  refine go_istore (q := 14) dL_isLine_12 (by decide) rfl rfl ?_
  refine go_iconst (q := 15) (v := 0) dL_isLine_14 (by decide) rfl ?_
  refine go_istore (q := 17) dL_isLine_15 (by decide) rfl rfl ?_
  have e0 : s / 5 ^ 0 = s := Nat.div_one s
  have key := lp_far hp hs hf1 hC1 hv 7 0 (by omega) (by omega)
  rw [e0] at key
  exact key
theorem cell_end {M : KM} {loc : List (Option KV)} {x : Int32} : Go mL_cell (Zm (fun r M2 => (∃ X, X < 2 ^ 31 ∧ r = some (vI (nI X))) ∧ M2 = M)) M loc [vI x] 23 := by
  obtain ⟨X, hX, e⟩ := pk_andE x (m := 2147483647) 31 (by decide)
  refine go_ldc (q := 25) dL_cell_23 kcRL_9 rfl ?_
  refine go_iand (q := 26) dL_cell_25 rfl ?_
  refine go_topi e ?_
  exact go_ireti dL_cell_26 rfl ⟨⟨X, hX, rfl⟩, rfl⟩
theorem ok_cell {M : KM} {b L : Nat} {xs : Nat → Int32} (hL : L ≤ 260) {j : Nat} (hj : j < 50) : OkX b L xs mL_cell [Sum.inl (Value.ref b), vI (nI j)] M (fun r M2 => (∃ X, X < 2 ^ 31 ∧ r = some (vI (nI X))) ∧ M2 = M) := by
  refine ok_ofX (by decide) rfl (Nat.le_of_ble_eq_true rfl) ⟨rfl, rfl⟩ ?_
  show Go mL_cell (ZmX b L xs (fun r M2 => (∃ X, X < 2 ^ 31 ∧ r = some (vI (nI X))) ∧ M2 = M)) M [some (Sum.inl (Value.ref b)), some (vI (nI j))] [] 0
  refine go_iload_n (q := 1) dL_cell_0 rfl rfl rfl ?_
  refine go_aloadR (q := 2) dL_cell_1 rfl rfl rfl ?_
  refine go_xlen (q := 3) dL_cell_2 rfl ?_
  refine go_icmp_geN j L (q := 6) (t := 12) dL_cell_3 (by decide) rfl rfl rfl (by omega) (by omega) (fun c_3 => ?_) (fun c_3 => ?_)
  · refine go_ldc (q := 14) dL_cell_12 kcRL_7 rfl ?_
    refine go_iload_n (q := 15) dL_cell_14 rfl rfl rfl ?_
    refine go_sipush (q := 18) (v := 367) dL_cell_15 (by decide) rfl ?_
    refine go_iadd (q := 19) dL_cell_18 rfl ?_
    refine go_imul (q := 20) dL_cell_19 rfl ?_
    refine go_ldc (q := 22) dL_cell_20 kcRL_8 rfl ?_
    refine go_iadd (q := 23) dL_cell_22 rfl ?_
    exact go_zx cell_end
  · refine go_aloadR (q := 7) dL_cell_6 rfl rfl rfl ?_
    refine go_iload_n (q := 8) dL_cell_7 rfl rfl rfl ?_
    refine go_xld (q := 9) j dL_cell_8 (by rfl) (by omega) (by omega) rfl ?_
    refine go_goto (q := 23) dL_cell_9 (by decide) ?_
    exact go_zx cell_end
