/-! ===== the law's methods: arePersons ===== -/
theorem sons_bg {R : RO} (hW : rW R) (k : Nat) : sonsN R k < 2 ^ 31 := by have := sonsN_le hW k; omega
theorem e4n {o : Option Nat} (h : ∀ k, o = some k → k < 2 ^ 31) : (o == none) = true ↔ e4 o = -4 := by
  rw [e4_eq h]
  cases o <;> simp
theorem q_conf {R : RO} (hW : rW R) : confN R < 2 ^ 31 := by
  have hn := hW.1
  have h1 : confN R ≤ rN R * 20 := sm_le (fun a ha => by
    have := prow_le (F := fun a b => bN (conf R a b)) (a := a) (fun b => bN_le _) (rN R)
    omega)
  omega
theorem sg_apA {Z : KZ} {M : KM} {R : RO} (hR : RA M 0 R) (hW : rW R) {n : Nat} {c : Nat → Nat} (hP : PA M n c) {h : Nat} {hs : Nat → RO} (hH : HA M h hs) {k : Nat} (hk : k < rN R) (hout : Go mL_arePersons Z M [some (vR 0 0), some (vI (nI (rN R))), some (vI (nI (cn (rL R) (k + 1)))), some (vI (nI (cn (fun i => rP R i == none) (k + 1)))), some (vI (nI (cn (fun i => rL R i && sonsN R i == 0) (k + 1)))), some (vI (nI (sm (sonsN R) (k + 1)))), some (vI 1), some (vI (nI k)), some (vI (nI (rS R k))), some (vI (e4 (rP R k))), some (vI (bI (rL R k)))] [] 148) : Go mL_arePersons Z M [some (vR 0 0), some (vI (nI (rN R))), some (vI (nI (cn (rL R) k))), some (vI (nI (cn (fun i => rP R i == none) k))), some (vI (nI (cn (fun i => rL R i && sonsN R i == 0) k))), some (vI (nI (sm (sonsN R) k))), some (vI 1), some (vI (nI k)), none, none, none] [] 47 := by
  refine go_aload_n (q := 48) dL_arePersons_47 rfl rfl rfl ?_
  refine go_iload (q := 50) dL_arePersons_48 rfl rfl ?_
  refine go_iconst (q := 51) (v := 0) dL_arePersons_50 (by decide) rfl ?_
  refine go_cV2 (cal := mX9_person) (q := 54) dL_arePersons_51 lRL_20 vX9_person ⟨by decide, by decide⟩ rfl (by decide) (Nat.le_of_ble_eq_true rfl) (ok_person hR hW _ _) rfl ?_
  refine go_topi (aP0 hW hk) ?_
  refine go_istore (q := 56) dL_arePersons_54 (by decide) rfl rfl ?_
  refine go_aload_n (q := 57) dL_arePersons_56 rfl rfl rfl ?_
  refine go_iload (q := 59) dL_arePersons_57 rfl rfl ?_
  refine go_iconst (q := 60) (v := 2) dL_arePersons_59 (by decide) rfl ?_
  refine go_cV2 (cal := mX9_person) (q := 63) dL_arePersons_60 lRL_20 vX9_person ⟨by decide, by decide⟩ rfl (by decide) (Nat.le_of_ble_eq_true rfl) (ok_person hR hW _ _) rfl ?_
  refine go_topi (aP2 hW hk) ?_
  refine go_istore (q := 65) dL_arePersons_63 (by decide) rfl rfl ?_
  refine go_aload_n (q := 66) dL_arePersons_65 rfl rfl rfl ?_
  refine go_iload (q := 68) dL_arePersons_66 rfl rfl ?_
  refine go_iconst (q := 69) (v := 1) dL_arePersons_68 (by decide) rfl ?_
  refine go_cV2 (cal := mX9_person) (q := 72) dL_arePersons_69 lRL_20 vX9_person ⟨by decide, by decide⟩ rfl (by decide) (Nat.le_of_ble_eq_true rfl) (ok_person hR hW _ _) rfl ?_
  refine go_topi (aP1 hW hk) ?_
  refine go_iconst (q := 73) (v := 1) dL_arePersons_72 (by decide) rfl ?_
  refine go_join2 (J := 81) (v := bI (rL R k)) ?_ (fun j81 => ?_)
  · refine go_istore (q := 83) dL_arePersons_81 (by decide) rfl rfl ?_
    refine go_iload_n (q := 84) dL_arePersons_83 rfl rfl rfl ?_
    refine go_iload (q := 86) dL_arePersons_84 rfl rfl ?_
    refine go_join1 (J := 94) (v := bI (rL R k)) ?_ (fun j94 => ?_)
    · refine go_iadd (q := 95) dL_arePersons_94 rfl ?_
      refine go_topi (cnB (rL R) k) ?_
      refine go_istore_n (q := 96) dL_arePersons_95 rfl (by decide) rfl rfl ?_
      refine go_iload_n (q := 97) dL_arePersons_96 rfl rfl rfl ?_
      refine go_iload (q := 99) dL_arePersons_97 rfl rfl ?_
      refine go_bipush (q := 101) (v := (-4)) dL_arePersons_99 (by decide) rfl ?_
      refine go_join2 (J := 109) (v := bI (rP R k == none)) ?_ (fun j109 => ?_)
      · refine go_iadd (q := 110) dL_arePersons_109 rfl ?_
        refine go_topi (cnB (fun i => rP R i == none) k) ?_
        refine go_istore_n (q := 111) dL_arePersons_110 rfl (by decide) rfl rfl ?_
        refine go_iload (q := 113) dL_arePersons_111 rfl rfl ?_
        refine go_aload_n (q := 114) dL_arePersons_113 rfl rfl rfl ?_
        refine go_iload (q := 116) dL_arePersons_114 rfl rfl ?_
        refine go_iconst (q := 117) (v := 5) dL_arePersons_116 (by decide) rfl ?_
        refine go_cV2 (cal := mX9_person) (q := 120) dL_arePersons_117 lRL_20 vX9_person ⟨by decide, by decide⟩ rfl (by decide) (Nat.le_of_ble_eq_true rfl) (ok_person hR hW _ _) rfl ?_
        refine go_topi (aP5 hW hk) ?_
        refine go_iadd (q := 121) dL_arePersons_120 rfl ?_
        refine go_topi (nI_add _ _) ?_
        refine go_istore (q := 123) dL_arePersons_121 (by decide) rfl rfl ?_
        refine go_iload (q := 125) dL_arePersons_123 rfl rfl ?_
        refine go_iload (q := 127) dL_arePersons_125 rfl rfl ?_
        refine go_join1 (J := 145) (v := bI (rL R k && sonsN R k == 0)) ?_ (fun j145 => ?_)
        · refine go_iadd (q := 146) dL_arePersons_145 rfl ?_
          refine go_topi (cnB (fun i => rL R i && sonsN R i == 0) k) ?_
          refine go_istore (q := 148) dL_arePersons_146 (by decide) rfl rfl ?_
          exact hout
        · refine go_if_eqB (q := 130) (t := 144) dL_arePersons_127 (by decide) rfl (fun c_127 => ?_) (fun c_127 => ?_)
          · refine go_iconst (q := 145) (v := 0) dL_arePersons_144 (by decide) rfl ?_
            exact j145 _ (by rw [c_127]; rfl)
          · refine go_aload_n (q := 131) dL_arePersons_130 rfl rfl rfl ?_
            refine go_iload (q := 133) dL_arePersons_131 rfl rfl ?_
            refine go_iconst (q := 134) (v := 5) dL_arePersons_133 (by decide) rfl ?_
            refine go_cV2 (cal := mX9_person) (q := 137) dL_arePersons_134 lRL_20 vX9_person ⟨by decide, by decide⟩ rfl (by decide) (Nat.le_of_ble_eq_true rfl) (ok_person hR hW _ _) rfl ?_
            refine go_topi (aP5 hW hk) ?_
            refine go_if_neN (sonsN R k) (q := 140) (t := 144) dL_arePersons_137 (by decide) rfl rfl (sons_bg hW k) (fun c_137 => ?_) (fun c_137 => ?_)
            · refine go_iconst (q := 145) (v := 0) dL_arePersons_144 (by decide) rfl ?_
              exact j145 _ (by rw [c_127, show (sonsN R k == 0) = false from by simpa using c_137]; rfl)
            · refine go_iconst (q := 141) (v := 1) dL_arePersons_140 (by decide) rfl ?_
              refine go_goto (q := 145) dL_arePersons_141 (by decide) ?_
              exact j145 _ (by rw [c_127, show (sonsN R k == 0) = true from by simpa using c_137]; rfl)
      · refine go_icmp_ne (q := 104) (t := 108) dL_arePersons_101 (by decide) rfl (fun c_101 => ?_) (fun c_101 => ?_)
        · refine go_iconst (q := 109) (v := 0) dL_arePersons_108 (by decide) rfl ?_
          exact j109 _ (sel0 (e4n (rP_bg hW hk)) c_101)
        · refine go_iconst (q := 105) (v := 1) dL_arePersons_104 (by decide) rfl ?_
          refine go_goto (q := 109) dL_arePersons_105 (by decide) ?_
          exact j109 _ (sel1 (e4n (rP_bg hW hk)) (Classical.not_not.mp c_101))
    · refine go_if_eqB (q := 89) (t := 93) dL_arePersons_86 (by decide) rfl (fun c_86 => ?_) (fun c_86 => ?_)
      · refine go_iconst (q := 94) (v := 0) dL_arePersons_93 (by decide) rfl ?_
        exact j94 _ (selB0 c_86)
      · refine go_iconst (q := 90) (v := 1) dL_arePersons_89 (by decide) rfl ?_
        refine go_goto (q := 94) dL_arePersons_90 (by decide) ?_
        exact j94 _ (selB1 c_86)
  · refine go_icmp_ne (q := 76) (t := 80) dL_arePersons_73 (by decide) rfl (fun c_73 => ?_) (fun c_73 => ?_)
    · refine go_iconst (q := 81) (v := 0) dL_arePersons_80 (by decide) rfl ?_
      exact j81 _ (sel0 bI_eq1.symm c_73)
    · refine go_iconst (q := 77) (v := 1) dL_arePersons_76 (by decide) rfl ?_
      refine go_goto (q := 81) dL_arePersons_77 (by decide) ?_
      exact j81 _ (sel1 bI_eq1.symm (Classical.not_not.mp c_73))
theorem sg_apB {Z : KZ} {M : KM} {R : RO} (hR : RA M 0 R) (hW : rW R) {n : Nat} {c : Nat → Nat} (hP : PA M n c) {h : Nat} {hs : Nat → RO} (hH : HA M h hs) {k : Nat} (hk : k < rN R) {x1 x2 x3 x4 x5 x6 : Int32} (hout : Go mL_arePersons Z M [some (vR 0 0), some (vI x1), some (vI x2), some (vI x3), some (vI x4), some (vI x5), some (vI 1), some (vI (nI k)), some (vI (nI (rS R k))), some (vI (e4 (rP R k))), some (vI (bI (rL R k)))] [] 275) : Go mL_arePersons Z M [some (vR 0 0), some (vI x1), some (vI x2), some (vI x3), some (vI x4), some (vI x5), some (vI x6), some (vI (nI k)), some (vI (nI (rS R k))), some (vI (e4 (rP R k))), some (vI (bI (rL R k)))] [] 148 := by
  refine go_iload (q := 150) dL_arePersons_148 rfl rfl ?_
  refine go_if_lt (q := 153) (t := 272) dL_arePersons_150 (by decide) rfl (fun z => absurd z (nI_pos (by have := hW.2.1 k hk; omega))) (fun _ => ?_)
  refine go_iload (q := 155) dL_arePersons_153 rfl rfl ?_
  refine go_sipush (q := 158) (v := 15625) dL_arePersons_155 (by decide) rfl ?_
  refine go_icmp_ge (q := 161) (t := 272) dL_arePersons_158 (by decide) rfl (fun z => absurd z (lit_nge (b := 15625) rfl (hW.2.1 k hk) (by decide))) (fun _ => ?_)
  refine go_iload (q := 163) dL_arePersons_161 rfl rfl ?_
  refine go_meet1 (J := 191) ?_ (fun j191 => ?_)
  · refine go_iload (q := 193) dL_arePersons_191 rfl rfl ?_
    refine go_iload (q := 195) dL_arePersons_193 rfl rfl ?_
    refine go_icmp_ge (q := 198) (t := 272) dL_arePersons_195 (by decide) rfl (fun z => absurd z (Int32.not_le.mpr (e4_lt (rP_lt hW hk) (by have := hW.1; omega)))) (fun _ => ?_)
    refine go_aload_n (q := 199) dL_arePersons_198 rfl rfl rfl ?_
    refine go_iload (q := 201) dL_arePersons_199 rfl rfl ?_
    refine go_bipush (q := 203) (v := 6) dL_arePersons_201 (by decide) rfl ?_
    refine go_cV2 (cal := mX9_person) (q := 206) dL_arePersons_203 lRL_20 vX9_person ⟨by decide, by decide⟩ rfl (by decide) (Nat.le_of_ble_eq_true rfl) (ok_person hR hW _ _) rfl ?_
    refine go_topi (aP6 hW hk) ?_
    refine go_aload_n (q := 207) dL_arePersons_206 rfl rfl rfl ?_
    refine go_iload (q := 209) dL_arePersons_207 rfl rfl ?_
    refine go_iconst (q := 210) (v := 5) dL_arePersons_209 (by decide) rfl ?_
    refine go_cV2 (cal := mX9_person) (q := 213) dL_arePersons_210 lRL_20 vX9_person ⟨by decide, by decide⟩ rfl (by decide) (Nat.le_of_ble_eq_true rfl) (ok_person hR hW _ _) rfl ?_
    refine go_topi (aP5 hW hk) ?_
    refine go_icmp_gt (q := 216) (t := 272) dL_arePersons_213 (by decide) rfl (fun z => absurd z (nI_nlt (q_sonsL R k) (sons_bg hW k))) (fun _ => ?_)
    refine go_aload_n (q := 217) dL_arePersons_216 rfl rfl rfl ?_
    refine go_iload (q := 219) dL_arePersons_217 rfl rfl ?_
    refine go_iconst (q := 220) (v := 5) dL_arePersons_219 (by decide) rfl ?_
    refine go_cV2 (cal := mX9_person) (q := 223) dL_arePersons_220 lRL_20 vX9_person ⟨by decide, by decide⟩ rfl (by decide) (Nat.le_of_ble_eq_true rfl) (ok_person hR hW _ _) rfl ?_
    refine go_topi (aP5 hW hk) ?_
    refine go_iconst (q := 224) (v := 4) dL_arePersons_223 (by decide) rfl ?_
    refine go_icmp_gt (q := 227) (t := 272) dL_arePersons_224 (by decide) rfl (fun z => absurd z (lit_nlt (a := 4) rfl (sonsN_le hW k) (by decide))) (fun _ => ?_)
    refine go_aload_n (q := 228) dL_arePersons_227 rfl rfl rfl ?_
    refine go_iload (q := 230) dL_arePersons_228 rfl rfl ?_
    refine go_iconst (q := 231) (v := 5) dL_arePersons_230 (by decide) rfl ?_
    refine go_cV2 (cal := mX9_person) (q := 234) dL_arePersons_231 lRL_20 vX9_person ⟨by decide, by decide⟩ rfl (by decide) (Nat.le_of_ble_eq_true rfl) (ok_person hR hW _ _) rfl ?_
    refine go_topi (aP5 hW hk) ?_
    refine go_aload_n (q := 235) dL_arePersons_234 rfl rfl rfl ?_
    refine go_iload (q := 237) dL_arePersons_235 rfl rfl ?_
    refine go_bipush (q := 239) (v := 9) dL_arePersons_237 (by decide) rfl ?_
    refine go_cV2 (cal := mX9_person) (q := 242) dL_arePersons_239 lRL_20 vX9_person ⟨by decide, by decide⟩ rfl (by decide) (Nat.le_of_ble_eq_true rfl) (ok_person hR hW _ _) rfl ?_
    refine go_topi (aP9 hW hk) ?_
    refine go_icmp_gt (q := 245) (t := 272) dL_arePersons_242 (by decide) rfl (fun z => absurd z (nI_nlt (q_desc hW k) (cn_big _ hW))) (fun _ => ?_)
    refine go_aload_n (q := 246) dL_arePersons_245 rfl rfl rfl ?_
    refine go_iload (q := 248) dL_arePersons_246 rfl rfl ?_
    refine go_bipush (q := 250) (v := 7) dL_arePersons_248 (by decide) rfl ?_
    refine go_cV2 (cal := mX9_person) (q := 253) dL_arePersons_250 lRL_20 vX9_person ⟨by decide, by decide⟩ rfl (by decide) (Nat.le_of_ble_eq_true rfl) (ok_person hR hW _ _) rfl ?_
    refine go_topi (aP7 hW hk) ?_
    refine go_iconst (q := 254) (v := 3) dL_arePersons_253 (by decide) rfl ?_
    refine go_icmp_gt (q := 257) (t := 272) dL_arePersons_254 (by decide) rfl (fun z => absurd z (lit_nlt (a := 3) rfl (q_bro hW hk) (by decide))) (fun _ => ?_)
    refine go_aload_n (q := 258) dL_arePersons_257 rfl rfl rfl ?_
    refine go_iload (q := 260) dL_arePersons_258 rfl rfl ?_
    refine go_iload (q := 262) dL_arePersons_260 rfl rfl ?_
    refine go_cV2 (cal := mX9_kin) (q := 265) dL_arePersons_262 lRL_29 vX9_kin ⟨by decide, by decide⟩ rfl (by decide) (Nat.le_of_ble_eq_true rfl) (ok_kin hR hW _ _) rfl ?_
    refine go_topi (show aKin R (nI k) (nI k) = 0 from by rw [aKn hW hk hk, kin_self]; rfl) ?_
    refine go_if_ne (q := 268) (t := 272) dL_arePersons_265 (by decide) rfl (fun z => absurd z (nn rfl)) (fun _ => ?_)
    refine go_iconst (q := 269) (v := 1) dL_arePersons_268 (by decide) rfl ?_
    refine go_goto (q := 273) dL_arePersons_269 (by decide) ?_
    refine go_istore (q := 275) dL_arePersons_273 (by decide) rfl rfl ?_
    exact hout
  · refine go_if_eqB (q := 166) (t := 180) dL_arePersons_163 (by decide) rfl (fun c_163 => ?_) (fun c_163 => ?_)
    · refine go_aload_n (q := 181) dL_arePersons_180 rfl rfl rfl ?_
      refine go_iload (q := 183) dL_arePersons_181 rfl rfl ?_
      refine go_cV1 (cal := mX9_bearer) (q := 186) dL_arePersons_183 lRL_26 vX9_bearer ⟨by decide, by decide⟩ rfl (by decide) (Nat.le_of_ble_eq_true rfl) (ok_bearer hR hW _) rfl ?_
      refine go_topi (aBr (hW.2.1 k hk)) ?_
      refine go_iload (q := 188) dL_arePersons_186 rfl rfl ?_
      refine go_icmp_eq (q := 191) (t := 272) dL_arePersons_188 (by decide) rfl (fun z => absurd z (fun z => q_bearD c_163 ((e4_nI (bear_bg hW) (by have := hW.1; omega)).mp z))) (fun _ => ?_)
      exact j191
    · refine go_aload_n (q := 167) dL_arePersons_166 rfl rfl rfl ?_
      refine go_iload (q := 169) dL_arePersons_167 rfl rfl ?_
      refine go_cV1 (cal := mX9_bearer) (q := 172) dL_arePersons_169 lRL_26 vX9_bearer ⟨by decide, by decide⟩ rfl (by decide) (Nat.le_of_ble_eq_true rfl) (ok_bearer hR hW _) rfl ?_
      refine go_topi (show aBearer R (nI (rS R k)) = nI k from by rw [aBr (hW.2.1 k hk), q_bear hW hk c_163]; rfl) ?_
      refine go_iload (q := 174) dL_arePersons_172 rfl rfl ?_
      refine go_icmp_ne (q := 177) (t := 272) dL_arePersons_174 (by decide) rfl (fun z => absurd z (nn rfl)) (fun _ => ?_)
      refine go_goto (q := 191) dL_arePersons_177 (by decide) ?_
      exact j191
theorem sg_apC {Z : KZ} {M : KM} {R : RO} (hR : RA M 0 R) (hW : rW R) {n : Nat} {c : Nat → Nat} (hP : PA M n c) {h : Nat} {hs : Nat → RO} (hH : HA M h hs) {k : Nat} (hk : k < rN R) {x1 x2 x3 x4 x5 : Int32} (hout : Go mL_arePersons Z M [some (vR 0 0), some (vI x1), some (vI x2), some (vI x3), some (vI x4), some (vI x5), some (vI 1), some (vI (nI k)), some (vI (nI (rS R k))), some (vI (e4 (rP R k))), some (vI (bI (rL R k)))] [] 479) : Go mL_arePersons Z M [some (vR 0 0), some (vI x1), some (vI x2), some (vI x3), some (vI x4), some (vI x5), some (vI 1), some (vI (nI k)), some (vI (nI (rS R k))), some (vI (e4 (rP R k))), some (vI (bI (rL R k)))] [] 275 := by
  refine go_iload (q := 277) dL_arePersons_275 rfl rfl ?_
  refine go_bipush (q := 279) (v := (-4)) dL_arePersons_277 (by decide) rfl ?_
  refine go_icmp_ne (q := 282) (t := 367) dL_arePersons_279 (by decide) rfl (fun c_279 => ?_) (fun c_279 => ?_)
  · obtain ⟨f, hf⟩ : ∃ f, rP R k = some f := by
      cases h : rP R k with
      | none => exact absurd (show e4 (rP R k) = -4 from by rw [h]; rfl) c_279
      | some f => exact ⟨f, rfl⟩
    obtain ⟨kk, mm, hk3, hk6, hm4, hm5, -⟩ := rP_some hW hk hf
    have hfn := rP_n hW hk f hf
    refine go_iload (q := 369) dL_arePersons_367 rfl rfl ?_
    refine go_if_eq (q := 372) (t := 476) dL_arePersons_369 (by decide) rfl (fun z => absurd z (by decide)) (fun _ => ?_)
    refine go_iload (q := 374) dL_arePersons_372 rfl rfl ?_
    refine go_if_lt (q := 377) (t := 476) dL_arePersons_374 (by decide) rfl (fun z => absurd z (fun z => by rw [(e4_neg (rP_bg hW hk)).mp z] at hf; cases hf)) (fun _ => ?_)
    refine go_aload_n (q := 378) dL_arePersons_377 rfl rfl rfl ?_
    refine go_iload (q := 380) dL_arePersons_378 rfl rfl ?_
    refine go_iconst (q := 381) (v := 3) dL_arePersons_380 (by decide) rfl ?_
    refine go_cV2 (cal := mX9_person) (q := 384) dL_arePersons_381 lRL_20 vX9_person ⟨by decide, by decide⟩ rfl (by decide) (Nat.le_of_ble_eq_true rfl) (ok_person hR hW _ _) rfl ?_
    refine go_topi (show aPerson R (nI k) 3 = nI kk from by rw [aP3 hW hk, hk3]; rfl) ?_
    refine go_if_lt (q := 387) (t := 476) dL_arePersons_384 (by decide) rfl (fun z => absurd z (nI_pos (by omega))) (fun _ => ?_)
    refine go_aload_n (q := 388) dL_arePersons_387 rfl rfl rfl ?_
    refine go_iload (q := 390) dL_arePersons_388 rfl rfl ?_
    refine go_iconst (q := 391) (v := 3) dL_arePersons_390 (by decide) rfl ?_
    refine go_cV2 (cal := mX9_person) (q := 394) dL_arePersons_391 lRL_20 vX9_person ⟨by decide, by decide⟩ rfl (by decide) (Nat.le_of_ble_eq_true rfl) (ok_person hR hW _ _) rfl ?_
    refine go_topi (show aPerson R (nI k) 3 = nI kk from by rw [aP3 hW hk, hk3]; rfl) ?_
    refine go_bipush (q := 396) (v := 6) dL_arePersons_394 (by decide) rfl ?_
    refine go_icmp_ge (q := 399) (t := 476) dL_arePersons_396 (by decide) rfl (fun z => absurd z (lit_nge (b := 6) rfl hk6 (by decide))) (fun _ => ?_)
    refine go_aload_n (q := 400) dL_arePersons_399 rfl rfl rfl ?_
    refine go_iload (q := 402) dL_arePersons_400 rfl rfl ?_
    refine go_iconst (q := 403) (v := 4) dL_arePersons_402 (by decide) rfl ?_
    refine go_cV2 (cal := mX9_person) (q := 406) dL_arePersons_403 lRL_20 vX9_person ⟨by decide, by decide⟩ rfl (by decide) (Nat.le_of_ble_eq_true rfl) (ok_person hR hW _ _) rfl ?_
    refine go_topi (show aPerson R (nI k) 4 = nI mm from by rw [aP4 hW hk, hm4]; rfl) ?_
    refine go_if_lt (q := 409) (t := 476) dL_arePersons_406 (by decide) rfl (fun z => absurd z (nI_pos (by omega))) (fun _ => ?_)
    refine go_aload_n (q := 410) dL_arePersons_409 rfl rfl rfl ?_
    refine go_iload (q := 412) dL_arePersons_410 rfl rfl ?_
    refine go_iconst (q := 413) (v := 4) dL_arePersons_412 (by decide) rfl ?_
    refine go_cV2 (cal := mX9_person) (q := 416) dL_arePersons_413 lRL_20 vX9_person ⟨by decide, by decide⟩ rfl (by decide) (Nat.le_of_ble_eq_true rfl) (ok_person hR hW _ _) rfl ?_
    refine go_topi (show aPerson R (nI k) 4 = nI mm from by rw [aP4 hW hk, hm4]; rfl) ?_
    refine go_iconst (q := 417) (v := 5) dL_arePersons_416 (by decide) rfl ?_
    refine go_icmp_ge (q := 420) (t := 476) dL_arePersons_417 (by decide) rfl (fun z => absurd z (lit_nge (b := 5) rfl hm5 (by decide))) (fun _ => ?_)
    refine go_aload_n (q := 421) dL_arePersons_420 rfl rfl rfl ?_
    refine go_iload (q := 423) dL_arePersons_421 rfl rfl ?_
    refine go_bipush (q := 425) (v := 10) dL_arePersons_423 (by decide) rfl ?_
    refine go_cV2 (cal := mX9_person) (q := 428) dL_arePersons_425 lRL_20 vX9_person ⟨by decide, by decide⟩ rfl (by decide) (Nat.le_of_ble_eq_true rfl) (ok_person hR hW _ _) rfl ?_
    refine go_topi (show aPerson R (nI k) 10 = nI (depth R f + 1) from by rw [aP10 hW hk, depth_some hW hk hf]) ?_
    refine go_aload_n (q := 429) dL_arePersons_428 rfl rfl rfl ?_
    refine go_iload (q := 431) dL_arePersons_429 rfl rfl ?_
    refine go_bipush (q := 433) (v := 10) dL_arePersons_431 (by decide) rfl ?_
    refine go_cV2 (cal := mX9_person) (q := 436) dL_arePersons_433 lRL_20 vX9_person ⟨by decide, by decide⟩ rfl (by decide) (Nat.le_of_ble_eq_true rfl) (ok_person hR hW _ _) rfl ?_
    refine go_topi (show aPerson R (e4 (rP R k)) 10 = nI (depth R f) from by rw [hf]; exact aP10 hW hfn) ?_
    refine go_iconst (q := 437) (v := 1) dL_arePersons_436 (by decide) rfl ?_
    refine go_iadd (q := 438) dL_arePersons_437 rfl ?_
    refine go_topi (nI_add _ 1) ?_
    refine go_icmp_ne (q := 441) (t := 476) dL_arePersons_438 (by decide) rfl (fun z => absurd z (nn rfl)) (fun _ => ?_)
    refine go_aload_n (q := 442) dL_arePersons_441 rfl rfl rfl ?_
    refine go_iload (q := 444) dL_arePersons_442 rfl rfl ?_
    refine go_bipush (q := 446) (v := 11) dL_arePersons_444 (by decide) rfl ?_
    refine go_cV2 (cal := mX9_person) (q := 449) dL_arePersons_446 lRL_20 vX9_person ⟨by decide, by decide⟩ rfl (by decide) (Nat.le_of_ble_eq_true rfl) (ok_person hR hW _ _) rfl ?_
    refine go_topi (show aPerson R (nI k) 11 = nI (ap (rS R k) (rS R f)) from by rw [aP11 hW hk, pF_some hf]; rfl) ?_
    refine go_aload_n (q := 450) dL_arePersons_449 rfl rfl rfl ?_
    refine go_iload (q := 452) dL_arePersons_450 rfl rfl ?_
    refine go_iload (q := 454) dL_arePersons_452 rfl rfl ?_
    refine go_cV2 (cal := mX9_differs) (q := 457) dL_arePersons_454 lRL_32 vX9_differs ⟨by decide, by decide⟩ rfl (by decide) (Nat.le_of_ble_eq_true rfl) (ok_differs hR hW _ _) rfl ?_
    refine go_topi (show aDiffers R (nI k) (e4 (rP R k)) = nI (ap (rS R k) (rS R f)) from by rw [hf]; exact aDf hW hk hfn) ?_
    refine go_icmp_ne (q := 460) (t := 476) dL_arePersons_457 (by decide) rfl (fun z => absurd z (nn rfl)) (fun _ => ?_)
    refine go_aload_n (q := 461) dL_arePersons_460 rfl rfl rfl ?_
    refine go_iload (q := 463) dL_arePersons_461 rfl rfl ?_
    refine go_iload (q := 465) dL_arePersons_463 rfl rfl ?_
    refine go_cV2 (cal := mX9_kin) (q := 468) dL_arePersons_465 lRL_29 vX9_kin ⟨by decide, by decide⟩ rfl (by decide) (Nat.le_of_ble_eq_true rfl) (ok_kin hR hW _ _) rfl ?_
    refine go_topi (show aKin R (nI k) (e4 (rP R k)) = 1 from by rw [hf]; show aKin R (nI k) (nI f) = 1; rw [aKn hW hk hfn, q_kin1 hW hk hf]; rfl) ?_
    refine go_iconst (q := 469) (v := 1) dL_arePersons_468 (by decide) rfl ?_
    refine go_icmp_ne (q := 472) (t := 476) dL_arePersons_469 (by decide) rfl (fun z => absurd z (nn rfl)) (fun _ => ?_)
    refine go_iconst (q := 473) (v := 1) dL_arePersons_472 (by decide) rfl ?_
    refine go_goto (q := 477) dL_arePersons_473 (by decide) ?_
    refine go_istore (q := 479) dL_arePersons_477 (by decide) rfl rfl ?_
    exact hout
  · have hn : rP R k = none := (e4_eq (rP_bg hW hk)).mp (Classical.not_not.mp c_279)
    refine go_iload (q := 284) dL_arePersons_282 rfl rfl ?_
    refine go_if_eq (q := 287) (t := 361) dL_arePersons_284 (by decide) rfl (fun z => absurd z (by decide)) (fun _ => ?_)
    refine go_aload_n (q := 288) dL_arePersons_287 rfl rfl rfl ?_
    refine go_iload (q := 290) dL_arePersons_288 rfl rfl ?_
    refine go_iconst (q := 291) (v := 3) dL_arePersons_290 (by decide) rfl ?_
    refine go_cV2 (cal := mX9_person) (q := 294) dL_arePersons_291 lRL_20 vX9_person ⟨by decide, by decide⟩ rfl (by decide) (Nat.le_of_ble_eq_true rfl) (ok_person hR hW _ _) rfl ?_
    refine go_topi (show aPerson R (nI k) 3 = -4 from by rw [aP3 hW hk, rK_none hn]; rfl) ?_
    refine go_bipush (q := 296) (v := (-4)) dL_arePersons_294 (by decide) rfl ?_
    refine go_icmp_ne (q := 299) (t := 361) dL_arePersons_296 (by decide) rfl (fun z => absurd z (nn rfl)) (fun _ => ?_)
    refine go_aload_n (q := 300) dL_arePersons_299 rfl rfl rfl ?_
    refine go_iload (q := 302) dL_arePersons_300 rfl rfl ?_
    refine go_iconst (q := 303) (v := 4) dL_arePersons_302 (by decide) rfl ?_
    refine go_cV2 (cal := mX9_person) (q := 306) dL_arePersons_303 lRL_20 vX9_person ⟨by decide, by decide⟩ rfl (by decide) (Nat.le_of_ble_eq_true rfl) (ok_person hR hW _ _) rfl ?_
    refine go_topi (show aPerson R (nI k) 4 = -4 from by rw [aP4 hW hk, rM_none hn]; rfl) ?_
    refine go_bipush (q := 308) (v := (-4)) dL_arePersons_306 (by decide) rfl ?_
    refine go_icmp_ne (q := 311) (t := 361) dL_arePersons_308 (by decide) rfl (fun z => absurd z (nn rfl)) (fun _ => ?_)
    refine go_aload_n (q := 312) dL_arePersons_311 rfl rfl rfl ?_
    refine go_iload (q := 314) dL_arePersons_312 rfl rfl ?_
    refine go_bipush (q := 316) (v := 7) dL_arePersons_314 (by decide) rfl ?_
    refine go_cV2 (cal := mX9_person) (q := 319) dL_arePersons_316 lRL_20 vX9_person ⟨by decide, by decide⟩ rfl (by decide) (Nat.le_of_ble_eq_true rfl) (ok_person hR hW _ _) rfl ?_
    refine go_topi (show aPerson R (nI k) 7 = 0 from by rw [aP7 hW hk, q_bro0 hn]; rfl) ?_
    refine go_if_ne (q := 322) (t := 361) dL_arePersons_319 (by decide) rfl (fun z => absurd z (nn rfl)) (fun _ => ?_)
    refine go_aload_n (q := 323) dL_arePersons_322 rfl rfl rfl ?_
    refine go_iload (q := 325) dL_arePersons_323 rfl rfl ?_
    refine go_bipush (q := 327) (v := 8) dL_arePersons_325 (by decide) rfl ?_
    refine go_cV2 (cal := mX9_person) (q := 330) dL_arePersons_327 lRL_20 vX9_person ⟨by decide, by decide⟩ rfl (by decide) (Nat.le_of_ble_eq_true rfl) (ok_person hR hW _ _) rfl ?_
    refine go_topi (show aPerson R (nI k) 8 = 0 from by rw [aP8 hW hk, q_cou0 hn]; rfl) ?_
    refine go_if_ne (q := 333) (t := 361) dL_arePersons_330 (by decide) rfl (fun z => absurd z (nn rfl)) (fun _ => ?_)
    refine go_aload_n (q := 334) dL_arePersons_333 rfl rfl rfl ?_
    refine go_iload (q := 336) dL_arePersons_334 rfl rfl ?_
    refine go_bipush (q := 338) (v := 10) dL_arePersons_336 (by decide) rfl ?_
    refine go_cV2 (cal := mX9_person) (q := 341) dL_arePersons_338 lRL_20 vX9_person ⟨by decide, by decide⟩ rfl (by decide) (Nat.le_of_ble_eq_true rfl) (ok_person hR hW _ _) rfl ?_
    refine go_topi (show aPerson R (nI k) 10 = 0 from by rw [aP10 hW hk, depth_none hW hk hn]; rfl) ?_
    refine go_if_ne (q := 344) (t := 361) dL_arePersons_341 (by decide) rfl (fun z => absurd z (nn rfl)) (fun _ => ?_)
    refine go_aload_n (q := 345) dL_arePersons_344 rfl rfl rfl ?_
    refine go_iload (q := 347) dL_arePersons_345 rfl rfl ?_
    refine go_bipush (q := 349) (v := 11) dL_arePersons_347 (by decide) rfl ?_
    refine go_cV2 (cal := mX9_person) (q := 352) dL_arePersons_349 lRL_20 vX9_person ⟨by decide, by decide⟩ rfl (by decide) (Nat.le_of_ble_eq_true rfl) (ok_person hR hW _ _) rfl ?_
    refine go_topi (show aPerson R (nI k) 11 = -4 from by rw [aP11 hW hk, pF_none hn]; rfl) ?_
    refine go_bipush (q := 354) (v := (-4)) dL_arePersons_352 (by decide) rfl ?_
    refine go_icmp_ne (q := 357) (t := 361) dL_arePersons_354 (by decide) rfl (fun z => absurd z (nn rfl)) (fun _ => ?_)
    refine go_iconst (q := 358) (v := 1) dL_arePersons_357 (by decide) rfl ?_
    refine go_goto (q := 362) dL_arePersons_358 (by decide) ?_
    refine go_istore (q := 364) dL_arePersons_362 (by decide) rfl rfl ?_
    refine go_goto (q := 479) dL_arePersons_364 (by decide) ?_
    exact hout
theorem tl_ap2 {M : KM} {R : RO} (hR : RA M 0 R) (hW : rW R) (hI : rI R) {n : Nat} {c : Nat → Nat} (hP : PA M n c) {h : Nat} {hs : Nat → RO} (hH : HA M h hs) {s8 : Option KV} : Go mL_arePersons (Zm (QF (some (vI (bI true))) M)) M [some (vR 0 0), some (vI (nI (rN R))), some (vI (nI (cn (rL R) (rN R)))), some (vI (nI (cn (fun i => rP R i == none) (rN R)))), some (vI (nI (cn (fun i => rL R i && sonsN R i == 0) (rN R)))), some (vI (nI (sm (sonsN R) (rN R)))), some (vI 1), some (vI (nI (sm (fun m => cn (fun i => rL R i && mk (rS R i) 3 == m) (rN R)) 5))), s8, none, none] [] 515 := by
  have hn := hW.1
  have hH8 := q_heirs hI
  have hss : nI (sm (sonsN R) (rN R)) = nI (rN R - cn (fun i => rP R i == none) (rN R)) := by
    congr 1
    have := q_sons hW
    omega
  have hbo : nI (sm (fun m => cn (fun i => rL R i && mk (rS R i) 3 == m) (rN R)) 5) = nI (cn (rL R) (rN R)) := congrArg nI (q_borne R)
  have hdp : mx (depth R) (rN R) < (if rN R = 0 then 1 else rN R) := by
    split
    · rename_i h0
      rw [h0]; exact Nat.zero_lt_one
    · rename_i h0
      exact q_depth hW h0
  refine go_iload (q := 517) dL_arePersons_515 rfl rfl ?_
  refine go_if_eq (q := 520) (t := 679) dL_arePersons_517 (by decide) rfl (fun z => absurd z (by decide)) (fun _ => ?_)
  refine go_iload_n (q := 521) dL_arePersons_520 rfl rfl rfl ?_
  refine go_aload_n (q := 522) dL_arePersons_521 rfl rfl rfl ?_
  refine go_iconst (q := 523) (v := 1) dL_arePersons_522 (by decide) rfl ?_
  refine go_cV1 (cal := mX9_count) (q := 526) dL_arePersons_523 lRL_14 vX9_count ⟨by decide, by decide⟩ rfl (by decide) (Nat.le_of_ble_eq_true rfl) (ok_count hR hW hP hH _) rfl ?_
  refine go_topi (aN1) ?_
  refine go_icmp_ne (q := 529) (t := 679) dL_arePersons_526 (by decide) rfl (fun z => absurd z (nn rfl)) (fun _ => ?_)
  refine go_iload_n (q := 530) dL_arePersons_529 rfl rfl rfl ?_
  refine go_aload_n (q := 531) dL_arePersons_530 rfl rfl rfl ?_
  refine go_iconst (q := 532) (v := 2) dL_arePersons_531 (by decide) rfl ?_
  refine go_cV1 (cal := mX9_count) (q := 535) dL_arePersons_532 lRL_14 vX9_count ⟨by decide, by decide⟩ rfl (by decide) (Nat.le_of_ble_eq_true rfl) (ok_count hR hW hP hH _) rfl ?_
  refine go_topi (aN2) ?_
  refine go_icmp_ne (q := 538) (t := 679) dL_arePersons_535 (by decide) rfl (fun z => absurd z (nn rfl)) (fun _ => ?_)
  refine go_iload (q := 540) dL_arePersons_538 rfl rfl ?_
  refine go_aload_n (q := 541) dL_arePersons_540 rfl rfl rfl ?_
  refine go_bipush (q := 543) (v := 7) dL_arePersons_541 (by decide) rfl ?_
  refine go_cV1 (cal := mX9_count) (q := 546) dL_arePersons_543 lRL_14 vX9_count ⟨by decide, by decide⟩ rfl (by decide) (Nat.le_of_ble_eq_true rfl) (ok_count hR hW hP hH _) rfl ?_
  refine go_topi (aN7) ?_
  refine go_icmp_ne (q := 549) (t := 679) dL_arePersons_546 (by decide) rfl (fun z => absurd z (nn rfl)) (fun _ => ?_)
  refine go_iload (q := 551) dL_arePersons_549 rfl rfl ?_
  refine go_iload_n (q := 552) dL_arePersons_551 rfl rfl rfl ?_
  refine go_iload_n (q := 553) dL_arePersons_552 rfl rfl rfl ?_
  refine go_isub (q := 554) dL_arePersons_553 rfl ?_
  refine go_topi (pk_sub (cn_le _ _)) ?_
  refine go_icmp_ne (q := 557) (t := 679) dL_arePersons_554 (by decide) rfl (fun z => absurd z (nn hss)) (fun _ => ?_)
  refine go_iload (q := 559) dL_arePersons_557 rfl rfl ?_
  refine go_iload_n (q := 560) dL_arePersons_559 rfl rfl rfl ?_
  refine go_icmp_ne (q := 563) (t := 679) dL_arePersons_560 (by decide) rfl (fun z => absurd z (nn hbo)) (fun _ => ?_)
  refine go_aload_n (q := 564) dL_arePersons_563 rfl rfl rfl ?_
  refine go_iconst (q := 565) (v := 3) dL_arePersons_564 (by decide) rfl ?_
  refine go_cV1 (cal := mX9_count) (q := 568) dL_arePersons_565 lRL_14 vX9_count ⟨by decide, by decide⟩ rfl (by decide) (Nat.le_of_ble_eq_true rfl) (ok_count hR hW hP hH _) rfl ?_
  refine go_topi (aN3) ?_
  refine go_if_lt (q := 571) (t := 679) dL_arePersons_568 (by decide) rfl (fun z => absurd z (nI_pos (q_conf hW))) (fun _ => ?_)
  refine go_aload_n (q := 572) dL_arePersons_571 rfl rfl rfl ?_
  refine go_iconst (q := 573) (v := 5) dL_arePersons_572 (by decide) rfl ?_
  refine go_cV1 (cal := mX9_count) (q := 576) dL_arePersons_573 lRL_14 vX9_count ⟨by decide, by decide⟩ rfl (by decide) (Nat.le_of_ble_eq_true rfl) (ok_count hR hW hP hH _) rfl ?_
  refine go_topi (aN5) ?_
  refine go_iload_n (q := 577) dL_arePersons_576 rfl rfl rfl ?_
  refine go_icmp_gt (q := 580) (t := 679) dL_arePersons_577 (by decide) rfl (fun z => absurd z (nI_nlt (cn_le _ _) (by omega))) (fun _ => ?_)
  refine go_aload_n (q := 581) dL_arePersons_580 rfl rfl rfl ?_
  refine go_iconst (q := 582) (v := 5) dL_arePersons_581 (by decide) rfl ?_
  refine go_cV1 (cal := mX9_count) (q := 585) dL_arePersons_582 lRL_14 vX9_count ⟨by decide, by decide⟩ rfl (by decide) (Nat.le_of_ble_eq_true rfl) (ok_count hR hW hP hH _) rfl ?_
  refine go_topi (aN5) ?_
  refine go_iload_n (q := 586) dL_arePersons_585 rfl rfl rfl ?_
  refine go_icmp_lt (q := 589) (t := 679) dL_arePersons_586 (by decide) rfl (fun z => absurd z (nI_nlt (q_new hW) (cn_big _ hW))) (fun _ => ?_)
  refine go_aload_n (q := 590) dL_arePersons_589 rfl rfl rfl ?_
  refine go_bipush (q := 592) (v := 6) dL_arePersons_590 (by decide) rfl ?_
  refine go_cV1 (cal := mX9_count) (q := 595) dL_arePersons_592 lRL_14 vX9_count ⟨by decide, by decide⟩ rfl (by decide) (Nat.le_of_ble_eq_true rfl) (ok_count hR hW hP hH _) rfl ?_
  refine go_topi (aN6) ?_
  refine go_iload_n (q := 596) dL_arePersons_595 rfl rfl rfl ?_
  refine go_icmp_gt (q := 599) (t := 679) dL_arePersons_596 (by decide) rfl (fun z => absurd z (nI_nlt (q_far R) (cn_big _ hW))) (fun _ => ?_)
  refine go_aload_n (q := 600) dL_arePersons_599 rfl rfl rfl ?_
  refine go_bipush (q := 602) (v := 8) dL_arePersons_600 (by decide) rfl ?_
  refine go_cV1 (cal := mX9_count) (q := 605) dL_arePersons_602 lRL_14 vX9_count ⟨by decide, by decide⟩ rfl (by decide) (Nat.le_of_ble_eq_true rfl) (ok_count hR hW hP hH _) rfl ?_
  refine go_topi (aN8) ?_
  refine go_iload_n (q := 606) dL_arePersons_605 rfl rfl rfl ?_
  refine go_iload_n (q := 607) dL_arePersons_606 rfl rfl rfl ?_
  refine go_isub (q := 608) dL_arePersons_607 rfl ?_
  refine go_topi (pk_sub (cn_le _ _)) ?_
  refine go_icmp_gt (q := 611) (t := 679) dL_arePersons_608 (by decide) rfl (fun z => absurd z (nI_nlt (by omega) (by omega))) (fun _ => ?_)
  refine go_aload_n (q := 612) dL_arePersons_611 rfl rfl rfl ?_
  refine go_iconst (q := 613) (v := 4) dL_arePersons_612 (by decide) rfl ?_
  refine go_cV1 (cal := mX9_count) (q := 616) dL_arePersons_613 lRL_14 vX9_count ⟨by decide, by decide⟩ rfl (by decide) (Nat.le_of_ble_eq_true rfl) (ok_count hR hW hP hH _) rfl ?_
  refine go_topi (aN4) ?_
  refine go_iload_n (q := 617) dL_arePersons_616 rfl rfl rfl ?_
  refine go_join1 (J := 625) (v := nI (if rN R = 0 then 1 else rN R)) ?_ (fun j625 => ?_)
  · refine go_icmp_ge (q := 628) (t := 679) dL_arePersons_625 (by decide) rfl (fun z => absurd z (nI_ge hdp (by split <;> omega))) (fun _ => ?_)
    refine go_aload_n (q := 629) dL_arePersons_628 rfl rfl rfl ?_
    refine go_cV0 (cal := mX9_unlike) (q := 632) dL_arePersons_629 lRL_38 vX9_unlike ⟨by decide, by decide⟩ rfl (by decide) (Nat.le_of_ble_eq_true rfl) (ok_unlike hR hW) rfl ?_
    refine go_dconst0 (q := 633) dL_arePersons_632 rfl ?_
    refine go_dcmp (q := 634) dL_arePersons_633 rfl ?_
    refine go_if_lt (q := 637) (t := 679) dL_arePersons_634 (by decide) rfl (fun z => absurd z (q_u1 hW)) (fun _ => ?_)
    refine go_aload_n (q := 638) dL_arePersons_637 rfl rfl rfl ?_
    refine go_cV0 (cal := mX9_unlike) (q := 641) dL_arePersons_638 lRL_38 vX9_unlike ⟨by decide, by decide⟩ rfl (by decide) (Nat.le_of_ble_eq_true rfl) (ok_unlike hR hW) rfl ?_
    refine go_ldc2d (q := 644) dL_arePersons_641 kcRL_42 rfl ?_
    refine go_dcmp (q := 645) dL_arePersons_644 rfl ?_
    refine go_if_gt (q := 648) (t := 679) dL_arePersons_645 (by decide) rfl (fun z => absurd z (q_u2 hW)) (fun _ => ?_)
    refine go_iload_n (q := 649) dL_arePersons_648 rfl rfl rfl ?_
    refine go_iconst (q := 650) (v := 1) dL_arePersons_649 (by decide) rfl ?_
    refine go_join2 (J := 658) (v := bI (decide (1 < cn (rL R) (rN R)))) ?_ (fun j658 => ?_)
    · refine go_aload_n (q := 659) dL_arePersons_658 rfl rfl rfl ?_
      refine go_cV0 (cal := mX9_unlike) (q := 662) dL_arePersons_659 lRL_38 vX9_unlike ⟨by decide, by decide⟩ rfl (by decide) (Nat.le_of_ble_eq_true rfl) (ok_unlike hR hW) rfl ?_
      refine go_dconst0 (q := 663) dL_arePersons_662 rfl ?_
      refine go_dcmp (q := 664) dL_arePersons_663 rfl ?_
      refine go_join1 (J := 672) (v := bI (decide (1 < cn (rL R) (rN R)))) ?_ (fun j672 => ?_)
      · refine go_icmp_ne (q := 675) (t := 679) dL_arePersons_672 (by decide) rfl (fun z => absurd z (nn rfl)) (fun _ => ?_)
        refine go_iconst (q := 676) (v := 1) dL_arePersons_675 (by decide) rfl ?_
        refine go_goto (q := 680) dL_arePersons_676 (by decide) ?_
        exact go_rz dL_arePersons_680 rfl rfl rfl
      · refine go_if_le (q := 667) (t := 671) dL_arePersons_664 (by decide) rfl (fun c_664 => ?_) (fun c_664 => ?_)
        · refine go_iconst (q := 672) (v := 0) dL_arePersons_671 (by decide) rfl ?_
          exact j672 _ (sel0 (decide_eq_true_iff.trans (q_u3 hW)) (fun z => z c_664))
        · refine go_iconst (q := 668) (v := 1) dL_arePersons_667 (by decide) rfl ?_
          refine go_goto (q := 672) dL_arePersons_668 (by decide) ?_
          exact j672 _ (sel1 (decide_eq_true_iff.trans (q_u3 hW)) c_664)
    · refine go_icmp_leN (cn (rL R) (rN R)) 1 (q := 653) (t := 657) dL_arePersons_650 (by decide) rfl rfl rfl (cn_big _ hW) (by decide) (fun c_650 => ?_) (fun c_650 => ?_)
      · refine go_iconst (q := 658) (v := 0) dL_arePersons_657 (by decide) rfl ?_
        exact j658 _ (sel0 decide_eq_true_iff (by omega))
      · refine go_iconst (q := 654) (v := 1) dL_arePersons_653 (by decide) rfl ?_
        refine go_goto (q := 658) dL_arePersons_654 (by decide) ?_
        exact j658 _ (sel1 decide_eq_true_iff (by omega))
  · refine go_if_neN (rN R) (q := 620) (t := 624) dL_arePersons_617 (by decide) rfl rfl (by omega) (fun c_617 => ?_) (fun c_617 => ?_)
    · refine go_iload_n (q := 625) dL_arePersons_624 rfl rfl rfl ?_
      exact j625 _ (by rw [if_neg c_617])
    · refine go_iconst (q := 621) (v := 1) dL_arePersons_620 (by decide) rfl ?_
      refine go_goto (q := 625) dL_arePersons_621 (by decide) ?_
      exact j625 _ (by rw [if_pos c_617]; rfl)
theorem lp_borne {M : KM} {R : RO} (hR : RA M 0 R) (hW : rW R) (hI : rI R) {n : Nat} {c : Nat → Nat} (hP : PA M n c) {h : Nat} {hs : Nat → RO} (hH : HA M h hs) : ∀ (d : Nat) (m : Nat), 5 - m < d → (m ≤ 5) → Go mL_arePersons (Zm (QF (some (vI (bI true))) M)) M [some (vR 0 0), some (vI (nI (rN R))), some (vI (nI (cn (rL R) (rN R)))), some (vI (nI (cn (fun i => rP R i == none) (rN R)))), some (vI (nI (cn (fun i => rL R i && sonsN R i == 0) (rN R)))), some (vI (nI (sm (sonsN R) (rN R)))), some (vI 1), some (vI (nI (sm (fun m => cn (fun i => rL R i && mk (rS R i) 3 == m) (rN R)) m))), some (vI (nI m)), none, none] [] 491 := by
  intro d
  induction d with
  | zero => intro m hd; exact absurd hd (Nat.not_lt_zero _)
  | succ d ih =>
    intro m hd h0
    refine go_iload (q := 493) dL_arePersons_491 rfl rfl ?_
    refine go_iconst (q := 494) (v := 5) dL_arePersons_493 (by decide) rfl ?_
    refine go_icmp_geN m 5 (q := 497) (t := 515) dL_arePersons_494 (by decide) rfl rfl rfl (by omega) (by omega) (fun c_494 => ?_) (fun c_494 => ?_)
    · obtain rfl : m = 5 := by omega
      exact tl_ap2 hR hW hI hP hH
    · refine go_iload (q := 499) dL_arePersons_497 rfl rfl ?_
      refine go_aload_n (q := 500) dL_arePersons_499 rfl rfl rfl ?_
      refine go_iconst (q := 501) (v := 3) dL_arePersons_500 (by decide) rfl ?_
      refine go_iload (q := 503) dL_arePersons_501 rfl rfl ?_
      refine go_cV2 (cal := mX9_borne) (q := 506) dL_arePersons_503 lRL_35 vX9_borne ⟨by decide, by decide⟩ rfl (by decide) (Nat.le_of_ble_eq_true rfl) (ok_borne hR hW _ _) rfl ?_
      refine go_topi (aBo (k := 3) (by decide) c_494) ?_
      refine go_iadd (q := 507) dL_arePersons_506 rfl ?_
      refine go_topi (nI_add _ _) ?_
      refine go_istore (q := 509) dL_arePersons_507 (by decide) rfl rfl ?_
      refine go_iinc (q := 512) (v := 1) dL_arePersons_509 (by decide) rfl (by decide) rfl rfl ?_
      refine go_goto (q := 491) dL_arePersons_512 (by decide) ?_
      rw [show nI m + 1 = nI (m + 1) from nI_add m 1]
      exact ih (m + 1) (by omega) (by omega)
theorem lp_ap {M : KM} {R : RO} (hR : RA M 0 R) (hW : rW R) (hI : rI R) {n : Nat} {c : Nat → Nat} (hP : PA M n c) {h : Nat} {hs : Nat → RO} (hH : HA M h hs) : ∀ (d : Nat) (k : Nat), rN R - k < d → (k ≤ rN R) → Go mL_arePersons (Zm (QF (some (vI (bI true))) M)) M [some (vR 0 0), some (vI (nI (rN R))), some (vI (nI (cn (rL R) k))), some (vI (nI (cn (fun i => rP R i == none) k))), some (vI (nI (cn (fun i => rL R i && sonsN R i == 0) k))), some (vI (nI (sm (sonsN R) k))), some (vI 1), some (vI (nI k)), none, none, none] [] 36 := by
  intro d
  induction d with
  | zero => intro k hd; exact absurd hd (Nat.not_lt_zero _)
  | succ d ih =>
    intro k hd h0
    have hn := hW.1
    refine go_iload (q := 38) dL_arePersons_36 rfl rfl ?_
    refine go_iload_n (q := 39) dL_arePersons_38 rfl rfl rfl ?_
    refine go_icmp_geN k (rN R) (q := 42) (t := 485) dL_arePersons_39 (by decide) rfl rfl rfl (by omega) (by omega) (fun c_39 => ?_) (fun c_39 => ?_)
    · obtain rfl : k = rN R := by omega
      refine go_iconst (q := 486) (v := 0) dL_arePersons_485 (by decide) rfl ?_
      refine go_istore (q := 488) dL_arePersons_486 (by decide) rfl rfl ?_
      refine go_iconst (q := 489) (v := 0) dL_arePersons_488 (by decide) rfl ?_
      refine go_istore (q := 491) dL_arePersons_489 (by decide) rfl rfl ?_
      exact lp_borne hR hW hI hP hH 6 0 (by omega) (by omega)
    · refine go_iload (q := 44) dL_arePersons_42 rfl rfl ?_
      refine go_if_eq (q := 47) (t := 485) dL_arePersons_44 (by decide) rfl (fun z => absurd z (by decide)) (fun _ => ?_)
      have hk : k < rN R := c_39
      refine sg_apA hR hW hP hH hk (sg_apB hR hW hP hH hk (sg_apC hR hW hP hH hk ?_))
      refine go_iinc (q := 482) (v := 1) dL_arePersons_479 (by decide) rfl (by decide) rfl rfl ?_
      refine go_goto (q := 36) dL_arePersons_482 (by decide) ?_
      rw [show nI k + 1 = nI (k + 1) from nI_add k 1]
      exact go_weak (k_le_s (k_le_s (k_le_s (k_le_s (k_le_s (k_le_s (k_le_s (k_le_s (k_le_n (k_le_n (k_le_n k_le_nil))))))))))) (ih (k + 1) (by omega) (by omega))
theorem ok_arePersons {M : KM} {R : RO} (hR : RA M 0 R) (hW : rW R) (hI : rI R) {n : Nat} {c : Nat → Nat} (hP : PA M n c) {h : Nat} {hs : Nat → RO} (hH : HA M h hs) : OkF mL_arePersons [vR 0 0] M (some (vI (bI true))) M := by
  refine ok_of (by decide) rfl (Nat.le_of_ble_eq_true rfl) ⟨rfl, rfl⟩ ?_
  show Go mL_arePersons (Zm (QF (some (vI (bI true))) M)) M [some (vR 0 0), none, none, none, none, none, none, none, none, none, none] [] 0
  have hn := hW.1
  refine go_aload_n (q := 1) dL_arePersons_0 rfl rfl rfl ?_
  refine go_iconst (q := 2) (v := 0) dL_arePersons_1 (by decide) rfl ?_
  refine go_cV1 (cal := mX9_count) (q := 5) dL_arePersons_2 lRL_14 vX9_count ⟨by decide, by decide⟩ rfl (by decide) (Nat.le_of_ble_eq_true rfl) (ok_count hR hW hP hH _) rfl ?_
  refine go_topi (aN0) ?_
  refine go_istore_n (q := 6) dL_arePersons_5 rfl (by decide) rfl rfl ?_
  refine go_iconst (q := 7) (v := 0) dL_arePersons_6 (by decide) rfl ?_
  refine go_istore_n (q := 8) dL_arePersons_7 rfl (by decide) rfl rfl ?_
  refine go_iconst (q := 9) (v := 0) dL_arePersons_8 (by decide) rfl ?_
  refine go_istore_n (q := 10) dL_arePersons_9 rfl (by decide) rfl rfl ?_
  refine go_iconst (q := 11) (v := 0) dL_arePersons_10 (by decide) rfl ?_
  refine go_istore (q := 13) dL_arePersons_11 (by decide) rfl rfl ?_
  refine go_iconst (q := 14) (v := 0) dL_arePersons_13 (by decide) rfl ?_
  refine go_istore (q := 16) dL_arePersons_14 (by decide) rfl rfl ?_
  refine go_iload_n (q := 17) dL_arePersons_16 rfl rfl rfl ?_
  refine go_if_lt (q := 20) (t := 30) dL_arePersons_17 (by decide) rfl (fun z => absurd z (nI_pos (by omega))) (fun _ => ?_)
  refine go_iload_n (q := 21) dL_arePersons_20 rfl rfl rfl ?_
  refine go_bipush (q := 23) (v := 20) dL_arePersons_21 (by decide) rfl ?_
  refine go_icmp_gt (q := 26) (t := 30) dL_arePersons_23 (by decide) rfl (fun z => absurd z (lit_nlt (a := 20) rfl hn (by decide))) (fun _ => ?_)
  refine go_iconst (q := 27) (v := 1) dL_arePersons_26 (by decide) rfl ?_
  refine go_goto (q := 31) dL_arePersons_27 (by decide) ?_
  refine go_istore (q := 33) dL_arePersons_31 (by decide) rfl rfl ?_
  refine go_iconst (q := 34) (v := 0) dL_arePersons_33 (by decide) rfl ?_
  refine go_istore (q := 36) dL_arePersons_34 (by decide) rfl rfl ?_
  exact lp_ap hR hW hI hP hH (rN R + 1) 0 (by omega) (by omega)
