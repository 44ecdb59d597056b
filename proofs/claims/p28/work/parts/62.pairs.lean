/-! ===== the law's methods: arePairs ===== -/
theorem bne1 {b : Bool} (h : bI b ≠ 1) : b = false := by
  cases b with
  | false => rfl
  | true => exact absurd rfl h
theorem be1 {b : Bool} (h : ¬ (bI b ≠ 1)) : b = true := by
  cases b with
  | true => rfl
  | false => exact absurd (by decide) h
theorem kin0 {R : RO} (hW : rW R) {p q : Nat} (hp : p < rN R) (hq : q < rN R) : decide (p = q) = true ↔ e4 (kinR R p q) = 0 := by
  rw [decide_eq_true_iff]
  constructor
  · intro h
    rw [h, kin_self]; rfl
  · intro h
    have h2 := (e4_nI (f := 0) (kin_bg hW hp hq) (by decide)).mp h
    exact (kin_le hW (p + q + 1) p q 0 (by omega) hp hq h2).2.mp rfl
theorem e4_ge {o : Option Nat} (hb : ∀ k, o = some k → k < 2 ^ 31) (h : ¬ e4 o < 0) : ∃ k, o = some k := by
  cases o with
  | none => exact absurd ((e4_neg hb).mpr rfl) h
  | some k => exact ⟨k, rfl⟩
theorem e4_ngez {o : Option Nat} (hb : ∀ k, o = some k → k < 2 ^ 31) (h : ¬ 0 ≤ e4 o) : o = none := by
  cases o with
  | none => rfl
  | some k => exact absurd (nI_pos' (hb k rfl)) h
theorem ok_arePairs {M : KM} {R : RO} (hR : RA M 0 R) (hW : rW R) {n : Nat} {c : Nat → Nat} (hP : PA M n c) {h : Nat} {hs : Nat → RO} (hH : HA M h hs) {p q r : Nat} (hp : p < rN R) (hq : q < rN R) (hr : r < rN R) : OkF mL_arePairs [vR 0 0, vI (nI p), vI (nI q), vI (nI r)] M (some (vI (bI true))) M := by
  refine ok_of (by decide) rfl (Nat.le_of_ble_eq_true rfl) ⟨rfl, rfl⟩ ?_
  show Go mL_arePairs (Zm (QF (some (vI (bI true))) M)) M [some (vR 0 0), some (vI (nI p)), some (vI (nI q)), some (vI (nI r)), none, none, none, none, none] [] 0
  have hn := hW.1
  have hap := ap_le (rS R p) (rS R q)
  have hap1 := ap_le (rS R p) (rS R r)
  have hap2 := ap_le (rS R r) (rS R q)
  refine go_aload_n (q := 1) dL_arePairs_0 rfl rfl rfl ?_
  refine go_iload_n (q := 2) dL_arePairs_1 rfl rfl rfl ?_
  refine go_iload_n (q := 3) dL_arePairs_2 rfl rfl rfl ?_
  refine go_cV2 (cal := mX9_differs) (q := 6) dL_arePairs_3 lRL_32 vX9_differs ⟨by decide, by decide⟩ rfl (by decide) (Nat.le_of_ble_eq_true rfl) (ok_differs hR hW _ _) rfl ?_
  refine go_topi (aDf hW hp hq) ?_
  refine go_istore (q := 8) dL_arePairs_6 (by decide) rfl rfl ?_
  refine go_aload_n (q := 9) dL_arePairs_8 rfl rfl rfl ?_
  refine go_iload_n (q := 10) dL_arePairs_9 rfl rfl rfl ?_
  refine go_iload_n (q := 11) dL_arePairs_10 rfl rfl rfl ?_
  refine go_cV2 (cal := mX9_kin) (q := 14) dL_arePairs_11 lRL_29 vX9_kin ⟨by decide, by decide⟩ rfl (by decide) (Nat.le_of_ble_eq_true rfl) (ok_kin hR hW _ _) rfl ?_
  refine go_topi (aKn hW hp hq) ?_
  refine go_istore (q := 16) dL_arePairs_14 (by decide) rfl rfl ?_
  refine go_aload_n (q := 17) dL_arePairs_16 rfl rfl rfl ?_
  refine go_iload_n (q := 18) dL_arePairs_17 rfl rfl rfl ?_
  refine go_iload_n (q := 19) dL_arePairs_18 rfl rfl rfl ?_
  refine go_cV2 (cal := mX9_kin) (q := 22) dL_arePairs_19 lRL_29 vX9_kin ⟨by decide, by decide⟩ rfl (by decide) (Nat.le_of_ble_eq_true rfl) (ok_kin hR hW _ _) rfl ?_
  refine go_topi (aKn hW hp hr) ?_
  refine go_istore (q := 24) dL_arePairs_22 (by decide) rfl rfl ?_
  refine go_aload_n (q := 25) dL_arePairs_24 rfl rfl rfl ?_
  refine go_iload_n (q := 26) dL_arePairs_25 rfl rfl rfl ?_
  refine go_iload_n (q := 27) dL_arePairs_26 rfl rfl rfl ?_
  refine go_cV2 (cal := mX9_kin) (q := 30) dL_arePairs_27 lRL_29 vX9_kin ⟨by decide, by decide⟩ rfl (by decide) (Nat.le_of_ble_eq_true rfl) (ok_kin hR hW _ _) rfl ?_
  refine go_topi (aKn hW hr hq) ?_
  refine go_istore (q := 32) dL_arePairs_30 (by decide) rfl rfl ?_
  refine go_aload_n (q := 33) dL_arePairs_32 rfl rfl rfl ?_
  refine go_iload_n (q := 34) dL_arePairs_33 rfl rfl rfl ?_
  refine go_iconst (q := 35) (v := 1) dL_arePairs_34 (by decide) rfl ?_
  refine go_cV2 (cal := mX9_person) (q := 38) dL_arePairs_35 lRL_20 vX9_person ⟨by decide, by decide⟩ rfl (by decide) (Nat.le_of_ble_eq_true rfl) (ok_person hR hW _ _) rfl ?_
  refine go_topi (aP1 hW hp) ?_
  refine go_iconst (q := 39) (v := 1) dL_arePairs_38 (by decide) rfl ?_
  refine go_join2 (J := 57) (v := bI (rL R p && rL R q)) ?_ (fun j57 => ?_)
  · refine go_istore (q := 59) dL_arePairs_57 (by decide) rfl rfl ?_
    refine go_iload (q := 61) dL_arePairs_59 rfl rfl ?_
    refine go_aload_n (q := 62) dL_arePairs_61 rfl rfl rfl ?_
    refine go_iload_n (q := 63) dL_arePairs_62 rfl rfl rfl ?_
    refine go_iload_n (q := 64) dL_arePairs_63 rfl rfl rfl ?_
    refine go_cV2 (cal := mX9_differs) (q := 67) dL_arePairs_64 lRL_32 vX9_differs ⟨by decide, by decide⟩ rfl (by decide) (Nat.le_of_ble_eq_true rfl) (ok_differs hR hW _ _) rfl ?_
    refine go_topi (show aDiffers R (nI q) (nI p) = nI (ap (rS R p) (rS R q)) from by rw [aDf hW hq hp, ap_symm]) ?_
    refine go_icmp_ne (q := 70) (t := 195) dL_arePairs_67 (by decide) rfl (fun z => absurd z (nn rfl)) (fun _ => ?_)
    refine go_iload (q := 72) dL_arePairs_70 rfl rfl ?_
    refine go_if_lt (q := 75) (t := 195) dL_arePairs_72 (by decide) rfl (fun z => absurd z (nI_pos (by omega))) (fun _ => ?_)
    refine go_iload (q := 77) dL_arePairs_75 rfl rfl ?_
    refine go_bipush (q := 79) (v := 6) dL_arePairs_77 (by decide) rfl ?_
    refine go_icmp_gt (q := 82) (t := 195) dL_arePairs_79 (by decide) rfl (fun z => absurd z (lit_nlt (a := 6) rfl (ap_le _ _) (by decide))) (fun _ => ?_)
    refine go_iload (q := 84) dL_arePairs_82 rfl rfl ?_
    refine go_aload_n (q := 85) dL_arePairs_84 rfl rfl rfl ?_
    refine go_iload_n (q := 86) dL_arePairs_85 rfl rfl rfl ?_
    refine go_iload_n (q := 87) dL_arePairs_86 rfl rfl rfl ?_
    refine go_cV2 (cal := mX9_differs) (q := 90) dL_arePairs_87 lRL_32 vX9_differs ⟨by decide, by decide⟩ rfl (by decide) (Nat.le_of_ble_eq_true rfl) (ok_differs hR hW _ _) rfl ?_
    refine go_topi (aDf hW hp hr) ?_
    refine go_aload_n (q := 91) dL_arePairs_90 rfl rfl rfl ?_
    refine go_iload_n (q := 92) dL_arePairs_91 rfl rfl rfl ?_
    refine go_iload_n (q := 93) dL_arePairs_92 rfl rfl rfl ?_
    refine go_cV2 (cal := mX9_differs) (q := 96) dL_arePairs_93 lRL_32 vX9_differs ⟨by decide, by decide⟩ rfl (by decide) (Nat.le_of_ble_eq_true rfl) (ok_differs hR hW _ _) rfl ?_
    refine go_topi (aDf hW hr hq) ?_
    refine go_iadd (q := 97) dL_arePairs_96 rfl ?_
    refine go_topi (nI_add _ _) ?_
    refine go_icmp_gt (q := 100) (t := 195) dL_arePairs_97 (by decide) rfl (fun z => absurd z (nI_nlt (ap_tri _ _ _) (by omega))) (fun _ => ?_)
    refine go_iload (q := 102) dL_arePairs_100 rfl rfl ?_
    refine go_aload_n (q := 103) dL_arePairs_102 rfl rfl rfl ?_
    refine go_iload_n (q := 104) dL_arePairs_103 rfl rfl rfl ?_
    refine go_iload_n (q := 105) dL_arePairs_104 rfl rfl rfl ?_
    refine go_cV2 (cal := mX9_kin) (q := 108) dL_arePairs_105 lRL_29 vX9_kin ⟨by decide, by decide⟩ rfl (by decide) (Nat.le_of_ble_eq_true rfl) (ok_kin hR hW _ _) rfl ?_
    refine go_topi (show aKin R (nI q) (nI p) = e4 (kinR R p q) from by rw [aKn hW hq hp, kin_sym hW (q + p + 1) q p (by omega) hq hp]) ?_
    refine go_icmp_ne (q := 111) (t := 195) dL_arePairs_108 (by decide) rfl (fun z => absurd z (nn rfl)) (fun _ => ?_)
    refine go_iload_n (q := 112) dL_arePairs_111 rfl rfl rfl ?_
    refine go_iload_n (q := 113) dL_arePairs_112 rfl rfl rfl ?_
    refine go_join2 (J := 121) (v := bI (decide (p = q))) ?_ (fun j121 => ?_)
    · refine go_iload (q := 123) dL_arePairs_121 rfl rfl ?_
      refine go_join1 (J := 131) (v := bI (decide (p = q))) ?_ (fun j131 => ?_)
      · refine go_icmp_ne (q := 134) (t := 195) dL_arePairs_131 (by decide) rfl (fun z => absurd z (nn rfl)) (fun _ => ?_)
        refine go_iload (q := 136) dL_arePairs_134 rfl rfl ?_
        refine go_meet1 (J := 159) ?_ (fun j159 => ?_)
        · refine go_iload (q := 161) dL_arePairs_159 rfl rfl ?_
          refine go_meet1 (J := 176) ?_ (fun j176 => ?_)
          · refine go_iload (q := 178) dL_arePairs_176 rfl rfl ?_
            refine go_meet1 (J := 191) ?_ (fun j191 => ?_)
            · refine go_iconst (q := 192) (v := 1) dL_arePairs_191 (by decide) rfl ?_
              refine go_goto (q := 196) dL_arePairs_192 (by decide) ?_
              exact go_rz dL_arePairs_196 rfl rfl rfl
            · refine go_if_eqB (q := 181) (t := 191) dL_arePairs_178 (by decide) rfl (fun c_178 => ?_) (fun c_178 => ?_)
              · exact j191
              · refine go_iload_n (q := 182) dL_arePairs_181 rfl rfl rfl ?_
                refine go_iload_n (q := 183) dL_arePairs_182 rfl rfl rfl ?_
                refine go_icmp_eqN p q (q := 186) (t := 191) dL_arePairs_183 (by decide) rfl rfl rfl (by omega) (by omega) (fun c_183 => ?_) (fun c_183 => ?_)
                · exact j191
                · refine go_iload (q := 188) dL_arePairs_186 rfl rfl ?_
                  refine go_if_le (q := 191) (t := 195) dL_arePairs_188 (by decide) rfl (fun z => absurd z (nI_nle (q_apart hW hp hq (And.left (by simpa using c_178)) (And.right (by simpa using c_178)) c_183) (by omega))) (fun _ => ?_)
                  exact j191
          · refine go_if_lt (q := 164) (t := 176) dL_arePairs_161 (by decide) rfl (fun c_161 => ?_) (fun c_161 => ?_)
            · exact j176
            · refine go_iload (q := 166) dL_arePairs_164 rfl rfl ?_
              refine go_if_ge (q := 169) (t := 176) dL_arePairs_166 (by decide) rfl (fun c_166 => ?_) (fun c_166 => ?_)
              · exact j176
              · obtain ⟨a, ha⟩ := e4_ge (kin_bg hW hp hr) c_161
                have hrq := e4_ngez (kin_bg hW hr hq) c_166
                have hnone : kinR R p q = none := by
                  cases hpq : kinR R p q with
                  | none => rfl
                  | some i =>
                    obtain ⟨j, -, hj⟩ := kin_tri hW hq (r + p + 1) r p a i (by omega) hr hp ((kin_sym hW (r + p + 1) r p (by omega) hr hp).trans ha) hpq
                    rw [hrq] at hj; cases hj
                refine go_iload (q := 171) dL_arePairs_169 rfl rfl ?_
                refine go_bipush (q := 173) (v := (-4)) dL_arePairs_171 (by decide) rfl ?_
                refine go_icmp_ne (q := 176) (t := 195) dL_arePairs_173 (by decide) rfl (fun z => absurd z (nn (by rw [hnone]; rfl))) (fun _ => ?_)
                exact j176
        · refine go_if_lt (q := 139) (t := 159) dL_arePairs_136 (by decide) rfl (fun c_136 => ?_) (fun c_136 => ?_)
          · exact j159
          · refine go_iload (q := 141) dL_arePairs_139 rfl rfl ?_
            refine go_if_lt (q := 144) (t := 159) dL_arePairs_141 (by decide) rfl (fun c_141 => ?_) (fun c_141 => ?_)
            · exact j159
            · obtain ⟨a, ha⟩ := e4_ge (kin_bg hW hp hr) c_136
              obtain ⟨b, hb⟩ := e4_ge (kin_bg hW hr hq) c_141
              obtain ⟨i, hik, hi⟩ := kin_tri hW hq (p + r + 1) p r a b (by omega) hp hr ha hb
              have hab := kin_big hW hp hr a ha
              have hbb := kin_big hW hr hq b hb
              refine go_iload (q := 146) dL_arePairs_144 rfl rfl ?_
              refine go_if_lt (q := 149) (t := 195) dL_arePairs_146 (by decide) rfl (fun z => absurd z (fun z => by rw [(e4_neg (kin_bg hW hp hq)).mp z] at hi; cases hi)) (fun _ => ?_)
              refine go_iload (q := 151) dL_arePairs_149 rfl rfl ?_
              refine go_iload (q := 153) dL_arePairs_151 rfl rfl ?_
              refine go_iload (q := 155) dL_arePairs_153 rfl rfl ?_
              refine go_iadd (q := 156) dL_arePairs_155 rfl ?_
              refine go_icmp_gt (q := 159) (t := 195) dL_arePairs_156 (by decide) rfl (fun z => absurd z (by rw [ha, hb, hi]; show ¬ nI a + nI b < nI i; rw [nI_add]; exact nI_nlt hik (by omega))) (fun _ => ?_)
              exact j159
      · refine go_if_ne (q := 126) (t := 130) dL_arePairs_123 (by decide) rfl (fun c_123 => ?_) (fun c_123 => ?_)
        · refine go_iconst (q := 131) (v := 0) dL_arePairs_130 (by decide) rfl ?_
          exact j131 _ (sel0 (kin0 hW hp hq) c_123)
        · refine go_iconst (q := 127) (v := 1) dL_arePairs_126 (by decide) rfl ?_
          refine go_goto (q := 131) dL_arePairs_127 (by decide) ?_
          exact j131 _ (sel1 (kin0 hW hp hq) (Classical.not_not.mp c_123))
    · refine go_icmp_neN p q (q := 116) (t := 120) dL_arePairs_113 (by decide) rfl rfl rfl (by omega) (by omega) (fun c_113 => ?_) (fun c_113 => ?_)
      · refine go_iconst (q := 121) (v := 0) dL_arePairs_120 (by decide) rfl ?_
        exact j121 _ (sel0 decide_eq_true_iff c_113)
      · refine go_iconst (q := 117) (v := 1) dL_arePairs_116 (by decide) rfl ?_
        refine go_goto (q := 121) dL_arePairs_117 (by decide) ?_
        exact j121 _ (sel1 decide_eq_true_iff c_113)
  · refine go_icmp_ne (q := 42) (t := 56) dL_arePairs_39 (by decide) rfl (fun c_39 => ?_) (fun c_39 => ?_)
    · refine go_iconst (q := 57) (v := 0) dL_arePairs_56 (by decide) rfl ?_
      exact j57 _ (by rw [bne1 c_39]; rfl)
    · refine go_aload_n (q := 43) dL_arePairs_42 rfl rfl rfl ?_
      refine go_iload_n (q := 44) dL_arePairs_43 rfl rfl rfl ?_
      refine go_iconst (q := 45) (v := 1) dL_arePairs_44 (by decide) rfl ?_
      refine go_cV2 (cal := mX9_person) (q := 48) dL_arePairs_45 lRL_20 vX9_person ⟨by decide, by decide⟩ rfl (by decide) (Nat.le_of_ble_eq_true rfl) (ok_person hR hW _ _) rfl ?_
      refine go_topi (aP1 hW hq) ?_
      refine go_iconst (q := 49) (v := 1) dL_arePairs_48 (by decide) rfl ?_
      refine go_icmp_ne (q := 52) (t := 56) dL_arePairs_49 (by decide) rfl (fun c_49 => ?_) (fun c_49 => ?_)
      · refine go_iconst (q := 57) (v := 0) dL_arePairs_56 (by decide) rfl ?_
        exact j57 _ (by rw [bne1 c_49]; simp [bI])
      · refine go_iconst (q := 53) (v := 1) dL_arePairs_52 (by decide) rfl ?_
        refine go_goto (q := 57) dL_arePairs_53 (by decide) ?_
        exact j57 _ (by rw [be1 c_39, be1 c_49]; rfl)
