/-! ===== the model's reader: a deed, the pad, fault ===== -/
def kD (M M' : KM) : Prop := M'.2 = M.2 ∧ (∀ k b, k ≠ 14 → k ≠ 19 → M'.1 k b = M.1 k b) ∧ ∀ c, c ≠ 10 → c ≠ 12 → M'.1 14 0 c = M.1 14 0 c
theorem kD.rf {M : KM} : kD M M := ⟨rfl, fun _ _ _ _ => rfl, fun _ _ _ => rfl⟩
theorem kD.tr {M M1 M2 : KM} (h1 : kD M M1) (h2 : kD M1 M2) : kD M M2 := ⟨h2.1.trans h1.1, fun k b h h' => (h2.2.1 k b h h').trans (h1.2.1 k b h h'), fun c h h' => (h2.2.2 c h h').trans (h1.2.2 c h h')⟩
theorem kD.t {M M' : KM} {j : Nat} {v : Int32} (h : kD M M') : kD M (k_si M' 19 0 j v) := ⟨h.1, fun k b h1 h2 => (k_si_ne _ _ (fun z => h2 z.1)).trans (h.2.1 k b h1 h2), fun c h1 h2 => (congrFun (k_si_ne _ _ (fun z => by omega)) c).trans (h.2.2 c h1 h2)⟩
theorem kD.f {M M' : KM} {j : Nat} {v : Int32} (h : kD M M') (hj : j = 10 ∨ j = 12) : kD M (k_si M' 14 0 j v) := ⟨h.1, fun k b h1 h2 => (k_si_ne _ _ (fun z => h1 z.1)).trans (h.2.1 k b h1 h2), fun c h1 h2 => (sgn2 _ _ (by omega)).trans (h.2.2 c h1 h2)⟩
theorem kD.pz {M M' : KM} {n : Nat} {c : Nat → Nat} (h : kD M M') (hP : PZ M n c) : PZ M' n c := PZ_keep hP (h.2.1 18 0 (by decide) (by decide)) (h.2.2 6 (by decide) (by decide))
def dT (l : Nat) (R : RO) (a b d : Int32) : Int32 × RO := if l = 100 then dDie R a else if l = 102 then dFound R a else if l = 115 then dBear R a b d else dHeir R a
theorem dT_d {l : Nat} {R : RO} {a b d : Int32} (h : l = 100) : dT l R a b d = dDie R a := if_pos h
theorem dT_f {l : Nat} {R : RO} {a b d : Int32} (h : l = 102) : dT l R a b d = dFound R a := (if_neg (by omega)).trans (if_pos h)
theorem dT_s {l : Nat} {R : RO} {a b d : Int32} (h : l = 115) : dT l R a b d = dBear R a b d := (if_neg (by omega)).trans ((if_neg (by omega)).trans (if_pos h))
theorem dT_h {l : Nat} {R : RO} {a b d : Int32} (h : l = 104) : dT l R a b d = dHeir R a := (if_neg (by omega)).trans ((if_neg (by omega)).trans (if_neg (by omega)))
theorem dAt_d {n : Nat} {c : Nat → Nat} {R : RO} {j : Nat} (h : ch n c j = 100) : dAt n c R j = dDie R (nuAt n c (j + 1)) := if_pos h
theorem dAt_f {n : Nat} {c : Nat → Nat} {R : RO} {j : Nat} (h : ch n c j = 102) : dAt n c R j = dFound R (shAt n c (j + 1) 6) := (if_neg (by omega)).trans (if_pos h)
theorem dAt_s {n : Nat} {c : Nat → Nat} {R : RO} {j : Nat} (h : ch n c j = 115) : dAt n c R j = dBear R (nuAt n c (j + 1)) (diAt n c (afAt n c (j + 1) + 1)) (diAt n c (afAt n c (j + 1) + 3)) := (if_neg (by omega)).trans ((if_neg (by omega)).trans (if_pos h))
theorem dAt_h {n : Nat} {c : Nat → Nat} {R : RO} {j : Nat} (h : ch n c j = 104) : dAt n c R j = dHeir R (nuAt n c (j + 1)) := (if_neg (by omega)).trans ((if_neg (by omega)).trans (if_neg (by omega)))
def TDm (M : KM) (i n : Nat) (c : Nat → Nat) (s : Nat) : Prop := ∀ R, dT (ch n c s) R (M.1 19 0 (4 * i + 1)) (M.1 19 0 (4 * i + 2)) (M.1 19 0 (4 * i + 3)) = dAt n c R s
def okE (n : Nat) (c : Nat → Nat) (s' : Nat) : Prop := ∃ e, run c s' = .inl e ∧ (e = 0 ∨ e = 14 ∧ isB (ch n c s') 48 57 = false)
def RDQ (M : KM) (n : Nat) (c : Nat → Nat) (s t : Nat) : Option KV → KM → Prop := fun r M' => kD M M' ∧ ((r = some (vI 1) ∧ ∃ s', s + 2 ≤ s' ∧ s' ≤ n ∧ okE n c s' ∧ (∀ x, s ≤ x → x < s' → c x ≠ 59) ∧ (isB (ch n c s') 48 57 = false → TDm M' t n c s) ∧ M'.1 14 0 10 = nI s' ∧ M'.1 14 0 12 = nI (t + 1) ∧ (∀ x, x < 4 * t → M'.1 19 0 x = M.1 19 0 x) ∧ M'.1 19 0 (4 * t) = nI s) ∨ (r = some (vI 0) ∧ ∃ s', M'.1 14 0 10 = nI s' ∧ pfault n c = some s'))
abbrev M1t (M : KM) (t s : Nat) : KM := k_si M 19 0 (4 * t) (nI s)
abbrev M2t (M : KM) (t s e : Nat) (F1 F2 F3 : Int32) : KM := k_si (k_si (k_si (sp (M1t M t s) e) 19 0 (4 * t + 1) F1) 19 0 (4 * t + 2) F2) 19 0 (4 * t + 3) F3
abbrev FM (M : KM) (t s e : Nat) (F1 F2 F3 : Int32) : KM := k_si (M2t M t s e F1 F2 F3) 14 0 12 (nI (t + 1))
theorem M2_12 {M : KM} {t s e : Nat} {F1 F2 F3 : Int32} (h : M.1 14 0 12 = nI t) : (M2t M t s e F1 F2 F3).1 14 0 12 = nI t := by
  rw [k_si_ne _ _ (fun z => by omega), k_si_ne _ _ (fun z => by omega), k_si_ne _ _ (fun z => by omega), sgn2 _ _ (by decide), k_si_ne _ _ (fun z => by omega)]; exact h
theorem FM_kD {M : KM} {t s e : Nat} {F1 F2 F3 : Int32} : kD M (FM M t s e F1 F2 F3) := ((((kD.rf.t).f (Or.inl rfl)).t.t.t).f (Or.inr rfl))
theorem FM_10 {M : KM} {t s e : Nat} {F1 F2 F3 : Int32} : (FM M t s e F1 F2 F3).1 14 0 10 = nI e := by
  rw [sgn2 _ _ (by decide), k_si_ne _ _ (fun z => by omega), k_si_ne _ _ (fun z => by omega), k_si_ne _ _ (fun z => by omega), sg]
theorem FM_19 {M : KM} {t s e : Nat} {F1 F2 F3 : Int32} (x : Nat) : (FM M t s e F1 F2 F3).1 19 0 x = if x = 4 * t + 3 then F3 else if x = 4 * t + 2 then F2 else if x = 4 * t + 1 then F1 else if x = 4 * t then nI s else M.1 19 0 x := by
  rw [k_si_ne _ _ (fun z => by omega)]
  by_cases h3 : x = 4 * t + 3
  · rw [if_pos h3, h3, sg]
  · rw [if_neg h3, sgn2 _ _ h3]
    by_cases h2 : x = 4 * t + 2
    · rw [if_pos h2, h2, sg]
    · rw [if_neg h2, sgn2 _ _ h2]
      by_cases h1 : x = 4 * t + 1
      · rw [if_pos h1, h1, sg]
      · rw [if_neg h1, sgn2 _ _ h1, k_si_ne _ _ (fun z => by omega)]
        by_cases h0 : x = 4 * t
        · rw [if_pos h0, h0, sg]
        · rw [if_neg h0, sgn2 _ _ h0]
theorem RD_t {M : KM} {n : Nat} {c : Nat → Nat} {s t e : Nat} {F1 F2 F3 : Int32} (h1 : s + 2 ≤ e) (h2 : e ≤ n) (h3 : okE n c e) (h4 : ∀ x, s ≤ x → x < e → c x ≠ 59) (h5 : isB (ch n c e) 48 57 = false → ∀ R, dT (ch n c s) R F1 F2 F3 = dAt n c R s) : RDQ M n c s t (some (vI 1)) (FM M t s e F1 F2 F3) := by
  refine ⟨FM_kD, Or.inl ⟨rfl, e, h1, h2, h3, h4, fun hn R => ?_, FM_10, sg .., fun x hx => ?_, ?_⟩⟩
  · rw [FM_19, FM_19, FM_19, if_neg (by omega), if_neg (by omega), if_pos rfl, if_neg (by omega), if_pos rfl, if_pos rfl]
    exact h5 hn R
  · rw [FM_19, if_neg (by omega), if_neg (by omega), if_neg (by omega), if_neg (by omega)]
  · rw [FM_19, if_neg (by omega), if_neg (by omega), if_neg (by omega), if_pos rfl]
theorem RD_f {M : KM} {n : Nat} {c : Nat → Nat} {s t e : Nat} {F1 F2 F3 : Int32} (h : pfault n c = some e) : RDQ M n c s t (some (vI 0)) (FM M t s e F1 F2 F3) := ⟨FM_kD, Or.inr ⟨rfl, e, FM_10, h⟩⟩
theorem sA_sh {t x : Nat} (h1 : 1 ≤ t) (h2 : t ≤ 6) : sA t x = if isB x 48 52 = true then some (t - 1) else none := by
  rcases (show t = 1 ∨ t = 2 ∨ t = 3 ∨ t = 4 ∨ t = 5 ∨ t = 6 by omega) with rfl | rfl | rfl | rfl | rfl | rfl <;> rfl
theorem sh_run {n : Nat} {c : Nat → Nat} {s : Nat} (h : run c s = .inl 6) : ∀ {k : Nat}, k ≤ 6 → (∀ i, i < k → isB (ch n c (s + i)) 48 52 = true) → run c (s + k) = .inl (6 - k)
  | 0, _, _ => h
  | k + 1, hk, hd => by
    have h1 := sh_run h (k := k) (by omega) (fun i hi => hd i (by omega))
    have h2 := (st_go (n := n) h1 (u := 6 - k - 1) (by rw [sA_sh (by omega) (by omega), if_pos (hd k (by omega))])).2
    rw [show 6 - (k + 1) = 6 - k - 1 by omega]; exact h2
theorem sh_nat {n : Nat} {c : Nat → Nat} {s : Nat} : ∀ {k : Nat}, (∀ i, i < k → isB (ch n c (s + i)) 48 52 = true) → ∃ v, v < 5 ^ k ∧ shAt n c s k = nI v
  | 0, _ => ⟨0, by decide, rfl⟩
  | k + 1, hd => by
    obtain ⟨v, hv, he⟩ := sh_nat (k := k) (fun i hi => hd i (by omega))
    have hx := isB_ge (hd k (by omega))
    refine ⟨v + (ch n c (s + k) - 48) * 5 ^ k, ?_, ?_⟩
    · have h1 : (ch n c (s + k) - 48) * 5 ^ k ≤ 4 * 5 ^ k := Nat.mul_le_mul_right _ (by omega)
      rw [Nat.pow_succ]; omega
    · show shAt n c s k + (nI (ch n c (s + k)) - 48) * nI (5 ^ k) = _
      rw [he, nI_s48 hx.1, pk_mul, nI_add]
theorem sh_59 {n : Nat} {c : Nat → Nat} {s : Nat} {k : Nat} (hd : ∀ i, i < k → isB (ch n c (s + i)) 48 52 = true) : ∀ x, s ≤ x → x < s + k → c x ≠ 59 := fun x h1 h2 e => by
  have h := hd (x - s) (by omega)
  rw [show s + (x - s) = x by omega, ch_in (by have := isB_n (by decide) h; omega), e] at h
  exact absurd h (by decide)
theorem isB_eq {x a : Nat} : isB x a a = true ↔ x = a := by
  unfold isB
  rw [Bool.and_eq_true, decide_eq_true_iff, decide_eq_true_iff]; omega
theorem isB_ne {x a : Nat} (h : isB x a a = false) : x ≠ a := fun e => by rw [isB_eq.mpr e] at h; cases h
theorem fat_no {n : Nat} {c : Nat → Nat} {s : Nat} (hs : s ≤ n) (h : (run c s = .inl 9 ∧ isB (ch n c s) 48 57 = false) ∨ run c s = .inl 10) (h2 : isB (ch n c s) 46 46 = false) : pfault n c = some s := by
  rcases h with ⟨h, h3⟩ | h
  · exact st_no h hs (by show (if isB (ch n c s) 48 57 = true then some 10 else sFat (ch n c s)) = none; rw [h3]; exact if_neg (isB_ne h2)) (Or.inr (by decide))
  · exact st_no h hs (by show sFat (ch n c s) = none; exact if_neg (isB_ne h2)) (Or.inr (by decide))
theorem fat_go {n : Nat} {c : Nat → Nat} {s : Nat} (h : (run c s = .inl 9 ∧ isB (ch n c s) 48 57 = false) ∨ run c s = .inl 10) (h2 : isB (ch n c s) 46 46 = true) : s < n ∧ run c (s + 1) = .inl 11 := by
  have e := isB_eq.mp h2
  rcases h with ⟨h, h3⟩ | h
  · exact st_go h (by show (if isB (ch n c s) 48 57 = true then some 10 else sFat (ch n c s)) = _; rw [h3]; exact if_pos e)
  · exact st_go h (if_pos e)
theorem lp_mrd100 {M : KM} {n : Nat} {c : Nat → Nat} (hP : PZ M n c) {s t : Nat} (hs : s ≤ n) (hr : run c s = .inl 7) (h10 : M.1 14 0 10 = nI s) (h12 : M.1 14 0 12 = nI t) (h3 : 3 * t ≤ s) (hsn : s < n) (hl : (ch n c s) = 100) : Go mX10_readDeed (Zm (RDQ M n c s t)) M [some (vR 14 0), some (vI (nI (ch n c s))), some (vI (nI (4 * t))), none, none, none] [] 58 := by
  have hP1 : PZ (M1t M t s) n c := kD.pz (kD.rf.t) hP
  refine go_aload_n (q := 59) dX10_readDeed_58 rfl rfl rfl ?_
  refine go_getf (q := 62) dX10_readDeed_59 fRX10_32 rfl (by decide) rfl rfl ?_
  refine go_iload_n (q := 63) dX10_readDeed_62 rfl rfl rfl ?_
  refine go_aload_n (q := 64) dX10_readDeed_63 rfl rfl rfl ?_
  refine go_getf (q := 67) dX10_readDeed_64 fRX10_149 rfl (by decide) rfl rfl ?_
  refine go_topi h10 ?_
  refine go_iast (q := 68) (4 * t) dX10_readDeed_67 rfl rfl (by decide) rfl (by have := hP.2.1; omega) rfl ?_
  refine go_aload_n (q := 69) dX10_readDeed_68 rfl rfl rfl ?_
  refine go_dup (q := 70) dX10_readDeed_69 rfl rfl ?_
  refine go_getf (q := 73) dX10_readDeed_70 fRX10_149 rfl (by decide) rfl rfl ?_
  refine go_topi ((congrFun (k_si_ne _ _ (fun z => by omega)) 10).trans h10) ?_
  refine go_iconst (q := 74) (v := 1) dX10_readDeed_73 (by decide) rfl ?_
  refine go_iadd (q := 75) dX10_readDeed_74 rfl ?_
  refine go_topi (nI_1 s) ?_
  refine go_puti (q := 78) dX10_readDeed_75 pRX10_149 rfl (by decide) rfl rfl rfl (Nat.le_of_ble_eq_true rfl) rfl ?_
  refine go_iload_n (q := 79) dX10_readDeed_78 rfl rfl rfl ?_
  refine go_bipush (q := 81) (v := 102) dX10_readDeed_79 (by decide) rfl ?_
  refine go_icmp_neN (ch n c s) 102 (q := 84) (t := 91) dX10_readDeed_81 (by decide) rfl rfl rfl (by have := chZ hP s; omega) (by omega) (fun c_81 => ?_) (fun c_81 => ?_)
  · refine go_aload_n (q := 92) dX10_readDeed_91 rfl rfl rfl ?_
    refine go_cV0 (cal := mX10_number) (q := 95) dX10_readDeed_92 lRX10_164 vX10_number ⟨by decide, by decide⟩ rfl (by decide) (Nat.le_of_ble_eq_true rfl) (ok_mnumber hP1 (s := s + 1) (by have := hP.2.1; omega) (by have := hP.2.1; omega)) rfl ?_
    have hst := st_go (n := n) hr (u := 13) (by rw [hl]; rfl)
    rcases num_sp hP1 (s := s + 1) hst.1 hst.2 (Or.inr ⟨rfl, rfl, rfl⟩) with ⟨hv, hS, hpf⟩ | ⟨hv, hS1, hS2, hS3, h59, hrun, hnu⟩
    · rw [hv, hS]
      refine go_istore_n (q := 96) dX10_readDeed_95 rfl (by decide) rfl rfl ?_
      refine go_iconst (q := 97) (v := 0) dX10_readDeed_96 (by decide) rfl ?_
      refine go_istore (q := 99) dX10_readDeed_97 (by decide) rfl rfl ?_
      refine go_iconst (q := 100) (v := 0) dX10_readDeed_99 (by decide) rfl ?_
      refine go_istore (q := 102) dX10_readDeed_100 (by decide) rfl rfl ?_
      refine go_iload_n (q := 103) dX10_readDeed_102 rfl rfl rfl ?_
      refine go_bipush (q := 105) (v := 115) dX10_readDeed_103 (by decide) rfl ?_
      refine go_icmp_neN (ch n c s) 115 (q := 108) (t := 163) dX10_readDeed_105 (by decide) rfl rfl rfl (by have := chZ hP s; omega) (by omega) (fun c_105 => ?_) (fun c_105 => ?_)
      · refine go_aload_n (q := 164) dX10_readDeed_163 rfl rfl rfl ?_
        refine go_getf (q := 167) dX10_readDeed_164 fRX10_32 rfl (by decide) rfl rfl ?_
        refine go_iload_n (q := 168) dX10_readDeed_167 rfl rfl rfl ?_
        refine go_iconst (q := 169) (v := 1) dX10_readDeed_168 (by decide) rfl ?_
        refine go_iadd (q := 170) dX10_readDeed_169 rfl ?_
        refine go_topi (nI_add (4 * t) 1) ?_
        refine go_iload_n (q := 171) dX10_readDeed_170 rfl rfl rfl ?_
        refine go_iast (q := 172) (4 * t + 1) dX10_readDeed_171 rfl rfl (by decide) rfl (by have := hP.2.1; omega) rfl ?_
        refine go_aload_n (q := 173) dX10_readDeed_172 rfl rfl rfl ?_
        refine go_getf (q := 176) dX10_readDeed_173 fRX10_32 rfl (by decide) rfl rfl ?_
        refine go_iload_n (q := 177) dX10_readDeed_176 rfl rfl rfl ?_
        refine go_iconst (q := 178) (v := 2) dX10_readDeed_177 (by decide) rfl ?_
        refine go_iadd (q := 179) dX10_readDeed_178 rfl ?_
        refine go_topi (nI_add (4 * t) 2) ?_
        refine go_iload (q := 181) dX10_readDeed_179 rfl rfl ?_
        refine go_iast (q := 182) (4 * t + 2) dX10_readDeed_181 rfl rfl (by decide) rfl (by have := hP.2.1; omega) rfl ?_
        refine go_aload_n (q := 183) dX10_readDeed_182 rfl rfl rfl ?_
        refine go_getf (q := 186) dX10_readDeed_183 fRX10_32 rfl (by decide) rfl rfl ?_
        refine go_iload_n (q := 187) dX10_readDeed_186 rfl rfl rfl ?_
        refine go_iconst (q := 188) (v := 3) dX10_readDeed_187 (by decide) rfl ?_
        refine go_iadd (q := 189) dX10_readDeed_188 rfl ?_
        refine go_topi (nI_add (4 * t) 3) ?_
        refine go_iload (q := 191) dX10_readDeed_189 rfl rfl ?_
        refine go_iast (q := 192) (4 * t + 3) dX10_readDeed_191 rfl rfl (by decide) rfl (by have := hP.2.1; omega) rfl ?_
        refine go_aload_n (q := 193) dX10_readDeed_192 rfl rfl rfl ?_
        refine go_dup (q := 194) dX10_readDeed_193 rfl rfl ?_
        refine go_getf (q := 197) dX10_readDeed_194 fRX10_158 rfl (by decide) rfl rfl ?_
        refine go_topi (M2_12 h12) ?_
        refine go_iconst (q := 198) (v := 1) dX10_readDeed_197 (by decide) rfl ?_
        refine go_iadd (q := 199) dX10_readDeed_198 rfl ?_
        refine go_topi (nI_1 t) ?_
        refine go_puti (q := 202) dX10_readDeed_199 pRX10_158 rfl (by decide) rfl rfl rfl (Nat.le_of_ble_eq_true rfl) rfl ?_
        refine go_iload_n (q := 203) dX10_readDeed_202 rfl rfl rfl ?_
        refine go_bipush (q := 205) (v := (-4)) dX10_readDeed_203 (by decide) rfl ?_
        refine go_icmp_eq (q := 208) (t := 226) dX10_readDeed_205 (by decide) rfl (fun _ => ?_) (fun z => absurd rfl z)
        refine go_iconst (q := 227) (v := 0) dX10_readDeed_226 (by decide) rfl ?_
        exact go_iretz dX10_readDeed_227 rfl (by decide) (RD_f hpf)
      · omega
    · refine go_istore_n (q := 96) dX10_readDeed_95 rfl (by decide) rfl rfl ?_
      refine go_iconst (q := 97) (v := 0) dX10_readDeed_96 (by decide) rfl ?_
      refine go_istore (q := 99) dX10_readDeed_97 (by decide) rfl rfl ?_
      refine go_iconst (q := 100) (v := 0) dX10_readDeed_99 (by decide) rfl ?_
      refine go_istore (q := 102) dX10_readDeed_100 (by decide) rfl rfl ?_
      refine go_iload_n (q := 103) dX10_readDeed_102 rfl rfl rfl ?_
      refine go_bipush (q := 105) (v := 115) dX10_readDeed_103 (by decide) rfl ?_
      refine go_icmp_neN (ch n c s) 115 (q := 108) (t := 163) dX10_readDeed_105 (by decide) rfl rfl rfl (by have := chZ hP s; omega) (by omega) (fun c_105 => ?_) (fun c_105 => ?_)
      · refine go_aload_n (q := 164) dX10_readDeed_163 rfl rfl rfl ?_
        refine go_getf (q := 167) dX10_readDeed_164 fRX10_32 rfl (by decide) rfl rfl ?_
        refine go_iload_n (q := 168) dX10_readDeed_167 rfl rfl rfl ?_
        refine go_iconst (q := 169) (v := 1) dX10_readDeed_168 (by decide) rfl ?_
        refine go_iadd (q := 170) dX10_readDeed_169 rfl ?_
        refine go_topi (nI_add (4 * t) 1) ?_
        refine go_iload_n (q := 171) dX10_readDeed_170 rfl rfl rfl ?_
        refine go_iast (q := 172) (4 * t + 1) dX10_readDeed_171 rfl rfl (by decide) rfl (by have := hP.2.1; omega) rfl ?_
        refine go_aload_n (q := 173) dX10_readDeed_172 rfl rfl rfl ?_
        refine go_getf (q := 176) dX10_readDeed_173 fRX10_32 rfl (by decide) rfl rfl ?_
        refine go_iload_n (q := 177) dX10_readDeed_176 rfl rfl rfl ?_
        refine go_iconst (q := 178) (v := 2) dX10_readDeed_177 (by decide) rfl ?_
        refine go_iadd (q := 179) dX10_readDeed_178 rfl ?_
        refine go_topi (nI_add (4 * t) 2) ?_
        refine go_iload (q := 181) dX10_readDeed_179 rfl rfl ?_
        refine go_iast (q := 182) (4 * t + 2) dX10_readDeed_181 rfl rfl (by decide) rfl (by have := hP.2.1; omega) rfl ?_
        refine go_aload_n (q := 183) dX10_readDeed_182 rfl rfl rfl ?_
        refine go_getf (q := 186) dX10_readDeed_183 fRX10_32 rfl (by decide) rfl rfl ?_
        refine go_iload_n (q := 187) dX10_readDeed_186 rfl rfl rfl ?_
        refine go_iconst (q := 188) (v := 3) dX10_readDeed_187 (by decide) rfl ?_
        refine go_iadd (q := 189) dX10_readDeed_188 rfl ?_
        refine go_topi (nI_add (4 * t) 3) ?_
        refine go_iload (q := 191) dX10_readDeed_189 rfl rfl ?_
        refine go_iast (q := 192) (4 * t + 3) dX10_readDeed_191 rfl rfl (by decide) rfl (by have := hP.2.1; omega) rfl ?_
        refine go_aload_n (q := 193) dX10_readDeed_192 rfl rfl rfl ?_
        refine go_dup (q := 194) dX10_readDeed_193 rfl rfl ?_
        refine go_getf (q := 197) dX10_readDeed_194 fRX10_158 rfl (by decide) rfl rfl ?_
        refine go_topi (M2_12 h12) ?_
        refine go_iconst (q := 198) (v := 1) dX10_readDeed_197 (by decide) rfl ?_
        refine go_iadd (q := 199) dX10_readDeed_198 rfl ?_
        refine go_topi (nI_1 t) ?_
        refine go_puti (q := 202) dX10_readDeed_199 pRX10_158 rfl (by decide) rfl rfl rfl (Nat.le_of_ble_eq_true rfl) rfl ?_
        refine go_iload_n (q := 203) dX10_readDeed_202 rfl rfl rfl ?_
        refine go_bipush (q := 205) (v := (-4)) dX10_readDeed_203 (by decide) rfl ?_
        refine go_icmp_eq (q := 208) (t := 226) dX10_readDeed_205 (by decide) rfl (fun z => absurd z hv) (fun _ => ?_)
        refine go_iload (q := 210) dX10_readDeed_208 rfl rfl ?_
        refine go_bipush (q := 212) (v := (-4)) dX10_readDeed_210 (by decide) rfl ?_
        refine go_icmp_eq (q := 215) (t := 226) dX10_readDeed_212 (by decide) rfl (fun z => absurd z (by decide)) (fun _ => ?_)
        refine go_iload (q := 217) dX10_readDeed_215 rfl rfl ?_
        refine go_bipush (q := 219) (v := (-4)) dX10_readDeed_217 (by decide) rfl ?_
        refine go_icmp_eq (q := 222) (t := 226) dX10_readDeed_219 (by decide) rfl (fun z => absurd z (by decide)) (fun _ => ?_)
        refine go_iconst (q := 223) (v := 1) dX10_readDeed_222 (by decide) rfl ?_
        refine go_goto (q := 227) dX10_readDeed_223 (by decide) ?_
        exact go_iretz dX10_readDeed_227 rfl (by decide) (RD_t (by omega) hS2 (hrun.elim (fun z => ⟨14, z.1, Or.inr ⟨rfl, z.2⟩⟩) (fun z => ⟨0, z, Or.inl rfl⟩)) (fun x hx1 hx2 => if e : x = s then (by rw [e, ← ch_in (n := n) (c := c) hsn, hl]; decide) else h59 x (by omega) hx2) (fun hn R => by rw [dT_d hl, dAt_d hl, (hnu hn).1]))
      · omega
  · omega
theorem lp_mrd104 {M : KM} {n : Nat} {c : Nat → Nat} (hP : PZ M n c) {s t : Nat} (hs : s ≤ n) (hr : run c s = .inl 7) (h10 : M.1 14 0 10 = nI s) (h12 : M.1 14 0 12 = nI t) (h3 : 3 * t ≤ s) (hsn : s < n) (hl : (ch n c s) = 104) : Go mX10_readDeed (Zm (RDQ M n c s t)) M [some (vR 14 0), some (vI (nI (ch n c s))), some (vI (nI (4 * t))), none, none, none] [] 58 := by
  have hP1 : PZ (M1t M t s) n c := kD.pz (kD.rf.t) hP
  refine go_aload_n (q := 59) dX10_readDeed_58 rfl rfl rfl ?_
  refine go_getf (q := 62) dX10_readDeed_59 fRX10_32 rfl (by decide) rfl rfl ?_
  refine go_iload_n (q := 63) dX10_readDeed_62 rfl rfl rfl ?_
  refine go_aload_n (q := 64) dX10_readDeed_63 rfl rfl rfl ?_
  refine go_getf (q := 67) dX10_readDeed_64 fRX10_149 rfl (by decide) rfl rfl ?_
  refine go_topi h10 ?_
  refine go_iast (q := 68) (4 * t) dX10_readDeed_67 rfl rfl (by decide) rfl (by have := hP.2.1; omega) rfl ?_
  refine go_aload_n (q := 69) dX10_readDeed_68 rfl rfl rfl ?_
  refine go_dup (q := 70) dX10_readDeed_69 rfl rfl ?_
  refine go_getf (q := 73) dX10_readDeed_70 fRX10_149 rfl (by decide) rfl rfl ?_
  refine go_topi ((congrFun (k_si_ne _ _ (fun z => by omega)) 10).trans h10) ?_
  refine go_iconst (q := 74) (v := 1) dX10_readDeed_73 (by decide) rfl ?_
  refine go_iadd (q := 75) dX10_readDeed_74 rfl ?_
  refine go_topi (nI_1 s) ?_
  refine go_puti (q := 78) dX10_readDeed_75 pRX10_149 rfl (by decide) rfl rfl rfl (Nat.le_of_ble_eq_true rfl) rfl ?_
  refine go_iload_n (q := 79) dX10_readDeed_78 rfl rfl rfl ?_
  refine go_bipush (q := 81) (v := 102) dX10_readDeed_79 (by decide) rfl ?_
  refine go_icmp_neN (ch n c s) 102 (q := 84) (t := 91) dX10_readDeed_81 (by decide) rfl rfl rfl (by have := chZ hP s; omega) (by omega) (fun c_81 => ?_) (fun c_81 => ?_)
  · refine go_aload_n (q := 92) dX10_readDeed_91 rfl rfl rfl ?_
    refine go_cV0 (cal := mX10_number) (q := 95) dX10_readDeed_92 lRX10_164 vX10_number ⟨by decide, by decide⟩ rfl (by decide) (Nat.le_of_ble_eq_true rfl) (ok_mnumber hP1 (s := s + 1) (by have := hP.2.1; omega) (by have := hP.2.1; omega)) rfl ?_
    have hst := st_go (n := n) hr (u := 13) (by rw [hl]; rfl)
    rcases num_sp hP1 (s := s + 1) hst.1 hst.2 (Or.inr ⟨rfl, rfl, rfl⟩) with ⟨hv, hS, hpf⟩ | ⟨hv, hS1, hS2, hS3, h59, hrun, hnu⟩
    · rw [hv, hS]
      refine go_istore_n (q := 96) dX10_readDeed_95 rfl (by decide) rfl rfl ?_
      refine go_iconst (q := 97) (v := 0) dX10_readDeed_96 (by decide) rfl ?_
      refine go_istore (q := 99) dX10_readDeed_97 (by decide) rfl rfl ?_
      refine go_iconst (q := 100) (v := 0) dX10_readDeed_99 (by decide) rfl ?_
      refine go_istore (q := 102) dX10_readDeed_100 (by decide) rfl rfl ?_
      refine go_iload_n (q := 103) dX10_readDeed_102 rfl rfl rfl ?_
      refine go_bipush (q := 105) (v := 115) dX10_readDeed_103 (by decide) rfl ?_
      refine go_icmp_neN (ch n c s) 115 (q := 108) (t := 163) dX10_readDeed_105 (by decide) rfl rfl rfl (by have := chZ hP s; omega) (by omega) (fun c_105 => ?_) (fun c_105 => ?_)
      · refine go_aload_n (q := 164) dX10_readDeed_163 rfl rfl rfl ?_
        refine go_getf (q := 167) dX10_readDeed_164 fRX10_32 rfl (by decide) rfl rfl ?_
        refine go_iload_n (q := 168) dX10_readDeed_167 rfl rfl rfl ?_
        refine go_iconst (q := 169) (v := 1) dX10_readDeed_168 (by decide) rfl ?_
        refine go_iadd (q := 170) dX10_readDeed_169 rfl ?_
        refine go_topi (nI_add (4 * t) 1) ?_
        refine go_iload_n (q := 171) dX10_readDeed_170 rfl rfl rfl ?_
        refine go_iast (q := 172) (4 * t + 1) dX10_readDeed_171 rfl rfl (by decide) rfl (by have := hP.2.1; omega) rfl ?_
        refine go_aload_n (q := 173) dX10_readDeed_172 rfl rfl rfl ?_
        refine go_getf (q := 176) dX10_readDeed_173 fRX10_32 rfl (by decide) rfl rfl ?_
        refine go_iload_n (q := 177) dX10_readDeed_176 rfl rfl rfl ?_
        refine go_iconst (q := 178) (v := 2) dX10_readDeed_177 (by decide) rfl ?_
        refine go_iadd (q := 179) dX10_readDeed_178 rfl ?_
        refine go_topi (nI_add (4 * t) 2) ?_
        refine go_iload (q := 181) dX10_readDeed_179 rfl rfl ?_
        refine go_iast (q := 182) (4 * t + 2) dX10_readDeed_181 rfl rfl (by decide) rfl (by have := hP.2.1; omega) rfl ?_
        refine go_aload_n (q := 183) dX10_readDeed_182 rfl rfl rfl ?_
        refine go_getf (q := 186) dX10_readDeed_183 fRX10_32 rfl (by decide) rfl rfl ?_
        refine go_iload_n (q := 187) dX10_readDeed_186 rfl rfl rfl ?_
        refine go_iconst (q := 188) (v := 3) dX10_readDeed_187 (by decide) rfl ?_
        refine go_iadd (q := 189) dX10_readDeed_188 rfl ?_
        refine go_topi (nI_add (4 * t) 3) ?_
        refine go_iload (q := 191) dX10_readDeed_189 rfl rfl ?_
        refine go_iast (q := 192) (4 * t + 3) dX10_readDeed_191 rfl rfl (by decide) rfl (by have := hP.2.1; omega) rfl ?_
        refine go_aload_n (q := 193) dX10_readDeed_192 rfl rfl rfl ?_
        refine go_dup (q := 194) dX10_readDeed_193 rfl rfl ?_
        refine go_getf (q := 197) dX10_readDeed_194 fRX10_158 rfl (by decide) rfl rfl ?_
        refine go_topi (M2_12 h12) ?_
        refine go_iconst (q := 198) (v := 1) dX10_readDeed_197 (by decide) rfl ?_
        refine go_iadd (q := 199) dX10_readDeed_198 rfl ?_
        refine go_topi (nI_1 t) ?_
        refine go_puti (q := 202) dX10_readDeed_199 pRX10_158 rfl (by decide) rfl rfl rfl (Nat.le_of_ble_eq_true rfl) rfl ?_
        refine go_iload_n (q := 203) dX10_readDeed_202 rfl rfl rfl ?_
        refine go_bipush (q := 205) (v := (-4)) dX10_readDeed_203 (by decide) rfl ?_
        refine go_icmp_eq (q := 208) (t := 226) dX10_readDeed_205 (by decide) rfl (fun _ => ?_) (fun z => absurd rfl z)
        refine go_iconst (q := 227) (v := 0) dX10_readDeed_226 (by decide) rfl ?_
        exact go_iretz dX10_readDeed_227 rfl (by decide) (RD_f hpf)
      · omega
    · refine go_istore_n (q := 96) dX10_readDeed_95 rfl (by decide) rfl rfl ?_
      refine go_iconst (q := 97) (v := 0) dX10_readDeed_96 (by decide) rfl ?_
      refine go_istore (q := 99) dX10_readDeed_97 (by decide) rfl rfl ?_
      refine go_iconst (q := 100) (v := 0) dX10_readDeed_99 (by decide) rfl ?_
      refine go_istore (q := 102) dX10_readDeed_100 (by decide) rfl rfl ?_
      refine go_iload_n (q := 103) dX10_readDeed_102 rfl rfl rfl ?_
      refine go_bipush (q := 105) (v := 115) dX10_readDeed_103 (by decide) rfl ?_
      refine go_icmp_neN (ch n c s) 115 (q := 108) (t := 163) dX10_readDeed_105 (by decide) rfl rfl rfl (by have := chZ hP s; omega) (by omega) (fun c_105 => ?_) (fun c_105 => ?_)
      · refine go_aload_n (q := 164) dX10_readDeed_163 rfl rfl rfl ?_
        refine go_getf (q := 167) dX10_readDeed_164 fRX10_32 rfl (by decide) rfl rfl ?_
        refine go_iload_n (q := 168) dX10_readDeed_167 rfl rfl rfl ?_
        refine go_iconst (q := 169) (v := 1) dX10_readDeed_168 (by decide) rfl ?_
        refine go_iadd (q := 170) dX10_readDeed_169 rfl ?_
        refine go_topi (nI_add (4 * t) 1) ?_
        refine go_iload_n (q := 171) dX10_readDeed_170 rfl rfl rfl ?_
        refine go_iast (q := 172) (4 * t + 1) dX10_readDeed_171 rfl rfl (by decide) rfl (by have := hP.2.1; omega) rfl ?_
        refine go_aload_n (q := 173) dX10_readDeed_172 rfl rfl rfl ?_
        refine go_getf (q := 176) dX10_readDeed_173 fRX10_32 rfl (by decide) rfl rfl ?_
        refine go_iload_n (q := 177) dX10_readDeed_176 rfl rfl rfl ?_
        refine go_iconst (q := 178) (v := 2) dX10_readDeed_177 (by decide) rfl ?_
        refine go_iadd (q := 179) dX10_readDeed_178 rfl ?_
        refine go_topi (nI_add (4 * t) 2) ?_
        refine go_iload (q := 181) dX10_readDeed_179 rfl rfl ?_
        refine go_iast (q := 182) (4 * t + 2) dX10_readDeed_181 rfl rfl (by decide) rfl (by have := hP.2.1; omega) rfl ?_
        refine go_aload_n (q := 183) dX10_readDeed_182 rfl rfl rfl ?_
        refine go_getf (q := 186) dX10_readDeed_183 fRX10_32 rfl (by decide) rfl rfl ?_
        refine go_iload_n (q := 187) dX10_readDeed_186 rfl rfl rfl ?_
        refine go_iconst (q := 188) (v := 3) dX10_readDeed_187 (by decide) rfl ?_
        refine go_iadd (q := 189) dX10_readDeed_188 rfl ?_
        refine go_topi (nI_add (4 * t) 3) ?_
        refine go_iload (q := 191) dX10_readDeed_189 rfl rfl ?_
        refine go_iast (q := 192) (4 * t + 3) dX10_readDeed_191 rfl rfl (by decide) rfl (by have := hP.2.1; omega) rfl ?_
        refine go_aload_n (q := 193) dX10_readDeed_192 rfl rfl rfl ?_
        refine go_dup (q := 194) dX10_readDeed_193 rfl rfl ?_
        refine go_getf (q := 197) dX10_readDeed_194 fRX10_158 rfl (by decide) rfl rfl ?_
        refine go_topi (M2_12 h12) ?_
        refine go_iconst (q := 198) (v := 1) dX10_readDeed_197 (by decide) rfl ?_
        refine go_iadd (q := 199) dX10_readDeed_198 rfl ?_
        refine go_topi (nI_1 t) ?_
        refine go_puti (q := 202) dX10_readDeed_199 pRX10_158 rfl (by decide) rfl rfl rfl (Nat.le_of_ble_eq_true rfl) rfl ?_
        refine go_iload_n (q := 203) dX10_readDeed_202 rfl rfl rfl ?_
        refine go_bipush (q := 205) (v := (-4)) dX10_readDeed_203 (by decide) rfl ?_
        refine go_icmp_eq (q := 208) (t := 226) dX10_readDeed_205 (by decide) rfl (fun z => absurd z hv) (fun _ => ?_)
        refine go_iload (q := 210) dX10_readDeed_208 rfl rfl ?_
        refine go_bipush (q := 212) (v := (-4)) dX10_readDeed_210 (by decide) rfl ?_
        refine go_icmp_eq (q := 215) (t := 226) dX10_readDeed_212 (by decide) rfl (fun z => absurd z (by decide)) (fun _ => ?_)
        refine go_iload (q := 217) dX10_readDeed_215 rfl rfl ?_
        refine go_bipush (q := 219) (v := (-4)) dX10_readDeed_217 (by decide) rfl ?_
        refine go_icmp_eq (q := 222) (t := 226) dX10_readDeed_219 (by decide) rfl (fun z => absurd z (by decide)) (fun _ => ?_)
        refine go_iconst (q := 223) (v := 1) dX10_readDeed_222 (by decide) rfl ?_
        refine go_goto (q := 227) dX10_readDeed_223 (by decide) ?_
        exact go_iretz dX10_readDeed_227 rfl (by decide) (RD_t (by omega) hS2 (hrun.elim (fun z => ⟨14, z.1, Or.inr ⟨rfl, z.2⟩⟩) (fun z => ⟨0, z, Or.inl rfl⟩)) (fun x hx1 hx2 => if e : x = s then (by rw [e, ← ch_in (n := n) (c := c) hsn, hl]; decide) else h59 x (by omega) hx2) (fun hn R => by rw [dT_h hl, dAt_h hl, (hnu hn).1]))
      · omega
  · omega
theorem lp_mrd102 {M : KM} {n : Nat} {c : Nat → Nat} (hP : PZ M n c) {s t : Nat} (hs : s ≤ n) (hr : run c s = .inl 7) (h10 : M.1 14 0 10 = nI s) (h12 : M.1 14 0 12 = nI t) (h3 : 3 * t ≤ s) (hsn : s < n) (hl : (ch n c s) = 102) : Go mX10_readDeed (Zm (RDQ M n c s t)) M [some (vR 14 0), some (vI (nI (ch n c s))), some (vI (nI (4 * t))), none, none, none] [] 58 := by
  have hP1 : PZ (M1t M t s) n c := kD.pz (kD.rf.t) hP
  refine go_aload_n (q := 59) dX10_readDeed_58 rfl rfl rfl ?_
  refine go_getf (q := 62) dX10_readDeed_59 fRX10_32 rfl (by decide) rfl rfl ?_
  refine go_iload_n (q := 63) dX10_readDeed_62 rfl rfl rfl ?_
  refine go_aload_n (q := 64) dX10_readDeed_63 rfl rfl rfl ?_
  refine go_getf (q := 67) dX10_readDeed_64 fRX10_149 rfl (by decide) rfl rfl ?_
  refine go_topi h10 ?_
  refine go_iast (q := 68) (4 * t) dX10_readDeed_67 rfl rfl (by decide) rfl (by have := hP.2.1; omega) rfl ?_
  refine go_aload_n (q := 69) dX10_readDeed_68 rfl rfl rfl ?_
  refine go_dup (q := 70) dX10_readDeed_69 rfl rfl ?_
  refine go_getf (q := 73) dX10_readDeed_70 fRX10_149 rfl (by decide) rfl rfl ?_
  refine go_topi ((congrFun (k_si_ne _ _ (fun z => by omega)) 10).trans h10) ?_
  refine go_iconst (q := 74) (v := 1) dX10_readDeed_73 (by decide) rfl ?_
  refine go_iadd (q := 75) dX10_readDeed_74 rfl ?_
  refine go_topi (nI_1 s) ?_
  refine go_puti (q := 78) dX10_readDeed_75 pRX10_149 rfl (by decide) rfl rfl rfl (Nat.le_of_ble_eq_true rfl) rfl ?_
  refine go_iload_n (q := 79) dX10_readDeed_78 rfl rfl rfl ?_
  refine go_bipush (q := 81) (v := 102) dX10_readDeed_79 (by decide) rfl ?_
  refine go_icmp_neN (ch n c s) 102 (q := 84) (t := 91) dX10_readDeed_81 (by decide) rfl rfl rfl (by have := chZ hP s; omega) (by omega) (fun c_81 => ?_) (fun c_81 => ?_)
  · omega
  · refine go_aload_n (q := 85) dX10_readDeed_84 rfl rfl rfl ?_
    refine go_callV [] (cal := mX10_readShield) (q := 88) dX10_readDeed_85 lRX10_161 vX10_readShield ⟨by decide, by decide⟩ rfl rfl (by decide) (Nat.le_of_ble_eq_true rfl) (ok_mreadShield hP1 (s := s + 1) (by have := hP.2.1; omega)) rfl (fun r85 M85 h85 => ?_)
    skip
    have hst := st_go (n := n) hr (u := 6) (by rw [hl]; rfl)
    rcases h85 with ⟨k, hk6, hk1, hk2, rfl, rfl⟩ | ⟨hk1, rfl, rfl⟩
    · refine go_goto (q := 95) dX10_readDeed_88 (by decide) ?_
      refine go_istore_n (q := 96) dX10_readDeed_95 rfl (by decide) rfl rfl ?_
      refine go_iconst (q := 97) (v := 0) dX10_readDeed_96 (by decide) rfl ?_
      refine go_istore (q := 99) dX10_readDeed_97 (by decide) rfl rfl ?_
      refine go_iconst (q := 100) (v := 0) dX10_readDeed_99 (by decide) rfl ?_
      refine go_istore (q := 102) dX10_readDeed_100 (by decide) rfl rfl ?_
      refine go_iload_n (q := 103) dX10_readDeed_102 rfl rfl rfl ?_
      refine go_bipush (q := 105) (v := 115) dX10_readDeed_103 (by decide) rfl ?_
      refine go_icmp_neN (ch n c s) 115 (q := 108) (t := 163) dX10_readDeed_105 (by decide) rfl rfl rfl (by have := chZ hP s; omega) (by omega) (fun c_105 => ?_) (fun c_105 => ?_)
      · refine go_aload_n (q := 164) dX10_readDeed_163 rfl rfl rfl ?_
        refine go_getf (q := 167) dX10_readDeed_164 fRX10_32 rfl (by decide) rfl rfl ?_
        refine go_iload_n (q := 168) dX10_readDeed_167 rfl rfl rfl ?_
        refine go_iconst (q := 169) (v := 1) dX10_readDeed_168 (by decide) rfl ?_
        refine go_iadd (q := 170) dX10_readDeed_169 rfl ?_
        refine go_topi (nI_add (4 * t) 1) ?_
        refine go_iload_n (q := 171) dX10_readDeed_170 rfl rfl rfl ?_
        refine go_iast (q := 172) (4 * t + 1) dX10_readDeed_171 rfl rfl (by decide) rfl (by have := hP.2.1; omega) rfl ?_
        refine go_aload_n (q := 173) dX10_readDeed_172 rfl rfl rfl ?_
        refine go_getf (q := 176) dX10_readDeed_173 fRX10_32 rfl (by decide) rfl rfl ?_
        refine go_iload_n (q := 177) dX10_readDeed_176 rfl rfl rfl ?_
        refine go_iconst (q := 178) (v := 2) dX10_readDeed_177 (by decide) rfl ?_
        refine go_iadd (q := 179) dX10_readDeed_178 rfl ?_
        refine go_topi (nI_add (4 * t) 2) ?_
        refine go_iload (q := 181) dX10_readDeed_179 rfl rfl ?_
        refine go_iast (q := 182) (4 * t + 2) dX10_readDeed_181 rfl rfl (by decide) rfl (by have := hP.2.1; omega) rfl ?_
        refine go_aload_n (q := 183) dX10_readDeed_182 rfl rfl rfl ?_
        refine go_getf (q := 186) dX10_readDeed_183 fRX10_32 rfl (by decide) rfl rfl ?_
        refine go_iload_n (q := 187) dX10_readDeed_186 rfl rfl rfl ?_
        refine go_iconst (q := 188) (v := 3) dX10_readDeed_187 (by decide) rfl ?_
        refine go_iadd (q := 189) dX10_readDeed_188 rfl ?_
        refine go_topi (nI_add (4 * t) 3) ?_
        refine go_iload (q := 191) dX10_readDeed_189 rfl rfl ?_
        refine go_iast (q := 192) (4 * t + 3) dX10_readDeed_191 rfl rfl (by decide) rfl (by have := hP.2.1; omega) rfl ?_
        refine go_aload_n (q := 193) dX10_readDeed_192 rfl rfl rfl ?_
        refine go_dup (q := 194) dX10_readDeed_193 rfl rfl ?_
        refine go_getf (q := 197) dX10_readDeed_194 fRX10_158 rfl (by decide) rfl rfl ?_
        refine go_topi (M2_12 h12) ?_
        refine go_iconst (q := 198) (v := 1) dX10_readDeed_197 (by decide) rfl ?_
        refine go_iadd (q := 199) dX10_readDeed_198 rfl ?_
        refine go_topi (nI_1 t) ?_
        refine go_puti (q := 202) dX10_readDeed_199 pRX10_158 rfl (by decide) rfl rfl rfl (Nat.le_of_ble_eq_true rfl) rfl ?_
        refine go_iload_n (q := 203) dX10_readDeed_202 rfl rfl rfl ?_
        refine go_bipush (q := 205) (v := (-4)) dX10_readDeed_203 (by decide) rfl ?_
        refine go_icmp_eq (q := 208) (t := 226) dX10_readDeed_205 (by decide) rfl (fun _ => ?_) (fun z => absurd rfl z)
        refine go_iconst (q := 227) (v := 0) dX10_readDeed_226 (by decide) rfl ?_
        exact go_iretz dX10_readDeed_227 rfl (by decide) (RD_f (st_no (sh_run hst.2 (by omega) hk1) (by have : ∀ i, i < k → s + 1 + i < n := fun i hi => isB_n (by decide) (hk1 i hi); rcases Nat.eq_zero_or_pos k with hk0 | hk0; omega; have := this (k - 1) (by omega); omega) (by rw [sA_sh (by omega) (by omega), if_neg (by rw [hk2]; decide)]) (Or.inr (by omega))))
      · omega
    · obtain ⟨v, hv, he⟩ := sh_nat hk1
      have hne : ¬ shAt n c (s + 1) 6 = -4 := by rw [he]; exact nI_neg (by omega) (by decide)
      have hl7 : s + 6 < n := by have := isB_n (by decide) (hk1 5 (by decide)); omega
      refine go_goto (q := 95) dX10_readDeed_88 (by decide) ?_
      refine go_istore_n (q := 96) dX10_readDeed_95 rfl (by decide) rfl rfl ?_
      refine go_iconst (q := 97) (v := 0) dX10_readDeed_96 (by decide) rfl ?_
      refine go_istore (q := 99) dX10_readDeed_97 (by decide) rfl rfl ?_
      refine go_iconst (q := 100) (v := 0) dX10_readDeed_99 (by decide) rfl ?_
      refine go_istore (q := 102) dX10_readDeed_100 (by decide) rfl rfl ?_
      refine go_iload_n (q := 103) dX10_readDeed_102 rfl rfl rfl ?_
      refine go_bipush (q := 105) (v := 115) dX10_readDeed_103 (by decide) rfl ?_
      refine go_icmp_neN (ch n c s) 115 (q := 108) (t := 163) dX10_readDeed_105 (by decide) rfl rfl rfl (by have := chZ hP s; omega) (by omega) (fun c_105 => ?_) (fun c_105 => ?_)
      · refine go_aload_n (q := 164) dX10_readDeed_163 rfl rfl rfl ?_
        refine go_getf (q := 167) dX10_readDeed_164 fRX10_32 rfl (by decide) rfl rfl ?_
        refine go_iload_n (q := 168) dX10_readDeed_167 rfl rfl rfl ?_
        refine go_iconst (q := 169) (v := 1) dX10_readDeed_168 (by decide) rfl ?_
        refine go_iadd (q := 170) dX10_readDeed_169 rfl ?_
        refine go_topi (nI_add (4 * t) 1) ?_
        refine go_iload_n (q := 171) dX10_readDeed_170 rfl rfl rfl ?_
        refine go_iast (q := 172) (4 * t + 1) dX10_readDeed_171 rfl rfl (by decide) rfl (by have := hP.2.1; omega) rfl ?_
        refine go_aload_n (q := 173) dX10_readDeed_172 rfl rfl rfl ?_
        refine go_getf (q := 176) dX10_readDeed_173 fRX10_32 rfl (by decide) rfl rfl ?_
        refine go_iload_n (q := 177) dX10_readDeed_176 rfl rfl rfl ?_
        refine go_iconst (q := 178) (v := 2) dX10_readDeed_177 (by decide) rfl ?_
        refine go_iadd (q := 179) dX10_readDeed_178 rfl ?_
        refine go_topi (nI_add (4 * t) 2) ?_
        refine go_iload (q := 181) dX10_readDeed_179 rfl rfl ?_
        refine go_iast (q := 182) (4 * t + 2) dX10_readDeed_181 rfl rfl (by decide) rfl (by have := hP.2.1; omega) rfl ?_
        refine go_aload_n (q := 183) dX10_readDeed_182 rfl rfl rfl ?_
        refine go_getf (q := 186) dX10_readDeed_183 fRX10_32 rfl (by decide) rfl rfl ?_
        refine go_iload_n (q := 187) dX10_readDeed_186 rfl rfl rfl ?_
        refine go_iconst (q := 188) (v := 3) dX10_readDeed_187 (by decide) rfl ?_
        refine go_iadd (q := 189) dX10_readDeed_188 rfl ?_
        refine go_topi (nI_add (4 * t) 3) ?_
        refine go_iload (q := 191) dX10_readDeed_189 rfl rfl ?_
        refine go_iast (q := 192) (4 * t + 3) dX10_readDeed_191 rfl rfl (by decide) rfl (by have := hP.2.1; omega) rfl ?_
        refine go_aload_n (q := 193) dX10_readDeed_192 rfl rfl rfl ?_
        refine go_dup (q := 194) dX10_readDeed_193 rfl rfl ?_
        refine go_getf (q := 197) dX10_readDeed_194 fRX10_158 rfl (by decide) rfl rfl ?_
        refine go_topi (M2_12 h12) ?_
        refine go_iconst (q := 198) (v := 1) dX10_readDeed_197 (by decide) rfl ?_
        refine go_iadd (q := 199) dX10_readDeed_198 rfl ?_
        refine go_topi (nI_1 t) ?_
        refine go_puti (q := 202) dX10_readDeed_199 pRX10_158 rfl (by decide) rfl rfl rfl (Nat.le_of_ble_eq_true rfl) rfl ?_
        refine go_iload_n (q := 203) dX10_readDeed_202 rfl rfl rfl ?_
        refine go_bipush (q := 205) (v := (-4)) dX10_readDeed_203 (by decide) rfl ?_
        refine go_icmp_eq (q := 208) (t := 226) dX10_readDeed_205 (by decide) rfl (fun z => absurd z hne) (fun _ => ?_)
        refine go_iload (q := 210) dX10_readDeed_208 rfl rfl ?_
        refine go_bipush (q := 212) (v := (-4)) dX10_readDeed_210 (by decide) rfl ?_
        refine go_icmp_eq (q := 215) (t := 226) dX10_readDeed_212 (by decide) rfl (fun z => absurd z (by decide)) (fun _ => ?_)
        refine go_iload (q := 217) dX10_readDeed_215 rfl rfl ?_
        refine go_bipush (q := 219) (v := (-4)) dX10_readDeed_217 (by decide) rfl ?_
        refine go_icmp_eq (q := 222) (t := 226) dX10_readDeed_219 (by decide) rfl (fun z => absurd z (by decide)) (fun _ => ?_)
        refine go_iconst (q := 223) (v := 1) dX10_readDeed_222 (by decide) rfl ?_
        refine go_goto (q := 227) dX10_readDeed_223 (by decide) ?_
        exact go_iretz dX10_readDeed_227 rfl (by decide) (RD_t (e := s + 1 + 6) (by omega) (by omega) ⟨0, sh_run hst.2 (by omega) hk1, Or.inl rfl⟩ (fun x hx1 hx2 => if e : x = s then (by rw [e, ← ch_in (n := n) (c := c) hsn, hl]; decide) else sh_59 hk1 x (by omega) hx2) (fun hn R => by rw [dT_f hl, dAt_f hl]))
      · omega
theorem lp_mrd115 {M : KM} {n : Nat} {c : Nat → Nat} (hP : PZ M n c) {s t : Nat} (hs : s ≤ n) (hr : run c s = .inl 7) (h10 : M.1 14 0 10 = nI s) (h12 : M.1 14 0 12 = nI t) (h3 : 3 * t ≤ s) (hsn : s < n) (hl : (ch n c s) = 115) : Go mX10_readDeed (Zm (RDQ M n c s t)) M [some (vR 14 0), some (vI (nI (ch n c s))), some (vI (nI (4 * t))), none, none, none] [] 58 := by
  have hP1 : PZ (M1t M t s) n c := kD.pz (kD.rf.t) hP
  refine go_aload_n (q := 59) dX10_readDeed_58 rfl rfl rfl ?_
  refine go_getf (q := 62) dX10_readDeed_59 fRX10_32 rfl (by decide) rfl rfl ?_
  refine go_iload_n (q := 63) dX10_readDeed_62 rfl rfl rfl ?_
  refine go_aload_n (q := 64) dX10_readDeed_63 rfl rfl rfl ?_
  refine go_getf (q := 67) dX10_readDeed_64 fRX10_149 rfl (by decide) rfl rfl ?_
  refine go_topi h10 ?_
  refine go_iast (q := 68) (4 * t) dX10_readDeed_67 rfl rfl (by decide) rfl (by have := hP.2.1; omega) rfl ?_
  refine go_aload_n (q := 69) dX10_readDeed_68 rfl rfl rfl ?_
  refine go_dup (q := 70) dX10_readDeed_69 rfl rfl ?_
  refine go_getf (q := 73) dX10_readDeed_70 fRX10_149 rfl (by decide) rfl rfl ?_
  refine go_topi ((congrFun (k_si_ne _ _ (fun z => by omega)) 10).trans h10) ?_
  refine go_iconst (q := 74) (v := 1) dX10_readDeed_73 (by decide) rfl ?_
  refine go_iadd (q := 75) dX10_readDeed_74 rfl ?_
  refine go_topi (nI_1 s) ?_
  refine go_puti (q := 78) dX10_readDeed_75 pRX10_149 rfl (by decide) rfl rfl rfl (Nat.le_of_ble_eq_true rfl) rfl ?_
  refine go_iload_n (q := 79) dX10_readDeed_78 rfl rfl rfl ?_
  refine go_bipush (q := 81) (v := 102) dX10_readDeed_79 (by decide) rfl ?_
  refine go_icmp_neN (ch n c s) 102 (q := 84) (t := 91) dX10_readDeed_81 (by decide) rfl rfl rfl (by have := chZ hP s; omega) (by omega) (fun c_81 => ?_) (fun c_81 => ?_)
  · refine go_aload_n (q := 92) dX10_readDeed_91 rfl rfl rfl ?_
    refine go_cV0 (cal := mX10_number) (q := 95) dX10_readDeed_92 lRX10_164 vX10_number ⟨by decide, by decide⟩ rfl (by decide) (Nat.le_of_ble_eq_true rfl) (ok_mnumber hP1 (s := s + 1) (by have := hP.2.1; omega) (by have := hP.2.1; omega)) rfl ?_
    have hst := st_go (n := n) hr (u := 8) (by rw [hl]; rfl)
    rcases num_sp hP1 (s := s + 1) hst.1 hst.2 (Or.inl ⟨rfl, rfl, rfl⟩) with ⟨hv, hS, hpf⟩ | ⟨hv, hS1, hS2, hS3, h59, hrun, hnu⟩
    · rw [hv, hS]
      refine go_istore_n (q := 96) dX10_readDeed_95 rfl (by decide) rfl rfl ?_
      refine go_iconst (q := 97) (v := 0) dX10_readDeed_96 (by decide) rfl ?_
      refine go_istore (q := 99) dX10_readDeed_97 (by decide) rfl rfl ?_
      refine go_iconst (q := 100) (v := 0) dX10_readDeed_99 (by decide) rfl ?_
      refine go_istore (q := 102) dX10_readDeed_100 (by decide) rfl rfl ?_
      refine go_iload_n (q := 103) dX10_readDeed_102 rfl rfl rfl ?_
      refine go_bipush (q := 105) (v := 115) dX10_readDeed_103 (by decide) rfl ?_
      refine go_icmp_neN (ch n c s) 115 (q := 108) (t := 163) dX10_readDeed_105 (by decide) rfl rfl rfl (by have := chZ hP s; omega) (by omega) (fun c_105 => ?_) (fun c_105 => ?_)
      · omega
      · refine go_iload_n (q := 109) dX10_readDeed_108 rfl rfl rfl ?_
        refine go_bipush (q := 111) (v := (-4)) dX10_readDeed_109 (by decide) rfl ?_
        refine go_icmp_eq (q := 114) (t := 163) dX10_readDeed_111 (by decide) rfl (fun _ => ?_) (fun z => absurd rfl z)
        refine go_aload_n (q := 164) dX10_readDeed_163 rfl rfl rfl ?_
        refine go_getf (q := 167) dX10_readDeed_164 fRX10_32 rfl (by decide) rfl rfl ?_
        refine go_iload_n (q := 168) dX10_readDeed_167 rfl rfl rfl ?_
        refine go_iconst (q := 169) (v := 1) dX10_readDeed_168 (by decide) rfl ?_
        refine go_iadd (q := 170) dX10_readDeed_169 rfl ?_
        refine go_topi (nI_add (4 * t) 1) ?_
        refine go_iload_n (q := 171) dX10_readDeed_170 rfl rfl rfl ?_
        refine go_iast (q := 172) (4 * t + 1) dX10_readDeed_171 rfl rfl (by decide) rfl (by have := hP.2.1; omega) rfl ?_
        refine go_aload_n (q := 173) dX10_readDeed_172 rfl rfl rfl ?_
        refine go_getf (q := 176) dX10_readDeed_173 fRX10_32 rfl (by decide) rfl rfl ?_
        refine go_iload_n (q := 177) dX10_readDeed_176 rfl rfl rfl ?_
        refine go_iconst (q := 178) (v := 2) dX10_readDeed_177 (by decide) rfl ?_
        refine go_iadd (q := 179) dX10_readDeed_178 rfl ?_
        refine go_topi (nI_add (4 * t) 2) ?_
        refine go_iload (q := 181) dX10_readDeed_179 rfl rfl ?_
        refine go_iast (q := 182) (4 * t + 2) dX10_readDeed_181 rfl rfl (by decide) rfl (by have := hP.2.1; omega) rfl ?_
        refine go_aload_n (q := 183) dX10_readDeed_182 rfl rfl rfl ?_
        refine go_getf (q := 186) dX10_readDeed_183 fRX10_32 rfl (by decide) rfl rfl ?_
        refine go_iload_n (q := 187) dX10_readDeed_186 rfl rfl rfl ?_
        refine go_iconst (q := 188) (v := 3) dX10_readDeed_187 (by decide) rfl ?_
        refine go_iadd (q := 189) dX10_readDeed_188 rfl ?_
        refine go_topi (nI_add (4 * t) 3) ?_
        refine go_iload (q := 191) dX10_readDeed_189 rfl rfl ?_
        refine go_iast (q := 192) (4 * t + 3) dX10_readDeed_191 rfl rfl (by decide) rfl (by have := hP.2.1; omega) rfl ?_
        refine go_aload_n (q := 193) dX10_readDeed_192 rfl rfl rfl ?_
        refine go_dup (q := 194) dX10_readDeed_193 rfl rfl ?_
        refine go_getf (q := 197) dX10_readDeed_194 fRX10_158 rfl (by decide) rfl rfl ?_
        refine go_topi (M2_12 h12) ?_
        refine go_iconst (q := 198) (v := 1) dX10_readDeed_197 (by decide) rfl ?_
        refine go_iadd (q := 199) dX10_readDeed_198 rfl ?_
        refine go_topi (nI_1 t) ?_
        refine go_puti (q := 202) dX10_readDeed_199 pRX10_158 rfl (by decide) rfl rfl rfl (Nat.le_of_ble_eq_true rfl) rfl ?_
        refine go_iload_n (q := 203) dX10_readDeed_202 rfl rfl rfl ?_
        refine go_bipush (q := 205) (v := (-4)) dX10_readDeed_203 (by decide) rfl ?_
        refine go_icmp_eq (q := 208) (t := 226) dX10_readDeed_205 (by decide) rfl (fun _ => ?_) (fun z => absurd rfl z)
        refine go_iconst (q := 227) (v := 0) dX10_readDeed_226 (by decide) rfl ?_
        exact go_iretz dX10_readDeed_227 rfl (by decide) (RD_f hpf)
    · refine go_istore_n (q := 96) dX10_readDeed_95 rfl (by decide) rfl rfl ?_
      refine go_iconst (q := 97) (v := 0) dX10_readDeed_96 (by decide) rfl ?_
      refine go_istore (q := 99) dX10_readDeed_97 (by decide) rfl rfl ?_
      refine go_iconst (q := 100) (v := 0) dX10_readDeed_99 (by decide) rfl ?_
      refine go_istore (q := 102) dX10_readDeed_100 (by decide) rfl rfl ?_
      refine go_iload_n (q := 103) dX10_readDeed_102 rfl rfl rfl ?_
      refine go_bipush (q := 105) (v := 115) dX10_readDeed_103 (by decide) rfl ?_
      refine go_icmp_neN (ch n c s) 115 (q := 108) (t := 163) dX10_readDeed_105 (by decide) rfl rfl rfl (by have := chZ hP s; omega) (by omega) (fun c_105 => ?_) (fun c_105 => ?_)
      · omega
      · refine go_iload_n (q := 109) dX10_readDeed_108 rfl rfl rfl ?_
        refine go_bipush (q := 111) (v := (-4)) dX10_readDeed_109 (by decide) rfl ?_
        refine go_icmp_eq (q := 114) (t := 163) dX10_readDeed_111 (by decide) rfl (fun z => absurd z hv) (fun _ => ?_)
        refine go_aload_n (q := 115) dX10_readDeed_114 rfl rfl rfl ?_
        refine go_bipush (q := 117) (v := 46) dX10_readDeed_115 (by decide) rfl ?_
        refine go_cV1 (cal := mX10_takes) (q := 120) dX10_readDeed_117 lRX10_167 vX10_takes ⟨by decide, by decide⟩ rfl (by decide) (Nat.le_of_ble_eq_true rfl) (ok_mtakes hP1 (s := (nS n c (s + 1))) (by have := hP.2.1; omega) (a := 46) (by decide) (by decide)) rfl ?_
        refine go_if_eqB (q := 123) (t := 131) dX10_readDeed_120 (by decide) rfl (fun c_120 => ?_) (fun c_120 => ?_)
        · rw [if_neg (by rw [c_120]; decide)]
          refine go_bipush (q := 133) (v := (-4)) dX10_readDeed_131 (by decide) rfl ?_
          refine go_istore (q := 135) dX10_readDeed_133 (by decide) rfl rfl ?_
          refine go_iload (q := 137) dX10_readDeed_135 rfl rfl ?_
          refine go_bipush (q := 139) (v := (-4)) dX10_readDeed_137 (by decide) rfl ?_
          refine go_icmp_eq (q := 142) (t := 159) dX10_readDeed_139 (by decide) rfl (fun _ => ?_) (fun z => absurd rfl z)
          refine go_bipush (q := 161) (v := (-4)) dX10_readDeed_159 (by decide) rfl ?_
          refine go_istore (q := 163) dX10_readDeed_161 (by decide) rfl rfl ?_
          refine go_aload_n (q := 164) dX10_readDeed_163 rfl rfl rfl ?_
          refine go_getf (q := 167) dX10_readDeed_164 fRX10_32 rfl (by decide) rfl rfl ?_
          refine go_iload_n (q := 168) dX10_readDeed_167 rfl rfl rfl ?_
          refine go_iconst (q := 169) (v := 1) dX10_readDeed_168 (by decide) rfl ?_
          refine go_iadd (q := 170) dX10_readDeed_169 rfl ?_
          refine go_topi (nI_add (4 * t) 1) ?_
          refine go_iload_n (q := 171) dX10_readDeed_170 rfl rfl rfl ?_
          refine go_iast (q := 172) (4 * t + 1) dX10_readDeed_171 rfl rfl (by decide) rfl (by have := hP.2.1; omega) rfl ?_
          refine go_aload_n (q := 173) dX10_readDeed_172 rfl rfl rfl ?_
          refine go_getf (q := 176) dX10_readDeed_173 fRX10_32 rfl (by decide) rfl rfl ?_
          refine go_iload_n (q := 177) dX10_readDeed_176 rfl rfl rfl ?_
          refine go_iconst (q := 178) (v := 2) dX10_readDeed_177 (by decide) rfl ?_
          refine go_iadd (q := 179) dX10_readDeed_178 rfl ?_
          refine go_topi (nI_add (4 * t) 2) ?_
          refine go_iload (q := 181) dX10_readDeed_179 rfl rfl ?_
          refine go_iast (q := 182) (4 * t + 2) dX10_readDeed_181 rfl rfl (by decide) rfl (by have := hP.2.1; omega) rfl ?_
          refine go_aload_n (q := 183) dX10_readDeed_182 rfl rfl rfl ?_
          refine go_getf (q := 186) dX10_readDeed_183 fRX10_32 rfl (by decide) rfl rfl ?_
          refine go_iload_n (q := 187) dX10_readDeed_186 rfl rfl rfl ?_
          refine go_iconst (q := 188) (v := 3) dX10_readDeed_187 (by decide) rfl ?_
          refine go_iadd (q := 189) dX10_readDeed_188 rfl ?_
          refine go_topi (nI_add (4 * t) 3) ?_
          refine go_iload (q := 191) dX10_readDeed_189 rfl rfl ?_
          refine go_iast (q := 192) (4 * t + 3) dX10_readDeed_191 rfl rfl (by decide) rfl (by have := hP.2.1; omega) rfl ?_
          refine go_aload_n (q := 193) dX10_readDeed_192 rfl rfl rfl ?_
          refine go_dup (q := 194) dX10_readDeed_193 rfl rfl ?_
          refine go_getf (q := 197) dX10_readDeed_194 fRX10_158 rfl (by decide) rfl rfl ?_
          refine go_topi (M2_12 h12) ?_
          refine go_iconst (q := 198) (v := 1) dX10_readDeed_197 (by decide) rfl ?_
          refine go_iadd (q := 199) dX10_readDeed_198 rfl ?_
          refine go_topi (nI_1 t) ?_
          refine go_puti (q := 202) dX10_readDeed_199 pRX10_158 rfl (by decide) rfl rfl rfl (Nat.le_of_ble_eq_true rfl) rfl ?_
          refine go_iload_n (q := 203) dX10_readDeed_202 rfl rfl rfl ?_
          refine go_bipush (q := 205) (v := (-4)) dX10_readDeed_203 (by decide) rfl ?_
          refine go_icmp_eq (q := 208) (t := 226) dX10_readDeed_205 (by decide) rfl (fun z => absurd z hv) (fun _ => ?_)
          refine go_iload (q := 210) dX10_readDeed_208 rfl rfl ?_
          refine go_bipush (q := 212) (v := (-4)) dX10_readDeed_210 (by decide) rfl ?_
          refine go_icmp_eq (q := 215) (t := 226) dX10_readDeed_212 (by decide) rfl (fun _ => ?_) (fun z => absurd rfl z)
          refine go_iconst (q := 227) (v := 0) dX10_readDeed_226 (by decide) rfl ?_
          exact go_iretz dX10_readDeed_227 rfl (by decide) (RD_f (fat_no hS2 hrun c_120))
        · rw [if_pos c_120]
          have hf1 := fat_go hrun c_120
          have hdot : isB (ch n c (nS n c (s + 1))) 48 57 = false := by rw [isB_eq.mp c_120]; rfl
          refine go_aload_n (q := 124) dX10_readDeed_123 rfl rfl rfl ?_
          refine go_iconst (q := 125) (v := 5) dX10_readDeed_124 (by decide) rfl ?_
          refine go_cV1 (cal := mX10_digit) (q := 128) dX10_readDeed_125 lRX10_155 vX10_digit ⟨by decide, by decide⟩ rfl (by decide) (Nat.le_of_ble_eq_true rfl) (ok_mdigit hP1 (s := (nS n c (s + 1)) + 1) (by have := hP.2.1; omega) (h := 5) (by decide)) rfl ?_
          refine go_goto (q := 133) dX10_readDeed_128 (by decide) ?_
          refine go_istore (q := 135) dX10_readDeed_133 (by decide) rfl rfl ?_
          refine go_iload (q := 137) dX10_readDeed_135 rfl rfl ?_
          refine go_bipush (q := 139) (v := (-4)) dX10_readDeed_137 (by decide) rfl ?_
          refine go_icmp_eq (q := 142) (t := 159) dX10_readDeed_139 (by decide) rfl (fun c_139 => ?_) (fun c_139 => ?_)
          · have hf2 := dV_4 hP1 (h := 5) c_139
            rw [dS_f hf2]
            refine go_bipush (q := 161) (v := (-4)) dX10_readDeed_159 (by decide) rfl ?_
            refine go_istore (q := 163) dX10_readDeed_161 (by decide) rfl rfl ?_
            refine go_aload_n (q := 164) dX10_readDeed_163 rfl rfl rfl ?_
            refine go_getf (q := 167) dX10_readDeed_164 fRX10_32 rfl (by decide) rfl rfl ?_
            refine go_iload_n (q := 168) dX10_readDeed_167 rfl rfl rfl ?_
            refine go_iconst (q := 169) (v := 1) dX10_readDeed_168 (by decide) rfl ?_
            refine go_iadd (q := 170) dX10_readDeed_169 rfl ?_
            refine go_topi (nI_add (4 * t) 1) ?_
            refine go_iload_n (q := 171) dX10_readDeed_170 rfl rfl rfl ?_
            refine go_iast (q := 172) (4 * t + 1) dX10_readDeed_171 rfl rfl (by decide) rfl (by have := hP.2.1; omega) rfl ?_
            refine go_aload_n (q := 173) dX10_readDeed_172 rfl rfl rfl ?_
            refine go_getf (q := 176) dX10_readDeed_173 fRX10_32 rfl (by decide) rfl rfl ?_
            refine go_iload_n (q := 177) dX10_readDeed_176 rfl rfl rfl ?_
            refine go_iconst (q := 178) (v := 2) dX10_readDeed_177 (by decide) rfl ?_
            refine go_iadd (q := 179) dX10_readDeed_178 rfl ?_
            refine go_topi (nI_add (4 * t) 2) ?_
            refine go_iload (q := 181) dX10_readDeed_179 rfl rfl ?_
            refine go_iast (q := 182) (4 * t + 2) dX10_readDeed_181 rfl rfl (by decide) rfl (by have := hP.2.1; omega) rfl ?_
            refine go_aload_n (q := 183) dX10_readDeed_182 rfl rfl rfl ?_
            refine go_getf (q := 186) dX10_readDeed_183 fRX10_32 rfl (by decide) rfl rfl ?_
            refine go_iload_n (q := 187) dX10_readDeed_186 rfl rfl rfl ?_
            refine go_iconst (q := 188) (v := 3) dX10_readDeed_187 (by decide) rfl ?_
            refine go_iadd (q := 189) dX10_readDeed_188 rfl ?_
            refine go_topi (nI_add (4 * t) 3) ?_
            refine go_iload (q := 191) dX10_readDeed_189 rfl rfl ?_
            refine go_iast (q := 192) (4 * t + 3) dX10_readDeed_191 rfl rfl (by decide) rfl (by have := hP.2.1; omega) rfl ?_
            refine go_aload_n (q := 193) dX10_readDeed_192 rfl rfl rfl ?_
            refine go_dup (q := 194) dX10_readDeed_193 rfl rfl ?_
            refine go_getf (q := 197) dX10_readDeed_194 fRX10_158 rfl (by decide) rfl rfl ?_
            refine go_topi (M2_12 h12) ?_
            refine go_iconst (q := 198) (v := 1) dX10_readDeed_197 (by decide) rfl ?_
            refine go_iadd (q := 199) dX10_readDeed_198 rfl ?_
            refine go_topi (nI_1 t) ?_
            refine go_puti (q := 202) dX10_readDeed_199 pRX10_158 rfl (by decide) rfl rfl rfl (Nat.le_of_ble_eq_true rfl) rfl ?_
            refine go_iload_n (q := 203) dX10_readDeed_202 rfl rfl rfl ?_
            refine go_bipush (q := 205) (v := (-4)) dX10_readDeed_203 (by decide) rfl ?_
            refine go_icmp_eq (q := 208) (t := 226) dX10_readDeed_205 (by decide) rfl (fun z => absurd z hv) (fun _ => ?_)
            refine go_iload (q := 210) dX10_readDeed_208 rfl rfl ?_
            refine go_bipush (q := 212) (v := (-4)) dX10_readDeed_210 (by decide) rfl ?_
            refine go_icmp_eq (q := 215) (t := 226) dX10_readDeed_212 (by decide) rfl (fun _ => ?_) (fun z => absurd c_139 z)
            refine go_iconst (q := 227) (v := 0) dX10_readDeed_226 (by decide) rfl ?_
            exact go_iretz dX10_readDeed_227 rfl (by decide) (RD_f (st_no hf1.2 (by omega) (if_neg (by rw [hf2]; decide)) (Or.inr (by decide))))
          · have hg3 := dV_n4 (h := 5) c_139
            rw [dS_t hg3]
            have hg1 := st_go (n := n) hf1.2 (u := 12) (if_pos hg3)
            refine go_aload_n (q := 143) dX10_readDeed_142 rfl rfl rfl ?_
            refine go_bipush (q := 145) (v := 61) dX10_readDeed_143 (by decide) rfl ?_
            refine go_cV1 (cal := mX10_takes) (q := 148) dX10_readDeed_145 lRX10_167 vX10_takes ⟨by decide, by decide⟩ rfl (by decide) (Nat.le_of_ble_eq_true rfl) (ok_mtakes hP1 (s := (nS n c (s + 1)) + 1 + 1) (by have := hP.2.1; omega) (a := 61) (by decide) (by decide)) rfl ?_
            refine go_if_eqB (q := 151) (t := 159) dX10_readDeed_148 (by decide) rfl (fun c_148 => ?_) (fun c_148 => ?_)
            · rw [if_neg (by rw [c_148]; decide)]
              refine go_bipush (q := 161) (v := (-4)) dX10_readDeed_159 (by decide) rfl ?_
              refine go_istore (q := 163) dX10_readDeed_161 (by decide) rfl rfl ?_
              refine go_aload_n (q := 164) dX10_readDeed_163 rfl rfl rfl ?_
              refine go_getf (q := 167) dX10_readDeed_164 fRX10_32 rfl (by decide) rfl rfl ?_
              refine go_iload_n (q := 168) dX10_readDeed_167 rfl rfl rfl ?_
              refine go_iconst (q := 169) (v := 1) dX10_readDeed_168 (by decide) rfl ?_
              refine go_iadd (q := 170) dX10_readDeed_169 rfl ?_
              refine go_topi (nI_add (4 * t) 1) ?_
              refine go_iload_n (q := 171) dX10_readDeed_170 rfl rfl rfl ?_
              refine go_iast (q := 172) (4 * t + 1) dX10_readDeed_171 rfl rfl (by decide) rfl (by have := hP.2.1; omega) rfl ?_
              refine go_aload_n (q := 173) dX10_readDeed_172 rfl rfl rfl ?_
              refine go_getf (q := 176) dX10_readDeed_173 fRX10_32 rfl (by decide) rfl rfl ?_
              refine go_iload_n (q := 177) dX10_readDeed_176 rfl rfl rfl ?_
              refine go_iconst (q := 178) (v := 2) dX10_readDeed_177 (by decide) rfl ?_
              refine go_iadd (q := 179) dX10_readDeed_178 rfl ?_
              refine go_topi (nI_add (4 * t) 2) ?_
              refine go_iload (q := 181) dX10_readDeed_179 rfl rfl ?_
              refine go_iast (q := 182) (4 * t + 2) dX10_readDeed_181 rfl rfl (by decide) rfl (by have := hP.2.1; omega) rfl ?_
              refine go_aload_n (q := 183) dX10_readDeed_182 rfl rfl rfl ?_
              refine go_getf (q := 186) dX10_readDeed_183 fRX10_32 rfl (by decide) rfl rfl ?_
              refine go_iload_n (q := 187) dX10_readDeed_186 rfl rfl rfl ?_
              refine go_iconst (q := 188) (v := 3) dX10_readDeed_187 (by decide) rfl ?_
              refine go_iadd (q := 189) dX10_readDeed_188 rfl ?_
              refine go_topi (nI_add (4 * t) 3) ?_
              refine go_iload (q := 191) dX10_readDeed_189 rfl rfl ?_
              refine go_iast (q := 192) (4 * t + 3) dX10_readDeed_191 rfl rfl (by decide) rfl (by have := hP.2.1; omega) rfl ?_
              refine go_aload_n (q := 193) dX10_readDeed_192 rfl rfl rfl ?_
              refine go_dup (q := 194) dX10_readDeed_193 rfl rfl ?_
              refine go_getf (q := 197) dX10_readDeed_194 fRX10_158 rfl (by decide) rfl rfl ?_
              refine go_topi (M2_12 h12) ?_
              refine go_iconst (q := 198) (v := 1) dX10_readDeed_197 (by decide) rfl ?_
              refine go_iadd (q := 199) dX10_readDeed_198 rfl ?_
              refine go_topi (nI_1 t) ?_
              refine go_puti (q := 202) dX10_readDeed_199 pRX10_158 rfl (by decide) rfl rfl rfl (Nat.le_of_ble_eq_true rfl) rfl ?_
              refine go_iload_n (q := 203) dX10_readDeed_202 rfl rfl rfl ?_
              refine go_bipush (q := 205) (v := (-4)) dX10_readDeed_203 (by decide) rfl ?_
              refine go_icmp_eq (q := 208) (t := 226) dX10_readDeed_205 (by decide) rfl (fun z => absurd z hv) (fun _ => ?_)
              refine go_iload (q := 210) dX10_readDeed_208 rfl rfl ?_
              refine go_bipush (q := 212) (v := (-4)) dX10_readDeed_210 (by decide) rfl ?_
              refine go_icmp_eq (q := 215) (t := 226) dX10_readDeed_212 (by decide) rfl (fun z => absurd z c_139) (fun _ => ?_)
              refine go_iload (q := 217) dX10_readDeed_215 rfl rfl ?_
              refine go_bipush (q := 219) (v := (-4)) dX10_readDeed_217 (by decide) rfl ?_
              refine go_icmp_eq (q := 222) (t := 226) dX10_readDeed_219 (by decide) rfl (fun _ => ?_) (fun z => absurd rfl z)
              refine go_iconst (q := 227) (v := 0) dX10_readDeed_226 (by decide) rfl ?_
              exact go_iretz dX10_readDeed_227 rfl (by decide) (RD_f (st_no hg1.2 (by omega) (if_neg (isB_ne c_148)) (Or.inr (by decide))))
            · rw [if_pos c_148]
              have hg2 := st_go (n := n) hg1.2 (u := 1) (if_pos (isB_eq.mp c_148))
              refine go_aload_n (q := 152) dX10_readDeed_151 rfl rfl rfl ?_
              refine go_iconst (q := 153) (v := 4) dX10_readDeed_152 (by decide) rfl ?_
              refine go_cV1 (cal := mX10_digit) (q := 156) dX10_readDeed_153 lRX10_155 vX10_digit ⟨by decide, by decide⟩ rfl (by decide) (Nat.le_of_ble_eq_true rfl) (ok_mdigit hP1 (s := (nS n c (s + 1)) + 1 + 1 + 1) (by have := hP.2.1; omega) (h := 4) (by decide)) rfl ?_
              refine go_goto (q := 161) dX10_readDeed_156 (by decide) ?_
              refine go_istore (q := 163) dX10_readDeed_161 (by decide) rfl rfl ?_
              refine go_aload_n (q := 164) dX10_readDeed_163 rfl rfl rfl ?_
              refine go_getf (q := 167) dX10_readDeed_164 fRX10_32 rfl (by decide) rfl rfl ?_
              refine go_iload_n (q := 168) dX10_readDeed_167 rfl rfl rfl ?_
              refine go_iconst (q := 169) (v := 1) dX10_readDeed_168 (by decide) rfl ?_
              refine go_iadd (q := 170) dX10_readDeed_169 rfl ?_
              refine go_topi (nI_add (4 * t) 1) ?_
              refine go_iload_n (q := 171) dX10_readDeed_170 rfl rfl rfl ?_
              refine go_iast (q := 172) (4 * t + 1) dX10_readDeed_171 rfl rfl (by decide) rfl (by have := hP.2.1; omega) rfl ?_
              refine go_aload_n (q := 173) dX10_readDeed_172 rfl rfl rfl ?_
              refine go_getf (q := 176) dX10_readDeed_173 fRX10_32 rfl (by decide) rfl rfl ?_
              refine go_iload_n (q := 177) dX10_readDeed_176 rfl rfl rfl ?_
              refine go_iconst (q := 178) (v := 2) dX10_readDeed_177 (by decide) rfl ?_
              refine go_iadd (q := 179) dX10_readDeed_178 rfl ?_
              refine go_topi (nI_add (4 * t) 2) ?_
              refine go_iload (q := 181) dX10_readDeed_179 rfl rfl ?_
              refine go_iast (q := 182) (4 * t + 2) dX10_readDeed_181 rfl rfl (by decide) rfl (by have := hP.2.1; omega) rfl ?_
              refine go_aload_n (q := 183) dX10_readDeed_182 rfl rfl rfl ?_
              refine go_getf (q := 186) dX10_readDeed_183 fRX10_32 rfl (by decide) rfl rfl ?_
              refine go_iload_n (q := 187) dX10_readDeed_186 rfl rfl rfl ?_
              refine go_iconst (q := 188) (v := 3) dX10_readDeed_187 (by decide) rfl ?_
              refine go_iadd (q := 189) dX10_readDeed_188 rfl ?_
              refine go_topi (nI_add (4 * t) 3) ?_
              refine go_iload (q := 191) dX10_readDeed_189 rfl rfl ?_
              refine go_iast (q := 192) (4 * t + 3) dX10_readDeed_191 rfl rfl (by decide) rfl (by have := hP.2.1; omega) rfl ?_
              refine go_aload_n (q := 193) dX10_readDeed_192 rfl rfl rfl ?_
              refine go_dup (q := 194) dX10_readDeed_193 rfl rfl ?_
              refine go_getf (q := 197) dX10_readDeed_194 fRX10_158 rfl (by decide) rfl rfl ?_
              refine go_topi (M2_12 h12) ?_
              refine go_iconst (q := 198) (v := 1) dX10_readDeed_197 (by decide) rfl ?_
              refine go_iadd (q := 199) dX10_readDeed_198 rfl ?_
              refine go_topi (nI_1 t) ?_
              refine go_puti (q := 202) dX10_readDeed_199 pRX10_158 rfl (by decide) rfl rfl rfl (Nat.le_of_ble_eq_true rfl) rfl ?_
              refine go_iload_n (q := 203) dX10_readDeed_202 rfl rfl rfl ?_
              refine go_bipush (q := 205) (v := (-4)) dX10_readDeed_203 (by decide) rfl ?_
              refine go_icmp_eq (q := 208) (t := 226) dX10_readDeed_205 (by decide) rfl (fun z => absurd z hv) (fun _ => ?_)
              refine go_iload (q := 210) dX10_readDeed_208 rfl rfl ?_
              refine go_bipush (q := 212) (v := (-4)) dX10_readDeed_210 (by decide) rfl ?_
              refine go_icmp_eq (q := 215) (t := 226) dX10_readDeed_212 (by decide) rfl (fun z => absurd z c_139) (fun _ => ?_)
              refine go_iload (q := 217) dX10_readDeed_215 rfl rfl ?_
              refine go_bipush (q := 219) (v := (-4)) dX10_readDeed_217 (by decide) rfl ?_
              refine go_icmp_eq (q := 222) (t := 226) dX10_readDeed_219 (by decide) rfl (fun c_219 => ?_) (fun c_219 => ?_)
              · have hf5 := dV_4 hP1 (h := 4) c_219
                rw [dS_f hf5]
                refine go_iconst (q := 227) (v := 0) dX10_readDeed_226 (by decide) rfl ?_
                exact go_iretz dX10_readDeed_227 rfl (by decide) (RD_f (st_no hg2.2 (by omega) (if_neg (by rw [hf5]; decide)) (Or.inr (by decide))))
              · have hg5 := dV_n4 (h := 4) c_219
                rw [dS_t hg5]
                have hg6 := st_go (n := n) hg2.2 (u := 0) (if_pos hg5)
                have h59b : ∀ x, s ≤ x → x < (nS n c (s + 1)) + 1 + 1 + 1 + 1 → ¬ x = s → c x ≠ 59 := fun x hx1 hx2 hx3 => by
                  by_cases e0 : x < (nS n c (s + 1))
                  · exact h59 x (by omega) e0
                  · rcases (show x = (nS n c (s + 1)) ∨ x = (nS n c (s + 1)) + 1 ∨ x = (nS n c (s + 1)) + 1 + 1 ∨ x = (nS n c (s + 1)) + 1 + 1 + 1 by omega) with rfl | rfl | rfl | rfl
                    · rw [← ch_in (n := n) (c := c) hf1.1, isB_eq.mp c_120]; decide
                    · exact st_59 (t := 11) (u := 12) (by decide) (by decide) (isB_n (by decide) hg3) (if_pos hg3)
                    · rw [← ch_in (n := n) (c := c) (by omega), isB_eq.mp c_148]; decide
                    · exact st_59 (t := 1) (u := 0) (by decide) (by decide) (by omega) (if_pos hg5)
                refine go_iconst (q := 223) (v := 1) dX10_readDeed_222 (by decide) rfl ?_
                refine go_goto (q := 227) dX10_readDeed_223 (by decide) ?_
                exact go_iretz dX10_readDeed_227 rfl (by decide) (RD_t (e := (nS n c (s + 1)) + 1 + 1 + 1 + 1) (by omega) hg6.1 ⟨0, hg6.2, Or.inl rfl⟩ (fun x hx1 hx2 => if e : x = s then (by rw [e, ← ch_in (n := n) (c := c) hsn, hl]; decide) else h59b x hx1 hx2 e) (fun hn R => by rw [dT_s hl, dAt_s hl, (hnu hdot).1, ← (hnu hdot).2, dV_t hg3, dV_t hg5]; rfl))
  · omega
theorem ok_mreadDeed {M : KM} {n : Nat} {c : Nat → Nat} (hP : PZ M n c) {s t : Nat} (hs : s ≤ n) (hr : run c s = .inl 7) (h10 : M.1 14 0 10 = nI s) (h12 : M.1 14 0 12 = nI t) (h3 : 3 * t ≤ s) : Ok mX10_readDeed [vR 14 0] M (RDQ M n c s t) := by
  refine ok_of (by decide) rfl (Nat.le_of_ble_eq_true rfl) ⟨rfl, rfl⟩ ?_
  show Go mX10_readDeed (Zm (RDQ M n c s t)) M [some (vR 14 0), none, none, none, none, none] [] 0
  refine go_aload_n (q := 1) dX10_readDeed_0 rfl rfl rfl ?_
  refine go_getf (q := 4) dX10_readDeed_1 fRX10_149 rfl (by decide) rfl rfl ?_
  refine go_topi h10 ?_
  refine go_aload_n (q := 5) dX10_readDeed_4 rfl rfl rfl ?_
  refine go_getf (q := 8) dX10_readDeed_5 fRX10_146 rfl (by decide) rfl rfl ?_
  refine go_topi hP.1 ?_
  refine go_icmp_geN s n (q := 11) (t := 23) dX10_readDeed_8 (by decide) rfl rfl rfl (by have := hP.2.1; omega) (by have := hP.2.1; omega) (fun c_8 => ?_) (fun c_8 => ?_)
  · refine go_iconst (q := 24) (v := 0) dX10_readDeed_23 (by decide) rfl ?_
    refine go_topi (v := nI (ch n c s)) (by rw [ch_out c_8]; rfl) ?_
    refine go_istore_n (q := 25) dX10_readDeed_24 rfl (by decide) rfl rfl ?_
    refine go_iconst (q := 26) (v := 4) dX10_readDeed_25 (by decide) rfl ?_
    refine go_aload_n (q := 27) dX10_readDeed_26 rfl rfl rfl ?_
    refine go_getf (q := 30) dX10_readDeed_27 fRX10_158 rfl (by decide) rfl rfl ?_
    refine go_topi h12 ?_
    refine go_imul (q := 31) dX10_readDeed_30 rfl ?_
    refine go_topi (pk_mul 4 t) ?_
    refine go_istore_n (q := 32) dX10_readDeed_31 rfl (by decide) rfl rfl ?_
    refine go_iload_n (q := 33) dX10_readDeed_32 rfl rfl rfl ?_
    refine go_bipush (q := 35) (v := 102) dX10_readDeed_33 (by decide) rfl ?_
    refine go_icmp_eqN (ch n c s) 102 (q := 38) (t := 58) dX10_readDeed_35 (by decide) rfl rfl rfl (by have := chZ hP s; omega) (by omega) (fun c_35 => ?_) (fun c_35 => ?_)
    · rw [ch_out c_8] at c_35; omega
    · refine go_iload_n (q := 39) dX10_readDeed_38 rfl rfl rfl ?_
      refine go_bipush (q := 41) (v := 115) dX10_readDeed_39 (by decide) rfl ?_
      refine go_icmp_eqN (ch n c s) 115 (q := 44) (t := 58) dX10_readDeed_41 (by decide) rfl rfl rfl (by have := chZ hP s; omega) (by omega) (fun c_41 => ?_) (fun c_41 => ?_)
      · rw [ch_out c_8] at c_41; omega
      · refine go_iload_n (q := 45) dX10_readDeed_44 rfl rfl rfl ?_
        refine go_bipush (q := 47) (v := 100) dX10_readDeed_45 (by decide) rfl ?_
        refine go_icmp_eqN (ch n c s) 100 (q := 50) (t := 58) dX10_readDeed_47 (by decide) rfl rfl rfl (by have := chZ hP s; omega) (by omega) (fun c_47 => ?_) (fun c_47 => ?_)
        · rw [ch_out c_8] at c_47; omega
        · refine go_iload_n (q := 51) dX10_readDeed_50 rfl rfl rfl ?_
          refine go_bipush (q := 53) (v := 104) dX10_readDeed_51 (by decide) rfl ?_
          refine go_icmp_eqN (ch n c s) 104 (q := 56) (t := 58) dX10_readDeed_53 (by decide) rfl rfl rfl (by have := chZ hP s; omega) (by omega) (fun c_53 => ?_) (fun c_53 => ?_)
          · rw [ch_out c_8] at c_53; omega
          · refine go_iconst (q := 57) (v := 0) dX10_readDeed_56 (by decide) rfl ?_
            exact go_iretz dX10_readDeed_57 rfl (by decide) ⟨kD.rf, Or.inr ⟨rfl, s, h10, st_no hr hs (by show sLet (ch n c s) = none; unfold sLet; rw [if_neg c_35, if_neg c_41, if_neg (by omega)]) (Or.inr (by decide))⟩⟩
  · have hsn := c_8
    refine go_aload_n (q := 12) dX10_readDeed_11 rfl rfl rfl ?_
    refine go_getf (q := 15) dX10_readDeed_12 fRX10_19 rfl (by decide) rfl rfl ?_
    refine go_aload_n (q := 16) dX10_readDeed_15 rfl rfl rfl ?_
    refine go_getf (q := 19) dX10_readDeed_16 fRX10_149 rfl (by decide) rfl rfl ?_
    refine go_topi h10 ?_
    refine go_iald (q := 20) s dX10_readDeed_19 rfl rfl (by decide) rfl (by have := hP.2.1; omega) rfl ?_
    refine go_topi (hP.2.2 s c_8).1 ?_
    refine go_goto (q := 24) dX10_readDeed_20 (by decide) ?_
    refine go_topi (v := nI (ch n c s)) (by rw [ch_in c_8]) ?_
    refine go_istore_n (q := 25) dX10_readDeed_24 rfl (by decide) rfl rfl ?_
    refine go_iconst (q := 26) (v := 4) dX10_readDeed_25 (by decide) rfl ?_
    refine go_aload_n (q := 27) dX10_readDeed_26 rfl rfl rfl ?_
    refine go_getf (q := 30) dX10_readDeed_27 fRX10_158 rfl (by decide) rfl rfl ?_
    refine go_topi h12 ?_
    refine go_imul (q := 31) dX10_readDeed_30 rfl ?_
    refine go_topi (pk_mul 4 t) ?_
    refine go_istore_n (q := 32) dX10_readDeed_31 rfl (by decide) rfl rfl ?_
    refine go_iload_n (q := 33) dX10_readDeed_32 rfl rfl rfl ?_
    refine go_bipush (q := 35) (v := 102) dX10_readDeed_33 (by decide) rfl ?_
    refine go_icmp_eqN (ch n c s) 102 (q := 38) (t := 58) dX10_readDeed_35 (by decide) rfl rfl rfl (by have := chZ hP s; omega) (by omega) (fun c_35 => ?_) (fun c_35 => ?_)
    · exact lp_mrd102 hP hs hr h10 h12 h3 hsn c_35
    · refine go_iload_n (q := 39) dX10_readDeed_38 rfl rfl rfl ?_
      refine go_bipush (q := 41) (v := 115) dX10_readDeed_39 (by decide) rfl ?_
      refine go_icmp_eqN (ch n c s) 115 (q := 44) (t := 58) dX10_readDeed_41 (by decide) rfl rfl rfl (by have := chZ hP s; omega) (by omega) (fun c_41 => ?_) (fun c_41 => ?_)
      · exact lp_mrd115 hP hs hr h10 h12 h3 hsn c_41
      · refine go_iload_n (q := 45) dX10_readDeed_44 rfl rfl rfl ?_
        refine go_bipush (q := 47) (v := 100) dX10_readDeed_45 (by decide) rfl ?_
        refine go_icmp_eqN (ch n c s) 100 (q := 50) (t := 58) dX10_readDeed_47 (by decide) rfl rfl rfl (by have := chZ hP s; omega) (by omega) (fun c_47 => ?_) (fun c_47 => ?_)
        · exact lp_mrd100 hP hs hr h10 h12 h3 hsn c_47
        · refine go_iload_n (q := 51) dX10_readDeed_50 rfl rfl rfl ?_
          refine go_bipush (q := 53) (v := 104) dX10_readDeed_51 (by decide) rfl ?_
          refine go_icmp_eqN (ch n c s) 104 (q := 56) (t := 58) dX10_readDeed_53 (by decide) rfl rfl rfl (by have := chZ hP s; omega) (by omega) (fun c_53 => ?_) (fun c_53 => ?_)
          · exact lp_mrd104 hP hs hr h10 h12 h3 hsn c_53
          · refine go_iconst (q := 57) (v := 0) dX10_readDeed_56 (by decide) rfl ?_
            exact go_iretz dX10_readDeed_57 rfl (by decide) ⟨kD.rf, Or.inr ⟨rfl, s, h10, st_no hr hs (by show sLet (ch n c s) = none; unfold sLet; rw [if_neg c_35, if_neg c_41, if_neg (by omega)]) (Or.inr (by decide))⟩⟩
