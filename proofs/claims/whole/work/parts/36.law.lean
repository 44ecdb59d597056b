/-! ===== the law's loop ===== -/
def lwz (b L : Nat) (xs : Nat → Int32) : KZ := fun G Hb _ _ _ R s _ args below _ _ cells slots Qf => R = room_1 ∧ cells ≤ 600000 ∧ slots ≤ 7302250 ∧ b < Hb.size ∧ b < G.1 ∧ va_X b L xs s Hb ∧ ∃ (s0 : State) (d0 : Drawn), s = s0.setDrawn d0 ∧ s0.heap.size ≤ G.1 ∧ s0.drawn.sameBut d0 lw_cs ∧ args = #[Value.ref b] ∧ Qf = lw_Z below #[Value.ref b] s0
theorem go_aloadR {I : KI} {Z : KZ} {M : KM} {loc : List (Option KV)} {st : List KV} {pc q : Nat} {k : Fin 4} {i b : Nat} (hd : decode I.2.1 pc = .ok (.aload_n k, 1)) (hi : (k : Nat) = i) (hv : loc[i]? = some (some (Sum.inl (Value.ref b)))) (hq : pc + 1 = q) (h : Go I Z M loc (Sum.inl (Value.ref b) :: st) q) : Go I Z M loc st pc := by
  subst hq
  intro G Hb p l e R s m args below meth c cells slots Qf hC hZ H ls locs hW hF hL hl
  obtain ⟨hx, hb, hml, hrt, hown, hlk, hts, hK, hRf, hRl, hce, hsl⟩ := id hC
  exact lv_aload_n hx hb hd hi (k_lc_at hl hv) (h G Hb p l e R s m args below meth c cells slots Qf hC hZ H ls locs hW hF hL hl)
section LawRows
variable {b L : Nat} {xs : Nat → Int32} {M : KM} {loc : List (Option KV)} {st : List KV} {pc q : Nat}
theorem k_rS {G : KG} {Hb H : Heap} {locs : List Loc} (hF : k_FR G Hb H) (hL : ∀ q ∈ locs, k_rng G q.base) : va_S (k_rng G) Hb H locs := ⟨Nat.le_of_eq hF.1.symm, fun q _ hq => hF.2 q hq, hL⟩
theorem go_slen (hd : decode mL_law.2.1 pc = .ok (.arraylength, 1)) (hq : pc + 1 = q) (h : Go mL_law (lwz b L xs) M loc (vI (nI L) :: st) q) : Go mL_law (lwz b L xs) M loc (Sum.inl (Value.ref b) :: st) pc := by
  subst hq
  intro G Hb p l e R s m args below meth c cells slots Qf hC hZ H ls locs hW hF hL hl
  obtain ⟨hx, hb, hml, hrt, hown, hlk, hts, hK, hRf, hRl, hce, hsl⟩ := id hC
  obtain ⟨-, -, -, hbs, hbG, hX, -⟩ := id hZ
  exact va_slen (A := k_rng G) hx hb hX hbs (fun z => by have := z.1; omega) (k_rS hF hL) hd (h G Hb p l e R s m args below meth c cells slots Qf hC hZ H ls locs hW hF hL hl)
theorem go_sld (j : Nat) {x : Int32} (hd : decode mL_law.2.1 pc = .ok (.iaload, 1)) (hx : x = nI j) (hj : j < L) (hL2 : L ≤ 2048) (hq : pc + 1 = q) (h : Go mL_law (lwz b L xs) M loc (vI (xs j) :: st) q) : Go mL_law (lwz b L xs) M loc (vI x :: Sum.inl (Value.ref b) :: st) pc := by
  subst hq; subst hx
  intro G Hb p l e R s m args below meth c cells slots Qf hC hZ H ls locs hW hF hL hl
  obtain ⟨hx, hb, hml, hrt, hown, hlk, hts, hK, hRf, hRl, hce, hsl⟩ := id hC
  obtain ⟨-, -, -, hbs, hbG, hX, -⟩ := id hZ
  have hcl : (nI j).toNatClampNeg = j := nI_clamp (by omega)
  refine va_sld (A := k_rng G) hx hb hX hbs (fun z => by have := z.1; omega) (k_rS hF hL) (vp_in_nI hj (by omega)) hd ?_
  rw [hcl]
  exact h G Hb p l e R s m args below meth c cells slots Qf hC hZ H ls locs hW hF hL hl
theorem go_lret (hd : decode mL_law.2.1 pc = .ok (.ireturn, 1)) : Go mL_law (lwz b L xs) M loc [vI 1] pc := by
  intro G Hb p l e R s m args below meth c cells slots Qf hC hZ H ls locs hW hF hL hl
  obtain ⟨hx, hb, hml, hrt, hown, hlk, hts, hK, hRf, hRl, hce, hsl⟩ := id hC
  obtain ⟨rfl, hce2, hsl2, hbs, hbG, hX, s0, d0, rfl, hsz, hd0, rfl, rfl⟩ := hZ
  refine va_forget (fun q hq => Nat.le_trans hsz (hL q hq).1) (W.widen hce2 hsl2 ?_)
  exact lw_ret hd0 hx hb hrt hlk hd
end LawRows
theorem go_icmp_gt4 {I : KI} {Z : KZ} {M : KM} {loc : List (Option KV)} {st : List KV} {pc q t : Nat} {off : Int} (i L : Nat) (hd : decode I.2.1 pc = .ok (.if_icmp .gt off, 3)) (ht : (pc : Int) + off = (t : Int)) (hq : pc + 3 = q) (hL : L ≤ 2048) (hi : i ≤ 2048) (k1 : ¬ i + 4 ≤ L → Go I Z M loc st t) (k2 : i + 4 ≤ L → Go I Z M loc st q) : Go I Z M loc (vI (nI L - 4) :: vI (nI i) :: st) pc := by
  have h4 : (nI L - 4).toInt = (L : Int) - 4 := by
    by_cases e : 4 ≤ L
    · rw [show nI L - 4 = nI (L - 4) from by rw [show nI L = nI (L - 4) + 4 from by rw [show (4 : Int32) = nI 4 from rfl, nI_add, Nat.sub_add_cancel e], Int32.add_sub_cancel], nI_toInt (by omega)]; omega
    · rcases (show L = 0 ∨ L = 1 ∨ L = 2 ∨ L = 3 by omega) with rfl | rfl | rfl | rfl <;> decide
  have key : nI L - 4 < nI i ↔ ¬ i + 4 ≤ L := by rw [i32_lt, h4, nI_toInt (by omega)]; omega
  exact go_icmp_gt hd ht hq (fun z => k1 (key.mp z)) (fun z => k2 (Classical.not_not.mp (fun w => z (key.mpr w))))
theorem and31 (x : Int32) : ∃ t, t < 32 ∧ x &&& 31 = nI t := by
  refine ⟨(x &&& 31).toBitVec.toNat, ?_, ?_⟩
  · show (x.toBitVec &&& (31 : Int32).toBitVec).toNat < 32
    rw [BitVec.toNat_and]
    exact Nat.lt_of_le_of_lt Nat.and_le_right (by decide)
  · apply Int32.toBitVec_inj.mp
    show _ = (Int32.ofNat _).toBitVec
    simp
theorem MI_fc {M M' : KM} {σ : ST} (h : MI M σ) (hk : fc M M') : MI M' σ := by
  obtain ⟨a1, a2, a3, a4, a5, a6, a7, a8⟩ := h
  have e : ∀ k, 14 ≤ k → M'.1 k 0 = M.1 k 0 := fun k h1 => hk k 0 h1
  have e14 := e 14 (by decide)
  refine ⟨?_, a2, ?_, fun s hs => ?_, HZ_keep a5 (e 16 (by decide)) (congrFun e14 2), a6, PZ_keep a7 (e 18 (by decide)) (congrFun e14 6), WZ_keep a8 (fun c _ _ => congrFun e14 c)⟩
  · show ZF (M'.1 15 0) 0 _
    rw [e 15 (by decide)]; exact a1
  · rw [e14]; exact a3
  · rw [e 17 (by decide)]; exact a4 s hs
theorem CI_fm {M M' : KM} {σ : ST} (h : CI M σ) (hk : fm M M') : CI M' σ := by
  obtain ⟨a1, a2, a3, a4, a5, a6, a7, a8, a9⟩ := h
  have e : ∀ k b, k < 14 → M'.1 k b = M.1 k b := hk.2
  have cg : ∀ {i : Nat} {R : RO}, RA M i R → RA M' i R := fun h => h.cg (fun k h1 h2 => e k _ (by omega))
  refine ⟨cg a1, a2, ?_, fun s hs => ⟨cg (a4 s hs).1, (a4 s hs).2⟩, ⟨?_, a5.2.1, ?_, ?_, fun j hj => ?_⟩, a6, PA_keep a7 (e 9 0 (by decide)) (e 10 0 (by decide)), WA_keep a8 (e 0 0 (by decide)), ?_⟩
  · rw [e 0 0 (by decide)]; exact a3
  · rw [e 7 0 (by decide)]; exact a5.1
  · rw [hk.1]; exact a5.2.2.1
  · rw [hk.1]; exact a5.2.2.2.1
  · rw [hk.1]; exact cg (a5.2.2.2.2 j hj)
  · rw [hk.1]; exact a9
theorem kB.fm {M M' : KM} (h : kB M M') : fm M M' := ⟨h.1, fun k b hk => h.2 k b (by omega) (by omega)⟩
theorem MI_B {M M' : KM} {σ : ST} (h : MI M σ) (hk : kB M M') : MI M' σ := by
  obtain ⟨a1, a2, a3, a4, a5, a6, a7, a8⟩ := h
  have e : ∀ k, k ≠ 20 → k ≠ 21 → M'.1 k 0 = M.1 k 0 := fun k h1 h2 => hk.2 k 0 h1 h2
  have e14 := e 14 (by decide) (by decide)
  refine ⟨?_, a2, ?_, fun s hs => ?_, HZ_keep a5 (e 16 (by decide) (by decide)) (congrFun e14 2), a6, PZ_keep a7 (e 18 (by decide) (by decide)) (congrFun e14 6), WZ_keep a8 (fun c _ _ => congrFun e14 c)⟩
  · show ZF (M'.1 15 0) 0 _
    rw [e 15 (by decide) (by decide)]; exact a1
  · rw [e14]; exact a3
  · rw [e 17 (by decide) (by decide)]; exact a4 s hs
theorem lw_c0 {b L : Nat} {xs : Nat → Int32} (hL : L ≤ 2048) {d : Nat} (ih : ∀ (M : KM) (σ : ST) (j : Nat), L - j < d → j ≤ 2048 → CI M σ → MI M σ → Go mL_law (lwz b L xs) M [some (Sum.inl (Value.ref b)), some (vR 0 0), some (vR 14 0), some (vI (nI j)), none, none, none, none] [] 18) {M : KM} {σ : ST} {i : Nat} (hd : L - i < d + 1) (hi : i + 4 ≤ L) (hC : CI M σ) (hM : MI M σ) : Go mL_law (lwz b L xs) M [some (Sum.inl (Value.ref b)), some (vR 0 0), some (vR 14 0), some (vI (nI i)), none, none, none, none] [] 148 := by
  refine go_aload_n (q := 149) dL_law_148 rfl rfl rfl ?_
  refine go_aloadR (q := 150) dL_law_149 rfl rfl rfl ?_
  refine go_iload_n (q := 151) dL_law_150 rfl rfl rfl ?_
  refine go_iconst (q := 152) (v := 1) dL_law_151 (by decide) rfl ?_
  refine go_iadd (q := 153) dL_law_152 rfl ?_
  refine go_topi (nI_add i 1) ?_
  refine go_sld (q := 154) (i + 1) dL_law_153 (by rfl) (by omega) (by omega) rfl ?_
  refine go_callV [vI (xs (i + 1))] (cal := mX9_found) (q := 157) dL_law_154 lRL_13 vX9_found ⟨by decide, by decide⟩ rfl rfl (by decide) (Nat.le_of_ble_eq_true rfl) (ok_found hC _) rfl (fun r154 M154 h154 => ?_)
  obtain ⟨rfl, hC1, hf1⟩ := h154
  have hM1 := MI_fc hM hf1
  refine go_aload_n (q := 158) dL_law_157 rfl rfl rfl ?_
  refine go_aloadR (q := 159) dL_law_158 rfl rfl rfl ?_
  refine go_iload_n (q := 160) dL_law_159 rfl rfl rfl ?_
  refine go_iconst (q := 161) (v := 1) dL_law_160 (by decide) rfl ?_
  refine go_iadd (q := 162) dL_law_161 rfl ?_
  refine go_topi (nI_add i 1) ?_
  refine go_sld (q := 163) (i + 1) dL_law_162 (by rfl) (by omega) (by omega) rfl ?_
  refine go_callV [vI (xs (i + 1))] (cal := mX10_found) (q := 166) dL_law_163 lRL_17 vX10_found ⟨by decide, by decide⟩ rfl rfl (by decide) (Nat.le_of_ble_eq_true rfl) (ok_mfound hM1 _) rfl (fun r163 M163 h163 => ?_)
  obtain ⟨rfl, hM2, hf2⟩ := h163
  have hC2 := CI_fm hC1 hf2
  refine go_icmp_eq (q := 169) (t := 811) dL_law_166 (by decide) rfl (fun _ => ?_) (fun z => absurd rfl z)
  refine go_iinc (q := 814) (v := 4) dL_law_811 (by decide) rfl (by decide) rfl rfl ?_
  refine go_goto (q := 18) dL_law_814 (by decide) ?_
  rw [show nI i + 4 = nI (i + 4) from nI_add i 4]
  exact ih _ _ (i + 4) (by omega) (by omega) hC2 hM2
theorem lw_c1 {b L : Nat} {xs : Nat → Int32} (hL : L ≤ 2048) {d : Nat} (ih : ∀ (M : KM) (σ : ST) (j : Nat), L - j < d → j ≤ 2048 → CI M σ → MI M σ → Go mL_law (lwz b L xs) M [some (Sum.inl (Value.ref b)), some (vR 0 0), some (vR 14 0), some (vI (nI j)), none, none, none, none] [] 18) {M : KM} {σ : ST} {i : Nat} (hd : L - i < d + 1) (hi : i + 4 ≤ L) (hC : CI M σ) (hM : MI M σ) : Go mL_law (lwz b L xs) M [some (Sum.inl (Value.ref b)), some (vR 0 0), some (vR 14 0), some (vI (nI i)), none, none, none, none] [] 171 := by
  refine go_aload_n (q := 172) dL_law_171 rfl rfl rfl ?_
  refine go_aloadR (q := 173) dL_law_172 rfl rfl rfl ?_
  refine go_iload_n (q := 174) dL_law_173 rfl rfl rfl ?_
  refine go_iconst (q := 175) (v := 1) dL_law_174 (by decide) rfl ?_
  refine go_iadd (q := 176) dL_law_175 rfl ?_
  refine go_topi (nI_add i 1) ?_
  refine go_sld (q := 177) (i + 1) dL_law_176 (by rfl) (by omega) (by omega) rfl ?_
  refine go_aloadR (q := 178) dL_law_177 rfl rfl rfl ?_
  refine go_iload_n (q := 179) dL_law_178 rfl rfl rfl ?_
  refine go_iconst (q := 180) (v := 2) dL_law_179 (by decide) rfl ?_
  refine go_iadd (q := 181) dL_law_180 rfl ?_
  refine go_topi (nI_add i 2) ?_
  refine go_sld (q := 182) (i + 2) dL_law_181 (by rfl) (by omega) (by omega) rfl ?_
  refine go_aloadR (q := 183) dL_law_182 rfl rfl rfl ?_
  refine go_iload_n (q := 184) dL_law_183 rfl rfl rfl ?_
  refine go_iconst (q := 185) (v := 3) dL_law_184 (by decide) rfl ?_
  refine go_iadd (q := 186) dL_law_185 rfl ?_
  refine go_topi (nI_add i 3) ?_
  refine go_sld (q := 187) (i + 3) dL_law_186 (by rfl) (by omega) (by omega) rfl ?_
  refine go_callV [vI (xs (i + 1)), vI (xs (i + 2)), vI (xs (i + 3))] (cal := mX9_bear) (q := 190) dL_law_187 lRL_18 vX9_bear ⟨by decide, by decide⟩ rfl rfl (by decide) (Nat.le_of_ble_eq_true rfl) (ok_bear hC _ _ _) rfl (fun r187 M187 h187 => ?_)
  obtain ⟨rfl, hC1, hf1⟩ := h187
  have hM1 := MI_fc hM hf1
  refine go_aload_n (q := 191) dL_law_190 rfl rfl rfl ?_
  refine go_aloadR (q := 192) dL_law_191 rfl rfl rfl ?_
  refine go_iload_n (q := 193) dL_law_192 rfl rfl rfl ?_
  refine go_iconst (q := 194) (v := 1) dL_law_193 (by decide) rfl ?_
  refine go_iadd (q := 195) dL_law_194 rfl ?_
  refine go_topi (nI_add i 1) ?_
  refine go_sld (q := 196) (i + 1) dL_law_195 (by rfl) (by omega) (by omega) rfl ?_
  refine go_aloadR (q := 197) dL_law_196 rfl rfl rfl ?_
  refine go_iload_n (q := 198) dL_law_197 rfl rfl rfl ?_
  refine go_iconst (q := 199) (v := 2) dL_law_198 (by decide) rfl ?_
  refine go_iadd (q := 200) dL_law_199 rfl ?_
  refine go_topi (nI_add i 2) ?_
  refine go_sld (q := 201) (i + 2) dL_law_200 (by rfl) (by omega) (by omega) rfl ?_
  refine go_aloadR (q := 202) dL_law_201 rfl rfl rfl ?_
  refine go_iload_n (q := 203) dL_law_202 rfl rfl rfl ?_
  refine go_iconst (q := 204) (v := 3) dL_law_203 (by decide) rfl ?_
  refine go_iadd (q := 205) dL_law_204 rfl ?_
  refine go_topi (nI_add i 3) ?_
  refine go_sld (q := 206) (i + 3) dL_law_205 (by rfl) (by omega) (by omega) rfl ?_
  refine go_callV [vI (xs (i + 1)), vI (xs (i + 2)), vI (xs (i + 3))] (cal := mX10_bear) (q := 209) dL_law_206 lRL_22 vX10_bear ⟨by decide, by decide⟩ rfl rfl (by decide) (Nat.le_of_ble_eq_true rfl) (ok_mbear hM1 _ _ _) rfl (fun r206 M206 h206 => ?_)
  obtain ⟨rfl, hM2, hf2⟩ := h206
  have hC2 := CI_fm hC1 hf2
  refine go_icmp_eq (q := 212) (t := 811) dL_law_209 (by decide) rfl (fun _ => ?_) (fun z => absurd rfl z)
  refine go_iinc (q := 814) (v := 4) dL_law_811 (by decide) rfl (by decide) rfl rfl ?_
  refine go_goto (q := 18) dL_law_814 (by decide) ?_
  rw [show nI i + 4 = nI (i + 4) from nI_add i 4]
  exact ih _ _ (i + 4) (by omega) (by omega) hC2 hM2
theorem lw_c2 {b L : Nat} {xs : Nat → Int32} (hL : L ≤ 2048) {d : Nat} (ih : ∀ (M : KM) (σ : ST) (j : Nat), L - j < d → j ≤ 2048 → CI M σ → MI M σ → Go mL_law (lwz b L xs) M [some (Sum.inl (Value.ref b)), some (vR 0 0), some (vR 14 0), some (vI (nI j)), none, none, none, none] [] 18) {M : KM} {σ : ST} {i : Nat} (hd : L - i < d + 1) (hi : i + 4 ≤ L) (hC : CI M σ) (hM : MI M σ) : Go mL_law (lwz b L xs) M [some (Sum.inl (Value.ref b)), some (vR 0 0), some (vR 14 0), some (vI (nI i)), none, none, none, none] [] 214 := by
  refine go_aload_n (q := 215) dL_law_214 rfl rfl rfl ?_
  refine go_aloadR (q := 216) dL_law_215 rfl rfl rfl ?_
  refine go_iload_n (q := 217) dL_law_216 rfl rfl rfl ?_
  refine go_iconst (q := 218) (v := 1) dL_law_217 (by decide) rfl ?_
  refine go_iadd (q := 219) dL_law_218 rfl ?_
  refine go_topi (nI_add i 1) ?_
  refine go_sld (q := 220) (i + 1) dL_law_219 (by rfl) (by omega) (by omega) rfl ?_
  refine go_callV [vI (xs (i + 1))] (cal := mX9_die) (q := 223) dL_law_220 lRL_23 vX9_die ⟨by decide, by decide⟩ rfl rfl (by decide) (Nat.le_of_ble_eq_true rfl) (ok_die hC _) rfl (fun r220 M220 h220 => ?_)
  obtain ⟨rfl, hC1, hf1⟩ := h220
  have hM1 := MI_fc hM hf1
  refine go_aload_n (q := 224) dL_law_223 rfl rfl rfl ?_
  refine go_aloadR (q := 225) dL_law_224 rfl rfl rfl ?_
  refine go_iload_n (q := 226) dL_law_225 rfl rfl rfl ?_
  refine go_iconst (q := 227) (v := 1) dL_law_226 (by decide) rfl ?_
  refine go_iadd (q := 228) dL_law_227 rfl ?_
  refine go_topi (nI_add i 1) ?_
  refine go_sld (q := 229) (i + 1) dL_law_228 (by rfl) (by omega) (by omega) rfl ?_
  refine go_callV [vI (xs (i + 1))] (cal := mX10_die) (q := 232) dL_law_229 lRL_26 vX10_die ⟨by decide, by decide⟩ rfl rfl (by decide) (Nat.le_of_ble_eq_true rfl) (ok_mdie hM1 _) rfl (fun r229 M229 h229 => ?_)
  obtain ⟨rfl, hM2, hf2⟩ := h229
  have hC2 := CI_fm hC1 hf2
  refine go_icmp_eq (q := 235) (t := 811) dL_law_232 (by decide) rfl (fun _ => ?_) (fun z => absurd rfl z)
  refine go_iinc (q := 814) (v := 4) dL_law_811 (by decide) rfl (by decide) rfl rfl ?_
  refine go_goto (q := 18) dL_law_814 (by decide) ?_
  rw [show nI i + 4 = nI (i + 4) from nI_add i 4]
  exact ih _ _ (i + 4) (by omega) (by omega) hC2 hM2
theorem lw_c3 {b L : Nat} {xs : Nat → Int32} (hL : L ≤ 2048) {d : Nat} (ih : ∀ (M : KM) (σ : ST) (j : Nat), L - j < d → j ≤ 2048 → CI M σ → MI M σ → Go mL_law (lwz b L xs) M [some (Sum.inl (Value.ref b)), some (vR 0 0), some (vR 14 0), some (vI (nI j)), none, none, none, none] [] 18) {M : KM} {σ : ST} {i : Nat} (hd : L - i < d + 1) (hi : i + 4 ≤ L) (hC : CI M σ) (hM : MI M σ) : Go mL_law (lwz b L xs) M [some (Sum.inl (Value.ref b)), some (vR 0 0), some (vR 14 0), some (vI (nI i)), none, none, none, none] [] 237 := by
  refine go_aload_n (q := 238) dL_law_237 rfl rfl rfl ?_
  refine go_aloadR (q := 239) dL_law_238 rfl rfl rfl ?_
  refine go_iload_n (q := 240) dL_law_239 rfl rfl rfl ?_
  refine go_iconst (q := 241) (v := 1) dL_law_240 (by decide) rfl ?_
  refine go_iadd (q := 242) dL_law_241 rfl ?_
  refine go_topi (nI_add i 1) ?_
  refine go_sld (q := 243) (i + 1) dL_law_242 (by rfl) (by omega) (by omega) rfl ?_
  refine go_callV [vI (xs (i + 1))] (cal := mX9_inherit) (q := 246) dL_law_243 lRL_27 vX9_inherit ⟨by decide, by decide⟩ rfl rfl (by decide) (Nat.le_of_ble_eq_true rfl) (ok_inherit hC _) rfl (fun r243 M243 h243 => ?_)
  obtain ⟨rfl, hC1, hf1⟩ := h243
  have hM1 := MI_fc hM hf1
  refine go_aload_n (q := 247) dL_law_246 rfl rfl rfl ?_
  refine go_aloadR (q := 248) dL_law_247 rfl rfl rfl ?_
  refine go_iload_n (q := 249) dL_law_248 rfl rfl rfl ?_
  refine go_iconst (q := 250) (v := 1) dL_law_249 (by decide) rfl ?_
  refine go_iadd (q := 251) dL_law_250 rfl ?_
  refine go_topi (nI_add i 1) ?_
  refine go_sld (q := 252) (i + 1) dL_law_251 (by rfl) (by omega) (by omega) rfl ?_
  refine go_callV [vI (xs (i + 1))] (cal := mX10_inherit) (q := 255) dL_law_252 lRL_30 vX10_inherit ⟨by decide, by decide⟩ rfl rfl (by decide) (Nat.le_of_ble_eq_true rfl) (ok_minherit hM1 _) rfl (fun r252 M252 h252 => ?_)
  obtain ⟨rfl, hM2, hf2⟩ := h252
  have hC2 := CI_fm hC1 hf2
  refine go_icmp_eq (q := 258) (t := 811) dL_law_255 (by decide) rfl (fun _ => ?_) (fun z => absurd rfl z)
  refine go_iinc (q := 814) (v := 4) dL_law_811 (by decide) rfl (by decide) rfl rfl ?_
  refine go_goto (q := 18) dL_law_814 (by decide) ?_
  rw [show nI i + 4 = nI (i + 4) from nI_add i 4]
  exact ih _ _ (i + 4) (by omega) (by omega) hC2 hM2
theorem lw_c4 {b L : Nat} {xs : Nat → Int32} (hL : L ≤ 2048) {d : Nat} (ih : ∀ (M : KM) (σ : ST) (j : Nat), L - j < d → j ≤ 2048 → CI M σ → MI M σ → Go mL_law (lwz b L xs) M [some (Sum.inl (Value.ref b)), some (vR 0 0), some (vR 14 0), some (vI (nI j)), none, none, none, none] [] 18) {M : KM} {σ : ST} {i : Nat} (hd : L - i < d + 1) (hi : i + 4 ≤ L) (hC : CI M σ) (hM : MI M σ) : Go mL_law (lwz b L xs) M [some (Sum.inl (Value.ref b)), some (vR 0 0), some (vR 14 0), some (vI (nI i)), none, none, none, none] [] 260 := by
  refine go_aload_n (q := 261) dL_law_260 rfl rfl rfl ?_
  refine go_aloadR (q := 262) dL_law_261 rfl rfl rfl ?_
  refine go_iload_n (q := 263) dL_law_262 rfl rfl rfl ?_
  refine go_iconst (q := 264) (v := 1) dL_law_263 (by decide) rfl ?_
  refine go_iadd (q := 265) dL_law_264 rfl ?_
  refine go_topi (nI_add i 1) ?_
  refine go_sld (q := 266) (i + 1) dL_law_265 (by rfl) (by omega) (by omega) rfl ?_
  refine go_callV [vI (xs (i + 1))] (cal := mX9_append) (q := 269) dL_law_266 lRL_31 vX9_append ⟨by decide, by decide⟩ rfl rfl (by decide) (Nat.le_of_ble_eq_true rfl) (ok_append hC _) rfl (fun r266 M266 h266 => ?_)
  obtain ⟨rfl, hC1, hf1⟩ := h266
  have hM1 := MI_fc hM hf1
  refine go_aload_n (q := 270) dL_law_269 rfl rfl rfl ?_
  refine go_aloadR (q := 271) dL_law_270 rfl rfl rfl ?_
  refine go_iload_n (q := 272) dL_law_271 rfl rfl rfl ?_
  refine go_iconst (q := 273) (v := 1) dL_law_272 (by decide) rfl ?_
  refine go_iadd (q := 274) dL_law_273 rfl ?_
  refine go_topi (nI_add i 1) ?_
  refine go_sld (q := 275) (i + 1) dL_law_274 (by rfl) (by omega) (by omega) rfl ?_
  refine go_callV [vI (xs (i + 1))] (cal := mX10_append) (q := 278) dL_law_275 lRL_34 vX10_append ⟨by decide, by decide⟩ rfl rfl (by decide) (Nat.le_of_ble_eq_true rfl) (ok_mappend hM1 _) rfl (fun r275 M275 h275 => ?_)
  obtain ⟨rfl, hM2, hf2⟩ := h275
  have hC2 := CI_fm hC1 hf2
  refine go_icmp_eq (q := 281) (t := 811) dL_law_278 (by decide) rfl (fun _ => ?_) (fun z => absurd rfl z)
  refine go_iinc (q := 814) (v := 4) dL_law_811 (by decide) rfl (by decide) rfl rfl ?_
  refine go_goto (q := 18) dL_law_814 (by decide) ?_
  rw [show nI i + 4 = nI (i + 4) from nI_add i 4]
  exact ih _ _ (i + 4) (by omega) (by omega) hC2 hM2
theorem lw_c5 {b L : Nat} {xs : Nat → Int32} (hL : L ≤ 2048) {d : Nat} (ih : ∀ (M : KM) (σ : ST) (j : Nat), L - j < d → j ≤ 2048 → CI M σ → MI M σ → Go mL_law (lwz b L xs) M [some (Sum.inl (Value.ref b)), some (vR 0 0), some (vR 14 0), some (vI (nI j)), none, none, none, none] [] 18) {M : KM} {σ : ST} {i : Nat} (hd : L - i < d + 1) (hi : i + 4 ≤ L) (hC : CI M σ) (hM : MI M σ) : Go mL_law (lwz b L xs) M [some (Sum.inl (Value.ref b)), some (vR 0 0), some (vR 14 0), some (vI (nI i)), none, none, none, none] [] 283 := by
  refine go_aload_n (q := 284) dL_law_283 rfl rfl rfl ?_
  refine go_callV [] (cal := mX9_clear) (q := 287) dL_law_284 lRL_35 vX9_clear ⟨by decide, by decide⟩ rfl rfl (by decide) (Nat.le_of_ble_eq_true rfl) (ok_clear hC) rfl (fun r284 M284 h284 => ?_)
  obtain ⟨rfl, hC1, hf1⟩ := h284
  have hM1 := MI_fc hM hf1
  refine go_aload_n (q := 288) dL_law_287 rfl rfl rfl ?_
  refine go_callV [] (cal := mX10_clear) (q := 291) dL_law_288 lRL_39 vX10_clear ⟨by decide, by decide⟩ rfl rfl (by decide) (Nat.le_of_ble_eq_true rfl) (ok_mclear hM1) rfl (fun r288 M288 h288 => ?_)
  obtain ⟨rfl, hM2, hf2⟩ := h288
  have hC2 := CI_fm hC1 hf2
  refine go_icmp_eq (q := 294) (t := 811) dL_law_291 (by decide) rfl (fun _ => ?_) (fun z => absurd rfl z)
  refine go_iinc (q := 814) (v := 4) dL_law_811 (by decide) rfl (by decide) rfl rfl ?_
  refine go_goto (q := 18) dL_law_814 (by decide) ?_
  rw [show nI i + 4 = nI (i + 4) from nI_add i 4]
  exact ih _ _ (i + 4) (by omega) (by omega) hC2 hM2
theorem lw_c6 {b L : Nat} {xs : Nat → Int32} (hL : L ≤ 2048) {d : Nat} (ih : ∀ (M : KM) (σ : ST) (j : Nat), L - j < d → j ≤ 2048 → CI M σ → MI M σ → Go mL_law (lwz b L xs) M [some (Sum.inl (Value.ref b)), some (vR 0 0), some (vR 14 0), some (vI (nI j)), none, none, none, none] [] 18) {M : KM} {σ : ST} {i : Nat} (hd : L - i < d + 1) (hi : i + 4 ≤ L) (hC : CI M σ) (hM : MI M σ) : Go mL_law (lwz b L xs) M [some (Sum.inl (Value.ref b)), some (vR 0 0), some (vR 14 0), some (vI (nI i)), none, none, none, none] [] 296 := by
  refine go_aload_n (q := 297) dL_law_296 rfl rfl rfl ?_
  refine go_cV0 (cal := mX9_fault) (q := 300) dL_law_297 lRL_40 vX9_fault ⟨by decide, by decide⟩ rfl (by decide) (Nat.le_of_ble_eq_true rfl) (ok_fault hC) rfl ?_
  refine go_aload_n (q := 301) dL_law_300 rfl rfl rfl ?_
  refine go_callV [] (cal := mX10_fault) (q := 304) dL_law_301 lRL_43 vX10_fault ⟨by decide, by decide⟩ rfl rfl (by decide) (Nat.le_of_ble_eq_true rfl) (ok_mfault hM) rfl (fun r301 M301 h301 => ?_)
  obtain ⟨rfl, hM2, hf2⟩ := h301
  have hC2 := CI_fm hC hf2
  refine go_icmp_eq (q := 307) (t := 811) dL_law_304 (by decide) rfl (fun _ => ?_) (fun z => absurd rfl z)
  refine go_iinc (q := 814) (v := 4) dL_law_811 (by decide) rfl (by decide) rfl rfl ?_
  refine go_goto (q := 18) dL_law_814 (by decide) ?_
  rw [show nI i + 4 = nI (i + 4) from nI_add i 4]
  exact ih _ _ (i + 4) (by omega) (by omega) hC2 hM2
theorem lw_c7 {b L : Nat} {xs : Nat → Int32} (hL : L ≤ 2048) {d : Nat} (ih : ∀ (M : KM) (σ : ST) (j : Nat), L - j < d → j ≤ 2048 → CI M σ → MI M σ → Go mL_law (lwz b L xs) M [some (Sum.inl (Value.ref b)), some (vR 0 0), some (vR 14 0), some (vI (nI j)), none, none, none, none] [] 18) {M : KM} {σ : ST} {i : Nat} (hd : L - i < d + 1) (hi : i + 4 ≤ L) (hC : CI M σ) (hM : MI M σ) : Go mL_law (lwz b L xs) M [some (Sum.inl (Value.ref b)), some (vR 0 0), some (vR 14 0), some (vI (nI i)), none, none, none, none] [] 309 := by
  refine go_aload_n (q := 310) dL_law_309 rfl rfl rfl ?_
  refine go_callV [] (cal := mX9_enrol) (q := 313) dL_law_310 lRL_44 vX9_enrol ⟨by decide, by decide⟩ rfl rfl (by decide) (Nat.le_of_ble_eq_true rfl) (ok_enrol hC) rfl (fun r310 M310 h310 => ?_)
  obtain ⟨rfl, hC1, hf1⟩ := h310
  have hM1 := MI_fc hM hf1
  refine go_aload_n (q := 314) dL_law_313 rfl rfl rfl ?_
  refine go_callV [] (cal := mX10_enrol) (q := 317) dL_law_314 lRL_47 vX10_enrol ⟨by decide, by decide⟩ rfl rfl (by decide) (Nat.le_of_ble_eq_true rfl) (ok_menrol hM1) rfl (fun r314 M314 h314 => ?_)
  obtain ⟨rfl, hM2, hf2⟩ := h314
  have hC2 := CI_fm hC1 hf2
  refine go_icmp_eq (q := 320) (t := 811) dL_law_317 (by decide) rfl (fun _ => ?_) (fun z => absurd rfl z)
  refine go_iinc (q := 814) (v := 4) dL_law_811 (by decide) rfl (by decide) rfl rfl ?_
  refine go_goto (q := 18) dL_law_814 (by decide) ?_
  rw [show nI i + 4 = nI (i + 4) from nI_add i 4]
  exact ih _ _ (i + 4) (by omega) (by omega) hC2 hM2
theorem lw_c8 {b L : Nat} {xs : Nat → Int32} (hL : L ≤ 2048) {d : Nat} (ih : ∀ (M : KM) (σ : ST) (j : Nat), L - j < d → j ≤ 2048 → CI M σ → MI M σ → Go mL_law (lwz b L xs) M [some (Sum.inl (Value.ref b)), some (vR 0 0), some (vR 14 0), some (vI (nI j)), none, none, none, none] [] 18) {M : KM} {σ : ST} {i : Nat} (hd : L - i < d + 1) (hi : i + 4 ≤ L) (hC : CI M σ) (hM : MI M σ) : Go mL_law (lwz b L xs) M [some (Sum.inl (Value.ref b)), some (vR 0 0), some (vR 14 0), some (vI (nI i)), none, none, none, none] [] 322 := by
  refine go_aload_n (q := 323) dL_law_322 rfl rfl rfl ?_
  refine go_aloadR (q := 324) dL_law_323 rfl rfl rfl ?_
  refine go_iload_n (q := 325) dL_law_324 rfl rfl rfl ?_
  refine go_iconst (q := 326) (v := 1) dL_law_325 (by decide) rfl ?_
  refine go_iadd (q := 327) dL_law_326 rfl ?_
  refine go_topi (nI_add i 1) ?_
  refine go_sld (q := 328) (i + 1) dL_law_327 (by rfl) (by omega) (by omega) rfl ?_
  refine go_cV1 (cal := mX9_why) (q := 331) dL_law_328 lRL_48 vX9_why ⟨by decide, by decide⟩ rfl (by decide) (Nat.le_of_ble_eq_true rfl) (ok_why hC _) rfl ?_
  refine go_aload_n (q := 332) dL_law_331 rfl rfl rfl ?_
  refine go_aloadR (q := 333) dL_law_332 rfl rfl rfl ?_
  refine go_iload_n (q := 334) dL_law_333 rfl rfl rfl ?_
  refine go_iconst (q := 335) (v := 1) dL_law_334 (by decide) rfl ?_
  refine go_iadd (q := 336) dL_law_335 rfl ?_
  refine go_topi (nI_add i 1) ?_
  refine go_sld (q := 337) (i + 1) dL_law_336 (by rfl) (by omega) (by omega) rfl ?_
  refine go_cV1 (cal := mX10_why) (q := 340) dL_law_337 lRL_51 vX10_why ⟨by decide, by decide⟩ rfl (by decide) (Nat.le_of_ble_eq_true rfl) (ok_mwhy hM _) rfl ?_
  refine go_icmp_eq (q := 343) (t := 811) dL_law_340 (by decide) rfl (fun _ => ?_) (fun z => absurd rfl z)
  refine go_iinc (q := 814) (v := 4) dL_law_811 (by decide) rfl (by decide) rfl rfl ?_
  refine go_goto (q := 18) dL_law_814 (by decide) ?_
  rw [show nI i + 4 = nI (i + 4) from nI_add i 4]
  exact ih _ σ (i + 4) (by omega) (by omega) hC hM
theorem lw_c9 {b L : Nat} {xs : Nat → Int32} (hL : L ≤ 2048) {d : Nat} (ih : ∀ (M : KM) (σ : ST) (j : Nat), L - j < d → j ≤ 2048 → CI M σ → MI M σ → Go mL_law (lwz b L xs) M [some (Sum.inl (Value.ref b)), some (vR 0 0), some (vR 14 0), some (vI (nI j)), none, none, none, none] [] 18) {M : KM} {σ : ST} {i : Nat} (hd : L - i < d + 1) (hi : i + 4 ≤ L) (hC : CI M σ) (hM : MI M σ) : Go mL_law (lwz b L xs) M [some (Sum.inl (Value.ref b)), some (vR 0 0), some (vR 14 0), some (vI (nI i)), none, none, none, none] [] 345 := by
  refine go_aload_n (q := 346) dL_law_345 rfl rfl rfl ?_
  refine go_aloadR (q := 347) dL_law_346 rfl rfl rfl ?_
  refine go_iload_n (q := 348) dL_law_347 rfl rfl rfl ?_
  refine go_iconst (q := 349) (v := 1) dL_law_348 (by decide) rfl ?_
  refine go_iadd (q := 350) dL_law_349 rfl ?_
  refine go_topi (nI_add i 1) ?_
  refine go_sld (q := 351) (i + 1) dL_law_350 (by rfl) (by omega) (by omega) rfl ?_
  refine go_aloadR (q := 352) dL_law_351 rfl rfl rfl ?_
  refine go_iload_n (q := 353) dL_law_352 rfl rfl rfl ?_
  refine go_iconst (q := 354) (v := 2) dL_law_353 (by decide) rfl ?_
  refine go_iadd (q := 355) dL_law_354 rfl ?_
  refine go_topi (nI_add i 2) ?_
  refine go_sld (q := 356) (i + 2) dL_law_355 (by rfl) (by omega) (by omega) rfl ?_
  refine go_cV2 (cal := mX9_person) (q := 359) dL_law_356 lRL_52 vX9_person ⟨by decide, by decide⟩ rfl (by decide) (Nat.le_of_ble_eq_true rfl) (ok_person hC.1 hC.2.1 _ _) rfl ?_
  refine go_aload_n (q := 360) dL_law_359 rfl rfl rfl ?_
  refine go_aloadR (q := 361) dL_law_360 rfl rfl rfl ?_
  refine go_iload_n (q := 362) dL_law_361 rfl rfl rfl ?_
  refine go_iconst (q := 363) (v := 1) dL_law_362 (by decide) rfl ?_
  refine go_iadd (q := 364) dL_law_363 rfl ?_
  refine go_topi (nI_add i 1) ?_
  refine go_sld (q := 365) (i + 1) dL_law_364 (by rfl) (by omega) (by omega) rfl ?_
  refine go_aloadR (q := 366) dL_law_365 rfl rfl rfl ?_
  refine go_iload_n (q := 367) dL_law_366 rfl rfl rfl ?_
  refine go_iconst (q := 368) (v := 2) dL_law_367 (by decide) rfl ?_
  refine go_iadd (q := 369) dL_law_368 rfl ?_
  refine go_topi (nI_add i 2) ?_
  refine go_sld (q := 370) (i + 2) dL_law_369 (by rfl) (by omega) (by omega) rfl ?_
  refine go_cV2 (cal := mX10_person) (q := 373) dL_law_370 lRL_56 vX10_person ⟨by decide, by decide⟩ rfl (by decide) (Nat.le_of_ble_eq_true rfl) (ok_mperson hM.1 hM.2.1 _ _) rfl ?_
  refine go_icmp_eq (q := 376) (t := 811) dL_law_373 (by decide) rfl (fun _ => ?_) (fun z => absurd rfl z)
  refine go_iinc (q := 814) (v := 4) dL_law_811 (by decide) rfl (by decide) rfl rfl ?_
  refine go_goto (q := 18) dL_law_814 (by decide) ?_
  rw [show nI i + 4 = nI (i + 4) from nI_add i 4]
  exact ih _ σ (i + 4) (by omega) (by omega) hC hM
theorem lw_c10 {b L : Nat} {xs : Nat → Int32} (hL : L ≤ 2048) {d : Nat} (ih : ∀ (M : KM) (σ : ST) (j : Nat), L - j < d → j ≤ 2048 → CI M σ → MI M σ → Go mL_law (lwz b L xs) M [some (Sum.inl (Value.ref b)), some (vR 0 0), some (vR 14 0), some (vI (nI j)), none, none, none, none] [] 18) {M : KM} {σ : ST} {i : Nat} (hd : L - i < d + 1) (hi : i + 4 ≤ L) (hC : CI M σ) (hM : MI M σ) : Go mL_law (lwz b L xs) M [some (Sum.inl (Value.ref b)), some (vR 0 0), some (vR 14 0), some (vI (nI i)), none, none, none, none] [] 378 := by
  refine go_aload_n (q := 379) dL_law_378 rfl rfl rfl ?_
  refine go_aloadR (q := 380) dL_law_379 rfl rfl rfl ?_
  refine go_iload_n (q := 381) dL_law_380 rfl rfl rfl ?_
  refine go_iconst (q := 382) (v := 1) dL_law_381 (by decide) rfl ?_
  refine go_iadd (q := 383) dL_law_382 rfl ?_
  refine go_topi (nI_add i 1) ?_
  refine go_sld (q := 384) (i + 1) dL_law_383 (by rfl) (by omega) (by omega) rfl ?_
  refine go_aloadR (q := 385) dL_law_384 rfl rfl rfl ?_
  refine go_iload_n (q := 386) dL_law_385 rfl rfl rfl ?_
  refine go_iconst (q := 387) (v := 2) dL_law_386 (by decide) rfl ?_
  refine go_iadd (q := 388) dL_law_387 rfl ?_
  refine go_topi (nI_add i 2) ?_
  refine go_sld (q := 389) (i + 2) dL_law_388 (by rfl) (by omega) (by omega) rfl ?_
  refine go_cV2 (cal := mX9_mark) (q := 392) dL_law_389 lRL_57 vX9_mark ⟨by decide, by decide⟩ rfl (by decide) (Nat.le_of_ble_eq_true rfl) (ok_mark hC.1 hC.2.1 _ _) rfl ?_
  refine go_aload_n (q := 393) dL_law_392 rfl rfl rfl ?_
  refine go_aloadR (q := 394) dL_law_393 rfl rfl rfl ?_
  refine go_iload_n (q := 395) dL_law_394 rfl rfl rfl ?_
  refine go_iconst (q := 396) (v := 1) dL_law_395 (by decide) rfl ?_
  refine go_iadd (q := 397) dL_law_396 rfl ?_
  refine go_topi (nI_add i 1) ?_
  refine go_sld (q := 398) (i + 1) dL_law_397 (by rfl) (by omega) (by omega) rfl ?_
  refine go_aloadR (q := 399) dL_law_398 rfl rfl rfl ?_
  refine go_iload_n (q := 400) dL_law_399 rfl rfl rfl ?_
  refine go_iconst (q := 401) (v := 2) dL_law_400 (by decide) rfl ?_
  refine go_iadd (q := 402) dL_law_401 rfl ?_
  refine go_topi (nI_add i 2) ?_
  refine go_sld (q := 403) (i + 2) dL_law_402 (by rfl) (by omega) (by omega) rfl ?_
  refine go_cV2 (cal := mX10_mark) (q := 406) dL_law_403 lRL_60 vX10_mark ⟨by decide, by decide⟩ rfl (by decide) (Nat.le_of_ble_eq_true rfl) (ok_mmark hM.1 hM.2.1 _ _) rfl ?_
  refine go_icmp_eq (q := 409) (t := 811) dL_law_406 (by decide) rfl (fun _ => ?_) (fun z => absurd rfl z)
  refine go_iinc (q := 814) (v := 4) dL_law_811 (by decide) rfl (by decide) rfl rfl ?_
  refine go_goto (q := 18) dL_law_814 (by decide) ?_
  rw [show nI i + 4 = nI (i + 4) from nI_add i 4]
  exact ih _ σ (i + 4) (by omega) (by omega) hC hM
theorem lw_c11 {b L : Nat} {xs : Nat → Int32} (hL : L ≤ 2048) {d : Nat} (ih : ∀ (M : KM) (σ : ST) (j : Nat), L - j < d → j ≤ 2048 → CI M σ → MI M σ → Go mL_law (lwz b L xs) M [some (Sum.inl (Value.ref b)), some (vR 0 0), some (vR 14 0), some (vI (nI j)), none, none, none, none] [] 18) {M : KM} {σ : ST} {i : Nat} (hd : L - i < d + 1) (hi : i + 4 ≤ L) (hC : CI M σ) (hM : MI M σ) : Go mL_law (lwz b L xs) M [some (Sum.inl (Value.ref b)), some (vR 0 0), some (vR 14 0), some (vI (nI i)), none, none, none, none] [] 411 := by
  refine go_aload_n (q := 412) dL_law_411 rfl rfl rfl ?_
  refine go_aloadR (q := 413) dL_law_412 rfl rfl rfl ?_
  refine go_iload_n (q := 414) dL_law_413 rfl rfl rfl ?_
  refine go_iconst (q := 415) (v := 1) dL_law_414 (by decide) rfl ?_
  refine go_iadd (q := 416) dL_law_415 rfl ?_
  refine go_topi (nI_add i 1) ?_
  refine go_sld (q := 417) (i + 1) dL_law_416 (by rfl) (by omega) (by omega) rfl ?_
  refine go_aloadR (q := 418) dL_law_417 rfl rfl rfl ?_
  refine go_iload_n (q := 419) dL_law_418 rfl rfl rfl ?_
  refine go_iconst (q := 420) (v := 2) dL_law_419 (by decide) rfl ?_
  refine go_iadd (q := 421) dL_law_420 rfl ?_
  refine go_topi (nI_add i 2) ?_
  refine go_sld (q := 422) (i + 2) dL_law_421 (by rfl) (by omega) (by omega) rfl ?_
  refine go_aloadR (q := 423) dL_law_422 rfl rfl rfl ?_
  refine go_iload_n (q := 424) dL_law_423 rfl rfl rfl ?_
  refine go_iconst (q := 425) (v := 3) dL_law_424 (by decide) rfl ?_
  refine go_iadd (q := 426) dL_law_425 rfl ?_
  refine go_topi (nI_add i 3) ?_
  refine go_sld (q := 427) (i + 3) dL_law_426 (by rfl) (by omega) (by omega) rfl ?_
  refine go_cV3 (cal := mX9_whyNot) (q := 430) dL_law_427 lRL_61 vX9_whyNot ⟨by decide, by decide⟩ rfl (by decide) (Nat.le_of_ble_eq_true rfl) (ok_whyNot hC.1 hC.2.1 _ _ _) rfl ?_
  refine go_aload_n (q := 431) dL_law_430 rfl rfl rfl ?_
  refine go_aloadR (q := 432) dL_law_431 rfl rfl rfl ?_
  refine go_iload_n (q := 433) dL_law_432 rfl rfl rfl ?_
  refine go_iconst (q := 434) (v := 1) dL_law_433 (by decide) rfl ?_
  refine go_iadd (q := 435) dL_law_434 rfl ?_
  refine go_topi (nI_add i 1) ?_
  refine go_sld (q := 436) (i + 1) dL_law_435 (by rfl) (by omega) (by omega) rfl ?_
  refine go_aloadR (q := 437) dL_law_436 rfl rfl rfl ?_
  refine go_iload_n (q := 438) dL_law_437 rfl rfl rfl ?_
  refine go_iconst (q := 439) (v := 2) dL_law_438 (by decide) rfl ?_
  refine go_iadd (q := 440) dL_law_439 rfl ?_
  refine go_topi (nI_add i 2) ?_
  refine go_sld (q := 441) (i + 2) dL_law_440 (by rfl) (by omega) (by omega) rfl ?_
  refine go_aloadR (q := 442) dL_law_441 rfl rfl rfl ?_
  refine go_iload_n (q := 443) dL_law_442 rfl rfl rfl ?_
  refine go_iconst (q := 444) (v := 3) dL_law_443 (by decide) rfl ?_
  refine go_iadd (q := 445) dL_law_444 rfl ?_
  refine go_topi (nI_add i 3) ?_
  refine go_sld (q := 446) (i + 3) dL_law_445 (by rfl) (by omega) (by omega) rfl ?_
  refine go_cV3 (cal := mX10_whyNot) (q := 449) dL_law_446 lRL_64 vX10_whyNot ⟨by decide, by decide⟩ rfl (by decide) (Nat.le_of_ble_eq_true rfl) (ok_mwhyNot hM.1 hM.2.1 _ _ _) rfl ?_
  refine go_icmp_eq (q := 452) (t := 811) dL_law_449 (by decide) rfl (fun _ => ?_) (fun z => absurd rfl z)
  refine go_iinc (q := 814) (v := 4) dL_law_811 (by decide) rfl (by decide) rfl rfl ?_
  refine go_goto (q := 18) dL_law_814 (by decide) ?_
  rw [show nI i + 4 = nI (i + 4) from nI_add i 4]
  exact ih _ σ (i + 4) (by omega) (by omega) hC hM
theorem lw_c12 {b L : Nat} {xs : Nat → Int32} (hL : L ≤ 2048) {d : Nat} (ih : ∀ (M : KM) (σ : ST) (j : Nat), L - j < d → j ≤ 2048 → CI M σ → MI M σ → Go mL_law (lwz b L xs) M [some (Sum.inl (Value.ref b)), some (vR 0 0), some (vR 14 0), some (vI (nI j)), none, none, none, none] [] 18) {M : KM} {σ : ST} {i : Nat} (hd : L - i < d + 1) (hi : i + 4 ≤ L) (hC : CI M σ) (hM : MI M σ) : Go mL_law (lwz b L xs) M [some (Sum.inl (Value.ref b)), some (vR 0 0), some (vR 14 0), some (vI (nI i)), none, none, none, none] [] 454 := by
  refine go_aload_n (q := 455) dL_law_454 rfl rfl rfl ?_
  refine go_aloadR (q := 456) dL_law_455 rfl rfl rfl ?_
  refine go_iload_n (q := 457) dL_law_456 rfl rfl rfl ?_
  refine go_iconst (q := 458) (v := 1) dL_law_457 (by decide) rfl ?_
  refine go_iadd (q := 459) dL_law_458 rfl ?_
  refine go_topi (nI_add i 1) ?_
  refine go_sld (q := 460) (i + 1) dL_law_459 (by rfl) (by omega) (by omega) rfl ?_
  refine go_aloadR (q := 461) dL_law_460 rfl rfl rfl ?_
  refine go_iload_n (q := 462) dL_law_461 rfl rfl rfl ?_
  refine go_iconst (q := 463) (v := 2) dL_law_462 (by decide) rfl ?_
  refine go_iadd (q := 464) dL_law_463 rfl ?_
  refine go_topi (nI_add i 2) ?_
  refine go_sld (q := 465) (i + 2) dL_law_464 (by rfl) (by omega) (by omega) rfl ?_
  refine go_cV2 (cal := mX9_choices) (q := 468) dL_law_465 lRL_65 vX9_choices ⟨by decide, by decide⟩ rfl (by decide) (Nat.le_of_ble_eq_true rfl) (ok_choices hC.1 hC.2.1 _ _) rfl ?_
  refine go_aload_n (q := 469) dL_law_468 rfl rfl rfl ?_
  refine go_aloadR (q := 470) dL_law_469 rfl rfl rfl ?_
  refine go_iload_n (q := 471) dL_law_470 rfl rfl rfl ?_
  refine go_iconst (q := 472) (v := 1) dL_law_471 (by decide) rfl ?_
  refine go_iadd (q := 473) dL_law_472 rfl ?_
  refine go_topi (nI_add i 1) ?_
  refine go_sld (q := 474) (i + 1) dL_law_473 (by rfl) (by omega) (by omega) rfl ?_
  refine go_aloadR (q := 475) dL_law_474 rfl rfl rfl ?_
  refine go_iload_n (q := 476) dL_law_475 rfl rfl rfl ?_
  refine go_iconst (q := 477) (v := 2) dL_law_476 (by decide) rfl ?_
  refine go_iadd (q := 478) dL_law_477 rfl ?_
  refine go_topi (nI_add i 2) ?_
  refine go_sld (q := 479) (i + 2) dL_law_478 (by rfl) (by omega) (by omega) rfl ?_
  refine go_cV2 (cal := mX10_choices) (q := 482) dL_law_479 lRL_68 vX10_choices ⟨by decide, by decide⟩ rfl (by decide) (Nat.le_of_ble_eq_true rfl) (ok_mchoices hM.1 hM.2.1 _ _) rfl ?_
  refine go_icmp_eq (q := 485) (t := 811) dL_law_482 (by decide) rfl (fun _ => ?_) (fun z => absurd rfl z)
  refine go_iinc (q := 814) (v := 4) dL_law_811 (by decide) rfl (by decide) rfl rfl ?_
  refine go_goto (q := 18) dL_law_814 (by decide) ?_
  rw [show nI i + 4 = nI (i + 4) from nI_add i 4]
  exact ih _ σ (i + 4) (by omega) (by omega) hC hM
theorem lw_c13 {b L : Nat} {xs : Nat → Int32} (hL : L ≤ 2048) {d : Nat} (ih : ∀ (M : KM) (σ : ST) (j : Nat), L - j < d → j ≤ 2048 → CI M σ → MI M σ → Go mL_law (lwz b L xs) M [some (Sum.inl (Value.ref b)), some (vR 0 0), some (vR 14 0), some (vI (nI j)), none, none, none, none] [] 18) {M : KM} {σ : ST} {i : Nat} (hd : L - i < d + 1) (hi : i + 4 ≤ L) (hC : CI M σ) (hM : MI M σ) : Go mL_law (lwz b L xs) M [some (Sum.inl (Value.ref b)), some (vR 0 0), some (vR 14 0), some (vI (nI i)), none, none, none, none] [] 487 := by
  refine go_aload_n (q := 488) dL_law_487 rfl rfl rfl ?_
  refine go_aloadR (q := 489) dL_law_488 rfl rfl rfl ?_
  refine go_iload_n (q := 490) dL_law_489 rfl rfl rfl ?_
  refine go_iconst (q := 491) (v := 1) dL_law_490 (by decide) rfl ?_
  refine go_iadd (q := 492) dL_law_491 rfl ?_
  refine go_topi (nI_add i 1) ?_
  refine go_sld (q := 493) (i + 1) dL_law_492 (by rfl) (by omega) (by omega) rfl ?_
  refine go_cV1 (cal := mX9_best) (q := 496) dL_law_493 lRL_69 vX9_best ⟨by decide, by decide⟩ rfl (by decide) (Nat.le_of_ble_eq_true rfl) (ok_best hC.1 hC.2.1 _) rfl ?_
  refine go_aload_n (q := 497) dL_law_496 rfl rfl rfl ?_
  refine go_aloadR (q := 498) dL_law_497 rfl rfl rfl ?_
  refine go_iload_n (q := 499) dL_law_498 rfl rfl rfl ?_
  refine go_iconst (q := 500) (v := 1) dL_law_499 (by decide) rfl ?_
  refine go_iadd (q := 501) dL_law_500 rfl ?_
  refine go_topi (nI_add i 1) ?_
  refine go_sld (q := 502) (i + 1) dL_law_501 (by rfl) (by omega) (by omega) rfl ?_
  refine go_cV1 (cal := mX10_best) (q := 505) dL_law_502 lRL_72 vX10_best ⟨by decide, by decide⟩ rfl (by decide) (Nat.le_of_ble_eq_true rfl) (ok_mbest hM.1 hM.2.1 _) rfl ?_
  refine go_icmp_eq (q := 508) (t := 811) dL_law_505 (by decide) rfl (fun _ => ?_) (fun z => absurd rfl z)
  refine go_iinc (q := 814) (v := 4) dL_law_811 (by decide) rfl (by decide) rfl rfl ?_
  refine go_goto (q := 18) dL_law_814 (by decide) ?_
  rw [show nI i + 4 = nI (i + 4) from nI_add i 4]
  exact ih _ σ (i + 4) (by omega) (by omega) hC hM
theorem lw_c14 {b L : Nat} {xs : Nat → Int32} (hL : L ≤ 2048) {d : Nat} (ih : ∀ (M : KM) (σ : ST) (j : Nat), L - j < d → j ≤ 2048 → CI M σ → MI M σ → Go mL_law (lwz b L xs) M [some (Sum.inl (Value.ref b)), some (vR 0 0), some (vR 14 0), some (vI (nI j)), none, none, none, none] [] 18) {M : KM} {σ : ST} {i : Nat} (hd : L - i < d + 1) (hi : i + 4 ≤ L) (hC : CI M σ) (hM : MI M σ) : Go mL_law (lwz b L xs) M [some (Sum.inl (Value.ref b)), some (vR 0 0), some (vR 14 0), some (vI (nI i)), none, none, none, none] [] 510 := by
  refine go_aload_n (q := 511) dL_law_510 rfl rfl rfl ?_
  refine go_aloadR (q := 512) dL_law_511 rfl rfl rfl ?_
  refine go_iload_n (q := 513) dL_law_512 rfl rfl rfl ?_
  refine go_iconst (q := 514) (v := 1) dL_law_513 (by decide) rfl ?_
  refine go_iadd (q := 515) dL_law_514 rfl ?_
  refine go_topi (nI_add i 1) ?_
  refine go_sld (q := 516) (i + 1) dL_law_515 (by rfl) (by omega) (by omega) rfl ?_
  refine go_aloadR (q := 517) dL_law_516 rfl rfl rfl ?_
  refine go_iload_n (q := 518) dL_law_517 rfl rfl rfl ?_
  refine go_iconst (q := 519) (v := 2) dL_law_518 (by decide) rfl ?_
  refine go_iadd (q := 520) dL_law_519 rfl ?_
  refine go_topi (nI_add i 2) ?_
  refine go_sld (q := 521) (i + 2) dL_law_520 (by rfl) (by omega) (by omega) rfl ?_
  refine go_cV2 (cal := mX9_differs) (q := 524) dL_law_521 lRL_73 vX9_differs ⟨by decide, by decide⟩ rfl (by decide) (Nat.le_of_ble_eq_true rfl) (ok_differs hC.1 hC.2.1 _ _) rfl ?_
  refine go_aload_n (q := 525) dL_law_524 rfl rfl rfl ?_
  refine go_aloadR (q := 526) dL_law_525 rfl rfl rfl ?_
  refine go_iload_n (q := 527) dL_law_526 rfl rfl rfl ?_
  refine go_iconst (q := 528) (v := 1) dL_law_527 (by decide) rfl ?_
  refine go_iadd (q := 529) dL_law_528 rfl ?_
  refine go_topi (nI_add i 1) ?_
  refine go_sld (q := 530) (i + 1) dL_law_529 (by rfl) (by omega) (by omega) rfl ?_
  refine go_aloadR (q := 531) dL_law_530 rfl rfl rfl ?_
  refine go_iload_n (q := 532) dL_law_531 rfl rfl rfl ?_
  refine go_iconst (q := 533) (v := 2) dL_law_532 (by decide) rfl ?_
  refine go_iadd (q := 534) dL_law_533 rfl ?_
  refine go_topi (nI_add i 2) ?_
  refine go_sld (q := 535) (i + 2) dL_law_534 (by rfl) (by omega) (by omega) rfl ?_
  refine go_cV2 (cal := mX10_differs) (q := 538) dL_law_535 lRL_76 vX10_differs ⟨by decide, by decide⟩ rfl (by decide) (Nat.le_of_ble_eq_true rfl) (ok_mdiffers hM.1 hM.2.1 _ _) rfl ?_
  refine go_icmp_eq (q := 541) (t := 811) dL_law_538 (by decide) rfl (fun _ => ?_) (fun z => absurd rfl z)
  refine go_iinc (q := 814) (v := 4) dL_law_811 (by decide) rfl (by decide) rfl rfl ?_
  refine go_goto (q := 18) dL_law_814 (by decide) ?_
  rw [show nI i + 4 = nI (i + 4) from nI_add i 4]
  exact ih _ σ (i + 4) (by omega) (by omega) hC hM
theorem lw_c15 {b L : Nat} {xs : Nat → Int32} (hL : L ≤ 2048) {d : Nat} (ih : ∀ (M : KM) (σ : ST) (j : Nat), L - j < d → j ≤ 2048 → CI M σ → MI M σ → Go mL_law (lwz b L xs) M [some (Sum.inl (Value.ref b)), some (vR 0 0), some (vR 14 0), some (vI (nI j)), none, none, none, none] [] 18) {M : KM} {σ : ST} {i : Nat} (hd : L - i < d + 1) (hi : i + 4 ≤ L) (hC : CI M σ) (hM : MI M σ) : Go mL_law (lwz b L xs) M [some (Sum.inl (Value.ref b)), some (vR 0 0), some (vR 14 0), some (vI (nI i)), none, none, none, none] [] 543 := by
  refine go_aload_n (q := 544) dL_law_543 rfl rfl rfl ?_
  refine go_aloadR (q := 545) dL_law_544 rfl rfl rfl ?_
  refine go_iload_n (q := 546) dL_law_545 rfl rfl rfl ?_
  refine go_iconst (q := 547) (v := 1) dL_law_546 (by decide) rfl ?_
  refine go_iadd (q := 548) dL_law_547 rfl ?_
  refine go_topi (nI_add i 1) ?_
  refine go_sld (q := 549) (i + 1) dL_law_548 (by rfl) (by omega) (by omega) rfl ?_
  refine go_aloadR (q := 550) dL_law_549 rfl rfl rfl ?_
  refine go_iload_n (q := 551) dL_law_550 rfl rfl rfl ?_
  refine go_iconst (q := 552) (v := 2) dL_law_551 (by decide) rfl ?_
  refine go_iadd (q := 553) dL_law_552 rfl ?_
  refine go_topi (nI_add i 2) ?_
  refine go_sld (q := 554) (i + 2) dL_law_553 (by rfl) (by omega) (by omega) rfl ?_
  refine go_cV2 (cal := mX9_kin) (q := 557) dL_law_554 lRL_77 vX9_kin ⟨by decide, by decide⟩ rfl (by decide) (Nat.le_of_ble_eq_true rfl) (ok_kin hC.1 hC.2.1 _ _) rfl ?_
  refine go_aload_n (q := 558) dL_law_557 rfl rfl rfl ?_
  refine go_aloadR (q := 559) dL_law_558 rfl rfl rfl ?_
  refine go_iload_n (q := 560) dL_law_559 rfl rfl rfl ?_
  refine go_iconst (q := 561) (v := 1) dL_law_560 (by decide) rfl ?_
  refine go_iadd (q := 562) dL_law_561 rfl ?_
  refine go_topi (nI_add i 1) ?_
  refine go_sld (q := 563) (i + 1) dL_law_562 (by rfl) (by omega) (by omega) rfl ?_
  refine go_aloadR (q := 564) dL_law_563 rfl rfl rfl ?_
  refine go_iload_n (q := 565) dL_law_564 rfl rfl rfl ?_
  refine go_iconst (q := 566) (v := 2) dL_law_565 (by decide) rfl ?_
  refine go_iadd (q := 567) dL_law_566 rfl ?_
  refine go_topi (nI_add i 2) ?_
  refine go_sld (q := 568) (i + 2) dL_law_567 (by rfl) (by omega) (by omega) rfl ?_
  refine go_cV2 (cal := mX10_kin) (q := 571) dL_law_568 lRL_80 vX10_kin ⟨by decide, by decide⟩ rfl (by decide) (Nat.le_of_ble_eq_true rfl) (ok_mkin hM.1 hM.2.1 _ _) rfl ?_
  refine go_icmp_eq (q := 574) (t := 811) dL_law_571 (by decide) rfl (fun _ => ?_) (fun z => absurd rfl z)
  refine go_iinc (q := 814) (v := 4) dL_law_811 (by decide) rfl (by decide) rfl rfl ?_
  refine go_goto (q := 18) dL_law_814 (by decide) ?_
  rw [show nI i + 4 = nI (i + 4) from nI_add i 4]
  exact ih _ σ (i + 4) (by omega) (by omega) hC hM
theorem lw_c16 {b L : Nat} {xs : Nat → Int32} (hL : L ≤ 2048) {d : Nat} (ih : ∀ (M : KM) (σ : ST) (j : Nat), L - j < d → j ≤ 2048 → CI M σ → MI M σ → Go mL_law (lwz b L xs) M [some (Sum.inl (Value.ref b)), some (vR 0 0), some (vR 14 0), some (vI (nI j)), none, none, none, none] [] 18) {M : KM} {σ : ST} {i : Nat} (hd : L - i < d + 1) (hi : i + 4 ≤ L) (hC : CI M σ) (hM : MI M σ) : Go mL_law (lwz b L xs) M [some (Sum.inl (Value.ref b)), some (vR 0 0), some (vR 14 0), some (vI (nI i)), none, none, none, none] [] 576 := by
  refine go_aload_n (q := 577) dL_law_576 rfl rfl rfl ?_
  refine go_aloadR (q := 578) dL_law_577 rfl rfl rfl ?_
  refine go_iload_n (q := 579) dL_law_578 rfl rfl rfl ?_
  refine go_iconst (q := 580) (v := 1) dL_law_579 (by decide) rfl ?_
  refine go_iadd (q := 581) dL_law_580 rfl ?_
  refine go_topi (nI_add i 1) ?_
  refine go_sld (q := 582) (i + 1) dL_law_581 (by rfl) (by omega) (by omega) rfl ?_
  refine go_cV1 (cal := mX9_bearer) (q := 585) dL_law_582 lRL_81 vX9_bearer ⟨by decide, by decide⟩ rfl (by decide) (Nat.le_of_ble_eq_true rfl) (ok_bearer hC.1 hC.2.1 _) rfl ?_
  refine go_aload_n (q := 586) dL_law_585 rfl rfl rfl ?_
  refine go_aloadR (q := 587) dL_law_586 rfl rfl rfl ?_
  refine go_iload_n (q := 588) dL_law_587 rfl rfl rfl ?_
  refine go_iconst (q := 589) (v := 1) dL_law_588 (by decide) rfl ?_
  refine go_iadd (q := 590) dL_law_589 rfl ?_
  refine go_topi (nI_add i 1) ?_
  refine go_sld (q := 591) (i + 1) dL_law_590 (by rfl) (by omega) (by omega) rfl ?_
  refine go_cV1 (cal := mX10_bearer) (q := 594) dL_law_591 lRL_84 vX10_bearer ⟨by decide, by decide⟩ rfl (by decide) (Nat.le_of_ble_eq_true rfl) (ok_mbearer hM.1 hM.2.1 _) rfl ?_
  refine go_icmp_eq (q := 597) (t := 811) dL_law_594 (by decide) rfl (fun _ => ?_) (fun z => absurd rfl z)
  refine go_iinc (q := 814) (v := 4) dL_law_811 (by decide) rfl (by decide) rfl rfl ?_
  refine go_goto (q := 18) dL_law_814 (by decide) ?_
  rw [show nI i + 4 = nI (i + 4) from nI_add i 4]
  exact ih _ σ (i + 4) (by omega) (by omega) hC hM
theorem lw_c17 {b L : Nat} {xs : Nat → Int32} (hL : L ≤ 2048) {d : Nat} (ih : ∀ (M : KM) (σ : ST) (j : Nat), L - j < d → j ≤ 2048 → CI M σ → MI M σ → Go mL_law (lwz b L xs) M [some (Sum.inl (Value.ref b)), some (vR 0 0), some (vR 14 0), some (vI (nI j)), none, none, none, none] [] 18) {M : KM} {σ : ST} {i : Nat} (hd : L - i < d + 1) (hi : i + 4 ≤ L) (hC : CI M σ) (hM : MI M σ) : Go mL_law (lwz b L xs) M [some (Sum.inl (Value.ref b)), some (vR 0 0), some (vR 14 0), some (vI (nI i)), none, none, none, none] [] 599 := by
  refine go_aload_n (q := 600) dL_law_599 rfl rfl rfl ?_
  refine go_aloadR (q := 601) dL_law_600 rfl rfl rfl ?_
  refine go_iload_n (q := 602) dL_law_601 rfl rfl rfl ?_
  refine go_iconst (q := 603) (v := 1) dL_law_602 (by decide) rfl ?_
  refine go_iadd (q := 604) dL_law_603 rfl ?_
  refine go_topi (nI_add i 1) ?_
  refine go_sld (q := 605) (i + 1) dL_law_604 (by rfl) (by omega) (by omega) rfl ?_
  refine go_aloadR (q := 606) dL_law_605 rfl rfl rfl ?_
  refine go_iload_n (q := 607) dL_law_606 rfl rfl rfl ?_
  refine go_iconst (q := 608) (v := 2) dL_law_607 (by decide) rfl ?_
  refine go_iadd (q := 609) dL_law_608 rfl ?_
  refine go_topi (nI_add i 2) ?_
  refine go_sld (q := 610) (i + 2) dL_law_609 (by rfl) (by omega) (by omega) rfl ?_
  refine go_aloadR (q := 611) dL_law_610 rfl rfl rfl ?_
  refine go_iload_n (q := 612) dL_law_611 rfl rfl rfl ?_
  refine go_iconst (q := 613) (v := 3) dL_law_612 (by decide) rfl ?_
  refine go_iadd (q := 614) dL_law_613 rfl ?_
  refine go_topi (nI_add i 3) ?_
  refine go_sld (q := 615) (i + 3) dL_law_614 (by rfl) (by omega) (by omega) rfl ?_
  refine go_callV [vI (xs (i + 1)), vI (xs (i + 2)), vI (xs (i + 3))] (cal := mX9_line) (q := 618) dL_law_615 lRL_85 vX9_line ⟨by decide, by decide⟩ rfl rfl (by decide) (Nat.le_of_ble_eq_true rfl) (ok_line hC.1 hC.2.1 hC.2.2.2.2.2.2.2.2 _ _ _) rfl (fun r615 M615 h615 => ?_)
  obtain ⟨v1, rfl, hl1, hq1, hk1⟩ := h615
  obtain ⟨hC1, hf1⟩ := CI_line hC hk1 hq1
  have hM1 := MI_fc hM hf1
  refine go_aload_n (q := 619) dL_law_618 rfl rfl rfl ?_
  refine go_aloadR (q := 620) dL_law_619 rfl rfl rfl ?_
  refine go_iload_n (q := 621) dL_law_620 rfl rfl rfl ?_
  refine go_iconst (q := 622) (v := 1) dL_law_621 (by decide) rfl ?_
  refine go_iadd (q := 623) dL_law_622 rfl ?_
  refine go_topi (nI_add i 1) ?_
  refine go_sld (q := 624) (i + 1) dL_law_623 (by rfl) (by omega) (by omega) rfl ?_
  refine go_aloadR (q := 625) dL_law_624 rfl rfl rfl ?_
  refine go_iload_n (q := 626) dL_law_625 rfl rfl rfl ?_
  refine go_iconst (q := 627) (v := 2) dL_law_626 (by decide) rfl ?_
  refine go_iadd (q := 628) dL_law_627 rfl ?_
  refine go_topi (nI_add i 2) ?_
  refine go_sld (q := 629) (i + 2) dL_law_628 (by rfl) (by omega) (by omega) rfl ?_
  refine go_aloadR (q := 630) dL_law_629 rfl rfl rfl ?_
  refine go_iload_n (q := 631) dL_law_630 rfl rfl rfl ?_
  refine go_iconst (q := 632) (v := 3) dL_law_631 (by decide) rfl ?_
  refine go_iadd (q := 633) dL_law_632 rfl ?_
  refine go_topi (nI_add i 3) ?_
  refine go_sld (q := 634) (i + 3) dL_law_633 (by rfl) (by omega) (by omega) rfl ?_
  refine go_callV [vI (xs (i + 1)), vI (xs (i + 2)), vI (xs (i + 3))] (cal := mX10_line) (q := 637) dL_law_634 lRL_88 vX10_line ⟨by decide, by decide⟩ rfl rfl (by decide) (Nat.le_of_ble_eq_true rfl) (ok_mline hM1.1 hM1.2.1 _ _ _) rfl (fun r634 M634 h634 => ?_)
  obtain ⟨v2, rfl, hl2, hk2⟩ := h634
  have hM2 : MI M634 σ := MI_B hM1 hk2
  have hC2 := CI_fm hC1 hk2.fm
  refine go_icmp_eq (q := 640) (t := 811) dL_law_637 (by decide) rfl (fun _ => ?_) (fun z => absurd (line_eq hC.2.1 hl1 hl2) z)
  refine go_iinc (q := 814) (v := 4) dL_law_811 (by decide) rfl (by decide) rfl rfl ?_
  refine go_goto (q := 18) dL_law_814 (by decide) ?_
  rw [show nI i + 4 = nI (i + 4) from nI_add i 4]
  exact ih _ _ (i + 4) (by omega) (by omega) hC2 hM2
theorem lw_c18 {b L : Nat} {xs : Nat → Int32} (hL : L ≤ 2048) {d : Nat} (ih : ∀ (M : KM) (σ : ST) (j : Nat), L - j < d → j ≤ 2048 → CI M σ → MI M σ → Go mL_law (lwz b L xs) M [some (Sum.inl (Value.ref b)), some (vR 0 0), some (vR 14 0), some (vI (nI j)), none, none, none, none] [] 18) {M : KM} {σ : ST} {i : Nat} (hd : L - i < d + 1) (hi : i + 4 ≤ L) (hC : CI M σ) (hM : MI M σ) : Go mL_law (lwz b L xs) M [some (Sum.inl (Value.ref b)), some (vR 0 0), some (vR 14 0), some (vI (nI i)), none, none, none, none] [] 642 := by
  refine go_aload_n (q := 643) dL_law_642 rfl rfl rfl ?_
  refine go_aloadR (q := 644) dL_law_643 rfl rfl rfl ?_
  refine go_iload_n (q := 645) dL_law_644 rfl rfl rfl ?_
  refine go_iconst (q := 646) (v := 1) dL_law_645 (by decide) rfl ?_
  refine go_iadd (q := 647) dL_law_646 rfl ?_
  refine go_topi (nI_add i 1) ?_
  refine go_sld (q := 648) (i + 1) dL_law_647 (by rfl) (by omega) (by omega) rfl ?_
  refine go_cV1 (cal := mX9_count) (q := 651) dL_law_648 lRL_89 vX9_count ⟨by decide, by decide⟩ rfl (by decide) (Nat.le_of_ble_eq_true rfl) (ok_count hC.1 hC.2.1 hC.2.2.2.2.2.2.1 hC.2.2.2.2.1 _) rfl ?_
  refine go_aload_n (q := 652) dL_law_651 rfl rfl rfl ?_
  refine go_aloadR (q := 653) dL_law_652 rfl rfl rfl ?_
  refine go_iload_n (q := 654) dL_law_653 rfl rfl rfl ?_
  refine go_iconst (q := 655) (v := 1) dL_law_654 (by decide) rfl ?_
  refine go_iadd (q := 656) dL_law_655 rfl ?_
  refine go_topi (nI_add i 1) ?_
  refine go_sld (q := 657) (i + 1) dL_law_656 (by rfl) (by omega) (by omega) rfl ?_
  refine go_cV1 (cal := mX10_count) (q := 660) dL_law_657 lRL_92 vX10_count ⟨by decide, by decide⟩ rfl (by decide) (Nat.le_of_ble_eq_true rfl) (ok_mcount hM.1 hM.2.1 hM.2.2.2.2.2.2.1.1 hM.2.2.2.2.1.1 _) rfl ?_
  refine go_icmp_eq (q := 663) (t := 811) dL_law_660 (by decide) rfl (fun _ => ?_) (fun z => absurd rfl z)
  refine go_iinc (q := 814) (v := 4) dL_law_811 (by decide) rfl (by decide) rfl rfl ?_
  refine go_goto (q := 18) dL_law_814 (by decide) ?_
  rw [show nI i + 4 = nI (i + 4) from nI_add i 4]
  exact ih _ σ (i + 4) (by omega) (by omega) hC hM
theorem lw_c19 {b L : Nat} {xs : Nat → Int32} (hL : L ≤ 2048) {d : Nat} (ih : ∀ (M : KM) (σ : ST) (j : Nat), L - j < d → j ≤ 2048 → CI M σ → MI M σ → Go mL_law (lwz b L xs) M [some (Sum.inl (Value.ref b)), some (vR 0 0), some (vR 14 0), some (vI (nI j)), none, none, none, none] [] 18) {M : KM} {σ : ST} {i : Nat} (hd : L - i < d + 1) (hi : i + 4 ≤ L) (hC : CI M σ) (hM : MI M σ) : Go mL_law (lwz b L xs) M [some (Sum.inl (Value.ref b)), some (vR 0 0), some (vR 14 0), some (vI (nI i)), none, none, none, none] [] 665 := by
  refine go_aload_n (q := 666) dL_law_665 rfl rfl rfl ?_
  refine go_aloadR (q := 667) dL_law_666 rfl rfl rfl ?_
  refine go_iload_n (q := 668) dL_law_667 rfl rfl rfl ?_
  refine go_iconst (q := 669) (v := 1) dL_law_668 (by decide) rfl ?_
  refine go_iadd (q := 670) dL_law_669 rfl ?_
  refine go_topi (nI_add i 1) ?_
  refine go_sld (q := 671) (i + 1) dL_law_670 (by rfl) (by omega) (by omega) rfl ?_
  refine go_aloadR (q := 672) dL_law_671 rfl rfl rfl ?_
  refine go_iload_n (q := 673) dL_law_672 rfl rfl rfl ?_
  refine go_iconst (q := 674) (v := 2) dL_law_673 (by decide) rfl ?_
  refine go_iadd (q := 675) dL_law_674 rfl ?_
  refine go_topi (nI_add i 2) ?_
  refine go_sld (q := 676) (i + 2) dL_law_675 (by rfl) (by omega) (by omega) rfl ?_
  refine go_cV2 (cal := mX9_borne) (q := 679) dL_law_676 lRL_93 vX9_borne ⟨by decide, by decide⟩ rfl (by decide) (Nat.le_of_ble_eq_true rfl) (ok_borne hC.1 hC.2.1 _ _) rfl ?_
  refine go_aload_n (q := 680) dL_law_679 rfl rfl rfl ?_
  refine go_aloadR (q := 681) dL_law_680 rfl rfl rfl ?_
  refine go_iload_n (q := 682) dL_law_681 rfl rfl rfl ?_
  refine go_iconst (q := 683) (v := 1) dL_law_682 (by decide) rfl ?_
  refine go_iadd (q := 684) dL_law_683 rfl ?_
  refine go_topi (nI_add i 1) ?_
  refine go_sld (q := 685) (i + 1) dL_law_684 (by rfl) (by omega) (by omega) rfl ?_
  refine go_aloadR (q := 686) dL_law_685 rfl rfl rfl ?_
  refine go_iload_n (q := 687) dL_law_686 rfl rfl rfl ?_
  refine go_iconst (q := 688) (v := 2) dL_law_687 (by decide) rfl ?_
  refine go_iadd (q := 689) dL_law_688 rfl ?_
  refine go_topi (nI_add i 2) ?_
  refine go_sld (q := 690) (i + 2) dL_law_689 (by rfl) (by omega) (by omega) rfl ?_
  refine go_cV2 (cal := mX10_borne) (q := 693) dL_law_690 lRL_96 vX10_borne ⟨by decide, by decide⟩ rfl (by decide) (Nat.le_of_ble_eq_true rfl) (ok_mborne hM.1 hM.2.1 _ _) rfl ?_
  refine go_icmp_eq (q := 696) (t := 811) dL_law_693 (by decide) rfl (fun _ => ?_) (fun z => absurd rfl z)
  refine go_iinc (q := 814) (v := 4) dL_law_811 (by decide) rfl (by decide) rfl rfl ?_
  refine go_goto (q := 18) dL_law_814 (by decide) ?_
  rw [show nI i + 4 = nI (i + 4) from nI_add i 4]
  exact ih _ σ (i + 4) (by omega) (by omega) hC hM
theorem lw_c20 {b L : Nat} {xs : Nat → Int32} (hL : L ≤ 2048) {d : Nat} (ih : ∀ (M : KM) (σ : ST) (j : Nat), L - j < d → j ≤ 2048 → CI M σ → MI M σ → Go mL_law (lwz b L xs) M [some (Sum.inl (Value.ref b)), some (vR 0 0), some (vR 14 0), some (vI (nI j)), none, none, none, none] [] 18) {M : KM} {σ : ST} {i : Nat} (hd : L - i < d + 1) (hi : i + 4 ≤ L) (hC : CI M σ) (hM : MI M σ) : Go mL_law (lwz b L xs) M [some (Sum.inl (Value.ref b)), some (vR 0 0), some (vR 14 0), some (vI (nI i)), none, none, none, none] [] 698 := by
  refine go_aload_n (q := 699) dL_law_698 rfl rfl rfl ?_
  refine go_cV0 (cal := mX9_unlike) (q := 702) dL_law_699 lRL_97 vX9_unlike ⟨by decide, by decide⟩ rfl (by decide) (Nat.le_of_ble_eq_true rfl) (ok_unlike hC.1 hC.2.1) rfl ?_
  refine go_dstore (q := 704) dL_law_702 (by decide) rfl rfl ?_
  refine go_aload_n (q := 705) dL_law_704 rfl rfl rfl ?_
  refine go_cV0 (cal := mX10_unlike) (q := 708) dL_law_705 lRL_101 vX10_unlike ⟨by decide, by decide⟩ rfl (by decide) (Nat.le_of_ble_eq_true rfl) (ok_munlike hM.1 hM.2.1) rfl ?_
  refine go_dstore (q := 710) dL_law_708 (by decide) rfl rfl ?_
  refine go_dload (q := 712) dL_law_710 rfl rfl ?_
  refine go_dload (q := 714) dL_law_712 rfl rfl ?_
  refine go_dcmp (q := 715) dL_law_714 rfl ?_
  refine go_if_eq (q := 718) (t := 736) dL_law_715 (by decide) rfl (fun c_715 => ?_) (fun c_715 => ?_)
  · refine go_goto (q := 811) dL_law_736 (by decide) ?_
    refine go_iinc (q := 814) (v := 4) dL_law_811 (by decide) rfl (by decide) rfl rfl ?_
    refine go_goto (q := 18) dL_law_814 (by decide) ?_
    refine go_weak (l1 := [some (Sum.inl (Value.ref b)), some (vR 0 0), some (vR 14 0), some (vI _), none, none, none, none]) (k_le_s (k_le_s (k_le_s (k_le_s (k_le_n (k_le_n (k_le_n (k_le_n k_le_nil)))))))) ?_
    rw [show nI i + 4 = nI (i + 4) from nI_add i 4]
    exact ih _ σ (i + 4) (by omega) (by omega) hC hM
  · refine go_dload (q := 720) dL_law_718 rfl rfl ?_
    refine go_dload (q := 722) dL_law_720 rfl rfl ?_
    refine go_dcmp (q := 723) dL_law_722 rfl ?_
    refine go_if_eq (q := 726) (t := 734) dL_law_723 (by decide) rfl (fun c_723 => ?_) (fun c_723 => ?_)
    · exact absurd c_723 c_715
    · refine go_dload (q := 728) dL_law_726 rfl rfl ?_
      refine go_dload (q := 730) dL_law_728 rfl rfl ?_
      refine go_dcmp (q := 731) dL_law_730 rfl ?_
      refine go_if_ne (q := 734) (t := 736) dL_law_731 (by decide) rfl (fun c_731 => ?_) (fun c_731 => ?_)
      · refine go_goto (q := 811) dL_law_736 (by decide) ?_
        refine go_iinc (q := 814) (v := 4) dL_law_811 (by decide) rfl (by decide) rfl rfl ?_
        refine go_goto (q := 18) dL_law_814 (by decide) ?_
        refine go_weak (l1 := [some (Sum.inl (Value.ref b)), some (vR 0 0), some (vR 14 0), some (vI _), none, none, none, none]) (k_le_s (k_le_s (k_le_s (k_le_s (k_le_n (k_le_n (k_le_n (k_le_n k_le_nil)))))))) ?_
        rw [show nI i + 4 = nI (i + 4) from nI_add i 4]
        exact ih _ σ (i + 4) (by omega) (by omega) hC hM
      · exact absurd (Classical.not_not.mp c_731) c_715
theorem lw_c21 {b L : Nat} {xs : Nat → Int32} (hL : L ≤ 2048) {d : Nat} (ih : ∀ (M : KM) (σ : ST) (j : Nat), L - j < d → j ≤ 2048 → CI M σ → MI M σ → Go mL_law (lwz b L xs) M [some (Sum.inl (Value.ref b)), some (vR 0 0), some (vR 14 0), some (vI (nI j)), none, none, none, none] [] 18) {M : KM} {σ : ST} {i : Nat} (hd : L - i < d + 1) (hi : i + 4 ≤ L) (hC : CI M σ) (hM : MI M σ) : Go mL_law (lwz b L xs) M [some (Sum.inl (Value.ref b)), some (vR 0 0), some (vR 14 0), some (vI (nI i)), none, none, none, none] [] 739 := by
  refine go_aload_n (q := 740) dL_law_739 rfl rfl rfl ?_
  refine go_aloadR (q := 741) dL_law_740 rfl rfl rfl ?_
  refine go_iload_n (q := 742) dL_law_741 rfl rfl rfl ?_
  refine go_iconst (q := 743) (v := 1) dL_law_742 (by decide) rfl ?_
  refine go_iadd (q := 744) dL_law_743 rfl ?_
  refine go_topi (nI_add i 1) ?_
  refine go_sld (q := 745) (i + 1) dL_law_744 (by rfl) (by omega) (by omega) rfl ?_
  refine go_aloadR (q := 746) dL_law_745 rfl rfl rfl ?_
  refine go_iload_n (q := 747) dL_law_746 rfl rfl rfl ?_
  refine go_iconst (q := 748) (v := 2) dL_law_747 (by decide) rfl ?_
  refine go_iadd (q := 749) dL_law_748 rfl ?_
  refine go_topi (nI_add i 2) ?_
  refine go_sld (q := 750) (i + 2) dL_law_749 (by rfl) (by omega) (by omega) rfl ?_
  refine go_callV [vI (xs (i + 1)), vI (xs (i + 2))] (cal := mX9_ifDead) (q := 753) dL_law_750 lRL_102 vX9_ifDead ⟨by decide, by decide⟩ rfl rfl (by decide) (Nat.le_of_ble_eq_true rfl) (ok_ifDead hC.1 hC.2.1 _ _) rfl (fun r750 M750 h750 => ?_)
  obtain ⟨rfl, hk1⟩ := h750
  have hC1 : CI M750 σ := CI_roll hC hk1 (by decide) (by decide) (HA_not0 hC.2.2.2.2.1 (by decide))
  have hM1 := MI_fc hM hk1.fc
  refine go_aload_n (q := 754) dL_law_753 rfl rfl rfl ?_
  refine go_aloadR (q := 755) dL_law_754 rfl rfl rfl ?_
  refine go_iload_n (q := 756) dL_law_755 rfl rfl rfl ?_
  refine go_iconst (q := 757) (v := 1) dL_law_756 (by decide) rfl ?_
  refine go_iadd (q := 758) dL_law_757 rfl ?_
  refine go_topi (nI_add i 1) ?_
  refine go_sld (q := 759) (i + 1) dL_law_758 (by rfl) (by omega) (by omega) rfl ?_
  refine go_aloadR (q := 760) dL_law_759 rfl rfl rfl ?_
  refine go_iload_n (q := 761) dL_law_760 rfl rfl rfl ?_
  refine go_iconst (q := 762) (v := 2) dL_law_761 (by decide) rfl ?_
  refine go_iadd (q := 763) dL_law_762 rfl ?_
  refine go_topi (nI_add i 2) ?_
  refine go_sld (q := 764) (i + 2) dL_law_763 (by rfl) (by omega) (by omega) rfl ?_
  refine go_cV2 (cal := mX10_ifDead) (q := 767) dL_law_764 lRL_105 vX10_ifDead ⟨by decide, by decide⟩ rfl (by decide) (Nat.le_of_ble_eq_true rfl) (ok_mifDead hM1.1 hM1.2.1 _ _) rfl ?_
  refine go_icmp_eq (q := 770) (t := 811) dL_law_767 (by decide) rfl (fun _ => ?_) (fun z => absurd rfl z)
  refine go_iinc (q := 814) (v := 4) dL_law_811 (by decide) rfl (by decide) rfl rfl ?_
  refine go_goto (q := 18) dL_law_814 (by decide) ?_
  rw [show nI i + 4 = nI (i + 4) from nI_add i 4]
  exact ih _ _ (i + 4) (by omega) (by omega) hC1 hM1
theorem lw_c22 {b L : Nat} {xs : Nat → Int32} (hL : L ≤ 2048) {d : Nat} (ih : ∀ (M : KM) (σ : ST) (j : Nat), L - j < d → j ≤ 2048 → CI M σ → MI M σ → Go mL_law (lwz b L xs) M [some (Sum.inl (Value.ref b)), some (vR 0 0), some (vR 14 0), some (vI (nI j)), none, none, none, none] [] 18) {M : KM} {σ : ST} {i : Nat} (hd : L - i < d + 1) (hi : i + 4 ≤ L) (hC : CI M σ) (hM : MI M σ) : Go mL_law (lwz b L xs) M [some (Sum.inl (Value.ref b)), some (vR 0 0), some (vR 14 0), some (vI (nI i)), none, none, none, none] [] 772 := by
  refine go_aload_n (q := 773) dL_law_772 rfl rfl rfl ?_
  refine go_callV [] (cal := mX9_undo) (q := 776) dL_law_773 lRL_106 vX9_undo ⟨by decide, by decide⟩ rfl rfl (by decide) (Nat.le_of_ble_eq_true rfl) (ok_undo hC) rfl (fun r773 M773 h773 => ?_)
  obtain ⟨rfl, hC1, hf1⟩ := h773
  have hM1 := MI_fc hM hf1
  refine go_aload_n (q := 777) dL_law_776 rfl rfl rfl ?_
  refine go_callV [] (cal := mX10_undo) (q := 780) dL_law_777 lRL_109 vX10_undo ⟨by decide, by decide⟩ rfl rfl (by decide) (Nat.le_of_ble_eq_true rfl) (ok_mundo hM1) rfl (fun r777 M777 h777 => ?_)
  obtain ⟨rfl, hM2, hf2⟩ := h777
  have hC2 := CI_fm hC1 hf2
  refine go_icmp_eq (q := 783) (t := 811) dL_law_780 (by decide) rfl (fun _ => ?_) (fun z => absurd rfl z)
  refine go_iinc (q := 814) (v := 4) dL_law_811 (by decide) rfl (by decide) rfl rfl ?_
  refine go_goto (q := 18) dL_law_814 (by decide) ?_
  rw [show nI i + 4 = nI (i + 4) from nI_add i 4]
  exact ih _ _ (i + 4) (by omega) (by omega) hC2 hM2
theorem lw_c23 {b L : Nat} {xs : Nat → Int32} (hL : L ≤ 2048) {d : Nat} (ih : ∀ (M : KM) (σ : ST) (j : Nat), L - j < d → j ≤ 2048 → CI M σ → MI M σ → Go mL_law (lwz b L xs) M [some (Sum.inl (Value.ref b)), some (vR 0 0), some (vR 14 0), some (vI (nI j)), none, none, none, none] [] 18) {M : KM} {σ : ST} {i : Nat} (hd : L - i < d + 1) (hi : i + 4 ≤ L) (hC : CI M σ) (hM : MI M σ) : Go mL_law (lwz b L xs) M [some (Sum.inl (Value.ref b)), some (vR 0 0), some (vR 14 0), some (vI (nI i)), none, none, none, none] [] 785 := by
  refine go_aload_n (q := 786) dL_law_785 rfl rfl rfl ?_
  refine go_callV [] (cal := mX9_save) (q := 789) dL_law_786 lRL_110 vX9_save ⟨by decide, by decide⟩ rfl rfl (by decide) (Nat.le_of_ble_eq_true rfl) (ok_save hC) rfl (fun r786 M786 h786 => ?_)
  obtain ⟨rfl, hC1, hf1⟩ := h786
  have hM1 := MI_fc hM hf1
  refine go_aload_n (q := 790) dL_law_789 rfl rfl rfl ?_
  refine go_callV [] (cal := mX10_save) (q := 793) dL_law_790 lRL_113 vX10_save ⟨by decide, by decide⟩ rfl rfl (by decide) (Nat.le_of_ble_eq_true rfl) (ok_msave hM1) rfl (fun r790 M790 h790 => ?_)
  obtain ⟨rfl, hM2, hf2⟩ := h790
  have hC2 := CI_fm hC1 hf2
  refine go_icmp_eq (q := 796) (t := 811) dL_law_793 (by decide) rfl (fun _ => ?_) (fun z => absurd rfl z)
  refine go_iinc (q := 814) (v := 4) dL_law_811 (by decide) rfl (by decide) rfl rfl ?_
  refine go_goto (q := 18) dL_law_814 (by decide) ?_
  rw [show nI i + 4 = nI (i + 4) from nI_add i 4]
  exact ih _ _ (i + 4) (by omega) (by omega) hC2 hM2
theorem lw_c24 {b L : Nat} {xs : Nat → Int32} (hL : L ≤ 2048) {d : Nat} (ih : ∀ (M : KM) (σ : ST) (j : Nat), L - j < d → j ≤ 2048 → CI M σ → MI M σ → Go mL_law (lwz b L xs) M [some (Sum.inl (Value.ref b)), some (vR 0 0), some (vR 14 0), some (vI (nI j)), none, none, none, none] [] 18) {M : KM} {σ : ST} {i : Nat} (hd : L - i < d + 1) (hi : i + 4 ≤ L) (hC : CI M σ) (hM : MI M σ) : Go mL_law (lwz b L xs) M [some (Sum.inl (Value.ref b)), some (vR 0 0), some (vR 14 0), some (vI (nI i)), none, none, none, none] [] 798 := by
  refine go_aload_n (q := 799) dL_law_798 rfl rfl rfl ?_
  refine go_callV [] (cal := mX9_restore) (q := 802) dL_law_799 lRL_114 vX9_restore ⟨by decide, by decide⟩ rfl rfl (by decide) (Nat.le_of_ble_eq_true rfl) (ok_restore hC) rfl (fun r799 M799 h799 => ?_)
  obtain ⟨rfl, hC1, hf1⟩ := h799
  have hM1 := MI_fc hM hf1
  refine go_aload_n (q := 803) dL_law_802 rfl rfl rfl ?_
  refine go_callV [] (cal := mX10_restore) (q := 806) dL_law_803 lRL_117 vX10_restore ⟨by decide, by decide⟩ rfl rfl (by decide) (Nat.le_of_ble_eq_true rfl) (ok_mrestore hM1) rfl (fun r803 M803 h803 => ?_)
  obtain ⟨rfl, hM2, hf2⟩ := h803
  have hC2 := CI_fm hC1 hf2
  refine go_icmp_eq (q := 809) (t := 811) dL_law_806 (by decide) rfl (fun _ => ?_) (fun z => absurd rfl z)
  refine go_iinc (q := 814) (v := 4) dL_law_811 (by decide) rfl (by decide) rfl rfl ?_
  refine go_goto (q := 18) dL_law_814 (by decide) ?_
  rw [show nI i + 4 = nI (i + 4) from nI_add i 4]
  exact ih _ _ (i + 4) (by omega) (by omega) hC2 hM2
theorem lw_loop {b L : Nat} {xs : Nat → Int32} (hL : L ≤ 2048) : ∀ (d : Nat) (M : KM) (σ : ST) (i : Nat), L - i < d → i ≤ 2048 → CI M σ → MI M σ → Go mL_law (lwz b L xs) M [some (Sum.inl (Value.ref b)), some (vR 0 0), some (vR 14 0), some (vI (nI i)), none, none, none, none] [] 18 := by
  intro d
  induction d with
  | zero => intro M σ i hd; exact absurd hd (Nat.not_lt_zero _)
  | succ d ih =>
    intro M σ i hd hi hC hM
    refine go_iload_n (q := 19) dL_law_18 rfl rfl rfl ?_
    refine go_aloadR (q := 20) dL_law_19 rfl rfl rfl ?_
    refine go_slen (q := 21) dL_law_20 rfl ?_
    refine go_iconst (q := 22) (v := 4) dL_law_21 (by decide) rfl ?_
    refine go_isub (q := 23) dL_law_22 rfl ?_
    refine go_icmp_gt4 i L (q := 26) (t := 817) dL_law_23 (by decide) rfl hL hi (fun c_23 => ?_) (fun c_23 => ?_)
    · refine go_iconst (q := 818) (v := 1) dL_law_817 (by decide) rfl ?_
      exact go_lret dL_law_818
    · obtain ⟨t, ht32, ht⟩ := and31 (xs i)
      by_cases h25 : 25 ≤ t
      · refine go_aloadR (q := 27) dL_law_26 rfl rfl rfl ?_
        refine go_iload_n (q := 28) dL_law_27 rfl rfl rfl ?_
        refine go_sld (q := 29) i dL_law_28 (by rfl) (by omega) (by omega) rfl ?_
        refine go_bipush (q := 31) (v := 31) dL_law_29 (by decide) rfl ?_
        refine go_iand (q := 32) dL_law_31 rfl ?_
        refine go_tableOut (q := 811) dL_law_32 (by rw [ht, nI_toInt (by omega)]; omega) (by decide) ?_
        refine go_iinc (q := 814) (v := 4) dL_law_811 (by decide) rfl (by decide) rfl rfl ?_
        refine go_goto (q := 18) dL_law_814 (by decide) ?_
        rw [show nI i + 4 = nI (i + 4) from nI_add i 4]
        exact ih _ σ (i + 4) (by omega) (by omega) hC hM
      rcases (show t = 0 ∨ t = 1 ∨ t = 2 ∨ t = 3 ∨ t = 4 ∨ t = 5 ∨ t = 6 ∨ t = 7 ∨ t = 8 ∨ t = 9 ∨ t = 10 ∨ t = 11 ∨ t = 12 ∨ t = 13 ∨ t = 14 ∨ t = 15 ∨ t = 16 ∨ t = 17 ∨ t = 18 ∨ t = 19 ∨ t = 20 ∨ t = 21 ∨ t = 22 ∨ t = 23 ∨ t = 24 by omega) with rfl | rfl | rfl | rfl | rfl | rfl | rfl | rfl | rfl | rfl | rfl | rfl | rfl | rfl | rfl | rfl | rfl | rfl | rfl | rfl | rfl | rfl | rfl | rfl | rfl
      · refine go_aloadR (q := 27) dL_law_26 rfl rfl rfl ?_
        refine go_iload_n (q := 28) dL_law_27 rfl rfl rfl ?_
        refine go_sld (q := 29) i dL_law_28 (by rfl) (by omega) (by omega) rfl ?_
        refine go_bipush (q := 31) (v := 31) dL_law_29 (by decide) rfl ?_
        refine go_iand (q := 32) dL_law_31 rfl ?_
        refine go_tableIn 0 (q := 148) dL_law_32 (show (xs i &&& 31).toInt = 0 from by rw [ht]; decide) (by decide) (by decide) rfl (by decide) ?_
        exact lw_c0 hL ih hd c_23 hC hM
      · refine go_aloadR (q := 27) dL_law_26 rfl rfl rfl ?_
        refine go_iload_n (q := 28) dL_law_27 rfl rfl rfl ?_
        refine go_sld (q := 29) i dL_law_28 (by rfl) (by omega) (by omega) rfl ?_
        refine go_bipush (q := 31) (v := 31) dL_law_29 (by decide) rfl ?_
        refine go_iand (q := 32) dL_law_31 rfl ?_
        refine go_tableIn 1 (q := 171) dL_law_32 (show (xs i &&& 31).toInt = 1 from by rw [ht]; decide) (by decide) (by decide) rfl (by decide) ?_
        exact lw_c1 hL ih hd c_23 hC hM
      · refine go_aloadR (q := 27) dL_law_26 rfl rfl rfl ?_
        refine go_iload_n (q := 28) dL_law_27 rfl rfl rfl ?_
        refine go_sld (q := 29) i dL_law_28 (by rfl) (by omega) (by omega) rfl ?_
        refine go_bipush (q := 31) (v := 31) dL_law_29 (by decide) rfl ?_
        refine go_iand (q := 32) dL_law_31 rfl ?_
        refine go_tableIn 2 (q := 214) dL_law_32 (show (xs i &&& 31).toInt = 2 from by rw [ht]; decide) (by decide) (by decide) rfl (by decide) ?_
        exact lw_c2 hL ih hd c_23 hC hM
      · refine go_aloadR (q := 27) dL_law_26 rfl rfl rfl ?_
        refine go_iload_n (q := 28) dL_law_27 rfl rfl rfl ?_
        refine go_sld (q := 29) i dL_law_28 (by rfl) (by omega) (by omega) rfl ?_
        refine go_bipush (q := 31) (v := 31) dL_law_29 (by decide) rfl ?_
        refine go_iand (q := 32) dL_law_31 rfl ?_
        refine go_tableIn 3 (q := 237) dL_law_32 (show (xs i &&& 31).toInt = 3 from by rw [ht]; decide) (by decide) (by decide) rfl (by decide) ?_
        exact lw_c3 hL ih hd c_23 hC hM
      · refine go_aloadR (q := 27) dL_law_26 rfl rfl rfl ?_
        refine go_iload_n (q := 28) dL_law_27 rfl rfl rfl ?_
        refine go_sld (q := 29) i dL_law_28 (by rfl) (by omega) (by omega) rfl ?_
        refine go_bipush (q := 31) (v := 31) dL_law_29 (by decide) rfl ?_
        refine go_iand (q := 32) dL_law_31 rfl ?_
        refine go_tableIn 4 (q := 260) dL_law_32 (show (xs i &&& 31).toInt = 4 from by rw [ht]; decide) (by decide) (by decide) rfl (by decide) ?_
        exact lw_c4 hL ih hd c_23 hC hM
      · refine go_aloadR (q := 27) dL_law_26 rfl rfl rfl ?_
        refine go_iload_n (q := 28) dL_law_27 rfl rfl rfl ?_
        refine go_sld (q := 29) i dL_law_28 (by rfl) (by omega) (by omega) rfl ?_
        refine go_bipush (q := 31) (v := 31) dL_law_29 (by decide) rfl ?_
        refine go_iand (q := 32) dL_law_31 rfl ?_
        refine go_tableIn 5 (q := 283) dL_law_32 (show (xs i &&& 31).toInt = 5 from by rw [ht]; decide) (by decide) (by decide) rfl (by decide) ?_
        exact lw_c5 hL ih hd c_23 hC hM
      · refine go_aloadR (q := 27) dL_law_26 rfl rfl rfl ?_
        refine go_iload_n (q := 28) dL_law_27 rfl rfl rfl ?_
        refine go_sld (q := 29) i dL_law_28 (by rfl) (by omega) (by omega) rfl ?_
        refine go_bipush (q := 31) (v := 31) dL_law_29 (by decide) rfl ?_
        refine go_iand (q := 32) dL_law_31 rfl ?_
        refine go_tableIn 6 (q := 296) dL_law_32 (show (xs i &&& 31).toInt = 6 from by rw [ht]; decide) (by decide) (by decide) rfl (by decide) ?_
        exact lw_c6 hL ih hd c_23 hC hM
      · refine go_aloadR (q := 27) dL_law_26 rfl rfl rfl ?_
        refine go_iload_n (q := 28) dL_law_27 rfl rfl rfl ?_
        refine go_sld (q := 29) i dL_law_28 (by rfl) (by omega) (by omega) rfl ?_
        refine go_bipush (q := 31) (v := 31) dL_law_29 (by decide) rfl ?_
        refine go_iand (q := 32) dL_law_31 rfl ?_
        refine go_tableIn 7 (q := 309) dL_law_32 (show (xs i &&& 31).toInt = 7 from by rw [ht]; decide) (by decide) (by decide) rfl (by decide) ?_
        exact lw_c7 hL ih hd c_23 hC hM
      · refine go_aloadR (q := 27) dL_law_26 rfl rfl rfl ?_
        refine go_iload_n (q := 28) dL_law_27 rfl rfl rfl ?_
        refine go_sld (q := 29) i dL_law_28 (by rfl) (by omega) (by omega) rfl ?_
        refine go_bipush (q := 31) (v := 31) dL_law_29 (by decide) rfl ?_
        refine go_iand (q := 32) dL_law_31 rfl ?_
        refine go_tableIn 8 (q := 322) dL_law_32 (show (xs i &&& 31).toInt = 8 from by rw [ht]; decide) (by decide) (by decide) rfl (by decide) ?_
        exact lw_c8 hL ih hd c_23 hC hM
      · refine go_aloadR (q := 27) dL_law_26 rfl rfl rfl ?_
        refine go_iload_n (q := 28) dL_law_27 rfl rfl rfl ?_
        refine go_sld (q := 29) i dL_law_28 (by rfl) (by omega) (by omega) rfl ?_
        refine go_bipush (q := 31) (v := 31) dL_law_29 (by decide) rfl ?_
        refine go_iand (q := 32) dL_law_31 rfl ?_
        refine go_tableIn 9 (q := 345) dL_law_32 (show (xs i &&& 31).toInt = 9 from by rw [ht]; decide) (by decide) (by decide) rfl (by decide) ?_
        exact lw_c9 hL ih hd c_23 hC hM
      · refine go_aloadR (q := 27) dL_law_26 rfl rfl rfl ?_
        refine go_iload_n (q := 28) dL_law_27 rfl rfl rfl ?_
        refine go_sld (q := 29) i dL_law_28 (by rfl) (by omega) (by omega) rfl ?_
        refine go_bipush (q := 31) (v := 31) dL_law_29 (by decide) rfl ?_
        refine go_iand (q := 32) dL_law_31 rfl ?_
        refine go_tableIn 10 (q := 378) dL_law_32 (show (xs i &&& 31).toInt = 10 from by rw [ht]; decide) (by decide) (by decide) rfl (by decide) ?_
        exact lw_c10 hL ih hd c_23 hC hM
      · refine go_aloadR (q := 27) dL_law_26 rfl rfl rfl ?_
        refine go_iload_n (q := 28) dL_law_27 rfl rfl rfl ?_
        refine go_sld (q := 29) i dL_law_28 (by rfl) (by omega) (by omega) rfl ?_
        refine go_bipush (q := 31) (v := 31) dL_law_29 (by decide) rfl ?_
        refine go_iand (q := 32) dL_law_31 rfl ?_
        refine go_tableIn 11 (q := 411) dL_law_32 (show (xs i &&& 31).toInt = 11 from by rw [ht]; decide) (by decide) (by decide) rfl (by decide) ?_
        exact lw_c11 hL ih hd c_23 hC hM
      · refine go_aloadR (q := 27) dL_law_26 rfl rfl rfl ?_
        refine go_iload_n (q := 28) dL_law_27 rfl rfl rfl ?_
        refine go_sld (q := 29) i dL_law_28 (by rfl) (by omega) (by omega) rfl ?_
        refine go_bipush (q := 31) (v := 31) dL_law_29 (by decide) rfl ?_
        refine go_iand (q := 32) dL_law_31 rfl ?_
        refine go_tableIn 12 (q := 454) dL_law_32 (show (xs i &&& 31).toInt = 12 from by rw [ht]; decide) (by decide) (by decide) rfl (by decide) ?_
        exact lw_c12 hL ih hd c_23 hC hM
      · refine go_aloadR (q := 27) dL_law_26 rfl rfl rfl ?_
        refine go_iload_n (q := 28) dL_law_27 rfl rfl rfl ?_
        refine go_sld (q := 29) i dL_law_28 (by rfl) (by omega) (by omega) rfl ?_
        refine go_bipush (q := 31) (v := 31) dL_law_29 (by decide) rfl ?_
        refine go_iand (q := 32) dL_law_31 rfl ?_
        refine go_tableIn 13 (q := 487) dL_law_32 (show (xs i &&& 31).toInt = 13 from by rw [ht]; decide) (by decide) (by decide) rfl (by decide) ?_
        exact lw_c13 hL ih hd c_23 hC hM
      · refine go_aloadR (q := 27) dL_law_26 rfl rfl rfl ?_
        refine go_iload_n (q := 28) dL_law_27 rfl rfl rfl ?_
        refine go_sld (q := 29) i dL_law_28 (by rfl) (by omega) (by omega) rfl ?_
        refine go_bipush (q := 31) (v := 31) dL_law_29 (by decide) rfl ?_
        refine go_iand (q := 32) dL_law_31 rfl ?_
        refine go_tableIn 14 (q := 510) dL_law_32 (show (xs i &&& 31).toInt = 14 from by rw [ht]; decide) (by decide) (by decide) rfl (by decide) ?_
        exact lw_c14 hL ih hd c_23 hC hM
      · refine go_aloadR (q := 27) dL_law_26 rfl rfl rfl ?_
        refine go_iload_n (q := 28) dL_law_27 rfl rfl rfl ?_
        refine go_sld (q := 29) i dL_law_28 (by rfl) (by omega) (by omega) rfl ?_
        refine go_bipush (q := 31) (v := 31) dL_law_29 (by decide) rfl ?_
        refine go_iand (q := 32) dL_law_31 rfl ?_
        refine go_tableIn 15 (q := 543) dL_law_32 (show (xs i &&& 31).toInt = 15 from by rw [ht]; decide) (by decide) (by decide) rfl (by decide) ?_
        exact lw_c15 hL ih hd c_23 hC hM
      · refine go_aloadR (q := 27) dL_law_26 rfl rfl rfl ?_
        refine go_iload_n (q := 28) dL_law_27 rfl rfl rfl ?_
        refine go_sld (q := 29) i dL_law_28 (by rfl) (by omega) (by omega) rfl ?_
        refine go_bipush (q := 31) (v := 31) dL_law_29 (by decide) rfl ?_
        refine go_iand (q := 32) dL_law_31 rfl ?_
        refine go_tableIn 16 (q := 576) dL_law_32 (show (xs i &&& 31).toInt = 16 from by rw [ht]; decide) (by decide) (by decide) rfl (by decide) ?_
        exact lw_c16 hL ih hd c_23 hC hM
      · refine go_aloadR (q := 27) dL_law_26 rfl rfl rfl ?_
        refine go_iload_n (q := 28) dL_law_27 rfl rfl rfl ?_
        refine go_sld (q := 29) i dL_law_28 (by rfl) (by omega) (by omega) rfl ?_
        refine go_bipush (q := 31) (v := 31) dL_law_29 (by decide) rfl ?_
        refine go_iand (q := 32) dL_law_31 rfl ?_
        refine go_tableIn 17 (q := 599) dL_law_32 (show (xs i &&& 31).toInt = 17 from by rw [ht]; decide) (by decide) (by decide) rfl (by decide) ?_
        exact lw_c17 hL ih hd c_23 hC hM
      · refine go_aloadR (q := 27) dL_law_26 rfl rfl rfl ?_
        refine go_iload_n (q := 28) dL_law_27 rfl rfl rfl ?_
        refine go_sld (q := 29) i dL_law_28 (by rfl) (by omega) (by omega) rfl ?_
        refine go_bipush (q := 31) (v := 31) dL_law_29 (by decide) rfl ?_
        refine go_iand (q := 32) dL_law_31 rfl ?_
        refine go_tableIn 18 (q := 642) dL_law_32 (show (xs i &&& 31).toInt = 18 from by rw [ht]; decide) (by decide) (by decide) rfl (by decide) ?_
        exact lw_c18 hL ih hd c_23 hC hM
      · refine go_aloadR (q := 27) dL_law_26 rfl rfl rfl ?_
        refine go_iload_n (q := 28) dL_law_27 rfl rfl rfl ?_
        refine go_sld (q := 29) i dL_law_28 (by rfl) (by omega) (by omega) rfl ?_
        refine go_bipush (q := 31) (v := 31) dL_law_29 (by decide) rfl ?_
        refine go_iand (q := 32) dL_law_31 rfl ?_
        refine go_tableIn 19 (q := 665) dL_law_32 (show (xs i &&& 31).toInt = 19 from by rw [ht]; decide) (by decide) (by decide) rfl (by decide) ?_
        exact lw_c19 hL ih hd c_23 hC hM
      · refine go_aloadR (q := 27) dL_law_26 rfl rfl rfl ?_
        refine go_iload_n (q := 28) dL_law_27 rfl rfl rfl ?_
        refine go_sld (q := 29) i dL_law_28 (by rfl) (by omega) (by omega) rfl ?_
        refine go_bipush (q := 31) (v := 31) dL_law_29 (by decide) rfl ?_
        refine go_iand (q := 32) dL_law_31 rfl ?_
        refine go_tableIn 20 (q := 698) dL_law_32 (show (xs i &&& 31).toInt = 20 from by rw [ht]; decide) (by decide) (by decide) rfl (by decide) ?_
        exact lw_c20 hL ih hd c_23 hC hM
      · refine go_aloadR (q := 27) dL_law_26 rfl rfl rfl ?_
        refine go_iload_n (q := 28) dL_law_27 rfl rfl rfl ?_
        refine go_sld (q := 29) i dL_law_28 (by rfl) (by omega) (by omega) rfl ?_
        refine go_bipush (q := 31) (v := 31) dL_law_29 (by decide) rfl ?_
        refine go_iand (q := 32) dL_law_31 rfl ?_
        refine go_tableIn 21 (q := 739) dL_law_32 (show (xs i &&& 31).toInt = 21 from by rw [ht]; decide) (by decide) (by decide) rfl (by decide) ?_
        exact lw_c21 hL ih hd c_23 hC hM
      · refine go_aloadR (q := 27) dL_law_26 rfl rfl rfl ?_
        refine go_iload_n (q := 28) dL_law_27 rfl rfl rfl ?_
        refine go_sld (q := 29) i dL_law_28 (by rfl) (by omega) (by omega) rfl ?_
        refine go_bipush (q := 31) (v := 31) dL_law_29 (by decide) rfl ?_
        refine go_iand (q := 32) dL_law_31 rfl ?_
        refine go_tableIn 22 (q := 772) dL_law_32 (show (xs i &&& 31).toInt = 22 from by rw [ht]; decide) (by decide) (by decide) rfl (by decide) ?_
        exact lw_c22 hL ih hd c_23 hC hM
      · refine go_aloadR (q := 27) dL_law_26 rfl rfl rfl ?_
        refine go_iload_n (q := 28) dL_law_27 rfl rfl rfl ?_
        refine go_sld (q := 29) i dL_law_28 (by rfl) (by omega) (by omega) rfl ?_
        refine go_bipush (q := 31) (v := 31) dL_law_29 (by decide) rfl ?_
        refine go_iand (q := 32) dL_law_31 rfl ?_
        refine go_tableIn 23 (q := 785) dL_law_32 (show (xs i &&& 31).toInt = 23 from by rw [ht]; decide) (by decide) (by decide) rfl (by decide) ?_
        exact lw_c23 hL ih hd c_23 hC hM
      · refine go_aloadR (q := 27) dL_law_26 rfl rfl rfl ?_
        refine go_iload_n (q := 28) dL_law_27 rfl rfl rfl ?_
        refine go_sld (q := 29) i dL_law_28 (by rfl) (by omega) (by omega) rfl ?_
        refine go_bipush (q := 31) (v := 31) dL_law_29 (by decide) rfl ?_
        refine go_iand (q := 32) dL_law_31 rfl ?_
        refine go_tableIn 24 (q := 798) dL_law_32 (show (xs i &&& 31).toInt = 24 from by rw [ht]; decide) (by decide) (by decide) rfl (by decide) ?_
        exact lw_c24 hL ih hd c_23 hC hM
