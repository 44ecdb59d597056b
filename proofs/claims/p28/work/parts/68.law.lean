/-! ===== the law's loop ===== -/
def lwz (b L : Nat) (xs : Nat → Int32) : KZ := fun G Hb _ _ _ R s _ args below _ _ cells slots Qf => R = room_1 ∧ cells ≤ 600000 ∧ slots ≤ 7302250 ∧ b < Hb.size ∧ b < G.1 ∧ va_X b L xs s Hb ∧ ∃ (s0 : State) (d0 : Drawn), s = s0.setDrawn d0 ∧ s0.heap.size ≤ G.1 ∧ s0.drawn.sameBut d0 lw_cs ∧ args = #[Value.ref b] ∧ Qf = lw_Z below #[Value.ref b] s0
theorem lwz_X {b L : Nat} {xs : Nat → Int32} : ∀ G Hb p l e R s m args below meth c cells slots Qf, lwz b L xs G Hb p l e R s m args below meth c cells slots Qf → va_X b L xs s Hb ∧ b < Hb.size ∧ b < G.1 := fun _ _ _ _ _ _ _ _ _ _ _ _ _ _ _ h => ⟨h.2.2.2.2.2.1, h.2.2.2.1, h.2.2.2.2.1⟩
theorem go_lret {b L : Nat} {xs : Nat → Int32} {M : KM} {loc : List (Option KV)} {pc : Nat} (hd : decode mL_law.2.1 pc = .ok (.ireturn, 1)) : Go mL_law (lwz b L xs) M loc [vI 1] pc := by
  intro G Hb p l e R s m args below meth c cells slots Qf hC hZ H ls locs hW hF hL hl
  obtain ⟨hx, hb, hml, hrt, hown, hlk, hts, hK, hRf, hRl, hce, hsl⟩ := id hC
  obtain ⟨rfl, hce2, hsl2, hbs, hbG, hX, s0, d0, rfl, hsz, hd0, rfl, rfl⟩ := hZ
  refine va_forget (fun q hq => Nat.le_trans hsz (hL q hq).1) (W.widen hce2 hsl2 ?_)
  exact lw_ret hd0 hx hb hrt hlk hd
theorem CI_h4 {M : KM} {σ : ST} (h : CI M σ) : σ.2.2.1.1 ≤ 4 := h.2.2.2.2.1.2.1
/-- undone, all is as it was -/
theorem SI_back {σ : ST} {R : RO} (h : SI σ) (h4 : σ.2.2.1.1 ≤ 4) : ∃ τ, aUndo (sKeep (R, σ.2) σ.1) = (nI (if σ.2.2.1.1 < 4 then σ.2.2.1.1 else 3), τ) ∧ SI τ ∧ τ.1 = σ.1 ∧ τ.2.1 = σ.2.1 := by
  refine ⟨_, undo_keep h4, ⟨h.1, h.2.1, fun j hj => ?_, h.2.2.2⟩, rfl, rfl⟩
  have h1 := (hKeep_last σ.2.2.1.1 σ.2.2.1.2 σ.1 h4).1
  have hj : j < (if σ.2.2.1.1 < 4 then σ.2.2.1.1 else 3) := hj
  exact rI_keep h.2.2.1 h.1 h4 j (by rw [h1]; omega)
theorem SI_save {σ : ST} (h : SI σ) : SI (aSave σ).2 := ⟨h.1, fun s hs => by cases hs; exact h.1, h.2.2.1, h.2.2.2⟩
theorem SI_0 : SI S0 := ⟨Nat.le_refl _, fun s hs => (by cases hs), fun j hj => absurd hj (Nat.not_lt_zero _), rfl⟩
/-- what a told deed can be undone to -/
def UN (σ1 : ST) (R : RO) (h : Nat) (s : RO) : Prop := ∃ τ, aUndo σ1 = (nI (if h < 4 then h else 3), τ) ∧ SI τ ∧ τ.1 = R ∧ τ.2.1 = some s
theorem lw_d {b L : Nat} {xs : Nat → Int32} (hL : L ≤ 260) {n : Nat} (hn : n < 50) (ih : ∀ (M : KM) (σ : ST) (s : RO), CI M σ → SI σ → σ.2.1 = some s → Go mL_law (lwz b L xs) M [some (Sum.inl (Value.ref b)), some (vR 0 0), some (vI 1), some (vJ (seenR s)), none, some (vI (nI (cn (rL s) (rN s)))), some (vI (nI (n + 1))), none, none, none, none, none, none, none, none, none, none, none] [] 76) {M : KM} {σ : ST} {s : RO} (hC : CI M σ) (hS : SI σ) (hs : σ.2.1 = some s) {l7 l8 l10 l11 l12 l13 : Option KV} {i14 : Int32} : Go mL_law (lwz b L xs) M [some (Sum.inl (Value.ref b)), some (vR 0 0), some (vI 1), some (vJ (seenR s)), none, some (vI (nI (cn (rL s) (rN s)))), some (vI (nI n)), l7, l8, none, l10, l11, l12, l13, some (vI i14), none, none, none] [] 383 := by
  refine go_iload_n (q := 384) dL_law_383 rfl rfl rfl ?_
  refine go_if_eq (q := 387) (t := 467) dL_law_384 (by decide) rfl (fun z => absurd z (by decide)) (fun _ => ?_)
  refine go_iload (q := 389) dL_law_387 rfl rfl ?_
  refine go_bipush (q := 391) (v := 12) dL_law_389 (by decide) rfl ?_
  refine go_irem (q := 392) dL_law_391 (by decide) rfl ?_
  refine go_topi (show nI n - nI n / 12 * 12 = nI (n % 12) from pk_rem (d := 12) (by omega) (by decide) (by decide)) ?_
  refine go_bipush (q := 394) (v := 11) dL_law_392 (by decide) rfl ?_
  refine go_icmp_neN (n % 12) 11 (q := 397) (t := 467) dL_law_394 (by decide) rfl rfl rfl (by omega) (by omega) (fun c_394 => ?_) (fun c_394 => ?_)
  · refine go_iinc (q := 470) (v := 1) dL_law_467 (by decide) rfl (by decide) rfl rfl ?_
    refine go_goto (q := 76) dL_law_470 (by decide) ?_
    rw [show nI n + 1 = nI (n + 1) from nI_add n 1]
    exact go_weak (k_le_s (k_le_s (k_le_s (k_le_s (k_le_n (k_le_s (k_le_s (k_le_n (k_le_n (k_le_n (k_le_n (k_le_n (k_le_n (k_le_n (k_le_n (k_le_n (k_le_n (k_le_n k_le_nil)))))))))))))))))) (ih _ _ s hC hS hs)
  · have hr : aRestore σ = (nI (cn (rL s) (rN s)), sKeep (s, σ.2) σ.1) := by unfold aRestore; rw [hs]
    obtain ⟨τ, ha, hST, ht1, ht2⟩ := SI_back (R := s) hS (CI_h4 hC)
    refine go_aload_n (q := 398) dL_law_397 rfl rfl rfl ?_
    refine go_cS1 (cal := mL_seen) (q := 401) dL_law_398 lRL_91 vL_seen ⟨by decide, by decide⟩ (Nat.le_of_ble_eq_true rfl) (ok_seen hC.1 hC.2.1 hC.2.2.2.2.2.2.1 hC.2.2.2.2.1) rfl ?_
    refine go_lstore (q := 403) dL_law_401 (by decide) rfl rfl ?_
    refine go_aload_n (q := 404) dL_law_403 rfl rfl rfl ?_
    refine go_iconst (q := 405) (v := 1) dL_law_404 (by decide) rfl ?_
    refine go_cV1 (cal := mX9_count) (q := 408) dL_law_405 lRL_14 vX9_count ⟨by decide, by decide⟩ rfl (by decide) (Nat.le_of_ble_eq_true rfl) (ok_count hC.1 hC.2.1 hC.2.2.2.2.2.2.1 hC.2.2.2.2.1 _) rfl ?_
    refine go_topi (aN1) ?_
    refine go_istore (q := 410) dL_law_408 (by decide) rfl rfl ?_
    refine go_aload_n (q := 411) dL_law_410 rfl rfl rfl ?_
    refine go_callV [] (cal := mX9_restore) (q := 414) dL_law_411 lRL_103 vX9_restore ⟨by decide, by decide⟩ rfl rfl (by decide) (Nat.le_of_ble_eq_true rfl) (ok_restore hC) rfl (fun r411 M411 h411 => ?_)
    obtain ⟨rfl, hC1, -⟩ := h411
    rw [hr] at hC1
    rw [hr]
    refine go_iload (q := 416) dL_law_414 rfl rfl ?_
    refine go_icmp_ne (q := 419) (t := 458) dL_law_416 (by decide) rfl (fun z => absurd z (nn rfl)) (fun _ => ?_)
    refine go_aload_n (q := 420) dL_law_419 rfl rfl rfl ?_
    refine go_cS1 (cal := mL_seen) (q := 423) dL_law_420 lRL_91 vL_seen ⟨by decide, by decide⟩ (Nat.le_of_ble_eq_true rfl) (ok_seen hC1.1 hC1.2.1 hC1.2.2.2.2.2.2.1 hC1.2.2.2.2.1) rfl ?_
    refine go_lload_n (q := 424) dL_law_423 rfl rfl rfl ?_
    refine go_lcmp (q := 425) dL_law_424 rfl ?_
    refine go_topi (lg_cmp_self _) ?_
    refine go_if_ne (q := 428) (t := 458) dL_law_425 (by decide) rfl (fun z => absurd z (nn rfl)) (fun _ => ?_)
    refine go_aload_n (q := 429) dL_law_428 rfl rfl rfl ?_
    refine go_callV [] (cal := mX9_undo) (q := 432) dL_law_429 lRL_100 vX9_undo ⟨by decide, by decide⟩ rfl rfl (by decide) (Nat.le_of_ble_eq_true rfl) (ok_undo hC1) rfl (fun r429 M429 h429 => ?_)
    obtain ⟨rfl, hC2, -⟩ := h429
    rw [ha] at hC2
    rw [ha]
    refine go_if_lt (q := 435) (t := 458) dL_law_432 (by decide) rfl (fun z => absurd z (nI_pos (by split <;> omega))) (fun _ => ?_)
    refine go_aload_n (q := 436) dL_law_435 rfl rfl rfl ?_
    refine go_cS1 (cal := mL_seen) (q := 439) dL_law_436 lRL_91 vL_seen ⟨by decide, by decide⟩ (Nat.le_of_ble_eq_true rfl) (ok_seen hC2.1 hC2.2.1 hC2.2.2.2.2.2.2.1 hC2.2.2.2.2.1) rfl ?_
    rw [ht1]
    refine go_lload (q := 441) dL_law_439 rfl rfl ?_
    refine go_lcmp (q := 442) dL_law_441 rfl ?_
    refine go_topi (lg_cmp_self _) ?_
    refine go_if_ne (q := 445) (t := 458) dL_law_442 (by decide) rfl (fun z => absurd z (nn rfl)) (fun _ => ?_)
    refine go_aload_n (q := 446) dL_law_445 rfl rfl rfl ?_
    refine go_callV [] (cal := mX9_save) (q := 449) dL_law_446 lRL_109 vX9_save ⟨by decide, by decide⟩ rfl rfl (by decide) (Nat.le_of_ble_eq_true rfl) (ok_save hC2) rfl (fun r446 M446 h446 => ?_)
    obtain ⟨rfl, hC3, -⟩ := h446
    refine go_iload (q := 451) dL_law_449 rfl rfl ?_
    refine go_icmp_ne (q := 454) (t := 458) dL_law_451 (by decide) rfl (fun z => absurd z (nn (show nI (cn (rL τ.1) (rN τ.1)) = nI (cn (rL σ.1) (rN σ.1)) from by rw [ht1]))) (fun _ => ?_)
    refine go_iconst (q := 455) (v := 1) dL_law_454 (by decide) rfl ?_
    refine go_goto (q := 459) dL_law_455 (by decide) ?_
    refine go_istore_n (q := 460) dL_law_459 rfl (by decide) rfl rfl ?_
    refine go_lload (q := 462) dL_law_460 rfl rfl ?_
    refine go_lstore_n (q := 463) dL_law_462 rfl (by decide) rfl rfl ?_
    refine go_iload (q := 465) dL_law_463 rfl rfl ?_
    refine go_istore (q := 467) dL_law_465 (by decide) rfl rfl ?_
    refine go_iinc (q := 470) (v := 1) dL_law_467 (by decide) rfl (by decide) rfl rfl ?_
    refine go_goto (q := 76) dL_law_470 (by decide) ?_
    rw [show nI n + 1 = nI (n + 1) from nI_add n 1]
    have key := ih _ _ τ.1 hC3 (SI_save hST) rfl
    rw [ht1] at key
    exact go_weak (k_le_s (k_le_s (k_le_s (k_le_s (k_le_n (k_le_s (k_le_s (k_le_n (k_le_n (k_le_n (k_le_n (k_le_n (k_le_n (k_le_n (k_le_n (k_le_n (k_le_n (k_le_n k_le_nil)))))))))))))))))) key
theorem lw_c {b L : Nat} {xs : Nat → Int32} (hL : L ≤ 260) {n : Nat} (hn : n < 50) (ih : ∀ (M : KM) (σ : ST) (s : RO), CI M σ → SI σ → σ.2.1 = some s → Go mL_law (lwz b L xs) M [some (Sum.inl (Value.ref b)), some (vR 0 0), some (vI 1), some (vJ (seenR s)), none, some (vI (nI (cn (rL s) (rN s)))), some (vI (nI (n + 1))), none, none, none, none, none, none, none, none, none, none, none] [] 76) {M : KM} {σ : ST} {s R : RO} {h X : Nat} {v : Int32} (hX : X < 2 ^ 31) (hC : CI M σ) (hS : SI σ) (hs : σ.2.1 = some s) (h4 : h ≤ 4) (hU : ¬ v < 0 → UN σ R h s) {l2 l11 : Option KV} {i13 i14 : Int32} : Go mL_law (lwz b L xs) M [some (Sum.inl (Value.ref b)), some (vR 0 0), l2, some (vJ (seenR s)), none, some (vI (nI (cn (rL s) (rN s)))), some (vI (nI n)), some (vI (nI X)), some (vJ (seenR R)), none, some (vI (nI h)), l11, some (vI v), some (vI i13), some (vI i14), none, none, none] [] 318 := by
  refine go_iconst (q := 319) (v := 1) dL_law_318 (by decide) rfl ?_
  refine go_goto (q := 323) dL_law_319 (by decide) ?_
  refine go_istore_n (q := 324) dL_law_323 rfl (by decide) rfl rfl ?_
  refine go_iload_n (q := 325) dL_law_324 rfl rfl rfl ?_
  refine go_if_eq (q := 328) (t := 383) dL_law_325 (by decide) rfl (fun z => absurd z (by decide)) (fun _ => ?_)
  refine go_iload (q := 330) dL_law_328 rfl rfl ?_
  refine go_if_lt (q := 333) (t := 383) dL_law_330 (by decide) rfl (fun c_330 => ?_) (fun c_330 => ?_)
  · exact lw_d hL hn ih hC hS hs
  · refine go_iload (q := 335) dL_law_333 rfl rfl ?_
    refine go_if_le (q := 338) (t := 383) dL_law_335 (by decide) rfl (fun c_335 => ?_) (fun c_335 => ?_)
    · exact lw_d hL hn ih hC hS hs
    · refine go_iload (q := 340) dL_law_338 rfl rfl ?_
      refine go_bipush (q := 342) (v := 17) dL_law_340 (by decide) rfl ?_
      refine go_idiv (q := 343) dL_law_342 (by decide) rfl ?_
      refine go_topi (show nI X / 17 = nI (X / 17) from pk_div (d := 17) hX (by decide) (by decide)) ?_
      refine go_iconst (q := 344) (v := 4) dL_law_343 (by decide) rfl ?_
      refine go_irem (q := 345) dL_law_344 (by decide) rfl ?_
      refine go_topi (show nI (X / 17) - nI (X / 17) / 4 * 4 = nI (X / 17 % 4) from pk_rem (d := 4) (by omega) (by decide) (by decide)) ?_
      refine go_if_ne (q := 348) (t := 383) dL_law_345 (by decide) rfl (fun c_345 => ?_) (fun c_345 => ?_)
      · exact lw_d hL hn ih hC hS hs
      · obtain ⟨τ, ha, hST, ht1, ht2⟩ := hU c_330
        refine go_aload_n (q := 349) dL_law_348 rfl rfl rfl ?_
        refine go_callV [] (cal := mX9_undo) (q := 352) dL_law_349 lRL_100 vX9_undo ⟨by decide, by decide⟩ rfl rfl (by decide) (Nat.le_of_ble_eq_true rfl) (ok_undo hC) rfl (fun r349 M349 h349 => ?_)
        obtain ⟨rfl, hC1, -⟩ := h349
        rw [ha] at hC1
        rw [ha]
        refine go_iload (q := 354) dL_law_352 rfl rfl ?_
        refine go_iconst (q := 355) (v := 4) dL_law_354 (by decide) rfl ?_
        refine go_join2 (J := 364) (v := nI (if h < 4 then h else 3)) ?_ (fun j364 => ?_)
        · refine go_icmp_ne (q := 367) (t := 381) dL_law_364 (by decide) rfl (fun z => absurd z (nn rfl)) (fun _ => ?_)
          refine go_aload_n (q := 368) dL_law_367 rfl rfl rfl ?_
          refine go_cS1 (cal := mL_seen) (q := 371) dL_law_368 lRL_91 vL_seen ⟨by decide, by decide⟩ (Nat.le_of_ble_eq_true rfl) (ok_seen hC1.1 hC1.2.1 hC1.2.2.2.2.2.2.1 hC1.2.2.2.2.1) rfl ?_
          rw [ht1]
          refine go_lload (q := 373) dL_law_371 rfl rfl ?_
          refine go_lcmp (q := 374) dL_law_373 rfl ?_
          refine go_topi (lg_cmp_self _) ?_
          refine go_if_ne (q := 377) (t := 381) dL_law_374 (by decide) rfl (fun z => absurd z (nn rfl)) (fun _ => ?_)
          refine go_iconst (q := 378) (v := 1) dL_law_377 (by decide) rfl ?_
          refine go_goto (q := 382) dL_law_378 (by decide) ?_
          refine go_istore_n (q := 383) dL_law_382 rfl (by decide) rfl rfl ?_
          exact lw_d hL hn ih hC1 hST ht2
        · refine go_icmp_geN h 4 (q := 358) (t := 363) dL_law_355 (by decide) rfl rfl rfl (by omega) (by decide) (fun c_355 => ?_) (fun c_355 => ?_)
          · refine go_iconst (q := 364) (v := 3) dL_law_363 (by decide) rfl ?_
            exact j364 _ (by rw [if_neg (by omega)]; rfl)
          · refine go_iload (q := 360) dL_law_358 rfl rfl ?_
            refine go_goto (q := 364) dL_law_360 (by decide) ?_
            exact j364 _ (by rw [if_pos c_355])
theorem lw_b {b L : Nat} {xs : Nat → Int32} (hL : L ≤ 260) {n : Nat} (hn : n < 50) (ih : ∀ (M : KM) (σ : ST) (s : RO), CI M σ → SI σ → σ.2.1 = some s → Go mL_law (lwz b L xs) M [some (Sum.inl (Value.ref b)), some (vR 0 0), some (vI 1), some (vJ (seenR s)), none, some (vI (nI (cn (rL s) (rN s)))), some (vI (nI (n + 1))), none, none, none, none, none, none, none, none, none, none, none] [] 76) {M : KM} {σ : ST} {s R : RO} {h X : Nat} {v : Int32} (hX : X < 2 ^ 31) (hC : CI M σ) (hS : SI σ) (hs : σ.2.1 = some s) (h4 : h ≤ 4) (hU : ¬ v < 0 → UN σ R h s) {l2 l11 : Option KV} {i13 : Int32} : Go mL_law (lwz b L xs) M [some (Sum.inl (Value.ref b)), some (vR 0 0), l2, some (vJ (seenR s)), none, some (vI (nI (cn (rL s) (rN s)))), some (vI (nI n)), some (vI (nI X)), some (vJ (seenR R)), none, some (vI (nI h)), l11, some (vI v), some (vI i13), none, none, none, none] [] 208 := by
  have hn20 := hC.2.1.1
  refine go_aload_n (q := 209) dL_law_208 rfl rfl rfl ?_
  refine go_cS1 (cal := mL_arePersons) (q := 212) dL_law_209 lRL_120 vL_arePersons ⟨by decide, by decide⟩ (Nat.le_of_ble_eq_true rfl) (ok_arePersons hC.1 hC.2.1 hS.1 hC.2.2.2.2.2.2.1 hC.2.2.2.2.1) rfl ?_
  refine go_if_eq (q := 215) (t := 219) dL_law_212 (by decide) rfl (fun z => absurd z (by decide)) (fun _ => ?_)
  refine go_iconst (q := 216) (v := 1) dL_law_215 (by decide) rfl ?_
  refine go_goto (q := 220) dL_law_216 (by decide) ?_
  refine go_istore_n (q := 221) dL_law_220 rfl (by decide) rfl rfl ?_
  refine go_aload_n (q := 222) dL_law_221 rfl rfl rfl ?_
  refine go_iconst (q := 223) (v := 0) dL_law_222 (by decide) rfl ?_
  refine go_cV1 (cal := mX9_count) (q := 226) dL_law_223 lRL_14 vX9_count ⟨by decide, by decide⟩ rfl (by decide) (Nat.le_of_ble_eq_true rfl) (ok_count hC.1 hC.2.1 hC.2.2.2.2.2.2.1 hC.2.2.2.2.1 _) rfl ?_
  refine go_topi (aN0) ?_
  refine go_istore (q := 228) dL_law_226 (by decide) rfl rfl ?_
  refine go_iload_n (q := 229) dL_law_228 rfl rfl rfl ?_
  refine go_if_eq (q := 232) (t := 322) dL_law_229 (by decide) rfl (fun z => absurd z (by decide)) (fun _ => ?_)
  refine go_iload (q := 234) dL_law_232 rfl rfl ?_
  refine go_meet1 (J := 268) ?_ (fun j268 => ?_)
  · refine go_iload (q := 270) dL_law_268 rfl rfl ?_
    refine go_bipush (q := 272) (v := 8) dL_law_270 (by decide) rfl ?_
    refine go_irem (q := 273) dL_law_272 (by decide) rfl ?_
    refine go_topi (show nI n - nI n / 8 * 8 = nI (n % 8) from pk_rem (d := 8) (by omega) (by decide) (by decide)) ?_
    refine go_bipush (q := 275) (v := 7) dL_law_273 (by decide) rfl ?_
    refine go_icmp_neN (n % 8) 7 (q := 278) (t := 318) dL_law_275 (by decide) rfl rfl rfl (by omega) (by omega) (fun c_275 => ?_) (fun c_275 => ?_)
    · exact lw_c hL hn ih hX hC hS hs h4 hU
    · refine go_aload_n (q := 279) dL_law_278 rfl rfl rfl ?_
      refine go_iload (q := 281) dL_law_279 rfl rfl ?_
      refine go_bipush (q := 283) (v := 7) dL_law_281 (by decide) rfl ?_
      refine go_idiv (q := 284) dL_law_283 (by decide) rfl ?_
      refine go_topi (show nI X / 7 = nI (X / 7) from pk_div (d := 7) hX (by decide) (by decide)) ?_
      refine go_callS [vR 0 0, vI (nI (X / 7))] (cal := mL_refuses) (q := 287) dL_law_284 lRL_106 vL_refuses ⟨by decide, by decide⟩ rfl (Nat.le_of_ble_eq_true rfl) (ok_refuses hC hS.2.2.2 (by omega)) rfl (fun r284 M284 h284 => ?_)
      obtain ⟨rfl, hC1, -⟩ := h284
      replace hC := hC1
      refine go_if_eq (q := 290) (t := 322) dL_law_287 (by decide) rfl (fun z => absurd z (by decide)) (fun _ => ?_)
      refine go_iload (q := 292) dL_law_290 rfl rfl ?_
      refine go_if_eqN (rN σ.1) (q := 295) (t := 318) dL_law_292 (by decide) rfl rfl (by omega) (fun c_292 => ?_) (fun c_292 => ?_)
      · exact lw_c hL hn ih hX hC hS hs h4 hU
      · refine go_aload_n (q := 296) dL_law_295 rfl rfl rfl ?_
        refine go_iload (q := 298) dL_law_296 rfl rfl ?_
        refine go_iconst (q := 299) (v := 3) dL_law_298 (by decide) rfl ?_
        refine go_idiv (q := 300) dL_law_299 (by decide) rfl ?_
        refine go_topi (show nI X / 3 = nI (X / 3) from pk_div (d := 3) hX (by decide) (by decide)) ?_
        refine go_iload (q := 302) dL_law_300 rfl rfl ?_
        refine go_irem (q := 303) dL_law_302 (nI_ne0 (n := rN σ.1) (by omega) (by omega)) rfl ?_
        refine go_topi (pk_rem (a := X / 3) (d := rN σ.1) (by omega) (by omega) (by omega)) ?_
        refine go_iload (q := 305) dL_law_303 rfl rfl ?_
        refine go_bipush (q := 307) (v := 60) dL_law_305 (by decide) rfl ?_
        refine go_idiv (q := 308) dL_law_307 (by decide) rfl ?_
        refine go_topi (show nI X / 60 = nI (X / 60) from pk_div (d := 60) hX (by decide) (by decide)) ?_
        refine go_sipush (q := 311) (v := 15625) dL_law_308 (by decide) rfl ?_
        refine go_irem (q := 312) dL_law_311 (by decide) rfl ?_
        refine go_topi (show nI (X / 60) - nI (X / 60) / 15625 * 15625 = nI (X / 60 % 15625) from pk_rem (d := 15625) (by omega) (by decide) (by decide)) ?_
        refine go_callS [vR 0 0, vI (nI (X / 3 % rN σ.1)), vI (nI (X / 60 % 15625))] (cal := mL_isLine) (q := 315) dL_law_312 lRL_128 vL_isLine ⟨by decide, by decide⟩ rfl (Nat.le_of_ble_eq_true rfl) (ok_isLine hC (Nat.mod_lt _ (by omega)) (Nat.mod_lt _ (by decide))) rfl (fun r312 M312 h312 => ?_)
        obtain ⟨rfl, hC1, -⟩ := h312
        replace hC := hC1
        refine go_if_eq (q := 318) (t := 322) dL_law_315 (by decide) rfl (fun z => absurd z (by decide)) (fun _ => ?_)
        exact lw_c hL hn ih hX hC hS hs h4 hU
  · refine go_if_eqN (rN σ.1) (q := 237) (t := 268) dL_law_234 (by decide) rfl rfl (by omega) (fun c_234 => ?_) (fun c_234 => ?_)
    · exact j268
    · refine go_aload_n (q := 238) dL_law_237 rfl rfl rfl ?_
      refine go_iload (q := 240) dL_law_238 rfl rfl ?_
      refine go_iconst (q := 241) (v := 3) dL_law_240 (by decide) rfl ?_
      refine go_idiv (q := 242) dL_law_241 (by decide) rfl ?_
      refine go_topi (show nI X / 3 = nI (X / 3) from pk_div (d := 3) hX (by decide) (by decide)) ?_
      refine go_iload (q := 244) dL_law_242 rfl rfl ?_
      refine go_irem (q := 245) dL_law_244 (nI_ne0 (n := rN σ.1) (by omega) (by omega)) rfl ?_
      refine go_topi (pk_rem (a := X / 3) (d := rN σ.1) (by omega) (by omega) (by omega)) ?_
      refine go_iload (q := 247) dL_law_245 rfl rfl ?_
      refine go_bipush (q := 249) (v := 60) dL_law_247 (by decide) rfl ?_
      refine go_idiv (q := 250) dL_law_249 (by decide) rfl ?_
      refine go_topi (show nI X / 60 = nI (X / 60) from pk_div (d := 60) hX (by decide) (by decide)) ?_
      refine go_iload (q := 252) dL_law_250 rfl rfl ?_
      refine go_irem (q := 253) dL_law_252 (nI_ne0 (n := rN σ.1) (by omega) (by omega)) rfl ?_
      refine go_topi (pk_rem (a := X / 60) (d := rN σ.1) (by omega) (by omega) (by omega)) ?_
      refine go_iload (q := 255) dL_law_253 rfl rfl ?_
      refine go_sipush (q := 258) (v := 1200) dL_law_255 (by decide) rfl ?_
      refine go_idiv (q := 259) dL_law_258 (by decide) rfl ?_
      refine go_topi (show nI X / 1200 = nI (X / 1200) from pk_div (d := 1200) hX (by decide) (by decide)) ?_
      refine go_iload (q := 261) dL_law_259 rfl rfl ?_
      refine go_irem (q := 262) dL_law_261 (nI_ne0 (n := rN σ.1) (by omega) (by omega)) rfl ?_
      refine go_topi (pk_rem (a := X / 1200) (d := rN σ.1) (by omega) (by omega) (by omega)) ?_
      refine go_cS4 (cal := mL_arePairs) (q := 265) dL_law_262 lRL_124 vL_arePairs ⟨by decide, by decide⟩ (Nat.le_of_ble_eq_true rfl) (ok_arePairs hC.1 hC.2.1 hC.2.2.2.2.2.2.1 hC.2.2.2.2.1 (Nat.mod_lt _ (by omega)) (Nat.mod_lt _ (by omega)) (Nat.mod_lt _ (by omega))) rfl ?_
      refine go_if_eq (q := 268) (t := 322) dL_law_265 (by decide) rfl (fun z => absurd z (by decide)) (fun _ => ?_)
      exact j268
theorem lw_loop {b L : Nat} {xs : Nat → Int32} (hL : L ≤ 260) : ∀ (d : Nat) (M : KM) (σ : ST) (n : Nat) (s : RO), 50 - n < d → n ≤ 50 → CI M σ → SI σ → σ.2.1 = some s → Go mL_law (lwz b L xs) M [some (Sum.inl (Value.ref b)), some (vR 0 0), some (vI 1), some (vJ (seenR s)), none, some (vI (nI (cn (rL s) (rN s)))), some (vI (nI n)), none, none, none, none, none, none, none, none, none, none, none] [] 76 := by
  intro d
  induction d with
  | zero => intro M σ n s hd; exact absurd hd (Nat.not_lt_zero _)
  | succ d ih0 =>
    intro M σ n s hd hn50 hC hS hs
    refine go_iload (q := 78) dL_law_76 rfl rfl ?_
    refine go_bipush (q := 80) (v := 50) dL_law_78 (by decide) rfl ?_
    refine go_icmp_geN n 50 (q := 83) (t := 473) dL_law_80 (by decide) rfl rfl rfl (by omega) (by omega) (fun c_80 => ?_) (fun c_80 => ?_)
    · refine go_iload_n (q := 474) dL_law_473 rfl rfl rfl ?_
      exact go_lret dL_law_474
    · refine go_iload_n (q := 84) dL_law_83 rfl rfl rfl ?_
      refine go_if_eq (q := 87) (t := 473) dL_law_84 (by decide) rfl (fun z => absurd z (by decide)) (fun _ => ?_)
      have hn : n < 50 := c_80
      have ih := fun M σ s h1 h2 h3 => ih0 M σ (n + 1) s (by omega) (by omega) h1 h2 h3
      refine go_aloadR (q := 88) dL_law_87 rfl rfl rfl ?_
      refine go_iload (q := 90) dL_law_88 rfl rfl ?_
      refine go_callX [Sum.inl (Value.ref b), vI (nI n)] lwz_X (cal := mL_cell) (q := 93) dL_law_90 lRL_112 vL_cell ⟨by decide, by decide⟩ rfl (Nat.le_of_ble_eq_true rfl) (ok_cell hL hn) rfl (fun r90 M90 h90 => ?_)
      obtain ⟨⟨X, hX, rfl⟩, rfl⟩ := h90
      refine go_istore (q := 95) dL_law_93 (by decide) rfl rfl ?_
      refine go_aload_n (q := 96) dL_law_95 rfl rfl rfl ?_
      refine go_cS1 (cal := mL_seen) (q := 99) dL_law_96 lRL_91 vL_seen ⟨by decide, by decide⟩ (Nat.le_of_ble_eq_true rfl) (ok_seen hC.1 hC.2.1 hC.2.2.2.2.2.2.1 hC.2.2.2.2.1) rfl ?_
      refine go_lstore (q := 101) dL_law_99 (by decide) rfl rfl ?_
      refine go_aload_n (q := 102) dL_law_101 rfl rfl rfl ?_
      refine go_bipush (q := 104) (v := 11) dL_law_102 (by decide) rfl ?_
      refine go_cV1 (cal := mX9_count) (q := 107) dL_law_104 lRL_14 vX9_count ⟨by decide, by decide⟩ rfl (by decide) (Nat.le_of_ble_eq_true rfl) (ok_count hC.1 hC.2.1 hC.2.2.2.2.2.2.1 hC.2.2.2.2.1 _) rfl ?_
      refine go_topi (aN11) ?_
      refine go_istore (q := 109) dL_law_107 (by decide) rfl rfl ?_
      refine go_aload_n (q := 110) dL_law_109 rfl rfl rfl ?_
      refine go_bipush (q := 112) (v := 9) dL_law_110 (by decide) rfl ?_
      refine go_cV1 (cal := mX9_count) (q := 115) dL_law_112 lRL_14 vX9_count ⟨by decide, by decide⟩ rfl (by decide) (Nat.le_of_ble_eq_true rfl) (ok_count hC.1 hC.2.1 hC.2.2.2.2.2.2.1 hC.2.2.2.2.1 _) rfl ?_
      refine go_topi (aN9) ?_
      refine go_istore (q := 117) dL_law_115 (by decide) rfl rfl ?_
      refine go_aload_n (q := 118) dL_law_117 rfl rfl rfl ?_
      refine go_iload (q := 120) dL_law_118 rfl rfl ?_
      refine go_callS [vR 0 0, vI (nI X)] (cal := mL_act) (q := 123) dL_law_120 lRL_116 vL_act ⟨by decide, by decide⟩ rfl (Nat.le_of_ble_eq_true rfl) (ok_act hC hX) rfl (fun r120 M120 h120 => ?_)
      obtain ⟨rfl, hC1, -⟩ := h120
      have hd := dOK_act hC.2.1 hS.1 X
      have h4 := CI_h4 hC
      by_cases hneg : (actD σ.1 X).1 < 0
      · have e1 : sDeed2 σ (actD σ.1 X) = σ := if_pos hneg
        rw [e1] at hC1
        refine go_istore (q := 125) dL_law_123 (by decide) rfl rfl ?_
        refine go_aload_n (q := 126) dL_law_125 rfl rfl rfl ?_
        refine go_bipush (q := 128) (v := 11) dL_law_126 (by decide) rfl ?_
        refine go_cV1 (cal := mX9_count) (q := 131) dL_law_128 lRL_14 vX9_count ⟨by decide, by decide⟩ rfl (by decide) (Nat.le_of_ble_eq_true rfl) (ok_count hC1.1 hC1.2.1 hC1.2.2.2.2.2.2.1 hC1.2.2.2.2.1 _) rfl ?_
        refine go_topi aN11 ?_
        refine go_istore (q := 133) dL_law_131 (by decide) rfl rfl ?_
        refine go_iload (q := 135) dL_law_133 rfl rfl ?_
        refine go_bipush (q := 137) (v := (-9)) dL_law_135 (by decide) rfl ?_
        refine go_icmp_eq (q := 140) (t := 219) dL_law_137 (by decide) rfl (fun z => absurd z hd.2.2.1) (fun _ => ?_)
        refine go_iload (q := 142) dL_law_140 rfl rfl ?_
        refine go_if_ge (q := 145) (t := 165) dL_law_142 (by decide) rfl (fun z => absurd z (Int32.not_le.mpr hneg)) (fun _ => ?_)
        refine go_iload (q := 147) dL_law_145 rfl rfl ?_
        refine go_iload (q := 149) dL_law_147 rfl rfl ?_
        refine go_icmp_ne (q := 152) (t := 219) dL_law_149 (by decide) rfl (fun z => absurd z (nn rfl)) (fun _ => ?_)
        refine go_aload_n (q := 153) dL_law_152 rfl rfl rfl ?_
        refine go_cS1 (cal := mL_seen) (q := 156) dL_law_153 lRL_91 vL_seen ⟨by decide, by decide⟩ (Nat.le_of_ble_eq_true rfl) (ok_seen hC1.1 hC1.2.1 hC1.2.2.2.2.2.2.1 hC1.2.2.2.2.1) rfl ?_
        refine go_lload (q := 158) dL_law_156 rfl rfl ?_
        refine go_lcmp (q := 159) dL_law_158 rfl ?_
        refine go_topi (lg_cmp_self _) ?_
        refine go_if_ne (q := 162) (t := 219) dL_law_159 (by decide) rfl (fun z => absurd z (nn rfl)) (fun _ => ?_)
        refine go_goto (q := 208) dL_law_162 (by decide) ?_
        exact lw_b hL hn ih hX hC1 hS hs h4 (fun z => absurd hneg z)
      · have e1 : sDeed2 σ (actD σ.1 X) = sKeep ((actD σ.1 X).2, σ.2) σ.1 := if_neg hneg
        rw [e1] at hC1
        have hS1 : SI (sKeep ((actD σ.1 X).2, σ.2) σ.1) := SI_keep hS hd.2.1 h4
        have hR1 : RA _ 0 (actD σ.1 X).2 := hC1.1
        have hW1 : rW (actD σ.1 X).2 := hC1.2.1
        have hh : (sKeep ((actD σ.1 X).2, σ.2) σ.1).2.2.1.1 = (if σ.2.2.1.1 < 4 then σ.2.2.1.1 + 1 else 4) := hKeep_1 _ _ _ h4
        refine go_istore (q := 125) dL_law_123 (by decide) rfl rfl ?_
        refine go_aload_n (q := 126) dL_law_125 rfl rfl rfl ?_
        refine go_bipush (q := 128) (v := 11) dL_law_126 (by decide) rfl ?_
        refine go_cV1 (cal := mX9_count) (q := 131) dL_law_128 lRL_14 vX9_count ⟨by decide, by decide⟩ rfl (by decide) (Nat.le_of_ble_eq_true rfl) (ok_count hR1 hW1 hC1.2.2.2.2.2.2.1 hC1.2.2.2.2.1 _) rfl ?_
        refine go_topi (aN11.trans (congrArg nI hh)) ?_
        refine go_istore (q := 133) dL_law_131 (by decide) rfl rfl ?_
        refine go_iload (q := 135) dL_law_133 rfl rfl ?_
        refine go_bipush (q := 137) (v := (-9)) dL_law_135 (by decide) rfl ?_
        refine go_icmp_eq (q := 140) (t := 219) dL_law_137 (by decide) rfl (fun z => absurd z hd.2.2.1) (fun _ => ?_)
        refine go_iload (q := 142) dL_law_140 rfl rfl ?_
        refine go_if_ge (q := 145) (t := 165) dL_law_142 (by decide) rfl (fun _ => ?_) (fun z => absurd (Int32.not_lt.mp hneg) z)
        refine go_iload (q := 167) dL_law_165 rfl rfl ?_
        refine go_iload (q := 169) dL_law_167 rfl rfl ?_
        refine go_iconst (q := 170) (v := 4) dL_law_169 (by decide) rfl ?_
        refine go_join2 (J := 181) (v := nI (if σ.2.2.1.1 < 4 then σ.2.2.1.1 + 1 else 4)) ?_ (fun j181 => ?_)
        · refine go_icmp_ne (q := 184) (t := 219) dL_law_181 (by decide) rfl (fun z => absurd z (nn rfl)) (fun _ => ?_)
          refine go_aload_n (q := 185) dL_law_184 rfl rfl rfl ?_
          refine go_bipush (q := 187) (v := 9) dL_law_185 (by decide) rfl ?_
          refine go_cV1 (cal := mX9_count) (q := 190) dL_law_187 lRL_14 vX9_count ⟨by decide, by decide⟩ rfl (by decide) (Nat.le_of_ble_eq_true rfl) (ok_count hR1 hW1 hC1.2.2.2.2.2.2.1 hC1.2.2.2.2.1 _) rfl ?_
          refine go_topi aN9 ?_
          refine go_iload (q := 192) dL_law_190 rfl rfl ?_
          refine go_iload (q := 194) dL_law_192 rfl rfl ?_
          refine go_bipush (q := 196) (v := 10) dL_law_194 (by decide) rfl ?_
          refine go_join2 (J := 204) (v := nI (if (actD σ.1 X).1 < 10 then 1 else 0)) ?_ (fun j204 => ?_)
          · refine go_iadd (q := 205) dL_law_204 rfl ?_
            refine go_topi (nI_add _ _) ?_
            refine go_icmp_ne (q := 208) (t := 219) dL_law_205 (by decide) rfl (fun z => absurd z (nn (congrArg nI (hd.2.2.2.2 hneg)))) (fun _ => ?_)
            exact lw_b hL hn ih hX hC1 hS1 hs h4 (fun _ => by
              obtain ⟨τ, t1, t2, t3, t4⟩ := SI_back (R := (actD σ.1 X).2) hS h4
              exact ⟨τ, t1, t2, t3, t4.trans hs⟩)
          · refine go_icmp_ge (q := 199) (t := 203) dL_law_196 (by decide) rfl (fun c_196 => ?_) (fun c_196 => ?_)
            · refine go_iconst (q := 204) (v := 0) dL_law_203 (by decide) rfl ?_
              exact j204 _ (by rw [if_neg (Int32.not_lt.mpr c_196)]; rfl)
            · refine go_iconst (q := 200) (v := 1) dL_law_199 (by decide) rfl ?_
              refine go_goto (q := 204) dL_law_200 (by decide) ?_
              exact j204 _ (by rw [if_pos (Int32.not_le.mp c_196)]; rfl)
        · refine go_icmp_geN σ.2.2.1.1 4 (q := 173) (t := 180) dL_law_170 (by decide) rfl rfl rfl (by omega) (by decide) (fun c_170 => ?_) (fun c_170 => ?_)
          · refine go_iconst (q := 181) (v := 4) dL_law_180 (by decide) rfl ?_
            exact j181 _ (by rw [if_neg (by omega)]; rfl)
          · refine go_iload (q := 175) dL_law_173 rfl rfl ?_
            refine go_iconst (q := 176) (v := 1) dL_law_175 (by decide) rfl ?_
            refine go_iadd (q := 177) dL_law_176 rfl ?_
            refine go_goto (q := 181) dL_law_177 (by decide) ?_
            exact j181 _ (by rw [if_pos c_170]; exact nI_add _ 1)
theorem lw_start {b L : Nat} {xs : Nat → Int32} (hL : L ≤ 260) : Go mL_law (lwz b L xs) M0 [some (Sum.inl (Value.ref b)), some (vR 0 0), none, none, none, none, none, none, none, none, none, none, none, none, none, none, none, none] [] 8 := by
  have hC := CI_0
  refine go_aload_n (q := 9) dL_law_8 rfl rfl rfl ?_
  refine go_callV [] (cal := mX9_undo) (q := 12) dL_law_9 lRL_100 vX9_undo ⟨by decide, by decide⟩ rfl rfl (by decide) (Nat.le_of_ble_eq_true rfl) (ok_undo hC) rfl (fun r9 M9 h9 => ?_)
  obtain ⟨rfl, hC1, -⟩ := h9
  replace hC : CI M9 S0 := hC1
  refine go_bipush (q := 14) (v := (-2)) dL_law_12 (by decide) rfl ?_
  refine go_icmp_ne (q := 17) (t := 63) dL_law_14 (by decide) rfl (fun z => absurd z (nn rfl)) (fun _ => ?_)
  refine go_aload_n (q := 18) dL_law_17 rfl rfl rfl ?_
  refine go_callV [] (cal := mX9_restore) (q := 21) dL_law_18 lRL_103 vX9_restore ⟨by decide, by decide⟩ rfl rfl (by decide) (Nat.le_of_ble_eq_true rfl) (ok_restore hC) rfl (fun r18 M18 h18 => ?_)
  obtain ⟨rfl, hC1, -⟩ := h18
  replace hC : CI M18 S0 := hC1
  refine go_bipush (q := 23) (v := (-2)) dL_law_21 (by decide) rfl ?_
  refine go_icmp_ne (q := 26) (t := 63) dL_law_23 (by decide) rfl (fun z => absurd z (nn rfl)) (fun _ => ?_)
  refine go_aload_n (q := 27) dL_law_26 rfl rfl rfl ?_
  refine go_iconst (q := 28) (v := 0) dL_law_27 (by decide) rfl ?_
  refine go_cV1 (cal := mX9_why) (q := 31) dL_law_28 lRL_75 vX9_why ⟨by decide, by decide⟩ rfl (by decide) (Nat.le_of_ble_eq_true rfl) (ok_why hC _) rfl ?_
  refine go_topi (show aWhy S0.2.2.2.2 0 = -4 from rfl) ?_
  refine go_bipush (q := 33) (v := (-4)) dL_law_31 (by decide) rfl ?_
  refine go_icmp_ne (q := 36) (t := 63) dL_law_33 (by decide) rfl (fun z => absurd z (nn rfl)) (fun _ => ?_)
  refine go_aload_n (q := 37) dL_law_36 rfl rfl rfl ?_
  refine go_iconst (q := 38) (v := 0) dL_law_37 (by decide) rfl ?_
  refine go_callS [vR 0 0, vI 0] (cal := mL_refuses) (q := 41) dL_law_38 lRL_106 vL_refuses ⟨by decide, by decide⟩ rfl (Nat.le_of_ble_eq_true rfl) (ok_refuses hC rfl (X := 0) (by decide)) rfl (fun r38 M38 h38 => ?_)
  obtain ⟨rfl, hC1, -⟩ := h38
  replace hC := hC1
  refine go_if_eq (q := 44) (t := 63) dL_law_41 (by decide) rfl (fun z => absurd z (by decide)) (fun _ => ?_)
  refine go_aload_n (q := 45) dL_law_44 rfl rfl rfl ?_
  refine go_iconst (q := 46) (v := 1) dL_law_45 (by decide) rfl ?_
  refine go_callS [vR 0 0, vI 1] (cal := mL_refuses) (q := 49) dL_law_46 lRL_106 vL_refuses ⟨by decide, by decide⟩ rfl (Nat.le_of_ble_eq_true rfl) (ok_refuses hC rfl (X := 1) (by decide)) rfl (fun r46 M46 h46 => ?_)
  obtain ⟨rfl, hC1, -⟩ := h46
  replace hC := hC1
  refine go_if_eq (q := 52) (t := 63) dL_law_49 (by decide) rfl (fun z => absurd z (by decide)) (fun _ => ?_)
  refine go_aload_n (q := 53) dL_law_52 rfl rfl rfl ?_
  refine go_callV [] (cal := mX9_save) (q := 56) dL_law_53 lRL_109 vX9_save ⟨by decide, by decide⟩ rfl rfl (by decide) (Nat.le_of_ble_eq_true rfl) (ok_save hC) rfl (fun r53 M53 h53 => ?_)
  obtain ⟨rfl, hC1, -⟩ := h53
  replace hC := hC1
  refine go_if_ne (q := 59) (t := 63) dL_law_56 (by decide) rfl (fun z => absurd z (nn rfl)) (fun _ => ?_)
  refine go_iconst (q := 60) (v := 1) dL_law_59 (by decide) rfl ?_
  refine go_goto (q := 64) dL_law_60 (by decide) ?_
  refine go_istore_n (q := 65) dL_law_64 rfl (by decide) rfl rfl ?_
  refine go_aload_n (q := 66) dL_law_65 rfl rfl rfl ?_
  refine go_cS1 (cal := mL_seen) (q := 69) dL_law_66 lRL_91 vL_seen ⟨by decide, by decide⟩ (Nat.le_of_ble_eq_true rfl) (ok_seen hC.1 hC.2.1 hC.2.2.2.2.2.2.1 hC.2.2.2.2.1) rfl ?_
  refine go_lstore_n (q := 70) dL_law_69 rfl (by decide) rfl rfl ?_
  refine go_iconst (q := 71) (v := 0) dL_law_70 (by decide) rfl ?_
  refine go_istore (q := 73) dL_law_71 (by decide) rfl rfl ?_
  refine go_iconst (q := 74) (v := 0) dL_law_73 (by decide) rfl ?_
  refine go_istore (q := 76) dL_law_74 (by decide) rfl rfl ?_
  exact lw_loop hL 51 _ _ 0 R0 (by omega) (by omega) hC (SI_save SI_0) rfl
