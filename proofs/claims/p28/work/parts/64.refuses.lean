/-! ===== the law's methods: refusesAny, refuses ===== -/
theorem sD_err {σ : ST} {x : Int32} {R : RO} (h : x < 0) : sDeed2 σ (x, R) = σ := if_pos h
theorem df_no {R : RO} {x : Int32} (h : pOf 15625 x = none) : dFound R x = (-1, R) := by unfold dFound; rw [h]
theorem db_no1 {R : RO} {x y z : Int32} (h : pOf (rN R) x = none) : dBear R x y z = (-1, R) := by unfold dBear; rw [h]
theorem db_no2 {R : RO} {x y z : Int32} (h : pOf 6 y = none) : dBear R x y z = (-1, R) := by
  unfold dBear
  rw [h]
  cases pOf (rN R) x <;> rfl
theorem db_no3 {R : RO} {x y z : Int32} (h : pOf 5 z = none) : dBear R x y z = (-1, R) := by
  unfold dBear
  rw [h]
  cases pOf (rN R) x <;> cases pOf 6 y <;> rfl
theorem dd_no {R : RO} {x : Int32} (h : pOf (rN R) x = none) : dDie R x = (-1, R) := by unfold dDie; rw [h]
theorem dh_no {R : RO} {x : Int32} (h : pOf (rN R) x = none) : dHeir R x = (-1, R) := by unfold dHeir; rw [h]
theorem df_full {R : RO} (h : 20 ≤ rN R) : dFound R 5 = (-3, R) := by
  unfold dFound
  rw [show pOf 15625 (5 : Int32) = some 5 from pOf_nI (n := 15625) (p := 5) (by decide) (by decide)]
  show (if 20 ≤ rN R then (-3, R) else _) = _
  rw [if_pos h]
theorem pOf_0 {n : Nat} (h : 0 < n) (hn : n < 2 ^ 31) : pOf n 0 = some 0 := pOf_nI (p := 0) h hn
theorem db_full {R : RO} (hW : rW R) (h : 20 ≤ rN R) : dBear R 0 0 0 = (-3, R) := by
  have hn := hW.1
  unfold dBear
  rw [pOf_0 (n := rN R) (by omega) (by omega), pOf_0 (n := 6) (by decide) (by decide), pOf_0 (n := 5) (by decide) (by decide)]
  show (if 20 ≤ rN R then (-3, R) else _) = _
  rw [if_pos h]
theorem dh_dead {R : RO} (hW : rW R) (h0 : 0 < rN R) (hl : rL R 0 = false) : dHeir R 0 = (-2, R) := by
  have hn := hW.1
  unfold dHeir
  rw [pOf_0 h0 (by omega)]
  show (if rL R 0 = false then (-2, R) else _) = _
  rw [if_pos hl]
theorem rf_found {M : KM} {σ : ST} {x v : Int32} (hC : CI M σ) (hv : v < 0) (h : dFound σ.1 x = (v, σ.1)) : Ok mX9_found [vR 0 0, vI x] M (QC M v σ) := by
  have := ok_found hC x
  rw [h, sD_err hv] at this
  exact this
theorem rf_bear {M : KM} {σ : ST} {x y z v : Int32} (hC : CI M σ) (hv : v < 0) (h : dBear σ.1 x y z = (v, σ.1)) : Ok mX9_bear [vR 0 0, vI x, vI y, vI z] M (QC M v σ) := by
  have := ok_bear hC x y z
  rw [h, sD_err hv] at this
  exact this
theorem rf_die {M : KM} {σ : ST} {x v : Int32} (hC : CI M σ) (hv : v < 0) (h : dDie σ.1 x = (v, σ.1)) : Ok mX9_die [vR 0 0, vI x] M (QC M v σ) := by
  have := ok_die hC x
  rw [h, sD_err hv] at this
  exact this
theorem rf_inherit {M : KM} {σ : ST} {x v : Int32} (hC : CI M σ) (hv : v < 0) (h : dHeir σ.1 x = (v, σ.1)) : Ok mX9_inherit [vR 0 0, vI x] M (QC M v σ) := by
  have := ok_inherit hC x
  rw [h, sD_err hv] at this
  exact this
/-- a call that changes the memory alone: of ifDead, of line -/
theorem CI_r2 {M M' : KM} {σ : ST} (h : CI M σ) (hk : kRoll 2 M M') : CI M' σ := CI_roll h hk (by decide) (by decide) (HA_not0 h.2.2.2.2.1 (by decide))
theorem rf_ifDead {M : KM} {σ : ST} {x w v : Int32} (hC : CI M σ) (h : aIfDead σ.1 x w = v) : Ok mX9_ifDead [vR 0 0, vI x, vI w] M (QC M v σ) := by
  intro l G
  refine MetFree.mono (ok_ifDead hC.1 hC.2.1 x w l G) (fun _ _ hp => hp) (fun _ _ _ _ _ _ => trivial) (fun a s o t _ hz => ⟨?_, hz.2⟩)
  obtain ⟨⟨⟨r, M', ⟨h1, h2⟩, h3, h4⟩, h5⟩, -⟩ := hz
  exact ⟨⟨r, M', ⟨by rw [h1, h], CI_r2 hC h2, h2.fc⟩, h3, h4⟩, h5⟩
theorem rf_line {M : KM} {σ : ST} {x y w v : Int32} (hC : CI M σ) (h : ∀ u, LnC σ.1 x y w u → u = v) : Ok mX9_line [vR 0 0, vI x, vI y, vI w] M (QC M v σ) := by
  intro l G
  refine MetFree.mono (ok_line hC.1 hC.2.1 (CI_qq hC) x y w l G) (fun _ _ hp => hp) (fun _ _ _ _ _ _ => trivial) (fun a s o t _ hz => ⟨?_, hz.2⟩)
  obtain ⟨⟨⟨r, M', ⟨u, h1, h2, h3, h4⟩, h5, h6⟩, h7⟩, -⟩ := hz
  obtain ⟨h8, h9⟩ := CI_line hC h4 h3
  exact ⟨⟨r, M', ⟨by rw [h1, h u h2], h8, h9⟩, h5, h6⟩, h7⟩
theorem ln_no {R : RO} {x y w u : Int32} (h : pOf (rN R) x = none ∨ pOf 15625 y = none ∨ pOf 2 w = none) (hu : LnC R x y w u) : u = -1 := by
  unfold LnC at hu
  rcases h with h | h | h
  · rw [h] at hu; exact hu
  · rw [h] at hu
    revert hu
    cases pOf (rN R) x <;> exact id
  · rw [h] at hu
    revert hu
    cases pOf (rN R) x <;> cases pOf 15625 y <;> exact id
theorem ln_dead0 {R : RO} {u : Int32} (hW : rW R) (h0 : 0 < rN R) (hl : rL R 0 = false) (hu : LnC R 0 5 0 u) : u = -2 := ln_dead (p := 0) (s := 5) hW h0 (by decide) hu hl
theorem sPad_0 {σ : ST} (h : padN σ = 0) : sPad σ 0 (padC σ) = σ := by
  obtain ⟨a, b, c, ⟨n, d⟩, e⟩ := σ
  have h : n = 0 := h
  subst h
  rfl
theorem rf_clear {M : KM} {σ : ST} (hC : CI M σ) (h : padN σ = 0) : Ok mX9_clear [vR 0 0] M (QC M 0 σ) := by
  have := ok_clear hC
  rw [sPad_0 h, h] at this
  exact this
theorem pf_0 (c : Nat → Nat) : pfault 0 c = some 0 := rfl
theorem rf_enrol {M : KM} {σ : ST} (hC : CI M σ) (h : padN σ = 0) : Ok mX9_enrol [vR 0 0] M (QC M (-2) σ) := by
  have := ok_enrol hC
  unfold aEnrol at this
  rw [h, pf_0] at this
  exact this
theorem rf_fault {M : KM} {σ : ST} (hC : CI M σ) (h : padN σ = 0) : OkF mX9_fault [vR 0 0] M (some (vI 0)) M := by
  have := ok_fault hC
  rw [h, pf_0] at this
  exact this
theorem rf_append {M : KM} {σ : ST} {x : Int32} (hC : CI M σ) (h : sgn x = none) : Ok mX9_append [vR 0 0, vI x] M (QC M (-1) σ) := by
  have := ok_append hC x
  unfold aAppend at this
  rw [h] at this
  exact this
/-- the wrong numbers -/
def nv (X b : Nat) : Int32 := if X % 2 = 0 then -1 - nI (X % 99) else nI (b + X % 99)
def pv (X : Nat) (a : Int32) : Int32 := if X % 2 = 0 then -1 else a
def av (X : Nat) : Int32 := if X % 2 = 0 then 32 else 127
theorem nv_neg : ∀ k, k < 99 → ((-1 : Int32) - nI k).toInt < 0 := by decide +kernel
theorem nv_no {X b : Nat} (hb : b ≤ 15625) : pOf b (nv X b) = none := by
  unfold nv
  split
  · exact pOf_out (Or.inl (nv_neg _ (Nat.mod_lt _ (by decide))))
  · exact pOf_big (by omega) (by omega)
theorem pv_12 (X : Nat) : pOf 12 (pv X 12) = none := by unfold pv; split <;> decide +kernel
theorem pv_2 (X : Nat) : pOf 2 (pv X 2) = none := by unfold pv; split <;> decide +kernel
theorem pv_3 (X : Nat) : pOf 3 (pv X 3) = none := by unfold pv; split <;> decide +kernel
theorem av_no (X : Nat) : sgn (av X) = none := by unfold av; split <;> decide +kernel
theorem aP_no1 {R : RO} {x w : Int32} (h : pOf (rN R) x = none) : aPerson R x w = -1 := by unfold aPerson; rw [h]
theorem aP_no2 {R : RO} {x w : Int32} (h : pOf 12 w = none) : aPerson R x w = -1 := by
  unfold aPerson
  rw [h]
  cases pOf (rN R) x <;> rfl
theorem aMk_no1 {R : RO} {x y : Int32} (h : pOf (rN R) x = none) : aMark R x y = -1 := by unfold aMark; rw [h]
theorem aMk_no2 {R : RO} {x y : Int32} (h : pOf 6 y = none) : aMark R x y = -1 := by
  unfold aMark
  rw [h]
  cases pOf (rN R) x <;> rfl
theorem aWn_no1 {R : RO} {x y z : Int32} (h : pOf (rN R) x = none) : aWhyNot R x y z = -1 := by unfold aWhyNot; rw [h]
theorem aWn_no2 {R : RO} {x y z : Int32} (h : pOf 6 y = none) : aWhyNot R x y z = -1 := by
  unfold aWhyNot
  rw [h]
  cases pOf (rN R) x <;> rfl
theorem aWn_no3 {R : RO} {x y z : Int32} (h : pOf 5 z = none) : aWhyNot R x y z = -1 := by
  unfold aWhyNot
  rw [h]
  cases pOf (rN R) x <;> cases pOf 6 y <;> rfl
theorem aCh_no1 {R : RO} {x y : Int32} (h : pOf (rN R) x = none) : aChoices R x y = -1 := by unfold aChoices; rw [h]
theorem aCh_no2 {R : RO} {x y : Int32} (h : pOf 2 y = none) : aChoices R x y = -1 := by
  unfold aChoices
  rw [h]
  cases pOf (rN R) x <;> rfl
theorem aBs_no {R : RO} {x : Int32} (h : pOf (rN R) x = none) : aBest R x = -1 := by unfold aBest; rw [h]
theorem aDf_no2 {R : RO} {x y : Int32} (h : pOf (rN R) y = none) : aDiffers R x y = -1 := by
  unfold aDiffers
  rw [h]
  cases pOf (rN R) x <;> rfl
theorem aKn_no1 {R : RO} {x y : Int32} (h : pOf (rN R) x = none) : aKin R x y = -1 := by unfold aKin; rw [h]
theorem aBr_no {R : RO} {x : Int32} (h : pOf 15625 x = none) : aBearer R x = -1 := by unfold aBearer; rw [h]
theorem aBo_no1 {R : RO} {x y : Int32} (h : pOf 6 x = none) : aBorne R x y = -1 := by unfold aBorne; rw [h]
theorem aBo_no2 {R : RO} {x y : Int32} (h : pOf 5 y = none) : aBorne R x y = -1 := by
  unfold aBorne
  rw [h]
  cases pOf 6 x <;> rfl
theorem aN_no {R : RO} {p h : Nat} {w : Int32} (hw : pOf 12 w = none) : aCount R p h w = -1 := by unfold aCount; rw [hw]
theorem aI_no1 {R : RO} {x y : Int32} (h : pOf (rN R) x = none) : aIfDead R x y = -1 := by unfold aIfDead; rw [h]
theorem aI_no2 {R : RO} {x y : Int32} (h : pOf 3 y = none) : aIfDead R x y = -1 := by
  unfold aIfDead
  rw [h]
  cases pOf (rN R) x <;> rfl
theorem aI_dead {R : RO} (hW : rW R) (h0 : 0 < rN R) (hl : rL R 0 = false) : aIfDead R 0 0 = -2 := by
  have hn := hW.1
  unfold aIfDead
  rw [pOf_0 h0 (by omega), pOf_0 (n := 3) (by decide) (by decide)]
  show (if rL R 0 = false then -2 else _) = _
  rw [if_pos hl]
theorem aWy_no {w : WT} {x : Int32} (h : pOf 3 x = none) : aWhy w x = -1 := by unfold aWhy; rw [h]
theorem lg_cmp_self (x : Int64) : lg_cmp x x = 0 := by
  unfold lg_cmp
  rw [if_neg (by rw [gt_iff_lt, Int64.lt_iff_toInt_lt]; omega), if_pos rfl]
theorem rf_6 {M0 : KM} {σ : ST} (hpad : padN σ = 0) {X : Nat} (hX : X < 2 ^ 31) {no sh pl mk0 : Int32} (hno : pOf (rN σ.1) no = none) (hsh : pOf 15625 sh = none) (hpl : pOf 6 pl = none) (hmk : pOf 5 mk0 = none) {M : KM} (hF : fc M0 M) (hC : CI M σ) : Go mL_refusesAny (Zm (QC M0 1 σ)) M [some (vR 0 0), some (vI (nI X)), some (vI no), some (vI sh), some (vI pl), some (vI mk0), some (vI (bI (decide (0 < rN σ.1)))), some (vI 1)] [] 603 := by
  refine go_iload (q := 605) dL_refusesAny_603 rfl rfl ?_
  refine go_if_eq (q := 608) (t := 635) dL_refusesAny_605 (by decide) rfl (fun z => absurd z (by decide)) (fun _ => ?_)
  refine go_aload_n (q := 609) dL_refusesAny_608 rfl rfl rfl ?_
  refine go_callV [] (cal := mX9_clear) (q := 612) dL_refusesAny_609 lRL_81 vX9_clear ⟨by decide, by decide⟩ rfl rfl (by decide) (Nat.le_of_ble_eq_true rfl) (rf_clear hC hpad) rfl (fun r609 M609 h609 => ?_)
  obtain ⟨rfl, hC1, hf1⟩ := h609
  replace hF := hF.tr hf1
  replace hC := hC1
  refine go_if_ne (q := 615) (t := 635) dL_refusesAny_612 (by decide) rfl (fun z => absurd z (nn rfl)) (fun _ => ?_)
  refine go_aload_n (q := 616) dL_refusesAny_615 rfl rfl rfl ?_
  refine go_callV [] (cal := mX9_enrol) (q := 619) dL_refusesAny_616 lRL_85 vX9_enrol ⟨by decide, by decide⟩ rfl rfl (by decide) (Nat.le_of_ble_eq_true rfl) (rf_enrol hC hpad) rfl (fun r616 M616 h616 => ?_)
  obtain ⟨rfl, hC1, hf1⟩ := h616
  replace hF := hF.tr hf1
  replace hC := hC1
  refine go_bipush (q := 621) (v := (-2)) dL_refusesAny_619 (by decide) rfl ?_
  refine go_icmp_ne (q := 624) (t := 635) dL_refusesAny_621 (by decide) rfl (fun z => absurd z (nn rfl)) (fun _ => ?_)
  refine go_aload_n (q := 625) dL_refusesAny_624 rfl rfl rfl ?_
  refine go_cV0 (cal := mX9_fault) (q := 628) dL_refusesAny_625 lRL_88 vX9_fault ⟨by decide, by decide⟩ rfl (by decide) (Nat.le_of_ble_eq_true rfl) (rf_fault hC hpad) rfl ?_
  refine go_if_ne (q := 631) (t := 635) dL_refusesAny_628 (by decide) rfl (fun z => absurd z (nn rfl)) (fun _ => ?_)
  refine go_iconst (q := 632) (v := 1) dL_refusesAny_631 (by decide) rfl ?_
  refine go_goto (q := 636) dL_refusesAny_632 (by decide) ?_
  exact go_iretz dL_refusesAny_636 rfl (by decide) ⟨rfl, hC, hF⟩
theorem rf_5 {M0 : KM} {σ : ST} (hpad : padN σ = 0) {X : Nat} (hX : X < 2 ^ 31) {no sh pl mk0 : Int32} (hno : pOf (rN σ.1) no = none) (hsh : pOf 15625 sh = none) (hpl : pOf 6 pl = none) (hmk : pOf 5 mk0 = none) {M : KM} (hF : fc M0 M) (hC : CI M σ) {l7 : Option KV} : Go mL_refusesAny (Zm (QC M0 1 σ)) M [some (vR 0 0), some (vI (nI X)), some (vI no), some (vI sh), some (vI pl), some (vI mk0), some (vI (bI (decide (0 < rN σ.1)))), l7] [] 444 := by
  refine go_aload_n (q := 445) dL_refusesAny_444 rfl rfl rfl ?_
  refine go_iload_n (q := 446) dL_refusesAny_445 rfl rfl rfl ?_
  refine go_iconst (q := 447) (v := 0) dL_refusesAny_446 (by decide) rfl ?_
  refine go_cV2 (cal := mX9_mark) (q := 450) dL_refusesAny_447 lRL_48 vX9_mark ⟨by decide, by decide⟩ rfl (by decide) (Nat.le_of_ble_eq_true rfl) (ok_mark hC.1 hC.2.1 _ _) rfl ?_
  refine go_topi (aMk_no1 hno) ?_
  refine go_iconst (q := 451) (v := (-1)) dL_refusesAny_450 (by decide) rfl ?_
  refine go_icmp_ne (q := 454) (t := 600) dL_refusesAny_451 (by decide) rfl (fun z => absurd z (nn rfl)) (fun _ => ?_)
  refine go_aload_n (q := 455) dL_refusesAny_454 rfl rfl rfl ?_
  refine go_iload_n (q := 456) dL_refusesAny_455 rfl rfl rfl ?_
  refine go_iconst (q := 457) (v := 0) dL_refusesAny_456 (by decide) rfl ?_
  refine go_iconst (q := 458) (v := 0) dL_refusesAny_457 (by decide) rfl ?_
  refine go_cV3 (cal := mX9_whyNot) (q := 461) dL_refusesAny_458 lRL_63 vX9_whyNot ⟨by decide, by decide⟩ rfl (by decide) (Nat.le_of_ble_eq_true rfl) (ok_whyNot hC.1 hC.2.1 _ _ _) rfl ?_
  refine go_topi (aWn_no1 hno) ?_
  refine go_iconst (q := 462) (v := (-1)) dL_refusesAny_461 (by decide) rfl ?_
  refine go_icmp_ne (q := 465) (t := 600) dL_refusesAny_462 (by decide) rfl (fun z => absurd z (nn rfl)) (fun _ => ?_)
  refine go_aload_n (q := 466) dL_refusesAny_465 rfl rfl rfl ?_
  refine go_iload_n (q := 467) dL_refusesAny_466 rfl rfl rfl ?_
  refine go_iconst (q := 468) (v := 0) dL_refusesAny_467 (by decide) rfl ?_
  refine go_cV2 (cal := mX9_choices) (q := 471) dL_refusesAny_468 lRL_66 vX9_choices ⟨by decide, by decide⟩ rfl (by decide) (Nat.le_of_ble_eq_true rfl) (ok_choices hC.1 hC.2.1 _ _) rfl ?_
  refine go_topi (aCh_no1 hno) ?_
  refine go_iconst (q := 472) (v := (-1)) dL_refusesAny_471 (by decide) rfl ?_
  refine go_icmp_ne (q := 475) (t := 600) dL_refusesAny_472 (by decide) rfl (fun z => absurd z (nn rfl)) (fun _ => ?_)
  refine go_aload_n (q := 476) dL_refusesAny_475 rfl rfl rfl ?_
  refine go_iload_n (q := 477) dL_refusesAny_476 rfl rfl rfl ?_
  refine go_cV1 (cal := mX9_best) (q := 480) dL_refusesAny_477 lRL_72 vX9_best ⟨by decide, by decide⟩ rfl (by decide) (Nat.le_of_ble_eq_true rfl) (ok_best hC.1 hC.2.1 _) rfl ?_
  refine go_topi (aBs_no hno) ?_
  refine go_iconst (q := 481) (v := (-1)) dL_refusesAny_480 (by decide) rfl ?_
  refine go_icmp_ne (q := 484) (t := 600) dL_refusesAny_481 (by decide) rfl (fun z => absurd z (nn rfl)) (fun _ => ?_)
  refine go_aload_n (q := 485) dL_refusesAny_484 rfl rfl rfl ?_
  refine go_iload_n (q := 486) dL_refusesAny_485 rfl rfl rfl ?_
  refine go_cV1 (cal := mX9_bearer) (q := 489) dL_refusesAny_486 lRL_26 vX9_bearer ⟨by decide, by decide⟩ rfl (by decide) (Nat.le_of_ble_eq_true rfl) (ok_bearer hC.1 hC.2.1 _) rfl ?_
  refine go_topi (aBr_no hsh) ?_
  refine go_iconst (q := 490) (v := (-1)) dL_refusesAny_489 (by decide) rfl ?_
  refine go_icmp_ne (q := 493) (t := 600) dL_refusesAny_490 (by decide) rfl (fun z => absurd z (nn rfl)) (fun _ => ?_)
  refine go_aload_n (q := 494) dL_refusesAny_493 rfl rfl rfl ?_
  refine go_iload_n (q := 495) dL_refusesAny_494 rfl rfl rfl ?_
  refine go_iconst (q := 496) (v := 5) dL_refusesAny_495 (by decide) rfl ?_
  refine go_iconst (q := 497) (v := 0) dL_refusesAny_496 (by decide) rfl ?_
  refine go_callV [vI no, vI 5, vI 0] (cal := mX9_line) (q := 500) dL_refusesAny_497 lRL_44 vX9_line ⟨by decide, by decide⟩ rfl rfl (by decide) (Nat.le_of_ble_eq_true rfl) (rf_line hC (fun u hu => ln_no (Or.inl hno) hu)) rfl (fun r497 M497 h497 => ?_)
  obtain ⟨rfl, hC1, hf1⟩ := h497
  replace hF := hF.tr hf1
  replace hC := hC1
  refine go_iconst (q := 501) (v := (-1)) dL_refusesAny_500 (by decide) rfl ?_
  refine go_icmp_ne (q := 504) (t := 600) dL_refusesAny_501 (by decide) rfl (fun z => absurd z (nn rfl)) (fun _ => ?_)
  refine go_aload_n (q := 505) dL_refusesAny_504 rfl rfl rfl ?_
  refine go_iload_n (q := 506) dL_refusesAny_505 rfl rfl rfl ?_
  refine go_iconst (q := 507) (v := 2) dL_refusesAny_506 (by decide) rfl ?_
  refine go_irem (q := 508) dL_refusesAny_507 (by decide) rfl ?_
  refine go_topi (show nI X - nI X / 2 * 2 = nI (X % 2) from pk_rem (d := 2) hX (by decide) (by decide)) ?_
  refine go_join1 (J := 517) (v := pv X 12) ?_ (fun j517 => ?_)
  · refine go_cV1 (cal := mX9_count) (q := 520) dL_refusesAny_517 lRL_14 vX9_count ⟨by decide, by decide⟩ rfl (by decide) (Nat.le_of_ble_eq_true rfl) (ok_count hC.1 hC.2.1 hC.2.2.2.2.2.2.1 hC.2.2.2.2.1 _) rfl ?_
    refine go_topi (aN_no (pv_12 X)) ?_
    refine go_iconst (q := 521) (v := (-1)) dL_refusesAny_520 (by decide) rfl ?_
    refine go_icmp_ne (q := 524) (t := 600) dL_refusesAny_521 (by decide) rfl (fun z => absurd z (nn rfl)) (fun _ => ?_)
    refine go_aload_n (q := 525) dL_refusesAny_524 rfl rfl rfl ?_
    refine go_iload (q := 527) dL_refusesAny_525 rfl rfl ?_
    refine go_iconst (q := 528) (v := 0) dL_refusesAny_527 (by decide) rfl ?_
    refine go_cV2 (cal := mX9_borne) (q := 531) dL_refusesAny_528 lRL_35 vX9_borne ⟨by decide, by decide⟩ rfl (by decide) (Nat.le_of_ble_eq_true rfl) (ok_borne hC.1 hC.2.1 _ _) rfl ?_
    refine go_topi (aBo_no1 hpl) ?_
    refine go_iconst (q := 532) (v := (-1)) dL_refusesAny_531 (by decide) rfl ?_
    refine go_icmp_ne (q := 535) (t := 600) dL_refusesAny_532 (by decide) rfl (fun z => absurd z (nn rfl)) (fun _ => ?_)
    refine go_aload_n (q := 536) dL_refusesAny_535 rfl rfl rfl ?_
    refine go_iconst (q := 537) (v := 0) dL_refusesAny_536 (by decide) rfl ?_
    refine go_iload (q := 539) dL_refusesAny_537 rfl rfl ?_
    refine go_cV2 (cal := mX9_borne) (q := 542) dL_refusesAny_539 lRL_35 vX9_borne ⟨by decide, by decide⟩ rfl (by decide) (Nat.le_of_ble_eq_true rfl) (ok_borne hC.1 hC.2.1 _ _) rfl ?_
    refine go_topi (aBo_no2 hmk) ?_
    refine go_iconst (q := 543) (v := (-1)) dL_refusesAny_542 (by decide) rfl ?_
    refine go_icmp_ne (q := 546) (t := 600) dL_refusesAny_543 (by decide) rfl (fun z => absurd z (nn rfl)) (fun _ => ?_)
    refine go_aload_n (q := 547) dL_refusesAny_546 rfl rfl rfl ?_
    refine go_iload_n (q := 548) dL_refusesAny_547 rfl rfl rfl ?_
    refine go_iconst (q := 549) (v := 0) dL_refusesAny_548 (by decide) rfl ?_
    refine go_callV [vI no, vI 0] (cal := mX9_ifDead) (q := 552) dL_refusesAny_549 lRL_69 vX9_ifDead ⟨by decide, by decide⟩ rfl rfl (by decide) (Nat.le_of_ble_eq_true rfl) (rf_ifDead hC (aI_no1 hno)) rfl (fun r549 M549 h549 => ?_)
    obtain ⟨rfl, hC1, hf1⟩ := h549
    replace hF := hF.tr hf1
    replace hC := hC1
    refine go_iconst (q := 553) (v := (-1)) dL_refusesAny_552 (by decide) rfl ?_
    refine go_icmp_ne (q := 556) (t := 600) dL_refusesAny_553 (by decide) rfl (fun z => absurd z (nn rfl)) (fun _ => ?_)
    refine go_aload_n (q := 557) dL_refusesAny_556 rfl rfl rfl ?_
    refine go_iload_n (q := 558) dL_refusesAny_557 rfl rfl rfl ?_
    refine go_iconst (q := 559) (v := 2) dL_refusesAny_558 (by decide) rfl ?_
    refine go_irem (q := 560) dL_refusesAny_559 (by decide) rfl ?_
    refine go_topi (show nI X - nI X / 2 * 2 = nI (X % 2) from pk_rem (d := 2) hX (by decide) (by decide)) ?_
    refine go_join1 (J := 568) (v := pv X 3) ?_ (fun j568 => ?_)
    · refine go_cV1 (cal := mX9_why) (q := 571) dL_refusesAny_568 lRL_75 vX9_why ⟨by decide, by decide⟩ rfl (by decide) (Nat.le_of_ble_eq_true rfl) (ok_why hC _) rfl ?_
      refine go_topi (aWy_no (pv_3 X)) ?_
      refine go_iconst (q := 572) (v := (-1)) dL_refusesAny_571 (by decide) rfl ?_
      refine go_icmp_ne (q := 575) (t := 600) dL_refusesAny_572 (by decide) rfl (fun z => absurd z (nn rfl)) (fun _ => ?_)
      refine go_aload_n (q := 576) dL_refusesAny_575 rfl rfl rfl ?_
      refine go_iload_n (q := 577) dL_refusesAny_576 rfl rfl rfl ?_
      refine go_iconst (q := 578) (v := 2) dL_refusesAny_577 (by decide) rfl ?_
      refine go_irem (q := 579) dL_refusesAny_578 (by decide) rfl ?_
      refine go_topi (show nI X - nI X / 2 * 2 = nI (X % 2) from pk_rem (d := 2) hX (by decide) (by decide)) ?_
      refine go_join1 (J := 589) (v := av X) ?_ (fun j589 => ?_)
      · refine go_callV [vI (av X)] (cal := mX9_append) (q := 592) dL_refusesAny_589 lRL_78 vX9_append ⟨by decide, by decide⟩ rfl rfl (by decide) (Nat.le_of_ble_eq_true rfl) (rf_append hC (av_no X)) rfl (fun r589 M589 h589 => ?_)
        obtain ⟨rfl, hC1, hf1⟩ := h589
        replace hF := hF.tr hf1
        replace hC := hC1
        refine go_iconst (q := 593) (v := (-1)) dL_refusesAny_592 (by decide) rfl ?_
        refine go_icmp_ne (q := 596) (t := 600) dL_refusesAny_593 (by decide) rfl (fun z => absurd z (nn rfl)) (fun _ => ?_)
        refine go_iconst (q := 597) (v := 1) dL_refusesAny_596 (by decide) rfl ?_
        refine go_goto (q := 601) dL_refusesAny_597 (by decide) ?_
        refine go_istore (q := 603) dL_refusesAny_601 (by decide) rfl rfl ?_
        exact rf_6 hpad hX hno hsh hpl hmk hF hC
      · refine go_if_neN (X % 2) (q := 582) (t := 587) dL_refusesAny_579 (by decide) rfl rfl (by omega) (fun c_579 => ?_) (fun c_579 => ?_)
        · refine go_bipush (q := 589) (v := 127) dL_refusesAny_587 (by decide) rfl ?_
          exact j589 _ (by unfold av; rw [if_neg c_579])
        · refine go_bipush (q := 584) (v := 32) dL_refusesAny_582 (by decide) rfl ?_
          refine go_goto (q := 589) dL_refusesAny_584 (by decide) ?_
          exact j589 _ (by unfold av; rw [if_pos c_579])
    · refine go_if_neN (X % 2) (q := 563) (t := 567) dL_refusesAny_560 (by decide) rfl rfl (by omega) (fun c_560 => ?_) (fun c_560 => ?_)
      · refine go_iconst (q := 568) (v := 3) dL_refusesAny_567 (by decide) rfl ?_
        exact j568 _ (by unfold pv; rw [if_neg c_560])
      · refine go_iconst (q := 564) (v := (-1)) dL_refusesAny_563 (by decide) rfl ?_
        refine go_goto (q := 568) dL_refusesAny_564 (by decide) ?_
        exact j568 _ (by unfold pv; rw [if_pos c_560])
  · refine go_if_neN (X % 2) (q := 511) (t := 515) dL_refusesAny_508 (by decide) rfl rfl (by omega) (fun c_508 => ?_) (fun c_508 => ?_)
    · refine go_bipush (q := 517) (v := 12) dL_refusesAny_515 (by decide) rfl ?_
      exact j517 _ (by unfold pv; rw [if_neg c_508])
    · refine go_iconst (q := 512) (v := (-1)) dL_refusesAny_511 (by decide) rfl ?_
      refine go_goto (q := 517) dL_refusesAny_512 (by decide) ?_
      exact j517 _ (by unfold pv; rw [if_pos c_508])
theorem rf_4 {M0 : KM} {σ : ST} (hpad : padN σ = 0) {X : Nat} (hX : X < 2 ^ 31) {no sh pl mk0 : Int32} (hno : pOf (rN σ.1) no = none) (hsh : pOf 15625 sh = none) (hpl : pOf 6 pl = none) (hmk : pOf 5 mk0 = none) {M : KM} (hF : fc M0 M) (hC : CI M σ) : Go mL_refusesAny (Zm (QC M0 1 σ)) M [some (vR 0 0), some (vI (nI X)), some (vI no), some (vI sh), some (vI pl), some (vI mk0), some (vI (bI (decide (0 < rN σ.1)))), some (vI 1)] [] 243 := by
  refine go_iload (q := 245) dL_refusesAny_243 rfl rfl ?_
  refine go_if_eq (q := 248) (t := 600) dL_refusesAny_245 (by decide) rfl (fun z => absurd z (by decide)) (fun _ => ?_)
  refine go_aload_n (q := 249) dL_refusesAny_248 rfl rfl rfl ?_
  refine go_iload_n (q := 250) dL_refusesAny_249 rfl rfl rfl ?_
  refine go_iconst (q := 251) (v := 0) dL_refusesAny_250 (by decide) rfl ?_
  refine go_cV2 (cal := mX9_person) (q := 254) dL_refusesAny_251 lRL_20 vX9_person ⟨by decide, by decide⟩ rfl (by decide) (Nat.le_of_ble_eq_true rfl) (ok_person hC.1 hC.2.1 _ _) rfl ?_
  refine go_topi (aP_no1 hno) ?_
  refine go_iconst (q := 255) (v := (-1)) dL_refusesAny_254 (by decide) rfl ?_
  refine go_icmp_ne (q := 258) (t := 600) dL_refusesAny_255 (by decide) rfl (fun z => absurd z (nn rfl)) (fun _ => ?_)
  refine go_iload (q := 260) dL_refusesAny_258 rfl rfl ?_
  refine go_if_eqB (q := 263) (t := 444) dL_refusesAny_260 (by decide) rfl (fun c_260 => ?_) (fun c_260 => ?_)
  · exact rf_5 hpad hX hno hsh hpl hmk hF hC
  · have h0 : 0 < rN σ.1 := of_decide_eq_true c_260
    refine go_aload_n (q := 264) dL_refusesAny_263 rfl rfl rfl ?_
    refine go_iconst (q := 265) (v := 0) dL_refusesAny_264 (by decide) rfl ?_
    refine go_iload_n (q := 266) dL_refusesAny_265 rfl rfl rfl ?_
    refine go_iconst (q := 267) (v := 2) dL_refusesAny_266 (by decide) rfl ?_
    refine go_irem (q := 268) dL_refusesAny_267 (by decide) rfl ?_
    refine go_topi (show nI X - nI X / 2 * 2 = nI (X % 2) from pk_rem (d := 2) hX (by decide) (by decide)) ?_
    refine go_join1 (J := 277) (v := pv X 12) ?_ (fun j277 => ?_)
    · refine go_cV2 (cal := mX9_person) (q := 280) dL_refusesAny_277 lRL_20 vX9_person ⟨by decide, by decide⟩ rfl (by decide) (Nat.le_of_ble_eq_true rfl) (ok_person hC.1 hC.2.1 _ _) rfl ?_
      refine go_topi (aP_no2 (pv_12 X)) ?_
      refine go_iconst (q := 281) (v := (-1)) dL_refusesAny_280 (by decide) rfl ?_
      refine go_icmp_ne (q := 284) (t := 600) dL_refusesAny_281 (by decide) rfl (fun z => absurd z (nn rfl)) (fun _ => ?_)
      refine go_aload_n (q := 285) dL_refusesAny_284 rfl rfl rfl ?_
      refine go_iconst (q := 286) (v := 0) dL_refusesAny_285 (by decide) rfl ?_
      refine go_iload (q := 288) dL_refusesAny_286 rfl rfl ?_
      refine go_cV2 (cal := mX9_mark) (q := 291) dL_refusesAny_288 lRL_48 vX9_mark ⟨by decide, by decide⟩ rfl (by decide) (Nat.le_of_ble_eq_true rfl) (ok_mark hC.1 hC.2.1 _ _) rfl ?_
      refine go_topi (aMk_no2 hpl) ?_
      refine go_iconst (q := 292) (v := (-1)) dL_refusesAny_291 (by decide) rfl ?_
      refine go_icmp_ne (q := 295) (t := 600) dL_refusesAny_292 (by decide) rfl (fun z => absurd z (nn rfl)) (fun _ => ?_)
      refine go_aload_n (q := 296) dL_refusesAny_295 rfl rfl rfl ?_
      refine go_iconst (q := 297) (v := 0) dL_refusesAny_296 (by decide) rfl ?_
      refine go_iload (q := 299) dL_refusesAny_297 rfl rfl ?_
      refine go_iconst (q := 300) (v := 0) dL_refusesAny_299 (by decide) rfl ?_
      refine go_cV3 (cal := mX9_whyNot) (q := 303) dL_refusesAny_300 lRL_63 vX9_whyNot ⟨by decide, by decide⟩ rfl (by decide) (Nat.le_of_ble_eq_true rfl) (ok_whyNot hC.1 hC.2.1 _ _ _) rfl ?_
      refine go_topi (aWn_no2 hpl) ?_
      refine go_iconst (q := 304) (v := (-1)) dL_refusesAny_303 (by decide) rfl ?_
      refine go_icmp_ne (q := 307) (t := 600) dL_refusesAny_304 (by decide) rfl (fun z => absurd z (nn rfl)) (fun _ => ?_)
      refine go_aload_n (q := 308) dL_refusesAny_307 rfl rfl rfl ?_
      refine go_iconst (q := 309) (v := 0) dL_refusesAny_308 (by decide) rfl ?_
      refine go_iconst (q := 310) (v := 0) dL_refusesAny_309 (by decide) rfl ?_
      refine go_iload (q := 312) dL_refusesAny_310 rfl rfl ?_
      refine go_cV3 (cal := mX9_whyNot) (q := 315) dL_refusesAny_312 lRL_63 vX9_whyNot ⟨by decide, by decide⟩ rfl (by decide) (Nat.le_of_ble_eq_true rfl) (ok_whyNot hC.1 hC.2.1 _ _ _) rfl ?_
      refine go_topi (aWn_no3 hmk) ?_
      refine go_iconst (q := 316) (v := (-1)) dL_refusesAny_315 (by decide) rfl ?_
      refine go_icmp_ne (q := 319) (t := 600) dL_refusesAny_316 (by decide) rfl (fun z => absurd z (nn rfl)) (fun _ => ?_)
      refine go_aload_n (q := 320) dL_refusesAny_319 rfl rfl rfl ?_
      refine go_iconst (q := 321) (v := 0) dL_refusesAny_320 (by decide) rfl ?_
      refine go_iload_n (q := 322) dL_refusesAny_321 rfl rfl rfl ?_
      refine go_iconst (q := 323) (v := 2) dL_refusesAny_322 (by decide) rfl ?_
      refine go_irem (q := 324) dL_refusesAny_323 (by decide) rfl ?_
      refine go_topi (show nI X - nI X / 2 * 2 = nI (X % 2) from pk_rem (d := 2) hX (by decide) (by decide)) ?_
      refine go_join1 (J := 332) (v := pv X 2) ?_ (fun j332 => ?_)
      · refine go_cV2 (cal := mX9_choices) (q := 335) dL_refusesAny_332 lRL_66 vX9_choices ⟨by decide, by decide⟩ rfl (by decide) (Nat.le_of_ble_eq_true rfl) (ok_choices hC.1 hC.2.1 _ _) rfl ?_
        refine go_topi (aCh_no2 (pv_2 X)) ?_
        refine go_iconst (q := 336) (v := (-1)) dL_refusesAny_335 (by decide) rfl ?_
        refine go_icmp_ne (q := 339) (t := 600) dL_refusesAny_336 (by decide) rfl (fun z => absurd z (nn rfl)) (fun _ => ?_)
        refine go_aload_n (q := 340) dL_refusesAny_339 rfl rfl rfl ?_
        refine go_iconst (q := 341) (v := 0) dL_refusesAny_340 (by decide) rfl ?_
        refine go_iload_n (q := 342) dL_refusesAny_341 rfl rfl rfl ?_
        refine go_cV2 (cal := mX9_differs) (q := 345) dL_refusesAny_342 lRL_32 vX9_differs ⟨by decide, by decide⟩ rfl (by decide) (Nat.le_of_ble_eq_true rfl) (ok_differs hC.1 hC.2.1 _ _) rfl ?_
        refine go_topi (aDf_no2 hno) ?_
        refine go_iconst (q := 346) (v := (-1)) dL_refusesAny_345 (by decide) rfl ?_
        refine go_icmp_ne (q := 349) (t := 600) dL_refusesAny_346 (by decide) rfl (fun z => absurd z (nn rfl)) (fun _ => ?_)
        refine go_aload_n (q := 350) dL_refusesAny_349 rfl rfl rfl ?_
        refine go_iload_n (q := 351) dL_refusesAny_350 rfl rfl rfl ?_
        refine go_iconst (q := 352) (v := 0) dL_refusesAny_351 (by decide) rfl ?_
        refine go_cV2 (cal := mX9_kin) (q := 355) dL_refusesAny_352 lRL_29 vX9_kin ⟨by decide, by decide⟩ rfl (by decide) (Nat.le_of_ble_eq_true rfl) (ok_kin hC.1 hC.2.1 _ _) rfl ?_
        refine go_topi (aKn_no1 hno) ?_
        refine go_iconst (q := 356) (v := (-1)) dL_refusesAny_355 (by decide) rfl ?_
        refine go_icmp_ne (q := 359) (t := 600) dL_refusesAny_356 (by decide) rfl (fun z => absurd z (nn rfl)) (fun _ => ?_)
        refine go_aload_n (q := 360) dL_refusesAny_359 rfl rfl rfl ?_
        refine go_iconst (q := 361) (v := 0) dL_refusesAny_360 (by decide) rfl ?_
        refine go_iload_n (q := 362) dL_refusesAny_361 rfl rfl rfl ?_
        refine go_iconst (q := 363) (v := 0) dL_refusesAny_362 (by decide) rfl ?_
        refine go_callV [vI 0, vI sh, vI 0] (cal := mX9_line) (q := 366) dL_refusesAny_363 lRL_44 vX9_line ⟨by decide, by decide⟩ rfl rfl (by decide) (Nat.le_of_ble_eq_true rfl) (rf_line hC (fun u hu => ln_no (Or.inr (Or.inl hsh)) hu)) rfl (fun r363 M363 h363 => ?_)
        obtain ⟨rfl, hC1, hf1⟩ := h363
        replace hF := hF.tr hf1
        replace hC := hC1
        refine go_iconst (q := 367) (v := (-1)) dL_refusesAny_366 (by decide) rfl ?_
        refine go_icmp_ne (q := 370) (t := 600) dL_refusesAny_367 (by decide) rfl (fun z => absurd z (nn rfl)) (fun _ => ?_)
        refine go_aload_n (q := 371) dL_refusesAny_370 rfl rfl rfl ?_
        refine go_iconst (q := 372) (v := 0) dL_refusesAny_371 (by decide) rfl ?_
        refine go_iconst (q := 373) (v := 5) dL_refusesAny_372 (by decide) rfl ?_
        refine go_iload_n (q := 374) dL_refusesAny_373 rfl rfl rfl ?_
        refine go_iconst (q := 375) (v := 2) dL_refusesAny_374 (by decide) rfl ?_
        refine go_irem (q := 376) dL_refusesAny_375 (by decide) rfl ?_
        refine go_topi (show nI X - nI X / 2 * 2 = nI (X % 2) from pk_rem (d := 2) hX (by decide) (by decide)) ?_
        refine go_join1 (J := 384) (v := pv X 2) ?_ (fun j384 => ?_)
        · refine go_callV [vI 0, vI 5, vI (pv X 2)] (cal := mX9_line) (q := 387) dL_refusesAny_384 lRL_44 vX9_line ⟨by decide, by decide⟩ rfl rfl (by decide) (Nat.le_of_ble_eq_true rfl) (rf_line hC (fun u hu => ln_no (Or.inr (Or.inr (pv_2 X))) hu)) rfl (fun r384 M384 h384 => ?_)
          obtain ⟨rfl, hC1, hf1⟩ := h384
          replace hF := hF.tr hf1
          replace hC := hC1
          refine go_iconst (q := 388) (v := (-1)) dL_refusesAny_387 (by decide) rfl ?_
          refine go_icmp_ne (q := 391) (t := 600) dL_refusesAny_388 (by decide) rfl (fun z => absurd z (nn rfl)) (fun _ => ?_)
          refine go_aload_n (q := 392) dL_refusesAny_391 rfl rfl rfl ?_
          refine go_iconst (q := 393) (v := 0) dL_refusesAny_392 (by decide) rfl ?_
          refine go_iload_n (q := 394) dL_refusesAny_393 rfl rfl rfl ?_
          refine go_iconst (q := 395) (v := 2) dL_refusesAny_394 (by decide) rfl ?_
          refine go_irem (q := 396) dL_refusesAny_395 (by decide) rfl ?_
          refine go_topi (show nI X - nI X / 2 * 2 = nI (X % 2) from pk_rem (d := 2) hX (by decide) (by decide)) ?_
          refine go_join1 (J := 404) (v := pv X 3) ?_ (fun j404 => ?_)
          · refine go_callV [vI 0, vI (pv X 3)] (cal := mX9_ifDead) (q := 407) dL_refusesAny_404 lRL_69 vX9_ifDead ⟨by decide, by decide⟩ rfl rfl (by decide) (Nat.le_of_ble_eq_true rfl) (rf_ifDead hC (aI_no2 (pv_3 X))) rfl (fun r404 M404 h404 => ?_)
            obtain ⟨rfl, hC1, hf1⟩ := h404
            replace hF := hF.tr hf1
            replace hC := hC1
            refine go_iconst (q := 408) (v := (-1)) dL_refusesAny_407 (by decide) rfl ?_
            refine go_icmp_ne (q := 411) (t := 600) dL_refusesAny_408 (by decide) rfl (fun z => absurd z (nn rfl)) (fun _ => ?_)
            refine go_aload_n (q := 412) dL_refusesAny_411 rfl rfl rfl ?_
            refine go_iconst (q := 413) (v := 0) dL_refusesAny_412 (by decide) rfl ?_
            refine go_iconst (q := 414) (v := 1) dL_refusesAny_413 (by decide) rfl ?_
            refine go_cV2 (cal := mX9_person) (q := 417) dL_refusesAny_414 lRL_20 vX9_person ⟨by decide, by decide⟩ rfl (by decide) (Nat.le_of_ble_eq_true rfl) (ok_person hC.1 hC.2.1 _ _) rfl ?_
            refine go_topi (aP1 (p := 0) hC.2.1 h0) ?_
            refine go_iconst (q := 418) (v := 1) dL_refusesAny_417 (by decide) rfl ?_
            refine go_icmp_eq (q := 421) (t := 444) dL_refusesAny_418 (by decide) rfl (fun c_418 => ?_) (fun c_418 => ?_)
            · exact rf_5 hpad hX hno hsh hpl hmk hF hC
            · refine go_aload_n (q := 422) dL_refusesAny_421 rfl rfl rfl ?_
              refine go_iconst (q := 423) (v := 0) dL_refusesAny_422 (by decide) rfl ?_
              refine go_iconst (q := 424) (v := 0) dL_refusesAny_423 (by decide) rfl ?_
              refine go_callV [vI 0, vI 0] (cal := mX9_ifDead) (q := 427) dL_refusesAny_424 lRL_69 vX9_ifDead ⟨by decide, by decide⟩ rfl rfl (by decide) (Nat.le_of_ble_eq_true rfl) (rf_ifDead hC (aI_dead hC.2.1 h0 (bne1 c_418))) rfl (fun r424 M424 h424 => ?_)
              obtain ⟨rfl, hC1, hf1⟩ := h424
              replace hF := hF.tr hf1
              replace hC := hC1
              refine go_bipush (q := 429) (v := (-2)) dL_refusesAny_427 (by decide) rfl ?_
              refine go_icmp_ne (q := 432) (t := 600) dL_refusesAny_429 (by decide) rfl (fun z => absurd z (nn rfl)) (fun _ => ?_)
              refine go_aload_n (q := 433) dL_refusesAny_432 rfl rfl rfl ?_
              refine go_iconst (q := 434) (v := 0) dL_refusesAny_433 (by decide) rfl ?_
              refine go_iconst (q := 435) (v := 5) dL_refusesAny_434 (by decide) rfl ?_
              refine go_iconst (q := 436) (v := 0) dL_refusesAny_435 (by decide) rfl ?_
              refine go_callV [vI 0, vI 5, vI 0] (cal := mX9_line) (q := 439) dL_refusesAny_436 lRL_44 vX9_line ⟨by decide, by decide⟩ rfl rfl (by decide) (Nat.le_of_ble_eq_true rfl) (rf_line hC (fun u hu => ln_dead0 hC.2.1 h0 (bne1 c_418) hu)) rfl (fun r436 M436 h436 => ?_)
              obtain ⟨rfl, hC1, hf1⟩ := h436
              replace hF := hF.tr hf1
              replace hC := hC1
              refine go_bipush (q := 441) (v := (-2)) dL_refusesAny_439 (by decide) rfl ?_
              refine go_icmp_ne (q := 444) (t := 600) dL_refusesAny_441 (by decide) rfl (fun z => absurd z (nn rfl)) (fun _ => ?_)
              exact rf_5 hpad hX hno hsh hpl hmk hF hC
          · refine go_if_neN (X % 2) (q := 399) (t := 403) dL_refusesAny_396 (by decide) rfl rfl (by omega) (fun c_396 => ?_) (fun c_396 => ?_)
            · refine go_iconst (q := 404) (v := 3) dL_refusesAny_403 (by decide) rfl ?_
              exact j404 _ (by unfold pv; rw [if_neg c_396])
            · refine go_iconst (q := 400) (v := (-1)) dL_refusesAny_399 (by decide) rfl ?_
              refine go_goto (q := 404) dL_refusesAny_400 (by decide) ?_
              exact j404 _ (by unfold pv; rw [if_pos c_396])
        · refine go_if_neN (X % 2) (q := 379) (t := 383) dL_refusesAny_376 (by decide) rfl rfl (by omega) (fun c_376 => ?_) (fun c_376 => ?_)
          · refine go_iconst (q := 384) (v := 2) dL_refusesAny_383 (by decide) rfl ?_
            exact j384 _ (by unfold pv; rw [if_neg c_376])
          · refine go_iconst (q := 380) (v := (-1)) dL_refusesAny_379 (by decide) rfl ?_
            refine go_goto (q := 384) dL_refusesAny_380 (by decide) ?_
            exact j384 _ (by unfold pv; rw [if_pos c_376])
      · refine go_if_neN (X % 2) (q := 327) (t := 331) dL_refusesAny_324 (by decide) rfl rfl (by omega) (fun c_324 => ?_) (fun c_324 => ?_)
        · refine go_iconst (q := 332) (v := 2) dL_refusesAny_331 (by decide) rfl ?_
          exact j332 _ (by unfold pv; rw [if_neg c_324])
        · refine go_iconst (q := 328) (v := (-1)) dL_refusesAny_327 (by decide) rfl ?_
          refine go_goto (q := 332) dL_refusesAny_328 (by decide) ?_
          exact j332 _ (by unfold pv; rw [if_pos c_324])
    · refine go_if_neN (X % 2) (q := 271) (t := 275) dL_refusesAny_268 (by decide) rfl rfl (by omega) (fun c_268 => ?_) (fun c_268 => ?_)
      · refine go_bipush (q := 277) (v := 12) dL_refusesAny_275 (by decide) rfl ?_
        exact j277 _ (by unfold pv; rw [if_neg c_268])
      · refine go_iconst (q := 272) (v := (-1)) dL_refusesAny_271 (by decide) rfl ?_
        refine go_goto (q := 277) dL_refusesAny_272 (by decide) ?_
        exact j277 _ (by unfold pv; rw [if_pos c_268])
theorem rf_3 {M0 : KM} {σ : ST} (hpad : padN σ = 0) {X : Nat} (hX : X < 2 ^ 31) {no sh pl mk0 : Int32} (hno : pOf (rN σ.1) no = none) (hsh : pOf 15625 sh = none) (hpl : pOf 6 pl = none) (hmk : pOf 5 mk0 = none) {M : KM} (hF : fc M0 M) (hC : CI M σ) {l7 : Option KV} : Go mL_refusesAny (Zm (QC M0 1 σ)) M [some (vR 0 0), some (vI (nI X)), some (vI no), some (vI sh), some (vI pl), some (vI mk0), some (vI (bI (decide (0 < rN σ.1)))), l7] [] 193 := by
  refine go_aload_n (q := 194) dL_refusesAny_193 rfl rfl rfl ?_
  refine go_iload_n (q := 195) dL_refusesAny_194 rfl rfl rfl ?_
  refine go_callV [vI no] (cal := mX9_die) (q := 198) dL_refusesAny_195 lRL_57 vX9_die ⟨by decide, by decide⟩ rfl rfl (by decide) (Nat.le_of_ble_eq_true rfl) (rf_die hC (by decide) (dd_no hno)) rfl (fun r195 M195 h195 => ?_)
  obtain ⟨rfl, hC1, hf1⟩ := h195
  replace hF := hF.tr hf1
  replace hC := hC1
  refine go_iconst (q := 199) (v := (-1)) dL_refusesAny_198 (by decide) rfl ?_
  refine go_icmp_ne (q := 202) (t := 240) dL_refusesAny_199 (by decide) rfl (fun z => absurd z (nn rfl)) (fun _ => ?_)
  refine go_aload_n (q := 203) dL_refusesAny_202 rfl rfl rfl ?_
  refine go_iload_n (q := 204) dL_refusesAny_203 rfl rfl rfl ?_
  refine go_callV [vI no] (cal := mX9_inherit) (q := 207) dL_refusesAny_204 lRL_60 vX9_inherit ⟨by decide, by decide⟩ rfl rfl (by decide) (Nat.le_of_ble_eq_true rfl) (rf_inherit hC (by decide) (dh_no hno)) rfl (fun r204 M204 h204 => ?_)
  obtain ⟨rfl, hC1, hf1⟩ := h204
  replace hF := hF.tr hf1
  replace hC := hC1
  refine go_iconst (q := 208) (v := (-1)) dL_refusesAny_207 (by decide) rfl ?_
  refine go_icmp_ne (q := 211) (t := 240) dL_refusesAny_208 (by decide) rfl (fun z => absurd z (nn rfl)) (fun _ => ?_)
  refine go_iload (q := 213) dL_refusesAny_211 rfl rfl ?_
  refine go_if_eqB (q := 216) (t := 236) dL_refusesAny_213 (by decide) rfl (fun c_213 => ?_) (fun c_213 => ?_)
  · refine go_iconst (q := 237) (v := 1) dL_refusesAny_236 (by decide) rfl ?_
    refine go_goto (q := 241) dL_refusesAny_237 (by decide) ?_
    refine go_istore (q := 243) dL_refusesAny_241 (by decide) rfl rfl ?_
    exact rf_4 hpad hX hno hsh hpl hmk hF hC
  · have h0 : 0 < rN σ.1 := of_decide_eq_true c_213
    refine go_aload_n (q := 217) dL_refusesAny_216 rfl rfl rfl ?_
    refine go_iconst (q := 218) (v := 0) dL_refusesAny_217 (by decide) rfl ?_
    refine go_iconst (q := 219) (v := 1) dL_refusesAny_218 (by decide) rfl ?_
    refine go_cV2 (cal := mX9_person) (q := 222) dL_refusesAny_219 lRL_20 vX9_person ⟨by decide, by decide⟩ rfl (by decide) (Nat.le_of_ble_eq_true rfl) (ok_person hC.1 hC.2.1 _ _) rfl ?_
    refine go_topi (aP1 (p := 0) hC.2.1 h0) ?_
    refine go_iconst (q := 223) (v := 1) dL_refusesAny_222 (by decide) rfl ?_
    refine go_icmp_eq (q := 226) (t := 236) dL_refusesAny_223 (by decide) rfl (fun c_223 => ?_) (fun c_223 => ?_)
    · refine go_iconst (q := 237) (v := 1) dL_refusesAny_236 (by decide) rfl ?_
      refine go_goto (q := 241) dL_refusesAny_237 (by decide) ?_
      refine go_istore (q := 243) dL_refusesAny_241 (by decide) rfl rfl ?_
      exact rf_4 hpad hX hno hsh hpl hmk hF hC
    · refine go_aload_n (q := 227) dL_refusesAny_226 rfl rfl rfl ?_
      refine go_iconst (q := 228) (v := 0) dL_refusesAny_227 (by decide) rfl ?_
      refine go_callV [vI 0] (cal := mX9_inherit) (q := 231) dL_refusesAny_228 lRL_60 vX9_inherit ⟨by decide, by decide⟩ rfl rfl (by decide) (Nat.le_of_ble_eq_true rfl) (rf_inherit hC (by decide) (dh_dead hC.2.1 h0 (bne1 c_223))) rfl (fun r228 M228 h228 => ?_)
      obtain ⟨rfl, hC1, hf1⟩ := h228
      replace hF := hF.tr hf1
      replace hC := hC1
      refine go_bipush (q := 233) (v := (-2)) dL_refusesAny_231 (by decide) rfl ?_
      refine go_icmp_ne (q := 236) (t := 240) dL_refusesAny_233 (by decide) rfl (fun z => absurd z (nn rfl)) (fun _ => ?_)
      refine go_iconst (q := 237) (v := 1) dL_refusesAny_236 (by decide) rfl ?_
      refine go_goto (q := 241) dL_refusesAny_237 (by decide) ?_
      refine go_istore (q := 243) dL_refusesAny_241 (by decide) rfl rfl ?_
      exact rf_4 hpad hX hno hsh hpl hmk hF hC
theorem rf_2 {M0 : KM} {σ : ST} (hpad : padN σ = 0) {X : Nat} (hX : X < 2 ^ 31) {no sh pl mk0 : Int32} (hno : pOf (rN σ.1) no = none) (hsh : pOf 15625 sh = none) (hpl : pOf 6 pl = none) (hmk : pOf 5 mk0 = none) {M : KM} (hF : fc M0 M) (hC : CI M σ) {l7 : Option KV} : Go mL_refusesAny (Zm (QC M0 1 σ)) M [some (vR 0 0), some (vI (nI X)), some (vI no), some (vI sh), some (vI pl), some (vI mk0), some (vI (bI (decide (0 < rN σ.1)))), l7] [] 161 := by
  refine go_aload_n (q := 162) dL_refusesAny_161 rfl rfl rfl ?_
  refine go_iconst (q := 163) (v := 0) dL_refusesAny_162 (by decide) rfl ?_
  refine go_cV1 (cal := mX9_count) (q := 166) dL_refusesAny_163 lRL_14 vX9_count ⟨by decide, by decide⟩ rfl (by decide) (Nat.le_of_ble_eq_true rfl) (ok_count hC.1 hC.2.1 hC.2.2.2.2.2.2.1 hC.2.2.2.2.1 _) rfl ?_
  refine go_topi (aN0) ?_
  refine go_bipush (q := 168) (v := 20) dL_refusesAny_166 (by decide) rfl ?_
  refine go_icmp_ltN (rN σ.1) 20 (q := 171) (t := 193) dL_refusesAny_168 (by decide) rfl rfl rfl (by have := hC.2.1.1; omega) (by decide) (fun c_168 => ?_) (fun c_168 => ?_)
  · exact rf_3 hpad hX hno hsh hpl hmk hF hC
  · refine go_aload_n (q := 172) dL_refusesAny_171 rfl rfl rfl ?_
    refine go_iconst (q := 173) (v := 5) dL_refusesAny_172 (by decide) rfl ?_
    refine go_callV [vI 5] (cal := mX9_found) (q := 176) dL_refusesAny_173 lRL_51 vX9_found ⟨by decide, by decide⟩ rfl rfl (by decide) (Nat.le_of_ble_eq_true rfl) (rf_found hC (by decide) (df_full c_168)) rfl (fun r173 M173 h173 => ?_)
    obtain ⟨rfl, hC1, hf1⟩ := h173
    replace hF := hF.tr hf1
    replace hC := hC1
    refine go_bipush (q := 178) (v := (-3)) dL_refusesAny_176 (by decide) rfl ?_
    refine go_icmp_ne (q := 181) (t := 240) dL_refusesAny_178 (by decide) rfl (fun z => absurd z (nn rfl)) (fun _ => ?_)
    refine go_aload_n (q := 182) dL_refusesAny_181 rfl rfl rfl ?_
    refine go_iconst (q := 183) (v := 0) dL_refusesAny_182 (by decide) rfl ?_
    refine go_iconst (q := 184) (v := 0) dL_refusesAny_183 (by decide) rfl ?_
    refine go_iconst (q := 185) (v := 0) dL_refusesAny_184 (by decide) rfl ?_
    refine go_callV [vI 0, vI 0, vI 0] (cal := mX9_bear) (q := 188) dL_refusesAny_185 lRL_54 vX9_bear ⟨by decide, by decide⟩ rfl rfl (by decide) (Nat.le_of_ble_eq_true rfl) (rf_bear hC (by decide) (db_full hC.2.1 c_168)) rfl (fun r185 M185 h185 => ?_)
    obtain ⟨rfl, hC1, hf1⟩ := h185
    replace hF := hF.tr hf1
    replace hC := hC1
    refine go_bipush (q := 190) (v := (-3)) dL_refusesAny_188 (by decide) rfl ?_
    refine go_icmp_ne (q := 193) (t := 240) dL_refusesAny_190 (by decide) rfl (fun z => absurd z (nn rfl)) (fun _ => ?_)
    exact rf_3 hpad hX hno hsh hpl hmk hF hC
theorem rf_1 {M0 : KM} {σ : ST} (hpad : padN σ = 0) {X : Nat} (hX : X < 2 ^ 31) {no sh pl mk0 : Int32} (hno : pOf (rN σ.1) no = none) (hsh : pOf 15625 sh = none) (hpl : pOf 6 pl = none) (hmk : pOf 5 mk0 = none) {M : KM} (hF : fc M0 M) (hC : CI M σ) {l7 : Option KV} : Go mL_refusesAny (Zm (QC M0 1 σ)) M [some (vR 0 0), some (vI (nI X)), some (vI no), some (vI sh), some (vI pl), some (vI mk0), some (vI (bI (decide (0 < rN σ.1)))), l7] [] 112 := by
  refine go_aload_n (q := 113) dL_refusesAny_112 rfl rfl rfl ?_
  refine go_iload_n (q := 114) dL_refusesAny_113 rfl rfl rfl ?_
  refine go_callV [vI sh] (cal := mX9_found) (q := 117) dL_refusesAny_114 lRL_51 vX9_found ⟨by decide, by decide⟩ rfl rfl (by decide) (Nat.le_of_ble_eq_true rfl) (rf_found hC (by decide) (df_no hsh)) rfl (fun r114 M114 h114 => ?_)
  obtain ⟨rfl, hC1, hf1⟩ := h114
  replace hF := hF.tr hf1
  replace hC := hC1
  refine go_iconst (q := 118) (v := (-1)) dL_refusesAny_117 (by decide) rfl ?_
  refine go_icmp_ne (q := 121) (t := 240) dL_refusesAny_118 (by decide) rfl (fun z => absurd z (nn rfl)) (fun _ => ?_)
  refine go_aload_n (q := 122) dL_refusesAny_121 rfl rfl rfl ?_
  refine go_iload_n (q := 123) dL_refusesAny_122 rfl rfl rfl ?_
  refine go_iconst (q := 124) (v := 0) dL_refusesAny_123 (by decide) rfl ?_
  refine go_iconst (q := 125) (v := 0) dL_refusesAny_124 (by decide) rfl ?_
  refine go_callV [vI no, vI 0, vI 0] (cal := mX9_bear) (q := 128) dL_refusesAny_125 lRL_54 vX9_bear ⟨by decide, by decide⟩ rfl rfl (by decide) (Nat.le_of_ble_eq_true rfl) (rf_bear hC (by decide) (db_no1 hno)) rfl (fun r125 M125 h125 => ?_)
  obtain ⟨rfl, hC1, hf1⟩ := h125
  replace hF := hF.tr hf1
  replace hC := hC1
  refine go_iconst (q := 129) (v := (-1)) dL_refusesAny_128 (by decide) rfl ?_
  refine go_icmp_ne (q := 132) (t := 240) dL_refusesAny_129 (by decide) rfl (fun z => absurd z (nn rfl)) (fun _ => ?_)
  refine go_iload (q := 134) dL_refusesAny_132 rfl rfl ?_
  refine go_if_eqB (q := 137) (t := 161) dL_refusesAny_134 (by decide) rfl (fun c_134 => ?_) (fun c_134 => ?_)
  · exact rf_2 hpad hX hno hsh hpl hmk hF hC
  · refine go_aload_n (q := 138) dL_refusesAny_137 rfl rfl rfl ?_
    refine go_iconst (q := 139) (v := 0) dL_refusesAny_138 (by decide) rfl ?_
    refine go_iload (q := 141) dL_refusesAny_139 rfl rfl ?_
    refine go_iconst (q := 142) (v := 0) dL_refusesAny_141 (by decide) rfl ?_
    refine go_callV [vI 0, vI pl, vI 0] (cal := mX9_bear) (q := 145) dL_refusesAny_142 lRL_54 vX9_bear ⟨by decide, by decide⟩ rfl rfl (by decide) (Nat.le_of_ble_eq_true rfl) (rf_bear hC (by decide) (db_no2 hpl)) rfl (fun r142 M142 h142 => ?_)
    obtain ⟨rfl, hC1, hf1⟩ := h142
    replace hF := hF.tr hf1
    replace hC := hC1
    refine go_iconst (q := 146) (v := (-1)) dL_refusesAny_145 (by decide) rfl ?_
    refine go_icmp_ne (q := 149) (t := 240) dL_refusesAny_146 (by decide) rfl (fun z => absurd z (nn rfl)) (fun _ => ?_)
    refine go_aload_n (q := 150) dL_refusesAny_149 rfl rfl rfl ?_
    refine go_iconst (q := 151) (v := 0) dL_refusesAny_150 (by decide) rfl ?_
    refine go_iconst (q := 152) (v := 0) dL_refusesAny_151 (by decide) rfl ?_
    refine go_iload (q := 154) dL_refusesAny_152 rfl rfl ?_
    refine go_callV [vI 0, vI 0, vI mk0] (cal := mX9_bear) (q := 157) dL_refusesAny_154 lRL_54 vX9_bear ⟨by decide, by decide⟩ rfl rfl (by decide) (Nat.le_of_ble_eq_true rfl) (rf_bear hC (by decide) (db_no3 hmk)) rfl (fun r154 M154 h154 => ?_)
    obtain ⟨rfl, hC1, hf1⟩ := h154
    replace hF := hF.tr hf1
    replace hC := hC1
    refine go_iconst (q := 158) (v := (-1)) dL_refusesAny_157 (by decide) rfl ?_
    refine go_icmp_ne (q := 161) (t := 240) dL_refusesAny_158 (by decide) rfl (fun z => absurd z (nn rfl)) (fun _ => ?_)
    exact rf_2 hpad hX hno hsh hpl hmk hF hC
theorem ok_refusesAny {M : KM} {σ : ST} (hC : CI M σ) (hpad : padN σ = 0) {X : Nat} (hX : X < 2 ^ 31) : Ok mL_refusesAny [vR 0 0, vI (nI X)] M (QC M 1 σ) := by
  refine ok_of (by decide) rfl (Nat.le_of_ble_eq_true rfl) ⟨rfl, rfl⟩ ?_
  show Go mL_refusesAny (Zm (QC M 1 σ)) M [some (vR 0 0), some (vI (nI X)), none, none, none, none, none, none] [] 0
  have hn := hC.2.1.1
  refine go_iload_n (q := 1) dL_refusesAny_0 rfl rfl rfl ?_
  refine go_iconst (q := 2) (v := 2) dL_refusesAny_1 (by decide) rfl ?_
  refine go_irem (q := 3) dL_refusesAny_2 (by decide) rfl ?_
  refine go_topi (show nI X - nI X / 2 * 2 = nI (X % 2) from pk_rem (d := 2) hX (by decide) (by decide)) ?_
  refine go_join1 (J := 25) (v := nv X (rN σ.1)) ?_ (fun j25 => ?_)
  · refine go_istore_n (q := 26) dL_refusesAny_25 rfl (by decide) rfl rfl ?_
    refine go_iload_n (q := 27) dL_refusesAny_26 rfl rfl rfl ?_
    refine go_iconst (q := 28) (v := 2) dL_refusesAny_27 (by decide) rfl ?_
    refine go_irem (q := 29) dL_refusesAny_28 (by decide) rfl ?_
    refine go_topi (show nI X - nI X / 2 * 2 = nI (X % 2) from pk_rem (d := 2) hX (by decide) (by decide)) ?_
    refine go_join1 (J := 49) (v := nv X 15625) ?_ (fun j49 => ?_)
    · refine go_istore_n (q := 50) dL_refusesAny_49 rfl (by decide) rfl rfl ?_
      refine go_iload_n (q := 51) dL_refusesAny_50 rfl rfl rfl ?_
      refine go_iconst (q := 52) (v := 2) dL_refusesAny_51 (by decide) rfl ?_
      refine go_irem (q := 53) dL_refusesAny_52 (by decide) rfl ?_
      refine go_topi (show nI X - nI X / 2 * 2 = nI (X % 2) from pk_rem (d := 2) hX (by decide) (by decide)) ?_
      refine go_join1 (J := 72) (v := nv X 6) ?_ (fun j72 => ?_)
      · refine go_istore (q := 74) dL_refusesAny_72 (by decide) rfl rfl ?_
        refine go_iload_n (q := 75) dL_refusesAny_74 rfl rfl rfl ?_
        refine go_iconst (q := 76) (v := 2) dL_refusesAny_75 (by decide) rfl ?_
        refine go_irem (q := 77) dL_refusesAny_76 (by decide) rfl ?_
        refine go_topi (show nI X - nI X / 2 * 2 = nI (X % 2) from pk_rem (d := 2) hX (by decide) (by decide)) ?_
        refine go_join1 (J := 95) (v := nv X 5) ?_ (fun j95 => ?_)
        · refine go_istore (q := 97) dL_refusesAny_95 (by decide) rfl rfl ?_
          refine go_aload_n (q := 98) dL_refusesAny_97 rfl rfl rfl ?_
          refine go_iconst (q := 99) (v := 0) dL_refusesAny_98 (by decide) rfl ?_
          refine go_cV1 (cal := mX9_count) (q := 102) dL_refusesAny_99 lRL_14 vX9_count ⟨by decide, by decide⟩ rfl (by decide) (Nat.le_of_ble_eq_true rfl) (ok_count hC.1 hC.2.1 hC.2.2.2.2.2.2.1 hC.2.2.2.2.1 _) rfl ?_
          refine go_topi (aN0) ?_
          refine go_join1 (J := 110) (v := bI (decide (0 < rN σ.1))) ?_ (fun j110 => ?_)
          · refine go_istore (q := 112) dL_refusesAny_110 (by decide) rfl rfl ?_
            exact rf_1 hpad hX (nv_no (by omega)) (nv_no (by decide)) (nv_no (by decide)) (nv_no (by decide)) fc.rf hC
          · refine go_if_le (q := 105) (t := 109) dL_refusesAny_102 (by decide) rfl (fun c_102 => ?_) (fun c_102 => ?_)
            · refine go_iconst (q := 110) (v := 0) dL_refusesAny_109 (by decide) rfl ?_
              exact j110 _ (sel0 decide_eq_true_iff (fun z => nI_nle z (by omega) c_102))
            · refine go_iconst (q := 106) (v := 1) dL_refusesAny_105 (by decide) rfl ?_
              refine go_goto (q := 110) dL_refusesAny_106 (by decide) ?_
              exact j110 _ (sel1 decide_eq_true_iff (Nat.pos_of_ne_zero (fun z => c_102 (by rw [z]; exact Int32.le_refl _))))
        · refine go_if_neN (X % 2) (q := 80) (t := 89) dL_refusesAny_77 (by decide) rfl rfl (by omega) (fun c_77 => ?_) (fun c_77 => ?_)
          · refine go_iconst (q := 90) (v := 5) dL_refusesAny_89 (by decide) rfl ?_
            refine go_iload_n (q := 91) dL_refusesAny_90 rfl rfl rfl ?_
            refine go_bipush (q := 93) (v := 99) dL_refusesAny_91 (by decide) rfl ?_
            refine go_irem (q := 94) dL_refusesAny_93 (by decide) rfl ?_
            refine go_topi (show nI X - nI X / 99 * 99 = nI (X % 99) from pk_rem (d := 99) hX (by decide) (by decide)) ?_
            refine go_iadd (q := 95) dL_refusesAny_94 rfl ?_
            refine go_topi (nI_add 5 _) ?_
            exact j95 _ (by unfold nv; rw [if_neg c_77])
          · refine go_iconst (q := 81) (v := (-1)) dL_refusesAny_80 (by decide) rfl ?_
            refine go_iload_n (q := 82) dL_refusesAny_81 rfl rfl rfl ?_
            refine go_bipush (q := 84) (v := 99) dL_refusesAny_82 (by decide) rfl ?_
            refine go_irem (q := 85) dL_refusesAny_84 (by decide) rfl ?_
            refine go_topi (show nI X - nI X / 99 * 99 = nI (X % 99) from pk_rem (d := 99) hX (by decide) (by decide)) ?_
            refine go_isub (q := 86) dL_refusesAny_85 rfl ?_
            refine go_goto (q := 95) dL_refusesAny_86 (by decide) ?_
            exact j95 _ (by unfold nv; rw [if_pos c_77])
      · refine go_if_neN (X % 2) (q := 56) (t := 65) dL_refusesAny_53 (by decide) rfl rfl (by omega) (fun c_53 => ?_) (fun c_53 => ?_)
        · refine go_bipush (q := 67) (v := 6) dL_refusesAny_65 (by decide) rfl ?_
          refine go_iload_n (q := 68) dL_refusesAny_67 rfl rfl rfl ?_
          refine go_bipush (q := 70) (v := 99) dL_refusesAny_68 (by decide) rfl ?_
          refine go_irem (q := 71) dL_refusesAny_70 (by decide) rfl ?_
          refine go_topi (show nI X - nI X / 99 * 99 = nI (X % 99) from pk_rem (d := 99) hX (by decide) (by decide)) ?_
          refine go_iadd (q := 72) dL_refusesAny_71 rfl ?_
          refine go_topi (nI_add 6 _) ?_
          exact j72 _ (by unfold nv; rw [if_neg c_53])
        · refine go_iconst (q := 57) (v := (-1)) dL_refusesAny_56 (by decide) rfl ?_
          refine go_iload_n (q := 58) dL_refusesAny_57 rfl rfl rfl ?_
          refine go_bipush (q := 60) (v := 99) dL_refusesAny_58 (by decide) rfl ?_
          refine go_irem (q := 61) dL_refusesAny_60 (by decide) rfl ?_
          refine go_topi (show nI X - nI X / 99 * 99 = nI (X % 99) from pk_rem (d := 99) hX (by decide) (by decide)) ?_
          refine go_isub (q := 62) dL_refusesAny_61 rfl ?_
          refine go_goto (q := 72) dL_refusesAny_62 (by decide) ?_
          exact j72 _ (by unfold nv; rw [if_pos c_53])
    · refine go_if_neN (X % 2) (q := 32) (t := 41) dL_refusesAny_29 (by decide) rfl rfl (by omega) (fun c_29 => ?_) (fun c_29 => ?_)
      · refine go_sipush (q := 44) (v := 15625) dL_refusesAny_41 (by decide) rfl ?_
        refine go_iload_n (q := 45) dL_refusesAny_44 rfl rfl rfl ?_
        refine go_bipush (q := 47) (v := 99) dL_refusesAny_45 (by decide) rfl ?_
        refine go_irem (q := 48) dL_refusesAny_47 (by decide) rfl ?_
        refine go_topi (show nI X - nI X / 99 * 99 = nI (X % 99) from pk_rem (d := 99) hX (by decide) (by decide)) ?_
        refine go_iadd (q := 49) dL_refusesAny_48 rfl ?_
        refine go_topi (nI_add 15625 _) ?_
        exact j49 _ (by unfold nv; rw [if_neg c_29])
      · refine go_iconst (q := 33) (v := (-1)) dL_refusesAny_32 (by decide) rfl ?_
        refine go_iload_n (q := 34) dL_refusesAny_33 rfl rfl rfl ?_
        refine go_bipush (q := 36) (v := 99) dL_refusesAny_34 (by decide) rfl ?_
        refine go_irem (q := 37) dL_refusesAny_36 (by decide) rfl ?_
        refine go_topi (show nI X - nI X / 99 * 99 = nI (X % 99) from pk_rem (d := 99) hX (by decide) (by decide)) ?_
        refine go_isub (q := 38) dL_refusesAny_37 rfl ?_
        refine go_goto (q := 49) dL_refusesAny_38 (by decide) ?_
        exact j49 _ (by unfold nv; rw [if_pos c_29])
  · refine go_if_neN (X % 2) (q := 6) (t := 15) dL_refusesAny_3 (by decide) rfl rfl (by omega) (fun c_3 => ?_) (fun c_3 => ?_)
    · refine go_aload_n (q := 16) dL_refusesAny_15 rfl rfl rfl ?_
      refine go_iconst (q := 17) (v := 0) dL_refusesAny_16 (by decide) rfl ?_
      refine go_cV1 (cal := mX9_count) (q := 20) dL_refusesAny_17 lRL_14 vX9_count ⟨by decide, by decide⟩ rfl (by decide) (Nat.le_of_ble_eq_true rfl) (ok_count hC.1 hC.2.1 hC.2.2.2.2.2.2.1 hC.2.2.2.2.1 _) rfl ?_
      refine go_topi (aN0) ?_
      refine go_iload_n (q := 21) dL_refusesAny_20 rfl rfl rfl ?_
      refine go_bipush (q := 23) (v := 99) dL_refusesAny_21 (by decide) rfl ?_
      refine go_irem (q := 24) dL_refusesAny_23 (by decide) rfl ?_
      refine go_topi (show nI X - nI X / 99 * 99 = nI (X % 99) from pk_rem (d := 99) hX (by decide) (by decide)) ?_
      refine go_iadd (q := 25) dL_refusesAny_24 rfl ?_
      refine go_topi (nI_add _ _) ?_
      exact j25 _ (by unfold nv; rw [if_neg c_3])
    · refine go_iconst (q := 7) (v := (-1)) dL_refusesAny_6 (by decide) rfl ?_
      refine go_iload_n (q := 8) dL_refusesAny_7 rfl rfl rfl ?_
      refine go_bipush (q := 10) (v := 99) dL_refusesAny_8 (by decide) rfl ?_
      refine go_irem (q := 11) dL_refusesAny_10 (by decide) rfl ?_
      refine go_topi (show nI X - nI X / 99 * 99 = nI (X % 99) from pk_rem (d := 99) hX (by decide) (by decide)) ?_
      refine go_isub (q := 12) dL_refusesAny_11 rfl ?_
      refine go_goto (q := 25) dL_refusesAny_12 (by decide) ?_
      exact j25 _ (by unfold nv; rw [if_pos c_3])
theorem ok_refuses {M : KM} {σ : ST} (hC : CI M σ) (hpad : padN σ = 0) {X : Nat} (hX : X < 2 ^ 31) : Ok mL_refuses [vR 0 0, vI (nI X)] M (QC M 1 σ) := by
  refine ok_of (by decide) rfl (Nat.le_of_ble_eq_true rfl) ⟨rfl, rfl⟩ ?_
  show Go mL_refuses (Zm (QC M 1 σ)) M [some (vR 0 0), some (vI (nI X)), none, none, none] [] 0
  have hF : fc M M := fc.rf
  refine go_aload_n (q := 1) dL_refuses_0 rfl rfl rfl ?_
  refine go_cS1 (cal := mL_seen) (q := 4) dL_refuses_1 lRL_91 vL_seen ⟨by decide, by decide⟩ (Nat.le_of_ble_eq_true rfl) (ok_seen hC.1 hC.2.1 hC.2.2.2.2.2.2.1 hC.2.2.2.2.1) rfl ?_
  refine go_lstore_n (q := 5) dL_refuses_4 rfl (by decide) rfl rfl ?_
  refine go_aload_n (q := 6) dL_refuses_5 rfl rfl rfl ?_
  refine go_bipush (q := 8) (v := 11) dL_refuses_6 (by decide) rfl ?_
  refine go_cV1 (cal := mX9_count) (q := 11) dL_refuses_8 lRL_14 vX9_count ⟨by decide, by decide⟩ rfl (by decide) (Nat.le_of_ble_eq_true rfl) (ok_count hC.1 hC.2.1 hC.2.2.2.2.2.2.1 hC.2.2.2.2.1 _) rfl ?_
  refine go_topi (aN11) ?_
  refine go_istore (q := 13) dL_refuses_11 (by decide) rfl rfl ?_
  refine go_aload_n (q := 14) dL_refuses_13 rfl rfl rfl ?_
  refine go_iload_n (q := 15) dL_refuses_14 rfl rfl rfl ?_
  refine go_callS [vR 0 0, vI (nI X)] (cal := mL_refusesAny) (q := 18) dL_refuses_15 lRL_95 vL_refusesAny ⟨by decide, by decide⟩ rfl (Nat.le_of_ble_eq_true rfl) (ok_refusesAny hC hpad hX) rfl (fun r15 M15 h15 => ?_)
  obtain ⟨rfl, hC1, hf1⟩ := h15
  replace hF := hF.tr hf1
  replace hC := hC1
  refine go_if_eq (q := 21) (t := 45) dL_refuses_18 (by decide) rfl (fun z => absurd z (by decide)) (fun _ => ?_)
  refine go_aload_n (q := 22) dL_refuses_21 rfl rfl rfl ?_
  refine go_cS1 (cal := mL_seen) (q := 25) dL_refuses_22 lRL_91 vL_seen ⟨by decide, by decide⟩ (Nat.le_of_ble_eq_true rfl) (ok_seen hC.1 hC.2.1 hC.2.2.2.2.2.2.1 hC.2.2.2.2.1) rfl ?_
  refine go_lload_n (q := 26) dL_refuses_25 rfl rfl rfl ?_
  refine go_lcmp (q := 27) dL_refuses_26 rfl ?_
  refine go_topi (lg_cmp_self _) ?_
  refine go_if_ne (q := 30) (t := 45) dL_refuses_27 (by decide) rfl (fun z => absurd z (nn rfl)) (fun _ => ?_)
  refine go_aload_n (q := 31) dL_refuses_30 rfl rfl rfl ?_
  refine go_bipush (q := 33) (v := 11) dL_refuses_31 (by decide) rfl ?_
  refine go_cV1 (cal := mX9_count) (q := 36) dL_refuses_33 lRL_14 vX9_count ⟨by decide, by decide⟩ rfl (by decide) (Nat.le_of_ble_eq_true rfl) (ok_count hC.1 hC.2.1 hC.2.2.2.2.2.2.1 hC.2.2.2.2.1 _) rfl ?_
  refine go_topi (aN11) ?_
  refine go_iload (q := 38) dL_refuses_36 rfl rfl ?_
  refine go_icmp_ne (q := 41) (t := 45) dL_refuses_38 (by decide) rfl (fun z => absurd z (nn rfl)) (fun _ => ?_)
  refine go_iconst (q := 42) (v := 1) dL_refuses_41 (by decide) rfl ?_
  refine go_goto (q := 46) dL_refuses_42 (by decide) ?_
  exact go_iretz dL_refuses_46 rfl (by decide) ⟨rfl, hC, hF⟩
