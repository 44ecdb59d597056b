/-! ===== the makings: History ===== -/
theorem nRX2_9n : KN RX2 9 3 blRX6 := ⟨RX6, TX6, 8, tyX6, rfl, kwRX6, tyX6_ok, k_t (i := 59) (by decide +kernel) rfl, k_t (i := 21) (by decide +kernel) rfl, k_t (i := 2) (by decide +kernel) rfl, fun b j hj => by rcases (show j = 0 ∨ j = 1 ∨ j = 2 ∨ j = 3 ∨ j = 4 ∨ j = 5 ∨ j = 6 ∨ j = 7 by omega) with rfl | rfl | rfl | rfl | rfl | rfl | rfl | rfl <;> rfl, rfl⟩
abbrev nX2 : KI := (yX2_init, cX2_init, 2, none, { frames := 2, cells := 31, slots := 545, locals := 32 })
theorem ok_X2 {F : List ((Nat × Nat) × (KG → va_E))} {S : Nat} (h7 : F.lookup (7, 0) = none) (h8 : F.lookup (8, 0) = none) (h1 : ∀ i, F.lookup (1, i) = none) (h2 : ∀ i, F.lookup (2, i) = none) (h3 : ∀ i, F.lookup (3, i) = none) (h4 : ∀ i, F.lookup (4, i) = none) (h5 : ∀ i, F.lookup (5, i) = none) (h6 : ∀ i, F.lookup (6, i) = none) : OkP nX2 7 0 (20, ((7, 0), ov 0 blRX2) :: F, S) (51, F, S + 5 + 8 + 20 + 20 + 20 + 20 + 20 + 8 + 20 + 20 + 20 + 20 + 20 + 8 + 20 + 20 + 20 + 20 + 20 + 8 + 20 + 20 + 20 + 20 + 20 + 8 + 20 + 20 + 20 + 20 + 20) := by
  refine okp_of (by decide) (by decide) rfl (by show 545 = S + 5 + 8 + 20 + 20 + 20 + 20 + 20 + 8 + 20 + 20 + 20 + 20 + 20 + 8 + 20 + 20 + 20 + 20 + 20 + 8 + 20 + 20 + 20 + 20 + 20 + 8 + 20 + 20 + 20 + 20 + 20 - S; omega) ?_
  show GoP nX2 _ _ _ [some (vR 7 0), none] [] 0
  refine gp_aload_n (q := 1) dX2_init_0 rfl rfl rfl ?_
  refine gp_obj (q := 4) dX2_init_1 sRX2_3 wOI wOC ⟨by decide, by decide⟩ rfl ?_
  refine gp_aload_n (q := 5) dX2_init_4 rfl rfl rfl ?_
  refine gp_iconst (q := 6) (v := nI 5) dX2_init_5 (by decide) rfl ?_
  refine gp_anew (q := 9) dX2_init_6 nRX2_9 rfl rfl (by dsimp only [BP]; omega) (by dsimp only [BP]; omega) (by dsimp only [BP]; omega) (by dsimp only [BP]; omega) rfl ?_
  refine gp_swap (by decide) ?_
  refine gp_put (q := 12) dX2_init_9 qRX2_11 rfl (by decide) (Nat.le_of_ble_eq_true rfl) (fun b => rfl) (fun b => rfl) (Nat.le_of_ble_eq_true rfl) rfl ?_
  refine gp_aload_n (q := 13) dX2_init_12 rfl rfl rfl ?_
  refine gp_iconst (q := 14) (v := 0) dX2_init_13 (by decide) rfl ?_
  refine gp_put (q := 17) dX2_init_14 qRX2_17 rfl (by decide) (Nat.le_of_ble_eq_true rfl) (fun b => rfl) (fun b => rfl) (Nat.le_of_ble_eq_true rfl) rfl ?_
  refine gp_swap (by decide) ?_
  refine gp_iconst (q := 18) (v := 0) dX2_init_17 (by decide) rfl ?_
  refine gp_istore_n (q := 19) dX2_init_18 rfl (by decide) (by decide) rfl ?_
  show GoP nX2 _ _ (21, ((8, 0), arO 0) :: ((7, 0), ov 0 [vR 8 0, vI 0]) :: F, S + 5) [some (vR 7 0), some (vI 0)] [] 19
  refine gp_iload_n (q := 20) dX2_init_19 rfl rfl rfl ?_
  refine gp_aload_n (q := 21) dX2_init_20 rfl rfl rfl ?_
  refine gp_getf (q := 24) (fl := [vR 8 0, vI 0]) dX2_init_21 fRX2_11 (by decide) (Nat.le_of_ble_eq_true rfl) rfl rfl rfl ?_
  refine gp_alen (q := 25) (j := 0) dX2_init_24 (Nat.le_of_ble_eq_true rfl) rfl rfl ?_
  refine gp_icmp_ge (q := 28) (t := 47) dX2_init_25 (by decide) rfl (fun z => absurd z (by decide)) (fun _ => ?_)
  refine gp_aload_n (q := 29) dX2_init_28 rfl rfl rfl ?_
  refine gp_getf (q := 32) (fl := [vR 8 0, vI 0]) dX2_init_29 fRX2_11 (by decide) (Nat.le_of_ble_eq_true rfl) rfl rfl rfl ?_
  refine gp_iload_n (q := 33) dX2_init_32 rfl rfl rfl ?_
  refine gp_new (q := 36) (k := 1) (i := 3) dX2_init_33 nRX2_9n rfl (by decide) (Nat.le_of_ble_eq_true rfl) (by show S ≤ S + 5; omega) (Nat.le_of_ble_eq_true rfl) (by show S + 5 + 8 ≤ S + 5 + 8 + 20 + 20 + 20 + 20 + 20 + 8 + 20 + 20 + 20 + 20 + 20 + 8 + 20 + 20 + 20 + 20 + 20 + 8 + 20 + 20 + 20 + 20 + 20 + 8 + 20 + 20 + 20 + 20 + 20; omega) rfl ?_
  refine gp_dup (q := 37) dX2_init_36 rfl rfl ?_
  refine gp_makeN (cal := nX6) (q := 40) dX2_init_37 (fun s h => h.2.2.2.1) (by show KCI nX6 5 (S + 5 + 8 + 20 + 20 + 20 + 20 + 20 - (S + 5 + 8)); rw [show S + 5 + 8 + 20 + 20 + 20 + 20 + 20 - (S + 5 + 8) = 100 by omega]; exact kX6) ⟨by decide, by decide⟩ (Nat.le_of_ble_eq_true rfl) (ok_X6 (i := 3) (F := ((8, 0), _) :: ((7, 0), _) :: F) (S := S + 5 + 8) (by decide) (lk_ne (by decide) (lk_ne (by decide) (h1 3))) (lk_ne (by decide) (lk_ne (by decide) (h2 3))) (lk_ne (by decide) (lk_ne (by decide) (h3 3))) (lk_ne (by decide) (lk_ne (by decide) (h4 3))) (lk_ne (by decide) (lk_ne (by decide) (h5 3))) (lk_ne (by decide) (lk_ne (by decide) (h6 3)))) ⟨Nat.le_of_ble_eq_true rfl, Nat.le_of_ble_eq_true rfl, Nat.le_of_ble_eq_true rfl⟩ ⟨by show S ≤ S + 5 + 8; omega, by show S + 5 + 8 ≤ S + 5 + 8 + 20 + 20 + 20 + 20 + 20; omega, by show S + 5 + 8 + 20 + 20 + 20 + 20 + 20 ≤ S + 5 + 8 + 20 + 20 + 20 + 20 + 20 + 8 + 20 + 20 + 20 + 20 + 20 + 8 + 20 + 20 + 20 + 20 + 20 + 8 + 20 + 20 + 20 + 20 + 20 + 8 + 20 + 20 + 20 + 20 + 20; omega⟩ rfl ?_
  refine gp_aast (q := 41) 0 dX2_init_40 rfl (by decide) (Nat.le_of_ble_eq_true rfl) (lk_ne (by decide) (h1 3)) rfl ?_
  refine gp_iinc (q := 44) (x := 0) (v := 1) dX2_init_41 (by decide) rfl (by decide) (by decide) rfl ?_
  refine gp_goto (q := 19) dX2_init_44 (by decide) ?_
  show GoP nX2 _ _ (27, ((8, 0), arO 1) :: ((7, 0), ov 0 [vR 8 0, vI 0]) :: F, S + 5 + 8 + 20 + 20 + 20 + 20 + 20) [some (vR 7 0), some (vI 1)] [] 19
  refine gp_iload_n (q := 20) dX2_init_19 rfl rfl rfl ?_
  refine gp_aload_n (q := 21) dX2_init_20 rfl rfl rfl ?_
  refine gp_getf (q := 24) (fl := [vR 8 0, vI 0]) dX2_init_21 fRX2_11 (by decide) (Nat.le_of_ble_eq_true rfl) rfl rfl rfl ?_
  refine gp_alen (q := 25) (j := 1) dX2_init_24 (Nat.le_of_ble_eq_true rfl) rfl rfl ?_
  refine gp_icmp_ge (q := 28) (t := 47) dX2_init_25 (by decide) rfl (fun z => absurd z (by decide)) (fun _ => ?_)
  refine gp_aload_n (q := 29) dX2_init_28 rfl rfl rfl ?_
  refine gp_getf (q := 32) (fl := [vR 8 0, vI 0]) dX2_init_29 fRX2_11 (by decide) (Nat.le_of_ble_eq_true rfl) rfl rfl rfl ?_
  refine gp_iload_n (q := 33) dX2_init_32 rfl rfl rfl ?_
  refine gp_new (q := 36) (k := 1) (i := 4) dX2_init_33 nRX2_9n rfl (by decide) (Nat.le_of_ble_eq_true rfl) (by show S ≤ S + 5 + 8 + 20 + 20 + 20 + 20 + 20; omega) (Nat.le_of_ble_eq_true rfl) (by show S + 5 + 8 + 20 + 20 + 20 + 20 + 20 + 8 ≤ S + 5 + 8 + 20 + 20 + 20 + 20 + 20 + 8 + 20 + 20 + 20 + 20 + 20 + 8 + 20 + 20 + 20 + 20 + 20 + 8 + 20 + 20 + 20 + 20 + 20 + 8 + 20 + 20 + 20 + 20 + 20; omega) rfl ?_
  refine gp_dup (q := 37) dX2_init_36 rfl rfl ?_
  refine gp_makeN (cal := nX6) (q := 40) dX2_init_37 (fun s h => h.2.2.2.1) (by show KCI nX6 5 (S + 5 + 8 + 20 + 20 + 20 + 20 + 20 + 8 + 20 + 20 + 20 + 20 + 20 - (S + 5 + 8 + 20 + 20 + 20 + 20 + 20 + 8)); rw [show S + 5 + 8 + 20 + 20 + 20 + 20 + 20 + 8 + 20 + 20 + 20 + 20 + 20 - (S + 5 + 8 + 20 + 20 + 20 + 20 + 20 + 8) = 100 by omega]; exact kX6) ⟨by decide, by decide⟩ (Nat.le_of_ble_eq_true rfl) (ok_X6 (i := 4) (F := ((8, 0), _) :: ((7, 0), _) :: F) (S := S + 5 + 8 + 20 + 20 + 20 + 20 + 20 + 8) (by decide) (lk_ne (by decide) (lk_ne (by decide) (h1 4))) (lk_ne (by decide) (lk_ne (by decide) (h2 4))) (lk_ne (by decide) (lk_ne (by decide) (h3 4))) (lk_ne (by decide) (lk_ne (by decide) (h4 4))) (lk_ne (by decide) (lk_ne (by decide) (h5 4))) (lk_ne (by decide) (lk_ne (by decide) (h6 4)))) ⟨Nat.le_of_ble_eq_true rfl, Nat.le_of_ble_eq_true rfl, Nat.le_of_ble_eq_true rfl⟩ ⟨by show S ≤ S + 5 + 8 + 20 + 20 + 20 + 20 + 20 + 8; omega, by show S + 5 + 8 + 20 + 20 + 20 + 20 + 20 + 8 ≤ S + 5 + 8 + 20 + 20 + 20 + 20 + 20 + 8 + 20 + 20 + 20 + 20 + 20; omega, by show S + 5 + 8 + 20 + 20 + 20 + 20 + 20 + 8 + 20 + 20 + 20 + 20 + 20 ≤ S + 5 + 8 + 20 + 20 + 20 + 20 + 20 + 8 + 20 + 20 + 20 + 20 + 20 + 8 + 20 + 20 + 20 + 20 + 20 + 8 + 20 + 20 + 20 + 20 + 20 + 8 + 20 + 20 + 20 + 20 + 20; omega⟩ rfl ?_
  refine gp_aast (q := 41) 1 dX2_init_40 rfl (by decide) (Nat.le_of_ble_eq_true rfl) (lk_ne (by decide) (h1 4)) rfl ?_
  refine gp_iinc (q := 44) (x := 1) (v := 1) dX2_init_41 (by decide) rfl (by decide) (by decide) rfl ?_
  refine gp_goto (q := 19) dX2_init_44 (by decide) ?_
  show GoP nX2 _ _ (33, ((8, 0), arO 2) :: ((7, 0), ov 0 [vR 8 0, vI 0]) :: F, S + 5 + 8 + 20 + 20 + 20 + 20 + 20 + 8 + 20 + 20 + 20 + 20 + 20) [some (vR 7 0), some (vI 2)] [] 19
  refine gp_iload_n (q := 20) dX2_init_19 rfl rfl rfl ?_
  refine gp_aload_n (q := 21) dX2_init_20 rfl rfl rfl ?_
  refine gp_getf (q := 24) (fl := [vR 8 0, vI 0]) dX2_init_21 fRX2_11 (by decide) (Nat.le_of_ble_eq_true rfl) rfl rfl rfl ?_
  refine gp_alen (q := 25) (j := 2) dX2_init_24 (Nat.le_of_ble_eq_true rfl) rfl rfl ?_
  refine gp_icmp_ge (q := 28) (t := 47) dX2_init_25 (by decide) rfl (fun z => absurd z (by decide)) (fun _ => ?_)
  refine gp_aload_n (q := 29) dX2_init_28 rfl rfl rfl ?_
  refine gp_getf (q := 32) (fl := [vR 8 0, vI 0]) dX2_init_29 fRX2_11 (by decide) (Nat.le_of_ble_eq_true rfl) rfl rfl rfl ?_
  refine gp_iload_n (q := 33) dX2_init_32 rfl rfl rfl ?_
  refine gp_new (q := 36) (k := 1) (i := 5) dX2_init_33 nRX2_9n rfl (by decide) (Nat.le_of_ble_eq_true rfl) (by show S ≤ S + 5 + 8 + 20 + 20 + 20 + 20 + 20 + 8 + 20 + 20 + 20 + 20 + 20; omega) (Nat.le_of_ble_eq_true rfl) (by show S + 5 + 8 + 20 + 20 + 20 + 20 + 20 + 8 + 20 + 20 + 20 + 20 + 20 + 8 ≤ S + 5 + 8 + 20 + 20 + 20 + 20 + 20 + 8 + 20 + 20 + 20 + 20 + 20 + 8 + 20 + 20 + 20 + 20 + 20 + 8 + 20 + 20 + 20 + 20 + 20 + 8 + 20 + 20 + 20 + 20 + 20; omega) rfl ?_
  refine gp_dup (q := 37) dX2_init_36 rfl rfl ?_
  refine gp_makeN (cal := nX6) (q := 40) dX2_init_37 (fun s h => h.2.2.2.1) (by show KCI nX6 5 (S + 5 + 8 + 20 + 20 + 20 + 20 + 20 + 8 + 20 + 20 + 20 + 20 + 20 + 8 + 20 + 20 + 20 + 20 + 20 - (S + 5 + 8 + 20 + 20 + 20 + 20 + 20 + 8 + 20 + 20 + 20 + 20 + 20 + 8)); rw [show S + 5 + 8 + 20 + 20 + 20 + 20 + 20 + 8 + 20 + 20 + 20 + 20 + 20 + 8 + 20 + 20 + 20 + 20 + 20 - (S + 5 + 8 + 20 + 20 + 20 + 20 + 20 + 8 + 20 + 20 + 20 + 20 + 20 + 8) = 100 by omega]; exact kX6) ⟨by decide, by decide⟩ (Nat.le_of_ble_eq_true rfl) (ok_X6 (i := 5) (F := ((8, 0), _) :: ((7, 0), _) :: F) (S := S + 5 + 8 + 20 + 20 + 20 + 20 + 20 + 8 + 20 + 20 + 20 + 20 + 20 + 8) (by decide) (lk_ne (by decide) (lk_ne (by decide) (h1 5))) (lk_ne (by decide) (lk_ne (by decide) (h2 5))) (lk_ne (by decide) (lk_ne (by decide) (h3 5))) (lk_ne (by decide) (lk_ne (by decide) (h4 5))) (lk_ne (by decide) (lk_ne (by decide) (h5 5))) (lk_ne (by decide) (lk_ne (by decide) (h6 5)))) ⟨Nat.le_of_ble_eq_true rfl, Nat.le_of_ble_eq_true rfl, Nat.le_of_ble_eq_true rfl⟩ ⟨by show S ≤ S + 5 + 8 + 20 + 20 + 20 + 20 + 20 + 8 + 20 + 20 + 20 + 20 + 20 + 8; omega, by show S + 5 + 8 + 20 + 20 + 20 + 20 + 20 + 8 + 20 + 20 + 20 + 20 + 20 + 8 ≤ S + 5 + 8 + 20 + 20 + 20 + 20 + 20 + 8 + 20 + 20 + 20 + 20 + 20 + 8 + 20 + 20 + 20 + 20 + 20; omega, by show S + 5 + 8 + 20 + 20 + 20 + 20 + 20 + 8 + 20 + 20 + 20 + 20 + 20 + 8 + 20 + 20 + 20 + 20 + 20 ≤ S + 5 + 8 + 20 + 20 + 20 + 20 + 20 + 8 + 20 + 20 + 20 + 20 + 20 + 8 + 20 + 20 + 20 + 20 + 20 + 8 + 20 + 20 + 20 + 20 + 20 + 8 + 20 + 20 + 20 + 20 + 20; omega⟩ rfl ?_
  refine gp_aast (q := 41) 2 dX2_init_40 rfl (by decide) (Nat.le_of_ble_eq_true rfl) (lk_ne (by decide) (h1 5)) rfl ?_
  refine gp_iinc (q := 44) (x := 2) (v := 1) dX2_init_41 (by decide) rfl (by decide) (by decide) rfl ?_
  refine gp_goto (q := 19) dX2_init_44 (by decide) ?_
  show GoP nX2 _ _ (39, ((8, 0), arO 3) :: ((7, 0), ov 0 [vR 8 0, vI 0]) :: F, S + 5 + 8 + 20 + 20 + 20 + 20 + 20 + 8 + 20 + 20 + 20 + 20 + 20 + 8 + 20 + 20 + 20 + 20 + 20) [some (vR 7 0), some (vI 3)] [] 19
  refine gp_iload_n (q := 20) dX2_init_19 rfl rfl rfl ?_
  refine gp_aload_n (q := 21) dX2_init_20 rfl rfl rfl ?_
  refine gp_getf (q := 24) (fl := [vR 8 0, vI 0]) dX2_init_21 fRX2_11 (by decide) (Nat.le_of_ble_eq_true rfl) rfl rfl rfl ?_
  refine gp_alen (q := 25) (j := 3) dX2_init_24 (Nat.le_of_ble_eq_true rfl) rfl rfl ?_
  refine gp_icmp_ge (q := 28) (t := 47) dX2_init_25 (by decide) rfl (fun z => absurd z (by decide)) (fun _ => ?_)
  refine gp_aload_n (q := 29) dX2_init_28 rfl rfl rfl ?_
  refine gp_getf (q := 32) (fl := [vR 8 0, vI 0]) dX2_init_29 fRX2_11 (by decide) (Nat.le_of_ble_eq_true rfl) rfl rfl rfl ?_
  refine gp_iload_n (q := 33) dX2_init_32 rfl rfl rfl ?_
  refine gp_new (q := 36) (k := 1) (i := 6) dX2_init_33 nRX2_9n rfl (by decide) (Nat.le_of_ble_eq_true rfl) (by show S ≤ S + 5 + 8 + 20 + 20 + 20 + 20 + 20 + 8 + 20 + 20 + 20 + 20 + 20 + 8 + 20 + 20 + 20 + 20 + 20; omega) (Nat.le_of_ble_eq_true rfl) (by show S + 5 + 8 + 20 + 20 + 20 + 20 + 20 + 8 + 20 + 20 + 20 + 20 + 20 + 8 + 20 + 20 + 20 + 20 + 20 + 8 ≤ S + 5 + 8 + 20 + 20 + 20 + 20 + 20 + 8 + 20 + 20 + 20 + 20 + 20 + 8 + 20 + 20 + 20 + 20 + 20 + 8 + 20 + 20 + 20 + 20 + 20 + 8 + 20 + 20 + 20 + 20 + 20; omega) rfl ?_
  refine gp_dup (q := 37) dX2_init_36 rfl rfl ?_
  refine gp_makeN (cal := nX6) (q := 40) dX2_init_37 (fun s h => h.2.2.2.1) (by show KCI nX6 5 (S + 5 + 8 + 20 + 20 + 20 + 20 + 20 + 8 + 20 + 20 + 20 + 20 + 20 + 8 + 20 + 20 + 20 + 20 + 20 + 8 + 20 + 20 + 20 + 20 + 20 - (S + 5 + 8 + 20 + 20 + 20 + 20 + 20 + 8 + 20 + 20 + 20 + 20 + 20 + 8 + 20 + 20 + 20 + 20 + 20 + 8)); rw [show S + 5 + 8 + 20 + 20 + 20 + 20 + 20 + 8 + 20 + 20 + 20 + 20 + 20 + 8 + 20 + 20 + 20 + 20 + 20 + 8 + 20 + 20 + 20 + 20 + 20 - (S + 5 + 8 + 20 + 20 + 20 + 20 + 20 + 8 + 20 + 20 + 20 + 20 + 20 + 8 + 20 + 20 + 20 + 20 + 20 + 8) = 100 by omega]; exact kX6) ⟨by decide, by decide⟩ (Nat.le_of_ble_eq_true rfl) (ok_X6 (i := 6) (F := ((8, 0), _) :: ((7, 0), _) :: F) (S := S + 5 + 8 + 20 + 20 + 20 + 20 + 20 + 8 + 20 + 20 + 20 + 20 + 20 + 8 + 20 + 20 + 20 + 20 + 20 + 8) (by decide) (lk_ne (by decide) (lk_ne (by decide) (h1 6))) (lk_ne (by decide) (lk_ne (by decide) (h2 6))) (lk_ne (by decide) (lk_ne (by decide) (h3 6))) (lk_ne (by decide) (lk_ne (by decide) (h4 6))) (lk_ne (by decide) (lk_ne (by decide) (h5 6))) (lk_ne (by decide) (lk_ne (by decide) (h6 6)))) ⟨Nat.le_of_ble_eq_true rfl, Nat.le_of_ble_eq_true rfl, Nat.le_of_ble_eq_true rfl⟩ ⟨by show S ≤ S + 5 + 8 + 20 + 20 + 20 + 20 + 20 + 8 + 20 + 20 + 20 + 20 + 20 + 8 + 20 + 20 + 20 + 20 + 20 + 8; omega, by show S + 5 + 8 + 20 + 20 + 20 + 20 + 20 + 8 + 20 + 20 + 20 + 20 + 20 + 8 + 20 + 20 + 20 + 20 + 20 + 8 ≤ S + 5 + 8 + 20 + 20 + 20 + 20 + 20 + 8 + 20 + 20 + 20 + 20 + 20 + 8 + 20 + 20 + 20 + 20 + 20 + 8 + 20 + 20 + 20 + 20 + 20; omega, by show S + 5 + 8 + 20 + 20 + 20 + 20 + 20 + 8 + 20 + 20 + 20 + 20 + 20 + 8 + 20 + 20 + 20 + 20 + 20 + 8 + 20 + 20 + 20 + 20 + 20 ≤ S + 5 + 8 + 20 + 20 + 20 + 20 + 20 + 8 + 20 + 20 + 20 + 20 + 20 + 8 + 20 + 20 + 20 + 20 + 20 + 8 + 20 + 20 + 20 + 20 + 20 + 8 + 20 + 20 + 20 + 20 + 20; omega⟩ rfl ?_
  refine gp_aast (q := 41) 3 dX2_init_40 rfl (by decide) (Nat.le_of_ble_eq_true rfl) (lk_ne (by decide) (h1 6)) rfl ?_
  refine gp_iinc (q := 44) (x := 3) (v := 1) dX2_init_41 (by decide) rfl (by decide) (by decide) rfl ?_
  refine gp_goto (q := 19) dX2_init_44 (by decide) ?_
  show GoP nX2 _ _ (45, ((8, 0), arO 4) :: ((7, 0), ov 0 [vR 8 0, vI 0]) :: F, S + 5 + 8 + 20 + 20 + 20 + 20 + 20 + 8 + 20 + 20 + 20 + 20 + 20 + 8 + 20 + 20 + 20 + 20 + 20 + 8 + 20 + 20 + 20 + 20 + 20) [some (vR 7 0), some (vI 4)] [] 19
  refine gp_iload_n (q := 20) dX2_init_19 rfl rfl rfl ?_
  refine gp_aload_n (q := 21) dX2_init_20 rfl rfl rfl ?_
  refine gp_getf (q := 24) (fl := [vR 8 0, vI 0]) dX2_init_21 fRX2_11 (by decide) (Nat.le_of_ble_eq_true rfl) rfl rfl rfl ?_
  refine gp_alen (q := 25) (j := 4) dX2_init_24 (Nat.le_of_ble_eq_true rfl) rfl rfl ?_
  refine gp_icmp_ge (q := 28) (t := 47) dX2_init_25 (by decide) rfl (fun z => absurd z (by decide)) (fun _ => ?_)
  refine gp_aload_n (q := 29) dX2_init_28 rfl rfl rfl ?_
  refine gp_getf (q := 32) (fl := [vR 8 0, vI 0]) dX2_init_29 fRX2_11 (by decide) (Nat.le_of_ble_eq_true rfl) rfl rfl rfl ?_
  refine gp_iload_n (q := 33) dX2_init_32 rfl rfl rfl ?_
  refine gp_new (q := 36) (k := 1) (i := 7) dX2_init_33 nRX2_9n rfl (by decide) (Nat.le_of_ble_eq_true rfl) (by show S ≤ S + 5 + 8 + 20 + 20 + 20 + 20 + 20 + 8 + 20 + 20 + 20 + 20 + 20 + 8 + 20 + 20 + 20 + 20 + 20 + 8 + 20 + 20 + 20 + 20 + 20; omega) (Nat.le_of_ble_eq_true rfl) (by show S + 5 + 8 + 20 + 20 + 20 + 20 + 20 + 8 + 20 + 20 + 20 + 20 + 20 + 8 + 20 + 20 + 20 + 20 + 20 + 8 + 20 + 20 + 20 + 20 + 20 + 8 ≤ S + 5 + 8 + 20 + 20 + 20 + 20 + 20 + 8 + 20 + 20 + 20 + 20 + 20 + 8 + 20 + 20 + 20 + 20 + 20 + 8 + 20 + 20 + 20 + 20 + 20 + 8 + 20 + 20 + 20 + 20 + 20; omega) rfl ?_
  refine gp_dup (q := 37) dX2_init_36 rfl rfl ?_
  refine gp_makeN (cal := nX6) (q := 40) dX2_init_37 (fun s h => h.2.2.2.1) (by show KCI nX6 5 (S + 5 + 8 + 20 + 20 + 20 + 20 + 20 + 8 + 20 + 20 + 20 + 20 + 20 + 8 + 20 + 20 + 20 + 20 + 20 + 8 + 20 + 20 + 20 + 20 + 20 + 8 + 20 + 20 + 20 + 20 + 20 - (S + 5 + 8 + 20 + 20 + 20 + 20 + 20 + 8 + 20 + 20 + 20 + 20 + 20 + 8 + 20 + 20 + 20 + 20 + 20 + 8 + 20 + 20 + 20 + 20 + 20 + 8)); rw [show S + 5 + 8 + 20 + 20 + 20 + 20 + 20 + 8 + 20 + 20 + 20 + 20 + 20 + 8 + 20 + 20 + 20 + 20 + 20 + 8 + 20 + 20 + 20 + 20 + 20 + 8 + 20 + 20 + 20 + 20 + 20 - (S + 5 + 8 + 20 + 20 + 20 + 20 + 20 + 8 + 20 + 20 + 20 + 20 + 20 + 8 + 20 + 20 + 20 + 20 + 20 + 8 + 20 + 20 + 20 + 20 + 20 + 8) = 100 by omega]; exact kX6) ⟨by decide, by decide⟩ (Nat.le_of_ble_eq_true rfl) (ok_X6 (i := 7) (F := ((8, 0), _) :: ((7, 0), _) :: F) (S := S + 5 + 8 + 20 + 20 + 20 + 20 + 20 + 8 + 20 + 20 + 20 + 20 + 20 + 8 + 20 + 20 + 20 + 20 + 20 + 8 + 20 + 20 + 20 + 20 + 20 + 8) (by decide) (lk_ne (by decide) (lk_ne (by decide) (h1 7))) (lk_ne (by decide) (lk_ne (by decide) (h2 7))) (lk_ne (by decide) (lk_ne (by decide) (h3 7))) (lk_ne (by decide) (lk_ne (by decide) (h4 7))) (lk_ne (by decide) (lk_ne (by decide) (h5 7))) (lk_ne (by decide) (lk_ne (by decide) (h6 7)))) ⟨Nat.le_of_ble_eq_true rfl, Nat.le_of_ble_eq_true rfl, Nat.le_of_ble_eq_true rfl⟩ ⟨by show S ≤ S + 5 + 8 + 20 + 20 + 20 + 20 + 20 + 8 + 20 + 20 + 20 + 20 + 20 + 8 + 20 + 20 + 20 + 20 + 20 + 8 + 20 + 20 + 20 + 20 + 20 + 8; omega, by show S + 5 + 8 + 20 + 20 + 20 + 20 + 20 + 8 + 20 + 20 + 20 + 20 + 20 + 8 + 20 + 20 + 20 + 20 + 20 + 8 + 20 + 20 + 20 + 20 + 20 + 8 ≤ S + 5 + 8 + 20 + 20 + 20 + 20 + 20 + 8 + 20 + 20 + 20 + 20 + 20 + 8 + 20 + 20 + 20 + 20 + 20 + 8 + 20 + 20 + 20 + 20 + 20 + 8 + 20 + 20 + 20 + 20 + 20; omega, by show S + 5 + 8 + 20 + 20 + 20 + 20 + 20 + 8 + 20 + 20 + 20 + 20 + 20 + 8 + 20 + 20 + 20 + 20 + 20 + 8 + 20 + 20 + 20 + 20 + 20 + 8 + 20 + 20 + 20 + 20 + 20 ≤ S + 5 + 8 + 20 + 20 + 20 + 20 + 20 + 8 + 20 + 20 + 20 + 20 + 20 + 8 + 20 + 20 + 20 + 20 + 20 + 8 + 20 + 20 + 20 + 20 + 20 + 8 + 20 + 20 + 20 + 20 + 20; omega⟩ rfl ?_
  refine gp_aast (q := 41) 4 dX2_init_40 rfl (by decide) (Nat.le_of_ble_eq_true rfl) (lk_ne (by decide) (h1 7)) rfl ?_
  refine gp_iinc (q := 44) (x := 4) (v := 1) dX2_init_41 (by decide) rfl (by decide) (by decide) rfl ?_
  refine gp_goto (q := 19) dX2_init_44 (by decide) ?_
  show GoP nX2 _ _ (51, ((8, 0), arO 5) :: ((7, 0), ov 0 [vR 8 0, vI 0]) :: F, S + 5 + 8 + 20 + 20 + 20 + 20 + 20 + 8 + 20 + 20 + 20 + 20 + 20 + 8 + 20 + 20 + 20 + 20 + 20 + 8 + 20 + 20 + 20 + 20 + 20 + 8 + 20 + 20 + 20 + 20 + 20) [some (vR 7 0), some (vI 5)] [] 19
  refine gp_iload_n (q := 20) dX2_init_19 rfl rfl rfl ?_
  refine gp_aload_n (q := 21) dX2_init_20 rfl rfl rfl ?_
  refine gp_getf (q := 24) (fl := [vR 8 0, vI 0]) dX2_init_21 fRX2_11 (by decide) (Nat.le_of_ble_eq_true rfl) rfl rfl rfl ?_
  refine gp_alen (q := 25) (j := 5) dX2_init_24 (Nat.le_of_ble_eq_true rfl) rfl rfl ?_
  refine gp_icmp_ge (q := 28) (t := 47) dX2_init_25 (by decide) rfl (fun _ => ?_) (fun z => absurd (by decide) z)
  refine gp_doneA (lk_ne (by decide) h8) ?_
  refine gp_done (M := (0, [], 0)) (ci := 0) rfl rfl h7 ?_
  exact gp_ret dX2_init_47 rfl
