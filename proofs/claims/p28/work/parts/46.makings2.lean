abbrev nX6 : KI := (yX6_init, cX6_init, 1, none, { frames := 1, cells := 5, slots := 100, locals := 12 })
theorem ok_X6 {i : Nat} (hi : i < 8) {F : List ((Nat × Nat) × (KG → va_E))} {S : Nat} (h1 : F.lookup (1, i) = none) (h2 : F.lookup (2, i) = none) (h3 : F.lookup (3, i) = none) (h4 : F.lookup (4, i) = none) (h5 : F.lookup (5, i) = none) (h6 : F.lookup (6, i) = none) : OkP nX6 1 i (k_off 1 i + 1, ((1, i), ov 3 blRX6) :: F, S) (k_off 1 i + 6, F, S + 20 + 20 + 20 + 20 + 20) := by
  refine okp_of (by decide) (by decide) (by show 5 = k_off 1 i + 6 - (k_off 1 i + 1); omega) (by show 100 = S + 20 + 20 + 20 + 20 + 20 - S; omega) ?_
  show GoP nX6 _ _ _ [some (vR 1 i)] [] 0
  refine gp_aload_n (q := 1) dX6_init_0 rfl rfl rfl ?_
  refine gp_obj (q := 4) dX6_init_1 sRX6_3 wOI wOC ⟨by decide, by decide⟩ rfl ?_
  refine gp_aload_n (q := 5) dX6_init_4 rfl rfl rfl ?_
  refine gp_bipush (q := 7) (v := 20) dX6_init_5 (by decide) rfl ?_
  refine gp_newI (q := 9) (k := 2) (i := i) (n := 20) dX6_init_7 wA_int rfl (by decide) rfl rfl (by decide) rfl hi (lk_ne (by omega) h2) (by dsimp only [BP]; omega) (by dsimp only [BP]; omega) (by dsimp only [BP]; omega) (by dsimp only [BP]; omega) rfl ?_
  refine gp_put (q := 12) dX6_init_9 qRX6_9 rfl hi (by omega) (fun b => rfl) (fun b => rfl) (Nat.le_of_ble_eq_true rfl) rfl ?_
  refine gp_aload_n (q := 13) dX6_init_12 rfl rfl rfl ?_
  refine gp_bipush (q := 15) (v := 20) dX6_init_13 (by decide) rfl ?_
  refine gp_newZ (q := 17) (k := 3) (i := i) (n := 20) dX6_init_15 wA_boolean rfl (by decide) rfl rfl rfl hi (lk_ne (by omega) h3) (by dsimp only [BP]; omega) (by dsimp only [BP]; omega) (by dsimp only [BP]; omega) (by dsimp only [BP]; omega) rfl ?_
  refine gp_put (q := 20) dX6_init_17 qRX6_15 rfl hi (by omega) (fun b => rfl) (fun b => rfl) (Nat.le_of_ble_eq_true rfl) rfl ?_
  refine gp_aload_n (q := 21) dX6_init_20 rfl rfl rfl ?_
  refine gp_bipush (q := 23) (v := 20) dX6_init_21 (by decide) rfl ?_
  refine gp_newI (q := 25) (k := 4) (i := i) (n := 20) dX6_init_23 wA_int rfl (by decide) rfl rfl (by decide) rfl hi (lk_ne (by omega) h4) (by dsimp only [BP]; omega) (by dsimp only [BP]; omega) (by dsimp only [BP]; omega) (by dsimp only [BP]; omega) rfl ?_
  refine gp_put (q := 28) dX6_init_25 qRX6_19 rfl hi (by omega) (fun b => rfl) (fun b => rfl) (Nat.le_of_ble_eq_true rfl) rfl ?_
  refine gp_aload_n (q := 29) dX6_init_28 rfl rfl rfl ?_
  refine gp_bipush (q := 31) (v := 20) dX6_init_29 (by decide) rfl ?_
  refine gp_newI (q := 33) (k := 5) (i := i) (n := 20) dX6_init_31 wA_int rfl (by decide) rfl rfl (by decide) rfl hi (lk_ne (by omega) h5) (by dsimp only [BP]; omega) (by dsimp only [BP]; omega) (by dsimp only [BP]; omega) (by dsimp only [BP]; omega) rfl ?_
  refine gp_put (q := 36) dX6_init_33 qRX6_22 rfl hi (by omega) (fun b => rfl) (fun b => rfl) (Nat.le_of_ble_eq_true rfl) rfl ?_
  refine gp_aload_n (q := 37) dX6_init_36 rfl rfl rfl ?_
  refine gp_bipush (q := 39) (v := 20) dX6_init_37 (by decide) rfl ?_
  refine gp_newI (q := 41) (k := 6) (i := i) (n := 20) dX6_init_39 wA_int rfl (by decide) rfl rfl (by decide) rfl hi (lk_ne (by omega) h6) (by dsimp only [BP]; omega) (by dsimp only [BP]; omega) (by dsimp only [BP]; omega) (by dsimp only [BP]; omega) rfl ?_
  refine gp_put (q := 44) dX6_init_41 qRX6_25 rfl hi (by omega) (fun b => rfl) (fun b => rfl) (Nat.le_of_ble_eq_true rfl) rfl ?_
  refine gp_aload_n (q := 45) dX6_init_44 rfl rfl rfl ?_
  refine gp_iconst (q := 46) (v := 0) dX6_init_45 (by decide) rfl ?_
  refine gp_put (q := 49) dX6_init_46 qRX6_28 rfl hi (by omega) (fun b => rfl) (fun b => rfl) (Nat.le_of_ble_eq_true rfl) rfl ?_
  refine gp_aload_n (q := 50) dX6_init_49 rfl rfl rfl ?_
  refine gp_iconst (q := 51) (v := 0) dX6_init_50 (by decide) rfl ?_
  refine gp_put (q := 54) dX6_init_51 qRX6_32 rfl hi (by omega) (fun b => rfl) (fun b => rfl) (Nat.le_of_ble_eq_true rfl) rfl ?_
  refine gp_aload_n (q := 55) dX6_init_54 rfl rfl rfl ?_
  refine gp_iconst (q := 56) (v := 0) dX6_init_55 (by decide) rfl ?_
  refine gp_put (q := 59) dX6_init_56 qRX6_35 rfl hi (by omega) (fun b => rfl) (fun b => rfl) (Nat.le_of_ble_eq_true rfl) rfl ?_
  refine gp_done (M := (0, [], 0)) (ci := 3) rfl rfl h1 ?_
  exact gp_ret dX6_init_59 rfl
