abbrev nX5 : KI := (yX5_init, cX5_init, 1, none, { frames := 1, cells := 1, slots := 60, locals := 12 })
theorem ok_X5 {F : List ((Nat × Nat) × (KG → va_E))} {S : Nat} (h9 : F.lookup (9, 0) = none) (h10 : F.lookup (10, 0) = none) : OkP nX5 9 0 (52, ((9, 0), ov 2 blRX5) :: F, S) (53, F, S + 60) := by
  refine okp_of (by decide) (by decide) rfl (by show 60 = S + 60 - S; omega) ?_
  show GoP nX5 _ _ _ [some (vR 9 0)] [] 0
  refine gp_aload_n (q := 1) dX5_init_0 rfl rfl rfl ?_
  refine gp_obj (q := 4) dX5_init_1 sRX5_3 wOI wOC ⟨by decide, by decide⟩ rfl ?_
  refine gp_aload_n (q := 5) dX5_init_4 rfl rfl rfl ?_
  refine gp_bipush (q := 7) (v := 60) dX5_init_5 (by decide) rfl ?_
  refine gp_newI (q := 9) (k := 10) (i := 0) (n := 60) dX5_init_7 wA_int rfl (by decide) rfl rfl (by decide) rfl (by decide) (lk_ne (by decide) h10) (by dsimp only [BP]; omega) (by dsimp only [BP]; omega) (by dsimp only [BP]; omega) (by dsimp only [BP]; omega) rfl ?_
  refine gp_put (q := 12) dX5_init_9 qRX5_11 rfl (by decide) (by decide) (fun b => rfl) (fun b => rfl) (Nat.le_of_ble_eq_true rfl) rfl ?_
  refine gp_aload_n (q := 13) dX5_init_12 rfl rfl rfl ?_
  refine gp_iconst (q := 14) (v := 0) dX5_init_13 (by decide) rfl ?_
  refine gp_put (q := 17) dX5_init_14 qRX5_15 rfl (by decide) (by decide) (fun b => rfl) (fun b => rfl) (Nat.le_of_ble_eq_true rfl) rfl ?_
  refine gp_done (M := (0, [], 0)) (ci := 2) rfl rfl h9 ?_
  exact gp_ret dX5_init_17 rfl

abbrev nX10 : KI := (yX10_init, cX10_init, 1, none, { frames := 1, cells := 7, slots := 32012, locals := 12 })
theorem ok_X10 {F : List ((Nat × Nat) × (KG → va_E))} {S : Nat} (h14 : F.lookup (14, 0) = none) (h15 : F.lookup (15, 0) = none) (h16 : F.lookup (16, 0) = none) (h17 : F.lookup (17, 0) = none) (h18 : F.lookup (18, 0) = none) (h19 : F.lookup (19, 0) = none) (h20 : F.lookup (20, 0) = none) (h21 : F.lookup (21, 0) = none) : OkP nX10 14 0 (61, ((14, 0), ov 6 blRX10) :: F, S) (68, F, S + 103 + 412 + 103 + 60 + 84 + 15625 + 15625) := by
  refine okp_of (by decide) (by decide) rfl (by show 32012 = S + 103 + 412 + 103 + 60 + 84 + 15625 + 15625 - S; omega) ?_
  show GoP nX10 _ _ _ [some (vR 14 0)] [] 0
  refine gp_aload_n (q := 1) dX10_init_0 rfl rfl rfl ?_
  refine gp_obj (q := 4) dX10_init_1 sRX10_1 wOI wOC ⟨by decide, by decide⟩ rfl ?_
  refine gp_aload_n (q := 5) dX10_init_4 rfl rfl rfl ?_
  refine gp_bipush (q := 7) (v := 103) dX10_init_5 (by decide) rfl ?_
  refine gp_newI (q := 9) (k := 15) (i := 0) (n := 103) dX10_init_7 wA_int rfl (by decide) rfl rfl (by decide) rfl (by decide) (lk_ne (by decide) h15) (by dsimp only [BP]; omega) (by dsimp only [BP]; omega) (by dsimp only [BP]; omega) (by dsimp only [BP]; omega) rfl ?_
  refine gp_put (q := 12) dX10_init_9 qRX10_7 rfl (by decide) (by decide) (fun b => rfl) (fun b => rfl) (Nat.le_of_ble_eq_true rfl) rfl ?_
  refine gp_aload_n (q := 13) dX10_init_12 rfl rfl rfl ?_
  refine gp_sipush (q := 16) (v := 412) dX10_init_13 (by decide) rfl ?_
  refine gp_newI (q := 18) (k := 16) (i := 0) (n := 412) dX10_init_16 wA_int rfl (by decide) rfl rfl (by decide) rfl (by decide) (lk_ne (by decide) h16) (by dsimp only [BP]; omega) (by dsimp only [BP]; omega) (by dsimp only [BP]; omega) (by dsimp only [BP]; omega) rfl ?_
  refine gp_put (q := 21) dX10_init_18 qRX10_13 rfl (by decide) (by decide) (fun b => rfl) (fun b => rfl) (Nat.le_of_ble_eq_true rfl) rfl ?_
  refine gp_aload_n (q := 22) dX10_init_21 rfl rfl rfl ?_
  refine gp_bipush (q := 24) (v := 103) dX10_init_22 (by decide) rfl ?_
  refine gp_newI (q := 26) (k := 17) (i := 0) (n := 103) dX10_init_24 wA_int rfl (by decide) rfl rfl (by decide) rfl (by decide) (lk_ne (by decide) h17) (by dsimp only [BP]; omega) (by dsimp only [BP]; omega) (by dsimp only [BP]; omega) (by dsimp only [BP]; omega) rfl ?_
  refine gp_put (q := 29) dX10_init_26 qRX10_16 rfl (by decide) (by decide) (fun b => rfl) (fun b => rfl) (Nat.le_of_ble_eq_true rfl) rfl ?_
  refine gp_aload_n (q := 30) dX10_init_29 rfl rfl rfl ?_
  refine gp_bipush (q := 32) (v := 60) dX10_init_30 (by decide) rfl ?_
  refine gp_newI (q := 34) (k := 18) (i := 0) (n := 60) dX10_init_32 wA_int rfl (by decide) rfl rfl (by decide) rfl (by decide) (lk_ne (by decide) h18) (by dsimp only [BP]; omega) (by dsimp only [BP]; omega) (by dsimp only [BP]; omega) (by dsimp only [BP]; omega) rfl ?_
  refine gp_put (q := 37) dX10_init_34 qRX10_19 rfl (by decide) (by decide) (fun b => rfl) (fun b => rfl) (Nat.le_of_ble_eq_true rfl) rfl ?_
  refine gp_aload_n (q := 38) dX10_init_37 rfl rfl rfl ?_
  refine gp_bipush (q := 40) (v := (-4)) dX10_init_38 (by decide) rfl ?_
  refine gp_put (q := 43) dX10_init_40 qRX10_22 rfl (by decide) (by decide) (fun b => rfl) (fun b => rfl) (Nat.le_of_ble_eq_true rfl) rfl ?_
  refine gp_aload_n (q := 44) dX10_init_43 rfl rfl rfl ?_
  refine gp_bipush (q := 46) (v := (-4)) dX10_init_44 (by decide) rfl ?_
  refine gp_put (q := 49) dX10_init_46 qRX10_26 rfl (by decide) (by decide) (fun b => rfl) (fun b => rfl) (Nat.le_of_ble_eq_true rfl) rfl ?_
  refine gp_aload_n (q := 50) dX10_init_49 rfl rfl rfl ?_
  refine gp_bipush (q := 52) (v := (-4)) dX10_init_50 (by decide) rfl ?_
  refine gp_put (q := 55) dX10_init_52 qRX10_29 rfl (by decide) (by decide) (fun b => rfl) (fun b => rfl) (Nat.le_of_ble_eq_true rfl) rfl ?_
  refine gp_aload_n (q := 56) dX10_init_55 rfl rfl rfl ?_
  refine gp_bipush (q := 58) (v := 84) dX10_init_56 (by decide) rfl ?_
  refine gp_newI (q := 60) (k := 19) (i := 0) (n := 84) dX10_init_58 wA_int rfl (by decide) rfl rfl (by decide) rfl (by decide) (lk_ne (by decide) h19) (by dsimp only [BP]; omega) (by dsimp only [BP]; omega) (by dsimp only [BP]; omega) (by dsimp only [BP]; omega) rfl ?_
  refine gp_put (q := 63) dX10_init_60 qRX10_32 rfl (by decide) (by decide) (fun b => rfl) (fun b => rfl) (Nat.le_of_ble_eq_true rfl) rfl ?_
  refine gp_aload_n (q := 64) dX10_init_63 rfl rfl rfl ?_
  refine gp_sipush (q := 67) (v := 15625) dX10_init_64 (by decide) rfl ?_
  refine gp_newI (q := 69) (k := 20) (i := 0) (n := 15625) dX10_init_67 wA_int rfl (by decide) rfl rfl (by decide) rfl (by decide) (lk_ne (by decide) h20) (by dsimp only [BP]; omega) (by dsimp only [BP]; omega) (by dsimp only [BP]; omega) (by dsimp only [BP]; omega) rfl ?_
  refine gp_put (q := 72) dX10_init_69 qRX10_35 rfl (by decide) (by decide) (fun b => rfl) (fun b => rfl) (Nat.le_of_ble_eq_true rfl) rfl ?_
  refine gp_aload_n (q := 73) dX10_init_72 rfl rfl rfl ?_
  refine gp_sipush (q := 76) (v := 15625) dX10_init_73 (by decide) rfl ?_
  refine gp_newI (q := 78) (k := 21) (i := 0) (n := 15625) dX10_init_76 wA_int rfl (by decide) rfl rfl (by decide) rfl (by decide) (lk_ne (by decide) h21) (by dsimp only [BP]; omega) (by dsimp only [BP]; omega) (by dsimp only [BP]; omega) (by dsimp only [BP]; omega) rfl ?_
  refine gp_put (q := 81) dX10_init_78 qRX10_38 rfl (by decide) (by decide) (fun b => rfl) (fun b => rfl) (Nat.le_of_ble_eq_true rfl) rfl ?_
  refine gp_done (M := (0, [], 0)) (ci := 6) rfl rfl h14 ?_
  exact gp_ret dX10_init_81 rfl
