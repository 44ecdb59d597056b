abbrev nX5 : KI := (yX5_init, cX5_init, 1, none, { frames := 1, cells := 1, slots := 60, locals := 12 })
theorem ok_X5 {F : List ((Nat × Nat) × (KG → va_E))} {S : Nat} (h9 : F.lookup (9, 0) = none) (h10 : F.lookup (10, 0) = none) : OkP nX5 9 0 (52, ((9, 0), ov 2 blRX5) :: F, S) (53, F, S + 60) := by
  refine okp_of (by decide) (by decide) rfl (by show 60 = S + 60 - S; omega) ?_
  show GoP nX5 _ _ _ [some (vR 9 0)] [] 0
  refine gp_aload_n (q := 1) dX5_init_0 rfl rfl rfl ?_
  refine gp_obj (q := 4) dX5_init_1 sRX5_3 wOI wOC ⟨by decide, by decide⟩ rfl ?_
  refine gp_aload_n (q := 5) dX5_init_4 rfl rfl rfl ?_
  refine gp_bipush (q := 7) (v := 60) dX5_init_5 (by decide) rfl ?_
  refine gp_newI (q := 9) (k := 10) (i := 0) (n := 60) dX5_init_7 wA_int rfl (by decide) rfl rfl (by decide) rfl (by decide) (lk_ne (by decide) h10) (by dsimp only [BP]; omega) (by dsimp only [BP]; omega) (by dsimp only [BP]; omega) (by dsimp only [BP]; omega) rfl ?_
  refine gp_put (q := 12) dX5_init_9 qRX5_11 rfl (by decide) (by decide) (fun b => rfl) (fun b => rfl) (Nat.le_of_ble_eq_true rfl) rfl ?_
  refine gp_aload_n (q := 13) dX5_init_12 rfl rfl rfl ?_
  refine gp_iconst (q := 14) (v := 0) dX5_init_13 (by decide) rfl ?_
  refine gp_put (q := 17) dX5_init_14 qRX5_15 rfl (by decide) (by decide) (fun b => rfl) (fun b => rfl) (Nat.le_of_ble_eq_true rfl) rfl ?_
  refine gp_done (M := (0, [], 0)) (ci := 2) rfl rfl h9 ?_
  exact gp_ret dX5_init_17 rfl
