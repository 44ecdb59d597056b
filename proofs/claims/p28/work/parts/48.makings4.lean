/-! ===== the makings: LineSearch ===== -/
theorem kX7 : KCI nX7 1 245 := ⟨k_t (i := 92) (by decide +kernel) rfl, k_t (i := 6) (by decide +kernel) rfl, k_t (i := 91) (by decide +kernel) rfl, rfl, rfl, ⟨by decide, by decide, rfl⟩, rfl, rfl⟩
theorem kX6 : KCI nX6 5 100 := ⟨k_t (i := 24) (by decide +kernel) rfl, k_t (i := 2) (by decide +kernel) rfl, k_t (i := 23) (by decide +kernel) rfl, rfl, rfl, ⟨by decide, by decide, rfl⟩, rfl, rfl⟩
abbrev nX4 : KI := (yX4_init, cX4_init, 1, none, { frames := 2, cells := 6, slots := 738, locals := 32 })
theorem ok_X4 {F : List ((Nat × Nat) × (KG → va_E))} {S : Nat} (h11 : F.lookup (11, 0) = none) (h12 : ∀ i, F.lookup (12, i) = none) (h13 : ∀ i, F.lookup (13, i) = none) : OkP nX4 11 0 (54, ((11, 0), ov 1 blRX4) :: F, S) (60, F, S + 1 + 245 + 1 + 245 + 1 + 245) := by
  refine okp_of (by decide) (by decide) rfl (by show 738 = S + 1 + 245 + 1 + 245 + 1 + 245 - S; omega) ?_
  show GoP nX4 _ _ _ [some (vR 11 0)] [] 0
  refine gp_aload_n (q := 1) dX4_init_0 rfl rfl rfl ?_
  refine gp_obj (q := 4) dX4_init_1 sRX4_3 wOI wOC ⟨by decide, by decide⟩ rfl ?_
  refine gp_aload_n (q := 5) dX4_init_4 rfl rfl rfl ?_
  refine gp_new (q := 8) (k := 12) (i := 0) dX4_init_5 nRX4_9 rfl (by decide) (Nat.le_of_ble_eq_true rfl) (by show S ≤ S; omega) (Nat.le_of_ble_eq_true rfl) (by show S + 1 ≤ S + 1 + 245 + 1 + 245 + 1 + 245; omega) rfl ?_
  refine gp_dup (q := 9) dX4_init_8 rfl rfl ?_
  refine gp_makeN (cal := nX7) (q := 12) dX4_init_9 (fun s h => h.2.2.2.2.1) (by show KCI nX7 1 (S + 1 + 245 - (S + 1)); rw [Nat.add_sub_cancel_left]; exact kX7) ⟨by decide, by decide⟩ (Nat.le_of_ble_eq_true rfl) (ok_X7 (i := 0) (F := ((11, 0), _) :: F) (S := S + 1) (by decide) (lk_ne (by decide) (h12 0)) (lk_ne (by decide) (h13 0))) ⟨Nat.le_of_ble_eq_true rfl, Nat.le_of_ble_eq_true rfl, Nat.le_of_ble_eq_true rfl⟩ ⟨by show S ≤ S + 1; omega, by show S + 1 ≤ S + 1 + 245; omega, by show S + 1 + 245 ≤ S + 1 + 245 + 1 + 245 + 1 + 245; omega⟩ rfl ?_
  refine gp_put (q := 15) dX4_init_12 qRX4_12 rfl (by decide) (Nat.le_of_ble_eq_true rfl) (fun b => rfl) (fun b => rfl) (Nat.le_of_ble_eq_true rfl) rfl ?_
  refine gp_aload_n (q := 16) dX4_init_15 rfl rfl rfl ?_
  refine gp_new (q := 19) (k := 12) (i := 1) dX4_init_16 nRX4_9 rfl (by decide) (Nat.le_of_ble_eq_true rfl) (by show S ≤ S + 1 + 245; omega) (Nat.le_of_ble_eq_true rfl) (by show S + 1 + 245 + 1 ≤ S + 1 + 245 + 1 + 245 + 1 + 245; omega) rfl ?_
  refine gp_dup (q := 20) dX4_init_19 rfl rfl ?_
  refine gp_makeN (cal := nX7) (q := 23) dX4_init_20 (fun s h => h.2.2.2.2.1) (by show KCI nX7 1 (S + 1 + 245 + 1 + 245 - (S + 1 + 245 + 1)); rw [Nat.add_sub_cancel_left]; exact kX7) ⟨by decide, by decide⟩ (Nat.le_of_ble_eq_true rfl) (ok_X7 (i := 1) (F := ((11, 0), _) :: F) (S := S + 1 + 245 + 1) (by decide) (lk_ne (by decide) (h12 1)) (lk_ne (by decide) (h13 1))) ⟨Nat.le_of_ble_eq_true rfl, Nat.le_of_ble_eq_true rfl, Nat.le_of_ble_eq_true rfl⟩ ⟨by show S ≤ S + 1 + 245 + 1; omega, by show S + 1 + 245 + 1 ≤ S + 1 + 245 + 1 + 245; omega, by show S + 1 + 245 + 1 + 245 ≤ S + 1 + 245 + 1 + 245 + 1 + 245; omega⟩ rfl ?_
  refine gp_put (q := 26) dX4_init_23 qRX4_18 rfl (by decide) (Nat.le_of_ble_eq_true rfl) (fun b => rfl) (fun b => rfl) (Nat.le_of_ble_eq_true rfl) rfl ?_
  refine gp_aload_n (q := 27) dX4_init_26 rfl rfl rfl ?_
  refine gp_new (q := 30) (k := 12) (i := 2) dX4_init_27 nRX4_9 rfl (by decide) (Nat.le_of_ble_eq_true rfl) (by show S ≤ S + 1 + 245 + 1 + 245; omega) (Nat.le_of_ble_eq_true rfl) (by show S + 1 + 245 + 1 + 245 + 1 ≤ S + 1 + 245 + 1 + 245 + 1 + 245; omega) rfl ?_
  refine gp_dup (q := 31) dX4_init_30 rfl rfl ?_
  refine gp_makeN (cal := nX7) (q := 34) dX4_init_31 (fun s h => h.2.2.2.2.1) (by show KCI nX7 1 (S + 1 + 245 + 1 + 245 + 1 + 245 - (S + 1 + 245 + 1 + 245 + 1)); rw [Nat.add_sub_cancel_left]; exact kX7) ⟨by decide, by decide⟩ (Nat.le_of_ble_eq_true rfl) (ok_X7 (i := 2) (F := ((11, 0), _) :: F) (S := S + 1 + 245 + 1 + 245 + 1) (by decide) (lk_ne (by decide) (h12 2)) (lk_ne (by decide) (h13 2))) ⟨Nat.le_of_ble_eq_true rfl, Nat.le_of_ble_eq_true rfl, Nat.le_of_ble_eq_true rfl⟩ ⟨by show S ≤ S + 1 + 245 + 1 + 245 + 1; omega, by show S + 1 + 245 + 1 + 245 + 1 ≤ S + 1 + 245 + 1 + 245 + 1 + 245; omega, by show S + 1 + 245 + 1 + 245 + 1 + 245 ≤ S + 1 + 245 + 1 + 245 + 1 + 245; omega⟩ rfl ?_
  refine gp_put (q := 37) dX4_init_34 qRX4_21 rfl (by decide) (Nat.le_of_ble_eq_true rfl) (fun b => rfl) (fun b => rfl) (Nat.le_of_ble_eq_true rfl) rfl ?_
  refine gp_done (M := (0, [], 0)) (ci := 1) rfl rfl h11 ?_
  exact gp_ret dX4_init_37 rfl
