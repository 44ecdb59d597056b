/-! ===== the makings: SonMarks ===== -/
theorem kX2 : KCI nX2 31 545 := ⟨k_t (i := 57) (by decide +kernel) rfl, k_t (i := 3) (by decide +kernel) rfl, k_t (i := 56) (by decide +kernel) rfl, rfl, rfl, ⟨by decide, by decide, rfl⟩, rfl, rfl⟩
theorem kX5 : KCI nX5 1 60 := ⟨k_t (i := 73) (by decide +kernel) rfl, k_t (i := 4) (by decide +kernel) rfl, k_t (i := 72) (by decide +kernel) rfl, rfl, rfl, ⟨by decide, by decide, rfl⟩, rfl, rfl⟩
theorem kX4 : KCI nX4 6 738 := ⟨k_t (i := 86) (by decide +kernel) rfl, k_t (i := 5) (by decide +kernel) rfl, k_t (i := 85) (by decide +kernel) rfl, rfl, rfl, ⟨by decide, by decide, rfl⟩, rfl, rfl⟩
theorem ok_X6' {i : Nat} (hi : i < 8) {F : List ((Nat × Nat) × (KG → va_E))} {S : Nat} (h1 : ∀ i, F.lookup (1, i) = none) (h2 : ∀ i, F.lookup (2, i) = none) (h3 : ∀ i, F.lookup (3, i) = none) (h4 : ∀ i, F.lookup (4, i) = none) (h5 : ∀ i, F.lookup (5, i) = none) (h6 : ∀ i, F.lookup (6, i) = none) : OkP nX6 1 i (k_off 1 i + 1, ((1, i), ov 3 blRX6) :: F, S) (k_off 1 i + 6, F, S + 100) := by
  have h := ok_X6 (S := S) hi (h1 i) (h2 i) (h3 i) (h4 i) (h5 i) (h6 i)
  rw [show S + 20 + 20 + 20 + 20 + 20 = S + 100 by omega] at h
  exact h
theorem ok_X2' {F : List ((Nat × Nat) × (KG → va_E))} {S : Nat} (h7 : F.lookup (7, 0) = none) (h8 : F.lookup (8, 0) = none) (h1 : ∀ i, F.lookup (1, i) = none) (h2 : ∀ i, F.lookup (2, i) = none) (h3 : ∀ i, F.lookup (3, i) = none) (h4 : ∀ i, F.lookup (4, i) = none) (h5 : ∀ i, F.lookup (5, i) = none) (h6 : ∀ i, F.lookup (6, i) = none) : OkP nX2 7 0 (20, ((7, 0), ov 0 blRX2) :: F, S) (51, F, S + 545) := by
  have h := ok_X2 (S := S) h7 h8 h1 h2 h3 h4 h5 h6
  rw [show S + 5 + 8 + 20 + 20 + 20 + 20 + 20 + 8 + 20 + 20 + 20 + 20 + 20 + 8 + 20 + 20 + 20 + 20 + 20 + 8 + 20 + 20 + 20 + 20 + 20 + 8 + 20 + 20 + 20 + 20 + 20 = S + 545 by omega] at h
  exact h
theorem ok_X4' {F : List ((Nat × Nat) × (KG → va_E))} {S : Nat} (h11 : F.lookup (11, 0) = none) (h12 : ∀ i, F.lookup (12, i) = none) (h13 : ∀ i, F.lookup (13, i) = none) : OkP nX4 11 0 (54, ((11, 0), ov 1 blRX4) :: F, S) (60, F, S + 738) := by
  have h := ok_X4 (S := S) h11 h12 h13
  rw [show S + 1 + 245 + 1 + 245 + 1 + 245 = S + 738 by omega] at h
  exact h
abbrev nX9 : KI := (yX9_init, cX9_init, 1, none, { frames := 3, cells := 59, slots := 1674, locals := 53 })
theorem ok_X9 {F : List ((Nat × Nat) × (KG → va_E))} {S : Nat} (hno : ∀ k i, F.lookup (k, i) = none) : OkP nX9 0 0 (1, ((0, 0), ov 5 blRX9) :: F, S) (60, F, S + 8 + 100 + 8 + 100 + 8 + 100 + 2 + 545 + 2 + 60 + 3 + 738) := by
  refine okp_of (by decide) (by decide) rfl (by show 1674 = S + 8 + 100 + 8 + 100 + 8 + 100 + 2 + 545 + 2 + 60 + 3 + 738 - S; omega) ?_
  show GoP nX9 _ _ _ [some (vR 0 0)] [] 0
  refine gp_aload_n (q := 1) dX9_init_0 rfl rfl rfl ?_
  refine gp_obj (q := 4) dX9_init_1 sRX9_1 wOI wOC ⟨by decide, by decide⟩ rfl ?_
  refine gp_aload_n (q := 5) dX9_init_4 rfl rfl rfl ?_
  refine gp_new (q := 8) (k := 1) (i := 0) dX9_init_5 nRX9_7 rfl (by decide) (Nat.le_of_ble_eq_true rfl) (by show S ≤ S; omega) (Nat.le_of_ble_eq_true rfl) (by show S + 8 ≤ S + 8 + 100 + 8 + 100 + 8 + 100 + 2 + 545 + 2 + 60 + 3 + 738; omega) rfl ?_
  refine gp_dup (q := 9) dX9_init_8 rfl rfl ?_
  refine gp_makeN (cal := nX6) (q := 12) dX9_init_9 (fun s h => h.2.2.1) (by show KCI nX6 5 (S + 8 + 100 - (S + 8)); rw [Nat.add_sub_cancel_left]; exact kX6) ⟨by decide, by decide⟩ (Nat.le_of_ble_eq_true rfl) (ok_X6' (i := 0) (F := ((0, 0), _) :: F) (S := S + 8) (by decide) (fun i => lk_ne (by simp) (hno 1 i)) (fun i => lk_ne (by simp) (hno 2 i)) (fun i => lk_ne (by simp) (hno 3 i)) (fun i => lk_ne (by simp) (hno 4 i)) (fun i => lk_ne (by simp) (hno 5 i)) (fun i => lk_ne (by simp) (hno 6 i))) ⟨Nat.le_of_ble_eq_true rfl, Nat.le_of_ble_eq_true rfl, Nat.le_of_ble_eq_true rfl⟩ ⟨by show S ≤ S + 8; omega, by show S + 8 ≤ S + 8 + 100; omega, by show S + 8 + 100 ≤ S + 8 + 100 + 8 + 100 + 8 + 100 + 2 + 545 + 2 + 60 + 3 + 738; omega⟩ rfl ?_
  refine gp_put (q := 15) dX9_init_12 qRX9_10 rfl (by decide) (Nat.le_of_ble_eq_true rfl) (fun b => rfl) (fun b => rfl) (Nat.le_of_ble_eq_true rfl) rfl ?_
  refine gp_aload_n (q := 16) dX9_init_15 rfl rfl rfl ?_
  refine gp_new (q := 19) (k := 1) (i := 1) dX9_init_16 nRX9_7 rfl (by decide) (Nat.le_of_ble_eq_true rfl) (by show S ≤ S + 8 + 100; omega) (Nat.le_of_ble_eq_true rfl) (by show S + 8 + 100 + 8 ≤ S + 8 + 100 + 8 + 100 + 8 + 100 + 2 + 545 + 2 + 60 + 3 + 738; omega) rfl ?_
  refine gp_dup (q := 20) dX9_init_19 rfl rfl ?_
  refine gp_makeN (cal := nX6) (q := 23) dX9_init_20 (fun s h => h.2.2.1) (by show KCI nX6 5 (S + 8 + 100 + 8 + 100 - (S + 8 + 100 + 8)); rw [Nat.add_sub_cancel_left]; exact kX6) ⟨by decide, by decide⟩ (Nat.le_of_ble_eq_true rfl) (ok_X6' (i := 1) (F := ((0, 0), _) :: F) (S := S + 8 + 100 + 8) (by decide) (fun i => lk_ne (by simp) (hno 1 i)) (fun i => lk_ne (by simp) (hno 2 i)) (fun i => lk_ne (by simp) (hno 3 i)) (fun i => lk_ne (by simp) (hno 4 i)) (fun i => lk_ne (by simp) (hno 5 i)) (fun i => lk_ne (by simp) (hno 6 i))) ⟨Nat.le_of_ble_eq_true rfl, Nat.le_of_ble_eq_true rfl, Nat.le_of_ble_eq_true rfl⟩ ⟨by show S ≤ S + 8 + 100 + 8; omega, by show S + 8 + 100 + 8 ≤ S + 8 + 100 + 8 + 100; omega, by show S + 8 + 100 + 8 + 100 ≤ S + 8 + 100 + 8 + 100 + 8 + 100 + 2 + 545 + 2 + 60 + 3 + 738; omega⟩ rfl ?_
  refine gp_put (q := 26) dX9_init_23 qRX9_16 rfl (by decide) (Nat.le_of_ble_eq_true rfl) (fun b => rfl) (fun b => rfl) (Nat.le_of_ble_eq_true rfl) rfl ?_
  refine gp_aload_n (q := 27) dX9_init_26 rfl rfl rfl ?_
  refine gp_new (q := 30) (k := 1) (i := 2) dX9_init_27 nRX9_7 rfl (by decide) (Nat.le_of_ble_eq_true rfl) (by show S ≤ S + 8 + 100 + 8 + 100; omega) (Nat.le_of_ble_eq_true rfl) (by show S + 8 + 100 + 8 + 100 + 8 ≤ S + 8 + 100 + 8 + 100 + 8 + 100 + 2 + 545 + 2 + 60 + 3 + 738; omega) rfl ?_
  refine gp_dup (q := 31) dX9_init_30 rfl rfl ?_
  refine gp_makeN (cal := nX6) (q := 34) dX9_init_31 (fun s h => h.2.2.1) (by show KCI nX6 5 (S + 8 + 100 + 8 + 100 + 8 + 100 - (S + 8 + 100 + 8 + 100 + 8)); rw [Nat.add_sub_cancel_left]; exact kX6) ⟨by decide, by decide⟩ (Nat.le_of_ble_eq_true rfl) (ok_X6' (i := 2) (F := ((0, 0), _) :: F) (S := S + 8 + 100 + 8 + 100 + 8) (by decide) (fun i => lk_ne (by simp) (hno 1 i)) (fun i => lk_ne (by simp) (hno 2 i)) (fun i => lk_ne (by simp) (hno 3 i)) (fun i => lk_ne (by simp) (hno 4 i)) (fun i => lk_ne (by simp) (hno 5 i)) (fun i => lk_ne (by simp) (hno 6 i))) ⟨Nat.le_of_ble_eq_true rfl, Nat.le_of_ble_eq_true rfl, Nat.le_of_ble_eq_true rfl⟩ ⟨by show S ≤ S + 8 + 100 + 8 + 100 + 8; omega, by show S + 8 + 100 + 8 + 100 + 8 ≤ S + 8 + 100 + 8 + 100 + 8 + 100; omega, by show S + 8 + 100 + 8 + 100 + 8 + 100 ≤ S + 8 + 100 + 8 + 100 + 8 + 100 + 2 + 545 + 2 + 60 + 3 + 738; omega⟩ rfl ?_
  refine gp_put (q := 37) dX9_init_34 qRX9_19 rfl (by decide) (Nat.le_of_ble_eq_true rfl) (fun b => rfl) (fun b => rfl) (Nat.le_of_ble_eq_true rfl) rfl ?_
  refine gp_aload_n (q := 38) dX9_init_37 rfl rfl rfl ?_
  refine gp_new (q := 41) (k := 7) (i := 0) dX9_init_38 nRX9_22 rfl (by decide) (Nat.le_of_ble_eq_true rfl) (by show S ≤ S + 8 + 100 + 8 + 100 + 8 + 100; omega) (Nat.le_of_ble_eq_true rfl) (by show S + 8 + 100 + 8 + 100 + 8 + 100 + 2 ≤ S + 8 + 100 + 8 + 100 + 8 + 100 + 2 + 545 + 2 + 60 + 3 + 738; omega) rfl ?_
  refine gp_dup (q := 42) dX9_init_41 rfl rfl ?_
  refine gp_make (cal := nX2) (q := 45) dX9_init_42 sRX9_24 (by show KCI nX2 31 (S + 8 + 100 + 8 + 100 + 8 + 100 + 2 + 545 - (S + 8 + 100 + 8 + 100 + 8 + 100 + 2)); rw [Nat.add_sub_cancel_left]; exact kX2) ⟨by decide, by decide⟩ (Nat.le_of_ble_eq_true rfl) (ok_X2' (F := ((0, 0), _) :: F) (S := S + 8 + 100 + 8 + 100 + 8 + 100 + 2) (lk_ne (by decide) (hno 7 0)) (lk_ne (by decide) (hno 8 0)) (fun i => lk_ne (by simp) (hno 1 i)) (fun i => lk_ne (by simp) (hno 2 i)) (fun i => lk_ne (by simp) (hno 3 i)) (fun i => lk_ne (by simp) (hno 4 i)) (fun i => lk_ne (by simp) (hno 5 i)) (fun i => lk_ne (by simp) (hno 6 i))) ⟨Nat.le_of_ble_eq_true rfl, Nat.le_of_ble_eq_true rfl, Nat.le_of_ble_eq_true rfl⟩ ⟨by show S ≤ S + 8 + 100 + 8 + 100 + 8 + 100 + 2; omega, by show S + 8 + 100 + 8 + 100 + 8 + 100 + 2 ≤ S + 8 + 100 + 8 + 100 + 8 + 100 + 2 + 545; omega, by show S + 8 + 100 + 8 + 100 + 8 + 100 + 2 + 545 ≤ S + 8 + 100 + 8 + 100 + 8 + 100 + 2 + 545 + 2 + 60 + 3 + 738; omega⟩ rfl ?_
  refine gp_put (q := 48) dX9_init_45 qRX9_25 rfl (by decide) (Nat.le_of_ble_eq_true rfl) (fun b => rfl) (fun b => rfl) (Nat.le_of_ble_eq_true rfl) rfl ?_
  refine gp_aload_n (q := 49) dX9_init_48 rfl rfl rfl ?_
  refine gp_new (q := 52) (k := 9) (i := 0) dX9_init_49 nRX9_29 rfl (by decide) (Nat.le_of_ble_eq_true rfl) (by show S ≤ S + 8 + 100 + 8 + 100 + 8 + 100 + 2 + 545; omega) (Nat.le_of_ble_eq_true rfl) (by show S + 8 + 100 + 8 + 100 + 8 + 100 + 2 + 545 + 2 ≤ S + 8 + 100 + 8 + 100 + 8 + 100 + 2 + 545 + 2 + 60 + 3 + 738; omega) rfl ?_
  refine gp_dup (q := 53) dX9_init_52 rfl rfl ?_
  refine gp_makeN (cal := nX5) (q := 56) dX9_init_53 (fun s h => h.1) (by show KCI nX5 1 (S + 8 + 100 + 8 + 100 + 8 + 100 + 2 + 545 + 2 + 60 - (S + 8 + 100 + 8 + 100 + 8 + 100 + 2 + 545 + 2)); rw [Nat.add_sub_cancel_left]; exact kX5) ⟨by decide, by decide⟩ (Nat.le_of_ble_eq_true rfl) (ok_X5 (F := ((0, 0), _) :: F) (S := S + 8 + 100 + 8 + 100 + 8 + 100 + 2 + 545 + 2) (lk_ne (by decide) (hno 9 0)) (lk_ne (by decide) (hno 10 0))) ⟨Nat.le_of_ble_eq_true rfl, Nat.le_of_ble_eq_true rfl, Nat.le_of_ble_eq_true rfl⟩ ⟨by show S ≤ S + 8 + 100 + 8 + 100 + 8 + 100 + 2 + 545 + 2; omega, by show S + 8 + 100 + 8 + 100 + 8 + 100 + 2 + 545 + 2 ≤ S + 8 + 100 + 8 + 100 + 8 + 100 + 2 + 545 + 2 + 60; omega, by show S + 8 + 100 + 8 + 100 + 8 + 100 + 2 + 545 + 2 + 60 ≤ S + 8 + 100 + 8 + 100 + 8 + 100 + 2 + 545 + 2 + 60 + 3 + 738; omega⟩ rfl ?_
  refine gp_put (q := 59) dX9_init_56 qRX9_32 rfl (by decide) (Nat.le_of_ble_eq_true rfl) (fun b => rfl) (fun b => rfl) (Nat.le_of_ble_eq_true rfl) rfl ?_
  refine gp_aload_n (q := 60) dX9_init_59 rfl rfl rfl ?_
  refine gp_new (q := 63) (k := 11) (i := 0) dX9_init_60 nRX9_36 rfl (by decide) (Nat.le_of_ble_eq_true rfl) (by show S ≤ S + 8 + 100 + 8 + 100 + 8 + 100 + 2 + 545 + 2 + 60; omega) (Nat.le_of_ble_eq_true rfl) (by show S + 8 + 100 + 8 + 100 + 8 + 100 + 2 + 545 + 2 + 60 + 3 ≤ S + 8 + 100 + 8 + 100 + 8 + 100 + 2 + 545 + 2 + 60 + 3 + 738; omega) rfl ?_
  refine gp_dup (q := 64) dX9_init_63 rfl rfl ?_
  refine gp_makeN (cal := nX4) (q := 67) dX9_init_64 (fun s h => h.2.1) (by show KCI nX4 6 (S + 8 + 100 + 8 + 100 + 8 + 100 + 2 + 545 + 2 + 60 + 3 + 738 - (S + 8 + 100 + 8 + 100 + 8 + 100 + 2 + 545 + 2 + 60 + 3)); rw [Nat.add_sub_cancel_left]; exact kX4) ⟨by decide, by decide⟩ (Nat.le_of_ble_eq_true rfl) (ok_X4' (F := ((0, 0), _) :: F) (S := S + 8 + 100 + 8 + 100 + 8 + 100 + 2 + 545 + 2 + 60 + 3) (lk_ne (by decide) (hno 11 0)) (fun i => lk_ne (by simp) (hno 12 i)) (fun i => lk_ne (by simp) (hno 13 i))) ⟨Nat.le_of_ble_eq_true rfl, Nat.le_of_ble_eq_true rfl, Nat.le_of_ble_eq_true rfl⟩ ⟨by show S ≤ S + 8 + 100 + 8 + 100 + 8 + 100 + 2 + 545 + 2 + 60 + 3; omega, by show S + 8 + 100 + 8 + 100 + 8 + 100 + 2 + 545 + 2 + 60 + 3 ≤ S + 8 + 100 + 8 + 100 + 8 + 100 + 2 + 545 + 2 + 60 + 3 + 738; omega, by show S + 8 + 100 + 8 + 100 + 8 + 100 + 2 + 545 + 2 + 60 + 3 + 738 ≤ S + 8 + 100 + 8 + 100 + 8 + 100 + 2 + 545 + 2 + 60 + 3 + 738; omega⟩ rfl ?_
  refine gp_put (q := 70) dX9_init_67 qRX9_39 rfl (by decide) (Nat.le_of_ble_eq_true rfl) (fun b => rfl) (fun b => rfl) (Nat.le_of_ble_eq_true rfl) rfl ?_
  refine gp_aload_n (q := 71) dX9_init_70 rfl rfl rfl ?_
  refine gp_iconst (q := 72) (v := 0) dX9_init_71 (by decide) rfl ?_
  refine gp_put (q := 75) dX9_init_72 qRX9_43 rfl (by decide) (Nat.le_of_ble_eq_true rfl) (fun b => rfl) (fun b => rfl) (Nat.le_of_ble_eq_true rfl) rfl ?_
  refine gp_aload_n (q := 76) dX9_init_75 rfl rfl rfl ?_
  refine gp_iconst (q := 77) (v := 0) dX9_init_76 (by decide) rfl ?_
  refine gp_put (q := 80) dX9_init_77 qRX9_47 rfl (by decide) (Nat.le_of_ble_eq_true rfl) (fun b => rfl) (fun b => rfl) (Nat.le_of_ble_eq_true rfl) rfl ?_
  refine gp_aload_n (q := 81) dX9_init_80 rfl rfl rfl ?_
  refine gp_iconst (q := 82) (v := 0) dX9_init_81 (by decide) rfl ?_
  refine gp_put (q := 85) dX9_init_82 qRX9_51 rfl (by decide) (Nat.le_of_ble_eq_true rfl) (fun b => rfl) (fun b => rfl) (Nat.le_of_ble_eq_true rfl) rfl ?_
  refine gp_aload_n (q := 86) dX9_init_85 rfl rfl rfl ?_
  refine gp_iconst (q := 87) (v := 0) dX9_init_86 (by decide) rfl ?_
  refine gp_put (q := 90) dX9_init_87 qRX9_54 rfl (by decide) (Nat.le_of_ble_eq_true rfl) (fun b => rfl) (fun b => rfl) (Nat.le_of_ble_eq_true rfl) rfl ?_
  refine gp_done (M := (0, [], 0)) (ci := 5) rfl rfl (hno 0 0) ?_
  exact gp_ret dX9_init_90 rfl

theorem kX9 : KCI nX9 59 1674 := ⟨k_t (i := 16) (by decide +kernel) rfl, k_t (i := 1) (by decide +kernel) rfl, k_t (i := 15) (by decide +kernel) rfl, rfl, rfl, ⟨by decide, by decide, rfl⟩, rfl, rfl⟩
