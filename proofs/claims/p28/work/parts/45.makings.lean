/-! ===== the makings ===== -/
theorem lk_ne {F : List ((Nat × Nat) × (KG → va_E))} {k i k' i' : Nat} {f : KG → va_E} (h : ¬ (k' = k ∧ i' = i)) (hF : F.lookup (k', i') = none) : List.lookup (k', i') (((k, i), f) :: F) = none := by
  have e2 : ((k', i') == (k, i)) = false := beq_eq_false_iff_ne.mpr (fun z => h (by cases z; exact ⟨rfl, rfl⟩))
  simp only [List.lookup, e2]
  exact hF
abbrev nX7 : KI := (yX7_init, cX7_init, 1, none, { frames := 1, cells := 1, slots := 245, locals := 12 })
theorem ok_X7 {i : Nat} (hi : i < 3) {F : List ((Nat × Nat) × (KG → va_E))} {S : Nat} (h12 : F.lookup (12, i) = none) (h13 : F.lookup (13, i) = none) : OkP nX7 12 i (k_off 12 i + 1, ((12, i), ov 4 blRX7) :: F, S) (k_off 12 i + 2, F, S + 245) := by
  refine okp_of (by decide) (by decide) (by show 1 = k_off 12 i + 2 - (k_off 12 i + 1); omega) (by show 245 = S + 245 - S; omega) ?_
  show GoP nX7 _ _ _ [some (vR 12 i)] [] 0
  refine gp_aload_n (q := 1) dX7_init_0 rfl rfl rfl ?_
  refine gp_obj (q := 4) dX7_init_1 sRX7_3 wOI wOC ⟨by decide, by decide⟩ rfl ?_
  refine gp_aload_n (q := 5) dX7_init_4 rfl rfl rfl ?_
  refine gp_sipush (q := 8) (v := 245) dX7_init_5 (by decide) rfl ?_
  refine gp_newJ (q := 10) (k := 13) (i := i) (n := 245) dX7_init_8 wA_long rfl (by decide) rfl rfl (by show 55 + 2 * i = 54 + 2 * i + 1; omega) hi (lk_ne (by omega) h13) (Nat.le_refl _) (Nat.le_refl _) (Nat.le_refl _) (Nat.le_refl _) rfl ?_
  refine gp_put (q := 13) dX7_init_10 qRX7_11 rfl hi (by show k_off 12 i < k_off 12 i + 1 + 1; omega) (fun b => rfl) (fun b => rfl) (by decide) rfl ?_
  refine gp_done (M := (0, [], 0)) (ci := 4) rfl rfl h12 ?_
  exact gp_ret dX7_init_13 rfl
