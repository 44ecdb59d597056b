/-! ===== how unlike, as a double ===== -/
theorem u_zero : FP.dcmp FP.dconst0 FP.dconst0 = some .eq := by decide +kernel
theorem u_six : FP.dcmp FP.dconst0 4618441417868443648 = some .lt := by decide +kernel
theorem q_mean {R : RO} (hW : rW R) (h0 : ¬ prN R = 0) : FP.dcmp (FP.ddiv (FP.i2d (nI (apN R))) (FP.i2d (nI (prN R)))) FP.dconst0 = some .gt ∧ (FP.dcmp (FP.ddiv (FP.i2d (nI (apN R))) (FP.i2d (nI (prN R)))) 4618441417868443648 = some .lt ∨ FP.dcmp (FP.ddiv (FP.i2d (nI (apN R))) (FP.i2d (nI (prN R)))) 4618441417868443648 = some .eq) := ck_all (by omega) (q_prN hW) (q_apN hW).1 (q_apN hW).2
theorem q_u0 {R : RO} (hW : rW R) : (prN R = 0 ∧ FP.dcmp (meanU R) FP.dconst0 = some .eq) ∨ (¬ prN R = 0 ∧ FP.dcmp (meanU R) FP.dconst0 = some .gt) := by
  unfold meanU
  by_cases h : prN R = 0
  · rw [if_pos h]; exact Or.inl ⟨h, u_zero⟩
  · rw [if_neg h]; exact Or.inr ⟨h, (q_mean hW h).1⟩
theorem q_u1 {R : RO} (hW : rW R) : ¬ Op.cmpValue (FP.dcmp (meanU R) FP.dconst0) .l < 0 := by
  rcases q_u0 hW with ⟨-, h⟩ | ⟨-, h⟩ <;> rw [h] <;> decide
theorem q_u2 {R : RO} (hW : rW R) : ¬ 0 < Op.cmpValue (FP.dcmp (meanU R) 4618441417868443648) .g := by
  unfold meanU
  by_cases h : prN R = 0
  · rw [if_pos h, u_six]; decide
  · rw [if_neg h]
    rcases (q_mean hW h).2 with h1 | h1 <;> rw [h1] <;> decide
theorem q_u3 {R : RO} (hW : rW R) : 1 < cn (rL R) (rN R) ↔ ¬ Op.cmpValue (FP.dcmp (meanU R) FP.dconst0) .l ≤ 0 := by
  rcases q_u0 hW with ⟨h1, h⟩ | ⟨h1, h⟩
  · rw [h]
    have := q_prN0.mp h1
    exact ⟨fun z => by omega, fun z => absurd (by decide) z⟩
  · rw [h]
    have : ¬ cn (rL R) (rN R) ≤ 1 := fun z => h1 (q_prN0.mpr z)
    exact ⟨fun _ => by decide, fun _ => by omega⟩
