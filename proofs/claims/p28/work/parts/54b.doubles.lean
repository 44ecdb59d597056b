/-! ===== a quotient between one and six ===== -/
def ckD (a b : Nat) : Bool := (FP.dcmp (FP.ddiv (FP.i2d (nI a)) (FP.i2d (nI b))) FP.dconst0 == some .gt) && (FP.dcmp (FP.ddiv (FP.i2d (nI a)) (FP.i2d (nI b))) 4618441417868443648 != some .gt && FP.dcmp (FP.ddiv (FP.i2d (nI a)) (FP.i2d (nI b))) 4618441417868443648 != none)
/-- all a from b on, so many -/
def ckA (b : Nat) : Nat → Bool
  | 0 => true
  | k + 1 => ckD (b + k) b && ckA b k
/-- all b from lo on, so many -/
def ckB (lo : Nat) : Nat → Bool
  | 0 => true
  | k + 1 => ckA (lo + k) (5 * (lo + k) + 1) && ckB lo k
theorem ckA_at {b : Nat} : ∀ {k j : Nat}, ckA b k = true → j < k → ckD (b + j) b = true
  | 0, _, _, h => absurd h (Nat.not_lt_zero _)
  | k + 1, j, h, hj => by
    have h2 : ckD (b + k) b = true ∧ ckA b k = true := by simpa [ckA] using h
    by_cases e : j = k
    · rw [e]; exact h2.1
    · exact ckA_at h2.2 (by omega)
theorem ckB_at {lo : Nat} : ∀ {k j : Nat}, ckB lo k = true → j < k → ckA (lo + j) (5 * (lo + j) + 1) = true
  | 0, _, _, h => absurd h (Nat.not_lt_zero _)
  | k + 1, j, h, hj => by
    have h2 : ckA (lo + k) (5 * (lo + k) + 1) = true ∧ ckB lo k = true := by simpa [ckB] using h
    by_cases e : j = k
    · rw [e]; exact h2.1
    · exact ckB_at h2.2 (by omega)
theorem ck_0 : ckB 1 10 = true := by decide +kernel
