/-! ===== the first state, and the law from the head of its loop ===== -/
def M0 : KM := (fun _ _ _ => 0, fun _ _ => 0, fun a c => if a = 8 then 3 + c else c)
def R0 : RO := (0, fun _ => 0, fun _ => false, fun _ => none, 0, 0)
def S0 : ST := (R0, none, (0, fun _ => R0), (0, fun _ => 0), none)
theorem M0_z {k b c : Nat} : M0.1 k b c = 0 := rfl
theorem rW_0 : rW R0 := ⟨Nat.zero_le _, fun p hp => absurd hp (Nat.not_lt_zero _), fun p f k m hp => absurd hp (Nat.not_lt_zero _), fun f => Nat.zero_le _, fun p q hp => absurd hp (Nat.not_lt_zero _)⟩
theorem CI_0 : CI M0 S0 := by
  refine ⟨⟨M0_z, M0_z, M0_z, Nat.zero_le _, fun p hp => ⟨false, M0_z⟩, fun p hp => absurd hp (Nat.not_lt_zero _)⟩, rW_0, M0_z, fun s hs => (by cases hs), ⟨M0_z, Nat.zero_le _, fun j hj => ?_, fun a b ha hb h => ?_, fun j hj => absurd hj (Nat.not_lt_zero _)⟩, fun j hj => absurd hj (Nat.not_lt_zero _), ⟨M0_z, Nat.zero_le _, fun j hj => absurd hj (Nat.not_lt_zero _)⟩, M0_z, Or.inl ⟨rfl, rfl⟩⟩
  · show 3 ≤ 3 + j ∧ 3 + j < 8
    omega
  · have : 3 + a = 3 + b := h
    omega
