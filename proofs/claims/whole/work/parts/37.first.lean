/-! ===== the first state, and the law from the head of its loop ===== -/
def M0 : KM := (fun k _ c => if k = 14 ∧ 7 ≤ c ∧ c ≤ 9 then -4 else 0, fun _ _ => 0, fun a c => if a = 8 then 3 + c else c)
def R0 : RO := (0, fun _ => 0, fun _ => false, fun _ => none, 0, 0)
def S0 : ST := (R0, none, (0, fun _ => R0), (0, fun _ => 0), none)
theorem M0_z {k b c : Nat} (h : ¬ (k = 14 ∧ 7 ≤ c ∧ c ≤ 9)) : M0.1 k b c = 0 := if_neg h
theorem rW_0 : rW R0 := ⟨Nat.zero_le _, fun p hp => absurd hp (Nat.not_lt_zero _), fun p f k m hp => absurd hp (Nat.not_lt_zero _), fun f => Nat.zero_le _, fun p q hp => absurd hp (Nat.not_lt_zero _)⟩
theorem CI_0 : CI M0 S0 := by
  refine ⟨⟨M0_z (by omega), M0_z (by omega), M0_z (by omega), Nat.zero_le _, fun p hp => ⟨false, M0_z (by omega)⟩, fun p hp => absurd hp (Nat.not_lt_zero _)⟩, rW_0, M0_z (by omega), fun s hs => (by cases hs), ⟨M0_z (by omega), Nat.zero_le _, fun j hj => ?_, fun a b ha hb h => ?_, fun j hj => absurd hj (Nat.not_lt_zero _)⟩, fun j hj => absurd hj (Nat.not_lt_zero _), ⟨M0_z (by omega), Nat.zero_le _, fun j hj => absurd hj (Nat.not_lt_zero _)⟩, M0_z (by omega), Or.inl ⟨rfl, rfl⟩⟩
  · show 3 ≤ 3 + j ∧ 3 + j < 8
    omega
  · have : 3 + a = 3 + b := h
    omega
theorem MI_0 : MI M0 S0 := by
  refine ⟨⟨M0_z (by omega), M0_z (by omega), M0_z (by omega), Nat.zero_le _, fun p hp => absurd hp (Nat.not_lt_zero _)⟩, rW_0, M0_z (by omega), fun s hs => (by cases hs), ⟨M0_z (by omega), Nat.zero_le _, fun j hj => absurd hj (Nat.not_lt_zero _)⟩, fun j hj => absurd hj (Nat.not_lt_zero _), ⟨M0_z (by omega), Nat.zero_le _, fun j hj => absurd hj (Nat.not_lt_zero _)⟩, rfl, rfl, rfl⟩
/-- from the head of the loop, the first memory laid at G -/
theorem lw_head {b L : Nat} {xs : Nat → Int32} (hL : L ≤ 2048) {G : KG} {p : Program} {l : Launch} {e : Env} {s0 : State} {d0 : Drawn} {m : MethodId} {below : List Frame} {meth : Method} {c : Code} {cells slots : Nat} {H : Heap} {ls : Array Slot}
    (hC : k_Cx mL_law G p room_1 (s0.setDrawn d0) m #[Value.ref b] meth c cells slots) (hce : cells ≤ 600000) (hsl : slots ≤ 7302250) (hbs : b < H.size) (hbG : b < G.1) (hX : va_X b L xs (s0.setDrawn d0) H) (hsz : s0.heap.size ≤ G.1) (hd0 : s0.drawn.sameBut d0 lw_cs)
    (hW : k_HW G M0 H) (hl : lv_has ls 8 (k_lc G.1 0 [some (Sum.inl (Value.ref b)), some (vR 0 0), some (vR 14 0), some (vI 0), none, none, none, none])) :
    W p l e room_1 (s0.setDrawn d0) m #[Value.ref b] below meth c H [] cells slots (lw_Z below #[Value.ref b] s0) (F0 m 18 ls []) :=
  lw_loop hL (L + 1) M0 S0 0 (by omega) (by omega) CI_0 MI_0 G H p l e room_1 (s0.setDrawn d0) m #[Value.ref b] below meth c cells slots (lw_Z below #[Value.ref b] s0) hC ⟨rfl, hce, hsl, hbs, hbG, hX, s0, d0, rfl, hsz, hd0, rfl, rfl⟩ H ls [] hW k_FR.rf (fun q hq => by cases hq) hl
