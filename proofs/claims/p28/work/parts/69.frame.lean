/-! ===== what the tables say of the start ===== -/
theorem k_arr {t : FieldType} {s : State} {args : Array Value} (h : (Cond.arrayClass t).before args s = true) : ∃ cA, s.vm.findClass ("[" ++ t.toString) = some cA ∧ ArrOfT s cA t := by
  obtain ⟨c, k, comp, h1, h2, h3⟩ := Cond.arrayClass_spec h
  exact ⟨c, h1, fun N z => ⟨(fun k h => by cases h), k, h2, comp, h3⟩⟩
theorem k_known {s : State} {args : Array Value} (hts : ∀ w ∈ lw_tbl, w.before args s = true) : ∃ G : KG, G.1 = s.heap.size ∧ va_K G.2.1 vwCl (k_tys G) s := by
  obtain ⟨cI, i1, i2⟩ := k_arr (t := .int) (hts _ (k_tb_lw wA_int))
  obtain ⟨cZ, z1, z2⟩ := k_arr (t := .boolean) (hts _ (k_tb_lw wA_boolean))
  obtain ⟨cJ, j1, j2⟩ := k_arr (t := .long) (hts _ (k_tb_lw wA_long))
  obtain ⟨comp, cR, kR, f1, -, f3, f4, f5⟩ := Cond.arrayOver_spec (n := RX6) (hts _ (List.mem_append_right _ (List.mem_of_getElem? (i := 60) (by decide +kernel))))
  obtain ⟨c0, s0, k0⟩ := u_known (s := s) (C := RX2) (T := TX2) (N := 2) (n := 2) hts (fun w h => k_tb_lw (kwRX2 w h)) (hts _ (List.mem_append_right _ (List.mem_of_getElem? (i := 54) (by decide +kernel))))
  obtain ⟨c1, s1, k1⟩ := u_known (s := s) (C := RX4) (T := TX4) (N := 3) (n := 3) hts (fun w h => k_tb_lw (kwRX4 w h)) (hts _ (List.mem_append_right _ (List.mem_of_getElem? (i := 83) (by decide +kernel))))
  obtain ⟨c2, s2, k2⟩ := u_known (s := s) (C := RX5) (T := TX5) (N := 2) (n := 2) hts (fun w h => k_tb_lw (kwRX5 w h)) (hts _ (List.mem_append_right _ (List.mem_of_getElem? (i := 70) (by decide +kernel))))
  obtain ⟨c3, s3, k3⟩ := u_known (s := s) (C := RX6) (T := TX6) (N := 8) (n := 8) hts (fun w h => k_tb_lw (kwRX6 w h)) (hts _ (List.mem_append_right _ (List.mem_of_getElem? (i := 21) (by decide +kernel))))
  obtain ⟨c4, s4, k4⟩ := u_known (s := s) (C := RX7) (T := TX7) (N := 1) (n := 1) hts (fun w h => k_tb_lw (kwRX7 w h)) (hts _ (List.mem_append_right _ (List.mem_of_getElem? (i := 89) (by decide +kernel))))
  obtain ⟨c5, s5, k5⟩ := u_known (s := s) (C := RX9) (T := TX9) (N := 10) (n := 10) hts (fun w h => k_tb_lw (kwRX9 w h)) (hts _ (List.mem_append_right _ (List.mem_of_getElem? (i := 13) (by decide +kernel))))
  refine ⟨(s.heap.size, (fun c => match c with | 0 => c0 | 1 => c1 | 2 => c2 | 3 => c3 | 4 => c4 | _ => c5, fun c => match c with | 0 => s0 | 1 => s1 | 2 => s2 | 3 => s3 | 4 => s4 | _ => s5), cI, cZ, cJ, cR), rfl, fun c q hq => ?_, fun k q hq => ?_⟩
  · have hc : c < 6 := (List.getElem?_eq_some_iff.mp hq).1
    rcases (show c = 0 ∨ c = 1 ∨ c = 2 ∨ c = 3 ∨ c = 4 ∨ c = 5 by omega) with rfl | rfl | rfl | rfl | rfl | rfl
    · obtain rfl := Option.some.inj ((show vwCl[0]? = some (RX2, TX2, 2) from rfl).symm.trans hq)
      exact k0
    · obtain rfl := Option.some.inj ((show vwCl[1]? = some (RX4, TX4, 3) from rfl).symm.trans hq)
      exact k1
    · obtain rfl := Option.some.inj ((show vwCl[2]? = some (RX5, TX5, 2) from rfl).symm.trans hq)
      exact k2
    · obtain rfl := Option.some.inj ((show vwCl[3]? = some (RX6, TX6, 8) from rfl).symm.trans hq)
      exact k3
    · obtain rfl := Option.some.inj ((show vwCl[4]? = some (RX7, TX7, 1) from rfl).symm.trans hq)
      exact k4
    · obtain rfl := Option.some.inj ((show vwCl[5]? = some (RX9, TX9, 10) from rfl).symm.trans hq)
      exact k5
  · have hk : k < 4 := (List.getElem?_eq_some_iff.mp hq).1
    rcases (show k = 0 ∨ k = 1 ∨ k = 2 ∨ k = 3 by omega) with rfl | rfl | rfl | rfl
    · obtain rfl := Option.some.inj hq
      exact ⟨i2, i1⟩
    · obtain rfl := Option.some.inj hq
      exact ⟨z2, z1⟩
    · obtain rfl := Option.some.inj hq
      exact ⟨j2, j1⟩
    · obtain rfl := Option.some.inj hq
      exact ⟨fun N z => ⟨(fun k h => by cases h), kR, f3, comp, f4⟩, kR, comp, f3, f4, f1, f5⟩
theorem k_NW_start {s : State} {args : Array Value} (hts : ∀ w ∈ lw_tbl, w.before args s = true) : k_NW s :=
  ⟨va_Nw.of rfl (hts _ (List.mem_append_right _ (List.mem_of_getElem? (i := 71) (by decide +kernel)))), va_Nw.of rfl (hts _ (List.mem_append_right _ (List.mem_of_getElem? (i := 84) (by decide +kernel)))), va_Nw.of rfl (hts _ (List.mem_append_right _ (List.mem_of_getElem? (i := 22) (by decide +kernel)))), va_Nw.of rfl (hts _ (List.mem_append_right _ (List.mem_of_getElem? (i := 61) (by decide +kernel)))), va_Nw.of rfl (hts _ (List.mem_append_right _ (List.mem_of_getElem? (i := 90) (by decide +kernel)))), va_AO.of (hts _ (List.mem_append_right _ (List.mem_of_getElem? (i := 60) (by decide +kernel))))⟩
/-! ===== the law from its entry ===== -/
def lwq (b L : Nat) (xs : Nat → Int32) : KZ := fun G Hb _ _ _ R s _ args below _ _ cells slots Qf => R = room_1 ∧ cells = 0 ∧ slots = 0 ∧ b < G.1 ∧ va_X b L xs s Hb ∧ G.1 = Hb.size ∧ ∃ (s0 : State) (d0 : Drawn), s = s0.setDrawn d0 ∧ s0.heap.size = G.1 ∧ s0.drawn.sameBut d0 lw_cs ∧ args = #[Value.ref b] ∧ Qf = lw_Z below #[Value.ref b] s0
theorem lk_nil (k i : Nat) : ([] : List ((Nat × Nat) × (KG → va_E))).lookup (k, i) = none := rfl
theorem ok_X9' : OkP nX9 0 0 (1, [((0, 0), ov 5 blRX9)], 10) (60, [], 1684) := ok_X9 (F := []) (S := 10) lk_nil
theorem k_HP_HW {G : KG} {S : Nat} {H : Heap} (h : k_HP G (60, [], S) H) : k_HW G M0 H := fun k i hi => by
  have h1 := h.2 k i hi (k_off_lt hi)
  unfold k_pe at h1
  simp only [List.lookup] at h1
  exact h1
theorem lw_make {b L : Nat} {xs : Nat → Int32} (hL : L ≤ 260) : GoP mL_law (0, 0, 60, 1684) (lwq b L xs) (0, [], 0) [some (Sum.inl (Value.ref b)), none, none, none, none, none, none, none, none, none, none, none, none, none, none, none, none, none] [] 0 := by
  refine gp_new (q := 3) (k := 0) (i := 0) dL_law_0 nRL_15 rfl (by decide) (Nat.le_refl _) (Nat.le_refl _) (Nat.le_of_ble_eq_true rfl) (Nat.le_of_ble_eq_true rfl) rfl ?_
  refine gp_dup (q := 4) dL_law_3 rfl rfl ?_
  refine gp_make (cal := nX9) (M' := (60, [], 1684)) (q := 7) dL_law_4 sRL_99 kX9 ⟨by decide, by decide⟩ (Nat.le_of_ble_eq_true rfl) ok_X9' ⟨Nat.le_of_ble_eq_true rfl, Nat.le_of_ble_eq_true rfl, Nat.le_of_ble_eq_true rfl⟩ ⟨Nat.le_of_ble_eq_true rfl, Nat.le_of_ble_eq_true rfl, Nat.le_of_ble_eq_true rfl⟩ rfl ?_
  refine gp_astore_n (q := 8) dL_law_7 rfl (by decide) rfl rfl ?_
  intro G Hb p l e R s m args below meth c cells slots Qf hC hZ H ls locs hW hF hL' hl
  obtain ⟨⟨hx, hb, hml, hrt, hown, hlk, hts, hK, hRf, hRl, hnm, hNW⟩, hce, hsl⟩ := hC
  obtain ⟨rfl, rfl, rfl, hbG, hX, hsz, s0, d0, rfl, hsz0, hd0, rfl, rfl⟩ := hZ
  have hHs : H.size = G.1 + 60 := hW.1
  refine va_forget (fun q hq => by have := (hL' q hq).1; show s0.heap.size ≤ q.base; omega) ?_
  exact lw_start hL G H p l e room_1 (s0.setDrawn d0) m #[Value.ref b] below meth c _ _ (lw_Z below #[Value.ref b] s0) ⟨hx, hb, hml, hrt, hown, hlk, hts, hK, rfl, rfl, by decide, by decide⟩ ⟨rfl, by decide, by decide, by omega, hbG, hX.kept (hF b hbG), s0, d0, rfl, Nat.le_of_eq hsz0, hd0, rfl, rfl⟩ H ls [] (k_HP_HW hW) k_FR.rf (fun q hq => by cases hq) hl
/-- from the entry, for every script of at most 260 ints, the law comes to its end with true -/
theorem whole_start {p : Program} {e : Env} {s : State} {m : MethodId} {below : List Frame} {meth : Method} {c : Code} (l : Launch) (hflags : l.flags = flags0) {b L : Nat} {xs : Nat → Int32} (hL : L ≤ 260) (C0 : lw_At p s m meth c b L xs) : W p l e room_1 s m #[Value.ref b] below meth c s.heap [] 0 0 (lw_Z below #[Value.ref b] s) (entryFrame m ([Value.ref b] : List Value).toArray 18) := by
  refine W.base ?_
  have hd0 := Drawn.sameBut.refl s.drawn lw_cs
  obtain ⟨hx, hb, hrt, hml, hown, hts0, hX, hbs, hlk, -⟩ := C0
  have hts := dr_words hts0 s.drawn
  obtain ⟨G, hG, hK⟩ := k_known hts
  have hGs : G.1 = s.heap.size := hG
  have hl := lv_entry ([Value.ref b]) (n := 18) (show (lg_sl [Value.ref b]).length ≤ 18 from Nat.le_of_ble_eq_true rfl)
  rw [lg_entry_eq]
  have hla : lv_args 0 [Value.ref b] = k_lc G.1 0 [some (Sum.inl (Value.ref b)), none, none, none, none, none, none, none, none, none, none, none, none, none, none, none, none, none] := rfl
  rw [hla] at hl
  exact lw_make hL G s.heap p l e room_1 (s.setDrawn s.drawn) m #[Value.ref b] below meth c 0 0 _ ⟨⟨hx, hb, hml, hrt, hown, hlk, fun w hw => hts w (k_tb_lw hw), hK, rfl, rfl, (fun z => absurd z (by decide)), k_NW_start hts⟩, by decide, by decide⟩ ⟨rfl, rfl, rfl, by omega, hX, hGs, s, s.drawn, rfl, hGs.symm, hd0, rfl, rfl⟩ s.heap _ [] ⟨hGs.symm, fun k i hi hl => absurd hl (Nat.not_lt_zero _)⟩ k_FP.rf (fun q hq => by cases hq) hl
