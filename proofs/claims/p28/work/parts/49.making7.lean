/-! ===== the making machine: the array of rolls ===== -/
/-- the history's array while it is filled -/
def arO (j : Nat) : KG → va_E := fun G => .inl (G.2.2.2.2.2, 5, .inr (.inr (.inr (.inr (fun t => if t < j then some (G.1 + k_off 1 (3 + t)) else none)))))
section Making5
variable {I : KI} {B : Nat × Nat × Nat × Nat} {Z : KZ} {loc : List (Option KV)} {st : List KV} {pc q : Nat} {F : List ((Nat × Nat) × (KG → va_E))} {N S : Nat}
theorem k_pe_ov {G : KG} {k i : Nat} {f : KG → va_E} (h : F.lookup (k, i) = some f) : k_pe G (N, F, S) k i = f G := by
  unfold k_pe
  show (match F.lookup (k, i) with | some f => f G | none => _) = _
  rw [h]
theorem gp_getf {idx ci j k i : Nat} {fl : List KV} {v : KV} (hd : decode I.2.1 pc = .ok (.getfield idx, 3)) (hs : KF I.1.cls idx ci j) (hi : i < k_cnt k) (hN : k_off k i < N) (hlk : F.lookup (k, i) = some (ov ci fl)) (hv : fl[j]? = some v) (hq : pc + 3 = q) (h : GoP I B Z (N, F, S) loc (v :: st) q) : GoP I B Z (N, F, S) loc (vR k i :: st) pc := by
  subst hq
  intro G Hb p l e R s m args below meth c cells slots Qf hC hZ H ls locs hW hF hL hl
  obtain ⟨⟨hx, hb, hml, hrt, hown, hlk0, hts, hK, hRf, hRl, hnm, hNW⟩, hce, hsl⟩ := id hC
  obtain ⟨C, T, N', hc, hj, hin, hlk2⟩ := hs
  have hat := hW.2 k i hi hN
  rw [k_pe_ov hlk] at hat
  exact va_get hx hb hts hin hown hK (k_P1 hat) 0 rfl hc j hj (hts _ hlk2) (fun _ h => h) (by rw [List.getElem?_map, hv]; rfl) hd (h G Hb p l e R s m args below meth c cells slots Qf hC hZ H ls locs hW hF hL hl)
theorem gp_alen {j : Nat} (hd : decode I.2.1 pc = .ok (.arraylength, 1)) (hN : 20 < N) (hlk : F.lookup (8, 0) = some (arO j)) (hq : pc + 1 = q) (h : GoP I B Z (N, F, S) loc (vI 5 :: st) q) : GoP I B Z (N, F, S) loc (vR 8 0 :: st) pc := by
  subst hq
  intro G Hb p l e R s m args below meth c cells slots Qf hC hZ H ls locs hW hF hL hl
  obtain ⟨⟨hx, hb, hml, hrt, hown, hlk0, hts, hK, hRf, hRl, hnm, hNW⟩, hce, hsl⟩ := id hC
  have hat := hW.2 8 0 (by decide) hN
  rw [k_pe_ov hlk] at hat
  exact va_alen hx hb hK (k_P1 hat) 0 3 rfl rfl (v := 5) (show Int32.ofNat 5 = 5 by decide) hd (h G Hb p l e R s m args below meth c cells slots Qf hC hZ H ls locs hW hF hL hl)
theorem gp_anew {idx : Nat} {x : Int32} (hd : decode I.2.1 pc = .ok (.anewarray idx, 3)) (hcl : Cond.classLink I.1.cls idx RX6 ∈ k_tb) (hx0 : x = nI 5) (hN : N = 20) (hB1 : B.1 ≤ N) (hB2 : B.2.1 ≤ S) (hB3 : N + 1 ≤ B.2.2.1) (hB4 : S + 5 ≤ B.2.2.2) (hq : pc + 3 = q) (h : GoP I B Z (N + 1, ((8, 0), arO 0) :: F, S + 5) loc (vR 8 0 :: st) q) : GoP I B Z (N, F, S) loc (vI x :: st) pc := by
  subst hq; subst hx0
  intro G Hb p l e R s m args below meth c cells slots Qf hC hZ H ls locs hW hF hL hl
  obtain ⟨⟨hx, hb, hml, hrt, hown, hlk, hts, hK, hRf, hRl, hnm, hNW⟩, hce, hsl⟩ := id hC
  have hsz : H.size = G.1 + N := hW.1
  have hcl5 : (nI 5).toNatClampNeg = 5 := nI_clamp (by omega)
  refine W.anew hx hb hown (hts _ hcl) (va_AO.use hNW.2.2.2.2.2) rfl hd rfl (Int32.not_lt.mpr (nI_pos' (by omega))) (by rw [hcl5]; omega) (by show cells + (N - B.1) + 1 ≤ R.cells; omega) (by rw [hcl5]; show slots + (S - B.2.1) + 5 ≤ R.slots; omega) fun cA kA comp f1 f2 f3 f4 => ?_
  rw [hcl5]
  obtain rfl : cA = G.2.2.2.2.2 := by
    obtain ⟨kA', comp', k1, k2, k3, k4⟩ := (hK.2 3 _ rfl).2
    exact Option.some.inj (f1.symm.trans k4)
  generalize hH1 : H.push ({ cls := G.2.2.2.2.2, slots := Array.replicate 5 .null, vm := .none } : Cell) = H1
  have z1 : H1.size = H.size + 1 := by rw [← hH1, Array.size_push]
  have e1 : H1[H.size]? = some (arrV G.2.2.2.2.2 5 (fun _ => .null)) := by rw [← hH1, Array.getElem?_push_size, ← arrV_new]
  have o1 : ∀ q : Nat, q < H.size → H1[q]? = H[q]? := fun q hq => by rw [← hH1, Array.getElem?_push, if_neg (Nat.ne_of_lt hq)]
  have k0 := h G Hb p l e R s m args below meth c cells slots Qf hC hZ H1 ls locs (k_off_cnt (k := 8) (i := 0) hW hN.symm (by decide) z1 o1 (by
    rw [← hsz]
    show H1[H.size]? = some (vp_cell G.2.2.2.2.2 (5, .inr (.inr (.inr (.inr (fun t => if t < 0 then some (G.1 + k_off 1 (3 + t)) else none))))))
    rw [e1, vp_cell_q]
    rfl) (fun e a ha hat => va_at_keep (o1 a ha) hat)) (fun q hq => (o1 q (by omega)).trans (hF q hq)) hL hl
  have hst : (vR 8 0 :: st).map (k_cv G.1) = Value.ref H.size :: st.map (k_cv G.1) := by
    show Value.ref (G.1 + 20) :: _ = _
    rw [hsz, hN]
  rw [hst] at k0
  show W p l e R s m args below meth c H1 locs (cells + (N - B.1) + 1) (slots + (S - B.2.1) + 5) Qf (F0 m (pc + 3) ls (Value.ref H.size :: st.map (k_cv G.1)))
  rw [show cells + (N - B.1) + 1 = cells + (N + 1 - B.1) by omega, show slots + (S - B.2.1) + 5 = slots + (S + 5 - B.2.1) by omega]
  exact k0
theorem gp_aast {x : Int32} (j : Nat) (hd : decode I.2.1 pc = .ok (.aastore, 1)) (hxj : x = nI j) (hj : j < 5) (hN : k_off 1 (3 + j) < N) (hno : F.lookup (1, 3 + j) = none) (hq : pc + 1 = q) (h : GoP I B Z (N, ((8, 0), arO (j + 1)) :: F, S) loc st q) : GoP I B Z (N, ((8, 0), arO j) :: F, S) loc (vR 1 (3 + j) :: vI x :: vR 8 0 :: st) pc := by
  subst hq; subst hxj
  intro G Hb p l e R s m args below meth c cells slots Qf hC hZ H ls locs hW hF hL hl
  obtain ⟨⟨hx, hb, hml, hrt, hown, hlk, hts, hK, hRf, hRl, hnm, hNW⟩, hce, hsl⟩ := id hC
  have hi8 : 0 < k_cnt 8 := by decide
  have hv8 : 3 + j < k_cnt 1 := by show 3 + j < 8; omega
  have hN8 : k_off 8 0 < N := by
    have h1 : k_off 1 (3 + j) = 21 + 6 * (3 + j - 3) := if_neg (by omega)
    show 20 < N
    omega
  have hat0 := hW.2 8 0 hi8 hN8
  rw [k_pe_ov (f := arO j) (by simp only [List.lookup, beq_self_eq_true])] at hat0
  have hat : va_at G.2.1 vwCl (G.1 + k_off 8 0, .inl (G.2.2.2.2.2, 5, .inr (.inr (.inr (.inr (fun t => if t < j then some (G.1 + k_off 1 (3 + t)) else none)))))) H := hat0
  have hcl : (nI j).toNatClampNeg = j := nI_clamp (by omega)
  have hat1 := hW.2 1 (3 + j) hv8 hN
  have hpe : k_pe G (N, ((8, 0), arO j) :: F, S) 1 (3 + j) = k_ce G 1 (3 + j) (M0.1 1 (3 + j)) (M0.2.1 (3 + j)) M0.2.2 := by
    unfold k_pe
    have e2 : ((1, 3 + j) == ((8 : Nat), (0 : Nat))) = false := beq_eq_false_iff_ne.mpr (fun z => by cases z)
    simp only [List.lookup, e2]
    rw [hno]
  rw [hpe, k_ce_obj (ci := 3) rfl] at hat1
  obtain ⟨r', hr', cellV, g1, g2, g3, -⟩ := hat1
  have hr3 : (RX6, TX6, 8) = r' := Option.some.inj ((show vwCl[3]? = some (RX6, TX6, 8) from rfl).symm.trans hr')
  subst hr3
  have hcls := (hK.1 3 (RX6, TX6, 8) rfl).2
  obtain ⟨kA, comp, k1, k2, k3, -⟩ := (hK.2 3 _ rfl).2
  have hcomp : comp = G.2.1.1 3 := Option.some.inj (k3.symm.trans hcls.1)
  subst hcomp
  obtain ⟨kC, hkC, -⟩ := hcls.2
  have hrg : k_rng G (G.1 + k_off 8 0) := ⟨by omega, by have := k_off_lt hi8; omega⟩
  refine W.aast hx hb hat (fun q h => by cases h) (fun h => by cases h) k1 k2 rfl hkC ⟨fun q => vp_in_nI hj (by omega) (Or.inl q), by show _ < (arrV _ _ _).slots.size; rw [arrV_size, hcl]; exact hj⟩ g1 (fun q h => by rw [g3] at h; cases h) (by rw [g2]; exact hkC) (by rw [g2]; exact va_assign hcls) rfl rfl hd fun H1 e1 z oq => ?_
  refine h G Hb p l e R s m args below meth c cells slots Qf hC hZ H1 ls _ (k_HP_put hW hi8 z oq ?_) (fun x hx2 => (oq x (Nat.ne_of_lt (Nat.lt_of_lt_of_le hx2 (Nat.le_add_right _ _)))).trans (hF x hx2)) (fun x hx2 => ?_) hl
  · show H1[_]? = some (vp_cell _ (5, .inr (.inr (.inr (.inr (fun t => if t < j + 1 then some (G.1 + k_off 1 (3 + t)) else none))))))
    rw [e1, hcl]
    rw [vp_cell_q, vp_cell_q, arrV_store]
    congr 2
    funext q
    by_cases hq : q = j
    · subst hq
      simp only [updV, if_true, if_pos (Nat.lt_succ_self q)]
      rfl
    · by_cases hq2 : q < j
      · simp only [updV, if_neg hq, if_pos hq2, if_pos (Nat.lt_succ_of_lt hq2)]
      · simp only [updV, if_neg hq, if_neg hq2, if_neg (show ¬ q < j + 1 by omega)]
  · rcases List.mem_append.mp hx2 with hx3 | hx3
    · exact hL x hx3
    · have : x = ⟨G.1 + k_off 8 0, (nI j).toNatClampNeg⟩ := by simpa using hx3
      rw [this]; exact hrg
theorem arrV_q_congr (cI : ClassId) {f g : Nat → Option Nat} {n : Nat} (h : ∀ t, t < n → f t = g t) : vp_cell cI (n, .inr (.inr (.inr (.inr f)))) = vp_cell cI (n, .inr (.inr (.inr (.inr g)))) := by
  rw [vp_cell_q, vp_cell_q]
  unfold arrV
  have h1 : (Array.ofFn (n := n) fun j => va_rf (f j.val)) = Array.ofFn (n := n) fun j => va_rf (g j.val) := by
    congr 1
    funext j
    rw [h j.val j.isLt]
  rw [h1]
/-- the full array is what the memory says -/
theorem gp_doneA (hno : F.lookup (8, 0) = none) (h : GoP I B Z (N, F, S) loc st pc) : GoP I B Z (N, ((8, 0), arO 5) :: F, S) loc st pc := by
  intro G Hb p l e R s m args below meth c cells slots Qf hC hZ H ls locs hW hF hL hl
  refine h G Hb p l e R s m args below meth c cells slots Qf hC hZ H ls locs ⟨hW.1, fun k' i' hi' hl' => ?_⟩ hF hL hl
  have h1 := hW.2 k' i' hi' hl'
  unfold k_pe at h1 ⊢
  by_cases e : (k', i') = (8, 0)
  · cases e
    simp only [List.lookup, beq_self_eq_true] at h1
    rw [hno]
    simp only
    have h2 : H[G.1 + k_off 8 0]? = some (vp_cell G.2.2.2.2.2 (5, .inr (.inr (.inr (.inr (fun t => if t < 5 then some (G.1 + k_off 1 (3 + t)) else none)))))) := h1
    show H[G.1 + k_off 8 0]? = some (vp_cell G.2.2.2.2.2 (5, .inr (.inr (.inr (.inr (fun t => some (G.1 + k_off 1 (3 + t))))))))
    rw [h2, arrV_q_congr _ (fun t ht => if_pos ht)]
  · have : ((k', i') == (8, 0)) = false := beq_eq_false_iff_ne.mpr e
    simp only [List.lookup, this] at h1
    exact h1
theorem gp_swap {ka kb : Nat × Nat} {fa fb : KG → va_E} (hne : ka ≠ kb) (h : GoP I B Z (N, (kb, fb) :: (ka, fa) :: F, S) loc st pc) : GoP I B Z (N, (ka, fa) :: (kb, fb) :: F, S) loc st pc := by
  intro G Hb p l e R s m args below meth c cells slots Qf hC hZ H ls locs hW hF hL hl
  refine h G Hb p l e R s m args below meth c cells slots Qf hC hZ H ls locs ⟨hW.1, fun k' i' hi' hl' => ?_⟩ hF hL hl
  have h1 := hW.2 k' i' hi' hl'
  unfold k_pe at h1 ⊢
  by_cases ea : (k', i') = ka
  · have e1 : ((k', i') == ka) = true := beq_iff_eq.mpr ea
    have e2 : ((k', i') == kb) = false := beq_eq_false_iff_ne.mpr (fun z => hne (ea.symm.trans z))
    simp only [List.lookup, e1, e2] at h1 ⊢
    exact h1
  · have e1 : ((k', i') == ka) = false := beq_eq_false_iff_ne.mpr ea
    simp only [List.lookup, e1] at h1 ⊢
    exact h1
end Making5
