/-! ===== the making machine: contracts, return, calls ===== -/
def k_PP (G : KG) (k i : Nat) (M : KPM) : Array Value → State → Prop := fun v U => v = #[Value.ref (G.1 + k_off k i)] ∧ k_HP G M U.heap ∧ va_K G.2.1 vwCl (k_tys G) U ∧ k_NW U
def k_QP (G : KG) (M' : KPM) : Array Value → State → Outcome → State → Prop := fun _ st o t => o = .returned none ∧ k_HP G M' t.heap ∧ k_FP G st.heap t.heap
def ZP (M M' : KPM) : KZ := fun G Hb _ _ _ _ s _ args below _ _ cells slots Qf => Hb = s.heap ∧ cells = 0 ∧ slots = 0 ∧ Qf = MQ below (k_QP G M') args s (M'.1 - M.1) (M'.2.2 - M.2.2) (k_rng G)
def OkP (I : KI) (k i : Nat) (M M' : KPM) : Prop := ∀ (l : Launch) (G : KG), Met l I.1 (k_ws I) I.2.2.2.2 (k_PP G k i M) (k_QP G M') (M'.1 - M.1) (M'.2.2 - M.2.2) (k_rng G)
abbrev BP (M M' : KPM) : Nat × Nat × Nat × Nat := (M.1, M.2.2, M'.1, M'.2.2)
theorem okp_of {I : KI} {k i : Nat} {M M' : KPM} (hn : plainName I.1.cls = true) (hlen : 1 ≤ I.2.2.1) (hc : I.2.2.2.2.cells = M'.1 - M.1) (hs : I.2.2.2.2.slots = M'.2.2 - M.2.2) (h : GoP I (BP M M') (ZP M M') M (some (vR k i) :: List.replicate (I.2.2.1 - 1) none) [] 0) : OkP I k i M M' := by
  intro l G
  refine Met.ofW (cc := I.2.1) (maxL := I.2.2.1) (ret := I.2.2.2.1) (ws' := k_tb) hn rfl ?_
  intro p e s m args below meth c s₁ B hml hv
  obtain ⟨rfl, hW, hK, hNW⟩ := hv
  have hts := atoms_spec (ws := k_ws I) B.pre
  have hin := (name_of_methodNamed B.named B.method).1
  have hl := lv_entry ([Value.ref (G.1 + k_off k i)]) (n := I.2.2.1) (show (lg_sl [Value.ref (G.1 + k_off k i)]).length ≤ I.2.2.1 from hlen)
  rw [show (#[Value.ref (G.1 + k_off k i)] : Array Value) = ([Value.ref (G.1 + k_off k i)] : List Value).toArray from rfl, lg_entry_eq]
  have hla : lv_args 0 [Value.ref (G.1 + k_off k i)] = k_lc G.1 0 (some (vR k i) :: List.replicate (I.2.2.1 - 1) none) := by
    have h1 := k_lc_rep (b := G.1) [some (vR k i)] (I.2.2.1 - 1) 0
    rw [List.singleton_append] at h1
    rw [h1]
    rfl
  rw [hla] at hl
  have k0 := h G s.heap p l e _ s m _ below meth c 0 0 _ ⟨⟨B.exec, B.bytes, hml, B.returns, findClass_of_methodNamed B.named, B.notSynchronized, fun w hw => hts w (List.mem_cons_of_mem _ hw), hK, rfl, rfl, fun z => hin.trans z, hNW⟩, by show 0 + (M'.1 - M.1) ≤ I.2.2.2.2.cells; omega, by show 0 + (M'.2.2 - M.2.2) ≤ I.2.2.2.2.slots; omega⟩ ⟨rfl, rfl, rfl, rfl⟩ s.heap _ [] hW k_FP.rf (fun q hq => by cases hq) hl
  simp only [BP, Nat.sub_self, Nat.add_zero] at k0
  exact k0
theorem gp_ret {I : KI} {M M' : KPM} {loc : List (Option KV)} {pc : Nat} (hd : decode I.2.1 pc = .ok (.return_, 1)) (hr : I.2.2.2.1 = none) : GoP I (BP M M') (ZP M M') M' loc [] pc := by
  intro G Hb p l e R s m args below meth c cells slots Qf hC hZ H ls locs hW hF hL hl
  obtain ⟨⟨hx, hb, hml, hrt, hown, hlk, hts, hK, hRf, hRl, hnm, hNW⟩, hce, hsl⟩ := id hC
  obtain ⟨rfl, rfl, rfl, rfl⟩ := hZ
  show W p l e R s m args below meth c H locs (0 + (M'.1 - M.1)) (0 + (M'.2.2 - M.2.2)) _ _
  rw [Nat.zero_add, Nat.zero_add]
  exact W.vret hx hb (hrt.trans hr) (fun t ht _ => ⟨rfl, by rw [ht]; exact hW, by rw [ht]; exact hF⟩) hL hd (hlocks := hlk)
