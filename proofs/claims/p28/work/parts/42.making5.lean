/-! ===== the making machine: makings called ===== -/
theorem k_NW_moved {s U : State} (hW : s.WarmedH U.vm) (h : k_NW s) : k_NW U := by
  obtain ⟨h1, h2, h3, h4, h5, h6⟩ := h
  exact ⟨va_Nw.warmM hW h1, va_Nw.warmM hW h2, va_Nw.warmM hW h3, va_Nw.warmM hW h4, va_Nw.warmM hW h5, va_AO.moved hW.alike h6⟩
theorem k_NW_same {u U : State} (hv : u.vm = U.vm) (h : k_NW u) : k_NW U := by
  obtain ⟨h1, h2, h3, h4, h5, h6⟩ := h
  exact ⟨va_Nw.same rfl hv h1, va_Nw.same rfl hv h2, va_Nw.same rfl hv h3, va_Nw.same rfl hv h4, va_Nw.same rfl hv h5, va_AO.moved (by rw [hv]; exact Vm.Alike.refl _) h6⟩
theorem k_blindP {G : KG} {k i : Nat} {M : KPM} : FrameBlind (k_PP G k i M) := fun a U g mk h => ⟨h.1, h.2.1, va_K.moved (u := U) (U := U.calling g mk a) (Vm.Alike.refl U.vm) h.2.2.1, k_NW_same (U := U.calling g mk a) rfl h.2.2.2⟩
def KCI (cal : KI) (mc ms : Nat) : Prop := Cond.code cal.1 cal.2.1 cal.2.2.1 none ∈ k_tb ∧ Cond.initialized cal.1.cls ∈ k_tb ∧ Cond.instanceMethod cal.1 ∈ k_tb ∧ cal.1.name = "<init>" ∧ cal.2.2.2.1 = none ∧ (cal.1.cls ≠ "java/lang/invoke/MethodHandle" ∧ cal.1.cls ≠ "java/lang/invoke/VarHandle" ∧ (parseMethodDescriptor cal.1.desc).map (fun d => d.parameters.length) = some 0) ∧ cal.2.2.2.2.cells = mc ∧ cal.2.2.2.2.slots = ms
theorem gp_makeN {I cal : KI} {B : Nat × Nat × Nat × Nat} {Z : KZ} {loc : List (Option KV)} {st : List KV} {pc q idx k i : Nat} {M M' : KPM} {host : String} (hd : decode I.2.1 pc = .ok (.invokespecial idx, 3)) (hlink : ∀ s, k_NW s → va_Nw (.methodLinkNest I.1.cls idx cal.1 host) s) (hc : KCI cal (M'.1 - M.1) (M'.2.2 - M.2.2)) (hR : KR I cal) (hr : (st.map k_cat).sum ≤ 8) (hok : OkP cal k i M M') (hB : B.1 ≤ M.1 ∧ M.1 ≤ M'.1 ∧ M'.1 ≤ B.2.2.1) (hB2 : B.2.1 ≤ M.2.2 ∧ M.2.2 ≤ M'.2.2 ∧ M'.2.2 ≤ B.2.2.2) (hq : pc + 3 = q) (h : GoP I B Z M' loc st q) : GoP I B Z M loc (vR k i :: st) pc := by
  subst hq
  intro G Hb p l e R s m args below meth c cells slots Qf hC hZ H ls locs hW hF hL hl
  obtain ⟨⟨hx, hb, hml, hrt, hown, hlk, hts, hK, hRf, hRl, hnm, hNW⟩, hce, hsl⟩ := id hC
  obtain ⟨hcode, hini, hinst, hnm2, hret, hdd, hrc, hrs⟩ := hc
  have hG := k_goodIn hcode
  have hcw := va_cnB (R := R) (s := s) (args := args) (own := I.1.cls) (index := idx) (ret := none) 0 hts hG rfl hrc hrs (hlink s hNW) (hts _ hini) hdd (by rw [hRf, hRl]; exact hR)
  have hokG := hok l G
  have hws : k_ws cal = .code cal.1 cal.2.1 cal.2.2.1 none :: k_tb := by
    show (.code cal.1 cal.2.1 cal.2.2.1 cal.2.2.2.1 :: k_tb) = _
    rw [hret]
  rw [hws] at hokG
  have hrun := va_runIN (p := p) (l := l) (e := e) (R := R) (below := below) (meth := meth) (H := H) (locs := locs) (cells := cells + (M.1 - B.1)) (slots := slots + (M.2.2 - B.2.1)) (As := []) (rest := st.map (k_cv G.1)) (g := F0 m pc ls ((vR k i :: st).map (k_cv G.1))) ⟨hx, hb, hml, hown, hts⟩ hokG ⟨hcw, hnm2, hts _ hinst⟩
    ⟨k_blindP, fun U hU hw => ⟨rfl, by rw [hU]; exact hW, va_K.moved hw.alike hK, k_NW_moved hw hNW⟩⟩ rfl rfl hl.1 rfl (lv_room (by rw [k_catsum]; exact hr)) hd ⟨by omega, by omega⟩
  intro T hT X
  obtain ⟨v, st₀, t, T', L, h0, X', hLf, e1, e2, ⟨hv, hW1, hF1⟩, st9⟩ := hrun T hT X
  have hv2 : v = none := by injection hv
  subst hv2
  rw [h0] at hF1
  have k0 := h G Hb p l e R s m args below meth c cells slots Qf hC hZ t.heap ls (locs ++ L) hW1 (hF.tr hF1) (fun q hq => by
    rcases List.mem_append.mp hq with h | h
    · exact hL q h
    · exact hLf q h) hl
  rw [show cells + (M'.1 - B.1) = cells + (M.1 - B.1) + (M'.1 - M.1) by omega, show slots + (M'.2.2 - B.2.1) = slots + (M.2.2 - B.2.1) + (M'.2.2 - M.2.2) by omega] at k0
  obtain ⟨t2, a1, b1⟩ := k0 T' e1 X'
  exact ⟨t2, st9 t2 a1, b1⟩
