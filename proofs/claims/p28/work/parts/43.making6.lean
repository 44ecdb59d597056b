/-! ===== the making machine: a plain making; boolean and long arrays ===== -/
theorem gp_make {I cal : KI} {B : Nat × Nat × Nat × Nat} {Z : KZ} {loc : List (Option KV)} {st : List KV} {pc q idx k i : Nat} {M M' : KPM} (hd : decode I.2.1 pc = .ok (.invokespecial idx, 3)) (hlink : Cond.methodLink I.1.cls idx cal.1 ∈ k_tb) (hc : KCI cal (M'.1 - M.1) (M'.2.2 - M.2.2)) (hR : KR I cal) (hr : (st.map k_cat).sum ≤ 8) (hok : OkP cal k i M M') (hB : B.1 ≤ M.1 ∧ M.1 ≤ M'.1 ∧ M'.1 ≤ B.2.2.1) (hB2 : B.2.1 ≤ M.2.2 ∧ M.2.2 ≤ M'.2.2 ∧ M'.2.2 ≤ B.2.2.2) (hq : pc + 3 = q) (h : GoP I B Z M' loc st q) : GoP I B Z M loc (vR k i :: st) pc := by
  subst hq
  intro G Hb p l e R s m args below meth c cells slots Qf hC hZ H ls locs hW hF hL hl
  obtain ⟨⟨hx, hb, hml, hrt, hown, hlk, hts, hK, hRf, hRl, hnm, hNW⟩, hce, hsl⟩ := id hC
  obtain ⟨hcode, hini, hinst, hnm2, hret, hdd, hrc, hrs⟩ := hc
  have hG := k_goodIn hcode
  have hcw := callB_of (R := R) (s := s) (args := args) (own := I.1.cls) (index := idx) (ret := none) 0 hts hG rfl hrc hrs (hts _ hini) (hts _ hlink) hdd (by rw [hRf, hRl]; exact hR)
  have hokG := hok l G
  have hws : k_ws cal = .code cal.1 cal.2.1 cal.2.2.1 none :: k_tb := by
    show (.code cal.1 cal.2.1 cal.2.2.1 cal.2.2.2.1 :: k_tb) = _
    rw [hret]
  rw [hws] at hokG
  have hrun := va_runI (p := p) (l := l) (e := e) (R := R) (below := below) (meth := meth) (H := H) (locs := locs) (cells := cells + (M.1 - B.1)) (slots := slots + (M.2.2 - B.2.1)) (As := []) (rest := st.map (k_cv G.1)) (g := F0 m pc ls ((vR k i :: st).map (k_cv G.1))) ⟨hx, hb, hml, hown, hts⟩ hokG ⟨hcw, hnm2, hts _ hinst⟩
    ⟨k_blindP, fun U hU hw => ⟨rfl, by rw [hU]; exact hW, va_K.moved hw.alike hK, k_NW_moved hw hNW⟩⟩ rfl rfl hl.1 rfl (lv_room (by rw [k_catsum]; exact hr)) hd ⟨by omega, by omega⟩
  intro T hT X
  obtain ⟨v, st₀, t, T', L, h0, X', hLf, e1, e2, ⟨hv, hW1, hF1⟩, st9⟩ := hrun T hT X
  have hv2 : v = none := by injection hv
  subst hv2
  rw [h0] at hF1
  have k0 := h G Hb p l e R s m args below meth c cells slots Qf hC hZ t.heap ls (locs ++ L) hW1 (hF.tr hF1) (fun q hq => by
    rcases List.mem_append.mp hq with h | h
    · exact hL q h
    · exact hLf q h) hl
  rw [show cells + (M'.1 - B.1) = cells + (M.1 - B.1) + (M'.1 - M.1) by omega, show slots + (M'.2.2 - B.2.1) = slots + (M.2.2 - B.2.1) + (M'.2.2 - M.2.2) by omega] at k0
  obtain ⟨t2, a1, b1⟩ := k0 T' e1 X'
  exact ⟨t2, st9 t2 a1, b1⟩
section Making4
variable {I : KI} {B : Nat × Nat × Nat × Nat} {Z : KZ} {loc : List (Option KV)} {st : List KV} {pc q : Nat} {F : List ((Nat × Nat) × (KG → va_E))} {N S : Nat}
theorem gp_newZ {k i n : Nat} {x : Int32} (hd : decode I.2.1 pc = .ok (.newarray .boolean, 2)) (harr : Cond.arrayClass (newarray.typeOf .boolean) ∈ k_tb) (hx0 : x = nI n) (hn : n ≤ 15625) (hk3 : k = 3) (hn20 : n = 20) (hk : k_off k i = N) (hi : i < k_cnt k) (hno : F.lookup (k, i) = none) (hB1 : B.1 ≤ N) (hB2 : B.2.1 ≤ S) (hB3 : N + 1 ≤ B.2.2.1) (hB4 : S + n ≤ B.2.2.2) (hq : pc + 2 = q) (h : GoP I B Z (N + 1, F, S + n) loc (vR k i :: st) q) : GoP I B Z (N, F, S) loc (vI x :: st) pc := by
  subst hq; subst hx0
  intro G Hb p l e R s m args below meth c cells slots Qf hC hZ H ls locs hW hF hL hl
  obtain ⟨⟨hx, hb, hml, hrt, hown, hlk, hts, hK, hRf, hRl, hnm, hNW⟩, hce, hsl⟩ := id hC
  have hsz : H.size = G.1 + N := hW.1
  have hcl : (nI n).toNatClampNeg = n := nI_clamp (by omega)
  refine va_newaK (atype := .boolean) hx hb (hts _ harr) rfl hd rfl (Int32.not_lt.mpr (nI_pos' (by omega))) hcl (by show n * 1 ≤ 536870912; omega) (by show cells + (N - B.1) + 1 ≤ R.cells; omega) (by show slots + (S - B.2.1) + n ≤ R.slots; omega) rfl (fun H1 cA e1 z1 o1 hAr hNm => ?_)
  obtain rfl : cA = G.2.2.2.1 := Option.some.inj (hNm.symm.trans (hK.2 1 _ rfl).2)
  have k0 := h G Hb p l e R s m args below meth c cells slots Qf hC hZ H1 ls locs (k_HP_add hW hk hi hno z1 o1 ?_) (fun q hq => (o1 q (by omega)).trans (hF q hq)) hL hl
  · have hst : (vR k i :: st).map (k_cv G.1) = Value.ref H.size :: st.map (k_cv G.1) := by
      show Value.ref (G.1 + k_off k i) :: _ = _
      rw [hk, ← hsz]
    rw [hst] at k0
    show W p l e R s m args below meth c H1 locs (cells + (N - B.1) + 1) (slots + (S - B.2.1) + n) Qf (F0 m (pc + 2) ls (Value.ref H.size :: st.map (k_cv G.1)))
    rw [show cells + (N - B.1) + 1 = cells + (N + 1 - B.1) by omega, show slots + (S - B.2.1) + n = slots + (S + n - B.2.1) by omega]
    exact k0
  · rw [← hsz]
    subst hk3; subst hn20
    show H1[H.size]? = some (vp_cell G.2.2.2.1 (20, .inl (M0.1 3 i)))
    rw [e1, vp_cell_i]
    congr 2
theorem gp_newJ {k i n : Nat} {x : Int32} (hd : decode I.2.1 pc = .ok (.newarray .long, 2)) (harr : Cond.arrayClass (newarray.typeOf .long) ∈ k_tb) (hx0 : x = nI n) (hn : n ≤ 15625) (hk3 : k = 13) (hn20 : n = 245) (hk : k_off k i = N) (hi : i < k_cnt k) (hno : F.lookup (k, i) = none) (hB1 : B.1 ≤ N) (hB2 : B.2.1 ≤ S) (hB3 : N + 1 ≤ B.2.2.1) (hB4 : S + n ≤ B.2.2.2) (hq : pc + 2 = q) (h : GoP I B Z (N + 1, F, S + n) loc (vR k i :: st) q) : GoP I B Z (N, F, S) loc (vI x :: st) pc := by
  subst hq; subst hx0
  intro G Hb p l e R s m args below meth c cells slots Qf hC hZ H ls locs hW hF hL hl
  obtain ⟨⟨hx, hb, hml, hrt, hown, hlk, hts, hK, hRf, hRl, hnm, hNW⟩, hce, hsl⟩ := id hC
  have hsz : H.size = G.1 + N := hW.1
  have hcl : (nI n).toNatClampNeg = n := nI_clamp (by omega)
  refine va_newaK (atype := .long) hx hb (hts _ harr) rfl hd rfl (Int32.not_lt.mpr (nI_pos' (by omega))) hcl (by show n * 8 ≤ 536870912; omega) (by show cells + (N - B.1) + 1 ≤ R.cells; omega) (by show slots + (S - B.2.1) + n ≤ R.slots; omega) rfl (fun H1 cA e1 z1 o1 hAr hNm => ?_)
  obtain rfl : cA = G.2.2.2.2.1 := Option.some.inj (hNm.symm.trans (hK.2 2 _ rfl).2)
  have k0 := h G Hb p l e R s m args below meth c cells slots Qf hC hZ H1 ls locs (k_HP_add hW hk hi hno z1 o1 ?_) (fun q hq => (o1 q (by omega)).trans (hF q hq)) hL hl
  · have hst : (vR k i :: st).map (k_cv G.1) = Value.ref H.size :: st.map (k_cv G.1) := by
      show Value.ref (G.1 + k_off k i) :: _ = _
      rw [hk, ← hsz]
    rw [hst] at k0
    show W p l e R s m args below meth c H1 locs (cells + (N - B.1) + 1) (slots + (S - B.2.1) + n) Qf (F0 m (pc + 2) ls (Value.ref H.size :: st.map (k_cv G.1)))
    rw [show cells + (N - B.1) + 1 = cells + (N + 1 - B.1) by omega, show slots + (S - B.2.1) + n = slots + (S + n - B.2.1) by omega]
    exact k0
  · rw [← hsz]
    subst hk3; subst hn20
    show H1[H.size]? = some (vp_cell G.2.2.2.2.1 (245, .inr (.inl (M0.2.1 i))))
    rw [e1]
    rfl
end Making4
