/-! ===== the making machine: new, newarray, the root's making, what is made ===== -/
theorem k_tb_lw {w : Cond} (h : w ∈ k_tb) : w ∈ lw_tbl := (List.mem_filter.mp h).1
def ov (ci : Nat) (fl : List KV) : KG → va_E := fun G => .inr (ci, fl.map (k_cv G.1))
def KN (own : String) (idx ci : Nat) (fl : List KV) : Prop := ∃ (C : String) (T : u_T) (N : Nat) (ty : Nat → FieldType), vwCl[ci]? = some (C, T, N) ∧ (∀ w ∈ u_ws C T N, w ∈ k_tb) ∧ (∀ k, k < N → parseFieldDescriptor (T k).2.2.1 = some (ty k)) ∧ Cond.classLink own idx C ∈ k_tb ∧ Cond.instantiable C N ∈ k_tb ∧ Cond.initialized C ∈ k_tb ∧ (∀ b j, j < N → defaultValue (ty j) = vp_V (fl.map (k_cv b)) j) ∧ fl.length = N
section Making2
variable {I : KI} {B : Nat × Nat × Nat × Nat} {Z : KZ} {loc : List (Option KV)} {st : List KV} {pc q : Nat} {F : List ((Nat × Nat) × (KG → va_E))} {N S : Nat}
theorem gp_new {idx k i ci : Nat} {fl : List KV} (hd : decode I.2.1 pc = .ok (.new idx, 3)) (hs : KN I.1.cls idx ci fl) (hk : k_off k i = N) (hi : i < k_cnt k) (hB1 : B.1 ≤ N) (hB2 : B.2.1 ≤ S) (hB3 : N + 1 ≤ B.2.2.1) (hB4 : S + fl.length ≤ B.2.2.2) (hq : pc + 3 = q) (h : GoP I B Z (N + 1, ((k, i), ov ci fl) :: F, S + fl.length) loc (vR k i :: st) q) : GoP I B Z (N, F, S) loc st pc := by
  subst hq
  intro G Hb p l e R s m args below meth c cells slots Qf hC hZ H ls locs hW hF hL hl
  obtain ⟨⟨hx, hb, hml, hrt, hown, hlk, hts, hK, hRf, hRl, hnm, hNW⟩, hce, hsl⟩ := id hC
  obtain ⟨C, T, Nn, ty, hc, hin, hty, h1, h2, h3, hfs, hlen⟩ := hs
  have hKn := hK.1 ci _ hc
  have hsz := hW.1
  have hsz : H.size = G.1 + N := hsz
  refine W.newcK hx hb hown (hts _ h1) (hts _ h2) (hts _ h3) rfl hd (by show cells + (N - B.1) + 1 ≤ R.cells; omega) (by show slots + (S - B.2.1) + Nn ≤ R.slots; omega) hKn.2.1 rfl fun H1 kC hkC e1 z1 o1 => ?_
  have k0 := h G Hb p l e R s m args below meth c cells slots Qf hC hZ H1 ls locs (k_off_cnt hW hk hi z1 o1 (by rw [← hsz]; exact ⟨_, hc, (u_born ty hts hin hKn hkC e1 hty).to (hfs G.1)⟩) (fun e a ha hat => va_at_keep (o1 a ha) hat)) (fun q hq => (o1 q (by omega)).trans (hF q hq)) hL hl
  have e1 : cells + (N + 1 - B.1) = cells + (N - B.1) + 1 := by omega
  have e2 : slots + (S + fl.length - B.2.1) = slots + (S - B.2.1) + Nn := by omega
  have hst : (vR k i :: st).map (k_cv G.1) = Value.ref H.size :: st.map (k_cv G.1) := by
    show Value.ref (G.1 + k_off k i) :: _ = _
    rw [hk, ← hsz]
  rw [hst] at k0
  show W p l e R s m args below meth c H1 locs (cells + (N - B.1) + 1) (slots + (S - B.2.1) + Nn) Qf (F0 m (pc + 3) ls (Value.ref H.size :: st.map (k_cv G.1)))
  rw [← e1, ← e2]
  exact k0
theorem gp_obj {idx k i : Nat} (hd : decode I.2.1 pc = .ok (.invokespecial idx, 3)) (h1 : Cond.methodLink I.1.cls idx Lib.objectInit ∈ k_tb) (h2 : Cond.instanceMethod Lib.objectInit ∈ k_tb) (h3 : Cond.code Lib.objectInit ⟨#[0xb1]⟩ 1 none ∈ k_tb) (hR : 1 ≤ I.2.2.2.2.frames ∧ (st.map k_cat).sum + 12 ≤ I.2.2.2.2.locals) (hq : pc + 3 = q) {M : KPM} (h : GoP I B Z M loc st q) : GoP I B Z M loc (vR k i :: st) pc := by
  subst hq
  intro G Hb p l e R s m args below meth c cells slots Qf hC hZ H ls locs hW hF hL hl
  obtain ⟨⟨hx, hb, hml, hrt, hown, hlk, hts, hK, hRf, hRl, hnm, hNW⟩, hce, hsl⟩ := id hC
  exact W.objInit hx hb hown (hts _ h1) (hts _ h2) (hts _ h3) rfl (by rw [hml]; exact hl.1) rfl hd (by rw [hRf]; exact hR.1) (by rw [hRl, k_catsum]; show 2 * 0 + _ + 12 ≤ _; have := hR.2; omega) (h G Hb p l e R s m args below meth c cells slots Qf hC hZ H ls locs hW hF hL hl)
/-- what is made is what the memory says -/
theorem gp_done {k i ci : Nat} {fl : List KV} {M : KPM} (hoc : k_oc k = some ci) (hfl : fl = k_fl k i (M0.1 k i) M0.2.2) (hno : F.lookup (k, i) = none) (h : GoP I B Z (N, F, S) loc st pc) : GoP I B Z (N, ((k, i), ov ci fl) :: F, S) loc st pc := by
  intro G Hb p l e R s m args below meth c cells slots Qf hC hZ H ls locs hW hF hL hl
  refine h G Hb p l e R s m args below meth c cells slots Qf hC hZ H ls locs ⟨hW.1, fun k' i' hi' hl' => ?_⟩ hF hL hl
  have h1 := hW.2 k' i' hi' hl'
  unfold k_pe at h1 ⊢
  by_cases e : (k', i') = (k, i)
  · cases e
    simp only [List.lookup, beq_self_eq_true] at h1
    rw [hno]
    simp only
    rw [k_ce_obj hoc, ← hfl]
    exact h1
  · have : ((k', i') == (k, i)) = false := beq_eq_false_iff_ne.mpr e
    simp only [List.lookup, this] at h1
    exact h1
end Making2
