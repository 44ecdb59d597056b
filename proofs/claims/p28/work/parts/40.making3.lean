/-! ===== the making machine: putfield, newarray ===== -/
theorem k_putFW {p : Program} {l : Launch} {e : Env} {R : Room} {s : State} {m : MethodId} {args : Array Value} {below : List Frame} {meth : Method} {c : Code} {H : Heap} {locs : List Loc} {cells slots : Nat} {Q : State → Prop} {cc : ByteArray} {pc : Nat} {ls : Array Slot} {rest : List Value} {D : va_G} {cl : List vw_C} {tys : List (ClassId × FieldType)} {a : Nat} (hexec : p.tables.exec = Jvm.exec) (hb : c.code = cc) {own C : String} {T : u_T} {N ci index : Nat} {Ts : List Cond} (hts : ∀ w ∈ Ts, w.before args s = true) (hin : ∀ w ∈ u_ws C T N, w ∈ Ts) (ty0 : Nat → FieldType) (hty : ∀ k, k < N → parseFieldDescriptor (T k).2.2.1 = some (ty0 k)) (hnm : ∀ a, a < N → ∀ b, b < N → a ≠ b → (T a).2.1 ≠ (T b).2.1) (hown : s.vm.findClass own = some m.cls) (hK : va_K D cl tys s) {fs : List Value} (hat : va_at D cl (a, .inr (ci, fs)) H) (hc : cl[ci]? = some (C, T, N)) (k : Nat) (hk : k < N) (hlink : (Cond.fieldLink own index (T k).1 (T k).2.1 (T k).2.2.1).before args s = true) (hfin : (T k).2.2.2 = true) (hin2 : meth.name = "<init>") (hdecl : (T k).1 = own) {ty : FieldType} {v : Value} (hd : parseFieldDescriptor (T k).2.2.1 = some ty) (hn : narrow ty v = v) (hfit : fits ty v = true) (hl : k < fs.length)
    (hdg : decode cc pc = .ok (.putfield index, 3)) (kk : ∀ (H1 : Heap) (j : Nat), va_at D cl (a, .inr (ci, fs.set k v)) H1 → H1.size = H.size → (∀ q, q ≠ a → H1[q]? = H[q]?) → W p l e R s m args below meth c H1 (locs ++ [⟨a, j⟩]) cells slots Q (F0 m (pc + 3) ls rest)) : W p l e R s m args below meth c H locs cells slots Q (F0 m pc ls (v :: .ref a :: rest)) := by
  have hap := va_apart (own := own) hts hin ty0 hty hnm hK hc
  obtain ⟨r, h1, cell, q1, q2, q3, q4⟩ := hat
  have hr : r = (C, T, N) := Option.some.inj (h1.symm.trans hc)
  subst hr
  obtain ⟨hS, hfc, kC, hkC, hkind⟩ := hK.1 ci _ hc
  obtain ⟨cf, kf, fi, f, hi, hsl⟩ := hS k hk
  have hlay := hts _ (hin _ (u_in_lay hk))
  unfold u_lay at hlay
  rw [if_pos hfin] at hlay
  have hst := (u_facts hfc hkC (u_lays hts hin hk) hi).1
  have hcf : m.cls = cf := by
    obtain ⟨_, _, c', _, _, _, -, -, hf', -, -, -, hown2, -⟩ := Cond.laysFinal_spec hlay
    have e1 : c' = cf := by have := hi.symm.trans hf'; simp at this; exact this.1.symm
    rw [hdecl] at hown2
    rw [← e1]; exact Option.some.inj (hown.symm.trans hown2)
  have h6 := u_fits hfc hkC hkind (Or.inr hlay) hi hd hn hfit
  refine W.putFinK hexec hb hown hlink hi hst hcf hin2 (by rw [q2]; exact h6) q1 q3 (by rw [hsl]; exact k2_hasslot (q4 k hk)) rfl rfl hdg fun H' e1 e2 e3 => ?_
  rw [hsl] at e1
  exact kk H' _ ⟨_, hc, t_OB.to (V := updV (vp_V fs) k v) ⟨_, e1, q2, q3, t_set q4 hap hk v⟩ (fun j _ => vp_updV_set hl v j)⟩ e2 e3
def KPF (own : String) (idx ci j : Nat) (ty : FieldType) (fin : Bool) : Prop := ∃ (C : String) (T : u_T) (N : Nat) (ty0 : Nat → FieldType), vwCl[ci]? = some (C, T, N) ∧ j < N ∧ (∀ w ∈ u_ws C T N, w ∈ k_tb) ∧ Cond.fieldLink own idx (T j).1 (T j).2.1 (T j).2.2.1 ∈ k_tb ∧ (∀ k, k < N → parseFieldDescriptor (T k).2.2.1 = some (ty0 k)) ∧ (∀ a, a < N → ∀ b, b < N → a ≠ b → (T a).2.1 ≠ (T b).2.1) ∧ (T j).2.2.2 = fin ∧ (fin = true → (T j).1 = own) ∧ parseFieldDescriptor (T j).2.2.1 = some ty
section Making3
variable {I : KI} {B : Nat × Nat × Nat × Nat} {Z : KZ} {loc : List (Option KV)} {st : List KV} {pc q : Nat} {F : List ((Nat × Nat) × (KG → va_E))} {N S : Nat}
theorem k_HP_put {G : KG} {k i : Nat} {f f' : KG → va_E} {H H1 : Heap} (hW : k_HP G (N, ((k, i), f) :: F, S) H) (hi : i < k_cnt k) (hz : H1.size = H.size) (oq : ∀ q, q ≠ G.1 + k_off k i → H1[q]? = H[q]?) (he : va_at G.2.1 vwCl (G.1 + k_off k i, f' G) H1) : k_HP G (N, ((k, i), f') :: F, S) H1 := by
  refine ⟨hz.trans hW.1, fun k' i' hi' hl' => ?_⟩
  have h1 := hW.2 k' i' hi' hl'
  unfold k_pe at h1 ⊢
  by_cases e : (k', i') = (k, i)
  · cases e
    simp only [List.lookup, beq_self_eq_true]
    exact he
  · have e2 : ((k', i') == (k, i)) = false := beq_eq_false_iff_ne.mpr e
    simp only [List.lookup, e2] at h1 ⊢
    refine va_at_keep (oq _ (fun z => e ?_)) h1
    obtain ⟨e3, e4⟩ := k_off_inj hi' hi (by omega)
    rw [e3, e4]
theorem gp_put {idx ci j k i : Nat} {fl : List KV} {v : KV} {ty : FieldType} {fin : Bool} (hd : decode I.2.1 pc = .ok (.putfield idx, 3)) (hs : KPF I.1.cls idx ci j ty fin) (hini : I.1.name = "<init>") (hi : i < k_cnt k) (hN : k_off k i < N) (hn : ∀ b, narrow ty (k_cv b v) = k_cv b v) (hfit : ∀ b, fits ty (k_cv b v) = true) (hl2 : j < fl.length) (hq : pc + 3 = q) (h : GoP I B Z (N, ((k, i), ov ci (fl.set j v)) :: F, S) loc st q) : GoP I B Z (N, ((k, i), ov ci fl) :: F, S) loc (v :: vR k i :: st) pc := by
  subst hq
  intro G Hb p l e R s m args below meth c cells slots Qf hC hZ H ls locs hW hF hL hl
  obtain ⟨⟨hx, hb, hml, hrt, hown, hlk, hts, hK, hRf, hRl, hnm, hNW⟩, hce, hsl⟩ := id hC
  obtain ⟨C, T, N', ty0, hc, hj, hin, hlk2, hty, hdist, hfin, hdecl, hpd⟩ := hs
  have hat := hW.2 k i hi hN
  have hov : k_pe G (N, ((k, i), ov ci fl) :: F, S) k i = .inr (ci, fl.map (k_cv G.1)) := by
    unfold k_pe
    simp only [List.lookup, beq_self_eq_true]
    rfl
  rw [hov] at hat
  have hrg : k_rng G (G.1 + k_off k i) := ⟨by omega, by have := k_off_lt hi; omega⟩
  have kk : ∀ (H1 : Heap) (j' : Nat), va_at G.2.1 vwCl (G.1 + k_off k i, .inr (ci, (fl.map (k_cv G.1)).set j (k_cv G.1 v))) H1 → H1.size = H.size → (∀ q, q ≠ G.1 + k_off k i → H1[q]? = H[q]?) → W p l e R s m args below meth c H1 (locs ++ [⟨G.1 + k_off k i, j'⟩]) (cells + (N - B.1)) (slots + (S - B.2.1)) Qf (F0 m (pc + 3) ls (st.map (k_cv G.1))) := fun H1 j' hat1 z oq => by
    refine h G Hb p l e R s m args below meth c cells slots Qf hC hZ H1 ls _ (k_HP_put hW hi z oq ?_) (fun x hx2 => (oq x (by omega)).trans (hF x hx2)) (fun x hx2 => ?_) hl
    · show va_at _ _ (_, .inr (ci, (fl.set j v).map (k_cv G.1))) _
      rw [List.map_set]; exact hat1
    · rcases List.mem_append.mp hx2 with hx3 | hx3
      · exact hL x hx3
      · have : x = ⟨G.1 + k_off k i, j'⟩ := by simpa using hx3
        rw [this]; exact hrg
  cases hf : fin with
  | true => exact k_putFW hx hb hts hin ty0 hty hdist hown hK hat hc j hj (hts _ hlk2) (hfin.trans hf) (hnm hini) (hdecl hf) hpd (hn G.1) (hfit G.1) (by rw [List.length_map]; exact hl2) hd kk
  | false => exact k_putW hx hb hts hin ty0 hty hdist hown hK hat hc j hj (hts _ hlk2) (hfin.trans hf) hpd (hn G.1) (hfit G.1) (by rw [List.length_map]; exact hl2) hd kk
/-- a cell made at once as the memory says -/
theorem k_HP_add {G : KG} {k i S1 : Nat} {H H1 : Heap} (hW : k_HP G (N, F, S) H) (hk : k_off k i = N) (hi : i < k_cnt k) (hno : F.lookup (k, i) = none) (hz : H1.size = H.size + 1) (oq : ∀ q, q < H.size → H1[q]? = H[q]?) (he : va_at G.2.1 vwCl (G.1 + N, k_ce G k i (M0.1 k i) (M0.2.1 i) M0.2.2) H1) : k_HP G (N + 1, F, S1) H1 := by
  obtain ⟨h1, h2⟩ := hW
  refine ⟨by rw [hz, h1]; show _ = G.1 + (N + 1); omega, fun k' i' hi' hl => ?_⟩
  by_cases e : k_off k' i' = N
  · obtain ⟨rfl, rfl⟩ := k_off_inj hi' hi (e.trans hk.symm)
    unfold k_pe
    rw [hno, e]
    exact he
  · have hl2 : k_off k' i' < N := by
      have : k_off k' i' < N + 1 := hl
      omega
    exact va_at_keep (oq _ (by rw [h1]; show G.1 + _ < G.1 + N; omega)) (h2 k' i' hi' hl2)
theorem gp_newI {k i n : Nat} {x : Int32} (hd : decode I.2.1 pc = .ok (.newarray .int, 2)) (harr : Cond.arrayClass (newarray.typeOf .int) ∈ k_tb) (hx0 : x = nI n) (hn : n ≤ 15625) (hoc : k_oc k = none) (har : k_ar k = some n) (h14 : k ≠ 14) (hk : k_off k i = N) (hi : i < k_cnt k) (hno : F.lookup (k, i) = none) (hB1 : B.1 ≤ N) (hB2 : B.2.1 ≤ S) (hB3 : N + 1 ≤ B.2.2.1) (hB4 : S + n ≤ B.2.2.2) (hq : pc + 2 = q) (h : GoP I B Z (N + 1, F, S + n) loc (vR k i :: st) q) : GoP I B Z (N, F, S) loc (vI x :: st) pc := by
  subst hq; subst hx0
  intro G Hb p l e R s m args below meth c cells slots Qf hC hZ H ls locs hW hF hL hl
  obtain ⟨⟨hx, hb, hml, hrt, hown, hlk, hts, hK, hRf, hRl, hnm, hNW⟩, hce, hsl⟩ := id hC
  have hsz : H.size = G.1 + N := hW.1
  have hcl : (nI n).toNatClampNeg = n := nI_clamp (by omega)
  refine va_newaK (atype := .int) hx hb (hts _ harr) rfl hd rfl (Int32.not_lt.mpr (nI_pos' (by omega))) hcl (by show n * 4 ≤ 536870912; omega) (by show cells + (N - B.1) + 1 ≤ R.cells; omega) (by show slots + (S - B.2.1) + n ≤ R.slots; omega) rfl (fun H1 cA e1 z1 o1 hAr hNm => ?_)
  obtain rfl : cA = G.2.2.1 := Option.some.inj (hNm.symm.trans (hK.2 0 _ rfl).2)
  have k0 := h G Hb p l e R s m args below meth c cells slots Qf hC hZ H1 ls locs (k_HP_add hW hk hi hno z1 o1 ?_) (fun q hq => (o1 q (by omega)).trans (hF q hq)) hL hl
  · have hst : (vR k i :: st).map (k_cv G.1) = Value.ref H.size :: st.map (k_cv G.1) := by
      show Value.ref (G.1 + k_off k i) :: _ = _
      rw [hk, ← hsz]
    rw [hst] at k0
    show W p l e R s m args below meth c H1 locs (cells + (N - B.1) + 1) (slots + (S - B.2.1) + n) Qf (F0 m (pc + 2) ls (Value.ref H.size :: st.map (k_cv G.1)))
    rw [show cells + (N - B.1) + 1 = cells + (N + 1 - B.1) by omega, show slots + (S - B.2.1) + n = slots + (S + n - B.2.1) by omega]
    exact k0
  · rw [← hsz]
    rw [k_ce_ar hoc har]
    show H1[H.size]? = some (vp_cell _ _)
    rw [e1, vp_cell_i]
    congr 2
end Making3
