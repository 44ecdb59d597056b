/-! ===== rows for longs, constants, the script in a method of its own ===== -/
theorem go_ladd {I : KI} {Z : KZ} {M : KM} {loc : List (Option KV)} {st : List KV} {pc q : Nat} {x y : Int64} (hd : decode I.2.1 pc = .ok (.ladd, 1))  (hq : pc + 1 = q) (h : Go I Z M loc (vJ (x + y) :: st) q) : Go I Z M loc (vJ y :: vJ x :: st) pc := by
  subst hq
  intro G Hb p l e R s m args below meth c cells slots Qf hC hZ H ls locs hW hF hL hl
  obtain ⟨hx, hb, hml, hrt, hown, hlk, hts, hK, hRf, hRl, hce, hsl⟩ := id hC
  exact lv_ladd hx hb hd (h G Hb p l e R s m args below meth c cells slots Qf hC hZ H ls locs hW hF hL hl)
theorem go_lmul {I : KI} {Z : KZ} {M : KM} {loc : List (Option KV)} {st : List KV} {pc q : Nat} {x y : Int64} (hd : decode I.2.1 pc = .ok (.lmul, 1))  (hq : pc + 1 = q) (h : Go I Z M loc (vJ (x * y) :: st) q) : Go I Z M loc (vJ y :: vJ x :: st) pc := by
  subst hq
  intro G Hb p l e R s m args below meth c cells slots Qf hC hZ H ls locs hW hF hL hl
  obtain ⟨hx, hb, hml, hrt, hown, hlk, hts, hK, hRf, hRl, hce, hsl⟩ := id hC
  exact lv_lmul hx hb hd (h G Hb p l e R s m args below meth c cells slots Qf hC hZ H ls locs hW hF hL hl)
theorem go_i2l {I : KI} {Z : KZ} {M : KM} {loc : List (Option KV)} {st : List KV} {pc q : Nat} {x : Int32} (hd : decode I.2.1 pc = .ok (.i2l, 1))  (hq : pc + 1 = q) (h : Go I Z M loc (vJ x.toInt64 :: st) q) : Go I Z M loc (vI x :: st) pc := by
  subst hq
  intro G Hb p l e R s m args below meth c cells slots Qf hC hZ H ls locs hW hF hL hl
  obtain ⟨hx, hb, hml, hrt, hown, hlk, hts, hK, hRf, hRl, hce, hsl⟩ := id hC
  exact lv_i2l hx hb hd rfl (h G Hb p l e R s m args below meth c cells slots Qf hC hZ H ls locs hW hF hL hl)
theorem go_ldc {I : KI} {Z : KZ} {M : KM} {loc : List (Option KV)} {st : List KV} {pc q : Nat} {idx : Nat} {v : Int32} (hd : decode I.2.1 pc = .ok (.ldc idx, 2)) (hc : Cond.constant I.1.cls idx v ∈ k_tb) (hq : pc + 2 = q) (h : Go I Z M loc (vI v :: st) q) : Go I Z M loc (st) pc := by
  subst hq
  intro G Hb p l e R s m args below meth c cells slots Qf hC hZ H ls locs hW hF hL hl
  obtain ⟨hx, hb, hml, hrt, hown, hlk, hts, hK, hRf, hRl, hce, hsl⟩ := id hC
  exact lv_ldc hx hb hown (hts _ hc) hd (h G Hb p l e R s m args below meth c cells slots Qf hC hZ H ls locs hW hF hL hl)
theorem go_ldc2 {I : KI} {Z : KZ} {M : KM} {loc : List (Option KV)} {st : List KV} {pc q : Nat} {idx : Nat} {v : Int64} (hd : decode I.2.1 pc = .ok (.ldc2_w idx, 3)) (hc : Cond.constantLong I.1.cls idx v ∈ k_tb) (hq : pc + 3 = q) (h : Go I Z M loc (vJ v :: st) q) : Go I Z M loc (st) pc := by
  subst hq
  intro G Hb p l e R s m args below meth c cells slots Qf hC hZ H ls locs hW hF hL hl
  obtain ⟨hx, hb, hml, hrt, hown, hlk, hts, hK, hRf, hRl, hce, hsl⟩ := id hC
  exact lv_ldc2 hx hb hown (hts _ hc) hd (h G Hb p l e R s m args below meth c cells slots Qf hC hZ H ls locs hW hF hL hl)
theorem go_ldc2d {I : KI} {Z : KZ} {M : KM} {loc : List (Option KV)} {st : List KV} {pc q : Nat} {idx : Nat} {v : UInt64} (hd : decode I.2.1 pc = .ok (.ldc2_w idx, 3)) (hc : Cond.constantDouble I.1.cls idx v ∈ k_tb) (hq : pc + 3 = q) (h : Go I Z M loc (vD v :: st) q) : Go I Z M loc (st) pc := by
  subst hq
  intro G Hb p l e R s m args below meth c cells slots Qf hC hZ H ls locs hW hF hL hl
  obtain ⟨hx, hb, hml, hrt, hown, hlk, hts, hK, hRf, hRl, hce, hsl⟩ := id hC
  exact lv_ldc2d hx hb hown (hts _ hc) hd (h G Hb p l e R s m args below meth c cells slots Qf hC hZ H ls locs hW hF hL hl)
theorem go_lload_n {I : KI} {Z : KZ} {M : KM} {loc : List (Option KV)} {st : List KV} {pc q : Nat} {k : Fin 4} {i : Nat} {x : Int64} (hd : decode I.2.1 pc = .ok (.lload_n k, 1)) (hi : (k : Nat) = i) (hv : loc[i]? = some (some (vJ x))) (hq : pc + 1 = q) (h : Go I Z M loc (vJ x :: st) q) : Go I Z M loc st pc := by
  subst hq
  intro G Hb p l e R s m args below meth c cells slots Qf hC hZ H ls locs hW hF hL hl
  obtain ⟨hx, hb, hml, hrt, hown, hlk, hts, hK, hRf, hRl, hce, hsl⟩ := id hC
  exact lv_lload_n hx hb hd hi (k_lc_at hl hv) (h G Hb p l e R s m args below meth c cells slots Qf hC hZ H ls locs hW hF hL hl)
theorem go_lload {I : KI} {Z : KZ} {M : KM} {loc : List (Option KV)} {st : List KV} {pc q : Nat} {i : Nat} {x : Int64} (hd : decode I.2.1 pc = .ok (.lload i, 2)) (hv : loc[i]? = some (some (vJ x))) (hq : pc + 2 = q) (h : Go I Z M loc (vJ x :: st) q) : Go I Z M loc st pc := by
  subst hq
  intro G Hb p l e R s m args below meth c cells slots Qf hC hZ H ls locs hW hF hL hl
  obtain ⟨hx, hb, hml, hrt, hown, hlk, hts, hK, hRf, hRl, hce, hsl⟩ := id hC
  exact lv_lload hx hb hd (k_lc_at hl hv) (h G Hb p l e R s m args below meth c cells slots Qf hC hZ H ls locs hW hF hL hl)
theorem k_lc_set2 {b nL i : Nat} {ls : Array Slot} {loc : List (Option KV)} {v : KV} (hd : k_nd loc i = true) (hl : lv_has ls nL ((i, k_cv b v) :: (k_lc b 0 loc).filter (fun q => !(q.1 == i) && (!(q.1 == i + 1) && !(q.1 + 1 == i && q.2.category == 2))))) : lv_has ls nL (k_lc b 0 ((loc.set i (some v)).set (i + 1) none)) := by
  refine ⟨hl.1, hl.2.1, fun q hq => ?_⟩
  obtain ⟨j, u, h1, h2⟩ := (k_lc_mem _ 0 q).mp hq
  apply hl.2.2 q
  rw [h2]
  by_cases hj2 : j = i + 1
  · subst hj2
    have hlt := (List.getElem?_eq_some_iff.mp h1).1
    rw [List.getElem?_set_self (by simpa using hlt)] at h1
    cases h1
  · rw [List.getElem?_set_ne (fun e => hj2 e.symm)] at h1
    by_cases hji : j = i
    · subst hji
      have hlt : j < loc.length := by
        have := (List.getElem?_eq_some_iff.mp h1).1
        simpa using this
      rw [List.getElem?_set_self hlt] at h1
      have : v = u := by simpa using h1
      subst this
      simp
    · rw [List.getElem?_set_ne (fun e => hji e.symm)] at h1
      refine List.mem_cons_of_mem _ (List.mem_filter.mpr ⟨(k_lc_mem _ 0 _).mpr ⟨j, u, h1, rfl⟩, ?_⟩)
      simp only [Nat.zero_add, Bool.and_eq_true, Bool.not_eq_true']
      refine ⟨by simpa using hji, by simpa using hj2, ?_⟩
      by_cases h3 : j + 1 = i
      · subst h3
        have h4 : k_cat u = 1 := by
          simp only [k_nd, h1] at hd
          simpa using hd
        rw [k_cat_eq, h4]
        simp
      · simp [h3]
theorem go_lstore_n {I : KI} {Z : KZ} {M : KM} {loc : List (Option KV)} {st : List KV} {pc q : Nat} {k : Fin 4} {i : Nat} {x : Int64} (hd : decode I.2.1 pc = .ok (.lstore_n k, 1)) (hi : (k : Nat) = i) (hn : i + 1 < I.2.2.1) (hc : k_nd loc i = true) (hq : pc + 1 = q) (h : Go I Z M ((loc.set i (some (vJ x))).set (i + 1) none) st q) : Go I Z M loc (vJ x :: st) pc := by
  subst hq
  intro G Hb p l e R s m args below meth c cells slots Qf hC hZ H ls locs hW hF hL hl
  obtain ⟨hx, hb, hml, hrt, hown, hlk, hts, hK, hRf, hRl, hce, hsl⟩ := id hC
  exact lv_lstore_n hx hb hd hi hl hn rfl (fun ls' hl' => h G Hb p l e R s m args below meth c cells slots Qf hC hZ H ls' locs hW hF hL (k_lc_set2 hc hl'))
theorem go_lstore {I : KI} {Z : KZ} {M : KM} {loc : List (Option KV)} {st : List KV} {pc q : Nat} {i : Nat} {x : Int64} (hd : decode I.2.1 pc = .ok (.lstore i, 2)) (hn : i + 1 < I.2.2.1) (hc : k_nd loc i = true) (hq : pc + 2 = q) (h : Go I Z M ((loc.set i (some (vJ x))).set (i + 1) none) st q) : Go I Z M loc (vJ x :: st) pc := by
  subst hq
  intro G Hb p l e R s m args below meth c cells slots Qf hC hZ H ls locs hW hF hL hl
  obtain ⟨hx, hb, hml, hrt, hown, hlk, hts, hK, hRf, hRl, hce, hsl⟩ := id hC
  exact lv_lstore hx hb hd hl hn rfl (fun ls' hl' => h G Hb p l e R s m args below meth c cells slots Qf hC hZ H ls' locs hW hF hL (k_lc_set2 hc hl'))
theorem go_lrett {I : KI} {Q : Option KV → KM → Prop} {M : KM} {loc : List (Option KV)} {pc : Nat} {x : Int64} (hd : decode I.2.1 pc = .ok (.lreturn, 1)) (hr : I.2.2.2.1 = some .long) (h : Q (some (vJ x)) M) : Go I (Zm Q) M loc ([vJ x]) pc := by
  intro G Hb p l e R s m args below meth c cells slots Qf hC hZ H ls locs hW hF hL hl
  obtain ⟨hx, hb, hml, hrt, hown, hlk, hts, hK, hRf, hRl, hce, hsl⟩ := id hC
  obtain ⟨rfl, rfl, rfl, rfl⟩ := hZ
  exact W.lret hx hb (hrt.trans hr) (fun t ht _ => ⟨⟨_, M, h, rfl, by rw [ht]; exact hW⟩, by rw [ht]; exact hF⟩) hL hd (hlocks := hlk)
theorem go_rl {I : KI} {M M' : KM} {loc : List (Option KV)} {pc : Nat} {x y : Int64} (hd : decode I.2.1 pc = .ok (.lreturn, 1)) (hr : I.2.2.2.1 = some .long) (h : x = y) (hM : M = M') : Go I (Zm (fun a b => a = some (vJ y) ∧ b = M')) M loc [vJ x] pc :=
  go_lrett hd hr ⟨by rw [h], hM⟩
theorem go_aloadR {I : KI} {Z : KZ} {M : KM} {loc : List (Option KV)} {st : List KV} {pc q : Nat} {k : Fin 4} {i b : Nat} (hd : decode I.2.1 pc = .ok (.aload_n k, 1)) (hi : (k : Nat) = i) (hv : loc[i]? = some (some (Sum.inl (Value.ref b)))) (hq : pc + 1 = q) (h : Go I Z M loc (Sum.inl (Value.ref b) :: st) q) : Go I Z M loc st pc := by
  subst hq
  intro G Hb p l e R s m args below meth c cells slots Qf hC hZ H ls locs hW hF hL hl
  obtain ⟨hx, hb, hml, hrt, hown, hlk, hts, hK, hRf, hRl, hce, hsl⟩ := id hC
  exact lv_aload_n hx hb hd hi (k_lc_at hl hv) (h G Hb p l e R s m args below meth c cells slots Qf hC hZ H ls locs hW hF hL hl)
/-- a contract of a method that reads the script -/
def k_PX (b L : Nat) (xs : Nat → Int32) (G : KG) (as : List KV) (M : KM) : Array Value → State → Prop := fun v U => (v = (as.map (k_cv G.1)).toArray ∧ k_HW G M U.heap ∧ va_K G.2.1 vwCl (k_tys G) U) ∧ va_X b L xs U U.heap ∧ b < U.heap.size ∧ b < G.1
theorem k_blindX {b L : Nat} {xs : Nat → Int32} {G : KG} {as : List KV} {M : KM} : FrameBlind (k_PX b L xs G as M) := fun a U g mk h => ⟨⟨h.1.1, h.1.2.1, va_K.moved (u := U) (U := U.calling g mk a) (Vm.Alike.refl U.vm) h.1.2.2⟩, va_X.moved (u := U) (U := U.calling g mk a) (Vm.Alike.refl U.vm) h.2.1, h.2.2⟩
def OkX (b L : Nat) (xs : Nat → Int32) (I : KI) (as : List KV) (M : KM) (Q : Option KV → KM → Prop) : Prop := ∀ (l : Launch) (G : KG), Met l I.1 (k_ws I) I.2.2.2.2 (k_PX b L xs G as M) (k_Q G Q) 0 0 (k_rng G)
def ZmX (b L : Nat) (xs : Nat → Int32) (Q : Option KV → KM → Prop) : KZ := fun G Hb p l e R s m args below meth c cells slots Qf => Zm Q G Hb p l e R s m args below meth c cells slots Qf ∧ va_X b L xs s Hb ∧ b < Hb.size ∧ b < G.1
theorem ok_ofX {b L : Nat} {xs : Nat → Int32} {I : KI} {as : List KV} {M : KM} {Q : Option KV → KM → Prop} (hn : plainName I.1.cls = true) (hc : as.all (fun v => k_cat v == 1) = true) (hlen : as.length ≤ I.2.2.1)
    (hrm : I.2.2.2.2.cells = 0 ∧ I.2.2.2.2.slots = 0) (h : Go I (ZmX b L xs Q) M (as.map some ++ List.replicate (I.2.2.1 - as.length) none) [] 0) : OkX b L xs I as M Q := by
  intro l G
  refine Met.ofW (cc := I.2.1) (maxL := I.2.2.1) (ret := I.2.2.2.1) (ws' := k_tb) hn rfl ?_
  intro p e s m args below meth c s₁ B hml hv
  obtain ⟨⟨rfl, hW, hK⟩, hX, hbs, hbG⟩ := hv
  have hcat : ∀ v ∈ as, k_cat v = 1 := fun v hv => by simpa using List.all_eq_true.mp hc v hv
  have hts := atoms_spec (ws := k_ws I) B.pre
  have hl := lv_entry (as.map (k_cv G.1)) (n := I.2.2.1) (by rw [k_sl_len as hcat]; exact hlen)
  rw [lg_entry_eq]
  rw [k_lc_args as 0 hcat, ← k_lc_rep (as.map some) (I.2.2.1 - as.length) 0] at hl
  exact h G s.heap p l e _ s m _ below meth c 0 0 _ ⟨B.exec, B.bytes, hml, B.returns, findClass_of_methodNamed B.named, B.notSynchronized, fun w hw => hts w (List.mem_cons_of_mem _ hw), hK, rfl, rfl, Nat.zero_le _, Nat.zero_le _⟩ ⟨⟨rfl, rfl, rfl, rfl⟩, hX, hbs, hbG⟩ s.heap _ [] hW k_FR.rf (fun q hq => by cases hq) hl
theorem k_rS {G : KG} {Hb H : Heap} {locs : List Loc} (hF : k_FR G Hb H) (hL : ∀ q ∈ locs, k_rng G q.base) : va_S (k_rng G) Hb H locs := ⟨Nat.le_of_eq hF.1.symm, fun q _ hq => hF.2 q hq, hL⟩
section ScriptRows
variable {b L : Nat} {xs : Nat → Int32} {I : KI} {Q : Option KV → KM → Prop} {M : KM} {loc : List (Option KV)} {st : List KV} {pc q : Nat}
theorem go_zx (h : Go I (Zm Q) M loc st pc) : Go I (ZmX b L xs Q) M loc st pc := by
  intro G Hb p l e R s m args below meth c cells slots Qf hC hZ
  exact h G Hb p l e R s m args below meth c cells slots Qf hC hZ.1
theorem go_xlen (hd : decode I.2.1 pc = .ok (.arraylength, 1)) (hq : pc + 1 = q) (h : Go I (ZmX b L xs Q) M loc (vI (nI L) :: st) q) : Go I (ZmX b L xs Q) M loc (Sum.inl (Value.ref b) :: st) pc := by
  subst hq
  intro G Hb p l e R s m args below meth c cells slots Qf hC hZ H ls locs hW hF hL hl
  obtain ⟨hx, hb, hml, hrt, hown, hlk, hts, hK, hRf, hRl, hce, hsl⟩ := id hC
  obtain ⟨-, hX, hbs, hbG⟩ := id hZ
  exact va_slen (A := k_rng G) hx hb hX hbs (fun z => by have := z.1; omega) (k_rS hF hL) hd (h G Hb p l e R s m args below meth c cells slots Qf hC hZ H ls locs hW hF hL hl)
theorem go_xld (j : Nat) {x : Int32} (hd : decode I.2.1 pc = .ok (.iaload, 1)) (hx : x = nI j) (hj : j < L) (hL2 : L ≤ 2048) (hq : pc + 1 = q) (h : Go I (ZmX b L xs Q) M loc (vI (xs j) :: st) q) : Go I (ZmX b L xs Q) M loc (vI x :: Sum.inl (Value.ref b) :: st) pc := by
  subst hq; subst hx
  intro G Hb p l e R s m args below meth c cells slots Qf hC hZ H ls locs hW hF hL hl
  obtain ⟨hx, hb, hml, hrt, hown, hlk, hts, hK, hRf, hRl, hce, hsl⟩ := id hC
  obtain ⟨-, hX, hbs, hbG⟩ := id hZ
  have hcl : (nI j).toNatClampNeg = j := nI_clamp (by omega)
  refine va_sld (A := k_rng G) hx hb hX hbs (fun z => by have := z.1; omega) (k_rS hF hL) (vp_in_nI hj (by omega)) hd ?_
  rw [hcl]
  exact h G Hb p l e R s m args below meth c cells slots Qf hC hZ H ls locs hW hF hL hl
end ScriptRows
/-- calling such a method, where the caller's start has the script -/
theorem go_callX {b L : Nat} {xs : Nat → Int32} {I cal : KI} {Z : KZ} {M : KM} {loc : List (Option KV)} {rest : List KV} {pc q idx n : Nat} (as : List KV) {Q1 : Option KV → KM → Prop} (hZX : ∀ G Hb p l e R s m args below meth c cells slots Qf, Z G Hb p l e R s m args below meth c cells slots Qf → va_X b L xs s Hb ∧ b < Hb.size ∧ b < G.1) (hd : decode I.2.1 pc = .ok (.invokestatic idx, 3)) (hlink : Cond.methodLink I.1.cls idx cal.1 ∈ k_tb) (hc : KCS cal n) (hR : KR I cal) (hn : as.length = n) (hr : (rest.map k_cat).sum ≤ 8) (hok : OkX b L xs cal as M Q1) (hq : pc + 3 = q) (kk : ∀ r M1, Q1 r M1 → Go I Z M1 loc (r.toList ++ rest) q) : Go I Z M loc (as.reverse ++ rest) pc := by
  subst hq
  intro G Hb p l e R s m args below meth c cells slots Qf hC hZ H ls locs hW hF hL hl
  obtain ⟨hx, hb, hml, hrt, hown, hlk, hts, hK, hRf, hRl, hce, hsl⟩ := id hC
  obtain ⟨hX, hbs, hbG⟩ := hZX _ _ _ _ _ _ _ _ _ _ _ _ _ _ _ hZ
  obtain ⟨⟨hcode, hini, hdd, hrc, hrs⟩, hstat⟩ := hc
  have hG := k_goodIn hcode
  have hcw := callB_of (R := R) (s := s) (args := args) (own := I.1.cls) (index := idx) n hts hG rfl hrc hrs (hts _ hini) (hts _ hlink) hdd (by rw [hRf, hRl]; exact hR)
  have hXH : va_X b L xs s H := hX.kept (hF.2 b (fun z => by have := z.1; omega))
  have hrun := va_runS (p := p) (l := l) (e := e) (R := R) (below := below) (meth := meth) (H := H) (locs := locs) (cells := cells) (slots := slots) (As := as.map (k_cv G.1)) (rest := rest.map (k_cv G.1)) (g := F0 m pc ls ((as.reverse ++ rest).map (k_cv G.1))) ⟨hx, hb, hml, hown, hts⟩ (hok l G) ⟨hcw, hts _ hstat⟩
    ⟨k_blindX, fun U hU hw => ⟨⟨rfl, by rw [hU]; exact hW, va_K.moved hw.alike hK⟩, by rw [hU]; exact va_X.moved hw.alike hXH, by rw [hU, hF.1]; exact hbs, hbG⟩⟩ rfl (by rw [List.length_map]; exact hn) hl.1 (by simp) (lv_room (by rw [k_catsum]; exact hr)) hd ⟨hce, hsl⟩
  intro T hT X
  obtain ⟨v, st₀, t, T', L', h0, X', hLf, e1, e2, ⟨⟨r, M1, hQ, hv, hW1⟩, hF1⟩, st9⟩ := hrun T hT X
  have hv2 : v = r.map (k_cv G.1) := by injection hv
  subst hv2
  rw [h0] at hF1
  have hst : (r.map (k_cv G.1)).toList ++ rest.map (k_cv G.1) = (r.toList ++ rest).map (k_cv G.1) := by cases r <;> simp
  rw [hst] at st9
  obtain ⟨t2, a1, b1⟩ := kk r M1 hQ G Hb p l e R s m args below meth c cells slots Qf hC hZ t.heap ls (locs ++ L') hW1 (hF.tr hF1) (fun q hq => by
    rcases List.mem_append.mp hq with h | h
    · exact hL q h
    · exact hLf q h) hl T' e1 X'
  exact ⟨t2, st9 t2 a1, b1⟩
