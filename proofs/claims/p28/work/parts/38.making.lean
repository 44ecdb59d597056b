/-! ===== the making machine ===== -/
def k_NW (s : State) : Prop := va_Nw (.methodLinkNest "SonMarks" 31 ⟨"SonMarks$Pad", "<init>", "()V"⟩ "SonMarks") s ∧ va_Nw (.methodLinkNest "SonMarks" 38 ⟨"SonMarks$LineSearch", "<init>", "()V"⟩ "SonMarks") s ∧ va_Nw (.methodLinkNest "SonMarks" 9 ⟨"SonMarks$Roll", "<init>", "()V"⟩ "SonMarks") s ∧ va_Nw (.methodLinkNest "SonMarks$History" 21 ⟨"SonMarks$Roll", "<init>", "()V"⟩ "SonMarks") s ∧ va_Nw (.methodLinkNest "SonMarks$LineSearch" 11 ⟨"SonMarks$ShieldSet", "<init>", "()V"⟩ "SonMarks") s ∧ va_AO RX6 s
/-- so many cells are made, what is still in the making, so many elements used -/
abbrev KPM : Type := Nat × List ((Nat × Nat) × (KG → va_E)) × Nat
def k_pe (G : KG) (P : KPM) (k i : Nat) : va_E := match P.2.1.lookup (k, i) with
  | some f => f G
  | none => k_ce G k i (M0.1 k i) (M0.2.1 i) M0.2.2
def k_HP (G : KG) (P : KPM) (H : Heap) : Prop := H.size = G.1 + P.1 ∧ ∀ k i, i < k_cnt k → k_off k i < P.1 → va_at G.2.1 vwCl (G.1 + k_off k i, k_pe G P k i) H
def k_FP (G : KG) (H0 H : Heap) : Prop := ∀ q : Nat, q < G.1 → H[q]? = H0[q]?
theorem k_FP.rf {G : KG} {H : Heap} : k_FP G H H := fun _ _ => rfl
theorem k_FP.tr {G : KG} {H0 H H1 : Heap} (h : k_FP G H0 H) (h1 : k_FP G H H1) : k_FP G H0 H1 := fun q hq => (h1 q hq).trans (h q hq)
def k_CP (I : KI) (G : KG) (p : Program) (R : Room) (s : State) (m : MethodId) (args : Array Value) (meth : Method) (c : Code) : Prop :=
  p.tables.exec = Jvm.exec ∧ c.code = I.2.1 ∧ c.maxLocals = I.2.2.1 ∧ meth.sig.returnType = I.2.2.2.1 ∧ s.vm.findClass I.1.cls = some m.cls ∧ meth.locks = false ∧ (∀ w ∈ k_tb, w.before args s = true) ∧ va_K G.2.1 vwCl (k_tys G) s ∧ R.frames = I.2.2.2.2.frames ∧ R.locals = I.2.2.2.2.locals ∧ (I.1.name = "<init>" → meth.name = "<init>") ∧ k_NW s
/-- B: the cells and elements at the method's entry; the room: up to these -/
def GoP (I : KI) (B : Nat × Nat × Nat × Nat) (Z : KZ) (M : KPM) (loc : List (Option KV)) (st : List KV) (pc : Nat) : Prop :=
  ∀ (G : KG) (Hb : Heap) (p : Program) (l : Launch) (e : Env) (R : Room) (s : State) (m : MethodId) (args : Array Value) (below : List Frame) (meth : Method) (c : Code) (cells slots : Nat) (Qf : State → Prop),
    k_CP I G p R s m args meth c ∧ cells + (B.2.2.1 - B.1) ≤ R.cells ∧ slots + (B.2.2.2 - B.2.1) ≤ R.slots → Z G Hb p l e R s m args below meth c cells slots Qf →
    ∀ (H : Heap) (ls : Array Slot) (locs : List Loc), k_HP G M H → k_FP G Hb H → (∀ q ∈ locs, k_rng G q.base) → lv_has ls I.2.2.1 (k_lc G.1 0 loc) →
      W p l e R s m args below meth c H locs (cells + (M.1 - B.1)) (slots + (M.2.2 - B.2.1)) Qf (F0 m pc ls (st.map (k_cv G.1)))
theorem gp_iconst {I : KI} {Z : KZ} {B : Nat × Nat × Nat × Nat} {M : KPM} {loc : List (Option KV)} {st : List KV} {pc q : Nat} {n : Int} {v : Int32} (hd : decode I.2.1 pc = .ok (.iconst n, 1)) (hv : Int32.ofInt n = v) (hq : pc + 1 = q) (h : GoP I B Z M loc (vI v :: st) q) : GoP I B Z M loc (st) pc := by
  subst hq
  intro G Hb p l e R s m args below meth c cells slots Qf hC hZ H ls locs hW hF hL hl
  obtain ⟨⟨hx, hb, hml, hrt, hown, hlk, hts, hK, hRf, hRl, hnm, hNW⟩, hce, hsl⟩ := id hC
  exact lv_iconst hx hb hd hv (h G Hb p l e R s m args below meth c cells slots Qf hC hZ H ls locs hW hF hL hl)
theorem gp_bipush {I : KI} {Z : KZ} {B : Nat × Nat × Nat × Nat} {M : KPM} {loc : List (Option KV)} {st : List KV} {pc q : Nat} {n : Int} {v : Int32} (hd : decode I.2.1 pc = .ok (.bipush n, 2)) (hv : (Int8.ofInt n).toInt32 = v) (hq : pc + 2 = q) (h : GoP I B Z M loc (vI v :: st) q) : GoP I B Z M loc (st) pc := by
  subst hq
  intro G Hb p l e R s m args below meth c cells slots Qf hC hZ H ls locs hW hF hL hl
  obtain ⟨⟨hx, hb, hml, hrt, hown, hlk, hts, hK, hRf, hRl, hnm, hNW⟩, hce, hsl⟩ := id hC
  exact lv_bipush hx hb hd hv (h G Hb p l e R s m args below meth c cells slots Qf hC hZ H ls locs hW hF hL hl)
theorem gp_sipush {I : KI} {Z : KZ} {B : Nat × Nat × Nat × Nat} {M : KPM} {loc : List (Option KV)} {st : List KV} {pc q : Nat} {n : Int} {v : Int32} (hd : decode I.2.1 pc = .ok (.sipush n, 3)) (hv : (Int16.ofInt n).toInt32 = v) (hq : pc + 3 = q) (h : GoP I B Z M loc (vI v :: st) q) : GoP I B Z M loc (st) pc := by
  subst hq
  intro G Hb p l e R s m args below meth c cells slots Qf hC hZ H ls locs hW hF hL hl
  obtain ⟨⟨hx, hb, hml, hrt, hown, hlk, hts, hK, hRf, hRl, hnm, hNW⟩, hce, hsl⟩ := id hC
  exact lv_sipush hx hb hd hv (h G Hb p l e R s m args below meth c cells slots Qf hC hZ H ls locs hW hF hL hl)
theorem gp_dup {I : KI} {Z : KZ} {B : Nat × Nat × Nat × Nat} {M : KPM} {loc : List (Option KV)} {st : List KV} {pc q : Nat} {a : KV} (hd : decode I.2.1 pc = .ok (.dup, 1)) (ha : k_cat a = 1) (hq : pc + 1 = q) (h : GoP I B Z M loc (a :: a :: st) q) : GoP I B Z M loc (a :: st) pc := by
  subst hq
  intro G Hb p l e R s m args below meth c cells slots Qf hC hZ H ls locs hW hF hL hl
  obtain ⟨⟨hx, hb, hml, hrt, hown, hlk, hts, hK, hRf, hRl, hnm, hNW⟩, hce, hsl⟩ := id hC
  exact lv_dup hx hb hd (by rw [k_cat_eq]; exact ha) (h G Hb p l e R s m args below meth c cells slots Qf hC hZ H ls locs hW hF hL hl)
theorem gp_goto {I : KI} {Z : KZ} {B : Nat × Nat × Nat × Nat} {M : KPM} {loc : List (Option KV)} {st : List KV} {pc q : Nat} {off : Int} (hd : decode I.2.1 pc = .ok (.goto off, 3)) (ht : (pc : Int) + off = (q : Int)) (h : GoP I B Z M loc st q) : GoP I B Z M loc st pc := by
  intro G Hb p l e R s m args below meth c cells slots Qf hC hZ H ls locs hW hF hL hl
  obtain ⟨⟨hx, hb, hml, hrt, hown, hlk, hts, hK, hRf, hRl, hnm, hNW⟩, hce, hsl⟩ := id hC
  exact lv_goto hx hb hd ht (h G Hb p l e R s m args below meth c cells slots Qf hC hZ H ls locs hW hF hL hl)
theorem gp_icmp_ge {I : KI} {Z : KZ} {B : Nat × Nat × Nat × Nat} {M : KPM} {loc : List (Option KV)} {st : List KV} {pc q t : Nat} {x y : Int32} {off : Int} (hd : decode I.2.1 pc = .ok (.if_icmp .ge off, 3)) (ht : (pc : Int) + off = (t : Int)) (hq : pc + 3 = q) (ht1 : y ≤ x → GoP I B Z M loc st t) (hf1 : ¬ (y ≤ x) → GoP I B Z M loc st q) : GoP I B Z M loc (vI y :: vI x :: st) pc := by
  subst hq
  intro G Hb p l e R s m args below meth c cells slots Qf hC hZ H ls locs hW hF hL hl
  obtain ⟨⟨hx, hb, hml, hrt, hown, hlk, hts, hK, hRf, hRl, hnm, hNW⟩, hce, hsl⟩ := id hC
  exact lv_icmp_ge hx hb hd ht (fun z => ht1 z G Hb p l e R s m args below meth c cells slots Qf hC hZ H ls locs hW hF hL hl) (fun z => hf1 z G Hb p l e R s m args below meth c cells slots Qf hC hZ H ls locs hW hF hL hl)
theorem gp_iload_n {I : KI} {Z : KZ} {B : Nat × Nat × Nat × Nat} {M : KPM} {loc : List (Option KV)} {st : List KV} {pc q : Nat} {k : Fin 4} {i : Nat} {x : Int32} (hd : decode I.2.1 pc = .ok (.iload_n k, 1)) (hi : (k : Nat) = i) (hv : loc[i]? = some (some (vI x))) (hq : pc + 1 = q) (h : GoP I B Z M loc (vI x :: st) q) : GoP I B Z M loc st pc := by
  subst hq
  intro G Hb p l e R s m args below meth c cells slots Qf hC hZ H ls locs hW hF hL hl
  obtain ⟨⟨hx, hb, hml, hrt, hown, hlk, hts, hK, hRf, hRl, hnm, hNW⟩, hce, hsl⟩ := id hC
  exact lv_iload_n hx hb hd hi (k_lc_at hl hv) (h G Hb p l e R s m args below meth c cells slots Qf hC hZ H ls locs hW hF hL hl)
theorem gp_aload_n {I : KI} {Z : KZ} {B : Nat × Nat × Nat × Nat} {M : KPM} {loc : List (Option KV)} {st : List KV} {pc q : Nat} {k : Fin 4} {i a b : Nat} (hd : decode I.2.1 pc = .ok (.aload_n k, 1)) (hi : (k : Nat) = i) (hv : loc[i]? = some (some (vR a b))) (hq : pc + 1 = q) (h : GoP I B Z M loc (vR a b :: st) q) : GoP I B Z M loc st pc := by
  subst hq
  intro G Hb p l e R s m args below meth c cells slots Qf hC hZ H ls locs hW hF hL hl
  obtain ⟨⟨hx, hb, hml, hrt, hown, hlk, hts, hK, hRf, hRl, hnm, hNW⟩, hce, hsl⟩ := id hC
  exact lv_aload_n hx hb hd hi (k_lc_at hl hv) (h G Hb p l e R s m args below meth c cells slots Qf hC hZ H ls locs hW hF hL hl)
theorem gp_istore_n {I : KI} {Z : KZ} {B : Nat × Nat × Nat × Nat} {M : KPM} {loc : List (Option KV)} {st : List KV} {pc q : Nat} {k : Fin 4} {i : Nat} {x : Int32} (hd : decode I.2.1 pc = .ok (.istore_n k, 1)) (hi : (k : Nat) = i) (hn : i < I.2.2.1) (hc : k_nd loc i = true) (hq : pc + 1 = q) (h : GoP I B Z M (loc.set i (some (vI x))) st q) : GoP I B Z M loc (vI x :: st) pc := by
  subst hq
  intro G Hb p l e R s m args below meth c cells slots Qf hC hZ H ls locs hW hF hL hl
  obtain ⟨⟨hx, hb, hml, hrt, hown, hlk, hts, hK, hRf, hRl, hnm, hNW⟩, hce, hsl⟩ := id hC
  exact lv_istore_n hx hb hd hi hl hn rfl (fun ls' hl' => h G Hb p l e R s m args below meth c cells slots Qf hC hZ H ls' locs hW hF hL (k_lc_set hc hl'))
theorem gp_astore_n {I : KI} {Z : KZ} {B : Nat × Nat × Nat × Nat} {M : KPM} {loc : List (Option KV)} {st : List KV} {pc q : Nat} {k : Fin 4} {i a b : Nat} (hd : decode I.2.1 pc = .ok (.astore_n k, 1)) (hi : (k : Nat) = i) (hn : i < I.2.2.1) (hc : k_nd loc i = true) (hq : pc + 1 = q) (h : GoP I B Z M (loc.set i (some (vR a b))) st q) : GoP I B Z M loc (vR a b :: st) pc := by
  subst hq
  intro G Hb p l e R s m args below meth c cells slots Qf hC hZ H ls locs hW hF hL hl
  obtain ⟨⟨hx, hb, hml, hrt, hown, hlk, hts, hK, hRf, hRl, hnm, hNW⟩, hce, hsl⟩ := id hC
  exact lv_astore_n hx hb hd hi hl hn rfl (fun ls' hl' => h G Hb p l e R s m args below meth c cells slots Qf hC hZ H ls' locs hW hF hL (k_lc_set hc hl'))
theorem gp_iinc {I : KI} {Z : KZ} {B : Nat × Nat × Nat × Nat} {M : KPM} {loc : List (Option KV)} {st : List KV} {pc q : Nat} {i : Nat} {n : Int} {x v : Int32} (hd : decode I.2.1 pc = .ok (.iinc i n, 3)) (hv : Int32.ofInt n = v) (hx0 : loc[i]? = some (some (vI x))) (hn : i < I.2.2.1) (hc : k_nd loc i = true) (hq : pc + 3 = q) (h : GoP I B Z M (loc.set i (some (vI (x + v)))) st q) : GoP I B Z M loc st pc := by
  subst hq; subst hv
  intro G Hb p l e R s m args below meth c cells slots Qf hC hZ H ls locs hW hF hL hl
  obtain ⟨⟨hx, hb, hml, hrt, hown, hlk, hts, hK, hRf, hRl, hnm, hNW⟩, hce, hsl⟩ := id hC
  obtain ⟨k, hk⟩ := List.mem_iff_getElem?.mp ((k_lc_mem loc 0 (i, .int x)).mpr ⟨i, vI x, hx0, by simp [k_cv]⟩)
  exact lv_iinc hx hb hd hl hk rfl hn rfl (fun ls' hl' => h G Hb p l e R s m args below meth c cells slots Qf hC hZ H ls' locs hW hF hL (k_lc_set hc hl'))
section Making
variable {I : KI} {B : Nat × Nat × Nat × Nat} {Z : KZ} {loc : List (Option KV)} {st : List KV} {pc q : Nat}
theorem k_off_cnt {G : KG} {N k i : Nat} {F : List ((Nat × Nat) × (KG → va_E))} {S : Nat} {f : KG → va_E} {H H1 : Heap} (hW : k_HP G (N, F, S) H) (hk : k_off k i = N) (hi : i < k_cnt k) (hz : H1.size = H.size + 1) (oq : ∀ q, q < H.size → H1[q]? = H[q]?) {S1 : Nat} (he : va_at G.2.1 vwCl (G.1 + N, f G) H1) (hkept : ∀ (e : va_E) (a : Nat), a < H.size → va_at G.2.1 vwCl (a, e) H → va_at G.2.1 vwCl (a, e) H1) : k_HP G (N + 1, ((k, i), f) :: F, S1) H1 := by
  obtain ⟨h1, h2⟩ := hW
  refine ⟨by rw [hz, h1]; omega, fun k' i' hi' hl => ?_⟩
  by_cases e : k' = k ∧ i' = i
  · obtain ⟨rfl, rfl⟩ := e
    rw [hk]
    unfold k_pe
    simp only [List.lookup, beq_self_eq_true]
    exact he
  · have hne : ¬ k_off k' i' = N := fun z => e (k_off_inj hi' hi (z.trans hk.symm))
    have hl2 : k_off k' i' < N := by
      have : k_off k' i' < N + 1 := hl
      omega
    have h3 := h2 k' i' hi' hl2
    have h4 : k_pe G (N + 1, ((k, i), f) :: F, S1) k' i' = k_pe G (N, F, S) k' i' := by
      unfold k_pe
      have : ((k', i') == (k, i)) = false := by
        rw [beq_eq_false_iff_ne]
        intro z
        cases z
        exact e ⟨rfl, rfl⟩
      simp only [List.lookup, this]
    rw [h4]
    exact hkept _ _ (by rw [h1]; show _ < G.1 + N; omega) h3
theorem va_at_keep {D : va_G} {a : Nat} {e : va_E} {H H1 : Heap} (o : H1[a]? = H[a]?) (h : va_at D vwCl (a, e) H) : va_at D vwCl (a, e) H1 := by
  have h1 : va_P D vwCl [(a, e)] H := k_P1 h
  exact (h1.kept (H1 := H1) (fun k q hq => by
    cases k with
    | zero =>
      have : (a, e) = q := by simpa using hq
      rw [← this]; exact o
    | succ k => simp at hq)) 0 _ rfl
end Making
