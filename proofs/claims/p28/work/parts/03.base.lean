/-! ===== the abstract machine: a memory of numbers, references by kind and number, and the judgement Go over the kit's W ===== -/
/-- the tables' words that hold at every call, too -/
def k_tb : List Cond := lw_tbl.filter goodWord
abbrev KV : Type := Value ⊕ (Nat × Nat)
abbrev KM : Type := (Nat → Nat → Nat → Int32) × (Nat → Nat → Int64) × (Nat → Nat → Nat)
abbrev KG : Type := Nat × va_G × ClassId × ClassId × ClassId × ClassId
abbrev KI : Type := MethodName × ByteArray × Nat × Option FieldType × Room
abbrev vI (x : Int32) : KV := Sum.inl (Value.int x)
abbrev vJ (x : Int64) : KV := Sum.inl (Value.long x)
abbrev vD (x : UInt64) : KV := Sum.inl (Value.double x)
abbrev vN : KV := Sum.inl Value.null
abbrev vR (k i : Nat) : KV := Sum.inr (k, i)
/-- where the cell of a kind and number lies, behind the base -/
def k_off (k i : Nat) : Nat := match k with
  | 0 => 0
  | 1 => if i < 3 then 1 + 6 * i else 21 + 6 * (i - 3)
  | 2 => (if i < 3 then 1 + 6 * i else 21 + 6 * (i - 3)) + 1
  | 3 => (if i < 3 then 1 + 6 * i else 21 + 6 * (i - 3)) + 2
  | 4 => (if i < 3 then 1 + 6 * i else 21 + 6 * (i - 3)) + 3
  | 5 => (if i < 3 then 1 + 6 * i else 21 + 6 * (i - 3)) + 4
  | 6 => (if i < 3 then 1 + 6 * i else 21 + 6 * (i - 3)) + 5
  | 7 => 19
  | 8 => 20
  | 9 => 51
  | 10 => 52
  | 11 => 53
  | 12 => 54 + 2 * i
  | 13 => 55 + 2 * i
  | _ => 60
def k_cnt (k : Nat) : Nat := match k with
  | 0 => 1
  | 1 => 8
  | 2 => 8
  | 3 => 8
  | 4 => 8
  | 5 => 8
  | 6 => 8
  | 7 => 1
  | 8 => 1
  | 9 => 1
  | 10 => 1
  | 11 => 1
  | 12 => 3
  | 13 => 3
  | _ => 0
def k_inv (n : Nat) : Nat × Nat :=
  if n = 0 then (0, 0) else if n < 19 then ((n - 1) % 6 + 1, (n - 1) / 6) else if n = 19 then (7, 0) else if n = 20 then (8, 0)
  else if n < 51 then ((n - 21) % 6 + 1, (n - 21) / 6 + 3) else if n = 51 then (9, 0) else if n = 52 then (10, 0) else if n = 53 then (11, 0)
  else (12 + (n - 54) % 2, (n - 54) / 2)
theorem k_inv_ok : ∀ k, k < 14 → ∀ i, i < 8 → i < k_cnt k → k_inv (k_off k i) = (k, i) ∧ k_off k i < 60 := by decide +kernel
theorem k_cnt22 {k i : Nat} (h : i < k_cnt k) : k < 14 ∧ i < 8 := by
  unfold k_cnt at h
  split at h <;> omega
theorem k_off_lt {k i : Nat} (h : i < k_cnt k) : k_off k i < 60 := (k_inv_ok k (k_cnt22 h).1 i (k_cnt22 h).2 h).2
theorem k_off_inj {k i k' i' : Nat} (h : i < k_cnt k) (h' : i' < k_cnt k') (e : k_off k i = k_off k' i') : k = k' ∧ i = i' := by
  have h1 := (k_inv_ok k (k_cnt22 h).1 i (k_cnt22 h).2 h).1
  have h2 := (k_inv_ok k' (k_cnt22 h').1 i' (k_cnt22 h').2 h').1
  rw [e, h2] at h1
  exact ⟨(congrArg Prod.fst h1).symm, (congrArg Prod.snd h1).symm⟩
/-- the class of an object's kind; the length of an int array's kind -/
def k_oc (k : Nat) : Option Nat := match k with
  | 0 => some 5
  | 1 => some 3
  | 7 => some 0
  | 9 => some 2
  | 11 => some 1
  | 12 => some 4
  | _ => none
def k_ar (k : Nat) : Option Nat := match k with
  | 2 => some 20
  | 4 => some 20
  | 5 => some 20
  | 6 => some 20
  | 10 => some 60
  | _ => none
def k_fl (k i : Nat) (f : Nat → Int32) (r : Nat → Nat → Nat) : List KV := match k with
  | 0 => [vR 1 0, vR 1 1, vR 1 2, vR 7 0, vR 9 0, vR 11 0, vI (f 6), vI (f 7), vI (f 8), vI (f 9)]
  | 1 => [vR 2 i, vR 3 i, vR 4 i, vR 5 i, vR 6 i, vI (f 5), vI (f 6), vI (f 7)]
  | 7 => [vR 8 0, vI (f 1)]
  | 9 => [vR 10 0, vI (f 1)]
  | 11 => [vR 12 0, vR 12 (r 11 1), vR 12 (r 11 2)]
  | 12 => [vR 13 i]
  | _ => []
/-- which fields are numbers -/
def k_nf (k j : Nat) : Bool := match k with
  | 0 => decide (6 ≤ j) && decide (j ≤ 9)
  | 1 => decide (5 ≤ j) && decide (j ≤ 7)
  | 7 => j == 1
  | 9 => j == 1
  | _ => false
def k_cv (b : Nat) : KV → Value
  | .inl v => v
  | .inr q => .ref (b + k_off q.1 q.2)
def k_cat : KV → Nat
  | .inl v => v.category
  | .inr _ => 1
theorem k_cat_eq (b : Nat) (v : KV) : (k_cv b v).category = k_cat v := by cases v <;> rfl
def k_ce (G : KG) (k i : Nat) (f : Nat → Int32) (w : Nat → Int64) (r : Nat → Nat → Nat) : va_E := match k_oc k with
  | some ci => .inr (ci, (k_fl k i f r).map (k_cv G.1))
  | none => match k_ar k with
    | some n => .inl (G.2.2.1, n, .inl f)
    | none => if k = 3 then .inl (G.2.2.2.1, 20, .inl f) else if k = 13 then .inl (G.2.2.2.2.1, 245, .inr (.inl w)) else .inl (G.2.2.2.2.2, 5, .inr (.inr (.inr (.inr (fun j => some (G.1 + k_off 1 (r 8 j)))))))
theorem k_ce_obj {G : KG} {k i ci : Nat} {f : Nat → Int32} {w : Nat → Int64} {r : Nat → Nat → Nat} (h : k_oc k = some ci) : k_ce G k i f w r = .inr (ci, (k_fl k i f r).map (k_cv G.1)) := by unfold k_ce; rw [h]
theorem k_ce_ar {G : KG} {k i n : Nat} {f : Nat → Int32} {w : Nat → Int64} {r : Nat → Nat → Nat} (h0 : k_oc k = none) (h : k_ar k = some n) : k_ce G k i f w r = .inl (G.2.2.1, n, .inl f) := by unfold k_ce; rw [h0, h]
def k_HW (G : KG) (M : KM) (H : Heap) : Prop := ∀ k i, i < k_cnt k → va_at G.2.1 vwCl (G.1 + k_off k i, k_ce G k i (M.1 k i) (M.2.1 i) M.2.2) H
abbrev k_tys (G : KG) : List (ClassId × FieldType) := [(G.2.2.1, .int), (G.2.2.2.1, .boolean), (G.2.2.2.2.1, .long), (G.2.2.2.2.2, .object RX6)]
def k_rng (G : KG) (q : Nat) : Prop := G.1 ≤ q ∧ q < G.1 + 60
def k_FR (G : KG) (H0 H : Heap) : Prop := H.size = H0.size ∧ ∀ q : Nat, ¬ k_rng G q → H[q]? = H0[q]?
theorem k_FR.rf {G : KG} {H : Heap} : k_FR G H H := ⟨rfl, fun _ _ => rfl⟩
theorem k_FR.tr {G : KG} {H0 H H1 : Heap} (h : k_FR G H0 H) (h1 : k_FR G H H1) : k_FR G H0 H1 := ⟨h1.1.trans h.1, fun q hq => (h1.2 q hq).trans (h.2 q hq)⟩
/-- locals -/
def k_lc (b : Nat) : Nat → List (Option KV) → List (Nat × Value)
  | _, [] => []
  | n, none :: r => k_lc b (n + 1) r
  | n, some v :: r => (n, k_cv b v) :: k_lc b (n + 1) r
theorem k_lc_mem {b : Nat} : ∀ (loc : List (Option KV)) (n : Nat) (q : Nat × Value), q ∈ k_lc b n loc ↔ ∃ (j : Nat) (v : KV), loc[j]? = some (some v) ∧ q = (n + j, k_cv b v)
  | [], n, q => by simp [k_lc]
  | none :: r, n, q => by
    rw [k_lc, k_lc_mem r (n + 1) q]
    constructor
    · rintro ⟨j, v, h1, h2⟩
      exact ⟨j + 1, v, by simpa using h1, by rw [h2]; congr 1; omega⟩
    · rintro ⟨j, v, h1, h2⟩
      cases j with
      | zero => simp at h1
      | succ j => exact ⟨j, v, by simpa using h1, by rw [h2]; congr 1; omega⟩
  | some u :: r, n, q => by
    rw [k_lc, List.mem_cons, k_lc_mem r (n + 1) q]
    constructor
    · rintro (h | ⟨j, v, h1, h2⟩)
      · exact ⟨0, u, rfl, h⟩
      · exact ⟨j + 1, v, by simpa using h1, by rw [h2]; congr 1; omega⟩
    · rintro ⟨j, v, h1, h2⟩
      cases j with
      | zero =>
        left
        have : u = v := by simpa using h1
        rw [h2, this]; rfl
      | succ j => exact Or.inr ⟨j, v, by simpa using h1, by rw [h2]; congr 1; omega⟩
theorem k_lc_at {b nL j : Nat} {ls : Array Slot} {loc : List (Option KV)} {v : KV} (hl : lv_has ls nL (k_lc b 0 loc)) (h : loc[j]? = some (some v)) : ls[j]? = some (.val (k_cv b v)) := by
  have := hl.2.2 (j, k_cv b v) ((k_lc_mem loc 0 _).mpr ⟨j, v, h, by simp⟩)
  simpa using this
def k_nd (loc : List (Option KV)) (i : Nat) : Bool := match i with
  | 0 => true
  | j + 1 => match loc[j]? with
    | some (some v) => k_cat v == 1
    | _ => true
theorem k_lc_set {b nL i : Nat} {ls : Array Slot} {loc : List (Option KV)} {v : KV} (hd : k_nd loc i = true) (hl : lv_has ls nL ((i, k_cv b v) :: (k_lc b 0 loc).filter (fun q => !(q.1 == i) && !(q.1 + 1 == i && q.2.category == 2)))) : lv_has ls nL (k_lc b 0 (loc.set i (some v))) := by
  refine ⟨hl.1, hl.2.1, fun q hq => ?_⟩
  obtain ⟨j, u, h1, h2⟩ := (k_lc_mem _ 0 q).mp hq
  apply hl.2.2 q
  rw [h2]
  by_cases hji : j = i
  · subst hji
    have hlt : j < loc.length := by
      have := (List.getElem?_eq_some_iff.mp h1).1
      simpa using this
    rw [List.getElem?_set_self hlt] at h1
    have : v = u := by simpa using h1
    subst this
    simp
  · rw [List.getElem?_set_ne (fun e => hji e.symm)] at h1
    refine List.mem_cons_of_mem _ (List.mem_filter.mpr ⟨(k_lc_mem _ 0 _).mpr ⟨j, u, h1, rfl⟩, ?_⟩)
    simp only [Nat.zero_add, Bool.and_eq_true, Bool.not_eq_true']
    refine ⟨by simpa using hji, ?_⟩
    by_cases h3 : j + 1 = i
    · subst h3
      have h4 : k_cat u = 1 := by
        simp only [k_nd, h1] at hd
        simpa using hd
      rw [k_cat_eq, h4]
      simp
    · simp [h3]
/-- forgetting locals -/
def k_le : List (Option KV) → List (Option KV) → Prop := fun a b => ∀ (j : Nat) (v : KV), a[j]? = some (some v) → b[j]? = some (some v)
theorem k_lc_le {b nL : Nat} {ls : Array Slot} {l1 l2 : List (Option KV)} (h : k_le l1 l2) (hl : lv_has ls nL (k_lc b 0 l2)) : lv_has ls nL (k_lc b 0 l1) := by
  refine ⟨hl.1, hl.2.1, fun q hq => ?_⟩
  obtain ⟨j, u, h1, h2⟩ := (k_lc_mem _ 0 q).mp hq
  exact hl.2.2 q ((k_lc_mem _ 0 q).mpr ⟨j, u, h j u h1, h2⟩)
theorem k_le_nil {l : List (Option KV)} : k_le [] l := fun j v h => by simp at h
theorem k_le_n {u : Option KV} {a b : List (Option KV)} (h : k_le a b) : k_le (none :: a) (u :: b) := fun j v hj => by
  cases j with
  | zero => simp at hj
  | succ j => exact h j v (by simpa using hj)
theorem k_le_s {u : Option KV} {a b : List (Option KV)} (h : k_le a b) : k_le (u :: a) (u :: b) := fun j v hj => by
  cases j with
  | zero => exact hj
  | succ j => exact h j v (by simpa using hj)
/-- a method's context -/
def k_Cx (I : KI) (G : KG) (p : Program) (R : Room) (s : State) (m : MethodId) (args : Array Value) (meth : Method) (c : Code) (cells slots : Nat) : Prop :=
  p.tables.exec = Jvm.exec ∧ c.code = I.2.1 ∧ c.maxLocals = I.2.2.1 ∧ meth.sig.returnType = I.2.2.2.1 ∧ s.vm.findClass I.1.cls = some m.cls ∧ meth.locks = false ∧ (∀ w ∈ k_tb, w.before args s = true) ∧ va_K G.2.1 vwCl (k_tys G) s ∧ R.frames = I.2.2.2.2.frames ∧ R.locals = I.2.2.2.2.locals ∧ cells ≤ R.cells ∧ slots ≤ R.slots
abbrev KZ : Type := KG → Heap → Program → Launch → Env → Room → State → MethodId → Array Value → List Frame → Method → Code → Nat → Nat → (State → Prop) → Prop
def Go (I : KI) (Z : KZ) (M : KM) (loc : List (Option KV)) (st : List KV) (pc : Nat) : Prop :=
  ∀ (G : KG) (Hb : Heap) (p : Program) (l : Launch) (e : Env) (R : Room) (s : State) (m : MethodId) (args : Array Value) (below : List Frame) (meth : Method) (c : Code) (cells slots : Nat) (Qf : State → Prop),
    k_Cx I G p R s m args meth c cells slots → Z G Hb p l e R s m args below meth c cells slots Qf →
    ∀ (H : Heap) (ls : Array Slot) (locs : List Loc), k_HW G M H → k_FR G Hb H → (∀ q ∈ locs, k_rng G q.base) → lv_has ls I.2.2.1 (k_lc G.1 0 loc) →
      W p l e R s m args below meth c H locs cells slots Qf (F0 m pc ls (st.map (k_cv G.1)))
/-- a method's end -/
def k_Q (G : KG) (Q : Option KV → KM → Prop) : Array Value → State → Outcome → State → Prop := fun _ st o t => (∃ (r : Option KV) (M' : KM), Q r M' ∧ o = .returned (r.map (k_cv G.1)) ∧ k_HW G M' t.heap) ∧ k_FR G st.heap t.heap
def k_P (G : KG) (as : List KV) (M : KM) : Array Value → State → Prop := fun v U => v = (as.map (k_cv G.1)).toArray ∧ k_HW G M U.heap ∧ va_K G.2.1 vwCl (k_tys G) U
def Zm (Q : Option KV → KM → Prop) : KZ := fun G Hb _ _ _ _ s _ args below _ _ cells slots Qf => Hb = s.heap ∧ cells = 0 ∧ slots = 0 ∧ Qf = MQ below (k_Q G Q) args s 0 0 (k_rng G)
abbrev k_ws (I : KI) : List Cond := .code I.1 I.2.1 I.2.2.1 I.2.2.2.1 :: k_tb
def Ok (I : KI) (as : List KV) (M : KM) (Q : Option KV → KM → Prop) : Prop := ∀ (l : Launch) (G : KG), Met l I.1 (k_ws I) I.2.2.2.2 (k_P G as M) (k_Q G Q) 0 0 (k_rng G)
/-- a method that answers one value, and leaves one memory -/
def OkF (I : KI) (as : List KV) (M : KM) (r : Option KV) (M' : KM) : Prop := Ok I as M (fun a b => a = r ∧ b = M')
theorem k_lc_rep {b : Nat} : ∀ (l : List (Option KV)) (n k : Nat), k_lc b k (l ++ List.replicate n none) = k_lc b k l
  | [], 0, _ => rfl
  | [], n + 1, k => by
    show k_lc b k (List.replicate (n + 1) none) = _
    rw [List.replicate_succ, k_lc]
    exact k_lc_rep [] n (k + 1)
  | none :: r, n, k => by
    show k_lc b k (none :: (r ++ _)) = _
    rw [k_lc, k_lc]
    exact k_lc_rep r n (k + 1)
  | some v :: r, n, k => by
    show k_lc b k (some v :: (r ++ _)) = _
    rw [k_lc, k_lc, k_lc_rep r n (k + 1)]
theorem k_lc_args {b : Nat} : ∀ (as : List KV) (k : Nat), (∀ v ∈ as, k_cat v = 1) → lv_args k (as.map (k_cv b)) = k_lc b k (as.map some)
  | [], _, _ => rfl
  | v :: r, k, h => by
    have h1 : (k_cv b v).category = 1 := by rw [k_cat_eq]; exact h v List.mem_cons_self
    show lv_args k (k_cv b v :: r.map (k_cv b)) = k_lc b k (some v :: r.map some)
    rw [lv_args, k_lc, if_neg (by rw [h1]; decide), k_lc_args r (k + 1) (fun w hw => h w (List.mem_cons_of_mem _ hw))]
theorem k_sl_len {b : Nat} : ∀ (as : List KV), (∀ v ∈ as, k_cat v = 1) → (lg_sl (as.map (k_cv b))).length = as.length
  | [], _ => rfl
  | v :: r, h => by
    have h1 : (k_cv b v).category = 1 := by rw [k_cat_eq]; exact h v List.mem_cons_self
    have h2 := k_sl_len (b := b) r (fun w hw => h w (List.mem_cons_of_mem _ hw))
    unfold lg_sl at h2 ⊢
    rw [List.map_cons, List.flatMap_cons, if_neg (by rw [h1]; decide), List.length_append, h2]
    simp; omega
theorem ok_of {I : KI} {as : List KV} {M : KM} {Q : Option KV → KM → Prop} (hn : plainName I.1.cls = true) (hc : as.all (fun v => k_cat v == 1) = true) (hlen : as.length ≤ I.2.2.1)
    (hrm : I.2.2.2.2.cells = 0 ∧ I.2.2.2.2.slots = 0) (h : Go I (Zm Q) M (as.map some ++ List.replicate (I.2.2.1 - as.length) none) [] 0) : Ok I as M Q := by
  intro l G
  refine Met.ofW (cc := I.2.1) (maxL := I.2.2.1) (ret := I.2.2.2.1) (ws' := k_tb) hn rfl ?_
  intro p e s m args below meth c s₁ B hml hv
  obtain ⟨rfl, hW, hK⟩ := hv
  have hcat : ∀ v ∈ as, k_cat v = 1 := fun v hv => by simpa using List.all_eq_true.mp hc v hv
  have hts := atoms_spec (ws := k_ws I) B.pre
  have hl := lv_entry (as.map (k_cv G.1)) (n := I.2.2.1) (by rw [k_sl_len as hcat]; exact hlen)
  rw [lg_entry_eq]
  rw [k_lc_args as 0 hcat, ← k_lc_rep (as.map some) (I.2.2.1 - as.length) 0] at hl
  exact h G s.heap p l e _ s m _ below meth c 0 0 _ ⟨B.exec, B.bytes, hml, B.returns, findClass_of_methodNamed B.named, B.notSynchronized, fun w hw => hts w (List.mem_cons_of_mem _ hw), hK, rfl, rfl, Nat.zero_le _, Nat.zero_le _⟩ ⟨rfl, rfl, rfl, rfl⟩ s.heap _ [] hW k_FR.rf (fun q hq => by cases hq) hl
/-- entering a goal -/
theorem go_weak {I : KI} {Z : KZ} {M : KM} {l1 l2 : List (Option KV)} {st : List KV} {pc : Nat} (hle : k_le l1 l2) (h : Go I Z M l1 st pc) : Go I Z M l2 st pc := by
  intro G Hb p l e R s m args below meth c cells slots Qf hC hZ H ls locs hW hF hL hl
  exact h G Hb p l e R s m args below meth c cells slots Qf hC hZ H ls locs hW hF hL (k_lc_le hle hl)
theorem k_P1 {D : va_G} {a : Nat} {e : va_E} {H : Heap} (h : va_at D vwCl (a, e) H) : va_P D vwCl [(a, e)] H := fun k q hq => by
  cases k with
  | zero =>
    have : (a, e) = q := by simpa using hq
    rw [← this]; exact h
  | succ k => simp at hq
