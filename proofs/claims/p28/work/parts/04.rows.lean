theorem go_iadd {I : KI} {Z : KZ} {M : KM} {loc : List (Option KV)} {st : List KV} {pc q : Nat} {x y : Int32} (hd : decode I.2.1 pc = .ok (.iadd, 1))  (hq : pc + 1 = q) (h : Go I Z M loc (vI (x + y) :: st) q) : Go I Z M loc (vI y :: vI x :: st) pc := by
  subst hq
  intro G Hb p l e R s m args below meth c cells slots Qf hC hZ H ls locs hW hF hL hl
  obtain ⟨hx, hb, hml, hrt, hown, hlk, hts, hK, hRf, hRl, hce, hsl⟩ := id hC
  exact lv_iadd hx hb hd  (h G Hb p l e R s m args below meth c cells slots Qf hC hZ H ls locs hW hF hL hl)
theorem go_isub {I : KI} {Z : KZ} {M : KM} {loc : List (Option KV)} {st : List KV} {pc q : Nat} {x y : Int32} (hd : decode I.2.1 pc = .ok (.isub, 1))  (hq : pc + 1 = q) (h : Go I Z M loc (vI (x - y) :: st) q) : Go I Z M loc (vI y :: vI x :: st) pc := by
  subst hq
  intro G Hb p l e R s m args below meth c cells slots Qf hC hZ H ls locs hW hF hL hl
  obtain ⟨hx, hb, hml, hrt, hown, hlk, hts, hK, hRf, hRl, hce, hsl⟩ := id hC
  exact lv_isub hx hb hd  (h G Hb p l e R s m args below meth c cells slots Qf hC hZ H ls locs hW hF hL hl)
theorem go_imul {I : KI} {Z : KZ} {M : KM} {loc : List (Option KV)} {st : List KV} {pc q : Nat} {x y : Int32} (hd : decode I.2.1 pc = .ok (.imul, 1))  (hq : pc + 1 = q) (h : Go I Z M loc (vI (x * y) :: st) q) : Go I Z M loc (vI y :: vI x :: st) pc := by
  subst hq
  intro G Hb p l e R s m args below meth c cells slots Qf hC hZ H ls locs hW hF hL hl
  obtain ⟨hx, hb, hml, hrt, hown, hlk, hts, hK, hRf, hRl, hce, hsl⟩ := id hC
  exact lv_imul hx hb hd  (h G Hb p l e R s m args below meth c cells slots Qf hC hZ H ls locs hW hF hL hl)
theorem go_iand {I : KI} {Z : KZ} {M : KM} {loc : List (Option KV)} {st : List KV} {pc q : Nat} {x y : Int32} (hd : decode I.2.1 pc = .ok (.iand, 1))  (hq : pc + 1 = q) (h : Go I Z M loc (vI (x &&& y) :: st) q) : Go I Z M loc (vI y :: vI x :: st) pc := by
  subst hq
  intro G Hb p l e R s m args below meth c cells slots Qf hC hZ H ls locs hW hF hL hl
  obtain ⟨hx, hb, hml, hrt, hown, hlk, hts, hK, hRf, hRl, hce, hsl⟩ := id hC
  exact lv_iand hx hb hd  (h G Hb p l e R s m args below meth c cells slots Qf hC hZ H ls locs hW hF hL hl)
theorem go_ishr {I : KI} {Z : KZ} {M : KM} {loc : List (Option KV)} {st : List KV} {pc q : Nat} {x y : Int32} (hd : decode I.2.1 pc = .ok (.ishr, 1))  (hq : pc + 1 = q) (h : Go I Z M loc (vI (x >>> (y &&& 31)) :: st) q) : Go I Z M loc (vI y :: vI x :: st) pc := by
  subst hq
  intro G Hb p l e R s m args below meth c cells slots Qf hC hZ H ls locs hW hF hL hl
  obtain ⟨hx, hb, hml, hrt, hown, hlk, hts, hK, hRf, hRl, hce, hsl⟩ := id hC
  exact lv_ishr hx hb hd  (h G Hb p l e R s m args below meth c cells slots Qf hC hZ H ls locs hW hF hL hl)
theorem go_idiv {I : KI} {Z : KZ} {M : KM} {loc : List (Option KV)} {st : List KV} {pc q : Nat} {x y : Int32} (hd : decode I.2.1 pc = .ok (.idiv, 1)) (hne : ¬ y = 0) (hq : pc + 1 = q) (h : Go I Z M loc (vI (x / y) :: st) q) : Go I Z M loc (vI y :: vI x :: st) pc := by
  subst hq
  intro G Hb p l e R s m args below meth c cells slots Qf hC hZ H ls locs hW hF hL hl
  obtain ⟨hx, hb, hml, hrt, hown, hlk, hts, hK, hRf, hRl, hce, hsl⟩ := id hC
  exact lv_idiv hx hb hd hne (h G Hb p l e R s m args below meth c cells slots Qf hC hZ H ls locs hW hF hL hl)
theorem go_irem {I : KI} {Z : KZ} {M : KM} {loc : List (Option KV)} {st : List KV} {pc q : Nat} {x y : Int32} (hd : decode I.2.1 pc = .ok (.irem, 1)) (hne : ¬ y = 0) (hq : pc + 1 = q) (h : Go I Z M loc (vI (x - x / y * y) :: st) q) : Go I Z M loc (vI y :: vI x :: st) pc := by
  subst hq
  intro G Hb p l e R s m args below meth c cells slots Qf hC hZ H ls locs hW hF hL hl
  obtain ⟨hx, hb, hml, hrt, hown, hlk, hts, hK, hRf, hRl, hce, hsl⟩ := id hC
  exact lv_irem hx hb hd hne (h G Hb p l e R s m args below meth c cells slots Qf hC hZ H ls locs hW hF hL hl)
theorem go_land {I : KI} {Z : KZ} {M : KM} {loc : List (Option KV)} {st : List KV} {pc q : Nat} {x y : Int64} (hd : decode I.2.1 pc = .ok (.land, 1))  (hq : pc + 1 = q) (h : Go I Z M loc (vJ (x &&& y) :: st) q) : Go I Z M loc (vJ y :: vJ x :: st) pc := by
  subst hq
  intro G Hb p l e R s m args below meth c cells slots Qf hC hZ H ls locs hW hF hL hl
  obtain ⟨hx, hb, hml, hrt, hown, hlk, hts, hK, hRf, hRl, hce, hsl⟩ := id hC
  exact lv_land hx hb hd  (h G Hb p l e R s m args below meth c cells slots Qf hC hZ H ls locs hW hF hL hl)
theorem go_lor {I : KI} {Z : KZ} {M : KM} {loc : List (Option KV)} {st : List KV} {pc q : Nat} {x y : Int64} (hd : decode I.2.1 pc = .ok (.lor, 1))  (hq : pc + 1 = q) (h : Go I Z M loc (vJ (x ||| y) :: st) q) : Go I Z M loc (vJ y :: vJ x :: st) pc := by
  subst hq
  intro G Hb p l e R s m args below meth c cells slots Qf hC hZ H ls locs hW hF hL hl
  obtain ⟨hx, hb, hml, hrt, hown, hlk, hts, hK, hRf, hRl, hce, hsl⟩ := id hC
  exact lv_lor hx hb hd  (h G Hb p l e R s m args below meth c cells slots Qf hC hZ H ls locs hW hF hL hl)
theorem go_lushr {I : KI} {Z : KZ} {M : KM} {loc : List (Option KV)} {st : List KV} {pc q : Nat} {x : Int64} {y : Int32} (hd : decode I.2.1 pc = .ok (.lushr, 1))  (hq : pc + 1 = q) (h : Go I Z M loc (vJ (x.toUInt64 >>> (y.toInt64.toUInt64 &&& Int64.toUInt64 63)).toInt64 :: st) q) : Go I Z M loc (vI y :: vJ x :: st) pc := by
  subst hq
  intro G Hb p l e R s m args below meth c cells slots Qf hC hZ H ls locs hW hF hL hl
  obtain ⟨hx, hb, hml, hrt, hown, hlk, hts, hK, hRf, hRl, hce, hsl⟩ := id hC
  exact lv_lushr hx hb hd rfl (h G Hb p l e R s m args below meth c cells slots Qf hC hZ H ls locs hW hF hL hl)
theorem go_lshl {I : KI} {Z : KZ} {M : KM} {loc : List (Option KV)} {st : List KV} {pc q : Nat} {x : Int64} {y : Int32} (hd : decode I.2.1 pc = .ok (.lshl, 1))  (hq : pc + 1 = q) (h : Go I Z M loc (vJ (x <<< (y.toInt64 &&& 63)) :: st) q) : Go I Z M loc (vI y :: vJ x :: st) pc := by
  subst hq
  intro G Hb p l e R s m args below meth c cells slots Qf hC hZ H ls locs hW hF hL hl
  obtain ⟨hx, hb, hml, hrt, hown, hlk, hts, hK, hRf, hRl, hce, hsl⟩ := id hC
  exact lv_lshl hx hb hd rfl (h G Hb p l e R s m args below meth c cells slots Qf hC hZ H ls locs hW hF hL hl)
theorem go_lcmp {I : KI} {Z : KZ} {M : KM} {loc : List (Option KV)} {st : List KV} {pc q : Nat} {x y : Int64} (hd : decode I.2.1 pc = .ok (.lcmp, 1))  (hq : pc + 1 = q) (h : Go I Z M loc (vI (lg_cmp x y) :: st) q) : Go I Z M loc (vJ y :: vJ x :: st) pc := by
  subst hq
  intro G Hb p l e R s m args below meth c cells slots Qf hC hZ H ls locs hW hF hL hl
  obtain ⟨hx, hb, hml, hrt, hown, hlk, hts, hK, hRf, hRl, hce, hsl⟩ := id hC
  exact W.lcmp hx hb hd  (h G Hb p l e R s m args below meth c cells slots Qf hC hZ H ls locs hW hF hL hl)
theorem go_iconst {I : KI} {Z : KZ} {M : KM} {loc : List (Option KV)} {st : List KV} {pc q : Nat} {n : Int} {v : Int32} (hd : decode I.2.1 pc = .ok (.iconst n, 1)) (hv : Int32.ofInt n = v) (hq : pc + 1 = q) (h : Go I Z M loc (vI v :: st) q) : Go I Z M loc (st) pc := by
  subst hq
  intro G Hb p l e R s m args below meth c cells slots Qf hC hZ H ls locs hW hF hL hl
  obtain ⟨hx, hb, hml, hrt, hown, hlk, hts, hK, hRf, hRl, hce, hsl⟩ := id hC
  exact lv_iconst hx hb hd hv (h G Hb p l e R s m args below meth c cells slots Qf hC hZ H ls locs hW hF hL hl)
theorem go_bipush {I : KI} {Z : KZ} {M : KM} {loc : List (Option KV)} {st : List KV} {pc q : Nat} {n : Int} {v : Int32} (hd : decode I.2.1 pc = .ok (.bipush n, 2)) (hv : (Int8.ofInt n).toInt32 = v) (hq : pc + 2 = q) (h : Go I Z M loc (vI v :: st) q) : Go I Z M loc (st) pc := by
  subst hq
  intro G Hb p l e R s m args below meth c cells slots Qf hC hZ H ls locs hW hF hL hl
  obtain ⟨hx, hb, hml, hrt, hown, hlk, hts, hK, hRf, hRl, hce, hsl⟩ := id hC
  exact lv_bipush hx hb hd hv (h G Hb p l e R s m args below meth c cells slots Qf hC hZ H ls locs hW hF hL hl)
theorem go_sipush {I : KI} {Z : KZ} {M : KM} {loc : List (Option KV)} {st : List KV} {pc q : Nat} {n : Int} {v : Int32} (hd : decode I.2.1 pc = .ok (.sipush n, 3)) (hv : (Int16.ofInt n).toInt32 = v) (hq : pc + 3 = q) (h : Go I Z M loc (vI v :: st) q) : Go I Z M loc (st) pc := by
  subst hq
  intro G Hb p l e R s m args below meth c cells slots Qf hC hZ H ls locs hW hF hL hl
  obtain ⟨hx, hb, hml, hrt, hown, hlk, hts, hK, hRf, hRl, hce, hsl⟩ := id hC
  exact lv_sipush hx hb hd hv (h G Hb p l e R s m args below meth c cells slots Qf hC hZ H ls locs hW hF hL hl)
theorem go_lconst {I : KI} {Z : KZ} {M : KM} {loc : List (Option KV)} {st : List KV} {pc q : Nat} {n : Fin 2} {v : Int64} (hd : decode I.2.1 pc = .ok (.lconst n, 1)) (hv : Int64.ofNat (n : Nat) = v) (hq : pc + 1 = q) (h : Go I Z M loc (vJ v :: st) q) : Go I Z M loc (st) pc := by
  subst hq
  intro G Hb p l e R s m args below meth c cells slots Qf hC hZ H ls locs hW hF hL hl
  obtain ⟨hx, hb, hml, hrt, hown, hlk, hts, hK, hRf, hRl, hce, hsl⟩ := id hC
  exact lv_lconst hx hb hd hv (h G Hb p l e R s m args below meth c cells slots Qf hC hZ H ls locs hW hF hL hl)
theorem go_null {I : KI} {Z : KZ} {M : KM} {loc : List (Option KV)} {st : List KV} {pc q : Nat}  (hd : decode I.2.1 pc = .ok (.aconst_null, 1))  (hq : pc + 1 = q) (h : Go I Z M loc (vN :: st) q) : Go I Z M loc (st) pc := by
  subst hq
  intro G Hb p l e R s m args below meth c cells slots Qf hC hZ H ls locs hW hF hL hl
  obtain ⟨hx, hb, hml, hrt, hown, hlk, hts, hK, hRf, hRl, hce, hsl⟩ := id hC
  exact lv_null hx hb hd  (h G Hb p l e R s m args below meth c cells slots Qf hC hZ H ls locs hW hF hL hl)
theorem go_dconst0 {I : KI} {Z : KZ} {M : KM} {loc : List (Option KV)} {st : List KV} {pc q : Nat}  (hd : decode I.2.1 pc = .ok (.dconst 0, 1))  (hq : pc + 1 = q) (h : Go I Z M loc (vD FP.dconst0 :: st) q) : Go I Z M loc (st) pc := by
  subst hq
  intro G Hb p l e R s m args below meth c cells slots Qf hC hZ H ls locs hW hF hL hl
  obtain ⟨hx, hb, hml, hrt, hown, hlk, hts, hK, hRf, hRl, hce, hsl⟩ := id hC
  exact lv_dconst0 hx hb hd  (h G Hb p l e R s m args below meth c cells slots Qf hC hZ H ls locs hW hF hL hl)
theorem go_i2d {I : KI} {Z : KZ} {M : KM} {loc : List (Option KV)} {st : List KV} {pc q : Nat} {x : Int32} (hd : decode I.2.1 pc = .ok (.i2d, 1))  (hq : pc + 1 = q) (h : Go I Z M loc (vD (FP.i2d x) :: st) q) : Go I Z M loc (vI x :: st) pc := by
  subst hq
  intro G Hb p l e R s m args below meth c cells slots Qf hC hZ H ls locs hW hF hL hl
  obtain ⟨hx, hb, hml, hrt, hown, hlk, hts, hK, hRf, hRl, hce, hsl⟩ := id hC
  exact lv_i2d hx hb hd  (h G Hb p l e R s m args below meth c cells slots Qf hC hZ H ls locs hW hF hL hl)
theorem go_dcmp {I : KI} {Z : KZ} {M : KM} {loc : List (Option KV)} {st : List KV} {pc q : Nat} {x y : UInt64} {op : CmpOp} (hd : decode I.2.1 pc = .ok (.dcmp op, 1))  (hq : pc + 1 = q) (h : Go I Z M loc (vI (Op.cmpValue (FP.dcmp x y) op) :: st) q) : Go I Z M loc (vD y :: vD x :: st) pc := by
  subst hq
  intro G Hb p l e R s m args below meth c cells slots Qf hC hZ H ls locs hW hF hL hl
  obtain ⟨hx, hb, hml, hrt, hown, hlk, hts, hK, hRf, hRl, hce, hsl⟩ := id hC
  exact lv_dcmp hx hb hd  (h G Hb p l e R s m args below meth c cells slots Qf hC hZ H ls locs hW hF hL hl)
theorem go_ddiv {I : KI} {Z : KZ} {M : KM} {loc : List (Option KV)} {st : List KV} {pc q : Nat} {x y : UInt64} (hd : decode I.2.1 pc = .ok (.ddiv, 1)) (hne : vf_n64 (FP.ddiv x y)) (hq : pc + 1 = q) (h : Go I Z M loc (vD (FP.ddiv x y) :: st) q) : Go I Z M loc (vD y :: vD x :: st) pc := by
  subst hq
  intro G Hb p l e R s m args below meth c cells slots Qf hC hZ H ls locs hW hF hL hl
  obtain ⟨hx, hb, hml, hrt, hown, hlk, hts, hK, hRf, hRl, hce, hsl⟩ := id hC
  exact lv_ddiv hx hb hd hne (h G Hb p l e R s m args below meth c cells slots Qf hC hZ H ls locs hW hF hL hl)
theorem go_dup {I : KI} {Z : KZ} {M : KM} {loc : List (Option KV)} {st : List KV} {pc q : Nat} {a : KV} (hd : decode I.2.1 pc = .ok (.dup, 1)) (ha : k_cat a = 1) (hq : pc + 1 = q) (h : Go I Z M loc (a :: a :: st) q) : Go I Z M loc (a :: st) pc := by
  subst hq
  intro G Hb p l e R s m args below meth c cells slots Qf hC hZ H ls locs hW hF hL hl
  obtain ⟨hx, hb, hml, hrt, hown, hlk, hts, hK, hRf, hRl, hce, hsl⟩ := id hC
  exact lv_dup hx hb hd (by rw [k_cat_eq]; exact ha) (h G Hb p l e R s m args below meth c cells slots Qf hC hZ H ls locs hW hF hL hl)
theorem go_pop {I : KI} {Z : KZ} {M : KM} {loc : List (Option KV)} {st : List KV} {pc q : Nat} {a : KV} (hd : decode I.2.1 pc = .ok (.pop, 1)) (ha : k_cat a = 1) (hq : pc + 1 = q) (h : Go I Z M loc (st) q) : Go I Z M loc (a :: st) pc := by
  subst hq
  intro G Hb p l e R s m args below meth c cells slots Qf hC hZ H ls locs hW hF hL hl
  obtain ⟨hx, hb, hml, hrt, hown, hlk, hts, hK, hRf, hRl, hce, hsl⟩ := id hC
  exact lv_pop hx hb hd (by rw [k_cat_eq]; exact ha) (h G Hb p l e R s m args below meth c cells slots Qf hC hZ H ls locs hW hF hL hl)
theorem go_dup2 {I : KI} {Z : KZ} {M : KM} {loc : List (Option KV)} {st : List KV} {pc q : Nat} {a b : KV} (hd : decode I.2.1 pc = .ok (.dup2, 1)) (ha : k_cat a = 1) (hb2 : k_cat b = 1) (hq : pc + 1 = q) (h : Go I Z M loc (a :: b :: a :: b :: st) q) : Go I Z M loc (a :: b :: st) pc := by
  subst hq
  intro G Hb p l e R s m args below meth c cells slots Qf hC hZ H ls locs hW hF hL hl
  obtain ⟨hx, hb, hml, hrt, hown, hlk, hts, hK, hRf, hRl, hce, hsl⟩ := id hC
  exact lv_dup2_11 hx hb hd (by rw [k_cat_eq]; exact ha) (by rw [k_cat_eq]; exact hb2) (h G Hb p l e R s m args below meth c cells slots Qf hC hZ H ls locs hW hF hL hl)
theorem go_ifnull {I : KI} {Z : KZ} {M : KM} {loc : List (Option KV)} {st : List KV} {pc q : Nat} {k i : Nat} {off : Int} (hd : decode I.2.1 pc = .ok (.ifnull off, 3))  (hq : pc + 3 = q) (h : Go I Z M loc (st) q) : Go I Z M loc (vR k i :: st) pc := by
  subst hq
  intro G Hb p l e R s m args below meth c cells slots Qf hC hZ H ls locs hW hF hL hl
  obtain ⟨hx, hb, hml, hrt, hown, hlk, hts, hK, hRf, hRl, hce, hsl⟩ := id hC
  exact lv_ifnull hx hb hd  (h G Hb p l e R s m args below meth c cells slots Qf hC hZ H ls locs hW hF hL hl)
theorem go_goto {I : KI} {Z : KZ} {M : KM} {loc : List (Option KV)} {st : List KV} {pc q : Nat} {off : Int} (hd : decode I.2.1 pc = .ok (.goto off, 3)) (ht : (pc : Int) + off = (q : Int)) (h : Go I Z M loc st q) : Go I Z M loc st pc := by
  intro G Hb p l e R s m args below meth c cells slots Qf hC hZ H ls locs hW hF hL hl
  obtain ⟨hx, hb, hml, hrt, hown, hlk, hts, hK, hRf, hRl, hce, hsl⟩ := id hC
  exact lv_goto hx hb hd ht (h G Hb p l e R s m args below meth c cells slots Qf hC hZ H ls locs hW hF hL hl)
theorem go_ifnullN {I : KI} {Z : KZ} {M : KM} {loc : List (Option KV)} {st : List KV} {pc q : Nat} {off : Int} (hd : decode I.2.1 pc = .ok (.ifnull off, 3)) (ht : (pc : Int) + off = (q : Int)) (h : Go I Z M loc st q) : Go I Z M loc (vN :: st) pc := by
  intro G Hb p l e R s m args below meth c cells slots Qf hC hZ H ls locs hW hF hL hl
  obtain ⟨hx, hb, hml, hrt, hown, hlk, hts, hK, hRf, hRl, hce, hsl⟩ := id hC
  exact lv_ifnullN hx hb hd ht (h G Hb p l e R s m args below meth c cells slots Qf hC hZ H ls locs hW hF hL hl)
theorem go_if_eq {I : KI} {Z : KZ} {M : KM} {loc : List (Option KV)} {st : List KV} {pc q t : Nat} {x : Int32} {off : Int} (hd : decode I.2.1 pc = .ok (.ifCond .eq off, 3)) (ht : (pc : Int) + off = (t : Int)) (hq : pc + 3 = q) (ht1 : x = 0 → Go I Z M loc st t) (hf1 : ¬ (x = 0) → Go I Z M loc st q) : Go I Z M loc (vI x :: st) pc := by
  subst hq
  intro G Hb p l e R s m args below meth c cells slots Qf hC hZ H ls locs hW hF hL hl
  obtain ⟨hx, hb, hml, hrt, hown, hlk, hts, hK, hRf, hRl, hce, hsl⟩ := id hC
  exact lv_if_eq hx hb hd ht (fun z => ht1 z G Hb p l e R s m args below meth c cells slots Qf hC hZ H ls locs hW hF hL hl) (fun z => hf1 z G Hb p l e R s m args below meth c cells slots Qf hC hZ H ls locs hW hF hL hl)
theorem go_if_lt {I : KI} {Z : KZ} {M : KM} {loc : List (Option KV)} {st : List KV} {pc q t : Nat} {x : Int32} {off : Int} (hd : decode I.2.1 pc = .ok (.ifCond .lt off, 3)) (ht : (pc : Int) + off = (t : Int)) (hq : pc + 3 = q) (ht1 : x < 0 → Go I Z M loc st t) (hf1 : ¬ (x < 0) → Go I Z M loc st q) : Go I Z M loc (vI x :: st) pc := by
  subst hq
  intro G Hb p l e R s m args below meth c cells slots Qf hC hZ H ls locs hW hF hL hl
  obtain ⟨hx, hb, hml, hrt, hown, hlk, hts, hK, hRf, hRl, hce, hsl⟩ := id hC
  exact lv_if_lt hx hb hd ht (fun z => ht1 z G Hb p l e R s m args below meth c cells slots Qf hC hZ H ls locs hW hF hL hl) (fun z => hf1 z G Hb p l e R s m args below meth c cells slots Qf hC hZ H ls locs hW hF hL hl)
theorem go_if_ge {I : KI} {Z : KZ} {M : KM} {loc : List (Option KV)} {st : List KV} {pc q t : Nat} {x : Int32} {off : Int} (hd : decode I.2.1 pc = .ok (.ifCond .ge off, 3)) (ht : (pc : Int) + off = (t : Int)) (hq : pc + 3 = q) (ht1 : 0 ≤ x → Go I Z M loc st t) (hf1 : ¬ (0 ≤ x) → Go I Z M loc st q) : Go I Z M loc (vI x :: st) pc := by
  subst hq
  intro G Hb p l e R s m args below meth c cells slots Qf hC hZ H ls locs hW hF hL hl
  obtain ⟨hx, hb, hml, hrt, hown, hlk, hts, hK, hRf, hRl, hce, hsl⟩ := id hC
  exact lv_if_ge hx hb hd ht (fun z => ht1 z G Hb p l e R s m args below meth c cells slots Qf hC hZ H ls locs hW hF hL hl) (fun z => hf1 z G Hb p l e R s m args below meth c cells slots Qf hC hZ H ls locs hW hF hL hl)
theorem go_if_gt {I : KI} {Z : KZ} {M : KM} {loc : List (Option KV)} {st : List KV} {pc q t : Nat} {x : Int32} {off : Int} (hd : decode I.2.1 pc = .ok (.ifCond .gt off, 3)) (ht : (pc : Int) + off = (t : Int)) (hq : pc + 3 = q) (ht1 : 0 < x → Go I Z M loc st t) (hf1 : ¬ (0 < x) → Go I Z M loc st q) : Go I Z M loc (vI x :: st) pc := by
  subst hq
  intro G Hb p l e R s m args below meth c cells slots Qf hC hZ H ls locs hW hF hL hl
  obtain ⟨hx, hb, hml, hrt, hown, hlk, hts, hK, hRf, hRl, hce, hsl⟩ := id hC
  exact lv_if_gt hx hb hd ht (fun z => ht1 z G Hb p l e R s m args below meth c cells slots Qf hC hZ H ls locs hW hF hL hl) (fun z => hf1 z G Hb p l e R s m args below meth c cells slots Qf hC hZ H ls locs hW hF hL hl)
theorem go_if_le {I : KI} {Z : KZ} {M : KM} {loc : List (Option KV)} {st : List KV} {pc q t : Nat} {x : Int32} {off : Int} (hd : decode I.2.1 pc = .ok (.ifCond .le off, 3)) (ht : (pc : Int) + off = (t : Int)) (hq : pc + 3 = q) (ht1 : x ≤ 0 → Go I Z M loc st t) (hf1 : ¬ (x ≤ 0) → Go I Z M loc st q) : Go I Z M loc (vI x :: st) pc := by
  subst hq
  intro G Hb p l e R s m args below meth c cells slots Qf hC hZ H ls locs hW hF hL hl
  obtain ⟨hx, hb, hml, hrt, hown, hlk, hts, hK, hRf, hRl, hce, hsl⟩ := id hC
  exact lv_if_le hx hb hd ht (fun z => ht1 z G Hb p l e R s m args below meth c cells slots Qf hC hZ H ls locs hW hF hL hl) (fun z => hf1 z G Hb p l e R s m args below meth c cells slots Qf hC hZ H ls locs hW hF hL hl)
theorem go_if_ne {I : KI} {Z : KZ} {M : KM} {loc : List (Option KV)} {st : List KV} {pc q t : Nat} {x : Int32} {off : Int} (hd : decode I.2.1 pc = .ok (.ifCond .ne off, 3)) (ht : (pc : Int) + off = (t : Int)) (hq : pc + 3 = q) (ht1 : x ≠ 0 → Go I Z M loc st t) (hf1 : ¬ (x ≠ 0) → Go I Z M loc st q) : Go I Z M loc (vI x :: st) pc := by
  subst hq
  intro G Hb p l e R s m args below meth c cells slots Qf hC hZ H ls locs hW hF hL hl
  obtain ⟨hx, hb, hml, hrt, hown, hlk, hts, hK, hRf, hRl, hce, hsl⟩ := id hC
  exact lv_if_ne hx hb hd ht (fun z => ht1 z G Hb p l e R s m args below meth c cells slots Qf hC hZ H ls locs hW hF hL hl) (fun z => hf1 (fun z2 => z2 z) G Hb p l e R s m args below meth c cells slots Qf hC hZ H ls locs hW hF hL hl)
theorem go_icmp_eq {I : KI} {Z : KZ} {M : KM} {loc : List (Option KV)} {st : List KV} {pc q t : Nat} {x y : Int32} {off : Int} (hd : decode I.2.1 pc = .ok (.if_icmp .eq off, 3)) (ht : (pc : Int) + off = (t : Int)) (hq : pc + 3 = q) (ht1 : x = y → Go I Z M loc st t) (hf1 : ¬ (x = y) → Go I Z M loc st q) : Go I Z M loc (vI y :: vI x :: st) pc := by
  subst hq
  intro G Hb p l e R s m args below meth c cells slots Qf hC hZ H ls locs hW hF hL hl
  obtain ⟨hx, hb, hml, hrt, hown, hlk, hts, hK, hRf, hRl, hce, hsl⟩ := id hC
  exact lv_icmp_eq hx hb hd ht (fun z => ht1 z G Hb p l e R s m args below meth c cells slots Qf hC hZ H ls locs hW hF hL hl) (fun z => hf1 z G Hb p l e R s m args below meth c cells slots Qf hC hZ H ls locs hW hF hL hl)
theorem go_icmp_lt {I : KI} {Z : KZ} {M : KM} {loc : List (Option KV)} {st : List KV} {pc q t : Nat} {x y : Int32} {off : Int} (hd : decode I.2.1 pc = .ok (.if_icmp .lt off, 3)) (ht : (pc : Int) + off = (t : Int)) (hq : pc + 3 = q) (ht1 : x < y → Go I Z M loc st t) (hf1 : ¬ (x < y) → Go I Z M loc st q) : Go I Z M loc (vI y :: vI x :: st) pc := by
  subst hq
  intro G Hb p l e R s m args below meth c cells slots Qf hC hZ H ls locs hW hF hL hl
  obtain ⟨hx, hb, hml, hrt, hown, hlk, hts, hK, hRf, hRl, hce, hsl⟩ := id hC
  exact lv_icmp_lt hx hb hd ht (fun z => ht1 z G Hb p l e R s m args below meth c cells slots Qf hC hZ H ls locs hW hF hL hl) (fun z => hf1 z G Hb p l e R s m args below meth c cells slots Qf hC hZ H ls locs hW hF hL hl)
theorem go_icmp_ge {I : KI} {Z : KZ} {M : KM} {loc : List (Option KV)} {st : List KV} {pc q t : Nat} {x y : Int32} {off : Int} (hd : decode I.2.1 pc = .ok (.if_icmp .ge off, 3)) (ht : (pc : Int) + off = (t : Int)) (hq : pc + 3 = q) (ht1 : y ≤ x → Go I Z M loc st t) (hf1 : ¬ (y ≤ x) → Go I Z M loc st q) : Go I Z M loc (vI y :: vI x :: st) pc := by
  subst hq
  intro G Hb p l e R s m args below meth c cells slots Qf hC hZ H ls locs hW hF hL hl
  obtain ⟨hx, hb, hml, hrt, hown, hlk, hts, hK, hRf, hRl, hce, hsl⟩ := id hC
  exact lv_icmp_ge hx hb hd ht (fun z => ht1 z G Hb p l e R s m args below meth c cells slots Qf hC hZ H ls locs hW hF hL hl) (fun z => hf1 z G Hb p l e R s m args below meth c cells slots Qf hC hZ H ls locs hW hF hL hl)
theorem go_icmp_gt {I : KI} {Z : KZ} {M : KM} {loc : List (Option KV)} {st : List KV} {pc q t : Nat} {x y : Int32} {off : Int} (hd : decode I.2.1 pc = .ok (.if_icmp .gt off, 3)) (ht : (pc : Int) + off = (t : Int)) (hq : pc + 3 = q) (ht1 : y < x → Go I Z M loc st t) (hf1 : ¬ (y < x) → Go I Z M loc st q) : Go I Z M loc (vI y :: vI x :: st) pc := by
  subst hq
  intro G Hb p l e R s m args below meth c cells slots Qf hC hZ H ls locs hW hF hL hl
  obtain ⟨hx, hb, hml, hrt, hown, hlk, hts, hK, hRf, hRl, hce, hsl⟩ := id hC
  exact lv_icmp_gt hx hb hd ht (fun z => ht1 z G Hb p l e R s m args below meth c cells slots Qf hC hZ H ls locs hW hF hL hl) (fun z => hf1 z G Hb p l e R s m args below meth c cells slots Qf hC hZ H ls locs hW hF hL hl)
theorem go_icmp_le {I : KI} {Z : KZ} {M : KM} {loc : List (Option KV)} {st : List KV} {pc q t : Nat} {x y : Int32} {off : Int} (hd : decode I.2.1 pc = .ok (.if_icmp .le off, 3)) (ht : (pc : Int) + off = (t : Int)) (hq : pc + 3 = q) (ht1 : x ≤ y → Go I Z M loc st t) (hf1 : ¬ (x ≤ y) → Go I Z M loc st q) : Go I Z M loc (vI y :: vI x :: st) pc := by
  subst hq
  intro G Hb p l e R s m args below meth c cells slots Qf hC hZ H ls locs hW hF hL hl
  obtain ⟨hx, hb, hml, hrt, hown, hlk, hts, hK, hRf, hRl, hce, hsl⟩ := id hC
  exact lv_icmp_le hx hb hd ht (fun z => ht1 z G Hb p l e R s m args below meth c cells slots Qf hC hZ H ls locs hW hF hL hl) (fun z => hf1 z G Hb p l e R s m args below meth c cells slots Qf hC hZ H ls locs hW hF hL hl)
theorem go_icmp_ne {I : KI} {Z : KZ} {M : KM} {loc : List (Option KV)} {st : List KV} {pc q t : Nat} {x y : Int32} {off : Int} (hd : decode I.2.1 pc = .ok (.if_icmp .ne off, 3)) (ht : (pc : Int) + off = (t : Int)) (hq : pc + 3 = q) (ht1 : x ≠ y → Go I Z M loc st t) (hf1 : ¬ (x ≠ y) → Go I Z M loc st q) : Go I Z M loc (vI y :: vI x :: st) pc := by
  subst hq
  intro G Hb p l e R s m args below meth c cells slots Qf hC hZ H ls locs hW hF hL hl
  obtain ⟨hx, hb, hml, hrt, hown, hlk, hts, hK, hRf, hRl, hce, hsl⟩ := id hC
  exact lv_icmp_ne hx hb hd ht (fun z => ht1 z G Hb p l e R s m args below meth c cells slots Qf hC hZ H ls locs hW hF hL hl) (fun z => hf1 (fun z2 => z2 z) G Hb p l e R s m args below meth c cells slots Qf hC hZ H ls locs hW hF hL hl)
theorem go_iload_n {I : KI} {Z : KZ} {M : KM} {loc : List (Option KV)} {st : List KV} {pc q : Nat} {k : Fin 4} {i : Nat} {x : Int32} (hd : decode I.2.1 pc = .ok (.iload_n k, 1)) (hi : (k : Nat) = i) (hv : loc[i]? = some (some (vI x))) (hq : pc + 1 = q) (h : Go I Z M loc (vI x :: st) q) : Go I Z M loc st pc := by
  subst hq
  intro G Hb p l e R s m args below meth c cells slots Qf hC hZ H ls locs hW hF hL hl
  obtain ⟨hx, hb, hml, hrt, hown, hlk, hts, hK, hRf, hRl, hce, hsl⟩ := id hC
  exact lv_iload_n hx hb hd hi (k_lc_at hl hv) (h G Hb p l e R s m args below meth c cells slots Qf hC hZ H ls locs hW hF hL hl)
theorem go_iload {I : KI} {Z : KZ} {M : KM} {loc : List (Option KV)} {st : List KV} {pc q : Nat} {i : Nat} {x : Int32} (hd : decode I.2.1 pc = .ok (.iload i, 2))  (hv : loc[i]? = some (some (vI x))) (hq : pc + 2 = q) (h : Go I Z M loc (vI x :: st) q) : Go I Z M loc st pc := by
  subst hq
  intro G Hb p l e R s m args below meth c cells slots Qf hC hZ H ls locs hW hF hL hl
  obtain ⟨hx, hb, hml, hrt, hown, hlk, hts, hK, hRf, hRl, hce, hsl⟩ := id hC
  exact lv_iload hx hb hd (k_lc_at hl hv) (h G Hb p l e R s m args below meth c cells slots Qf hC hZ H ls locs hW hF hL hl)
theorem go_dload_n {I : KI} {Z : KZ} {M : KM} {loc : List (Option KV)} {st : List KV} {pc q : Nat} {k : Fin 4} {i : Nat} {x : UInt64} (hd : decode I.2.1 pc = .ok (.dload_n k, 1)) (hi : (k : Nat) = i) (hv : loc[i]? = some (some (vD x))) (hq : pc + 1 = q) (h : Go I Z M loc (vD x :: st) q) : Go I Z M loc st pc := by
  subst hq
  intro G Hb p l e R s m args below meth c cells slots Qf hC hZ H ls locs hW hF hL hl
  obtain ⟨hx, hb, hml, hrt, hown, hlk, hts, hK, hRf, hRl, hce, hsl⟩ := id hC
  exact lv_dload_n hx hb hd hi (k_lc_at hl hv) (h G Hb p l e R s m args below meth c cells slots Qf hC hZ H ls locs hW hF hL hl)
theorem go_dload {I : KI} {Z : KZ} {M : KM} {loc : List (Option KV)} {st : List KV} {pc q : Nat} {i : Nat} {x : UInt64} (hd : decode I.2.1 pc = .ok (.dload i, 2))  (hv : loc[i]? = some (some (vD x))) (hq : pc + 2 = q) (h : Go I Z M loc (vD x :: st) q) : Go I Z M loc st pc := by
  subst hq
  intro G Hb p l e R s m args below meth c cells slots Qf hC hZ H ls locs hW hF hL hl
  obtain ⟨hx, hb, hml, hrt, hown, hlk, hts, hK, hRf, hRl, hce, hsl⟩ := id hC
  exact lv_dload hx hb hd (k_lc_at hl hv) (h G Hb p l e R s m args below meth c cells slots Qf hC hZ H ls locs hW hF hL hl)
theorem go_aload_n {I : KI} {Z : KZ} {M : KM} {loc : List (Option KV)} {st : List KV} {pc q : Nat} {k : Fin 4} {i a b : Nat} (hd : decode I.2.1 pc = .ok (.aload_n k, 1)) (hi : (k : Nat) = i) (hv : loc[i]? = some (some (vR a b))) (hq : pc + 1 = q) (h : Go I Z M loc (vR a b :: st) q) : Go I Z M loc st pc := by
  subst hq
  intro G Hb p l e R s m args below meth c cells slots Qf hC hZ H ls locs hW hF hL hl
  obtain ⟨hx, hb, hml, hrt, hown, hlk, hts, hK, hRf, hRl, hce, hsl⟩ := id hC
  exact lv_aload_n hx hb hd hi (k_lc_at hl hv) (h G Hb p l e R s m args below meth c cells slots Qf hC hZ H ls locs hW hF hL hl)
theorem go_aload {I : KI} {Z : KZ} {M : KM} {loc : List (Option KV)} {st : List KV} {pc q : Nat} {i a b : Nat} (hd : decode I.2.1 pc = .ok (.aload i, 2))  (hv : loc[i]? = some (some (vR a b))) (hq : pc + 2 = q) (h : Go I Z M loc (vR a b :: st) q) : Go I Z M loc st pc := by
  subst hq
  intro G Hb p l e R s m args below meth c cells slots Qf hC hZ H ls locs hW hF hL hl
  obtain ⟨hx, hb, hml, hrt, hown, hlk, hts, hK, hRf, hRl, hce, hsl⟩ := id hC
  exact lv_aload hx hb hd (k_lc_at hl hv) (h G Hb p l e R s m args below meth c cells slots Qf hC hZ H ls locs hW hF hL hl)
theorem go_istore_n {I : KI} {Z : KZ} {M : KM} {loc : List (Option KV)} {st : List KV} {pc q : Nat} {k : Fin 4} {i : Nat} {x : Int32} (hd : decode I.2.1 pc = .ok (.istore_n k, 1)) (hi : (k : Nat) = i) (hn : i < I.2.2.1) (hc : k_nd loc i = true) (hq : pc + 1 = q) (h : Go I Z M (loc.set i (some (vI x))) st q) : Go I Z M loc (vI x :: st) pc := by
  subst hq
  intro G Hb p l e R s m args below meth c cells slots Qf hC hZ H ls locs hW hF hL hl
  obtain ⟨hx, hb, hml, hrt, hown, hlk, hts, hK, hRf, hRl, hce, hsl⟩ := id hC
  exact lv_istore_n hx hb hd hi hl hn rfl (fun ls' hl' => h G Hb p l e R s m args below meth c cells slots Qf hC hZ H ls' locs hW hF hL (k_lc_set hc hl'))
theorem go_istore {I : KI} {Z : KZ} {M : KM} {loc : List (Option KV)} {st : List KV} {pc q : Nat} {i : Nat} {x : Int32} (hd : decode I.2.1 pc = .ok (.istore i, 2))  (hn : i < I.2.2.1) (hc : k_nd loc i = true) (hq : pc + 2 = q) (h : Go I Z M (loc.set i (some (vI x))) st q) : Go I Z M loc (vI x :: st) pc := by
  subst hq
  intro G Hb p l e R s m args below meth c cells slots Qf hC hZ H ls locs hW hF hL hl
  obtain ⟨hx, hb, hml, hrt, hown, hlk, hts, hK, hRf, hRl, hce, hsl⟩ := id hC
  exact lv_istore hx hb hd hl hn rfl (fun ls' hl' => h G Hb p l e R s m args below meth c cells slots Qf hC hZ H ls' locs hW hF hL (k_lc_set hc hl'))
theorem go_astore_n {I : KI} {Z : KZ} {M : KM} {loc : List (Option KV)} {st : List KV} {pc q : Nat} {k : Fin 4} {i a b : Nat} (hd : decode I.2.1 pc = .ok (.astore_n k, 1)) (hi : (k : Nat) = i) (hn : i < I.2.2.1) (hc : k_nd loc i = true) (hq : pc + 1 = q) (h : Go I Z M (loc.set i (some (vR a b))) st q) : Go I Z M loc (vR a b :: st) pc := by
  subst hq
  intro G Hb p l e R s m args below meth c cells slots Qf hC hZ H ls locs hW hF hL hl
  obtain ⟨hx, hb, hml, hrt, hown, hlk, hts, hK, hRf, hRl, hce, hsl⟩ := id hC
  exact lv_astore_n hx hb hd hi hl hn rfl (fun ls' hl' => h G Hb p l e R s m args below meth c cells slots Qf hC hZ H ls' locs hW hF hL (k_lc_set hc hl'))
theorem go_astore {I : KI} {Z : KZ} {M : KM} {loc : List (Option KV)} {st : List KV} {pc q : Nat} {i a b : Nat} (hd : decode I.2.1 pc = .ok (.astore i, 2))  (hn : i < I.2.2.1) (hc : k_nd loc i = true) (hq : pc + 2 = q) (h : Go I Z M (loc.set i (some (vR a b))) st q) : Go I Z M loc (vR a b :: st) pc := by
  subst hq
  intro G Hb p l e R s m args below meth c cells slots Qf hC hZ H ls locs hW hF hL hl
  obtain ⟨hx, hb, hml, hrt, hown, hlk, hts, hK, hRf, hRl, hce, hsl⟩ := id hC
  exact lv_astore hx hb hd hl hn rfl (fun ls' hl' => h G Hb p l e R s m args below meth c cells slots Qf hC hZ H ls' locs hW hF hL (k_lc_set hc hl'))
theorem go_iinc {I : KI} {Z : KZ} {M : KM} {loc : List (Option KV)} {st : List KV} {pc q : Nat} {i : Nat} {n : Int} {x v : Int32} (hd : decode I.2.1 pc = .ok (.iinc i n, 3)) (hv : Int32.ofInt n = v) (hx0 : loc[i]? = some (some (vI x))) (hn : i < I.2.2.1) (hc : k_nd loc i = true) (hq : pc + 3 = q) (h : Go I Z M (loc.set i (some (vI (x + v)))) st q) : Go I Z M loc st pc := by
  subst hq; subst hv
  intro G Hb p l e R s m args below meth c cells slots Qf hC hZ H ls locs hW hF hL hl
  obtain ⟨hx, hb, hml, hrt, hown, hlk, hts, hK, hRf, hRl, hce, hsl⟩ := id hC
  obtain ⟨k, hk⟩ := List.mem_iff_getElem?.mp ((k_lc_mem loc 0 (i, .int x)).mpr ⟨i, vI x, hx0, by simp [k_cv]⟩)
  exact lv_iinc hx hb hd hl hk rfl hn rfl (fun ls' hl' => h G Hb p l e R s m args below meth c cells slots Qf hC hZ H ls' locs hW hF hL (k_lc_set hc hl'))
theorem go_ireti {I : KI} {Q : Option KV → KM → Prop} {M : KM} {loc : List (Option KV)} {pc : Nat} {x : Int32} (hd : decode I.2.1 pc = .ok (.ireturn, 1)) (hr : I.2.2.2.1 = some .int)  (h : Q (some (vI x)) M) : Go I (Zm Q) M loc ([vI x]) pc := by
  intro G Hb p l e R s m args below meth c cells slots Qf hC hZ H ls locs hW hF hL hl
  obtain ⟨hx, hb, hml, hrt, hown, hlk, hts, hK, hRf, hRl, hce, hsl⟩ := id hC
  obtain ⟨rfl, rfl, rfl, rfl⟩ := hZ
  exact W.iret hx hb (hrt.trans hr) (fun t ht _ => ⟨⟨_, M, h, rfl, by rw [ht]; exact hW⟩, by rw [ht]; exact hF⟩) hL hd (hlocks := hlk)
theorem go_iretz {I : KI} {Q : Option KV → KM → Prop} {M : KM} {loc : List (Option KV)} {pc : Nat} {x : Int32} (hd : decode I.2.1 pc = .ok (.ireturn, 1)) (hr : I.2.2.2.1 = some .boolean) (hz : narrow .boolean (.int x) = .int x) (h : Q (some (vI x)) M) : Go I (Zm Q) M loc ([vI x]) pc := by
  intro G Hb p l e R s m args below meth c cells slots Qf hC hZ H ls locs hW hF hL hl
  obtain ⟨hx, hb, hml, hrt, hown, hlk, hts, hK, hRf, hRl, hce, hsl⟩ := id hC
  obtain ⟨rfl, rfl, rfl, rfl⟩ := hZ
  exact W.zret hx hb (hrt.trans hr) hz (fun t ht _ => ⟨⟨_, M, h, rfl, by rw [ht]; exact hW⟩, by rw [ht]; exact hF⟩) hL hd (hlocks := hlk)
theorem go_vret {I : KI} {Q : Option KV → KM → Prop} {M : KM} {loc : List (Option KV)} {pc : Nat}  (hd : decode I.2.1 pc = .ok (.return_, 1)) (hr : I.2.2.2.1 = none)  (h : Q (none) M) : Go I (Zm Q) M loc ([]) pc := by
  intro G Hb p l e R s m args below meth c cells slots Qf hC hZ H ls locs hW hF hL hl
  obtain ⟨hx, hb, hml, hrt, hown, hlk, hts, hK, hRf, hRl, hce, hsl⟩ := id hC
  obtain ⟨rfl, rfl, rfl, rfl⟩ := hZ
  exact W.vret hx hb (hrt.trans hr) (fun t ht _ => ⟨⟨_, M, h, rfl, by rw [ht]; exact hW⟩, by rw [ht]; exact hF⟩) hL hd (hlocks := hlk)
theorem go_dret {I : KI} {Q : Option KV → KM → Prop} {M : KM} {loc : List (Option KV)} {pc : Nat} {x : UInt64} (hd : decode I.2.1 pc = .ok (.dreturn, 1)) (hr : I.2.2.2.1 = some .double)  (h : Q (some (vD x)) M) : Go I (Zm Q) M loc ([vD x]) pc := by
  intro G Hb p l e R s m args below meth c cells slots Qf hC hZ H ls locs hW hF hL hl
  obtain ⟨hx, hb, hml, hrt, hown, hlk, hts, hK, hRf, hRl, hce, hsl⟩ := id hC
  obtain ⟨rfl, rfl, rfl, rfl⟩ := hZ
  exact W.dret hx hb (hrt.trans hr) (fun t ht _ => ⟨⟨_, M, h, rfl, by rw [ht]; exact hW⟩, by rw [ht]; exact hF⟩) hL hd (hlocks := hlk)
theorem go_aret {I : KI} {Q : Option KV → KM → Prop} {M : KM} {loc : List (Option KV)} {pc : Nat} {a b : Nat} {C : String} (hd : decode I.2.1 pc = .ok (.areturn, 1)) (hr : I.2.2.2.1 = some (.object C))  (h : Q (some (vR a b)) M) : Go I (Zm Q) M loc ([vR a b]) pc := by
  intro G Hb p l e R s m args below meth c cells slots Qf hC hZ H ls locs hW hF hL hl
  obtain ⟨hx, hb, hml, hrt, hown, hlk, hts, hK, hRf, hRl, hce, hsl⟩ := id hC
  obtain ⟨rfl, rfl, rfl, rfl⟩ := hZ
  exact W.aret hx hb (hrt.trans hr) (Or.inl ⟨C, rfl⟩) (Or.inr ⟨_, rfl⟩) (fun t ht _ => ⟨⟨_, M, h, rfl, by rw [ht]; exact hW⟩, by rw [ht]; exact hF⟩) hL hd (hlocks := hlk)
/-- a field's site: in the class own, entry idx: field j of class ci -/
def KF (own : String) (idx ci j : Nat) : Prop := ∃ (C : String) (T : u_T) (N : Nat), vwCl[ci]? = some (C, T, N) ∧ j < N ∧ (∀ w ∈ u_ws C T N, w ∈ k_tb) ∧ Cond.fieldLink own idx (T j).1 (T j).2.1 (T j).2.2.1 ∈ k_tb
def KP (own : String) (idx ci j : Nat) (ty : FieldType) : Prop := ∃ (C : String) (T : u_T) (N : Nat) (ty0 : Nat → FieldType), vwCl[ci]? = some (C, T, N) ∧ j < N ∧ (∀ w ∈ u_ws C T N, w ∈ k_tb) ∧ Cond.fieldLink own idx (T j).1 (T j).2.1 (T j).2.2.1 ∈ k_tb ∧ (∀ k, k < N → parseFieldDescriptor (T k).2.2.1 = some (ty0 k)) ∧ (∀ a, a < N → ∀ b, b < N → a ≠ b → (T a).2.1 ≠ (T b).2.1) ∧ (T j).2.2.2 = false ∧ parseFieldDescriptor (T j).2.2.1 = some ty
theorem go_getf {I : KI} {Z : KZ} {M : KM} {loc : List (Option KV)} {st : List KV} {pc q idx ci j k i : Nat} {v : KV} (hd : decode I.2.1 pc = .ok (.getfield idx, 3)) (hs : KF I.1.cls idx ci j) (ho : k_oc k = some ci) (hi : i < k_cnt k) (hv : (k_fl k i (M.1 k i) M.2.2)[j]? = some v) (hq : pc + 3 = q) (h : Go I Z M loc (v :: st) q) : Go I Z M loc (vR k i :: st) pc := by
  subst hq
  intro G Hb p l e R s m args below meth c cells slots Qf hC hZ H ls locs hW hF hL hl
  obtain ⟨hx, hb, hml, hrt, hown, hlk, hts, hK, hRf, hRl, hce, hsl⟩ := id hC
  obtain ⟨C, T, N, hc, hj, hin, hlk2⟩ := hs
  have hat := hW k i hi
  rw [k_ce_obj ho] at hat
  exact va_get hx hb hts hin hown hK (k_P1 hat) 0 rfl hc j hj (hts _ hlk2) (fun _ h => h) (by rw [List.getElem?_map, hv]; rfl) hd (h G Hb p l e R s m args below meth c cells slots Qf hC hZ H ls locs hW hF hL hl)
theorem k_kinds : ∀ k, k < 14 → k_oc k = none → k_ar k = none → k ≠ 8 → k = 3 ∨ k = 13 := by decide +kernel
def k_si (M : KM) (k i j : Nat) (v : Int32) : KM := (fun a b c => if a = k ∧ c = j ∧ b = i then v else M.1 a b c, M.2)
def k_sl (M : KM) (i j : Nat) (v : Int64) : KM := (M.1, (fun b c => if b = i ∧ c = j then v else M.2.1 b c), M.2.2)
def k_sr (M : KM) (a j v : Nat) : KM := (M.1, M.2.1, fun b c => if b = a ∧ c = j then v else M.2.2 b c)
theorem k_si_self (M : KM) (k i j : Nat) (v : Int32) : (k_si M k i j v).1 k i = upd (M.1 k i) j v := by
  funext c
  simp [k_si, upd]
theorem k_si_ne (M : KM) {k i j k' i' : Nat} (v : Int32) (h : ¬ (k' = k ∧ i' = i)) : (k_si M k i j v).1 k' i' = M.1 k' i' := by
  funext c
  show (if k' = k ∧ c = j ∧ i' = i then v else M.1 k' i' c) = _
  rw [if_neg (fun z => h ⟨z.1, z.2.2⟩)]
theorem k_HW_put {G : KG} {M M' : KM} {H H1 : Heap} {k i : Nat} (hW : k_HW G M H) (hi : i < k_cnt k) (oq : ∀ q : Nat, q ≠ G.1 + k_off k i → H1[q]? = H[q]?)
    (hat : va_at G.2.1 vwCl (G.1 + k_off k i, k_ce G k i (M'.1 k i) (M'.2.1 i) M'.2.2) H1)
    (hs : ∀ k' i', i' < k_cnt k' → ¬ (k' = k ∧ i' = i) → k_ce G k' i' (M'.1 k' i') (M'.2.1 i') M'.2.2 = k_ce G k' i' (M.1 k' i') (M.2.1 i') M.2.2) : k_HW G M' H1 := by
  intro k' i' hi'
  by_cases h : k' = k ∧ i' = i
  · obtain ⟨rfl, rfl⟩ := h
    exact hat
  · rw [hs k' i' hi' h]
    refine (hW k' i' hi').kept (oq _ ?_)
    intro e
    have e' : G.1 + k_off k' i' = G.1 + k_off k i := e
    exact h (k_off_inj hi' hi (by omega))
theorem k_FR_put {G : KG} {Hb H H1 : Heap} {k i : Nat} (hF : k_FR G Hb H) (hi : i < k_cnt k) (z : H1.size = H.size) (oq : ∀ q : Nat, q ≠ G.1 + k_off k i → H1[q]? = H[q]?) : k_FR G Hb H1 := by
  refine ⟨z.trans hF.1, fun q hq => ?_⟩
  rw [oq q (fun e => hq (by rw [e]; exact ⟨Nat.le_add_right _ _, Nat.add_lt_add_left (k_off_lt hi) _⟩))]
  exact hF.2 q hq
theorem k_L_put {G : KG} {locs : List Loc} {k i t : Nat} (hL : ∀ q ∈ locs, k_rng G q.base) (hi : i < k_cnt k) : ∀ q ∈ locs ++ [(⟨G.1 + k_off k i, t⟩ : Loc)], k_rng G q.base := by
  intro q hq
  rcases List.mem_append.mp hq with h | h
  · exact hL q h
  · rw [List.mem_singleton.mp h]
    exact ⟨Nat.le_add_right _ _, Nat.add_lt_add_left (k_off_lt hi) _⟩
theorem k_fl_set {k i j : Nat} {f : Nat → Int32} {r : Nat → Nat → Nat} {v : Int32} (h : k_nf k j = true) : k_fl k i (upd f j v) r = (k_fl k i f r).set j (vI v) := by
  unfold k_nf at h
  split at h
  · have h2 : 6 ≤ j ∧ j ≤ 9 := by simpa using h
    rcases (show j = 6 ∨ j = 7 ∨ j = 8 ∨ j = 9 by omega) with rfl | rfl | rfl | rfl <;> rfl
  · have h2 : 5 ≤ j ∧ j ≤ 7 := by simpa using h
    rcases (show j = 5 ∨ j = 6 ∨ j = 7 by omega) with rfl | rfl | rfl <;> rfl
  · have h2 : j = 1 := by simpa using h
    subst h2; rfl
  · have h2 : j = 1 := by simpa using h
    subst h2; rfl
  · cases h
theorem k_fl_r {k i : Nat} {f : Nat → Int32} {r r' : Nat → Nat → Nat} (h : ∀ c, r 11 c = r' 11 c) : k_fl k i f r = k_fl k i f r' := by
  unfold k_fl
  split <;> simp [h]
section KPut
variable {p : Program} {l : Launch} {e : Env} {R : Room} {s : State} {m : MethodId} {args : Array Value} {below : List Frame} {meth : Method} {c : Code} {H : Heap} {locs : List Loc} {cells slots : Nat} {Q : State → Prop}
variable {cc : ByteArray} {pc : Nat} {ls : Array Slot} {rest : List Value} {D : va_G} {cl : List vw_C} {a : Nat} {tys : List (ClassId × FieldType)}
theorem k_putW (hexec : p.tables.exec = Jvm.exec) (hb : c.code = cc) {own C : String} {T : u_T} {N ci index : Nat} {Ts : List Cond} (hts : ∀ w ∈ Ts, w.before args s = true) (hin : ∀ w ∈ u_ws C T N, w ∈ Ts) (ty0 : Nat → FieldType) (hty : ∀ k, k < N → parseFieldDescriptor (T k).2.2.1 = some (ty0 k)) (hnm : ∀ a, a < N → ∀ b, b < N → a ≠ b → (T a).2.1 ≠ (T b).2.1) (hown : s.vm.findClass own = some m.cls) (hK : va_K D cl tys s) {fs : List Value} (hat : va_at D cl (a, .inr (ci, fs)) H) (hc : cl[ci]? = some (C, T, N)) (k : Nat) (hk : k < N) (hlink : (Cond.fieldLink own index (T k).1 (T k).2.1 (T k).2.2.1).before args s = true) (hfin : (T k).2.2.2 = false) {ty : FieldType} {v : Value} (hd : parseFieldDescriptor (T k).2.2.1 = some ty) (hn : narrow ty v = v) (hfit : fits ty v = true) (hl : k < fs.length)
    (hdg : decode cc pc = .ok (.putfield index, 3)) (kk : ∀ (H1 : Heap) (j : Nat), va_at D cl (a, .inr (ci, fs.set k v)) H1 → H1.size = H.size → (∀ q, q ≠ a → H1[q]? = H[q]?) → W p l e R s m args below meth c H1 (locs ++ [⟨a, j⟩]) cells slots Q (F0 m (pc + 3) ls rest)) : W p l e R s m args below meth c H locs cells slots Q (F0 m pc ls (v :: .ref a :: rest)) := by
  have hap := va_apart (own := own) hts hin ty0 hty hnm hK hc
  obtain ⟨r, h1, cell, q1, q2, q3, q4⟩ := hat
  have hr : r = (C, T, N) := Option.some.inj (h1.symm.trans hc)
  subst hr
  obtain ⟨hS, hfc, kC, hkC, hkind⟩ := hK.1 ci _ hc
  obtain ⟨cf, kf, fi, f, hi, hsl⟩ := hS k hk
  have hlay := hts _ (hin _ (u_in_lay hk))
  unfold u_lay at hlay
  rw [if_neg (by rw [hfin]; decide)] at hlay
  have hst := (u_facts hfc hkC (u_lays hts hin hk) hi).1
  have h6 := u_store hfc hkC hkind hlay hi hd hn hfit
  refine W.putK hexec hb (f := f) ⟨hown, hlink, ⟨_, _, _, hi⟩, hst⟩ (by rw [q2]; exact h6) q1 q3 (by rw [hsl]; exact k2_hasslot (q4 k hk)) rfl rfl hdg fun H' e1 e2 e3 => ?_
  rw [hsl] at e1
  exact kk H' _ ⟨_, hc, t_OB.to (V := updV (vp_V fs) k v) ⟨_, e1, q2, q3, t_set q4 hap hk v⟩ (fun j _ => vp_updV_set hl v j)⟩ e2 e3
end KPut
theorem go_puti {I : KI} {Z : KZ} {M : KM} {loc : List (Option KV)} {st : List KV} {pc q idx ci j k i : Nat} {v : Int32} {ty : FieldType} (hd : decode I.2.1 pc = .ok (.putfield idx, 3)) (hs : KP I.1.cls idx ci j ty) (ho : k_oc k = some ci) (hi : i < k_cnt k) (hnf : k_nf k j = true) (hn : narrow ty (.int v) = .int v) (hfit : fits ty (.int v) = true) (hl2 : j < (k_fl k i (M.1 k i) M.2.2).length) (hq : pc + 3 = q) (h : Go I Z (k_si M k i j v) loc st q) : Go I Z M loc (vI v :: vR k i :: st) pc := by
  subst hq
  intro G Hb p l e R s m args below meth c cells slots Qf hC hZ H ls locs hW hF hL hl
  obtain ⟨hx, hb, hml, hrt, hown, hlk, hts, hK, hRf, hRl, hce, hsl⟩ := id hC
  obtain ⟨C, T, N, ty0, hc, hj, hin, hlk2, hty, hnm, hfin, hpd⟩ := hs
  have hat := hW k i hi
  rw [k_ce_obj ho] at hat
  refine k_putW hx hb hts hin ty0 hty hnm hown hK hat hc j hj (hts _ hlk2) hfin hpd hn hfit (by rw [List.length_map]; exact hl2) hd (fun H1 t hat1 z oq => ?_)
  refine h G Hb p l e R s m args below meth c cells slots Qf hC hZ H1 ls _ (k_HW_put hW hi oq ?_ ?_) (k_FR_put hF hi z oq) (k_L_put hL hi) hl
  · rw [k_ce_obj ho, k_si_self]
    show va_at _ _ (_, .inr (ci, (k_fl k i (upd (M.1 k i) j v) M.2.2).map _)) _
    rw [k_fl_set hnf, List.map_set]
    exact hat1
  · intro k' i' _ hne
    rw [k_si_ne M v hne]
    rfl
theorem go_putr {I : KI} {Z : KZ} {M : KM} {loc : List (Option KV)} {st : List KV} {pc q idx j v : Nat} (hd : decode I.2.1 pc = .ok (.putfield idx, 3)) (hs : KP I.1.cls idx 1 j (.object RX7)) (hj2 : j = 1 ∨ j = 2) (hq : pc + 3 = q) (h : Go I Z (k_sr M 11 j v) loc st q) : Go I Z M loc (vR 12 v :: vR 11 0 :: st) pc := by
  subst hq
  intro G Hb p l e R s m args below meth c cells slots Qf hC hZ H ls locs hW hF hL hl
  obtain ⟨hx, hb, hml, hrt, hown, hlk, hts, hK, hRf, hRl, hce, hsl⟩ := id hC
  obtain ⟨C, T, N, ty0, hc, hj, hin, hlk2, hty, hnm, hfin, hpd⟩ := hs
  have hi : 0 < k_cnt 11 := by decide
  have hat := hW 11 0 hi
  rw [k_ce_obj (ci := 1) rfl] at hat
  refine k_putW hx hb hts hin ty0 hty hnm hown hK hat hc j hj (hts _ hlk2) hfin hpd rfl rfl (by rw [List.length_map]; rcases hj2 with rfl | rfl <;> exact Nat.le_of_ble_eq_true rfl) hd (fun H1 t hat1 z oq => ?_)
  refine h G Hb p l e R s m args below meth c cells slots Qf hC hZ H1 ls _ (k_HW_put hW hi oq ?_ ?_) (k_FR_put hF hi z oq) (k_L_put hL hi) hl
  · rw [k_ce_obj (ci := 1) rfl]
    rcases hj2 with rfl | rfl <;> exact hat1
  · intro k' i' _ hne
    have hk : ¬ k' = 11 ∨ ¬ i' = 0 := by
      by_cases z1 : k' = 11
      · exact Or.inr (fun z2 => hne ⟨z1, z2⟩)
      · exact Or.inl z1
    by_cases hk11 : k' = 11
    · subst hk11
      exfalso
      have : i' < 1 := by assumption
      omega
    · show k_ce G k' i' (M.1 k' i') (M.2.1 i') _ = _
      unfold k_ce
      have h8 : ∀ c, (k_sr M 11 j v).2.2 8 c = M.2.2 8 c := fun c => by simp [k_sr]
      have hfl : k_fl k' i' (M.1 k' i') (k_sr M 11 j v).2.2 = k_fl k' i' (M.1 k' i') M.2.2 := by
        unfold k_fl
        split <;> first | rfl | exact absurd rfl hk11
      simp only [h8, hfl]
theorem go_iald {I : KI} {Z : KZ} {M : KM} {loc : List (Option KV)} {st : List KV} {pc q k i n : Nat} (j : Nat) {x : Int32} (hd : decode I.2.1 pc = .ok (.iaload, 1)) (ho : k_oc k = none) (ha : k_ar k = some n) (hi : i < k_cnt k) (hxj : x = nI j) (hj : j < n) (hq : pc + 1 = q) (h : Go I Z M loc (vI (M.1 k i j) :: st) q) : Go I Z M loc (vI x :: vR k i :: st) pc := by
  subst hq; subst hxj
  intro G Hb p l e R s m args below meth c cells slots Qf hC hZ H ls locs hW hF hL hl
  obtain ⟨hx, hb, hml, hrt, hown, hlk, hts, hK, hRf, hRl, hce, hsl⟩ := id hC
  have hn : n ≤ 15625 := by
    unfold k_ar at ha
    split at ha <;> first | (cases ha; decide) | cases ha
  have hat := hW k i hi
  rw [k_ce_ar ho ha] at hat
  have k0 := (h G Hb p l e R s m args below meth c cells slots Qf hC hZ H ls locs hW hF hL hl)
  have hcl : (nI j).toNatClampNeg = j := nI_clamp (by omega)
  refine va_iald hx hb hK (k_P1 hat) 0 0 rfl rfl (vp_in_nI hj (by omega)) hd ?_
  rw [hcl]
  exact k0
theorem go_zald {I : KI} {Z : KZ} {M : KM} {loc : List (Option KV)} {st : List KV} {pc q i : Nat} (j : Nat) {x : Int32} (hd : decode I.2.1 pc = .ok (.baload, 1)) (hi : i < 8) (hxj : x = nI j) (hj : j < 20) (hq : pc + 1 = q) (h : Go I Z M loc (vI (M.1 3 i j) :: st) q) : Go I Z M loc (vI x :: vR 3 i :: st) pc := by
  subst hq; subst hxj
  intro G Hb p l e R s m args below meth c cells slots Qf hC hZ H ls locs hW hF hL hl
  obtain ⟨hx, hb, hml, hrt, hown, hlk, hts, hK, hRf, hRl, hce, hsl⟩ := id hC
  have hat : va_at G.2.1 vwCl (G.1 + k_off 3 i, .inl (G.2.2.2.1, 20, .inl (M.1 3 i))) H := hW 3 i hi
  have k0 := (h G Hb p l e R s m args below meth c cells slots Qf hC hZ H ls locs hW hF hL hl)
  have hcl : (nI j).toNatClampNeg = j := nI_clamp (by omega)
  refine va_zald hx hb hK (k_P1 hat) 0 1 rfl rfl (vp_in_nI hj (by omega)) hd ?_
  rw [hcl]
  exact k0
theorem go_lald {I : KI} {Z : KZ} {M : KM} {loc : List (Option KV)} {st : List KV} {pc q i : Nat} (j : Nat) {x : Int32} (hd : decode I.2.1 pc = .ok (.laload, 1)) (hi : i < 3) (hxj : x = nI j) (hj : j < 245) (hq : pc + 1 = q) (h : Go I Z M loc (vJ (M.2.1 i j) :: st) q) : Go I Z M loc (vI x :: vR 13 i :: st) pc := by
  subst hq; subst hxj
  intro G Hb p l e R s m args below meth c cells slots Qf hC hZ H ls locs hW hF hL hl
  obtain ⟨hx, hb, hml, hrt, hown, hlk, hts, hK, hRf, hRl, hce, hsl⟩ := id hC
  have hat : va_at G.2.1 vwCl (G.1 + k_off 13 i, .inl (G.2.2.2.2.1, 245, .inr (.inl (M.2.1 i)))) H := hW 13 i hi
  have k0 := (h G Hb p l e R s m args below meth c cells slots Qf hC hZ H ls locs hW hF hL hl)
  have hcl : (nI j).toNatClampNeg = j := nI_clamp (by omega)
  refine va_lald hx hb hK (k_P1 hat) 0 2 rfl rfl (vp_in_nI hj (by omega)) hd ?_
  rw [hcl]
  exact k0
theorem go_aald {I : KI} {Z : KZ} {M : KM} {loc : List (Option KV)} {st : List KV} {pc q : Nat} (j : Nat) {x : Int32} (hd : decode I.2.1 pc = .ok (.aaload, 1)) (hxj : x = nI j) (hj : j < 5) (hq : pc + 1 = q) (h : Go I Z M loc (vR 1 (M.2.2 8 j) :: st) q) : Go I Z M loc (vI x :: vR 8 0 :: st) pc := by
  subst hq; subst hxj
  intro G Hb p l e R s m args below meth c cells slots Qf hC hZ H ls locs hW hF hL hl
  obtain ⟨hx, hb, hml, hrt, hown, hlk, hts, hK, hRf, hRl, hce, hsl⟩ := id hC
  have hat : va_at G.2.1 vwCl (G.1 + k_off 8 0, .inl (G.2.2.2.2.2, 5, .inr (.inr (.inr (.inr (fun j => some (G.1 + k_off 1 (M.2.2 8 j)))))))) H := hW 8 0 (by decide)
  have k0 := (h G Hb p l e R s m args below meth c cells slots Qf hC hZ H ls locs hW hF hL hl)
  have hcl : (nI j).toNatClampNeg = j := nI_clamp (by omega)
  refine va_aldq hx hb hK (k_P1 hat) 0 3 rfl rfl (vp_in_nI hj (by omega)) hd ?_
  rw [hcl]
  exact k0
theorem go_iast {I : KI} {Z : KZ} {M : KM} {loc : List (Option KV)} {st : List KV} {pc q k i n : Nat} (j : Nat) {x v : Int32} (hd : decode I.2.1 pc = .ok (.iastore, 1)) (ho : k_oc k = none) (ha : k_ar k = some n) (hi : i < k_cnt k) (hxj : x = nI j) (hj : j < n) (hq : pc + 1 = q) (h : Go I Z (k_si M k i j v) loc st q) : Go I Z M loc (vI v :: vI x :: vR k i :: st) pc := by
  subst hq; subst hxj
  intro G Hb p l e R s m args below meth c cells slots Qf hC hZ H ls locs hW hF hL hl
  obtain ⟨hx, hb, hml, hrt, hown, hlk, hts, hK, hRf, hRl, hce, hsl⟩ := id hC
  have hn : n ≤ 15625 := by
    unfold k_ar at ha
    split at ha <;> first | (cases ha; decide) | cases ha
  have hat := hW k i hi
  rw [k_ce_ar ho ha] at hat
  have hcl : (nI j).toNatClampNeg = j := nI_clamp (by omega)
  refine W.iast hx hb hat ((hK.2 0 _ rfl).1 n (fun j => .int (M.1 k i j))) (fun q => by cases q) (by show ¬ (nI j < 0 ∨ (arrV _ _ _).slots.size ≤ _); rw [arrV_size]; exact vp_in_nI (N := n) hj (by omega)) rfl rfl hd fun H1 e1 z oq => ?_
  refine h G Hb p l e R s m args below meth c cells slots Qf hC hZ H1 ls _ (k_HW_put hW hi oq ?_ ?_) (k_FR_put hF hi z oq) (k_L_put hL hi) hl
  · rw [k_ce_ar ho ha, k_si_self]
    show H1[_]? = some (vp_cell _ _)
    rw [e1, hcl]
    rw [vp_cell_i, vp_cell_i, arrV_store]
    congr 2
    funext q
    by_cases hq : q = j <;> simp [updV, upd, hq]
  · intro k' i' _ hne
    rw [k_si_ne M v hne]
    rfl
theorem go_zast {I : KI} {Z : KZ} {M : KM} {loc : List (Option KV)} {st : List KV} {pc q i : Nat} (j : Nat) {x v : Int32} (hd : decode I.2.1 pc = .ok (.bastore, 1)) (hi : i < 8) (hxj : x = nI j) (hj : j < 20) (hv : narrow .boolean (.int v) = .int v) (hq : pc + 1 = q) (h : Go I Z (k_si M 3 i j v) loc st q) : Go I Z M loc (vI v :: vI x :: vR 3 i :: st) pc := by
  subst hq; subst hxj
  intro G Hb p l e R s m args below meth c cells slots Qf hC hZ H ls locs hW hF hL hl
  obtain ⟨hx, hb, hml, hrt, hown, hlk, hts, hK, hRf, hRl, hce, hsl⟩ := id hC
  have hat : va_at G.2.1 vwCl (G.1 + k_off 3 i, .inl (G.2.2.2.1, 20, .inl (M.1 3 i))) H := hW 3 i hi
  have hcl : (nI j).toNatClampNeg = j := nI_clamp (by omega)
  refine W.zast hx hb hat ((hK.2 1 _ rfl).1 20 (fun j => .int (M.1 3 i j))) (fun q => by cases q) (by show ¬ (nI j < 0 ∨ (arrV _ _ _).slots.size ≤ _); rw [arrV_size]; exact vp_in_nI (N := 20) hj (by decide)) rfl rfl hd fun H1 e1 z oq => ?_
  refine h G Hb p l e R s m args below meth c cells slots Qf hC hZ H1 ls _ (k_HW_put hW hi oq ?_ ?_) (k_FR_put hF hi z oq) (k_L_put hL hi) hl
  · show va_at _ _ (_, .inl (G.2.2.2.1, 20, .inl ((k_si M 3 i j v).1 3 i))) _
    rw [k_si_self]
    show H1[_]? = some (vp_cell _ _)
    rw [e1, hcl, hv]
    rw [vp_cell_i, vp_cell_i, arrV_store]
    congr 2
    funext q
    by_cases hq : q = j <;> simp [updV, upd, hq]
  · intro k' i' _ hne
    rw [k_si_ne M v hne]
    rfl
section KLast
variable {p : Program} {l : Launch} {e : Env} {R : Room} {s : State} {m : MethodId} {args : Array Value} {below : List Frame} {meth : Method} {c : Code} {H : Heap} {locs : List Loc} {cells slots : Nat} {Q : State → Prop}
variable {cc : ByteArray} {pc : Nat} {ls : Array Slot} {rest : List Value} {a : Nat}
theorem k_last0 (hexec : p.tables.exec = Jvm.exec) (hb : c.code = cc) {cA : ClassId} {n j : Nat} {f : Nat → Int64} {v : Int64} (hc : H[a]? = some (vp_cell cA (n, .inr (.inl f)))) (hA : ArrOfT s cA .long) (hj : j < n) (hn : n < 2 ^ 31) (hd : decode cc pc = .ok (.lastore, 1))
    (kk : ∀ H1 : Heap, H1[a]? = some (vp_cell cA (n, .inr (.inl (vp_updL f j v)))) → H1.size = H.size → (∀ q, q ≠ a → H1[q]? = H[q]?) → W p l e R s m args below meth c H1 (locs ++ [⟨a, j⟩]) cells slots Q (F0 m (pc + 1) ls rest)) : W p l e R s m args below meth c H locs cells slots Q (F0 m pc ls (.long v :: .int (nI j) :: .ref a :: rest)) := by
  have hcl : (nI j).toNatClampNeg = j := nI_clamp (by omega)
  refine W.last hexec hb hc (hA n (fun j => .long (f j))) (fun q => by cases q) (by show ¬ (nI j < 0 ∨ (arrV _ _ _).slots.size ≤ _); rw [arrV_size]; exact vp_in_nI (N := n) hj hn) rfl rfl hd fun H1 e1 z oq => ?_
  rw [hcl] at e1 ⊢
  refine kk H1 ?_ z oq
  rw [e1]
  rw [vp_cell_l, vp_cell_l, arrV_store]
  congr 2
  funext q
  by_cases hq : q = j <;> simp [updV, vp_updL, hq]
end KLast
theorem k_sl_self (M : KM) (i j : Nat) (v : Int64) : (k_sl M i j v).2.1 i = vp_updL (M.2.1 i) j v := by
  funext c
  simp [k_sl, vp_updL]
theorem go_last {I : KI} {Z : KZ} {M : KM} {loc : List (Option KV)} {st : List KV} {pc q i : Nat} (j : Nat) {x : Int32} {v : Int64} (hd : decode I.2.1 pc = .ok (.lastore, 1)) (hi : i < 3) (hxj : x = nI j) (hj : j < 245) (hq : pc + 1 = q) (h : Go I Z (k_sl M i j v) loc st q) : Go I Z M loc (vJ v :: vI x :: vR 13 i :: st) pc := by
  subst hq; subst hxj
  intro G Hb p l e R s m args below meth c cells slots Qf hC hZ H ls locs hW hF hL hl
  obtain ⟨hx, hb, hml, hrt, hown, hlk, hts, hK, hRf, hRl, hce, hsl⟩ := id hC
  have hat : va_at G.2.1 vwCl (G.1 + k_off 13 i, .inl (G.2.2.2.2.1, 245, .inr (.inl (M.2.1 i)))) H := hW 13 i hi
  refine k_last0 hx hb hat (hK.2 2 _ rfl).1 hj (by decide) hd fun H1 e1 z oq => ?_
  refine h G Hb p l e R s m args below meth c cells slots Qf hC hZ H1 ls _ (k_HW_put (k := 13) (i := i) hW hi oq ?_ ?_) (k_FR_put (k := 13) (i := i) hF hi z oq) (k_L_put (k := 13) (i := i) hL hi) hl
  · show va_at _ _ (_, .inl (G.2.2.2.2.1, 245, .inr (.inl ((k_sl M i j v).2.1 i)))) H1
    rw [k_sl_self]
    exact e1
  · intro k' i' hi' hne
    show k_ce G k' i' (M.1 k' i') ((k_sl M i j v).2.1 i') M.2.2 = _
    by_cases h1 : i' = i
    · have h13 : ¬ k' = 13 := fun z => hne ⟨z, h1⟩
      unfold k_ce
      simp [h13]
    · have h2 : (k_sl M i j v).2.1 i' = M.2.1 i' := by funext c; simp [k_sl, h1]
      rw [h2]
theorem go_aast {I : KI} {Z : KZ} {M : KM} {loc : List (Option KV)} {st : List KV} {pc q v : Nat} (j : Nat) {x : Int32} (hd : decode I.2.1 pc = .ok (.aastore, 1)) (hv8 : v < 8) (hxj : x = nI j) (hj : j < 5) (hq : pc + 1 = q) (h : Go I Z (k_sr M 8 j v) loc st q) : Go I Z M loc (vR 1 v :: vI x :: vR 8 0 :: st) pc := by
  subst hq; subst hxj
  intro G Hb p l e R s m args below meth c cells slots Qf hC hZ H ls locs hW hF hL hl
  obtain ⟨hx, hb, hml, hrt, hown, hlk, hts, hK, hRf, hRl, hce, hsl⟩ := id hC
  have hat : va_at G.2.1 vwCl (G.1 + k_off 8 0, .inl (G.2.2.2.2.2, 5, .inr (.inr (.inr (.inr (fun j => some (G.1 + k_off 1 (M.2.2 8 j)))))))) H := hW 8 0 (by decide)
  have hi : 0 < k_cnt 8 := by decide
  have hcl : (nI j).toNatClampNeg = j := nI_clamp (by omega)
  obtain ⟨r', hr', cellV, g1, g2, g3, -⟩ := hW 1 v hv8
  have hr3 : (RX6, TX6, 8) = r' := Option.some.inj ((show vwCl[3]? = some (RX6, TX6, 8) from rfl).symm.trans hr')
  subst hr3
  have hcls := (hK.1 3 (RX6, TX6, 8) rfl).2
  obtain ⟨kA, comp, k1, k2, k3, -⟩ := (hK.2 3 _ rfl).2
  have hcomp : comp = G.2.1.1 3 := Option.some.inj (k3.symm.trans hcls.1)
  subst hcomp
  obtain ⟨kC, hkC, -⟩ := hcls.2
  refine W.aast hx hb hat (fun q h => by cases h) (fun h => by cases h) k1 k2 rfl hkC ⟨fun q => vp_in_nI hj (by omega) (Or.inl q), by show _ < (arrV _ _ _).slots.size; rw [arrV_size, hcl]; exact hj⟩ g1 (fun q h => by rw [g3] at h; cases h) (by rw [g2]; exact hkC) (by rw [g2]; exact va_assign hcls) rfl rfl hd fun H1 e1 z oq => ?_
  refine h G Hb p l e R s m args below meth c cells slots Qf hC hZ H1 ls _ (k_HW_put (k := 8) (i := 0) hW hi oq ?_ ?_) (k_FR_put (k := 8) (i := 0) hF hi z oq) (k_L_put (k := 8) (i := 0) hL hi) hl
  · show H1[_]? = some (vp_cell _ (5, .inr (.inr (.inr (.inr (fun t => some (G.1 + k_off 1 ((k_sr M 8 j v).2.2 8 t))))))))
    rw [e1, hcl]
    rw [vp_cell_q, vp_cell_q, arrV_store]
    congr 2
    funext q
    by_cases hq : q = j <;> simp [updV, k_sr, va_rf, hq]
  · intro k' i' hi' hne
    have h8 : ¬ k' = 8 := by
      intro z1
      subst z1
      have : i' < 1 := hi'
      exact hne ⟨rfl, by omega⟩
    show k_ce G k' i' (M.1 k' i') (M.2.1 i') (k_sr M 8 j v).2.2 = _
    have h11 : ∀ c, (k_sr M 8 j v).2.2 11 c = M.2.2 11 c := fun c => by simp [k_sr]
    unfold k_ce
    rw [k_fl_r h11]
    split
    · rfl
    · rename_i ho
      split
      · rfl
      · rename_i hr
        have h22 := (k_cnt22 hi').1
        rcases k_kinds k' h22 ho hr h8 with rfl | rfl <;> rfl
theorem k_goodIn {w0 : Cond} (h : w0 ∈ k_tb) : GoodIn k_tb (w0 :: k_tb) := by
  intro w hw
  have hm : w ∈ k_tb := by
    rcases List.mem_cons.mp hw with rfl | h1
    · exact h
    · exact h1
  exact ⟨hm, good_of_word (List.mem_filter.mp hm).2⟩
def KC (I : KI) (n : Nat) : Prop := Cond.code I.1 I.2.1 I.2.2.1 I.2.2.2.1 ∈ k_tb ∧ Cond.initialized I.1.cls ∈ k_tb ∧ (I.1.cls ≠ "java/lang/invoke/MethodHandle" ∧ I.1.cls ≠ "java/lang/invoke/VarHandle" ∧ (parseMethodDescriptor I.1.desc).map (fun d => d.parameters.length) = some n) ∧ I.2.2.2.2.cells = 0 ∧ I.2.2.2.2.slots = 0
def KCV (I : KI) (n : Nat) : Prop := KC I n ∧ Cond.instanceMethod I.1 ∈ k_tb ∧ Cond.selects I.1.cls I.1 I.1 ∈ k_tb
def KCS (I : KI) (n : Nat) : Prop := KC I n ∧ Cond.static I.1 ∈ k_tb
abbrev KR (I cal : KI) : Prop := cal.2.2.2.2.frames + 1 ≤ I.2.2.2.2.frames ∧ 8 + (cal.2.2.1 + 11) + cal.2.2.2.2.locals ≤ I.2.2.2.2.locals
theorem k_catsum {b : Nat} (rest : List KV) : ((rest.map (k_cv b)).map (fun v => v.category)).sum = (rest.map k_cat).sum := by
  rw [List.map_map]
  congr 1
  apply List.map_congr_left
  intro v _
  exact k_cat_eq b v
theorem k_blind {G : KG} {as : List KV} {M : KM} : FrameBlind (k_P G as M) := fun a U g mk h => ⟨h.1, h.2.1, va_K.moved (u := U) (U := U.calling g mk a) (Vm.Alike.refl U.vm) h.2.2⟩
theorem go_callV {I cal : KI} {Z : KZ} {M : KM} {loc : List (Option KV)} {rest : List KV} {pc q idx n k i : Nat} (as : List KV) {Q1 : Option KV → KM → Prop} (hd : decode I.2.1 pc = .ok (.invokevirtual idx, 3)) (hlink : Cond.methodLink I.1.cls idx cal.1 ∈ k_tb) (hc : KCV cal n) (hR : KR I cal) (hn : as.length = n) (hcls : (k_oc k).bind (fun ci => (vwCl[ci]?).map (fun q => q.1)) = some cal.1.cls) (hi : i < k_cnt k) (hr : (rest.map k_cat).sum ≤ 8) (hok : Ok cal (vR k i :: as) M Q1) (hq : pc + 3 = q) (kk : ∀ r M1, Q1 r M1 → Go I Z M1 loc (r.toList ++ rest) q) : Go I Z M loc (as.reverse ++ vR k i :: rest) pc := by
  subst hq
  intro G Hb p l e R s m args below meth c cells slots Qf hC hZ H ls locs hW hF hL hl
  obtain ⟨hx, hb, hml, hrt, hown, hlk, hts, hK, hRf, hRl, hce, hsl⟩ := id hC
  obtain ⟨⟨hcode, hini, hdd, hrc, hrs⟩, hinst, hsel⟩ := hc
  have hG := k_goodIn hcode
  have hcw := callB_of (R := R) (s := s) (args := args) (own := I.1.cls) (index := idx) n hts hG rfl hrc hrs (hts _ hini) (hts _ hlink) hdd (by rw [hRf, hRl]; exact hR)
  obtain ⟨ci, hci, hcq⟩ := Option.bind_eq_some_iff.mp hcls
  obtain ⟨qd, hqd, hqe⟩ := Option.map_eq_some_iff.mp hcq
  have hat := hW k i hi
  rw [k_ce_obj hci] at hat
  have hrec := va_recv hK (k_P1 hat) hqd (q0 := 0) rfl
  rw [hqe] at hrec
  have hrun := va_runV (p := p) (l := l) (e := e) (R := R) (below := below) (meth := meth) (H := H) (locs := locs) (cells := cells) (slots := slots) (As := as.map (k_cv G.1)) (rest := rest.map (k_cv G.1)) (g := F0 m pc ls ((as.reverse ++ vR k i :: rest).map (k_cv G.1))) ⟨hx, hb, hml, hown, hts⟩ (hok l G) ⟨hcw, hts _ hinst, hts _ hsel⟩
    ⟨k_blind, hrec, fun U hU hw => ⟨rfl, by rw [hU]; exact hW, va_K.moved hw.alike hK⟩⟩ rfl (by rw [List.length_map]; exact hn) hl.1 (by simp [k_cv]) (lv_room (by rw [k_catsum]; exact hr)) hd ⟨hce, hsl⟩
  intro T hT X
  obtain ⟨v, st₀, t, T', L, h0, X', hLf, e1, e2, ⟨⟨r, M1, hQ, hv, hW1⟩, hF1⟩, st9⟩ := hrun T hT X
  have hv2 : v = r.map (k_cv G.1) := by injection hv
  subst hv2
  rw [h0] at hF1
  have hst : (r.map (k_cv G.1)).toList ++ rest.map (k_cv G.1) = (r.toList ++ rest).map (k_cv G.1) := by cases r <;> simp
  rw [hst] at st9
  obtain ⟨t2, a1, b1⟩ := kk r M1 hQ G Hb p l e R s m args below meth c cells slots Qf hC hZ t.heap ls (locs ++ L) hW1 (hF.tr hF1) (fun q hq => by
    rcases List.mem_append.mp hq with h | h
    · exact hL q h
    · exact hLf q h) hl T' e1 X'
  exact ⟨t2, st9 t2 a1, b1⟩
theorem go_callS {I cal : KI} {Z : KZ} {M : KM} {loc : List (Option KV)} {rest : List KV} {pc q idx n : Nat} (as : List KV) {Q1 : Option KV → KM → Prop} (hd : decode I.2.1 pc = .ok (.invokestatic idx, 3)) (hlink : Cond.methodLink I.1.cls idx cal.1 ∈ k_tb) (hc : KCS cal n) (hR : KR I cal) (hn : as.length = n) (hr : (rest.map k_cat).sum ≤ 8) (hok : Ok cal as M Q1) (hq : pc + 3 = q) (kk : ∀ r M1, Q1 r M1 → Go I Z M1 loc (r.toList ++ rest) q) : Go I Z M loc (as.reverse ++ rest) pc := by
  subst hq
  intro G Hb p l e R s m args below meth c cells slots Qf hC hZ H ls locs hW hF hL hl
  obtain ⟨hx, hb, hml, hrt, hown, hlk, hts, hK, hRf, hRl, hce, hsl⟩ := id hC
  obtain ⟨⟨hcode, hini, hdd, hrc, hrs⟩, hstat⟩ := hc
  have hG := k_goodIn hcode
  have hcw := callB_of (R := R) (s := s) (args := args) (own := I.1.cls) (index := idx) n hts hG rfl hrc hrs (hts _ hini) (hts _ hlink) hdd (by rw [hRf, hRl]; exact hR)
  have hrun := va_runS (p := p) (l := l) (e := e) (R := R) (below := below) (meth := meth) (H := H) (locs := locs) (cells := cells) (slots := slots) (As := as.map (k_cv G.1)) (rest := rest.map (k_cv G.1)) (g := F0 m pc ls ((as.reverse ++ rest).map (k_cv G.1))) ⟨hx, hb, hml, hown, hts⟩ (hok l G) ⟨hcw, hts _ hstat⟩
    ⟨k_blind, fun U hU hw => ⟨rfl, by rw [hU]; exact hW, va_K.moved hw.alike hK⟩⟩ rfl (by rw [List.length_map]; exact hn) hl.1 (by simp) (lv_room (by rw [k_catsum]; exact hr)) hd ⟨hce, hsl⟩
  intro T hT X
  obtain ⟨v, st₀, t, T', L, h0, X', hLf, e1, e2, ⟨⟨r, M1, hQ, hv, hW1⟩, hF1⟩, st9⟩ := hrun T hT X
  have hv2 : v = r.map (k_cv G.1) := by injection hv
  subst hv2
  rw [h0] at hF1
  have hst : (r.map (k_cv G.1)).toList ++ rest.map (k_cv G.1) = (r.toList ++ rest).map (k_cv G.1) := by cases r <;> simp
  rw [hst] at st9
  obtain ⟨t2, a1, b1⟩ := kk r M1 hQ G Hb p l e R s m args below meth c cells slots Qf hC hZ t.heap ls (locs ++ L) hW1 (hF.tr hF1) (fun q hq => by
    rcases List.mem_append.mp hq with h | h
    · exact hL q h
    · exact hLf q h) hl T' e1 X'
  exact ⟨t2, st9 t2 a1, b1⟩
theorem go_cV0 {I cal : KI} {Z : KZ} {M M1 : KM} {loc : List (Option KV)} {rest : List KV} {pc q idx : Nat} {k i : Nat} {v : KV} (hd : decode I.2.1 pc = .ok (.invokevirtual idx, 3)) (hlink : Cond.methodLink I.1.cls idx cal.1 ∈ k_tb) (hc : KCV cal 0) (hR : KR I cal) (hcls : (k_oc k).bind (fun ci => (vwCl[ci]?).map (fun q => q.1)) = some cal.1.cls) (hi : i < k_cnt k) (hr : (rest.map k_cat).sum ≤ 8) (hok : OkF cal (vR k i :: []) M (some v) M1) (hq : pc + 3 = q) (kk : Go I Z M1 loc (v :: rest) q) : Go I Z M loc (vR k i :: rest) pc :=
  go_callV [] hd hlink hc hR rfl hcls hi hr hok hq (fun r M2 hrm => by obtain ⟨rfl, rfl⟩ := hrm; exact kk)
theorem go_uV0 {I cal : KI} {Z : KZ} {M M1 : KM} {loc : List (Option KV)} {rest : List KV} {pc q idx : Nat} {k i : Nat}  (hd : decode I.2.1 pc = .ok (.invokevirtual idx, 3)) (hlink : Cond.methodLink I.1.cls idx cal.1 ∈ k_tb) (hc : KCV cal 0) (hR : KR I cal) (hcls : (k_oc k).bind (fun ci => (vwCl[ci]?).map (fun q => q.1)) = some cal.1.cls) (hi : i < k_cnt k) (hr : (rest.map k_cat).sum ≤ 8) (hok : OkF cal (vR k i :: []) M none M1) (hq : pc + 3 = q) (kk : Go I Z M1 loc rest q) : Go I Z M loc (vR k i :: rest) pc :=
  go_callV [] hd hlink hc hR rfl hcls hi hr hok hq (fun r M2 hrm => by obtain ⟨rfl, rfl⟩ := hrm; exact kk)
theorem go_cS0 {I cal : KI} {Z : KZ} {M M1 : KM} {loc : List (Option KV)} {rest : List KV} {pc q idx : Nat}  {v : KV} (hd : decode I.2.1 pc = .ok (.invokestatic idx, 3)) (hlink : Cond.methodLink I.1.cls idx cal.1 ∈ k_tb) (hc : KCS cal 0) (hR : KR I cal)  (hr : (rest.map k_cat).sum ≤ 8) (hok : OkF cal [] M (some v) M1) (hq : pc + 3 = q) (kk : Go I Z M1 loc (v :: rest) q) : Go I Z M loc (rest) pc :=
  go_callS [] hd hlink hc hR rfl hr hok hq (fun r M2 hrm => by obtain ⟨rfl, rfl⟩ := hrm; exact kk)
theorem go_uS0 {I cal : KI} {Z : KZ} {M M1 : KM} {loc : List (Option KV)} {rest : List KV} {pc q idx : Nat}   (hd : decode I.2.1 pc = .ok (.invokestatic idx, 3)) (hlink : Cond.methodLink I.1.cls idx cal.1 ∈ k_tb) (hc : KCS cal 0) (hR : KR I cal)  (hr : (rest.map k_cat).sum ≤ 8) (hok : OkF cal [] M none M1) (hq : pc + 3 = q) (kk : Go I Z M1 loc rest q) : Go I Z M loc (rest) pc :=
  go_callS [] hd hlink hc hR rfl hr hok hq (fun r M2 hrm => by obtain ⟨rfl, rfl⟩ := hrm; exact kk)
theorem go_cV1 {I cal : KI} {Z : KZ} {M M1 : KM} {loc : List (Option KV)} {rest : List KV} {pc q idx : Nat} {a0 : KV} {k i : Nat} {v : KV} (hd : decode I.2.1 pc = .ok (.invokevirtual idx, 3)) (hlink : Cond.methodLink I.1.cls idx cal.1 ∈ k_tb) (hc : KCV cal 1) (hR : KR I cal) (hcls : (k_oc k).bind (fun ci => (vwCl[ci]?).map (fun q => q.1)) = some cal.1.cls) (hi : i < k_cnt k) (hr : (rest.map k_cat).sum ≤ 8) (hok : OkF cal (vR k i :: [a0]) M (some v) M1) (hq : pc + 3 = q) (kk : Go I Z M1 loc (v :: rest) q) : Go I Z M loc (a0 :: vR k i :: rest) pc :=
  go_callV [a0] hd hlink hc hR rfl hcls hi hr hok hq (fun r M2 hrm => by obtain ⟨rfl, rfl⟩ := hrm; exact kk)
theorem go_uV1 {I cal : KI} {Z : KZ} {M M1 : KM} {loc : List (Option KV)} {rest : List KV} {pc q idx : Nat} {a0 : KV} {k i : Nat}  (hd : decode I.2.1 pc = .ok (.invokevirtual idx, 3)) (hlink : Cond.methodLink I.1.cls idx cal.1 ∈ k_tb) (hc : KCV cal 1) (hR : KR I cal) (hcls : (k_oc k).bind (fun ci => (vwCl[ci]?).map (fun q => q.1)) = some cal.1.cls) (hi : i < k_cnt k) (hr : (rest.map k_cat).sum ≤ 8) (hok : OkF cal (vR k i :: [a0]) M none M1) (hq : pc + 3 = q) (kk : Go I Z M1 loc rest q) : Go I Z M loc (a0 :: vR k i :: rest) pc :=
  go_callV [a0] hd hlink hc hR rfl hcls hi hr hok hq (fun r M2 hrm => by obtain ⟨rfl, rfl⟩ := hrm; exact kk)
theorem go_cS1 {I cal : KI} {Z : KZ} {M M1 : KM} {loc : List (Option KV)} {rest : List KV} {pc q idx : Nat} {a0 : KV}  {v : KV} (hd : decode I.2.1 pc = .ok (.invokestatic idx, 3)) (hlink : Cond.methodLink I.1.cls idx cal.1 ∈ k_tb) (hc : KCS cal 1) (hR : KR I cal)  (hr : (rest.map k_cat).sum ≤ 8) (hok : OkF cal [a0] M (some v) M1) (hq : pc + 3 = q) (kk : Go I Z M1 loc (v :: rest) q) : Go I Z M loc (a0 :: rest) pc :=
  go_callS [a0] hd hlink hc hR rfl hr hok hq (fun r M2 hrm => by obtain ⟨rfl, rfl⟩ := hrm; exact kk)
theorem go_uS1 {I cal : KI} {Z : KZ} {M M1 : KM} {loc : List (Option KV)} {rest : List KV} {pc q idx : Nat} {a0 : KV}   (hd : decode I.2.1 pc = .ok (.invokestatic idx, 3)) (hlink : Cond.methodLink I.1.cls idx cal.1 ∈ k_tb) (hc : KCS cal 1) (hR : KR I cal)  (hr : (rest.map k_cat).sum ≤ 8) (hok : OkF cal [a0] M none M1) (hq : pc + 3 = q) (kk : Go I Z M1 loc rest q) : Go I Z M loc (a0 :: rest) pc :=
  go_callS [a0] hd hlink hc hR rfl hr hok hq (fun r M2 hrm => by obtain ⟨rfl, rfl⟩ := hrm; exact kk)
theorem go_cV2 {I cal : KI} {Z : KZ} {M M1 : KM} {loc : List (Option KV)} {rest : List KV} {pc q idx : Nat} {a0 a1 : KV} {k i : Nat} {v : KV} (hd : decode I.2.1 pc = .ok (.invokevirtual idx, 3)) (hlink : Cond.methodLink I.1.cls idx cal.1 ∈ k_tb) (hc : KCV cal 2) (hR : KR I cal) (hcls : (k_oc k).bind (fun ci => (vwCl[ci]?).map (fun q => q.1)) = some cal.1.cls) (hi : i < k_cnt k) (hr : (rest.map k_cat).sum ≤ 8) (hok : OkF cal (vR k i :: [a0, a1]) M (some v) M1) (hq : pc + 3 = q) (kk : Go I Z M1 loc (v :: rest) q) : Go I Z M loc (a1 :: a0 :: vR k i :: rest) pc :=
  go_callV [a0, a1] hd hlink hc hR rfl hcls hi hr hok hq (fun r M2 hrm => by obtain ⟨rfl, rfl⟩ := hrm; exact kk)
theorem go_uV2 {I cal : KI} {Z : KZ} {M M1 : KM} {loc : List (Option KV)} {rest : List KV} {pc q idx : Nat} {a0 a1 : KV} {k i : Nat}  (hd : decode I.2.1 pc = .ok (.invokevirtual idx, 3)) (hlink : Cond.methodLink I.1.cls idx cal.1 ∈ k_tb) (hc : KCV cal 2) (hR : KR I cal) (hcls : (k_oc k).bind (fun ci => (vwCl[ci]?).map (fun q => q.1)) = some cal.1.cls) (hi : i < k_cnt k) (hr : (rest.map k_cat).sum ≤ 8) (hok : OkF cal (vR k i :: [a0, a1]) M none M1) (hq : pc + 3 = q) (kk : Go I Z M1 loc rest q) : Go I Z M loc (a1 :: a0 :: vR k i :: rest) pc :=
  go_callV [a0, a1] hd hlink hc hR rfl hcls hi hr hok hq (fun r M2 hrm => by obtain ⟨rfl, rfl⟩ := hrm; exact kk)
theorem go_cS2 {I cal : KI} {Z : KZ} {M M1 : KM} {loc : List (Option KV)} {rest : List KV} {pc q idx : Nat} {a0 a1 : KV}  {v : KV} (hd : decode I.2.1 pc = .ok (.invokestatic idx, 3)) (hlink : Cond.methodLink I.1.cls idx cal.1 ∈ k_tb) (hc : KCS cal 2) (hR : KR I cal)  (hr : (rest.map k_cat).sum ≤ 8) (hok : OkF cal [a0, a1] M (some v) M1) (hq : pc + 3 = q) (kk : Go I Z M1 loc (v :: rest) q) : Go I Z M loc (a1 :: a0 :: rest) pc :=
  go_callS [a0, a1] hd hlink hc hR rfl hr hok hq (fun r M2 hrm => by obtain ⟨rfl, rfl⟩ := hrm; exact kk)
theorem go_uS2 {I cal : KI} {Z : KZ} {M M1 : KM} {loc : List (Option KV)} {rest : List KV} {pc q idx : Nat} {a0 a1 : KV}   (hd : decode I.2.1 pc = .ok (.invokestatic idx, 3)) (hlink : Cond.methodLink I.1.cls idx cal.1 ∈ k_tb) (hc : KCS cal 2) (hR : KR I cal)  (hr : (rest.map k_cat).sum ≤ 8) (hok : OkF cal [a0, a1] M none M1) (hq : pc + 3 = q) (kk : Go I Z M1 loc rest q) : Go I Z M loc (a1 :: a0 :: rest) pc :=
  go_callS [a0, a1] hd hlink hc hR rfl hr hok hq (fun r M2 hrm => by obtain ⟨rfl, rfl⟩ := hrm; exact kk)
theorem go_cV3 {I cal : KI} {Z : KZ} {M M1 : KM} {loc : List (Option KV)} {rest : List KV} {pc q idx : Nat} {a0 a1 a2 : KV} {k i : Nat} {v : KV} (hd : decode I.2.1 pc = .ok (.invokevirtual idx, 3)) (hlink : Cond.methodLink I.1.cls idx cal.1 ∈ k_tb) (hc : KCV cal 3) (hR : KR I cal) (hcls : (k_oc k).bind (fun ci => (vwCl[ci]?).map (fun q => q.1)) = some cal.1.cls) (hi : i < k_cnt k) (hr : (rest.map k_cat).sum ≤ 8) (hok : OkF cal (vR k i :: [a0, a1, a2]) M (some v) M1) (hq : pc + 3 = q) (kk : Go I Z M1 loc (v :: rest) q) : Go I Z M loc (a2 :: a1 :: a0 :: vR k i :: rest) pc :=
  go_callV [a0, a1, a2] hd hlink hc hR rfl hcls hi hr hok hq (fun r M2 hrm => by obtain ⟨rfl, rfl⟩ := hrm; exact kk)
theorem go_uV3 {I cal : KI} {Z : KZ} {M M1 : KM} {loc : List (Option KV)} {rest : List KV} {pc q idx : Nat} {a0 a1 a2 : KV} {k i : Nat}  (hd : decode I.2.1 pc = .ok (.invokevirtual idx, 3)) (hlink : Cond.methodLink I.1.cls idx cal.1 ∈ k_tb) (hc : KCV cal 3) (hR : KR I cal) (hcls : (k_oc k).bind (fun ci => (vwCl[ci]?).map (fun q => q.1)) = some cal.1.cls) (hi : i < k_cnt k) (hr : (rest.map k_cat).sum ≤ 8) (hok : OkF cal (vR k i :: [a0, a1, a2]) M none M1) (hq : pc + 3 = q) (kk : Go I Z M1 loc rest q) : Go I Z M loc (a2 :: a1 :: a0 :: vR k i :: rest) pc :=
  go_callV [a0, a1, a2] hd hlink hc hR rfl hcls hi hr hok hq (fun r M2 hrm => by obtain ⟨rfl, rfl⟩ := hrm; exact kk)
theorem go_cS3 {I cal : KI} {Z : KZ} {M M1 : KM} {loc : List (Option KV)} {rest : List KV} {pc q idx : Nat} {a0 a1 a2 : KV}  {v : KV} (hd : decode I.2.1 pc = .ok (.invokestatic idx, 3)) (hlink : Cond.methodLink I.1.cls idx cal.1 ∈ k_tb) (hc : KCS cal 3) (hR : KR I cal)  (hr : (rest.map k_cat).sum ≤ 8) (hok : OkF cal [a0, a1, a2] M (some v) M1) (hq : pc + 3 = q) (kk : Go I Z M1 loc (v :: rest) q) : Go I Z M loc (a2 :: a1 :: a0 :: rest) pc :=
  go_callS [a0, a1, a2] hd hlink hc hR rfl hr hok hq (fun r M2 hrm => by obtain ⟨rfl, rfl⟩ := hrm; exact kk)
theorem go_uS3 {I cal : KI} {Z : KZ} {M M1 : KM} {loc : List (Option KV)} {rest : List KV} {pc q idx : Nat} {a0 a1 a2 : KV}   (hd : decode I.2.1 pc = .ok (.invokestatic idx, 3)) (hlink : Cond.methodLink I.1.cls idx cal.1 ∈ k_tb) (hc : KCS cal 3) (hR : KR I cal)  (hr : (rest.map k_cat).sum ≤ 8) (hok : OkF cal [a0, a1, a2] M none M1) (hq : pc + 3 = q) (kk : Go I Z M1 loc rest q) : Go I Z M loc (a2 :: a1 :: a0 :: rest) pc :=
  go_callS [a0, a1, a2] hd hlink hc hR rfl hr hok hq (fun r M2 hrm => by obtain ⟨rfl, rfl⟩ := hrm; exact kk)
theorem go_cV4 {I cal : KI} {Z : KZ} {M M1 : KM} {loc : List (Option KV)} {rest : List KV} {pc q idx : Nat} {a0 a1 a2 a3 : KV} {k i : Nat} {v : KV} (hd : decode I.2.1 pc = .ok (.invokevirtual idx, 3)) (hlink : Cond.methodLink I.1.cls idx cal.1 ∈ k_tb) (hc : KCV cal 4) (hR : KR I cal) (hcls : (k_oc k).bind (fun ci => (vwCl[ci]?).map (fun q => q.1)) = some cal.1.cls) (hi : i < k_cnt k) (hr : (rest.map k_cat).sum ≤ 8) (hok : OkF cal (vR k i :: [a0, a1, a2, a3]) M (some v) M1) (hq : pc + 3 = q) (kk : Go I Z M1 loc (v :: rest) q) : Go I Z M loc (a3 :: a2 :: a1 :: a0 :: vR k i :: rest) pc :=
  go_callV [a0, a1, a2, a3] hd hlink hc hR rfl hcls hi hr hok hq (fun r M2 hrm => by obtain ⟨rfl, rfl⟩ := hrm; exact kk)
theorem go_uV4 {I cal : KI} {Z : KZ} {M M1 : KM} {loc : List (Option KV)} {rest : List KV} {pc q idx : Nat} {a0 a1 a2 a3 : KV} {k i : Nat}  (hd : decode I.2.1 pc = .ok (.invokevirtual idx, 3)) (hlink : Cond.methodLink I.1.cls idx cal.1 ∈ k_tb) (hc : KCV cal 4) (hR : KR I cal) (hcls : (k_oc k).bind (fun ci => (vwCl[ci]?).map (fun q => q.1)) = some cal.1.cls) (hi : i < k_cnt k) (hr : (rest.map k_cat).sum ≤ 8) (hok : OkF cal (vR k i :: [a0, a1, a2, a3]) M none M1) (hq : pc + 3 = q) (kk : Go I Z M1 loc rest q) : Go I Z M loc (a3 :: a2 :: a1 :: a0 :: vR k i :: rest) pc :=
  go_callV [a0, a1, a2, a3] hd hlink hc hR rfl hcls hi hr hok hq (fun r M2 hrm => by obtain ⟨rfl, rfl⟩ := hrm; exact kk)
theorem go_cS4 {I cal : KI} {Z : KZ} {M M1 : KM} {loc : List (Option KV)} {rest : List KV} {pc q idx : Nat} {a0 a1 a2 a3 : KV}  {v : KV} (hd : decode I.2.1 pc = .ok (.invokestatic idx, 3)) (hlink : Cond.methodLink I.1.cls idx cal.1 ∈ k_tb) (hc : KCS cal 4) (hR : KR I cal)  (hr : (rest.map k_cat).sum ≤ 8) (hok : OkF cal [a0, a1, a2, a3] M (some v) M1) (hq : pc + 3 = q) (kk : Go I Z M1 loc (v :: rest) q) : Go I Z M loc (a3 :: a2 :: a1 :: a0 :: rest) pc :=
  go_callS [a0, a1, a2, a3] hd hlink hc hR rfl hr hok hq (fun r M2 hrm => by obtain ⟨rfl, rfl⟩ := hrm; exact kk)
theorem go_uS4 {I cal : KI} {Z : KZ} {M M1 : KM} {loc : List (Option KV)} {rest : List KV} {pc q idx : Nat} {a0 a1 a2 a3 : KV}   (hd : decode I.2.1 pc = .ok (.invokestatic idx, 3)) (hlink : Cond.methodLink I.1.cls idx cal.1 ∈ k_tb) (hc : KCS cal 4) (hR : KR I cal)  (hr : (rest.map k_cat).sum ≤ 8) (hok : OkF cal [a0, a1, a2, a3] M none M1) (hq : pc + 3 = q) (kk : Go I Z M1 loc rest q) : Go I Z M loc (a3 :: a2 :: a1 :: a0 :: rest) pc :=
  go_callS [a0, a1, a2, a3] hd hlink hc hR rfl hr hok hq (fun r M2 hrm => by obtain ⟨rfl, rfl⟩ := hrm; exact kk)
theorem go_mmax {I : KI} {Z : KZ} {M : KM} {loc : List (Option KV)} {rest : List KV} {pc q idx : Nat} {x y : Int32} (hd : decode I.2.1 pc = .ok (.invokestatic idx, 3)) (hlink : Cond.methodLink I.1.cls idx Lib.Math.max.name ∈ k_tb) (h1 : Cond.static Lib.Math.max.name ∈ k_tb) (h2 : Cond.initialized "java/lang/Math" ∈ k_tb) (h3 : Cond.code Lib.Math.max.name Lib.Math.max.code 2 (some .int) ∈ k_tb) (hR : 1 ≤ I.2.2.2.2.frames ∧ 21 ≤ I.2.2.2.2.locals) (hr : (rest.map k_cat).sum ≤ 8) (hq : pc + 3 = q) (h : Go I Z M loc (vI (if x < y then y else x) :: rest) q) : Go I Z M loc (vI y :: vI x :: rest) pc := by
  subst hq
  intro G Hb p l e R s m args below meth c cells slots Qf hC hZ H ls locs hW hF hL hl
  obtain ⟨hx, hb, hml, hrt, hown, hlk, hts, hK, hRf, hRl, hce, hsl⟩ := id hC
  exact va_mmax hx hb (hml.trans hl.1.symm) hown (hts _ hlink) (hts _ h1) (hts _ h2) (hts _ h3) (by rw [hRf]; exact hR.1) (by rw [k_catsum, hRl]; have := hR.2; omega) hce hsl hd (h G Hb p l e R s m args below meth c cells slots Qf hC hZ H ls locs hW hF hL hl)
theorem go_mmin {I : KI} {Z : KZ} {M : KM} {loc : List (Option KV)} {rest : List KV} {pc q idx : Nat} {x y : Int32} (hd : decode I.2.1 pc = .ok (.invokestatic idx, 3)) (hlink : Cond.methodLink I.1.cls idx Lib.Math.min.name ∈ k_tb) (h1 : Cond.static Lib.Math.min.name ∈ k_tb) (h2 : Cond.initialized "java/lang/Math" ∈ k_tb) (h3 : Cond.code Lib.Math.min.name Lib.Math.min.code 2 (some .int) ∈ k_tb) (hR : 1 ≤ I.2.2.2.2.frames ∧ 21 ≤ I.2.2.2.2.locals) (hr : (rest.map k_cat).sum ≤ 8) (hq : pc + 3 = q) (h : Go I Z M loc (vI (if y < x then y else x) :: rest) q) : Go I Z M loc (vI y :: vI x :: rest) pc := by
  subst hq
  intro G Hb p l e R s m args below meth c cells slots Qf hC hZ H ls locs hW hF hL hl
  obtain ⟨hx, hb, hml, hrt, hown, hlk, hts, hK, hRf, hRl, hce, hsl⟩ := id hC
  exact va_mmin hx hb (hml.trans hl.1.symm) hown (hts _ hlink) (hts _ h1) (hts _ h2) (hts _ h3) (by rw [hRf]; exact hR.1) (by rw [k_catsum, hRl]; have := hR.2; omega) hce hsl hd (h G Hb p l e R s m args below meth c cells slots Qf hC hZ H ls locs hW hF hL hl)
