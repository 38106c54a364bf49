/-! the moor: what its throws need -/
abbrev xRE : List String := ["java/lang/RuntimeException", "java/lang/Exception"]
abbrev xIAE : String := "java/lang/IllegalArgumentException"
abbrev xISE : String := "java/lang/IllegalStateException"
abbrev xIOB : String := "java/lang/IndexOutOfBoundsException"
abbrev xBc : List (String × String) := [(xIAE, xIAE), (xISE, xISE), (xIOB, xIOB)]
abbrev xBd : List MethodName := [Bundle.initS "java/lang/RuntimeException", Bundle.initS "java/lang/Exception", Bundle.initS Bundle.tN]
abbrev xB : List Cond := [.castable xIAE xIAE, .castable xISE xISE, .castable xIOB xIOB, .declares (Bundle.initS "java/lang/RuntimeException"), .declares (Bundle.initS "java/lang/Exception"), .declares (Bundle.initS Bundle.tN)]
abbrev xTx : List (Nat × String) := [(177, "x and y are 0 to 30"), (180, "a height is 0 to 99"), (40, "there are 16 cairns"), (185, "a cairn is there"), (191, "there is no such cairn"), (193, "there is no edge between them"), (76, "the edge cannot be flipped"), (195, "nothing is told under this number"), (107, "there is no such triangle")]
def xW (U : State) : Prop := va_Nw (.castable xIAE xIAE) U ∧ va_Nw (.castable xISE xISE) U ∧ va_Nw (.castable xIOB xIOB) U ∧ va_Nw (.declares (Bundle.initS "java/lang/RuntimeException")) U ∧ va_Nw (.declares (Bundle.initS "java/lang/Exception")) U ∧ va_Nw (.declares (Bundle.initS Bundle.tN)) U
def xS (U : State) : Prop := ∃ f : Nat → Nat, ∀ q ∈ xTx, vk_R RX1 q.1 q.2 (f q.1) U
def xE (A : Nat → Prop) (U : State) (H : Heap) : Prop := xW U ∧ xS U ∧ vx_Zq Bundle.tN "UNASSIGNED_STACK" Bundle.steD A U H ∧ vx_Zq Bundle.tN "SUPPRESSED_SENTINEL" Bundle.listD A U H
theorem xW_warm {s U : State} (hW : s.WarmedH U.vm) (h : xW s) : xW U := ⟨h.1.warmC hW, h.2.1.warmC hW, h.2.2.1.warmC hW, h.2.2.2.1.warmD hW, h.2.2.2.2.1.warmD hW, h.2.2.2.2.2.warmD hW⟩
theorem xW_same {s U : State} (e : s.vm = U.vm) (h : xW s) : xW U := ⟨h.1.same rfl e, h.2.1.same rfl e, h.2.2.1.same rfl e, h.2.2.2.1.same rfl e, h.2.2.2.2.1.same rfl e, h.2.2.2.2.2.same rfl e⟩
theorem xW_all {args : Array Value} {s : State} (h : xW s) : ∀ w ∈ xB, w.before args s = true :=
  vx_c (h.1.use rfl) (vx_c (h.2.1.use rfl) (vx_c (h.2.2.1.use rfl) (vx_c (h.2.2.2.1.use rfl) (vx_c (h.2.2.2.2.1.use rfl) (vx_c (h.2.2.2.2.2.use rfl) vx_n)))))
theorem xS_warm {s U : State} (hW : s.WarmedH U.vm) (h : xS s) : xS U := h.elim fun f hf => ⟨f, fun q hq => (hf q hq).warm hW⟩
theorem xS_same {s U : State} (e : U.vm = s.vm) (h : xS s) : xS U := h.elim fun f hf => ⟨f, fun q hq => (hf q hq).same e⟩
theorem xE_to {A B : Nat → Prop} {s U : State} {H0 H : Heap} (hW : s.WarmedH U.vm) (hq : ∀ a : Nat, a < H0.size → ¬ A a → H[a]? = H0[a]?) (hAB : ∀ q, B q → A q) (h : xE A s H0) : xE B U H :=
  ⟨xW_warm hW h.1, xS_warm hW h.2.1, ((h.2.2.1.moved hW.alike).kept hq).narrow hAB, ((h.2.2.2.moved hW.alike).kept hq).narrow hAB⟩
abbrev wrPx (D : va_G) (tys : List (ClassId × FieldType)) (w : va_W) (sz : Nat) : State → Prop := fun U => wrP D tys w sz U ∧ xE (va_A w sz) U U.heap
theorem xBlind {As : List Value} {D : va_G} {w : va_W} {sz : Nat} {tys : List (ClassId × FieldType)} : FrameBlind (va_Pc As (wrPx D tys w sz)) := fun a U g mk q => ⟨q.1, ⟨q.2.1.1, q.2.1.2.1, va_K.moved (u := U) (U := U.calling g mk a) (Vm.Alike.refl U.vm) q.2.1.2.2.1, q.2.1.2.2.2⟩, xW_same (s := U) (U := U.calling g mk a) rfl q.2.2.1, xS_same (s := U) (U := U.calling g mk a) rfl q.2.2.2.1, q.2.2.2.2.1.moved (u := U) (U := U.calling g mk a) (Vm.Alike.refl U.vm), q.2.2.2.2.2.moved (u := U) (U := U.calling g mk a) (Vm.Alike.refl U.vm)⟩
abbrev xX (D : va_G) (tys : List (ClassId × FieldType)) (ok : Bool) (E0 : String) (w : va_W) (A : Nat → Prop) : String → State → State → Prop := vx_X (fun _ : Unit => True) (fun E _ t => ok = false ∧ E = E0 ∧ wrB D tys A w t) A
abbrev xQv (D : va_G) (tys : List (ClassId × FieldType)) (ok : Bool) (w2 : va_W) (A : Nat → Prop) : Array Value → State → Outcome → State → Prop := va_Qv (fun _ : Unit => ok = true) (fun _ t => wrB D tys A w2 t) A
abbrev xQi (D : va_G) (tys : List (ClassId × FieldType)) (ok : Bool) (v : Int32) (w2 : va_W) (A : Nat → Prop) : Array Value → State → Outcome → State → Prop := va_Qi (fun (r : Int32) (_ : Unit) => ok = true ∧ r = v) (fun _ t => wrB D tys A w2 t) A
theorem xx_start {l : Launch} {y : MethodName} {cc : ByteArray} {maxL : Nat} {ret : Option FieldType} {ws ws' : List Cond} {rm : Room} {D : va_G} {tys : List (ClassId × FieldType)} {w : va_W} {sz : Nat} {As : List Value} {mc ms : Nat} {Q0 : (Nat → Prop) → Array Value → State → Outcome → State → Prop} {X0 : (Nat → Prop) → String → State → State → Prop} (own : String) (hy : plainName y.cls = true) (hC : y.cls = own) (hw : ws = Cond.code y cc maxL ret :: ws') (hlen : (lg_sl As).length ≤ maxL)
    (body : ∀ (p : Program) (e : Env) (s : State) (m : MethodId) (below : List Frame) (meth : Method) (c : Code), (p.tables.exec = Jvm.exec ∧ c.code = cc ∧ meth.sig.returnType = ret ∧ c.maxLocals = maxL ∧ s.vm.findClass own = some m.cls ∧ (∀ w ∈ ws, w.before As.toArray s = true) ∧ meth.locks = false ∧ (∀ x ∈ c.exceptionTable.toList, False)) → va_P D vwCl w s.heap → va_K D vwCl tys s → ∀ A : Nat → Prop, xE A s s.heap → va_D A w → (∀ q : Nat, s.heap.size ≤ q → A q) → va_S A s.heap s.heap [] → ∀ ls : Array Slot, lv_has ls maxL (lv_args 0 As) → W p l e rm s m As.toArray below meth c s.heap [] 0 0 (vx_MQ below (Q0 A) (X0 A) As.toArray s mc ms A) (F0 m 0 ls [])) :
    vx_Met l y ws rm (va_Pc As (wrPx D tys w sz)) (Q0 (va_A w sz)) (X0 (va_A w sz)) mc ms (va_A w sz) := by
  refine vx_ofW (cc := cc) (maxL := maxL) (ret := ret) hy hw ?_
  intro p e s m args below meth c s₁ B hml hxt hv
  obtain ⟨rfl, ⟨hsz, hP, hK, hD0⟩, hE⟩ := hv
  subst hsz
  rw [lg_entry_eq]
  exact body p e s m below meth c ⟨B.exec, B.bytes, B.returns, hml, by rw [← hC]; exact findClass_of_methodNamed B.named, atoms_spec B.pre, B.notSynchronized, hxt⟩ hP hK (va_A w s.heap.size) hE (hD0.self (sz := s.heap.size)) (fun q h => Or.inr h) va_S.rf _ (lv_entry As hlen)
section XX
variable {p : Program} {l : Launch} {e : Env} {R : Room} {s : State} {m : MethodId} {args : Array Value} {below : List Frame} {meth : Method} {c : Code} {H : Heap} {locs : List Loc} {cells slots : Nat} {Q : State → Prop}
variable {cc : ByteArray} {pc : Nat} {ls : Array Slot} {rest : List Value} {D : va_G} {tys : List (ClassId × FieldType)} {A : Nat → Prop} {mc ms : Nat} {XC : String → State → State → Prop} {ok : Bool} {w2 : va_W}
theorem xx_vret (hx : p.tables.exec = Jvm.exec) (hb : c.code = cc) (hr : meth.sig.returnType = none) (hlocks : meth.locks = false) (hok : ok = true) (hP : va_P D vwCl w2 H) (hK : va_K D vwCl tys s) (hD : va_D A w2) (hS : va_S A s.heap H locs) (hc : cells ≤ mc) (hs : slots ≤ ms) (hdg : decode cc pc = .ok (.return_, 1)) : W p l e R s m args below meth c H locs cells slots (vx_MQ below (xQv D tys ok w2 A) XC args s mc ms A) (F0 m pc ls []) :=
  vx_ret (W.widen hc hs (W.vret hx hb hr (fun t ht hW => ⟨⟨(), rfl, hok, by rw [ht]; exact hP, va_K.moved hW.alike hK, hD⟩, hS.F ht⟩) hS.2.2 hdg hlocks))
theorem xx_iret {v w : Int32} (hx : p.tables.exec = Jvm.exec) (hb : c.code = cc) (hr : meth.sig.returnType = some .int) (hlocks : meth.locks = false) (hok : ok = true) (he : v = w) (hP : va_P D vwCl w2 H) (hK : va_K D vwCl tys s) (hD : va_D A w2) (hS : va_S A s.heap H locs) (hc : cells ≤ mc) (hs : slots ≤ ms) (hdg : decode cc pc = .ok (.ireturn, 1)) : W p l e R s m args below meth c H locs cells slots (vx_MQ below (xQi D tys ok w w2 A) XC args s mc ms A) (F0 m pc ls [.int v]) :=
  vx_ret (W.widen hc hs (W.iret hx hb hr (fun t ht hW => ⟨⟨v, (), rfl, ⟨hok, he⟩, by rw [ht]; exact hP, va_K.moved hW.alike hK, hD⟩, hS.F ht⟩) hS.2.2 hdg hlocks))
theorem xx_zret {v : Int32} {B : Bool} (hx : p.tables.exec = Jvm.exec) (hb : c.code = cc) (hr : meth.sig.returnType = some .boolean) (hlocks : meth.locks = false) (hok : ok = true) (he : v = bI B) (hP : va_P D vwCl w2 H) (hK : va_K D vwCl tys s) (hD : va_D A w2) (hS : va_S A s.heap H locs) (hc : cells ≤ mc) (hs : slots ≤ ms) (hdg : decode cc pc = .ok (.ireturn, 1)) : W p l e R s m args below meth c H locs cells slots (vx_MQ below (xQi D tys ok (bI B) w2 A) XC args s mc ms A) (F0 m pc ls [.int v]) :=
  vx_ret (W.widen hc hs (W.zret hx hb hr (by rw [he]; exact bI_narrow B) (fun t ht hW => ⟨⟨v, (), rfl, ⟨hok, he⟩, by rw [ht]; exact hP, va_K.moved hW.alike hK, hD⟩, hS.F ht⟩) hS.2.2 hdg hlocks))
theorem xx_throw {cls text : String} {ik is ic : Nat} {E0 : String} {Qc : Array Value → State → Outcome → State → Prop} (hexec : p.tables.exec = Jvm.exec) (hb : c.code = cc) (hl : l.stackTraces = false)
    (hown : s.vm.findClass RX1 = some m.cls) (hcls : Bundle.fit cls = true) (hk : (Cond.classLink RX1 ik cls).before args s = true) (hini : (Cond.initialized cls).before args s = true) (htx : (is, text) ∈ xTx)
    (hgd : ∀ w ∈ (vx_atS RX1 ic cls xRE).filter goodWord, w.before args s = true) (hbd : ∀ w ∈ (vx_atS RX1 ic cls xRE).filter (fun w => !goodWord w), w ∈ xB)
    (hgood : ∀ w ∈ Cond.classLink RX1 ik cls :: Cond.initialized cls :: vx_atS RX1 ic cls xRE, vx_ot w = true) (hE : xE A s s.heap)
    (hP : va_P D vwCl w2 H) (hK : va_K D vwCl tys s) (hD : va_D A w2) (hS : va_S A s.heap H locs) (hsize : ls.size = c.maxLocals)
    (d0 : decode cc pc = .ok (.new ik, 3)) (d3 : decode cc (pc + 3) = .ok (.dup, 1)) (d4 : decode cc (pc + 4) = .ok (.ldc is, 2)) (d6 : decode cc (pc + 6) = .ok (.invokespecial ic, 3)) (d9 : decode cc (pc + 9) = .ok (.athrow, 1))
    (hxt : ∀ x ∈ c.exceptionTable.toList, False) (hRframes : 5 < R.frames) (hRlocals : (rest.map fun v => v.category).sum + 82 ≤ R.locals) (hRcells : cells + 1 ≤ R.cells) (hRslots : slots + 6 ≤ R.slots) (hlocks : meth.locks = false)
    (hok : ok = false) (he : cls = E0) (hc : cells + 1 ≤ mc) (hs : slots + 6 ≤ ms) :
    W p l e R s m args below meth c H locs cells slots (vx_MQ below Qc (xX D tys ok E0 w2 A) args s mc ms A) (F0 m pc ls rest) := by
  obtain ⟨hW, ⟨f, hf⟩, hU, hN⟩ := hE
  refine vx_throwS (names := xRE) hexec hb hl hown hcls (by decide +kernel) hk hini (hf _ htx) (vx_hat hgd hbd (xW_all hW)) hgood hU hN hS hsize d0 d3 d4 d6 d9 (fun x hx => (hxt x hx).elim) hRframes hRlocals hRcells hRslots hlocks (fun t ht hz hk2 => ?_) hS.2.2 hc hs
  exact ⟨(), trivial, ⟨hok, he, hP.kept (fun k q hq => hk2 q.1 ((hP k q hq).lt)), va_K.moved ht hK, hD⟩, Nat.le_trans hS.1 hz, fun q h1 h2 => (hk2 q (Nat.lt_of_lt_of_le h1 hS.1)).trans (hS.2.1 q h1 h2)⟩
variable {y : MethodName} {bytes : ByteArray} {maxL nL n index mc1 ms1 : Nat} {ret : Option FieldType} {ws : List Cond} {rm : Room} {Ts : List Cond} {own C : String} {b : Addr} {As st0 : List Value} {ws0 w1 : va_W} {ok1 : Bool} {E0 E1 : String}
theorem xx_pre (hE : xE A s s.heap) (hP : va_P D vwCl ws0 H) (hK : va_K D vwCl tys s) (hD : va_D A ws0) (hS : va_S A s.heap H locs) (hA : ∀ q, s.heap.size ≤ q → A q) (U : State) (hU : U.heap = H) (hW : s.WarmedH U.vm) : wrPx D tys ws0 H.size U :=
  ⟨⟨by rw [hU], by rw [hU]; exact hP, va_K.moved hW.alike hK, hD.weaken (fun _ _ _ _ => trivial)⟩, xE_to hW (fun a h1 h2 => by rw [hU]; exact hS.2.1 a h1 h2) (wx_free (cl := vwCl) hD hS hA) hE⟩
/-- a check is called -/
theorem xx_need {Qc : Array Value → State → Outcome → State → Prop} (hE : xE A s s.heap) (F : CallFix p m c cc nL s args Ts own) (hM : vx_Met l y ws rm (va_Pc (.ref b :: As) (wrPx D tys ws0 H.size)) (xQv D tys ok1 ws0 (va_A ws0 H.size)) (xX D tys ok1 E1 ws0 (va_A ws0 H.size)) mc1 ms1 (va_A ws0 H.size)) (cw : CallW R s args own C index y bytes maxL ret ws rm mc1 ms1 n)
    (hP : va_P D vwCl ws0 H) (hK : va_K D vwCl tys s) (hD : va_D A ws0) (hS : va_S A s.heap H locs) (hA : ∀ q, s.heap.size ≤ q → A q) (hxt : ∀ x ∈ c.exceptionTable.toList, False) (hlocks : meth.locks = false)
    (hv : ∃ cell : Cell, H[b]? = some cell ∧ cell.vm.isStatics = false ∧ s.vm.findClass C = some cell.cls) (hn : As.length = n) (hsz : ls.size = nL) (hst : st0 = As.reverse ++ .ref b :: rest) (hW : 2 * (F0 m pc ls st0).monitorRoom + (rest.map fun v => v.category).sum ≤ 8) (hdg : decode cc pc = .ok (.invokevirtual index, 3)) (hf : cells + mc1 ≤ R.cells ∧ slots + ms1 ≤ R.slots)
    (hbad : ok1 = false → ok = false ∧ E1 = E0) (hc : cells + mc1 ≤ mc) (hs : slots + ms1 ≤ ms)
    (kk : ∀ (H1 : Heap) (locs1 : List Loc), ok1 = true → va_P D vwCl ws0 H1 → va_D A ws0 → va_S A s.heap H1 locs1 → W p l e R s m args below meth c H1 locs1 (cells + mc1) (slots + ms1) (vx_MQ below Qc (xX D tys ok E0 ws0 A) args s mc ms A) (F0 m (pc + 3) ls rest)) : W p l e R s m args below meth c H locs cells slots (vx_MQ below Qc (xX D tys ok E0 ws0 A) args s mc ms A) (F0 m pc ls st0) := by
  have hFc := wx_free (cl := vwCl) hD hS hA
  refine vx_callv (vx_runV F hM cw ⟨xBlind, hv, fun U hU hW => ⟨rfl, xx_pre hE hP hK hD hS hA U hU hW⟩⟩ rfl hn hsz hst hW hdg hf) hS (fun q _ h => hFc q h) hFc (fun q _ h => hFc q h) (fun E ce q9 u t H1 locs1 ht hvm _ hB hz1 hk1 hS1 hce hcv hcl => ?_) (fun u t H1 locs1 ht hvm hw hB hz1 hk1 hS1 => ?_)
  · obtain ⟨h1, rfl, hP1, hK1, hD1⟩ := hB
    obtain ⟨h2, rfl⟩ := hbad h1
    rw [ht] at hP1
    refine vx_out (fun x hx => (hxt x hx).elim) hlocks hce hcv hcl (fun t2 ht2 hv2 => ?_) hS1.2.2 hc hs
    exact ⟨(), trivial, ⟨h2, rfl, by rw [ht2]; exact hP1, va_K.moved hv2 hK, hD1.weaken (fun k q _ h => hFc q.1 h)⟩, hS1.F ht2⟩
  · obtain ⟨hP1, hK1, hD1⟩ := hB
    rw [ht] at hP1
    exact kk H1 locs1 hw hP1 (hD1.weaken (fun k q _ h => hFc q.1 h)) hS1
end XX
/-! its world: the moor, its heights, two meshes -/
abbrev wX (cI : ClassId) (o qo : Nat) (hs : Nat → Int32) (fl : Int32) (h qx qy ql qs qc n t : Nat) (xs ys lf sy co : Nat → Int32) (h2 qx2 qy2 ql2 qs2 qc2 n2 t2 : Nat) (xs2 ys2 lf2 sy2 co2 : Nat → Int32) : va_W := (o, .inr (1, [.ref h, .ref h2, .ref qo, .int fl])) :: (qo, .inl (cI, 16, .inl hs)) :: (wM cI h qx qy ql qs qc n t xs ys lf sy co ++ wM cI h2 qx2 qy2 ql2 qs2 qc2 n2 t2 xs2 ys2 lf2 sy2 co2)
