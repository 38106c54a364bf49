/-! the law's own small methods: they catch -/
abbrev gT4 (cI cZ cY cL : ClassId) : List (ClassId × FieldType) := [(cI, .int), (cZ, .boolean), (cY, .array .boolean), (cL, .long)]
theorem gT4_sub {D : va_G} {cI cZ cY cL : ClassId} {U : State} (h : va_K D vwCl (gT4 cI cZ cY cL) U) : va_K D vwCl (gTY cI cZ cY) U := h.sub [0, 1, 2] rfl
def xN (U : State) : Prop := va_Nc xISE xIAE U ∧ va_Nc xIAE xIOB U ∧ va_Nc xISE xIOB U
theorem xN_moved {s U : State} (h9 : s.vm.Alike U.vm) (h : xN s) : xN U := ⟨h.1.moved h9, h.2.1.moved h9, h.2.2.moved h9⟩
abbrev wrPw (D : va_G) (tys : List (ClassId × FieldType)) (w : va_W) (sz : Nat) : State → Prop := fun U => wrP D tys w sz U ∧ xE (va_A w sz) U U.heap ∧ xN U
theorem wBlindN {As : List Value} {D : va_G} {w : va_W} {sz : Nat} {tys : List (ClassId × FieldType)} : FrameBlind (va_Pc As (wrPw D tys w sz)) := fun a U g mk q => ⟨q.1, ⟨q.2.1.1, q.2.1.2.1, va_K.moved (u := U) (U := U.calling g mk a) (Vm.Alike.refl U.vm) q.2.1.2.2.1, q.2.1.2.2.2⟩, ⟨xW_same (s := U) (U := U.calling g mk a) rfl q.2.2.1.1, xS_same (s := U) (U := U.calling g mk a) rfl q.2.2.1.2.1, q.2.2.1.2.2.1.moved (u := U) (U := U.calling g mk a) (Vm.Alike.refl U.vm), q.2.2.1.2.2.2.moved (u := U) (U := U.calling g mk a) (Vm.Alike.refl U.vm)⟩, xN_moved (s := U) (U := U.calling g mk a) (Vm.Alike.refl U.vm) q.2.2.2⟩
/-- what a small method answers: 0, or by which row the throw was caught -/
def x_k (ok : Bool) (E c1 : String) : Int32 := if ok = true then 0 else if E = c1 then 1 else 2
abbrev whQ (D : va_G) (tys : List (ClassId × FieldType)) (ok : Bool) (k : Int32) (wa wb : va_W) (A : Nat → Prop) : Array Value → State → Outcome → State → Prop := va_Qi (fun (r : Int32) (u : Bool) => u = ok ∧ r = k) (fun u t => wrB D tys A (bif u then wa else wb) t) A
abbrev whX : String → State → State → Prop := vx_X (fun _ : Unit => False) (fun _ _ _ => False) (fun _ => False)
theorem wh_start {l : Launch} {y : MethodName} {cc : ByteArray} {maxL : Nat} {ret : Option FieldType} {hh : List (Nat × Nat × Nat × Nat)} {ws ws' : List Cond} {rm : Room} {D : va_G} {tys : List (ClassId × FieldType)} {w : va_W} {sz : Nat} {As : List Value} {mc ms : Nat} {Q0 : (Nat → Prop) → Array Value → State → Outcome → State → Prop} (own : String) (hy : plainName y.cls = true) (hC : y.cls = own) (hw : ws = Cond.codeWith y cc maxL ret hh :: ws') (hlen : (lg_sl As).length ≤ maxL)
    (body : ∀ (p : Program) (e : Env) (s : State) (m : MethodId) (below : List Frame) (meth : Method) (c : Code), (p.tables.exec = Jvm.exec ∧ c.code = cc ∧ meth.sig.returnType = ret ∧ c.maxLocals = maxL ∧ s.vm.findClass own = some m.cls ∧ (∀ w ∈ ws, w.before As.toArray s = true) ∧ meth.locks = false ∧ c.exceptionTable.toList = tableOf hh) → va_P D vwCl w s.heap → va_K D vwCl tys s → ∀ A : Nat → Prop, xE A s s.heap → xN s → va_D A w → (∀ q : Nat, s.heap.size ≤ q → A q) → va_S A s.heap s.heap [] → ∀ ls : Array Slot, lv_has ls maxL (lv_args 0 As) → W p l e rm s m As.toArray below meth c s.heap [] 0 0 (vx_MQ below (Q0 A) whX As.toArray s mc ms A) (F0 m 0 ls [])) :
    vx_Met l y ws rm (va_Pc As (wrPw D tys w sz)) (Q0 (va_A w sz)) whX mc ms (va_A w sz) := by
  refine vx_ofWH (cc := cc) (maxL := maxL) (ret := ret) (hh := hh) hy hw ?_
  intro p e s m args below meth c s₁ B hml hv
  obtain ⟨rfl, ⟨hsz, hP, hK, hD0⟩, hE, hN⟩ := hv
  subst hsz
  rw [lg_entry_eq]
  have hts := atoms_spec B.pre
  exact body p e s m below meth c ⟨B.exec, B.bytes, B.returns, hml, by rw [← hC]; exact findClass_of_methodNamed B.named, hts, B.notSynchronized, vx_table (x := y) B (hts (Cond.codeWith y cc maxL ret hh) (by rw [hw]; exact List.mem_cons_self))⟩ hP hK (va_A w s.heap.size) hE hN (hD0.self (sz := s.heap.size)) (fun q h => Or.inr h) va_S.rf _ (lv_entry As hlen)
section WH
variable {p : Program} {l : Launch} {e : Env} {R : Room} {s : State} {m : MethodId} {args : Array Value} {below : List Frame} {meth : Method} {c : Code} {H : Heap} {locs : List Loc} {cells slots : Nat} {Q : State → Prop}
variable {cc : ByteArray} {pc : Nat} {ls : Array Slot} {rest : List Value} {D : va_G} {tys : List (ClassId × FieldType)} {A : Nat → Prop} {mc ms : Nat} {ok : Bool} {wa wb : va_W} {k : Int32} {XC : String → State → State → Prop}
theorem wh_iret {v : Int32} (u : Bool) (hx : p.tables.exec = Jvm.exec) (hb : c.code = cc) (hr : meth.sig.returnType = some .int) (hlocks : meth.locks = false) (hu : u = ok) (he : v = k) (hP : va_P D vwCl (bif u then wa else wb) H) (hK : va_K D vwCl tys s) (hD : va_D A (bif u then wa else wb)) (hS : va_S A s.heap H locs) (hc : cells ≤ mc) (hs : slots ≤ ms) (hdg : decode cc pc = .ok (.ireturn, 1)) : W p l e R s m args below meth c H locs cells slots (vx_MQ below (whQ D tys ok k wa wb A) XC args s mc ms A) (F0 m pc ls [.int v]) :=
  vx_ret (W.widen hc hs (W.iret hx hb hr (fun t ht hW => ⟨⟨v, u, rfl, ⟨hu, he⟩, by rw [ht]; exact hP, va_K.moved hW.alike hK, hD⟩, hS.F ht⟩) hS.2.2 hdg hlocks))
variable {y : MethodName} {bytes : ByteArray} {maxL nL n index mc1 ms1 : Nat} {ret : Option FieldType} {ws : List Cond} {rm : Room} {Ts : List Cond} {own C : String} {b : Addr} {As st0 : List Value} {ws0 ex w1 : va_W} {ok1 : Bool} {E1 : String} {cI cZ cY cL : ClassId}
theorem wh_ci {v : Int32} (hE : xE A s s.heap) (F : CallFix p m c cc nL s args Ts own) (hM : vx_Met l y ws rm (va_Pc (.ref b :: As) (wrPx D (gTY cI cZ cY) ws0 H.size)) (xQi D (gTY cI cZ cY) ok1 v w1 (va_A ws0 H.size)) (xX D (gTY cI cZ cY) ok1 E1 ws0 (va_A ws0 H.size)) mc1 ms1 (va_A ws0 H.size)) (cw : CallW R s args own C index y bytes maxL ret ws rm mc1 ms1 n)
    (hP : va_P D vwCl (ws0 ++ ex) H) (hK : va_K D vwCl (gT4 cI cZ cY cL) s) (hD : va_D A (ws0 ++ ex)) (hS : va_S A s.heap H locs) (hA : ∀ q, s.heap.size ≤ q → A q)
    (hv : ∃ cell : Cell, H[b]? = some cell ∧ cell.vm.isStatics = false ∧ s.vm.findClass C = some cell.cls) (hn : As.length = n) (hsz : ls.size = nL) (hst : st0 = As.reverse ++ .ref b :: rest) (hW : 2 * (F0 m pc ls st0).monitorRoom + (rest.map fun v => v.category).sum ≤ 8) (hdg : decode cc pc = .ok (.invokevirtual index, 3)) (hf : cells + mc1 ≤ R.cells ∧ slots + ms1 ≤ R.slots)
    (kx : ∀ (ce : Cell) (q9 : Addr) (H1 : Heap) (locs1 : List Loc), ok1 = false → va_P D vwCl (ws0 ++ ex) H1 → va_D A (ws0 ++ ex) → va_S A s.heap H1 locs1 → H1[q9]? = some ce → ce.vm = .none → s.vm.findClass E1 = some ce.cls → vx_W p l e R s m args below meth c H1 locs1 (cells + mc1) (slots + ms1) Q (F0 m pc ls rest) q9)
    (kk : ∀ (H1 : Heap) (locs1 : List Loc), ok1 = true → va_P D vwCl (w1 ++ ex) H1 → va_D A (w1 ++ ex) → va_S A s.heap H1 locs1 → W p l e R s m args below meth c H1 locs1 (cells + mc1) (slots + ms1) Q (F0 m (pc + 3) ls (.int v :: rest))) : W p l e R s m args below meth c H locs cells slots Q (F0 m pc ls st0) := by
  have hFc := wx_free (cl := vwCl) hD.left hS hA
  refine vx_calli (vx_runV F hM cw ⟨xBlind, hv, fun U hU hW => ⟨rfl, xx_pre hE hP.left (gT4_sub hK) hD.left hS hA U hU hW⟩⟩ rfl hn hsz hst hW hdg hf) hS (fun q _ h => hFc q h) hFc (fun q _ h => hFc q h) (fun E ce q9 u t H1 locs1 ht hvm _ hB hz1 hk1 hS1 hce hcv hcl => ?_) (fun r u t H1 locs1 ht hvm hw hB hz1 hk1 hS1 => ?_)
  · obtain ⟨h1, rfl, hP1, hK1, hD1⟩ := hB
    rw [ht] at hP1
    obtain ⟨hP2, hD2⟩ := va_joinE hP hD hk1 hFc hP1 hD1
    exact kx ce q9 H1 locs1 h1 hP2 hD2 hS1 hce hcv hcl
  · obtain ⟨hP1, hK1, hD1⟩ := hB
    rw [ht] at hP1
    obtain ⟨hP2, hD2⟩ := va_joinE hP hD hk1 hFc hP1 hD1
    obtain ⟨h1, h2⟩ := hw
    subst h2
    exact kk H1 locs1 h1 hP2 hD2 hS1
end WH
theorem x_exBd_c {x y z : Int32} : x_exBd x y z = xIAE ∨ x_exBd x y z = xISE := by
  unfold x_exBd; split
  · split
    · exact Or.inr rfl
    · exact Or.inl rfl
  · exact Or.inl rfl
theorem x_exRs_c {n : Nat} {a : Int32} : x_exRs n a = xIOB ∨ x_exRs n a = xIAE := by
  unfold x_exRs; split
  · exact Or.inr rfl
  · exact Or.inl rfl
theorem x_exFx_c {n : Nat} {a b : Int32} : x_exFx n a b = xIOB ∨ x_exFx n a b = xISE := by
  unfold x_exFx; split
  · split
    · exact Or.inr rfl
    · exact Or.inl rfl
  · exact Or.inl rfl
theorem x_exWd_c {x y : Int32} : x_exWd x y = xIAE ∨ x_exWd x y = xISE := by
  unfold x_exWd; split
  · exact Or.inr rfl
  · exact Or.inl rfl
